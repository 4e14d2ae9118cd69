/-! WHAT STATEMENTS DO, by program (wip/tools/refgen.py) -/
section RfE
variable {lim : Nat × Nat} {m p : Nat} {σ σ0 : rS} {b : ah_H}
theorem AI_I {σ : rS} {j k : Nat} {x : Int32} (h : AI σ) (hj : j ≠ 37) : AI (sI σ j k x) := ⟨h.1, h.2.1, h.2.2.1, h.2.2.2.1, fun i hi => by rw [show ia (sI σ j k x) 37 i = ia σ 37 i from up2_nj (fun e => hj e.symm)]; exact h.2.2.2.2 i hi⟩
theorem AI_J {σ : rS} {j k : Nat} {x : Int64} (h : AI σ) : AI (sJ σ j k x) := h
theorem f_setElement {d : Nat} {h : ah_H} {v1 v2 v3 : Int32} (H : RH m σ b h) (h1 : 0 ≤ v1.toInt) (h2 : v1.toInt < 10100) (h3 : 0 ≤ v2.toInt) (h4 : v2.toInt < 64) : wq (vc lim (d + 1) m_Ref_setElement [.inr (.inr (some m)), .inl v1, .inl v2, .inl v3] h) (rV fun h' => ∃ i x, i = (64 * v1.toInt + v2.toInt).toNat ∧ RH m (sI σ 5 i x) b h') := by
  have e1 : ((64 : Int32) * v1).toInt = 64 * v1.toInt := ml_c rfl (by omega) (by omega)
  have e2 : (((64 : Int32) * v1) + v2).toInt = 64 * v1.toInt + v2.toInt := by rw [ad_i (by omega) (by omega), e1]
  refine wq_eq e_Ref_setElement (wq_gR H.1 rfl (rs_I H (by omega) rfl rfl (by omega) (by show _ < (646400 : Int); omega) (fun h' H' => wq_some (rV_i ⟨_, _, ?_, H'⟩))))
  rw [e2]
abbrev stP (m q : Nat) (σ0 : rS) (b : ah_H) : ah_R → Prop := rI fun x h' => (∃ σ', RH m σ' b h' ∧ OKV σ' ∧ sm (QR (2000 + q)) σ0 σ' ∧ AI σ') ∧ (x = 0 ∨ x = 1)
theorem kv_loop {d q : Nat} {v3 t L : Int32} (h0 : 1024 ≤ v3.toInt) (h1 : v3.toInt < 10100) (t0 : 0 ≤ t.toInt) (t1 : t.toInt + L.toInt ≤ 64) : ∀ (M : Nat) (h : ah_H) (σ : rS) (v4 : Int32), (64 - v4.toInt).toNat < M → 0 ≤ v4.toInt → σ.1 43 = t → ia σ 1 (9872 : Int32).toInt.toNat = L → RH m σ b h → OKV σ → sm (QR (2000 + q)) σ0 σ → AI σ → wq (ah_val lim ah_P (d + 2) 105 141 [some (.inr (.inr (some m))), none, none, some (.inl v3), some (.inl v4)] [] h) (stP m q σ0 b) := by
  intro M
  induction M with
  | zero => intros; omega
  | succ M ih =>
    intro h σ v4 hM h4 et el H O G hA
    refine wq_eq q_105_141 (wq_gR H.1 rfl (ra_I H (by omega) rfl rfl (by decide) (by decide) ?_))
    rw [el]
    refine wq_if _ (fun c => ?_) (fun c => ?_)
    · have c := lt_i c
      refine wq_gI H.1 rfl ?_
      rw [et]
      refine wq_at H.1 (wq_cI (v_element H O G (by decide) (by decide) h4 (by omega)) ?_)
      rintro y h4' ⟨rfl, -⟩
      have e1 : (t + v4).toInt = t.toInt + v4.toInt := ad_i (by omega) (by omega)
      have e2 : (v4 + (1 : Int32)).toInt = v4.toInt + 1 := ad_i (by show _ ≤ v4.toInt + 1; omega) (by show v4.toInt + 1 ≤ _; omega)
      refine wq_at H.1 (wq_cV (f_setElement H (by omega) h1 (by omega) (by omega)) ?_)
      rintro h6 ⟨i, x, hi, H6⟩
      have e3 : ia (sI σ 5 i x) 1 (9872 : Int32).toInt.toNat = L := by rw [← el]; exact sI_nj (by decide)
      have G6 : sm (QR (2000 + q)) σ0 (sI σ 5 i x) := sm_I G (QR_5 (by omega) (by omega))
      exact ih h6 (sI σ 5 i x) (v4 + (1 : Int32)) (by omega) (by omega) et e3 H6 (okv_n O (by omega) (by omega)) G6 (AI_I hA (by omega))
    · exact wq_t (Or.inr rfl) (wq_some (rI_i ⟨⟨_, H, O, G, hA⟩, Or.inr rfl⟩))
theorem kv_tail {d q : Nat} {h : ah_H} {v2 s1 : Int32} (H : RH m σ b h) (O : OKV σ) (G : sm (QR 1001) σ0 σ) (hA : AI σ0) (hP : PV σ0) (hv : vN σ0 v2.toInt) (hg : tgP σ0 σ v2.toInt) (hf : fitP σ0 σ v2.toInt) (ho : oB σ0 s1.toInt) (h81 : (ia σ0 8 s1.toInt.toNat).toInt = 81) (h83 : ia σ0 8 v2.toInt.toNat = 83 → s1 = ia σ0 11 v2.toInt.toNat ∧ (ia σ0 9 (ia σ0 12 (ia σ0 11 v2.toInt.toNat).toInt.toNat).toInt.toNat).toInt + (ia σ0 9 ((ia σ0 12 (ia σ0 12 (ia σ0 11 v2.toInt.toNat).toInt.toNat).toInt.toNat).toInt).toNat).toInt ≤ 64) : wq (ah_val lim ah_P (d + 2) 105 75 [some (.inr (.inr (some m))), none, some (.inl v2), none, none] [.inl s1, .inr (.inr (some m))] h) (stP m q σ0 b) := by
  obtain ⟨g0, g1, g2, g3⟩ := hg
  have Gq : sm (QR (2000 + q)) σ0 σ := sm_up1 G (by omega)
  have hA1 := AI_sm G hA
  refine wq_eq q_105_75 (wq_at H.1 (wq_cI (v_where H O G hP ho) ?_))
  rintro y h1 ⟨rfl, y0, y1, y2, y3⟩
  have y2 := y2 h81
  refine wq_gR H.1 rfl (rv_n H G (by omega) rfl rfl (nQ_j (by omega)) (by have := hv.1; omega) (by show _ < (24000 : Int); exact hv.2.1) (wq_if _ (fun c => ?_) (fun c => ?_)))
  · refine wq_gI H.1 rfl (wq_gR H.1 rfl (ra_J H (by omega) rfl (by decide) (by decide) (wq_at H.1 (wq_cV (f_setElement H (by omega) (by omega) g0 g1) ?_))))
    rintro h6 ⟨i, x, hi, H6⟩
    exact wq_t (Or.inr rfl) (wq_some (rI_i ⟨⟨_, H6, okv_n O (by omega) (by omega), sm_I Gq (QR_5 (by omega) (by omega)), AI_I hA1 (by omega)⟩, Or.inr rfl⟩))
  · refine wq_gR H.1 rfl (ra_I H (by omega) rfl rfl (by omega) (by show _ < (10100 : Int); omega) (wq_if _ (fun c2 => ?_) (fun c2 => ?_)))
    · have ol := O 9872 (by omega)
      refine kv_loop (t := σ.1 43) (L := ia σ 1 (9872 : Int32).toInt.toNat) y2 (by omega) g0 ?_ 65 h1 σ 0 (by decide) (by decide) rfl rfl H O Gq hA1
      by_cases c3 : ia σ0 8 v2.toInt.toNat = 83
      · obtain ⟨q1, q2⟩ := h83 c3
        subst q1
        rw [hf c3 (by rw [← y3]; exact c2), g2 c3]
        exact q2
      · rw [g3 c c3]
        have e0 : (0 : Int32).toInt = 0 := rfl
        have : (ia σ 1 (9872 : Int32).toInt.toNat).toInt ≤ 64 := ol.2.2.2
        omega
    · refine wq_gR H.1 rfl (wq_gR H.1 rfl (ra_J H (by omega) rfl (by decide) (by decide) (rs_J H (by omega) rfl (by omega) (by show _ < (10100 : Int); omega) (fun h6 H6 => ?_))))
      exact wq_t (Or.inr rfl) (wq_some (rI_i ⟨⟨_, H6, O, sm_J Gq (by unfold QR; omega), AI_J hA1⟩, Or.inr rfl⟩))
theorem v_waitFor {d q n : Nat} {h : ah_H} {v1 : Int32} (H : RH m σ b h) (O : OKV σ) (G : sm (QR 1001) σ0 σ) (hn : n ≤ 101) (hP : PV σ0) (hA : AI σ0) (hq : (σ0.1 39).toInt.toNat = q) (hs : vN σ0 v1.toInt) (k1 : vN σ0 ((ia σ0 11 v1.toInt.toNat).toInt)) (k2 : vN σ0 ((ia σ0 12 (ia σ0 11 v1.toInt.toNat).toInt.toNat).toInt)) (hT : xT σ0 n ((ia σ0 12 (ia σ0 12 (ia σ0 11 v1.toInt.toNat).toInt.toNat).toInt.toNat).toInt)) : wq (vc lim (d + 212) m_Ref_waitFor [.inr (.inr (some m)), .inl v1] h) (rI fun x h' => (∃ σ', RH m σ' b h' ∧ OKV σ' ∧ sm (QR (2000 + q)) σ0 σ' ∧ AI σ' ∧ (x = 1 → ia σ' 24 q = v1)) ∧ (x = 0 ∨ x = 1)) := by
  obtain ⟨⟨t1, t2⟩, -⟩ := id hT
  obtain ⟨p1, p2, -⟩ := id hP
  refine wq_eq e_Ref_waitFor (wq_gR H.1 rfl (wq_gR H.1 rfl (wq_gR H.1 rfl (rv_n H G (by omega) rfl rfl (nQ_j (by omega)) (by have := hs.1; omega) (by show _ < (24000 : Int); exact hs.2.1) (rv_n H G (by omega) rfl rfl (nQ_j (by omega)) (by have := k1.1; omega) (by show _ < (24000 : Int); exact k1.2.1) (rv_n H G (by omega) rfl rfl (nQ_j (by omega)) (by have := k2.1; omega) (by show _ < (24000 : Int); exact k2.2.1) (wq_at H.1 (wq_cI (v_findTime H O G hn hP (by omega) hT) ?_))))))))
  rintro y h2 ⟨⟨σ2, H2, O2, G2⟩, hy⟩
  have Gq : sm (QR (2000 + q)) σ0 σ2 := sm_up1 G2 (by omega)
  have hA2 := AI_sm G2 hA
  refine wq_if _ (fun c => ?_) (fun c => ?_)
  · exact wq_t (Or.inl rfl) (wq_some (rI_i ⟨⟨_, H2, O2, Gq, hA2, fun h => absurd h (by decide)⟩, Or.inl rfl⟩))
  · refine wq_gR H2.1 rfl (wq_gI H2.1 rfl ?_)
    rw [show σ2.1 39 = σ0.1 39 from G2.1 39 (nQ_f (by omega))]
    refine rs_I H2 (by omega) rfl rfl p1 (by show _ < (64 : Int); omega) (fun h3 H3 => ?_)
    rw [hq] at H3
    have G3 : sm (QR (2000 + q)) σ0 (sI σ2 24 q v1) := sm_I Gq (by unfold QR; omega)
    have O3 : OKV (sI σ2 24 q v1) := okv_n O2 (by omega) (by omega)
    have hA3 : AI (sI σ2 24 q v1) := AI_I hA2 (by omega)
    refine wq_gR H3.1 rfl (wq_gI H3.1 rfl ?_)
    rw [show (sI σ2 24 q v1).1 39 = σ0.1 39 from G2.1 39 (nQ_f (by omega))]
    refine wq_gR H3.1 rfl (rv_n H3 G3 (by omega) rfl rfl (nQ_j (by omega)) (by omega) (by show _ < (24000 : Int); omega) (wq_if _ (fun c2 => ?_) (fun c2 => ?_)))
    · refine rs_J H3 (by omega) rfl p1 (by show _ < (64 : Int); omega) (fun h4 H4 => ?_)
      rw [hq] at H4
      exact wq_t (Or.inr rfl) (wq_some (rI_i ⟨⟨_, H4, O3, sm_J G3 (by unfold QR; omega), AI_J hA3, fun _ => up2_eq⟩, Or.inr rfl⟩))
    · refine wq_gJ H3.1 rfl (rs_J H3 (by omega) rfl p1 (by show _ < (64 : Int); omega) (fun h4 H4 => ?_))
      rw [hq] at H4
      exact wq_t (Or.inr rfl) (wq_some (rI_i ⟨⟨_, H4, O3, sm_J G3 (by unfold QR; omega), AI_J hA3, fun _ => up2_eq⟩, Or.inr rfl⟩))
theorem v_tell {d q : Nat} {h : ah_H} {v1 : Int32} (H : RH m σ b h) (O : OKV σ) (G : sm (QR 1001) σ0 σ)  (hA : AI σ0) : wq (vc lim (d + 2) m_Ref_tell [.inr (.inr (some m)), .inl v1] h) (rI fun x h' => (∃ σ', RH m σ' b h' ∧ OKV σ' ∧ sm (QR (2000 + q)) σ0 σ' ∧ AI σ') ∧ (x = 0 ∨ x = 1)) := by
  have Gq := sm_up1 (q := 2000 + q) G (by omega)
  have t0 := AT_sm G
  obtain ⟨A1, A2, A3, A4, -⟩ := id hA
  refine wq_eq e_Ref_tell ?_
  refine wq_gI H.1 rfl ?_
  rw [t0.1]
  refine wq_if _ (fun c1 => ?_) (fun c1 => ?_)
  · refine wq_at H.1 ?_
    refine wq_cI (v_fail H O (sm_0 (Q := QR 1000))) ?_
    rintro y8 h2 ⟨⟨s4, H5, O6, G7⟩, p3⟩
    have G9 := sm_tr Gq G7 QR_le
    have A10 := AI_sm (sm_up G7 (q := 1001)) (AI_AT hA t0)
    exact wq_t p3.1 (wq_some (rI_i ⟨⟨_, H5, O6, G9, A10⟩, p3.1⟩))
  · refine wq_gR H.1 rfl ?_
    refine wq_gI H.1 rfl ?_
    rw [t0.1]
    refine wq_t (by decide) ?_
    refine rv_sI H O Gq (by omega) (by omega) rfl rfl (by have := ne_i c1; have : (200 : Int32).toInt = 200 := rfl; omega) (by have := ne_i c1; have : (200 : Int32).toInt = 200 := rfl; show _ < (200 : Int); omega) (QR_s (by omega) (by omega) (by omega)) ?_
    intro h11 s12 H13 O14 G15 e16
    have t17 : AT s12 (σ0.1 46) (σ0.1 47) (ia σ0 37) := by rw [e16]; exact AT_I t0 (by omega)
    refine wq_gR H13.1 rfl ?_
    refine wq_gI H13.1 rfl ?_
    rw [t17.1]
    refine wq_gR H13.1 rfl ?_
    refine ra_J H13 (by omega) rfl (by have := ne_i c1; have : (200 : Int32).toInt = 200 := rfl; have : (9872 : Int32).toInt = 9872 := rfl; omega) (by have := ne_i c1; have : (200 : Int32).toInt = 200 := rfl; have : (9872 : Int32).toInt = 9872 := rfl; show _ < (10100 : Int); omega) ?_
    refine rv_sI H13 O14 G15 (by omega) (by omega) rfl rfl (by have := ne_i c1; have : (200 : Int32).toInt = 200 := rfl; omega) (by have := ne_i c1; have : (200 : Int32).toInt = 200 := rfl; show _ < (200 : Int); omega) (QR_s (by omega) (by omega) (by omega)) ?_
    intro h18 s19 H20 O21 G22 e23
    have t24 : AT s19 (σ0.1 46) (σ0.1 47) (ia σ0 37) := by rw [e23]; exact AT_I t17 (by omega)
    refine wq_gR H20.1 rfl ?_
    refine wq_gI H20.1 rfl ?_
    rw [t24.1]
    refine rv_sI H20 O21 G22 (by omega) (by omega) rfl rfl (by have := ne_i c1; have : (200 : Int32).toInt = 200 := rfl; omega) (by have := ne_i c1; have : (200 : Int32).toInt = 200 := rfl; show _ < (200 : Int); omega) (QR_s (by omega) (by omega) (by omega)) ?_
    intro h25 s26 H27 O28 G29 e30
    have t31 : AT s26 (σ0.1 46) (σ0.1 47) (ia σ0 37) := by rw [e30]; exact AT_I t24 (by omega)
    refine wq_gR H27.1 rfl ?_
    refine wq_gI H27.1 rfl ?_
    rw [t31.1]
    refine rv_sI H27 O28 G29 (by omega) (by omega) rfl rfl (by have := ne_i c1; have : (200 : Int32).toInt = 200 := rfl; omega) (by have := ne_i c1; have : (200 : Int32).toInt = 200 := rfl; show _ < (200 : Int); omega) (QR_s (by omega) (by omega) (by omega)) ?_
    intro h32 s33 H34 O35 G36 e37
    have t38 : AT s33 (σ0.1 46) (σ0.1 47) (ia σ0 37) := by rw [e37]; exact AT_I t31 (by omega)
    refine wq_gR H34.1 rfl ?_
    refine wq_gI H34.1 rfl ?_
    rw [t38.1]
    refine rv_sI H34 O35 G36 (by omega) (by omega) rfl rfl (by have := ne_i c1; have : (200 : Int32).toInt = 200 := rfl; omega) (by have := ne_i c1; have : (200 : Int32).toInt = 200 := rfl; show _ < (200 : Int); omega) (QR_s (by omega) (by omega) (by omega)) ?_
    intro h39 s40 H41 O42 G43 e44
    have t45 : AT s40 (σ0.1 46) (σ0.1 47) (ia σ0 37) := by rw [e44]; exact AT_I t38 (by omega)
    refine wq_gI H41.1 rfl ?_
    rw [t45.1]
    refine rv_G H41 O42 G43 (by omega) (by omega) rfl ?_
    intro h46 s47 H48 O49 G50 e51
    have t52 : AT s47 (((σ0.1 46)) + (1 : Int32)) (σ0.1 47) (ia σ0 37) := by rw [e51]; exact AT_46 t45
    refine wq_gR H48.1 rfl ?_
    refine wq_gI H48.1 rfl ?_
    rw [t52.1]
    refine wq_gI H48.1 rfl ?_
    rw [t52.2.1]
    refine rv_sI H48 O49 G50 (by omega) (by omega) rfl rfl (by have := ne_i c1; have : (1 : Int32).toInt = 1 := rfl; have : (200 : Int32).toInt = 200 := rfl; have := bd_i (σ0.1 46); have := bd_i (1 : Int32); have : (((σ0.1 46)) + (1 : Int32)).toInt = (σ0.1 46).toInt + (1 : Int32).toInt := ad_i (by omega) (by omega); omega) (by have := ne_i c1; have : (1 : Int32).toInt = 1 := rfl; have : (200 : Int32).toInt = 200 := rfl; have := bd_i (σ0.1 46); have := bd_i (1 : Int32); have : (((σ0.1 46)) + (1 : Int32)).toInt = (σ0.1 46).toInt + (1 : Int32).toInt := ad_i (by omega) (by omega); show _ < (201 : Int); omega) (QR_s (by omega) (by omega) (by omega)) ?_
    intro h53 s54 H55 O56 G57 e58
    exact wq_t (Or.inr rfl) (wq_some (rI_i ⟨⟨_, H55, O56, G57, (by rw [e58]; exact AI_fin hA t52 (by have := ne_i c1; have : (1 : Int32).toInt = 1 := rfl; have : (200 : Int32).toInt = 200 := rfl; have := bd_i (σ0.1 46); have := bd_i (1 : Int32); have : (((σ0.1 46)) + (1 : Int32)).toInt = (σ0.1 46).toInt + (1 : Int32).toInt := ad_i (by omega) (by omega); omega) (by have := ne_i c1; have : (1 : Int32).toInt = 1 := rfl; have : (200 : Int32).toInt = 200 := rfl; have := bd_i (σ0.1 46); have := bd_i (1 : Int32); have : (((σ0.1 46)) + (1 : Int32)).toInt = (σ0.1 46).toInt + (1 : Int32).toInt := ad_i (by omega) (by omega); omega) (by have := ne_i c1; have : (200 : Int32).toInt = 200 := rfl; omega) (by have := ne_i c1; have : (200 : Int32).toInt = 200 := rfl; omega) rfl rfl)⟩, (Or.inr rfl)⟩))
theorem v_keepValue {d q : Nat} {h : ah_H} {v1 : Int32} (H : RH m σ b h) (O : OKV σ) (G : sm (QR 1001) σ0 σ)  {n : Nat} (hn : n ≤ 101) (hP : PV σ0) (hA : AI σ0) (hs : vN σ0 v1.toInt) (hT : tG σ0 n 81 ((ia σ0 11 v1.toInt.toNat).toInt)) (hx : xE σ0 n ((ia σ0 12 (ia σ0 11 v1.toInt.toNat).toInt.toNat).toInt)) : wq (vc lim (d + 212) m_Ref_keepValue [.inr (.inr (some m)), .inl v1] h) (rI fun x h' => (∃ σ', RH m σ' b h' ∧ OKV σ' ∧ sm (QR (2000 + q)) σ0 σ' ∧ AI σ') ∧ (x = 0 ∨ x = 1)) := by
  obtain ⟨s1, s2⟩ := id hs
  obtain ⟨c1', c2'⟩ := id hT.1
  obtain ⟨x1, x2⟩ := xE_v hx
  refine wq_eq e_Ref_keepValue ?_
  refine wq_gR H.1 rfl ?_
  refine rv_n H G (by omega) rfl rfl (nQ_j (by omega)) (by omega) (by show _ < (24000 : Int); omega) ?_
  refine wq_at H.1 ?_
  refine wq_cI (v_aim H O G hn hP (by omega) (Or.inr rfl) hT) ?_
  rintro y8 h1 ⟨⟨s3, H4, O5, G6, E7⟩, p2⟩
  refine wq_if _ (fun c9 => ?_) (fun c9 => ?_)
  · exact wq_t (Or.inl rfl) (wq_some (rI_i ⟨⟨_, H4, O5, (sm_up1 G6 (by omega)), AI_sm G6 hA⟩, (Or.inl rfl)⟩))
  · refine wq_gR H4.1 rfl ?_
    refine rv_n H4 G6 (by omega) rfl rfl (nQ_j (by omega)) (by omega) (by show _ < (24000 : Int); omega) ?_
    refine wq_at H4.1 ?_
    refine wq_cI (v_find n _ (by omega) H4 O5 (sm_0 (Q := QR 1000)) (PV_SE (SE_of G6) hP) (by rw [xE_SE (SE_of G6)]; exact hx) (by have := ne_i c9; have : (0 : Int32).toInt = 0 := rfl; have : (9872 : Int32).toInt = 9872 := rfl; omega) (by have := ne_i c9; have : (0 : Int32).toInt = 0 := rfl; have : (9872 : Int32).toInt = 9872 := rfl; omega)) ?_
    rintro y16 h10 ⟨⟨s12, H13, O14, G15⟩, p11⟩
    have G17 := sm_tr G6 G15 QR_le
    refine wq_if _ (fun c18 => ?_) (fun c18 => ?_)
    · exact wq_t (Or.inl rfl) (wq_some (rI_i ⟨⟨_, H13, O14, (sm_up1 G17 (by omega)), AI_sm G17 hA⟩, (Or.inl rfl)⟩))
    · refine wq_at H13.1 ?_
      refine wq_cI (v_fits H13 O14 G17 hn hP (Or.inr rfl) hT) ?_
      rintro y26 h19 ⟨⟨s21, H22, O23, G24, E25⟩, p20⟩
      refine wq_if _ (fun c27 => ?_) (fun c27 => ?_)
      · exact wq_t (Or.inl rfl) (wq_some (rI_i ⟨⟨_, H22, O23, (sm_up1 G24 (by omega)), AI_sm G24 hA⟩, (Or.inl rfl)⟩))
      · refine wq_gR H22.1 rfl ?_
        refine rv_n H22 G24 (by omega) rfl rfl (nQ_j (by omega)) (by omega) (by show _ < (24000 : Int); omega) ?_
        refine wq_if _ (fun c28 => ?_) (fun c28 => ?_)
        · obtain ⟨w1, ob, -⟩ := tG82 hT (Or.inr rfl) c28
          refine wq_gR H22.1 rfl ?_
          refine rv_n H22 G24 (by omega) rfl rfl (nQ_j (by omega)) (by have := congrArg Int32.toInt c28; have : (82 : Int32).toInt = 82 := rfl; omega) (by have := congrArg Int32.toInt c28; have : (82 : Int32).toInt = 82 := rfl; show _ < (24000 : Int); omega) ?_
          obtain ⟨hr, hf⟩ := E25 (p20.resolve_left c27)
          obtain ⟨g0, g1, g2, g3⟩ := E7 (p2.resolve_left c9)
          have h43 : s21.1 43 = s3.1 43 := by rw [hr]; exact G15.1 43 (by unfold QR; omega)
          exact kv_tail H22 O23 G24 hA hP hT.1 (by unfold tgP; rw [h43]; exact ⟨g0, g1, g2, g3⟩) hf ob w1 (fun h => absurd (c28.symm.trans h) (by decide))
        · refine wq_gR H22.1 rfl ?_
          refine rv_n H22 G24 (by omega) rfl rfl (nQ_j (by omega)) (by have := ne_i c28; have : (82 : Int32).toInt = 82 := rfl; omega) (by have := ne_i c28; have : (82 : Int32).toInt = 82 := rfl; show _ < (24000 : Int); omega) ?_
          refine wq_if _ (fun c29 => ?_) (fun c29 => ?_)
          · obtain ⟨w1, ob, -, -, -, -, a7⟩ := tG83 hT (Or.inr rfl) c29
            refine wq_gR H22.1 rfl ?_
            refine rv_n H22 G24 (by omega) rfl rfl (nQ_j (by omega)) (by have := ne_i c28; have := congrArg Int32.toInt c29; have : (82 : Int32).toInt = 82 := rfl; have : (83 : Int32).toInt = 83 := rfl; omega) (by have := ne_i c28; have := congrArg Int32.toInt c29; have : (82 : Int32).toInt = 82 := rfl; have : (83 : Int32).toInt = 83 := rfl; show _ < (24000 : Int); omega) ?_
            obtain ⟨hr, hf⟩ := E25 (p20.resolve_left c27)
            obtain ⟨g0, g1, g2, g3⟩ := E7 (p2.resolve_left c9)
            have h43 : s21.1 43 = s3.1 43 := by rw [hr]; exact G15.1 43 (by unfold QR; omega)
            exact kv_tail H22 O23 G24 hA hP hT.1 (by unfold tgP; rw [h43]; exact ⟨g0, g1, g2, g3⟩) hf ob w1 (fun _ => ⟨rfl, a7⟩)
          · obtain ⟨w1, ob⟩ := tGo hT c28 c29
            obtain ⟨hr, hf⟩ := E25 (p20.resolve_left c27)
            obtain ⟨g0, g1, g2, g3⟩ := E7 (p2.resolve_left c9)
            have h43 : s21.1 43 = s3.1 43 := by rw [hr]; exact G15.1 43 (by unfold QR; omega)
            exact kv_tail H22 O23 G24 hA hP hT.1 (by unfold tgP; rw [h43]; exact ⟨g0, g1, g2, g3⟩) hf ob w1 (fun h => absurd h c29)
theorem w_assign {d q : Nat} {v1 : Int32} {v2 : Int32} {n : Nat} (hn : n ≤ 101) (hP : PV σ0) (hA : AI σ0) (hs : vN σ0 v1.toInt) (hT : tG σ0 n 80 v2.toInt) : ∀ (l : Nat) (h1 : ah_H) (σ1 : rS) (v3 : Int32) (v4 : Int32) (v5 : Int32), chL σ0 (xW σ0 n) l v3.toInt → 0 ≤ v4.toInt → v4.toInt + l ≤ 16 → (v5 = 0 ∨ v5 = 1) → RH m σ1 b h1 → OKV σ1 → sm (QR 1001) σ0 σ1 → wq (ah_val lim ah_P (d + 212) 106 70 [some (.inr (.inr (some m))), some (.inl v1), some (.inl v2), some (.inl v3), some (.inl v4), some (.inl v5), none] [] h1) (rI fun x h' => (∃ σ', RH m σ' b h' ∧ OKV σ' ∧ sm (QR (2000 + q)) σ0 σ' ∧ AI σ') ∧ (x = 0 ∨ x = 1)) := by
  intro l
  induction l with
  | zero =>
      intro h1 σ1 v3 v4 v5 hg iv0 iv1 iv2 H O G
      obtain ⟨c1', c2'⟩ := id hT.1
      obtain ⟨A1, A2, A3, A4, -⟩ := id hA
      obtain ⟨s1, s2⟩ := id hs
      have hc : v3 = (-1 : Int32) := Int32.toInt_inj.mp (Eq.trans (show v3.toInt = -1 from hg) li_m1.symm)
      have Gq := sm_up1 (q := 2000 + q) G (by omega)
      have t0 := AT_sm G
      obtain ⟨A1, A2, A3, A4, -⟩ := id hA
      refine wq_eq q_106_70 ?_
      refine wq_t hc ?_
      refine wq_if _ (fun c1 => ?_) (fun c1 => ?_)
      · refine wq_at H.1 ?_
        refine wq_cI (v_fail H O (sm_0 (Q := QR 1000))) ?_
        rintro y8 h2 ⟨⟨s4, H5, O6, G7⟩, p3⟩
        have G9 := sm_tr Gq G7 QR_le
        have A10 := AI_sm (sm_up G7 (q := 1001)) (AI_AT hA t0)
        exact wq_t p3.1 (wq_some (rI_i ⟨⟨_, H5, O6, G9, A10⟩, p3.1⟩))
      · refine wq_gI H.1 rfl ?_
        rw [t0.1]
        refine wq_if _ (fun c11 => ?_) (fun c11 => ?_)
        · refine wq_at H.1 ?_
          refine wq_cI (v_fail H O (sm_0 (Q := QR 1000))) ?_
          rintro y18 h12 ⟨⟨s14, H15, O16, G17⟩, p13⟩
          have G19 := sm_tr Gq G17 QR_le
          have A20 := AI_sm (sm_up G17 (q := 1001)) (AI_AT hA t0)
          exact wq_t p13.1 (wq_some (rI_i ⟨⟨_, H15, O16, G19, A20⟩, p13.1⟩))
        · refine wq_gI H.1 rfl ?_
          rw [t0.2.1]
          refine wq_if _ (fun c21 => ?_) (fun c21 => ?_)
          · refine wq_gR H.1 rfl ?_
            refine rv_n H Gq (by omega) rfl rfl (nQ_j (by omega)) (by omega) (by show _ < (24000 : Int); omega) ?_
            refine wq_if _ (fun c22 => ?_) (fun c22 => ?_)
            · obtain ⟨-, ob, xa⟩ := tG82 hT (Or.inl rfl) c22
              obtain ⟨⟨a1, a2⟩, -⟩ := id ob
              refine wq_gR H.1 rfl ?_
              refine rv_n H Gq (by omega) rfl rfl (nQ_j (by omega)) (by have := congrArg Int32.toInt c22; have : (82 : Int32).toInt = 82 := rfl; omega) (by have := congrArg Int32.toInt c22; have : (82 : Int32).toInt = 82 := rfl; show _ < (24000 : Int); omega) ?_
              refine wq_eq q_106_300 ?_
              refine wq_at H.1 ?_
              refine wq_cI (v_where H O Gq hP ob) ?_
              rintro y25 h23 ⟨rfl, p24⟩
              obtain ⟨q26, q27, q28, q29⟩ := p24
              refine wq_gR H.1 rfl ?_
              refine wq_gI H.1 rfl ?_
              rw [t0.1]
              refine wq_t (by decide) ?_
              refine rv_sI H O Gq (by omega) (by omega) rfl rfl (by have := ne_i c1; have := ne_i c11; have := le_i c21; have := congrArg Int32.toInt c22; have : (0 : Int32).toInt = 0 := rfl; have : (200 : Int32).toInt = 200 := rfl; have : (500 : Int32).toInt = 500 := rfl; have : (82 : Int32).toInt = 82 := rfl; have := bd_i (σ0.1 47); have := bd_i v4; have : (((σ0.1 47)) + v4).toInt = (σ0.1 47).toInt + v4.toInt := ad_i (by omega) (by omega); omega) (by have := ne_i c1; have := ne_i c11; have := le_i c21; have := congrArg Int32.toInt c22; have : (0 : Int32).toInt = 0 := rfl; have : (200 : Int32).toInt = 200 := rfl; have : (500 : Int32).toInt = 500 := rfl; have : (82 : Int32).toInt = 82 := rfl; have := bd_i (σ0.1 47); have := bd_i v4; have : (((σ0.1 47)) + v4).toInt = (σ0.1 47).toInt + v4.toInt := ad_i (by omega) (by omega); show _ < (200 : Int); omega) (QR_s (by omega) (by omega) (by omega)) ?_
              intro h30 s31 H32 O33 G34 e35
              have t36 : AT s31 (σ0.1 46) (σ0.1 47) (ia σ0 37) := by rw [e35]; exact AT_I t0 (by omega)
              refine wq_gR H32.1 rfl ?_
              refine wq_gI H32.1 rfl ?_
              rw [t36.1]
              refine rv_sI H32 O33 G34 (by omega) (by omega) rfl rfl (by have := ne_i c1; have := ne_i c11; have := le_i c21; have := congrArg Int32.toInt c22; have : (0 : Int32).toInt = 0 := rfl; have : (200 : Int32).toInt = 200 := rfl; have : (500 : Int32).toInt = 500 := rfl; have : (82 : Int32).toInt = 82 := rfl; have := bd_i (σ0.1 47); have := bd_i v4; have : (((σ0.1 47)) + v4).toInt = (σ0.1 47).toInt + v4.toInt := ad_i (by omega) (by omega); omega) (by have := ne_i c1; have := ne_i c11; have := le_i c21; have := congrArg Int32.toInt c22; have : (0 : Int32).toInt = 0 := rfl; have : (200 : Int32).toInt = 200 := rfl; have : (500 : Int32).toInt = 500 := rfl; have : (82 : Int32).toInt = 82 := rfl; have := bd_i (σ0.1 47); have := bd_i v4; have : (((σ0.1 47)) + v4).toInt = (σ0.1 47).toInt + v4.toInt := ad_i (by omega) (by omega); show _ < (200 : Int); omega) (QR_s (by omega) (by omega) (by omega)) ?_
              intro h37 s38 H39 O40 G41 e42
              have t43 : AT s38 (σ0.1 46) (σ0.1 47) (ia σ0 37) := by rw [e42]; exact AT_I t36 (by omega)
              refine wq_gR H39.1 rfl ?_
              refine wq_gI H39.1 rfl ?_
              rw [t43.1]
              refine wq_gI H39.1 rfl ?_
              refine rv_sI H39 O40 G41 (by omega) (by omega) rfl rfl (by have := ne_i c1; have := ne_i c11; have := le_i c21; have := congrArg Int32.toInt c22; have : (0 : Int32).toInt = 0 := rfl; have : (200 : Int32).toInt = 200 := rfl; have : (500 : Int32).toInt = 500 := rfl; have : (82 : Int32).toInt = 82 := rfl; have := bd_i (σ0.1 47); have := bd_i v4; have : (((σ0.1 47)) + v4).toInt = (σ0.1 47).toInt + v4.toInt := ad_i (by omega) (by omega); omega) (by have := ne_i c1; have := ne_i c11; have := le_i c21; have := congrArg Int32.toInt c22; have : (0 : Int32).toInt = 0 := rfl; have : (200 : Int32).toInt = 200 := rfl; have : (500 : Int32).toInt = 500 := rfl; have : (82 : Int32).toInt = 82 := rfl; have := bd_i (σ0.1 47); have := bd_i v4; have : (((σ0.1 47)) + v4).toInt = (σ0.1 47).toInt + v4.toInt := ad_i (by omega) (by omega); show _ < (200 : Int); omega) (QR_s (by omega) (by omega) (by omega)) ?_
              intro h44 s45 H46 O47 G48 e49
              have t50 : AT s45 (σ0.1 46) (σ0.1 47) (ia σ0 37) := by rw [e49]; exact AT_I t43 (by omega)
              refine wq_gR H46.1 rfl ?_
              refine wq_gI H46.1 rfl ?_
              rw [t50.1]
              refine wq_gR H46.1 rfl ?_
              refine rv_n H46 G48 (by omega) rfl rfl (nQ_j (by omega)) (by have := congrArg Int32.toInt c22; have : (82 : Int32).toInt = 82 := rfl; omega) (by have := congrArg Int32.toInt c22; have : (82 : Int32).toInt = 82 := rfl; show _ < (24000 : Int); omega) ?_
              refine wq_t c22 ?_
              refine wq_eq q_106_419 ?_
              refine rv_sI H46 O47 G48 (by omega) (by omega) rfl rfl (by have := ne_i c1; have := ne_i c11; have := le_i c21; have := congrArg Int32.toInt c22; have : (0 : Int32).toInt = 0 := rfl; have : (200 : Int32).toInt = 200 := rfl; have : (500 : Int32).toInt = 500 := rfl; have : (82 : Int32).toInt = 82 := rfl; have := bd_i (σ0.1 47); have := bd_i v4; have : (((σ0.1 47)) + v4).toInt = (σ0.1 47).toInt + v4.toInt := ad_i (by omega) (by omega); omega) (by have := ne_i c1; have := ne_i c11; have := le_i c21; have := congrArg Int32.toInt c22; have : (0 : Int32).toInt = 0 := rfl; have : (200 : Int32).toInt = 200 := rfl; have : (500 : Int32).toInt = 500 := rfl; have : (82 : Int32).toInt = 82 := rfl; have := bd_i (σ0.1 47); have := bd_i v4; have : (((σ0.1 47)) + v4).toInt = (σ0.1 47).toInt + v4.toInt := ad_i (by omega) (by omega); show _ < (200 : Int); omega) (QR_s (by omega) (by omega) (by omega)) ?_
              intro h51 s52 H53 O54 G55 e56
              have t57 : AT s52 (σ0.1 46) (σ0.1 47) (ia σ0 37) := by rw [e56]; exact AT_I t50 (by omega)
              refine wq_gR H53.1 rfl ?_
              refine wq_gI H53.1 rfl ?_
              rw [t57.1]
              refine wq_gR H53.1 rfl ?_
              refine rv_n H53 G55 (by omega) rfl rfl (nQ_j (by omega)) (by omega) (by show _ < (24000 : Int); omega) ?_
              refine rv_sI H53 O54 G55 (by omega) (by omega) rfl rfl (by have := ne_i c1; have := ne_i c11; have := le_i c21; have := congrArg Int32.toInt c22; have : (0 : Int32).toInt = 0 := rfl; have : (200 : Int32).toInt = 200 := rfl; have : (500 : Int32).toInt = 500 := rfl; have : (82 : Int32).toInt = 82 := rfl; have := bd_i (σ0.1 47); have := bd_i v4; have : (((σ0.1 47)) + v4).toInt = (σ0.1 47).toInt + v4.toInt := ad_i (by omega) (by omega); omega) (by have := ne_i c1; have := ne_i c11; have := le_i c21; have := congrArg Int32.toInt c22; have : (0 : Int32).toInt = 0 := rfl; have : (200 : Int32).toInt = 200 := rfl; have : (500 : Int32).toInt = 500 := rfl; have : (82 : Int32).toInt = 82 := rfl; have := bd_i (σ0.1 47); have := bd_i v4; have : (((σ0.1 47)) + v4).toInt = (σ0.1 47).toInt + v4.toInt := ad_i (by omega) (by omega); show _ < (200 : Int); omega) (QR_s (by omega) (by omega) (by omega)) ?_
              intro h58 s59 H60 O61 G62 e63
              have t64 : AT s59 (σ0.1 46) (σ0.1 47) (ia σ0 37) := by rw [e63]; exact AT_I t57 (by omega)
              refine wq_gR H60.1 rfl ?_
              refine wq_gI H60.1 rfl ?_
              rw [t64.1]
              refine wq_gJ H60.1 rfl ?_
              refine rv_sJ H60 O61 G62 (by omega) rfl (by have := ne_i c1; have := ne_i c11; have := le_i c21; have := congrArg Int32.toInt c22; have : (0 : Int32).toInt = 0 := rfl; have : (200 : Int32).toInt = 200 := rfl; have : (500 : Int32).toInt = 500 := rfl; have : (82 : Int32).toInt = 82 := rfl; have := bd_i (σ0.1 47); have := bd_i v4; have : (((σ0.1 47)) + v4).toInt = (σ0.1 47).toInt + v4.toInt := ad_i (by omega) (by omega); omega) (by have := ne_i c1; have := ne_i c11; have := le_i c21; have := congrArg Int32.toInt c22; have : (0 : Int32).toInt = 0 := rfl; have : (200 : Int32).toInt = 200 := rfl; have : (500 : Int32).toInt = 500 := rfl; have : (82 : Int32).toInt = 82 := rfl; have := bd_i (σ0.1 47); have := bd_i v4; have : (((σ0.1 47)) + v4).toInt = (σ0.1 47).toInt + v4.toInt := ad_i (by omega) (by omega); show _ < (200 : Int); omega) (QR_s (by omega) (by omega) (by omega)) ?_
              intro h65 s66 H67 O68 G69 e70
              have t71 : AT s66 (σ0.1 46) (σ0.1 47) (ia σ0 37) := by rw [e70]; exact AT_J t64
              refine wq_gI H67.1 rfl ?_
              rw [t71.1]
              refine rv_G H67 O68 G69 (by omega) (by omega) rfl ?_
              intro h72 s73 H74 O75 G76 e77
              have t78 : AT s73 (((σ0.1 46)) + (1 : Int32)) (σ0.1 47) (ia σ0 37) := by rw [e77]; exact AT_46 t71
              refine wq_gI H74.1 rfl ?_
              rw [t78.2.1]
              refine rv_G H74 O75 G76 (by omega) (by omega) rfl ?_
              intro h79 s80 H81 O82 G83 e84
              have t85 : AT s80 (((σ0.1 46)) + (1 : Int32)) (((σ0.1 47)) + v4) (ia σ0 37) := by rw [e84]; exact AT_47 t78
              refine wq_gR H81.1 rfl ?_
              refine wq_gI H81.1 rfl ?_
              rw [t85.1]
              refine wq_gI H81.1 rfl ?_
              rw [t85.2.1]
              refine rv_sI H81 O82 G83 (by omega) (by omega) rfl rfl (by have := ne_i c1; have := ne_i c11; have := le_i c21; have := congrArg Int32.toInt c22; have : (0 : Int32).toInt = 0 := rfl; have : (1 : Int32).toInt = 1 := rfl; have : (200 : Int32).toInt = 200 := rfl; have : (500 : Int32).toInt = 500 := rfl; have : (82 : Int32).toInt = 82 := rfl; have := bd_i (σ0.1 47); have := bd_i v4; have : (((σ0.1 47)) + v4).toInt = (σ0.1 47).toInt + v4.toInt := ad_i (by omega) (by omega); have := bd_i (σ0.1 46); have := bd_i (1 : Int32); have : (((σ0.1 46)) + (1 : Int32)).toInt = (σ0.1 46).toInt + (1 : Int32).toInt := ad_i (by omega) (by omega); omega) (by have := ne_i c1; have := ne_i c11; have := le_i c21; have := congrArg Int32.toInt c22; have : (0 : Int32).toInt = 0 := rfl; have : (1 : Int32).toInt = 1 := rfl; have : (200 : Int32).toInt = 200 := rfl; have : (500 : Int32).toInt = 500 := rfl; have : (82 : Int32).toInt = 82 := rfl; have := bd_i (σ0.1 47); have := bd_i v4; have : (((σ0.1 47)) + v4).toInt = (σ0.1 47).toInt + v4.toInt := ad_i (by omega) (by omega); have := bd_i (σ0.1 46); have := bd_i (1 : Int32); have : (((σ0.1 46)) + (1 : Int32)).toInt = (σ0.1 46).toInt + (1 : Int32).toInt := ad_i (by omega) (by omega); show _ < (201 : Int); omega) (QR_s (by omega) (by omega) (by omega)) ?_
              intro h86 s87 H88 O89 G90 e91
              exact wq_t (Or.inr rfl) (wq_some (rI_i ⟨⟨_, H88, O89, G90, (by rw [e91]; exact AI_fin hA t85 (by have := ne_i c1; have := ne_i c11; have := le_i c21; have := congrArg Int32.toInt c22; have : (0 : Int32).toInt = 0 := rfl; have : (1 : Int32).toInt = 1 := rfl; have : (200 : Int32).toInt = 200 := rfl; have : (500 : Int32).toInt = 500 := rfl; have : (82 : Int32).toInt = 82 := rfl; have := bd_i (σ0.1 47); have := bd_i v4; have : (((σ0.1 47)) + v4).toInt = (σ0.1 47).toInt + v4.toInt := ad_i (by omega) (by omega); have := bd_i (σ0.1 46); have := bd_i (1 : Int32); have : (((σ0.1 46)) + (1 : Int32)).toInt = (σ0.1 46).toInt + (1 : Int32).toInt := ad_i (by omega) (by omega); omega) (by have := ne_i c1; have := ne_i c11; have := le_i c21; have := congrArg Int32.toInt c22; have : (0 : Int32).toInt = 0 := rfl; have : (1 : Int32).toInt = 1 := rfl; have : (200 : Int32).toInt = 200 := rfl; have : (500 : Int32).toInt = 500 := rfl; have : (82 : Int32).toInt = 82 := rfl; have := bd_i (σ0.1 47); have := bd_i v4; have : (((σ0.1 47)) + v4).toInt = (σ0.1 47).toInt + v4.toInt := ad_i (by omega) (by omega); have := bd_i (σ0.1 46); have := bd_i (1 : Int32); have : (((σ0.1 46)) + (1 : Int32)).toInt = (σ0.1 46).toInt + (1 : Int32).toInt := ad_i (by omega) (by omega); omega) (by have := le_i c21; have : (500 : Int32).toInt = 500 := rfl; have := bd_i (σ0.1 47); have := bd_i v4; have : (((σ0.1 47)) + v4).toInt = (σ0.1 47).toInt + v4.toInt := ad_i (by omega) (by omega); omega) (by have := le_i c21; have : (500 : Int32).toInt = 500 := rfl; have := bd_i (σ0.1 47); have := bd_i v4; have : (((σ0.1 47)) + v4).toInt = (σ0.1 47).toInt + v4.toInt := ad_i (by omega) (by omega); omega) rfl rfl)⟩, (Or.inr rfl)⟩))
            · refine wq_gR H.1 rfl ?_
              refine rv_n H Gq (by omega) rfl rfl (nQ_j (by omega)) (by have := ne_i c22; have : (82 : Int32).toInt = 82 := rfl; omega) (by have := ne_i c22; have : (82 : Int32).toInt = 82 := rfl; show _ < (24000 : Int); omega) ?_
              refine wq_if _ (fun c92 => ?_) (fun c92 => ?_)
              · obtain ⟨-, ob, ⟨a3, a4⟩, ⟨a8, a9⟩, a5, a6, a7⟩ := tG83 hT (Or.inl rfl) c92
                obtain ⟨⟨a1, a2⟩, -⟩ := id ob
                refine wq_gR H.1 rfl ?_
                refine rv_n H Gq (by omega) rfl rfl (nQ_j (by omega)) (by have := ne_i c22; have := congrArg Int32.toInt c92; have : (82 : Int32).toInt = 82 := rfl; have : (83 : Int32).toInt = 83 := rfl; omega) (by have := ne_i c22; have := congrArg Int32.toInt c92; have : (82 : Int32).toInt = 82 := rfl; have : (83 : Int32).toInt = 83 := rfl; show _ < (24000 : Int); omega) ?_
                refine wq_eq q_106_300 ?_
                refine wq_at H.1 ?_
                refine wq_cI (v_where H O Gq hP ob) ?_
                rintro y95 h93 ⟨rfl, p94⟩
                obtain ⟨q96, q97, q98, q99⟩ := p94
                refine wq_gR H.1 rfl ?_
                refine wq_gI H.1 rfl ?_
                rw [t0.1]
                refine wq_t (by decide) ?_
                refine rv_sI H O Gq (by omega) (by omega) rfl rfl (by have := ne_i c1; have := ne_i c11; have := le_i c21; have := ne_i c22; have := congrArg Int32.toInt c92; have : (0 : Int32).toInt = 0 := rfl; have : (200 : Int32).toInt = 200 := rfl; have : (500 : Int32).toInt = 500 := rfl; have : (82 : Int32).toInt = 82 := rfl; have : (83 : Int32).toInt = 83 := rfl; have := bd_i (σ0.1 47); have := bd_i v4; have : (((σ0.1 47)) + v4).toInt = (σ0.1 47).toInt + v4.toInt := ad_i (by omega) (by omega); omega) (by have := ne_i c1; have := ne_i c11; have := le_i c21; have := ne_i c22; have := congrArg Int32.toInt c92; have : (0 : Int32).toInt = 0 := rfl; have : (200 : Int32).toInt = 200 := rfl; have : (500 : Int32).toInt = 500 := rfl; have : (82 : Int32).toInt = 82 := rfl; have : (83 : Int32).toInt = 83 := rfl; have := bd_i (σ0.1 47); have := bd_i v4; have : (((σ0.1 47)) + v4).toInt = (σ0.1 47).toInt + v4.toInt := ad_i (by omega) (by omega); show _ < (200 : Int); omega) (QR_s (by omega) (by omega) (by omega)) ?_
                intro h100 s101 H102 O103 G104 e105
                have t106 : AT s101 (σ0.1 46) (σ0.1 47) (ia σ0 37) := by rw [e105]; exact AT_I t0 (by omega)
                refine wq_gR H102.1 rfl ?_
                refine wq_gI H102.1 rfl ?_
                rw [t106.1]
                refine rv_sI H102 O103 G104 (by omega) (by omega) rfl rfl (by have := ne_i c1; have := ne_i c11; have := le_i c21; have := ne_i c22; have := congrArg Int32.toInt c92; have : (0 : Int32).toInt = 0 := rfl; have : (200 : Int32).toInt = 200 := rfl; have : (500 : Int32).toInt = 500 := rfl; have : (82 : Int32).toInt = 82 := rfl; have : (83 : Int32).toInt = 83 := rfl; have := bd_i (σ0.1 47); have := bd_i v4; have : (((σ0.1 47)) + v4).toInt = (σ0.1 47).toInt + v4.toInt := ad_i (by omega) (by omega); omega) (by have := ne_i c1; have := ne_i c11; have := le_i c21; have := ne_i c22; have := congrArg Int32.toInt c92; have : (0 : Int32).toInt = 0 := rfl; have : (200 : Int32).toInt = 200 := rfl; have : (500 : Int32).toInt = 500 := rfl; have : (82 : Int32).toInt = 82 := rfl; have : (83 : Int32).toInt = 83 := rfl; have := bd_i (σ0.1 47); have := bd_i v4; have : (((σ0.1 47)) + v4).toInt = (σ0.1 47).toInt + v4.toInt := ad_i (by omega) (by omega); show _ < (200 : Int); omega) (QR_s (by omega) (by omega) (by omega)) ?_
                intro h107 s108 H109 O110 G111 e112
                have t113 : AT s108 (σ0.1 46) (σ0.1 47) (ia σ0 37) := by rw [e112]; exact AT_I t106 (by omega)
                refine wq_gR H109.1 rfl ?_
                refine wq_gI H109.1 rfl ?_
                rw [t113.1]
                refine wq_gI H109.1 rfl ?_
                refine rv_sI H109 O110 G111 (by omega) (by omega) rfl rfl (by have := ne_i c1; have := ne_i c11; have := le_i c21; have := ne_i c22; have := congrArg Int32.toInt c92; have : (0 : Int32).toInt = 0 := rfl; have : (200 : Int32).toInt = 200 := rfl; have : (500 : Int32).toInt = 500 := rfl; have : (82 : Int32).toInt = 82 := rfl; have : (83 : Int32).toInt = 83 := rfl; have := bd_i (σ0.1 47); have := bd_i v4; have : (((σ0.1 47)) + v4).toInt = (σ0.1 47).toInt + v4.toInt := ad_i (by omega) (by omega); omega) (by have := ne_i c1; have := ne_i c11; have := le_i c21; have := ne_i c22; have := congrArg Int32.toInt c92; have : (0 : Int32).toInt = 0 := rfl; have : (200 : Int32).toInt = 200 := rfl; have : (500 : Int32).toInt = 500 := rfl; have : (82 : Int32).toInt = 82 := rfl; have : (83 : Int32).toInt = 83 := rfl; have := bd_i (σ0.1 47); have := bd_i v4; have : (((σ0.1 47)) + v4).toInt = (σ0.1 47).toInt + v4.toInt := ad_i (by omega) (by omega); show _ < (200 : Int); omega) (QR_s (by omega) (by omega) (by omega)) ?_
                intro h114 s115 H116 O117 G118 e119
                have t120 : AT s115 (σ0.1 46) (σ0.1 47) (ia σ0 37) := by rw [e119]; exact AT_I t113 (by omega)
                refine wq_gR H116.1 rfl ?_
                refine wq_gI H116.1 rfl ?_
                rw [t120.1]
                refine wq_gR H116.1 rfl ?_
                refine rv_n H116 G118 (by omega) rfl rfl (nQ_j (by omega)) (by have := ne_i c22; have := congrArg Int32.toInt c92; have : (82 : Int32).toInt = 82 := rfl; have : (83 : Int32).toInt = 83 := rfl; omega) (by have := ne_i c22; have := congrArg Int32.toInt c92; have : (82 : Int32).toInt = 82 := rfl; have : (83 : Int32).toInt = 83 := rfl; show _ < (24000 : Int); omega) ?_
                refine wq_f c22 ?_
                refine wq_gR H116.1 rfl ?_
                refine rv_n H116 G118 (by omega) rfl rfl (nQ_j (by omega)) (by have := ne_i c22; have := congrArg Int32.toInt c92; have : (82 : Int32).toInt = 82 := rfl; have : (83 : Int32).toInt = 83 := rfl; omega) (by have := ne_i c22; have := congrArg Int32.toInt c92; have : (82 : Int32).toInt = 82 := rfl; have : (83 : Int32).toInt = 83 := rfl; show _ < (24000 : Int); omega) ?_
                refine wq_t c92 ?_
                refine wq_gR H116.1 rfl ?_
                refine wq_gR H116.1 rfl ?_
                refine wq_gR H116.1 rfl ?_
                refine wq_gR H116.1 rfl ?_
                refine rv_n H116 G118 (by omega) rfl rfl (nQ_j (by omega)) (by have := ne_i c22; have := congrArg Int32.toInt c92; have : (82 : Int32).toInt = 82 := rfl; have : (83 : Int32).toInt = 83 := rfl; omega) (by have := ne_i c22; have := congrArg Int32.toInt c92; have : (82 : Int32).toInt = 82 := rfl; have : (83 : Int32).toInt = 83 := rfl; show _ < (24000 : Int); omega) ?_
                refine rv_n H116 G118 (by omega) rfl rfl (nQ_j (by omega)) (by have := ne_i c22; have := congrArg Int32.toInt c92; have : (82 : Int32).toInt = 82 := rfl; have : (83 : Int32).toInt = 83 := rfl; omega) (by have := ne_i c22; have := congrArg Int32.toInt c92; have : (82 : Int32).toInt = 82 := rfl; have : (83 : Int32).toInt = 83 := rfl; show _ < (24000 : Int); omega) ?_
                refine rv_n H116 G118 (by omega) rfl rfl (nQ_j (by omega)) (by have := ne_i c22; have := congrArg Int32.toInt c92; have : (82 : Int32).toInt = 82 := rfl; have : (83 : Int32).toInt = 83 := rfl; omega) (by have := ne_i c22; have := congrArg Int32.toInt c92; have : (82 : Int32).toInt = 82 := rfl; have : (83 : Int32).toInt = 83 := rfl; show _ < (24000 : Int); omega) ?_
                refine rv_n H116 G118 (by omega) rfl rfl (nQ_j (by omega)) (by have := ne_i c22; have := congrArg Int32.toInt c92; have : (82 : Int32).toInt = 82 := rfl; have : (83 : Int32).toInt = 83 := rfl; omega) (by have := ne_i c22; have := congrArg Int32.toInt c92; have : (82 : Int32).toInt = 82 := rfl; have : (83 : Int32).toInt = 83 := rfl; show _ < (24000 : Int); omega) ?_
                refine wq_eq q_106_419 ?_
                refine rv_sI H116 O117 G118 (by omega) (by omega) rfl rfl (by have := ne_i c1; have := ne_i c11; have := le_i c21; have := ne_i c22; have := congrArg Int32.toInt c92; have : (0 : Int32).toInt = 0 := rfl; have : (200 : Int32).toInt = 200 := rfl; have : (500 : Int32).toInt = 500 := rfl; have : (82 : Int32).toInt = 82 := rfl; have : (83 : Int32).toInt = 83 := rfl; have := bd_i (σ0.1 47); have := bd_i v4; have : (((σ0.1 47)) + v4).toInt = (σ0.1 47).toInt + v4.toInt := ad_i (by omega) (by omega); omega) (by have := ne_i c1; have := ne_i c11; have := le_i c21; have := ne_i c22; have := congrArg Int32.toInt c92; have : (0 : Int32).toInt = 0 := rfl; have : (200 : Int32).toInt = 200 := rfl; have : (500 : Int32).toInt = 500 := rfl; have : (82 : Int32).toInt = 82 := rfl; have : (83 : Int32).toInt = 83 := rfl; have := bd_i (σ0.1 47); have := bd_i v4; have : (((σ0.1 47)) + v4).toInt = (σ0.1 47).toInt + v4.toInt := ad_i (by omega) (by omega); show _ < (200 : Int); omega) (QR_s (by omega) (by omega) (by omega)) ?_
                intro h121 s122 H123 O124 G125 e126
                have t127 : AT s122 (σ0.1 46) (σ0.1 47) (ia σ0 37) := by rw [e126]; exact AT_I t120 (by omega)
                refine wq_gR H123.1 rfl ?_
                refine wq_gI H123.1 rfl ?_
                rw [t127.1]
                refine wq_gR H123.1 rfl ?_
                refine rv_n H123 G125 (by omega) rfl rfl (nQ_j (by omega)) (by omega) (by show _ < (24000 : Int); omega) ?_
                refine rv_sI H123 O124 G125 (by omega) (by omega) rfl rfl (by have := ne_i c1; have := ne_i c11; have := le_i c21; have := ne_i c22; have := congrArg Int32.toInt c92; have : (0 : Int32).toInt = 0 := rfl; have : (200 : Int32).toInt = 200 := rfl; have : (500 : Int32).toInt = 500 := rfl; have : (82 : Int32).toInt = 82 := rfl; have : (83 : Int32).toInt = 83 := rfl; have := bd_i (σ0.1 47); have := bd_i v4; have : (((σ0.1 47)) + v4).toInt = (σ0.1 47).toInt + v4.toInt := ad_i (by omega) (by omega); omega) (by have := ne_i c1; have := ne_i c11; have := le_i c21; have := ne_i c22; have := congrArg Int32.toInt c92; have : (0 : Int32).toInt = 0 := rfl; have : (200 : Int32).toInt = 200 := rfl; have : (500 : Int32).toInt = 500 := rfl; have : (82 : Int32).toInt = 82 := rfl; have : (83 : Int32).toInt = 83 := rfl; have := bd_i (σ0.1 47); have := bd_i v4; have : (((σ0.1 47)) + v4).toInt = (σ0.1 47).toInt + v4.toInt := ad_i (by omega) (by omega); show _ < (200 : Int); omega) (QR_s (by omega) (by omega) (by omega)) ?_
                intro h128 s129 H130 O131 G132 e133
                have t134 : AT s129 (σ0.1 46) (σ0.1 47) (ia σ0 37) := by rw [e133]; exact AT_I t127 (by omega)
                refine wq_gR H130.1 rfl ?_
                refine wq_gI H130.1 rfl ?_
                rw [t134.1]
                refine wq_gJ H130.1 rfl ?_
                refine rv_sJ H130 O131 G132 (by omega) rfl (by have := ne_i c1; have := ne_i c11; have := le_i c21; have := ne_i c22; have := congrArg Int32.toInt c92; have : (0 : Int32).toInt = 0 := rfl; have : (200 : Int32).toInt = 200 := rfl; have : (500 : Int32).toInt = 500 := rfl; have : (82 : Int32).toInt = 82 := rfl; have : (83 : Int32).toInt = 83 := rfl; have := bd_i (σ0.1 47); have := bd_i v4; have : (((σ0.1 47)) + v4).toInt = (σ0.1 47).toInt + v4.toInt := ad_i (by omega) (by omega); omega) (by have := ne_i c1; have := ne_i c11; have := le_i c21; have := ne_i c22; have := congrArg Int32.toInt c92; have : (0 : Int32).toInt = 0 := rfl; have : (200 : Int32).toInt = 200 := rfl; have : (500 : Int32).toInt = 500 := rfl; have : (82 : Int32).toInt = 82 := rfl; have : (83 : Int32).toInt = 83 := rfl; have := bd_i (σ0.1 47); have := bd_i v4; have : (((σ0.1 47)) + v4).toInt = (σ0.1 47).toInt + v4.toInt := ad_i (by omega) (by omega); show _ < (200 : Int); omega) (QR_s (by omega) (by omega) (by omega)) ?_
                intro h135 s136 H137 O138 G139 e140
                have t141 : AT s136 (σ0.1 46) (σ0.1 47) (ia σ0 37) := by rw [e140]; exact AT_J t134
                refine wq_gI H137.1 rfl ?_
                rw [t141.1]
                refine rv_G H137 O138 G139 (by omega) (by omega) rfl ?_
                intro h142 s143 H144 O145 G146 e147
                have t148 : AT s143 (((σ0.1 46)) + (1 : Int32)) (σ0.1 47) (ia σ0 37) := by rw [e147]; exact AT_46 t141
                refine wq_gI H144.1 rfl ?_
                rw [t148.2.1]
                refine rv_G H144 O145 G146 (by omega) (by omega) rfl ?_
                intro h149 s150 H151 O152 G153 e154
                have t155 : AT s150 (((σ0.1 46)) + (1 : Int32)) (((σ0.1 47)) + v4) (ia σ0 37) := by rw [e154]; exact AT_47 t148
                refine wq_gR H151.1 rfl ?_
                refine wq_gI H151.1 rfl ?_
                rw [t155.1]
                refine wq_gI H151.1 rfl ?_
                rw [t155.2.1]
                refine rv_sI H151 O152 G153 (by omega) (by omega) rfl rfl (by have := ne_i c1; have := ne_i c11; have := le_i c21; have := ne_i c22; have := congrArg Int32.toInt c92; have : (0 : Int32).toInt = 0 := rfl; have : (1 : Int32).toInt = 1 := rfl; have : (200 : Int32).toInt = 200 := rfl; have : (500 : Int32).toInt = 500 := rfl; have : (82 : Int32).toInt = 82 := rfl; have : (83 : Int32).toInt = 83 := rfl; have := bd_i (σ0.1 47); have := bd_i v4; have : (((σ0.1 47)) + v4).toInt = (σ0.1 47).toInt + v4.toInt := ad_i (by omega) (by omega); have := bd_i (σ0.1 46); have := bd_i (1 : Int32); have : (((σ0.1 46)) + (1 : Int32)).toInt = (σ0.1 46).toInt + (1 : Int32).toInt := ad_i (by omega) (by omega); omega) (by have := ne_i c1; have := ne_i c11; have := le_i c21; have := ne_i c22; have := congrArg Int32.toInt c92; have : (0 : Int32).toInt = 0 := rfl; have : (1 : Int32).toInt = 1 := rfl; have : (200 : Int32).toInt = 200 := rfl; have : (500 : Int32).toInt = 500 := rfl; have : (82 : Int32).toInt = 82 := rfl; have : (83 : Int32).toInt = 83 := rfl; have := bd_i (σ0.1 47); have := bd_i v4; have : (((σ0.1 47)) + v4).toInt = (σ0.1 47).toInt + v4.toInt := ad_i (by omega) (by omega); have := bd_i (σ0.1 46); have := bd_i (1 : Int32); have : (((σ0.1 46)) + (1 : Int32)).toInt = (σ0.1 46).toInt + (1 : Int32).toInt := ad_i (by omega) (by omega); show _ < (201 : Int); omega) (QR_s (by omega) (by omega) (by omega)) ?_
                intro h156 s157 H158 O159 G160 e161
                exact wq_t (Or.inr rfl) (wq_some (rI_i ⟨⟨_, H158, O159, G160, (by rw [e161]; exact AI_fin hA t155 (by have := ne_i c1; have := ne_i c11; have := le_i c21; have := ne_i c22; have := congrArg Int32.toInt c92; have : (0 : Int32).toInt = 0 := rfl; have : (1 : Int32).toInt = 1 := rfl; have : (200 : Int32).toInt = 200 := rfl; have : (500 : Int32).toInt = 500 := rfl; have : (82 : Int32).toInt = 82 := rfl; have : (83 : Int32).toInt = 83 := rfl; have := bd_i (σ0.1 47); have := bd_i v4; have : (((σ0.1 47)) + v4).toInt = (σ0.1 47).toInt + v4.toInt := ad_i (by omega) (by omega); have := bd_i (σ0.1 46); have := bd_i (1 : Int32); have : (((σ0.1 46)) + (1 : Int32)).toInt = (σ0.1 46).toInt + (1 : Int32).toInt := ad_i (by omega) (by omega); omega) (by have := ne_i c1; have := ne_i c11; have := le_i c21; have := ne_i c22; have := congrArg Int32.toInt c92; have : (0 : Int32).toInt = 0 := rfl; have : (1 : Int32).toInt = 1 := rfl; have : (200 : Int32).toInt = 200 := rfl; have : (500 : Int32).toInt = 500 := rfl; have : (82 : Int32).toInt = 82 := rfl; have : (83 : Int32).toInt = 83 := rfl; have := bd_i (σ0.1 47); have := bd_i v4; have : (((σ0.1 47)) + v4).toInt = (σ0.1 47).toInt + v4.toInt := ad_i (by omega) (by omega); have := bd_i (σ0.1 46); have := bd_i (1 : Int32); have : (((σ0.1 46)) + (1 : Int32)).toInt = (σ0.1 46).toInt + (1 : Int32).toInt := ad_i (by omega) (by omega); omega) (by have := le_i c21; have : (500 : Int32).toInt = 500 := rfl; have := bd_i (σ0.1 47); have := bd_i v4; have : (((σ0.1 47)) + v4).toInt = (σ0.1 47).toInt + v4.toInt := ad_i (by omega) (by omega); omega) (by have := le_i c21; have : (500 : Int32).toInt = 500 := rfl; have := bd_i (σ0.1 47); have := bd_i v4; have : (((σ0.1 47)) + v4).toInt = (σ0.1 47).toInt + v4.toInt := ad_i (by omega) (by omega); omega) rfl rfl)⟩, (Or.inr rfl)⟩))
              · obtain ⟨-, ob⟩ := tGo hT c22 c92
                refine wq_eq q_106_300 ?_
                refine wq_at H.1 ?_
                refine wq_cI (v_where H O Gq hP ob) ?_
                rintro y164 h162 ⟨rfl, p163⟩
                obtain ⟨q165, q166, q167, q168⟩ := p163
                refine wq_gR H.1 rfl ?_
                refine wq_gI H.1 rfl ?_
                rw [t0.1]
                refine wq_t (by decide) ?_
                refine rv_sI H O Gq (by omega) (by omega) rfl rfl (by have := ne_i c1; have := ne_i c11; have := le_i c21; have := ne_i c22; have := ne_i c92; have : (0 : Int32).toInt = 0 := rfl; have : (200 : Int32).toInt = 200 := rfl; have : (500 : Int32).toInt = 500 := rfl; have : (82 : Int32).toInt = 82 := rfl; have : (83 : Int32).toInt = 83 := rfl; have := bd_i (σ0.1 47); have := bd_i v4; have : (((σ0.1 47)) + v4).toInt = (σ0.1 47).toInt + v4.toInt := ad_i (by omega) (by omega); omega) (by have := ne_i c1; have := ne_i c11; have := le_i c21; have := ne_i c22; have := ne_i c92; have : (0 : Int32).toInt = 0 := rfl; have : (200 : Int32).toInt = 200 := rfl; have : (500 : Int32).toInt = 500 := rfl; have : (82 : Int32).toInt = 82 := rfl; have : (83 : Int32).toInt = 83 := rfl; have := bd_i (σ0.1 47); have := bd_i v4; have : (((σ0.1 47)) + v4).toInt = (σ0.1 47).toInt + v4.toInt := ad_i (by omega) (by omega); show _ < (200 : Int); omega) (QR_s (by omega) (by omega) (by omega)) ?_
                intro h169 s170 H171 O172 G173 e174
                have t175 : AT s170 (σ0.1 46) (σ0.1 47) (ia σ0 37) := by rw [e174]; exact AT_I t0 (by omega)
                refine wq_gR H171.1 rfl ?_
                refine wq_gI H171.1 rfl ?_
                rw [t175.1]
                refine rv_sI H171 O172 G173 (by omega) (by omega) rfl rfl (by have := ne_i c1; have := ne_i c11; have := le_i c21; have := ne_i c22; have := ne_i c92; have : (0 : Int32).toInt = 0 := rfl; have : (200 : Int32).toInt = 200 := rfl; have : (500 : Int32).toInt = 500 := rfl; have : (82 : Int32).toInt = 82 := rfl; have : (83 : Int32).toInt = 83 := rfl; have := bd_i (σ0.1 47); have := bd_i v4; have : (((σ0.1 47)) + v4).toInt = (σ0.1 47).toInt + v4.toInt := ad_i (by omega) (by omega); omega) (by have := ne_i c1; have := ne_i c11; have := le_i c21; have := ne_i c22; have := ne_i c92; have : (0 : Int32).toInt = 0 := rfl; have : (200 : Int32).toInt = 200 := rfl; have : (500 : Int32).toInt = 500 := rfl; have : (82 : Int32).toInt = 82 := rfl; have : (83 : Int32).toInt = 83 := rfl; have := bd_i (σ0.1 47); have := bd_i v4; have : (((σ0.1 47)) + v4).toInt = (σ0.1 47).toInt + v4.toInt := ad_i (by omega) (by omega); show _ < (200 : Int); omega) (QR_s (by omega) (by omega) (by omega)) ?_
                intro h176 s177 H178 O179 G180 e181
                have t182 : AT s177 (σ0.1 46) (σ0.1 47) (ia σ0 37) := by rw [e181]; exact AT_I t175 (by omega)
                refine wq_gR H178.1 rfl ?_
                refine wq_gI H178.1 rfl ?_
                rw [t182.1]
                refine wq_gI H178.1 rfl ?_
                refine rv_sI H178 O179 G180 (by omega) (by omega) rfl rfl (by have := ne_i c1; have := ne_i c11; have := le_i c21; have := ne_i c22; have := ne_i c92; have : (0 : Int32).toInt = 0 := rfl; have : (200 : Int32).toInt = 200 := rfl; have : (500 : Int32).toInt = 500 := rfl; have : (82 : Int32).toInt = 82 := rfl; have : (83 : Int32).toInt = 83 := rfl; have := bd_i (σ0.1 47); have := bd_i v4; have : (((σ0.1 47)) + v4).toInt = (σ0.1 47).toInt + v4.toInt := ad_i (by omega) (by omega); omega) (by have := ne_i c1; have := ne_i c11; have := le_i c21; have := ne_i c22; have := ne_i c92; have : (0 : Int32).toInt = 0 := rfl; have : (200 : Int32).toInt = 200 := rfl; have : (500 : Int32).toInt = 500 := rfl; have : (82 : Int32).toInt = 82 := rfl; have : (83 : Int32).toInt = 83 := rfl; have := bd_i (σ0.1 47); have := bd_i v4; have : (((σ0.1 47)) + v4).toInt = (σ0.1 47).toInt + v4.toInt := ad_i (by omega) (by omega); show _ < (200 : Int); omega) (QR_s (by omega) (by omega) (by omega)) ?_
                intro h183 s184 H185 O186 G187 e188
                have t189 : AT s184 (σ0.1 46) (σ0.1 47) (ia σ0 37) := by rw [e188]; exact AT_I t182 (by omega)
                refine wq_gR H185.1 rfl ?_
                refine wq_gI H185.1 rfl ?_
                rw [t189.1]
                refine wq_gR H185.1 rfl ?_
                refine rv_n H185 G187 (by omega) rfl rfl (nQ_j (by omega)) (by have := ne_i c22; have := ne_i c92; have : (82 : Int32).toInt = 82 := rfl; have : (83 : Int32).toInt = 83 := rfl; omega) (by have := ne_i c22; have := ne_i c92; have : (82 : Int32).toInt = 82 := rfl; have : (83 : Int32).toInt = 83 := rfl; show _ < (24000 : Int); omega) ?_
                refine wq_f c22 ?_
                refine wq_gR H185.1 rfl ?_
                refine rv_n H185 G187 (by omega) rfl rfl (nQ_j (by omega)) (by have := ne_i c22; have := ne_i c92; have : (82 : Int32).toInt = 82 := rfl; have : (83 : Int32).toInt = 83 := rfl; omega) (by have := ne_i c22; have := ne_i c92; have : (82 : Int32).toInt = 82 := rfl; have : (83 : Int32).toInt = 83 := rfl; show _ < (24000 : Int); omega) ?_
                refine wq_f c92 ?_
                refine wq_gR H185.1 rfl ?_
                refine rv_0 H185 O186 (by omega) (by show _ < (10100 : Int); omega) (fun u190 q191 q192 => ?_)
                refine wq_if _ (fun c193 => ?_) (fun c193 => ?_)
                · refine wq_gR H185.1 rfl ?_
                  refine rv_1 H185 O186 (by omega) (by show _ < (10100 : Int); omega) (fun u194 q195 q196 => ?_)
                  refine wq_eq q_106_419 ?_
                  refine rv_sI H185 O186 G187 (by omega) (by omega) rfl rfl (by have := ne_i c1; have := ne_i c11; have := le_i c21; have := ne_i c22; have := ne_i c92; have := congrArg Int32.toInt c193; have : (0 : Int32).toInt = 0 := rfl; have : (1 : Int32).toInt = 1 := rfl; have : (200 : Int32).toInt = 200 := rfl; have : (500 : Int32).toInt = 500 := rfl; have : (82 : Int32).toInt = 82 := rfl; have : (83 : Int32).toInt = 83 := rfl; have := bd_i (σ0.1 47); have := bd_i v4; have : (((σ0.1 47)) + v4).toInt = (σ0.1 47).toInt + v4.toInt := ad_i (by omega) (by omega); omega) (by have := ne_i c1; have := ne_i c11; have := le_i c21; have := ne_i c22; have := ne_i c92; have := congrArg Int32.toInt c193; have : (0 : Int32).toInt = 0 := rfl; have : (1 : Int32).toInt = 1 := rfl; have : (200 : Int32).toInt = 200 := rfl; have : (500 : Int32).toInt = 500 := rfl; have : (82 : Int32).toInt = 82 := rfl; have : (83 : Int32).toInt = 83 := rfl; have := bd_i (σ0.1 47); have := bd_i v4; have : (((σ0.1 47)) + v4).toInt = (σ0.1 47).toInt + v4.toInt := ad_i (by omega) (by omega); show _ < (200 : Int); omega) (QR_s (by omega) (by omega) (by omega)) ?_
                  intro h197 s198 H199 O200 G201 e202
                  have t203 : AT s198 (σ0.1 46) (σ0.1 47) (ia σ0 37) := by rw [e202]; exact AT_I t189 (by omega)
                  refine wq_gR H199.1 rfl ?_
                  refine wq_gI H199.1 rfl ?_
                  rw [t203.1]
                  refine wq_gR H199.1 rfl ?_
                  refine rv_n H199 G201 (by omega) rfl rfl (nQ_j (by omega)) (by omega) (by show _ < (24000 : Int); omega) ?_
                  refine rv_sI H199 O200 G201 (by omega) (by omega) rfl rfl (by have := ne_i c1; have := ne_i c11; have := le_i c21; have := ne_i c22; have := ne_i c92; have := congrArg Int32.toInt c193; have : (0 : Int32).toInt = 0 := rfl; have : (1 : Int32).toInt = 1 := rfl; have : (200 : Int32).toInt = 200 := rfl; have : (500 : Int32).toInt = 500 := rfl; have : (82 : Int32).toInt = 82 := rfl; have : (83 : Int32).toInt = 83 := rfl; have := bd_i (σ0.1 47); have := bd_i v4; have : (((σ0.1 47)) + v4).toInt = (σ0.1 47).toInt + v4.toInt := ad_i (by omega) (by omega); omega) (by have := ne_i c1; have := ne_i c11; have := le_i c21; have := ne_i c22; have := ne_i c92; have := congrArg Int32.toInt c193; have : (0 : Int32).toInt = 0 := rfl; have : (1 : Int32).toInt = 1 := rfl; have : (200 : Int32).toInt = 200 := rfl; have : (500 : Int32).toInt = 500 := rfl; have : (82 : Int32).toInt = 82 := rfl; have : (83 : Int32).toInt = 83 := rfl; have := bd_i (σ0.1 47); have := bd_i v4; have : (((σ0.1 47)) + v4).toInt = (σ0.1 47).toInt + v4.toInt := ad_i (by omega) (by omega); show _ < (200 : Int); omega) (QR_s (by omega) (by omega) (by omega)) ?_
                  intro h204 s205 H206 O207 G208 e209
                  have t210 : AT s205 (σ0.1 46) (σ0.1 47) (ia σ0 37) := by rw [e209]; exact AT_I t203 (by omega)
                  refine wq_gR H206.1 rfl ?_
                  refine wq_gI H206.1 rfl ?_
                  rw [t210.1]
                  refine wq_gJ H206.1 rfl ?_
                  refine rv_sJ H206 O207 G208 (by omega) rfl (by have := ne_i c1; have := ne_i c11; have := le_i c21; have := ne_i c22; have := ne_i c92; have := congrArg Int32.toInt c193; have : (0 : Int32).toInt = 0 := rfl; have : (1 : Int32).toInt = 1 := rfl; have : (200 : Int32).toInt = 200 := rfl; have : (500 : Int32).toInt = 500 := rfl; have : (82 : Int32).toInt = 82 := rfl; have : (83 : Int32).toInt = 83 := rfl; have := bd_i (σ0.1 47); have := bd_i v4; have : (((σ0.1 47)) + v4).toInt = (σ0.1 47).toInt + v4.toInt := ad_i (by omega) (by omega); omega) (by have := ne_i c1; have := ne_i c11; have := le_i c21; have := ne_i c22; have := ne_i c92; have := congrArg Int32.toInt c193; have : (0 : Int32).toInt = 0 := rfl; have : (1 : Int32).toInt = 1 := rfl; have : (200 : Int32).toInt = 200 := rfl; have : (500 : Int32).toInt = 500 := rfl; have : (82 : Int32).toInt = 82 := rfl; have : (83 : Int32).toInt = 83 := rfl; have := bd_i (σ0.1 47); have := bd_i v4; have : (((σ0.1 47)) + v4).toInt = (σ0.1 47).toInt + v4.toInt := ad_i (by omega) (by omega); show _ < (200 : Int); omega) (QR_s (by omega) (by omega) (by omega)) ?_
                  intro h211 s212 H213 O214 G215 e216
                  have t217 : AT s212 (σ0.1 46) (σ0.1 47) (ia σ0 37) := by rw [e216]; exact AT_J t210
                  refine wq_gI H213.1 rfl ?_
                  rw [t217.1]
                  refine rv_G H213 O214 G215 (by omega) (by omega) rfl ?_
                  intro h218 s219 H220 O221 G222 e223
                  have t224 : AT s219 (((σ0.1 46)) + (1 : Int32)) (σ0.1 47) (ia σ0 37) := by rw [e223]; exact AT_46 t217
                  refine wq_gI H220.1 rfl ?_
                  rw [t224.2.1]
                  refine rv_G H220 O221 G222 (by omega) (by omega) rfl ?_
                  intro h225 s226 H227 O228 G229 e230
                  have t231 : AT s226 (((σ0.1 46)) + (1 : Int32)) (((σ0.1 47)) + v4) (ia σ0 37) := by rw [e230]; exact AT_47 t224
                  refine wq_gR H227.1 rfl ?_
                  refine wq_gI H227.1 rfl ?_
                  rw [t231.1]
                  refine wq_gI H227.1 rfl ?_
                  rw [t231.2.1]
                  refine rv_sI H227 O228 G229 (by omega) (by omega) rfl rfl (by have := ne_i c1; have := ne_i c11; have := le_i c21; have := ne_i c22; have := ne_i c92; have := congrArg Int32.toInt c193; have : (0 : Int32).toInt = 0 := rfl; have : (1 : Int32).toInt = 1 := rfl; have : (200 : Int32).toInt = 200 := rfl; have : (500 : Int32).toInt = 500 := rfl; have : (82 : Int32).toInt = 82 := rfl; have : (83 : Int32).toInt = 83 := rfl; have := bd_i (σ0.1 47); have := bd_i v4; have : (((σ0.1 47)) + v4).toInt = (σ0.1 47).toInt + v4.toInt := ad_i (by omega) (by omega); have := bd_i (σ0.1 46); have := bd_i (1 : Int32); have : (((σ0.1 46)) + (1 : Int32)).toInt = (σ0.1 46).toInt + (1 : Int32).toInt := ad_i (by omega) (by omega); omega) (by have := ne_i c1; have := ne_i c11; have := le_i c21; have := ne_i c22; have := ne_i c92; have := congrArg Int32.toInt c193; have : (0 : Int32).toInt = 0 := rfl; have : (1 : Int32).toInt = 1 := rfl; have : (200 : Int32).toInt = 200 := rfl; have : (500 : Int32).toInt = 500 := rfl; have : (82 : Int32).toInt = 82 := rfl; have : (83 : Int32).toInt = 83 := rfl; have := bd_i (σ0.1 47); have := bd_i v4; have : (((σ0.1 47)) + v4).toInt = (σ0.1 47).toInt + v4.toInt := ad_i (by omega) (by omega); have := bd_i (σ0.1 46); have := bd_i (1 : Int32); have : (((σ0.1 46)) + (1 : Int32)).toInt = (σ0.1 46).toInt + (1 : Int32).toInt := ad_i (by omega) (by omega); show _ < (201 : Int); omega) (QR_s (by omega) (by omega) (by omega)) ?_
                  intro h232 s233 H234 O235 G236 e237
                  exact wq_t (Or.inr rfl) (wq_some (rI_i ⟨⟨_, H234, O235, G236, (by rw [e237]; exact AI_fin hA t231 (by have := ne_i c1; have := ne_i c11; have := le_i c21; have := ne_i c22; have := ne_i c92; have := congrArg Int32.toInt c193; have : (0 : Int32).toInt = 0 := rfl; have : (1 : Int32).toInt = 1 := rfl; have : (200 : Int32).toInt = 200 := rfl; have : (500 : Int32).toInt = 500 := rfl; have : (82 : Int32).toInt = 82 := rfl; have : (83 : Int32).toInt = 83 := rfl; have := bd_i (σ0.1 47); have := bd_i v4; have : (((σ0.1 47)) + v4).toInt = (σ0.1 47).toInt + v4.toInt := ad_i (by omega) (by omega); have := bd_i (σ0.1 46); have := bd_i (1 : Int32); have : (((σ0.1 46)) + (1 : Int32)).toInt = (σ0.1 46).toInt + (1 : Int32).toInt := ad_i (by omega) (by omega); omega) (by have := ne_i c1; have := ne_i c11; have := le_i c21; have := ne_i c22; have := ne_i c92; have := congrArg Int32.toInt c193; have : (0 : Int32).toInt = 0 := rfl; have : (1 : Int32).toInt = 1 := rfl; have : (200 : Int32).toInt = 200 := rfl; have : (500 : Int32).toInt = 500 := rfl; have : (82 : Int32).toInt = 82 := rfl; have : (83 : Int32).toInt = 83 := rfl; have := bd_i (σ0.1 47); have := bd_i v4; have : (((σ0.1 47)) + v4).toInt = (σ0.1 47).toInt + v4.toInt := ad_i (by omega) (by omega); have := bd_i (σ0.1 46); have := bd_i (1 : Int32); have : (((σ0.1 46)) + (1 : Int32)).toInt = (σ0.1 46).toInt + (1 : Int32).toInt := ad_i (by omega) (by omega); omega) (by have := le_i c21; have : (500 : Int32).toInt = 500 := rfl; have := bd_i (σ0.1 47); have := bd_i v4; have : (((σ0.1 47)) + v4).toInt = (σ0.1 47).toInt + v4.toInt := ad_i (by omega) (by omega); omega) (by have := le_i c21; have : (500 : Int32).toInt = 500 := rfl; have := bd_i (σ0.1 47); have := bd_i v4; have : (((σ0.1 47)) + v4).toInt = (σ0.1 47).toInt + v4.toInt := ad_i (by omega) (by omega); omega) rfl rfl)⟩, (Or.inr rfl)⟩))
                · refine wq_eq q_106_419 ?_
                  refine rv_sI H185 O186 G187 (by omega) (by omega) rfl rfl (by have := ne_i c1; have := ne_i c11; have := le_i c21; have := ne_i c22; have := ne_i c92; have := ne_i c193; have : (0 : Int32).toInt = 0 := rfl; have : (1 : Int32).toInt = 1 := rfl; have : (200 : Int32).toInt = 200 := rfl; have : (500 : Int32).toInt = 500 := rfl; have : (82 : Int32).toInt = 82 := rfl; have : (83 : Int32).toInt = 83 := rfl; have := bd_i (σ0.1 47); have := bd_i v4; have : (((σ0.1 47)) + v4).toInt = (σ0.1 47).toInt + v4.toInt := ad_i (by omega) (by omega); omega) (by have := ne_i c1; have := ne_i c11; have := le_i c21; have := ne_i c22; have := ne_i c92; have := ne_i c193; have : (0 : Int32).toInt = 0 := rfl; have : (1 : Int32).toInt = 1 := rfl; have : (200 : Int32).toInt = 200 := rfl; have : (500 : Int32).toInt = 500 := rfl; have : (82 : Int32).toInt = 82 := rfl; have : (83 : Int32).toInt = 83 := rfl; have := bd_i (σ0.1 47); have := bd_i v4; have : (((σ0.1 47)) + v4).toInt = (σ0.1 47).toInt + v4.toInt := ad_i (by omega) (by omega); show _ < (200 : Int); omega) (QR_s (by omega) (by omega) (by omega)) ?_
                  intro h238 s239 H240 O241 G242 e243
                  have t244 : AT s239 (σ0.1 46) (σ0.1 47) (ia σ0 37) := by rw [e243]; exact AT_I t189 (by omega)
                  refine wq_gR H240.1 rfl ?_
                  refine wq_gI H240.1 rfl ?_
                  rw [t244.1]
                  refine wq_gR H240.1 rfl ?_
                  refine rv_n H240 G242 (by omega) rfl rfl (nQ_j (by omega)) (by omega) (by show _ < (24000 : Int); omega) ?_
                  refine rv_sI H240 O241 G242 (by omega) (by omega) rfl rfl (by have := ne_i c1; have := ne_i c11; have := le_i c21; have := ne_i c22; have := ne_i c92; have := ne_i c193; have : (0 : Int32).toInt = 0 := rfl; have : (1 : Int32).toInt = 1 := rfl; have : (200 : Int32).toInt = 200 := rfl; have : (500 : Int32).toInt = 500 := rfl; have : (82 : Int32).toInt = 82 := rfl; have : (83 : Int32).toInt = 83 := rfl; have := bd_i (σ0.1 47); have := bd_i v4; have : (((σ0.1 47)) + v4).toInt = (σ0.1 47).toInt + v4.toInt := ad_i (by omega) (by omega); omega) (by have := ne_i c1; have := ne_i c11; have := le_i c21; have := ne_i c22; have := ne_i c92; have := ne_i c193; have : (0 : Int32).toInt = 0 := rfl; have : (1 : Int32).toInt = 1 := rfl; have : (200 : Int32).toInt = 200 := rfl; have : (500 : Int32).toInt = 500 := rfl; have : (82 : Int32).toInt = 82 := rfl; have : (83 : Int32).toInt = 83 := rfl; have := bd_i (σ0.1 47); have := bd_i v4; have : (((σ0.1 47)) + v4).toInt = (σ0.1 47).toInt + v4.toInt := ad_i (by omega) (by omega); show _ < (200 : Int); omega) (QR_s (by omega) (by omega) (by omega)) ?_
                  intro h245 s246 H247 O248 G249 e250
                  have t251 : AT s246 (σ0.1 46) (σ0.1 47) (ia σ0 37) := by rw [e250]; exact AT_I t244 (by omega)
                  refine wq_gR H247.1 rfl ?_
                  refine wq_gI H247.1 rfl ?_
                  rw [t251.1]
                  refine wq_gJ H247.1 rfl ?_
                  refine rv_sJ H247 O248 G249 (by omega) rfl (by have := ne_i c1; have := ne_i c11; have := le_i c21; have := ne_i c22; have := ne_i c92; have := ne_i c193; have : (0 : Int32).toInt = 0 := rfl; have : (1 : Int32).toInt = 1 := rfl; have : (200 : Int32).toInt = 200 := rfl; have : (500 : Int32).toInt = 500 := rfl; have : (82 : Int32).toInt = 82 := rfl; have : (83 : Int32).toInt = 83 := rfl; have := bd_i (σ0.1 47); have := bd_i v4; have : (((σ0.1 47)) + v4).toInt = (σ0.1 47).toInt + v4.toInt := ad_i (by omega) (by omega); omega) (by have := ne_i c1; have := ne_i c11; have := le_i c21; have := ne_i c22; have := ne_i c92; have := ne_i c193; have : (0 : Int32).toInt = 0 := rfl; have : (1 : Int32).toInt = 1 := rfl; have : (200 : Int32).toInt = 200 := rfl; have : (500 : Int32).toInt = 500 := rfl; have : (82 : Int32).toInt = 82 := rfl; have : (83 : Int32).toInt = 83 := rfl; have := bd_i (σ0.1 47); have := bd_i v4; have : (((σ0.1 47)) + v4).toInt = (σ0.1 47).toInt + v4.toInt := ad_i (by omega) (by omega); show _ < (200 : Int); omega) (QR_s (by omega) (by omega) (by omega)) ?_
                  intro h252 s253 H254 O255 G256 e257
                  have t258 : AT s253 (σ0.1 46) (σ0.1 47) (ia σ0 37) := by rw [e257]; exact AT_J t251
                  refine wq_gI H254.1 rfl ?_
                  rw [t258.1]
                  refine rv_G H254 O255 G256 (by omega) (by omega) rfl ?_
                  intro h259 s260 H261 O262 G263 e264
                  have t265 : AT s260 (((σ0.1 46)) + (1 : Int32)) (σ0.1 47) (ia σ0 37) := by rw [e264]; exact AT_46 t258
                  refine wq_gI H261.1 rfl ?_
                  rw [t265.2.1]
                  refine rv_G H261 O262 G263 (by omega) (by omega) rfl ?_
                  intro h266 s267 H268 O269 G270 e271
                  have t272 : AT s267 (((σ0.1 46)) + (1 : Int32)) (((σ0.1 47)) + v4) (ia σ0 37) := by rw [e271]; exact AT_47 t265
                  refine wq_gR H268.1 rfl ?_
                  refine wq_gI H268.1 rfl ?_
                  rw [t272.1]
                  refine wq_gI H268.1 rfl ?_
                  rw [t272.2.1]
                  refine rv_sI H268 O269 G270 (by omega) (by omega) rfl rfl (by have := ne_i c1; have := ne_i c11; have := le_i c21; have := ne_i c22; have := ne_i c92; have := ne_i c193; have : (0 : Int32).toInt = 0 := rfl; have : (1 : Int32).toInt = 1 := rfl; have : (200 : Int32).toInt = 200 := rfl; have : (500 : Int32).toInt = 500 := rfl; have : (82 : Int32).toInt = 82 := rfl; have : (83 : Int32).toInt = 83 := rfl; have := bd_i (σ0.1 47); have := bd_i v4; have : (((σ0.1 47)) + v4).toInt = (σ0.1 47).toInt + v4.toInt := ad_i (by omega) (by omega); have := bd_i (σ0.1 46); have := bd_i (1 : Int32); have : (((σ0.1 46)) + (1 : Int32)).toInt = (σ0.1 46).toInt + (1 : Int32).toInt := ad_i (by omega) (by omega); omega) (by have := ne_i c1; have := ne_i c11; have := le_i c21; have := ne_i c22; have := ne_i c92; have := ne_i c193; have : (0 : Int32).toInt = 0 := rfl; have : (1 : Int32).toInt = 1 := rfl; have : (200 : Int32).toInt = 200 := rfl; have : (500 : Int32).toInt = 500 := rfl; have : (82 : Int32).toInt = 82 := rfl; have : (83 : Int32).toInt = 83 := rfl; have := bd_i (σ0.1 47); have := bd_i v4; have : (((σ0.1 47)) + v4).toInt = (σ0.1 47).toInt + v4.toInt := ad_i (by omega) (by omega); have := bd_i (σ0.1 46); have := bd_i (1 : Int32); have : (((σ0.1 46)) + (1 : Int32)).toInt = (σ0.1 46).toInt + (1 : Int32).toInt := ad_i (by omega) (by omega); show _ < (201 : Int); omega) (QR_s (by omega) (by omega) (by omega)) ?_
                  intro h273 s274 H275 O276 G277 e278
                  exact wq_t (Or.inr rfl) (wq_some (rI_i ⟨⟨_, H275, O276, G277, (by rw [e278]; exact AI_fin hA t272 (by have := ne_i c1; have := ne_i c11; have := le_i c21; have := ne_i c22; have := ne_i c92; have := ne_i c193; have : (0 : Int32).toInt = 0 := rfl; have : (1 : Int32).toInt = 1 := rfl; have : (200 : Int32).toInt = 200 := rfl; have : (500 : Int32).toInt = 500 := rfl; have : (82 : Int32).toInt = 82 := rfl; have : (83 : Int32).toInt = 83 := rfl; have := bd_i (σ0.1 47); have := bd_i v4; have : (((σ0.1 47)) + v4).toInt = (σ0.1 47).toInt + v4.toInt := ad_i (by omega) (by omega); have := bd_i (σ0.1 46); have := bd_i (1 : Int32); have : (((σ0.1 46)) + (1 : Int32)).toInt = (σ0.1 46).toInt + (1 : Int32).toInt := ad_i (by omega) (by omega); omega) (by have := ne_i c1; have := ne_i c11; have := le_i c21; have := ne_i c22; have := ne_i c92; have := ne_i c193; have : (0 : Int32).toInt = 0 := rfl; have : (1 : Int32).toInt = 1 := rfl; have : (200 : Int32).toInt = 200 := rfl; have : (500 : Int32).toInt = 500 := rfl; have : (82 : Int32).toInt = 82 := rfl; have : (83 : Int32).toInt = 83 := rfl; have := bd_i (σ0.1 47); have := bd_i v4; have : (((σ0.1 47)) + v4).toInt = (σ0.1 47).toInt + v4.toInt := ad_i (by omega) (by omega); have := bd_i (σ0.1 46); have := bd_i (1 : Int32); have : (((σ0.1 46)) + (1 : Int32)).toInt = (σ0.1 46).toInt + (1 : Int32).toInt := ad_i (by omega) (by omega); omega) (by have := le_i c21; have : (500 : Int32).toInt = 500 := rfl; have := bd_i (σ0.1 47); have := bd_i v4; have : (((σ0.1 47)) + v4).toInt = (σ0.1 47).toInt + v4.toInt := ad_i (by omega) (by omega); omega) (by have := le_i c21; have : (500 : Int32).toInt = 500 := rfl; have := bd_i (σ0.1 47); have := bd_i v4; have : (((σ0.1 47)) + v4).toInt = (σ0.1 47).toInt + v4.toInt := ad_i (by omega) (by omega); omega) rfl rfl)⟩, (Or.inr rfl)⟩))
          · refine wq_at H.1 ?_
            refine wq_cI (v_fail H O (sm_0 (Q := QR 1000))) ?_
            rintro y285 h279 ⟨⟨s281, H282, O283, G284⟩, p280⟩
            have G286 := sm_tr Gq G284 QR_le
            have A287 := AI_sm (sm_up G284 (q := 1001)) (AI_AT hA t0)
            exact wq_t p280.1 (wq_some (rI_i ⟨⟨_, H282, O283, G286, A287⟩, p280.1⟩))
  | succ l ih =>
      intro h1 σ1 v3 v4 v5 hg iv0 iv1 iv2 H O G
      obtain ⟨c1', c2'⟩ := id hT.1
      obtain ⟨A1, A2, A3, A4, -⟩ := id hA
      obtain ⟨s1, s2⟩ := id hs
      obtain ⟨⟨e1, e2⟩, ⟨xw1, xw2⟩, hg2⟩ := hg
      obtain ⟨k1, k2⟩ := xE_v xw1
      have hc : ¬ v3 = (-1 : Int32) := fun he => by have := congrArg Int32.toInt he; rw [li_m1] at this; omega
      refine wq_eq q_106_70 ?_
      refine wq_f hc ?_
      refine wq_gR H.1 rfl ?_
      refine rv_n H G (by omega) rfl rfl (nQ_j (by omega)) (by omega) (by show _ < (24000 : Int); omega) ?_
      refine wq_at H.1 ?_
      refine wq_cI (v_find n _ (by omega) H O (sm_0 (Q := QR 1000)) (PV_SE (SE_of G) hP) (by rw [xE_SE (SE_of G)]; exact xw1) (by have : (9872 : Int32).toInt = 9872 := rfl; omega) (by have : (9872 : Int32).toInt = 9872 := rfl; omega)) ?_
      rintro y7 h1 ⟨⟨s3, H4, O5, G6⟩, p2⟩
      have G8 := sm_tr G G6 QR_le
      refine wq_if _ (fun c9 => ?_) (fun c9 => ?_)
      · exact wq_t (Or.inl rfl) (wq_some (rI_i ⟨⟨_, H4, O5, (sm_up1 G8 (by omega)), AI_sm G8 hA⟩, (Or.inl rfl)⟩))
      · refine wq_at H4.1 ?_
        refine wq_cI (v_fits H4 O5 G8 hn hP (Or.inl rfl) hT) ?_
        rintro y17 h10 ⟨⟨s12, H13, O14, G15, E16⟩, p11⟩
        refine wq_if _ (fun c18 => ?_) (fun c18 => ?_)
        · exact wq_t (Or.inl rfl) (wq_some (rI_i ⟨⟨_, H13, O14, (sm_up1 G15 (by omega)), AI_sm G15 hA⟩, (Or.inl rfl)⟩))
        · refine wq_gI H13.1 rfl ?_
          rw [show s12.1 47 = σ0.1 47 from G15.1 47 nQ47]
          refine wq_at H13.1 ?_
          refine wq_cV (v_copy H13 O14 G15 (by have := ne_i c9; have := ne_i c18; have : (0 : Int32).toInt = 0 := rfl; have : (9872 : Int32).toInt = 9872 := rfl; omega) (by have := ne_i c9; have := ne_i c18; have : (0 : Int32).toInt = 0 := rfl; have : (9872 : Int32).toInt = 9872 := rfl; omega) (by have : (9344 : Int32).toInt = 9344 := rfl; have := bd_i (9344 : Int32); have := bd_i (σ0.1 47); have : ((9344 : Int32) + ((σ0.1 47))).toInt = (9344 : Int32).toInt + (σ0.1 47).toInt := ad_i (by omega) (by omega); have := bd_i ((9344 : Int32) + ((σ0.1 47))); have := bd_i v4; have : (((9344 : Int32) + ((σ0.1 47))) + v4).toInt = ((9344 : Int32) + ((σ0.1 47))).toInt + v4.toInt := ad_i (by omega) (by omega); omega) (by have : (9344 : Int32).toInt = 9344 := rfl; have := bd_i (9344 : Int32); have := bd_i (σ0.1 47); have : ((9344 : Int32) + ((σ0.1 47))).toInt = (9344 : Int32).toInt + (σ0.1 47).toInt := ad_i (by omega) (by omega); have := bd_i ((9344 : Int32) + ((σ0.1 47))); have := bd_i v4; have : (((9344 : Int32) + ((σ0.1 47))) + v4).toInt = ((9344 : Int32) + ((σ0.1 47))).toInt + v4.toInt := ad_i (by omega) (by omega); omega)) ?_
          rintro h19 ⟨s21, H22, O23, G24⟩
          refine wq_gR H22.1 rfl ?_
          refine wq_gR H22.1 rfl ?_
          refine rv_n H22 G24 (by omega) rfl rfl (nQ_j (by omega)) (by omega) (by show _ < (24000 : Int); omega) ?_
          refine rv_n H22 G24 (by omega) rfl rfl (nQ_j (by omega)) (by omega) (by show _ < (24000 : Int); omega) ?_
          refine wq_at H22.1 ?_
          refine wq_cI (v_findTime H22 O23 G24 hn hP (by omega) xw2) ?_
          rintro y31 h25 ⟨⟨s27, H28, O29, G30⟩, p26⟩
          refine wq_if _ (fun c32 => ?_) (fun c32 => ?_)
          · exact wq_t (Or.inl rfl) (wq_some (rI_i ⟨⟨_, H28, O29, (sm_up1 G30 (by omega)), AI_sm G30 hA⟩, (Or.inl rfl)⟩))
          · refine wq_gR H28.1 rfl ?_
            refine wq_gI H28.1 rfl ?_
            rw [show s27.1 47 = σ0.1 47 from G30.1 47 nQ47]
            refine wq_gJ H28.1 rfl ?_
            refine rv_sJ H28 O29 G30 (by omega) rfl (by have := bd_i (σ0.1 47); have := bd_i v4; have : (((σ0.1 47)) + v4).toInt = (σ0.1 47).toInt + v4.toInt := ad_i (by omega) (by omega); omega) (by have := bd_i (σ0.1 47); have := bd_i v4; have : (((σ0.1 47)) + v4).toInt = (σ0.1 47).toInt + v4.toInt := ad_i (by omega) (by omega); show _ < (528 : Int); omega) (QR_38 (by omega)) ?_
            intro h33 s34 H35 O36 G37 e38
            refine wq_if _ (fun c39 => ?_) (fun c39 => ?_)
            · refine wq_eq q_106_207 ?_
              refine wq_gR H35.1 rfl ?_
              refine rv_n H35 G37 (by omega) rfl rfl (nQ_j (by omega)) (by omega) (by show _ < (24000 : Int); omega) ?_
              exact ih _ _ _ _ _ hg2 (by have : (1 : Int32).toInt = 1 := rfl; have := bd_i v4; have := bd_i (1 : Int32); have : (v4 + (1 : Int32)).toInt = v4.toInt + (1 : Int32).toInt := ad_i (by omega) (by omega); omega) (by have : (1 : Int32).toInt = 1 := rfl; have := bd_i v4; have := bd_i (1 : Int32); have : (v4 + (1 : Int32)).toInt = v4.toInt + (1 : Int32).toInt := ad_i (by omega) (by omega); omega) (Or.inl rfl) H35 O36 G37
            · refine wq_if _ (fun c40 => ?_) (fun c40 => ?_)
              · refine wq_gJ H35.1 rfl ?_
                refine wq_gJ H35.1 rfl ?_
                refine wq_if _ (fun c41 => ?_) (fun c41 => ?_)
                · refine wq_gR H35.1 rfl ?_
                  refine rv_n H35 G37 (by omega) rfl rfl (nQ_j (by omega)) (by omega) (by show _ < (24000 : Int); omega) ?_
                  exact ih _ _ _ _ _ hg2 (by have := congrArg Int32.toInt c40; have : (0 : Int32).toInt = 0 := rfl; have : (1 : Int32).toInt = 1 := rfl; have := bd_i v4; have := bd_i (1 : Int32); have : (v4 + (1 : Int32)).toInt = v4.toInt + (1 : Int32).toInt := ad_i (by omega) (by omega); omega) (by have := congrArg Int32.toInt c40; have : (0 : Int32).toInt = 0 := rfl; have : (1 : Int32).toInt = 1 := rfl; have := bd_i v4; have := bd_i (1 : Int32); have : (v4 + (1 : Int32)).toInt = v4.toInt + (1 : Int32).toInt := ad_i (by omega) (by omega); omega) (Or.inr rfl) H35 O36 G37
                · refine wq_eq q_106_207 ?_
                  refine wq_gR H35.1 rfl ?_
                  refine rv_n H35 G37 (by omega) rfl rfl (nQ_j (by omega)) (by omega) (by show _ < (24000 : Int); omega) ?_
                  exact ih _ _ _ _ _ hg2 (by have := congrArg Int32.toInt c40; have : (0 : Int32).toInt = 0 := rfl; have : (1 : Int32).toInt = 1 := rfl; have := bd_i v4; have := bd_i (1 : Int32); have : (v4 + (1 : Int32)).toInt = v4.toInt + (1 : Int32).toInt := ad_i (by omega) (by omega); omega) (by have := congrArg Int32.toInt c40; have : (0 : Int32).toInt = 0 := rfl; have : (1 : Int32).toInt = 1 := rfl; have := bd_i v4; have := bd_i (1 : Int32); have : (v4 + (1 : Int32)).toInt = v4.toInt + (1 : Int32).toInt := ad_i (by omega) (by omega); omega) (Or.inl rfl) H35 O36 G37
              · refine wq_gJ H35.1 rfl ?_
                refine wq_gR H35.1 rfl ?_
                refine wq_gI H35.1 rfl ?_
                rw [show s34.1 47 = σ0.1 47 from G37.1 47 nQ47]
                refine ra_J H35 (by omega) rfl (by have := ne_i c40; have : (0 : Int32).toInt = 0 := rfl; have : (1 : Int32).toInt = 1 := rfl; have := bd_i (σ0.1 47); have := bd_i v4; have : (((σ0.1 47)) + v4).toInt = (σ0.1 47).toInt + v4.toInt := ad_i (by omega) (by omega); have := bd_i (((σ0.1 47)) + v4); have := bd_i (1 : Int32); have : ((((σ0.1 47)) + v4) - (1 : Int32)).toInt = (((σ0.1 47)) + v4).toInt - (1 : Int32).toInt := sb_i (by omega) (by omega); omega) (by have := ne_i c40; have : (0 : Int32).toInt = 0 := rfl; have : (1 : Int32).toInt = 1 := rfl; have := bd_i (σ0.1 47); have := bd_i v4; have : (((σ0.1 47)) + v4).toInt = (σ0.1 47).toInt + v4.toInt := ad_i (by omega) (by omega); have := bd_i (((σ0.1 47)) + v4); have := bd_i (1 : Int32); have : ((((σ0.1 47)) + v4) - (1 : Int32)).toInt = (((σ0.1 47)) + v4).toInt - (1 : Int32).toInt := sb_i (by omega) (by omega); show _ < (528 : Int); omega) ?_
                refine wq_if _ (fun c42 => ?_) (fun c42 => ?_)
                · refine wq_eq q_106_207 ?_
                  refine wq_gR H35.1 rfl ?_
                  refine rv_n H35 G37 (by omega) rfl rfl (nQ_j (by omega)) (by omega) (by show _ < (24000 : Int); omega) ?_
                  exact ih _ _ _ _ _ hg2 (by have := ne_i c40; have : (0 : Int32).toInt = 0 := rfl; have : (1 : Int32).toInt = 1 := rfl; have := bd_i v4; have := bd_i (1 : Int32); have : (v4 + (1 : Int32)).toInt = v4.toInt + (1 : Int32).toInt := ad_i (by omega) (by omega); omega) (by have := ne_i c40; have : (0 : Int32).toInt = 0 := rfl; have : (1 : Int32).toInt = 1 := rfl; have := bd_i v4; have := bd_i (1 : Int32); have : (v4 + (1 : Int32)).toInt = v4.toInt + (1 : Int32).toInt := ad_i (by omega) (by omega); omega) (Or.inl rfl) H35 O36 G37
                · refine wq_gR H35.1 rfl ?_
                  refine rv_n H35 G37 (by omega) rfl rfl (nQ_j (by omega)) (by omega) (by show _ < (24000 : Int); omega) ?_
                  exact ih _ _ _ _ _ hg2 (by have := ne_i c40; have : (0 : Int32).toInt = 0 := rfl; have : (1 : Int32).toInt = 1 := rfl; have := bd_i v4; have := bd_i (1 : Int32); have : (v4 + (1 : Int32)).toInt = v4.toInt + (1 : Int32).toInt := ad_i (by omega) (by omega); omega) (by have := ne_i c40; have : (0 : Int32).toInt = 0 := rfl; have : (1 : Int32).toInt = 1 := rfl; have := bd_i v4; have := bd_i (1 : Int32); have : (v4 + (1 : Int32)).toInt = v4.toInt + (1 : Int32).toInt := ad_i (by omega) (by omega); omega) (Or.inr rfl) H35 O36 G37
theorem v_assign {d q : Nat} {h : ah_H} {v1 : Int32} (H : RH m σ b h) (O : OKV σ) (G : sm (QR 1001) σ0 σ)  {n : Nat} (hn : n ≤ 101) (hP : PV σ0) (hA : AI σ0) (hs : vN σ0 v1.toInt) (hT : tG σ0 n 80 ((ia σ0 11 v1.toInt.toNat).toInt)) {l : Nat} (hl : l ≤ 16) (hc2 : ia σ0 9 v1.toInt.toNat = 2 → xT σ0 n ((ia σ0 12 (ia σ0 11 v1.toInt.toNat).toInt.toNat).toInt) ∧ chL σ0 (xW σ0 n) l ((ia σ0 12 (ia σ0 12 (ia σ0 11 v1.toInt.toNat).toInt.toNat).toInt.toNat).toInt)) (hc1 : ¬ ia σ0 9 v1.toInt.toNat = 2 → chL σ0 (xW σ0 n) l ((ia σ0 12 (ia σ0 11 v1.toInt.toNat).toInt.toNat).toInt)) : wq (vc lim (d + 213) m_Ref_assign [.inr (.inr (some m)), .inl v1] h) (rI fun x h' => (∃ σ', RH m σ' b h' ∧ OKV σ' ∧ sm (QR (2000 + q)) σ0 σ' ∧ AI σ') ∧ (x = 0 ∨ x = 1)) := by
  obtain ⟨s1, s2⟩ := id hs
  obtain ⟨c1', c2'⟩ := id hT.1
  refine wq_eq e_Ref_assign ?_
  refine wq_gR H.1 rfl ?_
  refine rv_n H G (by omega) rfl rfl (nQ_j (by omega)) (by omega) (by show _ < (24000 : Int); omega) ?_
  refine wq_at H.1 ?_
  refine wq_cI (v_aim H O G hn hP (by omega) (Or.inl rfl) hT) ?_
  rintro y8 h1 ⟨⟨s3, H4, O5, G6, E7⟩, p2⟩
  refine wq_if _ (fun c9 => ?_) (fun c9 => ?_)
  · exact wq_t (Or.inl rfl) (wq_some (rI_i ⟨⟨_, H4, O5, (sm_up1 G6 (by omega)), AI_sm G6 hA⟩, (Or.inl rfl)⟩))
  · refine wq_gR H4.1 rfl ?_
    refine rv_n H4 G6 (by omega) rfl rfl (nQ_j (by omega)) (by omega) (by show _ < (24000 : Int); omega) ?_
    refine rv_L H4 O5 G6 (by omega) (by omega) rfl ?_
    intro h10 s11 H12 O13 G14 e15
    refine wq_gR H12.1 rfl ?_
    refine rv_n H12 G14 (by omega) rfl rfl (nQ_j (by omega)) (by omega) (by show _ < (24000 : Int); omega) ?_
    refine wq_if _ (fun c16 => ?_) (fun c16 => ?_)
    · obtain ⟨xt, ch⟩ := hc2 c16
      obtain ⟨⟨t1, t2⟩, -⟩ := id xt
      refine wq_at H12.1 ?_
      refine wq_cI (v_findTime H12 O13 G14 hn hP (by omega) xt) ?_
      rintro y23 h17 ⟨⟨s19, H20, O21, G22⟩, p18⟩
      refine wq_if _ (fun c24 => ?_) (fun c24 => ?_)
      · exact wq_t (Or.inl rfl) (wq_some (rI_i ⟨⟨_, H20, O21, (sm_up1 G22 (by omega)), AI_sm G22 hA⟩, (Or.inl rfl)⟩))
      · refine wq_gJ H20.1 rfl ?_
        refine rv_L H20 O21 G22 (by omega) (by omega) rfl ?_
        intro h25 s26 H27 O28 G29 e30
        refine wq_gR H27.1 rfl ?_
        refine rv_n H27 G29 (by omega) rfl rfl (nQ_j (by omega)) (by have := congrArg Int32.toInt c16; have : (2 : Int32).toInt = 2 := rfl; omega) (by have := congrArg Int32.toInt c16; have : (2 : Int32).toInt = 2 := rfl; show _ < (24000 : Int); omega) ?_
        exact w_assign hn hP hA hs hT l _ _ _ _ _ ch (by have := ne_i c9; have := congrArg Int32.toInt c16; have := ne_i c24; have : (0 : Int32).toInt = 0 := rfl; have : (2 : Int32).toInt = 2 := rfl; omega) (by have := ne_i c9; have := congrArg Int32.toInt c16; have := ne_i c24; have : (0 : Int32).toInt = 0 := rfl; have : (2 : Int32).toInt = 2 := rfl; omega) (Or.inr rfl) H27 O28 G29
    · have ch := hc1 c16
      exact w_assign hn hP hA hs hT l _ _ _ _ _ ch (by have := ne_i c9; have := ne_i c16; have : (0 : Int32).toInt = 0 := rfl; have : (2 : Int32).toInt = 2 := rfl; omega) (by have := ne_i c9; have := ne_i c16; have : (0 : Int32).toInt = 0 := rfl; have : (2 : Int32).toInt = 2 := rfl; omega) (Or.inr rfl) H12 O13 G14
end RfE
