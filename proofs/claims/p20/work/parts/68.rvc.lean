/-! THE REFERENCE: what expressions are, by program (wip/tools/refgen.py) -/
section RfC
variable {lim : Nat × Nat} {m p : Nat} {σ σ0 : rS} {b : ah_H}
theorem v_where {d : Nat} {h : ah_H} {v1 : Int32} (H : RH m σ b h) (O : OKV σ) (G : sm (QR p) σ0 σ)  (hP : PV σ0) (ho : oB σ0 v1.toInt) : wq (vc lim (d + 1) m_Ref_where [.inr (.inr (some m)), .inl v1] h) (rI fun x h' => h' = h ∧ (0 ≤ x.toInt ∧ x.toInt < 9216 ∧ ((ia σ0 8 v1.toInt.toNat).toInt = 81 → 1024 ≤ x.toInt) ∧ x = whx σ0 v1.toInt)) := by
  obtain ⟨P1, P2, P3, P4, P5⟩ := id hP
  obtain ⟨⟨o1, o2⟩, o3⟩ := id ho
  refine wq_eq e_Ref_where ?_
  refine wq_gR H.1 rfl ?_
  refine rv_n H G (by omega) rfl rfl (nQ_j (by omega)) (by omega) (by show _ < (24000 : Int); omega) ?_
  refine wq_if _ (fun c1 => ?_) (fun c1 => ?_)
  · refine wq_gR H.1 rfl ?_
    refine rv_n H G (by omega) rfl rfl (nQ_j (by omega)) (by have := congrArg Int32.toInt c1; have : (80 : Int32).toInt = 80 := rfl; omega) (by have := congrArg Int32.toInt c1; have : (80 : Int32).toInt = 80 := rfl; show _ < (24000 : Int); omega) ?_
    exact wq_some (rI_i ⟨rfl, ⟨(by have := congrArg Int32.toInt c1; have : (80 : Int32).toInt = 80 := rfl; omega), (by have := congrArg Int32.toInt c1; have : (80 : Int32).toInt = 80 := rfl; omega), fun _ => (by have := congrArg Int32.toInt c1; have : (80 : Int32).toInt = 80 := rfl; omega), (if_pos c1).symm⟩⟩)
  · refine wq_gR H.1 rfl ?_
    refine wq_gI H.1 rfl ?_
    rw [show σ.1 39 = σ0.1 39 from G.1 39 (nQ_f (by omega))]
    refine rv_n H G (by omega) rfl rfl (nQ_j (by omega)) (by have := ne_i c1; have : (80 : Int32).toInt = 80 := rfl; omega) (by have := ne_i c1; have : (80 : Int32).toInt = 80 := rfl; show _ < (64 : Int); omega) ?_
    refine wq_gR H.1 rfl ?_
    refine rv_n H G (by omega) rfl rfl (nQ_j (by omega)) (by have := ne_i c1; have : (80 : Int32).toInt = 80 := rfl; omega) (by have := ne_i c1; have : (80 : Int32).toInt = 80 := rfl; show _ < (24000 : Int); omega) ?_
    exact wq_some (rI_i ⟨rfl, ⟨(by have := ne_i c1; have : (1024 : Int32).toInt = 1024 := rfl; have : (80 : Int32).toInt = 80 := rfl; have := bd_i (1024 : Int32); have := bd_i (ia σ0 18 (σ0.1 39).toInt.toNat); have : ((1024 : Int32) + ((ia σ0 18 (σ0.1 39).toInt.toNat))).toInt = (1024 : Int32).toInt + (ia σ0 18 (σ0.1 39).toInt.toNat).toInt := ad_i (by omega) (by omega); have := bd_i ((1024 : Int32) + ((ia σ0 18 (σ0.1 39).toInt.toNat))); have := bd_i (ia σ0 9 v1.toInt.toNat); have : (((1024 : Int32) + ((ia σ0 18 (σ0.1 39).toInt.toNat))) + ((ia σ0 9 v1.toInt.toNat))).toInt = ((1024 : Int32) + ((ia σ0 18 (σ0.1 39).toInt.toNat))).toInt + (ia σ0 9 v1.toInt.toNat).toInt := ad_i (by omega) (by omega); omega), (by have := ne_i c1; have : (1024 : Int32).toInt = 1024 := rfl; have : (80 : Int32).toInt = 80 := rfl; have := bd_i (1024 : Int32); have := bd_i (ia σ0 18 (σ0.1 39).toInt.toNat); have : ((1024 : Int32) + ((ia σ0 18 (σ0.1 39).toInt.toNat))).toInt = (1024 : Int32).toInt + (ia σ0 18 (σ0.1 39).toInt.toNat).toInt := ad_i (by omega) (by omega); have := bd_i ((1024 : Int32) + ((ia σ0 18 (σ0.1 39).toInt.toNat))); have := bd_i (ia σ0 9 v1.toInt.toNat); have : (((1024 : Int32) + ((ia σ0 18 (σ0.1 39).toInt.toNat))) + ((ia σ0 9 v1.toInt.toNat))).toInt = ((1024 : Int32) + ((ia σ0 18 (σ0.1 39).toInt.toNat))).toInt + (ia σ0 9 v1.toInt.toNat).toInt := ad_i (by omega) (by omega); omega), fun _ => (by have := ne_i c1; have : (1024 : Int32).toInt = 1024 := rfl; have : (80 : Int32).toInt = 80 := rfl; have := bd_i (1024 : Int32); have := bd_i (ia σ0 18 (σ0.1 39).toInt.toNat); have : ((1024 : Int32) + ((ia σ0 18 (σ0.1 39).toInt.toNat))).toInt = (1024 : Int32).toInt + (ia σ0 18 (σ0.1 39).toInt.toNat).toInt := ad_i (by omega) (by omega); have := bd_i ((1024 : Int32) + ((ia σ0 18 (σ0.1 39).toInt.toNat))); have := bd_i (ia σ0 9 v1.toInt.toNat); have : (((1024 : Int32) + ((ia σ0 18 (σ0.1 39).toInt.toNat))) + ((ia σ0 9 v1.toInt.toNat))).toInt = ((1024 : Int32) + ((ia σ0 18 (σ0.1 39).toInt.toNat))).toInt + (ia σ0 9 v1.toInt.toNat).toInt := ad_i (by omega) (by omega); omega), (if_neg c1).symm⟩⟩)
theorem v_function {n e : Nat} (ih : ∀ (D : Nat) {h : ah_H} {σ : rS} {v1 v2 : Int32}, 2 * n + 6 ≤ D → RH m σ b h → OKV σ → sm (QR p) σ0 σ → PV σ0 → xE σ0 n v1.toInt → 9872 ≤ v2.toInt → v2.toInt + n ≤ 10099 → wq (vc lim D m_Ref_find [.inr (.inr (some m)), .inl v1, .inl v2] h) (rI fun x h' => rvP m p σ0 b h' ∧ (x = 0 ∨ x = 1))) {h : ah_H} {v1 : Int32} {v2 : Int32} {v3 : Int32} {v4 : Int32} (H : RH m σ b h) (O : OKV σ) (G : sm (QR p) σ0 σ)  (hD : 2 * n + 2 ≤ e) (hP : PV σ0) (hv : ((v2.toInt = 8 ∨ v2.toInt = 9) ∧ sB σ0 v3.toInt) ∨ (v2.toInt = 10 ∧ xE σ0 n v3.toInt) ∨ (v2.toInt = 11 ∧ xE σ0 n v3.toInt ∧ vN σ0 ((ia σ0 12 v3.toInt.toNat).toInt) ∧ 1 ≤ (ia σ0 9 (ia σ0 12 v3.toInt.toNat).toInt.toNat).toInt ∧ (ia σ0 9 (ia σ0 12 v3.toInt.toNat).toInt.toNat).toInt ≤ 64)) (g0 : 9872 ≤ v4.toInt) (g1 : v4.toInt + (n + 1 : Nat) ≤ 10099) : wq (vc lim (e + 5) m_Ref_function [.inr (.inr (some m)), .inl v1, .inl v2, .inl v3, .inl v4] h) (rI fun x h' => rvP m p σ0 b h' ∧ (x = 0 ∨ x = 1)) := by
  have hs : v2 < (10 : Int32) → sB σ0 v3.toInt := fun hc => by
    have := lt_i hc
    have : (10 : Int32).toInt = 10 := rfl
    rcases hv with g | g | g
    · exact g.2
    · omega
    · omega
  have hx : ¬ v2 < (10 : Int32) → xE σ0 n v3.toInt := fun hc => by
    have := nlt_i hc
    have : (10 : Int32).toInt = 10 := rfl
    rcases hv with g | g | g
    · omega
    · exact g.2
    · exact g.2.1
  have h11 : ¬ v2 < (10 : Int32) → ¬ v2 = (10 : Int32) → vN σ0 ((ia σ0 12 v3.toInt.toNat).toInt) ∧ 1 ≤ (ia σ0 9 (ia σ0 12 v3.toInt.toNat).toInt.toNat).toInt ∧ (ia σ0 9 (ia σ0 12 v3.toInt.toNat).toInt.toNat).toInt ≤ 64 := fun hc hc2 => by
    have := nlt_i hc
    have := ne_i hc2
    have : (10 : Int32).toInt = 10 := rfl
    rcases hv with g | g | g
    · omega
    · omega
    · exact g.2.2
  refine wq_eq e_Ref_function ?_
  refine wq_if _ (fun c1 => ?_) (fun c1 => ?_)
  · obtain ⟨⟨s1, s2⟩, s3, s4⟩ := hs c1
    refine wq_gR H.1 rfl ?_
    refine rv_n H G (by omega) rfl rfl (nQ_j (by omega)) (by omega) (by show _ < (24000 : Int); omega) ?_
    refine wq_gR H.1 rfl ?_
    refine ra_J H (by omega) rfl (by omega) (by show _ < (10100 : Int); omega) ?_
    refine wq_gR H.1 rfl ?_
    refine ra_J H (by omega) rfl (by have : (512 : Int32).toInt = 512 := rfl; have := bd_i (512 : Int32); have := bd_i (ia σ0 9 v3.toInt.toNat); have : ((512 : Int32) + ((ia σ0 9 v3.toInt.toNat))).toInt = (512 : Int32).toInt + (ia σ0 9 v3.toInt.toNat).toInt := ad_i (by omega) (by omega); omega) (by have : (512 : Int32).toInt = 512 := rfl; have := bd_i (512 : Int32); have := bd_i (ia σ0 9 v3.toInt.toNat); have : ((512 : Int32) + ((ia σ0 9 v3.toInt.toNat))).toInt = (512 : Int32).toInt + (ia σ0 9 v3.toInt.toNat).toInt := ad_i (by omega) (by omega); show _ < (10100 : Int); omega) ?_
    refine wq_gR H.1 rfl ?_
    refine rv_n H G (by omega) rfl rfl (nQ_j (by omega)) (by omega) (by show _ < (512 : Int); omega) ?_
    refine wq_if _ (fun c2 => ?_) (fun c2 => ?_)
    · refine wq_at H.1 ?_
      refine wq_cI (v_truth H O G (by omega) (by omega)) ?_
      rintro y9 h3 ⟨⟨s5, H6, O7, G8⟩, p4⟩
      exact wq_t p4 (wq_some (rI_i ⟨⟨_, H6, O7, G8⟩, p4⟩))
    · refine wq_if _ (fun c10 => ?_) (fun c10 => ?_)
      · refine wq_cI (v_isHigh) ?_
        rintro y13 h11 ⟨rfl, p12⟩
        refine wq_if _ (fun c14 => ?_) (fun c14 => ?_)
        · refine wq_at H.1 ?_
          refine wq_cI (v_truth H O G (by omega) (by omega)) ?_
          rintro y21 h15 ⟨⟨s17, H18, O19, G20⟩, p16⟩
          exact wq_t p16 (wq_some (rI_i ⟨⟨_, H18, O19, G20⟩, p16⟩))
        · refine wq_cI (v_isLow) ?_
          rintro y24 h22 ⟨rfl, p23⟩
          refine wq_if _ (fun c25 => ?_) (fun c25 => ?_)
          · refine wq_at H.1 ?_
            refine wq_cI (v_truth H O G (by omega) (by omega)) ?_
            rintro y32 h26 ⟨⟨s28, H29, O30, G31⟩, p27⟩
            exact wq_t p27 (wq_some (rI_i ⟨⟨_, H29, O30, G31⟩, p27⟩))
          · refine wq_at H.1 ?_
            refine wq_cI (v_truth H O G (by omega) (by omega)) ?_
            rintro y39 h33 ⟨⟨s35, H36, O37, G38⟩, p34⟩
            exact wq_t p34 (wq_some (rI_i ⟨⟨_, H36, O37, G38⟩, p34⟩))
      · refine wq_cI (v_isLow) ?_
        rintro y42 h40 ⟨rfl, p41⟩
        refine wq_if _ (fun c43 => ?_) (fun c43 => ?_)
        · refine wq_at H.1 ?_
          refine wq_cI (v_truth H O G (by omega) (by omega)) ?_
          rintro y50 h44 ⟨⟨s46, H47, O48, G49⟩, p45⟩
          exact wq_t p45 (wq_some (rI_i ⟨⟨_, H47, O48, G49⟩, p45⟩))
        · refine wq_cI (v_isHigh) ?_
          rintro y53 h51 ⟨rfl, p52⟩
          refine wq_if _ (fun c54 => ?_) (fun c54 => ?_)
          · refine wq_at H.1 ?_
            refine wq_cI (v_truth H O G (by omega) (by omega)) ?_
            rintro y61 h55 ⟨⟨s57, H58, O59, G60⟩, p56⟩
            exact wq_t p56 (wq_some (rI_i ⟨⟨_, H58, O59, G60⟩, p56⟩))
          · refine wq_at H.1 ?_
            refine wq_cI (v_truth H O G (by omega) (by omega)) ?_
            rintro y68 h62 ⟨⟨s64, H65, O66, G67⟩, p63⟩
            exact wq_t p63 (wq_some (rI_i ⟨⟨_, H65, O66, G67⟩, p63⟩))
  · have hx := hx c1
    obtain ⟨X1, X2⟩ := xE_v hx
    refine wq_at H.1 ?_
    refine wq_cI (ih _ (by omega) H O G hP hx (by omega) (by omega)) ?_
    rintro y75 h69 ⟨⟨s71, H72, O73, G74⟩, p70⟩
    refine wq_if _ (fun c76 => ?_) (fun c76 => ?_)
    · exact wq_t (Or.inl rfl) (wq_some (rI_i ⟨⟨_, H72, O73, G74⟩, (Or.inl rfl)⟩))
    · refine wq_if _ (fun c77 => ?_) (fun c77 => ?_)
      · refine wq_gR H72.1 rfl ?_
        refine rv_0 H72 O73 (by omega) (by show _ < (10100 : Int); omega) (fun u78 q79 q80 => ?_)
        refine wq_if _ (fun c81 => ?_) (fun c81 => ?_)
        · refine wq_at H72.1 ?_
          refine wq_cJ (v_numberOf H72 O73 G74 (by omega) (by omega)) ?_
          rintro j84 h82 ⟨rfl, p83⟩
          refine wq_at H72.1 ?_
          refine wq_cI (v_clear H72 O73 G74 (by omega) (by omega)) ?_
          rintro y87 h85 ⟨rfl, p86⟩
          refine wq_if _ (fun c88 => ?_) (fun c88 => ?_)
          · refine wq_at H72.1 ?_
            refine wq_cI (v_fail H72 O73 G74) ?_
            rintro y95 h89 ⟨⟨s91, H92, O93, G94⟩, p90⟩
            exact wq_t p90.1 (wq_some (rI_i ⟨⟨_, H92, O93, G94⟩, p90.1⟩))
          · refine wq_if _ (fun c96 => ?_) (fun c96 => ?_)
            · refine wq_at H72.1 ?_
              refine wq_cI (v_fail H72 O73 G74) ?_
              rintro y103 h97 ⟨⟨s99, H100, O101, G102⟩, p98⟩
              exact wq_t p98.1 (wq_some (rI_i ⟨⟨_, H100, O101, G102⟩, p98.1⟩))
            · refine wq_if _ (fun c104 => ?_) (fun c104 => ?_)
              · refine wq_at H72.1 ?_
                refine wq_cI (v_numeral H72 O73 G74 (by omega) (by omega)) ?_
                rintro y111 h105 ⟨⟨s107, H108, O109, G110⟩, p106⟩
                exact wq_t p106 (wq_some (rI_i ⟨⟨_, H108, O109, G110⟩, p106⟩))
              · refine wq_at H72.1 ?_
                refine wq_cI (v_fail H72 O73 G74) ?_
                rintro y118 h112 ⟨⟨s114, H115, O116, G117⟩, p113⟩
                exact wq_t p113.1 (wq_some (rI_i ⟨⟨_, H115, O116, G117⟩, p113.1⟩))
        · refine wq_at H72.1 ?_
          refine wq_cI (v_fail H72 O73 G74) ?_
          rintro y125 h119 ⟨⟨s121, H122, O123, G124⟩, p120⟩
          exact wq_t p120.1 (wq_some (rI_i ⟨⟨_, H122, O123, G124⟩, p120.1⟩))
      · obtain ⟨⟨t1, t2⟩, t3, t4⟩ := h11 c1 c77
        refine wq_gR H72.1 rfl ?_
        refine rv_0 H72 O73 (by omega) (by show _ < (10100 : Int); omega) (fun u126 q127 q128 => ?_)
        refine wq_if _ (fun c129 => ?_) (fun c129 => ?_)
        · refine wq_gR H72.1 rfl ?_
          refine ra_J H72 (by omega) rfl (by omega) (by show _ < (10100 : Int); omega) ?_
          refine wq_gR H72.1 rfl ?_
          refine wq_gR H72.1 rfl ?_
          refine rv_n H72 G74 (by omega) rfl rfl (nQ_j (by omega)) (by omega) (by show _ < (24000 : Int); omega) ?_
          refine rv_n H72 G74 (by omega) rfl rfl (nQ_j (by omega)) (by omega) (by show _ < (24000 : Int); omega) ?_
          refine wq_at H72.1 ?_
          refine wq_cV (v_row H72 O73 G74 (by omega) (by omega) (by omega) (by omega)) ?_
          rintro h130 ⟨s132, H133, O134, G135⟩
          refine wq_at H133.1 ?_
          refine wq_cV (v_bits H133 O134 G135 (by omega) (by omega)) ?_
          rintro h136 ⟨s138, H139, O140, G141⟩
          exact wq_t (Or.inr rfl) (wq_some (rI_i ⟨⟨_, H139, O140, G141⟩, (Or.inr rfl)⟩))
        · refine wq_at H72.1 ?_
          refine wq_cI (v_fail H72 O73 G74) ?_
          rintro y148 h142 ⟨⟨s144, H145, O146, G147⟩, p143⟩
          exact wq_t p143.1 (wq_some (rI_i ⟨⟨_, H145, O146, G147⟩, p143.1⟩))
theorem w_75_153 {e : Nat} {v2 : Int32} (g0 : 9872 ≤ v2.toInt) (g1 : v2.toInt < 10100) : ∀ (j : Nat) (h1 : ah_H) (σ1 : rS) (v5 v6 : Int32), chn σ0 j v5.toInt → v6.toInt + 1 = j → j ≤ 64 → RH m σ1 b h1 → OKV σ1 → sm (QR p) σ0 σ1 → wq (ah_val lim ah_P (e + 5) 75 153 [some (.inr (.inr (some m))), none, some (.inl v2), none, none, some (.inl v5), some (.inl v6), none] [] h1) (rI fun x h' => rvP m p σ0 b h' ∧ (x = 0 ∨ x = 1)) := by
  intro j
  induction j with
  | zero =>
    intro h1 σ1 v5 v6 hc hv hj H O G
    have hc : v5.toInt = -1 := hc
    exact wq_eq q_75_153 (wq_t (Int32.toInt_inj.mp (by rw [hc, li_m1])) (wq_t (by decide) (wq_some (rI_i ⟨⟨_, H, O, G⟩, Or.inr rfl⟩))))
  | succ j ih =>
    intro h1 σ1 v5 v6 hc hv hj H O G
    obtain ⟨⟨c1, c2⟩, c3⟩ := hc
    refine wq_eq q_75_153 (wq_f (fun he => by have := congrArg Int32.toInt he; rw [li_m1] at this; omega) ?_)
    refine wq_gR H.1 rfl (rv_n H G (by omega) rfl rfl (nQ_j (by omega)) (by omega) (by show _ < (24000 : Int); omega) (wq_at H.1 (wq_cV (v_setElement H O G (by omega) g1 (by omega) (by omega)) ?_)))
    rintro h3 ⟨σ3, H3, O3, G3⟩
    refine wq_gR H3.1 rfl (rv_n H3 G3 (by omega) rfl rfl (nQ_j (by omega)) (by omega) (by show _ < (24000 : Int); omega) ?_)
    exact ih h3 σ3 _ _ c3 (by rw [dec_i (by omega)]; omega) (by omega) H3 O3 G3
theorem w_75_361 {e : Nat} {v3 : Int32} (hP : PV σ0) (ho : oB σ0 v3.toInt) : ∀ (M : Nat) (h1 : ah_H) (σ1 : rS) (v2 : Int32) (v5 : Int32) (v6 : Int32) (v7 : Int32), (2147483647 - v7.toInt).toNat < M → 0 ≤ v7.toInt → 0 ≤ v5.toInt → v5.toInt + v6.toInt ≤ 64 → 9344 ≤ v2.toInt → v2.toInt < 10100 → RH m σ1 b h1 → OKV σ1 → sm (QR p) σ0 σ1 → wq (ah_val lim ah_P (e + 5) 75 361 [some (.inr (.inr (some m))), none, some (.inl v2), some (.inl v3), none, some (.inl v5), some (.inl v6), some (.inl v7)] [] h1) (rI fun x h' => rvP m p σ0 b h' ∧ (x = 0 ∨ x = 1)) := by
  intro M
  induction M with
  | zero => intros; omega
  | succ M ih =>
      intro h1 σ1 v2 v5 v6 v7 hM iv0 iv1 iv2 iv3 iv4 H O G
      refine wq_eq q_75_361 ?_
      refine wq_if _ (fun c1 => ?_) (fun c1 => ?_)
      · refine wq_at H.1 ?_
        refine wq_cI (v_where H O G hP ho) ?_
        rintro y4 h2 ⟨rfl, p3⟩
        obtain ⟨q5, q6, q7, q8⟩ := p3
        refine wq_at H.1 ?_
        refine wq_cI (v_element H O G (by omega) (by omega) (by have := lt_i c1; have := bd_i v5; have := bd_i v7; have : (v5 + v7).toInt = v5.toInt + v7.toInt := ad_i (by omega) (by omega); omega) (by have := lt_i c1; have := bd_i v5; have := bd_i v7; have : (v5 + v7).toInt = v5.toInt + v7.toInt := ad_i (by omega) (by omega); omega)) ?_
        rintro y11 h9 ⟨rfl, p10⟩
        refine wq_at H.1 ?_
        refine wq_cV (v_setElement H O G (by omega) (by omega) (by have := lt_i c1; omega) (by have := lt_i c1; omega)) ?_
        rintro h12 ⟨s14, H15, O16, G17⟩
        exact ih _ _ _ _ _ _ (by have := lt_i c1; have : (1 : Int32).toInt = 1 := rfl; have := bd_i v7; have := bd_i (1 : Int32); have : (v7 + (1 : Int32)).toInt = v7.toInt + (1 : Int32).toInt := ad_i (by omega) (by omega); omega) (by have := lt_i c1; have : (1 : Int32).toInt = 1 := rfl; have := bd_i v7; have := bd_i (1 : Int32); have : (v7 + (1 : Int32)).toInt = v7.toInt + (1 : Int32).toInt := ad_i (by omega) (by omega); omega) (by omega) (by have := lt_i c1; omega) (by omega) (by omega) H15 O16 G17
      · exact wq_t (Or.inr rfl) (wq_some (rI_i ⟨⟨_, H, O, G⟩, (Or.inr rfl)⟩))
theorem v_find : ∀ (n D : Nat) {h : ah_H} {σ : rS} {v1 v2 : Int32}, 2 * n + 6 ≤ D → RH m σ b h → OKV σ → sm (QR p) σ0 σ → PV σ0 → xE σ0 n v1.toInt → 9872 ≤ v2.toInt → v2.toInt + n ≤ 10099 → wq (vc lim D m_Ref_find [.inr (.inr (some m)), .inl v1, .inl v2] h) (rI fun x h' => rvP m p σ0 b h' ∧ (x = 0 ∨ x = 1)) := by
  intro n
  induction n with
  | zero => intro D h σ v1 v2 _ _ _ _ _ hE; exact hE.elim
  | succ n ih =>
    intro D h σ v1 v2 hD H O G hP hE g0 g1
    obtain ⟨e, rfl⟩ : ∃ e, D = e + 6 := ⟨D - 6, by omega⟩
    obtain ⟨k1, k2⟩ := xE_v hE
    refine wq_eq e_Ref_find ?_
    refine wq_gR H.1 rfl ?_
    refine rv_n H G (by omega) rfl rfl (nQ_j (by omega)) (by omega) (by show _ < (24000 : Int); omega) ?_
    refine wq_gR H.1 rfl ?_
    refine rv_n H G (by omega) rfl rfl (nQ_j (by omega)) (by omega) (by show _ < (24000 : Int); omega) ?_
    refine wq_gR H.1 rfl ?_
    refine rv_n H G (by omega) rfl rfl (nQ_j (by omega)) (by omega) (by show _ < (24000 : Int); omega) ?_
    refine wq_if _ (fun c1 => ?_) (fun c1 => ?_)
    · refine wq_at H.1 ?_
      refine wq_cI (v_numeral H O G (by omega) (by omega)) ?_
      rintro y8 h2 ⟨⟨s4, H5, O6, G7⟩, p3⟩
      exact wq_t p3 (wq_some (rI_i ⟨⟨_, H5, O6, G7⟩, p3⟩))
    refine wq_if _ (fun c9 => ?_) (fun c9 => ?_)
    · refine wq_at H.1 ?_
      refine wq_cI (v_logic H O G (by omega) (by omega)) ?_
      rintro y16 h10 ⟨⟨s12, H13, O14, G15⟩, p11⟩
      exact wq_t p11 (wq_some (rI_i ⟨⟨_, H13, O14, G15⟩, p11⟩))
    refine wq_if _ (fun c17 => ?_) (fun c17 => ?_)
    · obtain ⟨r1, r2, r3⟩ := x4 hE (congrArg Int32.toInt c17)
      refine wq_gR H.1 rfl ?_
      refine rv_n H G (by omega) rfl rfl (nQ_j (by omega)) (by have := ne_i c1; have := ne_i c9; have := congrArg Int32.toInt c17; have : (2 : Int32).toInt = 2 := rfl; have : (3 : Int32).toInt = 3 := rfl; have : (4 : Int32).toInt = 4 := rfl; omega) (by have := ne_i c1; have := ne_i c9; have := congrArg Int32.toInt c17; have : (2 : Int32).toInt = 2 := rfl; have : (3 : Int32).toInt = 3 := rfl; have : (4 : Int32).toInt = 4 := rfl; show _ < (24000 : Int); omega) ?_
      refine wq_at H.1 ?_
      refine wq_cV (v_row H O G (by omega) (by omega) (by have := ne_i c1; have := ne_i c9; have := congrArg Int32.toInt c17; have : (2 : Int32).toInt = 2 := rfl; have : (3 : Int32).toInt = 3 := rfl; have : (4 : Int32).toInt = 4 := rfl; omega) (by have := ne_i c1; have := ne_i c9; have := congrArg Int32.toInt c17; have : (2 : Int32).toInt = 2 := rfl; have : (3 : Int32).toInt = 3 := rfl; have : (4 : Int32).toInt = 4 := rfl; omega)) ?_
      rintro h18 ⟨s20, H21, O22, G23⟩
      refine wq_gR H21.1 rfl ?_
      refine rv_n H21 G23 (by omega) rfl rfl (nQ_j (by omega)) (by have := ne_i c1; have := ne_i c9; have := congrArg Int32.toInt c17; have : (2 : Int32).toInt = 2 := rfl; have : (3 : Int32).toInt = 3 := rfl; have : (4 : Int32).toInt = 4 := rfl; omega) (by have := ne_i c1; have := ne_i c9; have := congrArg Int32.toInt c17; have : (2 : Int32).toInt = 2 := rfl; have : (3 : Int32).toInt = 3 := rfl; have : (4 : Int32).toInt = 4 := rfl; show _ < (24000 : Int); omega) ?_
      exact w_75_153 (by omega) (by omega) ((ia σ0 10 v1.toInt.toNat).toInt).toNat _ _ _ _ r3 (by have := ne_i c1; have := ne_i c9; have := congrArg Int32.toInt c17; have : (1 : Int32).toInt = 1 := rfl; have : (2 : Int32).toInt = 2 := rfl; have : (3 : Int32).toInt = 3 := rfl; have : (4 : Int32).toInt = 4 := rfl; have := bd_i (ia σ0 10 v1.toInt.toNat); have := bd_i (1 : Int32); have : (((ia σ0 10 v1.toInt.toNat)) - (1 : Int32)).toInt = (ia σ0 10 v1.toInt.toNat).toInt - (1 : Int32).toInt := sb_i (by omega) (by omega); omega) (by omega) H21 O22 G23
    refine wq_if _ (fun c24 => ?_) (fun c24 => ?_)
    · have xa := x20 hE (congrArg Int32.toInt c24)
      obtain ⟨a1, a2⟩ := xE_v xa
      refine wq_at H.1 ?_
      refine wq_cI (ih _ (by omega) H O G hP xa (by omega) (by omega)) ?_
      rintro y31 h25 ⟨⟨s27, H28, O29, G30⟩, p26⟩
      refine wq_if _ (fun c32 => ?_) (fun c32 => ?_)
      · exact wq_t (Or.inl rfl) (wq_some (rI_i ⟨⟨_, H28, O29, G30⟩, (Or.inl rfl)⟩))
      · refine wq_at H28.1 ?_
        refine wq_cI (v_one H28 O29 G30 (by omega) (by omega)) ?_
        rintro y39 h33 ⟨⟨s35, H36, O37, G38⟩, p34⟩
        refine wq_if _ (fun c40 => ?_) (fun c40 => ?_)
        · exact wq_t (Or.inl rfl) (wq_some (rI_i ⟨⟨_, H36, O37, G38⟩, (Or.inl rfl)⟩))
        · exact wq_t (Or.inr rfl) (wq_some (rI_i ⟨⟨_, H36, O37, G38⟩, (Or.inr rfl)⟩))
    refine wq_if _ (fun c41 => ?_) (fun c41 => ?_)
    · obtain ⟨xa, xb⟩ := x21 hE (congrArg Int32.toInt c41)
      obtain ⟨a1, a2⟩ := xE_v xa
      refine wq_at H.1 ?_
      refine wq_cI (ih _ (by omega) H O G hP xa (by omega) (by omega)) ?_
      rintro y48 h42 ⟨⟨s44, H45, O46, G47⟩, p43⟩
      refine wq_if _ (fun c49 => ?_) (fun c49 => ?_)
      · exact wq_t (Or.inl rfl) (wq_some (rI_i ⟨⟨_, H45, O46, G47⟩, (Or.inl rfl)⟩))
      · refine wq_gR H45.1 rfl ?_
        refine rv_n H45 G47 (by omega) rfl rfl (nQ_j (by omega)) (by have := ne_i c1; have := ne_i c9; have := ne_i c17; have := ne_i c24; have := congrArg Int32.toInt c41; have : (2 : Int32).toInt = 2 := rfl; have : (20 : Int32).toInt = 20 := rfl; have : (21 : Int32).toInt = 21 := rfl; have : (3 : Int32).toInt = 3 := rfl; have : (4 : Int32).toInt = 4 := rfl; omega) (by have := ne_i c1; have := ne_i c9; have := ne_i c17; have := ne_i c24; have := congrArg Int32.toInt c41; have : (2 : Int32).toInt = 2 := rfl; have : (20 : Int32).toInt = 20 := rfl; have : (21 : Int32).toInt = 21 := rfl; have : (3 : Int32).toInt = 3 := rfl; have : (4 : Int32).toInt = 4 := rfl; show _ < (24000 : Int); omega) ?_
        refine wq_at H45.1 ?_
        refine wq_cI (ih _ (by omega) H45 O46 G47 hP xb (by have : (1 : Int32).toInt = 1 := rfl; have := bd_i v2; have := bd_i (1 : Int32); have : (v2 + (1 : Int32)).toInt = v2.toInt + (1 : Int32).toInt := ad_i (by omega) (by omega); omega) (by have : (1 : Int32).toInt = 1 := rfl; have := bd_i v2; have := bd_i (1 : Int32); have : (v2 + (1 : Int32)).toInt = v2.toInt + (1 : Int32).toInt := ad_i (by omega) (by omega); omega)) ?_
        rintro y56 h50 ⟨⟨s52, H53, O54, G55⟩, p51⟩
        refine wq_if _ (fun c57 => ?_) (fun c57 => ?_)
        · exact wq_t (Or.inl rfl) (wq_some (rI_i ⟨⟨_, H53, O54, G55⟩, (Or.inl rfl)⟩))
        · refine wq_at H53.1 ?_
          refine wq_cI (v_two H53 O54 G55 (by omega) (by omega)) ?_
          rintro y64 h58 ⟨⟨s60, H61, O62, G63⟩, p59⟩
          refine wq_if _ (fun c65 => ?_) (fun c65 => ?_)
          · exact wq_t (Or.inl rfl) (wq_some (rI_i ⟨⟨_, H61, O62, G63⟩, (Or.inl rfl)⟩))
          · exact wq_t (Or.inr rfl) (wq_some (rI_i ⟨⟨_, H61, O62, G63⟩, (Or.inr rfl)⟩))
    refine wq_if _ (fun c66 => ?_) (fun c66 => ?_)
    · have ob := x80 hE (Or.inl (congrArg Int32.toInt c66))
      refine wq_at H.1 ?_
      refine wq_cI (v_where H O G hP ob) ?_
      rintro y69 h67 ⟨rfl, p68⟩
      obtain ⟨q70, q71, q72, q73⟩ := p68
      refine wq_at H.1 ?_
      refine wq_cV (v_copy H O G (by omega) (by omega) (by omega) (by omega)) ?_
      rintro h74 ⟨s76, H77, O78, G79⟩
      exact wq_t (Or.inr rfl) (wq_some (rI_i ⟨⟨_, H77, O78, G79⟩, (Or.inr rfl)⟩))
    refine wq_if _ (fun c80 => ?_) (fun c80 => ?_)
    · have ob := x80 hE (Or.inr (congrArg Int32.toInt c80))
      refine wq_at H.1 ?_
      refine wq_cI (v_where H O G hP ob) ?_
      rintro y83 h81 ⟨rfl, p82⟩
      obtain ⟨q84, q85, q86, q87⟩ := p82
      refine wq_at H.1 ?_
      refine wq_cV (v_copy H O G (by omega) (by omega) (by omega) (by omega)) ?_
      rintro h88 ⟨s90, H91, O92, G93⟩
      exact wq_t (Or.inr rfl) (wq_some (rI_i ⟨⟨_, H91, O92, G93⟩, (Or.inr rfl)⟩))
    refine wq_if _ (fun c94 => ?_) (fun c94 => ?_)
    · obtain ⟨xa, ob, xb⟩ := x82 hE (congrArg Int32.toInt c94)
      obtain ⟨a1, a2⟩ := xE_v xa
      refine wq_at H.1 ?_
      refine wq_cI (ih _ (by omega) H O G hP xa (by omega) (by omega)) ?_
      rintro y101 h95 ⟨⟨s97, H98, O99, G100⟩, p96⟩
      refine wq_if _ (fun c102 => ?_) (fun c102 => ?_)
      · exact wq_t (Or.inl rfl) (wq_some (rI_i ⟨⟨_, H98, O99, G100⟩, (Or.inl rfl)⟩))
      · refine wq_gR H98.1 rfl ?_
        refine rv_n H98 G100 (by omega) rfl rfl (nQ_j (by omega)) (by have := ne_i c1; have := ne_i c9; have := ne_i c17; have := ne_i c24; have := ne_i c41; have := ne_i c66; have := ne_i c80; have := congrArg Int32.toInt c94; have : (2 : Int32).toInt = 2 := rfl; have : (20 : Int32).toInt = 20 := rfl; have : (21 : Int32).toInt = 21 := rfl; have : (3 : Int32).toInt = 3 := rfl; have : (4 : Int32).toInt = 4 := rfl; have : (80 : Int32).toInt = 80 := rfl; have : (81 : Int32).toInt = 81 := rfl; have : (82 : Int32).toInt = 82 := rfl; omega) (by have := ne_i c1; have := ne_i c9; have := ne_i c17; have := ne_i c24; have := ne_i c41; have := ne_i c66; have := ne_i c80; have := congrArg Int32.toInt c94; have : (2 : Int32).toInt = 2 := rfl; have : (20 : Int32).toInt = 20 := rfl; have : (21 : Int32).toInt = 21 := rfl; have : (3 : Int32).toInt = 3 := rfl; have : (4 : Int32).toInt = 4 := rfl; have : (80 : Int32).toInt = 80 := rfl; have : (81 : Int32).toInt = 81 := rfl; have : (82 : Int32).toInt = 82 := rfl; show _ < (24000 : Int); omega) ?_
        refine wq_at H98.1 ?_
        refine wq_cI (ih _ (by omega) H98 O99 G100 hP xb (by have : (1 : Int32).toInt = 1 := rfl; have := bd_i v2; have := bd_i (1 : Int32); have : (v2 + (1 : Int32)).toInt = v2.toInt + (1 : Int32).toInt := ad_i (by omega) (by omega); omega) (by have : (1 : Int32).toInt = 1 := rfl; have := bd_i v2; have := bd_i (1 : Int32); have : (v2 + (1 : Int32)).toInt = v2.toInt + (1 : Int32).toInt := ad_i (by omega) (by omega); omega)) ?_
        rintro y109 h103 ⟨⟨s105, H106, O107, G108⟩, p104⟩
        refine wq_if _ (fun c110 => ?_) (fun c110 => ?_)
        · exact wq_t (Or.inl rfl) (wq_some (rI_i ⟨⟨_, H106, O107, G108⟩, (Or.inl rfl)⟩))
        · refine wq_at H106.1 ?_
          refine wq_cI (v_findElement H106 O107 G108 (by omega) (by omega)) ?_
          rintro y117 h111 ⟨⟨s113, H114, O115, G116⟩, p112⟩
          refine wq_if _ (fun c118 => ?_) (fun c118 => ?_)
          · exact wq_t (Or.inl rfl) (wq_some (rI_i ⟨⟨_, H114, O115, G116⟩, (Or.inl rfl)⟩))
          · exact wq_t (Or.inr rfl) (wq_some (rI_i ⟨⟨_, H114, O115, G116⟩, (Or.inr rfl)⟩))
    refine wq_if _ (fun c119 => ?_) (fun c119 => ?_)
    · obtain ⟨ob, ⟨a1, a2⟩, ⟨a3, a4⟩, a5, a6, a7⟩ := x83 hE (congrArg Int32.toInt c119)
      obtain ⟨a8, a9⟩ := ob.1
      refine wq_at H.1 ?_
      refine wq_cI (v_where H O G hP ob) ?_
      rintro y122 h120 ⟨rfl, p121⟩
      obtain ⟨q123, q124, q125, q126⟩ := p121
      refine wq_at H.1 ?_
      refine wq_cV (v_copy H O G (by omega) (by omega) (by omega) (by omega)) ?_
      rintro h127 ⟨s129, H130, O131, G132⟩
      refine wq_gR H130.1 rfl ?_
      refine wq_gR H130.1 rfl ?_
      refine rv_n H130 G132 (by omega) rfl rfl (nQ_j (by omega)) (by have := congrArg Int32.toInt c119; have : (83 : Int32).toInt = 83 := rfl; omega) (by have := congrArg Int32.toInt c119; have : (83 : Int32).toInt = 83 := rfl; show _ < (24000 : Int); omega) ?_
      refine rv_n H130 G132 (by omega) rfl rfl (nQ_j (by omega)) (by have := congrArg Int32.toInt c119; have : (83 : Int32).toInt = 83 := rfl; omega) (by have := congrArg Int32.toInt c119; have : (83 : Int32).toInt = 83 := rfl; show _ < (24000 : Int); omega) ?_
      refine wq_gR H130.1 rfl ?_
      refine wq_gR H130.1 rfl ?_
      refine wq_gR H130.1 rfl ?_
      refine rv_n H130 G132 (by omega) rfl rfl (nQ_j (by omega)) (by have := congrArg Int32.toInt c119; have : (83 : Int32).toInt = 83 := rfl; omega) (by have := congrArg Int32.toInt c119; have : (83 : Int32).toInt = 83 := rfl; show _ < (24000 : Int); omega) ?_
      refine rv_n H130 G132 (by omega) rfl rfl (nQ_j (by omega)) (by have := congrArg Int32.toInt c119; have : (83 : Int32).toInt = 83 := rfl; omega) (by have := congrArg Int32.toInt c119; have : (83 : Int32).toInt = 83 := rfl; show _ < (24000 : Int); omega) ?_
      refine rv_n H130 G132 (by omega) rfl rfl (nQ_j (by omega)) (by have := congrArg Int32.toInt c119; have : (83 : Int32).toInt = 83 := rfl; omega) (by have := congrArg Int32.toInt c119; have : (83 : Int32).toInt = 83 := rfl; show _ < (24000 : Int); omega) ?_
      refine wq_at H130.1 ?_
      refine wq_cV (v_row H130 O131 G132 (by omega) (by omega) (by have := congrArg Int32.toInt c119; have : (83 : Int32).toInt = 83 := rfl; omega) (by have := congrArg Int32.toInt c119; have : (83 : Int32).toInt = 83 := rfl; omega)) ?_
      rintro h133 ⟨s135, H136, O137, G138⟩
      exact w_75_361 hP ob _ _ _ _ _ _ _ (Nat.lt_succ_self _) (by have := ne_i c1; have := ne_i c9; have := ne_i c17; have := ne_i c24; have := ne_i c41; have := ne_i c66; have := ne_i c80; have := ne_i c94; have := congrArg Int32.toInt c119; have : (0 : Int32).toInt = 0 := rfl; have : (2 : Int32).toInt = 2 := rfl; have : (20 : Int32).toInt = 20 := rfl; have : (21 : Int32).toInt = 21 := rfl; have : (3 : Int32).toInt = 3 := rfl; have : (4 : Int32).toInt = 4 := rfl; have : (80 : Int32).toInt = 80 := rfl; have : (81 : Int32).toInt = 81 := rfl; have : (82 : Int32).toInt = 82 := rfl; have : (83 : Int32).toInt = 83 := rfl; omega) (by have := congrArg Int32.toInt c119; have : (83 : Int32).toInt = 83 := rfl; omega) (by have := congrArg Int32.toInt c119; have : (83 : Int32).toInt = 83 := rfl; omega) (by omega) (by omega) H136 O137 G138
    refine wq_if _ (fun c139 => ?_) (fun c139 => ?_)
    · have h84 := x84 hE (congrArg Int32.toInt c139)
      refine wq_at H.1 ?_
      refine wq_cI (v_function ih H O G (by omega) hP h84 (by omega) (by omega)) ?_
      rintro y146 h140 ⟨⟨s142, H143, O144, G145⟩, p141⟩
      exact wq_t p141 (wq_some (rI_i ⟨⟨_, H143, O144, G145⟩, p141⟩))
    obtain ⟨⟨a1, a2⟩, a3, a4⟩ := x85 hE ⟨ne_i c1, ne_i c9, ne_i c17, ne_i c24, ne_i c41, ne_i c66, ne_i c80, ne_i c94, ne_i c119, ne_i c139⟩
    refine wq_gR H.1 rfl ?_
    refine rv_n H G (by omega) rfl rfl (nQ_j (by omega)) (by omega) (by show _ < (24000 : Int); omega) ?_
    refine wq_if _ (fun c147 => ?_) (fun c147 => ?_)
    · refine wq_if _ (fun c148 => ?_) (fun c148 => ?_)
      · refine wq_gR H.1 rfl ?_
        refine rv_n H G (by omega) rfl rfl (nQ_j (by omega)) (by have := lt_i c147; have := congrArg Int32.toInt c148; have : (15 : Int32).toInt = 15 := rfl; have : (17 : Int32).toInt = 17 := rfl; omega) (by have := lt_i c147; have := congrArg Int32.toInt c148; have : (15 : Int32).toInt = 15 := rfl; have : (17 : Int32).toInt = 17 := rfl; show _ < (512 : Int); omega) ?_
        refine wq_at H.1 ?_
        refine wq_cI (v_truth H O G (by omega) (by omega)) ?_
        rintro y155 h149 ⟨⟨s151, H152, O153, G154⟩, p150⟩
        exact wq_t p150 (wq_some (rI_i ⟨⟨_, H152, O153, G154⟩, p150⟩))
      · refine wq_gR H.1 rfl ?_
        refine rv_n H G (by omega) rfl rfl (nQ_j (by omega)) (by have := lt_i c147; have : (17 : Int32).toInt = 17 := rfl; omega) (by have := lt_i c147; have : (17 : Int32).toInt = 17 := rfl; show _ < (512 : Int); omega) ?_
        refine wq_at H.1 ?_
        refine wq_cI (v_truth H O G (by omega) (by omega)) ?_
        rintro y162 h156 ⟨⟨s158, H159, O160, G161⟩, p157⟩
        exact wq_t p157 (wq_some (rI_i ⟨⟨_, H159, O160, G161⟩, p157⟩))
    · refine wq_at H.1 ?_
      refine wq_cV (v_copy H O G (by have := nlt_i c147; have : (17 : Int32).toInt = 17 := rfl; have : (512 : Int32).toInt = 512 := rfl; have := bd_i (512 : Int32); have := bd_i (ia σ0 9 (ia σ0 11 v1.toInt.toNat).toInt.toNat); have : ((512 : Int32) + ((ia σ0 9 (ia σ0 11 v1.toInt.toNat).toInt.toNat))).toInt = (512 : Int32).toInt + (ia σ0 9 (ia σ0 11 v1.toInt.toNat).toInt.toNat).toInt := ad_i (by omega) (by omega); omega) (by have := nlt_i c147; have : (17 : Int32).toInt = 17 := rfl; have : (512 : Int32).toInt = 512 := rfl; have := bd_i (512 : Int32); have := bd_i (ia σ0 9 (ia σ0 11 v1.toInt.toNat).toInt.toNat); have : ((512 : Int32) + ((ia σ0 9 (ia σ0 11 v1.toInt.toNat).toInt.toNat))).toInt = (512 : Int32).toInt + (ia σ0 9 (ia σ0 11 v1.toInt.toNat).toInt.toNat).toInt := ad_i (by omega) (by omega); omega) (by omega) (by omega)) ?_
      rintro h163 ⟨s165, H166, O167, G168⟩
      exact wq_t (Or.inr rfl) (wq_some (rI_i ⟨⟨_, H166, O167, G168⟩, (Or.inr rfl)⟩))
end RfC
