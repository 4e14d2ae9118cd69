/-! STATEMENTS OF THE REFERENCE, by program (wip/tools/refgen.py) -/
section RfD
variable {lim : Nat × Nat} {m p : Nat} {σ σ0 : rS} {b : ah_H}
theorem v_condition {d : Nat} {h : ah_H} {v1 : Int32} {v2 : Int32} (H : RH m σ b h) (O : OKV σ) (G : sm (QR p) σ0 σ)  {n : Nat} (hn : n ≤ 101) (hP : PV σ0) (hx : xE σ0 n v1.toInt) : wq (vc lim (d + 211) m_Ref_condition [.inr (.inr (some m)), .inl v1, .inl v2] h) (rI fun x h' => rvP m p σ0 b h' ∧ (x = 0 ∨ x = 1)) := by
  refine wq_eq e_Ref_condition ?_
  refine wq_at H.1 ?_
  refine wq_cI (v_find n _ (by omega) H O G hP hx (by have : (9872 : Int32).toInt = 9872 := rfl; omega) (by have : (9872 : Int32).toInt = 9872 := rfl; omega)) ?_
  rintro y7 h1 ⟨⟨s3, H4, O5, G6⟩, p2⟩
  refine wq_if _ (fun c8 => ?_) (fun c8 => ?_)
  · exact wq_t (Or.inl rfl) (wq_some (rI_i ⟨⟨_, H4, O5, G6⟩, (Or.inl rfl)⟩))
  · refine wq_gR H4.1 rfl ?_
    refine rv_0 H4 O5 (by have := ne_i c8; have : (0 : Int32).toInt = 0 := rfl; have : (9872 : Int32).toInt = 9872 := rfl; omega) (by have := ne_i c8; have : (0 : Int32).toInt = 0 := rfl; have : (9872 : Int32).toInt = 9872 := rfl; show _ < (10100 : Int); omega) (fun u9 q10 q11 => ?_)
    refine wq_if _ (fun c12 => ?_) (fun c12 => ?_)
    · exact wq_t (Or.inr rfl) (wq_some (rI_i ⟨⟨_, H4, O5, G6⟩, (Or.inr rfl)⟩))
    · refine wq_at H4.1 ?_
      refine wq_cI (v_fail H4 O5 G6) ?_
      rintro y19 h13 ⟨⟨s15, H16, O17, G18⟩, p14⟩
      refine wq_t p14.2 ?_
      exact wq_t (Or.inl rfl) (wq_some (rI_i ⟨⟨_, H16, O17, G18⟩, (Or.inl rfl)⟩))
theorem v_findTime {d : Nat} {h : ah_H} {v1 : Int32} (H : RH m σ b h) (O : OKV σ) (G : sm (QR p) σ0 σ)  {n : Nat} (hn : n ≤ 101) (hP : PV σ0) (hp : p ≠ 1000) (hT : xT σ0 n v1.toInt) : wq (vc lim (d + 211) m_Ref_findTime [.inr (.inr (some m)), .inl v1] h) (rI fun x h' => rvP m p σ0 b h' ∧ (x = 0 ∨ x = 1)) := by
  obtain ⟨⟨t1, t2⟩, -⟩ := id hT
  refine wq_eq e_Ref_findTime ?_
  refine rv_L H O G (by omega) (by omega) rfl ?_
  intro h1 s2 H3 O4 G5 e6
  refine wq_gR H3.1 rfl ?_
  refine rv_n H3 G5 (by omega) rfl rfl (nQ_j (by omega)) (by omega) (by show _ < (24000 : Int); omega) ?_
  refine wq_if _ (fun c7 => ?_) (fun c7 => ?_)
  · exact wq_t (Or.inr rfl) (wq_some (rI_i ⟨⟨_, H3, O4, G5⟩, (Or.inr rfl)⟩))
  · have xa := xT_x hT c7
    refine wq_gR H3.1 rfl ?_
    refine rv_n H3 G5 (by omega) rfl rfl (nQ_j (by omega)) (by have := ne_i c7; have : (0 : Int32).toInt = 0 := rfl; omega) (by have := ne_i c7; have : (0 : Int32).toInt = 0 := rfl; show _ < (24000 : Int); omega) ?_
    refine wq_at H3.1 ?_
    refine wq_cI (v_find n _ (by omega) H3 O4 G5 hP xa (by have := ne_i c7; have : (0 : Int32).toInt = 0 := rfl; have : (9872 : Int32).toInt = 9872 := rfl; omega) (by have := ne_i c7; have : (0 : Int32).toInt = 0 := rfl; have : (9872 : Int32).toInt = 9872 := rfl; omega)) ?_
    rintro y14 h8 ⟨⟨s10, H11, O12, G13⟩, p9⟩
    refine wq_if _ (fun c15 => ?_) (fun c15 => ?_)
    · exact wq_t (Or.inl rfl) (wq_some (rI_i ⟨⟨_, H11, O12, G13⟩, (Or.inl rfl)⟩))
    · refine wq_gR H11.1 rfl ?_
      refine rv_0 H11 O12 (by have := ne_i c7; have := ne_i c15; have : (0 : Int32).toInt = 0 := rfl; have : (9872 : Int32).toInt = 9872 := rfl; omega) (by have := ne_i c7; have := ne_i c15; have : (0 : Int32).toInt = 0 := rfl; have : (9872 : Int32).toInt = 9872 := rfl; show _ < (10100 : Int); omega) (fun u16 q17 q18 => ?_)
      refine wq_if _ (fun c19 => ?_) (fun c19 => ?_)
      · refine wq_gR H11.1 rfl ?_
        refine ra_J H11 (by omega) rfl (by have := ne_i c7; have := ne_i c15; have := congrArg Int32.toInt c19; have : (0 : Int32).toInt = 0 := rfl; have : (2 : Int32).toInt = 2 := rfl; have : (9872 : Int32).toInt = 9872 := rfl; omega) (by have := ne_i c7; have := ne_i c15; have := congrArg Int32.toInt c19; have : (0 : Int32).toInt = 0 := rfl; have : (2 : Int32).toInt = 2 := rfl; have : (9872 : Int32).toInt = 9872 := rfl; show _ < (10100 : Int); omega) ?_
        refine wq_if _ (fun c20 => ?_) (fun c20 => ?_)
        · refine wq_at H11.1 ?_
          refine wq_cI (v_fail H11 O12 G13) ?_
          rintro y27 h21 ⟨⟨s23, H24, O25, G26⟩, p22⟩
          exact wq_t p22.1 (wq_some (rI_i ⟨⟨_, H24, O25, G26⟩, p22.1⟩))
        · refine wq_gR H11.1 rfl ?_
          refine ra_J H11 (by omega) rfl (by have := ne_i c7; have := ne_i c15; have := congrArg Int32.toInt c19; have : (0 : Int32).toInt = 0 := rfl; have : (2 : Int32).toInt = 2 := rfl; have : (9872 : Int32).toInt = 9872 := rfl; omega) (by have := ne_i c7; have := ne_i c15; have := congrArg Int32.toInt c19; have : (0 : Int32).toInt = 0 := rfl; have : (2 : Int32).toInt = 2 := rfl; have : (9872 : Int32).toInt = 9872 := rfl; show _ < (10100 : Int); omega) ?_
          refine wq_gR H11.1 rfl ?_
          refine rv_n H11 G13 (by omega) rfl rfl (nQ_j (by omega)) (by have := ne_i c7; have : (0 : Int32).toInt = 0 := rfl; omega) (by have := ne_i c7; have : (0 : Int32).toInt = 0 := rfl; show _ < (24000 : Int); omega) ?_
          refine rv_L H11 O12 G13 (by omega) (by omega) rfl ?_
          intro h28 s29 H30 O31 G32 e33
          exact wq_t (Or.inr rfl) (wq_some (rI_i ⟨⟨_, H30, O31, G32⟩, (Or.inr rfl)⟩))
      · refine wq_at H11.1 ?_
        refine wq_cI (v_fail H11 O12 G13) ?_
        rintro y40 h34 ⟨⟨s36, H37, O38, G39⟩, p35⟩
        exact wq_t p35.1 (wq_some (rI_i ⟨⟨_, H37, O38, G39⟩, p35.1⟩))
theorem v_aim {d : Nat} {h : ah_H} {v1 : Int32} (H : RH m σ b h) (O : OKV σ) (G : sm (QR p) σ0 σ)  {n : Nat} (hn : n ≤ 101) (hP : PV σ0) (hp : p ≠ 1000) {w : Int} (hw : w = 80 ∨ w = 81) (hT : tG σ0 n w v1.toInt) : wq (vc lim (d + 211) m_Ref_aim [.inr (.inr (some m)), .inl v1] h) (rI fun x h' => (∃ σ', RH m σ' b h' ∧ OKV σ' ∧ sm (QR p) σ0 σ' ∧ (x = 1 → tgP σ0 σ' v1.toInt)) ∧ (x = 0 ∨ x = 1)) := by
  obtain ⟨t1, t2⟩ := id hT.1
  refine wq_eq e_Ref_aim ?_
  refine wq_gR H.1 rfl ?_
  refine rv_n H G (by omega) rfl rfl (nQ_j (by omega)) (by omega) (by show _ < (24000 : Int); omega) ?_
  refine wq_if _ (fun c1 => ?_) (fun c1 => ?_)
  · obtain ⟨-, ⟨⟨a1, a2⟩, -⟩, ⟨a3, a4⟩, -, a5, a6, a7⟩ := tG83 hT hw c1
    refine wq_gR H.1 rfl ?_
    refine wq_gR H.1 rfl ?_
    refine wq_gR H.1 rfl ?_
    refine rv_n H G (by omega) rfl rfl (nQ_j (by omega)) (by have := congrArg Int32.toInt c1; have : (83 : Int32).toInt = 83 := rfl; omega) (by have := congrArg Int32.toInt c1; have : (83 : Int32).toInt = 83 := rfl; show _ < (24000 : Int); omega) ?_
    refine rv_n H G (by omega) rfl rfl (nQ_j (by omega)) (by have := congrArg Int32.toInt c1; have : (83 : Int32).toInt = 83 := rfl; omega) (by have := congrArg Int32.toInt c1; have : (83 : Int32).toInt = 83 := rfl; show _ < (24000 : Int); omega) ?_
    refine rv_n H G (by omega) rfl rfl (nQ_j (by omega)) (by have := congrArg Int32.toInt c1; have : (83 : Int32).toInt = 83 := rfl; omega) (by have := congrArg Int32.toInt c1; have : (83 : Int32).toInt = 83 := rfl; show _ < (24000 : Int); omega) ?_
    refine wq_eq q_103_32 ?_
    refine rv_G H O G (by omega) (by omega) rfl ?_
    intro h2 s3 H4 O5 G6 e7
    refine wq_gR H4.1 rfl ?_
    refine rv_n H4 G6 (by omega) rfl rfl (nQ_j (by omega)) (by have := congrArg Int32.toInt c1; have : (83 : Int32).toInt = 83 := rfl; omega) (by have := congrArg Int32.toInt c1; have : (83 : Int32).toInt = 83 := rfl; show _ < (24000 : Int); omega) ?_
    refine wq_f (fun e => absurd (c1.symm.trans e) (by decide)) ?_
    exact wq_t (Or.inr rfl) (wq_some (rI_i ⟨⟨_, H4, O5, G6, fun _ => tg_mk e7 (by have := congrArg Int32.toInt c1; have : (83 : Int32).toInt = 83 := rfl; omega) (by have := congrArg Int32.toInt c1; have : (83 : Int32).toInt = 83 := rfl; omega) (fun _ => rfl) (fun _ h => absurd c1 h)⟩, (Or.inr rfl)⟩))
  · refine wq_eq q_103_32 ?_
    refine rv_G H O G (by omega) (by omega) rfl ?_
    intro h8 s9 H10 O11 G12 e13
    refine wq_gR H10.1 rfl ?_
    refine rv_n H10 G12 (by omega) rfl rfl (nQ_j (by omega)) (by have := ne_i c1; have : (83 : Int32).toInt = 83 := rfl; omega) (by have := ne_i c1; have : (83 : Int32).toInt = 83 := rfl; show _ < (24000 : Int); omega) ?_
    refine wq_if _ (fun c14 => ?_) (fun c14 => ?_)
    · obtain ⟨-, ob, xa⟩ := tG82 hT hw c14
      obtain ⟨⟨a1, a2⟩, -⟩ := id ob
      obtain ⟨a3, a4⟩ := xE_v xa
      refine wq_gR H10.1 rfl ?_
      refine wq_gR H10.1 rfl ?_
      refine rv_n H10 G12 (by omega) rfl rfl (nQ_j (by omega)) (by have := ne_i c1; have := congrArg Int32.toInt c14; have : (82 : Int32).toInt = 82 := rfl; have : (83 : Int32).toInt = 83 := rfl; omega) (by have := ne_i c1; have := congrArg Int32.toInt c14; have : (82 : Int32).toInt = 82 := rfl; have : (83 : Int32).toInt = 83 := rfl; show _ < (24000 : Int); omega) ?_
      refine rv_n H10 G12 (by omega) rfl rfl (nQ_j (by omega)) (by have := ne_i c1; have := congrArg Int32.toInt c14; have : (82 : Int32).toInt = 82 := rfl; have : (83 : Int32).toInt = 83 := rfl; omega) (by have := ne_i c1; have := congrArg Int32.toInt c14; have : (82 : Int32).toInt = 82 := rfl; have : (83 : Int32).toInt = 83 := rfl; show _ < (24000 : Int); omega) ?_
      refine wq_at H10.1 ?_
      refine wq_cI (v_find n _ (by omega) H10 O11 G12 hP xa (by have := ne_i c1; have := congrArg Int32.toInt c14; have : (82 : Int32).toInt = 82 := rfl; have : (83 : Int32).toInt = 83 := rfl; have : (9872 : Int32).toInt = 9872 := rfl; omega) (by have := ne_i c1; have := congrArg Int32.toInt c14; have : (82 : Int32).toInt = 82 := rfl; have : (83 : Int32).toInt = 83 := rfl; have : (9872 : Int32).toInt = 9872 := rfl; omega)) ?_
      rintro y21 h15 ⟨⟨s17, H18, O19, G20⟩, p16⟩
      refine wq_if _ (fun c22 => ?_) (fun c22 => ?_)
      · exact wq_t (Or.inl rfl) (wq_some (rI_i ⟨⟨_, H18, O19, G20, fun h => absurd h (by decide)⟩, (Or.inl rfl)⟩))
      · refine wq_gR H18.1 rfl ?_
        refine rv_0 H18 O19 (by have := ne_i c1; have := congrArg Int32.toInt c14; have := ne_i c22; have : (0 : Int32).toInt = 0 := rfl; have : (82 : Int32).toInt = 82 := rfl; have : (83 : Int32).toInt = 83 := rfl; have : (9872 : Int32).toInt = 9872 := rfl; omega) (by have := ne_i c1; have := congrArg Int32.toInt c14; have := ne_i c22; have : (0 : Int32).toInt = 0 := rfl; have : (82 : Int32).toInt = 82 := rfl; have : (83 : Int32).toInt = 83 := rfl; have : (9872 : Int32).toInt = 9872 := rfl; show _ < (10100 : Int); omega) (fun u23 q24 q25 => ?_)
        refine wq_if _ (fun c26 => ?_) (fun c26 => ?_)
        · refine wq_gR H18.1 rfl ?_
          refine ra_J H18 (by omega) rfl (by have := ne_i c1; have := congrArg Int32.toInt c14; have := ne_i c22; have := congrArg Int32.toInt c26; have : (0 : Int32).toInt = 0 := rfl; have : (2 : Int32).toInt = 2 := rfl; have : (82 : Int32).toInt = 82 := rfl; have : (83 : Int32).toInt = 83 := rfl; have : (9872 : Int32).toInt = 9872 := rfl; omega) (by have := ne_i c1; have := congrArg Int32.toInt c14; have := ne_i c22; have := congrArg Int32.toInt c26; have : (0 : Int32).toInt = 0 := rfl; have : (2 : Int32).toInt = 2 := rfl; have : (82 : Int32).toInt = 82 := rfl; have : (83 : Int32).toInt = 83 := rfl; have : (9872 : Int32).toInt = 9872 := rfl; show _ < (10100 : Int); omega) ?_
          refine wq_if _ (fun c27 => ?_) (fun c27 => ?_)
          · refine wq_at H18.1 ?_
            refine wq_cI (v_fail H18 O19 G20) ?_
            rintro y34 h28 ⟨⟨s30, H31, O32, G33⟩, p29⟩
            exact wq_t p29.1 (wq_some (rI_i ⟨⟨_, H31, O32, G33, fun h => absurd (p29.2.symm.trans h) (by decide)⟩, p29.1⟩))
          · refine wq_gR H18.1 rfl ?_
            refine ra_J H18 (by omega) rfl (by have := ne_i c1; have := congrArg Int32.toInt c14; have := ne_i c22; have := congrArg Int32.toInt c26; have : (0 : Int32).toInt = 0 := rfl; have : (2 : Int32).toInt = 2 := rfl; have : (82 : Int32).toInt = 82 := rfl; have : (83 : Int32).toInt = 83 := rfl; have : (9872 : Int32).toInt = 9872 := rfl; omega) (by have := ne_i c1; have := congrArg Int32.toInt c14; have := ne_i c22; have := congrArg Int32.toInt c26; have : (0 : Int32).toInt = 0 := rfl; have : (2 : Int32).toInt = 2 := rfl; have : (82 : Int32).toInt = 82 := rfl; have : (83 : Int32).toInt = 83 := rfl; have : (9872 : Int32).toInt = 9872 := rfl; show _ < (10100 : Int); omega) ?_
            refine wq_gR H18.1 rfl ?_
            refine wq_gR H18.1 rfl ?_
            refine rv_n H18 G20 (by omega) rfl rfl (nQ_j (by omega)) (by have := ne_i c1; have := congrArg Int32.toInt c14; have : (82 : Int32).toInt = 82 := rfl; have : (83 : Int32).toInt = 83 := rfl; omega) (by have := ne_i c1; have := congrArg Int32.toInt c14; have : (82 : Int32).toInt = 82 := rfl; have : (83 : Int32).toInt = 83 := rfl; show _ < (24000 : Int); omega) ?_
            refine wq_at H18.1 ?_
            refine wq_cI (v_where H18 O19 G20 hP ob) ?_
            rintro y37 h35 ⟨rfl, p36⟩
            obtain ⟨q38, q39, q40, q41⟩ := p36
            refine rv_1 H18 O19 (by omega) (by show _ < (10100 : Int); omega) (fun u42 q43 q44 => ?_)
            refine wq_if _ (fun c45 => ?_) (fun c45 => ?_)
            · refine wq_gR H18.1 rfl ?_
              refine ra_J H18 (by omega) rfl (by have := ne_i c1; have := congrArg Int32.toInt c14; have := ne_i c22; have := congrArg Int32.toInt c26; have : (0 : Int32).toInt = 0 := rfl; have : (2 : Int32).toInt = 2 := rfl; have : (82 : Int32).toInt = 82 := rfl; have : (83 : Int32).toInt = 83 := rfl; have : (9872 : Int32).toInt = 9872 := rfl; omega) (by have := ne_i c1; have := congrArg Int32.toInt c14; have := ne_i c22; have := congrArg Int32.toInt c26; have : (0 : Int32).toInt = 0 := rfl; have : (2 : Int32).toInt = 2 := rfl; have : (82 : Int32).toInt = 82 := rfl; have : (83 : Int32).toInt = 83 := rfl; have : (9872 : Int32).toInt = 9872 := rfl; show _ < (10100 : Int); omega) ?_
              refine rv_G H18 O19 G20 (by omega) (by omega) rfl ?_
              intro h46 s47 H48 O49 G50 e51
              exact wq_t (Or.inr rfl) (wq_some (rI_i ⟨⟨_, H48, O49, G50, fun _ => tg_mk e51 (by have : (9872 : Int32).toInt = 9872 := rfl; have := l2i_ok c27 c45 (by omega); omega) (by have : (9872 : Int32).toInt = 9872 := rfl; have := l2i_ok c27 c45 (by omega); omega) (fun h => absurd h c1) (fun h => absurd c14 h)⟩, (Or.inr rfl)⟩))
            · refine wq_at H18.1 ?_
              refine wq_cI (v_fail H18 O19 G20) ?_
              rintro y58 h52 ⟨⟨s54, H55, O56, G57⟩, p53⟩
              exact wq_t p53.1 (wq_some (rI_i ⟨⟨_, H55, O56, G57, fun h => absurd (p53.2.symm.trans h) (by decide)⟩, p53.1⟩))
        · refine wq_at H18.1 ?_
          refine wq_cI (v_fail H18 O19 G20) ?_
          rintro y65 h59 ⟨⟨s61, H62, O63, G64⟩, p60⟩
          exact wq_t p60.1 (wq_some (rI_i ⟨⟨_, H62, O63, G64, fun h => absurd (p60.2.symm.trans h) (by decide)⟩, p60.1⟩))
    · exact wq_t (Or.inr rfl) (wq_some (rI_i ⟨⟨_, H10, O11, G12, fun _ => tg_mk e13 (by have := ne_i c1; have := ne_i c14; have : (0 : Int32).toInt = 0 := rfl; have : (82 : Int32).toInt = 82 := rfl; have : (83 : Int32).toInt = 83 := rfl; omega) (by have := ne_i c1; have := ne_i c14; have : (0 : Int32).toInt = 0 := rfl; have : (82 : Int32).toInt = 82 := rfl; have : (83 : Int32).toInt = 83 := rfl; omega) (fun h => absurd h c1) (fun _ _ => rfl)⟩, (Or.inr rfl)⟩))
theorem v_fits {d : Nat} {h : ah_H} {v1 : Int32} {v2 : Int32} (H : RH m σ b h) (O : OKV σ) (G : sm (QR p) σ0 σ)  {n : Nat} (hn : n ≤ 101) (hP : PV σ0) {w : Int} (hw : w = 80 ∨ w = 81) (hT : tG σ0 n w v1.toInt) : wq (vc lim (d + 2) m_Ref_fits [.inr (.inr (some m)), .inl v1, .inl v2] h) (rI fun x h' => (∃ σ', RH m σ' b h' ∧ OKV σ' ∧ sm (QR p) σ0 σ' ∧ (x = 1 → σ' = σ ∧ fitP σ0 σ' v1.toInt)) ∧ (x = 0 ∨ x = 1)) := by
  obtain ⟨t1, t2⟩ := id hT.1
  refine wq_eq e_Ref_fits ?_
  refine wq_gR H.1 rfl ?_
  refine rv_n H G (by omega) rfl rfl (nQ_j (by omega)) (by omega) (by show _ < (24000 : Int); omega) ?_
  refine wq_if _ (fun c1 => ?_) (fun c1 => ?_)
  · obtain ⟨-, ob, xa⟩ := tG82 hT hw c1
    obtain ⟨⟨a1, a2⟩, -⟩ := id ob
    refine wq_eq q_104_23 ?_
    refine wq_gR H.1 rfl ?_
    refine rv_n H G (by omega) rfl rfl (nQ_j (by omega)) (by have := congrArg Int32.toInt c1; have : (82 : Int32).toInt = 82 := rfl; omega) (by have := congrArg Int32.toInt c1; have : (82 : Int32).toInt = 82 := rfl; show _ < (24000 : Int); omega) ?_
    refine wq_at H.1 ?_
    refine wq_cI (v_where H O G hP ob) ?_
    rintro y4 h2 ⟨rfl, p3⟩
    obtain ⟨q5, q6, q7, q8⟩ := p3
    refine wq_gR H.1 rfl ?_
    refine rv_n H G (by omega) rfl rfl (nQ_j (by omega)) (by have := congrArg Int32.toInt c1; have : (82 : Int32).toInt = 82 := rfl; omega) (by have := congrArg Int32.toInt c1; have : (82 : Int32).toInt = 82 := rfl; show _ < (24000 : Int); omega) ?_
    refine wq_t c1 ?_
    refine wq_eq q_104_58 ?_
    refine wq_gR H.1 rfl ?_
    refine rv_n H G (by omega) rfl rfl (nQ_j (by omega)) (by have := congrArg Int32.toInt c1; have : (82 : Int32).toInt = 82 := rfl; omega) (by have := congrArg Int32.toInt c1; have : (82 : Int32).toInt = 82 := rfl; show _ < (24000 : Int); omega) ?_
    refine wq_t c1 ?_
    refine wq_eq q_104_116 ?_
    refine wq_gR H.1 rfl ?_
    refine ra_I H (by omega) rfl rfl (by have := congrArg Int32.toInt c1; have : (82 : Int32).toInt = 82 := rfl; have : (9872 : Int32).toInt = 9872 := rfl; omega) (by have := congrArg Int32.toInt c1; have : (82 : Int32).toInt = 82 := rfl; have : (9872 : Int32).toInt = 9872 := rfl; show _ < (10100 : Int); omega) ?_
    have q9 := O _ (ix_lt (by have := congrArg Int32.toInt c1; have : (82 : Int32).toInt = 82 := rfl; have : (9872 : Int32).toInt = 9872 := rfl; exact (show 0 ≤ (9872 : Int32).toInt from by omega)) (by have := congrArg Int32.toInt c1; have : (82 : Int32).toInt = 82 := rfl; have : (9872 : Int32).toInt = 9872 := rfl; show _ < ((10100 : Nat) : Int); omega))
    refine wq_if _ (fun c10 => ?_) (fun c10 => ?_)
    · refine wq_f (by decide) ?_
      refine wq_eq q_104_164 ?_
      refine wq_f (by decide) ?_
      exact wq_t (Or.inr rfl) (wq_some (rI_i ⟨⟨_, H, O, G, fun _ => ⟨rfl, fun h => absurd (c1.symm.trans h) (by decide)⟩⟩, (Or.inr rfl)⟩))
    · refine wq_at H.1 ?_
      refine wq_cI (v_fail H O G) ?_
      rintro y17 h11 ⟨⟨s13, H14, O15, G16⟩, p12⟩
      exact wq_t p12.1 (wq_some (rI_i ⟨⟨_, H14, O15, G16, fun h => absurd (p12.2.symm.trans h) (by decide)⟩, p12.1⟩))
  · refine wq_gR H.1 rfl ?_
    refine rv_n H G (by omega) rfl rfl (nQ_j (by omega)) (by have := ne_i c1; have : (82 : Int32).toInt = 82 := rfl; omega) (by have := ne_i c1; have : (82 : Int32).toInt = 82 := rfl; show _ < (24000 : Int); omega) ?_
    refine wq_if _ (fun c18 => ?_) (fun c18 => ?_)
    · obtain ⟨-, ob, ⟨a3, a4⟩, ⟨a8, a9⟩, a5, a6, a7⟩ := tG83 hT hw c18
      obtain ⟨⟨a1, a2⟩, -⟩ := id ob
      refine wq_eq q_104_23 ?_
      refine wq_gR H.1 rfl ?_
      refine rv_n H G (by omega) rfl rfl (nQ_j (by omega)) (by have := ne_i c1; have := congrArg Int32.toInt c18; have : (82 : Int32).toInt = 82 := rfl; have : (83 : Int32).toInt = 83 := rfl; omega) (by have := ne_i c1; have := congrArg Int32.toInt c18; have : (82 : Int32).toInt = 82 := rfl; have : (83 : Int32).toInt = 83 := rfl; show _ < (24000 : Int); omega) ?_
      refine wq_at H.1 ?_
      refine wq_cI (v_where H O G hP ob) ?_
      rintro y21 h19 ⟨rfl, p20⟩
      obtain ⟨q22, q23, q24, q25⟩ := p20
      refine wq_gR H.1 rfl ?_
      refine rv_n H G (by omega) rfl rfl (nQ_j (by omega)) (by have := ne_i c1; have := congrArg Int32.toInt c18; have : (82 : Int32).toInt = 82 := rfl; have : (83 : Int32).toInt = 83 := rfl; omega) (by have := ne_i c1; have := congrArg Int32.toInt c18; have : (82 : Int32).toInt = 82 := rfl; have : (83 : Int32).toInt = 83 := rfl; show _ < (24000 : Int); omega) ?_
      refine wq_f c1 ?_
      refine wq_gR H.1 rfl ?_
      refine ra_I H (by omega) rfl rfl (by omega) (by show _ < (10100 : Int); omega) ?_
      have q26 := O _ (ix_lt (by exact (show 0 ≤ y21.toInt from by omega)) (by show _ < ((10100 : Nat) : Int); omega))
      refine wq_eq q_104_58 ?_
      refine wq_gR H.1 rfl ?_
      refine rv_n H G (by omega) rfl rfl (nQ_j (by omega)) (by have := ne_i c1; have := congrArg Int32.toInt c18; have : (82 : Int32).toInt = 82 := rfl; have : (83 : Int32).toInt = 83 := rfl; omega) (by have := ne_i c1; have := congrArg Int32.toInt c18; have : (82 : Int32).toInt = 82 := rfl; have : (83 : Int32).toInt = 83 := rfl; show _ < (24000 : Int); omega) ?_
      refine wq_f c1 ?_
      refine wq_gR H.1 rfl ?_
      refine rv_n H G (by omega) rfl rfl (nQ_j (by omega)) (by have := ne_i c1; have := congrArg Int32.toInt c18; have : (82 : Int32).toInt = 82 := rfl; have : (83 : Int32).toInt = 83 := rfl; omega) (by have := ne_i c1; have := congrArg Int32.toInt c18; have : (82 : Int32).toInt = 82 := rfl; have : (83 : Int32).toInt = 83 := rfl; show _ < (24000 : Int); omega) ?_
      refine wq_t c18 ?_
      refine wq_gR H.1 rfl ?_
      refine wq_gR H.1 rfl ?_
      refine wq_gR H.1 rfl ?_
      refine wq_gR H.1 rfl ?_
      refine rv_n H G (by omega) rfl rfl (nQ_j (by omega)) (by have := ne_i c1; have := congrArg Int32.toInt c18; have : (82 : Int32).toInt = 82 := rfl; have : (83 : Int32).toInt = 83 := rfl; omega) (by have := ne_i c1; have := congrArg Int32.toInt c18; have : (82 : Int32).toInt = 82 := rfl; have : (83 : Int32).toInt = 83 := rfl; show _ < (24000 : Int); omega) ?_
      refine rv_n H G (by omega) rfl rfl (nQ_j (by omega)) (by have := ne_i c1; have := congrArg Int32.toInt c18; have : (82 : Int32).toInt = 82 := rfl; have : (83 : Int32).toInt = 83 := rfl; omega) (by have := ne_i c1; have := congrArg Int32.toInt c18; have : (82 : Int32).toInt = 82 := rfl; have : (83 : Int32).toInt = 83 := rfl; show _ < (24000 : Int); omega) ?_
      refine rv_n H G (by omega) rfl rfl (nQ_j (by omega)) (by have := ne_i c1; have := congrArg Int32.toInt c18; have : (82 : Int32).toInt = 82 := rfl; have : (83 : Int32).toInt = 83 := rfl; omega) (by have := ne_i c1; have := congrArg Int32.toInt c18; have : (82 : Int32).toInt = 82 := rfl; have : (83 : Int32).toInt = 83 := rfl; show _ < (24000 : Int); omega) ?_
      refine rv_n H G (by omega) rfl rfl (nQ_j (by omega)) (by have := ne_i c1; have := congrArg Int32.toInt c18; have : (82 : Int32).toInt = 82 := rfl; have : (83 : Int32).toInt = 83 := rfl; omega) (by have := ne_i c1; have := congrArg Int32.toInt c18; have : (82 : Int32).toInt = 82 := rfl; have : (83 : Int32).toInt = 83 := rfl; show _ < (24000 : Int); omega) ?_
      refine wq_eq q_104_116 ?_
      refine wq_gR H.1 rfl ?_
      refine ra_I H (by omega) rfl rfl (by have := ne_i c1; have := congrArg Int32.toInt c18; have : (82 : Int32).toInt = 82 := rfl; have : (83 : Int32).toInt = 83 := rfl; have : (9872 : Int32).toInt = 9872 := rfl; omega) (by have := ne_i c1; have := congrArg Int32.toInt c18; have : (82 : Int32).toInt = 82 := rfl; have : (83 : Int32).toInt = 83 := rfl; have : (9872 : Int32).toInt = 9872 := rfl; show _ < (10100 : Int); omega) ?_
      have q27 := O _ (ix_lt (by have := ne_i c1; have := congrArg Int32.toInt c18; have : (82 : Int32).toInt = 82 := rfl; have : (83 : Int32).toInt = 83 := rfl; have : (9872 : Int32).toInt = 9872 := rfl; exact (show 0 ≤ (9872 : Int32).toInt from by omega)) (by have := ne_i c1; have := congrArg Int32.toInt c18; have : (82 : Int32).toInt = 82 := rfl; have : (83 : Int32).toInt = 83 := rfl; have : (9872 : Int32).toInt = 9872 := rfl; show _ < ((10100 : Nat) : Int); omega))
      refine wq_if _ (fun c28 => ?_) (fun c28 => ?_)
      · refine wq_if _ (fun c29 => ?_) (fun c29 => ?_)
        · refine wq_gR H.1 rfl ?_
          refine ra_I H (by omega) rfl rfl (by have := ne_i c1; have := congrArg Int32.toInt c18; have := congrArg Int32.toInt c28; have := congrArg Int32.toInt c29; have : (1 : Int32).toInt = 1 := rfl; have : (82 : Int32).toInt = 82 := rfl; have : (83 : Int32).toInt = 83 := rfl; have : (9872 : Int32).toInt = 9872 := rfl; omega) (by have := ne_i c1; have := congrArg Int32.toInt c18; have := congrArg Int32.toInt c28; have := congrArg Int32.toInt c29; have : (1 : Int32).toInt = 1 := rfl; have : (82 : Int32).toInt = 82 := rfl; have : (83 : Int32).toInt = 83 := rfl; have : (9872 : Int32).toInt = 9872 := rfl; show _ < (10100 : Int); omega) ?_
          have q30 := O _ (ix_lt (by have := ne_i c1; have := congrArg Int32.toInt c18; have := congrArg Int32.toInt c28; have := congrArg Int32.toInt c29; have : (1 : Int32).toInt = 1 := rfl; have : (82 : Int32).toInt = 82 := rfl; have : (83 : Int32).toInt = 83 := rfl; have : (9872 : Int32).toInt = 9872 := rfl; exact (show 0 ≤ (9872 : Int32).toInt from by omega)) (by have := ne_i c1; have := congrArg Int32.toInt c18; have := congrArg Int32.toInt c28; have := congrArg Int32.toInt c29; have : (1 : Int32).toInt = 1 := rfl; have : (82 : Int32).toInt = 82 := rfl; have : (83 : Int32).toInt = 83 := rfl; have : (9872 : Int32).toInt = 9872 := rfl; show _ < ((10100 : Nat) : Int); omega))
          refine wq_if _ (fun c31 => ?_) (fun c31 => ?_)
          · refine wq_eq q_104_164 ?_
            refine wq_f (fun e => absurd (c29.symm.trans e) (by decide)) ?_
            exact wq_t (Or.inr rfl) (wq_some (rI_i ⟨⟨_, H, O, G, fun _ => ⟨rfl, fun _ _ => c31⟩⟩, (Or.inr rfl)⟩))
          · refine wq_at H.1 ?_
            refine wq_cI (v_fail H O G) ?_
            rintro y38 h32 ⟨⟨s34, H35, O36, G37⟩, p33⟩
            exact wq_t p33.1 (wq_some (rI_i ⟨⟨_, H35, O36, G37, fun h => absurd (p33.2.symm.trans h) (by decide)⟩, p33.1⟩))
        · refine wq_eq q_104_164 ?_
          refine wq_if _ (fun c39 => ?_) (fun c39 => ?_)
          · refine wq_gR H.1 rfl ?_
            refine ra_J H (by omega) rfl (by have := ne_i c1; have := congrArg Int32.toInt c18; have := congrArg Int32.toInt c28; have := ne_i c29; have := congrArg Int32.toInt c39; have : (1 : Int32).toInt = 1 := rfl; have : (2 : Int32).toInt = 2 := rfl; have : (82 : Int32).toInt = 82 := rfl; have : (83 : Int32).toInt = 83 := rfl; have : (9872 : Int32).toInt = 9872 := rfl; omega) (by have := ne_i c1; have := congrArg Int32.toInt c18; have := congrArg Int32.toInt c28; have := ne_i c29; have := congrArg Int32.toInt c39; have : (1 : Int32).toInt = 1 := rfl; have : (2 : Int32).toInt = 2 := rfl; have : (82 : Int32).toInt = 82 := rfl; have : (83 : Int32).toInt = 83 := rfl; have : (9872 : Int32).toInt = 9872 := rfl; show _ < (10100 : Int); omega) ?_
            refine wq_gR H.1 rfl ?_
            refine rv_n H G (by omega) rfl rfl (nQ_j (by omega)) (by have := congrArg Int32.toInt c28; have := ne_i c29; have := congrArg Int32.toInt c39; have : (1 : Int32).toInt = 1 := rfl; have : (2 : Int32).toInt = 2 := rfl; have : (9872 : Int32).toInt = 9872 := rfl; omega) (by have := congrArg Int32.toInt c28; have := ne_i c29; have := congrArg Int32.toInt c39; have : (1 : Int32).toInt = 1 := rfl; have : (2 : Int32).toInt = 2 := rfl; have : (9872 : Int32).toInt = 9872 := rfl; show _ < (10100 : Int); omega) ?_
            refine wq_if _ (fun c40 => ?_) (fun c40 => ?_)
            · refine wq_at H.1 ?_
              refine wq_cI (v_fail H O G) ?_
              rintro y47 h41 ⟨⟨s43, H44, O45, G46⟩, p42⟩
              refine wq_t p42.2 ?_
              exact wq_t (Or.inl rfl) (wq_some (rI_i ⟨⟨_, H44, O45, G46, fun h => absurd h (by decide)⟩, (Or.inl rfl)⟩))
            · refine wq_gR H.1 rfl ?_
              refine ra_J H (by omega) rfl (by have := ne_i c1; have := congrArg Int32.toInt c18; have := congrArg Int32.toInt c28; have := ne_i c29; have := congrArg Int32.toInt c39; have : (1 : Int32).toInt = 1 := rfl; have : (2 : Int32).toInt = 2 := rfl; have : (82 : Int32).toInt = 82 := rfl; have : (83 : Int32).toInt = 83 := rfl; have : (9872 : Int32).toInt = 9872 := rfl; omega) (by have := ne_i c1; have := congrArg Int32.toInt c18; have := congrArg Int32.toInt c28; have := ne_i c29; have := congrArg Int32.toInt c39; have : (1 : Int32).toInt = 1 := rfl; have : (2 : Int32).toInt = 2 := rfl; have : (82 : Int32).toInt = 82 := rfl; have : (83 : Int32).toInt = 83 := rfl; have : (9872 : Int32).toInt = 9872 := rfl; show _ < (10100 : Int); omega) ?_
              refine wq_gR H.1 rfl ?_
              refine rv_n H G (by omega) rfl rfl (nQ_j (by omega)) (by have := congrArg Int32.toInt c28; have := ne_i c29; have := congrArg Int32.toInt c39; have : (1 : Int32).toInt = 1 := rfl; have : (2 : Int32).toInt = 2 := rfl; have : (9872 : Int32).toInt = 9872 := rfl; omega) (by have := congrArg Int32.toInt c28; have := ne_i c29; have := congrArg Int32.toInt c39; have : (1 : Int32).toInt = 1 := rfl; have : (2 : Int32).toInt = 2 := rfl; have : (9872 : Int32).toInt = 9872 := rfl; show _ < (10100 : Int); omega) ?_
              refine wq_if _ (fun c48 => ?_) (fun c48 => ?_)
              · exact wq_t (Or.inr rfl) (wq_some (rI_i ⟨⟨_, H, O, G, fun _ => ⟨rfl, fun _ h => absurd (by rw [q25]; exact h) c29⟩⟩, (Or.inr rfl)⟩))
              · refine wq_at H.1 ?_
                refine wq_cI (v_fail H O G) ?_
                rintro y55 h49 ⟨⟨s51, H52, O53, G54⟩, p50⟩
                refine wq_t p50.2 ?_
                exact wq_t (Or.inl rfl) (wq_some (rI_i ⟨⟨_, H52, O53, G54, fun h => absurd h (by decide)⟩, (Or.inl rfl)⟩))
          · exact wq_t (Or.inr rfl) (wq_some (rI_i ⟨⟨_, H, O, G, fun _ => ⟨rfl, fun _ h => absurd (by rw [q25]; exact h) c29⟩⟩, (Or.inr rfl)⟩))
      · refine wq_at H.1 ?_
        refine wq_cI (v_fail H O G) ?_
        rintro y62 h56 ⟨⟨s58, H59, O60, G61⟩, p57⟩
        exact wq_t p57.1 (wq_some (rI_i ⟨⟨_, H59, O60, G61, fun h => absurd (p57.2.symm.trans h) (by decide)⟩, p57.1⟩))
    · obtain ⟨-, ob⟩ := tGo hT c1 c18
      refine wq_at H.1 ?_
      refine wq_cI (v_where H O G hP ob) ?_
      rintro y65 h63 ⟨rfl, p64⟩
      obtain ⟨q66, q67, q68, q69⟩ := p64
      refine wq_gR H.1 rfl ?_
      refine rv_n H G (by omega) rfl rfl (nQ_j (by omega)) (by have := ne_i c1; have := ne_i c18; have : (82 : Int32).toInt = 82 := rfl; have : (83 : Int32).toInt = 83 := rfl; omega) (by have := ne_i c1; have := ne_i c18; have : (82 : Int32).toInt = 82 := rfl; have : (83 : Int32).toInt = 83 := rfl; show _ < (24000 : Int); omega) ?_
      refine wq_f c1 ?_
      refine wq_gR H.1 rfl ?_
      refine ra_I H (by omega) rfl rfl (by omega) (by show _ < (10100 : Int); omega) ?_
      have q70 := O _ (ix_lt (by exact (show 0 ≤ y65.toInt from by omega)) (by show _ < ((10100 : Nat) : Int); omega))
      refine wq_eq q_104_58 ?_
      refine wq_gR H.1 rfl ?_
      refine rv_n H G (by omega) rfl rfl (nQ_j (by omega)) (by have := ne_i c1; have := ne_i c18; have : (82 : Int32).toInt = 82 := rfl; have : (83 : Int32).toInt = 83 := rfl; omega) (by have := ne_i c1; have := ne_i c18; have : (82 : Int32).toInt = 82 := rfl; have : (83 : Int32).toInt = 83 := rfl; show _ < (24000 : Int); omega) ?_
      refine wq_f c1 ?_
      refine wq_gR H.1 rfl ?_
      refine rv_n H G (by omega) rfl rfl (nQ_j (by omega)) (by have := ne_i c1; have := ne_i c18; have : (82 : Int32).toInt = 82 := rfl; have : (83 : Int32).toInt = 83 := rfl; omega) (by have := ne_i c1; have := ne_i c18; have : (82 : Int32).toInt = 82 := rfl; have : (83 : Int32).toInt = 83 := rfl; show _ < (24000 : Int); omega) ?_
      refine wq_f c18 ?_
      refine wq_gR H.1 rfl ?_
      refine ra_I H (by omega) rfl rfl (by omega) (by show _ < (10100 : Int); omega) ?_
      have q71 := O _ (ix_lt (by exact (show 0 ≤ y65.toInt from by omega)) (by show _ < ((10100 : Nat) : Int); omega))
      refine wq_eq q_104_116 ?_
      refine wq_gR H.1 rfl ?_
      refine ra_I H (by omega) rfl rfl (by have := ne_i c1; have := ne_i c18; have : (82 : Int32).toInt = 82 := rfl; have : (83 : Int32).toInt = 83 := rfl; have : (9872 : Int32).toInt = 9872 := rfl; omega) (by have := ne_i c1; have := ne_i c18; have : (82 : Int32).toInt = 82 := rfl; have : (83 : Int32).toInt = 83 := rfl; have : (9872 : Int32).toInt = 9872 := rfl; show _ < (10100 : Int); omega) ?_
      have q72 := O _ (ix_lt (by have := ne_i c1; have := ne_i c18; have : (82 : Int32).toInt = 82 := rfl; have : (83 : Int32).toInt = 83 := rfl; have : (9872 : Int32).toInt = 9872 := rfl; exact (show 0 ≤ (9872 : Int32).toInt from by omega)) (by have := ne_i c1; have := ne_i c18; have : (82 : Int32).toInt = 82 := rfl; have : (83 : Int32).toInt = 83 := rfl; have : (9872 : Int32).toInt = 9872 := rfl; show _ < ((10100 : Nat) : Int); omega))
      refine wq_if _ (fun c73 => ?_) (fun c73 => ?_)
      · refine wq_if _ (fun c74 => ?_) (fun c74 => ?_)
        · refine wq_gR H.1 rfl ?_
          refine ra_I H (by omega) rfl rfl (by have := ne_i c1; have := ne_i c18; have := congrArg Int32.toInt c73; have := congrArg Int32.toInt c74; have : (1 : Int32).toInt = 1 := rfl; have : (82 : Int32).toInt = 82 := rfl; have : (83 : Int32).toInt = 83 := rfl; have : (9872 : Int32).toInt = 9872 := rfl; omega) (by have := ne_i c1; have := ne_i c18; have := congrArg Int32.toInt c73; have := congrArg Int32.toInt c74; have : (1 : Int32).toInt = 1 := rfl; have : (82 : Int32).toInt = 82 := rfl; have : (83 : Int32).toInt = 83 := rfl; have : (9872 : Int32).toInt = 9872 := rfl; show _ < (10100 : Int); omega) ?_
          have q75 := O _ (ix_lt (by have := ne_i c1; have := ne_i c18; have := congrArg Int32.toInt c73; have := congrArg Int32.toInt c74; have : (1 : Int32).toInt = 1 := rfl; have : (82 : Int32).toInt = 82 := rfl; have : (83 : Int32).toInt = 83 := rfl; have : (9872 : Int32).toInt = 9872 := rfl; exact (show 0 ≤ (9872 : Int32).toInt from by omega)) (by have := ne_i c1; have := ne_i c18; have := congrArg Int32.toInt c73; have := congrArg Int32.toInt c74; have : (1 : Int32).toInt = 1 := rfl; have : (82 : Int32).toInt = 82 := rfl; have : (83 : Int32).toInt = 83 := rfl; have : (9872 : Int32).toInt = 9872 := rfl; show _ < ((10100 : Nat) : Int); omega))
          refine wq_if _ (fun c76 => ?_) (fun c76 => ?_)
          · refine wq_eq q_104_164 ?_
            refine wq_f (fun e => absurd (c74.symm.trans e) (by decide)) ?_
            exact wq_t (Or.inr rfl) (wq_some (rI_i ⟨⟨_, H, O, G, fun _ => ⟨rfl, fun h => absurd h c18⟩⟩, (Or.inr rfl)⟩))
          · refine wq_at H.1 ?_
            refine wq_cI (v_fail H O G) ?_
            rintro y83 h77 ⟨⟨s79, H80, O81, G82⟩, p78⟩
            exact wq_t p78.1 (wq_some (rI_i ⟨⟨_, H80, O81, G82, fun h => absurd (p78.2.symm.trans h) (by decide)⟩, p78.1⟩))
        · refine wq_eq q_104_164 ?_
          refine wq_if _ (fun c84 => ?_) (fun c84 => ?_)
          · refine wq_gR H.1 rfl ?_
            refine ra_J H (by omega) rfl (by have := ne_i c1; have := ne_i c18; have := congrArg Int32.toInt c73; have := ne_i c74; have := congrArg Int32.toInt c84; have : (1 : Int32).toInt = 1 := rfl; have : (2 : Int32).toInt = 2 := rfl; have : (82 : Int32).toInt = 82 := rfl; have : (83 : Int32).toInt = 83 := rfl; have : (9872 : Int32).toInt = 9872 := rfl; omega) (by have := ne_i c1; have := ne_i c18; have := congrArg Int32.toInt c73; have := ne_i c74; have := congrArg Int32.toInt c84; have : (1 : Int32).toInt = 1 := rfl; have : (2 : Int32).toInt = 2 := rfl; have : (82 : Int32).toInt = 82 := rfl; have : (83 : Int32).toInt = 83 := rfl; have : (9872 : Int32).toInt = 9872 := rfl; show _ < (10100 : Int); omega) ?_
            refine wq_gR H.1 rfl ?_
            refine rv_n H G (by omega) rfl rfl (nQ_j (by omega)) (by have := congrArg Int32.toInt c73; have := ne_i c74; have := congrArg Int32.toInt c84; have : (1 : Int32).toInt = 1 := rfl; have : (2 : Int32).toInt = 2 := rfl; have : (9872 : Int32).toInt = 9872 := rfl; omega) (by have := congrArg Int32.toInt c73; have := ne_i c74; have := congrArg Int32.toInt c84; have : (1 : Int32).toInt = 1 := rfl; have : (2 : Int32).toInt = 2 := rfl; have : (9872 : Int32).toInt = 9872 := rfl; show _ < (10100 : Int); omega) ?_
            refine wq_if _ (fun c85 => ?_) (fun c85 => ?_)
            · refine wq_at H.1 ?_
              refine wq_cI (v_fail H O G) ?_
              rintro y92 h86 ⟨⟨s88, H89, O90, G91⟩, p87⟩
              refine wq_t p87.2 ?_
              exact wq_t (Or.inl rfl) (wq_some (rI_i ⟨⟨_, H89, O90, G91, fun h => absurd h (by decide)⟩, (Or.inl rfl)⟩))
            · refine wq_gR H.1 rfl ?_
              refine ra_J H (by omega) rfl (by have := ne_i c1; have := ne_i c18; have := congrArg Int32.toInt c73; have := ne_i c74; have := congrArg Int32.toInt c84; have : (1 : Int32).toInt = 1 := rfl; have : (2 : Int32).toInt = 2 := rfl; have : (82 : Int32).toInt = 82 := rfl; have : (83 : Int32).toInt = 83 := rfl; have : (9872 : Int32).toInt = 9872 := rfl; omega) (by have := ne_i c1; have := ne_i c18; have := congrArg Int32.toInt c73; have := ne_i c74; have := congrArg Int32.toInt c84; have : (1 : Int32).toInt = 1 := rfl; have : (2 : Int32).toInt = 2 := rfl; have : (82 : Int32).toInt = 82 := rfl; have : (83 : Int32).toInt = 83 := rfl; have : (9872 : Int32).toInt = 9872 := rfl; show _ < (10100 : Int); omega) ?_
              refine wq_gR H.1 rfl ?_
              refine rv_n H G (by omega) rfl rfl (nQ_j (by omega)) (by have := congrArg Int32.toInt c73; have := ne_i c74; have := congrArg Int32.toInt c84; have : (1 : Int32).toInt = 1 := rfl; have : (2 : Int32).toInt = 2 := rfl; have : (9872 : Int32).toInt = 9872 := rfl; omega) (by have := congrArg Int32.toInt c73; have := ne_i c74; have := congrArg Int32.toInt c84; have : (1 : Int32).toInt = 1 := rfl; have : (2 : Int32).toInt = 2 := rfl; have : (9872 : Int32).toInt = 9872 := rfl; show _ < (10100 : Int); omega) ?_
              refine wq_if _ (fun c93 => ?_) (fun c93 => ?_)
              · exact wq_t (Or.inr rfl) (wq_some (rI_i ⟨⟨_, H, O, G, fun _ => ⟨rfl, fun h => absurd h c18⟩⟩, (Or.inr rfl)⟩))
              · refine wq_at H.1 ?_
                refine wq_cI (v_fail H O G) ?_
                rintro y100 h94 ⟨⟨s96, H97, O98, G99⟩, p95⟩
                refine wq_t p95.2 ?_
                exact wq_t (Or.inl rfl) (wq_some (rI_i ⟨⟨_, H97, O98, G99, fun h => absurd h (by decide)⟩, (Or.inl rfl)⟩))
          · exact wq_t (Or.inr rfl) (wq_some (rI_i ⟨⟨_, H, O, G, fun _ => ⟨rfl, fun h => absurd h c18⟩⟩, (Or.inr rfl)⟩))
      · refine wq_at H.1 ?_
        refine wq_cI (v_fail H O G) ?_
        rintro y107 h101 ⟨⟨s103, H104, O105, G106⟩, p102⟩
        exact wq_t p102.1 (wq_some (rI_i ⟨⟨_, H104, O105, G106, fun h => absurd (p102.2.symm.trans h) (by decide)⟩, p102.1⟩))
end RfD
