/-! what add of the reference leaves -/
def adS (j i : Nat) : Prop := (8 ≤ j ∧ j ≤ 15 ∧ i < 4000) ∨ (j = 100 ∧ (i = 0 ∨ i = 19 ∨ i = 21))
def adT (j i : Nat) : Prop := (8 ≤ j ∧ j ≤ 14 ∧ i < 4000) ∨ (j = 100 ∧ i = 0)
section Zk
variable {lim : Nat × Nat} {d m N R n : Nat} {σ τ : rS} {bb : ah_H} {h h' : ah_H} {v1 v2 v3 : Int32}
theorem r_add_l (hN : (σ.1 19).toInt = N) (hN4 : N < 4000) (hR : (σ.1 21).toInt = R) (hRN : R ≤ N) (st : ∀ t, t < R → 0 ≤ (ia σ 15 t).toInt ∧ (ia σ 15 t).toInt < N) (h3 : v3.toInt = n) (n3 : n ≤ R) : ∀ (k j : Nat) (v4 : Int32) (h : ah_H) (τ : rS), v4.toInt = j → j + k = R → RH m τ bb h → sm adT σ τ → wq (ah_val lim ah_P d 42 150 [some (aR m), none, none, some (aI v3), some (aI v4), none] [] h) (rI fun x h' => ∃ σ', RH m σ' bb h' ∧ sm adS σ σ') := by
  have o1 : (1 : Int32).toInt = 1 := rfl
  have up : ∀ j i, adT j i → adS j i := fun j i q => by unfold adT at q; unfold adS; omega
  intro k
  induction k with
  | zero =>
    intro j v4 h τ hj hk H G
    have t19 : τ.1 19 = σ.1 19 := G.1 19 (fun q => by unfold adT at q; omega)
    have t21 : τ.1 21 = σ.1 21 := G.1 21 (fun q => by unfold adT at q; omega)
    have e3 : (σ.1 21 - v3).toInt = ((R - n : Nat) : Int) := by rw [sb_i (by omega) (by omega)]; omega
    refine wq_eq q_42_150 (wq_gI H.1 rfl ?_)
    rw [t21]
    refine wq_f (fun q => by have := lt_i q; omega) (wq_gI H.1 rfl ?_)
    rw [t21]
    refine rw_I H (by omega) rfl (fun h1 H1 => wq_gR H1.1 rfl (wq_gI H1.1 rfl (wq_gI H1.1 rfl (rs_N (j := 15) (N := R - n) H1 (by omega) rfl rfl (by rw [sG_eq]; exact e3) (by show R - n < 4000; omega) (fun h2 H2 => wq_gI H2.1 rfl (rw_I H2 (by omega) rfl (fun h4 H4 => wq_gI H4.1 rfl (rw_I H4 (by omega) rfl (fun h5 H5 => wq_gI H5.1 rfl (wq_some (rI_i ⟨_, H5, ?_⟩)))))))))))
    exact sm_G (sm_G (sm_I (sm_G (sm_tr (sm_0 (Q := adS)) G up) (by unfold adS; omega)) (by unfold adS; omega)) (by unfold adS; omega)) (by unfold adS; omega)
  | succ k ih =>
    intro j v4 h τ hj hk H G
    have t19 : τ.1 19 = σ.1 19 := G.1 19 (fun q => by unfold adT at q; omega)
    have t21 : τ.1 21 = σ.1 21 := G.1 21 (fun q => by unfold adT at q; omega)
    have t15 : ∀ i, ia τ 15 i = ia σ 15 i := fun i => G.2.2.1 15 i (fun q => by unfold adT at q; omega)
    obtain ⟨s0, s1⟩ := st j (by omega)
    have ea : (v4 + 1).toInt = ((j + 1 : Nat) : Int) := by rw [ad_i (by omega) (by omega), o1]; omega
    refine wq_eq q_42_150 (wq_gI H.1 rfl ?_)
    rw [t21]
    refine wq_t (Int32.lt_iff_toInt_lt.mpr (by omega)) (wq_gR H.1 rfl (ra_I H (j := 15) (by omega) rfl rfl (by omega) (by show _ < (4000 : Int); omega) ?_))
    rw [show v4.toInt.toNat = j by omega, t15]
    refine wq_gR H.1 rfl (wq_gI H.1 rfl (rs_N (j := 13) (N := (ia σ 15 j).toInt.toNat) H (by omega) rfl rfl (by omega) (by show _ < 24000; omega) (fun h6 H6 => wq_gR H6.1 rfl (wq_gI H6.1 rfl ?_))))
    have G6 : sm adT σ (sI τ 13 (ia σ 15 j).toInt.toNat (τ.1 19)) := sm_I G (by unfold adT; omega)
    generalize (sI τ 13 (ia σ 15 j).toInt.toNat (τ.1 19) : rS) = τ6 at H6 G6
    have u19 : τ6.1 19 = σ.1 19 := G6.1 19 (fun q => by unfold adT at q; omega)
    have u21 : τ6.1 21 = σ.1 21 := G6.1 21 (fun q => by unfold adT at q; omega)
    have go : ∀ s2 : Int32, wq (ah_val lim ah_P d 42 209 [some (aR m), none, none, some (aI v3), some (aI v4), some (aI (ia σ 15 j))] [aI s2, aI (ia σ 15 j), aR (m + 1 + 12)] h6) (rI fun x h' => ∃ σ', RH m σ' bb h' ∧ sm adS σ σ') := by
      intro s2
      refine wq_eq q_42_209 (rs_N (j := 12) (N := (ia σ 15 j).toInt.toNat) H6 (by omega) rfl rfl (by omega) (by show _ < 24000; omega) (fun h7 H7 => ?_))
      have G7 : sm adT σ (sI τ6 12 (ia σ 15 j).toInt.toNat s2) := sm_I G6 (by unfold adT; omega)
      generalize (sI τ6 12 (ia σ 15 j).toInt.toNat s2 : rS) = τ7 at H7 G7
      have w19 : τ7.1 19 = σ.1 19 := G7.1 19 (fun q => by unfold adT at q; omega)
      have fin : ∀ (x : Int32) (h8 : ah_H), RH m (sI τ7 14 N x) bb h8 → wq (ah_val lim ah_P d 42 150 [some (aR m), none, none, some (aI v3), some (aI (v4 + 1)), none] [] h8) (rI fun x h' => ∃ σ', RH m σ' bb h' ∧ sm adS σ σ') := fun x h8 H8 => ih (j + 1) (v4 + 1) h8 _ ea (by omega) H8 (sm_I G7 (by unfold adT; omega))
      refine wq_gR H7.1 rfl (wq_gI H7.1 rfl (wq_gR H7.1 rfl (ra_I H7 (j := 14) (by omega) rfl rfl (by omega) (by show _ < (24000 : Int); omega) (wq_gR H7.1 rfl (wq_gI H7.1 rfl ?_)))))
      rw [w19]
      refine ra_I H7 (j := 14) (by omega) rfl rfl (by omega) (by show _ < (24000 : Int); omega) (wq_if _ (fun c => ?_) (fun c => ?_))
      · refine wq_gR H7.1 rfl (wq_gI H7.1 rfl ?_)
        rw [w19]
        exact ra_I H7 (j := 14) (by omega) rfl rfl (by omega) (by show _ < (24000 : Int); omega) (rs_N (j := 14) (N := N) H7 (by omega) rfl rfl hN (by show N < 24000; omega) (fun h8 H8 => fin _ h8 H8))
      · exact wq_gR H7.1 rfl (ra_I H7 (j := 14) (by omega) rfl rfl (by omega) (by show _ < (24000 : Int); omega) (rs_N (j := 14) (N := N) H7 (by omega) rfl rfl hN (by show N < 24000; omega) (fun h8 H8 => fin _ h8 H8)))
    rw [u21]
    refine wq_if _ (fun c => ?_) (fun c => go (-1))
    have c := lt_i c
    exact wq_gR H6.1 rfl (ra_I H6 (j := 15) (by omega) rfl rfl (by omega) (by show _ < (4000 : Int); omega) (go _))
theorem r_add_s (H : RH m σ bb h) (hN : (σ.1 19).toInt = N) (hN4 : N ≤ 4000) (hR : (σ.1 21).toInt = R) (hRN : R ≤ N) (st : ∀ t, t < R → 0 ≤ (ia σ 15 t).toInt ∧ (ia σ 15 t).toInt < N) : wq (vc lim (d + 1) m_Ref_add [aR m, aI v1, aI v2, aI v3] h) (rI fun x h' => ∃ σ', RH m σ' bb h' ∧ sm adS σ σ') := by
  have z0 : (0 : Int32).toInt = 0 := rfl
  have e4 : (4000 : Int32).toInt = 4000 := rfl
  have bad : ∀ e : Int32, ¬ e ≤ 0 → wq (ah_val lim ah_P d 42 42 [some (aR m), some (aI v1), some (aI v2), some (aI v3), none, none] [aI e, aR m] h) (rI fun x h' => ∃ σ', RH m σ' bb h' ∧ sm adS σ σ') := fun e he => wq_eq q_42_42 (zr_e (K := none) H he (fun h1 H1 => wq_some (rI_i ⟨_, H1, sm_G sm_0 (by unfold adS; omega)⟩)))
  refine wq_eq e_Ref_add (wq_if _ (fun c => bad 1 (by decide)) (fun c => wq_if _ (fun c1 => wq_if _ (fun c2 => bad 1 (by decide)) (fun c2 => wq_gI H.1 rfl (wq_if _ (fun c3 => wq_gI H.1 rfl (wq_if _ (fun c4 => bad 2 (by decide)) (fun c4 => ?_))) (fun c3 => bad 1 (by decide))))) (fun c1 => bad 1 (by decide))))
  have w2 := nlt_i c2
  have w3 := Int32.le_iff_toInt_le.mp c3
  have lt : N < 4000 := by
    by_cases q : N = 4000
    · exact absurd (Int32.toInt_inj.mp (by rw [hN, q]; rfl)) c4
    · omega
  have h3 : v3.toInt = ((v3.toInt.toNat : Nat) : Int) := by omega
  refine wq_eq q_42_42 (zr_o H (fun h1 H1 => ?_))
  have G1 : sm adT σ (sG σ 0 0) := sm_G sm_0 (by unfold adT; omega)
  have f19 : ∀ {τ : rS}, sm adT σ τ → τ.1 19 = σ.1 19 := fun G => G.1 19 (fun q => by unfold adT at q; omega)
  have f21 : ∀ {τ : rS}, sm adT σ τ → τ.1 21 = σ.1 21 := fun G => G.1 21 (fun q => by unfold adT at q; omega)
  generalize (sG σ 0 0 : rS) = τ1 at H1 G1
  refine wq_gR H1.1 rfl (wq_gI H1.1 rfl (rs_N (j := 8) (N := N) H1 (by omega) rfl rfl (by rw [f19 G1]; exact hN) (by show N < 24000; omega) (fun h2 H2 => ?_)))
  have G2 : sm adT σ (sI τ1 8 N v1) := sm_I G1 (by unfold adT; omega)
  generalize (sI τ1 8 N v1 : rS) = τ2 at H2 G2
  refine wq_gR H2.1 rfl (wq_gI H2.1 rfl (rs_N (j := 9) (N := N) H2 (by omega) rfl rfl (by rw [f19 G2]; exact hN) (by show N < 24000; omega) (fun h4 H4 => ?_)))
  have G4 : sm adT σ (sI τ2 9 N v2) := sm_I G2 (by unfold adT; omega)
  generalize (sI τ2 9 N v2 : rS) = τ4 at H4 G4
  refine wq_gR H4.1 rfl (wq_gI H4.1 rfl (rs_N (j := 10) (N := N) H4 (by omega) rfl rfl (by rw [f19 G4]; exact hN) (by show N < 24000; omega) (fun h5 H5 => ?_)))
  have G5 : sm adT σ (sI τ4 10 N v3) := sm_I G4 (by unfold adT; omega)
  generalize (sI τ4 10 N v3 : rS) = τ5 at H5 G5
  refine wq_gR H5.1 rfl (wq_gI H5.1 rfl ?_)
  have go : ∀ s2 : Int32, wq (ah_val lim ah_P d 42 111 [some (aR m), none, none, some (aI v3), none, none] [aI s2, aI (τ5.1 19), aR (m + 1 + 11)] h5) (rI fun x h' => ∃ σ', RH m σ' bb h' ∧ sm adS σ σ') := by
    intro s2
    refine wq_eq q_42_111 (rs_N (j := 11) (N := N) H5 (by omega) rfl rfl (by rw [f19 G5]; exact hN) (by show N < 24000; omega) (fun h6 H6 => ?_))
    have G6 : sm adT σ (sI τ5 11 N s2) := sm_I G5 (by unfold adT; omega)
    generalize (sI τ5 11 N s2 : rS) = τ6 at H6 G6
    refine wq_gR H6.1 rfl (wq_gI H6.1 rfl (rs_N (j := 12) (N := N) H6 (by omega) rfl rfl (by rw [f19 G6]; exact hN) (by show N < 24000; omega) (fun h7 H7 => ?_)))
    have G7 : sm adT σ (sI τ6 12 N (-1)) := sm_I G6 (by unfold adT; omega)
    generalize (sI τ6 12 N (-1) : rS) = τ7 at H7 G7
    refine wq_gR H7.1 rfl (wq_gI H7.1 rfl (rs_N (j := 13) (N := N) H7 (by omega) rfl rfl (by rw [f19 G7]; exact hN) (by show N < 24000; omega) (fun h8 H8 => ?_)))
    have G8 : sm adT σ (sI τ7 13 N (-1)) := sm_I G7 (by unfold adT; omega)
    generalize (sI τ7 13 N (-1) : rS) = τ8 at H8 G8
    refine wq_gR H8.1 rfl (wq_gI H8.1 rfl (rs_N (j := 14) (N := N) H8 (by omega) rfl rfl (by rw [f19 G8]; exact hN) (by show N < 24000; omega) (fun h9 H9 => ?_)))
    have G9 : sm adT σ (sI τ8 14 N 1) := sm_I G8 (by unfold adT; omega)
    generalize (sI τ8 14 N 1 : rS) = τ9 at H9 G9
    refine wq_gI H9.1 rfl ?_
    rw [f21 G9]
    have e5 : (σ.1 21 - v3).toInt = ((R - v3.toInt.toNat : Nat) : Int) := by rw [sb_i (by omega) (by omega)]; omega
    exact r_add_l hN lt hR hRN st h3 (by omega) v3.toInt.toNat (R - v3.toInt.toNat) (σ.1 21 - v3) h9 τ9 e5 (by omega) H9 G9
  refine wq_if _ (fun c5 => go (-1)) (fun c5 => wq_gR H5.1 rfl (wq_gI H5.1 rfl ?_))
  rw [f21 G5]
  have e5 : (σ.1 21 - v3).toInt = R - v3.toInt := by rw [sb_i (by omega) (by omega)]; omega
  have n5 := ne_i c5
  exact ra_I H5 (j := 15) (by omega) rfl rfl (by omega) (by show _ < (4000 : Int); omega) (go _)
end Zk
