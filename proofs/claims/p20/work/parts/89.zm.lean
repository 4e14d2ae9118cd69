/-! a process is kept in the reference: what stays -/
def knQ (B N j i : Nat) : Prop := 8 ≤ j ∧ j ≤ 12 ∧ B ≤ i ∧ i < B + N
def kpQ (B N P fv nD j i : Nat) : Prop := knQ B N j i ∨ (16 ≤ j ∧ j ≤ 26 ∧ i = P) ∨ kvQ fv nD j i ∨ (j = 100 ∧ (i = 8 ∨ i = 22 ∨ i = 23))
section Zm
variable {lim : Nat × Nat} {d m N nD fv B P : Nat} {σ τ : rS} {bb : ah_H} {h h' : ah_H} {v1 v2 v3 : Int32} {dc da db : Nat → Int32} {Φ : ah_R → Prop}
theorem r_kp_n (hB : v1.toInt = B) (hBN : B + N ≤ 24000) (h19 : (σ.1 19).toInt = N) (fin : ∀ τ h, RH m τ bb h → sm (knQ B N) σ τ → wq (ah_val lim ah_P (d + 2) 61 11 [some (aR m), some (aI v1), some (aI (Nat.toInt32 N))] [] h) Φ) (hN4 : N ≤ 4000) : ∀ (k i : Nat) (h : ah_H) (τ : rS), i + k = N → RH m τ bb h → sm (knQ B N) σ τ → wq (ah_val lim ah_P (d + 2) 61 11 [some (aR m), some (aI v1), some (aI (Nat.toInt32 i))] [] h) Φ := by
  have z1 : (1 : Int32).toInt = 1 := rfl
  intro k
  induction k with
  | zero =>
    intro i h τ hk H G
    have : i = N := by omega
    subst this
    exact fin τ h H G
  | succ k ih =>
    intro i h τ hk H G
    have t19 : ∀ {τ : rS}, sm (knQ B N) σ τ → τ.1 19 = σ.1 19 := fun G => G.1 19 (fun q => by unfold knQ at q; omega)
    have en : (Nat.toInt32 i).toInt = i := i32n (by omega)
    have ea : (v1 + Nat.toInt32 i).toInt = ((B + i : Nat) : Int) := by rw [ad_i (by omega) (by omega), en, hB]; omega
    have es : Nat.toInt32 i + 1 = Nat.toInt32 (i + 1) := Int32.toInt_inj.mp (by rw [ad_i (by omega) (by omega), en, z1, i32n (by omega)]; rfl)
    refine wq_eq q_61_11 (wq_gI H.1 rfl ?_)
    rw [t19 G]
    refine wq_t (Int32.lt_iff_toInt_lt.mpr (by omega)) (wq_gR H.1 rfl (wq_gR H.1 rfl (ra_I H (j := 8) (by omega) rfl rfl (by omega) (by show _ < (24000 : Int); omega) (rs_N (j := 8) (N := B + i) H (by omega) rfl rfl ea (by show B + i < 24000; omega) (fun h5 H5 => ?_)))))
    have G5 := sm_I (x := ia τ 8 (Nat.toInt32 i).toInt.toNat) G (show knQ B N 8 (B + i) by unfold knQ; omega)
    generalize (sI τ 8 (B + i) (ia τ 8 (Nat.toInt32 i).toInt.toNat) : rS) = τ5 at H5 G5
    refine wq_gR H5.1 rfl (wq_gR H5.1 rfl (ra_I H5 (j := 9) (by omega) rfl rfl (by omega) (by show _ < (24000 : Int); omega) (rs_N (j := 9) (N := B + i) H5 (by omega) rfl rfl ea (by show B + i < 24000; omega) (fun h9 H9 => ?_))))
    have G9 := sm_I (x := ia τ5 9 (Nat.toInt32 i).toInt.toNat) G5 (show knQ B N 9 (B + i) by unfold knQ; omega)
    generalize (sI τ5 9 (B + i) (ia τ5 9 (Nat.toInt32 i).toInt.toNat) : rS) = τ9 at H9 G9
    refine wq_gR H9.1 rfl (wq_gR H9.1 rfl (ra_I H9 (j := 10) (by omega) rfl rfl (by omega) (by show _ < (24000 : Int); omega) (rs_N (j := 10) (N := B + i) H9 (by omega) rfl rfl ea (by show B + i < 24000; omega) (fun h13 H13 => ?_))))
    have G13 := sm_I (x := ia τ9 10 (Nat.toInt32 i).toInt.toNat) G9 (show knQ B N 10 (B + i) by unfold knQ; omega)
    generalize (sI τ9 10 (B + i) (ia τ9 10 (Nat.toInt32 i).toInt.toNat) : rS) = τ13 at H13 G13
    have go : ∀ s2 : Int32, wq (ah_val lim ah_P (d + 2) 61 90 [some (aR m), some (aI v1), some (aI (Nat.toInt32 i))] [aI s2, aI (v1 + Nat.toInt32 i), aR (m + 1 + 11)] h13) Φ := by
      intro s2
      refine wq_eq q_61_90 (rs_N (j := 11) (N := B + i) H13 (by omega) rfl rfl ea (by show B + i < 24000; omega) (fun h14 H14 => ?_))
      have G14 := sm_I (x := s2) G13 (show knQ B N 11 (B + i) by unfold knQ; omega)
      generalize (sI τ13 11 (B + i) s2 : rS) = τ14 at H14 G14
      rw [es]
      have fn : ∀ (x : Int32) (h15 : ah_H), RH m (sI τ14 12 (B + i) x) bb h15 → wq (ah_val lim ah_P (d + 2) 61 11 [some (aR m), some (aI v1), some (aI (Nat.toInt32 (i + 1)))] [] h15) Φ := fun x h15 H15 => ih (i + 1) h15 _ (by omega) H15 (sm_I G14 (by unfold knQ; omega))
      refine wq_gR H14.1 rfl (wq_gR H14.1 rfl (ra_I H14 (j := 12) (by omega) rfl rfl (by omega) (by show _ < (24000 : Int); omega) (wq_if _ (fun c => ?_) (fun c => ?_))))
      · exact rs_N (j := 12) (N := B + i) H14 (by omega) rfl rfl ea (by show B + i < 24000; omega) (fun h15 H15 => fn _ h15 H15)
      · exact wq_gR H14.1 rfl (ra_I H14 (j := 12) (by omega) rfl rfl (by omega) (by show _ < (24000 : Int); omega) (rs_N (j := 12) (N := B + i) H14 (by omega) rfl rfl ea (by show B + i < 24000; omega) (fun h15 H15 => fn _ h15 H15)))
    refine wq_gR H13.1 rfl (wq_gR H13.1 rfl (ra_I H13 (j := 11) (by omega) rfl rfl (by omega) (by show _ < (24000 : Int); omega) (wq_if _ (fun c => go (-1)) (fun c => wq_gR H13.1 rfl (ra_I H13 (j := 11) (by omega) rfl rfl (by omega) (by show _ < (24000 : Int); omega) (go _))))))
theorem r_keep_s (H : RH m σ bb h) (hB0 : byE σ) (D : DRx nD dc da db σ) (h8 : (σ.1 8).toInt = fv) (h9 : (σ.1 9).toInt = nD) (f8 : fv + nD ≤ 8192) (h19 : (σ.1 19).toInt = N) (hN4 : N ≤ 4000) (h22 : (σ.1 22).toInt + 4000 = B) (hBN : B + N ≤ 24000) (h23 : (σ.1 23).toInt = P) (hP : P < 64) : wq (vc lim (d + 3) m_Ref_keep [aR m] h) (rV fun h' => ∃ σ', RH m σ' bb h' ∧ sm (kpQ B N P fv nD) σ σ' ∧ VMx fv nD dc da db σ' ∧ byE σ' ∧ ia σ' 23 P = 0 ∧ (ia σ' 16 P).toInt = B) := by
  have z4 : (4000 : Int32).toInt = 4000 := rfl
  have l128 := D.1
  have b22 : 0 ≤ (σ.1 22).toInt ∨ (σ.1 22).toInt < 0 := by omega
  have eB : (4000 + σ.1 22).toInt = B := by rw [ad_i (by omega) (by omega), z4]; omega
  refine wq_eq q_61_0 (wq_gI H.1 rfl ?_)
  refine r_kp_n (σ := σ) (B := B) (N := N) eB hBN h19 (fun τ h1 H1 G1 => ?_) hN4 N 0 h σ (by omega) H sm_0
  have t : ∀ {τ : rS} {Q : Nat → Nat → Prop} (k : Nat), sm Q σ τ → (∀ j i, Q j i → j = 100 → i ≠ k) → τ.1 k = σ.1 k := fun k G hQ => G.1 k (fun q => hQ _ _ q rfl rfl)
  have K1 : sm (kpQ B N P fv nD) σ τ := sm_tr sm_0 G1 (fun _ _ q => Or.inl q)
  have a19 : τ.1 19 = σ.1 19 := G1.1 19 (fun q => by unfold knQ at q; omega)
  have a23 : τ.1 23 = σ.1 23 := G1.1 23 (fun q => by unfold knQ at q; omega)
  have a8 : τ.1 8 = σ.1 8 := G1.1 8 (fun q => by unfold knQ at q; omega)
  have a9 : τ.1 9 = σ.1 9 := G1.1 9 (fun q => by unfold knQ at q; omega)
  have a22 : τ.1 22 = σ.1 22 := G1.1 22 (fun q => by unfold knQ at q; omega)
  have hp : (τ.1 23).toInt = P := by rw [a23]; exact h23
  have en : (Nat.toInt32 N).toInt = N := i32n (by omega)
  refine wq_eq q_61_11 (wq_gI H1.1 rfl ?_)
  rw [a19]
  refine wq_f (fun q => by have := lt_i q; omega) (wq_gR H1.1 rfl (wq_gI H1.1 rfl (rs_N (j := 16) (N := P) H1 (by omega) rfl rfl hp (by show P < 64; omega) (fun h2 H2 => wq_gR H2.1 rfl (wq_gI H2.1 rfl (wq_gI H2.1 rfl (rs_N (j := 17) (N := P) H2 (by omega) rfl rfl hp (by show P < 64; omega) (fun h3 H3 => wq_gR H3.1 rfl (wq_gI H3.1 rfl (wq_gI H3.1 rfl (rs_N (j := 18) (N := P) H3 (by omega) rfl rfl hp (by show P < 64; omega) (fun h4 H4 => wq_gR H4.1 rfl (wq_gI H4.1 rfl (wq_gI H4.1 rfl (rs_N (j := 19) (N := P) H4 (by omega) rfl rfl hp (by show P < 64; omega) (fun h5 H5 => ?_))))))))))))))))
  have i16 : ia (sI (sI (sI (sI τ 16 P (4000 + σ.1 22)) 17 P (4000 + σ.1 22 + τ.1 19 - 1)) 18 P (τ.1 8)) 19 P (τ.1 9)) 16 P = 4000 + σ.1 22 := (sI_nj (by omega)).trans ((sI_nj (by omega)).trans ((sI_nj (by omega)).trans sI_eq))
  have K5 : sm (kpQ B N P fv nD) σ (sI (sI (sI (sI τ 16 P (4000 + σ.1 22)) 17 P (4000 + σ.1 22 + τ.1 19 - 1)) 18 P (τ.1 8)) 19 P (τ.1 9)) := sm_I (sm_I (sm_I (sm_I K1 (by unfold kpQ; omega)) (by unfold kpQ; omega)) (by unfold kpQ; omega)) (by unfold kpQ; omega)
  have H5' : RH m (sI (sI (sI (sI τ 16 P (4000 + σ.1 22)) 17 P (4000 + σ.1 22 + τ.1 19 - 1)) 18 P (τ.1 8)) 19 P (τ.1 9)) bb h5 := H5
  have o5 : ∀ j i, j < 8 → ia (sI (sI (sI (sI τ 16 P (4000 + σ.1 22)) 17 P (4000 + σ.1 22 + τ.1 19 - 1)) 18 P (τ.1 8)) 19 P (τ.1 9)) j i = ia σ j i := fun j i hj => (sI_nj (by omega)).trans ((sI_nj (by omega)).trans ((sI_nj (by omega)).trans ((sI_nj (by omega)).trans (G1.2.2.1 j i (fun q => by unfold knQ at q; omega)))))
  have b5 : byE (sI (sI (sI (sI τ 16 P (4000 + σ.1 22)) 17 P (4000 + σ.1 22 + τ.1 19 - 1)) 18 P (τ.1 8)) 19 P (τ.1 9)) := byE_e hB0 (fun j i hj => o5 j i (by omega))
  have D5 : DRx nD dc da db (sI (sI (sI (sI τ 16 P (4000 + σ.1 22)) 17 P (4000 + σ.1 22 + τ.1 19 - 1)) 18 P (τ.1 8)) 19 P (τ.1 9)) := ⟨D.1, fun i hi => ⟨(D.2 i hi).1, (o5 0 _ (by omega)).trans (D.2 i hi).2.1, (o5 2 _ (by omega)).trans (D.2 i hi).2.2.1, (o5 3 _ (by omega)).trans (D.2 i hi).2.2.2⟩⟩
  have g5 : (sI (sI (sI (sI τ 16 P (4000 + σ.1 22)) 17 P (4000 + σ.1 22 + τ.1 19 - 1)) 18 P (τ.1 8)) 19 P (τ.1 9)).1 = τ.1 := rfl
  clear H5
  generalize (sI (sI (sI (sI τ 16 P (4000 + σ.1 22)) 17 P (4000 + σ.1 22 + τ.1 19 - 1)) 18 P (τ.1 8)) 19 P (τ.1 9) : rS) = σ5 at H5' K5 b5 D5 i16 g5
  refine r_kp_v (σ := σ5) D5 (by rw [g5, a8]; exact h8) (by rw [g5, a9]; exact h9) f8 (fun τ6 h6 H6 G6 V6 B6 => ?_) nD 0 h5 σ5 (by omega) H5' sm_0 (fun i hi => absurd hi (Nat.not_lt_zero _)) b5
  have K6 : sm (kpQ B N P fv nD) σ τ6 := sm_tr K5 G6 (fun j i q => by unfold kpQ; exact Or.inr (Or.inr (Or.inl q)))
  have c8 : ∀ k, τ6.1 k = τ.1 k := fun k => (G6.1 k (fun q => by unfold kvQ at q; omega)).trans (by rw [g5])
  have en9 : (Nat.toInt32 nD).toInt = nD := i32n (by omega)
  have hp6 : ((sG τ6 8 (τ6.1 8 + τ6.1 9)).1 23).toInt = P := by
    rw [sG_ne (by omega), c8]
    exact hp
  have fin : ∀ (y z : Int32) (h' : ah_H), RH m (sG (sG (sI (sI (sI (sI (sI (sG τ6 8 (τ6.1 8 + τ6.1 9)) 20 P 0) 21 P 0) 22 P (-1)) 23 P 0) 26 P 0) 22 y) 23 z) bb h' → ∃ σ', RH m σ' bb h' ∧ sm (kpQ B N P fv nD) σ σ' ∧ VMx fv nD dc da db σ' ∧ byE σ' ∧ ia σ' 23 P = 0 ∧ (ia σ' 16 P).toInt = B := by
    intro y z h' H'
    have oi : ∀ j i, j < 20 → ia (sG (sG (sI (sI (sI (sI (sI (sG τ6 8 (τ6.1 8 + τ6.1 9)) 20 P 0) 21 P 0) 22 P (-1)) 23 P 0) 26 P 0) 22 y) 23 z) j i = ia τ6 j i := fun j i hj => by
      show ia (sI (sI (sI (sI (sI (sG τ6 8 (τ6.1 8 + τ6.1 9)) 20 P 0) 21 P 0) 22 P (-1)) 23 P 0) 26 P 0) j i = ia τ6 j i
      exact (sI_nj (by omega)).trans ((sI_nj (by omega)).trans ((sI_nj (by omega)).trans ((sI_nj (by omega)).trans (sI_nj (by omega)))))
    refine ⟨_, H', sm_G (sm_G (sm_I (sm_I (sm_I (sm_I (sm_I (sm_G K6 (by unfold kpQ; omega)) (by unfold kpQ; omega)) (by unfold kpQ; omega)) (by unfold kpQ; omega)) (by unfold kpQ; omega)) (by unfold kpQ; omega)) (by unfold kpQ; omega)) (by unfold kpQ; omega), fun i hi => ?_, byE_e B6 (fun j i hj => oi j i (by omega)), ?_, ?_⟩
    · obtain ⟨⟨p1, p2⟩, p3⟩ := V6 i hi
      rw [oi 2 _ (by omega), oi 3 _ (by omega)]
      exact ⟨⟨RW_e p1 (oi 0 _ (by omega)) (oi 1 _ (by omega)) rfl (fun k _ => oi 5 _ (by omega)) p2, p2⟩, p3⟩
    · show ia (sI (sI (sI (sI (sI (sG τ6 8 (τ6.1 8 + τ6.1 9)) 20 P 0) 21 P 0) 22 P (-1)) 23 P 0) 26 P 0) 23 P = 0
      exact (sI_nj (by omega)).trans sI_eq
    · rw [oi 16 _ (by omega), show ia τ6 16 P = ia σ5 16 P from G6.2.2.1 16 P (fun q => by unfold kvQ at q; omega), i16]
      exact eB
  refine wq_eq q_61_182 (wq_gI H6.1 rfl ?_)
  rw [show τ6.1 9 = σ.1 9 from (c8 9).trans a9]
  refine wq_f (fun q => by have := lt_i q; omega) (wq_gI H6.1 rfl (wq_gI H6.1 rfl (rw_I H6 (by omega) rfl (fun h7 H7 => wq_gR H7.1 rfl (wq_gI H7.1 rfl (rs_N (j := 20) (N := P) H7 (by omega) rfl rfl hp6 (by show P < 64; omega) (fun h8 H8 => wq_gR H8.1 rfl (wq_gI H8.1 rfl (rs_N (j := 21) (N := P) H8 (by omega) rfl rfl hp6 (by show P < 64; omega) (fun h9 H9 => wq_gR H9.1 rfl (wq_gI H9.1 rfl (rs_N (j := 22) (N := P) H9 (by omega) rfl rfl hp6 (by show P < 64; omega) (fun h10 H10 => wq_gR H10.1 rfl (wq_gI H10.1 rfl (rs_N (j := 23) (N := P) H10 (by omega) rfl rfl hp6 (by show P < 64; omega) (fun h11 H11 => wq_gR H11.1 rfl (wq_gI H11.1 rfl (rs_N (j := 26) (N := P) H11 (by omega) rfl rfl hp6 (by show P < 64; omega) (fun h12 H12 => wq_gI H12.1 rfl (wq_gI H12.1 rfl (rw_I H12 (by omega) rfl (fun h13 H13 => wq_gI H13.1 rfl (rw_I H13 (by omega) rfl (fun h14 H14 => wq_some (rV_i (fin _ _ h14 H14))))))))))))))))))))))))))
end Zm
