/-! THE REFERENCE'S CALLS: resume, holds -/
section Re
variable {lim : Nat × Nat} {m d : Nat} {σ σ' σ0 : rS} {b h : ah_H} {v1 v2 v3 v4 : Int32}
/-- what a run leaves -/
theorem RI_r (R : RI σ) (O : OKV σ') (A : AI σ') (hf : ∀ k, (k = 7 ∨ k = 8 ∨ k = 9 ∨ k = 19 ∨ k = 21 ∨ k = 22 ∨ k = 23) → σ'.1 k = σ.1 k) (ha : ∀ j i, 8 ≤ j → j ≤ 19 → ia σ' j i = ia σ j i) (ho : ∀ a : Int32, 0 ≤ a.toInt → a.toInt < 64 → a ≠ v1 → (∀ j, 20 ≤ j → j ≤ 26 → ia σ' j a.toInt.toNat = ia σ j a.toInt.toNat) ∧ ∀ i, i < 128 → ia σ' 27 (128 * a.toInt.toNat + i) = ia σ 27 (128 * a.toInt.toNat + i) ∧ ia σ' 28 (128 * a.toInt.toNat + i) = ia σ 28 (128 * a.toInt.toNat + i)) (hv : ∀ j i, j ≤ 3 → 9216 ≤ i → i < 9344 → ia σ' j i = ia σ j i) (hq : PQ σ' v1) : RI σ' := by
  obtain ⟨-, D, -, N, P⟩ := R
  refine ⟨O, DI_eq (fun j i h1 h2 => ha j i (by omega) (by omega)) (hf 19 (by omega)) (hf 21 (by omega)) D, A, ?_, fun a h0 h1 => ?_⟩
  · refine ⟨?_, DV_e (hf 9 (by omega)) hv N.1 N.2⟩
    unfold NJ
    rw [hf 7 (by omega), hf 8 (by omega), hf 9 (by omega), hf 22 (by omega), hf 23 (by omega)]
    exact N.1
  · rw [hf 23 (by omega)] at h1
    by_cases e : a = v1
    · subst e
      exact hq
    · have Pa := P a h0 h1
      obtain ⟨q0, q1, -⟩ := PV_a Pa.1
      obtain ⟨o1, o2⟩ := ho a h0 q1 e
      have e22 : (at39 σ' a).1 22 = (at39 σ a).1 22 := by rw [sG_ne (by omega), sG_ne (by omega)]; exact hf 22 (by omega)
      exact PQ_of ⟨by rw [e22]; exact Int.le_refl _, fun j i h1 h2 _ _ => ha j i h1 (by omega), by rw [sG_eq, sG_eq], ha 18 _ (by omega) (by omega), ha 19 _ (by omega) (by omega)⟩ (ha 17 _ (by omega) (by omega)) (o1 20 (by omega) (by omega)) (o1 24 (by omega) (by omega)) (o1 26 (by omega) (by omega)) o2 Pa
/-- a process's end is set down -/
def edP (σ σ' : rS) (q : Nat) (x : Int32) : Prop := σ'.1 = σ.1 ∧ ia σ' 20 q = x ∧ (∀ j i, ¬ (20 ≤ j ∧ j ≤ 22 ∧ i = q) → ia σ' j i = ia σ j i)
theorem f_ended {q : Nat} (H : RH m σ b h) (hq : (σ.1 39).toInt = q) (hq2 : q < 64) : wq (vc lim (d + 1) m_Ref_ended [.inr (.inr (some m)), .inl v1] h) (rV fun h' => ∃ σ', RH m σ' b h' ∧ edP σ σ' q v1) := by
  have hq3 : (σ.1 39).toInt.toNat = q := by omega
  refine wq_eq e_Ref_ended (wq_gR H.1 rfl (wq_gI H.1 rfl (rs_I H (by omega) rfl rfl (by omega) (by show _ < (64 : Int); omega) (fun h3 H3 => ?_))))
  rw [hq3] at H3
  refine wq_if _ (fun c => ?_) (fun c => ?_)
  · refine wq_gR H3.1 rfl (wq_gI H3.1 rfl (wq_gI H3.1 rfl (rs_I H3 (by omega) rfl rfl (by show 0 ≤ (σ.1 39).toInt; omega) (by show (σ.1 39).toInt < (64 : Int); omega) (fun h7 H7 => ?_))))
    rw [show ((sI σ 20 q v1).1 39).toInt.toNat = q from hq3] at H7
    refine wq_gR H7.1 rfl (wq_gI H7.1 rfl (wq_gI H7.1 rfl (wq_gR H7.1 rfl (wq_gI H7.1 rfl (rdP H7 (by show 0 ≤ (σ.1 39).toInt; omega) (by show (σ.1 39).toInt < (64 : Int); omega) (by omega) (rs_I H7 (by omega) rfl rfl (by show 0 ≤ (σ.1 39).toInt; omega) (by show (σ.1 39).toInt < (64 : Int); omega) (fun h8 H8 => ?_)))))))
    rw [show ((sI (sI σ 20 q v1) 21 q ((sI σ 20 q v1).1 41)).1 39).toInt.toNat = q from hq3] at H8
    refine wq_some (rV_i ⟨_, H8, rfl, ?_, fun j i hn => ?_⟩)
    · rw [sI_nj (by omega), sI_nj (by omega), sI_eq]
    · have g : ∀ t : Nat, 20 ≤ t → t ≤ 22 → ∀ (τ : rS) (x : Int32), ia (sI τ t q x) j i = ia τ j i := fun t h1 h2 τ x => by
        by_cases e : j = t
        · exact sI_ni (fun e2 => hn ⟨by omega, by omega, e2⟩)
        · exact sI_nj e
      rw [g 22 (by omega) (by omega), g 21 (by omega) (by omega), g 20 (by omega) (by omega)]
  · refine wq_some (rV_i ⟨_, H3, rfl, sI_eq, fun j i hn => ?_⟩)
    by_cases e : j = 20
    · exact sI_ni (fun e2 => hn ⟨by omega, by omega, e2⟩)
    · exact sI_nj e
theorem AI_f {τ : rS} (A : AI τ) (h1 : σ'.1 46 = τ.1 46) (h2 : σ'.1 47 = τ.1 47) (h3 : ∀ i, ia σ' 37 i = ia τ 37 i) : AI σ' := by
  unfold AI
  rw [h1, h2]
  exact ⟨A.1, A.2.1, A.2.2.1, A.2.2.2.1, fun i hi => by rw [h3]; exact A.2.2.2.2 i hi⟩
theorem v_resume (H : RH m σ b h) (R : RI σ) : wq (vc lim (d + 225) m_Ref_resume [.inr (.inr (some m)), .inl v1, .inl v2] h) (rI fun x h' => rP m σ b h') := by
  obtain ⟨O, D, A, N, P⟩ := id R
  have e1 : (1 : Int32).toInt = 1 := rfl
  have e4 : (10000 : Int32).toInt = 10000 := rfl
  have no : ∀ x : Int32, ¬ x ≤ 0 → wq (ah_val lim ah_P (d + 224) 108 44 [some (.inr (.inr (some m))), some (.inl v1), some (.inl v2)] [.inl x, .inr (.inr (some m))] h) (rI fun x h' => rP m σ b h') := fun x hx => wq_eq q_108_44 (wc H (fun h2 H2 => rc H2 (wq_f hx (wq_some (rI_i (rP_c H2 R))))))
  refine wq_eq e_Ref_resume (wq_at H.1 (wq_cI (f_noProcess H) ?_))
  rintro y h1 ⟨rfl, hy, hp⟩
  refine wq_if _ (fun c => ?_) (fun c => no 1 (by decide))
  obtain ⟨p0, p1⟩ := hp c
  obtain ⟨P1, ⟨k0, hk0, P2⟩, P3, P4, P5, P6⟩ := P v1 p0 p1
  obtain ⟨q0, q1, q2, q3, q4⟩ := PV_a P1
  refine wq_if _ (fun c1 => no 2 (by decide)) (fun c1 => wq_if _ (fun c2 => ?_) (fun c2 => no 2 (by decide)))
  have c1 := nlt_i c1
  have c2 := le_i c2
  refine wq_gR H.1 rfl (rdP H q0 q1 (by omega) (wq_if _ (fun c3 => ?_) (fun c3 => no 3 (by decide))))
  have c3 := le_i c3
  obtain ⟨dd, n, w, hd, F⟩ := P5 (by omega)
  refine wq_eq q_108_44 (wc H (fun h2 H2 => rc H2 (wq_t (by decide) (rw_I H2 (by omega) rfl (fun h3 H3 => rw_I H3 (by omega) rfl (fun h4 H4 => rw_I H4 (by omega) rfl (fun h5 H5 => rw_I H5 (by omega) rfl (fun h6 H6 => wq_gR H6.1 rfl (rs_I H6 (by omega) rfl rfl (by decide) (by decide) (fun h8 H8 => ?_))))))))))
  -- the state at the beginning
  have f39 : (sI (sG (sG (sG (sG (sG σ 0 0) 39 v1) 40 v2) 46 0) 47 0) 37 (0 : Int32).toInt.toNat 0).1 39 = v1 := by
    show (sG (sG (sG (sG (sG σ 0 0) 39 v1) 40 v2) 46 0) 47 0).1 39 = v1
    rw [sG_ne (by omega), sG_ne (by omega), sG_ne (by omega), sG_eq]
  have f40 : (sI (sG (sG (sG (sG (sG σ 0 0) 39 v1) 40 v2) 46 0) 47 0) 37 (0 : Int32).toInt.toNat 0).1 40 = v2 := by
    show (sG (sG (sG (sG (sG σ 0 0) 39 v1) 40 v2) 46 0) 47 0).1 40 = v2
    rw [sG_ne (by omega), sG_ne (by omega), sG_eq]
  have fk : ∀ k, k ≠ 0 → k ≠ 39 → k ≠ 40 → k ≠ 46 → k ≠ 47 → (sI (sG (sG (sG (sG (sG σ 0 0) 39 v1) 40 v2) 46 0) 47 0) 37 (0 : Int32).toInt.toNat 0).1 k = σ.1 k := by
    intro k h0 h1 h2 h3 h4
    show (sG (sG (sG (sG (sG σ 0 0) 39 v1) 40 v2) 46 0) 47 0).1 k = σ.1 k
    rw [sG_ne h4, sG_ne h3, sG_ne h2, sG_ne h1, sG_ne h0]
  have fa : ∀ j i, j ≠ 37 → ia (sI (sG (sG (sG (sG (sG σ 0 0) 39 v1) 40 v2) 46 0) 47 0) 37 (0 : Int32).toInt.toNat 0) j i = ia σ j i := fun j i hj => sI_nj hj
  have A1 : AI (sI (sG (sG (sG (sG (sG σ 0 0) 39 v1) 40 v2) 46 0) 47 0) 37 (0 : Int32).toInt.toNat 0) := by
    have g1 : (sI (sG (sG (sG (sG (sG σ 0 0) 39 v1) 40 v2) 46 0) 47 0) 37 (0 : Int32).toInt.toNat 0).1 46 = 0 := by
      show (sG (sG (sG (sG (sG σ 0 0) 39 v1) 40 v2) 46 0) 47 0).1 46 = 0
      rw [sG_ne (by omega), sG_eq]
    have g2 : (sI (sG (sG (sG (sG (sG σ 0 0) 39 v1) 40 v2) 46 0) 47 0) 37 (0 : Int32).toInt.toNat 0).1 47 = 0 := by
      show (sG (sG (sG (sG (sG σ 0 0) 39 v1) 40 v2) 46 0) 47 0).1 47 = 0
      rw [sG_eq]
    have e0 : (0 : Int32).toInt = 0 := rfl
    unfold AI
    rw [g1, g2]
    refine ⟨by decide, by decide, by decide, by decide, fun i hi => ?_⟩
    have : i = (0 : Int32).toInt.toNat := by omega
    subst this
    rw [show ia (sI (sG (sG (sG (sG (sG σ 0 0) 39 v1) 40 v2) 46 0) 47 0) 37 (0 : Int32).toInt.toNat 0) 37 (0 : Int32).toInt.toNat = 0 from sI_eq]
    exact ⟨by decide, by decide⟩
  have O1 : OKV (sI (sG (sG (sG (sG (sG σ 0 0) 39 v1) 40 v2) 46 0) 47 0) 37 (0 : Int32).toInt.toNat 0) := okv_n O (by omega) (by omega)
  generalize sI (sG (sG (sG (sG (sG σ 0 0) 39 v1) 40 v2) 46 0) 47 0) 37 (0 : Int32).toInt.toNat 0 = σ1 at H8 f39 f40 fk fa A1 O1
  have e22 : σ1.1 22 = (at39 σ v1).1 22 := by rw [fk 22 (by omega) (by omega) (by omega) (by omega) (by omega), sG_ne (by omega)]
  have K1 : KA (at39 σ v1) σ1 := ⟨by rw [e22]; exact Int.le_refl _, fun j i _ _ _ _ => fa j i (by omega), by rw [sG_eq]; exact f39, fa 18 _ (by omega), fa 19 _ (by omega)⟩
  have hqv : ((v1.toInt.toNat : Nat) : Int) = v1.toInt := by omega
  have hq2 : v1.toInt.toNat < 64 := by omega
  have PV1 : PV σ1 := by
    unfold PV
    rw [f39, fa 18 _ (by omega), fa 19 _ (by omega)]
    exact ⟨q0, q1, q2, q3, q4⟩
  have hb := fr_b F
  have F1 : fr σ1 v1.toInt.toNat dd n w := fr_KA K1 (fun i _ => ⟨fa 27 _ (by omega), fa 28 _ (by omega)⟩) F
  have S1 : gS σ1 v1.toInt.toNat dd n w := ⟨⟨PV1, A1, by rw [f39]; omega, by rw [fa 26 _ (by omega)]; exact hd, F1⟩, O1, by rw [f40]; omega, by rw [f40]; omega, k0, hk0, by rw [fa 17 _ (by omega)]; exact xB_KA K1 (fun c => xS_KA K1) P2⟩
  refine wq_at H8.1 (wq_cI (v_go (D := d + 1) H8 S1) ?_)
  rintro x h9 ⟨⟨σ2, H9, O2, G2, A2, w2⟩, hx⟩
  have E2 := SE_ol G2
  have n39 : (σ2.1 39).toInt = (v1.toInt.toNat : Nat) := by rw [E2.2 39 (by omega), f39]; omega
  refine wq_at H9.1 (wq_cV (f_ended H9 n39 hq2) ?_)
  rintro h11 ⟨σ3, H11, g1, g2, g3⟩
  refine wq_gR H11.1 rfl (rdP H11 q0 q1 (by omega) (wq_some (rI_i ⟨σ3, H11, ?_, ?_⟩)))
  · have hf : ∀ k, k < 39 → k ≠ 0 → σ3.1 k = σ.1 k := fun k hk h0 => by rw [g1, E2.2 k (by omega), fk k h0 (by omega) (by omega) (by omega) (by omega)]
    have ha : ∀ j i, 8 ≤ j → j ≤ 19 → ia σ3 j i = ia σ j i := fun j i h1 h2 => by rw [g3 j i (by omega), E2.1 j i (by omega), fa j i (by omega)]
    have ho : ∀ j i, 20 ≤ j → j ≤ 28 → ¬ QL v1.toInt.toNat j i → i ≠ v1.toInt.toNat ∨ 26 < j → ia σ3 j i = ia σ j i := fun j i h1 h2 h3 h4 => by rw [g3 j i (by omega), show ia σ2 j i = ia σ1 j i from G2.2.2.1 j i h3, fa j i (by omega)]
    refine RI_r (v1 := v1) R ?_ (AI_f A2 (by rw [g1]) (by rw [g1]) (fun i => g3 37 i (by omega))) (fun k hk => hf k (by omega) (by omega)) ha (fun a h0 h1 hn => ?_) (fun j i h1 h2 h3 => by rw [g3 j i (by omega), show ia σ2 j i = ia σ1 j i from G2.2.2.1 j i (by unfold QL QR; omega), fa j i (by omega)]) ?_
    · intro i hi
      rw [g3 0 i (by omega), g3 1 i (by omega)]
      exact O2 i hi
    · have hne : a.toInt.toNat ≠ v1.toInt.toNat := fun e => hn (Int32.toInt_inj.mp (by omega))
      refine ⟨fun j h2 h3 => ho j _ h2 (by omega) ?_ (Or.inl hne), fun i hi => ⟨ho 27 _ (by omega) (by omega) ?_ (Or.inr (by omega)), ho 28 _ (by omega) (by omega) ?_ (Or.inr (by omega))⟩⟩
      · unfold QL QR; omega
      · unfold QL QR; omega
      · unfold QL QR; omega
    · have e39 : (at39 σ3 v1).1 39 = v1 := sG_eq
      have e22' : (at39 σ3 v1).1 22 = σ1.1 22 := by rw [sG_ne (by omega), g1, E2.2 22 (by omega)]
      have K3 : KA σ1 (at39 σ3 v1) := ⟨by rw [e22']; exact Int.le_refl _, fun j i h1 h2 _ _ => (ha j i h1 (by omega)).trans (fa j i (by omega)).symm, by rw [f39]; exact e39, (ha 18 _ (by omega) (by omega)).trans (fa 18 _ (by omega)).symm, (ha 19 _ (by omega) (by omega)).trans (fa 19 _ (by omega)).symm⟩
      have e22'' : (at39 σ3 v1).1 22 = σ2.1 22 := by rw [sG_ne (by omega), g1]
      have K4 : KA σ2 (at39 σ3 v1) := ⟨by rw [e22'']; exact Int.le_refl _, fun j i h1 h2 _ _ => g3 j i (by omega), by rw [E2.2 39 (by omega), f39]; exact e39, g3 18 _ (by omega), g3 19 _ (by omega)⟩
      have hx2 : ia σ3 20 v1.toInt.toNat = x := g2
      unfold PQ
      rw [hx2, ha 17 _ (by omega) (by omega)]
      refine ⟨?_, ⟨k0, hk0, ?_⟩, ?_, ?_, fun h => ?_, fun h => ?_⟩
      · unfold PV
        rw [e39, show ia (at39 σ3 v1) 18 v1.toInt.toNat = ia σ 18 v1.toInt.toNat from ha 18 _ (by omega) (by omega), show ia (at39 σ3 v1) 19 v1.toInt.toNat = ia σ 19 v1.toInt.toNat from ha 19 _ (by omega) (by omega)]
        exact ⟨q0, q1, q2, q3, q4⟩
      · exact xB_KA K3 (fun c => xS_KA K3) (xB_KA K1 (fun c => xS_KA K1) P2)
      · rcases hx with rfl | rfl | rfl <;> decide
      · rcases hx with rfl | rfl | rfl <;> decide
      · have hx1 : x = 1 := by
          rcases hx with rfl | rfl | rfl
          · rfl
          · exact absurd h (by decide)
          · exact absurd h (by decide)
        obtain ⟨⟨d3, n3, w3, z1, z2⟩, -⟩ := w2 hx1
        exact ⟨d3, n3, w3, by rw [g3 26 _ (by omega)]; exact z1, fr_KA K4 (fun i _ => ⟨g3 27 _ (by omega), g3 28 _ (by omega)⟩) z2⟩
      · have hx1 : x = 1 := i32_of h rfl
        exact wA_KA K4 (g3 24 _ (by omega)) (w2 hx1).2
  · refine ⟨by rw [g1, E2.2 7 (by omega), fk 7 (by omega) (by omega) (by omega) (by omega) (by omega)], fun j i hj hi => ?_, fun k hk => by rw [g1, E2.2 k (by omega), fk k (by omega) (by omega) (by omega) (by omega) (by omega)], fun j i h1 h2 => by rw [g3 j i (by omega), E2.1 j i (by omega), fa j i (by omega)], fun j i h1 h2 h3 => by rw [g3 j i (by omega), show ia σ2 j i = ia σ1 j i from G2.2.2.1 j i (by unfold QL QR; omega), fa j i (by omega)]⟩
    rw [g3 j i (by omega), show ia σ2 j i = ia σ1 j i from G2.2.2.1 j i (by unfold QL QR; omega), fa j i (by omega)]
theorem v_holds (H : RH m σ b h) (R : RI σ) : wq (vc lim (d + 225) m_Ref_holds [.inr (.inr (some m)), .inl v1] h) (rI fun x h' => rP m σ b h') := by
  obtain ⟨O, D, A, N, P⟩ := id R
  have no : ∀ x : Int32, ¬ x ≤ 0 → wq (ah_val lim ah_P (d + 224) 110 28 [some (.inr (.inr (some m))), some (.inl v1), none] [.inl x, .inr (.inr (some m))] h) (rI fun x h' => rP m σ b h') := fun x hx => wq_eq q_110_28 (wc H (fun h2 H2 => rc H2 (wq_f hx (wq_some (rI_i (rP_c H2 R))))))
  refine wq_eq e_Ref_holds (wq_at H.1 (wq_cI (f_noProcess H) ?_))
  rintro y h1 ⟨rfl, hy, hp⟩
  refine wq_if _ (fun c => ?_) (fun c => no 1 (by decide))
  obtain ⟨p0, p1⟩ := hp c
  obtain ⟨P1, ⟨k0, hk0, P2⟩, P3, P4, P5, P6⟩ := P v1 p0 p1
  obtain ⟨q0, q1, q2, q3, q4⟩ := PV_a P1
  refine wq_gR H.1 rfl (rdP H q0 q1 (by omega) (wq_if _ (fun c3 => ?_) (fun c3 => no 2 (by decide))))
  obtain ⟨k1, k2, k3, k4, k5, k, hk, k6⟩ := wF_of (P6 (congrArg Int32.toInt c3))
  refine wq_eq q_110_28 (wc H (fun h2 H2 => rc H2 (wq_t (by decide) (wq_at H2.1 (wq_cI (f_conditionOf H2 q0 q1 k1 k2) ?_)))))
  rintro x h3 ⟨rfl, rfl⟩
  refine wq_gR H2.1 rfl (rdK H2 k5 (by omega) (wq_if _ (fun c4 => wq_some (rI_i (rP_c H2 R))) (fun c4 => ?_)))
  have k6 : xE (at39 σ v1) k ((ia σ 12 (ia σ 11 (ia σ 24 v1.toInt.toNat).toInt.toNat).toInt.toNat).toInt) := by
    rcases k6 with g | g
    · exact absurd (i32_of g rfl) c4
    · exact g
  refine rw_I H2 (by omega) rfl (fun h7 H7 => wq_gR H7.1 rfl (rdP H7 q0 q1 (by omega) ?_))
  have f39 : (sG (sG σ 0 0) 39 v1).1 39 = v1 := sG_eq
  have fk : ∀ k, k ≠ 0 → k ≠ 39 → (sG (sG σ 0 0) 39 v1).1 k = σ.1 k := fun k h0 h1 => by rw [sG_ne h1, sG_ne h0]
  have e22 : (sG (sG σ 0 0) 39 v1).1 22 = (at39 σ v1).1 22 := by rw [fk 22 (by omega) (by omega), sG_ne (by omega)]
  have K1 : KA (at39 σ v1) (sG (sG σ 0 0) 39 v1) := ⟨by rw [e22]; exact Int.le_refl _, fun j i _ _ _ _ => rfl, by rw [f39, sG_eq], rfl, rfl⟩
  have PV1 : PV (sG (sG σ 0 0) 39 v1) := by
    unfold PV
    rw [f39]
    exact ⟨q0, q1, q2, q3, q4⟩
  have A1 : AI (sG (sG σ 0 0) 39 v1) := AI_f A (fk 46 (by omega) (by omega)) (fk 47 (by omega) (by omega)) (fun _ => rfl)
  refine wq_at H7.1 (wq_cI (v_condition H7 O (sm_0 (Q := QR 1000)) (n := k) (by omega) PV1 (xE_KA K1 k6)) ?_)
  rintro y2 h10 ⟨⟨σ2, H10, O2, G2⟩, -⟩
  have E2 := SE_of G2
  have j8 : ∀ j i, 8 ≤ j → j < 100 → ia σ2 j i = ia σ j i := fun j i h1 h2 => G2.2.2.1 j i (by unfold QR; omega)
  have A2 : AI σ2 := AI_sm (sm_up G2) A1
  have hf2 : ∀ k, k < 39 → k ≠ 0 → σ2.1 k = σ.1 k := fun k hk h0 => by rw [E2.2 k (by omega), fk k h0 (by omega)]
  have SG2 : SG σ σ2 := ⟨hf2 7 (by omega) (by omega), fun j i hj hi => G2.2.2.1 j i (by unfold QR; omega), fun k hk => hf2 k (by omega) (by omega), fun j i h1 h2 => j8 j i h1 (by omega), fun j i h1 h2 h3 => G2.2.2.1 j i (by unfold QR; omega)⟩
  have n39 : σ2.1 39 = v1 := by rw [E2.2 39 (by omega)]; exact f39
  have R2 : RI σ2 := by
    refine RI_r (v1 := v1) R O2 A2 (fun k hk => hf2 k (by omega) (by omega)) (fun j i h1 h2 => j8 j i h1 (by omega)) (fun a h0 h1 hn => ⟨fun j h2 h3 => j8 j _ (by omega) (by omega), fun i hi => ⟨j8 27 _ (by omega) (by omega), j8 28 _ (by omega) (by omega)⟩⟩) (fun j i h1 h2 h3 => G2.2.2.1 j i (by unfold QR; omega)) ?_
    have e22' : (at39 σ2 v1).1 22 = (at39 σ v1).1 22 := by rw [sG_ne (by omega), sG_ne (by omega)]; exact hf2 22 (by omega) (by omega)
    exact PQ_of ⟨by rw [e22']; exact Int.le_refl _, fun j i h1 h2 _ _ => j8 j i h1 (by omega), by rw [sG_eq, sG_eq], j8 18 _ (by omega) (by omega), j8 19 _ (by omega) (by omega)⟩ (j8 17 _ (by omega) (by omega)) (j8 20 _ (by omega) (by omega)) (j8 24 _ (by omega) (by omega)) (j8 26 _ (by omega) (by omega)) (fun i hi => ⟨j8 27 _ (by omega) (by omega), j8 28 _ (by omega) (by omega)⟩) (P v1 p0 p1)
  refine wq_if _ (fun c5 => ?_) (fun c5 => ?_)
  · refine wq_at H10.1 (wq_cV (f_ended (q := v1.toInt.toNat) H10 (by rw [n39]; omega) (by omega)) ?_)
    rintro h12 ⟨σ3, H12, g1, g2, g3⟩
    have ha : ∀ j i, 8 ≤ j → j ≤ 19 → ia σ3 j i = ia σ2 j i := fun j i h1 h2 => g3 j i (by omega)
    refine wq_some (rI_i ⟨σ3, H12, ?_, ?_⟩)
    · refine RI_r (v1 := v1) R2 ?_ (AI_f A2 (by rw [g1]) (by rw [g1]) (fun i => g3 37 i (by omega))) (fun k hk => by rw [g1]) ha (fun a h0 h1 hn => ?_) (fun j i h1 h2 h3 => g3 j i (by omega)) ?_
      · intro i hi
        rw [g3 0 i (by omega), g3 1 i (by omega)]
        exact O2 i hi
      · have hne : a.toInt.toNat ≠ v1.toInt.toNat := fun e => hn (Int32.toInt_inj.mp (by omega))
        exact ⟨fun j h2 h3 => g3 j _ (by omega), fun i hi => ⟨g3 27 _ (by omega), g3 28 _ (by omega)⟩⟩
      · obtain ⟨-, -, -, -, Pa⟩ := R2
        obtain ⟨r1, ⟨kk, hkk, r2⟩, -⟩ := Pa v1 p0 (by rw [hf2 23 (by omega) (by omega)]; exact p1)
        have e22' : (at39 σ3 v1).1 22 = (at39 σ2 v1).1 22 := by rw [sG_ne (by omega), sG_ne (by omega), g1]
        have K3 : KA (at39 σ2 v1) (at39 σ3 v1) := ⟨by rw [e22']; exact Int.le_refl _, fun j i h1 h2 _ _ => ha j i h1 (by omega), by rw [sG_eq, sG_eq], ha 18 _ (by omega) (by omega), ha 19 _ (by omega) (by omega)⟩
        have e3 : (3 : Int32).toInt = 3 := rfl
        unfold PQ
        rw [g2, ha 17 _ (by omega) (by omega), e3]
        refine ⟨?_, ⟨kk, hkk, xB_KA K3 (fun c => xS_KA K3) r2⟩, by omega, by omega, fun h => absurd h (by omega), fun h => absurd h (by omega)⟩
        unfold PV
        rw [show (at39 σ3 v1).1 39 = v1 from sG_eq, show ia (at39 σ3 v1) 18 v1.toInt.toNat = ia σ 18 v1.toInt.toNat from (ha 18 _ (by omega) (by omega)).trans (j8 18 _ (by omega) (by omega)), show ia (at39 σ3 v1) 19 v1.toInt.toNat = ia σ 19 v1.toInt.toNat from (ha 19 _ (by omega) (by omega)).trans (j8 19 _ (by omega) (by omega))]
        exact ⟨q0, q1, q2, q3, q4⟩
    · refine ⟨by rw [g1]; exact SG2.1, fun j i hj hi => ?_, fun k hk => by rw [g1]; exact SG2.2.2.1 k hk, fun j i h1 h2 => by rw [g3 j i (by omega)]; exact SG2.2.2.2.1 j i h1 h2, fun j i h1 h2 h3 => by rw [g3 j i (by omega)]; exact SG2.2.2.2.2 j i h1 h2 h3⟩
      rw [g3 j i (by omega)]
      exact SG2.2.1 j i hj hi
  · exact wq_gR H10.1 rfl (ra_J H10 (by omega) rfl (by decide) (by decide) (wq_if _ (fun _ => wq_some (rI_i ⟨σ2, H10, R2, SG2⟩)) (fun _ => wq_some (rI_i ⟨σ2, H10, R2, SG2⟩))))
end Re
