/-! THE REFERENCE'S CALLS: what they leave -/
section Zze0
variable {lim : Nat × Nat} {d m : Nat} {σ : rS} {b h : ah_H} {v1 v2 : Int32}
theorem x_about (H : RH m σ b h) (R : RI σ) : wq (vc lim (d + 2) m_Ref_about [.inr (.inr (some m)), .inl v1, .inl v2] h) (rI fun x h' => ∃ e : Int32, RH m (sG σ 0 e) b h') := by
  obtain ⟨O, D, A, N, P⟩ := id R
  have no : ∀ x : Int32, ¬ x ≤ 0 → wq (ah_val lim ah_P (d + 1) 111 27 [some (.inr (.inr (some m))), some (.inl v1), some (.inl v2), none] [.inl x, .inr (.inr (some m))] h) (rI fun x h' => ∃ e : Int32, RH m (sG σ 0 e) b h') := fun x hx => wq_eq q_111_27 (wc H (fun h2 H2 => rc H2 (wq_f hx (wq_some (rI_i (⟨_, H2⟩))))))
  refine wq_eq e_Ref_about (wq_at H.1 (wq_cI (f_noProcess H) ?_))
  rintro y h1 ⟨rfl, hy, hp⟩
  refine wq_if _ (fun c => ?_) (fun c => no 1 (by decide))
  obtain ⟨p0, p1⟩ := hp c
  obtain ⟨P1, -, -, -, -, P6⟩ := P v1 p0 p1
  obtain ⟨q0, q1, -⟩ := PV_a P1
  refine wq_if _ (fun c1 => no 2 (by decide)) (fun c1 => wq_if _ (fun c2 => ?_) (fun c2 => no 2 (by decide)))
  refine wq_eq q_111_27 (wc H (fun h2 H2 => rc H2 (wq_t (by decide) (wq_gR H2.1 rfl (rdP H2 q0 q1 (by omega) ?_)))))
  have fin : ∀ s0 : Int32, (¬ s0 = 0 → (ia σ 20 v1.toInt.toNat).toInt = 1) → wq (ah_val lim ah_P (d + 1) 111 54 [some (.inr (.inr (some m))), some (.inl v1), some (.inl v2), none] [.inl s0] h2) (rI fun x h' => ∃ e : Int32, RH m (sG σ 0 e) b h') := by
    intro s0 hs
    refine wq_eq q_111_54 (wq_if _ (fun _ => wq_gR H2.1 rfl (rdP H2 q0 q1 (by omega) (wq_some (rI_i (⟨_, H2⟩))))) (fun _ => wq_if _ (fun _ => wq_gR H2.1 rfl (rdP H2 q0 q1 (by omega) (wq_some (rI_i (⟨_, H2⟩))))) (fun _ => wq_if _ (fun _ => wq_gR H2.1 rfl (rdP H2 q0 q1 (by omega) (wq_some (rI_i (⟨_, H2⟩))))) (fun _ => wq_if _ (fun _ => ?_) (fun _ => wq_if _ (fun _ => ?_) (fun _ => wq_gR H2.1 rfl (rdP H2 q0 q1 (by omega) (wq_some (rI_i (⟨_, H2⟩))))))))))
    · refine wq_if _ (fun _ => wq_some (rI_i (⟨_, H2⟩))) (fun c => ?_)
      obtain ⟨k1, k2, -⟩ := wF_of (P6 (hs c))
      exact wq_gR H2.1 rfl (wq_gR H2.1 rfl (wq_gR H2.1 rfl (rdP H2 q0 q1 (by omega) (rdK H2 k1 (by omega) (rdK H2 k2 (by omega) (wq_some (rI_i (⟨_, H2⟩))))))))
    · refine wq_if _ (fun _ => wq_some (rI_i (⟨_, H2⟩))) (fun c => ?_)
      obtain ⟨k1, k2, -, -, k4, -⟩ := wF_of (P6 (hs c))
      refine wq_gR H2.1 rfl (wq_at H2.1 (wq_cI (f_conditionOf H2 q0 q1 k1 k2) ?_))
      rintro x h4 ⟨rfl, rfl⟩
      exact rdK H2 k4 (by omega) (wq_if _ (fun _ => wq_some (rI_i (⟨_, H2⟩))) (fun _ => wq_some (rI_i (⟨_, H2⟩))))
  exact wq_if _ (fun c3 => fin 1 (fun _ => congrArg Int32.toInt c3)) (fun c3 => fin 0 (fun c => absurd rfl c))
end Zze0
section Zze
variable {lim : Nat × Nat} {d m nS nU nD : Nat} {eS : Nat → TS} {U : Nat → UD} {τ : TD} {dc da db : Nat → Int32} {Bf Vf : Nat → Nat} {hf : Nat → Nat → Nat} {σ σ' : rS} {bb h : ah_H} {v1 v2 v3 v4 x y l k v : Int32} {s : Nat}
theorem kSe_p : kSe (upS eS s (tsP (eS s) l k v)) = kSe eS := by
  funext i
  unfold kSe
  by_cases q : i = s
  · subst q
    rw [upS_eq]
    unfold tsP
    by_cases z : l = 0
    · rw [if_pos z]
      obtain ⟨c1, c2⟩ := pCh_il (w := (eS i).1) (k := k) (v := v)
      show (wI (pChange (eS i).1 k v), wL (pChange (eS i).1 k v)) = _
      rw [c1, c2]
    · rw [if_neg z]
  · rw [upS_ne q]
theorem kSe_m : kSe (upS eS s ((eS s).1, (eS s).2.1, x, y, (eS s).2.2.2.2)) = kSe eS := by
  funext i
  unfold kSe
  by_cases q : i = s
  · subst q
    rw [upS_eq]
  · rw [upS_ne q]
/-- the signals are as many as they were -/
theorem RQ_s {eS' : Nat → TS} (X : RQ nS eS nU U τ nD dc da db Bf Vf hf σ) (X' : RX nS eS' nU U τ nD dc da db Bf Vf hf σ') (k : kSe eS' = kSe eS) (L : LBs nS eS') (e : ∀ i, nS ≤ i → i < 512 → ia σ' 6 i = ia σ 6 i ∧ ia σ' 7 i = ia σ 7 i) : RQ nS eS' nU U τ nD dc da db Bf Vf hf σ' := by
  refine ⟨X', fun j hj => by rw [k]; exact X.2.1 j hj, L, fun i h1 h2 => ?_⟩
  rw [(e i h1 h2).1, (e i h1 h2).2]
  exact X.2.2.2 i h1 h2
theorem x_signal (H : RH m σ bb h) (X : RQ nS eS nU U τ nD dc da db Bf Vf hf σ) : wq (vc lim (d + 3) m_Ref_signal [aR m, aI v1, aI v2, aI v3] h) (rI fun y h' => ∃ σ', RH m σ' bb h' ∧ ((okK v1 v2 v3 ∧ nS < 512 ∧ RQ (nS + 1) (upS eS nS (thI v1 v2 v3)) nU U τ nD dc da db Bf Vf hf σ') ∨ (¬ (okK v1 v2 v3 ∧ nS < 512) ∧ RQ nS eS nU U τ nD dc da db Bf Vf hf σ'))) := by
  have h7 := X.1.2.2.1.1
  have l5 := X.1.2.1.1
  refine wq_mono (r_signal H ⟨by omega, by omega⟩) ?_
  rintro z ⟨y, h', rfl, ⟨ok, l, -, H'⟩ | ⟨nk, e, H', -⟩⟩
  · rw [show (σ.1 7).toInt.toNat = nS by omega] at H'
    have l : nS < 512 := by omega
    refine ⟨y, h', rfl, _, H', Or.inl ⟨ok, l, RX_n X.1 ok l (X.2.2.2 nS (Nat.le_refl _) l), fun j hj => PG_le (X.2.1 j hj) (Nat.le_succ _) (fun i hi => ?_), LB_n X.2.2.1 ok, fun i h1 h2 => ?_⟩⟩
    · unfold kSe
      rw [upS_ne (by omega)]
    · show ia (mkR (mkR (sG σ 0 0) nS v1 v2 v3) (512 + nS) v1 v2 v3) 6 i = 0 ∧ ia (mkR (mkR (sG σ 0 0) nS v1 v2 v3) (512 + nS) v1 v2 v3) 7 i = 0
      have G : sm (fun j i => mQ nS j i ∨ mQ (512 + nS) j i) (sG σ 0 0) (mkR (mkR (sG σ 0 0) nS v1 v2 v3) (512 + nS) v1 v2 v3) := sm_mk (sm_mk sm_0 (fun j i q => Or.inl q)) (fun j i q => Or.inr q)
      rw [show ia (mkR (mkR (sG σ 0 0) nS v1 v2 v3) (512 + nS) v1 v2 v3) 6 i = ia σ 6 i from G.2.2.1 6 i (fun q => by unfold mQ at q; omega), show ia (mkR (mkR (sG σ 0 0) nS v1 v2 v3) (512 + nS) v1 v2 v3) 7 i = ia σ 7 i from G.2.2.1 7 i (fun q => by unfold mQ at q; omega)]
      exact X.2.2.2 i (by omega) h2
  · exact ⟨y, h', rfl, _, H', Or.inr ⟨fun q => nk ⟨q.1, by omega⟩, RQ_0 X⟩⟩
theorem x_variable (H : RH m σ bb h) (X : RQ nS eS nU U τ nD dc da db Bf Vf hf σ) : wq (vc lim (d + 3) m_Ref_variable [aR m, aI v1, aI v2, aI v3] h) (rI fun y h' => ∃ σ', RH m σ' bb h' ∧ ((okK v1 v2 v3 ∧ nD < 128 ∧ RQ nS eS nU U τ (nD + 1) (upS dc nD v1) (upS da nD v2) (upS db nD v3) Bf Vf hf σ') ∨ (¬ (okK v1 v2 v3 ∧ nD < 128) ∧ RQ nS eS nU U τ nD dc da db Bf Vf hf σ'))) := by
  have h9 := X.1.2.2.1.2.2.2
  have l5 := X.1.2.2.2.2.1.1
  refine wq_mono (r_variable H ⟨by omega, by omega⟩) ?_
  rintro z ⟨y, h', rfl, ⟨ok, l, -, H'⟩ | ⟨nk, e, H', -⟩⟩
  · rw [show (σ.1 9).toInt.toNat = nD by omega] at H'
    have l : nD < 128 := by omega
    refine ⟨y, h', rfl, _, H', Or.inl ⟨ok, l, RX_d X.1 ok l, X.2.1, X.2.2.1, fun i h1 h2 => ?_⟩⟩
    show ia (mkR (sG σ 0 0) (9216 + nD) v1 v2 v3) 6 i = 0 ∧ ia (mkR (sG σ 0 0) (9216 + nD) v1 v2 v3) 7 i = 0
    rw [mk_o (σ := sG σ 0 0) (by omega) (by omega), mk_o (σ := sG σ 0 0) (by omega) (by omega)]
    exact X.2.2.2 i h1 h2
  · exact ⟨y, h', rfl, _, H', Or.inr ⟨fun q => nk ⟨q.1, by omega⟩, RQ_0 X⟩⟩
theorem x_put (H : RH m σ bb h) (X : RQ nS eS nU U τ nD dc da db Bf Vf hf σ) : wq (vc lim (d + 3) m_Ref_put [aR m, aI v1, aI v2, aI v3, aI v4] h) (rV fun h' => ∃ σ', RH m σ' bb h' ∧ ((σ'.1 0 = 0 ∧ RQ nS (upS eS v1.toInt.toNat (tsP (eS v1.toInt.toNat) v2 v3 v4)) nU U τ nD dc da db Bf Vf hf σ') ∨ (¬ σ'.1 0 = 0 ∧ RQ nS eS nU U τ nD dc da db Bf Vf hf σ'))) := by
  have h7 := X.1.2.2.1.1
  refine wq_mono (r_put H X.1.1 X.1.2.1 h7 (fun i hi => (X.2.2.1 i hi).2) (fun i hi => (X.2.2.1 i hi).1)) ?_
  rintro z ⟨h', rfl, σ', H', ⟨-, rfl⟩ | ⟨-, -, rfl⟩ | ⟨g, cn, z0, G, SG', B'⟩⟩
  · exact ⟨h', rfl, _, H', Or.inr ⟨by rw [sG_eq]; decide, RQ_0 X⟩⟩
  · exact ⟨h', rfl, _, H', Or.inr ⟨by rw [sG_eq]; decide, RQ_0 X⟩⟩
  · have hs : v1.toInt.toNat < nS := by
      obtain ⟨⟨g1, g2⟩, -⟩ := g
      omega
    have l5 := X.1.2.1.1
    have hQ : ∀ j i, ptQ v1.toInt.toNat (if v2 = 0 then 0 else 1) j i → (j = 4 ∧ i < 1024) ∨ (j = 5 ∧ i < 65536) ∨ (j = 100 ∧ i = 0) := fun j i q => by
      unfold ptQ bQ at q
      by_cases c : (if v2 = 0 then 0 else 1) = 0
      · rw [if_pos c] at q
        omega
      · rw [if_neg c] at q
        omega
    refine ⟨h', rfl, σ', H', Or.inl ⟨z0, RQ_s X (RX_s X.1 G (fun j i q => by have := hQ j i q; omega) SG' B' ?_) kSe_p (LB_p X.2.2.1) (fun i h1 h2 => ⟨G.2.2.1 6 i (fun q => by have := hQ _ _ q; omega), G.2.2.1 7 i (fun q => by have := hQ _ _ q; omega)⟩)⟩⟩
    rw [G.1 7 (fun q => by have := hQ _ _ q; omega)]
    exact h7
theorem x_mark (H : RH m σ bb h) (X : RQ nS eS nU U τ nD dc da db Bf Vf hf σ) (b2 : v2 = 0 ∨ v2 = 1) (b3 : v3 = 0 ∨ v3 = 1) : wq (vc lim (d + 1) m_Ref_mark [aR m, aI v1, aI v2, aI v3] h) (rV fun h' => ∃ σ', RH m σ' bb h' ∧ ((¬ (0 ≤ v1.toInt ∧ v1.toInt < nS) ∧ RQ nS eS nU U τ nD dc da db Bf Vf hf σ') ∨ ((0 ≤ v1.toInt ∧ v1.toInt < nS) ∧ RQ nS (upS eS v1.toInt.toNat ((eS v1.toInt.toNat).1, (eS v1.toInt.toNat).2.1, v2, v3, (eS v1.toInt.toNat).2.2.2.2)) nU U τ nD dc da db Bf Vf hf σ'))) := by
  have h7 := X.1.2.2.1.1
  refine wq_mono (r_mark H X.1.1 X.1.2.1 h7 b2 b3) ?_
  rintro z ⟨h', rfl, σ', H', ⟨n, rfl⟩ | ⟨g, rfl, SG'⟩⟩
  · exact ⟨h', rfl, _, H', Or.inl ⟨n, RQ_0 X⟩⟩
  · have G : sm (fun j i => (j = 6 ∧ i = v1.toInt.toNat) ∨ (j = 7 ∧ i = v1.toInt.toNat) ∨ (j = 100 ∧ i = 0)) σ (sI (sI (sG σ 0 0) 6 v1.toInt.toNat v2) 7 v1.toInt.toNat v3) := sm_I (sm_I (sm_G sm_0 (Or.inr (Or.inr ⟨rfl, rfl⟩))) (Or.inl ⟨rfl, rfl⟩)) (Or.inr (Or.inl ⟨rfl, rfl⟩))
    have B' : byE (sI (sI (sG σ 0 0) 6 v1.toInt.toNat v2) 7 v1.toInt.toNat v3) := by
      obtain ⟨b1, b2⟩ := X.1.1
      refine ⟨fun i hi => ?_, fun i hi => ?_⟩
      · rw [sI_nj (by omega), sI_nj (by omega), sI_nj (by omega), sI_nj (by omega)]
        exact b1 i hi
      · rw [sI_nj (by omega), sI_nj (by omega)]
        exact b2 i hi
    refine ⟨h', rfl, _, H', Or.inr ⟨g, RQ_s X (RX_s X.1 G (fun j i q => by omega) SG' B' ?_) kSe_m (LB_m X.2.2.1) (fun i h1 h2 => ⟨G.2.2.1 6 i (fun q => by omega), G.2.2.1 7 i (fun q => by omega)⟩)⟩⟩
    rw [G.1 7 (fun q => by omega)]
    exact h7
/-- nothing is kept -/
theorem PO_0 : PO ((0, fun _ _ => 0, fun _ _ => 0) : KT) := ⟨Nat.zero_le _, fun v hv => absurd hv (fun q => by have h1 := q.1; have h2 : v.toInt < ((0 : Nat) : Int) := q.2; omega)⟩
theorem x_set (H : RH m σ bb h) (X : RQ nS eS nU U τ nD dc da db Bf Vf hf σ) : wq (vc lim (d + 3) m_Ref_set [aR m, aI v1, aI v2, aI v3, aI v4] h) (rV fun h' => ∃ σ', RH m σ' bb h' ∧ ((σ'.1 0 = 0 ∧ RQ nS eS nU (upS U v1.toInt.toNat ((U v1.toInt.toNat).1, (U v1.toInt.toNat).2.1, (U v1.toInt.toNat).2.2.1, (U v1.toInt.toNat).2.2.2.1, upS (U v1.toInt.toNat).2.2.2.2.1 v2.toInt.toNat (pChange ((U v1.toInt.toNat).2.2.2.2.1 v2.toInt.toNat).1 v3 v4, ((U v1.toInt.toNat).2.2.2.2.1 v2.toInt.toNat).2), (U v1.toInt.toNat).2.2.2.2.2)) τ nD dc da db Bf Vf hf σ') ∨ (¬ σ'.1 0 = 0 ∧ RQ nS eS nU U τ nD dc da db Bf Vf hf σ'))) := by
  obtain ⟨X1, X2, X3, X4⟩ := id X
  have h23 := X1.2.2.1.2.1
  have h64 := X1.2.2.1.2.2.1
  by_cases c : 0 ≤ v1.toInt ∧ v1.toInt < nU
  · have hj : v1.toInt.toNat < nU := by omega
    obtain ⟨⟨p1, -⟩, p2, -, p4, -⟩ := X1.2.2.2.2.2.1 v1.toInt.toNat hj
    obtain ⟨kV, -, -, -, lb⟩ := X2 v1.toInt.toNat hj
    refine wq_mono (r_set H X1.1 h23 h64 p1 (fun _ => ⟨p2, p4⟩) lb) ?_
    rintro z ⟨h', rfl, σ', H', ⟨-, rfl⟩ | ⟨-, -, rfl⟩ | ⟨g, cn, z0, G, UV', B'⟩⟩
    · exact ⟨h', rfl, _, H', Or.inr ⟨by rw [sG_eq]; decide, RQ_0 X⟩⟩
    · exact ⟨h', rfl, _, H', Or.inr ⟨by rw [sG_eq]; decide, RQ_0 X⟩⟩
    · have hv : v2.toInt.toNat < (U v1.toInt.toNat).2.2.1 := by
        obtain ⟨-, ⟨g1, g2⟩, -⟩ := g
        omega
      refine ⟨h', rfl, σ', H', Or.inl ⟨z0, RX_v X1 hj hv G B' UV', fun j hj' => ?_, X3, fun i h1 h2 => ?_⟩⟩
      · by_cases q : j = v1.toInt.toNat
        · rw [q, upS_eq]
          exact PG_set (X2 _ hj)
        · rw [upS_ne q]
          exact X2 j hj'
      · have e6 : ∀ k, k = 6 ∨ k = 7 → ia σ' k i = ia σ k i := fun k hk => G.2.2.1 k i (fun q => by unfold stQ bQ at q; omega)
        rw [e6 6 (by omega), e6 7 (by omega)]
        exact X4 i h1 h2
  · refine wq_mono (r_set (T := (0, fun _ _ => 0, fun _ _ => 0)) (nV := 0) (B := 0) (fv := 0) (e := fun _ => thI 0 0 0) H X1.1 h23 h64 PO_0 (fun q => absurd q c) (fun i hi => absurd hi (Nat.not_lt_zero _))) ?_
    rintro z ⟨h', rfl, σ', H', ⟨-, rfl⟩ | ⟨-, -, rfl⟩ | ⟨g, -⟩⟩
    · exact ⟨h', rfl, _, H', Or.inr ⟨by rw [sG_eq]; decide, RQ_0 X⟩⟩
    · exact ⟨h', rfl, _, H', Or.inr ⟨by rw [sG_eq]; decide, RQ_0 X⟩⟩
    · exact absurd g.1 c
theorem x_add (H : RH m σ bb h) (R : RI σ) (X : RQ nS eS nU U τ nD dc da db Bf Vf hf σ) : wq (vc lim (d + 1) m_Ref_add [aR m, aI v1, aI v2, aI v3] h) (rI fun _ h' => ∃ σ', RH m σ' bb h' ∧ RQ nS eS nU U τ nD dc da db Bf Vf hf σ') := by
  obtain ⟨d0, d1, d2, d3, -, d5⟩ := R.2.1
  refine wq_mono (r_add_s (N := (σ.1 19).toInt.toNat) (R := (σ.1 21).toInt.toNat) H (by omega) (by omega) (by omega) (by omega) (fun t ht => ?_)) ?_
  · obtain ⟨r1, r2, -⟩ := d5 t (by omega)
    exact ⟨r1, by omega⟩
  · rintro z ⟨y, h', rfl, σ', H', G⟩
    refine ⟨y, h', rfl, σ', H', RX_a X.1 G, X.2.1, X.2.2.1, fun i h1 h2 => ?_⟩
    have e6 : ∀ k, k = 6 ∨ k = 7 → ia σ' k i = ia σ k i := fun k hk => G.2.2.1 k i (fun q => by unfold adS at q; omega)
    rw [e6 6 (by omega), e6 7 (by omega)]
    exact X.2.2.2 i h1 h2
end Zze
