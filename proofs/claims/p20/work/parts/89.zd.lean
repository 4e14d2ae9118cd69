/-! THE CLASS'S READERS: acts, act, until -/
abbrev thZ (k : Nat) (h : ah_H) : ah_R := (.inr (k, h.2.1), ah_new h (k, []) 6)
section Zd
variable {lim : Nat × Nat} {d x nS nU nD : Nat} {c : SCR} {τ : TD} {PS PD : Nat → Nat} {eS eD : Nat → TS} {U : Nat → UD} {h h' : ah_H} {v1 v2 : Int32} {D : KD}
theorem KI_TO (K : KI x (c, τ, (nS, PS, eS), (nU, U), nD, PD, eD) h) : TO x τ h := K.2.1.2.2
theorem kq_acts (K : KI x (c, τ, (nS, PS, eS), (nU, U), nD, PD, eD) h) : wq (vc lim (d + 1) m_Code_acts [aR x] h) (rI fun y h' => h' = h ∧ y = Nat.toInt32 τ.1) := by
  have O := KI_TO K
  obtain ⟨⟨⟨uc, nk, c1, -⟩, -⟩, -⟩ := id K
  refine wq_eq q_16_0 (wq_gR c1 rfl (tr_c O (fun c hc => wq_some (rI_i ⟨rfl, ?_⟩))))
  refine Int32.toInt_inj.mp ?_
  rw [hc, i32n (by have := O.2.2.2.2.2.2.1; omega)]
theorem c_isAct (O : TO x τ h) : wq (vc lim (d + 1) 236 [aR (x + 19), aI v1] h) (rI fun y h' => h' = h ∧ ((y = 0 ∧ ¬ (0 ≤ v1.toInt ∧ v1.toInt < τ.1)) ∨ (y = 1 ∧ (0 ≤ v1.toInt ∧ v1.toInt < τ.1)))) := by
  have z0 : (0 : Int32).toInt = 0 := rfl
  have z2 : (200 : Int32).toInt = 200 := rfl
  have l := O.2.2.2.2.2.2.1
  refine wq_eq q_236_0 (wq_if _ (fun c => ?_) (fun c => tr_c O (fun n hn => wq_if _ (fun c2 => wq_if _ (fun c3 => ?_) (fun c3 => ?_)) (fun c2 => ?_))))
  · exact wq_t (Or.inl rfl) (wq_some (rI_i ⟨rfl, Or.inl ⟨rfl, by have := lt_i c; omega⟩⟩))
  · exact wq_t (Or.inr rfl) (wq_some (rI_i ⟨rfl, Or.inr ⟨rfl, by have := nlt_i c; have := lt_i c2; omega⟩⟩))
  · exact absurd (show v1 < 200 by rw [Int32.lt_iff_toInt_lt, z2]; have := lt_i c2; omega) c3
  · exact wq_t (Or.inl rfl) (wq_some (rI_i ⟨rfl, Or.inl ⟨rfl, by have := nlt_i c2; omega⟩⟩))
theorem z_th {k : Nat} {Φ : ah_R → Prop} (hr : rm lim h) (p : Φ (thZ k h)) : wq (ah_mk lim h (k, []) 6 fun _ h3 => some (.inr (k, h.2.1), h3)) Φ := thX hr p
def kaP (τ : TD) (v1 v2 : Int32) (h : ah_H) (z : ah_R) : Prop := (¬ (0 ≤ v1.toInt ∧ v1.toInt < τ.1) ∧ z = thZ 202 h) ∨ ((0 ≤ v1.toInt ∧ v1.toInt < τ.1) ∧ ¬ (0 ≤ v2.toInt ∧ v2.toInt ≤ 5) ∧ z = thZ 200 h) ∨ ((0 ≤ v1.toInt ∧ v1.toInt < τ.1) ∧ (0 ≤ v2.toInt ∧ v2.toInt ≤ 5) ∧ z = (.inl (some (.inl (τ.2.2.1 v2.toInt.toNat v1.toInt.toNat))), h))
theorem kq_act (K : KI x (c, τ, (nS, PS, eS), (nU, U), nD, PD, eD) h) (hr : rm lim h) : wq (vc lim (d + 2) m_Code_act [aR x, aI v1, aI v2] h) (kaP τ v1 v2 h) := by
  have O := KI_TO K
  have l := O.2.2.2.2.2.2.1
  obtain ⟨⟨⟨uc, nk, c1, -⟩, -⟩, -⟩ := id K
  refine wq_eq q_17_0 (wq_gR c1 rfl (tr_at O (fun vs => wq_cI (c_isAct O) ?_)))
  rintro y h2 ⟨eh, q⟩
  rw [eh]
  rcases q with ⟨rfl, q⟩ | ⟨rfl, q⟩
  · exact wq_t rfl (z_th hr (Or.inl ⟨q, rfl⟩))
  have go : ∀ (k : Nat), k < 7 → v2.toInt = k → k ≤ 5 → wq (ah_lI h (some (x + 20 + k)) 100 v1 fun e23 => some (.inl (some (.inl e23)), h)) (kaP τ v1 v2 h) := fun k k7 hk k5 => tr_I O k7 (i := v1.toInt.toNat) (by omega) (by omega) (wq_some (Or.inr (Or.inr ⟨q, by omega, by rw [show v2.toInt.toNat = k by omega]⟩)))
  refine wq_f (by decide) (wq_if _ (fun k0 => ?_) (fun k0 => wq_if _ (fun k1 => ?_) (fun k1 => wq_if _ (fun k2 => ?_) (fun k2 => wq_if _ (fun k3 => ?_) (fun k3 => wq_if _ (fun k4 => ?_) (fun k4 => wq_if _ (fun k5 => ?_) (fun k5 => ?_)))))))
  · exact wq_gR c1 rfl (tr_R O (fun _ _ => rfl) (go 0 (by omega) (by rw [k0]; rfl) (by omega)))
  · exact wq_gR c1 rfl (tr_R O (fun _ _ => rfl) (go 1 (by omega) (by rw [k1]; rfl) (by omega)))
  · exact wq_gR c1 rfl (tr_R O (fun _ _ => rfl) (go 2 (by omega) (by rw [k2]; rfl) (by omega)))
  · exact wq_gR c1 rfl (tr_R O (fun _ _ => rfl) (go 3 (by omega) (by rw [k3]; rfl) (by omega)))
  · exact wq_gR c1 rfl (tr_R O (fun _ _ => rfl) (go 4 (by omega) (by rw [k4]; rfl) (by omega)))
  · exact wq_gR c1 rfl (tr_R O (fun _ _ => rfl) (go 5 (by omega) (by rw [k5]; rfl) (by omega)))
  · have n0 := ne_i k0
    have n1 := ne_i k1
    have n2 := ne_i k2
    have n3 := ne_i k3
    have n4 := ne_i k4
    have n5 := ne_i k5
    have z0 : (0 : Int32).toInt = 0 := rfl
    have z1 : (1 : Int32).toInt = 1 := rfl
    have z2 : (2 : Int32).toInt = 2 := rfl
    have z3 : (3 : Int32).toInt = 3 := rfl
    have z4 : (4 : Int32).toInt = 4 := rfl
    have z5 : (5 : Int32).toInt = 5 := rfl
    exact z_th hr (Or.inr (Or.inl ⟨q, by omega, rfl⟩))
theorem kq_until (K : KI x (c, τ, (nS, PS, eS), (nU, U), nD, PD, eD) h) (hr : rm lim h) : wq (vc lim (d + 2) m_Code_until [aR x, aI v1] h) (fun z => (¬ (0 ≤ v1.toInt ∧ v1.toInt < nU) ∧ z = thZ 202 h) ∨ ((0 ≤ v1.toInt ∧ v1.toInt < nU) ∧ z = (.inl (some (.inr (.inl (U v1.toInt.toNat).2.2.2.2.2.1.2.2.2.2.2.2.2))), h))) := by
  obtain ⟨⟨⟨uc, nk, c1, c2⟩, -⟩, k2, k3, k4, k5, s0, -⟩ := id K
  have k4 : ∀ j, j < nU → UHp (U j) h := k4
  refine wq_eq q_15_0 (wq_at c1 (wq_cR (kq_unitAt K) ?_))
  rintro r2 h2 ⟨eh, er⟩
  rw [eh]
  by_cases hi : 0 ≤ v1.toInt ∧ v1.toInt < nU
  · rw [if_pos hi] at er
    subst er
    have W := k4 v1.toInt.toNat (by omega)
    exact wq_f (Option.some_ne_none _) (wq_gJ W.1 rfl (wq_some (Or.inr ⟨hi, rfl⟩)))
  · rw [if_neg hi] at er
    subst er
    exact wq_t rfl (z_th hr (Or.inl ⟨hi, rfl⟩))
end Zd
