/-! THE REFERENCE BETWEEN CALLS, WHOLE -/
def RQ (nS : Nat) (eS : Nat → TS) (nU : Nat) (U : Nat → UD) (τ : TD) (nD : Nat) (dc da db : Nat → Int32) (Bf Vf : Nat → Nat) (hf : Nat → Nat → Nat) (σ : rS) : Prop := RX nS eS nU U τ nD dc da db Bf Vf hf σ ∧ (∀ j, j < nU → PG nS (kSe eS) (U j)) ∧ LBs nS eS ∧ ∀ i, nS ≤ i → i < 512 → ia σ 6 i = 0 ∧ ia σ 7 i = 0
section Zzd
variable {lim : Nat × Nat} {d m nS nU nD B fv : Nat} {eS : Nat → TS} {U : Nat → UD} {u : UD} {τ : TD} {dc da db : Nat → Int32} {Bf Vf : Nat → Nat} {hf : Nat → Nat → Nat} {σ σ' σ1 : rS} {l2 l4 : List AV} {A : Nat} {PD : Nat → Nat} {a b : Nat → Int64} {bb h : ah_H} {e : Int32}
theorem RQ_eq (E : eqS σ σ') (X : RQ nS eS nU U τ nD dc da db Bf Vf hf σ) : RQ nS eS nU U τ nD dc da db Bf Vf hf σ' := by
  obtain ⟨x1, x2, x3, x4⟩ := X
  refine ⟨RX_eq E x1, x2, x3, fun i h1 h2 => ?_⟩
  rw [E.2.1 6 i (by decide) h2 (by decide), E.2.1 7 i (by decide) h2 (by decide)]
  exact x4 i h1 h2
theorem RQ_0 (X : RQ nS eS nU U τ nD dc da db Bf Vf hf σ) : RQ nS eS nU U τ nD dc da db Bf Vf hf (sG σ 0 e) := ⟨RX_0 X.1, X.2.1, X.2.2.1, X.2.2.2⟩
theorem pTall_c (X : pTall σ) : pTall (sG σ 0 e) := pTall_t SG_c.2.2 X
theorem DW_c (X : DW σ) : DW (sG σ 0 e) := fun k h1 => X k (by rw [show (sG σ 0 e).1 9 = σ.1 9 from sG_ne (by omega)] at h1; exact h1)
theorem DX_c (X : DX σ l2 l4) : DX (sG σ 0 e) l2 l4 := DX_t SG_c.2.2 X
/-- what process leaves in the reference -/
def xpP (nS : Nat) (eS : Nat → TS) (nU : Nat) (U : Nat → UD) (τ : TD) (nD : Nat) (dc da db : Nat → Int32) (Bf Vf : Nat → Nat) (hf : Nat → Nat → Nat) (σ : rS) (x : Int32) (σ' : rS) : Prop := (pF σ ∧ RQ nS eS nU U τ nD dc da db Bf Vf hf σ') ∨ (¬ pF σ ∧ ((x < 0 ∧ RQ nS eS nU U τ 0 dc da db Bf Vf hf σ') ∨ (¬ x < 0 ∧ nU < 64 ∧ ∀ (A : Nat) (l2 l4 : List AV) (PD : Nat → Nat) (a b : Nat → Int64), DX σ l2 l4 → ∃ Bf' Vf' hf', RQ nS eS (nU + 1) (upS U nU (A, kT σ l2 l4, nD, PD, (fun i => thI (dc i) (da i) (db i)), usN, a, b)) τ 0 dc da db Bf' Vf' hf' σ')))
theorem x_process (H : RH m σ bb h) (R : RI σ) (X : RQ nS eS nU U τ nD dc da db Bf Vf hf σ) (PT : pTall σ) (dw : DW σ) : wq (vc lim (d + 6) m_Ref_process [aR m] h) (rI fun x h' => ∃ σ', RH m σ' bb h' ∧ xpP nS eS nU U τ nD dc da db Bf Vf hf σ x σ') := by
  obtain ⟨n1, n2, n3, n4, n5, n6, n7, n8, n9, n10⟩ := R.2.2.2.1.1
  have d0 := R.2.1.1
  have d1 := R.2.1.2.1
  obtain ⟨X1, X2, X3, X4⟩ := id X
  obtain ⟨x1, x2, ⟨x3, x4, x5, x6⟩, x7, x8, x9, x10⟩ := id X1
  by_cases c64 : σ.1 23 = 64
  · exact wq_eq e_Ref_process (wq_gI H.1 rfl (wq_t c64 (zr_e (K := none) H (by decide) (fun h2 H2 => wq_some (rI_i ⟨_, H2, Or.inl ⟨Or.inl (congrArg Int32.toInt c64), RQ_0 X⟩⟩)))))
  have c64 : ¬ (σ.1 23).toInt = 64 := fun e => c64 (i32_of e rfl)
  have hU : nU < 64 := by omega
  refine wq_mono (wq_and (r_process_s (N := (σ.1 19).toInt.toNat) (fv := (σ.1 8).toInt.toNat) (B := (σ.1 22).toInt.toNat + 4000) (P := nU) (nD := nD) H R x1 x8 (by omega) x6 (by omega) (by omega) (by omega) x4) (w_process H R)) ?_
  rintro z ⟨x, h', rfl, ⟨σ', H', q⟩, σw, Hw, -, qw⟩
  refine ⟨x, h', rfl, σ', H', ?_⟩
  have f : ∀ k, k ≠ 0 → (sG σ 0 0).1 k = σ.1 k := fun k hk => sG_ne hk
  rcases q with ⟨p, rfl⟩ | ⟨np, q⟩
  · exact Or.inl ⟨p, RQ_0 X⟩
  · refine Or.inr ⟨np, ?_⟩
    rcases q with ⟨xn, rfl⟩ | ⟨xp, τ', rfl, g, V, b', i23, i16, σ1, K, E⟩
    · exact Or.inl ⟨xn, RX_z (RX_0 X1), X2, X3, X4⟩
    · rcases qw with ⟨-, p, -⟩ | ⟨-, -, w, fw, pa, -⟩
      · exact absurd p np
      have e0 : (0 : Int32).toInt = 0 := rfl
      have ok : (∀ j : Int, 0 ≤ j → j < ((sG σ 0 0).1 19).toInt → okN (sG σ 0 0) j) ∧ oneB (sG σ 0 0) := by
        have wn : w = -1 → ∀ j : Int, 0 ≤ j → j < ((sG σ 0 0).1 19).toInt → okN (sG σ 0 0) j := fun hw => by
          rcases fw with ⟨-, fw⟩ | ⟨fw, -⟩
          · exact fw
          · rw [hw] at fw
            exact absurd fw (by decide)
        rcases pa with ⟨a1, a2⟩ | ⟨a1, a2, a3⟩ | ⟨a1, a2, a3⟩
        · refine absurd ?_ xp
          rcases fw with ⟨fw, -⟩ | ⟨f0, f1, -⟩
          · exact absurd fw a1
          · rw [f 19 (by omega)] at f1
            rw [a2, Int32.lt_iff_toInt_lt, sb_i (by rw [li_m1]; omega) (by rw [li_m1]; omega), li_m1, e0]
            omega
        · refine absurd ?_ xp
          rw [a3, f 19 (by omega)]
          by_cases c : σ.1 19 = 0
          · rw [if_pos c]
            decide
          · rw [if_neg c]
            have c : ¬ (σ.1 19).toInt = 0 := fun e => c (i32_of e rfl)
            rw [Int32.lt_iff_toInt_lt, Int32.toInt_neg, Int.bmod_eq_of_le (by omega) (by omega), e0]
            omega
        · exact ⟨wn a1, a2⟩
      have pA : ¬ 20000 < (σ.1 22).toInt + (σ.1 19).toInt := fun c => np (Or.inr c)
      refine Or.inr ⟨xp, hU, fun A l2 l4 PD a b dx => ?_⟩
      have dx0 : DX (sG σ 0 0) l2 l4 := DX_c dx
      have K' : kpP (sG σ 0 0) σ1 ((σ.1 22).toInt.toNat + 4000) ((sG σ 0 0).1 19).toInt.toNat nU := by rw [f 19 (by omega)]; exact K
      have Px := PX_new (A := A) (PD := PD) (a := a) (b := b) (RX_0 (e := 0) X1) ok.1 (pTall_c PT) (RI_c R).2.1 ok.2 dx0 (fv := (σ.1 8).toInt.toNat) (B := (σ.1 22).toInt.toNat + 4000) (by rw [f 8 (by omega)]; omega) (by rw [f 22 (by omega)]; omega) (by omega) (by rw [f 19 (by omega)]; omega) (by omega) hU K' E V i23
      have Pg := PG_new (A := A) (PD := PD) (a := a) (b := b) (RX_0 (e := 0) X1) ok.1 (pTall_c PT) (RI_c R).2.1 dx0 (DW_c dw)
      rw [kT_c] at Px Pg
      obtain ⟨-, -, k3, k4, k5, -⟩ := K
      have Rp := RX_p (u := (A, kT σ l2 l4, nD, PD, (fun i => thI (dc i) (da i) (db i)), usN, a, b)) (N := (σ.1 19).toInt.toNat) (B := (σ.1 22).toInt.toNat + 4000) (fv := (σ.1 8).toInt.toNat) (RX_0 (e := 0) X1) (by rw [f 8 (by omega)]; omega) (by rw [f 22 (by omega)]; omega) (by omega) hU g b' (by rw [E.1 23 (by omega), k5]) (by rw [E.1 8 (by omega), k3, f 8 (by omega), f 9 (by omega), x6]; omega) (by rw [E.1 22 (by omega), k4]) Px
      refine ⟨_, _, _, RX_z Rp, fun j hj => ?_, X3, fun i h1 h2 => ?_⟩
      · by_cases c : j = nU
        · rw [c, upS_eq]
          exact Pg
        · rw [upS_ne c]
          exact X2 j (by omega)
      · have e6 : ∀ k, k = 6 ∨ k = 7 → ia τ' k i = ia σ k i := fun k hk => g.2.2.1 k i (fun q => by unfold kpQ knQ kvQ at q; omega)
        show ia τ' 6 i = 0 ∧ ia τ' 7 i = 0
        rw [e6 6 (by omega), e6 7 (by omega)]
        exact X4 i h1 h2
end Zzd
