/-! THE REFERENCE'S CALLS: resume, holds -/
/-- what resume leaves -/
def xrP (nS : Nat) (eS : Nat → TS) (nU : Nat) (U : Nat → UD) (τ : TD) (nD : Nat) (dc da db : Nat → Int32) (Bf Vf : Nat → Nat) (hf : Nat → Nat → Nat) (v1 v2 y : Int32) (σ' : rS) : Prop := (¬ (0 ≤ v1.toInt ∧ v1.toInt < nU) ∧ σ'.1 0 = 1 ∧ RQ nS eS nU U τ nD dc da db Bf Vf hf σ') ∨ ((0 ≤ v1.toInt ∧ v1.toInt < nU) ∧ ((¬ (1 ≤ v2.toInt ∧ v2.toInt ≤ 10000) ∧ σ'.1 0 = 2 ∧ RQ nS eS nU U τ nD dc da db Bf Vf hf σ') ∨ ((1 ≤ v2.toInt ∧ v2.toInt ≤ 10000) ∧ ((((U v1.toInt.toNat).2.2.2.2.2.1.1 = 2 ∨ (U v1.toInt.toNat).2.2.2.2.2.1.1 = 3) ∧ σ'.1 0 = 3 ∧ RQ nS eS nU U τ nD dc da db Bf Vf hf σ') ∨ (¬ ((U v1.toInt.toNat).2.2.2.2.2.1.1 = 2 ∨ (U v1.toInt.toNat).2.2.2.2.2.1.1 = 3) ∧ σ'.1 0 = 0 ∧ y = (pRun (kE (U v1.toInt.toNat) nS eS) v2.toInt.toNat (kR0 (U v1.toInt.toNat) τ)).1 ∧ ∀ (s : US) (a b : Nat → Int64), s.1 = (pRun (kE (U v1.toInt.toNat) nS eS) v2.toInt.toNat (kR0 (U v1.toInt.toNat) τ)).1 → ((pRun (kE (U v1.toInt.toNat) nS eS) v2.toInt.toNat (kR0 (U v1.toInt.toNat) τ)).1 = 1 → s = (pRun (kE (U v1.toInt.toNat) nS eS) v2.toInt.toNat (kR0 (U v1.toInt.toNat) τ)).2.2.1 ∧ a = (pRun (kE (U v1.toInt.toNat) nS eS) v2.toInt.toNat (kR0 (U v1.toInt.toNat) τ)).2.2.2.1 ∧ b = (pRun (kE (U v1.toInt.toNat) nS eS) v2.toInt.toNat (kR0 (U v1.toInt.toNat) τ)).2.2.2.2.1) → (¬ (pRun (kE (U v1.toInt.toNat) nS eS) v2.toInt.toNat (kR0 (U v1.toInt.toNat) τ)).1 = 1 → s.2.2.2.2.2.2 = (-1, -1)) → RQ nS eS nU (upS U v1.toInt.toNat (uUp (U v1.toInt.toNat) (pRun (kE (U v1.toInt.toNat) nS eS) v2.toInt.toNat (kR0 (U v1.toInt.toNat) τ)).2.1 s a b)) (pRun (kE (U v1.toInt.toNat) nS eS) v2.toInt.toNat (kR0 (U v1.toInt.toNat) τ)).2.2.2.2.2 nD dc da db Bf Vf hf σ')))))
/-- what holds leaves -/
def xhP (nS : Nat) (eS : Nat → TS) (nU : Nat) (U : Nat → UD) (τ : TD) (nD : Nat) (dc da db : Nat → Int32) (Bf Vf : Nat → Nat) (hf : Nat → Nat → Nat) (v1 y : Int32) (σ' : rS) : Prop := (¬ (0 ≤ v1.toInt ∧ v1.toInt < nU) ∧ σ'.1 0 = 1 ∧ RQ nS eS nU U τ nD dc da db Bf Vf hf σ') ∨ ((0 ≤ v1.toInt ∧ v1.toInt < nU) ∧ ((¬ (U v1.toInt.toNat).2.2.2.2.2.1.1 = 1 ∧ σ'.1 0 = 2 ∧ RQ nS eS nU U τ nD dc da db Bf Vf hf σ') ∨ ((U v1.toInt.toNat).2.2.2.2.2.1.1 = 1 ∧ σ'.1 0 = 0 ∧ ((sHold (kE (U v1.toInt.toNat) nS eS) (kR (U v1.toInt.toNat) τ) (U v1.toInt.toNat).2.2.2.2.2.1.2.2.2.2.2.2.1 = some y ∧ RQ nS eS nU U τ nD dc da db Bf Vf hf σ') ∨ (sHold (kE (U v1.toInt.toNat) nS eS) (kR (U v1.toInt.toNat) τ) (U v1.toInt.toNat).2.2.2.2.2.1.2.2.2.2.2.2.1 = none ∧ y = 2 ∧ ∀ (s : US) (a b : Nat → Int64), s.1 = 3 → s.2.2.2.2.2.2 = (-1, -1) → RQ nS eS nU (upS U v1.toInt.toNat (uUp (U v1.toInt.toNat) (U v1.toInt.toNat).2.2.2.2.1 s a b)) τ nD dc da db Bf Vf hf σ')))))
section Zzf
variable {lim : Nat × Nat} {d m nS nU nD : Nat} {eS : Nat → TS} {U : Nat → UD} {τ : TD} {dc da db : Nat → Int32} {Bf Vf : Nat → Nat} {hf : Nat → Nat → Nat} {σ σ' : rS} {bb h : ah_H} {v1 v2 y : Int32}
/-- one process is changed -/
theorem RQ_u {j0 : Nat} {u : UD} {τ' : TD} (X : RQ nS eS nU U τ nD dc da db Bf Vf hf σ) (X' : RX nS eS nU (upS U j0 u) τ' nD dc da db Bf Vf hf σ') (hu : PG nS (kSe eS) u) (e : ∀ i, i < 512 → ia σ' 6 i = ia σ 6 i ∧ ia σ' 7 i = ia σ 7 i) : RQ nS eS nU (upS U j0 u) τ' nD dc da db Bf Vf hf σ' := by
  refine ⟨X', fun j hj => ?_, X.2.2.1, fun i h1 h2 => ?_⟩
  · by_cases q : j = j0
    · rw [q, upS_eq]
      exact hu
    · rw [upS_ne q]
      exact X.2.1 j hj
  · rw [(e i h2).1, (e i h2).2]
    exact X.2.2.2 i h1 h2
theorem x_resume (H : RH m σ bb h) (X : RQ nS eS nU U τ nD dc da db Bf Vf hf σ) : wq (vc lim (d + 214) m_Ref_resume [aR m, aI v1, aI v2] h) (rI fun y h' => ∃ σ', RH m σ' bb h' ∧ xrP nS eS nU U τ nD dc da db Bf Vf hf v1 v2 y σ') := by
  obtain ⟨X1, X2, X3, X4⟩ := id X
  obtain ⟨x1, x2, ⟨x3, x4, x5, x6⟩, x7, x8, x9, x10⟩ := id X1
  have z1 : (1 : Int32).toInt = 1 := rfl
  have z4 : (10000 : Int32).toInt = 10000 := rfl
  have no : ∀ e : Int32, ¬ e ≤ 0 → (∀ σ', σ'.1 0 = e → RQ nS eS nU U τ nD dc da db Bf Vf hf σ' → xrP nS eS nU U τ nD dc da db Bf Vf hf v1 v2 0 σ') → wq (ah_val lim ah_P (d + 213) 108 44 [some (.inr (.inr (some m))), some (.inl v1), some (.inl v2)] [.inl e, .inr (.inr (some m))] h) (rI fun y h' => ∃ σ', RH m σ' bb h' ∧ xrP nS eS nU U τ nD dc da db Bf Vf hf v1 v2 y σ') := fun e he k => wq_eq q_108_44 (zr_e (K := none) H he (fun h' H' => wq_some (rI_i ⟨_, H', k _ sG_eq (RQ_0 X)⟩)))
  by_cases c : 0 ≤ v1.toInt ∧ v1.toInt < nU
  · have hj : v1.toInt.toNat < nU := by omega
    obtain ⟨⟨p1, p2, p3, p4⟩, w1, ⟨s20, s0, s1⟩, -⟩ := x9 v1.toInt.toNat hj
    obtain ⟨kV, ⟨g1, g2, g3, g4, g5, g6⟩, gr, kc, lb⟩ := X2 v1.toInt.toNat hj
    by_cases cn : 1 ≤ v2.toInt ∧ v2.toInt ≤ 10000
    · by_cases cs : (U v1.toInt.toNat).2.2.2.2.2.1.1 = 2 ∨ (U v1.toInt.toNat).2.2.2.2.2.1.1 = 3
      · refine wq_eq q_108_0 (r_absent H x4 (fun q => absurd c q) (fun _ => wq_t rfl (wq_f (fun q => by rw [Int32.lt_iff_toInt_lt, z1] at q; omega) (wq_t (by rw [Int32.le_iff_toInt_le, z4]; omega) (wq_gR H.1 rfl (ra_I H (j := 20) (by omega) rfl rfl (by omega) (by show _ < (64 : Int); omega) ?_))))))
        rw [s20]
        refine wq_f (by rcases cs with q | q <;> rw [q] <;> decide) (no 3 (by decide) (fun σ' h0 q => Or.inr ⟨c, Or.inr ⟨cn, Or.inl ⟨cs, h0, q⟩⟩⟩))
      · have h01 : (U v1.toInt.toNat).2.2.2.2.2.1.1 = 0 ∨ (U v1.toInt.toNat).2.2.2.2.2.1.1 = 1 := by
          rcases g6 with q | q | q | q
          · exact Or.inl q
          · exact Or.inr q
          · exact absurd (Or.inl q) cs
          · exact absurd (Or.inr q) cs
        obtain ⟨t23, F, fx, fn⟩ := s0 h01
        refine wq_mono (r_resume (V := kE (U v1.toInt.toNat) nS eS) (kS := kSe eS) (kV := kV) (ht := hf v1.toInt.toNat) (B := Bf v1.toInt.toNat) (fv := Vf v1.toInt.toNat) (pp := v1.toInt.toNat) (r := kR0 (U v1.toInt.toNat) τ) (F := F) (nU := nU) (n := v2.toInt.toNat) (GKA_gk g1) (gr nS (kSe eS) eS (Nat.le_refl _) (fun _ _ => rfl)) p2 p3 p4 x2 w1 x1 fx fn.symm.symm t23 ⟨p1, KC_s X3, kc⟩ (g2 h01) (by rw [s20]; rcases h01 with q | q <;> rw [q] <;> decide) x4 (by omega) hj (by omega) ⟨by omega, by omega⟩ ⟨rfl, rfl⟩ H) ?_
        rintro z ⟨y, h', rfl, rfl, σ', H', z0, G, Bt, e20, w⟩
        refine ⟨_, h', rfl, σ', H', Or.inr ⟨c, Or.inr ⟨cn, Or.inr ⟨cs, z0, rfl, fun s a b e1 e2 e3 => RQ_u X (RX_run X1 hj G Bt e20 (pRun_c _ _) w e1 e2) (PG_run (X2 _ hj) X3 p1 h01 e1 (fun q => (e2 q).1) e3) (fun i hi => ⟨G.2.2.1 6 i (fun q => by unfold QZ QY QX at q; omega), G.2.2.1 7 i (fun q => by unfold QZ QY QX at q; omega)⟩)⟩⟩⟩⟩
    · refine wq_eq q_108_0 (r_absent H x4 (fun q => absurd c q) (fun _ => wq_t rfl (wq_if _ (fun _ => no 2 (by decide) (fun σ' h0 q => Or.inr ⟨c, Or.inl ⟨cn, h0, q⟩⟩)) (fun c1 => wq_f (fun q => ?_) (no 2 (by decide) (fun σ' h0 q => Or.inr ⟨c, Or.inl ⟨cn, h0, q⟩⟩))))))
      rw [Int32.le_iff_toInt_le, z4] at q
      rw [Int32.lt_iff_toInt_lt, z1] at c1
      omega
  · exact wq_eq q_108_0 (r_absent H x4 (fun q => wq_f (by decide) (no 1 (by decide) (fun σ' h0 q' => Or.inl ⟨c, h0, q'⟩))) (fun q => absurd q c))
theorem x_holds (H : RH m σ bb h) (X : RQ nS eS nU U τ nD dc da db Bf Vf hf σ) : wq (vc lim (d + 210) m_Ref_holds [aR m, aI v1] h) (rI fun y h' => ∃ σ', RH m σ' bb h' ∧ xhP nS eS nU U τ nD dc da db Bf Vf hf v1 y σ') := by
  obtain ⟨X1, X2, X3, X4⟩ := id X
  obtain ⟨x1, x2, ⟨x3, x4, x5, x6⟩, x7, x8, x9, x10⟩ := id X1
  have no : ∀ e : Int32, ¬ e ≤ 0 → (∀ y σ', σ'.1 0 = e → RQ nS eS nU U τ nD dc da db Bf Vf hf σ' → xhP nS eS nU U τ nD dc da db Bf Vf hf v1 y σ') → wq (ah_val lim ah_P (d + 209) 110 28 [some (.inr (.inr (some m))), some (.inl v1), none] [.inl e, .inr (.inr (some m))] h) (rI fun y h' => ∃ σ', RH m σ' bb h' ∧ xhP nS eS nU U τ nD dc da db Bf Vf hf v1 y σ') := fun e he k => wq_eq q_110_28 (zr_e (K := none) H he (fun h' H' => wq_some (rI_i ⟨_, H', k _ _ sG_eq (RQ_0 X)⟩)))
  by_cases c : 0 ≤ v1.toInt ∧ v1.toInt < nU
  · have hj : v1.toInt.toNat < nU := by omega
    obtain ⟨⟨p1, p2, p3, p4⟩, w1, ⟨s20, s0, s1⟩, -⟩ := x9 v1.toInt.toNat hj
    obtain ⟨kV, ⟨g1, g2, g3, g4, g5, g6⟩, gr, kc, lb⟩ := X2 v1.toInt.toNat hj
    by_cases cs : (U v1.toInt.toNat).2.2.2.2.2.1.1 = 1
    · obtain ⟨t23, F, fx, fn⟩ := s0 (Or.inr cs)
      obtain ⟨t24, t25⟩ := s1 cs
      obtain ⟨hv, h44⟩ := g5 cs
      refine wq_mono (r_holds (V := kE (U v1.toInt.toNat) nS eS) (kS := kSe eS) (kV := kV) (ht := hf v1.toInt.toNat) (B := Bf v1.toInt.toNat) (fv := Vf v1.toInt.toNat) (pp := v1.toInt.toNat) (r := kR (U v1.toInt.toNat) τ) (F := F) (nU := nU) (GKA_gk g1) (gr nS (kSe eS) eS (Nat.le_refl _) (fun _ _ => rfl)) x2 w1 x1 x7 fx ⟨p1, KC_s X3, kc⟩ (s20.trans cs) x4 (by omega) hj hv h44 t24 H) ?_
      rintro z ⟨y, h', rfl, σ', H', z0, G, q⟩
      have ev : ∀ i, i < 512 → ia σ' 6 i = ia σ 6 i ∧ ia σ' 7 i = ia σ 7 i := fun i hi => ⟨G.2.2.1 6 i (fun q => by unfold QZ QY QX at q; omega), G.2.2.1 7 i (fun q => by unfold QZ QY QX at q; omega)⟩
      refine ⟨_, h', rfl, σ', H', Or.inr ⟨c, Or.inr ⟨cs, z0, ?_⟩⟩⟩
      cases es : sHold (kE (U v1.toInt.toNat) nS eS) (kR (U v1.toInt.toNat) τ) (U v1.toInt.toNat).2.2.2.2.2.1.2.2.2.2.2.2.1 with
      | some y' =>
        rw [es] at q
        obtain ⟨rfl, q⟩ := q
        refine Or.inl ⟨rfl, ?_⟩
        rcases q with rfl | ⟨S, e20, e23, e24, e25⟩
        · exact RQ_0 X
        · refine ⟨RX_h X1 hj cs G S fn e20 e23 e24 e25, X2, X3, fun i h1 h2 => ?_⟩
          rw [(ev i h2).1, (ev i h2).2]
          exact X4 i h1 h2
      | none =>
        rw [es] at q
        obtain ⟨rfl, Bt, e20⟩ := q
        exact Or.inr ⟨rfl, rfl, fun s a b h3 h4 => RQ_u X (RX_f X1 hj G Bt e20 h3) (PG_fail (X2 _ hj) h3 h4) ev⟩
    · refine wq_eq q_110_0 (r_absent H x4 (fun q => absurd c q) (fun _ => wq_t rfl (wq_gR H.1 rfl (ra_I H (j := 20) (by omega) rfl rfl (by omega) (by show _ < (64 : Int); omega) ?_))))
      rw [s20]
      exact wq_f cs (no 2 (by decide) (fun y σ' h0 q => Or.inr ⟨c, Or.inl ⟨cs, h0, q⟩⟩))
  · exact wq_eq q_110_0 (r_absent H x4 (fun q => wq_f (by decide) (no 1 (by decide) (fun y σ' h0 q' => Or.inl ⟨c, h0, q'⟩))) (fun q => absurd q c))
end Zzf
