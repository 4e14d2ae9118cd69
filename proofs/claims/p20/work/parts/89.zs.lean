/-! THE REFERENCE BETWEEN CALLS: after the other calls -/
section Zs
variable {nS nS' nU nD n pp v : Nat} {eS eS' : Nat → TS} {U : Nat → UD} {τ : TD} {dc da db : Nat → Int32} {Bf Vf : Nat → Nat} {hf : Nat → Nat → Nat} {σ σ' : rS} {Q : Nat → Nat → Prop} {c a b : Int32} {e : Nat → TS}
/-- signals alone have changed -/
theorem RX_s (X : RX nS eS nU U τ nD dc da db Bf Vf hf σ) (G : sm Q σ σ') (hQ : ∀ j i, Q j i → (j ≤ 4 ∧ i < 1024) ∨ (j = 5 ∧ i < 65536) ∨ j = 6 ∨ j = 7 ∨ (j = 100 ∧ (i = 0 ∨ i = 7))) (SG' : SGx nS' eS' σ') (B' : byE σ') (h7 : (σ'.1 7).toInt = nS') : RX nS' eS' nU U τ nD dc da db Bf Vf hf σ' := by
  obtain ⟨x1, x2, ⟨x3, x4, x5, x6⟩, x7, x8, x9, x10⟩ := X
  have f : ∀ k, k = 8 ∨ k = 9 ∨ k = 22 ∨ k = 23 → σ'.1 k = σ.1 k := fun k hk => G.1 k (fun q => by have := hQ _ _ q; omega)
  refine ⟨B', SG', ⟨h7, by rw [f 23 (by omega)]; exact x4, x5, by rw [f 9 (by omega)]; exact x6⟩, TA_Q x7 G (fun j i q => by have := hQ _ _ q; omega), ⟨x8.1, fun i hi => ?_⟩, fun j hj => PX_sm (x9 j hj) G (fun j i q => by have := hQ _ _ q; omega) (by rw [f 8 (by omega)]; exact Int.le_refl _) (by rw [f 22 (by omega)]; exact Int.le_refl _), x10⟩
  have ei : ∀ j, j ≤ 3 → ia σ' j (9216 + i) = ia σ j (9216 + i) := fun j hj => G.2.2.1 j _ (fun q => by have := hQ _ _ q; omega)
  rw [ei 0 (by omega), ei 2 (by omega), ei 3 (by omega)]
  exact x8.2 i hi
/-- add -/
theorem RX_a (X : RX nS eS nU U τ nD dc da db Bf Vf hf σ) (G : sm adS σ σ') : RX nS eS nU U τ nD dc da db Bf Vf hf σ' := by
  obtain ⟨x1, x2, ⟨x3, x4, x5, x6⟩, x7, x8, x9, x10⟩ := X
  have f : ∀ k, k = 7 ∨ k = 8 ∨ k = 9 ∨ k = 22 ∨ k = 23 → σ'.1 k = σ.1 k := fun k hk => G.1 k (fun q => by unfold adS at q; omega)
  have ei : ∀ j i, j ≤ 7 → ia σ' j i = ia σ j i := fun j i hj => G.2.2.1 j i (fun q => by unfold adS at q; omega)
  refine ⟨byE_e x1 (fun j i hj => ei j i (by omega)), SGx_sm x2 G (fun j i q => by unfold adS at q; omega), ⟨by rw [f 7 (by omega)]; exact x3, by rw [f 23 (by omega)]; exact x4, x5, by rw [f 9 (by omega)]; exact x6⟩, TA_Q x7 G (fun j i q => by unfold adS at q; omega), ⟨x8.1, fun i hi => ?_⟩, fun j hj => ?_, x10⟩
  · rw [ei 0 _ (by omega), ei 2 _ (by omega), ei 3 _ (by omega)]
    exact x8.2 i hi
  · have nb := (x9 j hj).2.1.1.1
    exact PX_sm (x9 j hj) G (fun j i q => by unfold adS at q; omega) (by rw [f 8 (by omega)]; exact Int.le_refl _) (by rw [f 22 (by omega)]; exact Int.le_refl _)
/-- set -/
theorem RX_v (X : RX nS eS nU U τ nD dc da db Bf Vf hf σ) (hp : pp < nU) (hv : v < (U pp).2.2.1) (G : sm (stQ (1024 + Vf pp + v)) σ σ') (B' : byE σ') (V' : UVx (U pp).2.1 (U pp).2.2.1 (Bf pp) (Vf pp) pp e σ') : RX nS eS nU (upS U pp ((U pp).1, (U pp).2.1, (U pp).2.2.1, (U pp).2.2.2.1, e, (U pp).2.2.2.2.2)) τ nD dc da db Bf Vf hf σ' := by
  obtain ⟨x1, x2, ⟨x3, x4, x5, x6⟩, x7, x8, x9, x10⟩ := X
  have l8 := (x9 pp hp).2.1.2.1
  have f : ∀ k, k ≠ 0 → σ'.1 k = σ.1 k := fun k hk => G.1 k (fun q => by unfold stQ bQ at q; omega)
  have ei : ∀ j i, j ≠ 4 → j ≠ 5 → j < 100 → ia σ' j i = ia σ j i := fun j i h1 h2 h3 => G.2.2.1 j i (fun q => by unfold stQ bQ at q; omega)
  have uc : ∀ j, (upS U pp ((U pp).1, (U pp).2.1, (U pp).2.2.1, (U pp).2.2.2.1, e, (U pp).2.2.2.2.2) j).2.2.1 = (U j).2.2.1 ∧ (upS U pp ((U pp).1, (U pp).2.1, (U pp).2.2.1, (U pp).2.2.2.1, e, (U pp).2.2.2.2.2) j).2.1 = (U j).2.1 := fun j => by
    by_cases c : j = pp
    · rw [c, upS_eq]
      exact ⟨rfl, rfl⟩
    · rw [upS_ne c]
      exact ⟨rfl, rfl⟩
  refine ⟨B', SGx_sm x2 G (fun j i q => by unfold stQ bQ at q; omega), ⟨by rw [f 7 (by omega)]; exact x3, by rw [f 23 (by omega)]; exact x4, x5, by rw [f 9 (by omega)]; exact x6⟩, TA_Q x7 G (fun j i q => by unfold stQ bQ at q; omega), ⟨x8.1, fun i hi => ?_⟩, fun j hj => ?_, fun j k hj hk => ?_⟩
  · rw [ei 0 _ (by omega) (by omega) (by omega), ei 2 _ (by omega) (by omega) (by omega), ei 3 _ (by omega) (by omega) (by omega)]
    exact x8.2 i hi
  · by_cases c : j = pp
    · rw [c, upS_eq]
      obtain ⟨p1, p2, p3, p4, p5, p6⟩ := x9 pp hp
      refine ⟨p1, V', UWx_sm p1.2.1 p3 G (fun j i q => by unfold stQ bQ at q; omega), ?_, by rw [f 8 (by omega)]; exact p5, by rw [f 22 (by omega)]; exact p6⟩
      rw [ei 19 _ (by omega) (by omega) (by omega)]
      exact p4
    · rw [upS_ne c]
      have dj : Vf j + (U j).2.2.1 ≤ Vf pp ∨ Vf pp + (U pp).2.2.1 ≤ Vf j := by
        rcases Nat.lt_or_gt_of_ne c with k | k
        · exact Or.inl (x10 j pp k hp).1
        · exact Or.inr (x10 pp j k hj).1
      exact PX_sm (x9 j hj) G (fun j' i' z => by unfold stQ bQ at z; omega) (by rw [f 8 (by omega)]; exact Int.le_refl _) (by rw [f 22 (by omega)]; exact Int.le_refl _)
  · rw [(uc j).1, (uc j).2]
    exact x10 j k hj hk
end Zs
