/-! THE REFERENCE BETWEEN CALLS: after variable, after a process that was not kept -/
section Zt
variable {nS nU nD n pp : Nat} {eS : Nat → TS} {U : Nat → UD} {τ : TD} {dc da db : Nat → Int32} {Bf Vf : Nat → Nat} {hf : Nat → Nat → Nat} {σ σ' : rS} {c a b : Int32}
theorem RX_d (X : RX nS eS nU U τ nD dc da db Bf Vf hf σ) (ok : okK c a b) (l : nD < 128) : RX nS eS nU U τ (nD + 1) (upS dc nD c) (upS da nD a) (upS db nD b) Bf Vf hf (sG (mkR (sG σ 0 0) (9216 + nD) c a b) 9 (σ.1 9 + 1)) := by
  obtain ⟨x1, x2, ⟨x3, x4, x5, x6⟩, x7, x8, x9, x10⟩ := X
  obtain ⟨k0, k1, k2⟩ := okK_c ok
  have o1 : (1 : Int32).toInt = 1 := rfl
  have G : sm (fun j i => mQ (9216 + nD) j i ∨ (j = 100 ∧ (i = 0 ∨ i = 9))) σ (sG (mkR (sG σ 0 0) (9216 + nD) c a b) 9 (σ.1 9 + 1)) := sm_G (sm_mk (sm_G sm_0 (Or.inr ⟨rfl, Or.inl rfl⟩)) (fun j i q => Or.inl q)) (Or.inr ⟨rfl, Or.inr rfl⟩)
  have f : ∀ k, k ≠ 0 → k ≠ 9 → (sG (mkR (sG σ 0 0) (9216 + nD) c a b) 9 (σ.1 9 + 1)).1 k = σ.1 k := fun k h1 h2 => G.1 k (fun q => by unfold mQ at q; omega)
  have B1 : byE (mkR (sG σ 0 0) (9216 + nD) c a b) := by
    refine by_mk x1 k0 k1 ?_ ?_
    · by_cases q : c = 1
      · rw [if_pos q]; exact (k2 (by rw [q]; rfl)).1
      · rw [if_neg q]; decide
    · by_cases q : c = 1
      · rw [if_pos q]; exact (k2 (by rw [q]; rfl)).2
      · rw [if_neg q]; decide
  refine ⟨B1, SGx_sm x2 G (fun j i q => by unfold mQ at q; omega), ⟨by rw [f 7 (by omega) (by omega)]; exact x3, by rw [f 23 (by omega) (by omega)]; exact x4, x5, ?_⟩, TA_Q x7 G (fun j i q => by unfold mQ at q; omega), ⟨by omega, fun i hi => ?_⟩, fun j hj => ?_, x10⟩
  · rw [sG_eq, ad_i (by omega) (by omega), o1, x6]
    rfl
  · by_cases q : i = nD
    · rw [q, upS_eq, upS_eq, upS_eq]
      exact ⟨ok, mk_0, mk_2, mk_3⟩
    · rw [upS_ne q, upS_ne q, upS_ne q]
      obtain ⟨d1, d2, d3, d4⟩ := x8.2 i (by omega)
      have eo : ∀ j, j ≠ 5 → ia (sG (mkR (sG σ 0 0) (9216 + nD) c a b) 9 (σ.1 9 + 1)) j (9216 + i) = ia σ j (9216 + i) := fun j hj => mk_o (σ := sG σ 0 0) hj (by omega)
      exact ⟨d1, (eo 0 (by omega)).trans d2, (eo 2 (by omega)).trans d3, (eo 3 (by omega)).trans d4⟩
  · have l8 := (x9 j hj).2.1.2.1
    exact PX_sm (x9 j hj) G (fun j i q => by unfold mQ at q; omega) (by rw [f 8 (by omega) (by omega)]; exact Int.le_refl _) (by rw [f 22 (by omega) (by omega)]; exact Int.le_refl _)
/-- drafts are gone -/
theorem RX_z (X : RX nS eS nU U τ nD dc da db Bf Vf hf σ) : RX nS eS nU U τ 0 dc da db Bf Vf hf (sG (sG (sG σ 19 0) 21 0) 9 0) := by
  obtain ⟨x1, x2, ⟨x3, x4, x5, x6⟩, x7, x8, x9, x10⟩ := X
  have G : sm (fun j i => j = 100 ∧ (i = 19 ∨ i = 21 ∨ i = 9)) σ (sG (sG (sG σ 19 0) 21 0) 9 0) := sm_G (sm_G (sm_G sm_0 ⟨rfl, Or.inl rfl⟩) ⟨rfl, Or.inr (Or.inl rfl)⟩) ⟨rfl, Or.inr (Or.inr rfl)⟩
  have f : ∀ k, k ≠ 19 → k ≠ 21 → k ≠ 9 → (sG (sG (sG σ 19 0) 21 0) 9 0).1 k = σ.1 k := fun k h1 h2 h3 => G.1 k (fun q => by omega)
  refine ⟨x1, x2, ⟨by rw [f 7 (by omega) (by omega) (by omega)]; exact x3, by rw [f 23 (by omega) (by omega) (by omega)]; exact x4, x5, by rw [sG_eq]; rfl⟩, TA_Q x7 G (fun j i q => by omega), ⟨by omega, fun i hi => absurd hi (Nat.not_lt_zero _)⟩, fun j hj => PX_sm (x9 j hj) G (fun j i q => by omega) (by rw [f 8 (by omega) (by omega) (by omega)]; exact Int.le_refl _) (by rw [f 22 (by omega) (by omega) (by omega)]; exact Int.le_refl _), x10⟩
end Zt
