/-! THE REFERENCE BETWEEN CALLS: after a process that was kept -/
section Zu
variable {nS nU nD N B fv : Nat} {eS : Nat → TS} {U : Nat → UD} {u : UD} {τ : TD} {dc da db : Nat → Int32} {Bf Vf : Nat → Nat} {hf : Nat → Nat → Nat} {ht : Nat → Nat} {σ σ' : rS}
theorem RX_p (X : RX nS eS nU U τ nD dc da db Bf Vf hf σ) (h8 : (σ.1 8).toInt = fv) (h22 : (σ.1 22).toInt + 4000 = B) (f8 : fv + nD ≤ 8192) (hU : nU < 64) (G : sm (kpQ B N nU fv nD) σ σ') (B' : byE σ') (g23 : (σ'.1 23).toInt = nU + 1) (g8 : (σ'.1 8).toInt = fv + nD) (g22 : (σ'.1 22).toInt = (σ.1 22).toInt + N) (Px : PX u B fv nU ht σ') : RX nS eS (nU + 1) (upS U nU u) τ nD dc da db (upS Bf nU B) (upS Vf nU fv) (upS hf nU ht) σ' := by
  obtain ⟨x1, x2, ⟨x3, x4, x5, x6⟩, x7, x8, x9, x10⟩ := X
  have f : ∀ k, k = 7 ∨ k = 9 → σ'.1 k = σ.1 k := fun k hk => G.1 k (fun q => by unfold kpQ knQ kvQ at q; omega)
  have l5 := x2.1
  have l128 := x8.1
  refine ⟨B', SGx_sm x2 G (fun j i q => by unfold kpQ knQ kvQ at q; omega), ⟨by rw [f 7 (by omega)]; exact x3, by rw [g23]; rfl, by omega, by rw [f 9 (by omega)]; exact x6⟩, TA_Q x7 G (fun j i q => by unfold kpQ knQ kvQ at q; omega), ⟨x8.1, fun i hi => ?_⟩, fun j hj => ?_, fun j k hj hk => ?_⟩
  · have ei : ∀ j, j ≤ 3 → ia σ' j (9216 + i) = ia σ j (9216 + i) := fun j hj => G.2.2.1 j _ (fun q => by unfold kpQ knQ kvQ at q; omega)
    rw [ei 0 (by omega), ei 2 (by omega), ei 3 (by omega)]
    exact x8.2 i hi
  · by_cases c : j = nU
    · rw [c, upS_eq, upS_eq, upS_eq, upS_eq]
      exact Px
    · rw [upS_ne c, upS_ne c, upS_ne c, upS_ne c]
      obtain ⟨-, -, -, -, p5, p6⟩ := x9 j (by omega)
      exact PX_sm (x9 j (by omega)) G (fun j' i q => by unfold kpQ knQ kvQ at q; omega) (by omega) (by omega)
  · by_cases c : k = nU
    · have cj : j ≠ nU := by omega
      obtain ⟨-, -, -, -, p5, p6⟩ := x9 j (by omega)
      rw [c, upS_ne cj, upS_ne cj, upS_ne cj, upS_eq, upS_eq]
      omega
    · have cj : j ≠ nU := by omega
      rw [upS_ne cj, upS_ne cj, upS_ne cj, upS_ne c, upS_ne c]
      exact x10 j k hj (by omega)
end Zu
