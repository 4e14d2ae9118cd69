/-! THE REFERENCE BETWEEN CALLS: after signal -/
section Zw
variable {nS nU nD : Nat} {eS : Nat → TS} {U : Nat → UD} {τ : TD} {dc da db : Nat → Int32} {Bf Vf : Nat → Nat} {hf : Nat → Nat → Nat} {σ : rS} {c a b : Int32}
theorem RX_n (X : RX nS eS nU U τ nD dc da db Bf Vf hf σ) (ok : okK c a b) (l : nS < 512) (ev : ia σ 6 nS = 0 ∧ ia σ 7 nS = 0) : RX (nS + 1) (upS eS nS (thI c a b)) nU U τ nD dc da db Bf Vf hf (sG (mkR (mkR (sG σ 0 0) nS c a b) (512 + nS) c a b) 7 (σ.1 7 + 1)) := by
  obtain ⟨k0, k1, k2⟩ := okK_c ok
  have o1 : (1 : Int32).toInt = 1 := rfl
  have x1 := X.1
  have x2 := X.2.1
  have x3 := X.2.2.1.1
  have L0 : 0 ≤ (if c = 1 then a else 0).toInt ∧ (if c = 1 then a else 0).toInt ≤ 64 := by
    by_cases q : c = 1
    · rw [if_pos q]; exact k2 (by rw [q]; rfl)
    · rw [if_neg q]; decide
  have B1 : byE (mkR (sG σ 0 0) nS c a b) := by_mk x1 k0 k1 L0.1 L0.2
  have B2 : byE (mkR (mkR (sG σ 0 0) nS c a b) (512 + nS) c a b) := by_mk B1 k0 k1 L0.1 L0.2
  have G : sm (fun j i => mQ nS j i ∨ mQ (512 + nS) j i ∨ (j = 100 ∧ (i = 0 ∨ i = 7))) σ (sG (mkR (mkR (sG σ 0 0) nS c a b) (512 + nS) c a b) 7 (σ.1 7 + 1)) := sm_G (sm_mk (sm_mk (sm_G sm_0 (Or.inr (Or.inr ⟨rfl, Or.inl rfl⟩))) (fun j i q => Or.inl q)) (fun j i q => Or.inr (Or.inl q))) (Or.inr (Or.inr ⟨rfl, Or.inr rfl⟩))
  have G2 : sm (mQ (512 + nS)) (mkR (sG σ 0 0) nS c a b) (mkR (mkR (sG σ 0 0) nS c a b) (512 + nS) c a b) := sm_mk sm_0 (fun _ _ q => q)
  refine RX_s X G (fun j i q => by unfold mQ at q; omega) ⟨by omega, fun i hi => ?_⟩ B2 (by rw [sG_eq, ad_i (by omega) (by omega), o1, x3]; rfl)
  by_cases q : i = nS
  · rw [q, upS_eq]
    obtain ⟨r1, w1⟩ := RW_mk (σ := sG σ 0 0) (r := nS) ok
    obtain ⟨r2, w2⟩ := RW_mk (σ := mkR (sG σ 0 0) nS c a b) (r := 512 + nS) ok
    have eo : ∀ j, j ≠ 5 → ia (mkR (mkR (sG σ 0 0) nS c a b) (512 + nS) c a b) j nS = ia (mkR (sG σ 0 0) nS c a b) j nS := fun j hj => mk_o hj (by omega)
    have e67 : ∀ j, j = 6 ∨ j = 7 → ia (mkR (mkR (sG σ 0 0) nS c a b) (512 + nS) c a b) j nS = ia σ j nS := fun j hj => G.2.2.1 j nS (fun q => by unfold mQ at q; omega)
    have r1' : RW (mkR (mkR (sG σ 0 0) nS c a b) (512 + nS) c a b) nS (wIn c a) := RW_q r1 w1 G2 (fun j i q => by unfold mQ at q; omega)
    refine ⟨⟨r1', r2, w1, w2, (e67 6 (by omega)).trans ev.1, (e67 7 (by omega)).trans ev.2, Or.inl rfl, Or.inl rfl⟩, fun z => ?_⟩
    have z : c = 2 := z
    exact ⟨(eo 2 (by omega)).trans (mk_2.trans (if_pos z).symm), (eo 3 (by omega)).trans (mk_3.trans (if_pos z).symm)⟩
  · rw [upS_ne q]
    obtain ⟨⟨p1, p2, p3, p4, p5, p6, p7⟩, p8⟩ := x2.2 i (by omega)
    have e : ∀ j, j = 2 ∨ j = 3 ∨ j = 6 ∨ j = 7 → ia (sG (mkR (mkR (sG σ 0 0) nS c a b) (512 + nS) c a b) 7 (σ.1 7 + 1)) j i = ia σ j i := fun j hj => G.2.2.1 j i (fun q => by unfold mQ at q; omega)
    rw [e 2 (by omega), e 3 (by omega), e 6 (by omega), e 7 (by omega)]
    exact ⟨⟨RW_q p1 p3 G (fun j i' q => by unfold mQ at q; omega), RW_q p2 p4 G (fun j i' q => by unfold mQ at q; omega), p3, p4, p5, p6, p7⟩, p8⟩
end Zw
