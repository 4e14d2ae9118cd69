/-! THE REFERENCE BETWEEN CALLS -/
/-- a kept process, in the reference -/
def PX (u : UD) (B fv pp : Nat) (ht : Nat → Nat) (σ : rS) : Prop := (PO u.2.1 ∧ HT u.2.1 ht ∧ bdy u.2.1 (rtV u.2.1) ∧ xU u.2.1 (rtV u.2.1) = -1) ∧ UVx u.2.1 u.2.2.1 B fv pp u.2.2.2.2.1 σ ∧ UWx u.2.1 B pp ht u.2.2.2.2.2.1 u.2.2.2.2.2.2.1 u.2.2.2.2.2.2.2 σ ∧ (ia σ 19 pp).toInt = u.2.2.1 ∧ (fv + u.2.2.1 : Int) ≤ (σ.1 8).toInt ∧ (B + u.2.1.1 : Int) ≤ (σ.1 22).toInt + 4000
/-- all of it: signals, processes, what is told, drafts of variables -/
def RX (nS : Nat) (eS : Nat → TS) (nU : Nat) (U : Nat → UD) (τ : TD) (nD : Nat) (dc da db : Nat → Int32) (Bf Vf : Nat → Nat) (hf : Nat → Nat → Nat) (σ : rS) : Prop := byE σ ∧ SGx nS eS σ ∧ ((σ.1 7).toInt = nS ∧ (σ.1 23).toInt = nU ∧ nU ≤ 64 ∧ (σ.1 9).toInt = nD) ∧ TA τ σ ∧ DRx nD dc da db σ ∧ (∀ j, j < nU → PX (U j) (Bf j) (Vf j) j (hf j) σ) ∧ ∀ j k, j < k → k < nU → Vf j + (U j).2.2.1 ≤ Vf k ∧ Bf j + (U j).2.1.1 ≤ Bf k
section Zq
variable {nS nU nD B fv pp : Nat} {eS : Nat → TS} {U : Nat → UD} {u : UD} {τ : TD} {dc da db : Nat → Int32} {Bf Vf : Nat → Nat} {hf : Nat → Nat → Nat} {ht : Nat → Nat} {σ σ' : rS} {e : Int32} {Q : Nat → Nat → Prop}
/-- what keeps a process -/
theorem PX_sm (X : PX u B fv pp ht σ) (G : sm Q σ σ') (hQ : ∀ j i, Q j i → ¬ ((j ≤ 4 ∧ 1024 + fv ≤ i ∧ i < 1024 + fv + u.2.2.1) ∨ (j = 5 ∧ 64 * (1024 + fv) ≤ i ∧ i < 64 * (1024 + fv + u.2.2.1)) ∨ (8 ≤ j ∧ j ≤ 12 ∧ B ≤ i ∧ i < B + u.2.1.1) ∨ (17 ≤ j ∧ j ≤ 26 ∧ i = pp) ∨ (27 ≤ j ∧ j ≤ 30 ∧ 128 * pp ≤ i ∧ i < 128 * pp + 128))) (g8 : (σ.1 8).toInt ≤ (σ'.1 8).toInt) (g22 : (σ.1 22).toInt ≤ (σ'.1 22).toInt) : PX u B fv pp ht σ' := by
  obtain ⟨⟨x1, x2, x3⟩, x4, x5, x6, x7, x8⟩ := X
  refine ⟨⟨x1, x2, x3⟩, UVx_sm x1 x4 G (fun j i q => by have := hQ j i q; omega), UWx_sm x2 x5 G (fun j i q => by have := hQ j i q; omega), ?_, by omega, by omega⟩
  rw [show ia σ' 19 pp = ia σ 19 pp from G.2.2.1 19 pp (fun q => hQ _ _ q (by omega))]
  exact x6
/-- a call that only noted its code -/
theorem RX_0 (X : RX nS eS nU U τ nD dc da db Bf Vf hf σ) : RX nS eS nU U τ nD dc da db Bf Vf hf (sG σ 0 e) := by
  obtain ⟨x1, x2, ⟨x3, x4, x5, x6⟩, x7, x8, x9, x10⟩ := X
  have G : sm (fun j i => j = 100 ∧ i = 0) σ (sG σ 0 e) := sm_G sm_0 ⟨rfl, rfl⟩
  have f : ∀ k, k ≠ 0 → (sG σ 0 e).1 k = σ.1 k := fun k hk => sG_ne hk
  refine ⟨x1, x2, ⟨by rw [f 7 (by omega)]; exact x3, by rw [f 23 (by omega)]; exact x4, x5, by rw [f 9 (by omega)]; exact x6⟩, TA_Q x7 G (fun j i q => by omega), x8, fun j hj => PX_sm (x9 j hj) G (fun j i q => by omega) (by rw [f 8 (by omega)]; exact Int.le_refl _) (by rw [f 22 (by omega)]; exact Int.le_refl _), x10⟩
end Zq
