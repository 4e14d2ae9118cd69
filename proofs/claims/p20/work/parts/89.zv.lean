/-! THE REFERENCE BETWEEN CALLS: after holds -/
section Zv
variable {nS nU nD pp : Nat} {eS : Nat → TS} {U : Nat → UD} {τ : TD} {dc da db : Nat → Int32} {Bf Vf : Nat → Nat} {hf : Nat → Nat → Nat} {σ σ' : rS} {F : FL} {s : US} {a b : Nat → Int64}
theorem upS_id {α : Type} {f : Nat → α} {i : Nat} : upS f i (f i) = f := by
  funext j
  by_cases c : j = i
  · rw [c, upS_eq]
  · rw [upS_ne c]
theorem RX_h (X : RX nS eS nU U τ nD dc da db Bf Vf hf σ) (hp : pp < nU) (s1 : (U pp).2.2.2.2.2.1.1 = 1) (G : sm (QZ pp (Vf pp) (U pp).2.2.1) σ σ') (S : BS ((U pp).2.1, nS, eS, (U pp).2.2.1) (Bf pp) (Vf pp) pp (hf pp) (U pp).2.2.2.2.1 (U pp).2.2.2.2.2.2.1 (U pp).2.2.2.2.2.2.2 τ F σ') (hN : nrm (U pp).2.1 F = ((U pp).2.2.2.2.2.1.2.2.2.2.1, (U pp).2.2.2.2.2.1.2.2.2.2.2.1)) (e20 : ia σ' 20 pp = ia σ 20 pp) (e23 : ia σ' 23 pp = ia σ 23 pp) (e24 : ia σ' 24 pp = ia σ 24 pp) (e25 : ja σ' 25 pp = ja σ 25 pp) : RX nS eS nU U τ nD dc da db Bf Vf hf σ' := by
  obtain ⟨-, -, ⟨u1, u2, u3⟩, -⟩ := X.2.2.2.2.2.1 pp hp
  have R := RX_run (q := (1, ((U pp).2.2.2.2.1, (U pp).2.2.2.2.2.1, (U pp).2.2.2.2.2.2.1, (U pp).2.2.2.2.2.2.2, τ))) (s := (U pp).2.2.2.2.2.1) (a := (U pp).2.2.2.2.2.2.1) (b := (U pp).2.2.2.2.2.2.2) X hp G S.1 (by rw [e20, u1, s1]) (Or.inl rfl) (fun _ => ⟨e23.trans (u2 (Or.inr s1)).1, ⟨F, S, hN⟩, by rw [e24]; exact (u3 s1).1, e25.trans (u3 s1).2⟩) s1 (fun _ => ⟨rfl, rfl, rfl⟩)
  have e : upS U pp (uUp (U pp) (U pp).2.2.2.2.1 (U pp).2.2.2.2.2.1 (U pp).2.2.2.2.2.2.1 (U pp).2.2.2.2.2.2.2) = U := upS_id (f := U) (i := pp)
  rw [← e]
  exact R
/-- a condition that cannot be found -/
theorem RX_f (X : RX nS eS nU U τ nD dc da db Bf Vf hf σ) (hp : pp < nU) (G : sm (QZ pp (Vf pp) (U pp).2.2.1) σ σ') (Bt : BT ((U pp).2.1, nS, eS, (U pp).2.2.1) (Bf pp) (Vf pp) pp (U pp).2.2.2.2.1 τ σ') (e20 : ia σ' 20 pp = 3) (s3 : s.1 = 3) : RX nS eS nU (upS U pp (uUp (U pp) (U pp).2.2.2.2.1 s a b)) τ nD dc da db Bf Vf hf σ' := RX_run (q := (3, ((U pp).2.2.2.2.1, s, a, b, τ))) X hp G Bt e20 (Or.inr (Or.inr rfl)) (fun q => absurd (show (3 : Int32) = 1 from q) (by decide)) s3 (fun q => absurd (show (3 : Int32) = 1 from q) (by decide))
end Zv
