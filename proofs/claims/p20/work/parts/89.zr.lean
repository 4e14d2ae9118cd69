/-! THE REFERENCE BETWEEN CALLS: after a run -/
section Zr
variable {nS nU nD n pp : Nat} {eS : Nat → TS} {U : Nat → UD} {τ : TD} {dc da db : Nat → Int32} {Bf Vf : Nat → Nat} {hf : Nat → Nat → Nat} {σ σ' : rS} {V : ENV} {r : RST} {q : Int32 × RST} {s : US} {a b : Nat → Int64}
theorem pRun_c : ∀ (n : Nat) (r : RST), (pRun V n r).1 = 1 ∨ (pRun V n r).1 = 2 ∨ (pRun V n r).1 = 3 := by
  intro n
  induction n with
  | zero => exact fun r => Or.inr (Or.inl rfl)
  | succ n ih =>
    intro r
    cases e : sStep V (rSt r) with
    | none => rw [pRun_n e]; exact Or.inr (Or.inr rfl)
    | some p =>
      obtain ⟨r', bo⟩ := p
      by_cases c : bo = 0
      · rw [pRun_0 e c]; exact Or.inl rfl
      · rw [pRun_1 e c]; exact ih r'
theorem RX_run (X : RX nS eS nU U τ nD dc da db Bf Vf hf σ) (hp : pp < nU) (G : sm (QZ pp (Vf pp) (U pp).2.2.1) σ σ') (Bt : BT ((U pp).2.1, nS, eS, (U pp).2.2.1) (Bf pp) (Vf pp) pp q.2.1 q.2.2.2.2.2 σ') (h20 : ia σ' 20 pp = q.1) (hc : q.1 = 1 ∨ q.1 = 2 ∨ q.1 = 3) (w : q.1 = 1 → ia σ' 23 pp = q.2.2.1.2.2.2.1 ∧ (∃ F2, BS ((U pp).2.1, nS, eS, (U pp).2.2.1) (Bf pp) (Vf pp) pp (hf pp) q.2.1 q.2.2.2.1 q.2.2.2.2.1 q.2.2.2.2.2 F2 σ' ∧ nrm (U pp).2.1 F2 = (q.2.2.1.2.2.2.2.1, q.2.2.1.2.2.2.2.2.1)) ∧ (ia σ' 24 pp).toInt = Bf pp + q.2.2.1.2.2.2.2.2.2.1.toInt ∧ ja σ' 25 pp = q.2.2.1.2.2.2.2.2.2.2) (s1 : s.1 = q.1) (s2 : q.1 = 1 → s = q.2.2.1 ∧ a = q.2.2.2.1 ∧ b = q.2.2.2.2.1) : RX nS eS nU (upS U pp (uUp (U pp) q.2.1 s a b)) q.2.2.2.2.2 nD dc da db Bf Vf hf σ' := by
  obtain ⟨x1, x2, ⟨x3, x4, x5, x6⟩, x7, x8, x9, x10⟩ := X
  have l8 := (x9 pp hp).2.1.2.1
  have f : ∀ k, k = 7 ∨ k = 8 ∨ k = 9 ∨ k = 22 ∨ k = 23 → σ'.1 k = σ.1 k := fun k hk => G.1 k (fun q => by unfold QZ QY QX at q; omega)
  have uc : ∀ j, (upS U pp (uUp (U pp) q.2.1 s a b) j).2.2.1 = (U j).2.2.1 ∧ (upS U pp (uUp (U pp) q.2.1 s a b) j).2.1 = (U j).2.1 := fun j => by
    by_cases c : j = pp
    · rw [c, upS_eq]
      exact ⟨rfl, rfl⟩
    · rw [upS_ne c]
      exact ⟨rfl, rfl⟩
  refine ⟨Bt.2.2.1, BT_SGx Bt, ⟨by rw [f 7 (by omega)]; exact x3, by rw [f 23 (by omega)]; exact x4, x5, by rw [f 9 (by omega)]; exact x6⟩, Bt.2.2.2.2.2, ⟨x8.1, fun i hi => ?_⟩, fun j hj => ?_, fun j k hj hk => ?_⟩
  · have l := x8.1
    have ei : ∀ j, j ≤ 3 → ia σ' j (9216 + i) = ia σ j (9216 + i) := fun j hj => G.2.2.1 j _ (fun q => by unfold QZ QY QX at q; omega)
    rw [ei 0 (by omega), ei 2 (by omega), ei 3 (by omega)]
    exact x8.2 i hi
  · by_cases c : j = pp
    · rw [c, upS_eq]
      obtain ⟨p1, p2, p3, p4, p5, p6⟩ := x9 pp hp
      have h17 : (ia σ' 17 pp).toInt = Bf pp + (rtV (U pp).2.1).toInt := by
        rw [show ia σ' 17 pp = ia σ 17 pp from G.2.2.1 17 pp (fun q => by unfold QZ QY QX at q; omega)]
        exact p2.2.2.2.2.1
      refine ⟨p1, BT_UVx Bt h17, ⟨h20.trans s1.symm, fun z => ?_, fun z => ?_⟩, ?_, by rw [f 8 (by omega)]; exact p5, by rw [f 22 (by omega)]; exact p6⟩
      · have z : s.1 = 0 ∨ s.1 = 1 := z
        have q1 : q.1 = 1 := by
          rw [s1] at z
          rcases z with z | z
          · rw [z] at hc
            exact absurd hc (by decide)
          · exact z
        obtain ⟨e1, e2, e3⟩ := s2 q1
        obtain ⟨w1, ⟨F2, w2, w3⟩, -⟩ := w q1
        show ia σ' 23 pp = s.2.2.2.1 ∧ ∃ F, FX (U pp).2.1 (Bf pp) pp (hf pp) a b F σ' ∧ nrm (U pp).2.1 F = (s.2.2.2.2.1, s.2.2.2.2.2.1)
        rw [e1, e2, e3]
        exact ⟨w1, F2, w2.2, w3⟩
      · have z : s.1 = 1 := z
        have q1 : q.1 = 1 := s1.symm.trans z
        obtain ⟨-, -, w4, w5⟩ := w q1
        show (ia σ' 24 pp).toInt = Bf pp + s.2.2.2.2.2.2.1.toInt ∧ ja σ' 25 pp = s.2.2.2.2.2.2.2
        rw [(s2 q1).1]
        exact ⟨w4, w5⟩
      · rw [show ia σ' 19 pp = ia σ 19 pp from G.2.2.1 19 pp (fun q => by unfold QZ QY QX at q; omega)]
        exact p4
    · rw [upS_ne c]
      have lj := (x9 j hj).2.1.2.1
      have dj : Vf j + (U j).2.2.1 ≤ Vf pp ∨ Vf pp + (U pp).2.2.1 ≤ Vf j := by
        rcases Nat.lt_or_gt_of_ne c with k | k
        · exact Or.inl (x10 j pp k hp).1
        · exact Or.inr (x10 pp j k hj).1
      exact PX_sm (x9 j hj) G (fun j' i' z => by unfold QZ QY QX at z; omega) (by rw [f 8 (by omega)]; exact Int.le_refl _) (by rw [f 22 (by omega)]; exact Int.le_refl _)
  · rw [(uc j).1, (uc j).2]
    exact x10 j k hj hk
end Zr
