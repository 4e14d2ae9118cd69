/-! what a whole run keeps of the variables -/
section Zy
variable {V : ENV} {kS kV : Nat → Int32 × Int32}
theorem pr_2 (G : GK V kS kV) : ∀ (n : Nat) (r : RST), KQ V kS kV r.1 → IA V.1 r.2.1 → KQ V kS kV (pRun V n r).2.1 ∧ ∀ i, ((pRun V n r).2.1 i).2 = (r.1 i).2 := by
  intro n
  induction n with
  | zero => exact fun r K _ => ⟨K, fun _ => rfl⟩
  | succ n ih =>
    intro r K hA
    cases e : sStep V (rSt r) with
    | none => rw [pRun_n e]; exact ⟨K, fun _ => rfl⟩
    | some p =>
      obtain ⟨r', bo⟩ := p
      have K' : KQ V kS kV r'.1 := KQ_step (r := rSt r) G K hA e
      have h2 : ∀ i, (r'.1 i).2 = (r.1 i).2 := s2_step (r := rSt r) G hA e
      by_cases c : bo = 0
      · rw [pRun_0 e c]; exact ⟨K', h2⟩
      · rw [pRun_1 e c]
        have hA' := (so_step (r := rSt r) G (fun i hi => ⟨(K.2.2 i hi).1, (K.2.2 i hi).2.1⟩) hA e).2.1
        obtain ⟨q1, q2⟩ := ih r' K' hA'
        exact ⟨q1, fun i => (q2 i).trans (h2 i)⟩
end Zy
