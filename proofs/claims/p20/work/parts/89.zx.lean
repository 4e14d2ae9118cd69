/-! limits and kinds of signals -/
def LBs (nS : Nat) (eS : Nat → TS) : Prop := ∀ i, i < nS → (wI (eS i).1 = 2 → -2147483647 ≤ (eS i).2.2.2.2.1.toInt) ∧ wI (eS i).2.1 = wI (eS i).1 ∧ wL (eS i).2.1 = wL (eS i).1
section Zx
variable {nS s : Nat} {eS : Nat → TS} {c a b l k v x y : Int32}
theorem LB_n (L : LBs nS eS) (ok : okK c a b) : LBs (nS + 1) (upS eS nS (thI c a b)) := by
  intro i hi
  by_cases q : i = nS
  · rw [q, upS_eq]
    refine ⟨fun z => ?_, rfl, rfl⟩
    have z : c = 2 := z
    rw [show (thI c a b).2.2.2.2.1 = a from if_pos z]
    unfold okK at ok
    rw [z, show (2 : Int32).toInt = 2 from rfl] at ok
    omega
  · rw [upS_ne q]
    exact L i (by omega)
theorem LB_p (L : LBs nS eS) : LBs nS (upS eS s (tsP (eS s) l k v)) := by
  intro i hi
  by_cases q : i = s
  · subst q
    rw [upS_eq]
    obtain ⟨l1, l2, l3⟩ := L i hi
    unfold tsP
    by_cases z : l = 0
    · rw [if_pos z]
      obtain ⟨c1, c2⟩ := pCh_il (w := (eS i).1) (k := k) (v := v)
      exact ⟨fun w => l1 (c1.symm.trans w), l2.trans c1.symm, l3.trans c2.symm⟩
    · rw [if_neg z]
      obtain ⟨c1, c2⟩ := pCh_il (w := (eS i).2.1) (k := k) (v := v)
      exact ⟨l1, c1.trans l2, c2.trans l3⟩
  · rw [upS_ne q]
    exact L i hi
theorem LB_m (L : LBs nS eS) : LBs nS (upS eS s ((eS s).1, (eS s).2.1, x, y, (eS s).2.2.2.2)) := by
  intro i hi
  by_cases q : i = s
  · subst q
    rw [upS_eq]
    exact L i hi
  · rw [upS_ne q]
    exact L i hi
end Zx
