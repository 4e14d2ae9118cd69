/-! TWO READINGS OF THE SAME CELLS -/
/-- what the cells say -/
def eqS (σ σ' : rS) : Prop := (∀ k, k = 0 ∨ (7 ≤ k ∧ k ≤ 9) ∨ k = 19 ∨ (21 ≤ k ∧ k ≤ 23) ∨ k = 46 ∨ k = 47 → σ'.1 k = σ.1 k) ∧ (∀ j i, j < 39 → i < rn j → ¬ rk j = 101 → ia σ' j i = ia σ j i) ∧ ∀ j i, j < 39 → i < rn j → rk j = 101 → ja σ' j i = ja σ j i
section Zma
variable {lim : Nat × Nat} {d m N nD fv B P : Nat} {σ σ' : rS} {b b' bb h : ah_H} {dc da db : Nat → Int32}
theorem eq_RH (H : RH m σ b h) (H' : RH m σ' b' h) : eqS σ σ' := by
  have e0 := H.1.symm.trans H'.1
  have e1 : RF m σ.1 σ.2.1 = RF m σ'.1 σ'.2.1 := congrArg (fun z => z.2) (Option.some.inj e0)
  have ej : ∀ j i, j < 39 → i < rn j → (if rk j = 101 then aJ (ja σ j i) else aI (ia σ j i)) = (if rk j = 101 then aJ (ja σ' j i) else aI (ia σ' j i)) := by
    intro j i hj hi
    have q := (H.2.1 j hj).symm.trans (H'.2.1 j hj)
    have q : rl σ j = rl σ' j := congrArg (fun z => z.2) (Option.some.inj q)
    have q := congrArg (fun l : List AV => l[i]?) q
    have q : ((List.range (rn j)).map fun i => if rk j = 101 then aJ (ja σ j i) else aI (ia σ j i))[i]? = ((List.range (rn j)).map fun i => if rk j = 101 then aJ (ja σ' j i) else aI (ia σ' j i))[i]? := q
    rw [rm_get hi, rm_get hi] at q
    exact Option.some.inj q
  refine ⟨fun k hk => ?_, fun j i hj hi n => ?_, fun j i hj hi y => ?_⟩
  · have g : ∀ (k : Nat) (x y : Int32), (RF m σ.1 σ.2.1)[k]? = some (aI x) → (RF m σ'.1 σ'.2.1)[k]? = some (aI y) → y = x := fun k x y p q => by
      rw [e1, q] at p
      exact (Sum.inl.inj (Option.some.inj p))
    rcases hk with rfl | ⟨h1, h2⟩ | rfl | ⟨h1, h2⟩ | rfl | rfl
    · exact g 0 _ _ rfl rfl
    · rcases (show k = 7 ∨ k = 8 ∨ k = 9 by omega) with rfl | rfl | rfl
      · exact g 7 _ _ rfl rfl
      · exact g 8 _ _ rfl rfl
      · exact g 9 _ _ rfl rfl
    · exact g 19 _ _ rfl rfl
    · rcases (show k = 21 ∨ k = 22 ∨ k = 23 by omega) with rfl | rfl | rfl
      · exact g 21 _ _ rfl rfl
      · exact g 22 _ _ rfl rfl
      · exact g 23 _ _ rfl rfl
    · exact g 46 _ _ rfl rfl
    · exact g 47 _ _ rfl rfl
  · have q := ej j i hj hi
    rw [if_neg n, if_neg n] at q
    exact (Sum.inl.inj q).symm
  · have q := ej j i hj hi
    rw [if_pos y, if_pos y] at q
    exact (Sum.inl.inj (Sum.inr.inj q)).symm
theorem wq_aV {A : Option ah_R} {P Q : ah_H → Prop} (a : wq A (rV P)) (c : wq A (rV Q)) : wq A (rV fun h => P h ∧ Q h) := by
  obtain ⟨z, e, h1, rfl, p⟩ := a
  obtain ⟨z2, e2, h2, e3, q⟩ := c
  rw [e] at e2
  cases e2
  cases e3
  exact ⟨_, e, h1, rfl, p, q⟩
theorem r_keep_2 (H : RH m σ bb h) (R : RI σ) (hB0 : byE σ) (D : DRx nD dc da db σ) (h8 : (σ.1 8).toInt = fv) (h9 : (σ.1 9).toInt = nD) (f8 : fv + nD ≤ 8192) (h19 : (σ.1 19).toInt = N) (hN4 : N ≤ 4000) (h22 : (σ.1 22).toInt + 4000 = B) (hBN : B + N ≤ 24000) (h23 : (σ.1 23).toInt = P) (hP : P < 64) : wq (vc lim (d + 3) m_Ref_keep [aR m] h) (rV fun h' => ∃ σ', RH m σ' bb h' ∧ sm (kpQ B N P fv nD) σ σ' ∧ VMx fv nD dc da db σ' ∧ byE σ' ∧ ia σ' 23 P = 0 ∧ (ia σ' 16 P).toInt = B ∧ ∃ σ1, kpP σ σ1 B N P ∧ eqS σ1 σ') := by
  refine wq_mono (wq_aV (r_keep_s H hB0 D h8 h9 f8 h19 hN4 h22 hBN h23 hP) (f_keep H R h19 h23 hP h22 hBN)) ?_
  rintro z ⟨h', rfl, ⟨σ', H', k1, k2, k3, k4, k5⟩, σ1, H1, k6⟩
  exact ⟨h', rfl, σ', H', k1, k2, k3, k4, k5, σ1, k6, eq_RH H1 H'⟩
end Zma
