/-! GOOD TREES: statements -/
section Xk
variable {σ : rS} {l2 l4 : List AV} {v k : Int32} {n nS' : Nat} {kS' kV : Nat → Int32 × Int32} {eS' : Nat → TS}
/-- it always goes somewhere -/
theorem tk_U (D : DI σ) (hv : rgN (kT σ l2 l4) v) : xU (kT σ l2 l4) v = -1 ∨ (rgN (kT σ l2 l4) (xU (kT σ l2 l4) v) ∧ v.toInt < (xU (kT σ l2 l4) v).toInt) := by
  have r := (kT_r D).mp hv
  have e : xU (kT σ l2 l4) v = ia σ 13 v.toInt.toNat := if_pos hv
  obtain ⟨-, -, -, d4, -⟩ := D.2.2.2.2.1 v.toInt r.1 r.2
  rcases d4 with q | ⟨q1, q2⟩
  · exact Or.inl (by rw [e]; exact eq_m1 q)
  · rw [e]
    exact Or.inr ⟨(kT_r D).mpr ⟨by omega, q2⟩, by omega⟩
/-- a parent is taller -/
def pTall (σ : rS) : Prop := ∀ k : Int, 0 ≤ k → k < (σ.1 19).toInt → (ia σ 13 k.toNat).toInt = -1 ∨ (ia σ 14 k.toNat).toInt + 1 ≤ (ia σ 14 (ia σ 13 k.toNat).toInt.toNat).toInt
theorem tk_t (PT : pTall σ) (D : DI σ) (hv : rgN (kT σ l2 l4) v) (hn : ¬ xU (kT σ l2 l4) v = -1) : (ia σ 14 v.toInt.toNat).toInt + 1 ≤ (ia σ 14 (xU (kT σ l2 l4) v).toInt.toNat).toInt := by
  have r := (kT_r D).mp hv
  have e : xU (kT σ l2 l4) v = ia σ 13 v.toInt.toNat := if_pos hv
  rcases PT v.toInt r.1 r.2 with q | q
  · exact absurd (by rw [e]; exact eq_m1 q) hn
  · rw [e]
    exact q
theorem xU_m : xU (kT σ l2 l4) (-1) = -1 := if_neg (fun q => absurd q.1 (by decide))
theorem tk_GT (OK : ∀ j : Int, 0 ≤ j → j < (σ.1 19).toInt → okN σ j) (PT : pTall σ) (D : DI σ) : GT (kT σ l2 l4) := by
  have key : ∀ (n : Nat) (l p : Int32), (rgN (kT σ l2 l4) l → 100 < (ia σ 14 l.toInt.toNat).toInt + n) → ∃ g, gto (kT σ l2 l4) (n + 1) l p = some g := by
    intro n
    induction n with
    | zero =>
      intro l p hl
      unfold gto
      by_cases c1 : xCh (kT σ l2 l4) l p = -1
      · rw [if_pos c1]
        by_cases c2 : xU (kT σ l2 l4) l = -1
        · rw [if_pos c2]
          exact ⟨_, rfl⟩
        · exfalso
          have hr : rgN (kT σ l2 l4) l := by
            by_cases q : rgN (kT σ l2 l4) l
            · exact q
            · exact absurd (if_neg q) c2
          have := (ok_ri OK D hr).1
          have := hl hr
          omega
      · rw [if_neg c1]
        exact ⟨_, rfl⟩
    | succ n ih =>
      intro l p hl
      unfold gto
      by_cases c1 : xCh (kT σ l2 l4) l p = -1
      · rw [if_pos c1]
        by_cases c2 : xU (kT σ l2 l4) l = -1
        · rw [if_pos c2]
          exact ⟨_, rfl⟩
        · rw [if_neg c2]
          by_cases c3 : isLp (xK (kT σ l2 l4) (xU (kT σ l2 l4) l)) = true
          · rw [if_pos c3]
            exact ⟨_, rfl⟩
          · rw [if_neg c3]
            have hr : rgN (kT σ l2 l4) l := by
              by_cases q : rgN (kT σ l2 l4) l
              · exact q
              · exact absurd (if_neg q) c2
            have h1 := tk_t PT D hr c2
            have hu := ((tk_U D hr).resolve_left c2).1
            have hl' := hl hr
            -- the one that is done
            have dn : ∀ w, (rgN (kT σ l2 l4) w → (ia σ 14 l.toInt.toNat).toInt + 1 ≤ (ia σ 14 w.toInt.toNat).toInt) → rgN (kT σ l2 l4) (xU (kT σ l2 l4) w) → 100 < (ia σ 14 (xU (kT σ l2 l4) w).toInt.toNat).toInt + n := fun w hw hq => by
              have nw : ¬ xU (kT σ l2 l4) w = -1 := fun q => by rw [q] at hq; exact absurd hq.1 (by decide)
              have wr : rgN (kT σ l2 l4) w := by
                by_cases q : rgN (kT σ l2 l4) w
                · exact q
                · exact absurd (if_neg q) nw
              have := tk_t PT D wr nw
              have := hw wr
              omega
            by_cases c4 : xK (kT σ l2 l4) (xU (kT σ l2 l4) l) = 36
            · rw [if_pos c4]
              refine ih _ _ (dn _ (fun hw => ?_))
              have nw : ¬ xU (kT σ l2 l4) (xU (kT σ l2 l4) l) = -1 := fun q => by rw [q] at hw; exact absurd hw.1 (by decide)
              have := tk_t PT D hu nw
              omega
            · rw [if_neg c4]
              exact ih _ _ (dn _ (fun _ => h1))
      · rw [if_neg c1]
        exact ⟨_, rfl⟩
  intro l p
  refine key 100 l p (fun hl => ?_)
  have r := (kT_r D).mp hl
  have := (D.2.2.2.2.1 l.toInt r.1 r.2).2.2.2.2.1
  omega
end Xk
