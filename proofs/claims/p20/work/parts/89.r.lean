/-! THE NUMBERS OF A THING -/
def sF (σ : rS) (i : Nat) : Nat → Int32
  | 0 => ia σ 0 i
  | 1 => if ia σ 0 i = 1 then ia σ 1 i else 1
  | 2 => if ia σ 0 i = 2 then ia σ 2 i else 0
  | _ => if ia σ 0 i = 2 then ia σ 3 i else 8
section Pk
variable {lim : Nat × Nat} {d : Nat} {κ : kM} {h : ah_H}
theorem n_Things_pick {a rw n : Nat} {c i : Int32} {row : List AV} (e : h.1 a = some (8, [aR rw, aI c])) (er : h.1 rw = some (117, row)) (hl : row.length = n) (hn : n ≤ 4000) (hc : c.toInt ≤ n) (ok : ∀ i, i < n → ∃ r, row[i]? = some (.inr (.inr r)) ∧ ∀ t, r = some t → κ t = some (7, 0)) : wq (vc lim (d + 1) m_Things_pick [.inr (.inr (some a)), .inl i] h) (rR fun r h' => h' = h ∧ ((0 ≤ i.toInt ∧ i.toInt < c.toInt ∧ row[i.toInt.toNat]? = some (.inr (.inr r))) ∨ (¬ (0 ≤ i.toInt ∧ i.toInt < c.toInt) ∧ r = none))) := by
  have e0 : (0 : Int32).toInt = 0 := rfl
  refine wq_eq e_Things_pick (wq_if _ (fun c1 => wq_some (rR_i ⟨rfl, Or.inr ⟨?_, rfl⟩⟩)) (fun c1 => wq_gI e rfl (wq_if _ (fun c2 => ?_) (fun c2 => wq_some (rR_i ⟨rfl, Or.inr ⟨?_, rfl⟩⟩)))))
  · have := lt_i c1
    omega
  · have g1 := nlt_i c1
    have g2 := lt_i c2
    refine wq_gR e rfl (wq_len er (by decide) ?_)
    rw [hl]
    have hm : (Nat.toInt32 n).toInt = n := i32n (by omega)
    refine wq_if _ (fun c3 => wq_gR e rfl ?_) (fun c3 => ?_)
    · obtain ⟨r, hr, -⟩ := ok i.toInt.toNat (by omega)
      exact wq_lR er (by decide) c1 hr (wq_some (rR_i ⟨rfl, Or.inl ⟨by omega, g2, hr⟩⟩))
    · exfalso
      have := nlt_i c3
      omega
  · have := nlt_i c2
    omega
end Pk
