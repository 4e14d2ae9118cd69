/-! the nodes of a new process in the reference -/
section Zo
variable {B : Nat} {σ σ' : rS} {l2 l4 : List AV}
theorem sq_r : ∀ (j : Nat) (c : Int32), sq σ (j + 1) c = nx1 σ (sq σ j c)
  | 0, _ => rfl
  | j + 1, c => sq_r j (nx1 σ c)
theorem NB_KR (D : DI σ) (K : KR σ σ' B) (hB : 4000 ≤ B ∧ B + (σ.1 19).toInt.toNat ≤ 24000) : NB (kT σ l2 l4) B σ' := by
  refine ⟨hB, fun v hv => ?_⟩
  have v0 := hv.1
  have v1 : v.toInt < ((σ.1 19).toInt.toNat : Int) := hv.2
  have d0 := D.1
  obtain ⟨k1, k2, k3, k4, k5⟩ := K v.toInt.toNat (by omega)
  have c0 : ch σ v.toInt 0 = ia σ 11 v.toInt.toNat := rfl
  have kc : ∀ i, kC (kT σ l2 l4) v i = ch σ v.toInt i := fun i => by
    show ch σ ((v.toInt.toNat : Nat) : Int) i = ch σ v.toInt i
    rw [show ((v.toInt.toNat : Nat) : Int) = v.toInt by omega]
  have km : kf (kT σ l2 l4) 6 v = ia σ 10 v.toInt.toNat := rfl
  have sm1 : ∀ x : Int, x = -1 → sh B x = -1 := fun x hx => by unfold sh; rw [if_pos (by omega)]
  have sp : ∀ x : Int, 0 ≤ x → sh B x = B + x := fun x hx => by unfold sh; rw [if_neg (by omega)]
  refine ⟨k1, k2, k3, fun m0 => ?_, fun m0 => ?_, fun i hi => ?_⟩
  · rw [km] at m0
    have := (DI_ch D v0 (by omega) 0).2 (by rw [m0]; decide)
    refine Int32.toInt_inj.mp ?_
    rw [k4, sm1 _ (by rw [← c0, this]; rfl)]
    rfl
  · rw [km] at m0
    obtain ⟨g1, -⟩ := (DI_ch D v0 (by omega) 0).1 (by show (0 : Int) < _; omega)
    rw [k4, kc, ← c0, sp _ g1]
  · rw [km] at hi
    obtain ⟨g1, g2, -⟩ := (DI_ch D v0 (by omega) i).1 hi
    have nm : ¬ ch σ v.toInt i = -1 := fun q => by rw [q] at g1; exact absurd g1 (by decide)
    have cn : ch σ v.toInt (i + 1) = ia σ 12 (ch σ v.toInt i).toInt.toNat := (sq_r i _).trans (by
      show nx1 σ (ch σ v.toInt i) = _
      unfold nx1
      rw [if_neg nm])
    obtain ⟨-, -, -, -, q5⟩ := K (ch σ v.toInt i).toInt.toNat (by omega)
    rw [kc, q5, ← cn, km]
    by_cases c : (i : Int) + 1 < (ia σ 10 v.toInt.toNat).toInt
    · obtain ⟨g3, -⟩ := (DI_ch D v0 (by omega) (i + 1)).1 (by omega)
      rw [if_pos c, kc, sp _ g3]
    · have := (DI_ch D v0 (by omega) (i + 1)).2 (by omega)
      rw [if_neg c, sm1 _ (by rw [this]; rfl)]
end Zo
