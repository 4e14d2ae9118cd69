/-! CLASS AND REFERENCE SIDE BY SIDE -/
/-- the class's own cells lie above o -/
def AB (o nS : Nat) (PS : Nat → Nat) (nU : Nat) (U : Nat → UD) (nD : Nat) (PD : Nat → Nat) : Prop := (∀ i, i < nS → o < PS i) ∧ (∀ j, j < nU → o < (U j).1 ∧ ∀ i, i < (U j).2.2.1 → o < (U j).2.2.2.1 i) ∧ ∀ i, i < nD → o < PD i
/-- what is not the class's may change -/
def FR (x o : Nat) (h h' : ah_H) : Prop := (∀ q, (x ≤ q ∧ q < x + 656) ∨ (o < q ∧ q < h.2.1) → h'.1 q = h.1 q) ∧ h.2.1 ≤ h'.2.1
def XR (x m o : Nat) (σ : rS) (h : ah_H) : Prop := ∃ (c : SCR) (τ : TD) (nS : Nat) (PS : Nat → Nat) (eS : Nat → TS) (nU : Nat) (U : Nat → UD) (nD : Nat) (PD : Nat → Nat) (dc da db : Nat → Int32) (Bf Vf : Nat → Nat) (hf : Nat → Nat → Nat), KI x (c, τ, (nS, PS, eS), (nU, U), nD, PD, fun i => thI (dc i) (da i) (db i)) h ∧ AB o nS PS nU U nD PD ∧ RQ nS eS nU U τ nD dc da db Bf Vf hf σ ∧ pTall σ ∧ DXp x σ h ∧ (x + 656 ≤ m ∧ m + 39 < o)
section Zzg
variable {x m o nS nU nD : Nat} {PS PD : Nat → Nat} {eS eD : Nat → TS} {U : Nat → UD} {c : SCR} {τ : TD} {dc da db : Nat → Int32} {Bf Vf : Nat → Nat} {hf : Nat → Nat → Nat} {σ σ' σ2 : rS} {h h' h1 h2 : ah_H} {l2 l4 : List AV}
theorem FR_tr (a : FR x o h h1) (b : FR x o h1 h2) : FR x o h h2 := ⟨fun q hq => (b.1 q (by have := a.2; omega)).trans (a.1 q hq), Nat.le_trans a.2 b.2⟩
theorem FR_0 : FR x o h h := ⟨fun _ _ => rfl, Nat.le_refl _⟩
theorem FR_x {k : Nat} (hx : x + 656 ≤ h.2.1) : FR x o h (ah_new h (k, []) 6) := ⟨fun q hq => nw_ne (by omega) rfl, Nat.le_succ _⟩
theorem FR_o {v : ah_O} (hx : x + 656 ≤ o) : FR x o h (ah_up h o v) := ⟨fun q hq => up_ne (by omega) rfl, Nat.le_refl _⟩
theorem FR_r (H : RH m σ h h') (hx : x + 656 ≤ m ∧ m + 39 < o) : FR x o h h' := ⟨fun q hq => H.2.2.1 q (by omega), by rw [H.2.2.2.1]; exact Nat.le_refl _⟩
theorem FN_f (f : FR x o h h') : FN x h h' := fun q h1 h2 => f.1 q (Or.inl ⟨by omega, by omega⟩)
theorem FN_tr (a : FN x h h1) (b : FN x h1 h2) : FN x h h2 := fun q g1 g2 => (b q g1 g2).trans (a q g1 g2)
theorem DXp_f (X : DXp x σ h) (f : FN x h h') : DXp x σ h' := by
  obtain ⟨l2, l4, a, b, c⟩ := X
  exact ⟨l2, l4, (f _ (by omega) (by omega)).trans a, (f _ (by omega) (by omega)).trans b, c⟩
theorem KI_fr (K : KI x (c, τ, (nS, PS, eS), (nU, U), nD, PD, eD) h) (A : AB o nS PS nU U nD PD) (f : FR x o h h') : KI x (c, τ, (nS, PS, eS), (nU, U), nD, PD, eD) h' := by
  obtain ⟨k1, k2, k3, k4, k5, k6⟩ := K
  have k6 : SPp x h.2.1 nS PS nU U nD PD := k6
  obtain ⟨s0, s1, s2, s3, -⟩ := id k6
  obtain ⟨a1, a2, a3⟩ := A
  obtain ⟨k, hB⟩ := f
  have th : ∀ (n : Nat) (P : Nat → Nat), bdT x h.2.1 n P → (∀ i, i < n → o < P i) → ∀ i, i < n → h'.1 (P i) = h.1 (P i) ∧ h'.1 (P i + 1) = h.1 (P i + 1) ∧ h'.1 (P i + 2) = h.1 (P i + 2) := fun n P b a i hi => by
    have := (b i hi).2
    have := a i hi
    exact ⟨k _ (by omega), k _ (by omega), k _ (by omega)⟩
  exact ⟨CLp_t k1 (fun q _ _ => k q (by omega)), CB_t k2 (fun q _ _ => k q (by omega)), THs_t k3 (k _ (by omega)) (k _ (by omega)) (th _ _ s1 a1), fun j hj => UHp_t (k4 j hj) (fun q q1 q2 => k q (by
    have := (s3 j hj).1.2
    have := (a2 j hj).1
    have q1 : (U j).1 ≤ q := q1
    have q2 : q < (U j).1 + 14 := q2
    omega)) (th _ _ (s3 j hj).2 (a2 j hj).2), THs_t k5 (k _ (by omega)) (k _ (by omega)) (th _ _ s2 a3), SPp_le k6 hB⟩
theorem DXp_t (g : TG σ σ') (X : DXp x σ h) : DXp x σ' h := by
  obtain ⟨l2, l4, a, b, c⟩ := X
  exact ⟨l2, l4, a, b, DX_t g c⟩
theorem DXp_0 (X : DXp x σ h) (h19 : σ'.1 19 = 0) (h21 : σ'.1 21 = 0) : DXp x σ' h := by
  obtain ⟨l2, l4, a, b, -⟩ := X
  have e0 : (0 : Int32).toInt = 0 := rfl
  exact ⟨l2, l4, a, b, ⟨fun k hk => by rw [h19, e0] at hk; omega, fun j hj => by rw [h21, e0] at hj; omega, fun _ => by rw [h19]; rfl⟩, fun k hk => by rw [h19, e0] at hk; omega⟩
theorem pTall_0 (h19 : σ'.1 19 = 0) : pTall σ' := fun k h0 h1 => by rw [h19, show (0 : Int32).toInt = 0 from rfl] at h1; omega
/-- a call that changes nothing but its code -/
theorem XR_n {e : Int32} (X : XR x m o σ h) (f : FR x o h h1) (H2 : RH m (sG σ 0 e) h1 h2) (H' : RH m σ' h1 h2) (g : TG σ σ') : XR x m o σ' h2 := by
  obtain ⟨c, τ, nS, PS, eS, nU, U, nD, PD, dc, da, db, Bf, Vf, hf, K, A, Q, p, dx, bd⟩ := X
  have f2 := FR_tr f (FR_r H' bd)
  exact ⟨c, τ, nS, PS, eS, nU, U, nD, PD, dc, da, db, Bf, Vf, hf, KI_fr K A f2, A, RQ_eq (eq_RH H2 H') (RQ_0 Q), pTall_t g p, DXp_t g (DXp_f dx (FN_f f2)), bd⟩
/-- any other call -/
theorem XR_c (K : KI x (c, τ, (nS, PS, eS), (nU, U), nD, PD, fun i => thI (dc i) (da i) (db i)) h1) (A : AB o nS PS nU U nD PD) (Q : RQ nS eS nU U τ nD dc da db Bf Vf hf σ2) (H2 : RH m σ2 h1 h2) (H' : RH m σ' h1 h2) (p : pTall σ') (dx : DXp x σ' h1) (bd : x + 656 ≤ m ∧ m + 39 < o) : XR x m o σ' h2 := ⟨c, τ, nS, PS, eS, nU, U, nD, PD, dc, da, db, Bf, Vf, hf, KI_fr K A (FR_r H' bd), A, RQ_eq (eq_RH H2 H') Q, p, DXp_f dx (FN_f (FR_r H' bd)), bd⟩
end Zzg
