/-! THE LAW'S LOOP -/
section Lo
variable {lim : Nat × Nat} {t d b x m o L : Nat} {xs : Nat → Int32} {κ : kM} {σ : rS} {h : ah_H} {v4 : Int32}
theorem LB_H {K : Nat} (B : LB b x m o L xs K κ σ h) : RH m σ h h := B.2.2.2.2.2.2.2.1
theorem LB_R {K : Nat} (B : LB b x m o L xs K κ σ h) : RI σ := B.2.2.2.2.2.2.2.2.1
/-- room for the calls that are left -/
def rmT (lim : Nat × Nat) (t : Nat) (h : ah_H) : Prop := h.2.1 + 20 * (512 - t) ≤ lim.1 ∧ h.2.2.1 + 6000 * (512 - t) ≤ lim.2
/-- the call's place in the script -/
def ixT (v4 : Int32) (t L : Nat) : Prop := v4.toInt = (5 * t : Nat) ∧ 5 * t + 5 ≤ L ∧ L ≤ 2560
theorem rmT_1 (R : rmT lim t h) (I : ixT v4 t L) : h.2.1 + 20 ≤ lim.1 ∧ h.2.2.1 + 6000 ≤ lim.2 := by
  obtain ⟨r1, r2⟩ := R
  obtain ⟨-, i2, i3⟩ := I
  omega
theorem rmT_0 (R : rmT lim t h) (I : ixT v4 t L) : rm lim h := by
  have := rmT_1 R I
  exact ⟨by omega, by omega⟩
theorem ir1 (I : ixT v4 t L) : 0 ≤ (v4 + (1 : Int32)).toInt ∧ (v4 + (1 : Int32)).toInt < L := by
  obtain ⟨i1, i2, i3⟩ := I
  have e : (1 : Int32).toInt = 1 := rfl
  rw [ad_i (by omega) (by omega), e]
  omega
theorem ir2 (I : ixT v4 t L) : 0 ≤ (v4 + (2 : Int32)).toInt ∧ (v4 + (2 : Int32)).toInt < L := by
  obtain ⟨i1, i2, i3⟩ := I
  have e : (2 : Int32).toInt = 2 := rfl
  rw [ad_i (by omega) (by omega), e]
  omega
theorem ir3 (I : ixT v4 t L) : 0 ≤ (v4 + (3 : Int32)).toInt ∧ (v4 + (3 : Int32)).toInt < L := by
  obtain ⟨i1, i2, i3⟩ := I
  have e : (3 : Int32).toInt = 3 := rfl
  rw [ad_i (by omega) (by omega), e]
  omega
theorem ir4 (I : ixT v4 t L) : 0 ≤ (v4 + (4 : Int32)).toInt ∧ (v4 + (4 : Int32)).toInt < L := by
  obtain ⟨i1, i2, i3⟩ := I
  have e : (4 : Int32).toInt = 4 := rfl
  rw [ad_i (by omega) (by omega), e]
  omega
theorem sv_ss {σ σ' : rS} {h9 : ah_H} (R : RI σ) (g : SS σ σ') (S : sg0 x (sv σ) h9) : sg0 x (sv σ') h9 := by
  have n2 := R.2.2.2.1.1.2.1
  refine sg0_sv S g.1 (fun j i hj hi => sF_e (fun j hj => g.2 j i hj ?_) j)
  have hi : (i : Int) < (σ.1 7).toInt := hi
  omega
theorem sv_ref {σ σ' : rS} {h9 : ah_H} (R : RI σ) (g : SG σ σ') (S : sgR x (sv σ) h9) : sgR x (sv σ') h9 := ⟨sv_ss R (SG_s g) S.1, CR_eq R S.2.1 g.2.2, PR_t R S.2.2 g.2.2⟩
/-- the next round -/
def nxT (lim : Nat × Nat) (d b x m o L : Nat) (xs : Nat → Int32) (t : Nat) (v4 : Int32) : Prop := ∀ (κ : kM) (σ : rS) (h : ah_H), LB b x m o L xs (t + 1) κ σ h → sgR x (sv σ) h → XR x m o σ h → rmT lim (t + 1) h → wq (ah_val lim ah_P (d + 230) 278 972 [some (.inr (.inr (some b))), some (.inr (.inr (some x))), some (.inr (.inr (some m))), some (.inr (.inr (some o))), some (.inl v4), none, none, none] [] h) (rI fun z _ => z = 1)
theorem kN {h4 h9 : ah_H} {σ' : rS} (B : LB b x m o L xs (t + 1) κ σ h4) (S : sgR x (sv σ) h4) (H9 : RH m σ' h4 h9) (R9 : RI σ') (g : SG σ σ') (X9 : XR x m o σ' h9) (R : rmT lim t h) (I : ixT v4 t L) (r1 : h4.2.1 ≤ h.2.1 + 20) (r2 : h4.2.2.1 ≤ h.2.2.1 + 6000) (K : nxT lim d b x m o L xs t v4) : wq (ah_val lim ah_P (d + 230) 278 972 [some (.inr (.inr (some b))), some (.inr (.inr (some x))), some (.inr (.inr (some m))), some (.inr (.inr (some o))), some (.inl v4), none, none, none] [] h9) (rI fun z _ => z = 1) := by
  refine K κ σ' h9 (LB_ref B H9 R9) (sv_ref (LB_R B) g (sgR_ref B S H9)) X9 ?_
  obtain ⟨q1, q2⟩ := R
  have ht : t < 512 := by obtain ⟨-, i2, i3⟩ := I; omega
  exact ⟨by rw [H9.2.2.2.1]; omega, by rw [H9.2.2.2.2]; omega⟩
end Lo
