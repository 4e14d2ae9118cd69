-- shifted
/-! THE LAW'S LOOP -/
section Lo
variable {lim : Nat × Nat} {t d b x m o L : Nat} {xs : Nat → Int32} {κ : kM} {σ : rS} {h : ah_H} {v4 : Int32}
theorem LB_H {K : Nat} (B : LB b x m o L xs K κ σ h) : RH m σ h h := B.2.2.2.2.2.2.2.1
theorem LB_R {K : Nat} (B : LB b x m o L xs K κ σ h) : RI σ := B.2.2.2.2.2.2.2.2.1
/-- room for the calls that are left -/
def rmT (lim : Nat × Nat) (t : Nat) (h : ah_H) : Prop := h.2.1 + 20 * (512 - t) ≤ lim.1 ∧ h.2.2.1 + 6000 * (512 - t) ≤ lim.2
/-- the call's place in the script -/
def ixT (v4 : Int32) (t L : Nat) : Prop := v4.toInt = (5 * t : Nat) ∧ 5 * t + 5 ≤ L ∧ L ≤ 2560
theorem rmT_1 (R : rmT lim t h) (I : ixT v4 t L) : h.2.1 + 20 ≤ lim.1 ∧ h.2.2.1 + 6000 ≤ lim.2 := by
  obtain ⟨r1, r2⟩ := R
  obtain ⟨-, i2, i3⟩ := I
  omega
theorem rmT_0 (R : rmT lim t h) (I : ixT v4 t L) : rm lim h := by
  have := rmT_1 R I
  exact ⟨by omega, by omega⟩
theorem ir1 (I : ixT v4 t L) : 0 ≤ (v4 + (1 : Int32)).toInt ∧ (v4 + (1 : Int32)).toInt < L := by
  obtain ⟨i1, i2, i3⟩ := I
  have e : (1 : Int32).toInt = 1 := rfl
  rw [ad_i (by omega) (by omega), e]
  omega
theorem ir2 (I : ixT v4 t L) : 0 ≤ (v4 + (2 : Int32)).toInt ∧ (v4 + (2 : Int32)).toInt < L := by
  obtain ⟨i1, i2, i3⟩ := I
  have e : (2 : Int32).toInt = 2 := rfl
  rw [ad_i (by omega) (by omega), e]
  omega
theorem ir3 (I : ixT v4 t L) : 0 ≤ (v4 + (3 : Int32)).toInt ∧ (v4 + (3 : Int32)).toInt < L := by
  obtain ⟨i1, i2, i3⟩ := I
  have e : (3 : Int32).toInt = 3 := rfl
  rw [ad_i (by omega) (by omega), e]
  omega
theorem ir4 (I : ixT v4 t L) : 0 ≤ (v4 + (4 : Int32)).toInt ∧ (v4 + (4 : Int32)).toInt < L := by
  obtain ⟨i1, i2, i3⟩ := I
  have e : (4 : Int32).toInt = 4 := rfl
  rw [ad_i (by omega) (by omega), e]
  omega
theorem sv_ss {σ σ' : rS} {h9 : ah_H} (R : RI σ) (g : SS σ σ') (S : sg0 x (sv σ) h9) : sg0 x (sv σ') h9 := by
  have n2 := R.2.2.2.1.1.2.1
  refine sg0_sv S g.1 (fun j i hj hi => sF_e (fun j hj => g.2 j i hj ?_) j)
  have hi : (i : Int) < (σ.1 7).toInt := hi
  omega
theorem sv_ref {σ σ' : rS} {h9 : ah_H} (R : RI σ) (g : SG σ σ') (S : sgR x (sv σ) h9) : sgR x (sv σ') h9 := ⟨sv_ss R (SG_s g) S.1, CR_eq R S.2 g.2.2⟩
/-- the next round -/
def nxT (lim : Nat × Nat) (d b x m o L : Nat) (xs : Nat → Int32) (t : Nat) (v4 : Int32) : Prop := ∀ (κ : kM) (σ : rS) (h : ah_H), LB b x m o L xs (t + 1) κ σ h → sgR x (sv σ) h → rmT lim (t + 1) h → wq (ah_val lim ah_P (d + 230) 277 945 [some (.inr (.inr (some b))), some (.inr (.inr (some x))), some (.inr (.inr (some m))), some (.inr (.inr (some o))), some (.inl v4), none, none, none] [] h) (rI fun z _ => z = 1)
theorem kN {h4 h9 : ah_H} (B : LB b x m o L xs (t + 1) κ σ h4) (S : sgR x (sv σ) h4) (hp : rP m σ h4 h9) (R : rmT lim t h) (I : ixT v4 t L) (r1 : h4.2.1 ≤ h.2.1 + 20) (r2 : h4.2.2.1 ≤ h.2.2.1 + 6000) (K : nxT lim d b x m o L xs t v4) : wq (ah_val lim ah_P (d + 230) 277 945 [some (.inr (.inr (some b))), some (.inr (.inr (some x))), some (.inr (.inr (some m))), some (.inr (.inr (some o))), some (.inl v4), none, none, none] [] h9) (rI fun z _ => z = 1) := by
  obtain ⟨σ', H9, R9, g⟩ := hp
  refine K κ σ' h9 (LB_ref B H9 R9) (sv_ref (LB_R B) g (sgR_ref B S H9)) ?_
  obtain ⟨q1, q2⟩ := R
  have ht : t < 512 := by obtain ⟨-, i2, i3⟩ := I; omega
  exact ⟨by rw [H9.2.2.2.1]; omega, by rw [H9.2.2.2.2]; omega⟩
theorem k_get (B : LB b x m o L xs t κ σ h) (S : sgR x (sv σ) h) (R : rmT lim t h) (I : ixT v4 t L) (K : nxT lim d b x m o L xs t v4) : wq (ah_val lim ah_P (d + 230) 277 471 [some (.inr (.inr (some b))), some (.inr (.inr (some x))), some (.inr (.inr (some m))), some (.inr (.inr (some o))), some (.inl v4), none, none, none] [] h) (rI fun z _ => z = 1) := by
  refine wq_eq q_277_471 (L_rd B (ir1 I).1 (ir1 I).2 (L_rd B (ir2 I).1 (ir2 I).2 (wq_cI (L_get (d := d + 209) B S (rmT_0 R I)) ?_)))
  rintro i h4 ⟨κ', B4, S4, r1, r2⟩
  refine (L_rd B4 (ir1 I).1 (ir1 I).2 (L_rd B4 (ir2 I).1 (ir2 I).2 (wq_at (LB_H B4).1 (wq_cI (v_get (d := d + 227) (LB_H B4) (LB_R B4)) ?_))))
  rintro y h9 hp
  exact kN B4 S4 hp R I r1 r2 K
theorem k_set (B : LB b x m o L xs t κ σ h) (S : sgR x (sv σ) h) (R : rmT lim t h) (I : ixT v4 t L) (K : nxT lim d b x m o L xs t v4) : wq (ah_val lim ah_P (d + 230) 277 511 [some (.inr (.inr (some b))), some (.inr (.inr (some x))), some (.inr (.inr (some m))), some (.inr (.inr (some o))), some (.inl v4), none, none, none] [] h) (rI fun z _ => z = 1) := by
  refine wq_eq q_277_511 (L_rd B (ir1 I).1 (ir1 I).2 (L_rd B (ir2 I).1 (ir2 I).2 (L_rd B (ir3 I).1 (ir3 I).2 (L_rd B (ir4 I).1 (ir4 I).2 (wq_cI (L_set (d := d + 209) B S (rmT_0 R I)) ?_)))))
  rintro i h4 ⟨κ', B4, S4, r1, r2⟩
  refine (L_rd B4 (ir1 I).1 (ir1 I).2 (L_rd B4 (ir2 I).1 (ir2 I).2 (L_rd B4 (ir3 I).1 (ir3 I).2 (L_rd B4 (ir4 I).1 (ir4 I).2 (wq_at (LB_H B4).1 (wq_cV (v_set (d := d + 227) (LB_H B4) (LB_R B4)) ?_))))))
  rintro h9 hp
  exact kN B4 S4 hp R I r1 r2 K
theorem k_variableOf (B : LB b x m o L xs t κ σ h) (S : sgR x (sv σ) h) (R : rmT lim t h) (I : ixT v4 t L) (K : nxT lim d b x m o L xs t v4) : wq (ah_val lim ah_P (d + 230) 277 572 [some (.inr (.inr (some b))), some (.inr (.inr (some x))), some (.inr (.inr (some m))), some (.inr (.inr (some o))), some (.inl v4), none, none, none] [] h) (rI fun z _ => z = 1) := by
  refine wq_eq q_277_572 (L_rd B (ir1 I).1 (ir1 I).2 (L_rd B (ir2 I).1 (ir2 I).2 (L_rd B (ir3 I).1 (ir3 I).2 (wq_cI (L_variableOf (d := d + 209) B S (rmT_0 R I)) ?_))))
  rintro i h4 ⟨κ', B4, S4, r1, r2⟩
  refine (L_rd B4 (ir1 I).1 (ir1 I).2 (L_rd B4 (ir2 I).1 (ir2 I).2 (L_rd B4 (ir3 I).1 (ir3 I).2 (wq_at (LB_H B4).1 (wq_cI (v_variableOf (d := d + 227) (LB_H B4) (LB_R B4)) ?_)))))
  rintro y h9 hp
  exact kN B4 S4 hp R I r1 r2 K
theorem k_resume (B : LB b x m o L xs t κ σ h) (S : sgR x (sv σ) h) (R : rmT lim t h) (I : ixT v4 t L) (K : nxT lim d b x m o L xs t v4) : wq (ah_val lim ah_P (d + 230) 277 624 [some (.inr (.inr (some b))), some (.inr (.inr (some x))), some (.inr (.inr (some m))), some (.inr (.inr (some o))), some (.inl v4), none, none, none] [] h) (rI fun z _ => z = 1) := by
  refine wq_eq q_277_624 (L_rd B (ir1 I).1 (ir1 I).2 (L_rd B (ir2 I).1 (ir2 I).2 (wq_cI (L_resume (d := d + 209) B S (rmT_0 R I)) ?_)))
  rintro i h4 ⟨κ', B4, S4, r1, r2⟩
  refine (L_rd B4 (ir1 I).1 (ir1 I).2 (L_rd B4 (ir2 I).1 (ir2 I).2 (wq_at (LB_H B4).1 (wq_cI (v_resume (d := d + 5) (LB_H B4) (LB_R B4)) ?_))))
  rintro y h9 hp
  exact kN B4 S4 hp R I r1 r2 K
theorem k_holds (B : LB b x m o L xs t κ σ h) (S : sgR x (sv σ) h) (R : rmT lim t h) (I : ixT v4 t L) (K : nxT lim d b x m o L xs t v4) : wq (ah_val lim ah_P (d + 230) 277 664 [some (.inr (.inr (some b))), some (.inr (.inr (some x))), some (.inr (.inr (some m))), some (.inr (.inr (some o))), some (.inl v4), none, none, none] [] h) (rI fun z _ => z = 1) := by
  refine wq_eq q_277_664 (L_rd B (ir1 I).1 (ir1 I).2 (wq_cI (L_holds (d := d + 209) B S (rmT_0 R I)) ?_))
  rintro i h4 ⟨κ', B4, S4, r1, r2⟩
  refine (L_rd B4 (ir1 I).1 (ir1 I).2 (wq_at (LB_H B4).1 (wq_cI (v_holds (d := d + 5) (LB_H B4) (LB_R B4)) ?_)))
  rintro y h9 hp
  exact kN B4 S4 hp R I r1 r2 K
theorem k_about (B : LB b x m o L xs t κ σ h) (S : sgR x (sv σ) h) (R : rmT lim t h) (I : ixT v4 t L) (K : nxT lim d b x m o L xs t v4) : wq (ah_val lim ah_P (d + 230) 277 692 [some (.inr (.inr (some b))), some (.inr (.inr (some x))), some (.inr (.inr (some m))), some (.inr (.inr (some o))), some (.inl v4), none, none, none] [] h) (rI fun z _ => z = 1) := by
  refine wq_eq q_277_692 (L_rd B (ir1 I).1 (ir1 I).2 (L_rd B (ir2 I).1 (ir2 I).2 (wq_cI (L_about (d := d + 209) B S (rmT_0 R I)) ?_)))
  rintro i h4 ⟨κ', B4, S4, r1, r2⟩
  refine (L_rd B4 (ir1 I).1 (ir1 I).2 (L_rd B4 (ir2 I).1 (ir2 I).2 (wq_at (LB_H B4).1 (wq_cI (v_about (d := d + 228) (LB_H B4) (LB_R B4)) ?_))))
  rintro y h9 hp
  exact kN B4 S4 hp R I r1 r2 K
theorem k_waits (B : LB b x m o L xs t κ σ h) (S : sgR x (sv σ) h) (R : rmT lim t h) (I : ixT v4 t L) (K : nxT lim d b x m o L xs t v4) : wq (ah_val lim ah_P (d + 230) 277 732 [some (.inr (.inr (some b))), some (.inr (.inr (some x))), some (.inr (.inr (some m))), some (.inr (.inr (some o))), some (.inl v4), none, none, none] [] h) (rI fun z _ => z = 1) := by
  refine wq_eq q_277_732 (L_rd B (ir1 I).1 (ir1 I).2 (L_rd B (ir2 I).1 (ir2 I).2 (wq_cI (L_waits (d := d + 209) B S (rmT_0 R I)) ?_)))
  rintro i h4 ⟨κ', B4, S4, r1, r2⟩
  refine (L_rd B4 (ir1 I).1 (ir1 I).2 (L_rd B4 (ir2 I).1 (ir2 I).2 (wq_at (LB_H B4).1 (wq_cI (v_waits (d := d + 228) (LB_H B4) (LB_R B4)) ?_))))
  rintro y h9 hp
  exact kN B4 S4 hp R I r1 r2 K
theorem k_until (B : LB b x m o L xs t κ σ h) (S : sgR x (sv σ) h) (R : rmT lim t h) (I : ixT v4 t L) (K : nxT lim d b x m o L xs t v4) : wq (ah_val lim ah_P (d + 230) 277 772 [some (.inr (.inr (some b))), some (.inr (.inr (some x))), some (.inr (.inr (some m))), some (.inr (.inr (some o))), some (.inl v4), none, none, none] [] h) (rI fun z _ => z = 1) := by
  refine wq_eq q_277_772 (L_rd B (ir1 I).1 (ir1 I).2 (wq_cI (L_until (d := d + 209) B S (rmT_0 R I)) ?_))
  rintro i h4 ⟨κ', B4, S4, r1, r2⟩
  refine (L_rd B4 (ir1 I).1 (ir1 I).2 (wq_at (LB_H B4).1 (wq_cJ (v_until (d := d + 228) (LB_H B4) (LB_R B4)) ?_)))
  rintro y h9 hp
  exact kN B4 S4 hp R I r1 r2 K
theorem k_act (B : LB b x m o L xs t κ σ h) (S : sgR x (sv σ) h) (R : rmT lim t h) (I : ixT v4 t L) (K : nxT lim d b x m o L xs t v4) : wq (ah_val lim ah_P (d + 230) 277 813 [some (.inr (.inr (some b))), some (.inr (.inr (some x))), some (.inr (.inr (some m))), some (.inr (.inr (some o))), some (.inl v4), none, none, none] [] h) (rI fun z _ => z = 1) := by
  refine wq_eq q_277_813 (L_rd B (ir1 I).1 (ir1 I).2 (L_rd B (ir2 I).1 (ir2 I).2 (wq_cI (L_act (d := d + 209) B S (rmT_0 R I)) ?_)))
  rintro i h4 ⟨κ', B4, S4, r1, r2⟩
  refine (L_rd B4 (ir1 I).1 (ir1 I).2 (L_rd B4 (ir2 I).1 (ir2 I).2 (wq_at (LB_H B4).1 (wq_cI (v_act2 (d := d + 229) (LB_H B4) (LB_R B4)) ?_))))
  rintro y h9 hp
  exact kN B4 S4 hp R I r1 r2 K
theorem k_value (B : LB b x m o L xs t κ σ h) (S : sgR x (sv σ) h) (R : rmT lim t h) (I : ixT v4 t L) (K : nxT lim d b x m o L xs t v4) : wq (ah_val lim ah_P (d + 230) 277 853 [some (.inr (.inr (some b))), some (.inr (.inr (some x))), some (.inr (.inr (some m))), some (.inr (.inr (some o))), some (.inl v4), none, none, none] [] h) (rI fun z _ => z = 1) := by
  refine wq_eq q_277_853 (L_rd B (ir1 I).1 (ir1 I).2 (L_rd B (ir2 I).1 (ir2 I).2 (L_rd B (ir3 I).1 (ir3 I).2 (wq_cI (L_value (d := d + 209) B S (rmT_0 R I)) ?_))))
  rintro i h4 ⟨κ', B4, S4, r1, r2⟩
  refine (L_rd B4 (ir1 I).1 (ir1 I).2 (L_rd B4 (ir2 I).1 (ir2 I).2 (L_rd B4 (ir3 I).1 (ir3 I).2 (wq_at (LB_H B4).1 (wq_cI (v_value (d := d + 227) (LB_H B4) (LB_R B4)) ?_)))))
  rintro y h9 hp
  exact kN B4 S4 hp R I r1 r2 K
theorem k_delay (B : LB b x m o L xs t κ σ h) (S : sgR x (sv σ) h) (R : rmT lim t h) (I : ixT v4 t L) (K : nxT lim d b x m o L xs t v4) : wq (ah_val lim ah_P (d + 230) 277 905 [some (.inr (.inr (some b))), some (.inr (.inr (some x))), some (.inr (.inr (some m))), some (.inr (.inr (some o))), some (.inl v4), none, none, none] [] h) (rI fun z _ => z = 1) := by
  refine wq_eq q_277_905 (L_rd B (ir1 I).1 (ir1 I).2 (L_rd B (ir2 I).1 (ir2 I).2 (wq_cI (L_delay (d := d + 209) B S (rmT_0 R I)) ?_)))
  rintro i h4 ⟨κ', B4, S4, r1, r2⟩
  refine (L_rd B4 (ir1 I).1 (ir1 I).2 (L_rd B4 (ir2 I).1 (ir2 I).2 (wq_at (LB_H B4).1 (wq_cJ (v_delay (d := d + 228) (LB_H B4) (LB_R B4)) ?_))))
  rintro y h9 hp
  exact kN B4 S4 hp R I r1 r2 K

end Lo
