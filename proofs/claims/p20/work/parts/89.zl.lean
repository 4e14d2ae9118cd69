/-! a process is kept in the reference: its variables -/
/-- what the making of variables may change -/
def kvQ (fv nD j i : Nat) : Prop := (j ≤ 4 ∧ 1024 + fv ≤ i ∧ i < 1024 + fv + nD) ∨ (j = 5 ∧ 64 * (1024 + fv) ≤ i ∧ i < 64 * (1024 + fv + nD))
/-- drafts of variables -/
def DRx (nD : Nat) (dc da db : Nat → Int32) (σ : rS) : Prop := nD ≤ 128 ∧ ∀ i, i < nD → okK (dc i) (da i) (db i) ∧ ia σ 0 (9216 + i) = dc i ∧ ia σ 2 (9216 + i) = da i ∧ ia σ 3 (9216 + i) = db i
/-- variables that are made -/
def VMx (fv n : Nat) (dc da db : Nat → Int32) (τ : rS) : Prop := ∀ i, i < n → (RW τ (1024 + fv + i) (thI (dc i) (da i) (db i)).1 ∧ WF (thI (dc i) (da i) (db i)).1) ∧ (wI (thI (dc i) (da i) (db i)).1 = 2 → ia τ 2 (1024 + fv + i) = (thI (dc i) (da i) (db i)).2.2.2.2.1 ∧ ia τ 3 (1024 + fv + i) = (thI (dc i) (da i) (db i)).2.2.2.2.2)
section Zl
variable {lim : Nat × Nat} {d m N nD fv pp : Nat} {σ τ : rS} {bb : ah_H} {h h' : ah_H} {v1 v2 v3 : Int32} {dc da db : Nat → Int32} {Φ : ah_R → Prop}
theorem VM_s {n : Nat} (V : VMx fv n dc da db τ) (ok : okK (dc n) (da n) (db n)) : VMx fv (n + 1) dc da db (mkR τ (1024 + fv + n) (dc n) (da n) (db n)) := by
  intro i hi
  by_cases c : i = n
  · subst c
    obtain ⟨q1, q2⟩ := RW_mk (σ := τ) (r := 1024 + fv + i) ok
    refine ⟨⟨q1, q2⟩, fun z => ?_⟩
    have z : dc i = 2 := z
    refine ⟨mk_2.trans ?_, mk_3.trans ?_⟩
    · exact (if_pos z).symm
    · exact (if_pos z).symm
  · obtain ⟨⟨p1, p2⟩, p3⟩ := V i (by omega)
    refine ⟨⟨RW_q p1 p2 (sm_mk (Q := mQ (1024 + fv + n)) sm_0 (fun _ _ q => q)) (fun j i' q => by unfold mQ at q; omega), p2⟩, fun z => ?_⟩
    rw [mk_o (by omega) (by omega), mk_o (by omega) (by omega)]
    exact p3 z
/-- the loop of the variables, whatever comes behind it -/
theorem r_kp_v (D : DRx nD dc da db σ) (h8 : (σ.1 8).toInt = fv) (h9 : (σ.1 9).toInt = nD) (f8 : fv + nD ≤ 8192) (fin : ∀ τ h, RH m τ bb h → sm (kvQ fv nD) σ τ → VMx fv nD dc da db τ → byE τ → wq (ah_val lim ah_P (d + 2) 61 182 [some (aR m), none, some (aI (Nat.toInt32 nD))] [] h) Φ) : ∀ (k i : Nat) (h : ah_H) (τ : rS), i + k = nD → RH m τ bb h → sm (kvQ fv nD) σ τ → VMx fv i dc da db τ → byE τ → wq (ah_val lim ah_P (d + 2) 61 182 [some (aR m), none, some (aI (Nat.toInt32 i))] [] h) Φ := by
  have z1 : (1 : Int32).toInt = 1 := rfl
  have z9 : (9216 : Int32).toInt = 9216 := rfl
  have z10 : (1024 : Int32).toInt = 1024 := rfl
  have l128 := D.1
  intro k
  induction k with
  | zero =>
    intro i h τ hk H G V B
    have : i = nD := by omega
    subst this
    exact fin τ h H G V B
  | succ k ih =>
    intro i h τ hk H G V B
    have t8 : τ.1 8 = σ.1 8 := G.1 8 (fun q => by unfold kvQ at q; omega)
    have t9 : τ.1 9 = σ.1 9 := G.1 9 (fun q => by unfold kvQ at q; omega)
    obtain ⟨ok, d0, d2, d3⟩ := D.2 i (by omega)
    have en : (Nat.toInt32 i).toInt = i := i32n (by omega)
    have e9 : (9216 + Nat.toInt32 i).toInt = ((9216 + i : Nat) : Int) := by rw [ad_i (by omega) (by omega), z9, en]; omega
    have x9 : (9216 + Nat.toInt32 i).toInt.toNat = 9216 + i := by omega
    have ti : ∀ j, ia τ j (9216 + i) = ia σ j (9216 + i) := fun j => G.2.2.1 j _ (fun q => by unfold kvQ at q; omega)
    obtain ⟨k0, k1, k2⟩ := okK_c ok
    have eR : (1024 + σ.1 8 + Nat.toInt32 i).toInt = ((1024 + fv + i : Nat) : Int) := by
      have : (1024 + σ.1 8).toInt = 1024 + (σ.1 8).toInt := by rw [ad_i (by omega) (by omega), z10]
      rw [ad_i (by omega) (by omega), this, en]
      omega
    refine wq_eq q_61_182 (wq_gI H.1 rfl ?_)
    rw [t9]
    refine wq_t (Int32.lt_iff_toInt_lt.mpr (by omega)) (wq_gI H.1 rfl (rd0' H e9 (by omega) ((ti 0).trans d0) (wq_gR H.1 rfl (ra_I H (j := 2) (by omega) rfl rfl (by omega) (by show _ < (10100 : Int); omega) ?_))))
    rw [x9, ti, d2, t8]
    refine wq_gR H.1 rfl (ra_I H (j := 3) (by omega) rfl rfl (by omega) (by show _ < (10100 : Int); omega) ?_)
    rw [x9, ti, d3]
    refine wq_at H.1 (wq_cV (r_make (r := 1024 + fv + i) H eR (by omega) k0 k1 k2) fun h9 H9 => ?_)
    rw [show Nat.toInt32 i + 1 = Nat.toInt32 (i + 1) from Int32.toInt_inj.mp (by rw [ad_i (by omega) (by omega), en, z1, i32n (by omega)]; rfl)]
    refine ih (i + 1) h9 _ (by omega) H9 (sm_mk G (fun j i' q => by unfold mQ at q; unfold kvQ; omega)) (VM_s V ok) (by_mk B k0 k1 ?_ ?_)
    · by_cases c : dc i = 1
      · rw [if_pos c]
        exact (k2 (by rw [c]; rfl)).1
      · rw [if_neg c]
        decide
    · by_cases c : dc i = 1
      · rw [if_pos c]
        exact (k2 (by rw [c]; rfl)).2
      · rw [if_neg c]
        decide
end Zl
