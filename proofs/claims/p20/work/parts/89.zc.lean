/-! THE REFERENCE'S READERS: acts, act, delay, until -/
section Zc
variable {lim : Nat × Nat} {d m n pp nU B : Nat} {σ : rS} {bb h h' h1 : ah_H} {τ : TD} {v1 v2 v3 : Int32} {Φ : ah_R → Prop} {T : KT} {s : US} {a b : Nat → Int64} {ht : Nat → Nat}
theorem r_acts (H : RH m σ bb h) (A : TA τ σ) : wq (vc lim (d + 1) m_Ref_acts [aR m] h) (rI fun x h' => RH m (sG σ 0 0) bb h' ∧ x = Nat.toInt32 τ.1) := by
  refine wq_eq q_114_0 (rw_I H (by omega) rfl (fun h1 H1 => wq_gI H1.1 rfl (wq_some (rI_i ⟨H1, ?_⟩))))
  rw [show (sG σ 0 0).1 46 = σ.1 46 from sG_ne (by omega)]
  refine Int32.toInt_inj.mp ?_
  rw [A.1.1, i32n (by have := A.1.2.2.1; omega)]
/-- an error's end -/
theorem zr_e {K : Option ah_R} {e : Int32} {K0 : ah_H → Option ah_R} (H : RH m σ bb h) (he : ¬ e ≤ 0) (k : ∀ h', RH m (sG σ 0 e) bb h' → wq (K0 h') Φ) {K1 : ah_H → Option ah_R} : wq (ah_wr h (some m) 11 0 (.inl e) fun h1 => ah_gI h1 (some m) 11 0 fun i2 => if i2 ≤ 0 then K1 h1 else K0 h1) Φ := rw_I H (by omega) rfl (fun h1 H1 => wq_gI H1.1 rfl (wq_f (by rw [sG_eq]; exact he) (k h1 H1)))
theorem zr_o {K0 K1 : ah_H → Option ah_R} (H : RH m σ bb h) (k : ∀ h', RH m (sG σ 0 0) bb h' → wq (K1 h') Φ) : wq (ah_wr h (some m) 11 0 (.inl 0) fun h1 => ah_gI h1 (some m) 11 0 fun i2 => if i2 ≤ 0 then K1 h1 else K0 h1) Φ := rw_I H (by omega) rfl (fun h1 H1 => wq_gI H1.1 rfl (wq_t (by rw [sG_eq]; decide) (k h1 H1)))
def acR (τ : TD) (v1 v2 x e : Int32) : Prop := (e = 1 ∧ ¬ (0 ≤ v1.toInt ∧ v1.toInt < τ.1)) ∨ (e = 2 ∧ (0 ≤ v1.toInt ∧ v1.toInt < τ.1) ∧ ¬ (0 ≤ v2.toInt ∧ v2.toInt ≤ 5)) ∨ (e = 0 ∧ (0 ≤ v1.toInt ∧ v1.toInt < τ.1) ∧ (0 ≤ v2.toInt ∧ v2.toInt ≤ 5) ∧ x = τ.2.2.1 v2.toInt.toNat v1.toInt.toNat)
theorem r_act2 (H : RH m σ bb h) (A : TA τ σ) : wq (vc lim (d + 1) m_Ref_act2 [aR m, aI v1, aI v2] h) (rI fun x h' => ∃ e : Int32, RH m (sG σ 0 e) bb h' ∧ acR τ v1 v2 x e) := by
  have z0 : (0 : Int32).toInt = 0 := rfl
  have z5 : (5 : Int32).toInt = 5 := rfl
  obtain ⟨a1, -, a3, -⟩ := A.1
  have bad : ∀ e : Int32, ¬ e ≤ 0 → acR τ v1 v2 0 e → wq (ah_val lim ah_P d 115 31 [some (aR m), some (aI v1), some (aI v2)] [aI e, aR m] h) (rI fun x h' => ∃ e : Int32, RH m (sG σ 0 e) bb h' ∧ acR τ v1 v2 x e) := fun e he ha => wq_eq q_115_31 (zr_e (K := none) H he (fun h1 H1 => wq_some (rI_i ⟨e, H1, ha⟩)))
  refine wq_eq q_115_0 (wq_if _ (fun c => bad 1 (by decide) (Or.inl ⟨rfl, ?_⟩)) (fun c => wq_gI H.1 rfl (wq_if _ (fun c2 => wq_if _ (fun c3 => bad 2 (by decide) (Or.inr (Or.inl ⟨rfl, ?_, ?_⟩))) (fun c3 => wq_if _ (fun c4 => ?_) (fun c4 => bad 2 (by decide) (Or.inr (Or.inl ⟨rfl, ?_, ?_⟩))))) (fun c2 => bad 1 (by decide) (Or.inl ⟨rfl, ?_⟩)))))
  · have := lt_i c; omega
  · have := nlt_i c; have := lt_i c2; omega
  · have := lt_i c3; omega
  rotate_left
  · have := nlt_i c; have := lt_i c2; omega
  · rw [Int32.le_iff_toInt_le] at c4; omega
  · have := nlt_i c; have := nlt_i c2; omega
  have w1 := nlt_i c
  have w2 := lt_i c2
  have w3 := nlt_i c3
  rw [Int32.le_iff_toInt_le] at c4
  have in1 : 0 ≤ v1.toInt ∧ v1.toInt < τ.1 := by omega
  have in2 : 0 ≤ v2.toInt ∧ v2.toInt ≤ 5 := by omega
  obtain ⟨t1, t2, t3, t4, t5, -, -, t8, t9, t10, t11⟩ := A.2.1 v1.toInt.toNat (by omega)
  have ok : ∀ (x : Int32) (k : Nat) (h' : ah_H), v2.toInt = k → x = τ.2.2.1 k v1.toInt.toNat → RH m (sG σ 0 0) bb h' → wq (some (.inl (some (.inl x)), h')) (rI fun x h' => ∃ e : Int32, RH m (sG σ 0 e) bb h' ∧ acR τ v1 v2 x e) := fun x k h' hk hx H' => wq_some (rI_i ⟨0, H', Or.inr (Or.inr ⟨rfl, in1, in2, by rw [show v2.toInt.toNat = k by omega]; exact hx⟩)⟩)
  refine wq_eq q_115_31 (zr_o H (fun h1 H1 => wq_if _ (fun k0 => ?_) (fun k0 => wq_if _ (fun k1 => ?_) (fun k1 => wq_if _ (fun k2 => ?_) (fun k2 => wq_if _ (fun k3 => ?_) (fun k3 => wq_if _ (fun k4 => ?_) (fun k4 => ?_)))))))
  · refine wq_gR H1.1 rfl (ra_I H1 (j := 31) (by omega) rfl rfl (by omega) (by show _ < (200 : Int); omega) ?_)
    rw [show ia (sG σ 0 0) 31 v1.toInt.toNat = τ.2.2.1 0 v1.toInt.toNat from t1]
    rcases t11 with q | ⟨q, -⟩
    · exact wq_t q (ok 0 0 h1 (by rw [k0]; rfl) q.symm H1)
    · exact wq_f (by rw [q]; decide) (ok 1 0 h1 (by rw [k0]; rfl) q.symm H1)
  · exact wq_gR H1.1 rfl (ra_I H1 (j := 32) (by omega) rfl rfl (by omega) (by show _ < (200 : Int); omega) (ok _ 1 h1 (by rw [k1]; rfl) t2 H1))
  · exact wq_gR H1.1 rfl (ra_I H1 (j := 33) (by omega) rfl rfl (by omega) (by show _ < (200 : Int); omega) (ok _ 2 h1 (by rw [k2]; rfl) t3 H1))
  · exact wq_gR H1.1 rfl (ra_I H1 (j := 34) (by omega) rfl rfl (by omega) (by show _ < (200 : Int); omega) (ok _ 3 h1 (by rw [k3]; rfl) t4 H1))
  · exact wq_gR H1.1 rfl (ra_I H1 (j := 35) (by omega) rfl rfl (by omega) (by show _ < (200 : Int); omega) (ok _ 4 h1 (by rw [k4]; rfl) t5 H1))
  · have n0 := ne_i k0
    have n1 := ne_i k1
    have n2 := ne_i k2
    have n3 := ne_i k3
    have n4 := ne_i k4
    have z1 : (1 : Int32).toInt = 1 := rfl
    have z2 : (2 : Int32).toInt = 2 := rfl
    have z3 : (3 : Int32).toInt = 3 := rfl
    have z4 : (4 : Int32).toInt = 4 := rfl
    have ea : (v1 + 1).toInt = v1.toInt + 1 := by rw [ad_i (by omega) (by omega), z1]
    refine wq_gR H1.1 rfl (ra_I H1 (j := 37) (by omega) rfl rfl (by omega) (by show _ < (201 : Int); omega) (wq_gR H1.1 rfl (ra_I H1 (j := 37) (by omega) rfl rfl (by omega) (by show _ < (201 : Int); omega) (ok _ 5 h1 (by omega) ?_ H1))))
    refine Int32.toInt_inj.mp ?_
    have e8 : (ia (sG σ 0 0) 37 (v1 + 1).toInt.toNat).toInt = (ia (sG σ 0 0) 37 v1.toInt.toNat).toInt + (τ.2.2.1 5 v1.toInt.toNat).toInt := by
      rw [show (v1 + 1).toInt.toNat = v1.toInt.toNat + 1 by omega]
      exact t8
    have l5 := Int32.toInt_lt (τ.2.2.1 5 v1.toInt.toNat)
    have p31 : (2 : Int) ^ 31 = 2147483648 := by decide
    rw [sb_i (by omega) (by omega)]
    omega
theorem r_until (H : RH m σ bb h) (hU : (σ.1 23).toInt = nU) (h64 : nU ≤ 64) (U : 0 ≤ v1.toInt ∧ v1.toInt < nU → ia σ 20 v1.toInt.toNat = s.1 ∧ (s.1 = 1 → ja σ 25 v1.toInt.toNat = s.2.2.2.2.2.2.2)) : wq (vc lim (d + 2) m_Ref_until [aR m, aI v1] h) (rJ fun x h' => ∃ e : Int32, RH m (sG σ 0 e) bb h' ∧ ((e = 1 ∧ ¬ (0 ≤ v1.toInt ∧ v1.toInt < nU)) ∨ (e = 0 ∧ (0 ≤ v1.toInt ∧ v1.toInt < nU) ∧ x = if s.1 = 1 then s.2.2.2.2.2.2.2 else -1))) := by
  refine wq_eq q_113_0 (r_absent H hU (fun q => ?_) (fun q => ?_))
  · exact wq_f (by decide) (wq_eq q_113_14 (zr_e (K := none) H (by decide) (fun h1 H1 => wq_some (rJ_i ⟨1, H1, Or.inl ⟨rfl, q⟩⟩))))
  · obtain ⟨u1, u2⟩ := U q
    refine wq_t rfl (wq_eq q_113_14 (zr_o H (fun h1 H1 => wq_gR H1.1 rfl (ra_I H1 (j := 20) (by omega) rfl rfl (by omega) (by show _ < (64 : Int); omega) ?_))))
    rw [show ia (sG σ 0 0) 20 v1.toInt.toNat = s.1 from u1]
    refine wq_if _ (fun c => ?_) (fun c => ?_)
    · refine wq_gR H1.1 rfl (ra_J H1 (j := 25) (by omega) rfl (by omega) (by show _ < (64 : Int); omega) (wq_some (rJ_i ⟨0, H1, Or.inr ⟨rfl, q, ?_⟩⟩)))
      rw [if_pos c]
      exact u2 c
    · exact wq_some (rJ_i ⟨0, H1, Or.inr ⟨rfl, q, by rw [if_neg c]⟩⟩)
end Zc
