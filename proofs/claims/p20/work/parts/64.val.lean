/-! VALUES OF THE REFERENCE: rules that keep what stands elsewhere -/
/-- what may change: p below 1000: in a resumption of the process p; 1000: where a value is found; 1001: also limit, time, target, delays; 2000 and more: where a statement of the process p - 2000 is done, frames apart -/
def QR (p j i : Nat) : Prop := ((j = 0 ∨ j = 1 ∨ j = 4) ∧ 9344 ≤ i) ∨ (j = 5 ∧ 598016 ≤ i) ∨ ((j = 100 ∧ (i = 41 ∨ i = 42)) ∨ (p ≠ 1000 ∧ (j = 38 ∨ j = 101 ∨ (j = 100 ∧ i = 43)))) ∨ ((p < 1000 ∨ 2000 ≤ p) ∧ ((j = 4 ∧ 1024 ≤ i) ∨ (j = 5 ∧ 65536 ≤ i) ∨ (31 ≤ j ∧ j ≤ 38) ∨ (j = 100 ∧ (i = 43 ∨ i = 46 ∨ i = 47)) ∨ j = 101)) ∨ (2000 ≤ p ∧ (j = 24 ∨ j = 25) ∧ i + 2000 = p) ∨ (p < 1000 ∧ ((20 ≤ j ∧ j ≤ 26 ∧ i = p) ∨ (27 ≤ j ∧ j ≤ 30 ∧ 128 * p ≤ i ∧ i < 128 * p + 128)))
/-- classes and lengths of all objects -/
def OKV (σ : rS) : Prop := ∀ i, i < 10100 → 0 ≤ (ia σ 0 i).toInt ∧ (ia σ 0 i).toInt ≤ 2 ∧ 0 ≤ (ia σ 1 i).toInt ∧ (ia σ 1 i).toInt ≤ 64
theorem okv_0 {σ : rS} {k : Nat} {x : Int32} (O : OKV σ) (h0 : 0 ≤ x.toInt) (h1 : x.toInt ≤ 2) : OKV (sI σ 0 k x) := by
  intro i hi
  obtain ⟨a, b, c, d⟩ := O i hi
  refine ⟨?_, ?_, c, d⟩
  · show 0 ≤ (up2 σ.2.2.1 0 k x 0 i).toInt
    by_cases e : i = k
    · subst e; rw [up2_eq]; exact h0
    · rw [up2_ni e]; exact a
  · show (up2 σ.2.2.1 0 k x 0 i).toInt ≤ 2
    by_cases e : i = k
    · subst e; rw [up2_eq]; exact h1
    · rw [up2_ni e]; exact b
theorem okv_1 {σ : rS} {k : Nat} {x : Int32} (O : OKV σ) (h0 : 0 ≤ x.toInt) (h1 : x.toInt ≤ 64) : OKV (sI σ 1 k x) := by
  intro i hi
  obtain ⟨a, b, c, d⟩ := O i hi
  refine ⟨a, b, ?_, ?_⟩
  · show 0 ≤ (up2 σ.2.2.1 1 k x 1 i).toInt
    by_cases e : i = k
    · subst e; rw [up2_eq]; exact h0
    · rw [up2_ni e]; exact c
  · show (up2 σ.2.2.1 1 k x 1 i).toInt ≤ 64
    by_cases e : i = k
    · subst e; rw [up2_eq]; exact h1
    · rw [up2_ni e]; exact d
theorem okv_n {σ : rS} {j k : Nat} {x : Int32} (O : OKV σ) (h0 : j ≠ 0) (h1 : j ≠ 1) : OKV (sI σ j k x) := by
  intro i hi
  have e0 : ia (sI σ j k x) 0 i = ia σ 0 i := up2_nj (fun e => h0 e.symm)
  have e1 : ia (sI σ j k x) 1 i = ia σ 1 i := up2_nj (fun e => h1 e.symm)
  rw [e0, e1]
  exact O i hi
theorem ml_i {a c : Int32} (h1 : -2147483648 ≤ a.toInt * c.toInt) (h2 : a.toInt * c.toInt ≤ 2147483647) : (a * c).toInt = a.toInt * c.toInt := by
  rw [Int32.toInt_mul]
  exact Int.bmod_eq_of_le (by omega) (by omega)
theorem ml_c {a c : Int32} {k : Int} (hk : c.toInt = k) (h1 : -2147483648 ≤ k * a.toInt) (h2 : k * a.toInt ≤ 2147483647) : (c * a).toInt = k * a.toInt := by
  subst hk
  exact ml_i h1 h2
theorem b8_i {x : Int32} (h0 : 0 ≤ x.toInt) (h1 : x.toInt ≤ 127) : x.toInt8.toInt32 = x := by
  apply Int32.toInt_inj.mp
  rw [Int8.toInt_toInt32, Int32.toInt_toInt8]
  exact Int.bmod_eq_of_le (by omega) (by omega)
theorem li_m1 : (-1 : Int32).toInt = -1 := by decide
theorem dec_i {v : Int32} (h : -2147483647 ≤ v.toInt) : (v + (-1 : Int32)).toInt = v.toInt - 1 := by
  have h2 := bd_i v
  rw [ad_i (by rw [li_m1]; omega) (by rw [li_m1]; omega), li_m1]
  rfl
theorem l2i_ok {z : Int64} {n : Int32} (h0 : ¬ (lg_cmp z (0 : Int64)) < 0) (h1 : (lg_cmp z n.toInt64) < 0) (hn : n.toInt ≤ 64) : 0 ≤ z.toInt32.toInt ∧ z.toInt32.toInt < n.toInt := by
  have e0 : 0 ≤ z.toInt := by
    apply Decidable.byContradiction
    intro hc
    apply h0
    have c1 : ¬ z > 0 := fun h => by have := Int64.lt_iff_toInt_lt.mp h; rw [Int64.toInt_zero] at this; omega
    have c2 : ¬ z = 0 := fun h => by rw [h, Int64.toInt_zero] at hc; omega
    unfold lg_cmp
    rw [if_neg c1, if_neg c2]
    decide
  have e1 : z.toInt < n.toInt := by
    have c1 : ¬ z > n.toInt64 := fun h => by unfold lg_cmp at h1; rw [if_pos h] at h1; exact absurd h1 (by decide)
    have c2 : ¬ z = n.toInt64 := fun h => by unfold lg_cmp at h1; rw [if_neg c1, if_pos h] at h1; exact absurd h1 (by decide)
    have c3 : ¬ n.toInt64.toInt < z.toInt := fun h => c1 (Int64.lt_iff_toInt_lt.mpr h)
    have c4 : ¬ z.toInt = n.toInt64.toInt := fun h => c2 (Int64.toInt_inj.mp h)
    rw [Int32.toInt_toInt64] at c3 c4
    omega
  have e2 : z.toInt32.toInt = z.toInt := by
    rw [Int64.toInt_toInt32]
    exact Int.bmod_eq_of_le (by omega) (by omega)
  omega
theorem nQ_j {p j : Nat} (hj : j = 2 ∨ j = 3 ∨ (6 ≤ j ∧ j ≤ 19)) : ∀ i, ¬ QR p j i := by
  intro i h
  rcases h with ⟨h, -⟩ | ⟨h, -⟩ | (⟨h, -⟩ | ⟨-, h | h | ⟨h, -⟩⟩) | ⟨-, ⟨h, -⟩ | ⟨h, -⟩ | ⟨h1, h2⟩ | ⟨h, -⟩ | h⟩ | ⟨-, h, -⟩ | ⟨-, ⟨h1, h2, -⟩ | ⟨h1, h2, -⟩⟩ <;> omega
theorem nQ_f {p k : Nat} (hk : k < 40) : ¬ QR p 100 k := by
  intro h
  rcases h with ⟨h, -⟩ | ⟨h, -⟩ | (⟨-, h⟩ | ⟨-, h | h | ⟨-, h⟩⟩) | ⟨-, ⟨h, -⟩ | ⟨h, -⟩ | ⟨h1, h2⟩ | ⟨-, h⟩ | h⟩ | ⟨-, h, -⟩ | ⟨-, ⟨h1, h2, -⟩ | ⟨h1, h2, -⟩⟩ <;> omega
section Rv
variable {ρ : Type} {Φ : ρ → Prop} {m p : Nat} {σ σ0 : rS} {b h : ah_H} {j kd k : Nat} {x y : Int32} {z : Int64}
theorem rv_n {K1 : Int32 → Option ρ} (H : RH m σ b h) (G : sm (QR p) σ0 σ) (hj : j < 39) (hk : rk j = kd) (hl : Nat.beq kd 101 = false) (hq : ∀ i, ¬ QR p j i) (h0 : 0 ≤ x.toInt) (h1 : x.toInt < rn j) (c : wq (K1 (ia σ0 j x.toInt.toNat)) Φ) : wq (ah_lI h (some (m + 1 + j)) kd x K1) Φ :=
  ra_I H hj hk hl h0 h1 (by have e : ia σ j x.toInt.toNat = ia σ0 j x.toInt.toNat := G.2.2.1 j _ (hq _); rw [e]; exact c)
theorem rv_0 {K1 : Int32 → Option ρ} (H : RH m σ b h) (O : OKV σ) (h0 : 0 ≤ x.toInt) (h1 : x.toInt < 10100) (c : ∀ v : Int32, 0 ≤ v.toInt → v.toInt ≤ 2 → wq (K1 v) Φ) : wq (ah_lI h (some (m + 1 + 0)) 103 x K1) Φ :=
  ra_I H (by omega) rfl rfl h0 h1 (c _ (O _ (ix_lt h0 h1)).1 (O _ (ix_lt h0 h1)).2.1)
theorem rv_1 {K1 : Int32 → Option ρ} (H : RH m σ b h) (O : OKV σ) (h0 : 0 ≤ x.toInt) (h1 : x.toInt < 10100) (c : ∀ v : Int32, 0 ≤ v.toInt → v.toInt ≤ 64 → wq (K1 v) Φ) : wq (ah_lI h (some (m + 1 + 1)) 103 x K1) Φ :=
  ra_I H (by omega) rfl rfl h0 h1 (c _ (O _ (ix_lt h0 h1)).2.2.1 (O _ (ix_lt h0 h1)).2.2.2)
theorem rv_s0 {K1 : ah_H → Option ρ} (H : RH m σ b h) (O : OKV σ) (G : sm (QR p) σ0 σ) (h0 : 9344 ≤ x.toInt) (h1 : x.toInt < 10100) (v0 : 0 ≤ y.toInt) (v1 : y.toInt ≤ 2) (c : ∀ h' σ', RH m σ' b h' → OKV σ' → sm (QR p) σ0 σ' → wq (K1 h') Φ) : wq (ah_sI h (some (m + 1 + 0)) 103 x (.inl (y.toInt8.toInt32)) K1) Φ := by
  rw [b8_i v0 (by omega)]
  exact rs_I H (by omega) rfl rfl (by omega) h1 (fun h' H' => c h' _ H' (okv_0 O v0 v1) (sm_I G (Or.inl ⟨Or.inl rfl, by omega⟩)))
theorem rv_s1 {K1 : ah_H → Option ρ} (H : RH m σ b h) (O : OKV σ) (G : sm (QR p) σ0 σ) (h0 : 9344 ≤ x.toInt) (h1 : x.toInt < 10100) (v0 : 0 ≤ y.toInt) (v1 : y.toInt ≤ 64) (c : ∀ h' σ', RH m σ' b h' → OKV σ' → sm (QR p) σ0 σ' → wq (K1 h') Φ) : wq (ah_sI h (some (m + 1 + 1)) 103 x (.inl (y.toInt8.toInt32)) K1) Φ := by
  rw [b8_i v0 (by omega)]
  exact rs_I H (by omega) rfl rfl (by omega) h1 (fun h' H' => c h' _ H' (okv_1 O v0 v1) (sm_I G (Or.inl ⟨Or.inr (Or.inl rfl), by omega⟩)))
theorem rv_s0' {K1 : ah_H → Option ρ} (H : RH m σ b h) (O : OKV σ) (G : sm (QR p) σ0 σ) (h0 : 9344 ≤ x.toInt) (h1 : x.toInt < 10100) (v0 : 0 ≤ y.toInt) (v1 : y.toInt ≤ 2) (c : ∀ h' σ', RH m σ' b h' → OKV σ' → sm (QR p) σ0 σ' → wq (K1 h') Φ) : wq (ah_sI h (some (m + 1 + 0)) 103 x (.inl y) K1) Φ :=
  rs_I H (by omega) rfl rfl (by omega) h1 (fun h' H' => c h' _ H' (okv_0 O v0 v1) (sm_I G (Or.inl ⟨Or.inl rfl, by omega⟩)))
theorem rv_s5 {K1 : ah_H → Option ρ} (H : RH m σ b h) (O : OKV σ) (G : sm (QR p) σ0 σ) (h0 : 598016 ≤ x.toInt ∨ ((p < 1000 ∨ 2000 ≤ p) ∧ 65536 ≤ x.toInt)) (h1 : x.toInt < 646400) (c : ∀ h' σ', RH m σ' b h' → OKV σ' → sm (QR p) σ0 σ' → wq (K1 h') Φ) : wq (ah_sI h (some (m + 1 + 5)) 103 x (.inl y) K1) Φ :=
  rs_I H (by omega) rfl rfl (by omega) h1 (fun h' H' => c h' _ H' (okv_n O (by omega) (by omega)) (sm_I G (h0.elim (fun q => Or.inr (Or.inl ⟨rfl, by omega⟩)) (fun q => Or.inr (Or.inr (Or.inr (Or.inl ⟨q.1, Or.inr (Or.inl ⟨rfl, by omega⟩)⟩)))))))
theorem rv_s4 {K1 : ah_H → Option ρ} (H : RH m σ b h) (O : OKV σ) (G : sm (QR p) σ0 σ) (h0 : 9344 ≤ x.toInt ∨ ((p < 1000 ∨ 2000 ≤ p) ∧ 1024 ≤ x.toInt)) (h1 : x.toInt < 10100) (c : ∀ h' σ', RH m σ' b h' → OKV σ' → sm (QR p) σ0 σ' → wq (K1 h') Φ) : wq (ah_sI h (some (m + 1 + 4)) 101 x (.inr (.inl z)) K1) Φ :=
  rs_J H (by omega) rfl (by omega) h1 (fun h' H' => c h' _ H' O (sm_J G (h0.elim (fun q => Or.inl ⟨Or.inr (Or.inr rfl), by omega⟩) (fun q => Or.inr (Or.inr (Or.inr (Or.inl ⟨q.1, Or.inl ⟨rfl, by omega⟩⟩)))))))
theorem rv_x {K1 : Int32 → Option ρ} (H : RH m σ b h) (hj : j < 39) (hk : rk j = kd) (hl : Nat.beq kd 101 = false) (h0 : 0 ≤ x.toInt) (h1 : x.toInt < rn j) (c : ∀ v, wq (K1 v) Φ) : wq (ah_lI h (some (m + 1 + j)) kd x K1) Φ := ra_I H hj hk hl h0 h1 (c _)
theorem rv_J {K1 : Int64 → Option ρ} (H : RH m σ b h) (hj : j < 39) (hk : rk j = 101) (h0 : 0 ≤ x.toInt) (h1 : x.toInt < rn j) (c : ∀ v, wq (K1 v) Φ) : wq (ah_lJ h (some (m + 1 + j)) 101 x K1) Φ := ra_J H hj hk h0 h1 (c _)
theorem rv_G {K1 : ah_H → Option ρ} (H : RH m σ b h) (O : OKV σ) (G : sm (QR p) σ0 σ) (h0 : k = 41 ∨ k = 42 ∨ (p ≠ 1000 ∧ k = 43) ∨ ((p < 1000 ∨ 2000 ≤ p) ∧ (k = 46 ∨ k = 47))) (h1 : k ≤ 47) (e : (RF m σ.1 σ.2.1).set k (aI x) = RF m (up1 σ.1 k x) σ.2.1) (c : ∀ h' σ', RH m σ' b h' → OKV σ' → sm (QR p) σ0 σ' → σ' = sG σ k x → wq (K1 h') Φ) : wq (ah_wr h (some m) 11 k (.inl x) K1) Φ :=
  rw_I H (by omega) e (fun h' H' => c h' _ H' O (sm_G G (by unfold QR; omega)) rfl)
theorem rv_L {K1 : ah_H → Option ρ} (H : RH m σ b h) (O : OKV σ) (G : sm (QR p) σ0 σ) (hp : p ≠ 1000) (hk : k < 56) (e : (RF m σ.1 σ.2.1).set k (aJ z) = RF m σ.1 (up1 σ.2.1 k z)) (c : ∀ h' σ', RH m σ' b h' → OKV σ' → sm (QR p) σ0 σ' → σ' = sL σ k z → wq (K1 h') Φ) : wq (ah_wr h (some m) 11 k (.inr (.inl z)) K1) Φ :=
  rw_J H hk e (fun h' H' => c h' _ H' O (sm_L G (by unfold QR; omega)) rfl)
/-- other arrays that a resumption may change -/
theorem rv_sI {K1 : ah_H → Option ρ} (H : RH m σ b h) (O : OKV σ) (G : sm (QR p) σ0 σ) (hj : j < 39) (hj2 : 20 ≤ j) (hk : rk j = kd) (hl : Nat.beq kd 101 = false) (h0 : 0 ≤ x.toInt) (h1 : x.toInt < rn j) (hq : QR p j x.toInt.toNat) (c : ∀ h' σ', RH m σ' b h' → OKV σ' → sm (QR p) σ0 σ' → σ' = sI σ j x.toInt.toNat y → wq (K1 h') Φ) : wq (ah_sI h (some (m + 1 + j)) kd x (.inl y) K1) Φ :=
  rs_I H hj hk hl h0 h1 (fun h' H' => c h' _ H' (okv_n O (by omega) (by omega)) (sm_I G hq) rfl)
theorem rv_sJ {K1 : ah_H → Option ρ} (H : RH m σ b h) (O : OKV σ) (G : sm (QR p) σ0 σ) (hj : j < 39) (hk : rk j = 101) (h0 : 0 ≤ x.toInt) (h1 : x.toInt < rn j) (hq : QR p j x.toInt.toNat) (c : ∀ h' σ', RH m σ' b h' → OKV σ' → sm (QR p) σ0 σ' → σ' = sJ σ j x.toInt.toNat z → wq (K1 h') Φ) : wq (ah_sI h (some (m + 1 + j)) 101 x (.inr (.inl z)) K1) Φ :=
  rs_J H hj hk h0 h1 (fun h' H' => c h' _ H' O (sm_J G hq) rfl)
theorem QR_le {q : Nat} : ∀ j i, QR 1000 j i → QR q j i := by
  intro j i h
  rcases h with h | h | (h | ⟨h, -⟩) | ⟨h, -⟩ | ⟨h, -⟩ | ⟨h, -⟩
  · exact Or.inl h
  · exact Or.inr (Or.inl h)
  · exact Or.inr (Or.inr (Or.inl (Or.inl h)))
  · omega
  · omega
  · omega
  · omega
theorem QR_le1 {q : Nat} (hq : q ≠ 1000) : ∀ j i, QR 1001 j i → QR q j i := by
  intro j i h
  rcases h with h | h | (h | ⟨-, h⟩) | ⟨h, -⟩ | ⟨h, -⟩ | ⟨h, -⟩
  · exact Or.inl h
  · exact Or.inr (Or.inl h)
  · exact Or.inr (Or.inr (Or.inl (Or.inl h)))
  · exact Or.inr (Or.inr (Or.inl (Or.inr ⟨hq, h⟩)))
  · omega
  · omega
  · omega
theorem QR_le2 {q : Nat} (hq : q < 1000) : ∀ j i, QR (2000 + q) j i → QR q j i := by
  intro j i h
  rcases h with h | h | (h | ⟨-, h⟩) | ⟨-, h⟩ | ⟨-, hj, hi⟩ | ⟨h, -⟩
  · exact Or.inl h
  · exact Or.inr (Or.inl h)
  · exact Or.inr (Or.inr (Or.inl (Or.inl h)))
  · exact Or.inr (Or.inr (Or.inl (Or.inr ⟨by omega, h⟩)))
  · exact Or.inr (Or.inr (Or.inr (Or.inl ⟨Or.inl hq, h⟩)))
  · exact Or.inr (Or.inr (Or.inr (Or.inr (Or.inr ⟨hq, Or.inl ⟨by omega, by omega, by omega⟩⟩))))
  · omega
theorem sm_up {σ σ' : rS} {q : Nat} (g : sm (QR 1000) σ σ') : sm (QR q) σ σ' := sm_tr sm_0 g QR_le
theorem sm_up1 {σ σ' : rS} {q : Nat} (g : sm (QR 1001) σ σ') (hq : q ≠ 1000) : sm (QR q) σ σ' := sm_tr sm_0 g (QR_le1 hq)
/-- a state at the end: as before but for what may change -/
def rvP (m p : Nat) (σ0 : rS) (b h' : ah_H) : Prop := ∃ σ', RH m σ' b h' ∧ OKV σ' ∧ sm (QR p) σ0 σ'
end Rv
