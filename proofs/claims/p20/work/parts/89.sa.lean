/-! THE CLASS'S NODES AGAINST THE REFERENCE'S: the trees that are being made -/
def NR (nd : Nat) (A : Nat → Nat) (Ls : Nat → List AV) (kt : Int32) (σ : rS) (h : ah_H) : Prop := h.1 nd = some (5, [aR (A 0), aR (A 1), aR (A 2), aR (A 3), aR (A 4), aR (A 5), aR (A 6), aR (A 7), aI (σ.1 19), aI kt]) ∧ (∀ j, j < 8 → h.1 (A j) = some (100, Ls j) ∧ (Ls j).length = 4000) ∧ kt.toInt + (σ.1 21).toInt = (σ.1 19).toInt ∧ ∀ k : Nat, (k : Int) < (σ.1 19).toInt → (Ls 0)[k]? = some (aI (ia σ 8 k)) ∧ (Ls 1)[k]? = some (aI (ia σ 9 k)) ∧ (Ls 3)[k]? = some (aI (ia σ 13 k)) ∧ (Ls 6)[k]? = some (aI (ia σ 10 k)) ∧ ∃ ka : Int32, (Ls 5)[k]? = some (aI ka) ∧ 0 ≤ ka.toInt ∧ ka.toInt + (ia σ 10 k).toInt ≤ kt.toInt ∧ ∀ i : Nat, (i : Int) < (ia σ 10 k).toInt → (Ls 7)[ka.toInt.toNat + i]? = some (aI (sq σ i (ia σ 11 k)))
/-- none, or a node that is being made -/
def dN (σ : rS) (v : Int32) : Prop := v = -1 ∨ (0 ≤ v.toInt ∧ v.toInt < (σ.1 19).toInt)
def gO (σ : rS) (c : Int32) : Int32 := if c = -1 then 0 else ia σ 9 c.toInt.toNat
def mO (σ : rS) (c : Int32) : Int32 := if c = -1 then 0 else ia σ 10 c.toInt.toNat
def uO (σ : rS) (c : Int32) : Int32 := if c = -1 then -1 else ia σ 13 c.toInt.toNat
def cO (σ : rS) (c : Int32) (i : Nat) : Int32 := if c = -1 then -1 else ch σ c.toInt i
section No
variable {lim : Nat × Nat} {d nd : Nat} {A : Nat → Nat} {Ls : Nat → List AV} {kt v i : Int32} {σ : rS} {h : ah_H}
theorem NR_a (N : NR nd A Ls kt σ h) {j : Nat} (hj : j < 8) : h.1 (A j) = some (100, Ls j) := (N.2.1 j hj).1
theorem nn_m {v : Int32} (h0 : 0 ≤ v.toInt) : ¬ v = -1 := fun e => by
  rw [e] at h0
  exact absurd h0 (by decide)
theorem n_kindOf (N : NR nd A Ls kt σ h) (hv : dN σ v) : wq (vc lim (d + 1) m_Nodes_kindOf [.inr (.inr (some nd)), .inl v] h) (rI fun x h' => h' = h ∧ x = kO σ v) := by
  rcases hv with rfl | ⟨h0, h1⟩
  · exact wq_eq e_Nodes_kindOf (wq_t (by decide) (wq_some (rI_i ⟨rfl, (if_pos rfl).symm⟩)))
  · exact wq_eq e_Nodes_kindOf (wq_f (ix_ge h0) (wq_gI N.1 rfl (wq_t (Int32.lt_iff_toInt_lt.mpr h1) (wq_gR N.1 rfl (wq_lI (NR_a N (by omega)) (ix_ge h0) (N.2.2.2 v.toInt.toNat (by omega)).1 (wq_some (rI_i ⟨rfl, (if_neg (nn_m h0)).symm⟩)))))))
theorem n_givenOf (N : NR nd A Ls kt σ h) (hv : dN σ v) : wq (vc lim (d + 1) m_Nodes_givenOf [.inr (.inr (some nd)), .inl v] h) (rI fun x h' => h' = h ∧ x = gO σ v) := by
  rcases hv with rfl | ⟨h0, h1⟩
  · exact wq_eq e_Nodes_givenOf (wq_t (by decide) (wq_some (rI_i ⟨rfl, (if_pos rfl).symm⟩)))
  · exact wq_eq e_Nodes_givenOf (wq_f (ix_ge h0) (wq_gI N.1 rfl (wq_t (Int32.lt_iff_toInt_lt.mpr h1) (wq_gR N.1 rfl (wq_lI (NR_a N (by omega)) (ix_ge h0) (N.2.2.2 v.toInt.toNat (by omega)).2.1 (wq_some (rI_i ⟨rfl, (if_neg (nn_m h0)).symm⟩)))))))
theorem n_kidsOf (N : NR nd A Ls kt σ h) (hv : dN σ v) : wq (vc lim (d + 1) m_Nodes_kidsOf [.inr (.inr (some nd)), .inl v] h) (rI fun x h' => h' = h ∧ x = mO σ v) := by
  rcases hv with rfl | ⟨h0, h1⟩
  · exact wq_eq e_Nodes_kidsOf (wq_t (by decide) (wq_some (rI_i ⟨rfl, (if_pos rfl).symm⟩)))
  · exact wq_eq e_Nodes_kidsOf (wq_f (ix_ge h0) (wq_gI N.1 rfl (wq_t (Int32.lt_iff_toInt_lt.mpr h1) (wq_gR N.1 rfl (wq_lI (NR_a N (by omega)) (ix_ge h0) (N.2.2.2 v.toInt.toNat (by omega)).2.2.2.1 (wq_some (rI_i ⟨rfl, (if_neg (nn_m h0)).symm⟩)))))))
theorem n_parentOf (N : NR nd A Ls kt σ h) (hv : dN σ v) : wq (vc lim (d + 1) m_Nodes_parentOf [.inr (.inr (some nd)), .inl v] h) (rI fun x h' => h' = h ∧ x = uO σ v) := by
  rcases hv with rfl | ⟨h0, h1⟩
  · exact wq_eq e_Nodes_parentOf (wq_t (by decide) (wq_some (rI_i ⟨rfl, (if_pos rfl).symm⟩)))
  · exact wq_eq e_Nodes_parentOf (wq_f (ix_ge h0) (wq_gI N.1 rfl (wq_t (Int32.lt_iff_toInt_lt.mpr h1) (wq_gR N.1 rfl (wq_lI (NR_a N (by omega)) (ix_ge h0) (N.2.2.2 v.toInt.toNat (by omega)).2.2.1 (wq_some (rI_i ⟨rfl, (if_neg (nn_m h0)).symm⟩)))))))
theorem n_kid (D : DI σ) (N : NR nd A Ls kt σ h) (hv : dN σ v) (hi : 0 ≤ i.toInt) : wq (vc lim (d + 1) m_Nodes_kid [.inr (.inr (some nd)), .inl v, .inl i] h) (rI fun x h' => h' = h ∧ x = cO σ v i.toInt.toNat) := by
  rcases hv with rfl | ⟨h0, h1⟩
  · exact wq_eq e_Nodes_kid (wq_t (by decide) (wq_some (rI_i ⟨rfl, (if_pos rfl).symm⟩)))
  · obtain ⟨q1, q2, q3, q4, ka, q5, k0, k1, q6⟩ := N.2.2.2 v.toInt.toNat (by omega)
    have D' := DI_ch D h0 h1 i.toInt.toNat
    have d1 := D.2.1
    have d2 := D.2.2.1
    have kk := N.2.2.1
    refine wq_eq e_Nodes_kid (wq_f (ix_ge h0) (wq_gI N.1 rfl (wq_t (Int32.lt_iff_toInt_lt.mpr h1) (wq_f (ix_ge hi) (wq_gR N.1 rfl (wq_lI (NR_a N (by omega)) (ix_ge h0) q4 (wq_if _ (fun c => ?_) (fun c => ?_))))))))
    · have c := lt_i c
      have r := q6 i.toInt.toNat (by omega)
      have ea : (ka + i).toInt = ka.toInt + i.toInt := ad_i (by omega) (by omega)
      refine wq_gR N.1 rfl (wq_lI (NR_a N (by omega)) (ix_ge h0) q5 (wq_f (ix_ge (by omega)) (wq_gR N.1 rfl (wq_len (NR_a N (by omega)) (by decide) ?_))))
      rw [(N.2.1 7 (by omega)).2]
      have e4 : (Nat.toInt32 4000).toInt = 4000 := i32n (by omega)
      have r' : (Ls 7)[(ka + i).toInt.toNat]? = some (aI (sq σ i.toInt.toNat (ia σ 11 v.toInt.toNat))) := by
        rw [ea, show (ka.toInt + i.toInt).toNat = ka.toInt.toNat + i.toInt.toNat by omega]
        exact r
      exact wq_t (Int32.lt_iff_toInt_lt.mpr (by rw [e4]; omega)) (wq_gR N.1 rfl (wq_lI (NR_a N (by omega)) (ix_ge (by omega)) r' (wq_some (rI_i ⟨rfl, (if_neg (nn_m h0)).symm⟩))))
    · have c := nlt_i c
      refine wq_some (rI_i ⟨rfl, ?_⟩)
      unfold cO
      rw [if_neg (nn_m h0), D'.2 (by omega)]
theorem dN_ch (D : DI σ) (hv : dN σ v) (i : Nat) : dN σ (cO σ v i) := by
  rcases hv with rfl | ⟨h0, h1⟩
  · exact Or.inl (if_pos rfl)
  · have D' := DI_ch D h0 h1 i
    unfold cO
    rw [if_neg (nn_m h0)]
    rcases Int.lt_or_le (i : Int) (ia σ 10 v.toInt.toNat).toInt with g | g
    · obtain ⟨g1, g2, -⟩ := D'.1 g
      exact Or.inr ⟨g1, by omega⟩
    · exact Or.inl (D'.2 g)
theorem dN_u (D : DI σ) (hv : dN σ v) : dN σ (uO σ v) := by
  rcases hv with rfl | ⟨h0, h1⟩
  · exact Or.inl (if_pos rfl)
  · obtain ⟨-, -, -, -, g, -⟩ := DI_k D h0 h1
    unfold uO
    rw [if_neg (nn_m h0)]
    rcases g with g | ⟨g1, g2⟩
    · exact Or.inl (Int32.toInt_inj.mp (by rw [g]; rfl))
    · exact Or.inr ⟨by omega, g2⟩
end No
