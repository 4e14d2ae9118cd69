/-! THE REFERENCE'S OPERATIONS ON TWO VALUES: reckon, sum -/
section Vf
variable {lim : Nat × Nat} {d m r s n : Nat} {σ σ' τ : rS} {b h h' h1 : ah_H} {R S k o x : Int32} {z : Int64} {w v : WD} {res : Option WD}
theorem ng_tb {x : Int64} : x < 0 ↔ tb x 63 = true := by
  rw [Int64.lt_iff_toInt_lt, Int64.toInt_zero]
  show x.toBitVec.toInt < 0 ↔ x.toBitVec.getLsbD 63 = true
  rw [← BitVec.msb_eq_getLsbD_last x.toBitVec, BitVec.msb_eq_toInt]
  exact decide_eq_true_iff.symm
theorem ng_xor {x y : Int64} : (x ^^^ y) < 0 ↔ ¬ (x < 0 ↔ y < 0) := by
  rw [ng_tb, ng_tb, ng_tb, tb_xor]
  cases tb x 63 <;> cases tb y 63 <;> decide
theorem rem_i {x y : Int64} (x0 : -2147483647 ≤ x.toInt) (x1 : x.toInt ≤ 2147483647) (y0 : -2147483647 ≤ y.toInt) (y1 : y.toInt ≤ 2147483647) (hy : ¬ y = 0) : (x / y).toInt = x.toInt.tdiv y.toInt ∧ (x - x / y * y).toInt = x.toInt.tmod y.toInt := by
  have hy' : y.toInt ≠ 0 := fun e => hy (Int64.toInt_inj.mp (by rw [e, Int64.toInt_zero]))
  have q1 : (x.toInt.tdiv y.toInt).natAbs ≤ x.toInt.natAbs := Int.natAbs_tdiv_le_natAbs _ _
  have e1 : (x / y).toInt = x.toInt.tdiv y.toInt := by
    rw [Int64.toInt_div]
    exact Int.bmod_eq_of_le (by omega) (by omega)
  have e2 := Int.mul_tdiv_add_tmod x.toInt y.toInt
  have e3 : (x.toInt.tmod y.toInt).natAbs < y.toInt.natAbs := by
    rw [Int.natAbs_tmod]
    exact Nat.mod_lt _ (by omega)
  have e4 : x.toInt.tdiv y.toInt * y.toInt = x.toInt - x.toInt.tmod y.toInt := by
    rw [Int.mul_comm]
    omega
  have e5 : (x / y * y).toInt = x.toInt - x.toInt.tmod y.toInt := by
    rw [Int64.toInt_mul, e1, e4]
    exact Int.bmod_eq_of_le (by omega) (by omega)
  refine ⟨e1, ?_⟩
  rw [Int64.toInt_sub, e5]
  rw [show x.toInt - (x.toInt - x.toInt.tmod y.toInt) = x.toInt.tmod y.toInt by omega]
  exact Int.bmod_eq_of_le (by omega) (by omega)
theorem bnd_ok {x : Int64} (x0 : -2147483647 ≤ x.toInt) (x1 : x.toInt ≤ 2147483647) : pBnd x = some (pNum x) := by
  have e1 : (-2147483647 : Int64).toInt = -2147483647 := by decide
  have e2 : (2147483647 : Int64).toInt = 2147483647 := by decide
  rw [pBnd, if_neg (fun q => by have := Int64.lt_iff_toInt_lt.mp q; omega), if_pos (Int64.le_iff_toInt_le.mpr (by omega))]
theorem z_137 {y u : Int64} {q : Bool} (H : RH m τ b h) (B : byE τ) (G : sm (fQ r) σ τ) (hR : R.toInt = r) (hr : r < 10100) (e : res = some (pNum (if decide (y < 0) = q then u else u + y))) : wq (ah_val lim ah_P (d + 1) 87 137 [none, none, none, none, none, none, none, some (aJ y), none, none, none, some (aJ u), none] [aI (bI q), aI R, aR m] h) (rI (oQ m b r σ res)) := by
  refine wq_eq q_87_137 ?_
  simp only [lgv_lt]
  refine wq_if _ (fun c => ?_) (fun c => ?_)
  · rw [decide_eq_true c] at e
    cases q with
    | true => exact wq_t rfl (wq_at H.1 (z_num H B G hR hr e))
    | false => exact wq_f (by decide) (wq_at H.1 (z_num H B G hR hr e))
  · rw [decide_eq_false c] at e
    cases q with
    | true => exact wq_f (by decide) (wq_at H.1 (z_num H B G hR hr e))
    | false => exact wq_t rfl (wq_at H.1 (z_num H B G hR hr e))
theorem r_reckon (H : RH m σ b h) (B : byE σ) (hR : R.toInt = r) (hS : S.toInt = s) (hs : s < 10100) (hrs : r < s) (W : WF w) (K : RW σ r w) (V : WF v) (L : RW σ s v) (o2 : ¬ o = 12) (o3 : ¬ o = 13) : wq (vc lim (d + 3) m_Ref_reckon [aR m, aI k, aI o, aI R, aI S] h) (rI (oQ m b r σ (pNumbers o w v))) := by
  have hr : r < 10100 := by omega
  obtain ⟨K0, K2, KL, K1⟩ := K
  obtain ⟨L0, L2, LL, L1⟩ := L
  refine wq_eq e_Ref_reckon (wq_gR H.1 rfl (rd0 H hR hr ?_))
  simp only [lg_eq, lgv_lt]
  rw [K0]
  refine wq_if _ (fun c => ?_) (fun c => wq_at H.1 (z_fail H B sm_0 (by rw [pNumbers, if_neg c])))
  refine wq_gR H.1 rfl (rd0 H hS hs ?_)
  rw [L0]
  refine wq_if _ (fun c1 => ?_) (fun c1 => wq_at H.1 (z_fail H B sm_0 (by rw [pNumbers, if_pos c, if_neg c1])))
  refine wq_gR H.1 rfl (rd4 H hR hr (wq_gR H.1 rfl (rd4 H hS hs ?_)))
  rw [(K2 c).2, (L2 c1).2]
  obtain ⟨-, -, -, -, x0, x1⟩ := W.2.2.2.1 c
  obtain ⟨-, -, -, -, y0, y1⟩ := V.2.2.2.1 c1
  have E : pNumbers o w v = if o = 15 then pBnd (wN w * wN v) else if wN v = 0 then none else if o = 16 then pBnd (wN w / wN v) else if o = 17 then pBnd (pMod (wN w) (wN v)) else pBnd (wN w - wN w / wN v * wN v) := by
    rw [pNumbers, if_pos c, if_pos c1, if_neg o2, if_neg o3]
  refine wq_if _ (fun c2 => wq_at H.1 (z_bnd H B sm_0 hR hr (by rw [E, if_pos c2]))) (fun c2 => ?_)
  refine wq_if _ (fun c3 => wq_at H.1 (z_fail H B sm_0 (by rw [E, if_neg c2, if_pos c3]))) (fun c3 => wq_f c3 ?_)
  refine wq_if _ (fun c4 => wq_at H.1 (z_bnd H B sm_0 hR hr (by rw [E, if_neg c2, if_neg c3, if_pos c4]))) (fun c4 => ?_)
  obtain ⟨q1, q2⟩ := rem_i x0 x1 y0 y1 c3
  have hy' : (wN v).toInt ≠ 0 := fun e => c3 (Int64.toInt_inj.mp (by rw [e, Int64.toInt_zero]))
  have e3 : ((wN w).toInt.tmod (wN v).toInt).natAbs < (wN v).toInt.natAbs := by
    rw [Int.natAbs_tmod]
    exact Nat.mod_lt _ (by omega)
  have sgn : (0 ≤ (wN w).toInt → 0 ≤ (wN w).toInt.tmod (wN v).toInt) ∧ ((wN w).toInt ≤ 0 → (wN w).toInt.tmod (wN v).toInt ≤ 0) := by
    refine ⟨fun q => Int.tmod_nonneg _ q, fun q => ?_⟩
    have := Int.tmod_nonneg (wN v).toInt (a := -(wN w).toInt) (by omega)
    rw [Int.neg_tmod] at this
    omega
  generalize hu : wN w - wN w / wN v * wN v = u at q2 E ⊢
  refine wq_if _ (fun c5 => ?_) (fun c5 => ?_)
  · have E2 : pNumbers o w v = pBnd (pMod (wN w) (wN v)) := by rw [E, if_neg c2, if_neg c3, if_neg c4, if_pos c5]
    have M : pMod (wN w) (wN v) = if (wN w ^^^ wN v) < 0 then if u = 0 then u else u + wN v else u := by
      unfold pMod
      rw [hu]
    have s0 : (wN w < 0) ↔ (wN w).toInt < 0 := by rw [Int64.lt_iff_toInt_lt, Int64.toInt_zero]
    have s1 : (wN v < 0) ↔ (wN v).toInt < 0 := by rw [Int64.lt_iff_toInt_lt, Int64.toInt_zero]
    have s2 : (u < 0) ↔ u.toInt < 0 := by rw [Int64.lt_iff_toInt_lt, Int64.toInt_zero]
    refine wq_if _ (fun c6 => ?_) (fun c6 => ?_)
    · refine wq_at H.1 (z_num H B sm_0 hR hr ?_)
      rw [E2, show pMod (wN w) (wN v) = u by rw [M]; by_cases c7 : (wN w ^^^ wN v) < 0 <;> simp [c7, c6]]
      exact bnd_ok (by omega) (by omega)
    · have u0 : u.toInt ≠ 0 := fun e => c6 (Int64.toInt_inj.mp (by rw [e, Int64.toInt_zero]))
      have F : ∀ q : Bool, (u < 0 ↔ q = true) → pNumbers o w v = some (pNum (if decide (wN v < 0) = q then u else u + wN v)) := fun q hq => by
        have hx : (wN w < 0) ↔ (u < 0) := by rw [s0, s2]; omega
        rw [E2, M]
        by_cases c7 : (wN w ^^^ wN v) < 0
        · have c8 : ¬ decide (wN v < 0) = q := fun e => (ng_xor.mp c7) (by rw [hx, hq, ← e]; exact decide_eq_true_iff)
          rw [if_pos c7, if_neg c6, if_neg c8]
          have c9 := ng_xor.mp c7
          rw [s0, s1] at c9
          have ea : (u + wN v).toInt = u.toInt + (wN v).toInt := by
            rw [Int64.toInt_add]
            exact Int.bmod_eq_of_le (by omega) (by omega)
          exact bnd_ok (by omega) (by omega)
        · have c8 : decide (wN v < 0) = q := by
            have c7 := Decidable.not_not.mp (fun e => c7 (ng_xor.mpr e))
            rw [hx, hq] at c7
            cases q with
            | true => exact decide_eq_true (c7.mp rfl)
            | false => exact decide_eq_false (fun e => absurd (c7.mpr e) (by decide))
          rw [if_neg c7, if_pos c8]
          exact bnd_ok (by omega) (by omega)
      refine wq_if _ (fun c7 => ?_) (fun c7 => ?_)
      · exact z_137 (q := true) H B sm_0 hR hr (F true ⟨fun _ => rfl, fun _ => c7⟩)
      · exact z_137 (q := false) H B sm_0 hR hr (F false ⟨fun e => absurd e c7, fun e => by cases e⟩)
  · refine wq_at H.1 (z_num H B sm_0 hR hr ?_)
    rw [E, if_neg c2, if_neg c3, if_neg c4, if_neg c5]
    exact bnd_ok (by omega) (by omega)
/-! numbers of rows -/
theorem nO (W : WF w) (K : RW σ r w) (hi : wI w = 1) {x : Int64} (hx : ∀ k, k < 64 → tb x k = (decide ((k : Int) < (ia σ 1 r).toInt) && cHigh (el σ r k))) : x = pOnes w := by
  apply tb_ext
  intro k hk
  obtain ⟨a1, -, a5⟩ := K.2.2.2 hi
  rw [hx k hk, tb_ones, a1]
  by_cases c : (k : Int) < (wL w).toInt
  · rw [decide_eq_true c, a5 k c, cd_hi W, Bool.true_and]
  · obtain ⟨-, z1, -⟩ := W.2.2.2.2.2.1 k (by omega)
    rw [decide_eq_false c, z1]
    rfl
theorem cl (W : WF w) (K : RW σ r w) (hi : wI w = 1) : allB (fun k => cLow (el σ r k) || cHigh (el σ r k)) (ia σ 1 r).toInt.toNat = pClear w := by
  obtain ⟨a1, -, a5⟩ := K.2.2.2 hi
  have l1 := W.2.1.2
  have P : ∀ k, k < (wL w).toInt.toNat → (cLow (el σ r k) || cHigh (el σ r k)) = tb (w1 w) k := fun k hk => by
    rw [a5 k (by omega), cd_lo W, cd_hi W]
    cases tb (w1 w) k <;> cases tb (w0 w) k <;> rfl
  rw [a1]
  have Q : allB (fun k => cLow (el σ r k) || cHigh (el σ r k)) (wL w).toInt.toNat = true ↔ w1 w = mkL (wL w) := by
    rw [allB_i]
    constructor
    · intro e
      apply tb_ext
      intro k hk
      rw [tb_mk W.2.1.1 l1 hk]
      by_cases c : k < (wL w).toInt.toNat
      · rw [decide_eq_true c, ← P k c]
        exact e k c
      · rw [decide_eq_false c]
        exact (W.2.2.2.2.2.1 k (by omega)).2.1
    · intro e k hk
      show (cLow (el σ r k) || cHigh (el σ r k)) = true
      rw [P k hk, e, tb_mk W.2.1.1 l1 (by omega), decide_eq_true hk]
  unfold pClear
  by_cases c : w1 w = mkL (wL w)
  · rw [decide_eq_true c, Q.mpr c]
  · rw [decide_eq_false c]
    cases hh : allB (fun k => cLow (el σ r k) || cHigh (el σ r k)) (wL w).toInt.toNat with
    | false => rfl
    | true => exact absurd (Q.mp hh) c
theorem RW_b (W : WF w) (K : RW σ r w) (hi : wI w = 1) : 0 ≤ (ia σ 1 r).toInt ∧ (ia σ 1 r).toInt ≤ 64 := by
  rw [(K.2.2.2 hi).1]
  have := W.2.1
  omega
theorem r_clr (H : RH m σ b h) (hR : R.toInt = r) (hr : r < 10100) (W : WF w) (K : RW σ r w) (hi : wI w = 1) : wq (vc lim (d + 2) m_Ref_clear [aR m, aI R] h) (rI fun x h' => h' = h ∧ x = bI (pClear w)) := by
  have := r_clear (lim := lim) (d := d) H hR hr (RW_b W K hi).1 (RW_b W K hi).2
  rw [cl W K hi] at this
  exact this
theorem r_nO (H : RH m σ b h) (hR : R.toInt = r) (hr : r < 10100) (W : WF w) (K : RW σ r w) (hi : wI w = 1) : wq (vc lim (d + 2) m_Ref_numberOf [aR m, aI R] h) (rJ fun x h' => h' = h ∧ x = pOnes w) := by
  refine wq_mono (r_numberOf H hR hr (RW_b W K hi).1 (RW_b W K hi).2) ?_
  rintro z ⟨x, h', rfl, e, p⟩
  exact rJ_i ⟨e, nO W K hi p⟩
end Vf
