/-! THE REFERENCE'S OPERATIONS ON TWO VALUES: shift, compare, all of them -/
section Vi
variable {lim : Nat × Nat} {d m r s n : Nat} {σ σ' τ : rS} {b h h' h1 : ah_H} {R S k o x l q : Int32} {y z : Int64} {w v : WD} {res : Option WD} {g : Nat → Int32}
theorem one_l : ∀ m : Fin 64, shl 1 (Int32.ofNat m.1) - 1 = if m.1 = 0 then 0 else mkL (Int32.ofNat m.1) := by decide +kernel
theorem tb_low {k : Nat} (h0 : 0 ≤ q.toInt) (h1 : q.toInt < 64) (hk : k < 64) : tb (shl 1 q - 1) k = decide (k < q.toInt.toNat) := by
  obtain ⟨m, e1, e2⟩ := sh_n h0 h1
  rw [e2, e1, one_l m]
  by_cases c : m.1 = 0
  · rw [if_pos c, tb_0, c]
    rfl
  · rw [if_neg c]
    have e3 : (Int32.ofNat m.1).toInt = m.1 := by rw [← e1]; omega
    rw [tb_mk (by omega) (by have := m.2; omega) hk]
    exact decide_eq_decide.mpr (by omega)
/-- how far a shift goes -/
theorem by_i (l0 : 1 ≤ l.toInt) (l1 : l.toInt ≤ 64) (y0 : -2147483647 ≤ y.toInt) (y1 : y.toInt ≤ 2147483647) : (pBy l y).toInt = if (l.toInt : Int) < (y.toInt.natAbs : Int) then l.toInt else y.toInt.natAbs := by
  have ea : (if (0 : Int64) < y then y else -y).toInt = (y.toInt.natAbs : Int) := by
    by_cases c : (0 : Int64) < y
    · rw [if_pos c]
      have := Int64.lt_iff_toInt_lt.mp c
      rw [Int64.toInt_zero] at this
      omega
    · rw [if_neg c, Int64.toInt_neg]
      have : ¬ (0 : Int64).toInt < y.toInt := fun e => c (Int64.lt_iff_toInt_lt.mpr e)
      rw [Int64.toInt_zero] at this
      rw [Int.bmod_eq_of_le (by omega) (by omega)]
      omega
  unfold pBy
  generalize hu : (if (0 : Int64) < y then y else -y) = u at ea
  have el : l.toInt64.toInt = l.toInt := Int32.toInt_toInt64 l
  by_cases c : l.toInt64 < u
  · rw [if_pos c, Int64.toInt_toInt32, el]
    have := Int64.lt_iff_toInt_lt.mp c
    rw [if_pos (by omega)]
    exact Int.bmod_eq_of_le (by omega) (by omega)
  · rw [if_neg c, Int64.toInt_toInt32, ea]
    have : ¬ l.toInt64.toInt < u.toInt := fun e => c (Int64.lt_iff_toInt_lt.mpr e)
    rw [if_neg (by omega)]
    exact Int.bmod_eq_of_le (by omega) (by omega)
/-- what stands at k behind a shift -/
def shC (w : WD) (y : Int64) (k : Nat) : Int32 := if 0 ≤ (k : Int) - y.toInt ∧ (k : Int) - y.toInt < (wL w).toInt then cdW w ((k : Int) - y.toInt).toNat else 2
theorem cd_shift {k : Nat} (W : WF w) (y0 : -2147483647 ≤ y.toInt) (y1 : y.toInt ≤ 2147483647) (hk : (k : Int) < (wL w).toInt) : cdW (pShift w y) k = shC w y k := by
  have l0 := W.2.1.1
  have l1 := W.2.1.2
  have eb := by_i l0 l1 y0 y1
  have hy : (y < 0) ↔ y.toInt < 0 := by rw [Int64.lt_iff_toInt_lt, Int64.toInt_zero]
  unfold pShift shC
  by_cases c : pBy (wL w) y = wL w
  · rw [if_pos c]
    have eb' : (wL w).toInt ≤ (y.toInt.natAbs : Int) := by
      rw [c] at eb
      by_cases c2 : (wL w).toInt < (y.toInt.natAbs : Int)
      · omega
      · rw [if_neg c2] at eb; omega
    rw [c, cd_hold l0 l1 hk, tb_m1 (by omega), tb_0, if_neg (by omega)]
    decide
  · have c2 : ¬ (wL w).toInt < (y.toInt.natAbs : Int) := fun e => c (Int32.toInt_inj.mp (by rw [eb, if_pos e]))
    rw [if_neg c2] at eb
    have c3 : ¬ (wL w).toInt = (y.toInt.natAbs : Int) := fun e => c (Int32.toInt_inj.mp (by rw [eb, e]))
    rw [if_neg c]
    by_cases cy : y < 0
    · rw [if_pos cy, cd_hold l0 l1 hk, tb_or, tb_not (by omega), tb_shr (by omega) (by omega), tb_shr (by omega) (by omega), tb_shr (by omega) (by omega), tb_shr (by omega) (by omega), tb_shr (by omega) (by omega)]
      have cy := hy.mp cy
      have e1 : ((k : Int) - y.toInt).toNat = (pBy (wL w) y).toInt.toNat + k := by omega
      by_cases c4 : (k : Int) - y.toInt < (wL w).toInt
      · rw [if_pos ⟨by omega, c4⟩, e1, tb_mk l0 l1 (by omega), decide_eq_true (by omega)]
        simp only [Bool.not_true, Bool.or_false]
        rfl
      · rw [if_neg (fun e => c4 e.2)]
        obtain ⟨z0, z1, z2, z3⟩ := W.2.2.2.2.2.1 ((pBy (wL w) y).toInt.toNat + k) (by omega)
        have zm : tb (mkL (wL w)) ((pBy (wL w) y).toInt.toNat + k) = false := by
          by_cases c5 : (pBy (wL w) y).toInt.toNat + k < 64
          · rw [tb_mk l0 l1 c5, decide_eq_false (by omega)]
          · exact tb_hi (by omega)
        rw [z0, z1, z2, z3, zm]
        decide
    · have cy' : ¬ y.toInt < 0 := fun e => cy (hy.mpr e)
      rw [if_neg cy, cd_hold l0 l1 hk, tb_or, tb_low (by omega) (by omega) (by omega), tb_shl (by omega) (by omega) (by omega), tb_shl (by omega) (by omega) (by omega), tb_shl (by omega) (by omega) (by omega), tb_shl (by omega) (by omega) (by omega)]
      have e1 : ((k : Int) - y.toInt).toNat = k - (pBy (wL w) y).toInt.toNat := by omega
      by_cases c4 : k < (pBy (wL w) y).toInt.toNat
      · rw [decide_eq_true c4, if_neg (by omega)]
        simp only [Bool.not_true, Bool.false_and, Bool.false_or]
        decide
      · rw [decide_eq_false c4, if_pos ⟨by omega, by omega⟩, e1]
        simp only [Bool.not_false, Bool.true_and, Bool.or_false]
        rfl
theorem shC_b {k : Nat} : 0 ≤ (shC w y k).toInt ∧ (shC w y k).toInt ≤ 15 := by
  unfold shC
  by_cases c : 0 ≤ (k : Int) - y.toInt ∧ (k : Int) - y.toInt < (wL w).toInt
  · rw [if_pos c]; exact cdW_bd
  · rw [if_neg c]; decide
theorem pShift_1 : wI (pShift w y) = 1 ∧ wL (pShift w y) = wL w := by
  unfold pShift
  by_cases c : pBy (wL w) y = wL w
  · rw [if_pos c]; exact ⟨rfl, c⟩
  · rw [if_neg c]
    by_cases c2 : y < 0
    · rw [if_pos c2]; exact ⟨rfl, rfl⟩
    · rw [if_neg c2]; exact ⟨rfl, rfl⟩
theorem r_shift (H : RH m σ b h) (B : byE σ) (hR : R.toInt = r) (hS : S.toInt = s) (hs : s < 10100) (hrs : r < s) (W : WF w) (K : RW σ r w) (V : WF v) (L : RW σ s v) (ho : (o = 19 ∧ q = 1) ∨ (o = 20 ∧ q = 0)) : wq (vc lim (d + 3) m_Ref_shift [aR m, aI k, aI q, aI R, aI S] h) (rI (oQ m b r σ (pShifted o w v))) := by
  have hr : r < 10100 := by omega
  obtain ⟨K0, K2, KL, K1⟩ := K
  obtain ⟨L0, L2, LL, L1⟩ := L
  have l0 := W.2.1.1
  have l1 := W.2.1.2
  refine wq_eq e_Ref_shift (rd0' H hR hr K0 (wq_if _ (fun c => rd0' H hS hs L0 (wq_if _ (fun c1 => ?_) (fun c1 => ?_))) (fun c => ?_)))
  rotate_left
  · exact wq_at H.1 (z_fail H B sm_0 (by rw [pShifted, if_pos c, if_neg c1]))
  · exact wq_at H.1 (z_fail H B sm_0 (by rw [pShifted, if_neg c]))
  obtain ⟨a1, a4, a5⟩ := K1 c
  obtain ⟨-, -, -, -, v0, v1⟩ := V.2.2.2.1 c1
  have D : ∀ (y : Int64) (h1 : ah_H), pShifted o w v = some (pShift w y) → -2147483647 ≤ y.toInt → y.toInt ≤ 2147483647 → RH m (sCp σ r s) b h1 → wq (ah_val lim ah_P (d + 2) 88 62 [some (aR m), none, none, some (aI R), some (aI S), some (aJ y), none, some (aI 0), none, none] [] h1) (rI (oQ m b r σ (pShifted o w v))) := fun y h1 e y0 y1 H1 => by
    generalize hτ : sCp σ r s = τ at H1
    have Bτ : byE τ := by
      rw [← hτ]
      exact by_E (by_J (by_1 (by_0 B (B.1 r hr).1 (B.1 r hr).2.1) (B.1 r hr).2.2.1 (B.1 r hr).2.2.2)) (fun k hk => B.2 _ (by omega))
    have Gτ : sm (fQ r) σ τ := by
      rw [← hτ]
      exact sm_E (sm_J (sm_I (sm_I sm_0 (Or.inl ⟨Or.inl rfl, by omega⟩)) (Or.inl ⟨Or.inr (Or.inl rfl), by omega⟩)) (Or.inl ⟨Or.inr (Or.inr rfl), by omega⟩)) (fun k _ => fq5 (by omega))
    have t0 : ia τ 0 r = 1 := by
      rw [← hτ]
      show ia (setE (sJ (sI (sI σ 0 s (ia σ 0 r)) 1 s (ia σ 1 r)) 4 s (ja σ 4 r)) s 64 fun k => el σ r k) 0 r = 1
      rw [setE_j (by decide)]
      show ia (sI (sI σ 0 s (ia σ 0 r)) 1 s (ia σ 1 r)) 0 r = 1
      rw [iaI_j (by decide), iaI_i (by omega), K0, c]
    have t1 : ia τ 1 r = wL w := by
      rw [← hτ]
      show ia (setE (sJ (sI (sI σ 0 s (ia σ 0 r)) 1 s (ia σ 1 r)) 4 s (ja σ 4 r)) s 64 fun k => el σ r k) 1 r = _
      rw [setE_j (by decide)]
      show ia (sI (sI σ 0 s (ia σ 0 r)) 1 s (ia σ 1 r)) 1 r = _
      rw [iaI_i (by omega), iaI_j (by decide), a1]
    have t4 : ja τ 4 r = 0 := by
      rw [← hτ]
      show ja (sJ (sI (sI σ 0 s (ia σ 0 r)) 1 s (ia σ 1 r)) 4 s (ja σ 4 r)) 4 r = 0
      rw [jaJ_i (by omega)]
      exact a4
    have ts : ∀ p : Nat, (p : Int) < (wL w).toInt → el τ s p = cdW w p := fun p hp => by
      rw [← hτ]
      exact (setE_e (by omega)).trans (a5 p hp)
    have Lp : ∀ (n : Nat) (v7 : Int32) (h : ah_H), v7.toInt + n = (wL w).toInt → 0 ≤ v7.toInt → RH m (setE τ r v7.toInt.toNat (shC w y)) b h → wq (ah_val lim ah_P (d + 2) 88 62 [some (aR m), none, none, some (aI R), some (aI S), some (aJ y), none, some (aI v7), none, none] [] h) (rI fun x h' => x = 1 ∧ RH m (setE τ r (wL w).toInt.toNat (shC w y)) b h') := by
      intro n
      induction n with
      | zero =>
        intro v7 h hv h0 H
        refine wq_eq q_88_62 (rd1' H hR hr ((setE_j (by decide)).trans t1) (wq_f (fun q => by have := lt_i q; omega) (wq_t (by decide) (wq_some (rI_i ⟨rfl, ?_⟩)))))
        rw [show (wL w).toInt.toNat = v7.toInt.toNat by omega]
        exact H
      | succ n ih =>
        intro v7 h hv h0 H
        have ei := inc_i (v := v7) (by omega)
        have ea : (v7.toInt64 - y).toInt = v7.toInt - y.toInt := by
          rw [Int64.toInt_sub, Int32.toInt_toInt64]
          exact Int.bmod_eq_of_le (by omega) (by omega)
        have NX : ∀ (c : Int32) (h : ah_H), RH m (setE τ r v7.toInt.toNat (shC w y)) b h → shC w y v7.toInt.toNat = c → wq (ah_cV (vc lim (d + 2) 25 [aR m, aI R, aI v7, aI c] h) (nx h) fun h3 => ah_val lim ah_P (d + 2) 88 62 [some (aR m), none, none, some (aI R), some (aI S), some (aJ y), none, some (aI (v7 + 1)), none, none] [] h3) (rI fun x h' => x = 1 ∧ RH m (setE τ r (wL w).toInt.toNat (shC w y)) b h') := fun c h H e => by
          have bb := shC_b (w := w) (y := y) (k := v7.toInt.toNat)
          rw [e] at bb
          refine wq_cV (se_st H hR hr h0 (by omega) e bb.1 (by omega)) fun h1 H1 => ih (v7 + 1) h1 (by omega) (by omega) ?_
          rw [show (v7 + 1).toInt.toNat = v7.toInt.toNat + 1 by omega]
          exact H1
        refine wq_eq q_88_62 (rd1' H hR hr ((setE_j (by decide)).trans t1) ?_)
        simp only [lgv_lt]
        refine wq_t (Int32.lt_iff_toInt_lt.mpr (by omega)) (wq_if _ (fun c2 => ?_) (fun c2 => ?_))
        · have := Int64.lt_iff_toInt_lt.mp c2
          rw [Int64.toInt_zero] at this
          exact wq_at H.1 (NX 2 h H (if_neg (by omega)))
        · have n2 : ¬ (v7.toInt64 - y).toInt < 0 := fun e => c2 (Int64.lt_iff_toInt_lt.mpr (by rw [Int64.toInt_zero]; exact e))
          refine rd1' H hR hr ((setE_j (by decide)).trans t1) (wq_if _ (fun c3 => ?_) (fun c3 => ?_))
          · have := Int64.lt_iff_toInt_lt.mp c3
            rw [Int32.toInt_toInt64] at this
            have e2 : (v7.toInt64 - y).toInt32.toInt = v7.toInt - y.toInt := by
              rw [Int64.toInt_toInt32, ea]
              exact Int.bmod_eq_of_le (by omega) (by omega)
            refine wq_at H.1 (wq_cI (r_element H hS hs (by omega) (by omega)) ?_)
            rintro _ _ ⟨rfl, rfl⟩
            rw [setE_n (by omega), e2]
            refine wq_at H.1 (NX _ _ H ?_)
            rw [shC, if_pos ⟨by omega, by omega⟩]
            have := ts (v7.toInt - y.toInt).toNat (by omega)
            rw [show ((v7.toInt.toNat : Int) - y.toInt).toNat = (v7.toInt - y.toInt).toNat by omega]
            exact this.symm
          · have n3 : ¬ (v7.toInt64 - y).toInt < (wL w).toInt := fun e => c3 (Int64.lt_iff_toInt_lt.mpr (by rw [Int32.toInt_toInt64]; exact e))
            exact wq_at H.1 (NX 2 h H (if_neg (by omega)))
    refine wq_mono (Lp (wL w).toInt.toNat 0 h1 (by rw [Int32.toInt_zero]; omega) (by rw [Int32.toInt_zero]; omega) (by rw [show (0 : Int32).toInt.toNat = 0 from rfl, setE_0]; exact H1)) ?_
    rintro _ ⟨x, h', rfl, rfl, H'⟩
    refine rI_i ?_
    rw [e]
    refine ⟨_, H', by_E Bτ (fun k _ => ⟨shC_b.1, Int.le_trans shC_b.2 (by decide)⟩), sm_E Gτ (fun k _ => fq5 (by omega)), rfl, RW_mk1 pShift_1.1 ?_ ?_ t4 (fun k hk => ?_)⟩
    · rw [setE_j (by decide), t0]
    · rw [setE_j (by decide), t1, pShift_1.2]
    · rw [pShift_1.2] at hk
      exact (setE_e (by omega)).trans (cd_shift W y0 y1 hk).symm
  refine wq_if _ (fun c2 => ?_) (fun c2 => ?_)
  · have eo : ¬ o = 19 := by rcases ho with ⟨-, e⟩ | ⟨e, -⟩; (rw [e] at c2; exact absurd c2 (by decide)); (rw [e]; decide)
    refine rd4' H hS hs (L2 c1).2 (wq_at H.1 (wq_cV (r_copy H B hS hs hR hr (by omega)) fun h1 H1 => D _ h1 (by rw [pShifted, if_pos c, if_pos c1, if_neg eo]) ?_ ?_ H1))
    · rw [Int64.toInt_neg, Int.bmod_eq_of_le (by omega) (by omega)]; omega
    · rw [Int64.toInt_neg, Int.bmod_eq_of_le (by omega) (by omega)]; omega
  · have eo : o = 19 := by rcases ho with ⟨e, -⟩ | ⟨-, e⟩; exact e; exact absurd e c2
    exact rd4' H hS hs (L2 c1).2 (wq_at H.1 (wq_cV (r_copy H B hS hs hR hr (by omega)) fun h1 H1 => D _ h1 (by rw [pShifted, if_pos c, if_pos c1, if_pos eo]) v0 v1 H1))
/-! compare -/
theorem key_i {x : Int64} : (x ^^^ (-9223372036854775808)).toInt = (x.toBitVec.toNat : Int) - 9223372036854775808 := by
  have hA := x.toBitVec.isLt
  generalize hz : x ^^^ (-9223372036854775808 : Int64) = z
  have hZ := z.toBitVec.isLt
  have bits : ∀ k, k < 64 → z.toBitVec.toNat.testBit k = (x.toBitVec.toNat.testBit k ^^ decide (k = 63)) := fun k hk => by
    have e : tb z k = (tb x k ^^ tb (-9223372036854775808) k) := by rw [← hz, tb_xor]
    have e2 : ∀ k : Fin 64, tb (-9223372036854775808) k.1 = decide (k.1 = 63) := by decide +kernel
    rw [e2 ⟨k, hk⟩] at e
    exact e
  have m1 : z.toBitVec.toNat % 2 ^ 63 = x.toBitVec.toNat % 2 ^ 63 := by
    apply Nat.eq_of_testBit_eq
    intro i
    rw [Nat.testBit_mod_two_pow, Nat.testBit_mod_two_pow]
    by_cases c : i < 63
    · rw [bits i (by omega), decide_eq_false (show ¬ i = 63 by omega), Bool.xor_false]
    · rw [decide_eq_false c]
      rfl
  have a1 := Nat.mod_pow_succ (x := x.toBitVec.toNat) (b := 2) (k := 63)
  have a2 := Nat.mod_pow_succ (x := z.toBitVec.toNat) (b := 2) (k := 63)
  rw [show 63 + 1 = 64 from rfl, Nat.mod_eq_of_lt hA] at a1
  rw [show 63 + 1 = 64 from rfl, Nat.mod_eq_of_lt hZ] at a2
  have b63 := bits 63 (by omega)
  rw [Nat.testBit_eq_decide_div_mod_eq, Nat.testBit_eq_decide_div_mod_eq, decide_eq_true rfl, Bool.xor_true] at b63
  show z.toBitVec.toInt = _
  rw [BitVec.toInt_eq_toNat_cond]
  generalize x.toBitVec.toNat / 2 ^ 63 % 2 = p at a1 b63
  generalize z.toBitVec.toNat / 2 ^ 63 % 2 = q at a2 b63
  have hp : p = 0 ∨ p = 1 := by omega
  have hq : q = 0 ∨ q = 1 := by omega
  rcases hp with rfl | rfl <;> rcases hq with rfl | rfl
  · exact absurd b63 (by decide)
  · rw [if_neg (by omega)]
    omega
  · rw [if_pos (by omega)]
    omega
  · exact absurd b63 (by decide)
/-- -1, 0, 1 -/
def cmp3 (a c : Nat) : Int32 := if a < c then -1 else if c < a then 1 else 0
end Vi
