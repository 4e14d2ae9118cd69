/-! THE REFERENCE'S VALUES: loops over elements -/
def allB (f : Nat → Bool) : Nat → Bool
  | 0 => true
  | n + 1 => allB f n && f n
theorem allB_i {f : Nat → Bool} : ∀ {n : Nat}, allB f n = true ↔ ∀ k, k < n → f k = true := by
  intro n
  induction n with
  | zero => exact ⟨fun _ k hk => absurd hk (by omega), fun _ => rfl⟩
  | succ n ih =>
    show (allB f n && f n) = true ↔ _
    rw [Bool.and_eq_true, ih]
    refine ⟨fun e k hk => ?_, fun e => ⟨fun k hk => e k (by omega), e n (by omega)⟩⟩
    by_cases c : k = n
    · rw [c]; exact e.2
    · exact e.1 k (by omega)
theorem tb_nat {x : Int64} {k : Nat} : tb x k = x.toBitVec.toNat.testBit k := rfl
theorem tb_d0 {x : Int64} {k : Nat} (hk : k < 64) : tb ((2 : Int64) * x + 0) k = if k = 0 then false else tb x (k - 1) := by
  rw [Int64.add_zero, tb_nat, tb_nat, Int64.toBitVec_mul, BitVec.toNat_mul]
  show ((2 * x.toBitVec.toNat) % 2 ^ 64).testBit k = _
  rw [Nat.testBit_mod_two_pow, decide_eq_true hk, Bool.true_and]
  cases k with
  | zero => rw [if_pos rfl, Nat.testBit_zero]; simp
  | succ k => rw [if_neg (by omega), Nat.testBit_succ, show 2 * x.toBitVec.toNat / 2 = x.toBitVec.toNat by omega]; rfl
theorem tb_d1 {x : Int64} {k : Nat} (hk : k < 64) : tb ((2 : Int64) * x + 1) k = if k = 0 then true else tb x (k - 1) := by
  rw [tb_nat, tb_nat, Int64.toBitVec_add, BitVec.toNat_add, Int64.toBitVec_mul, BitVec.toNat_mul]
  show ((2 * x.toBitVec.toNat % 2 ^ 64 + 1) % 2 ^ 64).testBit k = _
  rw [Nat.testBit_mod_two_pow, decide_eq_true hk, Bool.true_and]
  cases k with
  | zero => rw [if_pos rfl, Nat.testBit_zero]; simp; omega
  | succ k =>
    rw [if_neg (by omega), Nat.testBit_succ, show (2 * x.toBitVec.toNat % 2 ^ 64 + 1) / 2 = x.toBitVec.toNat % 2 ^ 63 by omega, Nat.testBit_mod_two_pow, decide_eq_true (by omega), Bool.true_and]
    rfl
theorem sh_a : ∀ m : Fin 64, (((Int32.ofNat m.1).toInt64 &&& 63).toBitVec.smod 64).toNat = m.1 := sh_l
theorem tb_sar {x : Int64} {n : Int32} (h0 : 0 ≤ n.toInt) (h1 : n.toInt < 64) : tb (x >>> (n.toInt64 &&& 63)) 0 = tb x n.toInt.toNat := by
  obtain ⟨m, e1, e2⟩ := sh_n h0 h1
  rw [e2, e1]
  unfold tb
  rw [Int64.toBitVec_shiftRight, BitVec.sshiftRight_eq', sh_a m, BitVec.getLsbD_sshiftRight]
  simp
theorem tb_and1 {x : Int64} : (x &&& 1) = 1 ↔ tb x 0 = true := by
  constructor
  · intro e
    have := congrArg (fun y => tb y 0) e
    simp only [tb_and, tb_1] at this
    simpa using this
  · intro e
    apply tb_ext
    intro k hk
    rw [tb_and, tb_1]
    by_cases c : k = 0
    · subst c; simp [e]
    · simp [c]
theorem iaI_j {σ : rS} {j k a i : Nat} {x : Int32} (h : a ≠ j) : ia (sI σ j k x) a i = ia σ a i := if_neg (fun e => h e.1)
theorem iaI_i {σ : rS} {j k a i : Nat} {x : Int32} (h : i ≠ k) : ia (sI σ j k x) a i = ia σ a i := if_neg (fun e => h e.2)
theorem iaI_e {σ : rS} {j k : Nat} {x : Int32} : ia (sI σ j k x) j k = x := if_pos ⟨rfl, rfl⟩
theorem jaJ_j {σ : rS} {j k a i : Nat} {x : Int64} (h : a ≠ j) : ja (sJ σ j k x) a i = ja σ a i := if_neg (fun e => h e.1)
theorem jaJ_i {σ : rS} {j k a i : Nat} {x : Int64} (h : i ≠ k) : ja (sJ σ j k x) a i = ja σ a i := if_neg (fun e => h e.2)
theorem jaJ_e {σ : rS} {j k : Nat} {x : Int64} : ja (sJ σ j k x) j k = x := if_pos ⟨rfl, rfl⟩
theorem bI01 (t : Bool) : bI t = 0 ∨ bI t = 1 := by
  revert t
  decide
section Vb
variable {lim : Nat × Nat} {d m r s n : Nat} {σ : rS} {b h : ah_H} {R S k v f : Int32} {g : Nat → Int32} {z : Int64}
theorem inc_i {v : Int32} (h : v.toInt < 2147483647) : (v + 1).toInt = v.toInt + 1 := ad_i (by have := bd_i v; show _ ≤ v.toInt + 1; omega) (by show v.toInt + 1 ≤ _; omega)
abbrev el (σ : rS) (r k : Nat) : Int32 := ia σ 5 (64 * r + k)
/-- bytes and longs of a register -/
theorem rd0 {K1 : Int32 → Option ah_R} {Φ : ah_R → Prop} (H : RH m σ b h) (hR : R.toInt = r) (hr : r < 10100) (c : wq (K1 (ia σ 0 r)) Φ) : wq (ah_lI h (some (m + 1 + 0)) 103 R K1) Φ := ra_I H (j := 0) (by omega) rfl rfl (by omega) (by show R.toInt < (10100 : Int); omega) (by rw [show R.toInt.toNat = r by omega]; exact c)
theorem rd1 {K1 : Int32 → Option ah_R} {Φ : ah_R → Prop} (H : RH m σ b h) (hR : R.toInt = r) (hr : r < 10100) (c : wq (K1 (ia σ 1 r)) Φ) : wq (ah_lI h (some (m + 1 + 1)) 103 R K1) Φ := ra_I H (j := 1) (by omega) rfl rfl (by omega) (by show R.toInt < (10100 : Int); omega) (by rw [show R.toInt.toNat = r by omega]; exact c)
theorem rd4 {K1 : Int64 → Option ah_R} {Φ : ah_R → Prop} (H : RH m σ b h) (hR : R.toInt = r) (hr : r < 10100) (c : wq (K1 (ja σ 4 r)) Φ) : wq (ah_lJ h (some (m + 1 + 4)) 101 R K1) Φ := ra_J H (j := 4) (by omega) rfl (by omega) (by show R.toInt < (10100 : Int); omega) (by rw [show R.toInt.toNat = r by omega]; exact c)
theorem r_clear (H : RH m σ b h) (hR : R.toInt = r) (hr : r < 10100) (l0 : 0 ≤ (ia σ 1 r).toInt) (l1 : (ia σ 1 r).toInt ≤ 64) : wq (vc lim (d + 2) m_Ref_clear [aR m, aI R] h) (rI fun x h' => h' = h ∧ x = bI (allB (fun k => cLow (el σ r k) || cHigh (el σ r k)) (ia σ 1 r).toInt.toNat)) := by
  refine wq_eq e_Ref_clear ?_
  have L : ∀ (n : Nat) (v : Int32), v.toInt + n = (ia σ 1 r).toInt → 0 ≤ v.toInt → wq (ah_val lim ah_P (d + 1) 71 4 [some (aR m), some (aI R), some (aI (bI (allB (fun k => cLow (el σ r k) || cHigh (el σ r k)) v.toInt.toNat))), some (aI v)] [] h) (rI fun x h' => h' = h ∧ x = bI (allB (fun k => cLow (el σ r k) || cHigh (el σ r k)) (ia σ 1 r).toInt.toNat)) := by
    intro n
    induction n with
    | zero =>
      intro v hv h0
      refine wq_eq q_71_4 (wq_gR H.1 rfl (rd1 H hR hr (wq_f (fun q => by have := lt_i q; omega) (wq_t ?_ (wq_some (rI_i ⟨rfl, ?_⟩))))))
      · generalize allB _ _ = t
        revert t
        decide
      · rw [show v.toInt.toNat = (ia σ 1 r).toInt.toNat by omega]
    | succ n ih =>
      intro v hv h0
      have e1 := inc_i (v := v) (by omega)
      have I := ih (v + 1) (by omega) (by omega)
      rw [show (v + 1).toInt.toNat = v.toInt.toNat + 1 by omega] at I
      have I : ∀ t : Bool, (allB (fun k => cLow (el σ r k) || cHigh (el σ r k)) v.toInt.toNat && (cLow (el σ r v.toInt.toNat) || cHigh (el σ r v.toInt.toNat))) = t → wq (ah_val lim ah_P (d + 1) 71 4 [some (aR m), some (aI R), some (aI (bI t)), some (aI (v + 1))] [] h) (rI fun x h' => h' = h ∧ x = bI (allB (fun k => cLow (el σ r k) || cHigh (el σ r k)) (ia σ 1 r).toInt.toNat)) := fun t e => by
        rw [← e]
        exact I
      refine wq_eq q_71_4 (wq_gR H.1 rfl (rd1 H hR hr (wq_t (Int32.lt_iff_toInt_lt.mpr (by omega)) ?_)))
      cases ha : allB (fun k => cLow (el σ r k) || cHigh (el σ r k)) v.toInt.toNat with
      | false => exact wq_t rfl (I false (by rw [ha]; rfl))
      | true =>
        refine wq_f (by decide) (wq_at H.1 (wq_cI (r_element H hR hr h0 (by omega)) ?_))
        rintro _ _ ⟨rfl, rfl⟩
        refine wq_cI r_isLow ?_
        rintro _ _ ⟨rfl, rfl⟩
        cases hb : cLow (el σ r v.toInt.toNat) with
        | true => exact wq_f (by decide) (I true (by rw [ha, hb]; rfl))
        | false =>
          refine wq_t rfl (wq_at H.1 (wq_cI (r_element H hR hr h0 (by omega)) ?_))
          rintro _ _ ⟨rfl, rfl⟩
          refine wq_cI r_isHigh ?_
          rintro _ _ ⟨rfl, rfl⟩
          cases hc : cHigh (el σ r v.toInt.toNat) with
          | true => exact wq_f (by decide) (I true (by rw [ha, hb, hc]; rfl))
          | false => exact wq_t rfl (I false (by rw [ha, hb, hc]; rfl))
  exact L (ia σ 1 r).toInt.toNat 0 (by rw [Int32.toInt_zero]; omega) (by rw [Int32.toInt_zero]; omega)
theorem r_numberOf (H : RH m σ b h) (hR : R.toInt = r) (hr : r < 10100) (l0 : 0 ≤ (ia σ 1 r).toInt) (l1 : (ia σ 1 r).toInt ≤ 64) : wq (vc lim (d + 2) m_Ref_numberOf [aR m, aI R] h) (rJ fun x h' => h' = h ∧ ∀ k, k < 64 → tb x k = (decide ((k : Int) < (ia σ 1 r).toInt) && cHigh (el σ r k))) := by
  refine wq_eq e_Ref_numberOf (wq_gR H.1 rfl (rd1 H hR hr ?_))
  have L : ∀ (n : Nat) (v : Int32) (x : Int64), v.toInt + 1 = n → (n : Int) ≤ (ia σ 1 r).toInt → (∀ k, k < 64 → tb x k = (decide (((k + n : Nat) : Int) < (ia σ 1 r).toInt) && cHigh (el σ r (k + n)))) → wq (ah_val lim ah_P (d + 1) 72 12 [some (aR m), some (aI R), some (aJ x), none, some (aI v)] [] h) (rJ fun x h' => h' = h ∧ ∀ k, k < 64 → tb x k = (decide ((k : Int) < (ia σ 1 r).toInt) && cHigh (el σ r k))) := by
    intro n
    induction n with
    | zero =>
      intro v x hv _ hx
      exact wq_eq q_72_12 (wq_t (Int32.lt_iff_toInt_lt.mpr (by rw [Int32.toInt_zero]; omega)) (wq_some (rJ_i ⟨rfl, hx⟩)))
    | succ n ih =>
      intro v x hv hn hx
      have e1 := dec_i (v := v) (by omega)
      refine wq_eq q_72_12 (wq_f (ix_ge (by omega)) (wq_at H.1 (wq_cI (r_element H hR hr (by omega) (by omega)) ?_)))
      rintro _ _ ⟨rfl, rfl⟩
      refine wq_cI r_isHigh ?_
      rintro _ _ ⟨rfl, rfl⟩
      rw [show v.toInt.toNat = n by omega]
      have B : ∀ k, k < 64 → (decide (((k + n : Nat) : Int) < (ia σ 1 r).toInt) && cHigh (el σ r (k + n))) = if k = 0 then (decide ((n : Int) < (ia σ 1 r).toInt) && cHigh (el σ r n)) else tb x (k - 1) := fun k hk => by
        by_cases c : k = 0
        · subst c
          rw [if_pos rfl, Nat.zero_add]
        · rw [if_neg c, hx (k - 1) (by omega), show k - 1 + (n + 1) = k + n by omega]
      rw [decide_eq_true (show (n : Int) < (ia σ 1 r).toInt by omega), Bool.true_and] at B
      cases hc : cHigh (el σ r n) with
      | false =>
        refine wq_t rfl (ih (v + -1) _ (by omega) (by omega) (fun k hk => ?_))
        rw [B k hk, tb_d0 hk, hc]
      | true =>
        refine wq_f (by decide) (ih (v + -1) _ (by omega) (by omega) (fun k hk => ?_))
        rw [B k hk, tb_d1 hk, hc]
  exact L (ia σ 1 r).toInt.toNat (ia σ 1 r - 1) 0 (by rw [sb_i (by show _ ≤ (ia σ 1 r).toInt - 1; omega) (by show (ia σ 1 r).toInt - 1 ≤ _; omega)]; show (ia σ 1 r).toInt - 1 + 1 = _; omega) (by omega) (fun k hk => by rw [tb_0, decide_eq_false (by omega)]; rfl)
/-- a loop that sets elements one after another: the invariant's step -/
theorem se_st (H : RH m (setE σ r v.toInt.toNat g) b h) (hR : R.toInt = r) (hr : r < 10100) (h0 : 0 ≤ v.toInt) (h1 : v.toInt < 64) {y : Int32} (hy : g v.toInt.toNat = y) (y0 : 0 ≤ y.toInt) (y1 : y.toInt ≤ 127) : wq (vc lim (d + 1) m_Ref_setElement [aR m, aI R, aI v, aI y] h) (rV fun h' => RH m (setE σ r (v.toInt.toNat + 1) g) b h') := by
  refine wq_mono (r_setElement H hR hr h0 h1 y0 y1) ?_
  rintro z ⟨h', rfl, H'⟩
  rw [← hy, setE_s] at H'
  exact rV_i H'
theorem r_bits (H : RH m σ b h) (hR : R.toInt = r) (hr : r < 10100) (l0 : 0 ≤ (ia σ 1 r).toInt) (l1 : (ia σ 1 r).toInt ≤ 64) : wq (vc lim (d + 2) m_Ref_bits [aR m, aI R, aJ z] h) (rV fun h' => RH m (setE σ r (ia σ 1 r).toInt.toNat fun k => if tb z k then 3 else 2) b h') := by
  refine wq_eq e_Ref_bits ?_
  have L : ∀ (n : Nat) (v : Int32) (h : ah_H), v.toInt + n = (ia σ 1 r).toInt → 0 ≤ v.toInt → RH m (setE σ r v.toInt.toNat fun k => if tb z k then 3 else 2) b h → wq (ah_val lim ah_P (d + 1) 73 3 [some (aR m), some (aI R), some (aJ z), none, some (aI v)] [] h) (rV fun h' => RH m (setE σ r (ia σ 1 r).toInt.toNat fun k => if tb z k then 3 else 2) b h') := by
    intro n
    induction n with
    | zero =>
      intro v h hv h0 H
      refine wq_eq q_73_3 (wq_gR H.1 rfl (rd1 H hR hr ?_))
      rw [setE_j (by decide)]
      refine wq_f (fun q => by have := lt_i q; omega) (wq_some (rV_i ?_))
      rw [show (ia σ 1 r).toInt.toNat = v.toInt.toNat by omega]
      exact H
    | succ n ih =>
      intro v h hv h0 H
      have e1 := inc_i (v := v) (by omega)
      refine wq_eq q_73_3 (wq_gR H.1 rfl (rd1 H hR hr ?_))
      rw [setE_j (by decide)]
      simp only [lg_eq, tb_and1, tb_sar h0 (show v.toInt < 64 by omega)]
      refine wq_t (Int32.lt_iff_toInt_lt.mpr (by omega)) (wq_if _ (fun c => ?_) (fun c => ?_))
      · refine wq_at H.1 (wq_cV (se_st H hR hr h0 (by omega) (if_pos c) (by decide) (by decide)) fun h1 H1 => ih (v + 1) h1 (by omega) (by omega) ?_)
        rw [show (v + 1).toInt.toNat = v.toInt.toNat + 1 by omega]
        exact H1
      · refine wq_at H.1 (wq_cV (se_st H hR hr h0 (by omega) (if_neg c) (by decide) (by decide)) fun h1 H1 => ih (v + 1) h1 (by omega) (by omega) ?_)
        rw [show (v + 1).toInt.toNat = v.toInt.toNat + 1 by omega]
        exact H1
  exact L (ia σ 1 r).toInt.toNat 0 h (by rw [Int32.toInt_zero]; omega) (by rw [Int32.toInt_zero]; omega) (by rw [show (0 : Int32).toInt.toNat = 0 from rfl, setE_0]; exact H)
/-- r has become what s is -/
abbrev sCp (σ : rS) (s r : Nat) : rS := setE (sJ (sI (sI σ 0 r (ia σ 0 s)) 1 r (ia σ 1 s)) 4 r (ja σ 4 s)) r 64 fun k => el σ s k
/-- what a byte may be -/
def byE (σ : rS) : Prop := (∀ i, i < 10100 → 0 ≤ (ia σ 0 i).toInt ∧ (ia σ 0 i).toInt ≤ 2 ∧ 0 ≤ (ia σ 1 i).toInt ∧ (ia σ 1 i).toInt ≤ 64) ∧ ∀ i, i < 646400 → 0 ≤ (ia σ 5 i).toInt ∧ (ia σ 5 i).toInt ≤ 127
theorem r_copy (H : RH m σ b h) (B : byE σ) (hR : R.toInt = r) (hr : r < 10100) (hS : S.toInt = s) (hs : s < 10100) (hn : s ≠ r) : wq (vc lim (d + 2) m_Ref_copy [aR m, aI S, aI R] h) (rV fun h' => RH m (sCp σ s r) b h') := by
  have eR : R.toInt.toNat = r := by omega
  have eS : S.toInt.toNat = s := by omega
  have c0 := B.1 s hs
  refine wq_eq e_Ref_copy (wq_gR H.1 rfl (wq_gR H.1 rfl (rd0 H hS hs ?_)))
  rw [b8_i c0.1 (by omega)]
  refine rs_I H (j := 0) (by omega) rfl rfl (by omega) (by show R.toInt < (10100 : Int); omega) (fun h1 H1 => wq_gR H1.1 rfl (wq_gR H1.1 rfl (rd1 H1 hS hs ?_)))
  have e1 : ia (sI σ 0 R.toInt.toNat (ia σ 0 s)) 1 s = ia σ 1 s := iaI_j (by decide)
  rw [e1, b8_i c0.2.2.1 (by omega)]
  refine rs_I H1 (j := 1) (by omega) rfl rfl (by omega) (by show R.toInt < (10100 : Int); omega) (fun h2 H2 => wq_gR H2.1 rfl (wq_gR H2.1 rfl (rd4 H2 hS hs (rs_J H2 (j := 4) (by omega) rfl (by omega) (by show R.toInt < (10100 : Int); omega) (fun h3 H3 => ?_)))))
  rw [eR] at H3
  generalize hτ : (sJ (sI (sI σ 0 r (ia σ 0 s)) 1 r (ia σ 1 s)) 4 r (ja σ 4 s) : rS) = τ at H3
  have e5 : ∀ i, ia τ 5 i = ia σ 5 i := fun i => by
    rw [← hτ]
    exact (iaI_j (σ := sI σ 0 r (ia σ 0 s)) (j := 1) (k := r) (a := 5) (x := ia σ 1 s) (by decide)).trans (iaI_j (a := 5) (by decide))
  have L : ∀ (n : Nat) (v : Int32) (h : ah_H), v.toInt + n = 64 → 0 ≤ v.toInt → RH m (setE τ r v.toInt.toNat fun k => el σ s k) b h → wq (ah_val lim ah_P (d + 1) 28 38 [some (aR m), some (aI S), some (aI R), some (aI v)] [] h) (rV fun h' => RH m (setE τ r 64 fun k => el σ s k) b h') := by
    intro n
    induction n with
    | zero =>
      intro v h hv h0 H
      refine wq_eq q_28_38 (wq_f (fun q => by have := lt_i q; have : (64 : Int32).toInt = 64 := rfl; omega) (wq_some (rV_i ?_)))
      rw [show v.toInt.toNat = 64 by omega] at H
      exact H
    | succ n ih =>
      intro v h hv h0 H
      have e1 := inc_i (v := v) (by omega)
      refine wq_eq q_28_38 (wq_t (Int32.lt_iff_toInt_lt.mpr (by show v.toInt < 64; omega)) (wq_at H.1 (wq_cI (r_element H hS hs h0 (by omega)) ?_)))
      rintro _ _ ⟨rfl, rfl⟩
      have ee : ia (setE τ r v.toInt.toNat fun k => el σ s k) 5 (64 * s + v.toInt.toNat) = el σ s v.toInt.toNat := (setE_n (by omega)).trans (e5 _)
      rw [ee]
      have bb := B.2 (64 * s + v.toInt.toNat) (by omega)
      refine wq_at H.1 (wq_cV (se_st H hR hr h0 (by omega) rfl bb.1 bb.2) fun h1 H1 => ih (v + 1) h1 (by omega) (by omega) ?_)
      rw [show (v + 1).toInt.toNat = v.toInt.toNat + 1 by omega]
      exact H1
  rw [← hτ] at L
  rw [← hτ] at H3
  exact L 64 0 h3 rfl (by decide) (by rw [show (0 : Int32).toInt.toNat = 0 from rfl, setE_0]; exact H3)
theorem r_alike (H : RH m σ b h) (hR : R.toInt = r) (hr : r < 10100) (hS : S.toInt = s) (hs : s < 10100) (l0 : 0 ≤ (ia σ 1 r).toInt) (l1 : (ia σ 1 r).toInt ≤ 64) : wq (vc lim (d + 2) m_Ref_alike [aR m, aI R, aI S] h) (rI fun x h' => h' = h ∧ x = bI (decide (ja σ 4 r = ja σ 4 s) && (decide (¬ ia σ 0 r = 1) || allB (fun k => decide (el σ r k = el σ s k)) (ia σ 1 r).toInt.toNat))) := by
  have L : ∀ (n : Nat) (v : Int32) (t : Bool), v.toInt + n = (ia σ 1 r).toInt → 0 ≤ v.toInt → t = (decide (ja σ 4 r = ja σ 4 s) && (decide (¬ ia σ 0 r = 1) || allB (fun k => decide (el σ r k = el σ s k)) v.toInt.toNat)) → wq (ah_val lim ah_P (d + 1) 82 25 [some (aR m), some (aI R), some (aI S), some (aI (bI t)), some (aI v)] [] h) (rI fun x h' => h' = h ∧ x = bI (decide (ja σ 4 r = ja σ 4 s) && (decide (¬ ia σ 0 r = 1) || allB (fun k => decide (el σ r k = el σ s k)) (ia σ 1 r).toInt.toNat))) := by
    intro n
    induction n with
    | zero =>
      intro v t hv h0 ht
      refine wq_eq q_82_25 (wq_gR H.1 rfl (rd1 H hR hr (wq_f (fun q => by have := lt_i q; omega) (wq_t ?_ (wq_some (rI_i ⟨rfl, ?_⟩))))))
      · exact bI01 t
      · rw [ht, show v.toInt.toNat = (ia σ 1 r).toInt.toNat by omega]
    | succ n ih =>
      intro v t hv h0 ht
      have e1 := inc_i (v := v) (by omega)
      refine wq_eq q_82_25 (wq_gR H.1 rfl (rd1 H hR hr (wq_t (Int32.lt_iff_toInt_lt.mpr (by omega)) (wq_gR H.1 rfl (rd0 H hR hr (wq_if _ (fun c => ?_) (fun c => ?_)))))))
      · have I := ih (v + 1)
        rw [show (v + 1).toInt.toNat = v.toInt.toNat + 1 by omega] at I
        have hz : decide (¬ ia σ 0 r = 1) = false := decide_eq_false (fun q => q c)
        rw [hz, Bool.false_or] at ht
        cases t with
        | false =>
          refine wq_t rfl (I false (by omega) (by omega) ?_)
          rw [hz, Bool.false_or]
          show false = (decide (ja σ 4 r = ja σ 4 s) && (allB (fun k => decide (el σ r k = el σ s k)) v.toInt.toNat && decide (el σ r v.toInt.toNat = el σ s v.toInt.toNat)))
          rw [← Bool.and_assoc, ← ht]
          rfl
        | true =>
          refine wq_f (by decide) (wq_at H.1 (wq_cI (r_element H hR hr h0 (by omega)) ?_))
          rintro _ _ ⟨rfl, rfl⟩
          refine wq_at H.1 (wq_cI (r_element H hS hs h0 (by omega)) ?_)
          rintro _ _ ⟨rfl, rfl⟩
          refine wq_if _ (fun c2 => I true (by omega) (by omega) ?_) (fun c2 => I false (by omega) (by omega) ?_)
          · rw [hz, Bool.false_or]
            show true = (decide (ja σ 4 r = ja σ 4 s) && (allB (fun k => decide (el σ r k = el σ s k)) v.toInt.toNat && decide (el σ r v.toInt.toNat = el σ s v.toInt.toNat)))
            rw [← Bool.and_assoc, ← ht, decide_eq_true c2]
            rfl
          · rw [hz, Bool.false_or]
            show false = (decide (ja σ 4 r = ja σ 4 s) && (allB (fun k => decide (el σ r k = el σ s k)) v.toInt.toNat && decide (el σ r v.toInt.toNat = el σ s v.toInt.toNat)))
            rw [← Bool.and_assoc, ← ht, decide_eq_false c2]
            rfl
      · refine wq_t ?_ (wq_some (rI_i ⟨rfl, ?_⟩))
        · exact bI01 t
        · rw [ht, decide_eq_true c, Bool.true_or, Bool.true_or]
  refine wq_eq e_Ref_alike (wq_gR H.1 rfl (rd4 H hR hr (wq_gR H.1 rfl (rd4 H hS hs ?_))))
  simp only [lg_eq]
  refine wq_if _ (fun c => ?_) (fun c => ?_)
  · exact L (ia σ 1 r).toInt.toNat 0 true (by rw [Int32.toInt_zero]; omega) (by rw [Int32.toInt_zero]; omega) (by rw [decide_eq_true c]; show true = (true && (_ || true)); simp)
  · exact L (ia σ 1 r).toInt.toNat 0 false (by rw [Int32.toInt_zero]; omega) (by rw [Int32.toInt_zero]; omega) (by rw [decide_eq_false c]; rfl)
end Vb
