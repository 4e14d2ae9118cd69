/-! THE REFERENCE'S OPERATIONS ON TWO VALUES: compare, all of them -/
section Vjj
variable {lim : Nat × Nat} {d m r s n : Nat} {σ σ' τ : rS} {b h h' h1 : ah_H} {R S k o x l q : Int32} {y z : Int64} {w v : WD} {res : Option WD} {g : Nat → Int32}
theorem cd_inj : ∀ {a b c e a' b' c' e' : Bool}, cdI a b c e = cdI a' b' c' e' → a = a' ∧ b = b' ∧ c = c' ∧ e = e' := by decide +kernel
theorem bits_eq (W : WF w) (V : WF v) (hl : wL w = wL v) : (∀ k : Nat, (k : Int) < (wL w).toInt → cdW w k = cdW v k) ↔ (w0 w = w0 v ∧ w1 w = w1 v ∧ w2 w = w2 v ∧ w3 w = w3 v) := by
  constructor
  · intro e
    have A : ∀ k, tb (w0 w) k = tb (w0 v) k ∧ tb (w1 w) k = tb (w1 v) k ∧ tb (w2 w) k = tb (w2 v) k ∧ tb (w3 w) k = tb (w3 v) k := fun k => by
      by_cases c : (k : Int) < (wL w).toInt
      · exact cd_inj (e k c)
      · obtain ⟨p0, p1, p2, p3⟩ := W.2.2.2.2.2.1 k (by omega)
        obtain ⟨q0, q1, q2, q3⟩ := V.2.2.2.2.2.1 k (by rw [← hl]; omega)
        rw [p0, p1, p2, p3, q0, q1, q2, q3]
        exact ⟨rfl, rfl, rfl, rfl⟩
    exact ⟨tb_ext fun k _ => (A k).1, tb_ext fun k _ => (A k).2.1, tb_ext fun k _ => (A k).2.2.1, tb_ext fun k _ => (A k).2.2.2⟩
  · rintro ⟨e0, e1, e2, e3⟩ k _
    unfold cdW
    rw [e0, e1, e2, e3]
theorem lt64 {a c : Int32} : (a.toInt64 = c.toInt64) ↔ a = c := ⟨fun e => by have := congrArg Int64.toInt32 e; rwa [Int32.toInt32_toInt64, Int32.toInt32_toInt64] at this, fun e => by rw [e]⟩
theorem alk (W : WF w) (K : RW σ r w) (V : WF v) (L : RW σ s v) (hi : wI w = wI v) (hl : wL w = wL v) : (decide (ja σ 4 r = ja σ 4 s) && (decide (¬ ia σ 0 r = 1) || allB (fun k => decide (el σ r k = el σ s k)) (ia σ 1 r).toInt.toNat)) = pSame w v := by
  have BE := bits_eq W V hl
  obtain ⟨K0, K2, KL, K1⟩ := K
  obtain ⟨L0, L2, LL, L1⟩ := L
  rw [K0]
  unfold pSame
  rcases W.1 with c | c | c
  · have c' := hi.symm.trans c
    have l1 := W.2.2.1 (by rw [c]; decide)
    rw [(KL c).2, (LL c').2, decide_eq_true (show ¬ wI w = 1 by rw [c]; decide), Bool.true_or, Bool.and_true]
    refine decide_eq_decide.mpr ?_
    rw [lt64]
    have n1 := W.2.2.2.2.1 (by rw [c]; decide)
    have n2 := V.2.2.2.2.1 (by rw [c']; decide)
    rw [n1, n2, ← BE, l1]
    refine ⟨fun e => ⟨rfl, fun k hk => ?_⟩, fun e => e.2 0 (by decide)⟩
    have hk : k = 0 := by
      have : (1 : Int32).toInt = 1 := rfl
      omega
    rw [hk]
    exact e
  · have c' := hi.symm.trans c
    obtain ⟨a1, a4, a5⟩ := K1 c
    obtain ⟨b1, b4, b5⟩ := L1 c'
    have n1 := W.2.2.2.2.1 (by rw [c]; decide)
    have n2 := V.2.2.2.2.1 (by rw [c']; decide)
    rw [a4, b4, a1, decide_eq_true rfl, Bool.true_and, decide_eq_false (fun e => e c), Bool.false_or]
    have Q : allB (fun k => decide (el σ r k = el σ s k)) (wL w).toInt.toNat = true ↔ (wN w = wN v ∧ w0 w = w0 v ∧ w1 w = w1 v ∧ w2 w = w2 v ∧ w3 w = w3 v) := by
      rw [allB_i, n1, n2, ← BE]
      constructor
      · intro e
        refine ⟨rfl, fun k hk => ?_⟩
        have := of_decide_eq_true (e k (by omega))
        rw [a5 k hk, b5 k (by rw [← hl]; exact hk)] at this
        exact this
      · intro e k hk
        refine decide_eq_true ?_
        rw [a5 k (by omega), b5 k (by rw [← hl]; omega)]
        exact e.2 k (by omega)
    cases hh : allB (fun k => decide (el σ r k = el σ s k)) (wL w).toInt.toNat with
    | true => exact (decide_eq_true (Q.mp hh)).symm
    | false => exact (decide_eq_false (fun e => by rw [Q.mpr e] at hh; cases hh)).symm
  · have c' := hi.symm.trans c
    obtain ⟨z0, z1, z2, z3, -⟩ := W.2.2.2.1 c
    obtain ⟨y0, y1, y2, y3, -⟩ := V.2.2.2.1 c'
    rw [(K2 c).2, (L2 c').2, decide_eq_true (show ¬ wI w = 1 by rw [c]; decide), Bool.true_or, Bool.and_true, z0, z1, z2, z3, y0, y1, y2, y3]
    exact decide_eq_decide.mpr ⟨fun e => ⟨e, rfl, rfl, rfl, rfl⟩, fun e => e.1⟩
theorem cmp3_s {A C j : Nat} : cmp3 (A % 2 ^ (j + 1)) (C % 2 ^ (j + 1)) = if A.testBit j = C.testBit j then cmp3 (A % 2 ^ j) (C % 2 ^ j) else if A.testBit j = false then -1 else 1 := by
  have a1 := Nat.mod_pow_succ (x := A) (b := 2) (k := j)
  have a2 := Nat.mod_pow_succ (x := C) (b := 2) (k := j)
  have l1 := Nat.mod_lt A (show 2 ^ j > 0 from Nat.two_pow_pos j)
  have l2 := Nat.mod_lt C (show 2 ^ j > 0 from Nat.two_pow_pos j)
  rw [Nat.testBit_eq_decide_div_mod_eq, Nat.testBit_eq_decide_div_mod_eq]
  have hp : A / 2 ^ j % 2 = 0 ∨ A / 2 ^ j % 2 = 1 := by omega
  have hq : C / 2 ^ j % 2 = 0 ∨ C / 2 ^ j % 2 = 1 := by omega
  rcases hp with e | e <;> rcases hq with f | f <;> rw [e] at a1 <;> rw [f] at a2 <;> rw [a1, a2, e, f]
  · simp
  · unfold cmp3
    rw [if_pos (by omega)]
    simp
  · unfold cmp3
    rw [if_neg (by omega), if_pos (by omega)]
    simp
  · rw [if_pos rfl]
    unfold cmp3
    simp only [Nat.mul_one, Nat.add_lt_add_iff_right]
theorem nat_mod {x : Int64} {l : Nat} (hx : ∀ k, l ≤ k → tb x k = false) : x.toBitVec.toNat % 2 ^ l = x.toBitVec.toNat := by
  apply Nat.mod_eq_of_lt
  apply Nat.lt_pow_two_of_testBit
  intro i hi
  exact hx i hi
/-- the end of compare -/
theorem y_250 {t : Bool} {c : Int32} {P : Bool} (H : RH m τ b h) (B : byE τ) (G : sm (fQ r) σ τ) (hR : R.toInt = r) (hr : r < 10100) (o0 : 8 ≤ o.toInt) (o1 : o.toInt ≤ 11) (hP : P = decide ((o = 8 ∧ c < 0) ∨ (o = 9 ∧ c ≤ 0) ∨ (o = 10 ∧ ¬ c ≤ 0) ∨ (o = 11 ∧ ¬ c < 0))) (e : res = some (pNum (if t && P then 1 else 0))) : wq (ah_val lim ah_P (d + 2) 83 250 [some (aR m), none, some (aI o), some (aI R), none, some (aI c), some (aI (bI t)), none] [] h) (rI (oQ m b r σ res)) := by
  refine wq_eq q_83_250 ?_
  cases t with
  | false => exact wq_t rfl (wq_at H.1 (z_tr (t := false) H B G hR hr rfl e))
  | true =>
    have Y1 : ((o = 8 ∧ c < 0) ∨ (o = 9 ∧ c ≤ 0) ∨ (o = 10 ∧ ¬ c ≤ 0) ∨ (o = 11 ∧ ¬ c < 0)) → res = some (pNum (if true then 1 else 0)) := fun k => by
      rw [e, hP, decide_eq_true k]
      rfl
    have Y0 : ¬ ((o = 8 ∧ c < 0) ∨ (o = 9 ∧ c ≤ 0) ∨ (o = 10 ∧ ¬ c ≤ 0) ∨ (o = 11 ∧ ¬ c < 0)) → res = some (pNum (if false then 1 else 0)) := fun k => by
      rw [e, hP, decide_eq_false k]
      rfl
    refine wq_f (by decide) (wq_if _ (fun c1 => wq_if _ (fun c2 => ?_) (fun c2 => ?_)) (fun c1 => wq_if _ (fun c3 => wq_if _ (fun c2 => ?_) (fun c2 => ?_)) (fun c3 => wq_if _ (fun c4 => wq_if _ (fun c2 => ?_) (fun c2 => ?_)) (fun c4 => wq_if _ (fun c2 => ?_) (fun c2 => ?_)))))
    · exact wq_at H.1 (z_tr (t := true) H B G hR hr rfl (Y1 (Or.inl ⟨c1, c2⟩)))
    · exact wq_at H.1 (z_tr (t := false) H B G hR hr rfl (Y0 (by subst c1; simp [c2])))
    · exact wq_at H.1 (z_tr (t := true) H B G hR hr rfl (Y1 (Or.inr (Or.inl ⟨c3, c2⟩))))
    · exact wq_at H.1 (z_tr (t := false) H B G hR hr rfl (Y0 (by subst c3; simp [c2])))
    · exact wq_at H.1 (z_tr (t := false) H B G hR hr rfl (Y0 (by subst c4; simp [c2])))
    · exact wq_at H.1 (z_tr (t := true) H B G hR hr rfl (Y1 (Or.inr (Or.inr (Or.inl ⟨c4, c2⟩)))))
    · exact wq_at H.1 (z_tr (t := false) H B G hR hr rfl (Y0 (by simp [c1, c3, c4, c2])))
    · have e11 : o = 11 := by
        have n8 : ¬ o.toInt = 8 := fun e => c1 (Int32.toInt_inj.mp e)
        have n9 : ¬ o.toInt = 9 := fun e => c3 (Int32.toInt_inj.mp e)
        have n10 : ¬ o.toInt = 10 := fun e => c4 (Int32.toInt_inj.mp e)
        exact Int32.toInt_inj.mp (show o.toInt = 11 by omega)
      exact wq_at H.1 (z_tr (t := true) H B G hR hr rfl (Y1 (Or.inr (Or.inr (Or.inr ⟨e11, c2⟩)))))
theorem cm_sg {a c : Nat} : (cmp3 a c < 0 ↔ a < c) ∧ (cmp3 a c ≤ 0 ↔ a ≤ c) := by
  unfold cmp3
  by_cases h1 : a < c
  · rw [if_pos h1]
    exact ⟨⟨fun _ => h1, fun _ => by decide⟩, ⟨fun _ => by omega, fun _ => by decide⟩⟩
  · rw [if_neg h1]
    by_cases h2 : c < a
    · rw [if_pos h2]
      exact ⟨⟨fun e => absurd e (by decide), fun e => absurd e h1⟩, ⟨fun e => absurd e (by decide), fun e => absurd h2 (by omega)⟩⟩
    · rw [if_neg h2]
      exact ⟨⟨fun e => absurd e (by decide), fun e => absurd e h1⟩, ⟨fun _ => by omega, fun _ => by decide⟩⟩
def pCom (o : Int32) (w v : WD) : Option WD := if o = 6 then pSameOp 1 w v else if o = 7 then pSameOp 0 w v else pOrder o w v
theorem r_compare (H : RH m σ b h) (B : byE σ) (hR : R.toInt = r) (hS : S.toInt = s) (hs : s < 10100) (hrs : r < s) (W : WF w) (K : RW σ r w) (V : WF v) (L : RW σ s v) (o0 : 6 ≤ o.toInt) (o1 : o.toInt ≤ 11) : wq (vc lim (d + 4) m_Ref_compare [aR m, aI k, aI o, aI R, aI S] h) (rI (oQ m b r σ (pCom o w v))) := by
  have hr : r < 10100 := by omega
  have EK := RW_len W K
  have EL := RW_len V L
  have KK := K
  have LL' := L
  obtain ⟨K0, K2, KL, K1⟩ := K
  obtain ⟨L0, L2, LL, L1⟩ := L
  have w0' := W.2.1
  have i6 : (o = 6) ↔ o.toInt = 6 := ⟨fun e => by rw [e]; rfl, fun e => Int32.toInt_inj.mp e⟩
  have i7 : (o = 7) ↔ o.toInt = 7 := ⟨fun e => by rw [e]; rfl, fun e => Int32.toInt_inj.mp e⟩
  have FL : ¬ wI w = wI v → pCom o w v = none := fun c => by
    unfold pCom
    have u : pUnlike w v = 3 := by rw [pUnlike, if_neg c]
    by_cases c6 : o = 6
    · rw [if_pos c6, pSameOp, if_neg (by rw [u]; decide)]
    · rw [if_neg c6]
      by_cases c7 : o = 7
      · rw [if_pos c7, pSameOp, if_neg (by rw [u]; decide)]
      · rw [if_neg c7, pOrder]
        by_cases c0 : wI w = 0
        · rw [if_pos c0]
        · rw [if_neg c0, if_neg (by rw [u]; decide)]
  refine wq_eq e_Ref_compare (rd0' H hR hr K0 (rd0' H hS hs L0 (wq_if _ (fun c => ?_) (fun c => wq_at H.1 (z_fail H B sm_0 (FL c))))))
  have G38 : (¬ o.toInt ≤ 7 → ¬ wI w = 0) → wq (ah_val lim ah_P (d + 3) 83 38 [some (aR m), some (aI k), some (aI o), some (aI R), some (aI S), none, none, none] [] h) (rI (oQ m b r σ (pCom o w v))) := fun hn0 => by
    refine wq_eq q_83_38 (rd1' H hR hr EK (rd1' H hS hs EL (wq_if _ (fun c1 => ?_) (fun c1 => ?_))))
    rotate_left
    · refine wq_at H.1 (z_fail H B sm_0 ?_)
      have u : pUnlike w v = 4 := by rw [pUnlike, if_pos c, if_neg (fun e => c1 ((un_0 W V c).mpr e))]
      unfold pCom
      by_cases c6 : o = 6
      · rw [if_pos c6, pSameOp, if_neg (by rw [u]; decide)]
      · rw [if_neg c6]
        by_cases c7 : o = 7
        · rw [if_pos c7, pSameOp, if_neg (by rw [u]; decide)]
        · rw [if_neg c7, pOrder]
          by_cases c0 : wI w = 0
          · rw [if_pos c0]
          · rw [if_neg c0, if_neg (by rw [u]; decide)]
    have hl := (un_0 W V c).mp c1
    have u : pUnlike w v = 0 := by rw [pUnlike, if_pos c, if_pos hl]
    refine wq_if _ (fun c2 => ?_) (fun c2 => ?_)
    · have c2 := lt_i c2
      have c2 : o.toInt < 8 := c2
      have bl := B.1 r hr
      refine wq_at H.1 (wq_cI (r_alike H hR hr hS hs bl.2.2.1 bl.2.2.2) ?_)
      rintro _ _ ⟨rfl, rfl⟩
      rw [alk W KK V LL' c hl]
      refine wq_if _ (fun c3 => ?_) (fun c3 => ?_)
      · have E : pCom o w v = some (pNum (if bI (pSame w v) = 1 then 1 else 0)) := by rw [pCom, if_pos c3, pSameOp, if_pos u]
        refine wq_if _ (fun c4 => ?_) (fun c4 => ?_)
        · exact wq_at H.1 (z_tr (t := true) H B sm_0 hR hr rfl (by rw [E, if_pos c4]; rfl))
        · exact wq_at H.1 (z_tr (t := false) H B sm_0 hR hr rfl (by rw [E, if_neg c4]; rfl))
      · have E : pCom o w v = some (pNum (if bI (pSame w v) = 0 then 1 else 0)) := by rw [pCom, if_neg c3, if_pos (i7.mpr (by have n6 : ¬ o.toInt = 6 := fun e => c3 (i6.mpr e); omega)), pSameOp, if_pos u]
        refine wq_if _ (fun c4 => ?_) (fun c4 => ?_)
        · exact wq_at H.1 (z_tr (t := true) H B sm_0 hR hr rfl (by rw [E, if_pos c4]; rfl))
        · exact wq_at H.1 (z_tr (t := false) H B sm_0 hR hr rfl (by rw [E, if_neg c4]; rfl))
    · have c2 := nlt_i c2
      have c2 : 8 ≤ o.toInt := c2
      have hn := hn0 (by omega)
      have n6 : ¬ o = 6 := fun e => by have := i6.mp e; omega
      have n7 : ¬ o = 7 := fun e => by have := i7.mp e; omega
      have E : pCom o w v = some (pNum (if pKnown w v && pCmp o (pKey w w) (pKey w v) then 1 else 0)) := by rw [pCom, if_neg n6, if_neg n7, pOrder, if_neg hn, if_pos u]
      rcases W.1 with ci | ci | ci
      · exact absurd ci hn
      · have cj := c.symm.trans ci
        obtain ⟨a1, a4, a5⟩ := K1 ci
        obtain ⟨b1, b4, b5⟩ := L1 cj
        have n2 : ¬ wI w = 2 := by rw [ci]; decide
        refine rd4' H hR hr a4 (rd4' H hS hs b4 (wq_f (by decide) (rd4' H hR hr a4 (rd4' H hS hs b4 (wq_t (by decide) ?_)))))
        have HW : ∀ j : Nat, (j : Int) < (wL w).toInt → cHigh (el σ r j) = (pOnes w).toBitVec.toNat.testBit j := fun j hj => by
          rw [a5 j hj, cd_hi W]
          exact tb_ones.symm
        have HV : ∀ j : Nat, (j : Int) < (wL w).toInt → cHigh (el σ s j) = (pOnes v).toBitVec.toNat.testBit j := fun j hj => by
          rw [b5 j (by rw [← hl]; exact hj), cd_hi V]
          exact tb_ones.symm
        have MW : (pOnes w).toBitVec.toNat % 2 ^ (wL w).toInt.toNat = (pOnes w).toBitVec.toNat := nat_mod fun j hj => by rw [tb_ones, (W.2.2.2.2.2.1 j (by omega)).1, Bool.and_false]
        have MV : (pOnes v).toBitVec.toNat % 2 ^ (wL w).toInt.toNat = (pOnes v).toBitVec.toNat := nat_mod fun j hj => by rw [tb_ones, (V.2.2.2.2.2.1 j (by rw [← hl]; omega)).1, Bool.and_false]
        have kl : ∀ x y : Int64, ((x ^^^ (-9223372036854775808)) < (y ^^^ (-9223372036854775808)) ↔ x.toBitVec.toNat < y.toBitVec.toNat) ∧ ((x ^^^ (-9223372036854775808)) ≤ (y ^^^ (-9223372036854775808)) ↔ x.toBitVec.toNat ≤ y.toBitVec.toNat) := fun x y => by
          rw [Int64.lt_iff_toInt_lt, Int64.le_iff_toInt_le, key_i, key_i]
          exact ⟨by omega, by omega⟩
        have PC : pCmp o (pKey w w) (pKey w v) = decide ((o = 8 ∧ cmp3 (pOnes w).toBitVec.toNat (pOnes v).toBitVec.toNat < 0) ∨ (o = 9 ∧ cmp3 (pOnes w).toBitVec.toNat (pOnes v).toBitVec.toNat ≤ 0) ∨ (o = 10 ∧ ¬ cmp3 (pOnes w).toBitVec.toNat (pOnes v).toBitVec.toNat ≤ 0) ∨ (o = 11 ∧ ¬ cmp3 (pOnes w).toBitVec.toNat (pOnes v).toBitVec.toNat < 0)) := by
          unfold pCmp pKey
          rw [if_neg n2, if_neg n2]
          refine decide_eq_decide.mpr ?_
          rw [(kl _ _).1, (kl _ _).2, cm_sg.1, cm_sg.2]
        have Lp : ∀ (n : Nat) (v7 : Int32) (t : Bool), v7.toInt + n = (wL w).toInt → 0 ≤ v7.toInt → pKnown w v = t → wq (ah_val lim ah_P (d + 3) 83 184 [some (aR m), none, some (aI o), some (aI R), some (aI S), some (aI (cmp3 ((pOnes w).toBitVec.toNat % 2 ^ v7.toInt.toNat) ((pOnes v).toBitVec.toNat % 2 ^ v7.toInt.toNat))), some (aI (bI t)), some (aI v7)] [] h) (rI (oQ m b r σ (pCom o w v))) := by
          intro n
          induction n with
          | zero =>
            intro v7 t hv h0 ht
            refine wq_eq q_83_184 (rd1' H hR hr a1 (wq_f (fun q => by have := lt_i q; omega) ?_))
            rw [show v7.toInt.toNat = (wL w).toInt.toNat by omega, MW, MV]
            exact y_250 H B sm_0 hR hr c2 o1 PC (by rw [E, ht])
          | succ n ih =>
            intro v7 t hv h0 ht
            have ei := inc_i (v := v7) (by omega)
            have I := ih (v7 + 1) t (by omega) (by omega) ht
            rw [show (v7 + 1).toInt.toNat = v7.toInt.toNat + 1 by omega, cmp3_s, ← HW _ (by omega), ← HV _ (by omega)] at I
            refine wq_eq q_83_184 (rd1' H hR hr a1 (wq_t (Int32.lt_iff_toInt_lt.mpr (by omega)) (wq_at H.1 (wq_cI (r_element H hR hr h0 (by omega)) ?_))))
            rintro _ _ ⟨rfl, rfl⟩
            refine wq_cI r_isHigh ?_
            rintro _ _ ⟨rfl, rfl⟩
            refine wq_at H.1 (wq_cI (r_element H hS hs h0 (by omega)) ?_)
            rintro _ _ ⟨rfl, rfl⟩
            refine wq_cI r_isHigh ?_
            rintro _ _ ⟨rfl, rfl⟩
            simp only [bI_eq]
            refine wq_if _ (fun c5 => ?_) (fun c5 => ?_)
            · rw [if_pos c5] at I
              exact I
            · rw [if_neg c5] at I
              refine wq_at H.1 (wq_cI (r_element H hR hr h0 (by omega)) ?_)
              rintro _ _ ⟨rfl, rfl⟩
              refine wq_cI r_isHigh ?_
              rintro _ _ ⟨rfl, rfl⟩
              cases hh : cHigh (el σ r v7.toInt.toNat) with
              | false =>
                rw [if_pos hh] at I
                exact wq_t rfl I
              | true =>
                rw [if_neg (by rw [hh]; decide)] at I
                exact wq_f (by decide) I
        have L0' : ∀ t : Bool, pKnown w v = t → wq (ah_val lim ah_P (d + 3) 83 184 [some (aR m), none, some (aI o), some (aI R), some (aI S), some (aI 0), some (aI (bI t)), some (aI 0)] [] h) (rI (oQ m b r σ (pCom o w v))) := fun t ht => by
          have := Lp (wL w).toInt.toNat 0 t (by rw [Int32.toInt_zero]; omega) (by rw [Int32.toInt_zero]; omega) ht
          rw [show (0 : Int32).toInt.toNat = 0 from rfl, Nat.pow_zero, Nat.mod_one, Nat.mod_one] at this
          exact this
        refine wq_eq q_83_142 (rd0' H hR hr K0 (wq_t ci (wq_at H.1 (wq_cI (r_clr H hR hr W KK ci) ?_))))
        rintro _ _ ⟨rfl, rfl⟩
        cases h1 : pClear w with
        | false => exact wq_t rfl (L0' false (decide_eq_false (fun e => e.elim n2 (fun e => by rw [h1] at e; cases e.1))))
        | true =>
          refine wq_f (by decide) (wq_at H.1 (wq_cI (r_clr H hS hs V LL' cj) ?_))
          rintro _ _ ⟨rfl, rfl⟩
          cases h2 : pClear v with
          | false => exact wq_t rfl (L0' false (decide_eq_false (fun e => e.elim n2 (fun e => by rw [h2] at e; cases e.2))))
          | true => exact wq_f (by decide) (L0' true (decide_eq_true (Or.inr ⟨h1, h2⟩)))
      · have cj := c.symm.trans ci
        have kn : pKnown w v = true := decide_eq_true (Or.inl ci)
        have D : ∀ c3 : Int32, (c3 < 0 ↔ wN w < wN v) → (c3 ≤ 0 ↔ wN w ≤ wN v) → wq (ah_val lim ah_P (d + 3) 83 142 [some (aR m), none, some (aI o), some (aI R), some (aI S), none, none, none] [aI c3] h) (rI (oQ m b r σ (pCom o w v))) := fun c3 e1 e2 => by
          refine wq_eq q_83_142 (rd0' H hR hr K0 (wq_f (by rw [ci]; decide) ?_))
          refine y_250 (t := true) (P := pCmp o (pKey w w) (pKey w v)) H B sm_0 hR hr c2 o1 ?_ (by rw [E, kn])
          unfold pCmp pKey
          rw [if_pos ci, if_pos ci]
          refine decide_eq_decide.mpr ?_
          rw [e1, e2]
        refine rd4' H hR hr (K2 ci).2 (rd4' H hS hs (L2 cj).2 ?_)
        simp only [lgv_lt, lgv_le]
        refine wq_if _ (fun c3 => ?_) (fun c3 => rd4' H hR hr (K2 ci).2 (rd4' H hS hs (L2 cj).2 (wq_if _ (fun c4 => ?_) (fun c4 => ?_))))
        · exact D (-1) ⟨fun _ => c3, fun _ => by decide⟩ ⟨fun _ => Int64.le_iff_toInt_le.mpr (Int.le_of_lt (Int64.lt_iff_toInt_lt.mp c3)), fun _ => by decide⟩
        · exact D 0 ⟨fun e => absurd e (by decide), fun e => absurd e c3⟩ ⟨fun _ => c4, fun _ => by decide⟩
        · exact D 1 ⟨fun e => absurd e (by decide), fun e => absurd e c3⟩ ⟨fun e => absurd e (by decide), fun e => absurd e c4⟩
  refine wq_if _ (fun c2 => G38 (fun n => absurd (le_i c2) n)) (fun c2 => rd0' H hR hr K0 (wq_if _ (fun c3 => ?_) (fun c3 => G38 (fun _ => c3))))
  refine wq_at H.1 (z_fail H B sm_0 ?_)
  have c2 := nle_i c2
  have c2 : 7 < o.toInt := c2
  rw [pCom, if_neg (fun e => by have := i6.mp e; omega), if_neg (fun e => by have := i7.mp e; omega), pOrder, if_pos c3]
theorem ps_Q {q' : Option ah_R} (k : wq q' (rI (oQ m b r σ res))) : wq (ah_cI q' (nx h) fun i h1 => if i = 0 ∨ i = 1 then some (.inl (some (.inl i)), h1) else none) (rI (oQ m b r σ res)) := wq_cI k fun x h1 p => wq_t (oQ_01 p) (wq_some (rI_i p))
theorem r_two (H : RH m σ b h) (B : byE σ) (hR : R.toInt = r) (hr : r + 1 < 10100) (W : WF w) (K : RW σ r w) (V : WF v) (L : RW σ (r + 1) v) (o0 : 0 ≤ o.toInt) (o1 : o.toInt ≤ 20) : wq (vc lim (d + 5) m_Ref_two [aR m, aI k, aI o, aI R] h) (rI (oQ m b r σ (pTwo o w v))) := by
  have hS : (R + 1).toInt = ((r + 1 : Nat) : Int) := by rw [inc_i (by omega)]; omega
  have ne : ∀ c : Int32, ¬ o.toInt = c.toInt → ¬ o = c := fun c hc e => hc (by rw [e])
  refine wq_eq e_Ref_two (wq_if _ (fun c => ?_) (fun c => wq_if _ (fun c1 => ?_) (fun c1 => wq_if _ (fun c2 => ?_) (fun c2 => wq_if _ (fun c3 => ?_) (fun c3 => wq_if _ (fun c4 => ?_) (fun c4 => ?_))))))
  · have c : o.toInt < 6 := lt_i c
    have E : pTwo o w v = pBoth o w v := by
      obtain ⟨q, e1, e2⟩ := sh_n o0 (show o.toInt < 64 by omega)
      have : o = 0 ∨ o = 1 ∨ o = 2 ∨ o = 3 ∨ o = 4 ∨ o = 5 := by
        have h6 : o.toInt = 0 ∨ o.toInt = 1 ∨ o.toInt = 2 ∨ o.toInt = 3 ∨ o.toInt = 4 ∨ o.toInt = 5 := by omega
        rcases h6 with h | h | h | h | h | h
        · exact Or.inl (Int32.toInt_inj.mp h)
        · exact Or.inr (Or.inl (Int32.toInt_inj.mp h))
        · exact Or.inr (Or.inr (Or.inl (Int32.toInt_inj.mp h)))
        · exact Or.inr (Or.inr (Or.inr (Or.inl (Int32.toInt_inj.mp h))))
        · exact Or.inr (Or.inr (Or.inr (Or.inr (Or.inl (Int32.toInt_inj.mp h)))))
        · exact Or.inr (Or.inr (Or.inr (Or.inr (Or.inr (Int32.toInt_inj.mp h)))))
      rw [pTwo, if_pos this, pBoth]
    rw [E]
    exact wq_at H.1 (ps_Q (r_both H B hR hS hr (by omega) W K V L o0 (by omega)))
  · have c : 6 ≤ o.toInt := nlt_i c
    have c1 : o.toInt < 12 := lt_i c1
    have E : pTwo o w v = pCom o w v := by
      have h6 : o.toInt = 6 ∨ o.toInt = 7 ∨ o.toInt = 8 ∨ o.toInt = 9 ∨ o.toInt = 10 ∨ o.toInt = 11 := by omega
      rcases h6 with h | h | h | h | h | h
      · rw [show o = 6 from Int32.toInt_inj.mp h]; simp [pTwo, pCom]
      · rw [show o = 7 from Int32.toInt_inj.mp h]; simp [pTwo, pCom]
      · rw [show o = 8 from Int32.toInt_inj.mp h]; simp [pTwo, pCom]
      · rw [show o = 9 from Int32.toInt_inj.mp h]; simp [pTwo, pCom]
      · rw [show o = 10 from Int32.toInt_inj.mp h]; simp [pTwo, pCom]
      · rw [show o = 11 from Int32.toInt_inj.mp h]; simp [pTwo, pCom]
    rw [E]
    exact wq_at H.1 (ps_Q (r_compare H B hR hS hr (by omega) W K V L c (by omega)))
  · have c1 : 12 ≤ o.toInt := nlt_i c1
    have c2 : o.toInt < 14 := lt_i c2
    refine wq_if _ (fun c3 => ?_) (fun c3 => ?_)
    · rw [show pTwo o w v = pSum o w v by subst c3; simp [pTwo, pSum]]
      exact wq_at H.1 (ps_Q (r_sum H B hR hS hr (by omega) W K V L (Or.inr ⟨c3, rfl⟩)))
    · have e12 : o = 12 := Int32.toInt_inj.mp (show o.toInt = 12 by have : ¬ o.toInt = 13 := fun e => c3 (Int32.toInt_inj.mp e); omega)
      rw [show pTwo o w v = pSum o w v by subst e12; simp [pTwo, pSum]]
      exact wq_at H.1 (ps_Q (r_sum H B hR hS hr (by omega) W K V L (Or.inl ⟨e12, rfl⟩)))
  · rw [show pTwo o w v = pJoined w v by subst c3; simp [pTwo]]
    exact wq_at H.1 (ps_Q (r_joined H B hR hS hr (by omega) W K V L))
  · have c2 : 14 ≤ o.toInt := nlt_i c2
    have c4 : o.toInt < 19 := lt_i c4
    have n14 : ¬ o.toInt = 14 := fun e => c3 (Int32.toInt_inj.mp e)
    have E : pTwo o w v = pNumbers o w v := by
      have h6 : o.toInt = 15 ∨ o.toInt = 16 ∨ o.toInt = 17 ∨ o.toInt = 18 := by omega
      rcases h6 with h | h | h | h
      · rw [show o = 15 from Int32.toInt_inj.mp h]; simp [pTwo]
      · rw [show o = 16 from Int32.toInt_inj.mp h]; simp [pTwo]
      · rw [show o = 17 from Int32.toInt_inj.mp h]; simp [pTwo]
      · rw [show o = 18 from Int32.toInt_inj.mp h]; simp [pTwo]
    rw [E]
    exact wq_at H.1 (ps_Q (r_reckon H B hR hS hr (by omega) W K V L (ne 12 (by show ¬ o.toInt = 12; omega)) (ne 13 (by show ¬ o.toInt = 13; omega))))
  · have c4 : 19 ≤ o.toInt := nlt_i c4
    refine wq_if _ (fun c5 => ?_) (fun c5 => ?_)
    · rw [show pTwo o w v = pShifted o w v by subst c5; simp [pTwo]]
      exact wq_at H.1 (ps_Q (r_shift H B hR hS hr (by omega) W K V L (Or.inl ⟨c5, rfl⟩)))
    · have e20 : o = 20 := Int32.toInt_inj.mp (show o.toInt = 20 by have : ¬ o.toInt = 19 := fun e => c5 (Int32.toInt_inj.mp e); omega)
      rw [show pTwo o w v = pShifted o w v by subst e20; simp [pTwo]]
      exact wq_at H.1 (ps_Q (r_shift H B hR hS hr (by omega) W K V L (Or.inr ⟨e20, rfl⟩)))
end Vjj
