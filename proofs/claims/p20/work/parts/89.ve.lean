/-! THE REFERENCE'S OPERATIONS ON TWO VALUES: both, reckon, sum -/
section Ve
variable {lim : Nat × Nat} {d m r s n : Nat} {σ σ' τ : rS} {b h h' h1 : ah_H} {R S k o x : Int32} {z : Int64} {w v : WD} {res : Option WD}
def lnR (w : WD) : Int32 := if wI w = 1 then wL w else 0
theorem RW_len (W : WF w) (K : RW σ r w) : ia σ 1 r = lnR w := by
  unfold lnR
  rcases W.1 with e | e | e
  · rw [if_neg (by rw [e]; decide)]; exact (K.2.2.1 e).1
  · rw [if_pos e]; exact (K.2.2.2 e).1
  · rw [if_neg (by rw [e]; decide)]; exact (K.2.1 e).1
theorem un_0 (W : WF w) (V : WF v) (hi : wI w = wI v) : (lnR w = lnR v) ↔ wL w = wL v := by
  unfold lnR
  by_cases c : wI w = 1
  · rw [if_pos c, if_pos (hi.symm.trans c)]
  · have c' : ¬ wI v = 1 := fun e => c (hi.trans e)
    rw [if_neg c, if_neg c', W.2.2.1 c, V.2.2.1 c']
    exact ⟨fun _ => rfl, fun _ => rfl⟩
theorem wi1 (W : WF w) (c0 : ¬ wI w = 0) (c2 : ¬ wI w = 2) : wI w = 1 := by
  rcases W.1 with e | e | e
  · exact absurd e c0
  · exact e
  · exact absurd e c2
theorem y_160 {t : Bool} (H : RH m τ b h) (B : byE τ) (G : sm (fQ r) σ τ) (hR : R.toInt = r) (hr : r < 10100) (e : res = some (pNum (if t = pTurned o then 0 else 1))) : wq (ah_val lim ah_P (d + 2) 81 160 [some (aR m), none, some (aI o), some (aI R), none, none, none, none] [aI (bI t)] h) (rI (oQ m b r σ res)) := by
  have Y : pTurned o = true → wq (ah_val lim ah_P (d + 2) 81 179 [none, none, none, none, none, none, none, some (aI (bI t))] [aI R, aR m] h) (rI (oQ m b r σ res)) := fun ht => by
    refine wq_eq q_81_179 ?_
    cases t with
    | false => exact wq_t rfl (wq_at H.1 (z_tr (t := true) H B G hR hr rfl (by rw [e, ht]; rfl)))
    | true => exact wq_f (by decide) (wq_at H.1 (z_tr (t := false) H B G hR hr rfl (by rw [e, ht]; rfl)))
  refine wq_eq q_81_160 (wq_if _ (fun c => Y (decide_eq_true (Or.inl c))) (fun c => wq_if _ (fun c1 => Y (decide_eq_true (Or.inr (Or.inl c1)))) (fun c1 => wq_if _ (fun c2 => Y (decide_eq_true (Or.inr (Or.inr c2)))) (fun c2 => wq_at H.1 (z_tr (t := t) H B G hR hr rfl ?_)))))
  have ht : pTurned o = false := decide_eq_false (fun q => by rcases q with q | q | q <;> contradiction)
  rw [e, ht]
  cases t <;> rfl
theorem y_91 {p q : Bool} (H : RH m τ b h) (B : byE τ) (G : sm (fQ r) σ τ) (hR : R.toInt = r) (hr : r < 10100) (e : res = some (pNum (if pTr o p q = pTurned o then 0 else 1))) : wq (ah_val lim ah_P (d + 2) 81 91 [some (aR m), none, some (aI o), some (aI R), none, some (aI (bI p)), none, none] [aI (bI q)] h) (rI (oQ m b r σ res)) := by
  have Y : ∀ t : Bool, pTr o p q = t → wq (ah_val lim ah_P (d + 2) 81 160 [some (aR m), none, some (aI o), some (aI R), none, none, none, none] [aI (bI t)] h) (rI (oQ m b r σ res)) := fun t ht => y_160 H B G hR hr (by rw [e, ht])
  have Y0 := Y false
  have Y1 := Y true
  refine wq_eq q_81_91 (wq_if _ (fun c => ?_) (fun c => wq_if _ (fun c1 => ?_) (fun c1 => wq_if _ (fun c2 => ?_) (fun c2 => wq_if _ (fun c3 => ?_) (fun c3 => ?_)))))
  · cases p with
    | false => exact wq_t rfl (Y0 (by simp [pTr, c]))
    | true => cases q with
      | false => exact wq_f (by decide) (wq_t rfl (Y0 (by simp [pTr, c])))
      | true => exact wq_f (by decide) (wq_f (by decide) (Y1 (by simp [pTr, c])))
  · cases p with
    | false => exact wq_t rfl (Y0 (by simp [pTr, c1]))
    | true => cases q with
      | false => exact wq_f (by decide) (wq_t rfl (Y0 (by simp [pTr, c1])))
      | true => exact wq_f (by decide) (wq_f (by decide) (Y1 (by simp [pTr, c1])))
  · cases p with
    | true => exact wq_f (by decide) (Y1 (by simp [pTr, c2]))
    | false => cases q with
      | false => exact wq_t rfl (wq_t rfl (Y0 (by simp [pTr, c2])))
      | true => exact wq_t rfl (wq_f (by decide) (Y1 (by simp [pTr, c2])))
  · cases p with
    | true => exact wq_f (by decide) (Y1 (by simp [pTr, c3]))
    | false => cases q with
      | false => exact wq_t rfl (wq_t rfl (Y0 (by simp [pTr, c3])))
      | true => exact wq_t rfl (wq_f (by decide) (Y1 (by simp [pTr, c3])))
  · cases p <;> cases q
    · exact wq_t rfl (Y0 (by simp [pTr, c, c1, c2, c3]))
    · exact wq_f (by decide) (Y1 (by simp [pTr, c, c1, c2, c3]))
    · exact wq_f (by decide) (Y1 (by simp [pTr, c, c1, c2, c3]))
    · exact wq_t rfl (Y0 (by simp [pTr, c, c1, c2, c3]))
def pBoth (o : Int32) (w v : WD) : Option WD := if wI w = 2 then pTruths o w v else pLogics o w v
theorem r_both (H : RH m σ b h) (B : byE σ) (hR : R.toInt = r) (hS : S.toInt = s) (hs : s < 10100) (hrs : r < s) (W : WF w) (K : RW σ r w) (V : WF v) (L : RW σ s v) (o0 : 0 ≤ o.toInt) (o1 : o.toInt ≤ 5) : wq (vc lim (d + 4) m_Ref_both [aR m, aI k, aI o, aI R, aI S] h) (rI (oQ m b r σ (pBoth o w v))) := by
  have hr : r < 10100 := by omega
  have EK := RW_len W K
  have EL := RW_len V L
  have l1 := W.2.1.2
  have l0 := W.2.1.1
  obtain ⟨K0, K2, KL, K1⟩ := K
  obtain ⟨L0, L2, LL, L1⟩ := L
  refine wq_eq e_Ref_both (wq_gR H.1 rfl (rd0 H hR hr (wq_gR H.1 rfl (rd0 H hS hs ?_))))
  simp only [lg_eq]
  rw [K0, L0]
  refine wq_if _ (fun c => ?_) (fun c => ?_)
  · refine wq_gR H.1 rfl (rd1 H hR hr (wq_gR H.1 rfl (rd1 H hS hs ?_)))
    rw [EK, EL]
    refine wq_if _ (fun c1 => ?_) (fun c1 => ?_)
    · have hl := (un_0 W V c).mp c1
      refine wq_gR H.1 rfl (rd0 H hR hr ?_)
      rw [K0]
      refine wq_if _ (fun c2 => ?_) (fun c2 => ?_)
      · have E : pBoth o w v = some (pNum (if pTr o (decide (wN w ≠ 0)) (decide (wN v ≠ 0)) = pTurned o then 0 else 1)) := by
          rw [pBoth, if_pos c2, pTruths, if_pos (c.symm.trans c2)]
        have w2 := (K2 c2).2
        have v2 := (L2 (c.symm.trans c2)).2
        refine wq_gR H.1 rfl (rd4 H hR hr ?_)
        rw [w2]
        refine wq_if _ (fun c3 => ?_) (fun c3 => ?_)
        · refine wq_gR H.1 rfl (rd4 H hS hs ?_)
          rw [v2]
          refine wq_if _ (fun c4 => ?_) (fun c4 => ?_)
          · exact y_91 (p := false) (q := false) H B sm_0 hR hr (by rw [E]; simp [c3, c4])
          · exact y_91 (p := false) (q := true) H B sm_0 hR hr (by rw [E]; simp [c3, c4])
        · refine wq_gR H.1 rfl (rd4 H hS hs ?_)
          rw [v2]
          refine wq_if _ (fun c4 => ?_) (fun c4 => ?_)
          · exact y_91 (p := true) (q := false) H B sm_0 hR hr (by rw [E]; simp [c3, c4])
          · exact y_91 (p := true) (q := true) H B sm_0 hR hr (by rw [E]; simp [c3, c4])
      · have E : pBoth o w v = some (pHold (wI w) (wL w) ((if pTurned o then pZ o w v else pO o w v) ||| (((pZ o w v ||| pO o w v) ||| (pUnset w ||| pUnset v)) ^^^ (-1))) (pZ o w v ||| pO o w v) 0 0) := by
          rw [pBoth, if_neg c2, pLogics, if_pos (by rw [pUnlike, if_pos c, if_pos hl])]
        refine wq_gR H.1 rfl (rd0 H hR hr ?_)
        rw [K0]
        refine wq_if _ (fun c3 => ?_) (fun c3 => ?_)
        · refine wq_gR H.1 rfl (rd4 H hR hr (wq_gR H.1 rfl (rd4 H hS hs ?_)))
          rw [(KL c3).2, (LL (c.symm.trans c3)).2, Int32.toInt32_toInt64, Int32.toInt32_toInt64]
          refine wq_cI r_join ?_
          rintro _ _ ⟨rfl, rfl⟩
          exact wq_at H.1 (z_log H B sm_0 hR hr E c3 (cd_join W V o0 o1 hl.symm (by omega)))
        · have hi := wi1 W c3 c2
          obtain ⟨a1, a4, a5⟩ := K1 hi
          obtain ⟨-, -, a6⟩ := L1 (c.symm.trans hi)
          have Lp : ∀ (n : Nat) (v5 : Int32) (h : ah_H), v5.toInt + n = (wL w).toInt → 0 ≤ v5.toInt → RH m (setE σ r v5.toInt.toNat fun k => cJoin o (el σ r k) (el σ s k)) b h → wq (ah_val lim ah_P (d + 3) 81 235 [some (aR m), none, some (aI o), some (aI R), some (aI S), some (aI v5), none, none] [] h) (rI fun x h' => x = 1 ∧ RH m (setE σ r (wL w).toInt.toNat fun k => cJoin o (el σ r k) (el σ s k)) b h') := by
            intro n
            induction n with
            | zero =>
              intro v5 h hv h0 H
              refine wq_eq q_81_235 (wq_gR H.1 rfl (rd1 H hR hr ?_))
              rw [setE_j (by decide), a1]
              refine wq_f (fun q => by have := lt_i q; omega) (wq_t (by decide) (wq_some (rI_i ⟨rfl, ?_⟩)))
              rw [show (wL w).toInt.toNat = v5.toInt.toNat by omega]
              exact H
            | succ n ih =>
              intro v5 h hv h0 H
              have e1 := inc_i (v := v5) (by omega)
              refine wq_eq q_81_235 (wq_gR H.1 rfl (rd1 H hR hr ?_))
              rw [setE_j (by decide), a1]
              refine wq_t (Int32.lt_iff_toInt_lt.mpr (by omega)) (wq_at H.1 (wq_cI (r_element H hR hr h0 (by omega)) ?_))
              rintro _ _ ⟨rfl, rfl⟩
              refine wq_at H.1 (wq_cI (r_element H hS hs h0 (by omega)) ?_)
              rintro _ _ ⟨rfl, rfl⟩
              rw [setE_n (by omega), setE_n (by omega)]
              refine wq_cI r_join ?_
              rintro _ _ ⟨rfl, rfl⟩
              refine wq_at H.1 (wq_cV (se_st H hR hr h0 (by omega) rfl cJ_b.1 (Int.le_trans cJ_b.2 (by decide))) fun h1 H1 => ih (v5 + 1) h1 (by omega) (by omega) ?_)
              rw [show (v5 + 1).toInt.toNat = v5.toInt.toNat + 1 by omega]
              exact H1
          refine wq_mono (Lp (wL w).toInt.toNat 0 h (by rw [Int32.toInt_zero]; omega) (by rw [Int32.toInt_zero]; omega) (by rw [show (0 : Int32).toInt.toNat = 0 from rfl, setE_0]; exact H)) ?_
          rintro y ⟨x, h', rfl, rfl, H'⟩
          refine rI_i ?_
          rw [E]
          refine ⟨_, H', by_E B (fun k _ => ⟨cJ_b.1, Int.le_trans cJ_b.2 (by decide)⟩), sm_E sm_0 (fun k _ => fq5 (by omega)), rfl, RW_mk1 hi ?_ ?_ a4 (fun k hk => ?_)⟩
          · rw [setE_j (by decide), K0, hi]
          · rw [setE_j (by decide)]
            exact a1
          · have hk : (k : Int) < (wL w).toInt := hk
            have ee : el (setE σ r (wL w).toInt.toNat fun k => cJoin o (el σ r k) (el σ s k)) r k = cJoin o (el σ r k) (el σ s k) := setE_e (by omega)
            rw [ee, a5 k hk, a6 k (by rw [← hl]; exact hk)]
            exact (cd_join W V o0 o1 hl.symm hk).symm
    · have hu : pUnlike w v = 4 := by rw [pUnlike, if_pos c, if_neg (fun e => c1 ((un_0 W V c).mpr e))]
      refine wq_at H.1 (z_fail H B sm_0 ?_)
      have hi : ¬ wI w = 2 := fun e => c1 ((un_0 W V c).mpr ((W.2.2.1 (by rw [e]; decide)).trans (V.2.2.1 (by rw [← c, e]; decide)).symm))
      rw [pBoth, if_neg hi, pLogics, if_neg (by rw [hu]; decide)]
  · refine wq_at H.1 (z_fail H B sm_0 ?_)
    rw [pBoth]
    by_cases c2 : wI w = 2
    · rw [if_pos c2, pTruths, if_neg (fun e => c (c2.trans e.symm))]
    · rw [if_neg c2, pLogics, if_neg (by rw [pUnlike, if_neg c]; decide)]
/-! bounded, reckon -/
theorem z_bnd (H : RH m τ b h) (B : byE τ) (G : sm (fQ r) σ τ) (hR : R.toInt = r) (hr : r < 10100) (e : res = pBnd z) : wq (ah_cI (vc lim (d + 2) 84 [aR m, aI k, aI R, aJ z] h) (nx h1) fun i h1 => if i = 0 ∨ i = 1 then some (.inl (some (.inl i)), h1) else none) (rI (oQ m b r σ res)) := by
  have K : wq (vc lim (d + 2) m_Ref_bounded [aR m, aI k, aI R, aJ z] h) (rI (oQ m b r σ res)) := by
    refine wq_eq e_Ref_bounded ?_
    simp only [lgv_le, lgv_lt]
    refine wq_if _ (fun c => wq_if _ (fun c1 => ?_) (fun c1 => ?_)) (fun c => ?_)
    · exact wq_at H.1 (z_fail H B G (by rw [e, pBnd, if_pos c1]))
    · exact wq_at H.1 (z_num H B G hR hr (by rw [e, pBnd, if_neg c1, if_pos c]))
    · refine wq_at H.1 (z_fail H B G ?_)
      rw [e, pBnd]
      by_cases c1 : z < -2147483647
      · rw [if_pos c1]
      · rw [if_neg c1, if_neg c]
  exact wq_cI K fun x h2 p => wq_t (oQ_01 p) (wq_some (rI_i p))
theorem i64_bd (z : Int64) : -9223372036854775808 ≤ z.toInt ∧ z.toInt ≤ 9223372036854775807 := by
  have h1 := Int64.le_toInt z
  have h2 := Int64.toInt_lt z
  exact ⟨by omega, by omega⟩
end Ve
