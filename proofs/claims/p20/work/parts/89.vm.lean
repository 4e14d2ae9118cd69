/-! THE REFERENCE FINDS WHAT AN EXPRESSION IS: all of it -/
section Vm
variable {lim : Nat × Nat} {d m r n nS nV fv B0 : Nat} {σ σ' τ : rS} {b h h' : ah_H} {R k v : Int32} {w u : WD} {T : KT} {eS eV : Nat → TS} {kS kV : Nat → Int32 × Int32} {res : Option WD}
theorem lg_bit (W : WF w) (hl : wL w = 1) : (¬ pOnes w = 0 ↔ cHigh (cdW w 0) = true) ∧ (¬ pZeros w = 0 ↔ cLow (cdW w 0) = true) := by
  have zz : ∀ k : Nat, 1 ≤ k → tb (w1 w) k = false := fun k hk => (W.2.2.2.2.2.1 k (by rw [hl]; show (1 : Int) ≤ k; omega)).2.1
  rw [cd_hi W, cd_lo W, ← tb_ones, ← tb_zeros (w := w) (k := 0) (by omega)]
  constructor
  · refine ⟨fun e => ?_, fun e q => by rw [q, tb_0] at e; cases e⟩
    cases c : tb (pOnes w) 0 with
    | true => rfl
    | false =>
      refine absurd (tb_ext fun k _ => ?_) e
      rw [tb_0]
      cases k with
      | zero => exact c
      | succ k => rw [tb_ones, zz (k + 1) (by omega)]; rfl
  · refine ⟨fun e => ?_, fun e q => by rw [q, tb_0] at e; cases e⟩
    cases c : tb (pZeros w) 0 with
    | true => rfl
    | false =>
      refine absurd (tb_ext fun k hk => ?_) e
      rw [tb_0]
      cases k with
      | zero => exact c
      | succ k => rw [tb_zeros hk, zz (k + 1) (by omega)]; rfl
/-- the end of a call that goes on with a value in r -/
theorem oQ_some {x : Int32} {h1 : ah_H} (k : oQ m b r σ (some w) x h1) : x = 1 ∧ ∃ σ', RH m σ' b h1 ∧ byE σ' ∧ sm (fQ r) σ σ' ∧ RW σ' r w := by
  obtain ⟨σ', H', B', G', e, K⟩ := k
  exact ⟨e, σ', H', B', G', K⟩
theorem oQ_none {x : Int32} {h1 : ah_H} (k : oQ m b r σ none x h1) (e : res = none) : x = 0 ∧ oQ m b r σ res 0 h1 := by
  obtain ⟨σ', H', B', G', e2⟩ := k
  rw [e]
  exact ⟨e2, σ', H', B', G', rfl⟩
theorem ret01 {x : Int32} {h1 : ah_H} (k : oQ m b r σ res x h1) : wq (if x = 0 then (if (0 : Int32) = 0 ∨ (0 : Int32) = 1 then some (.inl (some (.inl (0 : Int32))), h1) else none : Option ah_R) else if (1 : Int32) = 0 ∨ (1 : Int32) = 1 then some (.inl (some (.inl (1 : Int32))), h1) else none) (rI (oQ m b r σ res)) := by
  rcases oQ_01 k with rfl | rfl
  · exact wq_t rfl (wq_t (by decide) (wq_some (rI_i k)))
  · exact wq_f (by decide) (wq_t (by decide) (wq_some (rI_i k)))
theorem r_findEl (H : RH m σ b h) (B : byE σ) (hR : R.toInt = r) (hr : r + 1 < 10100) (W : WF w) (hw : wI w = 1) (K : RW σ r w) (V : WF u) (L : RW σ (r + 1) u) : wq (vc lim (d + 2) m_Ref_findElement [aR m, aI k, aI R] h) (rI (oQ m b r σ (pEl w u))) := by
  have hS : (R + 1).toInt = ((r + 1 : Nat) : Int) := by rw [inc_i (by omega)]; omega
  obtain ⟨K0, K2, KL, K1⟩ := K
  obtain ⟨L0, L2, LL, L1⟩ := L
  obtain ⟨a1, a4, a5⟩ := K1 hw
  refine wq_eq e_Ref_findElement ?_
  simp only [lgv_lt]
  refine rd0' H hS hr L0 (wq_if _ (fun c => ?_) (fun c => wq_at H.1 (z_fail H B sm_0 (by rw [pEl, if_neg c]))))
  refine rd4' H hS hr (L2 c).2 (wq_if _ (fun c1 => wq_at H.1 (z_fail H B sm_0 (by rw [pEl, if_pos c, if_pos c1]))) (fun c1 => ?_))
  refine rd4' H hS hr (L2 c).2 (rd1' H hR (by omega) a1 (wq_if _ (fun c2 => ?_) (fun c2 => wq_at H.1 (z_fail H B sm_0 (by rw [pEl, if_pos c, if_neg c1, if_neg c2])))))
  have E : pEl w u = some (pPart w 0 (wN u).toInt32 1) := by rw [pEl, if_pos c, if_neg c1, if_pos c2]
  obtain ⟨-, -, h1, h2, h3⟩ := el_b W E
  have l1 := W.2.1.2
  refine rd4' H hS hr (L2 c).2 (wq_at H.1 (wq_cI (r_element H hR (by omega) (by omega) (by omega)) ?_))
  rintro _ _ ⟨rfl, rfl⟩
  refine wq_at H.1 (z_log H B sm_0 hR (by omega) E rfl ?_)
  rw [cd_part W (by omega) (by omega) (by decide) (by decide) (by decide), Nat.add_zero]
  exact (a5 _ (by omega)).symm
theorem f_4 (P : PO T) (hv : rgN T v) {M : Int32} (hM : kf T 6 v = M) (m1 : 1 ≤ M.toInt) (m2 : M.toInt ≤ 64) (hc : ∀ i : Nat, (i : Int) < M.toInt → kf T 0 (kC T v i) = 3 ∧ kf T 6 (kC T v i) = 0 ∧ 0 ≤ (kf T 1 (kC T v i)).toInt ∧ (kf T 1 (kC T v i)).toInt ≤ 8) (hR : R.toInt = r) (hrr : r < 10100) (B : byE σ) (N : NB T B0 σ) {a : Int32} (H1 : RH m (sRow σ r M) b h) (ha : a.toInt = B0 + (kC T v 0).toInt) : wq (ah_val lim ah_P (d + 7) 75 153 [some (aR m), none, some (aI R), none, none, some (aI a), some (aI (M - 1)), none] [] h) (rI (oQ m b r σ (some (pGather (evc T v) M)))) := by
  have N1 := NB_sm N (sm_row (v := M) (r := r) sm_0)
  have e1 : (M - 1).toInt = M.toInt - 1 := sb_i (by show _ ≤ M.toInt - 1; omega) (by show M.toInt - 1 ≤ _; omega)
  generalize M - 1 = J at e1 ⊢
  generalize hml : M.toInt.toNat = ml
  have Lp : ∀ (p i : Nat) (c j : Int32) (h : ah_H), i + p = ml → c.toInt = (if i < ml then (B0 : Int) + (kC T v i).toInt else -1) → j.toInt + 1 = p → RH m (setF (sRow σ r M) r p ml fun k => evc T v (ml - 1 - k)) b h → wq (ah_val lim ah_P (d + 7) 75 153 [some (aR m), none, some (aI R), none, none, some (aI c), some (aI j), none] [] h) (rI fun x h' => x = 1 ∧ RH m (setF (sRow σ r M) r 0 ml fun k => evc T v (ml - 1 - k)) b h') := by
    intro p
    induction p with
    | zero =>
      intro i c j h hi hcc hj H
      rw [if_neg (by omega)] at hcc
      exact wq_eq q_75_153 (wq_t (Int32.toInt_inj.mp (by rw [hcc]; rfl)) (wq_t (by decide) (wq_some (rI_i ⟨rfl, H⟩))))
    | succ p ihp =>
      intro i c j h hi hcc hj H
      rw [if_pos (by omega)] at hcc
      have hiM : (i : Int) < (kf T 6 v).toInt := by rw [hM]; omega
      obtain ⟨q1, -, -, -⟩ := po_k P hv hiM
      have gi := (hc i (by omega)).2.2
      have N2 : NB T B0 (setF (sRow σ r M) r (p + 1) ml fun k => evc T v (ml - 1 - k)) := NB_sm N1 (r := r) (sm_F sm_0 (fun k _ _ => fq5 (Nat.le_add_right _ _)))
      have N3 : NB T B0 (setF (sRow σ r M) r p ml fun k => evc T v (ml - 1 - k)) := NB_sm N1 (r := r) (sm_F sm_0 (fun k _ _ => fq5 (Nat.le_add_right _ _)))
      have cn : ¬ c = -1 := fun e => by
        rw [e] at hcc
        have h1 := q1.1
        have h2 : (-1 : Int32).toInt = -1 := rfl
        omega
      have j0 : 0 ≤ j.toInt := by omega
      have j1 : j.toInt < 64 := by omega
      have v1 : (kf T 1 (kC T v i)).toInt ≤ 127 := by omega
      have jm : -2147483647 ≤ j.toInt := by omega
      have jp : j.toInt - 1 + 1 = (p : Int) := by omega
      refine wq_eq q_75_153 (wq_f cn (rN9 H hcc N2 q1 (wq_at H.1 (wq_cV (r_setElement H hR hrr j0 j1 gi.1 v1) fun h2 H2 => ?_))))
      have es := setF_s (σ := sRow σ r M) (r := r) (a := p) (n := ml) (g := fun k => evc T v (ml - 1 - k)) (by omega)
      have ei : ml - 1 - p = i := by omega
      have ep : j.toInt.toNat = p := by omega
      have H3 : RH m (setF (sRow σ r M) r p ml fun k => evc T v (ml - 1 - k)) b h2 := by
        rw [← es]
        rw [ep] at H2
        show RH m (sI (setF (sRow σ r M) r (p + 1) ml fun k => evc T v (ml - 1 - k)) 5 (64 * r + p) (evc T v (ml - 1 - p))) b h2
        rw [ei]
        exact H2
      refine rN12 H3 N3 hv hiM q1 hcc (fun c2 hc2 => ihp (i + 1) c2 (j + -1) h2 (by omega) ?_ (by rw [dec_i jm]; exact jp) H3)
      rw [hc2, hM]
      by_cases cc : i + 1 < ml
      · rw [if_pos (by omega), if_pos cc]
      · rw [if_neg (by omega), if_neg cc]
  refine wq_mono (Lp ml 0 a J h (by omega) (by rw [if_pos (by omega)]; exact ha) (by omega) (by rw [setF_n (Nat.le_refl _)]; exact H1)) ?_
  rintro _ ⟨x, h', rfl, rfl, H'⟩
  have cb : ∀ i : Nat, (i : Int) < M.toInt → 0 ≤ (evc T v i).toInt ∧ (evc T v i).toInt ≤ 8 := fun i hi => (hc i hi).2.2
  refine rI_i ⟨_, H', by_F (by_row B (by omega) (by omega)) (fun k _ hk => ?_), sm_F (sm_row sm_0) (fun k _ _ => fq5 (Nat.le_add_right _ _)), rfl, RW_mk1 rfl ?_ ?_ sRow_4 (fun k hk => ?_)⟩
  · have := cb (ml - 1 - k) (by omega)
    omega
  · rw [setF_j (by decide), sRow_0]
  · rw [setF_j (by decide), sRow_1]
    rfl
  · have hk : (k : Int) < M.toInt := hk
    have := cd_gather m1 m2 cb hk
    rw [hml] at this
    exact (setF_e (Nat.zero_le _) (by omega)).trans this.symm
end Vm
