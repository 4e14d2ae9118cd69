/-! THE REFERENCE'S STATEMENTS: ASSIGN, its end -/
/-- waves so far -/
def WV (σ : rS) (W i : Nat) (a : Nat → WD) (b : Nat → Int64) : Prop := ∀ j, j < i → ja σ 38 (W + j) = b j ∧ RW σ (9344 + (W + j)) (a j) ∧ WF (a j)
section Yr
variable {lim : Nat × Nat} {d m n N B fv pp : Nat} {V : ENV} {ht : Nat → Nat} {a b : Nat → Int64} {F : FL} {σ σ' σ0 : rS} {bb h h' h1 : ah_H} {td : TD} {kS kV : Nat → Int32 × Int32} {v c k c0 l s v1 v2 R x32 ii : Int32} {Φ : ah_R → Prop} {T : KT} {r : RST} {e : Nat → TS} {w : WD} {o : Option SOUT} {aa : Nat → WD} {b2 : Nat → Int64} {q : Int32 × Int32 × Int32} {lm : Int64}
theorem r_as_t (K : KQ V kS kV r.1) (hv : rgN V.1 v) (hm0 : 0 < (kf V.1 6 v).toInt) (g : gTh V kS kV 80 (kC V.1 v 0)) (hk : k.toInt = B + v.toInt) (hc0 : c0.toInt = B + (kC V.1 v 0).toInt) (hN : nrm V.1 F = goP V.1 0 v) (H : RH m σ bb h) (S : BS V B fv pp ht r.1 r.2.2.1 r.2.2.2.1 r.2.2.2.2 F σ) (G0 : sm (QX pp fv V.2.2.2) σ0 σ) (ea : pAim V r (kC V.1 v 0) = some q) (e43 : σ.1 43 = q.2.1) (e44 : σ.2.1 44 = lm) (hi : ii.toInt = N) (l2 : r.2.2.2.2.1 < 200) (l5 : r.2.2.2.2.2.1 + N ≤ 500) (wv : WV σ r.2.2.2.2.2.1 N aa b2) (hx : x32.toInt = B + (ofT V.1 (kC V.1 v 0)).toInt) (ho : o = some (r.1, r.2.2.1, r.2.2.2.1, tvL aa b2 N 0 (tAct r.2.2.2.2 0 (kf V.1 1 (ofT V.1 (kC V.1 v 0))) q.2.1 q.2.2 (kf V.1 1 v) (Nat.toInt32 r.2.2.2.2.2.1) lm), 0, v)) : wq (ah_val lim ah_P (d + 210) 106 300 [some (aR m), some (aI k), some (aI c0), none, some (aI ii), none, none] [aI x32, aR m] h) (rI (rgM m bb V B fv pp ht r.1 r.2.2.2.2 σ0 o)) := by
  have P := K.1
  have A := S.1.2.2.2.2.2
  obtain ⟨a1, a2, a3, a4⟩ := A.1
  have e1 : (1 : Int32).toInt = 1 := rfl
  obtain ⟨go, ko⟩ := gTh_o (Or.inl rfl) g
  obtain ⟨tb, tr, tw, -⟩ := th_b (Or.inl rfl) S g
  have hc := (po_k P hv (i := 0) (by omega)).1
  have eO : whR V.1 fv (ofT V.1 (kC V.1 v 0)) = (kf V.1 1 (ofT V.1 (kC V.1 v 0))).toInt.toNat := if_pos ko
  have g0 : 0 ≤ (kf V.1 1 (ofT V.1 (kC V.1 v 0))).toInt := go.2.1
  refine wq_eq q_106_300 (wq_at H.1 (wq_cI (r_where H S.1.1 S.1.2.1 go hx) ?_))
  rintro o4 h4 ⟨eh, e4⟩
  subst eh
  have eo4 : o4 = kf V.1 1 (ofT V.1 (kC V.1 v 0)) := Int32.toInt_inj.mp (by rw [e4, eO]; omega)
  refine wq_gR H.1 rfl (wq_gI H.1 rfl (wq_t (by decide) (rs_N (j := 31) H (by omega) rfl rfl a1 l2 (fun h2 H2 => ?_))))
  refine wq_gR H2.1 rfl (wq_gI H2.1 rfl (rs_N (j := 32) H2 (by omega) rfl rfl a1 l2 (fun h3 H3 => ?_)))
  refine wq_gR H3.1 rfl (wq_gI H3.1 rfl (wq_gI H3.1 rfl (rs_N (j := 33) H3 (by omega) rfl rfl a1 l2 (fun h5 H5 => ?_))))
  have o3 : ∀ j i, j < 31 → ia (sI (sI (sI σ 31 r.2.2.2.2.1 0) 32 r.2.2.2.2.1 o4) 33 r.2.2.2.2.1 (σ.1 43)) j i = ia σ j i := fun j i hj => (sI_nj (by omega)).trans ((sI_nj (by omega)).trans (sI_nj (by omega)))
  have N3 : NB V.1 B (sI (sI (sI σ 31 r.2.2.2.2.1 0) 32 r.2.2.2.2.1 o4) 33 r.2.2.2.2.1 (σ.1 43)) := NB_e S.1.1 (fun j i _ _ => o3 j i (by omega))
  -- the last of it
  have fin : ∀ mm : Int32, mm = q.2.2 → wq (ah_val lim ah_P (d + 210) 106 419 [some (aR m), some (aI k), none, none, some (aI ii), none, none] [aI mm, aI (σ.1 46), aR (m + 1 + 34)] h5) (rI (rgM m bb V B fv pp ht r.1 r.2.2.2.2 σ0 o)) := by
    intro mm em
    subst em
    refine wq_eq q_106_419 (rs_N (j := 34) H5 (by omega) rfl rfl a1 l2 (fun h6 H6 => ?_))
    have N6 := NB_e N3 (σ' := sI (sI (sI (sI σ 31 r.2.2.2.2.1 0) 32 r.2.2.2.2.1 o4) 33 r.2.2.2.2.1 (σ.1 43)) 34 r.2.2.2.2.1 q.2.2) (fun j i _ _ => sI_nj (by omega))
    refine wq_gR H6.1 rfl (wq_gI H6.1 rfl (wq_gR H6.1 rfl (rd_g H6 hk N6 hv (rs_N (j := 35) H6 (by omega) rfl rfl a1 l2 (fun h7 H7 => ?_)))))
    refine wq_gR H7.1 rfl (wq_gI H7.1 rfl (wq_gJ H7.1 rfl (rs_NJ (j := 36) H7 (by omega) rfl a1 l2 (fun h8 H8 => wq_gI H8.1 rfl (rw_I H8 (by omega) rfl (fun h9 H9 => wq_gI H9.1 rfl (rw_I H9 (by omega) rfl (fun h10 H10 => ?_))))))))
    have ei : (σ.1 46 + 1).toInt = ((r.2.2.2.2.1 + 1 : Nat) : Int) := by rw [ad_i (by omega) (by omega), e1, a1]; rfl
    have en : (σ.1 47 + ii).toInt = ((r.2.2.2.2.2.1 + N : Nat) : Int) := by rw [ad_i (by omega) (by omega)]; omega
    have q0 : ∀ j i, ia (sJ (sI (sI (sI (sI (sI σ 31 r.2.2.2.2.1 0) 32 r.2.2.2.2.1 o4) 33 r.2.2.2.2.1 (σ.1 43)) 34 r.2.2.2.2.1 q.2.2) 35 r.2.2.2.2.1 (kf V.1 1 v)) 36 r.2.2.2.2.1 (σ.2.1 44)) j i = ia (sI (sI (sI (sI (sI σ 31 r.2.2.2.2.1 0) 32 r.2.2.2.2.1 o4) 33 r.2.2.2.2.1 (σ.1 43)) 34 r.2.2.2.2.1 q.2.2) 35 r.2.2.2.2.1 (kf V.1 1 v)) j i := fun _ _ => rfl
    generalize hτ : (sJ (sI (sI (sI (sI (sI σ 31 r.2.2.2.2.1 0) 32 r.2.2.2.2.1 o4) 33 r.2.2.2.2.1 (σ.1 43)) 34 r.2.2.2.2.1 q.2.2) 35 r.2.2.2.2.1 (kf V.1 1 v)) 36 r.2.2.2.2.1 (σ.2.1 44) : rS) = τ
    have H10' : RH m (sG (sG τ 46 (σ.1 46 + 1)) 47 (σ.1 47 + ii)) bb h10 := by
      rw [← hτ]
      exact H10
    have tg : τ.1 = σ.1 := by rw [← hτ]
    have ti : ∀ j i, j < 31 ∨ 36 ≤ j → ia τ j i = ia σ j i := fun j i hj => by
      rw [← hτ, q0]
      exact (sI_nj (by omega)).trans ((sI_nj (by omega)).trans ((sI_nj (by omega)).trans ((sI_nj (by omega)).trans (sI_nj (by omega)))))
    have tn : ∀ j i, i ≠ r.2.2.2.2.1 → ia τ j i = ia σ j i := fun j i hi => by
      rw [← hτ, q0]
      exact (sI_ni hi).trans ((sI_ni hi).trans ((sI_ni hi).trans ((sI_ni hi).trans (sI_ni hi))))
    have t1 : ia τ 31 r.2.2.2.2.1 = 0 := by
      rw [← hτ, q0]
      exact (sI_nj (by omega)).trans ((sI_nj (by omega)).trans ((sI_nj (by omega)).trans ((sI_nj (by omega)).trans sI_eq)))
    have t2 : ia τ 32 r.2.2.2.2.1 = o4 := by
      rw [← hτ, q0]
      exact (sI_nj (by omega)).trans ((sI_nj (by omega)).trans ((sI_nj (by omega)).trans sI_eq))
    have t3 : ia τ 33 r.2.2.2.2.1 = σ.1 43 := by
      rw [← hτ, q0]
      exact (sI_nj (by omega)).trans ((sI_nj (by omega)).trans sI_eq)
    have t4 : ia τ 34 r.2.2.2.2.1 = q.2.2 := by
      rw [← hτ, q0]
      exact (sI_nj (by omega)).trans sI_eq
    have t5 : ia τ 35 r.2.2.2.2.1 = kf V.1 1 v := by
      rw [← hτ, q0]
      exact sI_eq
    have t6 : ja τ 36 r.2.2.2.2.1 = lm := by
      rw [← hτ]
      exact jaJ_e.trans e44
    have tj : ∀ j i, j ≠ 36 ∨ i ≠ r.2.2.2.2.1 → ja τ j i = ja σ j i := fun j i hj => by
      rw [← hτ]
      rcases hj with hj | hj
      · exact jaJ_j hj
      · exact jaJ_i hj
    have G8 : sm (QX pp fv V.2.2.2) σ0 τ := by
      rw [← hτ]
      exact sm_J (sm_I (sm_I (sm_I (sm_I (sm_I G0 (by unfold QX; omega)) (by unfold QX; omega)) (by unfold QX; omega)) (by unfold QX; omega)) (by unfold QX; omega)) (by unfold QX; omega)
    clear hτ H10 H9 H8 H7
    have g46 : (sG (sG τ 46 (σ.1 46 + 1)) 47 (σ.1 47 + ii)).1 46 = σ.1 46 + 1 := (sG_ne (by omega)).trans sG_eq
    have g47 : (sG (sG τ 46 (σ.1 46 + 1)) 47 (σ.1 47 + ii)).1 47 = σ.1 47 + ii := sG_eq
    have g39 : (sG (sG τ 46 (σ.1 46 + 1)) 47 (σ.1 47 + ii)).1 39 = σ.1 39 := (sG_ne (by omega)).trans ((sG_ne (by omega)).trans (by rw [tg]))
    refine wq_gR H10'.1 rfl (wq_gI H10'.1 rfl (wq_gI H10'.1 rfl (rs_N (j := 37) (N := r.2.2.2.2.1 + 1) H10' (by omega) rfl rfl (by rw [g46]; exact ei) (by show r.2.2.2.2.1 + 1 < 201; omega) (fun h11 H11 => wq_t (by decide) (wq_some (rI_i ?_))))))
    rw [g47] at H11
    have oi : ∀ j i, j < 31 ∨ 38 ≤ j → ia (sI (sG (sG τ 46 (σ.1 46 + 1)) 47 (σ.1 47 + ii)) 37 (r.2.2.2.2.1 + 1) (σ.1 47 + ii)) j i = ia σ j i := fun j i hj => (sI_nj (by omega)).trans (ti j i (by omega))
    refine rg_1 H11 (sm_I (sm_G (sm_G G8 (by unfold QX; omega)) (by unfold QX; omega)) (by unfold QX; omega)) ⟨BT_e S.1 (fun j i hj => oi j i (by omega)) (fun i => tj 4 i (Or.inl (by omega))) g39 ?_, FX_e S.2 (oi 26 _ (by omega)) (fun i => oi 27 i (by omega)) (fun i => oi 28 i (by omega)) (fun i => tj 29 i (Or.inl (by omega))) (fun i => tj 30 i (Or.inl (by omega)))⟩ hN ho
    have rwe : ∀ (x : Nat) (w : WD), WF w → RW σ x w → RW (sI (sG (sG τ 46 (σ.1 46 + 1)) 47 (σ.1 47 + ii)) 37 (r.2.2.2.2.1 + 1) (σ.1 47 + ii)) x w := fun x w W q => RW_e q (oi 0 _ (by omega)) (oi 1 _ (by omega)) (tj 4 _ (Or.inl (by omega))) (fun k _ => oi 5 _ (by omega)) W
    refine TA_n (a := aa) (b := b2) (n := N) A l2 l5 (Or.inl rfl) (by rw [show (sI (sG (sG τ 46 (σ.1 46 + 1)) 47 (σ.1 47 + ii)) 37 (r.2.2.2.2.1 + 1) (σ.1 47 + ii)).1 46 = σ.1 46 + 1 from g46]; exact ei) (by rw [show (sI (sG (sG τ 46 (σ.1 46 + 1)) 47 (σ.1 47 + ii)) 37 (r.2.2.2.2.1 + 1) (σ.1 47 + ii)).1 47 = σ.1 47 + ii from g47]; exact en) ((sI_nj (by omega)).trans t1) ((sI_nj (by omega)).trans (t2.trans eo4)) ((sI_nj (by omega)).trans (t3.trans e43)) ((sI_nj (by omega)).trans t4) ((sI_nj (by omega)).trans t5) (fun _ => t6) (by rw [sI_eq]; exact en) (fun j i j1 j2 hi => (sI_nj (by omega)).trans (tn j i (by omega))) (fun i hi => tj 36 i (Or.inr (by omega))) (fun i hi => (sI_ni (by omega)).trans (ti 37 i (by omega))) (fun w' hw => ⟨tj 38 _ (Or.inl (by omega)), rwe _ _ (A.2.2.2 w' hw).2.2 (A.2.2.2 w' hw).2.1⟩) (fun j hj => ⟨(tj 38 _ (Or.inl (by omega))).trans (wv j hj).1, rwe _ _ (wv j hj).2.2 (wv j hj).2.1, (wv j hj).2.2⟩)
  -- how many elements
  have mc : (kf V.1 0 (kC V.1 v 0) = 83) → kf V.1 6 (kC V.1 v 0) = 3 := fun c => by
    obtain ⟨-, ⟨g1, -⟩ | ⟨g1, -⟩ | ⟨-, gm, -⟩⟩ := g
    · rw [c] at g1; exact absurd g1 (by decide)
    · rw [c] at g1; exact absurd g1 (by decide)
    · exact gm
  refine wq_gR H5.1 rfl (wq_gI H5.1 rfl (wq_gR H5.1 rfl (rd_k H5 hc0 N3 hc (wq_if _ (fun c82 => fin 1 ?_) (fun c82 => wq_gR H5.1 rfl (rd_k H5 hc0 N3 hc (wq_if _ (fun c83 => ?_) (fun c83 => ?_))))))))
  · rw [show pAim V r (kC V.1 v 0) = (EVL V r (kC V.1 (kC V.1 v 0) 1)).bind fun w => if wI w = 2 then if wN w < 0 then none else if wN w < (wL (thS V r (ofT V.1 (kC V.1 v 0))).1).toInt64 then some (0, (wN w).toInt32, 1) else none else none from (if_neg (by rw [c82]; decide)).trans (if_pos c82)] at ea
    obtain ⟨x, -, ex⟩ := bd_o ea
    by_cases x2 : wI x = 2
    · rw [if_pos x2] at ex
      by_cases x3 : wN x < 0
      · rw [if_pos x3] at ex; cases ex
      · rw [if_neg x3] at ex
        by_cases x4 : wN x < (wL (thS V r (ofT V.1 (kC V.1 v 0))).1).toInt64
        · rw [if_pos x4] at ex; cases ex; rfl
        · rw [if_neg x4] at ex; cases ex
    · rw [if_neg x2] at ex; cases ex
  · have m3 := mc c83
    rw [show pAim V r (kC V.1 v 0) = some (wI (thS V r (ofT V.1 (kC V.1 v 0))).1, kf V.1 1 (kC V.1 (kC V.1 v 0) 1), kf V.1 1 (kC V.1 (kC V.1 v 0) 2)) from if_pos c83] at ea
    cases ea
    exact wq_gR H5.1 rfl (wq_gR H5.1 rfl (wq_gR H5.1 rfl (wq_gR H5.1 rfl (rd_c H5 hc0 N3 hc (by rw [m3]; decide) (fun e1 h1 => rd_x (i := 0) P H5 N3 hc (by rw [m3]; decide) h1 (fun e2 h2 => rd_x (i := 1) P H5 N3 hc (by rw [m3]; decide) h2 (fun e3 h3 => rd_g H5 h3 N3 (po_k P hc (i := 2) (by rw [m3]; decide)).1 (fin _ rfl))))))))
  · rw [show pAim V r (kC V.1 v 0) = some (wI (thS V r (ofT V.1 (kC V.1 v 0))).1, 0, wL (thS V r (ofT V.1 (kC V.1 v 0))).1) from (if_neg c83).trans (if_neg c82)] at ea
    cases ea
    refine rd0' H5 e4 (by omega) ((o3 0 _ (by omega)).trans tr.1) (wq_if _ (fun s1 => rd1' H5 e4 (by omega) ((o3 1 _ (by omega)).trans (tr.2.2.2 s1).1) (fin _ rfl)) (fun s1 => fin 1 (tw.2.2.1 s1).symm))
end Yr
