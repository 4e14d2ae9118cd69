/-! THE REFERENCE'S STATEMENTS: what fits, SET -/
section Yh
variable {lim : Nat × Nat} {d m n B fv pp : Nat} {V : ENV} {ht : Nat → Nat} {a b : Nat → Int64} {F : FL} {σ σ' σ0 : rS} {bb h h' h1 : ah_H} {td td' : TD} {kS kV : Nat → Int32 × Int32} {v k k2 l R kk : Int32} {Φ : ah_R → Prop} {A Bk : ah_H → Option ah_R} {w : WD} {r : RST} {T : KT} {p : Int32 × Int32 × Int32}
theorem th_b (k80 : kk = 80 ∨ kk = 81) (S : BS V B fv pp ht r.1 a b td F σ) (g : gTh V kS kV kk v) : whR V.1 fv (ofT V.1 v) < 9216 ∧ RW σ (whR V.1 fv (ofT V.1 v)) (thS V r (ofT V.1 v)).1 ∧ WF (thS V r (ofT V.1 v)).1 ∧ (wI (thS V r (ofT V.1 v)).1 = 2 → ia σ 2 (whR V.1 fv (ofT V.1 v)) = (thS V r (ofT V.1 v)).2.2.2.2.1 ∧ ia σ 3 (whR V.1 fv (ofT V.1 v)) = (thS V r (ofT V.1 v)).2.2.2.2.2) := by
  obtain ⟨go, ko⟩ := gTh_o k80 g
  obtain ⟨b1, b2, b3⟩ := wh_b S.1.2.1 go
  rw [th_wh]
  refine ⟨b1, b2, b3, fun h2 => ?_⟩
  rw [← th_wh (r := r)] at h2
  obtain ⟨L1, L2⟩ := S.1.2.2.2.2.1
  obtain ⟨-, g0, ⟨g1, g2⟩ | ⟨g1, g2⟩⟩ := go
  · unfold thS at h2 ⊢
    unfold whR
    rw [if_pos g1] at h2
    rw [if_pos g1, if_pos g1]
    exact L1 _ (by omega) h2
  · have n80 : ¬ kf V.1 0 (ofT V.1 v) = 80 := by rw [g1]; decide
    unfold thS at h2 ⊢
    unfold whR
    rw [if_neg n80] at h2
    rw [if_neg n80, if_neg n80]
    exact L2 _ (by omega) h2
theorem rq_fits (k80 : kk = 80 ∨ kk = 81) (K : KQ V kS kV r.1) (H : RH m σ bb h) (S : BS V B fv pp ht r.1 a b td F σ) (G0 : sm (QX pp fv V.2.2.2) σ0 σ) (g : gTh V kS kV kk v) (hk : k.toInt = B + v.toInt) (q : RW σ 9872 w) (W : WF w) (am : pAim V r v = some p) (kn : pFit w (thS V r (ofT V.1 v)) p.1 p.2.2 = false → ∀ σ' h', RH m σ' bb h' → BS V B fv pp ht r.1 a b td F σ' → sm (QX pp fv V.2.2.2) σ0 σ' → wq (A h') Φ) (ks : pFit w (thS V r (ofT V.1 v)) p.1 p.2.2 = true → wq (Bk h) Φ) : wq (ah_at h (some m) 11 fun _ _ => ah_cI (vc lim (d + 2) 104 [aR m, aI k, aI k2] h) (nx h1) fun y h' => if y = 0 then A h' else Bk h') Φ := by
  have P := K.1
  have hv := g.1
  obtain ⟨go, ko⟩ := gTh_o k80 g
  obtain ⟨tb, tr, tw, tl⟩ := th_b k80 S g
  -- what is wanted
  have am82 : kf V.1 0 v = 82 → p.1 = 0 ∧ p.2.2 = 1 := fun c => by
    rw [show pAim V r v = (EVL V r (kC V.1 v 1)).bind fun w => if wI w = 2 then if wN w < 0 then none else if wN w < (wL (thS V r (ofT V.1 v)).1).toInt64 then some (0, (wN w).toInt32, 1) else none else none from (if_neg (by rw [c]; decide)).trans (if_pos c)] at am
    obtain ⟨x, -, ex⟩ := bd_o am
    split at ex
    · split at ex
      · cases ex
      · split at ex
        · cases ex
          exact ⟨rfl, rfl⟩
        · cases ex
    · cases ex
  have am83 : kf V.1 0 v = 83 → p.1 = wI (thS V r (ofT V.1 v)).1 ∧ p.2.2 = kf V.1 1 (kC V.1 v 2) := fun c => by
    rw [show pAim V r v = some (wI (thS V r (ofT V.1 v)).1, kf V.1 1 (kC V.1 v 1), kf V.1 1 (kC V.1 v 2)) from if_pos c] at am
    cases am
    exact ⟨rfl, rfl⟩
  have amo : ¬ kf V.1 0 v = 82 → ¬ kf V.1 0 v = 83 → p.1 = wI (thS V r (ofT V.1 v)).1 ∧ p.2.2 = wL (thS V r (ofT V.1 v)).1 := fun c c' => by
    rw [show pAim V r v = some (wI (thS V r (ofT V.1 v)).1, 0, wL (thS V r (ofT V.1 v)).1) from (if_neg c').trans (if_neg c)] at am
    cases am
    exact ⟨rfl, rfl⟩
  have no : ∀ k3 : Int32, pFit w (thS V r (ofT V.1 v)) p.1 p.2.2 = false → wq (ah_at h (some m) 11 fun _ _ => ah_cI (vc lim (d + 1) 63 [aR m, aI k3, aI k2] h) (nx h) fun i h1 => if i = 0 ∨ i = 1 then some (.inl (some (.inl i)), h1) else none) (rI fun y h' => (y = 0 ∧ wq (A h') Φ) ∨ (y = 1 ∧ wq (Bk h') Φ)) := fun k3 pf => rq_fail H S G0 (fun σ5 h5 H5 S5 G5 => wq_t (Or.inl rfl) (wq_some (rI_i (Or.inl ⟨rfl, kn pf σ5 h5 H5 S5 G5⟩))))
  have fin : wq (vc lim (d + 2) 104 [aR m, aI k, aI k2] h) (rI fun y h' => (y = 0 ∧ wq (A h') Φ) ∨ (y = 1 ∧ wq (Bk h') Φ)) := by
    have G164 : ∀ o32 : Int32, o32.toInt = whR V.1 fv (ofT V.1 v) → wI w = p.1 → wL w = p.2.2 → wq (ah_val lim ah_P (d + 1) 104 164 [some (aR m), none, some (aI k2), some (aI o32), some (aI p.1), none] [] h) (rI fun y h' => (y = 0 ∧ wq (A h') Φ) ∨ (y = 1 ∧ wq (Bk h') Φ)) := by
      intro o32 ho e1 e2
      refine wq_eq q_104_164 (wq_if _ (fun c2 => ?_) (fun c2 => ?_))
      · have w2 : wI w = 2 := e1.trans c2
        have s2 : wI (thS V r (ofT V.1 v)).1 = 2 := pAim_2 (kk := p.1) (ff := p.2.1) (mm := p.2.2) am c2
        obtain ⟨t1, t2⟩ := tl s2
        have lo : ∀ x y : Int64, ¬ x < y ↔ y.toInt ≤ x.toInt := fun x y => by rw [Int64.lt_iff_toInt_lt]; omega
        refine rq_n (r := 9872) H rfl (by omega) q w2 (wq_gR H.1 rfl (ra_I H (j := 2) (by omega) rfl rfl (by omega) (by show _ < (10100 : Int); omega) ?_))
        rw [show o32.toInt.toNat = whR V.1 fv (ofT V.1 v) by omega, t1]
        refine wq_if _ (fun c3 => ?_) (fun c3 => ?_)
        · rw [lgv_lt] at c3
          have pf : pFit w (thS V r (ofT V.1 v)) p.1 p.2.2 = false := decide_eq_false (fun q => by
            have := (q.2.2 w2).1
            have c3 := Int64.lt_iff_toInt_lt.mp c3
            rw [Int32.toInt_toInt64] at c3
            omega)
          exact rq_fail H S G0 (fun σ5 h5 H5 S5 G5 => wq_t rfl (wq_t (Or.inl rfl) (wq_some (rI_i (Or.inl ⟨rfl, kn pf σ5 h5 H5 S5 G5⟩)))))
        · rw [lgv_lt] at c3
          have c3 := (lo _ _).mp c3
          rw [Int32.toInt_toInt64] at c3
          refine rq_n (r := 9872) H rfl (by omega) q w2 (wq_gR H.1 rfl (ra_I H (j := 3) (by omega) rfl rfl (by omega) (by show _ < (10100 : Int); omega) ?_))
          rw [show o32.toInt.toNat = whR V.1 fv (ofT V.1 v) by omega, t2]
          refine wq_if _ (fun c4 => ?_) (fun c4 => ?_)
          · rw [lgv_le] at c4
            have c4 := Int64.le_iff_toInt_le.mp c4
            rw [Int32.toInt_toInt64] at c4
            exact wq_t (by decide) (wq_some (rI_i (Or.inr ⟨rfl, ks (decide_eq_true ⟨e1, e2, fun _ => ⟨c3, c4⟩⟩)⟩)))
          · rw [lgv_le] at c4
            have pf : pFit w (thS V r (ofT V.1 v)) p.1 p.2.2 = false := decide_eq_false (fun q => c4 (Int64.le_iff_toInt_le.mpr (by rw [Int32.toInt_toInt64]; exact (q.2.2 w2).2)))
            exact rq_fail H S G0 (fun σ5 h5 H5 S5 G5 => wq_t rfl (wq_t (Or.inl rfl) (wq_some (rI_i (Or.inl ⟨rfl, kn pf σ5 h5 H5 S5 G5⟩)))))
      · exact wq_t (by decide) (wq_some (rI_i (Or.inr ⟨rfl, ks (decide_eq_true ⟨e1, e2, fun q => absurd (e1.symm.trans q) c2⟩)⟩)))
    have G116 : ∀ (o32 n32 : Int32), o32.toInt = whR V.1 fv (ofT V.1 v) → (p.1 = 1 → n32 = p.2.2) → (¬ p.1 = 1 → p.2.2 = 1) → wq (ah_val lim ah_P (d + 1) 104 116 [some (aR m), none, some (aI k2), some (aI o32), some (aI p.1), none] [aI n32] h) (rI fun y h' => (y = 0 ∧ wq (A h') Φ) ∨ (y = 1 ∧ wq (Bk h') Φ)) := by
      intro o32 n32 ho n1 n2
      refine wq_eq q_104_116 (rq_is (r := 9872) H rfl (by omega) q (wq_if _ (fun c1 => wq_if _ (fun c2 => ?_) (fun c2 => ?_)) (fun c1 => no 3 (decide_eq_false (fun q => c1 q.1)))))
      · have w1 : wI w = 1 := c1.trans c2
        refine wq_gR H.1 rfl (rd1 (r := 9872) H rfl (by omega) ?_)
        rw [(q.2.2.2 w1).1, n1 c2]
        refine wq_if _ (fun c3 => G164 o32 ho c1 c3) (fun c3 => no 4 (decide_eq_false (fun q => c3 q.2.1)))
      · refine G164 o32 ho c1 ?_
        rw [n2 c2]
        exact W.2.2.1 (by rw [c1]; exact c2)
    have G58 : ∀ (o32 w32 : Int32), o32.toInt = whR V.1 fv (ofT V.1 v) → w32 = p.1 → wq (ah_val lim ah_P (d + 1) 104 58 [some (aR m), some (aI k), some (aI k2), some (aI o32), none, none] [aI w32] h) (rI fun y h' => (y = 0 ∧ wq (A h') Φ) ∨ (y = 1 ∧ wq (Bk h') Φ)) := by
      intro o32 w32 ho hw
      subst hw
      refine wq_eq q_104_58 (wq_gR H.1 rfl (rd_k H hk S.1.1 hv (wq_if _ (fun c82 => ?_) (fun c82 => wq_gR H.1 rfl (rd_k H hk S.1.1 hv (wq_if _ (fun c83 => ?_) (fun c83 => ?_)))))))
      · obtain ⟨x1, x2⟩ := am82 c82
        exact G116 o32 0 ho (fun q => by rw [x1] at q; exact absurd q (by decide)) (fun _ => x2)
      · obtain ⟨x1, x2⟩ := am83 c83
        obtain ⟨r1, -⟩ := gTh_r k80 K g (Or.inr c83)
        obtain ⟨-, ⟨g1, -⟩ | ⟨g1, -⟩ | ⟨-, gm, -⟩⟩ := g
        · rw [c83] at g1
          rcases k80 with rfl | rfl <;> exact absurd g1 (by decide)
        · rw [c83] at g1; exact absurd g1 (by decide)
        · have m0 : 0 < (kf V.1 6 v).toInt := by rw [gm]; decide
          have m1 : ((0 : Nat) : Int) + 1 < (kf V.1 6 v).toInt := by rw [gm]; decide
          have m2 : ((1 : Nat) : Int) + 1 < (kf V.1 6 v).toInt := by rw [gm]; decide
          refine wq_gR H.1 rfl (wq_gR H.1 rfl (wq_gR H.1 rfl (wq_gR H.1 rfl (rd_c H hk S.1.1 hv m0 (fun c0 hc0 => rd_x (i := 0) P H S.1.1 hv m1 hc0 (fun c1 hc1 => rd_x (i := 1) P H S.1.1 hv m2 hc1 (fun c2 hc2 => rd_g H hc2 S.1.1 (po_k P hv (i := 2) (by rw [gm]; decide)).1 ?_)))))))
          exact G116 o32 _ ho (fun _ => x2.symm) (fun q => absurd (x1.trans r1) q)
      · obtain ⟨x1, x2⟩ := amo c82 c83
        refine wq_gR H.1 rfl (rd1 H ho (by omega) (G116 o32 _ ho (fun q => ?_) (fun q => ?_)))
        · rw [x1] at q
          rw [(tr.2.2.2 q).1, x2]
        · rw [x1] at q
          rw [x2]
          exact tw.2.2.1 q
    have G0' : ∀ (o32 : Int32), o32.toInt = whR V.1 fv (ofT V.1 v) → wq (ah_gR h (some m) 11 12 fun r5 => ah_lI h r5 100 k fun e6 => if e6 = 82 then ah_val lim ah_P (d + 1) 104 58 [some (aR m), some (aI k), some (aI k2), some (aI o32), none, none] [aI 0] h else ah_gR h (some m) 11 1 fun r7 => ah_lI h r7 103 o32 fun e8 => ah_val lim ah_P (d + 1) 104 58 [some (aR m), some (aI k), some (aI k2), some (aI o32), none, none] [aI e8] h) (rI fun y h' => (y = 0 ∧ wq (A h') Φ) ∨ (y = 1 ∧ wq (Bk h') Φ)) := by
      intro o32 ho
      refine wq_gR H.1 rfl (rd_k H hk S.1.1 hv (wq_if _ (fun c82 => G58 o32 0 ho (am82 c82).1.symm) (fun c82 => wq_gR H.1 rfl (rd0 H ho (by omega) ?_))))
      rw [tr.1]
      by_cases c83 : kf V.1 0 v = 83
      · exact G58 o32 _ ho (am83 c83).1.symm
      · exact G58 o32 _ ho (amo c82 c83).1.symm
    have G23 : (kf V.1 0 v = 82 ∨ kf V.1 0 v = 83) → wq (ah_val lim ah_P (d + 1) 104 23 [some (aR m), some (aI k), some (aI k2), none, none, none] [aR m] h) (rI fun y h' => (y = 0 ∧ wq (A h') Φ) ∨ (y = 1 ∧ wq (Bk h') Φ)) := by
      intro c
      have eo : ofT V.1 v = kC V.1 v 0 := if_pos c
      have m0 : 0 < (kf V.1 6 v).toInt := by
        obtain ⟨-, ⟨g1, -⟩ | ⟨-, gm, -⟩ | ⟨-, gm, -⟩⟩ := g
        · rw [g1] at c
          rcases k80 with rfl | rfl <;> exact absurd c (by decide)
        · rw [gm]; decide
        · rw [gm]; decide
      refine wq_eq q_104_23 (wq_gR H.1 rfl (rd_c H hk S.1.1 hv m0 (fun c0 hc0 => wq_at H.1 (wq_cI (r_where H S.1.1 S.1.2.1 (eo ▸ go) hc0) ?_))))
      rintro o4 h4 ⟨eh, e4⟩
      subst eh
      rw [← eo] at e4
      exact G0' o4 e4
    refine wq_eq e_Ref_fits (wq_gR H.1 rfl (rd_k H hk S.1.1 hv (wq_if _ (fun c82 => G23 (Or.inl c82)) (fun c82 => wq_gR H.1 rfl (rd_k H hk S.1.1 hv (wq_if _ (fun c83 => G23 (Or.inr c83)) (fun c83 => ?_)))))))
    have eo : ofT V.1 v = v := if_neg (fun q => q.elim c82 c83)
    refine wq_at H.1 (wq_cI (r_where H S.1.1 S.1.2.1 (eo ▸ go) hk) ?_)
    rintro o4 h4 ⟨eh, e4⟩
    subst eh
    rw [eo] at G0'
    exact G0' o4 e4
  refine wq_at H.1 (wq_cI fin ?_)
  rintro y h2 (⟨rfl, q⟩ | ⟨rfl, q⟩)
  · exact wq_t rfl q
  · exact wq_f (by decide) q
end Yh
