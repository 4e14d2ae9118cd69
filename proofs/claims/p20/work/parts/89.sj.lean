/-! THE LOOKER: statements that are right, the first node that is wrong -/
/-- statements and the like, by their kind -/
def stA (σ : rS) (v : Int32) : Prop := mO σ v = 4 ∧ kO σ (cO σ v 0) = 81 ∧ (tOK σ (cO σ v 0) ∧ tF σ (cO σ v 0) 0 = 2) ∧ isX (kO σ (cO σ v 1)).toInt ∧ isX (kO σ (cO σ v 2)).toInt ∧ isB σ (cO σ v 3)
def stE (σ : rS) (v : Int32) : Prop := mO σ v = 1 ∧ (isX (kO σ (cO σ v 0)).toInt ∨ kO σ (cO σ v 0) = 0) ∧ ¬ lpO σ (σ.1 19).toInt.toNat (uO σ v) = -1
def stB (σ : rS) (v k : Int32) : Prop := if k = 31 then mO σ v = 2 ∧ isX (kO σ (cO σ v 0)).toInt ∧ (kO σ (cO σ v 1) = 32 ∨ kO σ (cO σ v 1) = 0) else if k = 33 then mO σ v = 2 ∧ tgK σ (cO σ v 0) 81 ∧ isX (kO σ (cO σ v 1)).toInt else if k = 34 then ifP σ v (mO σ v).toInt 0 else if k = 35 then ¬ mO σ v < 2 ∧ isX (kO σ (cO σ v 0)).toInt ∧ kA σ v 1 (fun k => k = 36) else if k = 36 then mO σ v = 2 ∧ (kO σ (cO σ v 0) = 48 ∧ 1 ≤ (mO σ (cO σ v 0)).toInt ∧ kA σ (cO σ v 0) 0 (fun k => isC k.toInt)) ∧ isB σ (cO σ v 1) else if k = 38 ∨ k = 39 then stA σ v else if k = 40 then mO σ v = 2 ∧ isX (kO σ (cO σ v 0)).toInt ∧ isB σ (cO σ v 1) else if k = 41 then mO σ v = 1 ∧ isB σ (cO σ v 0) else if k = 42 ∨ k = 43 then stE σ v else if k = 44 then mO σ v = 3 ∧ (kO σ (cO σ v 0) = 48 ∧ kA σ (cO σ v 0) 0 (fun k => k = 80)) ∧ (isX (kO σ (cO σ v 1)).toInt ∨ kO σ (cO σ v 1) = 0) ∧ (kO σ (cO σ v 2) = 32 ∨ kO σ (cO σ v 2) = 0) else if k = 46 then mO σ v = 1 ∧ isX (kO σ (cO σ v 0)).toInt else if k = 47 then mO σ v = 2 ∧ isX (kO σ (cO σ v 0)).toInt ∧ isX (kO σ (cO σ v 1)).toInt else if k = 0 ∨ k = 37 ∨ k = 45 then mO σ v = 0 else k = 48
section Li
variable {lim : Nat × Nat} {d nd mk sg lk vr ht rt : Nat} {A : Nat → Nat} {Ls : Nat → List AV} {kt v i rc g n k : Int32} {σ : rS} {h : ah_H} {P Q : Prop}
theorem if_k {c : Prop} [Decidable c] {B C : Option ah_R} {Φ : Int32 → Prop} (h1 : c → wq B (rI fun x h' => h' = h ∧ Φ x)) (h2 : ¬ c → wq C (rI fun x h' => h' = h ∧ Φ x)) : wq (if c then B else C) (rI fun x h' => h' = h ∧ Φ x) := wq_if _ h1 h2
theorem s_374 (L : LC lk mk nd sg vr ht rt A Ls kt rc σ h) (hv : dN σ v) : wq (ah_val lim ah_P (d + 4) 167 374 [some (.inr (.inr (some lk))), some (.inl v), none, some (.inl (mO σ v))] [] h) (rI fun x h' => h' = h ∧ bo (stA σ v) x) := by
  obtain ⟨hl, hm, D, N, T1, T2, O, s1, s2⟩ := id L
  refine wq_eq q_167_374 (an_if (fun _ => wq_at hl (wq_cI (n_kidKind hl D N hv (by decide)) ?_)))
  rintro x h1 ⟨e, rfl⟩
  cases e
  exact an_if (fun _ => wq_kd L hv (by decide) (wq_at hl (an_cI (n_isThing hl hm N T1 T2 (dN_ch D hv _)) (fun _ => wq_at hl (an_cI (n_isExpressionKid hl D N hv (by decide)) (fun _ => wq_at hl (an_cI (n_isExpressionKid hl D N hv (by decide)) (fun _ => wq_kd L hv (by decide) (wq_at hl (fi_cI (n_isStatements hl D N (dN_ch D hv _))))))))))))
theorem s_510 (L : LC lk mk nd sg vr ht rt A Ls kt rc σ h) (hv : dN σ v) : wq (ah_val lim ah_P (d + 4) 167 510 [some (.inr (.inr (some lk))), some (.inl v), none, some (.inl (mO σ v))] [] h) (rI fun x h' => h' = h ∧ bo (stE σ v) x) := by
  obtain ⟨hl, hm, D, N, T1, T2, O, s1, s2⟩ := id L
  refine wq_eq q_167_510 (an_if (fun _ => wq_at hl (an_cI (n_isExpressionOrNothing hl D N hv (by decide)) (fun _ => wq_gR hl rfl (wq_at N.1 (wq_cI (n_loopOf D N hv) ?_))))))
  rintro x h1 ⟨e, rfl⟩
  cases e
  exact nf_if
theorem s_638 (hk : ¬ stB σ v k) : wq (ah_val lim ah_P d 167 638 [none, none, none, none] [] h) (rI fun x h' => h' = h ∧ bo (stB σ v k) x) := wq_eq q_167_638 (r0 rfl hk)
theorem n_isRightStatement (L : LC lk mk nd sg vr ht rt A Ls kt rc σ h) (hv : dN σ v) : wq (vc lim (d + 5) m_Looker_isRightStatement [.inr (.inr (some lk)), .inl v, .inl k, .inl (mO σ v)] h) (rI fun x h' => h' = h ∧ bo (stB σ v k) x) := by
  obtain ⟨hl, hm, D, N, T1, T2, O, s1, s2⟩ := id L
  obtain ⟨b0, b1⟩ := mO_b D hv
  refine wq_eq e_Looker_isRightStatement ?_
  refine if_k (fun c => bo_c fi_if (by subst c; exact Iff.rfl)) (fun c0 => ?_)
  refine if_k (fun c => s_638 (by subst c; exact (by decide : ¬ ((1 : Int32) = 48)))) (fun _ => ?_)
  refine if_k (fun c => s_638 (by subst c; exact (by decide : ¬ ((2 : Int32) = 48)))) (fun _ => ?_)
  refine if_k (fun c => s_638 (by subst c; exact (by decide : ¬ ((3 : Int32) = 48)))) (fun _ => ?_)
  refine if_k (fun c => s_638 (by subst c; exact (by decide : ¬ ((4 : Int32) = 48)))) (fun _ => ?_)
  refine if_k (fun c => s_638 (by subst c; exact (by decide : ¬ ((5 : Int32) = 48)))) (fun _ => ?_)
  refine if_k (fun c => s_638 (by subst c; exact (by decide : ¬ ((6 : Int32) = 48)))) (fun _ => ?_)
  refine if_k (fun c => s_638 (by subst c; exact (by decide : ¬ ((7 : Int32) = 48)))) (fun _ => ?_)
  refine if_k (fun c => s_638 (by subst c; exact (by decide : ¬ ((8 : Int32) = 48)))) (fun _ => ?_)
  refine if_k (fun c => s_638 (by subst c; exact (by decide : ¬ ((9 : Int32) = 48)))) (fun _ => ?_)
  refine if_k (fun c => s_638 (by subst c; exact (by decide : ¬ ((10 : Int32) = 48)))) (fun _ => ?_)
  refine if_k (fun c => s_638 (by subst c; exact (by decide : ¬ ((11 : Int32) = 48)))) (fun _ => ?_)
  refine if_k (fun c => s_638 (by subst c; exact (by decide : ¬ ((12 : Int32) = 48)))) (fun _ => ?_)
  refine if_k (fun c => s_638 (by subst c; exact (by decide : ¬ ((13 : Int32) = 48)))) (fun _ => ?_)
  refine if_k (fun c => s_638 (by subst c; exact (by decide : ¬ ((14 : Int32) = 48)))) (fun _ => ?_)
  refine if_k (fun c => s_638 (by subst c; exact (by decide : ¬ ((15 : Int32) = 48)))) (fun _ => ?_)
  refine if_k (fun c => s_638 (by subst c; exact (by decide : ¬ ((16 : Int32) = 48)))) (fun _ => ?_)
  refine if_k (fun c => s_638 (by subst c; exact (by decide : ¬ ((17 : Int32) = 48)))) (fun _ => ?_)
  refine if_k (fun c => s_638 (by subst c; exact (by decide : ¬ ((18 : Int32) = 48)))) (fun _ => ?_)
  refine if_k (fun c => s_638 (by subst c; exact (by decide : ¬ ((19 : Int32) = 48)))) (fun _ => ?_)
  refine if_k (fun c => s_638 (by subst c; exact (by decide : ¬ ((20 : Int32) = 48)))) (fun _ => ?_)
  refine if_k (fun c => s_638 (by subst c; exact (by decide : ¬ ((21 : Int32) = 48)))) (fun _ => ?_)
  refine if_k (fun c => s_638 (by subst c; exact (by decide : ¬ ((22 : Int32) = 48)))) (fun _ => ?_)
  refine if_k (fun c => s_638 (by subst c; exact (by decide : ¬ ((23 : Int32) = 48)))) (fun _ => ?_)
  refine if_k (fun c => s_638 (by subst c; exact (by decide : ¬ ((24 : Int32) = 48)))) (fun _ => ?_)
  refine if_k (fun c => s_638 (by subst c; exact (by decide : ¬ ((25 : Int32) = 48)))) (fun _ => ?_)
  refine if_k (fun c => s_638 (by subst c; exact (by decide : ¬ ((26 : Int32) = 48)))) (fun _ => ?_)
  refine if_k (fun c => s_638 (by subst c; exact (by decide : ¬ ((27 : Int32) = 48)))) (fun _ => ?_)
  refine if_k (fun c => s_638 (by subst c; exact (by decide : ¬ ((28 : Int32) = 48)))) (fun _ => ?_)
  refine if_k (fun c => s_638 (by subst c; exact (by decide : ¬ ((29 : Int32) = 48)))) (fun _ => ?_)
  refine if_k (fun c => s_638 (by subst c; exact (by decide : ¬ ((30 : Int32) = 48)))) (fun _ => ?_)
  refine if_k (fun c => bo_c (an_if (fun _ => wq_at hl (an_cI (n_isExpressionKid hl D N hv (by decide)) (fun _ => wq_at hl (fi_cI (n_isKidOrNothing hl D N hv (by decide))))))) (by subst c; exact Iff.rfl)) (fun c1 => ?_)
  refine if_k (fun c => s_638 (by subst c; exact (by decide : ¬ ((32 : Int32) = 48)))) (fun _ => ?_)
  refine if_k (fun c => bo_c (an_if (fun _ => wq_kd L hv (by decide) (wq_at hl (an_cI (n_isTarget hl D N (dN_ch D hv _)) (fun _ => wq_at hl (fi_cI (n_isExpressionKid hl D N hv (by decide)))))))) (by subst c; exact Iff.rfl)) (fun c2 => ?_)
  refine if_k (fun c => bo_c (wq_at hl (fr_cI (n_isIf hl D N hv b0 b1))) (by subst c; exact Iff.rfl)) (fun c3 => ?_)
  refine if_k (fun c => bo_c (na_if (fun _ => wq_at hl (an_cI (n_isExpressionKid hl D N hv (by decide)) (fun _ => wq_at hl (fi_cI (n_areKids hl D N hv (by decide) (by decide))))))) (by subst c; exact Iff.rfl)) (fun c4 => ?_)
  refine if_k (fun c => bo_c (an_if (fun _ => wq_kd L hv (by decide) (wq_at hl (an_cI (n_areChoices hl D N (dN_ch D hv _)) (fun _ => wq_kd L hv (by decide) (wq_at hl (fi_cI (n_isStatements hl D N (dN_ch D hv _))))))))) (by subst c; exact Iff.rfl)) (fun c5 => ?_)
  refine if_k (fun c => bo_c fi_if (by subst c; exact Iff.rfl)) (fun c6 => ?_)
  refine if_k (fun c => bo_c (s_374 L hv) (by subst c; exact Iff.rfl)) (fun c7 => ?_)
  refine if_k (fun c => bo_c (s_374 L hv) (by subst c; exact Iff.rfl)) (fun c8 => ?_)
  refine if_k (fun c => bo_c (an_if (fun _ => wq_at hl (an_cI (n_isExpressionKid hl D N hv (by decide)) (fun _ => wq_kd L hv (by decide) (wq_at hl (fi_cI (n_isStatements hl D N (dN_ch D hv _)))))))) (by subst c; exact Iff.rfl)) (fun c9 => ?_)
  refine if_k (fun c => bo_c (an_if (fun _ => wq_kd L hv (by decide) (wq_at hl (fi_cI (n_isStatements hl D N (dN_ch D hv _)))))) (by subst c; exact Iff.rfl)) (fun c10 => ?_)
  refine if_k (fun c => bo_c (s_510 L hv) (by subst c; exact Iff.rfl)) (fun c11 => ?_)
  refine if_k (fun c => bo_c (s_510 L hv) (by subst c; exact Iff.rfl)) (fun c12 => ?_)
  refine if_k (fun c => bo_c (an_if (fun _ => wq_kd L hv (by decide) (wq_at hl (an_cI (n_isSignals hl D N (dN_ch D hv _)) (fun _ => wq_at hl (an_cI (n_isExpressionOrNothing hl D N hv (by decide)) (fun _ => wq_at hl (fi_cI (n_isKidOrNothing hl D N hv (by decide)))))))))) (by subst c; exact Iff.rfl)) (fun c13 => ?_)
  refine if_k (fun c => bo_c fi_if (by subst c; exact Iff.rfl)) (fun c14 => ?_)
  refine if_k (fun c => bo_c (an_if (fun _ => wq_at hl (fi_cI (n_isExpressionKid hl D N hv (by decide))))) (by subst c; exact Iff.rfl)) (fun c15 => ?_)
  refine if_k (fun c => bo_c (an_if (fun _ => wq_at hl (an_cI (n_isExpressionKid hl D N hv (by decide)) (fun _ => wq_at hl (fi_cI (n_isExpressionKid hl D N hv (by decide))))))) (by subst c; exact Iff.rfl)) (fun c16 => ?_)
  refine if_k (fun c => r1 rfl (by subst c; exact rfl)) (fun c17 => s_638 ?_)
  unfold stB
  rw [if_neg c1, if_neg c2, if_neg c3, if_neg c4, if_neg c5, if_neg (fun q => q.elim c7 c8), if_neg c9, if_neg c10, if_neg (fun q => q.elim c11 c12), if_neg c13, if_neg c15, if_neg c16, if_neg (fun q => q.elim c0 (fun q => q.elim c6 c14))]
  exact c17
/-- a node that is right: all but its height -/
def riP (σ : rS) (v : Int32) : Prop := if kO σ v = 32 then wi 1 1000000 (gO σ v) ∧ mO σ v = 1 ∧ isX (kO σ (cO σ v 0)).toInt else if kO σ v = 30 then asP σ v (if gO σ v = 2 then 2 else 1) else (isX (kO σ v).toInt → exB σ v (kO σ v)) ∧ (¬ isX (kO σ v).toInt → gO σ v = 0 ∧ stB σ v (kO σ v))
theorem n_isRight (L : LC lk mk nd sg vr ht rt A Ls kt rc σ h) (hv : dN σ v) : wq (vc lim (d + 6) m_Looker_isRight [.inr (.inr (some lk)), .inl v] h) (rI fun x h' => h' = h ∧ bo (riP σ v) x) := by
  obtain ⟨hl, hm, D, N, T1, T2, O, s1, s2⟩ := id L
  refine wq_eq e_Looker_isRight (wq_gR hl rfl (wq_at N.1 (wq_cI (n_kindOf N hv) ?_)))
  rintro x h1 ⟨e, rfl⟩
  cases e
  refine if_P (fun _ => wq_gR hl rfl (wq_at N.1 (wq_cI (n_givenOf N hv) ?_))) (fun _ => if_P (fun _ => wq_at hl (fr_cI (n_isAssign hl D N hv))) (fun _ => wq_cI n_isExpression ?_))
  · rintro x h1 ⟨e, rfl⟩
    cases e
    refine an_cI n_isWithin (fun _ => wq_gR hl rfl (wq_at N.1 (wq_cI (n_kidsOf N hv) ?_)))
    rintro x h1 ⟨e, rfl⟩
    cases e
    exact an_if (fun _ => wq_at hl (fi_cI (n_isExpressionKid hl D N hv (by decide))))
  · rintro x h1 ⟨e, b⟩
    cases e
    refine wq_if _ (fun c => wq_gR hl rfl (wq_at N.1 (wq_cI (n_givenOf N hv) ?_))) (fun c => wq_gR hl rfl (wq_at N.1 (wq_cI (n_givenOf N hv) ?_)))
    · have nX := bo_n b c
      rintro x h1 ⟨e, rfl⟩
      cases e
      refine bo_c (P := gO σ v = 0 ∧ stB σ v (kO σ v)) (an_if (fun _ => wq_gR hl rfl (wq_at N.1 (wq_cI (n_kidsOf N hv) ?_)))) ⟨fun q => ⟨fun g => absurd g nX, fun _ => q⟩, fun q => q.2 nX⟩
      rintro x h1 ⟨e, rfl⟩
      cases e
      exact wq_at hl (fi_cI (n_isRightStatement L hv))
    · have yX := bo_p b c
      rintro x h1 ⟨e, rfl⟩
      cases e
      refine wq_gR hl rfl (wq_at N.1 (wq_cI (n_kidsOf N hv) ?_))
      rintro x h1 ⟨e, rfl⟩
      cases e
      exact bo_c (wq_at hl (fr_cI (n_isRightExpression L hv))) ⟨fun q => ⟨fun _ => q, fun g => absurd yX g⟩, fun q => q.1 yX⟩
/-- a node that is right -/
def okN (σ : rS) (v : Int) : Prop := (ia σ 14 v.toNat).toInt ≤ 100 ∧ riP σ (Int32.ofInt v)
/-- heights -/
def HR (ht : Nat) (σ : rS) (h : ah_H) : Prop := ∃ Lh, h.1 ht = some (100, Lh) ∧ Lh.length = 4000 ∧ ∀ k : Nat, (k : Int) < (σ.1 19).toInt → Lh[k]? = some (aI (ia σ 14 k))
theorem n_heightOf (hm : h.1 mk = some (4, [aR nd, aR vr, aR ht, aR rt, aI rc])) (hh : HR ht σ h) (h0 : 0 ≤ v.toInt) (h1 : v.toInt < (σ.1 19).toInt) (h2 : (σ.1 19).toInt ≤ 4000) : wq (vc lim (d + 1) m_Maker_heightOf [.inr (.inr (some mk)), .inl v] h) (rI fun x h' => h' = h ∧ x = ia σ 14 v.toInt.toNat) := by
  obtain ⟨Lh, e1, e2, e3⟩ := hh
  refine wq_eq e_Maker_heightOf (wq_f (ix_ge h0) (wq_gR hm rfl (wq_len e1 (by decide) ?_)))
  rw [e2]
  have e4 : (Nat.toInt32 4000).toInt = 4000 := i32n (by omega)
  exact wq_t (Int32.lt_iff_toInt_lt.mpr (by rw [e4]; omega)) (wq_gR hm rfl (wq_lI e1 (ix_ge h0) (e3 v.toInt.toNat (by omega)) (wq_some (rI_i ⟨rfl, rfl⟩))))
/-- the first that is wrong -/
def fwP (σ : rS) (x : Int32) : Prop := (x = -1 ∧ ∀ j : Int, 0 ≤ j → j < (σ.1 19).toInt → okN σ j) ∨ (0 ≤ x.toInt ∧ x.toInt < (σ.1 19).toInt ∧ (∀ j : Int, 0 ≤ j → j < x.toInt → okN σ j) ∧ ¬ okN σ x.toInt)
theorem fw_loop (L : LC lk mk nd sg vr ht rt A Ls kt rc σ h) (hh : HR ht σ h) : ∀ (r : Nat) (f : Int32), 0 ≤ f.toInt → f.toInt ≤ (σ.1 19).toInt → (σ.1 19).toInt - f.toInt < r → (∀ j : Int, 0 ≤ j → j < f.toInt → okN σ j) → wq (ah_val lim ah_P (d + 6) 163 2 [some (.inr (.inr (some lk))), some (.inl f)] [] h) (rI fun x h' => h' = h ∧ fwP σ x) := by
  obtain ⟨hl, hm, D, N, T1, T2, O, s1, s2⟩ := id L
  have e1 : (1 : Int32).toInt = 1 := rfl
  have d1 := D.2.1
  intro r
  induction r with
  | zero => intros; omega
  | succ r ih =>
    intro f f0 f1 hr hok
    have ei : Int32.ofInt f.toInt = f := Int32.ofInt_toInt f
    refine wq_eq q_163_2 (wq_gR hl rfl (wq_gI N.1 rfl (wq_if _ (fun c => wq_gR hl rfl (wq_at hm (wq_cI (n_heightOf hm hh f0 (lt_i c) d1) ?_))) (fun c => wq_some (rI_i ⟨rfl, Or.inl ⟨rfl, fun j j0 j1 => hok j j0 ?_⟩⟩)))))
    · have c := lt_i c
      have ef : (f + 1).toInt = f.toInt + 1 := by rw [ad_i (by omega) (by omega), e1]
      rintro x h1 ⟨e, rfl⟩
      cases e
      refine wq_if _ (fun c2 => wq_at hl (wq_cI (n_isRight L (Or.inr ⟨f0, c⟩)) ?_)) (fun c2 => wq_some (rI_i ⟨rfl, Or.inr ⟨f0, c, hok, fun q => c2 (Int32.le_iff_toInt_le.mpr q.1)⟩⟩))
      rintro x h1 ⟨e, b⟩
      cases e
      refine wq_if _ (fun c3 => wq_some (rI_i ⟨rfl, Or.inr ⟨f0, c, hok, fun q => bo_n b c3 ?_⟩⟩)) (fun c3 => ih (f + 1) (by omega) (by omega) (by omega) (fun j j0 j1 => ?_))
      · have := q.2
        rw [ei] at this
        exact this
      · by_cases g : j = f.toInt
        · subst g
          exact ⟨le_i c2, by rw [ei]; exact bo_p b c3⟩
        · exact hok j j0 (by omega)
    · have := nlt_i c
      omega
theorem n_firstWrong (L : LC lk mk nd sg vr ht rt A Ls kt rc σ h) (hh : HR ht σ h) : wq (vc lim (d + 7) m_Looker_firstWrong [.inr (.inr (some lk))] h) (rI fun x h' => h' = h ∧ fwP σ x) := by
  have d0 := L.2.2.1.1
  exact wq_eq e_Looker_firstWrong (fw_loop L hh ((σ.1 19).toInt.toNat + 1) 0 (by decide) d0 (by show (σ.1 19).toInt - 0 < _; omega) (fun j j0 j1 => absurd j1 (by show ¬ j < 0; omega)))
theorem n_isOneBody (L : LC lk mk nd sg vr ht rt A Ls kt rc σ h) (hr : rc = σ.1 21) : wq (vc lim (d + 4) m_Looker_isOneBody [.inr (.inr (some lk))] h) (rI fun x h' => h' = h ∧ bo (σ.1 21 = 1 ∧ isB σ (σ.1 19 - 1)) x) := by
  obtain ⟨hl, hm, D, N, T1, T2, O, s1, s2⟩ := id L
  subst hr
  have e1 : (1 : Int32).toInt = 1 := rfl
  refine wq_eq e_Looker_isOneBody (wq_gR hl rfl (wq_gI hm rfl (an_if (fun c => wq_gR hl rfl (wq_gI N.1 rfl (wq_at hl (fi_cI (n_isStatements hl D N ?_))))))))
  have d1 := D.2.1
  have d2 := D.2.2.2.1
  have c := congrArg Int32.toInt c
  have es : (σ.1 19 - 1).toInt = (σ.1 19).toInt - 1 := by rw [sb_i (by omega) (by omega), e1]
  exact Or.inr ⟨by omega, by omega⟩
end Li
