/-! THE LAW'S CALLS OF THE CLASS: signal, variable, add, resume, holds -/
section Xm
variable {lim : Nat × Nat} {K d b x m o L nS nU nD : Nat} {xs : Nat → Int32} {κ : kM} {σ : rS} {h : ah_H} {cnt : sV} {c : SCR} {τ : TD} {PS PD : Nat → Nat} {eS eD : Nat → TS} {U U' : Nat → UD} {v1 v2 v3 v4 : Int32} {q : Nat}
theorem AB_s (A : AB o nS PS nU U nD PD) (hq : o < q) : AB o (nS + 1) (upS PS nS q) nU U nD PD := by
  refine ⟨fun i hi => ?_, A.2.1, A.2.2⟩
  by_cases e : i = nS
  · rw [e, upS_eq]
    exact hq
  · rw [upS_ne e]
    exact A.1 i (by omega)
theorem AB_d (A : AB o nS PS nU U nD PD) (hq : o < q) : AB o nS PS nU U (nD + 1) (upS PD nD q) := by
  refine ⟨A.1, A.2.1, fun i hi => ?_⟩
  by_cases e : i = nD
  · rw [e, upS_eq]
    exact hq
  · rw [upS_ne e]
    exact A.2.2 i (by omega)
theorem AB_0 (A : AB o nS PS nU U nD PD) : AB o nS PS nU U 0 PD := ⟨A.1, A.2.1, fun i hi => absurd hi (Nat.not_lt_zero _)⟩
theorem AB_c (A : AB o nS PS nU U nD PD) (e : ∀ k, (U' k).1 = (U k).1 ∧ (U' k).2.2.1 = (U k).2.2.1 ∧ (U' k).2.2.2.1 = (U k).2.2.2.1) : AB o nS PS nU U' nD PD := by
  refine ⟨A.1, fun j hj => ?_, A.2.2⟩
  obtain ⟨e1, e2, e3⟩ := e j
  rw [e1, e2, e3]
  exact A.2.1 j hj
theorem AB_u {V : UD} (A : AB o nS PS nU U nD PD) (hq : o < V.1) (h1 : V.2.2.1 = nD) (h2 : V.2.2.2.1 = PD) : AB o nS PS (nU + 1) (upS U nU V) 0 PD := by
  refine ⟨A.1, fun j hj => ?_, fun i hi => absurd hi (Nat.not_lt_zero _)⟩
  by_cases e : j = nU
  · rw [e, upS_eq, h1, h2]
    exact ⟨hq, A.2.2⟩
  · rw [upS_ne e]
    exact A.2.1 j (by omega)
theorem XL_signal (B : LB b x m o L xs K κ σ h) (S : sgR x cnt h) (I : KI x (c, τ, (nS, PS, eS), (nU, U), nD, PD, eD) h) (A : AB o nS PS nU U nD PD) (bd : x + 656 ≤ m ∧ m + 39 < o) (hr : h.2.1 + 20 ≤ lim.1 ∧ h.2.2.1 + 6000 ≤ lim.2) : wq (vc lim (d + 21) m_Law_signal [aR x, aI v1, aI v2, aI v3, aR o] h) (rI (MU x (c, τ, (nS, PS, eS), (nU, U), nD, PD, eD) (c, τ, (nS + 1, upS PS nS h.2.1, upS eS nS (thI v1 v2 v3)), (nU, U), nD, PD, eD) h)) := by
  obtain ⟨bx, bh⟩ := LB_x B bd
  have bo : o < h.2.1 := B.2.2.2.2.2.2.2.2.2.2.2.2
  obtain ⟨sg, mk, lk, un, uc, nk, td, rn, rs, row, e1, e2, e3, e4⟩ := id S.1
  obtain ⟨k1, -⟩ := sg_k B e1
  obtain ⟨t1, b0, b1⟩ := sg_r B k1 e2
  refine wq_eq e_Law_signal (L_ax B ?_)
  obtain ⟨z, e, hz⟩ := n_signal (lim := lim) (d := d + 17) (i := v1) (x := v2) (y := v3) B.2.1 B.2.2.1 e1 k1 e2 t1 b0 ⟨by omega, by omega⟩
  obtain ⟨z', e', hz', fn, -⟩ := kq_signal (lim := lim) (d := d + 17) (i := v1) (a := v2) (b := v3) B.2.1 I ⟨by omega, by omega⟩
  have ez := Option.some.inj (e'.symm.trans e)
  subst ez
  refine wq_eq (congrArg (fun r => ah_cI r _ _) e) ?_
  rcases hz with ⟨c1, rfl⟩ | ⟨c1, c2, rfl⟩ | ⟨c1, c2, h', κ', t, nw, ls, vs, rfl, A', -⟩
  · rcases hz' with ⟨-, q⟩ | ⟨⟨_, q⟩, -⟩
    · exact show wq (ah_hx lim (d + 20) 261 7 _ h (200, h.2.1) (ah_new h (200, []) 6)) _ from wq_hx rfl rfl hM_261 rfl (wq_eq q_261_15 (wq_some (rI_i ⟨fn, Or.inl ⟨by decide, q⟩⟩)))
    · cases q
  · rcases hz' with ⟨-, q⟩ | ⟨⟨_, q⟩, -⟩
    · exact show wq (ah_hx lim (d + 20) 261 7 _ h (201, h.2.1) (ah_new h (201, []) 6)) _ from wq_hx rfl rfl hM_261 rfl (wq_eq q_261_19 (wq_some (rI_i ⟨fn, Or.inl ⟨by decide, q⟩⟩)))
    · cases q
  · rcases hz' with ⟨⟨_, _, q⟩, -⟩ | ⟨-, q⟩
    · cases q
    · have C := cS_a A'
      have B1 := LB_class B (show cS κ κ' (K + 1) 3 22 h h' from ⟨cI_K (by omega) C.1, C.2⟩)
      exact L_lay B1 (fun _ => wq_some (rI_i ⟨FN_tr fn (FN_f (FR_o bx)), Or.inr ⟨rfl, KI_fr q (AB_s A bo) (FR_o bx)⟩⟩))
theorem XL_variable (B : LB b x m o L xs K κ σ h) (S : sgR x (sv σ) h) (I : KI x (c, τ, (nS, PS, eS), (nU, U), nD, PD, eD) h) (A : AB o nS PS nU U nD PD) (bd : x + 656 ≤ m ∧ m + 39 < o) (hr : h.2.1 + 20 ≤ lim.1 ∧ h.2.2.1 + 6000 ≤ lim.2) : wq (vc lim (d + 21) m_Law_variable [aR x, aI v1, aI v2, aI v3, aR o] h) (rI (MU x (c, τ, (nS, PS, eS), (nU, U), nD, PD, eD) (c, τ, (nS, PS, eS), (nU, U), nD + 1, upS PD nD h.2.1, upS eD nD (thI v1 v2 v3)) h)) := by
  obtain ⟨bx, bh⟩ := LB_x B bd
  have bo : o < h.2.1 := B.2.2.2.2.2.2.2.2.2.2.2.2
  obtain ⟨sg, mk, lk, un, td, rn, nd, vr, ht, ro, A0, Ls, kt, e1, e2, em, N0, T, Hh, Oo, ds⟩ := id S.2.1
  obtain ⟨k1, k2, k3, -⟩ := sg_k B e1
  obtain ⟨y1, y2, y3, y4, y5, ey, p1, p2, p3, p4, -⟩ := o4 B.2.1 k2
  have em : h.1 mk = some (4, [aR nd, aR vr, aR ht, aR ro, aI (σ.1 21)]) := em
  rw [em] at ey
  cases ey
  obtain ⟨rs, row, Q, f1, f2, f3, f4, f5, f6, f7⟩ := id T
  have f1 : h.1 vr = some (8, [aR rs, aI (σ.1 9)]) := f1
  obtain ⟨z1, z2, ez, t1, b0, b1, -⟩ := o8 B.2.1 p2
  rw [f1] at ez
  cases ez
  refine wq_eq e_Law_variable (L_ax B ?_)
  obtain ⟨z, e, hz⟩ := n_variable (lim := lim) (d := d + 17) (i := v1) (x := v2) (y := v3) B.2.1 B.2.2.1 e1 em p2 f1 t1 b0 ⟨by omega, by omega⟩
  obtain ⟨z', e', hz', fn, -⟩ := kq_variable (lim := lim) (d := d + 17) (i := v1) (a := v2) (b := v3) B.2.1 I ⟨by omega, by omega⟩
  have ez := Option.some.inj (e'.symm.trans e)
  subst ez
  refine wq_eq (congrArg (fun r => ah_cI r _ _) e) ?_
  rcases hz with ⟨c1, rfl⟩ | ⟨c1, c2, rfl⟩ | ⟨c1, c2, h', κ', t, nw, ls, vs, rfl, A', -⟩
  · rcases hz' with ⟨-, q⟩ | ⟨⟨_, q⟩, -⟩
    · exact show wq (ah_hx lim (d + 20) 262 7 _ h (200, h.2.1) (ah_new h (200, []) 6)) _ from wq_hx rfl rfl hM_262 rfl (wq_eq q_262_15 (wq_some (rI_i ⟨fn, Or.inl ⟨by decide, q⟩⟩)))
    · cases q
  · rcases hz' with ⟨-, q⟩ | ⟨⟨_, q⟩, -⟩
    · exact show wq (ah_hx lim (d + 20) 262 7 _ h (201, h.2.1) (ah_new h (201, []) 6)) _ from wq_hx rfl rfl hM_262 rfl (wq_eq q_262_19 (wq_some (rI_i ⟨fn, Or.inl ⟨by decide, q⟩⟩)))
    · cases q
  · rcases hz' with ⟨⟨_, _, q⟩, -⟩ | ⟨-, q⟩
    · cases q
    · have C := cS_a A'
      have B1 := LB_class B (show cS κ κ' (K + 1) 3 22 h h' from ⟨cI_K (by omega) C.1, C.2⟩)
      exact L_lay B1 (fun _ => wq_some (rI_i ⟨FN_tr fn (FN_f (FR_o bx)), Or.inr ⟨rfl, KI_fr q (AB_d A bo) (FR_o bx)⟩⟩))
theorem XL_add (B : LB b x m o L xs K κ σ h) (S : sgR x (sv σ) h) (I : KI x (c, τ, (nS, PS, eS), (nU, U), nD, PD, eD) h) (A : AB o nS PS nU U nD PD) (dx : DXp x σ h) (bd : x + 656 ≤ m ∧ m + 39 < o) (hr : rm lim h) : wq (vc lim (d + 21) m_Law_add [aR x, aI v1, aI v2, aI v3, aR o] h) (rI fun k h' => KI x (c, τ, (nS, PS, eS), (nU, U), nD, PD, eD) h' ∧ ((¬ k = 0 ∧ FN x h h') ∨ (k = 0 ∧ ∀ σ', adR σ σ' v1 v2 v3 → DXp x σ' h'))) := by
  obtain ⟨bx, bh⟩ := LB_x B bd
  have W1 := cI_K (show K ≤ K + 1 by omega) B.2.1
  have hc : ∀ vs mk, h.1 x = some (0, vs) → vs[1]? = some (aR mk) → ∀ vs nd, h.1 mk = some (4, vs) → vs[0]? = some (aR nd) → ∀ ws, h.1 nd = some (5, ws) → ∀ c, ws[8]? = some (aI c) → c.toInt + 1 ≤ (K + 1 : Nat) := by
    intro vs mk e1 e2 vs2 nd e3 e4 ws e5 c e6
    obtain ⟨x1, x2, x3, x4, x5, x6, x7, x8, ex, p1, p2, p3, p4, -⟩ := o0 B.2.1 B.2.2.2.1
    rw [e1] at ex
    cases ex
    cases e2
    obtain ⟨y1, y2, y3, y4, y5, ey, q1, -⟩ := o4 B.2.1 p2
    rw [e3] at ey
    cases ey
    cases e4
    obtain ⟨z1, z2, z3, z4, z5, z6, z7, z8, z9, z10, ez, -, -, -, -, -, -, -, -, -, -, w1, -⟩ := o5 B.2.1 q1
    rw [e5] at ez
    cases ez
    cases e6
    omega
  refine wq_eq e_Law_add (L_ax B ?_)
  obtain ⟨z, e, hz⟩ := s_Code_add (lim := lim) (d := d + 16) (v1 := v1) (v2 := v2) (v3 := v3) W1 B.2.2.2.1 hc hr
  obtain ⟨z', e', hz'⟩ := kq_add (lim := lim) (d := d + 16) (v1 := v1) (v2 := v2) (v3 := v3) B.2.1 B.2.2.2.1 B.2.2.2.2.2.2.2.2.1.2.1 S.2.1 I dx hr
  have ez := Option.some.inj (e'.symm.trans e)
  subst ez
  refine wq_eq (congrArg (fun r => ah_cI r _ _) e) ?_
  rcases hz with ⟨i, h1, rfl, W, -⟩ | ⟨k, hk, rfl⟩
  · rcases hz' with ⟨k, q⟩ | ⟨-, q1, q2⟩
    · cases q
    · have q1 := q1 W.2.2.1
      have B1 := LB_class B (cS_w B W)
      exact L_lay B1 (fun _ => wq_some (rI_i ⟨KI_fr q1 A (FR_o bx), Or.inr ⟨rfl, fun σ' ad => DXp_f (q2 σ' ad) (FN_f (FR_o bx))⟩⟩))
  · have hk : k = 200 ∨ k = 201 := by simpa using hk
    rcases hk with rfl | rfl
    · exact show wq (ah_hx lim (d + 20) 263 7 _ h (200, h.2.1) (ah_new h (200, []) 6)) _ from wq_hx rfl rfl hM_263 rfl (wq_eq q_263_15 (wq_some (rI_i ⟨KI_th I, Or.inl ⟨by decide, FN_f (FR_x (o := o) bh)⟩⟩)))
    · exact show wq (ah_hx lim (d + 20) 263 7 _ h (201, h.2.1) (ah_new h (201, []) 6)) _ from wq_hx rfl rfl hM_263 rfl (wq_eq q_263_19 (wq_some (rI_i ⟨KI_th I, Or.inl ⟨by decide, FN_f (FR_x (o := o) bh)⟩⟩)))
/-- what resume leaves in the class -/
def lrP (x o : Nat) (c : SCR) (τ : TD) (nS : Nat) (PS : Nat → Nat) (eS : Nat → TS) (nU : Nat) (U : Nat → UD) (nD : Nat) (PD : Nat → Nat) (eD : Nat → TS) (v1 v2 k : Int32) (h' : ah_H) : Prop := (¬ (0 ≤ v1.toInt ∧ v1.toInt < nU) ∧ k = 1 ∧ KI x (c, τ, (nS, PS, eS), (nU, U), nD, PD, eD) h') ∨ ((0 ≤ v1.toInt ∧ v1.toInt < nU) ∧ ((¬ (1 ≤ v2.toInt ∧ v2.toInt ≤ 10000) ∧ k = 2 ∧ KI x (c, τ, (nS, PS, eS), (nU, U), nD, PD, eD) h') ∨ ((1 ≤ v2.toInt ∧ v2.toInt ≤ 10000) ∧ ((((U v1.toInt.toNat).2.2.2.2.2.1.1 = 2 ∨ (U v1.toInt.toNat).2.2.2.2.2.1.1 = 3) ∧ k = 3 ∧ KI x (c, τ, (nS, PS, eS), (nU, U), nD, PD, eD) h') ∨ (¬ ((U v1.toInt.toNat).2.2.2.2.2.1.1 = 2 ∨ (U v1.toInt.toNat).2.2.2.2.2.1.1 = 3) ∧ k = 0 ∧ h'.1 o = some (101, [aJ (pRun (kE (U v1.toInt.toNat) nS eS) v2.toInt.toNat (kR0 (U v1.toInt.toNat) τ)).1.toInt64]) ∧ ∃ (c' : SCR) (s : US) (a b : Nat → Int64), KI x (c', (pRun (kE (U v1.toInt.toNat) nS eS) v2.toInt.toNat (kR0 (U v1.toInt.toNat) τ)).2.2.2.2.2, (nS, PS, eS), (nU, upS U v1.toInt.toNat (uUp (U v1.toInt.toNat) (pRun (kE (U v1.toInt.toNat) nS eS) v2.toInt.toNat (kR0 (U v1.toInt.toNat) τ)).2.1 s a b)), nD, PD, eD) h' ∧ s.1 = (pRun (kE (U v1.toInt.toNat) nS eS) v2.toInt.toNat (kR0 (U v1.toInt.toNat) τ)).1 ∧ ((pRun (kE (U v1.toInt.toNat) nS eS) v2.toInt.toNat (kR0 (U v1.toInt.toNat) τ)).1 = 1 → s = (pRun (kE (U v1.toInt.toNat) nS eS) v2.toInt.toNat (kR0 (U v1.toInt.toNat) τ)).2.2.1 ∧ a = (pRun (kE (U v1.toInt.toNat) nS eS) v2.toInt.toNat (kR0 (U v1.toInt.toNat) τ)).2.2.2.1 ∧ b = (pRun (kE (U v1.toInt.toNat) nS eS) v2.toInt.toNat (kR0 (U v1.toInt.toNat) τ)).2.2.2.2.1) ∧ (¬ (pRun (kE (U v1.toInt.toNat) nS eS) v2.toInt.toNat (kR0 (U v1.toInt.toNat) τ)).1 = 1 → s.2.2.2.2.2.2 = (-1, -1)))))))
/-- what holds leaves in the class -/
def lhP (x o : Nat) (c : SCR) (τ : TD) (nS : Nat) (PS : Nat → Nat) (eS : Nat → TS) (nU : Nat) (U : Nat → UD) (nD : Nat) (PD : Nat → Nat) (eD : Nat → TS) (v1 k : Int32) (h' : ah_H) : Prop := (¬ (0 ≤ v1.toInt ∧ v1.toInt < nU) ∧ k = 1 ∧ KI x (c, τ, (nS, PS, eS), (nU, U), nD, PD, eD) h') ∨ ((0 ≤ v1.toInt ∧ v1.toInt < nU) ∧ ((¬ (U v1.toInt.toNat).2.2.2.2.2.1.1 = 1 ∧ k = 2 ∧ KI x (c, τ, (nS, PS, eS), (nU, U), nD, PD, eD) h') ∨ ((U v1.toInt.toNat).2.2.2.2.2.1.1 = 1 ∧ k = 0 ∧ ((∃ y c', sHold (kE (U v1.toInt.toNat) nS eS) (kR (U v1.toInt.toNat) τ) (U v1.toInt.toNat).2.2.2.2.2.1.2.2.2.2.2.2.1 = some y ∧ h'.1 o = some (101, [aJ y.toInt64]) ∧ KI x (c', τ, (nS, PS, eS), (nU, U), nD, PD, eD) h') ∨ (sHold (kE (U v1.toInt.toNat) nS eS) (kR (U v1.toInt.toNat) τ) (U v1.toInt.toNat).2.2.2.2.2.1.2.2.2.2.2.2.1 = none ∧ h'.1 o = some (101, [aJ (2 : Int32).toInt64]) ∧ ∃ (c' : SCR) (s : US) (a b : Nat → Int64), s.1 = 3 ∧ s.2.2.2.2.2.2 = (-1, -1) ∧ KI x (c', τ, (nS, PS, eS), (nU, upS U v1.toInt.toNat (uUp (U v1.toInt.toNat) (U v1.toInt.toNat).2.2.2.2.1 s a b)), nD, PD, eD) h')))))
theorem PG_ch {kS : Nat → Int32 × Int32} (P : ∀ j, j < nU → PG nS kS (U j)) : ∃ kV : Nat → Nat → Int32 × Int32, ∀ j, j < nU → UGp nS kS (kV j) (U j) := by
  have P' : ∀ j, ∃ kV, j < nU → UGp nS kS kV (U j) := fun j => by
    by_cases hj : j < nU
    · obtain ⟨kV, p, -⟩ := P j hj
      exact ⟨kV, fun _ => p⟩
    · exact ⟨fun _ => (0, 0), fun q => absurd q hj⟩
  exact ⟨fun j => Classical.choose (P' j), fun j hj => Classical.choose_spec (P' j) hj⟩
theorem XL_resume (B : LB b x m o L xs K κ σ h) (I : KI x (c, τ, (nS, PS, eS), (nU, U), nD, PD, eD) h) (A : AB o nS PS nU U nD PD) {kS : Nat → Int32 × Int32} (P : ∀ j, j < nU → PG nS kS (U j)) (bd : x + 656 ≤ m ∧ m + 39 < o) (hr : rm lim h) : wq (vc lim (d + 21) m_Law_resume [aR x, aI v1, aI v2, aR o] h) (rI fun k h' => FN x h h' ∧ lrP x o c τ nS PS eS nU U nD PD eD v1 v2 k h') := by
  obtain ⟨bx, bh⟩ := LB_x B bd
  obtain ⟨kV, G⟩ := PG_ch P
  refine wq_eq e_Law_resume (L_ax B ?_)
  obtain ⟨z, e, hz⟩ := s_Code_resume (lim := lim) (d := d + 12) (v1 := v1) (v2 := v2) B.2.1 B.2.2.2.1 hr
  obtain ⟨z', e', hz'⟩ := kq_resume (lim := lim) (d := d + 11) (v1 := v1) (v2 := v2) I G hr
  have ez := Option.some.inj (e'.symm.trans e)
  subst ez
  refine wq_eq (congrArg (fun r => ah_cI r _ _) e) ?_
  rcases hz' with ⟨n, rfl⟩ | ⟨g, ⟨n, rfl⟩ | ⟨g2, ⟨n, rfl⟩ | ⟨g3, ⟨e0, c', s, a, b', q1, q2, q3, q4⟩, fn⟩⟩⟩
  · exact show wq (ah_hx lim (d + 20) 270 5 _ h (202, h.2.1) (ah_new h (202, []) 6)) _ from wq_hx rfl rfl hM_270 rfl (wq_eq q_270_13 (wq_some (rI_i ⟨FN_f (FR_x (o := o) bh), Or.inl ⟨n, rfl, KI_th I⟩⟩)))
  · exact show wq (ah_hx lim (d + 20) 270 5 _ h (200, h.2.1) (ah_new h (200, []) 6)) _ from wq_hx rfl rfl hM_270 rfl (wq_eq q_270_17 (wq_some (rI_i ⟨FN_f (FR_x (o := o) bh), Or.inr ⟨g, Or.inl ⟨n, rfl, KI_th I⟩⟩⟩)))
  · exact show wq (ah_hx lim (d + 20) 270 5 _ h (201, h.2.1) (ah_new h (201, []) 6)) _ from wq_hx rfl rfl hM_270 rfl (wq_eq q_270_21 (wq_some (rI_i ⟨FN_f (FR_x (o := o) bh), Or.inr ⟨g, Or.inr ⟨g2, Or.inl ⟨n, rfl, KI_th I⟩⟩⟩⟩)))
  · rcases hz with ⟨i, h1, rfl, W, -⟩ | ⟨k, hk, rfl⟩
    · cases e0
      have B1 := LB_class B (cS_w B W)
      refine L_lay B1 (fun _ => wq_some (rI_i ⟨FN_tr fn (FN_f (FR_o bx)), Or.inr ⟨g, Or.inr ⟨g2, Or.inr ⟨g3, rfl, up_eq, c', s, a, b', KI_fr q1 (AB_c A (ups_c rfl rfl rfl)) (FR_o bx), q2, q3, q4⟩⟩⟩⟩))
    · cases e0
theorem XL_holds (B : LB b x m o L xs K κ σ h) (I : KI x (c, τ, (nS, PS, eS), (nU, U), nD, PD, eD) h) (A : AB o nS PS nU U nD PD) {kS : Nat → Int32 × Int32} (P : ∀ j, j < nU → PG nS kS (U j)) (bd : x + 656 ≤ m ∧ m + 39 < o) (hr : rm lim h) : wq (vc lim (d + 21) m_Law_holds [aR x, aI v1, aR o] h) (rI fun k h' => FN x h h' ∧ lhP x o c τ nS PS eS nU U nD PD eD v1 k h') := by
  obtain ⟨bx, bh⟩ := LB_x B bd
  obtain ⟨kV, G⟩ := PG_ch P
  refine wq_eq e_Law_holds (L_ax B ?_)
  obtain ⟨z, e, hz⟩ := s_Code_holds (lim := lim) (d := d + 13) (v1 := v1) B.2.1 B.2.2.2.1 hr
  obtain ⟨z', e', hz'⟩ := kq_holds (lim := lim) (d := d + 12) (v1 := v1) I G hr
  have ez := Option.some.inj (e'.symm.trans e)
  subst ez
  refine wq_eq (congrArg (fun r => ah_cI r _ _) e) ?_
  rcases hz' with ⟨n, rfl⟩ | ⟨g, ⟨n, rfl⟩ | ⟨g2, ⟨y, c', q0, e0, q1, fn⟩ | ⟨q0, e0, c', y1, y2, a, b', q1, fn⟩⟩⟩
  · exact show wq (ah_hx lim (d + 20) 271 4 _ h (202, h.2.1) (ah_new h (202, []) 6)) _ from wq_hx rfl rfl hM_271 rfl (wq_eq q_271_12 (wq_some (rI_i ⟨FN_f (FR_x (o := o) bh), Or.inl ⟨n, rfl, KI_th I⟩⟩)))
  · exact show wq (ah_hx lim (d + 20) 271 4 _ h (201, h.2.1) (ah_new h (201, []) 6)) _ from wq_hx rfl rfl hM_271 rfl (wq_eq q_271_15 (wq_some (rI_i ⟨FN_f (FR_x (o := o) bh), Or.inr ⟨g, Or.inl ⟨n, rfl, KI_th I⟩⟩⟩)))
  · rcases hz with ⟨i, h1, rfl, W, -⟩ | ⟨k, hk, rfl⟩
    · cases e0
      have B1 := LB_class B (cS_w B W)
      exact L_lay B1 (fun _ => wq_some (rI_i ⟨FN_tr fn (FN_f (FR_o bx)), Or.inr ⟨g, Or.inr ⟨g2, rfl, Or.inl ⟨_, c', q0, up_eq, KI_fr q1 A (FR_o bx)⟩⟩⟩⟩))
    · cases e0
  · rcases hz with ⟨i, h1, rfl, W, -⟩ | ⟨k, hk, rfl⟩
    · cases e0
      have B1 := LB_class B (cS_w B W)
      exact L_lay B1 (fun _ => wq_some (rI_i ⟨FN_tr fn (FN_f (FR_o bx)), Or.inr ⟨g, Or.inr ⟨g2, rfl, Or.inr ⟨q0, up_eq, c', uFail (U v1.toInt.toNat).2.2.2.2.2.1 y1 y2, a, b', rfl, rfl, KI_fr q1 (AB_c A (ups_c rfl rfl rfl)) (FR_o bx)⟩⟩⟩⟩))
    · cases e0
end Xm
