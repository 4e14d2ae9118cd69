/-! THE CLASS'S CALLS -/
section Xg
variable {lim : Nat × Nat} {d x nS nU nD : Nat} {c : SCR} {τ : TD} {PS PD : Nat → Nat} {eS eD : Nat → TS} {U : Nat → UD} {h h' : ah_H} {i a b v1 v2 v3 v4 : Int32} {D D' : KD} {Kc : Nat} {κ : kM}

/-- the arrays of what is being made are as they were -/
def FN (x : Nat) (h h' : ah_H) : Prop := ∀ q, x + 5 ≤ q → q < x + 13 → h'.1 q = h.1 q
def kzP (x : Nat) (D D' : KD) (h : ah_H) (z : ah_R) : Prop := (((∃ k q, z.1 = .inr (k, q)) ∧ KI x D z.2) ∨ ((∃ v, z.1 = .inl v) ∧ KI x D' z.2)) ∧ FN x h z.2 ∧ (z.1 = .inl none ∨ (∃ v, z.1 = .inl (some (.inl v))) ∨ ∃ k, z = (.inr (k, h.2.1), ah_new h (k, []) 6))
theorem KI_th {k : Nat} (K : KI x D h) : KI x D (ah_new h (k, []) 6) := KI_new K (fun q hq => nw_ne (by omega) rfl) (Nat.le_succ _)
theorem kz_t {k : Nat} (K : KI x D h) : kzP x D D' h (.inr (k, h.2.1), ah_new h (k, []) 6) := ⟨Or.inl ⟨⟨k, _, rfl⟩, KI_th K⟩, fun q q1 q2 => nw_ne (by have := K.2.2.2.2.2.1; omega) rfl, Or.inr (Or.inr ⟨k, rfl⟩)⟩
theorem isFull_n {th n M : Nat} {P : Nat → Nat} (T : TH th n P h) (hl : ∃ ls, h.1 (th + 1) = some (117, ls) ∧ ls.length = M) (hM : M ≤ 4000) : wq (vc lim (d + 1) m_Things_isFull [aR th] h) (rI fun y h' => h' = h ∧ (y = 0 → n < M)) := by
  obtain ⟨rw, ls, c, a1, ⟨a2, rfl⟩, a3, a4, a5, a6⟩ := T
  obtain ⟨ls', b1, b2⟩ := hl
  rw [a3] at b1
  cases b1
  have eM : (Nat.toInt32 M).toInt = M := i32n hM
  refine wq_eq e_Things_isFull (wq_gI a1 rfl (wq_gR a1 rfl (wq_len a3 (by omega) (wq_if _ (fun c0 => ?_) (fun c0 => ?_)))))
  · have c0 := lt_i c0
    rw [b2, eM] at c0
    exact wq_t (Or.inl rfl) (wq_some (rI_i ⟨rfl, fun _ => by omega⟩))
  · exact wq_t (Or.inr rfl) (wq_some (rI_i ⟨rfl, fun q => absurd q (by decide)⟩))
theorem TC_lt {t : Nat} {s : TS} (T : TC t s h) : ∃ vs, h.1 t = some (7, vs) := ⟨_, T.1⟩
theorem kq_signal (W : cI Kc κ h h) (K : KI x (c, τ, (nS, PS, eS), (nU, U), nD, PD, eD) h) (hr : h.2.1 + 3 ≤ lim.1 ∧ h.2.2.1 + 22 ≤ lim.2) : wq (vc lim (d + 3) m_Code_signal [aR x, aI i, aI a, aI b] h) (kzP x (c, τ, (nS, PS, eS), (nU, U), nD, PD, eD) (c, τ, (nS + 1, upS PS nS h.2.1, upS eS nS (thI i a b)), (nU, U), nD, PD, eD) h) := by
  have rm0 : rm lim h := ⟨by omega, by omega⟩
  obtain ⟨⟨⟨uc, nk, c1, c2⟩, -, -, -, -, l1, l2⟩, k2, k3, k4, k5, s0, -⟩ := id K
  have k3 : THs (x + 1) nS PS eS h := k3
  refine wq_eq e_Code_signal (wq_cI (s_Thing_canBe W) ?_)
  rintro z h1 ⟨rfl, hz⟩
  refine wq_if _ (fun c1 => thX rm0 (kz_t K)) (fun _ => ?_)
  obtain ⟨rw1, ls1, cc1, t1, -⟩ := k3.1
  refine wq_gR c1 rfl (wq_at t1 (wq_cI (isFull_n k3.1 l1 (by omega)) ?_))
  rintro y h2 ⟨eh, hy⟩
  subst eh
  refine wq_if _ (fun y0 => ?_) (fun _ => thX rm0 (kz_t K))
  have hn := hy y0
  refine wq_gR c1 rfl (wx_mk ⟨by omega, by omega⟩ fun h3 e3 f3 s3 => wq_at e3 (wq_cV (c_Thing_init e3 (by omega) ⟨by omega, by omega⟩) ?_))
  rintro h4 ⟨T4, f4, s4, s4'⟩
  have fr : ∀ q, q < h2.2.1 → h4.1 q = h2.1 q := fun q hq => (f4 q hq).trans (f3 q (by omega))
  have k34 : TH (x + 1) nS PS h4 := TH_t k3.1 (fr _ (by omega)) (fr _ (by omega))
  obtain ⟨rw4, ls4, cc4, t4, -⟩ := id k34
  obtain ⟨l, l3, l4⟩ := l1
  refine wq_at t4 (wq_cI (c_keep k34 ⟨l, (fr _ (by omega)).trans l3, l4⟩ hn (by omega) T4.1 ⟨by omega, by omega⟩) ?_)
  rintro y2 h5 ⟨q1, q2, q3, q4, q5, q6⟩
  refine wq_some ⟨Or.inr ⟨⟨_, rfl⟩, KI_ns K q2 q3 (TC_t T4 (q4 _ (by omega) (by omega)) (q4 _ (by omega) (by omega)) (q4 _ (by omega) (by omega))) (fun q hq n1 n2 => (q4 q n1 n2).trans (fr q hq)) (by show h5.2.1 = h2.2.1 + 3; omega)⟩, fun q g1 g2 => (q4 q (by omega) (by omega)).trans (fr q (by have := K.2.2.2.2.2.1; omega)), Or.inr (Or.inl ⟨_, rfl⟩)⟩
theorem kq_variable (W : cI Kc κ h h) (K : KI x (c, τ, (nS, PS, eS), (nU, U), nD, PD, eD) h) (hr : h.2.1 + 3 ≤ lim.1 ∧ h.2.2.1 + 22 ≤ lim.2) : wq (vc lim (d + 3) m_Code_variable [aR x, aI i, aI a, aI b] h) (kzP x (c, τ, (nS, PS, eS), (nU, U), nD, PD, eD) (c, τ, (nS, PS, eS), (nU, U), nD + 1, upS PD nD h.2.1, upS eD nD (thI i a b)) h) := by
  have rm0 : rm lim h := ⟨by omega, by omega⟩
  obtain ⟨⟨⟨uc, nk, c1, c2⟩, -, ⟨rc, cm⟩, -, -, l2, l1⟩, k2, k3, k4, k5, s0, -⟩ := id K
  have k3 : THs (x + 13) nD PD eD h := k5
  refine wq_eq e_Code_variable (wq_cI (s_Thing_canBe W) ?_)
  rintro z h1 ⟨rfl, hz⟩
  refine wq_if _ (fun c1 => thX rm0 (kz_t K)) (fun _ => ?_)
  obtain ⟨rw1, ls1, cc1, t1, -⟩ := k3.1
  refine wq_gR c1 rfl (wq_gR cm rfl (wq_at t1 (wq_cI (isFull_n k3.1 l1 (by omega)) ?_)))
  rintro y h2 ⟨eh, hy⟩
  subst eh
  refine wq_if _ (fun y0 => ?_) (fun _ => thX rm0 (kz_t K))
  have hn := hy y0
  refine wq_gR c1 rfl (wq_gR cm rfl (wx_mk ⟨by omega, by omega⟩ fun h3 e3 f3 s3 => wq_at e3 (wq_cV (c_Thing_init e3 (by omega) ⟨by omega, by omega⟩) ?_)))
  rintro h4 ⟨T4, f4, s4, s4'⟩
  have fr : ∀ q, q < h2.2.1 → h4.1 q = h2.1 q := fun q hq => (f4 q hq).trans (f3 q (by omega))
  have k34 : TH (x + 13) nD PD h4 := TH_t k3.1 (fr _ (by omega)) (fr _ (by omega))
  obtain ⟨rw4, ls4, cc4, t4, -⟩ := id k34
  obtain ⟨l, l3, l4⟩ := l1
  refine wq_at t4 (wq_cI (c_keep k34 ⟨l, (fr _ (by omega)).trans l3, l4⟩ hn (by omega) T4.1 ⟨by omega, by omega⟩) ?_)
  rintro y2 h5 ⟨q1, q2, q3, q4, q5, q6⟩
  refine wq_some ⟨Or.inr ⟨⟨_, rfl⟩, KI_nd K q2 q3 (TC_t T4 (q4 _ (by omega) (by omega)) (q4 _ (by omega) (by omega)) (q4 _ (by omega) (by omega))) (fun q hq n1 n2 => (q4 q n1 n2).trans (fr q hq)) (by show h5.2.1 = h2.2.1 + 3; omega)⟩, fun q g1 g2 => (q4 q (by omega) (by omega)).trans (fr q (by have := K.2.2.2.2.2.1; omega)), Or.inr (Or.inl ⟨_, rfl⟩)⟩
theorem c_hasEl {t : Nat} {s : TS} (T : TC t s h) : wq (vc lim (d + 1) m_Thing_hasElement [aR t, aI i] h) (rI fun y h' => h' = h ∧ (¬ y = 0 → 0 ≤ i.toInt ∧ i.toInt < (wL s.1).toInt)) := by
  have z0 : (0 : Int32).toInt = 0 := rfl
  refine wq_eq e_Thing_hasElement (wq_if _ (fun c0 => wq_t (Or.inl rfl) (wq_some (rI_i ⟨rfl, fun q => absurd rfl q⟩))) (fun c0 => wq_gI T.1 rfl (wq_if _ (fun c1 => wq_t (Or.inr rfl) (wq_some (rI_i ⟨rfl, fun _ => ⟨by have := nlt_i c0; omega, lt_i c1⟩⟩))) (fun c1 => wq_t (Or.inl rfl) (wq_some (rI_i ⟨rfl, fun q => absurd rfl q⟩))))))
/-- a thing whose element changes -/
def tsP (s : TS) (l k v : Int32) : TS := if l = 0 then (pChange s.1 k v, s.2) else (s.1, pChange s.2.1 k v, s.2.2)
theorem pCh_il {w : WD} {k v : Int32} : wI (pChange w k v) = wI w ∧ wL (pChange w k v) = wL w := by
  unfold pChange
  split
  · exact ⟨rfl, rfl⟩
  · exact ⟨rfl, rfl⟩
theorem TC_ch {t : Nat} {s : TS} {w : WD} (T : TC t s h) (u : U1 (t + 1) w h h') (e1 : wI w = wI s.1) (e2 : wL w = wL s.1) : TC t (w, s.2) h' ∧ T3 t h h' := by
  refine ⟨⟨?_, u.1, (u.2.1 _ (by omega)).trans T.2.2⟩, fun q q1 q2 q3 => u.2.1 q q2⟩
  rw [u.2.1 _ (by omega), T.1, e1, e2]
theorem TC_cl {t : Nat} {s : TS} {w : WD} (T : TC t s h) (u : U1 (t + 2) w h h') : TC t (s.1, w, s.2.2) h' ∧ T3 t h h' := ⟨⟨(u.2.1 _ (by omega)).trans T.1, (u.2.1 _ (by omega)).trans T.2.1, u.1⟩, fun q q1 q2 q3 => u.2.1 q q3⟩
theorem kq_put (K : KI x (c, τ, (nS, PS, eS), (nU, U), nD, PD, eD) h) (hr : rm lim h) : wq (vc lim (d + 3) m_Code_put [aR x, aI v1, aI v2, aI v3, aI v4] h) (kzP x (c, τ, (nS, PS, eS), (nU, U), nD, PD, eD) (c, τ, (nS, PS, upS eS v1.toInt.toNat (tsP (eS v1.toInt.toNat) v2 v3 v4)), (nU, U), nD, PD, eD) h) := by
  obtain ⟨⟨⟨uc, nk, c1, c2⟩, -⟩, k2, k3, k4, k5, s0, -⟩ := id K
  have k3 : THs (x + 1) nS PS eS h := k3
  obtain ⟨rw1, ls1, cc1, t1, -⟩ := k3.1
  refine wq_eq e_Code_put (wq_gR c1 rfl (wq_at t1 (wq_cR (c_pick k3.1) ?_)))
  rintro r3 h2 ⟨eh, er⟩
  subst eh
  by_cases hi : 0 ≤ v1.toInt ∧ v1.toInt < nS
  · rw [if_pos hi] at er
    subst er
    have hi' : v1.toInt.toNat < nS := by omega
    have T := k3.2 _ hi'
    refine wq_f (Option.some_ne_none _) (wq_at T.1 (wq_cI (c_hasEl T) ?_))
    rintro y h3 ⟨eh, hy⟩
    subst eh
    refine wq_if _ (fun _ => thX hr (kz_t K)) (fun y0 => wq_at T.1 (wq_cI (c_allows T) ?_))
    rintro _ h4 ⟨eh, rfl⟩
    subst eh
    refine wq_if _ (fun _ => thX hr (kz_t K)) (fun _ => wq_if _ (fun l0 => wq_gR T.1 rfl (wq_at T.2.1 (wq_cV (c_change T.2.1) fun h5 u5 => wq_some ⟨Or.inr ⟨⟨_, rfl⟩, ?_⟩, fun q g1 g2 => ?_, Or.inl rfl⟩))) (fun l0 => wq_gR T.1 rfl (wq_at T.2.2 (wq_cV (c_change T.2.2) fun h5 u5 => wq_some ⟨Or.inr ⟨⟨_, rfl⟩, ?_⟩, fun q g1 g2 => ?_, Or.inl rfl⟩))))
    · obtain ⟨T5, f5⟩ := TC_ch T u5 pCh_il.1 pCh_il.2
      have := KI_sg K hi' T5 f5 u5.2.2.1
      rw [show tsP (eS v1.toInt.toNat) v2 v3 v4 = (pChange (eS v1.toInt.toNat).1 v3 v4, (eS v1.toInt.toNat).2) from if_pos l0]
      exact this
    · have b : bdT x _ nS PS := K.2.2.2.2.2.2.1
      have := (b v1.toInt.toNat hi').1
      exact u5.2.1 q (by omega)
    · obtain ⟨T5, f5⟩ := TC_cl T u5
      have := KI_sg K hi' T5 f5 u5.2.2.1
      rw [show tsP (eS v1.toInt.toNat) v2 v3 v4 = ((eS v1.toInt.toNat).1, pChange (eS v1.toInt.toNat).2.1 v3 v4, (eS v1.toInt.toNat).2.2) from if_neg l0]
      exact this
    · have b : bdT x _ nS PS := K.2.2.2.2.2.2.1
      have := (b v1.toInt.toNat hi').1
      exact u5.2.1 q (by omega)
  · rw [if_neg hi] at er
    subst er
    exact wq_t rfl (thX hr (kz_t K))
theorem kq_mark (K : KI x (c, τ, (nS, PS, eS), (nU, U), nD, PD, eD) h) (z2 : v2 = 0 ∨ v2 = 1) (z3 : v3 = 0 ∨ v3 = 1) (hr : rm lim h) : wq (vc lim (d + 2) m_Code_mark [aR x, aI v1, aI v2, aI v3] h) (kzP x (c, τ, (nS, PS, eS), (nU, U), nD, PD, eD) (c, τ, (nS, PS, upS eS v1.toInt.toNat ((eS v1.toInt.toNat).1, (eS v1.toInt.toNat).2.1, v2, v3, (eS v1.toInt.toNat).2.2.2.2)), (nU, U), nD, PD, eD) h) := by
  obtain ⟨⟨⟨uc, nk, c1, c2⟩, -⟩, k2, k3, k4, k5, s0, -⟩ := id K
  have k3 : THs (x + 1) nS PS eS h := k3
  obtain ⟨rw1, ls1, cc1, t1, -⟩ := k3.1
  refine wq_eq e_Code_mark (wq_gR c1 rfl (wq_at t1 (wq_cR (c_pick k3.1) ?_)))
  rintro r3 h2 ⟨eh, er⟩
  subst eh
  by_cases hi : 0 ≤ v1.toInt ∧ v1.toInt < nS
  · rw [if_pos hi] at er
    subst er
    have hi' : v1.toInt.toNat < nS := by omega
    have T := k3.2 _ hi'
    refine wq_f (Option.some_ne_none _) (wq_t z2 (wx_wr T.1 (Nat.le_of_ble_eq_true rfl) fun h3 e3 f3 s3 => wq_t z3 (wx_wr e3 (Nat.le_of_ble_eq_true rfl) fun h4 e4 f4 s4 => wq_some ⟨Or.inr ⟨⟨_, rfl⟩, ?_⟩, fun q g1 g2 => ?_, Or.inl rfl⟩)))
    · exact KI_sg K hi' ⟨e4, (f4 _ (by omega)).trans ((f3 _ (by omega)).trans T.2.1), (f4 _ (by omega)).trans ((f3 _ (by omega)).trans T.2.2)⟩ (fun q q1 q2 q3 => (f4 q q1).trans (f3 q q1)) (s4.1.trans s3.1)
    · have b : bdT x _ nS PS := K.2.2.2.2.2.2.1
      have := (b v1.toInt.toNat hi').1
      exact (f4 q (by omega)).trans (f3 q (by omega))
  · rw [if_neg hi] at er
    subst er
    exact wq_t rfl (thX hr (kz_t K))
theorem kq_unitAt (K : KI x (c, τ, (nS, PS, eS), (nU, U), nD, PD, eD) h) : wq (vc lim (d + 1) m_Code_unitAt [aR x, aI v1] h) (rR fun y h' => h' = h ∧ y = if 0 ≤ v1.toInt ∧ v1.toInt < nU then some (U v1.toInt.toNat).1 else none) := by
  obtain ⟨⟨⟨uc, nk, c1, c2, c3⟩, ⟨vu, d1, d2, d3⟩, -⟩, -⟩ := K
  have c2 : uc.toInt = nU := c2
  have d3 : ∀ j, j < nU → vu[j]? = some (aR (U j).1) := d3
  have z0 : (0 : Int32).toInt = 0 := rfl
  refine wq_eq e_Code_unitAt (wq_if _ (fun c0 => wq_some (rR_i ⟨rfl, ?_⟩)) (fun c0 => wq_gI c1 rfl (wq_if _ (fun c4 => wq_gR c1 rfl ?_) (fun c4 => wq_some (rR_i ⟨rfl, ?_⟩)))))
  · rw [if_neg (fun q => by have := lt_i c0; omega)]
  · have q0 := nlt_i c0
    have q1 := lt_i c4
    refine wq_lR d1 (by omega) c0 (r := some (U v1.toInt.toNat).1) (show vu[v1.toInt.toNat]? = _ from d3 _ (by omega)) (wq_some (rR_i ⟨rfl, ?_⟩))
    rw [if_pos ⟨by omega, by omega⟩]
  · rw [if_neg (fun q => by have := nlt_i c4; omega)]
theorem kq_set (K : KI x (c, τ, (nS, PS, eS), (nU, U), nD, PD, eD) h) (hr : rm lim h) : wq (vc lim (d + 4) m_Code_set [aR x, aI v1, aI v2, aI v3, aI v4] h) (kzP x (c, τ, (nS, PS, eS), (nU, U), nD, PD, eD) (c, τ, (nS, PS, eS), (nU, upS U v1.toInt.toNat ((U v1.toInt.toNat).1, (U v1.toInt.toNat).2.1, (U v1.toInt.toNat).2.2.1, (U v1.toInt.toNat).2.2.2.1, upS (U v1.toInt.toNat).2.2.2.2.1 v2.toInt.toNat (pChange ((U v1.toInt.toNat).2.2.2.2.1 v2.toInt.toNat).1 v3 v4, ((U v1.toInt.toNat).2.2.2.2.1 v2.toInt.toNat).2), (U v1.toInt.toNat).2.2.2.2.2)), nD, PD, eD) h) := by
  obtain ⟨⟨⟨uc, nk, c1, c2⟩, -⟩, k2, k3, k4, k5, s0, -⟩ := id K
  have k4 : ∀ j, j < nU → UHp (U j) h := k4
  refine wq_eq e_Code_set (wq_at c1 (wq_cR (P := fun y h' => h' = h ∧ ((y = none) ∨ (0 ≤ v1.toInt ∧ v1.toInt < nU ∧ 0 ≤ v2.toInt ∧ v2.toInt < (U v1.toInt.toNat).2.2.1 ∧ y = some ((U v1.toInt.toNat).2.2.2.1 v2.toInt.toNat)))) (wq_eq e_Code_variableThing (wq_at c1 (wq_cR (kq_unitAt K) ?_))) ?_))
  · rintro r2 h2 ⟨eh, er⟩
    subst eh
    by_cases hi : 0 ≤ v1.toInt ∧ v1.toInt < nU
    · rw [if_pos hi] at er
      subst er
      have W := k4 v1.toInt.toNat (by omega)
      obtain ⟨rw1, ls1, cc1, t1, -⟩ := W.2.2.1.1
      refine wq_f (Option.some_ne_none _) (wq_gR W.1 rfl (wq_at t1 (wq_cR (c_pick W.2.2.1.1) ?_)))
      rintro r3 h3 ⟨eh, er⟩
      subst eh
      by_cases hv : 0 ≤ v2.toInt ∧ v2.toInt < (U v1.toInt.toNat).2.2.1
      · rw [if_pos hv] at er
        exact wq_some (rR_i ⟨rfl, Or.inr ⟨hi.1, hi.2, hv.1, hv.2, er⟩⟩)
      · rw [if_neg hv] at er
        exact wq_some (rR_i ⟨rfl, Or.inl er⟩)
    · rw [if_neg hi] at er
      subst er
      exact wq_t rfl (wq_some (rR_i ⟨rfl, Or.inl rfl⟩))
  · rintro r2 h2 ⟨eh, er⟩
    subst eh
    rcases er with rfl | ⟨p1, p2, p3, p4, rfl⟩
    · exact wq_t rfl (thX hr (kz_t K))
    have hj : v1.toInt.toNat < nU := by omega
    have hi : v2.toInt.toNat < (U v1.toInt.toNat).2.2.1 := by omega
    have T := (k4 _ hj).2.2.1.2 _ hi
    refine wq_f (Option.some_ne_none _) (wq_at T.1 (wq_cI (c_hasEl T) ?_))
    rintro y h3 ⟨eh, hy⟩
    subst eh
    refine wq_if _ (fun _ => thX hr (kz_t K)) (fun y0 => wq_at T.1 (wq_cI (c_allows T) ?_))
    rintro _ h4 ⟨eh, rfl⟩
    subst eh
    refine wq_if _ (fun _ => thX hr (kz_t K)) (fun _ => wq_gR T.1 rfl (wq_at T.2.1 (wq_cV (c_change T.2.1) fun h5 u5 => wq_some ⟨Or.inr ⟨⟨_, rfl⟩, ?_⟩, fun q g1 g2 => ?_, Or.inl rfl⟩)))
    · obtain ⟨T5, f5⟩ := TC_ch T u5 pCh_il.1 pCh_il.2
      exact KI_vr K hj hi T5 f5 u5.2.2.1
    · have b : bdT x _ (U v1.toInt.toNat).2.2.1 (U v1.toInt.toNat).2.2.2.1 := (K.2.2.2.2.2.2.2.2.1 v1.toInt.toNat hj).2
      have := (b v2.toInt.toNat hi).1
      exact u5.2.1 q (by omega)
end Xg
