/-! waits, on both sides -/
/-- what waits asks -/
abbrev wtK (T : KT) (nU : Nat) (s : US) (v1 v2 : Int32) : Prop := (0 ≤ v1.toInt ∧ v1.toInt < nU) ∧ s.1 = 1 ∧ 0 ≤ v2.toInt ∧ v2.toInt < (kf T 6 (kC T s.2.2.2.2.2.2.1 0)).toInt
abbrev wtX (T : KT) (s : US) (v2 : Int32) : Int32 := kf T 1 (kC T (kC T s.2.2.2.2.2.2.1 0) v2.toInt.toNat)
section Zf
variable {lim : Nat × Nat} {d m x nS nU nD B n : Nat} {c : SCR} {σ : rS} {bb : ah_H} {τ : TD} {PS PD : Nat → Nat} {eS eD : Nat → TS} {U : Nat → UD} {h h' : ah_H} {v1 v2 l k : Int32} {Φ : ah_R → Prop} {T : KT} {s : US}
theorem r_kid_l {N : Nat} (P : PO T) (H : RH m σ bb h) (Nb : NB T B σ) (hl : rgN T l) (hk : v2.toInt = N) (hN : (N : Int) < (kf T 6 l).toInt) : ∀ (n i : Nat) (ee ii : Int32), ee.toInt = B + (kC T l i).toInt → ii.toInt = i → i + n = N → wq (ah_val lim ah_P d 43 10 [some (aR m), none, some (aI v2), some (aI ee), some (aI ii)] [] h) (rI fun y h' => h' = h ∧ y.toInt = B + (kC T l N).toInt) := by
  have z1 : (1 : Int32).toInt = 1 := rfl
  have hv := Int32.toInt_lt v2
  have p31 : (2 : Int) ^ 31 = 2147483648 := by decide
  intro n
  induction n with
  | zero =>
    intro i ee ii he hi hn
    have : i = N := by omega
    subst this
    exact wq_eq q_43_10 (wq_f (fun q => by have := lt_i q; omega) (wq_some (rI_i ⟨rfl, he⟩)))
  | succ n ih =>
    intro i ee ii he hi hn
    have hc := (po_k P hl (i := i) (by omega)).1
    have c0 := hc.1
    have ea : (ii + 1).toInt = ((i + 1 : Nat) : Int) := by rw [ad_i (by omega) (by omega), z1]; omega
    exact wq_eq q_43_10 (wq_t (Int32.lt_iff_toInt_lt.mpr (by omega)) (wq_f (fun q => by rw [q] at he; have : (-1 : Int32).toInt = -1 := rfl; omega) (wq_gR H.1 rfl (rd_x (i := i) P H Nb hl (by omega) he (fun e2 h2 => ih (i + 1) e2 (ii + 1) h2 ea (by omega))))))
theorem r_kid {N : Nat} (P : PO T) (H : RH m σ bb h) (Nb : NB T B σ) (hl : rgN T l) (hkl : k.toInt = B + l.toInt) (hk : v2.toInt = N) (hN : (N : Int) < (kf T 6 l).toInt) : wq (vc lim (d + 1) 43 [aR m, aI k, aI v2] h) (rI fun y h' => h' = h ∧ y.toInt = B + (kC T l N).toInt) := wq_eq q_43_0 (wq_gR H.1 rfl (rd_c H hkl Nb hl (by omega) (fun e2 h2 => r_kid_l P H Nb hl hk hN N 0 e2 0 h2 rfl (by omega))))
theorem r_waits (H : RH m σ bb h) (hU : (σ.1 23).toInt = nU) (h64 : nU ≤ 64) (P : PO T) (W : 0 ≤ v1.toInt ∧ v1.toInt < nU → ia σ 20 v1.toInt.toNat = s.1 ∧ (s.1 = 1 → NB T B σ ∧ (ia σ 24 v1.toInt.toNat).toInt = B + s.2.2.2.2.2.2.1.toInt ∧ rgN T s.2.2.2.2.2.2.1 ∧ kf T 6 s.2.2.2.2.2.2.1 = 3)) : wq (vc lim (d + 2) m_Ref_waits [aR m, aI v1, aI v2] h) (rI fun y h' => ∃ e : Int32, RH m (sG σ 0 e) bb h' ∧ ((e = 1 ∧ ¬ wtK T nU s v1 v2) ∨ (e = 0 ∧ wtK T nU s v1 v2 ∧ y = wtX T s v2))) := by
  have z0 : (0 : Int32).toInt = 0 := rfl
  have bad : ¬ wtK T nU s v1 v2 → wq (ah_val lim ah_P (d + 1) 112 48 [some (aR m), some (aI v1), some (aI v2)] [aI 1, aR m] h) (rI fun y h' => ∃ e : Int32, RH m (sG σ 0 e) bb h' ∧ ((e = 1 ∧ ¬ wtK T nU s v1 v2) ∨ (e = 0 ∧ wtK T nU s v1 v2 ∧ y = wtX T s v2))) := fun nk => wq_eq q_112_48 (zr_e (K := none) H (by decide) (fun h1 H1 => wq_some (rI_i ⟨1, H1, Or.inl ⟨rfl, nk⟩⟩)))
  refine wq_eq q_112_0 (r_absent H hU (fun q => wq_f (by decide) (bad (fun k => q k.1))) (fun q => wq_t rfl (wq_gR H.1 rfl (ra_I H (j := 20) (by omega) rfl rfl (by omega) (by show _ < (64 : Int); omega) ?_))))
  obtain ⟨u1, u2⟩ := W q
  rw [u1]
  refine wq_if _ (fun s1 => wq_if _ (fun c2 => bad (fun k => by have := lt_i c2; have := k.2.2.1; omega)) (fun c2 => ?_)) (fun s1 => bad (fun k => s1 k.2.1))
  obtain ⟨Nb, w24, hv, m3⟩ := u2 s1
  have w2 := nlt_i c2
  have m0 : 0 < (kf T 6 s.2.2.2.2.2.2.1).toInt := by rw [m3]; decide
  have hl := (po_k P hv (i := 0) (by rw [m3]; decide)).1
  refine wq_gR H.1 rfl (wq_gR H.1 rfl (wq_gR H.1 rfl (ra_I H (j := 24) (by omega) rfl rfl (by omega) (by show _ < (64 : Int); omega) (rd_c H w24 Nb hv m0 (fun e9 h9 => rdN (j := 10) H (by omega) h9 Nb hl ?_)))))
  rw [(Nb.2 _ hl).2.2.1]
  refine wq_if _ (fun c3 => ?_) (fun c3 => bad (fun k => by have := nlt_i c3; have := k.2.2.2; omega))
  have w3 := lt_i c3
  have ok : wtK T nU s v1 v2 := ⟨q, s1, by omega, w3⟩
  refine wq_eq q_112_48 (zr_o H (fun h1 H1 => ?_))
  have N1 : NB T B (sG σ 0 0) := Nb
  refine wq_gR H1.1 rfl (wq_gR H1.1 rfl (wq_gR H1.1 rfl (ra_I H1 (j := 24) (by omega) rfl rfl (by omega) (by show _ < (64 : Int); omega) (rd_c H1 w24 N1 hv m0 (fun e7 h7 => wq_at H1.1 (wq_cI (r_kid (N := v2.toInt.toNat) P H1 N1 hl h7 (by omega) (by omega)) ?_))))))
  rintro y h2 ⟨eh, hy⟩
  rw [eh]
  exact rd_g H1 hy N1 (po_k P hl (by omega)).1 (wq_some (rI_i ⟨0, H1, Or.inr ⟨rfl, ok, rfl⟩⟩))
theorem kq_waits (K : KI x (c, τ, (nS, PS, eS), (nU, U), nD, PD, eD) h) (G : ∀ j, j < nU → PO (U j).2.1 ∧ (¬ (U j).2.2.2.2.2.1.1 = 1 → (U j).2.2.2.2.2.1.2.2.2.2.2.2.1 = -1) ∧ ((U j).2.2.2.2.2.1.1 = 1 → rgN (U j).2.1 (U j).2.2.2.2.2.1.2.2.2.2.2.2.1 ∧ kf (U j).2.1 6 (U j).2.2.2.2.2.1.2.2.2.2.2.2.1 = 3)) (hr : rm lim h) : wq (vc lim (d + 3) m_Code_waits [aR x, aI v1, aI v2] h) (fun z => (¬ wtK (U v1.toInt.toNat).2.1 nU (U v1.toInt.toNat).2.2.2.2.2.1 v1 v2 ∧ z = thZ 202 h) ∨ (wtK (U v1.toInt.toNat).2.1 nU (U v1.toInt.toNat).2.2.2.2.2.1 v1 v2 ∧ z = (.inl (some (.inl (wtX (U v1.toInt.toNat).2.1 (U v1.toInt.toNat).2.2.2.2.2.1 v2))), h))) := by
  have z0 : (0 : Int32).toInt = 0 := rfl
  obtain ⟨⟨⟨uc, nk, c1, c2⟩, -⟩, k2, k3, k4, k5, s0, -⟩ := id K
  have k4 : ∀ j, j < nU → UHp (U j) h := k4
  refine wq_eq q_14_0 (wq_at c1 (wq_cR (kq_unitAt K) ?_))
  rintro r2 h2 ⟨eh, er⟩
  rw [eh]
  by_cases hi : 0 ≤ v1.toInt ∧ v1.toInt < nU
  · rw [if_pos hi] at er
    subst er
    have hj : v1.toInt.toNat < nU := by omega
    have W := k4 v1.toInt.toNat hj
    obtain ⟨P, g1, g2⟩ := G _ hj
    have Nd : ND ((U v1.toInt.toNat).1 + 1) (U v1.toInt.toNat).2.1 h := W.2.1.1
    have Nd0 := Nd
    obtain ⟨Aa, Ls, cc, kt, e5, -⟩ := Nd0
    refine wq_f (Option.some_ne_none _) (wq_if _ (fun cn => z_th hr (Or.inl ⟨fun k => by have := lt_i cn; have := k.2.2.1; omega, rfl⟩)) (fun cn => ?_))
    have w2 := nlt_i cn
    -- how many
    have q256 : wq (vc lim (d + 2) 256 [aR (U v1.toInt.toNat).1] h) (rI fun y h' => h' = h ∧ y = xM (U v1.toInt.toNat).2.1 (xCh (U v1.toInt.toNat).2.1 (U v1.toInt.toNat).2.2.2.2.2.1.2.2.2.2.2.2.1 0)) := by
      refine wq_eq q_256_0 (wq_gR W.1 rfl (wq_gR W.1 rfl (wq_gI W.1 rfl (wq_at e5 (wq_cI (c_kid Nd) ?_)))))
      rintro _ h3 ⟨eh, rfl⟩
      rw [eh]
      refine wq_at e5 (wq_cI (c_kidsOf Nd) ?_)
      rintro _ h4 ⟨eh, rfl⟩
      rw [eh]
      exact wq_some (rI_i ⟨rfl, rfl⟩)
    refine wq_at W.1 (wq_cI q256 ?_)
    rintro _ h3 ⟨eh, rfl⟩
    rw [eh]
    by_cases s1 : (U v1.toInt.toNat).2.2.2.2.2.1.1 = 1
    · obtain ⟨hv, m3⟩ := g2 s1
      have hl := (po_k P hv (i := 0) (by rw [m3]; decide)).1
      have x0 : xCh (U v1.toInt.toNat).2.1 (U v1.toInt.toNat).2.2.2.2.2.1.2.2.2.2.2.2.1 0 = kC (U v1.toInt.toNat).2.1 (U v1.toInt.toNat).2.2.2.2.2.1.2.2.2.2.2.2.1 0 := xC_k (n := 0) hv rfl (by rw [m3]; decide)
      rw [x0, xM_r hl]
      refine wq_if _ (fun c3 => ?_) (fun c3 => z_th hr (Or.inl ⟨fun k => by have := nlt_i c3; have := k.2.2.2; omega, rfl⟩))
      have w3 := lt_i c3
      refine wq_at W.1 (wq_cI (P := fun y h' => h' = h ∧ y = wtX (U v1.toInt.toNat).2.1 (U v1.toInt.toNat).2.2.2.2.2.1 v2) (wq_eq q_257_0 (wq_gR W.1 rfl (wq_gR W.1 rfl (wq_gR W.1 rfl (wq_gI W.1 rfl (wq_at e5 (wq_cI (c_kid Nd) ?_))))))) ?_)
      · rintro _ h4 ⟨eh, rfl⟩
        rw [eh, x0]
        refine wq_at e5 (wq_cI (c_kid Nd) ?_)
        rintro _ h5 ⟨eh, rfl⟩
        rw [eh, xC_k (n := v2.toInt.toNat) hl (by omega) (by omega)]
        refine wq_at e5 (wq_cI (c_givenOf Nd) ?_)
        rintro _ h6 ⟨eh, rfl⟩
        rw [eh, xG_r (po_k P hl (by omega)).1]
        exact wq_some (rI_i ⟨rfl, rfl⟩)
      · rintro _ h4 ⟨eh, rfl⟩
        rw [eh]
        exact wq_some (Or.inr ⟨⟨hi, s1, by omega, w3⟩, rfl⟩)
    · have a1 := g1 s1
      have nr : ¬ rgN (U v1.toInt.toNat).2.1 (-1) := fun q => absurd q.1 (by decide)
      rw [a1, show xCh (U v1.toInt.toNat).2.1 (-1) 0 = -1 from if_neg (fun q => nr q.1), show xM (U v1.toInt.toNat).2.1 (-1) = 0 from if_neg nr]
      exact wq_f (fun q => by have := lt_i q; omega) (z_th hr (Or.inl ⟨fun k => s1 k.2.1, rfl⟩))
  · rw [if_neg hi] at er
    subst er
    exact wq_t rfl (z_th hr (Or.inl ⟨fun k => hi k.1, rfl⟩))
end Zf
