/-! value and variableOf, on both sides -/
abbrev vlK (τ : TD) (v1 v2 v3 : Int32) : Prop := ¬ waI τ v1 v2 = -1 ∧ hsE (τ.2.2.2.2.2 (waI τ v1 v2).toInt.toNat) v3
abbrev vlX (τ : TD) (v1 v2 v3 : Int32) : Int32 := pElem (τ.2.2.2.2.2 (waI τ v1 v2).toInt.toNat) v3
/-- what variableOf asks -/
abbrev voK (nU nV : Nat) (e : Nat → TS) (v1 v2 v3 : Int32) : Prop := (0 ≤ v1.toInt ∧ v1.toInt < nU) ∧ (0 ≤ v2.toInt ∧ v2.toInt < nV) ∧ hsE (e v2.toInt.toNat).1 v3
section Zh
variable {lim : Nat × Nat} {d m x nS nU nD B fv nV : Nat} {c : SCR} {σ : rS} {bb : ah_H} {τ : TD} {PS PD : Nat → Nat} {eS eD e : Nat → TS} {U : Nat → UD} {h h' : ah_H} {v1 v2 v3 R : Int32} {Φ : ah_R → Prop} {w : WD} {T : KT}
theorem r_value (H : RH m σ bb h) (A : TA τ σ) : wq (vc lim (d + 3) m_Ref_value [aR m, aI v1, aI v2, aI v3] h) (rI fun y h' => ∃ e : Int32, RH m (sG σ 0 e) bb h' ∧ ((e = 1 ∧ ¬ vlK τ v1 v2 v3) ∨ (e = 0 ∧ vlK τ v1 v2 v3 ∧ y = vlX τ v1 v2 v3))) := by
  have L := TA_TL A
  have z9 : (9344 : Int32).toInt = 9344 := rfl
  have bad : ∀ v4 : Int32, ¬ vlK τ v1 v2 v3 → wq (ah_val lim ah_P (d + 2) 117 29 [some (aR m), none, none, some (aI v3), some (aI v4)] [aR m] h) (rI fun y h' => ∃ e : Int32, RH m (sG σ 0 e) bb h' ∧ ((e = 1 ∧ ¬ vlK τ v1 v2 v3) ∨ (e = 0 ∧ vlK τ v1 v2 v3 ∧ y = vlX τ v1 v2 v3))) := fun v4 nk => wq_eq q_117_29 (zr_e (K := none) H (by decide) (fun h1 H1 => wq_some (rI_i ⟨1, H1, Or.inl ⟨rfl, nk⟩⟩)))
  refine wq_eq q_117_0 (wq_at H.1 (wq_cI (r_wave H A) ?_))
  rintro y h2 ⟨eh, rfl⟩
  rw [eh]
  refine wq_if _ (fun cw => bad _ (fun k => k.1 cw)) (fun cw => ?_)
  have qi := (wa_c (v1 := v1) (v2 := v2) L).resolve_left cw
  obtain ⟨-, -, w5, w6⟩ := wa_i L qi
  have l5 := L.1.2
  obtain ⟨-, q1, q3⟩ := A.2.2.2 (waI τ v1 v2).toInt.toNat (by omega)
  have eR : (9344 + waI τ v1 v2).toInt = ((9344 + (waI τ v1 v2).toInt.toNat : Nat) : Int) := by rw [ad_i (by omega) (by omega), z9]; omega
  refine wq_at H.1 (wq_cI (r_lacks H eR (by omega) q1 q3) ?_)
  rintro y h2 ⟨eh, q⟩
  rw [eh]
  rcases q with ⟨rfl, q⟩ | ⟨rfl, q⟩
  · refine wq_t rfl (zr_o H (fun h1 H1 => wq_at H1.1 (wq_cI (r_told H1 eR (by omega) (RW_e q1 rfl rfl rfl (fun _ _ => rfl) q3) q3 q) ?_)))
    rintro y h2 ⟨eh, rfl⟩
    rw [eh]
    exact wq_some (rI_i ⟨0, H1, Or.inr ⟨rfl, ⟨cw, q⟩, rfl⟩⟩)
  · exact wq_f (by decide) (bad _ (fun k => q k.2))
theorem kq_value (K : KI x (c, τ, (nS, PS, eS), (nU, U), nD, PD, eD) h) (L : TL τ) (hr : rm lim h) : wq (vc lim (d + 4) m_Code_value [aR x, aI v1, aI v2, aI v3] h) (fun z => (¬ vlK τ v1 v2 v3 ∧ z = thZ 202 h) ∨ (vlK τ v1 v2 v3 ∧ z = (.inl (some (.inl (vlX τ v1 v2 v3))), h))) := by
  have O := KI_TO K
  obtain ⟨⟨⟨uc, nk, c1, -⟩, -⟩, -⟩ := id K
  have l500 := L.1.2
  have z0 : (0 : Int32).toInt = 0 := rfl
  have q243 : wq (vc lim (d + 3) 243 [aR (x + 19), aI v1, aI v2] h) (rR fun y h' => h' = h ∧ y = if waI τ v1 v2 = -1 then none else some (x + 30 + (waI τ v1 v2).toInt.toNat)) := by
    refine wq_eq q_243_0 (tr_at O (fun vs => wq_cI (c_slotOf O L) ?_))
    rintro y h2 ⟨eh, rfl⟩
    rw [eh]
    refine wq_if _ (fun cw => wq_some (rR_i ⟨rfl, (if_pos cw).symm⟩)) (fun cw => ?_)
    have qi := (wa_c (v1 := v1) (v2 := v2) L).resolve_left cw
    obtain ⟨-, -, w5, w6⟩ := wa_i L qi
    refine tr_R O (fun _ _ => rfl) (wq_lR O.2.2.2.2.1 (by decide) (ix_ge (by omega)) (r := some (x + 30 + (waI τ v1 v2).toInt.toNat)) ?_ (wq_some (rR_i ⟨rfl, (if_neg cw).symm⟩)))
    show ((List.range 500).map fun i => aR (x + 30 + i))[(waI τ v1 v2).toInt.toNat]? = _
    rw [List.getElem?_map, List.getElem?_range (by omega)]
    rfl
  refine wq_eq q_18_0 (wq_gR c1 rfl (tr_at O (fun vs => wq_cR q243 ?_)))
  rintro r3 h2 ⟨eh, er⟩
  rw [eh]
  by_cases cw : waI τ v1 v2 = -1
  · rw [if_pos cw] at er
    subst er
    exact wq_t rfl (z_th hr (Or.inl ⟨fun k => k.1 cw, rfl⟩))
  · rw [if_neg cw] at er
    subst er
    have qi := (wa_c (v1 := v1) (v2 := v2) L).resolve_left cw
    obtain ⟨-, -, w5, w6⟩ := wa_i L qi
    have ew := O.2.2.2.2.2.1 (waI τ v1 v2).toInt.toNat (by omega)
    refine wq_f (Option.some_ne_none _) (wq_if _ (fun c0 => z_th hr (Or.inl ⟨fun k => by have := lt_i c0; have := k.2.1; omega, rfl⟩)) (fun c0 => wq_gI ew rfl (wq_if _ (fun c2 => wq_at ew (wq_cI (c_element ew) ?_)) (fun c2 => z_th hr (Or.inl ⟨fun k => by have := nlt_i c2; have := k.2.2; omega, rfl⟩)))))
    rintro y h4 ⟨eh, rfl⟩
    rw [eh]
    exact wq_some (Or.inr ⟨⟨cw, by have := nlt_i c0; omega, lt_i c2⟩, rfl⟩)
theorem r_varAt (H : RH m σ bb h) (hU : (σ.1 23).toInt = nU) (h64 : nU ≤ 64) (W : 0 ≤ v1.toInt ∧ v1.toInt < nU → UVx T nV B fv v1.toInt.toNat e σ ∧ (ia σ 19 v1.toInt.toNat).toInt = nV) : wq (vc lim (d + 2) 39 [aR m, aI v1, aI v2, aI v3] h) (rI fun y h' => h' = h ∧ ((y = -1 ∧ ¬ voK nU nV e v1 v2 v3) ∨ (y.toInt = ((1024 + fv + v2.toInt.toNat : Nat) : Int) ∧ voK nU nV e v1 v2 v3))) := by
  have z0 : (0 : Int32).toInt = 0 := rfl
  have z1 : (1024 : Int32).toInt = 1024 := rfl
  refine wq_eq q_39_0 (r_absent H hU (fun q => wq_f (by decide) (wq_some (rI_i ⟨rfl, Or.inl ⟨rfl, fun k => q k.1⟩⟩))) (fun q => wq_t rfl (wq_if _ (fun c0 => wq_some (rI_i ⟨rfl, Or.inl ⟨rfl, fun k => by have := lt_i c0; have := k.2.1; omega⟩⟩)) (fun c0 => ?_))))
  obtain ⟨⟨-, u2, -, u4, -, u6⟩, u19⟩ := W q
  refine wq_gR H.1 rfl (ra_I H (j := 19) (by omega) rfl rfl (by omega) (by show _ < (64 : Int); omega) (wq_if _ (fun c1 => ?_) (fun c1 => wq_some (rI_i ⟨rfl, Or.inl ⟨rfl, fun k => by have := nlt_i c1; have := k.2.1; omega⟩⟩))))
  have w0 := nlt_i c0
  have w1 := lt_i c1
  obtain ⟨⟨q1, q3⟩, -⟩ := u6 v2.toInt.toNat (by omega)
  have eR : (1024 + ia σ 18 v1.toInt.toNat + v2).toInt = ((1024 + fv + v2.toInt.toNat : Nat) : Int) := by
    have : (1024 + ia σ 18 v1.toInt.toNat).toInt = 1024 + (ia σ 18 v1.toInt.toNat).toInt := by rw [ad_i (by omega) (by omega), z1]
    rw [ad_i (by omega) (by omega), this]
    omega
  refine wq_gR H.1 rfl (ra_I H (j := 18) (by omega) rfl rfl (by omega) (by show _ < (64 : Int); omega) (wq_at H.1 (wq_cI (r_lacks H eR (by omega) q1 q3) ?_)))
  rintro y h2 ⟨eh, k⟩
  rw [eh]
  rcases k with ⟨rfl, k⟩ | ⟨rfl, k⟩
  · exact wq_t rfl (wq_some (rI_i ⟨rfl, Or.inr ⟨eR, q, by omega, k⟩⟩))
  · exact wq_f (by decide) (wq_some (rI_i ⟨rfl, Or.inl ⟨rfl, fun z => k z.2.2⟩⟩))
theorem r_varOf (H : RH m σ bb h) (hU : (σ.1 23).toInt = nU) (h64 : nU ≤ 64) (W : 0 ≤ v1.toInt ∧ v1.toInt < nU → UVx T nV B fv v1.toInt.toNat e σ ∧ (ia σ 19 v1.toInt.toNat).toInt = nV) : wq (vc lim (d + 3) m_Ref_variableOf [aR m, aI v1, aI v2, aI v3] h) (rI fun y h' => ∃ er : Int32, RH m (sG σ 0 er) bb h' ∧ ((er = 1 ∧ ¬ voK nU nV e v1 v2 v3) ∨ (er = 0 ∧ voK nU nV e v1 v2 v3 ∧ y = pElem (e v2.toInt.toNat).1 v3))) := by
  refine wq_eq q_41_0 (wq_at H.1 (wq_cI (r_varAt H hU h64 W) ?_))
  rintro y h2 ⟨eh, k⟩
  rw [eh]
  rcases k with ⟨rfl, k⟩ | ⟨hy, k⟩
  · exact wq_t rfl (zr_e (K := none) H (by decide) (fun h1 H1 => wq_some (rI_i ⟨1, H1, Or.inl ⟨rfl, k⟩⟩)))
  · obtain ⟨⟨-, u2, -, u4, -, u6⟩, u19⟩ := W k.1
    obtain ⟨⟨q1, q3⟩, -⟩ := u6 v2.toInt.toNat (by have := k.2.1; omega)
    have kl := k.2.1
    refine wq_f (fun q => by rw [q] at hy; have : (-1 : Int32).toInt = -1 := rfl; omega) (zr_o H (fun h1 H1 => wq_at H1.1 (wq_cI (r_told H1 hy (by omega) (RW_e q1 rfl rfl rfl (fun _ _ => rfl) q3) q3 k.2.2) ?_)))
    rintro z h3 ⟨eh, rfl⟩
    rw [eh]
    exact wq_some (rI_i ⟨0, H1, Or.inr ⟨rfl, k, rfl⟩⟩)
theorem kq_varOf (K : KI x (c, τ, (nS, PS, eS), (nU, U), nD, PD, eD) h) (hr : rm lim h) : wq (vc lim (d + 3) m_Code_variableOf [aR x, aI v1, aI v2, aI v3] h) (fun z => (¬ voK nU (U v1.toInt.toNat).2.2.1 (U v1.toInt.toNat).2.2.2.2.1 v1 v2 v3 ∧ z = thZ 202 h) ∨ (voK nU (U v1.toInt.toNat).2.2.1 (U v1.toInt.toNat).2.2.2.2.1 v1 v2 v3 ∧ z = (.inl (some (.inl (pElem ((U v1.toInt.toNat).2.2.2.2.1 v2.toInt.toNat).1 v3))), h))) := by
  obtain ⟨⟨⟨uc, nk, c1, c2⟩, -⟩, k2, k3, k4, k5, s0, -⟩ := id K
  have k4 : ∀ j, j < nU → UHp (U j) h := k4
  have q21 : wq (vc lim (d + 2) 21 [aR x, aI v1, aI v2] h) (rR fun y h' => h' = h ∧ y = if (0 ≤ v1.toInt ∧ v1.toInt < nU) ∧ 0 ≤ v2.toInt ∧ v2.toInt < (U v1.toInt.toNat).2.2.1 then some ((U v1.toInt.toNat).2.2.2.1 v2.toInt.toNat) else none) := by
    refine wq_eq q_21_0 (wq_at c1 (wq_cR (kq_unitAt K) ?_))
    rintro r2 h2 ⟨eh, er⟩
    rw [eh]
    by_cases hi : 0 ≤ v1.toInt ∧ v1.toInt < nU
    · rw [if_pos hi] at er
      subst er
      have W := k4 v1.toInt.toNat (by omega)
      have V := W.2.2.1
      have V1 := V.1
      obtain ⟨rw1, ls1, cc1, et, -⟩ := V1
      refine wq_f (Option.some_ne_none _) (wq_gR W.1 rfl (wq_at et (wq_cR (c_pick V.1) ?_)))
      rintro r3 h3 ⟨eh, er⟩
      rw [eh]
      refine wq_some (rR_i ⟨rfl, ?_⟩)
      rw [er]
      by_cases hj : 0 ≤ v2.toInt ∧ v2.toInt < (U v1.toInt.toNat).2.2.1
      · rw [if_pos hj, if_pos ⟨hi, hj⟩]
      · rw [if_neg hj, if_neg (fun q => hj q.2)]
    · rw [if_neg hi] at er
      subst er
      exact wq_t rfl (wq_some (rR_i ⟨rfl, (if_neg (fun q => hi q.1)).symm⟩))
  refine wq_eq q_10_0 (wq_at c1 (wq_cR q21 ?_))
  rintro r3 h2 ⟨eh, er⟩
  rw [eh]
  by_cases hi : (0 ≤ v1.toInt ∧ v1.toInt < nU) ∧ 0 ≤ v2.toInt ∧ v2.toInt < (U v1.toInt.toNat).2.2.1
  · rw [if_pos hi] at er
    subst er
    have W := k4 v1.toInt.toNat (by omega)
    have T := W.2.2.1.2 v2.toInt.toNat (by omega)
    refine wq_f (Option.some_ne_none _) (wq_at T.1 (wq_cI (c_hasEl2 T) ?_))
    rintro y h3 ⟨eh, q⟩
    rw [eh]
    rcases q with ⟨rfl, q⟩ | ⟨rfl, q⟩
    · refine wq_f (by decide) (wq_gR T.1 rfl (wq_at T.2.1 (wq_cI (c_element T.2.1) ?_)))
      rintro y h4 ⟨eh, rfl⟩
      rw [eh]
      exact wq_some (Or.inr ⟨⟨hi.1, hi.2, q⟩, rfl⟩)
    · exact wq_t rfl (z_th hr (Or.inl ⟨fun k => q k.2.2, rfl⟩))
  · rw [if_neg hi] at er
    subst er
    exact wq_t rfl (z_th hr (Or.inl ⟨fun k => hi ⟨k.1, k.2.1⟩, rfl⟩))
end Zh
