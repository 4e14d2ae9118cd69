/-! delay, on both sides -/
/-- where a wave is -/
def waI (τ : TD) (v1 v2 : Int32) : Int32 := if (0 ≤ v1.toInt ∧ v1.toInt < τ.1) ∧ 0 ≤ v2.toInt ∧ v2.toInt < (τ.2.2.1 5 v1.toInt.toNat).toInt then τ.2.2.1 6 v1.toInt.toNat + v2 else -1
/-- acts in their order -/
def TL (τ : TD) : Prop := (τ.1 ≤ 200 ∧ τ.2.1 ≤ 500) ∧ ∀ i, i < τ.1 → 0 ≤ (τ.2.2.1 6 i).toInt ∧ 0 ≤ (τ.2.2.1 5 i).toInt ∧ (τ.2.2.1 6 i).toInt + (τ.2.2.1 5 i).toInt ≤ τ.2.1 ∧ (τ.2.2.1 0 i = 0 ∨ (τ.2.2.1 0 i = 1 ∧ τ.2.2.1 5 i = 0))
/-- an assignment is known -/
abbrev asK (τ : TD) (v1 : Int32) : Prop := (0 ≤ v1.toInt ∧ v1.toInt < τ.1) ∧ τ.2.2.1 0 v1.toInt.toNat = 0
/-- what delay asks -/
abbrev dlK (τ : TD) (v1 v2 : Int32) : Prop := asK τ v1 ∧ (v2 = -1 ∨ ¬ waI τ v1 v2 = -1)
def dlX (τ : TD) (v1 v2 : Int32) : Int64 := if v2 = -1 then τ.2.2.2.1 v1.toInt.toNat else τ.2.2.2.2.1 (waI τ v1 v2).toInt.toNat
section Ze
variable {lim : Nat × Nat} {d m x nS nU nD : Nat} {c : SCR} {σ : rS} {bb : ah_H} {τ : TD} {PS PD : Nat → Nat} {eS eD : Nat → TS} {U : Nat → UD} {h h' : ah_H} {v1 v2 : Int32} {Φ : ah_R → Prop}
theorem TA_TL (A : TA τ σ) : TL τ := by
  obtain ⟨⟨a1, a2, a3, a4⟩, b, c, -⟩ := A
  have le : ∀ k i : Nat, i + k = τ.1 → (ia σ 37 i).toInt ≤ τ.2.1 := by
    intro k
    induction k with
    | zero =>
      intro i hi
      rw [show i = τ.1 by omega]
      omega
    | succ k ih =>
      intro i hi
      have := ih (i + 1) (by omega)
      obtain ⟨-, -, -, -, -, -, -, t8, -, t10, -⟩ := b i (by omega)
      omega
  refine ⟨⟨a3, a4⟩, fun i hi => ?_⟩
  obtain ⟨-, -, -, -, -, -, t7, t8, t9, t10, t11⟩ := b i hi
  have := le (τ.1 - (i + 1)) (i + 1) (by omega)
  rw [← t7]
  exact ⟨t9, t10, by omega, t11⟩
theorem wa_i (L : TL τ) (q : (0 ≤ v1.toInt ∧ v1.toInt < τ.1) ∧ 0 ≤ v2.toInt ∧ v2.toInt < (τ.2.2.1 5 v1.toInt.toNat).toInt) : waI τ v1 v2 = τ.2.2.1 6 v1.toInt.toNat + v2 ∧ (waI τ v1 v2).toInt = (τ.2.2.1 6 v1.toInt.toNat).toInt + v2.toInt ∧ (waI τ v1 v2).toInt < τ.2.1 ∧ 0 ≤ (waI τ v1 v2).toInt := by
  obtain ⟨l1, l2⟩ := L
  obtain ⟨m1, m2, m3, -⟩ := l2 v1.toInt.toNat (by omega)
  have e : waI τ v1 v2 = τ.2.2.1 6 v1.toInt.toNat + v2 := if_pos q
  have ea : (τ.2.2.1 6 v1.toInt.toNat + v2).toInt = (τ.2.2.1 6 v1.toInt.toNat).toInt + v2.toInt := ad_i (by omega) (by omega)
  rw [e, ea]
  exact ⟨rfl, rfl, by omega, by omega⟩
theorem wa_c (L : TL τ) : waI τ v1 v2 = -1 ∨ ((0 ≤ v1.toInt ∧ v1.toInt < τ.1) ∧ 0 ≤ v2.toInt ∧ v2.toInt < (τ.2.2.1 5 v1.toInt.toNat).toInt) := by
  by_cases q : (0 ≤ v1.toInt ∧ v1.toInt < τ.1) ∧ 0 ≤ v2.toInt ∧ v2.toInt < (τ.2.2.1 5 v1.toInt.toNat).toInt
  · exact Or.inr q
  · exact Or.inl (if_neg q)
theorem r_wave (H : RH m σ bb h) (A : TA τ σ) : wq (vc lim (d + 1) 116 [aR m, aI v1, aI v2] h) (rI fun y h' => h' = h ∧ y = waI τ v1 v2) := by
  have z0 : (0 : Int32).toInt = 0 := rfl
  have z1 : (1 : Int32).toInt = 1 := rfl
  obtain ⟨a1, -, a3, -⟩ := A.1
  have no : ¬ ((0 ≤ v1.toInt ∧ v1.toInt < τ.1) ∧ 0 ≤ v2.toInt ∧ v2.toInt < (τ.2.2.1 5 v1.toInt.toNat).toInt) → wq (some (.inl (some (.inl (-1))), h)) (rI fun y h' => h' = h ∧ y = waI τ v1 v2) := fun q => wq_some (rI_i ⟨rfl, (if_neg q).symm⟩)
  refine wq_eq q_116_0 (wq_if _ (fun c => no (by have := lt_i c; omega)) (fun c => wq_gI H.1 rfl (wq_if _ (fun c2 => wq_if _ (fun c3 => no (by have := lt_i c3; omega)) (fun c3 => ?_)) (fun c2 => no (by have := nlt_i c2; omega)))))
  have w1 := nlt_i c
  have w2 := lt_i c2
  have w3 := nlt_i c3
  obtain ⟨-, -, -, -, -, -, t7, t8, t9, t10, -⟩ := A.2.1 v1.toInt.toNat (by omega)
  have ea : (v1 + 1).toInt = v1.toInt + 1 := by rw [ad_i (by omega) (by omega), z1]
  refine wq_gR H.1 rfl (ra_I H (j := 37) (by omega) rfl rfl (by omega) (by show _ < (201 : Int); omega) (wq_gR H.1 rfl (ra_I H (j := 37) (by omega) rfl rfl (by omega) (by show _ < (201 : Int); omega) ?_)))
  rw [show (v1 + 1).toInt.toNat = v1.toInt.toNat + 1 by omega]
  have l5 := Int32.toInt_lt (τ.2.2.1 5 v1.toInt.toNat)
  have p31 : (2 : Int) ^ 31 = 2147483648 := by decide
  have es : (ia σ 37 (v1.toInt.toNat + 1) - ia σ 37 v1.toInt.toNat).toInt = (τ.2.2.1 5 v1.toInt.toNat).toInt := by
    rw [sb_i (by omega) (by omega)]
    omega
  refine wq_if _ (fun c4 => ?_) (fun c4 => no (by have := nlt_i c4; omega))
  have w4 := lt_i c4
  refine wq_gR H.1 rfl (ra_I H (j := 37) (by omega) rfl rfl (by omega) (by show _ < (201 : Int); omega) (wq_some (rI_i ⟨rfl, ?_⟩)))
  rw [t7]
  exact (if_pos ⟨by omega, by omega, by omega⟩).symm
theorem r_delay (H : RH m σ bb h) (A : TA τ σ) : wq (vc lim (d + 2) m_Ref_delay [aR m, aI v1, aI v2] h) (rJ fun y h' => ∃ e : Int32, RH m (sG σ 0 e) bb h' ∧ ((e = 1 ∧ ¬ dlK τ v1 v2) ∨ (e = 0 ∧ dlK τ v1 v2 ∧ y = dlX τ v1 v2))) := by
  have z0 : (0 : Int32).toInt = 0 := rfl
  have L := TA_TL A
  obtain ⟨a1, -, a3, a4⟩ := A.1
  have bad : ∀ v4 : Int32, ¬ dlK τ v1 v2 → wq (ah_val lim ah_P (d + 1) 118 64 [some (aR m), some (aI v1), some (aI v2), none, some (aI v4)] [aI 1, aR m] h) (rJ fun y h' => ∃ e : Int32, RH m (sG σ 0 e) bb h' ∧ ((e = 1 ∧ ¬ dlK τ v1 v2) ∨ (e = 0 ∧ dlK τ v1 v2 ∧ y = dlX τ v1 v2))) := fun v4 nk => wq_eq q_118_64 (zr_e (K := none) H (by decide) (fun h1 H1 => wq_some (rJ_i ⟨1, H1, Or.inl ⟨rfl, nk⟩⟩)))
  have no : ¬ asK τ v1 → wq (ah_val lim ah_P (d + 1) 118 25 [some (aR m), some (aI v1), some (aI v2), none, none] [] h) (rJ fun y h' => ∃ e : Int32, RH m (sG σ 0 e) bb h' ∧ ((e = 1 ∧ ¬ dlK τ v1 v2) ∨ (e = 0 ∧ dlK τ v1 v2 ∧ y = dlX τ v1 v2))) := fun q => wq_eq q_118_25 (wq_t rfl (wq_eq q_118_41 (wq_t rfl (bad (-1) (fun k => q k.1)))))
  refine wq_eq q_118_0 (wq_if _ (fun c => no (fun q => by have := lt_i c; have := q.1; omega)) (fun c => wq_gI H.1 rfl (wq_if _ (fun c2 => ?_) (fun c2 => no (fun q => by have := nlt_i c2; have := q.1; omega)))))
  have w1 := nlt_i c
  have w2 := lt_i c2
  obtain ⟨t1, -, -, -, -, t6, -, -, -, -, t11⟩ := A.2.1 v1.toInt.toNat (by omega)
  refine wq_gR H.1 rfl (ra_I H (j := 31) (by omega) rfl rfl (by omega) (by show _ < (200 : Int); omega) ?_)
  rw [t1]
  refine wq_if _ (fun c3 => ?_) (fun c3 => no (fun q => c3 q.2))
  have ak : asK τ v1 := ⟨by omega, c3⟩
  refine wq_f (by decide) (wq_at H.1 (wq_cI (r_wave H A) ?_))
  rintro y h2 ⟨eh, rfl⟩
  rw [eh]
  refine wq_eq q_118_41 (wq_f (by decide) (wq_if _ (fun cw => wq_if _ (fun cm => ?_) (fun cm => bad _ (fun k => k.2.elim cm (fun q => q cw)))) (fun cw => ?_)))
  · refine wq_eq q_118_64 (zr_o H (fun h1 H1 => wq_t cm (wq_gR H1.1 rfl (ra_J H1 (j := 36) (by omega) rfl (by omega) (by show _ < (200 : Int); omega) (wq_some (rJ_i ⟨0, H1, Or.inr ⟨rfl, ⟨ak, Or.inl cm⟩, ?_⟩⟩))))))
    unfold dlX
    rw [if_pos cm]
    exact t6 c3
  · have qi := (wa_c (v1 := v1) (v2 := v2) L).resolve_left cw
    obtain ⟨-, -, w5, w6⟩ := wa_i L qi
    have nm : ¬ v2 = -1 := fun q => by
      have := qi.2.1
      rw [q] at this
      exact absurd this (by decide)
    refine wq_eq q_118_64 (zr_o H (fun h1 H1 => wq_f nm (wq_gR H1.1 rfl (ra_J H1 (j := 38) (by omega) rfl (by omega) (by show _ < (528 : Int); omega) (wq_some (rJ_i ⟨0, H1, Or.inr ⟨rfl, ⟨ak, Or.inr cw⟩, ?_⟩⟩))))))
    unfold dlX
    rw [if_neg nm]
    exact (A.2.2.2 _ (by omega)).1
theorem c_slotOf (O : TO x τ h) (L : TL τ) : wq (vc lim (d + 2) 242 [aR (x + 19), aI v1, aI v2] h) (rI fun y h' => h' = h ∧ y = waI τ v1 v2) := by
  have z0 : (0 : Int32).toInt = 0 := rfl
  have z5 : (500 : Int32).toInt = 500 := rfl
  have no : ¬ ((0 ≤ v1.toInt ∧ v1.toInt < τ.1) ∧ 0 ≤ v2.toInt ∧ v2.toInt < (τ.2.2.1 5 v1.toInt.toNat).toInt) → wq (some (.inl (some (.inl (-1))), h)) (rI fun y h' => h' = h ∧ y = waI τ v1 v2) := fun q => wq_some (rI_i ⟨rfl, (if_neg q).symm⟩)
  refine wq_eq q_242_0 (tr_at O (fun vs => wq_cI (c_isAct O) ?_))
  rintro y h2 ⟨eh, q⟩
  rw [eh]
  have l200 := L.1.1
  rcases q with ⟨rfl, q⟩ | ⟨rfl, q⟩
  · exact wq_t rfl (no (fun k => q k.1))
  refine wq_f (by decide) (wq_if _ (fun c3 => no (by have := lt_i c3; omega)) (fun c3 => tr_R O (fun _ _ => rfl) (tr_I (j := 5) O (by omega) (i := v1.toInt.toNat) (by omega) (by omega) (wq_if _ (fun c4 => ?_) (fun c4 => no (by have := nlt_i c4; omega))))))
  have w3 := nlt_i c3
  have w4 := lt_i c4
  obtain ⟨w5, w6, w7, w8⟩ := wa_i (v1 := v1) (v2 := v2) L ⟨q, by omega, by omega⟩
  have l500 := L.1.2
  refine tr_R O (fun _ _ => rfl) (tr_I (j := 6) O (by omega) (i := v1.toInt.toNat) (by omega) (by omega) ?_)
  rw [← w5]
  exact wq_f (fun k => by have := lt_i k; omega) (wq_t (by rw [Int32.lt_iff_toInt_lt, z5]; omega) (wq_some (rI_i ⟨rfl, rfl⟩)))
theorem c_isAssign (O : TO x τ h) (l : τ.1 ≤ 200) : wq (vc lim (d + 2) 237 [aR (x + 19), aI v1] h) (rI fun y h' => h' = h ∧ ((y = 0 ∧ ¬ asK τ v1) ∨ (y = 1 ∧ asK τ v1))) := by
  refine wq_eq q_237_0 (tr_at O (fun vs => wq_cI (c_isAct O) ?_))
  rintro y h2 ⟨eh, q⟩
  rw [eh]
  rcases q with ⟨rfl, q⟩ | ⟨rfl, q⟩
  · exact wq_t rfl (wq_t (Or.inl rfl) (wq_some (rI_i ⟨rfl, Or.inl ⟨rfl, fun k => q k.1⟩⟩)))
  · refine wq_f (by decide) (tr_R O (fun _ _ => rfl) (tr_I (j := 0) O (by omega) (i := v1.toInt.toNat) (by omega) (by omega) (wq_if _ (fun c => ?_) (fun c => ?_))))
    · exact wq_t (Or.inr rfl) (wq_some (rI_i ⟨rfl, Or.inr ⟨rfl, q, c⟩⟩))
    · exact wq_t (Or.inl rfl) (wq_some (rI_i ⟨rfl, Or.inl ⟨rfl, fun k => c k.2⟩⟩))
def kdP (τ : TD) (v1 v2 : Int32) (h : ah_H) (z : ah_R) : Prop := (¬ dlK τ v1 v2 ∧ z = thZ 202 h) ∨ (dlK τ v1 v2 ∧ z = (.inl (some (.inr (.inl (dlX τ v1 v2)))), h))
theorem kq_delay (K : KI x (c, τ, (nS, PS, eS), (nU, U), nD, PD, eD) h) (L : TL τ) (hr : rm lim h) : wq (vc lim (d + 3) m_Code_delay [aR x, aI v1, aI v2] h) (kdP τ v1 v2 h) := by
  have O := KI_TO K
  obtain ⟨⟨⟨uc, nk, c1, -⟩, -⟩, -⟩ := id K
  have l200 := L.1.1
  have l500 := L.1.2
  have g26 : (v2 = -1 → ¬ asK τ v1) → wq (ah_val lim ah_P (d + 2) 19 26 [some (aR x), some (aI v1), some (aI v2), none] [] h) (kdP τ v1 v2 h) := by
    intro hn
    refine wq_eq q_19_26 (wq_gR c1 rfl (tr_at O (fun vs => wq_cI (c_slotOf O L) ?_)))
    rintro y h2 ⟨eh, rfl⟩
    rw [eh]
    refine wq_if _ (fun cw => z_th hr (Or.inl ⟨fun k => k.2.elim (fun q => hn q k.1) (fun q => q cw), rfl⟩)) (fun cw => ?_)
    have qi := (wa_c (v1 := v1) (v2 := v2) L).resolve_left cw
    obtain ⟨-, -, w5, w6⟩ := wa_i L qi
    have nm : ¬ v2 = -1 := fun q => by
      have := qi.2.1
      rw [q] at this
      exact absurd this (by decide)
    have ak : asK τ v1 := ⟨qi.1, by
      obtain ⟨-, -, -, q⟩ := L.2 v1.toInt.toNat (by have := qi.1; omega)
      rcases q with q | ⟨-, q⟩
      · exact q
      · have := qi.2
        rw [q] at this
        have : (0 : Int32).toInt = 0 := rfl
        omega⟩
    refine wq_gR c1 rfl (tr_R O (fun _ _ => rfl) (wq_lJ O.2.2.2.1 (ix_ge (by omega)) (show (cnA 500 τ.2.2.2.2.1)[(waI τ v1 v2).toInt.toNat]? = _ from cn_get (by omega)) (wq_some (Or.inr ⟨⟨ak, Or.inr cw⟩, ?_⟩))))
    rw [show dlX τ v1 v2 = τ.2.2.2.2.1 (waI τ v1 v2).toInt.toNat from if_neg nm]
  refine wq_eq q_19_0 (wq_if _ (fun cm => wq_gR c1 rfl (tr_at O (fun vs => wq_cI (c_isAssign O l200) ?_))) (fun cm => g26 (fun q => absurd q cm)))
  rintro y h2 ⟨eh, q⟩
  rw [eh]
  rcases q with ⟨rfl, q⟩ | ⟨rfl, q⟩
  · exact wq_t rfl (g26 (fun _ => q))
  · have q1 := q.1
    refine wq_f (by decide) (wq_gR c1 rfl (tr_R O (fun _ _ => rfl) (wq_lJ O.2.2.1 (ix_ge (by omega)) (show (cnA 200 τ.2.2.2.1)[v1.toInt.toNat]? = _ from cn_get (by omega)) (wq_some (Or.inr ⟨⟨q, Or.inl cm⟩, ?_⟩)))))
    rw [show dlX τ v1 v2 = τ.2.2.2.1 v1.toInt.toNat from if_pos cm]
end Ze
