/-! get and value, on both sides -/
theorem sh_1 {x : Int64} {k : Int32} (h0 : 0 ≤ k.toInt) (h1 : k.toInt < 64) : (shr x k &&& 1) = if tb x k.toInt.toNat = true then 1 else 0 := by
  have e : tb (shr x k) 0 = tb x k.toInt.toNat := by
    have := tb_shr (x := x) (k := 0) h0 h1
    exact this
  by_cases c : tb x k.toInt.toNat = true
  · rw [if_pos c]
    exact tb_and1.mpr (e.trans c)
  · rw [if_neg c]
    refine tb_ext fun j hj => ?_
    rw [tb_and, tb_0]
    have z : ∀ j, j < 64 → j ≠ 0 → tb 1 j = false := by decide
    by_cases j0 : j = 0
    · rw [j0, e, (Bool.not_eq_true _).mp c]
      rfl
    · rw [z j hj j0, Bool.and_false]
theorem el_cd {w : WD} {k : Int32} (h2 : ¬ wI w = 2) (h0 : 0 ≤ k.toInt) (h1 : k.toInt < 64) : pElem w k = cdW w k.toInt.toNat := by
  unfold pElem cdW
  rw [if_neg h2, sh_1 h0 h1, sh_1 h0 h1, sh_1 h0 h1, sh_1 h0 h1]
  have all : ∀ a b c d : Bool, ((((if a = true then (1 : Int64) else 0) ||| shl (if b = true then (1 : Int64) else 0) 1) ||| shl (if c = true then (1 : Int64) else 0) 2) ||| shl (if d = true then (1 : Int64) else 0) 3).toInt32 = cdI a b c d := by decide
  exact all _ _ _ _
section Zg
variable {lim : Nat × Nat} {d m x nS nU nD B n r : Nat} {c : SCR} {σ : rS} {bb : ah_H} {τ : TD} {PS PD : Nat → Nat} {eS eD : Nat → TS} {U : Nat → UD} {h h' : ah_H} {v1 v2 v3 R : Int32} {Φ : ah_R → Prop} {w : WD}
abbrev hsE (w : WD) (k : Int32) : Prop := 0 ≤ k.toInt ∧ k.toInt < (wL w).toInt
theorem r_lacks (H : RH m σ bb h) (hR : R.toInt = r) (hr : r < 10100) (q : RW σ r w) (W : WF w) : wq (vc lim (d + 1) 31 [aR m, aI R, aI v2] h) (rI fun y h' => h' = h ∧ ((y = 0 ∧ hsE w v2) ∨ (y = 1 ∧ ¬ hsE w v2))) := by
  have z0 : (0 : Int32).toInt = 0 := rfl
  have z1 : (1 : Int32).toInt = 1 := rfl
  refine wq_eq q_31_0 (wq_if _ (fun c0 => ?_) (fun c0 => rd0' H hR hr q.1 (wq_if _ (fun c1 => rd1' H hR hr (q.2.2.2 c1).1 (wq_if _ (fun c2 => ?_) (fun c2 => ?_))) (fun c1 => wq_if _ (fun c2 => ?_) (fun c2 => ?_)))))
  · exact wq_t (Or.inr rfl) (wq_some (rI_i ⟨rfl, Or.inr ⟨rfl, fun k => by have := lt_i c0; have := k.1; omega⟩⟩))
  · exact wq_t (Or.inl rfl) (wq_some (rI_i ⟨rfl, Or.inl ⟨rfl, by have := nlt_i c0; omega, lt_i c2⟩⟩))
  · exact wq_t (Or.inr rfl) (wq_some (rI_i ⟨rfl, Or.inr ⟨rfl, fun k => by have := nlt_i c2; have := k.2; omega⟩⟩))
  · have l1 := W.2.2.1 c1
    exact wq_t (Or.inl rfl) (wq_some (rI_i ⟨rfl, Or.inl ⟨rfl, by have := nlt_i c0; omega, by rw [l1]; exact lt_i c2⟩⟩))
  · have l1 := W.2.2.1 c1
    exact wq_t (Or.inr rfl) (wq_some (rI_i ⟨rfl, Or.inr ⟨rfl, fun k => by have := nlt_i c2; have := k.2; rw [l1] at this; omega⟩⟩))
theorem r_told (H : RH m σ bb h) (hR : R.toInt = r) (hr : r < 10100) (q : RW σ r w) (W : WF w) (hk : hsE w v2) : wq (vc lim (d + 2) 33 [aR m, aI R, aI v2] h) (rI fun y h' => h' = h ∧ y = pElem w v2) := by
  have wl := W.2.1
  have z1 : (1 : Int32).toInt = 1 := rfl
  refine wq_eq q_33_0 (rd0' H hR hr q.1 (wq_if _ (fun c1 => ?_) (fun c1 => ?_)))
  · refine wq_at H.1 (wq_cI (r_element H hR hr hk.1 (by omega)) ?_)
    rintro y h2 ⟨eh, rfl⟩
    rw [eh]
    refine wq_some (rI_i ⟨rfl, ?_⟩)
    rw [el_cd (by rw [c1]; decide) hk.1 (by omega)]
    exact (q.2.2.2 c1).2.2 _ (by omega)
  · refine wq_gR H.1 rfl (rd4 H hR hr (wq_some (rI_i ⟨rfl, ?_⟩)))
    by_cases c2 : wI w = 2
    · rw [(q.2.1 c2).2]
      exact (if_pos c2).symm
    · have c0 : wI w = 0 := by
        rcases W.1 with k | k | k
        · exact k
        · exact absurd k c1
        · exact absurd k c2
      have l1 := W.2.2.1 c1
      have k0 : v2.toInt.toNat = 0 := by
        have := hk.2
        rw [l1] at this
        omega
      rw [(q.2.2.1 c0).2, l_64i cdW_bd.1 (by have := cdW_bd (w := w) (k := 0); omega), el_cd c2 hk.1 (by omega), k0]
theorem c_hasEl2 {t : Nat} {s : TS} (T : TC t s h) : wq (vc lim (d + 1) m_Thing_hasElement [aR t, aI v2] h) (rI fun y h' => h' = h ∧ ((y = 1 ∧ hsE s.1 v2) ∨ (y = 0 ∧ ¬ hsE s.1 v2))) := by
  have z0 : (0 : Int32).toInt = 0 := rfl
  refine wq_eq e_Thing_hasElement (wq_if _ (fun c0 => wq_t (Or.inl rfl) (wq_some (rI_i ⟨rfl, Or.inr ⟨rfl, fun k => by have := lt_i c0; have := k.1; omega⟩⟩))) (fun c0 => wq_gI T.1 rfl (wq_if _ (fun c1 => wq_t (Or.inr rfl) (wq_some (rI_i ⟨rfl, Or.inl ⟨rfl, by have := nlt_i c0; omega, lt_i c1⟩⟩))) (fun c1 => wq_t (Or.inl rfl) (wq_some (rI_i ⟨rfl, Or.inr ⟨rfl, fun k => by have := nlt_i c1; have := k.2; omega⟩⟩))))))
/-- what get asks -/
abbrev gtK (nS : Nat) (eS : Nat → TS) (v1 v2 : Int32) : Prop := (0 ≤ v1.toInt ∧ v1.toInt < nS) ∧ hsE (eS v1.toInt.toNat).1 v2
theorem r_get (H : RH m σ bb h) (SG : SGx nS eS σ) (h7 : (σ.1 7).toInt = nS) : wq (vc lim (d + 3) m_Ref_get [aR m, aI v1, aI v2] h) (rI fun y h' => ∃ e : Int32, RH m (sG σ 0 e) bb h' ∧ ((e = 1 ∧ ¬ gtK nS eS v1 v2) ∨ (e = 0 ∧ gtK nS eS v1 v2 ∧ y = pElem (eS v1.toInt.toNat).1 v2))) := by
  have z0 : (0 : Int32).toInt = 0 := rfl
  have l5 := SG.1
  have bad : ¬ gtK nS eS v1 v2 → wq (ah_val lim ah_P (d + 2) 37 22 [some (aR m), some (aI v1), some (aI v2)] [aR m] h) (rI fun y h' => ∃ e : Int32, RH m (sG σ 0 e) bb h' ∧ ((e = 1 ∧ ¬ gtK nS eS v1 v2) ∨ (e = 0 ∧ gtK nS eS v1 v2 ∧ y = pElem (eS v1.toInt.toNat).1 v2))) := fun nk => wq_eq q_37_22 (zr_e (K := none) H (by decide) (fun h1 H1 => wq_some (rI_i ⟨1, H1, Or.inl ⟨rfl, nk⟩⟩)))
  refine wq_eq q_37_0 (wq_if _ (fun c0 => bad (fun k => by have := lt_i c0; have := k.1; omega)) (fun c0 => wq_gI H.1 rfl (wq_if _ (fun c1 => ?_) (fun c1 => bad (fun k => by have := nlt_i c1; have := k.1; omega)))))
  have w0 := nlt_i c0
  have w1 := lt_i c1
  obtain ⟨⟨q1, -, q3, -⟩, -⟩ := SG.2 v1.toInt.toNat (by omega)
  refine wq_at H.1 (wq_cI (r_lacks (r := v1.toInt.toNat) H (by omega) (by omega) q1 q3) ?_)
  rintro y h2 ⟨eh, q⟩
  rw [eh]
  rcases q with ⟨rfl, q⟩ | ⟨rfl, q⟩
  · refine wq_t rfl (zr_o H (fun h1 H1 => wq_at H1.1 (wq_cI (r_told (r := v1.toInt.toNat) H1 (by omega) (by omega) (RW_e q1 rfl rfl rfl (fun _ _ => rfl) q3) q3 q) ?_)))
    rintro y h2 ⟨eh, rfl⟩
    rw [eh]
    exact wq_some (rI_i ⟨0, H1, Or.inr ⟨rfl, ⟨by omega, q⟩, rfl⟩⟩)
  · exact wq_f (by decide) (bad (fun k => q k.2))
theorem kq_get (K : KI x (c, τ, (nS, PS, eS), (nU, U), nD, PD, eD) h) (hr : rm lim h) : wq (vc lim (d + 2) m_Code_get [aR x, aI v1, aI v2] h) (fun z => (¬ gtK nS eS v1 v2 ∧ z = thZ 202 h) ∨ (gtK nS eS v1 v2 ∧ z = (.inl (some (.inl (pElem (eS v1.toInt.toNat).1 v2))), h))) := by
  obtain ⟨⟨⟨uc, nk, c1, c2⟩, -⟩, k2, k3, k4, k5, s0, -⟩ := id K
  have k3 : THs (x + 1) nS PS eS h := k3
  have k31 := k3.1
  obtain ⟨rw1, ls1, cc1, et, -⟩ := k31
  refine wq_eq q_8_0 (wq_gR c1 rfl (wq_at et (wq_cR (c_pick k3.1) ?_)))
  rintro r3 h2 ⟨eh, er⟩
  rw [eh]
  by_cases hi : 0 ≤ v1.toInt ∧ v1.toInt < nS
  · rw [if_pos hi] at er
    subst er
    have T := k3.2 v1.toInt.toNat (by omega)
    refine wq_f (Option.some_ne_none _) (wq_at T.1 (wq_cI (c_hasEl2 T) ?_))
    rintro y h3 ⟨eh, q⟩
    rw [eh]
    rcases q with ⟨rfl, q⟩ | ⟨rfl, q⟩
    · refine wq_f (by decide) (wq_gR T.1 rfl (wq_at T.2.1 (wq_cI (c_element T.2.1) ?_)))
      rintro y h4 ⟨eh, rfl⟩
      rw [eh]
      exact wq_some (Or.inr ⟨⟨hi, q⟩, rfl⟩)
    · exact wq_t rfl (z_th hr (Or.inl ⟨fun k => q k.2, rfl⟩))
  · rw [if_neg hi] at er
    subst er
    exact wq_t rfl (z_th hr (Or.inl ⟨fun k => hi k.1, rfl⟩))
end Zg
