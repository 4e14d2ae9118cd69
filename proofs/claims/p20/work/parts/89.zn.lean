/-! process in the reference: what stays -/
def psP (nD fv N B P : Nat) (dc da db : Nat → Int32) (σ : rS) (x : Int32) (σ' : rS) : Prop := (x < 0 ∧ σ' = sG (sG (sG σ 19 0) 21 0) 9 0) ∨ (¬ x < 0 ∧ ∃ τ, σ' = sG (sG (sG τ 19 0) 21 0) 9 0 ∧ sm (kpQ B N P fv nD) σ τ ∧ VMx fv nD dc da db τ ∧ byE τ ∧ ia τ 23 P = 0 ∧ (ia τ 16 P).toInt = B ∧ ∃ σ1, kpP σ σ1 B N P ∧ eqS σ1 τ)
section Zn
variable {lim : Nat × Nat} {d m N nD fv B P : Nat} {σ : rS} {bb : ah_H} {h : ah_H} {v1 : Int32} {dc da db : Nat → Int32}
theorem sq_124 {s0 : Int32} (H : RH m σ bb h) (hs : s0 < 0) : wq (ah_val lim ah_P (d + 5) 60 124 [some (aR m), none, none] [aI s0] h) (rI fun x h' => ∃ σ', RH m σ' bb h' ∧ psP nD fv N B P dc da db σ x σ') := wq_eq q_60_124 (wq_t hs (rw_I H (by omega) rfl (fun h1 H1 => rw_I H1 (by omega) rfl (fun h2 H2 => rw_I H2 (by omega) rfl (fun h3 H3 => wq_some (rI_i ⟨_, H3, Or.inl ⟨hs, rfl⟩⟩))))))
theorem sq_66 (H : RH m σ bb h) (R : RI σ) (hB0 : byE σ) (D : DRx nD dc da db σ) (h8 : (σ.1 8).toInt = fv) (h9 : (σ.1 9).toInt = nD) (f8 : fv + nD ≤ 8192) (h19 : (σ.1 19).toInt = N) (h22 : (σ.1 22).toInt + 4000 = B) (h23 : (σ.1 23).toInt = P) (hP : P < 64) (hA : (σ.1 22).toInt + (σ.1 19).toInt ≤ 20000) (h0 : 0 ≤ v1.toInt) (hl : v1.toInt ≤ (σ.1 19).toInt) : wq (ah_val lim ah_P (d + 5) 60 66 [some (aR m), some (aI v1), none] [] h) (rI fun x h' => ∃ σ', RH m σ' bb h' ∧ psP nD fv N B P dc da db σ x σ') := by
  obtain ⟨O, Di, A, ⟨Nn, V⟩, Pp⟩ := id R
  obtain ⟨n1, n2, n3, n4, n5, n6, n7, n8, n9, n10⟩ := id Nn
  obtain ⟨d1, d2, d3, d4, -⟩ := id Di
  have e0 : (0 : Int32).toInt = 0 := rfl
  have e1 : (1 : Int32).toInt = 1 := rfl
  have neg : ¬ σ.1 19 = 0 → -(σ.1 19) < (0 : Int32) := fun c => by
    have c : ¬ (σ.1 19).toInt = 0 := fun e => c (i32_of e rfl)
    rw [Int32.lt_iff_toInt_lt, Int32.toInt_neg, Int.bmod_eq_of_le (by omega) (by omega), e0]
    omega
  refine wq_eq q_60_66 (wq_gI H.1 rfl (wq_if _ (fun c => ?_) (fun c => ?_)))
  · have c := lt_i c
    refine sq_124 H ?_
    rw [Int32.lt_iff_toInt_lt, sb_i (by rw [li_m1]; omega) (by rw [li_m1]; omega), li_m1, e0]
    omega
  · refine wq_gI H.1 rfl (wq_if _ (fun c1 => ?_) (fun c1 => wq_gI H.1 rfl (wq_if _ (fun c3 => sq_124 H (by decide)) (fun c3 => wq_gI H.1 rfl (sq_124 H (neg c3))))))
    have c1 : (σ.1 21).toInt = 1 := congrArg Int32.toInt c1
    obtain ⟨r1, r2, r3, -, r5⟩ := Di.2.2.2.2.2 0 (by omega)
    obtain ⟨-, -, -, hck, -⟩ := DI_k Di r1 r2
    refine wq_gR H.1 rfl (ra_I H (by omega) rfl rfl (by decide) (by decide) (wq_at H.1 (wq_cI (v_body H O (sm_0 (Q := QR 1000)) (Or.inr ⟨r1, by show (ia σ 15 0).toInt < 24000; omega⟩) (fun _ => ⟨_, ck_chn (by omega) hck⟩)) ?_)))
    rintro y h5 ⟨eh, hy, hb⟩
    rw [eh]
    refine wq_if _ (fun c2 => wq_gI H.1 rfl (wq_if _ (fun c3 => sq_124 H (by decide)) (fun c3 => wq_gI H.1 rfl (sq_124 H (neg c3))))) (fun c2 => ?_)
    have ns : ¬ σ.1 23 < 0 := fun c => by have := lt_i c; omega
    refine wq_gI H.1 rfl (wq_eq q_60_124 (wq_f ns (wq_at H.1 (wq_cV (r_keep_2 (d := d + 2) (P := P) (B := B) (N := N) (fv := fv) H R hB0 D h8 h9 f8 h19 (by omega) h22 (by omega) h23 hP) fun h4 q4 => ?_))))
    obtain ⟨τ, H4, k1, k2, k3, k4, k5, k6⟩ := q4
    exact rw_I H4 (by omega) rfl (fun h1 H1 => rw_I H1 (by omega) rfl (fun h2 H2 => rw_I H2 (by omega) rfl (fun h3 H3 => wq_some (rI_i ⟨_, H3, Or.inr ⟨ns, τ, rfl, k1, k2, k3, k4, k5, k6⟩⟩))))
theorem sq_44 (H : RH m σ bb h) (R : RI σ) (hB0 : byE σ) (D : DRx nD dc da db σ) (h8 : (σ.1 8).toInt = fv) (h9 : (σ.1 9).toInt = nD) (f8 : fv + nD ≤ 8192) (h19 : (σ.1 19).toInt = N) (h22 : (σ.1 22).toInt + 4000 = B) (h23 : (σ.1 23).toInt = P) (hP : P < 64) (hA : (σ.1 22).toInt + (σ.1 19).toInt ≤ 20000) : ∀ (M : Nat) (v1 : Int32), ((σ.1 19).toInt - v1.toInt).toNat < M → 0 ≤ v1.toInt → v1.toInt ≤ (σ.1 19).toInt → (∀ c : Int, 0 ≤ c → c < v1.toInt → RT σ c) → wq (ah_val lim ah_P (d + 5) 60 44 [some (aR m), some (aI v1), none] [] h) (rI fun x h' => ∃ σ', RH m σ' bb h' ∧ psP nD fv N B P dc da db σ x σ') := by
  obtain ⟨O, Di, A, ⟨Nn, V⟩, Pp⟩ := id R
  obtain ⟨n1, n2, n3, n4, n5, n6, -⟩ := id Nn
  have d2 := Di.2.1
  have e1 : (1 : Int32).toInt = 1 := rfl
  intro M
  induction M with
  | zero => intros; omega
  | succ M ih =>
    intro v1 hM h0 h1 hT
    refine wq_eq q_60_44 (wq_gI H.1 rfl (wq_if _ (fun c => ?_) (fun c => sq_66 H R hB0 D h8 h9 f8 h19 h22 h23 hP hA h0 h1)))
    have c := lt_i c
    refine wq_at H.1 (wq_cI (v_right H O (sm_0 (Q := QR 1000)) Di h0 c (fun hv => RV_of R (hT _ hv.1 (DI_c Di h0 c 0 hv).2.1)) n2 n6) ?_)
    rintro y h2 ⟨eh, hy, hr⟩
    rw [eh]
    refine wq_if _ (fun c2 => sq_66 H R hB0 D h8 h9 f8 h19 h22 h23 hP hA h0 h1) (fun c2 => ?_)
    have hr := hr (hy.resolve_left c2)
    have e2 : (v1 + (1 : Int32)).toInt = v1.toInt + 1 := by rw [ad_i (by omega) (by omega), e1]
    refine ih _ (by omega) (by omega) (by omega) (fun c c0 c1 => ?_)
    by_cases e : c = v1.toInt
    · rw [e]
      exact hr
    · exact hT c c0 (by omega)
theorem r_process_s (H : RH m σ bb h) (R : RI σ) (hB0 : byE σ) (D : DRx nD dc da db σ) (h8 : (σ.1 8).toInt = fv) (h9 : (σ.1 9).toInt = nD) (f8 : fv + nD ≤ 8192) (h19 : (σ.1 19).toInt = N) (h22 : (σ.1 22).toInt + 4000 = B) (h23 : (σ.1 23).toInt = P) : wq (vc lim (d + 6) m_Ref_process [aR m] h) (rI fun x h' => ∃ σ', RH m σ' bb h' ∧ ((pF σ ∧ σ' = sG σ 0 1) ∨ (¬ pF σ ∧ psP nD fv N B P dc da db (sG σ 0 0) x σ'))) := by
  obtain ⟨n1, n2, n3, n4, n5, n6, n7, n8, n9, n10⟩ := R.2.2.2.1.1
  obtain ⟨d1, d2, -⟩ := R.2.1
  have e2 : (20000 : Int32).toInt = 20000 := rfl
  refine wq_eq e_Ref_process (wq_gI H.1 rfl (wq_if _ (fun c => zr_e (K := none) H (by decide) (fun h2 H2 => wq_some (rI_i ⟨_, H2, Or.inl ⟨Or.inl (congrArg Int32.toInt c), rfl⟩⟩))) (fun c => wq_gI H.1 rfl (wq_gI H.1 rfl (wq_if _ (fun c1 => ?_) (fun c1 => zr_e (K := none) H (by decide) (fun h2 H2 => wq_some (rI_i ⟨_, H2, Or.inl ⟨Or.inr ?_, rfl⟩⟩))))))))
  · have c : ¬ (σ.1 23).toInt = 64 := fun e => c (i32_of e rfl)
    have c1 := le_i c1
    rw [ad_i (by omega) (by omega), e2] at c1
    refine zr_o H (fun h2 H2 => ?_)
    have f : ∀ k, k ≠ 0 → (sG σ 0 0).1 k = σ.1 k := fun k hk => sG_ne hk
    refine wq_mono (sq_44 (σ := sG σ 0 0) (N := N) (B := B) (P := P) (fv := fv) (nD := nD) (dc := dc) (da := da) (db := db) H2 (RI_c R) hB0 D (by rw [f 8 (by omega)]; exact h8) (by rw [f 9 (by omega)]; exact h9) f8 (by rw [f 19 (by omega)]; exact h19) (by rw [f 22 (by omega)]; exact h22) (by rw [f 23 (by omega)]; exact h23) (by omega) (by rw [f 22 (by omega), f 19 (by omega)]; exact c1) 4001 0 (by rw [f 19 (by omega)]; show ((σ.1 19).toInt - 0).toNat < _; omega) (by decide) (by rw [f 19 (by omega)]; exact d1) (fun c c0 c1 => absurd c1 (by show ¬ c < 0; omega))) ?_
    rintro z ⟨x, h', rfl, σ', H', q⟩
    exact ⟨x, h', rfl, σ', H', Or.inr ⟨by unfold pF; omega, q⟩⟩
  · have c1 := nle_i c1
    rw [ad_i (by omega) (by omega), e2] at c1
    exact c1
end Zn
