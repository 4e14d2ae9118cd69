/-! THE REFERENCE LOOKS OVER: what it says is what the class says -/
section Ll
variable {lim : Nat × Nat} {m d : Nat} {σ : rS} {b h : ah_H} {v c i w k : Int32} {P Q R : Prop} {Φ : ah_R → Prop}
theorem isX_k (h : isX k.toInt) : k = 2 ∨ k = 3 ∨ k = 4 ∨ k = 20 ∨ k = 21 ∨ k = 80 ∨ k = 81 ∨ k = 82 ∨ k = 83 ∨ k = 84 ∨ k = 85 := by
  unfold isX at h
  rcases h with h | h | h | h | h | ⟨h1, h2⟩
  · exact Or.inl (i32_of h rfl)
  · exact Or.inr (Or.inl (i32_of h rfl))
  · exact Or.inr (Or.inr (Or.inl (i32_of h rfl)))
  · exact Or.inr (Or.inr (Or.inr (Or.inl (i32_of h rfl))))
  · exact Or.inr (Or.inr (Or.inr (Or.inr (Or.inl (i32_of h rfl)))))
  · have : k.toInt = 80 ∨ k.toInt = 81 ∨ k.toInt = 82 ∨ k.toInt = 83 ∨ k.toInt = 84 ∨ k.toInt = 85 := by omega
    refine Or.inr (Or.inr (Or.inr (Or.inr (Or.inr ?_))))
    rcases this with h | h | h | h | h | h
    · exact Or.inl (i32_of h rfl)
    · exact Or.inr (Or.inl (i32_of h rfl))
    · exact Or.inr (Or.inr (Or.inl (i32_of h rfl)))
    · exact Or.inr (Or.inr (Or.inr (Or.inl (i32_of h rfl))))
    · exact Or.inr (Or.inr (Or.inr (Or.inr (Or.inl (i32_of h rfl)))))
    · exact Or.inr (Or.inr (Or.inr (Or.inr (Or.inr (i32_of h rfl)))))
def vaP (k : Int32) : Prop := k = 2 ∨ k = 3 ∨ k = 20 ∨ k = 21 ∨ k = 30 ∨ k = 32 ∨ k = 80 ∨ k = 81 ∨ k = 84 ∨ k = 85
theorem ft_i (hT : cT σ v) : fnR σ v ↔ fnE σ v (mO σ v) := ⟨fun q => ⟨q.1, q.2.1, hT (Or.inl q.2.1), q.2.2⟩, fun q => ⟨q.1, q.2.1, q.2.2.2⟩⟩
theorem ex_eq (hk : kO σ v = k) (hX : isX k.toInt) (hg : ¬ vaP k → gO σ v = 0) (hT : cT σ v) : exR σ v k ↔ exB σ v k := by
  have z0 : (0 : Int32).toInt = 0 := rfl
  have z1 : (1 : Int32).toInt = 1 := rfl
  have z64 : (64 : Int32).toInt = 64 := rfl
  rcases isX_k hX with rfl | rfl | rfl | rfl | rfl | rfl | rfl | rfl | rfl | rfl | rfl
  · exact Iff.rfl
  · exact (show (mO σ v = 0 ∧ ¬ gO σ v < 0 ∧ gO σ v ≤ 8) ↔ (mO σ v = 0 ∧ wi 0 8 (gO σ v)) from ⟨fun q => ⟨q.1, wi_i.mp q.2⟩, fun q => ⟨q.1, wi_i.mpr q.2⟩⟩)
  · have g := hg (by unfold vaP; decide)
    refine (show (¬ mO σ v ≤ 0 ∧ mO σ v ≤ 64 ∧ kA σ v 0 (fun k => k = 3)) ↔ (gO σ v = 0 ∧ wi 1 64 (mO σ v) ∧ kA σ v 0 (fun k => k = 3)) from ⟨fun q => ⟨g, ⟨?_, le_i q.2.1⟩, q.2.2⟩, fun q => ⟨fun c => ?_, Int32.le_iff_toInt_le.mpr q.2.1.2, q.2.2⟩⟩)
    · have := nle_i q.1
      omega
    · have := le_i c
      have := q.2.1.1
      omega
  · exact (show (mO σ v = 1 ∧ ¬ gO σ v < 0 ∧ gO σ v ≤ 3 ∧ isX (kO σ (cO σ v 0)).toInt) ↔ (wi 0 3 (gO σ v) ∧ mO σ v = 1 ∧ isX (kO σ (cO σ v 0)).toInt) from ⟨fun q => ⟨wi_i.mp ⟨q.2.1, q.2.2.1⟩, q.1, q.2.2.2⟩, fun q => ⟨q.2.1, (wi_i.mpr q.1).1, (wi_i.mpr q.1).2, q.2.2⟩⟩)
  · exact (show (mO σ v = 2 ∧ ¬ gO σ v < 0 ∧ gO σ v ≤ 20 ∧ isX (kO σ (cO σ v 0)).toInt ∧ isX (kO σ (cO σ v 1)).toInt) ↔ (wi 0 20 (gO σ v) ∧ mO σ v = 2 ∧ isX (kO σ (cO σ v 0)).toInt ∧ isX (kO σ (cO σ v 1)).toInt) from ⟨fun q => ⟨wi_i.mp ⟨q.2.1, q.2.2.1⟩, q.1, q.2.2.2⟩, fun q => ⟨q.2.1, (wi_i.mpr q.1).1, (wi_i.mpr q.1).2, q.2.2⟩⟩)
  · refine (show (mO σ v = 0 ∧ ¬ gO σ v < 0 ∧ gO σ v < σ.1 7) ↔ (mO σ v = 0 ∧ tOK σ v) from ⟨fun q => ⟨q.1, Or.inl ⟨hk, nlt_i q.2.1, lt_i q.2.2⟩⟩, fun q => ?_⟩)
    obtain ⟨q0, ⟨-, q1, q2⟩ | ⟨q1, -⟩⟩ := q
    · exact ⟨q0, fun c => by have := lt_i c; omega, Int32.lt_iff_toInt_lt.mpr q2⟩
    · exact absurd (hk.symm.trans q1) (by decide)
  · refine (show (mO σ v = 0 ∧ ¬ gO σ v < 0 ∧ gO σ v < σ.1 9) ↔ (mO σ v = 0 ∧ tOK σ v) from ⟨fun q => ⟨q.1, Or.inr ⟨hk, nlt_i q.2.1, lt_i q.2.2⟩⟩, fun q => ?_⟩)
    obtain ⟨q0, ⟨q1, -⟩ | ⟨-, q1, q2⟩⟩ := q
    · exact absurd (hk.symm.trans q1) (by decide)
    · exact ⟨q0, fun c => by have := lt_i c; omega, Int32.lt_iff_toInt_lt.mpr q2⟩
  · have g := hg (by unfold vaP; decide)
    exact (show (mO σ v = 2 ∧ (tOK σ (cO σ v 0) ∧ tF σ (cO σ v 0) 0 = 1) ∧ isX (kO σ (cO σ v 1)).toInt) ↔ (gO σ v = 0 ∧ mO σ v = 2 ∧ (tOK σ (cO σ v 0) ∧ tF σ (cO σ v 0) 0 = 1) ∧ isX (kO σ (cO σ v 1)).toInt) from ⟨fun q => ⟨g, q⟩, fun q => q.2⟩)
  · have g := hg (by unfold vaP; decide)
    refine (show (mO σ v = 3 ∧ (tOK σ (cO σ v 0) ∧ tF σ (cO σ v 0) 0 = 1) ∧ kO σ (cO σ v 1) = 2 ∧ kO σ (cO σ v 2) = 2 ∧ ¬ gO σ (cO σ v 1) < 0 ∧ ¬ gO σ (cO σ v 2) < 1 ∧ (lg_cmp ((gO σ (cO σ v 1)).toInt64 + (gO σ (cO σ v 2)).toInt64) (tF σ (cO σ v 0) 1).toInt64) ≤ 0) ↔ (gO σ v = 0 ∧ mO σ v = 3 ∧ paP σ v) from ?_)
    rw [lg_iff]
    constructor
    · rintro ⟨q0, ⟨q1, q2⟩, q3, q4, q5, q6, q7⟩
      have q5 := nlt_i q5
      have q6 := nlt_i q6
      exact ⟨g, q0, q1, q2, q3, q4, by omega, by omega, by omega⟩
    · rintro ⟨-, q0, q1, q2, q3, q4, q5, q6, q7⟩
      exact ⟨q0, ⟨q1, q2⟩, q3, q4, fun c => by have := lt_i c; omega, fun c => by have := lt_i c; omega, by omega⟩
  · refine (show (if gO σ v = 8 then fnR σ v else if gO σ v = 9 then fnR σ v else if gO σ v = 10 then mO σ v = 1 ∧ isX (kO σ (cO σ v 0)).toInt else gO σ v = 11 ∧ mO σ v = 2 ∧ isX (kO σ (cO σ v 0)).toInt ∧ kO σ (cO σ v 1) = 2 ∧ ¬ gO σ (cO σ v 1) < 1 ∧ gO σ (cO σ v 1) ≤ 64) ↔ (if gO σ v = 8 ∨ gO σ v = 9 then fnE σ v (mO σ v) else if gO σ v = 10 then mO σ v = 1 ∧ isX (kO σ (cO σ v 0)).toInt else if gO σ v = 11 then mO σ v = 2 ∧ isX (kO σ (cO σ v 0)).toInt ∧ kO σ (cO σ v 1) = 2 ∧ 1 ≤ (gO σ (cO σ v 1)).toInt ∧ (gO σ (cO σ v 1)).toInt ≤ 64 else False) from ?_)
    by_cases c8 : gO σ v = 8
    · rw [if_pos c8, if_pos (Or.inl c8)]
      exact ft_i hT
    by_cases c9 : gO σ v = 9
    · rw [if_neg c8, if_pos c9, if_pos (Or.inr c9)]
      exact ft_i hT
    rw [if_neg c8, if_neg c9, if_neg (show ¬ (gO σ v = 8 ∨ gO σ v = 9) from fun q => q.elim c8 c9)]
    by_cases c10 : gO σ v = 10
    · rw [if_pos c10, if_pos c10]
    rw [if_neg c10, if_neg c10]
    by_cases c11 : gO σ v = 11
    · rw [if_pos c11]
      constructor
      · rintro ⟨-, q1, q2, q3, q4, q5⟩
        have q4 := nlt_i q4
        have q5 := le_i q5
        exact ⟨q1, q2, q3, by omega, by omega⟩
      · rintro ⟨q1, q2, q3, q4, q5⟩
        exact ⟨c11, q1, q2, q3, fun c => by have := lt_i c; omega, Int32.le_iff_toInt_le.mpr (by omega)⟩
    · rw [if_neg c11]
      exact ⟨fun q => c11 q.1, fun q => q.elim⟩
  · exact (show (mO σ v = 1 ∧ ¬ gO σ v < 15 ∧ gO σ v ≤ 17 ∧ kO σ (cO σ v 0) = 80) ↔ (wi 15 17 (gO σ v) ∧ mO σ v = 1 ∧ kO σ (cO σ v 0) = 80) from ⟨fun q => ⟨wi_i.mp ⟨q.2.1, q.2.2.1⟩, q.1, q.2.2.2⟩, fun q => ⟨q.2.1, (wi_i.mpr q.1).1, (wi_i.mpr q.1).2, q.2.2⟩⟩)
/-! statements -/
theorem q_551 (b0 : bo P c) (b1 : bo Q i) : wq (ah_val lim ah_P d 57 551 [none, none, some (.inl w), none, none, none, some (.inl c), some (.inl i), none, none] [] h) (rI fun x h' => h' = h ∧ bo (w = 2 ∧ P ∧ Q) x) := wq_eq q_57_551 (an_if (fun _ => an_z b0 (fun _ => fi_z b1)))
theorem w_214 (H : RH m σ b h) (D : DI σ) (h0 : 0 ≤ v.toInt) (h1 : v.toInt < (σ.1 19).toInt) : wq (ah_val lim ah_P (d + 1) 57 214 [some (.inr (.inr (some m))), none, none, none, some (.inl (cO σ v 1)), some (.inl (cO σ v 2)), none, none, some (.inl (gO σ v)), none] [] h) (rI fun x h' => h' = h ∧ bo (kA σ v (if gO σ v = 2 then 2 else 1) (fun k => k = 31)) x) := by
  refine wq_eq q_57_214 (wq_if _ (fun c => ?_) (fun c => ?_))
  · rw [if_pos c]
    exact wq_at H.1 (fi_cI (w_all H D h0 h1 2))
  · rw [if_neg c]
    exact wq_at H.1 (fi_cI (w_all H D h0 h1 1))
theorem w_159 (H : RH m σ b h) (O : OKV σ) (D : DI σ) (h0 : 0 ≤ v.toInt) (h1 : v.toInt < (σ.1 19).toInt) {f : Int32} (hf : f = if gO σ v = 2 then 2 else 1) : wq (ah_val lim ah_P (d + 3) 57 159 [some (.inr (.inr (some m))), none, some (.inl (mO σ v)), some (.inl (cO σ v 0)), some (.inl (cO σ v 1)), some (.inl (cO σ v 2)), none, none, some (.inl (gO σ v)), none] [.inl f] h) (rI fun x h' => h' = h ∧ bo (asP σ v f) x) := by
  have hd : dN σ v := Or.inr ⟨h0, h1⟩
  have k0 := dN_ch D hd 0
  have k1 := dN_ch D hd 1
  have e0 : (0 : Int32).toInt = 0 := rfl
  have e2 : (2 : Int32).toInt = 2 := rfl
  have e16 : (16 : Int32).toInt = 16 := rfl
  obtain ⟨b0, b1⟩ := mO_b D hd
  have ff : 0 ≤ f.toInt ∧ f.toInt ≤ 2 := by
    rw [hf]
    by_cases c : gO σ v = 2
    · rw [if_pos c]
      decide
    · rw [if_neg c]
      decide
  have ea : (f + (16 : Int32)).toInt = f.toInt + 16 := by rw [ad_i (by omega) (by omega), e16]
  have fn : f.toInt.toNat = if gO σ v = 2 then 2 else 1 := by
    rw [hf]
    by_cases c : gO σ v = 2
    · rw [if_pos c, if_pos c]
      rfl
    · rw [if_neg c, if_neg c]
      rfl
  have f1 : gO σ v < 2 ∨ gO σ v = 2 → (gO σ v < 2 ↔ f = 1) := by
    intro q
    rw [hf]
    by_cases c : gO σ v = 2
    · rw [if_pos c]
      refine ⟨fun g => ?_, fun g => absurd g (by decide)⟩
      have := lt_i g
      rw [c] at this
      omega
    · rw [if_neg c]
      exact ⟨fun _ => rfl, fun _ => q.resolve_right c⟩
  have last : wq (if gO σ v < (2 : Int32) then ah_val lim ah_P (d + 3) 57 214 [some (.inr (.inr (some m))), none, none, none, some (.inl (cO σ v 1)), some (.inl (cO σ v 2)), none, none, some (.inl (gO σ v)), none] [] h else ah_at h (some m) 11 fun _ _ => ah_cI (vc lim (d + 3) 44 [.inr (.inr (some m)), .inl (cO σ v 1)] h) (nx h) fun i4 h3 => if i4 = (32 : Int32) then ah_val lim ah_P (d + 3) 57 214 [some (.inr (.inr (some m))), none, none, none, some (.inl (cO σ v 1)), some (.inl (cO σ v 2)), none, none, some (.inl (gO σ v)), none] [] h3 else if (0 : Int32) = 0 ∨ (0 : Int32) = 1 then some (.inl (some (.inl (0 : Int32))), h3) else none) (rI fun x h' => h' = h ∧ bo ((gO σ v < 2 ∨ kO σ (cO σ v 1) = 32) ∧ kA σ v (if gO σ v = 2 then 2 else 1) (fun k => k = 31)) x) := by
    refine wq_if _ (fun c => bo_c (w_214 H D h0 h1) ⟨fun q => ⟨Or.inl c, q⟩, fun q => q.2⟩) (fun c => w_kd H O D k1 (bo_c (an_if (fun _ => w_214 H D h0 h1)) ⟨fun q => ⟨Or.inr q.1, q.2⟩, fun q => ⟨q.1.resolve_left c, q.2⟩⟩))
  refine wq_eq q_57_159 (bo_c (na_if (fun _ => an_if (fun _ => na_if (fun _ => an_if (fun _ => wq_at H.1 (an_cI (w_aims H O D k0 (Or.inl rfl)) (fun _ => last))))))) ?_)
  rw [← fn]
  constructor
  · rintro ⟨q1, q2, q3, q4, q5, q6, q7⟩
    have q1 := nlt_i q1
    have q2 := le_i q2
    have q3 := nle_i q3
    have q4 := le_i q4
    have g2 : gO σ v < 2 ∨ gO σ v = 2 := by
      by_cases c : gO σ v = 2
      · exact Or.inr c
      · have := ne_i c
        exact Or.inl (Int32.lt_iff_toInt_lt.mpr (by omega))
    exact ⟨⟨by omega, by omega⟩, q5, q6.imp (f1 g2).mp id, by omega, by omega, q7⟩
  · rintro ⟨⟨q1, q2⟩, q3, q4, q5, q6, q7⟩
    have g2 : gO σ v < 2 ∨ gO σ v = 2 := by
      by_cases c : gO σ v = 2
      · exact Or.inr c
      · have := ne_i c
        exact Or.inl (Int32.lt_iff_toInt_lt.mpr (by omega))
    exact ⟨fun c => by have := lt_i c; omega, Int32.le_iff_toInt_le.mpr (by omega), fun c => by have := le_i c; omega, Int32.le_iff_toInt_le.mpr (by omega), q3, q4.imp (f1 g2).mpr id, q7⟩
theorem w_314 (H : RH m σ b h) (O : OKV σ) (D : DI σ) (h0 : 0 ≤ v.toInt) (h1 : v.toInt < (σ.1 19).toInt) (s : (σ.1 7).toInt ≤ 512) (t : (σ.1 9).toInt ≤ 128) (hT : cT σ v) (b1 : bo (isX (kO σ (cO σ v 1)).toInt) i) : wq (ah_val lim ah_P (d + 3) 57 314 [some (.inr (.inr (some m))), some (.inl v), some (.inl (mO σ v)), some (.inl (cO σ v 0)), none, some (.inl (cO σ v 2)), none, some (.inl i), none, none] [] h) (rI fun x h' => h' = h ∧ bo (stA σ v) x) := by
  have hd : dN σ v := Or.inr ⟨h0, h1⟩
  have k0 := dN_ch D hd 0
  refine wq_eq q_57_314 (bo_c (Q := stA σ v) (an_if (fun _ => wq_at H.1 (an_cI (w_isObject H O D k0) (fun q => w_is H (nv_k D k0 q (by decide)) (hT (Or.inr q)) s t (an_if (fun _ => an_z b1 (fun _ => w_kd H O D (dN_ch D hd 2) (an_cI w_expression (fun _ => w_ch H O D h0 h1 (by decide) (wq_at H.1 (fi_cI (w_body H O D (dN_ch D hd 3))))))))))))) ?_)
  exact ⟨fun q => ⟨q.1, q.2.1, ⟨hT (Or.inr q.2.1), q.2.2.1⟩, q.2.2.2.1, q.2.2.2.2.1, q.2.2.2.2.2⟩, fun q => ⟨q.1, q.2.1, q.2.2.1.2, q.2.2.2.1, q.2.2.2.2.1, q.2.2.2.2.2⟩⟩
theorem w_423 (H : RH m σ b h) (O : OKV σ) (D : DI σ) (h0 : 0 ≤ v.toInt) (h1 : v.toInt < (σ.1 19).toInt) (b1 : bo (isX (kO σ (cO σ v 0)).toInt) i) : wq (ah_val lim ah_P (d + 3) 57 423 [some (.inr (.inr (some m))), some (.inl v), some (.inl (mO σ v)), some (.inl (cO σ v 0)), none, none, some (.inl i), none, none, none] [] h) (rI fun x h' => h' = h ∧ bo (stE σ v) x) := by
  have hd : dN σ v := Or.inr ⟨h0, h1⟩
  refine wq_eq q_57_423 (an_if (fun _ => wq_if _ (fun c => w_kd H O D (dN_ch D hd 0) (bo_c (an_if (fun _ => wq_at H.1 (fi_cI (w_inLoop H D h0 h1)))) ?_)) (fun c => wq_at H.1 (bo_c (fi_cI (w_inLoop H D h0 h1)) ?_))))
  · exact ⟨fun q => ⟨Or.inr q.1, q.2⟩, fun q => ⟨q.1.resolve_left (bo_n b1 c), q.2⟩⟩
  · exact ⟨fun q => ⟨Or.inl (bo_p b1 c), q⟩, fun q => q.2⟩
theorem w_499 (H : RH m σ b h) (O : OKV σ) (D : DI σ) (hc : dN σ c) : wq (ah_val lim ah_P (d + 1) 57 499 [some (.inr (.inr (some m))), none, none, none, none, some (.inl c), none, none, none, none] [] h) (rI fun x h' => h' = h ∧ bo (kO σ c = 32 ∨ kO σ c = 0) x) :=
  wq_eq q_57_499 (w_kd H O D hc (wq_if _ (fun c1 => r1 rfl (Or.inl c1)) (fun c1 => w_kd H O D hc (bo_c fi_if ⟨Or.inr, fun q => q.resolve_left c1⟩))))
theorem isS_n {w : Int} (e : k.toInt = w) (hS : isS k.toInt) (hw : ¬ isS w) : P := absurd (e ▸ hS) hw
theorem w_rightStatement (H : RH m σ b h) (O : OKV σ) (D : DI σ) (h0 : 0 ≤ v.toInt) (h1 : v.toInt < (σ.1 19).toInt) (s : (σ.1 7).toInt ≤ 512) (t : (σ.1 9).toInt ≤ 128) (hT : cT σ v) (hk : kO σ v = k) (hS : isS k.toInt) : wq (vc lim (d + 4) m_Ref_rightStatement [.inr (.inr (some m)), .inl v] h) (rI fun x h' => h' = h ∧ bo (if k = 30 then asP σ v (if gO σ v = 2 then 2 else 1) else stB σ v k) x) := by
  have hd : dN σ v := Or.inr ⟨h0, h1⟩
  have hv := dN_v D h0 h1
  have k0 := dN_ch D hd 0
  have k1 := dN_ch D hd 1
  have k2 := dN_ch D hd 2
  have e1 : (1 : Int32).toInt = 1 := rfl
  have e2 : (2 : Int32).toInt = 2 := rfl
  obtain ⟨m0, m1⟩ := mO_b D hd
  refine wq_eq e_Ref_rightStatement (w_r10 H hv (w_ch H O D h0 h1 (by decide) (w_ch H O D h0 h1 (by decide) (w_ch H O D h0 h1 (by decide) (w_kd H O D k0 (wq_cI w_expression ?_))))))
  rintro y0 h2 ⟨rfl, b0⟩
  refine w_kd H O D k1 (wq_cI w_expression ?_)
  rintro y1 h2 ⟨rfl, b1⟩
  refine w_r8 H hv ?_
  rw [hk]
  refine if_P (fun _ => w_r9 H hv (wq_if _ (fun c => ?_) (fun c => ?_))) (fun c30 => ?_)
  · rw [if_pos c]
    exact w_159 H O D h0 h1 (if_pos c).symm
  · rw [if_neg c]
    exact w_159 H O D h0 h1 (if_neg c).symm
  refine if_k (fun c => isS_n (congrArg Int32.toInt c) hS (by show ¬ isS 31; unfold isS; omega)) (fun _ => ?_)
  refine if_k (fun c => isS_n (congrArg Int32.toInt c) hS (by show ¬ isS 32; unfold isS; omega)) (fun _ => ?_)
  refine if_k (fun c => bo_c (an_if (fun _ => wq_at H.1 (an_cI (w_aims H O D k0 (Or.inr rfl)) (fun _ => fi_z b1)))) (by subst c; exact Iff.rfl)) (fun c33 => ?_)
  refine if_k (fun c => bo_c (na_if (fun _ => wq_at H.1 (fi_cI (w_rightBranch H O D h0 h1)))) (by subst c; exact rb_if D h0 h1)) (fun c34 => ?_)
  refine if_k (fun c => bo_c (na_if (fun _ => an_z b0 (fun _ => wq_at H.1 (fi_cI (w_all H D h0 h1 1))))) (by subst c; exact and_congr (show ¬ mO σ v ≤ 1 ↔ ¬ mO σ v < 2 from ⟨fun q c => q (Int32.le_iff_toInt_le.mpr (by have := lt_i c; omega)), fun q c => q (Int32.lt_iff_toInt_lt.mpr (by have := le_i c; omega))⟩) Iff.rfl)) (fun c35 => ?_)
  refine if_k (fun c => isS_n (congrArg Int32.toInt c) hS (by show ¬ isS 36; unfold isS; omega)) (fun _ => ?_)
  refine if_k (fun c => isS_n (congrArg Int32.toInt c) hS (by show ¬ isS 37; unfold isS; omega)) (fun _ => ?_)
  refine if_k (fun c => bo_c (w_314 H O D h0 h1 s t hT b1) (by subst c; exact Iff.rfl)) (fun c38 => ?_)
  refine if_k (fun c => bo_c (w_314 H O D h0 h1 s t hT b1) (by subst c; exact Iff.rfl)) (fun c39 => ?_)
  refine if_k (fun c => bo_c (an_if (fun _ => an_z b0 (fun _ => wq_at H.1 (fi_cI (w_body H O D k1))))) (by subst c; exact Iff.rfl)) (fun c40 => ?_)
  refine if_k (fun c => bo_c (an_if (fun _ => wq_at H.1 (fi_cI (w_body H O D k0)))) (by subst c; exact Iff.rfl)) (fun c41 => ?_)
  refine if_k (fun c => bo_c (w_423 H O D h0 h1 b0) (by subst c; exact Iff.rfl)) (fun c42 => ?_)
  refine if_k (fun c => bo_c (w_423 H O D h0 h1 b0) (by subst c; exact Iff.rfl)) (fun c43 => ?_)
  refine if_k (fun c => bo_c (P := mO σ v = 3 ∧ kO σ (cO σ v 0) = 48 ∧ kA σ (cO σ v 0) 0 (fun k => k = 80) ∧ (isX (kO σ (cO σ v 1)).toInt ∨ kO σ (cO σ v 1) = 0) ∧ (kO σ (cO σ v 2) = 32 ∨ kO σ (cO σ v 2) = 0)) (an_if (fun _ => w_kd H O D k0 (an_if (fun q => ?_)))) (by subst c; exact ⟨fun q => ⟨q.1, ⟨q.2.1, q.2.2.1⟩, q.2.2.2.1, q.2.2.2.2⟩, fun q => ⟨q.1, q.2.1.1, q.2.1.2, q.2.2.1, q.2.2.2⟩⟩)) (fun c44 => ?_)
  · have z0 := nv_k D k0 q (by decide)
    obtain z1 | ⟨z1, z2⟩ := k0
    · exact absurd z1 (ne_mD z0)
    refine w_r11 H z0 (wq_at H.1 (an_cI (w_all H D z1 z2 0) (fun _ => wq_if _ (fun c => w_kd H O D k1 (bo_c (an_if (fun _ => w_499 H O D k2)) ?_)) (fun c => bo_c (w_499 H O D k2) ?_))))
    · exact ⟨fun q => ⟨Or.inr q.1, q.2⟩, fun q => ⟨q.1.resolve_left (bo_n b1 c), q.2⟩⟩
    · exact ⟨fun q => ⟨Or.inl (bo_p b1 c), q⟩, fun q => q.2⟩
  refine if_k (fun c => bo_c fi_if (by subst c; exact Iff.rfl)) (fun c45 => ?_)
  refine if_k (fun c => bo_c (an_if (fun _ => fi_z b0)) (by subst c; exact Iff.rfl)) (fun c46 => ?_)
  have c47 : k = 47 := by
    have := ne_i c33
    have := ne_i c34
    have := ne_i c35
    have := ne_i c38
    have := ne_i c39
    have := ne_i c40
    have := ne_i c41
    have := ne_i c42
    have := ne_i c43
    have := ne_i c44
    have := ne_i c45
    have := ne_i c46
    have := ne_i c30
    have z : (30 : Int32).toInt = 30 ∧ (33 : Int32).toInt = 33 ∧ (34 : Int32).toInt = 34 ∧ (35 : Int32).toInt = 35 ∧ (38 : Int32).toInt = 38 ∧ (39 : Int32).toInt = 39 ∧ (40 : Int32).toInt = 40 ∧ (41 : Int32).toInt = 41 ∧ (42 : Int32).toInt = 42 ∧ (43 : Int32).toInt = 43 ∧ (44 : Int32).toInt = 44 ∧ (45 : Int32).toInt = 45 ∧ (46 : Int32).toInt = 46 := by decide
    refine i32_of (k := 47) ?_ rfl
    unfold isS at hS
    omega
  subst c47
  exact bo_c (q_551 b0 b1) Iff.rfl
theorem w_rightOther (H : RH m σ b h) (O : OKV σ) (D : DI σ) (h0 : 0 ≤ v.toInt) (h1 : v.toInt < (σ.1 19).toInt) (hk : kO σ v = k) (hS : ¬ isS k.toInt) : wq (vc lim (d + 4) m_Ref_rightOther [.inr (.inr (some m)), .inl v] h) (rI fun x h' => h' = h ∧ bo (if k = 32 then wi 1 1000000 (gO σ v) ∧ mO σ v = 1 ∧ isX (kO σ (cO σ v 0)).toInt else stB σ v k) x) := by
  have hd : dN σ v := Or.inr ⟨h0, h1⟩
  have hv := dN_v D h0 h1
  have k0 := dN_ch D hd 0
  have k1 := dN_ch D hd 1
  have z : (0 : Int32).toInt = 0 ∧ (1 : Int32).toInt = 1 := by decide
  refine wq_eq e_Ref_rightOther (w_r10 H hv (w_ch H O D h0 h1 (by decide) (w_ch H O D h0 h1 (by decide) (w_r8 H hv ?_))))
  rw [hk]
  refine if_k (fun c => bo_c fi_if (by subst c; exact Iff.rfl)) (fun c0 => ?_)
  refine if_k (fun c => bo_c (P := mO σ v = 2 ∧ isX (kO σ (cO σ v 0)).toInt ∧ (kO σ (cO σ v 1) = 32 ∨ kO σ (cO σ v 1) = 0)) (an_if (fun _ => w_kd H O D k0 (an_cI w_expression (fun _ => w_kd H O D k1 (wq_if _ (fun c2 => r1 rfl (Or.inr c2)) (fun c2 => w_kd H O D k1 (bo_c fi_if ⟨Or.inl, fun q => q.resolve_right c2⟩))))))) (by subst c; exact Iff.rfl)) (fun c31 => ?_)
  refine if_k (fun c => ?_) (fun c32 => ?_)
  · rw [if_pos c]
    exact bo_c (an_if (fun _ => w_r9 H hv (na_if (fun _ => w_r9 H hv (an_if (fun _ => w_kd H O D k0 (fi_cI w_expression))))))) ⟨fun q => ⟨wi_i.mp ⟨q.2.1, q.2.2.1⟩, q.1, q.2.2.2⟩, fun q => ⟨q.2.1, (wi_i.mpr q.1).1, (wi_i.mpr q.1).2, q.2.2⟩⟩
  rw [if_neg c32]
  refine if_k (fun c => bo_c (P := mO σ v = 2 ∧ kO σ (cO σ v 0) = 48 ∧ ¬ mO σ (cO σ v 0) = 0 ∧ isB σ (cO σ v 1) ∧ kA σ (cO σ v 0) 0 (fun k => isC k.toInt)) (an_if (fun _ => w_kd H O D k0 (an_if (fun q => ?_)))) ?_) (fun c36 => ?_)
  · have z0 := nv_k D k0 q (by decide)
    obtain z1 | ⟨z1, z2⟩ := k0
    · exact absurd z1 (ne_mD z0)
    refine w_r10 H z0 (na_if (fun _ => wq_at H.1 (an_cI (w_body H O D k1) (fun _ => w_r11 H z0 (b_n (wo_loop H _ 1 _ (ch_cD D z1 z2 0) (Or.inr rfl)) ?_)))))
    exact kA_al D z1 z2 0
  · obtain ⟨m0, m1⟩ := mO_b D k0
    subst c
    show _ ↔ (mO σ v = 2 ∧ (kO σ (cO σ v 0) = 48 ∧ 1 ≤ (mO σ (cO σ v 0)).toInt ∧ kA σ (cO σ v 0) 0 (fun k => isC k.toInt)) ∧ isB σ (cO σ v 1))
    refine ⟨fun q => ⟨q.1, ⟨q.2.1, ?_, q.2.2.2.2⟩, q.2.2.2.1⟩, fun q => ⟨q.1, q.2.1.1, fun g => ?_, q.2.2, q.2.1.2.2⟩⟩
    · have := ne_i q.2.2.1
      omega
    · have := q.2.1.2.1
      rw [g] at this
      omega
  refine if_k (fun c => bo_c fi_if (by subst c; exact Iff.rfl)) (fun c37 => ?_)
  refine w_r8 H hv (bo_c fi_if ?_)
  rw [hk]
  have n : ∀ w : Int32, isS w.toInt → ¬ k = w := fun w hw e => hS (by rw [e]; exact hw)
  have s33 : isS (33 : Int32).toInt := by show isS 33; unfold isS; omega
  have s34 : isS (34 : Int32).toInt := by show isS 34; unfold isS; omega
  have s35 : isS (35 : Int32).toInt := by show isS 35; unfold isS; omega
  have s38 : isS (38 : Int32).toInt := by show isS 38; unfold isS; omega
  have s39 : isS (39 : Int32).toInt := by show isS 39; unfold isS; omega
  have s40 : isS (40 : Int32).toInt := by show isS 40; unfold isS; omega
  have s41 : isS (41 : Int32).toInt := by show isS 41; unfold isS; omega
  have s42 : isS (42 : Int32).toInt := by show isS 42; unfold isS; omega
  have s43 : isS (43 : Int32).toInt := by show isS 43; unfold isS; omega
  have s44 : isS (44 : Int32).toInt := by show isS 44; unfold isS; omega
  have s45 : isS (45 : Int32).toInt := by show isS 45; unfold isS; omega
  have s46 : isS (46 : Int32).toInt := by show isS 46; unfold isS; omega
  have s47 : isS (47 : Int32).toInt := by show isS 47; unfold isS; omega
  unfold stB
  rw [if_neg c31, if_neg (n _ s33), if_neg (n _ s34), if_neg (n _ s35), if_neg c36, if_neg (fun q => q.elim (n _ s38) (n _ s39)), if_neg (n _ s40), if_neg (n _ s41), if_neg (fun q => q.elim (n _ s42) (n _ s43)), if_neg (n _ s44), if_neg (n _ s46), if_neg (n _ s47), if_neg (fun q => q.elim c0 (fun q => q.elim c37 (n _ s45)))]
theorem w_valued (H : RH m σ b h) : wq (vc lim (d + 1) m_Ref_valued [.inr (.inr (some m)), .inl k] h) (rI fun x h' => h' = h ∧ bo (vaP k) x) := by
  have y : vaP k → wq (ah_val lim ah_P d 54 58 [none, none] [] h) (rI fun x h' => h' = h ∧ bo (vaP k) x) := fun q => wq_eq q_54_58 (r1 rfl q)
  refine wq_eq e_Ref_valued ?_
  unfold vaP at y ⊢
  refine wq_if _ (fun c => y (Or.inl c)) (fun c1 => ?_)
  refine wq_if _ (fun c => y (Or.inr (Or.inl c))) (fun c2 => ?_)
  refine wq_if _ (fun c => y (Or.inr (Or.inr (Or.inl c)))) (fun c3 => ?_)
  refine wq_if _ (fun c => y (Or.inr (Or.inr (Or.inr (Or.inl c))))) (fun c4 => ?_)
  refine wq_if _ (fun c => y (Or.inr (Or.inr (Or.inr (Or.inr (Or.inl c)))))) (fun c5 => ?_)
  refine wq_if _ (fun c => y (Or.inr (Or.inr (Or.inr (Or.inr (Or.inr (Or.inl c))))))) (fun c6 => ?_)
  refine wq_if _ (fun c => y (Or.inr (Or.inr (Or.inr (Or.inr (Or.inr (Or.inr (Or.inl c)))))))) (fun c7 => ?_)
  refine wq_if _ (fun c => y (Or.inr (Or.inr (Or.inr (Or.inr (Or.inr (Or.inr (Or.inr (Or.inl c))))))))) (fun c8 => ?_)
  refine wq_if _ (fun c => y (Or.inr (Or.inr (Or.inr (Or.inr (Or.inr (Or.inr (Or.inr (Or.inr (Or.inl c)))))))))) (fun c9 => ?_)
  refine wq_if _ (fun c => y (Or.inr (Or.inr (Or.inr (Or.inr (Or.inr (Or.inr (Or.inr (Or.inr (Or.inr c)))))))))) (fun c10 => r0 rfl ?_)
  rintro (q | q | q | q | q | q | q | q | q | q)
  · exact c1 q
  · exact c2 q
  · exact c3 q
  · exact c4 q
  · exact c5 q
  · exact c6 q
  · exact c7 q
  · exact c8 q
  · exact c9 q
  · exact c10 q
theorem w_right (H : RH m σ b h) (O : OKV σ) (D : DI σ) (h0 : 0 ≤ v.toInt) (h1 : v.toInt < (σ.1 19).toInt) (s : (σ.1 7).toInt ≤ 512) (t : (σ.1 9).toInt ≤ 128) (hT : cT σ v) : wq (vc lim (d + 5) m_Ref_right [.inr (.inr (some m)), .inl v] h) (rI fun x h' => h' = h ∧ bo (okN σ v.toInt) x) := by
  have hv := dN_v D h0 h1
  obtain ⟨k, hk⟩ : ∃ k, kO σ v = k := ⟨_, rfl⟩
  have ei : Int32.ofInt v.toInt = v := Int32.ofInt_toInt v
  have ok : okN σ v.toInt ↔ (ia σ 14 v.toInt.toNat ≤ 100 ∧ riP σ v) := by
    unfold okN
    rw [ei]
    exact and_congr ⟨fun q => Int32.le_iff_toInt_le.mpr q, fun q => le_i q⟩ Iff.rfl
  have x30 : ¬ isX (30 : Int32).toInt := by show ¬ isX 30; unfold isX; omega
  have x32 : ¬ isX (32 : Int32).toInt := by show ¬ isX 32; unfold isX; omega
  have s32 : ¬ isS (32 : Int32).toInt := by show ¬ isS 32; unfold isS; omega
  have s30 : isS (30 : Int32).toInt := by show isS 30; unfold isS; omega
  have go : (¬ vaP k → gO σ v = 0) → wq (ah_val lim ah_P (d + 4) 55 35 [some (.inr (.inr (some m))), some (.inl v)] [] h) (rI fun x h' => h' = h ∧ bo (riP σ v) x) := by
    intro hg
    refine wq_eq q_55_35 (w_r8 H hv (wq_cI w_expression ?_))
    rw [hk]
    rintro y h2 ⟨rfl, bx⟩
    unfold riP
    rw [hk]
    refine wq_if _ (fun c1 => w_r8 H hv (wq_cI w_statement ?_)) (fun c1 => wq_at H.1 (bo_c (fr_cI (w_rightExpression H O D h0 h1 s t hT)) ?_))
    · have nX := bo_n bx c1
      rw [hk]
      rintro y2 h2 ⟨rfl, bs⟩
      refine wq_if _ (fun c2 => wq_at H.1 (bo_c (fr_cI (w_rightOther H O D h0 h1 hk (bo_n bs c2))) ?_)) (fun c2 => wq_at H.1 (bo_c (fr_cI (w_rightStatement H O D h0 h1 s t hT hk (bo_p bs c2))) ?_))
      · have nS := bo_n bs c2
        have c30 : ¬ k = 30 := fun e => nS (by rw [e]; exact s30)
        by_cases c32 : k = 32
        · rw [if_pos c32, if_pos c32]
        · rw [if_neg c32, if_neg c32, if_neg c30]
          have g : gO σ v = 0 := hg (by
            unfold vaP
            rintro (q | q | q | q | q | q | q | q | q | q)
            · exact nX (by rw [q]; show isX 2; unfold isX; omega)
            · exact nX (by rw [q]; show isX 3; unfold isX; omega)
            · exact nX (by rw [q]; show isX 20; unfold isX; omega)
            · exact nX (by rw [q]; show isX 21; unfold isX; omega)
            · exact c30 q
            · exact c32 q
            · exact nX (by rw [q]; show isX 80; unfold isX; omega)
            · exact nX (by rw [q]; show isX 81; unfold isX; omega)
            · exact nX (by rw [q]; show isX 84; unfold isX; omega)
            · exact nX (by rw [q]; show isX 85; unfold isX; omega))
          exact ⟨fun q => ⟨fun n => absurd n nX, fun _ => ⟨g, q⟩⟩, fun q => (q.2 nX).2⟩
      · have yS := bo_p bs c2
        have c32 : ¬ k = 32 := fun e => s32 (by rw [← e]; exact yS)
        rw [if_neg c32]
        by_cases c30 : k = 30
        · rw [if_pos c30, if_pos c30]
        · rw [if_neg c30, if_neg c30]
          have g : gO σ v = 0 := hg (by
            unfold vaP
            rintro (q | q | q | q | q | q | q | q | q | q)
            · exact nX (by rw [q]; show isX 2; unfold isX; omega)
            · exact nX (by rw [q]; show isX 3; unfold isX; omega)
            · exact nX (by rw [q]; show isX 20; unfold isX; omega)
            · exact nX (by rw [q]; show isX 21; unfold isX; omega)
            · exact c30 q
            · exact c32 q
            · exact nX (by rw [q]; show isX 80; unfold isX; omega)
            · exact nX (by rw [q]; show isX 81; unfold isX; omega)
            · exact nX (by rw [q]; show isX 84; unfold isX; omega)
            · exact nX (by rw [q]; show isX 85; unfold isX; omega))
          exact ⟨fun q => ⟨fun n => absurd n nX, fun _ => ⟨g, q⟩⟩, fun q => (q.2 nX).2⟩
    · have yX := bo_p bx c1
      rw [hk, if_neg (fun e => x32 (by rw [← e]; exact yX)), if_neg (fun e => x30 (by rw [← e]; exact yX)), ex_eq hk yX hg hT]
      exact ⟨fun q => ⟨fun _ => q, fun n => absurd yX n⟩, fun q => q.1 yX⟩
  refine wq_eq e_Ref_right (wq_gR H.1 rfl (rd_d (p := 1000) H sm_0 hv (by omega) (bo_c (an_if (fun _ => w_r8 H hv (wq_at H.1 (wq_cI (w_valued H) ?_)))) ok.symm)))
  rw [hk]
  rintro y h2 ⟨rfl, bv⟩
  refine wq_if _ (fun c => w_r9 H hv (wq_if _ (fun c2 => go (fun _ => c2)) (fun c2 => r0 rfl (fun q => ?_)))) (fun c => go (fun n => absurd (bo_p bv c) n))
  have nv := bo_n bv c
  unfold riP at q
  rw [hk, if_neg (fun e => nv (by rw [e]; unfold vaP; decide)), if_neg (fun e => nv (by rw [e]; unfold vaP; decide))] at q
  by_cases yX : isX k.toInt
  · have q := q.1 yX
    rcases isX_k yX with rfl | rfl | rfl | rfl | rfl | rfl | rfl | rfl | rfl | rfl | rfl
    · exact nv (by unfold vaP; decide)
    · exact nv (by unfold vaP; decide)
    · exact c2 (show gO σ v = 0 ∧ wi 1 64 (mO σ v) ∧ kA σ v 0 (fun k => k = 3) from q).1
    · exact nv (by unfold vaP; decide)
    · exact nv (by unfold vaP; decide)
    · exact nv (by unfold vaP; decide)
    · exact nv (by unfold vaP; decide)
    · exact c2 (show gO σ v = 0 ∧ mO σ v = 2 ∧ (tOK σ (cO σ v 0) ∧ tF σ (cO σ v 0) 0 = 1) ∧ isX (kO σ (cO σ v 1)).toInt from q).1
    · exact c2 (show gO σ v = 0 ∧ mO σ v = 3 ∧ paP σ v from q).1
    · exact nv (by unfold vaP; decide)
    · exact nv (by unfold vaP; decide)
  · exact c2 (q.2 yX).1
end Ll
