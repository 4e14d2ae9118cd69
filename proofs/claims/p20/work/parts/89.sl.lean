/-! THE REFERENCE LOOKS OVER: branches -/
/-- branches from the j-th on -/
def rbP (σ : rS) : Nat → Nat → Int32 → Prop
  | 0, _, _ => True
  | l + 1, j, c => ((j % 2 = 1 ∨ nx1 σ c = -1) → isB σ c) ∧ (¬ (j % 2 = 1 ∨ nx1 σ c = -1) → isX (kO σ c).toInt) ∧ rbP σ l (j + 1) (nx1 σ c)
section Lk2
variable {lim : Nat × Nat} {m d : Nat} {σ : rS} {b h : ah_H} {v c i w : Int32} {P Q R : Prop} {Φ : ah_R → Prop}
theorem wr_loop {k : Int} (H : RH m σ b h) (O : OKV σ) (D : DI σ) (hk : k ≤ (σ.1 19).toInt) : ∀ (l : Nat) (v2 v3 v4 : Int32), ck σ k l v4.toInt → (v2 = 0 ∨ v2 = 1) → 0 ≤ v3.toInt → v3.toInt + l ≤ 50000 → wq (ah_val lim ah_P (d + 2) 58 12 [some (.inr (.inr (some m))), none, some (.inl v2), some (.inl v3), some (.inl v4), none] [] h) (rI fun x h' => h' = h ∧ bo (v2 = 1 ∧ rbP σ l v3.toInt.toNat v4) x) := by
  have d1 := D.2.1
  have e1 : (1 : Int32).toInt = 1 := rfl
  intro l
  induction l with
  | zero =>
    intro v2 v3 v4 hg h2 h3 h3'
    refine wq_eq q_58_12 (wq_t (eq_m1 hg) (wq_t h2 (wq_some (rI_i ⟨rfl, ?_⟩))))
    rcases h2 with rfl | rfl
    · exact bo_0 (fun q => absurd q.1 (by decide))
    · exact bo_1 ⟨rfl, trivial⟩
  | succ l ih =>
    intro v2 v3 v4 hg h2 h3 h3'
    obtain ⟨g1, gk, -, -, g2⟩ := hg
    have hd : dN σ v4 := Or.inr ⟨g1, by omega⟩
    have gv : vD v4.toInt := ⟨g1, by omega⟩
    have e : nx1 σ v4 = ia σ 12 v4.toInt.toNat := if_neg (ne_mD gv)
    rw [← e] at g2
    have e3 : (v3 + (1 : Int32)).toInt = v3.toInt + 1 := by rw [ad_i (by omega) (by omega), e1]
    have et : (v3 + (1 : Int32)).toInt.toNat = v3.toInt.toNat + 1 := by omega
    have z81 : ¬ (v2 = 1 ∧ rbP σ (l + 1) v3.toInt.toNat v4) → wq (ah_val lim ah_P (d + 2) 58 81 [some (.inr (.inr (some m))), none, none, some (.inl v3), some (.inl v4), none] [] h) (rI fun x h' => h' = h ∧ bo (v2 = 1 ∧ rbP σ (l + 1) v3.toInt.toNat v4) x) := fun n => wq_eq q_58_81 (w_r12 H gv (b_z (ih 0 _ _ g2 (Or.inl rfl) (by omega) (by omega)) n))
    have bod : (v3.toInt.toNat % 2 = 1 ∨ nx1 σ v4 = -1) → wq (ah_val lim ah_P (d + 2) 58 41 [some (.inr (.inr (some m))), none, some (.inl v2), some (.inl v3), some (.inl v4), none] [.inl (1 : Int32)] h) (rI fun x h' => h' = h ∧ bo (v2 = 1 ∧ rbP σ (l + 1) v3.toInt.toNat v4) x) := by
      intro hi
      refine wq_eq q_58_41 (wq_if _ (fun c => z81 (fun q => absurd (c.symm.trans q.1) (by decide))) (fun c => wq_f (by decide) (wq_at H.1 (wq_cI (w_body H O D hd) ?_))))
      rintro y h7 ⟨rfl, b7⟩
      refine wq_if _ (fun c2 => z81 (fun q => bo_n b7 c2 (q.2.1 hi))) (fun c2 => w_r12 H gv (b_n (ih 1 _ _ g2 (Or.inr rfl) (by omega) (by omega)) ?_))
      rw [et]
      exact ⟨fun q => ⟨h2.resolve_left c, fun _ => bo_p b7 c2, fun n => absurd hi n, q⟩, fun q => q.2.2.2⟩
    refine wq_eq q_58_12 (wq_f (ne_mD gv) (wq_f (by decide) (wq_if _ (fun c => bod (Or.inl ?_)) (fun c => w_r12 H gv (wq_if _ (fun c2 => bod (Or.inr c2)) (fun c2 => ?_))))))
    · have := (par_i h3 (by omega)).mp c
      omega
    · have hn : ¬ (v3.toInt.toNat % 2 = 1 ∨ nx1 σ v4 = -1) := by
        rintro (z | z)
        · exact c ((par_i h3 (by omega)).mpr (by omega))
        · exact c2 z
      refine wq_eq q_58_41 (wq_if _ (fun c => z81 (fun q => absurd (c.symm.trans q.1) (by decide))) (fun c => wq_t rfl (w_r8 H gv (wq_cI w_expression ?_))))
      rintro y h7 ⟨rfl, b7⟩
      refine wq_if _ (fun c2 => z81 (fun q => bo_n b7 c2 (q.2.2.1 hn))) (fun c2 => w_r12 H gv (b_n (ih 1 _ _ g2 (Or.inr rfl) (by omega) (by omega)) ?_))
      rw [et]
      exact ⟨fun q => ⟨h2.resolve_left c, fun n => absurd n hn, fun _ => bo_p b7 c2, q⟩, fun q => q.2.2.2⟩
theorem rb_sq : ∀ {l j : Nat} {c : Int32}, rbP σ l j c ↔ ∀ t, t < l → (((j + t) % 2 = 1 ∨ sq σ (t + 1) c = -1) → isB σ (sq σ t c)) ∧ (¬ ((j + t) % 2 = 1 ∨ sq σ (t + 1) c = -1) → isX (kO σ (sq σ t c)).toInt) := by
  intro l
  induction l with
  | zero => exact ⟨fun _ t ht => absurd ht (by omega), fun _ => trivial⟩
  | succ l ih =>
    intro j c
    show ((_ → _) ∧ (_ → _) ∧ rbP σ l (j + 1) (nx1 σ c)) ↔ _
    rw [ih]
    constructor
    · rintro ⟨q1, q2, q3⟩ t ht
      cases t with
      | zero => exact ⟨q1, q2⟩
      | succ t =>
        have := q3 t (by omega)
        rw [show j + 1 + t = j + (t + 1) by omega] at this
        exact this
    · intro q
      refine ⟨(q 0 (by omega)).1, (q 0 (by omega)).2, fun t ht => ?_⟩
      have := q (t + 1) (by omega)
      rw [show j + (t + 1) = j + 1 + t by omega] at this
      exact this
theorem rb_if (D : DI σ) (h0 : 0 ≤ v.toInt) (h1 : v.toInt < (σ.1 19).toInt) : (¬ mO σ v ≤ 1 ∧ rbP σ (mO σ v).toInt.toNat 0 (cO σ v 0)) ↔ ifP σ v (mO σ v).toInt 0 := by
  have e1 : (1 : Int32).toInt = 1 := rfl
  have em : mO σ v = ia σ 10 v.toInt.toNat := if_neg (nn_m h0)
  have ec : ∀ f, cO σ v f = ch σ v.toInt f := fun f => if_neg (nn_m h0)
  have nn : ∀ t : Nat, cO σ v t = -1 ↔ (mO σ v).toInt ≤ t := by
    intro t
    have D' := DI_ch D h0 h1 t
    rw [ec, em]
    constructor
    · intro g
      rcases Int.lt_or_le (t : Int) (ia σ 10 v.toInt.toNat).toInt with q | q
      · have := (D'.1 q).1
        exact absurd g (nn_m this)
      · exact q
    · exact D'.2
  obtain ⟨b0, b1⟩ := mO_b D (v := v) (Or.inr ⟨h0, h1⟩)
  generalize hM : (mO σ v).toInt = M at *
  have le : ¬ mO σ v ≤ 1 ↔ 1 < M := by
    constructor
    · intro g
      have := nle_i g
      omega
    · intro g c
      have := le_i c
      omega
  rw [rb_sq, le]
  constructor
  · rintro ⟨q1, q2⟩
    refine ⟨fun t ht => ?_, by omega, ?_⟩
    · have a1 := (q2 (0 + 2 * t) (by omega)).2
      have a2 := (q2 (0 + 2 * t + 1) (by omega)).1
      rw [ch_sq h0, ch_sq h0, Nat.zero_add (0 + 2 * t), Nat.zero_add (0 + 2 * t + 1), nn] at a1
      rw [ch_sq h0, ch_sq h0, Nat.zero_add (0 + 2 * t + 1)] at a2
      exact ⟨a1 (by omega), a2 (Or.inl (by omega))⟩
    · by_cases c : M % 2 = 0
      · exact Or.inl c
      · have a1 := (q2 (M - 1).toNat (by omega)).1
        rw [ch_sq h0, ch_sq h0, Nat.zero_add (M - 1).toNat, Nat.zero_add ((M - 1).toNat + 1), nn] at a1
        exact Or.inr (a1 (Or.inr (by omega)))
  · rintro ⟨q1, q2, q3⟩
    refine ⟨by omega, fun t ht => ?_⟩
    rw [ch_sq h0, ch_sq h0, Nat.zero_add t, Nat.zero_add (t + 1), nn]
    constructor
    · intro g
      by_cases c : t % 2 = 1
      · have := (q1 (t / 2) (by omega)).2
        rw [show 0 + 2 * (t / 2) + 1 = t by omega] at this
        exact this
      · have := q3.resolve_left (by omega)
        rw [show (M - 1).toNat = t by omega] at this
        exact this
    · intro g
      have := (q1 (t / 2) (by omega)).1
      rw [show 0 + 2 * (t / 2) = t by omega] at this
      exact this
theorem w_rightBranch (H : RH m σ b h) (O : OKV σ) (D : DI σ) (h0 : 0 ≤ v.toInt) (h1 : v.toInt < (σ.1 19).toInt) : wq (vc lim (d + 3) m_Ref_rightBranch [.inr (.inr (some m)), .inl v] h) (rI fun x h' => h' = h ∧ bo (rbP σ (mO σ v).toInt.toNat 0 (cO σ v 0)) x) := by
  obtain ⟨-, a1, a2, a3, -⟩ := DI_k D h0 h1
  have d1 := D.2.1
  have em : mO σ v = ia σ 10 v.toInt.toNat := if_neg (nn_m h0)
  rw [← em] at a1 a2 a3
  rw [← cO_0 (dN_v D h0 h1)] at a3
  exact wq_eq e_Ref_rightBranch (w_r11 H (dN_v D h0 h1) (b_n (wr_loop H O D (by omega) _ 1 0 _ a3 (Or.inr rfl) (by decide) (by show (0 : Int) + _ ≤ _; omega)) Iff.rfl))
/-! expressions -/
theorem wi_i {a c g : Int32} : (¬ g < a ∧ g ≤ c) ↔ wi a c g := ⟨fun q => ⟨nlt_i q.1, le_i q.2⟩, fun q => ⟨fun g => by have := lt_i g; have := q.1; omega, Int32.le_iff_toInt_le.mpr q.2⟩⟩
theorem lg_iff {a c e : Int32} : (lg_cmp (a.toInt64 + c.toInt64) e.toInt64) ≤ 0 ↔ a.toInt + c.toInt ≤ e.toInt := by
  refine ⟨lg_add, fun g => ?_⟩
  have ba := bd_i a
  have bc := bd_i c
  have e1 : (a.toInt64 + c.toInt64).toInt = a.toInt + c.toInt := by
    rw [Int64.toInt_add, Int32.toInt_toInt64, Int32.toInt_toInt64]
    exact Int.bmod_eq_of_le (by omega) (by omega)
  have e2 : e.toInt64.toInt = e.toInt := Int32.toInt_toInt64 e
  have c1 : ¬ (a.toInt64 + c.toInt64) > e.toInt64 := fun q => by
    have : e.toInt64.toInt < (a.toInt64 + c.toInt64).toInt := Int64.lt_iff_toInt_lt.mp q
    omega
  unfold lg_cmp
  rw [if_neg c1]
  by_cases q : a.toInt64 + c.toInt64 = e.toInt64
  · first | (rw [if_pos q]; decide) | (simp [q])
  · first | (rw [if_neg q]; decide) | (split <;> decide)
def fnR (σ : rS) (v : Int32) : Prop := mO σ v = 1 ∧ kO σ (cO σ v 0) = 80 ∧ tF σ (cO σ v 0) 0 = 0
def exR (σ : rS) (v k : Int32) : Prop := if k = 2 then mO σ v = 0 ∧ ¬ gO σ v < -2147483647 else if k = 3 then mO σ v = 0 ∧ ¬ gO σ v < 0 ∧ gO σ v ≤ 8 else if k = 4 then ¬ mO σ v ≤ 0 ∧ mO σ v ≤ 64 ∧ kA σ v 0 (fun k => k = 3) else if k = 20 then mO σ v = 1 ∧ ¬ gO σ v < 0 ∧ gO σ v ≤ 3 ∧ isX (kO σ (cO σ v 0)).toInt else if k = 21 then mO σ v = 2 ∧ ¬ gO σ v < 0 ∧ gO σ v ≤ 20 ∧ isX (kO σ (cO σ v 0)).toInt ∧ isX (kO σ (cO σ v 1)).toInt else if k = 80 then mO σ v = 0 ∧ ¬ gO σ v < 0 ∧ gO σ v < σ.1 7 else if k = 81 then mO σ v = 0 ∧ ¬ gO σ v < 0 ∧ gO σ v < σ.1 9 else if k = 82 then mO σ v = 2 ∧ (tOK σ (cO σ v 0) ∧ tF σ (cO σ v 0) 0 = 1) ∧ isX (kO σ (cO σ v 1)).toInt else if k = 83 then mO σ v = 3 ∧ (tOK σ (cO σ v 0) ∧ tF σ (cO σ v 0) 0 = 1) ∧ kO σ (cO σ v 1) = 2 ∧ kO σ (cO σ v 2) = 2 ∧ ¬ gO σ (cO σ v 1) < 0 ∧ ¬ gO σ (cO σ v 2) < 1 ∧ (lg_cmp ((gO σ (cO σ v 1)).toInt64 + (gO σ (cO σ v 2)).toInt64) (tF σ (cO σ v 0) 1).toInt64) ≤ 0 else if k = 84 then (if gO σ v = 8 then fnR σ v else if gO σ v = 9 then fnR σ v else if gO σ v = 10 then mO σ v = 1 ∧ isX (kO σ (cO σ v 0)).toInt else gO σ v = 11 ∧ mO σ v = 2 ∧ isX (kO σ (cO σ v 0)).toInt ∧ kO σ (cO σ v 1) = 2 ∧ ¬ gO σ (cO σ v 1) < 1 ∧ gO σ (cO σ v 1) ≤ 64) else mO σ v = 1 ∧ ¬ gO σ v < 15 ∧ gO σ v ≤ 17 ∧ kO σ (cO σ v 0) = 80
/-- the things that a node's children name -/
def cT (σ : rS) (v : Int32) : Prop := (kO σ (cO σ v 0) = 80 ∨ kO σ (cO σ v 0) = 81) → tOK σ (cO σ v 0)
theorem nv_k (D : DI σ) {c w : Int32} (hc : dN σ c) (e : kO σ c = w) (hw : ¬ w = -1) : vD c.toInt := by
  rcases hc with rfl | ⟨h0, h1⟩
  · have e2 : kO σ (-1) = -1 := if_pos rfl
    exact absurd (e.symm.trans e2) hw
  · exact dN_v D h0 h1
theorem w_457 (H : RH m σ b h) (O : OKV σ) (D : DI σ) (h0 : 0 ≤ v.toInt) (h1 : v.toInt < (σ.1 19).toInt) (s : (σ.1 7).toInt ≤ 512) (t : (σ.1 9).toInt ≤ 128) (hT : cT σ v) : wq (ah_val lim ah_P (d + 3) 56 457 [some (.inr (.inr (some m))), none, some (.inl (mO σ v)), none, some (.inl (cO σ v 0)), none, none] [] h) (rI fun x h' => h' = h ∧ bo (fnR σ v) x) := by
  have hc := dN_ch D (v := v) (Or.inr ⟨h0, h1⟩) 0
  refine wq_eq q_56_457 (an_if (fun _ => wq_at H.1 (an_cI (w_isObject H O D hc) (fun q => ?_))))
  have hv := nv_k D hc q (by decide)
  obtain ⟨-, g0, g1⟩ | ⟨g, -⟩ := hT (Or.inl q)
  · have e : tF σ (cO σ v 0) 0 = ia σ 0 (gO σ (cO σ v 0)).toInt.toNat := if_pos q
    rw [e]
    exact wq_gR H.1 rfl (w_r9 H hv (ra_I H (by omega) rfl rfl g0 (by show _ < (10100 : Int); omega) fi_if))
  · exact absurd (q.symm.trans g) (by decide)
theorem w_rightExpression (H : RH m σ b h) (O : OKV σ) (D : DI σ) (h0 : 0 ≤ v.toInt) (h1 : v.toInt < (σ.1 19).toInt) (s : (σ.1 7).toInt ≤ 512) (t : (σ.1 9).toInt ≤ 128) (hT : cT σ v) : wq (vc lim (d + 4) m_Ref_rightExpression [.inr (.inr (some m)), .inl v] h) (rI fun x h' => h' = h ∧ bo (exR σ v (kO σ v)) x) := by
  have hd : dN σ v := Or.inr ⟨h0, h1⟩
  have hv := dN_v D h0 h1
  have k0 := dN_ch D hd 0
  have k1 := dN_ch D hd 1
  have k2 := dN_ch D hd 2
  refine wq_eq e_Ref_rightExpression (w_r10 H hv (w_r9 H hv (w_ch H O D h0 h1 (by decide) (w_ch H O D h0 h1 (by decide) (w_r8 H hv ?_)))))
  refine if_P (fun _ => an_if (fun _ => nf_if)) (fun _ => ?_)
  refine if_P (fun _ => an_if (fun _ => na_if (fun _ => fi_if))) (fun _ => ?_)
  refine if_P (fun _ => na_if (fun _ => an_if (fun _ => wq_at H.1 (fi_cI (w_all H D h0 h1 0))))) (fun _ => ?_)
  refine if_P (fun _ => an_if (fun _ => na_if (fun _ => an_if (fun _ => w_kd H O D k0 (fi_cI w_expression))))) (fun _ => ?_)
  refine if_P (fun _ => an_if (fun _ => na_if (fun _ => an_if (fun _ => w_kd H O D k0 (an_cI w_expression (fun _ => w_kd H O D k1 (fi_cI w_expression))))))) (fun _ => ?_)
  refine if_P (fun _ => an_if (fun _ => na_if (fun _ => wq_gI H.1 rfl fi_if))) (fun _ => ?_)
  refine if_P (fun _ => an_if (fun _ => na_if (fun _ => wq_gI H.1 rfl fi_if))) (fun _ => ?_)
  refine if_P (fun _ => an_if (fun _ => wq_at H.1 (an_cI (w_rowObject H O D k0 s t hT) (fun _ => w_kd H O D k1 (fi_cI w_expression))))) (fun _ => ?_)
  refine if_P (fun _ => w_ch H O D h0 h1 (by decide) (an_if (fun _ => wq_at H.1 (an_cI (w_rowObject H O D k0 s t hT) (fun q0 => w_kd H O D k1 (an_if (fun q1 => w_kd H O D k2 (an_if (fun q2 => ?_))))))))) (fun _ => ?_)
  · have z1 := nv_k D k1 q1 (by decide)
    have z2 := nv_k D k2 q2 (by decide)
    have z0 : vD (cO σ v 0).toInt := q0.1.elim (fun g => nv_k D k0 g.1 (by decide)) (fun g => nv_k D k0 g.1 (by decide))
    exact w_r9 H z1 (na_if (fun _ => w_r9 H z2 (na_if (fun _ => w_r9 H z1 (w_r9 H z2 (w_ln H z0 q0.1 s t q0.2 fi_if))))))
  refine if_P (fun _ => if_P (fun _ => w_457 H O D h0 h1 s t hT) (fun _ => if_P (fun _ => w_457 H O D h0 h1 s t hT) (fun _ => if_P (fun _ => an_if (fun _ => w_kd H O D k0 (fi_cI w_expression))) (fun _ => an_if (fun _ => an_if (fun _ => w_kd H O D k0 (an_cI w_expression (fun _ => w_kd H O D k1 (an_if (fun q1 => ?_)))))))))) (fun _ => ?_)
  · have z1 := nv_k D k1 q1 (by decide)
    exact w_r9 H z1 (na_if (fun _ => w_r9 H z1 fi_if))
  · exact an_if (fun _ => na_if (fun _ => an_if (fun _ => wq_at H.1 (fi_cI (w_isObject H O D k0)))))
end Lk2
