/-! THE REFERENCE LOOKS OVER: what is said, both ways -/
section Lj
variable {lim : Nat × Nat} {m d : Nat} {σ : rS} {b h : ah_H} {v c i w : Int32} {P Q R : Prop} {Φ : ah_R → Prop}
theorem kO_m1 : kO σ (-1) = -1 := if_pos rfl
theorem b_z {B : Option ah_R} (w : wq B (rI fun x h' => h' = h ∧ bo ((0 : Int32) = 1 ∧ R) x)) (e : ¬ Q) : wq B (rI fun x h' => h' = h ∧ bo Q x) := bo_c w ⟨fun q => absurd q.1 (by decide), fun q => absurd q e⟩
theorem b_n {B : Option ah_R} (w : wq B (rI fun x h' => h' = h ∧ bo ((1 : Int32) = 1 ∧ R) x)) (e : R ↔ Q) : wq B (rI fun x h' => h' = h ∧ bo Q x) := bo_c w ⟨fun q => e.mp q.2, fun q => ⟨rfl, e.mpr q⟩⟩
theorem an_z {B : Option ah_R} {y : Int32} (hy : bo P y) (K1 : P → wq B (rI fun x h' => h' = h ∧ bo Q x)) : wq (if y = 0 then if (0 : Int32) = 0 ∨ (0 : Int32) = 1 then some (.inl (some (.inl (0 : Int32))), h) else none else B) (rI fun x h' => h' = h ∧ bo (P ∧ Q) x) := wq_if _ (fun c1 => r0 rfl (fun q => bo_n hy c1 q.1)) (fun c1 => bo_c (K1 (bo_p hy c1)) ⟨fun q => ⟨bo_p hy c1, q⟩, fun q => q.2⟩)
theorem fi_z {y : Int32} (hy : bo P y) : wq (if y = 0 then if (0 : Int32) = 0 ∨ (0 : Int32) = 1 then some ((.inl (some (.inl (0 : Int32))), h) : ah_R) else none else if (1 : Int32) = 0 ∨ (1 : Int32) = 1 then some (.inl (some (.inl (1 : Int32))), h) else none) (rI fun x h' => h' = h ∧ bo P x) := wq_if _ (fun c1 => r0 rfl (bo_n hy c1)) (fun c1 => r1 rfl (bo_p hy c1))
theorem w_expression : wq (vc lim (d + 1) m_Ref_expression [.inl v] h) (rI fun x h' => h' = h ∧ bo (isX v.toInt) x) := by
  obtain ⟨z, ez, x, h2, rfl, e, q1, q2, q3⟩ := v_expression (lim := lim) (d := d) (h := h) (v0 := v)
  refine ⟨_, ez, x, h2, rfl, e, ?_⟩
  rcases q1 with rfl | rfl
  · exact Or.inr ⟨rfl, q3 rfl⟩
  · exact Or.inl ⟨rfl, q2 rfl⟩
theorem w_statement : wq (vc lim (d + 1) m_Ref_statement [.inl v] h) (rI fun x h' => h' = h ∧ bo (isS v.toInt) x) := by
  obtain ⟨z, ez, x, h2, rfl, e, q1, q2, q3⟩ := v_statement (lim := lim) (d := d) (h := h) (v0 := v)
  refine ⟨_, ez, x, h2, rfl, e, ?_⟩
  rcases q1 with rfl | rfl
  · exact Or.inr ⟨rfl, q3 rfl⟩
  · exact Or.inl ⟨rfl, q2 rfl⟩
/-- reading a node's numbers -/
theorem w_r8 {K1 : Int32 → Option ah_R} (H : RH m σ b h) (hv : vD v.toInt) (k : wq (K1 (kO σ v)) Φ) : wq (ah_gR h (some m) 11 12 fun r => ah_lI h r 100 v K1) Φ := by
  have e : kO σ v = ia σ 8 v.toInt.toNat := if_neg (ne_mD hv)
  rw [e] at k
  exact wq_gR H.1 rfl (rd_d (p := 1000) H sm_0 hv (by omega) k)
theorem w_r9 {K1 : Int32 → Option ah_R} (H : RH m σ b h) (hv : vD v.toInt) (k : wq (K1 (gO σ v)) Φ) : wq (ah_gR h (some m) 11 13 fun r => ah_lI h r 100 v K1) Φ := by
  have e : gO σ v = ia σ 9 v.toInt.toNat := if_neg (ne_mD hv)
  rw [e] at k
  exact wq_gR H.1 rfl (rd_d (p := 1000) H sm_0 hv (by omega) k)
theorem w_r10 {K1 : Int32 → Option ah_R} (H : RH m σ b h) (hv : vD v.toInt) (k : wq (K1 (mO σ v)) Φ) : wq (ah_gR h (some m) 11 14 fun r => ah_lI h r 100 v K1) Φ := by
  have e : mO σ v = ia σ 10 v.toInt.toNat := if_neg (ne_mD hv)
  rw [e] at k
  exact wq_gR H.1 rfl (rd_d (p := 1000) H sm_0 hv (by omega) k)
theorem cO_0 (hv : vD v.toInt) : cO σ v 0 = ia σ 11 v.toInt.toNat := if_neg (ne_mD hv)
theorem w_r11 {K1 : Int32 → Option ah_R} (H : RH m σ b h) (hv : vD v.toInt) (k : wq (K1 (cO σ v 0)) Φ) : wq (ah_gR h (some m) 11 15 fun r => ah_lI h r 100 v K1) Φ := by
  rw [cO_0 hv] at k
  exact wq_gR H.1 rfl (rd_d (p := 1000) H sm_0 hv (by omega) k)
theorem w_r12 {K1 : Int32 → Option ah_R} (H : RH m σ b h) (hv : vD v.toInt) (k : wq (K1 (nx1 σ v)) Φ) : wq (ah_gR h (some m) 11 16 fun r => ah_lI h r 100 v K1) Φ := by
  have e : nx1 σ v = ia σ 12 v.toInt.toNat := if_neg (ne_mD hv)
  rw [e] at k
  exact wq_gR H.1 rfl (rd_d (p := 1000) H sm_0 hv (by omega) k)
theorem w_r13 {K1 : Int32 → Option ah_R} (H : RH m σ b h) (hv : vD v.toInt) (k : wq (K1 (uO σ v)) Φ) : wq (ah_gR h (some m) 11 17 fun r => ah_lI h r 100 v K1) Φ := by
  have e : uO σ v = ia σ 13 v.toInt.toNat := if_neg (ne_mD hv)
  rw [e] at k
  exact wq_gR H.1 rfl (rd_d (p := 1000) H sm_0 hv (by omega) k)
theorem dN_o (D : DI σ) (hv : dN σ v) : oV v := hv.imp id (fun q => ⟨q.1, by have := D.2.1; omega⟩)
theorem dN_v (D : DI σ) (h0 : 0 ≤ v.toInt) (h1 : v.toInt < (σ.1 19).toInt) : vD v.toInt := ⟨h0, by have := D.2.1; omega⟩
theorem w_kd {X : Nat × Nat → ah_H → Option ah_R} {K : Int32 → ah_H → Option ah_R} (H : RH m σ b h) (O : OKV σ) (D : DI σ) (hv : dN σ v) (k : wq (K (kO σ v) h) Φ) : wq (ah_at h (some m) 11 fun _ _ => ah_cI (vc lim (d + 1) 44 [.inr (.inr (some m)), .inl v] h) X K) Φ := by
  refine wq_at H.1 (wq_cI (v_kindOf (p := 1000) H O sm_0 (dN_o D hv)) ?_)
  rintro y h1 ⟨rfl, rfl⟩
  exact k
theorem w_ch {X : Nat × Nat → ah_H → Option ah_R} {K : Int32 → ah_H → Option ah_R} (H : RH m σ b h) (O : OKV σ) (D : DI σ) (h0 : 0 ≤ v.toInt) (h1 : v.toInt < (σ.1 19).toInt) (hi : 0 ≤ i.toInt) (k : wq (K (cO σ v i.toInt.toNat) h) Φ) : wq (ah_at h (some m) 11 fun _ _ => ah_cI (vc lim (d + 1) 43 [.inr (.inr (some m)), .inl v, .inl i] h) X K) Φ := by
  refine wq_at H.1 (wq_cI (v_child (p := 1000) H O sm_0 (dN_v D h0 h1) hi (DI_o D h0 h1)) ?_)
  rintro y h1 ⟨rfl, rfl⟩
  have e : cO σ v i.toInt.toNat = ch σ v.toInt i.toInt.toNat := if_neg (nn_m h0)
  rw [e] at k
  exact k
/-! chains -/
theorem sq_ad (j : Nat) : ∀ (i : Nat) (c : Int32), sq σ j (sq σ i c) = sq σ (i + j) c := by
  intro i
  induction i with
  | zero => intro c; rw [Nat.zero_add]; rfl
  | succ i ih =>
    intro c
    rw [show i + 1 + j = i + j + 1 by omega]
    exact ih (nx1 σ c)
theorem al_sq {P : Int → Prop} : ∀ {l : Nat} {c : Int32}, cD σ l c.toInt → (alP σ P l c.toInt ↔ ∀ j, j < l → P (kO σ (sq σ j c)).toInt) := by
  intro l
  induction l with
  | zero => exact fun _ => ⟨fun _ j hj => absurd hj (by omega), fun _ => trivial⟩
  | succ l ih =>
    intro c hg
    obtain ⟨g1, g2⟩ := hg
    have e : kO σ c = ia σ 8 c.toInt.toNat := if_neg (ne_mD g1)
    have e2 : nx1 σ c = ia σ 12 c.toInt.toNat := if_neg (ne_mD g1)
    show (P (ia σ 8 c.toInt.toNat).toInt ∧ alP σ P l (ia σ 12 c.toInt.toNat).toInt) ↔ _
    rw [ih g2, ← e, ← e2]
    constructor
    · rintro ⟨q1, q2⟩ j hj
      cases j with
      | zero => exact q1
      | succ j => exact q2 j (by omega)
    · exact fun q => ⟨q 0 (by omega), fun j hj => q (j + 1) (by omega)⟩
/-- the children from f on -/
theorem ch_cD (D : DI σ) (h0 : 0 ≤ v.toInt) (h1 : v.toInt < (σ.1 19).toInt) (f : Nat) : cD σ ((mO σ v).toInt.toNat - f) (cO σ v f).toInt := by
  obtain ⟨-, a1, a2, a3, -⟩ := DI_k D h0 h1
  have hN := D.2.1
  have em : mO σ v = ia σ 10 v.toInt.toNat := if_neg (nn_m h0)
  have ec : cO σ v f = ch σ v.toInt f := if_neg (nn_m h0)
  have := ck_sq (c := ia σ 11 v.toInt.toNat) a3 f
  rw [em, ec]
  by_cases hi : f < (ia σ 10 v.toInt.toNat).toInt.toNat
  · exact ck_chn (by omega) (this.1 hi).2
  · rw [show (ia σ 10 v.toInt.toNat).toInt.toNat - f = 0 by omega]
    show (ch σ v.toInt f).toInt = -1
    unfold ch
    rw [this.2 (by omega)]
    exact li_m1
theorem ch_sq (h0 : 0 ≤ v.toInt) (f j : Nat) : sq σ j (cO σ v f) = cO σ v (f + j) := by
  have e : ∀ f, cO σ v f = ch σ v.toInt f := fun f => if_neg (nn_m h0)
  rw [e, e]
  exact sq_ad j f _
theorem kA_al (D : DI σ) (h0 : 0 ≤ v.toInt) (h1 : v.toInt < (σ.1 19).toInt) (f : Nat) {P : Int → Prop} : alP σ P ((mO σ v).toInt.toNat - f) (cO σ v f).toInt ↔ kA σ v f (fun k => P k.toInt) := by
  rw [al_sq (ch_cD D h0 h1 f)]
  constructor
  · intro q j hj hm
    have := q (j - f) (by omega)
    rw [ch_sq h0, show f + (j - f) = j by omega] at this
    exact this
  · intro q j hj
    rw [ch_sq h0]
    exact q (f + j) (by omega) (by omega)
theorem kA_i {f : Nat} {P Q : Int32 → Prop} (e : ∀ k, P k ↔ Q k) : kA σ v f P ↔ kA σ v f Q := ⟨fun q j h1 h2 => (e _).mp (q j h1 h2), fun q j h1 h2 => (e _).mpr (q j h1 h2)⟩
theorem wb_loop (H : RH m σ b h) : ∀ (l : Nat) (v2 v3 : Int32), cD σ l v3.toInt → (v2 = 0 ∨ v2 = 1) → wq (ah_val lim ah_P (d + 1) 47 31 [some (.inr (.inr (some m))), none, some (.inl v2), some (.inl v3)] [] h) (rI fun x h' => h' = h ∧ bo (v2 = 1 ∧ alP σ isS l v3.toInt) x) := by
  intro l
  induction l with
  | zero =>
    intro v2 v3 hg h2
    refine wq_eq q_47_31 (wq_t (eq_m1 hg) (wq_t h2 (wq_some (rI_i ⟨rfl, ?_⟩))))
    rcases h2 with rfl | rfl
    · exact bo_0 (fun q => absurd q.1 (by decide))
    · exact bo_1 ⟨rfl, trivial⟩
  | succ l ih =>
    intro v2 v3 hg h2
    obtain ⟨g1, g2⟩ := hg
    have e : nx1 σ v3 = ia σ 12 v3.toInt.toNat := if_neg (ne_mD g1)
    have ek : kO σ v3 = ia σ 8 v3.toInt.toNat := if_neg (ne_mD g1)
    rw [← e] at g2
    refine wq_eq q_47_31 (wq_f (ne_mD g1) (wq_if _ (fun c => w_r12 H g1 (b_z (ih 0 _ g2 (Or.inl rfl)) (fun q => absurd (c.symm.trans q.1) (by decide)))) (fun c => w_r8 H g1 (wq_cI w_statement ?_))))
    rintro y h5 ⟨rfl, by5⟩
    refine wq_if _ (fun c5 => w_r12 H g1 (b_z (ih 0 _ g2 (Or.inl rfl)) (fun q => bo_n by5 c5 (by rw [ek]; exact q.2.1)))) (fun c5 => w_r12 H g1 (b_n (ih 1 _ g2 (Or.inr rfl)) ?_))
    rw [e]
    exact ⟨fun q => ⟨h2.resolve_left c, by rw [← ek]; exact bo_p by5 c5, q⟩, fun q => q.2.2⟩
theorem w_body (H : RH m σ b h) (O : OKV σ) (D : DI σ) (hv : dN σ v) : wq (vc lim (d + 2) m_Ref_body [.inr (.inr (some m)), .inl v] h) (rI fun x h' => h' = h ∧ bo (isB σ v) x) := by
  refine wq_eq e_Ref_body (w_kd H O D hv (wq_if _ (fun c => ?_) (fun c => ?_)))
  · rcases hv with rfl | ⟨h0, h1⟩
    · exact absurd (kO_m1.symm.trans c) (by decide)
    have cd := ch_cD D h0 h1 0
    refine wq_f (by decide) (w_r11 H (dN_v D h0 h1) (b_n (wb_loop H _ 1 _ cd (Or.inr rfl)) ?_))
    rw [kA_al D h0 h1 0]
    exact ⟨fun q => ⟨c, q⟩, fun q => q.2⟩
  · exact wq_t rfl (b_z (wb_loop H 0 0 (-1) li_m1 (Or.inl rfl)) (fun q => c q.1))
theorem wa_loop (H : RH m σ b h) : ∀ (l : Nat) (v3 v4 : Int32), cD σ l v4.toInt → (v3 = 0 ∨ v3 = 1) → wq (ah_val lim ah_P d 48 5 [some (.inr (.inr (some m))), none, some (.inl w), some (.inl v3), some (.inl v4)] [] h) (rI fun x h' => h' = h ∧ bo (v3 = 1 ∧ alP σ (fun k => k = w.toInt) l v4.toInt) x) := by
  intro l
  induction l with
  | zero =>
    intro v3 v4 hg h2
    refine wq_eq q_48_5 (wq_t (eq_m1 hg) (wq_t h2 (wq_some (rI_i ⟨rfl, ?_⟩))))
    rcases h2 with rfl | rfl
    · exact bo_0 (fun q => absurd q.1 (by decide))
    · exact bo_1 ⟨rfl, trivial⟩
  | succ l ih =>
    intro v3 v4 hg h2
    obtain ⟨g1, g2⟩ := hg
    have e : nx1 σ v4 = ia σ 12 v4.toInt.toNat := if_neg (ne_mD g1)
    have ek : kO σ v4 = ia σ 8 v4.toInt.toNat := if_neg (ne_mD g1)
    rw [← e] at g2
    refine wq_eq q_48_5 (wq_f (ne_mD g1) (wq_if _ (fun c => w_r12 H g1 (b_z (ih 0 _ g2 (Or.inl rfl)) (fun q => absurd (c.symm.trans q.1) (by decide)))) (fun c => w_r8 H g1 (wq_if _ (fun c5 => w_r12 H g1 (b_n (ih 1 _ g2 (Or.inr rfl)) ?_)) (fun c5 => w_r12 H g1 (b_z (ih 0 _ g2 (Or.inl rfl)) (fun q => c5 (Int32.toInt_inj.mp (by rw [ek]; exact q.2.1)))))))))
    rw [e]
    exact ⟨fun q => ⟨h2.resolve_left c, by rw [← ek]; exact congrArg Int32.toInt c5, q⟩, fun q => q.2.2⟩
theorem w_all (H : RH m σ b h) (D : DI σ) (h0 : 0 ≤ v.toInt) (h1 : v.toInt < (σ.1 19).toInt) (f : Nat) : wq (vc lim (d + 1) m_Ref_all [.inr (.inr (some m)), .inl (cO σ v f), .inl w] h) (rI fun x h' => h' = h ∧ bo (kA σ v f (fun k => k = w)) x) := by
  refine wq_eq e_Ref_all (b_n (wa_loop H _ 1 _ (ch_cD D h0 h1 f) (Or.inr rfl)) ?_)
  rw [kA_al D h0 h1 f]
  exact kA_i (fun k => Int32.toInt_inj)
theorem wo_loop (H : RH m σ b h) : ∀ (l : Nat) (v5 v6 : Int32), cD σ l v6.toInt → (v5 = 0 ∨ v5 = 1) → wq (ah_val lim ah_P d 59 221 [some (.inr (.inr (some m))), none, none, none, none, some (.inl v5), some (.inl v6)] [] h) (rI fun x h' => h' = h ∧ bo (v5 = 1 ∧ alP σ isC l v6.toInt) x) := by
  intro l
  induction l with
  | zero =>
    intro v5 v6 hg h2
    refine wq_eq q_59_221 (wq_t (eq_m1 hg) (wq_t h2 (wq_some (rI_i ⟨rfl, ?_⟩))))
    rcases h2 with rfl | rfl
    · exact bo_0 (fun q => absurd q.1 (by decide))
    · exact bo_1 ⟨rfl, trivial⟩
  | succ l ih =>
    intro v5 v6 hg h2
    obtain ⟨g1, g2⟩ := hg
    have e : nx1 σ v6 = ia σ 12 v6.toInt.toNat := if_neg (ne_mD g1)
    have ek : kO σ v6 = ia σ 8 v6.toInt.toNat := if_neg (ne_mD g1)
    rw [← e] at g2
    refine wq_eq q_59_221 (wq_f (ne_mD g1) (wq_if _ (fun c => w_r12 H g1 (b_z (ih 0 _ g2 (Or.inl rfl)) (fun q => absurd (c.symm.trans q.1) (by decide)))) (fun c => ?_)))
    have go : isC (kO σ v6).toInt → wq (ah_val lim ah_P d 59 277 [some (.inr (.inr (some m))), none, none, none, none, none, some (.inl v6)] [] h) (rI fun x h' => h' = h ∧ bo (v5 = 1 ∧ alP σ isC (l + 1) v6.toInt) x) := by
      intro hc
      refine wq_eq q_59_277 (w_r12 H g1 (b_n (ih 1 _ g2 (Or.inr rfl)) ?_))
      rw [e]
      exact ⟨fun q => ⟨h2.resolve_left c, by rw [← ek]; exact hc, q⟩, fun q => q.2.2⟩
    refine w_r8 H g1 (wq_if _ (fun c2 => go (Or.inl (congrArg Int32.toInt c2))) (fun c2 => ?_))
    refine w_r8 H g1 (wq_if _ (fun c3 => go (Or.inr (Or.inl (congrArg Int32.toInt c3)))) (fun c3 => ?_))
    refine w_r8 H g1 (wq_if _ (fun c4 => go (Or.inr (Or.inr (Or.inl (congrArg Int32.toInt c4))))) (fun c4 => ?_))
    refine w_r8 H g1 (wq_if _ (fun c5 => go (Or.inr (Or.inr (Or.inr (congrArg Int32.toInt c5))))) (fun c5 => ?_))
    refine w_r12 H g1 (b_z (ih 0 _ g2 (Or.inl rfl)) (fun q => ?_))
    have q2 := q.2.1
    rw [← ek] at q2
    exact q2.elim (fun g => c2 (i32_of g rfl)) (fun q => q.elim (fun g => c3 (i32_of g rfl)) (fun q => q.elim (fun g => c4 (i32_of g rfl)) (fun g => c5 (i32_of g rfl))))
theorem wi_loop (H : RH m σ b h) : ∀ (l : Nat) (v2 v3 : Int32), un σ l v3.toInt → (v2 = 0 ∨ v2 = 1) → wq (ah_val lim ah_P d 53 9 [some (.inr (.inr (some m))), none, some (.inl v2), some (.inl v3)] [] h) (rI fun x h' => h' = h ∧ bo (v2 = 1 ∨ iL σ l v3.toInt) x) := by
  intro l
  induction l with
  | zero =>
    intro v2 v3 hg h2
    refine wq_eq q_53_9 (wq_t (eq_m1 hg) (wq_t h2 (wq_some (rI_i ⟨rfl, ?_⟩))))
    rcases h2 with rfl | rfl
    · exact bo_0 (fun q => q.elim (fun g => absurd g (by decide)) (fun g => g))
    · exact bo_1 (Or.inl rfl)
  | succ l ih =>
    intro v2 v3 hg h2
    obtain ⟨g1, g2⟩ := hg
    have e : uO σ v3 = ia σ 13 v3.toInt.toNat := if_neg (ne_mD g1)
    have ek : kO σ v3 = ia σ 8 v3.toInt.toNat := if_neg (ne_mD g1)
    have n0 : ¬ (0 : Int32) = 1 := by decide
    have e38 : (38 : Int32).toInt = 38 := rfl
    have e41 : (41 : Int32).toInt = 41 := rfl
    rw [← e] at g2
    have eS : iL σ (l + 1) v3.toInt ↔ ((38 ≤ (kO σ v3).toInt ∧ (kO σ v3).toInt ≤ 41) ∨ iL σ l (uO σ v3).toInt) := by
      rw [ek, e]
      exact Iff.rfl
    rw [eS]
    refine wq_eq q_53_9 (wq_f (ne_mD g1) (wq_if _ (fun c => w_r8 H g1 (wq_if _ (fun c2 => w_r13 H g1 (bo_c (ih 0 _ g2 (Or.inl rfl)) ?_)) (fun c2 => w_r8 H g1 (wq_if _ (fun c3 => w_r13 H g1 (bo_c (ih 1 _ g2 (Or.inr rfl)) ?_)) (fun c3 => w_r13 H g1 (bo_c (ih 0 _ g2 (Or.inl rfl)) ?_)))))) (fun c => w_r13 H g1 (bo_c (ih 1 _ g2 (Or.inr rfl)) ?_))))
    · have c2 := lt_i c2
      exact ⟨fun q => q.elim (fun g => absurd g n0) (fun g => Or.inr (Or.inr g)), fun q => q.elim (fun g => absurd (c.symm.trans g) n0) (fun q => q.elim (fun g => by omega) Or.inr)⟩
    · have c2 := nlt_i c2
      have c3 := le_i c3
      exact ⟨fun _ => Or.inr (Or.inl ⟨by omega, by omega⟩), fun _ => Or.inl rfl⟩
    · have c3 := nle_i c3
      exact ⟨fun q => q.elim (fun g => absurd g n0) (fun g => Or.inr (Or.inr g)), fun q => q.elim (fun g => absurd (c.symm.trans g) n0) (fun q => q.elim (fun g => by omega) Or.inr)⟩
    · exact ⟨fun _ => Or.inl (h2.resolve_left c), fun _ => Or.inl rfl⟩
theorem un_len (D : DI σ) : ∀ {l : Nat} {u : Int32}, un σ l u.toInt → dN σ u → (l : Int) ≤ (σ.1 19).toInt ∧ (¬ u = -1 → (l : Int) + u.toInt ≤ (σ.1 19).toInt) := by
  have d0 := D.1
  intro l
  induction l with
  | zero =>
    intro u hu hd
    have e : u.toInt = -1 := hu
    exact ⟨by omega, fun g => absurd (eq_m1 e) g⟩
  | succ l ih =>
    intro u hu hd
    obtain ⟨g1, g2⟩ := hu
    have n := ne_mD g1
    rcases hd with hd | ⟨h0, h1⟩
    · exact absurd hd n
    have e : uO σ u = ia σ 13 u.toInt.toNat := if_neg n
    have hu := dN_u D (v := u) (Or.inr ⟨h0, h1⟩)
    rw [← e] at g2
    obtain ⟨i1, i2⟩ := ih g2 hu
    obtain ⟨-, -, -, -, a4, -⟩ := DI_k D h0 h1
    rw [← e] at a4
    by_cases c : uO σ u = -1
    · cases l with
      | zero => exact ⟨by omega, fun _ => by omega⟩
      | succ l =>
        obtain ⟨q, -⟩ := g2
        exact absurd c (ne_mD q)
    · have := i2 c
      have a4 := a4.resolve_left (fun g => c (eq_m1 g))
      exact ⟨by omega, fun _ => by omega⟩
theorem lp_iL : ∀ {l : Nat} {n : Nat} {u : Int32}, un σ l u.toInt → l ≤ n → (iL σ l u.toInt ↔ ¬ lpO σ n u = -1) := by
  intro l
  induction l with
  | zero =>
    intro n u hu hn
    have e : u = -1 := eq_m1 hu
    subst e
    have : lpO σ n (-1) = -1 := by
      cases n with
      | zero => rfl
      | succ n => exact if_pos rfl
    exact ⟨fun g => g.elim, fun g => absurd this g⟩
  | succ l ih =>
    intro n u hu hn
    obtain ⟨g1, g2⟩ := hu
    have nn := ne_mD g1
    have e : uO σ u = ia σ 13 u.toInt.toNat := if_neg nn
    have ek : kO σ u = ia σ 8 u.toInt.toNat := if_neg nn
    rw [← e] at g2
    cases n with
    | zero => omega
    | succ n =>
      have ih := ih (n := n) g2 (by omega)
      have e2 : lpO σ (n + 1) u = if 38 ≤ (kO σ u).toInt ∧ (kO σ u).toInt ≤ 41 then u else lpO σ n (uO σ u) := if_neg nn
      have e3 : iL σ (l + 1) u.toInt ↔ ((38 ≤ (kO σ u).toInt ∧ (kO σ u).toInt ≤ 41) ∨ iL σ l (uO σ u).toInt) := by
        rw [ek, e]
        exact Iff.rfl
      rw [e3, e2]
      by_cases c : 38 ≤ (kO σ u).toInt ∧ (kO σ u).toInt ≤ 41
      · rw [if_pos c]
        exact ⟨fun _ => nn, fun _ => Or.inl c⟩
      · rw [if_neg c, ← ih]
        exact ⟨fun q => q.resolve_left c, Or.inr⟩
theorem w_inLoop (H : RH m σ b h) (D : DI σ) (h0 : 0 ≤ v.toInt) (h1 : v.toInt < (σ.1 19).toInt) : wq (vc lim (d + 1) m_Ref_inLoop [.inr (.inr (some m)), .inl v] h) (rI fun x h' => h' = h ∧ bo (¬ lpO σ (σ.1 19).toInt.toNat (uO σ v) = -1) x) := by
  obtain ⟨l, hl⟩ := DI_un D h0 h1
  have e : uO σ v = ia σ 13 v.toInt.toNat := if_neg (nn_m h0)
  rw [← e] at hl
  have hu := un_len D hl (dN_u D (Or.inr ⟨h0, h1⟩))
  refine wq_eq e_Ref_inLoop (w_r13 H (dN_v D h0 h1) (bo_c (wi_loop H l 0 _ hl (Or.inl rfl)) ?_))
  rw [← lp_iL hl (by omega)]
  exact ⟨fun q => q.resolve_left (by decide), Or.inr⟩
theorem w_isObject (H : RH m σ b h) (O : OKV σ) (D : DI σ) (hv : dN σ v) : wq (vc lim (d + 2) m_Ref_isObject [.inr (.inr (some m)), .inl v, .inl w] h) (rI fun x h' => h' = h ∧ bo (kO σ v = w) x) := wq_eq e_Ref_isObject (w_kd H O D hv fi_if)
theorem w_ob {X : Nat × Nat → ah_H → Option ah_R} {K : Int32 → ah_H → Option ah_R} (H : RH m σ b h) (hv : vD v.toInt) (T : tOK σ v) (s : (σ.1 7).toInt ≤ 512) (t : (σ.1 9).toInt ≤ 128) (k : ∀ x : Int32, 0 ≤ x.toInt → x.toInt < 10100 → (∀ j, tF σ v j = sF σ x.toInt.toNat j) → wq (K x h) Φ) : wq (ah_at h (some m) 11 fun _ _ => ah_cI (vc lim (d + 1) 49 [.inr (.inr (some m)), .inl v] h) X K) Φ := by
  refine wq_at H.1 (wq_cI (P := fun x h' => h' = h ∧ 0 ≤ x.toInt ∧ x.toInt < 10100 ∧ ∀ j, tF σ v j = sF σ x.toInt.toNat j) (wq_eq e_Ref_objectOf (w_r8 H hv (wq_if _ (fun c => ?_) (fun c => ?_)))) ?_)
  · rcases T with ⟨-, g0, g1⟩ | ⟨k1, -, -⟩
    · exact w_r9 H hv (wq_some (rI_i ⟨rfl, g0, by omega, fun j => if_pos c⟩))
    · exact absurd (c.symm.trans k1) (by decide)
  · rcases T with ⟨k1, -, -⟩ | ⟨k1, g0, g1⟩
    · exact absurd k1 c
    · have e : (9216 : Int32).toInt = 9216 := rfl
      have e2 : ((9216 : Int32) + gO σ v).toInt = 9216 + (gO σ v).toInt := by rw [ad_i (by omega) (by omega), e]
      refine w_r9 H hv (wq_some (rI_i ⟨rfl, by omega, by omega, fun j => (if_neg c).trans ?_⟩))
      rw [show ((9216 : Int32) + gO σ v).toInt.toNat = 9216 + (gO σ v).toInt.toNat by omega]
  · rintro x h1 ⟨e, x0, x1, x2⟩
    cases e
    exact k x x0 x1 x2
theorem w_is {X : Nat × Nat → ah_H → Option ah_R} {K : ah_H → Int32 → Option ah_R} (H : RH m σ b h) (hv : vD v.toInt) (T : tOK σ v) (s : (σ.1 7).toInt ≤ 512) (t : (σ.1 9).toInt ≤ 128) (k : wq (K h (tF σ v 0)) Φ) : wq (ah_gR h (some m) 11 1 fun r => ah_at h (some m) 11 fun _ _ => ah_cI (vc lim (d + 1) 49 [.inr (.inr (some m)), .inl v] h) X fun i h' => ah_lI h' r 103 i (K h')) Φ := by
  refine wq_gR H.1 rfl (w_ob H hv T s t (fun x x0 x1 x2 => ra_I H (by omega) rfl rfl x0 (by show _ < (10100 : Int); omega) ?_))
  rw [x2] at k
  exact k
theorem w_ln {X : Nat × Nat → ah_H → Option ah_R} {K : ah_H → Int32 → Option ah_R} (H : RH m σ b h) (hv : vD v.toInt) (T : tOK σ v) (s : (σ.1 7).toInt ≤ 512) (t : (σ.1 9).toInt ≤ 128) (r1 : tF σ v 0 = 1) (k : wq (K h (tF σ v 1)) Φ) : wq (ah_gR h (some m) 11 2 fun r => ah_at h (some m) 11 fun _ _ => ah_cI (vc lim (d + 1) 49 [.inr (.inr (some m)), .inl v] h) X fun i h' => ah_lI h' r 103 i (K h')) Φ := by
  refine wq_gR H.1 rfl (w_ob H hv T s t (fun x x0 x1 x2 => ra_I H (by omega) rfl rfl x0 (by show _ < (10100 : Int); omega) ?_))
  rw [x2] at k
  rw [x2] at r1
  have e : sF σ x.toInt.toNat 1 = ia σ 1 x.toInt.toNat := if_pos r1
  rw [e] at k
  exact k
theorem w_rowObject (H : RH m σ b h) (O : OKV σ) (D : DI σ) (hv : dN σ v) (s : (σ.1 7).toInt ≤ 512) (t : (σ.1 9).toInt ≤ 128) (hT : (kO σ v = 80 ∨ kO σ v = 81) → tOK σ v) : wq (vc lim (d + 3) m_Ref_rowObject [.inr (.inr (some m)), .inl v] h) (rI fun x h' => h' = h ∧ bo (tOK σ v ∧ tF σ v 0 = 1) x) := by
  have ne : (kO σ v = 80 ∨ kO σ v = 81) → vD v.toInt := fun q => by
    rcases hv with rfl | ⟨h0, h1⟩
    · exact q.elim (fun g => absurd (kO_m1.symm.trans g) (by decide)) (fun g => absurd (kO_m1.symm.trans g) (by decide))
    · exact dN_v D h0 h1
  refine wq_eq e_Ref_rowObject (wq_at H.1 (wq_cI (w_isObject H O D hv) ?_))
  rintro y h1 ⟨rfl, b1⟩
  refine wq_if _ (fun c => wq_at H.1 (wq_cI (w_isObject H O D hv) ?_)) (fun c => ?_)
  · rintro y h1 ⟨rfl, b2⟩
    refine wq_if _ (fun c2 => r0 rfl (fun q => q.1.elim (fun g => bo_n b1 c g.1) (fun g => bo_n b2 c2 g.1))) (fun c2 => ?_)
    have g : kO σ v = 80 ∨ kO σ v = 81 := Or.inr (bo_p b2 c2)
    exact w_is H (ne g) (hT g) s t (bo_c fi_if ⟨fun q => ⟨hT g, q⟩, fun q => q.2⟩)
  · have g : kO σ v = 80 ∨ kO σ v = 81 := Or.inl (bo_p b1 c)
    exact w_is H (ne g) (hT g) s t (bo_c fi_if ⟨fun q => ⟨hT g, q⟩, fun q => q.2⟩)
theorem w_aims (H : RH m σ b h) (O : OKV σ) (D : DI σ) (hv : dN σ v) (hw : w = 80 ∨ w = 81) : wq (vc lim (d + 3) m_Ref_aims [.inr (.inr (some m)), .inl v, .inl w] h) (rI fun x h' => h' = h ∧ bo (tgK σ v w) x) := by
  have one : (kO σ v = 82 ∨ kO σ v = 83) → wq (ah_val lim ah_P (d + 2) 52 25 [some (.inr (.inr (some m))), some (.inl v), some (.inl w), none] [.inl (1 : Int32)] h) (rI fun x h' => h' = h ∧ bo (tgK σ v w) x) := by
    intro c
    have nw : ¬ kO σ v = w := fun e => by
      rcases hw with rfl | rfl <;> rcases c with c | c <;> exact absurd (e.symm.trans c) (by decide)
    rcases id hv with rfl | ⟨h0, h1⟩
    · exact c.elim (fun g => absurd (kO_m1.symm.trans g) (by decide)) (fun g => absurd (kO_m1.symm.trans g) (by decide))
    exact wq_eq q_52_25 (wq_f (by decide) (w_r11 H (dN_v D h0 h1) (wq_at H.1 (bo_c (fr_cI (w_isObject H O D (dN_ch D hv 0))) ⟨fun q => Or.inr ⟨c, q⟩, fun q => q.elim (fun g => absurd g nw) (fun g => g.2)⟩))))
  refine wq_eq e_Ref_aims (w_kd H O D hv (wq_if _ (fun c => one (Or.inl c)) (fun c => w_kd H O D hv (wq_if _ (fun c2 => one (Or.inr c2)) (fun c2 => wq_eq q_52_25 (wq_t rfl (wq_at H.1 (bo_c (fr_cI (w_isObject H O D hv)) ⟨Or.inl, fun q => q.elim id (fun g => g.1.elim (fun g => absurd g c) (fun g => absurd g c2))⟩))))))))
end Lj
