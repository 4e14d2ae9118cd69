/-! THE LAW, FROM ITS ENTRY -/
section Lg
variable {lim : Nat × Nat} {t d b x m o L : Nat} {xs : Nat → Int32} {κ : kM} {σ : rS} {h : ah_H} {v4 : Int32}
theorem cb_ok {i a e : Int32} : cb i a e ↔ okK i a e := by
  have e0 : (0 : Int32).toInt = 0 := rfl
  have e1 : (1 : Int32).toInt = 1 := rfl
  have e2 : (2 : Int32).toInt = 2 := rfl
  have e6 : (64 : Int32).toInt = 64 := rfl
  have em : (-2147483647 : Int32).toInt = -2147483647 := rfl
  have q : ∀ (y : Int32) (k : Int) (z : Int32), z.toInt = k → (y = z ↔ y.toInt = k) := fun y k z hz => ⟨fun h => by rw [h, hz], fun h => i32_of h hz⟩
  unfold cb okK
  by_cases c0 : i = 0
  · rw [if_pos c0, q a 0 0 e0, q e 0 0 e0]
    have := (q i 0 0 e0).mp c0
    omega
  · rw [if_neg c0]
    have c0 : ¬ i.toInt = 0 := fun h => c0 ((q i 0 0 e0).mpr h)
    by_cases c1 : i = 1
    · rw [if_pos c1, q e 0 0 e0, Int32.lt_iff_toInt_lt, Int32.le_iff_toInt_le, e1, e6]
      have := (q i 1 1 e1).mp c1
      omega
    · rw [if_neg c1]
      have c1 : ¬ i.toInt = 1 := fun h => c1 ((q i 1 1 e1).mpr h)
      by_cases c2 : i = 2
      · rw [if_pos c2, Int32.lt_iff_toInt_lt, Int32.lt_iff_toInt_lt, Int32.le_iff_toInt_le, em]
        have := (q i 2 2 e2).mp c2
        omega
      · rw [if_neg c2]
        have c2 : ¬ i.toInt = 2 := fun h => c2 ((q i 2 2 e2).mpr h)
        constructor
        · exact fun h => h.elim
        · intro h
          omega
theorem lg_self {z : Int64} : (lg_cmp z z) = 0 := by
  unfold lg_cmp
  rw [if_neg (show ¬ z > z from fun h => absurd (Int64.lt_iff_toInt_lt.mp h) (by omega)), if_pos rfl]
theorem k_128 (B : LB b x m o L xs t κ σ h) (S : sgR x (σ.1 7) h) (R : rmT lim t h) (I : ixT v4 t L) (K : nxT lim d b x m o L xs t v4) : wq (ah_val lim ah_P (d + 230) 278 128 [some (.inr (.inr (some b))), some (.inr (.inr (some x))), some (.inr (.inr (some m))), some (.inr (.inr (some o))), some (.inl v4), none, none, none] [] h) (rI fun z _ => z = 1) := by
  have n1 := (LB_R B).2.2.2.1.1.1
  have n2 := (LB_R B).2.2.2.1.1.2.1
  have ht : t < 512 := by obtain ⟨-, i2, i3⟩ := I; omega
  refine wq_eq q_278_128 (L_rd B (ir1 I).1 (ir1 I).2 (L_rd B (ir2 I).1 (ir2 I).2 (L_rd B (ir3 I).1 (ir3 I).2 (wq_cI (L_signal (d := d + 209) B S (rmT_1 R I)) ?_))))
  rintro k h4 ⟨κ', cnt', B4, S4, r1, r2, hk⟩
  refine L_rd B4 (ir1 I).1 (ir1 I).2 (L_rd B4 (ir2 I).1 (ir2 I).2 (L_rd B4 (ir3 I).1 (ir3 I).2 (wq_at (LB_H B4).1 (wq_cI (v_signal (d := d + 227) (LB_H B4) (LB_R B4)) ?_))))
  rintro y h9 ⟨σ', H9, R9, hs⟩
  have B9 := LB_ref B4 H9 R9
  have S9 := sgR_ref B4 S4 H9
  have rr : rmT lim (t + 1) h9 := by
    obtain ⟨q1, q2⟩ := R
    exact ⟨by rw [H9.2.2.2.1]; omega, by rw [H9.2.2.2.2]; omega⟩
  refine wq_at (LB_H B9).1 (wq_cI (v_thrown (d := d + 229) (LB_H B9)) ?_)
  rintro z h11 ⟨rfl, rfl⟩
  have nx : cnt' = σ'.1 7 → wq (ah_val lim ah_P (d + 230) 278 973 [some (.inr (.inr (some b))), some (.inr (.inr (some x))), some (.inr (.inr (some m))), some (.inr (.inr (some o))), some (.inl v4), none, none, none] [] h11) (rI fun z _ => z = 1) := fun e => K κ' σ' h11 B9 (by rw [← e]; exact S9) rr
  rcases hk with ⟨rfl, k2, k3⟩ | ⟨rfl, k2, k3, k4⟩ | ⟨rfl, k2, k3, k4, k5⟩
  · rcases hs with ⟨s1, s2, s3⟩ | ⟨s1, s2, -⟩ | ⟨s1, s2, -⟩
    · exact wq_t s1 (wq_f (by decide) (nx (by rw [k3, s3.1])))
    · exact absurd (cb_ok.mpr s2) k2
    · exact absurd (cb_ok.mpr s2) k2
  · rcases hs with ⟨s1, s2, s3⟩ | ⟨s1, s2, s3, s4⟩ | ⟨s1, s2, s3, -⟩
    · exact absurd (cb_ok.mp k2) s2
    · exact wq_t s1 (wq_f (by decide) (nx (by rw [k4, s4.1])))
    · omega
  · rcases hs with ⟨s1, s2, s3⟩ | ⟨s1, s2, s3, s4⟩ | ⟨s1, s2, s3, s4, s5, -⟩
    · exact absurd (cb_ok.mp k2) s2
    · omega
    · refine wq_t s1 (wq_t rfl ?_)
      have eo : h11.1 o = some (101, [aJ (σ.1 7).toInt64]) := (H9.2.2.1 o (by have := B4.2.2.2.2.2.2.2.2.2.2; omega)).trans k5
      refine wq_lJ eo (by decide) (y := (σ.1 7).toInt64) rfl ?_
      rw [s4]
      refine wq_t lg_self (nx ?_)
      have e1 : (1 : Int32).toInt = 1 := rfl
      rw [k4]
      exact Int32.toInt_inj.mp (by rw [ad_i (by omega) (by omega), e1, s5])
theorem k_312 (B : LB b x m o L xs t κ σ h) (S : sgR x (σ.1 7) h) (R : rmT lim t h) (I : ixT v4 t L) (K : nxT lim d b x m o L xs t v4) : wq (ah_val lim ah_P (d + 230) 278 312 [some (.inr (.inr (some b))), some (.inr (.inr (some x))), some (.inr (.inr (some m))), some (.inr (.inr (some o))), some (.inl v4), none, none, none] [] h) (rI fun z _ => z = 1) := by
  refine wq_eq q_278_312 (wq_cI (L_process (d := d + 209) B S (by obtain ⟨-, i2, i3⟩ := I; omega) (rmT_1 R I)) ?_)
  rintro i h4 ⟨κ', B4, S4, r1, r2⟩
  refine wq_at (LB_H B4).1 (wq_cI (v_process (d := d + 224) (LB_H B4) (LB_R B4)) ?_)
  rintro y h9 hp
  exact kN B4 S4 hp R I r1 r2 K
theorem LB_1 (B : LB b x m o L xs t κ σ h) : LB b x m o L xs (t + 1) κ σ h := LB_class B (cS_0 B (by omega))
theorem k_328 (B : LB b x m o L xs t κ σ h) (S : sgR x (σ.1 7) h) (R : rmT lim t h) (I : ixT v4 t L) (K : nxT lim d b x m o L xs t v4) : wq (ah_val lim ah_P (d + 230) 278 328 [some (.inr (.inr (some b))), some (.inr (.inr (some x))), some (.inr (.inr (some m))), some (.inr (.inr (some o))), some (.inl v4), none, none, none] [] h) (rI fun z _ => z = 1) := by
  refine wq_eq q_278_328 (L_ax B (wq_cI (s_Code_processes (d := d + 229) B.2.1 B.2.2.2.1) ?_))
  rintro i h4 ⟨rfl, -⟩
  refine wq_at (LB_H B).1 (wq_cI (v_processes (d := d + 229) (LB_H B) (LB_R B)) ?_)
  rintro y h9 hp
  exact kN (LB_1 B) S hp R I (by omega) (by omega) K
theorem k_828 (B : LB b x m o L xs t κ σ h) (S : sgR x (σ.1 7) h) (R : rmT lim t h) (I : ixT v4 t L) (K : nxT lim d b x m o L xs t v4) : wq (ah_val lim ah_P (d + 230) 278 828 [some (.inr (.inr (some b))), some (.inr (.inr (some x))), some (.inr (.inr (some m))), some (.inr (.inr (some o))), some (.inl v4), none, none, none] [] h) (rI fun z _ => z = 1) := by
  refine wq_eq q_278_828 (L_ax B (wq_cI (s_Code_acts (d := d + 229) B.2.1 B.2.2.2.1) ?_))
  rintro i h4 ⟨rfl, -⟩
  refine wq_at (LB_H B).1 (wq_cI (v_acts (d := d + 229) (LB_H B) (LB_R B)) ?_)
  rintro y h9 hp
  exact kN (LB_1 B) S hp R I (by omega) (by omega) K
theorem k_362 {s1 s2 : Int32} (z2 : s2 = 0 ∨ s2 = 1) (B : LB b x m o L xs t κ σ h) (S : sgR x (σ.1 7) h) (R : rmT lim t h) (I : ixT v4 t L) (K : nxT lim d b x m o L xs t v4) : wq (ah_val lim ah_P (d + 230) 278 362 [some (.inr (.inr (some b))), some (.inr (.inr (some x))), some (.inr (.inr (some m))), some (.inr (.inr (some o))), some (.inl v4), none, none, none] [.inl s2, .inl s1, .inr (.inr (some x))] h) (rI fun z _ => z = 1) := by
  refine wq_eq q_278_362 (L_rd B (ir3 I).1 (ir3 I).2 (L_rd B (ir4 I).1 (ir4 I).2 (wq_cI (L_put (d := d + 209) B S z2 (rmT_0 R I)) ?_)))
  rintro i h4 ⟨κ', B4, S4, r1, r2⟩
  refine L_rd B4 (ir1 I).1 (ir1 I).2 (L_rd B4 (ir2 I).1 (ir2 I).2 (wq_if _ (fun _ => ?_) (fun _ => ?_)))
  · refine L_rd B4 (ir3 I).1 (ir3 I).2 (L_rd B4 (ir4 I).1 (ir4 I).2 (wq_at (LB_H B4).1 (wq_cV (v_put (d := d + 227) (LB_H B4) (LB_R B4)) ?_)))
    rintro h9 ⟨σ', a1, a2, a3, -⟩
    exact kN B4 S4 ⟨σ', a1, a2, a3⟩ R I r1 r2 K
  · refine L_rd B4 (ir3 I).1 (ir3 I).2 (L_rd B4 (ir4 I).1 (ir4 I).2 (wq_at (LB_H B4).1 (wq_cV (v_put (d := d + 227) (LB_H B4) (LB_R B4)) ?_)))
    rintro h9 ⟨σ', a1, a2, a3, -⟩
    exact kN B4 S4 ⟨σ', a1, a2, a3⟩ R I r1 r2 K
theorem k_341 (B : LB b x m o L xs t κ σ h) (S : sgR x (σ.1 7) h) (R : rmT lim t h) (I : ixT v4 t L) (K : nxT lim d b x m o L xs t v4) : wq (ah_val lim ah_P (d + 230) 278 341 [some (.inr (.inr (some b))), some (.inr (.inr (some x))), some (.inr (.inr (some m))), some (.inr (.inr (some o))), some (.inl v4), none, none, none] [] h) (rI fun z _ => z = 1) :=
  wq_eq q_278_341 (L_rd B (ir1 I).1 (ir1 I).2 (L_rd B (ir2 I).1 (ir2 I).2 (wq_if _ (fun _ => k_362 (Or.inl rfl) B S R I K) (fun _ => k_362 (Or.inr rfl) B S R I K))))
theorem k_453 {s1 s2 s3 : Int32} (z2 : s2 = 0 ∨ s2 = 1) (z3 : s3 = 0 ∨ s3 = 1) (B : LB b x m o L xs t κ σ h) (S : sgR x (σ.1 7) h) (R : rmT lim t h) (I : ixT v4 t L) (K : nxT lim d b x m o L xs t v4) : wq (ah_val lim ah_P (d + 230) 278 453 [some (.inr (.inr (some b))), some (.inr (.inr (some x))), some (.inr (.inr (some m))), some (.inr (.inr (some o))), some (.inl v4), none, none, none] [.inl s3, .inl s2, .inl s1, .inr (.inr (some x))] h) (rI fun z _ => z = 1) := by
  refine wq_eq q_278_453 (wq_cI (L_mark (d := d + 209) B S z2 z3 (rmT_0 R I)) ?_)
  rintro i h4 ⟨κ', B4, S4, r1, r2⟩
  have go : ∀ (e3 a c : Int32), (a = 0 ∨ a = 1) → (c = 0 ∨ c = 1) → wq (ah_at h4 (some m) 11 fun _ _ => ah_cV (vc lim (d + 230) 36 [.inr (.inr (some m)), .inl e3, .inl a, .inl c] h4) (nx h4) fun h6 => ah_val lim ah_P (d + 230) 278 973 [some (.inr (.inr (some b))), some (.inr (.inr (some x))), some (.inr (.inr (some m))), some (.inr (.inr (some o))), some (.inl v4), none, none, none] [] h6) (rI fun z _ => z = 1) := by
    intro e3 a c ha hc
    refine wq_at (LB_H B4).1 (wq_cV (v_mark (d := d + 229) (LB_H B4) (LB_R B4) ha hc) ?_)
    rintro h9 ⟨σ', a1, a2, a3, -⟩
    exact kN B4 S4 ⟨σ', a1, a2, a3⟩ R I r1 r2 K
  refine L_rd B4 (ir1 I).1 (ir1 I).2 (L_rd B4 (ir2 I).1 (ir2 I).2 (wq_if _ (fun _ => ?_) (fun _ => ?_)))
  · exact L_rd B4 (ir3 I).1 (ir3 I).2 (wq_if _ (fun _ => go _ _ _ (Or.inl rfl) (Or.inl rfl)) (fun _ => go _ _ _ (Or.inl rfl) (Or.inr rfl)))
  · exact L_rd B4 (ir3 I).1 (ir3 I).2 (wq_if _ (fun _ => go _ _ _ (Or.inr rfl) (Or.inl rfl)) (fun _ => go _ _ _ (Or.inr rfl) (Or.inr rfl)))
theorem k_418 (B : LB b x m o L xs t κ σ h) (S : sgR x (σ.1 7) h) (R : rmT lim t h) (I : ixT v4 t L) (K : nxT lim d b x m o L xs t v4) : wq (ah_val lim ah_P (d + 230) 278 418 [some (.inr (.inr (some b))), some (.inr (.inr (some x))), some (.inr (.inr (some m))), some (.inr (.inr (some o))), some (.inl v4), none, none, none] [] h) (rI fun z _ => z = 1) := by
  refine wq_eq q_278_418 (L_rd B (ir1 I).1 (ir1 I).2 (L_rd B (ir2 I).1 (ir2 I).2 (wq_if _ (fun _ => ?_) (fun _ => ?_))))
  · exact L_rd B (ir3 I).1 (ir3 I).2 (wq_if _ (fun _ => k_453 (Or.inl rfl) (Or.inl rfl) B S R I K) (fun _ => k_453 (Or.inl rfl) (Or.inr rfl) B S R I K))
  · exact L_rd B (ir3 I).1 (ir3 I).2 (wq_if _ (fun _ => k_453 (Or.inr rfl) (Or.inl rfl) B S R I K) (fun _ => k_453 (Or.inr rfl) (Or.inr rfl) B S R I K))
theorem law_loop (hL : L ≤ 2560) : ∀ (r t : Nat) (κ : kM) (σ : rS) (h : ah_H) (v4 : Int32), 513 - t < r → t ≤ 513 → v4.toInt = (5 * t : Nat) → LB b x m o L xs t κ σ h → sgR x (σ.1 7) h → rmT lim t h → wq (ah_val lim ah_P (d + 230) 278 23 [some (.inr (.inr (some b))), some (.inr (.inr (some x))), some (.inr (.inr (some m))), some (.inr (.inr (some o))), some (.inl v4), none, none, none] [] h) (rI fun z _ => z = 1) := by
  have e5 : (5 : Int32).toInt = 5 := rfl
  intro r
  induction r with
  | zero => intros; omega
  | succ r ih =>
    intro t κ σ h v4 hr ht h4 B S R
    refine wq_eq q_278_23 (wq_len B.1 (by decide) ?_)
    rw [List.length_map, List.length_range]
    have eL : (Nat.toInt32 L).toInt = L := i32n (by omega)
    have el : (Nat.toInt32 L - (5 : Int32)).toInt = L - 5 := by rw [sb_i (by omega) (by omega), eL, e5]
    refine wq_if _ (fun c => ?_) (fun c => wq_t (Or.inr rfl) (wq_some (rI_i rfl)))
    have c := le_i c
    have I : ixT v4 t L := ⟨h4, by omega, hL⟩
    have K : nxT lim d b x m o L xs t v4 := fun κ σ h B S R => by
      refine wq_eq q_278_973 (ih (t + 1) κ σ h _ (by omega) (by omega) ?_ B S R)
      rw [ad_i (by omega) (by omega), e5]
      omega
    have K0 : wq (ah_val lim ah_P (d + 230) 278 973 [some (.inr (.inr (some b))), some (.inr (.inr (some x))), some (.inr (.inr (some m))), some (.inr (.inr (some o))), some (.inl v4), none, none, none] [] h) (rI fun z _ => z = 1) := K κ σ h (LB_1 B) S ⟨by have := R.1; omega, by have := R.2; omega⟩
    refine L_rd B (by omega) (by omega) ?_
    refine wq_if _ (fun _ => k_128 B S R I K) (fun _ => ?_)
    refine wq_if _ (fun _ => k_208 B S R I K) (fun _ => ?_)
    refine wq_if _ (fun _ => k_260 B S R I K) (fun _ => ?_)
    refine wq_if _ (fun _ => k_312 B S R I K) (fun _ => ?_)
    refine wq_if _ (fun _ => k_328 B S R I K) (fun _ => ?_)
    refine wq_if _ (fun _ => k_341 B S R I K) (fun _ => ?_)
    refine wq_if _ (fun _ => k_418 B S R I K) (fun _ => ?_)
    refine wq_if _ (fun _ => k_499 B S R I K) (fun _ => ?_)
    refine wq_if _ (fun _ => k_539 B S R I K) (fun _ => ?_)
    refine wq_if _ (fun _ => k_600 B S R I K) (fun _ => ?_)
    refine wq_if _ (fun _ => k_652 B S R I K) (fun _ => ?_)
    refine wq_if _ (fun _ => k_692 B S R I K) (fun _ => ?_)
    refine wq_if _ (fun _ => k_720 B S R I K) (fun _ => ?_)
    refine wq_if _ (fun _ => k_760 B S R I K) (fun _ => ?_)
    refine wq_if _ (fun _ => k_800 B S R I K) (fun _ => ?_)
    refine wq_if _ (fun _ => k_828 B S R I K) (fun _ => ?_)
    refine wq_if _ (fun _ => k_841 B S R I K) (fun _ => ?_)
    refine wq_if _ (fun _ => k_881 B S R I K) (fun _ => ?_)
    exact wq_if _ (fun _ => k_933 B S R I K) (fun _ => K0)
end Lg
