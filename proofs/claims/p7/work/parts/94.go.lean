/-! THE LAW, FROM ITS ENTRY -/
section Lg
variable {lim : Nat × Nat} {t d b x m o L : Nat} {xs : Nat → Int32} {κ : kM} {σ : rS} {h : ah_H} {v4 : Int32}
theorem cb_ok {i a e : Int32} : cb i a e ↔ okK i a e := by
  have e0 : (0 : Int32).toInt = 0 := rfl
  have e1 : (1 : Int32).toInt = 1 := rfl
  have e2 : (2 : Int32).toInt = 2 := rfl
  have e6 : (64 : Int32).toInt = 64 := rfl
  have em : (-2147483647 : Int32).toInt = -2147483647 := rfl
  have q : ∀ (y : Int32) (k : Int) (z : Int32), z.toInt = k → (y = z ↔ y.toInt = k) := fun y k z hz => ⟨fun h => by rw [h, hz], fun h => i32_of h hz⟩
  unfold cb okK
  by_cases c0 : i = 0
  · rw [if_pos c0, q a 0 0 e0, q e 0 0 e0]
    have := (q i 0 0 e0).mp c0
    omega
  · rw [if_neg c0]
    have c0 : ¬ i.toInt = 0 := fun h => c0 ((q i 0 0 e0).mpr h)
    by_cases c1 : i = 1
    · rw [if_pos c1, q e 0 0 e0, Int32.lt_iff_toInt_lt, Int32.le_iff_toInt_le, e1, e6]
      have := (q i 1 1 e1).mp c1
      omega
    · rw [if_neg c1]
      have c1 : ¬ i.toInt = 1 := fun h => c1 ((q i 1 1 e1).mpr h)
      by_cases c2 : i = 2
      · rw [if_pos c2, Int32.lt_iff_toInt_lt, Int32.lt_iff_toInt_lt, Int32.le_iff_toInt_le, em]
        have := (q i 2 2 e2).mp c2
        omega
      · rw [if_neg c2]
        have c2 : ¬ i.toInt = 2 := fun h => c2 ((q i 2 2 e2).mpr h)
        constructor
        · exact fun h => h.elim
        · intro h
          omega
theorem lg_self {z : Int64} : (lg_cmp z z) = 0 := by
  unfold lg_cmp
  rw [if_neg (show ¬ z > z from fun h => absurd (Int64.lt_iff_toInt_lt.mp h) (by omega)), if_pos rfl]
theorem S_signal {σ σ' : rS} {h4 h9 : ah_H} {cnt' : sV} {v1 v2 v3 k y : Int32} (R : RI σ) (hk : lwK (sv σ) cnt' v1 v2 v3 k o h4) (hs : sP σ v1 v2 v3 y σ') (S : sgR x cnt' h9) : sgR x (sv σ') h9 ∧ σ'.1 0 = k ∧ (k = 0 → y = σ.1 7 ∧ h4.1 o = some (101, [aJ (σ.1 7).toInt64])) := by
  have n1 := R.2.2.2.1.1.1
  have n2 := R.2.2.2.1.1.2.1
  have e1 : (1 : Int32).toInt = 1 := rfl
  obtain ⟨-, hs⟩ := hs
  rcases hk with ⟨rfl, k2, rfl⟩ | ⟨rfl, k2, k3, rfl⟩ | ⟨rfl, k2, k3, rfl, k5⟩
  · rcases hs with ⟨s1, s2, s3⟩ | ⟨s1, s2, -⟩ | ⟨s1, s2, -⟩
    · exact ⟨sv_ref R s3 S, s1, fun h => absurd h (by decide)⟩
    · exact absurd (cb_ok.mpr s2) k2
    · exact absurd (cb_ok.mpr s2) k2
  · have k3 : 512 ≤ (σ.1 7).toInt := k3
    rcases hs with ⟨s1, s2, s3⟩ | ⟨s1, s2, s3, s4⟩ | ⟨s1, s2, s3, -⟩
    · exact absurd (cb_ok.mp k2) s2
    · exact ⟨sv_ref R s4 S, s1, fun h => absurd h (by decide)⟩
    · omega
  · have k3 : (σ.1 7).toInt < 512 := k3
    rcases hs with ⟨s1, s2, s3⟩ | ⟨s1, s2, s3, s4⟩ | ⟨s1, s2, s3, s4, s5, s6, s7, s8, s9, s10⟩
    · exact absurd (cb_ok.mp k2) s2
    · omega
    · refine ⟨sgR_sv S ?_ (fun j i hj hi => ?_), s1, fun _ => ⟨s4, k5⟩⟩
      · show σ'.1 7 = σ.1 7 + 1
        exact Int32.toInt_inj.mp (by rw [ad_i (by omega) (by omega), e1, s5])
      · have hi : (i : Int) < (σ.1 7 + 1).toInt := hi
        rw [ad_i (by omega) (by omega), e1] at hi
        by_cases c : i = (σ.1 7).toInt.toNat
        · subst c
          have q : (svS (sv σ) v1 v2 v3).2 j (σ.1 7).toInt.toNat = svF v1 v2 v3 j := if_pos rfl
          rw [q]
          match j, hj with
          | 0, _ => exact s7
          | 1, _ =>
            show (if ia σ' 0 (σ.1 7).toInt.toNat = 1 then ia σ' 1 (σ.1 7).toInt.toNat else 1) = (if v1 = 1 then v2 else 1)
            rw [s7, s8]
            by_cases c1 : v1 = 1
            · rw [if_pos c1, if_pos c1, if_pos c1]
            · rw [if_neg c1, if_neg c1]
          | 2, _ =>
            show (if ia σ' 0 (σ.1 7).toInt.toNat = 2 then ia σ' 2 (σ.1 7).toInt.toNat else 0) = (if v1 = 2 then v2 else 0)
            rw [s7, s9]
          | 3, _ =>
            show (if ia σ' 0 (σ.1 7).toInt.toNat = 2 then ia σ' 3 (σ.1 7).toInt.toNat else 8) = (if v1 = 2 then v3 else 8)
            rw [s7, s10]
        · have q : (svS (sv σ) v1 v2 v3).2 j i = (sv σ).2 j i := if_neg c
          rw [q]
          exact sv_eq (fun j hj => s6 j i hj (by omega) c) j hj
theorem k_signal (B : LB b x m o L xs t κ σ h) (S : sgR x (sv σ) h) (R : rmT lim t h) (I : ixT v4 t L) (K : nxT lim d b x m o L xs t v4) : wq (ah_val lim ah_P (d + 230) 278 128 [some (.inr (.inr (some b))), some (.inr (.inr (some x))), some (.inr (.inr (some m))), some (.inr (.inr (some o))), some (.inl v4), none, none, none] [] h) (rI fun z _ => z = 1) := by
  have ht : t < 512 := by obtain ⟨-, i2, i3⟩ := I; omega
  refine wq_eq q_278_128 (L_rd B (ir1 I).1 (ir1 I).2 (L_rd B (ir2 I).1 (ir2 I).2 (L_rd B (ir3 I).1 (ir3 I).2 (wq_cI (L_signal (d := d + 209) B S (rmT_1 R I)) ?_))))
  rintro k h4 ⟨κ', cnt', B4, S4, r1, r2, hk⟩
  refine L_rd B4 (ir1 I).1 (ir1 I).2 (L_rd B4 (ir2 I).1 (ir2 I).2 (L_rd B4 (ir3 I).1 (ir3 I).2 (wq_at (LB_H B4).1 (wq_cI (v_signal (d := d + 227) (LB_H B4) (LB_R B4)) ?_))))
  rintro y h9 ⟨σ', H9, hs⟩
  have R9 := hs.1
  obtain ⟨S9, s1, s2⟩ := S_signal (LB_R B) hk hs (sgR_ref B4 S4 H9)
  have B9 := LB_ref B4 H9 R9
  have rr : rmT lim (t + 1) h9 := by
    obtain ⟨q1, q2⟩ := R
    exact ⟨by rw [H9.2.2.2.1]; omega, by rw [H9.2.2.2.2]; omega⟩
  exact K κ' σ' h9 B9 S9 rr
theorem k_process (B : LB b x m o L xs t κ σ h) (S : sgR x (sv σ) h) (R : rmT lim t h) (I : ixT v4 t L) (K : nxT lim d b x m o L xs t v4) : wq (ah_val lim ah_P (d + 230) 278 284 [some (.inr (.inr (some b))), some (.inr (.inr (some x))), some (.inr (.inr (some m))), some (.inr (.inr (some o))), some (.inl v4), none, none, none] [] h) (rI fun z _ => z = 1) := by
  refine wq_eq q_278_284 (wq_cI (L_process (d := d + 209) B S (by obtain ⟨-, i2, i3⟩ := I; omega) (rmT_1 R I)) ?_)
  rintro i h4 ⟨κ', B4, S4, r1, r2⟩
  refine wq_at (LB_H B4).1 (wq_cI (v_process (d := d + 224) (LB_H B4) (LB_R B4)) ?_)
  rintro y h9 hp
  exact kN B4 S4 hp R I r1 r2 K
theorem LB_1 (B : LB b x m o L xs t κ σ h) : LB b x m o L xs (t + 1) κ σ h := LB_class B (cS_0 B (by omega))
theorem k_processes (B : LB b x m o L xs t κ σ h) (S : sgR x (sv σ) h) (R : rmT lim t h) (I : ixT v4 t L) (K : nxT lim d b x m o L xs t v4) : wq (ah_val lim ah_P (d + 230) 278 300 [some (.inr (.inr (some b))), some (.inr (.inr (some x))), some (.inr (.inr (some m))), some (.inr (.inr (some o))), some (.inl v4), none, none, none] [] h) (rI fun z _ => z = 1) := by
  refine wq_eq q_278_300 (L_ax B (wq_cI (s_Code_processes (d := d + 229) B.2.1 B.2.2.2.1) ?_))
  rintro i h4 ⟨rfl, -⟩
  refine wq_at (LB_H B).1 (wq_cI (v_processes (d := d + 229) (LB_H B) (LB_R B)) ?_)
  rintro y h9 hp
  exact kN (LB_1 B) S hp R I (by omega) (by omega) K
theorem k_acts (B : LB b x m o L xs t κ σ h) (S : sgR x (sv σ) h) (R : rmT lim t h) (I : ixT v4 t L) (K : nxT lim d b x m o L xs t v4) : wq (ah_val lim ah_P (d + 230) 278 811 [some (.inr (.inr (some b))), some (.inr (.inr (some x))), some (.inr (.inr (some m))), some (.inr (.inr (some o))), some (.inl v4), none, none, none] [] h) (rI fun z _ => z = 1) := by
  refine wq_eq q_278_811 (L_ax B (wq_cI (s_Code_acts (d := d + 229) B.2.1 B.2.2.2.1) ?_))
  rintro i h4 ⟨rfl, -⟩
  refine wq_at (LB_H B).1 (wq_cI (v_acts (d := d + 229) (LB_H B) (LB_R B)) ?_)
  rintro y h9 hp
  exact kN (LB_1 B) S hp R I (by omega) (by omega) K
theorem pt_eq {s k v x c : Int32} (p : ptP σ s k v x) (hk : (c = 1 ∧ ¬ inE (sv σ) s k) ∨ (inE (sv σ) s k ∧ ((c = 2 ∧ ¬ okE (sv σ) s v) ∨ (c = 0 ∧ okE (sv σ) s v)))) : x = c := by
  have hin : inE (sv σ) s k ↔ (0 ≤ s.toInt ∧ s.toInt < (σ.1 7).toInt ∧ 0 ≤ k.toInt ∧ k.toInt < (if ia σ 0 s.toInt.toNat = 1 then (ia σ 1 s.toInt.toNat).toInt else 1)) := by
    have e : ((sv σ).2 1 s.toInt.toNat).toInt = (if ia σ 0 s.toInt.toNat = 1 then (ia σ 1 s.toInt.toNat).toInt else 1) := by
      show (if ia σ 0 s.toInt.toNat = 1 then ia σ 1 s.toInt.toNat else (1 : Int32)).toInt = _
      by_cases c : ia σ 0 s.toInt.toNat = 1
      · rw [if_pos c, if_pos c]
      · rw [if_neg c, if_neg c]; rfl
    unfold inE
    rw [e]
    exact Iff.rfl
  have hok : okE (sv σ) s v ↔ canP σ s.toInt.toNat v.toInt := by
    show ((if ia σ 0 s.toInt.toNat = 2 then ia σ 2 s.toInt.toNat else (0 : Int32)).toInt ≤ v.toInt ∧ v.toInt ≤ (if ia σ 0 s.toInt.toNat = 2 then ia σ 3 s.toInt.toNat else (8 : Int32)).toInt) ↔ _
    unfold canP
    by_cases c : ia σ 0 s.toInt.toNat = 2
    · rw [if_pos c, if_pos c, if_pos c]
    · rw [if_neg c, if_neg c, if_neg c]
      exact Iff.rfl
  unfold ptP at p
  rw [← hin, ← hok] at p
  rcases p with ⟨p1, p2⟩ | ⟨p1, ⟨p2, p3⟩ | ⟨p2, p3⟩⟩
  · rcases hk with ⟨q1, q2⟩ | ⟨q1, q2⟩
    · rw [p1, q1]
    · exact absurd q1 p2
  · rcases hk with ⟨q1, q2⟩ | ⟨q1, ⟨q2, q3⟩ | ⟨q2, q3⟩⟩
    · exact absurd p1 q2
    · rw [p2, q2]
    · exact absurd q3 p3
  · rcases hk with ⟨q1, q2⟩ | ⟨q1, ⟨q2, q3⟩ | ⟨q2, q3⟩⟩
    · exact absurd p1 q2
    · exact absurd p3 q3
    · rw [p2, q2]
theorem k_put2 {h4 : ah_H} {k s s2 : Int32} (B4 : LB b x m o L xs (t + 1) κ σ h4) (S4 : sgR x (sv σ) h4) (hk : (k = 1 ∧ ¬ inE (sv σ) s (xs (v4 + (3 : Int32)).toInt.toNat)) ∨ (inE (sv σ) s (xs (v4 + (3 : Int32)).toInt.toNat) ∧ ((k = 2 ∧ ¬ okE (sv σ) s (xs (v4 + (4 : Int32)).toInt.toNat)) ∨ (k = 0 ∧ okE (sv σ) s (xs (v4 + (4 : Int32)).toInt.toNat))))) (R : rmT lim t h) (I : ixT v4 t L) (r1 : h4.2.1 ≤ h.2.1 + 20) (r2 : h4.2.2.1 ≤ h.2.2.1 + 6000) (K : nxT lim d b x m o L xs t v4) : wq (ah_val lim ah_P (d + 230) 278 372 [some (.inr (.inr (some b))), some (.inr (.inr (some x))), some (.inr (.inr (some m))), some (.inr (.inr (some o))), some (.inl v4), some (.inl k), none, none] [.inl s2, .inl s, .inr (.inr (some m))] h4) (rI fun z _ => z = 1) := by
  refine wq_eq q_278_372 (L_rd B4 (ir3 I).1 (ir3 I).2 (L_rd B4 (ir4 I).1 (ir4 I).2 (wq_at (LB_H B4).1 (wq_cV (v_put (d := d + 227) (LB_H B4) (LB_R B4)) ?_))))
  rintro h9 ⟨σ', a1, a2, a3, a4⟩
  refine wq_at a1.1 (wq_cI (v_thrown (d := d + 229) a1) ?_)
  rintro z h11 ⟨e, rfl⟩
  cases e
  exact wq_t (pt_eq a4 hk) (kN B4 S4 ⟨σ', a1, a2, a3⟩ R I r1 r2 K)
theorem k_put1 {s2 : Int32} (B : LB b x m o L xs t κ σ h) (S : sgR x (sv σ) h) (R : rmT lim t h) (I : ixT v4 t L) (K : nxT lim d b x m o L xs t v4) : wq (ah_val lim ah_P (d + 230) 278 334 [some (.inr (.inr (some b))), some (.inr (.inr (some x))), some (.inr (.inr (some m))), some (.inr (.inr (some o))), some (.inl v4), none, none, none] [.inl s2, .inl (xs (v4 + (1 : Int32)).toInt.toNat), .inr (.inr (some x))] h) (rI fun z _ => z = 1) := by
  refine wq_eq q_278_334 (L_rd B (ir3 I).1 (ir3 I).2 (L_rd B (ir4 I).1 (ir4 I).2 (wq_cI (L_put (d := d + 209) B S (rmT_0 R I)) ?_)))
  rintro k h4 ⟨κ', B4, S4, r1, r2, hk⟩
  exact L_rd B4 (ir1 I).1 (ir1 I).2 (L_rd B4 (ir2 I).1 (ir2 I).2 (wq_if _ (fun _ => k_put2 B4 S4 hk R I r1 r2 K) (fun _ => k_put2 B4 S4 hk R I r1 r2 K)))
theorem k_put (B : LB b x m o L xs t κ σ h) (S : sgR x (sv σ) h) (R : rmT lim t h) (I : ixT v4 t L) (K : nxT lim d b x m o L xs t v4) : wq (ah_val lim ah_P (d + 230) 278 313 [some (.inr (.inr (some b))), some (.inr (.inr (some x))), some (.inr (.inr (some m))), some (.inr (.inr (some o))), some (.inl v4), none, none, none] [] h) (rI fun z _ => z = 1) :=
  wq_eq q_278_313 (L_rd B (ir1 I).1 (ir1 I).2 (L_rd B (ir2 I).1 (ir2 I).2 (wq_if _ (fun _ => k_put1 B S R I K) (fun _ => k_put1 B S R I K))))
theorem k_mark1 {s1 s2 s3 : Int32} (z2 : s2 = 0 ∨ s2 = 1) (z3 : s3 = 0 ∨ s3 = 1) (B : LB b x m o L xs t κ σ h) (S : sgR x (sv σ) h) (R : rmT lim t h) (I : ixT v4 t L) (K : nxT lim d b x m o L xs t v4) : wq (ah_val lim ah_P (d + 230) 278 436 [some (.inr (.inr (some b))), some (.inr (.inr (some x))), some (.inr (.inr (some m))), some (.inr (.inr (some o))), some (.inl v4), none, none, none] [.inl s3, .inl s2, .inl s1, .inr (.inr (some x))] h) (rI fun z _ => z = 1) := by
  refine wq_eq q_278_436 (wq_cI (L_mark (d := d + 209) B S z2 z3 (rmT_0 R I)) ?_)
  rintro i h4 ⟨κ', B4, S4, r1, r2, -⟩
  have go : ∀ (e3 a c : Int32), (a = 0 ∨ a = 1) → (c = 0 ∨ c = 1) → wq (ah_at h4 (some m) 11 fun _ _ => ah_cV (vc lim (d + 230) 36 [.inr (.inr (some m)), .inl e3, .inl a, .inl c] h4) (nx h4) fun h6 => ah_val lim ah_P (d + 230) 278 956 [some (.inr (.inr (some b))), some (.inr (.inr (some x))), some (.inr (.inr (some m))), some (.inr (.inr (some o))), some (.inl v4), none, none, none] [] h6) (rI fun z _ => z = 1) := by
    intro e3 a c ha hc
    refine wq_at (LB_H B4).1 (wq_cV (v_mark (d := d + 229) (LB_H B4) (LB_R B4) ha hc) ?_)
    rintro h9 ⟨σ', a1, a2, a3, -⟩
    exact kN B4 S4 ⟨σ', a1, a2, a3⟩ R I r1 r2 K
  refine L_rd B4 (ir1 I).1 (ir1 I).2 (L_rd B4 (ir2 I).1 (ir2 I).2 (wq_if _ (fun _ => ?_) (fun _ => ?_)))
  · exact L_rd B4 (ir3 I).1 (ir3 I).2 (wq_if _ (fun _ => go _ _ _ (Or.inl rfl) (Or.inl rfl)) (fun _ => go _ _ _ (Or.inl rfl) (Or.inr rfl)))
  · exact L_rd B4 (ir3 I).1 (ir3 I).2 (wq_if _ (fun _ => go _ _ _ (Or.inr rfl) (Or.inl rfl)) (fun _ => go _ _ _ (Or.inr rfl) (Or.inr rfl)))
theorem k_mark (B : LB b x m o L xs t κ σ h) (S : sgR x (sv σ) h) (R : rmT lim t h) (I : ixT v4 t L) (K : nxT lim d b x m o L xs t v4) : wq (ah_val lim ah_P (d + 230) 278 401 [some (.inr (.inr (some b))), some (.inr (.inr (some x))), some (.inr (.inr (some m))), some (.inr (.inr (some o))), some (.inl v4), none, none, none] [] h) (rI fun z _ => z = 1) := by
  refine wq_eq q_278_401 (L_rd B (ir1 I).1 (ir1 I).2 (L_rd B (ir2 I).1 (ir2 I).2 (wq_if _ (fun _ => ?_) (fun _ => ?_))))
  · exact L_rd B (ir3 I).1 (ir3 I).2 (wq_if _ (fun _ => k_mark1 (Or.inl rfl) (Or.inl rfl) B S R I K) (fun _ => k_mark1 (Or.inl rfl) (Or.inr rfl) B S R I K))
  · exact L_rd B (ir3 I).1 (ir3 I).2 (wq_if _ (fun _ => k_mark1 (Or.inr rfl) (Or.inl rfl) B S R I K) (fun _ => k_mark1 (Or.inr rfl) (Or.inr rfl) B S R I K))
theorem law_loop (hL : L ≤ 2560) : ∀ (r t : Nat) (κ : kM) (σ : rS) (h : ah_H) (v4 : Int32), 513 - t < r → t ≤ 513 → v4.toInt = (5 * t : Nat) → LB b x m o L xs t κ σ h → sgR x (sv σ) h → rmT lim t h → wq (ah_val lim ah_P (d + 230) 278 23 [some (.inr (.inr (some b))), some (.inr (.inr (some x))), some (.inr (.inr (some m))), some (.inr (.inr (some o))), some (.inl v4), none, none, none] [] h) (rI fun z _ => z = 1) := by
  have e5 : (5 : Int32).toInt = 5 := rfl
  intro r
  induction r with
  | zero => intros; omega
  | succ r ih =>
    intro t κ σ h v4 hr ht h4 B S R
    refine wq_eq q_278_23 (wq_len B.1 (by decide) ?_)
    rw [List.length_map, List.length_range]
    have eL : (Nat.toInt32 L).toInt = L := i32n (by omega)
    have el : (Nat.toInt32 L - (5 : Int32)).toInt = L - 5 := by rw [sb_i (by omega) (by omega), eL, e5]
    refine wq_if _ (fun c => ?_) (fun c => wq_t (Or.inr rfl) (wq_some (rI_i rfl)))
    have c := le_i c
    have I : ixT v4 t L := ⟨h4, by omega, hL⟩
    have K : nxT lim d b x m o L xs t v4 := fun κ σ h B S R => by
      refine wq_eq q_278_956 (ih (t + 1) κ σ h _ (by omega) (by omega) ?_ B S R)
      rw [ad_i (by omega) (by omega), e5]
      omega
    have K0 : wq (ah_val lim ah_P (d + 230) 278 956 [some (.inr (.inr (some b))), some (.inr (.inr (some x))), some (.inr (.inr (some m))), some (.inr (.inr (some o))), some (.inl v4), none, none, none] [] h) (rI fun z _ => z = 1) := K κ σ h (LB_1 B) S ⟨by have := R.1; omega, by have := R.2; omega⟩
    refine L_rd B (by omega) (by omega) ?_
    refine wq_if _ (fun _ => k_signal B S R I K) (fun _ => ?_)
    refine wq_if _ (fun _ => k_variable B S R I K) (fun _ => ?_)
    refine wq_if _ (fun _ => k_add B S R I K) (fun _ => ?_)
    refine wq_if _ (fun _ => k_process B S R I K) (fun _ => ?_)
    refine wq_if _ (fun _ => k_processes B S R I K) (fun _ => ?_)
    refine wq_if _ (fun _ => k_put B S R I K) (fun _ => ?_)
    refine wq_if _ (fun _ => k_mark B S R I K) (fun _ => ?_)
    refine wq_if _ (fun _ => k_get B S R I K) (fun _ => ?_)
    refine wq_if _ (fun _ => k_set B S R I K) (fun _ => ?_)
    refine wq_if _ (fun _ => k_variableOf B S R I K) (fun _ => ?_)
    refine wq_if _ (fun _ => k_resume B S R I K) (fun _ => ?_)
    refine wq_if _ (fun _ => k_holds B S R I K) (fun _ => ?_)
    refine wq_if _ (fun _ => k_about B S R I K) (fun _ => ?_)
    refine wq_if _ (fun _ => k_waits B S R I K) (fun _ => ?_)
    refine wq_if _ (fun _ => k_until B S R I K) (fun _ => ?_)
    refine wq_if _ (fun _ => k_acts B S R I K) (fun _ => ?_)
    refine wq_if _ (fun _ => k_act B S R I K) (fun _ => ?_)
    refine wq_if _ (fun _ => k_value B S R I K) (fun _ => ?_)
    exact wq_if _ (fun _ => k_delay B S R I K) (fun _ => K0)
end Lg
