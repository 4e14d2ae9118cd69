-- shifted
/-! THE LAW, FROM ITS ENTRY -/
section Lg
variable {lim : Nat × Nat} {t d b x m o L : Nat} {xs : Nat → Int32} {κ : kM} {σ : rS} {h : ah_H} {v4 : Int32}
theorem cb_ok {i a e : Int32} : cb i a e ↔ okK i a e := by
  have e0 : (0 : Int32).toInt = 0 := rfl
  have e1 : (1 : Int32).toInt = 1 := rfl
  have e2 : (2 : Int32).toInt = 2 := rfl
  have e6 : (64 : Int32).toInt = 64 := rfl
  have em : (-2147483647 : Int32).toInt = -2147483647 := rfl
  have q : ∀ (y : Int32) (k : Int) (z : Int32), z.toInt = k → (y = z ↔ y.toInt = k) := fun y k z hz => ⟨fun h => by rw [h, hz], fun h => i32_of h hz⟩
  unfold cb okK
  by_cases c0 : i = 0
  · rw [if_pos c0, q a 0 0 e0, q e 0 0 e0]
    have := (q i 0 0 e0).mp c0
    omega
  · rw [if_neg c0]
    have c0 : ¬ i.toInt = 0 := fun h => c0 ((q i 0 0 e0).mpr h)
    by_cases c1 : i = 1
    · rw [if_pos c1, q e 0 0 e0, Int32.lt_iff_toInt_lt, Int32.le_iff_toInt_le, e1, e6]
      have := (q i 1 1 e1).mp c1
      omega
    · rw [if_neg c1]
      have c1 : ¬ i.toInt = 1 := fun h => c1 ((q i 1 1 e1).mpr h)
      by_cases c2 : i = 2
      · rw [if_pos c2, Int32.lt_iff_toInt_lt, Int32.lt_iff_toInt_lt, Int32.le_iff_toInt_le, em]
        have := (q i 2 2 e2).mp c2
        omega
      · rw [if_neg c2]
        have c2 : ¬ i.toInt = 2 := fun h => c2 ((q i 2 2 e2).mpr h)
        constructor
        · exact fun h => h.elim
        · intro h
          omega
theorem lg_self {z : Int64} : (lg_cmp z z) = 0 := by
  unfold lg_cmp
  rw [if_neg (show ¬ z > z from fun h => absurd (Int64.lt_iff_toInt_lt.mp h) (by omega)), if_pos rfl]
theorem S_signal {σ σ' : rS} {h4 h9 : ah_H} {cnt' : sV} {v1 v2 v3 k y : Int32} (R : RI σ) (hk : lwK (sv σ) cnt' v1 v2 v3 k o h4) (hs : sP σ v1 v2 v3 y σ') (S : sgR x cnt' h9) : sgR x (sv σ') h9 ∧ σ'.1 0 = k ∧ (k = 0 → y = σ.1 7 ∧ h4.1 o = some (101, [aJ (σ.1 7).toInt64])) := by
  have n1 := R.2.2.2.1.1.1
  have n2 := R.2.2.2.1.1.2.1
  have e1 : (1 : Int32).toInt = 1 := rfl
  obtain ⟨-, hs⟩ := hs
  rcases hk with ⟨rfl, k2, rfl⟩ | ⟨rfl, k2, k3, rfl⟩ | ⟨rfl, k2, k3, rfl, k5⟩
  · rcases hs with ⟨s1, s2, s3⟩ | ⟨s1, s2, -⟩ | ⟨s1, s2, -⟩
    · exact ⟨sv_ref R s3 S, s1, fun h => absurd h (by decide)⟩
    · exact absurd (cb_ok.mpr s2) k2
    · exact absurd (cb_ok.mpr s2) k2
  · have k3 : 512 ≤ (σ.1 7).toInt := k3
    rcases hs with ⟨s1, s2, s3⟩ | ⟨s1, s2, s3, s4⟩ | ⟨s1, s2, s3, -⟩
    · exact absurd (cb_ok.mp k2) s2
    · exact ⟨sv_ref R s4 S, s1, fun h => absurd h (by decide)⟩
    · omega
  · have k3 : (σ.1 7).toInt < 512 := k3
    rcases hs with ⟨s1, s2, s3⟩ | ⟨s1, s2, s3, s4⟩ | ⟨s1, s2, s3, s4, s5, s6, s7, s8, s9, s10, s11⟩
    · exact absurd (cb_ok.mp k2) s2
    · omega
    · refine ⟨sgR_sv S ?_ (fun j i hj hi => ?_) (CR_eq R S.2 s11), s1, fun _ => ⟨s4, k5⟩⟩
      · show σ'.1 7 = σ.1 7 + 1
        exact Int32.toInt_inj.mp (by rw [ad_i (by omega) (by omega), e1, s5])
      · have hi : (i : Int) < (σ.1 7 + 1).toInt := hi
        rw [ad_i (by omega) (by omega), e1] at hi
        by_cases c : i = (σ.1 7).toInt.toNat
        · subst c
          have q : (svS (sv σ) v1 v2 v3).2.1 j (σ.1 7).toInt.toNat = svF v1 v2 v3 j := if_pos rfl
          rw [q]
          match j, hj with
          | 0, _ => exact s7
          | 1, _ =>
            show (if ia σ' 0 (σ.1 7).toInt.toNat = 1 then ia σ' 1 (σ.1 7).toInt.toNat else 1) = (if v1 = 1 then v2 else 1)
            rw [s7, s8]
            by_cases c1 : v1 = 1
            · rw [if_pos c1, if_pos c1, if_pos c1]
            · rw [if_neg c1, if_neg c1]
          | 2, _ =>
            show (if ia σ' 0 (σ.1 7).toInt.toNat = 2 then ia σ' 2 (σ.1 7).toInt.toNat else 0) = (if v1 = 2 then v2 else 0)
            rw [s7, s9]
          | 3, _ =>
            show (if ia σ' 0 (σ.1 7).toInt.toNat = 2 then ia σ' 3 (σ.1 7).toInt.toNat else 8) = (if v1 = 2 then v3 else 8)
            rw [s7, s10]
        · have q : (svS (sv σ) v1 v2 v3).2.1 j i = (sv σ).2.1 j i := if_neg c
          rw [q]
          exact sF_e (fun j hj => s6 j i hj (by omega) c) j
theorem k_signal (B : LB b x m o L xs t κ σ h) (S : sgR x (sv σ) h) (R : rmT lim t h) (I : ixT v4 t L) (K : nxT lim d b x m o L xs t v4) : wq (ah_val lim ah_P (d + 230) 277 128 [some (.inr (.inr (some b))), some (.inr (.inr (some x))), some (.inr (.inr (some m))), some (.inr (.inr (some o))), some (.inl v4), none, none, none] [] h) (rI fun z _ => z = 1) := by
  have ht : t < 512 := by obtain ⟨-, i2, i3⟩ := I; omega
  refine wq_eq q_277_128 (L_rd B (ir1 I).1 (ir1 I).2 (L_rd B (ir2 I).1 (ir2 I).2 (L_rd B (ir3 I).1 (ir3 I).2 (wq_cI (L_signal (d := d + 209) B S (rmT_1 R I)) ?_))))
  rintro k h4 ⟨κ', cnt', B4, S4, r1, r2, hk⟩
  refine L_rd B4 (ir1 I).1 (ir1 I).2 (L_rd B4 (ir2 I).1 (ir2 I).2 (L_rd B4 (ir3 I).1 (ir3 I).2 (wq_at (LB_H B4).1 (wq_cI (v_signal (d := d + 227) (LB_H B4) (LB_R B4)) ?_))))
  rintro y h9 ⟨σ', H9, hs⟩
  have R9 := hs.1
  obtain ⟨S9, s1, s2⟩ := S_signal (LB_R B) hk hs (sgR_ref B4 S4 H9)
  have B9 := LB_ref B4 H9 R9
  have rr : rmT lim (t + 1) h9 := by
    obtain ⟨q1, q2⟩ := R
    exact ⟨by rw [H9.2.2.2.1]; omega, by rw [H9.2.2.2.2]; omega⟩
  exact K κ' σ' h9 B9 S9 rr
theorem LB_1 (B : LB b x m o L xs t κ σ h) : LB b x m o L xs (t + 1) κ σ h := LB_class B (cS_0 B (by omega))
theorem o_ref {h4 h9 : ah_H} {σ' : rS} (B4 : LB b x m o L xs t κ σ h4) (H9 : RH m σ' h4 h9) {r : Option ah_O} (e : h4.1 o = r) : h9.1 o = r := (H9.2.2.1 o (by have := B4.2.2.2.2.2.2.2.2.2.2; omega)).trans e
theorem rm_ref {h4 h9 : ah_H} {σ' : rS} (H9 : RH m σ' h4 h9) (R : rmT lim t h) (ht : t < 512) (r1 : h4.2.1 ≤ h.2.1 + 20) (r2 : h4.2.2.1 ≤ h.2.2.1 + 6000) : rmT lim (t + 1) h9 := by
  obtain ⟨q1, q2⟩ := R
  exact ⟨by rw [H9.2.2.2.1]; omega, by rw [H9.2.2.2.2]; omega⟩
theorem S_variable {σ' : rS} {h4 h9 : ah_H} {v1 v2 v3 k y : Int32} (B4 : LB b x m o L xs (t + 1) κ σ h4) (hk : (k = 1 ∧ ¬ cb v1 v2 v3 ∧ sgR x (sv σ) h4) ∨ (k = 2 ∧ cb v1 v2 v3 ∧ 128 ≤ (σ.1 9).toInt ∧ sgR x (sv σ) h4) ∨ (k = 0 ∧ cb v1 v2 v3 ∧ (σ.1 9).toInt < 128 ∧ h4.1 o = some (101, [aJ (σ.1 9).toInt64]) ∧ (∀ σ', sg0 x (sv σ') h4 → vaR σ σ' v1 v2 v3 → sgR x (sv σ') h4) ∧ sg0 x (sv σ) h4)) (H9 : RH m σ' h4 h9) (hs : vP σ v1 v2 v3 y σ') : sgR x (sv σ') h9 ∧ σ'.1 0 = k ∧ (k = 0 → h9.1 o = some (101, [aJ y.toInt64])) := by
  have R := LB_R B4
  obtain ⟨-, hs⟩ := hs
  rcases hk with ⟨rfl, k2, k3⟩ | ⟨rfl, k2, k3, k4⟩ | ⟨rfl, k2, k3, k4, k5, k6⟩
  · rcases hs with ⟨s1, s2, s3⟩ | ⟨s1, s2, -⟩ | ⟨s1, s2, -⟩
    · exact ⟨sv_ref R s3 (sgR_ref B4 k3 H9), s1, fun h => absurd h (by decide)⟩
    · exact absurd (cb_ok.mpr s2) k2
    · exact absurd (cb_ok.mpr s2) k2
  · rcases hs with ⟨s1, s2, s3⟩ | ⟨s1, s2, s3, s4⟩ | ⟨s1, s2, s3, -⟩
    · exact absurd (cb_ok.mp k2) s2
    · exact ⟨sv_ref R s4 (sgR_ref B4 k4 H9), s1, fun h => absurd h (by decide)⟩
    · omega
  · rcases hs with ⟨s1, s2, s3⟩ | ⟨s1, s2, s3, s4⟩ | ⟨s1, s2, s3, s4, s5, s6⟩
    · exact absurd (cb_ok.mp k2) s2
    · omega
    · exact ⟨sgR_ref B4 (k5 σ' (sv_ss R s5 k6) s6) H9, s1, fun _ => by rw [s4]; exact o_ref B4 H9 k4⟩
theorem k_variable (B : LB b x m o L xs t κ σ h) (S : sgR x (sv σ) h) (R : rmT lim t h) (I : ixT v4 t L) (K : nxT lim d b x m o L xs t v4) : wq (ah_val lim ah_P (d + 230) 277 180 [some (.inr (.inr (some b))), some (.inr (.inr (some x))), some (.inr (.inr (some m))), some (.inr (.inr (some o))), some (.inl v4), none, none, none] [] h) (rI fun z _ => z = 1) := by
  have ht : t < 512 := by obtain ⟨-, i2, i3⟩ := I; omega
  refine wq_eq q_277_180 (L_rd B (ir1 I).1 (ir1 I).2 (L_rd B (ir2 I).1 (ir2 I).2 (L_rd B (ir3 I).1 (ir3 I).2 (wq_cI (L_variable (d := d + 209) B S (rmT_1 R I)) ?_))))
  rintro k h4 ⟨κ', B4, r1, r2, hk⟩
  refine L_rd B4 (ir1 I).1 (ir1 I).2 (L_rd B4 (ir2 I).1 (ir2 I).2 (L_rd B4 (ir3 I).1 (ir3 I).2 (wq_at (LB_H B4).1 (wq_cI (v_variable (d := d + 227) (LB_H B4) (LB_R B4)) ?_))))
  rintro y h9 ⟨σ', H9, hs⟩
  obtain ⟨S9, s1, s2⟩ := S_variable B4 hk H9 hs
  have nt := K κ' σ' h9 (LB_ref B4 H9 hs.1) S9 (rm_ref H9 R ht r1 r2)
  exact nt
theorem S_add {σ' : rS} {h4 h9 : ah_H} {v1 v2 v3 k y : Int32} (B4 : LB b x m o L xs (t + 1) κ σ h4) (hk : (k = 1 ∧ adB σ v1 v3 ∧ sgR x (sv σ) h4) ∨ (k = 2 ∧ ¬ adB σ v1 v3 ∧ (σ.1 19).toInt = 4000 ∧ sgR x (sv σ) h4) ∨ (k = 0 ∧ ¬ adB σ v1 v3 ∧ (σ.1 19).toInt < 4000 ∧ h4.1 o = some (101, [aJ (σ.1 19).toInt64]) ∧ (∀ σ', sg0 x (sv σ') h4 → adR σ σ' v1 v2 v3 → sgR x (sv σ') h4) ∧ sg0 x (sv σ) h4)) (H9 : RH m σ' h4 h9) (hs : adQ σ v1 v2 v3 y σ') : sgR x (sv σ') h9 ∧ σ'.1 0 = k ∧ (k = 0 → h9.1 o = some (101, [aJ y.toInt64])) := by
  have R := LB_R B4
  obtain ⟨-, hs⟩ := hs
  rcases hk with ⟨rfl, k2, k3⟩ | ⟨rfl, k2, k3, k4⟩ | ⟨rfl, k2, k3, k4, k5, k6⟩
  · rcases hs with ⟨s1, s2, s3⟩ | ⟨s1, s2, -⟩ | ⟨s1, s2, -⟩
    · exact ⟨sv_ref R s3 (sgR_ref B4 k3 H9), s1, fun h => absurd h (by decide)⟩
    · exact absurd k2 s2
    · exact absurd k2 s2
  · rcases hs with ⟨s1, s2, s3⟩ | ⟨s1, s2, s3, s4⟩ | ⟨s1, s2, s3, -⟩
    · exact absurd s2 k2
    · exact ⟨sv_ref R s4 (sgR_ref B4 k4 H9), s1, fun h => absurd h (by decide)⟩
    · omega
  · rcases hs with ⟨s1, s2, s3⟩ | ⟨s1, s2, s3, s4⟩ | ⟨s1, s2, s3, s4, s5, s6⟩
    · exact absurd s2 k2
    · omega
    · exact ⟨sgR_ref B4 (k5 σ' (sv_ss R s5 k6) s6) H9, s1, fun _ => by rw [s4]; exact o_ref B4 H9 k4⟩
theorem k_add (B : LB b x m o L xs t κ σ h) (S : sgR x (sv σ) h) (R : rmT lim t h) (I : ixT v4 t L) (K : nxT lim d b x m o L xs t v4) : wq (ah_val lim ah_P (d + 230) 277 232 [some (.inr (.inr (some b))), some (.inr (.inr (some x))), some (.inr (.inr (some m))), some (.inr (.inr (some o))), some (.inl v4), none, none, none] [] h) (rI fun z _ => z = 1) := by
  have ht : t < 512 := by obtain ⟨-, i2, i3⟩ := I; omega
  refine wq_eq q_277_232 (L_rd B (ir1 I).1 (ir1 I).2 (L_rd B (ir2 I).1 (ir2 I).2 (L_rd B (ir3 I).1 (ir3 I).2 (wq_cI (L_add (d := d + 209) B S (rmT_0 R I)) ?_))))
  rintro k h4 ⟨κ', B4, r1, r2, hk⟩
  refine L_rd B4 (ir1 I).1 (ir1 I).2 (L_rd B4 (ir2 I).1 (ir2 I).2 (L_rd B4 (ir3 I).1 (ir3 I).2 (wq_at (LB_H B4).1 (wq_cI (v_add (d := d + 229) (LB_H B4) (LB_R B4)) ?_))))
  rintro y h9 ⟨σ', H9, hs⟩
  obtain ⟨S9, s1, s2⟩ := S_add B4 hk H9 hs
  have nt := K κ' σ' h9 (LB_ref B4 H9 hs.1) S9 (rm_ref H9 R ht r1 r2)
  exact nt
theorem fw_un {w w' : Int32} (a : fwP σ w) (c : fwP σ w') : w = w' := by
  rcases a with ⟨rfl, a⟩ | ⟨a1, a2, a3, a4⟩
  · rcases c with ⟨rfl, -⟩ | ⟨c1, c2, c3, c4⟩
    · rfl
    · exact absurd (a _ c1 c2) c4
  · rcases c with ⟨rfl, c⟩ | ⟨c1, c2, c3, c4⟩
    · exact absurd (c _ a1 a2) a4
    · rcases Int.lt_trichotomy w.toInt w'.toInt with g | g | g
      · exact absurd (c3 _ a1 g) a4
      · exact Int32.toInt_inj.mp g
      · exact absurd (a3 _ c1 g) c4
theorem pr_un {w y y' : Int32} (a : prA σ w y) (c : prA σ w y') : y = y' := by
  rcases a with ⟨a1, a2⟩ | ⟨a1, a2, a3⟩ | ⟨a1, a2, a3⟩
  · rcases c with ⟨c1, c2⟩ | ⟨c1, c2, c3⟩ | ⟨c1, c2, c3⟩
    · rw [a2, c2]
    · exact absurd c1 a1
    · exact absurd c1 a1
  · rcases c with ⟨c1, c2⟩ | ⟨c1, c2, c3⟩ | ⟨c1, c2, c3⟩
    · exact absurd a1 c1
    · rw [a3, c3]
    · exact absurd c2 a2
  · rcases c with ⟨c1, c2⟩ | ⟨c1, c2, c3⟩ | ⟨c1, c2, c3⟩
    · exact absurd a1 c1
    · exact absurd a2 c2
    · rw [a3, c3]
theorem k_process (B : LB b x m o L xs t κ σ h) (S : sgR x (sv σ) h) (R : rmT lim t h) (I : ixT v4 t L) (K : nxT lim d b x m o L xs t v4) : wq (ah_val lim ah_P (d + 230) 277 284 [some (.inr (.inr (some b))), some (.inr (.inr (some x))), some (.inr (.inr (some m))), some (.inr (.inr (some o))), some (.inl v4), none, none, none] [] h) (rI fun z _ => z = 1) := by
  have ht : t < 512 := by obtain ⟨-, i2, i3⟩ := I; omega
  refine wq_eq q_277_284 (wq_cI (L_process (d := d + 209) B S (by omega) (rmT_1 R I)) ?_)
  rintro k h4 ⟨κ', B4, r1, r2, hk⟩
  refine wq_at (LB_H B4).1 (wq_cI (w_process (d := d + 224) (LB_H B4) (LB_R B4)) ?_)
  rintro y h9 ⟨σ', H9, R9, hs⟩
  have q : sgR x (sv σ') h9 ∧ σ'.1 0 = k ∧ (k = 0 → h9.1 o = some (101, [aJ y.toInt64])) := by
    have R4 := LB_R B4
    rcases hk with ⟨rfl, k2, k3⟩ | ⟨rfl, k2, w, y', k3, k4, k5, k6, k7⟩
    · rcases hs with ⟨s1, s2, s3⟩ | ⟨s1, s2, -⟩
      · exact ⟨sv_ref R4 s3 (sgR_ref B4 k3 H9), s1, fun h => absurd h (by decide)⟩
      · exact absurd k2 s2
    · rcases hs with ⟨s1, s2, s3⟩ | ⟨s1, s2, w2, s3, s4, s5⟩
      · exact absurd s2 k2
      · have e := fw_un k3 s3
        subst e
        have e := pr_un k4 s4
        subst e
        have ss : SS σ σ' := ⟨by rw [s5.1.1]; exact sG_ne (by omega), s5.1.2⟩
        exact ⟨sgR_ref B4 (k6 σ' (sv_ss R4 ss k7) s5) H9, s1, fun _ => o_ref B4 H9 k5⟩
  have nt := K κ' σ' h9 (LB_ref B4 H9 R9) q.1 (rm_ref H9 R ht r1 r2)
  exact nt
theorem k_processes (B : LB b x m o L xs t κ σ h) (S : sgR x (sv σ) h) (R : rmT lim t h) (I : ixT v4 t L) (K : nxT lim d b x m o L xs t v4) : wq (ah_val lim ah_P (d + 230) 277 300 [some (.inr (.inr (some b))), some (.inr (.inr (some x))), some (.inr (.inr (some m))), some (.inr (.inr (some o))), some (.inl v4), none, none, none] [] h) (rI fun z _ => z = 1) := by
  obtain ⟨sg, mk, lk, un, td, rn, nd, vr, ht, ro, A0, Ls, kt, e1, -⟩ := S.2
  have pr : wq (vc lim (d + 229 + 1) m_Code_processes [.inr (.inr (some x))] h) (rI fun z h' => h' = h ∧ z = σ.1 23) := wq_eq e_Code_processes (wq_gI e1 rfl (wq_some (rI_i ⟨rfl, rfl⟩)))
  refine wq_eq q_277_300 (L_ax B (wq_cI pr ?_))
  rintro i h4 ⟨rfl, rfl⟩
  refine wq_at (LB_H B).1 (wq_cI (v_processes (d := d + 229) (LB_H B) (LB_R B)) ?_)
  rintro y h9 ⟨hp, rfl⟩
  exact wq_t rfl (kN (LB_1 B) S hp R I (by omega) (by omega) K)
theorem k_acts (B : LB b x m o L xs t κ σ h) (S : sgR x (sv σ) h) (R : rmT lim t h) (I : ixT v4 t L) (K : nxT lim d b x m o L xs t v4) : wq (ah_val lim ah_P (d + 230) 277 800 [some (.inr (.inr (some b))), some (.inr (.inr (some x))), some (.inr (.inr (some m))), some (.inr (.inr (some o))), some (.inl v4), none, none, none] [] h) (rI fun z _ => z = 1) := by
  refine wq_eq q_277_800 (L_ax B (wq_cI (s_Code_acts (d := d + 229) B.2.1 B.2.2.2.1) ?_))
  rintro i h4 ⟨rfl, -⟩
  refine wq_at (LB_H B).1 (wq_cI (v_acts (d := d + 229) (LB_H B) (LB_R B)) ?_)
  rintro y h9 hp
  exact kN (LB_1 B) S hp R I (by omega) (by omega) K
theorem k_put1 {s1 s2 : Int32} (z2 : s2 = 0 ∨ s2 = 1) (B : LB b x m o L xs t κ σ h) (S : sgR x (sv σ) h) (R : rmT lim t h) (I : ixT v4 t L) (K : nxT lim d b x m o L xs t v4) : wq (ah_val lim ah_P (d + 230) 277 334 [some (.inr (.inr (some b))), some (.inr (.inr (some x))), some (.inr (.inr (some m))), some (.inr (.inr (some o))), some (.inl v4), none, none, none] [.inl s2, .inl s1, .inr (.inr (some x))] h) (rI fun z _ => z = 1) := by
  refine wq_eq q_277_334 (L_rd B (ir3 I).1 (ir3 I).2 (L_rd B (ir4 I).1 (ir4 I).2 (wq_cI (L_put (d := d + 209) B S (rmT_0 R I)) ?_)))
  rintro i h4 ⟨κ', B4, S4, r1, r2, -⟩
  refine L_rd B4 (ir1 I).1 (ir1 I).2 (L_rd B4 (ir2 I).1 (ir2 I).2 (wq_if _ (fun _ => ?_) (fun _ => ?_)))
  · refine L_rd B4 (ir3 I).1 (ir3 I).2 (L_rd B4 (ir4 I).1 (ir4 I).2 (wq_at (LB_H B4).1 (wq_cV (v_put (d := d + 227) (LB_H B4) (LB_R B4)) ?_)))
    rintro h9 ⟨σ', a1, a2, a3, -⟩
    exact kN B4 S4 ⟨σ', a1, a2, a3⟩ R I r1 r2 K
  · refine L_rd B4 (ir3 I).1 (ir3 I).2 (L_rd B4 (ir4 I).1 (ir4 I).2 (wq_at (LB_H B4).1 (wq_cV (v_put (d := d + 227) (LB_H B4) (LB_R B4)) ?_)))
    rintro h9 ⟨σ', a1, a2, a3, -⟩
    exact kN B4 S4 ⟨σ', a1, a2, a3⟩ R I r1 r2 K
theorem k_put (B : LB b x m o L xs t κ σ h) (S : sgR x (sv σ) h) (R : rmT lim t h) (I : ixT v4 t L) (K : nxT lim d b x m o L xs t v4) : wq (ah_val lim ah_P (d + 230) 277 313 [some (.inr (.inr (some b))), some (.inr (.inr (some x))), some (.inr (.inr (some m))), some (.inr (.inr (some o))), some (.inl v4), none, none, none] [] h) (rI fun z _ => z = 1) :=
  wq_eq q_277_313 (L_rd B (ir1 I).1 (ir1 I).2 (L_rd B (ir2 I).1 (ir2 I).2 (wq_if _ (fun _ => k_put1 (Or.inl rfl) B S R I K) (fun _ => k_put1 (Or.inr rfl) B S R I K))))
theorem k_mark1 {s1 s2 s3 : Int32} (z2 : s2 = 0 ∨ s2 = 1) (z3 : s3 = 0 ∨ s3 = 1) (B : LB b x m o L xs t κ σ h) (S : sgR x (sv σ) h) (R : rmT lim t h) (I : ixT v4 t L) (K : nxT lim d b x m o L xs t v4) : wq (ah_val lim ah_P (d + 230) 277 425 [some (.inr (.inr (some b))), some (.inr (.inr (some x))), some (.inr (.inr (some m))), some (.inr (.inr (some o))), some (.inl v4), none, none, none] [.inl s3, .inl s2, .inl s1, .inr (.inr (some x))] h) (rI fun z _ => z = 1) := by
  refine wq_eq q_277_425 (wq_cI (L_mark (d := d + 209) B S z2 z3 (rmT_0 R I)) ?_)
  rintro i h4 ⟨κ', B4, S4, r1, r2, -⟩
  have go : ∀ (e3 a c : Int32), (a = 0 ∨ a = 1) → (c = 0 ∨ c = 1) → wq (ah_at h4 (some m) 11 fun _ _ => ah_cV (vc lim (d + 230) 35 [.inr (.inr (some m)), .inl e3, .inl a, .inl c] h4) (nx h4) fun h6 => ah_val lim ah_P (d + 230) 277 945 [some (.inr (.inr (some b))), some (.inr (.inr (some x))), some (.inr (.inr (some m))), some (.inr (.inr (some o))), some (.inl v4), none, none, none] [] h6) (rI fun z _ => z = 1) := by
    intro e3 a c ha hc
    refine wq_at (LB_H B4).1 (wq_cV (v_mark (d := d + 229) (LB_H B4) (LB_R B4) ha hc) ?_)
    rintro h9 ⟨σ', a1, a2, a3, -⟩
    exact kN B4 S4 ⟨σ', a1, a2, a3⟩ R I r1 r2 K
  refine L_rd B4 (ir1 I).1 (ir1 I).2 (L_rd B4 (ir2 I).1 (ir2 I).2 (wq_if _ (fun _ => ?_) (fun _ => ?_)))
  · exact L_rd B4 (ir3 I).1 (ir3 I).2 (wq_if _ (fun _ => go _ _ _ (Or.inl rfl) (Or.inl rfl)) (fun _ => go _ _ _ (Or.inl rfl) (Or.inr rfl)))
  · exact L_rd B4 (ir3 I).1 (ir3 I).2 (wq_if _ (fun _ => go _ _ _ (Or.inr rfl) (Or.inl rfl)) (fun _ => go _ _ _ (Or.inr rfl) (Or.inr rfl)))
theorem k_mark (B : LB b x m o L xs t κ σ h) (S : sgR x (sv σ) h) (R : rmT lim t h) (I : ixT v4 t L) (K : nxT lim d b x m o L xs t v4) : wq (ah_val lim ah_P (d + 230) 277 390 [some (.inr (.inr (some b))), some (.inr (.inr (some x))), some (.inr (.inr (some m))), some (.inr (.inr (some o))), some (.inl v4), none, none, none] [] h) (rI fun z _ => z = 1) := by
  refine wq_eq q_277_390 (L_rd B (ir1 I).1 (ir1 I).2 (L_rd B (ir2 I).1 (ir2 I).2 (wq_if _ (fun _ => ?_) (fun _ => ?_))))
  · exact L_rd B (ir3 I).1 (ir3 I).2 (wq_if _ (fun _ => k_mark1 (Or.inl rfl) (Or.inl rfl) B S R I K) (fun _ => k_mark1 (Or.inl rfl) (Or.inr rfl) B S R I K))
  · exact L_rd B (ir3 I).1 (ir3 I).2 (wq_if _ (fun _ => k_mark1 (Or.inr rfl) (Or.inl rfl) B S R I K) (fun _ => k_mark1 (Or.inr rfl) (Or.inr rfl) B S R I K))
theorem law_loop (hL : L ≤ 2560) : ∀ (r t : Nat) (κ : kM) (σ : rS) (h : ah_H) (v4 : Int32), 513 - t < r → t ≤ 513 → v4.toInt = (5 * t : Nat) → LB b x m o L xs t κ σ h → sgR x (sv σ) h → rmT lim t h → wq (ah_val lim ah_P (d + 230) 277 23 [some (.inr (.inr (some b))), some (.inr (.inr (some x))), some (.inr (.inr (some m))), some (.inr (.inr (some o))), some (.inl v4), none, none, none] [] h) (rI fun z _ => z = 1) := by
  have e5 : (5 : Int32).toInt = 5 := rfl
  intro r
  induction r with
  | zero => intros; omega
  | succ r ih =>
    intro t κ σ h v4 hr ht h4 B S R
    refine wq_eq q_277_23 (wq_len B.1 (by decide) ?_)
    rw [List.length_map, List.length_range]
    have eL : (Nat.toInt32 L).toInt = L := i32n (by omega)
    have el : (Nat.toInt32 L - (5 : Int32)).toInt = L - 5 := by rw [sb_i (by omega) (by omega), eL, e5]
    refine wq_if _ (fun c => ?_) (fun c => wq_t (Or.inr rfl) (wq_some (rI_i rfl)))
    have c := le_i c
    have I : ixT v4 t L := ⟨h4, by omega, hL⟩
    have K : nxT lim d b x m o L xs t v4 := fun κ σ h B S R => by
      refine wq_eq q_277_945 (ih (t + 1) κ σ h _ (by omega) (by omega) ?_ B S R)
      rw [ad_i (by omega) (by omega), e5]
      omega
    have K0 : wq (ah_val lim ah_P (d + 230) 277 945 [some (.inr (.inr (some b))), some (.inr (.inr (some x))), some (.inr (.inr (some m))), some (.inr (.inr (some o))), some (.inl v4), none, none, none] [] h) (rI fun z _ => z = 1) := K κ σ h (LB_1 B) S ⟨by have := R.1; omega, by have := R.2; omega⟩
    refine L_rd B (by omega) (by omega) ?_
    refine wq_if _ (fun _ => k_signal B S R I K) (fun _ => ?_)
    refine wq_if _ (fun _ => k_variable B S R I K) (fun _ => ?_)
    refine wq_if _ (fun _ => k_add B S R I K) (fun _ => ?_)
    refine wq_if _ (fun _ => k_process B S R I K) (fun _ => ?_)
    refine wq_if _ (fun _ => k_processes B S R I K) (fun _ => ?_)
    refine wq_if _ (fun _ => k_put B S R I K) (fun _ => ?_)
    refine wq_if _ (fun _ => k_mark B S R I K) (fun _ => ?_)
    refine wq_if _ (fun _ => k_get B S R I K) (fun _ => ?_)
    refine wq_if _ (fun _ => k_set B S R I K) (fun _ => ?_)
    refine wq_if _ (fun _ => k_variableOf B S R I K) (fun _ => ?_)
    refine wq_if _ (fun _ => k_resume B S R I K) (fun _ => ?_)
    refine wq_if _ (fun _ => k_holds B S R I K) (fun _ => ?_)
    refine wq_if _ (fun _ => k_about B S R I K) (fun _ => ?_)
    refine wq_if _ (fun _ => k_waits B S R I K) (fun _ => ?_)
    refine wq_if _ (fun _ => k_until B S R I K) (fun _ => ?_)
    refine wq_if _ (fun _ => k_acts B S R I K) (fun _ => ?_)
    refine wq_if _ (fun _ => k_act B S R I K) (fun _ => ?_)
    refine wq_if _ (fun _ => k_value B S R I K) (fun _ => ?_)
    exact wq_if _ (fun _ => k_delay B S R I K) (fun _ => K0)
end Lg
