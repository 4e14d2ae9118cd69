/-! THE LAW, FROM ITS ENTRY: all that is kept is the same in class and reference -/
section Lg
variable {lim : Nat × Nat} {t d b x m o L : Nat} {xs : Nat → Int32} {κ : kM} {σ : rS} {h : ah_H} {v4 : Int32}
theorem cb_ok {i a e : Int32} : cb i a e ↔ okK i a e := by
  have e0 : (0 : Int32).toInt = 0 := rfl
  have e1 : (1 : Int32).toInt = 1 := rfl
  have e2 : (2 : Int32).toInt = 2 := rfl
  have e6 : (64 : Int32).toInt = 64 := rfl
  have em : (-2147483647 : Int32).toInt = -2147483647 := rfl
  have q : ∀ (y : Int32) (k : Int) (z : Int32), z.toInt = k → (y = z ↔ y.toInt = k) := fun y k z hz => ⟨fun h => by rw [h, hz], fun h => i32_of h hz⟩
  unfold cb okK
  by_cases c0 : i = 0
  · rw [if_pos c0, q a 0 0 e0, q e 0 0 e0]
    have := (q i 0 0 e0).mp c0
    omega
  · rw [if_neg c0]
    have c0 : ¬ i.toInt = 0 := fun h => c0 ((q i 0 0 e0).mpr h)
    by_cases c1 : i = 1
    · rw [if_pos c1, q e 0 0 e0, Int32.lt_iff_toInt_lt, Int32.le_iff_toInt_le, e1, e6]
      have := (q i 1 1 e1).mp c1
      omega
    · rw [if_neg c1]
      have c1 : ¬ i.toInt = 1 := fun h => c1 ((q i 1 1 e1).mpr h)
      by_cases c2 : i = 2
      · rw [if_pos c2, Int32.lt_iff_toInt_lt, Int32.lt_iff_toInt_lt, Int32.le_iff_toInt_le, em]
        have := (q i 2 2 e2).mp c2
        omega
      · rw [if_neg c2]
        have c2 : ¬ i.toInt = 2 := fun h => c2 ((q i 2 2 e2).mpr h)
        constructor
        · exact fun h => h.elim
        · intro h
          omega
theorem lg_self {z : Int64} : (lg_cmp z z) = 0 := by
  unfold lg_cmp
  rw [if_neg (show ¬ z > z from fun h => absurd (Int64.lt_iff_toInt_lt.mp h) (by omega)), if_pos rfl]
theorem S_signal {σ σ' : rS} {h4 h9 : ah_H} {cnt' : sV} {v1 v2 v3 k y : Int32} (R : RI σ) (hk : lwK (sv σ) cnt' v1 v2 v3 k o h4) (hs : sP σ v1 v2 v3 y σ') (S : sgR x cnt' h9) : sgR x (sv σ') h9 ∧ σ'.1 0 = k ∧ (k = 0 → y = σ.1 7 ∧ h4.1 o = some (101, [aJ (σ.1 7).toInt64])) := by
  have n1 := R.2.2.2.1.1.1
  have n2 := R.2.2.2.1.1.2.1
  have e1 : (1 : Int32).toInt = 1 := rfl
  obtain ⟨-, hs⟩ := hs
  rcases hk with ⟨rfl, k2, rfl⟩ | ⟨rfl, k2, k3, rfl⟩ | ⟨rfl, k2, k3, rfl, k5⟩
  · rcases hs with ⟨s1, s2, s3⟩ | ⟨s1, s2, -⟩ | ⟨s1, s2, -⟩
    · exact ⟨sv_ref R s3 S, s1, fun h => absurd h (by decide)⟩
    · exact absurd (cb_ok.mpr s2) k2
    · exact absurd (cb_ok.mpr s2) k2
  · have k3 : 512 ≤ (σ.1 7).toInt := k3
    rcases hs with ⟨s1, s2, s3⟩ | ⟨s1, s2, s3, s4⟩ | ⟨s1, s2, s3, -⟩
    · exact absurd (cb_ok.mp k2) s2
    · exact ⟨sv_ref R s4 S, s1, fun h => absurd h (by decide)⟩
    · omega
  · have k3 : (σ.1 7).toInt < 512 := k3
    rcases hs with ⟨s1, s2, s3⟩ | ⟨s1, s2, s3, s4⟩ | ⟨s1, s2, s3, s4, s5, s6, s7, s8, s9, s10, s11⟩
    · exact absurd (cb_ok.mp k2) s2
    · omega
    · refine ⟨sgR_sv S ?_ (fun j i hj hi => ?_) (CR_eq R S.2.1 s11) (PR_t R S.2.2 s11), s1, fun _ => ⟨s4, k5⟩⟩
      · show σ'.1 7 = σ.1 7 + 1
        exact Int32.toInt_inj.mp (by rw [ad_i (by omega) (by omega), e1, s5])
      · have hi : (i : Int) < (σ.1 7 + 1).toInt := hi
        rw [ad_i (by omega) (by omega), e1] at hi
        by_cases c : i = (σ.1 7).toInt.toNat
        · subst c
          have q : (svS (sv σ) v1 v2 v3).2.1 j (σ.1 7).toInt.toNat = svF v1 v2 v3 j := if_pos rfl
          rw [q]
          match j, hj with
          | 0, _ => exact s7
          | 1, _ =>
            show (if ia σ' 0 (σ.1 7).toInt.toNat = 1 then ia σ' 1 (σ.1 7).toInt.toNat else 1) = (if v1 = 1 then v2 else 1)
            rw [s7, s8]
            by_cases c1 : v1 = 1
            · rw [if_pos c1, if_pos c1, if_pos c1]
            · rw [if_neg c1, if_neg c1]
          | 2, _ =>
            show (if ia σ' 0 (σ.1 7).toInt.toNat = 2 then ia σ' 2 (σ.1 7).toInt.toNat else 0) = (if v1 = 2 then v2 else 0)
            rw [s7, s9]
          | 3, _ =>
            show (if ia σ' 0 (σ.1 7).toInt.toNat = 2 then ia σ' 3 (σ.1 7).toInt.toNat else 8) = (if v1 = 2 then v3 else 8)
            rw [s7, s10]
        · have q : (svS (sv σ) v1 v2 v3).2.1 j i = (sv σ).2.1 j i := if_neg c
          rw [q]
          exact sF_e (fun j hj => s6 j i hj (by omega) c) j
theorem LB_1 (B : LB b x m o L xs t κ σ h) : LB b x m o L xs (t + 1) κ σ h := LB_class B (cS_0 B (by omega))
/-- the answers are compared -/
theorem cmp_fin {h4 h9 : ah_H} {σ' : rS} {k y : Int32} (H9 : RH m σ' h4 h9) (s1 : σ'.1 0 = k) (s2 : k = 0 → h9.1 o = some (101, [aJ y.toInt64])) (nt : wq (ah_val lim ah_P (d + 230) 278 972 [some (.inr (.inr (some b))), some (.inr (.inr (some x))), some (.inr (.inr (some m))), some (.inr (.inr (some o))), some (.inl v4), none, none, none] [] h9) (rI fun z _ => z = 1)) : wq (ah_at h9 (some m) 11 fun _ _ => ah_cI (vc lim (d + 230) 23 [.inr (.inr (some m))] h9) (nx h9) fun i12 h11 => if i12 = k then if k = 0 then ah_lJ h11 (some o) 101 (0 : Int32) fun e13 => if (lg_cmp e13 y.toInt64) = 0 then ah_val lim ah_P (d + 230) 278 972 [some (.inr (.inr (some b))), some (.inr (.inr (some x))), some (.inr (.inr (some m))), some (.inr (.inr (some o))), some (.inl v4), none, none, none] [] h11 else if (0 : Int32) = 0 ∨ (0 : Int32) = 1 then some (.inl (some (.inl (0 : Int32))), h11) else none else ah_val lim ah_P (d + 230) 278 972 [some (.inr (.inr (some b))), some (.inr (.inr (some x))), some (.inr (.inr (some m))), some (.inr (.inr (some o))), some (.inl v4), none, none, none] [] h11 else if (0 : Int32) = 0 ∨ (0 : Int32) = 1 then some (.inl (some (.inl (0 : Int32))), h11) else none) (rI fun z _ => z = 1) := by
  refine wq_at H9.1 (wq_cI (v_thrown (d := d + 229) H9) ?_)
  rintro z h11 ⟨e, rfl⟩
  cases e
  refine wq_t s1 (wq_if _ (fun c => ?_) (fun _ => nt))
  refine wq_lJ (s2 c) (by decide) (y := y.toInt64) rfl ?_
  exact wq_t lg_self nt
theorem o_ref {h4 h9 : ah_H} {σ' : rS} (B4 : LB b x m o L xs t κ σ h4) (H9 : RH m σ' h4 h9) {r : Option ah_O} (e : h4.1 o = r) : h9.1 o = r := (H9.2.2.1 o (by have := B4.2.2.2.2.2.2.2.2.2.2; omega)).trans e
theorem rm_ref {h4 h9 : ah_H} {σ' : rS} (H9 : RH m σ' h4 h9) (R : rmT lim t h) (ht : t < 512) (r1 : h4.2.1 ≤ h.2.1 + 20) (r2 : h4.2.2.1 ≤ h.2.2.1 + 6000) : rmT lim (t + 1) h9 := by
  obtain ⟨q1, q2⟩ := R
  exact ⟨by rw [H9.2.2.2.1]; omega, by rw [H9.2.2.2.2]; omega⟩
theorem S_variable {σ' : rS} {h4 h9 : ah_H} {v1 v2 v3 k y : Int32} (B4 : LB b x m o L xs (t + 1) κ σ h4) (hk : (k = 1 ∧ ¬ cb v1 v2 v3 ∧ sgR x (sv σ) h4) ∨ (k = 2 ∧ cb v1 v2 v3 ∧ 128 ≤ (σ.1 9).toInt ∧ sgR x (sv σ) h4) ∨ (k = 0 ∧ cb v1 v2 v3 ∧ (σ.1 9).toInt < 128 ∧ h4.1 o = some (101, [aJ (σ.1 9).toInt64]) ∧ (∀ σ', sg0 x (sv σ') h4 → vaR σ σ' v1 v2 v3 → sgR x (sv σ') h4) ∧ sg0 x (sv σ) h4)) (H9 : RH m σ' h4 h9) (hs : vP σ v1 v2 v3 y σ') : sgR x (sv σ') h9 ∧ σ'.1 0 = k ∧ (k = 0 → h9.1 o = some (101, [aJ y.toInt64])) := by
  have R := LB_R B4
  obtain ⟨-, hs⟩ := hs
  rcases hk with ⟨rfl, k2, k3⟩ | ⟨rfl, k2, k3, k4⟩ | ⟨rfl, k2, k3, k4, k5, k6⟩
  · rcases hs with ⟨s1, s2, s3⟩ | ⟨s1, s2, -⟩ | ⟨s1, s2, -⟩
    · exact ⟨sv_ref R s3 (sgR_ref B4 k3 H9), s1, fun h => absurd h (by decide)⟩
    · exact absurd (cb_ok.mpr s2) k2
    · exact absurd (cb_ok.mpr s2) k2
  · rcases hs with ⟨s1, s2, s3⟩ | ⟨s1, s2, s3, s4⟩ | ⟨s1, s2, s3, -⟩
    · exact absurd (cb_ok.mp k2) s2
    · exact ⟨sv_ref R s4 (sgR_ref B4 k4 H9), s1, fun h => absurd h (by decide)⟩
    · omega
  · rcases hs with ⟨s1, s2, s3⟩ | ⟨s1, s2, s3, s4⟩ | ⟨s1, s2, s3, s4, s5, s6⟩
    · exact absurd (cb_ok.mp k2) s2
    · omega
    · exact ⟨sgR_ref B4 (k5 σ' (sv_ss R s5 k6) s6) H9, s1, fun _ => by rw [s4]; exact o_ref B4 H9 k4⟩
theorem S_add {σ' : rS} {h4 h9 : ah_H} {v1 v2 v3 k y : Int32} (B4 : LB b x m o L xs (t + 1) κ σ h4) (hk : (k = 1 ∧ adB σ v1 v3 ∧ sgR x (sv σ) h4) ∨ (k = 2 ∧ ¬ adB σ v1 v3 ∧ (σ.1 19).toInt = 4000 ∧ sgR x (sv σ) h4) ∨ (k = 0 ∧ ¬ adB σ v1 v3 ∧ (σ.1 19).toInt < 4000 ∧ h4.1 o = some (101, [aJ (σ.1 19).toInt64]) ∧ (∀ σ', sg0 x (sv σ') h4 → adR σ σ' v1 v2 v3 → sgR x (sv σ') h4) ∧ sg0 x (sv σ) h4)) (H9 : RH m σ' h4 h9) (hs : adQ σ v1 v2 v3 y σ') : sgR x (sv σ') h9 ∧ σ'.1 0 = k ∧ (k = 0 → h9.1 o = some (101, [aJ y.toInt64])) := by
  have R := LB_R B4
  obtain ⟨-, hs⟩ := hs
  rcases hk with ⟨rfl, k2, k3⟩ | ⟨rfl, k2, k3, k4⟩ | ⟨rfl, k2, k3, k4, k5, k6⟩
  · rcases hs with ⟨s1, s2, s3⟩ | ⟨s1, s2, -⟩ | ⟨s1, s2, -⟩
    · exact ⟨sv_ref R s3 (sgR_ref B4 k3 H9), s1, fun h => absurd h (by decide)⟩
    · exact absurd k2 s2
    · exact absurd k2 s2
  · rcases hs with ⟨s1, s2, s3⟩ | ⟨s1, s2, s3, s4⟩ | ⟨s1, s2, s3, -⟩
    · exact absurd s2 k2
    · exact ⟨sv_ref R s4 (sgR_ref B4 k4 H9), s1, fun h => absurd h (by decide)⟩
    · omega
  · rcases hs with ⟨s1, s2, s3⟩ | ⟨s1, s2, s3, s4⟩ | ⟨s1, s2, s3, s4, s5, s6⟩
    · exact absurd s2 k2
    · omega
    · exact ⟨sgR_ref B4 (k5 σ' (sv_ss R s5 k6) s6) H9, s1, fun _ => by rw [s4]; exact o_ref B4 H9 k4⟩
theorem fw_un {w w' : Int32} (a : fwP σ w) (c : fwP σ w') : w = w' := by
  rcases a with ⟨rfl, a⟩ | ⟨a1, a2, a3, a4⟩
  · rcases c with ⟨rfl, -⟩ | ⟨c1, c2, c3, c4⟩
    · rfl
    · exact absurd (a _ c1 c2) c4
  · rcases c with ⟨rfl, c⟩ | ⟨c1, c2, c3, c4⟩
    · exact absurd (c _ a1 a2) a4
    · rcases Int.lt_trichotomy w.toInt w'.toInt with g | g | g
      · exact absurd (c3 _ a1 g) a4
      · exact Int32.toInt_inj.mp g
      · exact absurd (a3 _ c1 g) c4
theorem pr_un {w y y' : Int32} (a : prA σ w y) (c : prA σ w y') : y = y' := by
  rcases a with ⟨a1, a2⟩ | ⟨a1, a2, a3⟩ | ⟨a1, a2, a3⟩
  · rcases c with ⟨c1, c2⟩ | ⟨c1, c2, c3⟩ | ⟨c1, c2, c3⟩
    · rw [a2, c2]
    · exact absurd c1 a1
    · exact absurd c1 a1
  · rcases c with ⟨c1, c2⟩ | ⟨c1, c2, c3⟩ | ⟨c1, c2, c3⟩
    · exact absurd a1 c1
    · rw [a3, c3]
    · exact absurd c2 a2
  · rcases c with ⟨c1, c2⟩ | ⟨c1, c2, c3⟩ | ⟨c1, c2, c3⟩
    · exact absurd a1 c1
    · exact absurd a2 c2
    · rw [a3, c3]
theorem set_un {p v k w x y : Int32} (a : setP σ p v k w x) (c : setP σ p v k w y) : x = y := by
  rcases a with ⟨a1, a2⟩ | ⟨a1, ⟨a2, a3⟩ | ⟨a2, a3⟩⟩
  · rcases c with ⟨c1, c2⟩ | ⟨c1, -⟩
    · rw [a1, c1]
    · exact absurd c1 a2
  · rcases c with ⟨c1, c2⟩ | ⟨c1, ⟨c2, c3⟩ | ⟨c2, c3⟩⟩
    · exact absurd a1 c2
    · rw [a2, c2]
    · exact absurd c3 a3
  · rcases c with ⟨c1, c2⟩ | ⟨c1, ⟨c2, c3⟩ | ⟨c2, c3⟩⟩
    · exact absurd a1 c2
    · exact absurd a3 c3
    · rw [a2, c2]
theorem pt_eq {s k v x c : Int32} (p : ptP σ s k v x) (hk : (c = 1 ∧ ¬ inE (sv σ) s k) ∨ (inE (sv σ) s k ∧ ((c = 2 ∧ ¬ okE (sv σ) s v) ∨ (c = 0 ∧ okE (sv σ) s v)))) : x = c := by
  have hin : inE (sv σ) s k ↔ (0 ≤ s.toInt ∧ s.toInt < (σ.1 7).toInt ∧ 0 ≤ k.toInt ∧ k.toInt < (if ia σ 0 s.toInt.toNat = 1 then (ia σ 1 s.toInt.toNat).toInt else 1)) := by
    have e : ((sv σ).2.1 1 s.toInt.toNat).toInt = (if ia σ 0 s.toInt.toNat = 1 then (ia σ 1 s.toInt.toNat).toInt else 1) := by
      show (if ia σ 0 s.toInt.toNat = 1 then ia σ 1 s.toInt.toNat else (1 : Int32)).toInt = _
      by_cases c : ia σ 0 s.toInt.toNat = 1
      · rw [if_pos c, if_pos c]
      · rw [if_neg c, if_neg c]; rfl
    unfold inE
    rw [e]
    exact Iff.rfl
  have hok : okE (sv σ) s v ↔ canP σ s.toInt.toNat v.toInt := by
    show ((if ia σ 0 s.toInt.toNat = 2 then ia σ 2 s.toInt.toNat else (0 : Int32)).toInt ≤ v.toInt ∧ v.toInt ≤ (if ia σ 0 s.toInt.toNat = 2 then ia σ 3 s.toInt.toNat else (8 : Int32)).toInt) ↔ _
    unfold canP
    by_cases c : ia σ 0 s.toInt.toNat = 2
    · rw [if_pos c, if_pos c, if_pos c]
    · rw [if_neg c, if_neg c, if_neg c]
      exact Iff.rfl
  unfold ptP at p
  rw [← hin, ← hok] at p
  rcases p with ⟨p1, p2⟩ | ⟨p1, ⟨p2, p3⟩ | ⟨p2, p3⟩⟩
  · rcases hk with ⟨q1, q2⟩ | ⟨q1, q2⟩
    · rw [p1, q1]
    · exact absurd q1 p2
  · rcases hk with ⟨q1, q2⟩ | ⟨q1, ⟨q2, q3⟩ | ⟨q2, q3⟩⟩
    · exact absurd p1 q2
    · rw [p2, q2]
    · exact absurd q3 p3
  · rcases hk with ⟨q1, q2⟩ | ⟨q1, ⟨q2, q3⟩ | ⟨q2, q3⟩⟩
    · exact absurd p1 q2
    · exact absurd p3 q3
    · rw [p2, q2]
theorem thI_up {dc da db : Nat → Int32} {n : Nat} {a e f : Int32} : upS (fun i => thI (dc i) (da i) (db i)) n (thI a e f) = fun i => thI (upS dc n a i) (upS da n e i) (upS db n f i) := by
  funext i
  by_cases q : i = n
  · subst q
    rw [upS_eq, upS_eq, upS_eq, upS_eq]
  · rw [upS_ne q, upS_ne q, upS_ne q, upS_ne q]
theorem i64_inj {a e : Int32} (q : a.toInt64 = e.toInt64) : a = e := by
  have q := congrArg Int64.toInt q
  rw [Int32.toInt_toInt64, Int32.toInt_toInt64] at q
  exact Int32.toInt_inj.mp q
theorem aJ_inj {a e : Int64} {h4 : ah_H} (p : h4.1 o = some (101, [aJ a])) (q : h4.1 o = some (101, [aJ e])) : a = e := by
  rw [p] at q
  have q := Option.some.inj q
  have q := congrArg (fun z : Nat × List AV => z.2) q
  exact Sum.inl.inj (Sum.inr.inj (List.cons.inj q).1)
theorem x_processes {bb : ah_H} (H : RH m σ bb h) : wq (vc lim (d + 1) m_Ref_processes [aR m] h) (rI fun _ h' => RH m (sG σ 0 0) bb h') := wq_eq e_Ref_processes (wc H (fun h2 H2 => wq_gI H2.1 rfl (wq_some (rI_i H2))))
theorem cmp_finJ {h4 h9 : ah_H} {σ' : rS} {k : Int32} {y : Int64} (H9 : RH m σ' h4 h9) (s1 : σ'.1 0 = k) (s2 : k = 0 → h9.1 o = some (101, [aJ y])) (nt : wq (ah_val lim ah_P (d + 230) 278 972 [some (.inr (.inr (some b))), some (.inr (.inr (some x))), some (.inr (.inr (some m))), some (.inr (.inr (some o))), some (.inl v4), none, none, none] [] h9) (rI fun z _ => z = 1)) : wq (ah_at h9 (some m) 11 fun _ _ => ah_cI (vc lim (d + 230) 23 [.inr (.inr (some m))] h9) (nx h9) fun i12 h11 => if i12 = k then if k = 0 then ah_lJ h11 (some o) 101 (0 : Int32) fun e13 => if (lg_cmp e13 y) = 0 then ah_val lim ah_P (d + 230) 278 972 [some (.inr (.inr (some b))), some (.inr (.inr (some x))), some (.inr (.inr (some m))), some (.inr (.inr (some o))), some (.inl v4), none, none, none] [] h11 else if (0 : Int32) = 0 ∨ (0 : Int32) = 1 then some (.inl (some (.inl (0 : Int32))), h11) else none else ah_val lim ah_P (d + 230) 278 972 [some (.inr (.inr (some b))), some (.inr (.inr (some x))), some (.inr (.inr (some m))), some (.inr (.inr (some o))), some (.inl v4), none, none, none] [] h11 else if (0 : Int32) = 0 ∨ (0 : Int32) = 1 then some (.inl (some (.inl (0 : Int32))), h11) else none) (rI fun z _ => z = 1) := by
  refine wq_at H9.1 (wq_cI (v_thrown (d := d + 229) H9) ?_)
  rintro z h11 ⟨e, rfl⟩
  cases e
  refine wq_t s1 (wq_if _ (fun c => ?_) (fun _ => nt))
  refine wq_lJ (s2 c) (by decide) (y := y) rfl ?_
  exact wq_t lg_self nt
theorem k_get (B : LB b x m o L xs t κ σ h) (S : sgR x (sv σ) h) (X : XR x m o σ h) (R : rmT lim t h) (I : ixT v4 t L) (K : nxT lim d b x m o L xs t v4) : wq (ah_val lim ah_P (d + 230) 278 471 [some (.inr (.inr (some b))), some (.inr (.inr (some x))), some (.inr (.inr (some m))), some (.inr (.inr (some o))), some (.inl v4), none, none, none] [] h) (rI fun z _ => z = 1) := by
  obtain ⟨c, τ, nS, PS, eS, nU, U, nD, PD, dc, da, db, Bf, Vf, hf, Ki, A, Q, p, dx, bd⟩ := id X
  have bo : o < h.2.1 := B.2.2.2.2.2.2.2.2.2.2.2.2
  have ht : t < 512 := by obtain ⟨-, i2, i3⟩ := I; omega
  refine wq_eq q_278_471 (L_rd B (ir1 I).1 (ir1 I).2 (L_rd B (ir2 I).1 (ir2 I).2 (wq_cI (wq_and (L_get (d := d + 209) B S (rmT_0 R I)) (XL_get (d := d + 209) B Ki bd (rmT_0 R I))) ?_)))
  rintro k h4 ⟨⟨κ', B4, S4, r1, r2⟩, f4, hk⟩
  refine (L_rd B4 (ir1 I).1 (ir1 I).2 (L_rd B4 (ir2 I).1 (ir2 I).2 (wq_at (LB_H B4).1 (wq_cI (wq_and (v_get (d := d + 227) (LB_H B4) (LB_R B4)) (x_get (d := d + 227) (LB_H B4) Q)) ?_))))
  rintro y h9 ⟨⟨σ', a1, a2, a3⟩, e, b1, he⟩
  have nt : wq (ah_val lim ah_P (d + 230) 278 972 [some (.inr (.inr (some b))), some (.inr (.inr (some x))), some (.inr (.inr (some m))), some (.inr (.inr (some o))), some (.inl v4), none, none, none] [] h9) (rI fun z _ => z = 1) := kN B4 S4 a1 a2 a3 (XR_n X f4 b1 a1 a3.2.2) R I r1 r2 K
  exact nt
theorem k_variableOf (B : LB b x m o L xs t κ σ h) (S : sgR x (sv σ) h) (X : XR x m o σ h) (R : rmT lim t h) (I : ixT v4 t L) (K : nxT lim d b x m o L xs t v4) : wq (ah_val lim ah_P (d + 230) 278 572 [some (.inr (.inr (some b))), some (.inr (.inr (some x))), some (.inr (.inr (some m))), some (.inr (.inr (some o))), some (.inl v4), none, none, none] [] h) (rI fun z _ => z = 1) := by
  obtain ⟨c, τ, nS, PS, eS, nU, U, nD, PD, dc, da, db, Bf, Vf, hf, Ki, A, Q, p, dx, bd⟩ := id X
  have bo : o < h.2.1 := B.2.2.2.2.2.2.2.2.2.2.2.2
  have ht : t < 512 := by obtain ⟨-, i2, i3⟩ := I; omega
  refine wq_eq q_278_572 (L_rd B (ir1 I).1 (ir1 I).2 (L_rd B (ir2 I).1 (ir2 I).2 (L_rd B (ir3 I).1 (ir3 I).2 (wq_cI (wq_and (L_variableOf (d := d + 209) B S (rmT_0 R I)) (XL_variableOf (d := d + 209) B Ki bd (rmT_0 R I))) ?_))))
  rintro k h4 ⟨⟨κ', B4, S4, r1, r2⟩, f4, hk⟩
  refine (L_rd B4 (ir1 I).1 (ir1 I).2 (L_rd B4 (ir2 I).1 (ir2 I).2 (L_rd B4 (ir3 I).1 (ir3 I).2 (wq_at (LB_H B4).1 (wq_cI (wq_and (v_variableOf (d := d + 227) (LB_H B4) (LB_R B4)) (x_variableOf (d := d + 227) (LB_H B4) Q)) ?_)))))
  rintro y h9 ⟨⟨σ', a1, a2, a3⟩, e, b1, he⟩
  have nt : wq (ah_val lim ah_P (d + 230) 278 972 [some (.inr (.inr (some b))), some (.inr (.inr (some x))), some (.inr (.inr (some m))), some (.inr (.inr (some o))), some (.inl v4), none, none, none] [] h9) (rI fun z _ => z = 1) := kN B4 S4 a1 a2 a3 (XR_n X f4 b1 a1 a3.2.2) R I r1 r2 K
  exact nt
theorem k_waits (B : LB b x m o L xs t κ σ h) (S : sgR x (sv σ) h) (X : XR x m o σ h) (R : rmT lim t h) (I : ixT v4 t L) (K : nxT lim d b x m o L xs t v4) : wq (ah_val lim ah_P (d + 230) 278 732 [some (.inr (.inr (some b))), some (.inr (.inr (some x))), some (.inr (.inr (some m))), some (.inr (.inr (some o))), some (.inl v4), none, none, none] [] h) (rI fun z _ => z = 1) := by
  obtain ⟨c, τ, nS, PS, eS, nU, U, nD, PD, dc, da, db, Bf, Vf, hf, Ki, A, Q, p, dx, bd⟩ := id X
  have bo : o < h.2.1 := B.2.2.2.2.2.2.2.2.2.2.2.2
  have ht : t < 512 := by obtain ⟨-, i2, i3⟩ := I; omega
  refine wq_eq q_278_732 (L_rd B (ir1 I).1 (ir1 I).2 (L_rd B (ir2 I).1 (ir2 I).2 (wq_cI (wq_and (L_waits (d := d + 209) B S (rmT_0 R I)) (XL_waits (d := d + 209) B Ki bd (RQ_w Q) (rmT_0 R I))) ?_)))
  rintro k h4 ⟨⟨κ', B4, S4, r1, r2⟩, f4, hk⟩
  refine (L_rd B4 (ir1 I).1 (ir1 I).2 (L_rd B4 (ir2 I).1 (ir2 I).2 (wq_at (LB_H B4).1 (wq_cI (wq_and (v_waits (d := d + 228) (LB_H B4) (LB_R B4)) (x_waits (d := d + 228) (LB_H B4) Q)) ?_))))
  rintro y h9 ⟨⟨σ', a1, a2, a3⟩, e, b1, he⟩
  have nt : wq (ah_val lim ah_P (d + 230) 278 972 [some (.inr (.inr (some b))), some (.inr (.inr (some x))), some (.inr (.inr (some m))), some (.inr (.inr (some o))), some (.inl v4), none, none, none] [] h9) (rI fun z _ => z = 1) := kN B4 S4 a1 a2 a3 (XR_n X f4 b1 a1 a3.2.2) R I r1 r2 K
  exact nt
theorem k_until (B : LB b x m o L xs t κ σ h) (S : sgR x (sv σ) h) (X : XR x m o σ h) (R : rmT lim t h) (I : ixT v4 t L) (K : nxT lim d b x m o L xs t v4) : wq (ah_val lim ah_P (d + 230) 278 772 [some (.inr (.inr (some b))), some (.inr (.inr (some x))), some (.inr (.inr (some m))), some (.inr (.inr (some o))), some (.inl v4), none, none, none] [] h) (rI fun z _ => z = 1) := by
  obtain ⟨c, τ, nS, PS, eS, nU, U, nD, PD, dc, da, db, Bf, Vf, hf, Ki, A, Q, p, dx, bd⟩ := id X
  have bo : o < h.2.1 := B.2.2.2.2.2.2.2.2.2.2.2.2
  have ht : t < 512 := by obtain ⟨-, i2, i3⟩ := I; omega
  refine wq_eq q_278_772 (L_rd B (ir1 I).1 (ir1 I).2 (wq_cI (wq_and (L_until (d := d + 209) B S (rmT_0 R I)) (XL_until (d := d + 209) B Ki bd (rmT_0 R I))) ?_))
  rintro k h4 ⟨⟨κ', B4, S4, r1, r2⟩, f4, hk⟩
  refine (L_rd B4 (ir1 I).1 (ir1 I).2 (wq_at (LB_H B4).1 (wq_cJ (wq_aJ (v_until (d := d + 228) (LB_H B4) (LB_R B4)) (x_until (d := d + 228) (LB_H B4) Q)) ?_)))
  rintro y h9 ⟨⟨σ', a1, a2, a3⟩, e, b1, he⟩
  have nt : wq (ah_val lim ah_P (d + 230) 278 972 [some (.inr (.inr (some b))), some (.inr (.inr (some x))), some (.inr (.inr (some m))), some (.inr (.inr (some o))), some (.inl v4), none, none, none] [] h9) (rI fun z _ => z = 1) := kN B4 S4 a1 a2 a3 (XR_n X f4 b1 a1 a3.2.2) R I r1 r2 K
  exact nt
theorem k_value (B : LB b x m o L xs t κ σ h) (S : sgR x (sv σ) h) (X : XR x m o σ h) (R : rmT lim t h) (I : ixT v4 t L) (K : nxT lim d b x m o L xs t v4) : wq (ah_val lim ah_P (d + 230) 278 853 [some (.inr (.inr (some b))), some (.inr (.inr (some x))), some (.inr (.inr (some m))), some (.inr (.inr (some o))), some (.inl v4), none, none, none] [] h) (rI fun z _ => z = 1) := by
  obtain ⟨c, τ, nS, PS, eS, nU, U, nD, PD, dc, da, db, Bf, Vf, hf, Ki, A, Q, p, dx, bd⟩ := id X
  have bo : o < h.2.1 := B.2.2.2.2.2.2.2.2.2.2.2.2
  have ht : t < 512 := by obtain ⟨-, i2, i3⟩ := I; omega
  refine wq_eq q_278_853 (L_rd B (ir1 I).1 (ir1 I).2 (L_rd B (ir2 I).1 (ir2 I).2 (L_rd B (ir3 I).1 (ir3 I).2 (wq_cI (wq_and (L_value (d := d + 209) B S (rmT_0 R I)) (XL_value (d := d + 209) B Ki bd (TA_TL Q.1.2.2.2.1) (rmT_0 R I))) ?_))))
  rintro k h4 ⟨⟨κ', B4, S4, r1, r2⟩, f4, hk⟩
  refine (L_rd B4 (ir1 I).1 (ir1 I).2 (L_rd B4 (ir2 I).1 (ir2 I).2 (L_rd B4 (ir3 I).1 (ir3 I).2 (wq_at (LB_H B4).1 (wq_cI (wq_and (v_value (d := d + 227) (LB_H B4) (LB_R B4)) (x_value (d := d + 227) (LB_H B4) Q)) ?_)))))
  rintro y h9 ⟨⟨σ', a1, a2, a3⟩, e, b1, he⟩
  have nt : wq (ah_val lim ah_P (d + 230) 278 972 [some (.inr (.inr (some b))), some (.inr (.inr (some x))), some (.inr (.inr (some m))), some (.inr (.inr (some o))), some (.inl v4), none, none, none] [] h9) (rI fun z _ => z = 1) := kN B4 S4 a1 a2 a3 (XR_n X f4 b1 a1 a3.2.2) R I r1 r2 K
  exact nt
theorem k_delay (B : LB b x m o L xs t κ σ h) (S : sgR x (sv σ) h) (X : XR x m o σ h) (R : rmT lim t h) (I : ixT v4 t L) (K : nxT lim d b x m o L xs t v4) : wq (ah_val lim ah_P (d + 230) 278 905 [some (.inr (.inr (some b))), some (.inr (.inr (some x))), some (.inr (.inr (some m))), some (.inr (.inr (some o))), some (.inl v4), none, none, none] [] h) (rI fun z _ => z = 1) := by
  obtain ⟨c, τ, nS, PS, eS, nU, U, nD, PD, dc, da, db, Bf, Vf, hf, Ki, A, Q, p, dx, bd⟩ := id X
  have bo : o < h.2.1 := B.2.2.2.2.2.2.2.2.2.2.2.2
  have ht : t < 512 := by obtain ⟨-, i2, i3⟩ := I; omega
  refine wq_eq q_278_905 (L_rd B (ir1 I).1 (ir1 I).2 (L_rd B (ir2 I).1 (ir2 I).2 (wq_cI (wq_and (L_delay (d := d + 209) B S (rmT_0 R I)) (XL_delay (d := d + 209) B Ki bd (TA_TL Q.1.2.2.2.1) (rmT_0 R I))) ?_)))
  rintro k h4 ⟨⟨κ', B4, S4, r1, r2⟩, f4, hk⟩
  refine (L_rd B4 (ir1 I).1 (ir1 I).2 (L_rd B4 (ir2 I).1 (ir2 I).2 (wq_at (LB_H B4).1 (wq_cJ (wq_aJ (v_delay (d := d + 228) (LB_H B4) (LB_R B4)) (x_delay (d := d + 228) (LB_H B4) Q)) ?_))))
  rintro y h9 ⟨⟨σ', a1, a2, a3⟩, e, b1, he⟩
  have nt : wq (ah_val lim ah_P (d + 230) 278 972 [some (.inr (.inr (some b))), some (.inr (.inr (some x))), some (.inr (.inr (some m))), some (.inr (.inr (some o))), some (.inl v4), none, none, none] [] h9) (rI fun z _ => z = 1) := kN B4 S4 a1 a2 a3 (XR_n X f4 b1 a1 a3.2.2) R I r1 r2 K
  obtain ⟨g1, g2⟩ := ro_J he hk
  have s1 : σ'.1 0 = k := ((eq_RH b1 a1).1 0 (Or.inl rfl)).trans (sG_eq.trans g1)
  exact cmp_finJ a1 s1 (fun q => o_ref B4 a1 (g2 q)) nt
theorem k_act (B : LB b x m o L xs t κ σ h) (S : sgR x (sv σ) h) (X : XR x m o σ h) (R : rmT lim t h) (I : ixT v4 t L) (K : nxT lim d b x m o L xs t v4) : wq (ah_val lim ah_P (d + 230) 278 813 [some (.inr (.inr (some b))), some (.inr (.inr (some x))), some (.inr (.inr (some m))), some (.inr (.inr (some o))), some (.inl v4), none, none, none] [] h) (rI fun z _ => z = 1) := by
  obtain ⟨c, τ, nS, PS, eS, nU, U, nD, PD, dc, da, db, Bf, Vf, hf, Ki, A, Q, p, dx, bd⟩ := id X
  have bo : o < h.2.1 := B.2.2.2.2.2.2.2.2.2.2.2.2
  have ht : t < 512 := by obtain ⟨-, i2, i3⟩ := I; omega
  refine wq_eq q_278_813 (L_rd B (ir1 I).1 (ir1 I).2 (L_rd B (ir2 I).1 (ir2 I).2 (wq_cI (wq_and (L_act (d := d + 209) B S (rmT_0 R I)) (XL_act (d := d + 209) B Ki bd (rmT_0 R I))) ?_)))
  rintro k h4 ⟨⟨κ', B4, S4, r1, r2⟩, f4, hk⟩
  refine (L_rd B4 (ir1 I).1 (ir1 I).2 (L_rd B4 (ir2 I).1 (ir2 I).2 (wq_at (LB_H B4).1 (wq_cI (wq_and (v_act2 (d := d + 229) (LB_H B4) (LB_R B4)) (x_act (d := d + 229) (LB_H B4) Q)) ?_))))
  rintro y h9 ⟨⟨σ', a1, a2, a3⟩, e, b1, he⟩
  have nt : wq (ah_val lim ah_P (d + 230) 278 972 [some (.inr (.inr (some b))), some (.inr (.inr (some x))), some (.inr (.inr (some m))), some (.inr (.inr (some o))), some (.inl v4), none, none, none] [] h9) (rI fun z _ => z = 1) := kN B4 S4 a1 a2 a3 (XR_n X f4 b1 a1 a3.2.2) R I r1 r2 K
  exact nt
theorem k_about (B : LB b x m o L xs t κ σ h) (S : sgR x (sv σ) h) (X : XR x m o σ h) (R : rmT lim t h) (I : ixT v4 t L) (K : nxT lim d b x m o L xs t v4) : wq (ah_val lim ah_P (d + 230) 278 692 [some (.inr (.inr (some b))), some (.inr (.inr (some x))), some (.inr (.inr (some m))), some (.inr (.inr (some o))), some (.inl v4), none, none, none] [] h) (rI fun z _ => z = 1) := by
  obtain ⟨c, τ, nS, PS, eS, nU, U, nD, PD, dc, da, db, Bf, Vf, hf, Ki, A, Q, p, dx, bd⟩ := id X
  have bo : o < h.2.1 := B.2.2.2.2.2.2.2.2.2.2.2.2
  have ht : t < 512 := by obtain ⟨-, i2, i3⟩ := I; omega
  refine wq_eq q_278_692 (L_rd B (ir1 I).1 (ir1 I).2 (L_rd B (ir2 I).1 (ir2 I).2 (wq_cI (wq_and (L_about (d := d + 209) B S (rmT_0 R I)) (XL_about (d := d + 209) B bd (rmT_0 R I))) ?_)))
  rintro k h4 ⟨⟨κ', B4, S4, r1, r2⟩, f4⟩
  refine (L_rd B4 (ir1 I).1 (ir1 I).2 (L_rd B4 (ir2 I).1 (ir2 I).2 (wq_at (LB_H B4).1 (wq_cI (wq_and (v_about (d := d + 228) (LB_H B4) (LB_R B4)) (x_about (d := d + 228) (LB_H B4) (LB_R B4))) ?_))))
  rintro y h9 ⟨⟨σ', a1, a2, a3⟩, e, b1⟩
  exact kN B4 S4 a1 a2 a3 (XR_n X f4 b1 a1 a3.2.2) R I r1 r2 K
theorem k_acts (B : LB b x m o L xs t κ σ h) (S : sgR x (sv σ) h) (X : XR x m o σ h) (R : rmT lim t h) (I : ixT v4 t L) (K : nxT lim d b x m o L xs t v4) : wq (ah_val lim ah_P (d + 230) 278 800 [some (.inr (.inr (some b))), some (.inr (.inr (some x))), some (.inr (.inr (some m))), some (.inr (.inr (some o))), some (.inl v4), none, none, none] [] h) (rI fun z _ => z = 1) := by
  obtain ⟨c, τ, nS, PS, eS, nU, U, nD, PD, dc, da, db, Bf, Vf, hf, Ki, A, Q, p, dx, bd⟩ := id X
  have bo : o < h.2.1 := B.2.2.2.2.2.2.2.2.2.2.2.2
  have ht : t < 512 := by obtain ⟨-, i2, i3⟩ := I; omega
  refine wq_eq q_278_800 (L_ax B (wq_cI (kq_acts (d := d + 229) Ki) ?_))
  rintro i h4 ⟨eh, rfl⟩
  subst eh
  refine wq_at (LB_H B).1 (wq_cI (wq_and (v_acts (d := d + 229) (LB_H B) (LB_R B)) (x_acts (d := d + 229) (LB_H B) Q)) ?_)
  rintro y h9 ⟨⟨σ', a1, a2, a3⟩, b1, rfl⟩
  have nt : wq (ah_val lim ah_P (d + 230) 278 972 [some (.inr (.inr (some b))), some (.inr (.inr (some x))), some (.inr (.inr (some m))), some (.inr (.inr (some o))), some (.inl v4), none, none, none] [] h9) (rI fun z _ => z = 1) := kN (LB_1 B) S a1 a2 a3 (XR_n X FR_0 b1 a1 a3.2.2) R I (by omega) (by omega) K
  exact nt
theorem k_processes (B : LB b x m o L xs t κ σ h) (S : sgR x (sv σ) h) (X : XR x m o σ h) (R : rmT lim t h) (I : ixT v4 t L) (K : nxT lim d b x m o L xs t v4) : wq (ah_val lim ah_P (d + 230) 278 300 [some (.inr (.inr (some b))), some (.inr (.inr (some x))), some (.inr (.inr (some m))), some (.inr (.inr (some o))), some (.inl v4), none, none, none] [] h) (rI fun z _ => z = 1) := by
  obtain ⟨c, τ, nS, PS, eS, nU, U, nD, PD, dc, da, db, Bf, Vf, hf, Ki, A, Q, p, dx, bd⟩ := id X
  have bo : o < h.2.1 := B.2.2.2.2.2.2.2.2.2.2.2.2
  have ht : t < 512 := by obtain ⟨-, i2, i3⟩ := I; omega
  refine wq_eq q_278_300 (L_ax B (wq_cI (s_Code_processes (d := d + 229) B.2.1 B.2.2.2.1) ?_))
  rintro i h4 ⟨eh, -⟩
  subst eh
  refine wq_at (LB_H B).1 (wq_cI (wq_and (v_processes (d := d + 229) (LB_H B) (LB_R B)) (x_processes (d := d + 229) (LB_H B))) ?_)
  rintro y h9 ⟨⟨⟨σ', a1, a2, a3⟩, -⟩, b1⟩
  exact kN (LB_1 B) S a1 a2 a3 (XR_n X FR_0 b1 a1 a3.2.2) R I (by omega) (by omega) K
theorem k_signal (B : LB b x m o L xs t κ σ h) (S : sgR x (sv σ) h) (X : XR x m o σ h) (R : rmT lim t h) (I : ixT v4 t L) (K : nxT lim d b x m o L xs t v4) : wq (ah_val lim ah_P (d + 230) 278 128 [some (.inr (.inr (some b))), some (.inr (.inr (some x))), some (.inr (.inr (some m))), some (.inr (.inr (some o))), some (.inl v4), none, none, none] [] h) (rI fun z _ => z = 1) := by
  obtain ⟨c, τ, nS, PS, eS, nU, U, nD, PD, dc, da, db, Bf, Vf, hf, Ki, A, Q, p, dx, bd⟩ := id X
  have bo : o < h.2.1 := B.2.2.2.2.2.2.2.2.2.2.2.2
  have ht : t < 512 := by obtain ⟨-, i2, i3⟩ := I; omega
  refine wq_eq q_278_128 (L_rd B (ir1 I).1 (ir1 I).2 (L_rd B (ir2 I).1 (ir2 I).2 (L_rd B (ir3 I).1 (ir3 I).2 (wq_cI (wq_and (L_signal (d := d + 209) B S (rmT_1 R I)) (XL_signal (d := d + 209) B S Ki A bd (rmT_1 R I))) ?_))))
  rintro k h4 ⟨⟨κ', cnt', B4, S4, r1, r2, hk⟩, fn, hx⟩
  refine (L_rd B4 (ir1 I).1 (ir1 I).2 (L_rd B4 (ir2 I).1 (ir2 I).2 (L_rd B4 (ir3 I).1 (ir3 I).2 (wq_at (LB_H B4).1 (wq_cI (wq_and (v_signal (d := d + 227) (LB_H B4) (LB_R B4)) (x_signal (d := d + 227) (LB_H B4) Q)) ?_)))))
  rintro y h9 ⟨⟨σ', H9, hs⟩, σ2, H2, hq⟩
  have R9 := hs.1
  obtain ⟨S9, s1, s2⟩ := S_signal (LB_R B) hk hs (sgR_ref B4 S4 H9)
  have g : TG σ σ' := by
    rcases hs.2 with ⟨-, -, s3⟩ | ⟨-, -, -, s4⟩ | ⟨-, -, -, -, -, -, -, -, -, -, s11⟩
    · exact s3.2.2
    · exact s4.2.2
    · exact s11
  have h7 : (σ.1 7).toInt = nS := Q.1.2.2.1.1
  have X9 : XR x m o σ' h9 := by
    rcases hk with ⟨rfl, k2, -⟩ | ⟨rfl, k2, k3, -⟩ | ⟨rfl, k2, k3, -⟩
    · rcases hx with ⟨-, hx⟩ | ⟨q, -⟩
      · rcases hq with ⟨q, -⟩ | ⟨-, hq⟩
        · exact absurd (cb_ok.mpr q) k2
        · exact XR_c hx A hq H2 H9 (pTall_t g p) (DXp_t g (DXp_f dx fn)) bd
      · exact absurd q (by decide)
    · have k3 : 512 ≤ (σ.1 7).toInt := k3
      rcases hx with ⟨-, hx⟩ | ⟨q, -⟩
      · rcases hq with ⟨-, q, -⟩ | ⟨-, hq⟩
        · omega
        · exact XR_c hx A hq H2 H9 (pTall_t g p) (DXp_t g (DXp_f dx fn)) bd
      · exact absurd q (by decide)
    · have k3 : (σ.1 7).toInt < 512 := k3
      rcases hx with ⟨q, -⟩ | ⟨-, hx⟩
      · exact absurd rfl q
      · rcases hq with ⟨-, -, hq⟩ | ⟨q, -⟩
        · exact XR_c hx (AB_s A bo) hq H2 H9 (pTall_t g p) (DXp_t g (DXp_f dx fn)) bd
        · exact absurd ⟨cb_ok.mp k2, by omega⟩ q
  exact K κ' σ' h9 (LB_ref B4 H9 R9) S9 X9 (rm_ref H9 R ht r1 r2)
theorem k_variable (B : LB b x m o L xs t κ σ h) (S : sgR x (sv σ) h) (X : XR x m o σ h) (R : rmT lim t h) (I : ixT v4 t L) (K : nxT lim d b x m o L xs t v4) : wq (ah_val lim ah_P (d + 230) 278 180 [some (.inr (.inr (some b))), some (.inr (.inr (some x))), some (.inr (.inr (some m))), some (.inr (.inr (some o))), some (.inl v4), none, none, none] [] h) (rI fun z _ => z = 1) := by
  obtain ⟨c, τ, nS, PS, eS, nU, U, nD, PD, dc, da, db, Bf, Vf, hf, Ki, A, Q, p, dx, bd⟩ := id X
  have bo : o < h.2.1 := B.2.2.2.2.2.2.2.2.2.2.2.2
  have ht : t < 512 := by obtain ⟨-, i2, i3⟩ := I; omega
  refine wq_eq q_278_180 (L_rd B (ir1 I).1 (ir1 I).2 (L_rd B (ir2 I).1 (ir2 I).2 (L_rd B (ir3 I).1 (ir3 I).2 (wq_cI (wq_and (L_variable (d := d + 209) B S (rmT_1 R I)) (XL_variable (d := d + 209) B S Ki A bd (rmT_1 R I))) ?_))))
  rintro k h4 ⟨⟨κ', B4, r1, r2, hk⟩, fn, hx⟩
  refine (L_rd B4 (ir1 I).1 (ir1 I).2 (L_rd B4 (ir2 I).1 (ir2 I).2 (L_rd B4 (ir3 I).1 (ir3 I).2 (wq_at (LB_H B4).1 (wq_cI (wq_and (v_variable (d := d + 227) (LB_H B4) (LB_R B4)) (x_variable (d := d + 227) (LB_H B4) Q)) ?_)))))
  rintro y h9 ⟨⟨σ', H9, hs⟩, σ2, H2, hq⟩
  obtain ⟨S9, s1, s2⟩ := S_variable B4 hk H9 hs
  have g : ∀ l2 l4, DX σ l2 l4 → DX σ' l2 l4 := fun l2 l4 q => by
    rcases hs.2 with ⟨-, -, s3⟩ | ⟨-, -, -, s4⟩ | ⟨-, -, -, -, -, s6⟩
    · exact DX_t s3.2.2 q
    · exact DX_t s4.2.2 q
    · exact DX_v s6 q
  have p' : pTall σ' := by
    rcases hs.2 with ⟨-, -, s3⟩ | ⟨-, -, -, s4⟩ | ⟨-, -, -, -, -, s6⟩
    · exact pTall_t s3.2.2 p
    · exact pTall_t s4.2.2 p
    · exact pTall_v s6 p
  have dx' : DXp x σ' h4 := by
    obtain ⟨l2, l4, w1, w2, w3⟩ := DXp_f dx fn
    exact ⟨l2, l4, w1, w2, g l2 l4 w3⟩
  have h7 : (σ.1 9).toInt = nD := Q.1.2.2.1.2.2.2
  have X9 : XR x m o σ' h9 := by
    rcases hk with ⟨rfl, k2, -⟩ | ⟨rfl, k2, k3, -⟩ | ⟨rfl, k2, k3, -⟩
    · rcases hx with ⟨-, hx⟩ | ⟨q, -⟩
      · rcases hq with ⟨q, -⟩ | ⟨-, hq⟩
        · exact absurd (cb_ok.mpr q) k2
        · exact XR_c hx A hq H2 H9 p' dx' bd
      · exact absurd q (by decide)
    · rcases hx with ⟨-, hx⟩ | ⟨q, -⟩
      · rcases hq with ⟨-, q, -⟩ | ⟨-, hq⟩
        · omega
        · exact XR_c hx A hq H2 H9 p' dx' bd
      · exact absurd q (by decide)
    · rcases hx with ⟨q, -⟩ | ⟨-, hx⟩
      · exact absurd rfl q
      · rcases hq with ⟨-, -, hq⟩ | ⟨q, -⟩
        · rw [thI_up] at hx
          exact XR_c hx (AB_d A bo) hq H2 H9 p' dx' bd
        · exact absurd ⟨cb_ok.mp k2, by omega⟩ q
  exact K κ' σ' h9 (LB_ref B4 H9 hs.1) S9 X9 (rm_ref H9 R ht r1 r2)
theorem k_add (B : LB b x m o L xs t κ σ h) (S : sgR x (sv σ) h) (X : XR x m o σ h) (R : rmT lim t h) (I : ixT v4 t L) (K : nxT lim d b x m o L xs t v4) : wq (ah_val lim ah_P (d + 230) 278 232 [some (.inr (.inr (some b))), some (.inr (.inr (some x))), some (.inr (.inr (some m))), some (.inr (.inr (some o))), some (.inl v4), none, none, none] [] h) (rI fun z _ => z = 1) := by
  obtain ⟨c, τ, nS, PS, eS, nU, U, nD, PD, dc, da, db, Bf, Vf, hf, Ki, A, Q, p, dx, bd⟩ := id X
  have bo : o < h.2.1 := B.2.2.2.2.2.2.2.2.2.2.2.2
  have ht : t < 512 := by obtain ⟨-, i2, i3⟩ := I; omega
  refine wq_eq q_278_232 (L_rd B (ir1 I).1 (ir1 I).2 (L_rd B (ir2 I).1 (ir2 I).2 (L_rd B (ir3 I).1 (ir3 I).2 (wq_cI (wq_and (L_add (d := d + 209) B S (rmT_0 R I)) (XL_add (d := d + 209) B S Ki A dx bd (rmT_0 R I))) ?_))))
  rintro k h4 ⟨⟨κ', B4, r1, r2, hk⟩, hx, hy⟩
  refine (L_rd B4 (ir1 I).1 (ir1 I).2 (L_rd B4 (ir2 I).1 (ir2 I).2 (L_rd B4 (ir3 I).1 (ir3 I).2 (wq_at (LB_H B4).1 (wq_cI (wq_and (v_add (d := d + 229) (LB_H B4) (LB_R B4)) (x_add (d := d + 229) (LB_H B4) (LB_R B4) Q)) ?_)))))
  rintro y h9 ⟨⟨σ', H9, hs⟩, σ2, H2, hq⟩
  obtain ⟨S9, s1, s2⟩ := S_add B4 hk H9 hs
  have X9 : XR x m o σ' h9 := by
    rcases hs.2 with ⟨t1, -, s3⟩ | ⟨t1, -, -, s4⟩ | ⟨t1, -, -, -, -, s6⟩
    · rcases hy with ⟨-, fn⟩ | ⟨q, -⟩
      · exact XR_c hx A hq H2 H9 (pTall_t s3.2.2 p) (DXp_t s3.2.2 (DXp_f dx fn)) bd
      · rw [q, t1] at s1
        exact absurd s1 (by decide)
    · rcases hy with ⟨-, fn⟩ | ⟨q, -⟩
      · exact XR_c hx A hq H2 H9 (pTall_t s4.2.2 p) (DXp_t s4.2.2 (DXp_f dx fn)) bd
      · rw [q, t1] at s1
        exact absurd s1 (by decide)
    · rcases hy with ⟨q, -⟩ | ⟨-, q⟩
      · exact absurd (s1.symm.trans t1) q
      · exact XR_c hx A hq H2 H9 (pT_add (LB_R B).2.1 p s6) (q σ' s6) bd
  exact K κ' σ' h9 (LB_ref B4 H9 hs.1) S9 X9 (rm_ref H9 R ht r1 r2)
theorem k_process (B : LB b x m o L xs t κ σ h) (S : sgR x (sv σ) h) (X : XR x m o σ h) (R : rmT lim t h) (I : ixT v4 t L) (K : nxT lim d b x m o L xs t v4) : wq (ah_val lim ah_P (d + 230) 278 284 [some (.inr (.inr (some b))), some (.inr (.inr (some x))), some (.inr (.inr (some m))), some (.inr (.inr (some o))), some (.inl v4), none, none, none] [] h) (rI fun z _ => z = 1) := by
  obtain ⟨c, τ, nS, PS, eS, nU, U, nD, PD, dc, da, db, Bf, Vf, hf, Ki, A, Q, p, dx, bd⟩ := id X
  have bo : o < h.2.1 := B.2.2.2.2.2.2.2.2.2.2.2.2
  have ht : t < 512 := by obtain ⟨-, i2, i3⟩ := I; omega
  refine wq_eq q_278_284 (wq_cI (wq_and (L_process (d := d + 209) B S (by omega) (rmT_1 R I)) (XL_process (d := d + 209) B S (by omega) Ki A dx bd (rmT_1 R I))) ?_)
  rintro k h4 ⟨⟨κ', B4, r1, r2, hk⟩, fn, hx⟩
  refine wq_at (LB_H B4).1 (wq_cI (wq_and (w_process (d := d + 224) (LB_H B4) (LB_R B4)) (x_process (d := d + 224) (LB_H B4) (LB_R B4) Q p (PR_d S.2.2))) ?_)
  rintro y h9 ⟨⟨σ', H9, R9, hs⟩, σ2, H2, hq⟩
  have q : sgR x (sv σ') h9 ∧ σ'.1 0 = k ∧ (k = 0 → h9.1 o = some (101, [aJ y.toInt64])) := by
    have R4 := LB_R B4
    rcases hk with ⟨rfl, k2, k3⟩ | ⟨rfl, k2, w, y', k3, k4, k5, k6, k7⟩
    · rcases hs with ⟨s1, s2, s3⟩ | ⟨s1, s2, -⟩
      · exact ⟨sv_ref R4 s3 (sgR_ref B4 k3 H9), s1, fun h => absurd h (by decide)⟩
      · exact absurd k2 s2
    · rcases hs with ⟨s1, s2, s3⟩ | ⟨s1, s2, w2, s3, s4, s5⟩
      · exact absurd s2 k2
      · have e := fw_un k3 s3
        subst e
        have e := pr_un k4 s4
        subst e
        have ss : SS σ σ' := ⟨by rw [s5.1.1]; exact sG_ne (by omega), s5.1.2⟩
        exact ⟨sgR_ref B4 (k6 σ' (sv_ss R4 ss k7) s5) H9, s1, fun _ => o_ref B4 H9 k5⟩
  have X9 : XR x m o σ' h9 := by
    rcases hs with ⟨s1, s2, s3⟩ | ⟨s1, s2, w2, s3, s4, s5⟩
    · rcases hq with ⟨-, hq⟩ | ⟨n, -⟩
      · rcases hx with ⟨-, hx⟩ | ⟨e0, -⟩
        · exact XR_c hx A hq H2 H9 (pTall_t s3.2.2 p) (DXp_t s3.2.2 (DXp_f dx fn)) bd
        · have := q.2.1
          rw [e0, s1] at this
          exact absurd this (by decide)
      · exact absurd s2 n
    · obtain ⟨-, z19, z21, -⟩ := s5
      have p' : pTall σ' := pTall_0 z19
      have dx' : DXp x σ' h4 := DXp_0 (DXp_f dx fn) z19 z21
      rcases hx with ⟨n0, -⟩ | ⟨e0, y1, ho, hx⟩
      · exact absurd (q.2.1.symm.trans s1) n0
      · have ey : y1 = y := i64_inj (aJ_inj ((H9.2.2.1 o (by have := B4.2.2.2.2.2.2.2.2.2.2; omega)).trans ho) (q.2.2 e0))
        subst ey
        rcases hq with ⟨n, -⟩ | ⟨-, hq⟩
        · exact absurd n s2
        · rcases hx with ⟨yn, hx⟩ | ⟨yp, l2, l4, w3, hx⟩
          · rcases hq with ⟨-, hq⟩ | ⟨n, -⟩
            · exact XR_c hx (AB_0 A) hq H2 H9 p' dx' bd
            · exact absurd yn n
          · rcases hq with ⟨n, -⟩ | ⟨-, -, hq⟩
            · exact absurd n yp
            · obtain ⟨Bf', Vf', hf', hq⟩ := hq h.2.1 l2 l4 PD (fun _ => 0) (fun _ => 0) w3
              exact XR_c hx (AB_u A bo rfl rfl) hq H2 H9 p' dx' bd
  exact K κ' σ' h9 (LB_ref B4 H9 R9) q.1 X9 (rm_ref H9 R ht r1 r2)
theorem k_set (B : LB b x m o L xs t κ σ h) (S : sgR x (sv σ) h) (X : XR x m o σ h) (R : rmT lim t h) (I : ixT v4 t L) (K : nxT lim d b x m o L xs t v4) : wq (ah_val lim ah_P (d + 230) 278 511 [some (.inr (.inr (some b))), some (.inr (.inr (some x))), some (.inr (.inr (some m))), some (.inr (.inr (some o))), some (.inl v4), none, none, none] [] h) (rI fun z _ => z = 1) := by
  obtain ⟨c, τ, nS, PS, eS, nU, U, nD, PD, dc, da, db, Bf, Vf, hf, Ki, A, Q, p, dx, bd⟩ := id X
  have bo : o < h.2.1 := B.2.2.2.2.2.2.2.2.2.2.2.2
  have ht : t < 512 := by obtain ⟨-, i2, i3⟩ := I; omega
  refine wq_eq q_278_511 (L_rd B (ir1 I).1 (ir1 I).2 (L_rd B (ir2 I).1 (ir2 I).2 (L_rd B (ir3 I).1 (ir3 I).2 (L_rd B (ir4 I).1 (ir4 I).2 (wq_cI (wq_and (L_set (d := d + 209) B S (rmT_0 R I)) (XL_set (d := d + 209) B Ki bd (rmT_0 R I))) ?_)))))
  rintro k h4 ⟨⟨κ', B4, S4, r1, r2, hk⟩, fn, hx⟩
  refine (L_rd B4 (ir1 I).1 (ir1 I).2 (L_rd B4 (ir2 I).1 (ir2 I).2 (L_rd B4 (ir3 I).1 (ir3 I).2 (L_rd B4 (ir4 I).1 (ir4 I).2 (wq_at (LB_H B4).1 (wq_cV (wq_aV (w_set (d := d + 227) (LB_H B4) (LB_R B4)) (x_set (d := d + 227) (LB_H B4) Q)) ?_))))))
  rintro h9 ⟨⟨σ', a1, a2, a3, a4⟩, σ2, H2, hq⟩
  have ek : σ'.1 0 = k := set_un a4 hk
  have e2 : σ'.1 0 = σ2.1 0 := (eq_RH H2 a1).1 0 (Or.inl rfl)
  have X9 : XR x m o σ' h9 := by
    rcases hx with ⟨n, hx⟩ | ⟨z0, hx⟩
    · rcases hq with ⟨q, -⟩ | ⟨-, hq⟩
      · exact absurd (ek.symm.trans (e2.trans q)) n
      · exact XR_c hx A hq H2 a1 (pTall_t a3.2.2 p) (DXp_t a3.2.2 (DXp_f dx fn)) bd
    · rcases hq with ⟨-, hq⟩ | ⟨q, -⟩
      · exact XR_c hx (AB_c A (ups_c rfl rfl rfl)) hq H2 a1 (pTall_t a3.2.2 p) (DXp_t a3.2.2 (DXp_f dx fn)) bd
      · exact absurd (e2.symm.trans (ek.trans z0)) q
  exact kN B4 S4 a1 a2 a3 X9 R I r1 r2 K
theorem k_put1 {s2 : Int32} (B : LB b x m o L xs t κ σ h) (S : sgR x (sv σ) h) (X : XR x m o σ h) (R : rmT lim t h) (I : ixT v4 t L) (K : nxT lim d b x m o L xs t v4) (hs : s2 = if xs (v4 + (2 : Int32)).toInt.toNat = 0 then 0 else 1) : wq (ah_val lim ah_P (d + 230) 278 334 [some (.inr (.inr (some b))), some (.inr (.inr (some x))), some (.inr (.inr (some m))), some (.inr (.inr (some o))), some (.inl v4), none, none, none] [.inl s2, .inl (xs (v4 + (1 : Int32)).toInt.toNat), .inr (.inr (some x))] h) (rI fun z _ => z = 1) := by
  obtain ⟨c, τ, nS, PS, eS, nU, U, nD, PD, dc, da, db, Bf, Vf, hf, Ki, A, Q, p, dx, bd⟩ := id X
  have bo : o < h.2.1 := B.2.2.2.2.2.2.2.2.2.2.2.2
  have ht : t < 512 := by obtain ⟨-, i2, i3⟩ := I; omega
  have z2 : s2 = 0 ∨ s2 = 1 := by
    rw [hs]
    by_cases q : xs (v4 + (2 : Int32)).toInt.toNat = 0
    · rw [if_pos q]; exact Or.inl rfl
    · rw [if_neg q]; exact Or.inr rfl
  refine wq_eq q_278_334 (L_rd B (ir3 I).1 (ir3 I).2 (L_rd B (ir4 I).1 (ir4 I).2 (wq_cI (wq_and (L_put (d := d + 209) B S (rmT_0 R I)) (XL_put (d := d + 209) B Ki bd z2 (rmT_0 R I))) ?_)))
  rintro k h4 ⟨⟨κ', B4, S4, r1, r2, hk⟩, fn, hx⟩
  have fin : ∀ h9 : ah_H, ((∃ σ', RH m σ' h4 h9 ∧ RI σ' ∧ SG σ σ' ∧ ptP σ (xs (v4 + (1 : Int32)).toInt.toNat) (xs (v4 + (3 : Int32)).toInt.toNat) (xs (v4 + (4 : Int32)).toInt.toNat) (σ'.1 0)) ∧ ∃ σ2, RH m σ2 h4 h9 ∧ ((σ2.1 0 = 0 ∧ RQ nS (upS eS (xs (v4 + (1 : Int32)).toInt.toNat).toInt.toNat (tsP (eS (xs (v4 + (1 : Int32)).toInt.toNat).toInt.toNat) s2 (xs (v4 + (3 : Int32)).toInt.toNat) (xs (v4 + (4 : Int32)).toInt.toNat))) nU U τ nD dc da db Bf Vf hf σ2) ∨ (¬ σ2.1 0 = 0 ∧ RQ nS eS nU U τ nD dc da db Bf Vf hf σ2))) → wq (ah_val lim ah_P (d + 230) 278 972 [some (.inr (.inr (some b))), some (.inr (.inr (some x))), some (.inr (.inr (some m))), some (.inr (.inr (some o))), some (.inl v4), none, none, none] [] h9) (rI fun z _ => z = 1) := by
    rintro h9 ⟨⟨σ', a1, a2, a3, a4⟩, σ2, H2, hq⟩
    have ek : σ'.1 0 = k := pt_eq a4 hk
    have e2 : σ'.1 0 = σ2.1 0 := (eq_RH H2 a1).1 0 (Or.inl rfl)
    have X9 : XR x m o σ' h9 := by
      rcases hx with ⟨n, hx⟩ | ⟨z0, hx⟩
      · rcases hq with ⟨q, -⟩ | ⟨-, hq⟩
        · exact absurd (ek.symm.trans (e2.trans q)) n
        · exact XR_c hx A hq H2 a1 (pTall_t a3.2.2 p) (DXp_t a3.2.2 (DXp_f dx fn)) bd
      · rcases hq with ⟨-, hq⟩ | ⟨q, -⟩
        · exact XR_c hx A hq H2 a1 (pTall_t a3.2.2 p) (DXp_t a3.2.2 (DXp_f dx fn)) bd
        · exact absurd (e2.symm.trans (ek.trans z0)) q
    exact kN B4 S4 a1 a2 a3 X9 R I r1 r2 K
  refine L_rd B4 (ir1 I).1 (ir1 I).2 (L_rd B4 (ir2 I).1 (ir2 I).2 (wq_if _ (fun q => ?_) (fun q => ?_)))
  · rw [if_pos q] at hs
    subst hs
    exact L_rd B4 (ir3 I).1 (ir3 I).2 (L_rd B4 (ir4 I).1 (ir4 I).2 (wq_at (LB_H B4).1 (wq_cV (wq_aV (v_put (d := d + 227) (LB_H B4) (LB_R B4)) (x_put (d := d + 227) (LB_H B4) Q)) fin)))
  · rw [if_neg q] at hs
    subst hs
    exact L_rd B4 (ir3 I).1 (ir3 I).2 (L_rd B4 (ir4 I).1 (ir4 I).2 (wq_at (LB_H B4).1 (wq_cV (wq_aV (v_put (d := d + 227) (LB_H B4) (LB_R B4)) (x_put (d := d + 227) (LB_H B4) Q)) fin)))
theorem k_put (B : LB b x m o L xs t κ σ h) (S : sgR x (sv σ) h) (X : XR x m o σ h) (R : rmT lim t h) (I : ixT v4 t L) (K : nxT lim d b x m o L xs t v4) : wq (ah_val lim ah_P (d + 230) 278 313 [some (.inr (.inr (some b))), some (.inr (.inr (some x))), some (.inr (.inr (some m))), some (.inr (.inr (some o))), some (.inl v4), none, none, none] [] h) (rI fun z _ => z = 1) :=
  wq_eq q_278_313 (L_rd B (ir1 I).1 (ir1 I).2 (L_rd B (ir2 I).1 (ir2 I).2 (wq_if _ (fun q => k_put1 B S X R I K (if_pos q).symm) (fun q => k_put1 B S X R I K (if_neg q).symm))))
theorem k_mark1 {s2 s3 : Int32} (B : LB b x m o L xs t κ σ h) (S : sgR x (sv σ) h) (X : XR x m o σ h) (R : rmT lim t h) (I : ixT v4 t L) (K : nxT lim d b x m o L xs t v4) (hs : s2 = if xs (v4 + (2 : Int32)).toInt.toNat = 0 then 0 else 1) (hs3 : s3 = if xs (v4 + (3 : Int32)).toInt.toNat = 0 then 0 else 1) : wq (ah_val lim ah_P (d + 230) 278 425 [some (.inr (.inr (some b))), some (.inr (.inr (some x))), some (.inr (.inr (some m))), some (.inr (.inr (some o))), some (.inl v4), none, none, none] [.inl s3, .inl s2, .inl (xs (v4 + (1 : Int32)).toInt.toNat), .inr (.inr (some x))] h) (rI fun z _ => z = 1) := by
  obtain ⟨c, τ, nS, PS, eS, nU, U, nD, PD, dc, da, db, Bf, Vf, hf, Ki, A, Q, p, dx, bd⟩ := id X
  have bo : o < h.2.1 := B.2.2.2.2.2.2.2.2.2.2.2.2
  have ht : t < 512 := by obtain ⟨-, i2, i3⟩ := I; omega
  have z2 : s2 = 0 ∨ s2 = 1 := by
    rw [hs]
    by_cases q : xs (v4 + (2 : Int32)).toInt.toNat = 0
    · rw [if_pos q]; exact Or.inl rfl
    · rw [if_neg q]; exact Or.inr rfl
  have z3 : s3 = 0 ∨ s3 = 1 := by
    rw [hs3]
    by_cases q : xs (v4 + (3 : Int32)).toInt.toNat = 0
    · rw [if_pos q]; exact Or.inl rfl
    · rw [if_neg q]; exact Or.inr rfl
  refine wq_eq q_278_425 (wq_cI (wq_and (L_mark (d := d + 209) B S z2 z3 (rmT_0 R I)) (XL_mark (d := d + 209) B Ki bd z2 z3 (rmT_0 R I))) ?_)
  rintro k h4 ⟨⟨κ', B4, S4, r1, r2, hk⟩, fn, hx⟩
  have h7 : (σ.1 7).toInt = nS := Q.1.2.2.1.1
  have go : wq (ah_at h4 (some m) 11 fun _ _ => ah_cV (vc lim (d + 230) 36 [.inr (.inr (some m)), .inl (xs (v4 + (1 : Int32)).toInt.toNat), .inl s2, .inl s3] h4) (nx h4) fun h6 => ah_val lim ah_P (d + 230) 278 972 [some (.inr (.inr (some b))), some (.inr (.inr (some x))), some (.inr (.inr (some m))), some (.inr (.inr (some o))), some (.inl v4), none, none, none] [] h6) (rI fun z _ => z = 1) := by
    refine wq_at (LB_H B4).1 (wq_cV (wq_aV (v_mark (d := d + 229) (LB_H B4) (LB_R B4) z2 z3) (x_mark (d := d + 229) (LB_H B4) Q z2 z3)) ?_)
    rintro h9 ⟨⟨σ', a1, a2, a3, -⟩, σ2, H2, hq⟩
    have hk : (k = 1 ∧ ¬ (0 ≤ (xs (v4 + (1 : Int32)).toInt.toNat).toInt ∧ (xs (v4 + (1 : Int32)).toInt.toNat).toInt < (σ.1 7).toInt)) ∨ (k = 0 ∧ 0 ≤ (xs (v4 + (1 : Int32)).toInt.toNat).toInt ∧ (xs (v4 + (1 : Int32)).toInt.toNat).toInt < (σ.1 7).toInt) := hk
    rw [h7] at hk
    have X9 : XR x m o σ' h9 := by
      rcases hk with ⟨k1, k2⟩ | ⟨k1, k2⟩
      · rcases hx with ⟨-, hx⟩ | ⟨z0, -⟩
        · rcases hq with ⟨-, hq⟩ | ⟨q, -⟩
          · exact XR_c hx A hq H2 a1 (pTall_t a3.2.2 p) (DXp_t a3.2.2 (DXp_f dx fn)) bd
          · exact absurd q k2
        · exact absurd (k1.symm.trans z0) (by decide)
      · rcases hx with ⟨n, -⟩ | ⟨-, hx⟩
        · exact absurd k1 n
        · rcases hq with ⟨q, -⟩ | ⟨-, hq⟩
          · exact absurd k2 q
          · exact XR_c hx A hq H2 a1 (pTall_t a3.2.2 p) (DXp_t a3.2.2 (DXp_f dx fn)) bd
    exact kN B4 S4 a1 a2 a3 X9 R I r1 r2 K
  refine L_rd B4 (ir1 I).1 (ir1 I).2 (L_rd B4 (ir2 I).1 (ir2 I).2 (wq_if _ (fun q => ?_) (fun q => ?_)))
  · rw [if_pos q] at hs
    subst hs
    refine L_rd B4 (ir3 I).1 (ir3 I).2 (wq_if _ (fun q3 => ?_) (fun q3 => ?_))
    · rw [if_pos q3] at hs3
      subst hs3
      exact go
    · rw [if_neg q3] at hs3
      subst hs3
      exact go
  · rw [if_neg q] at hs
    subst hs
    refine L_rd B4 (ir3 I).1 (ir3 I).2 (wq_if _ (fun q3 => ?_) (fun q3 => ?_))
    · rw [if_pos q3] at hs3
      subst hs3
      exact go
    · rw [if_neg q3] at hs3
      subst hs3
      exact go
theorem k_mark (B : LB b x m o L xs t κ σ h) (S : sgR x (sv σ) h) (X : XR x m o σ h) (R : rmT lim t h) (I : ixT v4 t L) (K : nxT lim d b x m o L xs t v4) : wq (ah_val lim ah_P (d + 230) 278 390 [some (.inr (.inr (some b))), some (.inr (.inr (some x))), some (.inr (.inr (some m))), some (.inr (.inr (some o))), some (.inl v4), none, none, none] [] h) (rI fun z _ => z = 1) := by
  refine wq_eq q_278_390 (L_rd B (ir1 I).1 (ir1 I).2 (L_rd B (ir2 I).1 (ir2 I).2 (wq_if _ (fun q => ?_) (fun q => ?_))))
  · exact L_rd B (ir3 I).1 (ir3 I).2 (wq_if _ (fun q3 => k_mark1 B S X R I K (if_pos q).symm (if_pos q3).symm) (fun q3 => k_mark1 B S X R I K (if_pos q).symm (if_neg q3).symm))
  · exact L_rd B (ir3 I).1 (ir3 I).2 (wq_if _ (fun q3 => k_mark1 B S X R I K (if_neg q).symm (if_pos q3).symm) (fun q3 => k_mark1 B S X R I K (if_neg q).symm (if_neg q3).symm))
theorem k_resume (B : LB b x m o L xs t κ σ h) (S : sgR x (sv σ) h) (X : XR x m o σ h) (R : rmT lim t h) (I : ixT v4 t L) (K : nxT lim d b x m o L xs t v4) : wq (ah_val lim ah_P (d + 230) 278 624 [some (.inr (.inr (some b))), some (.inr (.inr (some x))), some (.inr (.inr (some m))), some (.inr (.inr (some o))), some (.inl v4), none, none, none] [] h) (rI fun z _ => z = 1) := by
  obtain ⟨c, τ, nS, PS, eS, nU, U, nD, PD, dc, da, db, Bf, Vf, hf, Ki, A, Q, p, dx, bd⟩ := id X
  have bo : o < h.2.1 := B.2.2.2.2.2.2.2.2.2.2.2.2
  have ht : t < 512 := by obtain ⟨-, i2, i3⟩ := I; omega
  refine wq_eq q_278_624 (L_rd B (ir1 I).1 (ir1 I).2 (L_rd B (ir2 I).1 (ir2 I).2 (wq_cI (wq_and (L_resume (d := d + 209) B S (rmT_0 R I)) (XL_resume (d := d + 209) B Ki A Q.2.1 bd (rmT_0 R I))) ?_)))
  rintro k h4 ⟨⟨κ', B4, S4, r1, r2⟩, fn, hx⟩
  refine (L_rd B4 (ir1 I).1 (ir1 I).2 (L_rd B4 (ir2 I).1 (ir2 I).2 (wq_at (LB_H B4).1 (wq_cI (wq_and (v_resume (d := d + 5) (LB_H B4) (LB_R B4)) (x_resume (d := d + 16) (LB_H B4) Q)) ?_))))
  rintro y h9 ⟨⟨σ', a1, a2, a3⟩, σ2, H2, hq⟩
  have e2 : σ'.1 0 = σ2.1 0 := (eq_RH H2 a1).1 0 (Or.inl rfl)
  have go : XR x m o σ' h9 ∧ σ'.1 0 = k ∧ (k = 0 → h4.1 o = some (101, [aJ y.toInt64])) := by
    have p' := pTall_t a3.2.2 p
    have dx' := DXp_t a3.2.2 (DXp_f dx fn)
    rcases hx with ⟨n, k1, hx⟩ | ⟨g, hx⟩
    · rcases hq with ⟨-, z, hq⟩ | ⟨q, -⟩
      · exact ⟨XR_c hx A hq H2 a1 p' dx' bd, e2.trans (z.trans k1.symm), fun q => absurd (k1.symm.trans q) (by decide)⟩
      · exact absurd q n
    · rcases hq with ⟨q, -⟩ | ⟨-, hq⟩
      · exact absurd g q
      · rcases hx with ⟨n, k1, hx⟩ | ⟨g2, hx⟩
        · rcases hq with ⟨-, z, hq⟩ | ⟨q, -⟩
          · exact ⟨XR_c hx A hq H2 a1 p' dx' bd, e2.trans (z.trans k1.symm), fun q => absurd (k1.symm.trans q) (by decide)⟩
          · exact absurd q n
        · rcases hq with ⟨q, -⟩ | ⟨-, hq⟩
          · exact absurd g2 q
          · rcases hx with ⟨n, k1, hx⟩ | ⟨g3, k0, ho, c', s, a, b', hx, q2, q3, q4⟩
            · rcases hq with ⟨-, z, hq⟩ | ⟨q, -⟩
              · exact ⟨XR_c hx A hq H2 a1 p' dx' bd, e2.trans (z.trans k1.symm), fun q => absurd (k1.symm.trans q) (by decide)⟩
              · exact absurd n q
            · rcases hq with ⟨q, -⟩ | ⟨-, z, ey, hq⟩
              · exact absurd q g3
              · refine ⟨XR_c hx (AB_c A (ups_c rfl rfl rfl)) (hq s a b' q2 q3 q4) H2 a1 p' dx' bd, e2.trans (z.trans k0.symm), fun _ => ?_⟩
                rw [ey]
                exact ho
  have nt : wq (ah_val lim ah_P (d + 230) 278 972 [some (.inr (.inr (some b))), some (.inr (.inr (some x))), some (.inr (.inr (some m))), some (.inr (.inr (some o))), some (.inl v4), none, none, none] [] h9) (rI fun z _ => z = 1) := kN B4 S4 a1 a2 a3 go.1 R I r1 r2 K
  exact nt
theorem k_holds (B : LB b x m o L xs t κ σ h) (S : sgR x (sv σ) h) (X : XR x m o σ h) (R : rmT lim t h) (I : ixT v4 t L) (K : nxT lim d b x m o L xs t v4) : wq (ah_val lim ah_P (d + 230) 278 664 [some (.inr (.inr (some b))), some (.inr (.inr (some x))), some (.inr (.inr (some m))), some (.inr (.inr (some o))), some (.inl v4), none, none, none] [] h) (rI fun z _ => z = 1) := by
  obtain ⟨c, τ, nS, PS, eS, nU, U, nD, PD, dc, da, db, Bf, Vf, hf, Ki, A, Q, p, dx, bd⟩ := id X
  have bo : o < h.2.1 := B.2.2.2.2.2.2.2.2.2.2.2.2
  have ht : t < 512 := by obtain ⟨-, i2, i3⟩ := I; omega
  refine wq_eq q_278_664 (L_rd B (ir1 I).1 (ir1 I).2 (wq_cI (wq_and (L_holds (d := d + 209) B S (rmT_0 R I)) (XL_holds (d := d + 209) B Ki A Q.2.1 bd (rmT_0 R I))) ?_))
  rintro k h4 ⟨⟨κ', B4, S4, r1, r2⟩, fn, hx⟩
  refine (L_rd B4 (ir1 I).1 (ir1 I).2 (wq_at (LB_H B4).1 (wq_cI (wq_and (v_holds (d := d + 5) (LB_H B4) (LB_R B4)) (x_holds (d := d + 20) (LB_H B4) Q)) ?_)))
  rintro y h9 ⟨⟨σ', a1, a2, a3⟩, σ2, H2, hq⟩
  have e2 : σ'.1 0 = σ2.1 0 := (eq_RH H2 a1).1 0 (Or.inl rfl)
  have go : XR x m o σ' h9 ∧ σ'.1 0 = k ∧ (k = 0 → h4.1 o = some (101, [aJ y.toInt64])) := by
    have p' := pTall_t a3.2.2 p
    have dx' := DXp_t a3.2.2 (DXp_f dx fn)
    rcases hx with ⟨n, k1, hx⟩ | ⟨g, hx⟩
    · rcases hq with ⟨-, z, hq⟩ | ⟨q, -⟩
      · exact ⟨XR_c hx A hq H2 a1 p' dx' bd, e2.trans (z.trans k1.symm), fun q => absurd (k1.symm.trans q) (by decide)⟩
      · exact absurd q n
    · rcases hq with ⟨q, -⟩ | ⟨-, hq⟩
      · exact absurd g q
      · rcases hx with ⟨n, k1, hx⟩ | ⟨g2, k0, hx⟩
        · rcases hq with ⟨-, z, hq⟩ | ⟨q, -⟩
          · exact ⟨XR_c hx A hq H2 a1 p' dx' bd, e2.trans (z.trans k1.symm), fun q => absurd (k1.symm.trans q) (by decide)⟩
          · exact absurd q n
        · rcases hq with ⟨q, -⟩ | ⟨-, z, hq⟩
          · exact absurd g2 q
          · rcases hx with ⟨y1, c', h1, ho, hx⟩ | ⟨h1, ho, c', s, a, b', s3, s4, hx⟩
            · rcases hq with ⟨h2, hq⟩ | ⟨h2, -⟩
              · rw [h1] at h2
                cases h2
                exact ⟨XR_c hx A hq H2 a1 p' dx' bd, e2.trans (z.trans k0.symm), fun _ => ho⟩
              · rw [h1] at h2
                cases h2
            · rcases hq with ⟨h2, -⟩ | ⟨-, ey, hq⟩
              · rw [h1] at h2
                cases h2
              · refine ⟨XR_c hx (AB_c A (ups_c rfl rfl rfl)) (hq s a b' s3 s4) H2 a1 p' dx' bd, e2.trans (z.trans k0.symm), fun _ => ?_⟩
                rw [ey]
                exact ho
  have nt : wq (ah_val lim ah_P (d + 230) 278 972 [some (.inr (.inr (some b))), some (.inr (.inr (some x))), some (.inr (.inr (some m))), some (.inr (.inr (some o))), some (.inl v4), none, none, none] [] h9) (rI fun z _ => z = 1) := kN B4 S4 a1 a2 a3 go.1 R I r1 r2 K
  exact nt
theorem law_loop (hL : L ≤ 2560) : ∀ (r t : Nat) (κ : kM) (σ : rS) (h : ah_H) (v4 : Int32), 513 - t < r → t ≤ 513 → v4.toInt = (5 * t : Nat) → LB b x m o L xs t κ σ h → sgR x (sv σ) h → XR x m o σ h → rmT lim t h → wq (ah_val lim ah_P (d + 230) 278 23 [some (.inr (.inr (some b))), some (.inr (.inr (some x))), some (.inr (.inr (some m))), some (.inr (.inr (some o))), some (.inl v4), none, none, none] [] h) (rI fun z _ => z = 1) := by
  have e5 : (5 : Int32).toInt = 5 := rfl
  intro r
  induction r with
  | zero => intros; omega
  | succ r ih =>
    intro t κ σ h v4 hr ht h4 B S X R
    refine wq_eq q_278_23 (wq_len B.1 (by decide) ?_)
    rw [List.length_map, List.length_range]
    have eL : (Nat.toInt32 L).toInt = L := i32n (by omega)
    have el : (Nat.toInt32 L - (5 : Int32)).toInt = L - 5 := by rw [sb_i (by omega) (by omega), eL, e5]
    refine wq_if _ (fun c => ?_) (fun c => wq_t (Or.inr rfl) (wq_some (rI_i rfl)))
    have c := le_i c
    have I : ixT v4 t L := ⟨h4, by omega, hL⟩
    have K : nxT lim d b x m o L xs t v4 := fun κ σ h B S X R => by
      refine wq_eq q_278_972 (ih (t + 1) κ σ h _ (by omega) (by omega) ?_ B S X R)
      rw [ad_i (by omega) (by omega), e5]
      omega
    have K0 : wq (ah_val lim ah_P (d + 230) 278 972 [some (.inr (.inr (some b))), some (.inr (.inr (some x))), some (.inr (.inr (some m))), some (.inr (.inr (some o))), some (.inl v4), none, none, none] [] h) (rI fun z _ => z = 1) := K κ σ h (LB_1 B) S X ⟨by have := R.1; omega, by have := R.2; omega⟩
    refine L_rd B (by omega) (by omega) ?_
    refine wq_if _ (fun _ => k_signal B S X R I K) (fun _ => ?_)
    refine wq_if _ (fun _ => k_variable B S X R I K) (fun _ => ?_)
    refine wq_if _ (fun _ => k_add B S X R I K) (fun _ => ?_)
    refine wq_if _ (fun _ => k_process B S X R I K) (fun _ => ?_)
    refine wq_if _ (fun _ => k_processes B S X R I K) (fun _ => ?_)
    refine wq_if _ (fun _ => k_put B S X R I K) (fun _ => ?_)
    refine wq_if _ (fun _ => k_mark B S X R I K) (fun _ => ?_)
    refine wq_if _ (fun _ => k_get B S X R I K) (fun _ => ?_)
    refine wq_if _ (fun _ => k_set B S X R I K) (fun _ => ?_)
    refine wq_if _ (fun _ => k_variableOf B S X R I K) (fun _ => ?_)
    refine wq_if _ (fun _ => k_resume B S X R I K) (fun _ => ?_)
    refine wq_if _ (fun _ => k_holds B S X R I K) (fun _ => ?_)
    refine wq_if _ (fun _ => k_about B S X R I K) (fun _ => ?_)
    refine wq_if _ (fun _ => k_waits B S X R I K) (fun _ => ?_)
    refine wq_if _ (fun _ => k_until B S X R I K) (fun _ => ?_)
    refine wq_if _ (fun _ => k_acts B S X R I K) (fun _ => ?_)
    refine wq_if _ (fun _ => k_act B S X R I K) (fun _ => ?_)
    refine wq_if _ (fun _ => k_value B S X R I K) (fun _ => ?_)
    exact wq_if _ (fun _ => k_delay B S X R I K) (fun _ => K0)
end Lg
