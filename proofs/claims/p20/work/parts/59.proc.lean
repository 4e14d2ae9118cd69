/-! PROCESSES ARE MADE -/
section Pr
variable {lim : Nat × Nat} {K : Nat} {ws : Nat × Nat → Bool} {c n d : Nat} {κ0 κ : kM} {h0 h b : ah_H} {a : Nat}
theorem tn_i {j : Int32} (h0 : 0 ≤ j.toInt) : j.toNatClampNeg = j.toInt.toNat := rfl
theorem ok_rep117 {N : Nat} (hN : N ≤ 4000) : okC K κ 117 N (List.replicate N (.inr (.inr none))) := ⟨List.length_replicate, hN, fun i hi => ⟨none, by rw [List.getElem?_replicate_of_lt hi], nofun⟩⟩
theorem ok_rep101 {N : Nat} (hN : N ≤ 4000) : okC K κ 101 N (List.replicate N (.inr (.inl 0))) := ⟨List.length_replicate, hN, fun i hi => ⟨0, by rw [List.getElem?_replicate_of_lt hi]⟩⟩
theorem ok_rep100 {N : Nat} (hN : N ≤ 4000) : okC K κ 100 N (List.replicate N (.inl 0)) := ⟨List.length_replicate, hN, fun i hi => ⟨0, by rw [List.getElem?_replicate_of_lt hi]⟩⟩
theorem n_Things_init {j : Int32} {N : Nat} (A : AL K ws c n κ0 h0 κ h) (ha : h0.2.1 ≤ a) (hl : a < h.2.1) (hn : κ a = none) (e : h.1 a = some (8, [aN, aI 0])) (hj : j.toInt = N) (hN : N ≤ 4000) (hr : h.2.1 + 1 ≤ lim.1 ∧ h.2.2.1 + N ≤ lim.2) :
    wq (vc lim (d + 1) m_Things_init [aR a, aI j] h) (rV fun h' => AL K ws (c + 1) (n + N) κ0 h0 (ins κ h.2.1 (117, N)) h' ∧ h'.1 a = some (8, [aR h.2.1, aI 0]) ∧ h'.1 h.2.1 = some (117, List.replicate N (.inr (.inr none))) ∧ (∀ q, q < h.2.1 → q ≠ a → h'.1 q = h.1 q) ∧ h'.2.1 = h.2.1 + 1 ∧ h'.2.2.1 = h.2.2.1 + N) := by
  have g1 := A.2.2.2.2.2.1
  have hg : ¬ j < 0 := ix_ge (by omega)
  refine wq_eq e_Things_init (wq_nn ?_)
  rw [if_neg hg]
  have hm : j.toNatClampNeg = N := by rw [tn_i (by omega)]; omega
  refine wq_mka hg hm (by omega) ⟨by omega, hr.2⟩ ?_
  have A1 := AL_new (o := (117, List.replicate N (.inr (.inr none)))) (k := N) A
  have A2 := AL_ins (a := h.2.1) (kd := 117) (m := N) A1 g1 (Nat.lt_succ_self _) (AL_fr A (Nat.le_refl _)) nw_eq (ok_rep117 hN)
  refine wq_wr (nw_ne (by omega) e) (Nat.le_of_ble_eq_true rfl) ?_
  have A3 := AL_up (o := (8, [aR h.2.1, aI 0])) A2 ha (ins_ne (by omega) hn)
  exact wq_some (rV_i ⟨A3, up_eq, up_ne (by omega) nw_eq, fun q h1 h2 => up_ne h2 (nw_ne (by omega) rfl), rfl, rfl⟩)
/-- the things of a row are kept in another one -/
theorem n_trim {v0 v1 rw0 rw1 m N : Nat} {cnt : Int32} {us : List AV} (t0 : κ v0 = some (8, m)) (u0 : κ rw0 = some (117, m)) (t1 : κ v1 = some (8, N)) (u1 : κ rw1 = some (117, N)) (hv0 : v0 < h0.2.1) (hr0 : rw0 < h0.2.1) (hv1 : h0.2.1 ≤ v1) (hr1 : h0.2.1 ≤ rw1) (hc : cnt.toInt = N) (hN : N ≤ 4000) (hm : N ≤ m) :
    ∀ (k : Nat) (h : ah_H) (i : Int32) (ts : List AV), (N - i.toInt).toNat < k → 0 ≤ i.toInt → i.toInt ≤ N → AL K ws c n κ0 h0 κ h → h.1 v0 = some (8, [aR rw0, aI cnt]) → h.1 rw0 = some (117, us) → h.1 v1 = some (8, [aR rw1, aI i]) → h.1 rw1 = some (117, ts) → (∀ j : Nat, j < i.toInt → ts[j]? = us[j]?) → wq (ah_val lim ah_P (d + 2) 233 14 [some (aR v0), some (aR v1), some (aI i)] [] h) (rR fun r h' => r = some v1 ∧ AL K ws c n κ0 h0 κ h' ∧ h'.1 v1 = some (8, [aR rw1, aI cnt]) ∧ (∃ ts, h'.1 rw1 = some (117, ts) ∧ ∀ j : Nat, j < N → ts[j]? = us[j]?) ∧ (∀ q, q ≠ v1 → q ≠ rw1 → h'.1 q = h.1 q) ∧ h'.2.1 = h.2.1 ∧ h'.2.2.1 = h.2.2.1) := by
  intro k
  induction k with
  | zero => intro h i ts hk; omega
  | succ k ih =>
    intro h i ts hk i0 i1 A e0 e1 e2 e3 hj
    have hne : v1 ≠ rw1 := kne t1 u1 rfl
    have fin : ¬ i.toInt < cnt.toInt → wq (some ((.inl (some (.inr (.inr (some v1)))), h) : ah_R)) (rR fun r h' => r = some v1 ∧ AL K ws c n κ0 h0 κ h' ∧ h'.1 v1 = some (8, [aR rw1, aI cnt]) ∧ (∃ ts, h'.1 rw1 = some (117, ts) ∧ ∀ j : Nat, j < N → ts[j]? = us[j]?) ∧ (∀ q, q ≠ v1 → q ≠ rw1 → h'.1 q = h.1 q) ∧ h'.2.1 = h.2.1 ∧ h'.2.2.1 = h.2.2.1) := by
      intro hx
      have hi : i = cnt := Int32.toInt_inj.mp (by omega)
      subst hi
      exact wq_some (rR_i ⟨rfl, A, e2, ⟨ts, e3, fun j hl => hj j (by omega)⟩, fun _ _ _ => rfl, rfl, rfl⟩)
    refine wq_eq q_233_14 (wq_gI e0 rfl ?_)
    refine wq_if _ (fun c1 => ?_) (fun c1 => fin (by have := nlt_i c1; omega))
    have c1 := lt_i c1
    refine wq_gR e0 rfl (wk_len A.1 u0 (by decide) ?_)
    intro l hl
    refine wq_if _ (fun c2 => ?_) (fun c2 => absurd c2 (fun h => h (Int32.lt_iff_toInt_lt.mpr (by omega))))
    refine wq_gR e0 rfl ?_
    obtain ⟨vs, ev, ov1, -, ov2⟩ := A.1.1 rw0 117 m u0
    have ev : h.1 rw0 = some (117, vs) := ev
    rw [e1] at ev
    cases ev
    obtain ⟨r, er, hr⟩ := ov2 i.toInt.toNat (by omega)
    refine wq_lR e1 (by decide) (ix_ge i0) er (wk_at A.1 t1 rfl (fun _ => wq_cI (n_Things_keep A.1 t1 e2 u1 i0 (by omega) hN hr) ?_))
    rintro z h6 ⟨-, W6, e6, ⟨ts', e7, e8⟩, o6⟩
    rw [e3] at e7
    cases e7
    have A6 := AL_ch A W6 (fun q v h1 _ => o6 q (by have := A.2.2.1.1 q v h1; omega) (by have := A.2.2.1.1 q v h1; omega))
    have hx : (i + 1).toInt = i.toInt + 1 := ad_i (by show _ ≤ i.toInt + 1; omega) (by show i.toInt + 1 ≤ _; omega)
    have hl1 : ts.length = N := by
      obtain ⟨vs, ev, ov1, -⟩ := A.1.1 rw1 117 N u1
      have ev : h.1 rw1 = some (117, vs) := ev
      rw [e3] at ev
      cases ev
      exact ov1
    refine wq_mono (ih h6 (i + 1) (ts.set i.toNatClampNeg (.inr (.inr r))) (by omega) (by omega) (by omega) A6 ((o6 _ (by omega) (by omega)).trans e0) ((o6 _ (by omega) (by omega)).trans e1) e6 e8 ?_) ?_
    · intro j hlj
      by_cases ej : i.toInt.toNat = j
      · subst ej
        show (ts.set i.toInt.toNat _)[i.toInt.toNat]? = _
        rw [List.getElem?_set_self (by omega), er]
      · show (ts.set i.toInt.toNat _)[j]? = _
        rw [List.getElem?_set_ne ej]
        exact hj j (by omega)
    · rintro z ⟨x, hh, rfl, p1, p2, p3, p4, p5, p6, p7⟩
      exact ⟨x, hh, rfl, p1, p2, p3, p4, fun q h1 h2 => (p5 q h1 h2).trans (o6 q h1 h2), p6.trans W6.2.2.1, p7.trans W6.2.2.2⟩
theorem n_Things_trimmed {v0 rw0 m N : Nat} {cnt : Int32} {us : List AV} (A : AL K ws c n κ0 h0 κ h) (t0 : κ0 v0 = some (8, m)) (u0 : κ0 rw0 = some (117, m)) (e0 : h.1 v0 = some (8, [aR rw0, aI cnt])) (e1 : h.1 rw0 = some (117, us)) (hc : cnt.toInt = N) (hN : N ≤ 4000) (hm : N ≤ m) (hr : h.2.1 + 2 ≤ lim.1 ∧ h.2.2.1 + (N + 2) ≤ lim.2) :
    wq (vc lim (d + 3) m_Things_trimmed [aR v0] h) (rR fun r h' => ∃ κ', r = some h.2.1 ∧ κ' = ins (ins κ (h.2.1 + 1) (117, N)) h.2.1 (8, N) ∧ AL K ws (c + 2) (n + (N + 2)) κ0 h0 κ' h' ∧ h'.1 h.2.1 = some (8, [aR (h.2.1 + 1), aI cnt]) ∧ (∃ ts, h'.1 (h.2.1 + 1) = some (117, ts) ∧ ∀ j : Nat, j < N → ts[j]? = us[j]?) ∧ (∀ q, q < h.2.1 → h'.1 q = h.1 q) ∧ h'.2.1 = h.2.1 + 2 ∧ h'.2.2.1 = h.2.2.1 + (N + 2)) := by
  have g1 := A.2.2.2.2.2.1
  have l0 := A.2.2.1.1 v0 _ t0
  have l1 := A.2.2.1.1 rw0 _ u0
  refine wq_eq e_Things_trimmed (wq_mk ⟨by omega, by omega⟩ ?_)
  have A1 := AL_new (o := (8, [.inr (.inr none), .inl 0])) (k := 2) A
  refine wq_gI (nw_ne (by omega) e0) rfl (wq_at nw_eq (wq_cV (n_Things_init (N := N) A1 g1 (Nat.lt_succ_self _) (AL_fr A (Nat.le_refl _)) nw_eq hc hN ⟨by show h.2.1 + 1 + 1 ≤ _; omega, by show h.2.2.1 + 2 + N ≤ _; omega⟩) ?_))
  rintro h4 ⟨A4, e4, e5, o4, m4, r4⟩
  have m4 : h4.2.1 = h.2.1 + 1 + 1 := m4
  have r4 : h4.2.2.1 = h.2.2.1 + 2 + N := r4
  have n4 : ins κ (h.2.1 + 1) (117, N) h.2.1 = none := ins_ne (by omega) (AL_fr A (Nat.le_refl _))
  have A5 := AL_ins (a := h.2.1) (kd := 8) (m := N) A4 g1 (by omega) n4 e4 (i8 (ins_ne (by omega) ins_eq) (by decide) (by show (0 : Int) ≤ N; omega) hN)
  have f0 : h4.1 v0 = some (8, [aR rw0, aI cnt]) := (o4 v0 (by show v0 < h.2.1 + 1; omega) (by omega)).trans (nw_ne (by omega) e0)
  have f1 : h4.1 rw0 = some (117, us) := (o4 rw0 (by show rw0 < h.2.1 + 1; omega) (by omega)).trans (nw_ne (by omega) e1)
  refine wq_mono (n_trim (ins_ne (by omega) (ins_ne (by omega) (AL_in A t0))) (ins_ne (by omega) (ins_ne (by omega) (AL_in A u0))) ins_eq (ins_ne (by omega) ins_eq) l0 l1 g1 (by omega) hc hN hm _ h4 0 _ (Nat.lt_succ_self _) (by decide) (by show (0 : Int) ≤ N; omega) A5 f0 f1 e4 e5 (fun j hj => absurd hj (by show ¬ ((j : Int) < 0); omega))) ?_
  rintro z ⟨x, hh, rfl, p1, p2, p3, p4, p5, p6, p7⟩
  refine ⟨x, hh, rfl, _, p1, rfl, AL_le p2 (by omega) (by omega), p3, p4, fun q hq => ?_, by omega, by omega⟩
  exact (p5 q (by omega) (by show q ≠ h.2.1 + 1; omega)).trans ((o4 q (by show q < h.2.1 + 1; omega) (by omega)).trans (nw_ne (by omega) rfl))
end Pr
