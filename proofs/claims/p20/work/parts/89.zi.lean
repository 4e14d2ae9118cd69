/-! put, mark and set of the reference -/
/-- a value that may be put -/
abbrev cnV (w : WD) (lo hi v : Int32) : Prop := if wI w = 2 then lo.toInt ≤ v.toInt ∧ v.toInt ≤ hi.toInt else 0 ≤ v.toInt ∧ v.toInt ≤ 8
def bQ (r j i : Nat) : Prop := (j = 4 ∧ i = r) ∨ (j = 5 ∧ 64 * r ≤ i ∧ i < 64 * r + 64)
section Zi
variable {lim : Nat × Nat} {d m nS r nU nV B fv : Nat} {σ : rS} {bb : ah_H} {eS e : Nat → TS} {h h' : ah_H} {v1 v2 v3 v4 R k v lo hi : Int32} {Φ : ah_R → Prop} {w : WD} {T : KT}
theorem r_cannot (H : RH m σ bb h) (hR : R.toInt = r) (hr : r < 10100) (q : RW σ r w) (l : wI w = 2 → ia σ 2 r = lo ∧ ia σ 3 r = hi) : wq (vc lim (d + 1) 32 [aR m, aI R, aI v] h) (rI fun y h' => h' = h ∧ ((y = 0 ∧ cnV w lo hi v) ∨ (y = 1 ∧ ¬ cnV w lo hi v))) := by
  have z0 : (0 : Int32).toInt = 0 := rfl
  have z8 : (8 : Int32).toInt = 8 := rfl
  have ix : R.toInt.toNat = r := by omega
  refine wq_eq q_32_0 (rd0' H hR hr q.1 (wq_if _ (fun c => ?_) (fun c => ?_)))
  · obtain ⟨l2, l3⟩ := l c
    refine wq_gR H.1 rfl (ra_I H (j := 2) (by omega) rfl rfl (by omega) (by show _ < (10100 : Int); omega) ?_)
    rw [ix, l2]
    refine wq_if _ (fun c1 => ?_) (fun c1 => wq_gR H.1 rfl (ra_I H (j := 3) (by omega) rfl rfl (by omega) (by show _ < (10100 : Int); omega) ?_))
    · refine wq_t (Or.inr rfl) (wq_some (rI_i ⟨rfl, Or.inr ⟨rfl, fun k => ?_⟩⟩))
      unfold cnV at k
      rw [if_pos c] at k
      have := lt_i c1
      omega
    · rw [ix, l3]
      refine wq_if _ (fun c2 => ?_) (fun c2 => ?_)
      · refine wq_t (Or.inl rfl) (wq_some (rI_i ⟨rfl, Or.inl ⟨rfl, ?_⟩⟩))
        unfold cnV
        rw [if_pos c]
        exact ⟨nlt_i c1, Int32.le_iff_toInt_le.mp c2⟩
      · refine wq_t (Or.inr rfl) (wq_some (rI_i ⟨rfl, Or.inr ⟨rfl, fun k => ?_⟩⟩))
        unfold cnV at k
        rw [if_pos c] at k
        exact c2 (Int32.le_iff_toInt_le.mpr k.2)
  · refine wq_if _ (fun c1 => ?_) (fun c1 => wq_if _ (fun c2 => ?_) (fun c2 => ?_))
    · refine wq_t (Or.inr rfl) (wq_some (rI_i ⟨rfl, Or.inr ⟨rfl, fun k => ?_⟩⟩))
      unfold cnV at k
      rw [if_neg c] at k
      have := lt_i c1
      omega
    · refine wq_t (Or.inl rfl) (wq_some (rI_i ⟨rfl, Or.inl ⟨rfl, ?_⟩⟩))
      unfold cnV
      rw [if_neg c]
      exact ⟨by have := nlt_i c1; omega, by rw [Int32.le_iff_toInt_le, z8] at c2; exact c2⟩
    · refine wq_t (Or.inr rfl) (wq_some (rI_i ⟨rfl, Or.inr ⟨rfl, fun k => ?_⟩⟩))
      unfold cnV at k
      rw [if_neg c] at k
      exact c2 (by rw [Int32.le_iff_toInt_le, z8]; exact k.2)
theorem r_become (H : RH m σ bb h) (hB : byE σ) (hR : R.toInt = r) (hr : r < 10100) (q : RW σ r w) (W : WF w) (hk : hsE w k) (h2 : wI w = 2 → -2147483647 ≤ v.toInt) (h8 : ¬ wI w = 2 → 0 ≤ v.toInt ∧ v.toInt ≤ 8) : wq (vc lim (d + 2) 34 [aR m, aI R, aI k, aI v] h) (rV fun h' => ∃ σ', RH m σ' bb h' ∧ sm (bQ r) σ σ' ∧ RW σ' r (pChange w k v) ∧ WF (pChange w k v) ∧ byE σ') := by
  have wl := W.2.1
  have Wc := WF_change W hk.1 hk.2 h2 h8
  obtain ⟨il, ll⟩ := pCh_il (w := w) (k := k) (v := v)
  have z1 : (1 : Int32).toInt = 1 := rfl
  refine wq_eq q_34_0 (rd0' H hR hr q.1 (wq_if _ (fun c1 => ?_) (fun c1 => ?_)))
  · have n2 : ¬ wI w = 2 := by rw [c1]; decide
    obtain ⟨v0, v8⟩ := h8 n2
    refine wq_at H.1 (wq_cV (r_setElement H hR (by omega) hk.1 (by omega) v0 (by omega)) fun h1 H1 => wq_some (rV_i ⟨_, H1, sm_I sm_0 (Or.inr ⟨rfl, by omega, by omega⟩), ?_, Wc, by_5 hB v0 (by omega)⟩))
    obtain ⟨q0, -, -, q3⟩ := q
    obtain ⟨p1, p2, p3⟩ := q3 c1
    refine ⟨(sI_nj (by omega)).trans (q0.trans il.symm), fun z => absurd (il.symm.trans z) n2, fun z => absurd (c1.symm.trans (il.symm.trans z)) (by decide), fun _ => ⟨(sI_nj (by omega)).trans (p1.trans ll.symm), p2, fun j hj => ?_⟩⟩
    rw [ll] at hj
    rw [cd_change W n2 hk.1 hk.2 v0 v8 hj]
    by_cases c : j = k.toInt.toNat
    · rw [if_pos c, c]
      exact sI_eq
    · rw [if_neg c]
      exact (sI_ni (by omega)).trans (p3 j hj)
  · refine wq_gR H.1 rfl (rs_NJ (j := 4) H (by omega) rfl hR hr (fun h1 H1 => wq_some (rV_i ⟨_, H1, sm_J sm_0 (Or.inl ⟨rfl, rfl⟩), ?_, Wc, byE_4 hB⟩)))
    obtain ⟨q0, q1, q2, -⟩ := q
    refine ⟨q0.trans il.symm, fun z => ⟨(q1 (il.symm.trans z)).1, ?_⟩, fun z => ⟨(q2 (il.symm.trans z)).1, ?_⟩, fun z => absurd (il.symm.trans z) c1⟩
    · rw [jaJ_e]
      unfold pChange
      rw [if_pos (il.symm.trans z)]
    · have w0' : wI w = 0 := il.symm.trans z
      have n2 : ¬ wI w = 2 := by rw [w0']; decide
      obtain ⟨v0, v8⟩ := h8 n2
      have l1 := W.2.2.1 c1
      have k0 : k.toInt.toNat = 0 := by
        have := hk.2
        rw [l1] at this
        omega
      rw [jaJ_e, cd_change W n2 hk.1 hk.2 v0 v8 (by rw [l1, z1]; decide), if_pos k0.symm]
/-- a signal's value, or its last, has changed -/
theorem SGx_now {σ' : rS} {Q : Nat → Nat → Prop} {s : Nat} {w' : WD} (SG : SGx nS eS σ) (G : sm Q σ σ') (hQ : ∀ j i, Q j i → bQ s j i ∨ 100 ≤ j) (hs : s < nS) (q : RW σ' s w') (W : WF w') (hi : wI w' = wI (eS s).1) : SGx nS (upS eS s (w', (eS s).2)) σ' := by
  have l5 := SG.1
  refine ⟨l5, fun i hi' => ?_⟩
  obtain ⟨⟨p1, p2, p3, p4, p5, p6, p7⟩, p8⟩ := SG.2 i hi'
  have e : ∀ j, j = 2 ∨ j = 3 ∨ j = 6 ∨ j = 7 → ia σ' j i = ia σ j i := fun j hj => G.2.2.1 j i (fun q => by have := hQ _ _ q; unfold bQ at this; omega)
  have o2 : RW σ' (512 + i) (eS i).2.1 := RW_q p2 p4 G (fun j i' q => by have := hQ _ _ q; unfold bQ at this; omega)
  by_cases c : i = s
  · rw [c, upS_eq, ← c, e 2 (by omega), e 3 (by omega), e 6 (by omega), e 7 (by omega)]
    exact ⟨⟨by rw [c]; exact q, o2, W, p4, p5, p6, p7⟩, fun z => p8 (by rw [c]; exact hi.symm.trans z)⟩
  · rw [upS_ne c, e 2 (by omega), e 3 (by omega), e 6 (by omega), e 7 (by omega)]
    exact ⟨⟨RW_q p1 p3 G (fun j i' q => by have := hQ _ _ q; unfold bQ at this; omega), o2, p3, p4, p5, p6, p7⟩, p8⟩
theorem SGx_last {σ' : rS} {Q : Nat → Nat → Prop} {s : Nat} {w' : WD} (SG : SGx nS eS σ) (G : sm Q σ σ') (hQ : ∀ j i, Q j i → bQ (512 + s) j i ∨ 100 ≤ j) (hs : s < nS) (q : RW σ' (512 + s) w') (W : WF w') : SGx nS (upS eS s ((eS s).1, w', (eS s).2.2)) σ' := by
  have l5 := SG.1
  refine ⟨l5, fun i hi' => ?_⟩
  obtain ⟨⟨p1, p2, p3, p4, p5, p6, p7⟩, p8⟩ := SG.2 i hi'
  have e : ∀ j, j = 2 ∨ j = 3 ∨ j = 6 ∨ j = 7 → ia σ' j i = ia σ j i := fun j hj => G.2.2.1 j i (fun q => by have := hQ _ _ q; unfold bQ at this; omega)
  have o1 : RW σ' i (eS i).1 := RW_q p1 p3 G (fun j i' q => by have := hQ _ _ q; unfold bQ at this; omega)
  by_cases c : i = s
  · rw [c, upS_eq, ← c, e 2 (by omega), e 3 (by omega), e 6 (by omega), e 7 (by omega)]
    exact ⟨⟨o1, by rw [c]; exact q, p3, W, p5, p6, p7⟩, p8⟩
  · rw [upS_ne c, e 2 (by omega), e 3 (by omega), e 6 (by omega), e 7 (by omega)]
    exact ⟨⟨o1, RW_q p2 p4 G (fun j i' q => by have := hQ _ _ q; unfold bQ at this; omega), p3, p4, p5, p6, p7⟩, p8⟩
def ptQ (s l j i : Nat) : Prop := bQ (if l = 0 then s else 512 + s) j i ∨ (j = 100 ∧ i = 0)
theorem r_put (H : RH m σ bb h) (hB : byE σ) (SG : SGx nS eS σ) (h7 : (σ.1 7).toInt = nS) (KCs : ∀ i, i < nS → wI (eS i).2.1 = wI (eS i).1 ∧ wL (eS i).2.1 = wL (eS i).1) (LB : ∀ i, i < nS → wI (eS i).1 = 2 → -2147483647 ≤ (eS i).2.2.2.2.1.toInt) : wq (vc lim (d + 3) m_Ref_put [aR m, aI v1, aI v2, aI v3, aI v4] h) (rV fun h' => ∃ σ', RH m σ' bb h' ∧ ((¬ gtK nS eS v1 v3 ∧ σ' = sG σ 0 1) ∨ (gtK nS eS v1 v3 ∧ ¬ cnV (eS v1.toInt.toNat).1 (eS v1.toInt.toNat).2.2.2.2.1 (eS v1.toInt.toNat).2.2.2.2.2 v4 ∧ σ' = sG σ 0 2) ∨ (gtK nS eS v1 v3 ∧ cnV (eS v1.toInt.toNat).1 (eS v1.toInt.toNat).2.2.2.2.1 (eS v1.toInt.toNat).2.2.2.2.2 v4 ∧ σ'.1 0 = 0 ∧ sm (ptQ v1.toInt.toNat (if v2 = 0 then 0 else 1)) σ σ' ∧ SGx nS (upS eS v1.toInt.toNat (tsP (eS v1.toInt.toNat) v2 v3 v4)) σ' ∧ byE σ'))) := by
  have z0 : (0 : Int32).toInt = 0 := rfl
  have z5 : (512 : Int32).toInt = 512 := rfl
  have l5 := SG.1
  have bad : ∀ e : Int32, ¬ e = 0 → (e = 1 ∧ ¬ gtK nS eS v1 v3 ∨ e = 2 ∧ gtK nS eS v1 v3 ∧ ¬ cnV (eS v1.toInt.toNat).1 (eS v1.toInt.toNat).2.2.2.2.1 (eS v1.toInt.toNat).2.2.2.2.2 v4) → wq (ah_val lim ah_P (d + 2) 35 41 [some (aR m), some (aI v1), some (aI v2), some (aI v3), some (aI v4)] [aI e, aR m] h) (rV fun h' => ∃ σ', RH m σ' bb h' ∧ ((¬ gtK nS eS v1 v3 ∧ σ' = sG σ 0 1) ∨ (gtK nS eS v1 v3 ∧ ¬ cnV (eS v1.toInt.toNat).1 (eS v1.toInt.toNat).2.2.2.2.1 (eS v1.toInt.toNat).2.2.2.2.2 v4 ∧ σ' = sG σ 0 2) ∨ (gtK nS eS v1 v3 ∧ cnV (eS v1.toInt.toNat).1 (eS v1.toInt.toNat).2.2.2.2.1 (eS v1.toInt.toNat).2.2.2.2.2 v4 ∧ σ'.1 0 = 0 ∧ sm (ptQ v1.toInt.toNat (if v2 = 0 then 0 else 1)) σ σ' ∧ SGx nS (upS eS v1.toInt.toNat (tsP (eS v1.toInt.toNat) v2 v3 v4)) σ' ∧ byE σ'))) := by
    intro e he k
    refine wq_eq q_35_41 (rw_I H (by omega) rfl (fun h1 H1 => wq_gI H1.1 rfl (wq_f (by rw [sG_eq]; exact he) (wq_some (rV_i ⟨_, H1, ?_⟩)))))
    rcases k with ⟨rfl, k⟩ | ⟨rfl, k⟩
    · exact Or.inl ⟨k, rfl⟩
    · exact Or.inr (Or.inl ⟨k.1, k.2, rfl⟩)
  refine wq_eq q_35_0 (wq_if _ (fun c0 => bad 1 (by decide) (Or.inl ⟨rfl, fun k => by have := lt_i c0; have := k.1; omega⟩)) (fun c0 => wq_gI H.1 rfl (wq_if _ (fun c1 => ?_) (fun c1 => bad 1 (by decide) (Or.inl ⟨rfl, fun k => by have := nlt_i c1; have := k.1; omega⟩)))))
  have w0 := nlt_i c0
  have w1 := lt_i c1
  have hs : v1.toInt.toNat < nS := by omega
  obtain ⟨⟨q1, q2, q3, q4, -⟩, q8⟩ := SG.2 v1.toInt.toNat hs
  obtain ⟨kc1, kc2⟩ := KCs _ hs
  refine wq_at H.1 (wq_cI (r_lacks (r := v1.toInt.toNat) H (by omega) (by omega) q1 q3) ?_)
  rintro y h2 ⟨eh, q⟩
  rw [eh]
  rcases q with ⟨rfl, q⟩ | ⟨rfl, q⟩
  rotate_left
  · exact wq_f (by decide) (bad 1 (by decide) (Or.inl ⟨rfl, fun k => q k.2⟩))
  have gk : gtK nS eS v1 v3 := ⟨by omega, q⟩
  refine wq_t rfl (wq_at H.1 (wq_cI (r_cannot (r := v1.toInt.toNat) H (by omega) (by omega) q1 q8) ?_))
  rintro y h2 ⟨eh, cv⟩
  rw [eh]
  rcases cv with ⟨rfl, cv⟩ | ⟨rfl, cv⟩
  rotate_left
  · exact wq_f (by decide) (bad 2 (by decide) (Or.inr ⟨rfl, gk, cv⟩))
  have f2 : wI (eS v1.toInt.toNat).1 = 2 → -2147483647 ≤ v4.toInt := fun z => by
    have cv' := cv
    unfold cnV at cv'
    rw [if_pos z] at cv'
    have := LB _ hs z
    omega
  have f8 : ¬ wI (eS v1.toInt.toNat).1 = 2 → 0 ≤ v4.toInt ∧ v4.toInt ≤ 8 := fun z => by
    have cv' := cv
    unfold cnV at cv'
    rw [if_neg z] at cv'
    exact cv'
  refine wq_t rfl (wq_eq q_35_41 (rw_I H (by omega) rfl (fun h1 H1 => wq_gI H1.1 rfl (wq_t sG_eq (wq_if _ (fun c2 => ?_) (fun c2 => ?_))))))
  · refine wq_at H1.1 (wq_cV (r_become (r := v1.toInt.toNat) H1 hB (by omega) (by omega) (RW_e q1 rfl rfl rfl (fun _ _ => rfl) q3) q3 q f2 f8) fun h3 k3 => ?_)
    obtain ⟨σ3, H3, G3, R3, W3, B3⟩ := k3
    have G : sm (ptQ v1.toInt.toNat 0) σ σ3 := sm_tr (sm_G sm_0 (Or.inr ⟨rfl, rfl⟩)) G3 (fun j i k => Or.inl k)
    refine wq_some (rV_i ⟨σ3, H3, Or.inr (Or.inr ⟨gk, cv, (G3.1 0 (fun k => by unfold bQ at k; omega)).trans sG_eq, by rw [if_pos c2]; exact G, ?_, B3⟩)⟩)
    rw [show tsP (eS v1.toInt.toNat) v2 v3 v4 = (pChange (eS v1.toInt.toNat).1 v3 v4, (eS v1.toInt.toNat).2) from if_pos c2]
    exact SGx_now SG G (fun j i k => by rcases k with k | k; exact Or.inl k; exact Or.inr (by omega)) hs R3 W3 pCh_il.1
  · have e5 : (512 + v1).toInt = ((512 + v1.toInt.toNat : Nat) : Int) := by rw [ad_i (by omega) (by omega), z5]; omega
    refine wq_at H1.1 (wq_cV (r_become (r := 512 + v1.toInt.toNat) H1 hB e5 (by omega) (RW_e q2 rfl rfl rfl (fun _ _ => rfl) q4) q4 (by show 0 ≤ _ ∧ _ < (wL (eS v1.toInt.toNat).2.1).toInt; rw [kc2]; exact q) (by rw [kc1]; exact f2) (by rw [kc1]; exact f8)) fun h3 k3 => ?_)
    obtain ⟨σ3, H3, G3, R3, W3, B3⟩ := k3
    have G : sm (ptQ v1.toInt.toNat 1) σ σ3 := sm_tr (sm_G sm_0 (Or.inr ⟨rfl, rfl⟩)) G3 (fun j i k => Or.inl k)
    refine wq_some (rV_i ⟨σ3, H3, Or.inr (Or.inr ⟨gk, cv, (G3.1 0 (fun k => by unfold bQ at k; omega)).trans sG_eq, by rw [if_neg c2]; exact G, ?_, B3⟩)⟩)
    rw [show tsP (eS v1.toInt.toNat) v2 v3 v4 = ((eS v1.toInt.toNat).1, pChange (eS v1.toInt.toNat).2.1 v3 v4, (eS v1.toInt.toNat).2.2) from if_neg c2]
    exact SGx_last SG G (fun j i k => by rcases k with k | k; exact Or.inl k; exact Or.inr (by omega)) hs R3 W3
end Zi
