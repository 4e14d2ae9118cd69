/-! mark, set and variable of the reference -/
section Zj
variable {lim : Nat × Nat} {d m nS r nU nV B fv pp : Nat} {σ : rS} {bb : ah_H} {eS e : Nat → TS} {h h' : ah_H} {v1 v2 v3 v4 R k v lo hi : Int32} {Φ : ah_R → Prop} {w : WD} {T : KT}
theorem r_mark (H : RH m σ bb h) (hB : byE σ) (SG : SGx nS eS σ) (h7 : (σ.1 7).toInt = nS) (b2 : v2 = 0 ∨ v2 = 1) (b3 : v3 = 0 ∨ v3 = 1) : wq (vc lim (d + 1) m_Ref_mark [aR m, aI v1, aI v2, aI v3] h) (rV fun h' => ∃ σ', RH m σ' bb h' ∧ ((¬ (0 ≤ v1.toInt ∧ v1.toInt < nS) ∧ σ' = sG σ 0 1) ∨ ((0 ≤ v1.toInt ∧ v1.toInt < nS) ∧ σ' = sI (sI (sG σ 0 0) 6 v1.toInt.toNat v2) 7 v1.toInt.toNat v3 ∧ SGx nS (upS eS v1.toInt.toNat ((eS v1.toInt.toNat).1, (eS v1.toInt.toNat).2.1, v2, v3, (eS v1.toInt.toNat).2.2.2.2)) σ'))) := by
  have z0 : (0 : Int32).toInt = 0 := rfl
  have l5 := SG.1
  have bad : ¬ (0 ≤ v1.toInt ∧ v1.toInt < nS) → wq (ah_val lim ah_P d 36 18 [some (aR m), some (aI v1), some (aI v2), some (aI v3)] [aI 1, aR m] h) (rV fun h' => ∃ σ', RH m σ' bb h' ∧ ((¬ (0 ≤ v1.toInt ∧ v1.toInt < nS) ∧ σ' = sG σ 0 1) ∨ ((0 ≤ v1.toInt ∧ v1.toInt < nS) ∧ σ' = sI (sI (sG σ 0 0) 6 v1.toInt.toNat v2) 7 v1.toInt.toNat v3 ∧ SGx nS (upS eS v1.toInt.toNat ((eS v1.toInt.toNat).1, (eS v1.toInt.toNat).2.1, v2, v3, (eS v1.toInt.toNat).2.2.2.2)) σ'))) := fun nk => wq_eq q_36_18 (zr_e (K := none) H (by decide) (fun h1 H1 => wq_some (rV_i ⟨_, H1, Or.inl ⟨nk, rfl⟩⟩)))
  refine wq_eq q_36_0 (wq_if _ (fun c0 => bad (fun k => by have := lt_i c0; omega)) (fun c0 => wq_gI H.1 rfl (wq_if _ (fun c1 => ?_) (fun c1 => bad (fun k => by have := nlt_i c1; omega)))))
  have w0 := nlt_i c0
  have w1 := lt_i c1
  have hs : v1.toInt.toNat < nS := by omega
  refine wq_eq q_36_18 (zr_o H (fun h1 H1 => wq_gR H1.1 rfl (wq_t b2 (rs_N (j := 6) (N := v1.toInt.toNat) H1 (by omega) rfl rfl (by omega) (by show v1.toInt.toNat < 512; omega) (fun h2 H2 => wq_gR H2.1 rfl (wq_t b3 (rs_N (j := 7) (N := v1.toInt.toNat) H2 (by omega) rfl rfl (by omega) (by show v1.toInt.toNat < 512; omega) (fun h3 H3 => wq_some (rV_i ⟨_, H3, Or.inr ⟨by omega, rfl, l5, fun i hi => ?_⟩⟩)))))))))
  obtain ⟨⟨p1, p2, p3, p4, p5, p6, p7, p7'⟩, p8⟩ := SG.2 i hi
  have ei : ∀ j x, j ≠ 6 → j ≠ 7 → ia (sI (sI (sG σ 0 0) 6 v1.toInt.toNat v2) 7 v1.toInt.toNat v3) j x = ia σ j x := fun j x j6 j7 => (sI_nj j7).trans (sI_nj j6)
  have rw : ∀ (x : Nat) (w : WD), WF w → RW σ x w → RW (sI (sI (sG σ 0 0) 6 v1.toInt.toNat v2) 7 v1.toInt.toNat v3) x w := fun x w W q => RW_e q (ei 0 _ (by omega) (by omega)) (ei 1 _ (by omega) (by omega)) rfl (fun k _ => ei 5 _ (by omega) (by omega)) W
  by_cases c : i = v1.toInt.toNat
  · subst c
    rw [upS_eq, ei 2 _ (by omega) (by omega), ei 3 _ (by omega) (by omega)]
    exact ⟨⟨rw _ _ p3 p1, rw _ _ p4 p2, p3, p4, (sI_nj (by omega)).trans sI_eq, sI_eq, b2, b3⟩, p8⟩
  · rw [upS_ne c, ei 2 _ (by omega) (by omega), ei 3 _ (by omega) (by omega)]
    exact ⟨⟨rw _ _ p3 p1, rw _ _ p4 p2, p3, p4, (sI_nj (by omega)).trans ((sI_ni c).trans p5), (sI_ni c).trans ((sI_nj (by omega)).trans p6), p7, p7'⟩, p8⟩
/-- a variable's value has changed -/
theorem UVx_v {σ' : rS} {Q : Nat → Nat → Prop} {s : Nat} {w' : WD} (P : PO T) (U : UVx T nV B fv pp e σ) (G : sm Q σ σ') (hQ : ∀ j i, Q j i → bQ (1024 + fv + s) j i ∨ 100 ≤ j) (hs : s < nV) (q : RW σ' (1024 + fv + s) w') (W : WF w') (hi : wI w' = wI (e s).1) : UVx T nV B fv pp (upS e s (w', (e s).2)) σ' := by
  obtain ⟨u1, u2, u3, u4, u5, u6⟩ := U
  have ei : ∀ j x, j < 100 → j ≠ 4 → j ≠ 5 → ia σ' j x = ia σ j x := fun j x j1 j2 j3 => G.2.2.1 j x (fun q => by have := hQ _ _ q; unfold bQ at this; omega)
  refine ⟨NB_r u1 P (fun j i j1 j2 i1 i2 => ei j i (by omega) (by omega) (by omega)), u2, u3, by rw [ei 18 _ (by omega) (by omega) (by omega)]; exact u4, by rw [ei 17 _ (by omega) (by omega) (by omega)]; exact u5, fun i hi' => ?_⟩
  obtain ⟨⟨p1, p2⟩, p3⟩ := u6 i hi'
  rw [ei 2 _ (by omega) (by omega) (by omega), ei 3 _ (by omega) (by omega) (by omega)]
  by_cases c : i = s
  · rw [c, upS_eq, ← c]
    exact ⟨⟨by rw [c]; exact q, W⟩, fun z => p3 (by rw [c]; exact hi.symm.trans z)⟩
  · rw [upS_ne c]
    exact ⟨⟨RW_q p1 p2 G (fun j i' q => by have := hQ _ _ q; unfold bQ at this; omega), p2⟩, p3⟩
def stQ (r j i : Nat) : Prop := bQ r j i ∨ (j = 100 ∧ i = 0)
theorem r_set (H : RH m σ bb h) (hB : byE σ) (hU : (σ.1 23).toInt = nU) (h64 : nU ≤ 64) (P : PO T) (W : 0 ≤ v1.toInt ∧ v1.toInt < nU → UVx T nV B fv v1.toInt.toNat e σ ∧ (ia σ 19 v1.toInt.toNat).toInt = nV) (LB : ∀ i, i < nV → wI (e i).1 = 2 → -2147483647 ≤ (e i).2.2.2.2.1.toInt) : wq (vc lim (d + 3) m_Ref_set [aR m, aI v1, aI v2, aI v3, aI v4] h) (rV fun h' => ∃ σ', RH m σ' bb h' ∧ ((¬ voK nU nV e v1 v2 v3 ∧ σ' = sG σ 0 1) ∨ (voK nU nV e v1 v2 v3 ∧ ¬ cnV (e v2.toInt.toNat).1 (e v2.toInt.toNat).2.2.2.2.1 (e v2.toInt.toNat).2.2.2.2.2 v4 ∧ σ' = sG σ 0 2) ∨ (voK nU nV e v1 v2 v3 ∧ cnV (e v2.toInt.toNat).1 (e v2.toInt.toNat).2.2.2.2.1 (e v2.toInt.toNat).2.2.2.2.2 v4 ∧ σ'.1 0 = 0 ∧ sm (stQ (1024 + fv + v2.toInt.toNat)) σ σ' ∧ UVx T nV B fv v1.toInt.toNat (upS e v2.toInt.toNat (pChange (e v2.toInt.toNat).1 v3 v4, (e v2.toInt.toNat).2)) σ' ∧ byE σ'))) := by
  refine wq_eq q_40_0 (wq_at H.1 (wq_cI (r_varAt H hU h64 W) ?_))
  rintro y h2 ⟨eh, k⟩
  rw [eh]
  rcases k with ⟨rfl, k⟩ | ⟨hy, k⟩
  · exact wq_t rfl (wq_eq q_40_36 (rw_I H (by omega) rfl (fun h1 H1 => wq_gI H1.1 rfl (wq_f (by rw [sG_eq]; decide) (wq_some (rV_i ⟨_, H1, Or.inl ⟨k, rfl⟩⟩))))))
  obtain ⟨UV, u19⟩ := W k.1
  have UV' := UV
  obtain ⟨-, u2, -, u4, -, u6⟩ := UV'
  have kl := k.2.1
  have hs : v2.toInt.toNat < nV := by omega
  obtain ⟨⟨q1, q3⟩, q8⟩ := u6 v2.toInt.toNat hs
  refine wq_f (fun q => by rw [q] at hy; have : (-1 : Int32).toInt = -1 := rfl; omega) (wq_at H.1 (wq_cI (r_cannot H hy (by omega) q1 q8) ?_))
  rintro z h2 ⟨eh, cv⟩
  rw [eh]
  rcases cv with ⟨rfl, cv⟩ | ⟨rfl, cv⟩
  rotate_left
  · exact wq_f (by decide) (wq_eq q_40_36 (rw_I H (by omega) rfl (fun h1 H1 => wq_gI H1.1 rfl (wq_f (by rw [sG_eq]; decide) (wq_some (rV_i ⟨_, H1, Or.inr (Or.inl ⟨k, cv, rfl⟩)⟩))))))
  have f2 : wI (e v2.toInt.toNat).1 = 2 → -2147483647 ≤ v4.toInt := fun z => by
    have cv' := cv
    unfold cnV at cv'
    rw [if_pos z] at cv'
    have := LB _ hs z
    omega
  have f8 : ¬ wI (e v2.toInt.toNat).1 = 2 → 0 ≤ v4.toInt ∧ v4.toInt ≤ 8 := fun z => by
    have cv' := cv
    unfold cnV at cv'
    rw [if_neg z] at cv'
    exact cv'
  refine wq_t rfl (wq_eq q_40_36 (rw_I H (by omega) rfl (fun h1 H1 => wq_gI H1.1 rfl (wq_t sG_eq (wq_at H1.1 (wq_cV (r_become H1 hB hy (by omega) (RW_e q1 rfl rfl rfl (fun _ _ => rfl) q3) q3 k.2.2 f2 f8) fun h3 k3 => ?_))))))
  obtain ⟨σ3, H3, G3, R3, W3, B3⟩ := k3
  have G : sm (stQ (1024 + fv + v2.toInt.toNat)) σ σ3 := sm_tr (sm_G sm_0 (Or.inr ⟨rfl, rfl⟩)) G3 (fun j i k => Or.inl k)
  exact wq_some (rV_i ⟨σ3, H3, Or.inr (Or.inr ⟨k, cv, (G3.1 0 (fun k => by unfold bQ at k; omega)).trans sG_eq, G, UVx_v P UV G (fun j i k => by rcases k with k | k; exact Or.inl k; exact Or.inr (by omega)) hs R3 W3 pCh_il.1, B3⟩)⟩)
theorem r_variable (H : RH m σ bb h) (h9 : 0 ≤ (σ.1 9).toInt ∧ (σ.1 9).toInt ≤ 128) : wq (vc lim (d + 3) m_Ref_variable [aR m, aI v1, aI v2, aI v3] h) (rI fun x h' => (okK v1 v2 v3 ∧ (σ.1 9).toInt < 128 ∧ x = σ.1 9 ∧ RH m (sG (mkR (sG σ 0 0) (9216 + (σ.1 9).toInt.toNat) v1 v2 v3) 9 (σ.1 9 + 1)) bb h') ∨ (¬ (okK v1 v2 v3 ∧ (σ.1 9).toInt < 128) ∧ ∃ e : Int32, RH m (sG σ 0 e) bb h' ∧ (e = 1 ∨ e = 2))) := by
  have e128 : (128 : Int32).toInt = 128 := rfl
  have e9216 : (9216 : Int32).toInt = 9216 := rfl
  have e1 : (1 : Int32).toInt = 1 := rfl
  refine wq_eq e_Ref_variable (wq_cI v_noKind ?_)
  rintro x h2 ⟨eh, x01, x0, x1⟩
  rw [eh]
  have bad : ∀ e : Int32, (e = 1 ∨ e = 2) → ¬ (okK v1 v2 v3 ∧ (σ.1 9).toInt < 128) → wq (ah_val lim ah_P (d + 2) 30 29 [some (aR m), some (aI v1), some (aI v2), some (aI v3)] [aI e, aR m] h) (rI fun x h' => (okK v1 v2 v3 ∧ (σ.1 9).toInt < 128 ∧ x = σ.1 9 ∧ RH m (sG (mkR (sG σ 0 0) (9216 + (σ.1 9).toInt.toNat) v1 v2 v3) 9 (σ.1 9 + 1)) bb h') ∨ (¬ (okK v1 v2 v3 ∧ (σ.1 9).toInt < 128) ∧ ∃ e : Int32, RH m (sG σ 0 e) bb h' ∧ (e = 1 ∨ e = 2))) := by
    intro e he nk
    refine wq_eq q_30_29 (rw_I H (by omega) rfl (fun h1 H1 => wq_gI H1.1 rfl (wq_f (fun q => ?_) (wq_some (rI_i (Or.inr ⟨nk, e, H1, he⟩))))))
    rw [sG_eq] at q
    rcases he with rfl | rfl <;> exact absurd q (by decide)
  refine wq_if _ (fun c => ?_) (fun c => ?_)
  · have ok := x0 c
    refine wq_gI H.1 rfl (wq_if _ (fun c5 => bad 2 (Or.inr rfl) ?_) (fun c5 => ?_))
    · rw [c5]
      exact fun q => absurd q.2 (by decide)
    have lt : (σ.1 9).toInt < 128 := by
      by_cases q : (σ.1 9).toInt = 128
      · exact absurd (Int32.toInt_inj.mp (q.trans e128.symm)) c5
      · omega
    obtain ⟨k0, k1, k2⟩ := okK_c ok
    refine wq_eq q_30_29 (rw_I H (by omega) rfl (fun h1 H1 => wq_gI H1.1 rfl (wq_t (by rw [sG_eq]; decide) (wq_gI H1.1 rfl ?_))))
    have e7 : (sG σ 0 0).1 9 = σ.1 9 := sG_ne (by omega)
    rw [e7]
    have e5 : (9216 + σ.1 9).toInt = ((9216 + (σ.1 9).toInt.toNat : Nat) : Int) := by rw [ad_i (by omega) (by omega), e9216]; omega
    refine wq_at H1.1 (wq_cV (r_make (r := 9216 + (σ.1 9).toInt.toNat) H1 e5 (by omega) k0 k1 k2) fun h3 H3 => wq_gI H3.1 rfl ?_)
    have e7'' : (mkR (sG σ 0 0) (9216 + (σ.1 9).toInt.toNat) v1 v2 v3).1 9 = σ.1 9 := e7
    rw [e7'']
    refine rw_I H3 (by omega) rfl (fun h4 H4 => wq_gI H4.1 rfl (wq_some (rI_i (Or.inl ⟨ok, lt, ?_, H4⟩))))
    rw [sG_eq]
    refine Int32.toInt_inj.mp ?_
    have ea : (σ.1 9 + 1).toInt = (σ.1 9).toInt + 1 := by rw [ad_i (by omega) (by omega), e1]
    rw [sb_i (by omega) (by omega), ea, e1]
    omega
  · exact bad 1 (Or.inl rfl) (fun q => (x1 (x01.resolve_left c)) q.1)
end Zj
