/-! THE REFERENCE'S SMALL CALLS: make, signal, variable -/
abbrev mkE (σ : rS) (r : Nat) (K L a b : Int32) (z : Int64) : rS := setE (sJ (sI (sI (sI (sI σ 0 r K) 1 r L) 2 r a) 3 r b) 4 r z) r 64 fun _ => 0
abbrev mkR (σ : rS) (r : Nat) (c a b : Int32) : rS := mkE σ r c (if c = 1 then a else 0) a b (if c = 2 then a.toInt64 else 0)
section Za
variable {lim : Nat × Nat} {d m r : Nat} {σ : rS} {bb h : ah_H} {v1 v2 v3 v4 : Int32}
theorem r_make (H : RH m σ bb h) (hR : v1.toInt = r) (hr : r < 10100) (c0 : 0 ≤ v2.toInt) (c1 : v2.toInt ≤ 2) (c2 : v2.toInt = 1 → 0 ≤ v3.toInt ∧ v3.toInt ≤ 64) : wq (vc lim (d + 2) m_Ref_make [aR m, aI v1, aI v2, aI v3, aI v4] h) (rV fun h' => RH m (mkR σ r v2 v3 v4) bb h') := by
  have L : ∀ (τ : rS) (n : Nat) (v : Int32) (h : ah_H), v.toInt + n = 64 → 0 ≤ v.toInt → RH m (setE τ r v.toInt.toNat fun _ => 0) bb h → wq (ah_val lim ah_P (d + 1) 27 60 [some (aR m), some (aI v1), none, none, none, some (aI v)] [] h) (rV fun h' => RH m (setE τ r 64 fun _ => 0) bb h') := by
    intro τ n
    induction n with
    | zero =>
      intro v h hv h0 H
      refine wq_eq q_27_60 (wq_f (fun q => by have := lt_i q; have : (64 : Int32).toInt = 64 := rfl; omega) (wq_some (rV_i ?_)))
      rw [show v.toInt.toNat = 64 by omega] at H
      exact H
    | succ n ih =>
      intro v h hv h0 H
      have e1 := inc_i (v := v) (by omega)
      refine wq_eq q_27_60 (wq_t (Int32.lt_iff_toInt_lt.mpr (by show v.toInt < 64; omega)) (wq_at H.1 (wq_cV (se_st H hR hr h0 (by omega) rfl (by decide) (by decide)) fun h1 H1 => ih (v + 1) h1 (by omega) (by omega) ?_)))
      rw [show (v + 1).toInt.toNat = v.toInt.toNat + 1 by omega]
      exact H1
  have c23 : ∀ (s2 : Int32) (h2 : ah_H), RH m (sI σ 0 r v2) bb h2 → 0 ≤ s2.toInt → s2.toInt ≤ 64 → wq (ah_val lim ah_P (d + 1) 27 23 [some (aR m), some (aI v1), some (aI v2), some (aI v3), some (aI v4), none] [aI s2, aI v1, aR (m + 1 + 1)] h2) (rV fun h' => RH m (mkE σ r v2 s2 v3 v4 (if v2 = 2 then v3.toInt64 else 0)) bb h') := by
    intro s2 h2 H2 g0 g1
    refine wq_eq q_27_23 ?_
    rw [b8_2 g0 (by omega)]
    refine rs_N (j := 1) H2 (by omega) rfl rfl hR hr (fun h3 H3 => wq_gR H3.1 rfl (rs_N (j := 2) H3 (by omega) rfl rfl hR hr (fun h4 H4 => wq_gR H4.1 rfl (rs_N (j := 3) H4 (by omega) rfl rfl hR hr (fun h5 H5 => wq_gR H5.1 rfl ?_)))))
    refine wq_if _ (fun c => rs_NJ (j := 4) H5 (by omega) rfl hR hr (fun h6 H6 => ?_)) (fun c => rs_NJ (j := 4) H5 (by omega) rfl hR hr (fun h6 H6 => ?_))
    · rw [if_pos c]
      exact L _ 64 0 h6 rfl (by decide) (by rw [show (0 : Int32).toInt.toNat = 0 from rfl, setE_0]; exact H6)
    · rw [if_neg c]
      exact L _ 64 0 h6 rfl (by decide) (by rw [show (0 : Int32).toInt.toNat = 0 from rfl, setE_0]; exact H6)
  refine wq_eq q_27_0 (wq_gR H.1 rfl ?_)
  rw [b8_2 c0 (by omega)]
  refine rs_N (j := 0) H (by omega) rfl rfl hR hr (fun h2 H2 => wq_gR H2.1 rfl (wq_if _ (fun c => ?_) (fun c => ?_)))
  · have z := c2 (by rw [c]; rfl)
    unfold mkR
    rw [if_pos c]
    exact c23 v3 h2 H2 z.1 z.2
  · unfold mkR
    rw [if_neg c]
    exact c23 0 h2 H2 (by decide) (by decide)
theorem mk_i {K L a b : Int32} {z : Int64} {j i : Nat} (hj : j ≠ 5) : ia (mkE σ r K L a b z) j i = ia (sI (sI (sI (sI σ 0 r K) 1 r L) 2 r a) 3 r b) j i := setE_j hj
theorem mk_0 {K L a b : Int32} {z : Int64} : ia (mkE σ r K L a b z) 0 r = K := (mk_i (by omega)).trans ((sI_nj (by omega)).trans ((sI_nj (by omega)).trans ((sI_nj (by omega)).trans sI_eq)))
theorem mk_1 {K L a b : Int32} {z : Int64} : ia (mkE σ r K L a b z) 1 r = L := (mk_i (by omega)).trans ((sI_nj (by omega)).trans ((sI_nj (by omega)).trans sI_eq))
theorem mk_2 {K L a b : Int32} {z : Int64} : ia (mkE σ r K L a b z) 2 r = a := (mk_i (by omega)).trans ((sI_nj (by omega)).trans sI_eq)
theorem mk_3 {K L a b : Int32} {z : Int64} : ia (mkE σ r K L a b z) 3 r = b := (mk_i (by omega)).trans sI_eq
theorem mk_4 {K L a b : Int32} {z : Int64} : ja (mkE σ r K L a b z) 4 r = z := jaJ_e (σ := sI (sI (sI (sI σ 0 r K) 1 r L) 2 r a) 3 r b)
theorem mk_5 {K L a b : Int32} {z : Int64} {k : Nat} (hk : k < 64) : el (mkE σ r K L a b z) r k = 0 := setE_e (g := fun _ => 0) hk
theorem mk_o {K L a b : Int32} {z : Int64} {j i : Nat} (hj : j ≠ 5) (hi : i ≠ r) : ia (mkE σ r K L a b z) j i = ia σ j i := (mk_i hj).trans ((sI_ni hi).trans ((sI_ni hi).trans ((sI_ni hi).trans (sI_ni hi))))
/-- what it may have changed -/
def mQ (r j i : Nat) : Prop := (j ≤ 4 ∧ i = r) ∨ (j = 5 ∧ 64 * r ≤ i ∧ i < 64 * r + 64)
theorem sm_mk {σ0 : rS} {K L a b : Int32} {z : Int64} {Q : Nat → Nat → Prop} (G : sm Q σ0 σ) (hQ : ∀ j i, mQ r j i → Q j i) : sm Q σ0 (mkE σ r K L a b z) := sm_E (sm_J (sm_I (sm_I (sm_I (sm_I G (hQ _ _ (Or.inl ⟨by omega, rfl⟩))) (hQ _ _ (Or.inl ⟨by omega, rfl⟩))) (hQ _ _ (Or.inl ⟨by omega, rfl⟩))) (hQ _ _ (Or.inl ⟨by omega, rfl⟩))) (hQ _ _ (Or.inl ⟨by omega, rfl⟩))) (fun k _ => hQ _ _ (Or.inr ⟨rfl, by omega, by omega⟩))
theorem by_mk {K L a b : Int32} {z : Int64} (B : byE σ) (k0 : 0 ≤ K.toInt) (k1 : K.toInt ≤ 2) (l0 : 0 ≤ L.toInt) (l1 : L.toInt ≤ 64) : byE (mkE σ r K L a b z) := by
  refine ⟨fun i hi => ?_, fun i hi => ?_⟩
  · by_cases c : i = r
    · rw [c, mk_0, mk_1]
      exact ⟨k0, k1, l0, l1⟩
    · rw [mk_o (by omega) c, mk_o (by omega) c]
      exact B.1 i hi
  · by_cases c : 64 * r ≤ i ∧ i < 64 * r + 64
    · rw [show i = 64 * r + (i - 64 * r) by omega, setE_e (g := fun _ => 0) (by omega)]
      decide
    · rw [setE_n (by omega)]
      show 0 ≤ (ia (sI (sI (sI (sI σ 0 r K) 1 r L) 2 r a) 3 r b) 5 i).toInt ∧ (ia (sI (sI (sI (sI σ 0 r K) 1 r L) 2 r a) 3 r b) 5 i).toInt ≤ 127
      rw [sI_nj (by omega), sI_nj (by omega), sI_nj (by omega), sI_nj (by omega)]
      exact B.2 i hi
/-- what the class begins with -/
theorem RW_mk (ok : okK v2 v3 v4) : RW (mkR σ r v2 v3 v4) r (wIn v2 v3) ∧ WF (wIn v2 v3) := by
  have cd0 : ∀ k, cdW (wIn v2 v3) k = 0 := fun k => by
    show cdI (tb 0 k) (tb 0 k) (tb 0 k) (tb 0 k) = 0
    rw [tb_0]
    decide
  have c8 : ∀ k, (cdW (wIn v2 v3) k).toInt ≤ 8 := fun k => by
    rw [cd0]
    decide
  have z0 : (0 : Int32).toInt = 0 := rfl
  have z1 : (1 : Int32).toInt = 1 := rfl
  unfold okK at ok
  rcases ok with ⟨c, a1, a2, -⟩ | ⟨c, -⟩ | ⟨c, a1, a2, -⟩
  · have c : v2 = 2 := Int32.toInt_inj.mp c
    subst c
    have hi := Int32.toInt_lt v3
    have p31 : (2 : Int) ^ 31 = 2147483648 := by decide
    refine ⟨⟨mk_0, fun _ => ⟨mk_1, mk_4⟩, fun q => absurd (show (2 : Int32) = 0 from q) (by decide), fun q => absurd (show (2 : Int32) = 1 from q) (by decide)⟩, WF_num (n := v3.toInt64) ?_ ?_⟩
    · rw [Int32.toInt_toInt64]
      exact a2
    · rw [Int32.toInt_toInt64]
      omega
  · have c : v2 = 0 := Int32.toInt_inj.mp c
    subst c
    refine ⟨⟨mk_0, fun q => absurd (show (0 : Int32) = 2 from q) (by decide), fun _ => ⟨mk_1, by rw [cd0]; exact mk_4⟩, fun q => absurd (show (0 : Int32) = 1 from q) (by decide)⟩, ⟨Or.inl rfl, ⟨by show (1 : Int) ≤ 1; omega, by show (1 : Int) ≤ 64; omega⟩, fun _ => rfl, fun q => absurd (show (0 : Int32) = 2 from q) (by decide), fun _ => rfl, fun k _ => ⟨tb_0, tb_0, tb_0, tb_0⟩, c8⟩⟩
  · have c : v2 = 1 := Int32.toInt_inj.mp c
    subst c
    refine ⟨⟨mk_0, fun q => absurd (show (1 : Int32) = 2 from q) (by decide), fun q => absurd (show (1 : Int32) = 0 from q) (by decide), fun _ => ⟨mk_1, mk_4, fun k hk => by rw [cd0]; exact mk_5 (by have hk : (k : Int) < v3.toInt := hk; omega)⟩⟩, ⟨Or.inr (Or.inl rfl), ⟨a1, a2⟩, fun q => absurd rfl q, fun q => absurd (show (1 : Int32) = 2 from q) (by decide), fun _ => rfl, fun k _ => ⟨tb_0, tb_0, tb_0, tb_0⟩, c8⟩⟩
theorem r_signal (H : RH m σ bb h) (h7 : 0 ≤ (σ.1 7).toInt ∧ (σ.1 7).toInt ≤ 512) : wq (vc lim (d + 3) m_Ref_signal [aR m, aI v1, aI v2, aI v3] h) (rI fun x h' => (okK v1 v2 v3 ∧ (σ.1 7).toInt < 512 ∧ x = σ.1 7 ∧ RH m (sG (mkR (mkR (sG σ 0 0) (σ.1 7).toInt.toNat v1 v2 v3) (512 + (σ.1 7).toInt.toNat) v1 v2 v3) 7 (σ.1 7 + 1)) bb h') ∨ (¬ (okK v1 v2 v3 ∧ (σ.1 7).toInt < 512) ∧ ∃ e : Int32, RH m (sG σ 0 e) bb h' ∧ (e = 1 ∨ e = 2))) := by
  have e512 : (512 : Int32).toInt = 512 := rfl
  have e1 : (1 : Int32).toInt = 1 := rfl
  refine wq_eq e_Ref_signal (wq_cI v_noKind ?_)
  rintro x h2 ⟨eh, x01, x0, x1⟩
  rw [eh]
  have bad : ∀ e : Int32, (e = 1 ∨ e = 2) → ¬ (okK v1 v2 v3 ∧ (σ.1 7).toInt < 512) → wq (ah_val lim ah_P (d + 2) 29 29 [some (aR m), some (aI v1), some (aI v2), some (aI v3)] [aI e, aR m] h) (rI fun x h' => (okK v1 v2 v3 ∧ (σ.1 7).toInt < 512 ∧ x = σ.1 7 ∧ RH m (sG (mkR (mkR (sG σ 0 0) (σ.1 7).toInt.toNat v1 v2 v3) (512 + (σ.1 7).toInt.toNat) v1 v2 v3) 7 (σ.1 7 + 1)) bb h') ∨ (¬ (okK v1 v2 v3 ∧ (σ.1 7).toInt < 512) ∧ ∃ e : Int32, RH m (sG σ 0 e) bb h' ∧ (e = 1 ∨ e = 2))) := by
    intro e he nk
    refine wq_eq q_29_29 (rw_I H (by omega) rfl (fun h1 H1 => wq_gI H1.1 rfl (wq_f (fun q => ?_) (wq_some (rI_i (Or.inr ⟨nk, e, H1, he⟩))))))
    rw [sG_eq] at q
    rcases he with rfl | rfl <;> exact absurd q (by decide)
  refine wq_if _ (fun c => ?_) (fun c => ?_)
  · have ok := x0 c
    refine wq_gI H.1 rfl (wq_if _ (fun c5 => bad 2 (Or.inr rfl) ?_) (fun c5 => ?_))
    · rw [c5]
      exact fun q => absurd q.2 (by decide)
    have lt : (σ.1 7).toInt < 512 := by
      by_cases q : (σ.1 7).toInt = 512
      · exact absurd (Int32.toInt_inj.mp (q.trans e512.symm)) c5
      · omega
    obtain ⟨k0, k1, k2⟩ := okK_c ok
    refine wq_eq q_29_29 (rw_I H (by omega) rfl (fun h1 H1 => wq_gI H1.1 rfl (wq_t (by rw [sG_eq]; decide) (wq_gI H1.1 rfl ?_))))
    have e7 : (sG σ 0 0).1 7 = σ.1 7 := sG_ne (by omega)
    rw [e7]
    refine wq_at H1.1 (wq_cV (r_make (r := (σ.1 7).toInt.toNat) H1 (by omega) (by omega) k0 k1 k2) fun h2 H2 => wq_gI H2.1 rfl ?_)
    have e7' : (mkR (sG σ 0 0) (σ.1 7).toInt.toNat v1 v2 v3).1 7 = σ.1 7 := e7
    rw [e7']
    have e5 : (512 + σ.1 7).toInt = ((512 + (σ.1 7).toInt.toNat : Nat) : Int) := by rw [ad_i (by omega) (by omega), e512]; omega
    refine wq_at H2.1 (wq_cV (r_make (r := 512 + (σ.1 7).toInt.toNat) H2 e5 (by omega) k0 k1 k2) fun h3 H3 => wq_gI H3.1 rfl ?_)
    have e7'' : (mkR (mkR (sG σ 0 0) (σ.1 7).toInt.toNat v1 v2 v3) (512 + (σ.1 7).toInt.toNat) v1 v2 v3).1 7 = σ.1 7 := e7
    rw [e7'']
    refine rw_I H3 (by omega) rfl (fun h4 H4 => wq_gI H4.1 rfl (wq_some (rI_i (Or.inl ⟨ok, lt, ?_, H4⟩))))
    rw [sG_eq]
    refine Int32.toInt_inj.mp ?_
    have ea : (σ.1 7 + 1).toInt = (σ.1 7).toInt + 1 := by rw [ad_i (by omega) (by omega), e1]
    rw [sb_i (by omega) (by omega), ea, e1]
    omega
  · exact bad 1 (Or.inl rfl) (fun q => (x1 (x01.resolve_left c)) q.1)
end Za
