/-! THE REFERENCE'S STATEMENTS: REPORT, targets -/
/-- how a statement ends -/
def rgM (m : Nat) (bb : ah_H) (V : ENV) (B fv pp : Nat) (ht : Nat → Nat) (e : Nat → TS) (td : TD) (σ0 : rS) (o : Option SOUT) (y : Int32) (h' : ah_H) : Prop := ∃ σ', RH m σ' bb h' ∧ sm (QX pp fv V.2.2.2) σ0 σ' ∧ match o with
  | some q => y = 1 ∧ ∃ F2, BS V B fv pp ht q.1 q.2.1 q.2.2.1 q.2.2.2.1 F2 σ' ∧ nrm V.1 F2 = goP V.1 q.2.2.2.2.1 q.2.2.2.2.2
  | none => y = 0 ∧ BT V B fv pp e td σ'
section Yf
variable {lim : Nat × Nat} {d m n B fv pp : Nat} {V : ENV} {ht : Nat → Nat} {a b : Nat → Int64} {F : FL} {σ σ' σ0 : rS} {bb h h' h1 : ah_H} {e : Nat → TS} {td td' : TD} {kS kV : Nat → Int32 × Int32} {v k k2 l p R : Int32} {Φ : ah_R → Prop} {A Bk : ah_H → Option ah_R} {w : WD} {r : RST}
theorem RW_e {r : Nat} (q : RW σ r w) (e0 : ia σ' 0 r = ia σ 0 r) (e1 : ia σ' 1 r = ia σ 1 r) (e4 : ja σ' 4 r = ja σ 4 r) (e5 : ∀ k, k < 64 → el σ' r k = el σ r k) (W : WF w) : RW σ' r w := by
  obtain ⟨q0, q1, q2, q3⟩ := q
  refine ⟨e0.trans q0, fun c => ?_, fun c => ?_, fun c => ?_⟩
  · rw [e1, e4]
    exact q1 c
  · rw [e1, e4]
    exact q2 c
  · rw [e1, e4]
    obtain ⟨r1, r2, r3⟩ := q3 c
    exact ⟨r1, r2, fun k hk => (e5 k (by have := W.2.1.2; omega)).trans (r3 k hk)⟩
theorem NB_e {T : KT} (N : NB T B σ) (e : ∀ j i, 8 ≤ j → j ≤ 12 → ia σ' j i = ia σ j i) : NB T B σ' := by
  refine ⟨N.1, fun v hv => ?_⟩
  obtain ⟨n1, n2, n3, n4, n5, n6⟩ := N.2 v hv
  rw [e 8 _ (by omega) (by omega), e 9 _ (by omega) (by omega), e 10 _ (by omega) (by omega), e 11 _ (by omega) (by omega)]
  refine ⟨n1, n2, n3, n4, n5, fun i hi => ?_⟩
  rw [e 12 _ (by omega) (by omega)]
  exact n6 i hi
theorem byE_e (H : byE σ) (e : ∀ j i, (j = 0 ∨ j = 1 ∨ j = 5) → ia σ' j i = ia σ j i) : byE σ' := by
  refine ⟨fun i hi => ?_, fun i hi => ?_⟩
  · rw [e 0 i (by omega), e 1 i (by omega)]
    exact H.1 i hi
  · rw [e 5 i (by omega)]
    exact H.2 i hi
theorem BT_e (H : BT V B fv pp e td σ) (e1 : ∀ j i, j ≤ 19 → ia σ' j i = ia σ j i) (e2 : ∀ i, ja σ' 4 i = ja σ 4 i) (e3 : σ'.1 39 = σ.1 39) (A : TA td' σ') : BT V B fv pp e td' σ' := by
  obtain ⟨h1, ⟨⟨c1, c2, c3, c4, c5⟩, es, ev⟩, h3, h4, h5, h6⟩ := H
  have rw : ∀ (r : Nat) (w : WD), WF w → RW σ r w → RW σ' r w := fun r w W q => RW_e q (e1 0 _ (by omega)) (e1 1 _ (by omega)) (e2 _) (fun k _ => e1 5 _ (by omega)) W
  refine ⟨NB_e h1 (fun j i _ hj => e1 j i (by omega)), ⟨⟨c1, c2, by rw [e3]; exact c3, by rw [e3]; exact c4, by rw [e3, e1 18 _ (by omega)]; exact c5⟩, fun i hi => ?_, fun i hi => ⟨rw _ _ (ev i hi).2 (ev i hi).1, (ev i hi).2⟩⟩, byE_e h3 (fun j i hj => e1 j i (by omega)), by rw [e3]; exact h4, ⟨fun i hi hw => by rw [e1 2 _ (by omega), e1 3 _ (by omega)]; exact h5.1 i hi hw, fun i hi hw => by rw [e1 2 _ (by omega), e1 3 _ (by omega)]; exact h5.2 i hi hw⟩, A⟩
  obtain ⟨p1, p2, p3, p4, p5, p6, p7⟩ := es i hi
  rw [e1 6 _ (by omega), e1 7 _ (by omega)]
  exact ⟨rw _ _ p3 p1, rw _ _ p4 p2, p3, p4, p5, p6, p7⟩
theorem rg_0 {o : Option SOUT} (H : RH m σ bb h) (G : sm (QX pp fv V.2.2.2) σ0 σ) (S : BS V B fv pp ht e a b td F σ) (ho : o = none) : rgM m bb V B fv pp ht e td σ0 o 0 h := by
  rw [ho]
  exact ⟨σ, H, G, rfl, S.1⟩
theorem rg_1 {o : Option SOUT} {e' : Nat → TS} {a' b' : Nat → Int64} {kk : Nat} {nn : Int32} (H : RH m σ bb h) (G : sm (QX pp fv V.2.2.2) σ0 σ) (S : BS V B fv pp ht e' a' b' td' F σ) (hN : nrm V.1 F = goP V.1 kk nn) (ho : o = some (e', a', b', td', kk, nn)) : rgM m bb V B fv pp ht e td σ0 o 1 h := by
  rw [ho]
  exact ⟨σ, H, G, rfl, F, S, hN⟩
theorem rs_N {K1 : ah_H → Option ah_R} {j kd N : Nat} {x y : Int32} (H : RH m σ bb h) (hj : j < 39) (hk : rk j = kd) (hl : Nat.beq kd 101 = false) (hx : x.toInt = N) (h1 : N < rn j) (c : ∀ h', RH m (sI σ j N y) bb h' → wq (K1 h') Φ) : wq (ah_sI h (some (m + 1 + j)) kd x (.inl y) K1) Φ := rs_I H hj hk hl (by omega) (by omega) (fun h' H' => c h' (by rw [show x.toInt.toNat = N by omega] at H'; exact H'))
theorem rs_NJ {K1 : ah_H → Option ah_R} {j N : Nat} {x : Int32} {y : Int64} (H : RH m σ bb h) (hj : j < 39) (hk : rk j = 101) (hx : x.toInt = N) (h1 : N < rn j) (c : ∀ h', RH m (sJ σ j N y) bb h' → wq (K1 h') Φ) : wq (ah_sI h (some (m + 1 + j)) 101 x (.inr (.inl y)) K1) Φ := rs_J H hj hk (by omega) (by omega) (fun h' H' => c h' (by rw [show x.toInt.toNat = N by omega] at H'; exact H'))
theorem r_tell (H : RH m σ bb h) (S : BS V B fv pp ht r.1 r.2.2.1 r.2.2.2.1 r.2.2.2.2 F σ) (G0 : sm (QX pp fv V.2.2.2) σ0 σ) (q : RW σ 9872 w) (h2 : wI w = 2) (hN : nrm V.1 F = goP V.1 0 v) : wq (vc lim (d + 2) m_Ref_tell [aR m, aI k] h) (rI (rgM m bb V B fv pp ht r.1 r.2.2.2.2 σ0 (sTell r v w))) := by
  have A := S.1.2.2.2.2.2
  obtain ⟨a1, a2, a3, a4⟩ := A.1
  have e200 : (200 : Int32).toInt = 200 := rfl
  have e1 : (1 : Int32).toInt = 1 := rfl
  refine wq_eq e_Ref_tell (wq_gI H.1 rfl (wq_if _ (fun c => ?_) (fun c => ?_)))
  · have : ¬ r.2.2.2.2.1 < 200 := by
      have := congrArg Int32.toInt c
      rw [e200] at this
      omega
    exact rq_fail H S G0 (fun σ2 h2 H2 S2 G2 => wq_t (Or.inl rfl) (wq_some (rI_i (rg_0 H2 G2 S2 (if_neg this)))))
  · have lt : r.2.2.2.2.1 < 200 := by
      by_cases q : r.2.2.2.2.1 = 200
      · exact absurd (Int32.toInt_inj.mp (by rw [a1, q]; rfl)) c
      · omega
    have ix : (σ.1 46).toInt.toNat = r.2.2.2.2.1 := by omega
    refine wq_gR H.1 rfl (wq_gI H.1 rfl (wq_t (by decide) (rs_N (j := 31) H (by omega) rfl rfl a1 lt (fun h2' H2 => ?_))))
    refine wq_gR H2.1 rfl (wq_gI H2.1 rfl (wq_gR H2.1 rfl (rd4 (r := 9872) H2 rfl (by omega) (rs_N (j := 32) H2 (by omega) rfl rfl a1 lt (fun h3 H3 => ?_)))))
    refine wq_gR H3.1 rfl (wq_gI H3.1 rfl (rs_N (j := 33) H3 (by omega) rfl rfl a1 lt (fun h4 H4 => ?_)))
    refine wq_gR H4.1 rfl (wq_gI H4.1 rfl (rs_N (j := 34) H4 (by omega) rfl rfl a1 lt (fun h5 H5 => ?_)))
    refine wq_gR H5.1 rfl (wq_gI H5.1 rfl (rs_N (j := 35) H5 (by omega) rfl rfl a1 lt (fun h6 H6 => wq_gI H6.1 rfl (rw_I H6 (by omega) rfl (fun h7 H7 => ?_)))))
    have ei : (σ.1 46 + 1).toInt = ((r.2.2.2.2.1 + 1 : Nat) : Int) := by rw [ad_i (by omega) (by omega), e1, a1]; rfl
    refine wq_gR H7.1 rfl (wq_gI H7.1 rfl (wq_gI H7.1 rfl (rs_N (j := 37) (N := r.2.2.2.2.1 + 1) H7 (by omega) rfl rfl (by rw [sG_eq]; exact ei) (by show r.2.2.2.2.1 + 1 < 201; omega) (fun h8 H8 => wq_t (by decide) (wq_some (rI_i ?_))))))
    have e47 : (sG (sI (sI (sI (sI (sI σ 31 r.2.2.2.2.1 1) 32 r.2.2.2.2.1 (ja (sI σ 31 r.2.2.2.2.1 1) 4 9872).toInt32) 33 r.2.2.2.2.1 0) 34 r.2.2.2.2.1 0) 35 r.2.2.2.2.1 0) 46 (σ.1 46 + 1)).1 47 = σ.1 47 := sG_ne (by omega)
    rw [e47] at H8
    have en : (ja σ 4 9872).toInt32 = (wN w).toInt32 := by rw [(q.2.1 h2).2]
    have oi : ∀ j i, j < 31 ∨ 38 ≤ j → ia (sI (sG (sI (sI (sI (sI (sI σ 31 r.2.2.2.2.1 1) 32 r.2.2.2.2.1 (ja (sI σ 31 r.2.2.2.2.1 1) 4 9872).toInt32) 33 r.2.2.2.2.1 0) 34 r.2.2.2.2.1 0) 35 r.2.2.2.2.1 0) 46 (σ.1 46 + 1)) 37 (r.2.2.2.2.1 + 1) (σ.1 47)) j i = ia σ j i := fun j i hj => (sI_nj (by omega)).trans ((sI_nj (by omega)).trans ((sI_nj (by omega)).trans ((sI_nj (by omega)).trans ((sI_nj (by omega)).trans (sI_nj (by omega))))))
    refine rg_1 (td' := tAct r.2.2.2.2 1 (wN w).toInt32 0 0 0 (Nat.toInt32 r.2.2.2.2.2.1) 0) H8 ?_ ⟨BT_e S.1 (fun j i hj => oi j i (by omega)) (fun _ => rfl) (by show up1 σ.1 46 (σ.1 46 + 1) 39 = σ.1 39; exact up1_ne (by omega)) ?_, FX_e S.2 (oi 26 _ (by omega)) (fun i => oi 27 i (by omega)) (fun i => oi 28 i (by omega)) (fun _ => rfl) (fun _ => rfl)⟩ hN (if_pos lt)
    · exact sm_I (sm_G (sm_I (sm_I (sm_I (sm_I (sm_I G0 (by unfold QX; omega)) (by unfold QX; omega)) (by unfold QX; omega)) (by unfold QX; omega)) (by unfold QX; omega)) (by unfold QX; omega)) (by unfold QX; omega)
    · have nn : ∀ i, i < r.2.2.2.2.1 → i ≠ r.2.2.2.2.1 := fun i hi => by omega
      refine TA_n (a := fun _ => w00) (b := fun _ => 0) (n := 0) A lt (by omega) (Or.inr ⟨rfl, rfl⟩) ?_ ?_ ?_ ?_ ?_ ?_ ?_ (fun q => absurd q (by decide)) ?_ (fun j i j1 j2 hi => ?_) (fun i hi => rfl) (fun i hi => ?_) (fun w' hw => ⟨rfl, RW_e (A.2.2.2 w' hw).2.1 (oi 0 _ (by omega)) (oi 1 _ (by omega)) rfl (fun k _ => oi 5 _ (by omega)) (A.2.2.2 w' hw).2.2⟩) (fun j hj => absurd hj (Nat.not_lt_zero _))
      · show (up1 σ.1 46 (σ.1 46 + 1) 46).toInt = _
        rw [up1_eq]
        exact ei
      · show (up1 σ.1 46 (σ.1 46 + 1) 47).toInt = _
        rw [up1_ne (by omega)]
        exact a2
      · exact (sI_nj (by omega)).trans ((sI_nj (by omega)).trans ((sI_nj (by omega)).trans ((sI_nj (by omega)).trans ((sI_nj (by omega)).trans sI_eq))))
      · exact (sI_nj (by omega)).trans ((sI_nj (by omega)).trans ((sI_nj (by omega)).trans ((sI_nj (by omega)).trans (sI_eq.trans en))))
      · exact (sI_nj (by omega)).trans ((sI_nj (by omega)).trans ((sI_nj (by omega)).trans sI_eq))
      · exact (sI_nj (by omega)).trans ((sI_nj (by omega)).trans sI_eq)
      · exact (sI_nj (by omega)).trans sI_eq
      · rw [sI_eq]
        exact a2
      · exact (sI_nj (by omega)).trans ((sI_ni (nn i hi)).trans ((sI_ni (nn i hi)).trans ((sI_ni (nn i hi)).trans ((sI_ni (nn i hi)).trans (sI_ni (nn i hi))))))
      · exact (sI_ni (by omega)).trans ((sI_nj (by omega)).trans ((sI_nj (by omega)).trans ((sI_nj (by omega)).trans ((sI_nj (by omega)).trans (sI_nj (by omega))))))
end Yf
