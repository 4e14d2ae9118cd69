/-! THE REFERENCE RESUMES -/
def QZ (pp fv nV j i : Nat) : Prop := QY pp fv nV j i ∨ (j = 100 ∧ (i = 0 ∨ i = 39)) ∨ (20 ≤ j ∧ j ≤ 22 ∧ i = pp)
/-- signals -/
def SGx (nS : Nat) (eS : Nat → TS) (σ : rS) : Prop := nS ≤ 512 ∧ ∀ i, i < nS → (RW σ i (eS i).1 ∧ RW σ (512 + i) (eS i).2.1 ∧ WF (eS i).1 ∧ WF (eS i).2.1 ∧ ia σ 6 i = (eS i).2.2.1 ∧ ia σ 7 i = (eS i).2.2.2.1 ∧ ((eS i).2.2.1 = 0 ∨ (eS i).2.2.1 = 1) ∧ ((eS i).2.2.2.1 = 0 ∨ (eS i).2.2.2.1 = 1)) ∧ (wI (eS i).1 = 2 → ia σ 2 i = (eS i).2.2.2.2.1 ∧ ia σ 3 i = (eS i).2.2.2.2.2)
/-- a process between calls: its nodes and variables -/
def UVx (T : KT) (nV B fv pp : Nat) (e : Nat → TS) (σ : rS) : Prop := NB T B σ ∧ fv + nV ≤ 8192 ∧ pp < 64 ∧ (ia σ 18 pp).toInt = fv ∧ (ia σ 17 pp).toInt = B + (rtV T).toInt ∧ ∀ i, i < nV → (RW σ (1024 + fv + i) (e i).1 ∧ WF (e i).1) ∧ (wI (e i).1 = 2 → ia σ 2 (1024 + fv + i) = (e i).2.2.2.2.1 ∧ ia σ 3 (1024 + fv + i) = (e i).2.2.2.2.2)
/-- where it is -/
def UWx (T : KT) (B pp : Nat) (ht : Nat → Nat) (s : US) (a b : Nat → Int64) (σ : rS) : Prop := ia σ 20 pp = s.1 ∧ (s.1 = 0 ∨ s.1 = 1 → ia σ 23 pp = s.2.2.2.1 ∧ ∃ F, FX T B pp ht a b F σ ∧ nrm T F = (s.2.2.2.2.1, s.2.2.2.2.2.1)) ∧ (s.1 = 1 → (ia σ 24 pp).toInt = B + s.2.2.2.2.2.2.1.toInt ∧ ja σ 25 pp = s.2.2.2.2.2.2.2)
def rrM (m : Nat) (bb : ah_H) (V : ENV) (B fv pp : Nat) (ht : Nat → Nat) (σ0 : rS) (q : Int32 × RST) (y : Int32) (h' : ah_H) : Prop := y = q.1 ∧ ∃ σ', RH m σ' bb h' ∧ σ'.1 0 = 0 ∧ sm (QZ pp fv V.2.2.2) σ0 σ' ∧ BT V B fv pp q.2.1 q.2.2.2.2.2 σ' ∧ ia σ' 20 pp = q.1 ∧ (q.1 = 1 → ia σ' 23 pp = q.2.2.1.2.2.2.1 ∧ (∃ F2, BS V B fv pp ht q.2.1 q.2.2.2.1 q.2.2.2.2.1 q.2.2.2.2.2 F2 σ' ∧ nrm V.1 F2 = (q.2.2.1.2.2.2.2.1, q.2.2.1.2.2.2.2.2.1)) ∧ (ia σ' 24 pp).toInt = B + q.2.2.1.2.2.2.2.2.2.1.toInt ∧ ja σ' 25 pp = q.2.2.1.2.2.2.2.2.2.2)
section Yx
variable {lim : Nat × Nat} {d m n N B fv pp nU : Nat} {V : ENV} {ht : Nat → Nat} {a b : Nat → Int64} {F : FL} {σ σ' σ0 : rS} {bb h h' h1 : ah_H} {td : TD} {kS kV : Nat → Int32 × Int32} {v c k c0 l s v1 v2 y bo : Int32} {Φ : ah_R → Prop} {T : KT} {r r' : RST} {e : Nat → TS} {q : Int32 × RST}
theorem r_absent {K : Int32 → ah_H → Option ah_R} (H : RH m σ bb h) (hU : (σ.1 23).toInt = nU) (k1 : ¬ (0 ≤ v1.toInt ∧ v1.toInt < nU) → wq (K 1 h) Φ) (k0 : 0 ≤ v1.toInt ∧ v1.toInt < nU → wq (K 0 h) Φ) : wq (ah_at h (some m) 11 fun _ _ => ah_cI (vc lim (d + 1) 38 [aR m, aI v1] h) (nx h1) K) Φ := by
  have z0 : (0 : Int32).toInt = 0 := rfl
  have fin : wq (vc lim (d + 1) 38 [aR m, aI v1] h) (rI fun y h' => h' = h ∧ ((y = 1 ∧ ¬ (0 ≤ v1.toInt ∧ v1.toInt < nU)) ∨ (y = 0 ∧ (0 ≤ v1.toInt ∧ v1.toInt < nU)))) := by
    refine wq_eq q_38_0 (wq_if _ (fun c => ?_) (fun c => ?_))
    · rw [Int32.lt_iff_toInt_lt, z0] at c
      exact wq_t (by decide) (wq_some (rI_i ⟨rfl, Or.inl ⟨rfl, by omega⟩⟩))
    · rw [Int32.lt_iff_toInt_lt, z0] at c
      refine wq_gI H.1 rfl (wq_if _ (fun c2 => ?_) (fun c2 => ?_))
      · rw [Int32.lt_iff_toInt_lt, hU] at c2
        exact wq_t (by decide) (wq_some (rI_i ⟨rfl, Or.inr ⟨rfl, by omega⟩⟩))
      · rw [Int32.lt_iff_toInt_lt, hU] at c2
        exact wq_t (by decide) (wq_some (rI_i ⟨rfl, Or.inl ⟨rfl, by omega⟩⟩))
  refine wq_at H.1 (wq_cI fin ?_)
  rintro y h2 ⟨eh, ⟨rfl, q⟩ | ⟨rfl, q⟩⟩
  · rw [eh]
    exact k1 q
  · rw [eh]
    exact k0 q
/-- an end is noted -/
theorem r_ended (H : RH m σ bb h) (hp : (σ.1 39).toInt = pp) (h64 : pp < 64) : wq (vc lim (d + 1) 107 [aR m, aI y] h) (rV fun h' => ∃ x21 x22 : Int32, RH m (if y = 3 then sI (sI (sI σ 20 pp y) 21 pp x21) 22 pp x22 else sI σ 20 pp y) bb h') := by
  have ix : (σ.1 39).toInt.toNat = pp := by omega
  refine wq_eq e_Ref_ended (wq_gR H.1 rfl (wq_gI H.1 rfl (rs_N (j := 20) H (by omega) rfl rfl hp (by show pp < 64; omega) (fun h2 H2 => wq_if _ (fun c => ?_) (fun c => ?_)))))
  · refine wq_gR H2.1 rfl (wq_gI H2.1 rfl (wq_gI H2.1 rfl (rs_N (j := 21) H2 (by omega) rfl rfl hp (by show pp < 64; omega) (fun h3 H3 => ?_))))
    refine wq_gR H3.1 rfl (wq_gI H3.1 rfl (wq_gI H3.1 rfl (wq_gR H3.1 rfl (wq_gI H3.1 rfl (ra_I H3 (j := 16) (by omega) rfl rfl (by show 0 ≤ (σ.1 39).toInt; omega) (by show (σ.1 39).toInt < (64 : Int); omega) (rs_N (j := 22) H3 (by omega) rfl rfl hp (by show pp < 64; omega) (fun h4 H4 => wq_some (rV_i ?_))))))))
    have H5 : ∃ x21 x22 : Int32, RH m (sI (sI (sI σ 20 pp y) 21 pp x21) 22 pp x22) bb h4 := ⟨_, _, H4⟩
    obtain ⟨x, z, H5⟩ := H5
    exact ⟨x, z, by rw [if_pos c]; exact H5⟩
  · refine wq_some (rV_i ⟨0, 0, ?_⟩)
    rw [if_neg c]
    exact H2
theorem BT_20 {j : Nat} {x : Int32} (S : BT V B fv pp e td σ) (hj : 20 ≤ j ∧ j ≤ 30) {i : Nat} : BT V B fv pp e td (sI σ j i x) := BT_k S (fun q i hq => sI_nj (by omega)) (fun _ _ _ => rfl) ⟨rfl, rfl, rfl⟩
theorem ja_i {j i q : Nat} {x : Int32} {p : Nat} : ja (sI σ j i x) q p = ja σ q p := rfl
/-- a run begins -/
theorem BT_new (SG : SGx V.2.1 V.2.2.1 σ) (UV : UVx V.1 V.2.2.2 B fv pp e σ) (hB : byE σ) (i6 : ∀ j i, j ≠ 37 → ia σ' j i = ia σ j i) (j6 : ∀ i, ja σ' 4 i = ja σ 4 i) (g39 : (σ'.1 39).toInt = pp) (A : TA td σ') : BT V B fv pp e td σ' := by
  have rw : ∀ (r : Nat) (w : WD), WF w → RW σ r w → RW σ' r w := fun r w W q => RW_e q (i6 0 _ (by omega)) (i6 1 _ (by omega)) (j6 _) (fun k _ => i6 5 _ (by omega)) W
  obtain ⟨u1, u2, u3, u4, u5, u6⟩ := UV
  have ix : (σ'.1 39).toInt.toNat = pp := by omega
  refine ⟨NB_e u1 (fun j i _ hj => i6 j i (by omega)), ⟨⟨SG.1, u2, by omega, by omega, ?_⟩, fun i hi => ?_, fun i hi => ⟨rw _ _ (u6 i hi).1.2 (u6 i hi).1.1, (u6 i hi).1.2⟩⟩, byE_e hB (fun j i hj => i6 j i (by omega)), ⟨g39, u3⟩, ⟨fun i hi hw => ?_, fun i hi hw => ?_⟩, A⟩
  · rw [ix, i6 18 _ (by omega)]
    exact u4
  · obtain ⟨⟨p1, p2, p3, p4, p5, p6, p7⟩, -⟩ := SG.2 i hi
    rw [i6 6 _ (by omega), i6 7 _ (by omega)]
    exact ⟨rw _ _ p3 p1, rw _ _ p4 p2, p3, p4, p5, p6, p7⟩
  · rw [i6 2 _ (by omega), i6 3 _ (by omega)]
    exact (SG.2 i hi).2 hw
  · rw [i6 2 _ (by omega), i6 3 _ (by omega)]
    exact (u6 i hi).2 hw
theorem r_resume (GG : GK V kS kV) (GR : ∀ v, rgN V.1 v → gSr V kS kV v) (HH : HT V.1 ht) (hb : bdy V.1 (rtV V.1)) (hu : xU V.1 (rtV V.1) = -1) (SG : SGx V.2.1 V.2.2.1 σ) (UV : UVx V.1 V.2.2.2 B fv pp r.1 σ) (hB : byE σ) (X : FX V.1 B pp ht r.2.2.1 r.2.2.2.1 F σ) (hN : nrm V.1 F = (r.2.1.2.2.2.2.1, r.2.1.2.2.2.2.2.1)) (h23 : ia σ 23 pp = r.2.1.2.2.2.1) (K : KQ V kS kV r.1) (hA : IA V.1 r.2.1) (h20 : (ia σ 20 pp).toInt ≤ 1) (hU : (σ.1 23).toInt = nU) (hp : v1.toInt = pp) (hpU : pp < nU) (hn : v2.toInt = n) (n1 : 1 ≤ n ∧ n ≤ 10000) (t0 : r.2.2.2.2.1 = 0 ∧ r.2.2.2.2.2.1 = 0) (H : RH m σ bb h) : wq (vc lim (d + 214) 108 [aR m, aI v1, aI v2] h) (rI (rrM m bb V B fv pp ht σ (pRun V n r))) := by
  have z0 : (0 : Int32).toInt = 0 := rfl
  have z1 : (1 : Int32).toInt = 1 := rfl
  have z4 : (10000 : Int32).toInt = 10000 := rfl
  have p64 := UV.2.2.1
  refine wq_eq q_108_0 (r_absent H hU (fun q => absurd (show 0 ≤ v1.toInt ∧ v1.toInt < nU by omega) q) (fun _ => wq_t rfl (wq_f (fun q => by rw [Int32.lt_iff_toInt_lt, z1] at q; omega) (wq_t (by rw [Int32.le_iff_toInt_le, z4]; omega) (wq_gR H.1 rfl (ra_I H (j := 20) (by omega) rfl rfl (by omega) (by show _ < (64 : Int); omega) ?_))))))
  rw [show v1.toInt.toNat = pp by omega]
  refine wq_t (by rw [Int32.le_iff_toInt_le, z1]; exact h20) (wq_eq q_108_44 (rw_I H (by omega) rfl (fun h1 H1 => wq_gI H1.1 rfl (wq_t (by rw [sG_eq]; decide) (rw_I H1 (by omega) rfl (fun h2 H2 => rw_I H2 (by omega) rfl (fun h3 H3 => rw_I H3 (by omega) rfl (fun h4 H4 => rw_I H4 (by omega) rfl (fun h5 H5 => wq_gR H5.1 rfl (rs_N (j := 37) (N := 0) H5 (by omega) rfl rfl rfl (by decide) (fun h6 H6 => ?_)))))))))))
  generalize hτ : (sI (sG (sG (sG (sG (sG σ 0 0) 39 v1) 40 v2) 46 0) 47 0) 37 0 0 : rS) = σ6 at H6
  have i6 : ∀ j i, j ≠ 37 → ia σ6 j i = ia σ j i := fun j i hj => by
    rw [← hτ]
    exact sI_nj hj
  have i37 : ia σ6 37 0 = 0 := by
    rw [← hτ]
    exact sI_eq
  have j6 : ∀ j i, ja σ6 j i = ja σ j i := fun j i => by
    rw [← hτ]
  have g00 : σ6.1 0 = 0 := by
    rw [← hτ]
    show (sG (sG (sG (sG (sG σ 0 0) 39 v1) 40 v2) 46 0) 47 0).1 0 = 0
    exact (sG_ne (by omega)).trans ((sG_ne (by omega)).trans ((sG_ne (by omega)).trans ((sG_ne (by omega)).trans sG_eq)))
  have g39 : σ6.1 39 = v1 := by
    rw [← hτ]
    show (sG (sG (sG (sG (sG σ 0 0) 39 v1) 40 v2) 46 0) 47 0).1 39 = v1
    exact (sG_ne (by omega)).trans ((sG_ne (by omega)).trans ((sG_ne (by omega)).trans sG_eq))
  have g40 : σ6.1 40 = v2 := by
    rw [← hτ]
    show (sG (sG (sG (sG (sG σ 0 0) 39 v1) 40 v2) 46 0) 47 0).1 40 = v2
    exact (sG_ne (by omega)).trans ((sG_ne (by omega)).trans sG_eq)
  have g46 : σ6.1 46 = 0 := by
    rw [← hτ]
    show (sG (sG (sG (sG (sG σ 0 0) 39 v1) 40 v2) 46 0) 47 0).1 46 = 0
    exact (sG_ne (by omega)).trans sG_eq
  have g47 : σ6.1 47 = 0 := by
    rw [← hτ]
    show (sG (sG (sG (sG (sG σ 0 0) 39 v1) 40 v2) 46 0) 47 0).1 47 = 0
    exact sG_eq
  have G6 : sm (QZ pp fv V.2.2.2) σ σ6 := by
    rw [← hτ]
    exact sm_I (sm_G (sm_G (sm_G (sm_G (sm_G sm_0 (by unfold QZ; omega)) (by unfold QZ; omega)) (by unfold QZ QY; omega)) (by unfold QZ QY QX; omega)) (by unfold QZ QY QX; omega)) (by unfold QZ QY QX; omega)
  clear hτ H5 H4 H3 H2 H1
  have A6 : TA r.2.2.2.2 σ6 := by
    refine ⟨⟨by rw [g46, t0.1]; rfl, by rw [g47, t0.2]; rfl, by omega, by omega⟩, fun i hi => by omega, by rw [t0.1, i37, t0.2]; rfl, fun w hw => by omega⟩
  have S6 : BS V B fv pp ht r.1 r.2.2.1 r.2.2.2.1 r.2.2.2.2 F σ6 := ⟨BT_new SG UV hB i6 (j6 4) (by rw [g39]; exact hp) A6, FX_e X (i6 26 _ (by omega)) (fun i => i6 27 i (by omega)) (fun i => i6 28 i (by omega)) (fun i => j6 29 i) (fun i => j6 30 i)⟩
  refine wq_at H6.1 (wq_cI (r_go (d := d) GG GR HH hb hu (by rw [i6 17 _ (by omega)]; exact UV.2.2.2.2.1) ⟨S6, hN, by rw [g40]; exact hn, (i6 23 _ (by omega)).trans h23, sm_0, K, hA⟩ H6) fun y h7 p => ?_)
  obtain ⟨rfl, σ7, H7, G7, T7, s7, w7⟩ := p
  have G07 : sm (QZ pp fv V.2.2.2) σ σ7 := sm_tr G6 G7 (fun _ _ q => Or.inl q)
  have p7 := T7.2.2.2.1.1
  have z7 : σ7.1 0 = 0 := (G7.1 0 (fun q => by unfold QY QX at q; omega)).trans g00
  refine wq_at H7.1 (wq_cV (r_ended (y := (pRun V n r).1) H7 p7 p64) fun h8 q8 => ?_)
  obtain ⟨x21, x22, H8⟩ := q8
  -- the state after all
  have fin : ∀ σ8 : rS, RH m σ8 bb h8 → σ8.1 0 = 0 → sm (QZ pp fv V.2.2.2) σ σ8 → BT V B fv pp (pRun V n r).2.1 (pRun V n r).2.2.2.2.2 σ8 → ia σ8 20 pp = (pRun V n r).1 → ((pRun V n r).1 = 1 → ia σ8 23 pp = (pRun V n r).2.2.1.2.2.2.1 ∧ (∃ F2, BS V B fv pp ht (pRun V n r).2.1 (pRun V n r).2.2.2.1 (pRun V n r).2.2.2.2.1 (pRun V n r).2.2.2.2.2 F2 σ8 ∧ nrm V.1 F2 = ((pRun V n r).2.2.1.2.2.2.2.1, (pRun V n r).2.2.1.2.2.2.2.2.1)) ∧ (ia σ8 24 pp).toInt = B + (pRun V n r).2.2.1.2.2.2.2.2.2.1.toInt ∧ ja σ8 25 pp = (pRun V n r).2.2.1.2.2.2.2.2.2.2) → wq (ah_gR h8 (some m) 11 28 fun r12 => ah_lI h8 r12 100 v1 fun e13 => some (.inl (some (.inl e13)), h8)) (rI (rrM m bb V B fv pp ht σ (pRun V n r))) := by
    intro σ8 H8 z8 G8 T8 e20 w8
    refine wq_gR H8.1 rfl (ra_I H8 (j := 20) (by omega) rfl rfl (by omega) (by show _ < (64 : Int); omega) ?_)
    rw [show v1.toInt.toNat = pp by omega, e20]
    exact wq_some (rI_i ⟨rfl, σ8, H8, z8, G8, T8, e20, w8⟩)
  by_cases c3 : (pRun V n r).1 = 3
  · rw [if_pos c3] at H8
    refine fin _ H8 z7 (sm_I (sm_I (sm_I G07 (by unfold QZ; omega)) (by unfold QZ; omega)) (by unfold QZ; omega)) (BT_20 (BT_20 (BT_20 T7 (by omega)) (by omega)) (by omega)) ((sI_nj (by omega)).trans ((sI_nj (by omega)).trans sI_eq)) (fun q => ?_)
    rw [c3] at q
    exact absurd q (by decide)
  · rw [if_neg c3] at H8
    refine fin _ H8 z7 (sm_I G07 (by unfold QZ; omega)) (BT_20 T7 (by omega)) sI_eq (fun q => ?_)
    obtain ⟨⟨F2, S2, N2⟩, a24, a25⟩ := w7 q
    refine ⟨(sI_nj (by omega)).trans s7, ⟨F2, BS_24 S2 (by omega), N2⟩, ?_, a25⟩
    rw [sI_nj (by omega)]
    exact a24
end Yx
