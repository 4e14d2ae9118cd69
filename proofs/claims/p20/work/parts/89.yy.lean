/-! THE REFERENCE'S holds -/
def rhM (m : Nat) (bb : ah_H) (V : ENV) (B fv pp : Nat) (ht : Nat → Nat) (r : RST) (F : FL) (σ : rS) (o : Option Int32) (y : Int32) (h' : ah_H) : Prop := ∃ σ', RH m σ' bb h' ∧ σ'.1 0 = 0 ∧ sm (QZ pp fv V.2.2.2) σ σ' ∧ match o with
  | some y' => y = y' ∧ (σ' = sG σ 0 0 ∨ (BS V B fv pp ht r.1 r.2.2.1 r.2.2.2.1 r.2.2.2.2 F σ' ∧ ia σ' 20 pp = ia σ 20 pp ∧ ia σ' 23 pp = ia σ 23 pp ∧ ia σ' 24 pp = ia σ 24 pp ∧ ja σ' 25 pp = ja σ 25 pp))
  | none => y = 2 ∧ BT V B fv pp r.1 r.2.2.2.2 σ' ∧ ia σ' 20 pp = 3
section Yy
variable {lim : Nat × Nat} {d m n N B fv pp nU : Nat} {V : ENV} {ht : Nat → Nat} {a b : Nat → Int64} {F : FL} {σ σ' σ0 : rS} {bb h h' h1 : ah_H} {td : TD} {kS kV : Nat → Int32 × Int32} {v c k k2 c0 l s v1 v2 y bo : Int32} {Φ : ah_R → Prop} {T : KT} {r r' : RST} {e : Nat → TS} {A Bk : ah_H → Option ah_R}
theorem rq_cond' (K : KQ V kS kV e) (H : RH m σ bb h) (S : BS V B fv pp ht e a b td F σ) (G0 : sm (QX pp fv V.2.2.2) σ0 σ) (g : gEV V kS kV v) (hk : k.toInt = B + v.toInt) (kn : pNo (EVe V e v) = none → ∀ σ' h', RH m σ' bb h' → BS V B fv pp ht e a b td F σ' → sm (QX pp fv V.2.2.2) σ0 σ' → wq (A h') Φ) (ks : ∀ w σ' h', pNo (EVe V e v) = some w → RH m σ' bb h' → BS V B fv pp ht e a b td F σ' → sm (QX pp fv V.2.2.2) σ0 σ' → RW σ' 9872 w → WF w → wI w = 2 → sm (fQ 9872) σ σ' → wq (Bk h') Φ) : wq (ah_at h (some m) 11 fun _ _ => ah_cI (vc lim (d + 209) 94 [aR m, aI k, aI k2] h) (nx h1) fun y h' => if y = 0 then A h' else Bk h') Φ := by
  have fin : wq (vc lim (d + 209) 94 [aR m, aI k, aI k2] h) (rI fun y h' => (y = 0 ∧ wq (A h') Φ) ∨ (y = 1 ∧ wq (Bk h') Φ)) := by
    refine wq_eq e_Ref_condition (rq_find K H S G0 g hk (r := 9872) rfl (by omega) (by omega) (fun ee σ' h2 H2 S2 G2 => wq_t (Or.inl rfl) (wq_some (rI_i (Or.inl ⟨rfl, kn (by rw [ee]; rfl) σ' h2 H2 S2 G2⟩)))) (fun w σ' h2 ee H2 S2 G2 f2 q2 W2 => rq_is (r := 9872) H2 rfl (by omega) q2 (wq_if _ (fun c2 => ?_) (fun c2 => ?_))))
    · exact wq_t (by decide) (wq_some (rI_i (Or.inr ⟨rfl, ks w σ' h2 (by rw [ee]; exact if_pos c2) H2 S2 G2 q2 W2 c2 f2⟩)))
    · refine rq_fail H2 S2 G2 (fun σ3 h3 H3 S3 G3 => wq_t rfl (wq_t (Or.inl rfl) (wq_some (rI_i (Or.inl ⟨rfl, kn (by rw [ee]; exact if_neg c2) σ3 h3 H3 S3 G3⟩)))))
  refine wq_at H.1 (wq_cI fin ?_)
  rintro y h2 (⟨rfl, q⟩ | ⟨rfl, q⟩)
  · exact wq_t rfl q
  · exact wq_f (by decide) q
theorem r_holds (GG : GK V kS kV) (GR : ∀ v, rgN V.1 v → gSr V kS kV v) (SG : SGx V.2.1 V.2.2.1 σ) (UV : UVx V.1 V.2.2.2 B fv pp r.1 σ) (hB : byE σ) (A0 : TA r.2.2.2.2 σ) (X : FX V.1 B pp ht r.2.2.1 r.2.2.2.1 F σ) (K : KQ V kS kV r.1) (h20 : ia σ 20 pp = 1) (hU : (σ.1 23).toInt = nU) (hp : v1.toInt = pp) (hpU : pp < nU) (hv : rgN V.1 v) (h44 : kf V.1 0 v = 44) (h24 : (ia σ 24 pp).toInt = B + v.toInt) (H : RH m σ bb h) : wq (vc lim (d + 210) 110 [aR m, aI v1] h) (rI (rhM m bb V B fv pp ht r F σ (sHold V r v))) := by
  have P := K.1
  have p64 := UV.2.2.1
  have ix : v1.toInt.toNat = pp := by omega
  obtain ⟨m3, -⟩ := (GG.2.2.2.1 v hv).2.2.2.2.2.2.2.2.1 h44
  obtain ⟨ge, -⟩ := (GR v hv).2.2.2.2.2.2.2.2.1 h44
  have m0 : 0 < (kf V.1 6 v).toInt := by rw [m3]; decide
  have m1 : ((0 : Nat) : Int) + 1 < (kf V.1 6 v).toInt := by rw [m3]; decide
  have hc := (po_k P hv (i := 1) (by rw [m3]; decide)).1
  refine wq_eq q_110_0 (r_absent H hU (fun q => absurd (show 0 ≤ v1.toInt ∧ v1.toInt < nU by omega) q) (fun _ => wq_t rfl (wq_gR H.1 rfl (ra_I H (j := 20) (by omega) rfl rfl (by omega) (by show _ < (64 : Int); omega) ?_))))
  rw [ix]
  refine wq_t h20 (wq_eq q_110_28 (rw_I H (by omega) rfl (fun h1 H1 => wq_gI H1.1 rfl (wq_t (by rw [sG_eq]; decide) ?_))))
  have N1 : NB V.1 B (sG σ 0 0) := UV.1
  have G1 : sm (QZ pp fv V.2.2.2) σ (sG σ 0 0) := sm_G sm_0 (by unfold QZ; omega)
  have c109 : wq (vc lim (d + 209) 109 [aR m, aI v1] h1) (rI fun x h' => h' = h1 ∧ x.toInt = B + (kC V.1 v 1).toInt) := by
    refine wq_eq q_109_0 (wq_gR H1.1 rfl (wq_gR H1.1 rfl (wq_gR H1.1 rfl (ra_I H1 (j := 24) (by omega) rfl rfl (by omega) (by show _ < (64 : Int); omega) ?_))))
    rw [ix]
    exact rd_c H1 h24 N1 hv m0 (fun e5 h5 => rd_x (i := 0) P H1 N1 hv m1 h5 (fun e6 h6 => wq_some (rI_i ⟨rfl, h6⟩)))
  refine wq_at H1.1 (wq_cI c109 fun i4 h2 p => ?_)
  obtain ⟨eh, hi4⟩ := p
  subst eh
  refine wq_gR H1.1 rfl (rd_k H1 hi4 N1 hc (wq_if _ (fun c0 => ?_) (fun c0 => ?_)))
  · rw [show sHold V r v = some 1 from if_pos c0]
    exact wq_some (rI_i ⟨_, H1, sG_eq, G1, rfl, Or.inl rfl⟩)
  have es : sHold V r v = (pNo (EVL V r (kC V.1 v 1))).map fun w => if wN w = 0 then 0 else 1 := if_neg c0
  refine rw_I H1 (by omega) rfl (fun h3 H3 => ?_)
  have g39 : ((sG (sG σ 0 0) 39 v1).1 39).toInt = pp := by
    rw [sG_eq]
    exact hp
  have A3 : TA r.2.2.2.2 (sG (sG σ 0 0) 39 v1) := by
    obtain ⟨a1, a2⟩ := A0
    refine ⟨?_, a2⟩
    rw [show (sG (sG σ 0 0) 39 v1).1 46 = σ.1 46 from (sG_ne (by omega)).trans (sG_ne (by omega)), show (sG (sG σ 0 0) 39 v1).1 47 = σ.1 47 from (sG_ne (by omega)).trans (sG_ne (by omega))]
    exact a1
  have S3 : BS V B fv pp ht r.1 r.2.2.1 r.2.2.2.1 r.2.2.2.2 F (sG (sG σ 0 0) 39 v1) := ⟨BT_new SG UV hB (fun _ _ _ => rfl) (fun _ => rfl) g39 A3, FX_e X rfl (fun _ => rfl) (fun _ => rfl) (fun _ => rfl) (fun _ => rfl)⟩
  have G3 : sm (QZ pp fv V.2.2.2) σ (sG (sG σ 0 0) 39 v1) := sm_G G1 (by unfold QZ; omega)
  refine wq_gR H3.1 rfl (ra_I H3 (j := 24) (by omega) rfl rfl (by omega) (by show _ < (64 : Int); omega) ?_)
  have up : ∀ {σ4 : rS}, sm (QX pp fv V.2.2.2) (sG (sG σ 0 0) 39 v1) σ4 → sm (QZ pp fv V.2.2.2) σ σ4 := fun G4 => sm_tr G3 G4 (fun _ _ q => Or.inl (Or.inl q))
  have z4 : ∀ {σ4 : rS}, sm (QX pp fv V.2.2.2) (sG (sG σ 0 0) 39 v1) σ4 → σ4.1 0 = 0 := fun G4 => (G4.1 0 (fun q => by unfold QX at q; omega)).trans ((sG_ne (by omega)).trans sG_eq)
  refine rq_cond' (σ0 := sG (sG σ 0 0) 39 v1) K H3 S3 sm_0 (ge.resolve_left c0) hi4 (fun ee σ4 h4 H4 S4 G4 => ?_) (fun w σ4 h4 ee H4 S4 G4 q9 W9 w2 f4 => ?_)
  · refine wq_at H4.1 (wq_cV (r_ended (y := 3) H4 S4.1.2.2.2.1.1 p64) fun h5 q5 => ?_)
    obtain ⟨x21, x22, H5⟩ := q5
    rw [if_pos rfl] at H5
    refine wq_some (rI_i ?_)
    rw [es, show pNo (EVL V r (kC V.1 v 1)) = none from ee]
    have z5 : σ4.1 0 = 0 := z4 G4
    exact ⟨_, H5, z5, sm_I (sm_I (sm_I (up G4) (by unfold QZ; omega)) (by unfold QZ; omega)) (by unfold QZ; omega), rfl, BT_20 (BT_20 (BT_20 S4.1 (by omega)) (by omega)) (by omega), (sI_nj (by omega)).trans ((sI_nj (by omega)).trans sI_eq)⟩
  · have kp : ∀ j i, 6 ≤ j → j < 100 → ia σ4 j i = ia σ j i := fun j i h1 h2 => f4.2.2.1 j i (fun q => by unfold fQ at q; omega)
    have kj : ja σ4 25 pp = ja σ 25 pp := f4.2.2.2 25 pp (fun q => by unfold fQ at q; omega)
    have fin : ∀ y : Int32, sHold V r v = some y → rhM m bb V B fv pp ht r F σ (sHold V r v) y h4 := fun y ey => by
      rw [ey]
      exact ⟨σ4, H4, z4 G4, up G4, rfl, Or.inr ⟨S4, kp 20 pp (by omega) (by omega), kp 23 pp (by omega) (by omega), kp 24 pp (by omega) (by omega), kj⟩⟩
    have es' : sHold V r v = some (if wN w = 0 then 0 else 1) := by rw [es, show pNo (EVL V r (kC V.1 v 1)) = some w from ee]; rfl
    refine rq_n (r := 9872) H4 rfl (by omega) q9 w2 (wq_if _ (fun c1 => ?_) (fun c1 => ?_))
    · rw [lg_eq] at c1
      exact wq_some (rI_i (fin 0 (es'.trans (by rw [if_pos c1]))))
    · rw [lg_eq] at c1
      exact wq_some (rI_i (fin 1 (es'.trans (by rw [if_neg c1]))))
end Yy
