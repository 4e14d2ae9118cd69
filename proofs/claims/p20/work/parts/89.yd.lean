/-! THE REFERENCE'S STATEMENTS: finding -/
def BS (V : ENV) (B fv pp : Nat) (ht : Nat → Nat) (e : Nat → TS) (a b : Nat → Int64) (td : TD) (F : FL) (σ : rS) : Prop := BT V B fv pp e td σ ∧ FX V.1 B pp ht a b F σ
def KQ (V : ENV) (kS kV : Nat → Int32 × Int32) (e : Nat → TS) : Prop := PO V.1 ∧ KC V.2.1 kS V.2.2.1 ∧ KC V.2.2.2 kV e
abbrev EVe (V : ENV) (e : Nat → TS) (v : Int32) : Option WD := ev V.1 V.2.2.1 e 101 v
section Yd
variable {lim : Nat × Nat} {d m n B fv pp : Nat} {V : ENV} {ht : Nat → Nat} {a b : Nat → Int64} {F : FL} {σ σ' σ0 : rS} {bb h h' h1 : ah_H} {e : Nat → TS} {td : TD} {kS kV : Nat → Int32 × Int32} {v k k2 l p R : Int32} {Φ : ah_R → Prop} {A Bk : ah_H → Option ah_R} {w : WD}
theorem BS_sm {r : Nat} (S : BS V B fv pp ht e a b td F σ) (G : sm (fQ r) σ σ') (hr : 9844 ≤ r) (hb : byE σ') : BS V B fv pp ht e a b td F σ' := ⟨BT_sm S.1 G hr hb, FX_sm S.2 G⟩
theorem BS_G {j : Nat} {x : Int32} (S : BS V B fv pp ht e a b td F σ) (hj : j ≠ 39 ∧ j ≠ 46 ∧ j ≠ 47) : BS V B fv pp ht e a b td F (sG σ j x) := by
  have e39 : (sG σ j x).1 39 = σ.1 39 := sG_ne (fun q => hj.1 q.symm)
  have e46 : (sG σ j x).1 46 = σ.1 46 := sG_ne (fun q => hj.2.1 q.symm)
  have e47 : (sG σ j x).1 47 = σ.1 47 := sG_ne (fun q => hj.2.2 q.symm)
  obtain ⟨⟨b1, ⟨c1, c2⟩, b3, b4, b5, a1, a2⟩, x1⟩ := S
  refine ⟨⟨b1, ⟨?_, c2⟩, b3, ?_, b5, ?_, a2⟩, FX_e x1 rfl (fun _ => rfl) (fun _ => rfl) (fun _ => rfl) (fun _ => rfl)⟩
  · rw [e39]
    exact c1
  · rw [e39]
    exact b4
  · rw [e46, e47]
    exact a1
theorem BS_L {j : Nat} {x : Int64} (S : BS V B fv pp ht e a b td F σ) : BS V B fv pp ht e a b td F (sL σ j x) := ⟨S.1, FX_e S.2 rfl (fun _ => rfl) (fun _ => rfl) (fun _ => rfl) (fun _ => rfl)⟩
theorem QX_m {r : Nat} (hr : 9344 ≤ r) (G0 : sm (QX pp fv V.2.2.2) σ0 σ) (G : sm (fQ r) σ σ') : sm (QX pp fv V.2.2.2) σ0 σ' := sm_tr G0 G (QX_f hr)
theorem rq_find {r : Nat} (K : KQ V kS kV e) (H : RH m σ bb h) (S : BS V B fv pp ht e a b td F σ) (G0 : sm (QX pp fv V.2.2.2) σ0 σ) (g : gEV V kS kV v) (hk : k.toInt = B + v.toInt) (hR : R.toInt = r) (hr : 9872 ≤ r) (hr2 : r ≤ 9980) (kn : EVe V e v = none → ∀ σ' h', RH m σ' bb h' → BS V B fv pp ht e a b td F σ' → sm (QX pp fv V.2.2.2) σ0 σ' → wq (A h') Φ) (ks : ∀ w σ' h', EVe V e v = some w → RH m σ' bb h' → BS V B fv pp ht e a b td F σ' → sm (QX pp fv V.2.2.2) σ0 σ' → sm (fQ r) σ σ' → RW σ' r w → WF w → wq (Bk h') Φ) : wq (ah_at h (some m) 11 fun _ _ => ah_cI (vc lim (d + 208) 75 [aR m, aI k, aI R] h) (nx h1) fun y h' => if y = 0 then A h' else Bk h') Φ := by
  obtain ⟨P, C1, C2⟩ := K
  refine wq_at H.1 (wq_cI (r_find P C1 C2 101 v k R r (d + 208) σ h g hk hR (by omega) (by omega) (by omega) H S.1.2.2.1 S.1.1 S.1.2.1) ?_)
  rintro y h2 ⟨σ', H', b', G', q⟩
  have S' := BS_sm S G' (by omega) b'
  have G1 := QX_m (by omega) G0 G'
  cases ee : ev V.1 V.2.2.1 e 101 v with
  | none =>
    rw [ee] at q
    rw [show y = 0 from q]
    exact wq_t rfl (kn ee σ' h2 H' S' G1)
  | some w =>
    rw [ee] at q
    obtain ⟨rfl, q⟩ := q
    exact wq_f (by decide) (ks w σ' h2 ee H' S' G1 G' q (ev_WF S.1.2.1 C1 C2 101 v w g ee))
theorem RW_is {r : Nat} (hk : RW σ r w) : ia σ 0 r = wI w := hk.1
/-- a number that was found -/
theorem rq_n {K : Int64 → Option ah_R} {r : Nat} (H : RH m σ bb h) (hR : R.toInt = r) (hr : r < 10100) (q : RW σ r w) (h2 : wI w = 2) (k : wq (K (wN w)) Φ) : wq (ah_gR h (some m) 11 5 fun r1 => ah_lJ h r1 101 R K) Φ := wq_gR H.1 rfl (rd4 H hR hr (by rw [(q.2.1 h2).2]; exact k))
theorem rq_is {K : Int32 → Option ah_R} {r : Nat} (H : RH m σ bb h) (hR : R.toInt = r) (hr : r < 10100) (q : RW σ r w) (k : wq (K (wI w)) Φ) : wq (ah_gR h (some m) 11 1 fun r1 => ah_lI h r1 103 R K) Φ := wq_gR H.1 rfl (rd0 H hR hr (by rw [q.1]; exact k))
/-- a fault -/
theorem rq_fail {K : Int32 → ah_H → Option ah_R} (H : RH m σ bb h) (S : BS V B fv pp ht e a b td F σ) (G0 : sm (QX pp fv V.2.2.2) σ0 σ) (c : ∀ σ' h', RH m σ' bb h' → BS V B fv pp ht e a b td F σ' → sm (QX pp fv V.2.2.2) σ0 σ' → wq (K 0 h') Φ) : wq (ah_at h (some m) 11 fun _ _ => ah_cI (vc lim (d + 1) 63 [aR m, aI k, aI k2] h) (nx h1) K) Φ := by
  refine wq_at H.1 (wq_cI (r_fail H) ?_)
  rintro y h2 ⟨rfl, H2⟩
  exact c _ h2 H2 (BS_G (BS_G S ⟨by omega, by omega, by omega⟩) ⟨by omega, by omega, by omega⟩) (sm_G (sm_G G0 (by unfold QX; omega)) (by unfold QX; omega))
theorem rq_cond (K : KQ V kS kV e) (H : RH m σ bb h) (S : BS V B fv pp ht e a b td F σ) (G0 : sm (QX pp fv V.2.2.2) σ0 σ) (g : gEV V kS kV v) (hk : k.toInt = B + v.toInt) (kn : pNo (EVe V e v) = none → ∀ σ' h', RH m σ' bb h' → BS V B fv pp ht e a b td F σ' → sm (QX pp fv V.2.2.2) σ0 σ' → wq (A h') Φ) (ks : ∀ w σ' h', pNo (EVe V e v) = some w → RH m σ' bb h' → BS V B fv pp ht e a b td F σ' → sm (QX pp fv V.2.2.2) σ0 σ' → RW σ' 9872 w → WF w → wI w = 2 → wq (Bk h') Φ) : wq (ah_at h (some m) 11 fun _ _ => ah_cI (vc lim (d + 209) 94 [aR m, aI k, aI k2] h) (nx h1) fun y h' => if y = 0 then A h' else Bk h') Φ := by
  have fin : wq (vc lim (d + 209) 94 [aR m, aI k, aI k2] h) (rI fun y h' => (y = 0 ∧ wq (A h') Φ) ∨ (y = 1 ∧ wq (Bk h') Φ)) := by
    refine wq_eq e_Ref_condition (rq_find K H S G0 g hk (r := 9872) rfl (by omega) (by omega) (fun ee σ' h2 H2 S2 G2 => wq_t (Or.inl rfl) (wq_some (rI_i (Or.inl ⟨rfl, kn (by rw [ee]; rfl) σ' h2 H2 S2 G2⟩)))) (fun w σ' h2 ee H2 S2 G2 _ q2 W2 => rq_is (r := 9872) H2 rfl (by omega) q2 (wq_if _ (fun c2 => ?_) (fun c2 => ?_))))
    · exact wq_t (by decide) (wq_some (rI_i (Or.inr ⟨rfl, ks w σ' h2 (by rw [ee]; exact if_pos c2) H2 S2 G2 q2 W2 c2⟩)))
    · refine rq_fail H2 S2 G2 (fun σ3 h3 H3 S3 G3 => wq_t rfl (wq_t (Or.inl rfl) (wq_some (rI_i (Or.inl ⟨rfl, kn (by rw [ee]; exact if_neg c2) σ3 h3 H3 S3 G3⟩)))))
  refine wq_at H.1 (wq_cI fin ?_)
  rintro y h2 (⟨rfl, q⟩ | ⟨rfl, q⟩)
  · exact wq_t rfl q
  · exact wq_f (by decide) q
/-- a time -/
theorem rq_time (K : KQ V kS kV e) (H : RH m σ bb h) (S : BS V B fv pp ht e a b td F σ) (G0 : sm (QX pp fv V.2.2.2) σ0 σ) (g : gTV V kS kV v) (hk : k.toInt = B + v.toInt) (kn : EVe V e v = none → ∀ σ' h', RH m σ' bb h' → BS V B fv pp ht e a b td F σ' → sm (QX pp fv V.2.2.2) σ0 σ' → wq (A h') Φ) (ks : ∀ w σ' h', EVe V e v = some w → RH m σ' bb h' → BS V B fv pp ht e a b td F σ' → sm (QX pp fv V.2.2.2) σ0 σ' → sm (fun j i => fQ 9872 j i ∨ (j = 101 ∧ i = 45)) σ σ' → σ'.2.1 45 = wN w → wq (Bk h') Φ) : wq (ah_at h (some m) 11 fun _ _ => ah_cI (vc lim (d + 209) 100 [aR m, aI k] h) (nx h1) fun y h' => if y = 0 then A h' else Bk h') Φ := by
  obtain ⟨hv, g⟩ := g
  have sL0 : ∀ z, sm (fun j i => fQ 9872 j i ∨ (j = 101 ∧ i = 45)) σ (sL σ 45 z) := fun z => sm_L sm_0 (Or.inr ⟨rfl, rfl⟩)
  have fin : wq (vc lim (d + 209) 100 [aR m, aI k] h) (rI fun y h' => (y = 0 ∧ wq (A h') Φ) ∨ (y = 1 ∧ wq (Bk h') Φ)) := by
    refine wq_eq e_Ref_findTime (rw_J H (by omega) rfl (fun h2 H2 => ?_))
    have S2 : BS V B fv pp ht e a b td F (sL σ 45 0) := BS_L S
    have G2 : sm (QX pp fv V.2.2.2) σ0 (sL σ 45 0) := sm_L G0 (by unfold QX; omega)
    rcases g with ⟨g1, g2⟩ | ⟨g1, g2, g3, g4, g5⟩
    · refine rN8 H2 hk S2.1.1 hv g1 (wq_t rfl (wq_t (by decide) (wq_some (rI_i (Or.inr ⟨rfl, ks (pNum 0) _ h2 (ev_0 g1) H2 S2 G2 (sL0 0) ?_⟩)))))
      show up1 σ.2.1 45 0 45 = _
      rw [up1_eq]
      rfl
    · have es : EVe V e v = (ev V.1 V.2.2.1 e 100 (kC V.1 v 0)).bind fun w => pTime (kf V.1 1 v) w := ev_32 g1
      obtain ⟨P, C1, C2⟩ := K
      refine rN8 H2 hk S2.1.1 hv g1 (wq_f (by decide) (rN11 H2 hk S2.1.1 hv (fun c hc0 hc1 => ?_)))
      have hc := hc1 (by rw [g2]; decide)
      refine wq_at H2.1 (wq_cI (r_find P C1 C2 100 (kC V.1 v 0) c 9872 9872 (d + 208) _ h2 g5 hc rfl (by omega) (by omega) (by omega) H2 S2.1.2.2.1 S2.1.1 S2.1.2.1) ?_)
      rintro y h3 ⟨σ3, H3, b3, G3, q⟩
      have S3 := BS_sm S2 G3 (by omega) b3
      have G4 := QX_m (by omega) G2 G3
      have G5 : sm (fun j i => fQ 9872 j i ∨ (j = 101 ∧ i = 45)) σ σ3 := sm_tr (sL0 0) G3 (fun j i q => Or.inl q)
      cases ee : ev V.1 V.2.2.1 e 100 (kC V.1 v 0) with
      | none =>
        rw [ee] at q es
        rw [show y = 0 from q]
        exact wq_t rfl (wq_t (Or.inl rfl) (wq_some (rI_i (Or.inl ⟨rfl, kn es σ3 h3 H3 S3 G4⟩))))
      | some w =>
        rw [ee] at q es
        have es : EVe V e v = pTime (kf V.1 1 v) w := es
        unfold pTime at es
        obtain ⟨rfl, q⟩ := q
        refine wq_f (by decide) (rq_is (r := 9872) H3 rfl (by omega) q (wq_if _ (fun c2 => ?_) (fun c2 => ?_)))
        · rw [if_pos c2] at es
          refine rq_n (r := 9872) H3 rfl (by omega) q c2 (wq_if _ (fun c3 => ?_) (fun c3 => ?_))
          · rw [lgv_lt] at c3
            rw [if_pos c3] at es
            exact rq_fail H3 S3 G4 (fun σ5 h5 H5 S5 G5 => wq_t (Or.inl rfl) (wq_some (rI_i (Or.inl ⟨rfl, kn es σ5 h5 H5 S5 G5⟩))))
          · rw [lgv_lt] at c3
            rw [if_neg c3] at es
            refine rq_n (r := 9872) H3 rfl (by omega) q c2 (rN9 H3 hk S3.1.1 hv (rw_J H3 (by omega) rfl (fun h6 H6 => wq_t (by decide) (wq_some (rI_i (Or.inr ⟨rfl, ks _ _ h6 es H6 (BS_L S3) (sm_L G4 (by unfold QX; omega)) (sm_L G5 (Or.inr ⟨rfl, rfl⟩)) ?_⟩))))))
            show up1 σ3.2.1 45 _ 45 = _
            rw [up1_eq]
            rfl
        · rw [if_neg c2] at es
          exact rq_fail H3 S3 G4 (fun σ5 h5 H5 S5 G5 => wq_t (Or.inl rfl) (wq_some (rI_i (Or.inl ⟨rfl, kn es σ5 h5 H5 S5 G5⟩))))
  refine wq_at H.1 (wq_cI fin ?_)
  rintro y h2 (⟨rfl, q⟩ | ⟨rfl, q⟩)
  · exact wq_t rfl q
  · exact wq_f (by decide) q
end Yd
