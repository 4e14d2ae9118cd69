/-! THE REFERENCE'S STATEMENTS: targets -/
section Yg
variable {lim : Nat × Nat} {d m n B fv pp : Nat} {V : ENV} {ht : Nat → Nat} {a b : Nat → Int64} {F : FL} {σ σ' σ0 : rS} {bb h h' h1 : ah_H} {td td' : TD} {kS kV : Nat → Int32 × Int32} {v k k2 l R kk : Int32} {Φ : ah_R → Prop} {A Bk : ah_H → Option ah_R} {w : WD} {r : RST} {T : KT} {p : Int32 × Int32 × Int32}
theorem rd_k {K1 : Int32 → Option ah_R} (H : RH m σ bb h) (hk : k.toInt = B + v.toInt) (N : NB T B σ) (hv : rgN T v) (c : wq (K1 (kf T 0 v)) Φ) : wq (ah_lI h (some (m + 1 + 8)) 100 k K1) Φ := rdN (j := 8) H (by omega) hk N hv (by rw [(N.2 v hv).1]; exact c)
theorem rd_g {K1 : Int32 → Option ah_R} (H : RH m σ bb h) (hk : k.toInt = B + v.toInt) (N : NB T B σ) (hv : rgN T v) (c : wq (K1 (kf T 1 v)) Φ) : wq (ah_lI h (some (m + 1 + 9)) 100 k K1) Φ := rdN (j := 9) H (by omega) hk N hv (by rw [(N.2 v hv).2.1]; exact c)
theorem rd_c {K1 : Int32 → Option ah_R} (H : RH m σ bb h) (hk : k.toInt = B + v.toInt) (N : NB T B σ) (hv : rgN T v) (hm : 0 < (kf T 6 v).toInt) (c : ∀ a : Int32, a.toInt = B + (kC T v 0).toInt → wq (K1 a) Φ) : wq (ah_lI h (some (m + 1 + 11)) 100 k K1) Φ := rdN (j := 11) H (by omega) hk N hv (c _ ((N.2 v hv).2.2.2.2.1 hm))
/-- the next child -/
theorem rd_x {K1 : Int32 → Option ah_R} {i : Nat} (P : PO T) (H : RH m σ bb h) (N : NB T B σ) (hv : rgN T v) (hi : (i : Int) + 1 < (kf T 6 v).toInt) (hk : k.toInt = B + (kC T v i).toInt) (c : ∀ a : Int32, a.toInt = B + (kC T v (i + 1)).toInt → wq (K1 a) Φ) : wq (ah_lI h (some (m + 1 + 12)) 100 k K1) Φ := rN12' H N hv (by omega) (po_k P hv (by omega)).1 hk (fun a ha => c a (by rw [ha, if_pos hi]))
theorem rd_z {K1 : Int32 → Option ah_R} {i : Nat} (P : PO T) (H : RH m σ bb h) (N : NB T B σ) (hv : rgN T v) (hi : (i : Int) + 1 = (kf T 6 v).toInt) (hk : k.toInt = B + (kC T v i).toInt) (c : wq (K1 (-1)) Φ) : wq (ah_lI h (some (m + 1 + 12)) 100 k K1) Φ := rN12' H N hv (by omega) (po_k P hv (by omega)).1 hk (fun a ha => by rw [if_neg (by omega)] at ha; rw [eq_m1 ha]; exact c)
theorem th_wh {o : Int32} : (thS V r o).1 = whW V.1 V.2.2.1 r.1 o := by
  unfold thS whW
  split <;> rfl
/-- a target is one of these -/
theorem gTh_o (k80 : kk = 80 ∨ kk = 81) (g : gTh V kS kV kk v) : gO' V.1 V.2.1 V.2.2.2 (ofT V.1 v) ∧ kf V.1 0 (ofT V.1 v) = kk := by
  obtain ⟨hv, ⟨g1, g2⟩ | ⟨g1, -, g2, g3, -⟩ | ⟨g1, -, g2, g3, -⟩⟩ := g
  · have : ¬ (kf V.1 0 v = 82 ∨ kf V.1 0 v = 83) := by
      rw [g1]
      rcases k80 with rfl | rfl <;> decide
    unfold ofT
    rw [if_neg this]
    exact ⟨g2, g1⟩
  · unfold ofT
    rw [if_pos (Or.inl g1)]
    exact ⟨g2, g3⟩
  · unfold ofT
    rw [if_pos (Or.inr g1)]
    exact ⟨g2, g3⟩
theorem gTh_r (k80 : kk = 80 ∨ kk = 81) (K : KQ V kS kV r.1) (g : gTh V kS kV kk v) (hq : kf V.1 0 v = 82 ∨ kf V.1 0 v = 83) : wI (thS V r (ofT V.1 v)).1 = 1 ∧ wL (thS V r (ofT V.1 v)).1 = (kOf V.1 kS kV (kC V.1 v 0)).2 := by
  obtain ⟨P, C1, C2⟩ := K
  have eo : ofT V.1 v = kC V.1 v 0 := if_pos hq
  rw [th_wh, eo]
  obtain ⟨hv, ⟨g1, g2⟩ | ⟨g1, -, g2, g3, g4, -⟩ | ⟨g1, -, g2, g3, g4, -⟩⟩ := g
  · rw [g1] at hq
    rcases k80 with rfl | rfl <;> exact absurd hq (by decide)
  · obtain ⟨q1, q2⟩ := whW_k (kS := kS) (kV := kV) C1 C2 g2
    exact ⟨q1.trans g4, q2⟩
  · obtain ⟨q1, q2⟩ := whW_k (kS := kS) (kV := kV) C1 C2 g2
    exact ⟨q1.trans g4, q2⟩
theorem rq_aim (k80 : kk = 80 ∨ kk = 81) (K : KQ V kS kV r.1) (H : RH m σ bb h) (S : BS V B fv pp ht r.1 a b td F σ) (G0 : sm (QX pp fv V.2.2.2) σ0 σ) (g : gTh V kS kV kk v) (hk : k.toInt = B + v.toInt) (kn : pAim V r v = none → ∀ σ' h', RH m σ' bb h' → BS V B fv pp ht r.1 a b td F σ' → sm (QX pp fv V.2.2.2) σ0 σ' → wq (A h') Φ) (ks : ∀ q σ' h', pAim V r v = some q → RH m σ' bb h' → BS V B fv pp ht r.1 a b td F σ' → sm (QX pp fv V.2.2.2) σ0 σ' → σ'.1 43 = q.2.1 → wq (Bk h') Φ) : wq (ah_at h (some m) 11 fun _ _ => ah_cI (vc lim (d + 209) 103 [aR m, aI k] h) (nx h1) fun y h' => if y = 0 then A h' else Bk h') Φ := by
  have P := K.1
  have hv := g.1
  have fin : wq (vc lim (d + 209) 103 [aR m, aI k] h) (rI fun y h' => (y = 0 ∧ wq (A h') Φ) ∨ (y = 1 ∧ wq (Bk h') Φ)) := by
    have G32 : ∀ x : Int32, (kf V.1 0 v = 83 → x = kf V.1 1 (kC V.1 v 1)) → (¬ kf V.1 0 v = 83 → x = 0) → wq (ah_val lim ah_P (d + 208) 103 32 [some (aR m), some (aI k)] [aI x, aR m] h) (rI fun y h' => (y = 0 ∧ wq (A h') Φ) ∨ (y = 1 ∧ wq (Bk h') Φ)) := by
      intro x x1 x2
      refine wq_eq q_103_32 (rw_I H (by omega) rfl (fun h2 H2 => ?_))
      have S2 : BS V B fv pp ht r.1 a b td F (sG σ 43 x) := BS_G S ⟨by omega, by omega, by omega⟩
      have G2 : sm (QX pp fv V.2.2.2) σ0 (sG σ 43 x) := sm_G G0 (by unfold QX; omega)
      refine wq_gR H2.1 rfl (rd_k H2 hk S2.1.1 hv (wq_if _ (fun c82 => ?_) (fun c82 => ?_)))
      · have n83 : ¬ kf V.1 0 v = 83 := by rw [c82]; decide
        have ea : pAim V r v = (EVL V r (kC V.1 v 1)).bind fun w => if wI w = 2 then if wN w < 0 then none else if wN w < (wL (thS V r (ofT V.1 v)).1).toInt64 then some (0, (wN w).toInt32, 1) else none else none := (if_neg n83).trans (if_pos c82)
        obtain ⟨r1, r2⟩ := gTh_r k80 K g (Or.inl c82)
        obtain ⟨-, ⟨g1, -⟩ | ⟨-, gm, go, -, -, ge⟩ | ⟨g1, -⟩⟩ := g
        · rw [c82] at g1
          rcases k80 with rfl | rfl <;> exact absurd g1 (by decide)
        · have m0 : 0 < (kf V.1 6 v).toInt := by rw [gm]; decide
          have m1 : ((0 : Nat) : Int) + 1 < (kf V.1 6 v).toInt := by rw [gm]; decide
          refine wq_gR H2.1 rfl (wq_gR H2.1 rfl (rd_c H2 hk S2.1.1 hv m0 (fun c0 hc0 => rd_x (i := 0) P H2 S2.1.1 hv m1 hc0 (fun c1 hc1 => ?_))))
          refine rq_find (r := 9872) K H2 S2 G2 ge hc1 rfl (by omega) (by omega) (fun ee σ3 h3 H3 S3 G3 => ?_) (fun w σ3 h3 ee H3 S3 G3 _ q3 W3 => ?_)
          · exact wq_t (Or.inl rfl) (wq_some (rI_i (Or.inl ⟨rfl, kn (by rw [ea, show EVL V r (kC V.1 v 1) = none from ee]; rfl) σ3 h3 H3 S3 G3⟩)))
          · have ea : pAim V r v = if wI w = 2 then if wN w < 0 then none else if wN w < (wL (thS V r (ofT V.1 v)).1).toInt64 then some (0, (wN w).toInt32, 1) else none else none := by rw [ea, show EVL V r (kC V.1 v 1) = some w from ee]; rfl
            refine rq_is (r := 9872) H3 rfl (by omega) q3 (wq_if _ (fun c2 => ?_) (fun c2 => ?_))
            · rw [if_pos c2] at ea
              refine rq_n (r := 9872) H3 rfl (by omega) q3 c2 (wq_if _ (fun c3 => ?_) (fun c3 => ?_))
              · rw [lgv_lt] at c3
                rw [if_pos c3] at ea
                exact rq_fail H3 S3 G3 (fun σ5 h5 H5 S5 G5 => wq_t (Or.inl rfl) (wq_some (rI_i (Or.inl ⟨rfl, kn ea σ5 h5 H5 S5 G5⟩))))
              · rw [lgv_lt] at c3
                rw [if_neg c3] at ea
                refine rq_n (r := 9872) H3 rfl (by omega) q3 c2 (wq_gR H3.1 rfl (wq_gR H3.1 rfl (rd_c H3 hk S3.1.1 hv m0 (fun c5 hc5 => wq_at H3.1 (wq_cI (r_where H3 S3.1.1 S3.1.2.1 go hc5) ?_)))))
                rintro o4 h4 ⟨eh, eo⟩
                subst eh
                obtain ⟨wb, wr, ww⟩ := wh_b S3.1.2.1 go
                have ew : whW V.1 V.2.2.1 r.1 (kC V.1 v 0) = (thS V r (ofT V.1 v)).1 := by rw [th_wh, show ofT V.1 v = kC V.1 v 0 from if_pos (Or.inl c82)]
                rw [ew] at wr ww
                refine rd1 H3 eo (by omega) ?_
                rw [(wr.2.2.2 r1).1]
                refine wq_if _ (fun c6 => ?_) (fun c6 => ?_)
                · rw [lgv_lt] at c6
                  rw [if_pos c6] at ea
                  refine rq_n (r := 9872) H3 rfl (by omega) q3 c2 (rw_I H3 (by omega) rfl (fun h6 H6 => wq_t (by decide) (wq_some (rI_i (Or.inr ⟨rfl, ks _ _ h6 ea H6 (BS_G S3 ⟨by omega, by omega, by omega⟩) (sm_G G3 (by unfold QX; omega)) sG_eq⟩)))))
                · rw [lgv_lt] at c6
                  rw [if_neg c6] at ea
                  exact rq_fail H3 S3 G3 (fun σ5 h5 H5 S5 G5 => wq_t (Or.inl rfl) (wq_some (rI_i (Or.inl ⟨rfl, kn ea σ5 h5 H5 S5 G5⟩))))
            · rw [if_neg c2] at ea
              exact rq_fail H3 S3 G3 (fun σ5 h5 H5 S5 G5 => wq_t (Or.inl rfl) (wq_some (rI_i (Or.inl ⟨rfl, kn ea σ5 h5 H5 S5 G5⟩))))
        · rw [c82] at g1; exact absurd g1 (by decide)
      · by_cases c83 : kf V.1 0 v = 83
        · exact wq_t (by decide) (wq_some (rI_i (Or.inr ⟨rfl, ks _ _ h2 (if_pos c83) H2 S2 G2 (sG_eq.trans (x1 c83))⟩)))
        · exact wq_t (by decide) (wq_some (rI_i (Or.inr ⟨rfl, ks _ _ h2 ((if_neg c83).trans (if_neg c82)) H2 S2 G2 (sG_eq.trans (x2 c83))⟩)))
    refine wq_eq e_Ref_aim (wq_gR H.1 rfl (rd_k H hk S.1.1 hv (wq_if _ (fun c83 => ?_) (fun c83 => G32 0 (fun q => absurd q c83) (fun _ => rfl)))))
    obtain ⟨-, ⟨g1, -⟩ | ⟨g1, -⟩ | ⟨-, gm, -⟩⟩ := g
    · rw [c83] at g1
      rcases k80 with rfl | rfl <;> exact absurd g1 (by decide)
    · rw [c83] at g1; exact absurd g1 (by decide)
    · have m0 : 0 < (kf V.1 6 v).toInt := by rw [gm]; decide
      have m1 : ((0 : Nat) : Int) + 1 < (kf V.1 6 v).toInt := by rw [gm]; decide
      refine wq_gR H.1 rfl (wq_gR H.1 rfl (wq_gR H.1 rfl (rd_c H hk S.1.1 hv m0 (fun c0 hc0 => rd_x (i := 0) P H S.1.1 hv m1 hc0 (fun c1 hc1 => rd_g H hc1 S.1.1 (po_k P hv (i := 1) (by rw [gm]; decide)).1 ?_)))))
      exact G32 _ (fun _ => rfl) (fun q => absurd c83 q)
  refine wq_at H.1 (wq_cI fin ?_)
  rintro y h2 (⟨rfl, q⟩ | ⟨rfl, q⟩)
  · exact wq_t rfl q
  · exact wq_f (by decide) q
end Yg
