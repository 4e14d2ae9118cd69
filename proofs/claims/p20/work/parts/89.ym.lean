/-! THE REFERENCE'S STATEMENTS: CASE -/
section Ym
variable {lim : Nat × Nat} {d m n B fv pp : Nat} {V : ENV} {ht : Nat → Nat} {a b : Nat → Int64} {F F' : FL} {σ σ' σ0 : rS} {bb h h' h1 : ah_H} {td : TD} {kS kV : Nat → Int32 × Int32} {v c k k2 l s v1 v2 R ci ch : Int32} {Φ : ah_R → Prop} {T : KT} {r : RST} {e : Nat → TS} {w : WD} {o : Option SOUT}
theorem rq_sure {X : Int32 → ah_H → Option ah_R} {r : Nat} (K : KQ V kS kV e) (H : RH m σ bb h) (S : BS V B fv pp ht e a b td F σ) (G0 : sm (QX pp fv V.2.2.2) σ0 σ) (g : gEV V kS kV v) (hk : k.toInt = B + v.toInt) (hR : R.toInt = r) (hr : 9872 ≤ r) (hr2 : r ≤ 9980) (es : EVe V e v = some w) (ks : ∀ σ' h' y, RH m σ' bb h' → BS V B fv pp ht e a b td F σ' → sm (QX pp fv V.2.2.2) σ0 σ' → sm (fQ r) σ σ' → RW σ' r w → WF w → wq (X y h') Φ) : wq (ah_at h (some m) 11 fun _ _ => ah_cI (vc lim (d + 208) 75 [aR m, aI k, aI R] h) (nx h1) X) Φ := by
  obtain ⟨P, C1, C2⟩ := K
  refine wq_at H.1 (wq_cI (r_find P C1 C2 101 v k R r (d + 208) σ h g hk hR (by omega) (by omega) (by omega) H S.1.2.2.1 S.1.1 S.1.2.1) ?_)
  rintro y h2 ⟨σ', H', b', G', q⟩
  rw [show ev V.1 V.2.2.1 e 101 v = some w from es] at q
  exact ks σ' h2 y H' (BS_sm S G' (by omega) b') (QX_m (by omega) G0 G') G' q.2 (ev_WF S.1.2.1 C1 C2 101 v w g es)
theorem ev_lit (hk : kf V.1 0 v = 2 ∨ kf V.1 0 v = 3 ∨ kf V.1 0 v = 4) : ∃ u, EVL V r v = some u := by
  rcases hk with q | q | q
  · exact ⟨_, ev_2 q⟩
  · exact ⟨_, ev_3 q⟩
  · exact ⟨_, ev_4 q⟩
theorem r_ca_i (K : KQ V kS kV r.1) (HG : GT V.1) (HH : HT V.1 ht) (hv : rgN V.1 v) (h35 : kf V.1 0 v = 35) (hb : bel V.1 v F) (hch : rgN V.1 ch) (h36 : kf V.1 0 ch = 36) (h2 : kf V.1 6 ch = 2) (hu : xU V.1 ch = v) (hci : ci.toInt = B + ch.toInt) (hy : bdy V.1 (kC V.1 ch 1)) (W : WF w) (hl : rgN V.1 l) (hx : ∀ j : Nat, (j : Int) < (kf V.1 6 l).toInt → kf V.1 0 (kC V.1 l j) = 37 ∨ ((kf V.1 0 (kC V.1 l j) = 2 ∨ kf V.1 0 (kC V.1 l j) = 3 ∨ kf V.1 0 (kC V.1 l j) = 4) ∧ gEV V kS kV (kC V.1 l j))) : ∀ (n j : Nat) (jj : Int32) (h : ah_H) (σ : rS), jj.toInt = (if (j : Int) < (kf V.1 6 l).toInt then B + (kC V.1 l j).toInt else -1) → (j : Int) ≤ (kf V.1 6 l).toInt → (kf V.1 6 l).toInt ≤ j + n → RW σ 9872 w → RH m σ bb h → BS V B fv pp ht r.1 r.2.2.1 r.2.2.2.1 r.2.2.2.2 F σ → sm (QX pp fv V.2.2.2) σ0 σ → (caI V r w l n j = none → o = none) → (caI V r w l n j = some true → o = oI r (kC V.1 ch 1)) → (caI V r w l n j = some false → ∀ h σ, RW σ 9872 w → RH m σ bb h → BS V B fv pp ht r.1 r.2.2.1 r.2.2.2.1 r.2.2.2.2 F σ → sm (QX pp fv V.2.2.2) σ0 σ → wq (ah_gR h (some m) 11 16 fun r1 => ah_lI h r1 100 ci fun e2 => ah_val lim ah_P (d + 210) 97 30 [some (aR m), some (aI k), some (aI e2), none, none, none] [] h) (rI (rgM m bb V B fv pp ht r.1 r.2.2.2.2 σ0 o))) → wq (ah_val lim ah_P (d + 210) 97 47 [some (aR m), some (aI k), some (aI ci), some (aI jj), none, none] [] h) (rI (rgM m bb V B fv pp ht r.1 r.2.2.2.2 σ0 o)) := by
  have P := K.1
  have hc1 := (po_k P hch (i := 1) (by rw [h2]; decide)).1
  have tt : ∀ (σ : rS) (h : ah_H) (v3 : Int32), RH m σ bb h → BS V B fv pp ht r.1 r.2.2.1 r.2.2.2.1 r.2.2.2.2 F σ → sm (QX pp fv V.2.2.2) σ0 σ → o = oI r (kC V.1 ch 1) → wq (ah_val lim ah_P (d + 210) 97 149 [some (aR m), some (aI k), some (aI ci), some (aI v3), some (aI 1), none] [] h) (rI (rgM m bb V B fv pp ht r.1 r.2.2.2.2 σ0 o)) := by
    intro σ h v3 H S G0 ho
    refine wq_eq q_97_149 (wq_f (by decide) (wq_gR H.1 rfl (wq_gR H.1 rfl (rd_c H hci S.1.1 hch (by rw [h2]; decide) (fun e5 h5 => rd_x (i := 0) P H S.1.1 hch (by rw [h2]; decide) h5 (fun e6 h6 => wq_gR H.1 rfl (rdN (j := 11) H (by omega) h6 S.1.1 hc1 ?_)))))))
    exact rq_in HG HH P H S G0 hy h6 (kid_v P hc1 ((S.1.1.2 _ hc1).2.2.2.1) ((S.1.1.2 _ hc1).2.2.2.2.1)) (SF_case P HH hy (xU_k P hch (by rw [h2]; decide)) hch h36 hu hv (by rw [h35]; decide) hb S.2.2.2.2) ho
  intro n
  induction n with
  | zero =>
    intro j jj h σ hj hle hn q9 H S G0 oN oT oF
    rw [if_neg (by omega)] at hj
    have e := eq_m1 hj
    subst e
    exact wq_eq q_97_47 (wq_t rfl (oF rfl h σ q9 H S G0))
  | succ n ih =>
    intro j jj h σ hj hle hn q9 H S G0 oN oT oF
    by_cases q : (j : Int) < (kf V.1 6 l).toInt
    · rw [if_pos q] at hj
      have hc := (po_k P hl q).1
      have c0 := hc.1
      have nm : ¬ jj = -1 := fun q => by rw [q] at hj; have : (-1 : Int32).toInt = -1 := rfl; omega
      have es : caI V r w l (n + 1) j = if kf V.1 0 (kC V.1 l j) = 37 then some true else (EVL V r (kC V.1 l j)).bind fun u => if pUnlike w u = 0 then if pSame w u = true then some true else caI V r w l n (j + 1) else none := if_pos q
      refine wq_eq q_97_47 (wq_f nm (wq_gR H.1 rfl (rd_k H hj S.1.1 hc (wq_if _ (fun c37 => ?_) (fun c37 => ?_)))))
      · exact wq_eq q_97_68 (wq_f (by decide) (tt σ h jj H S G0 (oT (es.trans (if_pos c37)))))
      · rw [if_neg c37] at es
        obtain ⟨gl, ge⟩ := (hx j q).resolve_left c37
        obtain ⟨u, eu⟩ := ev_lit (V := V) (r := r) gl
        have es : caI V r w l (n + 1) j = if pUnlike w u = 0 then if pSame w u = true then some true else caI V r w l n (j + 1) else none := by rw [es, eu]; rfl
        refine wq_eq q_97_68 (wq_t rfl (rq_sure (r := 9873) K H S G0 ge hj rfl (by omega) (by omega) eu (fun σ2 h2 y H2 S2 G2 f2 q2 U2 => ?_)))
        have q8 : RW σ2 9872 w := RW_sm W q9 f2 (by omega)
        refine rd0' (r := 9872) H2 rfl (by omega) q8.1 (rd0' (r := 9873) H2 rfl (by omega) q2.1 (wq_if _ (fun c => ?_) (fun c => ?_)))
        · refine rd1' (r := 9872) H2 rfl (by omega) (RW_len W q8) (rd1' (r := 9873) H2 rfl (by omega) (RW_len U2 q2) (wq_if _ (fun c1 => ?_) (fun c1 => ?_)))
          · have hl' := (un_0 W U2 c).mp c1
            rw [if_pos (show pUnlike w u = 0 by rw [pUnlike, if_pos c, if_pos hl'])] at es
            have bl := S2.1.2.2.1.1 9872 (by omega)
            refine wq_at H2.1 (wq_cI (r_alike (r := 9872) (s := 9873) H2 rfl (by omega) rfl (by omega) bl.2.2.1 bl.2.2.2) ?_)
            rintro _ _ ⟨rfl, rfl⟩
            rw [alk W q8 U2 q2 c hl']
            by_cases cs : pSame w u = true
            · rw [if_pos cs] at es
              rw [cs]
              exact tt σ2 _ jj H2 S2 G2 (oT es)
            · rw [if_neg cs] at es
              rw [(Bool.not_eq_true _).mp cs]
              refine wq_eq q_97_149 (wq_t rfl (wq_gR H2.1 rfl (rN12' (i := j) H2 S2.1.1 hl q hc hj (fun e2 he2 => ?_))))
              exact ih (j + 1) e2 _ σ2 (by rw [he2]; rfl) (by omega) (by omega) q8 H2 S2 G2 (fun q => oN (es.trans q)) (fun q => oT (es.trans q)) (fun q => oF (es.trans q))
          · rw [if_neg (show ¬ pUnlike w u = 0 by rw [pUnlike, if_pos c, if_neg (fun e => c1 ((un_0 W U2 c).mpr e))]; decide)] at es
            exact rq_fail H2 S2 G2 (fun σ3 h3 H3 S3 G3 => wq_t (Or.inl rfl) (wq_some (rI_i (rg_0 H3 G3 S3 (oN es)))))
        · rw [if_neg (show ¬ pUnlike w u = 0 by rw [pUnlike, if_neg c]; decide)] at es
          exact rq_fail H2 S2 G2 (fun σ3 h3 H3 S3 G3 => wq_t (Or.inl rfl) (wq_some (rI_i (rg_0 H3 G3 S3 (oN es)))))
    · rw [if_neg q] at hj
      have e := eq_m1 hj
      subst e
      exact wq_eq q_97_47 (wq_t rfl (oF (if_neg q) h σ q9 H S G0))
theorem r_ca_o (K : KQ V kS kV r.1) (HG : GT V.1) (HH : HT V.1 ht) (hv : rgN V.1 v) (h35 : kf V.1 0 v = 35) (hb : bel V.1 v F) (W : WF w) (g6 : ∀ i : Nat, 1 ≤ i → (i : Int) < (kf V.1 6 v).toInt → kf V.1 6 (kC V.1 v i) = 2) (hx : ∀ i : Nat, 1 ≤ i → (i : Int) < (kf V.1 6 v).toInt → kf V.1 0 (kC V.1 v i) = 36 ∧ bdy V.1 (kC V.1 (kC V.1 v i) 1) ∧ ∀ j : Nat, (j : Int) < (kf V.1 6 (kC V.1 (kC V.1 v i) 0)).toInt → kf V.1 0 (kC V.1 (kC V.1 (kC V.1 v i) 0) j) = 37 ∨ ((kf V.1 0 (kC V.1 (kC V.1 (kC V.1 v i) 0) j) = 2 ∨ kf V.1 0 (kC V.1 (kC V.1 (kC V.1 v i) 0) j) = 3 ∨ kf V.1 0 (kC V.1 (kC V.1 (kC V.1 v i) 0) j) = 4) ∧ gEV V kS kV (kC V.1 (kC V.1 (kC V.1 v i) 0) j))) : ∀ (n i : Nat) (ii : Int32) (h : ah_H) (σ : rS), ii.toInt = (if (i : Int) < (kf V.1 6 v).toInt then B + (kC V.1 v i).toInt else -1) → 1 ≤ i → (kf V.1 6 v).toInt ≤ i + n → RW σ 9872 w → RH m σ bb h → BS V B fv pp ht r.1 r.2.2.1 r.2.2.2.1 r.2.2.2.2 F σ → sm (QX pp fv V.2.2.2) σ0 σ → wq (ah_val lim ah_P (d + 210) 97 30 [some (aR m), some (aI k), some (aI ii), none, none, none] [] h) (rI (rgM m bb V B fv pp ht r.1 r.2.2.2.2 σ0 (caO V r w v n i))) := by
  have P := K.1
  intro n
  induction n with
  | zero =>
    intro i ii h σ hi h1 hn q9 H S G0
    rw [if_neg (by omega)] at hi
    have e := eq_m1 hi
    subst e
    exact wq_eq q_97_30 (wq_t rfl (rq_fail H S G0 (fun σ3 h3 H3 S3 G3 => wq_t (Or.inl rfl) (wq_some (rI_i (rg_0 H3 G3 S3 rfl))))))
  | succ n ih =>
    intro i ii h σ hi h1 hn q9 H S G0
    by_cases q : (i : Int) < (kf V.1 6 v).toInt
    · rw [if_pos q] at hi
      have hc := (po_k P hv q).1
      have c0 := hc.1
      have nm : ¬ ii = -1 := fun q => by rw [q] at hi; have : (-1 : Int32).toInt = -1 := rfl; omega
      obtain ⟨x1, x2, x3⟩ := hx i h1 q
      have x6 := g6 i h1 q
      have hcl := (po_k P hc (i := 0) (by rw [x6]; decide)).1
      have l0 := (P.2 _ hcl).1
      have es : caO V r w v (n + 1) i = (caI V r w (kC V.1 (kC V.1 v i) 0) (kf V.1 6 (kC V.1 (kC V.1 v i) 0)).toInt.toNat 0).bind fun b => if b = true then oI r (kC V.1 (kC V.1 v i) 1) else caO V r w v n (i + 1) := if_pos q
      refine wq_eq q_97_30 (wq_f nm (wq_gR H.1 rfl (wq_gR H.1 rfl (rd_c H hi S.1.1 hc (by rw [x6]; decide) (fun e5 h5 => rdN (j := 11) H (by omega) h5 S.1.1 hcl ?_)))))
      refine r_ca_i K HG HH hv h35 hb hc x1 x6 (xU_k P hv q) hi x2 W hcl x3 (kf V.1 6 (kC V.1 (kC V.1 v i) 0)).toInt.toNat 0 _ h σ ?_ (by show (0 : Int) ≤ _; omega) (by omega) q9 H S G0 (fun q => by rw [es, q]; rfl) (fun q => by rw [es, q]; rfl) (fun q' h1' σ1 q91 H1 S1 G1 => ?_)
      · by_cases z : 0 < (kf V.1 6 (kC V.1 (kC V.1 v i) 0)).toInt
        · rw [if_pos (by show (0 : Int) < _; omega)]
          exact (S.1.1.2 _ hcl).2.2.2.2.1 z
        · rw [if_neg (by show ¬ (0 : Int) < _; omega), (S.1.1.2 _ hcl).2.2.2.1 (Int32.toInt_inj.mp (by show _ = (0 : Int); omega))]
          rfl
      · rw [es, q']
        exact wq_gR H1.1 rfl (rN12' (i := i) H1 S1.1.1 hv q hc hi (fun e2 he2 => ih (i + 1) e2 h1' σ1 (by rw [he2]; rfl) (by omega) (by omega) q91 H1 S1 G1))
    · rw [if_neg q] at hi
      have e := eq_m1 hi
      subst e
      exact wq_eq q_97_30 (wq_t rfl (rq_fail H S G0 (fun σ3 h3 H3 S3 G3 => wq_t (Or.inl rfl) (wq_some (rI_i (rg_0 H3 G3 S3 (if_neg q)))))))
theorem r_case (K : KQ V kS kV r.1) (HG : GT V.1) (HH : HT V.1 ht) (hv : rgN V.1 v) (h35 : kf V.1 0 v = 35) (hb : bel V.1 v F) (g : gSr V kS kV v) (gt : gSt V kS kV v) (hk : k.toInt = B + v.toInt) (H : RH m σ bb h) (S : BS V B fv pp ht r.1 r.2.2.1 r.2.2.2.1 r.2.2.2.2 F σ) (G0 : sm (QX pp fv V.2.2.2) σ0 σ) : wq (vc lim (d + 211) 97 [aR m, aI k] h) (rI (rgM m bb V B fv pp ht r.1 r.2.2.2.2 σ0 (sCase V r v))) := by
  have P := K.1
  obtain ⟨g1, g2⟩ := g.2.2.2.1 h35
  obtain ⟨t1, -, t2⟩ := gt.2.2.2.1 h35
  have m0 : 0 < (kf V.1 6 v).toInt := by omega
  have hc := (po_k P hv (i := 0) (by omega)).1
  refine wq_eq e_Ref_choose (wq_gR H.1 rfl (rd_c H hk S.1.1 hv m0 (fun e2 h2 => rq_find (r := 9872) K H S G0 g1 h2 rfl (by omega) (by omega) (fun ee σ1 h1 H1 S1 G1 => ?_) (fun w σ1 h1 ee H1 S1 G1 _ q1 W1 => ?_))))
  · exact wq_t (Or.inl rfl) (wq_some (rI_i (rg_0 H1 G1 S1 (by unfold sCase; rw [show EVL V r (kC V.1 v 0) = none from ee]; rfl))))
  · rw [show sCase V r v = caO V r w v (kf V.1 6 v).toInt.toNat 1 by unfold sCase; rw [show EVL V r (kC V.1 v 0) = some w from ee]; rfl]
    refine wq_gR H1.1 rfl (wq_gR H1.1 rfl (rd_c H1 hk S1.1.1 hv m0 (fun e7 h7 => rN12' (i := 0) H1 S1.1.1 hv (by omega) hc h7 (fun e8 h8 => ?_))))
    exact r_ca_o K HG HH hv h35 hb W1 (fun i i1 i2 => (t2 i i1 i2).1) g2 _ 1 e8 h1 σ1 (by rw [h8]; rfl) (by omega) (by omega) q1 H1 S1 G1
end Ym
