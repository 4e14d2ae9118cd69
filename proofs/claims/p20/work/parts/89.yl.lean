/-! THE REFERENCE'S STATEMENTS: IF -/
section Yl
variable {lim : Nat × Nat} {d m n B fv pp : Nat} {V : ENV} {ht : Nat → Nat} {a b : Nat → Int64} {F F' : FL} {σ σ' σ0 : rS} {bb h h' h1 : ah_H} {td : TD} {kS kV : Nat → Int32 × Int32} {v c k k2 l s v1 v2 : Int32} {Φ : ah_R → Prop} {T : KT} {r : RST}
theorem xU_r (hv : rgN T v) : xU T v = kf T 3 v := if_pos hv
theorem xU_k (P : PO T) (hv : rgN T v) {i : Nat} (hi : (i : Int) < (kf T 6 v).toInt) : xU T (kC T v i) = v := by
  obtain ⟨a1, a2, -⟩ := po_k P hv hi
  rw [xU_r a1]
  exact a2
theorem n48 (hl : bdy T l) : ¬ (kf T 0 l = 38 ∨ kf T 0 l = 39) := by
  rw [hl.2.1]
  decide
/-- the end of a statement that went into a body -/
theorem rq_in (HG : GT V.1) (HH : HT V.1 ht) (P : PO V.1) (H : RH m σ bb h) (S : BS V B fv pp ht r.1 r.2.2.1 r.2.2.2.1 r.2.2.2.2 F σ) (G0 : sm (QX pp fv V.2.2.2) σ0 σ) (hl : bdy V.1 l) (hv1 : v1.toInt = B + l.toInt) (hv2 : v2.toInt = if xCh V.1 l 0 = -1 then -1 else B + (xCh V.1 l 0).toInt) (Sn : SF V.1 ht ((l, xCh V.1 l 0) :: F)) {o : Option SOUT} (ho : o = oI r l) : wq (ah_at h (some m) 11 fun _ _ => ah_cV (vc lim (d + 2) 90 [aR m, aI v1, aI v2] h) (nx h1) fun h2 => if (1 : Int32) = 0 ∨ (1 : Int32) = 1 then some (.inl (some (.inl 1)), h2) else none) (rI (rgM m bb V B fv pp ht r.1 r.2.2.2.2 σ0 o)) := rq_enter HH H S G0 hv1 hv2 Sn (fun q => absurd q (n48 hl)) (fun σ2 h2 H2 S2 G2 _ => wq_t (by decide) (wq_some (rI_i (rg_1 H2 G2 S2 (gq_1 HG Sn hl).symm ho))))
theorem r_if_l (K : KQ V kS kV r.1) (HG : GT V.1) (HH : HT V.1 ht) (hv : rgN V.1 v) (h34 : kf V.1 0 v = 34) (hb : bel V.1 v F) (hx : ∀ i : Nat, (i : Int) < (kf V.1 6 v).toInt → (i % 2 = 0 → (i : Int) + 1 < (kf V.1 6 v).toInt → gEV V kS kV (kC V.1 v i)) ∧ (i % 2 = 1 ∨ (i : Int) + 1 = (kf V.1 6 v).toInt → bdy V.1 (kC V.1 v i))) : ∀ (n i : Nat) (ii : Int32) (h : ah_H) (σ : rS), ii.toInt = (if (i : Int) < (kf V.1 6 v).toInt then B + (kC V.1 v i).toInt else -1) → i % 2 = 0 → (i : Int) ≤ (kf V.1 6 v).toInt → (kf V.1 6 v).toInt ≤ i + n → RH m σ bb h → BS V B fv pp ht r.1 r.2.2.1 r.2.2.2.1 r.2.2.2.2 F σ → sm (QX pp fv V.2.2.2) σ0 σ → wq (ah_val lim ah_P (d + 210) 96 7 [some (aR m), some (aI k), some (aI ii)] [] h) (rI (rgM m bb V B fv pp ht r.1 r.2.2.2.2 σ0 (sIf V r v n i))) := by
  have P := K.1
  have n1 : ¬ isLp (kf V.1 0 v) = true := by rw [h34]; decide
  have n2 : ¬ kf V.1 0 v = 36 := by rw [h34]; decide
  intro n
  induction n with
  | zero =>
    intro i ii h σ hi ev hl hn H S G0
    rw [if_neg (by omega)] at hi
    have e := eq_m1 hi
    subst e
    refine wq_eq q_96_7 (wq_t rfl (wq_t rfl (wq_t (by decide) (wq_some (rI_i (rg_1 H G0 S (gq_0 HG S.2.2.2.2 hb).symm ?_))))))
    exact if_neg (by omega)
  | succ n ih =>
    intro i ii h σ hi ev hl hn H S G0
    by_cases q : (i : Int) < (kf V.1 6 v).toInt
    · rw [if_pos q] at hi
      have hc := (po_k P hv q).1
      have c0 := hc.1
      have nm : ¬ ii = -1 := fun q => by rw [q] at hi; have : (-1 : Int32).toInt = -1 := rfl; omega
      refine wq_eq q_96_7 (wq_f nm ?_)
      by_cases q2 : (i : Int) + 1 < (kf V.1 6 v).toInt
      · have es : sIf V r v (n + 1) i = (pNo (EVL V r (kC V.1 v i))).bind fun w => if wN w = 0 then sIf V r v n (i + 2) else oI r (kC V.1 v (i + 1)) := if_pos q2
        have hc1 := (po_k P hv (i := i + 1) (by omega)).1
        have c1 := hc1.1
        refine wq_gR H.1 rfl (rd_x P H S.1.1 hv q2 hi (fun e5 h5 => wq_f (fun q => by rw [q] at h5; have : (-1 : Int32).toInt = -1 := rfl; omega) ?_))
        refine rq_cond K H S G0 ((hx i q).1 ev q2) hi (fun ee σ2 h2 H2 S2 G2 => wq_t (by decide) (wq_some (rI_i (rg_0 H2 G2 S2 (by rw [es, show pNo (EVL V r (kC V.1 v i)) = none from ee]; rfl))))) (fun w σ2 h2 ee H2 S2 G2 q9 W9 w2 => rq_n (r := 9872) H2 rfl (by omega) q9 w2 ?_)
        have es : sIf V r v (n + 1) i = if wN w = 0 then sIf V r v n (i + 2) else oI r (kC V.1 v (i + 1)) := by rw [es, show pNo (EVL V r (kC V.1 v i)) = some w from ee]; rfl
        refine wq_if _ (fun c0 => ?_) (fun c0 => ?_)
        · rw [lg_eq] at c0
          rw [es, if_pos c0]
          refine wq_gR H2.1 rfl (wq_gR H2.1 rfl (rd_x P H2 S2.1.1 hv q2 hi (fun e6 h6 => rN12' (i := i + 1) H2 S2.1.1 hv (by omega) hc1 h6 (fun e7 h7 => ?_))))
          exact ih (i + 2) e7 h2 σ2 (by rw [h7]; rfl) (by omega) (by omega) (by omega) H2 S2 G2
        · rw [lg_eq] at c0
          have hy := (hx (i + 1) (by omega)).2 (Or.inl (by omega))
          refine wq_gR H2.1 rfl (rd_x P H2 S2.1.1 hv q2 hi (fun e6 h6 => wq_gR H2.1 rfl (wq_gR H2.1 rfl (rd_x P H2 S2.1.1 hv q2 hi (fun e7 h7 => rdN (j := 11) H2 (by omega) h7 S2.1.1 hc1 ?_)))))
          exact rq_in HG HH P H2 S2 G2 hy h6 (kid_v P hc1 ((S2.1.1.2 _ hc1).2.2.2.1) ((S2.1.1.2 _ hc1).2.2.2.2.1)) (SF_if P HH hy (xU_k P hv (by omega)) hv n1 n2 hb S2.2.2.2.2) (es.trans (if_neg c0))
      · have es : sIf V r v (n + 1) i = oI r (kC V.1 v i) := (if_neg q2).trans (if_pos q)
        have hy := (hx i q).2 (Or.inr (by omega))
        refine wq_gR H.1 rfl (rd_z P H S.1.1 hv (by omega) hi (wq_t rfl (wq_f nm (rN11 H hi S.1.1 hc (fun e7 h7 h8 => ?_)))))
        exact rq_in HG HH P H S G0 hy hi (kid_v P hc h7 h8) (SF_if P HH hy (xU_k P hv q) hv n1 n2 hb S.2.2.2.2) es
    · rw [if_neg q] at hi
      have e := eq_m1 hi
      subst e
      refine wq_eq q_96_7 (wq_t rfl (wq_t rfl (wq_t (by decide) (wq_some (rI_i (rg_1 H G0 S (gq_0 HG S.2.2.2.2 hb).symm ?_))))))
      exact (if_neg (by omega)).trans (if_neg q)
theorem r_if (K : KQ V kS kV r.1) (HG : GT V.1) (HH : HT V.1 ht) (hv : rgN V.1 v) (h34 : kf V.1 0 v = 34) (hb : bel V.1 v F) (g : gSr V kS kV v) (hk : k.toInt = B + v.toInt) (H : RH m σ bb h) (S : BS V B fv pp ht r.1 r.2.2.1 r.2.2.2.1 r.2.2.2.2 F σ) (G0 : sm (QX pp fv V.2.2.2) σ0 σ) : wq (vc lim (d + 211) 96 [aR m, aI k] h) (rI (rgM m bb V B fv pp ht r.1 r.2.2.2.2 σ0 (sIf V r v (kf V.1 6 v).toInt.toNat 0))) := by
  obtain ⟨g1, g2⟩ := g.2.2.1 h34
  refine wq_eq e_Ref_branch (rN11 H hk S.1.1 hv (fun e2 h2 h3 => ?_))
  exact r_if_l K HG HH hv h34 hb g2 _ 0 e2 h σ (by rw [if_pos (by show (0 : Int) < _; omega)]; exact h3 (by omega)) rfl (by show (0 : Int) ≤ _; omega) (by omega) H S G0
end Yl
