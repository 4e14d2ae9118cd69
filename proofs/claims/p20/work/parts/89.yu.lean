/-! THE REFERENCE'S STATEMENTS: one of them -/
def raM (m : Nat) (bb : ah_H) (V : ENV) (B fv pp : Nat) (ht : Nat → Nat) (r : RST) (σ0 : rS) (o : Option (RST × Int32)) (y : Int32) (h' : ah_H) : Prop := ∃ σ', RH m σ' bb h' ∧ sm (QX pp fv V.2.2.2) σ0 σ' ∧ match o with
  | some q => y = 1 ∧ (∃ F2, BS V B fv pp ht q.1.1 q.1.2.2.1 q.1.2.2.2.1 q.1.2.2.2.2 F2 σ' ∧ nrm V.1 F2 = (q.1.2.1.2.2.2.2.1, q.1.2.1.2.2.2.2.2.1)) ∧ (q.2 = 0 → (ia σ' 24 pp).toInt = B + q.1.2.1.2.2.2.2.2.2.1.toInt ∧ ja σ' 25 pp = q.1.2.1.2.2.2.2.2.2.2)
  | none => y = 0 ∧ BT V B fv pp r.1 r.2.2.2.2 σ'
section Yu
variable {lim : Nat × Nat} {d m n N B fv pp fr : Nat} {V : ENV} {ht : Nat → Nat} {a b : Nat → Int64} {F : FL} {σ σ' σ0 : rS} {bb h h' h1 : ah_H} {td : TD} {kS kV : Nat → Int32 × Int32} {v c k c0 l s v1 v2 R x32 ii y : Int32} {Φ : ah_R → Prop} {T : KT} {r : RST} {e : Nat → TS} {w : WD} {o : Option SOUT} {lm : Int64}
theorem rg_ra {o' : Option (RST × Int32)} (ho : o' = oStep V r o) (k : rgM m bb V B fv pp ht r.1 r.2.2.2.2 σ0 o y h') : raM m bb V B fv pp ht r σ0 o' y h' := by
  obtain ⟨σ', H, G, q⟩ := k
  rw [ho]
  refine ⟨σ', H, G, ?_⟩
  cases o with
  | none => exact q
  | some p =>
    obtain ⟨rfl, F2, S, e⟩ := q
    exact ⟨rfl, ⟨F2, S, e⟩, fun q => absurd (show (1 : Int32) = 0 from q) (by decide)⟩
theorem rg_01 (k : rgM m bb V B fv pp ht e td σ0 o y h') : y = 0 ∨ y = 1 := by
  obtain ⟨σ', -, -, q⟩ := k
  cases o with
  | none => exact Or.inl q.1
  | some p => exact Or.inr q.1
theorem ra_ret {o' : Option (RST × Int32)} {q : Option ah_R} {h2 : ah_H} (H : RH m σ bb h) (ho : o' = oStep V r o) (k : wq q (rI (rgM m bb V B fv pp ht r.1 r.2.2.2.2 σ0 o))) : wq (ah_at h (some m) 11 fun _ _ => ah_cI q (nx h2) fun i h1 => if i = 0 ∨ i = 1 then some (.inl (some (.inl i)), h1) else none) (rI (raM m bb V B fv pp ht r σ0 o')) := wq_at H.1 (wq_cI k fun x h1 p => wq_t (rg_01 p) (wq_some (rI_i (rg_ra ho p))))
theorem ra_some {o' : Option (RST × Int32)} (ho : o' = oStep V r o) (k : rgM m bb V B fv pp ht r.1 r.2.2.2.2 σ0 o y h') : wq (some (.inl (some (.inl y)), h')) (rI (raM m bb V B fv pp ht r σ0 o')) := wq_some (rI_i (rg_ra ho k))
/-- a report at the end of a statement -/
theorem rq_tell {o' : Option (RST × Int32)} {h2 : ah_H} (H : RH m σ bb h) (S : BS V B fv pp ht r.1 r.2.2.1 r.2.2.2.1 r.2.2.2.2 F σ) (G0 : sm (QX pp fv V.2.2.2) σ0 σ) (q : RW σ 9872 w) (hw : wI w = 2) (hN : nrm V.1 F = goP V.1 0 v) (ho : o' = oStep V r (sTell r v w)) : wq (ah_at h (some m) 11 fun _ _ => ah_cI (vc lim (d + 2) 102 [aR m, aI k] h) (nx h2) fun i8 h7 => if i8 = 0 then if (0 : Int32) = 0 ∨ (0 : Int32) = 1 then some (.inl (some (.inl 0)), h7) else none else if (1 : Int32) = 0 ∨ (1 : Int32) = 1 then some (.inl (some (.inl 1)), h7) else none) (rI (raM m bb V B fv pp ht r σ0 o')) := by
  refine wq_at H.1 (wq_cI (r_tell H S G0 q hw hN) fun x h1 p => ?_)
  rcases rg_01 p with rfl | rfl
  · exact wq_t rfl (wq_t (Or.inl rfl) (ra_some ho p))
  · exact wq_f (by decide) (wq_t (by decide) (ra_some ho p))
theorem r_act (K : KQ V kS kV r.1) (HG : GT V.1) (HH : HT V.1 ht) (hv : rgN V.1 v) (hs : isS (kf V.1 0 v).toInt) (hb : bel V.1 v F) (g : gSr V kS kV v) (gt : gSt V kS kV v) (hk : k.toInt = B + v.toInt) (H : RH m σ bb h) (S : BS V B fv pp ht r.1 r.2.2.1 r.2.2.2.1 r.2.2.2.2 F σ) : wq (vc lim (d + 212) 95 [aR m, aI k] h) (rI (raM m bb V B fv pp ht r σ (sAct V r v))) := by
  have P := K.1
  have hN : nrm V.1 F = goP V.1 0 v := (gq_0 HG S.2.2.2.2 hb).symm
  refine wq_eq e_Ref_act (rN11 H hk S.1.1 hv (fun e2 z0 z1 => wq_gR H.1 rfl (rd_k H hk S.1.1 hv ?_)))
  have cases : kf V.1 0 v = 30 ∨ kf V.1 0 v = 33 ∨ kf V.1 0 v = 34 ∨ kf V.1 0 v = 35 ∨ kf V.1 0 v = 38 ∨ kf V.1 0 v = 39 ∨ kf V.1 0 v = 40 ∨ kf V.1 0 v = 41 ∨ kf V.1 0 v = 42 ∨ kf V.1 0 v = 43 ∨ kf V.1 0 v = 44 ∨ kf V.1 0 v = 45 ∨ kf V.1 0 v = 46 ∨ kf V.1 0 v = 47 := by
    have i : ∀ x : Int32, ((kf V.1 0 v).toInt = x.toInt) → kf V.1 0 v = x := fun x q => Int32.toInt_inj.mp q
    unfold isS at hs
    have : (kf V.1 0 v).toInt = 30 ∨ (kf V.1 0 v).toInt = 33 ∨ (kf V.1 0 v).toInt = 34 ∨ (kf V.1 0 v).toInt = 35 ∨ (kf V.1 0 v).toInt = 38 ∨ (kf V.1 0 v).toInt = 39 ∨ (kf V.1 0 v).toInt = 40 ∨ (kf V.1 0 v).toInt = 41 ∨ (kf V.1 0 v).toInt = 42 ∨ (kf V.1 0 v).toInt = 43 ∨ (kf V.1 0 v).toInt = 44 ∨ (kf V.1 0 v).toInt = 45 ∨ (kf V.1 0 v).toInt = 46 ∨ (kf V.1 0 v).toInt = 47 := by omega
    rcases this with q | q | q | q | q | q | q | q | q | q | q | q | q | q
    · exact Or.inl (i 30 q)
    · exact Or.inr (Or.inl (i 33 q))
    · exact Or.inr (Or.inr (Or.inl (i 34 q)))
    · exact Or.inr (Or.inr (Or.inr (Or.inl (i 35 q))))
    · exact Or.inr (Or.inr (Or.inr (Or.inr (Or.inl (i 38 q)))))
    · exact Or.inr (Or.inr (Or.inr (Or.inr (Or.inr (Or.inl (i 39 q))))))
    · exact Or.inr (Or.inr (Or.inr (Or.inr (Or.inr (Or.inr (Or.inl (i 40 q)))))))
    · exact Or.inr (Or.inr (Or.inr (Or.inr (Or.inr (Or.inr (Or.inr (Or.inl (i 41 q))))))))
    · exact Or.inr (Or.inr (Or.inr (Or.inr (Or.inr (Or.inr (Or.inr (Or.inr (Or.inl (i 42 q)))))))))
    · exact Or.inr (Or.inr (Or.inr (Or.inr (Or.inr (Or.inr (Or.inr (Or.inr (Or.inr (Or.inl (i 43 q))))))))))
    · exact Or.inr (Or.inr (Or.inr (Or.inr (Or.inr (Or.inr (Or.inr (Or.inr (Or.inr (Or.inr (Or.inl (i 44 q)))))))))))
    · exact Or.inr (Or.inr (Or.inr (Or.inr (Or.inr (Or.inr (Or.inr (Or.inr (Or.inr (Or.inr (Or.inr (Or.inl (i 45 q))))))))))))
    · exact Or.inr (Or.inr (Or.inr (Or.inr (Or.inr (Or.inr (Or.inr (Or.inr (Or.inr (Or.inr (Or.inr (Or.inr (Or.inl (i 46 q)))))))))))))
    · exact Or.inr (Or.inr (Or.inr (Or.inr (Or.inr (Or.inr (Or.inr (Or.inr (Or.inr (Or.inr (Or.inr (Or.inr (Or.inr (i 47 q)))))))))))))
  rcases cases with c | c | c | c | c | c | c | c | c | c | c | c | c | c
  · exact wq_t c (ra_ret H (by unfold sAct; rw [if_pos c]) (r_assign (d := d) K hv c g gt hk hN H S sm_0))
  · exact wq_f (by rw [c]; decide) (wq_f (by rw [c]; decide) (wq_f (by rw [c]; decide) (wq_t c (ra_ret H (by unfold sAct; rw [if_neg (by rw [c]; decide), if_pos c]) (r_keep (d := d + 1) K H S sm_0 hv (gt.2.1 c).1 (g.2.1 c).1 (g.2.1 c).2 hk hN)))))
  · exact wq_f (by rw [c]; decide) (wq_f (by rw [c]; decide) (wq_f (by rw [c]; decide) (wq_f (by rw [c]; decide) (wq_t c (ra_ret H (by unfold sAct; rw [if_neg (by rw [c]; decide), if_neg (by rw [c]; decide), if_pos c]) (r_if (d := d) K HG HH hv c hb g hk H S sm_0))))))
  · exact wq_f (by rw [c]; decide) (wq_f (by rw [c]; decide) (wq_f (by rw [c]; decide) (wq_f (by rw [c]; decide) (wq_f (by rw [c]; decide) (wq_t c (ra_ret H (by unfold sAct; rw [if_neg (by rw [c]; decide), if_neg (by rw [c]; decide), if_neg (by rw [c]; decide), if_pos c]) (r_case (d := d) K HG HH hv c hb g gt hk H S sm_0)))))))
  · exact wq_f (by rw [c]; decide) (wq_f (by rw [c]; decide) (wq_f (by rw [c]; decide) (wq_f (by rw [c]; decide) (wq_f (by rw [c]; decide) (wq_f (by rw [c]; decide) (wq_f (by rw [c]; decide) (wq_f (by rw [c]; decide) (wq_t c (ra_ret H (by unfold sAct; rw [if_neg (by rw [c]; decide), if_neg (by rw [c]; decide), if_neg (by rw [c]; decide), if_neg (by rw [c]; decide), if_pos (Or.inl c)]) (r_for (d := d) K HG HH hv (Or.inl c) hb g gt hk H S sm_0))))))))))
  · exact wq_f (by rw [c]; decide) (wq_f (by rw [c]; decide) (wq_f (by rw [c]; decide) (wq_f (by rw [c]; decide) (wq_f (by rw [c]; decide) (wq_f (by rw [c]; decide) (wq_f (by rw [c]; decide) (wq_f (by rw [c]; decide) (wq_f (by rw [c]; decide) (wq_t c (ra_ret H (by unfold sAct; rw [if_neg (by rw [c]; decide), if_neg (by rw [c]; decide), if_neg (by rw [c]; decide), if_neg (by rw [c]; decide), if_pos (Or.inr c)]) (r_for (d := d) K HG HH hv (Or.inr c) hb g gt hk H S sm_0)))))))))))
  · have hl : isLp (kf V.1 0 v) = true := by rw [c]; decide
    have ho : sAct V r v = oStep V r (some (r.1, r.2.2.1, r.2.2.2.1, r.2.2.2.2, 2, v)) := by unfold sAct; rw [if_neg (by rw [c]; decide), if_neg (by rw [c]; decide), if_neg (by rw [c]; decide), if_neg (by rw [c]; decide), if_neg (by rw [c]; decide), if_pos (Or.inl c)]
    exact wq_f (by rw [c]; decide) (wq_f (by rw [c]; decide) (wq_f (by rw [c]; decide) (wq_f (by rw [c]; decide) (wq_f (by rw [c]; decide) (wq_f (by rw [c]; decide) (wq_f (by rw [c]; decide) (wq_f (by rw [c]; decide) (wq_f (by rw [c]; decide) (wq_f (by rw [c]; decide) (wq_t c (rq_enter HH H S sm_0 hk (by rw [if_pos rfl]; rfl) (SF_loop HH hv hl hb S.2.2.2.2) (fun q => absurd q (by rw [c]; decide)) (fun σ2 h2 H2 S2 G2 _ => wq_t (by decide) (ra_some ho (rg_1 H2 G2 S2 (gq_2 hl).symm rfl))))))))))))))
  · have hl : isLp (kf V.1 0 v) = true := by rw [c]; decide
    have ho : sAct V r v = oStep V r (some (r.1, r.2.2.1, r.2.2.2.1, r.2.2.2.2, 2, v)) := by unfold sAct; rw [if_neg (by rw [c]; decide), if_neg (by rw [c]; decide), if_neg (by rw [c]; decide), if_neg (by rw [c]; decide), if_neg (by rw [c]; decide), if_pos (Or.inr c)]
    exact wq_f (by rw [c]; decide) (wq_f (by rw [c]; decide) (wq_f (by rw [c]; decide) (wq_f (by rw [c]; decide) (wq_f (by rw [c]; decide) (wq_f (by rw [c]; decide) (wq_f (by rw [c]; decide) (wq_f (by rw [c]; decide) (wq_f (by rw [c]; decide) (wq_f (by rw [c]; decide) (wq_f (by rw [c]; decide) (wq_t c (rq_enter HH H S sm_0 hk (by rw [if_pos rfl]; rfl) (SF_loop HH hv hl hb S.2.2.2.2) (fun q => absurd q (by rw [c]; decide)) (fun σ2 h2 H2 S2 G2 _ => wq_t (by decide) (ra_some ho (rg_1 H2 G2 S2 (gq_2 hl).symm rfl)))))))))))))))
  · exact wq_f (by rw [c]; decide) (wq_f (by rw [c]; decide) (wq_f (by rw [c]; decide) (wq_f (by rw [c]; decide) (wq_f (by rw [c]; decide) (wq_f (by rw [c]; decide) (wq_f (by rw [c]; decide) (wq_f (by rw [c]; decide) (wq_f (by rw [c]; decide) (wq_f (by rw [c]; decide) (wq_f (by rw [c]; decide) (wq_f (by rw [c]; decide) (wq_t c (ra_ret H (by unfold sAct; rw [if_neg (by rw [c]; decide), if_neg (by rw [c]; decide), if_neg (by rw [c]; decide), if_neg (by rw [c]; decide), if_neg (by rw [c]; decide), if_neg (by rw [c]; decide), if_pos (Or.inl c)]) (r_leave (d := d) K HG HH hv (Or.inl c) hb g gt hk H S sm_0))))))))))))))
  · exact wq_f (by rw [c]; decide) (wq_f (by rw [c]; decide) (wq_f (by rw [c]; decide) (wq_f (by rw [c]; decide) (wq_f (by rw [c]; decide) (wq_f (by rw [c]; decide) (wq_f (by rw [c]; decide) (wq_f (by rw [c]; decide) (wq_f (by rw [c]; decide) (wq_f (by rw [c]; decide) (wq_f (by rw [c]; decide) (wq_f (by rw [c]; decide) (wq_f (by rw [c]; decide) (wq_t c (ra_ret H (by unfold sAct; rw [if_neg (by rw [c]; decide), if_neg (by rw [c]; decide), if_neg (by rw [c]; decide), if_neg (by rw [c]; decide), if_neg (by rw [c]; decide), if_neg (by rw [c]; decide), if_pos (Or.inr c)]) (r_leave (d := d) K HG HH hv (Or.inr c) hb g gt hk H S sm_0)))))))))))))))
  · have ho : sAct V r v = (sWait V r v).map fun z => ((r.1, (1, r.2.1.2.1, r.2.1.2.2.1, r.2.1.2.2.2.1, (goP V.1 0 v).1, (goP V.1 0 v).2, v, z), r.2.2), 0) := by unfold sAct; rw [if_neg (by rw [c]; decide), if_neg (by rw [c]; decide), if_neg (by rw [c]; decide), if_neg (by rw [c]; decide), if_neg (by rw [c]; decide), if_neg (by rw [c]; decide), if_neg (by rw [c]; decide), if_pos c]
    refine wq_f (by rw [c]; decide) (wq_f (by rw [c]; decide) (wq_f (by rw [c]; decide) (wq_f (by rw [c]; decide) (wq_f (by rw [c]; decide) (wq_f (by rw [c]; decide) (wq_f (by rw [c]; decide) (wq_f (by rw [c]; decide) (wq_f (by rw [c]; decide) (wq_f (by rw [c]; decide) (wq_f (by rw [c]; decide) (wq_f (by rw [c]; decide) (wq_f (by rw [c]; decide) (wq_f (by rw [c]; decide) (wq_t c (wq_at H.1 (wq_cI (r_wait (d := d) K hv c g gt hk H S sm_0) fun x h1 p => ?_))))))))))))))))
    rw [ho]
    obtain ⟨σ', H', G', q⟩ := p
    cases hw : sWait V r v with
    | none =>
      rw [hw] at q
      obtain ⟨rfl, q⟩ := q
      exact wq_t (Or.inl rfl) (wq_some (rI_i ⟨σ', H', G', rfl, q⟩))
    | some z =>
      rw [hw] at q
      obtain ⟨rfl, S', i24, j25⟩ := q
      exact wq_t (by decide) (wq_some (rI_i ⟨σ', H', G', rfl, ⟨F, S', hN⟩, fun _ => ⟨by rw [i24]; exact hk, j25⟩⟩))
  · have ho : sAct V r v = oStep V r (oBe r v) := by unfold sAct; rw [if_neg (by rw [c]; decide), if_neg (by rw [c]; decide), if_neg (by rw [c]; decide), if_neg (by rw [c]; decide), if_neg (by rw [c]; decide), if_neg (by rw [c]; decide), if_neg (by rw [c]; decide), if_neg (by rw [c]; decide), if_neg (by rw [c]; decide), if_neg (by rw [c]; decide)]
    exact wq_f (by rw [c]; decide) (wq_f (by rw [c]; decide) (wq_f (by rw [c]; decide) (wq_f (by rw [c]; decide) (wq_f (by rw [c]; decide) (wq_f (by rw [c]; decide) (wq_f (by rw [c]; decide) (wq_f (by rw [c]; decide) (wq_f (by rw [c]; decide) (wq_f (by rw [c]; decide) (wq_f (by rw [c]; decide) (wq_f (by rw [c]; decide) (wq_f (by rw [c]; decide) (wq_f (by rw [c]; decide) (wq_f (by rw [c]; decide) (wq_t c (wq_t (by decide) (ra_some ho (rg_1 H sm_0 S hN rfl))))))))))))))))))
  · have ho : sAct V r v = oStep V r (sRep V r v 0) := by unfold sAct; rw [if_neg (by rw [c]; decide), if_neg (by rw [c]; decide), if_neg (by rw [c]; decide), if_neg (by rw [c]; decide), if_neg (by rw [c]; decide), if_neg (by rw [c]; decide), if_neg (by rw [c]; decide), if_neg (by rw [c]; decide), if_pos c]
    have he := z1 (by rw [(gt.2.2.2.2.2.2.2.2.2.1 c).1]; decide)
    refine wq_f (by rw [c]; decide) (wq_f (by rw [c]; decide) (wq_f (by rw [c]; decide) (wq_f (by rw [c]; decide) (wq_f (by rw [c]; decide) (wq_f (by rw [c]; decide) (wq_f (by rw [c]; decide) (wq_f (by rw [c]; decide) (wq_f (by rw [c]; decide) (wq_f (by rw [c]; decide) (wq_f (by rw [c]; decide) (wq_f (by rw [c]; decide) (wq_f (by rw [c]; decide) (wq_f (by rw [c]; decide) (wq_f (by rw [c]; decide) (wq_f (by rw [c]; decide) (wq_t c (rq_cond K H S sm_0 (g.2.2.2.2.2.2.2.2.2.1 c) he (fun ee σ2 h2 H2 S2 G2 => wq_t (by decide) (ra_some ho (rg_0 H2 G2 S2 (by unfold sRep; rw [show pNo (EVL V r (kC V.1 v 0)) = none from ee]; rfl)))) (fun w σ2 h2 ee H2 S2 G2 q9 W9 w2 => rq_tell H2 S2 G2 q9 w2 hN (ho.trans (by unfold sRep; rw [show pNo (EVL V r (kC V.1 v 0)) = some w from ee]; rfl))))))))))))))))))))
  · have ho : sAct V r v = oStep V r (sCheck V r v) := by unfold sAct; rw [if_neg (by rw [c]; decide), if_neg (by rw [c]; decide), if_neg (by rw [c]; decide), if_neg (by rw [c]; decide), if_neg (by rw [c]; decide), if_neg (by rw [c]; decide), if_neg (by rw [c]; decide), if_neg (by rw [c]; decide), if_neg (by rw [c]; decide), if_pos c]
    have m2 := (gt.2.2.2.2.2.2.2.2.2.2 c).1
    have he := z1 (by rw [m2]; decide)
    obtain ⟨g1, g2⟩ := g.2.2.2.2.2.2.2.2.2.2 c
    refine wq_f (by rw [c]; decide) (wq_f (by rw [c]; decide) (wq_f (by rw [c]; decide) (wq_f (by rw [c]; decide) (wq_f (by rw [c]; decide) (wq_f (by rw [c]; decide) (wq_f (by rw [c]; decide) (wq_f (by rw [c]; decide) (wq_f (by rw [c]; decide) (wq_f (by rw [c]; decide) (wq_f (by rw [c]; decide) (wq_f (by rw [c]; decide) (wq_f (by rw [c]; decide) (wq_f (by rw [c]; decide) (wq_f (by rw [c]; decide) (wq_f (by rw [c]; decide) (wq_f (by rw [c]; decide) (wq_eq q_95_171 (rq_cond K H S sm_0 g1 he (fun ee σ2 h2 H2 S2 G2 => wq_t (by decide) (ra_some ho (rg_0 H2 G2 S2 (by unfold sCheck; rw [show pNo (EVL V r (kC V.1 v 0)) = none from ee]; rfl)))) (fun w σ2 h2 ee H2 S2 G2 q9 W9 w2 => rq_n (r := 9872) H2 rfl (by omega) q9 w2 ?_)))))))))))))))))))
    have es : sCheck V r v = if wN w = 0 then sRep V r v 1 else oBe r v := by unfold sCheck; rw [show pNo (EVL V r (kC V.1 v 0)) = some w from ee]; rfl
    refine wq_if _ (fun c1 => ?_) (fun c1 => ?_)
    · rw [lg_eq] at c1
      rw [if_pos c1] at es
      rw [es] at ho
      exact wq_gR H2.1 rfl (rd_x (i := 0) P H2 S2.1.1 hv (by rw [m2]; decide) he (fun e6 h6 => rq_cond K H2 S2 G2 g2 h6 (fun ee σ3 h3 H3 S3 G3 => wq_t (by decide) (ra_some ho (rg_0 H3 G3 S3 (by unfold sRep; rw [show pNo (EVL V r (kC V.1 v 1)) = none from ee]; rfl)))) (fun u σ3 h3 ee H3 S3 G3 q9 W9 w2 => rq_tell H3 S3 G3 q9 w2 hN (ho.trans (by unfold sRep; rw [show pNo (EVL V r (kC V.1 v 1)) = some u from ee]; rfl)))))
    · rw [lg_eq] at c1
      rw [if_neg c1] at es
      rw [es] at ho
      exact wq_t (by decide) (ra_some ho (rg_1 H2 G2 S2 hN rfl))
end Yu
