/-! THE REFERENCE'S STATEMENTS: WAIT -/
def rwM (m : Nat) (bb : ah_H) (V : ENV) (B fv pp : Nat) (ht : Nat → Nat) (r : RST) (F : FL) (σ0 : rS) (k : Int32) (o : Option Int64) (y : Int32) (h' : ah_H) : Prop := ∃ σ', RH m σ' bb h' ∧ sm (QX pp fv V.2.2.2) σ0 σ' ∧ match o with
  | some z => y = 1 ∧ BS V B fv pp ht r.1 r.2.2.1 r.2.2.2.1 r.2.2.2.2 F σ' ∧ ia σ' 24 pp = k ∧ ja σ' 25 pp = z
  | none => y = 0 ∧ BT V B fv pp r.1 r.2.2.2.2 σ'
section Yq
variable {lim : Nat × Nat} {d m n B fv pp : Nat} {V : ENV} {ht : Nat → Nat} {a b a' b' : Nat → Int64} {F F' : FL} {σ σ' σ0 : rS} {bb h h' h1 : ah_H} {td : TD} {kS kV : Nat → Int32 × Int32} {v c k k2 l s v1 v2 R L : Int32} {Φ : ah_R → Prop} {T : KT} {r : RST} {e e' : Nat → TS} {w : WD} {o : Option SOUT} {x y : Int64}
theorem BS_24 {j i : Nat} {x : Int32} (S : BS V B fv pp ht e a b td F σ) (hj : 20 ≤ j ∧ j ≤ 25) : BS V B fv pp ht e a b td F (sI σ j i x) := ⟨BT_k S.1 (fun q i hq => sI_nj (by omega)) (fun _ _ _ => rfl) ⟨rfl, rfl, rfl⟩, FX_e S.2 (sI_nj (by omega)) (fun i => sI_nj (by omega)) (fun i => sI_nj (by omega)) (fun _ => rfl) (fun _ => rfl)⟩
theorem BS_25 {j i : Nat} {x : Int64} (S : BS V B fv pp ht e a b td F σ) (hj : 20 ≤ j ∧ j ≤ 25) : BS V B fv pp ht e a b td F (sJ σ j i x) := ⟨BT_k S.1 (fun q i hq => rfl) (fun q i hq => jaJ_j (by omega)) ⟨rfl, rfl, rfl⟩, FX_e S.2 rfl (fun i => rfl) (fun i => rfl) (fun _ => jaJ_j (by omega)) (fun _ => jaJ_j (by omega))⟩
theorem QX_u {j : Nat} (hj : 24 ≤ j ∧ j ≤ 26) : QX pp fv n j pp := by unfold QX; omega
theorem r_wait (K : KQ V kS kV r.1) (hv : rgN V.1 v) (h44 : kf V.1 0 v = 44) (g : gSr V kS kV v) (gt : gSt V kS kV v) (hk : k.toInt = B + v.toInt) (H : RH m σ bb h) (S : BS V B fv pp ht r.1 r.2.2.1 r.2.2.2.1 r.2.2.2.2 F σ) (G0 : sm (QX pp fv V.2.2.2) σ0 σ) : wq (vc lim (d + 211) 101 [aR m, aI k] h) (rI (rwM m bb V B fv pp ht r F σ0 k (sWait V r v))) := by
  have P := K.1
  obtain ⟨-, ge, -⟩ := g.2.2.2.2.2.2.2.2.1 h44
  obtain ⟨m3, -⟩ := gt.2.2.2.2.2.2.2.2.1 h44
  have m0 : 0 < (kf V.1 6 v).toInt := by rw [m3]; decide
  have m1 : ((0 : Nat) : Int) + 1 < (kf V.1 6 v).toInt := by rw [m3]; decide
  have m2 : ((1 : Nat) : Int) + 1 < (kf V.1 6 v).toInt := by rw [m3]; decide
  have hc := (po_k P hv (i := 2) (by rw [m3]; decide)).1
  refine wq_eq e_Ref_waitFor (wq_gR H.1 rfl (wq_gR H.1 rfl (wq_gR H.1 rfl (rd_c H hk S.1.1 hv m0 (fun e4 h4 => rd_x (i := 0) P H S.1.1 hv m1 h4 (fun e5 h5 => rd_x (i := 1) P H S.1.1 hv m2 h5 (fun e6 h6 => rq_time K H S G0 ge h6 (fun ee σ1 h1 H1 S1 G1 => ?_) (fun w σ1 h1 ee H1 S1 G1 f1 e45 => ?_))))))))
  · have n0 : ¬ kf V.1 0 (kC V.1 v 2) = 0 := fun q => by
      rw [show EVe V r.1 (kC V.1 v 2) = some (pNum 0) from ev_0 q] at ee
      exact absurd ee (Option.some_ne_none _)
    refine wq_t (Or.inl rfl) (wq_some (rI_i ?_))
    rw [show sWait V r v = (EVL V r (kC V.1 v 2)).map fun w => wN w from if_neg n0, show EVL V r (kC V.1 v 2) = none from ee]
    exact ⟨σ1, H1, G1, rfl, S1.1⟩
  have p1 := S1.1.2.2.2.1.1
  have p2 := S1.1.2.2.2.1.2
  refine wq_gR H1.1 rfl (wq_gI H1.1 rfl (rs_N (j := 24) H1 (by omega) rfl rfl p1 (by show pp < 64; omega) (fun h2 H2 => ?_)))
  have S2 := BS_24 (j := 24) (i := pp) (x := k) S1 (by omega)
  have G2 := sm_I (x := k) G1 (QX_u (pp := pp) (fv := fv) (n := V.2.2.2) (j := 24) (by omega))
  refine wq_gR H2.1 rfl (wq_gI H2.1 rfl (wq_gR H2.1 rfl (rd_k H2 h6 S2.1.1 hc (wq_if _ (fun c0 => ?_) (fun c0 => ?_)))))
  · refine rs_NJ (j := 25) H2 (by omega) rfl p1 (by show pp < 64; omega) (fun h3 H3 => wq_t (by decide) (wq_some (rI_i ?_)))
    rw [show sWait V r v = some (-1) from if_pos c0]
    exact ⟨_, H3, sm_J G2 (QX_u (by omega)), rfl, BS_25 S2 (by omega), sI_eq, jaJ_e⟩
  · refine wq_gJ H2.1 rfl (rs_NJ (j := 25) H2 (by omega) rfl p1 (by show pp < 64; omega) (fun h3 H3 => wq_t (by decide) (wq_some (rI_i ?_))))
    rw [show sWait V r v = (EVL V r (kC V.1 v 2)).map fun w => wN w from if_neg c0, show EVL V r (kC V.1 v 2) = some w from ee]
    exact ⟨_, H3, sm_J G2 (QX_u (by omega)), rfl, BS_25 S2 (by omega), sI_eq, jaJ_e.trans e45⟩
end Yq
