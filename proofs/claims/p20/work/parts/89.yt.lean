/-! THE REFERENCE'S STATEMENTS: ASSIGN, the whole; a statement -/
section Yt
variable {lim : Nat × Nat} {d m n N B fv pp fr : Nat} {V : ENV} {ht : Nat → Nat} {a b : Nat → Int64} {F : FL} {σ σ' σ0 : rS} {bb h h' h1 : ah_H} {td : TD} {kS kV : Nat → Int32 × Int32} {v c k c0 l s v1 v2 R x32 ii : Int32} {Φ : ah_R → Prop} {T : KT} {r : RST} {e : Nat → TS} {w : WD} {o : Option SOUT} {lm : Int64}
theorem r_assign (K : KQ V kS kV r.1) (hv : rgN V.1 v) (h30 : kf V.1 0 v = 30) (g : gSr V kS kV v) (gt : gSt V kS kV v) (hk : k.toInt = B + v.toInt) (hN : nrm V.1 F = goP V.1 0 v) (H : RH m σ bb h) (S : BS V B fv pp ht r.1 r.2.2.1 r.2.2.2.1 r.2.2.2.2 F σ) (G0 : sm (QX pp fv V.2.2.2) σ0 σ) : wq (vc lim (d + 211) 106 [aR m, aI k] h) (rI (rgM m bb V B fv pp ht r.1 r.2.2.2.2 σ0 (sAssign V r v))) := by
  have P := K.1
  obtain ⟨-, gh, gd, gw⟩ := g.1 h30
  obtain ⟨⟨t1, t2⟩, -, -, t3⟩ := gt.1 h30
  have f12 : asF V v = 1 ∧ ¬ kf V.1 1 v = 2 ∨ asF V v = 2 ∧ kf V.1 1 v = 2 := by
    unfold asF
    by_cases c : kf V.1 1 v = 2
    · exact Or.inr ⟨if_pos c, c⟩
    · exact Or.inl ⟨if_neg c, c⟩
  have f1 : 1 ≤ asF V v ∧ asF V v ≤ 2 := by omega
  have hm : (kf V.1 6 v).toInt = asF V v + asN V v := by unfold asN; omega
  have N1 : 1 ≤ asN V v ∧ asN V v ≤ 16 := by unfold asN; omega
  have hw : ∀ i, i < asN V v → kf V.1 6 (kC V.1 v (asF V v + i)) = 2 ∧ gEV V kS kV (kC V.1 (kC V.1 v (asF V v + i)) 0) ∧ gTV V kS kV (kC V.1 (kC V.1 v (asF V v + i)) 1) := fun i hi => ⟨(t3 _ (by omega) (by omega)).1, gw _ (by omega) (by omega)⟩
  have m1 : ((0 : Nat) : Int) + 1 < (kf V.1 6 v).toInt := by
    show (0 : Int) + 1 < _
    omega
  refine wq_eq e_Ref_assign (wq_gR H.1 rfl (rd_c H hk S.1.1 hv (by omega) (fun e2 h2 => rq_aim (Or.inl rfl) K H S G0 gh h2 (fun ea σ1 h1 H1 S1 G1 => ?_) (fun q σ1 h1 ea H1 S1 G1 e43 => ?_))))
  · exact wq_t (Or.inl rfl) (wq_some (rI_i (rg_0 H1 G1 S1 (by unfold sAssign; rw [ea]; rfl))))
  refine wq_gR H1.1 rfl (rd_x (i := 0) P H1 S1.1.1 hv m1 h2 (fun e6 h6 => rw_J H1 (by omega) rfl (fun h7 H7 => ?_)))
  have S7 : BS V B fv pp ht r.1 r.2.2.1 r.2.2.2.1 r.2.2.2.2 F (sL σ1 44 0) := BS_L S1
  have G7 : sm (QX pp fv V.2.2.2) σ0 (sL σ1 44 0) := sm_L G1 (by unfold QX; omega)
  have e43' : (sL σ1 44 0).1 43 = q.2.1 := e43
  refine wq_gR H7.1 rfl (rd_g H7 hk S7.1.1 hv (wq_if _ (fun c2 => ?_) (fun c2 => ?_)))
  · have f2 : asF V v = 2 := (f12.resolve_left (fun q => q.2 c2)).1
    rw [f2] at hm hw
    refine rq_time K H7 S7 G7 (gd c2) h6 (fun et σ3 h3 H3 S3 G3 => ?_) (fun t σ3 h3 et H3 S3 G3 f3 e45 => ?_)
    · refine wq_t (Or.inl rfl) (wq_some (rI_i (rg_0 H3 G3 S3 ?_)))
      unfold sAssign asL
      rw [ea, if_pos c2, show EVL V r (kC V.1 v 1) = none from et]
      rfl
    · refine wq_gJ H3.1 rfl (rw_J H3 (by omega) rfl (fun h4 H4 => ?_))
      rw [e45] at H4
      have S4 : BS V B fv pp ht r.1 r.2.2.1 r.2.2.2.1 r.2.2.2.2 F (sL σ3 44 (wN t)) := BS_L S3
      have G4 : sm (QX pp fv V.2.2.2) σ0 (sL σ3 44 (wN t)) := sm_L G3 (by unfold QX; omega)
      have e43'' : (sL σ3 44 (wN t)).1 43 = q.2.1 := (f3.1 43 (fun q => by unfold fQ at q; omega)).trans e43'
      have e44 : (sL σ3 44 (wN t)).2.1 44 = wN t := by
        show up1 σ3.2.1 44 (wN t) 44 = wN t
        rw [up1_eq]
      refine wq_gR H4.1 rfl (rd_x (i := 1) P H4 S4.1.1 hv (by show (1 : Int) + 1 < _; omega) h6 (fun e15 h15 => ?_))
      refine r_as_l (fr := 2) (N := asN V v) (lm := wN t) K hv hm gh hw N1 (by omega) hk h2 hN ea (asN V v) 0 e15 0 1 h4 _ (fun _ => w00) (fun _ => 0) (by rw [if_pos (by omega)]; exact h15) rfl (by omega) (Or.inl ⟨rfl, fun j hj => by omega, fun q => by omega⟩) H4 S4 G4 (fun j hj => absurd hj (Nat.not_lt_zero _)) e44 e43'' ?_
      unfold sAssign asL
      rw [ea, if_pos c2, show EVL V r (kC V.1 v 1) = some t from et, f2]
      rfl
  · have f2 : asF V v = 1 := (f12.resolve_right (fun q => c2 q.2)).1
    rw [f2] at hm hw
    have e44 : (sL σ1 44 0).2.1 44 = 0 := by
      show up1 σ1.2.1 44 0 44 = 0
      rw [up1_eq]
    refine r_as_l (fr := 1) (N := asN V v) (lm := 0) K hv hm gh hw N1 (by omega) hk h2 hN ea (asN V v) 0 e6 0 1 h7 _ (fun _ => w00) (fun _ => 0) (by rw [if_pos (by omega)]; exact h6) rfl (by omega) (Or.inl ⟨rfl, fun j hj => by omega, fun q => by omega⟩) H7 S7 G7 (fun j hj => absurd hj (Nat.not_lt_zero _)) e44 e43' ?_
    unfold sAssign asL
    rw [ea, if_neg c2, f2]
    rfl
end Yt
