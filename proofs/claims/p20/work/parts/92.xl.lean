/-! THE LAW'S CALLS OF THE CLASS: what the class says -/
/-- nothing of the class changed; refused as it says, or answered -/
def RDO (x o : Nat) (h : ah_H) (no : Int32 → Prop) (yes : Prop) (v : Int64) (k : Int32) (h' : ah_H) : Prop := FR x o h h' ∧ (no k ∨ (k = 0 ∧ yes ∧ h'.1 o = some (101, [aJ v])))
/-- done, or not -/
def MU (x : Nat) (D D' : KD) (h : ah_H) (k : Int32) (h' : ah_H) : Prop := FN x h h' ∧ ((¬ k = 0 ∧ KI x D h') ∨ (k = 0 ∧ KI x D' h'))
section Xl
variable {lim : Nat × Nat} {K d b x m o L nS nU nD : Nat} {xs : Nat → Int32} {κ : kM} {σ : rS} {h : ah_H} {cnt : sV} {c : SCR} {τ : TD} {PS PD : Nat → Nat} {eS eD : Nat → TS} {U : Nat → UD} {v1 v2 v3 v4 : Int32}
theorem LB_x (B : LB b x m o L xs K κ σ h) (bd : x + 656 ≤ m ∧ m + 39 < o) : x + 656 ≤ o ∧ x + 656 ≤ h.2.1 := by
  obtain ⟨-, -, -, -, -, -, -, -, -, -, -, l2, l3⟩ := B
  omega
theorem XL_get (B : LB b x m o L xs K κ σ h) (I : KI x (c, τ, (nS, PS, eS), (nU, U), nD, PD, eD) h) (bd : x + 656 ≤ m ∧ m + 39 < o) (hr : rm lim h) : wq (vc lim (d + 21) m_Law_get [aR x, aI v1, aI v2, aR o] h) (rI (RDO x o h (fun k => k = 1 ∧ ¬ (gtK nS eS v1 v2)) (gtK nS eS v1 v2) ((pElem (eS v1.toInt.toNat).1 v2).toInt64))) := by
  obtain ⟨bx, bh⟩ := LB_x B bd
  refine wq_eq e_Law_get (L_ax B ?_)
  obtain ⟨z, e, hz⟩ := kq_get (lim := lim) (d := d + 18) (v1 := v1) (v2 := v2) I hr
  refine wq_eq (congrArg (fun r => ah_cI r _ _) e) ?_
  rcases hz with ⟨n, rfl⟩ | ⟨g, rfl⟩
  · exact show wq (ah_hx lim (d + 20) 267 5 _ h (202, h.2.1) (ah_new h (202, []) 6)) _ from wq_hx rfl rfl hM_267 rfl (wq_eq q_267_13 (wq_some (rI_i ⟨FR_x bh, Or.inl ⟨rfl, n⟩⟩)))
  · exact L_lay B (fun _ => wq_some (rI_i ⟨FR_o bx, Or.inr ⟨rfl, g, up_eq⟩⟩))
theorem XL_variableOf (B : LB b x m o L xs K κ σ h) (I : KI x (c, τ, (nS, PS, eS), (nU, U), nD, PD, eD) h) (bd : x + 656 ≤ m ∧ m + 39 < o) (hr : rm lim h) : wq (vc lim (d + 21) m_Law_variableOf [aR x, aI v1, aI v2, aI v3, aR o] h) (rI (RDO x o h (fun k => k = 1 ∧ ¬ (voK nU (U v1.toInt.toNat).2.2.1 (U v1.toInt.toNat).2.2.2.2.1 v1 v2 v3)) (voK nU (U v1.toInt.toNat).2.2.1 (U v1.toInt.toNat).2.2.2.2.1 v1 v2 v3) ((pElem ((U v1.toInt.toNat).2.2.2.2.1 v2.toInt.toNat).1 v3).toInt64))) := by
  obtain ⟨bx, bh⟩ := LB_x B bd
  refine wq_eq e_Law_variableOf (L_ax B ?_)
  obtain ⟨z, e, hz⟩ := kq_varOf (lim := lim) (d := d + 17) (v1 := v1) (v2 := v2) (v3 := v3) I hr
  refine wq_eq (congrArg (fun r => ah_cI r _ _) e) ?_
  rcases hz with ⟨n, rfl⟩ | ⟨g, rfl⟩
  · exact show wq (ah_hx lim (d + 20) 269 7 _ h (202, h.2.1) (ah_new h (202, []) 6)) _ from wq_hx rfl rfl hM_269 rfl (wq_eq q_269_15 (wq_some (rI_i ⟨FR_x bh, Or.inl ⟨rfl, n⟩⟩)))
  · exact L_lay B (fun _ => wq_some (rI_i ⟨FR_o bx, Or.inr ⟨rfl, g, up_eq⟩⟩))
theorem XL_waits (B : LB b x m o L xs K κ σ h) (I : KI x (c, τ, (nS, PS, eS), (nU, U), nD, PD, eD) h) (bd : x + 656 ≤ m ∧ m + 39 < o) (G : ∀ j, j < nU → PO (U j).2.1 ∧ (¬ (U j).2.2.2.2.2.1.1 = 1 → (U j).2.2.2.2.2.1.2.2.2.2.2.2.1 = -1) ∧ ((U j).2.2.2.2.2.1.1 = 1 → rgN (U j).2.1 (U j).2.2.2.2.2.1.2.2.2.2.2.2.1 ∧ kf (U j).2.1 6 (U j).2.2.2.2.2.1.2.2.2.2.2.2.1 = 3)) (hr : rm lim h) : wq (vc lim (d + 21) m_Law_waits [aR x, aI v1, aI v2, aR o] h) (rI (RDO x o h (fun k => k = 1 ∧ ¬ (wtK (U v1.toInt.toNat).2.1 nU (U v1.toInt.toNat).2.2.2.2.2.1 v1 v2)) (wtK (U v1.toInt.toNat).2.1 nU (U v1.toInt.toNat).2.2.2.2.2.1 v1 v2) ((wtX (U v1.toInt.toNat).2.1 (U v1.toInt.toNat).2.2.2.2.2.1 v2).toInt64))) := by
  obtain ⟨bx, bh⟩ := LB_x B bd
  refine wq_eq e_Law_waits (L_ax B ?_)
  obtain ⟨z, e, hz⟩ := kq_waits (lim := lim) (d := d + 17) (v1 := v1) (v2 := v2) I G hr
  refine wq_eq (congrArg (fun r => ah_cI r _ _) e) ?_
  rcases hz with ⟨n, rfl⟩ | ⟨g, rfl⟩
  · exact show wq (ah_hx lim (d + 20) 273 5 _ h (202, h.2.1) (ah_new h (202, []) 6)) _ from wq_hx rfl rfl hM_273 rfl (wq_eq q_273_13 (wq_some (rI_i ⟨FR_x bh, Or.inl ⟨rfl, n⟩⟩)))
  · exact L_lay B (fun _ => wq_some (rI_i ⟨FR_o bx, Or.inr ⟨rfl, g, up_eq⟩⟩))
theorem XL_until (B : LB b x m o L xs K κ σ h) (I : KI x (c, τ, (nS, PS, eS), (nU, U), nD, PD, eD) h) (bd : x + 656 ≤ m ∧ m + 39 < o) (hr : rm lim h) : wq (vc lim (d + 21) m_Law_until [aR x, aI v1, aR o] h) (rI (RDO x o h (fun k => k = 1 ∧ ¬ (0 ≤ v1.toInt ∧ v1.toInt < nU)) ((0 ≤ v1.toInt ∧ v1.toInt < nU)) ((U v1.toInt.toNat).2.2.2.2.2.1.2.2.2.2.2.2.2))) := by
  obtain ⟨bx, bh⟩ := LB_x B bd
  refine wq_eq e_Law_until (L_ax B ?_)
  obtain ⟨z, e, hz⟩ := kq_until (lim := lim) (d := d + 18) (v1 := v1) I hr
  refine wq_eq (congrArg (fun r => ah_cJ r _ _) e) ?_
  rcases hz with ⟨n, rfl⟩ | ⟨g, rfl⟩
  · exact show wq (ah_hx lim (d + 20) 274 4 _ h (202, h.2.1) (ah_new h (202, []) 6)) _ from wq_hx rfl rfl hM_274 rfl (wq_eq q_274_11 (wq_some (rI_i ⟨FR_x bh, Or.inl ⟨rfl, n⟩⟩)))
  · exact L_lay B (fun _ => wq_some (rI_i ⟨FR_o bx, Or.inr ⟨rfl, g, up_eq⟩⟩))
theorem XL_value (B : LB b x m o L xs K κ σ h) (I : KI x (c, τ, (nS, PS, eS), (nU, U), nD, PD, eD) h) (bd : x + 656 ≤ m ∧ m + 39 < o) (TL0 : TL τ) (hr : rm lim h) : wq (vc lim (d + 21) m_Law_value [aR x, aI v1, aI v2, aI v3, aR o] h) (rI (RDO x o h (fun k => k = 1 ∧ ¬ (vlK τ v1 v2 v3)) (vlK τ v1 v2 v3) ((vlX τ v1 v2 v3).toInt64))) := by
  obtain ⟨bx, bh⟩ := LB_x B bd
  refine wq_eq e_Law_value (L_ax B ?_)
  obtain ⟨z, e, hz⟩ := kq_value (lim := lim) (d := d + 16) (v1 := v1) (v2 := v2) (v3 := v3) I TL0 hr
  refine wq_eq (congrArg (fun r => ah_cI r _ _) e) ?_
  rcases hz with ⟨n, rfl⟩ | ⟨g, rfl⟩
  · exact show wq (ah_hx lim (d + 20) 276 7 _ h (202, h.2.1) (ah_new h (202, []) 6)) _ from wq_hx rfl rfl hM_276 rfl (wq_eq q_276_15 (wq_some (rI_i ⟨FR_x bh, Or.inl ⟨rfl, n⟩⟩)))
  · exact L_lay B (fun _ => wq_some (rI_i ⟨FR_o bx, Or.inr ⟨rfl, g, up_eq⟩⟩))
theorem XL_delay (B : LB b x m o L xs K κ σ h) (I : KI x (c, τ, (nS, PS, eS), (nU, U), nD, PD, eD) h) (bd : x + 656 ≤ m ∧ m + 39 < o) (TL0 : TL τ) (hr : rm lim h) : wq (vc lim (d + 21) m_Law_delay [aR x, aI v1, aI v2, aR o] h) (rI (RDO x o h (fun k => k = 1 ∧ ¬ (dlK τ v1 v2)) (dlK τ v1 v2) (dlX τ v1 v2))) := by
  obtain ⟨bx, bh⟩ := LB_x B bd
  refine wq_eq e_Law_delay (L_ax B ?_)
  obtain ⟨z, e, hz⟩ := kq_delay (lim := lim) (d := d + 17) (v1 := v1) (v2 := v2) I TL0 hr
  refine wq_eq (congrArg (fun r => ah_cJ r _ _) e) ?_
  rcases hz with ⟨n, rfl⟩ | ⟨g, rfl⟩
  · exact show wq (ah_hx lim (d + 20) 277 5 _ h (202, h.2.1) (ah_new h (202, []) 6)) _ from wq_hx rfl rfl hM_277 rfl (wq_eq q_277_12 (wq_some (rI_i ⟨FR_x bh, Or.inl ⟨rfl, n⟩⟩)))
  · exact L_lay B (fun _ => wq_some (rI_i ⟨FR_o bx, Or.inr ⟨rfl, g, up_eq⟩⟩))
theorem XL_act (B : LB b x m o L xs K κ σ h) (I : KI x (c, τ, (nS, PS, eS), (nU, U), nD, PD, eD) h) (bd : x + 656 ≤ m ∧ m + 39 < o) (hr : rm lim h) : wq (vc lim (d + 21) m_Law_act [aR x, aI v1, aI v2, aR o] h) (rI (RDO x o h (fun k => (k = 1 ∧ ¬ (0 ≤ v1.toInt ∧ v1.toInt < τ.1)) ∨ (k = 2 ∧ (0 ≤ v1.toInt ∧ v1.toInt < τ.1) ∧ ¬ (0 ≤ v2.toInt ∧ v2.toInt ≤ 5))) ((0 ≤ v1.toInt ∧ v1.toInt < τ.1) ∧ (0 ≤ v2.toInt ∧ v2.toInt ≤ 5)) (τ.2.2.1 v2.toInt.toNat v1.toInt.toNat).toInt64)) := by
  obtain ⟨bx, bh⟩ := LB_x B bd
  refine wq_eq e_Law_act (L_ax B ?_)
  obtain ⟨z, e, hz⟩ := kq_act (lim := lim) (d := d + 18) (v1 := v1) (v2 := v2) I hr
  refine wq_eq (congrArg (fun r => ah_cI r _ _) e) ?_
  rcases hz with ⟨n, rfl⟩ | ⟨g, n, rfl⟩ | ⟨g, g2, rfl⟩
  · exact show wq (ah_hx lim (d + 20) 275 5 _ h (202, h.2.1) (ah_new h (202, []) 6)) _ from wq_hx rfl rfl hM_275 rfl (wq_eq q_275_13 (wq_some (rI_i ⟨FR_x bh, Or.inl (Or.inl ⟨rfl, n⟩)⟩)))
  · exact show wq (ah_hx lim (d + 20) 275 5 _ h (200, h.2.1) (ah_new h (200, []) 6)) _ from wq_hx rfl rfl hM_275 rfl (wq_eq q_275_17 (wq_some (rI_i ⟨FR_x bh, Or.inl (Or.inr ⟨rfl, g, n⟩)⟩)))
  · exact L_lay B (fun _ => wq_some (rI_i ⟨FR_o bx, Or.inr ⟨rfl, ⟨g, g2⟩, up_eq⟩⟩))
theorem XL_about (B : LB b x m o L xs K κ σ h) (bd : x + 656 ≤ m ∧ m + 39 < o) (hr : rm lim h) : wq (vc lim (d + 21) m_Law_about [aR x, aI v1, aI v2, aR o] h) (rI fun _ h' => FR x o h h') := by
  obtain ⟨bx, bh⟩ := LB_x B bd
  refine wq_eq e_Law_about (L_ax B ?_)
  obtain ⟨z, e, hz⟩ := s_Code_about (lim := lim) (d := d + 17) (v1 := v1) (v2 := v2) B.2.1 B.2.2.2.1 hr
  refine wq_eq (congrArg (fun r => ah_cI r _ _) e) ?_
  rcases hz with ⟨i, h1, rfl, rfl, -⟩ | ⟨k, hk, rfl⟩
  · exact L_lay B (fun _ => wq_some (rI_i (FR_o bx)))
  · have hk : k = 200 ∨ k = 202 := by simpa using hk
    rcases hk with rfl | rfl
    · exact show wq (ah_hx lim (d + 20) 272 5 _ h (200, h.2.1) (ah_new h (200, []) 6)) _ from wq_hx rfl rfl hM_272 rfl (wq_eq q_272_17 (wq_some (rI_i (FR_x bh))))
    · exact show wq (ah_hx lim (d + 20) 272 5 _ h (202, h.2.1) (ah_new h (202, []) 6)) _ from wq_hx rfl rfl hM_272 rfl (wq_eq q_272_13 (wq_some (rI_i (FR_x bh))))
theorem XL_put (B : LB b x m o L xs K κ σ h) (I : KI x (c, τ, (nS, PS, eS), (nU, U), nD, PD, eD) h) (bd : x + 656 ≤ m ∧ m + 39 < o) (z2 : v2 = 0 ∨ v2 = 1) (hr : rm lim h) : wq (vc lim (d + 21) m_Law_put [aR x, aI v1, aI v2, aI v3, aI v4] h) (rI (MU x (c, τ, (nS, PS, eS), (nU, U), nD, PD, eD) (c, τ, (nS, PS, upS eS v1.toInt.toNat (tsP (eS v1.toInt.toNat) v2 v3 v4)), (nU, U), nD, PD, eD) h)) := by
  refine wq_eq e_Law_put (L_ax B ?_)
  obtain ⟨z, e, hz⟩ := s_Code_put (lim := lim) (d := d + 17) (v1 := v1) (v2 := v2) (v3 := v3) (v4 := v4) B.2.1 B.2.2.2.1 z2 hr
  obtain ⟨z', e', hz', fn, -⟩ := kq_put (lim := lim) (d := d + 17) (v1 := v1) (v2 := v2) (v3 := v3) (v4 := v4) I hr
  have ez := Option.some.inj (e'.symm.trans e)
  subst ez
  refine wq_eq (congrArg (fun r => ah_cV r _ _) e) ?_
  rcases hz with ⟨h1, rfl, -⟩ | ⟨k, hk, rfl⟩
  · rcases hz' with ⟨⟨_, _, q⟩, -⟩ | ⟨-, q⟩
    · cases q
    · exact wq_some (rI_i ⟨fn, Or.inr ⟨rfl, q⟩⟩)
  · rcases hz' with ⟨-, q⟩ | ⟨⟨_, q⟩, -⟩
    · have hk : k = 200 ∨ k = 202 := by simpa using hk
      rcases hk with rfl | rfl
      · exact show wq (ah_hx lim (d + 20) 265 6 _ h (200, h.2.1) (ah_new h (200, []) 6)) _ from wq_hx rfl rfl hM_265 rfl (wq_eq q_265_16 (wq_some (rI_i ⟨fn, Or.inl ⟨by decide, q⟩⟩)))
      · exact show wq (ah_hx lim (d + 20) 265 6 _ h (202, h.2.1) (ah_new h (202, []) 6)) _ from wq_hx rfl rfl hM_265 rfl (wq_eq q_265_12 (wq_some (rI_i ⟨fn, Or.inl ⟨by decide, q⟩⟩)))
    · cases q
theorem XL_mark (B : LB b x m o L xs K κ σ h) (I : KI x (c, τ, (nS, PS, eS), (nU, U), nD, PD, eD) h) (bd : x + 656 ≤ m ∧ m + 39 < o) (z2 : v2 = 0 ∨ v2 = 1) (z3 : v3 = 0 ∨ v3 = 1) (hr : rm lim h) : wq (vc lim (d + 21) m_Law_mark [aR x, aI v1, aI v2, aI v3] h) (rI (MU x (c, τ, (nS, PS, eS), (nU, U), nD, PD, eD) (c, τ, (nS, PS, upS eS v1.toInt.toNat ((eS v1.toInt.toNat).1, (eS v1.toInt.toNat).2.1, v2, v3, (eS v1.toInt.toNat).2.2.2.2)), (nU, U), nD, PD, eD) h)) := by
  refine wq_eq e_Law_mark (L_ax B ?_)
  obtain ⟨z, e, hz⟩ := s_Code_mark (lim := lim) (d := d + 18) (v1 := v1) (v2 := v2) (v3 := v3) B.2.1 B.2.2.2.1 z2 z3 hr
  obtain ⟨z', e', hz', fn, -⟩ := kq_mark (lim := lim) (d := d + 18) (v1 := v1) (v2 := v2) (v3 := v3) I z2 z3 hr
  have ez := Option.some.inj (e'.symm.trans e)
  subst ez
  refine wq_eq (congrArg (fun r => ah_cV r _ _) e) ?_
  rcases hz with ⟨h1, rfl, -⟩ | ⟨k, hk, rfl⟩
  · rcases hz' with ⟨⟨_, _, q⟩, -⟩ | ⟨-, q⟩
    · cases q
    · exact wq_some (rI_i ⟨fn, Or.inr ⟨rfl, q⟩⟩)
  · rcases hz' with ⟨-, q⟩ | ⟨⟨_, q⟩, -⟩
    · have hk : k = 202 := by simpa using hk
      subst hk
      exact show wq (ah_hx lim (d + 20) 266 4 _ h (202, h.2.1) (ah_new h (202, []) 6)) _ from wq_hx rfl rfl hM_266 rfl (wq_eq q_266_10 (wq_some (rI_i ⟨fn, Or.inl ⟨by decide, q⟩⟩)))
    · cases q
theorem XL_set (B : LB b x m o L xs K κ σ h) (I : KI x (c, τ, (nS, PS, eS), (nU, U), nD, PD, eD) h) (bd : x + 656 ≤ m ∧ m + 39 < o) (hr : rm lim h) : wq (vc lim (d + 21) m_Law_set [aR x, aI v1, aI v2, aI v3, aI v4] h) (rI (MU x (c, τ, (nS, PS, eS), (nU, U), nD, PD, eD) (c, τ, (nS, PS, eS), (nU, upS U v1.toInt.toNat ((U v1.toInt.toNat).1, (U v1.toInt.toNat).2.1, (U v1.toInt.toNat).2.2.1, (U v1.toInt.toNat).2.2.2.1, upS (U v1.toInt.toNat).2.2.2.2.1 v2.toInt.toNat (pChange ((U v1.toInt.toNat).2.2.2.2.1 v2.toInt.toNat).1 v3 v4, ((U v1.toInt.toNat).2.2.2.2.1 v2.toInt.toNat).2), (U v1.toInt.toNat).2.2.2.2.2)), nD, PD, eD) h)) := by
  refine wq_eq e_Law_set (L_ax B ?_)
  obtain ⟨z, e, hz⟩ := s_Code_set (lim := lim) (d := d + 17) (v1 := v1) (v2 := v2) (v3 := v3) (v4 := v4) B.2.1 B.2.2.2.1 hr
  obtain ⟨z', e', hz', fn, -⟩ := kq_set (lim := lim) (d := d + 16) (v1 := v1) (v2 := v2) (v3 := v3) (v4 := v4) I hr
  have ez := Option.some.inj (e'.symm.trans e)
  subst ez
  refine wq_eq (congrArg (fun r => ah_cV r _ _) e) ?_
  rcases hz with ⟨h1, rfl, -⟩ | ⟨k, hk, rfl⟩
  · rcases hz' with ⟨⟨_, _, q⟩, -⟩ | ⟨-, q⟩
    · cases q
    · exact wq_some (rI_i ⟨fn, Or.inr ⟨rfl, q⟩⟩)
  · rcases hz' with ⟨-, q⟩ | ⟨⟨_, q⟩, -⟩
    · have hk : k = 200 ∨ k = 202 := by simpa using hk
      rcases hk with rfl | rfl
      · exact show wq (ah_hx lim (d + 20) 268 6 _ h (200, h.2.1) (ah_new h (200, []) 6)) _ from wq_hx rfl rfl hM_268 rfl (wq_eq q_268_16 (wq_some (rI_i ⟨fn, Or.inl ⟨by decide, q⟩⟩)))
      · exact show wq (ah_hx lim (d + 20) 268 6 _ h (202, h.2.1) (ah_new h (202, []) 6)) _ from wq_hx rfl rfl hM_268 rfl (wq_eq q_268_12 (wq_some (rI_i ⟨fn, Or.inl ⟨by decide, q⟩⟩)))
    · cases q
end Xl
