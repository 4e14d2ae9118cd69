/-! THE REFERENCE'S CALLS THAT ASK -/
section Zzh
variable {lim : Nat × Nat} {d m nS nU nD : Nat} {eS : Nat → TS} {U : Nat → UD} {τ : TD} {dc da db : Nat → Int32} {Bf Vf : Nat → Nat} {hf : Nat → Nat → Nat} {σ : rS} {bb h : ah_H} {v1 v2 v3 : Int32}
theorem x_get (H : RH m σ bb h) (X : RQ nS eS nU U τ nD dc da db Bf Vf hf σ) : wq (vc lim (d + 3) m_Ref_get [aR m, aI v1, aI v2] h) (rI fun y h' => ∃ e : Int32, RH m (sG σ 0 e) bb h' ∧ ((e = 1 ∧ ¬ gtK nS eS v1 v2) ∨ (e = 0 ∧ gtK nS eS v1 v2 ∧ y = pElem (eS v1.toInt.toNat).1 v2))) := r_get H X.1.2.1 X.1.2.2.1.1
theorem x_variableOf (H : RH m σ bb h) (X : RQ nS eS nU U τ nD dc da db Bf Vf hf σ) : wq (vc lim (d + 3) m_Ref_variableOf [aR m, aI v1, aI v2, aI v3] h) (rI fun y h' => ∃ e : Int32, RH m (sG σ 0 e) bb h' ∧ ((e = 1 ∧ ¬ voK nU (U v1.toInt.toNat).2.2.1 (U v1.toInt.toNat).2.2.2.2.1 v1 v2 v3) ∨ (e = 0 ∧ voK nU (U v1.toInt.toNat).2.2.1 (U v1.toInt.toNat).2.2.2.2.1 v1 v2 v3 ∧ y = pElem ((U v1.toInt.toNat).2.2.2.2.1 v2.toInt.toNat).1 v3))) := r_varOf H X.1.2.2.1.2.1 X.1.2.2.1.2.2.1 (fun c => by
  obtain ⟨-, p2, -, p4, -⟩ := X.1.2.2.2.2.2.1 v1.toInt.toNat (by omega)
  exact ⟨p2, p4⟩)
/-- what waits asks of the processes -/
theorem RQ_w (X : RQ nS eS nU U τ nD dc da db Bf Vf hf σ) : ∀ j, j < nU → PO (U j).2.1 ∧ (¬ (U j).2.2.2.2.2.1.1 = 1 → (U j).2.2.2.2.2.1.2.2.2.2.2.2.1 = -1) ∧ ((U j).2.2.2.2.2.1.1 = 1 → rgN (U j).2.1 (U j).2.2.2.2.2.1.2.2.2.2.2.2.1 ∧ kf (U j).2.1 6 (U j).2.2.2.2.2.1.2.2.2.2.2.2.1 = 3) := fun j hj => by
  obtain ⟨⟨p1, -⟩, -⟩ := X.1.2.2.2.2.2.1 j hj
  obtain ⟨kV, ⟨g1, g2, g3, g4, g5, g6⟩, -⟩ := X.2.1 j hj
  refine ⟨p1, fun q => congrArg (fun z : Int32 × Int64 => z.1) (g4 q), fun q => ?_⟩
  obtain ⟨hv, h44⟩ := g5 q
  have GG : GK (kE (U j) nS eS) (kSe eS) kV := GKA_gk g1
  exact ⟨hv, ((GG.2.2.2.1 _ hv).2.2.2.2.2.2.2.2.1 h44).1⟩
theorem x_waits (H : RH m σ bb h) (X : RQ nS eS nU U τ nD dc da db Bf Vf hf σ) : wq (vc lim (d + 2) m_Ref_waits [aR m, aI v1, aI v2] h) (rI fun y h' => ∃ e : Int32, RH m (sG σ 0 e) bb h' ∧ ((e = 1 ∧ ¬ wtK (U v1.toInt.toNat).2.1 nU (U v1.toInt.toNat).2.2.2.2.2.1 v1 v2) ∨ (e = 0 ∧ wtK (U v1.toInt.toNat).2.1 nU (U v1.toInt.toNat).2.2.2.2.2.1 v1 v2 ∧ y = wtX (U v1.toInt.toNat).2.1 (U v1.toInt.toNat).2.2.2.2.2.1 v2))) := by
  by_cases c : 0 ≤ v1.toInt ∧ v1.toInt < nU
  · have hj : v1.toInt.toNat < nU := by omega
    obtain ⟨⟨p1, -⟩, p2, ⟨s20, -, s1⟩, -⟩ := X.1.2.2.2.2.2.1 v1.toInt.toNat hj
    obtain ⟨-, -, w⟩ := RQ_w X v1.toInt.toNat hj
    exact r_waits H X.1.2.2.1.2.1 X.1.2.2.1.2.2.1 p1 (fun _ => ⟨s20, fun q => ⟨p2.1, (s1 q).1, (w q).1, (w q).2⟩⟩)
  · refine wq_mono (r_waits (T := (0, fun _ _ => 0, fun _ _ => 0)) (s := usN) (B := 0) (v2 := v2) H X.1.2.2.1.2.1 X.1.2.2.1.2.2.1 PO_0 (fun q => absurd q c)) ?_
    rintro z ⟨y, h', rfl, e, H', ⟨e1, -⟩ | ⟨-, g, -⟩⟩
    · exact ⟨y, h', rfl, e, H', Or.inl ⟨e1, fun q => c q.1⟩⟩
    · exact absurd g.1 c
theorem x_until (H : RH m σ bb h) (X : RQ nS eS nU U τ nD dc da db Bf Vf hf σ) : wq (vc lim (d + 2) m_Ref_until [aR m, aI v1] h) (rJ fun y h' => ∃ e : Int32, RH m (sG σ 0 e) bb h' ∧ ((e = 1 ∧ ¬ (0 ≤ v1.toInt ∧ v1.toInt < nU)) ∨ (e = 0 ∧ (0 ≤ v1.toInt ∧ v1.toInt < nU) ∧ y = (U v1.toInt.toNat).2.2.2.2.2.1.2.2.2.2.2.2.2))) := by
  refine wq_mono (r_until (s := (U v1.toInt.toNat).2.2.2.2.2.1) H X.1.2.2.1.2.1 X.1.2.2.1.2.2.1 (fun c => ?_)) ?_
  · obtain ⟨-, -, ⟨s20, -, s1⟩, -⟩ := X.1.2.2.2.2.2.1 v1.toInt.toNat (by omega)
    exact ⟨s20, fun q => (s1 q).2⟩
  · rintro z ⟨y, h', rfl, e, H', ⟨e1, g⟩ | ⟨e0, g, ey⟩⟩
    · exact ⟨y, h', rfl, e, H', Or.inl ⟨e1, g⟩⟩
    · refine ⟨y, h', rfl, e, H', Or.inr ⟨e0, g, ?_⟩⟩
      obtain ⟨kV, ⟨-, -, -, g4, -⟩, -⟩ := X.2.1 v1.toInt.toNat (by omega)
      rw [ey]
      by_cases q : (U v1.toInt.toNat).2.2.2.2.2.1.1 = 1
      · rw [if_pos q]
      · rw [if_neg q]
        exact (congrArg (fun z : Int32 × Int64 => z.2) (g4 q)).symm
theorem x_acts (H : RH m σ bb h) (X : RQ nS eS nU U τ nD dc da db Bf Vf hf σ) : wq (vc lim (d + 1) m_Ref_acts [aR m] h) (rI fun y h' => RH m (sG σ 0 0) bb h' ∧ y = Nat.toInt32 τ.1) := r_acts H X.1.2.2.2.1
theorem x_act (H : RH m σ bb h) (X : RQ nS eS nU U τ nD dc da db Bf Vf hf σ) : wq (vc lim (d + 1) m_Ref_act2 [aR m, aI v1, aI v2] h) (rI fun y h' => ∃ e : Int32, RH m (sG σ 0 e) bb h' ∧ acR τ v1 v2 y e) := r_act2 H X.1.2.2.2.1
theorem x_value (H : RH m σ bb h) (X : RQ nS eS nU U τ nD dc da db Bf Vf hf σ) : wq (vc lim (d + 3) m_Ref_value [aR m, aI v1, aI v2, aI v3] h) (rI fun y h' => ∃ e : Int32, RH m (sG σ 0 e) bb h' ∧ ((e = 1 ∧ ¬ vlK τ v1 v2 v3) ∨ (e = 0 ∧ vlK τ v1 v2 v3 ∧ y = vlX τ v1 v2 v3))) := r_value H X.1.2.2.2.1
theorem x_delay (H : RH m σ bb h) (X : RQ nS eS nU U τ nD dc da db Bf Vf hf σ) : wq (vc lim (d + 2) m_Ref_delay [aR m, aI v1, aI v2] h) (rJ fun y h' => ∃ e : Int32, RH m (sG σ 0 e) bb h' ∧ ((e = 1 ∧ ¬ dlK τ v1 v2) ∨ (e = 0 ∧ dlK τ v1 v2 ∧ y = dlX τ v1 v2))) := r_delay H X.1.2.2.2.1
/-- the same refusal, the same answer -/
theorem ro_I {P : Prop} {e k y a : Int32} {o : Nat} {h4 : ah_H} (he : (e = 1 ∧ ¬ P) ∨ (e = 0 ∧ P ∧ y = a)) (hk : (k = 1 ∧ ¬ P) ∨ (k = 0 ∧ P ∧ h4.1 o = some (101, [aJ a.toInt64]))) : e = k ∧ (k = 0 → h4.1 o = some (101, [aJ y.toInt64])) := by
  rcases he with ⟨a1, a2⟩ | ⟨a1, a2, a3⟩
  · rcases hk with ⟨b1, b2⟩ | ⟨b1, b2, b3⟩
    · exact ⟨a1.trans b1.symm, fun q => absurd (b1.symm.trans q) (by decide)⟩
    · exact absurd b2 a2
  · rcases hk with ⟨b1, b2⟩ | ⟨b1, b2, b3⟩
    · exact absurd a2 b2
    · exact ⟨a1.trans b1.symm, fun _ => by rw [a3]; exact b3⟩
theorem ro_J {P : Prop} {e k : Int32} {y a : Int64} {o : Nat} {h4 : ah_H} (he : (e = 1 ∧ ¬ P) ∨ (e = 0 ∧ P ∧ y = a)) (hk : (k = 1 ∧ ¬ P) ∨ (k = 0 ∧ P ∧ h4.1 o = some (101, [aJ a]))) : e = k ∧ (k = 0 → h4.1 o = some (101, [aJ y])) := by
  rcases he with ⟨a1, a2⟩ | ⟨a1, a2, a3⟩
  · rcases hk with ⟨b1, b2⟩ | ⟨b1, b2, b3⟩
    · exact ⟨a1.trans b1.symm, fun q => absurd (b1.symm.trans q) (by decide)⟩
    · exact absurd b2 a2
  · rcases hk with ⟨b1, b2⟩ | ⟨b1, b2, b3⟩
    · exact absurd a2 b2
    · exact ⟨a1.trans b1.symm, fun _ => by rw [a3]; exact b3⟩
theorem wq_aJ {A : Option ah_R} {P Q : Int64 → ah_H → Prop} (a : wq A (rJ P)) (c : wq A (rJ Q)) : wq A (rJ fun x h => P x h ∧ Q x h) := by
  obtain ⟨z, e, x, h1, rfl, p⟩ := a
  obtain ⟨z2, e2, x2, h2, e3, q⟩ := c
  rw [e] at e2
  cases e2
  cases e3
  exact ⟨_, e, x, h1, rfl, p, q⟩
end Zzh
