/-! THE LOOKER: loops around a node, branches -/
/-- the innermost loop from u up: n steps are enough -/
def lpO (σ : rS) : Nat → Int32 → Int32
  | 0, u => u
  | n + 1, u => if u = -1 then -1 else if 38 ≤ (kO σ u).toInt ∧ (kO σ u).toInt ≤ 41 then u else lpO σ n (uO σ u)
section Le
variable {lim : Nat × Nat} {d nd mk sg lk vr ht rt : Nat} {A : Nat → Nat} {Ls : Nat → List AV} {kt v i rc g n : Int32} {σ : rS} {h : ah_H}
theorem n_isLoop (N : NR nd A Ls kt σ h) (hv : dN σ v) : wq (vc lim (d + 2) m_Nodes_isLoop [.inr (.inr (some nd)), .inl v] h) (rI fun x h' => h' = h ∧ bo (38 ≤ (kO σ v).toInt ∧ (kO σ v).toInt ≤ 41) x) := by
  have e1 : (38 : Int32).toInt = 38 := rfl
  have e2 : (41 : Int32).toInt = 41 := rfl
  refine wq_eq e_Nodes_isLoop (wq_at N.1 (wq_cI (n_kindOf N hv) ?_))
  rintro x h1 ⟨e, rfl⟩
  cases e
  refine wq_if _ (fun c => r0 rfl (fun q => ?_)) (fun c => wq_if _ (fun c2 => r1 rfl ?_) (fun c2 => r0 rfl (fun q => ?_)))
  · have := lt_i c
    omega
  · have := nlt_i c
    have := le_i c2
    omega
  · have := nle_i c2
    omega
theorem lo_loop (D : DI σ) (N : NR nd A Ls kt σ h) : ∀ (r : Nat) (u f : Int32), dN σ u → 0 ≤ f.toInt → f.toInt + r = (σ.1 19).toInt → wq (ah_val lim ah_P (d + 2) 202 8 [some (.inr (.inr (some nd))), none, some (.inl u), some (.inl f)] [] h) (rI fun x h' => h' = h ∧ x = lpO σ r u) := by
  have e1 : (1 : Int32).toInt = 1 := rfl
  have d1 := D.2.1
  intro r
  induction r with
  | zero =>
    intro u f hu f0 hr
    refine wq_eq q_202_8 (wq_gI N.1 rfl (wq_f (fun c => ?_) (wq_some (rI_i ⟨rfl, rfl⟩))))
    have := lt_i c
    omega
  | succ r ih =>
    intro u f hu f0 hr
    refine wq_eq q_202_8 (wq_gI N.1 rfl (wq_t (Int32.lt_iff_toInt_lt.mpr (by omega)) (wq_if _ (fun c => wq_some (rI_i ⟨rfl, ?_⟩)) (fun c => wq_at N.1 (wq_cI (n_isLoop N hu) ?_)))))
    · unfold lpO
      rw [if_pos c]
      exact c
    · rintro x h1 ⟨e, b⟩
      cases e
      have ef : (f + 1).toInt = f.toInt + 1 := by rw [ad_i (by omega) (by omega), e1]
      refine wq_if _ (fun c2 => wq_at N.1 (wq_cI (n_parentOf N hu) ?_)) (fun c2 => wq_some (rI_i ⟨rfl, ?_⟩))
      · rintro x h1 ⟨e, rfl⟩
        cases e
        obtain ⟨z, ez, x, h2, rfl, e, q⟩ := ih (uO σ u) (f + 1) (dN_u D hu) (by omega) (by omega)
        refine ⟨_, ez, x, h2, rfl, e, q.trans ?_⟩
        show _ = (if u = -1 then -1 else if 38 ≤ (kO σ u).toInt ∧ (kO σ u).toInt ≤ 41 then u else lpO σ r (uO σ u))
        rw [if_neg c, if_neg (bo_n b c2)]
      · show u = (if u = -1 then -1 else if 38 ≤ (kO σ u).toInt ∧ (kO σ u).toInt ≤ 41 then u else lpO σ r (uO σ u))
        rw [if_neg c, if_pos (bo_p b c2)]
theorem n_loopOf (D : DI σ) (N : NR nd A Ls kt σ h) (hv : dN σ v) : wq (vc lim (d + 3) m_Nodes_loopOf [.inr (.inr (some nd)), .inl v] h) (rI fun x h' => h' = h ∧ x = lpO σ (σ.1 19).toInt.toNat (uO σ v)) := by
  have d0 := D.1
  refine wq_eq e_Nodes_loopOf (wq_at N.1 (wq_cI (n_parentOf N hv) ?_))
  rintro x h1 ⟨e, rfl⟩
  cases e
  exact lo_loop D N _ _ _ (dN_u D hv) (by decide) (by show (0 : Int) + _ = _; omega)
end Le
