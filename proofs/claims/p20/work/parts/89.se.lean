/-! THE LOOKER: functions, loops around a node -/
def fnE (σ : rS) (v n : Int32) : Prop := n = 1 ∧ kO σ (cO σ v 0) = 80 ∧ tOK σ (cO σ v 0) ∧ tF σ (cO σ v 0) 0 = 0
def fnP (σ : rS) (v g n : Int32) : Prop := if g = 8 ∨ g = 9 then fnE σ v n else if g = 10 then n = 1 ∧ isX (kO σ (cO σ v 0)).toInt else if g = 11 then n = 2 ∧ isX (kO σ (cO σ v 0)).toInt ∧ kO σ (cO σ v 1) = 2 ∧ 1 ≤ (gO σ (cO σ v 1)).toInt ∧ (gO σ (cO σ v 1)).toInt ≤ 64 else False
section Ld
variable {lim : Nat × Nat} {d nd mk sg lk vr ht rt : Nat} {A : Nat → Nat} {Ls : Nat → List AV} {kt v i rc g n : Int32} {σ : rS} {h : ah_H}
theorem fn_edge (hl : h.1 lk = some (3, [aR mk, aR nd, aR sg])) (hm : h.1 mk = some (4, [aR nd, aR vr, aR ht, aR rt, aI rc])) (D : DI σ) (N : NR nd A Ls kt σ h) (T1 : TR sg (σ.1 7) (fun j i => sF σ i j) h) (T2 : TR vr (σ.1 9) (fun j i => sF σ (9216 + i) j) h) (hv : dN σ v) : wq (ah_val lim ah_P (d + 3) 168 32 [some (.inr (.inr (some lk))), some (.inl v), none, some (.inl n)] [] h) (rI fun x h' => h' = h ∧ bo (fnE σ v n) x) := by
  refine wq_eq q_168_32 (wq_if _ (fun c => wq_at hl (wq_cI (n_kidKind hl D N hv (by decide)) ?_)) (fun c => r0 rfl (fun q => c q.1)))
  rintro x h1 ⟨e, rfl⟩
  cases e
  refine wq_if _ (fun c1 => wq_gR hl rfl (wq_at N.1 (wq_cI (n_kid D N hv (by decide)) ?_))) (fun c1 => r0 rfl (fun q => c1 q.2.1))
  rintro x h1 ⟨e, rfl⟩
  cases e
  refine wq_at hl (wq_cI (n_isThing hl hm N T1 T2 (dN_ch D hv _)) ?_)
  rintro x h1 ⟨e, b⟩
  cases e
  exact wq_if _ (fun c2 => r0 rfl (fun q => bo_n b c2 q.2.2)) (fun c2 => r1 rfl ⟨c, c1, bo_p b c2⟩)
theorem n_isFunction (hl : h.1 lk = some (3, [aR mk, aR nd, aR sg])) (hm : h.1 mk = some (4, [aR nd, aR vr, aR ht, aR rt, aI rc])) (D : DI σ) (N : NR nd A Ls kt σ h) (T1 : TR sg (σ.1 7) (fun j i => sF σ i j) h) (T2 : TR vr (σ.1 9) (fun j i => sF σ (9216 + i) j) h) (hv : dN σ v) : wq (vc lim (d + 4) m_Looker_isFunction [.inr (.inr (some lk)), .inl v, .inl g, .inl n] h) (rI fun x h' => h' = h ∧ bo (fnP σ v g n) x) := by
  refine wq_eq e_Looker_isFunction (wq_if _ (fun c8 => ?_) (fun c8 => wq_if _ (fun c9 => ?_) (fun c9 => ?_)))
  · have e : fnP σ v g n = fnE σ v n := if_pos (Or.inl c8)
    rw [e]
    exact fn_edge hl hm D N T1 T2 hv
  · have e : fnP σ v g n = fnE σ v n := if_pos (Or.inr c9)
    rw [e]
    exact fn_edge hl hm D N T1 T2 hv
  have e : fnP σ v g n = (if g = 10 then n = 1 ∧ isX (kO σ (cO σ v 0)).toInt else if g = 11 then n = 2 ∧ isX (kO σ (cO σ v 0)).toInt ∧ kO σ (cO σ v 1) = 2 ∧ 1 ≤ (gO σ (cO σ v 1)).toInt ∧ (gO σ (cO σ v 1)).toInt ≤ 64 else False) := if_neg (fun q => q.elim c8 c9)
  rw [e]
  refine wq_if _ (fun c10 => ?_) (fun c10 => ?_)
  · rw [if_pos c10]
    refine wq_if _ (fun c => wq_at hl (wq_cI (n_isExpressionKid hl D N hv (by decide)) ?_)) (fun c => r0 rfl (fun q => c q.1))
    rintro x h1 ⟨e, b⟩
    cases e
    exact wq_if _ (fun c2 => r0 rfl (fun q => bo_n b c2 q.2)) (fun c2 => r1 rfl ⟨c, bo_p b c2⟩)
  · rw [if_neg c10]
    refine wq_if _ (fun c11 => ?_) (fun c11 => ?_)
    · rw [if_pos c11]
      refine wq_if _ (fun c => wq_at hl (wq_cI (n_isExpressionKid hl D N hv (by decide)) ?_)) (fun c => r0 rfl (fun q => c q.1))
      rintro x h1 ⟨e, b⟩
      cases e
      refine wq_if _ (fun c2 => r0 rfl (fun q => bo_n b c2 q.2.1)) (fun c2 => wq_at hl (wq_cI (n_kidKind hl D N hv (by decide)) ?_))
      rintro x h1 ⟨e, rfl⟩
      cases e
      refine wq_if _ (fun c3 => wq_gR hl rfl (wq_gR hl rfl (wq_at N.1 (wq_cI (n_kid D N hv (by decide)) ?_)))) (fun c3 => r0 rfl (fun q => c3 q.2.2.1))
      rintro x h1 ⟨e, rfl⟩
      cases e
      refine wq_at N.1 (wq_cI (n_givenOf N (dN_ch D hv _)) ?_)
      rintro x h1 ⟨e, rfl⟩
      cases e
      refine wq_cI n_isWithin ?_
      rintro x h1 ⟨e, b2⟩
      cases e
      exact wq_if _ (fun c4 => r0 rfl (fun q => bo_n b2 c4 q.2.2.2)) (fun c4 => r1 rfl ⟨c, bo_p b c2, c3, bo_p b2 c4⟩)
    · rw [if_neg c11]
      exact r0 rfl (fun q => q)
end Ld
