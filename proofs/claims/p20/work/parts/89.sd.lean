/-! THE LOOKER: children or nothing, choices, functions of an edge -/
section Lc
variable {lim : Nat × Nat} {d nd mk sg lk vr ht rt : Nat} {A : Nat → Nat} {Ls : Nat → List AV} {kt v i rc : Int32} {σ : rS} {h : ah_H}
theorem n_isKidOrNothing {w : Int32} (hl : h.1 lk = some (3, [aR mk, aR nd, aR sg])) (D : DI σ) (N : NR nd A Ls kt σ h) (hv : dN σ v) (hi : 0 ≤ i.toInt) : wq (vc lim (d + 3) m_Looker_isKidOrNothing [.inr (.inr (some lk)), .inl v, .inl i, .inl w] h) (rI fun x h' => h' = h ∧ bo (kO σ (cO σ v i.toInt.toNat) = w ∨ kO σ (cO σ v i.toInt.toNat) = 0) x) := by
  refine wq_eq e_Looker_isKidOrNothing (wq_at hl (wq_cI (n_kidKind hl D N hv hi) ?_))
  rintro x h1 ⟨e, rfl⟩
  cases e
  exact wq_if _ (fun c => r1 rfl (Or.inl c)) (fun c => wq_if _ (fun c1 => r1 rfl (Or.inr c1)) (fun c1 => r0 rfl (fun q => q.elim c c1)))
theorem n_isExpressionOrNothing (hl : h.1 lk = some (3, [aR mk, aR nd, aR sg])) (D : DI σ) (N : NR nd A Ls kt σ h) (hv : dN σ v) (hi : 0 ≤ i.toInt) : wq (vc lim (d + 4) m_Looker_isExpressionOrNothing [.inr (.inr (some lk)), .inl v, .inl i] h) (rI fun x h' => h' = h ∧ bo (isX (kO σ (cO σ v i.toInt.toNat)).toInt ∨ kO σ (cO σ v i.toInt.toNat) = 0) x) := by
  refine wq_eq e_Looker_isExpressionOrNothing (wq_at hl (wq_cI (n_isExpressionKid hl D N hv hi) ?_))
  rintro x h1 ⟨e, b⟩
  cases e
  refine wq_if _ (fun c => wq_at hl (wq_cI (n_kidKind hl D N hv hi) ?_)) (fun c => r1 rfl (Or.inl (bo_p b c)))
  rintro x h1 ⟨e, rfl⟩
  cases e
  exact wq_if _ (fun c1 => r1 rfl (Or.inr c1)) (fun c1 => r0 rfl (fun q => q.elim (bo_n b c) c1))
theorem isC_i {k : Int32} : isC k.toInt ↔ (k = 37 ∨ ((2 : Int32).toInt ≤ k.toInt ∧ k.toInt ≤ (4 : Int32).toInt)) := by
  have e1 : (2 : Int32).toInt = 2 := rfl
  have e2 : (4 : Int32).toInt = 4 := rfl
  have e3 : (37 : Int32).toInt = 37 := rfl
  have e4 : k = 37 ↔ k.toInt = 37 := ⟨fun q => by rw [q, e3], fun q => Int32.toInt_inj.mp (by rw [q, e3])⟩
  unfold isC
  rw [e4]
  omega
theorem co_loop (hl : h.1 lk = some (3, [aR mk, aR nd, aR sg])) (D : DI σ) (N : NR nd A Ls kt σ h) (hv : dN σ v) : ∀ (r : Nat) (f : Int32), 0 ≤ f.toInt → f.toInt ≤ 5000 → 5000 - f.toInt < r → wq (ah_val lim ah_P (d + 2) 175 2 [some (.inr (.inr (some lk))), some (.inl v), some (.inl f), none] [] h) (rI fun x h' => h' = h ∧ bo (kO σ v = 48 ∧ 1 ≤ (mO σ v).toInt ∧ kA σ v f.toInt.toNat (fun k => isC k.toInt)) x) := by
  have e1 : (1 : Int32).toInt = 1 := rfl
  obtain ⟨m0, m1⟩ := mO_b D hv
  intro r
  induction r with
  | zero => intros; omega
  | succ r ih =>
    intro f f0 f1 hr
    refine wq_eq q_175_2 (wq_gR hl rfl (wq_at N.1 (wq_cI (n_kidsOf N hv) ?_)))
    rintro x h1 ⟨e, rfl⟩
    cases e
    refine wq_if _ (fun c => wq_at hl (wq_cI (n_kidKind hl D N hv f0) ?_)) (fun c => wq_gR hl rfl (wq_at N.1 (wq_cI (n_kindOf N hv) ?_)))
    · have c := lt_i c
      rintro x h1 ⟨e, rfl⟩
      cases e
      have ef : (f + 1).toInt = f.toInt + 1 := by rw [ad_i (by omega) (by omega), e1]
      have hf : ((f.toInt.toNat : Nat) : Int) < (mO σ v).toInt := by omega
      have go : isC (kO σ (cO σ v f.toInt.toNat)).toInt → wq (ah_val lim ah_P (d + 2) 175 2 [some (.inr (.inr (some lk))), some (.inl v), some (.inl (f + 1)), none] [] h) (rI fun x h' => h' = h ∧ bo (kO σ v = 48 ∧ 1 ≤ (mO σ v).toInt ∧ kA σ v f.toInt.toNat (fun k => isC k.toInt)) x) := by
        intro g
        obtain ⟨z, ez, x, h2, rfl, e, b⟩ := ih (f + 1) (by omega) (by omega) (by omega)
        refine ⟨_, ez, x, h2, rfl, e, bo_i b ?_⟩
        rw [ef, show (f.toInt + 1).toNat = f.toInt.toNat + 1 by omega, kA_s hf]
        exact ⟨fun q => ⟨q.1, q.2.1, g, q.2.2⟩, fun q => ⟨q.1, q.2.1, q.2.2.2⟩⟩
      refine wq_if _ (fun c2 => go (isC_i.mpr (Or.inl c2))) (fun c2 => wq_cI n_isWithin ?_)
      rintro y h3 ⟨e, b3⟩
      cases e
      exact wq_if _ (fun c3 => r0 rfl (fun q => (isC_i.mp ((kA_s hf).mp q.2.2).1).elim c2 (bo_n b3 c3))) (fun c3 => go (isC_i.mpr (Or.inr (bo_p b3 c3))))
    · have c := nlt_i c
      rintro x h1 ⟨e, rfl⟩
      cases e
      refine wq_if _ (fun c2 => wq_gR hl rfl (wq_at N.1 (wq_cI (n_kidsOf N hv) ?_))) (fun c2 => r0 rfl (fun q => c2 q.1))
      rintro x h1 ⟨e, rfl⟩
      cases e
      refine wq_if _ (fun c3 => r0 rfl (fun q => ?_)) (fun c3 => r1 rfl ⟨c2, ?_, kA_e (by omega)⟩)
      · have := lt_i c3
        omega
      · have := nlt_i c3
        omega
theorem n_areChoices (hl : h.1 lk = some (3, [aR mk, aR nd, aR sg])) (D : DI σ) (N : NR nd A Ls kt σ h) (hv : dN σ v) : wq (vc lim (d + 3) m_Looker_areChoices [.inr (.inr (some lk)), .inl v] h) (rI fun x h' => h' = h ∧ bo (kO σ v = 48 ∧ 1 ≤ (mO σ v).toInt ∧ kA σ v 0 (fun k => isC k.toInt)) x) :=
  wq_eq e_Looker_areChoices (co_loop hl D N hv 5001 0 (by decide) (by decide) (by decide))
end Lc
