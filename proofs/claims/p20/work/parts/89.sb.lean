/-! THE CLASS'S LOOKER AGAINST THE REFERENCE'S NODES -/
/-- a boolean that says P -/
def bo (P : Prop) (x : Int32) : Prop := (x = 1 ∧ P) ∨ (x = 0 ∧ ¬ P)
theorem bo_1 {P : Prop} (p : P) : bo P 1 := Or.inl ⟨rfl, p⟩
theorem bo_0 {P : Prop} (p : ¬ P) : bo P 0 := Or.inr ⟨rfl, p⟩
theorem bo_i {P Q : Prop} {x : Int32} (b : bo P x) (h : P ↔ Q) : bo Q x := b.elim (fun q => Or.inl ⟨q.1, h.mp q.2⟩) (fun q => Or.inr ⟨q.1, fun g => q.2 (h.mpr g)⟩)
theorem bo_z {P : Prop} {x : Int32} (b : bo P x) : x = 0 ∨ x = 1 := b.elim (fun q => Or.inr q.1) (fun q => Or.inl q.1)
theorem bo_n {P : Prop} {x : Int32} (b : bo P x) (c : x = 0) : ¬ P := b.elim (fun q => absurd (q.1.symm.trans c) (by decide)) (fun q => q.2)
theorem bo_p {P : Prop} {x : Int32} (b : bo P x) (c : ¬ x = 0) : P := b.elim (fun q => q.2) (fun q => absurd q.1 c)
section Lk
variable {lim : Nat × Nat} {d nd mk sg lk : Nat} {A : Nat → Nat} {Ls : Nat → List AV} {kt v i : Int32} {σ : rS} {h : ah_H}
theorem r1 {h' : ah_H} {P : Prop} (e : h' = h) (p : P) : wq (if (1 : Int32) = 0 ∨ (1 : Int32) = 1 then some ((.inl (some (.inl (1 : Int32))), h') : ah_R) else none) (rI fun x h' => h' = h ∧ bo P x) := wq_t (Or.inr rfl) (wq_some (rI_i ⟨e, bo_1 p⟩))
theorem r0 {h' : ah_H} {P : Prop} (e : h' = h) (p : ¬ P) : wq (if (0 : Int32) = 0 ∨ (0 : Int32) = 1 then some ((.inl (some (.inl (0 : Int32))), h') : ah_R) else none) (rI fun x h' => h' = h ∧ bo P x) := wq_t (Or.inl rfl) (wq_some (rI_i ⟨e, bo_0 p⟩))
theorem n_isWithin {a c : Int32} : wq (vc lim (d + 1) m_Looker_isWithin [.inl v, .inl a, .inl c] h) (rI fun x h' => h' = h ∧ bo (a.toInt ≤ v.toInt ∧ v.toInt ≤ c.toInt) x) := by
  refine wq_eq e_Looker_isWithin (wq_if _ (fun c1 => r0 rfl (fun q => ?_)) (fun c1 => wq_if _ (fun c2 => r1 rfl ⟨nlt_i c1, le_i c2⟩) (fun c2 => r0 rfl (fun q => ?_))))
  · have := lt_i c1
    omega
  · have := nle_i c2
    omega
theorem n_isExpression : wq (vc lim (d + 2) m_Looker_isExpression [.inl v] h) (rI fun x h' => h' = h ∧ bo (isX v.toInt) x) := by
  have e2 : (2 : Int32).toInt = 2 := rfl
  have e4 : (4 : Int32).toInt = 4 := rfl
  have e20 : (20 : Int32).toInt = 20 := rfl
  have e21 : (21 : Int32).toInt = 21 := rfl
  have e80 : (80 : Int32).toInt = 80 := rfl
  have e85 : (85 : Int32).toInt = 85 := rfl
  refine wq_eq e_Looker_isExpression (wq_cI n_isWithin ?_)
  rintro x h1 ⟨e, b⟩
  cases e
  refine wq_if _ (fun c => wq_if _ (fun c1 => r1 rfl ?_) (fun c1 => wq_if _ (fun c2 => r1 rfl ?_) (fun c2 => wq_cI n_isWithin ?_))) (fun c => r1 rfl ?_)
  · have := congrArg Int32.toInt c1
    unfold isX
    omega
  · have := congrArg Int32.toInt c2
    unfold isX
    omega
  · rintro y h3 ⟨e, b2⟩
    cases e
    have n := bo_n b c
    have n1 := ne_i c1
    have n2 := ne_i c2
    refine wq_if _ (fun c3 => r0 rfl ?_) (fun c3 => r1 rfl ?_)
    · have n3 := bo_n b2 c3
      unfold isX
      omega
    · have n3 := bo_p b2 c3
      unfold isX
      omega
  · have := bo_p b c
    unfold isX
    omega
theorem n_isStatement : wq (vc lim (d + 2) m_Looker_isStatement [.inl v] h) (rI fun x h' => h' = h ∧ bo (isS v.toInt) x) := by
  have e1 : (30 : Int32).toInt = 30 := rfl
  have e2 : (33 : Int32).toInt = 33 := rfl
  have e3 : (35 : Int32).toInt = 35 := rfl
  have e4 : (38 : Int32).toInt = 38 := rfl
  have e5 : (47 : Int32).toInt = 47 := rfl
  refine wq_eq e_Looker_isStatement (wq_if _ (fun c => r1 rfl ?_) (fun c => wq_cI n_isWithin ?_))
  · have := congrArg Int32.toInt c
    unfold isS
    omega
  · have n := ne_i c
    rintro x h1 ⟨e, b⟩
    cases e
    refine wq_if _ (fun c1 => wq_cI n_isWithin ?_) (fun c1 => r1 rfl ?_)
    · have n1 := bo_n b c1
      rintro y h3 ⟨e, b2⟩
      cases e
      refine wq_if _ (fun c3 => r0 rfl ?_) (fun c3 => r1 rfl ?_)
      · have n3 := bo_n b2 c3
        unfold isS
        omega
      · have n3 := bo_p b2 c3
        unfold isS
        omega
    · have := bo_p b c1
      unfold isS
      omega
theorem n_kidKind (hl : h.1 lk = some (3, [aR mk, aR nd, aR sg])) (D : DI σ) (N : NR nd A Ls kt σ h) (hv : dN σ v) (hi : 0 ≤ i.toInt) : wq (vc lim (d + 2) m_Looker_kidKind [.inr (.inr (some lk)), .inl v, .inl i] h) (rI fun x h' => h' = h ∧ x = kO σ (cO σ v i.toInt.toNat)) := by
  refine wq_eq e_Looker_kidKind (wq_gR hl rfl (wq_gR hl rfl (wq_at N.1 (wq_cI (n_kid D N hv hi) ?_))))
  rintro x h1 ⟨e, rfl⟩
  cases e
  refine wq_at N.1 (wq_cI (n_kindOf N (dN_ch D hv _)) ?_)
  rintro x h1 ⟨e, rfl⟩
  cases e
  exact wq_some (rI_i ⟨rfl, rfl⟩)
theorem n_isExpressionKid (hl : h.1 lk = some (3, [aR mk, aR nd, aR sg])) (D : DI σ) (N : NR nd A Ls kt σ h) (hv : dN σ v) (hi : 0 ≤ i.toInt) : wq (vc lim (d + 3) m_Looker_isExpressionKid [.inr (.inr (some lk)), .inl v, .inl i] h) (rI fun x h' => h' = h ∧ bo (isX (kO σ (cO σ v i.toInt.toNat)).toInt) x) := by
  refine wq_eq e_Looker_isExpressionKid (wq_at hl (wq_cI (n_kidKind hl D N hv hi) ?_))
  rintro x h1 ⟨e, rfl⟩
  cases e
  refine wq_cI n_isExpression ?_
  rintro x h1 ⟨e, b⟩
  cases e
  exact wq_t (bo_z b) (wq_some (rI_i ⟨rfl, b⟩))
/-- all children from f on -/
def kA (σ : rS) (v : Int32) (f : Nat) (P : Int32 → Prop) : Prop := ∀ j : Nat, f ≤ j → (j : Int) < (mO σ v).toInt → P (kO σ (cO σ v j))
theorem kA_s {f : Nat} {P : Int32 → Prop} (hf : (f : Int) < (mO σ v).toInt) : kA σ v f P ↔ P (kO σ (cO σ v f)) ∧ kA σ v (f + 1) P := by
  constructor
  · exact fun g => ⟨g f (Nat.le_refl _) hf, fun j h1 h2 => g j (by omega) h2⟩
  · rintro ⟨g1, g2⟩ j h1 h2
    rcases Nat.lt_or_ge f j with c | c
    · exact g2 j c h2
    · have : j = f := by omega
      subst this
      exact g1
theorem kA_e {f : Nat} {P : Int32 → Prop} (hf : (mO σ v).toInt ≤ f) : kA σ v f P := fun j h1 h2 => by omega
theorem mO_b (D : DI σ) (hv : dN σ v) : 0 ≤ (mO σ v).toInt ∧ (mO σ v).toInt ≤ 4000 := by
  have d1 := D.2.1
  rcases hv with rfl | ⟨h0, h1⟩
  · have e : mO σ (-1) = 0 := if_pos rfl
    rw [e]
    decide
  · obtain ⟨-, g1, g2, -⟩ := DI_k D h0 h1
    unfold mO
    rw [if_neg (nn_m h0)]
    exact ⟨g1, by omega⟩
theorem ak_loop {w : Int32} (hl : h.1 lk = some (3, [aR mk, aR nd, aR sg])) (D : DI σ) (N : NR nd A Ls kt σ h) (hv : dN σ v) : ∀ (r : Nat) (f : Int32), 0 ≤ f.toInt → f.toInt ≤ 5000 → 5000 - f.toInt < r → wq (ah_val lim ah_P (d + 2) 176 3 [some (.inr (.inr (some lk))), some (.inl v), none, some (.inl w), some (.inl f)] [] h) (rI fun x h' => h' = h ∧ bo (kA σ v f.toInt.toNat (fun k => k = w)) x) := by
  have e1 : (1 : Int32).toInt = 1 := rfl
  obtain ⟨m0, m1⟩ := mO_b D hv
  intro r
  induction r with
  | zero => intros; omega
  | succ r ih =>
    intro f f0 f1 hr
    refine wq_eq q_176_3 (wq_gR hl rfl (wq_at N.1 (wq_cI (n_kidsOf N hv) ?_)))
    rintro x h1 ⟨e, rfl⟩
    cases e
    refine wq_if _ (fun c => wq_at hl (wq_cI (n_kidKind hl D N hv f0) ?_)) (fun c => r1 rfl (kA_e ?_))
    · have c := lt_i c
      rintro x h1 ⟨e, rfl⟩
      cases e
      have ef : (f + 1).toInt = f.toInt + 1 := by rw [ad_i (by omega) (by omega), e1]
      have hf : ((f.toInt.toNat : Nat) : Int) < (mO σ v).toInt := by omega
      refine wq_if _ (fun c2 => ?_) (fun c2 => r0 rfl (fun q => c2 ((kA_s hf).mp q).1))
      obtain ⟨z, ez, x, h2, rfl, e, b⟩ := ih (f + 1) (by omega) (by omega) (by omega)
      refine ⟨_, ez, x, h2, rfl, e, bo_i b ?_⟩
      rw [ef, show (f.toInt + 1).toNat = f.toInt.toNat + 1 by omega, kA_s hf]
      exact ⟨fun q => ⟨c2, q⟩, fun q => q.2⟩
    · have := nlt_i c
      omega
end Lk
