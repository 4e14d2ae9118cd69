/-! THE LOOKER: branches -/
/-- conditions and bodies in pairs, from f on -/
def ifA (σ : rS) (v : Int32) (n : Int) (f : Nat) : Prop := ∀ t : Nat, (f : Int) + 2 * t + 1 < n → isX (kO σ (cO σ v (f + 2 * t))).toInt ∧ isB σ (cO σ v (f + 2 * t + 1))
def ifP (σ : rS) (v : Int32) (n : Int) (f : Nat) : Prop := ifA σ v n f ∧ 2 ≤ n ∧ (n % 2 = 0 ∨ isB σ (cO σ v (n - 1).toNat))
theorem ifA_s {σ : rS} {v : Int32} {n : Int} {f : Nat} (hf : (f : Int) + 1 < n) : ifA σ v n f ↔ (isX (kO σ (cO σ v f)).toInt ∧ isB σ (cO σ v (f + 1))) ∧ ifA σ v n (f + 2) := by
  constructor
  · intro g
    refine ⟨g 0 (by omega), fun t ht => ?_⟩
    have := g (t + 1) (by omega)
    rw [show f + 2 * (t + 1) = f + 2 + 2 * t by omega] at this
    exact this
  · rintro ⟨g1, g2⟩ t ht
    cases t with
    | zero => exact g1
    | succ t =>
      have := g2 t (by omega)
      rw [show f + 2 * (t + 1) = f + 2 + 2 * t by omega]
      exact this
theorem ifA_e {σ : rS} {v : Int32} {n : Int} {f : Nat} (hf : n ≤ (f : Int) + 1) : ifA σ v n f := fun t ht => by omega
theorem par_0 {v : Int32} (h0 : 0 ≤ v.toInt) (h1 : v.toInt ≤ 100000) : ((v - v / (2 : Int32) * (2 : Int32)) = (0 : Int32)) ↔ v.toInt % 2 = 0 := by
  have e2 : (2 : Int32).toInt = 2 := rfl
  have ed : (v / (2 : Int32)).toInt = v.toInt / 2 := by
    rw [Int32.toInt_div, e2, Int.tdiv_eq_ediv_of_nonneg h0]
    exact Int.bmod_eq_of_le (by omega) (by omega)
  have em : (v / (2 : Int32) * (2 : Int32)).toInt = v.toInt / 2 * 2 := by rw [ml_i (by rw [ed, e2]; omega) (by rw [ed, e2]; omega), ed, e2]
  have es : (v - v / (2 : Int32) * (2 : Int32)).toInt = v.toInt - v.toInt / 2 * 2 := by rw [sb_i (by omega) (by omega), em]
  have e1 : (0 : Int32).toInt = 0 := rfl
  constructor
  · intro h
    have := congrArg Int32.toInt h
    omega
  · intro h
    apply Int32.toInt_inj.mp
    omega
section Lg2
variable {lim : Nat × Nat} {d nd mk sg lk : Nat} {A : Nat → Nat} {Ls : Nat → List AV} {kt v n : Int32} {σ : rS} {h : ah_H}
theorem if_loop (hl : h.1 lk = some (3, [aR mk, aR nd, aR sg])) (D : DI σ) (N : NR nd A Ls kt σ h) (hv : dN σ v) (n0 : 0 ≤ n.toInt) (n1 : n.toInt ≤ 4000) : ∀ (r : Nat) (f : Int32), 0 ≤ f.toInt → f.toInt ≤ 5000 → 5000 - f.toInt < r → wq (ah_val lim ah_P (d + 3) 171 2 [some (.inr (.inr (some lk))), some (.inl v), some (.inl n), some (.inl f)] [] h) (rI fun x h' => h' = h ∧ bo (ifP σ v n.toInt f.toInt.toNat) x) := by
  have e1 : (1 : Int32).toInt = 1 := rfl
  have e2 : (2 : Int32).toInt = 2 := rfl
  intro r
  induction r with
  | zero => intros; omega
  | succ r ih =>
    intro f f0 f1 hr
    have ef : (f + 1).toInt = f.toInt + 1 := by rw [ad_i (by omega) (by omega), e1]
    have eg : (f + 2).toInt = f.toInt + 2 := by rw [ad_i (by omega) (by omega), e2]
    refine wq_eq q_171_2 (wq_if _ (fun c => wq_at hl (wq_cI (n_isExpressionKid hl D N hv f0) ?_)) (fun c => wq_if _ (fun c2 => r0 rfl (fun q => ?_)) (fun c2 => wq_f (by decide) (wq_if _ (fun c3 => r1 rfl ⟨ifA_e ?_, ?_, Or.inl ((par_0 n0 (by omega)).mp c3)⟩) (fun c3 => wq_gR hl rfl (wq_at N.1 (wq_cI (n_kid D N hv ?_) ?_)))))))
    · have c : (f + 1).toInt < n.toInt := lt_i c
      have hf : ((f.toInt.toNat : Nat) : Int) + 1 < n.toInt := by omega
      rintro x h1 ⟨e, b⟩
      cases e
      refine wq_if _ (fun c2 => r0 rfl (fun q => bo_n b c2 ((ifA_s hf).mp q.1).1.1)) (fun c2 => wq_gR hl rfl (wq_at N.1 (wq_cI (n_kid D N hv (by omega)) ?_)))
      rintro x h1 ⟨e, rfl⟩
      cases e
      have et : (f + 1).toInt.toNat = f.toInt.toNat + 1 := by omega
      rw [et]
      refine wq_at hl (wq_cI (n_isStatements hl D N (dN_ch D hv _)) ?_)
      rintro x h1 ⟨e, b2⟩
      cases e
      refine wq_if _ (fun c3 => r0 rfl (fun q => bo_n b2 c3 ((ifA_s hf).mp q.1).1.2)) (fun c3 => ?_)
      obtain ⟨z, ez, x, h2, rfl, e, q⟩ := ih (f + 2) (by omega) (by omega) (by omega)
      refine ⟨_, ez, x, h2, rfl, e, bo_i q ?_⟩
      rw [eg, show (f.toInt + 2).toNat = f.toInt.toNat + 2 by omega]
      unfold ifP
      rw [ifA_s hf]
      exact ⟨fun q => ⟨⟨⟨bo_p b c2, bo_p b2 c3⟩, q.1⟩, q.2⟩, fun q => ⟨q.1.2, q.2⟩⟩
    · have := lt_i c2
      have := q.2.1
      omega
    · have c : n.toInt ≤ (f + 1).toInt := nlt_i c
      omega
    · have := nlt_i c2
      omega
    · have := nlt_i c2
      rw [sb_i (by omega) (by omega), e1]
      omega
    · have c2 := nlt_i c2
      have c : n.toInt ≤ (f + 1).toInt := nlt_i c
      have es : (n - 1).toInt = n.toInt - 1 := by rw [sb_i (by omega) (by omega), e1]
      rintro x h1 ⟨e, rfl⟩
      cases e
      rw [es]
      refine wq_at hl (wq_cI (n_isStatements hl D N (dN_ch D hv _)) ?_)
      rintro x h1 ⟨e, b2⟩
      cases e
      refine wq_if _ (fun c4 => r0 rfl (fun q => q.2.2.elim (fun g => c3 ((par_0 n0 (by omega)).mpr g)) (bo_n b2 c4))) (fun c4 => r1 rfl ⟨ifA_e (by omega), by omega, Or.inr (bo_p b2 c4)⟩)
theorem n_isIf (hl : h.1 lk = some (3, [aR mk, aR nd, aR sg])) (D : DI σ) (N : NR nd A Ls kt σ h) (hv : dN σ v) (n0 : 0 ≤ n.toInt) (n1 : n.toInt ≤ 4000) : wq (vc lim (d + 4) m_Looker_isIf [.inr (.inr (some lk)), .inl v, .inl n] h) (rI fun x h' => h' = h ∧ bo (ifP σ v n.toInt 0) x) :=
  wq_eq e_Looker_isIf (if_loop hl D N hv n0 n1 5001 0 (by decide) (by decide) (by decide))
end Lg2
