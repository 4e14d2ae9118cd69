/-! THE LOOKER: what goes on behind a look -/
def wi (a c g : Int32) : Prop := a.toInt ≤ g.toInt ∧ g.toInt ≤ c.toInt
/-- class and reference side by side, as the looker sees them -/
def LC (lk mk nd sg vr ht rt : Nat) (A : Nat → Nat) (Ls : Nat → List AV) (kt rc : Int32) (σ : rS) (h : ah_H) : Prop := h.1 lk = some (3, [aR mk, aR nd, aR sg]) ∧ h.1 mk = some (4, [aR nd, aR vr, aR ht, aR rt, aI rc]) ∧ DI σ ∧ NR nd A Ls kt σ h ∧ TR sg (σ.1 7) (fun j i => sF σ i j) h ∧ TR vr (σ.1 9) (fun j i => sF σ (9216 + i) j) h ∧ OKV σ ∧ (σ.1 7).toInt ≤ 512 ∧ (σ.1 9).toInt ≤ 128
section Lh
variable {lim : Nat × Nat} {d nd mk sg lk vr ht rt : Nat} {A : Nat → Nat} {Ls : Nat → List AV} {kt v i rc g n k : Int32} {σ : rS} {h : ah_H} {P Q : Prop}
theorem an_if {c : Prop} [Decidable c] {B : Option ah_R} (K1 : c → wq B (rI fun x h' => h' = h ∧ bo Q x)) : wq (if c then B else if (0 : Int32) = 0 ∨ (0 : Int32) = 1 then some (.inl (some (.inl (0 : Int32))), h) else none) (rI fun x h' => h' = h ∧ bo (c ∧ Q) x) := by
  refine wq_if _ (fun c1 => ?_) (fun c1 => r0 rfl (fun q => c1 q.1))
  obtain ⟨z, ez, x, h2, rfl, e, b⟩ := K1 c1
  exact ⟨_, ez, x, h2, rfl, e, bo_i b ⟨fun q => ⟨c1, q⟩, fun q => q.2⟩⟩
theorem fi_if {c : Prop} [Decidable c] : wq (if c then if (1 : Int32) = 0 ∨ (1 : Int32) = 1 then some ((.inl (some (.inl (1 : Int32))), h) : ah_R) else none else if (0 : Int32) = 0 ∨ (0 : Int32) = 1 then some (.inl (some (.inl (0 : Int32))), h) else none) (rI fun x h' => h' = h ∧ bo c x) := wq_if _ (fun c1 => r1 rfl c1) (fun c1 => r0 rfl c1)
theorem na_if {c : Prop} [Decidable c] {B : Option ah_R} (K1 : ¬ c → wq B (rI fun x h' => h' = h ∧ bo Q x)) : wq (if c then if (0 : Int32) = 0 ∨ (0 : Int32) = 1 then some (.inl (some (.inl (0 : Int32))), h) else none else B) (rI fun x h' => h' = h ∧ bo (¬ c ∧ Q) x) := by
  refine wq_if _ (fun c1 => r0 rfl (fun q => q.1 c1)) (fun c1 => ?_)
  obtain ⟨z, ez, x, h2, rfl, e, b⟩ := K1 c1
  exact ⟨_, ez, x, h2, rfl, e, bo_i b ⟨fun q => ⟨c1, q⟩, fun q => q.2⟩⟩
theorem nf_if {c : Prop} [Decidable c] : wq (if c then if (0 : Int32) = 0 ∨ (0 : Int32) = 1 then some ((.inl (some (.inl (0 : Int32))), h) : ah_R) else none else if (1 : Int32) = 0 ∨ (1 : Int32) = 1 then some (.inl (some (.inl (1 : Int32))), h) else none) (rI fun x h' => h' = h ∧ bo (¬ c) x) := wq_if _ (fun c1 => r0 rfl (fun q => q c1)) (fun c1 => r1 rfl c1)
theorem an_cI {r : Option ah_R} {X : Nat × Nat → ah_H → Option ah_R} {K : ah_H → Option ah_R} (w : wq r (rI fun x h' => h' = h ∧ bo P x)) (K1 : P → wq (K h) (rI fun x h' => h' = h ∧ bo Q x)) : wq (ah_cI r X fun i h' => if i = 0 then if (0 : Int32) = 0 ∨ (0 : Int32) = 1 then some (.inl (some (.inl (0 : Int32))), h') else none else K h') (rI fun x h' => h' = h ∧ bo (P ∧ Q) x) := by
  refine wq_cI w ?_
  rintro x h1 ⟨e, b⟩
  cases e
  refine wq_if _ (fun c1 => r0 rfl (fun q => bo_n b c1 q.1)) (fun c1 => ?_)
  obtain ⟨z, ez, x, h2, rfl, e, b2⟩ := K1 (bo_p b c1)
  exact ⟨_, ez, x, h2, rfl, e, bo_i b2 ⟨fun q => ⟨bo_p b c1, q⟩, fun q => q.2⟩⟩
theorem fi_cI {r : Option ah_R} {X : Nat × Nat → ah_H → Option ah_R} (w : wq r (rI fun x h' => h' = h ∧ bo P x)) : wq (ah_cI r X fun i h' => if i = 0 then if (0 : Int32) = 0 ∨ (0 : Int32) = 1 then some ((.inl (some (.inl (0 : Int32))), h') : ah_R) else none else if (1 : Int32) = 0 ∨ (1 : Int32) = 1 then some (.inl (some (.inl (1 : Int32))), h') else none) (rI fun x h' => h' = h ∧ bo P x) := by
  refine wq_cI w ?_
  rintro x h1 ⟨e, b⟩
  cases e
  exact wq_if _ (fun c1 => r0 rfl (bo_n b c1)) (fun c1 => r1 rfl (bo_p b c1))
theorem fr_cI {r : Option ah_R} {X : Nat × Nat → ah_H → Option ah_R} (w : wq r (rI fun x h' => h' = h ∧ bo P x)) : wq (ah_cI r X fun i h' => if i = 0 ∨ i = 1 then some ((.inl (some (.inl i)), h') : ah_R) else none) (rI fun x h' => h' = h ∧ bo P x) := by
  refine wq_cI w ?_
  rintro x h1 ⟨e, b⟩
  cases e
  exact wq_t (bo_z b) (wq_some (rI_i ⟨rfl, b⟩))
theorem if_P {c : Prop} [Decidable c] {B C : Option ah_R} (h1 : c → wq B (rI fun x h' => h' = h ∧ bo P x)) (h2 : ¬ c → wq C (rI fun x h' => h' = h ∧ bo Q x)) : wq (if c then B else C) (rI fun x h' => h' = h ∧ bo (if c then P else Q) x) := by
  by_cases q : c
  · rw [if_pos q, if_pos q]
    exact h1 q
  · rw [if_neg q, if_neg q]
    exact h2 q
theorem bo_c {B : Option ah_R} (w : wq B (rI fun x h' => h' = h ∧ bo P x)) (e : P ↔ Q) : wq B (rI fun x h' => h' = h ∧ bo Q x) := by
  obtain ⟨z, ez, x, h2, rfl, q, b⟩ := w
  exact ⟨_, ez, x, h2, rfl, q, bo_i b e⟩
theorem wq_kd {Φ : ah_R → Prop} {X : ah_H → Nat × Nat → ah_H → Option ah_R} {K : Int32 → ah_H → Option ah_R} (L : LC lk mk nd sg vr ht rt A Ls kt rc σ h) (hv : dN σ v) (hi : 0 ≤ i.toInt) (c : wq (K (cO σ v i.toInt.toNat) h) Φ) : wq (ah_gR h (some lk) 3 1 fun r => ah_at h r 5 fun _ _ => ah_cI (vc lim (d + 1) 200 [.inr (.inr r), .inl v, .inl i] h) (X h) fun x h' => K x h') Φ := by
  obtain ⟨hl, hm, D, N, -⟩ := L
  refine wq_gR hl rfl (wq_at N.1 (wq_cI (n_kid D N hv hi) ?_))
  rintro x h1 ⟨e, rfl⟩
  cases e
  exact c
def exB (σ : rS) (v k : Int32) : Prop := if k = 2 then mO σ v = 0 ∧ ¬ gO σ v < -2147483647 else if k = 3 then mO σ v = 0 ∧ wi 0 8 (gO σ v) else if k = 4 then gO σ v = 0 ∧ wi 1 64 (mO σ v) ∧ kA σ v 0 (fun k => k = 3) else if k = 20 then wi 0 3 (gO σ v) ∧ mO σ v = 1 ∧ isX (kO σ (cO σ v 0)).toInt else if k = 21 then wi 0 20 (gO σ v) ∧ mO σ v = 2 ∧ isX (kO σ (cO σ v 0)).toInt ∧ isX (kO σ (cO σ v 1)).toInt else if k = 80 then mO σ v = 0 ∧ tOK σ v else if k = 81 then mO σ v = 0 ∧ tOK σ v else if k = 82 then gO σ v = 0 ∧ mO σ v = 2 ∧ (tOK σ (cO σ v 0) ∧ tF σ (cO σ v 0) 0 = 1) ∧ isX (kO σ (cO σ v 1)).toInt else if k = 83 then gO σ v = 0 ∧ mO σ v = 3 ∧ paP σ v else if k = 84 then fnP σ v (gO σ v) (mO σ v) else if k = 85 then wi 15 17 (gO σ v) ∧ mO σ v = 1 ∧ kO σ (cO σ v 0) = 80 else False
theorem sF_b {i : Nat} (O : OKV σ) (hi : i < 10100) : 0 ≤ (sF σ i 1).toInt ∧ (sF σ i 1).toInt ≤ 64 := by
  have := (O i hi).2.2
  show 0 ≤ (if ia σ 0 i = 1 then ia σ 1 i else 1).toInt ∧ (if ia σ 0 i = 1 then ia σ 1 i else 1).toInt ≤ 64
  by_cases c : ia σ 0 i = 1
  · rw [if_pos c]
    exact this
  · rw [if_neg c]
    decide
theorem tF_b (O : OKV σ) (s : (σ.1 7).toInt ≤ 512) (t : (σ.1 9).toInt ≤ 128) (T : tOK σ v) : 0 ≤ (tF σ v 1).toInt ∧ (tF σ v 1).toInt ≤ 64 := by
  rcases T with ⟨k1, g0, g1⟩ | ⟨k1, g0, g1⟩
  · have e : tF σ v 1 = sF σ (gO σ v).toInt.toNat 1 := if_pos k1
    rw [e]
    exact sF_b O (by omega)
  · have e : tF σ v 1 = sF σ (9216 + (gO σ v).toInt.toNat) 1 := if_neg (fun g => absurd (g.symm.trans k1) (by decide))
    rw [e]
    exact sF_b O (by omega)
theorem n_isRightExpression (L : LC lk mk nd sg vr ht rt A Ls kt rc σ h) (hv : dN σ v) : wq (vc lim (d + 5) m_Looker_isRightExpression [.inr (.inr (some lk)), .inl v, .inl k, .inl (gO σ v), .inl (mO σ v)] h) (rI fun x h' => h' = h ∧ bo (exB σ v k) x) := by
  obtain ⟨hl, hm, D, N, T1, T2, O, s1, s2⟩ := id L
  have th : wq (ah_at h (some lk) 3 fun _ _ => ah_cR (vc lim (d + 4) 182 [.inr (.inr (some lk)), .inl v] h) (nx h) fun r17 h16 => if r17 = none then if (0 : Int32) = 0 ∨ (0 : Int32) = 1 then some ((.inl (some (.inl (0 : Int32))), h16) : ah_R) else none else if (1 : Int32) = 0 ∨ (1 : Int32) = 1 then some (.inl (some (.inl (1 : Int32))), h16) else none) (rI fun x h' => h' = h ∧ bo (tOK σ v) x) := by
    refine wq_at hl (wq_cR (n_thingOf hl hm N T1 T2 hv) ?_)
    rintro r h1 ⟨e, q⟩
    cases e
    rcases q with ⟨rfl, q1⟩ | ⟨th, nw, ls, ev, ac, rfl, q1, q2⟩
    · exact wq_t rfl (r0 rfl q1)
    · exact wq_f nofun (r1 rfl q1)
  refine wq_eq e_Looker_isRightExpression ?_
  refine if_P (fun _ => an_if (fun _ => nf_if)) (fun _ => ?_)
  refine if_P (fun _ => an_if (fun _ => fi_cI n_isWithin)) (fun _ => ?_)
  refine if_P (fun _ => an_if (fun _ => an_cI n_isWithin (fun _ => wq_at hl (fi_cI (n_areKids hl D N hv (by decide) (by decide)))))) (fun _ => ?_)
  refine if_P (fun _ => an_cI n_isWithin (fun _ => an_if (fun _ => wq_at hl (fi_cI (n_isExpressionKid hl D N hv (by decide)))))) (fun _ => ?_)
  refine if_P (fun _ => an_cI n_isWithin (fun _ => an_if (fun _ => wq_at hl (an_cI (n_isExpressionKid hl D N hv (by decide)) (fun _ => wq_at hl (fi_cI (n_isExpressionKid hl D N hv (by decide)))))))) (fun _ => ?_)
  refine if_P (fun _ => an_if (fun _ => th)) (fun _ => ?_)
  refine if_P (fun _ => an_if (fun _ => th)) (fun _ => ?_)
  refine if_P (fun _ => an_if (fun _ => an_if (fun _ => wq_kd L hv (by decide) (wq_at hl (an_cI (n_isThing hl hm N T1 T2 (dN_ch D hv _)) (fun _ => wq_at hl (fi_cI (n_isExpressionKid hl D N hv (by decide))))))))) (fun _ => ?_)
  refine if_P (fun _ => an_if (fun _ => an_if (fun _ => wq_at hl (fi_cI (n_isPart hl hm D N T1 T2 hv (tF_b O s1 s2)))))) (fun _ => ?_)
  refine if_P (fun _ => wq_at hl (fr_cI (n_isFunction hl hm D N T1 T2 hv))) (fun _ => ?_)
  refine if_P (fun _ => an_cI n_isWithin (fun _ => an_if (fun _ => ?_))) (fun _ => r0 rfl (fun q => q))
  refine wq_at hl (wq_cI (n_kidKind hl D N hv (by decide)) ?_)
  rintro x h1 ⟨e, rfl⟩
  cases e
  exact fi_if
end Lh
