/-! THE LOOKER: parts, assignments -/
def paP (σ : rS) (v : Int32) : Prop := tOK σ (cO σ v 0) ∧ tF σ (cO σ v 0) 0 = 1 ∧ kO σ (cO σ v 1) = 2 ∧ kO σ (cO σ v 2) = 2 ∧ 0 ≤ (gO σ (cO σ v 1)).toInt ∧ 1 ≤ (gO σ (cO σ v 2)).toInt ∧ (gO σ (cO σ v 2)).toInt ≤ (tF σ (cO σ v 0) 1).toInt - (gO σ (cO σ v 1)).toInt
/-- v is a w, or an element or a part of one -/
def tgK (σ : rS) (v w : Int32) : Prop := kO σ v = w ∨ ((kO σ v = 82 ∨ kO σ v = 83) ∧ kO σ (cO σ v 0) = w)
def wvP (σ : rS) (v f : Int32) : Prop := 1 ≤ (mO σ v).toInt - f.toInt ∧ (mO σ v).toInt - f.toInt ≤ 16 ∧ kA σ v f.toInt.toNat (fun k => k = 31)
def asP (σ : rS) (v f : Int32) : Prop := (0 ≤ (gO σ v).toInt ∧ (gO σ v).toInt ≤ 2) ∧ tgK σ (cO σ v 0) 80 ∧ (f = 1 ∨ kO σ (cO σ v 1) = 32) ∧ wvP σ v f
section Lf
variable {lim : Nat × Nat} {d nd mk sg lk vr ht rt : Nat} {A : Nat → Nat} {Ls : Nat → List AV} {kt v i rc g n f : Int32} {σ : rS} {h : ah_H}
theorem n_isPart (hl : h.1 lk = some (3, [aR mk, aR nd, aR sg])) (hm : h.1 mk = some (4, [aR nd, aR vr, aR ht, aR rt, aI rc])) (D : DI σ) (N : NR nd A Ls kt σ h) (T1 : TR sg (σ.1 7) (fun j i => sF σ i j) h) (T2 : TR vr (σ.1 9) (fun j i => sF σ (9216 + i) j) h) (hv : dN σ v) (hF : tOK σ (cO σ v 0) → 0 ≤ (tF σ (cO σ v 0) 1).toInt ∧ (tF σ (cO σ v 0) 1).toInt ≤ 64) : wq (vc lim (d + 3) m_Looker_isPart [.inr (.inr (some lk)), .inl v] h) (rI fun x h' => h' = h ∧ bo (paP σ v) x) := by
  have e0 : (0 : Int32).toInt = 0 := rfl
  have e1 : (1 : Int32).toInt = 1 := rfl
  refine wq_eq e_Looker_isPart (wq_gR hl rfl (wq_at N.1 (wq_cI (n_kid D N hv (by decide)) ?_)))
  rintro x h1 ⟨e, rfl⟩
  cases e
  refine wq_at hl (wq_cR (n_thingOf hl hm N T1 T2 (dN_ch D hv _)) ?_)
  rintro r h1 ⟨e, q⟩
  cases e
  rcases q with ⟨rfl, q1⟩ | ⟨th, nw, ls, ev, ac, rfl, q1, q2⟩
  · exact wq_t rfl (r0 rfl (fun g => q1 g.1))
  have hF := hF q1
  refine wq_f nofun (wq_gI q2 rfl (wq_if _ (fun c1 => wq_at hl (wq_cI (n_kidKind hl D N hv (by decide)) ?_)) (fun c1 => r0 rfl (fun g => c1 g.2.1))))
  rintro x h1 ⟨e, rfl⟩
  cases e
  refine wq_if _ (fun c2 => wq_at hl (wq_cI (n_kidKind hl D N hv (by decide)) ?_)) (fun c2 => r0 rfl (fun g => c2 g.2.2.1))
  rintro x h1 ⟨e, rfl⟩
  cases e
  refine wq_if _ (fun c3 => wq_gR hl rfl (wq_gR hl rfl (wq_at N.1 (wq_cI (n_kid D N hv (by decide)) ?_)))) (fun c3 => r0 rfl (fun g => c3 g.2.2.2.1))
  rintro x h1 ⟨e, rfl⟩
  cases e
  refine wq_at N.1 (wq_cI (n_givenOf N (dN_ch D hv _)) ?_)
  rintro x h1 ⟨e, rfl⟩
  cases e
  refine wq_gR hl rfl (wq_gR hl rfl (wq_at N.1 (wq_cI (n_kid D N hv (by decide)) ?_)))
  rintro x h1 ⟨e, rfl⟩
  cases e
  refine wq_at N.1 (wq_cI (n_givenOf N (dN_ch D hv _)) ?_)
  rintro x h1 ⟨e, rfl⟩
  cases e
  refine wq_if _ (fun c4 => r0 rfl (fun g => ?_)) (fun c4 => wq_if _ (fun c5 => r0 rfl (fun g => ?_)) (fun c5 => wq_gI q2 rfl ?_))
  · have a : (gO σ (cO σ v 1)).toInt < (0 : Int32).toInt := lt_i c4
    have := g.2.2.2.2.1
    omega
  · have a : (gO σ (cO σ v 2)).toInt < (1 : Int32).toInt := lt_i c5
    have := g.2.2.2.2.2.1
    omega
  have a4 : (0 : Int32).toInt ≤ (gO σ (cO σ v 1)).toInt := nlt_i c4
  have a5 : (1 : Int32).toInt ≤ (gO σ (cO σ v 2)).toInt := nlt_i c5
  have b4 := bd_i (gO σ (cO σ v 1))
  have es : (tF σ (cO σ v 0) 1 - gO σ (cO σ v 1)).toInt = (tF σ (cO σ v 0) 1).toInt - (gO σ (cO σ v 1)).toInt := sb_i (by omega) (by omega)
  refine wq_if _ (fun c6 => r1 rfl ⟨q1, c1, c2, c3, by omega, by omega, ?_⟩) (fun c6 => r0 rfl (fun g => ?_))
  · have a : (gO σ (cO σ v 2)).toInt ≤ (tF σ (cO σ v 0) 1 - gO σ (cO σ v 1)).toInt := le_i c6
    omega
  · have a : (tF σ (cO σ v 0) 1 - gO σ (cO σ v 1)).toInt < (gO σ (cO σ v 2)).toInt := nle_i c6
    have := g.2.2.2.2.2.2
    omega
theorem as_63 (hl : h.1 lk = some (3, [aR mk, aR nd, aR sg])) (D : DI σ) (N : NR nd A Ls kt σ h) (hv : dN σ v) (hf : f = 1 ∨ f = 2) : wq (ah_val lim ah_P (d + 3) 170 63 [some (.inr (.inr (some lk))), some (.inl v), none, some (.inl f)] [] h) (rI fun x h' => h' = h ∧ bo (wvP σ v f) x) := by
  have e1 : (1 : Int32).toInt = 1 := rfl
  have e16 : (16 : Int32).toInt = 16 := rfl
  have bf : 0 ≤ f.toInt ∧ f.toInt ≤ 2 := by rcases hf with rfl | rfl <;> decide
  obtain ⟨m0, m1⟩ := mO_b D hv
  refine wq_eq q_170_63 (wq_gR hl rfl (wq_at N.1 (wq_cI (n_kidsOf N hv) ?_)))
  rintro x h1 ⟨e, rfl⟩
  cases e
  have es : (mO σ v - f).toInt = (mO σ v).toInt - f.toInt := sb_i (by omega) (by omega)
  refine wq_cI n_isWithin ?_
  rintro x h1 ⟨e, b⟩
  cases e
  rw [es, e1, e16] at b
  refine wq_if _ (fun c => r0 rfl (fun q => bo_n b c ⟨q.1, q.2.1⟩)) (fun c => wq_at hl (wq_cI (n_areKids hl D N hv bf.1 (by omega)) ?_))
  rintro x h1 ⟨e, b2⟩
  cases e
  exact wq_if _ (fun c2 => r0 rfl (fun q => bo_n b2 c2 q.2.2)) (fun c2 => r1 rfl ⟨(bo_p b c).1, (bo_p b c).2, bo_p b2 c2⟩)
theorem as_19 (hl : h.1 lk = some (3, [aR mk, aR nd, aR sg])) (D : DI σ) (N : NR nd A Ls kt σ h) (hv : dN σ v) (hf : f = 1 ∨ f = 2) : wq (ah_val lim ah_P (d + 3) 170 19 [some (.inr (.inr (some lk))), some (.inl v), some (.inl (gO σ v)), none] [.inl f] h) (rI fun x h' => h' = h ∧ bo (asP σ v f) x) := by
  refine wq_eq q_170_19 (wq_cI n_isWithin ?_)
  rintro x h1 ⟨e, b⟩
  cases e
  refine wq_if _ (fun c => r0 rfl (fun q => bo_n b c q.1)) (fun c => wq_gR hl rfl (wq_at N.1 (wq_cI (n_kid D N hv (by decide)) ?_)))
  rintro x h1 ⟨e, rfl⟩
  cases e
  refine wq_at hl (wq_cI (n_isTarget hl D N (dN_ch D hv _)) ?_)
  rintro x h1 ⟨e, b2⟩
  cases e
  refine wq_if _ (fun c2 => r0 rfl (fun q => bo_n b2 c2 q.2.1)) (fun c2 => wq_if _ (fun c3 => ?_) (fun c3 => wq_at hl (wq_cI (n_kidKind hl D N hv (by decide)) ?_)))
  · obtain ⟨z, ez, x, h2, rfl, e, q⟩ := as_63 (lim := lim) (d := d) hl D N hv hf
    exact ⟨_, ez, x, h2, rfl, e, bo_i q ⟨fun q => ⟨bo_p b c, bo_p b2 c2, Or.inl c3, q⟩, fun q => q.2.2.2⟩⟩
  · rintro x h1 ⟨e, rfl⟩
    cases e
    refine wq_if _ (fun c4 => ?_) (fun c4 => r0 rfl (fun q => q.2.2.1.elim c3 c4))
    obtain ⟨z, ez, x, h2, rfl, e, q⟩ := as_63 (lim := lim) (d := d) hl D N hv hf
    exact ⟨_, ez, x, h2, rfl, e, bo_i q ⟨fun q => ⟨bo_p b c, bo_p b2 c2, Or.inr c4, q⟩, fun q => q.2.2.2⟩⟩
theorem n_isAssign (hl : h.1 lk = some (3, [aR mk, aR nd, aR sg])) (D : DI σ) (N : NR nd A Ls kt σ h) (hv : dN σ v) : wq (vc lim (d + 4) m_Looker_isAssign [.inr (.inr (some lk)), .inl v] h) (rI fun x h' => h' = h ∧ bo (asP σ v (if gO σ v = 2 then 2 else 1)) x) := by
  refine wq_eq e_Looker_isAssign (wq_gR hl rfl (wq_at N.1 (wq_cI (n_givenOf N hv) ?_)))
  rintro x h1 ⟨e, rfl⟩
  cases e
  refine wq_if _ (fun c => ?_) (fun c => ?_)
  · rw [if_pos c]
    exact as_19 hl D N hv (Or.inr rfl)
  · rw [if_neg c]
    exact as_19 hl D N hv (Or.inl rfl)
end Lf
