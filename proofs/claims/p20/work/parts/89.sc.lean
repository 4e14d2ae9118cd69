/-! THE LOOKER: lists, targets, things -/
/-- a row of things: so many, four numbers of each -/
def TR (a : Nat) (n : Int32) (F : Nat → Nat → Int32) (h : ah_H) : Prop := ∃ rs row N, h.1 a = some (8, [aR rs, aI n]) ∧ h.1 rs = some (117, row) ∧ row.length = N ∧ N ≤ 4000 ∧ n.toInt ≤ N ∧ (∀ i, i < N → ∃ r, row[i]? = some (.inr (.inr r))) ∧ ∀ i : Nat, (i : Int) < n.toInt → ∃ th nw ls ev ac, row[i]? = some (aR th) ∧ h.1 th = some (7, [aI (F 0 i), aI (F 1 i), aI (F 2 i), aI (F 3 i), aR nw, aR ls, aI ev, aI ac])
/-- the thing that a node names -/
def tOK (σ : rS) (v : Int32) : Prop := (kO σ v = 80 ∧ 0 ≤ (gO σ v).toInt ∧ (gO σ v).toInt < (σ.1 7).toInt) ∨ (kO σ v = 81 ∧ 0 ≤ (gO σ v).toInt ∧ (gO σ v).toInt < (σ.1 9).toInt)
def tF (σ : rS) (v : Int32) (j : Nat) : Int32 := if kO σ v = 80 then sF σ (gO σ v).toInt.toNat j else sF σ (9216 + (gO σ v).toInt.toNat) j
section Lt
variable {lim : Nat × Nat} {d nd mk sg lk vr ht rt : Nat} {A : Nat → Nat} {Ls : Nat → List AV} {kt v i rc : Int32} {σ : rS} {h : ah_H}
theorem n_areKids {w : Int32} (hl : h.1 lk = some (3, [aR mk, aR nd, aR sg])) (D : DI σ) (N : NR nd A Ls kt σ h) (hv : dN σ v) (f0 : 0 ≤ i.toInt) (f1 : i.toInt ≤ 5000) : wq (vc lim (d + 3) m_Looker_areKids [.inr (.inr (some lk)), .inl v, .inl i, .inl w] h) (rI fun x h' => h' = h ∧ bo (kA σ v i.toInt.toNat (fun k => k = w)) x) :=
  wq_eq e_Looker_areKids (ak_loop hl D N hv 5001 i f0 f1 (by omega))
theorem st_loop (hl : h.1 lk = some (3, [aR mk, aR nd, aR sg])) (D : DI σ) (N : NR nd A Ls kt σ h) (hv : dN σ v) : ∀ (r : Nat) (f : Int32), 0 ≤ f.toInt → f.toInt ≤ 5000 → 5000 - f.toInt < r → wq (ah_val lim ah_P (d + 2) 173 17 [some (.inr (.inr (some lk))), some (.inl v), some (.inl f)] [] h) (rI fun x h' => h' = h ∧ bo (kA σ v f.toInt.toNat (fun k => isS k.toInt)) x) := by
  have e1 : (1 : Int32).toInt = 1 := rfl
  obtain ⟨m0, m1⟩ := mO_b D hv
  intro r
  induction r with
  | zero => intros; omega
  | succ r ih =>
    intro f f0 f1 hr
    refine wq_eq q_173_17 (wq_gR hl rfl (wq_at N.1 (wq_cI (n_kidsOf N hv) ?_)))
    rintro x h1 ⟨e, rfl⟩
    cases e
    refine wq_if _ (fun c => wq_at hl (wq_cI (n_kidKind hl D N hv f0) ?_)) (fun c => r1 rfl (kA_e ?_))
    · have c := lt_i c
      rintro x h1 ⟨e, rfl⟩
      cases e
      have ef : (f + 1).toInt = f.toInt + 1 := by rw [ad_i (by omega) (by omega), e1]
      have hf : ((f.toInt.toNat : Nat) : Int) < (mO σ v).toInt := by omega
      refine wq_cI n_isStatement ?_
      rintro y h3 ⟨e, b3⟩
      cases e
      refine wq_if _ (fun c2 => r0 rfl (fun q => bo_n b3 c2 ((kA_s hf).mp q).1)) (fun c2 => ?_)
      obtain ⟨z, ez, x, h2, rfl, e, b⟩ := ih (f + 1) (by omega) (by omega) (by omega)
      refine ⟨_, ez, x, h2, rfl, e, bo_i b ?_⟩
      rw [ef, show (f.toInt + 1).toNat = f.toInt.toNat + 1 by omega, kA_s hf]
      exact ⟨fun q => ⟨bo_p b3 c2, q⟩, fun q => q.2⟩
    · have := nlt_i c
      omega
/-- a list of statements -/
def isB (σ : rS) (v : Int32) : Prop := kO σ v = 48 ∧ kA σ v 0 (fun k => isS k.toInt)
theorem n_isStatements (hl : h.1 lk = some (3, [aR mk, aR nd, aR sg])) (D : DI σ) (N : NR nd A Ls kt σ h) (hv : dN σ v) : wq (vc lim (d + 3) m_Looker_isStatements [.inr (.inr (some lk)), .inl v] h) (rI fun x h' => h' = h ∧ bo (isB σ v) x) := by
  refine wq_eq e_Looker_isStatements (wq_gR hl rfl (wq_at N.1 (wq_cI (n_kindOf N hv) ?_)))
  rintro x h1 ⟨e, rfl⟩
  cases e
  refine wq_if _ (fun c => ?_) (fun c => r0 rfl (fun q => c q.1))
  obtain ⟨z, ez, x, h2, rfl, e, b⟩ := st_loop (lim := lim) (d := d) hl D N hv 5001 0 (by decide) (by decide) (by decide)
  exact ⟨_, ez, x, h2, rfl, e, bo_i b ⟨fun q => ⟨c, q⟩, fun q => q.2⟩⟩
theorem n_isSignals (hl : h.1 lk = some (3, [aR mk, aR nd, aR sg])) (D : DI σ) (N : NR nd A Ls kt σ h) (hv : dN σ v) : wq (vc lim (d + 4) m_Looker_isSignals [.inr (.inr (some lk)), .inl v] h) (rI fun x h' => h' = h ∧ bo (kO σ v = 48 ∧ kA σ v 0 (fun k => k = 80)) x) := by
  refine wq_eq e_Looker_isSignals (wq_gR hl rfl (wq_at N.1 (wq_cI (n_kindOf N hv) ?_)))
  rintro x h1 ⟨e, rfl⟩
  cases e
  refine wq_if _ (fun c => wq_at hl (wq_cI (n_areKids hl D N hv (by decide) (by decide)) ?_)) (fun c => r0 rfl (fun q => c q.1))
  rintro x h1 ⟨e, b⟩
  cases e
  exact wq_if _ (fun c2 => r0 rfl (fun q => bo_n b c2 q.2)) (fun c2 => r1 rfl ⟨c, bo_p b c2⟩)
theorem n_isTarget {w : Int32} (hl : h.1 lk = some (3, [aR mk, aR nd, aR sg])) (D : DI σ) (N : NR nd A Ls kt σ h) (hv : dN σ v) : wq (vc lim (d + 3) m_Looker_isTarget [.inr (.inr (some lk)), .inl v, .inl w] h) (rI fun x h' => h' = h ∧ bo (kO σ v = w ∨ ((kO σ v = 82 ∨ kO σ v = 83) ∧ kO σ (cO σ v 0) = w)) x) := by
  refine wq_eq e_Looker_isTarget (wq_gR hl rfl (wq_at N.1 (wq_cI (n_kindOf N hv) ?_)))
  rintro x h1 ⟨e, rfl⟩
  cases e
  refine wq_if _ (fun c => r1 rfl (Or.inl c)) (fun c => wq_if _ (fun c1 => wq_at hl (wq_cI (n_kidKind hl D N hv (by decide)) ?_)) (fun c1 => wq_if _ (fun c2 => wq_at hl (wq_cI (n_kidKind hl D N hv (by decide)) ?_)) (fun c2 => r0 rfl ?_)))
  · rintro x h1 ⟨e, rfl⟩
    cases e
    exact wq_if _ (fun c2 => r1 rfl (Or.inr ⟨Or.inl c1, c2⟩)) (fun c2 => r0 rfl (fun q => q.elim c (fun q => c2 q.2)))
  · rintro x h1 ⟨e, rfl⟩
    cases e
    exact wq_if _ (fun c3 => r1 rfl (Or.inr ⟨Or.inr c2, c3⟩)) (fun c3 => r0 rfl (fun q => q.elim c (fun q => c3 q.2)))
  · exact fun q => q.elim c (fun q => q.1.elim c1 c2)
theorem n_pick {a : Nat} {n : Int32} {F : Nat → Nat → Int32} (T : TR a n F h) : wq (vc lim (d + 1) m_Things_pick [.inr (.inr (some a)), .inl i] h) (rR fun r h' => h' = h ∧ ((r = none ∧ ¬ (0 ≤ i.toInt ∧ i.toInt < n.toInt)) ∨ ∃ th nw ls ev ac, r = some th ∧ (0 ≤ i.toInt ∧ i.toInt < n.toInt) ∧ h.1 th = some (7, [aI (F 0 i.toInt.toNat), aI (F 1 i.toInt.toNat), aI (F 2 i.toInt.toNat), aI (F 3 i.toInt.toNat), aR nw, aR ls, aI ev, aI ac]))) := by
  obtain ⟨rs, row, N, e1, e2, e3, e4, e5, e6, e7⟩ := T
  obtain ⟨z, ez, r, h', rfl, e, q⟩ := n_Things_pick (lim := lim) (d := d) (κ := fun _ => some (7, 0)) (i := i) e1 e2 e3 e4 e5 (fun i hi => by obtain ⟨r, hr⟩ := e6 i hi; exact ⟨r, hr, fun _ _ => rfl⟩)
  refine ⟨_, ez, r, h', rfl, e, ?_⟩
  rcases q with ⟨q0, q1, q2⟩ | ⟨q0, q1⟩
  · obtain ⟨th, nw, ls, ev, ac, r1, r2⟩ := e7 i.toInt.toNat (by omega)
    rw [r1] at q2
    cases q2
    exact Or.inr ⟨th, nw, ls, ev, ac, rfl, ⟨q0, q1⟩, r2⟩
  · exact Or.inl ⟨q1, q0⟩
theorem n_thingOf (hl : h.1 lk = some (3, [aR mk, aR nd, aR sg])) (hm : h.1 mk = some (4, [aR nd, aR vr, aR ht, aR rt, aI rc])) (N : NR nd A Ls kt σ h) (T1 : TR sg (σ.1 7) (fun j i => sF σ i j) h) (T2 : TR vr (σ.1 9) (fun j i => sF σ (9216 + i) j) h) (hv : dN σ v) : wq (vc lim (d + 2) m_Looker_thingOf [.inr (.inr (some lk)), .inl v] h) (rR fun r h' => h' = h ∧ ((r = none ∧ ¬ tOK σ v) ∨ ∃ th nw ls ev ac, r = some th ∧ tOK σ v ∧ h.1 th = some (7, [aI (tF σ v 0), aI (tF σ v 1), aI (tF σ v 2), aI (tF σ v 3), aR nw, aR ls, aI ev, aI ac]))) := by
  obtain ⟨rs1, row1, N1, a1, -⟩ := id T1
  obtain ⟨rs2, row2, N2, a2, -⟩ := id T2
  refine wq_eq e_Looker_thingOf (wq_gR hl rfl (wq_at N.1 (wq_cI (n_kindOf N hv) ?_)))
  rintro x h1 ⟨e, rfl⟩
  cases e
  refine wq_if _ (fun c => wq_gR hl rfl (wq_gR hl rfl (wq_at N.1 (wq_cI (n_givenOf N hv) ?_)))) (fun c => wq_if _ (fun c1 => wq_gR hl rfl (wq_gR hm rfl (wq_gR hl rfl (wq_at N.1 (wq_cI (n_givenOf N hv) ?_))))) (fun c1 => wq_some (rR_i ⟨rfl, Or.inl ⟨rfl, fun q => q.elim (fun q => c q.1) (fun q => c1 q.1)⟩⟩)))
  · rintro x h1 ⟨e, rfl⟩
    cases e
    refine wq_at a1 (wq_cR (n_pick T1) ?_)
    rintro r h1 ⟨e, q⟩
    cases e
    refine wq_some (rR_i ⟨rfl, ?_⟩)
    have c8 : ¬ kO σ v = 81 := fun g => absurd (g.symm.trans c) (by decide)
    rcases q with ⟨q0, q1⟩ | ⟨th, nw, ls, ev, ac, q0, q1, q2⟩
    · exact Or.inl ⟨q0, fun g => g.elim (fun g => q1 g.2) (fun g => c8 g.1)⟩
    · refine Or.inr ⟨th, nw, ls, ev, ac, q0, Or.inl ⟨c, q1⟩, ?_⟩
      have t : ∀ j, tF σ v j = sF σ (gO σ v).toInt.toNat j := fun j => if_pos c
      rw [t 0, t 1, t 2, t 3]
      exact q2
  · rintro x h1 ⟨e, rfl⟩
    cases e
    refine wq_at a2 (wq_cR (n_pick T2) ?_)
    rintro r h1 ⟨e, q⟩
    cases e
    refine wq_some (rR_i ⟨rfl, ?_⟩)
    rcases q with ⟨q0, q1⟩ | ⟨th, nw, ls, ev, ac, q0, q1, q2⟩
    · exact Or.inl ⟨q0, fun g => g.elim (fun g => c g.1) (fun g => q1 g.2)⟩
    · refine Or.inr ⟨th, nw, ls, ev, ac, q0, Or.inr ⟨c1, q1⟩, ?_⟩
      have t : ∀ j, tF σ v j = sF σ (9216 + (gO σ v).toInt.toNat) j := fun j => if_neg c
      rw [t 0, t 1, t 2, t 3]
      exact q2
theorem n_isThing {w : Int32} (hl : h.1 lk = some (3, [aR mk, aR nd, aR sg])) (hm : h.1 mk = some (4, [aR nd, aR vr, aR ht, aR rt, aI rc])) (N : NR nd A Ls kt σ h) (T1 : TR sg (σ.1 7) (fun j i => sF σ i j) h) (T2 : TR vr (σ.1 9) (fun j i => sF σ (9216 + i) j) h) (hv : dN σ v) : wq (vc lim (d + 3) m_Looker_isThing [.inr (.inr (some lk)), .inl v, .inl w] h) (rI fun x h' => h' = h ∧ bo (tOK σ v ∧ tF σ v 0 = w) x) := by
  refine wq_eq e_Looker_isThing (wq_at hl (wq_cR (n_thingOf hl hm N T1 T2 hv) ?_))
  rintro r h1 ⟨e, q⟩
  cases e
  rcases q with ⟨rfl, q1⟩ | ⟨th, nw, ls, ev, ac, rfl, q1, q2⟩
  · exact wq_t rfl (r0 rfl (fun g => q1 g.1))
  · exact wq_f nofun (wq_gI q2 rfl (wq_if _ (fun c => r1 rfl ⟨q1, c⟩) (fun c => r0 rfl (fun g => c g.2))))
end Lt
