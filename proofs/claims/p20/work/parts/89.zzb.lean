/-! PROCESSES THAT ARE GOOD -/
/-- class and length -/
def kSe (e : Nat → TS) (i : Nat) : Int32 × Int32 := (wI (e i).1, wL (e i).1)
def GRA (T : KT) (nS nV : Nat) (kS kV : Nat → Int32 × Int32) : Prop := ∀ (nS' : Nat) (kS' : Nat → Int32 × Int32) (eS' : Nat → TS), nS ≤ nS' → (∀ i, i < nS → kS' i = kS i) → ∀ v, rgN T v → gSr (T, nS', eS', nV) kS' kV v
def LBv (n : Nat) (e : Nat → TS) : Prop := ∀ i, i < n → wI (e i).1 = 2 → -2147483647 ≤ (e i).2.2.2.2.1.toInt
def PG (nS : Nat) (kS : Nat → Int32 × Int32) (u : UD) : Prop := ∃ kV, UGp nS kS kV u ∧ GRA u.2.1 nS u.2.2.1 kS kV ∧ KC u.2.2.1 kV u.2.2.2.2.1 ∧ LBv u.2.2.1 u.2.2.2.2.1
section Zzb
variable {nS nS' : Nat} {kS kS' kV : Nat → Int32 × Int32} {u : UD} {eS e : Nat → TS} {τ : TD} {s : US} {a b : Nat → Int64} {T : KT} {n nV : Nat}
theorem GKA_le (g : GKA T nS nV kS kV) (l : nS ≤ nS') (k : ∀ i, i < nS → kS' i = kS i) : GKA T nS' nV kS' kV := fun n2 k2 e2 h1 h2 => g n2 k2 e2 (by omega) (fun i hi => (h2 i (by omega)).trans (k i hi))
theorem GRA_le (g : GRA T nS nV kS kV) (l : nS ≤ nS') (k : ∀ i, i < nS → kS' i = kS i) : GRA T nS' nV kS' kV := fun n2 k2 e2 h1 h2 => g n2 k2 e2 (by omega) (fun i hi => (h2 i (by omega)).trans (k i hi))
theorem PG_le (P : PG nS kS u) (l : nS ≤ nS') (k : ∀ i, i < nS → kS' i = kS i) : PG nS' kS' u := by
  obtain ⟨kV, ⟨g, r⟩, p2, p3⟩ := P
  exact ⟨kV, ⟨GKA_le g l k, r⟩, GRA_le p2 l k, p3⟩
/-- the signals' kinds -/
theorem KC_s (L : LBs nS eS) : KC nS (kSe eS) eS := fun i hi => ⟨rfl, rfl, (L i hi).2.1, (L i hi).2.2⟩
/-- after a run -/
theorem PG_run (P : PG nS (kSe eS) u) (L : LBs nS eS) (PO' : PO u.2.1) (h01 : u.2.2.2.2.2.1.1 = 0 ∨ u.2.2.2.2.2.1.1 = 1) (s1 : s.1 = (pRun (kE u nS eS) n (kR0 u τ)).1) (s2 : (pRun (kE u nS eS) n (kR0 u τ)).1 = 1 → s = (pRun (kE u nS eS) n (kR0 u τ)).2.2.1) (s3 : ¬ (pRun (kE u nS eS) n (kR0 u τ)).1 = 1 → s.2.2.2.2.2.2 = (-1, -1)) : PG nS (kSe eS) (uUp u (pRun (kE u nS eS) n (kR0 u τ)).2.1 s a b) := by
  obtain ⟨kV, ⟨g1, g2, g3, g4, g5, g6⟩, p2, p3, p4⟩ := P
  have G : GK (kE u nS eS) (kSe eS) kV := GKA_gk g1
  have A : IA (kE u nS eS).1 (kR0 u τ).2.1 := g2 h01
  obtain ⟨q1, q2, q3⟩ := pr_inv G n (kR0 u τ) A (fun i hi => g3 i hi)
  obtain ⟨w1, w2⟩ := pr_2 G n (kR0 u τ) ⟨PO', KC_s L, p3⟩ A
  refine ⟨kV, ⟨g1, fun c => ?_, fun i hi => q1 i hi, fun c => s3 (fun y => c (s1.trans y)), fun c => ?_, ?_⟩, p2, w1.2.2, fun i hi c => ?_⟩
  · have c : s.1 = 0 ∨ s.1 = 1 := c
    have y : (pRun (kE u nS eS) n (kR0 u τ)).1 = 1 := by
      rcases c with c | c
      · rw [c] at s1
        rcases q2 with z | z | z <;> rw [z] at s1 <;> exact absurd s1 (by decide)
      · exact s1.symm.trans c
    show IA u.2.1 s
    rw [s2 y]
    exact (q3 y).2.1
  · have y := s1.symm.trans c
    show rgN u.2.1 s.2.2.2.2.2.2.1 ∧ kf u.2.1 0 s.2.2.2.2.2.2.1 = 44
    rw [s2 y]
    exact (q3 y).2.2
  · show s.1 = 0 ∨ s.1 = 1 ∨ s.1 = 2 ∨ s.1 = 3
    rw [s1]
    exact Or.inr q2
  · have c : wI ((pRun (kE u nS eS) n (kR0 u τ)).2.1 i).1 = 2 := c
    have c1 := (q1 i hi).1
    have c2 := (g3 i hi).1
    show -2147483647 ≤ ((pRun (kE u nS eS) n (kR0 u τ)).2.1 i).2.2.2.2.1.toInt
    rw [w2 i]
    exact p4 i hi (c2.trans (c1.symm.trans c))
/-- a process that has failed -/
theorem PG_fail (P : PG nS kS u) (s1 : s.1 = 3) (s3 : s.2.2.2.2.2.2 = (-1, -1)) : PG nS kS (uUp u u.2.2.2.2.1 s a b) := by
  obtain ⟨kV, ⟨g1, g2, g3, g4, g5, g6⟩, p2, p3, p4⟩ := P
  exact ⟨kV, ⟨g1, fun c => absurd (show s.1 = 0 ∨ s.1 = 1 from c) (by rw [s1]; decide), g3, fun _ => s3, fun c => absurd (show s.1 = 1 from c) (by rw [s1]; decide), Or.inr (Or.inr (Or.inr s1))⟩, p2, p3, p4⟩
/-- a variable is set -/
theorem PG_set {i : Nat} {k v : Int32} (P : PG nS kS u) : PG nS kS (u.1, u.2.1, u.2.2.1, u.2.2.2.1, upS u.2.2.2.2.1 i (pChange (u.2.2.2.2.1 i).1 k v, (u.2.2.2.2.1 i).2), u.2.2.2.2.2) := by
  obtain ⟨kV, ⟨g1, g2, g3, g4, g5, g6⟩, p2, p3, p4⟩ := P
  obtain ⟨c1, c2⟩ := pCh_il (w := (u.2.2.2.2.1 i).1) (k := k) (v := v)
  refine ⟨kV, ⟨g1, g2, fun j hj => ?_, g4, g5, g6⟩, p2, fun j hj => ?_, fun j hj => ?_⟩
  · show wI (upS u.2.2.2.2.1 i _ j).1 = _ ∧ wL (upS u.2.2.2.2.1 i _ j).1 = _
    by_cases q : j = i
    · subst q
      rw [upS_eq]
      exact ⟨c1.trans (g3 j hj).1, c2.trans (g3 j hj).2⟩
    · rw [upS_ne q]
      exact g3 j hj
  · show wI (upS u.2.2.2.2.1 i _ j).1 = _ ∧ wL (upS u.2.2.2.2.1 i _ j).1 = _ ∧ wI (upS u.2.2.2.2.1 i _ j).2.1 = _ ∧ wL (upS u.2.2.2.2.1 i _ j).2.1 = _
    by_cases q : j = i
    · subst q
      rw [upS_eq]
      obtain ⟨k1, k2, k3, k4⟩ := p3 j hj
      exact ⟨c1.trans k1, c2.trans k2, k3, k4⟩
    · rw [upS_ne q]
      exact p3 j hj
  · show wI (upS u.2.2.2.2.1 i _ j).1 = 2 → -2147483647 ≤ (upS u.2.2.2.2.1 i _ j).2.2.2.2.1.toInt
    by_cases q : j = i
    · subst q
      rw [upS_eq]
      exact fun y => p4 j hj (c1.symm.trans y)
    · rw [upS_ne q]
      exact p4 j hj
end Zzb
