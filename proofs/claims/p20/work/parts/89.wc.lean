/-! THE CLASS WHILE A PROCESS RUNS -/
abbrev rnF (x : Nat) (tg : Option Nat) (n1 n2 n3 n4 : Int32) : List AV := [aR (x + 1), aR (x + 19), aR (x + 531), aR (x + 637), aR (x + 638), aR (x + 655), .inr (.inr tg), aI n1, aI n2, aI n3, aI n4]
/-- what the runner keeps for itself: stack, chosen, waves, their delays, target, its number, class, first, many -/
abbrev SCR : Type := (Nat → WD) × WD × (Nat → WD) × (Nat → Int64) × Option Nat × Int32 × Int32 × Int32 × Int32
/-- a unit's places: u, nodes, variables, next, end; signals' and variables' things -/
abbrev LAY : Type := Nat × Nat × Nat × Nat × Nat × (Nat → Nat) × (Nat → Nat)
/-- what a run reads: nodes, signals, how many variables -/
abbrev ENV : Type := KT × Nat × (Nat → TS) × Nat
/-- what a run changes: variables, the unit, counters, ends, what is told -/
abbrev RST : Type := (Nat → TS) × US × (Nat → Int64) × (Nat → Int64) × TD
/-- places apart -/
def SEP (x : Nat) (L : LAY) (nS nV : Nat) : Prop := (x + 656 ≤ L.1 ∧ x + 656 ≤ L.2.1 ∧ x + 656 ≤ L.2.2.1 ∧ x + 656 ≤ L.2.2.2.1 ∧ x + 656 ≤ L.2.2.2.2.1 ∧ L.2.2.2.1 ≠ L.2.2.2.2.1) ∧ (∀ i, i < nS → x + 656 ≤ L.2.2.2.2.2.1 i) ∧ (∀ i, i < nV → x + 656 ≤ L.2.2.2.2.2.2 i) ∧ (∀ i j, i < nV → j < nV → L.2.2.2.2.2.2 i = L.2.2.2.2.2.2 j → i = j) ∧ ∀ i j, i < nS → j < nV → L.2.2.2.2.2.1 i ≠ L.2.2.2.2.2.2 j
def CM (x : Nat) (L : LAY) (V : ENV) (c : SCR) (r : RST) (h : ah_H) : Prop := (∃ t, FS (x + 531) (x + 532) (x + 1) (fun i => x + 533 + i) c.1 t h) ∧ (h.1 (x + 530) = some (6, rnF x c.2.2.2.2.1 c.2.2.2.2.2.1 c.2.2.2.2.2.2.1 c.2.2.2.2.2.2.2.1 c.2.2.2.2.2.2.2.2) ∧ h.1 (x + 637) = some (1, dW c.2.1) ∧ h.1 (x + 638) = some (111, (List.range 16).map fun i => aR (x + 639 + i)) ∧ (∀ i, i < 16 → h.1 (x + 639 + i) = some (1, dW (c.2.2.1 i))) ∧ h.1 (x + 655) = some (101, cnA 16 c.2.2.2.1)) ∧ EN L.1 L.2.1 L.2.2.1 L.2.2.2.1 L.2.2.2.2.1 (x + 1) L.2.2.2.2.2.1 L.2.2.2.2.2.2 V.1 V.2.1 V.2.2.2 V.2.2.1 r.1 r.2.1 h ∧ TO x r.2.2.2.2 h ∧ h.1 L.2.2.2.1 = some (101, cnA V.1.1 r.2.2.1) ∧ h.1 L.2.2.2.2.1 = some (101, cnA V.1.1 r.2.2.2.1) ∧ SEP x L V.2.1 V.2.2.2 ∧ V.1.1 ≤ 4000
/-- what a run leaves as it was -/
def GM (x : Nat) (L : LAY) (nV : Nat) (h h' : ah_H) : Prop := (∀ q, q < x + 19 ∨ x + 656 ≤ q → q ≠ L.1 → q ≠ L.2.2.2.1 → q ≠ L.2.2.2.2.1 → (∀ j, j < nV → q ≠ L.2.2.2.2.2.2 j + 1) → h'.1 q = h.1 q) ∧ h'.2.1 = h.2.1 ∧ h'.2.2.1 = h.2.2.1
section Wm
variable {x : Nat} {L : LAY} {V : ENV} {c : SCR} {r : RST} {h h' h1 h2 h3 : ah_H} {w : WD} {nV : Nat}
theorem GM_0 : GM x L nV h h := ⟨fun _ _ _ _ _ _ => rfl, rfl, rfl⟩
theorem GM_tr (a : GM x L nV h1 h2) (b : GM x L nV h2 h3) : GM x L nV h1 h3 := ⟨fun q q1 q2 q3 q4 q5 => (b.1 q q1 q2 q3 q4 q5).trans (a.1 q q1 q2 q3 q4 q5), b.2.1.trans a.2.1, b.2.2.trans a.2.2⟩
/-- cells that stay, all but rows of longs and the unit -/
theorem EN_k {u nd vt nx en : Nat} {PS PW : Nat → Nat} {T : KT} {nS n : Nat} {eS eV : Nat → TS} {s s' : US} (E : EN u nd vt nx en (x + 1) PS PW T nS n eS eV s h) (hs : x + 656 ≤ nd ∧ x + 656 ≤ vt) (h1 : ∀ i, i < nS → x + 656 ≤ PS i) (h2 : ∀ i, i < n → x + 656 ≤ PW i) (k : ∀ q, q = x + 1 ∨ q = x + 2 ∨ x + 656 ≤ q → q ≠ u → (∀ vs, h.1 q ≠ some (101, vs)) → h'.1 q = h.1 q) (e : h'.1 u = some (10, dU nd vt nx en s')) : EN u nd vt nx en (x + 1) PS PW T nS n eS eV s' h' := by
  obtain ⟨e1, e2, e3, e4, e5, e6⟩ := E
  have K : ∀ (q kd : Nat) (vs : List AV), q = x + 1 ∨ q = x + 2 ∨ x + 656 ≤ q → h.1 q = some (kd, vs) → Nat.beq kd 101 = false → Nat.beq kd 10 = false → h'.1 q = some (kd, vs) := fun q kd vs hq e0 k1 k2 => by
    refine (k q hq (fun c => ?_) (fun vs' c => ?_)).trans e0
    · rw [c, e1] at e0
      cases e0
      cases k2
    · rw [e0] at c
      cases c
      cases k1
  have C : ∀ (a : Nat) (t : TS), x + 656 ≤ a → TC a t h → TC a t h' := fun a t ha q => ⟨K _ _ _ (by omega) q.1 rfl rfl, K _ _ _ (by omega) q.2.1 rfl rfl, K _ _ _ (by omega) q.2.2 rfl rfl⟩
  refine ⟨e, ?_, ?_, ?_, fun i hi => C _ _ (h1 i hi) (e5 i hi), fun i hi => C _ _ (h2 i hi) (e6 i hi)⟩
  · obtain ⟨A, Ls, cc, kt, a1, a2, a3, a4⟩ := e2
    exact ⟨A, Ls, cc, kt, K _ _ _ (by omega) a1 rfl rfl, a2, fun j hj => ⟨K _ _ _ (by have := (a3 j hj).2.2; omega) (a3 j hj).1 rfl rfl, (a3 j hj).2⟩, a4⟩
  · obtain ⟨rw, ls, cc, a1, ⟨a2, rfl⟩, a3, a4⟩ := e3
    exact ⟨_, ls, cc, K _ _ _ (by omega) a1 rfl rfl, ⟨a2, rfl⟩, K _ _ _ (by omega) a3 rfl rfl, a4⟩
  · obtain ⟨rw, ls, cc, a1, ⟨a2, rfl⟩, a3, a4⟩ := e4
    exact ⟨_, ls, cc, K _ _ _ (by omega) a1 rfl rfl, ⟨a2, rfl⟩, K _ _ _ (by omega) a3 rfl rfl, a4⟩
theorem FS_k {S : Nat → WD} {t : Nat} (F : FS (x + 531) (x + 532) (x + 1) (fun i => x + 533 + i) S t h) (k : ∀ q, x + 531 ≤ q → q < x + 637 → h'.1 q = h.1 q) : FS (x + 531) (x + 532) (x + 1) (fun i => x + 533 + i) S t h' := by
  obtain ⟨⟨tp, f1, f2⟩, f3, f4, f5⟩ := F
  exact ⟨⟨tp, (k _ (by omega) (by omega)).trans f1, f2⟩, (k _ (by omega) (by omega)).trans f3, fun i hi => (k (x + 533 + i) (by omega) (by omega)).trans (f4 i hi), f5⟩
/-- the finder has found -/
theorem CM_fd {S : Nat → WD} {t : Nat} (C : CM x L V c r h) (g : FG (x + 531) (fun i => x + 533 + i) h h') (F : FS (x + 531) (x + 532) (x + 1) (fun i => x + 533 + i) S t h') : CM x L V (S, c.2) r h' ∧ GM x L nV h h' := by
  obtain ⟨-, ⟨r1, r2, r3, r4, r5⟩, E, O, n1, n2, Z, hT⟩ := C
  have k : ∀ q, q < x + 531 ∨ x + 637 ≤ q → h'.1 q = h.1 q := fun q hq => g.1 q (by omega) (fun i hi => by show q ≠ x + 533 + i; omega)
  refine ⟨⟨⟨t, F⟩, ⟨(k _ (by omega)).trans r1, (k _ (by omega)).trans r2, (k _ (by omega)).trans r3, fun i hi => (k _ (by omega)).trans (r4 i hi), (k _ (by omega)).trans r5⟩, ?_, TO_tf O (fun q _ _ => k q (by omega)), (k _ (by have := Z.1; omega)).trans n1, (k _ (by have := Z.1; omega)).trans n2, Z, hT⟩, ⟨fun q hq _ _ _ _ => k q (by omega), g.2⟩⟩
  exact EN_k E ⟨by have := Z.1; omega, by have := Z.1; omega⟩ Z.2.1 Z.2.2.1 (fun q hq _ _ => k q (by omega)) ((k _ (by have := Z.1; omega)).trans E.1)
/-- the unit has changed -/
theorem CM_u {s : US} (C : CM x L V c r h) (g : UC L.1 10 (dU L.2.1 L.2.2.1 L.2.2.2.1 L.2.2.2.2.1 s) h h') : CM x L V c (r.1, s, r.2.2) h' ∧ GM x L nV h h' := by
  obtain ⟨⟨t, F⟩, ⟨r1, r2, r3, r4, r5⟩, E, O, n1, n2, Z, hT⟩ := C
  have z := Z.1
  have k : ∀ q, q ≠ L.1 → h'.1 q = h.1 q := g.2.1
  have un : L.2.2.2.1 ≠ L.1 := fun q => by
    have := E.1
    rw [← q, n1] at this
    cases this
  have ue : L.2.2.2.2.1 ≠ L.1 := fun q => by
    have := E.1
    rw [← q, n2] at this
    cases this
  refine ⟨⟨⟨t, FS_k F (fun q _ _ => k q (by omega))⟩, ⟨(k _ (by omega)).trans r1, (k _ (by omega)).trans r2, (k _ (by omega)).trans r3, fun i hi => (k _ (by omega)).trans (r4 i hi), (k _ (by omega)).trans r5⟩, ?_, TO_tf O (fun q _ _ => k q (by omega)), (k _ un).trans n1, (k _ ue).trans n2, Z, hT⟩, ⟨fun q _ hq _ _ _ => k q hq, g.2.2⟩⟩
  exact EN_k E ⟨by omega, by omega⟩ Z.2.1 Z.2.2.1 (fun q _ hq _ => k q hq) g.1
/-- something has been told -/
theorem CM_to {τ : TD} (C : CM x L V c r h) (O' : TO x τ h') (g : TF x h h') : CM x L V c (r.1, r.2.1, r.2.2.1, r.2.2.2.1, τ) h' ∧ GM x L nV h h' := by
  obtain ⟨⟨t, F⟩, ⟨r1, r2, r3, r4, r5⟩, E, O, n1, n2, Z, hT⟩ := C
  have z := Z.1
  have k : ∀ q, q < x + 19 ∨ x + 530 ≤ q → h'.1 q = h.1 q := g.1
  refine ⟨⟨⟨t, FS_k F (fun q _ _ => k q (by omega))⟩, ⟨(k _ (by omega)).trans r1, (k _ (by omega)).trans r2, (k _ (by omega)).trans r3, fun i hi => (k _ (by omega)).trans (r4 i hi), (k _ (by omega)).trans r5⟩, ?_, O', (k _ (by omega)).trans n1, (k _ (by omega)).trans n2, Z, hT⟩, ⟨fun q hq _ _ _ _ => k q (by omega), g.2⟩⟩
  exact EN_k E ⟨by omega, by omega⟩ Z.2.1 Z.2.2.1 (fun q hq _ _ => k q (by omega)) ((k _ (by omega)).trans E.1)
/-- the runner's own cell -/
theorem CM_rn {tg : Option Nat} {a1 a2 a3 a4 : Int32} (C : CM x L V c r h) (g : UC (x + 530) 6 (rnF x tg a1 a2 a3 a4) h h') : CM x L V (c.1, c.2.1, c.2.2.1, c.2.2.2.1, tg, a1, a2, a3, a4) r h' ∧ GM x L nV h h' := by
  obtain ⟨⟨t, F⟩, ⟨r1, r2, r3, r4, r5⟩, E, O, n1, n2, Z, hT⟩ := C
  have z := Z.1
  have k : ∀ q, q ≠ x + 530 → h'.1 q = h.1 q := g.2.1
  refine ⟨⟨⟨t, FS_k F (fun q _ _ => k q (by omega))⟩, ⟨g.1, (k _ (by omega)).trans r2, (k _ (by omega)).trans r3, fun i hi => (k _ (by omega)).trans (r4 i hi), (k _ (by omega)).trans r5⟩, ?_, TO_tf O (fun q _ _ => k q (by omega)), (k _ (by omega)).trans n1, (k _ (by omega)).trans n2, Z, hT⟩, ⟨fun q hq _ _ _ _ => k q (by omega), g.2.2⟩⟩
  exact EN_k E ⟨by omega, by omega⟩ Z.2.1 Z.2.2.1 (fun q hq _ _ => k q (by omega)) ((k _ (by omega)).trans E.1)
theorem CM_ch (C : CM x L V c r h) (g : U1 (x + 637) w h h') : CM x L V (c.1, w, c.2.2) r h' ∧ GM x L nV h h' := by
  obtain ⟨⟨t, F⟩, ⟨r1, r2, r3, r4, r5⟩, E, O, n1, n2, Z, hT⟩ := C
  have z := Z.1
  have k : ∀ q, q ≠ x + 637 → h'.1 q = h.1 q := g.2.1
  refine ⟨⟨⟨t, FS_k F (fun q _ _ => k q (by omega))⟩, ⟨(k _ (by omega)).trans r1, g.1, (k _ (by omega)).trans r3, fun i hi => (k _ (by omega)).trans (r4 i hi), (k _ (by omega)).trans r5⟩, ?_, TO_tf O (fun q _ _ => k q (by omega)), (k _ (by omega)).trans n1, (k _ (by omega)).trans n2, Z, hT⟩, ⟨fun q hq _ _ _ _ => k q (by omega), g.2.2⟩⟩
  exact EN_k E ⟨by omega, by omega⟩ Z.2.1 Z.2.2.1 (fun q hq _ _ => k q (by omega)) ((k _ (by omega)).trans E.1)
theorem CM_ww {i : Nat} (hi : i < 16) (C : CM x L V c r h) (g : U1 (x + 639 + i) w h h') : CM x L V (c.1, c.2.1, upS c.2.2.1 i w, c.2.2.2) r h' ∧ GM x L nV h h' := by
  obtain ⟨⟨t, F⟩, ⟨r1, r2, r3, r4, r5⟩, E, O, n1, n2, Z, hT⟩ := C
  have z := Z.1
  have k : ∀ q, q ≠ x + 639 + i → h'.1 q = h.1 q := g.2.1
  refine ⟨⟨⟨t, FS_k F (fun q _ _ => k q (by omega))⟩, ⟨(k _ (by omega)).trans r1, (k _ (by omega)).trans r2, (k _ (by omega)).trans r3, fun j hj => ?_, (k _ (by omega)).trans r5⟩, ?_, TO_tf O (fun q _ _ => k q (by omega)), (k _ (by omega)).trans n1, (k _ (by omega)).trans n2, Z, hT⟩, ⟨fun q hq _ _ _ _ => k q (by omega), g.2.2⟩⟩
  · show h'.1 _ = some (1, dW (upS c.2.2.1 i w j))
    by_cases e : j = i
    · subst e
      rw [upS_eq]
      exact g.1
    · rw [upS_ne e]
      exact (k _ (by omega)).trans (r4 j hj)
  · exact EN_k E ⟨by omega, by omega⟩ Z.2.1 Z.2.2.1 (fun q hq _ _ => k q (by omega)) ((k _ (by omega)).trans E.1)
theorem CM_wl {l : Nat → Int64} (C : CM x L V c r h) (g : UC (x + 655) 101 (cnA 16 l) h h') : CM x L V (c.1, c.2.1, c.2.2.1, l, c.2.2.2.2) r h' ∧ GM x L nV h h' := by
  obtain ⟨⟨t, F⟩, ⟨r1, r2, r3, r4, r5⟩, E, O, n1, n2, Z, hT⟩ := C
  have z := Z.1
  have k : ∀ q, q ≠ x + 655 → h'.1 q = h.1 q := g.2.1
  refine ⟨⟨⟨t, FS_k F (fun q _ _ => k q (by omega))⟩, ⟨(k _ (by omega)).trans r1, (k _ (by omega)).trans r2, (k _ (by omega)).trans r3, fun j hj => (k _ (by omega)).trans (r4 j hj), g.1⟩, ?_, TO_tf O (fun q _ _ => k q (by omega)), (k _ (by omega)).trans n1, (k _ (by omega)).trans n2, Z, hT⟩, ⟨fun q hq _ _ _ _ => k q (by omega), g.2.2⟩⟩
  exact EN_k E ⟨by omega, by omega⟩ Z.2.1 Z.2.2.1 (fun q hq _ _ => k q (by omega)) ((k _ (by omega)).trans E.1)
/-- counters -/
theorem CM_cn {d1 d2 : Nat → Int64} (C : CM x L V c r h) (g1 : h'.1 L.2.2.2.1 = some (101, cnA V.1.1 d1)) (g2 : h'.1 L.2.2.2.2.1 = some (101, cnA V.1.1 d2)) (k : ∀ q, q ≠ L.2.2.2.1 → q ≠ L.2.2.2.2.1 → h'.1 q = h.1 q) (sz : h'.2.1 = h.2.1 ∧ h'.2.2.1 = h.2.2.1) : CM x L V c (r.1, r.2.1, d1, d2, r.2.2.2.2) h' ∧ GM x L nV h h' := by
  obtain ⟨⟨t, F⟩, ⟨r1, r2, r3, r4, r5⟩, E, O, n1, n2, Z, hT⟩ := C
  have z := Z.1
  have un : L.1 ≠ L.2.2.2.1 := fun q => by
    have := E.1
    rw [q, n1] at this
    cases this
  have ue : L.1 ≠ L.2.2.2.2.1 := fun q => by
    have := E.1
    rw [q, n2] at this
    cases this
  refine ⟨⟨⟨t, FS_k F (fun q _ _ => k q (by omega) (by omega))⟩, ⟨(k _ (by omega) (by omega)).trans r1, (k _ (by omega) (by omega)).trans r2, (k _ (by omega) (by omega)).trans r3, fun j hj => (k _ (by omega) (by omega)).trans (r4 j hj), (k _ (by omega) (by omega)).trans r5⟩, ?_, TO_tf O (fun q _ _ => k q (by omega) (by omega)), g1, g2, Z, hT⟩, ⟨fun q hq _ q1 q2 _ => k q q1 q2, sz⟩⟩
  refine EN_k E ⟨by omega, by omega⟩ Z.2.1 Z.2.2.1 (fun q hq _ hn => k q (fun e => ?_) (fun e => ?_)) ((k _ un ue).trans E.1)
  · rw [e] at hn
    exact hn _ n1
  · rw [e] at hn
    exact hn _ n2
/-- a variable -/
theorem CM_v {j : Nat} (hj : j < V.2.2.2) (C : CM x L V c r h) (g : U1 (L.2.2.2.2.2.2 j + 1) w h h') (w1 : wI w = wI (r.1 j).1) (w2 : wL w = wL (r.1 j).1) : CM x L V c (upS r.1 j (w, (r.1 j).2), r.2) h' ∧ GM x L V.2.2.2 h h' := by
  obtain ⟨⟨t, F⟩, ⟨r1, r2, r3, r4, r5⟩, E, O, n1, n2, Z, hT⟩ := C
  have z := Z.1
  have zj := Z.2.2.1 j hj
  have k : ∀ q, q ≠ L.2.2.2.2.2.2 j + 1 → h'.1 q = h.1 q := g.2.1
  obtain ⟨e1, e2, e3, e4, e5, e6⟩ := E
  have cj := e6 j hj
  have KD : ∀ (q kd : Nat) (vs : List AV), h.1 q = some (kd, vs) → Nat.beq kd 1 = false → h'.1 q = some (kd, vs) := fun q kd vs e0 k1 => by
    refine (k q (fun e => ?_)).trans e0
    rw [e, cj.2.1] at e0
    cases e0
    cases k1
  have C7 : ∀ (a : Nat) (t : TS), a ≠ L.2.2.2.2.2.2 j → TC a t h → TC a t h' := fun a t ha q => ⟨KD _ _ _ q.1 rfl, (k _ (by omega)).trans q.2.1, (k _ (fun e => by
    have e9 : a + 1 = L.2.2.2.2.2.2 j := by omega
    have := q.2.1
    rw [e9, cj.1] at this
    cases this)).trans q.2.2⟩
  refine ⟨⟨⟨t, FS_k F (fun q _ _ => k q (by omega))⟩, ⟨(k _ (by omega)).trans r1, (k _ (by omega)).trans r2, (k _ (by omega)).trans r3, fun j hj => (k _ (by omega)).trans (r4 j hj), (k _ (by omega)).trans r5⟩, ⟨KD _ _ _ e1 rfl, ?_, ?_, ?_, fun i hi => C7 _ _ (Z.2.2.2.2 i j hi hj) (e5 i hi), fun i hi => ?_⟩, TO_tf O (fun q _ _ => k q (by omega)), KD _ _ _ n1 rfl, KD _ _ _ n2 rfl, Z, hT⟩, ⟨fun q _ _ _ _ hq => k q (hq j hj), g.2.2⟩⟩
  · obtain ⟨A, Ls, cc, kt, a1, a2, a3, a4⟩ := e2
    exact ⟨A, Ls, cc, kt, KD _ _ _ a1 rfl, a2, fun j hj => ⟨KD _ _ _ (a3 j hj).1 rfl, (a3 j hj).2⟩, a4⟩
  · obtain ⟨rw, ls, cc, a1, a2, a3, a4⟩ := e3
    exact ⟨rw, ls, cc, KD _ _ _ a1 rfl, a2, KD _ _ _ a3 rfl, a4⟩
  · obtain ⟨rw, ls, cc, a1, a2, a3, a4⟩ := e4
    exact ⟨rw, ls, cc, KD _ _ _ a1 rfl, a2, KD _ _ _ a3 rfl, a4⟩
  · by_cases e : i = j
    · subst e
      show TC _ (upS r.1 i (w, (r.1 i).2) i) h'
      rw [upS_eq]
      refine ⟨?_, g.1, (k _ (by omega)).trans cj.2.2⟩
      rw [w1, w2]
      exact KD _ _ _ cj.1 rfl
    · show TC _ (upS r.1 j (w, (r.1 j).2) i) h'
      rw [upS_ne e]
      exact C7 _ _ (fun q => e (Z.2.2.2.1 i j hi hj q)) (e6 i hi)
end Wm
