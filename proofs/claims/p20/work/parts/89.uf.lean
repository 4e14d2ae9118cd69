/-! FINDING: what an expression is; the class's loop -/
def evc (T : KT) (v : Int32) : Nat → Int32 := fun i => kf T 1 (kC T v i)
def ev (T : KT) (eS eV : Nat → TS) : Nat → Int32 → Option WD
  | 0, _ => none
  | n + 1, v =>
    if kf T 0 v = 0 then some (pNum 0)
    else if kf T 0 v = 2 then some (pNum (kf T 1 v).toInt64)
    else if kf T 0 v = 3 then some (pLogic (kf T 1 v))
    else if kf T 0 v = 4 then some (pGather (evc T v) (kf T 6 v))
    else if kf T 0 v = 20 then (ev T eS eV n (kC T v 0)).bind fun w => pOne (kf T 1 v) w
    else if kf T 0 v = 21 then (ev T eS eV n (kC T v 0)).bind fun w => (ev T eS eV n (kC T v 1)).bind fun z => pTwo (kf T 1 v) w z
    else if kf T 0 v = 32 then (ev T eS eV n (kC T v 0)).bind fun w => pTime (kf T 1 v) w
    else if kf T 0 v = 80 then some (eS (kf T 1 v).toInt.toNat).1
    else if kf T 0 v = 81 then some (eV (kf T 1 v).toInt.toNat).1
    else if kf T 0 v = 82 then (ev T eS eV n (kC T v 0)).bind fun w => (ev T eS eV n (kC T v 1)).bind fun z => pEl w z
    else if kf T 0 v = 83 then (ev T eS eV n (kC T v 0)).bind fun w => some (pPart w 1 (kf T 1 (kC T v 1)) (kf T 1 (kC T v 2)))
    else if kf T 0 v = 84 then if kf T 1 v = 10 then (ev T eS eV n (kC T v 0)).bind fun w => pToNum w else if kf T 1 v = 11 then (ev T eS eV n (kC T v 0)).bind fun w => pToRow w (kf T 1 (kC T v 1)) else some (pEdge (kf T 1 v) (eS (kf T 1 (kC T v 0)).toInt.toNat))
    else some (pOfS (kf T 1 v) (eS (kf T 1 (kC T v 0)).toInt.toNat))
/-- of a thing: class, length -/
def kOf (T : KT) (kS kV : Nat → Int32 × Int32) (v : Int32) : Int32 × Int32 := if kf T 0 v = 80 then kS (kf T 1 v).toInt.toNat else kV (kf T 1 v).toInt.toNat
/-- a good expression, at most n high -/
def gE (T : KT) (nS nV : Nat) (kS kV : Nat → Int32 × Int32) : Nat → Int32 → Prop
  | 0, _ => False
  | n + 1, v => rgN T v ∧ (kf T 0 v = 2 ∨ kf T 0 v = 3 ∨ kf T 0 v = 4 ∨ kf T 0 v = 20 ∨ kf T 0 v = 21 ∨ kf T 0 v = 80 ∨ kf T 0 v = 81 ∨ kf T 0 v = 82 ∨ kf T 0 v = 83 ∨ kf T 0 v = 84 ∨ kf T 0 v = 85) ∧
    (kf T 0 v = 2 → kf T 6 v = 0 ∧ -2147483647 ≤ (kf T 1 v).toInt) ∧
    (kf T 0 v = 3 → kf T 6 v = 0 ∧ 0 ≤ (kf T 1 v).toInt ∧ (kf T 1 v).toInt ≤ 8) ∧
    (kf T 0 v = 4 → 1 ≤ (kf T 6 v).toInt ∧ (kf T 6 v).toInt ≤ 64 ∧ ∀ i : Nat, (i : Int) < (kf T 6 v).toInt → kf T 0 (kC T v i) = 3 ∧ kf T 6 (kC T v i) = 0 ∧ 0 ≤ (kf T 1 (kC T v i)).toInt ∧ (kf T 1 (kC T v i)).toInt ≤ 8) ∧
    (kf T 0 v = 20 → kf T 6 v = 1 ∧ 0 ≤ (kf T 1 v).toInt ∧ (kf T 1 v).toInt ≤ 3 ∧ gE T nS nV kS kV n (kC T v 0)) ∧
    (kf T 0 v = 21 → kf T 6 v = 2 ∧ 0 ≤ (kf T 1 v).toInt ∧ (kf T 1 v).toInt ≤ 20 ∧ gE T nS nV kS kV n (kC T v 0) ∧ gE T nS nV kS kV n (kC T v 1)) ∧
    (kf T 0 v = 80 → kf T 6 v = 0 ∧ 0 ≤ (kf T 1 v).toInt ∧ (kf T 1 v).toInt < nS) ∧
    (kf T 0 v = 81 → kf T 6 v = 0 ∧ 0 ≤ (kf T 1 v).toInt ∧ (kf T 1 v).toInt < nV) ∧
    (kf T 0 v = 82 → kf T 6 v = 2 ∧ gE T nS nV kS kV n (kC T v 0) ∧ (kf T 0 (kC T v 0) = 80 ∨ kf T 0 (kC T v 0) = 81) ∧ (kOf T kS kV (kC T v 0)).1 = 1 ∧ gE T nS nV kS kV n (kC T v 1)) ∧
    (kf T 0 v = 83 → kf T 6 v = 3 ∧ gE T nS nV kS kV n (kC T v 0) ∧ (kf T 0 (kC T v 0) = 80 ∨ kf T 0 (kC T v 0) = 81) ∧ (kOf T kS kV (kC T v 0)).1 = 1 ∧ gE T nS nV kS kV n (kC T v 1) ∧ kf T 0 (kC T v 1) = 2 ∧ gE T nS nV kS kV n (kC T v 2) ∧ kf T 0 (kC T v 2) = 2 ∧ 0 ≤ (kf T 1 (kC T v 1)).toInt ∧ 1 ≤ (kf T 1 (kC T v 2)).toInt ∧ (kf T 1 (kC T v 1)).toInt + (kf T 1 (kC T v 2)).toInt ≤ (kOf T kS kV (kC T v 0)).2.toInt) ∧
    (kf T 0 v = 84 → ((kf T 1 v = 8 ∨ kf T 1 v = 9) ∧ kf T 6 v = 1 ∧ gE T nS nV kS kV n (kC T v 0) ∧ kf T 0 (kC T v 0) = 80 ∧ (kOf T kS kV (kC T v 0)).1 = 0) ∨ (kf T 1 v = 10 ∧ kf T 6 v = 1 ∧ gE T nS nV kS kV n (kC T v 0)) ∨ (kf T 1 v = 11 ∧ kf T 6 v = 2 ∧ gE T nS nV kS kV n (kC T v 0) ∧ gE T nS nV kS kV n (kC T v 1) ∧ kf T 0 (kC T v 1) = 2 ∧ 1 ≤ (kf T 1 (kC T v 1)).toInt ∧ (kf T 1 (kC T v 1)).toInt ≤ 64)) ∧
    (kf T 0 v = 85 → kf T 6 v = 1 ∧ (kf T 1 v = 15 ∨ kf T 1 v = 16 ∨ kf T 1 v = 17) ∧ gE T nS nV kS kV n (kC T v 0) ∧ kf T 0 (kC T v 0) = 80)
/-- a time or nothing -/
def gT (T : KT) (nS nV : Nat) (kS kV : Nat → Int32 × Int32) (n : Nat) (v : Int32) : Prop := rgN T v ∧ ((kf T 0 v = 0 ∧ kf T 6 v = 0) ∨ (kf T 0 v = 32 ∧ kf T 6 v = 1 ∧ 1 ≤ (kf T 1 v).toInt ∧ (kf T 1 v).toInt ≤ 1000000 ∧ gE T nS nV kS kV n (kC T v 0)))
/-- children stand before their parents, one behind another -/
def PO (T : KT) : Prop := T.1 ≤ 4000 ∧ ∀ v, rgN T v → 0 ≤ (kf T 6 v).toInt ∧ (kf T 6 v = 0 → kf T 2 v = v) ∧ (0 < (kf T 6 v).toInt → kf T 2 v = kf T 2 (kC T v 0) ∧ (∀ i : Nat, (i : Int) + 1 < (kf T 6 v).toInt → kf T 2 (kC T v (i + 1)) = kC T v i + 1) ∧ v = kC T v ((kf T 6 v).toInt.toNat - 1) + 1) ∧ ∀ i : Nat, (i : Int) < (kf T 6 v).toInt → rgN T (kC T v i) ∧ kf T 3 (kC T v i) = v ∧ (kf T 4 (kC T v i)).toInt = i ∧ (kC T v i).toInt < v.toInt
/-- a unit, its nodes, signals and variables -/
def EN (u nd vt nx en sg : Nat) (PS PW : Nat → Nat) (T : KT) (nS nV : Nat) (eS eV : Nat → TS) (s : US) (h : ah_H) : Prop := h.1 u = some (10, dU nd vt nx en s) ∧ ND nd T h ∧ TH sg nS PS h ∧ TH vt nV PW h ∧ (∀ i, i < nS → TC (PS i) (eS i) h) ∧ (∀ i, i < nV → TC (PW i) (eV i) h)
def DJ (D : Nat → Nat) (nS : Nat) (PS : Nat → Nat) : Prop := ∀ i, i < nS → ∀ j, j < 104 → PS i + 1 ≠ D j ∧ PS i + 2 ≠ D j
/-- the finder, its values and the unit may have changed -/
def FU (f : Nat) (D : Nat → Nat) (u : Nat) (h h' : ah_H) : Prop := (∀ q, q ≠ f → q ≠ u → (∀ i, i < 104 → q ≠ D i) → h'.1 q = h.1 q) ∧ h'.2.1 = h.2.1 ∧ h'.2.2.1 = h.2.2.1
section Fl
variable {lim : Nat × Nat} {d f sa sg t u nd vt nx en nS nV n : Nat} {D PS PW : Nat → Nat} {S : Nat → WD} {h h' : ah_H} {T : KT} {v vl : Int32} {eS eV : Nat → TS} {kS kV : Nat → Int32 × Int32} {s : US} {Φ : ah_R → Prop}
theorem TC_tr {a : Nat} {c : TS} (C : TC a c h) (F : FS f sa sg D S t h) (g : FG f D h h') (hn : ∀ j, j < 104 → a + 1 ≠ D j ∧ a + 2 ≠ D j) : TC a c h' := by
  have K := FG_kf F g
  obtain ⟨vs, ef⟩ := FS_f F
  refine ⟨K _ _ _ C.1 rfl rfl rfl, (g.1 _ (fun q => ?_) (fun j hj => (hn j hj).1)).trans C.2.1, (g.1 _ (fun q => ?_) (fun j hj => (hn j hj).2)).trans C.2.2⟩
  · have := C.2.1
    rw [q, ef] at this
    cases this
  · have := C.2.2
    rw [q, ef] at this
    cases this
theorem EN_tr (E : EN u nd vt nx en sg PS PW T nS nV eS eV s h) (F : FS f sa sg D S t h) (g : FG f D h h') (J1 : DJ D nS PS) (J2 : DJ D nV PW) : EN u nd vt nx en sg PS PW T nS nV eS eV s h' := by
  have K := FG_kf F g
  obtain ⟨vs, ef⟩ := FS_f F
  obtain ⟨e1, e2, e3, e4, e5, e6⟩ := E
  refine ⟨(g.1 u (fun q => ?_) (fun j hj q => ?_)).trans e1, ND_kf e2 K, TH_kf e3 K, TH_kf e4 K, fun i hi => TC_tr (e5 i hi) F g (J1 i hi), fun i hi => TC_tr (e6 i hi) F g (J2 i hi)⟩
  · rw [q, ef] at e1
    cases e1
  · have := F.2.2.1 j hj
    rw [← q, e1] at this
    cases this
/-- the loop of find -/
noncomputable abbrev fLP (lim : Nat × Nat) (d f u nd : Nat) (vl i : Int32) (h : ah_H) : Option ah_R := ah_val lim ah_P (d + 3) 137 17 [some (aR f), some (aR u), some (aI vl), some (aR nd), some (aI i), none, none] [] h
noncomputable abbrev fLQ (lim : Nat × Nat) (d f u nd : Nat) (vl i x : Int32) (h : ah_H) : Option ah_R := ah_val lim ah_P (d + 3) 137 383 [some (aR f), some (aR u), some (aI vl), some (aR nd), some (aI i), none, some (aI x)] [] h
/-- how find ends with a fault -/
def LF (f sa sg : Nat) (D : Nat → Nat) (u nd vt nx en : Nat) (s : US) (h : ah_H) (Φ : ah_R → Prop) : Prop := ∀ (h' : ah_H) (x y : Int32), FU f D u h h' → h'.1 u = some (10, dU nd vt nx en (uFail s x y)) → (∃ S' t', FS f sa sg D S' t' h') → Φ (.inl (some (.inl 0)), h')
theorem LF_tr (k : LF f sa sg D u nd vt nx en s h Φ) (g : FG f D h h') : LF f sa sg D u nd vt nx en s h' Φ := fun h2 x y g2 => k h2 x y ⟨fun q q1 q2 q3 => (g2.1 q q1 q2 q3).trans (g.1 q q1 q3), g2.2.1.trans g.2.1, g2.2.2.trans g.2.2⟩
theorem fLQ_0 (k : wq (fLP lim d f u nd vl (v + 1) h) Φ) : wq (fLQ lim d f u nd vl v 0 h) Φ := wq_eq q_137_383 (wq_t rfl k)
theorem fLQ_x {x : Int32} (hx : x ≠ 0) (E : EN u nd vt nx en sg PS PW T nS nV eS eV s h) (F : FS f sa sg D S t h) (k : LF f sa sg D u nd vt nx en s h Φ) : wq (fLQ lim d f u nd vl v x h) Φ := by
  refine wq_eq q_137_383 (wq_f hx (wq_at E.1 (wq_cI (c_fail E.1) ?_)))
  rintro _ h1 ⟨rfl, e1, o1, m1⟩
  have fu : f ≠ u := fun q => by
    obtain ⟨vs, ef⟩ := FS_f F
    rw [q, E.1] at ef
    cases ef
  have su : sa ≠ u := fun q => by
    have := F.2.1
    rw [q, E.1] at this
    cases this
  have du : ∀ i, i < 104 → D i ≠ u := fun i hi q => by
    have := F.2.2.1 i hi
    rw [q, E.1] at this
    cases this
  refine wq_t (by decide) (wq_some (k h1 x v ⟨fun q _ hq _ => o1 q hq, m1⟩ e1 ⟨S, t, ?_⟩))
  obtain ⟨⟨tp, f1, f2⟩, f3, f4, f5⟩ := F
  exact ⟨⟨tp, (o1 f fu).trans f1, f2⟩, (o1 sa su).trans f3, fun i hi => (o1 _ (du i hi)).trans (f4 i hi), f5⟩
/-- the end of a node's own step -/
theorem fLQ_F {x : Int32} {r : Option WD} {i t' : Nat} (E : EN u nd vt nx en sg PS PW T nS nV eS eV s h) (F : FS f sa sg D S t h) (J1 : DJ D nS PS) (J2 : DJ D nV PW) (o : oF f sa sg D S i t' r h x h') (k : ∀ w, r = some w → FS f sa sg D (upS S i w) t' h' → FG f D h h' → wq (fLP lim d f u nd vl (v + 1) h') Φ) (k0 : r = none → LF f sa sg D u nd vt nx en s h Φ) : wq (fLQ lim d f u nd vl v x h') Φ := by
  obtain ⟨G, o⟩ := o
  cases r with
  | some w =>
    obtain ⟨rfl, F1⟩ := o
    exact fLQ_0 (k w rfl F1 G)
  | none =>
    obtain ⟨hx, S', t2, F1⟩ := o
    exact fLQ_x hx (EN_tr E F G J1 J2) F1 (LF_tr (k0 rfl) G)
end Fl
