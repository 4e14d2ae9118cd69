/-! THE RUNNER: finding -/
abbrev vT (V : ENV) : KT := V.1
abbrev EVL (V : ENV) (r : RST) (v : Int32) : Option WD := ev V.1 V.2.2.1 r.1 101 v
def gXV (V : ENV) (kS kV : Nat → Int32 × Int32) (v : Int32) : Prop := gX V.1 V.2.1 V.2.2.2 kS kV v
/-- a fault has ended the process -/
def FA (x : Nat) (L : LAY) (V : ENV) (r : RST) (h h' : ah_H) : Prop := ∃ (c : SCR) (y z : Int32) (a b : Nat → Int64), CM x L V c (r.1, uFail r.2.1 y z, a, b, r.2.2.2.2) h' ∧ GM x L V.2.2.2 h h'
/-- the ends of finding -/
def fdM (x : Nat) (L : LAY) (V : ENV) (c : SCR) (r : RST) (o : Option WD) (h : ah_H) (y : Int32) (h' : ah_H) : Prop := match o with
  | some w => y = 1 ∧ ∃ S : Nat → WD, CM x L V (S, c.2) r h' ∧ S 0 = w ∧ GM x L V.2.2.2 h h'
  | none => y = 0 ∧ FA x L V r h h'
/-- a NUMBER that is found -/
def pNo (o : Option WD) : Option WD := o.bind fun w => if wI w = 2 then some w else none
section Wd
variable {lim : Nat × Nat} {d x : Nat} {L : LAY} {V : ENV} {c : SCR} {r : RST} {h h' : ah_H} {w : WD} {v k y z : Int32} {kS kV : Nat → Int32 × Int32} {ρ : Type} {Φ : ρ → Prop}
theorem CM_dj (C : CM x L V c r h) : DJ (fun i => x + 533 + i) V.2.1 L.2.2.2.2.2.1 ∧ DJ (fun i => x + 533 + i) V.2.2.2 L.2.2.2.2.2.2 := by
  obtain ⟨-, -, -, -, -, -, Z, -⟩ := C
  refine ⟨fun i hi j hj => ?_, fun i hi j hj => ?_⟩
  · have := Z.2.1 i hi
    exact ⟨by show _ ≠ x + 533 + j; omega, by show _ ≠ x + 533 + j; omega⟩
  · have := Z.2.2.1 i hi
    exact ⟨by show _ ≠ x + 533 + j; omega, by show _ ≠ x + 533 + j; omega⟩
theorem m_find (P : PO V.1) (C : CM x L V c r h) (g : gXV V kS kV v) : wq (vc lim (d + 4) m_Finder_find [aR (x + 531), aR L.1, aI v] h) (rI (fdM x L V c r (EVL V r v) h)) := by
  have C0 := C
  obtain ⟨J1, J2⟩ := CM_dj C
  obtain ⟨⟨t, F⟩, R, E, O, n1, n2, Z, hT⟩ := C
  refine wq_mono (c_find P J1 J2 E F g) ?_
  rintro _ ⟨y, h', rfl, k⟩
  refine rI_i ?_
  unfold EVL
  cases e : ev V.1 V.2.2.1 r.1 101 v with
  | some w =>
    rw [e] at k
    obtain ⟨k1, k2, S, F', s0⟩ := k
    obtain ⟨C', G'⟩ := CM_fd (nV := V.2.2.2) C0 k2 F'
    exact ⟨k1, S, C', s0, G'⟩
  | none =>
    rw [e] at k
    obtain ⟨k1, k2, ⟨y1, z1, eu⟩, S, t', F'⟩ := k
    have z := Z.1
    obtain ⟨r1, r2, r3, r4, r5⟩ := R
    have k : ∀ q, q < x + 531 ∨ x + 637 ≤ q → q ≠ L.1 → h'.1 q = h.1 q := fun q hq hu => k2.1 q (by omega) hu (fun i hi => by show q ≠ x + 533 + i; omega)
    have un : L.2.2.2.1 ≠ L.1 := fun q => by
      have := E.1
      rw [← q, n1] at this
      cases this
    have ue : L.2.2.2.2.1 ≠ L.1 := fun q => by
      have := E.1
      rw [← q, n2] at this
      cases this
    refine ⟨k1, (S, c.2), y1, z1, r.2.2.1, r.2.2.2.1, ⟨⟨t', F'⟩, ⟨(k _ (by omega) (by omega)).trans r1, (k _ (by omega) (by omega)).trans r2, (k _ (by omega) (by omega)).trans r3, fun i hi => (k _ (by omega) (by omega)).trans (r4 i hi), (k _ (by omega) (by omega)).trans r5⟩, ?_, TO_tf O (fun q _ _ => k q (by omega) (by omega)), (k _ (by omega) un).trans n1, (k _ (by omega) ue).trans n2, Z, hT⟩, ⟨fun q hq hu _ _ _ => k q (by omega) hu, k2.2⟩⟩
    exact EN_k E ⟨by omega, by omega⟩ Z.2.1 Z.2.2.1 (fun q hq hu _ => k q (by omega) hu) eu
/-- reading of cells -/
theorem CM_rc (C : CM x L V c r h) : h.1 (x + 530) = some (6, rnF x c.2.2.2.2.1 c.2.2.2.2.2.1 c.2.2.2.2.2.2.1 c.2.2.2.2.2.2.2.1 c.2.2.2.2.2.2.2.2) := C.2.1.1
theorem CM_uc (C : CM x L V c r h) : h.1 L.1 = some (10, dU L.2.1 L.2.2.1 L.2.2.2.1 L.2.2.2.2.1 r.2.1) := C.2.2.1.1
theorem CM_n (C : CM x L V c r h) : ND L.2.1 V.1 h := C.2.2.1.2.1
theorem CM_n5 (C : CM x L V c r h) : ∃ vs, h.1 L.2.1 = some (5, vs) := by
  obtain ⟨A, Ls, cc, kt, e5, -⟩ := CM_n C
  exact ⟨_, e5⟩
theorem CM_f2 (C : CM x L V c r h) : ∃ vs, h.1 (x + 531) = some (2, vs) := by
  obtain ⟨⟨t, F⟩, -⟩ := C
  exact FS_f F
/-- what has been found, its number -/
theorem m_num {K : ah_H → Int64 → Option ah_R} {Φ : ah_R → Prop} (C : CM x L V c r h) (hw : c.1 0 = w) (k : wq (K h (wN w)) Φ) : wq (ah_gR h (some (x + 530)) 6 2 fun r3 => ah_at h r3 2 fun _ _ => ah_cR (vc lim (d + 1) 135 [.inr (.inr r3)] h) (nx h) fun r5 h4 => ah_gJ h4 r5 1 2 (K h4)) Φ := by
  have rc := CM_rc C
  obtain ⟨vs, ef⟩ := CM_f2 C
  obtain ⟨⟨t, F⟩, -⟩ := C
  refine wq_gR rc rfl (wq_at ef (wq_cR (c_found F) ?_))
  rintro _ _ ⟨rfl, rfl⟩
  refine wq_gJ (F.2.2.1 0 (by omega)) rfl ?_
  show wq (K _ (wN (c.1 0))) Φ
  rw [hw]
  exact k
theorem m_fail (C : CM x L V c r h) : wq (vc lim (d + 2) m_Unit_fail [aR L.1, aI y, aI z] h) (rI fun q h' => q = 0 ∧ FA x L V r h h') := by
  refine wq_mono (c_fail (CM_uc C)) ?_
  rintro _ ⟨q, h', rfl, rfl, k⟩
  obtain ⟨C', G'⟩ := CM_u (nV := V.2.2.2) C k
  exact rI_i ⟨rfl, c, y, z, r.2.2.1, r.2.2.2.1, C', G'⟩
theorem fd_01 {o : Option WD} (k : fdM x L V c r o h y h') : y = 0 ∨ y = 1 := by
  cases o with
  | none => exact Or.inl k.1
  | some w => exact Or.inr k.1
theorem FA_tr {h1 : ah_H} {c1 : SCR} (G : GM x L V.2.2.2 h h1) (k : FA x L V r h1 h') : FA x L V r h h' := by
  obtain ⟨c', y, z, a, b, C', G'⟩ := k
  exact ⟨c', y, z, a, b, C', GM_tr G G'⟩
theorem m_findNumber (P : PO V.1) (C : CM x L V c r h) (g : gXV V kS kV (xCh V.1 v k)) : wq (vc lim (d + 5) m_Runner_findNumber [aR (x + 530), aR L.1, aI v, aI k] h) (rI (fdM x L V c r (pNo (EVL V r (xCh V.1 v k))) h)) := by
  have rc := CM_rc C
  obtain ⟨vs, ef⟩ := CM_f2 C
  obtain ⟨v5, e5⟩ := CM_n5 C
  refine wq_eq e_Runner_findNumber (wq_gR rc rfl (wq_gR (CM_uc C) rfl (wq_at e5 (wq_cI (c_kid (CM_n C)) ?_))))
  rintro _ _ ⟨rfl, rfl⟩
  refine wq_at ef (wq_cI (m_find P C g) fun y1 h1 q => ?_)
  cases e : EVL V r (xCh V.1 v k) with
  | none =>
    rw [e] at q
    obtain ⟨rfl, q⟩ := q
    exact wq_t rfl (wq_t (by decide) (wq_some (rI_i ⟨rfl, q⟩)))
  | some w =>
    rw [e] at q
    obtain ⟨rfl, S, C1, s0, G1⟩ := q
    obtain ⟨vs1, ef1⟩ := CM_f2 C1
    have C1' := C1
    obtain ⟨⟨t1, F1⟩, -⟩ := C1'
    refine wq_f (by decide) (wq_gR (CM_rc C1) rfl (wq_at ef1 (wq_cI (c_isNumber F1) ?_)))
    rintro _ _ ⟨rfl, rfl⟩
    rw [show (S, c.2).1 0 = w from s0]
    by_cases cw : wI w = 2
    · rw [decide_eq_true cw]
      refine wq_f (by decide) (wq_t (by decide) (wq_some (rI_i ?_)))
      rw [show pNo (some w) = some w from if_pos cw]
      exact ⟨rfl, S, C1, s0, G1⟩
    · rw [decide_eq_false cw]
      refine wq_t rfl (wq_at (CM_uc C1) (wq_cI (m_fail C1) ?_))
      rintro _ h2 ⟨rfl, q⟩
      refine wq_t rfl (wq_t (by decide) (wq_some (rI_i ?_)))
      rw [show pNo (some w) = none from if_neg cw]
      exact ⟨rfl, FA_tr (c1 := c) G1 q⟩
/-! going on -/
/-- where a process goes: behind a statement, into a list, to a loop's look -/
def pGo (T : KT) (k : Nat) (n : Int32) : Option (Int32 × Int32) := if k = 0 then gto T 101 (xU T n) (xP T n + 1) else if k = 1 then gto T 101 n 0 else some (2, n)
/-- a statement's end: variables, counters, ends, what is told; how it goes on -/
abbrev SOUT : Type := (Nat → TS) × (Nat → Int64) × (Nat → Int64) × TD × Nat × Int32
def goM (x : Nat) (L : LAY) (V : ENV) (r : RST) (o : Option SOUT) (h : ah_H) (y : Int32) (h' : ah_H) : Prop := match o with
  | some (e, a, b, t, k, n) => y = 1 ∧ ∀ g, pGo V.1 k n = some g → ∃ c : SCR, CM x L V c (e, uGo r.2.1 g, a, b, t) h' ∧ GM x L V.2.2.2 h h'
  | none => y = 0 ∧ FA x L V r h h'
/-- the same, where it is known to go on -/
theorem m_behind {h0 : ah_H} {e : Nat → TS} {a b : Nat → Int64} {t : TD} {r0 : RST} {g : Int32 × Int32} (hr : r = (e, r0.2.1, a, b, t)) (C : CM x L V c r h) (G : GM x L V.2.2.2 h0 h) (hg : pGo V.1 0 v = some g) : wq (vc lim (d + 4) m_Unit_goBehind [aR L.1, aI v] h) (rI (goM x L V r0 (some (e, a, b, t, 0, v)) h0)) := by
  subst hr
  refine wq_mono (c_goBehind (CM_n C) (CM_uc C) hg) ?_
  rintro _ ⟨y, h', rfl, rfl, k⟩
  obtain ⟨C', G'⟩ := CM_u (nV := V.2.2.2) C k
  refine rI_i ⟨rfl, fun g' hg' => ?_⟩
  rw [hg] at hg'
  cases hg'
  exact ⟨c, C', GM_tr G G'⟩
theorem m_into {h0 : ah_H} {e : Nat → TS} {a b : Nat → Int64} {t : TD} {r0 : RST} {g : Int32 × Int32} (hr : r = (e, r0.2.1, a, b, t)) (C : CM x L V c r h) (G : GM x L V.2.2.2 h0 h) (hg : pGo V.1 1 v = some g) : wq (vc lim (d + 4) m_Unit_goInto [aR L.1, aI v] h) (rI (goM x L V r0 (some (e, a, b, t, 1, v)) h0)) := by
  subst hr
  refine wq_mono (c_goInto (CM_n C) (CM_uc C) hg) ?_
  rintro _ ⟨y, h', rfl, rfl, k⟩
  obtain ⟨C', G'⟩ := CM_u (nV := V.2.2.2) C k
  refine rI_i ⟨rfl, fun g' hg' => ?_⟩
  rw [hg] at hg'
  cases hg'
  exact ⟨c, C', GM_tr G G'⟩
theorem m_look {h0 : ah_H} {e : Nat → TS} {a b : Nat → Int64} {t : TD} {r0 : RST} (hr : r = (e, r0.2.1, a, b, t)) (C : CM x L V c r h) (G : GM x L V.2.2.2 h0 h) : wq (vc lim (d + 1) m_Unit_goToLook [aR L.1, aI v] h) (rI (goM x L V r0 (some (e, a, b, t, 2, v)) h0)) := by
  subst hr
  refine wq_mono (c_goToLook (CM_uc C)) ?_
  rintro _ ⟨y, h', rfl, rfl, k⟩
  obtain ⟨C', G'⟩ := CM_u (nV := V.2.2.2) C k
  refine rI_i ⟨rfl, fun g' hg' => ?_⟩
  cases hg'
  exact ⟨c, C', GM_tr G G'⟩
theorem go_01 {o : Option SOUT} (k : goM x L V r o h y h') : y = 0 ∨ y = 1 := by
  cases o with
  | none => exact Or.inl k.1
  | some w => exact Or.inr k.1
theorem ps_go {o : Option SOUT} {h1 : ah_H} {q : Option ah_R} (k : wq q (rI (goM x L V r o h))) : wq (ah_cI q (nx h1) fun i h1 => if i = 0 ∨ i = 1 then some (.inl (some (.inl i)), h1) else none) (rI (goM x L V r o h)) := wq_cI k fun x h1 p => wq_t (go_01 p) (wq_some (rI_i p))
/-- a fault at the end -/
theorem ps_fail {o : Option SOUT} {h0 h1 : ah_H} (C : CM x L V c r h) (G : GM x L V.2.2.2 h0 h) (ho : o = none) : wq (ah_cI (vc lim (d + 2) 253 [aR L.1, aI y, aI z] h) (nx h1) fun i h1 => if i = 0 ∨ i = 1 then some (.inl (some (.inl i)), h1) else none) (rI (goM x L V r o h0)) := by
  refine wq_cI (m_fail C) ?_
  rintro _ h2 ⟨rfl, q⟩
  refine wq_t (Or.inl rfl) (wq_some (rI_i ?_))
  rw [ho]
  exact ⟨rfl, FA_tr (c1 := c) G q⟩
/-! REPORT, ASSERT -/
def sTell (r : RST) (v : Int32) (w : WD) : Option SOUT := if r.2.2.2.2.1 < 200 then some (r.1, r.2.2.1, r.2.2.2.1, tAct r.2.2.2.2 1 (wN w).toInt32 0 0 0 (Nat.toInt32 r.2.2.2.2.2.1) 0, 0, v) else none
theorem m_tell {h0 : ah_H} {g : Int32 × Int32} (C : CM x L V c r h) (G : GM x L V.2.2.2 h0 h) (hw : c.1 0 = w) (hg : pGo V.1 0 v = some g) : wq (vc lim (d + 6) m_Runner_tell [aR (x + 530), aR L.1, aI v] h) (rI (goM x L V r (sTell r v w) h0)) := by
  have rc := CM_rc C
  have O := C.2.2.2.1
  have o10 := O.2.2.2.2.2.2.2
  refine wq_eq e_Runner_tell (wq_gR rc rfl (tr_at O fun _ => wq_cI (c_hasRoom (v := 0) O (by decide) (by decide)) ?_))
  rintro _ _ ⟨rfl, rfl⟩
  by_cases cc : r.2.2.2.2.1 < 200
  · rw [decide_eq_true ⟨cc, by show (r.2.2.2.2.2.1 : Int) + 0 ≤ 500; omega⟩, show sTell r v w = some (r.1, r.2.2.1, r.2.2.2.1, tAct r.2.2.2.2 1 (wN w).toInt32 0 0 0 (Nat.toInt32 r.2.2.2.2.2.1) 0, 0, v) from if_pos cc]
    refine wq_f (by decide) (wq_gR rc rfl (m_num (K := fun h4 j => ah_at h4 (some (x + 19)) 9 fun _ _ => ah_cV (vc lim (d + 5) 239 [aR (x + 19), aI j.toInt32] h4) (nx h4) fun h11 => ah_at h11 (some L.1) 10 fun _ _ => ah_cI (vc lim (d + 5) 247 [aR L.1, aI v] h11) (nx h11) fun i13 h12 => if i13 = 0 ∨ i13 = 1 then some (.inl (some (.inl i13)), h12) else none) C hw (tr_at O fun _ => wq_cV (c_tellReport O cc) ?_)))
    rintro h1 ⟨⟨t0, et, O1⟩, F1⟩
    have e0 : t0 = Nat.toInt32 r.2.2.2.2.2.1 := Int32.toInt_inj.mp (by rw [et]; exact (i32n (by omega)).symm)
    rw [e0] at O1
    obtain ⟨C1, G1⟩ := CM_to (nV := V.2.2.2) C O1 F1
    exact wq_at (CM_uc C1) (ps_go (m_behind rfl C1 (GM_tr G G1) hg))
  · rw [decide_eq_false (fun q => cc q.1)]
    exact wq_t rfl (wq_at (CM_uc C) (ps_fail C G (if_neg cc)))
end Wd
