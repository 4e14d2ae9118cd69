/-! THE CLASS'S resume AND holds -/
/-- good now and whatever signals come -/
def GKA (T : KT) (nS nV : Nat) (kS kV : Nat → Int32 × Int32) : Prop := ∀ (nS' : Nat) (kS' : Nat → Int32 × Int32) (eS' : Nat → TS), nS ≤ nS' → (∀ i, i < nS → kS' i = kS i) → GK (T, nS', eS', nV) kS' kV
def UGp (nS : Nat) (kS kV : Nat → Int32 × Int32) (u : UD) : Prop := GKA u.2.1 nS u.2.2.1 kS kV ∧ ((u.2.2.2.2.2.1.1 = 0 ∨ u.2.2.2.2.2.1.1 = 1) → IA u.2.1 u.2.2.2.2.2.1) ∧ (∀ i, i < u.2.2.1 → wI (u.2.2.2.2.1 i).1 = (kV i).1 ∧ wL (u.2.2.2.2.1 i).1 = (kV i).2) ∧ (¬ u.2.2.2.2.2.1.1 = 1 → u.2.2.2.2.2.1.2.2.2.2.2.2 = (-1, -1)) ∧ (u.2.2.2.2.2.1.1 = 1 → rgN u.2.1 u.2.2.2.2.2.1.2.2.2.2.2.2.1 ∧ kf u.2.1 0 u.2.2.2.2.2.1.2.2.2.2.2.2.1 = 44) ∧ (u.2.2.2.2.2.1.1 = 0 ∨ u.2.2.2.2.2.1.1 = 1 ∨ u.2.2.2.2.2.1.1 = 2 ∨ u.2.2.2.2.2.1.1 = 3)
/-- a process at the beginning of a run -/
abbrev kR0 (u : UD) (τ : TD) : RST := (u.2.2.2.2.1, (u.2.2.2.2.2.1.1, u.2.2.2.2.2.1.2.1, u.2.2.2.2.2.1.2.2.1, u.2.2.2.2.2.1.2.2.2.1, u.2.2.2.2.2.1.2.2.2.2.1, u.2.2.2.2.2.1.2.2.2.2.2.1, -1, -1), u.2.2.2.2.2.2.1, u.2.2.2.2.2.2.2, (0, 0, τ.2.2))
abbrev uUp (u : UD) (e : Nat → TS) (s : US) (a b : Nat → Int64) : UD := (u.1, u.2.1, u.2.2.1, u.2.2.2.1, e, s, a, b)
/-- how a run ends -/
def rzK (x : Nat) (D : KD) (j : Nat) (q : Int32 × RST) (z : ah_R) : Prop := z.1 = .inl (some (.inl q.1)) ∧ ∃ (c' : SCR) (s : US) (a b : Nat → Int64), KI x (c', q.2.2.2.2.2, D.2.2.1, (D.2.2.2.1.1, upS D.2.2.2.1.2 j (uUp (D.2.2.2.1.2 j) q.2.1 s a b)), D.2.2.2.2) z.2 ∧ s.1 = q.1 ∧ (q.1 = 1 → s = q.2.2.1 ∧ a = q.2.2.2.1 ∧ b = q.2.2.2.2.1) ∧ (¬ q.1 = 1 → s.2.2.2.2.2.2 = (-1, -1))
def rzP (x : Nat) (D : KD) (v1 v2 : Int32) (h : ah_H) (z : ah_R) : Prop := (¬ (0 ≤ v1.toInt ∧ v1.toInt < D.2.2.2.1.1) ∧ z = (.inr (202, h.2.1), ah_new h (202, []) 6)) ∨ ((0 ≤ v1.toInt ∧ v1.toInt < D.2.2.2.1.1) ∧ ((¬ (1 ≤ v2.toInt ∧ v2.toInt ≤ 10000) ∧ z = (.inr (200, h.2.1), ah_new h (200, []) 6)) ∨ ((1 ≤ v2.toInt ∧ v2.toInt ≤ 10000) ∧ ((((D.2.2.2.1.2 v1.toInt.toNat).2.2.2.2.2.1.1 = 2 ∨ (D.2.2.2.1.2 v1.toInt.toNat).2.2.2.2.2.1.1 = 3) ∧ z = (.inr (201, h.2.1), ah_new h (201, []) 6)) ∨ (¬ ((D.2.2.2.1.2 v1.toInt.toNat).2.2.2.2.2.1.1 = 2 ∨ (D.2.2.2.1.2 v1.toInt.toNat).2.2.2.2.2.1.1 = 3) ∧ rzK x D v1.toInt.toNat (pRun (kE (D.2.2.2.1.2 v1.toInt.toNat) D.2.2.1.1 D.2.2.1.2.2) v2.toInt.toNat (kR0 (D.2.2.2.1.2 v1.toInt.toNat) D.2.1)) z ∧ FN x h z.2)))))
def hzP (x : Nat) (D : KD) (v1 : Int32) (h : ah_H) (z : ah_R) : Prop := (¬ (0 ≤ v1.toInt ∧ v1.toInt < D.2.2.2.1.1) ∧ z = (.inr (202, h.2.1), ah_new h (202, []) 6)) ∨ ((0 ≤ v1.toInt ∧ v1.toInt < D.2.2.2.1.1) ∧ ((¬ (D.2.2.2.1.2 v1.toInt.toNat).2.2.2.2.2.1.1 = 1 ∧ z = (.inr (201, h.2.1), ah_new h (201, []) 6)) ∨ ((D.2.2.2.1.2 v1.toInt.toNat).2.2.2.2.2.1.1 = 1 ∧ ((∃ y c', sHold (kE (D.2.2.2.1.2 v1.toInt.toNat) D.2.2.1.1 D.2.2.1.2.2) (kR (D.2.2.2.1.2 v1.toInt.toNat) D.2.1) (D.2.2.2.1.2 v1.toInt.toNat).2.2.2.2.2.1.2.2.2.2.2.2.1 = some y ∧ z.1 = .inl (some (.inl y)) ∧ KI x (c', D.2) z.2 ∧ FN x h z.2) ∨ (sHold (kE (D.2.2.2.1.2 v1.toInt.toNat) D.2.2.1.1 D.2.2.1.2.2) (kR (D.2.2.2.1.2 v1.toInt.toNat) D.2.1) (D.2.2.2.1.2 v1.toInt.toNat).2.2.2.2.2.1.2.2.2.2.2.2.1 = none ∧ z.1 = .inl (some (.inl 2)) ∧ ∃ (c' : SCR) (y1 y2 : Int32) (a b : Nat → Int64), KI x (c', D.2.1, D.2.2.1, (D.2.2.2.1.1, upS D.2.2.2.1.2 v1.toInt.toNat (uUp (D.2.2.2.1.2 v1.toInt.toNat) (D.2.2.2.1.2 v1.toInt.toNat).2.2.2.2.1 (uFail (D.2.2.2.1.2 v1.toInt.toNat).2.2.2.2.2.1 y1 y2) a b)), D.2.2.2.2) z.2 ∧ FN x h z.2)))))
section Xh
variable {lim : Nat × Nat} {d x nS nU nD : Nat} {c : SCR} {τ : TD} {PS PD : Nat → Nat} {eS eD : Nat → TS} {U : Nat → UD} {h h' : ah_H} {v1 v2 : Int32} {kS : Nat → Int32 × Int32} {kV : Nat → Nat → Int32 × Int32}
theorem GKA_gk {T : KT} {nV : Nat} {kW : Nat → Int32 × Int32} (g : GKA T nS nV kS kW) : GK (T, nS, eS, nV) kS kW := g nS kS eS (Nat.le_refl _) (fun _ _ => rfl)
theorem FN_run {D : KD} {j : Nat} (K : KI x D h) (hj : j < D.2.2.2.1.1) {h' : ah_H} (G : GM x (kL (D.2.2.2.1.2 j) D.2.2.1.2.1) (D.2.2.2.1.2 j).2.2.1 h h') : FN x h h' := fun q g1 g2 => by
  obtain ⟨⟨b1, -⟩, b2⟩ := K.2.2.2.2.2.2.2.2.1 j hj
  refine G.1 q (Or.inl (by omega)) (by show q ≠ (D.2.2.2.1.2 j).1; omega) (by show q ≠ (D.2.2.2.1.2 j).1 + 12; omega) (by show q ≠ (D.2.2.2.1.2 j).1 + 13; omega) (fun i hi => ?_)
  have := (b2 i hi).1
  show q ≠ (D.2.2.2.1.2 j).2.2.2.1 i + 1
  omega
theorem kq_resume (K : KI x (c, τ, (nS, PS, eS), (nU, U), nD, PD, eD) h) (G : ∀ j, j < nU → UGp nS kS (kV j) (U j)) (hr : rm lim h) : wq (vc lim (d + 9) m_Code_resume [aR x, aI v1, aI v2] h) (rzP x (c, τ, (nS, PS, eS), (nU, U), nD, PD, eD) v1 v2 h) := by
  obtain ⟨⟨⟨uc, nk, c1, c2⟩, -⟩, k2, k3, k4, k5, s0, -⟩ := id K
  have k4 : ∀ j, j < nU → UHp (U j) h := k4
  have e1 : (1 : Int32).toInt = 1 := rfl
  have e4 : (10000 : Int32).toInt = 10000 := rfl
  refine wq_eq e_Code_resume (wq_at c1 (wq_cR (kq_unitAt K) ?_))
  rintro r2 h2 ⟨eh, er⟩
  subst eh
  by_cases hi : 0 ≤ v1.toInt ∧ v1.toInt < nU
  · rw [if_pos hi] at er
    subst er
    have hj : v1.toInt.toNat < nU := by omega
    have W := k4 _ hj
    obtain ⟨g1, g2, g3, g4, g5, g6⟩ := G _ hj
    refine wq_f (Option.some_ne_none _) (wq_if _ (fun c3 => thX hr (Or.inr ⟨hi, Or.inl ⟨fun q => by have := lt_i c3; omega, rfl⟩⟩)) (fun c3 => wq_if _ (fun c4 => ?_) (fun c4 => thX hr (Or.inr ⟨hi, Or.inl ⟨fun q => c4 (Int32.le_iff_toInt_le.mpr (by omega)), rfl⟩⟩))))
    have hs : 1 ≤ v2.toInt ∧ v2.toInt ≤ 10000 := ⟨by have := nlt_i c3; omega, by have := le_i c4; omega⟩
    refine wq_gI W.1 rfl (wq_if _ (fun c5 => thX hr (Or.inr ⟨hi, Or.inr ⟨hs, Or.inl ⟨Or.inl c5, rfl⟩⟩⟩)) (fun c5 => wq_gI W.1 rfl (wq_if _ (fun c6 => thX hr (Or.inr ⟨hi, Or.inr ⟨hs, Or.inl ⟨Or.inr c6, rfl⟩⟩⟩)) (fun c6 => ?_))))
    have C := KI_CM K hj
    have O := C.2.2.2.1
    refine wq_gR c1 rfl (tr_at O fun _ => wq_cV (c_tclear O) ?_)
    rintro h3 ⟨O3, F3⟩
    obtain ⟨C3, G3⟩ := CM_to (nV := (U v1.toInt.toNat).2.2.1) C O3 F3
    refine wq_at (CM_uc C3) (wq_cV (c_leaveWait (CM_uc C3)) fun h4 u4 => ?_)
    obtain ⟨C4, G4⟩ := CM_u (nV := (U v1.toInt.toNat).2.2.1) C3 u4
    have G04 := GM_tr G3 G4
    have s01 : (U v1.toInt.toNat).2.2.2.2.2.1.1 = 0 ∨ (U v1.toInt.toNat).2.2.2.2.2.1.1 = 1 := by
      rcases g6 with q | q | q | q
      · exact Or.inl q
      · exact Or.inr q
      · exact absurd q c5
      · exact absurd q c6
    have hb : x + 656 ≤ (U v1.toInt.toNat).1 ∧ (U v1.toInt.toNat).1 + 14 ≤ h2.2.1 := (K.2.2.2.2.2.2.2.2.1 _ hj).1
    have hw : bdT x h2.2.1 (U v1.toInt.toNat).2.2.1 (U v1.toInt.toNat).2.2.2.1 := (K.2.2.2.2.2.2.2.2.1 _ hj).2
    have ia : IA (U v1.toInt.toNat).2.1 (kR0 (U v1.toInt.toNat) τ).2.1 := g2 s01
    refine wq_mono (m_run (lim := lim) (d := d) (x := x) (L := kL (U v1.toInt.toNat) PS) (V := kE (U v1.toInt.toNat) nS eS) (kS := kS) (kV := kV v1.toInt.toNat) (h0 := h2) (GKA_gk g1) (fun h5 c5 r5 C5 G5 => ?_) (n := v2.toInt.toNat) (nn := v2) (by omega) (by omega) v2.toInt.toNat 0 0 h4 c (kR0 (U v1.toInt.toNat) τ) rfl (by omega) C4 G04 ia g3 rfl) ?_
    · refine ⟨_, (G5.1 x (by omega) ?_ ?_ ?_ ?_).trans c1, rfl⟩
      · have := hb.1
        show x ≠ (U v1.toInt.toNat).1
        omega
      · have := hb.1
        show x ≠ (U v1.toInt.toNat).1 + 12
        omega
      · have := hb.1
        show x ≠ (U v1.toInt.toNat).1 + 13
        omega
      · intro j hj
        have := (hw j hj).1
        show x ≠ (U v1.toInt.toNat).2.2.2.1 j + 1
        omega
    · rintro _ ⟨y, h5, rfl, rfl, c', s, a, b, C5, G5, q1, q2, q3⟩
      exact Or.inr ⟨hi, Or.inr ⟨hs, Or.inr ⟨fun q => q.elim c5 c6, ⟨rfl, c', s, a, b, KI_run K hj C5 G5, q1, q2, q3⟩, FN_run K hj G5⟩⟩⟩
  · rw [if_neg hi] at er
    subst er
    exact wq_t rfl (thX hr (Or.inl ⟨hi, rfl⟩))
theorem kq_holds (K : KI x (c, τ, (nS, PS, eS), (nU, U), nD, PD, eD) h) (G : ∀ j, j < nU → UGp nS kS (kV j) (U j)) (hr : rm lim h) : wq (vc lim (d + 8) m_Code_holds [aR x, aI v1] h) (hzP x (c, τ, (nS, PS, eS), (nU, U), nD, PD, eD) v1 h) := by
  obtain ⟨⟨⟨uc, nk, c1, c2⟩, -⟩, k2, k3, k4, k5, s0, -⟩ := id K
  have k4 : ∀ j, j < nU → UHp (U j) h := k4
  refine wq_eq e_Code_holds (wq_at c1 (wq_cR (kq_unitAt K) ?_))
  rintro r2 h2 ⟨eh, er⟩
  subst eh
  by_cases hi : 0 ≤ v1.toInt ∧ v1.toInt < nU
  · rw [if_pos hi] at er
    subst er
    have hj : v1.toInt.toNat < nU := by omega
    have W := k4 _ hj
    obtain ⟨g1, g2, g3, g4, g5, g6⟩ := G _ hj
    refine wq_f (Option.some_ne_none _) (wq_gI W.1 rfl (wq_if _ (fun c5 => ?_) (fun c5 => thX hr (Or.inr ⟨hi, Or.inl ⟨c5, rfl⟩⟩))))
    have C := KI_CM K hj
    obtain ⟨w1, w2⟩ := g5 c5
    refine wq_gR c1 rfl (wq_at (CM_rc C) (wq_cI (m_hold (kS := kS) (kV := kV v1.toInt.toNat) (GKA_gk g1) C w1 w2) fun y h3 q => wq_some (Or.inr ⟨hi, Or.inr ⟨c5, ?_⟩⟩)))
    cases e : sHold (kE (U v1.toInt.toNat) nS eS) (kR (U v1.toInt.toNat) τ) (U v1.toInt.toNat).2.2.2.2.2.1.2.2.2.2.2.2.1 with
    | some y' =>
      rw [e] at q
      obtain ⟨rfl, c', C', G'⟩ := q
      refine Or.inl ⟨y, c', rfl, rfl, ?_, FN_run K hj G'⟩
      have := KI_run K hj C' G'
      rw [show upS U v1.toInt.toNat ((U v1.toInt.toNat).1, (U v1.toInt.toNat).2.1, (U v1.toInt.toNat).2.2.1, (U v1.toInt.toNat).2.2.2.1, (kR (U v1.toInt.toNat) τ).1, (kR (U v1.toInt.toNat) τ).2.1, (kR (U v1.toInt.toNat) τ).2.2.1, (kR (U v1.toInt.toNat) τ).2.2.2.1) = U from funext fun k => by
        by_cases ek : k = v1.toInt.toNat
        · rw [ek, upS_eq]
        · rw [upS_ne ek]] at this
      exact this
    | none =>
      rw [e] at q
      obtain ⟨rfl, c', y1, y2, a, b, C', G'⟩ := q
      exact Or.inr ⟨rfl, rfl, c', y1, y2, a, b, KI_run K hj C' G', FN_run K hj G'⟩
  · rw [if_neg hi] at er
    subst er
    exact wq_t rfl (thX hr (Or.inl ⟨hi, rfl⟩))
end Xh
