/-! THE RUNNER: loops, EXIT and NEXT, WAIT, ASSERT, REPORT -/
def sFor (V : ENV) (r : RST) (v : Int32) : Option SOUT := (pNo (EVL V r (kC V.1 v 1))).bind fun a => (pNo (EVL V r (kC V.1 v 2))).bind fun b => some (r.1, upS r.2.2.1 v.toInt.toNat (wN a), upS r.2.2.2.1 v.toInt.toNat (wN b), r.2.2.2.2, 2, v)
/-- a count's end -/
abbrev cnE (T : KT) (v : Int32) (a b : Int64) : Prop := if kf T 0 v = 38 then ¬ a ≤ b else a < b
abbrev cnN (T : KT) (v : Int32) (a : Int64) : Int64 := if kf T 0 v = 38 then a + 1 else a - 1
def sLook (V : ENV) (r : RST) (v : Int32) : Option SOUT := if kf V.1 0 v = 41 then oI r (kC V.1 v 0) else if kf V.1 0 v = 40 then (pNo (EVL V r (kC V.1 v 0))).bind fun w => if wN w = 0 then oBe r v else oI r (kC V.1 v 1) else if cnE V.1 v (r.2.2.1 v.toInt.toNat) (r.2.2.2.1 v.toInt.toNat) then oBe r v else if (r.1 (kf V.1 1 (kC V.1 v 0)).toInt.toNat).2.2.2.2.1.toInt ≤ (r.2.2.1 v.toInt.toNat).toInt ∧ (r.2.2.1 v.toInt.toNat).toInt ≤ (r.1 (kf V.1 1 (kC V.1 v 0)).toInt.toNat).2.2.2.2.2.toInt then some (upS r.1 (kf V.1 1 (kC V.1 v 0)).toInt.toNat (pNum (r.2.2.1 v.toInt.toNat), (r.1 (kf V.1 1 (kC V.1 v 0)).toInt.toNat).2), upS r.2.2.1 v.toInt.toNat (cnN V.1 v (r.2.2.1 v.toInt.toNat)), r.2.2.2.1, r.2.2.2.2, 1, kC V.1 v 3) else none
def lpO' (T : KT) (v : Int32) : Int32 := lpU T (T.1 + 1) (xU T v)
def oL (T : KT) (r : RST) (v : Int32) : Option SOUT := if kf T 0 v = 42 then oBe r (lpO' T v) else some (r.1, r.2.2.1, r.2.2.2.1, r.2.2.2.2, 2, lpO' T v)
def sLeave (V : ENV) (r : RST) (v : Int32) : Option SOUT := if kf V.1 0 (kC V.1 v 0) = 0 then oL V.1 r v else (pNo (EVL V r (kC V.1 v 0))).bind fun w => if wN w = 0 then oBe r v else oL V.1 r v
def sWait (V : ENV) (r : RST) (v : Int32) : Option Int64 := if kf V.1 0 (kC V.1 v 2) = 0 then some (-1) else (EVL V r (kC V.1 v 2)).map fun w => wN w
def wtM (x : Nat) (L : LAY) (V : ENV) (r : RST) (v : Int32) (o : Option Int64) (h : ah_H) (y : Int32) (h' : ah_H) : Prop := y = 0 ∧ match o with
  | some z => ∀ g, pGo V.1 0 v = some g → ∃ c : SCR, CM x L V c (r.1, (1, r.2.1.2.1, r.2.1.2.2.1, r.2.1.2.2.2.1, g.1, g.2, v, z), r.2.2) h' ∧ GM x L V.2.2.2 h h'
  | none => FA x L V r h h'
def sRep (V : ENV) (r : RST) (v : Int32) (i : Nat) : Option SOUT := (pNo (EVL V r (kC V.1 v i))).bind fun u => sTell r v u
def sCheck (V : ENV) (r : RST) (v : Int32) : Option SOUT := (pNo (EVL V r (kC V.1 v 0))).bind fun w => if wN w = 0 then sRep V r v 1 else oBe r v
section Wh
variable {lim : Nat × Nat} {d x : Nat} {L : LAY} {V : ENV} {c : SCR} {r : RST} {h h' h0 : ah_H} {w : WD} {v k y z : Int32} {kS kV : Nat → Int32 × Int32} {Φ : ah_R → Prop}
theorem m_for (P : PO V.1) (C : CM x L V c r h) (hv : rgN V.1 v) (hm : kf V.1 6 v = 4) (g1 : gXV V kS kV (kC V.1 v 1)) (g2 : gXV V kS kV (kC V.1 v 2)) : wq (vc lim (d + 6) m_Runner_beginCount [aR (x + 530), aR L.1, aI v] h) (rI (goM x L V r (sFor V r v) h)) := by
  have e1 : xCh V.1 v 1 = kC V.1 v 1 := xC_k (n := 1) hv rfl (by rw [hm]; decide)
  have e2 : xCh V.1 v 2 = kC V.1 v 2 := xC_k (n := 2) hv rfl (by rw [hm]; decide)
  refine wq_eq e_Runner_beginCount (rk_fnum P C (by rw [e1]; exact g1) (fun e h1 q => ?_) (fun w S h1 e C1 s0 G1 => m_num C1 s0 (rk_fnum P C1 (by rw [e2]; exact g2) (fun e' h2 q => ?_) (fun u S2 h2 e' C2 s2 G2 => m_num C2 s2 ?_))))
  · rw [e1] at e
    exact ps_0 (by unfold sFor; rw [e]; rfl) q
  · rw [e1] at e
    rw [e2] at e'
    exact ps_0 (by unfold sFor; rw [e, e']; rfl) (FA_tr (c1 := c) G1 q)
  · rw [e1] at e
    rw [e2] at e'
    have n1 := C2.2.2.2.2.1
    have n2 := C2.2.2.2.2.2.1
    have Z := C2.2.2.2.2.2.2.1
    refine wq_at (CM_uc C2) (wq_cV (c_beginCount (CM_uc C2) n1 n2 C2.2.2.2.2.2.2.2 Z.1.2.2.2.2.2 hv) ?_)
    rintro h3 ⟨b1, b2, b3, b4⟩
    obtain ⟨C3, G3⟩ := CM_cn (nV := V.2.2.2) C2 b1 b2 b3 b4
    exact ps_l C3 (GM_tr G1 (GM_tr G2 G3)) (by unfold sFor; rw [e, e']; rfl)
theorem m_lookAt (P : PO V.1) (HG : GT V.1) (hK : ∀ i, i < V.2.2.2 → wI (r.1 i).1 = 2 → wL (r.1 i).1 = 1) (C : CM x L V c r h) (hv : rgN V.1 v) (g : (kf V.1 0 v = 41 ∧ kf V.1 6 v = 1) ∨ (kf V.1 0 v = 40 ∧ kf V.1 6 v = 2 ∧ gXV V kS kV (kC V.1 v 0)) ∨ ((kf V.1 0 v = 38 ∨ kf V.1 0 v = 39) ∧ kf V.1 6 v = 4 ∧ gO' V.1 V.2.1 V.2.2.2 (kC V.1 v 0) ∧ kf V.1 0 (kC V.1 v 0) = 81 ∧ wI (r.1 (kf V.1 1 (kC V.1 v 0)).toInt.toNat).1 = 2)) : wq (vc lim (d + 6) m_Runner_look [aR (x + 530), aR L.1, aI v] h) (rI (goM x L V r (sLook V r v) h)) := by
  refine wq_eq e_Runner_look (rk_nd C (rk_kind C ?_))
  rw [xK_r hv]
  obtain ⟨g1, gm⟩ | ⟨g1, gm, gx⟩ | ⟨g1, gm, go, ko, gw⟩ := g
  · refine wq_t g1 (rk_nd C (rk_k (n := 0) C hv rfl (by rw [gm]; decide) (ps_i HG C GM_0 (if_pos g1))))
  · have n41 : ¬ kf V.1 0 v = 41 := by rw [g1]; decide
    have e0 : xCh V.1 v 0 = kC V.1 v 0 := xC_k (n := 0) hv rfl (by rw [gm]; decide)
    have es : sLook V r v = (pNo (EVL V r (kC V.1 v 0))).bind fun w => if wN w = 0 then oBe r v else oI r (kC V.1 v 1) := (if_neg n41).trans (if_pos g1)
    refine wq_f n41 (wq_t g1 (rk_fnum P C (by rw [e0]; exact gx) (fun e h1 q => ?_) (fun w S h1 e C1 s0 G1 => m_num C1 s0 (wq_if _ (fun c0 => ?_) (fun c0 => ?_)))))
    · rw [e0] at e
      exact ps_0 (by rw [es, e]; rfl) q
    · rw [e0] at e
      rw [lg_eq] at c0
      exact ps_b HG C1 G1 (by rw [es, e]; exact if_pos c0)
    · rw [e0] at e
      rw [lg_eq] at c0
      exact rk_nd C1 (rk_k (n := 1) C1 hv rfl (by rw [gm]; decide) (ps_i HG C1 G1 (by rw [es, e]; exact if_neg c0)))
  · have n41 : ¬ kf V.1 0 v = 41 := by rcases g1 with g1 | g1 <;> (rw [g1]; decide)
    have n40 : ¬ kf V.1 0 v = 40 := by rcases g1 with g1 | g1 <;> (rw [g1]; decide)
    obtain ⟨va, vs, vn⟩ := go_v (L := L) (r := r) go ko
    have es : sLook V r v = if cnE V.1 v (r.2.2.1 v.toInt.toNat) (r.2.2.2.1 v.toInt.toNat) then oBe r v else if (r.1 (kf V.1 1 (kC V.1 v 0)).toInt.toNat).2.2.2.2.1.toInt ≤ (r.2.2.1 v.toInt.toNat).toInt ∧ (r.2.2.1 v.toInt.toNat).toInt ≤ (r.1 (kf V.1 1 (kC V.1 v 0)).toInt.toNat).2.2.2.2.2.toInt then some (upS r.1 (kf V.1 1 (kC V.1 v 0)).toInt.toNat (pNum (r.2.2.1 v.toInt.toNat), (r.1 (kf V.1 1 (kC V.1 v 0)).toInt.toNat).2), upS r.2.2.1 v.toInt.toNat (cnN V.1 v (r.2.2.1 v.toInt.toNat)), r.2.2.2.1, r.2.2.2.2, 1, kC V.1 v 3) else none := (if_neg n41).trans (if_neg n40)
    have n1 := C.2.2.2.2.1
    have n2 := C.2.2.2.2.2.1
    have hT := C.2.2.2.2.2.2.2
    refine wq_f n41 (wq_f n40 (wq_at (CM_uc C) (wq_cI (c_isCountOver (CM_n C) (CM_uc C) n1 n2 hT hv) ?_)))
    rintro _ h1 ⟨eh, rfl⟩
    subst eh
    by_cases ce : cnE V.1 v (r.2.2.1 v.toInt.toNat) (r.2.2.2.1 v.toInt.toNat)
    · rw [show bI (decide (if kf V.1 0 v = 38 then ¬ r.2.2.1 v.toInt.toNat ≤ r.2.2.2.1 v.toInt.toNat else r.2.2.1 v.toInt.toNat < r.2.2.2.1 v.toInt.toNat)) = 1 by rw [decide_eq_true ce]; rfl]
      exact wq_f (by decide) (ps_b HG C GM_0 (es.trans (if_pos ce)))
    · rw [show bI (decide (if kf V.1 0 v = 38 then ¬ r.2.2.1 v.toInt.toNat ≤ r.2.2.2.1 v.toInt.toNat else r.2.2.1 v.toInt.toNat < r.2.2.2.1 v.toInt.toNat)) = 0 by rw [decide_eq_false ce]; rfl]
      rw [if_neg ce] at es
      refine wq_t rfl (wq_gR (CM_uc C) rfl (rk_nd C (rk_nd C (rk_k (n := 0) C hv rfl (by rw [gm]; decide) (rk_given C ?_)))))
      rw [xG_r go.1]
      obtain ⟨-, g0, ⟨k80, -⟩ | ⟨-, g2⟩⟩ := go
      · rw [ko] at k80
        exact absurd k80 (by decide)
      have E2 := C.2.2.1
      obtain ⟨rw1, ls1, cc1, et, -⟩ := E2.2.2.2.1
      have hp := c_pick (lim := lim) (d := d + 4) (i := kf V.1 1 (kC V.1 v 0)) E2.2.2.2.1
      rw [if_pos ⟨g0, g2⟩] at hp
      refine wq_at et (wq_cR hp ?_)
      rintro _ h2 ⟨eh, rfl⟩
      subst eh
      refine wq_at (CM_uc C) (wq_cJ (c_countOn (CM_n C) (CM_uc C) n1 hT hv) ?_)
      rintro _ h3 ⟨rfl, u3⟩
      have ne := C.2.2.2.2.2.2.1.1.2.2.2.2.2
      obtain ⟨C3, G3⟩ := CM_cn (nV := V.2.2.2) C u3.1 ((u3.2.1 _ (Ne.symm ne)).trans n2) (fun q q1 q2 => u3.2.1 q q1) u3.2.2
      have T3 : TC (L.2.2.2.2.2.2 (kf V.1 1 (kC V.1 v 0)).toInt.toNat) (r.1 (kf V.1 1 (kC V.1 v 0)).toInt.toNat) h3 := C3.2.2.1.2.2.2.2.2 _ vn
      refine wq_f (by simp) (wq_at T3.1 (wq_cI (c_allows T3) ?_))
      rintro _ h4 ⟨eh, rfl⟩
      subst eh
      by_cases ca : (r.1 (kf V.1 1 (kC V.1 v 0)).toInt.toNat).2.2.2.2.1.toInt ≤ (r.2.2.1 v.toInt.toNat).toInt ∧ (r.2.2.1 v.toInt.toNat).toInt ≤ (r.1 (kf V.1 1 (kC V.1 v 0)).toInt.toNat).2.2.2.2.2.toInt
      · rw [if_pos ca] at es
        rw [decide_eq_true ca]
        refine wq_f (by decide) (wq_gR T3.1 rfl (wq_at T3.2.1 (wq_cV (c_beNumber T3.2.1) fun h5 u5 => ?_)))
        obtain ⟨C5, G5⟩ := CM_v vn C3 u5 gw.symm (hK _ vn gw).symm
        exact rk_nd C5 (rk_k (n := 3) C5 hv rfl (by rw [gm]; decide) (ps_i HG C5 (GM_tr G3 G5) es))
      · rw [if_neg ca] at es
        rw [decide_eq_false ca]
        refine wq_t rfl (rk_fail C3 fun h5 q => wq_t (Or.inl rfl) (wq_some (rI_i ?_)))
        rw [es]
        exact ⟨rfl, FA_tr (c1 := c) G3 q⟩
theorem m_leave (P : PO V.1) (HG : GT V.1) (HU : ∀ x, rgN V.1 x → xU V.1 x = -1 ∨ (rgN V.1 (xU V.1 x) ∧ x.toInt < (xU V.1 x).toInt)) (C : CM x L V c r h) (hv : rgN V.1 v) (hm : kf V.1 6 v = 1) (g : kf V.1 0 (kC V.1 v 0) = 0 ∨ gXV V kS kV (kC V.1 v 0)) : wq (vc lim (d + 6) m_Runner_leave [aR (x + 530), aR L.1, aI v] h) (rI (goM x L V r (sLeave V r v) h)) := by
  have h1' : (0 : Int) < (kf V.1 6 v).toInt := by rw [hm]; decide
  have hk := (po_k P hv (i := 0) h1').1
  have e0 : xCh V.1 v 0 = kC V.1 v 0 := xC_k (n := 0) hv rfl h1'
  have G54 : ∀ (h2 : ah_H) (c2 : SCR) (o : Option SOUT), CM x L V c2 r h2 → GM x L V.2.2.2 h h2 → o = oL V.1 r v → wq (ah_val lim ah_P (d + 5) 220 54 [none, some (aR L.1), some (aI v), some (aI 1), none] [] h2) (rI (goM x L V r o h)) := by
    intro h2 c2 o C2 G2 ho
    obtain ⟨v5, e5⟩ := CM_n5 C2
    refine wq_eq q_220_54 (wq_f (by decide) (rk_nd C2 (wq_at e5 (wq_cI (c_loopOf (CM_n C2) P hv HU) ?_))))
    rintro _ h3 ⟨eh, rfl⟩
    subst eh
    refine rk_nd C2 (rk_kind C2 ?_)
    rw [xK_r hv]
    refine wq_if _ (fun c42 => ps_b HG C2 G2 (ho.trans (if_pos c42))) (fun c42 => ps_l C2 G2 (ho.trans (if_neg c42)))
  refine wq_eq e_Runner_leave (rk_nd C (rk_nd C (rk_k (n := 0) C hv rfl h1' (rk_kind C ?_))))
  rw [xK_r hk]
  refine wq_if _ (fun c0 => G54 h c _ C GM_0 (if_pos c0)) (fun c0 => ?_)
  have es : sLeave V r v = (pNo (EVL V r (kC V.1 v 0))).bind fun w => if wN w = 0 then oBe r v else oL V.1 r v := if_neg c0
  refine rk_fnum P C (by rw [e0]; exact g.resolve_left c0) (fun e h1 q => ?_) (fun w S h1 e C1 s0 G1 => m_num C1 s0 (wq_if _ (fun c1 => ?_) (fun c1 => ?_)))
  · rw [e0] at e
    exact ps_0 (by rw [es, e]; rfl) q
  · rw [e0] at e
    rw [lg_eq] at c1
    exact wq_eq q_220_54 (wq_t rfl (ps_b HG C1 G1 (by rw [es, e]; exact if_pos c1)))
  · rw [e0] at e
    rw [lg_eq] at c1
    exact G54 h1 _ _ C1 G1 (by rw [es, e]; exact if_neg c1)
theorem m_waitAt {h0 : ah_H} {zz : Int64} {g : Int32 × Int32} (C : CM x L V c r h) (G : GM x L V.2.2.2 h0 h) (hg : pGo V.1 0 v = some g) : wq (vc lim (d + 5) m_Unit_waitAt [aR L.1, aI v, aJ zz] h) (rI (wtM x L V r v (some zz) h0)) := by
  refine wq_mono (c_waitAt (CM_n C) (CM_uc C) hg) ?_
  rintro _ ⟨y, h', rfl, rfl, k⟩
  obtain ⟨C', G'⟩ := CM_u (nV := V.2.2.2) C k
  refine rI_i ⟨rfl, fun g' hg' => ?_⟩
  rw [hg] at hg'
  cases hg'
  exact ⟨c, C', GM_tr G G'⟩
theorem m_pause (P : PO V.1) (HG : GT V.1) (C : CM x L V c r h) (hv : rgN V.1 v) (hm : kf V.1 6 v = 3) (g : kf V.1 0 (kC V.1 v 2) = 0 ∨ gXV V kS kV (kC V.1 v 2)) : wq (vc lim (d + 6) m_Runner_pause [aR (x + 530), aR L.1, aI v] h) (rI (wtM x L V r v (sWait V r v) h)) := by
  have h1' : (2 : Int) < (kf V.1 6 v).toInt := by rw [hm]; decide
  have hk := (po_k P hv (i := 2) h1').1
  obtain ⟨g', hg⟩ := HG (xU V.1 v) (xP V.1 v + 1)
  refine wq_eq e_Runner_pause (rk_nd C (rk_k (n := 2) C hv rfl h1' (rk_nd C (rk_kind C ?_))))
  rw [xK_r hk]
  refine wq_if _ (fun c0 => wq_at (CM_uc C) (wq_cI (m_waitAt C GM_0 hg) fun y1 h1 q => ?_)) (fun c0 => ?_)
  · rw [q.1]
    refine wq_t (Or.inl rfl) (wq_some (rI_i ?_))
    rw [show sWait V r v = some (-1) from if_pos c0]
    exact ⟨rfl, q.2⟩
  · have es : sWait V r v = (EVL V r (kC V.1 v 2)).map fun w => wN w := if_neg c0
    refine rk_fd C (rk_find P C (g.resolve_left c0) (fun e h1 q => ?_) (fun w S h1 e C1 s0 G1 => m_num C1 s0 (wq_at (CM_uc C1) (wq_cI (m_waitAt C1 G1 hg) fun y1 h2 q => ?_))))
    · refine wq_t (Or.inl rfl) (wq_some (rI_i ?_))
      rw [es, e]
      exact ⟨rfl, q⟩
    · rw [q.1]
      refine wq_t rfl (wq_t (Or.inl rfl) (wq_some (rI_i ?_)))
      rw [es, e]
      exact ⟨rfl, q.2⟩
theorem ps_01 {o : Option SOUT} {h1 : ah_H} {q : Option ah_R} (k : wq q (rI (goM x L V r o h))) : wq (ah_cI q (nx h1) fun i h1 => if i = 0 then if (0 : Int32) = 0 ∨ (0 : Int32) = 1 then some ((.inl (some (.inl 0)), h1) : ah_R) else none else if (1 : Int32) = 0 ∨ (1 : Int32) = 1 then some (.inl (some (.inl 1)), h1) else none) (rI (goM x L V r o h)) := wq_cI k fun x h1 p => by
  rcases go_01 p with rfl | rfl
  · exact wq_t rfl (wq_t (Or.inl rfl) (wq_some (rI_i p)))
  · exact wq_f (by decide) (wq_t (Or.inr rfl) (wq_some (rI_i p)))
/-- a number is found and told -/
theorem m_rep {i : Int32} {n : Nat} {h1 : ah_H} (P : PO V.1) (HG : GT V.1) (C : CM x L V c r h) (G : GM x L V.2.2.2 h0 h) (hv : rgN V.1 v) (hi : i.toInt = n) (hm : (n : Int) < (kf V.1 6 v).toInt) (g : gXV V kS kV (kC V.1 v n)) : wq (ah_at h (some (x + 530)) 6 fun _ _ => ah_cI (vc lim (d + 6) 209 [aR (x + 530), aR L.1, aI v, aI i] h) (nx h1) fun i8 h7 => if i8 = 0 then if (0 : Int32) = 0 ∨ (0 : Int32) = 1 then some ((.inl (some (.inl 0)), h7) : ah_R) else none else ah_at h7 (some (x + 530)) 6 fun _ _ => ah_cI (vc lim (d + 6) 223 [aR (x + 530), aR L.1, aI v] h7) (nx h7) fun i10 h9 => if i10 = 0 then if (0 : Int32) = 0 ∨ (0 : Int32) = 1 then some (.inl (some (.inl 0)), h9) else none else if (1 : Int32) = 0 ∨ (1 : Int32) = 1 then some (.inl (some (.inl 1)), h9) else none) (rI (goM x L V r (sRep V r v n) h0)) := by
  have e0 : xCh V.1 v i = kC V.1 v n := xC_k hv hi hm
  obtain ⟨g', hg⟩ := HG (xU V.1 v) (xP V.1 v + 1)
  refine rk_fnum P C (by rw [e0]; exact g) (fun e h1 q => ?_) (fun w S h1 e C1 s0 G1 => wq_at (CM_rc C1) (ps_01 ?_))
  · rw [e0] at e
    exact ps_0 (by unfold sRep; rw [e]; rfl) (FA_tr (c1 := c) G q)
  · rw [e0] at e
    rw [show sRep V r v n = sTell r v w by unfold sRep; rw [e]; rfl]
    exact m_tell C1 (GM_tr G G1) s0 hg
theorem m_check (P : PO V.1) (HG : GT V.1) (C : CM x L V c r h) (hv : rgN V.1 v) (hm : kf V.1 6 v = 2) (g : gXV V kS kV (kC V.1 v 0)) (g1 : gXV V kS kV (kC V.1 v 1)) : wq (vc lim (d + 7) m_Runner_check [aR (x + 530), aR L.1, aI v] h) (rI (goM x L V r (sCheck V r v) h)) := by
  have e0 : xCh V.1 v 0 = kC V.1 v 0 := xC_k (n := 0) hv rfl (by rw [hm]; decide)
  refine wq_eq e_Runner_check (rk_fnum P C (by rw [e0]; exact g) (fun e h1 q => ?_) (fun w S h1 e C1 s0 G1 => m_num C1 s0 (wq_if _ (fun c1 => ?_) (fun c1 => ?_))))
  · rw [e0] at e
    exact ps_0 (by unfold sCheck; rw [e]; rfl) q
  · rw [e0] at e
    rw [lg_eq] at c1
    rw [show sCheck V r v = sRep V r v 1 by unfold sCheck; rw [e]; exact if_pos c1]
    exact m_rep (n := 1) P HG C1 G1 hv rfl (by rw [hm]; decide) g1
  · rw [e0] at e
    rw [lg_eq] at c1
    exact ps_b HG C1 G1 (by unfold sCheck; rw [e]; exact if_neg c1)
end Wh
