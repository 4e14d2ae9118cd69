/-! THE RUNNER: SET -/
def ofT (T : KT) (v : Int32) : Int32 := if kf T 0 v = 82 ∨ kf T 0 v = 83 then kC T v 0 else v
def thS (V : ENV) (r : RST) (o : Int32) : TS := if kf V.1 0 o = 80 then V.2.2.1 (kf V.1 1 o).toInt.toNat else r.1 (kf V.1 1 o).toInt.toNat
def thA (L : LAY) (V : ENV) (o : Int32) : Nat := if kf V.1 0 o = 80 then L.2.2.2.2.2.1 (kf V.1 1 o).toInt.toNat else L.2.2.2.2.2.2 (kf V.1 1 o).toInt.toNat
/-- a target: class, first, many -/
def pAim (V : ENV) (r : RST) (v : Int32) : Option (Int32 × Int32 × Int32) := if kf V.1 0 v = 83 then some (wI (thS V r (ofT V.1 v)).1, kf V.1 1 (kC V.1 v 1), kf V.1 1 (kC V.1 v 2)) else if kf V.1 0 v = 82 then (EVL V r (kC V.1 v 1)).bind fun w => if wI w = 2 then if wN w < 0 then none else if wN w < (wL (thS V r (ofT V.1 v)).1).toInt64 then some (0, (wN w).toInt32, 1) else none else none else some (wI (thS V r (ofT V.1 v)).1, 0, wL (thS V r (ofT V.1 v)).1)
/-- a good target -/
def gTg (V : ENV) (kS kV : Nat → Int32 × Int32) (k v : Int32) : Prop := rgN V.1 v ∧ ((kf V.1 0 v = k ∧ gO' V.1 V.2.1 V.2.2.2 v) ∨ (kf V.1 0 v = 82 ∧ kf V.1 6 v = 2 ∧ gO' V.1 V.2.1 V.2.2.2 (kC V.1 v 0) ∧ kf V.1 0 (kC V.1 v 0) = k ∧ gXV V kS kV (kC V.1 v 1)) ∨ (kf V.1 0 v = 83 ∧ kf V.1 6 v = 3 ∧ gO' V.1 V.2.1 V.2.2.2 (kC V.1 v 0) ∧ kf V.1 0 (kC V.1 v 0) = k ∧ rgN V.1 (kC V.1 v 1) ∧ rgN V.1 (kC V.1 v 2)))
def amM (x : Nat) (L : LAY) (V : ENV) (c : SCR) (r : RST) (a : Nat) (g : Int32) (o : Option (Int32 × Int32 × Int32)) (h : ah_H) (y : Int32) (h' : ah_H) : Prop := match o with
  | some (k, f, m) => y = 1 ∧ ∃ S : Nat → WD, CM x L V (S, c.2.1, c.2.2.1, c.2.2.2.1, some a, g, k, f, m) r h' ∧ GM x L V.2.2.2 h h'
  | none => y = 0 ∧ FA x L V r h h'
/-- what has been found fits -/
def pFit (w : WD) (s : TS) (k m : Int32) : Bool := decide (wI w = k ∧ wL w = m ∧ (wI w = 2 → s.2.2.2.2.1.toInt ≤ (wN w).toInt ∧ (wN w).toInt ≤ s.2.2.2.2.2.toInt))
def sSet (V : ENV) (r : RST) (v : Int32) : Option SOUT := (pAim V r (kC V.1 v 0)).bind fun q => (EVL V r (kC V.1 v 1)).bind fun w => if pFit w (thS V r (ofT V.1 (kC V.1 v 0))) q.1 q.2.2 then some (upS r.1 (kf V.1 1 (ofT V.1 (kC V.1 v 0))).toInt.toNat (if q.1 = 2 then pNum (wN w) else pOver (thS V r (ofT V.1 (kC V.1 v 0))).1 w q.2.1, (thS V r (ofT V.1 (kC V.1 v 0))).2), r.2.2.1, r.2.2.2.1, r.2.2.2.2, 0, v) else none
section Wf
variable {lim : Nat × Nat} {d x : Nat} {L : LAY} {V : ENV} {c : SCR} {r : RST} {h h' h0 : ah_H} {w : WD} {v k y z : Int32} {kS kV : Nat → Int32 × Int32} {Φ : ah_R → Prop}
theorem CM_th (C : CM x L V c r h) {o : Int32} (g : gO' V.1 V.2.1 V.2.2.2 o) : TC (thA L V o) (thS V r o) h := by
  obtain ⟨-, -, E, -⟩ := C
  obtain ⟨-, g0, ⟨g1, g2⟩ | ⟨g1, g2⟩⟩ := g
  · unfold thA thS
    rw [if_pos g1, if_pos g1]
    exact E.2.2.2.2.1 _ (by omega)
  · unfold thA thS
    rw [if_neg (by rw [g1]; decide), if_neg (by rw [g1]; decide)]
    exact E.2.2.2.2.2 _ (by omega)
theorem gTg_o (k80 : k = 80 ∨ k = 81) (g : gTg V kS kV k v) : gO' V.1 V.2.1 V.2.2.2 (ofT V.1 v) ∧ kf V.1 0 (ofT V.1 v) = k := by
  obtain ⟨hv, ⟨g1, g2⟩ | ⟨g1, -, g2, g3, -⟩ | ⟨g1, -, g2, g3, -⟩⟩ := g
  · have : ¬ (kf V.1 0 v = 82 ∨ kf V.1 0 v = 83) := by
      rw [g1]
      rcases k80 with rfl | rfl <;> decide
    unfold ofT
    rw [if_neg this]
    exact ⟨g2, g1⟩
  · unfold ofT
    rw [if_pos (Or.inl g1)]
    exact ⟨g2, g3⟩
  · unfold ofT
    rw [if_pos (Or.inr g1)]
    exact ⟨g2, g3⟩
theorem m_aim (P : PO V.1) (k80 : k = 80 ∨ k = 81) (C : CM x L V c r h) (g : gTg V kS kV k v) : wq (vc lim (d + 5) m_Runner_aim [aR (x + 530), aR L.1, aI v] h) (rI (amM x L V c r (thA L V (ofT V.1 v)) (kf V.1 1 (ofT V.1 v)) (pAim V r v) h)) := by
  obtain ⟨S, wc, ww, wl, tg, n1, n2, n3, n4⟩ := c
  obtain ⟨go, ko⟩ := gTg_o k80 g
  have hv := g.1
  have ho := go.1
  -- the target's number is known
  have G134 : ∀ (m4 : Int32) (h2 : ah_H), CM x L V (S, wc, ww, wl, some (thA L V (ofT V.1 v)), kf V.1 1 (ofT V.1 v), wI (thS V r (ofT V.1 v)).1, 0, m4) r h2 → GM x L V.2.2.2 h h2 → wq (ah_val lim ah_P (d + 4) 211 134 [some (aR (x + 530)), some (aR L.1), some (aI v), some (aR L.2.1), some (aI (kf V.1 0 v)), none, none, none] [aI (wL (thS V r (ofT V.1 v)).1), aR (x + 530)] h2) (rI (amM x L V (S, wc, ww, wl, tg, n1, n2, n3, n4) r (thA L V (ofT V.1 v)) (kf V.1 1 (ofT V.1 v)) (pAim V r v) h)) := by
    intro m4 h2 C2 G2
    refine wq_eq q_211_134 (wn10 C2 fun h3 C3 G3 => ?_)
    have G03 := GM_tr G2 G3
    refine wq_if _ (fun c83 => ?_) (fun c83 => wq_if _ (fun c82 => ?_) (fun c82 => ?_))
    · obtain ⟨-, ⟨g1, -⟩ | ⟨g1, -⟩ | ⟨-, gm, -, -, q1, q2⟩⟩ := g
      · rw [c83] at g1
        rcases k80 with rfl | rfl <;> exact absurd g1 (by decide)
      · rw [c83] at g1; exact absurd g1 (by decide)
      refine rk_k (n := 1) C3 hv rfl (by rw [gm]; decide) (rk_given C3 ?_)
      rw [xG_r q1]
      refine wn9 C3 fun h4 C4 G4 => rk_k (n := 2) C4 hv rfl (by rw [gm]; decide) (rk_given C4 ?_)
      rw [xG_r q2]
      refine wn10 C4 fun h5 C5 G5 => wq_t (by decide) (wq_some (rI_i ?_))
      rw [show pAim V r v = some (wI (thS V r (ofT V.1 v)).1, kf V.1 1 (kC V.1 v 1), kf V.1 1 (kC V.1 v 2)) from if_pos c83]
      exact ⟨rfl, S, C5, GM_tr G03 (GM_tr G4 G5)⟩
    · obtain ⟨-, ⟨g1, -⟩ | ⟨-, gm, -, -, q1⟩ | ⟨g1, -⟩⟩ := g
      · rw [c82] at g1
        rcases k80 with rfl | rfl <;> exact absurd g1 (by decide)
      · have ea : pAim V r v = (EVL V r (kC V.1 v 1)).bind fun w => if wI w = 2 then if wN w < 0 then none else if wN w < (wL (thS V r (ofT V.1 v)).1).toInt64 then some (0, (wN w).toInt32, 1) else none else none := (if_neg c83).trans (if_pos c82)
        refine rk_fd C3 (rk_k (n := 1) C3 hv rfl (by rw [gm]; decide) (rk_find P C3 q1 (fun e h4 q => ?_) (fun w S' h4 e C4 s0 G4 => ?_)))
        · rw [ea, e]
          exact wq_t (Or.inl rfl) (wq_some (rI_i ⟨rfl, FA_tr (c1 := (S, wc, ww, wl, tg, n1, n2, n3, n4)) G03 q⟩))
        · rw [ea, e]
          have G04 := GM_tr G03 G4
          refine rk_isN C4 s0 (fun cw => ?_) (fun cw => ?_)
          · refine m_num C4 s0 (wq_if _ (fun c0 => ?_) (fun c0 => wq_gI (CM_rc C4) rfl (wq_if _ (fun c1 => ?_) (fun c1 => ?_))))
            · rw [lgv_lt] at c0
              refine rk_fail C4 fun h5 q => wq_t (Or.inl rfl) (wq_some (rI_i ?_))
              show amM _ _ _ _ _ _ _ (if wI w = 2 then _ else _) _ _ _
              rw [if_pos cw, if_pos c0]
              exact ⟨rfl, FA_tr (c1 := (S, wc, ww, wl, tg, n1, n2, n3, n4)) G04 q⟩
            · rw [lgv_lt] at c0 c1
              refine wn8 C4 fun h5 C5 G5 => wn9 C5 fun h6 C6 G6 => wn10 C6 fun h7 C7 G7 => wq_t (by decide) (wq_some (rI_i ?_))
              show amM _ _ _ _ _ _ _ (if wI w = 2 then _ else _) _ _ _
              rw [if_pos cw, if_neg c0, if_pos c1]
              exact ⟨rfl, S', C7, GM_tr G04 (GM_tr G5 (GM_tr G6 G7))⟩
            · rw [lgv_lt] at c0 c1
              refine rk_fail C4 fun h5 q => wq_t (Or.inl rfl) (wq_some (rI_i ?_))
              show amM _ _ _ _ _ _ _ (if wI w = 2 then _ else _) _ _ _
              rw [if_pos cw, if_neg c0, if_neg c1]
              exact ⟨rfl, FA_tr (c1 := (S, wc, ww, wl, tg, n1, n2, n3, n4)) G04 q⟩
          · refine rk_fail C4 fun h5 q => wq_t (Or.inl rfl) (wq_some (rI_i ?_))
            show amM _ _ _ _ _ _ _ (if wI w = 2 then _ else _) _ _ _
            rw [if_neg cw]
            exact ⟨rfl, FA_tr (c1 := (S, wc, ww, wl, tg, n1, n2, n3, n4)) G04 q⟩
      · rw [c82] at g1; exact absurd g1 (by decide)
    · refine wq_t (by decide) (wq_some (rI_i ?_))
      rw [show pAim V r v = some (wI (thS V r (ofT V.1 v)).1, 0, wL (thS V r (ofT V.1 v)).1) from (if_neg c83).trans (if_neg c82)]
      exact ⟨rfl, S, C3, G03⟩
  -- the thing is known
  have G85 : ∀ (h2 : ah_H), CM x L V (S, wc, ww, wl, tg, kf V.1 1 (ofT V.1 v), n2, n3, n4) r h2 → GM x L V.2.2.2 h h2 → wq (ah_val lim ah_P (d + 4) 211 85 [some (aR (x + 530)), some (aR L.1), some (aI v), some (aR L.2.1), some (aI (kf V.1 0 v)), none, none, none] [aR (thA L V (ofT V.1 v)), aR (x + 530)] h2) (rI (amM x L V (S, wc, ww, wl, tg, n1, n2, n3, n4) r (thA L V (ofT V.1 v)) (kf V.1 1 (ofT V.1 v)) (pAim V r v) h)) := by
    intro h2 C2 G2
    refine wq_eq q_211_85 (wn6 C2 fun h3 C3 G3 => wq_gR (CM_rc C3) rfl (wq_f (Option.some_ne_none _) (wq_gR (CM_rc C3) rfl (wq_gI (CM_th C3 go).1 rfl (wn8 C3 fun h4 C4 G4 => wn9 C4 fun h5 C5 G5 => wq_gR (CM_rc C5) rfl (wq_f (Option.some_ne_none _) (wq_gR (CM_rc C5) rfl (wq_gI (CM_th C5 go).1 rfl ?_))))))))
    exact G134 n4 h5 C5 (GM_tr G2 (GM_tr G3 (GM_tr G4 G5)))
  have G36 : wq (ah_val lim ah_P (d + 4) 211 36 [some (aR (x + 530)), some (aR L.1), some (aI v), some (aR L.2.1), some (aI (kf V.1 0 v)), none, none, none] [aI (ofT V.1 v)] h) (rI (amM x L V (S, wc, ww, wl, tg, n1, n2, n3, n4) r (thA L V (ofT V.1 v)) (kf V.1 1 (ofT V.1 v)) (pAim V r v) h)) := by
    refine wq_eq q_211_36 (rk_given C ?_)
    rw [xG_r ho]
    refine wn7 C fun h2 C2 G2 => rk_kind C2 ?_
    rw [xK_r ho]
    have E2 := C2.2.2.1
    obtain ⟨-, g0, ⟨g1, g2⟩ | ⟨g1, g2⟩⟩ := go
    · refine wq_t g1 (wq_gR (CM_rc C2) rfl (wq_gI (CM_rc C2) rfl ?_))
      obtain ⟨rw1, ls1, cc1, et, -⟩ := E2.2.2.1
      have hp := c_pick (lim := lim) (d := d + 3) (i := kf V.1 1 (ofT V.1 v)) E2.2.2.1
      rw [if_pos ⟨g0, g2⟩] at hp
      refine wq_at et (wq_cR hp ?_)
      have e9 : L.2.2.2.2.2.1 (kf V.1 1 (ofT V.1 v)).toInt.toNat = thA L V (ofT V.1 v) := (if_pos g1).symm
      rintro _ _ ⟨rfl, rfl⟩
      rw [e9]
      exact G85 _ C2 G2
    · refine wq_f (by rw [g1]; decide) (wq_gR (CM_uc C2) rfl (wq_gI (CM_rc C2) rfl ?_))
      obtain ⟨rw1, ls1, cc1, et, -⟩ := E2.2.2.2.1
      have hp := c_pick (lim := lim) (d := d + 3) (i := kf V.1 1 (ofT V.1 v)) E2.2.2.2.1
      rw [if_pos ⟨g0, g2⟩] at hp
      refine wq_at et (wq_cR hp ?_)
      have e9 : L.2.2.2.2.2.2 (kf V.1 1 (ofT V.1 v)).toInt.toNat = thA L V (ofT V.1 v) := (if_neg (by rw [g1]; decide)).symm
      rintro _ _ ⟨rfl, rfl⟩
      rw [e9]
      exact G85 _ C2 G2
  refine wq_eq e_Runner_aim (rk_nd C (rk_kind C ?_))
  rw [xK_r hv]
  refine wq_if _ (fun c82 => ?_) (fun c82 => wq_if _ (fun c83 => ?_) (fun c83 => ?_))
  · obtain ⟨-, ⟨g1, -⟩ | ⟨-, gm, -⟩ | ⟨g1, -⟩⟩ := g
    · rw [c82] at g1
      rcases k80 with rfl | rfl <;> exact absurd g1 (by decide)
    · refine rk_k (n := 0) C hv rfl (by rw [gm]; decide) ?_
      rw [show kC V.1 v 0 = ofT V.1 v from (if_pos (Or.inl c82)).symm]
      exact G36
    · rw [c82] at g1; exact absurd g1 (by decide)
  · obtain ⟨-, ⟨g1, -⟩ | ⟨g1, -⟩ | ⟨-, gm, -⟩⟩ := g
    · rw [c83] at g1
      rcases k80 with rfl | rfl <;> exact absurd g1 (by decide)
    · rw [c83] at g1; exact absurd g1 (by decide)
    · refine rk_k (n := 0) C hv rfl (by rw [gm]; decide) ?_
      rw [show kC V.1 v 0 = ofT V.1 v from (if_pos (Or.inr c83)).symm]
      exact G36
  · have e0 : ofT V.1 v = v := if_neg (fun q => q.elim c82 c83)
    rw [e0] at G36
    rw [e0]
    exact G36
theorem m_unfit {a : Nat} {s : TS} (C : CM x L V c r h) (hw : c.1 0 = w) (ht : c.2.2.2.2.1 = some a) (T : TC a s h) : wq (vc lim (d + 2) m_Runner_unfit [aR (x + 530)] h) (rI fun y h' => h' = h ∧ (y = 0 ↔ pFit w s c.2.2.2.2.2.2.1 c.2.2.2.2.2.2.2.2 = true)) := by
  have rc := CM_rc C
  obtain ⟨vs, ef⟩ := CM_f2 C
  obtain ⟨⟨t, F⟩, -⟩ := C
  have e0 := F.2.2.1 0 (by omega)
  rw [hw] at e0
  rw [ht] at rc
  refine wq_eq e_Runner_unfit (wq_gR rc rfl (wq_at ef (wq_cR (c_found F) ?_)))
  rintro _ _ ⟨rfl, rfl⟩
  refine wq_gR rc rfl (wq_f (Option.some_ne_none _) (wq_gI e0 rfl (wq_gI rc rfl (wq_if _ (fun c1 => wq_gI e0 rfl (wq_gI rc rfl (wq_if _ (fun c2 => wq_gI e0 rfl (wq_if _ (fun c3 => wq_gR rc rfl (wq_gJ e0 rfl (wq_at T.1 (wq_cI (c_allows T) ?_)))) (fun c3 => ?_))) (fun c2 => ?_)))) (fun c1 => ?_)))))
  · rintro _ _ ⟨rfl, rfl⟩
    by_cases c4 : s.2.2.2.2.1.toInt ≤ (wN w).toInt ∧ (wN w).toInt ≤ s.2.2.2.2.2.toInt
    · rw [decide_eq_true c4]
      exact wq_f (by decide) (wq_some (rI_i ⟨rfl, by rw [pFit, decide_eq_true_iff]; exact ⟨fun _ => ⟨c1, c2, fun _ => c4⟩, fun _ => rfl⟩⟩))
    · rw [decide_eq_false c4]
      exact wq_t rfl (wq_some (rI_i ⟨rfl, by rw [pFit, decide_eq_true_iff]; exact ⟨fun q => absurd q (by decide), fun q => absurd (q.2.2 c3) c4⟩⟩))
  · exact wq_some (rI_i ⟨rfl, by rw [pFit, decide_eq_true_iff]; exact ⟨fun _ => ⟨c1, c2, fun q => absurd q c3⟩, fun _ => rfl⟩⟩)
  · exact wq_some (rI_i ⟨rfl, by rw [pFit, decide_eq_true_iff]; exact ⟨fun q => absurd q (by decide), fun q => absurd q.2.1 c2⟩⟩)
  · exact wq_some (rI_i ⟨rfl, by rw [pFit, decide_eq_true_iff]; exact ⟨fun q => absurd q (by decide), fun q => absurd q.1 c1⟩⟩)
/-- the place of a variable that is aimed at -/
theorem go_v {o : Int32} (g : gO' V.1 V.2.1 V.2.2.2 o) (k81 : kf V.1 0 o = 81) : thA L V o = L.2.2.2.2.2.2 (kf V.1 1 o).toInt.toNat ∧ thS V r o = r.1 (kf V.1 1 o).toInt.toNat ∧ (kf V.1 1 o).toInt.toNat < V.2.2.2 := by
  obtain ⟨-, g0, ⟨g1, g2⟩ | ⟨g1, g2⟩⟩ := g
  · rw [k81] at g1
    exact absurd g1 (by decide)
  · refine ⟨if_neg (by rw [k81]; decide), if_neg (by rw [k81]; decide), by omega⟩
theorem pAim_2 {kk ff mm : Int32} (e : pAim V r v = some (kk, ff, mm)) (c2 : kk = 2) : wI (thS V r (ofT V.1 v)).1 = 2 := by
  unfold pAim at e
  split at e
  · cases e
    exact c2
  · split at e
    · cases q : EVL V r (kC V.1 v 1) with
      | none => rw [q] at e; cases e
      | some w =>
        rw [q] at e
        simp only [Option.bind] at e
        split at e
        · split at e
          · cases e
          · split at e
            · cases e
              exact absurd c2 (by decide)
            · cases e
        · cases e
    · cases e
      exact c2
theorem m_keep (P : PO V.1) (HG : GT V.1) (hK : ∀ i, i < V.2.2.2 → wI (r.1 i).1 = 2 → wL (r.1 i).1 = 1) (C : CM x L V c r h) (hv : rgN V.1 v) (hm : kf V.1 6 v = 2) (g : gTg V kS kV 81 (kC V.1 v 0)) (g1 : gXV V kS kV (kC V.1 v 1)) : wq (vc lim (d + 6) m_Runner_keep [aR (x + 530), aR L.1, aI v] h) (rI (goM x L V r (sSet V r v) h)) := by
  obtain ⟨S, wc, ww, wl, tg, n1, n2, n3, n4⟩ := c
  obtain ⟨go, ko⟩ := gTg_o (Or.inr rfl) g
  obtain ⟨va, vs, vn⟩ := go_v (L := L) (r := r) go ko
  refine wq_eq e_Runner_keep (rk_nd C (rk_k (n := 0) C hv rfl (by rw [hm]; decide) (wq_at (CM_rc C) (wq_cI (m_aim P (Or.inr rfl) C g) fun y1 h1 q => ?_))))
  cases ea : pAim V r (kC V.1 v 0) with
  | none =>
    rw [ea] at q
    obtain ⟨rfl, q⟩ := q
    exact wq_t rfl (ps_0 (by unfold sSet; rw [ea]; rfl) q)
  | some am =>
    obtain ⟨kk, ff, mm⟩ := am
    rw [ea] at q
    obtain ⟨rfl, S1, C1, G1⟩ := q
    refine wq_f (by decide) (rk_fd C1 (rk_nd C1 (rk_k (n := 1) C1 hv rfl (by rw [hm]; decide) (rk_find P C1 g1 (fun e h2 q => ?_) (fun w S2 h2 e C2 s0 G2 => ?_)))))
    · exact ps_0 (by unfold sSet; rw [ea, e]; rfl) (FA_tr (c1 := (S, wc, ww, wl, tg, n1, n2, n3, n4)) G1 q)
    · have G02 := GM_tr G1 G2
      have es : sSet V r v = if pFit w (thS V r (ofT V.1 (kC V.1 v 0))) kk mm then some (upS r.1 (kf V.1 1 (ofT V.1 (kC V.1 v 0))).toInt.toNat (if kk = 2 then pNum (wN w) else pOver (thS V r (ofT V.1 (kC V.1 v 0))).1 w ff, (thS V r (ofT V.1 (kC V.1 v 0))).2), r.2.2.1, r.2.2.2.1, r.2.2.2.2, 0, v) else none := by
        unfold sSet
        rw [ea, e]
        rfl
      refine wq_at (CM_rc C2) (wq_cI (m_unfit C2 s0 rfl (CM_th C2 go)) ?_)
      rintro y2 h3 ⟨eh, ey⟩
      subst eh
      have ey' : y2 = 0 ↔ pFit w (thS V r (ofT V.1 (kC V.1 v 0))) kk mm = true := ey
      by_cases cf : pFit w (thS V r (ofT V.1 (kC V.1 v 0))) kk mm = true
      · rw [if_pos cf] at es
        have T2 := CM_th C2 go
        have tk := T2.2.1
        refine wq_t (ey'.mpr cf) (wq_gR (CM_rc C2) rfl (wq_f (by simp) (wq_gI (CM_rc C2) rfl (wq_if _ (fun c2 => ?_) (fun c2 => ?_)))))
        · have c2' : kk = 2 := c2
          refine wq_gR (CM_rc C2) rfl (wq_gR T2.1 rfl (m_num C2 s0 (wq_at tk (wq_cV (c_beNumber tk) fun h4 u4 => ?_))))
          rw [va] at u4
          have w12 : wI (r.1 (kf V.1 1 (ofT V.1 (kC V.1 v 0))).toInt.toNat).1 = 2 := by
            rw [← vs]
            exact pAim_2 ea c2'
          obtain ⟨C4, G4⟩ := CM_v vn C2 u4 w12.symm (hK _ vn w12).symm
          refine ps_b HG C4 (GM_tr G02 G4) ?_
          rw [es, if_pos c2', vs]
        · have c2' : ¬ kk = 2 := c2
          obtain ⟨vf, ef⟩ := CM_f2 C2
          have C2' := C2
          obtain ⟨⟨t2, F2⟩, -⟩ := C2'
          have e0 := F2.2.2.1 0 (by omega)
          rw [show (S2, wc, ww, wl, some (thA L V (ofT V.1 (kC V.1 v 0))), kf V.1 1 (ofT V.1 (kC V.1 v 0)), kk, ff, mm).1 0 = w from s0] at e0
          refine wq_eq q_215_93 (wq_gR (CM_rc C2) rfl (wq_f (by simp) (wq_gR (CM_rc C2) rfl (wq_gR T2.1 rfl (wq_gI (CM_rc C2) rfl (wq_gR (CM_rc C2) rfl (wq_at ef (wq_cR (c_found F2) ?_))))))))
          rintro _ _ ⟨rfl, rfl⟩
          refine wq_at tk (wq_cV (c_overlay tk e0) fun h4 u4 => ?_)
          rw [va] at u4
          obtain ⟨C4, G4⟩ := CM_v vn C2 u4 (by rw [vs]; rfl) (by rw [vs]; rfl)
          refine ps_b HG C4 (GM_tr G02 G4) ?_
          rw [es, if_neg c2', vs]
      · rw [if_neg cf] at es
        exact wq_f (fun q => cf (ey'.mp q)) (ps_f C2 G02 es)
end Wf
