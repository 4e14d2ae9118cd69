/-! THE RUNNER: a step -/
/-- good statements -/
def gSt (V : ENV) (kS kV : Nat → Int32 × Int32) (v : Int32) : Prop :=
  (kf V.1 0 v = 30 → ((asF V v : Int) < (kf V.1 6 v).toInt ∧ (kf V.1 6 v).toInt ≤ asF V v + 16) ∧ gTg V kS kV 80 (kC V.1 v 0) ∧ (kf V.1 1 v = 2 → gXV V kS kV (kC V.1 v 1)) ∧ ∀ i, asF V v ≤ i → (i : Int) < (kf V.1 6 v).toInt → kf V.1 6 (kC V.1 v i) = 2 ∧ gXV V kS kV (kC V.1 (kC V.1 v i) 0) ∧ gXV V kS kV (kC V.1 (kC V.1 v i) 1)) ∧
  (kf V.1 0 v = 33 → kf V.1 6 v = 2 ∧ gTg V kS kV 81 (kC V.1 v 0) ∧ gXV V kS kV (kC V.1 v 1)) ∧
  (kf V.1 0 v = 34 → ∀ i : Nat, i % 2 = 0 → (i : Int) + 1 < (kf V.1 6 v).toInt → gXV V kS kV (kC V.1 v i)) ∧
  (kf V.1 0 v = 35 → 1 ≤ (kf V.1 6 v).toInt ∧ gXV V kS kV (kC V.1 v 0) ∧ ∀ i : Nat, 1 ≤ i → (i : Int) < (kf V.1 6 v).toInt → kf V.1 6 (kC V.1 v i) = 2 ∧ ∀ j : Nat, (j : Int) < (kf V.1 6 (kC V.1 (kC V.1 v i) 0)).toInt → kf V.1 0 (kC V.1 (kC V.1 (kC V.1 v i) 0) j) = 37 ∨ gXV V kS kV (kC V.1 (kC V.1 (kC V.1 v i) 0) j)) ∧
  (kf V.1 0 v = 38 ∨ kf V.1 0 v = 39 → kf V.1 6 v = 4 ∧ gO' V.1 V.2.1 V.2.2.2 (kC V.1 v 0) ∧ kf V.1 0 (kC V.1 v 0) = 81 ∧ (kV (kf V.1 1 (kC V.1 v 0)).toInt.toNat).1 = 2 ∧ gXV V kS kV (kC V.1 v 1) ∧ gXV V kS kV (kC V.1 v 2)) ∧
  (kf V.1 0 v = 40 → kf V.1 6 v = 2 ∧ gXV V kS kV (kC V.1 v 0)) ∧
  (kf V.1 0 v = 41 → kf V.1 6 v = 1) ∧
  (kf V.1 0 v = 42 ∨ kf V.1 0 v = 43 → kf V.1 6 v = 1 ∧ (kf V.1 0 (kC V.1 v 0) = 0 ∨ gXV V kS kV (kC V.1 v 0)) ∧ rgN V.1 (lpO' V.1 v) ∧ isLp (kf V.1 0 (lpO' V.1 v)) = true) ∧
  (kf V.1 0 v = 44 → kf V.1 6 v = 3 ∧ (kf V.1 0 (kC V.1 v 1) = 0 ∨ gXV V kS kV (kC V.1 v 1)) ∧ (kf V.1 0 (kC V.1 v 2) = 0 ∨ gXV V kS kV (kC V.1 v 2))) ∧
  (kf V.1 0 v = 46 → kf V.1 6 v = 1 ∧ gXV V kS kV (kC V.1 v 0)) ∧
  (kf V.1 0 v = 47 → kf V.1 6 v = 2 ∧ gXV V kS kV (kC V.1 v 0) ∧ gXV V kS kV (kC V.1 v 1))
/-- a kept process -/
def GK (V : ENV) (kS kV : Nat → Int32 × Int32) : Prop := PO V.1 ∧ GT V.1 ∧ (∀ x, rgN V.1 x → xU V.1 x = -1 ∨ (rgN V.1 (xU V.1 x) ∧ x.toInt < (xU V.1 x).toInt)) ∧ (∀ v, rgN V.1 v → gSt V kS kV v) ∧ ∀ i, i < V.2.2.2 → (kV i).1 = 2 → (kV i).2 = 1
/-- where it is -/
def IA (T : KT) (s : US) : Prop := s.2.2.2.2.1 = 0 ∨ (s.2.2.2.2.1 = 1 ∧ rgN T s.2.2.2.2.2.1) ∨ (s.2.2.2.2.1 = 2 ∧ rgN T s.2.2.2.2.2.1 ∧ isLp (kf T 0 s.2.2.2.2.2.1) = true)
/-- variables' classes -/
def RKV (V : ENV) (kV : Nat → Int32 × Int32) (e : Nat → TS) : Prop := ∀ i, i < V.2.2.2 → wI (e i).1 = (kV i).1 ∧ wL (e i).1 = (kV i).2
abbrev rtV (T : KT) : Int32 := Nat.toInt32 T.1 - 1
def goP (T : KT) (k : Nat) (n : Int32) : Int32 × Int32 := (pGo T k n).getD (0, -1)
def oStep (V : ENV) (r : RST) (o : Option SOUT) : Option (RST × Int32) := o.map fun q => ((q.1, uGo r.2.1 (goP V.1 q.2.2.2.2.1 q.2.2.2.2.2), q.2.1, q.2.2.1, q.2.2.2.1), 1)
def sAct (V : ENV) (r : RST) (v : Int32) : Option (RST × Int32) := if kf V.1 0 v = 30 then oStep V r (sAssign V r v) else if kf V.1 0 v = 33 then oStep V r (sSet V r v) else if kf V.1 0 v = 34 then oStep V r (sIf V r v (kf V.1 6 v).toInt.toNat 0) else if kf V.1 0 v = 35 then oStep V r (sCase V r v) else if kf V.1 0 v = 38 ∨ kf V.1 0 v = 39 then oStep V r (sFor V r v) else if kf V.1 0 v = 40 ∨ kf V.1 0 v = 41 then oStep V r (some (r.1, r.2.2.1, r.2.2.2.1, r.2.2.2.2, 2, v)) else if kf V.1 0 v = 42 ∨ kf V.1 0 v = 43 then oStep V r (sLeave V r v) else if kf V.1 0 v = 44 then (sWait V r v).map fun z => ((r.1, (1, r.2.1.2.1, r.2.1.2.2.1, r.2.1.2.2.2.1, (goP V.1 0 v).1, (goP V.1 0 v).2, v, z), r.2.2), 0) else if kf V.1 0 v = 46 then oStep V r (sRep V r v 0) else if kf V.1 0 v = 47 then oStep V r (sCheck V r v) else oStep V r (oBe r v)
def sStep (V : ENV) (r : RST) : Option (RST × Int32) := if r.2.1.2.2.2.2.1 = 0 then oStep V r (oI r (rtV V.1)) else if r.2.1.2.2.2.2.1 = 2 then oStep V r (sLook V r r.2.1.2.2.2.2.2.1) else sAct V r r.2.1.2.2.2.2.2.1
def stM (x : Nat) (L : LAY) (V : ENV) (r : RST) (o : Option (RST × Int32)) (h : ah_H) (y : Int32) (h' : ah_H) : Prop := match o with
  | some q => y = q.2 ∧ ∃ c : SCR, CM x L V c q.1 h' ∧ GM x L V.2.2.2 h h'
  | none => y = 0 ∧ FA x L V r h h'
abbrev rSt (r : RST) : RST := (r.1, uStep r.2.1, r.2.2)
section Wj
variable {lim : Nat × Nat} {d x : Nat} {L : LAY} {V : ENV} {c : SCR} {r : RST} {h h' h0 : ah_H} {w : WD} {v k y z : Int32} {kS kV : Nat → Int32 × Int32} {Φ : ah_R → Prop}
theorem pGo_g (HG : GT V.1) (k : Nat) (n : Int32) : ∃ g, pGo V.1 k n = some g := by
  unfold pGo
  split
  · exact HG _ _
  · split
    · exact HG _ _
    · exact ⟨_, rfl⟩
theorem go_st {o : Option SOUT} {h1 : ah_H} (HG : GT V.1) (G : GM x L V.2.2.2 h0 h1) (k : goM x L V r o h1 y h') : stM x L V r (oStep V r o) h0 y h' := by
  cases o with
  | none => exact ⟨k.1, FA_tr (c1 := (fun _ => w00, w00, fun _ => w00, fun _ => 0, none, 0, 0, 0, 0)) G k.2⟩
  | some q =>
    obtain ⟨e, a, b, t, kk, n⟩ := q
    obtain ⟨g, hg⟩ := pGo_g HG kk n
    obtain ⟨rfl, k2⟩ := k
    obtain ⟨c, C, G'⟩ := k2 g hg
    refine ⟨rfl, c, ?_, GM_tr G G'⟩
    show CM x L V c (e, uGo r.2.1 (goP V.1 kk n), a, b, t) h'
    unfold goP
    rw [hg]
    exact C
theorem st_ret {o : Option SOUT} {o' : Option (RST × Int32)} {h1 h2 : ah_H} {q : Option ah_R} (HG : GT V.1) (G : GM x L V.2.2.2 h0 h1) (ho : o' = oStep V r o) (k : wq q (rI (goM x L V r o h1))) : wq (ah_cI q (nx h2) fun i h1 => if i = 0 ∨ i = 1 then some (.inl (some (.inl i)), h1) else none) (rI (stM x L V r o' h0)) := wq_cI k fun x h1 p => wq_t (go_01 p) (wq_some (rI_i (by rw [ho]; exact go_st HG G p)))
theorem lp_c {k : Int32} (e : isLp k = true) : k = 38 ∨ k = 39 ∨ k = 40 ∨ k = 41 := by
  unfold isLp at e
  rw [decide_eq_true_iff] at e
  have : k.toInt = 38 ∨ k.toInt = 39 ∨ k.toInt = 40 ∨ k.toInt = 41 := by omega
  rcases this with q | q | q | q
  · exact Or.inl (Int32.toInt_inj.mp q)
  · exact Or.inr (Or.inl (Int32.toInt_inj.mp q))
  · exact Or.inr (Or.inr (Or.inl (Int32.toInt_inj.mp q)))
  · exact Or.inr (Or.inr (Or.inr (Int32.toInt_inj.mp q)))
theorem m_step (K : GK V kS kV) (C : CM x L V c r h) (ia : IA V.1 r.2.1) (rk : RKV V kV r.1) : wq (vc lim (d + 8) m_Runner_step [aR (x + 530), aR L.1] h) (rI (stM x L V (rSt r) (sStep V (rSt r)) h)) := by
  obtain ⟨P, HG, HU, GS, K2⟩ := K
  have hK : ∀ i, i < V.2.2.2 → wI (r.1 i).1 = 2 → wL (r.1 i).1 = 1 := fun i hi q => by
    obtain ⟨a, b⟩ := rk i hi
    rw [b]
    exact K2 i hi (a.symm.trans q)
  refine wq_eq e_Runner_step (wq_gI (CM_uc C) rfl (wq_at (CM_uc C) (wq_cV (c_countStep (CM_uc C)) fun h1 k1 => ?_)))
  obtain ⟨C1, G1⟩ := CM_u (nV := V.2.2.2) C k1
  refine wq_gI (CM_uc C1) rfl (wq_if _ (fun c0 => ?_) (fun c0 => wq_gI (CM_uc C1) rfl (wq_if _ (fun c2 => ?_) (fun c2 => ?_))))
  · have es : sStep V (rSt r) = oStep V (rSt r) (oI (rSt r) (rtV V.1)) := if_pos c0
    obtain ⟨A, Ls, cc, kt, a1, a2, -⟩ := CM_n C1
    have ec : cc = Nat.toInt32 V.1.1 := Int32.toInt_inj.mp (by rw [a2]; exact (i32n P.1).symm)
    subst ec
    obtain ⟨g, hg⟩ := HG (rtV V.1) 0
    exact rk_nd C1 (wq_gI a1 rfl (wq_at (CM_uc C1) (st_ret HG G1 es (m_into rfl C1 GM_0 hg))))
  · have es : sStep V (rSt r) = oStep V (rSt r) (sLook V (rSt r) r.2.1.2.2.2.2.2.1) := (if_neg c0).trans (if_pos c2)
    have c2' : r.2.1.2.2.2.2.1 = 2 := c2
    have hv : rgN V.1 r.2.1.2.2.2.2.2.1 ∧ isLp (kf V.1 0 r.2.1.2.2.2.2.2.1) = true := by
      rcases ia with q | ⟨q, -⟩ | ⟨-, q⟩
      · exact absurd q c0
      · rw [c2'] at q
        exact absurd q (by decide)
      · exact q
    have gs := GS _ hv.1
    refine wq_at (CM_rc C1) (st_ret HG G1 es (m_lookAt (kS := kS) (kV := kV) P HG hK C1 hv.1 ?_))
    obtain ⟨-, -, -, -, s38, s40, s41, -⟩ := gs
    rcases lp_c hv.2 with q | q | q | q
    · obtain ⟨b1, b2, b3, b4, -⟩ := s38 (Or.inl q)
      refine Or.inr (Or.inr ⟨Or.inl q, b1, b2, b3, ?_⟩)
      obtain ⟨-, -, vn⟩ := go_v (L := L) (r := r) b2 b3
      exact (rk _ vn).1.trans b4
    · obtain ⟨b1, b2, b3, b4, -⟩ := s38 (Or.inr q)
      refine Or.inr (Or.inr ⟨Or.inr q, b1, b2, b3, ?_⟩)
      obtain ⟨-, -, vn⟩ := go_v (L := L) (r := r) b2 b3
      exact (rk _ vn).1.trans b4
    · exact Or.inr (Or.inl ⟨q, s40 q⟩)
    · exact Or.inl ⟨q, s41 q⟩
  · have es : sStep V (rSt r) = sAct V (rSt r) r.2.1.2.2.2.2.2.1 := (if_neg c0).trans (if_neg c2)
    have hv : rgN V.1 r.2.1.2.2.2.2.2.1 := by
      rcases ia with q | ⟨-, q⟩ | ⟨-, q, -⟩
      · exact absurd q c0
      · exact q
      · exact q
    have gs := GS _ hv
    rw [es]
    refine rk_nd C1 (rk_kind C1 ?_)
    rw [xK_r hv]
    generalize hat : r.2.1.2.2.2.2.2.1 = v at hv gs
    obtain ⟨s30, s33, s34, s35, s38, s40, s41, s42, s44, s46, s47⟩ := gs
    have df : wq (ah_val lim ah_P (d + 7) 207 227 [none, some (aR L.1), some (aI v)] [] h1) (rI (stM x L V (rSt r) (oStep V (rSt r) (oBe (rSt r) v)) h)) := by
      obtain ⟨g, hg⟩ := HG (xU V.1 v) (xP V.1 v + 1)
      exact wq_eq q_207_227 (wq_at (CM_uc C1) (st_ret HG G1 rfl (m_behind rfl C1 GM_0 hg)))
    have ed : ∀ k, kf V.1 0 v = k → (k = 31 ∨ k = 32 ∨ k = 36 ∨ k = 37 ∨ k = 45) → sAct V (rSt r) v = oStep V (rSt r) (oBe (rSt r) v) := fun k e1 e2 => by
      unfold sAct
      rw [e1]
      rcases e2 with rfl | rfl | rfl | rfl | rfl <;> rfl
    refine wq_if _ (fun k30 => ?_) (fun k30 => wq_if _ (fun k31 => ?_) (fun k31 => wq_if _ (fun k32 => ?_) (fun k32 => wq_if _ (fun k33 => ?_) (fun k33 => wq_if _ (fun k34 => ?_) (fun k34 => wq_if _ (fun k35 => ?_) (fun k35 => wq_if _ (fun k36 => ?_) (fun k36 => wq_if _ (fun k37 => ?_) (fun k37 => wq_if _ (fun k38 => ?_) (fun k38 => wq_if _ (fun k39 => ?_) (fun k39 => wq_if _ (fun k40 => ?_) (fun k40 => wq_if _ (fun k41 => ?_) (fun k41 => wq_if _ (fun k42 => ?_) (fun k42 => wq_if _ (fun k43 => ?_) (fun k43 => wq_if _ (fun k44 => ?_) (fun k44 => wq_if _ (fun k45 => ?_) (fun k45 => wq_if _ (fun k46 => ?_) (fun k46 => wq_if _ (fun k47 => ?_) (fun k47 => ?_)))))))))))))))))) 
    · obtain ⟨b1, b2, b3, b4⟩ := s30 k30
      exact wq_at (CM_rc C1) (st_ret HG G1 (by unfold sAct; rw [k30]; rfl) (m_assign P HG C1 hv b1 b2 b3 b4))
    · rw [ed _ k31 (by decide)]; exact df
    · rw [ed _ k32 (by decide)]; exact df
    · obtain ⟨b1, b2, b3⟩ := s33 k33
      exact wq_at (CM_rc C1) (st_ret HG G1 (by unfold sAct; rw [k33]; rfl) (m_keep P HG hK C1 hv b1 b2 b3))
    · exact wq_at (CM_rc C1) (st_ret HG G1 (by unfold sAct; rw [k34]; rfl) (m_if P HG C1 hv (s34 k34)))
    · obtain ⟨b1, b2, b3⟩ := s35 k35
      exact wq_at (CM_rc C1) (st_ret HG G1 (by unfold sAct; rw [k35]; rfl) (m_case P HG C1 hv b1 b2 b3))
    · rw [ed _ k36 (by decide)]; exact df
    · rw [ed _ k37 (by decide)]; exact df
    · obtain ⟨b1, b2, b3, b4, b5, b6⟩ := s38 (Or.inl k38)
      exact wq_at (CM_rc C1) (st_ret HG G1 (by unfold sAct; rw [k38]; rfl) (m_for P C1 hv b1 b5 b6))
    · obtain ⟨b1, b2, b3, b4, b5, b6⟩ := s38 (Or.inr k39)
      exact wq_at (CM_rc C1) (st_ret HG G1 (by unfold sAct; rw [k39]; rfl) (m_for P C1 hv b1 b5 b6))
    · exact wq_at (CM_uc C1) (st_ret HG G1 (by unfold sAct; rw [k40]; rfl) (m_look rfl C1 GM_0))
    · exact wq_at (CM_uc C1) (st_ret HG G1 (by unfold sAct; rw [k41]; rfl) (m_look rfl C1 GM_0))
    · obtain ⟨b1, b2, -⟩ := s42 (Or.inl k42)
      exact wq_at (CM_rc C1) (st_ret HG G1 (by unfold sAct; rw [k42]; rfl) (m_leave P HG HU C1 hv b1 b2))
    · obtain ⟨b1, b2, -⟩ := s42 (Or.inr k43)
      exact wq_at (CM_rc C1) (st_ret HG G1 (by unfold sAct; rw [k43]; rfl) (m_leave P HG HU C1 hv b1 b2))
    · obtain ⟨b1, -, b3⟩ := s44 k44
      obtain ⟨g, hg⟩ := pGo_g HG 0 v
      refine wq_at (CM_rc C1) (wq_cI (m_pause P HG C1 hv b1 b3) fun y1 h2 q => ?_)
      obtain ⟨rfl, q⟩ := q
      refine wq_t (Or.inl rfl) (wq_some (rI_i ?_))
      rw [show sAct V (rSt r) v = (sWait V (rSt r) v).map fun z => ((r.1, (1, (rSt r).2.1.2.1, (rSt r).2.1.2.2.1, (rSt r).2.1.2.2.2.1, (goP V.1 0 v).1, (goP V.1 0 v).2, v, z), r.2.2), 0) by unfold sAct; rw [k44]; rfl]
      cases e : sWait V (rSt r) v with
      | none =>
        rw [e] at q
        exact ⟨rfl, FA_tr (c1 := c) G1 q⟩
      | some z =>
        rw [e] at q
        obtain ⟨c', C', G'⟩ := q g hg
        refine ⟨rfl, c', ?_, GM_tr G1 G'⟩
        show CM x L V c' (r.1, (1, (rSt r).2.1.2.1, (rSt r).2.1.2.2.1, (rSt r).2.1.2.2.2.1, (goP V.1 0 v).1, (goP V.1 0 v).2, v, z), r.2.2) h2
        unfold goP
        rw [hg]
        exact C'
    · rw [ed _ k45 (by decide)]; exact df
    · obtain ⟨b1, b2⟩ := s46 k46
      refine wq_mono (m_rep (n := 0) P HG C1 GM_0 hv rfl (by rw [b1]; decide) b2) ?_
      rintro _ ⟨y, h', rfl, p⟩
      refine rI_i ?_
      rw [show sAct V (rSt r) v = oStep V (rSt r) (sRep V (rSt r) v 0) by unfold sAct; rw [k46]; rfl]
      exact go_st HG G1 p
    · obtain ⟨b1, b2, b3⟩ := s47 k47
      exact wq_at (CM_rc C1) (st_ret HG G1 (by unfold sAct; rw [k47]; rfl) (m_check P HG C1 hv b1 b2 b3))
    · rw [show sAct V (rSt r) v = oStep V (rSt r) (oBe (rSt r) v) by
        unfold sAct
        rw [if_neg k30, if_neg k33, if_neg k34, if_neg k35, if_neg (fun q => q.elim k38 k39), if_neg (fun q => q.elim k40 k41), if_neg (fun q => q.elim k42 k43), if_neg k44, if_neg k46, if_neg k47]]
      exact df
end Wj
