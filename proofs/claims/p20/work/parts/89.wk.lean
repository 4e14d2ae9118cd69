/-! A RUN OF THE CLASS -/
theorem bd_o {α β : Type} {o : Option α} {f : α → Option β} {b : β} (e : o.bind f = some b) : ∃ a, o = some a ∧ f a = some b := by
  cases o with
  | none => cases e
  | some a => exact ⟨a, rfl, e⟩
/-- a good place -/
def IAg (T : KT) (g : Int32 × Int32) : Prop := g.1 = 0 ∨ (g.1 = 1 ∧ rgN T g.2) ∨ (g.1 = 2 ∧ rgN T g.2 ∧ isLp (kf T 0 g.2) = true)
theorem xC_g {T : KT} {l p : Int32} (P : PO T) (e : ¬ xCh T l p = -1) : rgN T (xCh T l p) := by
  by_cases q : rgN T l ∧ 0 ≤ p.toInt ∧ p.toInt < (kf T 6 l).toInt
  · unfold xCh
    rw [if_pos q]
    exact (po_k P q.1 (i := p.toInt.toNat) (by omega)).1
  · exact absurd (if_neg q) e
theorem lp_r {T : KT} {v : Int32} (e : isLp (xK T v) = true) : rgN T v ∧ isLp (kf T 0 v) = true := by
  by_cases q : rgN T v
  · rw [xK_r q] at e
    exact ⟨q, e⟩
  · rw [show xK T v = -1 from if_neg q] at e
    exact absurd e (by decide)
theorem gto_g {T : KT} (P : PO T) : ∀ (n : Nat) (l p : Int32) (g : Int32 × Int32), gto T n l p = some g → IAg T g := by
  intro n
  induction n with
  | zero => intro l p g e; cases e
  | succ n ih =>
    intro l p g e
    unfold gto at e
    split at e
    · split at e
      · cases e
        exact Or.inl rfl
      · split at e
        · cases e
          rename_i q
          exact Or.inr (Or.inr ⟨rfl, lp_r q⟩)
        · exact ih _ _ _ e
    · cases e
      rename_i q
      exact Or.inr (Or.inl ⟨rfl, xC_g P q⟩)
/-- what a statement's end keeps -/
def SOk (V : ENV) (kV : Nat → Int32 × Int32) (o : Option SOUT) : Prop := ∀ q, o = some q → RKV V kV q.1 ∧ (q.2.2.2.2.1 = 0 ∨ q.2.2.2.2.1 = 1 ∨ (rgN V.1 q.2.2.2.2.2 ∧ isLp (kf V.1 0 q.2.2.2.2.2) = true))
def pRun (V : ENV) : Nat → RST → Int32 × RST
  | 0, r => (2, r)
  | n + 1, r => match sStep V (rSt r) with
    | none => (3, rSt r)
    | some q => if q.2 = 0 then (1, q.1) else pRun V n q.1
def rsM (x : Nat) (L : LAY) (V : ENV) (q : Int32 × RST) (h : ah_H) (y : Int32) (h' : ah_H) : Prop := y = q.1 ∧ ∃ (c : SCR) (s : US) (a b : Nat → Int64), CM x L V c (q.2.1, s, a, b, q.2.2.2.2.2) h' ∧ GM x L V.2.2.2 h h' ∧ s.1 = q.1 ∧ (q.1 = 1 → s = q.2.2.1 ∧ a = q.2.2.2.1 ∧ b = q.2.2.2.2.1) ∧ (¬ q.1 = 1 → s.2.2.2.2.2.2 = (-1, -1))
section Wk
variable {lim : Nat × Nat} {d x : Nat} {L : LAY} {V : ENV} {c : SCR} {r r' : RST} {h h' h0 : ah_H} {w : WD} {v k y z b : Int32} {kS kV : Nat → Int32 × Int32} {o : Option SOUT}
theorem goP_g (P : PO V.1) (HG : GT V.1) (k : Nat) (n : Int32) (g : k = 0 ∨ k = 1 ∨ (rgN V.1 n ∧ isLp (kf V.1 0 n) = true)) : IAg V.1 (goP V.1 k n) := by
  obtain ⟨g0, hg⟩ := pGo_g HG k n
  unfold goP
  rw [hg]
  show IAg V.1 g0
  unfold pGo at hg
  split at hg
  · exact gto_g P _ _ _ _ hg
  · split at hg
    · exact gto_g P _ _ _ _ hg
    · cases hg
      rename_i q1 q2
      rcases g with g | g | g
      · exact absurd g q1
      · exact absurd g q2
      · exact Or.inr (Or.inr ⟨rfl, g⟩)
theorem so_r {f : (Nat → Int64) × (Nat → Int64) × TD × Nat × Int32} (rk : RKV V kV r.1) (g : f.2.2.2.1 = 0 ∨ f.2.2.2.1 = 1 ∨ (rgN V.1 f.2.2.2.2 ∧ isLp (kf V.1 0 f.2.2.2.2) = true)) : SOk V kV (some (r.1, f)) := by
  rintro q e
  cases e
  exact ⟨rk, g⟩
theorem so_if {P : Prop} [Decidable P] {a b : Option SOUT} (ha : P → SOk V kV a) (hb : ¬ P → SOk V kV b) : SOk V kV (if P then a else b) := by
  split
  · rename_i q
    exact ha q
  · rename_i q
    exact hb q
theorem so_b {α : Type} {o : Option α} {f : α → Option SOUT} (hf : ∀ a, o = some a → SOk V kV (f a)) : SOk V kV (o.bind f) := by
  intro q e
  obtain ⟨a, ea, eb⟩ := bd_o e
  exact hf a ea q eb
theorem so_n : SOk V kV none := fun q e => by cases e
theorem so_oB (rk : RKV V kV r.1) : SOk V kV (oBe r v) := so_r rk (Or.inl rfl)
theorem so_oI (rk : RKV V kV r.1) : SOk V kV (oI r v) := so_r rk (Or.inr (Or.inl rfl))
theorem so_upS {j : Nat} {u : WD} {s : WD × Int32 × Int32 × Int32 × Int32} (rk : RKV V kV r.1) (h1 : wI u = (kV j).1) (h2 : wL u = (kV j).2) : RKV V kV (upS r.1 j (u, s)) := by
  intro i hi
  by_cases e : i = j
  · subst e
    rw [upS_eq]
    exact ⟨h1, h2⟩
  · rw [upS_ne e]
    exact rk i hi
theorem so_tell (rk : RKV V kV r.1) : SOk V kV (sTell r v w) := so_if (fun _ => so_r rk (Or.inl rfl)) (fun _ => so_n)
theorem so_if34 (rk : RKV V kV r.1) : ∀ n i, SOk V kV (sIf V r v n i) := by
  intro n
  induction n with
  | zero => exact fun i => so_if (fun _ => so_oI rk) (fun _ => so_oB rk)
  | succ n ih => exact fun i => so_if (fun _ => so_b fun a _ => so_if (fun _ => ih _) (fun _ => so_oI rk)) (fun _ => so_if (fun _ => so_oI rk) (fun _ => so_oB rk))
theorem so_caO (rk : RKV V kV r.1) : ∀ n i, SOk V kV (caO V r w v n i) := by
  intro n
  induction n with
  | zero => exact fun i => so_n
  | succ n ih => exact fun i => so_if (fun _ => so_b fun a _ => so_if (fun _ => so_oI rk) (fun _ => ih _)) (fun _ => so_n)
theorem so_set (rk : RKV V kV r.1) (K2 : ∀ i, i < V.2.2.2 → (kV i).1 = 2 → (kV i).2 = 1) (g : gTg V kS kV 81 (kC V.1 v 0)) : SOk V kV (sSet V r v) := by
  obtain ⟨go, ko⟩ := gTg_o (Or.inr rfl) g
  obtain ⟨-, vs, vn⟩ := go_v (L := (0, 0, 0, 0, 0, fun _ => 0, fun _ => 0)) (r := r) go ko
  refine so_b fun a ea => so_b fun w ew => so_if (fun cf => ?_) (fun _ => so_n)
  rintro q e
  cases e
  refine ⟨?_, Or.inl rfl⟩
  obtain ⟨k1, k2⟩ := rk _ vn
  rw [vs]
  show RKV V kV (upS r.1 (kf V.1 1 (ofT V.1 (kC V.1 v 0))).toInt.toNat (if a.1 = 2 then pNum (wN w) else pOver (r.1 (kf V.1 1 (ofT V.1 (kC V.1 v 0))).toInt.toNat).1 w a.2.1, (r.1 (kf V.1 1 (ofT V.1 (kC V.1 v 0))).toInt.toNat).2))
  by_cases c2 : a.1 = 2
  · have := pAim_2 (kk := a.1) (ff := a.2.1) (mm := a.2.2) ea c2
    rw [vs, k1] at this
    rw [if_pos c2]
    exact so_upS rk this.symm (K2 _ vn this).symm
  · rw [if_neg c2]
    exact so_upS rk k1 k2
theorem so_act (K : GK V kS kV) (rk : RKV V kV r.1) (hv : rgN V.1 v) (e : sAct V r v = some (r', b)) : RKV V kV r'.1 ∧ IA V.1 r'.2.1 ∧ ((b = 1 ∧ r'.2.1.1 = r.2.1.1 ∧ r'.2.1.2.2.2.2.2.2 = r.2.1.2.2.2.2.2.2) ∨ (b = 0 ∧ r'.2.1.1 = 1 ∧ rgN V.1 r'.2.1.2.2.2.2.2.2.1 ∧ kf V.1 0 r'.2.1.2.2.2.2.2.2.1 = 44)) := by
  obtain ⟨P, HG, HU, GS, K2⟩ := K
  obtain ⟨s30, s33, s34, s35, s38, s40, s41, s42, s44, s46, s47⟩ := GS v hv
  have fin : ∀ o : Option SOUT, SOk V kV o → oStep V r o = some (r', b) → RKV V kV r'.1 ∧ IA V.1 r'.2.1 ∧ ((b = 1 ∧ r'.2.1.1 = r.2.1.1 ∧ r'.2.1.2.2.2.2.2.2 = r.2.1.2.2.2.2.2.2) ∨ (b = 0 ∧ r'.2.1.1 = 1 ∧ rgN V.1 r'.2.1.2.2.2.2.2.2.1 ∧ kf V.1 0 r'.2.1.2.2.2.2.2.2.1 = 44)) := by
    intro o ho e
    cases o with
    | none => cases e
    | some q =>
      obtain ⟨h1, h2⟩ := ho q rfl
      cases e
      exact ⟨h1, goP_g P HG _ _ h2, Or.inl ⟨rfl, rfl, rfl⟩⟩
  unfold sAct at e
  split at e
  · exact fin _ (so_b fun a _ => so_b fun l _ => so_b fun ab _ => so_if (fun _ => so_r rk (Or.inl rfl)) (fun _ => so_n)) e
  split at e
  · rename_i k33
    exact fin _ (so_set rk K2 (s33 k33).2.1) e
  split at e
  · exact fin _ (so_if34 rk _ _) e
  split at e
  · exact fin _ (so_b fun a _ => so_caO rk _ _) e
  split at e
  · rename_i k38
    refine fin _ (so_b fun a _ => so_b fun c _ => so_r rk (Or.inr (Or.inr ⟨hv, ?_⟩))) e
    rcases k38 with q | q <;> (show isLp (kf V.1 0 v) = true; rw [q]; rfl)
  split at e
  · rename_i k40
    refine fin _ (so_r rk (Or.inr (Or.inr ⟨hv, ?_⟩))) e
    rcases k40 with q | q <;> (show isLp (kf V.1 0 v) = true; rw [q]; rfl)
  split at e
  · rename_i k42
    have lq := (s42 k42).2.2
    have so_l : SOk V kV (oL V.1 r v) := so_if (fun _ => so_oB rk) (fun _ => so_r rk (Or.inr (Or.inr lq)))
    exact fin _ (so_if (fun _ => so_l) (fun _ => so_b fun a _ => so_if (fun _ => so_oB rk) (fun _ => so_l))) e
  split at e
  · rename_i k44
    cases ew : sWait V r v with
    | none => rw [ew] at e; cases e
    | some z =>
      rw [ew] at e
      cases e
      exact ⟨rk, goP_g P HG 0 v (Or.inl rfl), Or.inr ⟨rfl, rfl, hv, k44⟩⟩
  split at e
  · exact fin _ (so_b fun a _ => so_tell rk) e
  split at e
  · exact fin _ (so_b fun a _ => so_if (fun _ => so_b fun u _ => so_tell rk) (fun _ => so_oB rk)) e
  · exact fin _ (so_oB rk) e
theorem so_step (K : GK V kS kV) (rk : RKV V kV r.1) (ia : IA V.1 r.2.1) (e : sStep V r = some (r', b)) : RKV V kV r'.1 ∧ IA V.1 r'.2.1 ∧ ((b = 1 ∧ r'.2.1.1 = r.2.1.1 ∧ r'.2.1.2.2.2.2.2.2 = r.2.1.2.2.2.2.2.2) ∨ (b = 0 ∧ r'.2.1.1 = 1 ∧ rgN V.1 r'.2.1.2.2.2.2.2.2.1 ∧ kf V.1 0 r'.2.1.2.2.2.2.2.2.1 = 44)) := by
  have K' := K
  obtain ⟨P, HG, HU, GS, K2⟩ := K
  have fin : ∀ o : Option SOUT, SOk V kV o → oStep V r o = some (r', b) → RKV V kV r'.1 ∧ IA V.1 r'.2.1 ∧ ((b = 1 ∧ r'.2.1.1 = r.2.1.1 ∧ r'.2.1.2.2.2.2.2.2 = r.2.1.2.2.2.2.2.2) ∨ (b = 0 ∧ r'.2.1.1 = 1 ∧ rgN V.1 r'.2.1.2.2.2.2.2.2.1 ∧ kf V.1 0 r'.2.1.2.2.2.2.2.2.1 = 44)) := by
    intro o ho e
    cases o with
    | none => cases e
    | some q =>
      obtain ⟨h1, h2⟩ := ho q rfl
      cases e
      exact ⟨h1, goP_g P HG _ _ h2, Or.inl ⟨rfl, rfl, rfl⟩⟩
  unfold sStep at e
  split at e
  · exact fin _ (so_oI rk) e
  · rename_i c0
    split at e
    · rename_i c2
      have hv : rgN V.1 r.2.1.2.2.2.2.2.1 ∧ isLp (kf V.1 0 r.2.1.2.2.2.2.2.1) = true := by
        rcases ia with q | ⟨q, -⟩ | ⟨-, q⟩
        · exact absurd q c0
        · rw [c2] at q
          exact absurd q (by decide)
        · exact q
      obtain ⟨-, -, -, -, s38, -⟩ := GS _ hv.1
      refine fin _ (so_if (fun _ => so_oI rk) (fun n41 => so_if (fun _ => so_b fun a _ => so_if (fun _ => so_oB rk) (fun _ => so_oI rk)) (fun n40 => so_if (fun _ => so_oB rk) (fun _ => so_if (fun _ => ?_) (fun _ => so_n))))) e
      have k38 : kf V.1 0 r.2.1.2.2.2.2.2.1 = 38 ∨ kf V.1 0 r.2.1.2.2.2.2.2.1 = 39 := by
        rcases lp_c hv.2 with q | q | q | q
        · exact Or.inl q
        · exact Or.inr q
        · exact absurd q n40
        · exact absurd q n41
      obtain ⟨b1, b2, b3, b4, -⟩ := s38 k38
      obtain ⟨-, -, vn⟩ := go_v (L := (0, 0, 0, 0, 0, fun _ => 0, fun _ => 0)) (r := r) b2 b3
      rintro q e
      cases e
      exact ⟨so_upS rk b4.symm (K2 _ vn b4).symm, Or.inr (Or.inl rfl)⟩
    · rename_i c2
      have hv : rgN V.1 r.2.1.2.2.2.2.2.1 := by
        rcases ia with q | ⟨-, q⟩ | ⟨-, q, -⟩
        · exact absurd q c0
        · exact q
        · exact q
      exact so_act K' rk hv e
theorem m_run (K : GK V kS kV) (ec : ∀ (h : ah_H) (c : SCR) (r : RST), CM x L V c r h → GM x L V.2.2.2 h0 h → ∃ vs, h.1 x = some (0, vs) ∧ vs[7]? = some (aR (x + 530))) {n : Nat} {nn : Int32} (hn : nn.toInt = n) (hn2 : n ≤ 10000) : ∀ (m i : Nat) (ii : Int32) (h : ah_H) (c : SCR) (r : RST), ii.toInt = i → i + m = n → CM x L V c r h → GM x L V.2.2.2 h0 h → IA V.1 r.2.1 → RKV V kV r.1 → r.2.1.2.2.2.2.2.2 = (-1, -1) → wq (ah_val lim ah_P (d + 8) 11 82 [some (aR x), none, some (aI nn), some (aR L.1), some (aI ii)] [] h) (rI (rsM x L V (pRun V m r) h0)) := by
  have e1 : (1 : Int32).toInt = 1 := rfl
  intro m
  induction m with
  | zero =>
    intro i ii h c r hi hm C G ia rk hw
    refine wq_eq q_11_82 (wq_f (fun q => by have := lt_i q; omega) (wq_wr (CM_uc C) (Nat.le_of_ble_eq_true rfl) (wq_some (rI_i ?_))))
    obtain ⟨C1, G1⟩ := CM_u (nV := V.2.2.2) (s := (2, r.2.1.2)) C ⟨up_eq, fun q hq => up_ne hq rfl, rfl, rfl⟩
    exact ⟨rfl, c, (2, r.2.1.2), r.2.2.1, r.2.2.2.1, C1, GM_tr G G1, rfl, fun q => absurd (show (2 : Int32) = 1 from q) (by decide), fun _ => hw⟩
  | succ m ih =>
    intro i ii h c r hi hm C G ia rk hw
    obtain ⟨vs, ex, e7⟩ := ec h c r C G
    have ea : (ii + 1).toInt = ii.toInt + 1 := by rw [ad_i (by omega) (by omega), e1]
    refine wq_eq q_11_82 (wq_t (Int32.lt_iff_toInt_lt.mpr (by omega)) (wq_gR ex e7 (wq_at (CM_rc C) (wq_cI (m_step K C ia rk) fun y1 h1 q => ?_))))
    have ia' : IA V.1 (rSt r).2.1 := ia
    have es : pRun V (m + 1) r = match sStep V (rSt r) with
      | none => (3, rSt r)
      | some q => if q.2 = 0 then (1, q.1) else pRun V m q.1 := rfl
    cases e : sStep V (rSt r) with
    | none =>
      rw [e] at q es
      obtain ⟨rfl, c1, y1, z1, a1, b1, C1, G1⟩ := q
      refine wq_t rfl (wq_gI (CM_uc C1) rfl (wq_some (rI_i ?_)))
      rw [es]
      exact ⟨rfl, c1, _, a1, b1, C1, GM_tr G G1, rfl, fun q => absurd (show (3 : Int32) = 1 from q) (by decide), fun _ => rfl⟩
    | some p =>
      obtain ⟨r', b⟩ := p
      rw [e] at q es
      obtain ⟨rfl, c1, C1, G1⟩ := q
      obtain ⟨rk', ia1, hb⟩ := so_step K (r := rSt r) rk ia' e
      rcases hb with ⟨rfl, t1, t2⟩ | ⟨rfl, t1, -⟩
      · rw [es]
        exact wq_f (by decide) (ih (i + 1) (ii + 1) h1 c1 r' (by omega) (by omega) C1 (GM_tr G G1) ia1 rk' (t2.trans hw))
      · refine wq_t rfl (wq_gI (CM_uc C1) rfl (wq_some (rI_i ?_)))
        rw [es]
        exact ⟨t1, c1, _, _, _, C1, GM_tr G G1, t1, fun _ => ⟨rfl, rfl, rfl⟩, fun q => absurd rfl q⟩
/-- what a run leaves -/
theorem pr_inv (K : GK V kS kV) : ∀ (n : Nat) (r : RST), IA V.1 r.2.1 → RKV V kV r.1 → RKV V kV (pRun V n r).2.1 ∧ ((pRun V n r).1 = 1 ∨ (pRun V n r).1 = 2 ∨ (pRun V n r).1 = 3) ∧ ((pRun V n r).1 = 1 → (pRun V n r).2.2.1.1 = 1 ∧ IA V.1 (pRun V n r).2.2.1 ∧ rgN V.1 (pRun V n r).2.2.1.2.2.2.2.2.2.1 ∧ kf V.1 0 (pRun V n r).2.2.1.2.2.2.2.2.2.1 = 44) := by
  intro n
  induction n with
  | zero => exact fun r ia rk => ⟨rk, Or.inr (Or.inl rfl), fun q => absurd (show (2 : Int32) = 1 from q) (by decide)⟩
  | succ n ih =>
    intro r ia rk
    have es : pRun V (n + 1) r = match sStep V (rSt r) with
      | none => (3, rSt r)
      | some q => if q.2 = 0 then (1, q.1) else pRun V n q.1 := rfl
    cases e : sStep V (rSt r) with
    | none =>
      rw [e] at es
      rw [es]
      exact ⟨rk, Or.inr (Or.inr rfl), fun q => absurd (show (3 : Int32) = 1 from q) (by decide)⟩
    | some p =>
      obtain ⟨r', b⟩ := p
      rw [e] at es
      obtain ⟨rk', ia1, hb⟩ := so_step K (r := rSt r) rk ia e
      rcases hb with ⟨rfl, t1, t2⟩ | ⟨rfl, t1, t3, t4⟩
      · rw [es]
        exact ih r' ia1 rk'
      · rw [es]
        exact ⟨rk', Or.inl rfl, fun _ => ⟨t1, ia1, t3, t4⟩⟩
/-! the wait's end -/
def sHold (V : ENV) (r : RST) (v : Int32) : Option Int32 := if kf V.1 0 (kC V.1 v 1) = 0 then some 1 else (pNo (EVL V r (kC V.1 v 1))).map fun w => if wN w = 0 then 0 else 1
def hdM (x : Nat) (L : LAY) (V : ENV) (r : RST) (o : Option Int32) (h : ah_H) (y : Int32) (h' : ah_H) : Prop := match o with
  | some z => y = z ∧ ∃ c : SCR, CM x L V c r h' ∧ GM x L V.2.2.2 h h'
  | none => y = 2 ∧ FA x L V r h h'
theorem m_hold (K : GK V kS kV) (C : CM x L V c r h) (hv : rgN V.1 r.2.1.2.2.2.2.2.2.1) (k44 : kf V.1 0 r.2.1.2.2.2.2.2.2.1 = 44) : wq (vc lim (d + 7) m_Runner_waitIsOver [aR (x + 530), aR L.1] h) (rI (hdM x L V r (sHold V r r.2.1.2.2.2.2.2.2.1) h)) := by
  obtain ⟨P, HG, HU, GS, K2⟩ := K
  obtain ⟨m3, g1, -⟩ := (GS _ hv).2.2.2.2.2.2.2.2.1 k44
  have h1' : (1 : Int) < (kf V.1 6 r.2.1.2.2.2.2.2.2.1).toInt := by rw [m3]; decide
  have e1 : xCh V.1 r.2.1.2.2.2.2.2.2.1 1 = kC V.1 r.2.1.2.2.2.2.2.2.1 1 := xC_k (n := 1) hv rfl h1'
  have hk := (po_k P hv (i := 1) h1').1
  have nv : ¬ r.2.1.2.2.2.2.2.2.1 = -1 := fun q => by have := hv.1; rw [q] at this; exact absurd this (by decide)
  refine wq_eq e_Runner_waitIsOver (wq_at (CM_uc C) (wq_cI (c_wfe (CM_n C) (CM_uc C)) ?_))
  rintro _ h1 ⟨eh, rfl⟩
  subst eh
  rw [e1, xK_r hk]
  by_cases c0 : kf V.1 0 (kC V.1 r.2.1.2.2.2.2.2.2.1 1) = 0
  · rw [decide_eq_false (fun q => q.2 c0)]
    refine wq_t rfl (wq_some (rI_i ?_))
    rw [show sHold V r r.2.1.2.2.2.2.2.2.1 = some 1 from if_pos c0]
    exact ⟨rfl, c, C, GM_0⟩
  · rw [decide_eq_true ⟨nv, c0⟩]
    have es : sHold V r r.2.1.2.2.2.2.2.2.1 = (pNo (EVL V r (kC V.1 r.2.1.2.2.2.2.2.2.1 1))).map fun w => if wN w = 0 then 0 else 1 := if_neg c0
    refine wq_f (by decide) (wq_gI (CM_uc C) rfl (rk_fnum P C (by rw [e1]; exact g1.resolve_left c0) (fun e h2 q => ?_) (fun w S h2 e C1 s0 G1 => m_num C1 s0 (wq_if _ (fun c1 => ?_) (fun c1 => ?_)))))
    · rw [e1] at e
      refine wq_some (rI_i ?_)
      rw [es, e]
      exact ⟨rfl, q⟩
    · rw [e1] at e
      rw [lg_eq] at c1
      refine wq_some (rI_i ?_)
      rw [es, e, show (some w).map (fun w : WD => if wN w = 0 then (0 : Int32) else 1) = some 0 from congrArg some (if_pos c1)]
      exact ⟨rfl, _, C1, G1⟩
    · rw [e1] at e
      rw [lg_eq] at c1
      refine wq_some (rI_i ?_)
      rw [es, e, show (some w).map (fun w : WD => if wN w = 0 then (0 : Int32) else 1) = some 1 from congrArg some (if_neg c1)]
      exact ⟨rfl, _, C1, G1⟩
end Wk
