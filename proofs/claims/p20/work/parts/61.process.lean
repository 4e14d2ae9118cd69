/-! PROCESS -/
section Ps
variable {lim : Nat × Nat} {K : Nat} {ws : Nat × Nat → Bool} {c n d : Nat} {κ0 κ : kM} {h0 h b : ah_H} {a : Nat}
theorem AL_w {kd m kh : Nat} {vs : List AV} (A : AL K ws c n κ0 h0 κ h) (t : κ a = some (kd, m)) (hh : hkd kd = kh) (o : okC K κ kd m vs) (hw : ∀ v, κ0 a = some v → ws v = true) : AL K ws c n κ0 h0 κ (ah_up h a (kh, vs)) := by
  subst hh
  refine AL_ch A (cI_up A.1 t o) (fun q v h1 h2 => up_ne (fun e => ?_) rfl)
  subst e
  rw [hw v h1] at h2
  cases h2
theorem wtw {kd m kh i : Nat} {vs : List AV} {v : AV} {Φ : ah_R → Prop} {K1 : ah_H → Option ah_R} (A : AL K ws c n κ0 h0 κ h) (t : κ a = some (kd, m)) (hh : hkd kd = kh) (e : h.1 a = some (kh, vs)) (hi : i < vs.length) (o : okC K κ kd m (vs.set i v)) (hw : ∀ v, κ0 a = some v → ws v = true) (k : ∀ h', AL K ws c n κ0 h0 κ h' → h'.1 a = some (kh, vs.set i v) → (∀ q, q ≠ a → h'.1 q = h.1 q) → h'.2.1 = h.2.1 → h'.2.2.1 = h.2.2.1 → wq (K1 h') Φ) : wq (ah_wr h (some a) kh i v K1) Φ :=
  wq_wr e hi (k _ (AL_w A t hh o hw) up_eq (fun _ hq => up_ne hq rfl) rfl rfl)
/-- the maker begins anew -/
def clP (mk nd vr ht rt rw : Nat) (S : Nat → Nat) (h h' : ah_H) : Prop := h'.1 mk = some (4, [aR nd, aR vr, aR ht, aR rt, aI 0]) ∧ h'.1 nd = some (5, [aR (S 0), aR (S 1), aR (S 2), aR (S 3), aR (S 4), aR (S 5), aR (S 6), aR (S 7), aI 0, aI 0]) ∧ h'.1 vr = some (8, [aR rw, aI 0]) ∧ ∀ q, q ≠ mk → q ≠ nd → q ≠ vr → h'.1 q = h.1 q
/-- the maker as it stands -/
def mkI (κ : kM) (mk nd vr ht rt rw : Nat) (S : Nat → Nat) (rc cn kt cv : Int32) (h : ah_H) : Prop := h.1 mk = some (4, [aR nd, aR vr, aR ht, aR rt, aI rc]) ∧ h.1 nd = some (5, [aR (S 0), aR (S 1), aR (S 2), aR (S 3), aR (S 4), aR (S 5), aR (S 6), aR (S 7), aI cn, aI kt]) ∧ h.1 vr = some (8, [aR rw, aI cv]) ∧ κ mk = some (4, 0) ∧ κ nd = some (5, 4000) ∧ κ vr = some (8, 128) ∧ κ rw = some (117, 128) ∧ κ ht = some (100, 4000) ∧ κ rt = some (100, 4000) ∧ ∀ i, i < 8 → κ (S i) = some (100, 4000)
theorem n_Maker_clear {mk nd vr ht rt rw : Nat} {S : Nat → Nat} {rc cn kt cv : Int32} (W : cI K κ b h) (hm : mkI κ mk nd vr ht rt rw S rc cn kt cv h) : wq (vc lim (d + 2) m_Maker_clear [aR mk] h) (rV fun h' => cI K κ b h' ∧ clP mk nd vr ht rt rw S h h' ∧ h'.2.1 = h.2.1 ∧ h'.2.2.1 = h.2.2.1) := by
  obtain ⟨e1, e2, e3, t1, t2, t3, t4, t5, t6, t7⟩ := hm
  have n1 : mk ≠ nd := kne t1 t2 rfl
  have n2 : mk ≠ vr := kne t1 t3 rfl
  have n3 : nd ≠ vr := kne t2 t3 rfl
  have z0 : ∀ m : Nat, (0 : Int32).toInt ≤ m := fun m => by show (0 : Int) ≤ m; omega
  refine wq_eq e_Maker_clear (wq_gR e1 rfl (wk_at W t2 rfl (fun _ => wq_cV (P := fun h' => h' = ah_up (ah_up h nd (5, [aR (S 0), aR (S 1), aR (S 2), aR (S 3), aR (S 4), aR (S 5), aR (S 6), aR (S 7), aI 0, aI kt])) nd (5, [aR (S 0), aR (S 1), aR (S 2), aR (S 3), aR (S 4), aR (S 5), aR (S 6), aR (S 7), aI 0, aI 0])) (wq_eq e_Nodes_clear (wq_wr e2 (Nat.le_of_ble_eq_true rfl) (wq_wr up_eq (Nat.le_of_ble_eq_true rfl) (wq_some (rV_i rfl))))) ?_)))
  rintro h2 rfl
  refine wq_gR (up_ne n1 (up_ne n1 e1)) rfl (wq_at (up_ne n3.symm (up_ne n3.symm e3)) (wq_cV (P := fun h' => h' = ah_up (ah_up (ah_up h nd (5, [aR (S 0), aR (S 1), aR (S 2), aR (S 3), aR (S 4), aR (S 5), aR (S 6), aR (S 7), aI 0, aI kt])) nd (5, [aR (S 0), aR (S 1), aR (S 2), aR (S 3), aR (S 4), aR (S 5), aR (S 6), aR (S 7), aI 0, aI 0])) vr (8, [aR rw, aI 0])) (wq_eq e_Things_clear (wq_wr (up_ne n3.symm (up_ne n3.symm e3)) (Nat.le_of_ble_eq_true rfl) (wq_some (rV_i rfl)))) ?_))
  rintro h4 rfl
  refine wq_wr (up_ne n2 (up_ne n1 (up_ne n1 e1))) (Nat.le_of_ble_eq_true rfl) (wq_some (rV_i ⟨?_, ⟨up_eq, up_ne n1.symm (up_ne n3 up_eq), up_ne n2.symm up_eq, fun q h1 h2 h3 => up_ne h1 (up_ne h3 (up_ne h2 (up_ne h2 rfl)))⟩, rfl, rfl⟩))
  refine cI_up (kd := 4) (cI_up (kd := 8) (cI_up (kd := 5) (n := 4000) (cI_up (kd := 5) (n := 4000) W t2 (i5 (t7 0 (by omega)) (t7 1 (by omega)) (t7 2 (by omega)) (t7 3 (by omega)) (t7 4 (by omega)) (t7 5 (by omega)) (t7 6 (by omega)) (t7 7 (by omega)) (by decide) (z0 _) (z0 _) ?_ (by omega))) t2 (i5 (t7 0 (by omega)) (t7 1 (by omega)) (t7 2 (by omega)) (t7 3 (by omega)) (t7 4 (by omega)) (t7 5 (by omega)) (t7 6 (by omega)) (t7 7 (by omega)) (by decide) (z0 _) (z0 _) (by decide) (by omega))) t3 (i8 t4 (by decide) (z0 _) (by omega))) t1 (i4 t2 t3 t5 t6 (by decide) (by decide))
  obtain ⟨vs, ev, x1, x2, x3, x4, x5, x6, x7, x8, x9, x10, rfl, -, -, -, -, -, -, -, -, -, -, -, p1, -⟩ := W.1 nd 5 4000 t2
  have ev : h.1 nd = some (5, [aR x1, aR x2, aR x3, aR x4, aR x5, aR x6, aR x7, aR x8, aI x9, aI x10]) := ev
  rw [e2] at ev
  cases ev
  exact p1
def wsP : Nat × Nat → Bool := fun v => Nat.beq v.1 0 || Nat.beq v.1 4 || (Nat.beq v.1 5 && Nat.beq v.2 4000) || Nat.beq v.1 120 || (Nat.beq v.1 8 && Nat.beq v.2 128)
theorem ok_set120 {k m N u : Nat} {vs : List AV} (hu : κ u = some (10, N)) (o : okC K κ 120 m vs) : okC K κ 120 m (vs.set k (aR u)) := by
  obtain ⟨o1, o2, o3⟩ := o
  obtain ⟨q1, q2⟩ := ok_set (fun v => ∃ r : Option Nat, v = .inr (.inr r) ∧ ∀ t, r = some t → ∃ m, κ t = some (10, m)) (k := k) (v := aR u) o1 (fun i hi => by obtain ⟨x, e, e2⟩ := o3 i hi; exact ⟨_, e, x, rfl, e2⟩) ⟨some u, rfl, fun t e => by cases e; exact ⟨N, hu⟩⟩
  exact ⟨q1, o2, fun i hi => by obtain ⟨v, e, x, rfl, e2⟩ := q2 i hi; exact ⟨x, e, e2⟩⟩
/-- a new process: its unit u, with what was made -/
def unP (κ' : kM) (u N : Nat) (cn kt cv : Int32) (L : Nat → List AV) (us : List AV) (h' : ah_H) : Prop := κ' u = some (10, u) ∧ h'.1 u = some (10, [aR (u + 1), aR (u + 10), aI 0, aI 0, aI (-1), aI 0, aI 0, aI (-1), aI (-1), aJ (-1), aR (u + 12), aR (u + 13)]) ∧ κ' (u + 1) = some (5, N) ∧ h'.1 (u + 1) = some (5, [aR (u + 2), aR (u + 3), aR (u + 4), aR (u + 5), aR (u + 6), aR (u + 7), aR (u + 8), aR (u + 9), aI cn, aI kt]) ∧ (∀ i, i < 8 → κ' (u + 2 + i) = some (100, N) ∧ h'.1 (u + 2 + i) = some (100, (L i).take N)) ∧ κ' (u + 10) = some (8, cv.toInt.toNat) ∧ h'.1 (u + 10) = some (8, [aR (u + 11), aI cv]) ∧ (∃ ts, h'.1 (u + 11) = some (117, ts) ∧ ∀ j : Nat, j < cv.toInt → ts[j]? = us[j]?) ∧ h'.1 (u + 12) = some (101, List.replicate N (aJ 0)) ∧ h'.1 (u + 13) = some (101, List.replicate N (aJ 0))
/-- how process ends: w the first wrong node, o whether there is one body -/
def prP (K : Nat) (κ : kM) (x sg mk lk un td rn nd vr ht rt rw : Nat) (S : Nat → Nat) (uc nk cn kt cv : Int32) (L : Nat → List AV) (us vu : List AV) (w o : Int32) (h : ah_H) : ah_R → Prop := fun z =>
  ((64 ≤ uc.toInt ∨ ¬ nk + cn ≤ (20000 : Int32)) ∧ z = (.inr (201, h.2.1), ah_new h (201, []) 6)) ∨
  (uc.toInt < 64 ∧ nk + cn ≤ (20000 : Int32) ∧ ∃ h' κ' v uc' nk', z = (.inl (some (.inl v)), h') ∧ AL K wsP 14 (280 + 10 * K) κ h κ' h' ∧ h'.1 x = some (0, [aR sg, aR mk, aR lk, aR un, aI uc', aI nk', aR td, aR rn]) ∧ h'.1 mk = some (4, [aR nd, aR vr, aR ht, aR rt, aI 0]) ∧ h'.1 nd = some (5, [aR (S 0), aR (S 1), aR (S 2), aR (S 3), aR (S 4), aR (S 5), aR (S 6), aR (S 7), aI 0, aI 0]) ∧ h'.1 vr = some (8, [aR rw, aI 0]) ∧ (∀ q v, κ q = some v → q ≠ x → q ≠ mk → q ≠ nd → q ≠ vr → q ≠ un → h'.1 q = h.1 q) ∧
    ((¬ w = (-1 : Int32) ∧ v = (-1 : Int32) - w ∧ uc' = uc ∧ nk' = nk ∧ h'.1 un = h.1 un) ∨ (w = (-1 : Int32) ∧ o = 0 ∧ v = (if cn = 0 then (-1 : Int32) else -cn) ∧ uc' = uc ∧ nk' = nk ∧ h'.1 un = h.1 un) ∨ (w = (-1 : Int32) ∧ ¬ o = 0 ∧ v = uc ∧ uc' = uc + 1 ∧ nk' = nk + cn ∧ h'.1 un = some (120, vu.set uc.toNatClampNeg (aR h.2.1)) ∧ unP κ' h.2.1 cn.toInt.toNat cn kt cv L us h')))
theorem n_process {x sg mk lk un td rn nd vr ht rt rw : Nat} {S : Nat → Nat} {uc nk rc cn kt cv w o : Int32} {L : Nat → List AV} {us vu : List AV} (W : cI K κ h h) (hd : dm κ h) (hK : K < 4000) (t0 : κ x = some (0, 0)) (e0 : h.1 x = some (0, [aR sg, aR mk, aR lk, aR un, aI uc, aI nk, aR td, aR rn])) (hm : mkI κ mk nd vr ht rt rw S rc cn kt cv h) (es : ∀ i, i < 8 → h.1 (S i) = some (100, L i)) (eu : h.1 rw = some (117, us)) (ev : h.1 un = some (120, vu))
    (hw : wq (vc lim (d + 8) m_Looker_firstWrong [aR lk] h) (rI fun x h' => h' = h ∧ x = w)) (ho : wq (vc lim (d + 8) m_Looker_isOneBody [aR lk] h) (rI fun x h' => h' = h ∧ x = o)) (hr : h.2.1 + 14 ≤ lim.1 ∧ h.2.2.1 + (280 + 10 * K) ≤ lim.2) :
    wq (vc lim (d + 9) m_Code_process [aR x] h) (prP K κ x sg mk lk un td rn nd vr ht rt rw S uc nk cn kt cv L us vu w o h) := by
  obtain ⟨e1, e2, e3, t1, t2, t3, t4, t5, t6, t7⟩ := id hm
  -- what the cells say
  obtain ⟨x1, x2, x3, x4, x5, x6, x7, x8, ex, p1, p2, p3, p4, p5, p6, b1, b2⟩ := o0 W t0
  rw [e0] at ex
  cases ex
  obtain ⟨x1, x2, x3, x4, x5, x6, x7, x8, x9, x10, ex, -, -, -, -, -, -, -, -, b3, b4, b5, b6, -⟩ := o5 W t2
  rw [e2] at ex
  cases ex
  obtain ⟨x1, x2, ex, -, b8, b9, -⟩ := o8 W t3
  rw [e3] at ex
  cases ex
  have rm0 : rm lim h := ⟨by omega, by omega⟩
  have n1 : mk ≠ nd := kne t1 t2 rfl
  have n2 : mk ≠ vr := kne t1 t3 rfl
  have n3 : nd ≠ vr := kne t2 t3 rfl
  have n4 : x ≠ mk := kne t0 t1 rfl
  have n5 : x ≠ nd := kne t0 t2 rfl
  have n6 : x ≠ vr := kne t0 t3 rfl
  have n7 : un ≠ mk := kne p4 t1 rfl
  have n8 : un ≠ nd := kne p4 t2 rfl
  have n9 : un ≠ vr := kne p4 t3 rfl
  have n10 : x ≠ un := kne t0 p4 rfl
  have lx := hd _ _ t0
  have lm := hd _ _ t1
  have ln := hd _ _ t2
  have lv := hd _ _ t3
  have lu := hd _ _ p4
  have lr := hd _ _ t4
  -- nothing is made
  have fin : ∀ {v : Int32}, uc.toInt < 64 → nk + cn ≤ (20000 : Int32) → ((¬ w = (-1 : Int32) ∧ v = (-1 : Int32) - w) ∨ (w = (-1 : Int32) ∧ o = 0 ∧ v = (if cn = 0 then (-1 : Int32) else -cn))) → wq (ah_gR h (some x) 0 1 fun r14 => ah_at h r14 4 fun _ _ => ah_cV (vc lim (d + 8) 189 [.inr (.inr r14)] h) (nx h) fun h15 => some (.inl (some (.inl v)), h15)) (prP K κ x sg mk lk un td rn nd vr ht rt rw S uc nk cn kt cv L us vu w o h) := by
    intro v hu hn hv
    refine wq_gR e0 rfl (wq_at e1 (wq_cV (n_Maker_clear W hm) ?_))
    rintro h15 ⟨W2, ⟨q1, q2, q3, q4⟩, m2, r2⟩
    have A := AL_ch (AL_0 (ws := wsP) W hd) W2 (fun q v h1 h2 => q4 q (fun e => by subst e; rw [t1] at h1; cases h1; cases h2) (fun e => by subst e; rw [t2] at h1; cases h1; cases h2) (fun e => by subst e; rw [t3] at h1; cases h1; cases h2))
    refine wq_some (Or.inr ⟨hu, hn, h15, κ, v, uc, nk, rfl, AL_le A (by omega) (by omega), (q4 x n4 n5 n6).trans e0, q1, q2, q3, fun q v _ h1 h2 h3 h4 h5 => q4 q h2 h3 h4, ?_⟩)
    rcases hv with ⟨v1, v2⟩ | ⟨v1, v2, v3⟩
    · exact Or.inl ⟨v1, v2, rfl, rfl, q4 un n7 n8 n9⟩
    · exact Or.inr (Or.inl ⟨v1, v2, v3, rfl, rfl, q4 un n7 n8 n9⟩)
  refine wq_eq e_Code_process (wq_gR e0 rfl (wq_gR e1 rfl (wq_gI e2 rfl (wq_gI e0 rfl (wq_gR e0 rfl (wk_len W p4 (by decide) ?_))))))
  intro l hl
  refine wq_if _ (fun c1 => ?_) (fun c1 => thX rm0 (Or.inl ⟨Or.inl (by have := nlt_i c1; omega), rfl⟩))
  have c1 := lt_i c1
  refine wq_gI e0 rfl (wq_if _ (fun c2 => ?_) (fun c2 => thX rm0 (Or.inl ⟨Or.inr c2, rfl⟩)))
  refine wq_gR e0 rfl (wk_at W p3 rfl (fun _ => wq_cI hw ?_))
  rintro w' h9 ⟨rfl, rfl⟩
  refine wq_if _ (fun c3 => ?_) (fun c3 => fin (by omega) c2 (Or.inl ⟨c3, rfl⟩))
  refine wq_gR e0 rfl (wk_at W p3 rfl (fun _ => wq_cI ho ?_))
  rintro o' h12 ⟨rfl, rfl⟩
  refine wq_if _ (fun c4 => ?_) (fun c4 => ?_)
  · refine wq_if _ (fun c5 => fin (by omega) c2 (Or.inr ⟨c3, c4, by rw [if_pos c5]⟩)) (fun c5 => fin (by omega) c2 (Or.inr ⟨c3, c4, by rw [if_neg c5]⟩))
  -- a unit is made
  refine wq_gI e0 rfl (wq_gR e0 rfl (wq_gI e0 rfl ?_))
  have A0 := AL_0 (ws := wsP) W hd
  refine wno A0 ⟨by omega, by omega⟩ ?_
  intro h22 A22 ea o22 m22 r22
  have hcn : cn.toInt = (cn.toInt.toNat : Int) := by omega
  have hcv : cv.toInt = (cv.toInt.toNat : Int) := by omega
  refine wq_gR ((o22 x lx).trans e0) rfl (wq_gR ((o22 mk lm).trans e1) rfl (wk_at A22.1 t2 rfl (fun _ => wq_cR (n_Nodes_trimmed (L := L) (N := cn.toInt.toNat) A22 ((o22 nd ln).trans e2) (by omega) t7 (fun i hi => (o22 _ (hd _ _ (t7 i hi))).trans (es i hi)) hcn (by omega) (by omega) (by omega) b6 ⟨by omega, by omega⟩) ?_)))
  rintro r26 h25 ⟨κ1, rfl, A25, l25, j25, f25, k25, e25, p25, o25, m25, r25⟩
  have o25' : ∀ q, q < h12.2.1 → h25.1 q = h12.1 q := fun q hq => (o25 q (by omega)).trans (o22 q hq)
  refine wq_gR ((o25' x lx).trans e0) rfl (wq_gR ((o25' mk lm).trans e1) rfl (wk_at A25.1 (l25 _ _ t3) rfl (fun _ => wq_cR (n_Things_trimmed (N := cv.toInt.toNat) A25 t3 t4 ((o25' vr lv).trans e3) ((o25' rw lr).trans eu) hcv (by omega) (by omega) ⟨by omega, by omega⟩) ?_)))
  rintro r30 h29 ⟨κ2, rfl, k2, A29, e29, ⟨ts, e30, g30⟩, o29, m29, r29⟩
  have hu1 : h22.2.1 = h12.2.1 + 1 := m22
  have hu2 : h25.2.1 = h12.2.1 + 10 := by omega
  have nu : κ2 h12.2.1 = none := by
    rw [k2]
    refine ins_ne (by omega) (ins_ne (by omega) ?_)
    exact (j25 _ (by omega)).trans (dm_none hd (Nat.le_refl _))
  have e29a : h29.1 h12.2.1 = some (10, [aN, aN, aI 0, aI 0, aI 0, aI 0, aI 0, aI 0, aI 0, aJ 0, aN, aN]) := (o29 _ (by omega)).trans ((o25 _ (by omega)).trans ea)
  have l2 : ∀ q v, κ1 q = some v → κ2 q = some v := fun q v hq => by
    rw [k2]
    have := A25.2.1 q v hq
    exact ins_ne (by omega) (ins_ne (by omega) hq)
  have kn : κ2 h22.2.1 = some (5, cn.toInt.toNat) := l2 _ _ k25
  have kv : κ2 h25.2.1 = some (8, cv.toInt.toNat) := by rw [k2]; exact ins_eq
  have kn' : κ2 (h12.2.1 + 1) = some (5, cn.toInt.toNat) := by rw [← hu1]; exact kn
  have kv' : κ2 (h12.2.1 + 10) = some (8, cv.toInt.toNat) := by rw [← hu2]; exact kv
  have e25' := (o29 h22.2.1 (by omega)).trans e25
  rw [hu1] at e25'
  rw [hu1, hu2]
  refine wq_at e29a (wq_cV (n_Unit_init (N := cn.toInt.toNat) A29 (Nat.le_refl _) (by omega) nu e29a kn' e25' rfl kv' hcn (by omega) ⟨by omega, by omega⟩) ?_)
  rintro h31 ⟨κ3, A31, l31, u31, e31, f31, g31, o31, m31, r31⟩
  have lt3 : ∀ q v, κ q = some v → κ3 q = some v := fun q v hq => l31 _ _ (l2 _ _ (l25 _ _ hq))
  have old : ∀ q, q < h12.2.1 → h31.1 q = h12.1 q := fun q hq => (o31 q (by omega) (by omega)).trans ((o29 q (by omega)).trans (o25' q hq))
  obtain ⟨vu', ev', ov⟩ := A31.1.1 un 120 64 (lt3 _ _ p4)
  have ev' : h31.1 un = some (120, vu') := ev'
  rw [old un lu, ev] at ev'
  cases ev'
  have hul : uc.toNatClampNeg < vu.length := by rw [ov.1]; exact ix_lt b1 (by omega)
  refine wq_sR ((old un lu).trans ev) (by decide) e31 rfl (ix_ge b1) hul ?_
  have A32 := AL_w A31 (lt3 _ _ p4) rfl (ok_set120 (k := uc.toNatClampNeg) u31 ov) (fun v hv => by rw [p4] at hv; cases hv; rfl)
  have ltx := lt3 _ _ t0
  have ex32 : (ah_up h31 un (120, vu.set uc.toNatClampNeg (aR h12.2.1))).1 x = some (0, [aR sg, aR mk, aR lk, aR un, aI uc, aI nk, aR td, aR rn]) := up_ne n10 ((old x lx).trans e0)
  have huc : (uc + 1).toInt = uc.toInt + 1 := ad_i (by show _ ≤ uc.toInt + 1; omega) (by show uc.toInt + 1 ≤ _; omega)
  have hwx : ∀ v, κ x = some v → wsP v = true := fun v hv => by rw [t0] at hv; cases hv; rfl
  refine wq_gI ex32 rfl (wtw A32 ltx rfl ex32 (Nat.le_of_ble_eq_true rfl) (i0 (lt3 _ _ p1) (lt3 _ _ p2) (lt3 _ _ p3) (lt3 _ _ p4) (lt3 _ _ p5) (lt3 _ _ p6) (by omega) (by omega)) hwx ?_)
  intro h34 A34 e34 o34 m34 r34
  refine wq_gI e34 rfl (wtw A34 ltx rfl e34 (Nat.le_of_ble_eq_true rfl) (i0 (lt3 _ _ p1) (lt3 _ _ p2) (lt3 _ _ p3) (lt3 _ _ p4) (lt3 _ _ p5) (lt3 _ _ p6) (by omega) (by omega)) hwx ?_)
  intro hz A36 e36 o36 m36 r36
  have e36 : hz.1 x = some (0, [aR sg, aR mk, aR lk, aR un, aI (uc + 1), aI (nk + cn), aR td, aR rn]) := e36
  have f36 : ∀ q, q ≠ x → q ≠ un → hz.1 q = h31.1 q := fun q h1 h2 => (o36 q h1).trans ((o34 q h1).trans (up_ne h2 rfl))
  have v36 : hz.1 un = some (120, vu.set uc.toNatClampNeg (aR h12.2.1)) := (o36 un n10.symm).trans ((o34 un n10.symm).trans up_eq)
  have m32 : h34.2.1 = h31.2.1 := m34
  have r32 : h34.2.2.1 = h31.2.2.1 := r34
  have g36 : ∀ q, q < h12.2.1 → q ≠ x → q ≠ un → hz.1 q = h12.1 q := fun q h1 h2 h3 => (f36 q h2 h3).trans (old q h1)
  have hm36 : mkI κ3 mk nd vr ht rt rw S rc cn kt cv hz := ⟨(g36 mk lm n4.symm n7.symm).trans e1, (g36 nd ln n5.symm n8.symm).trans e2, (g36 vr lv n6.symm n9.symm).trans e3, lt3 _ _ t1, lt3 _ _ t2, lt3 _ _ t3, lt3 _ _ t4, lt3 _ _ t5, lt3 _ _ t6, fun i hi => lt3 _ _ (t7 i hi)⟩
  refine wq_gR e36 rfl (wq_at hm36.1 (wq_cV (n_Maker_clear A36.1 hm36) ?_))
  rintro h38 ⟨W2, ⟨q1, q2, q3, q4⟩, m2, r2⟩
  have A := AL_ch A36 W2 (fun q v h1 h2 => q4 q (fun e => by subst e; rw [t1] at h1; cases h1; cases h2) (fun e => by subst e; rw [t2] at h1; cases h1; cases h2) (fun e => by subst e; rw [t3] at h1; cases h1; cases h2))
  have g38 : ∀ q, h12.2.1 ≤ q → h38.1 q = h31.1 q := fun q hq => (q4 q (by omega) (by omega) (by omega)).trans (f36 q (by omega) (by omega))
  have hu3 : h29.2.1 = h12.2.1 + 12 := by omega
  rw [hu1] at kn e25 k25 p25 o25
  rw [hu2] at kv e29 e30 o29
  rw [hu3] at e31 f31 g31 o31
  refine wq_some (Or.inr ⟨by omega, c2, h38, κ3, uc, uc + 1, nk + cn, rfl, AL_le A (by omega) (by omega), (q4 x n4 n5 n6).trans e36, q1, q2, q3, fun q v hq h1 h2 h3 h4 h5 => (q4 q h2 h3 h4).trans (g36 q (hd q v hq) h1 h5), Or.inr (Or.inr ⟨c3, c4, rfl, rfl, rfl, (q4 un n7 n8 n9).trans v36, ?_⟩)⟩)
  refine ⟨u31, (g38 _ (by omega)).trans e31, l31 _ _ kn, (g38 _ (by omega)).trans ((o31 _ (by omega) (by omega)).trans ((o29 _ (by omega)).trans e25)), fun i hi => ?_, l31 _ _ kv, (g38 _ (by omega)).trans ((o31 _ (by omega) (by omega)).trans e29), ⟨ts, (g38 _ (by omega)).trans ((o31 _ (by omega) (by omega)).trans e30), fun j hj => g30 j (by omega)⟩, (g38 _ (by omega)).trans f31, (g38 _ (by omega)).trans g31⟩
  have := p25 i hi
  exact ⟨l31 _ _ (l2 _ _ this.1), (g38 _ (by omega)).trans ((o31 _ (by omega) (by omega)).trans ((o29 _ (by omega)).trans this.2))⟩
end Ps
