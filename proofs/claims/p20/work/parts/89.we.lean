/-! THE RUNNER: short ways -/
/-- it always goes somewhere -/
def GT (T : KT) : Prop := ∀ l p : Int32, ∃ g, gto T 101 l p = some g
theorem xC_k {T : KT} {v i : Int32} {n : Nat} (hv : rgN T v) (hi : i.toInt = n) (hm : (n : Int) < (kf T 6 v).toInt) : xCh T v i = kC T v n := by
  unfold xCh
  rw [if_pos ⟨hv, by omega, by omega⟩, show i.toInt.toNat = n by omega]
theorem xK_r {T : KT} {v : Int32} (hv : rgN T v) : xK T v = kf T 0 v := if_pos hv
theorem xG_r {T : KT} {v : Int32} (hv : rgN T v) : xG T v = kf T 1 v := if_pos hv
theorem xM_r {T : KT} {v : Int32} (hv : rgN T v) : xM T v = kf T 6 v := if_pos hv
section We
variable {lim : Nat × Nat} {d x : Nat} {L : LAY} {V : ENV} {c : SCR} {r r0 : RST} {h h' h0 : ah_H} {w : WD} {v k y z i : Int32} {kS kV : Nat → Int32 × Int32} {Φ : ah_R → Prop} {K : Int32 → ah_H → Option ah_R} {A B : ah_H → Option ah_R}
theorem rk_nd {K : Option Nat → Option ah_R} (C : CM x L V c r h) (k : wq (K (some L.2.1)) Φ) : wq (ah_gR h (some L.1) 10 0 K) Φ := wq_gR (CM_uc C) rfl k
theorem rk_fd {K : Option Nat → Option ah_R} (C : CM x L V c r h) (k : wq (K (some (x + 531))) Φ) : wq (ah_gR h (some (x + 530)) 6 2 K) Φ := wq_gR (CM_rc C) rfl k
theorem rk_kid (C : CM x L V c r h) (k : wq (K (xCh V.1 v i) h) Φ) : wq (ah_at h (some L.2.1) 5 fun _ _ => ah_cI (vc lim (d + 1) 200 [aR L.2.1, aI v, aI i] h) (nx h) K) Φ := by
  obtain ⟨v5, e5⟩ := CM_n5 C
  refine wq_at e5 (wq_cI (c_kid (CM_n C)) ?_)
  rintro _ _ ⟨rfl, rfl⟩
  exact k
theorem rk_k {n : Nat} (C : CM x L V c r h) (hv : rgN V.1 v) (hi : i.toInt = n) (hm : (n : Int) < (kf V.1 6 v).toInt) (k : wq (K (kC V.1 v n) h) Φ) : wq (ah_at h (some L.2.1) 5 fun _ _ => ah_cI (vc lim (d + 1) 200 [aR L.2.1, aI v, aI i] h) (nx h) K) Φ := rk_kid C (by rw [xC_k hv hi hm]; exact k)
theorem rk_kind (C : CM x L V c r h) (k : wq (K (xK V.1 v) h) Φ) : wq (ah_at h (some L.2.1) 5 fun _ _ => ah_cI (vc lim (d + 1) 194 [aR L.2.1, aI v] h) (nx h) K) Φ := by
  obtain ⟨v5, e5⟩ := CM_n5 C
  refine wq_at e5 (wq_cI (c_kindOf (CM_n C)) ?_)
  rintro _ _ ⟨rfl, rfl⟩
  exact k
theorem rk_given (C : CM x L V c r h) (k : wq (K (xG V.1 v) h) Φ) : wq (ah_at h (some L.2.1) 5 fun _ _ => ah_cI (vc lim (d + 1) 195 [aR L.2.1, aI v] h) (nx h) K) Φ := by
  obtain ⟨v5, e5⟩ := CM_n5 C
  refine wq_at e5 (wq_cI (c_givenOf (CM_n C)) ?_)
  rintro _ _ ⟨rfl, rfl⟩
  exact k
theorem rk_kids (C : CM x L V c r h) (k : wq (K (xM V.1 v) h) Φ) : wq (ah_at h (some L.2.1) 5 fun _ _ => ah_cI (vc lim (d + 1) 199 [aR L.2.1, aI v] h) (nx h) K) Φ := by
  obtain ⟨v5, e5⟩ := CM_n5 C
  refine wq_at e5 (wq_cI (c_kidsOf (CM_n C)) ?_)
  rintro _ _ ⟨rfl, rfl⟩
  exact k
theorem rk_find {h1 : ah_H} (P : PO V.1) (C : CM x L V c r h) (g : gXV V kS kV v) (kn : EVL V r v = none → ∀ h', FA x L V r h h' → wq (A h') Φ) (ks : ∀ w S h', EVL V r v = some w → CM x L V (S, c.2) r h' → S 0 = w → GM x L V.2.2.2 h h' → wq (B h') Φ) : wq (ah_at h (some (x + 531)) 2 fun _ _ => ah_cI (vc lim (d + 4) 137 [aR (x + 531), aR L.1, aI v] h) (nx h1) fun y h' => if y = 0 then A h' else B h') Φ := by
  obtain ⟨vs, ef⟩ := CM_f2 C
  refine wq_at ef (wq_cI (m_find P C g) fun y1 h1 q => ?_)
  cases e : EVL V r v with
  | none =>
    rw [e] at q
    obtain ⟨rfl, q⟩ := q
    exact wq_t rfl (kn e _ q)
  | some w =>
    rw [e] at q
    obtain ⟨rfl, S, C1, s0, G1⟩ := q
    exact wq_f (by decide) (ks w S h1 e C1 s0 G1)
theorem rk_fnum {h1 : ah_H} (P : PO V.1) (C : CM x L V c r h) (g : gXV V kS kV (xCh V.1 v i)) (kn : pNo (EVL V r (xCh V.1 v i)) = none → ∀ h', FA x L V r h h' → wq (A h') Φ) (ks : ∀ w S h', pNo (EVL V r (xCh V.1 v i)) = some w → CM x L V (S, c.2) r h' → S 0 = w → GM x L V.2.2.2 h h' → wq (B h') Φ) : wq (ah_at h (some (x + 530)) 6 fun _ _ => ah_cI (vc lim (d + 5) 209 [aR (x + 530), aR L.1, aI v, aI i] h) (nx h1) fun y h' => if y = 0 then A h' else B h') Φ := by
  refine wq_at (CM_rc C) (wq_cI (m_findNumber P C g) fun y1 h1 q => ?_)
  cases e : pNo (EVL V r (xCh V.1 v i)) with
  | none =>
    rw [e] at q
    obtain ⟨rfl, q⟩ := q
    exact wq_t rfl (kn e _ q)
  | some w =>
    rw [e] at q
    obtain ⟨rfl, S, C1, s0, G1⟩ := q
    exact wq_f (by decide) (ks w S h1 e C1 s0 G1)
theorem rk_isN {h1 : ah_H} (C : CM x L V c r h) (hw : c.1 0 = w) (ht : wI w = 2 → wq (B h) Φ) (hf : ¬ wI w = 2 → wq (A h) Φ) : wq (ah_gR h (some (x + 530)) 6 2 fun r7 => ah_at h r7 2 fun _ _ => ah_cI (vc lim (d + 1) 136 [.inr (.inr r7)] h) (nx h1) fun i9 h8 => if i9 = 0 then A h8 else B h8) Φ := by
  have rc := CM_rc C
  obtain ⟨vs, ef⟩ := CM_f2 C
  obtain ⟨⟨t, F⟩, -⟩ := C
  refine wq_gR rc rfl (wq_at ef (wq_cI (c_isNumber F) ?_))
  rintro _ _ ⟨rfl, rfl⟩
  rw [hw]
  by_cases cw : wI w = 2
  · rw [decide_eq_true cw]
    exact wq_f (by decide) (ht cw)
  · rw [decide_eq_false cw]
    exact wq_t rfl (hf cw)
theorem rk_fail {h1 : ah_H} (C : CM x L V c r h) (k : ∀ h', FA x L V r h h' → wq (K 0 h') Φ) : wq (ah_at h (some L.1) 10 fun _ _ => ah_cI (vc lim (d + 2) 253 [aR L.1, aI y, aI z] h) (nx h1) K) Φ := by
  refine wq_at (CM_uc C) (wq_cI (m_fail C) ?_)
  rintro _ h2 ⟨rfl, q⟩
  exact k h2 q
/-- ends -/
theorem ps_0 {o : Option SOUT} (ho : o = none) (q : FA x L V r h h') : wq (if (0 : Int32) = 0 ∨ (0 : Int32) = 1 then some ((.inl (some (.inl 0)), h') : ah_R) else none) (rI (goM x L V r o h)) := by
  rw [ho]
  exact wq_t (Or.inl rfl) (wq_some (rI_i ⟨rfl, q⟩))
theorem ps_f {o : Option SOUT} {h1 : ah_H} (C : CM x L V c r h) (G : GM x L V.2.2.2 h0 h) (ho : o = none) : wq (ah_at h (some L.1) 10 fun _ _ => ah_cI (vc lim (d + 2) 253 [aR L.1, aI y, aI z] h) (nx h1) fun i h1 => if i = 0 ∨ i = 1 then some (.inl (some (.inl i)), h1) else none) (rI (goM x L V r o h0)) := wq_at (CM_uc C) (ps_fail C G ho)
theorem ps_b {o : Option SOUT} {h1 : ah_H} {e : Nat → TS} {a b : Nat → Int64} {t : TD} (HG : GT V.1) (C : CM x L V c (e, r.2.1, a, b, t) h) (G : GM x L V.2.2.2 h0 h) (ho : o = some (e, a, b, t, 0, v)) : wq (ah_at h (some L.1) 10 fun _ _ => ah_cI (vc lim (d + 4) 247 [aR L.1, aI v] h) (nx h1) fun i h1 => if i = 0 ∨ i = 1 then some (.inl (some (.inl i)), h1) else none) (rI (goM x L V r o h0)) := by
  obtain ⟨g, hg⟩ := HG (xU V.1 v) (xP V.1 v + 1)
  rw [ho]
  exact wq_at (CM_uc C) (ps_go (m_behind rfl C G hg))
theorem ps_i {o : Option SOUT} {h1 : ah_H} {e : Nat → TS} {a b : Nat → Int64} {t : TD} (HG : GT V.1) (C : CM x L V c (e, r.2.1, a, b, t) h) (G : GM x L V.2.2.2 h0 h) (ho : o = some (e, a, b, t, 1, v)) : wq (ah_at h (some L.1) 10 fun _ _ => ah_cI (vc lim (d + 4) 248 [aR L.1, aI v] h) (nx h1) fun i h1 => if i = 0 ∨ i = 1 then some (.inl (some (.inl i)), h1) else none) (rI (goM x L V r o h0)) := by
  obtain ⟨g, hg⟩ := HG v 0
  rw [ho]
  exact wq_at (CM_uc C) (ps_go (m_into rfl C G hg))
theorem ps_l {o : Option SOUT} {h1 : ah_H} {e : Nat → TS} {a b : Nat → Int64} {t : TD} (C : CM x L V c (e, r.2.1, a, b, t) h) (G : GM x L V.2.2.2 h0 h) (ho : o = some (e, a, b, t, 2, v)) : wq (ah_at h (some L.1) 10 fun _ _ => ah_cI (vc lim (d + 1) 249 [aR L.1, aI v] h) (nx h1) fun i h1 => if i = 0 ∨ i = 1 then some (.inl (some (.inl i)), h1) else none) (rI (goM x L V r o h0)) := by
  rw [ho]
  exact wq_at (CM_uc C) (ps_go (m_look rfl C G))
/-- the runner's own fields -/
theorem wn6 {K : ah_H → Option ah_R} {a : Option Nat} (C : CM x L V c r h) (k : ∀ h', CM x L V (c.1, c.2.1, c.2.2.1, c.2.2.2.1, a, c.2.2.2.2.2) r h' → GM x L V.2.2.2 h h' → wq (K h') Φ) : wq (ah_wr h (some (x + 530)) 6 6 (.inr (.inr a)) K) Φ := by
  refine wq_wr (CM_rc C) (Nat.le_of_ble_eq_true rfl) ?_
  obtain ⟨C3, G3⟩ := CM_rn (nV := V.2.2.2) (tg := a) (a1 := c.2.2.2.2.2.1) (a2 := c.2.2.2.2.2.2.1) (a3 := c.2.2.2.2.2.2.2.1) (a4 := c.2.2.2.2.2.2.2.2) C ⟨up_eq, fun q hq => up_ne hq rfl, rfl, rfl⟩
  exact k _ C3 G3
theorem wn7 {K : ah_H → Option ah_R} {a : Int32} (C : CM x L V c r h) (k : ∀ h', CM x L V (c.1, c.2.1, c.2.2.1, c.2.2.2.1, c.2.2.2.2.1, a, c.2.2.2.2.2.2) r h' → GM x L V.2.2.2 h h' → wq (K h') Φ) : wq (ah_wr h (some (x + 530)) 6 7 (aI a) K) Φ := by
  refine wq_wr (CM_rc C) (Nat.le_of_ble_eq_true rfl) ?_
  obtain ⟨C3, G3⟩ := CM_rn (nV := V.2.2.2) (tg := c.2.2.2.2.1) (a1 := a) (a2 := c.2.2.2.2.2.2.1) (a3 := c.2.2.2.2.2.2.2.1) (a4 := c.2.2.2.2.2.2.2.2) C ⟨up_eq, fun q hq => up_ne hq rfl, rfl, rfl⟩
  exact k _ C3 G3
theorem wn8 {K : ah_H → Option ah_R} {a : Int32} (C : CM x L V c r h) (k : ∀ h', CM x L V (c.1, c.2.1, c.2.2.1, c.2.2.2.1, c.2.2.2.2.1, c.2.2.2.2.2.1, a, c.2.2.2.2.2.2.2) r h' → GM x L V.2.2.2 h h' → wq (K h') Φ) : wq (ah_wr h (some (x + 530)) 6 8 (aI a) K) Φ := by
  refine wq_wr (CM_rc C) (Nat.le_of_ble_eq_true rfl) ?_
  obtain ⟨C3, G3⟩ := CM_rn (nV := V.2.2.2) (tg := c.2.2.2.2.1) (a1 := c.2.2.2.2.2.1) (a2 := a) (a3 := c.2.2.2.2.2.2.2.1) (a4 := c.2.2.2.2.2.2.2.2) C ⟨up_eq, fun q hq => up_ne hq rfl, rfl, rfl⟩
  exact k _ C3 G3
theorem wn9 {K : ah_H → Option ah_R} {a : Int32} (C : CM x L V c r h) (k : ∀ h', CM x L V (c.1, c.2.1, c.2.2.1, c.2.2.2.1, c.2.2.2.2.1, c.2.2.2.2.2.1, c.2.2.2.2.2.2.1, a, c.2.2.2.2.2.2.2.2) r h' → GM x L V.2.2.2 h h' → wq (K h') Φ) : wq (ah_wr h (some (x + 530)) 6 9 (aI a) K) Φ := by
  refine wq_wr (CM_rc C) (Nat.le_of_ble_eq_true rfl) ?_
  obtain ⟨C3, G3⟩ := CM_rn (nV := V.2.2.2) (tg := c.2.2.2.2.1) (a1 := c.2.2.2.2.2.1) (a2 := c.2.2.2.2.2.2.1) (a3 := a) (a4 := c.2.2.2.2.2.2.2.2) C ⟨up_eq, fun q hq => up_ne hq rfl, rfl, rfl⟩
  exact k _ C3 G3
theorem wn10 {K : ah_H → Option ah_R} {a : Int32} (C : CM x L V c r h) (k : ∀ h', CM x L V (c.1, c.2.1, c.2.2.1, c.2.2.2.1, c.2.2.2.2.1, c.2.2.2.2.2.1, c.2.2.2.2.2.2.1, c.2.2.2.2.2.2.2.1, a) r h' → GM x L V.2.2.2 h h' → wq (K h') Φ) : wq (ah_wr h (some (x + 530)) 6 10 (aI a) K) Φ := by
  refine wq_wr (CM_rc C) (Nat.le_of_ble_eq_true rfl) ?_
  obtain ⟨C3, G3⟩ := CM_rn (nV := V.2.2.2) (tg := c.2.2.2.2.1) (a1 := c.2.2.2.2.2.1) (a2 := c.2.2.2.2.2.2.1) (a3 := c.2.2.2.2.2.2.2.1) (a4 := a) C ⟨up_eq, fun q hq => up_ne hq rfl, rfl, rfl⟩
  exact k _ C3 G3
end We
