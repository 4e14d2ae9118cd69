/-! THE RUNNER: IF, CASE -/
abbrev oBe (r : RST) (v : Int32) : Option SOUT := some (r.1, r.2.2.1, r.2.2.2.1, r.2.2.2.2, 0, v)
abbrev oI (r : RST) (v : Int32) : Option SOUT := some (r.1, r.2.2.1, r.2.2.2.1, r.2.2.2.2, 1, v)
def sIf (V : ENV) (r : RST) (v : Int32) : Nat → Nat → Option SOUT
  | 0, i => if (i : Int) < (kf V.1 6 v).toInt then oI r (kC V.1 v i) else oBe r v
  | n + 1, i => if (i : Int) + 1 < (kf V.1 6 v).toInt then (pNo (EVL V r (kC V.1 v i))).bind fun w => if wN w = 0 then sIf V r v n (i + 2) else oI r (kC V.1 v (i + 1)) else if (i : Int) < (kf V.1 6 v).toInt then oI r (kC V.1 v i) else oBe r v
def caI (V : ENV) (r : RST) (w : WD) (l : Int32) : Nat → Nat → Option Bool
  | 0, _ => some false
  | n + 1, j => if (j : Int) < (kf V.1 6 l).toInt then if kf V.1 0 (kC V.1 l j) = 37 then some true else (EVL V r (kC V.1 l j)).bind fun u => if pUnlike w u = 0 then if pSame w u = true then some true else caI V r w l n (j + 1) else none else some false
def caO (V : ENV) (r : RST) (w : WD) (v : Int32) : Nat → Nat → Option SOUT
  | 0, _ => none
  | n + 1, i => if (i : Int) < (kf V.1 6 v).toInt then (caI V r w (kC V.1 (kC V.1 v i) 0) (kf V.1 6 (kC V.1 (kC V.1 v i) 0)).toInt.toNat 0).bind fun b => if b = true then oI r (kC V.1 (kC V.1 v i) 1) else caO V r w v n (i + 1) else none
def sCase (V : ENV) (r : RST) (v : Int32) : Option SOUT := (EVL V r (kC V.1 v 0)).bind fun w => caO V r w v (kf V.1 6 v).toInt.toNat 1
section Wg
variable {lim : Nat × Nat} {d x : Nat} {L : LAY} {V : ENV} {c : SCR} {r : RST} {h h' h0 : ah_H} {w : WD} {v k y z : Int32} {kS kV : Nat → Int32 × Int32} {Φ : ah_R → Prop}
theorem po_m (P : PO V.1) (C : CM x L V c r h) (hv : rgN V.1 v) : 0 ≤ (kf V.1 6 v).toInt ∧ (kf V.1 6 v).toInt ≤ 4000 := by
  obtain ⟨A, Ls, cc, kt, a1, a2, a3, a4⟩ := CM_n C
  obtain ⟨-, ka, -, k1, k2, -⟩ := a4 v.toInt.toNat (by have := hv.1; have := hv.2; omega)
  have := (a3 7 (by omega)).2.1
  exact ⟨(P.2 v hv).1, by have : (V.1.2.1 6 v.toInt.toNat).toInt = (kf V.1 6 v).toInt := rfl; omega⟩
theorem m_if_l (hM : 0 ≤ (kf V.1 6 v).toInt ∧ (kf V.1 6 v).toInt ≤ 4000) (P : PO V.1) (HG : GT V.1) (hv : rgN V.1 v) (hx : ∀ i : Nat, i % 2 = 0 → (i : Int) + 1 < (kf V.1 6 v).toInt → gXV V kS kV (kC V.1 v i)) : ∀ (n i : Nat) (ii : Int32) (h : ah_H) (c : SCR), ii.toInt = i → i % 2 = 0 → (i : Int) ≤ (kf V.1 6 v).toInt → (kf V.1 6 v).toInt ≤ i + n → CM x L V c r h → GM x L V.2.2.2 h0 h → wq (ah_val lim ah_P (d + 5) 216 12 [some (aR (x + 530)), some (aR L.1), some (aI v), some (aI (kf V.1 6 v)), some (aI ii)] [] h) (rI (goM x L V r (sIf V r v n i) h0)) := by
  obtain ⟨m0, m1⟩ := hM
  have e1 : (1 : Int32).toInt = 1 := rfl
  have e2 : (2 : Int32).toInt = 2 := rfl
  intro n
  induction n with
  | zero =>
    intro i ii h c hi ev hl hn C G
    have ea : (ii + 1).toInt = ii.toInt + 1 := by rw [ad_i (by omega) (by omega), e1]
    refine wq_eq q_216_12 (wq_f (fun q => by have := lt_i q; omega) (wq_f (by decide) (wq_t ((par_0 m0 (by omega)).mpr (by omega)) (ps_b HG C G ?_))))
    exact if_neg (by omega)
  | succ n ih =>
    intro i ii h c hi ev hl hn C G
    have ea : (ii + 1).toInt = ii.toInt + 1 := by rw [ad_i (by omega) (by omega), e1]
    have eb : (ii + 2).toInt = ii.toInt + 2 := by rw [ad_i (by omega) (by omega), e2]
    refine wq_eq q_216_12 (wq_if _ (fun q => ?_) (fun q => ?_))
    · have q1 := lt_i q
      have q2 : (i : Int) + 1 < (kf V.1 6 v).toInt := by omega
      have es : sIf V r v (n + 1) i = (pNo (EVL V r (kC V.1 v i))).bind fun w => if wN w = 0 then sIf V r v n (i + 2) else oI r (kC V.1 v (i + 1)) := if_pos q2
      have ek : xCh V.1 v ii = kC V.1 v i := xC_k hv hi (by omega)
      refine rk_fnum P C (by rw [ek]; exact hx i ev q2) (fun e h1 q => ?_) (fun w S h1 e C1 s0 G1 => ?_)
      · rw [ek] at e
        exact ps_0 (by rw [es, e]; rfl) (FA_tr (c1 := c) G q)
      · rw [ek] at e
        refine m_num C1 s0 (wq_if _ (fun c0 => ?_) (fun c0 => ?_))
        · rw [lg_eq] at c0
          rw [es, e, show (some w).bind (fun w => if wN w = 0 then sIf V r v n (i + 2) else oI r (kC V.1 v (i + 1))) = sIf V r v n (i + 2) from if_pos c0]
          exact ih (i + 2) (ii + 2) h1 _ (by omega) (by omega) (by omega) (by omega) C1 (GM_tr G G1)
        · rw [lg_eq] at c0
          refine rk_nd C1 (rk_k (n := i + 1) C1 hv (by omega) (by omega) (ps_i HG C1 (GM_tr G G1) ?_))
          rw [es, e]
          exact if_neg c0
    · have q1 := nlt_i q
      have q2 : ¬ (i : Int) + 1 < (kf V.1 6 v).toInt := by omega
      have es : sIf V r v (n + 1) i = if (i : Int) < (kf V.1 6 v).toInt then oI r (kC V.1 v i) else oBe r v := if_neg q2
      refine wq_f (by decide) (wq_if _ (fun c0 => ?_) (fun c0 => ?_))
      · rw [par_0 m0 (by omega)] at c0
        exact ps_b HG C G (es.trans (if_neg (by omega)))
      · rw [par_0 m0 (by omega)] at c0
        have em : (kf V.1 6 v - 1).toInt = (kf V.1 6 v).toInt - 1 := by rw [sb_i (by omega) (by omega), e1]
        exact rk_nd C (rk_k (n := i) C hv (by omega) (by omega) (ps_i HG C G (es.trans (if_pos (by omega)))))
theorem m_if (P : PO V.1) (HG : GT V.1) (C : CM x L V c r h) (hv : rgN V.1 v) (hx : ∀ i : Nat, i % 2 = 0 → (i : Int) + 1 < (kf V.1 6 v).toInt → gXV V kS kV (kC V.1 v i)) : wq (vc lim (d + 6) m_Runner_choose [aR (x + 530), aR L.1, aI v] h) (rI (goM x L V r (sIf V r v (kf V.1 6 v).toInt.toNat 0) h)) := by
  have hM := po_m P C hv
  obtain ⟨m0, m1⟩ := po_m P C hv
  refine wq_eq e_Runner_choose (rk_nd C (rk_kids C ?_))
  rw [xM_r hv]
  exact m_if_l hM P HG hv hx _ 0 0 h c rfl rfl (by omega) (by omega) C GM_0
/-- two values that are compared -/
theorem rk_two {Ki : Int32 → ah_H → Option ah_R} {mth : Nat} {P : Int32 → Prop} {h1 : ah_H} (C : CM x L V c r h) (hu : c.1 0 = w) (hc : ∀ e1 : h.1 (x + 637) = some (1, dW c.2.1), h.1 (x + 533 + 0) = some (1, dW w) → wq (vc lim (d + 1) mth [aR (x + 637), aR (x + 533 + 0)] h) (rI fun y h' => h' = h ∧ P y)) (k : ∀ y, P y → wq (Ki y h) Φ) : wq (ah_gR h (some (x + 530)) 6 3 fun r18 => ah_gR h (some (x + 530)) 6 2 fun r19 => ah_at h r19 2 fun _ _ => ah_cR (vc lim (d + 1) 135 [.inr (.inr r19)] h) (nx h1) fun r21 h20 => ah_at h20 r18 1 fun _ _ => ah_cI (vc lim (d + 1) mth [.inr (.inr r18), .inr (.inr r21)] h20) (nx h20) Ki) Φ := by
  have rc := CM_rc C
  have ch := C.2.1.2.1
  obtain ⟨vs, ef⟩ := CM_f2 C
  obtain ⟨⟨t, F⟩, -⟩ := C
  have e0 := F.2.2.1 0 (by omega)
  rw [hu] at e0
  refine wq_gR rc rfl (wq_gR rc rfl (wq_at ef (wq_cR (c_found F) ?_)))
  rintro _ _ ⟨rfl, rfl⟩
  refine wq_at ch (wq_cI (hc ch e0) ?_)
  rintro y _ ⟨rfl, py⟩
  exact k y py
theorem m_ca_i {o : Option SOUT} {l ch vi : Int32} (hM : 0 ≤ (kf V.1 6 l).toInt ∧ (kf V.1 6 l).toInt ≤ 4000) (P : PO V.1) (HG : GT V.1) (hl : rgN V.1 l) (hch : rgN V.1 ch) (h2 : kf V.1 6 ch = 2) (hx : ∀ j : Nat, (j : Int) < (kf V.1 6 l).toInt → kf V.1 0 (kC V.1 l j) = 37 ∨ gXV V kS kV (kC V.1 l j)) : ∀ (n j : Nat) (jj : Int32) (h : ah_H) (c : SCR), jj.toInt = j → (j : Int) ≤ (kf V.1 6 l).toInt → (kf V.1 6 l).toInt ≤ j + n → c.2.1 = w → CM x L V c r h → GM x L V.2.2.2 h0 h → (caI V r w l n j = none → o = none) → (caI V r w l n j = some true → o = oI r (kC V.1 ch 1)) → (caI V r w l n j = some false → ∀ h c, c.2.1 = w → CM x L V c r h → GM x L V.2.2.2 h0 h → wq (ah_val lim ah_P (d + 5) 217 38 [some (aR (x + 530)), some (aR L.1), some (aI v), some (aI (vi + 1)), none, none, none, none, none] [] h) (rI (goM x L V r o h0))) → wq (ah_val lim ah_P (d + 5) 217 76 [some (aR (x + 530)), some (aR L.1), some (aI v), some (aI vi), some (aI ch), some (aI l), some (aI jj), none, none] [] h) (rI (goM x L V r o h0)) := by
  obtain ⟨m0, m1⟩ := hM
  have e1 : (1 : Int32).toInt = 1 := rfl
  intro n
  induction n with
  | zero =>
    intro j jj h c hj hle hn hw C G oN oT oF
    refine wq_eq q_217_76 (rk_nd C (rk_kids C ?_))
    rw [xM_r hl]
    exact wq_f (fun q => by have := lt_i q; omega) (oF rfl h c hw C G)
  | succ n ih =>
    intro j jj h c hj hle hn hw C G oN oT oF
    have ea : (jj + 1).toInt = jj.toInt + 1 := by rw [ad_i (by omega) (by omega), e1]
    refine wq_eq q_217_76 (rk_nd C (rk_kids C ?_))
    rw [xM_r hl]
    refine wq_if _ (fun q => ?_) (fun q => ?_)
    · have q1 := lt_i q
      have q2 : (j : Int) < (kf V.1 6 l).toInt := by omega
      have es : caI V r w l (n + 1) j = if kf V.1 0 (kC V.1 l j) = 37 then some true else (EVL V r (kC V.1 l j)).bind fun u => if pUnlike w u = 0 then if pSame w u = true then some true else caI V r w l n (j + 1) else none := if_pos q2
      refine rk_nd C (rk_k (n := j) C hl hj q2 (rk_nd C (rk_kind C ?_)))
      rw [xK_r (po_k P hl q2).1]
      refine wq_if _ (fun c37 => ?_) (fun c37 => ?_)
      · exact rk_nd C (rk_k (n := 1) C hch rfl (by rw [h2]; decide) (ps_i HG C G (oT (es.trans (if_pos c37)))))
      · rw [if_neg c37] at es
        have g := (hx j q2).resolve_left c37
        refine rk_fd C (rk_find P C g (fun e h1 q => ?_) (fun u S h1 e C1 s0 G1 => ?_))
        · exact ps_0 (oN (by rw [es, e]; rfl)) (FA_tr (c1 := c) G q)
        · have es : caI V r w l (n + 1) j = if pUnlike w u = 0 then if pSame w u = true then some true else caI V r w l n (j + 1) else none := by rw [es, e]; rfl
          refine rk_two (P := fun y => y = pUnlike w u) C1 s0 (fun e1 e2 => by rw [show (S, c.2).2.1 = w from hw] at e1; exact c_unlike e1 e2) ?_
          rintro _ rfl
          refine wq_if _ (fun c0 => ?_) (fun c0 => ?_)
          · rw [if_pos c0] at es
            refine rk_two (P := fun y => y = bI (pSame w u)) C1 s0 (fun e1 e2 => by rw [show (S, c.2).2.1 = w from hw] at e1; exact c_isSame e1 e2) ?_
            rintro _ rfl
            by_cases cs : pSame w u = true
            · rw [if_pos cs] at es
              rw [cs]
              exact wq_f (by decide) (rk_nd C1 (rk_k (n := 1) C1 hch rfl (by rw [h2]; decide) (ps_i HG C1 (GM_tr G G1) (oT es))))
            · rw [if_neg cs] at es
              rw [(Bool.not_eq_true _).mp cs]
              refine wq_t rfl (ih (j + 1) (jj + 1) h1 (S, c.2) (by omega) (by omega) (by omega) hw C1 (GM_tr G G1) (fun q => oN (es.trans q)) (fun q => oT (es.trans q)) (fun q => oF (es.trans q)))
          · rw [if_neg c0] at es
            exact ps_f C1 (GM_tr G G1) (oN es)
    · have q1 := nlt_i q
      exact oF (if_neg (by omega)) h c hw C G
theorem m_ca_o (hM : 0 ≤ (kf V.1 6 v).toInt ∧ (kf V.1 6 v).toInt ≤ 4000) (P : PO V.1) (HG : GT V.1) (hv : rgN V.1 v) (hx : ∀ i : Nat, 1 ≤ i → (i : Int) < (kf V.1 6 v).toInt → kf V.1 6 (kC V.1 v i) = 2 ∧ ∀ j : Nat, (j : Int) < (kf V.1 6 (kC V.1 (kC V.1 v i) 0)).toInt → kf V.1 0 (kC V.1 (kC V.1 (kC V.1 v i) 0) j) = 37 ∨ gXV V kS kV (kC V.1 (kC V.1 (kC V.1 v i) 0) j)) : ∀ (n i : Nat) (ii : Int32) (h : ah_H) (c : SCR), ii.toInt = i → 1 ≤ i → (kf V.1 6 v).toInt ≤ i + n → c.2.1 = w → CM x L V c r h → GM x L V.2.2.2 h0 h → wq (ah_val lim ah_P (d + 5) 217 38 [some (aR (x + 530)), some (aR L.1), some (aI v), some (aI ii), none, none, none, none, none] [] h) (rI (goM x L V r (caO V r w v n i) h0)) := by
  obtain ⟨m0, m1⟩ := hM
  have e1 : (1 : Int32).toInt = 1 := rfl
  intro n
  induction n with
  | zero =>
    intro i ii h c hi hl hn hw C G
    refine wq_eq q_217_38 (rk_nd C (rk_kids C ?_))
    rw [xM_r hv]
    exact wq_f (fun q => by have := lt_i q; omega) (ps_f C G rfl)
  | succ n ih =>
    intro i ii h c hi hl hn hw C G
    refine wq_eq q_217_38 (rk_nd C (rk_kids C ?_))
    rw [xM_r hv]
    refine wq_if _ (fun q => ?_) (fun q => ?_)
    · have q1 := lt_i q
      have q2 : (i : Int) < (kf V.1 6 v).toInt := by omega
      have ea : (ii + 1).toInt = ii.toInt + 1 := by rw [ad_i (by omega) (by omega), e1]
      have es : caO V r w v (n + 1) i = (caI V r w (kC V.1 (kC V.1 v i) 0) (kf V.1 6 (kC V.1 (kC V.1 v i) 0)).toInt.toNat 0).bind fun b => if b = true then oI r (kC V.1 (kC V.1 v i) 1) else caO V r w v n (i + 1) := if_pos q2
      obtain ⟨x1, x2⟩ := hx i hl q2
      have hc := (po_k P hv q2).1
      have hcl := (po_k P hc (i := 0) (by rw [x1]; decide)).1
      have hL := po_m P C hcl
      obtain ⟨l0, l1⟩ := hL
      refine rk_nd C (rk_k (n := i) C hv hi q2 (rk_nd C (rk_k (n := 0) C hc rfl (by rw [x1]; decide) ?_)))
      refine m_ca_i ⟨l0, l1⟩ P HG hcl hc x1 x2 (kf V.1 6 (kC V.1 (kC V.1 v i) 0)).toInt.toNat 0 0 h c rfl (by omega) (by omega) hw C G (fun q => by rw [es, q]; rfl) (fun q => by rw [es, q]; rfl) (fun q h1 c1 hw1 C1 G1 => ?_)
      rw [es, q]
      exact ih (i + 1) (ii + 1) h1 c1 (by omega) (by omega) (by omega) hw1 C1 G1
    · have q1 := nlt_i q
      exact ps_f C G (if_neg (by omega))
theorem m_case (P : PO V.1) (HG : GT V.1) (C : CM x L V c r h) (hv : rgN V.1 v) (h1 : 1 ≤ (kf V.1 6 v).toInt) (g : gXV V kS kV (kC V.1 v 0)) (hx : ∀ i : Nat, 1 ≤ i → (i : Int) < (kf V.1 6 v).toInt → kf V.1 6 (kC V.1 v i) = 2 ∧ ∀ j : Nat, (j : Int) < (kf V.1 6 (kC V.1 (kC V.1 v i) 0)).toInt → kf V.1 0 (kC V.1 (kC V.1 (kC V.1 v i) 0) j) = 37 ∨ gXV V kS kV (kC V.1 (kC V.1 (kC V.1 v i) 0) j)) : wq (vc lim (d + 6) m_Runner_compare [aR (x + 530), aR L.1, aI v] h) (rI (goM x L V r (sCase V r v) h)) := by
  have hM := po_m P C hv
  obtain ⟨m0, m1⟩ := hM
  refine wq_eq e_Runner_compare (rk_fd C (rk_nd C (rk_k (n := 0) C hv rfl (by omega) (rk_find P C g (fun e h1 q => ?_) (fun w S h1 e C1 s0 G1 => ?_)))))
  · exact ps_0 (by unfold sCase; rw [e]; rfl) q
  · have rc := CM_rc C1
    have ch := C1.2.1.2.1
    obtain ⟨vs, ef⟩ := CM_f2 C1
    have C1' := C1
    obtain ⟨⟨t, F⟩, -⟩ := C1'
    have e0 := F.2.2.1 0 (by omega)
    rw [show (S, c.2).1 0 = w from s0] at e0
    refine wq_gR rc rfl (wq_gR rc rfl (wq_at ef (wq_cR (c_found F) ?_)))
    rintro _ _ ⟨rfl, rfl⟩
    refine wq_at ch (wq_cV (c_copy ch e0 (by show x + 533 + 0 ≠ x + 637; omega)) fun h2 u2 => ?_)
    obtain ⟨C2, G2⟩ := CM_ch (nV := V.2.2.2) C1 u2
    rw [show sCase V r v = caO V r w v (kf V.1 6 v).toInt.toNat 1 by unfold sCase; rw [e]; rfl]
    exact m_ca_o ⟨m0, m1⟩ P HG hv hx _ 1 1 h2 _ rfl (by omega) (by omega) rfl C2 (GM_tr G1 G2)
end Wg
