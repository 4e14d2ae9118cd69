/-! THE RUNNER: ASSIGN -/
def pWave (V : ENV) (r : RST) (s : TS) (k m e : Int32) : Option (WD × Int64) := (EVL V r (kC V.1 e 0)).bind fun w => if pFit w s k m = true then (EVL V r (kC V.1 e 1)).bind fun t => some (w, wN t) else none
def waL (V : ENV) (r : RST) (s : TS) (k m v : Int32) (fr : Nat) : Nat → Nat → (Nat → WD) → (Nat → Int64) → Option ((Nat → WD) × (Nat → Int64))
  | 0, _, a, b => some (a, b)
  | n + 1, i, a, b => (pWave V r s k m (kC V.1 v (fr + i))).bind fun q => waL V r s k m v fr n (i + 1) (upS a i q.1) (upS b i q.2)
abbrev pRise (l : Int64) (b : Nat → Int64) (n : Nat) : Prop := (∀ j, j < n → 1 ≤ j → ¬ b j ≤ b (j - 1)) ∧ l ≤ b 0
def tvL (a : Nat → WD) (b : Nat → Int64) : Nat → Nat → TD → TD
  | 0, _, t => t
  | n + 1, i, t => tvL a b n (i + 1) (tVal t (a i) (b i))
def asF (V : ENV) (v : Int32) : Nat := if kf V.1 1 v = 2 then 2 else 1
def asN (V : ENV) (v : Int32) : Nat := (kf V.1 6 v).toInt.toNat - asF V v
def asL (V : ENV) (r : RST) (v : Int32) : Option Int64 := if kf V.1 1 v = 2 then (EVL V r (kC V.1 v 1)).map fun w => wN w else some 0
abbrev w00 : WD := (0, 0, 0, 0, 0, 0, 0)
def sAssign (V : ENV) (r : RST) (v : Int32) : Option SOUT := (pAim V r (kC V.1 v 0)).bind fun q => (asL V r v).bind fun l => (waL V r (thS V r (ofT V.1 (kC V.1 v 0))) q.1 q.2.2 v (asF V v) (asN V v) 0 (fun _ => w00) (fun _ => 0)).bind fun ab => if pRise l ab.2 (asN V v) ∧ r.2.2.2.2.1 < 200 ∧ r.2.2.2.2.2.1 + asN V v ≤ 500 then some (r.1, r.2.2.1, r.2.2.2.1, tvL ab.1 ab.2 (asN V v) 0 (tAct r.2.2.2.2 0 (kf V.1 1 (ofT V.1 (kC V.1 v 0))) q.2.1 q.2.2 (kf V.1 1 v) (Nat.toInt32 r.2.2.2.2.2.1) l), 0, v) else none
def wvM (x : Nat) (L : LAY) (V : ENV) (c : SCR) (r : RST) (i : Nat) (o : Option (WD × Int64)) (h : ah_H) (y : Int32) (h' : ah_H) : Prop := match o with
  | some q => y = 1 ∧ ∃ S : Nat → WD, CM x L V (S, c.2.1, upS c.2.2.1 i q.1, upS c.2.2.2.1 i q.2, c.2.2.2.2) r h' ∧ GM x L V.2.2.2 h h'
  | none => y = 0 ∧ FA x L V r h h'
section Wi
variable {lim : Nat × Nat} {d x : Nat} {L : LAY} {V : ENV} {c : SCR} {r : RST} {h h' h0 : ah_H} {w : WD} {v k y z : Int32} {kS kV : Nat → Int32 × Int32} {Φ : ah_R → Prop}
theorem m_wave {a i : Nat} {s : TS} {e ii : Int32} (P : PO V.1) (C : CM x L V c r h) (ht : c.2.2.2.2.1 = some a) (T : ∀ (c : SCR) (h : ah_H), CM x L V c r h → TC a s h) (hi : ii.toInt = i) (h16 : i < 16) (he : rgN V.1 e) (hm : kf V.1 6 e = 2) (g0 : gXV V kS kV (kC V.1 e 0)) (g1 : gXV V kS kV (kC V.1 e 1)) : wq (vc lim (d + 5) m_Runner_findWave [aR (x + 530), aR L.1, aI e, aI ii] h) (rI (wvM x L V c r i (pWave V r s c.2.2.2.2.2.2.1 c.2.2.2.2.2.2.2.2 e) h)) := by
  have en : ¬ ii < 0 := fun q => by
    have := lt_i q
    have : (0 : Int32).toInt = 0 := rfl
    omega
  refine wq_eq e_Runner_findWave (wq_f en (wq_gR (CM_rc C) rfl (wq_len C.2.1.2.2.1 (by omega) (wq_t ?_ (rk_fd C (rk_nd C (rk_k (n := 0) C he rfl (by rw [hm]; decide) (rk_find P C g0 (fun e0 h1 q => ?_) (fun w S h1 e0 C1 s0 G1 => ?_)))))))))
  · rw [Int32.lt_iff_toInt_lt, List.length_map, List.length_range, hi]
    show (i : Int) < 16
    omega
  · refine wq_t (Or.inl rfl) (wq_some (rI_i ?_))
    unfold pWave
    rw [e0]
    exact ⟨rfl, q⟩
  · have es : pWave V r s c.2.2.2.2.2.2.1 c.2.2.2.2.2.2.2.2 e = if pFit w s c.2.2.2.2.2.2.1 c.2.2.2.2.2.2.2.2 = true then (EVL V r (kC V.1 e 1)).bind fun t => some (w, wN t) else none := by
      unfold pWave
      rw [e0]
      rfl
    refine wq_at (CM_rc C1) (wq_cI (m_unfit C1 s0 ht (T _ _ C1)) ?_)
    rintro y2 h3 ⟨eh, ey⟩
    subst eh
    have ey' : y2 = 0 ↔ pFit w s c.2.2.2.2.2.2.1 c.2.2.2.2.2.2.2.2 = true := ey
    by_cases cf : pFit w s c.2.2.2.2.2.2.1 c.2.2.2.2.2.2.2.2 = true
    · rw [if_pos cf] at es
      obtain ⟨vf, ef⟩ := CM_f2 C1
      have C1' := C1
      obtain ⟨⟨t2, F2⟩, -⟩ := C1'
      have f0 := F2.2.2.1 0 (by omega)
      rw [show (S, c.2).1 0 = w from s0] at f0
      have wr := C1.2.1.2.2.1
      have wv := C1.2.1.2.2.2.1 i h16
      refine wq_t (ey'.mpr cf) (wq_gR (CM_rc C1) rfl (wq_lR wr (by omega) en (r := some (x + 639 + i)) ?_ (wq_gR (CM_rc C1) rfl (wq_at ef (wq_cR (c_found F2) ?_)))))
      · show ((List.range 16).map fun i => aR (x + 639 + i))[ii.toInt.toNat]? = _
        rw [show ii.toInt.toNat = i by omega, List.getElem?_map, List.getElem?_range h16]
        rfl
      rintro _ h4 ⟨eh, rfl⟩
      subst eh
      refine wq_at wv (wq_cV (c_copy wv f0 (by show x + 533 + 0 ≠ x + 639 + i; omega)) fun h5 u5 => ?_)
      obtain ⟨C5, G5⟩ := CM_ww (nV := V.2.2.2) h16 C1 u5
      refine rk_fd C5 (rk_nd C5 (rk_k (n := 1) C5 he rfl (by rw [hm]; decide) (rk_find P C5 g1 (fun e1 h1 q => ?_) (fun t S6 h6 e1 C6 s6 G6 => ?_))))
      · refine wq_t (Or.inl rfl) (wq_some (rI_i ?_))
        rw [es, e1]
        exact ⟨rfl, FA_tr (c1 := c) (GM_tr G1 G5) q⟩
      · have wd := C6.2.1.2.2.2.2
        refine wq_gR (CM_rc C6) rfl (m_num C6 s6 (wq_sI wd en (by rw [cn_len]; exact ix_lt (by omega) (by omega)) (wq_t (by decide) (wq_some (rI_i ?_)))))
        rw [es, e1]
        obtain ⟨C7, G7⟩ := CM_wl (nV := V.2.2.2) (l := upS c.2.2.2.1 i (wN t)) (h' := ah_up h6 (x + 655) (101, (cnA 16 c.2.2.2.1).set ii.toNatClampNeg (aJ (wN t)))) C6 ⟨by
          rw [up_eq]
          show some (101, (cnA 16 c.2.2.2.1).set ii.toInt.toNat (aJ (wN t))) = _
          rw [cn_set, show ii.toInt.toNat = i by omega], fun q hq => up_ne hq rfl, rfl, rfl⟩
        exact ⟨rfl, S6, C7, GM_tr G1 (GM_tr G5 (GM_tr G6 G7))⟩
    · rw [if_neg cf] at es
      refine wq_f (fun q => cf (ey'.mp q)) (rk_fail C1 fun h5 q => wq_t (Or.inl rfl) (wq_some (rI_i ?_)))
      rw [es]
      exact ⟨rfl, FA_tr (c1 := c) G1 q⟩
theorem m_rise_l {b : Nat → Int64} {l : Int64} {n : Nat} {nn : Int32} (hn : nn.toInt = n) (h16 : n ≤ 16) (h1n : 1 ≤ n) (C : CM x L V c r h) (hb : ∀ j, j < n → c.2.2.2.1 j = b j) : ∀ (m i : Nat) (ii : Int32), ii.toInt = i → 1 ≤ i → n ≤ i + m → i ≤ n → (∀ j, 1 ≤ j → j < i → ¬ b j ≤ b (j - 1)) → wq (ah_val lim ah_P d 214 3 [some (aR (x + 530)), some (aJ l), none, some (aI nn), some (aI ii)] [] h) (rI fun y h' => h' = h ∧ ((y = 0 ∧ ¬ pRise l b n) ∨ (y = 1 ∧ pRise l b n))) := by
  have rc := CM_rc C
  have wd := C.2.1.2.2.2.2
  have rd : ∀ (j : Nat) (jj : Int32), jj.toInt = j → j < n → (cnA 16 c.2.2.2.1)[jj.toNatClampNeg]? = some (aJ (b j)) := fun j jj hj hl => by
    show (cnA 16 c.2.2.2.1)[jj.toInt.toNat]? = _
    rw [show jj.toInt.toNat = j by omega, cn_get (by omega), hb j hl]
  have e1 : (1 : Int32).toInt = 1 := rfl
  have z0 : (0 : Int32).toInt = 0 := rfl
  have fin : (∀ j, 1 ≤ j → j < n → ¬ b j ≤ b (j - 1)) → wq (ah_gR h (some (x + 530)) 6 5 fun r7 => ah_lJ h r7 101 (0 : Int32) fun e8 => if (lg_cmp l e8) ≤ 0 then if (1 : Int32) = 0 ∨ (1 : Int32) = 1 then some ((.inl (some (.inl (1 : Int32))), h) : ah_R) else none else if (0 : Int32) = 0 ∨ (0 : Int32) = 1 then some (.inl (some (.inl (0 : Int32))), h) else none) (rI fun y h' => h' = h ∧ ((y = 0 ∧ ¬ pRise l b n) ∨ (y = 1 ∧ pRise l b n))) := fun q => by
    refine wq_gR rc rfl (wq_lJ wd (by decide) (rd 0 0 rfl (by omega)) (wq_if _ (fun c0 => ?_) (fun c0 => ?_)))
    · rw [lgv_le] at c0
      exact wq_t (by decide) (wq_some (rI_i ⟨rfl, Or.inr ⟨rfl, fun j j2 j1 => q j j1 j2, c0⟩⟩))
    · rw [lgv_le] at c0
      exact wq_t (by decide) (wq_some (rI_i ⟨rfl, Or.inl ⟨rfl, fun p => c0 p.2⟩⟩))
  intro m
  induction m with
  | zero =>
    intro i ii hi h1 hm hl q
    exact wq_eq q_214_3 (wq_f (fun p => by have := lt_i p; omega) (fin (fun j j1 j2 => q j j1 (by omega))))
  | succ m ih =>
    intro i ii hi h1 hm hl q
    refine wq_eq q_214_3 (wq_if _ (fun p => ?_) (fun p => ?_))
    · have p1 := lt_i p
      have ea : (ii + 1).toInt = ii.toInt + 1 := by rw [ad_i (by omega) (by omega), e1]
      have eb : (ii - 1).toInt = ii.toInt - 1 := by rw [sb_i (by omega) (by omega), e1]
      have en : ∀ jj : Int32, 0 ≤ jj.toInt → ¬ jj < 0 := fun jj hj q => by have := lt_i q; omega
      refine wq_gR rc rfl (wq_len wd (by omega) (wq_t ?_ (wq_gR rc rfl (wq_lJ wd (en _ (by omega)) (rd i ii hi (by omega)) (wq_gR rc rfl (wq_lJ wd (en _ (by omega)) (rd (i - 1) (ii - 1) (by omega) (by omega)) (wq_if _ (fun c0 => ?_) (fun c0 => ?_))))))))
      · rw [Int32.lt_iff_toInt_lt, cn_len, hi]
        show (i : Int) < 16
        omega
      · rw [lgv_le] at c0
        exact wq_t (by decide) (wq_some (rI_i ⟨rfl, Or.inl ⟨rfl, fun p => p.1 i (by omega) h1 c0⟩⟩))
      · rw [lgv_le] at c0
        refine ih (i + 1) (ii + 1) (by omega) (by omega) (by omega) (by omega) (fun j j1 j2 => ?_)
        by_cases e : j = i
        · rw [e]
          exact c0
        · exact q j j1 (by omega)
    · have p1 := nlt_i p
      exact fin (fun j j1 j2 => q j j1 (by omega))
theorem m_tellv {a : Nat → WD} {b : Nat → Int64} {o : Option SOUT} {n : Nat} {nn : Int32} (HG : GT V.1) (hn : nn.toInt = n) (h16 : n ≤ 16) : ∀ (m i : Nat) (ii : Int32) (h : ah_H) (c : SCR) (t : TD), ii.toInt = i → i + m = n → 1 ≤ t.1 → t.2.1 + m ≤ 500 → (∀ j, j < n → c.2.2.1 j = a j ∧ c.2.2.2.1 j = b j) → CM x L V c (r.1, r.2.1, r.2.2.1, r.2.2.2.1, t) h → GM x L V.2.2.2 h0 h → o = some (r.1, r.2.2.1, r.2.2.2.1, tvL a b m i t, 0, v) → wq (ah_val lim ah_P (d + 5) 210 199 [some (aR (x + 530)), some (aR L.1), some (aI v), none, none, none, some (aI nn), none, none, some (aI ii)] [] h) (rI (goM x L V r o h0)) := by
  have e1 : (1 : Int32).toInt = 1 := rfl
  have z0 : (0 : Int32).toInt = 0 := rfl
  intro m
  induction m with
  | zero =>
    intro i ii h c t hi hm t1 t2 hab C G ho
    exact wq_eq q_210_199 (wq_f (fun q => by have := lt_i q; omega) (ps_b HG C G ho))
  | succ m ih =>
    intro i ii h c t hi hm t1 t2 hab C G ho
    have ea : (ii + 1).toInt = ii.toInt + 1 := by rw [ad_i (by omega) (by omega), e1]
    have en : ¬ ii < 0 := fun q => by have := lt_i q; omega
    obtain ⟨ha, hb⟩ := hab i (by omega)
    have wv := C.2.1.2.2.2.1 i (by omega)
    rw [ha] at wv
    have O := C.2.2.2.1
    refine wq_eq q_210_199 (wq_t (Int32.lt_iff_toInt_lt.mpr (by omega)) (wq_gR (CM_rc C) rfl (wq_gR (CM_rc C) rfl (wq_lR C.2.1.2.2.1 (by omega) en (r := some (x + 639 + i)) ?_ (wq_gR (CM_rc C) rfl (wq_lJ C.2.1.2.2.2.2 en (y := b i) ?_ (tr_at O fun _ => wq_cV (c_tellValue O t1 (by show t.2.1 < 500; omega) wv (by omega)) ?_)))))))
    · show ((List.range 16).map fun i => aR (x + 639 + i))[ii.toInt.toNat]? = _
      rw [show ii.toInt.toNat = i by omega, List.getElem?_map, List.getElem?_range (by omega)]
      rfl
    · show (cnA 16 c.2.2.2.1)[ii.toInt.toNat]? = _
      rw [show ii.toInt.toNat = i by omega, cn_get (by omega), hb]
    · rintro h1 ⟨O1, F1⟩
      obtain ⟨C1, G1⟩ := CM_to (nV := V.2.2.2) C O1 F1
      exact ih (i + 1) (ii + 1) h1 c (tVal t (a i) (b i)) (by omega) (by omega) t1 (by show t.2.1 + 1 + m ≤ 500; omega) hab C1 (GM_tr G G1) ho
theorem m_waves {a n fr : Nat} {s : TS} {lm : Int64} {fi nn g kk ff mm : Int32} {o : Option SOUT} (P : PO V.1) (HG : GT V.1) (hv : rgN V.1 v) (T : ∀ (c : SCR) (h : ah_H), CM x L V c r h → TC a s h) (hn : nn.toInt = n) (h16 : n ≤ 16) (h1n : 1 ≤ n) (hfi : fi.toInt = fr) (hM : (fr : Int) + n ≤ (kf V.1 6 v).toInt) (hf2 : fr ≤ 2) (hx : ∀ i, fr ≤ i → i < fr + n → kf V.1 6 (kC V.1 v i) = 2 ∧ gXV V kS kV (kC V.1 (kC V.1 v i) 0) ∧ gXV V kS kV (kC V.1 (kC V.1 v i) 1)) : ∀ (m i : Nat) (ii : Int32) (h : ah_H) (c : SCR) (A : Nat → WD) (B : Nat → Int64), ii.toInt = i → i + m = n → c.2.2.2.2 = (some a, g, kk, ff, mm) → (∀ j, j < i → c.2.2.1 j = A j ∧ c.2.2.2.1 j = B j) → CM x L V c r h → GM x L V.2.2.2 h0 h → (waL V r s kk mm v fr m i A B = none → o = none) → (∀ ab, waL V r s kk mm v fr m i A B = some ab → o = if pRise lm ab.2 n ∧ r.2.2.2.2.1 < 200 ∧ r.2.2.2.2.2.1 + n ≤ 500 then some (r.1, r.2.2.1, r.2.2.2.1, tvL ab.1 ab.2 n 0 (tAct r.2.2.2.2 0 g ff mm (kf V.1 1 v) (Nat.toInt32 r.2.2.2.2.2.1) lm), 0, v) else none) → wq (ah_val lim ah_P (d + 5) 210 99 [some (aR (x + 530)), some (aR L.1), some (aI v), some (aR L.2.1), some (aI (kf V.1 1 v)), some (aI fi), some (aI nn), some (aJ lm), none, some (aI ii)] [] h) (rI (goM x L V r o h0)) := by
  have e1 : (1 : Int32).toInt = 1 := rfl
  have z0 : (0 : Int32).toInt = 0 := rfl
  intro m
  induction m with
  | zero =>
    intro i ii h c A B hi hm hc hab C G oN oS
    have es := oS (A, B) rfl
    have hin : i = n := by omega
    subst hin
    have O := C.2.2.2.1
    have o10 := O.2.2.2.2.2.2.2
    have rc := CM_rc C
    refine wq_eq q_210_99 (wq_f (fun q => by have := lt_i q; omega) (wq_at rc (wq_cI (P := fun y h' => h' = h ∧ ((y = 0 ∧ ¬ pRise lm B i) ∨ (y = 1 ∧ pRise lm B i))) (wq_eq e_Runner_isRising (m_rise_l hn h16 h1n C (fun j hj => (hab j hj).2) i 1 1 rfl (by omega) (by omega) (by omega) (fun j j1 j2 => by omega))) ?_)))
    rintro y1 h2 ⟨eh, hy⟩
    subst eh
    rcases hy with ⟨rfl, nr⟩ | ⟨rfl, pr⟩
    · exact wq_t rfl (ps_f C G (es.trans (if_neg (fun q => nr q.1))))
    · refine wq_f (by decide) (wq_gR rc rfl (tr_at O fun _ => wq_cI (c_hasRoom O (by omega) (by omega)) ?_))
      rintro _ h3 ⟨eh, rfl⟩
      subst eh
      by_cases cr : r.2.2.2.2.1 < 200 ∧ (r.2.2.2.2.2.1 : Int) + nn.toInt ≤ 500
      · have cr2 : r.2.2.2.2.2.1 + i ≤ 500 := by have := cr.2; omega
        rw [if_pos ⟨pr, cr.1, cr2⟩] at es
        rw [show bI (decide (r.2.2.2.2.1 < 200 ∧ (r.2.2.2.2.2.1 : Int) + nn.toInt ≤ 500)) = 1 by rw [decide_eq_true cr]; rfl]
        rw [hc] at rc
        refine wq_f (by decide) (wq_gR rc rfl (wq_gI rc rfl (wq_gI rc rfl (wq_gI rc rfl (tr_at O fun _ => wq_cV (c_tellAssign O cr.1) ?_)))))
        rintro h4 ⟨⟨t0, et, O1⟩, F1⟩
        have e0 : t0 = Nat.toInt32 r.2.2.2.2.2.1 := Int32.toInt_inj.mp (by rw [et]; exact (i32n (by omega)).symm)
        rw [e0] at O1
        obtain ⟨C1, G1⟩ := CM_to (nV := V.2.2.2) C O1 F1
        exact m_tellv HG hn h16 i 0 0 h4 c _ rfl (by omega) (Nat.succ_le_succ (Nat.zero_le _)) (by show r.2.2.2.2.2.1 + i ≤ 500; omega) hab C1 (GM_tr G G1) es
      · rw [show bI (decide (r.2.2.2.2.1 < 200 ∧ (r.2.2.2.2.2.1 : Int) + nn.toInt ≤ 500)) = 0 by rw [decide_eq_false cr]; rfl]
        exact wq_t rfl (ps_f C G (es.trans (if_neg (fun q => cr ⟨q.2.1, by have := q.2.2; omega⟩))))
  | succ m ih =>
    intro i ii h c A B hi hm hc hab C G oN oS
    have ea : (ii + 1).toInt = ii.toInt + 1 := by rw [ad_i (by omega) (by omega), e1]
    have eb : (fi + ii).toInt = ((fr + i : Nat) : Int) := by rw [ad_i (by omega) (by omega)]; omega
    obtain ⟨x1, x2, x3⟩ := hx (fr + i) (by omega) (by omega)
    have hk := (po_k P hv (i := fr + i) (by omega)).1
    have hw := m_wave (lim := lim) (d := d) (i := i) (ii := ii) (a := a) (s := s) P C (by rw [hc]) T hi (by omega) hk x1 x2 x3
    rw [show c.2.2.2.2.2.2.1 = kk by rw [hc], show c.2.2.2.2.2.2.2.2 = mm by rw [hc]] at hw
    refine wq_eq q_210_99 (wq_t (Int32.lt_iff_toInt_lt.mpr (by omega)) (rk_k (n := fr + i) C hv eb (by omega) (wq_at (CM_rc C) (wq_cI hw fun y1 h1 q => ?_))))
    have ew : waL V r s kk mm v fr (m + 1) i A B = (pWave V r s kk mm (kC V.1 v (fr + i))).bind fun q => waL V r s kk mm v fr m (i + 1) (upS A i q.1) (upS B i q.2) := rfl
    cases e : pWave V r s kk mm (kC V.1 v (fr + i)) with
    | none =>
      rw [e] at q ew
      obtain ⟨rfl, q⟩ := q
      exact wq_t rfl (ps_0 (oN ew) (FA_tr (c1 := c) G q))
    | some p =>
      rw [e] at q ew
      have ew : waL V r s kk mm v fr (m + 1) i A B = waL V r s kk mm v fr m (i + 1) (upS A i p.1) (upS B i p.2) := ew
      obtain ⟨rfl, S, C1, G1⟩ := q
      refine wq_f (by decide) (ih (i + 1) (ii + 1) h1 (S, c.2.1, upS c.2.2.1 i p.1, upS c.2.2.2.1 i p.2, c.2.2.2.2) (upS A i p.1) (upS B i p.2) (by omega) (by omega) hc (fun j hj => ?_) C1 (GM_tr G G1) (fun q => oN (ew.trans q)) (fun ab q => oS ab (ew.trans q)))
      by_cases ej : j = i
      · subst ej
        exact ⟨upS_eq.trans upS_eq.symm, upS_eq.trans upS_eq.symm⟩
      · obtain ⟨a1, a2⟩ := hab j (by omega)
        exact ⟨(upS_ne ej).trans (a1.trans (upS_ne ej).symm), (upS_ne ej).trans (a2.trans (upS_ne ej).symm)⟩
theorem m_assign (P : PO V.1) (HG : GT V.1) (C : CM x L V c r h) (hv : rgN V.1 v) (hM : (asF V v : Int) < (kf V.1 6 v).toInt ∧ (kf V.1 6 v).toInt ≤ asF V v + 16) (g : gTg V kS kV 80 (kC V.1 v 0)) (gl : kf V.1 1 v = 2 → gXV V kS kV (kC V.1 v 1)) (hx : ∀ i, asF V v ≤ i → (i : Int) < (kf V.1 6 v).toInt → kf V.1 6 (kC V.1 v i) = 2 ∧ gXV V kS kV (kC V.1 (kC V.1 v i) 0) ∧ gXV V kS kV (kC V.1 (kC V.1 v i) 1)) : wq (vc lim (d + 6) m_Runner_assign [aR (x + 530), aR L.1, aI v] h) (rI (goM x L V r (sAssign V r v) h)) := by
  obtain ⟨go, ko⟩ := gTg_o (Or.inl rfl) g
  have e1 : (1 : Int32).toInt = 1 := rfl
  have e2 : (2 : Int32).toInt = 2 := rfl
  have e16 : (16 : Int32).toInt = 16 := rfl
  have aF : asF V v = 1 ∨ asF V v = 2 := by
    unfold asF
    split
    · exact Or.inr rfl
    · exact Or.inl rfl
  have G23 : ∀ fi : Int32, fi.toInt = asF V v → wq (ah_val lim ah_P (d + 5) 210 23 [some (aR (x + 530)), some (aR L.1), some (aI v), some (aR L.2.1), some (aI (kf V.1 1 v)), none, none, none, none, none] [aI fi] h) (rI (goM x L V r (sAssign V r v) h)) := by
    intro fi hfi
    refine wq_eq q_210_23 (rk_kids C ?_)
    rw [xM_r hv]
    have es : (kf V.1 6 v - fi).toInt = (kf V.1 6 v).toInt - asF V v := by rw [sb_i (by omega) (by omega), hfi]
    have en : (kf V.1 6 v - fi).toInt = asN V v := by unfold asN; omega
    rw [if_neg (show ¬ (16 : Int32) < kf V.1 6 v - fi from fun q => by have := lt_i q; omega)]
    refine rk_k (n := 0) C hv rfl (by omega) (wq_at (CM_rc C) (wq_cI (m_aim P (Or.inl rfl) C g) fun y1 h1 q => ?_))
    cases ea : pAim V r (kC V.1 v 0) with
    | none =>
      rw [ea] at q
      obtain ⟨rfl, q⟩ := q
      exact wq_t rfl (ps_0 (by unfold sAssign; rw [ea]; rfl) q)
    | some am =>
      obtain ⟨kk, ff, mm⟩ := am
      rw [ea] at q
      obtain ⟨rfl, S1, C1, G1⟩ := q
      have fin : ∀ (l : Int64) (c2 : SCR) (h2 : ah_H), asL V r v = some l → c2.2.2.2.2 = (some (thA L V (ofT V.1 (kC V.1 v 0))), kf V.1 1 (ofT V.1 (kC V.1 v 0)), kk, ff, mm) → CM x L V c2 r h2 → GM x L V.2.2.2 h h2 → wq (ah_val lim ah_P (d + 5) 210 99 [some (aR (x + 530)), some (aR L.1), some (aI v), some (aR L.2.1), some (aI (kf V.1 1 v)), some (aI fi), some (aI (kf V.1 6 v - fi)), some (aJ l), none, some (aI 0)] [] h2) (rI (goM x L V r (sAssign V r v) h)) := by
        intro l c2 h2 el hc2 C2 G2
        have es : sAssign V r v = (waL V r (thS V r (ofT V.1 (kC V.1 v 0))) kk mm v (asF V v) (asN V v) 0 (fun _ => w00) (fun _ => 0)).bind fun ab => if pRise l ab.2 (asN V v) ∧ r.2.2.2.2.1 < 200 ∧ r.2.2.2.2.2.1 + asN V v ≤ 500 then some (r.1, r.2.2.1, r.2.2.2.1, tvL ab.1 ab.2 (asN V v) 0 (tAct r.2.2.2.2 0 (kf V.1 1 (ofT V.1 (kC V.1 v 0))) ff mm (kf V.1 1 v) (Nat.toInt32 r.2.2.2.2.2.1) l), 0, v) else none := by
          unfold sAssign
          rw [ea, el]
          rfl
        refine m_waves (kS := kS) (kV := kV) P HG hv (fun c h C => CM_th C go) en (by omega) (by omega) hfi (by omega) (by omega) (fun i i1 i2 => hx i i1 (by omega)) (asN V v) 0 0 h2 c2 (fun _ => w00) (fun _ => 0) rfl (by omega) hc2 (fun j hj => absurd hj (Nat.not_lt_zero _)) C2 G2 (fun q => by rw [es, q]; rfl) (fun ab q => by rw [es, q]; rfl)
      refine wq_f (by decide) (wq_if _ (fun c2 => ?_) (fun c2 => ?_))
      · have f2 : asF V v = 2 := if_pos c2
        refine rk_fd C1 (rk_k (n := 1) C1 hv rfl (by omega) (rk_find P C1 (gl c2) (fun e h2 q => ?_) (fun w S2 h2 e C2 s0 G2 => m_num C2 s0 ?_)))
        · exact ps_0 (by unfold sAssign; rw [ea, show asL V r v = none by unfold asL; rw [if_pos c2, e]; rfl]; rfl) (FA_tr (c1 := c) G1 q)
        · exact fin (wN w) _ h2 (by unfold asL; rw [if_pos c2, e]; rfl) rfl C2 (GM_tr G1 G2)
      · exact fin 0 _ h1 (if_neg c2) rfl C1 G1
  refine wq_eq e_Runner_assign (rk_nd C (rk_given C ?_))
  rw [xG_r hv]
  refine wq_if _ (fun c2 => G23 2 (by rw [show asF V v = 2 from if_pos c2]; rfl)) (fun c2 => G23 1 (by rw [show asF V v = 1 from if_neg c2]; rfl))
end Wi
