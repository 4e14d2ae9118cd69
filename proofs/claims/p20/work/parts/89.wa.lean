/-! UNITS OF THE CLASS -/
def isLp (k : Int32) : Bool := decide (38 ≤ k.toInt ∧ k.toInt ≤ 41)
/-- where a unit goes: its task, and at what -/
def gto (T : KT) : Nat → Int32 → Int32 → Option (Int32 × Int32)
  | 0, _, _ => none
  | n + 1, l, p => if xCh T l p = -1 then if xU T l = -1 then some (0, -1) else if isLp (xK T (xU T l)) then some (2, xU T l) else gto T n (xU T (if xK T (xU T l) = 36 then xU T (xU T l) else xU T l)) (xP T (if xK T (xU T l) = 36 then xU T (xU T l) else xU T l) + 1) else some (1, xCh T l p)
/-- the innermost loop -/
def lpU (T : KT) : Nat → Int32 → Int32
  | 0, v => v
  | n + 1, v => if v = -1 then v else if isLp (xK T v) then v else lpU T n (xU T v)
abbrev uGo (s : US) (g : Int32 × Int32) : US := (s.1, s.2.1, s.2.2.1, s.2.2.2.1, g.1, g.2, s.2.2.2.2.2.2.1, s.2.2.2.2.2.2.2)
abbrev uStep (s : US) : US := (s.1, s.2.1, s.2.2.1, if s.2.2.2.1 < 2147483647 then s.2.2.2.1 + 1 else s.2.2.2.1, s.2.2.2.2.1, s.2.2.2.2.2.1, s.2.2.2.2.2.2.1, s.2.2.2.2.2.2.2)
section Wa
variable {lim : Nat × Nat} {d u nd vt nx en : Nat} {T : KT} {s : US} {v i l p : Int32} {h h' : ah_H} {g : Int32 × Int32}
theorem UC_0 {k : Nat} {vs : List AV} (e : h.1 u = some (k, vs)) : UC u k vs h h := ⟨e, fun _ _ => rfl, rfl, rfl⟩
theorem UC_tr {k k' : Nat} {vs vs' : List AV} {h1 h2 : ah_H} (a : UC u k vs h h1) (c : UC u k' vs' h1 h2) : UC u k' vs' h h2 := ⟨c.1, fun q hq => (c.2.1 q hq).trans (a.2.1 q hq), c.2.2.1.trans a.2.2.1, c.2.2.2.trans a.2.2.2⟩
theorem c_isLoop (N : ND nd T h) : wq (vc lim (d + 2) m_Nodes_isLoop [aR nd, aI v] h) (rI fun x h' => h' = h ∧ x = bI (isLp (xK T v))) := by
  have N0 := N
  obtain ⟨A, Ls, cc, kt, e5, -⟩ := N0
  refine wq_eq e_Nodes_isLoop (wq_at e5 (wq_cI (c_kindOf N) ?_))
  rintro _ _ ⟨rfl, rfl⟩
  refine wq_if _ (fun c => ?_) (fun c => wq_if _ (fun c1 => ?_) (fun c1 => ?_))
  · exact wq_t (by decide) (wq_some (rI_i ⟨rfl, by rw [show isLp (xK T v) = false from decide_eq_false (fun q => by have : (xK T v).toInt < 38 := lt_i c; omega)]; rfl⟩))
  · have h1 : 38 ≤ (xK T v).toInt := nlt_i c
    have h2 : (xK T v).toInt ≤ 41 := le_i c1
    exact wq_t (by decide) (wq_some (rI_i ⟨rfl, by rw [show isLp (xK T v) = true from decide_eq_true ⟨h1, h2⟩]; rfl⟩))
  · exact wq_t (by decide) (wq_some (rI_i ⟨rfl, by rw [show isLp (xK T v) = false from decide_eq_false (fun q => by have : 41 < (xK T v).toInt := nle_i c1; omega)]; rfl⟩))
theorem g_246 (N : ND nd T h) (e : h.1 u = some (10, dU nd vt nx en s)) : ∀ (n : Nat) (l p k : Int32), gto T n l p = some g → 0 ≤ k.toInt → k.toInt + n ≤ 101 → wq (ah_val lim ah_P (d + 2) 246 8 [some (aR u), none, none, some (aI l), some (aI p), some (aI k), none, none, none] [] h) (rV (UC u 10 (dU nd vt nx en (uGo s g)) h)) := by
  have N0 := N
  obtain ⟨A, Ls, cc, kt, e5, -⟩ := N0
  intro n
  induction n with
  | zero => intro l p k hg; cases hg
  | succ n ih =>
    intro l p k hg h0 hk
    have ei : (k + 1).toInt = k.toInt + 1 := ad_i (by show _ ≤ k.toInt + 1; omega) (by show k.toInt + 1 ≤ _; omega)
    rw [gto] at hg
    have K : ∀ dn : Int32, gto T n (xU T dn) (xP T dn + 1) = some g → wq (ah_val lim ah_P (d + 2) 246 123 [some (aR u), none, none, none, none, some (aI k), none, none, none] [aI dn] h) (rV (UC u 10 (dU nd vt nx en (uGo s g)) h)) := fun dn hd => by
      refine wq_eq q_246_123 (wq_gR e rfl (wq_at e5 (wq_cI (c_parentOf N) ?_)))
      rintro _ _ ⟨rfl, rfl⟩
      refine wq_gR e rfl (wq_at e5 (wq_cI (c_placeOf N) ?_))
      rintro _ _ ⟨rfl, rfl⟩
      exact ih _ _ (k + 1) hd (by omega) (by omega)
    refine wq_eq q_246_8 (wq_t (Int32.le_iff_toInt_le.mpr (by show k.toInt ≤ 100; omega)) (wq_gR e rfl (wq_at e5 (wq_cI (c_kid N) ?_))))
    rintro _ _ ⟨rfl, rfl⟩
    refine wq_if _ (fun c => ?_) (fun c => ?_)
    · rw [if_pos c] at hg
      refine wq_gR e rfl (wq_at e5 (wq_cI (c_parentOf N) ?_))
      rintro _ _ ⟨rfl, rfl⟩
      refine wq_if _ (fun c1 => ?_) (fun c1 => ?_)
      · rw [if_pos c1] at hg
        cases hg
        refine wq_eq q_246_73 (wq_t c1 ?_)
        rw [c1]
        exact wq_wr e (Nat.le_of_ble_eq_true rfl) (wq_wr up_eq (Nat.le_of_ble_eq_true rfl) (wq_some (rV_i ⟨up_eq, fun q hq => up_ne hq (up_ne hq rfl), rfl, rfl⟩)))
      · rw [if_neg c1] at hg
        refine wq_gR e rfl (wq_at e5 (wq_cI (c_isLoop N) ?_))
        rintro _ _ ⟨rfl, rfl⟩
        cases hl : isLp (xK T (xU T l)) with
        | true =>
          rw [if_pos hl] at hg
          cases hg
          exact wq_f (by decide) (wq_eq q_246_73 (wq_f c1 (wq_wr e (Nat.le_of_ble_eq_true rfl) (wq_wr up_eq (Nat.le_of_ble_eq_true rfl) (wq_some (rV_i ⟨up_eq, fun q hq => up_ne hq (up_ne hq rfl), rfl, rfl⟩))))))
        | false =>
          rw [if_neg (by rw [hl]; decide)] at hg
          refine wq_t rfl (wq_gR e rfl (wq_at e5 (wq_cI (c_kindOf N) ?_)))
          rintro _ _ ⟨rfl, rfl⟩
          refine wq_if _ (fun c2 => ?_) (fun c2 => ?_)
          · rw [if_pos c2] at hg
            refine wq_gR e rfl (wq_at e5 (wq_cI (c_parentOf N) ?_))
            rintro _ _ ⟨rfl, rfl⟩
            exact K _ hg
          · rw [if_neg c2] at hg
            exact K _ hg
    · rw [if_neg c] at hg
      cases hg
      exact wq_wr e (Nat.le_of_ble_eq_true rfl) (wq_wr up_eq (Nat.le_of_ble_eq_true rfl) (wq_some (rV_i ⟨up_eq, fun q hq => up_ne hq (up_ne hq rfl), rfl, rfl⟩)))
theorem c_goTo (N : ND nd T h) (e : h.1 u = some (10, dU nd vt nx en s)) (hg : gto T 101 l p = some g) : wq (vc lim (d + 3) m_Unit_goTo [aR u, aI l, aI p] h) (rV (UC u 10 (dU nd vt nx en (uGo s g)) h)) := wq_eq e_Unit_goTo (g_246 N e 101 l p 0 hg (by decide) (by decide))
theorem c_goBehind (N : ND nd T h) (e : h.1 u = some (10, dU nd vt nx en s)) (hg : gto T 101 (xU T v) (xP T v + 1) = some g) : wq (vc lim (d + 4) m_Unit_goBehind [aR u, aI v] h) (rI fun x h' => x = 1 ∧ UC u 10 (dU nd vt nx en (uGo s g)) h h') := by
  have N0 := N
  obtain ⟨A, Ls, cc, kt, e5, -⟩ := N0
  refine wq_eq e_Unit_goBehind (wq_gR e rfl (wq_at e5 (wq_cI (c_parentOf N) ?_)))
  rintro _ _ ⟨rfl, rfl⟩
  refine wq_gR e rfl (wq_at e5 (wq_cI (c_placeOf N) ?_))
  rintro _ _ ⟨rfl, rfl⟩
  exact wq_at e (wq_cV (c_goTo N e hg) fun h1 k => wq_t (by decide) (wq_some (rI_i ⟨rfl, k⟩)))
theorem c_goInto (N : ND nd T h) (e : h.1 u = some (10, dU nd vt nx en s)) (hg : gto T 101 v 0 = some g) : wq (vc lim (d + 4) m_Unit_goInto [aR u, aI v] h) (rI fun x h' => x = 1 ∧ UC u 10 (dU nd vt nx en (uGo s g)) h h') := wq_eq e_Unit_goInto (wq_at e (wq_cV (c_goTo N e hg) fun h1 k => wq_t (by decide) (wq_some (rI_i ⟨rfl, k⟩))))
theorem c_goToLook (e : h.1 u = some (10, dU nd vt nx en s)) : wq (vc lim (d + 1) m_Unit_goToLook [aR u, aI v] h) (rI fun x h' => x = 1 ∧ UC u 10 (dU nd vt nx en (uGo s (2, v))) h h') := wq_eq e_Unit_goToLook (wq_wr e (Nat.le_of_ble_eq_true rfl) (wq_wr up_eq (Nat.le_of_ble_eq_true rfl) (wq_t (by decide) (wq_some (rI_i ⟨rfl, up_eq, fun q hq => up_ne hq (up_ne hq rfl), rfl, rfl⟩)))))
theorem c_waitAt {z : Int64} (N : ND nd T h) (e : h.1 u = some (10, dU nd vt nx en s)) (hg : gto T 101 (xU T v) (xP T v + 1) = some g) : wq (vc lim (d + 5) m_Unit_waitAt [aR u, aI v, aJ z] h) (rI fun x h' => x = 0 ∧ UC u 10 (dU nd vt nx en (1, s.2.1, s.2.2.1, s.2.2.2.1, g.1, g.2, v, z)) h h') := by
  refine wq_eq e_Unit_waitAt (wq_at e (wq_cI (c_goBehind N e hg) ?_))
  rintro _ h1 ⟨rfl, e1, o1, m1⟩
  exact wq_wr e1 (Nat.le_of_ble_eq_true rfl) (wq_wr up_eq (Nat.le_of_ble_eq_true rfl) (wq_wr up_eq (Nat.le_of_ble_eq_true rfl) (wq_t (by decide) (wq_some (rI_i ⟨rfl, up_eq, fun q hq => up_ne hq (up_ne hq (up_ne hq (o1 q hq))), m1⟩)))))
theorem c_countStep (e : h.1 u = some (10, dU nd vt nx en s)) : wq (vc lim (d + 1) m_Unit_countStep [aR u] h) (rV (UC u 10 (dU nd vt nx en (uStep s)) h)) := by
  refine wq_eq e_Unit_countStep (wq_gI e rfl (wq_if _ (fun c => ?_) (fun c => ?_)))
  · refine wq_gI e rfl (wq_wr e (Nat.le_of_ble_eq_true rfl) (wq_some (rV_i ⟨?_, fun q hq => up_ne hq rfl, rfl, rfl⟩)))
    rw [up_eq]
    simp only [uStep, if_pos c]
    rfl
  · refine wq_some (rV_i ⟨?_, fun q hq => rfl, rfl, rfl⟩)
    rw [e]
    simp only [uStep, if_neg c]
theorem c_swf (N : ND nd T h) (e : h.1 u = some (10, dU nd vt nx en s)) : wq (vc lim (d + 2) m_Unit_signalsWaitedFor [aR u] h) (rI fun x h' => h' = h ∧ x = xM T (xCh T s.2.2.2.2.2.2.1 0)) := by
  have N0 := N
  obtain ⟨A, Ls, cc, kt, e5, -⟩ := N0
  refine wq_eq e_Unit_signalsWaitedFor (wq_gR e rfl (wq_gR e rfl (wq_gI e rfl (wq_at e5 (wq_cI (c_kid N) ?_)))))
  rintro _ _ ⟨rfl, rfl⟩
  refine wq_at e5 (wq_cI (c_kidsOf N) ?_)
  rintro _ _ ⟨rfl, rfl⟩
  exact wq_some (rI_i ⟨rfl, rfl⟩)
theorem c_swi (N : ND nd T h) (e : h.1 u = some (10, dU nd vt nx en s)) : wq (vc lim (d + 2) m_Unit_signalWaitedFor [aR u, aI i] h) (rI fun x h' => h' = h ∧ x = xG T (xCh T (xCh T s.2.2.2.2.2.2.1 0) i)) := by
  have N0 := N
  obtain ⟨A, Ls, cc, kt, e5, -⟩ := N0
  refine wq_eq e_Unit_signalWaitedFor (wq_gR e rfl (wq_gR e rfl (wq_gR e rfl (wq_gI e rfl (wq_at e5 (wq_cI (c_kid N) ?_))))))
  rintro _ _ ⟨rfl, rfl⟩
  refine wq_at e5 (wq_cI (c_kid N) ?_)
  rintro _ _ ⟨rfl, rfl⟩
  refine wq_at e5 (wq_cI (c_givenOf N) ?_)
  rintro _ _ ⟨rfl, rfl⟩
  exact wq_some (rI_i ⟨rfl, rfl⟩)
theorem c_wfe (N : ND nd T h) (e : h.1 u = some (10, dU nd vt nx en s)) : wq (vc lim (d + 2) m_Unit_waitsForExpression [aR u] h) (rI fun x h' => h' = h ∧ x = bI (decide (¬ s.2.2.2.2.2.2.1 = -1 ∧ ¬ xK T (xCh T s.2.2.2.2.2.2.1 1) = 0))) := by
  have N0 := N
  obtain ⟨A, Ls, cc, kt, e5, -⟩ := N0
  refine wq_eq e_Unit_waitsForExpression (wq_gI e rfl (wq_if _ (fun c => ?_) (fun c => wq_gR e rfl (wq_gR e rfl (wq_gI e rfl (wq_at e5 (wq_cI (c_kid N) ?_)))))))
  · exact wq_t (by decide) (wq_some (rI_i ⟨rfl, by rw [decide_eq_false (fun q => q.1 c)]; rfl⟩))
  · rintro _ _ ⟨rfl, rfl⟩
    refine wq_at e5 (wq_cI (c_kindOf N) ?_)
    rintro _ _ ⟨rfl, rfl⟩
    refine wq_if _ (fun c1 => ?_) (fun c1 => ?_)
    · exact wq_t (by decide) (wq_some (rI_i ⟨rfl, by rw [decide_eq_false (fun q => q.2 c1)]; rfl⟩))
    · exact wq_t (by decide) (wq_some (rI_i ⟨rfl, by rw [decide_eq_true ⟨c, c1⟩]; rfl⟩))
/-! counters -/
abbrev cnA (n : Nat) (c : Nat → Int64) : List AV := (List.range n).map fun i => aJ (c i)
theorem cn_get {n i : Nat} {c : Nat → Int64} (hi : i < n) : (cnA n c)[i]? = some (aJ (c i)) := by
  show ((List.range n).map _)[i]? = _
  rw [List.getElem?_map, List.getElem?_range hi]
  rfl
theorem cn_set {n i : Nat} {c : Nat → Int64} {z : Int64} : (cnA n c).set i (aJ z) = cnA n (upS c i z) := by
  apply List.ext_getElem?
  intro j
  by_cases hj : j < n
  · rw [cn_get hj]
    by_cases e : i = j
    · subst e
      rw [List.getElem?_set_self (by rw [List.length_map, List.length_range]; exact hj), upS_eq]
    · rw [List.getElem?_set_ne e, cn_get hj, upS_ne (fun q => e q.symm)]
  · rw [List.getElem?_eq_none (by rw [List.length_set, List.length_map, List.length_range]; omega), List.getElem?_eq_none (by rw [List.length_map, List.length_range]; omega)]
theorem cn_len {n : Nat} {c : Nat → Int64} : (cnA n c).length = n := by rw [List.length_map, List.length_range]
/-- both rows of counters have changed -/
theorem c_beginCount {c1 c2 : Nat → Int64} {a z : Int64} (e : h.1 u = some (10, dU nd vt nx en s)) (e1 : h.1 nx = some (101, cnA T.1 c1)) (e2 : h.1 en = some (101, cnA T.1 c2)) (hT : T.1 ≤ 4000) (hn : nx ≠ en) (hv : rgN T v) : wq (vc lim (d + 1) m_Unit_beginCount [aR u, aI v, aJ a, aJ z] h) (rV fun h' => h'.1 nx = some (101, cnA T.1 (upS c1 v.toInt.toNat a)) ∧ h'.1 en = some (101, cnA T.1 (upS c2 v.toInt.toNat z)) ∧ (∀ q, q ≠ nx → q ≠ en → h'.1 q = h.1 q) ∧ h'.2.1 = h.2.1 ∧ h'.2.2.1 = h.2.2.1) := by
  have un : u ≠ nx := fun q => by rw [q, e1] at e; cases e
  have ue : u ≠ en := fun q => by rw [q, e2] at e; cases e
  have h0 := hv.1
  have h1 := hv.2
  refine wq_eq e_Unit_beginCount (wq_f (ix_ge h0) (wq_gR e rfl (wq_len e1 (by decide) ?_)))
  rw [cn_len]
  refine wq_t (Int32.lt_iff_toInt_lt.mpr (by rw [i32n hT]; omega)) (wq_gR e rfl (wq_sI e1 (ix_ge h0) (by rw [cn_len]; exact ix_lt h0 (by omega)) (wq_gR (up_ne un e) rfl (wq_sI (up_ne hn.symm e2) (ix_ge h0) (by rw [cn_len]; exact ix_lt h0 (by omega)) (wq_some (rV_i ⟨?_, ?_, fun q q1 q2 => up_ne q2 (up_ne q1 rfl), rfl, rfl⟩))))))
  · refine up_ne hn ?_
    rw [up_eq]
    show some (101, (cnA T.1 c1).set v.toInt.toNat (aJ a)) = _
    rw [cn_set]
  · rw [up_eq]
    show some (101, (cnA T.1 c2).set v.toInt.toNat (aJ z)) = _
    rw [cn_set]
theorem c_isCountOver {c1 c2 : Nat → Int64} (N : ND nd T h) (e : h.1 u = some (10, dU nd vt nx en s)) (e1 : h.1 nx = some (101, cnA T.1 c1)) (e2 : h.1 en = some (101, cnA T.1 c2)) (hT : T.1 ≤ 4000) (hv : rgN T v) : wq (vc lim (d + 2) m_Unit_isCountOver [aR u, aI v] h) (rI fun x h' => h' = h ∧ x = bI (decide (if kf T 0 v = 38 then ¬ c1 v.toInt.toNat ≤ c2 v.toInt.toNat else c1 v.toInt.toNat < c2 v.toInt.toNat))) := by
  have N0 := N
  obtain ⟨A, Ls, cc, kt, e5, -⟩ := N0
  have h0 := hv.1
  have h1 := hv.2
  refine wq_eq e_Unit_isCountOver (wq_f (ix_ge h0) (wq_gR e rfl (wq_len e1 (by decide) ?_)))
  rw [cn_len]
  simp only [lgv_le, lgv_lt]
  refine wq_t (Int32.lt_iff_toInt_lt.mpr (by rw [i32n hT]; omega)) (wq_gR e rfl (wq_at e5 (wq_cI (c_kindOf N) ?_)))
  rintro _ _ ⟨rfl, rfl⟩
  rw [show xK T v = kf T 0 v from if_pos hv]
  have gx := cn_get (c := c1) (show v.toInt.toNat < T.1 by omega)
  have ge := cn_get (c := c2) (show v.toInt.toNat < T.1 by omega)
  refine wq_if _ (fun c => wq_gR e rfl (wq_lJ e1 (ix_ge h0) gx (wq_gR e rfl (wq_lJ e2 (ix_ge h0) ge (wq_if _ (fun q => ?_) (fun q => ?_)))))) (fun c => wq_gR e rfl (wq_lJ e1 (ix_ge h0) gx (wq_gR e rfl (wq_lJ e2 (ix_ge h0) ge (wq_if _ (fun q => ?_) (fun q => ?_))))))
  · exact wq_t (by decide) (wq_some (rI_i ⟨rfl, by rw [decide_eq_false (by rw [if_pos c]; exact fun k => k q)]; rfl⟩))
  · exact wq_t (by decide) (wq_some (rI_i ⟨rfl, by rw [decide_eq_true (by rw [if_pos c]; exact q)]; rfl⟩))
  · exact wq_t (by decide) (wq_some (rI_i ⟨rfl, by rw [decide_eq_true (by rw [if_neg c]; exact q)]; rfl⟩))
  · exact wq_t (by decide) (wq_some (rI_i ⟨rfl, by rw [decide_eq_false (by rw [if_neg c]; exact q)]; rfl⟩))
theorem c_countOn {c1 : Nat → Int64} (N : ND nd T h) (e : h.1 u = some (10, dU nd vt nx en s)) (e1 : h.1 nx = some (101, cnA T.1 c1)) (hT : T.1 ≤ 4000) (hv : rgN T v) : wq (vc lim (d + 2) m_Unit_countOn [aR u, aI v] h) (rJ fun x h' => x = c1 v.toInt.toNat ∧ UC nx 101 (cnA T.1 (upS c1 v.toInt.toNat (if kf T 0 v = 38 then c1 v.toInt.toNat + 1 else c1 v.toInt.toNat - 1))) h h') := by
  have N0 := N
  obtain ⟨A, Ls, cc, kt, e5, -⟩ := N0
  have h0 := hv.1
  have h1 := hv.2
  refine wq_eq e_Unit_countOn (wq_f (ix_ge h0) (wq_gR e rfl (wq_len e1 (by decide) ?_)))
  rw [cn_len]
  have gx := cn_get (c := c1) (show v.toInt.toNat < T.1 by omega)
  refine wq_t (Int32.lt_iff_toInt_lt.mpr (by rw [i32n hT]; omega)) (wq_gR e rfl (wq_lJ e1 (ix_ge h0) gx (wq_gR e rfl (wq_gR e rfl (wq_at e5 (wq_cI (c_kindOf N) ?_))))))
  rintro _ _ ⟨rfl, rfl⟩
  rw [show xK T v = kf T 0 v from if_pos hv]
  have hl : v.toNatClampNeg < (cnA T.1 c1).length := by rw [cn_len]; exact ix_lt h0 (by omega)
  refine wq_if _ (fun c => wq_sI e1 (ix_ge h0) hl (wq_some (rJ_i ⟨rfl, ?_, fun q hq => up_ne hq rfl, rfl, rfl⟩))) (fun c => wq_sI e1 (ix_ge h0) hl (wq_some (rJ_i ⟨rfl, ?_, fun q hq => up_ne hq rfl, rfl, rfl⟩)))
  · rw [up_eq, if_pos c]
    show some (101, (cnA T.1 c1).set v.toInt.toNat _) = _
    rw [cn_set]
  · rw [up_eq, if_neg c]
    show some (101, (cnA T.1 c1).set v.toInt.toNat _) = _
    rw [cn_set]
end Wa
