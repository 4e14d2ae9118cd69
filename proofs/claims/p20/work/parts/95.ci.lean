/-! THE CLASS'S CONSTRUCTOR, ALL OF IT -/
theorem i32_t {i n : Nat} (h : i < n) (hn : n < 2 ^ 31) : Nat.toInt32 i < Nat.toInt32 n := (Int32.ofNat_lt_iff_lt (by omega) hn).mpr h
theorem i32_f {i n : Nat} (h : ¬ i < n) (hi : i < 2 ^ 31) (hn : n < 2 ^ 31) : ¬ Nat.toInt32 i < Nat.toInt32 n := fun h1 => h ((Int32.ofNat_lt_iff_lt hi hn).mp h1)
theorem i32_0 {i : Nat} (hi : i < 2 ^ 31) : ¬ Nat.toInt32 i < 0 := by
  rw [Int32.lt_iff_toInt_lt, Int32.toInt_ofNat_of_lt hi]
  show ¬ (i : Int) < 0
  omega
theorem c_Datum_i1 {lim : Nat × Nat} {d : Nat} {h : ah_H} {a : Nat} {fs : List AV} (hc : h.1 a = some (1, fs)) (hl : fs.length = 7) : wq (vc lim (d + 1) m_Datum_init [aR a] h) (rV fun h' => h' = ah_up h a (1, fs.set 1 (aI 1))) :=
  wq_eq e_Datum_init (wq_nn (wq_wr hc (by omega) (wq_some (rV_i rfl))))
abbrev zD : List AV := [.inl 0, .inl 0, .inr (.inl 0), .inr (.inl 0), .inr (.inl 0), .inr (.inl 0), .inr (.inl 0)]
abbrev d00 : WD := (0, 1, 0, 0, 0, 0, 0)
/-- a loop that makes Datums -/
theorem loopD2 {F : Int32 → ah_H → Option ah_R} {E : ah_H → Option ah_R} {m kf fl d a N b : Nat} {lim : Nat × Nat} {fs : List AV} {Φ : ah_R → Prop} (hN : N < 2 ^ 31)
    (hF : ∀ v h, F v h = ah_gR h (some m) kf fl fun r1 => ah_len h r1 fun n2 => if v < n2 then ah_gR h (some m) kf fl fun r3 => ah_mk lim h (1, zD) 7 fun r4 h5 => ah_at h5 r4 1 fun _ _ => ah_cV (vc lim (d + 1) m_Datum_init [.inr (.inr r4)] h5) (nx h5) fun h6 => ah_sR h6 r3 v r4 fun h7 => F (v + 1) h7 else E h)
    (hfs : fs[fl]? = some (aR a)) (hma : m ≠ a) (hab : a < b) : ∀ (k i : Nat) (h : ah_H) (vs : List AV), i + k = N → h.2.1 = b + i → (∀ j, j < i → vs[j]? = some (aR (b + j)) ∧ h.1 (b + j) = some (1, dW d00)) → h.1 m = some (kf, fs) → h.1 a = some (111, vs) → vs.length = N → m < h.2.1 → a < h.2.1 → h.2.1 + k ≤ lim.1 → h.2.2.1 + 7 * k ≤ lim.2 →
      (∀ h' vs', hk (fun q => q = a) k (7 * k) h h' → h'.1 a = some (111, vs') → vs'.length = N → (∀ j, j < N → vs'[j]? = some (aR (b + j)) ∧ h'.1 (b + j) = some (1, dW d00)) → wq (E h') Φ) → wq (F (Nat.toInt32 i) h) Φ := by
  intro k
  induction k with
  | zero =>
    intro i h vs hi hb hd h1 h2 h3 h4 h5 r1 r2 kk
    rw [hF]
    refine wq_gR h1 hfs (wq_len h2 (by decide) ?_)
    rw [h3]
    exact wq_f (i32_f (by omega) (by omega) hN) (kk h vs hk_refl h2 h3 (fun j hj => hd j (by omega)))
  | succ k ih =>
    intro i h vs hi hb hd h1 h2 h3 h4 h5 r1 r2 kk
    rw [hF]
    refine wq_gR h1 hfs (wq_len h2 (by decide) ?_)
    rw [h3]
    refine wq_t (i32_t (by omega) hN) ?_
    refine wq_gR h1 hfs (wq_mk ⟨by omega, by omega⟩ (wq_at nw_eq (wq_cV (c_Datum_i1 nw_eq rfl) ?_)))
    intro h6 e6
    subst e6
    have hj : (Nat.toInt32 i).toNatClampNeg = i := Int32.toNatClampNeg_ofNat_of_lt (by omega)
    refine wq_sR (vs := vs) (up_ne (by omega) (nw_ne (by omega) h2)) (by decide) up_eq rfl (i32_0 (by omega)) (by rw [hj]; omega) ?_
    rw [hj, show Nat.toInt32 i + 1 = Nat.toInt32 (i + 1) from (Int32.ofNat_add i 1).symm]
    refine ih (i + 1) _ (vs.set i (aR h.2.1)) (by omega) (by show h.2.1 + 1 = _; omega) ?_ ?_ up_eq (by rw [List.length_set]; exact h3) ?_ ?_ ?_ ?_ ?_
    · intro j hj
      by_cases e : j = i
      · rw [e, List.getElem?_set_self (by omega), hb]
        refine ⟨rfl, up_ne (by omega) ?_⟩
        rw [← hb]
        exact up_eq
      · rw [List.getElem?_set_ne (fun q => e q.symm)]
        exact ⟨(hd j (by omega)).1, up_ne (by omega) (up_ne (by omega) (nw_ne (by omega) (hd j (by omega)).2))⟩
    · exact up_ne hma (up_ne (by omega) (nw_ne (by omega) h1))
    · show m < h.2.1 + 1
      omega
    · show a < h.2.1 + 1
      omega
    · show h.2.1 + 1 + k ≤ lim.1
      omega
    · show h.2.2.1 + 7 + 7 * k ≤ lim.2
      omega
    · intro h' vs' g1 g2 g3 g4
      refine kk h' vs' ?_ g2 g3 g4
      obtain ⟨b1, b2, b3⟩ := g1
      refine ⟨fun q hq hs => ?_, ?_, ?_⟩
      · refine (b1 q (show q < h.2.1 + 1 by omega) hs).trans ?_
        exact up_ne hs (up_ne (by omega) (nw_ne (by omega) rfl))
      · rw [b2]
        show h.2.1 + 1 + k = h.2.1 + (k + 1)
        omega
      · rw [b3]
        show h.2.2.1 + 7 + 7 * k = h.2.2.1 + 7 * (k + 1)
        omega
theorem rm_eq {N b : Nat} {vs : List AV} (hl : vs.length = N) (hd : ∀ j, j < N → vs[j]? = some (aR (b + j))) : vs = (List.range N).map fun i => aR (b + i) := by
  apply List.ext_getElem?
  intro i
  by_cases hi : i < N
  · rw [hd i hi, rm_get hi]
  · rw [List.getElem?_eq_none (by omega), List.getElem?_eq_none (by rw [List.length_map, List.length_range]; omega)]
theorem rep_tl : List.replicate 200 (aI 0) = tlA (fun _ => 0) := by
  apply List.ext_getElem?
  intro i
  by_cases hi : i < 200
  · rw [tl_get hi, List.getElem?_replicate_of_lt hi]
  · rw [List.getElem?_eq_none (by rw [List.length_replicate]; omega), List.getElem?_eq_none (by rw [List.length_map, List.length_range]; omega)]
theorem hk_cast {S : Nat → Prop} {c n c' n' : Nat} {h h' : ah_H} (k : hk S c n h h') (e1 : c = c') (e2 : n = n') : hk S c' n' h h' := by subst e1; subst e2; exact k
theorem c_Things_init {lim : Nat × Nat} {d : Nat} {h : ah_H} {a n : Nat} {c : AV} {j : Int32} (hc : h.1 a = some (8, [aN, c])) (ha : a < h.2.1) (hj : ¬ (if j < (0 : Int32) then (0 : Int32) else j) < 0) (hn : (if j < (0 : Int32) then (0 : Int32) else j).toNatClampNeg = n) (hb : n * 8 ≤ 536870912) (hr : h.2.1 < lim.1 ∧ h.2.2.1 + n ≤ lim.2) :
    wq (vc lim (d + 1) m_Things_init [aR a, aI j] h) (rV fun h' => h'.1 a = some (8, [aR h.2.1, c]) ∧ h'.1 h.2.1 = some (117, List.replicate n aN) ∧ hk (fun q => q = a) 1 n h h') := by
  refine wq_eq e_Things_init (wq_nn (wq_mka hj hn hb hr (wq_wr (nw_ne (by omega) hc) (Nat.le_of_ble_eq_true rfl) (wq_some (rV_i ⟨up_eq, up_ne (by omega) nw_eq, ?_⟩)))))
  exact hk_cast (hk_trans hk_new (hk_up rfl)) rfl rfl
abbrev t8 : iT := [(0, 100, aI 0, 4000), (1, 100, aI 0, 4000), (2, 100, aI 0, 4000), (3, 100, aI 0, 4000), (4, 100, aI 0, 4000), (5, 100, aI 0, 4000), (6, 100, aI 0, 4000), (7, 100, aI 0, 4000)]
abbrev fN : List AV := [aN, aN, aN, aN, aN, aN, aN, aN, aI 0, aI 0]
theorem c_Nodes_init {lim : Nat × Nat} {d : Nat} {h : ah_H} {a q0 s0 : Nat} (hc : h.1 a = some (5, fN)) (hm : a < q0) (hq : h.2.1 = q0) (hs : h.2.2.1 = s0) (hr1 : q0 + 8 ≤ lim.1) (hr2 : s0 + 32000 ≤ lim.2) : wq (vc lim (d + 1) m_Nodes_init [aR a, aI 4000] h) (rV (iP t8 5 fN a q0 s0 h 8)) := by
  refine wq_eq e_Nodes_init (wq_nn ?_)
  have hP := iP_0 (T := t8) hc hq hs
  refine ini hP rfl (Nat.le_of_ble_eq_true rfl) hm (by decide) (by decide) (Nat.le_of_ble_eq_true rfl) (by omega) (Nat.le_of_ble_eq_true rfl) hr2 (fun _ hP => ?_)
  refine ini hP rfl (Nat.le_of_ble_eq_true rfl) hm (by decide) (by decide) (Nat.le_of_ble_eq_true rfl) (by omega) (Nat.le_of_ble_eq_true rfl) hr2 (fun _ hP => ?_)
  refine ini hP rfl (Nat.le_of_ble_eq_true rfl) hm (by decide) (by decide) (Nat.le_of_ble_eq_true rfl) (by omega) (Nat.le_of_ble_eq_true rfl) hr2 (fun _ hP => ?_)
  refine ini hP rfl (Nat.le_of_ble_eq_true rfl) hm (by decide) (by decide) (Nat.le_of_ble_eq_true rfl) (by omega) (Nat.le_of_ble_eq_true rfl) hr2 (fun _ hP => ?_)
  refine ini hP rfl (Nat.le_of_ble_eq_true rfl) hm (by decide) (by decide) (Nat.le_of_ble_eq_true rfl) (by omega) (Nat.le_of_ble_eq_true rfl) hr2 (fun _ hP => ?_)
  refine ini hP rfl (Nat.le_of_ble_eq_true rfl) hm (by decide) (by decide) (Nat.le_of_ble_eq_true rfl) (by omega) (Nat.le_of_ble_eq_true rfl) hr2 (fun _ hP => ?_)
  refine ini hP rfl (Nat.le_of_ble_eq_true rfl) hm (by decide) (by decide) (Nat.le_of_ble_eq_true rfl) (by omega) (Nat.le_of_ble_eq_true rfl) hr2 (fun _ hP => ?_)
  refine ini hP rfl (Nat.le_of_ble_eq_true rfl) hm (by decide) (by decide) (Nat.le_of_ble_eq_true rfl) (by omega) (Nat.le_of_ble_eq_true rfl) hr2 (fun _ hP => ?_)
  exact wq_some (rV_i hP)
abbrev t2 : iT := [(2, 100, aI 0, 4000), (3, 100, aI 0, 4000)]
/-- what Maker() makes, from the address q on -/
def mkP (a q : Nat) (h h' : ah_H) : Prop := h'.1 a = some (4, [aR q, aR (q + 9), aR (q + 11), aR (q + 12), aI 0]) ∧ h'.1 q = some (5, [aR (q + 1), aR (q + 2), aR (q + 3), aR (q + 4), aR (q + 5), aR (q + 6), aR (q + 7), aR (q + 8), aI 0, aI 0]) ∧ (∀ j, j < 8 → h'.1 (q + 1 + j) = some (100, List.replicate 4000 (aI 0))) ∧
  h'.1 (q + 9) = some (8, [aR (q + 10), aI 0]) ∧ h'.1 (q + 10) = some (117, List.replicate 128 aN) ∧ h'.1 (q + 11) = some (100, List.replicate 4000 (aI 0)) ∧ h'.1 (q + 12) = some (100, List.replicate 4000 (aI 0)) ∧ hk (fun p => p = a) 13 40140 h h'
theorem c_Maker_init {lim : Nat × Nat} {d : Nat} {h : ah_H} {a q : Nat} (hc : h.1 a = some (4, [aN, aN, aN, aN, aI 0])) (ha : a < q) (hq : h.2.1 = q) (hr1 : q + 13 ≤ lim.1) (hr2 : h.2.2.1 + 40140 ≤ lim.2) : wq (vc lim (d + 2) m_Maker_init [aR a] h) (rV (mkP a q h)) := by
  refine wq_eq e_Maker_init (wq_nn (wq_mk ⟨by omega, by omega⟩ (wq_at nw_eq (wq_cV (c_Nodes_init (q0 := q + 1) (s0 := h.2.2.1 + 10) nw_eq (by omega) (by show h.2.1 + 1 = _; omega) rfl (by omega) (by omega)) ?_))))
  intro h3 hP
  obtain ⟨p1, p2, p3, p4, p5⟩ := hP
  have p3 : h3.2.2.1 = h.2.2.1 + 10 + 32000 := p3
  have ha3 : h3.1 a = some (4, [aN, aN, aN, aN, aI 0]) := (p5 a (by omega) (by omega)).trans (nw_ne (by omega) hc)
  rw [hq] at p1
  refine wq_wr ha3 (Nat.le_of_ble_eq_true rfl) (wq_mk ⟨by show h3.2.1 < _; omega, by show h3.2.2.1 + 2 ≤ _; omega⟩ (wq_at nw_eq (wq_cV (c_Things_init (n := 128) nw_eq (by show h3.2.1 < h3.2.1 + 1; omega) (by decide) (by decide) (by decide) ⟨by show h3.2.1 + 1 < _; omega, by show h3.2.2.1 + 2 + 128 ≤ _; omega⟩) ?_)))
  intro h7 ⟨y1, y2, y3⟩
  obtain ⟨z1, z2, z3⟩ := id y3
  have z2 : h7.2.1 = h3.2.1 + 1 + 1 := z2
  have z3 : h7.2.2.1 = h3.2.2.1 + 2 + 128 := z3
  have y1 : h7.1 h3.2.1 = some (8, [aR (h3.2.1 + 1), aI 0]) := y1
  have y2 : h7.1 (h3.2.1 + 1) = some (117, List.replicate 128 aN) := y2
  have old : ∀ r, r < h3.2.1 → r ≠ a → h7.1 r = h3.1 r := fun r h1 h2 => (z1 r (by show r < h3.2.1 + 1; omega) (by show ¬ r = h3.2.1; omega)).trans (nw_ne (by show r ≠ h3.2.1; omega) (up_ne h2 rfl))
  have ha7 : h7.1 a = some (4, [aR h.2.1, aN, aN, aN, aI 0]) := (z1 a (by show a < h3.2.1 + 1; omega) (by show ¬ a = h3.2.1; omega)).trans (nw_ne (by show a ≠ h3.2.1; omega) up_eq)
  refine wq_wr ha7 (Nat.le_of_ble_eq_true rfl) ?_
  have hP := iP_0 (T := t2) (kf := 4) (m := a) (q0 := q + 11) (s0 := h7.2.2.1) (h := ah_up h7 a (4, [aR h.2.1, aR h3.2.1, aN, aN, aI 0])) up_eq (by show h7.2.1 = _; omega) rfl
  have hm : a < q + 11 := by omega
  have hr2 : h7.2.2.1 + 8000 ≤ lim.2 := by omega
  refine ini hP rfl (Nat.le_of_ble_eq_true rfl) hm (by decide) (by decide) (Nat.le_of_ble_eq_true rfl) (by omega) (Nat.le_of_ble_eq_true rfl) hr2 (fun _ hP => ?_)
  refine ini hP rfl (Nat.le_of_ble_eq_true rfl) hm (by decide) (by decide) (Nat.le_of_ble_eq_true rfl) (by omega) (Nat.le_of_ble_eq_true rfl) hr2 (fun _ hP => ?_)
  obtain ⟨w1, w2, w3, w4, w5⟩ := hP
  have w3 : _ = h7.2.2.1 + 8000 := w3
  have e3 : h3.2.1 = q + 9 := by omega
  rw [hq, e3] at w1
  rw [e3] at y1 y2
  refine wq_some (rV_i ⟨w1, ?_, ?_, ?_, ?_, w4 0 _ (by omega) rfl, w4 1 _ (by omega) rfl, ?_, ?_, ?_⟩)
  · exact (w5 q (by omega) (by omega)).trans (up_ne (by omega) ((old q (by omega) (by omega)).trans p1))
  · intro j hj
    refine (w5 _ (by omega) (by omega)).trans (up_ne (by omega) ((old _ (by omega) (by omega)).trans ?_))
    have := p4 j (j, 100, aI 0, 4000) hj (by
      match j, hj with
      | 0, _ => rfl
      | 1, _ => rfl
      | 2, _ => rfl
      | 3, _ => rfl
      | 4, _ => rfl
      | 5, _ => rfl
      | 6, _ => rfl
      | 7, _ => rfl)
    exact this
  · exact (w5 _ (by omega) (by omega)).trans (up_ne (by omega) y1)
  · exact (w5 _ (by omega) (by omega)).trans (up_ne (by omega) y2)
  · intro r h1 h2
    exact (w5 r (by omega) h2).trans (up_ne h2 ((old r (by omega) h2).trans ((p5 r (by omega) (by omega)).trans (nw_ne (by omega) rfl))))
  · rw [w2]; omega
  · rw [w3]; omega
theorem c_Looker_init {lim : Nat × Nat} {d : Nat} {h : ah_H} {a mk nd : Nat} {sg : Option Nat} {fs : List AV} (hc : h.1 a = some (3, [aN, aN, aN])) (hk1 : h.1 mk = some (4, fs)) (hn : fs[0]? = some (aR nd)) (ha : a ≠ mk) : wq (vc lim (d + 1) m_Looker_init [aR a, aR mk, .inr (.inr sg)] h) (rV fun h' => h'.1 a = some (3, [aR mk, aR nd, .inr (.inr sg)]) ∧ hk (fun q => q = a) 0 0 h h') := by
  refine wq_eq e_Looker_init (wq_nn (wq_wr hc (Nat.le_of_ble_eq_true rfl) (wq_gR (up_ne (fun e => ha e.symm) hk1) hn (wq_wr up_eq (Nat.le_of_ble_eq_true rfl) (wq_wr up_eq (Nat.le_of_ble_eq_true rfl) (wq_some (rV_i ⟨up_eq, ?_⟩)))))))
  exact hk_cast (hk_trans (hk_trans (hk_up rfl) (hk_up rfl)) (hk_up rfl)) rfl rfl
abbrev t10 : iT := [(0, 100, aI 0, 200), (1, 100, aI 0, 200), (2, 100, aI 0, 200), (3, 100, aI 0, 200), (4, 100, aI 0, 200), (5, 100, aI 0, 200), (6, 100, aI 0, 200), (7, 101, aJ 0, 200), (8, 101, aJ 0, 500), (9, 111, aN, 500)]
abbrev fT : List AV := [aN, aN, aN, aN, aN, aN, aN, aN, aN, aN, aI 0, aI 0]
abbrev td00 : TD := (0, 0, fun _ _ => 0, fun _ => 0, fun _ => 0, fun _ => d00)
theorem c_Told_init {lim : Nat × Nat} {d x : Nat} {h : ah_H} {a q : Nat} (hx : a = x + 19) (hxq : q = x + 20) (hc : h.1 a = some (9, fT)) (ha : a < q) (hq : h.2.1 = q) (hr1 : q + 510 ≤ lim.1) (hr2 : h.2.2.1 + 6100 ≤ lim.2) : wq (vc lim (d + 2) m_Told_init [aR a] h) (rV fun h' => TO x td00 h' ∧ hk (fun p => p = a) 510 6100 h h') := by
  refine wq_eq e_Told_init (wq_nn ?_)
  have hP := iP_0 (T := t10) (s0 := h.2.2.1) hc hq rfl
  have hm := ha
  have hr2' := hr2
  have hr2 : h.2.2.1 + 2600 ≤ lim.2 := by omega
  refine ini hP rfl (Nat.le_of_ble_eq_true rfl) hm (by decide) (by decide) (Nat.le_of_ble_eq_true rfl) (by omega) (Nat.le_of_ble_eq_true rfl) hr2 (fun _ hP => ?_)
  refine ini hP rfl (Nat.le_of_ble_eq_true rfl) hm (by decide) (by decide) (Nat.le_of_ble_eq_true rfl) (by omega) (Nat.le_of_ble_eq_true rfl) hr2 (fun _ hP => ?_)
  refine ini hP rfl (Nat.le_of_ble_eq_true rfl) hm (by decide) (by decide) (Nat.le_of_ble_eq_true rfl) (by omega) (Nat.le_of_ble_eq_true rfl) hr2 (fun _ hP => ?_)
  refine ini hP rfl (Nat.le_of_ble_eq_true rfl) hm (by decide) (by decide) (Nat.le_of_ble_eq_true rfl) (by omega) (Nat.le_of_ble_eq_true rfl) hr2 (fun _ hP => ?_)
  refine ini hP rfl (Nat.le_of_ble_eq_true rfl) hm (by decide) (by decide) (Nat.le_of_ble_eq_true rfl) (by omega) (Nat.le_of_ble_eq_true rfl) hr2 (fun _ hP => ?_)
  refine ini hP rfl (Nat.le_of_ble_eq_true rfl) hm (by decide) (by decide) (Nat.le_of_ble_eq_true rfl) (by omega) (Nat.le_of_ble_eq_true rfl) hr2 (fun _ hP => ?_)
  refine ini hP rfl (Nat.le_of_ble_eq_true rfl) hm (by decide) (by decide) (Nat.le_of_ble_eq_true rfl) (by omega) (Nat.le_of_ble_eq_true rfl) hr2 (fun _ hP => ?_)
  refine ini hP rfl (Nat.le_of_ble_eq_true rfl) hm (by decide) (by decide) (Nat.le_of_ble_eq_true rfl) (by omega) (Nat.le_of_ble_eq_true rfl) hr2 (fun _ hP => ?_)
  refine ini hP rfl (Nat.le_of_ble_eq_true rfl) hm (by decide) (by decide) (Nat.le_of_ble_eq_true rfl) (by omega) (Nat.le_of_ble_eq_true rfl) hr2 (fun _ hP => ?_)
  refine ini hP rfl (Nat.le_of_ble_eq_true rfl) hm (by decide) (by decide) (Nat.le_of_ble_eq_true rfl) (by omega) (Nat.le_of_ble_eq_true rfl) hr2 (fun _ hP => ?_)
  obtain ⟨w1, w2, w3, w4, w5⟩ := hP
  have w3 : _ = h.2.2.1 + 2600 := w3
  refine loopD2 (b := q + 10) (F := fun v h => ah_val lim ah_P (d + 1) m_Told_init 97 [some (.inr (.inr (some a))), some (.inl v)] [] h) (E := fun h => some (.inl none, h)) (m := a) (kf := 9) (fl := 9) (a := q + 9) (N := 500) (d := d) (by omega) (fun v h => q_234_97) (fs := iF t10 q fT 10) rfl (by omega) (by omega) 500 0 _ (List.replicate 500 aN) rfl (by omega) (fun j hj => absurd hj (Nat.not_lt_zero _)) w1 (w4 9 _ (by omega) rfl) List.length_replicate (by omega) (by omega) (by omega) (by omega) ?_
  intro h' vs' g1 g2 g3 g4
  obtain ⟨b1, b2, b3⟩ := g1
  subst hx
  subst hxq
  have ar : ∀ j qd, j < 9 → t10[j]? = some qd → h'.1 (x + 20 + j) = some (qd.2.1, List.replicate qd.2.2.2 qd.2.2.1) := fun j qd hj hq => (b1 _ (by omega) (by omega)).trans (w4 j qd (by omega) hq)
  refine wq_some (rV_i ⟨⟨⟨0, 0, (b1 (x + 19) (by omega) (by omega)).trans w1, rfl, rfl⟩, fun j hj => ?_, ?_, ?_, ?_, fun i hi => ?_, Nat.zero_le _, Nat.zero_le _⟩, ?_, ?_, ?_⟩)
  · have : j = 0 ∨ j = 1 ∨ j = 2 ∨ j = 3 ∨ j = 4 ∨ j = 5 ∨ j = 6 := by omega
    rw [show tlA (td00.2.2.1 j) = List.replicate 200 (aI 0) from rep_tl.symm]
    rcases this with rfl | rfl | rfl | rfl | rfl | rfl | rfl
    · exact ar 0 _ (by omega) rfl
    · exact ar 1 _ (by omega) rfl
    · exact ar 2 _ (by omega) rfl
    · exact ar 3 _ (by omega) rfl
    · exact ar 4 _ (by omega) rfl
    · exact ar 5 _ (by omega) rfl
    · exact ar 6 _ (by omega) rfl
  · rw [show cnA 200 td00.2.2.2.1 = List.replicate 200 (aJ 0) from rep_cn.symm]
    exact ar 7 _ (by omega) rfl
  · rw [show cnA 500 td00.2.2.2.2.1 = List.replicate 500 (aJ 0) from rep_cn.symm]
    exact ar 8 _ (by omega) rfl
  · rw [← rm_eq g3 (fun j hj => (g4 j hj).1)]
    exact g2
  · exact (g4 i hi).2
  · intro r h1 h2
    exact (b1 r (by omega) (by omega)).trans (w5 r (by omega) h2)
  · rw [b2]; omega
  · rw [b3]; omega
theorem c_Finder_init {lim : Nat × Nat} {d : Nat} {h : ah_H} {a q sg : Nat} (hc : h.1 a = some (2, [aN, aN, aI 0])) (ha : a < q) (hq : h.2.1 = q) (hr1 : q + 105 ≤ lim.1) (hr2 : h.2.2.1 + 832 ≤ lim.2) : wq (vc lim (d + 2) m_Finder_init [aR a, aR sg] h) (rV fun h' => FS a q sg (fun i => q + 1 + i) (fun _ => d00) 0 h' ∧ hk (fun p => p = a) 105 832 h h') := by
  refine wq_eq e_Finder_init (wq_nn (wq_wr hc (Nat.le_of_ble_eq_true rfl) (wq_mka (by decide) (by decide : Int32.toNatClampNeg 104 = 104) (by decide) ⟨by show h.2.1 < _; omega, by show h.2.2.1 + 104 ≤ _; omega⟩ (wq_wr (nw_ne (by show a ≠ h.2.1; omega) up_eq) (Nat.le_of_ble_eq_true rfl) ?_))))
  refine loopD2 (b := h.2.1 + 1) (F := fun v h => ah_val lim ah_P (d + 1) m_Finder_init 20 [some (.inr (.inr (some a))), none, some (.inl v)] [] h) (E := fun h => some (.inl none, h)) (m := a) (kf := 2) (fl := 1) (a := h.2.1) (N := 104) (d := d) (by omega) (fun v h => q_134_20) (fs := [aR sg, aR h.2.1, aI 0]) rfl (by omega) (by omega) 104 0 _ (List.replicate 104 aN) rfl rfl (fun j hj => absurd hj (Nat.not_lt_zero _)) up_eq (up_ne (by omega) nw_eq) List.length_replicate (by show a < h.2.1 + 1; omega) (by show h.2.1 < h.2.1 + 1; omega) (by show h.2.1 + 1 + 104 ≤ _; omega) (by show h.2.2.1 + 104 + 7 * 104 ≤ _; omega) ?_
  intro h' vs' g1 g2 g3 g4
  obtain ⟨b1, b2, b3⟩ := g1
  refine wq_some (rV_i ⟨⟨⟨0, ?_, rfl⟩, ?_, fun i hi => ?_, Nat.zero_le _, fun i j _ _ e => by have e : q + 1 + i = q + 1 + j := e; omega⟩, ?_, ?_, ?_⟩)
  · rw [← hq]
    exact (b1 a (by show a < h.2.1 + 1; omega) (by show ¬ a = h.2.1; omega)).trans up_eq
  · rw [← hq, ← rm_eq g3 (fun j hj => (g4 j hj).1)]
    exact g2
  · rw [← hq]
    exact (g4 i hi).2
  · intro r h1 h2
    exact (b1 r (by show r < h.2.1 + 1; omega) (by show ¬ r = h.2.1; omega)).trans (up_ne h2 (nw_ne (by show r ≠ h.2.1; omega) (up_ne h2 rfl)))
  · rw [b2]
    show h.2.1 + 1 + 104 = h.2.1 + 105
    omega
  · rw [b3]
    show h.2.2.1 + 104 + 7 * 104 = h.2.2.1 + 832
    omega
theorem c_Runner_init {lim : Nat × Nat} {d : Nat} {h : ah_H} {a q x sg td : Nat} (hs : sg = x + 1) (ht : td = x + 19) (hc : h.1 a = some (6, [aN, aN, aN, aN, aN, aN, aN, aI 0, aI 0, aI 0, aI 0])) (hx : a = x + 530) (hxq : q = x + 531) (ha : a < q) (hq : h.2.1 = q) (hr1 : q + 125 ≤ lim.1) (hr2 : h.2.2.1 + 986 ≤ lim.2) : wq (vc lim (d + 3) m_Runner_init [aR a, aR sg, aR td] h) (rV fun h' => FS (x + 531) (x + 532) (x + 1) (fun i => x + 533 + i) (fun _ => d00) 0 h' ∧ (h'.1 (x + 530) = some (6, rnF x none 0 0 0 0) ∧ h'.1 (x + 637) = some (1, dW d00) ∧ h'.1 (x + 638) = some (111, (List.range 16).map fun i => aR (x + 639 + i)) ∧ (∀ i, i < 16 → h'.1 (x + 639 + i) = some (1, dW d00)) ∧ h'.1 (x + 655) = some (101, cnA 16 fun _ => 0)) ∧ hk (fun p => p = a) 125 986 h h') := by
  subst hs
  subst ht
  refine wq_eq e_Runner_init (wq_nn (wq_wr hc (Nat.le_of_ble_eq_true rfl) (wq_wr up_eq (Nat.le_of_ble_eq_true rfl) (wq_mk ⟨by show h.2.1 < _; omega, by show h.2.2.1 + 3 ≤ _; omega⟩ (wq_at nw_eq (wq_cV (c_Finder_init (q := q + 1) (sg := x + 1) nw_eq (by show h.2.1 < q + 1; omega) (by show h.2.1 + 1 = _; omega) (by omega) (by show h.2.2.1 + 3 + 832 ≤ _; omega)) ?_))))))
  intro h5 g
  obtain ⟨F5, b1, b2, b3⟩ := g
  have b2 : h5.2.1 = h.2.1 + 1 + 105 := b2
  have b3 : h5.2.2.1 = h.2.2.1 + 3 + 832 := b3
  have o5 : ∀ r, r < q → r ≠ a → h5.1 r = h.1 r := fun r h1 h2 => (b1 r (by show r < h.2.1 + 1; omega) (by show ¬ r = h.2.1; omega)).trans (nw_ne (by show r ≠ h.2.1; omega) (up_ne h2 (up_ne h2 rfl)))
  have a5 : h5.1 a = some (6, [aR (x + 1), aR (x + 19), aN, aN, aN, aN, aN, aI 0, aI 0, aI 0, aI 0]) := (b1 a (by show a < h.2.1 + 1; omega) (by show ¬ a = h.2.1; omega)).trans (nw_ne (by show a ≠ h.2.1; omega) up_eq)
  refine wq_wr a5 (Nat.le_of_ble_eq_true rfl) (wq_mk ⟨by show h5.2.1 < _; omega, by show h5.2.2.1 + 7 ≤ _; omega⟩ (wq_at nw_eq (wq_cV (c_Datum_i1 nw_eq rfl) ?_)))
  intro h9 e9
  subst e9
  refine wq_wr (up_ne (by show a ≠ h5.2.1; omega) (nw_ne (by show a ≠ h5.2.1; omega) up_eq)) (Nat.le_of_ble_eq_true rfl) (wq_mka (by decide) (by decide : Int32.toNatClampNeg 16 = 16) (by decide) ⟨by show h5.2.1 + 1 < _; omega, by show h5.2.2.1 + 7 + 16 ≤ _; omega⟩ (wq_wr (nw_ne (by show a ≠ h5.2.1 + 1; omega) up_eq) (Nat.le_of_ble_eq_true rfl) ?_))
  refine loopD2 (b := h5.2.1 + 2) (F := fun v h => ah_val lim ah_P (d + 2) m_Runner_init 48 [some (.inr (.inr (some a))), none, none, some (.inl v)] [] h) (E := fun h => ah_mka lim h 101 (.inr (.inl 0)) (16 : Int32) fun r8 h9 => ah_wr h9 (some a) 6 5 (.inr (.inr r8)) fun h10 => some (.inl none, h10)) (m := a) (kf := 6) (fl := 4) (a := h5.2.1 + 1) (N := 16) (d := d + 1) (by omega) (fun v h => q_206_48) (fs := [aR (x + 1), aR (x + 19), aR h.2.1, aR h5.2.1, aR (h5.2.1 + 1), aN, aN, aI 0, aI 0, aI 0, aI 0]) rfl (by omega) (by omega) 16 0 _ (List.replicate 16 aN) rfl rfl (fun j hj => absurd hj (Nat.not_lt_zero _)) up_eq (up_ne (by omega) nw_eq) List.length_replicate (by show a < h5.2.1 + 1 + 1; omega) (by show h5.2.1 + 1 < h5.2.1 + 1 + 1; omega) (by show h5.2.1 + 1 + 1 + 16 ≤ _; omega) (by show h5.2.2.1 + 7 + 16 + 7 * 16 ≤ _; omega) ?_
  intro h' vs' g1 g2 g3 g4
  obtain ⟨c1, c2, c3⟩ := g1
  have c2 : h'.2.1 = h5.2.1 + 1 + 1 + 16 := c2
  have c3 : h'.2.2.1 = h5.2.2.1 + 7 + 16 + 7 * 16 := c3
  have a' : h'.1 a = some (6, [aR (x + 1), aR (x + 19), aR h.2.1, aR h5.2.1, aR (h5.2.1 + 1), aN, aN, aI 0, aI 0, aI 0, aI 0]) := (c1 a (by show a < h5.2.1 + 1 + 1; omega) (by show ¬ a = h5.2.1 + 1; omega)).trans up_eq
  refine wq_mka (by decide) (by decide : Int32.toNatClampNeg 16 = 16) (by decide) ⟨by omega, by omega⟩ (wq_wr (nw_ne (by omega) a') (Nat.le_of_ble_eq_true rfl) (wq_some (rV_i ⟨?_, ⟨?_, ?_, ?_, ?_, ?_⟩, ?_, ?_, ?_⟩)))
  · subst hx
    subst hxq
    have q5 : h5.2.1 = x + 637 := by omega
    have F6 : FS (x + 531) (x + 532) (x + 1) (fun i => x + 533 + i) (fun _ => d00) 0 h5 := by
      have F7 : FS h.2.1 (x + 531 + 1) (x + 1) (fun i => x + 531 + 1 + 1 + i) (fun _ => d00) 0 h5 := F5
      rw [hq] at F7
      exact F7
    refine FS_k F6 (fun r r1 r2 => up_ne (by omega) (nw_ne (by omega) ((c1 r (by show r < h5.2.1 + 1 + 1; omega) (by show ¬ r = h5.2.1 + 1; omega)).trans ?_)))
    exact up_ne (by omega) (nw_ne (by show r ≠ h5.2.1 + 1; omega) (up_ne (by omega) (up_ne (by show r ≠ h5.2.1; omega) (nw_ne (by show r ≠ h5.2.1; omega) (up_ne (by omega) rfl)))))
  · subst hx
    refine up_eq.trans ?_
    show some (6, [aR (x + 1), aR (x + 19), aR h.2.1, aR h5.2.1, aR (h5.2.1 + 1), aR h'.2.1, aN, aI 0, aI 0, aI 0, aI 0]) = _
    rw [show h.2.1 = x + 531 by omega, show h5.2.1 = x + 637 by omega, show h'.2.1 = x + 655 by omega]
  · refine up_ne (by omega) (nw_ne (by omega) ((c1 _ (by show x + 637 < h5.2.1 + 1 + 1; omega) (by show ¬ x + 637 = h5.2.1 + 1; omega)).trans ?_))
    refine up_ne (by omega) (nw_ne (by show x + 637 ≠ h5.2.1 + 1; omega) (up_ne (by omega) ?_))
    rw [show x + 637 = h5.2.1 by omega]
    exact up_eq
  · refine up_ne (by omega) (nw_ne (by omega) ?_)
    rw [show x + 638 = h5.2.1 + 1 by omega, g2, rm_eq g3 (fun j hj => (g4 j hj).1), show h5.2.1 + 2 = x + 639 by omega]
  · intro i hi
    refine up_ne (by omega) (nw_ne (by omega) ?_)
    rw [show x + 639 + i = h5.2.1 + 2 + i by omega]
    exact (g4 i hi).2
  · refine up_ne (by omega) ?_
    rw [show x + 655 = h'.2.1 by omega, ← rep_cn]
    exact nw_eq
  · intro r h1 h2
    refine up_ne h2 (nw_ne (by omega) ?_)
    refine (c1 r (by show r < h5.2.1 + 1 + 1; omega) (by show ¬ r = h5.2.1 + 1; omega)).trans ?_
    exact up_ne h2 (nw_ne (by show r ≠ h5.2.1 + 1; omega) (up_ne h2 (up_ne (by show r ≠ h5.2.1; omega) (nw_ne (by show r ≠ h5.2.1; omega) (up_ne h2 (o5 r (by omega) h2))))))
  · show h'.2.1 + 1 = _
    omega
  · show h'.2.2.1 + 16 = _
    omega
abbrev kd00 : KD := ((fun _ => d00, d00, fun _ => d00, fun _ => 0, none, 0, 0, 0, 0), td00, (0, fun _ => 0, fun _ => thI 0 0 0), (0, fun _ => (0, (0, fun _ _ => 0, fun _ _ => 0), 0, fun _ => 0, fun _ => thI 0 0 0, usN, fun _ => 0, fun _ => 0)), 0, fun _ => 0, fun _ => thI 0 0 0)
set_option maxHeartbeats 1000000 in
theorem c_Code_init2 {lim : Nat × Nat} {d : Nat} {h : ah_H} {x : Nat} (hc : h.1 x = some (0, [aN, aN, aN, aN, aI 0, aI 0, aN, aN])) (hq : h.2.1 = x + 1) (hr1 : x + 656 ≤ lim.1) (hr2 : h.2.2.1 + 47835 ≤ lim.2) : wq (vc lim (d + 4) m_Code_init [aR x] h) (rV fun h' => KI x kd00 h' ∧ (∀ j, j < 8 → h'.1 (x + 5 + j) = some (100, List.replicate 4000 (aI 0))) ∧ hk (fun p => p = x) 655 47835 h h') := by
  refine wq_eq e_Code_init (wq_nn (wq_mk ⟨by omega, by omega⟩ (wq_at nw_eq (wq_cV (c_Things_init (n := 512) nw_eq (by show h.2.1 < h.2.1 + 1; omega) (by decide) (by decide) (by decide) ⟨by show h.2.1 + 1 < _; omega, by show h.2.2.1 + 2 + 512 ≤ _; omega⟩) ?_))))
  intro h3 ⟨y1, y2, y3⟩
  obtain ⟨z1, z2, z3⟩ := y3
  have z2 : h3.2.1 = h.2.1 + 1 + 1 := z2
  have z3 : h3.2.2.1 = h.2.2.1 + 2 + 512 := z3
  have y1 : h3.1 (h.2.1) = some (8, [aR (h.2.1 + 1), aI 0]) := y1
  have y2 : h3.1 (h.2.1 + 1) = some (117, List.replicate 512 aN) := y2
  have oA : ∀ r, r < x + 1 → h3.1 r = h.1 r := fun r h1 => (z1 r (by show r < h.2.1 + 1; omega) (by show ¬ r = h.2.1; omega)).trans (nw_ne (by omega) rfl)
  have xA := (oA x (by omega)).trans hc
  refine wq_wr xA (Nat.le_of_ble_eq_true rfl) ?_
  refine wq_mk ⟨by show h3.2.1 < _; omega, by show h3.2.2.1 + 5 ≤ _; omega⟩ (wq_at nw_eq (wq_cV (c_Maker_init (q := x + 4) nw_eq (by show h3.2.1 < _; omega) (by show h3.2.1 + 1 = _; omega) (by omega) (by show h3.2.2.1 + 5 + 40140 ≤ _; omega)) ?_))
  intro h7 g
  have e3 : h3.2.1 = x + 3 := by omega
  have g : mkP h3.2.1 (x + 4) _ h7 := g
  rw [e3] at g
  obtain ⟨m1, m2, m3, m4, m5, m6, m7, k1, k2, k3⟩ := g
  have k2 : h7.2.1 = h3.2.1 + 1 + 13 := k2
  have k3 : h7.2.2.1 = h3.2.2.1 + 5 + 40140 := k3
  have oB : ∀ r, r < x + 3 → r ≠ x → h7.1 r = h3.1 r := fun r h1 h2 => (k1 r (by show r < h3.2.1 + 1; omega) (by show ¬ r = x + 3; omega)).trans (nw_ne (by show r ≠ h3.2.1; omega) (up_ne h2 rfl))
  have xB : h7.1 x = some (0, [aR h.2.1, aN, aN, aN, aI 0, aI 0, aN, aN]) := (k1 x (by show x < h3.2.1 + 1; omega) (by show ¬ x = x + 3; omega)).trans (nw_ne (by show x ≠ h3.2.1; omega) up_eq)
  refine wq_wr xB (Nat.le_of_ble_eq_true rfl) ?_
  refine wq_mk ⟨by show h7.2.1 < _; omega, by show h7.2.2.1 + 3 ≤ _; omega⟩ ?_
  refine wq_gR (nw_ne (by show x ≠ h7.2.1; omega) up_eq) rfl (wq_gR (nw_ne (by show x ≠ h7.2.1; omega) up_eq) rfl (wq_at nw_eq ?_))
  refine wq_cV (c_Looker_init (mk := h3.2.1) (nd := x + 4) nw_eq (nw_ne (by show h3.2.1 ≠ h7.2.1; omega) (up_ne (by omega) (by rw [e3]; exact m1))) rfl (by show h7.2.1 ≠ h3.2.1; omega)) ?_
  intro h13 ⟨l1, l2, l3, l4⟩
  have e7 : h7.2.1 = x + 17 := by omega
  have l3 : h13.2.1 = h7.2.1 + 1 + 0 := l3
  have l4 : h13.2.2.1 = h7.2.2.1 + 3 + 0 := l4
  have l1 : h13.1 h7.2.1 = some (3, [aR h3.2.1, aR (x + 4), aR h.2.1]) := l1
  have oC : ∀ r, r < x + 17 → r ≠ x → h13.1 r = h7.1 r := fun r h1 h2 => (l2 r (by show r < h7.2.1 + 1; omega) (by show ¬ r = h7.2.1; omega)).trans (nw_ne (by show r ≠ h7.2.1; omega) (up_ne h2 rfl))
  have xC : h13.1 x = some (0, [aR h.2.1, aR h3.2.1, aN, aN, aI 0, aI 0, aN, aN]) := (l2 x (by show x < h7.2.1 + 1; omega) (by show ¬ x = h7.2.1; omega)).trans (nw_ne (by show x ≠ h7.2.1; omega) up_eq)
  refine wq_wr xC (Nat.le_of_ble_eq_true rfl) ?_
  refine wq_mka (by decide) (by decide : Int32.toNatClampNeg 64 = 64) (by decide) ⟨by show h13.2.1 < _; omega, by show h13.2.2.1 + 64 ≤ _; omega⟩ (wq_wr (nw_ne (by show x ≠ h13.2.1; omega) up_eq) (Nat.le_of_ble_eq_true rfl) ?_)
  refine wq_mk ⟨by show h13.2.1 + 1 < _; omega, by show h13.2.2.1 + 64 + 12 ≤ _; omega⟩ (wq_at nw_eq (wq_cV (c_Told_init (q := x + 20) (x := x) (by show h13.2.1 + 1 = _; omega) rfl nw_eq (by show h13.2.1 + 1 < _; omega) (by show h13.2.1 + 1 + 1 = _; omega) (by omega) (by show h13.2.2.1 + 64 + 12 + 6100 ≤ _; omega)) ?_))
  intro h20 ⟨t1, t3, t4, t5⟩
  have t4 : h20.2.1 = h13.2.1 + 1 + 1 + 510 := t4
  have t5 : h20.2.2.1 = h13.2.2.1 + 64 + 12 + 6100 := t5
  have e13 : h13.2.1 = x + 18 := by omega
  have oE : ∀ r, r < x + 18 → r ≠ x → h20.1 r = h13.1 r := fun r h1 h2 => (t3 r (by show r < h13.2.1 + 1 + 1; omega) (by show ¬ r = h13.2.1 + 1; omega)).trans (nw_ne (by show r ≠ h13.2.1 + 1; omega) (up_ne h2 (nw_ne (by show r ≠ h13.2.1; omega) (up_ne h2 rfl))))
  have uE : h20.1 h13.2.1 = some (120, List.replicate 64 aN) := (t3 _ (by show h13.2.1 < h13.2.1 + 1 + 1; omega) (by show ¬ h13.2.1 = h13.2.1 + 1; omega)).trans (nw_ne (by show h13.2.1 ≠ h13.2.1 + 1; omega) (up_ne (by omega) nw_eq))
  have xE : h20.1 x = some (0, [aR h.2.1, aR h3.2.1, aR h7.2.1, aR h13.2.1, aI 0, aI 0, aN, aN]) := (t3 x (by show x < h13.2.1 + 1 + 1; omega) (by show ¬ x = h13.2.1 + 1; omega)).trans (nw_ne (by show x ≠ h13.2.1 + 1; omega) up_eq)
  refine wq_wr xE (Nat.le_of_ble_eq_true rfl) ?_
  refine wq_mk ⟨by show h20.2.1 < _; omega, by show h20.2.2.1 + 11 ≤ _; omega⟩ ?_
  refine wq_gR (nw_ne (by show x ≠ h20.2.1; omega) up_eq) rfl (wq_gR (nw_ne (by show x ≠ h20.2.1; omega) up_eq) rfl (wq_at nw_eq ?_))
  refine wq_cV (c_Runner_init (q := x + 531) (x := x) hq (show h13.2.1 + 1 = x + 19 by omega) nw_eq (by show h20.2.1 = _; omega) rfl (by show h20.2.1 < _; omega) (by show h20.2.1 + 1 = _; omega) (by omega) (by show h20.2.2.1 + 11 + 986 ≤ _; omega)) ?_
  intro h26 ⟨F26, ⟨r1, r2, r3, r4, r5⟩, n1, n2, n3⟩
  have n2 : h26.2.1 = h20.2.1 + 1 + 125 := n2
  have n3 : h26.2.2.1 = h20.2.2.1 + 11 + 986 := n3
  have e20 : h20.2.1 = x + 530 := by omega
  have oF : ∀ r, r < x + 530 → r ≠ x → h26.1 r = h20.1 r := fun r h1 h2 => (n1 r (by show r < h20.2.1 + 1; omega) (by show ¬ r = h20.2.1; omega)).trans (nw_ne (by show r ≠ h20.2.1; omega) (up_ne h2 rfl))
  have xF : h26.1 x = some (0, [aR h.2.1, aR h3.2.1, aR h7.2.1, aR h13.2.1, aI 0, aI 0, aR (h13.2.1 + 1), aN]) := (n1 x (by show x < h20.2.1 + 1; omega) (by show ¬ x = h20.2.1; omega)).trans (nw_ne (by show x ≠ h20.2.1; omega) up_eq)
  refine wq_wr xF (Nat.le_of_ble_eq_true rfl) (wq_some (rV_i ?_))
  have fE : ∀ r, r < x + 530 → r ≠ x → (ah_up h26 x (0, [aR h.2.1, aR h3.2.1, aR h7.2.1, aR h13.2.1, aI 0, aI 0, aR (h13.2.1 + 1), aR h20.2.1])).1 r = h20.1 r := fun r h1 h2 => up_ne h2 (oF r h1 h2)
  have fC' : ∀ r, r < x + 18 → r ≠ x → (ah_up h26 x (0, [aR h.2.1, aR h3.2.1, aR h7.2.1, aR h13.2.1, aI 0, aI 0, aR (h13.2.1 + 1), aR h20.2.1])).1 r = h13.1 r := fun r h1 h2 => (fE r (by omega) h2).trans (oE r h1 h2)
  have fB : ∀ r, r < x + 17 → r ≠ x → (ah_up h26 x (0, [aR h.2.1, aR h3.2.1, aR h7.2.1, aR h13.2.1, aI 0, aI 0, aR (h13.2.1 + 1), aR h20.2.1])).1 r = h7.1 r := fun r h1 h2 => (fC' r (by omega) h2).trans (oC r h1 h2)
  have fA : ∀ r, r < x + 3 → r ≠ x → (ah_up h26 x (0, [aR h.2.1, aR h3.2.1, aR h7.2.1, aR h13.2.1, aI 0, aI 0, aR (h13.2.1 + 1), aR h20.2.1])).1 r = h3.1 r := fun r h1 h2 => (fB r (by omega) h2).trans (oB r h1 h2)
  have hi : ∀ r, x + 530 ≤ r → (ah_up h26 x (0, [aR h.2.1, aR h3.2.1, aR h7.2.1, aR h13.2.1, aI 0, aI 0, aR (h13.2.1 + 1), aR h20.2.1])).1 r = h26.1 r := fun r h1 => up_ne (by omega) rfl
  have x1 : (ah_up h26 x (0, [aR h.2.1, aR h3.2.1, aR h7.2.1, aR h13.2.1, aI 0, aI 0, aR (h13.2.1 + 1), aR h20.2.1])).1 (x + 1) = some (8, [aR (x + 2), aI 0]) := by
    refine (fA _ (by omega) (by omega)).trans ?_
    rw [← hq]; rw [y1, hq]
  have x2 : (ah_up h26 x (0, [aR h.2.1, aR h3.2.1, aR h7.2.1, aR h13.2.1, aI 0, aI 0, aR (h13.2.1 + 1), aR h20.2.1])).1 (x + 2) = some (117, List.replicate 512 aN) := by
    refine (fA _ (by omega) (by omega)).trans ?_
    rw [← y2, hq]
  refine ⟨⟨⟨⟨0, 0, ?_, rfl, Nat.zero_le _⟩, ⟨List.replicate 64 aN, ?_, List.length_replicate, fun j hj => absurd hj (Nat.not_lt_zero _)⟩, ⟨0, (fB _ (by omega) (by omega)).trans m1⟩, ⟨0, 0, (fB _ (by omega) (by omega)).trans m2⟩, ?_, ⟨_, x2, List.length_replicate⟩, ⟨_, (fB _ (by omega) (by omega)).trans m5, List.length_replicate⟩⟩, ⟨⟨0, FS_k F26 (fun r r1 _ => hi r (by omega))⟩, ⟨(hi _ (by omega)).trans r1, (hi _ (by omega)).trans r2, (hi _ (by omega)).trans r3, fun i h1 => (hi _ (by omega)).trans (r4 i h1), (hi _ (by omega)).trans r5⟩, TO_tf t1 (fun r r1 r2 => fE r r2 (by omega))⟩, ⟨⟨_, _, 0, x1, ⟨rfl, rfl⟩, x2, Nat.zero_le _, by rw [List.length_replicate]; omega, fun i hi => absurd hi (Nat.not_lt_zero _)⟩, fun i hi => absurd hi (Nat.not_lt_zero _)⟩, fun j hj => absurd hj (Nat.not_lt_zero _), ⟨⟨_, _, 0, (fB _ (by omega) (by omega)).trans m4, ⟨rfl, rfl⟩, (fB _ (by omega) (by omega)).trans m5, Nat.zero_le _, by rw [List.length_replicate]; omega, fun i hi => absurd hi (Nat.not_lt_zero _)⟩, fun i hi => absurd hi (Nat.not_lt_zero _)⟩, ?_⟩, fun j hj => ?_, fun r h1 h2 => ?_, ?_, ?_⟩
  · refine up_eq.trans ?_
    show some (0, [aR h.2.1, aR h3.2.1, aR h7.2.1, aR h13.2.1, aI 0, aI 0, aR (h13.2.1 + 1), aR h20.2.1]) = _
    rw [hq, e3, e7, e13, e20]
  · refine (fE _ (by omega) (by omega)).trans ?_
    rw [← e13]; exact uE
  · refine (fC' _ (by omega) (by omega)).trans ?_
    rw [← e7, l1, e3, hq]
  · refine ⟨by show x + 656 ≤ h26.2.1; omega, fun i hi => absurd hi (Nat.not_lt_zero _), fun i hi => absurd hi (Nat.not_lt_zero _), fun i hi => absurd hi (Nat.not_lt_zero _), fun i j hi => absurd hi (Nat.not_lt_zero _), fun i j hi => absurd hi (Nat.not_lt_zero _), fun i j hi => absurd hi (Nat.not_lt_zero _), fun i hi => absurd hi (Nat.not_lt_zero _), fun i j hi => absurd hi (Nat.not_lt_zero _)⟩
  · refine (fB _ (by omega) (by omega)).trans ?_
    have := m3 j hj
    rw [← this, show x + 4 + 1 + j = x + 5 + j by omega]
  · exact (fA r (by omega) h2).trans (oA r (by omega))
  · show h26.2.1 = _
    omega
  · show h26.2.2.1 = _
    omega
