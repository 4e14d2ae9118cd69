/-! CONSTRUCTORS -/
theorem hk_cast {S : Nat → Prop} {c n c' n' : Nat} {h h' : ah_H} (k : hk S c n h h') (e1 : c = c') (e2 : n = n') : hk S c' n' h h' := by subst e1; subst e2; exact k
theorem c_Things_init {lim : Nat × Nat} {d : Nat} {h : ah_H} {a n : Nat} {c : AV} {j : Int32} (hc : h.1 a = some (8, [aN, c])) (ha : a < h.2.1) (hj : ¬ (if j < (0 : Int32) then (0 : Int32) else j) < 0) (hn : (if j < (0 : Int32) then (0 : Int32) else j).toNatClampNeg = n) (hb : n * 8 ≤ 536870912) (hr : h.2.1 < lim.1 ∧ h.2.2.1 + n ≤ lim.2) :
    wq (vc lim (d + 1) m_Things_init [aR a, aI j] h) (rV fun h' => h'.1 a = some (8, [aR h.2.1, c]) ∧ h'.1 h.2.1 = some (117, List.replicate n aN) ∧ hk (fun q => q = a) 1 n h h') := by
  refine wq_eq e_Things_init (wq_nn (wq_mka hj hn hb hr (wq_wr (nw_ne (by omega) hc) (Nat.le_of_ble_eq_true rfl) (wq_some (rV_i ⟨up_eq, up_ne (by omega) nw_eq, ?_⟩)))))
  exact hk_cast (hk_trans hk_new (hk_up rfl)) rfl rfl
abbrev t8 : iT := [(0, 100, aI 0, 4000), (1, 100, aI 0, 4000), (2, 100, aI 0, 4000), (3, 100, aI 0, 4000), (4, 100, aI 0, 4000), (5, 100, aI 0, 4000), (6, 100, aI 0, 4000), (7, 100, aI 0, 4000)]
abbrev fN : List AV := [aN, aN, aN, aN, aN, aN, aN, aN, aI 0, aI 0]
theorem c_Nodes_init {lim : Nat × Nat} {d : Nat} {h : ah_H} {a q0 s0 : Nat} (hc : h.1 a = some (5, fN)) (hm : a < q0) (hq : h.2.1 = q0) (hs : h.2.2.1 = s0) (hr1 : q0 + 8 ≤ lim.1) (hr2 : s0 + 32000 ≤ lim.2) : wq (vc lim (d + 1) m_Nodes_init [aR a, aI 4000] h) (rV (iP t8 5 fN a q0 s0 h 8)) := by
  refine wq_eq e_Nodes_init (wq_nn ?_)
  have hP := iP_0 (T := t8) hc hq hs
  refine ini hP rfl (Nat.le_of_ble_eq_true rfl) hm (by decide) (by decide) (Nat.le_of_ble_eq_true rfl) (by omega) (Nat.le_of_ble_eq_true rfl) hr2 (fun _ hP => ?_)
  refine ini hP rfl (Nat.le_of_ble_eq_true rfl) hm (by decide) (by decide) (Nat.le_of_ble_eq_true rfl) (by omega) (Nat.le_of_ble_eq_true rfl) hr2 (fun _ hP => ?_)
  refine ini hP rfl (Nat.le_of_ble_eq_true rfl) hm (by decide) (by decide) (Nat.le_of_ble_eq_true rfl) (by omega) (Nat.le_of_ble_eq_true rfl) hr2 (fun _ hP => ?_)
  refine ini hP rfl (Nat.le_of_ble_eq_true rfl) hm (by decide) (by decide) (Nat.le_of_ble_eq_true rfl) (by omega) (Nat.le_of_ble_eq_true rfl) hr2 (fun _ hP => ?_)
  refine ini hP rfl (Nat.le_of_ble_eq_true rfl) hm (by decide) (by decide) (Nat.le_of_ble_eq_true rfl) (by omega) (Nat.le_of_ble_eq_true rfl) hr2 (fun _ hP => ?_)
  refine ini hP rfl (Nat.le_of_ble_eq_true rfl) hm (by decide) (by decide) (Nat.le_of_ble_eq_true rfl) (by omega) (Nat.le_of_ble_eq_true rfl) hr2 (fun _ hP => ?_)
  refine ini hP rfl (Nat.le_of_ble_eq_true rfl) hm (by decide) (by decide) (Nat.le_of_ble_eq_true rfl) (by omega) (Nat.le_of_ble_eq_true rfl) hr2 (fun _ hP => ?_)
  refine ini hP rfl (Nat.le_of_ble_eq_true rfl) hm (by decide) (by decide) (Nat.le_of_ble_eq_true rfl) (by omega) (Nat.le_of_ble_eq_true rfl) hr2 (fun _ hP => ?_)
  exact wq_some (rV_i hP)
abbrev t2 : iT := [(2, 100, aI 0, 4000), (3, 100, aI 0, 4000)]
/-- what Maker() makes, from the address q on -/
def mkP (a q : Nat) (h h' : ah_H) : Prop := h'.1 a = some (4, [aR q, aR (q + 9), aR (q + 11), aR (q + 12), aI 0]) ∧ h'.1 q = some (5, [aR (q + 1), aR (q + 2), aR (q + 3), aR (q + 4), aR (q + 5), aR (q + 6), aR (q + 7), aR (q + 8), aI 0, aI 0]) ∧ (∀ j, j < 8 → h'.1 (q + 1 + j) = some (100, List.replicate 4000 (aI 0))) ∧
  h'.1 (q + 9) = some (8, [aR (q + 10), aI 0]) ∧ h'.1 (q + 10) = some (117, List.replicate 128 aN) ∧ h'.1 (q + 11) = some (100, List.replicate 4000 (aI 0)) ∧ h'.1 (q + 12) = some (100, List.replicate 4000 (aI 0)) ∧ hk (fun p => p = a) 13 40140 h h'
theorem c_Maker_init {lim : Nat × Nat} {d : Nat} {h : ah_H} {a q : Nat} (hc : h.1 a = some (4, [aN, aN, aN, aN, aI 0])) (ha : a < q) (hq : h.2.1 = q) (hr1 : q + 13 ≤ lim.1) (hr2 : h.2.2.1 + 40140 ≤ lim.2) : wq (vc lim (d + 2) m_Maker_init [aR a] h) (rV (mkP a q h)) := by
  refine wq_eq e_Maker_init (wq_nn (wq_mk ⟨by omega, by omega⟩ (wq_at nw_eq (wq_cV (c_Nodes_init (q0 := q + 1) (s0 := h.2.2.1 + 10) nw_eq (by omega) (by show h.2.1 + 1 = _; omega) rfl (by omega) (by omega)) ?_))))
  intro h3 hP
  obtain ⟨p1, p2, p3, p4, p5⟩ := hP
  have p3 : h3.2.2.1 = h.2.2.1 + 10 + 32000 := p3
  have ha3 : h3.1 a = some (4, [aN, aN, aN, aN, aI 0]) := (p5 a (by omega) (by omega)).trans (nw_ne (by omega) hc)
  rw [hq] at p1
  refine wq_wr ha3 (Nat.le_of_ble_eq_true rfl) (wq_mk ⟨by show h3.2.1 < _; omega, by show h3.2.2.1 + 2 ≤ _; omega⟩ (wq_at nw_eq (wq_cV (c_Things_init (n := 128) nw_eq (by show h3.2.1 < h3.2.1 + 1; omega) (by decide) (by decide) (by decide) ⟨by show h3.2.1 + 1 < _; omega, by show h3.2.2.1 + 2 + 128 ≤ _; omega⟩) ?_)))
  intro h7 ⟨y1, y2, y3⟩
  obtain ⟨z1, z2, z3⟩ := id y3
  have z2 : h7.2.1 = h3.2.1 + 1 + 1 := z2
  have z3 : h7.2.2.1 = h3.2.2.1 + 2 + 128 := z3
  have y1 : h7.1 h3.2.1 = some (8, [aR (h3.2.1 + 1), aI 0]) := y1
  have y2 : h7.1 (h3.2.1 + 1) = some (117, List.replicate 128 aN) := y2
  have old : ∀ r, r < h3.2.1 → r ≠ a → h7.1 r = h3.1 r := fun r h1 h2 => (z1 r (by show r < h3.2.1 + 1; omega) (by show ¬ r = h3.2.1; omega)).trans (nw_ne (by show r ≠ h3.2.1; omega) (up_ne h2 rfl))
  have ha7 : h7.1 a = some (4, [aR h.2.1, aN, aN, aN, aI 0]) := (z1 a (by show a < h3.2.1 + 1; omega) (by show ¬ a = h3.2.1; omega)).trans (nw_ne (by show a ≠ h3.2.1; omega) up_eq)
  refine wq_wr ha7 (Nat.le_of_ble_eq_true rfl) ?_
  have hP := iP_0 (T := t2) (kf := 4) (m := a) (q0 := q + 11) (s0 := h7.2.2.1) (h := ah_up h7 a (4, [aR h.2.1, aR h3.2.1, aN, aN, aI 0])) up_eq (by show h7.2.1 = _; omega) rfl
  have hm : a < q + 11 := by omega
  have hr2 : h7.2.2.1 + 8000 ≤ lim.2 := by omega
  refine ini hP rfl (Nat.le_of_ble_eq_true rfl) hm (by decide) (by decide) (Nat.le_of_ble_eq_true rfl) (by omega) (Nat.le_of_ble_eq_true rfl) hr2 (fun _ hP => ?_)
  refine ini hP rfl (Nat.le_of_ble_eq_true rfl) hm (by decide) (by decide) (Nat.le_of_ble_eq_true rfl) (by omega) (Nat.le_of_ble_eq_true rfl) hr2 (fun _ hP => ?_)
  obtain ⟨w1, w2, w3, w4, w5⟩ := hP
  have w3 : _ = h7.2.2.1 + 8000 := w3
  have e3 : h3.2.1 = q + 9 := by omega
  rw [hq, e3] at w1
  rw [e3] at y1 y2
  refine wq_some (rV_i ⟨w1, ?_, ?_, ?_, ?_, w4 0 _ (by omega) rfl, w4 1 _ (by omega) rfl, ?_, ?_, ?_⟩)
  · exact (w5 q (by omega) (by omega)).trans (up_ne (by omega) ((old q (by omega) (by omega)).trans p1))
  · intro j hj
    refine (w5 _ (by omega) (by omega)).trans (up_ne (by omega) ((old _ (by omega) (by omega)).trans ?_))
    have := p4 j (j, 100, aI 0, 4000) hj (by
      match j, hj with
      | 0, _ => rfl
      | 1, _ => rfl
      | 2, _ => rfl
      | 3, _ => rfl
      | 4, _ => rfl
      | 5, _ => rfl
      | 6, _ => rfl
      | 7, _ => rfl)
    exact this
  · exact (w5 _ (by omega) (by omega)).trans (up_ne (by omega) y1)
  · exact (w5 _ (by omega) (by omega)).trans (up_ne (by omega) y2)
  · intro r h1 h2
    exact (w5 r (by omega) h2).trans (up_ne h2 ((old r (by omega) h2).trans ((p5 r (by omega) (by omega)).trans (nw_ne (by omega) rfl))))
  · rw [w2]; omega
  · rw [w3]; omega
theorem c_Looker_init {lim : Nat × Nat} {d : Nat} {h : ah_H} {a mk nd : Nat} {sg : Option Nat} {fs : List AV} (hc : h.1 a = some (3, [aN, aN, aN])) (hk1 : h.1 mk = some (4, fs)) (hn : fs[0]? = some (aR nd)) (ha : a ≠ mk) : wq (vc lim (d + 1) m_Looker_init [aR a, aR mk, .inr (.inr sg)] h) (rV fun h' => h'.1 a = some (3, [aR mk, aR nd, .inr (.inr sg)]) ∧ hk (fun q => q = a) 0 0 h h') := by
  refine wq_eq e_Looker_init (wq_nn (wq_wr hc (Nat.le_of_ble_eq_true rfl) (wq_gR (up_ne (fun e => ha e.symm) hk1) hn (wq_wr up_eq (Nat.le_of_ble_eq_true rfl) (wq_wr up_eq (Nat.le_of_ble_eq_true rfl) (wq_some (rV_i ⟨up_eq, ?_⟩)))))))
  exact hk_cast (hk_trans (hk_trans (hk_up rfl) (hk_up rfl)) (hk_up rfl)) rfl rfl
abbrev t10 : iT := [(0, 100, aI 0, 200), (1, 100, aI 0, 200), (2, 100, aI 0, 200), (3, 100, aI 0, 200), (4, 100, aI 0, 200), (5, 100, aI 0, 200), (6, 100, aI 0, 200), (7, 101, aJ 0, 200), (8, 101, aJ 0, 500), (9, 111, aN, 500)]
abbrev fT : List AV := [aN, aN, aN, aN, aN, aN, aN, aN, aN, aN, aI 0, aI 0]
theorem c_Told_init {lim : Nat × Nat} {d : Nat} {h : ah_H} {a q : Nat} (hc : h.1 a = some (9, fT)) (ha : a < q) (hq : h.2.1 = q) (hr1 : q + 510 ≤ lim.1) (hr2 : h.2.2.1 + 6100 ≤ lim.2) : wq (vc lim (d + 2) m_Told_init [aR a] h) (rV fun h' => (∃ fs, h'.1 a = some (9, fs) ∧ fs[10]? = some (aI 0)) ∧ hk (fun p => p = a) 510 6100 h h') := by
  refine wq_eq e_Told_init (wq_nn ?_)
  have hP := iP_0 (T := t10) (s0 := h.2.2.1) hc hq rfl
  have hm := ha
  have hr2' := hr2
  have hr2 : h.2.2.1 + 2600 ≤ lim.2 := by omega
  refine ini hP rfl (Nat.le_of_ble_eq_true rfl) hm (by decide) (by decide) (Nat.le_of_ble_eq_true rfl) (by omega) (Nat.le_of_ble_eq_true rfl) hr2 (fun _ hP => ?_)
  refine ini hP rfl (Nat.le_of_ble_eq_true rfl) hm (by decide) (by decide) (Nat.le_of_ble_eq_true rfl) (by omega) (Nat.le_of_ble_eq_true rfl) hr2 (fun _ hP => ?_)
  refine ini hP rfl (Nat.le_of_ble_eq_true rfl) hm (by decide) (by decide) (Nat.le_of_ble_eq_true rfl) (by omega) (Nat.le_of_ble_eq_true rfl) hr2 (fun _ hP => ?_)
  refine ini hP rfl (Nat.le_of_ble_eq_true rfl) hm (by decide) (by decide) (Nat.le_of_ble_eq_true rfl) (by omega) (Nat.le_of_ble_eq_true rfl) hr2 (fun _ hP => ?_)
  refine ini hP rfl (Nat.le_of_ble_eq_true rfl) hm (by decide) (by decide) (Nat.le_of_ble_eq_true rfl) (by omega) (Nat.le_of_ble_eq_true rfl) hr2 (fun _ hP => ?_)
  refine ini hP rfl (Nat.le_of_ble_eq_true rfl) hm (by decide) (by decide) (Nat.le_of_ble_eq_true rfl) (by omega) (Nat.le_of_ble_eq_true rfl) hr2 (fun _ hP => ?_)
  refine ini hP rfl (Nat.le_of_ble_eq_true rfl) hm (by decide) (by decide) (Nat.le_of_ble_eq_true rfl) (by omega) (Nat.le_of_ble_eq_true rfl) hr2 (fun _ hP => ?_)
  refine ini hP rfl (Nat.le_of_ble_eq_true rfl) hm (by decide) (by decide) (Nat.le_of_ble_eq_true rfl) (by omega) (Nat.le_of_ble_eq_true rfl) hr2 (fun _ hP => ?_)
  refine ini hP rfl (Nat.le_of_ble_eq_true rfl) hm (by decide) (by decide) (Nat.le_of_ble_eq_true rfl) (by omega) (Nat.le_of_ble_eq_true rfl) hr2 (fun _ hP => ?_)
  refine ini hP rfl (Nat.le_of_ble_eq_true rfl) hm (by decide) (by decide) (Nat.le_of_ble_eq_true rfl) (by omega) (Nat.le_of_ble_eq_true rfl) hr2 (fun _ hP => ?_)
  obtain ⟨w1, w2, w3, w4, w5⟩ := hP
  have w3 : _ = h.2.2.1 + 2600 := w3
  refine loopD (F := fun v h => ah_val lim ah_P (d + 1) m_Told_init 97 [some (.inr (.inr (some a))), some (.inl v)] [] h) (E := fun h => some (.inl none, h)) (m := a) (kf := 9) (fl := 9) (a := q + 9) (N := 500) (d := d) (by omega) (fun v h => q_71_97) (fs := iF t10 q fT 10) rfl (by omega) 500 0 _ (List.replicate 500 aN) rfl w1 (w4 9 _ (by omega) rfl) List.length_replicate (by omega) (by omega) (by omega) (by omega) ?_
  intro h' vs' g1 g2 g3
  obtain ⟨b1, b2, b3⟩ := g1
  refine wq_some (rV_i ⟨⟨_, (b1 a (by omega) (by omega)).trans w1, rfl⟩, ?_, ?_, ?_⟩)
  · intro r h1 h2
    exact (b1 r (by omega) (by omega)).trans (w5 r (by omega) h2)
  · rw [b2]; omega
  · rw [b3]; omega
theorem c_Finder_init {lim : Nat × Nat} {d : Nat} {h : ah_H} {a q : Nat} {sg : Option Nat} (hc : h.1 a = some (2, [aN, aN, aI 0])) (ha : a < q) (hq : h.2.1 = q) (hr1 : q + 105 ≤ lim.1) (hr2 : h.2.2.1 + 832 ≤ lim.2) : wq (vc lim (d + 2) m_Finder_init [aR a, .inr (.inr sg)] h) (rV (hk (fun p => p = a) 105 832 h)) := by
  refine wq_eq e_Finder_init (wq_nn (wq_wr hc (Nat.le_of_ble_eq_true rfl) (wq_mka (by decide) (by decide : Int32.toNatClampNeg 104 = 104) (by decide) ⟨by show h.2.1 < _; omega, by show h.2.2.1 + 104 ≤ _; omega⟩ (wq_wr (nw_ne (by show a ≠ h.2.1; omega) up_eq) (Nat.le_of_ble_eq_true rfl) ?_))))
  refine loopD (F := fun v h => ah_val lim ah_P (d + 1) m_Finder_init 20 [some (.inr (.inr (some a))), none, some (.inl v)] [] h) (E := fun h => some (.inl none, h)) (m := a) (kf := 2) (fl := 1) (a := h.2.1) (N := 104) (d := d) (by omega) (fun v h => q_52_20) (fs := [.inr (.inr sg), aR h.2.1, aI 0]) rfl (by omega) 104 0 _ (List.replicate 104 aN) rfl up_eq (up_ne (by omega) nw_eq) List.length_replicate (by show a < h.2.1 + 1; omega) (by show h.2.1 < h.2.1 + 1; omega) (by show h.2.1 + 1 + 104 ≤ _; omega) (by show h.2.2.1 + 104 + 7 * 104 ≤ _; omega) ?_
  intro h' vs' g1 g2 g3
  obtain ⟨b1, b2, b3⟩ := g1
  refine wq_some (rV_i ⟨?_, ?_, ?_⟩)
  · intro r h1 h2
    exact (b1 r (by show r < h.2.1 + 1; omega) (by show ¬ r = h.2.1; omega)).trans (up_ne h2 (nw_ne (by show r ≠ h.2.1; omega) (up_ne h2 rfl)))
  · rw [b2]
    show h.2.1 + 1 + 104 = h.2.1 + 105
    omega
  · rw [b3]
    show h.2.2.1 + 104 + 7 * 104 = h.2.2.1 + 832
    omega
theorem c_Runner_init {lim : Nat × Nat} {d : Nat} {h : ah_H} {a q : Nat} {sg td : Option Nat} (hc : h.1 a = some (6, [aN, aN, aN, aN, aN, aN, aN, aI 0, aI 0, aI 0, aI 0])) (ha : a < q) (hq : h.2.1 = q) (hr1 : q + 125 ≤ lim.1) (hr2 : h.2.2.1 + 986 ≤ lim.2) : wq (vc lim (d + 3) m_Runner_init [aR a, .inr (.inr sg), .inr (.inr td)] h) (rV (hk (fun p => p = a) 125 986 h)) := by
  refine wq_eq e_Runner_init (wq_nn (wq_wr hc (Nat.le_of_ble_eq_true rfl) (wq_wr up_eq (Nat.le_of_ble_eq_true rfl) (wq_mk ⟨by show h.2.1 < _; omega, by show h.2.2.1 + 3 ≤ _; omega⟩ (wq_at nw_eq (wq_cV (c_Finder_init (q := q + 1) nw_eq (by show h.2.1 < q + 1; omega) (by show h.2.1 + 1 = _; omega) (by omega) (by show h.2.2.1 + 3 + 832 ≤ _; omega)) ?_))))))
  intro h5 g
  obtain ⟨b1, b2, b3⟩ := g
  have b2 : h5.2.1 = h.2.1 + 1 + 105 := b2
  have b3 : h5.2.2.1 = h.2.2.1 + 3 + 832 := b3
  have o5 : ∀ r, r < q → r ≠ a → h5.1 r = h.1 r := fun r h1 h2 => (b1 r (by show r < h.2.1 + 1; omega) (by show ¬ r = h.2.1; omega)).trans (nw_ne (by show r ≠ h.2.1; omega) (up_ne h2 (up_ne h2 rfl)))
  have a5 : h5.1 a = some (6, [.inr (.inr sg), .inr (.inr td), aN, aN, aN, aN, aN, aI 0, aI 0, aI 0, aI 0]) := (b1 a (by show a < h.2.1 + 1; omega) (by show ¬ a = h.2.1; omega)).trans (nw_ne (by show a ≠ h.2.1; omega) up_eq)
  refine wq_wr a5 (Nat.le_of_ble_eq_true rfl) (wq_mk ⟨by show h5.2.1 < _; omega, by show h5.2.2.1 + 7 ≤ _; omega⟩ (wq_at nw_eq (wq_cV (c_Datum_init nw_eq rfl) ?_)))
  intro h9 e9
  subst e9
  refine wq_wr (up_ne (by show a ≠ h5.2.1; omega) (nw_ne (by show a ≠ h5.2.1; omega) up_eq)) (Nat.le_of_ble_eq_true rfl) (wq_mka (by decide) (by decide : Int32.toNatClampNeg 16 = 16) (by decide) ⟨by show h5.2.1 + 1 < _; omega, by show h5.2.2.1 + 7 + 16 ≤ _; omega⟩ (wq_wr (nw_ne (by show a ≠ h5.2.1 + 1; omega) up_eq) (Nat.le_of_ble_eq_true rfl) ?_))
  refine loopD (F := fun v h => ah_val lim ah_P (d + 2) m_Runner_init 48 [some (.inr (.inr (some a))), none, none, some (.inl v)] [] h) (E := fun h => ah_mka lim h 101 (.inr (.inl 0)) (16 : Int32) fun r8 h9 => ah_wr h9 (some a) 6 5 (.inr (.inr r8)) fun h10 => some (.inl none, h10)) (m := a) (kf := 6) (fl := 4) (a := h5.2.1 + 1) (N := 16) (d := d + 1) (by omega) (fun v h => q_63_48) (fs := [.inr (.inr sg), .inr (.inr td), aR h.2.1, aR h5.2.1, aR (h5.2.1 + 1), aN, aN, aI 0, aI 0, aI 0, aI 0]) rfl (by omega) 16 0 _ (List.replicate 16 aN) rfl up_eq (up_ne (by omega) nw_eq) List.length_replicate (by show a < h5.2.1 + 1 + 1; omega) (by show h5.2.1 + 1 < h5.2.1 + 1 + 1; omega) (by show h5.2.1 + 1 + 1 + 16 ≤ _; omega) (by show h5.2.2.1 + 7 + 16 + 7 * 16 ≤ _; omega) ?_
  intro h' vs' g1 g2 g3
  obtain ⟨c1, c2, c3⟩ := g1
  have c2 : h'.2.1 = h5.2.1 + 1 + 1 + 16 := c2
  have c3 : h'.2.2.1 = h5.2.2.1 + 7 + 16 + 7 * 16 := c3
  have a' : h'.1 a = some (6, [.inr (.inr sg), .inr (.inr td), aR h.2.1, aR h5.2.1, aR (h5.2.1 + 1), aN, aN, aI 0, aI 0, aI 0, aI 0]) := (c1 a (by show a < h5.2.1 + 1 + 1; omega) (by show ¬ a = h5.2.1 + 1; omega)).trans up_eq
  refine wq_mka (by decide) (by decide : Int32.toNatClampNeg 16 = 16) (by decide) ⟨by omega, by omega⟩ (wq_wr (nw_ne (by omega) a') (Nat.le_of_ble_eq_true rfl) (wq_some (rV_i ⟨?_, ?_, ?_⟩)))
  · intro r h1 h2
    refine up_ne h2 (nw_ne (by omega) ?_)
    refine (c1 r (by show r < h5.2.1 + 1 + 1; omega) (by show ¬ r = h5.2.1 + 1; omega)).trans ?_
    exact up_ne h2 (nw_ne (by show r ≠ h5.2.1 + 1; omega) (up_ne h2 (up_ne (by show r ≠ h5.2.1; omega) (nw_ne (by show r ≠ h5.2.1; omega) (up_ne h2 (o5 r (by omega) h2))))))
  · show h'.2.1 + 1 = _
    omega
  · show h'.2.2.1 + 16 = _
    omega
