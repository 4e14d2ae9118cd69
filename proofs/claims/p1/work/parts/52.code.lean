/-! THE CLASS'S CONSTRUCTOR -/
/-- a fresh object at x -/
def fC (x : Nat) (h : ah_H) : Prop := h.1 x = some (0, [aR (x + 1), aR (x + 3), aR (x + 17), aR (x + 18), aI 0, aI 0, aR (x + 19), aR (x + 530)]) ∧ h.1 (x + 1) = some (8, [aR (x + 2), aI 0]) ∧ h.1 (x + 2) = some (117, List.replicate 512 aN) ∧
  h.1 (x + 3) = some (4, [aR (x + 4), aR (x + 13), aR (x + 15), aR (x + 16), aI 0]) ∧ h.1 (x + 4) = some (5, [aR (x + 5), aR (x + 6), aR (x + 7), aR (x + 8), aR (x + 9), aR (x + 10), aR (x + 11), aR (x + 12), aI 0, aI 0]) ∧ (∀ j, j < 8 → h.1 (x + 5 + j) = some (100, List.replicate 4000 (aI 0))) ∧
  h.1 (x + 13) = some (8, [aR (x + 14), aI 0]) ∧ h.1 (x + 14) = some (117, List.replicate 128 aN) ∧ h.1 (x + 15) = some (100, List.replicate 4000 (aI 0)) ∧ h.1 (x + 16) = some (100, List.replicate 4000 (aI 0)) ∧
  h.1 (x + 17) = some (3, [aR (x + 3), aR (x + 4), aR (x + 1)]) ∧ h.1 (x + 18) = some (120, List.replicate 64 aN) ∧ ∃ fs, h.1 (x + 19) = some (9, fs) ∧ fs[10]? = some (aI 0)
set_option maxHeartbeats 1000000 in
theorem c_Code_init {lim : Nat × Nat} {d : Nat} {h : ah_H} {x : Nat} (hc : h.1 x = some (0, [aN, aN, aN, aN, aI 0, aI 0, aN, aN])) (hq : h.2.1 = x + 1) (hr1 : x + 656 ≤ lim.1) (hr2 : h.2.2.1 + 47835 ≤ lim.2) : wq (vc lim (d + 4) m_Code_init [aR x] h) (rV fun h' => fC x h' ∧ hk (fun p => p = x) 655 47835 h h') := by
  refine wq_eq e_Code_init (wq_nn (wq_mk ⟨by omega, by omega⟩ (wq_at nw_eq (wq_cV (c_Things_init (n := 512) nw_eq (by show h.2.1 < h.2.1 + 1; omega) (by decide) (by decide) (by decide) ⟨by show h.2.1 + 1 < _; omega, by show h.2.2.1 + 2 + 512 ≤ _; omega⟩) ?_))))
  intro h3 ⟨y1, y2, y3⟩
  obtain ⟨z1, z2, z3⟩ := y3
  have z2 : h3.2.1 = h.2.1 + 1 + 1 := z2
  have z3 : h3.2.2.1 = h.2.2.1 + 2 + 512 := z3
  have y1 : h3.1 (h.2.1) = some (8, [aR (h.2.1 + 1), aI 0]) := y1
  have y2 : h3.1 (h.2.1 + 1) = some (117, List.replicate 512 aN) := y2
  have oA : ∀ r, r < x + 1 → h3.1 r = h.1 r := fun r h1 => (z1 r (by show r < h.2.1 + 1; omega) (by show ¬ r = h.2.1; omega)).trans (nw_ne (by omega) rfl)
  have xA := (oA x (by omega)).trans hc
  refine wq_wr xA (Nat.le_of_ble_eq_true rfl) ?_
  refine wq_mk ⟨by show h3.2.1 < _; omega, by show h3.2.2.1 + 5 ≤ _; omega⟩ (wq_at nw_eq (wq_cV (c_Maker_init (q := x + 4) nw_eq (by show h3.2.1 < _; omega) (by show h3.2.1 + 1 = _; omega) (by omega) (by show h3.2.2.1 + 5 + 40140 ≤ _; omega)) ?_))
  intro h7 g
  have e3 : h3.2.1 = x + 3 := by omega
  have g : mkP h3.2.1 (x + 4) _ h7 := g
  rw [e3] at g
  obtain ⟨m1, m2, m3, m4, m5, m6, m7, k1, k2, k3⟩ := g
  have k2 : h7.2.1 = h3.2.1 + 1 + 13 := k2
  have k3 : h7.2.2.1 = h3.2.2.1 + 5 + 40140 := k3
  have oB : ∀ r, r < x + 3 → r ≠ x → h7.1 r = h3.1 r := fun r h1 h2 => (k1 r (by show r < h3.2.1 + 1; omega) (by show ¬ r = x + 3; omega)).trans (nw_ne (by show r ≠ h3.2.1; omega) (up_ne h2 rfl))
  have xB : h7.1 x = some (0, [aR h.2.1, aN, aN, aN, aI 0, aI 0, aN, aN]) := (k1 x (by show x < h3.2.1 + 1; omega) (by show ¬ x = x + 3; omega)).trans (nw_ne (by show x ≠ h3.2.1; omega) up_eq)
  refine wq_wr xB (Nat.le_of_ble_eq_true rfl) ?_
  refine wq_mk ⟨by show h7.2.1 < _; omega, by show h7.2.2.1 + 3 ≤ _; omega⟩ ?_
  refine wq_gR (nw_ne (by show x ≠ h7.2.1; omega) up_eq) rfl (wq_gR (nw_ne (by show x ≠ h7.2.1; omega) up_eq) rfl (wq_at nw_eq ?_))
  refine wq_cV (c_Looker_init (mk := h3.2.1) (nd := x + 4) nw_eq (nw_ne (by show h3.2.1 ≠ h7.2.1; omega) (up_ne (by omega) (by rw [e3]; exact m1))) rfl (by show h7.2.1 ≠ h3.2.1; omega)) ?_
  intro h13 ⟨l1, l2, l3, l4⟩
  have e7 : h7.2.1 = x + 17 := by omega
  have l3 : h13.2.1 = h7.2.1 + 1 + 0 := l3
  have l4 : h13.2.2.1 = h7.2.2.1 + 3 + 0 := l4
  have l1 : h13.1 h7.2.1 = some (3, [aR h3.2.1, aR (x + 4), aR h.2.1]) := l1
  have oC : ∀ r, r < x + 17 → r ≠ x → h13.1 r = h7.1 r := fun r h1 h2 => (l2 r (by show r < h7.2.1 + 1; omega) (by show ¬ r = h7.2.1; omega)).trans (nw_ne (by show r ≠ h7.2.1; omega) (up_ne h2 rfl))
  have xC : h13.1 x = some (0, [aR h.2.1, aR h3.2.1, aN, aN, aI 0, aI 0, aN, aN]) := (l2 x (by show x < h7.2.1 + 1; omega) (by show ¬ x = h7.2.1; omega)).trans (nw_ne (by show x ≠ h7.2.1; omega) up_eq)
  refine wq_wr xC (Nat.le_of_ble_eq_true rfl) ?_
  refine wq_mka (by decide) (by decide : Int32.toNatClampNeg 64 = 64) (by decide) ⟨by show h13.2.1 < _; omega, by show h13.2.2.1 + 64 ≤ _; omega⟩ (wq_wr (nw_ne (by show x ≠ h13.2.1; omega) up_eq) (Nat.le_of_ble_eq_true rfl) ?_)
  refine wq_mk ⟨by show h13.2.1 + 1 < _; omega, by show h13.2.2.1 + 64 + 12 ≤ _; omega⟩ (wq_at nw_eq (wq_cV (c_Told_init (q := x + 20) nw_eq (by show h13.2.1 + 1 < _; omega) (by show h13.2.1 + 1 + 1 = _; omega) (by omega) (by show h13.2.2.1 + 64 + 12 + 6100 ≤ _; omega)) ?_))
  intro h20 ⟨⟨fs, t1, t2⟩, t3, t4, t5⟩
  have t4 : h20.2.1 = h13.2.1 + 1 + 1 + 510 := t4
  have t5 : h20.2.2.1 = h13.2.2.1 + 64 + 12 + 6100 := t5
  have t1 : h20.1 (h13.2.1 + 1) = some (9, fs) := t1
  have e13 : h13.2.1 = x + 18 := by omega
  have oE : ∀ r, r < x + 18 → r ≠ x → h20.1 r = h13.1 r := fun r h1 h2 => (t3 r (by show r < h13.2.1 + 1 + 1; omega) (by show ¬ r = h13.2.1 + 1; omega)).trans (nw_ne (by show r ≠ h13.2.1 + 1; omega) (up_ne h2 (nw_ne (by show r ≠ h13.2.1; omega) (up_ne h2 rfl))))
  have uE : h20.1 h13.2.1 = some (120, List.replicate 64 aN) := (t3 _ (by show h13.2.1 < h13.2.1 + 1 + 1; omega) (by show ¬ h13.2.1 = h13.2.1 + 1; omega)).trans (nw_ne (by show h13.2.1 ≠ h13.2.1 + 1; omega) (up_ne (by omega) nw_eq))
  have xE : h20.1 x = some (0, [aR h.2.1, aR h3.2.1, aR h7.2.1, aR h13.2.1, aI 0, aI 0, aN, aN]) := (t3 x (by show x < h13.2.1 + 1 + 1; omega) (by show ¬ x = h13.2.1 + 1; omega)).trans (nw_ne (by show x ≠ h13.2.1 + 1; omega) up_eq)
  refine wq_wr xE (Nat.le_of_ble_eq_true rfl) ?_
  refine wq_mk ⟨by show h20.2.1 < _; omega, by show h20.2.2.1 + 11 ≤ _; omega⟩ ?_
  refine wq_gR (nw_ne (by show x ≠ h20.2.1; omega) up_eq) rfl (wq_gR (nw_ne (by show x ≠ h20.2.1; omega) up_eq) rfl (wq_at nw_eq ?_))
  refine wq_cV (c_Runner_init (q := x + 531) nw_eq (by show h20.2.1 < _; omega) (by show h20.2.1 + 1 = _; omega) (by omega) (by show h20.2.2.1 + 11 + 986 ≤ _; omega)) ?_
  intro h26 ⟨n1, n2, n3⟩
  have n2 : h26.2.1 = h20.2.1 + 1 + 125 := n2
  have n3 : h26.2.2.1 = h20.2.2.1 + 11 + 986 := n3
  have e20 : h20.2.1 = x + 530 := by omega
  have oF : ∀ r, r < x + 530 → r ≠ x → h26.1 r = h20.1 r := fun r h1 h2 => (n1 r (by show r < h20.2.1 + 1; omega) (by show ¬ r = h20.2.1; omega)).trans (nw_ne (by show r ≠ h20.2.1; omega) (up_ne h2 rfl))
  have xF : h26.1 x = some (0, [aR h.2.1, aR h3.2.1, aR h7.2.1, aR h13.2.1, aI 0, aI 0, aR (h13.2.1 + 1), aN]) := (n1 x (by show x < h20.2.1 + 1; omega) (by show ¬ x = h20.2.1; omega)).trans (nw_ne (by show x ≠ h20.2.1; omega) up_eq)
  refine wq_wr xF (Nat.le_of_ble_eq_true rfl) (wq_some (rV_i ?_))
  have fE : ∀ r, r < x + 530 → r ≠ x → (ah_up h26 x (0, [aR h.2.1, aR h3.2.1, aR h7.2.1, aR h13.2.1, aI 0, aI 0, aR (h13.2.1 + 1), aR h20.2.1])).1 r = h20.1 r := fun r h1 h2 => up_ne h2 (oF r h1 h2)
  have fC' : ∀ r, r < x + 18 → r ≠ x → (ah_up h26 x (0, [aR h.2.1, aR h3.2.1, aR h7.2.1, aR h13.2.1, aI 0, aI 0, aR (h13.2.1 + 1), aR h20.2.1])).1 r = h13.1 r := fun r h1 h2 => (fE r (by omega) h2).trans (oE r h1 h2)
  have fB : ∀ r, r < x + 17 → r ≠ x → (ah_up h26 x (0, [aR h.2.1, aR h3.2.1, aR h7.2.1, aR h13.2.1, aI 0, aI 0, aR (h13.2.1 + 1), aR h20.2.1])).1 r = h7.1 r := fun r h1 h2 => (fC' r (by omega) h2).trans (oC r h1 h2)
  have fA : ∀ r, r < x + 3 → r ≠ x → (ah_up h26 x (0, [aR h.2.1, aR h3.2.1, aR h7.2.1, aR h13.2.1, aI 0, aI 0, aR (h13.2.1 + 1), aR h20.2.1])).1 r = h3.1 r := fun r h1 h2 => (fB r (by omega) h2).trans (oB r h1 h2)
  refine ⟨⟨?_, ?_, ?_, ?_, ?_, ?_, ?_, ?_, ?_, ?_, ?_, ?_, fs, ?_, t2⟩, ?_, ?_, ?_⟩
  · refine up_eq.trans ?_
    show some (0, [aR h.2.1, aR h3.2.1, aR h7.2.1, aR h13.2.1, aI 0, aI 0, aR (h13.2.1 + 1), aR h20.2.1]) = _
    rw [hq, e3, e7, e13, e20]
  · refine (fA _ (by omega) (by omega)).trans ?_
    rw [← hq]; rw [y1, hq]
  · refine (fA _ (by omega) (by omega)).trans ?_
    rw [← y2, hq]
  · exact (fB _ (by omega) (by omega)).trans m1
  · exact (fB _ (by omega) (by omega)).trans m2
  · intro j hj
    refine (fB _ (by omega) (by omega)).trans ?_
    have := m3 j hj
    rw [← this, show x + 4 + 1 + j = x + 5 + j by omega]
  · exact (fB _ (by omega) (by omega)).trans m4
  · exact (fB _ (by omega) (by omega)).trans m5
  · exact (fB _ (by omega) (by omega)).trans m6
  · exact (fB _ (by omega) (by omega)).trans m7
  · refine (fC' _ (by omega) (by omega)).trans ?_
    rw [← e7, l1, e3, hq]
  · refine (fE _ (by omega) (by omega)).trans ?_
    rw [← e13]; exact uE
  · refine (fE _ (by omega) (by omega)).trans ?_
    rw [show x + 19 = h13.2.1 + 1 by omega]; exact t1
  · intro r h1 h2
    exact (fA r (by omega) h2).trans (oA r (by omega))
  · show h26.2.1 = _
    omega
  · show h26.2.2.1 = _
    omega
