/-! THE CLASS: signal, variable, add, process on a fresh object -/
section Mo
variable {lim : Nat × Nat} {d : Nat} {h : ah_H} {x : Nat}
def datum (h : ah_H) (a : Nat) : Prop := ∃ (f0 f1 : Int32) (j2 j3 j4 j5 j6 : Int64), h.1 a = some (1, [aI f0, aI f1, aJ j2, aJ j3, aJ j4, aJ j5, aJ j6])
theorem c_hold {a : Nat} {f0 f1 f2 f3 f4 f5 f6 : AV} {u v : Int32} {j0 j1 j2 j3 : Int64} (hc : h.1 a = some (1, [f0, f1, f2, f3, f4, f5, f6])) : wq (vc lim (d + 1) m_Datum_hold [aR a, aI u, aI v, aJ j0, aJ j1, aJ j2, aJ j3] h) (rV fun h' => datum h' a ∧ hk (fun p => p = a) 0 0 h h') := by
  refine wq_eq e_Datum_hold (wq_wr hc (Nat.le_of_ble_eq_true rfl) (wq_wr up_eq (Nat.le_of_ble_eq_true rfl) (wq_wr up_eq (Nat.le_of_ble_eq_true rfl) (wq_wr up_eq (Nat.le_of_ble_eq_true rfl) (wq_wr up_eq (Nat.le_of_ble_eq_true rfl) (wq_wr up_eq (Nat.le_of_ble_eq_true rfl) (wq_wr up_eq (Nat.le_of_ble_eq_true rfl) (wq_some (rV_i ⟨⟨_, _, _, _, _, _, _, up_eq⟩, ?_⟩)))))))))
  exact hk_cast (hk_trans (hk_trans (hk_trans (hk_trans (hk_trans (hk_trans (hk_up rfl) (hk_up rfl)) (hk_up rfl)) (hk_up rfl)) (hk_up rfl)) (hk_up rfl)) (hk_up rfl)) rfl rfl
theorem c_copy {a b : Nat} {f0 f1 f2 f3 f4 f5 f6 : AV} (hab : b ≠ a) (hc : h.1 a = some (1, [f0, f1, f2, f3, f4, f5, f6])) (hd : datum h b) : wq (vc lim (d + 1) m_Datum_copy [aR a, aR b] h) (rV fun h' => hk (fun p => p = a) 0 0 h h') := by
  obtain ⟨g0, g1, j2, j3, j4, j5, j6, hb⟩ := hd
  have u1 : ∀ {o : ah_O}, (ah_up h a o).1 b = _ := fun {o} => up_ne hab hb
  refine wq_eq e_Datum_copy (wq_gI hb rfl (wq_wr hc (Nat.le_of_ble_eq_true rfl) (wq_gI (up_ne hab hb) rfl (wq_wr up_eq (Nat.le_of_ble_eq_true rfl) (wq_gJ (up_ne hab (up_ne hab hb)) rfl (wq_wr up_eq (Nat.le_of_ble_eq_true rfl) (wq_gJ (up_ne hab (up_ne hab (up_ne hab hb))) rfl (wq_wr up_eq (Nat.le_of_ble_eq_true rfl) (wq_gJ (up_ne hab (up_ne hab (up_ne hab (up_ne hab hb)))) rfl (wq_wr up_eq (Nat.le_of_ble_eq_true rfl) (wq_gJ (up_ne hab (up_ne hab (up_ne hab (up_ne hab (up_ne hab hb))))) rfl (wq_wr up_eq (Nat.le_of_ble_eq_true rfl) (wq_gJ (up_ne hab (up_ne hab (up_ne hab (up_ne hab (up_ne hab (up_ne hab hb)))))) rfl (wq_wr up_eq (Nat.le_of_ble_eq_true rfl) (wq_some (rV_i ?_))))))))))))))))
  exact hk_cast (hk_trans (hk_trans (hk_trans (hk_trans (hk_trans (hk_trans (hk_up rfl) (hk_up rfl)) (hk_up rfl)) (hk_up rfl)) (hk_up rfl)) (hk_up rfl)) (hk_up rfl)) rfl rfl
/-- from the Thing's last int field on -/
theorem c_Thing_49 {a : Nat} {u s : Int32} {f0 f1 f2 : Int32} {f3 f6 f7 : AV} (hc : h.1 a = some (7, [aI f0, aI f1, aI f2, f3, aN, aN, f6, f7])) (ha : a < h.2.1) (hr1 : h.2.1 + 2 ≤ lim.1) (hr2 : h.2.2.1 + 14 ≤ lim.2) : wq (ah_val lim ah_P (d + 1) 64 49 [some (.inr (.inr (some a))), some (.inl u), none, none] [.inl s, .inr (.inr (some a))] h) (rV fun h' => (∃ fs, h'.1 a = some (7, fs)) ∧ hk (fun p => p = a) 2 14 h h') := by
  refine wq_eq q_64_49 (wq_wr hc (Nat.le_of_ble_eq_true rfl) (wq_mk ⟨by show h.2.1 < _; omega, by show h.2.2.1 + 7 ≤ _; omega⟩ (wq_at nw_eq (wq_cV (c_Datum_init nw_eq rfl) ?_))))
  intro h4 e4
  subst e4
  refine wq_wr (up_ne (by show a ≠ h.2.1; omega) (nw_ne (by show a ≠ h.2.1; omega) up_eq)) (Nat.le_of_ble_eq_true rfl) (wq_mk ⟨by show h.2.1 + 1 < _; omega, by show h.2.2.1 + 7 + 7 ≤ _; omega⟩ (wq_at nw_eq (wq_cV (c_Datum_init nw_eq rfl) ?_)))
  intro h8 e8
  subst e8
  refine wq_wr (up_ne (by show a ≠ h.2.1 + 1; omega) (nw_ne (by show a ≠ h.2.1 + 1; omega) up_eq)) (Nat.le_of_ble_eq_true rfl) ?_
  have d1 : ∀ o : ah_O, (ah_up (ah_up (ah_new (ah_up (ah_up (ah_new (ah_up h a (7, [aI f0, aI f1, aI f2, aI s, aN, aN, f6, f7])) (1, zD) 7) h.2.1 (1, [aI 0, aI 1, aJ 0, aJ 0, aJ 0, aJ 0, aJ 0])) a (7, [aI f0, aI f1, aI f2, aI s, aR h.2.1, aN, f6, f7])) (1, zD) 7) (h.2.1 + 1) (1, [aI 0, aI 1, aJ 0, aJ 0, aJ 0, aJ 0, aJ 0])) a o).1 h.2.1 = some (1, [aI 0, aI 1, aJ 0, aJ 0, aJ 0, aJ 0, aJ 0]) := fun o => up_ne (by omega) (up_ne (by omega) (nw_ne (by show h.2.1 ≠ h.2.1 + 1; omega) (up_ne (by omega) up_eq)))
  refine wq_gR up_eq rfl (wq_gI up_eq rfl (wq_at (d1 _) (wq_cV (c_hold (d1 _)) ?_)))
  intro h12 ⟨q1, q2, q3, q4⟩
  have q3 : h12.2.1 = h.2.1 + 1 + 1 := q3
  have q4 : h12.2.2.1 = h.2.2.1 + 7 + 7 := q4
  have a12 : h12.1 a = some (7, [aI f0, aI f1, aI f2, aI s, aR h.2.1, aR (h.2.1 + 1), f6, f7]) := (q2 a (by show a < h.2.1 + 1 + 1; omega) (by show ¬ a = h.2.1; omega)).trans up_eq
  have e12 : h12.1 (h.2.1 + 1) = some (1, [aI 0, aI 1, aJ 0, aJ 0, aJ 0, aJ 0, aJ 0]) := (q2 (h.2.1 + 1) (by show h.2.1 + 1 < h.2.1 + 1 + 1; omega) (by show ¬ h.2.1 + 1 = h.2.1; omega)).trans (up_ne (by omega) up_eq)
  have o12 : ∀ r, r < h.2.1 → r ≠ a → h12.1 r = h.1 r := fun r h1 h2 => (q2 r (by show r < h.2.1 + 1 + 1; omega) (by show ¬ r = h.2.1; omega)).trans (up_ne h2 (up_ne (by show r ≠ h.2.1 + 1; omega) (nw_ne (by show r ≠ h.2.1 + 1; omega) (up_ne h2 (up_ne (by show r ≠ h.2.1; omega) (nw_ne (by show r ≠ h.2.1; omega) (up_ne h2 rfl)))))))
  obtain ⟨g0, g1, j2, j3, j4, j5, j6, hb⟩ := id q1
  have hb : h12.1 h.2.1 = some (1, [aI g0, aI g1, aJ j2, aJ j3, aJ j4, aJ j5, aJ j6]) := hb
  refine wq_gR a12 rfl (wq_gI a12 rfl (wq_wr hb (Nat.le_of_ble_eq_true rfl) (wq_gR (up_ne (by omega) a12) rfl (wq_gR (up_ne (by omega) a12) rfl (wq_at (up_ne (by omega) e12) (wq_cV (c_copy (a := h.2.1 + 1) (b := h.2.1) (by omega) (up_ne (by omega) e12) ⟨_, _, _, _, _, _, _, up_eq⟩) ?_))))))
  intro h18 ⟨w1, w2, w3⟩
  refine wq_some (rV_i ⟨⟨_, (w1 a (by show a < h12.2.1; omega) (by show ¬ a = h.2.1 + 1; omega)).trans (up_ne (by omega) a12)⟩, fun r h1 h2 => ?_, ?_, ?_⟩)
  · exact (w1 r (by show r < h12.2.1; omega) (by show ¬ r = h.2.1 + 1; omega)).trans (up_ne (by omega) (o12 r h1 h2))
  · rw [w2]
    show h12.2.1 + 0 = _
    omega
  · rw [w3]
    show h12.2.2.1 + 0 = _
    omega
theorem c_Thing_init {a : Nat} {u v w : Int32} (hc : h.1 a = some (7, [aI 0, aI 0, aI 0, aI 0, aN, aN, aI 0, aI 0])) (ha : a < h.2.1) (hr1 : h.2.1 + 2 ≤ lim.1) (hr2 : h.2.2.1 + 14 ≤ lim.2) : wq (vc lim (d + 2) m_Thing_init [aR a, aI u, aI v, aI w] h) (rV fun h' => (∃ fs, h'.1 a = some (7, fs)) ∧ hk (fun p => p = a) 2 14 h h') := by
  have key : ∀ s : Int32, wq (ah_val lim ah_P (d + 1) 64 20 [some (.inr (.inr (some a))), some (.inl u), some (.inl v), some (.inl w)] [.inl s, .inr (.inr (some a))] (ah_up h a (7, [aI u, aI 0, aI 0, aI 0, aN, aN, aI 0, aI 0]))) (rV fun h' => (∃ fs, h'.1 a = some (7, fs)) ∧ hk (fun p => p = a) 2 14 h h') := by
    intro s
    have fin : ∀ (f1 f2 t : Int32) (o1 o2 : ah_O), wq (ah_val lim ah_P (d + 1) 64 49 [some (.inr (.inr (some a))), some (.inl u), none, none] [.inl t, .inr (.inr (some a))] (ah_up (ah_up (ah_up h a o1) a o2) a (7, [aI u, aI f1, aI f2, aI 0, aN, aN, aI 0, aI 0]))) (rV fun h' => (∃ fs, h'.1 a = some (7, fs)) ∧ hk (fun p => p = a) 2 14 h h') := by
      intro f1 f2 t o1 o2
      refine wq_mono (c_Thing_49 up_eq ha hr1 hr2) ?_
      rintro z ⟨h', rfl, hs, k⟩
      refine ⟨h', rfl, hs, ?_⟩
      exact hk_cast (hk_trans (hk_trans (hk_trans (hk_up rfl) (hk_up rfl)) (hk_up rfl)) k) rfl rfl
    refine wq_eq q_64_20 (wq_wr up_eq (Nat.le_of_ble_eq_true rfl) (wq_if _ (fun _ => wq_wr up_eq (Nat.le_of_ble_eq_true rfl) (wq_if _ (fun _ => fin _ _ _ _ _) (fun _ => fin _ _ _ _ _))) (fun _ => wq_wr up_eq (Nat.le_of_ble_eq_true rfl) (wq_if _ (fun _ => fin _ _ _ _ _) (fun _ => fin _ _ _ _ _)))))
  exact wq_eq e_Thing_init (wq_nn (wq_wr hc (Nat.le_of_ble_eq_true rfl) (wq_if _ (fun _ => key _) (fun _ => key _))))
theorem c_isFull0 {t r n : Nat} (ht : h.1 t = some (8, [aR r, aI 0])) (hr : h.1 r = some (117, List.replicate n aN)) (hn : 0 < n) (hn2 : n < 2 ^ 31) : wq (vc lim (d + 1) m_Things_isFull [aR t] h) (rI fun v h' => v = 0 ∧ h' = h) := by
  refine wq_eq e_Things_isFull (wq_gI ht rfl (wq_gR ht rfl (wq_len hr (by decide) (wq_t ?_ (wq_0 (wq_some (rI_i ⟨rfl, rfl⟩)))))))
  rw [List.length_replicate]
  exact i32_t (i := 0) hn hn2
theorem c_keep0 {t r th n : Nat} {fs : List AV} (ht : h.1 t = some (8, [aR r, aI 0])) (hr : h.1 r = some (117, List.replicate n aN)) (hth : h.1 th = some (7, fs)) (hn : 0 < n) (hn2 : n < 2 ^ 31) (hne : t ≠ r) : wq (vc lim (d + 2) m_Things_keep [aR t, aR th] h) (rI fun v h' => v = 0 ∧ hk (fun p => p = r ∨ p = t) 0 0 h h') := by
  refine wq_eq e_Things_keep (wq_at ht (wq_cI (c_isFull0 ht hr hn hn2) ?_))
  rintro v h' ⟨rfl, rfl⟩
  refine wq_t rfl (wq_gR ht rfl (wq_gI ht rfl (wq_sR hr (by decide) hth rfl (by decide) (by rw [List.length_replicate]; exact hn) (wq_gI (up_ne hne ht) rfl (wq_wr (up_ne hne ht) (Nat.le_of_ble_eq_true rfl) (wq_gI up_eq rfl (wq_some (rI_i ⟨by decide, ?_⟩))))))))
  exact hk_cast (hk_trans (hk_up (Or.inl rfl)) (hk_up (Or.inr rfl))) rfl rfl
end Mo
