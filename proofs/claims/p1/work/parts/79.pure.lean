/-! THE LAW FROM ITS ENTRY -/
theorem fC_keep {x : Nat} {h h' : ah_H} (hf : fC x h) (hk : ∀ r, x ≤ r → r < x + 656 → h'.1 r = h.1 r) : fC x h' := by
  obtain ⟨f1, f2, f3, f4, f5, f6, f7, f8, f9, f10, f11, f12, fs, f13, f14⟩ := hf
  exact ⟨(hk _ (by omega) (by omega)).trans f1, (hk _ (by omega) (by omega)).trans f2, (hk _ (by omega) (by omega)).trans f3, (hk _ (by omega) (by omega)).trans f4, (hk _ (by omega) (by omega)).trans f5, fun j hj => (hk _ (by omega) (by omega)).trans (f6 j hj), (hk _ (by omega) (by omega)).trans f7, (hk _ (by omega) (by omega)).trans f8, (hk _ (by omega) (by omega)).trans f9, (hk _ (by omega) (by omega)).trans f10, (hk _ (by omega) (by omega)).trans f11, (hk _ (by omega) (by omega)).trans f12, fs, (hk _ (by omega) (by omega)).trans f13, f14⟩
theorem l_short {L : Nat} (h : L < 5) : ¬ (0 : Int32) ≤ Nat.toInt32 L - 5 := by
  match L, h with
  | 0, _ => decide
  | 1, _ => decide
  | 2, _ => decide
  | 3, _ => decide
  | 4, _ => decide
set_option maxRecDepth 10000 in
theorem p1_pure {d n b L : Nat} {xs : Nat → Int32} (hL : L ≤ 5) (hb : b < n) : wq (ah_val (n + 600002, 7302232) ah_P (d + 20) m_Law_law 0 (ah_in mt_93 [.inr (.inr (some b))]) [] (am_h0 b L xs n)) (rI fun x _ => x = 1) := by
  show wq (ah_val (n + 600002, 7302232) ah_P (d + 20) 93 0 [some (.inr (.inr (some b))), none, none, none, none, none, none, none] [] (am_h0 b L xs n)) (rI fun x _ => x = 1)
  have b0 : (am_h0 b L xs n).1 b = some (104, (List.range L).map fun j => .inl (xs j)) := if_pos rfl
  refine wq_eq q_93_0 (wq_mk ⟨by show n < n + 600002; omega, by show 0 + 8 ≤ 7302232; omega⟩ (wq_at nw_eq (wq_cV (c_Code_init (x := n) nw_eq rfl (by show n + 656 ≤ n + 600002; omega) (by show 0 + 8 + 47835 ≤ 7302232; omega)) ?_)))
  intro h3 ⟨hf, k1, k2, k3⟩
  have k2 : h3.2.1 = n + 1 + 655 := k2
  have k3 : h3.2.2.1 = 0 + 8 + 47835 := k3
  have b3 : h3.1 b = some (104, (List.range L).map fun j => .inl (xs j)) := (k1 b (by show b < n + 1; omega) (by show ¬ b = n; omega)).trans (nw_ne (by show b ≠ n; omega) b0)
  refine wq_mk ⟨by show h3.2.1 < n + 600002; omega, by show h3.2.2.1 + 56 ≤ 7302232; omega⟩ (wq_at nw_eq (wq_cV (c_Ref_init nw_eq rfl (by show h3.2.1 + 40 ≤ n + 600002; omega) (by show h3.2.2.1 + 56 + 905325 ≤ 7302232; omega)) ?_))
  intro h6 hP
  have hP : iP tR 11 fR h3.2.1 (h3.2.1 + 1) (h3.2.2.1 + 56) _ 39 h6 := hP
  obtain ⟨p1, p2, p3, p4, p5⟩ := hP
  rw [rF_eq] at p1
  have p3 : h6.2.2.1 = h3.2.2.1 + 56 + 905325 := p3
  have b6 : h6.1 b = some (104, (List.range L).map fun j => .inl (xs j)) := (p5 b (by omega) (by omega)).trans (nw_ne (by omega) b3)
  refine wq_mka (by decide) (by decide : Int32.toNatClampNeg 1 = 1) (by decide) ⟨by show h6.2.1 < n + 600002; omega, by show h6.2.2.1 + 1 ≤ 7302232; omega⟩ ?_
  have b8 : (ah_new h6 (101, List.replicate 1 (.inr (.inl 0))) 1).1 b = some (104, (List.range L).map fun j => .inl (xs j)) := nw_ne (by omega) b6
  by_cases h5 : L < 5
  · refine wq_eq q_93_23 (wq_len b8 (by decide) ?_)
    rw [List.length_map, List.length_range]
    exact wq_f (l_short h5) (wq_1 (wq_some (rI_i rfl)))
  · have e5 : L = 5 := by omega
    subst e5
    refine l_head (b := b) (x := n) (m := h3.2.1) (o := h6.2.1) (xs := xs) ⟨b8, fC_keep hf (fun r h1 h2 => ?_), nw_ne (by omega) p1, fun j q h1 h2 => ?_, nw_eq, hb, by omega, by omega, rfl, ?_, ?_⟩
    · exact nw_ne (by omega) ((p5 r (by omega) (by omega)).trans (nw_ne (by omega) rfl))
    · exact ⟨_, nw_ne (by omega) (p4 j q h1 h2), List.length_replicate⟩
    · show h6.2.1 + 1 + 20 ≤ n + 600002
      omega
    · show h6.2.2.1 + 1 + 200 ≤ 7302232
      omega
