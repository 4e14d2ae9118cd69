theorem p1_pure {d n b L : Nat} {xs : Nat → Int32} (hL : L ≤ 5) (hb : b < n) : wq (ah_val (n + 600002, 7302232) ah_P (d + 20) m_Law_law 0 (ah_in mt_93 [.inr (.inr (some b))]) [] (am_h0 b L xs n)) (rI fun x _ => x = 1) := by
  sorry
