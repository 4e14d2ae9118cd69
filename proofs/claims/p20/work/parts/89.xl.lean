/-! GOOD TREES: statements, each -/
section Xl
variable {σ : rS} {l2 l4 : List AV} {v k : Int32} {n nS' : Nat} {kS' kV : Nat → Int32 × Int32} {eS' : Nat → TS}
theorem pT_add {σ' : rS} {v1 v2 v3 : Int32} (D : DI σ) (PT : pTall σ) (a : adR σ σ' v1 v2 v3) : pTall σ' := by
  obtain ⟨N, R, n, τ, q1, q2, q3, q4, l, q5, q6, q7, q8, q9, q10, q11, q12⟩ := a
  obtain ⟨l1, l2, l3, l4, l5, l6, l7, l8, l9, l10, l11, l12⟩ := l
  intro k k0 k1
  rw [q8] at k1
  rw [q11 13 _ (by omega), q11 14 _ (by omega), q11 14 _ (by omega)]
  by_cases kN : k.toNat = N
  · rw [kN]
    exact Or.inl l9
  · by_cases g : ∃ s, R - n ≤ s ∧ s < R ∧ k.toNat = rt σ s
    · obtain ⟨s, g1, g2, g3⟩ := g
      obtain ⟨a1, -, a3⟩ := l8 s g1 g2
      rw [g3]
      refine Or.inr ?_
      rw [a1, show ((N : Nat) : Int).toNat = N by omega]
      exact a3
    · have e := (l6 k.toNat kN (fun s g1 g2 g3 => g ⟨s, g1, g2, g3⟩)).2
      rw [e, l7 _ kN]
      rcases PT k k0 (by omega) with p | p
      · exact Or.inl p
      · rcases (D.2.2.2.2.1 k k0 (by omega)).2.2.2.1 with q | ⟨q, q'⟩
        · exact Or.inl q
        · refine Or.inr ?_
          rw [l7 _ (by omega)]
          exact p
/-- the loop that a node is in -/
theorem lp_eq (D : DI σ) : ∀ (n : Nat) (u : Int32), (u = -1 ∨ rgN (kT σ l2 l4) u) → lpO σ n u = lpU (kT σ l2 l4) n u := by
  intro n
  induction n with
  | zero => intro u _; rfl
  | succ n ih =>
    intro u hu
    unfold lpO lpU
    by_cases c : u = -1
    · rw [if_pos c, if_pos c, c]
    · have hr := hu.resolve_left c
      rw [if_neg c, if_neg c, xK_r hr, tk_k hr]
      by_cases c2 : 38 ≤ (kf (kT σ l2 l4) 0 u).toInt ∧ (kf (kT σ l2 l4) 0 u).toInt ≤ 41
      · rw [if_pos c2, if_pos (show isLp (kf (kT σ l2 l4) 0 u) = true from decide_eq_true c2)]
      · rw [if_neg c2, if_neg (show ¬ isLp (kf (kT σ l2 l4) 0 u) = true from fun q => c2 (of_decide_eq_true q)), tk_u hr]
        have e : kf (kT σ l2 l4) 3 u = xU (kT σ l2 l4) u := (if_pos hr).symm
        rw [e]
        exact ih _ ((tk_U D hr).imp id (fun q => q.1))
theorem lp_st (D : DI σ) : ∀ (n : Nat) (u : Int32), (u = -1 ∨ (rgN (kT σ l2 l4) u ∧ (σ.1 19).toInt ≤ u.toInt + n)) → lpU (kT σ l2 l4) (n + 1) u = lpU (kT σ l2 l4) n u ∧ (lpU (kT σ l2 l4) n u = -1 ∨ (rgN (kT σ l2 l4) (lpU (kT σ l2 l4) n u) ∧ isLp (kf (kT σ l2 l4) 0 (lpU (kT σ l2 l4) n u)) = true)) := by
  intro n
  induction n with
  | zero =>
    intro u hu
    rcases hu with rfl | ⟨hr, q⟩
    · exact ⟨rfl, Or.inl rfl⟩
    · have := ((kT_r D).mp hr).2
      omega
  | succ n ih =>
    intro u hu
    have e1 : lpU (kT σ l2 l4) (n + 1 + 1) u = if u = -1 then u else if isLp (xK (kT σ l2 l4) u) then u else lpU (kT σ l2 l4) (n + 1) (xU (kT σ l2 l4) u) := rfl
    have e2 : lpU (kT σ l2 l4) (n + 1) u = if u = -1 then u else if isLp (xK (kT σ l2 l4) u) then u else lpU (kT σ l2 l4) n (xU (kT σ l2 l4) u) := rfl
    rw [e1, e2]
    by_cases c : u = -1
    · rw [if_pos c, if_pos c]
      exact ⟨rfl, Or.inl c⟩
    · obtain ⟨hr, q⟩ := hu.resolve_left c
      rw [if_neg c, if_neg c]
      by_cases c2 : isLp (xK (kT σ l2 l4) u) = true
      · rw [if_pos c2, if_pos c2]
        exact ⟨rfl, Or.inr (lp_r c2)⟩
      · rw [if_neg c2, if_neg c2]
        exact ih _ ((tk_U D hr).imp id (fun p => ⟨p.1, by have := p.2; omega⟩))
theorem gx_x (OK : ∀ j : Int, 0 ≤ j → j < (σ.1 19).toInt → okN σ j) (D : DI σ) (N : 0 ≤ (σ.1 7).toInt ∧ 0 ≤ (σ.1 9).toInt) (hS : ∀ i, i < (σ.1 7).toInt.toNat → kS' i = kSg σ i) (hn : (σ.1 7).toInt.toNat ≤ nS') (hV : ∀ i, i < (σ.1 9).toInt.toNat → kV i = kSg σ (9216 + i)) {i : Nat} (hv : rgN (kT σ l2 l4) v) (hi : (i : Int) < (kf (kT σ l2 l4) 6 v).toInt) (nk : ¬ kf (kT σ l2 l4) 0 v = 4) (hx : isX (kO σ (cO σ v i)).toInt) : gX (kT σ l2 l4) nS' (σ.1 9).toInt.toNat kS' kV (kC (kT σ l2 l4) v i) := by
  obtain ⟨a, b, -, -⟩ := tk_h D hv hi
  rw [tk_c hv, tk_k a] at hx
  have h1 := (ok_ri OK D a).1
  refine Or.inl ⟨g_E OK D N hS hn hV 101 _ a (by omega) hx, ?_⟩
  rw [show xU (kT σ l2 l4) (kC (kT σ l2 l4) v i) = kf (kT σ l2 l4) 3 (kC (kT σ l2 l4) v i) from if_pos a, b, xK_r hv]
  exact nk
theorem gx_t (OK : ∀ j : Int, 0 ≤ j → j < (σ.1 19).toInt → okN σ j) (D : DI σ) (N : 0 ≤ (σ.1 7).toInt ∧ 0 ≤ (σ.1 9).toInt) (hS : ∀ i, i < (σ.1 7).toInt.toNat → kS' i = kSg σ i) (hn : (σ.1 7).toInt.toNat ≤ nS') (hV : ∀ i, i < (σ.1 9).toInt.toNat → kV i = kSg σ (9216 + i)) {i : Nat} (hv : rgN (kT σ l2 l4) v) (hi : (i : Int) < (kf (kT σ l2 l4) 6 v).toInt) (hx : kO σ (cO σ v i) = 32 ∨ kO σ (cO σ v i) = 0) : gX (kT σ l2 l4) nS' (σ.1 9).toInt.toNat kS' kV (kC (kT σ l2 l4) v i) := by
  obtain ⟨a, b, -, -⟩ := tk_h D hv hi
  rw [tk_c hv, tk_k a] at hx
  obtain ⟨h1, R⟩ := ok_ri OK D a
  refine Or.inr ⟨a, ?_⟩
  rcases hx with q | q
  · unfold riP at R
    rw [tk_k a, if_pos q, tk_g a, tk_m a, tk_c a] at R
    obtain ⟨⟨r1, r2⟩, r3, r4⟩ := R
    have z1 : (1 : Int32).toInt = 1 := rfl
    have z2 : (1000000 : Int32).toInt = 1000000 := rfl
    have l : ((0 : Nat) : Int) < (kf (kT σ l2 l4) 6 (kC (kT σ l2 l4) v i)).toInt := by rw [r3]; decide
    obtain ⟨a2, -, -, a3⟩ := tk_h (l2 := l2) (l4 := l4) D a l
    rw [tk_k a2] at r4
    exact Or.inr ⟨q, r3, by omega, by omega, g_E OK D N hS hn hV 100 _ a2 (by omega) r4⟩
  · have B := (st_B R (by rw [tk_k a, q]; unfold isX; decide) (by rw [tk_k a, q]; decide) (by rw [tk_k a, q]; decide)).2
    rw [tk_k a, q] at B
    have B : mO σ (kC (kT σ l2 l4) v i) = 0 := B
    rw [tk_m a] at B
    exact Or.inl ⟨q, B⟩
theorem g_o (N : 0 ≤ (σ.1 7).toInt ∧ 0 ≤ (σ.1 9).toInt) (hn : (σ.1 7).toInt.toNat ≤ nS') {w : Int32} (a : rgN (kT σ l2 l4) w) (t : tOK σ w) : gO' (kT σ l2 l4) nS' (σ.1 9).toInt.toNat w := by
  unfold tOK at t
  rw [tk_k a, tk_g a] at t
  rcases t with ⟨t1, t2, t3⟩ | ⟨t1, t2, t3⟩
  · exact ⟨a, t2, Or.inl ⟨t1, by omega⟩⟩
  · exact ⟨a, t2, Or.inr ⟨t1, by omega⟩⟩
theorem g_tg (OK : ∀ j : Int, 0 ≤ j → j < (σ.1 19).toInt → okN σ j) (D : DI σ) (N : 0 ≤ (σ.1 7).toInt ∧ 0 ≤ (σ.1 9).toInt) (hS : ∀ i, i < (σ.1 7).toInt.toNat → kS' i = kSg σ i) (hn : (σ.1 7).toInt.toNat ≤ nS') (hV : ∀ i, i < (σ.1 9).toInt.toNat → kV i = kSg σ (9216 + i)) {i : Nat} (k80 : k = 80 ∨ k = 81) (hv : rgN (kT σ l2 l4) v) (hi : (i : Int) < (kf (kT σ l2 l4) 6 v).toInt) (t : tgK σ (cO σ v i) k) : gTg (kT σ l2 l4, nS', eS', (σ.1 9).toInt.toNat) kS' kV k (kC (kT σ l2 l4) v i) := by
  obtain ⟨a, -⟩ := tk_h D hv hi
  rw [tk_c hv] at t
  unfold tgK at t
  rw [tk_k a, tk_c a] at t
  have R := (ok_ri OK D a).2
  refine ⟨a, ?_⟩
  rcases t with t | ⟨t | t, t2⟩
  · have hx : isX (kO σ (kC (kT σ l2 l4) v i)).toInt := by
      rw [tk_k a, t]
      rcases k80 with rfl | rfl <;> (unfold isX; decide)
    have B := ex_B R hx
    rw [tk_k a, t] at B
    have B : mO σ (kC (kT σ l2 l4) v i) = 0 ∧ tOK σ (kC (kT σ l2 l4) v i) := by rcases k80 with rfl | rfl <;> exact B
    exact Or.inl ⟨t, g_o N hn a B.2⟩
  · have B := ex_B R (by rw [tk_k a, t]; unfold isX; decide)
    rw [tk_k a, t] at B
    have B : gO σ (kC (kT σ l2 l4) v i) = 0 ∧ mO σ (kC (kT σ l2 l4) v i) = 2 ∧ (tOK σ (cO σ (kC (kT σ l2 l4) v i) 0) ∧ tF σ (cO σ (kC (kT σ l2 l4) v i) 0) 0 = 1) ∧ isX (kO σ (cO σ (kC (kT σ l2 l4) v i) 1)).toInt := B
    obtain ⟨-, b2, ⟨b3, -⟩, b5⟩ := B
    rw [tk_m a] at b2
    have l : ((0 : Nat) : Int) < (kf (kT σ l2 l4) 6 (kC (kT σ l2 l4) v i)).toInt := by rw [b2]; decide
    have l' : ((1 : Nat) : Int) < (kf (kT σ l2 l4) 6 (kC (kT σ l2 l4) v i)).toInt := by rw [b2]; decide
    obtain ⟨a2, -⟩ := tk_h (l2 := l2) (l4 := l4) D a l
    rw [tk_c a] at b3
    rw [tk_k a2] at t2
    exact Or.inr (Or.inl ⟨t, b2, g_o N hn a2 b3, t2, gx_x OK D N hS hn hV a l' (by rw [t]; decide) b5⟩)
  · have B := ex_B R (by rw [tk_k a, t]; unfold isX; decide)
    rw [tk_k a, t] at B
    have B : gO σ (kC (kT σ l2 l4) v i) = 0 ∧ mO σ (kC (kT σ l2 l4) v i) = 3 ∧ paP σ (kC (kT σ l2 l4) v i) := B
    obtain ⟨-, b2, b3⟩ := B
    rw [tk_m a] at b2
    have l : ((0 : Nat) : Int) < (kf (kT σ l2 l4) 6 (kC (kT σ l2 l4) v i)).toInt := by rw [b2]; decide
    have l' : ((1 : Nat) : Int) < (kf (kT σ l2 l4) 6 (kC (kT σ l2 l4) v i)).toInt := by rw [b2]; decide
    have l'' : ((2 : Nat) : Int) < (kf (kT σ l2 l4) 6 (kC (kT σ l2 l4) v i)).toInt := by rw [b2]; decide
    obtain ⟨a2, -⟩ := tk_h (l2 := l2) (l4 := l4) D a l
    unfold paP at b3
    have b3 := b3.1
    rw [tk_c a] at b3
    rw [tk_k a2] at t2
    exact Or.inr (Or.inr ⟨t, b2, g_o N hn a2 b3, t2, (tk_h D a l').1, (tk_h D a l'').1⟩)
theorem g_St (OK : ∀ j : Int, 0 ≤ j → j < (σ.1 19).toInt → okN σ j) (D : DI σ) (N : 0 ≤ (σ.1 7).toInt ∧ 0 ≤ (σ.1 9).toInt) (hS : ∀ i, i < (σ.1 7).toInt.toNat → kS' i = kSg σ i) (hn : (σ.1 7).toInt.toNat ≤ nS') (hV : ∀ i, i < (σ.1 9).toInt.toNat → kV i = kSg σ (9216 + i)) (hv : rgN (kT σ l2 l4) v) : gSt (kT σ l2 l4, nS', eS', (σ.1 9).toInt.toNat) kS' kV v := by
  have R := (ok_ri OK D hv).2
  have st : ∀ e : Int32, kf (kT σ l2 l4) 0 v = e → ¬ isX e.toInt → ¬ e = 30 → ¬ e = 32 → stB σ v e := fun e q h1 h2 h3 => by
    have := (st_B R (by rw [tk_k hv, q]; exact h1) (by rw [tk_k hv, q]; exact h2) (by rw [tk_k hv, q]; exact h3)).2
    rw [tk_k hv, q] at this
    exact this
  refine ⟨fun q => ?_, fun q => ?_, fun q => ?_, fun q => ?_, fun q => ?_, fun q => ?_, fun q => ?_, fun q => ?_, fun q => ?_, fun q => ?_, fun q => ?_⟩
  · have q : kf (kT σ l2 l4) 0 v = 30 := q
    unfold riP at R
    rw [tk_k hv, if_neg (by rw [q]; decide), if_pos q] at R
    unfold asP wvP at R
    rw [tk_g hv, tk_m hv] at R
    obtain ⟨-, r2, r3, r4, r5, r6⟩ := R
    have ef : (if kf (kT σ l2 l4) 1 v = 2 then (2 : Int32) else 1).toInt = asF (kT σ l2 l4, nS', eS', (σ.1 9).toInt.toNat) v := by
      show _ = ((if kf (kT σ l2 l4) 1 v = 2 then 2 else 1 : Nat) : Int)
      by_cases c : kf (kT σ l2 l4) 1 v = 2
      · rw [if_pos c, if_pos c]; rfl
      · rw [if_neg c, if_neg c]; rfl
    have fb : asF (kT σ l2 l4, nS', eS', (σ.1 9).toInt.toNat) v = 1 ∨ asF (kT σ l2 l4, nS', eS', (σ.1 9).toInt.toNat) v = 2 := by
      unfold asF
      split
      · exact Or.inr rfl
      · exact Or.inl rfl
    have l0 : ((0 : Nat) : Int) < (kf (kT σ l2 l4) 6 v).toInt := by omega
    refine ⟨⟨by show _ < (kf (kT σ l2 l4) 6 v).toInt; omega, by show (kf (kT σ l2 l4) 6 v).toInt ≤ _; omega⟩, g_tg OK D N hS hn hV (Or.inl rfl) hv l0 r2, fun c => ?_, fun i i1 i2 => ?_⟩
    · have c : kf (kT σ l2 l4) 1 v = 2 := c
      rw [if_pos c] at r3 r4
      have z2 : (2 : Int32).toInt = 2 := rfl
      exact gx_t OK D N hS hn hV hv (by omega) (Or.inl (r3.resolve_left (by decide)))
    · have i2 : (i : Int) < (kf (kT σ l2 l4) 6 v).toInt := i2
      have q31 : kO σ (cO σ v i) = 31 := r6 i (by omega) (by rw [tk_m hv]; exact i2)
      obtain ⟨a, -⟩ := tk_h D hv i2
      rw [tk_c hv, tk_k a] at q31
      have B := (st_B (ok_ri OK D a).2 (by rw [tk_k a, q31]; unfold isX; decide) (by rw [tk_k a, q31]; decide) (by rw [tk_k a, q31]; decide)).2
      rw [tk_k a, q31] at B
      have B : mO σ (kC (kT σ l2 l4) v i) = 2 ∧ isX (kO σ (cO σ (kC (kT σ l2 l4) v i) 0)).toInt ∧ (kO σ (cO σ (kC (kT σ l2 l4) v i) 1) = 32 ∨ kO σ (cO σ (kC (kT σ l2 l4) v i) 1) = 0) := B
      obtain ⟨b1, b2, b3⟩ := B
      rw [tk_m a] at b1
      exact ⟨b1, gx_x OK D N hS hn hV a (by rw [b1]; decide) (by rw [q31]; decide) b2, gx_t OK D N hS hn hV a (by rw [b1]; decide) b3⟩
  · have B : mO σ v = 2 ∧ tgK σ (cO σ v 0) 81 ∧ isX (kO σ (cO σ v 1)).toInt := st 33 q (by unfold isX; decide) (by decide) (by decide)
    obtain ⟨b1, b2, b3⟩ := B
    rw [tk_m hv] at b1
    have q : kf (kT σ l2 l4) 0 v = 33 := q
    exact ⟨b1, g_tg OK D N hS hn hV (Or.inr rfl) hv (by rw [b1]; decide) b2, gx_x OK D N hS hn hV hv (by rw [b1]; decide) (by rw [q]; decide) b3⟩
  · intro i i1 i2
    have B : ifP σ v (mO σ v).toInt 0 := st 34 q (by unfold isX; decide) (by decide) (by decide)
    have i2 : (i : Int) + 1 < (kf (kT σ l2 l4) 6 v).toInt := i2
    have q : kf (kT σ l2 l4) 0 v = 34 := q
    rw [tk_m hv] at B
    have b := (B.1 (i / 2) (by omega)).1
    rw [show 0 + 2 * (i / 2) = i by omega] at b
    exact gx_x OK D N hS hn hV hv (by omega) (by rw [q]; decide) b
  · have B : ¬ mO σ v < 2 ∧ isX (kO σ (cO σ v 0)).toInt ∧ kA σ v 1 (fun k => k = 36) := st 35 q (by unfold isX; decide) (by decide) (by decide)
    obtain ⟨b1, b2, b3⟩ := B
    have q : kf (kT σ l2 l4) 0 v = 35 := q
    have z2 : (2 : Int32).toInt = 2 := rfl
    have b1 := nlt_i b1
    rw [tk_m hv] at b1
    refine ⟨by show 1 ≤ (kf (kT σ l2 l4) 6 v).toInt; omega, gx_x OK D N hS hn hV hv (by omega) (by rw [q]; decide) b2, fun i i1 i2 => ?_⟩
    have i2 : (i : Int) < (kf (kT σ l2 l4) 6 v).toInt := i2
    have q36 : kO σ (cO σ v i) = 36 := b3 i i1 (by rw [tk_m hv]; exact i2)
    obtain ⟨a, -⟩ := tk_h D hv i2
    rw [tk_c hv, tk_k a] at q36
    have B := (st_B (ok_ri OK D a).2 (by rw [tk_k a, q36]; unfold isX; decide) (by rw [tk_k a, q36]; decide) (by rw [tk_k a, q36]; decide)).2
    rw [tk_k a, q36] at B
    have B : mO σ (kC (kT σ l2 l4) v i) = 2 ∧ (kO σ (cO σ (kC (kT σ l2 l4) v i) 0) = 48 ∧ 1 ≤ (mO σ (cO σ (kC (kT σ l2 l4) v i) 0)).toInt ∧ kA σ (cO σ (kC (kT σ l2 l4) v i) 0) 0 (fun k => isC k.toInt)) ∧ isB σ (cO σ (kC (kT σ l2 l4) v i) 1) := B
    obtain ⟨c1, ⟨c2, -, c3⟩, -⟩ := B
    rw [tk_m a] at c1
    have l : ((0 : Nat) : Int) < (kf (kT σ l2 l4) 6 (kC (kT σ l2 l4) v i)).toInt := by rw [c1]; decide
    obtain ⟨a2, -⟩ := tk_h (l2 := l2) (l4 := l4) D a l
    rw [tk_c a] at c2 c3
    rw [tk_k a2] at c2
    refine ⟨c1, fun j hj => ?_⟩
    have hj : (j : Int) < (kf (kT σ l2 l4) 6 (kC (kT σ l2 l4) (kC (kT σ l2 l4) v i) 0)).toInt := hj
    have cj : isC (kO σ (cO σ (kC (kT σ l2 l4) (kC (kT σ l2 l4) v i) 0) j)).toInt := c3 j (Nat.zero_le _) (by rw [tk_m a2]; exact hj)
    obtain ⟨a3, -⟩ := tk_h (l2 := l2) (l4 := l4) D a2 hj
    by_cases c37 : kf (kT σ l2 l4) 0 (kC (kT σ l2 l4) (kC (kT σ l2 l4) (kC (kT σ l2 l4) v i) 0) j) = 37
    · exact Or.inl c37
    · have n37 : ¬ (kO σ (cO σ (kC (kT σ l2 l4) (kC (kT σ l2 l4) v i) 0) j)).toInt = 37 := fun e => by
        rw [tk_c a2, tk_k a3] at e
        exact c37 (Int32.toInt_inj.mp e)
      have cx : isX (kO σ (cO σ (kC (kT σ l2 l4) (kC (kT σ l2 l4) v i) 0) j)).toInt := by
        unfold isC at cj
        unfold isX
        omega
      exact Or.inr (gx_x OK D N hS hn hV a2 hj (by rw [c2]; decide) cx)
  · have q' : kf (kT σ l2 l4) 0 v = 38 ∨ kf (kT σ l2 l4) 0 v = 39 := q
    have B : stA σ v := by
      rcases q' with e | e
      · exact st 38 e (by unfold isX; decide) (by decide) (by decide)
      · exact st 39 e (by unfold isX; decide) (by decide) (by decide)
    have n4 : ¬ kf (kT σ l2 l4) 0 v = 4 := by rcases q' with e | e <;> (rw [e]; decide)
    unfold stA at B
    obtain ⟨b1, b2, ⟨b3, b4⟩, b5, b6, -⟩ := B
    rw [tk_m hv] at b1
    have l : ((0 : Nat) : Int) < (kf (kT σ l2 l4) 6 v).toInt := by rw [b1]; decide
    obtain ⟨a, -⟩ := tk_h (l2 := l2) (l4 := l4) D hv l
    rw [tk_c hv] at b2 b3 b4
    rw [tk_k a] at b2
    refine ⟨b1, g_o N hn a b3, b2, ?_, gx_x OK D N hS hn hV hv (by rw [b1]; decide) n4 b5, gx_x OK D N hS hn hV hv (by rw [b1]; decide) n4 b6⟩
    have o := (tk_o (l2 := l2) (l4 := l4) N hS hV a b3).1
    unfold kOf at o
    rw [if_neg (by rw [b2]; decide)] at o
    exact o.trans b4
  · have B : mO σ v = 2 ∧ isX (kO σ (cO σ v 0)).toInt ∧ isB σ (cO σ v 1) := st 40 q (by unfold isX; decide) (by decide) (by decide)
    have q : kf (kT σ l2 l4) 0 v = 40 := q
    obtain ⟨b1, b2, -⟩ := B
    rw [tk_m hv] at b1
    exact ⟨b1, gx_x OK D N hS hn hV hv (by rw [b1]; decide) (by rw [q]; decide) b2⟩
  · have B : mO σ v = 1 ∧ isB σ (cO σ v 0) := st 41 q (by unfold isX; decide) (by decide) (by decide)
    rw [tk_m hv] at B
    exact B.1
  · have q' : kf (kT σ l2 l4) 0 v = 42 ∨ kf (kT σ l2 l4) 0 v = 43 := q
    have B : stE σ v := by
      rcases q' with e | e
      · exact st 42 e (by unfold isX; decide) (by decide) (by decide)
      · exact st 43 e (by unfold isX; decide) (by decide) (by decide)
    have n4 : ¬ kf (kT σ l2 l4) 0 v = 4 := by rcases q' with e | e <;> (rw [e]; decide)
    unfold stE at B
    obtain ⟨b1, b2, b3⟩ := B
    rw [tk_m hv] at b1
    have l : ((0 : Nat) : Int) < (kf (kT σ l2 l4) 6 v).toInt := by rw [b1]; decide
    obtain ⟨a, -⟩ := tk_h (l2 := l2) (l4 := l4) D hv l
    have eu : uO σ v = xU (kT σ l2 l4) v := (tk_u hv).trans (if_pos hv).symm
    have hu : xU (kT σ l2 l4) v = -1 ∨ rgN (kT σ l2 l4) (xU (kT σ l2 l4) v) := (tk_U D hv).imp id (fun p => p.1)
    rw [eu, lp_eq (l2 := l2) (l4 := l4) D _ _ hu] at b3
    obtain ⟨s1, s2⟩ := lp_st (l2 := l2) (l4 := l4) D (σ.1 19).toInt.toNat (xU (kT σ l2 l4) v) (hu.imp id (fun p => ⟨p, by have := p.1; omega⟩))
    have el : lpO' (kT σ l2 l4) v = lpU (kT σ l2 l4) (σ.1 19).toInt.toNat (xU (kT σ l2 l4) v) := s1
    refine ⟨b1, ?_, ?_⟩
    · rcases b2 with b2 | b2
      · exact Or.inr (gx_x OK D N hS hn hV hv l n4 b2)
      · rw [tk_c hv, tk_k a] at b2
        exact Or.inl b2
    · show rgN (kT σ l2 l4) (lpO' (kT σ l2 l4) v) ∧ isLp (kf (kT σ l2 l4) 0 (lpO' (kT σ l2 l4) v)) = true
      rw [el]
      exact s2.resolve_left b3
  · have B : mO σ v = 3 ∧ (kO σ (cO σ v 0) = 48 ∧ kA σ (cO σ v 0) 0 (fun k => k = 80)) ∧ (isX (kO σ (cO σ v 1)).toInt ∨ kO σ (cO σ v 1) = 0) ∧ (kO σ (cO σ v 2) = 32 ∨ kO σ (cO σ v 2) = 0) := st 44 q (by unfold isX; decide) (by decide) (by decide)
    have q : kf (kT σ l2 l4) 0 v = 44 := q
    obtain ⟨b1, -, b3, b4⟩ := B
    rw [tk_m hv] at b1
    have l1' : ((1 : Nat) : Int) < (kf (kT σ l2 l4) 6 v).toInt := by rw [b1]; decide
    have l2' : ((2 : Nat) : Int) < (kf (kT σ l2 l4) 6 v).toInt := by rw [b1]; decide
    obtain ⟨a1, -⟩ := tk_h (l2 := l2) (l4 := l4) D hv l1'
    refine ⟨b1, ?_, Or.inr (gx_t OK D N hS hn hV hv l2' b4)⟩
    rcases b3 with b3 | b3
    · exact Or.inr (gx_x OK D N hS hn hV hv l1' (by rw [q]; decide) b3)
    · rw [tk_c hv, tk_k a1] at b3
      exact Or.inl b3
  · have B : mO σ v = 1 ∧ isX (kO σ (cO σ v 0)).toInt := st 46 q (by unfold isX; decide) (by decide) (by decide)
    have q : kf (kT σ l2 l4) 0 v = 46 := q
    obtain ⟨b1, b2⟩ := B
    rw [tk_m hv] at b1
    exact ⟨b1, gx_x OK D N hS hn hV hv (by rw [b1]; decide) (by rw [q]; decide) b2⟩
  · have B : mO σ v = 2 ∧ isX (kO σ (cO σ v 0)).toInt ∧ isX (kO σ (cO σ v 1)).toInt := st 47 q (by unfold isX; decide) (by decide) (by decide)
    have q : kf (kT σ l2 l4) 0 v = 47 := q
    obtain ⟨b1, b2, b3⟩ := B
    rw [tk_m hv] at b1
    exact ⟨b1, gx_x OK D N hS hn hV hv (by rw [b1]; decide) (by rw [q]; decide) b2, gx_x OK D N hS hn hV hv (by rw [b1]; decide) (by rw [q]; decide) b3⟩
end Xl
section Xl2
variable {σ : rS} {l2 l4 : List AV}
/-- what is kept is good -/
theorem tk_GKA (OK : ∀ j : Int, 0 ≤ j → j < (σ.1 19).toInt → okN σ j) (PT : pTall σ) (D : DI σ) (X : DX σ l2 l4) (N : 0 ≤ (σ.1 7).toInt ∧ 0 ≤ (σ.1 9).toInt) : GKA (kT σ l2 l4) (σ.1 7).toInt.toNat (σ.1 9).toInt.toNat (kSg σ) (fun i => kSg σ (9216 + i)) := by
  intro nS' kS' eS' hn hS
  refine ⟨tk_PO D X, tk_GT OK PT D, fun x hx => tk_U D hx, fun v hv => g_St OK D N hS hn (fun i _ => rfl) hv, fun i _ q => ?_⟩
  show (if ia σ 0 (9216 + i) = 1 then ia σ 1 (9216 + i) else (1 : Int32)) = 1
  have q : ia σ 0 (9216 + i) = 2 := q
  rw [if_neg (by rw [q]; decide)]
end Xl2
