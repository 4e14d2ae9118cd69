/-! THE REFERENCE'S OPERATIONS ON TWO VALUES: joined, shift -/
/-- elements of r from a on, below n, are g's -/
def setF (σ : rS) (r a n : Nat) (g : Nat → Int32) : rS := (σ.1, σ.2.1, fun j i => if j = 5 ∧ 64 * r + a ≤ i ∧ i < 64 * r + n then g (i - 64 * r) else σ.2.2.1 j i, σ.2.2.2)
section Vh
variable {lim : Nat × Nat} {d m r s n : Nat} {σ σ' τ : rS} {b h h' h1 : ah_H} {R S k o x l q : Int32} {y z : Int64} {w v : WD} {res : Option WD} {g : Nat → Int32}
theorem setF_n {a : Nat} (ha : n ≤ a) : setF σ r a n g = σ := rS_ext (fun _ => rfl) (fun _ => rfl) (fun j i => if_neg (by omega)) (fun _ _ => rfl)
theorem setF_s {a : Nat} (ha : a < n) : sI (setF σ r (a + 1) n g) 5 (64 * r + a) (g a) = setF σ r a n g := by
  refine rS_ext (fun _ => rfl) (fun _ => rfl) (fun j i => ?_) (fun _ _ => rfl)
  show (if j = 5 ∧ i = 64 * r + a then g a else if j = 5 ∧ 64 * r + (a + 1) ≤ i ∧ i < 64 * r + n then g (i - 64 * r) else σ.2.2.1 j i) = if j = 5 ∧ 64 * r + a ≤ i ∧ i < 64 * r + n then g (i - 64 * r) else σ.2.2.1 j i
  by_cases c : j = 5 ∧ i = 64 * r + a
  · rw [if_pos c, if_pos (by omega), show i - 64 * r = a by omega]
  · rw [if_neg c]
    by_cases c2 : j = 5 ∧ 64 * r + (a + 1) ≤ i ∧ i < 64 * r + n
    · rw [if_pos c2, if_pos (by omega)]
    · rw [if_neg c2, if_neg (by omega)]
theorem setF_j {a j i : Nat} (hj : j ≠ 5) : ia (setF σ r a n g) j i = ia σ j i := if_neg (fun q => hj q.1)
theorem setF_e {a p : Nat} (h1 : a ≤ p) (h2 : p < n) : ia (setF σ r a n g) 5 (64 * r + p) = g p := (if_pos ⟨rfl, by omega, by omega⟩).trans (congrArg g (by omega))
theorem setF_o {a i : Nat} (hq : i < 64 * r + a ∨ 64 * r + n ≤ i) : ia (setF σ r a n g) 5 i = ia σ 5 i := if_neg (by omega)
theorem by_F {a : Nat} (B : byE σ) (hg : ∀ k, a ≤ k → k < n → 0 ≤ (g k).toInt ∧ (g k).toInt ≤ 127) : byE (setF σ r a n g) := by
  refine ⟨fun j hj => ?_, fun j hj => ?_⟩
  · rw [setF_j (by decide), setF_j (by decide)]
    exact B.1 j hj
  · by_cases c : 64 * r + a ≤ j ∧ j < 64 * r + n
    · have e : ia (setF σ r a n g) 5 j = g (j - 64 * r) := if_pos ⟨rfl, c⟩
      rw [e]
      exact hg _ (by omega) (by omega)
    · rw [setF_o (by omega)]
      exact B.2 j hj
theorem sm_F {a : Nat} {Q : Nat → Nat → Prop} {σ0 : rS} (G : sm Q σ0 σ) (hq : ∀ k, a ≤ k → k < n → Q 5 (64 * r + k)) : sm Q σ0 (setF σ r a n g) := by
  refine ⟨G.1, G.2.1, fun j i hn => ?_, G.2.2.2⟩
  by_cases c : j = 5 ∧ 64 * r + a ≤ i ∧ i < 64 * r + n
  · obtain ⟨rfl, c1, c2⟩ := c
    refine absurd ?_ hn
    have := hq (i - 64 * r) (by omega) (by omega)
    rw [show 64 * r + (i - 64 * r) = i by omega] at this
    exact this
  · exact (if_neg c).trans (G.2.2.1 j i hn)
/-- the second half of joined: elements of s before those of r -/
theorem y_167 (H : RH m τ b h) (B : byE τ) (hR : R.toInt = r) (hS : S.toInt = s) (hs : s < 10100) (hrs : r < s) {p : Int32} (p0 : 1 ≤ p.toInt) (l0 : 1 ≤ l.toInt) (l1 : p.toInt + l.toInt ≤ 64) : wq (ah_val lim ah_P (d + 2) 86 167 [some (aR m), none, some (aI R), some (aI S), some (aI p), some (aI l), some (aI 0)] [] h) (rI fun x h' => x = 1 ∧ RH m (sRow (setE τ r l.toInt.toNat fun k => el τ s k) r (p + l)) b h') := by
  have hr : r < 10100 := by omega
  have ep : (p + l).toInt = p.toInt + l.toInt := ad_i (by omega) (by omega)
  have L : ∀ (n : Nat) (v : Int32) (h : ah_H), v.toInt + n = l.toInt → 0 ≤ v.toInt → RH m (setE τ r v.toInt.toNat fun k => el τ s k) b h → wq (ah_val lim ah_P (d + 2) 86 167 [some (aR m), none, some (aI R), some (aI S), some (aI p), some (aI l), some (aI v)] [] h) (rI fun x h' => x = 1 ∧ RH m (sRow (setE τ r l.toInt.toNat fun k => el τ s k) r (p + l)) b h') := by
    intro n
    induction n with
    | zero =>
      intro v h hv h0 H
      rw [show v.toInt.toNat = l.toInt.toNat by omega] at H
      exact wq_eq q_86_167 (wq_f (fun q => by have := lt_i q; omega) (wq_at H.1 (wq_cV (r_row H hR hr (by omega) (by omega)) fun h1 H1 => wq_t (by decide) (wq_some (rI_i ⟨rfl, H1⟩)))))
    | succ n ih =>
      intro v h hv h0 H
      have ei := inc_i (v := v) (by omega)
      refine wq_eq q_86_167 (wq_t (Int32.lt_iff_toInt_lt.mpr (by omega)) (wq_at H.1 (wq_cI (r_element H hS hs h0 (by omega)) ?_)))
      rintro _ _ ⟨rfl, rfl⟩
      rw [setE_n (by omega)]
      have bb := B.2 (64 * s + v.toInt.toNat) (by omega)
      refine wq_at H.1 (wq_cV (se_st H hR hr h0 (by omega) rfl bb.1 bb.2) fun h1 H1 => ih (v + 1) h1 (by omega) (by omega) ?_)
      rw [show (v + 1).toInt.toNat = v.toInt.toNat + 1 by omega]
      exact H1
  exact L l.toInt.toNat 0 h (by rw [Int32.toInt_zero]; omega) (by rw [Int32.toInt_zero]; omega) (by rw [show (0 : Int32).toInt.toNat = 0 from rfl, setE_0]; exact H)
/-- the first half: elements of r go up -/
theorem y_136 (H : RH m τ b h) (B : byE τ) (hR : R.toInt = r) (hS : S.toInt = s) (hs : s < 10100) (hrs : r < s) {p : Int32} (p0 : 1 ≤ p.toInt) (l0 : 1 ≤ l.toInt) (l1 : p.toInt + l.toInt ≤ 64) : wq (ah_val lim ah_P (d + 2) 86 136 [some (aR m), none, some (aI R), some (aI S), some (aI p), some (aI l), some (aI (p - 1))] [] h) (rI fun x h' => x = 1 ∧ RH m (sRow (setE (setF τ r l.toInt.toNat (l.toInt.toNat + p.toInt.toNat) fun k => el τ r (k - l.toInt.toNat)) r l.toInt.toNat fun k => el τ s k) r (p + l)) b h') := by
  have hr : r < 10100 := by omega
  have L : ∀ (n : Nat) (v : Int32) (h : ah_H), v.toInt + 1 = n → (n : Int) ≤ p.toInt → RH m (setF τ r (l.toInt.toNat + n) (l.toInt.toNat + p.toInt.toNat) fun k => el τ r (k - l.toInt.toNat)) b h → wq (ah_val lim ah_P (d + 2) 86 136 [some (aR m), none, some (aI R), some (aI S), some (aI p), some (aI l), some (aI v)] [] h) (rI fun x h' => x = 1 ∧ RH m (sRow (setE (setF τ r l.toInt.toNat (l.toInt.toNat + p.toInt.toNat) fun k => el τ r (k - l.toInt.toNat)) r l.toInt.toNat fun k => el τ s k) r (p + l)) b h') := by
    intro n
    induction n with
    | zero =>
      intro v h hv hn H
      refine wq_eq q_86_136 (wq_t (Int32.lt_iff_toInt_lt.mpr (by rw [Int32.toInt_zero]; omega)) ?_)
      have B' : byE (setF τ r (l.toInt.toNat + 0) (l.toInt.toNat + p.toInt.toNat) fun k => el τ r (k - l.toInt.toNat)) := by_F B (fun k _ hk => B.2 _ (by omega))
      refine wq_mono (y_167 H B' hR hS hs hrs p0 l0 l1) ?_
      rintro _ ⟨x, h', rfl, rfl, H'⟩
      refine rI_i ⟨rfl, ?_⟩
      have e : (fun k => el (setF τ r (l.toInt.toNat + 0) (l.toInt.toNat + p.toInt.toNat) fun k => el τ r (k - l.toInt.toNat)) s k) = fun k => if 64 * r + (l.toInt.toNat + 0) ≤ 64 * s + k ∧ 64 * s + k < 64 * r + (l.toInt.toNat + p.toInt.toNat) then el τ r (64 * s + k - 64 * r - l.toInt.toNat) else el τ s k := by
        funext k
        by_cases c : 64 * r + (l.toInt.toNat + 0) ≤ 64 * s + k ∧ 64 * s + k < 64 * r + (l.toInt.toNat + p.toInt.toNat)
        · rw [if_pos c]
          exact (if_pos ⟨rfl, c⟩)
        · rw [if_neg c]
          exact setF_o (by omega)
      rw [e] at H'
      refine (?_ : RH m _ b h')
      have e2 : setE (setF τ r (l.toInt.toNat + 0) (l.toInt.toNat + p.toInt.toNat) fun k => el τ r (k - l.toInt.toNat)) r l.toInt.toNat (fun k => if 64 * r + (l.toInt.toNat + 0) ≤ 64 * s + k ∧ 64 * s + k < 64 * r + (l.toInt.toNat + p.toInt.toNat) then el τ r (64 * s + k - 64 * r - l.toInt.toNat) else el τ s k) = setE (setF τ r l.toInt.toNat (l.toInt.toNat + p.toInt.toNat) fun k => el τ r (k - l.toInt.toNat)) r l.toInt.toNat fun k => el τ s k := by
        refine rS_ext (fun _ => rfl) (fun _ => rfl) (fun j i => ?_) (fun _ _ => rfl)
        show (if j = 5 ∧ 64 * r ≤ i ∧ i < 64 * r + l.toInt.toNat then (if 64 * r + (l.toInt.toNat + 0) ≤ 64 * s + (i - 64 * r) ∧ 64 * s + (i - 64 * r) < 64 * r + (l.toInt.toNat + p.toInt.toNat) then el τ r (64 * s + (i - 64 * r) - 64 * r - l.toInt.toNat) else el τ s (i - 64 * r)) else _) = if j = 5 ∧ 64 * r ≤ i ∧ i < 64 * r + l.toInt.toNat then el τ s (i - 64 * r) else _
        by_cases c : j = 5 ∧ 64 * r ≤ i ∧ i < 64 * r + l.toInt.toNat
        · rw [if_pos c, if_pos c, if_neg (by omega)]
        · rw [if_neg c, if_neg c]
          rfl
      rw [e2] at H'
      exact H'
    | succ n ih =>
      intro v h hv hn H
      have ei := dec_i (v := v) (by omega)
      have es : (l + v).toInt = l.toInt + v.toInt := ad_i (by omega) (by omega)
      refine wq_eq q_86_136 (wq_f (ix_ge (by omega)) (wq_at H.1 (wq_cI (r_element H hR hr (by omega) (by omega)) ?_)))
      rintro _ _ ⟨rfl, rfl⟩
      rw [setF_o (by omega)]
      have bb := B.2 (64 * r + v.toInt.toNat) (by omega)
      refine wq_at H.1 (wq_cV (r_setElement H hR hr (by omega) (by omega) bb.1 bb.2) fun h1 H1 => ih (v + -1) h1 (by omega) (by omega) ?_)
      have := setF_s (σ := τ) (r := r) (a := l.toInt.toNat + n) (n := l.toInt.toNat + p.toInt.toNat) (g := fun k => el τ r (k - l.toInt.toNat)) (by omega)
      rw [← this]
      have e3 : (l + v).toInt.toNat = l.toInt.toNat + n := by omega
      rw [e3] at H1
      have e4 : el τ r (l.toInt.toNat + n - l.toInt.toNat) = ia τ 5 (64 * r + v.toInt.toNat) := by
        show ia τ 5 _ = _
        rw [show 64 * r + (l.toInt.toNat + n - l.toInt.toNat) = 64 * r + v.toInt.toNat by omega]
      show RH m (sI (setF τ r (l.toInt.toNat + n + 1) (l.toInt.toNat + p.toInt.toNat) fun k => el τ r (k - l.toInt.toNat)) 5 (64 * r + (l.toInt.toNat + n)) (el τ r (l.toInt.toNat + n - l.toInt.toNat))) b h1
      rw [e4]
      exact H1
  have e1 : (p - 1).toInt = p.toInt - 1 := sb_i (by show _ ≤ p.toInt - 1; omega) (by show p.toInt - 1 ≤ _; omega)
  exact L p.toInt.toNat (p - 1) h (by omega) (by omega) (by rw [setF_n (Nat.le_refl _)]; exact H)
/-- a value's elements, a single one's too -/
def cd1 (σ : rS) (r : Nat) (w : WD) : Prop := ∀ k : Nat, (k : Int) < (wL w).toInt → el σ r k = cdW w k
theorem r_joined (H : RH m σ b h) (B : byE σ) (hR : R.toInt = r) (hS : S.toInt = s) (hs : s < 10100) (hrs : r < s) (W : WF w) (K : RW σ r w) (V : WF v) (L : RW σ s v) : wq (vc lim (d + 3) m_Ref_joined [aR m, aI k, aI R, aI S] h) (rI (oQ m b r σ (pJoined w v))) := by
  have hr : r < 10100 := by omega
  have EK := RW_len W K
  have EL := RW_len V L
  obtain ⟨K0, K2, KL, K1⟩ := K
  obtain ⟨L0, L2, LL, L1⟩ := L
  have w0' := W.2.1
  have v0' := V.2.1
  refine wq_eq e_Ref_joined (rd0' H hR hr K0 (wq_if _ (fun c => ?_) (fun c => rd0' H hS hs L0 (wq_if _ (fun c1 => ?_) (fun c1 => ?_)))))
  · exact wq_at H.1 (z_fail H B sm_0 (by rw [pJoined, if_pos c]))
  · exact wq_at H.1 (z_fail H B sm_0 (by rw [pJoined, if_neg c, if_pos c1]))
  have es : (wL w + wL v).toInt = (wL w).toInt + (wL v).toInt := ad_i (by omega) (by omega)
  have G136 : ∀ (τ : rS) (h : ah_H), RH m τ b h → byE τ → sm (fQ r) σ τ → cd1 τ r w → cd1 τ s v → (wL w).toInt + (wL v).toInt ≤ 64 → wq (ah_val lim ah_P (d + 2) 86 136 [some (aR m), none, some (aI R), some (aI S), some (aI (wL w)), some (aI (wL v)), some (aI (wL w - 1))] [] h) (rI (oQ m b r σ (pJoined w v))) := fun τ h H B G Ew Ev c2 => by
    refine wq_mono (y_136 H B hR hS hs hrs (p := wL w) (l := wL v) (by omega) (by omega) (by omega)) ?_
    rintro _ ⟨x, h', rfl, rfl, H'⟩
    refine rI_i ?_
    rw [pJoined, if_neg c, if_neg c1, if_pos (Int32.le_iff_toInt_le.mpr (by show (wL w + wL v).toInt ≤ 64; omega))]
    refine ⟨_, H', by_row (by_E (by_F B (fun k _ hk => B.2 _ (by omega))) (fun k hk => B.2 _ (by omega))) (by omega) (by omega), sm_row (sm_E (sm_F G (fun k _ _ => fq5 (by omega))) (fun k _ => fq5 (by omega))), rfl, RW_mk1 rfl sRow_0 sRow_1 sRow_4 (fun k hk => ?_)⟩
    have hk : (k : Int) < (wL w + wL v).toInt := hk
    rw [cd_hold (by omega) (by omega) hk]
    show ia (sRow _ r _) 5 (64 * r + k) = _
    rw [sRow_5]
    simp only [tb_or, tb_shl (x := w0 w) (n := wL v) (k := k) (by omega) (by omega) (by omega), tb_shl (x := w1 w) (n := wL v) (k := k) (by omega) (by omega) (by omega), tb_shl (x := w2 w) (n := wL v) (k := k) (by omega) (by omega) (by omega), tb_shl (x := w3 w) (n := wL v) (k := k) (by omega) (by omega) (by omega)]
    by_cases ck : k < (wL v).toInt.toNat
    · rw [setE_e ck, Ev k (by omega), decide_eq_true ck]
      simp only [Bool.not_true, Bool.false_and, Bool.false_or]
      rfl
    · rw [setE_n (by omega), setF_e (by omega) (by omega), Ew (k - (wL v).toInt.toNat) (by omega), decide_eq_false ck]
      obtain ⟨z0, z1, z2, z3⟩ := V.2.2.2.2.2.1 k (by omega)
      rw [z0, z1, z2, z3]
      simp only [Bool.not_false, Bool.true_and, Bool.or_false]
      rfl
  have G108 : ∀ (τ : rS) (h : ah_H), RH m τ b h → byE τ → sm (fQ r) σ τ → cd1 τ r w → ia τ 0 s = wI v → ja τ 4 s = ja σ 4 s → (∀ i, 64 * s ≤ i → ia τ 5 i = ia σ 5 i) → (wL w).toInt + (wL v).toInt ≤ 64 → wq (ah_val lim ah_P (d + 2) 86 108 [some (aR m), none, some (aI R), some (aI S), some (aI (wL w)), some (aI (wL v)), none] [] h) (rI (oQ m b r σ (pJoined w v))) := fun τ h H B G Ew e0 e4 e5 c2 => by
    refine wq_eq q_86_108 (rd0' H hS hs e0 (wq_if _ (fun ci => ?_) (fun ci => ?_)))
    · refine rd4' H hS hs (e4.trans (LL ci).2) ?_
      rw [Int32.toInt32_toInt64]
      have bb := cdW_bd (w := v) (k := 0)
      refine wq_at H.1 (wq_cV (r_setElement H hS hs (by decide) (by decide) bb.1 (by omega)) fun h1 H1 => G136 _ h1 H1 (by_5 B bb.1 (by omega)) (sm_I G (fq5 (by omega))) ?_ ?_ c2)
      · intro k hk
        exact (iaI_i (by show ¬ 64 * r + k = 64 * s + 0; omega)).trans (Ew k hk)
      · intro k hk
        have e1 := V.2.2.1 (by rw [ci]; decide)
        rw [e1] at hk
        have hk : k = 0 := by
          have : (1 : Int32).toInt = 1 := rfl
          omega
        subst hk
        exact iaI_e
    · refine G136 τ h H B G Ew (fun k hk => ?_) c2
      have hi := wi1 V ci c1
      exact (e5 _ (by omega)).trans ((L1 hi).2.2 k hk)
  have G67 : wq (ah_val lim ah_P (d + 2) 86 67 [some (aR m), some (aI k), some (aI R), some (aI S), some (aI (wL w)), none, none] [aI (wL v)] h) (rI (oQ m b r σ (pJoined w v))) := by
    refine wq_eq q_86_67 (wq_if _ (fun c2 => ?_) (fun c2 => wq_at H.1 (z_fail H B sm_0 (by rw [pJoined, if_neg c, if_neg c1, if_neg c2]))))
    have c2 := le_i c2
    have c2 : (wL w + wL v).toInt ≤ 64 := c2
    refine rd0' H hR hr K0 (wq_if _ (fun ci => ?_) (fun ci => ?_))
    · refine rd4' H hR hr (KL ci).2 ?_
      rw [Int32.toInt32_toInt64]
      have bb := cdW_bd (w := w) (k := 0)
      refine wq_at H.1 (wq_cV (r_setElement H hR hr (by decide) (by decide) bb.1 (by omega)) fun h1 H1 => G108 _ h1 H1 (by_5 B bb.1 (by omega)) (sm_I sm_0 (fq5 (by show 64 * r ≤ 64 * r + 0; omega))) ?_ ?_ rfl ?_ (by omega))
      · intro k hk
        have e1 := W.2.2.1 (by rw [ci]; decide)
        rw [e1] at hk
        have hk : k = 0 := by
          have : (1 : Int32).toInt = 1 := rfl
          omega
        subst hk
        exact iaI_e
      · exact (iaI_j (by decide)).trans L0
      · intro i hi
        exact iaI_i (by show ¬ i = 64 * r + 0; omega)
    · exact G108 σ h H B sm_0 (fun k hk => (K1 (wi1 W ci c)).2.2 k hk) L0 rfl (fun _ _ => rfl) (by omega)
  refine rd0' H hR hr K0 (wq_if _ (fun ci => ?_) (fun ci => ?_))
  · have e1 := W.2.2.1 (by rw [ci]; decide)
    rw [e1] at G67
    refine rd0' H hS hs L0 (wq_if _ (fun cj => ?_) (fun cj => ?_))
    · rw [V.2.2.1 (by rw [cj]; decide)] at G67
      exact G67
    · exact rd1' H hS hs (L1 (wi1 V cj c1)).1 G67
  · refine rd1' H hR hr (K1 (wi1 W ci c)).1 (rd0' H hS hs L0 (wq_if _ (fun cj => ?_) (fun cj => ?_)))
    · rw [V.2.2.1 (by rw [cj]; decide)] at G67
      exact G67
    · exact rd1' H hS hs (L1 (wi1 V cj c1)).1 G67
end Vh
