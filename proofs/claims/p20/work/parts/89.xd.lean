/-! THE CLASS BETWEEN CALLS: behind a run -/
section Xd
variable {x B nS nU nD n a j : Nat} {c : SCR} {τ : TD} {P PS PD : Nat → Nat} {e eS eD : Nat → TS} {U U' : Nat → UD} {u : UD} {h h' : ah_H} {D : KD}
theorem SPp_c (e : ∀ k, (U' k).1 = (U k).1 ∧ (U' k).2.2.1 = (U k).2.2.1 ∧ (U' k).2.2.2.1 = (U k).2.2.2.1) (S : SPp x B nS PS nU U nD PD) : SPp x B nS PS nU U' nD PD := by
  obtain ⟨s0, s1, s2, s3, s4, s5, s6, s7, s8⟩ := S
  refine ⟨s0, s1, s2, fun j hj => ?_, s4, s5, s6, fun j hj => ?_, fun j k hj hk n => ?_⟩
  · rw [(e j).1, (e j).2.1, (e j).2.2]
    exact s3 j hj
  · rw [(e j).2.1, (e j).2.2]
    exact s7 j hj
  · rw [(e j).1, (e j).2.1, (e j).2.2, (e k).1, (e k).2.1, (e k).2.2]
    exact s8 j k hj hk n
theorem ups_c {j : Nat} {V : UD} (e1 : V.1 = (U j).1) (e2 : V.2.2.1 = (U j).2.2.1) (e3 : V.2.2.2.1 = (U j).2.2.2.1) : ∀ k, (upS U j V k).1 = (U k).1 ∧ (upS U j V k).2.2.1 = (U k).2.2.1 ∧ (upS U j V k).2.2.2.1 = (U k).2.2.2.1 := by
  intro k
  by_cases c : k = j
  · subst c
    rw [upS_eq]
    exact ⟨e1, e2, e3⟩
  · rw [upS_ne c]
    exact ⟨rfl, rfl, rfl⟩
/-- a thing that isn't the running process's -/
theorem fr_T {t : TS} (C : TC a t h) (ha : x + 656 ≤ a) (W : UHp u h) (hn : ∀ k, k < u.2.2.1 → a ≠ u.2.2.2.1 k) (G : GM x (kL u PS) u.2.2.1 h h') : h'.1 a = h.1 a ∧ h'.1 (a + 1) = h.1 (a + 1) ∧ h'.1 (a + 2) = h.1 (a + 2) := by
  obtain ⟨w1, -, w4, w5, w6, -⟩ := W
  obtain ⟨c1, c2, c3⟩ := C
  refine ⟨G.1 _ (by omega) (hne c1 w1 rfl) (hne c1 w5 rfl) (hne c1 w6 rfl) (fun k hk => hne c1 (w4.2 k hk).2.1 rfl), G.1 _ (by omega) (hne c2 w1 rfl) (hne c2 w5 rfl) (hne c2 w6 rfl) (fun k hk => ?_), G.1 _ (by omega) (hne c3 w1 rfl) (hne c3 w5 rfl) (hne c3 w6 rfl) (fun k hk => ?_)⟩
  · have := hn k hk
    show a + 1 ≠ u.2.2.2.1 k + 1
    omega
  · have := hne c2 (w4.2 k hk).1 rfl
    show a + 2 ≠ u.2.2.2.1 k + 1
    omega
theorem KI_run {c' : SCR} {r' : RST} (K : KI x D h) (hj : j < D.2.2.2.1.1) (C : CM x (kL (D.2.2.2.1.2 j) D.2.2.1.2.1) (kE (D.2.2.2.1.2 j) D.2.2.1.1 D.2.2.1.2.2) c' r' h') (G : GM x (kL (D.2.2.2.1.2 j) D.2.2.1.2.1) (D.2.2.2.1.2 j).2.2.1 h h') : KI x (c', r'.2.2.2.2, D.2.2.1, (D.2.2.2.1.1, upS D.2.2.2.1.2 j ((D.2.2.2.1.2 j).1, (D.2.2.2.1.2 j).2.1, (D.2.2.2.1.2 j).2.2.1, (D.2.2.2.1.2 j).2.2.2.1, r'.1, r'.2.1, r'.2.2.1, r'.2.2.2.1)), D.2.2.2.2) h' := by
  obtain ⟨k1, k2, k3, k4, k5, k6⟩ := K
  obtain ⟨s0, s1, s2, s3, s4, s5, s6, s7, s8⟩ := id k6
  have W := k4 j hj
  obtain ⟨w1, ⟨-, cn, kt, w3⟩, w4, w5, w6, w7⟩ := id W
  obtain ⟨⟨b1, b2⟩, b3⟩ := s3 j hj
  obtain ⟨c1, c2, ⟨f1, f2, f3, f4, f5, f6⟩, c3, c4, c5, -, c7⟩ := C
  have lo : ∀ q, q < x + 19 → h'.1 q = h.1 q := fun q hq => G.1 q (Or.inl hq) (by show q ≠ (D.2.2.2.1.2 j).1; omega) (by show q ≠ (D.2.2.2.1.2 j).1 + 12; omega) (by show q ≠ (D.2.2.2.1.2 j).1 + 13; omega) (fun k hk => by have := (b3 k hk).1; show q ≠ (D.2.2.2.1.2 j).2.2.2.1 k + 1; omega)
  refine ⟨?_, ⟨c1, c2, c3⟩, ⟨f3, f5⟩, fun k hk => ?_, THs_t k5 (lo _ (by omega)) (lo _ (by omega)) (fun i hi => fr_T (k5.2 i hi) (s2 i hi).1 W ((s7 j hj).2.2 i · hi) G), ?_⟩
  · have := CLp_t (h' := h') k1 (fun q _ q2 => lo q q2)
    obtain ⟨d1, ⟨vu, d2, d3, d4⟩, d5⟩ := this
    refine ⟨d1, ⟨vu, d2, d3, fun k hk => ?_⟩, d5⟩
    have d4 := d4 k hk
    have q := (ups_c (U := D.2.2.2.1.2) (j := j) (V := ((D.2.2.2.1.2 j).1, (D.2.2.2.1.2 j).2.1, (D.2.2.2.1.2 j).2.2.1, (D.2.2.2.1.2 j).2.2.2.1, r'.1, r'.2.1, r'.2.2.1, r'.2.2.2.1)) rfl rfl rfl k).1
    rw [show (D.2.2.2.1.2 k).1 = (upS D.2.2.2.1.2 j ((D.2.2.2.1.2 j).1, (D.2.2.2.1.2 j).2.1, (D.2.2.2.1.2 j).2.2.1, (D.2.2.2.1.2 j).2.2.2.1, r'.1, r'.2.1, r'.2.2.1, r'.2.2.2.1) k).1 from q.symm] at d4
    exact d4
  · by_cases ek : k = j
    · subst ek
      show UHp (upS _ k _ k) h'
      rw [upS_eq]
      refine ⟨f1, ⟨f2, cn, kt, (G.1 _ (by show _ ∨ x + 656 ≤ (D.2.2.2.1.2 k).1 + 1; omega) (hne w3 w1 rfl) (hne w3 w5 rfl) (hne w3 w6 rfl) (fun i hi => hne w3 (w4.2 i hi).2.1 rfl)).trans w3⟩, ⟨f4, f6⟩, c4, c5, c7⟩
    · show UHp (upS _ j _ k) h'
      rw [upS_ne ek]
      have Wk := k4 k hk
      obtain ⟨p8, p9⟩ := s8 k j hk hj ek
      refine UHp_t Wk (fun q q1 q2 => ?_) (fun i hi => fr_T (Wk.2.2.1.2 i hi) ((s3 k hk).2 i hi).1 W (p8 i · hi) G)
      obtain ⟨v1, ⟨v2, vn, vt, v3⟩, v4, v5, v6, -⟩ := Wk
      obtain ⟨A, Ls, cc, kt', a1, a2, a3, a4⟩ := v2
      obtain ⟨rw4, ls4, cc4, t1, ⟨t2, rfl⟩, t3, -⟩ := v4.1
      have all : ∃ kd vs, h.1 q = some (kd, vs) ∧ Nat.beq kd 1 = false ∧ (q = (D.2.2.2.1.2 k).1 ∨ Nat.beq kd 10 = false) ∧ (q = (D.2.2.2.1.2 k).1 + 12 ∨ q = (D.2.2.2.1.2 k).1 + 13 ∨ Nat.beq kd 101 = false) := by
        by_cases q0 : q = (D.2.2.2.1.2 k).1
        · exact ⟨10, _, q0 ▸ v1, rfl, Or.inl q0, Or.inr (Or.inr rfl)⟩
        by_cases q1' : q = (D.2.2.2.1.2 k).1 + 1
        · exact ⟨5, _, q1' ▸ v3, rfl, Or.inr rfl, Or.inr (Or.inr rfl)⟩
        by_cases q10 : q = (D.2.2.2.1.2 k).1 + 10
        · exact ⟨8, _, q10 ▸ t1, rfl, Or.inr rfl, Or.inr (Or.inr rfl)⟩
        by_cases q11 : q = (D.2.2.2.1.2 k).1 + 10 + 1
        · exact ⟨117, _, q11 ▸ t3, rfl, Or.inr rfl, Or.inr (Or.inr rfl)⟩
        by_cases q12 : q = (D.2.2.2.1.2 k).1 + 12
        · exact ⟨101, _, q12 ▸ v5, rfl, Or.inr rfl, Or.inl q12⟩
        by_cases q13 : q = (D.2.2.2.1.2 k).1 + 13
        · exact ⟨101, _, q13 ▸ v6, rfl, Or.inr rfl, Or.inr (Or.inl q13)⟩
        have eA := UH_A a1 v3
        have := (a3 (q - ((D.2.2.2.1.2 k).1 + 2)) (by omega)).1
        rw [eA _ (by omega), show (D.2.2.2.1.2 k).1 + 2 + (q - ((D.2.2.2.1.2 k).1 + 2)) = q by omega] at this
        exact ⟨100, _, this, rfl, Or.inr rfl, Or.inr (Or.inr rfl)⟩
      obtain ⟨kd, vs, e1, g1, g2, g3⟩ := all
      have bk := (s3 k hk).1
      -- the two units' numbers
      have n1 : (D.2.2.2.1.2 k).1 ≠ (D.2.2.2.1.2 j).1 + 1 := hne v1 w3 rfl
      have n2 : (D.2.2.2.1.2 j).1 ≠ (D.2.2.2.1.2 k).1 + 1 := hne w1 v3 rfl
      refine G.1 q (by omega) ?_ ?_ ?_ (fun i hi => hne e1 (w4.2 i hi).2.1 g1)
      · rcases g2 with g2 | g2
        · rw [g2]; exact p9
        · exact hne e1 w1 g2
      · rcases g3 with g3 | g3 | g3
        · show q ≠ (D.2.2.2.1.2 j).1 + 12
          omega
        · show q ≠ (D.2.2.2.1.2 j).1 + 12
          omega
        · exact hne e1 w5 g3
      · rcases g3 with g3 | g3 | g3
        · show q ≠ (D.2.2.2.1.2 j).1 + 13
          omega
        · show q ≠ (D.2.2.2.1.2 j).1 + 13
          omega
        · exact hne e1 w6 g3
  · rw [G.2.1]
    exact SPp_c (ups_c rfl rfl rfl) k6
end Xd
