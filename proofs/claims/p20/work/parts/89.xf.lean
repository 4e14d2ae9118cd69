/-! THE CLASS BETWEEN CALLS: things that change or come -/
def T3 (b : Nat) (h h' : ah_H) : Prop := ∀ q, q ≠ b → q ≠ b + 1 → q ≠ b + 2 → h'.1 q = h.1 q
section Xf
variable {x nS nU nD n a b i j : Nat} {c : SCR} {τ : TD} {P PS PD : Nat → Nat} {e eS eD : Nat → TS} {U : Nat → UD} {u : UD} {h h' : ah_H} {t s : TS}
theorem ne3 (A : TC a t h) (B : TC b s h) (hn : a ≠ b) (f : T3 b h h') : h'.1 a = h.1 a ∧ h'.1 (a + 1) = h.1 (a + 1) ∧ h'.1 (a + 2) = h.1 (a + 2) := by
  have n1 := hne A.1 B.2.1 rfl
  have n2 := hne A.1 B.2.2 rfl
  have n3 := hne A.2.1 B.1 rfl
  have n4 := hne A.2.2 B.1 rfl
  exact ⟨f _ hn n1 n2, f _ n3 (by omega) (by omega), f _ n4 (by omega) (by omega)⟩
theorem UH_k (W : UHp u h) {q : Nat} (q1 : u.1 ≤ q) (q2 : q < u.1 + 14) : ∃ kd vs, h.1 q = some (kd, vs) ∧ Nat.beq kd 1 = false ∧ Nat.beq kd 7 = false := by
  obtain ⟨v1, ⟨v2, vn, vt, v3⟩, v4, v5, v6, -⟩ := W
  obtain ⟨A, Ls, cc, kt', a1, a2, a3, a4⟩ := v2
  obtain ⟨rw4, ls4, cc4, t1, ⟨t2, rfl⟩, t3, -⟩ := v4.1
  by_cases q0 : q = u.1
  · exact ⟨10, _, q0 ▸ v1, rfl, rfl⟩
  by_cases q1' : q = u.1 + 1
  · exact ⟨5, _, q1' ▸ v3, rfl, rfl⟩
  by_cases q10 : q = u.1 + 10
  · exact ⟨8, _, q10 ▸ t1, rfl, rfl⟩
  by_cases q11 : q = u.1 + 10 + 1
  · exact ⟨117, _, q11 ▸ t3, rfl, rfl⟩
  by_cases q12 : q = u.1 + 12
  · exact ⟨101, _, q12 ▸ v5, rfl, rfl⟩
  by_cases q13 : q = u.1 + 13
  · exact ⟨101, _, q13 ▸ v6, rfl, rfl⟩
  have eA := UH_A a1 v3
  have := (a3 (q - (u.1 + 2)) (by omega)).1
  rw [eA _ (by omega), show u.1 + 2 + (q - (u.1 + 2)) = q by omega] at this
  exact ⟨100, _, this, rfl, rfl⟩
theorem UH_3 (W : UHp u h) (B : TC b s h) (f : T3 b h h') {q : Nat} (q1 : u.1 ≤ q) (q2 : q < u.1 + 14) : h'.1 q = h.1 q := by
  obtain ⟨kd, vs, e1, g1, g2⟩ := UH_k W q1 q2
  exact f q (hne e1 B.1 g2) (hne e1 B.2.1 g1) (hne e1 B.2.2 g1)
theorem UHp_t2 {e' : Nat → TS} (C : UHp u h) (k : ∀ q, u.1 ≤ q → q < u.1 + 14 → h'.1 q = h.1 q) (k2 : ∀ i, i < u.2.2.1 → TC (u.2.2.2.1 i) (e' i) h') : UHp (u.1, u.2.1, u.2.2.1, u.2.2.2.1, e', u.2.2.2.2.2) h' := by
  obtain ⟨c1, ⟨c2, cn, kt, c3⟩, c4, c5, c6, c7⟩ := C
  refine ⟨(k _ (by omega) (by omega)).trans c1, ⟨?_, cn, kt, (k _ (by omega) (by omega)).trans c3⟩, ⟨TH_t c4.1 (k _ (by omega) (by omega)) (k _ (by omega) (by omega)), k2⟩, (k _ (by omega) (by omega)).trans c5, (k _ (by omega) (by omega)).trans c6, c7⟩
  obtain ⟨A, Ls, cc, kt', a1, a2, a3, a4⟩ := c2
  have eA := UH_A a1 c3
  exact ⟨A, Ls, cc, kt', (k _ (by omega) (by omega)).trans a1, a2, fun j hj => ⟨(k _ (by rw [eA j hj]; omega) (by rw [eA j hj]; omega)).trans (a3 j hj).1, (a3 j hj).2⟩, a4⟩
/-- a signal's thing changes -/
theorem KI_sg (K : KI x (c, τ, (nS, PS, eS), (nU, U), nD, PD, eD) h) (hi : i < nS) (T : TC (PS i) t h') (f : T3 (PS i) h h') (sz : h'.2.1 = h.2.1) : KI x (c, τ, (nS, PS, upS eS i t), (nU, U), nD, PD, eD) h' := by
  obtain ⟨k1, k2, k3, k4, k5, k6⟩ := K
  have k3 : THs (x + 1) nS PS eS h := k3
  have k4 : ∀ j, j < nU → UHp (U j) h := k4
  have k5 : THs (x + 13) nD PD eD h := k5
  have k6 : SPp x h.2.1 nS PS nU U nD PD := k6
  obtain ⟨s0, s1, s2, s3, s4, s5, s6, s7, s8⟩ := id k6
  have b1 : x + 656 ≤ PS i := (s1 i hi).1
  have lo : ∀ q, q < x + 656 → h'.1 q = h.1 q := fun q hq => f q (by omega) (by omega) (by omega)
  have B := k3.2 i hi
  refine ⟨CLp_t k1 (fun q _ _ => lo q (by omega)), CB_t k2 (fun q _ _ => lo q (by omega)), ⟨TH_t k3.1 (lo _ (by omega)) (lo _ (by omega)), fun k hk => ?_⟩, fun k hk => ?_, THs_t k5 (lo _ (by omega)) (lo _ (by omega)) (fun k hk => ne3 (k5.2 k hk) B (Ne.symm (s6 i k hi hk)) f), by show SPp x h'.2.1 _ _ _ _ _ _; rw [sz]; exact k6⟩
  · show TC (PS k) (upS eS i t k) h'
    by_cases e : k = i
    · subst e
      rw [upS_eq]
      exact T
    · rw [upS_ne e]
      obtain ⟨q1, q2, q3⟩ := ne3 (k3.2 k hk) B (fun q => e (s4 k i hk hi q)) f
      exact TC_t (k3.2 k hk) q1 q2 q3
  · exact UHp_t (k4 k hk) (fun q q1 q2 => UH_3 (k4 k hk) B f q1 q2) (fun p hp => ne3 ((k4 k hk).2.2.1.2 p hp) B (Ne.symm ((s7 k hk).2.1 i p hi hp)) f)
/-- a variable's thing changes -/
theorem KI_vr (K : KI x (c, τ, (nS, PS, eS), (nU, U), nD, PD, eD) h) (hj : j < nU) (hi : i < (U j).2.2.1) (T : TC ((U j).2.2.2.1 i) t h') (f : T3 ((U j).2.2.2.1 i) h h') (sz : h'.2.1 = h.2.1) : KI x (c, τ, (nS, PS, eS), (nU, upS U j ((U j).1, (U j).2.1, (U j).2.2.1, (U j).2.2.2.1, upS (U j).2.2.2.2.1 i t, (U j).2.2.2.2.2)), nD, PD, eD) h' := by
  obtain ⟨k1, k2, k3, k4, k5, k6⟩ := K
  have k3 : THs (x + 1) nS PS eS h := k3
  have k4 : ∀ j, j < nU → UHp (U j) h := k4
  have k5 : THs (x + 13) nD PD eD h := k5
  have k6 : SPp x h.2.1 nS PS nU U nD PD := k6
  obtain ⟨s0, s1, s2, s3, s4, s5, s6, s7, s8⟩ := id k6
  have b1 : x + 656 ≤ (U j).2.2.2.1 i := ((s3 j hj).2 i hi).1
  have lo : ∀ q, q < x + 656 → h'.1 q = h.1 q := fun q hq => f q (by omega) (by omega) (by omega)
  have W := k4 j hj
  have B := W.2.2.1.2 i hi
  refine ⟨?_, CB_t k2 (fun q _ _ => lo q (by omega)), THs_t k3 (lo _ (by omega)) (lo _ (by omega)) (fun k hk => ne3 (k3.2 k hk) B ((s7 j hj).2.1 k i hk hi) f), fun k hk => ?_, THs_t k5 (lo _ (by omega)) (lo _ (by omega)) (fun k hk => ne3 (k5.2 k hk) B ((s7 j hj).2.2 k i hk hi) f), ?_⟩
  · obtain ⟨d1, ⟨vu, d2, d3, d4⟩, d5⟩ := CLp_t (h' := h') k1 (fun q _ _ => lo q (by omega))
    refine ⟨d1, ⟨vu, d2, d3, fun k hk => ?_⟩, d5⟩
    have q := (ups_c (U := U) (j := j) (V := ((U j).1, (U j).2.1, (U j).2.2.1, (U j).2.2.2.1, upS (U j).2.2.2.2.1 i t, (U j).2.2.2.2.2)) rfl rfl rfl k).1
    have d4 := d4 k hk
    rw [show ((c, τ, (nS, PS, eS), (nU, U), nD, PD, eD) : KD).2.2.2.1.2 k = U k from rfl, ← q] at d4
    exact d4
  · show UHp (upS U j _ k) h'
    by_cases e : k = j
    · subst e
      rw [upS_eq]
      refine UHp_t2 W (fun q q1 q2 => UH_3 W B f q1 q2) (fun p hp => ?_)
      by_cases e : p = i
      · subst e
        rw [upS_eq]
        exact T
      · rw [upS_ne e]
        obtain ⟨q1, q2, q3⟩ := ne3 (W.2.2.1.2 p hp) B (fun q => e ((s7 k hj).1 p i hp hi q)) f
        exact TC_t (W.2.2.1.2 p hp) q1 q2 q3
    · rw [upS_ne e]
      exact UHp_t (k4 k hk) (fun q q1 q2 => UH_3 (k4 k hk) B f q1 q2) (fun p hp => ne3 ((k4 k hk).2.2.1.2 p hp) B ((s8 k j hk hj e).1 p i hp hi) f)
  · show SPp x h'.2.1 _ _ _ _ _ _
    rw [sz]
    exact SPp_c (ups_c rfl rfl rfl) k6
theorem ij_new {B : Nat} (hi : ijT n P) (hb : ∀ i, i < n → P i < B) : ijT (n + 1) (upS P n B) := by
  intro i j h1 h2 e
  by_cases c1 : i = n
  · by_cases c2 : j = n
    · omega
    · rw [c1, upS_eq, upS_ne c2] at e
      have := hb j (by omega)
      omega
  · by_cases c2 : j = n
    · rw [c2, upS_eq, upS_ne c1] at e
      have := hb i (by omega)
      omega
    · rw [upS_ne c1, upS_ne c2] at e
      exact hi i j (by omega) (by omega) e
theorem ap_new {B m : Nat} {Q : Nat → Nat} (hi : apT n P m Q) (hb : ∀ i, i < m → Q i < B) : apT (n + 1) (upS P n B) m Q := by
  intro i j h1 h2
  by_cases c1 : i = n
  · rw [c1, upS_eq]
    have := hb j h2
    omega
  · rw [upS_ne c1]
    exact hi i j (by omega) h2
theorem ap_sym {m : Nat} {Q : Nat → Nat} (hi : apT n P m Q) : apT m Q n P := fun i j h1 h2 => Ne.symm (hi j i h2 h1)
theorem bd_new {B : Nat} (hb : bdT x B n P) (h0 : x + 656 ≤ B) : bdT x (B + 3) (n + 1) (upS P n B) := by
  intro i hi
  by_cases c1 : i = n
  · rw [c1, upS_eq]
    omega
  · rw [upS_ne c1]
    have := hb i (by omega)
    omega
/-- a new signal -/
theorem KI_ns (K : KI x (c, τ, (nS, PS, eS), (nU, U), nD, PD, eD) h) (hT : TH (x + 1) (nS + 1) (upS PS nS h.2.1) h') (hl : ∃ ls, h'.1 (x + 2) = some (117, ls) ∧ ls.length = 512) (T : TC h.2.1 t h') (f : ∀ q, q < h.2.1 → q ≠ x + 1 → q ≠ x + 2 → h'.1 q = h.1 q) (sz : h'.2.1 = h.2.1 + 3) : KI x (c, τ, (nS + 1, upS PS nS h.2.1, upS eS nS t), (nU, U), nD, PD, eD) h' := by
  obtain ⟨k1, k2, k3, k4, k5, k6⟩ := K
  have k3 : THs (x + 1) nS PS eS h := k3
  have k4 : ∀ j, j < nU → UHp (U j) h := k4
  have k5 : THs (x + 13) nD PD eD h := k5
  have k6 : SPp x h.2.1 nS PS nU U nD PD := k6
  obtain ⟨s0, s1, s2, s3, s4, s5, s6, s7, s8⟩ := id k6
  have th : ∀ (n : Nat) (P : Nat → Nat), bdT x h.2.1 n P → ∀ i, i < n → h'.1 (P i) = h.1 (P i) ∧ h'.1 (P i + 1) = h.1 (P i + 1) ∧ h'.1 (P i + 2) = h.1 (P i + 2) := fun n P b i hi => ⟨f _ (by have := (b i hi).2; omega) (by have := (b i hi).1; omega) (by have := (b i hi).1; omega), f _ (by have := (b i hi).2; omega) (by have := (b i hi).1; omega) (by have := (b i hi).1; omega), f _ (by have := (b i hi).2; omega) (by have := (b i hi).1; omega) (by have := (b i hi).1; omega)⟩
  have un : ∀ k, k < nU → UHp (U k) h' := fun k hk => UHp_t (k4 k hk) (fun q q1 q2 => f q (by have := (s3 k hk).1.2; omega) (by have := (s3 k hk).1.1; omega) (by have := (s3 k hk).1.1; omega)) (th _ _ (s3 k hk).2)
  have lt : ∀ (n : Nat) (P : Nat → Nat), bdT x h.2.1 n P → ∀ i, i < n → P i < h.2.1 := fun n P b i hi => by have := (b i hi).2; omega
  refine ⟨?_, CB_t k2 (fun q _ _ => f q (by omega) (by omega) (by omega)), ⟨hT, fun k hk => ?_⟩, un, THs_t k5 (f _ (by omega) (by omega) (by omega)) (f _ (by omega) (by omega) (by omega)) (th _ _ s2), ?_⟩
  · obtain ⟨⟨uc, nk, c1, c2⟩, ⟨vu, c3, c4⟩, ⟨rc, c5⟩, ⟨cn, kt, c6⟩, c7, -, l2, c10, c11⟩ := k1
    exact ⟨⟨uc, nk, (f _ (by omega) (by omega) (by omega)).trans c1, c2⟩, ⟨vu, (f _ (by omega) (by omega) (by omega)).trans c3, c4⟩, ⟨rc, (f _ (by omega) (by omega) (by omega)).trans c5⟩, ⟨cn, kt, (f _ (by omega) (by omega) (by omega)).trans c6⟩, (f _ (by omega) (by omega) (by omega)).trans c7, hl, l2, (f _ (by omega) (by omega) (by omega)).trans c10, c11⟩
  · show TC (upS PS nS h.2.1 k) (upS eS nS t k) h'
    by_cases e : k = nS
    · subst e
      rw [upS_eq, upS_eq]
      exact T
    · rw [upS_ne e, upS_ne e]
      have hk' : k < nS + 1 := hk
      obtain ⟨q1, q2, q3⟩ := th _ _ s1 k (by show k < nS; omega)
      exact TC_t (k3.2 k (by show k < nS; omega)) q1 q2 q3
  · show SPp x h'.2.1 (nS + 1) (upS PS nS h.2.1) nU U nD PD
    rw [sz]
    refine ⟨by omega, bd_new s1 s0, bdT_le s2 (by omega), fun j hj => ⟨⟨(s3 j hj).1.1, by have := (s3 j hj).1.2; omega⟩, bdT_le (s3 j hj).2 (by omega)⟩, ij_new s4 (lt _ _ s1), s5, ap_new s6 (lt _ _ s2), fun j hj => ⟨(s7 j hj).1, ap_new (s7 j hj).2.1 (lt _ _ (s3 j hj).2), (s7 j hj).2.2⟩, s8⟩
/-- a new draft variable -/
theorem KI_nd (K : KI x (c, τ, (nS, PS, eS), (nU, U), nD, PD, eD) h) (hT : TH (x + 13) (nD + 1) (upS PD nD h.2.1) h') (hl : ∃ ls, h'.1 (x + 14) = some (117, ls) ∧ ls.length = 128) (T : TC h.2.1 t h') (f : ∀ q, q < h.2.1 → q ≠ x + 13 → q ≠ x + 14 → h'.1 q = h.1 q) (sz : h'.2.1 = h.2.1 + 3) : KI x (c, τ, (nS, PS, eS), (nU, U), nD + 1, upS PD nD h.2.1, upS eD nD t) h' := by
  obtain ⟨k1, k2, k3, k4, k5, k6⟩ := K
  have k3 : THs (x + 1) nS PS eS h := k3
  have k4 : ∀ j, j < nU → UHp (U j) h := k4
  have k5 : THs (x + 13) nD PD eD h := k5
  have k6 : SPp x h.2.1 nS PS nU U nD PD := k6
  obtain ⟨s0, s1, s2, s3, s4, s5, s6, s7, s8⟩ := id k6
  have th : ∀ (n : Nat) (P : Nat → Nat), bdT x h.2.1 n P → ∀ i, i < n → h'.1 (P i) = h.1 (P i) ∧ h'.1 (P i + 1) = h.1 (P i + 1) ∧ h'.1 (P i + 2) = h.1 (P i + 2) := fun n P b i hi => ⟨f _ (by have := (b i hi).2; omega) (by have := (b i hi).1; omega) (by have := (b i hi).1; omega), f _ (by have := (b i hi).2; omega) (by have := (b i hi).1; omega) (by have := (b i hi).1; omega), f _ (by have := (b i hi).2; omega) (by have := (b i hi).1; omega) (by have := (b i hi).1; omega)⟩
  have un : ∀ k, k < nU → UHp (U k) h' := fun k hk => UHp_t (k4 k hk) (fun q q1 q2 => f q (by have := (s3 k hk).1.2; omega) (by have := (s3 k hk).1.1; omega) (by have := (s3 k hk).1.1; omega)) (th _ _ (s3 k hk).2)
  have lt : ∀ (n : Nat) (P : Nat → Nat), bdT x h.2.1 n P → ∀ i, i < n → P i < h.2.1 := fun n P b i hi => by have := (b i hi).2; omega
  refine ⟨?_, CB_t k2 (fun q _ _ => f q (by omega) (by omega) (by omega)), THs_t k3 (f _ (by omega) (by omega) (by omega)) (f _ (by omega) (by omega) (by omega)) (th _ _ s1), un, ⟨hT, fun k hk => ?_⟩, ?_⟩
  · obtain ⟨⟨uc, nk, c1, c2⟩, ⟨vu, c3, c4⟩, ⟨rc, c5⟩, ⟨cn, kt, c6⟩, c7, ⟨l1, c8, c9⟩, -⟩ := k1
    exact ⟨⟨uc, nk, (f _ (by omega) (by omega) (by omega)).trans c1, c2⟩, ⟨vu, (f _ (by omega) (by omega) (by omega)).trans c3, c4⟩, ⟨rc, (f _ (by omega) (by omega) (by omega)).trans c5⟩, ⟨cn, kt, (f _ (by omega) (by omega) (by omega)).trans c6⟩, (f _ (by omega) (by omega) (by omega)).trans c7, ⟨l1, (f _ (by omega) (by omega) (by omega)).trans c8, c9⟩, hl⟩
  · show TC (upS PD nD h.2.1 k) (upS eD nD t k) h'
    by_cases e : k = nD
    · subst e
      rw [upS_eq, upS_eq]
      exact T
    · rw [upS_ne e, upS_ne e]
      have hk' : k < nD + 1 := hk
      obtain ⟨q1, q2, q3⟩ := th _ _ s2 k (by show k < nD; omega)
      exact TC_t (k5.2 k (by show k < nD; omega)) q1 q2 q3
  · show SPp x h'.2.1 nS PS nU U (nD + 1) (upS PD nD h.2.1)
    rw [sz]
    refine ⟨by omega, bdT_le s1 (by omega), bd_new s2 s0, fun j hj => ⟨⟨(s3 j hj).1.1, by have := (s3 j hj).1.2; omega⟩, bdT_le (s3 j hj).2 (by omega)⟩, s4, ij_new s5 (lt _ _ s2), ap_sym (ap_new (ap_sym s6) (lt _ _ s1)), fun j hj => ⟨(s7 j hj).1, (s7 j hj).2.1, ap_new (s7 j hj).2.2 (lt _ _ (s3 j hj).2)⟩, s8⟩
end Xf
