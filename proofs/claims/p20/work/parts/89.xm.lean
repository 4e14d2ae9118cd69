/-! THE CLASS'S process -/
section Xm
variable {x nS nU nD : Nat} {c : SCR} {τ : TD} {PS PD : Nat → Nat} {eS eD : Nat → TS} {U : Nat → UD} {h h' : ah_H} {σ : rS} {uc nk cn kt : Int32} {l2 l4 : List AV}
theorem rep_cn {n : Nat} : List.replicate n (aJ 0) = cnA n (fun _ => 0) := by
  apply List.ext_getElem?
  intro i
  by_cases hi : i < n
  · rw [cn_get hi, List.getElem?_replicate_of_lt hi]
  · rw [List.getElem?_eq_none (by rw [List.length_replicate]; omega), List.getElem?_eq_none (by rw [cn_len]; omega)]
theorem bd_0 {B : Nat} {P : Nat → Nat} : bdT x B 0 P := fun i hi => absurd hi (Nat.not_lt_zero _)
theorem TH_0 {a : Nat} {P Q : Nat → Nat} {n : Nat} (T : TH a n P h) (e : h'.1 a = some (8, [aR (a + 1), aI 0])) (k : h'.1 (a + 1) = h.1 (a + 1)) : TH a 0 Q h' := by
  obtain ⟨rw, ls, cc, a1, ⟨a2, rfl⟩, a3, a4, a5, a6⟩ := T
  exact ⟨_, ls, 0, e, ⟨rfl, rfl⟩, k.trans a3, Nat.zero_le _, a5, fun i hi => absurd hi (Nat.not_lt_zero _)⟩
/-- nothing is kept -/
theorem KI_pf (K : KI x (c, τ, (nS, PS, eS), (nU, U), nD, PD, eD) h) (f : ∀ q, q < h.2.1 → q ≠ x → q ≠ x + 3 → q ≠ x + 4 → q ≠ x + 13 → q ≠ x + 18 → h'.1 q = h.1 q) (ex : ∃ uc nk : Int32, h'.1 x = some (0, [aR (x + 1), aR (x + 3), aR (x + 17), aR (x + 18), aI uc, aI nk, aR (x + 19), aR (x + 530)]) ∧ uc.toInt = nU) (em : h'.1 (x + 3) = some (4, [aR (x + 4), aR (x + 13), aR (x + 15), aR (x + 16), aI 0])) (en : h'.1 (x + 4) = some (5, [aR (x + 5), aR (x + 6), aR (x + 7), aR (x + 8), aR (x + 9), aR (x + 10), aR (x + 11), aR (x + 12), aI 0, aI 0])) (ev : h'.1 (x + 13) = some (8, [aR (x + 14), aI 0])) (eu : h'.1 (x + 18) = h.1 (x + 18)) (sz : h.2.1 ≤ h'.2.1) : KI x (c, τ, (nS, PS, eS), (nU, U), 0, PD, eD) h' := by
  obtain ⟨k1, k2, k3, k4, k5, k6⟩ := K
  have k3 : THs (x + 1) nS PS eS h := k3
  have k4 : ∀ j, j < nU → UHp (U j) h := k4
  have k5 : THs (x + 13) nD PD eD h := k5
  have k6 : SPp x h.2.1 nS PS nU U nD PD := k6
  obtain ⟨s0, s1, s2, s3, s4, s5, s6, s7, s8⟩ := id k6
  have hi : ∀ q, x + 19 ≤ q → q < h.2.1 → h'.1 q = h.1 q := fun q q1 q2 => f q q2 (by omega) (by omega) (by omega) (by omega) (by omega)
  have th : ∀ (n : Nat) (P : Nat → Nat), bdT x h.2.1 n P → ∀ i, i < n → h'.1 (P i) = h.1 (P i) ∧ h'.1 (P i + 1) = h.1 (P i + 1) ∧ h'.1 (P i + 2) = h.1 (P i + 2) := fun n P b i hi' => ⟨hi _ (by have := (b i hi').1; omega) (by have := (b i hi').2; omega), hi _ (by have := (b i hi').1; omega) (by have := (b i hi').2; omega), hi _ (by have := (b i hi').1; omega) (by have := (b i hi').2; omega)⟩
  have un : ∀ k, k < nU → UHp (U k) h' := fun k hk => UHp_t (k4 k hk) (fun q q1 q2 => hi q (by have := (s3 k hk).1.1; omega) (by have := (s3 k hk).1.2; omega)) (th _ _ (s3 k hk).2)
  obtain ⟨⟨uc0, nk0, c1, c2, c2'⟩, ⟨vu, c3, c4⟩, -, -, c7, ⟨l1, c8, c9⟩, ll2, c10, c11⟩ := k1
  obtain ⟨uc, nk, e1, e2⟩ := ex
  refine ⟨⟨⟨uc, nk, e1, e2, c2'⟩, ⟨vu, eu.trans c3, c4⟩, ⟨0, em⟩, ⟨0, 0, en⟩, (f _ (by omega) (by omega) (by omega) (by omega) (by omega) (by omega)).trans c7, ⟨l1, (f _ (by omega) (by omega) (by omega) (by omega) (by omega) (by omega)).trans c8, c9⟩, ll2, (f _ (by omega) (by omega) (by omega) (by omega) (by omega) (by omega)).trans c10, c11⟩, CB_t k2 (fun q q1 q2 => hi q (by omega) (by omega)), THs_t k3 (f _ (by omega) (by omega) (by omega) (by omega) (by omega) (by omega)) (f _ (by omega) (by omega) (by omega) (by omega) (by omega) (by omega)) (th _ _ s1), un, ⟨TH_0 k5.1 ev (f _ (by omega) (by omega) (by omega) (by omega) (by omega) (by omega)), fun i hi => absurd hi (Nat.not_lt_zero _)⟩, ?_⟩
  show SPp x h'.2.1 nS PS nU U 0 PD
  exact ⟨by omega, bdT_le s1 sz, bd_0, fun j hj => ⟨⟨(s3 j hj).1.1, by have := (s3 j hj).1.2; omega⟩, bdT_le (s3 j hj).2 sz⟩, s4, fun i j hi => absurd hi (Nat.not_lt_zero _), fun i j _ hj => absurd hj (Nat.not_lt_zero _), fun j hj => ⟨(s7 j hj).1, (s7 j hj).2.1, fun i j hi => absurd hi (Nat.not_lt_zero _)⟩, s8⟩
abbrev usN : US := (0, 0, -1, 0, 0, -1, -1, -1)
/-- a process is kept -/
theorem KI_ps {V : UD} {vu : List AV} (K : KI x (c, τ, (nS, PS, eS), (nU, U), nD, PD, eD) h) (hV : V.1 = h.2.1 ∧ V.2.2.1 = nD ∧ V.2.2.2.1 = PD) (WV : UHp V h') (hn : nU < 64) (f : ∀ q, q < h.2.1 → q ≠ x → q ≠ x + 3 → q ≠ x + 4 → q ≠ x + 13 → q ≠ x + 18 → h'.1 q = h.1 q) (ex : ∃ uc nk : Int32, h'.1 x = some (0, [aR (x + 1), aR (x + 3), aR (x + 17), aR (x + 18), aI uc, aI nk, aR (x + 19), aR (x + 530)]) ∧ uc.toInt = nU + 1) (em : h'.1 (x + 3) = some (4, [aR (x + 4), aR (x + 13), aR (x + 15), aR (x + 16), aI 0])) (en : h'.1 (x + 4) = some (5, [aR (x + 5), aR (x + 6), aR (x + 7), aR (x + 8), aR (x + 9), aR (x + 10), aR (x + 11), aR (x + 12), aI 0, aI 0])) (ev : h'.1 (x + 13) = some (8, [aR (x + 14), aI 0])) (ev0 : h.1 (x + 18) = some (120, vu)) (eu : h'.1 (x + 18) = some (120, vu.set nU (aR h.2.1))) (sz : h.2.1 + 14 ≤ h'.2.1) : KI x (c, τ, (nS, PS, eS), (nU + 1, upS U nU V), 0, PD, eD) h' := by
  obtain ⟨k1, k2, k3, k4, k5, k6⟩ := K
  have k3 : THs (x + 1) nS PS eS h := k3
  have k4 : ∀ j, j < nU → UHp (U j) h := k4
  have k5 : THs (x + 13) nD PD eD h := k5
  have k6 : SPp x h.2.1 nS PS nU U nD PD := k6
  obtain ⟨s0, s1, s2, s3, s4, s5, s6, s7, s8⟩ := id k6
  obtain ⟨v1, v2, v3⟩ := hV
  have hi : ∀ q, x + 19 ≤ q → q < h.2.1 → h'.1 q = h.1 q := fun q q1 q2 => f q q2 (by omega) (by omega) (by omega) (by omega) (by omega)
  have th : ∀ (n : Nat) (P : Nat → Nat), bdT x h.2.1 n P → ∀ i, i < n → h'.1 (P i) = h.1 (P i) ∧ h'.1 (P i + 1) = h.1 (P i + 1) ∧ h'.1 (P i + 2) = h.1 (P i + 2) := fun n P b i hi' => ⟨hi _ (by have := (b i hi').1; omega) (by have := (b i hi').2; omega), hi _ (by have := (b i hi').1; omega) (by have := (b i hi').2; omega), hi _ (by have := (b i hi').1; omega) (by have := (b i hi').2; omega)⟩
  have un : ∀ k, k < nU + 1 → UHp (upS U nU V k) h' := fun k hk => by
    by_cases e : k = nU
    · rw [e, upS_eq]
      exact WV
    · rw [upS_ne e]
      exact UHp_t (k4 k (by omega)) (fun q q1 q2 => hi q (by have := (s3 k (by omega)).1.1; omega) (by have := (s3 k (by omega)).1.2; omega)) (th _ _ (s3 k (by omega)).2)
  obtain ⟨⟨uc0, nk0, c1, c2, c2'⟩, ⟨vu', c3, c4, c5⟩, -, -, c7, ⟨l1, c8, c9⟩, ll2, c10, c11⟩ := k1
  rw [ev0] at c3
  cases c3
  have c5 : ∀ j, j < nU → vu[j]? = some (aR (U j).1) := c5
  obtain ⟨uc, nk, e1, e2⟩ := ex
  refine ⟨⟨⟨uc, nk, e1, by show uc.toInt = ((nU + 1 : Nat) : Int); omega, by show nU + 1 ≤ 64; omega⟩, ⟨_, eu, by rw [List.length_set]; exact c4, fun j hj => ?_⟩, ⟨0, em⟩, ⟨0, 0, en⟩, (f _ (by omega) (by omega) (by omega) (by omega) (by omega) (by omega)).trans c7, ⟨l1, (f _ (by omega) (by omega) (by omega) (by omega) (by omega) (by omega)).trans c8, c9⟩, ll2, (f _ (by omega) (by omega) (by omega) (by omega) (by omega) (by omega)).trans c10, c11⟩, CB_t k2 (fun q q1 q2 => hi q (by omega) (by omega)), THs_t k3 (f _ (by omega) (by omega) (by omega) (by omega) (by omega) (by omega)) (f _ (by omega) (by omega) (by omega) (by omega) (by omega) (by omega)) (th _ _ s1), un, ⟨TH_0 k5.1 ev (f _ (by omega) (by omega) (by omega) (by omega) (by omega) (by omega)), fun i hi => absurd hi (Nat.not_lt_zero _)⟩, ?_⟩
  · have hj : j < nU + 1 := hj
    show (vu.set nU (aR h.2.1))[j]? = some (aR (upS U nU V j).1)
    by_cases e : j = nU
    · rw [e, upS_eq, v1, List.getElem?_set_self (by omega)]
    · rw [upS_ne e, List.getElem?_set_ne (fun q => e q.symm)]
      exact c5 j (by omega)
  · show SPp x h'.2.1 nS PS (nU + 1) (upS U nU V) 0 PD
    have sz' : h.2.1 ≤ h'.2.1 := by omega
    refine ⟨by omega, bdT_le s1 sz', bd_0, fun j hj => ?_, s4, fun i j hi => absurd hi (Nat.not_lt_zero _), fun i j _ hj => absurd hj (Nat.not_lt_zero _), fun j hj => ?_, fun j k hj hk jk => ?_⟩
    · by_cases e : j = nU
      · rw [e, upS_eq, v1, v2, v3]
        exact ⟨⟨s0, sz⟩, bdT_le s2 sz'⟩
      · rw [upS_ne e]
        have := s3 j (by omega)
        exact ⟨⟨this.1.1, by have := this.1.2; omega⟩, bdT_le this.2 sz'⟩
    · by_cases e : j = nU
      · rw [e, upS_eq, v2, v3]
        exact ⟨s5, s6, fun i j hi => absurd hi (Nat.not_lt_zero _)⟩
      · rw [upS_ne e]
        exact ⟨(s7 j (by omega)).1, (s7 j (by omega)).2.1, fun i j hi => absurd hi (Nat.not_lt_zero _)⟩
    · by_cases e : j = nU
      · have ek : k ≠ nU := fun q => jk (e.trans q.symm)
        rw [e, upS_eq, upS_ne ek, v1, v2, v3]
        exact ⟨(s7 k (by omega)).2.2, by have := (s3 k (by omega)).1.2; omega⟩
      · by_cases ek : k = nU
        · rw [ek, upS_eq, upS_ne e, v1, v2, v3]
          exact ⟨ap_sym (s7 j (by omega)).2.2, by have := (s3 j (by omega)).1.2; omega⟩
        · rw [upS_ne e, upS_ne ek]
          exact s8 j k (by omega) (by omega) jk
/-- the nodes that are kept, in the heap -/
theorem ND_kT {nd0 : Nat} {A0 : Nat → Nat} {Ls : Nat → List AV} {u : Nat} (D : DI σ) (X : DX σ (Ls 2) (Ls 4)) (N0 : NR nd0 A0 Ls kt σ h) (e1 : h'.1 (u + 1) = some (5, [aR (u + 2), aR (u + 3), aR (u + 4), aR (u + 5), aR (u + 6), aR (u + 7), aR (u + 8), aR (u + 9), aI (σ.1 19), aI kt])) (ea : ∀ i, i < 8 → h'.1 (u + 2 + i) = some (100, (Ls i).take (σ.1 19).toInt.toNat)) (kt0 : 0 ≤ kt.toInt) : ND (u + 1) (kT σ (Ls 2) (Ls 4)) h' := by
  obtain ⟨d1, d2, d3, d4, -⟩ := id D
  obtain ⟨n1, n2, n3, n4⟩ := N0
  refine ⟨fun j => u + 2 + j, fun j => (Ls j).take (σ.1 19).toInt.toNat, σ.1 19, kt, e1, ?_, fun j hj => ⟨ea j hj, by rw [List.length_take, (n2 j hj).2]; omega, by show u + 1 < u + 2 + j; omega⟩, fun k hk => ?_⟩
  · show (σ.1 19).toInt = (((σ.1 19).toInt.toNat : Nat) : Int)
    omega
  · have hk : k < (σ.1 19).toInt.toNat := hk
    obtain ⟨m1, m2, m3, m6, ka, m5, p1, p2, p3⟩ := n4 k (by omega)
    obtain ⟨⟨y2, x2⟩, y4, x4⟩ := X.2 k (by omega)
    have tk : ∀ j, ((Ls j).take (σ.1 19).toInt.toNat)[k]? = (Ls j)[k]? := fun j => List.getElem?_take_of_lt hk
    refine ⟨fun j hj j5 => ?_, ka, (tk 5).trans m5, p1, ?_, fun i hi => ?_⟩
    · have : j = 0 ∨ j = 1 ∨ j = 2 ∨ j = 3 ∨ j = 4 ∨ j = 6 := by omega
      rcases this with rfl | rfl | rfl | rfl | rfl | rfl
      · exact (tk 0).trans m1
      · exact (tk 1).trans m2
      · refine (tk 2).trans ?_
        rw [x2]
        show _ = some (aI (gI (Ls 2) k))
        rw [gI_v x2]
      · exact (tk 3).trans m3
      · refine (tk 4).trans ?_
        rw [x4]
        show _ = some (aI (gI (Ls 4) k))
        rw [gI_v x4]
      · exact (tk 6).trans m6
    · show ka.toInt + (ia σ 10 k).toInt ≤ (((Ls 7).take (σ.1 19).toInt.toNat).length : Int)
      rw [List.length_take, (n2 7 (by omega)).2]
      omega
    · have hi : (i : Int) < (ia σ 10 k).toInt := hi
      rw [List.getElem?_take_of_lt (by omega), p3 i hi]
      show some (aI (sq σ i (ia σ 11 k))) = some (aI (ch σ ((k : Nat) : Int) i))
      unfold ch
      rw [show ((k : Nat) : Int).toNat = k by omega]
end Xm
