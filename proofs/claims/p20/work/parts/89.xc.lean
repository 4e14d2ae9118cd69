/-! THE CLASS BETWEEN CALLS -/
/-- a kept process: u, nodes, how many variables, their places, their things, the unit, counters, ends -/
abbrev UD : Type := Nat × KT × Nat × (Nat → Nat) × (Nat → TS) × US × (Nat → Int64) × (Nat → Int64)
def CB (x : Nat) (c : SCR) (τ : TD) (h : ah_H) : Prop := (∃ t, FS (x + 531) (x + 532) (x + 1) (fun i => x + 533 + i) c.1 t h) ∧ (h.1 (x + 530) = some (6, rnF x c.2.2.2.2.1 c.2.2.2.2.2.1 c.2.2.2.2.2.2.1 c.2.2.2.2.2.2.2.1 c.2.2.2.2.2.2.2.2) ∧ h.1 (x + 637) = some (1, dW c.2.1) ∧ h.1 (x + 638) = some (111, (List.range 16).map fun i => aR (x + 639 + i)) ∧ (∀ i, i < 16 → h.1 (x + 639 + i) = some (1, dW (c.2.2.1 i))) ∧ h.1 (x + 655) = some (101, cnA 16 c.2.2.2.1)) ∧ TO x τ h
def THs (a n : Nat) (P : Nat → Nat) (e : Nat → TS) (h : ah_H) : Prop := TH a n P h ∧ ∀ i, i < n → TC (P i) (e i) h
def UHp (U : UD) (h : ah_H) : Prop := h.1 U.1 = some (10, dU (U.1 + 1) (U.1 + 10) (U.1 + 12) (U.1 + 13) U.2.2.2.2.2.1) ∧ (ND (U.1 + 1) U.2.1 h ∧ ∃ (cn kt : Int32), h.1 (U.1 + 1) = some (5, [aR (U.1 + 2), aR (U.1 + 3), aR (U.1 + 4), aR (U.1 + 5), aR (U.1 + 6), aR (U.1 + 7), aR (U.1 + 8), aR (U.1 + 9), aI cn, aI kt])) ∧ THs (U.1 + 10) U.2.2.1 U.2.2.2.1 U.2.2.2.2.1 h ∧ h.1 (U.1 + 12) = some (101, cnA U.2.1.1 U.2.2.2.2.2.2.1) ∧ h.1 (U.1 + 13) = some (101, cnA U.2.1.1 U.2.2.2.2.2.2.2) ∧ U.2.1.1 ≤ 4000
def CLp (x nU : Nat) (U : Nat → UD) (h : ah_H) : Prop := (∃ uc nk : Int32, h.1 x = some (0, [aR (x + 1), aR (x + 3), aR (x + 17), aR (x + 18), aI uc, aI nk, aR (x + 19), aR (x + 530)]) ∧ uc.toInt = nU ∧ nU ≤ 64) ∧ (∃ vu : List AV, h.1 (x + 18) = some (120, vu) ∧ vu.length = 64 ∧ ∀ j, j < nU → vu[j]? = some (aR (U j).1)) ∧ (∃ rc : Int32, h.1 (x + 3) = some (4, [aR (x + 4), aR (x + 13), aR (x + 15), aR (x + 16), aI rc])) ∧ (∃ cn kt : Int32, h.1 (x + 4) = some (5, [aR (x + 5), aR (x + 6), aR (x + 7), aR (x + 8), aR (x + 9), aR (x + 10), aR (x + 11), aR (x + 12), aI cn, aI kt])) ∧ h.1 (x + 17) = some (3, [aR (x + 3), aR (x + 4), aR (x + 1)]) ∧ (∃ ls, h.1 (x + 2) = some (117, ls) ∧ ls.length = 512) ∧ ∃ ls, h.1 (x + 14) = some (117, ls) ∧ ls.length = 128
/-- places of things apart -/
def apT (n : Nat) (P : Nat → Nat) (n' : Nat) (P' : Nat → Nat) : Prop := ∀ i j, i < n → j < n' → P i ≠ P' j
def ijT (n : Nat) (P : Nat → Nat) : Prop := ∀ i j, i < n → j < n → P i = P j → i = j
def bdT (x B n : Nat) (P : Nat → Nat) : Prop := ∀ i, i < n → x + 656 ≤ P i ∧ P i + 3 ≤ B
def SPp (x B nS : Nat) (PS : Nat → Nat) (nU : Nat) (U : Nat → UD) (nD : Nat) (PD : Nat → Nat) : Prop := x + 656 ≤ B ∧ bdT x B nS PS ∧ bdT x B nD PD ∧ (∀ j, j < nU → (x + 656 ≤ (U j).1 ∧ (U j).1 + 14 ≤ B) ∧ bdT x B (U j).2.2.1 (U j).2.2.2.1) ∧ ijT nS PS ∧ ijT nD PD ∧ apT nS PS nD PD ∧ (∀ j, j < nU → ijT (U j).2.2.1 (U j).2.2.2.1 ∧ apT nS PS (U j).2.2.1 (U j).2.2.2.1 ∧ apT nD PD (U j).2.2.1 (U j).2.2.2.1) ∧ ∀ j k, j < nU → k < nU → j ≠ k → apT (U j).2.2.1 (U j).2.2.2.1 (U k).2.2.1 (U k).2.2.2.1 ∧ (U j).1 ≠ (U k).1
abbrev KD : Type := SCR × TD × (Nat × (Nat → Nat) × (Nat → TS)) × (Nat × (Nat → UD)) × Nat × (Nat → Nat) × (Nat → TS)
def KI (x : Nat) (D : KD) (h : ah_H) : Prop := CLp x D.2.2.2.1.1 D.2.2.2.1.2 h ∧ CB x D.1 D.2.1 h ∧ THs (x + 1) D.2.2.1.1 D.2.2.1.2.1 D.2.2.1.2.2 h ∧ (∀ j, j < D.2.2.2.1.1 → UHp (D.2.2.2.1.2 j) h) ∧ THs (x + 13) D.2.2.2.2.1 D.2.2.2.2.2.1 D.2.2.2.2.2.2 h ∧ SPp x h.2.1 D.2.2.1.1 D.2.2.1.2.1 D.2.2.2.1.1 D.2.2.2.1.2 D.2.2.2.2.1 D.2.2.2.2.2.1
section Xc
variable {x B B' nS nU nD n a : Nat} {c : SCR} {τ : TD} {P PS PD : Nat → Nat} {e eS eD : Nat → TS} {U : Nat → UD} {u : UD} {h h' : ah_H} {D : KD}
theorem CB_t (C : CB x c τ h) (k : ∀ q, x + 19 ≤ q → q < x + 656 → h'.1 q = h.1 q) : CB x c τ h' := by
  obtain ⟨⟨t, F⟩, ⟨r1, r2, r3, r4, r5⟩, O⟩ := C
  exact ⟨⟨t, FS_k F (fun q q1 q2 => k q (by omega) (by omega))⟩, ⟨(k _ (by omega) (by omega)).trans r1, (k _ (by omega) (by omega)).trans r2, (k _ (by omega) (by omega)).trans r3, fun i hi => (k _ (by omega) (by omega)).trans (r4 i hi), (k _ (by omega) (by omega)).trans r5⟩, TO_tf O (fun q q1 q2 => k q q1 (by omega))⟩
theorem TC_t {t : TS} (C : TC a t h) (k0 : h'.1 a = h.1 a) (k1 : h'.1 (a + 1) = h.1 (a + 1)) (k2 : h'.1 (a + 2) = h.1 (a + 2)) : TC a t h' := ⟨k0.trans C.1, k1.trans C.2.1, k2.trans C.2.2⟩
theorem TH_t (C : TH a n P h) (k0 : h'.1 a = h.1 a) (k1 : h'.1 (a + 1) = h.1 (a + 1)) : TH a n P h' := by
  obtain ⟨rw, ls, cc, a1, ⟨a2, rfl⟩, a3, a4⟩ := C
  exact ⟨_, ls, cc, k0.trans a1, ⟨a2, rfl⟩, k1.trans a3, a4⟩
theorem THs_t (C : THs a n P e h) (k0 : h'.1 a = h.1 a) (k1 : h'.1 (a + 1) = h.1 (a + 1)) (k : ∀ i, i < n → h'.1 (P i) = h.1 (P i) ∧ h'.1 (P i + 1) = h.1 (P i + 1) ∧ h'.1 (P i + 2) = h.1 (P i + 2)) : THs a n P e h' := ⟨TH_t C.1 k0 k1, fun i hi => TC_t (C.2 i hi) (k i hi).1 (k i hi).2.1 (k i hi).2.2⟩
theorem UH_A {m : Nat} {A : Nat → Nat} {cn kt cc kt' : Int32} (a1 : h.1 (m + 1) = some (5, [aR (A 0), aR (A 1), aR (A 2), aR (A 3), aR (A 4), aR (A 5), aR (A 6), aR (A 7), aI cc, aI kt'])) (c3 : h.1 (m + 1) = some (5, [aR (m + 2), aR (m + 3), aR (m + 4), aR (m + 5), aR (m + 6), aR (m + 7), aR (m + 8), aR (m + 9), aI cn, aI kt])) : ∀ j, j < 8 → A j = m + 2 + j := by
  have ea := a1.symm.trans c3
  injection ea with ea
  injection ea with _ ea
  injection ea with b0 ea
  injection ea with b1 ea
  injection ea with b2 ea
  injection ea with b3 ea
  injection ea with b4 ea
  injection ea with b5 ea
  injection ea with b6 ea
  injection ea with b7 ea
  injection b0 with b0
  injection b0 with b0
  injection b0 with b0
  injection b1 with b1
  injection b1 with b1
  injection b1 with b1
  injection b2 with b2
  injection b2 with b2
  injection b2 with b2
  injection b3 with b3
  injection b3 with b3
  injection b3 with b3
  injection b4 with b4
  injection b4 with b4
  injection b4 with b4
  injection b5 with b5
  injection b5 with b5
  injection b5 with b5
  injection b6 with b6
  injection b6 with b6
  injection b6 with b6
  injection b7 with b7
  injection b7 with b7
  injection b7 with b7
  intro j hj
  have : j = 0 ∨ j = 1 ∨ j = 2 ∨ j = 3 ∨ j = 4 ∨ j = 5 ∨ j = 6 ∨ j = 7 := by omega
  rcases this with rfl | rfl | rfl | rfl | rfl | rfl | rfl | rfl
  · exact b0
  · exact b1
  · exact b2
  · exact b3
  · exact b4
  · exact b5
  · exact b6
  · exact b7
theorem UHp_t (C : UHp u h) (k : ∀ q, u.1 ≤ q → q < u.1 + 14 → h'.1 q = h.1 q) (k2 : ∀ i, i < u.2.2.1 → h'.1 (u.2.2.2.1 i) = h.1 (u.2.2.2.1 i) ∧ h'.1 (u.2.2.2.1 i + 1) = h.1 (u.2.2.2.1 i + 1) ∧ h'.1 (u.2.2.2.1 i + 2) = h.1 (u.2.2.2.1 i + 2)) : UHp u h' := by
  obtain ⟨c1, ⟨c2, cn, kt, c3⟩, c4, c5, c6, c7⟩ := C
  refine ⟨(k _ (by omega) (by omega)).trans c1, ⟨?_, cn, kt, (k _ (by omega) (by omega)).trans c3⟩, THs_t c4 (k _ (by omega) (by omega)) (k _ (by omega) (by omega)) k2, (k _ (by omega) (by omega)).trans c5, (k _ (by omega) (by omega)).trans c6, c7⟩
  obtain ⟨A, Ls, cc, kt', a1, a2, a3, a4⟩ := c2
  have eA := UH_A a1 c3
  exact ⟨A, Ls, cc, kt', (k _ (by omega) (by omega)).trans a1, a2, fun j hj => ⟨(k _ (by rw [eA j hj]; omega) (by rw [eA j hj]; omega)).trans (a3 j hj).1, (a3 j hj).2⟩, a4⟩
theorem CLp_t (C : CLp x nU U h) (k : ∀ q, x ≤ q → q < x + 19 → h'.1 q = h.1 q) : CLp x nU U h' := by
  obtain ⟨⟨uc, nk, c1, c2⟩, ⟨vu, c3, c4⟩, ⟨rc, c5⟩, ⟨cn, kt, c6⟩, c7, ⟨l1, c8, c9⟩, l2, c10, c11⟩ := C
  exact ⟨⟨uc, nk, (k _ (by omega) (by omega)).trans c1, c2⟩, ⟨vu, (k _ (by omega) (by omega)).trans c3, c4⟩, ⟨rc, (k _ (by omega) (by omega)).trans c5⟩, ⟨cn, kt, (k _ (by omega) (by omega)).trans c6⟩, (k _ (by omega) (by omega)).trans c7, ⟨l1, (k _ (by omega) (by omega)).trans c8, c9⟩, l2, (k _ (by omega) (by omega)).trans c10, c11⟩
theorem bdT_le (b : bdT x B n P) (hB : B ≤ B') : bdT x B' n P := fun i hi => ⟨(b i hi).1, by have := (b i hi).2; omega⟩
theorem SPp_le (S : SPp x B nS PS nU U nD PD) (hB : B ≤ B') : SPp x B' nS PS nU U nD PD := by
  obtain ⟨s0, s1, s2, s3, s4⟩ := S
  exact ⟨by omega, bdT_le s1 hB, bdT_le s2 hB, fun j hj => ⟨⟨(s3 j hj).1.1, by have := (s3 j hj).1.2; omega⟩, bdT_le (s3 j hj).2 hB⟩, s4⟩
/-- what was there stays -/
theorem KI_new (K : KI x D h) (k : ∀ q, q < h.2.1 → h'.1 q = h.1 q) (hB : h.2.1 ≤ h'.2.1) : KI x D h' := by
  obtain ⟨k1, k2, k3, k4, k5, k6⟩ := K
  obtain ⟨s0, s1, s2, s3, -⟩ := id k6
  have th : ∀ (n : Nat) (P : Nat → Nat), bdT x h.2.1 n P → ∀ i, i < n → h'.1 (P i) = h.1 (P i) ∧ h'.1 (P i + 1) = h.1 (P i + 1) ∧ h'.1 (P i + 2) = h.1 (P i + 2) := fun n P b i hi => ⟨k _ (by have := (b i hi).2; omega), k _ (by have := (b i hi).2; omega), k _ (by have := (b i hi).2; omega)⟩
  exact ⟨CLp_t k1 (fun q _ _ => k q (by omega)), CB_t k2 (fun q _ _ => k q (by omega)), THs_t k3 (k _ (by omega)) (k _ (by omega)) (th _ _ s1), fun j hj => UHp_t (k4 j hj) (fun q q1 q2 => k q (by have := (s3 j hj).1.2; omega)) (th _ _ (s3 j hj).2), THs_t k5 (k _ (by omega)) (k _ (by omega)) (th _ _ s2), SPp_le k6 hB⟩
/-- the class while a process runs -/
abbrev kL (U : UD) (PS : Nat → Nat) : LAY := (U.1, U.1 + 1, U.1 + 10, U.1 + 12, U.1 + 13, PS, U.2.2.2.1)
abbrev kE (U : UD) (nS : Nat) (eS : Nat → TS) : ENV := (U.2.1, nS, eS, U.2.2.1)
abbrev kR (U : UD) (τ : TD) : RST := (U.2.2.2.2.1, U.2.2.2.2.2.1, U.2.2.2.2.2.2.1, U.2.2.2.2.2.2.2, τ)
theorem KI_CM (K : KI x D h) {j : Nat} (hj : j < D.2.2.2.1.1) : CM x (kL (D.2.2.2.1.2 j) D.2.2.1.2.1) (kE (D.2.2.2.1.2 j) D.2.2.1.1 D.2.2.1.2.2) D.1 (kR (D.2.2.2.1.2 j) D.2.1) h := by
  obtain ⟨k1, ⟨c1, c2, c3⟩, k3, k4, k5, k6⟩ := K
  obtain ⟨u1, ⟨u2, -⟩, u4, u5, u6, u7⟩ := k4 j hj
  obtain ⟨s0, s1, s2, s3, s4, s5, s6, s7, s8⟩ := k6
  obtain ⟨⟨b1, b2⟩, b3⟩ := s3 j hj
  obtain ⟨i1, i2, i3⟩ := s7 j hj
  exact ⟨c1, c2, ⟨u1, u2, k3.1, u4.1, k3.2, u4.2⟩, c3, u5, u6, ⟨⟨b1, by show x + 656 ≤ (D.2.2.2.1.2 j).1 + 1; omega, by show x + 656 ≤ (D.2.2.2.1.2 j).1 + 10; omega, by show x + 656 ≤ (D.2.2.2.1.2 j).1 + 12; omega, by show x + 656 ≤ (D.2.2.2.1.2 j).1 + 13; omega, by show (D.2.2.2.1.2 j).1 + 12 ≠ (D.2.2.2.1.2 j).1 + 13; omega⟩, fun i hi => (s1 i hi).1, fun i hi => (b3 i hi).1, i1, i2⟩, u7⟩
end Xc
