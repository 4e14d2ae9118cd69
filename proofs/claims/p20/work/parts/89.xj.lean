/-! GOOD TREES: expressions -/
/-- the nodes that are kept -/
def kT (σ : rS) (l2 l4 : List AV) : KT := ((σ.1 19).toInt.toNat, fun j k => if j = 0 then ia σ 8 k else if j = 1 then ia σ 9 k else if j = 2 then gI l2 k else if j = 3 then ia σ 13 k else if j = 4 then gI l4 k else if j = 6 then ia σ 10 k else 0, fun k i => ch σ k i)
def kSg (σ : rS) (i : Nat) : Int32 × Int32 := (sF σ i 0, sF σ i 1)
section Xj
variable {σ : rS} {l2 l4 : List AV} {v k : Int32} {n nS' : Nat} {kS' kV : Nat → Int32 × Int32}
theorem kT_r (D : DI σ) : rgN (kT σ l2 l4) v ↔ 0 ≤ v.toInt ∧ v.toInt < (σ.1 19).toInt := by
  have := D.1
  show 0 ≤ v.toInt ∧ v.toInt < (((σ.1 19).toInt.toNat : Nat) : Int) ↔ _
  omega
theorem tk_k (hv : rgN (kT σ l2 l4) v) : kO σ v = kf (kT σ l2 l4) 0 v := if_neg (nn_m hv.1)
theorem tk_g (hv : rgN (kT σ l2 l4) v) : gO σ v = kf (kT σ l2 l4) 1 v := if_neg (nn_m hv.1)
theorem tk_m (hv : rgN (kT σ l2 l4) v) : mO σ v = kf (kT σ l2 l4) 6 v := if_neg (nn_m hv.1)
theorem tk_u (hv : rgN (kT σ l2 l4) v) : uO σ v = kf (kT σ l2 l4) 3 v := if_neg (nn_m hv.1)
theorem tk_c {i : Nat} (hv : rgN (kT σ l2 l4) v) : cO σ v i = kC (kT σ l2 l4) v i := by
  refine (if_neg (nn_m hv.1)).trans ?_
  show ch σ v.toInt i = ch σ ((v.toInt.toNat : Nat) : Int) i
  rw [show ((v.toInt.toNat : Nat) : Int) = v.toInt from Int.toNat_of_nonneg hv.1]
/-- a child -/
theorem tk_h (D : DI σ) {i : Nat} (hv : rgN (kT σ l2 l4) v) (hi : (i : Int) < (kf (kT σ l2 l4) 6 v).toInt) : rgN (kT σ l2 l4) (kC (kT σ l2 l4) v i) ∧ kf (kT σ l2 l4) 3 (kC (kT σ l2 l4) v i) = v ∧ (kC (kT σ l2 l4) v i).toInt < v.toInt ∧ (ia σ 14 (kC (kT σ l2 l4) v i).toInt.toNat).toInt + 1 ≤ (ia σ 14 v.toInt.toNat).toInt := by
  have r := (kT_r D).mp hv
  have c : cOf σ ((v.toInt.toNat : Nat) : Int) (ch σ ((v.toInt.toNat : Nat) : Int) i).toInt := ch_b D (k := v.toInt.toNat) (by omega) hi
  have e : kC (kT σ l2 l4) v i = ch σ ((v.toInt.toNat : Nat) : Int) i := rfl
  rw [← e] at c
  obtain ⟨c1, c2, c3, c4⟩ := c
  rw [show ((v.toInt.toNat : Nat) : Int).toNat = v.toInt.toNat by omega] at c4
  refine ⟨(kT_r D).mpr ⟨c1, by omega⟩, Int32.toInt_inj.mp ?_, by omega, c4⟩
  show (ia σ 13 (kC (kT σ l2 l4) v i).toInt.toNat).toInt = v.toInt
  omega
theorem tk_PO (D : DI σ) (X : DX σ l2 l4) : PO (kT σ l2 l4) := by
  obtain ⟨⟨x1, x2, x3⟩, x4⟩ := X
  refine ⟨by have := D.2.1; show (σ.1 19).toInt.toNat ≤ 4000; omega, fun v hv => ?_⟩
  have r := (kT_r D).mp hv
  obtain ⟨a1, a2, a3⟩ := x1 v.toInt.toNat (by omega)
  have m0 : 0 ≤ (ia σ 10 v.toInt.toNat).toInt := (D.2.2.2.2.1 v.toInt r.1 r.2).1
  refine ⟨m0, fun q => ?_, fun q => ?_, fun i hi => ?_⟩
  · have := a1 (by rw [show ia σ 10 v.toInt.toNat = 0 from q]; rfl)
    exact Int32.toInt_inj.mp (by show (gI l2 v.toInt.toNat).toInt = v.toInt; omega)
  · obtain ⟨b1, b2, b3⟩ := a2 q
    have q : 0 < (ia σ 10 v.toInt.toNat).toInt := q
    have kl : ∀ i : Nat, (i : Int) < (ia σ 10 v.toInt.toNat).toInt → (ch σ ((v.toInt.toNat : Nat) : Int) i).toInt < v.toInt ∧ 0 ≤ (ch σ ((v.toInt.toNat : Nat) : Int) i).toInt := fun i hi => by
      have := tk_h (l2 := l2) (l4 := l4) D hv (i := i) hi
      exact ⟨this.2.2.1, this.1.1⟩
    have e1 : (1 : Int32).toInt = 1 := rfl
    have bb := bd_i v
    refine ⟨b1, fun i hi => ?_, ?_⟩
    · have hi : (i : Int) + 1 < (ia σ 10 v.toInt.toNat).toInt := hi
      have g := kl i (by omega)
      refine Int32.toInt_inj.mp ?_
      show (gI l2 (ch σ ((v.toInt.toNat : Nat) : Int) (i + 1)).toInt.toNat).toInt = (ch σ ((v.toInt.toNat : Nat) : Int) i + 1).toInt
      rw [b2 i hi, ad_i (by omega) (by omega), e1]
    · have g := kl ((ia σ 10 v.toInt.toNat).toInt.toNat - 1) (by omega)
      refine Int32.toInt_inj.mp ?_
      show v.toInt = (ch σ ((v.toInt.toNat : Nat) : Int) ((ia σ 10 v.toInt.toNat).toInt.toNat - 1) + 1).toInt
      rw [ad_i (by omega) (by omega), e1]
      omega
  · obtain ⟨h1, h2, h3, -⟩ := tk_h (l2 := l2) (l4 := l4) D hv hi
    exact ⟨h1, h2, a3 i hi, h3⟩
theorem ok_ri (OK : ∀ j : Int, 0 ≤ j → j < (σ.1 19).toInt → okN σ j) (D : DI σ) (hv : rgN (kT σ l2 l4) v) : (ia σ 14 v.toInt.toNat).toInt ≤ 100 ∧ riP σ v := by
  have r := (kT_r D).mp hv
  obtain ⟨a, b⟩ := OK v.toInt r.1 r.2
  rw [Int32.ofInt_toInt] at b
  exact ⟨a, b⟩
theorem ex_B (R : riP σ v) (hx : isX (kO σ v).toInt) : exB σ v (kO σ v) := by
  have e0 : (30 : Int32).toInt = 30 := rfl
  have e1 : (32 : Int32).toInt = 32 := rfl
  unfold riP at R
  rw [if_neg (fun q => by rw [q, e1] at hx; unfold isX at hx; omega), if_neg (fun q => by rw [q, e0] at hx; unfold isX at hx; omega)] at R
  exact R.1 hx
theorem st_B (R : riP σ v) (hx : ¬ isX (kO σ v).toInt) (h30 : ¬ kO σ v = 30) (h32 : ¬ kO σ v = 32) : gO σ v = 0 ∧ stB σ v (kO σ v) := by
  unfold riP at R
  rw [if_neg h32, if_neg h30] at R
  exact R.2 hx
theorem isX_kk (hx : isX k.toInt) : k = 2 ∨ k = 3 ∨ k = 4 ∨ k = 20 ∨ k = 21 ∨ k = 80 ∨ k = 81 ∨ k = 82 ∨ k = 83 ∨ k = 84 ∨ k = 85 := by
  unfold isX at hx
  have : k.toInt = 2 ∨ k.toInt = 3 ∨ k.toInt = 4 ∨ k.toInt = 20 ∨ k.toInt = 21 ∨ k.toInt = 80 ∨ k.toInt = 81 ∨ k.toInt = 82 ∨ k.toInt = 83 ∨ k.toInt = 84 ∨ k.toInt = 85 := by omega
  rcases this with q | q | q | q | q | q | q | q | q | q | q
  · exact Or.inl (Int32.toInt_inj.mp q)
  · exact Or.inr (Or.inl (Int32.toInt_inj.mp q))
  · exact Or.inr (Or.inr (Or.inl (Int32.toInt_inj.mp q)))
  · exact Or.inr (Or.inr (Or.inr (Or.inl (Int32.toInt_inj.mp q))))
  · exact Or.inr (Or.inr (Or.inr (Or.inr (Or.inl (Int32.toInt_inj.mp q)))))
  · exact Or.inr (Or.inr (Or.inr (Or.inr (Or.inr (Or.inl (Int32.toInt_inj.mp q))))))
  · exact Or.inr (Or.inr (Or.inr (Or.inr (Or.inr (Or.inr (Or.inl (Int32.toInt_inj.mp q)))))))
  · exact Or.inr (Or.inr (Or.inr (Or.inr (Or.inr (Or.inr (Or.inr (Or.inl (Int32.toInt_inj.mp q))))))))
  · exact Or.inr (Or.inr (Or.inr (Or.inr (Or.inr (Or.inr (Or.inr (Or.inr (Or.inl (Int32.toInt_inj.mp q)))))))))
  · exact Or.inr (Or.inr (Or.inr (Or.inr (Or.inr (Or.inr (Or.inr (Or.inr (Or.inr (Or.inl (Int32.toInt_inj.mp q))))))))))
  · exact Or.inr (Or.inr (Or.inr (Or.inr (Or.inr (Or.inr (Or.inr (Or.inr (Or.inr (Or.inr (Int32.toInt_inj.mp q))))))))))
theorem kX {e : Int32} (hk : k = e) (hx : isX e.toInt) : isX k.toInt := by rw [hk]; exact hx
/-- class and length of a thing -/
theorem tk_o (N : 0 ≤ (σ.1 7).toInt ∧ 0 ≤ (σ.1 9).toInt) (hS : ∀ i, i < (σ.1 7).toInt.toNat → kS' i = kSg σ i) (hV : ∀ i, i < (σ.1 9).toInt.toNat → kV i = kSg σ (9216 + i)) (hv : rgN (kT σ l2 l4) v) (t : tOK σ v) : (kOf (kT σ l2 l4) kS' kV v).1 = tF σ v 0 ∧ (kOf (kT σ l2 l4) kS' kV v).2 = tF σ v 1 := by
  unfold tOK at t
  unfold kOf tF
  rw [tk_k hv, tk_g hv] at t ⊢
  rcases t with ⟨t1, t2, t3⟩ | ⟨t1, t2, t3⟩
  · rw [if_pos t1, if_pos t1, if_pos t1, hS _ (by omega)]
    exact ⟨rfl, rfl⟩
  · have n : ¬ kf (kT σ l2 l4) 0 v = 80 := by rw [t1]; decide
    rw [if_neg n, if_neg n, if_neg n, hV _ (by omega)]
    exact ⟨rfl, rfl⟩
theorem g_E (OK : ∀ j : Int, 0 ≤ j → j < (σ.1 19).toInt → okN σ j) (D : DI σ) (N : 0 ≤ (σ.1 7).toInt ∧ 0 ≤ (σ.1 9).toInt) (hS : ∀ i, i < (σ.1 7).toInt.toNat → kS' i = kSg σ i) (hn : (σ.1 7).toInt.toNat ≤ nS') (hV : ∀ i, i < (σ.1 9).toInt.toNat → kV i = kSg σ (9216 + i)) : ∀ (n : Nat) (v : Int32), rgN (kT σ l2 l4) v → (ia σ 14 v.toInt.toNat).toInt ≤ n → isX (kf (kT σ l2 l4) 0 v).toInt → gE (kT σ l2 l4) nS' (σ.1 9).toInt.toNat kS' kV n v := by
  intro n
  induction n with
  | zero =>
    intro v hv hh hx
    have r := (kT_r D).mp hv
    have := (D.2.2.2.2.1 v.toInt r.1 r.2).2.2.2.2.1
    omega
  | succ n ih =>
    intro v hv hh hx
    have R := (ok_ri OK D hv).2
    have B := ex_B R (by rw [tk_k hv]; exact hx)
    rw [tk_k hv] at B
    have cc := isX_kk hx
    have kd : ∀ i : Nat, (i : Int) < (kf (kT σ l2 l4) 6 v).toInt → isX (kf (kT σ l2 l4) 0 (kC (kT σ l2 l4) v i)).toInt → gE (kT σ l2 l4) nS' (σ.1 9).toInt.toNat kS' kV n (kC (kT σ l2 l4) v i) := fun i hi hx => by
      obtain ⟨a, -, -, b⟩ := tk_h D hv hi
      exact ih _ a (by omega) hx
    have kr : ∀ i : Nat, (i : Int) < (kf (kT σ l2 l4) 6 v).toInt → rgN (kT σ l2 l4) (kC (kT σ l2 l4) v i) := fun i hi => (tk_h D hv hi).1
    have z0 : (0 : Int32).toInt = 0 := rfl
    have z1 : (1 : Int32).toInt = 1 := rfl
    have z3 : (3 : Int32).toInt = 3 := rfl
    have z8 : (8 : Int32).toInt = 8 := rfl
    have z20 : (20 : Int32).toInt = 20 := rfl
    have z64 : (64 : Int32).toInt = 64 := rfl
    have z15 : (15 : Int32).toInt = 15 := rfl
    have z17 : (17 : Int32).toInt = 17 := rfl
    have tx : ∀ w, tOK σ w → rgN (kT σ l2 l4) w → (kf (kT σ l2 l4) 0 w = 80 ∨ kf (kT σ l2 l4) 0 w = 81) ∧ isX (kf (kT σ l2 l4) 0 w).toInt := fun w t hw => by
      unfold tOK at t
      rw [tk_k hw] at t
      rcases t with ⟨t, -⟩ | ⟨t, -⟩
      · exact ⟨Or.inl t, kX t (by unfold isX; decide)⟩
      · exact ⟨Or.inr t, kX t (by unfold isX; decide)⟩
    refine ⟨hv, cc, fun q => ?_, fun q => ?_, fun q => ?_, fun q => ?_, fun q => ?_, fun q => ?_, fun q => ?_, fun q => ?_, fun q => ?_, fun q => ?_, fun q => ?_⟩
    · rw [q] at B
      have B : mO σ v = 0 ∧ ¬ gO σ v < -2147483647 := B
      rw [tk_m hv, tk_g hv] at B
      have em : (-2147483647 : Int32).toInt = -2147483647 := rfl
      exact ⟨B.1, by have := nlt_i B.2; omega⟩
    · rw [q] at B
      have B : mO σ v = 0 ∧ wi 0 8 (gO σ v) := B
      rw [tk_m hv, tk_g hv] at B
      exact ⟨B.1, by have := B.2.1; omega, by have := B.2.2; omega⟩
    · rw [q] at B
      have B : gO σ v = 0 ∧ wi 1 64 (mO σ v) ∧ kA σ v 0 (fun k => k = 3) := B
      obtain ⟨-, b2, b3⟩ := B
      rw [tk_m hv] at b2
      refine ⟨by have := b2.1; omega, by have := b2.2; omega, fun i hi => ?_⟩
      have b4 := b3 i (Nat.zero_le _) (by rw [tk_m hv]; exact hi)
      have b4 : kO σ (cO σ v i) = 3 := b4
      have hw := kr i hi
      rw [tk_c hv, tk_k hw] at b4
      have R2 := (ok_ri OK D hw).2
      have B2 := ex_B R2 (by rw [tk_k hw]; exact kX b4 (by unfold isX; decide))
      rw [tk_k hw, b4] at B2
      have B2 : mO σ (kC (kT σ l2 l4) v i) = 0 ∧ wi 0 8 (gO σ (kC (kT σ l2 l4) v i)) := B2
      rw [tk_m hw, tk_g hw] at B2
      exact ⟨b4, B2.1, by have := B2.2.1; omega, by have := B2.2.2; omega⟩
    · rw [q] at B
      have B : wi 0 3 (gO σ v) ∧ mO σ v = 1 ∧ isX (kO σ (cO σ v 0)).toInt := B
      rw [tk_m hv, tk_g hv, tk_c hv] at B
      obtain ⟨b1, b2, b3⟩ := B
      have l : ((0 : Nat) : Int) < (kf (kT σ l2 l4) 6 v).toInt := by rw [b2]; decide
      rw [tk_k (kr 0 l)] at b3
      exact ⟨b2, by have := b1.1; omega, by have := b1.2; omega, kd 0 l b3⟩
    · rw [q] at B
      have B : wi 0 20 (gO σ v) ∧ mO σ v = 2 ∧ isX (kO σ (cO σ v 0)).toInt ∧ isX (kO σ (cO σ v 1)).toInt := B
      rw [tk_m hv, tk_g hv, tk_c hv, tk_c hv] at B
      obtain ⟨b1, b2, b3, b4⟩ := B
      have l : ((0 : Nat) : Int) < (kf (kT σ l2 l4) 6 v).toInt := by rw [b2]; decide
      have l' : ((1 : Nat) : Int) < (kf (kT σ l2 l4) 6 v).toInt := by rw [b2]; decide
      rw [tk_k (kr 0 l)] at b3
      rw [tk_k (kr 1 l')] at b4
      exact ⟨b2, by have := b1.1; omega, by have := b1.2; omega, kd 0 l b3, kd 1 l' b4⟩
    · rw [q] at B
      have B : mO σ v = 0 ∧ tOK σ v := B
      obtain ⟨b1, b2⟩ := B
      unfold tOK at b2
      rw [tk_m hv] at b1
      rw [tk_k hv, tk_g hv, q] at b2
      rcases b2 with ⟨-, t2, t3⟩ | ⟨t1, -⟩
      · exact ⟨b1, t2, by omega⟩
      · exact absurd t1 (by decide)
    · rw [q] at B
      have B : mO σ v = 0 ∧ tOK σ v := B
      obtain ⟨b1, b2⟩ := B
      unfold tOK at b2
      rw [tk_m hv] at b1
      rw [tk_k hv, tk_g hv, q] at b2
      rcases b2 with ⟨t1, -⟩ | ⟨-, t2, t3⟩
      · exact absurd t1 (by decide)
      · exact ⟨b1, t2, by omega⟩
    · rw [q] at B
      have B : gO σ v = 0 ∧ mO σ v = 2 ∧ (tOK σ (cO σ v 0) ∧ tF σ (cO σ v 0) 0 = 1) ∧ isX (kO σ (cO σ v 1)).toInt := B
      rw [tk_m hv, tk_g hv, tk_c hv, tk_c hv] at B
      obtain ⟨-, b2, ⟨b3, b4⟩, b5⟩ := B
      have l : ((0 : Nat) : Int) < (kf (kT σ l2 l4) 6 v).toInt := by rw [b2]; decide
      have l' : ((1 : Nat) : Int) < (kf (kT σ l2 l4) 6 v).toInt := by rw [b2]; decide
      obtain ⟨t1, t2⟩ := tx _ b3 (kr 0 l)
      rw [tk_k (kr 1 l')] at b5
      exact ⟨b2, kd 0 l t2, t1, (tk_o N hS hV (kr 0 l) b3).1.trans b4, kd 1 l' b5⟩
    · rw [q] at B
      have B : gO σ v = 0 ∧ mO σ v = 3 ∧ paP σ v := B
      obtain ⟨-, b2, b3⟩ := B
      unfold paP at b3
      rw [tk_m hv] at b2
      rw [tk_c hv, tk_c hv, tk_c hv] at b3
      have l : ((0 : Nat) : Int) < (kf (kT σ l2 l4) 6 v).toInt := by rw [b2]; decide
      have l' : ((1 : Nat) : Int) < (kf (kT σ l2 l4) 6 v).toInt := by rw [b2]; decide
      have l'' : ((2 : Nat) : Int) < (kf (kT σ l2 l4) 6 v).toInt := by rw [b2]; decide
      obtain ⟨p1, p2, p3, p4, p5, p6, p7⟩ := b3
      rw [tk_k (kr 1 l')] at p3
      rw [tk_k (kr 2 l'')] at p4
      rw [tk_g (kr 1 l')] at p5 p7
      rw [tk_g (kr 2 l'')] at p6 p7
      obtain ⟨t1, t2⟩ := tx _ p1 (kr 0 l)
      obtain ⟨o1, o2⟩ := tk_o (l2 := l2) (l4 := l4) N hS hV (kr 0 l) p1
      exact ⟨b2, kd 0 l t2, t1, o1.trans p2, kd 1 l' (kX p3 (by unfold isX; decide)), p3, kd 2 l'' (kX p4 (by unfold isX; decide)), p4, p5, p6, by rw [o2]; omega⟩
    · rw [q] at B
      have B : fnP σ v (gO σ v) (mO σ v) := B
      unfold fnP fnE at B
      rw [tk_m hv, tk_g hv, tk_c hv, tk_c hv] at B
      by_cases c8 : kf (kT σ l2 l4) 1 v = 8 ∨ kf (kT σ l2 l4) 1 v = 9
      · rw [if_pos c8] at B
        obtain ⟨b1, b2, b3, b4⟩ := B
        have l : ((0 : Nat) : Int) < (kf (kT σ l2 l4) 6 v).toInt := by rw [b1]; decide
        rw [tk_k (kr 0 l)] at b2
        exact Or.inl ⟨c8, b1, kd 0 l (kX b2 (by unfold isX; decide)), b2, (tk_o N hS hV (kr 0 l) b3).1.trans b4⟩
      · rw [if_neg c8] at B
        by_cases c10 : kf (kT σ l2 l4) 1 v = 10
        · rw [if_pos c10] at B
          obtain ⟨b1, b2⟩ := B
          have l : ((0 : Nat) : Int) < (kf (kT σ l2 l4) 6 v).toInt := by rw [b1]; decide
          rw [tk_k (kr 0 l)] at b2
          exact Or.inr (Or.inl ⟨c10, b1, kd 0 l b2⟩)
        · rw [if_neg c10] at B
          by_cases c11 : kf (kT σ l2 l4) 1 v = 11
          · rw [if_pos c11] at B
            obtain ⟨b1, b2, b3, b4, b5⟩ := B
            have l : ((0 : Nat) : Int) < (kf (kT σ l2 l4) 6 v).toInt := by rw [b1]; decide
            have l' : ((1 : Nat) : Int) < (kf (kT σ l2 l4) 6 v).toInt := by rw [b1]; decide
            rw [tk_k (kr 0 l)] at b2
            rw [tk_k (kr 1 l')] at b3
            rw [tk_g (kr 1 l')] at b4 b5
            exact Or.inr (Or.inr ⟨c11, b1, kd 0 l b2, kd 1 l' (kX b3 (by unfold isX; decide)), b3, b4, b5⟩)
          · rw [if_neg c11] at B
            exact B.elim
    · rw [q] at B
      have B : wi 15 17 (gO σ v) ∧ mO σ v = 1 ∧ kO σ (cO σ v 0) = 80 := B
      rw [tk_m hv, tk_g hv, tk_c hv] at B
      obtain ⟨⟨b1, b1'⟩, b2, b3⟩ := B
      have l : ((0 : Nat) : Int) < (kf (kT σ l2 l4) 6 v).toInt := by rw [b2]; decide
      rw [tk_k (kr 0 l)] at b3
      refine ⟨b2, ?_, kd 0 l (kX b3 (by unfold isX; decide)), b3⟩
      have : (kf (kT σ l2 l4) 1 v).toInt = 15 ∨ (kf (kT σ l2 l4) 1 v).toInt = 16 ∨ (kf (kT σ l2 l4) 1 v).toInt = 17 := by omega
      rcases this with g | g | g
      · exact Or.inl (Int32.toInt_inj.mp g)
      · exact Or.inr (Or.inl (Int32.toInt_inj.mp g))
      · exact Or.inr (Or.inr (Int32.toInt_inj.mp g))
end Xj
