/-! GOOD TREES, what the reference needs of them -/
def gEV (V : ENV) (kS kV : Nat → Int32 × Int32) (v : Int32) : Prop := gE V.1 V.2.1 V.2.2.2 kS kV 101 v
def gTV (V : ENV) (kS kV : Nat → Int32 × Int32) (v : Int32) : Prop := gT V.1 V.2.1 V.2.2.2 kS kV 100 v
/-- a body -/
def bdy (T : KT) (l : Int32) : Prop := rgN T l ∧ kf T 0 l = 48 ∧ ∀ i : Nat, (i : Int) < (kf T 6 l).toInt → isS (kf T 0 (kC T l i)).toInt
/-- a target -/
def gTh (V : ENV) (kS kV : Nat → Int32 × Int32) (k v : Int32) : Prop := rgN V.1 v ∧ ((kf V.1 0 v = k ∧ gO' V.1 V.2.1 V.2.2.2 v) ∨ (kf V.1 0 v = 82 ∧ kf V.1 6 v = 2 ∧ gO' V.1 V.2.1 V.2.2.2 (kC V.1 v 0) ∧ kf V.1 0 (kC V.1 v 0) = k ∧ (kOf V.1 kS kV (kC V.1 v 0)).1 = 1 ∧ gEV V kS kV (kC V.1 v 1)) ∨ (kf V.1 0 v = 83 ∧ kf V.1 6 v = 3 ∧ gO' V.1 V.2.1 V.2.2.2 (kC V.1 v 0) ∧ kf V.1 0 (kC V.1 v 0) = k ∧ (kOf V.1 kS kV (kC V.1 v 0)).1 = 1 ∧ 0 ≤ (kf V.1 1 (kC V.1 v 1)).toInt ∧ 1 ≤ (kf V.1 1 (kC V.1 v 2)).toInt ∧ (kf V.1 1 (kC V.1 v 1)).toInt + (kf V.1 1 (kC V.1 v 2)).toInt ≤ (kOf V.1 kS kV (kC V.1 v 0)).2.toInt))
def gSr (V : ENV) (kS kV : Nat → Int32 × Int32) (v : Int32) : Prop :=
  (kf V.1 0 v = 30 → (0 ≤ (kf V.1 1 v).toInt ∧ (kf V.1 1 v).toInt ≤ 2) ∧ gTh V kS kV 80 (kC V.1 v 0) ∧ (kf V.1 1 v = 2 → gTV V kS kV (kC V.1 v 1)) ∧ ∀ i, asF V v ≤ i → (i : Int) < (kf V.1 6 v).toInt → gEV V kS kV (kC V.1 (kC V.1 v i) 0) ∧ gTV V kS kV (kC V.1 (kC V.1 v i) 1)) ∧
  (kf V.1 0 v = 33 → gTh V kS kV 81 (kC V.1 v 0) ∧ gEV V kS kV (kC V.1 v 1)) ∧
  (kf V.1 0 v = 34 → 2 ≤ (kf V.1 6 v).toInt ∧ ∀ i : Nat, (i : Int) < (kf V.1 6 v).toInt → (i % 2 = 0 → (i : Int) + 1 < (kf V.1 6 v).toInt → gEV V kS kV (kC V.1 v i)) ∧ (i % 2 = 1 ∨ (i : Int) + 1 = (kf V.1 6 v).toInt → bdy V.1 (kC V.1 v i))) ∧
  (kf V.1 0 v = 35 → gEV V kS kV (kC V.1 v 0) ∧ ∀ i : Nat, 1 ≤ i → (i : Int) < (kf V.1 6 v).toInt → kf V.1 0 (kC V.1 v i) = 36 ∧ bdy V.1 (kC V.1 (kC V.1 v i) 1) ∧ ∀ j : Nat, (j : Int) < (kf V.1 6 (kC V.1 (kC V.1 v i) 0)).toInt → kf V.1 0 (kC V.1 (kC V.1 (kC V.1 v i) 0) j) = 37 ∨ ((kf V.1 0 (kC V.1 (kC V.1 (kC V.1 v i) 0) j) = 2 ∨ kf V.1 0 (kC V.1 (kC V.1 (kC V.1 v i) 0) j) = 3 ∨ kf V.1 0 (kC V.1 (kC V.1 (kC V.1 v i) 0) j) = 4) ∧ gEV V kS kV (kC V.1 (kC V.1 (kC V.1 v i) 0) j))) ∧
  (kf V.1 0 v = 38 ∨ kf V.1 0 v = 39 → gEV V kS kV (kC V.1 v 1) ∧ gEV V kS kV (kC V.1 v 2) ∧ bdy V.1 (kC V.1 v 3)) ∧
  (kf V.1 0 v = 40 → gEV V kS kV (kC V.1 v 0) ∧ bdy V.1 (kC V.1 v 1)) ∧
  (kf V.1 0 v = 41 → bdy V.1 (kC V.1 v 0)) ∧
  (kf V.1 0 v = 42 ∨ kf V.1 0 v = 43 → kf V.1 0 (kC V.1 v 0) = 0 ∨ gEV V kS kV (kC V.1 v 0)) ∧
  (kf V.1 0 v = 44 → (kf V.1 0 (kC V.1 v 1) = 0 ∨ gEV V kS kV (kC V.1 v 1)) ∧ gTV V kS kV (kC V.1 v 2) ∧ rgN V.1 (kC V.1 v 0)) ∧
  (kf V.1 0 v = 46 → gEV V kS kV (kC V.1 v 0)) ∧
  (kf V.1 0 v = 47 → gEV V kS kV (kC V.1 v 0) ∧ gEV V kS kV (kC V.1 v 1))
section Ya
variable {σ : rS} {l2 l4 : List AV} {v k : Int32} {n nS' : Nat} {kS' kV : Nat → Int32 × Int32} {eS' : Nat → TS}
theorem gX_E {T : KT} {nV : Nat} (g : gX T nS' nV kS' kV v) (hk : ¬ kf T 0 v = 0) (hk2 : ¬ kf T 0 v = 32) : gE T nS' nV kS' kV 101 v := by
  rcases g with g | g
  · exact g.1
  · rcases g.2 with ⟨q, -⟩ | ⟨q, -⟩
    · exact absurd q hk
    · exact absurd q hk2
theorem isX_0 (hx : isX k.toInt) : ¬ k = 0 ∧ ¬ k = 32 := by
  constructor <;> (intro e; rw [e] at hx; revert hx; unfold isX; decide)
theorem gX_T {T : KT} {nV : Nat} (g : gX T nS' nV kS' kV v) (hk : kf T 0 v = 0 ∨ kf T 0 v = 32) : gT T nS' nV kS' kV 100 v := by
  rcases g with ⟨g, -⟩ | g
  · rcases hk with q | q <;> (have := g.2.1; rw [q] at this; exact absurd this (by decide))
  · exact g
theorem ge_x (OK : ∀ j : Int, 0 ≤ j → j < (σ.1 19).toInt → okN σ j) (D : DI σ) (N : 0 ≤ (σ.1 7).toInt ∧ 0 ≤ (σ.1 9).toInt) (hS : ∀ i, i < (σ.1 7).toInt.toNat → kS' i = kSg σ i) (hn : (σ.1 7).toInt.toNat ≤ nS') (hV : ∀ i, i < (σ.1 9).toInt.toNat → kV i = kSg σ (9216 + i)) {i : Nat} (hv : rgN (kT σ l2 l4) v) (hi : (i : Int) < (kf (kT σ l2 l4) 6 v).toInt) (hx : isX (kO σ (cO σ v i)).toInt) : gE (kT σ l2 l4) nS' (σ.1 9).toInt.toNat kS' kV 101 (kC (kT σ l2 l4) v i) := by
  obtain ⟨a, -⟩ := tk_h D hv hi
  rw [tk_c hv, tk_k a] at hx
  have h1 := (ok_ri OK D a).1
  exact g_E OK D N hS hn hV 101 _ a (by omega) hx
theorem gt_x (OK : ∀ j : Int, 0 ≤ j → j < (σ.1 19).toInt → okN σ j) (D : DI σ) (N : 0 ≤ (σ.1 7).toInt ∧ 0 ≤ (σ.1 9).toInt) (hS : ∀ i, i < (σ.1 7).toInt.toNat → kS' i = kSg σ i) (hn : (σ.1 7).toInt.toNat ≤ nS') (hV : ∀ i, i < (σ.1 9).toInt.toNat → kV i = kSg σ (9216 + i)) {i : Nat} (hv : rgN (kT σ l2 l4) v) (hi : (i : Int) < (kf (kT σ l2 l4) 6 v).toInt) (hx : kO σ (cO σ v i) = 32 ∨ kO σ (cO σ v i) = 0) : gT (kT σ l2 l4) nS' (σ.1 9).toInt.toNat kS' kV 100 (kC (kT σ l2 l4) v i) := by
  have g := gx_t (l2 := l2) (l4 := l4) OK D N hS hn hV hv hi hx
  obtain ⟨a, -⟩ := tk_h D hv hi
  rw [tk_c hv, tk_k a] at hx
  exact gX_T g hx.symm
theorem bd_y (D : DI σ) {i : Nat} (hv : rgN (kT σ l2 l4) v) (hi : (i : Int) < (kf (kT σ l2 l4) 6 v).toInt) (hb : isB σ (cO σ v i)) : bdy (kT σ l2 l4) (kC (kT σ l2 l4) v i) := by
  obtain ⟨a, -⟩ := tk_h D hv hi
  unfold isB at hb
  rw [tk_c hv, tk_k a] at hb
  refine ⟨a, hb.1, fun j hj => ?_⟩
  obtain ⟨a2, -⟩ := tk_h (l2 := l2) (l4 := l4) D a hj
  have := hb.2 j (Nat.zero_le _) (by rw [tk_m a]; exact hj)
  rw [tk_c a, tk_k a2] at this
  exact this
theorem g_th (OK : ∀ j : Int, 0 ≤ j → j < (σ.1 19).toInt → okN σ j) (D : DI σ) (N : 0 ≤ (σ.1 7).toInt ∧ 0 ≤ (σ.1 9).toInt) (hS : ∀ i, i < (σ.1 7).toInt.toNat → kS' i = kSg σ i) (hn : (σ.1 7).toInt.toNat ≤ nS') (hV : ∀ i, i < (σ.1 9).toInt.toNat → kV i = kSg σ (9216 + i)) {i : Nat} (k80 : k = 80 ∨ k = 81) (hv : rgN (kT σ l2 l4) v) (hi : (i : Int) < (kf (kT σ l2 l4) 6 v).toInt) (t : tgK σ (cO σ v i) k) : gTh (kT σ l2 l4, nS', eS', (σ.1 9).toInt.toNat) kS' kV k (kC (kT σ l2 l4) v i) := by
  obtain ⟨a, -⟩ := tk_h D hv hi
  rw [tk_c hv] at t
  unfold tgK at t
  rw [tk_k a, tk_c a] at t
  have R := (ok_ri OK D a).2
  refine ⟨a, ?_⟩
  rcases t with t | ⟨t | t, t2⟩
  · have hx : isX (kO σ (kC (kT σ l2 l4) v i)).toInt := by
      rw [tk_k a, t]
      rcases k80 with rfl | rfl <;> (unfold isX; decide)
    have B := ex_B R hx
    rw [tk_k a, t] at B
    have B : mO σ (kC (kT σ l2 l4) v i) = 0 ∧ tOK σ (kC (kT σ l2 l4) v i) := by rcases k80 with rfl | rfl <;> exact B
    exact Or.inl ⟨t, g_o N hn a B.2⟩
  · have B := ex_B R (by rw [tk_k a, t]; unfold isX; decide)
    rw [tk_k a, t] at B
    have B : gO σ (kC (kT σ l2 l4) v i) = 0 ∧ mO σ (kC (kT σ l2 l4) v i) = 2 ∧ (tOK σ (cO σ (kC (kT σ l2 l4) v i) 0) ∧ tF σ (cO σ (kC (kT σ l2 l4) v i) 0) 0 = 1) ∧ isX (kO σ (cO σ (kC (kT σ l2 l4) v i) 1)).toInt := B
    obtain ⟨-, b2, ⟨b3, b4⟩, b5⟩ := B
    rw [tk_m a] at b2
    have l : ((0 : Nat) : Int) < (kf (kT σ l2 l4) 6 (kC (kT σ l2 l4) v i)).toInt := by rw [b2]; decide
    have l' : ((1 : Nat) : Int) < (kf (kT σ l2 l4) 6 (kC (kT σ l2 l4) v i)).toInt := by rw [b2]; decide
    obtain ⟨a2, -⟩ := tk_h (l2 := l2) (l4 := l4) D a l
    rw [tk_c a] at b3 b4
    rw [tk_k a2] at t2
    exact Or.inr (Or.inl ⟨t, b2, g_o N hn a2 b3, t2, (tk_o N hS hV a2 b3).1.trans b4, ge_x OK D N hS hn hV a l' b5⟩)
  · have B := ex_B R (by rw [tk_k a, t]; unfold isX; decide)
    rw [tk_k a, t] at B
    have B : gO σ (kC (kT σ l2 l4) v i) = 0 ∧ mO σ (kC (kT σ l2 l4) v i) = 3 ∧ paP σ (kC (kT σ l2 l4) v i) := B
    obtain ⟨-, b2, b3⟩ := B
    rw [tk_m a] at b2
    have l : ((0 : Nat) : Int) < (kf (kT σ l2 l4) 6 (kC (kT σ l2 l4) v i)).toInt := by rw [b2]; decide
    have l' : ((1 : Nat) : Int) < (kf (kT σ l2 l4) 6 (kC (kT σ l2 l4) v i)).toInt := by rw [b2]; decide
    have l'' : ((2 : Nat) : Int) < (kf (kT σ l2 l4) 6 (kC (kT σ l2 l4) v i)).toInt := by rw [b2]; decide
    obtain ⟨a2, -⟩ := tk_h (l2 := l2) (l4 := l4) D a l
    obtain ⟨a3, -⟩ := tk_h (l2 := l2) (l4 := l4) D a l'
    obtain ⟨a4, -⟩ := tk_h (l2 := l2) (l4 := l4) D a l''
    unfold paP at b3
    rw [tk_c a, tk_c a, tk_c a] at b3
    obtain ⟨p1, p2, -, -, p5, p6, p7⟩ := b3
    rw [tk_g a3] at p5 p7
    rw [tk_g a4] at p6 p7
    rw [tk_k a2] at t2
    obtain ⟨o1, o2⟩ := tk_o (l2 := l2) (l4 := l4) N hS hV a2 p1
    have fin : (kf (kT σ l2 l4) 1 (kC (kT σ l2 l4) (kC (kT σ l2 l4) v i) 1)).toInt + (kf (kT σ l2 l4) 1 (kC (kT σ l2 l4) (kC (kT σ l2 l4) v i) 2)).toInt ≤ (kOf (kT σ l2 l4) kS' kV (kC (kT σ l2 l4) (kC (kT σ l2 l4) v i) 0)).2.toInt := by
      rw [o2]
      omega
    exact Or.inr (Or.inr ⟨t, b2, g_o N hn a2 p1, t2, o1.trans p2, p5, p6, fin⟩)
theorem g_Sr (OK : ∀ j : Int, 0 ≤ j → j < (σ.1 19).toInt → okN σ j) (D : DI σ) (N : 0 ≤ (σ.1 7).toInt ∧ 0 ≤ (σ.1 9).toInt) (hS : ∀ i, i < (σ.1 7).toInt.toNat → kS' i = kSg σ i) (hn : (σ.1 7).toInt.toNat ≤ nS') (hV : ∀ i, i < (σ.1 9).toInt.toNat → kV i = kSg σ (9216 + i)) (hv : rgN (kT σ l2 l4) v) : gSr (kT σ l2 l4, nS', eS', (σ.1 9).toInt.toNat) kS' kV v := by
  have R := (ok_ri OK D hv).2
  have st : ∀ e : Int32, kf (kT σ l2 l4) 0 v = e → ¬ isX e.toInt → ¬ e = 30 → ¬ e = 32 → stB σ v e := fun e q h1 h2 h3 => by
    have := (st_B R (by rw [tk_k hv, q]; exact h1) (by rw [tk_k hv, q]; exact h2) (by rw [tk_k hv, q]; exact h3)).2
    rw [tk_k hv, q] at this
    exact this
  refine ⟨fun q => ?_, fun q => ?_, fun q => ?_, fun q => ?_, fun q => ?_, fun q => ?_, fun q => ?_, fun q => ?_, fun q => ?_, fun q => ?_, fun q => ?_⟩
  · have q : kf (kT σ l2 l4) 0 v = 30 := q
    unfold riP at R
    rw [tk_k hv, if_neg (by rw [q]; decide), if_pos q] at R
    unfold asP wvP at R
    rw [tk_g hv, tk_m hv] at R
    obtain ⟨r1, r2, r3, r4, r5, r6⟩ := R
    have ef : (if kf (kT σ l2 l4) 1 v = 2 then (2 : Int32) else 1).toInt = asF (kT σ l2 l4, nS', eS', (σ.1 9).toInt.toNat) v := by
      show _ = ((if kf (kT σ l2 l4) 1 v = 2 then 2 else 1 : Nat) : Int)
      by_cases c : kf (kT σ l2 l4) 1 v = 2
      · rw [if_pos c, if_pos c]; rfl
      · rw [if_neg c, if_neg c]; rfl
    have l0 : ((0 : Nat) : Int) < (kf (kT σ l2 l4) 6 v).toInt := by
      have : asF (kT σ l2 l4, nS', eS', (σ.1 9).toInt.toNat) v = 1 ∨ asF (kT σ l2 l4, nS', eS', (σ.1 9).toInt.toNat) v = 2 := by
        unfold asF
        split
        · exact Or.inr rfl
        · exact Or.inl rfl
      omega
    refine ⟨r1, g_th OK D N hS hn hV (Or.inl rfl) hv l0 r2, fun c => ?_, fun i i1 i2 => ?_⟩
    · have c : kf (kT σ l2 l4) 1 v = 2 := c
      rw [if_pos c] at r3 r4
      have z2 : (2 : Int32).toInt = 2 := rfl
      exact gt_x OK D N hS hn hV hv (by omega) (Or.inl (r3.resolve_left (by decide)))
    · have i2 : (i : Int) < (kf (kT σ l2 l4) 6 v).toInt := i2
      have q31 : kO σ (cO σ v i) = 31 := r6 i (by omega) (by rw [tk_m hv]; exact i2)
      obtain ⟨a, -⟩ := tk_h D hv i2
      rw [tk_c hv, tk_k a] at q31
      have B := (st_B (ok_ri OK D a).2 (by rw [tk_k a, q31]; unfold isX; decide) (by rw [tk_k a, q31]; decide) (by rw [tk_k a, q31]; decide)).2
      rw [tk_k a, q31] at B
      have B : mO σ (kC (kT σ l2 l4) v i) = 2 ∧ isX (kO σ (cO σ (kC (kT σ l2 l4) v i) 0)).toInt ∧ (kO σ (cO σ (kC (kT σ l2 l4) v i) 1) = 32 ∨ kO σ (cO σ (kC (kT σ l2 l4) v i) 1) = 0) := B
      obtain ⟨b1, b2, b3⟩ := B
      rw [tk_m a] at b1
      exact ⟨ge_x OK D N hS hn hV a (by rw [b1]; decide) b2, gt_x OK D N hS hn hV a (by rw [b1]; decide) b3⟩
  · have B : mO σ v = 2 ∧ tgK σ (cO σ v 0) 81 ∧ isX (kO σ (cO σ v 1)).toInt := st 33 q (by unfold isX; decide) (by decide) (by decide)
    obtain ⟨b1, b2, b3⟩ := B
    rw [tk_m hv] at b1
    exact ⟨g_th OK D N hS hn hV (Or.inr rfl) hv (by rw [b1]; decide) b2, ge_x OK D N hS hn hV hv (by rw [b1]; decide) b3⟩
  · have B : ifP σ v (mO σ v).toInt 0 := st 34 q (by unfold isX; decide) (by decide) (by decide)
    rw [tk_m hv] at B
    obtain ⟨B1, B2, B3⟩ := B
    refine ⟨B2, fun i hi => ⟨fun i1 i2 => ?_, fun hb => ?_⟩⟩
    · have i2 : (i : Int) + 1 < (kf (kT σ l2 l4) 6 v).toInt := i2
      have b := (B1 (i / 2) (by omega)).1
      rw [show 0 + 2 * (i / 2) = i by omega] at b
      exact ge_x OK D N hS hn hV hv (by omega) b
    · have hi : (i : Int) < (kf (kT σ l2 l4) 6 v).toInt := hi
      have hb : i % 2 = 1 ∨ (i : Int) + 1 = (kf (kT σ l2 l4) 6 v).toInt := hb
      by_cases c : i % 2 = 1
      · have b := (B1 (i / 2) (by omega)).2
        rw [show 0 + 2 * (i / 2) + 1 = i by omega] at b
        exact bd_y D hv hi b
      · have e := hb.resolve_left c
        have b := B3.resolve_left (by omega)
        rw [show ((kf (kT σ l2 l4) 6 v).toInt - 1).toNat = i by omega] at b
        exact bd_y D hv hi b
  · have B : ¬ mO σ v < 2 ∧ isX (kO σ (cO σ v 0)).toInt ∧ kA σ v 1 (fun k => k = 36) := st 35 q (by unfold isX; decide) (by decide) (by decide)
    obtain ⟨b1, b2, b3⟩ := B
    have z2 : (2 : Int32).toInt = 2 := rfl
    have b1 := nlt_i b1
    rw [tk_m hv] at b1
    refine ⟨ge_x OK D N hS hn hV hv (by omega) b2, fun i i1 i2 => ?_⟩
    have i2 : (i : Int) < (kf (kT σ l2 l4) 6 v).toInt := i2
    have q36 : kO σ (cO σ v i) = 36 := b3 i i1 (by rw [tk_m hv]; exact i2)
    obtain ⟨a, -⟩ := tk_h D hv i2
    rw [tk_c hv, tk_k a] at q36
    have B := (st_B (ok_ri OK D a).2 (by rw [tk_k a, q36]; unfold isX; decide) (by rw [tk_k a, q36]; decide) (by rw [tk_k a, q36]; decide)).2
    rw [tk_k a, q36] at B
    have B : mO σ (kC (kT σ l2 l4) v i) = 2 ∧ (kO σ (cO σ (kC (kT σ l2 l4) v i) 0) = 48 ∧ 1 ≤ (mO σ (cO σ (kC (kT σ l2 l4) v i) 0)).toInt ∧ kA σ (cO σ (kC (kT σ l2 l4) v i) 0) 0 (fun k => isC k.toInt)) ∧ isB σ (cO σ (kC (kT σ l2 l4) v i) 1) := B
    obtain ⟨c1, ⟨c2, -, c3⟩, c4⟩ := B
    rw [tk_m a] at c1
    have l : ((0 : Nat) : Int) < (kf (kT σ l2 l4) 6 (kC (kT σ l2 l4) v i)).toInt := by rw [c1]; decide
    obtain ⟨a2, -⟩ := tk_h (l2 := l2) (l4 := l4) D a l
    rw [tk_c a] at c2 c3
    refine ⟨q36, bd_y D a (by rw [c1]; decide) c4, fun j hj => ?_⟩
    have hj : (j : Int) < (kf (kT σ l2 l4) 6 (kC (kT σ l2 l4) (kC (kT σ l2 l4) v i) 0)).toInt := hj
    have cj : isC (kO σ (cO σ (kC (kT σ l2 l4) (kC (kT σ l2 l4) v i) 0) j)).toInt := c3 j (Nat.zero_le _) (by rw [tk_m a2]; exact hj)
    obtain ⟨a3, -⟩ := tk_h (l2 := l2) (l4 := l4) D a2 hj
    have cj' : isC (kf (kT σ l2 l4) 0 (kC (kT σ l2 l4) (kC (kT σ l2 l4) (kC (kT σ l2 l4) v i) 0) j)).toInt := by
      have := cj
      rw [tk_c a2, tk_k a3] at this
      exact this
    unfold isC at cj'
    rcases cj' with e | e | e | e
    · refine Or.inr ⟨Or.inl (Int32.toInt_inj.mp e), ge_x OK D N hS hn hV a2 hj ?_⟩
      rw [tk_c a2, tk_k a3, e]
      unfold isX
      omega
    · refine Or.inr ⟨Or.inr (Or.inl (Int32.toInt_inj.mp e)), ge_x OK D N hS hn hV a2 hj ?_⟩
      rw [tk_c a2, tk_k a3, e]
      unfold isX
      omega
    · refine Or.inr ⟨Or.inr (Or.inr (Int32.toInt_inj.mp e)), ge_x OK D N hS hn hV a2 hj ?_⟩
      rw [tk_c a2, tk_k a3, e]
      unfold isX
      omega
    · exact Or.inl (Int32.toInt_inj.mp e)
  · have q' : kf (kT σ l2 l4) 0 v = 38 ∨ kf (kT σ l2 l4) 0 v = 39 := q
    have B : stA σ v := by
      rcases q' with e | e
      · exact st 38 e (by unfold isX; decide) (by decide) (by decide)
      · exact st 39 e (by unfold isX; decide) (by decide) (by decide)
    unfold stA at B
    obtain ⟨b1, -, -, b5, b6, b7⟩ := B
    rw [tk_m hv] at b1
    exact ⟨ge_x OK D N hS hn hV hv (by rw [b1]; decide) b5, ge_x OK D N hS hn hV hv (by rw [b1]; decide) b6, bd_y D hv (by rw [b1]; decide) b7⟩
  · have B : mO σ v = 2 ∧ isX (kO σ (cO σ v 0)).toInt ∧ isB σ (cO σ v 1) := st 40 q (by unfold isX; decide) (by decide) (by decide)
    obtain ⟨b1, b2, b3⟩ := B
    rw [tk_m hv] at b1
    exact ⟨ge_x OK D N hS hn hV hv (by rw [b1]; decide) b2, bd_y D hv (by rw [b1]; decide) b3⟩
  · have B : mO σ v = 1 ∧ isB σ (cO σ v 0) := st 41 q (by unfold isX; decide) (by decide) (by decide)
    rw [tk_m hv] at B
    exact bd_y D hv (by rw [B.1]; decide) B.2
  · have q' : kf (kT σ l2 l4) 0 v = 42 ∨ kf (kT σ l2 l4) 0 v = 43 := q
    have B : stE σ v := by
      rcases q' with e | e
      · exact st 42 e (by unfold isX; decide) (by decide) (by decide)
      · exact st 43 e (by unfold isX; decide) (by decide) (by decide)
    unfold stE at B
    obtain ⟨b1, b2, -⟩ := B
    rw [tk_m hv] at b1
    have l : ((0 : Nat) : Int) < (kf (kT σ l2 l4) 6 v).toInt := by rw [b1]; decide
    obtain ⟨a, -⟩ := tk_h (l2 := l2) (l4 := l4) D hv l
    rcases b2 with b2 | b2
    · exact Or.inr (ge_x OK D N hS hn hV hv l b2)
    · rw [tk_c hv, tk_k a] at b2
      exact Or.inl b2
  · have B : mO σ v = 3 ∧ (kO σ (cO σ v 0) = 48 ∧ kA σ (cO σ v 0) 0 (fun k => k = 80)) ∧ (isX (kO σ (cO σ v 1)).toInt ∨ kO σ (cO σ v 1) = 0) ∧ (kO σ (cO σ v 2) = 32 ∨ kO σ (cO σ v 2) = 0) := st 44 q (by unfold isX; decide) (by decide) (by decide)
    obtain ⟨b1, -, b3, b4⟩ := B
    rw [tk_m hv] at b1
    have l1' : ((1 : Nat) : Int) < (kf (kT σ l2 l4) 6 v).toInt := by rw [b1]; decide
    obtain ⟨a1, -⟩ := tk_h (l2 := l2) (l4 := l4) D hv l1'
    refine ⟨?_, gt_x OK D N hS hn hV hv (by rw [b1]; decide) b4, (tk_h D hv (i := 0) (by rw [b1]; decide)).1⟩
    rcases b3 with b3 | b3
    · exact Or.inr (ge_x OK D N hS hn hV hv l1' b3)
    · rw [tk_c hv, tk_k a1] at b3
      exact Or.inl b3
  · have B : mO σ v = 1 ∧ isX (kO σ (cO σ v 0)).toInt := st 46 q (by unfold isX; decide) (by decide) (by decide)
    obtain ⟨b1, b2⟩ := B
    rw [tk_m hv] at b1
    exact ge_x OK D N hS hn hV hv (by rw [b1]; decide) b2
  · have B : mO σ v = 2 ∧ isX (kO σ (cO σ v 0)).toInt ∧ isX (kO σ (cO σ v 1)).toInt := st 47 q (by unfold isX; decide) (by decide) (by decide)
    obtain ⟨b1, b2, b3⟩ := B
    rw [tk_m hv] at b1
    exact ⟨ge_x OK D N hS hn hV hv (by rw [b1]; decide) b2, ge_x OK D N hS hn hV hv (by rw [b1]; decide) b3⟩
end Ya
