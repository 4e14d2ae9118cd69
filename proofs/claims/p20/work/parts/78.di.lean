/-! THE TREES THAT ARE BEING MADE -/
/-- the children of k, from c on -/
def ck (σ : rS) (k : Int) : Nat → Int → Prop
  | 0, c => c = -1
  | j + 1, c => 0 ≤ c ∧ c < k ∧ (ia σ 13 c.toNat).toInt = k ∧ (ia σ 14 c.toNat).toInt + 1 ≤ (ia σ 14 k.toNat).toInt ∧ ck σ k j ((ia σ 12 c.toNat).toInt)
def DI (σ : rS) : Prop := 0 ≤ (σ.1 19).toInt ∧ (σ.1 19).toInt ≤ 4000 ∧ 0 ≤ (σ.1 21).toInt ∧ (σ.1 21).toInt ≤ (σ.1 19).toInt ∧ (∀ k : Int, 0 ≤ k → k < (σ.1 19).toInt → 0 ≤ (ia σ 10 k.toNat).toInt ∧ (ia σ 10 k.toNat).toInt ≤ k ∧ ck σ k ((ia σ 10 k.toNat).toInt).toNat ((ia σ 11 k.toNat).toInt) ∧ ((ia σ 13 k.toNat).toInt = -1 ∨ (k < (ia σ 13 k.toNat).toInt ∧ (ia σ 13 k.toNat).toInt < (σ.1 19).toInt)) ∧ 1 ≤ (ia σ 14 k.toNat).toInt ∧ (ia σ 14 k.toNat).toInt ≤ k + 1 ∧ ((ia σ 12 k.toNat).toInt = -1 ∨ (0 ≤ (ia σ 12 k.toNat).toInt ∧ (ia σ 12 k.toNat).toInt < (σ.1 19).toInt))) ∧ (∀ j : Nat, (j : Int) < (σ.1 21).toInt → 0 ≤ (ia σ 15 j).toInt ∧ (ia σ 15 j).toInt < (σ.1 19).toInt ∧ (ia σ 13 (ia σ 15 j).toInt.toNat).toInt = -1 ∧ ((j : Int) + 1 < (σ.1 21).toInt → (ia σ 15 j).toInt < (ia σ 15 (j + 1)).toInt) ∧ ((j : Int) + 1 = (σ.1 21).toInt → (ia σ 15 j).toInt + 1 = (σ.1 19).toInt))
/-- a child of k -/
def cOf (σ : rS) (k c : Int) : Prop := 0 ≤ c ∧ c < k ∧ (ia σ 13 c.toNat).toInt = k ∧ (ia σ 14 c.toNat).toInt + 1 ≤ (ia σ 14 k.toNat).toInt
section Di
variable {σ : rS} {k : Int}
theorem ck_chn (hk : k ≤ 4000) : ∀ {j : Nat} {c : Int}, ck σ k j c → cD σ j c := by
  intro j
  induction j with
  | zero => intro c h; exact h
  | succ j ih => intro c h; obtain ⟨h1, h2, -, -, h5⟩ := h; exact ⟨⟨h1, by omega⟩, ih h5⟩
theorem ck_chL (hk : k ≤ 4000) : ∀ {j : Nat} {c : Int}, ck σ k j c → chD σ (cOf σ k) j c := by
  intro j
  induction j with
  | zero => intro c h; exact h
  | succ j ih => intro c h; obtain ⟨h1, h2, h3, h4, h5⟩ := h; exact ⟨⟨h1, by omega⟩, ⟨h1, h2, h3, h4⟩, ih h5⟩
theorem ck_sq : ∀ {j : Nat} {c : Int32}, ck σ k j c.toInt → ∀ i, (i < j → cOf σ k (sq σ i c).toInt ∧ ck σ k (j - i) (sq σ i c).toInt) ∧ (j ≤ i → sq σ i c = -1) := by
  intro j
  induction j with
  | zero =>
    intro c h i
    have e : c = -1 := eq_m1 h
    exact ⟨fun hi => absurd hi (by omega), fun _ => by rw [e]; exact sq_m1 i⟩
  | succ j ih =>
    intro c h i
    cases i with
    | zero => exact ⟨fun _ => ⟨⟨h.1, h.2.1, h.2.2.1, h.2.2.2.1⟩, h⟩, fun hi => absurd hi (by omega)⟩
    | succ i =>
      have e : nx1 σ c = ia σ 12 c.toInt.toNat := if_neg (fun e => by have := congrArg Int32.toInt e; rw [li_m1] at this; have := h.1; omega)
      have h5 : ck σ k j (nx1 σ c).toInt := by rw [e]; exact h.2.2.2.2
      have := ih h5 i
      refine ⟨fun hi => ?_, fun hi => this.2 (by omega)⟩
      obtain ⟨g1, g2⟩ := this.1 (by omega)
      exact ⟨g1, by rw [show j + 1 - (i + 1) = j - i by omega]; exact g2⟩
variable {K : Int}
theorem DI_k (D : DI σ) (h0 : 0 ≤ k) (h1 : k < (σ.1 19).toInt) : vD k ∧ 0 ≤ (ia σ 10 k.toNat).toInt ∧ (ia σ 10 k.toNat).toInt ≤ k ∧ ck σ k ((ia σ 10 k.toNat).toInt).toNat ((ia σ 11 k.toNat).toInt) ∧ ((ia σ 13 k.toNat).toInt = -1 ∨ (k < (ia σ 13 k.toNat).toInt ∧ (ia σ 13 k.toNat).toInt < (σ.1 19).toInt)) ∧ 1 ≤ (ia σ 14 k.toNat).toInt ∧ (ia σ 14 k.toNat).toInt ≤ k + 1 ∧ ((ia σ 12 k.toNat).toInt = -1 ∨ (0 ≤ (ia σ 12 k.toNat).toInt ∧ (ia σ 12 k.toNat).toInt < (σ.1 19).toInt)) := ⟨⟨h0, by have := D.2.1; omega⟩, D.2.2.2.2.1 k h0 h1⟩
theorem DI_ch (D : DI σ) (h0 : 0 ≤ k) (h1 : k < (σ.1 19).toInt) (i : Nat) : ((i : Int) < (ia σ 10 k.toNat).toInt → cOf σ k (ch σ k i).toInt) ∧ ((ia σ 10 k.toNat).toInt ≤ i → ch σ k i = -1) := by
  obtain ⟨-, a1, a2, a3, -⟩ := DI_k D h0 h1
  have := ck_sq (c := ia σ 11 k.toNat) a3 i
  exact ⟨fun hi => (this.1 (by omega)).1, fun hi => this.2 (by omega)⟩
theorem DI_o (D : DI σ) (h0 : 0 ≤ k) (h1 : k < (σ.1 19).toInt) (i : Nat) : oV (ch σ k i) := by
  have := DI_ch D h0 h1 i
  have hN := D.2.1
  by_cases hi : (i : Int) < (ia σ 10 k.toNat).toInt
  · have c := this.1 hi
    exact Or.inr ⟨c.1, by have := c.2.1; omega⟩
  · exact Or.inl (this.2 (by omega))
/-- a child that is there -/
theorem DI_c (D : DI σ) (h0 : 0 ≤ k) (h1 : k < (σ.1 19).toInt) (i : Nat) (hv : vD (ch σ k i).toInt) : cOf σ k (ch σ k i).toInt := by
  have := DI_ch D h0 h1 i
  by_cases hi : (i : Int) < (ia σ 10 k.toNat).toInt
  · exact this.1 hi
  · have e := congrArg Int32.toInt (this.2 (by omega))
    rw [li_m1] at e
    have := hv.1
    omega
theorem DI_cl (D : DI σ) (h0 : 0 ≤ k) (h1 : k < (σ.1 19).toInt) (i : Nat) : ∃ l, cD σ l (ch σ k i).toInt := by
  obtain ⟨-, a1, a2, a3, -⟩ := DI_k D h0 h1
  have hN := D.2.1
  have := ck_sq (c := ia σ 11 k.toNat) a3 i
  by_cases hi : i < ((ia σ 10 k.toNat).toInt).toNat
  · exact ⟨_, ck_chn (by omega) (this.1 hi).2⟩
  · refine ⟨0, ?_⟩
    show (ch σ k i).toInt = -1
    unfold ch
    rw [this.2 (by omega)]
    exact li_m1
theorem DI_b (D : DI σ) (h0 : 0 ≤ k) (h1 : k < (σ.1 19).toInt) (i : Nat) (hv : vD (ch σ k i).toInt) : ∃ l, cD σ l ((ia σ 11 ((ch σ k i).toInt).toNat).toInt) := by
  have c := DI_c D h0 h1 i hv
  have hN := D.2.1
  obtain ⟨-, a1, a2, a3, -⟩ := DI_k D c.1 (by have := c.2.1; omega)
  exact ⟨_, ck_chn (by have := c.2.1; omega) a3⟩
theorem DI_ko (D : DI σ) (h0 : 0 ≤ k) (h1 : k < (σ.1 19).toInt) (i : Nat) (hv : vD (ch σ k i).toInt) : oV (ia σ 11 (ch σ k i).toInt.toNat) := by
  have c := DI_c D h0 h1 i hv
  exact DI_o D c.1 (by have := c.2.1; omega) 0
theorem DI_u (D : DI σ) : ∀ (n : Nat) (k : Int), ((σ.1 19).toInt - k).toNat ≤ n → (k = -1 ∨ (0 ≤ k ∧ k < (σ.1 19).toInt)) → ∃ l, un σ l k := by
  intro n
  induction n with
  | zero =>
    intro k hn hk
    rcases hk with hk | ⟨h0, h1⟩
    · exact ⟨0, hk⟩
    · omega
  | succ n ih =>
    intro k hn hk
    rcases hk with hk | ⟨h0, h1⟩
    · exact ⟨0, hk⟩
    · obtain ⟨a0, -, -, -, a4, -⟩ := DI_k D h0 h1
      rcases a4 with a4 | ⟨a4, a5⟩
      · exact ⟨1, a0, a4⟩
      · obtain ⟨l, hl⟩ := ih ((ia σ 13 k.toNat).toInt) (by omega) (by omega)
        exact ⟨l + 1, a0, hl⟩
theorem DI_un (D : DI σ) (h0 : 0 ≤ k) (h1 : k < (σ.1 19).toInt) : ∃ l, un σ l ((ia σ 13 k.toNat).toInt) := by
  obtain ⟨-, -, -, -, a4, -⟩ := DI_k D h0 h1
  exact DI_u D _ _ (Nat.le_refl _) (by omega)
theorem kO_v {c w : Int32} (hc : oV c) (h : kO σ c = w) (hw : ¬ w = -1) : vD c.toInt ∧ (ia σ 8 c.toInt.toNat).toInt = w.toInt := by
  obtain ⟨h1, h2⟩ := kO_k h hw
  exact ⟨vN_ne hc h1, congrArg Int32.toInt h2⟩
theorem isX_S {k : Int} (h : isX k) (h2 : isS k) : False := by unfold isX isS at *; omega
theorem lg_add {a c e : Int32} (h : (lg_cmp (a.toInt64 + c.toInt64) e.toInt64) ≤ 0) : a.toInt + c.toInt ≤ e.toInt := by
  have ba := bd_i a
  have bc := bd_i c
  have e1 : (a.toInt64 + c.toInt64).toInt = a.toInt + c.toInt := by
    rw [Int64.toInt_add, Int32.toInt_toInt64, Int32.toInt_toInt64]
    exact Int.bmod_eq_of_le (by omega) (by omega)
  have e2 : e.toInt64.toInt = e.toInt := Int32.toInt_toInt64 e
  have c1 : ¬ (a.toInt64 + c.toInt64) > e.toInt64 := fun g => by unfold lg_cmp at h; rw [if_pos g] at h; exact absurd h (by decide)
  have c2 : ¬ e.toInt64.toInt < (a.toInt64 + c.toInt64).toInt := fun g => c1 (Int64.lt_iff_toInt_lt.mpr g)
  omega
end Di
/-- what a right node is: expressions -/
def RE (σ : rS) (k : Int) : Prop := ((ia σ 8 k.toNat).toInt = 4 → 1 ≤ (ia σ 10 k.toNat).toInt ∧ (ia σ 10 k.toNat).toInt ≤ 64) ∧ ((ia σ 8 k.toNat).toInt = 20 → (ia σ 10 k.toNat).toInt = 1 ∧ isX (kO σ (ch σ k 0)).toInt) ∧ ((ia σ 8 k.toNat).toInt = 21 → (ia σ 10 k.toNat).toInt = 2 ∧ isX (kO σ (ch σ k 0)).toInt ∧ isX (kO σ (ch σ k 1)).toInt) ∧ ((ia σ 8 k.toNat).toInt = 80 → 0 ≤ (ia σ 9 k.toNat).toInt ∧ (ia σ 9 k.toNat).toInt < 512) ∧ ((ia σ 8 k.toNat).toInt = 81 → 0 ≤ (ia σ 9 k.toNat).toInt ∧ (ia σ 9 k.toNat).toInt < (σ.1 9).toInt) ∧ ((ia σ 8 k.toNat).toInt = 82 → (ia σ 10 k.toNat).toInt = 2 ∧ isO (kO σ (ch σ k 0)).toInt ∧ isX (kO σ (ch σ k 1)).toInt) ∧ ((ia σ 8 k.toNat).toInt = 83 → (ia σ 10 k.toNat).toInt = 3 ∧ isO (kO σ (ch σ k 0)).toInt ∧ kO σ (ch σ k 1) = 2 ∧ kO σ (ch σ k 2) = 2 ∧ 0 ≤ (ia σ 9 ((ch σ k 1).toInt).toNat).toInt ∧ 1 ≤ (ia σ 9 ((ch σ k 2).toInt).toNat).toInt ∧ (ia σ 9 ((ch σ k 1).toInt).toNat).toInt + (ia σ 9 ((ch σ k 2).toInt).toNat).toInt ≤ 64) ∧ ((ia σ 8 k.toNat).toInt = 84 → (((ia σ 9 k.toNat).toInt = 8 ∨ (ia σ 9 k.toNat).toInt = 9) ∧ (ia σ 10 k.toNat).toInt = 1 ∧ kO σ (ch σ k 0) = 80) ∨ ((ia σ 9 k.toNat).toInt = 10 ∧ (ia σ 10 k.toNat).toInt = 1 ∧ isX (kO σ (ch σ k 0)).toInt) ∨ ((ia σ 9 k.toNat).toInt = 11 ∧ (ia σ 10 k.toNat).toInt = 2 ∧ isX (kO σ (ch σ k 0)).toInt ∧ kO σ (ch σ k 1) = 2 ∧ 1 ≤ (ia σ 9 ((ch σ k 1).toInt).toNat).toInt ∧ (ia σ 9 ((ch σ k 1).toInt).toNat).toInt ≤ 64)) ∧ ((ia σ 8 k.toNat).toInt = 85 → (ia σ 10 k.toNat).toInt = 1 ∧ kO σ (ch σ k 0) = 80)
/-- all behind one another have this kind -/
def alC (σ : rS) (P : Int → Prop) (c : Int) : Prop := ∀ l, cD σ l c → alP σ P l c
/-- statements -/
def RS (σ : rS) (k : Int) : Prop := ((ia σ 8 k.toNat).toInt = 30 → 0 ≤ (ia σ 9 k.toNat).toInt ∧ (ia σ 9 k.toNat).toInt ≤ 2 ∧ aM σ (ch σ k 0) 80 ∧ (((ia σ 9 k.toNat).toInt = 2 ∧ 2 < (ia σ 10 k.toNat).toInt ∧ (ia σ 10 k.toNat).toInt ≤ 18 ∧ kO σ (ch σ k 1) = 32 ∧ alC σ (fun k => k = (31 : Int32).toInt) (ch σ k 2).toInt) ∨ (¬ (ia σ 9 k.toNat).toInt = 2 ∧ 1 < (ia σ 10 k.toNat).toInt ∧ (ia σ 10 k.toNat).toInt ≤ 17 ∧ alC σ (fun k => k = (31 : Int32).toInt) (ch σ k 1).toInt))) ∧ ((ia σ 8 k.toNat).toInt = 33 → (ia σ 10 k.toNat).toInt = 2 ∧ aM σ (ch σ k 0) 81 ∧ isX (kO σ (ch σ k 1)).toInt) ∧ ((ia σ 8 k.toNat).toInt = 34 → 1 < (ia σ 10 k.toNat).toInt ∧ rbF σ ((ia σ 10 k.toNat).toInt).toNat false ((ia σ 11 k.toNat).toInt)) ∧ ((ia σ 8 k.toNat).toInt = 35 → 1 < (ia σ 10 k.toNat).toInt ∧ isX (kO σ (ch σ k 0)).toInt ∧ alC σ (fun k => k = (36 : Int32).toInt) (ch σ k 1).toInt) ∧ ((ia σ 8 k.toNat).toInt = 38 ∨ (ia σ 8 k.toNat).toInt = 39 → (ia σ 10 k.toNat).toInt = 4 ∧ kO σ (ch σ k 0) = 81 ∧ isX (kO σ (ch σ k 1)).toInt ∧ isX (kO σ (ch σ k 2)).toInt ∧ bd σ (ch σ k 3).toInt) ∧ ((ia σ 8 k.toNat).toInt = 40 → (ia σ 10 k.toNat).toInt = 2 ∧ isX (kO σ (ch σ k 0)).toInt ∧ bd σ (ch σ k 1).toInt) ∧ ((ia σ 8 k.toNat).toInt = 41 → (ia σ 10 k.toNat).toInt = 1 ∧ bd σ (ch σ k 0).toInt) ∧ ((ia σ 8 k.toNat).toInt = 42 ∨ (ia σ 8 k.toNat).toInt = 43 → (ia σ 10 k.toNat).toInt = 1 ∧ (isX (kO σ (ch σ k 0)).toInt ∨ kO σ (ch σ k 0) = 0) ∧ ∃ l, un σ l ((ia σ 13 k.toNat).toInt) ∧ iL σ l ((ia σ 13 k.toNat).toInt)) ∧ ((ia σ 8 k.toNat).toInt = 44 → (ia σ 10 k.toNat).toInt = 3 ∧ kO σ (ch σ k 0) = 48 ∧ (isX (kO σ (ch σ k 1)).toInt ∨ kO σ (ch σ k 1) = 0) ∧ (kO σ (ch σ k 2) = 32 ∨ kO σ (ch σ k 2) = 0)) ∧ ((ia σ 8 k.toNat).toInt = 46 → (ia σ 10 k.toNat).toInt = 1 ∧ isX (kO σ (ch σ k 0)).toInt) ∧ ((ia σ 8 k.toNat).toInt = 47 → (ia σ 10 k.toNat).toInt = 2 ∧ isX (kO σ (ch σ k 0)).toInt ∧ isX (kO σ (ch σ k 1)).toInt)
/-- others -/
def RO (σ : rS) (k : Int) : Prop := ((ia σ 8 k.toNat).toInt = 31 → (ia σ 10 k.toNat).toInt = 2 ∧ isX (kO σ (ch σ k 0)).toInt ∧ (kO σ (ch σ k 1) = 0 ∨ kO σ (ch σ k 1) = 32)) ∧ ((ia σ 8 k.toNat).toInt = 32 → (ia σ 10 k.toNat).toInt = 1 ∧ isX (kO σ (ch σ k 0)).toInt) ∧ ((ia σ 8 k.toNat).toInt = 36 → (ia σ 10 k.toNat).toInt = 2 ∧ kO σ (ch σ k 0) = 48 ∧ bd σ (ch σ k 1).toInt ∧ alC σ isC ((ia σ 11 ((ch σ k 0).toInt).toNat).toInt))
def RT (σ : rS) (k : Int) : Prop := (ia σ 14 k.toNat).toInt ≤ 100 ∧ (isX ((ia σ 8 k.toNat).toInt) → RE σ k) ∧ (isS ((ia σ 8 k.toNat).toInt) → RS σ k) ∧ (¬ isX ((ia σ 8 k.toNat).toInt) → ¬ isS ((ia σ 8 k.toNat).toInt) → RO σ k)
