/-! WHAT IS TOLD -/
section Ye
variable {a : Nat → WD} {b : Nat → Int64} {τ : TD} {σ σ' : rS}
theorem tv_e : ∀ (n i : Nat) (t : TD), n ≤ 500 → 0 ≤ (t.2.2.1 5 (t.1 - 1)).toInt → (t.2.2.1 5 (t.1 - 1)).toInt + n ≤ 1000 → (tvL a b n i t).1 = t.1 ∧ (tvL a b n i t).2.1 = t.2.1 + n ∧ (∀ j k, j ≠ 5 ∨ k ≠ t.1 - 1 → (tvL a b n i t).2.2.1 j k = t.2.2.1 j k) ∧ ((tvL a b n i t).2.2.1 5 (t.1 - 1)).toInt = (t.2.2.1 5 (t.1 - 1)).toInt + n ∧ (tvL a b n i t).2.2.2.1 = t.2.2.2.1 ∧ (∀ w, w < t.2.1 → (tvL a b n i t).2.2.2.2.1 w = t.2.2.2.2.1 w ∧ (tvL a b n i t).2.2.2.2.2 w = t.2.2.2.2.2 w) ∧ ∀ j, j < n → (tvL a b n i t).2.2.2.2.1 (t.2.1 + j) = b (i + j) ∧ (tvL a b n i t).2.2.2.2.2 (t.2.1 + j) = a (i + j) := by
  intro n
  induction n with
  | zero => intro i t _ _ _; exact ⟨rfl, rfl, fun _ _ _ => rfl, by show (t.2.2.1 5 (t.1 - 1)).toInt = _ + ((0 : Nat) : Int); omega, rfl, fun _ _ => ⟨rfl, rfl⟩, fun j hj => absurd hj (Nat.not_lt_zero _)⟩
  | succ n ih =>
    intro i t h5 h0 h1
    have e1 : (1 : Int32).toInt = 1 := rfl
    have eq5 : (tVal t (a i) (b i)).2.2.1 5 ((tVal t (a i) (b i)).1 - 1) = t.2.2.1 5 (t.1 - 1) + 1 := up2_eq
    have ei : (t.2.2.1 5 (t.1 - 1) + 1).toInt = (t.2.2.1 5 (t.1 - 1)).toInt + 1 := by rw [ad_i (by omega) (by omega), e1]
    obtain ⟨c1, c2, c3, c4, c5, c6, c7⟩ := ih (i + 1) (tVal t (a i) (b i)) (by omega) (by rw [eq5, ei]; omega) (by rw [eq5, ei]; omega)
    rw [eq5, ei] at c4
    have c2 : (tvL a b n (i + 1) (tVal t (a i) (b i))).2.1 = t.2.1 + 1 + n := c2
    have c4 : ((tvL a b n (i + 1) (tVal t (a i) (b i))).2.2.1 5 (t.1 - 1)).toInt = (t.2.2.1 5 (t.1 - 1)).toInt + 1 + n := c4
    refine ⟨c1, by show (tvL a b n (i + 1) (tVal t (a i) (b i))).2.1 = t.2.1 + (n + 1); omega, fun j k hj => (c3 j k hj).trans ?_, by show ((tvL a b n (i + 1) (tVal t (a i) (b i))).2.2.1 5 (t.1 - 1)).toInt = _ + ((n + 1 : Nat) : Int); omega, c5, fun w hw => ?_, fun j hj => ?_⟩
    · rcases hj with hj | hj
      · exact up2_nj hj
      · exact up2_ni hj
    · obtain ⟨d1, d2⟩ := c6 w (by show w < t.2.1 + 1; omega)
      exact ⟨d1.trans (upS_ne (by omega)), d2.trans (upS_ne (by omega))⟩
    · cases j with
      | zero =>
        obtain ⟨d1, d2⟩ := c6 t.2.1 (by show t.2.1 < t.2.1 + 1; omega)
        exact ⟨d1.trans upS_eq, d2.trans upS_eq⟩
      | succ j =>
        obtain ⟨d1, d2⟩ := c7 j (by omega)
        rw [show t.2.1 + (j + 1) = (tVal t (a i) (b i)).2.1 + j by show _ = t.2.1 + 1 + j; omega, show i + (j + 1) = i + 1 + j by omega]
        exact ⟨d1, d2⟩
/-- one act more, with n values -/
theorem TA_n {n : Nat} {r s f m o : Int32} {l : Int64} (A : TA τ σ) (h2 : τ.1 < 200) (h5 : τ.2.1 + n ≤ 500) (hr : r = 0 ∨ (r = 1 ∧ n = 0)) (g1 : (σ'.1 46).toInt = τ.1 + 1) (g2 : (σ'.1 47).toInt = ((τ.2.1 + n : Nat) : Int)) (i1 : ia σ' 31 τ.1 = r) (i2 : ia σ' 32 τ.1 = s) (i3 : ia σ' 33 τ.1 = f) (i4 : ia σ' 34 τ.1 = m) (i5 : ia σ' 35 τ.1 = o) (i6 : r = 0 → ja σ' 36 τ.1 = l) (i7 : (ia σ' 37 (τ.1 + 1)).toInt = ((τ.2.1 + n : Nat) : Int)) (o1 : ∀ j i, 31 ≤ j → j ≤ 35 → i < τ.1 → ia σ' j i = ia σ j i) (o2 : ∀ i, i < τ.1 → ja σ' 36 i = ja σ 36 i) (o3 : ∀ i, i ≤ τ.1 → ia σ' 37 i = ia σ 37 i) (o4 : ∀ w, w < τ.2.1 → ja σ' 38 w = ja σ 38 w ∧ RW σ' (9344 + w) (τ.2.2.2.2.2 w)) (n1 : ∀ j, j < n → ja σ' 38 (τ.2.1 + j) = b j ∧ RW σ' (9344 + (τ.2.1 + j)) (a j) ∧ WF (a j)) : TA (tvL a b n 0 (tAct τ r s f m o (Nat.toInt32 τ.2.1) l)) σ' := by
  obtain ⟨⟨a1, a2, a3, a4⟩, a5, a6, a7⟩ := A
  have z5 : (tAct τ r s f m o (Nat.toInt32 τ.2.1) l).2.2.1 5 τ.1 = 0 := by
    simp [tAct, up2]
  have zz : (0 : Int32).toInt = 0 := rfl
  have et : (tAct τ r s f m o (Nat.toInt32 τ.2.1) l).1 - 1 = τ.1 := Nat.add_sub_cancel ..
  obtain ⟨c1, c2, c3, c4, c5, c6, c7⟩ := tv_e (a := a) (b := b) n 0 (tAct τ r s f m o (Nat.toInt32 τ.2.1) l) (by omega) (by rw [et, z5, zz]; omega) (by rw [et, z5, zz]; omega)
  rw [et, z5, zz] at c4
  rw [et] at c3
  have q1 : (tvL a b n 0 (tAct τ r s f m o (Nat.toInt32 τ.2.1) l)).1 = τ.1 + 1 := c1
  have q2 : (tvL a b n 0 (tAct τ r s f m o (Nat.toInt32 τ.2.1) l)).2.1 = τ.2.1 + n := c2
  -- the act's own fields
  have w : ∀ j, j < 7 → (tAct τ r s f m o (Nat.toInt32 τ.2.1) l).2.2.1 j τ.1 = (if j = 0 then r else if j = 1 then s else if j = 2 then f else if j = 3 then m else if j = 4 then o else if j = 5 then 0 else Nat.toInt32 τ.2.1) := by
    intro j hj
    have : j = 0 ∨ j = 1 ∨ j = 2 ∨ j = 3 ∨ j = 4 ∨ j = 5 ∨ j = 6 := by omega
    rcases this with rfl | rfl | rfl | rfl | rfl | rfl | rfl <;> simp [tAct, up2]
  have wo : ∀ j i, i ≠ τ.1 → (tAct τ r s f m o (Nat.toInt32 τ.2.1) l).2.2.1 j i = τ.2.2.1 j i := by
    intro j i hi
    simp [tAct, up2, hi]
  have il : (Nat.toInt32 τ.2.1).toInt = τ.2.1 := i32n (by omega)
  refine ⟨⟨by rw [q1]; exact g1, by rw [q2]; exact g2, by rw [q1]; omega, by rw [q2]; omega⟩, fun i hi => ?_, by rw [q1, q2]; exact i7, fun w' hw => ?_⟩
  · rw [q1] at hi
    by_cases e : i = τ.1
    · rw [e, c3 0 _ (Or.inl (by omega)), c3 1 _ (Or.inl (by omega)), c3 2 _ (Or.inl (by omega)), c3 3 _ (Or.inl (by omega)), c3 4 _ (Or.inl (by omega)), c3 6 _ (Or.inl (by omega)), w 0 (by omega), w 1 (by omega), w 2 (by omega), w 3 (by omega), w 4 (by omega), w 6 (by omega), c5]
      have hr5 : r = 0 ∨ (r = 1 ∧ (tvL a b n 0 (tAct τ r s f m o (Nat.toInt32 τ.2.1) l)).2.2.1 5 τ.1 = 0) := by
        rcases hr with q | ⟨q, q0⟩
        · exact Or.inl q
        · refine Or.inr ⟨q, Int32.toInt_inj.mp ?_⟩
          rw [c4, q0, zz]
          rfl
      refine ⟨i1, i2, i3, i4, i5, fun h0 => ?_, ?_, ?_, ?_, ?_, hr5⟩
      · rw [i6 h0]
        show l = upS τ.2.2.2.1 τ.1 l τ.1
        rw [upS_eq]
      · refine Int32.toInt_inj.mp ?_
        rw [o3 _ (Nat.le_refl _), a6]
        exact il.symm
      · rw [i7, o3 _ (Nat.le_refl _), a6, c4]
        omega
      · rw [o3 _ (Nat.le_refl _), a6]
        omega
      · rw [c4]
        omega
    · have hi : i < τ.1 := by omega
      rw [c3 0 _ (Or.inr e), c3 1 _ (Or.inr e), c3 2 _ (Or.inr e), c3 3 _ (Or.inr e), c3 4 _ (Or.inr e), c3 5 _ (Or.inr e), c3 6 _ (Or.inr e), wo 0 _ e, wo 1 _ e, wo 2 _ e, wo 3 _ e, wo 4 _ e, wo 5 _ e, wo 6 _ e, c5, o1 31 i (by omega) (by omega) hi, o1 32 i (by omega) (by omega) hi, o1 33 i (by omega) (by omega) hi, o1 34 i (by omega) (by omega) hi, o1 35 i (by omega) (by omega) hi, o2 i hi, o3 i (by omega), o3 (i + 1) (by omega)]
      show _ ∧ _ ∧ _ ∧ _ ∧ _ ∧ (_ → _ = upS τ.2.2.2.1 τ.1 l i) ∧ _
      rw [upS_ne e]
      exact a5 i hi
  · rw [q2] at hw
    by_cases e : w' < τ.2.1
    · obtain ⟨d1, d2⟩ := c6 w' e
      rw [d1, d2]
      obtain ⟨p1, p2⟩ := o4 w' e
      exact ⟨p1.trans (a7 w' e).1, p2, (a7 w' e).2.2⟩
    · obtain ⟨d1, d2⟩ := c7 (w' - τ.2.1) (by omega)
      have ew : (tAct τ r s f m o (Nat.toInt32 τ.2.1) l).2.1 + (w' - τ.2.1) = w' := by show τ.2.1 + _ = _; omega
      rw [ew, Nat.zero_add] at d1 d2
      rw [d1, d2]
      have := n1 (w' - τ.2.1) (by omega)
      rw [show τ.2.1 + (w' - τ.2.1) = w' by omega] at this
      exact this
end Ye
