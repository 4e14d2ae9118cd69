/-! CODES OF VALUES -/
def cdW (w : WD) (k : Nat) : Int32 := cdI (tb (w0 w) k) (tb (w1 w) k) (tb (w2 w) k) (tb (w3 w) k)
/-- a value that can be -/
def WF (w : WD) : Prop := (wI w = 0 ∨ wI w = 1 ∨ wI w = 2) ∧ (1 ≤ (wL w).toInt ∧ (wL w).toInt ≤ 64) ∧ (¬ wI w = 1 → wL w = 1) ∧ (wI w = 2 → w0 w = 0 ∧ w1 w = 0 ∧ w2 w = 0 ∧ w3 w = 0 ∧ -2147483647 ≤ (wN w).toInt ∧ (wN w).toInt ≤ 2147483647) ∧ (¬ wI w = 2 → wN w = 0) ∧ (∀ k : Nat, (wL w).toInt ≤ k → tb (w0 w) k = false ∧ tb (w1 w) k = false ∧ tb (w2 w) k = false ∧ tb (w3 w) k = false) ∧ ∀ k, (cdW w k).toInt ≤ 8
section Vc
variable {w v : WD} {k : Nat} {i l f o : Int32} {c0 c1 c2 c3 : Int64}
theorem cd_bd {a b c e : Bool} : 0 ≤ (cdI a b c e).toInt ∧ (cdI a b c e).toInt ≤ 15 := by
  revert a b c e
  decide
theorem cdW_bd : 0 ≤ (cdW w k).toInt ∧ (cdW w k).toInt ≤ 15 := cd_bd
theorem tb_hold {x : Int64} (l0 : 1 ≤ l.toInt) (l1 : l.toInt ≤ 64) : tb (x &&& mkL l) k = (tb x k && decide ((k : Int) < l.toInt)) := by
  rw [tb_and]
  by_cases hk : k < 64
  · rw [tb_mk l0 l1 hk]
    congr 1
    exact decide_eq_decide.mpr (by omega)
  · rw [tb_hi (x := x) (by omega)]
    rfl
theorem cd_hold (l0 : 1 ≤ l.toInt) (l1 : l.toInt ≤ 64) (hk : (k : Int) < l.toInt) : cdW (pHold i l c0 c1 c2 c3) k = cdI (tb c0 k) (tb c1 k) (tb c2 k) (tb c3 k) := by
  show cdI (tb (c0 &&& mkL l) k) (tb (c1 &&& mkL l) k) (tb (c2 &&& mkL l) k) (tb (c3 &&& mkL l) k) = _
  rw [tb_hold l0 l1, tb_hold l0 l1, tb_hold l0 l1, tb_hold l0 l1, decide_eq_true hk, Bool.and_true, Bool.and_true, Bool.and_true, Bool.and_true]
theorem WF_hold (hi : i = 0 ∨ i = 1) (l0 : 1 ≤ l.toInt) (l1 : l.toInt ≤ 64) (hl : i = 0 → l = 1) (hc : ∀ k : Nat, (k : Int) < l.toInt → (cdI (tb c0 k) (tb c1 k) (tb c2 k) (tb c3 k)).toInt ≤ 8) : WF (pHold i l c0 c1 c2 c3) := by
  have n2 : ¬ i = 2 := fun q => by rcases hi with e | e <;> (rw [e] at q; exact absurd q (by decide))
  refine ⟨hi.elim Or.inl (fun e => Or.inr (Or.inl e)), ⟨l0, l1⟩, fun n1 => hl (hi.elim id (fun e => absurd e n1)), fun e => absurd e n2, fun _ => rfl, fun k hk => ?_, fun k => ?_⟩
  · have hk : (l.toInt : Int) ≤ k := hk
    show tb (c0 &&& mkL l) k = false ∧ tb (c1 &&& mkL l) k = false ∧ tb (c2 &&& mkL l) k = false ∧ tb (c3 &&& mkL l) k = false
    rw [tb_hold l0 l1, tb_hold l0 l1, tb_hold l0 l1, tb_hold l0 l1, decide_eq_false (by omega), Bool.and_false, Bool.and_false, Bool.and_false, Bool.and_false]
    exact ⟨rfl, rfl, rfl, rfl⟩
  · by_cases hk : (k : Int) < l.toInt
    · rw [cd_hold l0 l1 hk]
      exact hc k hk
    · show (cdI (tb (c0 &&& mkL l) k) (tb (c1 &&& mkL l) k) (tb (c2 &&& mkL l) k) (tb (c3 &&& mkL l) k)).toInt ≤ 8
      rw [tb_hold l0 l1, tb_hold l0 l1, tb_hold l0 l1, tb_hold l0 l1, decide_eq_false hk, Bool.and_false, Bool.and_false, Bool.and_false, Bool.and_false]
      decide
theorem WF_num {n : Int64} (h0 : -2147483647 ≤ n.toInt) (h1 : n.toInt ≤ 2147483647) : WF (pNum n) := by
  refine ⟨Or.inr (Or.inr rfl), ⟨by show (1 : Int) ≤ 1; omega, by show (1 : Int) ≤ 64; omega⟩, fun _ => rfl, fun _ => ⟨rfl, rfl, rfl, rfl, h0, h1⟩, fun q => absurd rfl q, fun k _ => ⟨tb_0, tb_0, tb_0, tb_0⟩, fun k => ?_⟩
  show (cdI (tb 0 k) (tb 0 k) (tb 0 k) (tb 0 k)).toInt ≤ 8
  rw [tb_0]
  decide
/-- low, high, none of them, of a code's bits -/
theorem cd_lh : ∀ {a b c e : Bool}, (cdI a b c e).toInt ≤ 8 → cLow (cdI a b c e) = (b && !a) ∧ cHigh (cdI a b c e) = (b && a) ∧ ((cdI a b c e = 0) ↔ (a || b || c || e) = false) := by decide
theorem cd_lo (W : WF w) : cLow (cdW w k) = (tb (w1 w) k && !tb (w0 w) k) := (cd_lh (W.2.2.2.2.2.2 k)).1
theorem cd_hi (W : WF w) : cHigh (cdW w k) = (tb (w1 w) k && tb (w0 w) k) := (cd_lh (W.2.2.2.2.2.2 k)).2.1
theorem tb_ones : tb (pOnes w) k = (tb (w1 w) k && tb (w0 w) k) := tb_and
theorem tb_zeros (hk : k < 64) : tb (pZeros w) k = (tb (w1 w) k && !tb (w0 w) k) := by
  show tb (w1 w &&& (w0 w ^^^ (-1))) k = _
  rw [tb_and, tb_not hk]
theorem tb_unset (W : WF w) (hk : (k : Int) < (wL w).toInt) : tb (pUnset w) k = !(tb (w0 w) k || tb (w1 w) k || tb (w2 w) k || tb (w3 w) k) := by
  have l1 := W.2.1.2
  show tb ((((w0 w ||| w1 w) ||| w2 w ||| w3 w) ^^^ (-1)) &&& mkL (wL w)) k = _
  rw [tb_hold W.2.1.1 l1, tb_not (by omega), tb_or, tb_or, tb_or, decide_eq_true hk, Bool.and_true]
theorem cd_settle (W : WF w) (hk : (k : Int) < (wL w).toInt) : cdW (pSettle w (pOnes w) (pZeros w) (pUnset w)) k = cNot (cdW w k) := by
  have l1 := W.2.1.2
  have hk64 : k < 64 := by omega
  have hc := W.2.2.2.2.2.2 k
  unfold pSettle
  rw [cd_hold W.2.1.1 l1 hk, tb_or, tb_not hk64, tb_or, tb_or, tb_ones, tb_zeros hk64, tb_unset W hk, tb_0]
  unfold cdW at hc ⊢
  revert hc
  generalize tb (w0 w) k = a
  generalize tb (w1 w) k = b
  generalize tb (w2 w) k = c
  generalize tb (w3 w) k = e
  revert a b c e
  decide
theorem oj_all : ∀ {o : Fin 6} {a b c e a' b' c' e' : Bool}, (cdI a b c e).toInt ≤ 8 → (cdI a' b' c' e').toInt ≤ 8 →
    cdI (((if pTurned (Int32.ofNat o.1) then (if Int32.ofNat o.1 = 0 ∨ Int32.ofNat o.1 = 2 then (b && !a) || (b' && !a') else if Int32.ofNat o.1 = 1 ∨ Int32.ofNat o.1 = 3 then (b && !a) && (b' && !a') else ((b && !a) && (b' && !a')) || ((b && a) && (b' && a'))) else (if Int32.ofNat o.1 = 0 ∨ Int32.ofNat o.1 = 2 then (b && a) && (b' && a') else if Int32.ofNat o.1 = 1 ∨ Int32.ofNat o.1 = 3 then (b && a) || (b' && a') else ((b && !a) && (b' && a')) || ((b && a) && (b' && !a'))))) || !(((if Int32.ofNat o.1 = 0 ∨ Int32.ofNat o.1 = 2 then (b && !a) || (b' && !a') else if Int32.ofNat o.1 = 1 ∨ Int32.ofNat o.1 = 3 then (b && !a) && (b' && !a') else ((b && !a) && (b' && !a')) || ((b && a) && (b' && a'))) || (if Int32.ofNat o.1 = 0 ∨ Int32.ofNat o.1 = 2 then (b && a) && (b' && a') else if Int32.ofNat o.1 = 1 ∨ Int32.ofNat o.1 = 3 then (b && a) || (b' && a') else ((b && !a) && (b' && a')) || ((b && a) && (b' && !a')))) || (!(a || b || c || e) || !(a' || b' || c' || e')))) ((if Int32.ofNat o.1 = 0 ∨ Int32.ofNat o.1 = 2 then (b && !a) || (b' && !a') else if Int32.ofNat o.1 = 1 ∨ Int32.ofNat o.1 = 3 then (b && !a) && (b' && !a') else ((b && !a) && (b' && !a')) || ((b && a) && (b' && a'))) || (if Int32.ofNat o.1 = 0 ∨ Int32.ofNat o.1 = 2 then (b && a) && (b' && a') else if Int32.ofNat o.1 = 1 ∨ Int32.ofNat o.1 = 3 then (b && a) || (b' && a') else ((b && !a) && (b' && a')) || ((b && a) && (b' && !a')))) false false = cJoin (Int32.ofNat o.1) (cdI a b c e) (cdI a' b' c' e') := by decide +kernel
theorem tb_pZ (hk : k < 64) : tb (pZ o w v) k = if o = 0 ∨ o = 2 then (tb (w1 w) k && !tb (w0 w) k) || (tb (w1 v) k && !tb (w0 v) k) else if o = 1 ∨ o = 3 then (tb (w1 w) k && !tb (w0 w) k) && (tb (w1 v) k && !tb (w0 v) k) else ((tb (w1 w) k && !tb (w0 w) k) && (tb (w1 v) k && !tb (w0 v) k)) || ((tb (w1 w) k && tb (w0 w) k) && (tb (w1 v) k && tb (w0 v) k)) := by
  unfold pZ
  by_cases h1 : o = 0 ∨ o = 2
  · rw [if_pos h1, if_pos h1, tb_or, tb_zeros hk, tb_zeros hk]
  · rw [if_neg h1, if_neg h1]
    by_cases h2 : o = 1 ∨ o = 3
    · rw [if_pos h2, if_pos h2, tb_and, tb_zeros hk, tb_zeros hk]
    · rw [if_neg h2, if_neg h2, tb_or, tb_and, tb_and, tb_zeros hk, tb_zeros hk, tb_ones, tb_ones]
theorem tb_pO (hk : k < 64) : tb (pO o w v) k = if o = 0 ∨ o = 2 then (tb (w1 w) k && tb (w0 w) k) && (tb (w1 v) k && tb (w0 v) k) else if o = 1 ∨ o = 3 then (tb (w1 w) k && tb (w0 w) k) || (tb (w1 v) k && tb (w0 v) k) else ((tb (w1 w) k && !tb (w0 w) k) && (tb (w1 v) k && tb (w0 v) k)) || ((tb (w1 w) k && tb (w0 w) k) && (tb (w1 v) k && !tb (w0 v) k)) := by
  unfold pO
  by_cases h1 : o = 0 ∨ o = 2
  · rw [if_pos h1, if_pos h1, tb_and, tb_ones, tb_ones]
  · rw [if_neg h1, if_neg h1]
    by_cases h2 : o = 1 ∨ o = 3
    · rw [if_pos h2, if_pos h2, tb_or, tb_ones, tb_ones]
    · rw [if_neg h2, if_neg h2, tb_or, tb_and, tb_and, tb_zeros hk, tb_zeros hk, tb_ones, tb_ones]
theorem cd_join (W : WF w) (V : WF v) (h0 : 0 ≤ o.toInt) (h1 : o.toInt ≤ 5) (hl : wL v = wL w) (hk : (k : Int) < (wL w).toInt) : cdW (pHold (wI w) (wL w) ((if pTurned o then pZ o w v else pO o w v) ||| (((pZ o w v ||| pO o w v) ||| (pUnset w ||| pUnset v)) ^^^ (-1))) (pZ o w v ||| pO o w v) 0 0) k = cJoin o (cdW w k) (cdW v k) := by
  have l1 := W.2.1.2
  have hk64 : k < 64 := by omega
  obtain ⟨m, e1, e2⟩ := sh_n h0 (show o.toInt < 64 by omega)
  have hm : m.1 < 6 := by omega
  have A := oj_all (o := ⟨m.1, hm⟩) (W.2.2.2.2.2.2 k) (V.2.2.2.2.2.2 k)
  rw [cd_hold W.2.1.1 l1 hk, tb_or, tb_not hk64, tb_or, tb_or, tb_or, tb_unset W hk, tb_unset V (by rw [hl]; exact hk), tb_pZ hk64, tb_pO hk64, tb_0]
  rw [e1]
  refine Eq.trans ?_ A
  congr 2
  by_cases ht : pTurned (Int32.ofNat m.1) = true
  · rw [if_pos ht, if_pos ht, tb_pZ hk64]
  · rw [if_neg ht, if_neg ht, tb_pO hk64]
end Vc
