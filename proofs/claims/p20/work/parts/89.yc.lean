/-! A PART OF A VALUE IS CHANGED -/
section Yc
variable {w p : WD} {f v kk : Int32} {k : Nat}
theorem tb_ov {x y : Int64} {l : Int32} (f0 : 0 ≤ f.toInt) (f1 : f.toInt < 64) (l0 : 1 ≤ l.toInt) (l1 : l.toInt ≤ 64) (hy : ∀ k : Nat, l.toInt ≤ k → tb y k = false) (hk : k < 64) : tb ((x &&& (shl (mkL l) f ^^^ (-1))) ||| shl y f) k = if f.toInt ≤ k ∧ (k : Int) < f.toInt + l.toInt then tb y (k - f.toInt.toNat) else tb x k := by
  rw [tb_or, tb_and, tb_not hk, tb_shl f0 f1 hk, tb_shl f0 f1 hk]
  by_cases c : k < f.toInt.toNat
  · rw [decide_eq_true c, if_neg (by omega)]
    simp
  · rw [decide_eq_false c]
    by_cases c2 : (k : Int) < f.toInt + l.toInt
    · rw [tb_mk l0 l1 (by omega), decide_eq_true (show k - f.toInt.toNat < l.toInt.toNat by omega), if_pos ⟨by omega, c2⟩]
      simp
    · rw [tb_mk l0 l1 (by omega), decide_eq_false (show ¬ k - f.toInt.toNat < l.toInt.toNat by omega), hy _ (by omega), if_neg (by omega)]
      simp
theorem cd_over (W : WF w) (P : WF p) (f0 : 0 ≤ f.toInt) (hf : f.toInt + (wL p).toInt ≤ (wL w).toInt) (hk : (k : Int) < (wL w).toInt) : cdW (pOver w p f) k = if f.toInt ≤ k ∧ (k : Int) < f.toInt + (wL p).toInt then cdW p (k - f.toInt.toNat) else cdW w k := by
  have wl := W.2.1
  have pl := P.2.1
  unfold pOver
  rw [cd_hold wl.1 wl.2 hk]
  have z := P.2.2.2.2.2.1
  rw [tb_ov f0 (by omega) pl.1 pl.2 (fun k hk => (z k hk).1) (by omega), tb_ov f0 (by omega) pl.1 pl.2 (fun k hk => (z k hk).2.1) (by omega), tb_ov f0 (by omega) pl.1 pl.2 (fun k hk => (z k hk).2.2.1) (by omega), tb_ov f0 (by omega) pl.1 pl.2 (fun k hk => (z k hk).2.2.2) (by omega)]
  by_cases c : f.toInt ≤ k ∧ (k : Int) < f.toInt + (wL p).toInt
  · rw [if_pos c, if_pos c, if_pos c, if_pos c, if_pos c]
    rfl
  · rw [if_neg c, if_neg c, if_neg c, if_neg c, if_neg c]
    rfl
theorem WF_over (W : WF w) (hw : wI w = 0 ∨ wI w = 1) (P : WF p) (f0 : 0 ≤ f.toInt) (hf : f.toInt + (wL p).toInt ≤ (wL w).toInt) : WF (pOver w p f) := by
  have e : pOver w p f = pHold (wI w) (wL w) ((w0 w &&& (shl (mkL (wL p)) f ^^^ (-1))) ||| shl (w0 p) f) ((w1 w &&& (shl (mkL (wL p)) f ^^^ (-1))) ||| shl (w1 p) f) ((w2 w &&& (shl (mkL (wL p)) f ^^^ (-1))) ||| shl (w2 p) f) ((w3 w &&& (shl (mkL (wL p)) f ^^^ (-1))) ||| shl (w3 p) f) := rfl
  rw [e]
  refine WF_h hw W.2.1.1 W.2.1.2 (fun q => W.2.2.1 (by rw [q]; decide)) (fun k hk => ?_)
  rw [← e, cd_over W P f0 hf hk]
  by_cases c : f.toInt ≤ k ∧ (k : Int) < f.toInt + (wL p).toInt
  · rw [if_pos c]
    exact P.2.2.2.2.2.2 _
  · rw [if_neg c]
    exact W.2.2.2.2.2.2 _
/-- one element is another -/
theorem an_1 : ∀ m : Fin 9, (Int32.ofNat m.1).toInt64 &&& 1 = (if cB (Int32.ofNat m.1) 0 then 1 else 0) ∧ (sri (Int32.ofNat m.1) 1).toInt64 &&& 1 = (if cB (Int32.ofNat m.1) 1 then 1 else 0) ∧ (sri (Int32.ofNat m.1) 2).toInt64 &&& 1 = (if cB (Int32.ofNat m.1) 2 then 1 else 0) ∧ (sri (Int32.ofNat m.1) 3).toInt64 &&& 1 = (if cB (Int32.ofNat m.1) 3 then 1 else 0) := by decide +kernel
theorem an_v (v0 : 0 ≤ v.toInt) (v1 : v.toInt ≤ 8) : v.toInt64 &&& 1 = (if cB v 0 then 1 else 0) ∧ (sri v 1).toInt64 &&& 1 = (if cB v 1 then 1 else 0) ∧ (sri v 2).toInt64 &&& 1 = (if cB v 2 then 1 else 0) ∧ (sri v 3).toInt64 &&& 1 = (if cB v 3 then 1 else 0) := by
  have e : v = Int32.ofNat v.toInt.toNat := Int32.toInt_inj.mp (by rw [show (Int32.ofNat v.toInt.toNat).toInt = (v.toInt.toNat : Int) from Int32.toInt_ofNat_of_lt (by omega)]; omega)
  have := an_1 ⟨v.toInt.toNat, by omega⟩
  rw [← e] at this
  exact this
theorem tb_b {c : Bool} : tb (if c then (1 : Int64) else 0) k = (c && decide (k = 0)) := by
  cases c
  · exact tb_0
  · exact tb_1
theorem tb_ch {x y : Int64} {c : Bool} (f0 : 0 ≤ f.toInt) (f1 : f.toInt < 64) (hy : y = if c then 1 else 0) (hk : k < 64) : tb ((x &&& (shl 1 f ^^^ (-1))) ||| shl y f) k = if k = f.toInt.toNat then c else tb x k := by
  rw [tb_or, tb_and, tb_not hk, tb_shl f0 f1 hk, tb_shl f0 f1 hk, tb_1, hy, tb_b]
  by_cases c1 : k = f.toInt.toNat
  · rw [if_pos c1, decide_eq_false (show ¬ k < f.toInt.toNat by omega), decide_eq_true (show k - f.toInt.toNat = 0 by omega)]
    simp
  · rw [if_neg c1]
    by_cases c2 : k < f.toInt.toNat
    · rw [decide_eq_true c2]
      simp
    · rw [decide_eq_false c2, decide_eq_false (show ¬ k - f.toInt.toNat = 0 by omega)]
      simp
theorem cd_change (W : WF w) (hw : ¬ wI w = 2) (f0 : 0 ≤ f.toInt) (hf : f.toInt < (wL w).toInt) (v0 : 0 ≤ v.toInt) (v1 : v.toInt ≤ 8) (hk : (k : Int) < (wL w).toInt) : cdW (pChange w f v) k = if k = f.toInt.toNat then v else cdW w k := by
  have wl := W.2.1
  obtain ⟨a0, a1, a2, a3⟩ := an_v v0 v1
  unfold pChange
  rw [if_neg hw, cd_hold wl.1 wl.2 hk, tb_ch f0 (by omega) a0 (by omega), tb_ch f0 (by omega) a1 (by omega), tb_ch f0 (by omega) a2 (by omega), tb_ch f0 (by omega) a3 (by omega)]
  by_cases c : k = f.toInt.toNat
  · rw [if_pos c, if_pos c, if_pos c, if_pos c, if_pos c]
    exact cd_c v0 v1
  · rw [if_neg c, if_neg c, if_neg c, if_neg c, if_neg c]
    rfl
theorem WF_change (W : WF w) (f0 : 0 ≤ f.toInt) (hf : f.toInt < (wL w).toInt) (h2 : wI w = 2 → -2147483647 ≤ v.toInt) (h8 : ¬ wI w = 2 → 0 ≤ v.toInt ∧ v.toInt ≤ 8) : WF (pChange w f v) := by
  by_cases c : wI w = 2
  · have : pChange w f v = pNum v.toInt64 := by
      have q := W.2.2.2.1 c
      have l := W.2.2.1 (by rw [c]; decide)
      unfold pChange pNum
      rw [if_pos c, q.1, q.2.1, q.2.2.1, q.2.2.2.1, c, l]
    rw [this]
    have b := bd_i v
    exact WF_num (by rw [Int32.toInt_toInt64]; exact h2 c) (by rw [Int32.toInt_toInt64]; exact b.2)
  · obtain ⟨v0, v1⟩ := h8 c
    have e : pChange w f v = pHold (wI w) (wL w) ((w0 w &&& (shl 1 f ^^^ (-1))) ||| shl (v.toInt64 &&& 1) f) ((w1 w &&& (shl 1 f ^^^ (-1))) ||| shl ((sri v 1).toInt64 &&& 1) f) ((w2 w &&& (shl 1 f ^^^ (-1))) ||| shl ((sri v 2).toInt64 &&& 1) f) ((w3 w &&& (shl 1 f ^^^ (-1))) ||| shl ((sri v 3).toInt64 &&& 1) f) := if_neg c
    rw [e]
    refine WF_h (i01 W c) W.2.1.1 W.2.1.2 (fun q => W.2.2.1 (by rw [q]; decide)) (fun k hk => ?_)
    rw [← e, cd_change W c f0 hf v0 v1 hk]
    by_cases c2 : k = f.toInt.toNat
    · rw [if_pos c2]
      exact v1
    · rw [if_neg c2]
      exact W.2.2.2.2.2.2 _
end Yc
