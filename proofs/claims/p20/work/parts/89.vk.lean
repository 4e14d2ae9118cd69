/-! VALUES THAT ARE FOUND CAN BE -/
section Vk
variable {σ : rS} {r n : Nat} {o l f i : Int32} {y : Int64} {w v u : WD} {c0 c1 c2 c3 : Int64} {c : Nat → Int32}
theorem WF_h (hi : i = 0 ∨ i = 1) (l0 : 1 ≤ l.toInt) (l1 : l.toInt ≤ 64) (hl : i = 0 → l = 1) (hc : ∀ k : Nat, (k : Int) < l.toInt → (cdW (pHold i l c0 c1 c2 c3) k).toInt ≤ 8) : WF (pHold i l c0 c1 c2 c3) := WF_hold hi l0 l1 hl (fun k hk => by rw [← cd_hold (i := i) l0 l1 hk]; exact hc k hk)
theorem WF_01 {t : Prop} [Decidable t] : WF (pNum (if t then 1 else 0)) := by
  by_cases c : t
  · rw [if_pos c]; exact WF_num (by decide) (by decide)
  · rw [if_neg c]; exact WF_num (by decide) (by decide)
theorem WF_10 {t : Prop} [Decidable t] : WF (pNum (if t then 0 else 1)) := by
  by_cases c : t
  · rw [if_pos c]; exact WF_num (by decide) (by decide)
  · rw [if_neg c]; exact WF_num (by decide) (by decide)
theorem WF_bnd (e : pBnd y = some u) : WF u := by
  unfold pBnd at e
  by_cases c : y < -2147483647
  · rw [if_pos c] at e; cases e
  · rw [if_neg c] at e
    by_cases c2 : y ≤ 2147483647
    · rw [if_pos c2] at e
      cases e
      have h1 : ¬ y.toInt < (-2147483647 : Int64).toInt := fun q => c (Int64.lt_iff_toInt_lt.mpr q)
      have h2 := Int64.le_iff_toInt_le.mp c2
      have e1 : (-2147483647 : Int64).toInt = -2147483647 := by decide
      have e2 : (2147483647 : Int64).toInt = 2147483647 := by decide
      exact WF_num (by omega) (by omega)
    · rw [if_neg c2] at e; cases e
theorem i01 (W : WF w) (n2 : ¬ wI w = 2) : wI w = 0 ∨ wI w = 1 := by
  rcases W.1 with e | e | e
  · exact Or.inl e
  · exact Or.inr e
  · exact absurd e n2
theorem WF_one (W : WF w) (e : pOne o w = some u) : WF u := by
  unfold pOne at e
  by_cases c : wI w = 2
  · rw [if_pos c] at e
    obtain ⟨-, -, -, -, b0, b1⟩ := W.2.2.2.1 c
    have N : WF (pNum (-wN w)) := by
      have : (-wN w).toInt = -(wN w).toInt := by rw [Int64.toInt_neg]; exact Int.bmod_eq_of_le (by omega) (by omega)
      exact WF_num (by omega) (by omega)
    by_cases c1 : o = 0
    · rw [if_pos c1] at e; cases e; exact WF_01
    · rw [if_neg c1] at e
      by_cases c2 : o = 1
      · rw [if_pos c2] at e; cases e; exact N
      · rw [if_neg c2] at e
        by_cases c3 : o = 3
        · rw [if_pos c3] at e
          by_cases c4 : wN w < 0
          · rw [if_pos c4] at e; cases e; exact N
          · rw [if_neg c4] at e; cases e; exact W
        · rw [if_neg c3] at e; cases e; exact W
  · rw [if_neg c] at e
    by_cases c1 : o = 0
    · rw [if_pos c1] at e
      cases e
      refine WF_h (i01 W c) W.2.1.1 W.2.1.2 (fun e => W.2.2.1 (by rw [e]; decide)) (fun k hk => ?_)
      have := cd_settle W hk
      unfold pSettle at this
      rw [this]
      exact Int.le_trans cN_b.2 (by decide)
    · rw [if_neg c1] at e; cases e
theorem WF_two (W : WF w) (V : WF v) (o0 : 0 ≤ o.toInt) (o1 : o.toInt ≤ 20) (e : pTwo o w v = some u) : WF u := by
  unfold pTwo at e
  by_cases q1 : o = 0 ∨ o = 1 ∨ o = 2 ∨ o = 3 ∨ o = 4 ∨ o = 5
  · rw [if_pos q1] at e
    have o5 : o.toInt ≤ 5 := by rcases q1 with q | q | q | q | q | q <;> (rw [q]; decide)
    by_cases c : wI w = 2
    · rw [if_pos c] at e
      unfold pTruths at e
      by_cases c1 : wI v = 2
      · rw [if_pos c1] at e; cases e; exact WF_10
      · rw [if_neg c1] at e; cases e
    · rw [if_neg c] at e
      unfold pLogics at e
      by_cases c1 : pUnlike w v = 0
      · rw [if_pos c1] at e
        cases e
        have hl : wL v = wL w := by
          unfold pUnlike at c1
          by_cases d1 : wI w = wI v
          · rw [if_pos d1] at c1
            by_cases d2 : wL w = wL v
            · exact d2.symm
            · rw [if_neg d2] at c1; exact absurd c1 (by decide)
          · rw [if_neg d1] at c1; exact absurd c1 (by decide)
        refine WF_h (i01 W c) W.2.1.1 W.2.1.2 (fun e => W.2.2.1 (by rw [e]; decide)) (fun k hk => ?_)
        rw [cd_join W V o0 o5 hl hk]
        exact Int.le_trans cJ_b.2 (by decide)
      · rw [if_neg c1] at e; cases e
  · rw [if_neg q1] at e
    have SO : ∀ x : Int32, pSameOp x w v = some u → WF u := fun x e => by
      unfold pSameOp at e
      by_cases c1 : pUnlike w v = 0
      · rw [if_pos c1] at e; cases e; exact WF_01
      · rw [if_neg c1] at e; cases e
    have NU : pNumbers o w v = some u → WF u := fun e => by
      unfold pNumbers at e
      by_cases c1 : wI w = 2
      · rw [if_pos c1] at e
        by_cases c2 : wI v = 2
        · rw [if_pos c2] at e
          by_cases d1 : o = 12
          · rw [if_pos d1] at e; exact WF_bnd e
          · rw [if_neg d1] at e
            by_cases d2 : o = 13
            · rw [if_pos d2] at e; exact WF_bnd e
            · rw [if_neg d2] at e
              by_cases d3 : o = 15
              · rw [if_pos d3] at e; exact WF_bnd e
              · rw [if_neg d3] at e
                by_cases d4 : wN v = 0
                · rw [if_pos d4] at e; cases e
                · rw [if_neg d4] at e
                  by_cases d5 : o = 16
                  · rw [if_pos d5] at e; exact WF_bnd e
                  · rw [if_neg d5] at e
                    by_cases d6 : o = 17
                    · rw [if_pos d6] at e; exact WF_bnd e
                    · rw [if_neg d6] at e; exact WF_bnd e
        · rw [if_neg c2] at e; cases e
      · rw [if_neg c1] at e; cases e
    by_cases q2 : o = 6
    · rw [if_pos q2] at e; exact SO 1 e
    · rw [if_neg q2] at e
      by_cases q3 : o = 7
      · rw [if_pos q3] at e; exact SO 0 e
      · rw [if_neg q3] at e
        by_cases q4 : o = 8 ∨ o = 9 ∨ o = 10 ∨ o = 11
        · rw [if_pos q4] at e
          unfold pOrder at e
          by_cases c1 : wI w = 0
          · rw [if_pos c1] at e; cases e
          · rw [if_neg c1] at e
            by_cases c2 : pUnlike w v = 0
            · rw [if_pos c2] at e; cases e; exact WF_01
            · rw [if_neg c2] at e; cases e
        · rw [if_neg q4] at e
          by_cases q5 : o = 12 ∨ o = 13
          · rw [if_pos q5] at e
            by_cases c1 : wI w = 2 ∧ wI v = 2
            · rw [if_pos c1] at e; exact NU e
            · rw [if_neg c1] at e
              unfold pRows at e
              have ll : 1 ≤ (if wI w = 1 then wL w else wL v).toInt ∧ (if wI w = 1 then wL w else wL v).toInt ≤ 64 := by
                by_cases ci : wI w = 1
                · rw [if_pos ci]; exact W.2.1
                · rw [if_neg ci]; exact V.2.1
              by_cases d1 : wI w = 0
              · rw [if_pos d1] at e; cases e
              · rw [if_neg d1] at e
                by_cases d2 : wI v = 0
                · rw [if_pos d2] at e; cases e
                · rw [if_neg d2] at e
                  by_cases d3 : wI w = wI v ∧ ¬ wL w = wL v
                  · rw [if_pos d3] at e; cases e
                  · rw [if_neg d3] at e
                    by_cases d4 : (wI w = 1 ∧ pClear w = false) ∨ (wI v = 1 ∧ pClear v = false)
                    · rw [if_pos d4] at e
                      cases e
                      refine WF_hold (Or.inr rfl) ll.1 ll.2 (fun e => absurd e (by decide)) (fun k hk => ?_)
                      rw [tb_m1 (by omega), tb_0]
                      decide
                    · rw [if_neg d4] at e
                      cases e
                      refine WF_hold (Or.inr rfl) ll.1 ll.2 (fun e => absurd e (by decide)) (fun k hk => ?_)
                      rw [tb_m1 (by omega), tb_0]
                      cases tb _ k <;> decide
          · rw [if_neg q5] at e
            by_cases q6 : o = 14
            · rw [if_pos q6] at e
              unfold pJoined at e
              by_cases d1 : wI w = 2
              · rw [if_pos d1] at e; cases e
              · rw [if_neg d1] at e
                by_cases d2 : wI v = 2
                · rw [if_pos d2] at e; cases e
                · rw [if_neg d2] at e
                  by_cases d3 : wL w + wL v ≤ 64
                  · rw [if_pos d3] at e
                    cases e
                    have w0' := W.2.1
                    have v0' := V.2.1
                    have es : (wL w + wL v).toInt = (wL w).toInt + (wL v).toInt := ad_i (by omega) (by omega)
                    have d3 : (wL w + wL v).toInt ≤ 64 := le_i d3
                    refine WF_hold (Or.inr rfl) (by omega) d3 (fun e => absurd e (by decide)) (fun k hk => ?_)
                    simp only [tb_or, tb_shl (x := w0 w) (n := wL v) (k := k) (by omega) (by omega) (by omega), tb_shl (x := w1 w) (n := wL v) (k := k) (by omega) (by omega) (by omega), tb_shl (x := w2 w) (n := wL v) (k := k) (by omega) (by omega) (by omega), tb_shl (x := w3 w) (n := wL v) (k := k) (by omega) (by omega) (by omega)]
                    by_cases ck : k < (wL v).toInt.toNat
                    · rw [decide_eq_true ck]
                      simp only [Bool.not_true, Bool.false_and, Bool.false_or]
                      exact V.2.2.2.2.2.2 k
                    · rw [decide_eq_false ck]
                      obtain ⟨z0, z1, z2, z3⟩ := V.2.2.2.2.2.1 k (by omega)
                      rw [z0, z1, z2, z3]
                      simp only [Bool.not_false, Bool.true_and, Bool.or_false]
                      exact W.2.2.2.2.2.2 (k - (wL v).toInt.toNat)
                  · rw [if_neg d3] at e; cases e
            · rw [if_neg q6] at e
              by_cases q7 : o = 19 ∨ o = 20
              · rw [if_pos q7] at e
                unfold pShifted at e
                by_cases d1 : wI w = 1
                · rw [if_pos d1] at e
                  by_cases d2 : wI v = 2
                  · rw [if_pos d2] at e
                    cases e
                    obtain ⟨-, -, -, -, v0, v1⟩ := V.2.2.2.1 d2
                    have yb : -2147483647 ≤ (if o = 19 then wN v else -wN v).toInt ∧ (if o = 19 then wN v else -wN v).toInt ≤ 2147483647 := by
                      by_cases d3 : o = 19
                      · rw [if_pos d3]; exact ⟨v0, v1⟩
                      · rw [if_neg d3, Int64.toInt_neg, Int.bmod_eq_of_le (by omega) (by omega)]; omega
                    generalize (if o = 19 then wN v else -wN v) = y at yb ⊢
                    have S1 := pShift_1 (w := w) (y := y)
                    have C : ∀ k : Nat, (k : Int) < (wL w).toInt → (cdW (pShift w y) k).toInt ≤ 8 := fun k hk => by
                      rw [cd_shift W yb.1 yb.2 hk]
                      unfold shC
                      by_cases d4 : 0 ≤ (k : Int) - y.toInt ∧ (k : Int) - y.toInt < (wL w).toInt
                      · rw [if_pos d4]; exact W.2.2.2.2.2.2 _
                      · rw [if_neg d4]; decide
                    have X : ∃ a0 a1 a2 a3, pShift w y = pHold 1 (wL w) a0 a1 a2 a3 := by
                      unfold pShift
                      by_cases d4 : pBy (wL w) y = wL w
                      · rw [if_pos d4, d4]; exact ⟨_, _, _, _, rfl⟩
                      · rw [if_neg d4]
                        by_cases d5 : y < 0
                        · rw [if_pos d5]; exact ⟨_, _, _, _, rfl⟩
                        · rw [if_neg d5]; exact ⟨_, _, _, _, rfl⟩
                    obtain ⟨a0, a1, a2, a3, X⟩ := X
                    rw [X] at C ⊢
                    exact WF_h (Or.inr rfl) W.2.1.1 W.2.1.2 (fun e => absurd e (by decide)) C
                  · rw [if_neg d2] at e; cases e
                · rw [if_neg d1] at e; cases e
              · rw [if_neg q7] at e; exact NU e
theorem cd_part {k : Nat} (W : WF w) (f0 : 0 ≤ f.toInt) (f1 : f.toInt < 64) (l0 : 1 ≤ l.toInt) (l1 : l.toInt ≤ 64) (hk : (k : Int) < l.toInt) : cdW (pPart w i f l) k = cdW w (f.toInt.toNat + k) := by
  unfold pPart
  rw [cd_hold l0 l1 hk, tb_shr f0 f1, tb_shr f0 f1, tb_shr f0 f1, tb_shr f0 f1]
  rfl
theorem WF_part (W : WF w) (hi : i = 0 ∨ i = 1) (f0 : 0 ≤ f.toInt) (f1 : f.toInt < 64) (l0 : 1 ≤ l.toInt) (l1 : l.toInt ≤ 64) (hl : i = 0 → l = 1) : WF (pPart w i f l) := by
  refine WF_h hi l0 l1 hl (fun k hk => ?_)
  have := cd_part (i := i) W f0 f1 l0 l1 hk
  unfold pPart at this
  rw [this]
  exact W.2.2.2.2.2.2 _
theorem el_b (W : WF w) (e : pEl w v = some u) : u = pPart w 0 (wN v).toInt32 1 ∧ wI v = 2 ∧ 0 ≤ (wN v).toInt ∧ (wN v).toInt < (wL w).toInt ∧ (wN v).toInt32.toInt = (wN v).toInt := by
  unfold pEl at e
  by_cases c : wI v = 2
  · rw [if_pos c] at e
    by_cases c1 : wN v < 0
    · rw [if_pos c1] at e; cases e
    · rw [if_neg c1] at e
      by_cases c2 : wN v < (wL w).toInt64
      · rw [if_pos c2] at e
        cases e
        have h1 : ¬ (wN v).toInt < 0 := fun q => c1 (Int64.lt_iff_toInt_lt.mpr (by rw [Int64.toInt_zero]; exact q))
        have h2 := Int64.lt_iff_toInt_lt.mp c2
        rw [Int32.toInt_toInt64] at h2
        have := W.2.1.2
        exact ⟨rfl, c, by omega, h2, by rw [Int64.toInt_toInt32]; exact Int.bmod_eq_of_le (by omega) (by omega)⟩
      · rw [if_neg c2] at e; cases e
  · rw [if_neg c] at e; cases e
theorem WF_el (W : WF w) (e : pEl w v = some u) : WF u := by
  obtain ⟨rfl, -, h1, h2, h3⟩ := el_b W e
  have := W.2.1.2
  exact WF_part W (Or.inl rfl) (by omega) (by omega) (by decide) (by decide) (fun _ => rfl)
theorem WF_toNum (W : WF w) (e : pToNum w = some u) : WF u := by
  unfold pToNum at e
  by_cases c : wI w = 1
  · rw [if_pos c] at e
    by_cases c1 : pClear w = true
    · rw [if_pos c1] at e
      by_cases c2 : pOnes w < 0
      · rw [if_pos c2] at e; cases e
      · rw [if_neg c2] at e
        by_cases c3 : pOnes w ≤ 2147483647
        · rw [if_pos c3] at e
          cases e
          have h1 : ¬ (pOnes w).toInt < 0 := fun q => c2 (Int64.lt_iff_toInt_lt.mpr (by rw [Int64.toInt_zero]; exact q))
          have h2 := Int64.le_iff_toInt_le.mp c3
          have e2 : (2147483647 : Int64).toInt = 2147483647 := by decide
          exact WF_num (by omega) (by omega)
        · rw [if_neg c3] at e; cases e
    · rw [if_neg c1] at e; cases e
  · rw [if_neg c] at e; cases e
theorem WF_toRow (l0 : 1 ≤ l.toInt) (l1 : l.toInt ≤ 64) (e : pToRow w l = some u) : WF u := by
  unfold pToRow at e
  by_cases c : wI w = 2
  · rw [if_pos c] at e
    cases e
    refine WF_hold (Or.inr rfl) l0 l1 (fun e => absurd e (by decide)) (fun k hk => ?_)
    rw [tb_m1 (by omega), tb_0]
    cases tb _ k <;> decide
  · rw [if_neg c] at e; cases e
theorem lg_all : ∀ m : Fin 9, cdW (pLogic (Int32.ofNat m.1)) 0 = Int32.ofNat m.1 := by decide +kernel
theorem cd_logic {g : Int32} (g0 : 0 ≤ g.toInt) (g1 : g.toInt ≤ 8) : cdW (pLogic g) 0 = g := by
  obtain ⟨m, e1, e2⟩ := sh_n g0 (show g.toInt < 64 by omega)
  have := lg_all ⟨m.1, by omega⟩
  rw [e1]
  exact this
theorem WF_logic {g : Int32} (g0 : 0 ≤ g.toInt) (g1 : g.toInt ≤ 8) : WF (pLogic g) := by
  refine WF_h (Or.inl rfl) (by decide) (by decide) (fun _ => rfl) (fun k hk => ?_)
  have hk : k = 0 := by
    have : (1 : Int32).toInt = 1 := rfl
    omega
  subst hk
  have := cd_logic g0 g1
  unfold pLogic at this
  rw [this]
  exact g1
theorem gb_all : ∀ m : Fin 9, gb0 (Int32.ofNat m.1) = (if cB (Int32.ofNat m.1) 0 then 1 else 0) ∧ gb1 (Int32.ofNat m.1) = (if cB (Int32.ofNat m.1) 1 then 1 else 0) ∧ gb2 (Int32.ofNat m.1) = (if cB (Int32.ofNat m.1) 2 then 1 else 0) ∧ gb3 (Int32.ofNat m.1) = (if cB (Int32.ofNat m.1) 3 then 1 else 0) := by decide +kernel
theorem gb_c {g : Int32} (g0 : 0 ≤ g.toInt) (g1 : g.toInt ≤ 8) : gb0 g = (if cB g 0 then 1 else 0) ∧ gb1 g = (if cB g 1 then 1 else 0) ∧ gb2 g = (if cB g 2 then 1 else 0) ∧ gb3 g = (if cB g 3 then 1 else 0) := by
  obtain ⟨m, e1, e2⟩ := sh_n g0 (show g.toInt < 64 by omega)
  have := gb_all ⟨m.1, by omega⟩
  rw [e1]
  exact this
theorem tb_gB {b : Int32 → Int32} {j : Nat} : ∀ {n k : Nat}, n ≤ 64 → k < 64 → (∀ i, i < n → b (c i) = if cB (c i) j then 1 else 0) → tb (gB b c n) k = (decide (k < n) && cB (c (n - 1 - k)) j) := by
  intro n
  induction n with
  | zero =>
    intro k _ _ _
    show tb 0 k = _
    rw [tb_0]
    rfl
  | succ n ih =>
    intro k hn hk hb
    show tb (shl (gB b c n) 1 ||| (b (c n)).toInt64) k = _
    rw [tb_or, tb_shl (n := 1) (by decide) (by decide) hk, hb n (by omega)]
    show (!decide (k < 1) && tb (gB b c n) (k - 1) || _) = _
    cases k with
    | zero =>
      rw [decide_eq_true (show 0 < 1 by omega), decide_eq_true (show 0 < n + 1 by omega), show n + 1 - 1 - 0 = n by omega]
      simp only [Bool.not_true, Bool.false_and, Bool.false_or, Bool.true_and]
      cases cB (c n) j <;> decide
    | succ k =>
      rw [decide_eq_false (show ¬ k + 1 < 1 by omega), show k + 1 - 1 = k by omega, ih (by omega) (by omega) (fun i hi => hb i (by omega)), show n + 1 - 1 - (k + 1) = n - 1 - k by omega]
      have z : tb (if cB (c n) j then (1 : Int32) else 0).toInt64 (k + 1) = false := by
        cases cB (c n) j
        · exact tb_0
        · show tb 1 (k + 1) = false
          rw [tb_1]
          exact decide_eq_false (by omega)
      rw [z, Bool.or_false]
      simp only [Bool.not_false, Bool.true_and]
      congr 1
      exact decide_eq_decide.mpr (by omega)
theorem cd_gather {k : Nat} (l0 : 1 ≤ l.toInt) (l1 : l.toInt ≤ 64) (hc : ∀ i : Nat, (i : Int) < l.toInt → 0 ≤ (c i).toInt ∧ (c i).toInt ≤ 8) (hk : (k : Int) < l.toInt) : cdW (pGather c l) k = c (l.toInt.toNat - 1 - k) := by
  unfold pGather
  rw [cd_hold l0 l1 hk, tb_gB (j := 0) (by omega) (by omega) (fun i hi => (gb_c (hc i (by omega)).1 (hc i (by omega)).2).1), tb_gB (j := 1) (by omega) (by omega) (fun i hi => (gb_c (hc i (by omega)).1 (hc i (by omega)).2).2.1), tb_gB (j := 2) (by omega) (by omega) (fun i hi => (gb_c (hc i (by omega)).1 (hc i (by omega)).2).2.2.1), tb_gB (j := 3) (by omega) (by omega) (fun i hi => (gb_c (hc i (by omega)).1 (hc i (by omega)).2).2.2.2), decide_eq_true (show k < l.toInt.toNat by omega)]
  have h2 := hc (l.toInt.toNat - 1 - k) (by omega)
  simp only [Bool.true_and]
  exact cd_c h2.1 h2.2
theorem WF_gather (l0 : 1 ≤ l.toInt) (l1 : l.toInt ≤ 64) (hc : ∀ i : Nat, (i : Int) < l.toInt → 0 ≤ (c i).toInt ∧ (c i).toInt ≤ 8) : WF (pGather c l) := by
  refine WF_h (Or.inr rfl) l0 l1 (fun e => absurd e (by decide)) (fun k hk => ?_)
  have := cd_gather l0 l1 hc hk
  unfold pGather at this
  rw [this]
  exact (hc _ (by omega)).2
end Vk
