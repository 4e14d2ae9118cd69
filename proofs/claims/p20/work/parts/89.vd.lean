/-! THE REFERENCE'S REGISTERS AGAINST THE CLASS'S VALUES: one, both -/
def RW (σ : rS) (r : Nat) (w : WD) : Prop := ia σ 0 r = wI w ∧ (wI w = 2 → ia σ 1 r = 0 ∧ ja σ 4 r = wN w) ∧ (wI w = 0 → ia σ 1 r = 0 ∧ ja σ 4 r = (cdW w 0).toInt64) ∧ (wI w = 1 → ia σ 1 r = wL w ∧ ja σ 4 r = 0 ∧ ∀ k : Nat, (k : Int) < (wL w).toInt → el σ r k = cdW w k)
/-- what finding into r may change -/
def fQ (r j i : Nat) : Prop := ((j = 0 ∨ j = 1 ∨ j = 4) ∧ r ≤ i) ∨ (j = 5 ∧ 64 * r ≤ i) ∨ (j = 100 ∧ (i = 41 ∨ i = 42))
def oQ (m : Nat) (b : ah_H) (r : Nat) (σ : rS) (res : Option WD) (x : Int32) (h' : ah_H) : Prop := ∃ σ', RH m σ' b h' ∧ byE σ' ∧ sm (fQ r) σ σ' ∧ match res with
  | some w => x = 1 ∧ RW σ' r w
  | none => x = 0
section Vd
variable {lim : Nat × Nat} {d m r s n : Nat} {σ σ' : rS} {b h h' : ah_H} {R S k v f o x : Int32} {g : Nat → Int32} {z : Int64} {w : WD} {res : Option WD}
theorem oQ_01 : oQ m b r σ res x h' → x = 0 ∨ x = 1 := by
  rintro ⟨σ', -, -, -, k⟩
  cases res with
  | none => exact Or.inl k
  | some w => exact Or.inr k.1
theorem by_0 {i : Nat} {y : Int32} (B : byE σ) (y0 : 0 ≤ y.toInt) (y1 : y.toInt ≤ 2) : byE (sI σ 0 i y) := by
  refine ⟨fun j hj => ?_, fun j hj => by rw [iaI_j (by decide)]; exact B.2 j hj⟩
  rw [iaI_j (a := 1) (by decide)]
  by_cases c : j = i
  · subst c
    rw [iaI_e]
    exact ⟨y0, y1, (B.1 j hj).2.2⟩
  · rw [iaI_i c]
    exact B.1 j hj
theorem by_1 {i : Nat} {y : Int32} (B : byE σ) (y0 : 0 ≤ y.toInt) (y1 : y.toInt ≤ 64) : byE (sI σ 1 i y) := by
  refine ⟨fun j hj => ?_, fun j hj => by rw [iaI_j (by decide)]; exact B.2 j hj⟩
  rw [iaI_j (a := 0) (by decide)]
  by_cases c : j = i
  · subst c
    rw [iaI_e]
    exact ⟨(B.1 j hj).1, (B.1 j hj).2.1, y0, y1⟩
  · rw [iaI_i c]
    exact B.1 j hj
theorem by_5 {i : Nat} {y : Int32} (B : byE σ) (y0 : 0 ≤ y.toInt) (y1 : y.toInt ≤ 127) : byE (sI σ 5 i y) := by
  refine ⟨fun j hj => ?_, fun j hj => ?_⟩
  · rw [iaI_j (a := 0) (by decide), iaI_j (a := 1) (by decide)]
    exact B.1 j hj
  · by_cases c : j = i
    · subst c
      rw [iaI_e]
      exact ⟨y0, y1⟩
    · rw [iaI_i c]
      exact B.2 j hj
theorem by_J {j i : Nat} {y : Int64} (B : byE σ) : byE (sJ σ j i y) := B
theorem by_G {i : Nat} {y : Int32} (B : byE σ) : byE (sG σ i y) := B
theorem by_E (B : byE σ) (hg : ∀ k, k < n → 0 ≤ (g k).toInt ∧ (g k).toInt ≤ 127) : byE (setE σ r n g) := by
  refine ⟨fun j hj => ?_, fun j hj => ?_⟩
  · rw [setE_j (by decide), setE_j (by decide)]
    exact B.1 j hj
  · show 0 ≤ (ia (setE σ r n g) 5 j).toInt ∧ _
    by_cases c : 64 * r ≤ j ∧ j < 64 * r + n
    · have e : ia (setE σ r n g) 5 j = g (j - 64 * r) := if_pos ⟨rfl, c⟩
      rw [e]
      exact hg _ (by omega)
    · rw [setE_n (by omega)]
      exact B.2 j hj
theorem sm_E {Q : Nat → Nat → Prop} {σ0 : rS} (a : sm Q σ0 σ) (hq : ∀ k, k < n → Q 5 (64 * r + k)) : sm Q σ0 (setE σ r n g) := by
  refine ⟨a.1, a.2.1, fun j i hn => ?_, a.2.2.2⟩
  by_cases c : j = 5 ∧ 64 * r ≤ i ∧ i < 64 * r + n
  · obtain ⟨rfl, c1, c2⟩ := c
    refine absurd ?_ hn
    have := hq (i - 64 * r) (by omega)
    rw [show 64 * r + (i - 64 * r) = i by omega] at this
    exact this
  · exact (if_neg c).trans (a.2.2.1 j i hn)
theorem fq0 : fQ r 0 r := Or.inl ⟨Or.inl rfl, Nat.le_refl _⟩
theorem fq1 : fQ r 1 r := Or.inl ⟨Or.inr (Or.inl rfl), Nat.le_refl _⟩
theorem fq4 : fQ r 4 r := Or.inl ⟨Or.inr (Or.inr rfl), Nat.le_refl _⟩
theorem fq5 {i : Nat} (hi : 64 * r ≤ i) : fQ r 5 i := Or.inr (Or.inl ⟨rfl, hi⟩)
theorem fqG {i : Nat} (hi : i = 41 ∨ i = 42) : fQ r 100 i := Or.inr (Or.inr ⟨rfl, hi⟩)
theorem fq_le {r' : Nat} (hr : r ≤ r') : ∀ j i, fQ r' j i → fQ r j i := by
  intro j i q
  rcases q with ⟨q1, q2⟩ | ⟨q1, q2⟩ | q
  · exact Or.inl ⟨q1, by omega⟩
  · exact Or.inr (Or.inl ⟨q1, by omega⟩)
  · exact Or.inr (Or.inr q)
theorem oQ_tr {σ1 : rS} {r' : Nat} (hr : r ≤ r') (G : sm (fQ r') σ σ1) (k : oQ m b r σ1 res x h') : oQ m b r σ res x h' := by
  obtain ⟨σ', H', B', G', k⟩ := k
  exact ⟨σ', H', B', sm_tr (sm_tr sm_0 G (fq_le hr)) G' (fun _ _ q => q), k⟩
theorem sm_num (G : sm (fQ r) σ σ') : sm (fQ r) σ (sNum σ' r z) := sm_J (sm_I (sm_I G fq0) fq1) fq4
theorem sm_log (G : sm (fQ r) σ σ') : sm (fQ r) σ (sLog σ' r v) := sm_J (sm_I (sm_I G fq0) fq1) fq4
theorem sm_row (G : sm (fQ r) σ σ') : sm (fQ r) σ (sRow σ' r v) := sm_J (sm_I (sm_I G fq0) fq1) fq4
theorem by_num (B : byE σ) : byE (sNum σ r z) := by_J (by_1 (by_0 B (by decide) (by decide)) (by decide) (by decide))
theorem by_log (B : byE σ) : byE (sLog σ r v) := by_J (by_1 (by_0 B (by decide) (by decide)) (by decide) (by decide))
theorem by_row (B : byE σ) (v0 : 0 ≤ v.toInt) (v1 : v.toInt ≤ 64) : byE (sRow σ r v) := by_J (by_1 (by_0 B (by decide) (by decide)) v0 v1)
theorem RW_num : RW (sNum σ r z) r (pNum z) := by
  refine ⟨?_, fun _ => ⟨?_, ?_⟩, fun q => absurd q (by show ¬ (2 : Int32) = 0; decide), fun q => absurd q (by show ¬ (2 : Int32) = 1; decide)⟩
  · show ia (sI (sI σ 0 r 2) 1 r 0) 0 r = 2
    rw [iaI_j (by decide), iaI_e]
  · exact iaI_e (σ := sI σ 0 r 2)
  · exact jaJ_e
theorem RW_log {c : Int32} (h0 : wI w = 0) (hc : cdW w 0 = c) : RW (sLog σ r c) r w := by
  refine ⟨?_, fun q => absurd q (by rw [h0]; decide), fun _ => ⟨?_, ?_⟩, fun q => absurd q (by rw [h0]; decide)⟩
  · rw [h0]
    show ia (sI (sI σ 0 r 0) 1 r 0) 0 r = 0
    rw [iaI_j (by decide), iaI_e]
  · exact iaI_e (σ := sI σ 0 r 0)
  · rw [hc]
    exact jaJ_e
theorem RW_mk1 (h1 : wI w = 1) (a0 : ia σ 0 r = 1) (a1 : ia σ 1 r = wL w) (a4 : ja σ 4 r = 0) (a5 : ∀ k : Nat, (k : Int) < (wL w).toInt → el σ r k = cdW w k) : RW σ r w := ⟨by rw [h1]; exact a0, fun q => absurd q (by rw [h1]; decide), fun q => absurd q (by rw [h1]; decide), fun _ => ⟨a1, a4, a5⟩⟩
/-- a register that is not touched -/
theorem RW_sm {r' : Nat} (W : WF w) (k : RW σ r w) (G : sm (fQ r') σ σ') (hr : r < r') : RW σ' r w := by
  have n0 : ∀ j, j = 0 ∨ j = 1 ∨ j = 4 → ¬ fQ r' j r := fun j hj q => by
    rcases q with ⟨_, q⟩ | ⟨q, _⟩ | ⟨q, _⟩ <;> omega
  have n5 : ∀ i : Nat, i < 64 → ¬ fQ r' 5 (64 * r + i) := fun i hi q => by
    rcases q with ⟨q, _⟩ | ⟨_, q⟩ | ⟨q, _⟩ <;> omega
  have e0 : ia σ' 0 r = ia σ 0 r := G.2.2.1 0 r (n0 0 (by omega))
  have e1 : ia σ' 1 r = ia σ 1 r := G.2.2.1 1 r (n0 1 (by omega))
  have e4 : ja σ' 4 r = ja σ 4 r := G.2.2.2 4 r (n0 4 (by omega))
  obtain ⟨k0, k2, kl, k1⟩ := k
  refine ⟨e0.trans k0, fun q => ?_, fun q => ?_, fun q => ?_⟩
  · rw [e1, e4]
    exact k2 q
  · rw [e1, e4]
    exact kl q
  · rw [e1, e4]
    obtain ⟨p1, p2, p3⟩ := k1 q
    refine ⟨p1, p2, fun i hi => Eq.trans ?_ (p3 i hi)⟩
    have := W.2.1.2
    exact G.2.2.1 5 _ (n5 i (by omega))
theorem oQ_num (H : RH m (sNum σ' r z) b h') (B : byE σ') (G : sm (fQ r) σ σ') (e : res = some (pNum z)) (hx : x = 1) : oQ m b r σ res x h' := by
  rw [e]
  exact ⟨_, H, by_num B, sm_num G, hx, RW_num⟩
theorem oQ_log {c : Int32} (H : RH m (sLog σ' r c) b h') (B : byE σ') (G : sm (fQ r) σ σ') (e : res = some w) (h0 : wI w = 0) (hc : cdW w 0 = c) (hx : x = 1) : oQ m b r σ res x h' := by
  rw [e]
  exact ⟨_, H, by_log B, sm_log G, hx, RW_log h0 hc⟩
theorem oQ_fail (H : RH m (sG (sG σ' 41 f) 42 v) b h') (B : byE σ') (G : sm (fQ r) σ σ') (e : res = none) (hx : x = 0) : oQ m b r σ res x h' := by
  rw [e]
  exact ⟨_, H, B, sm_G (sm_G G (fqG (Or.inl rfl))) (fqG (Or.inr rfl)), hx⟩
/-- calls that end an operation -/
theorem z_num {τ : rS} {h1 : ah_H} (H : RH m τ b h) (B : byE τ) (G : sm (fQ r) σ τ) (hR : R.toInt = r) (hr : r < 10100) (e : res = some (pNum z)) : wq (ah_cI (vc lim (d + 1) 64 [aR m, aI R, aJ z] h) (nx h1) fun i h1 => if i = 0 ∨ i = 1 then some (.inl (some (.inl i)), h1) else none) (rI (oQ m b r σ res)) := wq_cI (r_numeral H hR hr) fun x h1 p => wq_t (Or.inr p.1) (wq_some (rI_i (oQ_num p.2 B G e p.1)))
theorem z_fail {τ : rS} {h1 : ah_H} (H : RH m τ b h) (B : byE τ) (G : sm (fQ r) σ τ) (e : res = none) : wq (ah_cI (vc lim (d + 1) 63 [aR m, aI f, aI v] h) (nx h1) fun i h1 => if i = 0 ∨ i = 1 then some (.inl (some (.inl i)), h1) else none) (rI (oQ m b r σ res)) := wq_cI (r_fail H) fun x h1 p => wq_t (Or.inl p.1) (wq_some (rI_i (oQ_fail p.2 B G e p.1)))
theorem z_log {c : Int32} {τ : rS} {h1 : ah_H} (H : RH m τ b h) (B : byE τ) (G : sm (fQ r) σ τ) (hR : R.toInt = r) (hr : r < 10100) (e : res = some w) (h0 : wI w = 0) (hc : cdW w 0 = c) : wq (ah_cI (vc lim (d + 1) 67 [aR m, aI R, aI c] h) (nx h1) fun i h1 => if i = 0 ∨ i = 1 then some (.inl (some (.inl i)), h1) else none) (rI (oQ m b r σ res)) := wq_cI (r_logic H hR hr) fun x h1 p => wq_t (Or.inr p.1) (wq_some (rI_i (oQ_log p.2 B G e h0 hc p.1)))
theorem z_tr {t : Bool} {y : Int32} {τ : rS} {h1 : ah_H} (H : RH m τ b h) (B : byE τ) (G : sm (fQ r) σ τ) (hR : R.toInt = r) (hr : r < 10100) (hy : y = bI t) (e : res = some (pNum (if t then 1 else 0))) : wq (ah_cI (vc lim (d + 2) 65 [aR m, aI R, aI y] h) (nx h1) fun i h1 => if i = 0 ∨ i = 1 then some (.inl (some (.inl i)), h1) else none) (rI (oQ m b r σ res)) := by
  rw [hy]
  exact wq_cI (r_truth H hR hr) fun x h1 p => wq_t (Or.inr p.1) (wq_some (rI_i (oQ_num p.2 B G e p.1)))
theorem l_64i {c : Int32} (h0 : 0 ≤ c.toInt) (h1 : c.toInt ≤ 127) : c.toInt64.toInt32 = c := Int32.toInt32_toInt64 c
theorem cN_b : 0 ≤ (cNot v).toInt ∧ (cNot v).toInt ≤ 3 := by
  unfold cNot
  by_cases c1 : v = 0
  · rw [if_pos c1]; decide
  · rw [if_neg c1]
    by_cases c2 : cLow v = true
    · rw [if_pos c2]; decide
    · rw [if_neg c2]
      by_cases c3 : cHigh v = true
      · rw [if_pos c3]; decide
      · rw [if_neg c3]; decide
theorem cJn_b {p q : Int32} : 0 ≤ (cJn o p q).toInt ∧ (cJn o p q).toInt ≤ 3 := by
  unfold cJn
  repeat' split
  all_goals decide
theorem cJ_b {p q : Int32} : 0 ≤ (cJoin o p q).toInt ∧ (cJoin o p q).toInt ≤ 3 := by
  unfold cJoin
  by_cases c : o = 2 ∨ o = 3 ∨ o = 5
  · rw [if_pos c]; exact cN_b
  · rw [if_neg c]; exact cJn_b
theorem i64z {y : Int64} : (y = 0) = (y = 0) := rfl
theorem w_num (W : WF w) (hi : wI w = 2) : w = pNum (wN w) := by
  obtain ⟨z0, z1, z2, z3, -⟩ := W.2.2.2.1 hi
  have el1 := W.2.2.1 (by rw [hi]; decide)
  obtain ⟨i, l, n, b0, b1, b2, b3⟩ := w
  simp only [wI, wL, w0, w1, w2, w3] at hi z0 z1 z2 z3 el1
  subst hi z0 z1 z2 z3 el1
  rfl
theorem r_one (H : RH m σ b h) (B : byE σ) (hR : R.toInt = r) (hr : r < 10100) (W : WF w) (K : RW σ r w) (o0 : 0 ≤ o.toInt) (o1 : o.toInt ≤ 3) : wq (vc lim (d + 3) m_Ref_one [aR m, aI k, aI o, aI R] h) (rI (oQ m b r σ (pOne o w))) := by
  obtain ⟨K0, K2, KL, K1⟩ := K
  have l0 := W.2.1.1
  have l1 := W.2.1.2
  refine wq_eq e_Ref_one ?_
  simp only [lg_eq, lgv_lt]
  refine wq_if _ (fun c => ?_) (fun c => ?_)
  · have c := le_i c
    have ho : o = 0 := Int32.toInt_inj.mp (by rw [Int32.toInt_zero] at *; omega)
    subst ho
    refine wq_gR H.1 rfl (rd0 H hR hr ?_)
    rw [K0]
    refine wq_if _ (fun c2 => ?_) (fun c2 => ?_)
    · have E : pOne 0 w = some (pNum (if wN w = 0 then 1 else 0)) := by simp [pOne, c2]
      refine wq_gR H.1 rfl (rd4 H hR hr ?_)
      rw [(K2 c2).2]
      refine wq_if _ (fun c3 => ?_) (fun c3 => ?_)
      · exact wq_at H.1 (z_tr (t := true) H B sm_0 hR hr rfl (by rw [E, if_pos c3]; rfl))
      · exact wq_at H.1 (z_tr (t := false) H B sm_0 hR hr rfl (by rw [E, if_neg c3]; rfl))
    · have E : pOne 0 w = some (pSettle w (pOnes w) (pZeros w) (pUnset w)) := by simp [pOne, c2]
      refine wq_gR H.1 rfl (rd0 H hR hr ?_)
      rw [K0]
      refine wq_if _ (fun c3 => ?_) (fun c3 => ?_)
      · refine wq_gR H.1 rfl (rd4 H hR hr ?_)
        rw [(KL c3).2, Int32.toInt32_toInt64]
        refine wq_cI r_not ?_
        rintro _ _ ⟨rfl, rfl⟩
        exact wq_at H.1 (z_log H B sm_0 hR hr E c3 (cd_settle W (by omega)))
      · have hi : wI w = 1 := by
          rcases W.1 with e | e | e
          · exact absurd e c3
          · exact e
          · exact absurd e c2
        obtain ⟨a1, a4, a5⟩ := K1 hi
        have L : ∀ (n : Nat) (v : Int32) (h : ah_H), v.toInt + n = (wL w).toInt → 0 ≤ v.toInt → RH m (setE σ r v.toInt.toNat fun k => cNot (el σ r k)) b h → wq (ah_val lim ah_P (d + 2) 78 132 [some (aR m), none, none, some (aI R), some (aI v)] [] h) (rI fun x h' => x = 1 ∧ RH m (setE σ r (wL w).toInt.toNat fun k => cNot (el σ r k)) b h') := by
          intro n
          induction n with
          | zero =>
            intro v h hv h0 H
            refine wq_eq q_78_132 (wq_gR H.1 rfl (rd1 H hR hr ?_))
            rw [setE_j (by decide), a1]
            refine wq_f (fun q => by have := lt_i q; omega) (wq_t (by decide) (wq_some (rI_i ⟨rfl, ?_⟩)))
            rw [show (wL w).toInt.toNat = v.toInt.toNat by omega]
            exact H
          | succ n ih =>
            intro v h hv h0 H
            have e1 := inc_i (v := v) (by omega)
            refine wq_eq q_78_132 (wq_gR H.1 rfl (rd1 H hR hr ?_))
            rw [setE_j (by decide), a1]
            refine wq_t (Int32.lt_iff_toInt_lt.mpr (by omega)) (wq_at H.1 (wq_cI (r_element H hR hr h0 (by omega)) ?_))
            rintro _ _ ⟨rfl, rfl⟩
            rw [setE_n (by omega)]
            refine wq_cI r_not ?_
            rintro _ _ ⟨rfl, rfl⟩
            refine wq_at H.1 (wq_cV (se_st H hR hr h0 (by omega) rfl cN_b.1 (Int.le_trans cN_b.2 (by decide))) fun h1 H1 => ih (v + 1) h1 (by omega) (by omega) ?_)
            rw [show (v + 1).toInt.toNat = v.toInt.toNat + 1 by omega]
            exact H1
        refine wq_mono (L (wL w).toInt.toNat 0 h (by rw [Int32.toInt_zero]; omega) (by rw [Int32.toInt_zero]; omega) (by rw [show (0 : Int32).toInt.toNat = 0 from rfl, setE_0]; exact H)) ?_
        rintro y ⟨x, h', rfl, rfl, H'⟩
        refine rI_i ?_
        rw [E]
        refine ⟨_, H', by_E B (fun k _ => ⟨cN_b.1, by have := (cN_b (v := el σ r k)).2; omega⟩), sm_E sm_0 (fun k _ => fq5 (by omega)), rfl, RW_mk1 hi ?_ ?_ a4 (fun k hk => ?_)⟩
        · rw [setE_j (by decide), K0, hi]
        · rw [setE_j (by decide)]
          exact a1
        · have hk : (k : Int) < (wL w).toInt := hk
          have ee : el (setE σ r (wL w).toInt.toNat fun k => cNot (el σ r k)) r k = cNot (el σ r k) := setE_e (by omega)
          rw [ee, a5 k hk]
          exact (cd_settle W hk).symm
  · have co : ¬ o = 0 := fun e => c (by rw [e]; decide)
    have Z : ∀ (y : Int64), (wI w = 2 → pOne o w = some (pNum y)) → wq (ah_val lim ah_P (d + 2) 78 46 [some (aR m), some (aI k), none, some (aI R), none] [aJ y, aI R, aR (m + 1 + 4)] h) (rI (oQ m b r σ (pOne o w))) := fun y hy => by
      refine wq_eq q_78_46 (rs_J H (j := 4) (by omega) rfl (by omega) (by show R.toInt < (10100 : Int); omega) (fun h1 H1 => wq_gR H1.1 rfl (rd0 H1 hR hr ?_)))
      rw [show R.toInt.toNat = r by omega] at H1
      have e0 : ia (sJ σ 4 R.toInt.toNat y) 0 r = wI w := K0
      rw [e0]
      refine wq_if _ (fun c2 => ?_) (fun c2 => ?_)
      · refine wq_t (by decide) (wq_some (rI_i ?_))
        rw [hy c2]
        refine ⟨_, H1, by_J B, sm_J sm_0 fq4, rfl, ?_⟩
        exact ⟨K0.trans c2, fun _ => ⟨(K2 c2).1, jaJ_e⟩, fun q => absurd q (by show ¬ (2 : Int32) = 0; decide), fun q => absurd q (by show ¬ (2 : Int32) = 1; decide)⟩
      · refine wq_at H1.1 (wq_cI (r_fail H1) fun x h2 p => ?_)
        rw [p.1]
        exact wq_t rfl (wq_t (by decide) (wq_some (rI_i (oQ_fail p.2 (by_J B) (sm_J sm_0 fq4) (by simp [pOne, c2, co]) rfl))))
    refine wq_gR H.1 rfl (wq_if _ (fun c2 => ?_) (fun c2 => wq_if _ (fun c3 => wq_gR H.1 rfl (rd4 H hR hr (wq_if _ (fun c4 => ?_) (fun c4 => ?_)))) (fun c3 => ?_)))
    · exact wq_gR H.1 rfl (rd4 H hR hr (Z _ (fun hi => by rw [(K2 hi).2]; simp [pOne, hi, c2])))
    · exact wq_gR H.1 rfl (rd4 H hR hr (Z _ (fun hi => by rw [(K2 hi).2] at c4 ⊢; simp [pOne, hi, c3, c4])))
    · refine wq_gR H.1 rfl (rd4 H hR hr (Z _ (fun hi => ?_)))
      rw [(K2 hi).2] at c4 ⊢
      rw [← w_num W hi]
      simp [pOne, hi, c3, c4]
    · refine wq_gR H.1 rfl (rd4 H hR hr (Z _ (fun hi => ?_)))
      rw [(K2 hi).2, ← w_num W hi]
      simp [pOne, hi, c2, c3, co]
end Vd
