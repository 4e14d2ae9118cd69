/-! WHAT OTHER CALLS LEAVE OF A PROCESS IN THE REFERENCE -/
section Zb
variable {m n N B fv pp nU nS nV : Nat} {ht : Nat → Nat} {a b : Nat → Int64} {F : FL} {σ σ' : rS} {td : TD} {T : KT} {e eS : Nat → TS} {w : WD} {s : US} {Q : Nat → Nat → Prop}
theorem RW_q {r : Nat} (q : RW σ r w) (W : WF w) (G : sm Q σ σ') (hQ : ∀ j i, Q j i → ¬ ((j ≤ 4 ∧ i = r) ∨ (j = 5 ∧ 64 * r ≤ i ∧ i < 64 * r + 64))) : RW σ' r w := RW_e q (G.2.2.1 0 _ (fun q => hQ _ _ q (Or.inl ⟨by omega, rfl⟩))) (G.2.2.1 1 _ (fun q => hQ _ _ q (Or.inl ⟨by omega, rfl⟩))) (G.2.2.2 4 _ (fun q => hQ _ _ q (Or.inl ⟨by omega, rfl⟩))) (fun k hk => G.2.2.1 5 _ (fun q => hQ _ _ q (Or.inr ⟨rfl, by omega, by omega⟩))) W
theorem SGx_sm (SG : SGx nS eS σ) (G : sm Q σ σ') (hQ : ∀ j i, Q j i → ¬ ((j ≤ 4 ∧ i < 1024) ∨ (j = 5 ∧ i < 65536) ∨ ((j = 6 ∨ j = 7) ∧ i < 512))) : SGx nS eS σ' := by
  refine ⟨SG.1, fun i hi => ?_⟩
  have h5 := SG.1
  obtain ⟨⟨p1, p2, p3, p4, p5, p6, p7⟩, p8⟩ := SG.2 i hi
  have e : ∀ j, j = 2 ∨ j = 3 ∨ j = 6 ∨ j = 7 → ia σ' j i = ia σ j i := fun j hj => G.2.2.1 j i (fun q => hQ _ _ q (by omega))
  rw [e 2 (by omega), e 3 (by omega), e 6 (by omega), e 7 (by omega)]
  exact ⟨⟨RW_q p1 p3 G (fun j i q => by have := hQ j i q; omega), RW_q p2 p4 G (fun j i q => by have := hQ j i q; omega), p3, p4, p5, p6, p7⟩, p8⟩
theorem NB_r (H : NB T B σ) (P : PO T) (e : ∀ j i, 8 ≤ j → j ≤ 12 → B ≤ i → i < B + T.1 → ia σ' j i = ia σ j i) : NB T B σ' := by
  refine ⟨H.1, fun v hv => ?_⟩
  have v0 := hv.1
  have v1 := hv.2
  obtain ⟨n1, n2, n3, n4, n5, n6⟩ := H.2 v hv
  rw [e 8 _ (by omega) (by omega) (by omega) (by omega), e 9 _ (by omega) (by omega) (by omega) (by omega), e 10 _ (by omega) (by omega) (by omega) (by omega), e 11 _ (by omega) (by omega) (by omega) (by omega)]
  refine ⟨n1, n2, n3, n4, n5, fun i hi => ?_⟩
  have c := (po_k P hv hi).1
  have c0 := c.1
  have c1 := c.2
  rw [e 12 _ (by omega) (by omega) (by omega) (by omega)]
  exact n6 i hi
theorem UVx_sm (P : PO T) (U : UVx T nV B fv pp e σ) (G : sm Q σ σ') (hQ : ∀ j i, Q j i → ¬ ((j ≤ 4 ∧ 1024 + fv ≤ i ∧ i < 1024 + fv + nV) ∨ (j = 5 ∧ 64 * (1024 + fv) ≤ i ∧ i < 64 * (1024 + fv + nV)) ∨ (8 ≤ j ∧ j ≤ 12 ∧ B ≤ i ∧ i < B + T.1) ∨ ((j = 17 ∨ j = 18) ∧ i = pp))) : UVx T nV B fv pp e σ' := by
  obtain ⟨u1, u2, u3, u4, u5, u6⟩ := U
  refine ⟨NB_r u1 P (fun j i j1 j2 i1 i2 => G.2.2.1 j i (fun q => hQ _ _ q (by omega))), u2, u3, ?_, ?_, fun i hi => ⟨⟨RW_q (u6 i hi).1.1 (u6 i hi).1.2 G (fun j i q => by have := hQ j i q; omega), (u6 i hi).1.2⟩, fun hw => ?_⟩⟩
  · rw [show ia σ' 18 pp = ia σ 18 pp from G.2.2.1 18 pp (fun q => hQ _ _ q (by omega))]
    exact u4
  · rw [show ia σ' 17 pp = ia σ 17 pp from G.2.2.1 17 pp (fun q => hQ _ _ q (by omega))]
    exact u5
  · rw [show ia σ' 2 (1024 + fv + i) = ia σ 2 (1024 + fv + i) from G.2.2.1 2 _ (fun q => hQ _ _ q (by omega)), show ia σ' 3 (1024 + fv + i) = ia σ 3 (1024 + fv + i) from G.2.2.1 3 _ (fun q => hQ _ _ q (by omega))]
    exact (u6 i hi).2 hw
theorem FC_lt {S : Nat} : ∀ F : FL, (∀ i, S ≤ i → i < S + F.length → ja σ' 29 i = ja σ 29 i ∧ ja σ' 30 i = ja σ 30 i) → FC T σ S a b F → FC T σ' S a b F
  | [], _, _ => trivial
  | q :: F, e, ⟨h1, h2⟩ => ⟨fun c => by rw [(e _ (by omega) (by show S + F.length < S + (F.length + 1); omega)).1, (e _ (by omega) (by show S + F.length < S + (F.length + 1); omega)).2]; exact h1 c, FC_lt F (fun i h0 hi => e i h0 (by show i < S + (F.length + 1); omega)) h2⟩
theorem FK_r {S : Nat} : ∀ F : FL, (∀ i, S ≤ i → i < S + F.length → ia σ' 27 i = ia σ 27 i ∧ ia σ' 28 i = ia σ 28 i) → FK σ S B F → FK σ' S B F
  | [], _, _ => trivial
  | q :: F, e, ⟨h1, h2, h3⟩ => ⟨by rw [(e _ (by omega) (by show S + F.length < S + (F.length + 1); omega)).1]; exact h1, by rw [(e _ (by omega) (by show S + F.length < S + (F.length + 1); omega)).2]; exact h2, FK_r F (fun i h0 hi => e i h0 (by show i < S + (F.length + 1); omega)) h3⟩
theorem FX_r (HH : HT T ht) (H : FX T B pp ht a b F σ) (G : sm Q σ σ') (hQ : ∀ j i, Q j i → ¬ ((j = 26 ∧ i = pp) ∨ (27 ≤ j ∧ j ≤ 30 ∧ 128 * pp ≤ i ∧ i < 128 * pp + 128))) : FX T B pp ht a b F σ' := by
  have l := SF_101 H.2.2.2 HH
  refine ⟨?_, FK_r F (fun i h0 hi => ⟨G.2.2.1 27 i (fun q => hQ _ _ q (by omega)), G.2.2.1 28 i (fun q => hQ _ _ q (by omega))⟩) H.2.1, FC_lt F (fun i h0 hi => ⟨G.2.2.2 29 i (fun q => hQ _ _ q (by omega)), G.2.2.2 30 i (fun q => hQ _ _ q (by omega))⟩) H.2.2.1, H.2.2.2⟩
  rw [show ia σ' 26 pp = ia σ 26 pp from G.2.2.1 26 pp (fun q => hQ _ _ q (by omega))]
  exact H.1
theorem UWx_sm (HH : HT T ht) (U : UWx T B pp ht s a b σ) (G : sm Q σ σ') (hQ : ∀ j i, Q j i → ¬ ((20 ≤ j ∧ j ≤ 26 ∧ i = pp) ∨ (27 ≤ j ∧ j ≤ 30 ∧ 128 * pp ≤ i ∧ i < 128 * pp + 128))) : UWx T B pp ht s a b σ' := by
  obtain ⟨u1, u2, u3⟩ := U
  refine ⟨(G.2.2.1 20 pp (fun q => hQ _ _ q (by omega))).trans u1, fun c => ?_, fun c => ?_⟩
  · obtain ⟨c1, F, c2, c3⟩ := u2 c
    exact ⟨(G.2.2.1 23 pp (fun q => hQ _ _ q (by omega))).trans c1, F, FX_r HH c2 G (fun j i q => by have := hQ j i q; omega), c3⟩
  · rw [show ia σ' 24 pp = ia σ 24 pp from G.2.2.1 24 pp (fun q => hQ _ _ q (by omega)), show ja σ' 25 pp = ja σ 25 pp from G.2.2.2 25 pp (fun q => hQ _ _ q (by omega))]
    exact u3 c
theorem TA_Q (A : TA td σ) (G : sm Q σ σ') (hQ : ∀ j i, Q j i → ¬ ((31 ≤ j ∧ j ≤ 38) ∨ (j ≤ 4 ∧ 9344 ≤ i ∧ i < 9844) ∨ (j = 5 ∧ 598016 ≤ i ∧ i < 630016) ∨ (j = 100 ∧ (i = 46 ∨ i = 47)))) : TA td σ' := by
  obtain ⟨a1, a2, a3, a4⟩ := A
  have ei : ∀ j i, 31 ≤ j → j ≤ 38 → ia σ' j i = ia σ j i := fun j i h1 h2 => G.2.2.1 j i (fun q => hQ _ _ q (by omega))
  have ej : ∀ j i, 31 ≤ j → j ≤ 38 → ja σ' j i = ja σ j i := fun j i h1 h2 => G.2.2.2 j i (fun q => hQ _ _ q (by omega))
  refine ⟨?_, fun i hi => ?_, ?_, fun x hx => ?_⟩
  · rw [G.1 46 (fun q => hQ _ _ q (by omega)), G.1 47 (fun q => hQ _ _ q (by omega))]
    exact a1
  · rw [ei 31 _ (by omega) (by omega), ei 32 _ (by omega) (by omega), ei 33 _ (by omega) (by omega), ei 34 _ (by omega) (by omega), ei 35 _ (by omega) (by omega), ej 36 _ (by omega) (by omega), ei 37 _ (by omega) (by omega), ei 37 _ (by omega) (by omega)]
    exact a2 i hi
  · rw [ei 37 _ (by omega) (by omega)]
    exact a3
  · rw [ej 38 _ (by omega) (by omega)]
    obtain ⟨d1, d2, d3⟩ := a4 x hx
    have := a1.2.2.2
    exact ⟨d1, RW_q d2 d3 G (fun j i q => by have := hQ j i q; omega), d3⟩
/-- what a run gives back -/
theorem BT_SGx {V : ENV} (T : BT V B fv pp e td σ) : SGx V.2.1 V.2.2.1 σ := ⟨T.2.1.1.1, fun i hi => ⟨T.2.1.2.1 i hi, T.2.2.2.2.1.1 i hi⟩⟩
theorem BT_UVx {V : ENV} (T : BT V B fv pp e td σ) (h17 : (ia σ 17 pp).toInt = B + (rtV V.1).toInt) : UVx V.1 V.2.2.2 B fv pp e σ := by
  obtain ⟨t1, ⟨⟨c1, c2, c3, c4, c5⟩, t2, t3⟩, t4, ⟨t5, t6⟩, t7, t8⟩ := T
  refine ⟨t1, c2, t6, ?_, h17, fun i hi => ⟨t3 i hi, t7.2 i hi⟩⟩
  rw [show (σ.1 39).toInt.toNat = pp by omega] at c5
  exact c5
end Zb
