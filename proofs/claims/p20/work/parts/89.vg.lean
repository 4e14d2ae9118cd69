/-! THE REFERENCE'S OPERATIONS ON TWO VALUES: sum, joined, shift -/
section Vg
variable {lim : Nat × Nat} {d m r s n : Nat} {σ σ' τ : rS} {b h h' h1 : ah_H} {R S k o x l q : Int32} {y z : Int64} {w v : WD} {res : Option WD}
theorem rd0' (H : RH m σ b h) (hR : R.toInt = r) (hr : r < 10100) {K1 : Int32 → Option ah_R} {Φ : ah_R → Prop} {e : Int32} (he : ia σ 0 r = e) (c : wq (K1 e) Φ) : wq (ah_gR h (some m) 11 1 fun r1 => ah_lI h r1 103 R K1) Φ := wq_gR H.1 rfl (rd0 H hR hr (by rw [he]; exact c))
theorem rd1' (H : RH m σ b h) (hR : R.toInt = r) (hr : r < 10100) {K1 : Int32 → Option ah_R} {Φ : ah_R → Prop} {e : Int32} (he : ia σ 1 r = e) (c : wq (K1 e) Φ) : wq (ah_gR h (some m) 11 2 fun r1 => ah_lI h r1 103 R K1) Φ := wq_gR H.1 rfl (rd1 H hR hr (by rw [he]; exact c))
theorem rd4' (H : RH m σ b h) (hR : R.toInt = r) (hr : r < 10100) {K1 : Int64 → Option ah_R} {Φ : ah_R → Prop} {e : Int64} (he : ja σ 4 r = e) (c : wq (K1 e) Φ) : wq (ah_gR h (some m) 11 5 fun r1 => ah_lJ h r1 101 R K1) Φ := wq_gR H.1 rfl (rd4 H hR hr (by rw [he]; exact c))
theorem y_294 (H : RH m τ b h) (hR : R.toInt = r) (hr : r < 10100) (e1 : ia τ 1 r = l) (l0 : 1 ≤ l.toInt) (l1 : l.toInt ≤ 64) : wq (ah_val lim ah_P (d + 2) 85 294 [some (aR m), none, none, some (aI R), none, some (aI 0), none, none, none, none, some (aI 0)] [] h) (rI fun x h' => x = 1 ∧ RH m (setE τ r l.toInt.toNat fun _ => 1) b h') := by
  have L : ∀ (n : Nat) (v : Int32) (h : ah_H), v.toInt + n = l.toInt → 0 ≤ v.toInt → RH m (setE τ r v.toInt.toNat fun _ => 1) b h → wq (ah_val lim ah_P (d + 2) 85 294 [some (aR m), none, none, some (aI R), none, some (aI 0), none, none, none, none, some (aI v)] [] h) (rI fun x h' => x = 1 ∧ RH m (setE τ r l.toInt.toNat fun _ => 1) b h') := by
    intro n
    induction n with
    | zero =>
      intro v h hv h0 H
      refine wq_eq q_85_294 (rd1' H hR hr ((setE_j (by decide)).trans e1) (wq_f (fun q => by have := lt_i q; omega) (wq_t (by decide) (wq_some (rI_i ⟨rfl, ?_⟩)))))
      rw [show l.toInt.toNat = v.toInt.toNat by omega]
      exact H
    | succ n ih =>
      intro v h hv h0 H
      have ei := inc_i (v := v) (by omega)
      refine wq_eq q_85_294 (rd1' H hR hr ((setE_j (by decide)).trans e1) (wq_t (Int32.lt_iff_toInt_lt.mpr (by omega)) (wq_t rfl (wq_at H.1 (wq_cV (se_st H hR hr h0 (by omega) rfl (by decide) (by decide)) fun h1 H1 => ih (v + 1) h1 (by omega) (by omega) ?_)))))
      rw [show (v + 1).toInt.toNat = v.toInt.toNat + 1 by omega]
      exact H1
  exact L l.toInt.toNat 0 h (by rw [Int32.toInt_zero]; omega) (by rw [Int32.toInt_zero]; omega) (by rw [show (0 : Int32).toInt.toNat = 0 from rfl, setE_0]; exact H)
theorem sRow_0 : ia (sRow σ r l) 0 r = 1 := by
  show ia (sI (sI σ 0 r 1) 1 r l) 0 r = 1
  rw [iaI_j (by decide), iaI_e]
theorem sRow_1 : ia (sRow σ r l) 1 r = l := iaI_e (σ := sI σ 0 r 1)
theorem sRow_4 : ja (sRow σ r l) 4 r = 0 := jaJ_e
theorem sRow_5 {i : Nat} : ia (sRow σ r l) 5 i = ia σ 5 i := by
  show ia (sI (sI σ 0 r 1) 1 r l) 5 i = _
  rw [iaI_j (by decide), iaI_j (by decide)]
/-- a row that has been written, element by element -/
theorem RW_rE {g : Nat → Int32} (h1 : wI w = 1) (hl : wL w = l) (l0 : 1 ≤ l.toInt) (l1 : l.toInt ≤ 64) (hg : ∀ k : Nat, (k : Int) < l.toInt → g k = cdW w k) : RW (setE (sRow σ r l) r l.toInt.toNat g) r w := by
  refine RW_mk1 h1 ?_ ?_ sRow_4 (fun k hk => ?_)
  · rw [setE_j (by decide), sRow_0]
  · rw [setE_j (by decide), sRow_1, hl]
  · rw [hl] at hk
    exact (setE_e (by omega)).trans (hg k hk)
theorem oQ_rE {g : Nat → Int32} (H : RH m (setE (sRow τ r l) r l.toInt.toNat g) b h') (B : byE τ) (G : sm (fQ r) σ τ) (e : res = some w) (h1 : wI w = 1) (hl : wL w = l) (l0 : 1 ≤ l.toInt) (l1 : l.toInt ≤ 64) (hg : ∀ k : Nat, (k : Int) < l.toInt → g k = cdW w k) (hx : x = 1) : oQ m b r σ res x h' := by
  rw [e]
  refine ⟨_, H, by_E (by_row B (by omega) l1) (fun k hk => ?_), sm_E (sm_row G) (fun k _ => fq5 (by omega)), hx, RW_rE h1 hl l0 l1 hg⟩
  rw [hg k (by omega)]
  have := cdW_bd (w := w) (k := k)
  omega
theorem cd_bits {k : Nat} (l0 : 1 ≤ l.toInt) (l1 : l.toInt ≤ 64) (hk : (k : Int) < l.toInt) : (if tb z k then (3 : Int32) else 2) = cdW (pHold 1 l z (-1) 0 0) k := by
  rw [cd_hold l0 l1 hk, tb_m1 (by omega), tb_0]
  cases tb z k <;> decide
/-- the end of sum -/
theorem y_261 {t : Bool} (H : RH m τ b h) (B : byE τ) (G : sm (fQ r) σ τ) (hR : R.toInt = r) (hr : r < 10100) (l0 : 1 ≤ l.toInt) (l1 : l.toInt ≤ 64) (e : res = if t then some (pHold 1 l (if q = 0 then y + z else y - z) (-1) 0 0) else some (pHold 1 l (-1) 0 0 0)) : wq (ah_val lim ah_P (d + 3) 85 261 [some (aR m), none, some (aI q), some (aI R), none, some (aI (bI t)), some (aJ y), none, some (aJ z), none, none] [aI l, aI R, aR m] h) (rI (oQ m b r σ res)) := by
  refine wq_eq q_85_261 (wq_at H.1 (wq_cV (r_row H hR hr (by omega) (by omega)) fun h1 H1 => ?_))
  have E1 : ia (sRow τ r l) 1 r = l := sRow_1
  cases t with
  | false =>
    refine wq_t rfl (wq_mono (y_294 H1 hR hr E1 l0 l1) ?_)
    rintro _ ⟨x, h2, rfl, rfl, H2⟩
    refine rI_i (oQ_rE H2 B G e rfl rfl l0 l1 (fun k hk => ?_) rfl)
    rw [cd_hold l0 l1 hk, tb_m1 (by omega), tb_0]
    decide
  | true =>
    have D : ∀ (u : Int64) (h2 : ah_H), res = some (pHold 1 l u (-1) 0 0) → RH m (setE (sRow τ r l) r (ia (sRow τ r l) 1 r).toInt.toNat fun k => if tb u k then 3 else 2) b h2 → wq (ah_val lim ah_P (d + 3) 85 294 [some (aR m), none, none, some (aI R), none, some (aI 1), none, none, none, none, some (aI 0)] [] h2) (rI (oQ m b r σ res)) := fun u h2 e2 H2 => by
      rw [E1] at H2
      refine wq_eq q_85_294 (rd1' H2 hR hr ((setE_j (by decide)).trans E1) (wq_t (Int32.lt_iff_toInt_lt.mpr (by rw [Int32.toInt_zero]; omega)) (wq_f (by decide) (wq_t (by decide) (wq_some (rI_i ?_))))))
      exact oQ_rE H2 B G e2 rfl rfl l0 l1 (fun k hk => cd_bits l0 l1 hk) rfl
    refine wq_f (by decide) (wq_if _ (fun c => ?_) (fun c => ?_))
    · exact wq_at H1.1 (wq_cV (r_bits H1 hR hr (by rw [E1]; omega) (by rw [E1]; exact l1)) fun h2 H2 => D _ h2 (by rw [e, if_pos c]; rfl) H2)
    · exact wq_at H1.1 (wq_cV (r_bits H1 hR hr (by rw [E1]; omega) (by rw [E1]; exact l1)) fun h2 H2 => D _ h2 (by rw [e, if_neg c]; rfl) H2)
def pSum (o : Int32) (w v : WD) : Option WD := if wI w = 2 ∧ wI v = 2 then pNumbers o w v else pRows o w v
theorem r_sum (H : RH m σ b h) (B : byE σ) (hR : R.toInt = r) (hS : S.toInt = s) (hs : s < 10100) (hrs : r < s) (W : WF w) (K : RW σ r w) (V : WF v) (L : RW σ s v) (ho : (o = 12 ∧ q = 0) ∨ (o = 13 ∧ q = 1)) : wq (vc lim (d + 4) m_Ref_sum [aR m, aI k, aI q, aI R, aI S] h) (rI (oQ m b r σ (pSum o w v))) := by
  have hr : r < 10100 := by omega
  have EK := RW_len W K
  have EL := RW_len V L
  have KK := K
  have LL' := L
  obtain ⟨K0, K2, KL, K1⟩ := K
  obtain ⟨L0, L2, LL, L1⟩ := L
  have hq : (o = 12) ↔ q = 0 := by rcases ho with ⟨rfl, rfl⟩ | ⟨rfl, rfl⟩ <;> decide
  refine wq_eq e_Ref_sum (rd0' H hR hr K0 (wq_if _ (fun c => ?_) (fun c => rd0' H hS hs L0 (wq_if _ (fun c1 => ?_) (fun c1 => ?_)))))
  · exact wq_at H.1 (z_fail H B sm_0 (by rw [pSum, if_neg (fun e => absurd e.1 (by rw [c]; decide)), pRows, if_pos c]))
  · exact wq_at H.1 (z_fail H B sm_0 (by rw [pSum, if_neg (fun e => by rw [c1] at e; exact absurd e.2 (by decide)), pRows, if_neg c, if_pos c1]))
  have ROWS : ¬ (wI w = 2 ∧ wI v = 2) → wq (ah_val lim ah_P (d + 3) 85 89 [some (aR m), some (aI k), some (aI q), some (aI R), some (aI S), none, none, none, none, none, none] [] h) (rI (oQ m b r σ (pSum o w v))) := fun nn => by
    have E : pSum o w v = if wI w = wI v ∧ ¬ wL w = wL v then none else if (wI w = 1 ∧ pClear w = false) ∨ (wI v = 1 ∧ pClear v = false) then some (pHold 1 (if wI w = 1 then wL w else wL v) (-1) 0 0 0) else some (pHold 1 (if wI w = 1 then wL w else wL v) (if o = 12 then pOf w + pOf v else pOf w - pOf v) (-1) 0 0) := by
      rw [pSum, if_neg nn, pRows, if_neg c, if_neg c1]
    have G133 : ¬ (wI w = wI v ∧ ¬ wL w = wL v) → wq (ah_val lim ah_P (d + 3) 85 133 [some (aR m), none, some (aI q), some (aI R), some (aI S), none, none, none, none, none, none] [] h) (rI (oQ m b r σ (pSum o w v))) := fun n2 => by
      have E2 : ∀ t : Bool, (t = false ↔ ((wI w = 1 ∧ pClear w = false) ∨ (wI v = 1 ∧ pClear v = false))) → pSum o w v = if t then some (pHold 1 (if wI w = 1 then wL w else wL v) (if q = 0 then pOf w + pOf v else pOf w - pOf v) (-1) 0 0) else some (pHold 1 (if wI w = 1 then wL w else wL v) (-1) 0 0 0) := fun t ht => by
        rw [E, if_neg n2]
        cases t with
        | false => rw [if_pos (ht.mp rfl)]; rfl
        | true => rw [if_neg (fun e => absurd (ht.mpr e) (by decide))]; simp only [hq]; rfl
      have ll : 1 ≤ (if wI w = 1 then wL w else wL v).toInt ∧ (if wI w = 1 then wL w else wL v).toInt ≤ 64 := by
        by_cases ci : wI w = 1
        · rw [if_pos ci]; exact W.2.1
        · rw [if_neg ci]; exact V.2.1
      have G231 : ∀ t : Bool, (t = false ↔ ((wI w = 1 ∧ pClear w = false) ∨ (wI v = 1 ∧ pClear v = false))) → wq (ah_val lim ah_P (d + 3) 85 231 [some (aR m), none, some (aI q), some (aI R), some (aI S), some (aI (bI t)), some (aJ (pOf w)), none, none, none, none] [aJ (pOf v)] h) (rI (oQ m b r σ (pSum o w v))) := fun t ht => by
        have e2 := E2 t ht
        refine wq_eq q_85_231 (rd0' H hR hr K0 (wq_if _ (fun ci => ?_) (fun ci => ?_)))
        · rw [if_pos ci] at e2 ll
          exact rd1' H hR hr (EK.trans (if_pos ci)) (y_261 H B sm_0 hR hr ll.1 ll.2 e2)
        · rw [if_neg ci] at e2 ll
          have cv : wI v = 1 := wi1 V c1 (fun e => nn ⟨by rcases W.1 with e' | e' | e'; exact absurd e' c; exact absurd e' ci; exact e', e⟩)
          exact rd1' H hS hs (EL.trans (if_pos cv)) (y_261 H B sm_0 hR hr ll.1 ll.2 e2)
      have G202 : ∀ t : Bool, (t = false ↔ ((wI w = 1 ∧ pClear w = false) ∨ (wI v = 1 ∧ pClear v = false))) → wq (ah_val lim ah_P (d + 3) 85 202 [some (aR m), none, some (aI q), some (aI R), some (aI S), some (aI (bI t)), none, none, none, none, none] [aJ (pOf w)] h) (rI (oQ m b r σ (pSum o w v))) := fun t ht => by
        refine wq_eq q_85_202 (rd0' H hS hs L0 (wq_if _ (fun ci => ?_) (fun ci => ?_)))
        · refine wq_at H.1 (wq_cJ (r_nO H hS hs V LL' ci) ?_)
          rintro _ _ ⟨rfl, rfl⟩
          have := G231 t ht
          rw [show pOf v = pOnes v from if_pos ci] at this
          exact this
        · have cv : wI v = 2 := by rcases V.1 with e' | e' | e'; exact absurd e' c1; exact absurd e' ci; exact e'
          refine rd4' H hS hs (L2 cv).2 ?_
          have := G231 t ht
          rw [show pOf v = wN v from if_neg ci] at this
          exact this
      have G176 : ∀ t : Bool, (t = false ↔ ((wI w = 1 ∧ pClear w = false) ∨ (wI v = 1 ∧ pClear v = false))) → wq (ah_val lim ah_P (d + 3) 85 176 [some (aR m), none, some (aI q), some (aI R), some (aI S), none, none, none, none, none, none] [aI (bI t)] h) (rI (oQ m b r σ (pSum o w v))) := fun t ht => by
        refine wq_eq q_85_176 (rd0' H hR hr K0 (wq_if _ (fun ci => ?_) (fun ci => ?_)))
        · refine wq_at H.1 (wq_cJ (r_nO H hR hr W KK ci) ?_)
          rintro _ _ ⟨rfl, rfl⟩
          have := G202 t ht
          rw [show pOf w = pOnes w from if_pos ci] at this
          exact this
        · have cw : wI w = 2 := by rcases W.1 with e' | e' | e'; exact absurd e' c; exact absurd e' ci; exact e'
          refine rd4' H hR hr (K2 cw).2 ?_
          have := G202 t ht
          rw [show pOf w = wN w from if_neg ci] at this
          exact this
      have G151 : ¬ (wI w = 1 ∧ pClear w = false) → wq (ah_val lim ah_P (d + 3) 85 151 [some (aR m), none, some (aI q), some (aI R), some (aI S), none, none, none, none, none, none] [] h) (rI (oQ m b r σ (pSum o w v))) := fun n3 => by
        refine wq_eq q_85_151 (rd0' H hS hs L0 (wq_if _ (fun ci => ?_) (fun ci => ?_)))
        · refine wq_at H.1 (wq_cI (r_clr H hS hs V LL' ci) ?_)
          rintro _ _ ⟨rfl, rfl⟩
          cases hc : pClear v with
          | false => exact wq_t rfl (G176 false ⟨fun _ => Or.inr ⟨ci, hc⟩, fun _ => rfl⟩)
          | true => exact wq_f (by decide) (G176 true ⟨fun e => (by cases e), fun e => e.elim (fun e => absurd e n3) (fun e => by rw [hc] at e; cases e.2)⟩)
        · exact G176 true ⟨fun e => (by cases e), fun e => e.elim (fun e => absurd e n3) (fun e => absurd e.1 ci)⟩
      refine wq_eq q_85_133 (rd0' H hR hr K0 (wq_if _ (fun ci => ?_) (fun ci => G151 (fun e => ci e.1))))
      refine wq_at H.1 (wq_cI (r_clr H hR hr W KK ci) ?_)
      rintro _ _ ⟨rfl, rfl⟩
      cases hc : pClear w with
      | false => exact wq_t rfl (G176 false ⟨fun _ => Or.inl ⟨ci, hc⟩, fun _ => rfl⟩)
      | true => exact wq_f (by decide) (G151 (fun e => by rw [hc] at e; cases e.2))
    refine wq_eq q_85_89 (rd0' H hR hr K0 (wq_if _ (fun ci => rd0' H hS hs L0 (wq_if _ (fun cj => ?_) (fun cj => G133 ?_))) (fun ci => G133 ?_)))
    · refine rd1' H hR hr (EK.trans (if_pos ci)) (rd1' H hS hs (EL.trans (if_pos cj)) (wq_if _ (fun cl => G133 (fun e => e.2 cl)) (fun cl => ?_)))
      exact wq_at H.1 (z_fail H B sm_0 (by rw [E, if_pos ⟨ci.trans cj.symm, cl⟩]))
    · exact fun e => cj (e.1.symm.trans ci)
    · refine fun e => e.2 ((W.2.2.1 ci).trans (V.2.2.1 (fun e2 => ci (e.1.trans e2))).symm)
  refine rd0' H hR hr K0 (wq_if _ (fun c2 => rd0' H hS hs L0 (wq_if _ (fun c3 => ?_) (fun c3 => ROWS (fun e => c3 e.2)))) (fun c2 => ROWS (fun e => c2 e.1)))
  refine wq_if _ (fun c4 => ?_) (fun c4 => ?_)
  · have o12 := hq.mpr c4
    exact rd4' H hR hr (K2 c2).2 (rd4' H hS hs (L2 c3).2 (wq_at H.1 (z_bnd H B sm_0 hR hr (by rw [pSum, if_pos ⟨c2, c3⟩, pNumbers, if_pos c2, if_pos c3, if_pos o12]))))
  · have o12 : ¬ o = 12 := fun e => c4 (hq.mp e)
    have o13 : o = 13 := by rcases ho with e | e; exact absurd e.1 o12; exact e.1
    exact rd4' H hR hr (K2 c2).2 (rd4' H hS hs (L2 c3).2 (wq_at H.1 (z_bnd H B sm_0 hR hr (by rw [pSum, if_pos ⟨c2, c3⟩, pNumbers, if_pos c2, if_pos c3, if_neg o12, if_pos o13]))))
end Vg
