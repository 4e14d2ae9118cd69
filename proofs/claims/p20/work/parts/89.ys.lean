/-! THE REFERENCE'S STATEMENTS: ASSIGN -/
def Rs (l : Int64) (b : Nat → Int64) (i : Nat) : Prop := (∀ j, j < i → 1 ≤ j → ¬ b j ≤ b (j - 1)) ∧ (1 ≤ i → l ≤ b 0)
section Ys
variable {lim : Nat × Nat} {d m n N B fv pp fr : Nat} {V : ENV} {ht : Nat → Nat} {a b : Nat → Int64} {F : FL} {σ σ' σ0 : rS} {bb h h' h1 : ah_H} {td : TD} {kS kV : Nat → Int32 × Int32} {v c k c0 l s v1 v2 R x32 ii : Int32} {Φ : ah_R → Prop} {T : KT} {r : RST} {e : Nat → TS} {w : WD} {o : Option SOUT} {aa : Nat → WD} {b2 : Nat → Int64} {q : Int32 × Int32 × Int32} {lm : Int64}
theorem Rs_s {z : Int64} {i : Nat} : Rs lm (upS b2 i z) (i + 1) ↔ (Rs lm b2 i ∧ (i = 0 → lm ≤ z) ∧ (1 ≤ i → ¬ z ≤ b2 (i - 1))) := by
  unfold Rs
  constructor
  · rintro ⟨h1, h2⟩
    refine ⟨⟨fun j hj j1 => ?_, fun i1 => ?_⟩, fun i0 => ?_, fun i1 => ?_⟩
    · have := h1 j (by omega) j1
      rw [upS_ne (by omega), upS_ne (by omega)] at this
      exact this
    · have := h2 (by omega)
      rw [upS_ne (by omega)] at this
      exact this
    · have := h2 (by omega)
      rw [i0, upS_eq] at this
      exact this
    · have := h1 i (by omega) i1
      rw [upS_eq, upS_ne (by omega)] at this
      exact this
  · rintro ⟨⟨h1, h2⟩, h3, h4⟩
    refine ⟨fun j hj j1 => ?_, fun i1 => ?_⟩
    · by_cases c : j = i
      · rw [c, upS_eq, upS_ne (by omega)]
        exact h4 (by omega)
      · rw [upS_ne c, upS_ne (by omega)]
        exact h1 j (by omega) j1
    · by_cases c : i = 0
      · rw [c, upS_eq]
        exact h3 c
      · rw [upS_ne (by omega)]
        exact h2 (by omega)
theorem TA_sm2 {r : Nat} (A : TA td σ) (G : sm (fQ r) σ σ') (hr : 9344 + td.2.1 ≤ r) : TA td σ' := by
  have eg : ∀ k, k ≠ 41 → k ≠ 42 → σ'.1 k = σ.1 k := fun k h1 h2 => G.1 k (fun q => by unfold fQ at q; omega)
  have ei : ∀ j i, 6 ≤ j → j < 100 → ia σ' j i = ia σ j i := fun j i h1 h2 => G.2.2.1 j i (fun q => by unfold fQ at q; omega)
  have ej : ∀ j i, 6 ≤ j → j < 100 → ja σ' j i = ja σ j i := fun j i h1 h2 => G.2.2.2 j i (fun q => by unfold fQ at q; omega)
  obtain ⟨a1, a2, a3, a4⟩ := A
  refine ⟨?_, fun i hi => ?_, ?_, fun w hw => ?_⟩
  · rw [eg 46 (by omega) (by omega), eg 47 (by omega) (by omega)]
    exact a1
  · rw [ei 31 _ (by omega) (by omega), ei 32 _ (by omega) (by omega), ei 33 _ (by omega) (by omega), ei 34 _ (by omega) (by omega), ei 35 _ (by omega) (by omega), ej 36 _ (by omega) (by omega), ei 37 _ (by omega) (by omega), ei 37 _ (by omega) (by omega)]
    exact a2 i hi
  · rw [ei 37 _ (by omega) (by omega)]
    exact a3
  · rw [ej 38 _ (by omega) (by omega)]
    obtain ⟨c1, c2, c3⟩ := a4 w hw
    exact ⟨c1, RW_sm c3 c2 G (by omega), c3⟩
theorem BS_sm2 {r : Nat} (S : BS V B fv pp ht e a b td F σ) (G : sm (fQ r) σ σ') (hr : 9344 + td.2.1 ≤ r) (hb : byE σ') : BS V B fv pp ht e a b td F σ' := by
  obtain ⟨⟨h1, h2, h3, h4, h5, h6⟩, x⟩ := S
  refine ⟨⟨NB_sm h1 G, EW_sm h2 G (by omega), hb, ?_, LM_sm h5 G, TA_sm2 h6 G hr⟩, FX_sm x G⟩
  rw [G.1 39 (fun q => by unfold fQ at q; omega)]
  exact h4
theorem RW_t {r : Nat} (W : WF w) (q : RW σ r w) (G : sm (fun j i => fQ 9872 j i ∨ (j = 101 ∧ i = 45)) σ σ') (hr : r < 9872) : RW σ' r w := RW_e q (G.2.2.1 0 _ (fun q => by unfold fQ at q; omega)) (G.2.2.1 1 _ (fun q => by unfold fQ at q; omega)) (G.2.2.2 4 _ (fun q => by unfold fQ at q; omega)) (fun k hk => G.2.2.1 5 _ (fun q => by unfold fQ at q; omega)) W
theorem BS_38 {x : Nat} {z : Int64} (S : BS V B fv pp ht e a b td F σ) (hx : td.2.1 ≤ x) : BS V B fv pp ht e a b td F (sJ σ 38 x z) := by
  have A := S.1.2.2.2.2.2
  refine ⟨BT_e S.1 (fun _ _ _ => rfl) (fun i => jaJ_j (by omega)) rfl ⟨A.1, fun i hi => ?_, A.2.2.1, fun w hw => ?_⟩, FX_e S.2 rfl (fun i => rfl) (fun i => rfl) (fun _ => jaJ_j (by omega)) (fun _ => jaJ_j (by omega))⟩
  · rw [jaJ_j (by omega)]
    exact A.2.1 i hi
  · obtain ⟨c1, c2, c3⟩ := A.2.2.2 w hw
    exact ⟨(jaJ_i (by omega)).trans c1, RW_e c2 rfl rfl (jaJ_j (by omega)) (fun _ _ => rfl) c3, c3⟩
theorem r_as_l (K : KQ V kS kV r.1) (hv : rgN V.1 v) (hm : (kf V.1 6 v).toInt = fr + N) (g : gTh V kS kV 80 (kC V.1 v 0)) (hw : ∀ i, i < N → kf V.1 6 (kC V.1 v (fr + i)) = 2 ∧ gEV V kS kV (kC V.1 (kC V.1 v (fr + i)) 0) ∧ gTV V kS kV (kC V.1 (kC V.1 v (fr + i)) 1)) (N1 : 1 ≤ N ∧ N ≤ 16) (f1 : fr ≤ 2) (hk : k.toInt = B + v.toInt) (hc0 : c0.toInt = B + (kC V.1 v 0).toInt) (hN : nrm V.1 F = goP V.1 0 v) (ea : pAim V r (kC V.1 v 0) = some q) : ∀ (n i : Nat) (ee ii fl : Int32) (h : ah_H) (σ : rS) (aa : Nat → WD) (b2 : Nat → Int64), ee.toInt = (if i < N then B + (kC V.1 v (fr + i)).toInt else -1) → ii.toInt = i → i + n = N → (fl = 1 ∧ Rs lm b2 i) ∨ (fl = 0 ∧ ¬ Rs lm b2 i) → RH m σ bb h → BS V B fv pp ht r.1 r.2.2.1 r.2.2.2.1 r.2.2.2.2 F σ → sm (QX pp fv V.2.2.2) σ0 σ → WV σ r.2.2.2.2.2.1 i aa b2 → σ.2.1 44 = lm → σ.1 43 = q.2.1 → o = ((waL V r (thS V r (ofT V.1 (kC V.1 v 0))) q.1 q.2.2 v fr n i aa b2).bind fun ab => if pRise lm ab.2 N ∧ r.2.2.2.2.1 < 200 ∧ r.2.2.2.2.2.1 + N ≤ 500 then some (r.1, r.2.2.1, r.2.2.2.1, tvL ab.1 ab.2 N 0 (tAct r.2.2.2.2 0 (kf V.1 1 (ofT V.1 (kC V.1 v 0))) q.2.1 q.2.2 (kf V.1 1 v) (Nat.toInt32 r.2.2.2.2.2.1) lm), 0, v) else none) → wq (ah_val lim ah_P (d + 210) 106 70 [some (aR m), some (aI k), some (aI c0), some (aI ee), some (aI ii), some (aI fl), none] [] h) (rI (rgM m bb V B fv pp ht r.1 r.2.2.2.2 σ0 o)) := by
  have P := K.1
  have e1 : (1 : Int32).toInt = 1 := rfl
  have e500 : (500 : Int32).toInt = 500 := rfl
  have e9344 : (9344 : Int32).toInt = 9344 := rfl
  have hc := (po_k P hv (i := 0) (by omega)).1
  intro n
  induction n with
  | zero =>
    intro i ee ii fl h σ aa b2 he hi hin hf H S G0 wv e44 e43 ho
    have iN : i = N := by omega
    subst iN
    rw [if_neg (by omega)] at he
    have e := eq_m1 he
    subst e
    obtain ⟨a1, a2, a3, a4⟩ := S.1.2.2.2.2.2.1
    have ho : o = if pRise lm b2 i ∧ r.2.2.2.2.1 < 200 ∧ r.2.2.2.2.2.1 + i ≤ 500 then some (r.1, r.2.2.1, r.2.2.2.1, tvL aa b2 i 0 (tAct r.2.2.2.2 0 (kf V.1 1 (ofT V.1 (kC V.1 v 0))) q.2.1 q.2.2 (kf V.1 1 v) (Nat.toInt32 r.2.2.2.2.2.1) lm), 0, v) else none := ho
    have no : ¬ (pRise lm b2 i ∧ r.2.2.2.2.1 < 200 ∧ r.2.2.2.2.2.1 + i ≤ 500) → o = none := fun q => ho.trans (if_neg q)
    refine wq_eq q_106_70 (wq_t rfl ?_)
    rcases hf with ⟨rfl, hr⟩ | ⟨rfl, hr⟩
    · refine wq_f (by decide) (wq_gI H.1 rfl (wq_if _ (fun c => ?_) (fun c => ?_)))
      · have : ¬ r.2.2.2.2.1 < 200 := by
          have := congrArg Int32.toInt c
          rw [show (200 : Int32).toInt = 200 from rfl] at this
          omega
        exact rq_fail H S G0 (fun σ4 h4 H4 S4 G4 => wq_t (Or.inl rfl) (wq_some (rI_i (rg_0 H4 G4 S4 (no (fun q => this q.2.1))))))
      · have lt : r.2.2.2.2.1 < 200 := by
          by_cases q : r.2.2.2.2.1 = 200
          · exact absurd (Int32.toInt_inj.mp (by rw [a1, q]; rfl)) c
          · omega
        have en : (σ.1 47 + ii).toInt = ((r.2.2.2.2.2.1 + i : Nat) : Int) := by rw [ad_i (by omega) (by omega)]; omega
        refine wq_gI H.1 rfl (wq_if _ (fun c5 => ?_) (fun c5 => ?_))
        · rw [Int32.le_iff_toInt_le, en, e500] at c5
          have l5 : r.2.2.2.2.2.1 + i ≤ 500 := by omega
          have ho := ho.trans (if_pos ⟨⟨hr.1, hr.2 N1.1⟩, lt, l5⟩)
          have fin : ∀ x32 : Int32, x32.toInt = B + (ofT V.1 (kC V.1 v 0)).toInt → wq (ah_val lim ah_P (d + 210) 106 300 [some (aR m), some (aI k), some (aI c0), none, some (aI ii), none, none] [aI x32, aR m] h) (rI (rgM m bb V B fv pp ht r.1 r.2.2.2.2 σ0 o)) := fun x32 hx => r_as_t K hv (by omega) g hk hc0 hN H S G0 ea e43 e44 hi lt l5 wv hx ho
          have mc : (kf V.1 0 (kC V.1 v 0) = 82 ∨ kf V.1 0 (kC V.1 v 0) = 83) → 0 < (kf V.1 6 (kC V.1 v 0)).toInt := fun c => by
            obtain ⟨-, ⟨g1, -⟩ | ⟨-, gm, -⟩ | ⟨-, gm, -⟩⟩ := g
            · rw [g1] at c; exact absurd c (by decide)
            · rw [gm]; decide
            · rw [gm]; decide
          refine wq_gR H.1 rfl (rd_k H hc0 S.1.1 hc (wq_if _ (fun c82 => wq_gR H.1 rfl (rd_c H hc0 S.1.1 hc (mc (Or.inl c82)) (fun c5 hc5 => fin c5 ?_))) (fun c82 => wq_gR H.1 rfl (rd_k H hc0 S.1.1 hc (wq_if _ (fun c83 => wq_gR H.1 rfl (rd_c H hc0 S.1.1 hc (mc (Or.inr c83)) (fun c5 hc5 => fin c5 ?_))) (fun c83 => fin c0 ?_))))))
          · rw [show ofT V.1 (kC V.1 v 0) = kC V.1 (kC V.1 v 0) 0 from if_pos (Or.inl c82)]
            exact hc5
          · rw [show ofT V.1 (kC V.1 v 0) = kC V.1 (kC V.1 v 0) 0 from if_pos (Or.inr c83)]
            exact hc5
          · rw [show ofT V.1 (kC V.1 v 0) = kC V.1 v 0 from if_neg (fun q => q.elim c82 c83)]
            exact hc0
        · rw [Int32.le_iff_toInt_le, en, e500] at c5
          exact rq_fail H S G0 (fun σ4 h4 H4 S4 G4 => wq_t (Or.inl rfl) (wq_some (rI_i (rg_0 H4 G4 S4 (no (fun q => c5 (by omega)))))))
    · exact wq_t rfl (rq_fail H S G0 (fun σ4 h4 H4 S4 G4 => wq_t (Or.inl rfl) (wq_some (rI_i (rg_0 H4 G4 S4 (no (fun q => hr ⟨q.1.1, fun _ => q.1.2⟩)))))))
  | succ n ih =>
    intro i ee ii fl h σ aa b2 he hi hin hf H S G0 wv e44 e43 ho
    have iN : i < N := by omega
    rw [if_pos iN] at he
    obtain ⟨x6, ge, gt⟩ := hw i iN
    have hce := (po_k P hv (i := fr + i) (by omega)).1
    have c0' := hce.1
    have nm : ¬ ee = -1 := fun q => by rw [q] at he; have : (-1 : Int32).toInt = -1 := rfl; omega
    have m1 : ((0 : Nat) : Int) + 1 < (kf V.1 6 (kC V.1 v (fr + i))).toInt := by rw [x6]; decide
    have eo : waL V r (thS V r (ofT V.1 (kC V.1 v 0))) q.1 q.2.2 v fr (n + 1) i aa b2 = (pWave V r (thS V r (ofT V.1 (kC V.1 v 0))) q.1 q.2.2 (kC V.1 v (fr + i))).bind fun q' => waL V r (thS V r (ofT V.1 (kC V.1 v 0))) q.1 q.2.2 v fr n (i + 1) (upS aa i q'.1) (upS b2 i q'.2) := rfl
    have no : pWave V r (thS V r (ofT V.1 (kC V.1 v 0))) q.1 q.2.2 (kC V.1 v (fr + i)) = none → o = none := fun q => by rw [ho, eo, q]; rfl
    refine wq_eq q_106_70 (wq_f nm (wq_gR H.1 rfl (rd_c H he S.1.1 hce (by rw [x6]; decide) (fun e18 h18 => rq_find (r := 9872) K H S G0 ge h18 rfl (by omega) (by omega) (fun ex σ1 h1 H1 S1 G1 => ?_) (fun w σ1 h1 ex H1 S1 G1 f1' q1 W1 => ?_)))))
    · exact wq_t (Or.inl rfl) (wq_some (rI_i (rg_0 H1 G1 S1 (no (by unfold pWave; rw [show EVL V r (kC V.1 (kC V.1 v (fr + i)) 0) = none from ex]; rfl)))))
    have ew : pWave V r (thS V r (ofT V.1 (kC V.1 v 0))) q.1 q.2.2 (kC V.1 v (fr + i)) = if pFit w (thS V r (ofT V.1 (kC V.1 v 0))) q.1 q.2.2 = true then (EVL V r (kC V.1 (kC V.1 v (fr + i)) 1)).bind fun t => some (w, wN t) else none := by
      unfold pWave
      rw [show EVL V r (kC V.1 (kC V.1 v (fr + i)) 0) = some w from ex]
      rfl
    refine rq_fits (Or.inl rfl) K H1 S1 G1 g hc0 q1 W1 ea (fun pf σ2 h2 H2 S2 G2 => ?_) (fun pf => ?_)
    · exact wq_t (Or.inl rfl) (wq_some (rI_i (rg_0 H2 G2 S2 (no (ew.trans (if_neg (by rw [pf]; decide)))))))
    rw [if_pos pf] at ew
    obtain ⟨a1, a2, a3, a4⟩ := S1.1.2.2.2.2.2.1
    have ei : (9344 + σ1.1 47 + ii).toInt = ((9344 + (r.2.2.2.2.2.1 + i) : Nat) : Int) := by
      have : (9344 + σ1.1 47).toInt = 9344 + (σ1.1 47).toInt := by rw [ad_i (by omega) (by omega), e9344]
      rw [ad_i (by omega) (by omega), this]
      omega
    refine wq_gI H1.1 rfl (wq_at H1.1 (wq_cV (r_copy (r := 9344 + (r.2.2.2.2.2.1 + i)) (s := 9872) H1 S1.1.2.2.1 ei (by omega) rfl (by omega) (by omega)) fun h3 H3 => ?_))
    have f3 : sm (fQ (9344 + (r.2.2.2.2.2.1 + i))) σ1 (sCp σ1 9872 (9344 + (r.2.2.2.2.2.1 + i))) := sm_cp sm_0
    have S3 := BS_sm2 S1 f3 (by omega) (by_cp S1.1.2.2.1 (by omega))
    have G3 := QX_m (by omega) G1 f3
    have q3 : RW (sCp σ1 9872 (9344 + (r.2.2.2.2.2.1 + i))) (9344 + (r.2.2.2.2.2.1 + i)) w := RW_cp q1 W1 (by omega)
    have i3 : (sCp σ1 9872 (9344 + (r.2.2.2.2.2.1 + i))).1 = σ1.1 := rfl
    have j3 : (sCp σ1 9872 (9344 + (r.2.2.2.2.2.1 + i))).2.1 = σ1.2.1 := rfl
    generalize sCp σ1 9872 (9344 + (r.2.2.2.2.2.1 + i)) = σ3 at H3 f3 S3 G3 q3 i3 j3
    refine wq_gR H3.1 rfl (wq_gR H3.1 rfl (rd_c H3 he S3.1.1 hce (by rw [x6]; decide) (fun e27 h27 => rd_x (i := 0) P H3 S3.1.1 hce m1 h27 (fun e28 h28 => rq_time K H3 S3 G3 gt h28 (fun et σ4 h4 H4 S4 G4 => ?_) (fun t σ4 h4 et H4 S4 G4 f4 e45 => ?_)))))
    · exact wq_t (Or.inl rfl) (wq_some (rI_i (rg_0 H4 G4 S4 (no (by rw [ew, show EVL V r (kC V.1 (kC V.1 v (fr + i)) 1) = none from et]; rfl)))))
    have ew : pWave V r (thS V r (ofT V.1 (kC V.1 v 0))) q.1 q.2.2 (kC V.1 v (fr + i)) = some (w, wN t) := by rw [ew, show EVL V r (kC V.1 (kC V.1 v (fr + i)) 1) = some t from et]; rfl
    rw [eo, ew] at ho
    obtain ⟨b1, b2', -, -⟩ := S4.1.2.2.2.2.2.1
    have ej : (σ4.1 47 + ii).toInt = ((r.2.2.2.2.2.1 + i : Nat) : Int) := by rw [ad_i (by omega) (by omega)]; omega
    refine wq_gR H4.1 rfl (wq_gI H4.1 rfl (wq_gJ H4.1 rfl (rs_NJ (j := 38) H4 (by omega) rfl ej (by show _ < 528; omega) (fun h5 H5 => ?_))))
    rw [e45] at H5
    have S5 := BS_38 (x := r.2.2.2.2.2.1 + i) (z := wN t) S4 (by omega)
    have G5 : sm (QX pp fv V.2.2.2) σ0 (sJ σ4 38 (r.2.2.2.2.2.1 + i) (wN t)) := sm_J G4 (by unfold QX; omega)
    have jj : ∀ x, ja σ4 38 x = ja σ 38 x := fun x => (f4.2.2.2 38 x (fun q => by unfold fQ at q; omega)).trans ((f3.2.2.2 38 x (fun q => by unfold fQ at q; omega)).trans (f1'.2.2.2 38 x (fun q => by unfold fQ at q; omega)))
    have wv5 : WV (sJ σ4 38 (r.2.2.2.2.2.1 + i) (wN t)) r.2.2.2.2.2.1 (i + 1) (upS aa i w) (upS b2 i (wN t)) := by
      intro j hj
      by_cases c : j = i
      · rw [c, upS_eq, upS_eq]
        exact ⟨jaJ_e, RW_e (RW_t W1 q3 f4 (by omega)) rfl rfl (jaJ_j (by omega)) (fun _ _ => rfl) W1, W1⟩
      · obtain ⟨d1, d2, d3⟩ := wv j (by omega)
        rw [upS_ne c, upS_ne c]
        exact ⟨(jaJ_i (by omega)).trans ((jj _).trans d1), RW_e (RW_t d3 (RW_sm d3 (RW_sm d3 d2 f1' (by omega)) f3 (by omega)) f4 (by omega)) rfl rfl (jaJ_j (by omega)) (fun _ _ => rfl) d3, d3⟩
    have e44' : (sJ σ4 38 (r.2.2.2.2.2.1 + i) (wN t)).2.1 44 = lm := (f4.2.1 44 (fun q => by unfold fQ at q; omega)).trans ((congrFun j3 44).trans ((f1'.2.1 44 (fun q => by unfold fQ at q; omega)).trans e44))
    have e43' : (sJ σ4 38 (r.2.2.2.2.2.1 + i) (wN t)).1 43 = q.2.1 := (f4.1 43 (fun q => by unfold fQ at q; omega)).trans ((congrFun i3 43).trans ((f1'.1 43 (fun q => by unfold fQ at q; omega)).trans e43))
    have ea1 : (ii + 1).toInt = ((i + 1 : Nat) : Int) := by rw [ad_i (by omega) (by omega), e1, hi]; rfl
    have nx : ∀ fl' : Int32, (fl' = 1 ∧ Rs lm (upS b2 i (wN t)) (i + 1)) ∨ (fl' = 0 ∧ ¬ Rs lm (upS b2 i (wN t)) (i + 1)) → wq (ah_gR h5 (some m) 11 16 fun r1 => ah_lI h5 r1 100 ee fun e2 => ah_val lim ah_P (d + 210) 106 70 [some (aR m), some (aI k), some (aI c0), some (aI e2), some (aI (ii + 1)), some (aI fl'), none] [] h5) (rI (rgM m bb V B fv pp ht r.1 r.2.2.2.2 σ0 o)) := by
      intro fl' hf'
      refine wq_gR H5.1 rfl (rN12' (i := fr + i) H5 S5.1.1 hv (by omega) hce he (fun e2 he2 => ?_))
      refine ih (i + 1) e2 (ii + 1) fl' h5 _ (upS aa i w) (upS b2 i (wN t)) ?_ ea1 (by omega) hf' H5 S5 G5 wv5 e44' e43' ho
      rw [he2]
      by_cases c : i + 1 < N
      · rw [if_pos c, if_pos (by omega)]
        rfl
      · rw [if_neg c, if_neg (by omega)]
    rcases hf with ⟨rfl, hr⟩ | ⟨rfl, hr⟩
    · refine wq_f (by decide) (wq_if _ (fun c0 => ?_) (fun c0 => ?_))
      · have i0 : i = 0 := by
          have := congrArg Int32.toInt c0
          rw [show (0 : Int32).toInt = 0 from rfl] at this
          omega
        refine wq_gJ H5.1 rfl (wq_gJ H5.1 rfl ?_)
        rw [e44', show (sJ σ4 38 (r.2.2.2.2.2.1 + i) (wN t)).2.1 45 = wN t from e45]
        refine wq_if _ (fun c => nx 1 (Or.inl ⟨rfl, Rs_s.mpr ⟨hr, fun _ => lgv_le.mp c, fun q => by omega⟩⟩)) (fun c => wq_eq q_106_207 (nx 0 (Or.inr ⟨rfl, fun q => c (lgv_le.mpr ((Rs_s.mp q).2.1 i0))⟩)))
      · have i1 : 1 ≤ i := by
          by_cases q : i = 0
          · exact absurd (Int32.toInt_inj.mp (by rw [hi, q]; rfl)) c0
          · omega
        have ek : (σ4.1 47 + ii - 1).toInt = ((r.2.2.2.2.2.1 + (i - 1) : Nat) : Int) := by rw [sb_i (by omega) (by omega), e1, ej]; omega
        refine wq_gJ H5.1 rfl (wq_gR H5.1 rfl (wq_gI H5.1 rfl (ra_J H5 (j := 38) (by omega) rfl (by show 0 ≤ (σ4.1 47 + ii - 1).toInt; omega) (by show (σ4.1 47 + ii - 1).toInt < (528 : Int); omega) ?_)))
        rw [show (sJ σ4 38 (r.2.2.2.2.2.1 + i) (wN t)).2.1 45 = wN t from e45, show ja (sJ σ4 38 (r.2.2.2.2.2.1 + i) (wN t)) 38 ((sJ σ4 38 (r.2.2.2.2.2.1 + i) (wN t)).1 47 + ii - 1).toInt.toNat = b2 (i - 1) by
          show ja (sJ σ4 38 (r.2.2.2.2.2.1 + i) (wN t)) 38 (σ4.1 47 + ii - 1).toInt.toNat = b2 (i - 1)
          rw [show (σ4.1 47 + ii - 1).toInt.toNat = r.2.2.2.2.2.1 + (i - 1) by omega, jaJ_i (by omega), jj]
          exact (wv (i - 1) (by omega)).1]
        refine wq_if _ (fun c => wq_eq q_106_207 (nx 0 (Or.inr ⟨rfl, fun q => (Rs_s.mp q).2.2 i1 (lgv_le.mp c)⟩))) (fun c => nx 1 (Or.inl ⟨rfl, Rs_s.mpr ⟨hr, fun q => by omega, fun _ q => c (lgv_le.mpr q)⟩⟩))
    · exact wq_t rfl (wq_eq q_106_207 (nx 0 (Or.inr ⟨rfl, fun q => hr (Rs_s.mp q).1⟩)))
end Ys
