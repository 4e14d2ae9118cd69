/-! THE REFERENCE'S STATEMENTS: a loop's head -/
section Yp
variable {lim : Nat × Nat} {d m n B fv pp : Nat} {V : ENV} {ht : Nat → Nat} {a b a' b' : Nat → Int64} {F F' : FL} {σ σ' σ0 : rS} {bb h h' h1 : ah_H} {td : TD} {kS kV : Nat → Int32 × Int32} {v c k k2 l s v1 v2 R L : Int32} {Φ : ah_R → Prop} {T : KT} {r : RST} {e e' : Nat → TS} {w : WD} {o : Option SOUT} {x y : Int64}
/-- a loop's counter -/
theorem rq_29 {K : Int64 → Option ah_R} {x : Int32} (HH : HT V.1 ht) (H : RH m σ bb h) (S : BS V B fv pp ht e a b td ((v, c) :: F) σ) (h38 : kf V.1 0 v = 38 ∨ kf V.1 0 v = 39) (hx : x.toInt = ((128 * pp + F.length : Nat) : Int)) (k : wq (K (a v.toInt.toNat)) Φ) : wq (ah_lJ h (some (m + 1 + 29)) 101 x K) Φ := by
  have l' : F.length + 1 ≤ 101 := SF_101 S.2.2.2.2 HH
  have p := S.1.2.2.2.1.2
  refine ra_J H (j := 29) (by omega) rfl (by omega) (by show _ < (8192 : Int); omega) ?_
  rw [show x.toInt.toNat = 128 * pp + F.length by omega, (S.2.2.2.1.1 h38).1]
  exact k
theorem rq_30 {K : Int64 → Option ah_R} {x : Int32} (HH : HT V.1 ht) (H : RH m σ bb h) (S : BS V B fv pp ht e a b td ((v, c) :: F) σ) (h38 : kf V.1 0 v = 38 ∨ kf V.1 0 v = 39) (hx : x.toInt = ((128 * pp + F.length : Nat) : Int)) (k : wq (K (b v.toInt.toNat)) Φ) : wq (ah_lJ h (some (m + 1 + 30)) 101 x K) Φ := by
  have l' : F.length + 1 ≤ 101 := SF_101 S.2.2.2.2 HH
  have p := S.1.2.2.2.1.2
  refine ra_J H (j := 30) (by omega) rfl (by omega) (by show _ < (8192 : Int); omega) ?_
  rw [show x.toInt.toNat = 128 * pp + F.length by omega, (S.2.2.2.1.1 h38).2.1]
  exact k
theorem l64t {x : Int64} {y : Int32} : lg_cmp x y.toInt64 < 0 ↔ x.toInt < y.toInt := by rw [lgv_lt, Int64.lt_iff_toInt_lt, Int32.toInt_toInt64]
theorem l64e {x : Int64} {y : Int32} : lg_cmp x y.toInt64 ≤ 0 ↔ x.toInt ≤ y.toInt := by rw [lgv_le, Int64.le_iff_toInt_le, Int32.toInt_toInt64]
theorem r_look (K : KQ V kS kV r.1) (HG : GT V.1) (HH : HT V.1 ht) (hv : rgN V.1 v) (hl : isLp (kf V.1 0 v) = true) (g : gSr V kS kV v) (gt : gSt V kS kV v) (hk : k.toInt = B + v.toInt) (H : RH m σ bb h) (S : BS V B fv pp ht r.1 r.2.2.1 r.2.2.2.1 r.2.2.2.2 ((v, -1) :: F) σ) (G0 : sm (QX pp fv V.2.2.2) σ0 σ) : wq (vc lim (d + 211) 93 [aR m, aI k] h) (rI (rgM m bb V B fv pp ht r.1 r.2.2.2.2 σ0 (sLook V r v))) := by
  have P := K.1
  have hb := (SF_lp S.2.2.2.2 hl).2
  -- into the body
  have inn : ∀ (l e2 : Int32) (h : ah_H) (σ : rS) (e' : Nat → TS) (a' b' : Nat → Int64), bdy V.1 l → xU V.1 l = v → e2.toInt = B + l.toInt → RH m σ bb h → BS V B fv pp ht e' a' b' r.2.2.2.2 ((v, -1) :: F) σ → sm (QX pp fv V.2.2.2) σ0 σ → sLook V r v = some (e', a', b', r.2.2.2.2, 1, l) → wq (ah_val lim ah_P (d + 210) 93 251 [some (aR m), none, some (aI e2), some (aI 1), none, none, none, none] [] h) (rI (rgM m bb V B fv pp ht r.1 r.2.2.2.2 σ0 (sLook V r v))) := by
    intro l e2 h σ e' a' b' hl' hu he H S G0 ho
    refine wq_eq q_93_251 (wq_f (by decide) (rN11 H he S.1.1 hl'.1 (fun e6 h7 h8 => ?_)))
    have Sn := SF_body P HH hl' hu hv hl S.2.2.2.2
    exact rq_enter HH H S G0 he (kid_v P hl'.1 h7 h8) Sn (fun q => absurd q (n48 hl')) (fun σ2 h2 H2 S2 G2 _ => wq_t (by decide) (wq_some (rI_i (rg_1 H2 G2 S2 (gq_1 HG Sn hl').symm ho))))
  -- out of the loop
  have out : ∀ (e2 : Int32) (h : ah_H) (σ : rS), RH m σ bb h → BS V B fv pp ht r.1 r.2.2.1 r.2.2.2.1 r.2.2.2.2 ((v, -1) :: F) σ → sm (QX pp fv V.2.2.2) σ0 σ → sLook V r v = oBe r v → wq (ah_val lim ah_P (d + 210) 93 251 [some (aR m), none, some (aI e2), some (aI 0), none, none, none, none] [] h) (rI (rgM m bb V B fv pp ht r.1 r.2.2.2.2 σ0 (sLook V r v))) := by
    intro e2 h σ H S G0 ho
    exact wq_eq q_93_251 (wq_t rfl (rq_pop HH H S G0 (fun σ2 h2 H2 S2 G2 => wq_t (by decide) (wq_some (rI_i (rg_1 H2 G2 S2 (gq_0 HG S2.2.2.2.2 hb).symm ho))))))
  by_cases g1 : kf V.1 0 v = 40
  · -- WHILE
    have n41 : ¬ kf V.1 0 v = 41 := by rw [g1]; decide
    obtain ⟨m2, -⟩ := gt.2.2.2.2.2.1 g1
    obtain ⟨ge, gb⟩ := g.2.2.2.2.2.1 g1
    have m0 : 0 < (kf V.1 6 v).toInt := by rw [m2]; decide
    have m1 : ((0 : Nat) : Int) + 1 < (kf V.1 6 v).toInt := by rw [m2]; decide
    have es : sLook V r v = (pNo (EVL V r (kC V.1 v 0))).bind fun w => if wN w = 0 then oBe r v else oI r (kC V.1 v 1) := (if_neg n41).trans (if_pos g1)
    refine wq_eq e_Ref_look (wq_gR H.1 rfl (rd_c H hk S.1.1 hv m0 (fun e2 h2 => wq_gR H.1 rfl (rd_k H hk S.1.1 hv (wq_f (by rw [g1]; decide) (wq_gR H.1 rfl (rd_k H hk S.1.1 hv (wq_t g1 ?_))))))))
    refine rq_cond K H S G0 ge h2 (fun ee σ2 h2 H2 S2 G2 => wq_t (by decide) (wq_some (rI_i (rg_0 H2 G2 S2 (by rw [es, show pNo (EVL V r (kC V.1 v 0)) = none from ee]; rfl))))) (fun w σ2 h3 ee H2 S2 G2 q9 W9 w2 => rq_n (r := 9872) H2 rfl (by omega) q9 w2 (wq_if _ (fun c1 => ?_) (fun c1 => ?_)))
    · rw [lg_eq] at c1
      exact wq_gR H2.1 rfl (rd_x (i := 0) P H2 S2.1.1 hv m1 h2 (fun e14 h14 => out e14 h3 σ2 H2 S2 G2 (by rw [es, show pNo (EVL V r (kC V.1 v 0)) = some w from ee]; exact if_pos c1)))
    · rw [lg_eq] at c1
      exact wq_gR H2.1 rfl (rd_x (i := 0) P H2 S2.1.1 hv m1 h2 (fun e14 h14 => inn (kC V.1 v 1) e14 h3 σ2 _ _ _ gb (xU_k P hv (by rw [m2]; decide)) h14 H2 S2 G2 (by rw [es, show pNo (EVL V r (kC V.1 v 0)) = some w from ee]; exact if_neg c1)))
  by_cases g2 : kf V.1 0 v = 41
  · -- LOOP
    have g1 := g2
    have m1 := gt.2.2.2.2.2.2.1 g1
    have gb := g.2.2.2.2.2.2.1 g1
    have m0 : 0 < (kf V.1 6 v).toInt := by rw [m1]; decide
    exact wq_eq e_Ref_look (wq_gR H.1 rfl (rd_c H hk S.1.1 hv m0 (fun e2 h2 => wq_gR H.1 rfl (rd_k H hk S.1.1 hv (wq_f (by rw [g1]; decide) (wq_gR H.1 rfl (rd_k H hk S.1.1 hv (wq_f (by rw [g1]; decide) (inn (kC V.1 v 0) e2 h σ _ _ _ gb (xU_k P hv (by rw [m1]; decide)) h2 H S G0 (if_pos g1))))))))))
  have h38 : kf V.1 0 v = 38 ∨ kf V.1 0 v = 39 := by
    rcases lp_c hl with q | q | q | q
    · exact Or.inl q
    · exact Or.inr q
    · exact absurd q g1
    · exact absurd q g2
  have n41 := g2
  have n40 := g1
  obtain ⟨m4, go, ko, kn, -⟩ := gt.2.2.2.2.1 h38
  obtain ⟨-, -, gb⟩ := g.2.2.2.2.1 h38
  have m0 : 0 < (kf V.1 6 v).toInt := by rw [m4]; decide
  have m1 : ((0 : Nat) : Int) + 1 < (kf V.1 6 v).toInt := by rw [m4]; decide
  have m2 : ((1 : Nat) : Int) + 1 < (kf V.1 6 v).toInt := by rw [m4]; decide
  have m3 : ((2 : Nat) : Int) + 1 < (kf V.1 6 v).toInt := by rw [m4]; decide
  obtain ⟨-, vs, vn⟩ := go_v (L := (0, 0, 0, 0, 0, fun _ => 0, fun _ => 0)) (r := r) go ko
  have ki := K.2.2 _ vn
  have wi : wI (r.1 (kf V.1 1 (kC V.1 v 0)).toInt.toNat).1 = 2 := ki.1.trans kn
  have es : sLook V r v = if cnE V.1 v (r.2.2.1 v.toInt.toNat) (r.2.2.2.1 v.toInt.toNat) then oBe r v else if (r.1 (kf V.1 1 (kC V.1 v 0)).toInt.toNat).2.2.2.2.1.toInt ≤ (r.2.2.1 v.toInt.toNat).toInt ∧ (r.2.2.1 v.toInt.toNat).toInt ≤ (r.1 (kf V.1 1 (kC V.1 v 0)).toInt.toNat).2.2.2.2.2.toInt then some (upS r.1 (kf V.1 1 (kC V.1 v 0)).toInt.toNat (pNum (r.2.2.1 v.toInt.toNat), (r.1 (kf V.1 1 (kC V.1 v 0)).toInt.toNat).2), upS r.2.2.1 v.toInt.toNat (cnN V.1 v (r.2.2.1 v.toInt.toNat)), r.2.2.2.1, r.2.2.2.2, 1, kC V.1 v 3) else none := (if_neg n41).trans (if_neg n40)
  have cw : CW V.1 v (r.2.2.1 v.toInt.toNat) (r.2.2.2.1 v.toInt.toNat) := (S.2.2.2.1.1 h38).2.2
  obtain ⟨cw1, cw2, cw3⟩ := cw
  obtain ⟨lm1, lm2⟩ := S.1.2.2.2.2.1.2 _ vn wi
  have eO : whR V.1 fv (kC V.1 v 0) = 1024 + fv + (kf V.1 1 (kC V.1 v 0)).toInt.toNat := if_neg (by rw [ko]; decide)
  have cap := S.1.2.1.1
  -- over
  have f0 : ∀ (e2 s0 : Int32), e2.toInt = B + (kC V.1 v 0).toInt → cnE V.1 v (r.2.2.1 v.toInt.toNat) (r.2.2.2.1 v.toInt.toNat) → wq (ah_val lim ah_P (d + 210) 93 97 [some (aR m), some (aI k), some (aI e2), none, some (aI s0), some (aJ (r.2.2.1 v.toInt.toNat)), none, none] [aI 0] h) (rI (rgM m bb V B fv pp ht r.1 r.2.2.2.2 σ0 (sLook V r v))) := by
    intro e2 s0 h2 ce
    refine wq_eq q_93_97 (wq_at H.1 (wq_cI (r_where H S.1.1 S.1.2.1 go h2) ?_))
    rintro o4 h4 ⟨eh, e4⟩
    subst eh
    exact wq_t rfl (wq_eq q_93_145 (wq_t rfl (wq_gR H.1 rfl (wq_gR H.1 rfl (wq_gR H.1 rfl (rd_x (i := 0) P H S.1.1 hv m1 h2 (fun e4 h4 => rd_x (i := 1) P H S.1.1 hv m2 h4 (fun e5 h5 => rd_x (i := 2) P H S.1.1 hv m3 h5 (fun e6 h6 => out e6 _ σ H S G0 (es.trans (if_pos ce)))))))))))
  -- once more
  have f1 : ∀ (e2 s0 : Int32), e2.toInt = B + (kC V.1 v 0).toInt → ¬ cnE V.1 v (r.2.2.1 v.toInt.toNat) (r.2.2.2.1 v.toInt.toNat) → (s0 = 0 ∧ kf V.1 0 v = 38) ∨ (¬ s0 = 0 ∧ kf V.1 0 v = 39) → wq (ah_val lim ah_P (d + 210) 93 97 [some (aR m), some (aI k), some (aI e2), none, some (aI s0), some (aJ (r.2.2.1 v.toInt.toNat)), none, none] [aI 1] h) (rI (rgM m bb V B fv pp ht r.1 r.2.2.2.2 σ0 (sLook V r v))) := by
    intro e2 s0 h2 ce hs
    rw [if_neg ce] at es
    refine wq_eq q_93_97 (wq_at H.1 (wq_cI (r_where H S.1.1 S.1.2.1 go h2) ?_))
    rintro o4 h4 ⟨eh, e4⟩
    subst eh
    rw [eO] at e4
    have c2 := cap.2.1
    refine wq_f (by decide) (wq_gR H.1 rfl (ra_I H (j := 2) (by omega) rfl rfl (by omega) (by show _ < (10100 : Int); omega) ?_))
    rw [show o4.toInt.toNat = 1024 + fv + (kf V.1 1 (kC V.1 v 0)).toInt.toNat by omega, lm1]
    refine wq_if _ (fun q1 => ?_) (fun q1 => ?_)
    · rw [l64t] at q1
      rw [if_neg (by omega)] at es
      exact rq_fail H S G0 (fun σ4 h4 H4 S4 G4 => wq_t (Or.inl rfl) (wq_some (rI_i (rg_0 H4 G4 S4 es))))
    rw [l64t] at q1
    refine wq_gR H.1 rfl (ra_I H (j := 3) (by omega) rfl rfl (by omega) (by show _ < (10100 : Int); omega) ?_)
    rw [show o4.toInt.toNat = 1024 + fv + (kf V.1 1 (kC V.1 v 0)).toInt.toNat by omega, lm2]
    refine wq_if _ (fun q2 => ?_) (fun q2 => ?_)
    rotate_left
    · rw [l64e] at q2
      rw [if_neg (by omega)] at es
      exact rq_fail H S G0 (fun σ4 h4 H4 S4 G4 => wq_t (Or.inl rfl) (wq_some (rI_i (rg_0 H4 G4 S4 es))))
    rw [l64e] at q2
    rw [if_pos ⟨by omega, q2⟩] at es
    have lo : -2147483647 ≤ (r.2.2.1 v.toInt.toNat).toInt := by
      rcases hs with ⟨-, q⟩ | ⟨-, q⟩
      · exact cw3 q
      · have ce : ¬ r.2.2.1 v.toInt.toNat < r.2.2.2.1 v.toInt.toNat := fun q' => ce (by unfold cnE; rw [if_neg (by rw [q]; decide)]; exact q')
        rw [Int64.lt_iff_toInt_lt] at ce
        omega
    have hi32 := Int32.toInt_lt (r.1 (kf V.1 1 (kC V.1 v 0)).toInt.toNat).2.2.2.2.2
    have up : (r.2.2.1 v.toInt.toNat).toInt ≤ 2147483647 := by
      have : (2 : Int) ^ 31 = 2147483648 := by decide
      omega
    obtain ⟨t0, t1, -⟩ := (S.1.2.1.2.2 _ vn).1
    refine wq_eq q_93_145 (wq_f (by decide) (wq_gR H.1 rfl (rs_NJ (j := 4) H (by omega) rfl e4 (by show _ < 10100; omega) (fun h8 H8 => wq_gR H8.1 rfl ?_))))
    have S8 : BS V B fv pp ht (upS r.1 (kf V.1 1 (kC V.1 v 0)).toInt.toNat (pNum (r.2.2.1 v.toInt.toNat), (r.1 (kf V.1 1 (kC V.1 v 0)).toInt.toNat).2)) r.2.2.1 r.2.2.2.1 r.2.2.2.2 ((v, -1) :: F) (sJ σ 4 (1024 + fv + (kf V.1 1 (kC V.1 v 0)).toInt.toNat) (r.2.2.1 v.toInt.toNat)) := by
      refine ⟨BT_w S.1 vn (fun _ _ _ => rfl) (fun _ _ => rfl) (fun q i hq => ?_) rfl (byE_4 S.1.2.2.1) ⟨t0.trans wi, fun _ => ⟨(t1 wi).1, jaJ_e⟩, fun q => absurd (show (2 : Int32) = 0 from q) (by decide), fun q => absurd (show (2 : Int32) = 1 from q) (by decide)⟩ (WF_num lo up) wi.symm, FX_w S.2 (fun _ _ _ => rfl) (fun q i hq => jaJ_j hq)⟩
      rcases hq with hq | hq
      · exact jaJ_j hq
      · exact jaJ_i hq
    have G8 : sm (QX pp fv V.2.2.2) σ0 (sJ σ 4 (1024 + fv + (kf V.1 1 (kC V.1 v 0)).toInt.toNat) (r.2.2.1 v.toInt.toNat)) := sm_J G0 (QX4 vn)
    have lf : F.length + 1 ≤ 101 := SF_101 S.2.2.2.2 HH
    have p2 := S.1.2.2.2.1.2
    refine rq_slot HH H8 S8 (fun x hx => ?_)
    rcases hs with ⟨s1, q38⟩ | ⟨s1, q39⟩
    · rw [show cnN V.1 v (r.2.2.1 v.toInt.toNat) = r.2.2.1 v.toInt.toNat + 1 from if_pos q38] at es
      refine wq_t s1 (rs_NJ (j := 29) H8 (by omega) rfl hx (by show _ < 8192; omega) (fun h9 H9 => ?_))
      have S9 := BS_29 (x := r.2.2.1 v.toInt.toNat + 1) S8 (fun _ c => ⟨c.1, c.2.1, fun _ => by
        rw [Int64.toInt_add, show (1 : Int64).toInt = 1 from rfl, Int.bmod_eq_of_le (by omega) (by omega)]
        omega⟩)
      have G9 := sm_J (z := r.2.2.1 v.toInt.toNat + 1) G8 (QX_s (pp := pp) (fv := fv) (n := V.2.2.2) (j := 29) (i := 128 * pp + F.length) (by omega) (by omega))
      exact wq_gR H9.1 rfl (wq_gR H9.1 rfl (wq_gR H9.1 rfl (rd_x (i := 0) P H9 S9.1.1 hv m1 h2 (fun e4 h4 => rd_x (i := 1) P H9 S9.1.1 hv m2 h4 (fun e5 h5 => rd_x (i := 2) P H9 S9.1.1 hv m3 h5 (fun e6 h6 => inn (kC V.1 v 3) e6 h9 _ _ _ _ gb (xU_k P hv (by rw [m4]; decide)) h6 H9 S9 G9 es))))))
    · rw [show cnN V.1 v (r.2.2.1 v.toInt.toNat) = r.2.2.1 v.toInt.toNat - 1 from if_neg (by rw [q39]; decide)] at es
      refine wq_f s1 (rs_NJ (j := 29) H8 (by omega) rfl hx (by show _ < 8192; omega) (fun h9 H9 => ?_))
      have S9 := BS_29 (x := r.2.2.1 v.toInt.toNat - 1) S8 (fun _ c => ⟨c.1, c.2.1, fun q => by
        rw [q39] at q
        exact absurd q (by decide)⟩)
      have G9 := sm_J (z := r.2.2.1 v.toInt.toNat - 1) G8 (QX_s (pp := pp) (fv := fv) (n := V.2.2.2) (j := 29) (i := 128 * pp + F.length) (by omega) (by omega))
      exact wq_gR H9.1 rfl (wq_gR H9.1 rfl (wq_gR H9.1 rfl (rd_x (i := 0) P H9 S9.1.1 hv m1 h2 (fun e4 h4 => rd_x (i := 1) P H9 S9.1.1 hv m2 h4 (fun e5 h5 => rd_x (i := 2) P H9 S9.1.1 hv m3 h5 (fun e6 h6 => inn (kC V.1 v 3) e6 h9 _ _ _ _ gb (xU_k P hv (by rw [m4]; decide)) h6 H9 S9 G9 es))))))
  refine wq_eq e_Ref_look (wq_gR H.1 rfl (rd_c H hk S.1.1 hv m0 (fun e2 h2 => wq_gR H.1 rfl (rd_k H hk S.1.1 hv (wq_t (by rcases h38 with q | q <;> (rw [q]; decide)) (wq_gR H.1 rfl (rd_k H hk S.1.1 hv ?_)))))))
  rcases h38 with q38 | q39
  · refine wq_f (by rw [q38]; decide) (wq_eq q_93_36 (wq_gR H.1 rfl (rq_slot HH H S (fun x hx => rq_29 HH H S (Or.inl q38) hx (wq_t rfl (wq_gR H.1 rfl (rq_slot HH H S (fun y hy => rq_30 HH H S (Or.inl q38) hy (wq_if _ (fun c => ?_) (fun c => ?_))))))))))
    · rw [lgv_le] at c
      exact f1 e2 0 h2 (fun q => by unfold cnE at q; rw [if_pos q38] at q; exact q c) (Or.inl ⟨rfl, q38⟩)
    · rw [lgv_le] at c
      exact f0 e2 0 h2 (by unfold cnE; rw [if_pos q38]; exact c)
  · have n38 : ¬ kf V.1 0 v = 38 := by rw [q39]; decide
    refine wq_t q39 (wq_eq q_93_36 (wq_gR H.1 rfl (rq_slot HH H S (fun x hx => rq_29 HH H S (Or.inr q39) hx (wq_f (by decide) (wq_gR H.1 rfl (rq_slot HH H S (fun y hy => rq_30 HH H S (Or.inr q39) hy (wq_if _ (fun c => ?_) (fun c => ?_))))))))))
    · rw [lgv_lt] at c
      exact f0 e2 1 h2 (by unfold cnE; rw [if_neg n38]; exact c)
    · rw [lgv_lt] at c
      exact f1 e2 1 h2 (fun q => by unfold cnE at q; rw [if_neg n38] at q; exact c q) (Or.inr ⟨by decide, q39⟩)
end Yp
