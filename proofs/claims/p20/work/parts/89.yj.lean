section Yj
variable {lim : Nat × Nat} {d m n B fv pp : Nat} {V : ENV} {ht : Nat → Nat} {a b : Nat → Int64} {F : FL} {σ σ' σ0 : rS} {bb h h' h1 : ah_H} {td td' : TD} {kS kV : Nat → Int32 × Int32} {v k k2 l R kk : Int32} {Φ : ah_R → Prop} {A Bk : ah_H → Option ah_R} {w w' : WD} {r : RST} {T : KT} {p : Int32 × Int32 × Int32} {g : Nat → Int32} {e : Nat → TS}
theorem QX4 {j : Nat} (hj : j < V.2.2.2) : QX pp fv V.2.2.2 4 (1024 + fv + j) := by unfold QX; omega
theorem QX5 {j i : Nat} (hj : j < V.2.2.2) (h1 : 64 * (1024 + fv + j) ≤ i) (h2 : i < 64 * (1024 + fv + j) + 64) : QX pp fv V.2.2.2 5 i := by unfold QX; omega
theorem byE_4 {j i : Nat} {z : Int64} (H : byE σ) : byE (sJ σ j i z) := H
theorem sm_B {Q : Nat → Nat → Prop} {s n : Nat} (G : sm Q σ0 σ) (hq : ∀ i, s ≤ i → i < s + n → Q 5 i) : sm Q σ0 (setB σ s n g) := ⟨G.1, G.2.1, fun j i hn => by
  by_cases c : j = 5 ∧ s ≤ i ∧ i < s + n
  · exact absurd (by rw [c.1]; exact hq i c.2.1 c.2.2) hn
  · exact (if_neg c).trans (G.2.2.1 j i hn), G.2.2.2⟩
theorem byE_B {s n : Nat} (H : byE σ) (hg : ∀ i, i < n → 0 ≤ (g i).toInt ∧ (g i).toInt ≤ 127) : byE (setB σ s n g) := by
  refine ⟨fun i hi => ?_, fun i hi => ?_⟩
  · rw [setB_j (by omega), setB_j (by omega)]
    exact H.1 i hi
  · by_cases c : s ≤ i ∧ i < s + n
    · rw [setB_i c.1 c.2]
      exact hg _ (by omega)
    · rw [setB_o (by omega)]
      exact H.2 i hi
theorem r_keep (K : KQ V kS kV r.1) (H : RH m σ bb h) (S : BS V B fv pp ht r.1 r.2.2.1 r.2.2.2.1 r.2.2.2.2 F σ) (G0 : sm (QX pp fv V.2.2.2) σ0 σ) (hv : rgN V.1 v) (hm : kf V.1 6 v = 2) (g : gTh V kS kV 81 (kC V.1 v 0)) (ge : gEV V kS kV (kC V.1 v 1)) (hk : k.toInt = B + v.toInt) (hN : nrm V.1 F = goP V.1 0 v) : wq (vc lim (d + 210) m_Ref_keepValue [aR m, aI k] h) (rI (rgM m bb V B fv pp ht r.1 r.2.2.2.2 σ0 (sSet V r v))) := by
  have P := K.1
  have m0 : 0 < (kf V.1 6 v).toInt := by rw [hm]; decide
  have m1 : ((0 : Nat) : Int) + 1 < (kf V.1 6 v).toInt := by rw [hm]; decide
  obtain ⟨go, ko⟩ := gTh_o (Or.inr rfl) g
  obtain ⟨-, vs, vn⟩ := go_v (L := (0, 0, 0, 0, 0, fun _ => 0, fun _ => 0)) (r := r) go ko
  have hc := (po_k P hv (i := 0) (by rw [hm]; decide)).1
  refine wq_eq e_Ref_keepValue (wq_gR H.1 rfl (rd_c H hk S.1.1 hv m0 (fun c0 hc0 => rq_aim (Or.inr rfl) K H S G0 g hc0 (fun ea σ1 h1 H1 S1 G1 => ?_) (fun q1 σ1 h1 ea H1 S1 G1 e43 => ?_))))
  · exact wq_t (Or.inl rfl) (wq_some (rI_i (rg_0 H1 G1 S1 (by unfold sSet; rw [ea]; rfl))))
  refine wq_gR H1.1 rfl (rd_x (i := 0) P H1 S1.1.1 hv m1 hc0 (fun c1 hc1 => rq_find (r := 9872) K H1 S1 G1 ge hc1 rfl (by omega) (by omega) (fun ee σ2 h2 H2 S2 G2 => ?_) (fun w σ2 h2 ee H2 S2 G2 f2 q2 W2 => ?_)))
  · exact wq_t (Or.inl rfl) (wq_some (rI_i (rg_0 H2 G2 S2 (by unfold sSet; rw [ea, show EVL V r (kC V.1 v 1) = none from ee]; rfl))))
  have e43 : σ2.1 43 = q1.2.1 := (f2.1 43 (fun q => by unfold fQ at q; omega)).trans e43
  have es : sSet V r v = if pFit w (thS V r (ofT V.1 (kC V.1 v 0))) q1.1 q1.2.2 then some (upS r.1 (kf V.1 1 (ofT V.1 (kC V.1 v 0))).toInt.toNat (if q1.1 = 2 then pNum (wN w) else pOver (thS V r (ofT V.1 (kC V.1 v 0))).1 w q1.2.1, (thS V r (ofT V.1 (kC V.1 v 0))).2), r.2.2.1, r.2.2.2.1, r.2.2.2.2, 0, v) else none := by
    unfold sSet
    rw [ea, show EVL V r (kC V.1 v 1) = some w from ee]
    rfl
  refine rq_fits (Or.inr rfl) K H2 S2 G2 g hc0 q2 W2 ea (fun pf σ3 h3 H3 S3 G3 => ?_) (fun pf => ?_)
  · exact wq_t (Or.inl rfl) (wq_some (rI_i (rg_0 H3 G3 S3 (by rw [es, pf]; rfl))))
  rw [if_pos pf] at es
  have pf' := of_decide_eq_true (show decide (wI w = q1.1 ∧ wL w = q1.2.2 ∧ (wI w = 2 → (thS V r (ofT V.1 (kC V.1 v 0))).2.2.2.2.1.toInt ≤ (wN w).toInt ∧ (wN w).toInt ≤ (thS V r (ofT V.1 (kC V.1 v 0))).2.2.2.2.2.toInt)) = true from pf)
  obtain ⟨f1, f2', -⟩ := pf'
  obtain ⟨tb, tr, tw, -⟩ := th_b (Or.inr rfl) S2 g
  have eO : whR V.1 fv (ofT V.1 (kC V.1 v 0)) = 1024 + fv + (kf V.1 1 (ofT V.1 (kC V.1 v 0))).toInt.toNat := if_neg (by rw [ko]; decide)
  rw [eO] at tb tr
  -- the register's new value
  have done : ∀ (σ3 : rS) (h3 : ah_H) (w' : WD), RH m σ3 bb h3 → sm (QX pp fv V.2.2.2) σ0 σ3 → w' = (if q1.1 = 2 then pNum (wN w) else pOver (thS V r (ofT V.1 (kC V.1 v 0))).1 w q1.2.1) → RW σ3 (1024 + fv + (kf V.1 1 (ofT V.1 (kC V.1 v 0))).toInt.toNat) w' → WF w' → wI w' = wI (thS V r (ofT V.1 (kC V.1 v 0))).1 → (∀ q i, q ≠ 5 → ia σ3 q i = ia σ2 q i) → (∀ i, (i < 64 * (1024 + fv + (kf V.1 1 (ofT V.1 (kC V.1 v 0))).toInt.toNat) ∨ 64 * (1024 + fv + (kf V.1 1 (ofT V.1 (kC V.1 v 0))).toInt.toNat) + 64 ≤ i) → ia σ3 5 i = ia σ2 5 i) → (∀ q i, (q ≠ 4 ∨ i ≠ 1024 + fv + (kf V.1 1 (ofT V.1 (kC V.1 v 0))).toInt.toNat) → ja σ3 q i = ja σ2 q i) → σ3.1 = σ2.1 → byE σ3 → rgM m bb V B fv pp ht r.1 r.2.2.2.2 σ0 (sSet V r v) 1 h3 := by
    intro σ3 h3 w' H3 G3 ew q3 W3 hi e1 e5 e4 eg hb
    rw [vs] at hi
    have Bt := BT_w S2.1 vn e1 e5 e4 eg hb q3 W3 hi
    rw [← ew, vs] at es
    exact rg_1 H3 G3 ⟨Bt, FX_w S2.2 e1 (fun q i hq => e4 q i (Or.inl hq))⟩ hN es
  -- what the place of the target is
  have pl : ∀ o32 : Int32, o32.toInt = whR V.1 fv (ofT V.1 (kC V.1 v 0)) → wq (ah_gR h2 (some m) 11 12 fun r3 => ah_lI h2 r3 100 c0 fun e4 => if e4 = 82 then ah_gI h2 (some m) 11 43 fun i5 => ah_gR h2 (some m) 11 5 fun r6 => ah_lJ h2 r6 101 9872 fun e7 => ah_at h2 (some m) 11 fun _ _ => ah_cV (vc lim (d + 209) 25 [aR m, aI o32, aI i5, aI e7.toInt32] h2) (nx h2) fun h8 => if (1 : Int32) = 0 ∨ (1 : Int32) = 1 then some (.inl (some (.inl 1)), h8) else none else ah_gR h2 (some m) 11 1 fun r9 => ah_lI h2 r9 103 o32 fun e10 => if e10 = 1 then ah_val lim ah_P (d + 209) 105 141 [some (aR m), none, none, some (aI o32), some (aI 0)] [] h2 else ah_gR h2 (some m) 11 5 fun r11 => ah_gR h2 (some m) 11 5 fun r12 => ah_lJ h2 r12 101 9872 fun e13 => ah_sI h2 r11 101 o32 (.inr (.inl e13)) fun h14 => if (1 : Int32) = 0 ∨ (1 : Int32) = 1 then some (.inl (some (.inl 1)), h14) else none) (rI (rgM m bb V B fv pp ht r.1 r.2.2.2.2 σ0 (sSet V r v))) := by
    intro o32 ho
    rw [eO] at ho
    refine wq_gR H2.1 rfl (rd_k H2 hc0 S2.1.1 hc (wq_if _ (fun c82 => ?_) (fun c82 => ?_)))
    · -- an element
      obtain ⟨r1, r2⟩ := gTh_r (Or.inr rfl) K g (Or.inl c82)
      rw [show pAim V r (kC V.1 v 0) = (EVL V r (kC V.1 (kC V.1 v 0) 1)).bind fun w => if wI w = 2 then if wN w < 0 then none else if wN w < (wL (thS V r (ofT V.1 (kC V.1 v 0))).1).toInt64 then some (0, (wN w).toInt32, 1) else none else none from (if_neg (by rw [c82]; decide)).trans (if_pos c82)] at ea
      obtain ⟨x, -, ex⟩ := bd_o ea
      by_cases x2 : wI x = 2
      · rw [if_pos x2] at ex
        by_cases x3 : wN x < 0
        · rw [if_pos x3] at ex; cases ex
        · rw [if_neg x3] at ex
          by_cases x4 : wN x < (wL (thS V r (ofT V.1 (kC V.1 v 0))).1).toInt64
          · rw [if_pos x4] at ex
            cases ex
            have h4 := Int64.lt_iff_toInt_lt.mp x4
            rw [Int32.toInt_toInt64] at h4
            have h3 : ¬ (wN x).toInt < 0 := fun q => x3 (Int64.lt_iff_toInt_lt.mpr (by rw [Int64.toInt_zero]; exact q))
            have tl := tw.2.1
            have ef : (wN x).toInt32.toInt = (wN x).toInt := by rw [Int64.toInt_toInt32]; exact Int.bmod_eq_of_le (by omega) (by omega)
            have f1 : wI w = 0 := f1
            have f2' : wL w = 1 := f2'
            have z1 : (1 : Int32).toInt = 1 := rfl
            have e43 : σ2.1 43 = (wN x).toInt32 := e43
            refine wq_gI H2.1 rfl ?_
            rw [e43]
            refine wq_gR H2.1 rfl (rd4 (r := 9872) H2 rfl (by omega) ?_)
            rw [(q2.2.2.1 f1).2, l_64i cdW_bd.1 (by have := cdW_bd (w := w) (k := 0); omega)]
            refine wq_at H2.1 (wq_cV (r_setElement H2 ho (by omega) (by omega) (by omega) cdW_bd.1 (by have := cdW_bd (w := w) (k := 0); omega)) fun h3 H3 => wq_t (by decide) (wq_some (rI_i ?_)))
            refine done _ h3 (pOver (thS V r (ofT V.1 (kC V.1 v 0))).1 w (wN x).toInt32) H3 (sm_I G2 (QX5 vn (by omega) (by omega))) rfl ?_ (WF_over tw (Or.inr r1) W2 (by omega) (by rw [f2', z1]; omega)) rfl (fun q i hq => sI_nj hq) (fun i hi => sI_ni (by omega)) (fun _ _ _ => rfl) rfl (by_5 S2.1.2.2.1 cdW_bd.1 (by have := cdW_bd (w := w) (k := 0); omega))
            obtain ⟨t0, -, -, t3⟩ := tr
            obtain ⟨t4, t5, t6⟩ := t3 r1
            refine RW_mk1 r1 ((sI_nj (by omega)).trans (t0.trans r1)) ((sI_nj (by omega)).trans t4) t5 (fun j hj => ?_)
            have hj : (j : Int) < (wL (thS V r (ofT V.1 (kC V.1 v 0))).1).toInt := hj
            rw [cd_over tw W2 (by omega) (by rw [f2', z1]; omega) hj, f2', z1]
            by_cases c : j = (wN x).toInt32.toInt.toNat
            · rw [if_pos ⟨by omega, by omega⟩, show j - (wN x).toInt32.toInt.toNat = 0 by omega, c]
              exact sI_eq
            · rw [if_neg (by omega)]
              exact (sI_ni (by omega)).trans (t6 j hj)
          · rw [if_neg x4] at ex; cases ex
      · rw [if_neg x2] at ex; cases ex
    · refine wq_gR H2.1 rfl (rd0 H2 ho (by omega) ?_)
      rw [tr.1]
      -- the part's begin and the row's end
      have bnd : wI (thS V r (ofT V.1 (kC V.1 v 0))).1 = 1 → q1.1 = 1 ∧ 0 ≤ q1.2.1.toInt ∧ q1.2.1.toInt + (wL w).toInt ≤ (wL (thS V r (ofT V.1 (kC V.1 v 0))).1).toInt := fun s1 => by
        have wl := W2.2.1
        by_cases c83 : kf V.1 0 (kC V.1 v 0) = 83
        · obtain ⟨r1, r2⟩ := gTh_r (Or.inr rfl) K g (Or.inr c83)
          rw [show pAim V r (kC V.1 v 0) = some (wI (thS V r (ofT V.1 (kC V.1 v 0))).1, kf V.1 1 (kC V.1 (kC V.1 v 0) 1), kf V.1 1 (kC V.1 (kC V.1 v 0) 2)) from if_pos c83] at ea
          cases ea
          obtain ⟨-, ⟨g1, -⟩ | ⟨g1, -⟩ | ⟨-, -, -, -, -, p1, p2, p3⟩⟩ := g
          · rw [c83] at g1; exact absurd g1 (by decide)
          · rw [c83] at g1; exact absurd g1 (by decide)
          · have f2' : wL w = kf V.1 1 (kC V.1 (kC V.1 v 0) 2) := f2'
            rw [f2', r2]
            exact ⟨s1, p1, p3⟩
        · rw [show pAim V r (kC V.1 v 0) = some (wI (thS V r (ofT V.1 (kC V.1 v 0))).1, 0, wL (thS V r (ofT V.1 (kC V.1 v 0))).1) from (if_neg c83).trans (if_neg c82)] at ea
          cases ea
          have f2' : wL w = wL (thS V r (ofT V.1 (kC V.1 v 0))).1 := f2'
          have z0 : (0 : Int32).toInt = 0 := rfl
          exact ⟨s1, by show 0 ≤ (0 : Int32).toInt; omega, by show (0 : Int32).toInt + _ ≤ _; rw [f2', z0]; omega⟩
      refine wq_if _ (fun s1 => ?_) (fun s1 => ?_)
      · obtain ⟨n1, n2, n3⟩ := bnd s1
        have w1 : wI w = 1 := f1.trans n1
        have tl := tw.2.1
        have wl := W2.2.1
        have nq : ¬ q1.1 = 2 := by rw [n1]; decide
        refine q_el (s := 64 * (1024 + fv + (kf V.1 1 (ofT V.1 (kC V.1 v 0))).toInt.toNat) + q1.2.1.toInt.toNat) (t := q1.2.1) ho (by omega) W2 w1 q2 n2 (by omega) rfl e43 (fun h3 H3 => rI_i ?_) (wL w).toInt.toNat 0 0 h2 rfl (by omega) (by rw [setB_0]; exact H2)
        refine done _ h3 (pOver (thS V r (ofT V.1 (kC V.1 v 0))).1 w q1.2.1) H3 (sm_B G2 (fun i i1 i2 => QX5 vn (by omega) (by omega))) (if_neg nq).symm ?_ (WF_over tw (Or.inr s1) W2 n2 n3) rfl (fun q i hq => setB_j hq) (fun i hi => setB_o (by omega)) (fun _ _ _ => rfl) rfl (byE_B S2.1.2.2.1 (fun i _ => ⟨cdW_bd.1, by have := cdW_bd (w := w) (k := i); omega⟩))
        obtain ⟨t0, -, -, t3⟩ := tr
        obtain ⟨t4, t5, t6⟩ := t3 s1
        refine RW_mk1 s1 ((setB_j (by omega)).trans (t0.trans s1)) ((setB_j (by omega)).trans t4) t5 (fun j hj => ?_)
        have hj : (j : Int) < (wL (thS V r (ofT V.1 (kC V.1 v 0))).1).toInt := hj
        rw [cd_over tw W2 n2 n3 hj]
        by_cases c : q1.2.1.toInt ≤ j ∧ (j : Int) < q1.2.1.toInt + (wL w).toInt
        · rw [if_pos c]
          refine (setB_i (by omega) (by omega)).trans ?_
          rw [show 64 * (1024 + fv + (kf V.1 1 (ofT V.1 (kC V.1 v 0))).toInt.toNat) + j - (64 * (1024 + fv + (kf V.1 1 (ofT V.1 (kC V.1 v 0))).toInt.toNat) + q1.2.1.toInt.toNat) = j - q1.2.1.toInt.toNat by omega]
        · rw [if_neg c]
          exact (setB_o (by omega)).trans (t6 j hj)
      · have n83 : ¬ kf V.1 0 (kC V.1 v 0) = 83 := fun c83 => s1 (gTh_r (Or.inr rfl) K g (Or.inr c83)).1
        rw [show pAim V r (kC V.1 v 0) = some (wI (thS V r (ofT V.1 (kC V.1 v 0))).1, 0, wL (thS V r (ofT V.1 (kC V.1 v 0))).1) from (if_neg n83).trans (if_neg c82)] at ea
        cases ea
        have f1 : wI w = wI (thS V r (ofT V.1 (kC V.1 v 0))).1 := f1
        have f2' : wL w = wL (thS V r (ofT V.1 (kC V.1 v 0))).1 := f2'
        refine wq_gR H2.1 rfl (wq_gR H2.1 rfl (rd4 (r := 9872) H2 rfl (by omega) (rs_NJ (j := 4) H2 (by omega) rfl ho (by show _ < 10100; omega) (fun h3 H3 => wq_t (by decide) (wq_some (rI_i ?_))))))
        obtain ⟨t0, t1, t2, -⟩ := tr
        by_cases c2 : wI (thS V r (ofT V.1 (kC V.1 v 0))).1 = 2
        · have w2 : wI w = 2 := f1.trans c2
          refine done _ h3 (pNum (wN w)) H3 (sm_J G2 (QX4 vn)) (if_pos c2).symm ⟨t0.trans c2, fun _ => ⟨(t1 c2).1, ?_⟩, fun q => absurd (show (2 : Int32) = 0 from q) (by decide), fun q => absurd (show (2 : Int32) = 1 from q) (by decide)⟩ ?_ c2.symm (fun _ _ _ => rfl) (fun _ _ => rfl) (fun q i hq => by
            rcases hq with hq | hq
            · exact jaJ_j hq
            · exact jaJ_i hq) rfl (byE_4 S2.1.2.2.1)
          · rw [jaJ_e]
            exact (q2.2.1 w2).2
          · have := W2.2.2.2.1 w2
            exact WF_num this.2.2.2.2.1 this.2.2.2.2.2
        · have s0 : wI (thS V r (ofT V.1 (kC V.1 v 0))).1 = 0 := by
            rcases tw.1 with q | q | q
            · exact q
            · exact absurd q s1
            · exact absurd q c2
          have w0' : wI w = 0 := f1.trans s0
          have l1 : wL (thS V r (ofT V.1 (kC V.1 v 0))).1 = 1 := tw.2.2.1 s1
          have z1 : (1 : Int32).toInt = 1 := rfl
          have z0 : (0 : Int32).toInt = 0 := rfl
          have cdo : cdW (pOver (thS V r (ofT V.1 (kC V.1 v 0))).1 w 0) 0 = cdW w 0 := by
            rw [cd_over tw W2 (by omega) (by rw [f2']; omega) (by rw [l1, z1]; decide), if_pos ⟨by rw [z0]; decide, by rw [f2', l1, z0, z1]; decide⟩]
            rfl
          refine done _ h3 (pOver (thS V r (ofT V.1 (kC V.1 v 0))).1 w 0) H3 (sm_J G2 (QX4 vn)) (if_neg c2).symm ⟨t0, fun q => absurd (s0.symm.trans q) (by decide), fun _ => ⟨(t2 s0).1, ?_⟩, fun q => absurd (s0.symm.trans q) (by decide)⟩ (WF_over tw (Or.inl s0) W2 (by omega) (by rw [f2']; omega)) rfl (fun _ _ _ => rfl) (fun _ _ => rfl) (fun q i hq => by
            rcases hq with hq | hq
            · exact jaJ_j hq
            · exact jaJ_i hq) rfl (byE_4 S2.1.2.2.1)
          rw [jaJ_e, cdo]
          exact (q2.2.2.1 w0').2
  -- the place of the target
  have g75 : ∀ x32 : Int32, x32.toInt = B + (ofT V.1 (kC V.1 v 0)).toInt → wq (ah_val lim ah_P (d + 209) 105 75 [some (aR m), none, some (aI c0), none, none] [aI x32, aR m] h2) (rI (rgM m bb V B fv pp ht r.1 r.2.2.2.2 σ0 (sSet V r v))) := by
    intro x32 hx
    refine wq_eq q_105_75 (wq_at H2.1 (wq_cI (r_where H2 S2.1.1 S2.1.2.1 go hx) ?_))
    rintro o4 h4 ⟨eh, e4⟩
    subst eh
    exact pl o4 e4
  have mc : (kf V.1 0 (kC V.1 v 0) = 82 ∨ kf V.1 0 (kC V.1 v 0) = 83) → 0 < (kf V.1 6 (kC V.1 v 0)).toInt := fun c => by
    obtain ⟨-, ⟨g1, -⟩ | ⟨-, gm, -⟩ | ⟨-, gm, -⟩⟩ := g
    · rw [g1] at c; exact absurd c (by decide)
    · rw [gm]; decide
    · rw [gm]; decide
  refine wq_gR H2.1 rfl (rd_k H2 hc0 S2.1.1 hc (wq_if _ (fun c82 => wq_gR H2.1 rfl (rd_c H2 hc0 S2.1.1 hc (mc (Or.inl c82)) (fun c5 hc5 => g75 c5 ?_))) (fun c82 => wq_gR H2.1 rfl (rd_k H2 hc0 S2.1.1 hc (wq_if _ (fun c83 => wq_gR H2.1 rfl (rd_c H2 hc0 S2.1.1 hc (mc (Or.inr c83)) (fun c5 hc5 => g75 c5 ?_))) (fun c83 => g75 c0 ?_))))))
  · rw [show ofT V.1 (kC V.1 v 0) = kC V.1 (kC V.1 v 0) 0 from if_pos (Or.inl c82)]
    exact hc5
  · rw [show ofT V.1 (kC V.1 v 0) = kC V.1 (kC V.1 v 0) 0 from if_pos (Or.inr c83)]
    exact hc5
  · rw [show ofT V.1 (kC V.1 v 0) = kC V.1 v 0 from if_neg (fun q => q.elim c82 c83)]
    exact hc0
end Yj
