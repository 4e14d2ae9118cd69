/-! THE REFERENCE RUNS A PROCESS -/
def roM (m : Nat) (bb : ah_H) (V : ENV) (B fv pp : Nat) (ht : Nat → Nat) (σ0 : rS) (q : Int32 × RST) (y : Int32) (h' : ah_H) : Prop := y = q.1 ∧ ∃ σ', RH m σ' bb h' ∧ sm (QY pp fv V.2.2.2) σ0 σ' ∧ BT V B fv pp q.2.1 q.2.2.2.2.2 σ' ∧ ia σ' 23 pp = q.2.2.1.2.2.2.1 ∧ (q.1 = 1 → (∃ F2, BS V B fv pp ht q.2.1 q.2.2.2.1 q.2.2.2.2.1 q.2.2.2.2.2 F2 σ' ∧ nrm V.1 F2 = (q.2.2.1.2.2.2.2.1, q.2.2.1.2.2.2.2.2.1)) ∧ (ia σ' 24 pp).toInt = B + q.2.2.1.2.2.2.2.2.2.1.toInt ∧ ja σ' 25 pp = q.2.2.1.2.2.2.2.2.2.2)
/-- a process on its way -/
def GI (V : ENV) (kS kV : Nat → Int32 × Int32) (B fv pp : Nat) (ht : Nat → Nat) (σ0 : rS) (n : Nat) (F : FL) (r : RST) (σ : rS) : Prop := BS V B fv pp ht r.1 r.2.2.1 r.2.2.2.1 r.2.2.2.2 F σ ∧ nrm V.1 F = (r.2.1.2.2.2.2.1, r.2.1.2.2.2.2.2.1) ∧ (σ.1 40).toInt = n ∧ ia σ 23 pp = r.2.1.2.2.2.1 ∧ sm (QY pp fv V.2.2.2) σ0 σ ∧ KQ V kS kV r.1 ∧ IA V.1 r.2.1
section Yw
variable {lim : Nat × Nat} {d m n N B fv pp fr : Nat} {V : ENV} {ht : Nat → Nat} {a b : Nat → Int64} {F : FL} {σ σ' σ0 : rS} {bb h h' h1 : ah_H} {td : TD} {kS kV : Nat → Int32 × Int32} {v c k c0 l s v1 v2 R x32 ii y bo : Int32} {Φ : ah_R → Prop} {T : KT} {r r' : RST} {e : Nat → TS} {w : WD} {o : Option SOUT} {lm : Int64} {A Bk : ah_H → Option ah_R}
theorem pRun_n (q : sStep V (rSt r) = none) : pRun V (n + 1) r = (3, rSt r) := by unfold pRun; rw [q]
theorem pRun_0 (q : sStep V (rSt r) = some (r', bo)) (h0 : bo = 0) : pRun V (n + 1) r = (1, r') := by
  unfold pRun
  rw [q]
  exact if_pos h0
theorem pRun_1 (q : sStep V (rSt r) = some (r', bo)) (h0 : ¬ bo = 0) : pRun V (n + 1) r = pRun V n r' := by
  rw [pRun, q]
  exact if_neg h0
theorem rq_atf {K : Int32 → Option ah_R} {q : Int32 × Int32} {x : Int32} (HH : HT V.1 ht) (H : RH m σ bb h) (S : BS V B fv pp ht e a b td (q :: F) σ) (hx : x.toInt = ((128 * pp + F.length : Nat) : Int)) (k : ∀ e : Int32, e.toInt = (if q.2 = -1 then -1 else B + q.2.toInt) → wq (K e) Φ) : wq (ah_lI h (some (m + 1 + 28)) 100 x K) Φ := by
  have l' : F.length + 1 ≤ 101 := SF_101 S.2.2.2.2 HH
  have p := S.1.2.2.2.1.2
  refine ra_I H (j := 28) (by omega) rfl rfl (by omega) (by show _ < (8192 : Int); omega) (k _ ?_)
  rw [show x.toInt.toNat = 128 * pp + F.length by omega]
  exact S.2.2.1.2.1
theorem BS_at {c' x : Int32} (S : BS V B fv pp ht e a b td ((l, c) :: F) σ) (hx : x.toInt = (if c' = -1 then -1 else B + c'.toInt)) (Sn : SF V.1 ht ((l, c') :: F)) : BS V B fv pp ht e a b td ((l, c') :: F) (sI σ 28 (128 * pp + F.length) x) := by
  obtain ⟨Bt, x1, ⟨y1, y2, y3⟩, x3, x5⟩ := S
  refine ⟨BT_k Bt (fun j i hj => sI_nj (by omega)) (fun _ _ _ => rfl) ⟨rfl, rfl, rfl⟩, by rw [sI_nj (by omega)]; exact x1, ⟨?_, ?_, FK_lt F (fun i hi => ⟨sI_nj (by omega), sI_ni (by omega)⟩) y3⟩, FC_e (σ := σ) (σ' := sI σ 28 (128 * pp + F.length) x) (fun _ => rfl) (fun _ => rfl) ((l, c) :: F) x3, Sn⟩
  · rw [sI_nj (by omega)]
    exact y1
  · rw [sI_eq]
    exact hx
/-- the end of a statement -/
theorem ro_3 {z : Int32} (q : sStep V (rSt r) = none) (H : RH m σ bb h) (G : sm (QY pp fv V.2.2.2) σ0 σ) (T : BT V B fv pp r.1 r.2.2.2.2 σ) (hs : ia σ 23 pp = (rSt r).2.1.2.2.2.1) : roM m bb V B fv pp ht σ0 (pRun V (n + 1) r) 3 h := by
  rw [pRun_n q]
  exact ⟨rfl, σ, H, G, T, hs, fun q => absurd (show (3 : Int32) = 1 from q) (by decide)⟩
theorem ro_2 (H : RH m σ bb h) (G : sm (QY pp fv V.2.2.2) σ0 σ) (T : BT V B fv pp r.1 r.2.2.2.2 σ) (hs : ia σ 23 pp = r.2.1.2.2.2.1) : roM m bb V B fv pp ht σ0 (pRun V 0 r) 2 h := ⟨rfl, σ, H, G, T, hs, fun q => absurd (show (2 : Int32) = 1 from q) (by decide)⟩
theorem x23 {n : Nat} (G : sm (QX pp fv n) σ σ') : ia σ' 23 pp = ia σ 23 pp := G.2.2.1 23 pp (fun q => by unfold QX at q; omega)
theorem x40 {n : Nat} (G : sm (QX pp fv n) σ σ') : σ'.1 40 = σ.1 40 := G.1 40 (fun q => by unfold QX at q; omega)
theorem os_k (e : oStep V r o = some (r', bo)) : bo = 1 ∧ r'.2.1.2.2.2.1 = r.2.1.2.2.2.1 := by
  cases o with
  | none => cases e
  | some q => cases e; exact ⟨rfl, rfl⟩
theorem act_k (e : sAct V r v = some (r', bo)) : (kf V.1 0 v = 44 → bo = 0) ∧ (¬ kf V.1 0 v = 44 → bo = 1) ∧ r'.2.1.2.2.2.1 = r.2.1.2.2.2.1 := by
  by_cases c : kf V.1 0 v = 44
  · unfold sAct at e
    rw [if_neg (by rw [c]; decide), if_neg (by rw [c]; decide), if_neg (by rw [c]; decide), if_neg (by rw [c]; decide), if_neg (by rw [c]; decide), if_neg (by rw [c]; decide), if_neg (by rw [c]; decide), if_pos c] at e
    cases ew : sWait V r v with
    | none => rw [ew] at e; cases e
    | some z =>
      rw [ew] at e
      cases e
      exact ⟨fun _ => rfl, fun q => absurd c q, rfl⟩
  · have : bo = 1 ∧ r'.2.1.2.2.2.1 = r.2.1.2.2.2.1 := by
      unfold sAct at e
      split at e
      · exact os_k e
      split at e
      · exact os_k e
      split at e
      · exact os_k e
      split at e
      · exact os_k e
      split at e
      · exact os_k e
      split at e
      · exact os_k e
      split at e
      · exact os_k e
      split at e
      · exact os_k e
      split at e
      · exact os_k e
      · exact os_k e
    exact ⟨fun q => absurd q c, fun _ => this.1, this.2⟩
/-- one frame of a process: whatever it is -/
theorem r_go_48 (GG : GK V kS kV) (GR : ∀ v, rgN V.1 v → gSr V kS kV v) (HH : HT V.1 ht) {q : Int32 × Int32} (I : GI V kS kV B fv pp ht σ0 n (q :: F) r σ) (H : RH m σ bb h) (z : ∀ σ h, GI V kS kV B fv pp ht σ0 n F r σ → RH m σ bb h → wq (ah_val lim ah_P (d + 212) 92 0 [some (aR m), none, none] [] h) (rI (roM m bb V B fv pp ht σ0 (pRun V n r)))) (ih : ∀ n', n = n' + 1 → ∀ F r σ h, GI V kS kV B fv pp ht σ0 n' F r σ → RH m σ bb h → wq (ah_val lim ah_P (d + 212) 92 0 [some (aR m), none, none] [] h) (rI (roM m bb V B fv pp ht σ0 (pRun V n' r)))) : wq (ah_val lim ah_P (d + 212) 92 48 [some (aR m), none, none] [] h) (rI (roM m bb V B fv pp ht σ0 (pRun V n r))) := by
  obtain ⟨P, HG, HU, GS, K2⟩ := GG
  have GG : GK V kS kV := ⟨P, HG, HU, GS, K2⟩
  obtain ⟨S, hN, h40, h23, G, K, hA⟩ := I
  have sq := S.2.2.2.2
  -- after a statement or a loop's head that went on
  have go : ∀ n' (r2 : RST) (bo : Int32) (F2 : FL) (σ3 σ4 : rS) (h4 : ah_H), n = n' + 1 → sStep V (rSt r) = some (r2, bo) → ¬ bo = 0 → RH m σ4 bb h4 → sm (QY pp fv V.2.2.2) σ0 σ4 → sm (QX pp fv V.2.2.2) σ3 σ4 → (σ3.1 40).toInt = n' → ia σ3 23 pp = (rSt r).2.1.2.2.2.1 → BS V B fv pp ht r2.1 r2.2.2.1 r2.2.2.2.1 r2.2.2.2.2 F2 σ4 → nrm V.1 F2 = (r2.2.1.2.2.2.2.1, r2.2.1.2.2.2.2.2.1) → r2.2.1.2.2.2.1 = (rSt r).2.1.2.2.2.1 → wq (ah_val lim ah_P (d + 212) 92 0 [some (aR m), none, none] [] h4) (rI (roM m bb V B fv pp ht σ0 (pRun V n r))) := by
    intro n' r2 bo F2 σ3 σ4 h4 en es nb H4 G4 G34 e40 e23 S4 N4 er
    rw [en, pRun_1 es nb]
    refine ih n' en F2 r2 σ4 h4 ⟨S4, N4, ?_, ?_, G4, KQ_step (r := rSt r) GG K hA es, (so_step (r := rSt r) GG (fun i hi => ⟨(K.2.2 i hi).1, (K.2.2 i hi).2.1⟩) hA es).2.1⟩ H4
    · rw [G34.1 40 (fun q => by unfold QX at q; omega)]
      exact e40
    · exact (x23 G34).trans (e23.trans er.symm)
  refine wq_eq q_92_48 (wq_gR H.1 rfl (rq_slot HH H S (fun x hx => rq_top HH H S hx (fun e4 h4 => wq_gR H.1 rfl (rd_k H h4 S.1.1 sq.1 ?_)))))
  rcases sq.2.2.1 with ⟨hl, q2, hb⟩ | ⟨hb, hc, ho⟩
  · -- a loop's head
    have n48 : ¬ kf V.1 0 q.1 = 48 := fun q' => by rw [q'] at hl; exact absurd hl (by decide)
    have eN : nrm V.1 (q :: F) = (2, q.1) := if_pos hl
    rw [eN] at hN
    have t2 : r.2.1.2.2.2.2.1 = 2 := (congrArg Prod.fst hN).symm
    have at1 : r.2.1.2.2.2.2.2.1 = q.1 := (congrArg Prod.snd hN).symm
    have es : sStep V (rSt r) = oStep V (rSt r) (sLook V (rSt r) q.1) := by
      unfold sStep
      rw [show (rSt r).2.1.2.2.2.2.1 = 2 from t2, show (rSt r).2.1.2.2.2.2.2.1 = q.1 from at1, if_neg (by decide), if_pos rfl]
    refine wq_f n48 (rq_steps H S G h40 h23 (fun n0 => ?_) (fun n' σ3 h3 en H3 S3 G3 e40 e23 => ?_))
    · rw [n0]
      exact wq_some (rI_i (ro_2 H G S.1 h23))
    · have S3' : BS V B fv pp ht (rSt r).1 (rSt r).2.2.1 (rSt r).2.2.2.1 (rSt r).2.2.2.2 ((q.1, -1) :: F) σ3 := by
        rw [← q2]
        exact S3
      refine wq_at H3.1 (wq_cI (r_look (d := d + 1) (r := rSt r) (σ0 := σ3) K HG HH sq.1 hl (GR _ sq.1) (GS _ sq.1) h4 H3 S3' sm_0) fun y h5 p => ?_)
      obtain ⟨σ5, H5, G5, p⟩ := p
      have G05 : sm (QY pp fv V.2.2.2) σ0 σ5 := sm_tr G3 G5 QY_x
      cases eo : sLook V (rSt r) q.1 with
      | none =>
        rw [eo] at p es
        obtain ⟨rfl, p⟩ := p
        rw [en]
        exact wq_t rfl (wq_some (rI_i (ro_3 (z := 0) es H5 G05 p ((x23 G5).trans e23))))
      | some p' =>
        rw [eo] at p es
        obtain ⟨rfl, F2, S5, N5⟩ := p
        exact wq_f (by decide) (go n' _ 1 F2 σ3 σ5 h5 en es (by decide) H5 G05 G5 e40 e23 S5 N5 rfl)
  · -- a list
    refine wq_t hb.2.1 (wq_gR H.1 rfl (rq_slot HH H S (fun x2 hx2 => rq_atf HH H S hx2 (fun e10 h10 => ?_))))
    by_cases c1 : q.2 = -1
    · rw [if_pos c1] at h10
      have e := eq_m1 h10
      subst e
      have eN : nrm V.1 (q :: F) = nrm V.1 F := (if_neg (bdy_n hb)).trans (if_pos c1)
      exact wq_t rfl (rq_pop (σ0 := σ) HH H S sm_0 (fun σ2 h2 H2 S2 G2 => z σ2 h2 ⟨S2, by rw [← eN]; exact hN, by rw [G2.1 40 (fun q => by unfold QX at q; omega)]; exact h40, (x23 G2).trans h23, sm_tr G G2 QY_x, K, hA⟩ H2))
    · rw [if_neg c1] at h10
      have eN : nrm V.1 (q :: F) = (1, q.2) := (if_neg (bdy_n hb)).trans (if_neg c1)
      rw [eN] at hN
      have t1 : r.2.1.2.2.2.2.1 = 1 := (congrArg Prod.fst hN).symm
      have at1 : r.2.1.2.2.2.2.2.1 = q.2 := (congrArg Prod.snd hN).symm
      obtain ⟨i, hi, ei⟩ := hc.resolve_left c1
      obtain ⟨hv, kv3, kv4, -⟩ := po_k P hb.1 hi
      have v0 := hv.1
      have es : sStep V (rSt r) = sAct V (rSt r) q.2 := by
        unfold sStep
        rw [show (rSt r).2.1.2.2.2.2.1 = 1 from t1, show (rSt r).2.1.2.2.2.2.2.1 = q.2 from at1, if_neg (by decide), if_neg (by decide)]
      rw [ei] at h10 es
      have nm : ¬ e10 = -1 := fun q' => by rw [q'] at h10; have : (-1 : Int32).toInt = -1 := rfl; omega
      have hvq : xU V.1 (kC V.1 q.1 i) = q.1 := xU_k P hb.1 hi
      have xp : xP V.1 (kC V.1 q.1 i) = kf V.1 4 (kC V.1 q.1 i) := if_pos hv
      have m4 := P.1
      have o1 : (1 : Int32).toInt = 1 := rfl
      have hm := Int32.toInt_lt (kf V.1 6 q.1)
      have p31 : (2 : Int) ^ 31 = 2147483648 := by decide
      have ep : (xP V.1 (kC V.1 q.1 i) + 1).toInt = i + 1 := by rw [xp, ad_i (by omega) (by omega), kv4, o1]
      have lf : F.length + 1 ≤ 101 := SF_101 sq HH
      have p2 := S.1.2.2.2.1.2
      refine wq_f nm (wq_gR H.1 rfl (rq_slot HH H S (fun x3 hx3 => rq_atf HH H S hx3 (fun e18 h18 => wq_gR H.1 rfl (rq_slot HH H S (fun x4 hx4 => wq_gR H.1 rfl ?_))))))
      rw [if_neg c1, ei] at h18
      refine rN12' (i := i) H S.1.1 hb.1 hi hv h18 (fun e23 h23' => rs_N (j := 28) (N := 128 * pp + F.length) H (by omega) rfl rfl hx4 (by show _ < 8192; omega) (fun h5 H5 => ?_))
      have Sn : SF V.1 ht ((q.1, xCh V.1 q.1 (xP V.1 (kC V.1 q.1 i) + 1)) :: F) := ⟨sq.1, sq.2.1, Or.inr ⟨hb, xCh_c P hb.1, ho⟩, sq.2.2.2⟩
      have ex : e23.toInt = (if xCh V.1 q.1 (xP V.1 (kC V.1 q.1 i) + 1) = -1 then -1 else B + (xCh V.1 q.1 (xP V.1 (kC V.1 q.1 i) + 1)).toInt) := by
        rw [h23']
        by_cases c2 : (i : Int) + 1 < (kf V.1 6 q.1).toInt
        · rw [if_pos c2, show xCh V.1 q.1 (xP V.1 (kC V.1 q.1 i) + 1) = kC V.1 q.1 (i + 1) from xC_k (n := i + 1) hb.1 (by rw [ep]; rfl) (by omega), if_neg (rg_n (po_k P hb.1 (i := i + 1) (by omega)).1)]
        · rw [if_neg c2, show xCh V.1 q.1 (xP V.1 (kC V.1 q.1 i) + 1) = -1 from if_neg (fun q' => by have := q'.2.2; omega), if_pos rfl]
      have S5 := BS_at (c' := xCh V.1 q.1 (xP V.1 (kC V.1 q.1 i) + 1)) (show BS V B fv pp ht r.1 r.2.2.1 r.2.2.2.1 r.2.2.2.2 ((q.1, q.2) :: F) σ from S) ex Sn
      have hbel : bel V.1 (kC V.1 q.1 i) ((q.1, xCh V.1 q.1 (xP V.1 (kC V.1 q.1 i) + 1)) :: F) := ⟨by rw [hvq]; exact hb, F, by rw [hvq]⟩
      have G5 : sm (QY pp fv V.2.2.2) σ0 (sI σ 28 (128 * pp + F.length) e23) := sm_I G (Or.inl (QX_s (by omega) (by omega)))
      refine rq_steps H5 S5 G5 h40 ((sI_nj (by omega)).trans h23) (fun n0 => ?_) (fun n' σ6 h6 en H6 S6 G6 e40 e23 => ?_)
      · rw [n0]
        exact wq_some (rI_i (ro_2 H5 G5 S5.1 ((sI_nj (by omega)).trans h23)))
      refine wq_at H6.1 (wq_cI (r_act (d := d) (r := rSt r) K HG HH hv (hb.2.2 i hi) hbel (GR _ hv) (GS _ hv) h18 H6 S6) fun y h7 p => ?_)
      obtain ⟨σ7, H7, G7, p⟩ := p
      have G07 : sm (QY pp fv V.2.2.2) σ0 σ7 := sm_tr G6 G7 QY_x
      cases eo : sAct V (rSt r) (kC V.1 q.1 i) with
      | none =>
        rw [eo] at p es
        obtain ⟨rfl, p⟩ := p
        rw [en]
        exact wq_t rfl (wq_some (rI_i (ro_3 (z := 0) es H7 G07 p ((x23 G7).trans e23))))
      | some p' =>
        obtain ⟨r2, bo⟩ := p'
        obtain ⟨k1, k2, k3⟩ := act_k eo
        rw [eo] at p es
        obtain ⟨rfl, ⟨F2, S7, N7⟩, wt⟩ := p
        refine wq_f (by decide) (wq_gR H7.1 rfl (rd_k H7 h18 S7.1.1 hv (wq_if _ (fun c44 => ?_) (fun c44 => ?_))))
        · have b0 := k1 c44
          rw [en, pRun_0 es b0]
          exact wq_some (rI_i ⟨rfl, σ7, H7, G07, S7.1, (x23 G7).trans (e23.trans k3.symm), fun _ => ⟨⟨F2, S7, N7⟩, wt b0⟩⟩)
        · exact go n' r2 bo F2 σ6 σ7 h7 en es (by rw [k2 c44]; decide) H7 G07 G7 e40 e23 S7 N7 k3
/-- the root's frame -/
theorem SF_root (P : PO V.1) (hb : bdy V.1 l) (hu : xU V.1 l = -1) : SF V.1 ht [(l, xCh V.1 l 0)] := ⟨hb.1, fun p hp => absurd hp List.not_mem_nil, Or.inr ⟨hb, xCh_c P hb.1, by unfold own; rw [if_pos hu]⟩, trivial⟩
theorem r_go_l (GG : GK V kS kV) (GR : ∀ v, rgN V.1 v → gSr V kS kV v) (HH : HT V.1 ht) (hb : bdy V.1 (rtV V.1)) (hu : xU V.1 (rtV V.1) = -1) (hr : (ia σ0 17 pp).toInt = B + (rtV V.1).toInt) : ∀ (n : Nat) (F : FL) (r : RST) (σ : rS) (h : ah_H), GI V kS kV B fv pp ht σ0 n F r σ → RH m σ bb h → wq (ah_val lim ah_P (d + 212) 92 0 [some (aR m), none, none] [] h) (rI (roM m bb V B fv pp ht σ0 (pRun V n r))) := by
  have P := GG.1
  have HG := GG.2.1
  have step : ∀ n, (∀ n', n = n' + 1 → ∀ (F : FL) (r : RST) (σ : rS) (h : ah_H), GI V kS kV B fv pp ht σ0 n' F r σ → RH m σ bb h → wq (ah_val lim ah_P (d + 212) 92 0 [some (aR m), none, none] [] h) (rI (roM m bb V B fv pp ht σ0 (pRun V n' r)))) → (∀ n', n = n' + 1 → ∀ q F (r : RST) (σ : rS) (h : ah_H), GI V kS kV B fv pp ht σ0 n' (q :: F) r σ → RH m σ bb h → wq (ah_val lim ah_P (d + 212) 92 48 [some (aR m), none, none] [] h) (rI (roM m bb V B fv pp ht σ0 (pRun V n' r)))) → (∀ (F : FL) (r : RST) (σ : rS) (h : ah_H), GI V kS kV B fv pp ht σ0 n F r σ → RH m σ bb h → wq (ah_val lim ah_P (d + 212) 92 0 [some (aR m), none, none] [] h) (rI (roM m bb V B fv pp ht σ0 (pRun V n r)))) ∧ ∀ q F (r : RST) (σ : rS) (h : ah_H), GI V kS kV B fv pp ht σ0 n (q :: F) r σ → RH m σ bb h → wq (ah_val lim ah_P (d + 212) 92 48 [some (aR m), none, none] [] h) (rI (roM m bb V B fv pp ht σ0 (pRun V n r))) := by
    intro n ih ih48
    have A : ∀ (F : FL) (r : RST) (σ : rS) (h : ah_H), GI V kS kV B fv pp ht σ0 n F r σ → RH m σ bb h → wq (ah_val lim ah_P (d + 212) 92 0 [some (aR m), none, none] [] h) (rI (roM m bb V B fv pp ht σ0 (pRun V n r))) := by
      intro F
      induction F with
      | nil =>
        intro r σ h I H
        obtain ⟨S, hN, h40, h23, G, K, hA⟩ := I
        have p1 := S.1.2.2.2.1.1
        have p2 := S.1.2.2.2.1.2
        have x0 : (ia σ 26 pp).toInt = 0 := S.2.1
        refine wq_eq q_92_0 (wq_gR H.1 rfl (wq_gI H.1 rfl (ra_I H (j := 26) (by omega) rfl rfl (by omega) (by show _ < (64 : Int); omega) ?_)))
        rw [show (σ.1 39).toInt.toNat = pp by omega, show ia σ 26 pp = 0 from Int32.toInt_inj.mp x0]
        refine wq_t rfl (rq_steps H S G h40 h23 (fun n0 => ?_) (fun n' σ3 h3 en H3 S3 G3 e40 e23 => ?_))
        · rw [n0]
          exact wq_some (rI_i (ro_2 H G S.1 h23))
        have t0 : r.2.1.2.2.2.2.1 = 0 := (congrArg Prod.fst hN).symm
        have es : sStep V (rSt r) = oStep V (rSt r) (oI (rSt r) (rtV V.1)) := by
          unfold sStep
          rw [show (rSt r).2.1.2.2.2.2.1 = 0 from t0, if_pos rfl]
        have q1 := S3.1.2.2.2.1.1
        have h17 : (ia σ3 17 pp).toInt = B + (rtV V.1).toInt := by
          rw [show ia σ3 17 pp = ia σ0 17 pp from G3.2.2.1 17 pp (fun q => by unfold QY QX at q; omega)]
          exact hr
        refine wq_gR H3.1 rfl (wq_gI H3.1 rfl (ra_I H3 (j := 17) (by omega) rfl rfl (by omega) (by show _ < (64 : Int); omega) (wq_gR H3.1 rfl (wq_gR H3.1 rfl (wq_gI H3.1 rfl (ra_I H3 (j := 17) (by omega) rfl rfl (by omega) (by show _ < (64 : Int); omega) ?_))))))
        rw [show (σ3.1 39).toInt.toNat = pp by omega]
        have Sn := SF_root (ht := ht) P hb hu
        refine rdN (j := 11) H3 (by omega) h17 S3.1.1 hb.1 (rq_enter (σ0 := σ3) HH H3 S3 sm_0 h17 (kid_v P hb.1 ((S3.1.1.2 _ hb.1).2.2.2.1) ((S3.1.1.2 _ hb.1).2.2.2.2.1)) Sn (fun q => absurd q (n48 hb)) (fun σ4 h4 H4 S4 G4 _ => ?_))
        rw [en, pRun_1 es (by decide)]
        exact ih48 n' en _ [] _ σ4 h4 ⟨S4, (gq_1 HG Sn hb).symm, by rw [x40 G4]; exact e40, (x23 G4).trans e23, sm_tr G3 G4 QY_x, KQ_step (r := rSt r) GG K hA es, (so_step (r := rSt r) GG (fun i hi => ⟨(K.2.2 i hi).1, (K.2.2 i hi).2.1⟩) hA es).2.1⟩ H4
      | cons q F ihF =>
        intro r σ h I H
        have S := I.1
        have p1 := S.1.2.2.2.1.1
        have p2 := S.1.2.2.2.1.2
        have x1 : (ia σ 26 pp).toInt = ((F.length + 1 : Nat) : Int) := S.2.1
        refine wq_eq q_92_0 (wq_gR H.1 rfl (wq_gI H.1 rfl (ra_I H (j := 26) (by omega) rfl rfl (by omega) (by show _ < (64 : Int); omega) ?_)))
        rw [show (σ.1 39).toInt.toNat = pp by omega]
        refine wq_f (fun q => ?_) (r_go_48 GG GR HH I H (fun σ h I H => ihF r σ h I H) ih)
        rw [q] at x1
        have : (0 : Int32).toInt = 0 := rfl
        omega
    exact ⟨A, fun q F r σ h I H => r_go_48 GG GR HH I H (fun σ h I H => A F r σ h I H) ih⟩
  have all : ∀ n, (∀ (F : FL) (r : RST) (σ : rS) (h : ah_H), GI V kS kV B fv pp ht σ0 n F r σ → RH m σ bb h → wq (ah_val lim ah_P (d + 212) 92 0 [some (aR m), none, none] [] h) (rI (roM m bb V B fv pp ht σ0 (pRun V n r)))) ∧ ∀ q F (r : RST) (σ : rS) (h : ah_H), GI V kS kV B fv pp ht σ0 n (q :: F) r σ → RH m σ bb h → wq (ah_val lim ah_P (d + 212) 92 48 [some (aR m), none, none] [] h) (rI (roM m bb V B fv pp ht σ0 (pRun V n r))) := by
    intro n
    induction n with
    | zero => exact step 0 (fun n' q => by omega) (fun n' q => by omega)
    | succ n ih =>
      refine step (n + 1) (fun n' q => ?_) (fun n' q => ?_)
      · have : n' = n := by omega
        subst this
        exact ih.1
      · have : n' = n := by omega
        subst this
        exact ih.2
  exact fun n => (all n).1
/-- the whole run -/
theorem r_go (GG : GK V kS kV) (GR : ∀ v, rgN V.1 v → gSr V kS kV v) (HH : HT V.1 ht) (hb : bdy V.1 (rtV V.1)) (hu : xU V.1 (rtV V.1) = -1) (hr : (ia σ 17 pp).toInt = B + (rtV V.1).toInt) (I : GI V kS kV B fv pp ht σ n F r σ) (H : RH m σ bb h) : wq (vc lim (d + 213) 92 [aR m] h) (rI (roM m bb V B fv pp ht σ (pRun V n r))) := r_go_l (d := d) GG GR HH hb hu hr n F r σ h I H
end Yw
