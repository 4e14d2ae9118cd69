/-! THE RUN OF A PROCESS: a statement, the whole -/
section Al
variable {lim : Nat × Nat} {m q d n k D : Nat} {w w2 : Bool} {σ σ0 : rS} {b h : ah_H} {v1 v2 : Int32}
theorem i32_of {x : Int32} {k : Int} {y : Int32} (h : x.toInt = k) (hy : y.toInt = k) : x = y := Int32.toInt_inj.mp (h.trans hy.symm)
theorem v_act (H : RH m σ0 b h) (O : OKV σ0) (S : sH σ0 q d n w) (hS : xS σ0 n w v1.toInt) : wq (vc lim (D + 221) m_Ref_act [.inr (.inr (some m)), .inl v1] h) (aP m q σ0 v1 b) := by
  obtain ⟨hP, hA, hq, hd, F⟩ := id S
  obtain ⟨p1, p2, -⟩ := id hP
  have hq2 : q < 64 := by omega
  have hb := fr_b F
  have G : sm (QR 1001) σ0 σ0 := sm_0
  have hs : vN σ0 v1.toInt := by
    match n, hS with
    | 0, h => exact h.elim
    | 1, h => exact h.1
    | _ + 2, h => exact h.1
  refine wq_eq e_Ref_act (wq_gR H.1 rfl (rd_n H G hs (by omega) (wq_gR H.1 rfl (rd_n H G hs (by omega) ?_))))
  match n, hS, S with
  | 0, h, _ => exact h.elim
  | 1, hS, S =>
    have e := hS.2
    rw [i32_of (y := 45) e rfl]
    iterate 15 refine wq_f (by decide) ?_
    exact wq_t rfl (aP_f (fP_1 H O G hq2 hA hd F) (by omega))
  | n + 2, hS, S =>
    obtain ⟨-, hS⟩ := hS
    rcases hS with ⟨e, -, -, hT, hc2, l, hl, -, hc⟩ | ⟨e, hT, hx⟩ | ⟨e, l, hl⟩ | ⟨e, hx, l, hl⟩ | ⟨e, ob, h81, hx, hy, hB⟩ | ⟨e, hx, hB⟩ | ⟨e, hB⟩ | ⟨e, hw, hk, hx⟩ | ⟨e, k1, -, -, k2, -, hT⟩ | e | ⟨e, hx⟩ | ⟨e, hx, hy⟩
    · rw [i32_of (y := 30) e rfl]
      refine wq_t rfl (wq_at H.1 (wq_cI (v_assign (q := q) (l := l) H O G (n := n + 1) (by omega) hP hA hs hT (by omega) ?_ ?_) ?_))
      · intro c
        have c : (ia σ0 9 v1.toInt.toNat).toInt = 2 := congrArg Int32.toInt c
        rw [if_pos c] at hc
        exact ⟨(hc2 c).1, hc⟩
      · intro c
        have c : ¬ (ia σ0 9 v1.toInt.toNat).toInt = 2 := fun h => c (i32_of h rfl)
        rw [if_neg c] at hc
        exact hc
      · rintro x h2 z
        exact wq_t z.2 (wq_some (aP_s z hq2 hd F (by omega)))
    · rw [i32_of (y := 33) e rfl]
      iterate 3 refine wq_f (by decide) ?_
      refine wq_t rfl (wq_at H.1 (wq_cI (v_keepValue (q := q) H O G (n := n + 1) (by omega) hP hA hs hT hx) ?_))
      rintro x h2 z
      exact wq_t z.2 (wq_some (aP_s z hq2 hd F (by omega)))
    · rw [i32_of (y := 34) e rfl]
      iterate 4 refine wq_f (by decide) ?_
      exact wq_t rfl (wq_at H.1 (wq_cI (v_branch H O S hs hl) (fun x h2 z => aP_f (rI_i z) (by omega))))
    · rw [i32_of (y := 35) e rfl]
      iterate 5 refine wq_f (by decide) ?_
      exact wq_t rfl (wq_at H.1 (wq_cI (v_choose H O S hs hx hl) (fun x h2 z => aP_f (rI_i z) (by omega))))
    · have hL : lF σ0 n v1.toInt := ⟨hs, Or.inl ⟨e, ob, h81, xE_v hx, xE_v hy, hB⟩⟩
      rcases e with e | e
      · rw [i32_of (y := 38) e rfl]
        iterate 8 refine wq_f (by decide) ?_
        exact wq_t rfl (wq_at H.1 (wq_cI (v_beginFor H O S hs ob.1 hx hy hL) (fun x h2 z => aP_f (rI_i z) (by omega))))
      · rw [i32_of (y := 39) e rfl]
        iterate 9 refine wq_f (by decide) ?_
        exact wq_t rfl (wq_at H.1 (wq_cI (v_beginFor H O S hs ob.1 hx hy hL) (fun x h2 z => aP_f (rI_i z) (by omega))))
    · have hL : lF σ0 n v1.toInt := ⟨hs, Or.inr (Or.inl ⟨e, hx, hB⟩)⟩
      rw [i32_of (y := 40) e rfl]
      iterate 10 refine wq_f (by decide) ?_
      exact wq_t rfl (wq_at H.1 (wq_cV (do_enter (k := n + 1) (w2 := true) H O G hP hA hq hd F (by omega) (Or.inr ⟨n, rfl, rfl, hL⟩)) (fun h' f => aP_f (fP_e f) (by omega))))
    · have hL : lF σ0 n v1.toInt := ⟨hs, Or.inr (Or.inr ⟨e, hB⟩)⟩
      rw [i32_of (y := 41) e rfl]
      iterate 11 refine wq_f (by decide) ?_
      exact wq_t rfl (wq_at H.1 (wq_cV (do_enter (k := n + 1) (w2 := true) H O G hP hA hq hd F (by omega) (Or.inr ⟨n, rfl, rfl, hL⟩)) (fun h' f => aP_f (fP_e f) (by omega))))
    · subst hw
      rcases e with e | e
      · rw [i32_of (y := 42) e rfl]
        iterate 12 refine wq_f (by decide) ?_
        exact wq_t rfl (wq_at H.1 (wq_cI (v_leave H O S hs hk hx) (fun x h2 z => aP_f (rI_i z) (by omega))))
      · rw [i32_of (y := 43) e rfl]
        iterate 13 refine wq_f (by decide) ?_
        exact wq_t rfl (wq_at H.1 (wq_cI (v_leave H O S hs hk hx) (fun x h2 z => aP_f (rI_i z) (by omega))))
    · rw [i32_of (y := 44) e rfl]
      iterate 14 refine wq_f (by decide) ?_
      refine wq_t rfl (wq_at H.1 (wq_cI (v_waitFor (q := q) (n := n + 1) H O G (by omega) hP hA (by omega) hs k1 k2 hT) ?_))
      rintro x h2 ⟨⟨σ', a1, a2, a3, a4, a5⟩, hx⟩
      have e2 : ia σ' 26 q = ia σ0 26 q := a3.2.2.1 26 _ (nQf (by omega) (by omega))
      exact wq_t hx (wq_some (rI_i ⟨⟨σ', a1, a2, sm_tr sm_0 a3 (QR_le2 (by omega)), a4, fun _ => ⟨d, n + 2, w, by rw [e2]; exact hd, fr_sm (by omega) a3 F⟩, fun h1 _ => a5 h1⟩, hx⟩))
    · rw [i32_of (y := 45) e rfl]
      iterate 15 refine wq_f (by decide) ?_
      exact wq_t rfl (aP_f (fP_1 H O G hq2 hA hd F) (by omega))
    · rw [i32_of (y := 46) e rfl]
      iterate 16 refine wq_f (by decide) ?_
      refine wq_t rfl (wq_at H.1 (wq_cI (v_condition H O G (n := n + 1) (by omega) hP hx) ?_))
      rintro y2 h2 ⟨⟨σ2, H2, O2, G2⟩, -⟩
      refine wq_if _ (fun c => aP_f (fP_0 H2 O2 G2 hq2 hA) (by omega)) (fun c => wq_at H2.1 (wq_cI (v_tell (q := q) H2 O2 G2 hA) ?_))
      rintro x h3 ⟨z1, hx⟩
      refine wq_if _ (fun c => ?_) (fun c => ?_)
      · subst c
        exact wq_t (Or.inl rfl) (wq_some (aP_s ⟨z1, Or.inl rfl⟩ hq2 hd F (by omega)))
      · have hx : x = 1 := hx.resolve_left c
        subst hx
        exact wq_t (Or.inr rfl) (wq_some (aP_s ⟨z1, Or.inr rfl⟩ hq2 hd F (by omega)))
    · rw [i32_of (y := 47) e rfl]
      iterate 17 refine wq_f (by decide) ?_
      exact act_171 (D := D + 1) H O S (n1 := n + 1) (by omega) (by omega) hx hy
/-- a step is counted -/
theorem v_steps (H : RH m σ b h) (hq : (σ.1 39).toInt = q) (hq2 : q < 64) : wq (vc lim (D + 1) m_Ref_steps [.inr (.inr (some m))] h) (rI fun x h' => (x = 0 ∧ h' = h) ∨ (x = 1 ∧ ¬ σ.1 40 = 0 ∧ ∃ v, RH m (sI (sG σ 40 (σ.1 40 - 1)) 23 q v) b h')) := by
  have hq3 : (σ.1 39).toInt.toNat = q := by omega
  refine wq_eq e_Ref_steps (wq_gI H.1 rfl (wq_if _ (fun c => ?_) (fun c => ?_)))
  · exact wq_t (Or.inl rfl) (wq_some (rI_i (Or.inl ⟨rfl, rfl⟩)))
  · refine wq_gI H.1 rfl (rw_I H (by omega) rfl (fun h3 H3 => ?_))
    have e39 : (sG σ 40 (σ.1 40 - 1)).1 39 = σ.1 39 := sG_ne (by omega)
    refine wq_gR H3.1 rfl (wq_gI H3.1 rfl (wq_gR H3.1 rfl (wq_gI H3.1 rfl ?_)))
    rw [e39]
    refine ra_I H3 (by omega) rfl rfl (by omega) (by show _ < (64 : Int); omega) (wq_if _ (fun c2 => ?_) (fun c2 => ?_))
    · refine rs_I H3 (by omega) rfl rfl (by omega) (by show _ < (64 : Int); omega) (fun h4 H4 => ?_)
      rw [hq3] at H4
      exact wq_t (Or.inr rfl) (wq_some (rI_i (Or.inr ⟨rfl, c, _, H4⟩)))
    · refine wq_gR H3.1 rfl (wq_gI H3.1 rfl ?_)
      rw [e39]
      refine ra_I H3 (by omega) rfl rfl (by omega) (by show _ < (64 : Int); omega) (rs_I H3 (by omega) rfl rfl (by omega) (by show _ < (64 : Int); omega) (fun h4 H4 => ?_))
      rw [hq3] at H4
      exact wq_t (Or.inr rfl) (wq_some (rI_i (Or.inr ⟨rfl, c, _, H4⟩)))
/-- a process waits at a statement of its own -/
def wA (σ : rS) (q : Nat) : Prop := ∃ (n : Nat) (w : Bool), n ≤ 101 ∧ xS σ n w (ia σ 24 q).toInt ∧ (ia σ 8 (ia σ 24 q).toInt.toNat).toInt = 44
/-- also how many steps are left -/
def QL (q j i : Nat) : Prop := QR q j i ∨ (j = 100 ∧ i = 40)
theorem SE_ol {σ σ' : rS} (G : sm (QL q) σ σ') : SE σ σ' := ⟨fun j i hj => G.2.2.1 j i (fun h => h.elim (nQ_j hj i) (fun h => by omega)), fun k hk => G.1 k (fun h => h.elim (nQ_f hk) (fun h => by omega))⟩
theorem sm_l {σ σ' : rS} (G : sm (QR q) σ σ') : sm (QL q) σ σ' := sm_tr sm_0 G (fun _ _ h => Or.inl h)
theorem nQ40 {p : Nat} : ¬ QR p 100 40 := by unfold QR; omega
/-- how a run ends -/
def gP (m q : Nat) (σ0 : rS) (b : ah_H) : ah_R → Prop := rI fun x h' => (∃ σ', RH m σ' b h' ∧ OKV σ' ∧ sm (QL q) σ0 σ' ∧ AI σ' ∧ (x = 1 → (∃ (d n : Nat) (w : Bool), (ia σ' 26 q).toInt = d ∧ fr σ' q d n w) ∧ wA σ' q)) ∧ (x = 1 ∨ x = 2 ∨ x = 3)
theorem gP_tr {z : ah_R} (f : gP m q σ b z) (G : sm (QL q) σ0 σ) : gP m q σ0 b z := by
  obtain ⟨x, h', rfl, ⟨σ', a1, a2, a3, a4, a5⟩, hx⟩ := f
  exact ⟨x, h', rfl, ⟨σ', a1, a2, sm_tr G a3 (fun _ _ h => h), a4, a5⟩, hx⟩
/-- a process on its way -/
def gS (σ : rS) (q d n : Nat) (w : Bool) : Prop := sH σ q d n w ∧ OKV σ ∧ 0 ≤ (σ.1 40).toInt ∧ (σ.1 40).toInt ≤ 10000 ∧ ∃ k, k ≤ 100 ∧ xB σ (xS σ k false) (ia σ 17 q).toInt
theorem gS_st {v : Int32} (S : gS σ q d n w) (hc : ¬ σ.1 40 = 0) (hq2 : q < 64) : gS (sI (sG σ 40 (σ.1 40 - 1)) 23 q v) q d n w ∧ ((sI (sG σ 40 (σ.1 40 - 1)) 23 q v).1 40).toInt = (σ.1 40).toInt - 1 ∧ sm (QL q) σ (sI (sG σ 40 (σ.1 40 - 1)) 23 q v) ∧ SE σ (sI (sG σ 40 (σ.1 40 - 1)) 23 q v) := by
  obtain ⟨⟨hP, hA, hq, hd, F⟩, O, l0, l1, k, hk, hr⟩ := S
  have E : SE σ (sI (sG σ 40 (σ.1 40 - 1)) 23 q v) := ⟨fun j i hj => sI_nj (by omega), fun k hk => sG_ne (by omega)⟩
  have e1 : (1 : Int32).toInt = 1 := rfl
  have hc : ¬ (σ.1 40).toInt = 0 := fun h => hc (i32_of h rfl)
  have e : ((sI (sG σ 40 (σ.1 40 - 1)) 23 q v).1 40).toInt = (σ.1 40).toInt - 1 := by
    show ((sG σ 40 (σ.1 40 - 1)).1 40).toInt = _
    rw [sG_eq, sb_i (by omega) (by omega), e1]
  have g : sm (QL q) σ (sI (sG σ 40 (σ.1 40 - 1)) 23 q v) := sm_I (sm_G sm_0 (Or.inr ⟨rfl, rfl⟩)) (Or.inl (by unfold QR; omega))
  have hA2 : AI (sG σ 40 (σ.1 40 - 1)) := by
    have a1 : (sG σ 40 (σ.1 40 - 1)).1 46 = σ.1 46 := sG_ne (by omega)
    have a2 : (sG σ 40 (σ.1 40 - 1)).1 47 = σ.1 47 := sG_ne (by omega)
    unfold AI
    rw [a1, a2]
    exact hA
  refine ⟨⟨⟨PV_SE E hP, AI_I hA2 (by omega), ?_, ?_, fr_SE E (fun i _ => ⟨sI_nj (by omega), sI_nj (by omega)⟩) F⟩, okv_n O (by omega) (by omega), by omega, by omega, k, hk, ?_⟩, e, g, E⟩
  · rw [E.2 39 (by omega)]
    exact hq
  · have e2 : ia (sI (sG σ 40 (σ.1 40 - 1)) 23 q v) 26 q = ia σ 26 q := sI_nj (by omega)
    rw [e2]
    exact hd
  · have e2 : ia (sI (sG σ 40 (σ.1 40 - 1)) 23 q v) 17 q = ia σ 17 q := sI_nj (by omega)
    rw [xB_SE E (xS_SE E k false), e2]
    exact hr
/-- from a statement's end on -/
theorem gS_of {σ' : rS} (S : gS σ q d n w) (hq2 : q < 64) (O : OKV σ') (G : sm (QR q) σ σ') (A : AI σ') {d' n' : Nat} {w' : Bool} (hd : (ia σ' 26 q).toInt = d') (F : fr σ' q d' n' w') : gS σ' q d' n' w' := by
  obtain ⟨⟨hP, hA, hq, -, -⟩, -, l0, l1, k, hk, hr⟩ := S
  have E := SE_of G
  have hl : σ'.1 40 = σ.1 40 := G.1 40 nQ40
  refine ⟨⟨PV_SE E hP, A, by rw [E.2 39 (by omega)]; exact hq, hd, F⟩, O, by rw [hl]; exact l0, by rw [hl]; exact l1, k, hk, ?_⟩
  rw [xB_SE E (xS_SE E k false), show ia σ' 17 q = ia σ 17 q from SE_arr E (by omega) q]
  exact hr
theorem go_48 (ih : ∀ (h' : ah_H) (σ' : rS) (d' n' : Nat) (w' : Bool), RH m σ' b h' → gS σ' q d' n' w' → 128 * (σ'.1 40).toInt + d' < 128 * (σ.1 40).toInt + (d + 1) → wq (ah_val lim ah_P (D + 222) 92 0 [some (.inr (.inr (some m))), none, none] [] h') (gP m q σ' b)) (H : RH m σ b h) (S : gS σ q (d + 1) n w) : wq (ah_val lim ah_P (D + 222) 92 48 [some (.inr (.inr (some m))), none, none] [] h) (gP m q σ b) := by
  obtain ⟨⟨hP, hA, hq, hd, F⟩, O, l0, l1, k0, hk0, hr⟩ := id S
  obtain ⟨p1, p2, -⟩ := id hP
  have hq2 : q < 64 := by omega
  have hb := fr_b F
  obtain ⟨n', w', F', hk, T⟩ := id F
  have G : sm (QR 1001) σ σ := sm_0
  refine wq_eq q_92_48 (wq_gR H.1 rfl (wq_at H.1 (wq_cI (f_slot (d := d + 1) H hq hq2 hd (by omega)) ?_)))
  rintro x h2 ⟨rfl, ex⟩
  refine ra_I H (by omega) rfl rfl (by omega) (by show _ < (8192 : Int); omega) ?_
  rw [show x.toInt.toNat = 128 * q + d by omega]
  have hv : vN σ (ia σ 27 (128 * q + d)).toInt := by
    rcases T with ⟨-, -, t, -⟩ | ⟨j, -, -, t⟩
    · exact t
    · exact t.1
  refine wq_gR H.1 rfl (rd_n H G hv (by omega) ?_)
  rcases T with ⟨t1, t2, t3, l, t4⟩ | ⟨j, t1, t2, t3⟩
  · subst t2
    refine wq_t (i32_of t1 rfl) (wq_gR H.1 rfl (wq_at H.1 (wq_cI (f_slot (d := d + 1) H hq hq2 hd (by omega)) ?_)))
    rintro x2 h8 ⟨rfl, ex2⟩
    refine ra_I H (by omega) rfl rfl (by omega) (by show _ < (8192 : Int); omega) ?_
    rw [show x2.toInt.toNat = 128 * q + d by omega]
    match l, t4 with
    | 0, t4 =>
      refine wq_t (eq_m1 t4) (wq_gR H.1 rfl (wq_gI H.1 rfl (rd_pop H hq hq2 (fun h' H' => ?_))))
      have G' : sm (QR q) σ (pp σ q) := pp_s sm_0 hq2
      exact wq_mono (ih h' (pp σ q) d n' w H' (gS_of S hq2 (pp_O O) G' (pp_A hA) (pp_d hd (by omega)) (pp_fr F')) (by rw [G'.1 40 nQ40]; omega)) (fun z f => gP_tr f (sm_l G'))
    | l + 1, t4 =>
      obtain ⟨g1, g2, g3⟩ := t4
      refine wq_f (ne_m1 g1) (wq_gR H.1 rfl (wq_at H.1 (wq_cI (f_slot (d := d + 1) H hq hq2 hd (by omega)) ?_)))
      rintro x3 h16 ⟨rfl, ex3⟩
      refine ra_I H (by omega) rfl rfl (by omega) (by show _ < (8192 : Int); omega) ?_
      rw [show x3.toInt.toNat = 128 * q + d by omega]
      refine wq_gR H.1 rfl (wq_at H.1 (wq_cI (f_slot (d := d + 1) H hq hq2 hd (by omega)) ?_))
      rintro x4 h20 ⟨rfl, ex4⟩
      refine wq_gR H.1 rfl (rd_n H G g1 (by omega) (rs_I H (by omega) rfl rfl (by omega) (by show _ < (8192 : Int); omega) (fun h24 H24 => ?_)))
      rw [show x4.toInt.toNat = 128 * q + d by omega] at H24
      have G1 : sm (QR q) σ (sI σ 28 (128 * q + d) (ia σ 12 (ia σ 28 (128 * q + d)).toInt.toNat)) := sm_I sm_0 (QRf hq2 (by omega) (by omega))
      have E1 := SE_of G1
      have F1 : fr (sI σ 28 (128 * q + d) (ia σ 12 (ia σ 28 (128 * q + d)).toInt.toNat)) q (d + 1) n w := by
        refine ⟨n', w, fr_SE E1 (fun i hi => ⟨sI_nj (by omega), sI_ni (by omega)⟩) F', hk, ?_⟩
        rw [tp_SE E1]
        refine Or.inl ⟨?_, rfl, ?_, l, ?_⟩
        · rw [show fF (sI σ 28 (128 * q + d) (ia σ 12 (ia σ 28 (128 * q + d)).toInt.toNat)) q d = fF σ q d from congrArg Int32.toInt (sI_nj (by omega))]
          exact t1
        · rw [show fF (sI σ 28 (128 * q + d) (ia σ 12 (ia σ 28 (128 * q + d)).toInt.toNat)) q d = fF σ q d from congrArg Int32.toInt (sI_nj (by omega))]
          exact t3
        · rw [show fG (sI σ 28 (128 * q + d) (ia σ 12 (ia σ 28 (128 * q + d)).toInt.toNat)) q d = (ia σ 12 (ia σ 28 (128 * q + d)).toInt.toNat).toInt from congrArg Int32.toInt sI_eq]
          exact g3
      have S1 : gS (sI σ 28 (128 * q + d) (ia σ 12 (ia σ 28 (128 * q + d)).toInt.toNat)) q (d + 1) n w := gS_of S hq2 (okv_n O (by omega) (by omega)) G1 (AI_I hA (by omega)) (by rw [sI_nj (by omega)]; exact hd) F1
      have g2 : xS (sI σ 28 (128 * q + d) (ia σ 12 (ia σ 28 (128 * q + d)).toInt.toNat)) n w (ia σ 28 (128 * q + d)).toInt := by rw [xS_SE E1]; exact g2
      have l1' : (sI σ 28 (128 * q + d) (ia σ 12 (ia σ 28 (128 * q + d)).toInt.toNat)).1 40 = σ.1 40 := rfl
      have g1 : vN (sI σ 28 (128 * q + d) (ia σ 12 (ia σ 28 (128 * q + d)).toInt.toNat)) (ia σ 28 (128 * q + d)).toInt := by rw [vN_SE E1]; exact g1
      generalize sI σ 28 (128 * q + d) (ia σ 12 (ia σ 28 (128 * q + d)).toInt.toNat) = σ1 at H24 G1 E1 F1 S1 g1 g2 l1'
      clear g3
      generalize ia σ 28 (128 * q + d) = s at g1 g2
      refine wq_mono ?_ (fun z f => gP_tr f (sm_l G1))
      obtain ⟨⟨hP1, hA1, hq1, hd1, -⟩, O1, -⟩ := id S1
      refine wq_at H24.1 (wq_cI (v_steps H24 hq1 hq2) ?_)
      rintro y h25 (⟨rfl, rfl⟩ | ⟨rfl, hc, v, H25⟩)
      · exact wq_t rfl (wq_some (rI_i ⟨⟨σ1, H24, O1, sm_0, hA1, fun h => absurd h (by decide)⟩, Or.inr (Or.inl rfl)⟩))
      · obtain ⟨S2, e2, G2, E2⟩ := gS_st (v := v) S1 hc hq2
        have g2 : xS (sI (sG σ1 40 (σ1.1 40 - 1)) 23 q v) n w s.toInt := by rw [xS_SE E2]; exact g2
        have g1 : vN (sI (sG σ1 40 (σ1.1 40 - 1)) 23 q v) s.toInt := by rw [vN_SE E2]; exact g1
        generalize sI (sG σ1 40 (σ1.1 40 - 1)) 23 q v = σ2 at H25 S2 e2 G2 E2 g1 g2
        refine wq_f (by decide) (wq_mono ?_ (fun z f => gP_tr f G2))
        obtain ⟨S2', O2, -⟩ := id S2
        refine wq_at H25.1 (wq_cI (v_act (D := D + 1) H25 O2 S2' g2) ?_)
        rintro y2 h27 ⟨⟨σ3, H3, O3, G3, A3, f3, w3⟩, hy2⟩
        refine wq_if _ (fun c => ?_) (fun c => ?_)
        · exact wq_some (rI_i ⟨⟨σ3, H3, O3, sm_l G3, A3, fun h => absurd h (by decide)⟩, Or.inr (Or.inr rfl)⟩)
        · have hy2 := hy2.resolve_left c
          obtain ⟨d3, n3, w3', hd3, F3⟩ := f3 hy2
          have hb3 := fr_b F3
          have E3 := SE_of G3
          have gs : vN σ2 s.toInt := g1
          refine wq_gR H3.1 rfl (rd_n H3 G3 gs (by omega) (wq_if _ (fun c2 => ?_) (fun c2 => ?_)))
          · have c2 : (ia σ2 8 s.toInt.toNat).toInt = 44 := congrArg Int32.toInt c2
            refine wq_some (rI_i ⟨⟨σ3, H3, O3, sm_l G3, A3, fun _ => ⟨⟨d3, n3, w3', hd3, F3⟩, n, w, by omega, ?_, ?_⟩⟩, Or.inl rfl⟩)
            · rw [w3 hy2 c2, xS_SE E3]
              exact g2
            · rw [w3 hy2 c2, show ia σ3 8 s.toInt.toNat = ia σ2 8 s.toInt.toNat from SE_arr E3 (by omega) _]
              exact c2
          · have S3 := gS_of S2 hq2 O3 G3 A3 hd3 F3
            have e3 : σ3.1 40 = σ2.1 40 := G3.1 40 nQ40
            exact wq_mono (ih h27 σ3 d3 n3 w3' H3 S3 (by rw [e3, e2, l1']; omega)) (fun z f => gP_tr f (sm_l G3))
  · subst t1 t2
    refine wq_f (fun c => ?_) (wq_at H.1 (wq_cI (v_steps H hq hq2) ?_))
    · have c : (ia σ 8 (fF σ q d).toNat).toInt = 48 := congrArg Int32.toInt c
      have t2 := t3.2
      rcases t2 with ⟨t2, -⟩ | ⟨t2, -⟩ | ⟨t2, -⟩ <;> omega
    · rintro y h31 (⟨rfl, rfl⟩ | ⟨rfl, hc, v, H31⟩)
      · exact wq_t rfl (wq_some (rI_i ⟨⟨σ, H, O, sm_0, hA, fun h => absurd h (by decide)⟩, Or.inr (Or.inl rfl)⟩))
      · obtain ⟨S2, e2, G2, E2⟩ := gS_st (v := v) S hc hq2
        have t3 : lF (sI (sG σ 40 (σ.1 40 - 1)) 23 q v) j (ia σ 27 (128 * q + d)).toInt := by rw [lF_SE E2]; exact t3
        have F2 : fr (sI (sG σ 40 (σ.1 40 - 1)) 23 q v) q d n' w' := fr_SE E2 (fun i _ => ⟨sI_nj (by omega), sI_nj (by omega)⟩) F'
        generalize sI (sG σ 40 (σ.1 40 - 1)) 23 q v = σ2 at H31 S2 e2 G2 E2 t3 F2
        refine wq_f (by decide) (wq_mono ?_ (fun z f => gP_tr f G2))
        obtain ⟨S2', O2, -⟩ := id S2
        refine wq_at H31.1 (wq_cI (v_look (D := D + 2) H31 O2 S2' F2 t3) ?_)
        rintro y2 h33 ⟨⟨σ3, H3, O3, G3, A3, f3⟩, hy2⟩
        refine wq_if _ (fun c => ?_) (fun c => ?_)
        · exact wq_some (rI_i ⟨⟨σ3, H3, O3, sm_l G3, A3, fun h => absurd h (by decide)⟩, Or.inr (Or.inr rfl)⟩)
        · obtain ⟨d3, n3, w3', hd3, F3⟩ := f3 (hy2.resolve_left c)
          have hb3 := fr_b F3
          have S3 := gS_of S2 hq2 O3 G3 A3 hd3 F3
          have e3 : σ3.1 40 = σ2.1 40 := G3.1 40 nQ40
          exact wq_mono (ih h33 σ3 d3 n3 w3' H3 S3 (by rw [e3, e2]; omega)) (fun z f => gP_tr f (sm_l G3))
theorem go_0 : ∀ (M : Nat) (h : ah_H) (σ : rS) (d n : Nat) (w : Bool), 128 * (σ.1 40).toInt + d < M → RH m σ b h → gS σ q d n w → wq (ah_val lim ah_P (D + 222) 92 0 [some (.inr (.inr (some m))), none, none] [] h) (gP m q σ b) := by
  intro M
  induction M with
  | zero => intro h σ d n w hM H S; obtain ⟨-, -, l0, -⟩ := S; omega
  | succ M ih =>
    intro h σ d n w hM H S
    obtain ⟨⟨hP, hA, hq, hd, F⟩, O, l0, l1, k0, hk0, hr⟩ := id S
    obtain ⟨p1, p2, -⟩ := id hP
    have hq2 : q < 64 := by omega
    have hq3 : (σ.1 39).toInt.toNat = q := by omega
    have hb := fr_b F
    have G : sm (QR 1001) σ σ := sm_0
    refine wq_eq q_92_0 (wq_gR H.1 rfl (wq_gI H.1 rfl (ra_I H (by omega) rfl rfl (by omega) (by show _ < (64 : Int); omega) ?_)))
    rw [hq3]
    match d, hd, F, S, hM with
    | 0, hd, F, S, hM =>
      refine wq_t (i32_of hd rfl) (wq_at H.1 (wq_cI (v_steps H hq hq2) ?_))
      rintro y h4 (⟨rfl, rfl⟩ | ⟨rfl, hc, v, H4⟩)
      · exact wq_t rfl (wq_some (rI_i ⟨⟨σ, H, O, sm_0, hA, fun h => absurd h (by decide)⟩, Or.inr (Or.inl rfl)⟩))
      · obtain ⟨S2, e2, G2, E2⟩ := gS_st (v := v) S hc hq2
        generalize sI (sG σ 40 (σ.1 40 - 1)) 23 q v = σ2 at H4 S2 e2 G2 E2
        refine wq_f (by decide) (wq_mono ?_ (fun z f => gP_tr f G2))
        obtain ⟨⟨hP2, hA2, hq', hd2, F2⟩, O2, l02, l12, k2, hk2, hr2⟩ := id S2
        have hq3 : (σ2.1 39).toInt.toNat = q := by omega
        have G' : sm (QR 1001) σ2 σ2 := sm_0
        refine wq_gR H4.1 rfl (wq_gI H4.1 rfl (rv_n H4 G' (by omega) rfl rfl (nQ_j (by omega)) (by omega) (by show _ < (64 : Int); omega) (wq_gR H4.1 rfl (wq_gR H4.1 rfl (wq_gI H4.1 rfl (rv_n H4 G' (by omega) rfl rfl (nQ_j (by omega)) (by omega) (by show _ < (64 : Int); omega) ?_))))))
        rw [hq3]
        have hn : n = 101 := F.1
        have F2' := F2
        rw [F2.1, F2.2] at F2'
        refine rd_n H4 G' hr2.1 (by omega) (wq_at H4.1 (wq_cV (do_enter (k := k2) (w2 := false) H4 O2 G' hP2 hA2 hq' hd2 F2' (by omega) (xB_tp hr2)) ?_))
        rintro h5 ⟨σ5, H5, O5, G5, A5, d5, F5⟩
        have S5 := gS_of S2 hq2 O5 G5 A5 d5 F5
        have e5 : (σ5.1 40).toInt = (σ2.1 40).toInt := congrArg Int32.toInt (G5.1 40 nQ40)
        exact wq_mono (go_48 (fun h' σ' d' n' w' H' S' hM' => ih h' σ' d' n' w' (by omega) H' S') H5 S5) (fun z f => gP_tr f (sm_l G5))
    | d + 1, hd, F, S, hM =>
      refine wq_f (fun c => by have := congrArg Int32.toInt c; have : (0 : Int32).toInt = 0 := rfl; omega) ?_
      exact go_48 (fun h' σ' d' n' w' H' S' hM' => ih h' σ' d' n' w' (by omega) H' S') H S
theorem v_go (H : RH m σ b h) (S : gS σ q d n w) : wq (vc lim (D + 223) m_Ref_go [.inr (.inr (some m))] h) (gP m q σ b) := by
  have hM : 128 * (σ.1 40).toInt + d < (((128 * (σ.1 40).toInt + d).toNat + 1 : Nat) : Int) := by have := S.2.2.1; omega
  exact go_0 (D := D) _ h σ d n w hM H S
end Al
