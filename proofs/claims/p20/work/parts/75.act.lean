/-! THE RUN OF A PROCESS: looks, statements, the whole -/
section Ac
variable {lim : Nat × Nat} {m q d n k D : Nat} {w w2 : Bool} {σ σ0 : rS} {b h : ah_H} {v1 v2 : Int32}
theorem lk_251 {v3 : Int32} {n' : Nat} {w' : Bool} (H : RH m σ b h) (O : OKV σ) (S : sH σ q (d + 1) (k + 1) true) (F' : fr σ q d n' w') (hB : xB σ (xS σ k true) v2.toInt) : wq (ah_val lim ah_P (D + 2) 93 251 [some (.inr (.inr (some m))), none, some (.inl v2), some (.inl v3), none, none, none, none] [] h) (fP m q σ b) := by
  obtain ⟨hP, hA, hq, hd, F⟩ := S
  obtain ⟨p1, p2, -⟩ := id hP
  have hq2 : q < 64 := by omega
  have hb := fr_b F
  refine wq_eq q_93_251 (wq_if _ (fun c => ?_) (fun c => ?_))
  · exact wq_gR H.1 rfl (wq_gI H.1 rfl (rd_pop H hq hq2 (fun h' H' => wq_t (Or.inr rfl) (wq_some (rI_i ⟨⟨_, H', pp_O O, pp_s sm_0 hq2, pp_A hA, fun _ => ⟨d, n', w', pp_d hd (by omega), pp_fr F'⟩⟩, Or.inr rfl⟩)))))
  · exact wq_gR H.1 rfl (rd_n H (sm_0 (Q := QR 1001)) hB.1 (by omega) (wq_at H.1 (wq_cV (do_enter H O sm_0 hP hA hq hd F (by omega) (xB_tp hB)) (fun h' f => wq_t (Or.inr rfl) (wq_some (fP_e f))))))
theorem lk_251' {v3 : Int32} {n' : Nat} {w' : Bool} (H : RH m σ b h) (O : OKV σ) (G : sm (QR 1001) σ0 σ) (S : sH σ0 q (d + 1) (k + 1) true) (F' : fr σ0 q d n' w') (hB : xB σ0 (xS σ0 k true) v2.toInt) : wq (ah_val lim ah_P (D + 2) 93 251 [some (.inr (.inr (some m))), none, some (.inl v2), some (.inl v3), none, none, none, none] [] h) (fP m q σ0 b) := by
  obtain ⟨hP, hA, hq, hd, F⟩ := S
  obtain ⟨p1, p2, -⟩ := id hP
  have E := SE_of G
  have e1 : σ.1 39 = σ0.1 39 := G.1 39 (nQ_f (by omega))
  have e2 : ia σ 26 q = ia σ0 26 q := G.2.2.1 26 _ (nQf (by omega) (by omega))
  refine wq_mono (lk_251 (d := d) (k := k) (n' := n') (w' := w') H O ⟨PV_SE E hP, AI_sm G hA, by rw [e1]; exact hq, by rw [e2]; exact hd, fr_sm (by omega) G F⟩ (fr_sm (by omega) G F') ?_) (fun z f => fP_tr f (sm_up1 G (by omega)))
  rw [xB_SE E (xS_SE E k true)]
  exact hB
theorem lk_145 {v3 v4 v7 : Int32} {v5 : Int64} {n' : Nat} {w' : Bool} (H : RH m σ0 b h) (O : OKV σ0) (S : sH σ0 q (d + 1) (k + 1) true) (F' : fr σ0 q d n' w') (h2 : vN σ0 v2.toInt) (h3 : vN σ0 ((ia σ0 12 v2.toInt.toNat).toInt)) (h4 : vN σ0 ((ia σ0 12 (ia σ0 12 v2.toInt.toNat).toInt.toNat).toInt)) (hB : xB σ0 (xS σ0 k true) ((ia σ0 12 (ia σ0 12 (ia σ0 12 v2.toInt.toNat).toInt.toNat).toInt.toNat).toInt)) (o1 : 1024 ≤ v7.toInt) (o2 : v7.toInt < 9216) : wq (ah_val lim ah_P (D + 2) 93 145 [some (.inr (.inr (some m))), none, some (.inl v2), some (.inl v3), some (.inl v4), some (.inr (.inl v5)), none, some (.inl v7)] [] h) (fP m q σ0 b) := by
  obtain ⟨hP, hA, hq, hd, F⟩ := id S
  obtain ⟨p1, p2, -⟩ := id hP
  have hq2 : q < 64 := by omega
  have hb := fr_b F
  have G : sm (QR 1001) σ0 σ0 := sm_0
  refine wq_eq q_93_145 (wq_if _ (fun c => ?_) (fun c => ?_))
  · exact wq_gR H.1 rfl (wq_gR H.1 rfl (wq_gR H.1 rfl (rd_n H G h2 (by omega) (rd_n H G h3 (by omega) (rd_n H G h4 (by omega) (lk_251 H O S F' hB))))))
  · refine wq_gR H.1 rfl (rs_J H (by omega) rfl (by omega) (by show _ < (10100 : Int); omega) (fun h8 H8 => ?_))
    refine wq_gR H8.1 rfl (wq_at H8.1 (wq_cI (f_slot (d := d + 1) H8 hq hq2 hd (by omega)) ?_))
    rintro x h10 ⟨rfl, ex⟩
    have G8 : sm (QR q) σ0 (sJ σ0 4 v7.toInt.toNat v5) := sm_J sm_0 (by unfold QR; omega)
    have go : ∀ (z : Int64) (h' : ah_H), RH m (sJ (sJ σ0 4 v7.toInt.toNat v5) 29 x.toInt.toNat z) b h' → wq (ah_gR h' (some m) 11 16 fun r13 => ah_gR h' (some m) 11 16 fun r14 => ah_gR h' (some m) 11 16 fun r15 => ah_lI h' r15 100 v2 fun e16 => ah_lI h' r14 100 e16 fun e17 => ah_lI h' r13 100 e17 fun e18 => ah_val lim ah_P (D + 2) 93 251 [some (.inr (.inr (some m))), none, some (.inl e18), some (.inl v3), none, none, none, none] [] h') (fP m q σ0 b) := by
      intro z h' H'
      have E : SE σ0 (sJ (sJ σ0 4 v7.toInt.toNat v5) 29 x.toInt.toNat z) := ⟨fun _ _ _ => rfl, fun _ _ => rfl⟩
      have G9 : sm (QR q) σ0 (sJ (sJ σ0 4 v7.toInt.toNat v5) 29 x.toInt.toNat z) := sm_J G8 (QRf hq2 (by omega) (by omega))
      have O9 : OKV (sJ (sJ σ0 4 v7.toInt.toNat v5) 29 x.toInt.toNat z) := O
      refine wq_gR H'.1 rfl (wq_gR H'.1 rfl (wq_gR H'.1 rfl (rd_n H' G9 h2 (by omega) (rd_n H' G9 h3 (by omega) (rd_n H' G9 h4 (by omega) ?_)))))
      refine wq_mono (lk_251 (d := d) (k := k) (n' := n') (w' := w') H' O9 (sH_J (sH_J S)) (fr_J (fr_J F')) ?_) (fun z f => fP_tr f G9)
      rw [xB_SE E (xS_SE E k true)]
      exact hB
    refine wq_if _ (fun c4 => ?_) (fun c4 => ?_)
    · exact rs_J H8 (by omega) rfl (by omega) (by show _ < (8192 : Int); omega) (fun h12 H12 => go _ h12 H12)
    · exact rs_J H8 (by omega) rfl (by omega) (by show _ < (8192 : Int); omega) (fun h12 H12 => go _ h12 H12)
theorem lk_97 {v4 s0 : Int32} {v5 : Int64} {n' : Nat} {w' : Bool} (H : RH m σ0 b h) (O : OKV σ0) (S : sH σ0 q (d + 1) (k + 1) true) (F' : fr σ0 q d n' w') (ob : oB σ0 v2.toInt) (h81 : (ia σ0 8 v2.toInt.toNat).toInt = 81) (h3 : vN σ0 ((ia σ0 12 v2.toInt.toNat).toInt)) (h4 : vN σ0 ((ia σ0 12 (ia σ0 12 v2.toInt.toNat).toInt.toNat).toInt)) (hB : xB σ0 (xS σ0 k true) ((ia σ0 12 (ia σ0 12 (ia σ0 12 v2.toInt.toNat).toInt.toNat).toInt.toNat).toInt)) : wq (ah_val lim ah_P (D + 3) 93 97 [some (.inr (.inr (some m))), some (.inl v1), some (.inl v2), none, some (.inl v4), some (.inr (.inl v5)), none, none] [.inl s0] h) (fP m q σ0 b) := by
  obtain ⟨hP, hA, hq, hd, F⟩ := id S
  obtain ⟨p1, p2, -⟩ := id hP
  have hq2 : q < 64 := by omega
  have G : sm (QR 1001) σ0 σ0 := sm_0
  refine wq_eq q_93_97 (wq_at H.1 (wq_cI (v_where H O G hP ob) ?_))
  rintro y h1 ⟨rfl, y0, y1, y2, -⟩
  have y2 := y2 h81
  have nx : wq (ah_val lim ah_P (D + 3) 93 145 [some (.inr (.inr (some m))), none, some (.inl v2), some (.inl s0), some (.inl v4), some (.inr (.inl v5)), none, some (.inl y)] [] h1) (fP m q σ0 b) := lk_145 (D := D + 1) H O S F' ob.1 h3 h4 hB y2 y1
  refine wq_if _ (fun c => nx) (fun c => ?_)
  refine wq_gR H.1 rfl (rv_n H G (by omega) rfl rfl (nQ_j (by omega)) y0 (by show _ < (10100 : Int); omega) (wq_if _ (fun c2 => ?_) (fun c2 => ?_)))
  · exact wq_at H.1 (wq_cI (v_fail H O G) (fun x h3 z => fP_f z hq2 hA))
  · refine wq_gR H.1 rfl (rv_n H G (by omega) rfl rfl (nQ_j (by omega)) y0 (by show _ < (10100 : Int); omega) (wq_if _ (fun c3 => nx) (fun c3 => ?_)))
    exact wq_at H.1 (wq_cI (v_fail H O G) (fun x h3 z => fP_f z hq2 hA))
theorem lk_36 {s0 : Int32} {n' : Nat} {w' : Bool} (H : RH m σ0 b h) (O : OKV σ0) (S : sH σ0 q (d + 1) (k + 1) true) (F' : fr σ0 q d n' w') (ob : oB σ0 v2.toInt) (h81 : (ia σ0 8 v2.toInt.toNat).toInt = 81) (h3 : vN σ0 ((ia σ0 12 v2.toInt.toNat).toInt)) (h4 : vN σ0 ((ia σ0 12 (ia σ0 12 v2.toInt.toNat).toInt.toNat).toInt)) (hB : xB σ0 (xS σ0 k true) ((ia σ0 12 (ia σ0 12 (ia σ0 12 v2.toInt.toNat).toInt.toNat).toInt.toNat).toInt)) : wq (ah_val lim ah_P (D + 3) 93 36 [some (.inr (.inr (some m))), some (.inl v1), some (.inl v2), none, none, none, none, none] [.inl s0] h) (fP m q σ0 b) := by
  obtain ⟨hP, hA, hq, hd, F⟩ := id S
  obtain ⟨p1, p2, -⟩ := id hP
  have hq2 : q < 64 := by omega
  have hb := fr_b F
  refine wq_eq q_93_36 (wq_gR H.1 rfl (wq_at H.1 (wq_cI (f_slot (d := d + 1) H hq hq2 hd (by omega)) ?_)))
  rintro x h2 ⟨rfl, ex⟩
  refine ra_J H (by omega) rfl (by omega) (by show _ < (8192 : Int); omega) (wq_if _ (fun c => ?_) (fun c => ?_))
  · refine wq_gR H.1 rfl (wq_at H.1 (wq_cI (f_slot (d := d + 1) H hq hq2 hd (by omega)) ?_))
    rintro x2 h4' ⟨rfl, ex2⟩
    exact ra_J H (by omega) rfl (by omega) (by show _ < (8192 : Int); omega) (wq_if _ (fun _ => lk_97 H O S F' ob h81 h3 h4 hB) (fun _ => lk_97 H O S F' ob h81 h3 h4 hB))
  · refine wq_gR H.1 rfl (wq_at H.1 (wq_cI (f_slot (d := d + 1) H hq hq2 hd (by omega)) ?_))
    rintro x2 h4' ⟨rfl, ex2⟩
    exact ra_J H (by omega) rfl (by omega) (by show _ < (8192 : Int); omega) (wq_if _ (fun _ => lk_97 H O S F' ob h81 h3 h4 hB) (fun _ => lk_97 H O S F' ob h81 h3 h4 hB))
theorem v_look {n' : Nat} {w' : Bool} (H : RH m σ0 b h) (O : OKV σ0) (S : sH σ0 q (d + 1) (k + 1) true) (F' : fr σ0 q d n' w') (hL : lF σ0 k v1.toInt) : wq (vc lim (D + 220) m_Ref_look [.inr (.inr (some m)), .inl v1] h) (fP m q σ0 b) := by
  obtain ⟨hP, hA, hq, hd, F⟩ := id S
  obtain ⟨p1, p2, -⟩ := id hP
  have hq2 : q < 64 := by omega
  have hb := fr_b F
  have G : sm (QR 1001) σ0 σ0 := sm_0
  obtain ⟨hs, hL⟩ := hL
  refine wq_eq e_Ref_look (wq_gR H.1 rfl (rd_n H G hs (by omega) (wq_gR H.1 rfl (rd_n H G hs (by omega) ?_))))
  rcases hL with ⟨e, ob, h81, h3, h4, hB⟩ | ⟨e, hx, hB⟩ | ⟨e, hB⟩
  · refine wq_t (Int32.lt_iff_toInt_lt.mpr (by have : (40 : Int32).toInt = 40 := rfl; omega)) (wq_gR H.1 rfl (rd_n H G hs (by omega) (wq_if _ (fun _ => ?_) (fun _ => ?_))))
    · exact lk_36 (D := D + 216) H O S F' ob h81 h3 h4 hB
    · exact lk_36 (D := D + 216) H O S F' ob h81 h3 h4 hB
  · refine wq_f (fun c => by have := lt_i c; have : (40 : Int32).toInt = 40 := rfl; omega) (wq_gR H.1 rfl (rd_n H G hs (by omega) (wq_t (Int32.toInt_inj.mp (e.trans rfl)) (wq_at H.1 (wq_cI (v_condition H O G (by omega) hP hx) ?_)))))
    rintro y h2 ⟨⟨σ2, H2, O2, G2⟩, -⟩
    refine wq_if _ (fun c => wq_t (Or.inl rfl) (wq_some (fP_0 H2 O2 G2 hq2 hA))) (fun c => ?_)
    refine wq_gR H2.1 rfl (ra_J H2 (by omega) rfl (by decide) (by decide) (wq_if _ (fun c2 => ?_) (fun c2 => ?_)))
    · exact wq_gR H2.1 rfl (rd_n H2 G2 (xE_v hx) (by omega) (lk_251' (D := D + 217) H2 O2 G2 S F' hB))
    · exact wq_gR H2.1 rfl (rd_n H2 G2 (xE_v hx) (by omega) (lk_251' (D := D + 217) H2 O2 G2 S F' hB))
  · refine wq_f (fun c => by have := lt_i c; have : (40 : Int32).toInt = 40 := rfl; omega) (wq_gR H.1 rfl (rd_n H G hs (by omega) (wq_f (fun c => by have := congrArg Int32.toInt c; have : (40 : Int32).toInt = 40 := rfl; omega) (lk_251' (D := D + 217) H O G S F' hB))))
/-- how a statement ends -/
def aP (m q : Nat) (σ0 : rS) (s : Int32) (b : ah_H) : ah_R → Prop := rI fun x h' => (∃ σ', RH m σ' b h' ∧ OKV σ' ∧ sm (QR q) σ0 σ' ∧ AI σ' ∧ (x = 1 → ∃ (d n : Nat) (w : Bool), (ia σ' 26 q).toInt = d ∧ fr σ' q d n w) ∧ (x = 1 → (ia σ0 8 s.toInt.toNat).toInt = 44 → ia σ' 24 q = s)) ∧ (x = 0 ∨ x = 1)
theorem aP_f {s : Int32} {x : Int32} {h' : ah_H} (f : fP m q σ0 b (.inl (some (.inl x)), h')) (hs : ¬ (ia σ0 8 s.toInt.toNat).toInt = 44) : wq (if x = 0 ∨ x = 1 then some ((.inl (some (.inl x)), h') : ah_R) else none) (aP m q σ0 s b) := by
  obtain ⟨x', h2, e, ⟨σ', a1, a2, a3, a4, a5⟩, hx⟩ := f
  cases e
  exact wq_t hx (wq_some (rI_i ⟨⟨σ', a1, a2, a3, a4, a5, fun _ h => absurd h hs⟩, hx⟩))
theorem aP_s {s : Int32} {x : Int32} {h' : ah_H} (f : (∃ σ', RH m σ' b h' ∧ OKV σ' ∧ sm (QR (2000 + q)) σ0 σ' ∧ AI σ') ∧ (x = 0 ∨ x = 1)) (hq2 : q < 64) (hd : (ia σ0 26 q).toInt = d) (F : fr σ0 q d n w) (hs : ¬ (ia σ0 8 s.toInt.toNat).toInt = 44) : aP m q σ0 s b (.inl (some (.inl x)), h') := by
  obtain ⟨⟨σ', a1, a2, a3, a4⟩, hx⟩ := f
  have e2 : ia σ' 26 q = ia σ0 26 q := a3.2.2.1 26 _ (nQf (by omega) (by omega))
  exact rI_i ⟨⟨σ', a1, a2, sm_tr sm_0 a3 (QR_le2 (by omega)), a4, fun _ => ⟨d, n, w, by rw [e2]; exact hd, fr_sm (by omega) a3 F⟩, fun _ h => absurd h hs⟩, hx⟩
theorem act_171 {s : Int32} {n1 : Nat} (H : RH m σ0 b h) (O : OKV σ0) (S : sH σ0 q d n w) (hn : n1 ≤ 101) (hs : ¬ (ia σ0 8 s.toInt.toNat).toInt = 44) (hx : xE σ0 n1 v2.toInt) (hy : xE σ0 n1 ((ia σ0 12 v2.toInt.toNat).toInt)) : wq (ah_val lim ah_P (D + 219) 95 171 [some (.inr (.inr (some m))), some (.inl s), some (.inl v2)] [] h) (aP m q σ0 s b) := by
  obtain ⟨hP, hA, hq, hd, F⟩ := id S
  obtain ⟨p1, p2, -⟩ := id hP
  have hq2 : q < 64 := by omega
  have G : sm (QR 1001) σ0 σ0 := sm_0
  refine wq_eq q_95_171 (wq_at H.1 (wq_cI (v_condition H O G hn hP hx) ?_))
  rintro y h1 ⟨⟨σ1, H1, O1, G1⟩, -⟩
  refine wq_if _ (fun c => aP_f (fP_0 H1 O1 G1 hq2 hA) hs) (fun c => ?_)
  refine wq_gR H1.1 rfl (ra_J H1 (by omega) rfl (by decide) (by decide) (wq_if _ (fun c2 => ?_) (fun c2 => aP_f (fP_1 H1 O1 G1 hq2 hA hd F) hs)))
  refine wq_gR H1.1 rfl (rd_n H1 G1 (xE_v hx) (by omega) (wq_at H1.1 (wq_cI (v_condition H1 O1 G1 hn hP hy) ?_)))
  rintro y2 h2 ⟨⟨σ2, H2, O2, G2⟩, -⟩
  refine wq_if _ (fun c => aP_f (fP_0 H2 O2 G2 hq2 hA) hs) (fun c => wq_at H2.1 (wq_cI (v_tell (q := q) H2 O2 G2 hA) ?_))
  rintro x h3 z
  obtain ⟨z1, hx⟩ := z
  refine wq_if _ (fun c => ?_) (fun c => ?_)
  · subst c
    exact wq_t (Or.inl rfl) (wq_some (aP_s ⟨z1, Or.inl rfl⟩ hq2 hd F hs))
  · have hx : x = 1 := hx.resolve_left c
    subst hx
    exact wq_t (Or.inr rfl) (wq_some (aP_s ⟨z1, Or.inr rfl⟩ hq2 hd F hs))
end Ac
