/-! THE RUN OF A PROCESS: statements and loops -/
section Go
variable {lim : Nat × Nat} {m q d n k D : Nat} {w w2 : Bool} {σ σ0 : rS} {b h : ah_H} {v1 v2 : Int32}
theorem fP_f {x : Int32} {h' : ah_H} (z : rvP m 1001 σ0 b h' ∧ ((x = 0 ∨ x = 1) ∧ x = 0)) (hq : q < 64) (hA : AI σ0) : wq (if x = 0 ∨ x = 1 then some ((.inl (some (.inl x)), h') : ah_R) else none) (fP m q σ0 b) := by
  obtain ⟨⟨σ, H, O, G⟩, hx, rfl⟩ := z
  exact wq_t (Or.inl rfl) (wq_some (fP_0 H O G hq hA))
/-- choices -/
abbrev cI1 (σ0 : rS) (n : Nat) : Int → Prop := fun c => (ia σ0 8 c.toNat).toInt = 37 ∨ ((ia σ0 8 c.toNat).toInt ≠ 37 ∧ xE σ0 n c)
theorem ch_149 {v3 v4 : Int32} (H : RH m σ b h) (O : OKV σ) (G : sm (QR 1001) σ0 σ) (S : sH σ0 q d n w) (hk : k < n) (hw : vN σ0 v2.toInt) (h1 : vN σ0 ((ia σ0 11 v2.toInt.toNat).toInt)) (hB : xB σ0 (xS σ0 k w) ((ia σ0 12 (ia σ0 11 v2.toInt.toNat).toInt.toNat).toInt)) (h4 : v4 = 1) : wq (ah_val lim ah_P (D + 219) 97 149 [some (.inr (.inr (some m))), some (.inl v1), some (.inl v2), some (.inl v3), some (.inl v4), none] [] h) (fP m q σ0 b) := by
  obtain ⟨hP, hA, hq, hd, F⟩ := S
  subst h4
  exact wq_eq q_97_149 (wq_f (by decide) (wq_gR H.1 rfl (wq_gR H.1 rfl (rd_n H G hw (by omega) (rd_n H G h1 (by omega) (wq_gR H.1 rfl (rd_n H G hB.1 (by omega) (wq_at H.1 (wq_cV (do_enter H O G hP hA hq hd F hk (xB_tp hB)) (fun h' f => wq_t (Or.inr rfl) (wq_some (fP_e f))))))))))))
theorem ch_in {n1 : Nat} (hn : n1 ≤ 101) (S : sH σ0 q d n w) (hk : k < n) (hw : vN σ0 v2.toInt) (h1 : vN σ0 ((ia σ0 11 v2.toInt.toNat).toInt)) (hB : xB σ0 (xS σ0 k w) ((ia σ0 12 (ia σ0 11 v2.toInt.toNat).toInt.toNat).toInt)) (K : ∀ (h : ah_H) (σ : rS), RH m σ b h → OKV σ → sm (QR 1001) σ0 σ → wq (ah_val lim ah_P (D + 219) 97 30 [some (.inr (.inr (some m))), some (.inl v1), some (.inl (ia σ0 12 v2.toInt.toNat)), none, none, none] [] h) (fP m q σ0 b)) : ∀ (l : Nat) (h : ah_H) (σ : rS) (v3 : Int32), chL σ0 (cI1 σ0 n1) l v3.toInt → RH m σ b h → OKV σ → sm (QR 1001) σ0 σ → wq (ah_val lim ah_P (D + 219) 97 47 [some (.inr (.inr (some m))), some (.inl v1), some (.inl v2), some (.inl v3), none, none] [] h) (fP m q σ0 b) := by
  obtain ⟨hP, hA, hq, hd, F⟩ := id S
  obtain ⟨p1, p2, -⟩ := id hP
  intro l
  induction l with
  | zero =>
    intro h σ v3 hg H O G
    exact wq_eq q_97_47 (wq_t (eq_m1 hg) (wq_gR H.1 rfl (rd_n H G hw (by omega) (K h σ H O G))))
  | succ l ih =>
    intro h σ v3 hg H O G
    obtain ⟨g1, g2, g3⟩ := hg
    refine wq_eq q_97_47 (wq_f (ne_m1 g1) (wq_gR H.1 rfl (rd_n H G g1 (by omega) (wq_if _ (fun c => ?_) (fun c => ?_)))))
    · exact wq_eq q_97_68 (wq_f (by decide) (ch_149 H O G S hk hw h1 hB rfl))
    · have gx : xE σ0 n1 v3.toInt := by
        rcases g2 with g | g
        · exact absurd (Int32.toInt_inj.mp (g.trans rfl)) c
        · exact g.2
      refine wq_eq q_97_68 (wq_t (by decide) (wq_at H.1 (wq_cI (v_find n1 _ (by omega) H O G hP gx (by decide) (by have : (9873 : Int32).toInt = 9873 := rfl; omega)) ?_)))
      rintro y h2 ⟨⟨σ2, H2, O2, G2⟩, hy⟩
      refine wq_gR H2.1 rfl (rv_x H2 (by omega) rfl rfl (by decide) (by decide) (fun e4 => wq_gR H2.1 rfl (rv_x H2 (by omega) rfl rfl (by decide) (by decide) (fun e6 => wq_if _ (fun c2 => ?_) (fun c2 => ?_)))))
      · refine wq_gR H2.1 rfl (rv_x H2 (by omega) rfl rfl (by decide) (by decide) (fun e8 => wq_gR H2.1 rfl (rv_x H2 (by omega) rfl rfl (by decide) (by decide) (fun e10 => wq_if _ (fun c3 => ?_) (fun c3 => ?_)))))
        · refine wq_at H2.1 (wq_cI (v_alike H2 O2 G2 (by decide) (by decide) (by decide) (by decide)) ?_)
          rintro a h3 ⟨rfl, ha⟩
          rcases ha with rfl | rfl
          · exact wq_eq q_97_149 (wq_t rfl (wq_gR H2.1 rfl (rd_n H2 G2 g1 (by omega) (ih _ σ2 _ g3 H2 O2 G2))))
          · exact ch_149 H2 O2 G2 S hk hw h1 hB rfl
        · exact wq_at H2.1 (wq_cI (v_fail H2 O2 G2) (fun x h3 z => fP_f z (by omega) hA))
      · exact wq_at H2.1 (wq_cI (v_fail H2 O2 G2) (fun x h3 z => fP_f z (by omega) hA))
theorem ch_out {n1 : Nat} (hn : n1 ≤ 101) (S : sH σ0 q d n w) (hk : k < n) : ∀ (l : Nat) (h : ah_H) (σ : rS) (v2 : Int32), chL σ0 (xC σ0 n1 (xB σ0 (xS σ0 k w))) l v2.toInt → RH m σ b h → OKV σ → sm (QR 1001) σ0 σ → wq (ah_val lim ah_P (D + 219) 97 30 [some (.inr (.inr (some m))), some (.inl v1), some (.inl v2), none, none, none] [] h) (fP m q σ0 b) := by
  obtain ⟨hP, hA, hq, hd, F⟩ := id S
  obtain ⟨p1, p2, -⟩ := id hP
  intro l
  induction l with
  | zero =>
    intro h σ v2 hg H O G
    exact wq_eq q_97_30 (wq_t (eq_m1 hg) (wq_at H.1 (wq_cI (v_fail H O G) (fun x h3 z => fP_f z (by omega) hA))))
  | succ l ih =>
    intro h σ v2 hg H O G
    obtain ⟨g1, ⟨g2, ⟨l2, g3⟩, g4⟩, g5⟩ := hg
    exact wq_eq q_97_30 (wq_f (ne_m1 g1) (wq_gR H.1 rfl (wq_gR H.1 rfl (rd_n H G g1 (by omega) (rd_n H G g2 (by omega) (ch_in hn S hk g1 g2 g4 (fun h σ H O G => ih h σ _ g5 H O G) l2 h σ _ g3 H O G))))))
theorem v_choose (H : RH m σ0 b h) (O : OKV σ0) (S : sH σ0 q d (n + 2) w) (hs : vN σ0 v1.toInt) (hx : xE σ0 (n + 1) ((ia σ0 11 v1.toInt.toNat).toInt)) {l : Nat} (hl : chL σ0 (xC σ0 (n + 1) (xB σ0 (xS σ0 n w))) l ((ia σ0 12 (ia σ0 11 v1.toInt.toNat).toInt.toNat).toInt)) : wq (vc lim (D + 220) m_Ref_choose [.inr (.inr (some m)), .inl v1] h) (fP m q σ0 b) := by
  obtain ⟨hP, hA, hq, hd, F⟩ := id S
  obtain ⟨p1, p2, -⟩ := id hP
  have hb := fr_b F
  have G : sm (QR 1001) σ0 σ0 := sm_0
  refine wq_eq e_Ref_choose (wq_gR H.1 rfl (rd_n H G hs (by omega) (wq_at H.1 (wq_cI (v_find (n + 1) _ (by omega) H O G hP hx (by decide) (by have : (9872 : Int32).toInt = 9872 := rfl; omega)) ?_))))
  rintro y h2 ⟨⟨σ2, H2, O2, G2⟩, hy⟩
  refine wq_if _ (fun c => wq_t (Or.inl rfl) (wq_some (fP_0 H2 O2 G2 (by omega) hA))) (fun c => ?_)
  exact wq_gR H2.1 rfl (wq_gR H2.1 rfl (rd_n H2 G2 hs (by omega) (rd_n H2 G2 (xE_v hx) (by omega) (ch_out (by omega) S (by omega) l h2 σ2 _ hl H2 O2 G2))))
/-- the frames are as they were -/
theorem sH_J {j i : Nat} {z : Int64} (S : sH σ q d n w) : sH (sJ σ j i z) q d n w := by
  obtain ⟨hP, hA, hq, hd, F⟩ := S
  have E : SE σ (sJ σ j i z) := ⟨fun _ _ _ => rfl, fun _ _ => rfl⟩
  exact ⟨PV_SE E hP, hA, hq, hd, fr_SE E (fun _ _ => ⟨rfl, rfl⟩) F⟩
theorem fr_J {j i : Nat} {z : Int64} (F : fr σ q d n w) : fr (sJ σ j i z) q d n w := by
  have E : SE σ (sJ σ j i z) := ⟨fun _ _ _ => rfl, fun _ _ => rfl⟩
  exact fr_SE E (fun _ _ => ⟨rfl, rfl⟩) F
theorem fP_tr {z : ah_R} (f : fP m q σ b z) (G : sm (QR q) σ0 σ) : fP m q σ0 b z := by
  obtain ⟨x, h', rfl, ⟨σ', a1, a2, a3, a4, a5⟩, hx⟩ := f
  exact ⟨x, h', rfl, ⟨σ', a1, a2, sm_tr G a3 (fun _ _ h => h), a4, a5⟩, hx⟩
theorem v_beginFor (H : RH m σ0 b h) (O : OKV σ0) (S : sH σ0 q d (n + 2) w) (hs : vN σ0 v1.toInt) (hk : vN σ0 ((ia σ0 11 v1.toInt.toNat).toInt)) (hx : xE σ0 (n + 1) ((ia σ0 12 (ia σ0 11 v1.toInt.toNat).toInt.toNat).toInt)) (hy : xE σ0 (n + 1) ((ia σ0 12 (ia σ0 12 (ia σ0 11 v1.toInt.toNat).toInt.toNat).toInt.toNat).toInt)) (hL : lF σ0 n v1.toInt) : wq (vc lim (D + 220) m_Ref_beginFor [.inr (.inr (some m)), .inl v1] h) (fP m q σ0 b) := by
  obtain ⟨hP, hA, hq, hd, F⟩ := id S
  obtain ⟨p1, p2, -⟩ := id hP
  have hb := fr_b F
  have hq2 : q < 64 := by omega
  have G : sm (QR 1001) σ0 σ0 := sm_0
  refine wq_eq e_Ref_beginFor (wq_gR H.1 rfl (wq_gR H.1 rfl (rd_n H G hs (by omega) (rd_n H G hk (by omega) (wq_at H.1 (wq_cI (v_find (n + 1) _ (by omega) H O G hP hx (by decide) (by have : (9872 : Int32).toInt = 9872 := rfl; omega)) ?_))))))
  rintro y h2 ⟨⟨σ2, H2, O2, G2⟩, -⟩
  refine wq_if _ (fun c => wq_t (Or.inl rfl) (wq_some (fP_0 H2 O2 G2 hq2 hA))) (fun c => ?_)
  refine wq_gR H2.1 rfl (rd_n H2 G2 (xE_v hx) (by omega) (wq_at H2.1 (wq_cI (v_find (n + 1) _ (by omega) H2 O2 G2 hP hy (by decide) (by have : (9873 : Int32).toInt = 9873 := rfl; omega)) ?_)))
  rintro y2 h3 ⟨⟨σ3, H3, O3, G3⟩, -⟩
  refine wq_if _ (fun c => wq_t (Or.inl rfl) (wq_some (fP_0 H3 O3 G3 hq2 hA))) (fun c => ?_)
  refine wq_gR H3.1 rfl (rv_x H3 (by omega) rfl rfl (by decide) (by decide) (fun e1 => wq_if _ (fun c2 => ?_) (fun c2 => ?_)))
  · refine wq_gR H3.1 rfl (rv_x H3 (by omega) rfl rfl (by decide) (by decide) (fun e2 => wq_if _ (fun c3 => ?_) (fun c3 => ?_)))
    · refine wq_at H3.1 (wq_cV (do_enter (k := n + 1) (w2 := true) H3 O3 G3 hP hA hq hd F (by omega) (Or.inr ⟨n, rfl, rfl, hL⟩)) ?_)
      rintro h5 ⟨σ5, H5, O5, G5, A5, d5, F5⟩
      have q5 : σ5.1 39 = σ0.1 39 := G5.1 39 (nQ_f (by omega))
      refine wq_gR H5.1 rfl (wq_at H5.1 (wq_cI (f_slot (d := d + 1) H5 (by rw [q5]; exact hq) hq2 d5 (by omega)) ?_))
      rintro x h6 ⟨rfl, ex⟩
      refine wq_gR H5.1 rfl (ra_J H5 (by omega) rfl (by decide) (by decide) (rs_J H5 (by omega) rfl (by omega) (by show _ < (8192 : Int); omega) (fun h7 H7 => ?_)))
      refine wq_gR H7.1 rfl (wq_at H7.1 (wq_cI (f_slot (d := d + 1) H7 (by rw [show (sJ σ5 29 x.toInt.toNat _).1 39 = σ0.1 39 from q5]; exact hq) hq2 d5 (by omega)) ?_))
      rintro x2 h8 ⟨rfl, ex2⟩
      refine wq_gR H7.1 rfl (ra_J H7 (by omega) rfl (by decide) (by decide) (rs_J H7 (by omega) rfl (by omega) (by show _ < (8192 : Int); omega) (fun h9 H9 => wq_t (Or.inr rfl) (wq_some (rI_i ⟨⟨_, H9, O5, ?_, A5, fun _ => ⟨d + 1, n + 1, true, d5, ?_⟩⟩, Or.inr rfl⟩)))))
      · exact sm_J (sm_J G5 (QRf hq2 (by omega) (by omega))) (QRf hq2 (by omega) (by omega))
      · exact fr_J (fr_J F5)
    · exact wq_at H3.1 (wq_cI (v_fail H3 O3 G3) (fun x h3 z => fP_f z hq2 hA))
  · exact wq_at H3.1 (wq_cI (v_fail H3 O3 G3) (fun x h3 z => fP_f z hq2 hA))
/-- one frame less -/
def pp (σ : rS) (q : Nat) : rS := sI σ 26 q (ia σ 26 q - 1)
theorem pp_SE : SE σ (pp σ q) := ⟨fun j i hj => by unfold pp; rw [sI_nj (by omega)], fun _ _ => rfl⟩
theorem pp_fr (F : fr σ q d n w) : fr (pp σ q) q d n w := fr_SE pp_SE (fun i _ => ⟨by unfold pp; rw [sI_nj (by omega)], by unfold pp; rw [sI_nj (by omega)]⟩) F
theorem pp_d (hd : (ia σ 26 q).toInt = (d + 1 : Nat)) (h2 : d ≤ 127) : (ia (pp σ q) 26 q).toInt = d := by
  unfold pp
  have e : (1 : Int32).toInt = 1 := rfl
  rw [sI_eq, sb_i (by omega) (by omega), e]
  omega
theorem pp_O (O : OKV σ) : OKV (pp σ q) := okv_n O (by omega) (by omega)
theorem pp_A (A : AI σ) : AI (pp σ q) := AI_I A (by omega)
theorem pp_s (G : sm (QR q) σ0 σ) (hq : q < 64) : sm (QR q) σ0 (pp σ q) := sm_I G (QRd hq)
theorem rd_pop {ρ : Type} {Φ : ρ → Prop} {K1 : ah_H → Option ρ} (H : RH m σ b h) (hq : (σ.1 39).toInt = q) (hq2 : q < 64) (c : ∀ h', RH m (pp σ q) b h' → wq (K1 h') Φ) : wq (ah_lI h (some (m + 1 + 26)) 100 (σ.1 39) fun e => ah_sI h (some (m + 1 + 26)) 100 (σ.1 39) (.inl (e - (1 : Int32))) K1) Φ := by
  refine ra_I H (by omega) rfl rfl (by omega) (by show _ < (64 : Int); omega) (rs_I H (by omega) rfl rfl (by omega) (by show _ < (64 : Int); omega) (fun h' H' => c h' ?_))
  rw [show (σ.1 39).toInt.toNat = q by omega] at H'
  exact H'
theorem v_lvl (hq2 : q < 64) (hs : vN σ0 v1.toInt) : ∀ (d n : Nat) (h : ah_H) (σ : rS), RH m σ b h → OKV σ → sm (QR q) σ0 σ → AI σ → (σ.1 39).toInt = q → (ia σ 26 q).toInt = d → fr σ q d n true → wq (ah_val lim ah_P (D + 2) 99 45 [some (.inr (.inr (some m))), some (.inl v1)] [] h) (fP m q σ0 b) := by
  intro d
  induction d with
  | zero => intro n h σ H O G A hq hd F; exact absurd F.2 (by decide)
  | succ d ih =>
    intro n h σ H O G A hq hd F
    have hb := fr_b F
    obtain ⟨n', w', F', hk, T⟩ := id F
    refine wq_eq q_99_45 (wq_gR H.1 rfl (wq_gR H.1 rfl (wq_at H.1 (wq_cI (f_slot (d := d + 1) H hq hq2 hd (by omega)) ?_))))
    rintro x h3 ⟨rfl, ex⟩
    refine ra_I H (by omega) rfl rfl (by omega) (by show _ < (8192 : Int); omega) ?_
    rw [show x.toInt.toNat = 128 * q + d by omega]
    have hv : vN σ (ia σ 27 (128 * q + d)).toInt := by
      rcases T with ⟨-, -, t, -⟩ | ⟨j, -, -, t⟩
      · exact t
      · exact t.1
    refine rd_n H (sm_0 (Q := QR 1001)) hv (by omega) (wq_if _ (fun c => ?_) (fun c => ?_))
    · refine wq_gR H.1 rfl (wq_gI H.1 rfl (rd_pop H hq hq2 (fun h' H' => ?_)))
      rcases T with ⟨-, t, -, -⟩ | ⟨j, -, -, t⟩
      · subst t
        exact ih n' h' (pp σ q) H' (pp_O O) (pp_s G hq2) (pp_A A) hq (pp_d hd (by omega)) (pp_fr F')
      · exfalso
        have c : (ia σ 8 (fF σ q d).toNat).toInt = 48 := congrArg Int32.toInt c
        have t2 := t.2
        rcases t2 with ⟨t2, -⟩ | ⟨t2, -⟩ | ⟨t2, -⟩ <;> omega
    · refine wq_gR H.1 rfl (rd_n H G hs (by omega) (wq_if _ (fun c2 => ?_) (fun c2 => ?_)))
      · refine wq_gR H.1 rfl (wq_gI H.1 rfl (rd_pop H hq hq2 (fun h' H' => wq_t (Or.inr rfl) (wq_some (rI_i ⟨⟨_, H', pp_O O, pp_s G hq2, pp_A A, fun _ => ⟨d, n', w', pp_d hd (by omega), pp_fr F'⟩⟩, Or.inr rfl⟩)))))
      · exact wq_t (Or.inr rfl) (wq_some (rI_i ⟨⟨_, H, O, G, A, fun _ => ⟨d + 1, n, true, hd, F⟩⟩, Or.inr rfl⟩))
theorem v_leave (H : RH m σ0 b h) (O : OKV σ0) (S : sH σ0 q d (n + 2) true) (hs : vN σ0 v1.toInt) (hk : vN σ0 ((ia σ0 11 v1.toInt.toNat).toInt)) (hx : (ia σ0 8 (ia σ0 11 v1.toInt.toNat).toInt.toNat).toInt = 0 ∨ xE σ0 (n + 1) ((ia σ0 11 v1.toInt.toNat).toInt)) : wq (vc lim (D + 220) m_Ref_leave [.inr (.inr (some m)), .inl v1] h) (fP m q σ0 b) := by
  obtain ⟨hP, hA, hq, hd, F⟩ := id S
  obtain ⟨p1, p2, -⟩ := id hP
  have hb := fr_b F
  have hq2 : q < 64 := by omega
  have G : sm (QR 1001) σ0 σ0 := sm_0
  refine wq_eq e_Ref_leave (wq_gR H.1 rfl (wq_gR H.1 rfl (rd_n H G hs (by omega) (rd_n H G hk (by omega) (wq_if _ (fun c => ?_) (fun c => ?_))))))
  · exact v_lvl hq2 hs d _ h σ0 H O sm_0 hA hq hd F
  · have hx : xE σ0 (n + 1) ((ia σ0 11 v1.toInt.toNat).toInt) := by
      rcases hx with g | g
      · exact absurd (Int32.toInt_inj.mp (g.trans rfl)) c
      · exact g
    refine wq_gR H.1 rfl (rd_n H G hs (by omega) (wq_at H.1 (wq_cI (v_condition H O G (by omega) hP hx) ?_)))
    rintro y h2 ⟨⟨σ2, H2, O2, G2⟩, -⟩
    refine wq_if _ (fun c => wq_t (Or.inl rfl) (wq_some (fP_0 H2 O2 G2 hq2 hA))) (fun c => ?_)
    refine wq_gR H2.1 rfl (ra_J H2 (by omega) rfl (by decide) (by decide) (wq_if _ (fun c2 => wq_t (Or.inr rfl) (wq_some (fP_1 H2 O2 G2 hq2 hA hd F))) (fun c2 => ?_)))
    have e1 : σ2.1 39 = σ0.1 39 := G2.1 39 (nQ_f (by omega))
    have e2 : ia σ2 26 q = ia σ0 26 q := G2.2.2.1 26 _ (nQf (by omega) (by omega))
    exact v_lvl hq2 hs d _ h2 σ2 H2 O2 (sm_up1 G2 (by omega)) (AI_sm G2 hA) (by rw [e1]; exact hq) (by rw [e2]; exact hd) (fr_sm (by omega) G2 F)
end Go
