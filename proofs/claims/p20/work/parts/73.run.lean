/-! THE RUN OF A PROCESS: frames -/
section SEs
variable {σ σ' : rS}
theorem chL_SE (E : SE σ σ') {P P' : Int → Prop} (hP : ∀ c, P' c = P c) : ∀ l c, chL σ' P' l c = chL σ P l c := by
  intro l
  have e := SE_arr E (j := 12) (by omega)
  induction l with
  | zero => intro c; rfl
  | succ l ih => intro c; simp only [chL, vN_SE E, e, ih, hP]
theorem brL_SE (E : SE σ σ') {X X' B B' : Int → Prop} (hX : ∀ c, X' c = X c) (hB : ∀ c, B' c = B c) : ∀ l c, brL σ' X' B' l c = brL σ X B l c := by
  intro l
  have e := SE_arr E (j := 12) (by omega)
  induction l with
  | zero => intro c; rfl
  | succ l ih => intro c; simp only [brL, vN_SE E, e, ih, hX, hB]
theorem xT_SE (E : SE σ σ') (n : Nat) (t : Int) : xT σ' n t = xT σ n t := by
  have e1 := SE_arr E (j := 8) (by omega)
  have e2 := SE_arr E (j := 11) (by omega)
  simp only [xT, vN_SE E, e1, e2, xE_SE E]
theorem xW_SE (E : SE σ σ') (n : Nat) (t : Int) : xW σ' n t = xW σ n t := by
  have e1 := SE_arr E (j := 12) (by omega)
  have e2 := SE_arr E (j := 11) (by omega)
  simp only [xW, vN_SE E, e1, e2, xE_SE E, xT_SE E]
theorem tG_SE (E : SE σ σ') (n : Nat) (w c : Int) : tG σ' n w c = tG σ n w c := by
  have e1 := SE_arr E (j := 8) (by omega)
  have e2 := SE_arr E (j := 9) (by omega)
  have e4 := SE_arr E (j := 11) (by omega)
  have e5 := SE_arr E (j := 12) (by omega)
  simp only [tG, vN_SE E, e1, e2, e4, e5, xE_SE E, oB_SE E]
theorem xB_SE (E : SE σ σ') {S S' : Int → Prop} (hS : ∀ c, S' c = S c) (c : Int) : xB σ' S' c = xB σ S c := by
  have e1 := SE_arr E (j := 8) (by omega)
  have e2 := SE_arr E (j := 11) (by omega)
  simp only [xB, vN_SE E, e1, e2, chL_SE E hS]
theorem xC_SE (E : SE σ σ') (n : Nat) {B B' : Int → Prop} (hB : ∀ c, B' c = B c) (w : Int) : xC σ' n B' w = xC σ n B w := by
  have e1 := SE_arr E (j := 11) (by omega)
  have e2 := SE_arr E (j := 12) (by omega)
  have e3 := SE_arr E (j := 8) (by omega)
  have h1 : ∀ l c, chL σ' (fun c => (ia σ' 8 c.toNat).toInt = 37 ∨ ((ia σ' 8 c.toNat).toInt ≠ 37 ∧ xE σ' n c)) l c = chL σ (fun c => (ia σ 8 c.toNat).toInt = 37 ∨ ((ia σ 8 c.toNat).toInt ≠ 37 ∧ xE σ n c)) l c := chL_SE E (fun c => by simp only [e3, xE_SE E])
  simp only [xC, vN_SE E, e1, e2, h1, hB]
theorem xS_SE2 (E : SE σ σ') (n : Nat) (ih : ∀ w s, xS σ' n w s = xS σ n w s) : ∀ w s, xS σ' (n + 2) w s = xS σ (n + 2) w s := by
  intro w s
  have e1 := SE_arr E (j := 8) (by omega)
  have e2 := SE_arr E (j := 9) (by omega)
  have e3 := SE_arr E (j := 10) (by omega)
  have e4 := SE_arr E (j := 11) (by omega)
  have e5 := SE_arr E (j := 12) (by omega)
  have b1 : ∀ w c, xB σ' (xS σ' n w) c = xB σ (xS σ n w) c := fun w => xB_SE E (ih w)
  have h1 : ∀ l c, chL σ' (xW σ' (n + 1)) l c = chL σ (xW σ (n + 1)) l c := chL_SE E (xW_SE E _)
  have h2 : ∀ w l c, brL σ' (xE σ' (n + 1)) (xB σ' (xS σ' n w)) l c = brL σ (xE σ (n + 1)) (xB σ (xS σ n w)) l c := fun w => brL_SE E (xE_SE E _) (b1 w)
  have h3 : ∀ w l c, chL σ' (xC σ' (n + 1) (xB σ' (xS σ' n w))) l c = chL σ (xC σ (n + 1) (xB σ (xS σ n w))) l c := fun w => chL_SE E (xC_SE E _ (b1 w))
  simp only [xS, vN_SE E, e1, e2, e3, e4, e5, h1, h2, h3, b1, chn_SE E, oB_SE E, xE_SE E, xT_SE E, tG_SE E]
theorem xS_SE (E : SE σ σ') : ∀ n w s, xS σ' n w s = xS σ n w s := by
  have e1 := SE_arr E (j := 8) (by omega)
  have key : ∀ n, (∀ w s, xS σ' n w s = xS σ n w s) ∧ ∀ w s, xS σ' (n + 1) w s = xS σ (n + 1) w s := by
    intro n
    induction n with
    | zero => exact ⟨fun _ _ => rfl, fun w s => by simp only [xS, vN_SE E, e1]⟩
    | succ n ih => exact ⟨ih.2, xS_SE2 E n ih.1⟩
  exact fun n => (key n).1
end SEs
abbrev fF (σ : rS) (q d : Nat) : Int := (ia σ 27 (128 * q + d)).toInt
abbrev fG (σ : rS) (q d : Nat) : Int := (ia σ 28 (128 * q + d)).toInt
/-- a loop; the statements in it are at most n high -/
def lF (σ : rS) (n : Nat) (f : Int) : Prop := vN σ f ∧ ((((ia σ 8 f.toNat).toInt = 38 ∨ (ia σ 8 f.toNat).toInt = 39) ∧ oB σ ((ia σ 11 f.toNat).toInt) ∧ (ia σ 8 (ia σ 11 f.toNat).toInt.toNat).toInt = 81 ∧ vN σ ((ia σ 12 (ia σ 11 f.toNat).toInt.toNat).toInt) ∧ vN σ ((ia σ 12 (ia σ 12 (ia σ 11 f.toNat).toInt.toNat).toInt.toNat).toInt) ∧ xB σ (xS σ n true) ((ia σ 12 ((ia σ 12 (ia σ 12 (ia σ 11 f.toNat).toInt.toNat).toInt.toNat).toInt).toNat).toInt)) ∨ ((ia σ 8 f.toNat).toInt = 40 ∧ xE σ (n + 1) ((ia σ 11 f.toNat).toInt) ∧ xB σ (xS σ n true) ((ia σ 12 (ia σ 11 f.toNat).toInt.toNat).toInt)) ∨ ((ia σ 8 f.toNat).toInt = 41 ∧ xB σ (xS σ n true) ((ia σ 11 f.toNat).toInt)))
/-- a frame: a body and what comes next in it, or a loop -/
def tp (σ : rS) (n : Nat) (w w2 : Bool) (f c : Int) : Prop := ((ia σ 8 f.toNat).toInt = 48 ∧ w2 = w ∧ vN σ f ∧ ∃ l, chL σ (xS σ n w2) l c) ∨ (∃ k, n = k + 1 ∧ w2 = true ∧ lF σ k f)
/-- the frames of the process q: d of them, what the topmost holds is at most n high; w: whether it is in a loop -/
def fr (σ : rS) (q : Nat) : Nat → Nat → Bool → Prop
  | 0, n, w => n = 101 ∧ w = false
  | d + 1, n, w => ∃ n' w', fr σ q d n' w' ∧ n < n' ∧ tp σ n w' w (fF σ q d) (fG σ q d)
section Fr
variable {σ σ' σ0 : rS} {q d n k : Nat} {w : Bool}
theorem fr_b : ∀ {d n : Nat} {w : Bool}, fr σ q d n w → d + n ≤ 101 := by
  intro d
  induction d with
  | zero => intro n w h; have := h.1; omega
  | succ d ih =>
    intro n w h
    obtain ⟨n', w', h1, h2, -⟩ := h
    have := ih h1
    omega
theorem lF_SE (E : SE σ σ') (n : Nat) (f : Int) : lF σ' n f = lF σ n f := by
  have e1 := SE_arr E (j := 8) (by omega)
  have e4 := SE_arr E (j := 11) (by omega)
  have e5 := SE_arr E (j := 12) (by omega)
  have b1 : ∀ w c, xB σ' (xS σ' n w) c = xB σ (xS σ n w) c := fun w => xB_SE E (xS_SE E n w)
  simp only [lF, vN_SE E, e1, e4, e5, oB_SE E, xE_SE E, b1]
theorem tp_SE (E : SE σ σ') (n : Nat) (w w2 : Bool) (f c : Int) : tp σ' n w w2 f c = tp σ n w w2 f c := by
  have e1 := SE_arr E (j := 8) (by omega)
  have b1 : ∀ w l c, chL σ' (xS σ' n w) l c = chL σ (xS σ n w) l c := fun w => chL_SE E (xS_SE E n w)
  simp only [tp, vN_SE E, e1, b1, lF_SE E]
theorem fr_SE (E : SE σ σ') : ∀ {d n : Nat} {w : Bool}, (∀ i, i < d → ia σ' 27 (128 * q + i) = ia σ 27 (128 * q + i) ∧ ia σ' 28 (128 * q + i) = ia σ 28 (128 * q + i)) → fr σ q d n w → fr σ' q d n w := by
  intro d
  induction d with
  | zero => intro n w _ h; exact h
  | succ d ih =>
    intro n w hf h
    obtain ⟨n', w', h1, h2, h3⟩ := h
    refine ⟨n', w', ih (fun i hi => hf i (by omega)) h1, h2, ?_⟩
    have g1 : fF σ' q d = fF σ q d := congrArg Int32.toInt (hf d (by omega)).1
    have g2 : fG σ' q d = fG σ q d := congrArg Int32.toInt (hf d (by omega)).2
    rw [g1, g2, tp_SE E]
    exact h3
theorem nQf {p j i : Nat} (hp : 1000 ≤ p) (hj : 26 ≤ j ∧ j ≤ 30) : ¬ QR p j i := by unfold QR; omega
theorem fr_sm {p : Nat} (hp : 1000 ≤ p) (G : sm (QR p) σ0 σ) (F : fr σ0 q d n w) : fr σ q d n w := fr_SE (SE_of G) (fun i _ => ⟨G.2.2.1 27 _ (nQf hp (by omega)), G.2.2.1 28 _ (nQf hp (by omega))⟩) F
end Fr
/-- the frames stand at the end -/
def fO (m q : Nat) (σ0 : rS) (b h' : ah_H) (d n : Nat) (w : Bool) : Prop := ∃ σ', RH m σ' b h' ∧ OKV σ' ∧ sm (QR q) σ0 σ' ∧ AI σ' ∧ (ia σ' 26 q).toInt = d ∧ fr σ' q d n w
def fP (m q : Nat) (σ0 : rS) (b : ah_H) : ah_R → Prop := rI fun x h' => (∃ σ', RH m σ' b h' ∧ OKV σ' ∧ sm (QR q) σ0 σ' ∧ AI σ' ∧ (x = 1 → ∃ (d n : Nat) (w : Bool), (ia σ' 26 q).toInt = d ∧ fr σ' q d n w)) ∧ (x = 0 ∨ x = 1)
section Run
variable {lim : Nat × Nat} {m q d n k D : Nat} {w w2 : Bool} {σ σ0 : rS} {b h : ah_H} {v1 v2 : Int32}
theorem f_slot (H : RH m σ b h) (hq : (σ.1 39).toInt = q) (hq2 : q < 64) (hd : (ia σ 26 q).toInt = d) (hd2 : d ≤ 127) : wq (vc lim (D + 1) m_Ref_slot [.inr (.inr (some m))] h) (rI fun x h' => h' = h ∧ x.toInt = 128 * q + d - 1) := by
  have hq3 : (σ.1 39).toInt.toNat = q := by omega
  refine wq_eq e_Ref_slot (wq_gI H.1 rfl (wq_gR H.1 rfl (wq_gI H.1 rfl (ra_I H (by omega) rfl rfl (by omega) (by show _ < (64 : Int); omega) (wq_some (rI_i ⟨rfl, ?_⟩))))))
  rw [hq3]
  have e1 : ((128 : Int32) * σ.1 39).toInt = 128 * (σ.1 39).toInt := ml_c rfl (by omega) (by omega)
  have e2 : (((128 : Int32) * σ.1 39) + ia σ 26 q).toInt = 128 * (σ.1 39).toInt + (ia σ 26 q).toInt := by rw [ad_i (by omega) (by omega), e1]
  have e3 : (1 : Int32).toInt = 1 := rfl
  rw [sb_i (by omega) (by omega), e2, e3]
  omega
/-- one frame more -/
def en (σ : rS) (q d : Nat) (v1 v2 : Int32) : rS := sI (sI (sI σ 26 q (ia σ 26 q + 1)) 27 (128 * q + d) v1) 28 (128 * q + d) v2
theorem en_SE : SE σ (en σ q d v1 v2) := ⟨fun j i hj => by unfold en; rw [sI_nj (by omega), sI_nj (by omega), sI_nj (by omega)], fun _ _ => rfl⟩
theorem f_enter (H : RH m σ b h) (hq : (σ.1 39).toInt = q) (hq2 : q < 64) (hd : (ia σ 26 q).toInt = d) (hd2 : d ≤ 126) : wq (vc lim (D + 2) m_Ref_enter [.inr (.inr (some m)), .inl v1, .inl v2] h) (rV fun h' => RH m (en σ q d v1 v2) b h') := by
  have hq3 : (σ.1 39).toInt.toNat = q := by omega
  have e3 : (1 : Int32).toInt = 1 := rfl
  have e4 : (ia σ 26 q + 1).toInt = (d + 1 : Nat) := by rw [ad_i (by omega) (by omega), e3]; omega
  refine wq_eq e_Ref_enter (wq_gR H.1 rfl (wq_gI H.1 rfl (ra_I H (by omega) rfl rfl (by omega) (by show _ < (64 : Int); omega) (rs_I H (by omega) rfl rfl (by omega) (by show _ < (64 : Int); omega) (fun h4 H4 => ?_)))))
  rw [hq3] at H4
  refine wq_gR H4.1 rfl (wq_at H4.1 (wq_cI (f_slot (d := d + 1) H4 hq hq2 (by rw [sI_eq]; exact e4) (by omega)) ?_))
  rintro x h6 ⟨rfl, ex⟩
  refine rs_I H4 (by omega) rfl rfl (by omega) (by show _ < (8192 : Int); omega) (fun h8 H8 => ?_)
  rw [show x.toInt.toNat = 128 * q + d by omega] at H8
  refine wq_gR H8.1 rfl (wq_at H8.1 (wq_cI (f_slot (d := d + 1) H8 hq hq2 (by rw [sI_nj (by omega), sI_eq]; exact e4) (by omega)) ?_))
  rintro y h10 ⟨rfl, ey⟩
  refine rs_I H8 (by omega) rfl rfl (by omega) (by show _ < (8192 : Int); omega) (fun h12 H12 => wq_some (rV_i ?_))
  rw [show y.toInt.toNat = 128 * q + d by omega] at H12
  exact H12
theorem QRd {q : Nat} (hq : q < 64) : QR q 26 q := by unfold QR; omega
theorem QRf {q j i : Nat} (hq : q < 64) (hj : 27 ≤ j ∧ j ≤ 30) (hi : 128 * q ≤ i ∧ i < 128 * q + 128) : QR q j i := by unfold QR; omega
theorem do_enter (H : RH m σ b h) (O : OKV σ) (G : sm (QR 1001) σ0 σ) (hP : PV σ0) (hA : AI σ0) (hq : (σ0.1 39).toInt = q) (hd : (ia σ0 26 q).toInt = d) (F : fr σ0 q d n w) (hk : k < n) (T : tp σ0 k w w2 v1.toInt v2.toInt) : wq (vc lim (D + 2) m_Ref_enter [.inr (.inr (some m)), .inl v1, .inl v2] h) (rV fun h' => fO m q σ0 b h' (d + 1) k w2) := by
  have hb := fr_b F
  obtain ⟨p1, p2, -⟩ := id hP
  have hq2 : q < 64 := by omega
  have e1 : σ.1 39 = σ0.1 39 := G.1 39 (nQ_f (by omega))
  have e2 : ia σ 26 q = ia σ0 26 q := G.2.2.1 26 _ (nQf (by omega) (by omega))
  have e3 : (1 : Int32).toInt = 1 := rfl
  have e4 : (ia σ 26 q + 1).toInt = (d + 1 : Nat) := by rw [ad_i (by rw [e2]; omega) (by rw [e2]; omega), e3, e2]; omega
  refine wq_mono (f_enter (d := d) H (by rw [e1]; exact hq) hq2 (by rw [e2]; exact hd) (by omega)) ?_
  rintro z ⟨h', rfl, H'⟩
  have E : SE σ (en σ q d v1 v2) := en_SE
  have F1 := fr_sm (by omega) G F
  refine ⟨h', rfl, en σ q d v1 v2, H', ?_, ?_, ?_, ?_, ?_⟩
  · unfold en
    exact okv_n (okv_n (okv_n O (by omega) (by omega)) (by omega) (by omega)) (by omega) (by omega)
  · unfold en
    exact sm_I (sm_I (sm_I (sm_up1 G (by omega)) (QRd hq2)) (QRf hq2 (by omega) (by omega))) (QRf hq2 (by omega) (by omega))
  · unfold en
    exact AI_I (AI_I (AI_I (AI_sm G hA) (by omega)) (by omega)) (by omega)
  · unfold en
    rw [sI_nj (by omega), sI_nj (by omega), sI_eq]
    exact e4
  · refine ⟨n, w, fr_SE E (fun i hi => ⟨?_, ?_⟩) F1, hk, ?_⟩
    · unfold en
      rw [sI_nj (by omega), sI_ni (by omega), sI_nj (by omega)]
    · unfold en
      rw [sI_ni (by omega), sI_nj (by omega), sI_nj (by omega)]
    · have g1 : fF (en σ q d v1 v2) q d = v1.toInt := by
        show (ia (en σ q d v1 v2) 27 (128 * q + d)).toInt = _
        unfold en
        rw [sI_nj (by omega), sI_eq]
      have g2 : fG (en σ q d v1 v2) q d = v2.toInt := by
        show (ia (en σ q d v1 v2) 28 (128 * q + d)).toInt = _
        unfold en
        rw [sI_eq]
      rw [g1, g2, tp_SE E, tp_SE (SE_of G)]
      exact T
theorem fP_0 (H : RH m σ b h) (O : OKV σ) (G : sm (QR 1001) σ0 σ) (hq : q < 64) (hA : AI σ0) : fP m q σ0 b (.inl (some (.inl 0)), h) := rI_i ⟨⟨σ, H, O, sm_up1 G (by omega), AI_sm G hA, fun h => absurd h (by decide)⟩, Or.inl rfl⟩
theorem fP_1 (H : RH m σ b h) (O : OKV σ) (G : sm (QR 1001) σ0 σ) (hq : q < 64) (hA : AI σ0) (hd : (ia σ0 26 q).toInt = d) (F : fr σ0 q d n w) : fP m q σ0 b (.inl (some (.inl 1)), h) := rI_i ⟨⟨σ, H, O, sm_up1 G (by omega), AI_sm G hA, fun _ => ⟨d, n, w, by have e : ia σ 26 q = ia σ0 26 q := G.2.2.1 26 _ (nQf (by omega) (by omega)); rw [e]; exact hd, fr_sm (by omega) G F⟩⟩, Or.inr rfl⟩
theorem fP_e {h' : ah_H} (f : fO m q σ0 b h' d n w) : fP m q σ0 b (.inl (some (.inl 1)), h') := by
  obtain ⟨σ', a1, a2, a3, a4, a5, a6⟩ := f
  exact rI_i ⟨⟨σ', a1, a2, a3, a4, fun _ => ⟨d, n, w, a5, a6⟩⟩, Or.inr rfl⟩
theorem xB_tp {c : Int32} (h : xB σ0 (xS σ0 k w) c.toInt) : tp σ0 k w w c.toInt (ia σ0 11 c.toInt.toNat).toInt := Or.inl ⟨h.2.1, rfl, h.1, h.2.2⟩
theorem ne_m1 {c : Int32} (h : vN σ0 c.toInt) : ¬ c = (-1 : Int32) := fun e => by have := congrArg Int32.toInt e; rw [li_m1] at this; have := h.1; omega
theorem eq_m1 {c : Int32} (h : c.toInt = -1) : c = (-1 : Int32) := Int32.toInt_inj.mp (h.trans li_m1.symm)
/-- nodes are read -/
theorem rd_n {ρ : Type} {Φ : ρ → Prop} {K1 : Int32 → Option ρ} {p j : Nat} {x : Int32} (H : RH m σ b h) (G : sm (QR p) σ0 σ) (hv : vN σ0 x.toInt) (hj : 8 ≤ j ∧ j ≤ 14) (c : wq (K1 (ia σ0 j x.toInt.toNat)) Φ) : wq (ah_lI h (some (m + 1 + j)) 100 x K1) Φ := by
  have hk : rk j = 100 ∧ rn j = 24000 := by
    have : j = 8 ∨ j = 9 ∨ j = 10 ∨ j = 11 ∨ j = 12 ∨ j = 13 ∨ j = 14 := by omega
    rcases this with rfl | rfl | rfl | rfl | rfl | rfl | rfl <;> exact ⟨rfl, rfl⟩
  exact rv_n H G (by omega) hk.1 rfl (nQ_j (by omega)) (by have := hv.1; omega) (by rw [hk.2]; exact hv.2.1) c
theorem v_brl {n1 : Nat} (hn : n1 ≤ 101) (hP : PV σ0) (hA : AI σ0) (hq : (σ0.1 39).toInt = q) (hd : (ia σ0 26 q).toInt = d) (F : fr σ0 q d n w) (hk : k < n) : ∀ (l : Nat) (h : ah_H) (σ : rS) (v2 : Int32), brL σ0 (xE σ0 n1) (xB σ0 (xS σ0 k w)) l v2.toInt → RH m σ b h → OKV σ → sm (QR 1001) σ0 σ → wq (ah_val lim ah_P (D + 219) 96 7 [some (.inr (.inr (some m))), some (.inl v1), some (.inl v2)] [] h) (fP m q σ0 b) := by
  obtain ⟨p1, p2, -⟩ := id hP
  intro l
  induction l with
  | zero =>
    intro h σ v2 hg H O G
    exact wq_eq q_96_7 (wq_t (eq_m1 hg) (wq_t (eq_m1 hg) (wq_t (Or.inr rfl) (wq_some (fP_1 H O G (by omega) hA hd F)))))
  | succ l ih =>
    intro h σ v2 hg H O G
    obtain ⟨g1, g2⟩ := hg
    refine wq_eq q_96_7 (wq_f (ne_m1 g1) (wq_gR H.1 rfl (rd_n H G g1 (by omega) ?_)))
    rcases g2 with ⟨g2, g3⟩ | ⟨g2, g3, g4, g5⟩
    · refine wq_t (eq_m1 g2) (wq_f (ne_m1 g1) (wq_gR H.1 rfl (rd_n H G g1 (by omega) (wq_at H.1 (wq_cV (do_enter H O G hP hA hq hd F hk (xB_tp g3)) (fun h' f => wq_t (Or.inr rfl) (wq_some (fP_e f))))))))
    · refine wq_f (ne_m1 g3) (wq_at H.1 (wq_cI (v_condition H O G hn hP g2) ?_))
      rintro y h2 ⟨⟨σ2, H2, O2, G2⟩, hy⟩
      refine wq_if _ (fun c => wq_t (Or.inl rfl) (wq_some (fP_0 H2 O2 G2 (by omega) hA))) (fun c => ?_)
      refine wq_gR H2.1 rfl (ra_J H2 (by omega) rfl (by decide) (by decide) (wq_if _ (fun c2 => ?_) (fun c2 => ?_)))
      · exact wq_gR H2.1 rfl (wq_gR H2.1 rfl (rd_n H2 G2 g1 (by omega) (rd_n H2 G2 g3 (by omega) (ih h2 σ2 _ g5 H2 O2 G2))))
      · refine wq_gR H2.1 rfl (rd_n H2 G2 g1 (by omega) (wq_gR H2.1 rfl (wq_gR H2.1 rfl (rd_n H2 G2 g1 (by omega) (rd_n H2 G2 g3 (by omega) (wq_at H2.1 (wq_cV (do_enter H2 O2 G2 hP hA hq hd F hk (xB_tp g4)) (fun h' f => wq_t (Or.inr rfl) (wq_some (fP_e f))))))))))
/-- what all statements ask for -/
def sH (σ : rS) (q d n : Nat) (w : Bool) : Prop := PV σ ∧ AI σ ∧ (σ.1 39).toInt = q ∧ (ia σ 26 q).toInt = d ∧ fr σ q d n w
theorem v_branch (H : RH m σ0 b h) (O : OKV σ0) (S : sH σ0 q d (n + 2) w) (hs : vN σ0 v1.toInt) {l : Nat} (hl : brL σ0 (xE σ0 (n + 1)) (xB σ0 (xS σ0 n w)) l ((ia σ0 11 v1.toInt.toNat).toInt)) : wq (vc lim (D + 220) m_Ref_branch [.inr (.inr (some m)), .inl v1] h) (fP m q σ0 b) := by
  obtain ⟨hP, hA, hq, hd, F⟩ := S
  have hb := fr_b F
  exact wq_eq e_Ref_branch (wq_gR H.1 rfl (rd_n H (sm_0 (Q := QR 1001)) hs (by omega) (v_brl (n := n + 2) (k := n) (by omega) hP hA hq hd F (by omega) l h σ0 _ hl H O sm_0)))
end Run
