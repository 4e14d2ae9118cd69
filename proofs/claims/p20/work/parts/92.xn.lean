/-! THE LAW'S CALLS OF THE CLASS: process -/
section Xn
variable {lim : Nat × Nat} {K d b x m o L nS nU nD : Nat} {xs : Nat → Int32} {κ : kM} {σ : rS} {h : ah_H} {c : SCR} {τ : TD} {PS PD : Nat → Nat} {eS eD : Nat → TS} {U : Nat → UD}
/-- what process leaves in the class -/
def lpP (x o : Nat) (c : SCR) (τ : TD) (nS : Nat) (PS : Nat → Nat) (eS : Nat → TS) (nU : Nat) (U : Nat → UD) (nD : Nat) (PD : Nat → Nat) (eD : Nat → TS) (σ : rS) (h : ah_H) (k : Int32) (h' : ah_H) : Prop := (¬ k = 0 ∧ KI x (c, τ, (nS, PS, eS), (nU, U), nD, PD, eD) h') ∨ (k = 0 ∧ ∃ y : Int32, h'.1 o = some (101, [aJ y.toInt64]) ∧ ((y < 0 ∧ KI x (c, τ, (nS, PS, eS), (nU, U), 0, PD, eD) h') ∨ (¬ y < 0 ∧ ∃ l2 l4, DX σ l2 l4 ∧ KI x (c, τ, (nS, PS, eS), (nU + 1, upS U nU (h.2.1, kT σ l2 l4, nD, PD, eD, usN, (fun _ => 0), fun _ => 0)), 0, PD, eD) h')))
theorem XL_process (B : LB b x m o L xs K κ σ h) (S : sgR x (sv σ) h) (hK : K ≤ 520) (I : KI x (c, τ, (nS, PS, eS), (nU, U), nD, PD, eD) h) (A : AB o nS PS nU U nD PD) (dx : DXp x σ h) (bd : x + 656 ≤ m ∧ m + 39 < o) (hr : h.2.1 + 20 ≤ lim.1 ∧ h.2.2.1 + 6000 ≤ lim.2) : wq (vc lim (d + 21) m_Law_process [aR x, aR o] h) (rI fun k h' => FN x h h' ∧ lpP x o c τ nS PS eS nU U nD PD eD σ h k h') := by
  obtain ⟨bx, bh⟩ := LB_x B bd
  have bo : o < h.2.1 := B.2.2.2.2.2.2.2.2.2.2.2.2
  have R := B.2.2.2.2.2.2.2.2.1
  have C0 : CR x (sG σ 0 0) h := CR_eq R S.2.1 SG_c.2.2
  have T1 := fun {sg mk lk un td rn : Nat} {uc nk : Int32} (e : h.1 x = some (0, [aR sg, aR mk, aR lk, aR un, aI uc, aI nk, aR td, aR rn])) => TR_sg B S.1 e
  obtain ⟨sg, mk, lk, un, td, rn, nd, vr, ht, ro, A0, Ls, kt, e1, e2, em, N0, T, Hh, Oo, ds⟩ := id C0
  have T1 := T1 e1
  obtain ⟨k1, k2, k3, k4⟩ := sg_k B e1
  obtain ⟨y1, y2, y3, y4, y5, ey, p1, p2, p3, p4, -⟩ := o4 B.2.1 k2
  rw [em] at ey
  cases ey
  obtain ⟨rs, row, Q, f1, f2, f3, f4, f5, f6, f7⟩ := id T
  obtain ⟨z1, z2, ez, t1, b0, b1, -⟩ := o8 B.2.1 p2
  rw [f1] at ez
  cases ez
  have kA := NR_k B.2.1 N0 p1
  obtain ⟨vu, ev, -⟩ := B.2.1.1 _ _ _ k4
  obtain ⟨n1, n2, n3, n4⟩ := id N0
  have R0 := RI_c (x := 0) R
  have Nj := R0.2.2.2.1.1
  obtain ⟨j1, j2, j3, j4, j5, j6, j7, j8, j9, j10⟩ := id Nj
  have d1 := R0.2.1.1
  have d2 := R0.2.1.2.1
  have LCx : LC lk mk nd sg vr ht ro A0 Ls kt ((sG σ 0 0).1 21) (sG σ 0 0) h := ⟨e2, em, R0.2.1, N0, T1, T, R0.1, j2, j6⟩
  obtain ⟨zw, ew, w, hw', rfl, ehw, fw⟩ := n_firstWrong (lim := lim) (d := d + 12) LCx Hh
  obtain ⟨zo, eo, w2, ho', rfl, eho, bo2⟩ := n_isOneBody (lim := lim) (d := d + 15) LCx rfl
  refine wq_eq e_Law_process (L_ax B ?_)
  obtain ⟨z, e, hz⟩ := n_process (lim := lim) (d := d + 11) (S := A0) (L := Ls) (w := w) (o := w2) B.2.1 B.2.2.1 (by omega) B.2.2.2.1 e1 ⟨em, n1, f1, k2, p1, p2, t1, p3, p4, kA⟩ (fun i hi => (n2 i hi).1) f2 ev ⟨_, ew, w, hw', rfl, ehw, rfl⟩ ⟨_, eo, w2, ho', rfl, eho, rfl⟩ ⟨by omega, by omega⟩
  refine wq_eq (congrArg (fun r => ah_cI r _ _) e) ?_
  rcases hz with ⟨cf, rfl⟩ | ⟨cu, cn, h', κ', v, uc', nk', rfl, A', ex, exm, exn, exv, exf, cs⟩
  · exact show wq (ah_hx lim (d + 20) 264 3 _ h (201, h.2.1) (ah_new h (201, []) 6)) _ from wq_hx rfl rfl hM_264 rfl (wq_eq q_264_11 (wq_some (rI_i ⟨FN_f (FR_x (o := o) bh), Or.inl ⟨by decide, KI_th I⟩⟩)))
  have C := cS_a A'
  have C1 : cS κ κ' (K + 1) 14 5990 h h' := cS_le (c := 14) (n := 280 + 10 * K) ⟨cI_K (by omega) C.1, C.2⟩ (by omega) (by omega)
  have B1 := LB_class B C1
  -- where everything lies
  obtain ⟨⟨uc0, nk0, c1, c2, c3⟩, ⟨vu0, cv1, cv2, cv3⟩, ⟨rc0, cm⟩, ⟨cn0, kt0, cnn⟩, -⟩ := I.1
  have q1 := c1.symm.trans e1
  cases q1
  have q2 := cm.symm.trans em
  cases q2
  have eA := UH_A (m := x + 3) n1 cnn
  have q3 : vu0 = vu := by
    have q := cv1.symm.trans ev
    cases q
    rfl
  subst q3
  have c2 : ((sG σ 0 0).1 23).toInt = nU := c2
  obtain ⟨rw3, ls3, cc3, t3, ⟨t4, t5⟩, t6, t7, t8, t9⟩ := I.2.2.2.2.1.1
  have t3 : h.1 (x + 13) = some (8, [aR rw3, aI cc3]) := t3
  have q4 := t3.symm.trans f1
  cases q4
  have q5 : ls3 = row := by
    have q := t6.symm.trans f2
    cases q
    rfl
  subst q5
  have t4 : ((sG σ 0 0).1 9).toInt = nD := t4
  subst t5
  have f : ∀ q, q < h.2.1 → q ≠ x → q ≠ x + 3 → q ≠ x + 4 → q ≠ x + 13 → q ≠ x + 18 → h'.1 q = h.1 q := fun q hq g0 g1 g2 g3 g4 => by
    cases hk : κ q with
    | none => exact A'.2.2.2.1 q hq hk
    | some v => exact exf q v hk g0 g1 g2 g3 g4
  have fn : FN x h h' := fun q g1 g2 => f q (by omega) (by omega) (by omega) (by omega) (by omega) (by omega)
  have exn' : h'.1 (x + 4) = some (5, [aR (x + 5), aR (x + 6), aR (x + 7), aR (x + 8), aR (x + 9), aR (x + 10), aR (x + 11), aR (x + 12), aI 0, aI 0]) := by
    have q := exn
    rw [eA 0 (by omega), eA 1 (by omega), eA 2 (by omega), eA 3 (by omega), eA 4 (by omega), eA 5 (by omega), eA 6 (by omega), eA 7 (by omega)] at q
    exact q
  have lay : ∀ (D' : KD) (U' : Nat → UD) (n' : Nat), D' = (c, τ, (nS, PS, eS), (n', U'), 0, PD, eD) → AB o nS PS n' U' 0 PD → KI x D' h' → (KI x D' (ah_up h' o (101, [aJ v.toInt64])) → lpP x o c τ nS PS eS nU U nD PD eD σ h 0 (ah_up h' o (101, [aJ v.toInt64]))) → wq (ah_sI h' (some o) 101 (0 : Int32) (.inr (.inl v.toInt64)) fun h3 => some (.inl (some (.inl (0 : Int32))), h3)) (rI fun k h'' => FN x h h'' ∧ lpP x o c τ nS PS eS nU U nD PD eD σ h k h'') := fun D' U' n' eD' A2 K2 k => L_lay B1 (fun _ => wq_some (rI_i ⟨FN_tr fn (FN_f (FR_o bx)), k (by subst eD'; exact KI_fr K2 A2 (FR_o bx))⟩))
  have e0 : (0 : Int32).toInt = 0 := rfl
  have q19 : (sG σ 0 0).1 19 = σ.1 19 := sG_ne (by omega)
  have fail : v < 0 → uc' = (sG σ 0 0).1 23 → h'.1 (x + 18) = h.1 (x + 18) → wq (ah_sI h' (some o) 101 (0 : Int32) (.inr (.inl v.toInt64)) fun h3 => some (.inl (some (.inl (0 : Int32))), h3)) (rI fun k h'' => FN x h h'' ∧ lpP x o c τ nS PS eS nU U nD PD eD σ h k h'') := fun vn eu ec => lay _ U nU rfl (AB_0 A) (KI_pf I f ⟨uc', nk', ex, by rw [eu]; exact c2⟩ exm exn' exv ec (by have := C.2.2.2.2.1; exact this)) (fun q => Or.inr ⟨rfl, v, up_eq, Or.inl ⟨vn, q⟩⟩)
  rcases cs with ⟨g1, g2, g3, g4, g5⟩ | ⟨g1, g2, g3, g4, g5, g6⟩ | ⟨g1, g2, g3, g4, g5, g6, g7⟩
  · refine fail ?_ g3 g5
    rcases fw with ⟨fw, -⟩ | ⟨fw0, fw1, -⟩
    · exact absurd fw g1
    · rw [g2, Int32.lt_iff_toInt_lt, sb_i (by rw [li_m1]; omega) (by rw [li_m1]; omega), li_m1, e0]
      omega
  · refine fail ?_ g4 g6
    rw [g3]
    by_cases c : (sG σ 0 0).1 19 = 0
    · rw [if_pos c]
      decide
    · rw [if_neg c]
      have c : ¬ ((sG σ 0 0).1 19).toInt = 0 := fun e => c (i32_of e rfl)
      rw [Int32.lt_iff_toInt_lt, Int32.toInt_neg, Int.bmod_eq_of_le (by omega) (by omega), e0]
      omega
  · obtain ⟨w1, w2', w3, w4, w5, w6, w7, ⟨ts, w8, w9⟩, w10, w11⟩ := g7
    obtain ⟨l2, l4, x7, x9, dxx⟩ := dx
    have el2 : Ls 2 = l2 := by
      have q := (n2 2 (by omega)).1
      rw [eA 2 (by omega)] at q
      have q := q.symm.trans (show h.1 (x + 3 + 2 + 2) = some (100, l2) from x7)
      exact congrArg (fun z => z.2) (Option.some.inj q)
    have el4 : Ls 4 = l4 := by
      have q := (n2 4 (by omega)).1
      rw [eA 4 (by omega)] at q
      have q := q.symm.trans (show h.1 (x + 3 + 2 + 4) = some (100, l4) from x9)
      exact congrArg (fun z => z.2) (Option.some.inj q)
    subst el2
    subst el4
    have kt0 : 0 ≤ kt.toInt := by
      have d3 := R0.2.1.2.2.2.1
      omega
    have Nd := ND_kT (u := h.2.1) R0.2.1 (DX_c (e := 0) dxx) N0 w4 (fun i hi => (w5 i hi).2) kt0
    rw [kT_c] at Nd
    obtain ⟨r8, c8, e8, k8, -⟩ := o8 A'.1 w6
    rw [w7] at e8
    cases e8
    obtain ⟨ts', et, lt, -⟩ := A'.1.1 _ _ _ k8
    have et : h'.1 (h.2.1 + 11) = some (117, ts') := et
    rw [w8] at et
    cases et
    have hn : nU < 64 := by omega
    have WV : UHp (h.2.1, kT σ (Ls 2) (Ls 4), nD, PD, eD, usN, (fun _ => 0), fun _ => 0) h' := by
      refine ⟨w2', ⟨Nd, _, _, w4⟩, ⟨⟨h.2.1 + 11, ts, (sG σ 0 0).1 9, w7, ⟨t4, rfl⟩, w8, by show nD ≤ ts.length; omega, by omega, fun i hi => (w9 i (by have hi : i < nD := hi; omega)).trans (t9 i hi)⟩, fun i hi => ?_⟩, ?_, ?_, ?_⟩
      · have hi : i < nD := hi
        have bb : bdT x h.2.1 nD PD := I.2.2.2.2.2.2.2.1
        have b2 := bb i hi
        exact (TC_t (I.2.2.2.2.1.2 i hi) (f (PD i) (by omega) (by omega) (by omega) (by omega) (by omega) (by omega)) (f (PD i + 1) (by omega) (by omega) (by omega) (by omega) (by omega) (by omega)) (f (PD i + 2) (by omega) (by omega) (by omega) (by omega) (by omega) (by omega)) : TC (PD i) (eD i) h')
      · rw [← rep_cn]
        show h'.1 (h.2.1 + 12) = some (101, List.replicate (σ.1 19).toInt.toNat (aJ 0))
        rw [← q19]
        exact w10
      · rw [← rep_cn]
        show h'.1 (h.2.1 + 13) = some (101, List.replicate (σ.1 19).toInt.toNat (aJ 0))
        rw [← q19]
        exact w11
      · show (σ.1 19).toInt.toNat ≤ 4000
        rw [← q19]
        omega
    have eu : h'.1 (x + 18) = some (120, vu0.set nU (aR h.2.1)) := by
      rw [g6, show ((sG σ 0 0).1 23).toNatClampNeg = nU by show ((sG σ 0 0).1 23).toInt.toNat = nU; omega]
    have o1 : (1 : Int32).toInt = 1 := rfl
    have Kn := KI_ps (V := (h.2.1, kT σ (Ls 2) (Ls 4), nD, PD, eD, usN, (fun _ => 0), fun _ => 0)) I ⟨rfl, rfl, rfl⟩ WV hn f ⟨uc', nk', ex, by rw [g4, ad_i (by omega) (by omega), c2, o1]⟩ exm exn' exv cv1 eu ?_
    · refine lay _ _ (nU + 1) rfl (AB_u A bo rfl rfl) Kn (fun q => Or.inr ⟨rfl, v, up_eq, Or.inr ⟨?_, Ls 2, Ls 4, dxx, q⟩⟩)
      rw [g3]
      intro q
      rw [Int32.lt_iff_toInt_lt, e0] at q
      omega
    · obtain ⟨-, nn, -, vn, s2, s3, s4, s5, s6, s7, s8, w9', nx', en', e10, -, -, -, k10⟩ := o10 A'.1 w1
      rw [w2'] at e10
      cases e10
      have := A'.2.1 _ _ k10
      omega
end Xn
