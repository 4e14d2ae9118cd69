/-! THE CLASS'S ADD: class and reference have the same trees behind it -/
section Cd
variable {lim : Nat × Nat} {d x sg mk lk un td rn nd vr ht ro : Nat} {A : Nat → Nat} {Ls : Nat → List AV} {kt v1 v2 v3 : Int32} {σ σ' τ : rS} {h h' : ah_H} {N R n k0 : Nat}
theorem hne {p q k1 k2 : Nat} {vs ws : List AV} (a : h.1 p = some (k1, vs)) (b : h.1 q = some (k2, ws)) (g : Nat.beq k1 k2 = false) : p ≠ q := fun e => by
  rw [e, b] at a
  cases a
  rw [Nat.beq_refl] at g
  cases g
theorem sq_keep {k : Int} (hc : ∀ c, cOf σ k c → ia τ 12 c.toNat = ia σ 12 c.toNat) : ∀ (i j : Nat) (c : Int32), ck σ k j c.toInt → i < j → sq τ i c = sq σ i c := by
  intro i
  induction i with
  | zero => intros; rfl
  | succ i ih =>
    intro j c hk hi
    cases j with
    | zero => omega
    | succ j =>
      obtain ⟨g1, g2, g3, g4, g5⟩ := hk
      have n : ¬ c = -1 := nn_m g1
      have e1 : nx1 σ c = ia σ 12 c.toInt.toNat := if_neg n
      have e2 : nx1 τ c = ia τ 12 c.toInt.toNat := if_neg n
      have e3 := hc c.toInt ⟨g1, g2, g3, g4⟩
      show sq τ i (nx1 τ c) = sq σ i (nx1 σ c)
      rw [e2, e3, ← e1]
      exact ih j _ (by rw [e1]; exact g5) (by omega)
theorem sq_new (D : DI σ) (hR : (σ.1 21).toInt = R) (hN : (σ.1 19).toInt = N) (hn : n ≤ R) (l : LI σ τ N R n R) : ∀ i, i ≤ n → (sq τ i (ia τ 11 N)).toInt = ct σ R (R - n + i) := by
  obtain ⟨-, -, -, -, l5, -, -, l8, -⟩ := l
  intro i
  induction i with
  | zero => intro _; exact l5
  | succ i ih =>
    intro hi
    have ih := ih (by omega)
    have ht : R - n + i < R := by omega
    obtain ⟨r1, r2, -⟩ := DI_r D hR hN ht
    rw [ct, if_pos ht, r1] at ih
    have e : sq τ (i + 1) (ia τ 11 N) = nx1 τ (sq τ i (ia τ 11 N)) := (sq_ad 1 i (ia τ 11 N)).symm
    have e2 : nx1 τ (sq τ i (ia τ 11 N)) = ia τ 12 (sq τ i (ia τ 11 N)).toInt.toNat := if_neg (nn_m (by omega))
    rw [e, e2, ih, show ((rt σ (R - n + i) : Nat) : Int).toNat = rt σ (R - n + i) by omega, (l8 (R - n + i) (by omega) ht).2.1]
    rfl
theorem CR_add (D : DI σ) (hR : (σ.1 21).toInt = R) (hN : (σ.1 19).toInt = N) (hN2 : N < 4000) (hn : n ≤ R) (hv : v3.toInt = n) (hk : kt.toInt = k0) (hk2 : k0 + R = N) (e1 : h.1 x = some (0, [aR sg, aR mk, aR lk, aR un, aI (σ.1 23), aI (σ.1 22), aR td, aR rn])) (e2 : h.1 lk = some (3, [aR mk, aR nd, aR sg])) (em : h.1 mk = some (4, [aR nd, aR vr, aR ht, aR ro, aI (σ.1 21)])) (N0 : NR nd A Ls kt σ h) (T : TR vr (σ.1 9) (fun j i => sF σ (9216 + i) j) h) (Hh : HR ht σ h) (Oo : OR ro σ h) (ds : dsj A ht ro) (M : MK σ nd mk vr ht ro A Ls N R n k0 kt v1 v2 h h') (a : adR σ σ' v1 v2 v3) : CR x σ' h' := by
  obtain ⟨N', R', n', τ, q1, q2, q3, q4, l, q5, q6, q7, q8, q9, q10, q11, q12⟩ := a
  have : N' = N := by omega
  subst this
  have : R' = R := by omega
  subst this
  have : n' = n := by omega
  subst this
  have l0 := l
  obtain ⟨l1, l2, l3, l4, l5, l6, l7, l8, l9, l10, l11, l12⟩ := l
  obtain ⟨⟨rc, m1, m2⟩, ⟨L, kj, F, ⟨i1, i2, i3, i4, ⟨t, i5, i5'⟩, i6, i7, i8, i9, i10, i11⟩⟩, ⟨Lh, m3, m4, m5, y, m6, m7⟩, ⟨Lr, m8, m9, m10, m11⟩, m12⟩ := M
  obtain ⟨n1, n2, n3, n4⟩ := N0
  obtain ⟨Lh0, a1, -⟩ := Hh
  obtain ⟨Lr0, b1, -⟩ := Oo
  have E1 : (1 : Int32).toInt = 1 := rfl
  have sqe := sq_e (σ := τ) (σ' := σ') (fun i => q11 12 i (by omega))
  have fr : ∀ (q k : Nat) (vs : List AV), h.1 q = some (k, vs) → Nat.beq k 5 = false → Nat.beq k 4 = false → Nat.beq k 100 = false → h'.1 q = some (k, vs) := fun q k vs e g1 g2 g3 => (m12 q (hne e n1 g1) (hne e em g2) (hne e a1 g3) (hne e b1 g3) (fun j hj => hne e (n2 j hj).1 g3)).trans e
  have s19 : σ'.1 19 = σ.1 19 + 1 := Int32.toInt_inj.mp (by rw [q8, ad_i (by omega) (by omega), E1]; omega)
  have s21 : rc = σ'.1 21 := Int32.toInt_inj.mp (by omega)
  have l0l : ∀ j, j < 8 → (Ls j).length = 4000 := fun j hj => (n2 j hj).2
  refine ⟨sg, mk, lk, un, td, rn, nd, vr, ht, ro, A, L, kj, by rw [q10 23 (by omega), q10 22 (by omega)]; exact fr x _ _ e1 rfl rfl rfl, fr lk _ _ e2 rfl rfl rfl, by rw [← s21]; exact m2, ⟨by rw [s19]; exact F.1, fun j hj => ⟨(F.2 j hj).1, (F.2 j hj).2.1⟩, by rw [q9, q8]; omega, fun k hk' => ?_⟩, ?_, ⟨Lh, m3, m4, fun k hk' => ?_⟩, ⟨Lr, m8, m9, fun j hj => ?_⟩, ds⟩
  · rw [q8] at hk'
    rw [q11 8 k (by omega), q11 9 k (by omega), q11 13 k (by omega), q11 10 k (by omega), q11 11 k (by omega)]
    by_cases kN : k = N'
    · subst kN
      rw [i2, i3, i4, q5, q6]
      refine ⟨List.getElem?_set_self (by rw [l0l 0 (by omega)]; omega), List.getElem?_set_self (by rw [l0l 1 (by omega)]; omega), by rw [eq_m1 l9]; exact i11, ?_, kt, List.getElem?_set_self (by rw [l0l 5 (by omega)]; omega), by omega, by omega, fun i hi => ?_⟩
      · have : t = ia τ 10 k := Int32.toInt_inj.mp (by omega)
        rw [← this]
        exact i5'
      · have hi2 : i < n' := by omega
        have g := sq_new D hR hN hn l0 i (by omega)
        rw [ct, if_pos (by omega)] at g
        rw [sqe, Int32.toInt_inj.mp g, show kt.toInt.toNat + i = k0 + i by omega]
        exact i8 i (by omega)
    · have kl : k < N' := by omega
      obtain ⟨k1, k2, k3, k4, ka, k5, k6, k7, k8⟩ := n4 k (by omega)
      rw [i2, i3, i4, List.getElem?_set_ne (by omega), List.getElem?_set_ne (by omega), List.getElem?_set_ne (by omega), l3 8 k (by omega) (by omega) kN, l3 9 k (by omega) (by omega) kN, l3 10 k (by omega) (by omega) kN, l3 11 k (by omega) (by omega) kN, i6 k kN]
      refine ⟨k1, k2, ?_, k4, ka, k5, k6, by omega, fun i hi => ?_⟩
      · by_cases g : ∃ s, R' - n' ≤ s ∧ s < R' ∧ k = rt σ s
        · obtain ⟨s, g1, g2, g3⟩ := g
          rw [g3, i10 s g1 g2]
          have : σ.1 19 = ia τ 13 (rt σ s) := Int32.toInt_inj.mp (by rw [(l8 s g1 g2).1]; exact hN)
          rw [this]
        · have g : ∀ s, R' - n' ≤ s → s < R' → k ≠ rt σ s := fun s g1 g2 g3 => g ⟨s, g1, g2, g3⟩
          rw [i9 k kN g, (l6 k kN g).2]
          exact k3
      · rw [sqe, i7 _ (by omega)]
        obtain ⟨d1, d2, d3, -⟩ := D.2.2.2.2.1 (k : Int) (by omega) (by omega)
        rw [show ((k : Nat) : Int).toNat = k by omega] at d1 d2 d3
        have g := sq_keep (τ := τ) (k := (k : Int)) (fun c hc => (l6 c.toNat (by have := hc.1; have := hc.2.1; omega) (fun s g1 g2 g3 => ?_)).1) i _ (ia σ 11 k) d3 (by omega)
        · rw [g]
          exact k8 i hi
        · obtain ⟨u1, u2, u3, -⟩ := D.2.2.2.2.2 s (by omega)
          have u4 := hc.2.2.1
          rw [g3] at u4
          have u3 : (ia σ 13 (rt σ s)).toInt = -1 := u3
          omega
  · rw [q10 9 (by omega)]
    obtain ⟨rs, row, Q, f1, f2, f3, f4, f5, f6, f7⟩ := T
    refine ⟨rs, row, Q, fr vr _ _ f1 rfl rfl rfl, fr rs _ _ f2 rfl rfl rfl, f3, f4, f5, f6, fun i hi => ?_⟩
    obtain ⟨th, nw, ls, ev, ac, w1, w2⟩ := f7 i hi
    have g : ∀ j, sF σ' (9216 + i) j = sF σ (9216 + i) j := sF_e (fun j hj => (q11 j _ (by omega)).trans (l2 j _ (by omega)))
    refine ⟨th, nw, ls, ev, ac, w1, ?_⟩
    show h'.1 th = some (7, [aI (sF σ' (9216 + i) 0), aI (sF σ' (9216 + i) 1), aI (sF σ' (9216 + i) 2), aI (sF σ' (9216 + i) 3), aR nw, aR ls, aI ev, aI ac])
    rw [g, g, g, g]
    exact fr th _ _ w2 rfl rfl rfl
  · rw [q8] at hk'
    rw [q11 14 k (by omega)]
    by_cases kN : k = N'
    · subst kN
      have : y = ia τ 14 k := Int32.toInt_inj.mp (by omega)
      rw [← this]
      exact m6
    · rw [l7 k kN]
      exact m5 k (by omega)
  · rw [q9] at hj
    by_cases jn : j = R' - n'
    · subst jn
      rw [q12]
      exact m11
    · rw [q11 15 j (Or.inr jn), l2 15 j (by omega)]
      exact m10 j (by omega)
/-- how the class's add ends -/
def naP (x : Nat) (σ : rS) (v1 v2 v3 : Int32) (h : ah_H) : ah_R → Prop := fun z => (adB σ v1 v3 ∧ z = (.inr (200, h.2.1), ah_new h (200, []) 6)) ∨ (¬ adB σ v1 v3 ∧ (σ.1 19).toInt = 4000 ∧ z = (.inr (201, h.2.1), ah_new h (201, []) 6)) ∨ (¬ adB σ v1 v3 ∧ (σ.1 19).toInt < 4000 ∧ ∃ h', z = (.inl (some (.inl (σ.1 19))), h') ∧ (∀ σ', adR σ σ' v1 v2 v3 → CR x σ' h') ∧ (∀ (q k : Nat) (vs : List AV), h.1 q = some (k, vs) → Nat.beq k 5 = false → Nat.beq k 4 = false → Nat.beq k 100 = false → h'.1 q = some (k, vs)) ∧ ∀ (q nd vr ht ro : Nat) (rc : Int32), h.1 q = some (4, [aR nd, aR vr, aR ht, aR ro, aI rc]) → ∃ rc', h'.1 q = some (4, [aR nd, aR vr, aR ht, aR ro, aI rc']))
theorem n_add {K : Nat} {κ : kM} (W : cI K κ h h) (t0 : κ x = some (0, 0)) (D : DI σ) (C : CR x σ h) (hr : rm lim h) : wq (vc lim (d + 4) m_Code_add [.inr (.inr (some x)), .inl v1, .inl v2, .inl v3] h) (naP x σ v1 v2 v3 h) := by
  obtain ⟨sg, mk, lk, un, td, rn, nd, vr, ht, ro, A, Ls, kt, e1, e2, em, N0, T, Hh, Oo, ds⟩ := id C
  have e99 : (99 : Int32).toInt = 99 := rfl
  have e0 : (0 : Int32).toInt = 0 := rfl
  obtain ⟨d1, d2, d3, d4, -⟩ := id D
  have no : adB σ v1 v3 → wq (ah_val lim ah_P (d + 3) 3 25 [none, none, none, none] [] h) (naP x σ v1 v2 v3 h) := fun g => wq_eq q_3_25 (thX hr (Or.inl ⟨g, rfl⟩))
  obtain ⟨n1, n2, n3, n4⟩ := id N0
  obtain ⟨Lh, a1, a2, -⟩ := id Hh
  obtain ⟨Lr, b1, b2, -⟩ := id Oo
  -- the arrays are of numbers
  obtain ⟨x1, x2, x3, x4, x5, x6, x7, x8, ex, -, p2, p3, -⟩ := o0 W t0
  rw [e1] at ex
  cases ex
  obtain ⟨y1, y2, y3, y4, y5, ey, r1', -⟩ := o4 W p2
  rw [em] at ey
  cases ey
  have kA := NR_k W N0 r1'
  obtain ⟨z1, z2, z3, z4, z5, z6, z7, z8, z9, z10, ez, -, -, -, -, -, -, -, -, -, -, -, kt0, -⟩ := o5 W r1'
  rw [n1] at ez
  have ekt : kt = z10 := by
    injection ez with ez
    injection ez with _ ez
    injection ez with _ ez
    injection ez with _ ez
    injection ez with _ ez
    injection ez with _ ez
    injection ez with _ ez
    injection ez with _ ez
    injection ez with _ ez
    injection ez with _ ez
    injection ez with _ ez
    injection ez with ez _
    injection ez with ez
  rw [← ekt] at kt0
  have F : AF nd A Ls (σ.1 19) kt h := ⟨n1, fun j hj => ⟨(n2 j hj).1, (n2 j hj).2, fun i hi => by
    obtain ⟨vs, ev, -, -, ov⟩ := W.1 _ 100 4000 (kA j hj)
    have ev : h.1 (A j) = some (100, vs) := ev
    rw [(n2 j hj).1] at ev
    cases ev
    exact ov i hi⟩⟩
  refine wq_eq e_Code_add (wq_if _ (fun c => no (Or.inl (lt_i c))) (fun c => wq_if _ (fun c1 => wq_if _ (fun c2 => no (Or.inr (Or.inr (Or.inl (lt_i c2))))) (fun c2 => wq_gR e1 rfl (wq_gI em rfl (wq_if _ (fun c3 => ?_) (fun c3 => no (Or.inr (Or.inr (Or.inr (nle_i c3))))))))) (fun c1 => no (Or.inr (Or.inl ?_)))))
  · have c := nlt_i c
    have c1 := le_i c1
    have c2 := nlt_i c2
    have c3 := le_i c3
    have nb : ¬ adB σ v1 v3 := by
      unfold adB
      omega
    refine wq_gR e1 rfl (wq_gR em rfl (wq_at F.1 (wq_cI (n_isFull F) ?_)))
    rintro y h5 ⟨e, bf⟩
    cases e
    refine wq_if _ (fun g => ?_) (fun g => thX hr (Or.inr (Or.inl ⟨nb, ?_, rfl⟩)))
    · have lt : (σ.1 19).toInt < 4000 := by
        have := bo_n bf g
        omega
      refine wq_gR e1 rfl (wq_at em (wq_cI (n_make (N := (σ.1 19).toInt.toNat) (R := (σ.1 21).toInt.toNat) (n := v3.toInt.toNat) (k0 := kt.toInt.toNat) D (by omega) (by omega) (by omega) (by omega) (by omega) (by omega) (by omega) em Hh Oo F ds ⟨hne em n1 rfl, hne a1 n1 rfl, hne b1 n1 rfl⟩ ⟨hne em a1 rfl, hne em b1 rfl⟩ (fun j hj => hne em (n2 j hj).1 rfl)) ?_))
      rintro y h8 ⟨rfl, M⟩
      refine wq_some (Or.inr (Or.inr ⟨nb, lt, h8, rfl, fun σ' ad => CR_add D (by omega) (by omega) (by omega) (by omega) (by omega) (by omega) (by omega) e1 e2 em N0 T Hh Oo ds M ad, ?_, ?_⟩))
      · obtain ⟨-, -, -, -, m12⟩ := M
        exact fun q k vs e g1 g2 g3 => (m12 q (hne e n1 g1) (hne e em g2) (hne e a1 g3) (hne e b1 g3) (fun j hj => hne e (n2 j hj).1 g3)).trans e
      · obtain ⟨⟨rc2, -, m2⟩, -, -, -, m12⟩ := M
        intro q nd' vr' ht' ro' rc' e
        by_cases c : q = mk
        · subst c
          rw [em] at e
          cases e
          exact ⟨rc2, m2⟩
        · exact ⟨rc', (m12 q (hne e n1 rfl) c (hne e a1 rfl) (hne e b1 rfl) (fun j hj => hne e (n2 j hj).1 rfl)).trans e⟩
    · have := bo_p bf g
      omega
  · have := nle_i c1
    omega
end Cd
