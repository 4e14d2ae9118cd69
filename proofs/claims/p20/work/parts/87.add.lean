/-! THE REFERENCE'S CALLS: add -/
def rt (σ : rS) (t : Nat) : Nat := (ia σ 15 t).toInt.toNat
def ct (σ : rS) (R t : Nat) : Int := if t < R then (ia σ 15 t).toInt else -1
/-- while the children of the new node N are taken: those from R - n to j are -/
def LI (σ τ : rS) (N R n j : Nat) : Prop := τ.1 = (sG σ 0 0).1 ∧ (∀ a i, (a ≤ 7 ∨ 15 ≤ a) → ia τ a i = ia σ a i) ∧ (∀ a i, 8 ≤ a → a ≤ 11 → i ≠ N → ia τ a i = ia σ a i) ∧ (ia τ 10 N).toInt = n ∧ (ia τ 11 N).toInt = ct σ R (R - n) ∧ (∀ i, i ≠ N → (∀ t, R - n ≤ t → t < j → i ≠ rt σ t) → ia τ 12 i = ia σ 12 i ∧ ia τ 13 i = ia σ 13 i) ∧ (∀ i, i ≠ N → ia τ 14 i = ia σ 14 i) ∧ (∀ t, R - n ≤ t → t < j → (ia τ 13 (rt σ t)).toInt = N ∧ (ia τ 12 (rt σ t)).toInt = ct σ R (t + 1) ∧ (ia τ 14 (rt σ t)).toInt + 1 ≤ (ia τ 14 N).toInt) ∧ (ia τ 13 N).toInt = -1 ∧ 1 ≤ (ia τ 14 N).toInt ∧ (ia τ 14 N).toInt ≤ N + 1 ∧ (ia τ 12 N).toInt = -1
/-- the children's greatest height -/
def mz (σ : rS) (f : Nat) : Nat → Int
  | 0 => 0
  | t + 1 => if mz σ f t < (ia σ 14 (rt σ (f + t))).toInt then (ia σ 14 (rt σ (f + t))).toInt else mz σ f t
def adR (σ σ' : rS) (v1 v2 v3 : Int32) : Prop := ∃ (N R n : Nat) (τ : rS), (σ.1 19).toInt = N ∧ (σ.1 21).toInt = R ∧ v3.toInt = n ∧ n ≤ R ∧ LI σ τ N R n R ∧ ia τ 8 N = v1 ∧ ia τ 9 N = v2 ∧ (ia τ 14 N).toInt = mz σ (R - n) n + 1 ∧ (σ'.1 19).toInt = N + 1 ∧ (σ'.1 21).toInt = (R - n : Nat) + 1 ∧ (∀ k, (k = 8 ∨ k = 9 ∨ k = 22 ∨ k = 23) → σ'.1 k = σ.1 k) ∧ (∀ j i, (j ≠ 15 ∨ i ≠ R - n) → ia σ' j i = ia τ j i) ∧ ia σ' 15 (R - n) = σ.1 19
def adB (σ : rS) (k n : Int32) : Prop := k.toInt < 0 ∨ 99 < k.toInt ∨ n.toInt < 0 ∨ (σ.1 21).toInt < n.toInt
def adQ (σ : rS) (v1 v2 v3 x : Int32) (σ' : rS) : Prop := RI σ' ∧ ((σ'.1 0 = 1 ∧ adB σ v1 v3 ∧ SG σ σ') ∨ (σ'.1 0 = 2 ∧ ¬ adB σ v1 v3 ∧ (σ.1 19).toInt = 4000 ∧ SG σ σ') ∨ (σ'.1 0 = 0 ∧ ¬ adB σ v1 v3 ∧ (σ.1 19).toInt < 4000 ∧ x = σ.1 19 ∧ SS σ σ' ∧ adR σ σ' v1 v2 v3))
def LX (σ τ : rS) (N R n j : Nat) (w1 w2 : Int32) : Prop := ia τ 8 N = w1 ∧ ia τ 9 N = w2 ∧ (ia τ 14 N).toInt = mz σ (R - n) (j - (R - n)) + 1
section Ad
variable {lim : Nat × Nat} {m d : Nat} {σ τ : rS} {b h : ah_H} {v1 v2 v3 v4 : Int32} {N R n : Nat}
theorem DI_r (D : DI σ) (hR : (σ.1 21).toInt = R) (hN : (σ.1 19).toInt = N) {t : Nat} (ht : t < R) : (ia σ 15 t).toInt = rt σ t ∧ rt σ t < N ∧ (ia σ 13 (ia σ 15 t).toInt.toNat).toInt = -1 := by
  obtain ⟨g1, g2, g3, -⟩ := D.2.2.2.2.2 t (by omega)
  refine ⟨by unfold rt; omega, by unfold rt; omega, g3⟩
theorem rt_lt (D : DI σ) (hR : (σ.1 21).toInt = R) : ∀ (k t : Nat), t + k + 1 < R + 0 → (ia σ 15 t).toInt < (ia σ 15 (t + k + 1)).toInt := by
  intro k
  induction k with
  | zero => intro t ht; exact (D.2.2.2.2.2 t (by omega)).2.2.2.1 (by omega)
  | succ k ih =>
    intro t ht
    have := ih t (by omega)
    have := (D.2.2.2.2.2 (t + k + 1) (by omega)).2.2.2.1 (by omega)
    rw [show t + (k + 1) + 1 = t + k + 1 + 1 by omega]
    omega
theorem rt_ne (D : DI σ) (hR : (σ.1 21).toInt = R) (hN : (σ.1 19).toInt = N) {s t : Nat} (hs : s < R) (ht : t < R) (hn : s ≠ t) : rt σ s ≠ rt σ t := by
  have a := (DI_r D hR hN hs).1
  have c := (DI_r D hR hN ht).1
  rcases Nat.lt_or_gt_of_ne hn with g | g
  · have := rt_lt D hR (t - s - 1) s (by omega)
    rw [show s + (t - s - 1) + 1 = t by omega] at this
    omega
  · have := rt_lt D hR (s - t - 1) t (by omega)
    rw [show t + (s - t - 1) + 1 = s by omega] at this
    omega
/-- chains of other nodes stay -/
theorem ck_keep {k : Int} {τ : rS} (hc : ∀ c, cOf σ k c → ia τ 12 c.toNat = ia σ 12 c.toNat ∧ ia τ 13 c.toNat = ia σ 13 c.toNat ∧ ia τ 14 c.toNat = ia σ 14 c.toNat) (ht : ia τ 14 k.toNat = ia σ 14 k.toNat) : ∀ {j : Nat} {c : Int}, ck σ k j c → ck τ k j c := by
  intro j
  induction j with
  | zero => intro c h; exact h
  | succ j ih =>
    intro c h
    obtain ⟨g1, g2, g3, g4, g5⟩ := h
    obtain ⟨e1, e2, e3⟩ := hc c ⟨g1, g2, g3, g4⟩
    refine ⟨g1, g2, by rw [e2]; exact g3, by rw [e3, ht]; exact g4, ?_⟩
    rw [e1]
    exact ih g5
/-- the new node's children -/
theorem ck_new (D : DI σ) (hR : (σ.1 21).toInt = R) (hN : (σ.1 19).toInt = N) (hn : n ≤ R) (L : LI σ τ N R n R) : ∀ i, i ≤ n → ck τ (N : Int) i (ct σ R (R - i)) := by
  obtain ⟨-, -, -, -, -, -, -, l8, -⟩ := L
  intro i
  induction i with
  | zero => intro _; show ct σ R (R - 0) = -1; exact if_neg (by omega)
  | succ i ih =>
    intro hi
    have ht : R - (i + 1) < R := by omega
    obtain ⟨r1, r2, -⟩ := DI_r D hR hN ht
    obtain ⟨z1, z2, z3⟩ := l8 (R - (i + 1)) (by omega) ht
    have e : ct σ R (R - (i + 1)) = (rt σ (R - (i + 1)) : Int) := by rw [ct, if_pos ht]; exact r1
    rw [e]
    have e2 : ((rt σ (R - (i + 1)) : Nat) : Int).toNat = rt σ (R - (i + 1)) := by omega
    have e3 : ((N : Nat) : Int).toNat = N := by omega
    refine ⟨by omega, by omega, ?_, ?_, ?_⟩
    · rw [e2]; exact z1
    · rw [e2, e3]; exact z3
    · rw [e2, z2, show R - (i + 1) + 1 = R - i by omega]
      exact ih (by omega)
/-- how add ends -/
theorem add_RI (Rr : RI σ) (hR : (σ.1 21).toInt = R) (hN : (σ.1 19).toInt = N) (hN2 : N < 4000) (hn : n ≤ R) (L : LI σ τ N R n R) {x y z w : Int32} (hx : w.toInt = N) (hy : x.toInt = R - n + 1) (hz : z.toInt = N + 1) : RI (sG (sG (sI (sG τ 21 y) 15 (R - n) w) 21 x) 19 z) ∧ SS σ (sG (sG (sI (sG τ 21 y) 15 (R - n) w) 21 x) 19 z) := by
  obtain ⟨O, D, A, Nn, P⟩ := id Rr
  obtain ⟨l1, l2, l3, l4, l5, l6, l7, l8, l9, l10, l11, l12⟩ := id L
  have ff : ∀ k, k ≠ 0 → k ≠ 19 → k ≠ 21 → (sG (sG (sI (sG τ 21 y) 15 (R - n) w) 21 x) 19 z).1 k = σ.1 k := fun k h0 h1 h2 => by
    rw [sG_ne h1, sG_ne h2]
    show (sG τ 21 y).1 k = σ.1 k
    rw [sG_ne h2, l1, sG_ne h0]
  have f19 : (sG (sG (sI (sG τ 21 y) 15 (R - n) w) 21 x) 19 z).1 19 = z := sG_eq
  have f21 : (sG (sG (sI (sG τ 21 y) 15 (R - n) w) 21 x) 19 z).1 21 = x := by rw [sG_ne (by omega), sG_eq]
  have aa : ∀ a i, a ≠ 15 → ia (sG (sG (sI (sG τ 21 y) 15 (R - n) w) 21 x) 19 z) a i = ia τ a i := fun a i h => by
    show ia (sI (sG τ 21 y) 15 (R - n) w) a i = ia τ a i
    rw [sI_nj h]
  have a15 : ∀ i, i ≠ R - n → ia (sG (sG (sI (sG τ 21 y) 15 (R - n) w) 21 x) 19 z) 15 i = ia σ 15 i := fun i h => by
    show ia (sI (sG τ 21 y) 15 (R - n) w) 15 i = ia σ 15 i
    rw [sI_ni h]
    exact l2 15 i (by omega)
  have a15' : ia (sG (sG (sI (sG τ 21 y) 15 (R - n) w) 21 x) 19 z) 15 (R - n) = w := sI_eq
  generalize sG (sG (sI (sG τ 21 y) 15 (R - n) w) 21 x) 19 z = σ' at ff f19 f21 aa a15 a15'
  have hRN : R ≤ N := by have := D.2.2.2.1; omega
  have nr : ∀ c : Int, 0 ≤ c → c < N → (ia σ 13 c.toNat).toInt ≠ -1 → ∀ t, R - n ≤ t → t < R → c.toNat ≠ rt σ t := fun c c0 c1 hu t _ ht e => by
    obtain ⟨r1, r2, r3⟩ := DI_r D hR hN ht
    apply hu
    rw [show c = (ia σ 15 t).toInt by omega]
    exact r3
  have Dk : ∀ k : Int, 0 ≤ k → k < (σ'.1 19).toInt → 0 ≤ (ia σ' 10 k.toNat).toInt ∧ (ia σ' 10 k.toNat).toInt ≤ k ∧ ck σ' k ((ia σ' 10 k.toNat).toInt).toNat ((ia σ' 11 k.toNat).toInt) ∧ ((ia σ' 13 k.toNat).toInt = -1 ∨ (k < (ia σ' 13 k.toNat).toInt ∧ (ia σ' 13 k.toNat).toInt < (σ'.1 19).toInt)) ∧ 1 ≤ (ia σ' 14 k.toNat).toInt ∧ (ia σ' 14 k.toNat).toInt ≤ k + 1 ∧ ((ia σ' 12 k.toNat).toInt = -1 ∨ (0 ≤ (ia σ' 12 k.toNat).toInt ∧ (ia σ' 12 k.toNat).toInt < (σ'.1 19).toInt)) := by
    intro k k0 k1
    rw [f19, hz] at k1
    rw [f19, hz, aa 10 _ (by omega), aa 11 _ (by omega), aa 12 _ (by omega), aa 13 _ (by omega), aa 14 _ (by omega)]
    by_cases e : k = N
    · subst e
      have e3 : ((N : Nat) : Int).toNat = N := by omega
      rw [e3, l4, l5]
      refine ⟨by omega, by omega, ?_, Or.inl l9, l10, l11, Or.inl l12⟩
      have hc := ck_new D hR hN hn L n (Nat.le_refl _)
      rw [show ((n : Nat) : Int).toNat = n by omega]
      rw [show ck σ' = ck σ' from rfl]
      refine ck_keep (σ := τ) (fun c _ => ⟨aa 12 _ (by omega), aa 13 _ (by omega), aa 14 _ (by omega)⟩) (aa 14 _ (by omega)) hc
    · have kn : k.toNat ≠ N := by omega
      obtain ⟨d1, d2, d3, d4, d5, d6, d7⟩ := D.2.2.2.2.1 k k0 (by omega)
      rw [l3 10 _ (by omega) (by omega) kn, l3 11 _ (by omega) (by omega) kn, l7 _ kn]
      refine ⟨d1, d2, ?_, ?_, d5, d6, ?_⟩
      · refine ck_keep (fun c hc => ?_) (by rw [aa 14 _ (by omega), l7 _ kn]) d3
        obtain ⟨c1, c2, c3, c4⟩ := hc
        have cn : c.toNat ≠ N := by omega
        obtain ⟨z1, z2⟩ := l6 _ cn (fun t h1 h2 => nr c c1 (by omega) (by omega) t h1 h2)
        exact ⟨by rw [aa 12 _ (by omega), z1], by rw [aa 13 _ (by omega), z2], by rw [aa 14 _ (by omega), l7 _ cn]⟩
      · by_cases hr : ∃ t, R - n ≤ t ∧ t < R ∧ k.toNat = rt σ t
        · obtain ⟨t, t1, t2, t3⟩ := hr
          rw [t3, (l8 t t1 t2).1]
          right
          omega
        · rw [(l6 _ kn (fun t h1 h2 e => hr ⟨t, h1, h2, e⟩)).2]
          rcases d4 with d4 | d4
          · exact Or.inl d4
          · right
            omega
      · by_cases hr : ∃ t, R - n ≤ t ∧ t < R ∧ k.toNat = rt σ t
        · obtain ⟨t, t1, t2, t3⟩ := hr
          rw [t3, (l8 t t1 t2).2.1, ct]
          by_cases e5 : t + 1 < R
          · rw [if_pos e5]
            obtain ⟨q1, q2, -⟩ := DI_r D hR hN e5
            right
            omega
          · rw [if_neg e5]
            exact Or.inl rfl
        · rw [(l6 _ kn (fun t h1 h2 e => hr ⟨t, h1, h2, e⟩)).1]
          rcases d7 with d7 | d7
          · exact Or.inl d7
          · right
            omega
  have Dr : ∀ j : Nat, (j : Int) < (σ'.1 21).toInt → 0 ≤ (ia σ' 15 j).toInt ∧ (ia σ' 15 j).toInt < (σ'.1 19).toInt ∧ (ia σ' 13 (ia σ' 15 j).toInt.toNat).toInt = -1 ∧ ((j : Int) + 1 < (σ'.1 21).toInt → (ia σ' 15 j).toInt < (ia σ' 15 (j + 1)).toInt) ∧ ((j : Int) + 1 = (σ'.1 21).toInt → (ia σ' 15 j).toInt + 1 = (σ'.1 19).toInt) := by
    intro j hj
    rw [f21, hy] at hj
    rw [f19, hz, f21, hy]
    by_cases e : j = R - n
    · subst e
      rw [a15', hx, aa 13 _ (by omega), show ((N : Nat) : Int).toNat = N by omega]
      exact ⟨by omega, by omega, l9, fun h => absurd h (by omega), fun _ => by omega⟩
    · have jl : j < R := by omega
      obtain ⟨r1, r2, r3⟩ := DI_r D hR hN jl
      rw [a15 j e, r1, aa 13 _ (by omega), show ((rt σ j : Nat) : Int).toNat = rt σ j by omega]
      refine ⟨by omega, by omega, ?_, fun h => ?_, fun h => absurd h (by omega)⟩
      · rw [(l6 (rt σ j) (by omega) (fun t h1 h2 => rt_ne D hR hN jl h2 (by omega))).2]
        rw [r1, show ((rt σ j : Nat) : Int).toNat = rt σ j by omega] at r3
        exact r3
      · by_cases e2 : j + 1 = R - n
        · rw [e2, a15', hx]
          omega
        · rw [a15 _ e2, ← r1]
          exact (D.2.2.2.2.2 j (by omega)).2.2.2.1 (by omega)
  have OO : OKV σ' := fun i hi => by
    rw [aa 0 i (by omega), aa 1 i (by omega), l2 0 i (by omega), l2 1 i (by omega)]
    exact O i hi
  have pr : ∀ a i, (a ≤ 7 ∨ 16 ≤ a) → ia σ' a i = ia σ a i := fun a i h => by rw [aa a i (by omega), l2 a i (by omega)]
  have kp : ∀ a i, 8 ≤ a → a ≤ 12 → 4000 ≤ i → ia σ' a i = ia σ a i := fun a i h1 h2 h3 => by
    rw [aa a i (by omega)]
    by_cases e : a = 12
    · subst e
      exact (l6 i (by omega) (fun t h1 h2 e => by have := (DI_r D hR hN h2).2.1; omega)).1
    · exact l3 a i h1 (by omega) (by omega)
  refine ⟨⟨OO, ⟨by rw [f19]; omega, by rw [f19]; omega, by rw [f21]; omega, by rw [f19, f21]; omega, Dk, Dr⟩, AI_f A (ff 46 (by omega) (by omega) (by omega)) (ff 47 (by omega) (by omega) (by omega)) (fun i => pr 37 i (by omega)), ?_, fun a h0 h1 => ?_⟩, ff 7 (by omega) (by omega) (by omega), fun j i hj hi => pr j i (by omega)⟩
  · refine ⟨?_, DV_e (ff 9 (by omega) (by omega) (by omega)) (fun j i hj _ _ => pr j i (by omega)) Nn.1 Nn.2⟩
    unfold NJ
    rw [ff 7 (by omega) (by omega) (by omega), ff 8 (by omega) (by omega) (by omega), ff 9 (by omega) (by omega) (by omega), ff 22 (by omega) (by omega) (by omega), ff 23 (by omega) (by omega) (by omega)]
    exact Nn.1
  · rw [ff 23 (by omega) (by omega) (by omega)] at h1
    have e22 : (at39 σ' a).1 22 = (at39 σ a).1 22 := by rw [sG_ne (by omega), sG_ne (by omega)]; exact ff 22 (by omega) (by omega) (by omega)
    exact PQ_of ⟨by rw [e22]; exact Int.le_refl _, fun j i h1 h2 h3 _ => kp j i h1 h2 h3, by rw [sG_eq, sG_eq], pr 18 _ (by omega), pr 19 _ (by omega)⟩ (pr 17 _ (by omega)) (pr 20 _ (by omega)) (pr 24 _ (by omega)) (pr 26 _ (by omega)) (fun i _ => ⟨pr 27 _ (by omega), pr 28 _ (by omega)⟩) (P a h0 h1)
theorem ad_loop {w1 w2 : Int32} (nb : ¬ adB σ w1 v3) (Rr : RI σ) (hR : (σ.1 21).toInt = R) (hN : (σ.1 19).toInt = N) (hN2 : N < 4000) (hv : v3.toInt = n) (hn : n ≤ R) : ∀ (M j : Nat) (h : ah_H) (τ : rS) (v4 : Int32), R - j < M → v4.toInt = j → R - n ≤ j → j ≤ R → RH m τ b h → LI σ τ N R n j → LX σ τ N R n j w1 w2 → wq (ah_val lim ah_P d 42 150 [some (.inr (.inr (some m))), none, none, some (.inl v3), some (.inl v4), none] [] h) (rI fun x h' => ∃ σ', RH m σ' b h' ∧ adQ σ w1 w2 v3 x σ') := by
  obtain ⟨O, D, A, Nn, P⟩ := id Rr
  have e1 : (1 : Int32).toInt = 1 := rfl
  have hRN : R ≤ N := by have := D.2.2.2.1; omega
  intro M
  induction M with
  | zero => intros; omega
  | succ M ih =>
    intro j h τ v4 hM h4 hj1 hj2 H L X
    obtain ⟨l1, l2, l3, l4, l5, l6, l7, l8, l9, l10, l11, l12⟩ := id L
    have t21 : τ.1 21 = σ.1 21 := by rw [l1, sG_ne (by omega)]
    have t19 : τ.1 19 = σ.1 19 := by rw [l1, sG_ne (by omega)]
    refine wq_eq q_42_150 (wq_gI H.1 rfl ?_)
    rw [t21]
    refine wq_if _ (fun c => ?_) (fun c => ?_)
    · have c := lt_i c
      have jl : j < R := by omega
      obtain ⟨r1, r2, r3⟩ := DI_r D hR hN jl
      have ej : v4.toInt.toNat = j := by omega
      refine wq_gR H.1 rfl (ra_I H (by omega) rfl rfl (by omega) (by show _ < (4000 : Int); omega) ?_)
      rw [ej, l2 15 j (by omega)]
      refine wq_gR H.1 rfl (wq_gI H.1 rfl ?_)
      rw [t19]
      refine rs_I H (by omega) rfl rfl (by omega) (by show _ < (24000 : Int); omega) (fun h6 H6 => ?_)
      have ec : (ia σ 15 j).toInt.toNat = rt σ j := rfl
      rw [ec] at H6
      have e5 : (v4 + (1 : Int32)).toInt = (j + 1 : Nat) := by rw [ad_i (by omega) (by omega), e1]; omega
      -- the rest of the round
      have go : ∀ s2 : Int32, s2.toInt = ct σ R (j + 1) → wq (ah_val lim ah_P d 42 209 [some (.inr (.inr (some m))), none, none, some (.inl v3), some (.inl v4), some (.inl (ia σ 15 j))] [.inl s2, .inl (ia σ 15 j), .inr (.inr (some (m + 1 + 12)))] h6) (rI fun x h' => ∃ σ', RH m σ' b h' ∧ adQ σ w1 w2 v3 x σ') := by
        intro s2 hs
        refine wq_eq q_42_209 (rs_I H6 (by omega) rfl rfl (by omega) (by show _ < (24000 : Int); omega) (fun h1 H1 => ?_))
        rw [ec] at H1
        have q19 : (sI (sI τ 13 (rt σ j) (σ.1 19)) 12 (rt σ j) s2).1 19 = σ.1 19 := t19
        have eN : (σ.1 19).toInt.toNat = N := by omega
        have b14 : ∀ i, ia (sI (sI τ 13 (rt σ j) (σ.1 19)) 12 (rt σ j) s2) 14 i = ia τ 14 i := fun i => by rw [sI_nj (by omega), sI_nj (by omega)]
        have fin : ∀ (h12 : ah_H) (y : Int32), RH m (sI (sI (sI τ 13 (rt σ j) (σ.1 19)) 12 (rt σ j) s2) 14 N y) b h12 → (ia τ 14 N).toInt ≤ y.toInt → (ia τ 14 (rt σ j)).toInt + 1 ≤ y.toInt → y.toInt ≤ N + 1 → y.toInt = mz σ (R - n) (j + 1 - (R - n)) + 1 → wq (ah_val lim ah_P d 42 150 [some (.inr (.inr (some m))), none, none, some (.inl v3), some (.inl (v4 + (1 : Int32))), none] [] h12) (rI fun x h' => ∃ σ', RH m σ' b h' ∧ adQ σ w1 w2 v3 x σ') := by
          intro h12 y H12 y1 y2 y3 y5
          refine ih (j + 1) h12 _ _ (by omega) e5 (by omega) (by omega) H12 ⟨l1, fun a i ha => ?_, fun a i h1 h2 h3 => ?_, ?_, ?_, fun i hi ht => ?_, fun i hi => ?_, fun t h1 h2 => ?_, ?_, ?_, ?_, ?_⟩ ⟨?_, ?_, ?_⟩
          · rw [sI_nj (by omega), sI_nj (by omega), sI_nj (by omega)]
            exact l2 a i ha
          · rw [sI_nj (by omega), sI_nj (by omega), sI_nj (by omega)]
            exact l3 a i h1 h2 h3
          · rw [sI_nj (by omega), sI_nj (by omega), sI_nj (by omega)]
            exact l4
          · rw [sI_nj (by omega), sI_nj (by omega), sI_nj (by omega)]
            exact l5
          · have hne := ht j (by omega) (by omega)
            rw [sI_nj (by omega), sI_ni hne, sI_nj (by omega), sI_nj (by omega), sI_nj (by omega), sI_ni hne]
            exact l6 i hi (fun t h1 h2 => ht t h1 (by omega))
          · rw [sI_ni hi, b14]
            exact l7 i hi
          · have y4 : (ia (sI (sI (sI τ 13 (rt σ j) (σ.1 19)) 12 (rt σ j) s2) 14 N y) 14 N).toInt = y.toInt := by rw [sI_eq]
            rw [y4]
            by_cases e : t = j
            · subst e
              rw [sI_nj (by omega), sI_nj (by omega), sI_eq, sI_nj (by omega), sI_eq, sI_ni (by omega), b14]
              exact ⟨hN, hs, y2⟩
            · have hne : rt σ t ≠ rt σ j := rt_ne D hR hN (by omega) jl e
              have hnN : rt σ t ≠ N := by have := (DI_r D hR hN (show t < R by omega)).2.1; omega
              obtain ⟨z1, z2, z3⟩ := l8 t h1 (by omega)
              rw [sI_nj (by omega), sI_nj (by omega), sI_ni hne, sI_nj (by omega), sI_ni hne, sI_nj (by omega), sI_ni hnN, b14]
              exact ⟨z1, z2, by omega⟩
          · rw [sI_nj (by omega), sI_nj (by omega), sI_ni (by omega)]
            exact l9
          · rw [sI_eq]
            omega
          · rw [sI_eq]
            exact y3
          · rw [sI_nj (by omega), sI_ni (by omega), sI_nj (by omega)]
            exact l12
          · rw [sI_nj (by omega), sI_nj (by omega), sI_nj (by omega)]
            exact X.1
          · rw [sI_nj (by omega), sI_nj (by omega), sI_nj (by omega)]
            exact X.2.1
          · rw [sI_eq]
            exact y5
        have tc : 1 ≤ (ia τ 14 (rt σ j)).toInt ∧ (ia τ 14 (rt σ j)).toInt ≤ rt σ j + 1 := by
          rw [l7 _ (by omega)]
          obtain ⟨-, -, -, -, d5, d6, -⟩ := D.2.2.2.2.1 (rt σ j : Int) (by omega) (by omega)
          rw [show ((rt σ j : Nat) : Int).toNat = rt σ j by omega] at d5 d6
          exact ⟨d5, d6⟩
        refine wq_gR H1.1 rfl (wq_gI H1.1 rfl (wq_gR H1.1 rfl (ra_I H1 (by omega) rfl rfl (by omega) (by show _ < (24000 : Int); omega) (wq_gR H1.1 rfl (wq_gI H1.1 rfl ?_)))))
        rw [q19, ec, b14]
        have et : j + 1 - (R - n) = (j - (R - n)) + 1 := by omega
        have er : R - n + (j - (R - n)) = j := by omega
        have e6 : (ia τ 14 (rt σ j) + (1 : Int32)).toInt = (ia τ 14 (rt σ j)).toInt + 1 := by rw [ad_i (by omega) (by omega), e1]
        refine ra_I H1 (by omega) rfl rfl (by omega) (by show _ < (24000 : Int); omega) ?_
        rw [eN, b14]
        refine wq_if _ (fun c2 => ?_) (fun c2 => ?_)
        · have c2 := le_i c2
          refine wq_gR H1.1 rfl (wq_gI H1.1 rfl ?_)
          rw [q19]
          refine ra_I H1 (by omega) rfl rfl (by omega) (by show _ < (24000 : Int); omega) (rs_I H1 (by omega) rfl rfl (by omega) (by show _ < (24000 : Int); omega) (fun h12 H12 => ?_))
          rw [eN, b14] at H12
          refine fin h12 _ H12 (by omega) (by omega) l11 ?_
          rw [et, mz, er, if_neg (by rw [← l7 _ (show rt σ j ≠ N by omega)]; have := X.2.2; omega)]
          exact X.2.2
        · have c2 := nle_i c2
          refine wq_gR H1.1 rfl (ra_I H1 (by omega) rfl rfl (by omega) (by show _ < (24000 : Int); omega) (rs_I H1 (by omega) rfl rfl (by omega) (by show _ < (24000 : Int); omega) (fun h12 H12 => ?_)))
          rw [eN, ec, b14] at H12
          refine fin h12 _ H12 (by omega) (by omega) (by omega) ?_
          rw [et, mz, er, if_pos (by rw [← l7 _ (show rt σ j ≠ N by omega)]; have := X.2.2; omega), ← l7 _ (show rt σ j ≠ N by omega)]
          exact e6
      refine wq_gR H6.1 rfl (wq_gI H6.1 rfl ?_)
      rw [show (sI τ 13 (rt σ j) (σ.1 19)).1 21 = σ.1 21 from t21]
      refine wq_if _ (fun c2 => ?_) (fun c2 => ?_)
      · have c2 := lt_i c2
        refine wq_gR H6.1 rfl (ra_I H6 (by omega) rfl rfl (by omega) (by show _ < (4000 : Int); omega) ?_)
        rw [sI_nj (by omega), l2 15 _ (by omega)]
        refine go _ ?_
        rw [ct, if_pos (by omega), show (v4 + (1 : Int32)).toInt.toNat = j + 1 by omega]
      · have c2 := nlt_i c2
        refine go _ ?_
        rw [ct, if_neg (by omega), li_m1]
    · have c := nlt_i c
      have jR : j = R := by omega
      subst jR
      have e6 : (σ.1 21 - v3).toInt = j - n := by rw [sb_i (by omega) (by omega)]; omega
      refine wq_gI H.1 rfl ?_
      rw [t21]
      refine rw_I H (by omega) rfl (fun h12 H12 => wq_gR H12.1 rfl (wq_gI H12.1 rfl (wq_gI H12.1 rfl ?_)))
      rw [sG_eq, sG_ne (by omega), t19]
      refine rs_I H12 (by omega) rfl rfl (by omega) (by show _ < (4000 : Int); omega) (fun h16 H16 => wq_gI H16.1 rfl ?_)
      rw [show (σ.1 21 - v3).toInt.toNat = j - n by omega] at H16
      rw [show (sI (sG τ 21 (σ.1 21 - v3)) 15 (σ.1 21 - v3).toInt.toNat (σ.1 19)).1 21 = σ.1 21 - v3 from (by show (sG τ 21 (σ.1 21 - v3)).1 21 = _; exact sG_eq)]
      refine rw_I H16 (by omega) rfl (fun h18 H18 => wq_gI H18.1 rfl ?_)
      rw [sG_ne (by omega), show (sI (sG τ 21 (σ.1 21 - v3)) 15 (j - n) (σ.1 19)).1 19 = σ.1 19 from (by show (sG τ 21 (σ.1 21 - v3)).1 19 = _; rw [sG_ne (by omega)]; exact t19)]
      refine rw_I H18 (by omega) rfl (fun h20 H20 => wq_gI H20.1 rfl (wq_some (rI_i ?_)))
      obtain ⟨q1, q2⟩ := add_RI Rr hR hN hN2 hn L (x := σ.1 21 - v3 + (1 : Int32)) (y := σ.1 21 - v3) (z := σ.1 19 + (1 : Int32)) (w := σ.1 19) hN (by rw [ad_i (by omega) (by omega), e6, e1]) (by rw [ad_i (by omega) (by omega), e1]; omega)
      have e19 : (σ.1 19 + (1 : Int32)).toInt = j + 1 - j + N := by rw [ad_i (by omega) (by omega), e1]; omega
      have x19 : (sG (sG (sI (sG τ 21 (σ.1 21 - v3)) 15 (j - n) (σ.1 19)) 21 (σ.1 21 - v3 + (1 : Int32))) 19 (σ.1 19 + (1 : Int32))).1 19 = σ.1 19 + 1 := sG_eq
      have x21 : (sG (sG (sI (sG τ 21 (σ.1 21 - v3)) 15 (j - n) (σ.1 19)) 21 (σ.1 21 - v3 + (1 : Int32))) 19 (σ.1 19 + (1 : Int32))).1 21 = σ.1 21 - v3 + 1 := by rw [sG_ne (by omega), sG_eq]
      have xk : ∀ k, k ≠ 19 → k ≠ 21 → (sG (sG (sI (sG τ 21 (σ.1 21 - v3)) 15 (j - n) (σ.1 19)) 21 (σ.1 21 - v3 + (1 : Int32))) 19 (σ.1 19 + (1 : Int32))).1 k = (sG σ 0 0).1 k := fun k k1 k2 => by
        rw [sG_ne k1, sG_ne k2]
        show (sG τ 21 (σ.1 21 - v3)).1 k = (sG σ 0 0).1 k
        rw [sG_ne k2, l1]
      refine ⟨_, H20, q1, Or.inr (Or.inr ⟨?_, nb, by omega, ?_, q2, N, j, n, τ, hN, hR, hv, hn, L, X.1, X.2.1, ?_, ?_, ?_, fun k hk => ?_, fun a i ha => ?_, ?_⟩)⟩
      · rw [xk 0 (by omega) (by omega), sG_eq]
      · rw [x19]
        exact Int32.toInt_inj.mp (by rw [sb_i (by omega) (by omega), e19, e1]; omega)
      · have := X.2.2
        rw [show j - (j - n) = n by omega] at this
        exact this
      · rw [x19, e19]
        omega
      · rw [x21, ad_i (by omega) (by omega), e6, e1]
        omega
      · rw [xk k (by omega) (by omega), sG_ne (by omega)]
      · show ia (sI (sG τ 21 (σ.1 21 - v3)) 15 (j - n) (σ.1 19)) a i = ia τ a i
        rcases ha with ha | ha
        · exact sI_nj ha
        · exact sI_ni ha
      · exact sI_eq
theorem v_add (H : RH m σ b h) (Rr : RI σ) : wq (vc lim (d + 1) m_Ref_add [.inr (.inr (some m)), .inl v1, .inl v2, .inl v3] h) (rI fun x h' => ∃ σ', RH m σ' b h' ∧ adQ σ v1 v2 v3 x σ') := by
  obtain ⟨O, D, A, Nn, P⟩ := id Rr
  have e0 : (0 : Int32).toInt = 0 := rfl
  have e4 : (4000 : Int32).toInt = 4000 := rfl
  have no1 : adB σ v1 v3 → wq (ah_val lim ah_P d 42 42 [some (.inr (.inr (some m))), some (.inl v1), some (.inl v2), some (.inl v3), none, none] [.inl (1 : Int32), .inr (.inr (some m))] h) (rI fun x h' => ∃ σ', RH m σ' b h' ∧ adQ σ v1 v2 v3 x σ') := fun g => wq_eq q_42_42 (wc H (fun h2 H2 => rc H2 (wq_f (by decide) (wq_some (rI_i ⟨_, H2, RI_c Rr, Or.inl ⟨sG_eq, g, SG_c⟩⟩)))))
  have e99 : (99 : Int32).toInt = 99 := rfl
  refine wq_eq e_Ref_add (wq_if _ (fun c => no1 (Or.inl (lt_i c))) (fun c => wq_if _ (fun c1 => wq_if _ (fun c2 => no1 (Or.inr (Or.inr (Or.inl (lt_i c2))))) (fun c2 => wq_gI H.1 rfl (wq_if _ (fun c3 => ?_) (fun c3 => no1 (Or.inr (Or.inr (Or.inr (nle_i c3)))))))) (fun c1 => no1 (Or.inr (Or.inl (by have := nle_i c1; omega))))))
  have nb : ¬ adB σ v1 v3 := by
    have := nlt_i c
    have := le_i c1
    have := nlt_i c2
    have := le_i c3
    unfold adB
    omega
  refine wq_gI H.1 rfl (wq_if _ (fun c4 => ?_) (fun c4 => ?_))
  · refine wq_eq q_42_42 (wc H (fun h2 H2 => rc H2 (wq_f (by decide) (wq_some (rI_i ⟨_, H2, RI_c Rr, Or.inr (Or.inl ⟨sG_eq, nb, ?_, SG_c⟩)⟩)))))
    rw [c4]
    rfl
  have c2 := nlt_i c2
  have c3 := le_i c3
  have c4 : ¬ (σ.1 19).toInt = 4000 := fun e => c4 (i32_of e rfl)
  obtain ⟨d1, d2, d3, d4, -⟩ := id D
  obtain ⟨N, hN⟩ : ∃ N : Nat, (σ.1 19).toInt = N := ⟨(σ.1 19).toInt.toNat, by omega⟩
  obtain ⟨R, hR⟩ : ∃ R : Nat, (σ.1 21).toInt = R := ⟨(σ.1 21).toInt.toNat, by omega⟩
  obtain ⟨n, hv⟩ : ∃ n : Nat, v3.toInt = n := ⟨v3.toInt.toNat, by omega⟩
  have eN : (σ.1 19).toInt.toNat = N := by omega
  have e21 : ∀ x : Int32, (sG σ 0 x).1 21 = σ.1 21 := fun x => sG_ne (by omega)
  have e19 : ∀ x : Int32, (sG σ 0 x).1 19 = σ.1 19 := fun x => sG_ne (by omega)
  refine wq_eq q_42_42 (wc H (fun h2 H2 => rc H2 (wq_t (by decide) (wq_gR H2.1 rfl (wq_gI H2.1 rfl ?_)))))
  rw [e19]
  refine rs_I H2 (by omega) rfl rfl (by omega) (by show _ < (24000 : Int); omega) (fun h5 H5 => wq_gR H5.1 rfl (wq_gI H5.1 rfl ?_))
  rw [show (sI (sG σ 0 0) 8 (σ.1 19).toInt.toNat v1).1 19 = σ.1 19 from e19 0]
  refine rs_I H5 (by omega) rfl rfl (by omega) (by show _ < (24000 : Int); omega) (fun h8 H8 => wq_gR H8.1 rfl (wq_gI H8.1 rfl ?_))
  rw [show (sI (sI (sG σ 0 0) 8 (σ.1 19).toInt.toNat v1) 9 (σ.1 19).toInt.toNat v2).1 19 = σ.1 19 from e19 0]
  refine rs_I H8 (by omega) rfl rfl (by omega) (by show _ < (24000 : Int); omega) (fun h11 H11 => wq_gR H11.1 rfl (wq_gI H11.1 rfl ?_))
  rw [show (sI (sI (sI (sG σ 0 0) 8 (σ.1 19).toInt.toNat v1) 9 (σ.1 19).toInt.toNat v2) 10 (σ.1 19).toInt.toNat v3).1 19 = σ.1 19 from e19 0]
  rw [eN] at H11
  -- the new node's other fields
  have go : ∀ s2 : Int32, s2.toInt = ct σ R (R - n) → wq (ah_val lim ah_P d 42 111 [some (.inr (.inr (some m))), none, none, some (.inl v3), none, none] [.inl s2, .inl (σ.1 19), .inr (.inr (some (m + 1 + 11)))] h11) (rI fun x h' => ∃ σ', RH m σ' b h' ∧ adQ σ v1 v2 v3 x σ') := by
    intro s2 hs
    refine wq_eq q_42_111 (rs_I H11 (by omega) rfl rfl (by omega) (by show _ < (24000 : Int); omega) (fun h1 H1 => wq_gR H1.1 rfl (wq_gI H1.1 rfl ?_)))
    rw [eN] at H1
    rw [show (sI (sI (sI (sI (sG σ 0 0) 8 N v1) 9 N v2) 10 N v3) 11 (σ.1 19).toInt.toNat s2).1 19 = σ.1 19 from e19 0]
    refine rs_I H1 (by omega) rfl rfl (by omega) (by show _ < (24000 : Int); omega) (fun h4 H4 => wq_gR H4.1 rfl (wq_gI H4.1 rfl ?_))
    rw [eN] at H4
    rw [show (sI (sI (sI (sI (sI (sG σ 0 0) 8 N v1) 9 N v2) 10 N v3) 11 N s2) 12 (σ.1 19).toInt.toNat (-1)).1 19 = σ.1 19 from e19 0]
    refine rs_I H4 (by omega) rfl rfl (by omega) (by show _ < (24000 : Int); omega) (fun h7 H7 => wq_gR H7.1 rfl (wq_gI H7.1 rfl ?_))
    rw [eN] at H7
    rw [show (sI (sI (sI (sI (sI (sI (sG σ 0 0) 8 N v1) 9 N v2) 10 N v3) 11 N s2) 12 N (-1)) 13 (σ.1 19).toInt.toNat (-1)).1 19 = σ.1 19 from e19 0]
    refine rs_I H7 (by omega) rfl rfl (by omega) (by show _ < (24000 : Int); omega) (fun h10 H10 => wq_gI H10.1 rfl ?_)
    rw [eN] at H10
    rw [show (sI (sI (sI (sI (sI (sI (sI (sG σ 0 0) 8 N v1) 9 N v2) 10 N v3) 11 N s2) 12 N (-1)) 13 N (-1)) 14 (σ.1 19).toInt.toNat 1).1 21 = σ.1 21 from e21 0]
    refine ad_loop nb Rr hR hN (by omega) hv (by omega) (n + 1) (R - n) h10 _ _ (by omega) (by rw [sb_i (by omega) (by omega)]; omega) (Nat.le_refl _) (by omega) H10 ⟨rfl, fun a i ha => ?_, fun a i h1 h2 h3 => ?_, ?_, ?_, fun i hi _ => ⟨?_, ?_⟩, fun i hi => ?_, fun t h1 h2 => absurd h2 (by omega), ?_, ?_, ?_, ?_⟩ ⟨?_, ?_, ?_⟩
    · rw [sI_nj (by omega), sI_nj (by omega), sI_nj (by omega), sI_nj (by omega), sI_nj (by omega), sI_nj (by omega), sI_nj (by omega)]
    · rw [sI_ni h3, sI_ni h3, sI_ni h3, sI_ni h3, sI_ni h3, sI_ni h3, sI_ni h3]
    · rw [sI_nj (by omega), sI_nj (by omega), sI_nj (by omega), sI_nj (by omega), sI_eq]
      exact hv
    · rw [sI_nj (by omega), sI_nj (by omega), sI_nj (by omega), sI_eq]
      exact hs
    · rw [sI_ni hi, sI_ni hi, sI_ni hi, sI_ni hi, sI_ni hi, sI_ni hi, sI_ni hi]
    · rw [sI_ni hi, sI_ni hi, sI_ni hi, sI_ni hi, sI_ni hi, sI_ni hi, sI_ni hi]
    · rw [sI_ni hi, sI_ni hi, sI_ni hi, sI_ni hi, sI_ni hi, sI_ni hi, sI_ni hi]
    · rw [sI_nj (by omega), sI_eq]
      exact li_m1
    · rw [sI_eq]
      decide
    · rw [sI_eq]
      show (1 : Int) ≤ _
      omega
    · rw [sI_nj (by omega), sI_nj (by omega), sI_eq]
      exact li_m1
    · rw [sI_nj (by omega), sI_nj (by omega), sI_nj (by omega), sI_nj (by omega), sI_nj (by omega), sI_nj (by omega), sI_eq]
    · rw [sI_nj (by omega), sI_nj (by omega), sI_nj (by omega), sI_nj (by omega), sI_nj (by omega), sI_eq]
    · rw [sI_eq, show R - n - (R - n) = 0 by omega]
      rfl
  refine wq_if _ (fun c5 => ?_) (fun c5 => ?_)
  · have : n = 0 := by
      have := congrArg Int32.toInt c5
      omega
    refine go _ ?_
    rw [ct, if_neg (by omega), li_m1]
  · have c5 : ¬ v3.toInt = 0 := fun e => c5 (i32_of e rfl)
    refine wq_gR H11.1 rfl (wq_gI H11.1 rfl ?_)
    rw [show (sI (sI (sI (sG σ 0 0) 8 (σ.1 19).toInt.toNat v1) 9 (σ.1 19).toInt.toNat v2) 10 (σ.1 19).toInt.toNat v3).1 21 = σ.1 21 from e21 0]
    have e6 : (σ.1 21 - v3).toInt = R - n := by rw [sb_i (by omega) (by omega)]; omega
    refine ra_I H11 (by omega) rfl rfl (by omega) (by show _ < (4000 : Int); omega) ?_
    rw [sI_nj (by omega), sI_nj (by omega), sI_nj (by omega), show (σ.1 21 - v3).toInt.toNat = R - n by omega]
    refine go _ ?_
    rw [ct, if_pos (by omega)]
end Ad
