/-! HOW THE DRAFT'S NODES ARE NUMBERED -/
def gI (l : List AV) (k : Nat) : Int32 := match l[k]? with
  | some (.inl y) => y
  | _ => 0
theorem gI_v {l : List AV} {k : Nat} {y : Int32} (e : l[k]? = some (aI y)) : gI l k = y := by
  unfold gI
  rw [e]
theorem gI_e {l l' : List AV} {k : Nat} (e : l[k]? = l'[k]?) : gI l k = gI l' k := by
  unfold gI
  rw [e]
def XP (σ : rS) (s p : Nat → Int32) : Prop := (∀ k : Nat, (k : Int) < (σ.1 19).toInt → ((ia σ 10 k).toInt = 0 → (s k).toInt = k) ∧ (0 < (ia σ 10 k).toInt → s k = s (ch σ k 0).toInt.toNat ∧ (∀ i : Nat, (i : Int) + 1 < (ia σ 10 k).toInt → (s (ch σ k (i + 1)).toInt.toNat).toInt = (ch σ k i).toInt + 1) ∧ (k : Int) = (ch σ k ((ia σ 10 k).toInt.toNat - 1)).toInt + 1) ∧ ∀ i : Nat, (i : Int) < (ia σ 10 k).toInt → (p (ch σ k i).toInt.toNat).toInt = i) ∧ (∀ j : Nat, (j : Int) < (σ.1 21).toInt → (s (rt σ j)).toInt = if j = 0 then 0 else (rt σ (j - 1) : Int) + 1) ∧ ((σ.1 21).toInt = 0 → (σ.1 19).toInt = 0)
def DX (σ : rS) (l2 l4 : List AV) : Prop := XP σ (gI l2) (gI l4) ∧ ∀ k : Nat, (k : Int) < (σ.1 19).toInt → (∃ y, l2[k]? = some (aI y)) ∧ ∃ y, l4[k]? = some (aI y)
section Xb
variable {lim : Nat × Nat} {d x sg mk lk un td rn nd vr ht ro : Nat} {A : Nat → Nat} {Ls L : Nat → List AV} {kt v1 v2 v3 : Int32} {σ σ' τ : rS} {h h' : ah_H} {N R n k0 : Nat}
theorem ch_b (D : DI σ) {k i : Nat} (hk : (k : Int) < (σ.1 19).toInt) (hi : (i : Int) < (ia σ 10 k).toInt) : cOf σ k (ch σ k i).toInt := by
  obtain ⟨d1, d2, d3, -⟩ := D.2.2.2.2.1 (k : Int) (by omega) (by omega)
  rw [show ((k : Nat) : Int).toNat = k by omega] at d1 d2 d3
  exact ((ck_sq d3 i).1 (by omega)).1
theorem DX_add (D : DI σ) (hR : (σ.1 21).toInt = R) (hN : (σ.1 19).toInt = N) (hN2 : N < 4000) (hn : n ≤ R) (hv : v3.toInt = n) (X : DX σ (Ls 2) (Ls 4)) (a : adR σ σ' v1 v2 v3) (J : MJ σ Ls N (R - n) R L) (hA : ∀ i, i < 4000 → ∃ y, (L 4)[i]? = some (aI y)) : DX σ' (L 2) (L 4) := by
  obtain ⟨N', R', n', τ, q1, q2, q3, q4, l, q5, q6, q7, q8, q9, q10, q11, q12⟩ := a
  have : N' = N := by omega
  subst this
  have : R' = R := by omega
  subst this
  have : n' = n := by omega
  subst this
  have l0 := l
  obtain ⟨l1, l2, l3, l4, l5, l6, l7, l8, l9, l10, l11, l12⟩ := l
  obtain ⟨⟨x1, x2, x3⟩, x4⟩ := X
  obtain ⟨j1, j2, j3, j4⟩ := J
  have sqe := sq_e (σ := τ) (σ' := σ') (fun i => q11 12 i (by omega))
  have mo : ∀ k, k ≠ N' → ia σ' 10 k = ia σ 10 k := fun k hk => (q11 10 k (by omega)).trans (l3 10 k (by omega) (by omega) hk)
  have mn : (ia σ' 10 N').toInt = n' := by rw [q11 10 N' (by omega)]; exact l4
  have co : ∀ k i : Nat, k < N' → (i : Int) < (ia σ 10 k).toInt → ch σ' k i = ch σ k i := fun k i hk hi => by
    show sq σ' i (ia σ' 11 ((k : Nat) : Int).toNat) = sq σ i (ia σ 11 ((k : Nat) : Int).toNat)
    rw [show ((k : Nat) : Int).toNat = k by omega, sqe, q11 11 k (by omega), l3 11 k (by omega) (by omega) (by omega)]
    obtain ⟨d1, d2, d3, -⟩ := D.2.2.2.2.1 (k : Int) (by omega) (by omega)
    rw [show ((k : Nat) : Int).toNat = k by omega] at d1 d2 d3
    refine sq_keep (τ := τ) (k := (k : Int)) (fun c hc => (l6 c.toNat (by have := hc.1; have := hc.2.1; omega) (fun s g1 g2 g3 => ?_)).1) i _ (ia σ 11 k) d3 (by omega)
    obtain ⟨u1, u2, u3, -⟩ := D.2.2.2.2.2 s (by omega)
    have u4 := hc.2.2.1
    rw [g3] at u4
    have u3 : (ia σ 13 (rt σ s)).toInt = -1 := u3
    omega
  have cn : ∀ i : Nat, i < n' → (ch σ' N' i).toInt = rt σ (R' - n' + i) := fun i hi => by
    show (sq σ' i (ia σ' 11 ((N' : Nat) : Int).toNat)).toInt = _
    rw [show ((N' : Nat) : Int).toNat = N' by omega, sqe, q11 11 N' (by omega), sq_new D hR hN hn l0 i (by omega), ct, if_pos (by omega)]
    exact (DI_r D hR hN (by omega)).1
  have so : ∀ k, k ≠ N' → gI (L 2) k = gI (Ls 2) k := fun k hk => gI_e (j1 k hk)
  have rl : ∀ t, t < R' → rt σ t < N' := fun t ht => (DI_r D hR hN ht).2.1
  have sN : gI (L 2) N' = if n' = 0 then σ.1 19 else gI (Ls 2) (rt σ (R' - n')) := by
    by_cases c : n' = 0
    · rw [if_pos c]
      rw [if_pos (by omega)] at j2
      exact gI_v j2
    · rw [if_neg c]
      rw [if_neg (by omega)] at j2
      unfold gI
      rw [j2]
  have lastR : 0 < R' → (rt σ (R' - 1) : Int) + 1 = N' := fun h0 => by
    obtain ⟨u1, u2, u3, u4, u5⟩ := D.2.2.2.2.2 (R' - 1) (by omega)
    have := u5 (by omega)
    have := (DI_r D hR hN (t := R' - 1) (by omega)).1
    omega
  have rt' : ∀ j, j < R' - n' → rt σ' j = rt σ j := fun j hj => by
    show (ia σ' 15 j).toInt.toNat = (ia σ 15 j).toInt.toNat
    rw [q11 15 j (by omega), l2 15 j (by omega)]
  have rtn : rt σ' (R' - n') = N' := by
    show (ia σ' 15 (R' - n')).toInt.toNat = N'
    rw [q12]
    omega
  refine ⟨⟨fun k hk => ?_, fun j hj => ?_, fun q => by omega⟩, fun k hk => ?_⟩
  · rw [q8] at hk
    by_cases kN : k = N'
    · subst kN
      refine ⟨fun m0 => ?_, fun m0 => ⟨?_, fun i hi => ?_, ?_⟩, fun i hi => ?_⟩
      · rw [sN, if_pos (by omega)]
        exact hN
      · rw [sN, if_neg (by omega), cn 0 (by omega), so _ (by have := rl (R' - n' + 0) (by omega); omega)]
        rfl
      · rw [cn (i + 1) (by omega), cn i (by omega), so _ (by have := rl (R' - n' + (i + 1)) (by omega); omega)]
        show (gI (Ls 2) (rt σ (R' - n' + (i + 1)))).toInt = _
        rw [x2 (R' - n' + (i + 1)) (by omega), if_neg (by omega)]
        rfl
      · rw [cn _ (by omega), show R' - n' + ((ia σ' 10 k).toInt.toNat - 1) = R' - 1 by omega]
        have := lastR (by omega)
        omega
      · rw [cn i (by omega)]
        obtain ⟨y, y1, y2⟩ := j4 (R' - n' + i) (by omega) (by omega)
        show (gI (L 4) (rt σ (R' - n' + i))).toInt = i
        rw [gI_v y2, y1]
        omega
    · have kl : k < N' := by omega
      obtain ⟨a1, a2, a3⟩ := x1 k (by omega)
      rw [mo k kN]
      have cb : ∀ i : Nat, (i : Int) < (ia σ 10 k).toInt → (ch σ k i).toInt.toNat ≠ N' ∧ ∀ s, R' - n' ≤ s → s < R' → (ch σ k i).toInt.toNat ≠ rt σ s := fun i hi => by
        have c := ch_b D (show (k : Int) < (σ.1 19).toInt by omega) hi
        refine ⟨by have := c.1; have := c.2.1; omega, fun s g1 g2 g3 => ?_⟩
        have u4 := c.2.2.1
        rw [g3] at u4
        have u3 : (ia σ 13 (rt σ s)).toInt = -1 := (D.2.2.2.2.2 s (by omega)).2.2.1
        omega
      refine ⟨fun m0 => by rw [so k kN]; exact a1 m0, fun m0 => ⟨?_, fun i hi => ?_, ?_⟩, fun i hi => ?_⟩
      · rw [so k kN, co k 0 kl (by omega), so _ (cb 0 (by omega)).1]
        exact (a2 m0).1
      · rw [co k (i + 1) kl (by omega), co k i kl (by omega), so _ (cb (i + 1) (by omega)).1]
        exact (a2 m0).2.1 i hi
      · rw [co k _ kl (by omega)]
        exact (a2 m0).2.2
      · rw [co k i kl hi, gI_e (j3 _ (cb i hi).1 (cb i hi).2)]
        exact a3 i hi
  · rw [q9] at hj
    by_cases jn : j = R' - n'
    · rw [jn, rtn, sN]
      by_cases c : n' = 0
      · rw [if_pos c, hN]
        by_cases j0 : R' - n' = 0
        · rw [if_pos j0]
          have := x3 (by omega)
          omega
        · rw [if_neg j0, rt' _ (by omega), show R' - n' - 1 = R' - 1 by omega]
          have := lastR (by omega)
          omega
      · rw [if_neg c, x2 (R' - n') (by omega)]
        by_cases j0 : R' - n' = 0
        · rw [if_pos j0, if_pos j0]
        · rw [if_neg j0, if_neg j0, rt' _ (by omega)]
    · have jl : j < R' - n' := by omega
      rw [rt' j jl, so _ (by have := rl j (by omega); omega), x2 j (by omega)]
      by_cases j0 : j = 0
      · rw [if_pos j0, if_pos j0]
      · rw [if_neg j0, if_neg j0, rt' _ (by omega)]
  · rw [q8] at hk
    by_cases kN : k = N'
    · subst kN
      refine ⟨?_, ?_⟩
      · by_cases c : R' = R' - n'
        · rw [j2, if_pos c]
          exact ⟨_, rfl⟩
        · rw [j2, if_neg c]
          exact (x4 _ (by have := rl (R' - n') (by omega); omega)).1
      · exact hA k (by omega)
    · refine ⟨by rw [j1 k kN]; exact (x4 k (by omega)).1, ?_⟩
      by_cases g : ∃ s, R' - n' ≤ s ∧ s < R' ∧ k = rt σ s
      · obtain ⟨s, g1, g2, g3⟩ := g
        obtain ⟨y, -, y2⟩ := j4 s g1 g2
        exact ⟨y, by rw [g3]; exact y2⟩
      · rw [j3 k kN (fun s g1 g2 g3 => g ⟨s, g1, g2, g3⟩)]
        exact (x4 k (by omega)).2
end Xb
