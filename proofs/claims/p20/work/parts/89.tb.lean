/-! THE CLASS'S ADD -/
/-- the arrays of the nodes -/
def AF (nd : Nat) (A : Nat → Nat) (L : Nat → List AV) (c kt : Int32) (h : ah_H) : Prop := h.1 nd = some (5, [aR (A 0), aR (A 1), aR (A 2), aR (A 3), aR (A 4), aR (A 5), aR (A 6), aR (A 7), aI c, aI kt]) ∧ ∀ j, j < 8 → h.1 (A j) = some (100, L j) ∧ (L j).length = 4000 ∧ ∀ i, i < 4000 → ∃ y, (L j)[i]? = some (aI y)
def UF (nd : Nat) (A : Nat → Nat) (h h' : ah_H) : Prop := ∀ q, q ≠ nd → (∀ j, j < 8 → q ≠ A j) → h'.1 q = h.1 q
def uL (L : Nat → List AV) (j i : Nat) (v : Int32) : Nat → List AV := fun q => if q = j then (L j).set i (aI v) else L q
section Ca
variable {lim : Nat × Nat} {d nd mk vr ht ro : Nat} {A : Nat → Nat} {L : Nat → List AV} {c kt v i : Int32} {σ : rS} {h h' : ah_H} {Φ : ah_R → Prop}
theorem uL_e {j i : Nat} {v : Int32} : uL L j i v j = (L j).set i (aI v) := if_pos rfl
theorem uL_n {j i q : Nat} {v : Int32} (hq : q ≠ j) : uL L j i v q = L q := if_neg hq
theorem uL_i {j i q k : Nat} {v : Int32} (hk : k ≠ i) : (uL L j i v q)[k]? = (L q)[k]? := by
  by_cases e : q = j
  · subst e
    rw [uL_e]
    exact List.getElem?_set_ne (fun e => hk e.symm)
  · rw [uL_n e]
theorem uL_s {j i : Nat} {v : Int32} (hl : i < (L j).length) : (uL L j i v j)[i]? = some (aI v) := by
  rw [uL_e]
  exact List.getElem?_set_self hl
theorem UF_0 : UF nd A h h := fun _ _ _ => rfl
theorem UF_t {h1 : ah_H} (a : UF nd A h h1) (b : UF nd A h1 h') : UF nd A h h' := fun q n1 n2 => (b q n1 n2).trans (a q n1 n2)
theorem AF_nd (F : AF nd A L c kt h) {j : Nat} (hj : j < 8) : A j ≠ nd := fun e => by
  have a := (F.2 j hj).1
  rw [e, F.1] at a
  cases a
theorem AF_s {K1 : ah_H → Option ah_R} {j : Nat} (F : AF nd A L c kt h) (dA : ∀ i j, i < 8 → j < 8 → A i = A j → i = j) (hj : j < 8) (h0 : 0 ≤ i.toInt) (h1 : i.toInt < 4000) (k : ∀ h', AF nd A (uL L j i.toInt.toNat v) c kt h' → UF nd A h h' → wq (K1 h') Φ) : wq (ah_sI h (some (A j)) 100 i (.inl v) K1) Φ := by
  have Fj := F.2 j hj
  refine wq_sI Fj.1 (ix_ge h0) (by rw [Fj.2.1]; exact ix_lt h0 (by omega)) (k _ ⟨up_ne (AF_nd F hj).symm F.1, fun q hq => ?_⟩ (fun q n1 n2 => up_ne (n2 j hj) rfl))
  by_cases e : q = j
  · subst e
    rw [uL_e]
    refine ⟨up_eq, by rw [List.length_set]; exact Fj.2.1, fun p hp => ?_⟩
    by_cases e : p = i.toInt.toNat
    · subst e
      exact ⟨v, List.getElem?_set_self (by rw [Fj.2.1]; exact hp)⟩
    · rw [List.getElem?_set_ne (fun q => e q.symm)]
      exact Fj.2.2 p hp
  · rw [uL_n e]
    exact ⟨up_ne (fun g => e (dA q j hq hj g)) (F.2 q hq).1, (F.2 q hq).2⟩
theorem AF_w8 {K1 : ah_H → Option ah_R} (F : AF nd A L c kt h) (k : ∀ h', AF nd A L v kt h' → UF nd A h h' → wq (K1 h') Φ) : wq (ah_wr h (some nd) 5 8 (.inl v) K1) Φ := wq_wr F.1 (Nat.le_of_ble_eq_true rfl) (k _ ⟨up_eq, fun j hj => ⟨up_ne (AF_nd F hj) (F.2 j hj).1, (F.2 j hj).2⟩⟩ (fun q n1 n2 => up_ne n1 rfl))
theorem AF_w9 {K1 : ah_H → Option ah_R} (F : AF nd A L c kt h) (k : ∀ h', AF nd A L c v h' → UF nd A h h' → wq (K1 h') Φ) : wq (ah_wr h (some nd) 5 9 (.inl v) K1) Φ := wq_wr F.1 (Nat.le_of_ble_eq_true rfl) (k _ ⟨up_eq, fun j hj => ⟨up_ne (AF_nd F hj) (F.2 j hj).1, (F.2 j hj).2⟩⟩ (fun q n1 n2 => up_ne n1 rfl))
theorem n_isFull (F : AF nd A L c kt h) : wq (vc lim (d + 1) m_Nodes_isFull [.inr (.inr (some nd))] h) (rI fun x h' => h' = h ∧ bo (¬ c.toInt < 4000) x) := by
  refine wq_eq e_Nodes_isFull (wq_gI F.1 rfl (wq_gR F.1 rfl (wq_len (F.2 0 (by omega)).1 (by decide) ?_)))
  rw [(F.2 0 (by omega)).2.1]
  have e4 : (Nat.toInt32 4000).toInt = 4000 := i32n (by omega)
  refine wq_if _ (fun c1 => r0 rfl (fun q => q ?_)) (fun c1 => r1 rfl (fun q => ?_))
  · have := lt_i c1
    omega
  · have := nlt_i c1
    omega
/-- a new node's rows -/
def bgL (L : Nat → List AV) (N : Nat) (c kt v1 v2 : Int32) : Nat → List AV := uL (uL (uL (uL (uL (uL (uL L 0 N v1) 1 N v2) 2 N c) 3 N (-1)) 4 N 0) 5 N kt) 6 N 0
theorem n_begin {v1 v2 : Int32} (F : AF nd A L c kt h) (dA : ∀ i j, i < 8 → j < 8 → A i = A j → i = j) (c0 : 0 ≤ c.toInt) (c1 : c.toInt < 4000) : wq (vc lim (d + 2) m_Nodes_begin [.inr (.inr (some nd)), .inl v1, .inl v2] h) (rI fun x h' => x = c ∧ AF nd A (bgL L c.toInt.toNat c kt v1 v2) (c + 1) kt h' ∧ UF nd A h h') := by
  refine wq_eq e_Nodes_begin (wq_at F.1 (wq_cI (n_isFull F) ?_))
  rintro x h1 ⟨e, b⟩
  cases e
  refine wq_if _ (fun _ => wq_gI F.1 rfl (wq_gR F.1 rfl (AF_s F dA (by omega) c0 c1 (fun h5 F5 U5 => ?_)))) (fun g => absurd c1 (bo_p b g))
  refine wq_gR F5.1 rfl (AF_s F5 dA (by omega) c0 c1 (fun h7 F7 U7 => ?_))
  refine wq_gR F7.1 rfl (AF_s F7 dA (by omega) c0 c1 (fun h9 F9 U9 => ?_))
  refine wq_gR F9.1 rfl (AF_s F9 dA (by omega) c0 c1 (fun h11 F11 U11 => ?_))
  refine wq_gR F11.1 rfl (AF_s F11 dA (by omega) c0 c1 (fun h13 F13 U13 => ?_))
  refine wq_gR F13.1 rfl (wq_gI F13.1 rfl (AF_s F13 dA (by omega) c0 c1 (fun h16 F16 U16 => ?_)))
  refine wq_gR F16.1 rfl (AF_s F16 dA (by omega) c0 c1 (fun h18 F18 U18 => ?_))
  exact wq_gI F18.1 rfl (AF_w8 F18 (fun h20 F20 U20 => wq_some (rI_i ⟨rfl, F20, UF_t U5 (UF_t U7 (UF_t U9 (UF_t U11 (UF_t U13 (UF_t U16 (UF_t U18 U20))))))⟩)))
/-- a child is taken -/
theorem n_take {w t : Int32} {N : Nat} (F : AF nd A L c kt h) (dA : ∀ i j, i < 8 → j < 8 → A i = A j → i = j) (hc : c.toInt = N + 1) (hN : N < 4000) (w0 : 0 ≤ w.toInt) (w1 : w.toInt < N) (k0 : 0 ≤ kt.toInt) (k1 : kt.toInt < 4000) (ht : (L 6)[N]? = some (aI t)) : wq (vc lim (d + 1) m_Nodes_take [.inr (.inr (some nd)), .inl w] h) (rV fun h' => ∃ L', AF nd A L' c (kt + 1) h' ∧ UF nd A h h' ∧ L' 0 = L 0 ∧ L' 1 = L 1 ∧ L' 5 = L 5 ∧ L' 3 = (L 3).set w.toInt.toNat (aI (c - 1)) ∧ L' 7 = (L 7).set kt.toInt.toNat (aI w) ∧ L' 6 = (L 6).set N (aI (t + 1))) := by
  have e1 : (1 : Int32).toInt = 1 := rfl
  have e0 : (0 : Int32).toInt = 0 := rfl
  have ec : (c - 1).toInt = N := by rw [sb_i (by omega) (by omega), e1]; omega
  have eN : (c - 1).toInt.toNat = N := by omega
  have go : ∀ (L2 : Nat → List AV) (h2 : ah_H), AF nd A L2 c kt h2 → UF nd A h h2 → (∀ q, q ≠ 2 → L2 q = L q) → wq (ah_val lim ah_P d 204 54 [some (.inr (.inr (some nd))), some (.inl w), some (.inl (c - (1 : Int32)))] [] h2) (rV fun h' => ∃ L', AF nd A L' c (kt + 1) h' ∧ UF nd A h h' ∧ L' 0 = L 0 ∧ L' 1 = L 1 ∧ L' 5 = L 5 ∧ L' 3 = (L 3).set w.toInt.toNat (aI (c - 1)) ∧ L' 7 = (L 7).set kt.toInt.toNat (aI w) ∧ L' 6 = (L 6).set N (aI (t + 1))) := by
    intro L2 h2 F2 U2 hL
    refine wq_eq q_204_54 (wq_gR F2.1 rfl (AF_s F2 dA (by omega) w0 (by omega) (fun h3 F3 U3 => ?_)))
    have r6 : (uL L2 3 w.toInt.toNat (c - 1) 6)[(c - 1).toInt.toNat]? = some (aI t) := by
      rw [uL_n (by omega), hL 6 (by omega), eN]
      exact ht
    refine wq_gR F3.1 rfl (wq_gR F3.1 rfl (wq_lI (F3.2 6 (by omega)).1 (ix_ge (by omega)) r6 (AF_s F3 dA (by omega) w0 (by omega) (fun h6 F6 U6 => ?_))))
    refine wq_gR F6.1 rfl (wq_gI F6.1 rfl (AF_s F6 dA (by omega) k0 k1 (fun h9 F9 U9 => wq_gI F9.1 rfl (AF_w9 F9 (fun h11 F11 U11 => ?_)))))
    have r6' : (uL (uL (uL L2 3 w.toInt.toNat (c - 1)) 4 w.toInt.toNat t) 7 kt.toInt.toNat w 6)[(c - 1).toInt.toNat]? = some (aI t) := by
      rw [uL_n (by omega), uL_n (by omega)]
      exact r6
    refine wq_gR F11.1 rfl (wq_lI (F11.2 6 (by omega)).1 (ix_ge (by omega)) r6' (AF_s F11 dA (by omega) (by omega) (by omega) (fun h14 F14 U14 => wq_some (rV_i ⟨_, F14, UF_t U2 (UF_t U3 (UF_t U6 (UF_t U9 (UF_t U11 U14)))), ?_, ?_, ?_, ?_, ?_, ?_⟩))))
    · rw [uL_n (by omega), uL_n (by omega), uL_n (by omega), uL_n (by omega)]
      exact hL 0 (by omega)
    · rw [uL_n (by omega), uL_n (by omega), uL_n (by omega), uL_n (by omega)]
      exact hL 1 (by omega)
    · rw [uL_n (by omega), uL_n (by omega), uL_n (by omega), uL_n (by omega)]
      exact hL 5 (by omega)
    · rw [uL_n (by omega), uL_n (by omega), uL_n (by omega), uL_e, hL 3 (by omega)]
    · rw [uL_n (by omega), uL_e, uL_n (by omega), uL_n (by omega), hL 7 (by omega)]
    · rw [uL_e, uL_n (by omega), uL_n (by omega), uL_n (by omega), hL 6 (by omega), eN]
  have e4 : (Nat.toInt32 4000).toInt = 4000 := i32n (by omega)
  refine wq_eq e_Nodes_take (wq_gI F.1 rfl (wq_f (ix_ge (by omega)) (wq_f (ix_ge w0) (wq_t (Int32.lt_iff_toInt_lt.mpr (by omega)) (wq_gI F.1 rfl (wq_gR F.1 rfl (wq_len (F.2 7 (by omega)).1 (by decide) ?_)))))))
  rw [(F.2 7 (by omega)).2.1]
  have r6 : (L 6)[(c - 1).toInt.toNat]? = some (aI t) := by rw [eN]; exact ht
  refine wq_t (Int32.lt_iff_toInt_lt.mpr (by rw [e4]; omega)) (wq_gR F.1 rfl (wq_lI (F.2 6 (by omega)).1 (ix_ge (by omega)) r6 (wq_if _ (fun _ => ?_) (fun _ => go L h F UF_0 (fun _ _ => rfl)))))
  obtain ⟨y, hy⟩ := (F.2 2 (by omega)).2.2 w.toInt.toNat (by omega)
  exact wq_gR F.1 rfl (wq_gR F.1 rfl (wq_lI (F.2 2 (by omega)).1 (ix_ge w0) hy (AF_s F dA (by omega) (by omega) (by omega) (fun h10 F10 U10 => go _ h10 F10 U10 (fun q hq => uL_n hq)))))
/-- while the children are taken -/
def MI (σ : rS) (Ls : Nat → List AV) (N f j k0 : Nat) (c0 kt kj v1 v2 : Int32) (L : Nat → List AV) : Prop := kj.toInt = k0 + (j - f : Nat) ∧ L 0 = (Ls 0).set N (aI v1) ∧ L 1 = (Ls 1).set N (aI v2) ∧ L 5 = (Ls 5).set N (aI kt) ∧ (∃ t : Int32, t.toInt = (j - f : Nat) ∧ (L 6)[N]? = some (aI t)) ∧ (∀ i, i ≠ N → (L 6)[i]? = (Ls 6)[i]?) ∧ (∀ p, p < k0 → (L 7)[p]? = (Ls 7)[p]?) ∧ (∀ s, s < j - f → (L 7)[k0 + s]? = some (aI (ia σ 15 (f + s)))) ∧ (∀ i, i ≠ N → (∀ s, f ≤ s → s < j → i ≠ rt σ s) → (L 3)[i]? = (Ls 3)[i]?) ∧ (∀ s, f ≤ s → s < j → (L 3)[rt σ s]? = some (aI c0)) ∧ (L 3)[N]? = some (aI (-1))
end Ca
