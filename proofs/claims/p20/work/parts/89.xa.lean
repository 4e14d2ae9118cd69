/-! THE CLASS'S ADD: starts and places -/
section Xa1
variable {lim : Nat × Nat} {d nd mk vr ht ro : Nat} {A : Nat → Nat} {L : Nat → List AV} {c kt v i : Int32} {σ : rS} {h h' : ah_H} {Φ : ah_R → Prop}
theorem n_take2 {w t : Int32} {N : Nat} (F : AF nd A L c kt h) (dA : ∀ i j, i < 8 → j < 8 → A i = A j → i = j) (hc : c.toInt = N + 1) (hN : N < 4000) (w0 : 0 ≤ w.toInt) (w1 : w.toInt < N) (k0 : 0 ≤ kt.toInt) (k1 : kt.toInt < 4000) (ht : (L 6)[N]? = some (aI t)) : wq (vc lim (d + 1) m_Nodes_take [.inr (.inr (some nd)), .inl w] h) (rV fun h' => ∃ L', AF nd A L' c (kt + 1) h' ∧ UF nd A h h' ∧ L' 0 = L 0 ∧ L' 1 = L 1 ∧ L' 5 = L 5 ∧ L' 3 = (L 3).set w.toInt.toNat (aI (c - 1)) ∧ L' 7 = (L 7).set kt.toInt.toNat (aI w) ∧ L' 6 = (L 6).set N (aI (t + 1)) ∧ L' 4 = (L 4).set w.toInt.toNat (aI t) ∧ ∃ y : Int32, (L 2)[w.toInt.toNat]? = some (aI y) ∧ L' 2 = if t = 0 then (L 2).set N (aI y) else L 2) := by
  have e1 : (1 : Int32).toInt = 1 := rfl
  have e0 : (0 : Int32).toInt = 0 := rfl
  have ec : (c - 1).toInt = N := by rw [sb_i (by omega) (by omega), e1]; omega
  have eN : (c - 1).toInt.toNat = N := by omega
  have go : ∀ (L2 : Nat → List AV) (h2 : ah_H), AF nd A L2 c kt h2 → UF nd A h h2 → (∀ q, q ≠ 2 → L2 q = L q) → (∃ y : Int32, (L 2)[w.toInt.toNat]? = some (aI y) ∧ L2 2 = if t = 0 then (L 2).set N (aI y) else L 2) → wq (ah_val lim ah_P d 204 54 [some (.inr (.inr (some nd))), some (.inl w), some (.inl (c - (1 : Int32)))] [] h2) (rV fun h' => ∃ L', AF nd A L' c (kt + 1) h' ∧ UF nd A h h' ∧ L' 0 = L 0 ∧ L' 1 = L 1 ∧ L' 5 = L 5 ∧ L' 3 = (L 3).set w.toInt.toNat (aI (c - 1)) ∧ L' 7 = (L 7).set kt.toInt.toNat (aI w) ∧ L' 6 = (L 6).set N (aI (t + 1)) ∧ L' 4 = (L 4).set w.toInt.toNat (aI t) ∧ ∃ y : Int32, (L 2)[w.toInt.toNat]? = some (aI y) ∧ L' 2 = if t = 0 then (L 2).set N (aI y) else L 2) := by
    intro L2 h2 F2 U2 hL hy2
    refine wq_eq q_204_54 (wq_gR F2.1 rfl (AF_s F2 dA (by omega) w0 (by omega) (fun h3 F3 U3 => ?_)))
    have r6 : (uL L2 3 w.toInt.toNat (c - 1) 6)[(c - 1).toInt.toNat]? = some (aI t) := by
      rw [uL_n (by omega), hL 6 (by omega), eN]
      exact ht
    refine wq_gR F3.1 rfl (wq_gR F3.1 rfl (wq_lI (F3.2 6 (by omega)).1 (ix_ge (by omega)) r6 (AF_s F3 dA (by omega) w0 (by omega) (fun h6 F6 U6 => ?_))))
    refine wq_gR F6.1 rfl (wq_gI F6.1 rfl (AF_s F6 dA (by omega) k0 k1 (fun h9 F9 U9 => wq_gI F9.1 rfl (AF_w9 F9 (fun h11 F11 U11 => ?_)))))
    have r6' : (uL (uL (uL L2 3 w.toInt.toNat (c - 1)) 4 w.toInt.toNat t) 7 kt.toInt.toNat w 6)[(c - 1).toInt.toNat]? = some (aI t) := by
      rw [uL_n (by omega), uL_n (by omega)]
      exact r6
    refine wq_gR F11.1 rfl (wq_lI (F11.2 6 (by omega)).1 (ix_ge (by omega)) r6' (AF_s F11 dA (by omega) (by omega) (by omega) (fun h14 F14 U14 => wq_some (rV_i ⟨_, F14, UF_t U2 (UF_t U3 (UF_t U6 (UF_t U9 (UF_t U11 U14)))), ?_, ?_, ?_, ?_, ?_, ?_, ?_, ?_⟩))))
    · rw [uL_n (by omega), uL_n (by omega), uL_n (by omega), uL_n (by omega)]
      exact hL 0 (by omega)
    · rw [uL_n (by omega), uL_n (by omega), uL_n (by omega), uL_n (by omega)]
      exact hL 1 (by omega)
    · rw [uL_n (by omega), uL_n (by omega), uL_n (by omega), uL_n (by omega)]
      exact hL 5 (by omega)
    · rw [uL_n (by omega), uL_n (by omega), uL_n (by omega), uL_e, hL 3 (by omega)]
    · rw [uL_n (by omega), uL_e, uL_n (by omega), uL_n (by omega), hL 7 (by omega)]
    · rw [uL_e, uL_n (by omega), uL_n (by omega), uL_n (by omega), hL 6 (by omega), eN]
    · rw [uL_n (by omega), uL_n (by omega), uL_e, uL_n (by omega), hL 4 (by omega)]
    · rw [uL_n (by omega), uL_n (by omega), uL_n (by omega), uL_n (by omega)]
      exact hy2
  have e4 : (Nat.toInt32 4000).toInt = 4000 := i32n (by omega)
  refine wq_eq e_Nodes_take (wq_gI F.1 rfl (wq_f (ix_ge (by omega)) (wq_f (ix_ge w0) (wq_t (Int32.lt_iff_toInt_lt.mpr (by omega)) (wq_gI F.1 rfl (wq_gR F.1 rfl (wq_len (F.2 7 (by omega)).1 (by decide) ?_)))))))
  rw [(F.2 7 (by omega)).2.1]
  have r6 : (L 6)[(c - 1).toInt.toNat]? = some (aI t) := by rw [eN]; exact ht
  refine wq_t (Int32.lt_iff_toInt_lt.mpr (by rw [e4]; omega)) (wq_gR F.1 rfl (wq_lI (F.2 6 (by omega)).1 (ix_ge (by omega)) r6 (wq_if _ (fun t0 => ?_) (fun t0 => ?_))))
  · obtain ⟨y, hy⟩ := (F.2 2 (by omega)).2.2 w.toInt.toNat (by omega)
    exact wq_gR F.1 rfl (wq_gR F.1 rfl (wq_lI (F.2 2 (by omega)).1 (ix_ge w0) hy (AF_s F dA (by omega) (by omega) (by omega) (fun h10 F10 U10 => go _ h10 F10 U10 (fun q hq => uL_n hq) ⟨y, hy, by rw [uL_e, if_pos t0, eN]⟩))))
  · obtain ⟨y, hy⟩ := (F.2 2 (by omega)).2.2 w.toInt.toNat (by omega)
    exact go L h F UF_0 (fun _ _ => rfl) ⟨y, hy, (if_neg t0).symm⟩
end Xa1
def MJ (σ : rS) (Ls : Nat → List AV) (N f j : Nat) (L : Nat → List AV) : Prop := (∀ i, i ≠ N → (L 2)[i]? = (Ls 2)[i]?) ∧ (L 2)[N]? = (if j = f then some (aI (σ.1 19)) else (Ls 2)[rt σ f]?) ∧ (∀ i, i ≠ N → (∀ s, f ≤ s → s < j → i ≠ rt σ s) → (L 4)[i]? = (Ls 4)[i]?) ∧ (∀ s, f ≤ s → s < j → ∃ y : Int32, y.toInt = (s - f : Nat) ∧ (L 4)[rt σ s]? = some (aI y))
def MK2 (σ : rS) (A : Nat → Nat) (Ls : Nat → List AV) (N R n : Nat) (h' : ah_H) : Prop := ∃ L : Nat → List AV, h'.1 (A 2) = some (100, L 2) ∧ h'.1 (A 4) = some (100, L 4) ∧ MJ σ Ls N (R - n) R L ∧ ∀ i, i < 4000 → ∃ y, (L 4)[i]? = some (aI y)
section Xa2
variable {lim : Nat × Nat} {d nd mk vr ht ro : Nat} {A : Nat → Nat} {Ls : Nat → List AV} {c kt v i v1 v2 v3 v4 : Int32} {σ : rS} {h0 h h' : ah_H} {N R n k0 : Nat}
theorem mk_loop3 (D : DI σ) (hR : (σ.1 21).toInt = R) (hN : (σ.1 19).toInt = N) (hN2 : N < 4000) (hn : n ≤ R) (hk : kt.toInt = k0) (hk2 : k0 + R = N) (hv4 : v4.toInt = (R - n : Nat)) (em : h0.1 mk = some (4, [aR nd, aR vr, aR ht, aR ro, aI (σ.1 21)])) (Hh : HR ht σ h0) (Oo : OR ro σ h0) (ds : dsj A ht ro) (n1 : mk ≠ nd ∧ ht ≠ nd ∧ ro ≠ nd) (n2 : mk ≠ ht ∧ mk ≠ ro) (n3 : ∀ j, j < 8 → mk ≠ A j) : ∀ (M j : Nat) (h : ah_H) (L : Nat → List AV) (v6 v7 kj : Int32), R - j < M → v7.toInt = j → R - n ≤ j → j ≤ R → v6.toInt = mz σ (R - n) (j - (R - n)) → AF nd A L (σ.1 19 + 1) kj h → UF nd A h0 h → MI σ Ls N (R - n) j k0 (σ.1 19) kt kj v1 v2 L → MJ σ Ls N (R - n) j L → wq (ah_val lim ah_P (d + 1) 187 59 [some (.inr (.inr (some mk))), none, none, none, some (.inl v4), some (.inl (σ.1 19)), some (.inl v6), some (.inl v7)] [] h) (rI fun x h' => x = σ.1 19 ∧ MK σ nd mk vr ht ro A Ls N R n k0 kt v1 v2 h0 h' ∧ MK2 σ A Ls N R n h') := by
  have e1 : (1 : Int32).toInt = 1 := rfl
  obtain ⟨dA, dB, dC⟩ := ds
  obtain ⟨Lh, a1, a2, a3⟩ := Hh
  obtain ⟨Lr, b1, b2, b3⟩ := Oo
  have RN : R ≤ N := by omega
  have ec : (σ.1 19 + 1).toInt = N + 1 := by rw [ad_i (by omega) (by omega), e1]; omega
  have ec2 : σ.1 19 + 1 - 1 = σ.1 19 := Int32.toInt_inj.mp (by rw [sb_i (by omega) (by omega), ec, e1]; omega)
  intro M
  induction M with
  | zero => intros; omega
  | succ M ih =>
    intro j h L v6 v7 kj hM h7 hj1 hj2 h6 F U I J
    have em' := (U mk n1.1 n3).trans em
    have a1' := (U ht n1.2.1 (fun j hj => (dB j hj).1.symm)).trans a1
    have b1' := (U ro n1.2.2 (fun j hj => (dB j hj).2.symm)).trans b1
    refine wq_eq q_187_59 (wq_gI em' rfl (wq_if _ (fun c1 => ?_) (fun c1 => ?_)))
    · have c1 := lt_i c1
      have jR : j < R := by omega
      obtain ⟨r1, r2, -⟩ := DI_r D hR hN jR
      obtain ⟨i1, i2, i3, i4, ⟨t, i5, i5'⟩, i6, i7, i8, i9, i10, i11⟩ := I
      have e7 : v7.toInt.toNat = j := by omega
      have rd : Lr[v7.toInt.toNat]? = some (aI (ia σ 15 j)) := by rw [e7]; exact b3 j (by omega)
      refine wq_gR em' rfl (wq_gR em' rfl (wq_lI b1' (ix_ge (by omega)) rd (wq_at F.1 (wq_cV (n_take2 F dA ec hN2 (by omega) (by omega) (by omega) (by omega) i5') ?_))))
      rintro h5 ⟨L5, F5, U5, q0, q1, q5, q3, q7, q6, q4, yy, hyy, q2⟩
      obtain ⟨j1, j2, j3, j4⟩ := J
      have U5' := UF_t U U5
      have em5 := (U5' mk n1.1 n3).trans em
      have a5 := (U5' ht n1.2.1 (fun j hj => (dB j hj).1.symm)).trans a1
      have b5 := (U5' ro n1.2.2 (fun j hj => (dB j hj).2.symm)).trans b1
      refine wq_gR em5 rfl (wq_lI b5 (ix_ge (by omega)) rd (wq_at em5 (wq_cI (n_heightOf em5 ⟨Lh, a5, a2, a3⟩ (by omega) (by omega) (by omega)) ?_)))
      rintro y h8 ⟨e, rfl⟩
      cases e
      have ej : (v7 + (1 : Int32)).toInt = (j + 1 : Nat) := by rw [ad_i (by omega) (by omega), e1]; omega
      have et : j + 1 - (R - n) = (j - (R - n)) + 1 := by omega
      have er : R - n + (j - (R - n)) = j := by omega
      have ert : (ia σ 15 j).toInt.toNat = rt σ j := rfl
      have ek : (kj + 1).toInt = kj.toInt + 1 := by rw [ad_i (by omega) (by omega), e1]
      have e6 : (L 6).length = 4000 := (F.2 6 (by omega)).2.1
      have e7l : (L 7).length = 4000 := (F.2 7 (by omega)).2.1
      have e3l : (L 3).length = 4000 := (F.2 3 (by omega)).2.1
      refine ih (j + 1) h5 L5 _ _ _ (by omega) ej (by omega) (by omega) ?_ F5 U5' ⟨by omega, q0.trans i2, q1.trans i3, q5.trans i4, ⟨t + 1, ?_, ?_⟩, fun i hi => ?_, fun p hp => ?_, fun s hs => ?_, fun i hi hs => ?_, fun s h1 h2 => ?_, ?_⟩ ⟨fun i hi => ?_, ?_, fun i hi hs => ?_, fun s h1 h2 => ?_⟩
      · rw [et]
        show (if v6 < ia σ 14 (ia σ 15 j).toInt.toNat then ia σ 14 (ia σ 15 j).toInt.toNat else v6).toInt = (if mz σ (R - n) (j - (R - n)) < (ia σ 14 (rt σ (R - n + (j - (R - n))))).toInt then (ia σ 14 (rt σ (R - n + (j - (R - n))))).toInt else mz σ (R - n) (j - (R - n)))
        rw [er, ert]
        by_cases g : v6 < ia σ 14 (rt σ j)
        · rw [if_pos g, if_pos (by have := lt_i g; omega)]
        · rw [if_neg g, if_neg (by have := nlt_i g; omega)]
          exact h6
      · rw [ad_i (by omega) (by omega), e1]
        omega
      · rw [q6]
        exact List.getElem?_set_self (by omega)
      · rw [q6, List.getElem?_set_ne (fun e => hi e.symm)]
        exact i6 i hi
      · rw [q7, List.getElem?_set_ne (by omega)]
        exact i7 p hp
      · rw [q7]
        by_cases g : s = j - (R - n)
        · rw [g, er, show k0 + (j - (R - n)) = kj.toInt.toNat by omega]
          exact List.getElem?_set_self (by omega)
        · rw [List.getElem?_set_ne (by omega)]
          exact i8 s (by omega)
      · rw [q3, List.getElem?_set_ne (by rw [ert]; exact (hs j (by omega) (by omega)).symm)]
        exact i9 i hi (fun s h1 h2 => hs s h1 (by omega))
      · rw [q3, ec2, ert]
        by_cases g : s = j
        · rw [g]
          exact List.getElem?_set_self (by omega)
        · rw [List.getElem?_set_ne (rt_ne D hR hN jR (by omega) (fun e => g e.symm))]
          exact i10 s h1 (by omega)
      · rw [q3, ert, List.getElem?_set_ne (by omega)]
        exact i11
      · rw [q2]
        by_cases t0 : t = 0
        · rw [if_pos t0, List.getElem?_set_ne (fun e => hi e.symm)]
          exact j1 i hi
        · rw [if_neg t0]
          exact j1 i hi
      · have e20 : (0 : Int32).toInt = 0 := rfl
        rw [q2, if_neg (show ¬ j + 1 = R - n by omega)]
        by_cases t0 : t = 0
        · have : j = R - n := by rw [t0, e20] at i5; omega
          rw [if_pos t0, List.getElem?_set_self (by rw [(F.2 2 (by omega)).2.1]; omega), ← hyy, ert, j1 _ (by omega), this]
        · rw [if_neg t0]
          have : ¬ j = R - n := fun e => t0 (Int32.toInt_inj.mp (by rw [e20]; omega))
          rw [if_neg this] at j2
          exact j2
      · rw [q4, List.getElem?_set_ne (by rw [ert]; exact (hs j (by omega) (by omega)).symm)]
        exact j3 i hi (fun s h1 h2 => hs s h1 (by omega))
      · rw [q4, ert]
        by_cases g : s = j
        · rw [g]
          exact ⟨t, i5, List.getElem?_set_self (by rw [(F.2 4 (by omega)).2.1]; omega)⟩
        · rw [List.getElem?_set_ne (rt_ne D hR hN jR (by omega) (fun e => g e.symm))]
          exact j4 s h1 (by omega)
    · have c1 := nlt_i c1
      have jR : j = R := by omega
      subst jR
      have ef : j - (j - n) = n := by omega
      have mb := mz_b D hR hN hN2 (f := j - n) n (by omega)
      rw [ef] at h6
      refine wq_wr em' (Nat.le_of_ble_eq_true rfl) (wq_f (ix_ge (by omega)) ?_)
      have x1 : ht ≠ mk := fun e => n2.1 e.symm
      have x2 : ro ≠ mk := fun e => n2.2 e.symm
      have e4 : (Nat.toInt32 4000).toInt = 4000 := i32n (by omega)
      refine wq_gR up_eq rfl (wq_len (up_ne x1 a1') (by decide) ?_)
      rw [a2]
      refine wq_t (Int32.lt_iff_toInt_lt.mpr (by rw [e4]; omega)) (wq_gR up_eq rfl (wq_len (up_ne x2 b1') (by decide) ?_))
      rw [b2]
      refine wq_t (Int32.lt_iff_toInt_lt.mpr (by rw [e4]; omega)) (wq_gR up_eq rfl (wq_sI (up_ne x1 a1') (ix_ge (by omega)) (by rw [a2]; exact ix_lt (by omega) (by omega)) ?_))
      refine wq_gR (up_ne n2.1 up_eq) rfl (wq_sI (up_ne dC.symm (up_ne x2 b1')) (ix_ge (by omega)) (by rw [b2]; exact ix_lt (by omega) (by omega)) ?_)
      refine wq_gI (up_ne n2.2 (up_ne n2.1 up_eq)) rfl (wq_wr (up_ne n2.2 (up_ne n2.1 up_eq)) (Nat.le_of_ble_eq_true rfl) (wq_some (rI_i ⟨rfl, ⟨⟨_, ?_, up_eq⟩, ⟨L, kj, ⟨?_, fun q hq => ⟨?_, (F.2 q hq).2⟩⟩, I⟩, ⟨_, up_ne x1 (up_ne dC up_eq), ?_, fun k hk => ?_, v6 + 1, ?_, ?_⟩, ⟨_, up_ne x2 up_eq, ?_, fun k hk => ?_, ?_⟩, fun q m1 m2 m3 m4 m5 => ?_⟩, ⟨L, ?_, ?_, J, (F.2 4 (by omega)).2.2⟩⟩)))
      · rw [ad_i (by omega) (by omega), e1]
        omega
      · exact up_ne n1.1.symm (up_ne n1.2.2.symm (up_ne n1.2.1.symm (up_ne n1.1.symm F.1)))
      · exact up_ne (n3 q hq).symm (up_ne (dB q hq).2 (up_ne (dB q hq).1 (up_ne (n3 q hq).symm (F.2 q hq).1)))
      · rw [List.length_set]
        exact a2
      · rw [List.getElem?_set_ne (by show (σ.1 19).toInt.toNat ≠ k; omega)]
        exact a3 k (by omega)
      · rw [show N = (σ.1 19).toNatClampNeg by show N = (σ.1 19).toInt.toNat; omega]
        exact List.getElem?_set_self (by rw [a2]; exact ix_lt (by omega) (by omega))
      · rw [ad_i (by omega) (by omega), e1]
        omega
      · rw [List.length_set]
        exact b2
      · rw [List.getElem?_set_ne (by show v4.toInt.toNat ≠ k; omega)]
        exact b3 k (by omega)
      · rw [show j - n = v4.toNatClampNeg by show j - n = v4.toInt.toNat; omega]
        exact List.getElem?_set_self (by rw [b2]; exact ix_lt (by omega) (by omega))
      · exact up_ne m2 (up_ne m4 (up_ne m3 (up_ne m2 (U q m1 m5))))
      · exact up_ne (n3 2 (by omega)).symm (up_ne (dB 2 (by omega)).2 (up_ne (dB 2 (by omega)).1 (up_ne (n3 2 (by omega)).symm (F.2 2 (by omega)).1)))
      · exact up_ne (n3 4 (by omega)).symm (up_ne (dB 4 (by omega)).2 (up_ne (dB 4 (by omega)).1 (up_ne (n3 4 (by omega)).symm (F.2 4 (by omega)).1)))
theorem n_make2 (D : DI σ) (hR : (σ.1 21).toInt = R) (hN : (σ.1 19).toInt = N) (hN2 : N < 4000) (hv : v3.toInt = n) (hn : n ≤ R) (hk : kt.toInt = k0) (hk2 : k0 + R = N) (em : h.1 mk = some (4, [aR nd, aR vr, aR ht, aR ro, aI (σ.1 21)])) (Hh : HR ht σ h) (Oo : OR ro σ h) (F : AF nd A Ls (σ.1 19) kt h) (ds : dsj A ht ro) (n1 : mk ≠ nd ∧ ht ≠ nd ∧ ro ≠ nd) (n2 : mk ≠ ht ∧ mk ≠ ro) (n3 : ∀ j, j < 8 → mk ≠ A j) : wq (vc lim (d + 3) m_Maker_make [.inr (.inr (some mk)), .inl v1, .inl v2, .inl v3] h) (rI fun x h' => x = σ.1 19 ∧ MK σ nd mk vr ht ro A Ls N R n k0 kt v1 v2 h h' ∧ MK2 σ A Ls N R n h') := by
  have d1 := D.2.1
  have e0 : (0 : Int32).toInt = 0 := rfl
  have es : (σ.1 21 - v3).toInt = (R - n : Nat) := by rw [sb_i (by omega) (by omega)]; omega
  obtain ⟨Lr, b1, b2, b3⟩ := id Oo
  have e4 : (Nat.toInt32 4000).toInt = 4000 := i32n (by omega)
  refine wq_eq e_Maker_make (wq_gI em rfl (wq_f (ix_ge (by omega)) (wq_f (ix_ge (by omega)) (wq_gI em rfl (wq_gR em rfl (wq_len b1 (by decide) ?_))))))
  rw [b2]
  refine wq_t (Int32.le_iff_toInt_le.mpr (by rw [e4]; omega)) (wq_gR em rfl (wq_at F.1 (wq_cI (n_isFull F) ?_)))
  rintro x h6 ⟨e, bf⟩
  cases e
  refine wq_if _ (fun _ => ?_) (fun g => absurd (show (σ.1 19).toInt < 4000 by omega) (bo_p bf g))
  refine wq_gR em rfl (wq_at F.1 (wq_cI (n_begin F ds.1 (by omega) (by omega)) ?_))
  rintro x h9 ⟨rfl, F9, U9⟩
  have eN : (σ.1 19).toInt.toNat = N := by omega
  rw [eN] at F9
  refine mk_loop3 D hR hN hN2 hn hk hk2 es em Hh Oo ds n1 n2 n3 (n + 1) (R - n) h9 _ _ _ _ (by omega) es (Nat.le_refl _) (by omega) ?_ F9 U9 ⟨by omega, ?_, ?_, ?_, ⟨0, by rw [e0]; omega, ?_⟩, fun i hi => ?_, fun p hp => ?_, fun s hs => absurd hs (by omega), fun i hi _ => ?_, fun s h1 h2 => absurd h2 (by omega), ?_⟩ ⟨fun i hi => ?_, ?_, fun i hi _ => ?_, fun s h1 h2 => absurd h2 (by omega)⟩
  · rw [show R - n - (R - n) = 0 by omega]
    rfl
  · unfold bgL
    rw [uL_n (by omega), uL_n (by omega), uL_n (by omega), uL_n (by omega), uL_n (by omega), uL_n (by omega), uL_e]
  · unfold bgL
    rw [uL_n (by omega), uL_n (by omega), uL_n (by omega), uL_n (by omega), uL_n (by omega), uL_e, uL_n (by omega)]
  · unfold bgL
    rw [uL_n (by omega), uL_e, uL_n (by omega), uL_n (by omega), uL_n (by omega), uL_n (by omega), uL_n (by omega)]
  · unfold bgL
    refine uL_s ?_
    rw [uL_n (by omega), uL_n (by omega), uL_n (by omega), uL_n (by omega), uL_n (by omega), uL_n (by omega), (F.2 6 (by omega)).2.1]
    omega
  · unfold bgL
    rw [uL_i hi, uL_i hi, uL_i hi, uL_i hi, uL_i hi, uL_i hi, uL_i hi]
  · unfold bgL
    rw [uL_n (by omega), uL_n (by omega), uL_n (by omega), uL_n (by omega), uL_n (by omega), uL_n (by omega), uL_n (by omega)]
  · unfold bgL
    rw [uL_i hi, uL_i hi, uL_i hi, uL_i hi, uL_i hi, uL_i hi, uL_i hi]
  · unfold bgL
    rw [uL_n (by omega), uL_n (by omega), uL_n (by omega)]
    refine uL_s ?_
    rw [uL_n (by omega), uL_n (by omega), uL_n (by omega), (F.2 3 (by omega)).2.1]
    omega
  · unfold bgL
    rw [uL_i hi, uL_i hi, uL_i hi, uL_i hi, uL_i hi, uL_i hi, uL_i hi]
  · unfold bgL
    rw [if_pos rfl, uL_n (by omega), uL_n (by omega), uL_n (by omega), uL_n (by omega)]
    refine uL_s ?_
    rw [uL_n (by omega), uL_n (by omega), (F.2 2 (by omega)).2.1]
    omega
  · unfold bgL
    rw [uL_i hi, uL_i hi, uL_i hi, uL_i hi, uL_i hi, uL_i hi, uL_i hi]
end Xa2
