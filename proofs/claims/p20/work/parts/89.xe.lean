/-! NEW THINGS -/
section Xe
variable {lim : Nat × Nat} {d x t : Nat} {h h' h0 : ah_H} {i a b : Int32} {Φ : ah_R → Prop}
theorem wx_wr {K : ah_H → Option ah_R} {p kd k : Nat} {vs : List AV} {v : AV} (ho : h.1 p = some (kd, vs)) (hi : k < vs.length) (c : ∀ h', h'.1 p = some (kd, vs.set k v) → (∀ q, q ≠ p → h'.1 q = h.1 q) → h'.2.1 = h.2.1 ∧ h'.2.2.1 = h.2.2.1 → wq (K h') Φ) : wq (ah_wr h (some p) kd k v K) Φ := wq_wr ho hi (c _ up_eq (fun q hq => up_ne hq rfl) ⟨rfl, rfl⟩)
theorem wx_mk {K : Option Nat → ah_H → Option ah_R} {o : ah_O} {n : Nat} (hl : h.2.1 < lim.1 ∧ h.2.2.1 + n ≤ lim.2) (c : ∀ h', h'.1 h.2.1 = some o → (∀ q, q ≠ h.2.1 → h'.1 q = h.1 q) → h'.2.1 = h.2.1 + 1 ∧ h'.2.2.1 = h.2.2.1 + n → wq (K (some h.2.1) h') Φ) : wq (ah_mk lim h o n K) Φ := wq_mk hl (c _ nw_eq (fun q hq => nw_ne hq rfl) ⟨rfl, rfl⟩)
theorem c_Datum_init {w : WD} (ea : h.1 t = some (1, dW w)) : wq (vc lim (d + 1) m_Datum_init [aR t] h) (rV (U1 t (wI w, 1, wN w, w0 w, w1 w, w2 w, w3 w) h)) := wq_eq e_Datum_init (wq_nn (wx_wr ea (Nat.le_of_ble_eq_true rfl) fun h1 e1 f1 s1 => wq_some (rV_i ⟨e1, f1, s1⟩)))
/-- a thing's first value -/
def wIn (i a : Int32) : WD := (i, if i = 1 then a else 1, (if i = 2 then a else (0 : Int32)).toInt64, 0, 0, 0, 0)
def thI (i a b : Int32) : TS := (wIn i a, wIn i a, 0, 0, if i = 2 then a else 0, if i = 2 then b else 8)
theorem an_0 {z : Int64} : (0 : Int64) &&& z = 0 := by
  apply tb_ext
  intro k hk
  rw [tb_and, tb_0]
  rfl
theorem c_Thing_init (e : h.1 t = some (7, [aI 0, aI 0, aI 0, aI 0, aN, aN, aI 0, aI 0])) (ht : h.2.1 = t + 1) (hr : h.2.1 + 2 ≤ lim.1 ∧ h.2.2.1 + 14 ≤ lim.2) : wq (vc lim (d + 2) m_Thing_init [aR t, aI i, aI a, aI b] h) (rV fun h' => TC t (thI i a b) h' ∧ (∀ q, q < t → h'.1 q = h.1 q) ∧ h'.2.1 = t + 3 ∧ h'.2.2.1 = h.2.2.1 + 14) := by
  have G49 : ∀ (l lo hi : Int32) (h2 : ah_H), l = (if i = 1 then a else 1) → lo = (if i = 2 then a else 0) → hi = (if i = 2 then b else 8) → h2.1 t = some (7, [aI i, aI l, aI lo, aI 0, aN, aN, aI 0, aI 0]) → (∀ q, q ≠ t → h2.1 q = h.1 q) → h2.2.1 = h.2.1 ∧ h2.2.2.1 = h.2.2.1 → wq (ah_val lim ah_P (d + 1) 224 49 [some (aR t), some (aI i), none, none] [aI hi, aR t] h2) (rV fun h' => TC t (thI i a b) h' ∧ (∀ q, q < t → h'.1 q = h.1 q) ∧ h'.2.1 = t + 3 ∧ h'.2.2.1 = h.2.2.1 + 14) := by
    intro l lo hi h2 el elo ehi e2 f2 s2
    refine wq_eq q_224_49 (wx_wr e2 (Nat.le_of_ble_eq_true rfl) fun h3 e3 f3 s3 => wx_mk ⟨by omega, by omega⟩ fun h4 e4 f4 s4 => wq_at e4 (wq_cV (c_Datum_init (w := (0, 0, 0, 0, 0, 0, 0)) e4) fun h5 u5 => ?_))
    have q3 : h3.2.1 = t + 1 := by omega
    rw [q3] at e4 f4 u5 ⊢
    have t5 : h5.1 t = some (7, [aI i, aI l, aI lo, aI hi, aN, aN, aI 0, aI 0]) := (u5.2.1 _ (by omega)).trans ((f4 _ (by omega)).trans e3)
    refine wx_wr t5 (Nat.le_of_ble_eq_true rfl) fun h6 e6 f6 s6 => wx_mk ⟨by have := u5.2.2.1; omega, by have := u5.2.2.2; omega⟩ fun h7 e7 f7 s7 => wq_at e7 (wq_cV (c_Datum_init (w := (0, 0, 0, 0, 0, 0, 0)) e7) fun h8 u8 => ?_)
    have q6 : h6.2.1 = t + 2 := by have := u5.2.2.1; omega
    rw [q6] at e7 f7 u8 ⊢
    have t8 : h8.1 t = some (7, [aI i, aI l, aI lo, aI hi, aR (t + 1), aN, aI 0, aI 0]) := (u8.2.1 _ (by omega)).trans ((f7 _ (by omega)).trans e6)
    refine wx_wr t8 (Nat.le_of_ble_eq_true rfl) fun h9 e9 f9 s9 => ?_
    have n9 : h9.1 (t + 1) = some (1, dW (0, 1, 0, 0, 0, 0, 0)) := (f9 _ (by omega)).trans ((u8.2.1 _ (by omega)).trans ((f7 _ (by omega)).trans ((f6 _ (by omega)).trans u5.1)))
    have l9 : h9.1 (t + 2) = some (1, dW (0, 1, 0, 0, 0, 0, 0)) := (f9 _ (by omega)).trans u8.1
    refine wq_gR e9 rfl (wq_gI e9 rfl (wq_at n9 (wq_cV (c_hold n9) fun h10 u10 => ?_)))
    have t10 : h10.1 t = _ := (u10.2.1 t (by omega)).trans e9
    refine wq_gR t10 rfl (wq_gI t10 rfl (wx_wr u10.1 (Nat.le_of_ble_eq_true rfl) fun h11 e11 f11 s11 => ?_))
    have t11 : h11.1 t = _ := (f11 t (by omega)).trans t10
    have l11 : h11.1 (t + 2) = _ := (f11 _ (by omega)).trans ((u10.2.1 _ (by omega)).trans l9)
    have n11 : h11.1 (t + 1) = some (1, dW (wIn i a)) := by
      rw [e11]
      unfold pHold wIn
      rw [an_0, el, elo]
      rfl
    refine wq_gR t11 rfl (wq_gR t11 rfl (wq_at l11 (wq_cV (c_copy l11 n11 (by omega)) fun h12 u12 => wq_some (rV_i ⟨⟨?_, ?_, ?_⟩, fun q hq => ?_, ?_, ?_⟩))))
    · rw [u12.2.1 t (by omega), t11, el, elo, ehi]
      rfl
    · exact (u12.2.1 _ (by omega)).trans n11
    · exact u12.1
    · exact (u12.2.1 q (by omega)).trans ((f11 q (by omega)).trans ((u10.2.1 q (by omega)).trans ((f9 q (by omega)).trans ((u8.2.1 q (by omega)).trans ((f7 q (by omega)).trans ((f6 q (by omega)).trans ((u5.2.1 q (by omega)).trans ((f4 q (by omega)).trans ((f3 q (by omega)).trans (f2 q (by omega)))))))))))
    · have := u12.2.2.1; have := u10.2.2.1; have := u8.2.2.1; have := u5.2.2.1
      omega
    · have := u12.2.2.2; have := u10.2.2.2; have := u8.2.2.2; have := u5.2.2.2
      omega
  have G20 : ∀ (l : Int32) (h1 : ah_H), l = (if i = 1 then a else 1) → h1.1 t = some (7, [aI i, aI 0, aI 0, aI 0, aN, aN, aI 0, aI 0]) → (∀ q, q ≠ t → h1.1 q = h.1 q) → h1.2.1 = h.2.1 ∧ h1.2.2.1 = h.2.2.1 → wq (ah_val lim ah_P (d + 1) 224 20 [some (aR t), some (aI i), some (aI a), some (aI b)] [aI l, aR t] h1) (rV fun h' => TC t (thI i a b) h' ∧ (∀ q, q < t → h'.1 q = h.1 q) ∧ h'.2.1 = t + 3 ∧ h'.2.2.1 = h.2.2.1 + 14) := by
    intro l h1 el e1 f1 s1
    refine wq_eq q_224_20 (wx_wr e1 (Nat.le_of_ble_eq_true rfl) fun h2 e2 f2 s2 => wq_if _ (fun c2 => wx_wr e2 (Nat.le_of_ble_eq_true rfl) fun h3 e3 f3 s3 => wq_t c2 ?_) (fun c2 => wx_wr e2 (Nat.le_of_ble_eq_true rfl) fun h3 e3 f3 s3 => wq_f c2 ?_))
    · exact G49 l a b h3 el (if_pos c2).symm (if_pos c2).symm e3 (fun q hq => (f3 q hq).trans ((f2 q hq).trans (f1 q hq))) ⟨by omega, by omega⟩
    · exact G49 l 0 8 h3 el (if_neg c2).symm (if_neg c2).symm e3 (fun q hq => (f3 q hq).trans ((f2 q hq).trans (f1 q hq))) ⟨by omega, by omega⟩
  refine wq_eq e_Thing_init (wq_nn (wx_wr e (Nat.le_of_ble_eq_true rfl) fun h1 e1 f1 s1 => wq_if _ (fun c1 => ?_) (fun c1 => ?_)))
  · exact G20 a h1 (if_pos c1).symm e1 f1 s1
  · exact G20 1 h1 (if_neg c1).symm e1 f1 s1
/-- keeping a thing -/
theorem c_keep {th n M : Nat} {P : Nat → Nat} {vs : List AV} (T : TH th n P h) (hl : ∃ ls, h.1 (th + 1) = some (117, ls) ∧ ls.length = M) (hn : n < M) (hM : M ≤ 4000) (et : h.1 t = some (7, vs)) (nt : t ≠ th ∧ t ≠ th + 1) : wq (vc lim (d + 2) m_Things_keep [aR th, aR t] h) (rI fun y h' => y.toInt = n ∧ TH th (n + 1) (upS P n t) h' ∧ (∃ ls, h'.1 (th + 1) = some (117, ls) ∧ ls.length = M) ∧ (∀ q, q ≠ th → q ≠ th + 1 → h'.1 q = h.1 q) ∧ h'.2.1 = h.2.1 ∧ h'.2.2.1 = h.2.2.1) := by
  obtain ⟨rw, ls, c, a1, ⟨a2, rfl⟩, a3, a4, a5, a6⟩ := T
  obtain ⟨ls', b1, b2⟩ := hl
  rw [a3] at b1
  cases b1
  have e1 : (1 : Int32).toInt = 1 := rfl
  have eM : (Nat.toInt32 M).toInt = M := i32n hM
  have ea : (c + 1).toInt = c.toInt + 1 := by rw [ad_i (by omega) (by omega), e1]
  refine wq_eq e_Things_keep (wq_at a1 (wq_cI (P := fun y h' => y = 0 ∧ h' = h) (wq_eq e_Things_isFull (wq_gI a1 rfl (wq_gR a1 rfl (wq_len a3 (by omega) (wq_t (Int32.lt_iff_toInt_lt.mpr (by rw [b2, eM]; omega)) (wq_t (Or.inl rfl) (wq_some (rI_i ⟨rfl, rfl⟩)))))))) ?_))
  rintro _ h1 ⟨rfl, eh⟩
  subst eh
  refine wq_t rfl (wq_gR a1 rfl (wq_gI a1 rfl (wq_sR a3 (by omega) et rfl (ix_ge (by omega)) (by rw [b2]; exact ix_lt (by omega) (by omega)) ?_)))
  have r1 : (ah_up h1 (th + 1) (117, ls.set c.toNatClampNeg (.inr (.inr (some t))))).1 th = some (8, [aR (th + 1), aI c]) := up_ne (by omega) a1
  refine wq_gI r1 rfl (wx_wr r1 (Nat.le_of_ble_eq_true rfl) fun h3 e3 f3 s3 => wq_gI e3 rfl (wq_some (rI_i ⟨?_, ⟨th + 1, ls.set c.toNatClampNeg (aR t), c + 1, e3, ⟨by omega, rfl⟩, (f3 _ (by omega)).trans up_eq, by rw [List.length_set]; omega, by rw [List.length_set]; omega, fun i hi => ?_⟩, ⟨_, (f3 _ (by omega)).trans up_eq, by rw [List.length_set]; exact b2⟩, fun q q1 q2 => (f3 q q1).trans (up_ne q2 rfl), s3⟩)))
  · rw [sb_i (by omega) (by omega), e1]
    omega
  · have ec : c.toNatClampNeg = n := by show c.toInt.toNat = n; omega
    rw [ec]
    by_cases c0 : i = n
    · subst c0
      rw [upS_eq, List.getElem?_set_self (by omega)]
    · rw [upS_ne c0, List.getElem?_set_ne (fun q => c0 q.symm)]
      exact a6 i (by omega)
end Xe
