/-! THE REFERENCE'S CALLS: signals, variables, what is asked -/
section Eq0
variable {σ σ' : rS}
theorem ck_eq (h : ∀ j i, 10 ≤ j → j ≤ 15 → ia σ' j i = ia σ j i) (k : Int) : ∀ j c, ck σ' k j c = ck σ k j c := by
  intro j
  have e1 : ∀ i, ia σ' 12 i = ia σ 12 i := fun i => h 12 i (by omega) (by omega)
  have e2 : ∀ i, ia σ' 13 i = ia σ 13 i := fun i => h 13 i (by omega) (by omega)
  have e3 : ∀ i, ia σ' 14 i = ia σ 14 i := fun i => h 14 i (by omega) (by omega)
  induction j with
  | zero => intro c; rfl
  | succ j ih => intro c; simp only [ck, e1, e2, e3, ih]
theorem DI_eq (h : ∀ j i, 10 ≤ j → j ≤ 15 → ia σ' j i = ia σ j i) (h1 : σ'.1 19 = σ.1 19) (h2 : σ'.1 21 = σ.1 21) (D : DI σ) : DI σ' := by
  have e1 : ∀ i, ia σ' 10 i = ia σ 10 i := fun i => h 10 i (by omega) (by omega)
  have e2 : ∀ i, ia σ' 11 i = ia σ 11 i := fun i => h 11 i (by omega) (by omega)
  have e3 : ∀ i, ia σ' 13 i = ia σ 13 i := fun i => h 13 i (by omega) (by omega)
  have e4 : ∀ i, ia σ' 14 i = ia σ 14 i := fun i => h 14 i (by omega) (by omega)
  have e5 : ∀ i, ia σ' 15 i = ia σ 15 i := fun i => h 15 i (by omega) (by omega)
  have e6 := ck_eq h
  have e7 : ∀ i, ia σ' 12 i = ia σ 12 i := fun i => h 12 i (by omega) (by omega)
  simp only [DI, e7, e1, e2, e3, e4, e5, e6, h1, h2]
  exact D
/-- nothing but code, numbers and values of objects has changed -/
def EQ (σ σ' : rS) : Prop := (∀ j i, 8 ≤ j → ia σ' j i = ia σ j i) ∧ ∀ k, (k = 8 ∨ k = 19 ∨ k = 21 ∨ k = 22 ∨ k = 23 ∨ k = 46 ∨ k = 47) → σ'.1 k = σ.1 k
theorem EQ_0 : EQ σ σ := ⟨fun _ _ _ => rfl, fun _ _ => rfl⟩
theorem RI_q (R : RI σ) (O : OKV σ') (E : EQ σ σ') (N : NI σ') : RI σ' := by
  obtain ⟨-, D, A, -, P⟩ := R
  obtain ⟨E1, E2⟩ := E
  refine ⟨O, DI_eq (fun j i h1 h2 => E1 j i (by omega)) (E2 19 (by omega)) (E2 21 (by omega)) D, ?_, N, fun a h0 h1 => ?_⟩
  · unfold AI
    rw [E2 46 (by omega), E2 47 (by omega)]
    exact ⟨A.1, A.2.1, A.2.2.1, A.2.2.2.1, fun i hi => by rw [E1 37 i (by omega)]; exact A.2.2.2.2 i hi⟩
  · rw [E2 23 (by omega)] at h1
    have e22 : (at39 σ' a).1 22 = (at39 σ a).1 22 := by rw [sG_ne (by omega), sG_ne (by omega)]; exact E2 22 (by omega)
    refine PQ_of ⟨by rw [e22]; exact Int.le_refl _, fun j i h1 _ _ _ => E1 j i h1, by rw [sG_eq, sG_eq], E1 18 _ (by omega), E1 19 _ (by omega)⟩ (E1 17 _ (by omega)) (E1 20 _ (by omega)) (E1 24 _ (by omega)) (E1 26 _ (by omega)) (fun i _ => ⟨E1 27 _ (by omega), E1 28 _ (by omega)⟩) (P a h0 h1)
/-- the signals are as they were -/
def SS (σ σ' : rS) : Prop := σ'.1 7 = σ.1 7 ∧ ∀ j i, j ≤ 3 → i < 512 → ia σ' j i = ia σ j i
/-- what is being made is as it was -/
def TG (σ σ' : rS) : Prop := (∀ k, (k = 8 ∨ k = 9 ∨ k = 19 ∨ k = 21 ∨ k = 22 ∨ k = 23) → σ'.1 k = σ.1 k) ∧ (∀ j i, 8 ≤ j → j ≤ 19 → ia σ' j i = ia σ j i) ∧ (∀ j i, j ≤ 3 → 1024 ≤ i → i < 9344 → ia σ' j i = ia σ j i)
def SG (σ σ' : rS) : Prop := σ'.1 7 = σ.1 7 ∧ (∀ j i, j ≤ 3 → i < 512 → ia σ' j i = ia σ j i) ∧ TG σ σ'
theorem SG_s {σ σ' : rS} (g : SG σ σ') : SS σ σ' := ⟨g.1, g.2.1⟩
theorem SG_0 : SG σ σ := ⟨rfl, fun _ _ _ _ => rfl, fun _ _ => rfl, fun _ _ _ _ => rfl, fun _ _ _ _ _ => rfl⟩
theorem RI_c {x : Int32} (R : RI σ) : RI (sG σ 0 x) := by
  refine RI_q R R.1 ⟨fun _ _ _ => rfl, fun k hk => sG_ne (by omega)⟩ ?_
  obtain ⟨-, -, -, N, -⟩ := R
  refine ⟨?_, DV_e (sG_ne (by omega)) (fun _ _ _ _ _ => rfl) N.1 N.2⟩
  unfold NJ
  rw [sG_ne (by omega), sG_ne (by omega), sG_ne (by omega), sG_ne (by omega), sG_ne (by omega)]
  exact N.1
theorem SG_c {x : Int32} : SG σ (sG σ 0 x) := ⟨sG_ne (by omega), fun _ _ _ _ => rfl, fun k hk => sG_ne (by omega), fun _ _ _ _ => rfl, fun _ _ _ _ _ => rfl⟩
theorem TG_e {x : Int32} (h1 : σ'.1 = (sG σ 0 x).1) (h2 : ∀ j i, j ≠ 5 → ia σ' j i = ia (sG σ 0 x) j i) : TG σ σ' := ⟨fun k hk => by rw [h1]; exact sG_ne (by omega), fun j i _ _ => h2 j i (by omega), fun j i _ _ _ => h2 j i (by omega)⟩
/-- what goes on within arrays of objects -/
theorem RI_e {x : Int32} (R : RI σ) (O : OKV σ') (h1 : σ'.1 = (sG σ 0 x).1) (h2 : ∀ j i, 6 ≤ j → ia σ' j i = ia σ j i) (h3 : ∀ j i, j ≤ 3 → 9216 ≤ i → i < 9344 → ia σ' j i = ia σ j i) : RI σ' := by
  refine RI_q (RI_c (x := x) R) O ⟨fun j i hj => (h2 j i (by omega)), fun k _ => by rw [h1]⟩ ?_
  obtain ⟨-, -, -, N, -⟩ := RI_c (x := x) R
  refine ⟨?_, DV_e (σ := sG σ 0 x) (by rw [h1]) h3 N.1 N.2⟩
  unfold NJ
  rw [h1]
  exact N.1
end Eq0
def rP (m : Nat) (σ : rS) (b h' : ah_H) : Prop := ∃ σ', RH m σ' b h' ∧ RI σ' ∧ SG σ σ'
section Sm
variable {lim : Nat × Nat} {m d : Nat} {σ σ0 : rS} {b h : ah_H} {v1 v2 v3 v4 : Int32}
theorem wc {K1 : ah_H → Option ah_R} {Φ : ah_R → Prop} {x : Int32} (H : RH m σ b h) (k : ∀ h', RH m (sG σ 0 x) b h' → wq (K1 h') Φ) : wq (ah_wr h (some m) 11 0 (.inl x) K1) Φ := rw_I H (by omega) rfl k
theorem rc {K1 : Int32 → Option ah_R} {Φ : ah_R → Prop} {x : Int32} (H : RH m (sG σ 0 x) b h) (k : wq (K1 x) Φ) : wq (ah_gI h (some m) 11 0 K1) Φ := by
  refine wq_gI H.1 rfl ?_
  rw [sG_eq]
  exact k
/-- an object is made -/
def mP (σ σ' : rS) (o : Nat) (c a e : Int32) : Prop := OKV σ' ∧ σ'.1 = σ.1 ∧ (∀ j i, 6 ≤ j → ia σ' j i = ia σ j i) ∧ (∀ j i, j ≤ 3 → i ≠ o → ia σ' j i = ia σ j i) ∧ ia σ' 0 o = c ∧ ia σ' 1 o = (if c = 1 then a else 0) ∧ ia σ' 2 o = a ∧ ia σ' 3 o = e
def okK (c a e : Int32) : Prop := (c.toInt = 2 ∧ a.toInt ≤ e.toInt ∧ -2147483647 ≤ a.toInt ∧ -2147483647 ≤ e.toInt) ∨ (c.toInt = 0 ∧ a.toInt = 0 ∧ e.toInt = 0) ∨ (c.toInt = 1 ∧ 1 ≤ a.toInt ∧ a.toInt ≤ 64 ∧ e.toInt = 0)
theorem v_noKind {d : Nat} {h : ah_H} {v0 : Int32} {v1 : Int32} {v2 : Int32}   : wq (vc lim (d + 1) m_Ref_noKind [.inl v0, .inl v1, .inl v2] h) (rI fun x h' => h' = h ∧ ((x = 0 ∨ x = 1) ∧ ((x = 0 → okK v0 v1 v2) ∧ (x = 1 → ¬ okK v0 v1 v2)))) := by
  refine wq_eq e_Ref_noKind ?_
  refine wq_if _ (fun c1 => ?_) (fun c1 => ?_)
  · refine wq_if _ (fun c2 => ?_) (fun c2 => ?_)
    · refine wq_if _ (fun c3 => ?_) (fun c3 => ?_)
      · exact wq_t (Or.inr rfl) (wq_some (rI_i ⟨rfl, ⟨(Or.inr rfl), ⟨fun h => absurd h (by decide), fun _ => (by have := congrArg Int32.toInt c1; have := le_i c2; have := lt_i c3; have : (-2147483647 : Int32).toInt = -2147483647 := rfl; have : (2 : Int32).toInt = 2 := rfl; unfold okK; omega)⟩⟩⟩))
      · refine wq_if _ (fun c4 => ?_) (fun c4 => ?_)
        · exact wq_t (Or.inr rfl) (wq_some (rI_i ⟨rfl, ⟨(Or.inr rfl), ⟨fun h => absurd h (by decide), fun _ => (by have := congrArg Int32.toInt c1; have := le_i c2; have := nlt_i c3; have := lt_i c4; have : (-2147483647 : Int32).toInt = -2147483647 := rfl; have : (2 : Int32).toInt = 2 := rfl; unfold okK; omega)⟩⟩⟩))
        · exact wq_t (Or.inl rfl) (wq_some (rI_i ⟨rfl, ⟨(Or.inl rfl), ⟨fun _ => (by have := congrArg Int32.toInt c1; have := le_i c2; have := nlt_i c3; have := nlt_i c4; have : (-2147483647 : Int32).toInt = -2147483647 := rfl; have : (2 : Int32).toInt = 2 := rfl; unfold okK; omega), fun h => absurd h (by decide)⟩⟩⟩))
    · exact wq_t (Or.inr rfl) (wq_some (rI_i ⟨rfl, ⟨(Or.inr rfl), ⟨fun h => absurd h (by decide), fun _ => (by have := congrArg Int32.toInt c1; have := nle_i c2; have : (2 : Int32).toInt = 2 := rfl; unfold okK; omega)⟩⟩⟩))
  · refine wq_if _ (fun c5 => ?_) (fun c5 => ?_)
    · refine wq_if _ (fun c6 => ?_) (fun c6 => ?_)
      · refine wq_if _ (fun c7 => ?_) (fun c7 => ?_)
        · exact wq_t (Or.inl rfl) (wq_some (rI_i ⟨rfl, ⟨(Or.inl rfl), ⟨fun _ => (by have := ne_i c1; have := congrArg Int32.toInt c5; have := congrArg Int32.toInt c6; have := congrArg Int32.toInt c7; have : (0 : Int32).toInt = 0 := rfl; have : (2 : Int32).toInt = 2 := rfl; unfold okK; omega), fun h => absurd h (by decide)⟩⟩⟩))
        · exact wq_t (Or.inr rfl) (wq_some (rI_i ⟨rfl, ⟨(Or.inr rfl), ⟨fun h => absurd h (by decide), fun _ => (by have := ne_i c1; have := congrArg Int32.toInt c5; have := congrArg Int32.toInt c6; have := ne_i c7; have : (0 : Int32).toInt = 0 := rfl; have : (2 : Int32).toInt = 2 := rfl; unfold okK; omega)⟩⟩⟩))
      · exact wq_t (Or.inr rfl) (wq_some (rI_i ⟨rfl, ⟨(Or.inr rfl), ⟨fun h => absurd h (by decide), fun _ => (by have := ne_i c1; have := congrArg Int32.toInt c5; have := ne_i c6; have : (0 : Int32).toInt = 0 := rfl; have : (2 : Int32).toInt = 2 := rfl; unfold okK; omega)⟩⟩⟩))
    · refine wq_if _ (fun c8 => ?_) (fun c8 => ?_)
      · refine wq_if _ (fun c9 => ?_) (fun c9 => ?_)
        · exact wq_t (Or.inr rfl) (wq_some (rI_i ⟨rfl, ⟨(Or.inr rfl), ⟨fun h => absurd h (by decide), fun _ => (by have := ne_i c1; have := ne_i c5; have := congrArg Int32.toInt c8; have := lt_i c9; have : (0 : Int32).toInt = 0 := rfl; have : (1 : Int32).toInt = 1 := rfl; have : (2 : Int32).toInt = 2 := rfl; unfold okK; omega)⟩⟩⟩))
        · refine wq_if _ (fun c10 => ?_) (fun c10 => ?_)
          · refine wq_if _ (fun c11 => ?_) (fun c11 => ?_)
            · exact wq_t (Or.inl rfl) (wq_some (rI_i ⟨rfl, ⟨(Or.inl rfl), ⟨fun _ => (by have := ne_i c1; have := ne_i c5; have := congrArg Int32.toInt c8; have := nlt_i c9; have := le_i c10; have := congrArg Int32.toInt c11; have : (0 : Int32).toInt = 0 := rfl; have : (1 : Int32).toInt = 1 := rfl; have : (2 : Int32).toInt = 2 := rfl; have : (64 : Int32).toInt = 64 := rfl; unfold okK; omega), fun h => absurd h (by decide)⟩⟩⟩))
            · exact wq_t (Or.inr rfl) (wq_some (rI_i ⟨rfl, ⟨(Or.inr rfl), ⟨fun h => absurd h (by decide), fun _ => (by have := ne_i c1; have := ne_i c5; have := congrArg Int32.toInt c8; have := nlt_i c9; have := le_i c10; have := ne_i c11; have : (0 : Int32).toInt = 0 := rfl; have : (1 : Int32).toInt = 1 := rfl; have : (2 : Int32).toInt = 2 := rfl; have : (64 : Int32).toInt = 64 := rfl; unfold okK; omega)⟩⟩⟩))
          · exact wq_t (Or.inr rfl) (wq_some (rI_i ⟨rfl, ⟨(Or.inr rfl), ⟨fun h => absurd h (by decide), fun _ => (by have := ne_i c1; have := ne_i c5; have := congrArg Int32.toInt c8; have := nlt_i c9; have := nle_i c10; have : (0 : Int32).toInt = 0 := rfl; have : (1 : Int32).toInt = 1 := rfl; have : (2 : Int32).toInt = 2 := rfl; have : (64 : Int32).toInt = 64 := rfl; unfold okK; omega)⟩⟩⟩))
      · exact wq_t (Or.inr rfl) (wq_some (rI_i ⟨rfl, ⟨(Or.inr rfl), ⟨fun h => absurd h (by decide), fun _ => (by have := ne_i c1; have := ne_i c5; have := ne_i c8; have : (0 : Int32).toInt = 0 := rfl; have : (1 : Int32).toInt = 1 := rfl; have : (2 : Int32).toInt = 2 := rfl; unfold okK; omega)⟩⟩⟩))
theorem mk_loop {v1 : Int32} (h0 : 0 ≤ v1.toInt) (h1 : v1.toInt < 10100) : ∀ (M : Nat) (h : ah_H) (σ : rS) (v5 : Int32), (64 - v5.toInt).toNat < M → 0 ≤ v5.toInt → v5.toInt ≤ 64 → RH m σ b h → OKV σ → wq (ah_val lim ah_P (d + 1) 27 60 [some (.inr (.inr (some m))), some (.inl v1), none, none, none, some (.inl v5)] [] h) (rV fun h' => ∃ σ', RH m σ' b h' ∧ OKV σ' ∧ σ'.1 = σ.1 ∧ ∀ j i, j ≠ 5 → ia σ' j i = ia σ j i) := by
  intro M
  induction M with
  | zero => intros; omega
  | succ M ih =>
    intro h σ v5 hM h5 h6 H O
    refine wq_eq q_27_60 (wq_if _ (fun c => ?_) (fun c => wq_some (rV_i ⟨σ, H, O, rfl, fun _ _ _ => rfl⟩)))
    have c := lt_i c
    have e64 : (64 : Int32).toInt = 64 := rfl
    have e1 : (v5 + (1 : Int32)).toInt = v5.toInt + 1 := ad_i (by show _ ≤ v5.toInt + 1; omega) (by show v5.toInt + 1 ≤ _; omega)
    refine wq_at H.1 (wq_cV (f_setElement H h0 h1 h5 (by omega)) ?_)
    rintro h2 ⟨i, x, hi, H2⟩
    refine wq_mono (ih h2 (sI σ 5 i x) _ (by omega) (by omega) (by omega) H2 (okv_n O (by omega) (by omega))) ?_
    rintro z ⟨h', rfl, σ', a1, a2, a3, a4⟩
    exact ⟨h', rfl, σ', a1, a2, a3, fun j i' hj => (a4 j i' hj).trans (sI_nj hj)⟩
theorem b8_2 {x : Int32} (h0 : 0 ≤ x.toInt) (h1 : x.toInt ≤ 127) : x.toInt8.toInt32.toInt8.toInt32 = x := by rw [b8_i h0 h1, b8_i h0 h1]
theorem mk_23 {s2 : Int32} (H : RH m σ b h) (O : OKV σ) (h0 : 0 ≤ v1.toInt) (h1 : v1.toInt < 10100) (g0 : 0 ≤ s2.toInt) (g1 : s2.toInt ≤ 64) (e0 : ia σ 0 v1.toInt.toNat = v2) (hs : s2 = if v2 = 1 then v3 else 0) : wq (ah_val lim ah_P (d + 1) 27 23 [some (.inr (.inr (some m))), some (.inl v1), some (.inl v2), some (.inl v3), some (.inl v4), none] [.inl s2, .inl v1, .inr (.inr (some (m + 1 + 1)))] h) (rV fun h' => ∃ σ', RH m σ' b h' ∧ mP σ σ' v1.toInt.toNat v2 v3 v4) := by
  refine wq_eq q_27_23 ?_
  rw [b8_2 g0 (by omega)]
  refine rs_I H (by omega) rfl rfl h0 h1 (fun h2 H2 => wq_gR H2.1 rfl (rs_I H2 (by omega) rfl rfl h0 (by show _ < (10100 : Int); omega) (fun h3 H3 => wq_gR H3.1 rfl (rs_I H3 (by omega) rfl rfl h0 (by show _ < (10100 : Int); omega) (fun h4 H4 => wq_gR H4.1 rfl ?_)))))
  have O4 : OKV (sI (sI (sI σ 1 v1.toInt.toNat s2) 2 v1.toInt.toNat v3) 3 v1.toInt.toNat v4) := okv_n (okv_n (okv_1 O g0 g1) (by omega) (by omega)) (by omega) (by omega)
  have fin : ∀ (z : Int64) (h5 : ah_H), RH m (sJ (sI (sI (sI σ 1 v1.toInt.toNat s2) 2 v1.toInt.toNat v3) 3 v1.toInt.toNat v4) 4 v1.toInt.toNat z) b h5 → wq (ah_val lim ah_P (d + 1) 27 60 [some (.inr (.inr (some m))), some (.inl v1), none, none, none, some (.inl (0 : Int32))] [] h5) (rV fun h' => ∃ σ', RH m σ' b h' ∧ mP σ σ' v1.toInt.toNat v2 v3 v4) := by
    intro z h5 H5
    refine wq_mono (mk_loop h0 h1 65 h5 _ 0 (by decide) (by decide) (by decide) H5 O4) ?_
    rintro w ⟨h', rfl, σ', a1, a2, a3, a4⟩
    have a4' : ∀ j i, j ≠ 5 → ia σ' j i = ia (sI (sI (sI σ 1 v1.toInt.toNat s2) 2 v1.toInt.toNat v3) 3 v1.toInt.toNat v4) j i := a4
    refine ⟨h', rfl, σ', a1, a2, a3, fun j i hj => ?_, fun j i hj hi => ?_, ?_, ?_, ?_, ?_⟩
    · rw [a4' j i (by omega), sI_nj (by omega), sI_nj (by omega), sI_nj (by omega)]
    · rw [a4' j i (by omega), sI_ni hi, sI_ni hi, sI_ni hi]
    · rw [a4' 0 _ (by omega), sI_nj (by omega), sI_nj (by omega), sI_nj (by omega)]
      exact e0
    · rw [a4' 1 _ (by omega), sI_nj (by omega), sI_nj (by omega), sI_eq]
      exact hs
    · rw [a4' 2 _ (by omega), sI_nj (by omega), sI_eq]
    · rw [a4' 3 _ (by omega), sI_eq]
  exact wq_if _ (fun _ => rs_J H4 (by omega) rfl h0 (by show _ < (10100 : Int); omega) (fun h5 H5 => fin _ h5 H5)) (fun _ => rs_J H4 (by omega) rfl h0 (by show _ < (10100 : Int); omega) (fun h5 H5 => fin _ h5 H5))
theorem f_make (H : RH m σ b h) (O : OKV σ) (h0 : 0 ≤ v1.toInt) (h1 : v1.toInt < 10100) (c0 : 0 ≤ v2.toInt) (c1 : v2.toInt ≤ 2) (c2 : v2.toInt = 1 → 0 ≤ v3.toInt ∧ v3.toInt ≤ 64) : wq (vc lim (d + 2) m_Ref_make [.inr (.inr (some m)), .inl v1, .inl v2, .inl v3, .inl v4] h) (rV fun h' => ∃ σ', RH m σ' b h' ∧ mP σ σ' v1.toInt.toNat v2 v3 v4) := by
  refine wq_eq q_27_0 (wq_gR H.1 rfl ?_)
  rw [b8_2 c0 (by omega)]
  refine rs_I H (by omega) rfl rfl h0 h1 (fun h2 H2 => wq_gR H2.1 rfl ?_)
  have O2 := okv_0 (k := v1.toInt.toNat) O c0 c1
  have tr : ∀ {σ' : rS}, mP (sI σ 0 v1.toInt.toNat v2) σ' v1.toInt.toNat v2 v3 v4 → mP σ σ' v1.toInt.toNat v2 v3 v4 := fun ⟨p1, p2, p3, p4, p5⟩ => ⟨p1, p2, fun j i hj => (p3 j i hj).trans (sI_nj (by omega)), fun j i hj hi => (p4 j i hj hi).trans (sI_ni hi), p5⟩
  refine wq_if _ (fun c => ?_) (fun c => ?_)
  · have z := c2 (by rw [c]; rfl)
    refine wq_mono (mk_23 H2 O2 h0 h1 z.1 z.2 sI_eq (by rw [if_pos c])) ?_
    rintro w ⟨h', rfl, σ', a1, a2⟩
    exact ⟨h', rfl, σ', a1, tr a2⟩
  · refine wq_mono (mk_23 H2 O2 h0 h1 (by decide) (by decide) sI_eq (by rw [if_neg c])) ?_
    rintro w ⟨h', rfl, σ', a1, a2⟩
    exact ⟨h', rfl, σ', a1, tr a2⟩
theorem okK_c {c a e : Int32} (h : okK c a e) : 0 ≤ c.toInt ∧ c.toInt ≤ 2 ∧ (c.toInt = 1 → 0 ≤ a.toInt ∧ a.toInt ≤ 64) := by unfold okK at h; omega
/-- how signal ends: code k, answer x -/
def sP (σ : rS) (c a e x : Int32) (σ' : rS) : Prop := RI σ' ∧ ((σ'.1 0 = 1 ∧ ¬ okK c a e ∧ SG σ σ') ∨ (σ'.1 0 = 2 ∧ okK c a e ∧ (σ.1 7).toInt = 512 ∧ SG σ σ') ∨ (σ'.1 0 = 0 ∧ okK c a e ∧ (σ.1 7).toInt < 512 ∧ x = σ.1 7 ∧ (σ'.1 7).toInt = (σ.1 7).toInt + 1 ∧ (∀ j i, j ≤ 3 → i < 512 → i ≠ (σ.1 7).toInt.toNat → ia σ' j i = ia σ j i) ∧ ia σ' 0 (σ.1 7).toInt.toNat = c ∧ ia σ' 1 (σ.1 7).toInt.toNat = (if c = 1 then a else 0) ∧ ia σ' 2 (σ.1 7).toInt.toNat = a ∧ ia σ' 3 (σ.1 7).toInt.toNat = e ∧ TG σ σ'))
theorem v_signal (H : RH m σ b h) (R : RI σ) : wq (vc lim (d + 3) m_Ref_signal [.inr (.inr (some m)), .inl v1, .inl v2, .inl v3] h) (rI fun x h' => ∃ σ', RH m σ' b h' ∧ sP σ v1 v2 v3 x σ') := by
  obtain ⟨O, D, A, N, P⟩ := id R
  obtain ⟨n1, n2, -⟩ := id N.1
  have e512 : (512 : Int32).toInt = 512 := rfl
  have e1 : (1 : Int32).toInt = 1 := rfl
  refine wq_eq e_Ref_signal (wq_cI v_noKind ?_)
  rintro y h1 ⟨rfl, hy, hk, hnk⟩
  refine wq_if _ (fun c => ?_) (fun c => ?_)
  · have ok := hk c
    obtain ⟨k0, k1, k2⟩ := okK_c ok
    refine wq_gI H.1 rfl (wq_if _ (fun c2 => ?_) (fun c2 => ?_))
    · refine wq_eq q_29_29 (wc H (fun h2 H2 => rc H2 (wq_f (by decide) (wq_some (rI_i ⟨_, H2, RI_c R, Or.inr (Or.inl ⟨sG_eq, ok, ?_, SG_c⟩)⟩)))))
      rw [c2]
      rfl
    · have c2 : ¬ (σ.1 7).toInt = 512 := fun e => c2 (i32_of e rfl)
      refine wq_eq q_29_29 (wc H (fun h2 H2 => rc H2 (wq_t (by decide) (wq_gI H2.1 rfl ?_))))
      rw [sG_ne (by omega)]
      refine wq_at H2.1 (wq_cV (f_make H2 O n1 (by omega) k0 k1 k2) ?_)
      rintro h3 ⟨σ3, H3, p1, p2, p3, p4, p5, p6, p7, p8⟩
      refine wq_gI H3.1 rfl ?_
      rw [p2, sG_ne (by omega)]
      have e5 : ((512 : Int32) + σ.1 7).toInt = 512 + (σ.1 7).toInt := by rw [ad_i (by omega) (by omega), e512]
      refine wq_at H3.1 (wq_cV (f_make H3 p1 (by omega) (by omega) k0 k1 k2) ?_)
      rintro h4 ⟨σ4, H4, r1, r2, r3, r4, -⟩
      refine wq_gI H4.1 rfl ?_
      have e7 : σ4.1 7 = σ.1 7 := by rw [r2, p2, sG_ne (by omega)]
      rw [e7]
      refine rw_I H4 (by omega) rfl (fun h5 H5 => wq_gI H5.1 rfl ?_)
      rw [sG_eq]
      have e8 : (σ.1 7 + (1 : Int32)).toInt = (σ.1 7).toInt + 1 := by rw [ad_i (by omega) (by omega), e1]
      have r2' : σ4.1 = (sG σ 0 0).1 := by rw [r2, p2]
      have j6 : ∀ j i, 6 ≤ j → ia σ4 j i = ia σ j i := fun j i hj => (r3 j i hj).trans (p3 j i hj)
      have R4 : RI σ4 := RI_e R r1 r2' j6 (fun j i hj h1 h2 => (r4 j i hj (by omega)).trans (p4 j i hj (by omega)))
      refine wq_some (rI_i ⟨_, H5, ?_, Or.inr (Or.inr ⟨?_, ok, by omega, ?_, ?_, fun j i hj hi hn => ?_, ?_, ?_, ?_, ?_, ?_⟩)⟩)
      · refine RI_q R4 r1 ⟨fun _ _ _ => rfl, fun k hk => sG_ne (by omega)⟩ ?_
        obtain ⟨-, -, -, ⟨N4, V4⟩, -⟩ := R4
        refine ⟨?_, DV_e (sG_ne (by omega)) (fun _ _ _ _ _ => rfl) N4 V4⟩
        unfold NJ at N4 ⊢
        rw [e7] at N4
        rw [sG_eq, sG_ne (by omega), sG_ne (by omega), sG_ne (by omega), sG_ne (by omega), e8]
        omega
      · rw [sG_ne (by omega), r2']
        exact sG_eq
      · exact Int32.toInt_inj.mp (by rw [sb_i (by omega) (by omega), e8, e1]; omega)
      · rw [sG_eq]
        exact e8
      · show ia σ4 j i = ia σ j i
        rw [r4 j i hj (by omega), p4 j i hj hn]
      · show ia σ4 0 _ = _
        rw [r4 0 _ (by omega) (by omega)]
        exact p5
      · show ia σ4 1 _ = _
        rw [r4 1 _ (by omega) (by omega)]
        exact p6
      · show ia σ4 2 _ = _
        rw [r4 2 _ (by omega) (by omega)]
        exact p7
      · show ia σ4 3 _ = _
        rw [r4 3 _ (by omega) (by omega)]
        exact p8
      · refine ⟨fun k hk => ?_, fun j i a c => j6 j i (by omega), fun j i a c e => ?_⟩
        · rw [sG_ne (by omega), r2', sG_ne (by omega)]
        · show ia σ4 j i = ia σ j i
          rw [r4 j i a (by omega), p4 j i a (by omega)]
  · have nok : ¬ okK v1 v2 v3 := hnk (hy.resolve_left c)
    exact wq_eq q_29_29 (wc H (fun h2 H2 => rc H2 (wq_f (by decide) (wq_some (rI_i ⟨_, H2, RI_c R, Or.inl ⟨sG_eq, nok, SG_c⟩⟩)))))
/-- one variable more -/
def vaR (σ σ' : rS) (c a e : Int32) : Prop := (σ'.1 9).toInt = (σ.1 9).toInt + 1 ∧ (∀ k, (k = 8 ∨ k = 19 ∨ k = 21 ∨ k = 22 ∨ k = 23) → σ'.1 k = σ.1 k) ∧ (∀ j i, 8 ≤ j → j ≤ 19 → ia σ' j i = ia σ j i) ∧ (∀ j i, j ≤ 3 → 1024 ≤ i → i < 9344 → i ≠ 9216 + (σ.1 9).toInt.toNat → ia σ' j i = ia σ j i) ∧ ia σ' 0 (9216 + (σ.1 9).toInt.toNat) = c ∧ ia σ' 1 (9216 + (σ.1 9).toInt.toNat) = (if c = 1 then a else 0) ∧ ia σ' 2 (9216 + (σ.1 9).toInt.toNat) = a ∧ ia σ' 3 (9216 + (σ.1 9).toInt.toNat) = e
def vP (σ : rS) (c a e x : Int32) (σ' : rS) : Prop := RI σ' ∧ ((σ'.1 0 = 1 ∧ ¬ okK c a e ∧ SG σ σ') ∨ (σ'.1 0 = 2 ∧ okK c a e ∧ (σ.1 9).toInt = 128 ∧ SG σ σ') ∨ (σ'.1 0 = 0 ∧ okK c a e ∧ (σ.1 9).toInt < 128 ∧ x = σ.1 9 ∧ SS σ σ' ∧ vaR σ σ' c a e))
theorem v_variable (H : RH m σ b h) (R : RI σ) : wq (vc lim (d + 3) m_Ref_variable [.inr (.inr (some m)), .inl v1, .inl v2, .inl v3] h) (rI fun x h' => ∃ σ', RH m σ' b h' ∧ vP σ v1 v2 v3 x σ') := by
  obtain ⟨O, D, A, N, P⟩ := id R
  obtain ⟨n1, n2, n3, n4, n5, n6, -⟩ := id N.1
  have e1 : (1 : Int32).toInt = 1 := rfl
  have e9 : (9216 : Int32).toInt = 9216 := rfl
  refine wq_eq e_Ref_variable (wq_cI v_noKind ?_)
  rintro y h1 ⟨rfl, hy, hk, hnk⟩
  refine wq_if _ (fun c => ?_) (fun c => ?_)
  · have ok := hk c
    obtain ⟨k0, k1, k2⟩ := okK_c ok
    refine wq_gI H.1 rfl (wq_if _ (fun c2 => ?_) (fun c2 => ?_))
    · refine wq_eq q_30_29 (wc H (fun h2 H2 => rc H2 (wq_f (by decide) (wq_some (rI_i ⟨_, H2, RI_c R, Or.inr (Or.inl ⟨sG_eq, ok, ?_, SG_c⟩)⟩)))))
      rw [c2]
      rfl
    · have c2 : ¬ (σ.1 9).toInt = 128 := fun e => c2 (i32_of e rfl)
      refine wq_eq q_30_29 (wc H (fun h2 H2 => rc H2 (wq_t (by decide) (wq_gI H2.1 rfl ?_))))
      rw [sG_ne (by omega)]
      have e5 : ((9216 : Int32) + σ.1 9).toInt = 9216 + (σ.1 9).toInt := by rw [ad_i (by omega) (by omega), e9]
      refine wq_at H2.1 (wq_cV (f_make H2 O (by omega) (by omega) k0 k1 k2) ?_)
      rintro h3 ⟨σ3, H3, p1, p2, p3, p4, p5, p6, p7, p8⟩
      refine wq_gI H3.1 rfl ?_
      have e7 : σ3.1 9 = σ.1 9 := by rw [p2, sG_ne (by omega)]
      rw [e7]
      refine rw_I H3 (by omega) rfl (fun h5 H5 => wq_gI H5.1 rfl (wq_some (rI_i ⟨_, H5, ?_, Or.inr (Or.inr ⟨?_, ok, by omega, ?_, ?_, ?_⟩)⟩)))
      · have R3 : RI σ3 := RI_q R p1 ⟨fun j i hj => p3 j i (by omega), fun k hk => by rw [p2, sG_ne (by omega)]⟩ ⟨by
          have N1 := N.1
          unfold NJ at N1 ⊢
          rw [p2, sG_ne (by omega), sG_ne (by omega), sG_ne (by omega), sG_ne (by omega), sG_ne (by omega)]
          exact N1, fun v hv => by
          rw [e7] at hv
          rw [p4 0 _ (by omega) (by omega), p4 2 _ (by omega) (by omega)]
          exact N.2 v hv⟩
        refine RI_q R3 p1 ⟨fun _ _ _ => rfl, fun k hk => sG_ne (by omega)⟩ ?_
        obtain ⟨-, -, -, ⟨N4, V4⟩, -⟩ := R3
        have e8 : (σ.1 9 + (1 : Int32)).toInt = (σ.1 9).toInt + 1 := by rw [ad_i (by omega) (by omega), e1]
        refine ⟨?_, fun v hv => ?_⟩
        · unfold NJ at N4 ⊢
          rw [e7] at N4
          rw [sG_eq, sG_ne (by omega), sG_ne (by omega), sG_ne (by omega), sG_ne (by omega), e8]
          omega
        · rw [sG_eq, e8] at hv
          show (ia σ3 0 (9216 + v)).toInt = 1 → 0 ≤ (ia σ3 2 (9216 + v)).toInt ∧ (ia σ3 2 (9216 + v)).toInt ≤ 64
          by_cases e : (v : Int) = (σ.1 9).toInt
          · have e' : 9216 + v = ((9216 : Int32) + σ.1 9).toInt.toNat := by omega
            rw [e', p5, p7]
            exact k2
          · exact V4 v (by rw [e7]; omega)
      · rw [sG_ne (by omega), p2]
        exact sG_eq
      · have e8 : (σ.1 9 + (1 : Int32)).toInt = (σ.1 9).toInt + 1 := by rw [ad_i (by omega) (by omega), e1]
        rw [sG_eq]
        exact Int32.toInt_inj.mp (by rw [sb_i (by omega) (by omega), e8, e1]; omega)
      · refine ⟨by rw [sG_ne (by omega), p2, sG_ne (by omega)], fun j i hj hi => ?_⟩
        show ia σ3 j i = ia σ j i
        rw [p4 j i hj (by omega)]
      · have e6 : ((9216 : Int32) + σ.1 9).toInt.toNat = 9216 + (σ.1 9).toInt.toNat := by omega
        rw [e6] at p5 p6 p7 p8
        refine ⟨?_, fun k hk => ?_, fun j i h1 h2 => p3 j i (by omega), fun j i h1 h2 h3 h4 => p4 j i h1 (by omega), p5, p6, p7, p8⟩
        · rw [sG_eq, ad_i (by omega) (by omega), e1]
        · rw [sG_ne (by omega), p2, sG_ne (by omega)]
  · have nok : ¬ okK v1 v2 v3 := hnk (hy.resolve_left c)
    exact wq_eq q_30_29 (wc H (fun h2 H2 => rc H2 (wq_f (by decide) (wq_some (rI_i ⟨_, H2, RI_c R, Or.inl ⟨sG_eq, nok, SG_c⟩⟩)))))
/-- elements -/
theorem f_lacks (H : RH m σ b h) (O : OKV σ) (h0 : 0 ≤ v1.toInt) (h1 : v1.toInt < 10100) : wq (vc lim (d + 1) m_Ref_lacks [.inr (.inr (some m)), .inl v1, .inl v2] h) (rI fun x h' => h' = h ∧ (x = 0 ∨ x = 1) ∧ (x = 0 ↔ (0 ≤ v2.toInt ∧ v2.toInt < (if ia σ 0 v1.toInt.toNat = 1 then (ia σ 1 v1.toInt.toNat).toInt else 1)))) := by
  have e1 : (1 : Int32).toInt = 1 := rfl
  have e0 : (0 : Int32).toInt = 0 := rfl
  have ok : ∀ (P : Prop) (h' : ah_H), h' = h → P → wq (if (0 : Int32) = 0 ∨ (0 : Int32) = 1 then some ((.inl (some (.inl (0 : Int32))), h') : ah_R) else none) (rI fun x h' => h' = h ∧ (x = 0 ∨ x = 1) ∧ (x = 0 ↔ P)) := fun P h' e p => wq_t (Or.inl rfl) (wq_some (rI_i ⟨e, Or.inl rfl, fun _ => p, fun _ => rfl⟩))
  have no : ∀ (P : Prop) (h' : ah_H), h' = h → ¬ P → wq (if (1 : Int32) = 0 ∨ (1 : Int32) = 1 then some ((.inl (some (.inl (1 : Int32))), h') : ah_R) else none) (rI fun x h' => h' = h ∧ (x = 0 ∨ x = 1) ∧ (x = 0 ↔ P)) := fun P h' e p => wq_t (Or.inr rfl) (wq_some (rI_i ⟨e, Or.inr rfl, fun e => absurd e (by decide), fun q => absurd q p⟩))
  refine wq_eq e_Ref_lacks (wq_if _ (fun c => no _ h rfl (fun q => by have := lt_i c; omega)) (fun c => ?_))
  have c := nlt_i c
  refine wq_gR H.1 rfl (ra_I H (by omega) rfl rfl h0 h1 (wq_if _ (fun c2 => ?_) (fun c2 => ?_)))
  · rw [if_pos c2]
    exact wq_gR H.1 rfl (ra_I H (by omega) rfl rfl h0 h1 (wq_if _ (fun c3 => ok _ h rfl ⟨by omega, lt_i c3⟩) (fun c3 => no _ h rfl (fun q => by have := nlt_i c3; omega))))
  · rw [if_neg c2]
    exact wq_if _ (fun c3 => ok _ h rfl ⟨by omega, by have := lt_i c3; omega⟩) (fun c3 => no _ h rfl (fun q => by have := nlt_i c3; omega))
theorem lk_64 (O : OKV σ) {o : Nat} (ho : o < 10100) {k : Int} (h : 0 ≤ k ∧ k < (if ia σ 0 o = 1 then (ia σ 1 o).toInt else 1)) : 0 ≤ k ∧ k < 64 := by
  have := (O o ho).2.2.2
  by_cases c : ia σ 0 o = 1
  · rw [if_pos c] at h
    omega
  · rw [if_neg c] at h
    omega
def canP (σ : rS) (o : Nat) (v : Int) : Prop := if ia σ 0 o = 2 then (ia σ 2 o).toInt ≤ v ∧ v ≤ (ia σ 3 o).toInt else 0 ≤ v ∧ v ≤ 8
theorem f_cannot (H : RH m σ b h) (h0 : 0 ≤ v1.toInt) (h1 : v1.toInt < 10100) : wq (vc lim (d + 1) m_Ref_cannot [.inr (.inr (some m)), .inl v1, .inl v2] h) (rI fun x h' => h' = h ∧ (x = 0 ∨ x = 1) ∧ (x = 0 ↔ canP σ v1.toInt.toNat v2.toInt)) := by
  have e8 : (8 : Int32).toInt = 8 := rfl
  have e0 : (0 : Int32).toInt = 0 := rfl
  have ok : ∀ (P : Prop) (h' : ah_H), h' = h → P → wq (if (0 : Int32) = 0 ∨ (0 : Int32) = 1 then some ((.inl (some (.inl (0 : Int32))), h') : ah_R) else none) (rI fun x h' => h' = h ∧ (x = 0 ∨ x = 1) ∧ (x = 0 ↔ P)) := fun P h' e p => wq_t (Or.inl rfl) (wq_some (rI_i ⟨e, Or.inl rfl, fun _ => p, fun _ => rfl⟩))
  have no : ∀ (P : Prop) (h' : ah_H), h' = h → ¬ P → wq (if (1 : Int32) = 0 ∨ (1 : Int32) = 1 then some ((.inl (some (.inl (1 : Int32))), h') : ah_R) else none) (rI fun x h' => h' = h ∧ (x = 0 ∨ x = 1) ∧ (x = 0 ↔ P)) := fun P h' e p => wq_t (Or.inr rfl) (wq_some (rI_i ⟨e, Or.inr rfl, fun e => absurd e (by decide), fun q => absurd q p⟩))
  unfold canP
  refine wq_eq e_Ref_cannot (wq_gR H.1 rfl (ra_I H (by omega) rfl rfl h0 h1 (wq_if _ (fun c2 => ?_) (fun c2 => ?_))))
  · rw [if_pos c2]
    refine wq_gR H.1 rfl (ra_I H (by omega) rfl rfl h0 (by show _ < (10100 : Int); omega) (wq_if _ (fun c => no _ h rfl (fun q => by have := lt_i c; omega)) (fun c => ?_)))
    have c := nlt_i c
    exact wq_gR H.1 rfl (ra_I H (by omega) rfl rfl h0 (by show _ < (10100 : Int); omega) (wq_if _ (fun c3 => ok _ h rfl ⟨c, le_i c3⟩) (fun c3 => no _ h rfl (fun q => by have := nle_i c3; omega))))
  · rw [if_neg c2]
    refine wq_if _ (fun c => no _ h rfl (fun q => by have := lt_i c; omega)) (fun c => ?_)
    have c := nlt_i c
    exact wq_if _ (fun c3 => ok _ h rfl ⟨by omega, by have := le_i c3; omega⟩) (fun c3 => no _ h rfl (fun q => by have := nle_i c3; omega))
theorem f_told (H : RH m σ b h) (O : OKV σ) (h0 : 0 ≤ v1.toInt) (h1 : v1.toInt < 10100) (k0 : 0 ≤ v2.toInt) (k1 : v2.toInt < 64) : wq (vc lim (d + 2) m_Ref_told [.inr (.inr (some m)), .inl v1, .inl v2] h) (rI fun x h' => h' = h) := by
  refine wq_eq e_Ref_told (wq_gR H.1 rfl (ra_I H (by omega) rfl rfl h0 h1 (wq_if _ (fun c2 => ?_) (fun c2 => ?_))))
  · refine wq_at H.1 (wq_cI (v_element H O (sm_0 (Q := QR 1000)) h0 h1 k0 k1) ?_)
    rintro y h2 ⟨rfl, -⟩
    exact wq_some (rI_i rfl)
  · exact wq_gR H.1 rfl (ra_J H (by omega) rfl h0 h1 (wq_some (rI_i rfl)))
theorem f_become (H : RH m σ b h) (O : OKV σ) (h0 : 0 ≤ v1.toInt) (h1 : v1.toInt < 10100) (k0 : 0 ≤ v2.toInt) (k1 : v2.toInt < 64) : wq (vc lim (d + 2) m_Ref_become [.inr (.inr (some m)), .inl v1, .inl v2, .inl v3] h) (rV fun h' => ∃ σ', RH m σ' b h' ∧ OKV σ' ∧ σ'.1 = σ.1 ∧ ∀ j i, j ≠ 5 → ia σ' j i = ia σ j i) := by
  refine wq_eq e_Ref_become (wq_gR H.1 rfl (ra_I H (by omega) rfl rfl h0 h1 (wq_if _ (fun c2 => ?_) (fun c2 => ?_))))
  · refine wq_at H.1 (wq_cV (f_setElement H h0 h1 k0 k1) ?_)
    rintro h2 ⟨i, x, -, H2⟩
    exact wq_some (rV_i ⟨_, H2, okv_n O (by omega) (by omega), rfl, fun j i hj => sI_nj hj⟩)
  · exact wq_gR H.1 rfl (rs_J H (by omega) rfl h0 h1 (fun h2 H2 => wq_some (rV_i ⟨_, H2, O, rfl, fun _ _ _ => rfl⟩)))
theorem rP_c {x : Int32} {h' : ah_H} (H : RH m (sG σ 0 x) b h') (R : RI σ) : rP m σ b h' := ⟨_, H, RI_c R, SG_c⟩
theorem rP_e {x : Int32} {σ' : rS} {h' : ah_H} (H : RH m σ' b h') (R : RI σ) (O : OKV σ') (h1 : σ'.1 = (sG σ 0 x).1) (h2 : ∀ j i, j ≠ 5 → ia σ' j i = ia (sG σ 0 x) j i) : rP m σ b h' := by
  refine ⟨σ', H, RI_e R O h1 (fun j i hj => h2 j i (by omega)) (fun j i hj _ _ => h2 j i (by omega)), ?_, fun j i hj hi => h2 j i (by omega), TG_e h1 h2⟩
  rw [h1]
  exact sG_ne (by omega)
/-- code of put: k -/
def ptP (σ : rS) (s k v x : Int32) : Prop := (x = 1 ∧ ¬ (0 ≤ s.toInt ∧ s.toInt < (σ.1 7).toInt ∧ 0 ≤ k.toInt ∧ k.toInt < (if ia σ 0 s.toInt.toNat = 1 then (ia σ 1 s.toInt.toNat).toInt else 1))) ∨ ((0 ≤ s.toInt ∧ s.toInt < (σ.1 7).toInt ∧ 0 ≤ k.toInt ∧ k.toInt < (if ia σ 0 s.toInt.toNat = 1 then (ia σ 1 s.toInt.toNat).toInt else 1)) ∧ ((x = 2 ∧ ¬ canP σ s.toInt.toNat v.toInt) ∨ (x = 0 ∧ canP σ s.toInt.toNat v.toInt)))
theorem v_put (H : RH m σ b h) (R : RI σ) : wq (vc lim (d + 3) m_Ref_put [.inr (.inr (some m)), .inl v1, .inl v2, .inl v3, .inl v4] h) (rV fun h' => ∃ σ', RH m σ' b h' ∧ RI σ' ∧ SG σ σ' ∧ ptP σ v1 v3 v4 (σ'.1 0)) := by
  obtain ⟨O, D, A, N, P⟩ := id R
  obtain ⟨n1, n2, -⟩ := id N.1
  have e0 : (0 : Int32).toInt = 0 := rfl
  have fin1 : ¬ (0 ≤ v1.toInt ∧ v1.toInt < (σ.1 7).toInt ∧ 0 ≤ v3.toInt ∧ v3.toInt < (if ia σ 0 v1.toInt.toNat = 1 then (ia σ 1 v1.toInt.toNat).toInt else 1)) → wq (ah_val lim ah_P (d + 2) 35 41 [some (.inr (.inr (some m))), some (.inl v1), some (.inl v2), some (.inl v3), some (.inl v4)] [.inl (1 : Int32), .inr (.inr (some m))] h) (rV fun h' => ∃ σ', RH m σ' b h' ∧ RI σ' ∧ SG σ σ' ∧ ptP σ v1 v3 v4 (σ'.1 0)) := fun hn => wq_eq q_35_41 (wc H (fun h2 H2 => rc H2 (wq_f (by decide) (wq_some (rV_i ⟨_, H2, RI_c R, SG_c, Or.inl ⟨sG_eq, hn⟩⟩)))))
  refine wq_eq e_Ref_put (wq_if _ (fun c => fin1 (fun q => by have := lt_i c; omega)) (fun c => ?_))
  have c := nlt_i c
  refine wq_gI H.1 rfl (wq_if _ (fun c1 => ?_) (fun c1 => fin1 (fun q => by have := nlt_i c1; omega)))
  have c1 := lt_i c1
  refine wq_at H.1 (wq_cI (f_lacks H O (by omega) (by omega)) ?_)
  rintro y h2 ⟨rfl, hy, hl⟩
  refine wq_if _ (fun c2 => ?_) (fun c2 => fin1 (fun q => c2 (hl.mpr q.2.2)))
  have lk := hl.mp c2
  obtain ⟨q0, q1⟩ := lk_64 O (by omega) lk
  refine wq_at H.1 (wq_cI (f_cannot H (by omega) (by omega)) ?_)
  rintro y2 h3 ⟨rfl, hy2, hc⟩
  refine wq_if _ (fun c3 => ?_) (fun c3 => ?_)
  · refine wq_eq q_35_41 (wc H (fun h4 H4 => rc H4 (wq_t rfl (wq_if _ (fun c4 => ?_) (fun c4 => ?_)))))
    · refine wq_at H4.1 (wq_cV (f_become H4 O (by omega) (by omega) q0 q1) ?_)
      rintro h5 ⟨σ5, H5, O5, f5, j5⟩
      refine wq_some (rV_i ⟨σ5, H5, RI_e R O5 f5 (fun j i hj => j5 j i (by omega)) (fun j i hj _ _ => j5 j i (by omega)), ⟨by rw [f5]; exact sG_ne (by omega), fun j i hj hi => j5 j i (by omega), TG_e f5 j5⟩, Or.inr ⟨⟨by omega, c1, lk⟩, Or.inr ⟨?_, hc.mp c3⟩⟩⟩)
      rw [f5]
      exact sG_eq
    · have e5 : ((512 : Int32) + v1).toInt = 512 + v1.toInt := by rw [ad_i (by show _ ≤ 512 + _; omega) (by show 512 + _ ≤ _; omega)]; rfl
      refine wq_at H4.1 (wq_cV (f_become H4 O (by omega) (by omega) q0 q1) ?_)
      rintro h5 ⟨σ5, H5, O5, f5, j5⟩
      refine wq_some (rV_i ⟨σ5, H5, RI_e R O5 f5 (fun j i hj => j5 j i (by omega)) (fun j i hj _ _ => j5 j i (by omega)), ⟨by rw [f5]; exact sG_ne (by omega), fun j i hj hi => j5 j i (by omega), TG_e f5 j5⟩, Or.inr ⟨⟨by omega, c1, lk⟩, Or.inr ⟨?_, hc.mp c3⟩⟩⟩)
      rw [f5]
      exact sG_eq
  · exact wq_eq q_35_41 (wc H (fun h4 H4 => rc H4 (wq_f (by decide) (wq_some (rV_i ⟨_, H4, RI_c R, SG_c, Or.inr ⟨⟨by omega, c1, lk⟩, Or.inl ⟨sG_eq, fun q => c3 (hc.mpr q)⟩⟩⟩)))))
theorem v_mark (H : RH m σ b h) (R : RI σ) (z2 : v2 = 0 ∨ v2 = 1) (z3 : v3 = 0 ∨ v3 = 1) : wq (vc lim (d + 1) m_Ref_mark [.inr (.inr (some m)), .inl v1, .inl v2, .inl v3] h) (rV fun h' => ∃ σ', RH m σ' b h' ∧ RI σ' ∧ SG σ σ' ∧ ((σ'.1 0 = 1 ∧ ¬ (0 ≤ v1.toInt ∧ v1.toInt < (σ.1 7).toInt)) ∨ (σ'.1 0 = 0 ∧ 0 ≤ v1.toInt ∧ v1.toInt < (σ.1 7).toInt))) := by
  obtain ⟨O, D, A, N, P⟩ := id R
  obtain ⟨n1, n2, -⟩ := id N.1
  have e0 : (0 : Int32).toInt = 0 := rfl
  refine wq_eq e_Ref_mark (wq_if _ (fun c => ?_) (fun c => ?_))
  · exact wq_eq q_36_18 (wc H (fun h2 H2 => rc H2 (wq_f (by decide) (wq_some (rV_i ⟨_, H2, RI_c R, SG_c, Or.inl ⟨sG_eq, fun q => by have := lt_i c; omega⟩⟩)))))
  · have c := nlt_i c
    refine wq_gI H.1 rfl (wq_if _ (fun c1 => ?_) (fun c1 => ?_))
    · have c1 := lt_i c1
      refine wq_eq q_36_18 (wc H (fun h2 H2 => rc H2 (wq_t (by decide) (wq_gR H2.1 rfl (wq_t z2 (rs_I H2 (by omega) rfl rfl (by omega) (by show _ < (512 : Int); omega) (fun h3 H3 => wq_gR H3.1 rfl (wq_t z3 (rs_I H3 (by omega) rfl rfl (by omega) (by show _ < (512 : Int); omega) (fun h4 H4 => wq_some (rV_i ⟨_, H4, ?_, ⟨show (sG σ 0 0).1 7 = σ.1 7 from sG_ne (by omega), fun j i hj hi => ?_, fun k hk => show (sG σ 0 0).1 k = σ.1 k from sG_ne (by omega), fun j i _ _ => by rw [sI_nj (by omega), sI_nj (by omega)], fun j i _ _ _ => by rw [sI_nj (by omega), sI_nj (by omega)]⟩, Or.inr ⟨show (sG σ 0 0).1 0 = 0 from sG_eq, by omega, c1⟩⟩)))))))))))
      · exact RI_q (RI_c (x := 0) R) (okv_n (okv_n O (by omega) (by omega)) (by omega) (by omega)) ⟨fun j i hj => by rw [sI_nj (by omega), sI_nj (by omega)], fun _ _ => rfl⟩ (RI_c (x := 0) R).2.2.2.1
      · rw [sI_nj (by omega), sI_nj (by omega)]
    · exact wq_eq q_36_18 (wc H (fun h2 H2 => rc H2 (wq_f (by decide) (wq_some (rV_i ⟨_, H2, RI_c R, SG_c, Or.inl ⟨sG_eq, fun q => by have := nlt_i c1; omega⟩⟩)))))
theorem v_get (H : RH m σ b h) (R : RI σ) : wq (vc lim (d + 3) m_Ref_get [.inr (.inr (some m)), .inl v1, .inl v2] h) (rI fun x h' => rP m σ b h') := by
  obtain ⟨O, D, A, N, P⟩ := id R
  obtain ⟨n1, n2, -⟩ := id N.1
  have e0 : (0 : Int32).toInt = 0 := rfl
  have no : wq (ah_val lim ah_P (d + 2) 37 22 [some (.inr (.inr (some m))), some (.inl v1), some (.inl v2)] [.inr (.inr (some m))] h) (rI fun x h' => rP m σ b h') := wq_eq q_37_22 (wc H (fun h2 H2 => rc H2 (wq_f (by decide) (wq_some (rI_i (rP_c H2 R))))))
  refine wq_eq e_Ref_get (wq_if _ (fun c => no) (fun c => ?_))
  have c := nlt_i c
  refine wq_gI H.1 rfl (wq_if _ (fun c1 => ?_) (fun c1 => no))
  have c1 := lt_i c1
  refine wq_at H.1 (wq_cI (f_lacks H O (by omega) (by omega)) ?_)
  rintro y h2 ⟨rfl, hy, hl⟩
  refine wq_if _ (fun c2 => ?_) (fun c2 => no)
  obtain ⟨q0, q1⟩ := lk_64 O (by omega) (hl.mp c2)
  refine wc H (fun h3 H3 => rc H3 (wq_t (by decide) (wq_at H3.1 (wq_cI (f_told H3 O (by omega) (by omega) q0 q1) ?_))))
  rintro y2 h4 rfl
  exact wq_some (rI_i (rP_c H3 R))
theorem f_noProcess (H : RH m σ b h) : wq (vc lim (d + 1) m_Ref_noProcess [.inr (.inr (some m)), .inl v1] h) (rI fun x h' => h' = h ∧ (x = 0 ∨ x = 1) ∧ (x = 0 → 0 ≤ v1.toInt ∧ v1.toInt < (σ.1 23).toInt)) := by
  have e0 : (0 : Int32).toInt = 0 := rfl
  refine wq_eq e_Ref_noProcess (wq_if _ (fun c => wq_t (Or.inr rfl) (wq_some (rI_i ⟨rfl, Or.inr rfl, fun e => absurd e (by decide)⟩))) (fun c => ?_))
  have c := nlt_i c
  exact wq_gI H.1 rfl (wq_if _ (fun c1 => wq_t (Or.inl rfl) (wq_some (rI_i ⟨rfl, Or.inl rfl, fun _ => ⟨by omega, lt_i c1⟩⟩))) (fun c1 => wq_t (Or.inr rfl) (wq_some (rI_i ⟨rfl, Or.inr rfl, fun e => absurd e (by decide)⟩))))
theorem PV_a {a : Int32} (h : PV (at39 σ a)) : 0 ≤ a.toInt ∧ a.toInt < 64 ∧ 0 ≤ (ia σ 18 a.toInt.toNat).toInt ∧ 0 ≤ (ia σ 19 a.toInt.toNat).toInt ∧ (ia σ 18 a.toInt.toNat).toInt + (ia σ 19 a.toInt.toNat).toInt ≤ 8192 := by
  unfold PV at h
  rw [sG_eq] at h
  exact h
theorem f_variableAt (H : RH m σ b h) (R : RI σ) : wq (vc lim (d + 2) m_Ref_variableAt [.inr (.inr (some m)), .inl v1, .inl v2, .inl v3] h) (rI fun x h' => h' = h ∧ (x = -1 ∨ (1024 ≤ x.toInt ∧ x.toInt < 9216 ∧ 0 ≤ v3.toInt ∧ v3.toInt < 64))) := by
  obtain ⟨O, D, A, N, P⟩ := id R
  have e0 : (0 : Int32).toInt = 0 := rfl
  have e10 : (1024 : Int32).toInt = 1024 := rfl
  have no : wq (some ((.inl (some (.inl (-1 : Int32))), h) : ah_R)) (rI fun x h' => h' = h ∧ (x = -1 ∨ (1024 ≤ x.toInt ∧ x.toInt < 9216 ∧ 0 ≤ v3.toInt ∧ v3.toInt < 64))) := wq_some (rI_i ⟨rfl, Or.inl rfl⟩)
  refine wq_eq e_Ref_variableAt (wq_at H.1 (wq_cI (f_noProcess H) ?_))
  rintro y h1 ⟨rfl, hy, hp⟩
  refine wq_if _ (fun c => ?_) (fun c => no)
  obtain ⟨p0, p1⟩ := hp c
  obtain ⟨q0, q1, q2, q3, q4⟩ := PV_a (P v1 p0 p1).1
  refine wq_if _ (fun c1 => no) (fun c1 => ?_)
  have c1 := nlt_i c1
  refine wq_gR H.1 rfl (ra_I H (by omega) rfl rfl (by omega) (by show _ < (64 : Int); omega) (wq_if _ (fun c2 => ?_) (fun c2 => no)))
  have c2 := lt_i c2
  have e5 : ((1024 : Int32) + ia σ 18 v1.toInt.toNat).toInt = 1024 + (ia σ 18 v1.toInt.toNat).toInt := by rw [ad_i (by omega) (by omega), e10]
  have e6 : (((1024 : Int32) + ia σ 18 v1.toInt.toNat) + v2).toInt = 1024 + (ia σ 18 v1.toInt.toNat).toInt + v2.toInt := by rw [ad_i (by omega) (by omega), e5]
  refine wq_gR H.1 rfl (ra_I H (by omega) rfl rfl (by omega) (by show _ < (64 : Int); omega) (wq_at H.1 (wq_cI (f_lacks H O (by omega) (by omega)) ?_)))
  rintro y2 h2 ⟨rfl, hy2, hl⟩
  refine wq_if _ (fun c3 => ?_) (fun c3 => no)
  obtain ⟨k0, k1⟩ := lk_64 O (by omega) (hl.mp c3)
  exact wq_some (rI_i ⟨rfl, Or.inr ⟨by omega, by omega, k0, k1⟩⟩)
theorem v_set (H : RH m σ b h) (R : RI σ) : wq (vc lim (d + 3) m_Ref_set [.inr (.inr (some m)), .inl v1, .inl v2, .inl v3, .inl v4] h) (rV fun h' => rP m σ b h') := by
  obtain ⟨O, D, A, N, P⟩ := id R
  refine wq_eq e_Ref_set (wq_at H.1 (wq_cI (f_variableAt H R) ?_))
  rintro y h1 ⟨rfl, hy⟩
  refine wq_if _ (fun c => ?_) (fun c => ?_)
  · exact wq_eq q_40_36 (wc H (fun h2 H2 => rc H2 (wq_f (by decide) (wq_some (rV_i (rP_c H2 R))))))
  · obtain ⟨y0, y1, k0, k1⟩ := hy.resolve_left c
    refine wq_at H.1 (wq_cI (f_cannot H (by omega) (by omega)) ?_)
    rintro y2 h3 ⟨rfl, hy2, hc⟩
    refine wq_if _ (fun c3 => ?_) (fun c3 => ?_)
    · refine wq_eq q_40_36 (wc H (fun h4 H4 => rc H4 (wq_t rfl (wq_at H4.1 (wq_cV (f_become H4 O (by omega) (by omega) k0 k1) ?_)))))
      rintro h5 ⟨σ5, H5, O5, f5, j5⟩
      exact wq_some (rV_i (rP_e H5 R O5 f5 j5))
    · exact wq_eq q_40_36 (wc H (fun h2 H2 => rc H2 (wq_f (by decide) (wq_some (rV_i (rP_c H2 R))))))
theorem v_variableOf (H : RH m σ b h) (R : RI σ) : wq (vc lim (d + 3) m_Ref_variableOf [.inr (.inr (some m)), .inl v1, .inl v2, .inl v3] h) (rI fun x h' => rP m σ b h') := by
  obtain ⟨O, D, A, N, P⟩ := id R
  refine wq_eq e_Ref_variableOf (wq_at H.1 (wq_cI (f_variableAt H R) ?_))
  rintro y h1 ⟨rfl, hy⟩
  refine wq_if _ (fun c => ?_) (fun c => ?_)
  · exact wc H (fun h2 H2 => rc H2 (wq_f (by decide) (wq_some (rI_i (rP_c H2 R)))))
  · obtain ⟨y0, y1, k0, k1⟩ := hy.resolve_left c
    refine wc H (fun h2 H2 => rc H2 (wq_t (by decide) (wq_at H2.1 (wq_cI (f_told H2 O (by omega) (by omega) k0 k1) ?_))))
    rintro y2 h4 rfl
    exact wq_some (rI_i (rP_c H2 R))
theorem v_processes (H : RH m σ b h) (R : RI σ) : wq (vc lim (d + 1) m_Ref_processes [.inr (.inr (some m))] h) (rI fun x h' => rP m σ b h' ∧ x = σ.1 23) := wq_eq e_Ref_processes (wc H (fun h2 H2 => wq_gI H2.1 rfl (wq_some (rI_i ⟨rP_c H2 R, sG_ne (by omega)⟩))))
theorem v_acts (H : RH m σ b h) (R : RI σ) : wq (vc lim (d + 1) m_Ref_acts [.inr (.inr (some m))] h) (rI fun x h' => rP m σ b h') := wq_eq e_Ref_acts (wc H (fun h2 H2 => wq_gI H2.1 rfl (wq_some (rI_i (rP_c H2 R)))))
theorem v_thrown (H : RH m σ b h) : wq (vc lim (d + 1) m_Ref_thrown [.inr (.inr (some m))] h) (rI fun x h' => h' = h ∧ x = σ.1 0) := wq_eq e_Ref_thrown (wq_gI H.1 rfl (wq_some (rI_i ⟨rfl, rfl⟩)))
end Sm
