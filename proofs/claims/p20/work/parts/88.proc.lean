/-! THE REFERENCE'S CALLS: process -/
section Pr
variable {lim : Nat × Nat} {m d : Nat} {σ τ : rS} {b h : ah_H} {v1 v2 : Int32} {N B : Nat}
/-- nodes up to k are copied -/
def KL (σ τ : rS) (B k : Nat) : Prop := τ.1 = σ.1 ∧ (∀ a i, (a ≤ 7 ∨ 13 ≤ a) → ia τ a i = ia σ a i) ∧ (∀ a i, 8 ≤ a → a ≤ 12 → i < B → ia τ a i = ia σ a i) ∧ ∀ t, t < k → ia τ 8 (B + t) = ia σ 8 t ∧ ia τ 9 (B + t) = ia σ 9 t ∧ ia τ 10 (B + t) = ia σ 10 t ∧ (ia τ 11 (B + t)).toInt = sh B (ia σ 11 t).toInt ∧ (ia τ 12 (B + t)).toInt = sh B (ia σ 12 t).toInt
/-- the siblings of a node that is being made -/
theorem kp_loop {Φ : ah_R → Prop} (D : DI σ) (hN : (σ.1 19).toInt = N) (hb : v1.toInt = B) (h4 : 4000 ≤ B) (hB : B + N ≤ 24000) (hx : ∀ t : Nat, t < N → (ia σ 12 t).toInt = -1 ∨ (0 ≤ (ia σ 12 t).toInt ∧ (ia σ 12 t).toInt < N)) (K1 : ∀ (h' : ah_H) (τ : rS), RH m τ b h' → KL σ τ B N → wq (ah_gR h' (some m) 11 24 fun r19 => ah_gI h' (some m) 11 23 fun i20 => ah_sI h' r19 100 i20 (.inl v1) fun h21 => ah_gR h21 (some m) 11 25 fun r22 => ah_gI h21 (some m) 11 23 fun i23 => ah_gI h21 (some m) 11 19 fun i24 => ah_sI h21 r22 100 i23 (.inl ((v1 + i24) - (1 : Int32))) fun h25 => ah_gR h25 (some m) 11 26 fun r26 => ah_gI h25 (some m) 11 23 fun i27 => ah_gI h25 (some m) 11 8 fun i28 => ah_sI h25 r26 100 i27 (.inl i28) fun h29 => ah_gR h29 (some m) 11 27 fun r30 => ah_gI h29 (some m) 11 23 fun i31 => ah_gI h29 (some m) 11 9 fun i32 => ah_sI h29 r30 100 i31 (.inl i32) fun h33 => ah_val lim ah_P d 61 182 [some (.inr (.inr (some m))), none, some (.inl (0 : Int32))] [] h33) Φ) : ∀ (M k : Nat) (h : ah_H) (τ : rS) (v2 : Int32), N - k < M → v2.toInt = k → k ≤ N → RH m τ b h → KL σ τ B k → wq (ah_val lim ah_P d 61 11 [some (.inr (.inr (some m))), some (.inl v1), some (.inl v2)] [] h) Φ := by
  have e1 : (1 : Int32).toInt = 1 := rfl
  have hN4 := D.2.1
  intro M
  induction M with
  | zero => intros; omega
  | succ M ih =>
    intro k h τ v2 hM h2 hk H L
    obtain ⟨l1, l2, l3, l4⟩ := id L
    have t19 : τ.1 19 = σ.1 19 := by rw [l1]
    refine wq_eq q_61_11 (wq_gI H.1 rfl ?_)
    rw [t19]
    refine wq_if _ (fun c => ?_) (fun c => ?_)
    · have c := lt_i c
      have ek : v2.toInt.toNat = k := by omega
      have ea : (v1 + v2).toInt = (B + k : Nat) := by rw [ad_i (by omega) (by omega)]; omega
      have ea' : (v1 + v2).toInt.toNat = B + k := by omega
      have e2 : (v2 + (1 : Int32)).toInt = (k + 1 : Nat) := by rw [ad_i (by omega) (by omega), e1]; omega
      refine wq_gR H.1 rfl (wq_gR H.1 rfl (ra_I H (by omega) rfl rfl (by omega) (by show _ < (24000 : Int); omega) (rs_I H (by omega) rfl rfl (by omega) (by show _ < (24000 : Int); omega) (fun h5 H5 => ?_))))
      rw [ea', ek, l3 8 k (by omega) (by omega) (by omega)] at H5
      refine wq_gR H5.1 rfl (wq_gR H5.1 rfl (ra_I H5 (by omega) rfl rfl (by omega) (by show _ < (24000 : Int); omega) (rs_I H5 (by omega) rfl rfl (by omega) (by show _ < (24000 : Int); omega) (fun h9 H9 => ?_))))
      rw [ea', ek, sI_nj (by omega), l3 9 k (by omega) (by omega) (by omega)] at H9
      refine wq_gR H9.1 rfl (wq_gR H9.1 rfl (ra_I H9 (by omega) rfl rfl (by omega) (by show _ < (24000 : Int); omega) (rs_I H9 (by omega) rfl rfl (by omega) (by show _ < (24000 : Int); omega) (fun h13 H13 => ?_))))
      rw [ea', ek, sI_nj (by omega), sI_nj (by omega), l3 10 k (by omega) (by omega) (by omega)] at H13
      obtain ⟨g1, g2, g3, -⟩ := D.2.2.2.2.1 (k : Int) (by omega) (by omega)
      rw [show ((k : Nat) : Int).toNat = k by omega] at g1 g2 g3
      have gk : (ia σ 11 k).toInt = -1 ∨ (0 ≤ (ia σ 11 k).toInt ∧ (ia σ 11 k).toInt < k) := by
        match h : (ia σ 10 k).toInt.toNat, g3 with
        | 0, g3 => exact Or.inl g3
        | j + 1, g3 => exact Or.inr ⟨g3.1, g3.2.1⟩
      have r11 : ia (sI (sI (sI τ 8 (B + k) (ia σ 8 k)) 9 (B + k) (ia σ 9 k)) 10 (B + k) (ia σ 10 k)) 11 v2.toInt.toNat = ia σ 11 k := by rw [sI_nj (by omega), sI_nj (by omega), sI_nj (by omega), ek, l3 11 k (by omega) (by omega) (by omega)]
      have go : ∀ s2 : Int32, s2.toInt = sh B (ia σ 11 k).toInt → wq (ah_val lim ah_P d 61 90 [some (.inr (.inr (some m))), some (.inl v1), some (.inl v2)] [.inl s2, .inl (v1 + v2), .inr (.inr (some (m + 1 + 11)))] h13) Φ := by
        intro s2 hs
        refine wq_eq q_61_90 (rs_I H13 (by omega) rfl rfl (by omega) (by show _ < (24000 : Int); omega) (fun h1 H1 => ?_))
        rw [ea'] at H1
        have r12 : ia (sI (sI (sI (sI τ 8 (B + k) (ia σ 8 k)) 9 (B + k) (ia σ 9 k)) 10 (B + k) (ia σ 10 k)) 11 (B + k) s2) 12 v2.toInt.toNat = ia σ 12 k := by rw [sI_nj (by omega), sI_nj (by omega), sI_nj (by omega), sI_nj (by omega), ek, l3 12 k (by omega) (by omega) (by omega)]
        have fin : ∀ (h8 : ah_H) (y : Int32), RH m (sI (sI (sI (sI (sI τ 8 (B + k) (ia σ 8 k)) 9 (B + k) (ia σ 9 k)) 10 (B + k) (ia σ 10 k)) 11 (B + k) s2) 12 (B + k) y) b h8 → y.toInt = sh B (ia σ 12 k).toInt → wq (ah_val lim ah_P d 61 11 [some (.inr (.inr (some m))), some (.inl v1), some (.inl (v2 + (1 : Int32)))] [] h8) Φ := by
          intro h8 y H8 hy
          refine ih (k + 1) h8 _ _ (by omega) e2 (by omega) H8 ⟨l1, fun a i ha => ?_, fun a i h1 h2 h3 => ?_, fun t ht => ?_⟩
          · rw [sI_nj (by omega), sI_nj (by omega), sI_nj (by omega), sI_nj (by omega), sI_nj (by omega)]
            exact l2 a i ha
          · rw [sI_ni (by omega), sI_ni (by omega), sI_ni (by omega), sI_ni (by omega), sI_ni (by omega)]
            exact l3 a i h1 h2 h3
          · by_cases e : t = k
            · subst e
              refine ⟨?_, ?_, ?_, ?_, ?_⟩
              · rw [sI_nj (by omega), sI_nj (by omega), sI_nj (by omega), sI_nj (by omega), sI_eq]
              · rw [sI_nj (by omega), sI_nj (by omega), sI_nj (by omega), sI_eq]
              · rw [sI_nj (by omega), sI_nj (by omega), sI_eq]
              · rw [sI_nj (by omega), sI_eq]
                exact hs
              · rw [sI_eq]
                exact hy
            · have ne : B + t ≠ B + k := by omega
              rw [sI_ni ne, sI_ni ne, sI_ni ne, sI_ni ne, sI_ni ne, sI_ni ne, sI_ni ne, sI_ni ne, sI_ni ne, sI_ni ne, sI_ni ne, sI_ni ne, sI_ni ne, sI_ni ne, sI_ni ne, sI_ni ne, sI_ni ne, sI_ni ne, sI_ni ne, sI_ni ne, sI_ni ne, sI_ni ne, sI_ni ne, sI_ni ne, sI_ni ne]
              exact l4 t (by omega)
        refine wq_gR H1.1 rfl (wq_gR H1.1 rfl (ra_I H1 (by omega) rfl rfl (by omega) (by show _ < (24000 : Int); omega) ?_))
        rw [r12]
        refine wq_if _ (fun c2 => ?_) (fun c2 => ?_)
        · refine rs_I H1 (by omega) rfl rfl (by omega) (by show _ < (24000 : Int); omega) (fun h5 H5 => ?_)
          rw [ea'] at H5
          refine fin h5 _ H5 ?_
          rw [c2, li_m1, sh, if_pos rfl]
        · have gx := hx k (by omega)
          have c2 : ¬ (ia σ 12 k).toInt = -1 := fun e => c2 (eq_m1 e)
          refine wq_gR H1.1 rfl (ra_I H1 (by omega) rfl rfl (by omega) (by show _ < (24000 : Int); omega) (rs_I H1 (by omega) rfl rfl (by omega) (by show _ < (24000 : Int); omega) (fun h8 H8 => ?_)))
          rw [ea', r12] at H8
          refine fin h8 _ H8 ?_
          rw [ad_i (by omega) (by omega), sh, if_neg c2]
          omega
      refine wq_gR H13.1 rfl (wq_gR H13.1 rfl (ra_I H13 (by omega) rfl rfl (by omega) (by show _ < (24000 : Int); omega) ?_))
      rw [r11]
      refine wq_if _ (fun c2 => ?_) (fun c2 => ?_)
      · refine go _ ?_
        rw [c2, li_m1, sh, if_pos rfl]
      · have c2 : ¬ (ia σ 11 k).toInt = -1 := fun e => c2 (eq_m1 e)
        refine wq_gR H13.1 rfl (ra_I H13 (by omega) rfl rfl (by omega) (by show _ < (24000 : Int); omega) ?_)
        rw [r11]
        refine go _ ?_
        rw [ad_i (by omega) (by omega), sh, if_neg c2]
        omega
    · have c := nlt_i c
      have e : k = N := by omega
      subst e
      exact K1 h τ H L
/-- so many variables are copied -/
def kvC (σ τ : rS) (n : Nat) : Prop := ∀ i, i < n → ia τ 0 (1024 + (σ.1 8).toInt.toNat + i) = ia σ 0 (9216 + i) ∧ ia τ 1 (1024 + (σ.1 8).toInt.toNat + i) = (if ia σ 0 (9216 + i) = 1 then ia σ 2 (9216 + i) else 0) ∧ ia τ 2 (1024 + (σ.1 8).toInt.toNat + i) = ia σ 2 (9216 + i) ∧ ia τ 3 (1024 + (σ.1 8).toInt.toNat + i) = ia σ 3 (9216 + i)
/-- the variables of a process are made anew -/
theorem kp_vars {Φ : ah_R → Prop} {σ : rS} (h0 : 0 ≤ (σ.1 8).toInt) (h8 : (σ.1 8).toInt + (σ.1 9).toInt ≤ 8192) (h9 : (σ.1 9).toInt ≤ 128) (V : DV σ) (hO : OKV σ) (K1 : ∀ (h' : ah_H) (τ : rS), RH m τ b h' → OKV τ → τ.1 = σ.1 → (∀ j i, 6 ≤ j → ia τ j i = ia σ j i) → (∀ j i, j ≤ 3 → (i < 1024 + (σ.1 8).toInt.toNat ∨ 9216 ≤ i) → ia τ j i = ia σ j i) → kvC σ τ (σ.1 9).toInt.toNat → wq (ah_gI h' (some m) 11 8 fun i10 => ah_gI h' (some m) 11 9 fun i11 => ah_wr h' (some m) 11 8 (.inl (i10 + i11)) fun h12 => ah_gR h12 (some m) 11 28 fun r13 => ah_gI h12 (some m) 11 23 fun i14 => ah_sI h12 r13 100 i14 (.inl (0 : Int32)) fun h15 => ah_gR h15 (some m) 11 29 fun r16 => ah_gI h15 (some m) 11 23 fun i17 => ah_sI h15 r16 100 i17 (.inl (0 : Int32)) fun h18 => ah_gR h18 (some m) 11 30 fun r19 => ah_gI h18 (some m) 11 23 fun i20 => ah_sI h18 r19 100 i20 (.inl (-1 : Int32)) fun h21 => ah_gR h21 (some m) 11 31 fun r22 => ah_gI h21 (some m) 11 23 fun i23 => ah_sI h21 r22 100 i23 (.inl (0 : Int32)) fun h24 => ah_gR h24 (some m) 11 34 fun r25 => ah_gI h24 (some m) 11 23 fun i26 => ah_sI h24 r25 100 i26 (.inl (0 : Int32)) fun h27 => ah_gI h27 (some m) 11 22 fun i28 => ah_gI h27 (some m) 11 19 fun i29 => ah_wr h27 (some m) 11 22 (.inl (i28 + i29)) fun h30 => ah_gI h30 (some m) 11 23 fun i31 => ah_wr h30 (some m) 11 23 (.inl (i31 + (1 : Int32))) fun h32 => some (.inl none, h32)) Φ) : ∀ (M : Nat) (h : ah_H) (τ : rS) (v2 : Int32), ((σ.1 9).toInt - v2.toInt).toNat < M → 0 ≤ v2.toInt → v2.toInt ≤ (σ.1 9).toInt → RH m τ b h → OKV τ → τ.1 = σ.1 → (∀ j i, 6 ≤ j → ia τ j i = ia σ j i) → (∀ j i, j ≤ 3 → (i < 1024 + (σ.1 8).toInt.toNat ∨ 9216 ≤ i) → ia τ j i = ia σ j i) → kvC σ τ v2.toInt.toNat → wq (ah_val lim ah_P (d + 2) 61 182 [some (.inr (.inr (some m))), none, some (.inl v2)] [] h) Φ := by
  have e1 : (1 : Int32).toInt = 1 := rfl
  have e92 : (9216 : Int32).toInt = 9216 := rfl
  have e10 : (1024 : Int32).toInt = 1024 := rfl
  intro M
  induction M with
  | zero => intros; omega
  | succ M ih =>
    intro h τ v2 hM h2 h2' H O f a6 a3 kc
    refine wq_eq q_61_182 (wq_gI H.1 rfl ?_)
    rw [f]
    refine wq_if _ (fun c => ?_) (fun c => K1 h τ H O f a6 a3 (by rw [show (σ.1 9).toInt.toNat = v2.toInt.toNat by have := nlt_i c; omega]; exact kc))
    have c := lt_i c
    have ea : ((9216 : Int32) + v2).toInt = 9216 + v2.toInt := by rw [ad_i (by omega) (by omega), e92]
    have ea' : ((9216 : Int32) + v2).toInt.toNat = 9216 + v2.toInt.toNat := by omega
    have eb : ((1024 : Int32) + σ.1 8).toInt = 1024 + (σ.1 8).toInt := by rw [ad_i (by omega) (by omega), e10]
    have ec : (((1024 : Int32) + σ.1 8) + v2).toInt = 1024 + (σ.1 8).toInt + v2.toInt := by rw [ad_i (by omega) (by omega), eb]
    have e2 : (v2 + (1 : Int32)).toInt = v2.toInt + 1 := by rw [ad_i (by omega) (by omega), e1]
    refine wq_gI H.1 rfl ?_
    rw [f]
    refine wq_gR H.1 rfl (ra_I H (by omega) rfl rfl (by omega) (by show _ < (10100 : Int); omega) (wq_gR H.1 rfl (ra_I H (by omega) rfl rfl (by omega) (by show _ < (10100 : Int); omega) (wq_gR H.1 rfl (ra_I H (by omega) rfl rfl (by omega) (by show _ < (10100 : Int); omega) ?_)))))
    have ok := hO (9216 + v2.toInt.toNat) (by omega)
    have vv := V v2.toInt.toNat (by omega)
    rw [ea', a3 0 _ (by omega) (by omega), a3 2 _ (by omega) (by omega), a3 3 _ (by omega) (by omega)]
    refine wq_at H.1 (wq_cV (f_make H O (by omega) (by omega) ok.1 ok.2.1 vv) ?_)
    rintro h9 ⟨τ', H9, p1, p2, p3, p4, p5, p6, p7, p8⟩
    have ec' : (((1024 : Int32) + σ.1 8) + v2).toInt.toNat = 1024 + (σ.1 8).toInt.toNat + v2.toInt.toNat := by omega
    rw [ec'] at p5 p6 p7 p8
    refine ih h9 τ' _ (by omega) (by omega) (by omega) H9 p1 (by rw [p2, f]) (fun j i hj => (p3 j i hj).trans (a6 j i hj)) (fun j i hj hi => (p4 j i hj (by omega)).trans (a3 j i hj hi)) (fun i hi => ?_)
    by_cases e : i = v2.toInt.toNat
    · subst e
      exact ⟨p5, p6, p7, p8⟩
    · rw [p4 0 _ (by omega) (by omega), p4 1 _ (by omega) (by omega), p4 2 _ (by omega) (by omega), p4 3 _ (by omega) (by omega)]
      exact kc i (by omega)
end Pr
