/-! THE REFERENCE'S CALLS: process, the whole -/
section Pc
variable {lim : Nat × Nat} {m d : Nat} {σ τ : rS} {b h : ah_H} {v1 v2 : Int32} {N B : Nat}
theorem DI_z {σ' : rS} (h1 : σ'.1 19 = 0) (h2 : σ'.1 21 = 0) : DI σ' := by
  have e0 : (0 : Int32).toInt = 0 := rfl
  unfold DI
  rw [h1, h2, e0]
  exact ⟨by omega, by omega, by omega, by omega, fun k h0 h1 => absurd h1 (by omega), fun j hj => absurd hj (by omega)⟩
/-- what was being made is gone -/
theorem RI_z (R : RI σ) : RI (sG (sG (sG σ 19 0) 21 0) 9 0) ∧ SS σ (sG (sG (sG σ 19 0) 21 0) 9 0) := by
  have f : ∀ k, k ≠ 9 → k ≠ 19 → k ≠ 21 → (sG (sG (sG σ 19 0) 21 0) 9 0).1 k = σ.1 k := fun k h1 h2 h3 => by rw [sG_ne h1, sG_ne h3, sG_ne h2]
  obtain ⟨O, D, A, ⟨N, V⟩, P⟩ := R
  have e0 : (0 : Int32).toInt = 0 := rfl
  have f9 : (sG (sG (sG σ 19 0) 21 0) 9 0).1 9 = 0 := sG_eq
  refine ⟨⟨O, DI_z (by rw [sG_ne (by omega), sG_ne (by omega), sG_eq]) (by rw [sG_ne (by omega), sG_eq]), AI_f A (f 46 (by omega) (by omega) (by omega)) (f 47 (by omega) (by omega) (by omega)) (fun _ => rfl), ⟨?_, fun v hv => ?_⟩, fun a h0 h1 => ?_⟩, f 7 (by omega) (by omega) (by omega), fun _ _ _ _ => rfl⟩
  · unfold NJ at N ⊢
    rw [f 7 (by omega) (by omega) (by omega), f 8 (by omega) (by omega) (by omega), f9, f 22 (by omega) (by omega) (by omega), f 23 (by omega) (by omega) (by omega), e0]
    omega
  · rw [f9, e0] at hv
    omega
  · rw [f 23 (by omega) (by omega) (by omega)] at h1
    have e22 : (at39 (sG (sG (sG σ 19 0) 21 0) 9 0) a).1 22 = (at39 σ a).1 22 := by rw [sG_ne (by omega), sG_ne (by omega)]; exact f 22 (by omega) (by omega) (by omega)
    have KA1 : KA (at39 σ a) (at39 (sG (sG (sG σ 19 0) 21 0) 9 0) a) := ⟨by rw [e22]; exact Int.le_refl _, fun j i _ _ _ _ => rfl, by rw [sG_eq, sG_eq], rfl, rfl⟩
    exact PQ_of KA1 rfl rfl rfl rfl (fun i _ => ⟨rfl, rfl⟩) (P a h0 h1)
/-- what keeping a process leaves, before what was being made is gone -/
def kpP (σ σ' : rS) (B N P : Nat) : Prop := OKV σ' ∧ (∀ k, k ≠ 8 → k ≠ 22 → k ≠ 23 → σ'.1 k = σ.1 k) ∧ (σ'.1 8).toInt = (σ.1 8).toInt + (σ.1 9).toInt ∧ (σ'.1 22).toInt = (σ.1 22).toInt + N ∧ (σ'.1 23).toInt = P + 1 ∧ KR σ σ' B ∧ (∀ a i, 8 ≤ a → a ≤ 12 → i < B → ia σ' a i = ia σ a i) ∧ (∀ a i, 16 ≤ a → a ≤ 26 → i ≠ P → ia σ' a i = ia σ a i) ∧ (∀ a i, 27 ≤ a → ia σ' a i = ia σ a i) ∧ (∀ j i, j ≤ 3 → i < 1024 + (σ.1 8).toInt.toNat → ia σ' j i = ia σ j i) ∧ (ia σ' 17 P).toInt = B + N - 1 ∧ ia σ' 18 P = σ.1 8 ∧ ia σ' 19 P = σ.1 9 ∧ (ia σ' 20 P).toInt = 0 ∧ (ia σ' 26 P).toInt = 0 ∧ kvC σ σ' (σ.1 9).toInt.toNat
theorem f_keep {P : Nat} (H : RH m σ b h) (R : RI σ) (hN : (σ.1 19).toInt = N) (hP : (σ.1 23).toInt = P) (hP2 : P < 64) (hB : (σ.1 22).toInt + 4000 = B) (hBN : B + N ≤ 24000) : wq (vc lim (d + 3) m_Ref_keep [.inr (.inr (some m))] h) (rV fun h' => ∃ σ', RH m σ' b h' ∧ kpP σ σ' B N P) := by
  obtain ⟨O, D, A, ⟨Nn, V⟩, Pp⟩ := id R
  obtain ⟨n1, n2, n3, n4, n5, n6, n7, n8, n9, n10⟩ := id Nn
  have e1 : (1 : Int32).toInt = 1 := rfl
  have e4 : (4000 : Int32).toInt = 4000 := rfl
  have eb : ((4000 : Int32) + σ.1 22).toInt = B := by rw [ad_i (by omega) (by omega), e4]; omega
  have eP : (σ.1 23).toInt.toNat = P := by omega
  have hx : ∀ t : Nat, t < N → (ia σ 12 t).toInt = -1 ∨ (0 ≤ (ia σ 12 t).toInt ∧ (ia σ 12 t).toInt < N) := fun t ht => by
    obtain ⟨-, -, -, -, -, -, d7⟩ := D.2.2.2.2.1 (t : Int) (by omega) (by omega)
    rw [show ((t : Nat) : Int).toNat = t by omega] at d7
    omega
  refine wq_eq e_Ref_keep (wq_gI H.1 rfl (kp_loop D hN eb (by omega) hBN hx ?_ (N + 1) 0 h σ 0 (by omega) rfl (by omega) H ⟨rfl, fun _ _ _ => rfl, fun _ _ _ _ _ => rfl, fun t ht => absurd ht (by omega)⟩))
  intro h1 τ H1 ⟨l1, l2, l3, l4⟩
  have q23 : τ.1 23 = σ.1 23 := by rw [l1]
  have q19 : τ.1 19 = σ.1 19 := by rw [l1]
  have q8 : τ.1 8 = σ.1 8 := by rw [l1]
  have q9 : τ.1 9 = σ.1 9 := by rw [l1]
  have er : ((4000 : Int32) + σ.1 22 + σ.1 19 - (1 : Int32)).toInt = B + N - 1 := by
    have : ((4000 : Int32) + σ.1 22 + σ.1 19).toInt = B + N := by rw [ad_i (by omega) (by omega), eb, hN]
    rw [sb_i (by omega) (by omega), this, e1]
  refine wq_gR H1.1 rfl (wq_gI H1.1 rfl ?_)
  rw [q23]
  refine rs_I H1 (by omega) rfl rfl (by omega) (by show _ < (64 : Int); omega) (fun h21 H21 => wq_gR H21.1 rfl (wq_gI H21.1 rfl (wq_gI H21.1 rfl ?_)))
  rw [show (sI τ 16 (σ.1 23).toInt.toNat ((4000 : Int32) + σ.1 22)).1 23 = σ.1 23 from q23, show (sI τ 16 (σ.1 23).toInt.toNat ((4000 : Int32) + σ.1 22)).1 19 = σ.1 19 from q19]
  rw [eP] at H21
  refine rs_I H21 (by omega) rfl rfl (by omega) (by show _ < (64 : Int); omega) (fun h25 H25 => wq_gR H25.1 rfl (wq_gI H25.1 rfl (wq_gI H25.1 rfl ?_)))
  rw [eP] at H25
  rw [show (sI (sI τ 16 P ((4000 : Int32) + σ.1 22)) 17 (σ.1 23).toInt.toNat ((4000 : Int32) + σ.1 22 + σ.1 19 - 1)).1 23 = σ.1 23 from q23, show (sI (sI τ 16 P ((4000 : Int32) + σ.1 22)) 17 (σ.1 23).toInt.toNat ((4000 : Int32) + σ.1 22 + σ.1 19 - 1)).1 8 = σ.1 8 from q8]
  refine rs_I H25 (by omega) rfl rfl (by omega) (by show _ < (64 : Int); omega) (fun h29 H29 => wq_gR H29.1 rfl (wq_gI H29.1 rfl (wq_gI H29.1 rfl ?_)))
  rw [eP] at H29
  rw [show (sI (sI (sI τ 16 P ((4000 : Int32) + σ.1 22)) 17 P ((4000 : Int32) + σ.1 22 + σ.1 19 - 1)) 18 (σ.1 23).toInt.toNat (σ.1 8)).1 23 = σ.1 23 from q23, show (sI (sI (sI τ 16 P ((4000 : Int32) + σ.1 22)) 17 P ((4000 : Int32) + σ.1 22 + σ.1 19 - 1)) 18 (σ.1 23).toInt.toNat (σ.1 8)).1 9 = σ.1 9 from q9]
  refine rs_I H29 (by omega) rfl rfl (by omega) (by show _ < (64 : Int); omega) (fun h33 H33 => ?_)
  rw [eP] at H33
  have x6 : ∀ a i, (a ≤ 15 ∨ 20 ≤ a) → ia (sI (sI (sI (sI τ 16 P ((4000 : Int32) + σ.1 22)) 17 P ((4000 : Int32) + σ.1 22 + σ.1 19 - 1)) 18 P (σ.1 8)) 19 P (σ.1 9)) a i = ia τ a i := fun a i ha => by rw [sI_nj (by omega), sI_nj (by omega), sI_nj (by omega), sI_nj (by omega)]
  have xP : ∀ a i, i ≠ P → ia (sI (sI (sI (sI τ 16 P ((4000 : Int32) + σ.1 22)) 17 P ((4000 : Int32) + σ.1 22 + σ.1 19 - 1)) 18 P (σ.1 8)) 19 P (σ.1 9)) a i = ia τ a i := fun a i hi => by rw [sI_ni hi, sI_ni hi, sI_ni hi, sI_ni hi]
  have x17 : ia (sI (sI (sI (sI τ 16 P ((4000 : Int32) + σ.1 22)) 17 P ((4000 : Int32) + σ.1 22 + σ.1 19 - 1)) 18 P (σ.1 8)) 19 P (σ.1 9)) 17 P = (4000 : Int32) + σ.1 22 + σ.1 19 - 1 := by rw [sI_nj (by omega), sI_nj (by omega), sI_eq]
  have x18 : ia (sI (sI (sI (sI τ 16 P ((4000 : Int32) + σ.1 22)) 17 P ((4000 : Int32) + σ.1 22 + σ.1 19 - 1)) 18 P (σ.1 8)) 19 P (σ.1 9)) 18 P = σ.1 8 := by rw [sI_nj (by omega), sI_eq]
  have x19 : ia (sI (sI (sI (sI τ 16 P ((4000 : Int32) + σ.1 22)) 17 P ((4000 : Int32) + σ.1 22 + σ.1 19 - 1)) 18 P (σ.1 8)) 19 P (σ.1 9)) 19 P = σ.1 9 := sI_eq
  have xf : (sI (sI (sI (sI τ 16 P ((4000 : Int32) + σ.1 22)) 17 P ((4000 : Int32) + σ.1 22 + σ.1 19 - 1)) 18 P (σ.1 8)) 19 P (σ.1 9)).1 = σ.1 := l1
  generalize sI (sI (sI (sI τ 16 P ((4000 : Int32) + σ.1 22)) 17 P ((4000 : Int32) + σ.1 22 + σ.1 19 - 1)) 18 P (σ.1 8)) 19 P (σ.1 9) = τ2 at H33 x6 xP x17 x18 x19 xf
  have O2 : OKV τ2 := fun i hi => by
    rw [x6 0 i (by omega), x6 1 i (by omega), l2 0 i (by omega), l2 1 i (by omega)]
    exact O i hi
  have V2 : DV τ2 := DV_e (by rw [xf]) (fun j i hj _ _ => by rw [x6 j i (by omega), l2 j i (by omega)]) Nn V
  refine kp_vars (σ := τ2) (by rw [xf]; exact n3) (by rw [xf]; omega) (by rw [xf]; exact n6) V2 O2 ?_ ((σ.1 9).toInt.toNat + 1) h33 τ2 0 (by rw [xf]; show ((σ.1 9).toInt - 0).toNat < _; omega) (by decide) (by rw [xf]; exact n5) H33 O2 rfl (fun _ _ _ => rfl) (fun _ _ _ _ => rfl) (fun i hi => absurd hi (by show ¬ i < 0; omega))
  intro h4 τ3 H4 O3 f3 a6 a3 kc
  have g3 : τ3.1 = σ.1 := by rw [f3, xf]
  refine wq_gI H4.1 rfl (wq_gI H4.1 rfl ?_)
  rw [g3]
  refine rw_I H4 (by omega) rfl (fun h12 H12 => wq_gR H12.1 rfl (wq_gI H12.1 rfl ?_))
  have w23 : (sG τ3 8 (σ.1 8 + σ.1 9)).1 23 = σ.1 23 := by rw [sG_ne (by omega), g3]
  have w22 : (sG τ3 8 (σ.1 8 + σ.1 9)).1 22 = σ.1 22 := by rw [sG_ne (by omega), g3]
  have w19 : (sG τ3 8 (σ.1 8 + σ.1 9)).1 19 = σ.1 19 := by rw [sG_ne (by omega), g3]
  rw [w23]
  refine rs_I H12 (by omega) rfl rfl (by omega) (by show _ < (64 : Int); omega) (fun h15 H15 => wq_gR H15.1 rfl (wq_gI H15.1 rfl ?_))
  rw [eP] at H15
  rw [show (sI (sG τ3 8 (σ.1 8 + σ.1 9)) 20 (σ.1 23).toInt.toNat 0).1 23 = σ.1 23 from w23]
  refine rs_I H15 (by omega) rfl rfl (by omega) (by show _ < (64 : Int); omega) (fun h18 H18 => wq_gR H18.1 rfl (wq_gI H18.1 rfl ?_))
  rw [eP] at H18
  rw [show (sI (sI (sG τ3 8 (σ.1 8 + σ.1 9)) 20 P 0) 21 (σ.1 23).toInt.toNat 0).1 23 = σ.1 23 from w23]
  refine rs_I H18 (by omega) rfl rfl (by omega) (by show _ < (64 : Int); omega) (fun h21 H21 => wq_gR H21.1 rfl (wq_gI H21.1 rfl ?_))
  rw [eP] at H21
  rw [show (sI (sI (sI (sG τ3 8 (σ.1 8 + σ.1 9)) 20 P 0) 21 P 0) 22 (σ.1 23).toInt.toNat (-1)).1 23 = σ.1 23 from w23]
  refine rs_I H21 (by omega) rfl rfl (by omega) (by show _ < (64 : Int); omega) (fun h24 H24 => wq_gR H24.1 rfl (wq_gI H24.1 rfl ?_))
  rw [eP] at H24
  rw [show (sI (sI (sI (sI (sG τ3 8 (σ.1 8 + σ.1 9)) 20 P 0) 21 P 0) 22 P (-1)) 23 (σ.1 23).toInt.toNat 0).1 23 = σ.1 23 from w23]
  refine rs_I H24 (by omega) rfl rfl (by omega) (by show _ < (64 : Int); omega) (fun h27 H27 => wq_gI H27.1 rfl (wq_gI H27.1 rfl ?_))
  rw [eP] at H27
  rw [show (sI (sI (sI (sI (sI (sG τ3 8 (σ.1 8 + σ.1 9)) 20 P 0) 21 P 0) 22 P (-1)) 23 P 0) 26 (σ.1 23).toInt.toNat 0).1 22 = σ.1 22 from w22, show (sI (sI (sI (sI (sI (sG τ3 8 (σ.1 8 + σ.1 9)) 20 P 0) 21 P 0) 22 P (-1)) 23 P 0) 26 (σ.1 23).toInt.toNat 0).1 19 = σ.1 19 from w19]
  refine rw_I H27 (by omega) rfl (fun h30 H30 => wq_gI H30.1 rfl ?_)
  rw [show (sG (sI (sI (sI (sI (sI (sG τ3 8 (σ.1 8 + σ.1 9)) 20 P 0) 21 P 0) 22 P (-1)) 23 P 0) 26 P 0) 22 (σ.1 22 + σ.1 19)).1 23 = σ.1 23 from (sG_ne (by omega)).trans w23]
  refine rw_I H30 (by omega) rfl (fun h32 H32 => wq_some (rV_i ?_))
  have y6 : ∀ a i, (a ≤ 19 ∨ 27 ≤ a ∨ a = 24 ∨ a = 25) → ia (sG (sG (sI (sI (sI (sI (sI (sG τ3 8 (σ.1 8 + σ.1 9)) 20 P 0) 21 P 0) 22 P (-1)) 23 P 0) 26 P 0) 22 (σ.1 22 + σ.1 19)) 23 (σ.1 23 + 1)) a i = ia τ3 a i := fun a i ha => by
    show ia (sI (sI (sI (sI (sI (sG τ3 8 (σ.1 8 + σ.1 9)) 20 P 0) 21 P 0) 22 P (-1)) 23 P 0) 26 P 0) a i = ia τ3 a i
    rw [sI_nj (by omega), sI_nj (by omega), sI_nj (by omega), sI_nj (by omega), sI_nj (by omega)]
  have yP : ∀ a i, i ≠ P → ia (sG (sG (sI (sI (sI (sI (sI (sG τ3 8 (σ.1 8 + σ.1 9)) 20 P 0) 21 P 0) 22 P (-1)) 23 P 0) 26 P 0) 22 (σ.1 22 + σ.1 19)) 23 (σ.1 23 + 1)) a i = ia τ3 a i := fun a i hi => by
    show ia (sI (sI (sI (sI (sI (sG τ3 8 (σ.1 8 + σ.1 9)) 20 P 0) 21 P 0) 22 P (-1)) 23 P 0) 26 P 0) a i = ia τ3 a i
    rw [sI_ni hi, sI_ni hi, sI_ni hi, sI_ni hi, sI_ni hi]
  refine ⟨_, H32, fun i hi => ?_, fun k k1 k2 k3 => ?_, ?_, ?_, ?_, fun t ht => ?_, fun a i h1 h2 h3 => ?_, fun a i h1 h2 h3 => ?_, fun a i h1 => ?_, fun j i h1 h2 => ?_, ?_, ?_, ?_, ?_, ?_, fun i hi => ?_⟩
  · rw [y6 0 i (by omega), y6 1 i (by omega)]
    exact O3 i hi
  · rw [sG_ne k3, sG_ne k2]
    show (sG τ3 8 (σ.1 8 + σ.1 9)).1 k = σ.1 k
    rw [sG_ne k1, g3]
  · rw [sG_ne (by omega), sG_ne (by omega)]
    show ((sG τ3 8 (σ.1 8 + σ.1 9)).1 8).toInt = _
    rw [sG_eq, ad_i (by omega) (by omega)]
  · rw [sG_ne (by omega), sG_eq, ad_i (by omega) (by omega)]
    omega
  · rw [sG_eq, ad_i (by omega) (by omega), e1]
    omega
  · obtain ⟨z1, z2, z3, z4, z5⟩ := l4 t (by omega)
    rw [y6 8 _ (by omega), y6 9 _ (by omega), y6 10 _ (by omega), y6 11 _ (by omega), y6 12 _ (by omega), a6 8 _ (by omega), a6 9 _ (by omega), a6 10 _ (by omega), a6 11 _ (by omega), a6 12 _ (by omega), x6 8 _ (by omega), x6 9 _ (by omega), x6 10 _ (by omega), x6 11 _ (by omega), x6 12 _ (by omega)]
    exact ⟨z1, z2, z3, z4, z5⟩
  · rw [y6 a i (by omega), a6 a i (by omega), x6 a i (by omega), l3 a i h1 h2 h3]
  · rw [yP a i h3, a6 a i (by omega), xP a i h3, l2 a i (by omega)]
  · rw [y6 a i (by omega), a6 a i (by omega), x6 a i (by omega), l2 a i (by omega)]
  · rw [y6 j i (by omega), a3 j i h1 (by rw [xf]; omega), x6 j i (by omega), l2 j i (by omega)]
  · rw [y6 17 _ (by omega), a6 17 _ (by omega), x17]
    exact er
  · rw [y6 18 _ (by omega), a6 18 _ (by omega), x18]
  · rw [y6 19 _ (by omega), a6 19 _ (by omega), x19]
  · show (ia (sI (sI (sI (sI (sI (sG τ3 8 (σ.1 8 + σ.1 9)) 20 P 0) 21 P 0) 22 P (-1)) 23 P 0) 26 P 0) 20 P).toInt = 0
    rw [sI_nj (by omega), sI_nj (by omega), sI_nj (by omega), sI_nj (by omega), sI_eq]
    rfl
  · show (ia (sI (sI (sI (sI (sI (sG τ3 8 (σ.1 8 + σ.1 9)) 20 P 0) 21 P 0) 22 P (-1)) 23 P 0) 26 P 0) 26 P).toInt = 0
    rw [sI_eq]
    rfl
  · have kk := kc i (by rw [xf]; exact hi)
    rw [xf] at kk
    rw [y6 0 _ (by omega), y6 1 _ (by omega), y6 2 _ (by omega), y6 3 _ (by omega)]
    rw [x6 0 _ (by omega), x6 2 _ (by omega), x6 3 _ (by omega), l2 0 _ (by omega), l2 2 _ (by omega), l2 3 _ (by omega)] at kk
    exact kk
/-- a process that is kept -/
theorem RI_k {P : Nat} {σ' : rS} (R : RI σ) (hN : (σ.1 19).toInt = N) (hP : (σ.1 23).toInt = P) (hP2 : P < 64) (hB : (σ.1 22).toInt + 4000 = B) (hBN : B + N ≤ 24000) (hT : ∀ c : Int, 0 ≤ c → c < (σ.1 19).toInt → RT σ c) (h1 : (σ.1 21).toInt = 1) (hb : bd σ (ia σ 15 0).toInt) (K : kpP σ σ' B N P) : RI (sG (sG (sG σ' 19 0) 21 0) 9 0) ∧ SS σ (sG (sG (sG σ' 19 0) 21 0) 9 0) := by
  obtain ⟨O, D, A, ⟨Nn, V⟩, Pp⟩ := id R
  obtain ⟨n1, n2, n3, n4, n5, n6, n7, n8, n9, n10⟩ := id Nn
  obtain ⟨k1, k2, k3, k4, k5, k6, k7, k8, k9, k10, k11, k12, k13, k14, k15, -⟩ := K
  have e0 : (0 : Int32).toInt = 0 := rfl
  have f : ∀ k, k ≠ 9 → k ≠ 19 → k ≠ 21 → (sG (sG (sG σ' 19 0) 21 0) 9 0).1 k = σ'.1 k := fun k h1 h2 h3 => by rw [sG_ne h1, sG_ne h3, sG_ne h2]
  have f9 : (sG (sG (sG σ' 19 0) 21 0) 9 0).1 9 = 0 := sG_eq
  have f19 : (sG (sG (sG σ' 19 0) 21 0) 9 0).1 19 = 0 := by rw [sG_ne (by omega), sG_ne (by omega), sG_eq]
  have f21 : (sG (sG (sG σ' 19 0) 21 0) 9 0).1 21 = 0 := by rw [sG_ne (by omega), sG_eq]
  have fa : ∀ j i, ia (sG (sG (sG σ' 19 0) 21 0) 9 0) j i = ia σ' j i := fun _ _ => rfl
  have O' : OKV (sG (sG (sG σ' 19 0) 21 0) 9 0) := k1
  generalize sG (sG (sG σ' 19 0) 21 0) 9 0 = ρ at f f9 f19 f21 fa O'
  refine ⟨⟨O', DI_z f19 f21, AI_f A (by rw [f 46 (by omega) (by omega) (by omega), k2 46 (by omega) (by omega) (by omega)]) (by rw [f 47 (by omega) (by omega) (by omega), k2 47 (by omega) (by omega) (by omega)]) (fun i => by rw [fa, k9 37 i (by omega)]), ⟨?_, fun v hv => ?_⟩, fun a h0 hl => ?_⟩, by rw [f 7 (by omega) (by omega) (by omega), k2 7 (by omega) (by omega) (by omega)], fun j i hj hi => by rw [fa, k10 j i hj (by omega)]⟩
  · unfold NJ
    rw [f 7 (by omega) (by omega) (by omega), f 8 (by omega) (by omega) (by omega), f9, f 22 (by omega) (by omega) (by omega), f 23 (by omega) (by omega) (by omega), k2 7 (by omega) (by omega) (by omega), k3, k4, k5, e0]
    omega
  · rw [f9, e0] at hv
    omega
  · rw [f 23 (by omega) (by omega) (by omega), k5] at hl
    have r22 : (at39 ρ a).1 22 = σ'.1 22 := by rw [sG_ne (by omega), f 22 (by omega) (by omega) (by omega)]
    by_cases e : a.toInt.toNat = P
    · -- the new one
      obtain ⟨r1, r2, r3, -, r5⟩ := D.2.2.2.2.2 0 (by omega)
      have r5 := r5 (by omega)
      have e39 : (at39 ρ a).1 39 = a := sG_eq
      have KK : KP σ (at39 ρ a) B := by
        refine ⟨D, hT, fun t ht => ?_, ⟨by omega, by omega, by rw [r22, k4]; omega⟩, ?_⟩
        · obtain ⟨z1, z2, z3, z4, z5⟩ := k6 t ht
          rw [show ia (at39 ρ a) 8 (B + t) = ia σ' 8 (B + t) from fa _ _, show ia (at39 ρ a) 9 (B + t) = ia σ' 9 (B + t) from fa _ _, show ia (at39 ρ a) 10 (B + t) = ia σ' 10 (B + t) from fa _ _, show ia (at39 ρ a) 11 (B + t) = ia σ' 11 (B + t) from fa _ _, show ia (at39 ρ a) 12 (B + t) = ia σ' 12 (B + t) from fa _ _]
          exact ⟨z1, z2, z3, z4, z5⟩
        · rw [e39, show ia (at39 ρ a) 19 a.toInt.toNat = ia σ' 19 a.toInt.toNat from fa _ _, e, k13]
      have rb := k_root KK r1 r2 hb r3
      unfold PQ
      rw [fa 20, fa 26, fa 17, e, k11, k14, k15]
      refine ⟨?_, ⟨99, by omega, ?_⟩, by omega, by omega, fun _ => ⟨0, 101, false, rfl, rfl, rfl⟩, fun h => absurd h (by omega)⟩
      · unfold PV
        rw [e39, show ia (at39 ρ a) 18 a.toInt.toNat = ia σ' 18 a.toInt.toNat from fa _ _, show ia (at39 ρ a) 19 a.toInt.toNat = ia σ' 19 a.toInt.toNat from fa _ _, e, k12, k13]
        omega
      · rw [show ((B : Int) + N - 1) = (B : Int) + (ia σ 15 0).toInt by omega]
        exact rb
    · have Pa := Pp a h0 (by omega)
      have e22 : (at39 σ a).1 22 = σ.1 22 := sG_ne (by omega)
      exact PQ_of ⟨by rw [r22, e22, k4]; omega, fun j i h1 h2 h3 h4 => by rw [show ia (at39 ρ a) j i = ia σ' j i from fa _ _]; exact k7 j i h1 h2 (by rw [e22] at h4; omega), by rw [sG_eq, sG_eq], by rw [sG_eq]; exact (fa _ _).trans (k8 18 _ (by omega) (by omega) e), by rw [sG_eq]; exact (fa _ _).trans (k8 19 _ (by omega) (by omega) e)⟩ ((fa _ _).trans (k8 17 _ (by omega) (by omega) e)) ((fa _ _).trans (k8 20 _ (by omega) (by omega) e)) ((fa _ _).trans (k8 24 _ (by omega) (by omega) e)) ((fa _ _).trans (k8 26 _ (by omega) (by omega) e)) (fun i _ => ⟨(fa _ _).trans (k9 27 _ (by omega)), (fa _ _).trans (k9 28 _ (by omega))⟩) Pa
/-- values of nodes that are right -/
theorem RV_of (R : RI σ) {c : Int} (h : RT σ c) : RV σ c := by
  obtain ⟨-, hx, -⟩ := h
  have n6 := R.2.2.2.1.1.2.2.2.2.2.1
  refine ⟨fun e => ?_, fun e => ?_⟩
  · obtain ⟨-, -, -, r80, -⟩ := hx (by unfold isX; omega)
    exact r80 e
  · obtain ⟨-, -, -, -, r81, -⟩ := hx (by unfold isX; omega)
    have := r81 e
    omega
end Pc
