/-! NODES ARE COPIED, PROCESSES MADE -/
section Pq
variable {lim : Nat × Nat} {K : Nat} {ws : Nat × Nat → Bool} {c n d : Nat} {κ0 κ : kM} {h0 h b : ah_H} {a : Nat}
theorem n_copyOf {src mm N : Nat} {j : Int32} {vs : List AV} (A : AL K ws c n κ0 h0 κ h) (t : κ src = some (100, mm)) (e : h.1 src = some (100, vs)) (hj : j.toInt = N) (hN : N < mm) (hr : h.2.1 + 1 ≤ lim.1 ∧ h.2.2.1 + N ≤ lim.2) :
    wq (vc lim (d + 1) m_Arrays_copyOf [aR src, aI j] h) (rR fun r h' => r = some h.2.1 ∧ AL K ws (c + 1) (n + N) κ0 h0 (ins κ h.2.1 (100, N)) h' ∧ h'.1 h.2.1 = some (100, vs.take N) ∧ (∀ q, q < h.2.1 → h'.1 q = h.1 q) ∧ h'.2.1 = h.2.1 + 1 ∧ h'.2.2.1 = h.2.2.1 + N) := by
  have g1 := A.2.2.2.2.2.1
  have ls : src < h.2.1 := A.2.1 _ _ t
  obtain ⟨vs', ev, ov1, ov2, ov3⟩ := A.1.1 src 100 mm t
  have ev : h.1 src = some (100, vs') := ev
  rw [e] at ev
  cases ev
  refine wq_eq e_Arrays_copyOf (wq_len e (by decide) ?_)
  rw [ov1]
  have hm : (Nat.toInt32 mm).toInt = mm := i32n ov2
  refine wq_f (fun eq => ?_) ?_
  · have := congrArg Int32.toInt eq
    omega
  have hg : ¬ j < 0 := ix_ge (by omega)
  have hn : j.toNatClampNeg = N := by rw [tn_i (by omega)]; omega
  refine wq_mka hg hn (by omega) ⟨by omega, hr.2⟩ ?_
  have e2 : (ah_new h (100, List.replicate N (.inl 0)) N).1 src = some (100, vs) := nw_ne (by omega) e
  refine wq_len e2 (by decide) ?_
  rw [ov1]
  have hlt : j < Nat.toInt32 mm := Int32.lt_iff_toInt_lt.mpr (by omega)
  rw [if_pos hlt]
  have hall : vs.all ah_isI = true := by
    rw [List.all_eq_true]
    intro v hv
    obtain ⟨i, hi, ei⟩ := List.getElem_of_mem hv
    obtain ⟨x, ex⟩ := ov3 i (by omega)
    rw [List.getElem?_eq_getElem hi, ei] at ex
    cases ex
    rfl
  have hcp : ∀ {ρ : Type} {K1 : ah_H → Option ρ} {Φ : ρ → Prop}, wq (K1 (ah_up (ah_new h (100, List.replicate N (.inl 0)) N) h.2.1 (100, vs.take N))) Φ → wq (ah_cp (ah_new h (100, List.replicate N (.inl 0)) N) (some src) 0 (some h.2.1) 0 j K1) Φ := by
    intro ρ K1 Φ k
    refine wq_at e2 (wq_at nw_eq (wq_f ?_ ?_))
    · rw [hall, List.length_replicate]
      rintro (h1 | h1 | h1 | h1 | h1 | h1)
      · exact absurd h1 (by decide)
      · exact absurd h1 (by decide)
      · exact hg h1
      · cases h1
      · have h1 : vs.length < 0 + j.toNatClampNeg := h1
        omega
      · have h1 : N < 0 + j.toNatClampNeg := h1
        omega
    · have hl : (List.replicate N (Sum.inl 0 : AV)).take (Int32.toNatClampNeg 0) ++ ((vs.drop (Int32.toNatClampNeg 0)).take j.toNatClampNeg ++ (List.replicate N (Sum.inl 0 : AV)).drop (Int32.toNatClampNeg 0 + j.toNatClampNeg)) = vs.take N := by
        rw [hn]
        show (List.replicate N (Sum.inl 0 : AV)).take 0 ++ ((vs.drop 0).take N ++ (List.replicate N (Sum.inl 0 : AV)).drop (0 + N)) = vs.take N
        rw [List.take_zero, List.drop_zero, List.nil_append, List.drop_of_length_le (by rw [List.length_replicate]; omega), List.append_nil]
      rw [hl]
      exact k
  refine hcp (wq_some (rR_i ⟨rfl, ?_, up_eq, fun q hq => up_ne (by omega) (nw_ne (by omega) rfl), rfl, rfl⟩))
  have A1 := AL_new (o := (100, List.replicate N (.inl 0))) (k := N) A
  have A2 := AL_up (o := (100, vs.take N)) (a := h.2.1) A1 g1 (AL_fr A (Nat.le_refl _))
  refine AL_ins (a := h.2.1) (kd := 100) (m := N) A2 g1 (Nat.lt_succ_self _) (AL_fr A (Nat.le_refl _)) up_eq ⟨?_, by omega, fun i hi => ?_⟩
  · rw [List.length_take]
    omega
  · obtain ⟨x, ex⟩ := ov3 i (by omega)
    exact ⟨x, by rw [List.getElem?_take_of_lt hi]; exact ex⟩
/-- one array more is copied into a field -/
theorem n_cp {src mm N f : Nat} {j : Int32} {fs vs : List AV} {Φ : ah_R → Prop} {K1 : ah_H → Option ah_R} (A : AL K ws c n κ0 h0 κ h) (ha : h0.2.1 ≤ a) (hl : a < h.2.1) (hn : κ a = none) (ea : h.1 a = some (5, fs)) (hf : f < fs.length) (t : κ src = some (100, mm)) (e : h.1 src = some (100, vs)) (hj : j.toInt = N) (hN : N < mm) (hr : h.2.1 + 1 ≤ lim.1 ∧ h.2.2.1 + N ≤ lim.2)
    (k : ∀ h' κ', κ' = ins κ h.2.1 (100, N) → AL K ws (c + 1) (n + N) κ0 h0 κ' h' → κ' a = none → h'.1 a = some (5, fs.set f (aR h.2.1)) → h'.1 h.2.1 = some (100, vs.take N) → (∀ q, q < h.2.1 → q ≠ a → h'.1 q = h.1 q) → h'.2.1 = h.2.1 + 1 → h'.2.2.1 = h.2.2.1 + N → wq (K1 h') Φ) :
    wq (ah_cR (vc lim (d + 1) 260 [aR src, aI j] h) (nx h) fun r8 h7 => ah_wr h7 (some a) 5 f (.inr (.inr r8)) K1) Φ := by
  refine wq_cR (n_copyOf A t e hj hN hr) ?_
  rintro r h7 ⟨rfl, A7, e7, o7, m7, r7⟩
  have n7 : ins κ h.2.1 (100, N) a = none := ins_ne (by omega) hn
  refine wq_wr ((o7 a hl).trans ea) hf (k _ _ rfl (AL_up A7 ha n7) n7 up_eq (up_ne (by omega) e7) (fun q h1 h2 => up_ne h2 (o7 q h1)) m7 r7)
theorem n_Nodes_init2 {v1 mm N : Nat} {cn kt : Int32} {S : Nat → Nat} {L : Nat → List AV} (A : AL K ws c n κ0 h0 κ h) (ha : h0.2.1 ≤ a) (hl : a < h.2.1) (hn : κ a = none) (ea : h.1 a = some (5, [aN, aN, aN, aN, aN, aN, aN, aN, aI 0, aI 0])) (e1 : h.1 v1 = some (5, [aR (S 0), aR (S 1), aR (S 2), aR (S 3), aR (S 4), aR (S 5), aR (S 6), aR (S 7), aI cn, aI kt])) (l1 : v1 < h.2.1) (n1 : v1 ≠ a) (ts : ∀ i, i < 8 → κ (S i) = some (100, mm)) (es : ∀ i, i < 8 → h.1 (S i) = some (100, L i)) (hc : cn.toInt = N) (hN : N < mm) (hr : h.2.1 + 8 ≤ lim.1 ∧ h.2.2.1 + 8 * N ≤ lim.2) :
    wq (vc lim (d + 2) m_Nodes_init2 [aR a, aR v1] h) (rV fun h' => ∃ κ', AL K ws (c + 8) (n + 8 * N) κ0 h0 κ' h' ∧ κ' a = none ∧ (∀ q, q < h.2.1 → κ' q = κ q) ∧ h'.1 a = some (5, [aR h.2.1, aR (h.2.1 + 1), aR (h.2.1 + 2), aR (h.2.1 + 3), aR (h.2.1 + 4), aR (h.2.1 + 5), aR (h.2.1 + 6), aR (h.2.1 + 7), aI cn, aI kt]) ∧ (∀ i, i < 8 → κ' (h.2.1 + i) = some (100, N) ∧ h'.1 (h.2.1 + i) = some (100, (L i).take N)) ∧ (∀ q, q < h.2.1 → q ≠ a → h'.1 q = h.1 q) ∧ h'.2.1 = h.2.1 + 8 ∧ h'.2.2.1 = h.2.2.1 + 8 * N) := by
  have sa : ∀ i, i < 8 → S i ≠ a := fun i hi e => by have := ts i hi; rw [e, hn] at this; cases this
  have sl : ∀ i, i < 8 → S i < h.2.1 := fun i hi => A.2.1 _ _ (ts i hi)
  refine wq_eq e_Nodes_init2 (wq_nn (wq_gI e1 rfl (wq_wr ea (Nat.le_of_ble_eq_true rfl) ?_)))
  refine wq_gI (up_ne n1 e1) rfl (wq_wr up_eq (Nat.le_of_ble_eq_true rfl) ?_)
  have A0 := AL_up (o := (5, [aN, aN, aN, aN, aN, aN, aN, aN, aI cn, aI kt])) (AL_up (o := (5, [aN, aN, aN, aN, aN, aN, aN, aN, aI cn, aI 0])) A ha hn) ha hn
  have f0 : ∀ q, q ≠ a → (ah_up (ah_up h a (5, [aN, aN, aN, aN, aN, aN, aN, aN, aI cn, aI 0])) a (5, [aN, aN, aN, aN, aN, aN, aN, aN, aI cn, aI kt])).1 q = h.1 q := fun q hq => up_ne hq (up_ne hq rfl)
  have E0 := (f0 v1 n1).trans e1
  have ea0 : (ah_up (ah_up h a (5, [aN, aN, aN, aN, aN, aN, aN, aN, aI cn, aI 0])) a (5, [aN, aN, aN, aN, aN, aN, aN, aN, aI cn, aI kt])).1 a = some (5, [aN, aN, aN, aN, aN, aN, aN, aN, aI cn, aI kt]) := up_eq
  have m0 : (ah_up (ah_up h a (5, [aN, aN, aN, aN, aN, aN, aN, aN, aI cn, aI 0])) a (5, [aN, aN, aN, aN, aN, aN, aN, aN, aI cn, aI kt])).2.1 = h.2.1 := rfl
  have r0 : (ah_up (ah_up h a (5, [aN, aN, aN, aN, aN, aN, aN, aN, aI cn, aI 0])) a (5, [aN, aN, aN, aN, aN, aN, aN, aN, aI cn, aI kt])).2.2.1 = h.2.2.1 := rfl
  have T0 := ts
  have Q0 : ∀ q, q < h.2.1 → κ q = κ q := fun _ _ => rfl
  have nn0 := hn
  refine wq_gR E0 rfl (wq_gI ea0 rfl (n_cp (f := 0) A0 ha hl nn0 ea0 (Nat.le_of_ble_eq_true rfl) (T0 0 (by omega)) ((f0 _ (sa 0 (by omega))).trans (es 0 (by omega))) hc hN ⟨by show h.2.1 + 1 ≤ _; omega, by show h.2.2.1 + N ≤ _; omega⟩ ?_))
  intro h1 κ1 k1 A1 nn1 ea1 er1 o1 m1 r1
  have M1 : h1.2.1 = h.2.1 + 1 := m1
  have R1 : h1.2.2.1 = h.2.2.1 + 1 * N := by have r1 : h1.2.2.1 = h.2.2.1 + N := r1; omega
  have f1 : ∀ q, q ≠ a → q < h.2.1 → h1.1 q = h.1 q := fun q hq hq2 => (o1 q hq2 hq).trans (f0 q hq)
  have E1 := (o1 v1 l1 n1).trans E0
  have Q1 : ∀ q, q < h.2.1 → κ1 q = κ q := fun q hq => by rw [k1]; exact ins_ne (by show q ≠ h.2.1; omega) (Q0 q hq)
  have T1 : ∀ i, i < 8 → κ1 (S i) = some (100, mm) := fun i hi => (Q1 _ (sl i hi)).trans (ts i hi)
  have p1_0 : κ1 (h.2.1) = some (100, N) ∧ h1.1 (h.2.1) = some (100, (L 0).take N) := ⟨by rw [k1]; exact ins_eq, er1⟩
  refine wq_gR E1 rfl (wq_gI ea1 rfl (n_cp (f := 1) A1 ha (by omega) nn1 ea1 (Nat.le_of_ble_eq_true rfl) (T1 1 (by omega)) ((f1 _ (sa 1 (by omega)) (sl 1 (by omega))).trans (es 1 (by omega))) hc hN ⟨by omega, by omega⟩ ?_))
  intro h2 κ2 k2 A2 nn2 ea2 er2 o2 m2 r2
  have M2 : h2.2.1 = h.2.1 + 2 := by omega
  have R2 : h2.2.2.1 = h.2.2.1 + 2 * N := by omega
  rw [M1] at ea2 er2 k2
  have f2 : ∀ q, q ≠ a → q < h.2.1 → h2.1 q = h.1 q := fun q hq hq2 => (o2 q (by omega) hq).trans (f1 q hq hq2)
  have E2 := (o2 v1 (by omega) n1).trans E1
  have Q2 : ∀ q, q < h.2.1 → κ2 q = κ q := fun q hq => by rw [k2]; exact ins_ne (by omega) (Q1 q hq)
  have T2 : ∀ i, i < 8 → κ2 (S i) = some (100, mm) := fun i hi => (Q2 _ (sl i hi)).trans (ts i hi)
  have p2_1 : κ2 (h.2.1 + 1) = some (100, N) ∧ h2.1 (h.2.1 + 1) = some (100, (L 1).take N) := ⟨by rw [k2]; exact ins_eq, er2⟩
  have p2_0 : κ2 (h.2.1) = some (100, N) ∧ h2.1 (h.2.1) = some (100, (L 0).take N) := ⟨by rw [k2]; exact ins_ne (by omega) p1_0.1, (o2 _ (by omega) (by omega)).trans p1_0.2⟩
  refine wq_gR E2 rfl (wq_gI ea2 rfl (n_cp (f := 2) A2 ha (by omega) nn2 ea2 (Nat.le_of_ble_eq_true rfl) (T2 2 (by omega)) ((f2 _ (sa 2 (by omega)) (sl 2 (by omega))).trans (es 2 (by omega))) hc hN ⟨by omega, by omega⟩ ?_))
  intro h3 κ3 k3 A3 nn3 ea3 er3 o3 m3 r3
  have M3 : h3.2.1 = h.2.1 + 3 := by omega
  have R3 : h3.2.2.1 = h.2.2.1 + 3 * N := by omega
  rw [M2] at ea3 er3 k3
  have f3 : ∀ q, q ≠ a → q < h.2.1 → h3.1 q = h.1 q := fun q hq hq2 => (o3 q (by omega) hq).trans (f2 q hq hq2)
  have E3 := (o3 v1 (by omega) n1).trans E2
  have Q3 : ∀ q, q < h.2.1 → κ3 q = κ q := fun q hq => by rw [k3]; exact ins_ne (by omega) (Q2 q hq)
  have T3 : ∀ i, i < 8 → κ3 (S i) = some (100, mm) := fun i hi => (Q3 _ (sl i hi)).trans (ts i hi)
  have p3_2 : κ3 (h.2.1 + 2) = some (100, N) ∧ h3.1 (h.2.1 + 2) = some (100, (L 2).take N) := ⟨by rw [k3]; exact ins_eq, er3⟩
  have p3_0 : κ3 (h.2.1) = some (100, N) ∧ h3.1 (h.2.1) = some (100, (L 0).take N) := ⟨by rw [k3]; exact ins_ne (by omega) p2_0.1, (o3 _ (by omega) (by omega)).trans p2_0.2⟩
  have p3_1 : κ3 (h.2.1 + 1) = some (100, N) ∧ h3.1 (h.2.1 + 1) = some (100, (L 1).take N) := ⟨by rw [k3]; exact ins_ne (by omega) p2_1.1, (o3 _ (by omega) (by omega)).trans p2_1.2⟩
  refine wq_gR E3 rfl (wq_gI ea3 rfl (n_cp (f := 3) A3 ha (by omega) nn3 ea3 (Nat.le_of_ble_eq_true rfl) (T3 3 (by omega)) ((f3 _ (sa 3 (by omega)) (sl 3 (by omega))).trans (es 3 (by omega))) hc hN ⟨by omega, by omega⟩ ?_))
  intro h4 κ4 k4 A4 nn4 ea4 er4 o4 m4 r4
  have M4 : h4.2.1 = h.2.1 + 4 := by omega
  have R4 : h4.2.2.1 = h.2.2.1 + 4 * N := by omega
  rw [M3] at ea4 er4 k4
  have f4 : ∀ q, q ≠ a → q < h.2.1 → h4.1 q = h.1 q := fun q hq hq2 => (o4 q (by omega) hq).trans (f3 q hq hq2)
  have E4 := (o4 v1 (by omega) n1).trans E3
  have Q4 : ∀ q, q < h.2.1 → κ4 q = κ q := fun q hq => by rw [k4]; exact ins_ne (by omega) (Q3 q hq)
  have T4 : ∀ i, i < 8 → κ4 (S i) = some (100, mm) := fun i hi => (Q4 _ (sl i hi)).trans (ts i hi)
  have p4_3 : κ4 (h.2.1 + 3) = some (100, N) ∧ h4.1 (h.2.1 + 3) = some (100, (L 3).take N) := ⟨by rw [k4]; exact ins_eq, er4⟩
  have p4_0 : κ4 (h.2.1) = some (100, N) ∧ h4.1 (h.2.1) = some (100, (L 0).take N) := ⟨by rw [k4]; exact ins_ne (by omega) p3_0.1, (o4 _ (by omega) (by omega)).trans p3_0.2⟩
  have p4_1 : κ4 (h.2.1 + 1) = some (100, N) ∧ h4.1 (h.2.1 + 1) = some (100, (L 1).take N) := ⟨by rw [k4]; exact ins_ne (by omega) p3_1.1, (o4 _ (by omega) (by omega)).trans p3_1.2⟩
  have p4_2 : κ4 (h.2.1 + 2) = some (100, N) ∧ h4.1 (h.2.1 + 2) = some (100, (L 2).take N) := ⟨by rw [k4]; exact ins_ne (by omega) p3_2.1, (o4 _ (by omega) (by omega)).trans p3_2.2⟩
  refine wq_gR E4 rfl (wq_gI ea4 rfl (n_cp (f := 4) A4 ha (by omega) nn4 ea4 (Nat.le_of_ble_eq_true rfl) (T4 4 (by omega)) ((f4 _ (sa 4 (by omega)) (sl 4 (by omega))).trans (es 4 (by omega))) hc hN ⟨by omega, by omega⟩ ?_))
  intro h5 κ5 k5 A5 nn5 ea5 er5 o5 m5 r5
  have M5 : h5.2.1 = h.2.1 + 5 := by omega
  have R5 : h5.2.2.1 = h.2.2.1 + 5 * N := by omega
  rw [M4] at ea5 er5 k5
  have f5 : ∀ q, q ≠ a → q < h.2.1 → h5.1 q = h.1 q := fun q hq hq2 => (o5 q (by omega) hq).trans (f4 q hq hq2)
  have E5 := (o5 v1 (by omega) n1).trans E4
  have Q5 : ∀ q, q < h.2.1 → κ5 q = κ q := fun q hq => by rw [k5]; exact ins_ne (by omega) (Q4 q hq)
  have T5 : ∀ i, i < 8 → κ5 (S i) = some (100, mm) := fun i hi => (Q5 _ (sl i hi)).trans (ts i hi)
  have p5_4 : κ5 (h.2.1 + 4) = some (100, N) ∧ h5.1 (h.2.1 + 4) = some (100, (L 4).take N) := ⟨by rw [k5]; exact ins_eq, er5⟩
  have p5_0 : κ5 (h.2.1) = some (100, N) ∧ h5.1 (h.2.1) = some (100, (L 0).take N) := ⟨by rw [k5]; exact ins_ne (by omega) p4_0.1, (o5 _ (by omega) (by omega)).trans p4_0.2⟩
  have p5_1 : κ5 (h.2.1 + 1) = some (100, N) ∧ h5.1 (h.2.1 + 1) = some (100, (L 1).take N) := ⟨by rw [k5]; exact ins_ne (by omega) p4_1.1, (o5 _ (by omega) (by omega)).trans p4_1.2⟩
  have p5_2 : κ5 (h.2.1 + 2) = some (100, N) ∧ h5.1 (h.2.1 + 2) = some (100, (L 2).take N) := ⟨by rw [k5]; exact ins_ne (by omega) p4_2.1, (o5 _ (by omega) (by omega)).trans p4_2.2⟩
  have p5_3 : κ5 (h.2.1 + 3) = some (100, N) ∧ h5.1 (h.2.1 + 3) = some (100, (L 3).take N) := ⟨by rw [k5]; exact ins_ne (by omega) p4_3.1, (o5 _ (by omega) (by omega)).trans p4_3.2⟩
  refine wq_gR E5 rfl (wq_gI ea5 rfl (n_cp (f := 5) A5 ha (by omega) nn5 ea5 (Nat.le_of_ble_eq_true rfl) (T5 5 (by omega)) ((f5 _ (sa 5 (by omega)) (sl 5 (by omega))).trans (es 5 (by omega))) hc hN ⟨by omega, by omega⟩ ?_))
  intro h6 κ6 k6 A6 nn6 ea6 er6 o6 m6 r6
  have M6 : h6.2.1 = h.2.1 + 6 := by omega
  have R6 : h6.2.2.1 = h.2.2.1 + 6 * N := by omega
  rw [M5] at ea6 er6 k6
  have f6 : ∀ q, q ≠ a → q < h.2.1 → h6.1 q = h.1 q := fun q hq hq2 => (o6 q (by omega) hq).trans (f5 q hq hq2)
  have E6 := (o6 v1 (by omega) n1).trans E5
  have Q6 : ∀ q, q < h.2.1 → κ6 q = κ q := fun q hq => by rw [k6]; exact ins_ne (by omega) (Q5 q hq)
  have T6 : ∀ i, i < 8 → κ6 (S i) = some (100, mm) := fun i hi => (Q6 _ (sl i hi)).trans (ts i hi)
  have p6_5 : κ6 (h.2.1 + 5) = some (100, N) ∧ h6.1 (h.2.1 + 5) = some (100, (L 5).take N) := ⟨by rw [k6]; exact ins_eq, er6⟩
  have p6_0 : κ6 (h.2.1) = some (100, N) ∧ h6.1 (h.2.1) = some (100, (L 0).take N) := ⟨by rw [k6]; exact ins_ne (by omega) p5_0.1, (o6 _ (by omega) (by omega)).trans p5_0.2⟩
  have p6_1 : κ6 (h.2.1 + 1) = some (100, N) ∧ h6.1 (h.2.1 + 1) = some (100, (L 1).take N) := ⟨by rw [k6]; exact ins_ne (by omega) p5_1.1, (o6 _ (by omega) (by omega)).trans p5_1.2⟩
  have p6_2 : κ6 (h.2.1 + 2) = some (100, N) ∧ h6.1 (h.2.1 + 2) = some (100, (L 2).take N) := ⟨by rw [k6]; exact ins_ne (by omega) p5_2.1, (o6 _ (by omega) (by omega)).trans p5_2.2⟩
  have p6_3 : κ6 (h.2.1 + 3) = some (100, N) ∧ h6.1 (h.2.1 + 3) = some (100, (L 3).take N) := ⟨by rw [k6]; exact ins_ne (by omega) p5_3.1, (o6 _ (by omega) (by omega)).trans p5_3.2⟩
  have p6_4 : κ6 (h.2.1 + 4) = some (100, N) ∧ h6.1 (h.2.1 + 4) = some (100, (L 4).take N) := ⟨by rw [k6]; exact ins_ne (by omega) p5_4.1, (o6 _ (by omega) (by omega)).trans p5_4.2⟩
  refine wq_gR E6 rfl (wq_gI ea6 rfl (n_cp (f := 6) A6 ha (by omega) nn6 ea6 (Nat.le_of_ble_eq_true rfl) (T6 6 (by omega)) ((f6 _ (sa 6 (by omega)) (sl 6 (by omega))).trans (es 6 (by omega))) hc hN ⟨by omega, by omega⟩ ?_))
  intro h7 κ7 k7 A7 nn7 ea7 er7 o7 m7 r7
  have M7 : h7.2.1 = h.2.1 + 7 := by omega
  have R7 : h7.2.2.1 = h.2.2.1 + 7 * N := by omega
  rw [M6] at ea7 er7 k7
  have f7 : ∀ q, q ≠ a → q < h.2.1 → h7.1 q = h.1 q := fun q hq hq2 => (o7 q (by omega) hq).trans (f6 q hq hq2)
  have E7 := (o7 v1 (by omega) n1).trans E6
  have Q7 : ∀ q, q < h.2.1 → κ7 q = κ q := fun q hq => by rw [k7]; exact ins_ne (by omega) (Q6 q hq)
  have T7 : ∀ i, i < 8 → κ7 (S i) = some (100, mm) := fun i hi => (Q7 _ (sl i hi)).trans (ts i hi)
  have p7_6 : κ7 (h.2.1 + 6) = some (100, N) ∧ h7.1 (h.2.1 + 6) = some (100, (L 6).take N) := ⟨by rw [k7]; exact ins_eq, er7⟩
  have p7_0 : κ7 (h.2.1) = some (100, N) ∧ h7.1 (h.2.1) = some (100, (L 0).take N) := ⟨by rw [k7]; exact ins_ne (by omega) p6_0.1, (o7 _ (by omega) (by omega)).trans p6_0.2⟩
  have p7_1 : κ7 (h.2.1 + 1) = some (100, N) ∧ h7.1 (h.2.1 + 1) = some (100, (L 1).take N) := ⟨by rw [k7]; exact ins_ne (by omega) p6_1.1, (o7 _ (by omega) (by omega)).trans p6_1.2⟩
  have p7_2 : κ7 (h.2.1 + 2) = some (100, N) ∧ h7.1 (h.2.1 + 2) = some (100, (L 2).take N) := ⟨by rw [k7]; exact ins_ne (by omega) p6_2.1, (o7 _ (by omega) (by omega)).trans p6_2.2⟩
  have p7_3 : κ7 (h.2.1 + 3) = some (100, N) ∧ h7.1 (h.2.1 + 3) = some (100, (L 3).take N) := ⟨by rw [k7]; exact ins_ne (by omega) p6_3.1, (o7 _ (by omega) (by omega)).trans p6_3.2⟩
  have p7_4 : κ7 (h.2.1 + 4) = some (100, N) ∧ h7.1 (h.2.1 + 4) = some (100, (L 4).take N) := ⟨by rw [k7]; exact ins_ne (by omega) p6_4.1, (o7 _ (by omega) (by omega)).trans p6_4.2⟩
  have p7_5 : κ7 (h.2.1 + 5) = some (100, N) ∧ h7.1 (h.2.1 + 5) = some (100, (L 5).take N) := ⟨by rw [k7]; exact ins_ne (by omega) p6_5.1, (o7 _ (by omega) (by omega)).trans p6_5.2⟩
  refine wq_gR E7 rfl (wq_gI ea7 rfl (n_cp (f := 7) A7 ha (by omega) nn7 ea7 (Nat.le_of_ble_eq_true rfl) (T7 7 (by omega)) ((f7 _ (sa 7 (by omega)) (sl 7 (by omega))).trans (es 7 (by omega))) hc hN ⟨by omega, by omega⟩ ?_))
  intro h8 κ8 k8 A8 nn8 ea8 er8 o8 m8 r8
  have M8 : h8.2.1 = h.2.1 + 8 := by omega
  have R8 : h8.2.2.1 = h.2.2.1 + 8 * N := by omega
  rw [M7] at ea8 er8 k8
  have f8 : ∀ q, q ≠ a → q < h.2.1 → h8.1 q = h.1 q := fun q hq hq2 => (o8 q (by omega) hq).trans (f7 q hq hq2)
  have E8 := (o8 v1 (by omega) n1).trans E7
  have Q8 : ∀ q, q < h.2.1 → κ8 q = κ q := fun q hq => by rw [k8]; exact ins_ne (by omega) (Q7 q hq)
  have T8 : ∀ i, i < 8 → κ8 (S i) = some (100, mm) := fun i hi => (Q8 _ (sl i hi)).trans (ts i hi)
  have p8_7 : κ8 (h.2.1 + 7) = some (100, N) ∧ h8.1 (h.2.1 + 7) = some (100, (L 7).take N) := ⟨by rw [k8]; exact ins_eq, er8⟩
  have p8_0 : κ8 (h.2.1) = some (100, N) ∧ h8.1 (h.2.1) = some (100, (L 0).take N) := ⟨by rw [k8]; exact ins_ne (by omega) p7_0.1, (o8 _ (by omega) (by omega)).trans p7_0.2⟩
  have p8_1 : κ8 (h.2.1 + 1) = some (100, N) ∧ h8.1 (h.2.1 + 1) = some (100, (L 1).take N) := ⟨by rw [k8]; exact ins_ne (by omega) p7_1.1, (o8 _ (by omega) (by omega)).trans p7_1.2⟩
  have p8_2 : κ8 (h.2.1 + 2) = some (100, N) ∧ h8.1 (h.2.1 + 2) = some (100, (L 2).take N) := ⟨by rw [k8]; exact ins_ne (by omega) p7_2.1, (o8 _ (by omega) (by omega)).trans p7_2.2⟩
  have p8_3 : κ8 (h.2.1 + 3) = some (100, N) ∧ h8.1 (h.2.1 + 3) = some (100, (L 3).take N) := ⟨by rw [k8]; exact ins_ne (by omega) p7_3.1, (o8 _ (by omega) (by omega)).trans p7_3.2⟩
  have p8_4 : κ8 (h.2.1 + 4) = some (100, N) ∧ h8.1 (h.2.1 + 4) = some (100, (L 4).take N) := ⟨by rw [k8]; exact ins_ne (by omega) p7_4.1, (o8 _ (by omega) (by omega)).trans p7_4.2⟩
  have p8_5 : κ8 (h.2.1 + 5) = some (100, N) ∧ h8.1 (h.2.1 + 5) = some (100, (L 5).take N) := ⟨by rw [k8]; exact ins_ne (by omega) p7_5.1, (o8 _ (by omega) (by omega)).trans p7_5.2⟩
  have p8_6 : κ8 (h.2.1 + 6) = some (100, N) ∧ h8.1 (h.2.1 + 6) = some (100, (L 6).take N) := ⟨by rw [k8]; exact ins_ne (by omega) p7_6.1, (o8 _ (by omega) (by omega)).trans p7_6.2⟩
  refine wq_some (rV_i ⟨κ8, AL_le A8 (by omega) (by omega), nn8, Q8, ea8, fun i hi => ?_, fun q h1 h2 => f8 q h2 h1, M8, R8⟩)
  match i, hi with
  | 0, _ => exact p8_0
  | 1, _ => exact p8_1
  | 2, _ => exact p8_2
  | 3, _ => exact p8_3
  | 4, _ => exact p8_4
  | 5, _ => exact p8_5
  | 6, _ => exact p8_6
  | 7, _ => exact p8_7
theorem n_Nodes_trimmed {v1 mm N : Nat} {cn kt : Int32} {S : Nat → Nat} {L : Nat → List AV} (A : AL K ws c n κ0 h0 κ h) (e1 : h.1 v1 = some (5, [aR (S 0), aR (S 1), aR (S 2), aR (S 3), aR (S 4), aR (S 5), aR (S 6), aR (S 7), aI cn, aI kt])) (l1 : v1 < h.2.1) (ts : ∀ i, i < 8 → κ (S i) = some (100, mm)) (es : ∀ i, i < 8 → h.1 (S i) = some (100, L i)) (hc : cn.toInt = N) (hN : N < mm) (hm : mm ≤ 4000) (hk : N ≤ K) (hkt : 0 ≤ kt.toInt) (hr : h.2.1 + 9 ≤ lim.1 ∧ h.2.2.1 + (10 + 8 * N) ≤ lim.2) :
    wq (vc lim (d + 3) m_Nodes_trimmed [aR v1] h) (rR fun r h' => ∃ κ', r = some h.2.1 ∧ AL K ws (c + 9) (n + (10 + 8 * N)) κ0 h0 κ' h' ∧ (∀ q v, κ q = some v → κ' q = some v) ∧ (∀ q, q < h.2.1 → κ' q = κ q) ∧ (∀ q, h.2.1 + 9 ≤ q → κ' q = none) ∧ κ' h.2.1 = some (5, N) ∧ h'.1 h.2.1 = some (5, [aR (h.2.1 + 1), aR (h.2.1 + 1 + 1), aR (h.2.1 + 1 + 2), aR (h.2.1 + 1 + 3), aR (h.2.1 + 1 + 4), aR (h.2.1 + 1 + 5), aR (h.2.1 + 1 + 6), aR (h.2.1 + 1 + 7), aI cn, aI kt]) ∧ (∀ i, i < 8 → κ' (h.2.1 + 1 + i) = some (100, N) ∧ h'.1 (h.2.1 + 1 + i) = some (100, (L i).take N)) ∧ (∀ q, q < h.2.1 → h'.1 q = h.1 q) ∧ h'.2.1 = h.2.1 + 9 ∧ h'.2.2.1 = h.2.2.1 + (10 + 8 * N)) := by
  have g1 := A.2.2.2.2.2.1
  refine wq_eq e_Nodes_trimmed (wq_mk ⟨by omega, by omega⟩ (wq_at nw_eq ?_))
  have A1 := AL_new (o := (5, [.inr (.inr none), .inr (.inr none), .inr (.inr none), .inr (.inr none), .inr (.inr none), .inr (.inr none), .inr (.inr none), .inr (.inr none), .inl 0, .inl 0])) (k := 10) A
  refine wq_cV (n_Nodes_init2 (L := L) A1 g1 (Nat.lt_succ_self _) (AL_fr A (Nat.le_refl _)) nw_eq (nw_ne (by omega) e1) (by show v1 < h.2.1 + 1; omega) (by omega) ts (fun i hi => nw_ne (by have := A.2.1 _ _ (ts i hi); omega) (es i hi)) hc hN ⟨by show h.2.1 + 1 + 8 ≤ _; omega, by show h.2.2.1 + 10 + 8 * N ≤ _; omega⟩) ?_
  rintro h3 ⟨κ', A3, n3, q3, e3, p3, o3, m3, r3⟩
  have m3 : h3.2.1 = h.2.1 + 1 + 8 := m3
  have r3 : h3.2.2.1 = h.2.2.1 + 10 + 8 * N := r3
  have p3 : ∀ i, i < 8 → κ' (h.2.1 + 1 + i) = some (100, N) ∧ h3.1 (h.2.1 + 1 + i) = some (100, (L i).take N) := p3
  have z : ∀ i, i < 8 → ins κ' h.2.1 (5, N) (h.2.1 + 1 + i) = some (100, N) := fun i hi => ins_ne (by omega) (p3 i hi).1
  have A4 := AL_ins (a := h.2.1) (kd := 5) (m := N) A3 g1 (by omega) n3 e3 (i5 (z 0 (by omega)) (z 1 (by omega)) (z 2 (by omega)) (z 3 (by omega)) (z 4 (by omega)) (z 5 (by omega)) (z 6 (by omega)) (z 7 (by omega)) (by omega) (by omega) (by omega) hkt (by omega))
  refine wq_some (rR_i ⟨_, rfl, AL_le A4 (by omega) (by omega), fun q v hq => ins_le n3 _ _ ((q3 q (by have := A.2.1 q v hq; show q < h.2.1 + 1; omega)).trans hq), fun q hq => ins_ne (by omega) (q3 q (by show q < h.2.1 + 1; omega)), fun q hq => AL_fr A4 (by omega), ins_eq, e3, fun i hi => ⟨z i hi, (p3 i hi).2⟩, fun q hq => ?_, by omega, by omega⟩)
  exact (o3 q (by show q < h.2.1 + 1; omega) (by omega)).trans (nw_ne (by omega) rfl)
theorem n_Unit_init {vn N : Nat} {cn : Int32} {fs : List AV} (A : AL K ws c n κ0 h0 κ h) (ha : h0.2.1 ≤ a) (hl : a < h.2.1) (hn : κ a = none) (ea : h.1 a = some (10, [aN, aN, aI 0, aI 0, aI 0, aI 0, aI 0, aI 0, aI 0, aJ 0, aN, aN])) (t1 : κ (a + 1) = some (5, N)) (e1 : h.1 (a + 1) = some (5, fs)) (ef : fs[8]? = some (aI cn)) (t2 : κ (a + 10) = some (8, vn)) (hc : cn.toInt = N) (hN : N ≤ 4000) (hr : h.2.1 + 2 ≤ lim.1 ∧ h.2.2.1 + 2 * N ≤ lim.2) :
    wq (vc lim (d + 1) m_Unit_init [aR a, aR (a + 1), aR (a + 10)] h) (rV fun h' => ∃ κ', AL K ws (c + 2) (n + 2 * N) κ0 h0 κ' h' ∧ (∀ q v, κ q = some v → κ' q = some v) ∧ κ' a = some (10, a) ∧ h'.1 a = some (10, [aR (a + 1), aR (a + 10), aI 0, aI 0, aI (-1), aI 0, aI 0, aI (-1), aI (-1), aJ (-1), aR h.2.1, aR (h.2.1 + 1)]) ∧ h'.1 h.2.1 = some (101, List.replicate N (aJ 0)) ∧ h'.1 (h.2.1 + 1) = some (101, List.replicate N (aJ 0)) ∧ (∀ q, q < h.2.1 → q ≠ a → h'.1 q = h.1 q) ∧ h'.2.1 = h.2.1 + 2 ∧ h'.2.2.1 = h.2.2.1 + 2 * N) := by
  have g1 := A.2.2.2.2.2.1
  have hna : a + 1 ≠ a := by omega
  have hva : a + 10 ≠ a := by omega
  have l1 := A.2.1 _ _ t1
  have l2 := A.2.1 _ _ t2
  have hg : ¬ cn < 0 := ix_ge (by omega)
  have hm : cn.toNatClampNeg = N := by rw [tn_i (by omega)]; omega
  refine wq_eq e_Unit_init (wq_nn ?_)
  refine wu A ha hn ea (Nat.le_of_ble_eq_true rfl) ?_
  intro h0 A0 e0_ o0 m0 r0
  refine wu A0 ha hn e0_ (Nat.le_of_ble_eq_true rfl) ?_
  intro h1 A1 e1_ o1 m1 r1
  refine wu A1 ha hn e1_ (Nat.le_of_ble_eq_true rfl) ?_
  intro h2 A2 e2_ o2 m2 r2
  refine wu A2 ha hn e2_ (Nat.le_of_ble_eq_true rfl) ?_
  intro h3 A3 e3_ o3 m3 r3
  refine wu A3 ha hn e3_ (Nat.le_of_ble_eq_true rfl) ?_
  intro h4 A4 e4_ o4 m4 r4
  refine wu A4 ha hn e4_ (Nat.le_of_ble_eq_true rfl) ?_
  intro h5 A5 e5_ o5 m5 r5
  refine wu A5 ha hn e5_ (Nat.le_of_ble_eq_true rfl) ?_
  intro h6 A6 e6_ o6 m6 r6
  refine wu A6 ha hn e6_ (Nat.le_of_ble_eq_true rfl) ?_
  intro h7 A7 e7_ o7 m7 r7
  have f7 : ∀ q, q ≠ a → h7.1 q = h.1 q := fun q hq => (o7 q hq).trans ((o6 q hq).trans ((o5 q hq).trans ((o4 q hq).trans ((o3 q hq).trans ((o2 q hq).trans ((o1 q hq).trans (o0 q hq)))))))
  refine wq_gI ((f7 _ hna).trans e1) ef ?_
  rw [if_neg hg]
  refine wna A7 rfl hc hN ⟨by omega, by omega⟩ (ok_rep101 hN) ?_
  intro h8 A8 e8 o8 m8 r8
  have n8 : ins κ h7.2.1 (101, N) a = none := ins_ne (by omega) hn
  refine wu A8 ha n8 ((o8 a (by omega)).trans e7_) (Nat.le_of_ble_eq_true rfl) ?_
  intro h9 A9 e9 o9 m9 r9
  refine wq_gI ((o9 _ hna).trans ((o8 _ (by omega)).trans ((f7 _ hna).trans e1))) ef ?_
  rw [if_neg hg]
  refine wna A9 rfl hc hN ⟨by omega, by omega⟩ (ok_rep101 hN) ?_
  intro h10 A10 e10 o10 m10 r10
  have n10 : ins (ins κ h7.2.1 (101, N)) h9.2.1 (101, N) a = none := ins_ne (by omega) n8
  refine wu A10 ha n10 ((o10 a (by omega)).trans e9) (Nat.le_of_ble_eq_true rfl) ?_
  intro h11 A11 e11 o11 m11 r11
  have q7 : h7.2.1 = h.2.1 := by omega
  have q9 : h9.2.1 = h.2.1 + 1 := by omega
  rw [q7] at e8 n10 A11 e11
  rw [q9] at e10 n10 A11 e11
  have A12 := AL_ins (a := a) (kd := 10) (m := a) A11 ha (by omega) n10 e11 (i10 (ins_le n10 _ _ (ins_ne (by omega) (ins_ne (by omega) t1))) (ins_le n10 _ _ (ins_ne (by omega) (ins_ne (by omega) t2))) (ins_ne (by omega) (ins_ne (by omega) ins_eq)) (ins_ne (by omega) ins_eq))
  refine wq_some (rV_i ⟨_, AL_le A12 (by omega) (by omega), fun q v hq => ?_, ins_eq, e11, ?_, ?_, fun q h1 h2 => ?_, by omega, by omega⟩)
  · have := A.2.1 q v hq
    exact ins_le n10 _ _ (ins_ne (by omega) (ins_ne (by omega) hq))
  · exact (o11 _ (by omega)).trans ((o10 _ (by omega)).trans ((o9 _ (by omega)).trans e8))
  · exact (o11 _ (by omega)).trans e10
  · exact (o11 q h2).trans ((o10 q (by omega)).trans ((o9 q h2).trans ((o8 q (by omega)).trans (f7 q h2))))
end Pq
