/-! THE REFERENCE'S CALLS: what is told -/
section As
variable {lim : Nat × Nat} {m d : Nat} {σ σ0 : rS} {b h : ah_H} {v1 v2 v3 v4 : Int32}
theorem rdK {ρ : Type} {Φ : ρ → Prop} {K1 : Int32 → Option ρ} {τ : rS} {j : Nat} {x : Int32} (H : RH m σ b h) (hv : vN τ x.toInt) (hj : 8 ≤ j ∧ j ≤ 14) (c : wq (K1 (ia σ j x.toInt.toNat)) Φ) : wq (ah_lI h (some (m + 1 + j)) 100 x K1) Φ := by
  have hk : rk j = 100 ∧ rn j = 24000 := by
    have : j = 8 ∨ j = 9 ∨ j = 10 ∨ j = 11 ∨ j = 12 ∨ j = 13 ∨ j = 14 := by omega
    rcases this with rfl | rfl | rfl | rfl | rfl | rfl | rfl <;> exact ⟨rfl, rfl⟩
  exact ra_I H (by omega) hk.1 rfl (by have := hv.1; omega) (by rw [hk.2]; exact hv.2.1) c
/-- a process's row -/
theorem rdP {ρ : Type} {Φ : ρ → Prop} {K1 : Int32 → Option ρ} {j : Nat} {x : Int32} (H : RH m σ b h) (h0 : 0 ≤ x.toInt) (h1 : x.toInt < 64) (hj : 16 ≤ j ∧ j ≤ 26 ∧ j ≠ 25) (c : wq (K1 (ia σ j x.toInt.toNat)) Φ) : wq (ah_lI h (some (m + 1 + j)) 100 x K1) Φ := by
  have hk : rk j = 100 ∧ rn j = 64 := by
    have : j = 16 ∨ j = 17 ∨ j = 18 ∨ j = 19 ∨ j = 20 ∨ j = 21 ∨ j = 22 ∨ j = 23 ∨ j = 24 ∨ j = 26 := by omega
    rcases this with rfl | rfl | rfl | rfl | rfl | rfl | rfl | rfl | rfl | rfl <;> exact ⟨rfl, rfl⟩
  exact ra_I H (by omega) hk.1 rfl h0 (by rw [hk.2]; exact h1) c
theorem w44 {n : Nat} {w : Bool} {s : Int} (h : xS σ n w s) (e : (ia σ 8 s.toNat).toInt = 44) : ∃ k, k + 1 ≤ n ∧ vN σ s ∧ vN σ ((ia σ 11 s.toNat).toInt) ∧ 0 ≤ (ia σ 10 (ia σ 11 s.toNat).toInt.toNat).toInt ∧ chn σ ((ia σ 10 (ia σ 11 s.toNat).toInt.toNat).toInt).toNat ((ia σ 11 (ia σ 11 s.toNat).toInt.toNat).toInt) ∧ vN σ ((ia σ 12 (ia σ 11 s.toNat).toInt.toNat).toInt) ∧ ((ia σ 8 (ia σ 12 (ia σ 11 s.toNat).toInt.toNat).toInt.toNat).toInt = 0 ∨ xE σ k ((ia σ 12 (ia σ 11 s.toNat).toInt.toNat).toInt)) := by
  match n, h with
  | 0, h => exact h.elim
  | 1, h => have := h.2; omega
  | n + 2, h =>
    obtain ⟨v, h⟩ := h
    rcases h with ⟨e', -⟩ | ⟨e', -⟩ | ⟨e', -⟩ | ⟨e', -⟩ | ⟨e' | e', -⟩ | ⟨e', -⟩ | ⟨e', -⟩ | ⟨e' | e', -⟩ | ⟨-, k1, k2, k3, k4, k5, -⟩ | e' | ⟨e', -⟩ | ⟨e', -⟩
    · omega
    · omega
    · omega
    · omega
    · omega
    · omega
    · omega
    · omega
    · omega
    · omega
    · exact ⟨n + 1, by omega, v, k1, k2, k3, k4, k5⟩
    · omega
    · omega
    · omega
/-- where a process waits -/
def wF (σ : rS) (a : Int32) : Prop := vN σ (ia σ 24 a.toInt.toNat).toInt ∧ vN σ ((ia σ 11 (ia σ 24 a.toInt.toNat).toInt.toNat).toInt) ∧ 0 ≤ (ia σ 10 (ia σ 11 (ia σ 24 a.toInt.toNat).toInt.toNat).toInt.toNat).toInt ∧ chn σ ((ia σ 10 (ia σ 11 (ia σ 24 a.toInt.toNat).toInt.toNat).toInt.toNat).toInt).toNat ((ia σ 11 (ia σ 11 (ia σ 24 a.toInt.toNat).toInt.toNat).toInt.toNat).toInt) ∧ vN σ ((ia σ 12 (ia σ 11 (ia σ 24 a.toInt.toNat).toInt.toNat).toInt.toNat).toInt) ∧ ∃ k, k ≤ 101 ∧ ((ia σ 8 ((ia σ 12 (ia σ 11 (ia σ 24 a.toInt.toNat).toInt.toNat).toInt.toNat).toInt).toNat).toInt = 0 ∨ xE σ k ((ia σ 12 (ia σ 11 (ia σ 24 a.toInt.toNat).toInt.toNat).toInt.toNat).toInt))
theorem wF_of {a : Int32} (h : wA σ a.toInt.toNat) : wF σ a := by
  obtain ⟨n, w, h1, h2, h3⟩ := h
  obtain ⟨k, g1, g2, g3, g4, g5, g6, g7⟩ := w44 h2 h3
  exact ⟨g2, g3, g4, g5, g6, k, by omega, g7⟩
theorem f_conditionOf {τ : rS} (H : RH m σ b h) (h0 : 0 ≤ v1.toInt) (h1 : v1.toInt < 64) (k1 : vN τ (ia σ 24 v1.toInt.toNat).toInt) (k2 : vN τ ((ia σ 11 (ia σ 24 v1.toInt.toNat).toInt.toNat).toInt)) : wq (vc lim (d + 1) m_Ref_conditionOf [.inr (.inr (some m)), .inl v1] h) (rI fun x h' => h' = h ∧ x = ia σ 12 ((ia σ 11 (ia σ 24 v1.toInt.toNat).toInt.toNat).toInt).toNat) :=
  wq_eq e_Ref_conditionOf (wq_gR H.1 rfl (wq_gR H.1 rfl (wq_gR H.1 rfl (rdP H h0 h1 (by omega) (rdK H k1 (by omega) (rdK H k2 (by omega) (wq_some (rI_i ⟨rfl, rfl⟩))))))))
theorem v_about (H : RH m σ b h) (R : RI σ) : wq (vc lim (d + 2) m_Ref_about [.inr (.inr (some m)), .inl v1, .inl v2] h) (rI fun x h' => rP m σ b h') := by
  obtain ⟨O, D, A, N, P⟩ := id R
  have no : ∀ x : Int32, ¬ x ≤ 0 → wq (ah_val lim ah_P (d + 1) 111 27 [some (.inr (.inr (some m))), some (.inl v1), some (.inl v2), none] [.inl x, .inr (.inr (some m))] h) (rI fun x h' => rP m σ b h') := fun x hx => wq_eq q_111_27 (wc H (fun h2 H2 => rc H2 (wq_f hx (wq_some (rI_i (rP_c H2 R))))))
  refine wq_eq e_Ref_about (wq_at H.1 (wq_cI (f_noProcess H) ?_))
  rintro y h1 ⟨rfl, hy, hp⟩
  refine wq_if _ (fun c => ?_) (fun c => no 1 (by decide))
  obtain ⟨p0, p1⟩ := hp c
  obtain ⟨P1, -, -, -, -, P6⟩ := P v1 p0 p1
  obtain ⟨q0, q1, -⟩ := PV_a P1
  refine wq_if _ (fun c1 => no 2 (by decide)) (fun c1 => wq_if _ (fun c2 => ?_) (fun c2 => no 2 (by decide)))
  refine wq_eq q_111_27 (wc H (fun h2 H2 => rc H2 (wq_t (by decide) (wq_gR H2.1 rfl (rdP H2 q0 q1 (by omega) ?_)))))
  have fin : ∀ s0 : Int32, (¬ s0 = 0 → (ia σ 20 v1.toInt.toNat).toInt = 1) → wq (ah_val lim ah_P (d + 1) 111 54 [some (.inr (.inr (some m))), some (.inl v1), some (.inl v2), none] [.inl s0] h2) (rI fun x h' => rP m σ b h') := by
    intro s0 hs
    refine wq_eq q_111_54 (wq_if _ (fun _ => wq_gR H2.1 rfl (rdP H2 q0 q1 (by omega) (wq_some (rI_i (rP_c H2 R))))) (fun _ => wq_if _ (fun _ => wq_gR H2.1 rfl (rdP H2 q0 q1 (by omega) (wq_some (rI_i (rP_c H2 R))))) (fun _ => wq_if _ (fun _ => wq_gR H2.1 rfl (rdP H2 q0 q1 (by omega) (wq_some (rI_i (rP_c H2 R))))) (fun _ => wq_if _ (fun _ => ?_) (fun _ => wq_if _ (fun _ => ?_) (fun _ => wq_gR H2.1 rfl (rdP H2 q0 q1 (by omega) (wq_some (rI_i (rP_c H2 R))))))))))
    · refine wq_if _ (fun _ => wq_some (rI_i (rP_c H2 R))) (fun c => ?_)
      obtain ⟨k1, k2, -⟩ := wF_of (P6 (hs c))
      exact wq_gR H2.1 rfl (wq_gR H2.1 rfl (wq_gR H2.1 rfl (rdP H2 q0 q1 (by omega) (rdK H2 k1 (by omega) (rdK H2 k2 (by omega) (wq_some (rI_i (rP_c H2 R))))))))
    · refine wq_if _ (fun _ => wq_some (rI_i (rP_c H2 R))) (fun c => ?_)
      obtain ⟨k1, k2, -, -, k4, -⟩ := wF_of (P6 (hs c))
      refine wq_gR H2.1 rfl (wq_at H2.1 (wq_cI (f_conditionOf H2 q0 q1 k1 k2) ?_))
      rintro x h4 ⟨rfl, rfl⟩
      exact rdK H2 k4 (by omega) (wq_if _ (fun _ => wq_some (rI_i (rP_c H2 R))) (fun _ => wq_some (rI_i (rP_c H2 R))))
  exact wq_if _ (fun c3 => fin 1 (fun _ => congrArg Int32.toInt c3)) (fun c3 => fin 0 (fun c => absurd rfl c))
theorem v_until (H : RH m σ b h) (R : RI σ) : wq (vc lim (d + 2) m_Ref_until [.inr (.inr (some m)), .inl v1] h) (rJ fun x h' => rP m σ b h') := by
  obtain ⟨O, D, A, N, P⟩ := id R
  refine wq_eq e_Ref_until (wq_at H.1 (wq_cI (f_noProcess H) ?_))
  rintro y h1 ⟨rfl, hy, hp⟩
  refine wq_if _ (fun c => ?_) (fun c => wq_eq q_113_14 (wc H (fun h2 H2 => rc H2 (wq_f (by decide) (wq_some (rJ_i (rP_c H2 R)))))))
  obtain ⟨p0, p1⟩ := hp c
  obtain ⟨P1, -⟩ := P v1 p0 p1
  obtain ⟨q0, q1, -⟩ := PV_a P1
  exact wq_eq q_113_14 (wc H (fun h2 H2 => rc H2 (wq_t (by decide) (wq_gR H2.1 rfl (rdP H2 q0 q1 (by omega) (wq_if _ (fun _ => wq_gR H2.1 rfl (ra_J H2 (by omega) rfl q0 (by show _ < (64 : Int); omega) (wq_some (rJ_i (rP_c H2 R))))) (fun _ => wq_some (rJ_i (rP_c H2 R)))))))))
theorem chn_sq : ∀ {l : Nat} {c : Int32}, chn σ l c.toInt → ∀ i, (i < l → vN σ (sq σ i c).toInt) ∧ (l ≤ i → sq σ i c = -1) := by
  intro l
  induction l with
  | zero => intro c h i; exact ⟨fun hi => absurd hi (by omega), fun _ => by rw [eq_m1 h]; exact sq_m1 i⟩
  | succ l ih =>
    intro c h i
    cases i with
    | zero => exact ⟨fun _ => h.1, fun hi => absurd hi (by omega)⟩
    | succ i =>
      have e : nx1 σ c = ia σ 12 c.toInt.toNat := if_neg (ne_m1 h.1)
      have h5 : chn σ l (nx1 σ c).toInt := by rw [e]; exact h.2
      have := ih h5 i
      exact ⟨fun hi => this.1 (by omega), fun hi => this.2 (by omega)⟩
theorem vD_N {τ : rS} {k : Int} (h : vN τ k) : vD k := ⟨by have := h.1; omega, h.2.1⟩
theorem v_waits (H : RH m σ b h) (R : RI σ) : wq (vc lim (d + 2) m_Ref_waits [.inr (.inr (some m)), .inl v1, .inl v2] h) (rI fun x h' => rP m σ b h') := by
  obtain ⟨O, D, A, N, P⟩ := id R
  have e0 : (0 : Int32).toInt = 0 := rfl
  have no : wq (ah_val lim ah_P (d + 1) 112 48 [some (.inr (.inr (some m))), some (.inl v1), some (.inl v2)] [.inl (1 : Int32), .inr (.inr (some m))] h) (rI fun x h' => rP m σ b h') := wq_eq q_112_48 (wc H (fun h2 H2 => rc H2 (wq_f (by decide) (wq_some (rI_i (rP_c H2 R))))))
  refine wq_eq e_Ref_waits (wq_at H.1 (wq_cI (f_noProcess H) ?_))
  rintro y h1 ⟨rfl, hy, hp⟩
  refine wq_if _ (fun c => ?_) (fun c => no)
  obtain ⟨p0, p1⟩ := hp c
  obtain ⟨P1, -, -, -, -, P6⟩ := P v1 p0 p1
  obtain ⟨q0, q1, -⟩ := PV_a P1
  refine wq_gR H.1 rfl (rdP H q0 q1 (by omega) (wq_if _ (fun c1 => ?_) (fun c1 => no)))
  obtain ⟨k1, k2, k3, k4, k5, -⟩ := wF_of (P6 (congrArg Int32.toInt c1))
  refine wq_if _ (fun c2 => no) (fun c2 => ?_)
  have c2 := nlt_i c2
  refine wq_gR H.1 rfl (wq_gR H.1 rfl (wq_gR H.1 rfl (rdP H q0 q1 (by omega) (rdK H k1 (by omega) (rdK H k2 (by omega) (wq_if _ (fun c3 => ?_) (fun c3 => no)))))))
  have c3 := lt_i c3
  refine wq_eq q_112_48 (wc H (fun h2 H2 => rc H2 (wq_t (by decide) (wq_gR H2.1 rfl (wq_gR H2.1 rfl (wq_gR H2.1 rfl (rdP H2 q0 q1 (by omega) (rdK H2 k1 (by omega) ?_))))))))
  have k4' : chn (at39 σ v1) ((ia σ 10 (ia σ 11 (ia σ 24 v1.toInt.toNat).toInt.toNat).toInt.toNat).toInt).toNat (ia σ 11 ((ia σ 11 (ia σ 24 v1.toInt.toNat).toInt.toNat).toInt).toNat).toInt := k4
  have hs := chn_sq k4'
  have sqe : ∀ i c, sq (sG σ 0 0) i c = sq (at39 σ v1) i c := by
    intro i
    induction i with
    | zero => intro c; rfl
    | succ i ih => intro c; exact ih _
  have hv : ∀ i, oV (ch (sG σ 0 0) (ia σ 11 (ia σ 24 v1.toInt.toNat).toInt.toNat).toInt i) := fun i => by
    have := hs i
    unfold ch
    rw [sqe]
    by_cases hi : i < ((ia σ 10 (ia σ 11 (ia σ 24 v1.toInt.toNat).toInt.toNat).toInt.toNat).toInt).toNat
    · exact Or.inr (vD_N (this.1 hi))
    · exact Or.inl (this.2 (by omega))
  refine wq_at H2.1 (wq_cI (v_child H2 O (sm_0 (Q := QR 1000)) (vD_N k2) (by omega) hv) ?_)
  rintro x h4 ⟨rfl, rfl⟩
  have hx := (hs v2.toInt.toNat).1 (by have : (ia σ 10 ((ia σ 11 (ia σ 24 v1.toInt.toNat).toInt.toNat).toInt).toNat).toInt = (ia σ 10 (ia σ 11 (ia σ 24 v1.toInt.toNat).toInt.toNat).toInt.toNat).toInt := rfl; omega)
  rw [← sqe] at hx
  exact rdK H2 (x := ch (sG σ 0 0) (ia σ 11 (ia σ 24 v1.toInt.toNat).toInt.toNat).toInt v2.toInt.toNat) hx (by omega) (wq_some (rI_i (rP_c H2 R)))
theorem v_act2 (H : RH m σ b h) (R : RI σ) : wq (vc lim (d + 1) m_Ref_act2 [.inr (.inr (some m)), .inl v1, .inl v2] h) (rI fun x h' => rP m σ b h') := by
  obtain ⟨O, D, A, N, P⟩ := id R
  obtain ⟨a1, a2, -⟩ := id A
  have e0 : (0 : Int32).toInt = 0 := rfl
  have e1 : (1 : Int32).toInt = 1 := rfl
  have no : ∀ x : Int32, ¬ x ≤ 0 → wq (ah_val lim ah_P d 115 31 [some (.inr (.inr (some m))), some (.inl v1), some (.inl v2)] [.inl x, .inr (.inr (some m))] h) (rI fun x h' => rP m σ b h') := fun x hx => wq_eq q_115_31 (wc H (fun h2 H2 => rc H2 (wq_f hx (wq_some (rI_i (rP_c H2 R))))))
  refine wq_eq e_Ref_act2 (wq_if _ (fun c => no 1 (by decide)) (fun c => ?_))
  have c := nlt_i c
  refine wq_gI H.1 rfl (wq_if _ (fun c1 => ?_) (fun c1 => no 1 (by decide)))
  have c1 := lt_i c1
  refine wq_if _ (fun c2 => no 2 (by decide)) (fun c2 => wq_if _ (fun c3 => ?_) (fun c3 => no 2 (by decide)))
  refine wq_eq q_115_31 (wc H (fun h2 H2 => rc H2 (wq_t (by decide) ?_)))
  have e2 : (v1 + (1 : Int32)).toInt = v1.toInt + 1 := by rw [ad_i (by omega) (by omega), e1]
  refine wq_if _ (fun _ => wq_gR H2.1 rfl (ra_I H2 (by omega) rfl rfl (by omega) (by show _ < (200 : Int); omega) (wq_if _ (fun _ => wq_some (rI_i (rP_c H2 R))) (fun _ => wq_some (rI_i (rP_c H2 R)))))) (fun _ => ?_)
  refine wq_if _ (fun _ => wq_gR H2.1 rfl (ra_I H2 (by omega) rfl rfl (by omega) (by show _ < (200 : Int); omega) (wq_some (rI_i (rP_c H2 R))))) (fun _ => ?_)
  refine wq_if _ (fun _ => wq_gR H2.1 rfl (ra_I H2 (by omega) rfl rfl (by omega) (by show _ < (200 : Int); omega) (wq_some (rI_i (rP_c H2 R))))) (fun _ => ?_)
  refine wq_if _ (fun _ => wq_gR H2.1 rfl (ra_I H2 (by omega) rfl rfl (by omega) (by show _ < (200 : Int); omega) (wq_some (rI_i (rP_c H2 R))))) (fun _ => ?_)
  refine wq_if _ (fun _ => wq_gR H2.1 rfl (ra_I H2 (by omega) rfl rfl (by omega) (by show _ < (200 : Int); omega) (wq_some (rI_i (rP_c H2 R))))) (fun _ => ?_)
  exact wq_gR H2.1 rfl (ra_I H2 (by omega) rfl rfl (by omega) (by show _ < (201 : Int); omega) (wq_gR H2.1 rfl (ra_I H2 (by omega) rfl rfl (by omega) (by show _ < (201 : Int); omega) (wq_some (rI_i (rP_c H2 R))))))
theorem f_wave (H : RH m σ b h) (A : AI σ) : wq (vc lim (d + 1) m_Ref_wave [.inr (.inr (some m)), .inl v1, .inl v2] h) (rI fun x h' => h' = h ∧ (x = -1 ∨ (0 ≤ x.toInt ∧ x.toInt < 500 ∧ 0 ≤ v1.toInt ∧ v1.toInt < 200 ∧ ¬ v2 = -1))) := by
  obtain ⟨a1, a2, a3, a4, a5⟩ := id A
  have e0 : (0 : Int32).toInt = 0 := rfl
  have e1 : (1 : Int32).toInt = 1 := rfl
  have no : wq (some ((.inl (some (.inl (-1 : Int32))), h) : ah_R)) (rI fun x h' => h' = h ∧ (x = -1 ∨ (0 ≤ x.toInt ∧ x.toInt < 500 ∧ 0 ≤ v1.toInt ∧ v1.toInt < 200 ∧ ¬ v2 = -1))) := wq_some (rI_i ⟨rfl, Or.inl rfl⟩)
  refine wq_eq e_Ref_wave (wq_if _ (fun c => no) (fun c => ?_))
  have c := nlt_i c
  refine wq_gI H.1 rfl (wq_if _ (fun c1 => ?_) (fun c1 => no))
  have c1 := lt_i c1
  refine wq_if _ (fun c2 => no) (fun c2 => ?_)
  have c2 := nlt_i c2
  have e2 : (v1 + (1 : Int32)).toInt = v1.toInt + 1 := by rw [ad_i (by omega) (by omega), e1]
  refine wq_gR H.1 rfl (ra_I H (by omega) rfl rfl (by omega) (by show _ < (201 : Int); omega) (wq_gR H.1 rfl (ra_I H (by omega) rfl rfl (by omega) (by show _ < (201 : Int); omega) (wq_if _ (fun c3 => ?_) (fun c3 => no)))))
  have f1 := a5 v1.toInt.toNat (by omega)
  have f2 := a5 (v1 + (1 : Int32)).toInt.toNat (by omega)
  have c3 := lt_i c3
  have e3 : (ia σ 37 (v1 + (1 : Int32)).toInt.toNat - ia σ 37 v1.toInt.toNat).toInt = (ia σ 37 (v1 + (1 : Int32)).toInt.toNat).toInt - (ia σ 37 v1.toInt.toNat).toInt := sb_i (by omega) (by omega)
  have e4 : (ia σ 37 v1.toInt.toNat + v2).toInt = (ia σ 37 v1.toInt.toNat).toInt + v2.toInt := ad_i (by omega) (by omega)
  refine wq_gR H.1 rfl (ra_I H (by omega) rfl rfl (by omega) (by show _ < (201 : Int); omega) (wq_some (rI_i ⟨rfl, Or.inr ⟨by omega, by omega, by omega, by omega, fun e => ?_⟩⟩)))
  have := congrArg Int32.toInt e
  rw [li_m1] at this
  omega
theorem v_value (H : RH m σ b h) (R : RI σ) : wq (vc lim (d + 3) m_Ref_value [.inr (.inr (some m)), .inl v1, .inl v2, .inl v3] h) (rI fun x h' => rP m σ b h') := by
  obtain ⟨O, D, A, N, P⟩ := id R
  have e9 : (9344 : Int32).toInt = 9344 := rfl
  refine wq_eq e_Ref_value (wq_at H.1 (wq_cI (f_wave H A) ?_))
  rintro y h1 ⟨rfl, hy⟩
  have no : wq (ah_val lim ah_P (d + 2) 117 29 [some (.inr (.inr (some m))), none, none, some (.inl v3), some (.inl y)] [.inr (.inr (some m))] h1) (rI fun x h' => rP m σ b h') := wq_eq q_117_29 (wc H (fun h2 H2 => rc H2 (wq_f (by decide) (wq_some (rI_i (rP_c H2 R))))))
  refine wq_if _ (fun c => no) (fun c => ?_)
  obtain ⟨y0, y1, -⟩ := hy.resolve_left c
  have e5 : ((9344 : Int32) + y).toInt = 9344 + y.toInt := by rw [ad_i (by omega) (by omega), e9]
  refine wq_at H.1 (wq_cI (f_lacks H O (by omega) (by omega)) ?_)
  rintro y2 h2 ⟨rfl, hy2, hl⟩
  refine wq_if _ (fun c3 => ?_) (fun c3 => no)
  obtain ⟨k0, k1⟩ := lk_64 O (by omega) (hl.mp c3)
  refine wc H (fun h3 H3 => rc H3 (wq_t (by decide) (wq_at H3.1 (wq_cI (f_told H3 O (by omega) (by omega) k0 k1) ?_))))
  rintro y3 h4 rfl
  exact wq_some (rI_i (rP_c H3 R))
theorem v_delay (H : RH m σ b h) (R : RI σ) : wq (vc lim (d + 2) m_Ref_delay [.inr (.inr (some m)), .inl v1, .inl v2] h) (rJ fun x h' => rP m σ b h') := by
  obtain ⟨O, D, A, N, P⟩ := id R
  obtain ⟨a1, a2, -⟩ := id A
  have e0 : (0 : Int32).toInt = 0 := rfl
  have no : ∀ v4 : Int32, wq (ah_val lim ah_P (d + 1) 118 64 [some (.inr (.inr (some m))), some (.inl v1), some (.inl v2), none, some (.inl v4)] [.inl (1 : Int32), .inr (.inr (some m))] h) (rJ fun x h' => rP m σ b h') := fun v4 => wq_eq q_118_64 (wc H (fun h2 H2 => rc H2 (wq_f (by decide) (wq_some (rJ_i (rP_c H2 R))))))
  have no2 : wq (ah_val lim ah_P (d + 1) 118 25 [some (.inr (.inr (some m))), some (.inl v1), some (.inl v2), none, none] [] h) (rJ fun x h' => rP m σ b h') := wq_eq q_118_25 (wq_t rfl (wq_eq q_118_41 (wq_t rfl (no _))))
  refine wq_eq e_Ref_delay (wq_if _ (fun c => no2) (fun c => ?_))
  have c := nlt_i c
  refine wq_gI H.1 rfl (wq_if _ (fun c1 => ?_) (fun c1 => no2))
  have c1 := lt_i c1
  refine wq_gR H.1 rfl (ra_I H (by omega) rfl rfl (by omega) (by show _ < (200 : Int); omega) (wq_if _ (fun c2 => ?_) (fun c2 => no2)))
  refine wq_f (by decide) (wq_at H.1 (wq_cI (f_wave H A) ?_))
  rintro y h1 ⟨rfl, hy⟩
  refine wq_eq q_118_41 (wq_f (by decide) (wq_if _ (fun c3 => wq_if _ (fun c4 => ?_) (fun c4 => no _)) (fun c3 => ?_)))
  · exact wq_eq q_118_64 (wc H (fun h2 H2 => rc H2 (wq_t (by decide) (wq_t c4 (wq_gR H2.1 rfl (ra_J H2 (by omega) rfl (by omega) (by show _ < (200 : Int); omega) (wq_some (rJ_i (rP_c H2 R)))))))))
  · obtain ⟨y0, y1, -, -, y4⟩ := hy.resolve_left c3
    exact wq_eq q_118_64 (wc H (fun h2 H2 => rc H2 (wq_t (by decide) (wq_f y4 (wq_gR H2.1 rfl (ra_J H2 (by omega) rfl y0 (by show _ < (528 : Int); omega) (wq_some (rJ_i (rP_c H2 R)))))))))
end As
