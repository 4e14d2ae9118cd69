/-! SET: the reference's codes -/
def vaX (σ : rS) (p v : Int32) : Nat := 1024 + (ia σ 18 p.toInt.toNat).toInt.toNat + v.toInt.toNat
/-- there is such a process, variable and element -/
def inU (σ : rS) (p v k : Int32) : Prop := (0 ≤ p.toInt ∧ p.toInt < (σ.1 23).toInt) ∧ (0 ≤ v.toInt ∧ v.toInt < (ia σ 19 p.toInt.toNat).toInt) ∧ (0 ≤ k.toInt ∧ k.toInt < (sF σ (vaX σ p v) 1).toInt)
def okU (σ : rS) (p v w : Int32) : Prop := (sF σ (vaX σ p v) 2).toInt ≤ w.toInt ∧ w.toInt ≤ (sF σ (vaX σ p v) 3).toInt
def setP (σ : rS) (p v k w x : Int32) : Prop := (x = 1 ∧ ¬ inU σ p v k) ∨ (inU σ p v k ∧ ((x = 2 ∧ ¬ okU σ p v w) ∨ (x = 0 ∧ okU σ p v w)))
section Ws
variable {lim : Nat × Nat} {m d : Nat} {σ : rS} {b h : ah_H} {v1 v2 v3 v4 : Int32}
theorem sF_1 {i : Nat} : (sF σ i 1).toInt = if ia σ 0 i = 1 then (ia σ 1 i).toInt else 1 := by
  show (if ia σ 0 i = 1 then ia σ 1 i else (1 : Int32)).toInt = _
  by_cases c : ia σ 0 i = 1
  · rw [if_pos c, if_pos c]
  · rw [if_neg c, if_neg c]
    rfl
theorem sF_23 {i : Nat} {w : Int} : ((sF σ i 2).toInt ≤ w ∧ w ≤ (sF σ i 3).toInt) ↔ canP σ i w := by
  show ((if ia σ 0 i = 2 then ia σ 2 i else (0 : Int32)).toInt ≤ w ∧ w ≤ (if ia σ 0 i = 2 then ia σ 3 i else (8 : Int32)).toInt) ↔ _
  unfold canP
  by_cases c : ia σ 0 i = 2
  · rw [if_pos c, if_pos c, if_pos c]
  · rw [if_neg c, if_neg c, if_neg c]
    exact Iff.rfl
theorem g_noProcess (H : RH m σ b h) : wq (vc lim (d + 1) m_Ref_noProcess [.inr (.inr (some m)), .inl v1] h) (rI fun x h' => h' = h ∧ ((x = 0 ∧ 0 ≤ v1.toInt ∧ v1.toInt < (σ.1 23).toInt) ∨ (¬ x = 0 ∧ ¬ (0 ≤ v1.toInt ∧ v1.toInt < (σ.1 23).toInt)))) := by
  have e0 : (0 : Int32).toInt = 0 := rfl
  refine wq_eq e_Ref_noProcess (wq_if _ (fun c => wq_t (Or.inr rfl) (wq_some (rI_i ⟨rfl, Or.inr ⟨by decide, fun q => ?_⟩⟩))) (fun c => ?_))
  · have := lt_i c
    omega
  · have c := nlt_i c
    exact wq_gI H.1 rfl (wq_if _ (fun c1 => wq_t (Or.inl rfl) (wq_some (rI_i ⟨rfl, Or.inl ⟨rfl, by omega, lt_i c1⟩⟩))) (fun c1 => wq_t (Or.inr rfl) (wq_some (rI_i ⟨rfl, Or.inr ⟨by decide, fun q => by have := nlt_i c1; omega⟩⟩))))
theorem g_variableAt (H : RH m σ b h) (R : RI σ) : wq (vc lim (d + 2) m_Ref_variableAt [.inr (.inr (some m)), .inl v1, .inl v2, .inl v3] h) (rI fun x h' => h' = h ∧ ((x = -1 ∧ ¬ inU σ v1 v2 v3) ∨ (inU σ v1 v2 v3 ∧ ¬ x = -1 ∧ x.toInt = (vaX σ v1 v2 : Nat) ∧ 1024 ≤ x.toInt ∧ x.toInt < 9216 ∧ 0 ≤ v3.toInt ∧ v3.toInt < 64))) := by
  obtain ⟨O, D, A, N, P⟩ := id R
  have e0 : (0 : Int32).toInt = 0 := rfl
  have e10 : (1024 : Int32).toInt = 1024 := rfl
  have no : ¬ inU σ v1 v2 v3 → wq (some ((.inl (some (.inl (-1 : Int32))), h) : ah_R)) (rI fun x h' => h' = h ∧ ((x = -1 ∧ ¬ inU σ v1 v2 v3) ∨ (inU σ v1 v2 v3 ∧ ¬ x = -1 ∧ x.toInt = (vaX σ v1 v2 : Nat) ∧ 1024 ≤ x.toInt ∧ x.toInt < 9216 ∧ 0 ≤ v3.toInt ∧ v3.toInt < 64))) := fun n => wq_some (rI_i ⟨rfl, Or.inl ⟨rfl, n⟩⟩)
  refine wq_eq e_Ref_variableAt (wq_at H.1 (wq_cI (g_noProcess H) ?_))
  rintro y h1 ⟨e, hp⟩
  cases e
  rcases hp with ⟨rfl, p0, p1⟩ | ⟨py, np⟩
  · refine wq_t rfl ?_
    obtain ⟨q0, q1, q2, q3, q4⟩ := PV_a (P v1 p0 p1).1
    refine wq_if _ (fun c1 => no (fun q => by have := q.2.1.1; have := lt_i c1; omega)) (fun c1 => ?_)
    have c1 := nlt_i c1
    refine wq_gR H.1 rfl (ra_I H (by omega) rfl rfl (by omega) (by show _ < (64 : Int); omega) (wq_if _ (fun c2 => ?_) (fun c2 => no (fun q => by have := q.2.1.2; have := nlt_i c2; omega))))
    have c2 := lt_i c2
    have e5 : ((1024 : Int32) + ia σ 18 v1.toInt.toNat).toInt = 1024 + (ia σ 18 v1.toInt.toNat).toInt := by rw [ad_i (by omega) (by omega), e10]
    have e6 : (((1024 : Int32) + ia σ 18 v1.toInt.toNat) + v2).toInt = 1024 + (ia σ 18 v1.toInt.toNat).toInt + v2.toInt := by rw [ad_i (by omega) (by omega), e5]
    have e7 : (((1024 : Int32) + ia σ 18 v1.toInt.toNat) + v2).toInt.toNat = vaX σ v1 v2 := by unfold vaX; omega
    refine wq_gR H.1 rfl (ra_I H (by omega) rfl rfl (by omega) (by show _ < (64 : Int); omega) (wq_at H.1 (wq_cI (f_lacks H O (by omega) (by omega)) ?_)))
    rintro y2 h2 ⟨rfl, hy2, hl⟩
    rw [e7, ← sF_1] at hl
    refine wq_if _ (fun c3 => ?_) (fun c3 => no (fun q => c3 (hl.mpr q.2.2)))
    have hl' := hl.mp c3
    rw [sF_1] at hl'
    obtain ⟨k0, k1⟩ := lk_64 O (by unfold vaX; omega) hl'
    exact wq_some (rI_i ⟨rfl, Or.inr ⟨⟨⟨p0, p1⟩, ⟨by omega, c2⟩, hl.mp c3⟩, nn_m (by omega), by omega, by omega, by omega, k0, k1⟩⟩)
  · exact wq_f py (no (fun q => np q.1))
theorem w_set (H : RH m σ b h) (R : RI σ) : wq (vc lim (d + 3) m_Ref_set [.inr (.inr (some m)), .inl v1, .inl v2, .inl v3, .inl v4] h) (rV fun h' => ∃ σ', RH m σ' b h' ∧ RI σ' ∧ SG σ σ' ∧ setP σ v1 v2 v3 v4 (σ'.1 0)) := by
  obtain ⟨O, D, A, N, P⟩ := id R
  refine wq_eq e_Ref_set (wq_at H.1 (wq_cI (g_variableAt H R) ?_))
  rintro y h1 ⟨e, hy⟩
  cases e
  rcases hy with ⟨rfl, nU⟩ | ⟨yU, y1, y2, y3, y4, k0, k1⟩
  · exact wq_t rfl (wq_eq q_40_36 (wc H (fun h2 H2 => rc H2 (wq_f (by decide) (wq_some (rV_i ⟨_, H2, RI_c R, SG_c, Or.inl ⟨sG_eq, nU⟩⟩))))))
  · have ey : y.toInt.toNat = vaX σ v1 v2 := by omega
    refine wq_f y1 (wq_at H.1 (wq_cI (f_cannot H (by omega) (by omega)) ?_))
    rintro z h3 ⟨rfl, hz, hc⟩
    rw [ey] at hc
    have hc : z = 0 ↔ okU σ v1 v2 v4 := hc.trans sF_23.symm
    refine wq_if _ (fun c3 => ?_) (fun c3 => ?_)
    · refine wq_eq q_40_36 (wc H (fun h4 H4 => rc H4 (wq_t rfl (wq_at H4.1 (wq_cV (f_become H4 O (by omega) (by omega) k0 k1) ?_)))))
      rintro h5 ⟨σ5, H5, O5, f5, j5⟩
      refine wq_some (rV_i ⟨σ5, H5, RI_e R O5 f5 (fun j i hj => j5 j i (by omega)) (fun j i hj _ _ => j5 j i (by omega)), ⟨by rw [f5]; exact sG_ne (by omega), fun j i hj hi => j5 j i (by omega), TG_e f5 j5⟩, Or.inr ⟨yU, Or.inr ⟨?_, hc.mp c3⟩⟩⟩)
      rw [f5]
      exact sG_eq
    · exact wq_eq q_40_36 (wc H (fun h2 H2 => rc H2 (wq_f (by decide) (wq_some (rV_i ⟨_, H2, RI_c R, SG_c, Or.inr ⟨yU, Or.inl ⟨sG_eq, fun q => c3 (hc.mpr q)⟩⟩⟩)))))
end Ws
