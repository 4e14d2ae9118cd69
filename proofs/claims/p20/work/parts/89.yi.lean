/-! THE REFERENCE'S STATEMENTS: SET -/
/-- elements from a place on -/
def setB (σ : rS) (s n : Nat) (g : Nat → Int32) : rS := (σ.1, σ.2.1, fun j i => if j = 5 ∧ s ≤ i ∧ i < s + n then g (i - s) else σ.2.2.1 j i, σ.2.2.2)
section Yi
variable {lim : Nat × Nat} {d m n B fv pp : Nat} {V : ENV} {ht : Nat → Nat} {a b : Nat → Int64} {F : FL} {σ σ' σ0 : rS} {bb h h' h1 : ah_H} {td td' : TD} {kS kV : Nat → Int32 × Int32} {v k k2 l R kk : Int32} {Φ : ah_R → Prop} {A Bk : ah_H → Option ah_R} {w w' : WD} {r : RST} {T : KT} {p : Int32 × Int32 × Int32} {g : Nat → Int32} {e : Nat → TS}
theorem setB_0 {s : Nat} : setB σ s 0 g = σ := rS_ext (fun _ => rfl) (fun _ => rfl) (fun j i => if_neg (by omega)) (fun _ _ => rfl)
theorem setB_s {s : Nat} : sI (setB σ s n g) 5 (s + n) (g n) = setB σ s (n + 1) g := by
  refine rS_ext (fun _ => rfl) (fun _ => rfl) (fun j i => ?_) (fun _ _ => rfl)
  show (if j = 5 ∧ i = s + n then g n else if j = 5 ∧ s ≤ i ∧ i < s + n then g (i - s) else σ.2.2.1 j i) = if j = 5 ∧ s ≤ i ∧ i < s + (n + 1) then g (i - s) else σ.2.2.1 j i
  by_cases c : j = 5 ∧ i = s + n
  · rw [if_pos c, if_pos ⟨c.1, by omega, by omega⟩, show i - s = n by omega]
  · rw [if_neg c]
    by_cases c2 : j = 5 ∧ s ≤ i ∧ i < s + n
    · rw [if_pos c2, if_pos ⟨c2.1, by omega, by omega⟩]
    · rw [if_neg c2, if_neg (fun q => by
        by_cases e : i = s + n
        · exact c ⟨q.1, e⟩
        · exact c2 ⟨q.1, q.2.1, by omega⟩)]
theorem setB_j {s j i : Nat} (hj : j ≠ 5) : ia (setB σ s n g) j i = ia σ j i := if_neg (fun q => hj q.1)
theorem setB_i {s i : Nat} (h1 : s ≤ i) (h2 : i < s + n) : ia (setB σ s n g) 5 i = g (i - s) := if_pos ⟨rfl, h1, h2⟩
theorem setB_o {s i : Nat} (h1 : i < s ∨ s + n ≤ i) : ia (setB σ s n g) 5 i = ia σ 5 i := if_neg (by omega)
/-- a variable's register has changed -/
theorem BT_w {j : Nat} (H : BT V B fv pp e td σ) (hj : j < V.2.2.2) (e1 : ∀ q i, q ≠ 5 → ia σ' q i = ia σ q i) (e5 : ∀ i, (i < 64 * (1024 + fv + j) ∨ 64 * (1024 + fv + j) + 64 ≤ i) → ia σ' 5 i = ia σ 5 i) (e4 : ∀ q i, (q ≠ 4 ∨ i ≠ 1024 + fv + j) → ja σ' q i = ja σ q i) (eg : σ'.1 = σ.1) (hb : byE σ') (q : RW σ' (1024 + fv + j) w') (W : WF w') (hi : wI w' = wI (e j).1) : BT V B fv pp (upS e j (w', (e j).2)) td σ' := by
  obtain ⟨h1, ⟨⟨c1, c2, c3, c4, c5⟩, es, ev⟩, h3, h4, h5, h6⟩ := H
  have rw : ∀ (r : Nat) (w : WD), r ≠ 1024 + fv + j → WF w → RW σ r w → RW σ' r w := fun r w hr W q => RW_e q (e1 0 _ (by omega)) (e1 1 _ (by omega)) (e4 4 _ (Or.inr hr)) (fun k hk => e5 _ (by omega)) W
  refine ⟨NB_e h1 (fun j i _ hj => e1 j i (by omega)), ⟨⟨c1, c2, by rw [eg]; exact c3, by rw [eg]; exact c4, by rw [eg, e1 18 _ (by omega)]; exact c5⟩, fun i hi => ?_, fun i hi => ?_⟩, hb, by rw [eg]; exact h4, ⟨fun i hi hw => by rw [e1 2 _ (by omega), e1 3 _ (by omega)]; exact h5.1 i hi hw, fun i hi2 hw => ?_⟩, ?_⟩
  · obtain ⟨p1, p2, p3, p4, p5, p6, p7⟩ := es i hi
    rw [e1 6 _ (by omega), e1 7 _ (by omega)]
    exact ⟨rw _ _ (by omega) p3 p1, rw _ _ (by omega) p4 p2, p3, p4, p5, p6, p7⟩
  · by_cases c : i = j
    · subst c
      rw [upS_eq]
      exact ⟨q, W⟩
    · rw [upS_ne c]
      exact ⟨rw _ _ (by omega) (ev i hi).2 (ev i hi).1, (ev i hi).2⟩
  · rw [e1 2 _ (by omega), e1 3 _ (by omega)]
    by_cases c : i = j
    · subst c
      rw [upS_eq] at hw ⊢
      exact h5.2 i hi2 (hi.symm.trans hw)
    · rw [upS_ne c] at hw ⊢
      exact h5.2 i hi2 hw
  · obtain ⟨a1, a2, a3, a4⟩ := h6
    refine ⟨by rw [eg]; exact a1, fun i hi => ?_, by rw [e1 37 _ (by omega)]; exact a3, fun x hx => ?_⟩
    · rw [e1 31 _ (by omega), e1 32 _ (by omega), e1 33 _ (by omega), e1 34 _ (by omega), e1 35 _ (by omega), e4 36 _ (Or.inl (by omega)), e1 37 _ (by omega), e1 37 _ (by omega)]
      exact a2 i hi
    · obtain ⟨d1, d2, d3⟩ := a4 x hx
      rw [e4 38 _ (Or.inl (by omega))]
      exact ⟨d1, rw _ _ (by omega) d3 d2, d3⟩
theorem FX_w (H : FX V.1 B pp ht a b F σ) (e1 : ∀ q i, q ≠ 5 → ia σ' q i = ia σ q i) (e4 : ∀ q i, q ≠ 4 → ja σ' q i = ja σ q i) : FX V.1 B pp ht a b F σ' := FX_e H (e1 26 _ (by omega)) (fun i => e1 27 i (by omega)) (fun i => e1 28 i (by omega)) (fun i => e4 29 i (by omega)) (fun i => e4 30 i (by omega))
/-- elements one after another -/
theorem q_el {s O : Nat} {o32 : Int32} (ho : o32.toInt = O) (hO : O < 9216) (W : WF w) (w1 : wI w = 1) (q : RW σ 9872 w) {t : Int32} (ht0 : 0 ≤ t.toInt) (htl : t.toInt + (wL w).toInt ≤ 64) (hs : s = 64 * O + t.toInt.toNat) (e43 : σ.1 43 = t) {Ψ : ah_R → Prop} (fin : ∀ h', RH m (setB σ s (wL w).toInt.toNat (cdW w)) bb h' → Ψ (.inl (some (.inl 1)), h')) : ∀ (M i : Nat) (ii : Int32) (h : ah_H), ii.toInt = i → i + M = (wL w).toInt.toNat → RH m (setB σ s i (cdW w)) bb h → wq (ah_val lim ah_P (d + 1) 105 141 [some (aR m), none, none, some (aI o32), some (aI ii)] [] h) Ψ := by
  have e1 : (1 : Int32).toInt = 1 := rfl
  have wl := W.2.1
  have ln : ∀ i, ia (setB σ s i (cdW w)) 1 9872 = wL w := fun i => (setB_j (by omega)).trans (q.2.2.2 w1).1
  intro M
  induction M with
  | zero =>
    intro i ii h hi hM H
    refine wq_eq q_105_141 (wq_gR H.1 rfl (rd1 (r := 9872) H rfl (by omega) ?_))
    rw [ln]
    refine wq_f (fun c => by have := lt_i c; omega) (wq_t (by decide) (wq_some (fin h ?_)))
    rw [show (wL w).toInt.toNat = i by omega]
    exact H
  | succ M ih =>
    intro i ii h hi hM H
    have ea : (ii + 1).toInt = ii.toInt + 1 := by rw [ad_i (by omega) (by omega), e1]
    have et : (t + ii).toInt = t.toInt + i := by rw [ad_i (by omega) (by omega), hi]
    refine wq_eq q_105_141 (wq_gR H.1 rfl (rd1 (r := 9872) H rfl (by omega) ?_))
    rw [ln]
    refine wq_t (Int32.lt_iff_toInt_lt.mpr (by omega)) (wq_gI H.1 rfl (wq_at H.1 (wq_cI (r_element H (r := 9872) rfl (by omega) (by omega) (by omega)) ?_)))
    rintro x h2 ⟨eh, ex⟩
    subst eh
    have ev : ia (setB σ s i (cdW w)) 5 (64 * 9872 + ii.toInt.toNat) = cdW w i := by
      rw [setB_o (by omega), show ii.toInt.toNat = i by omega]
      exact (q.2.2.2 w1).2.2 i (by omega)
    rw [ev] at ex
    subst ex
    have e43' : (setB σ s i (cdW w)).1 43 = t := e43
    rw [e43']
    refine wq_at H.1 (wq_cV (r_setElement H ho (by omega) (by omega) (by omega) cdW_bd.1 (by have := cdW_bd (w := w) (k := i); omega)) fun h3 H3 => ?_)
    rw [show 64 * O + (t + ii).toInt.toNat = s + i by omega, setB_s] at H3
    exact ih (i + 1) (ii + 1) h3 (by omega) (by omega) H3
end Yi
