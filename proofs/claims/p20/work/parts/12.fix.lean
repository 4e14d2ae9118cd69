/-! MONOTONE AND CONTINUOUS: what a step makes of its continuations, through any filter T -/
section Fix
variable {ι ρ : Type} {T : (ι → Prop) → Prop}
theorem ft_at (hm : ∀ p q : ι → Prop, (∀ i, p i → q i) → T p → T q) {h : ah_H} {r : Option Nat} {kd : Nat} {K0 : Nat → List AV → Option ρ} {K : ι → Nat → List AV → Option ρ} {z : ρ} (e : ah_at h r kd K0 = some z) (hK : ∀ a vs, K0 a vs = some z → T (fun i => K i a vs = some z)) : T (fun i => ah_at h r kd (K i) = some z) := by
  unfold ah_at at e ⊢
  cases r with
  | none => cases e
  | some a =>
    dsimp only at e ⊢
    cases ho : h.1 a with
    | none => rw [ho] at e; cases e
    | some o =>
      rw [ho] at e
      dsimp only at e ⊢
      by_cases hk : o.1 = kd
      · rw [if_pos hk] at e
        exact hm _ _ (fun i hi => by rw [if_pos hk]; exact hi) (hK _ _ e)
      · rw [if_neg hk] at e; cases e
theorem ft_atA (hm : ∀ p q : ι → Prop, (∀ i, p i → q i) → T p → T q) {lo hi : Nat} {h : ah_H} {r : Option Nat} {K0 : Nat → Nat → List AV → Option ρ} {K : ι → Nat → Nat → List AV → Option ρ} {z : ρ} (e : ah_atA lo hi h r K0 = some z) (hK : ∀ a b vs, K0 a b vs = some z → T (fun i => K i a b vs = some z)) : T (fun i => ah_atA lo hi h r (K i) = some z) := by
  unfold ah_atA at e ⊢
  cases r with
  | none => cases e
  | some a =>
    dsimp only at e ⊢
    cases ho : h.1 a with
    | none => rw [ho] at e; cases e
    | some o =>
      rw [ho] at e
      dsimp only at e ⊢
      by_cases hk : lo ≤ o.1 ∧ o.1 < hi
      · rw [if_pos hk] at e
        exact hm _ _ (fun i hi => by rw [if_pos hk]; exact hi) (hK _ _ _ e)
      · rw [if_neg hk] at e; cases e
theorem ft_vI {v : Option AV} {K0 : Int32 → Option ρ} {K : ι → Int32 → Option ρ} {z : ρ} (e : ah_vI v K0 = some z) (hK : ∀ x, K0 x = some z → T (fun i => K i x = some z)) : T (fun i => ah_vI v (K i) = some z) := by
  unfold ah_vI at e ⊢
  split at e
  · exact hK _ e
  · cases e
theorem ft_vJ {v : Option AV} {K0 : Int64 → Option ρ} {K : ι → Int64 → Option ρ} {z : ρ} (e : ah_vJ v K0 = some z) (hK : ∀ x, K0 x = some z → T (fun i => K i x = some z)) : T (fun i => ah_vJ v (K i) = some z) := by
  unfold ah_vJ at e ⊢
  split at e
  · exact hK _ e
  · cases e
theorem ft_vR {v : Option AV} {K0 : Option Nat → Option ρ} {K : ι → Option Nat → Option ρ} {z : ρ} (e : ah_vR v K0 = some z) (hK : ∀ x, K0 x = some z → T (fun i => K i x = some z)) : T (fun i => ah_vR v (K i) = some z) := by
  unfold ah_vR at e ⊢
  split at e
  · exact hK _ e
  · cases e
theorem ft_if (hm : ∀ p q : ι → Prop, (∀ i, p i → q i) → T p → T q) {c : Prop} [Decidable c] {a b : Option ρ} {A B : ι → Option ρ} {z : ρ} (e : (if c then a else b) = some z) (ha : a = some z → T (fun i => A i = some z)) (hb : b = some z → T (fun i => B i = some z)) : T (fun i => (if c then A i else B i) = some z) := by
  by_cases hc : c
  · rw [if_pos hc] at e
    exact hm _ _ (fun i hi => by rw [if_pos hc]; exact hi) (ha e)
  · rw [if_neg hc] at e
    exact hm _ _ (fun i hi => by rw [if_neg hc]; exact hi) (hb e)
theorem ft_bif {c : Bool} {a b : Option ρ} {A B : ι → Option ρ} {z : ρ} (e : (bif c then a else b) = some z) (ha : a = some z → T (fun i => A i = some z)) (hb : b = some z → T (fun i => B i = some z)) : T (fun i => (bif c then A i else B i) = some z) := by
  cases c
  · exact hb e
  · exact ha e
theorem ft_none {A : ι → Option ρ} {z : ρ} (e : (none : Option ρ) = some z) : T (fun i => A i = some z) := by cases e
theorem ft_ix (hm : ∀ p q : ι → Prop, (∀ i, p i → q i) → T p → T q) {vs : List AV} {j : Int32} {K0 : Option AV → Option ρ} {K : ι → Option AV → Option ρ} {z : ρ} (e : ah_ix vs j K0 = some z) (hK : ∀ x, K0 x = some z → T (fun i => K i x = some z)) : T (fun i => ah_ix vs j (K i) = some z) :=
  ft_if hm e (fun e => ft_none e) (fun e => hK _ e)
theorem ft_sx (hm : ∀ p q : ι → Prop, (∀ i, p i → q i) → T p → T q) {h : ah_H} {a kd : Nat} {vs : List AV} {j : Int32} {v : AV} {K0 : ah_H → Option ρ} {K : ι → ah_H → Option ρ} {z : ρ} (e : ah_sx h a kd vs j v K0 = some z) (hK : ∀ x, K0 x = some z → T (fun i => K i x = some z)) : T (fun i => ah_sx h a kd vs j v (K i) = some z) :=
  ft_if hm e (fun e => ft_none e) (fun e => ft_if hm e (fun e => hK _ e) (fun e => ft_none e))
theorem ft_mk (hm : ∀ p q : ι → Prop, (∀ i, p i → q i) → T p → T q) {lim : Nat × Nat} {h : ah_H} {o : ah_O} {n : Nat} {K0 : Option Nat → ah_H → Option ρ} {K : ι → Option Nat → ah_H → Option ρ} {z : ρ} (e : ah_mk lim h o n K0 = some z) (hK : ∀ x y, K0 x y = some z → T (fun i => K i x y = some z)) : T (fun i => ah_mk lim h o n (K i) = some z) :=
  ft_if hm e (fun e => hK _ _ e) (fun e => ft_none e)
theorem ft_sw (hm : ∀ p q : ι → Prop, (∀ i, p i → q i) → T p → T q) {x : Int32} {d : Nat} {K0 : Nat → Option ρ} {K : ι → Nat → Option ρ} {z : ρ} (hK : ∀ x, K0 x = some z → T (fun i => K i x = some z)) : ∀ ts : List (Int32 × Nat), ah_sw x d K0 ts = some z → T (fun i => ah_sw x d (K i) ts = some z)
  | [], e => hK _ e
  | (c, t) :: r, e => ft_if hm e (fun e => hK _ e) (fun e => ft_sw hm hK r e)
theorem ft_st1 {L : ah_L} {k : Nat} {v : AV} {K0 : ah_L → Option ρ} {K : ι → ah_L → Option ρ} {z : ρ} (e : ah_st1 L k v K0 = some z) (hK : ∀ x, K0 x = some z → T (fun i => K i x = some z)) : T (fun i => ah_st1 L k v (K i) = some z) := by
  unfold ah_st1 at e ⊢
  split at e
  · exact hK _ e
  · cases e
theorem ft_st2 {L : ah_L} {k : Nat} {v : AV} {K0 : ah_L → Option ρ} {K : ι → ah_L → Option ρ} {z : ρ} (e : ah_st2 L k v K0 = some z) (hK : ∀ x, K0 x = some z → T (fun i => K i x = some z)) : T (fun i => ah_st2 L k v (K i) = some z) := by
  unfold ah_st2 at e ⊢
  split at e
  · split at e
    · exact hK _ e
    · cases e
  · cases e
theorem ft_sR (hm : ∀ p q : ι → Prop, (∀ i, p i → q i) → T p → T q) {h : ah_H} {r : Option Nat} {j : Int32} {v : Option Nat} {K0 : ah_H → Option ρ} {K : ι → ah_H → Option ρ} {z : ρ} (e : ah_sR h r j v K0 = some z) (hK : ∀ x, K0 x = some z → T (fun i => K i x = some z)) : T (fun i => ah_sR h r j v (K i) = some z) := by
  unfold ah_sR at e ⊢
  refine ft_atA hm e ?_
  intro a b vs e
  cases v with
  | none => exact ft_sx hm e hK
  | some c =>
    dsimp only at e ⊢
    cases ho : h.1 c with
    | none => rw [ho] at e; cases e
    | some o => rw [ho] at e; exact ft_if hm e (fun e => ft_sx hm e hK) (fun e => ft_none e)
theorem ft_nn {r : Option Nat} {K0 : Option ρ} {K : ι → Option ρ} {z : ρ} (e : ah_nn r K0 = some z) (hK : K0 = some z → T (fun i => K i = some z)) : T (fun i => ah_nn r (K i) = some z) := by
  cases r with
  | none => cases e
  | some a => exact hK e
theorem ft_cp (hm : ∀ p q : ι → Prop, (∀ i, p i → q i) → T p → T q) {h : ah_H} {r0 r1 : Option Nat} {sp dp n : Int32} {K0 : ah_H → Option ρ} {K : ι → ah_H → Option ρ} {z : ρ} (e : ah_cp h r0 sp r1 dp n K0 = some z) (hK : ∀ x, K0 x = some z → T (fun i => K i x = some z)) : T (fun i => ah_cp h r0 sp r1 dp n (K i) = some z) :=
  ft_at hm e (fun _ _ e => ft_at hm e (fun _ _ e => ft_if hm e (fun e => ft_none e) (fun e => hK _ e)))
theorem ft_cln (hm : ∀ p q : ι → Prop, (∀ i, p i → q i) → T p → T q) {lim : Nat × Nat} {h : ah_H} {r : Option Nat} {K0 : Option Nat → ah_H → Option ρ} {K : ι → Option Nat → ah_H → Option ρ} {z : ρ} (e : ah_cln lim h r K0 = some z) (hK : ∀ x y, K0 x y = some z → T (fun i => K i x y = some z)) : T (fun i => ah_cln lim h r (K i) = some z) :=
  ft_at hm e (fun _ _ e => ft_mk hm e (fun _ _ e => hK _ _ e))
theorem ft_cV (hm : ∀ p q : ι → Prop, (∀ i, p i → q i) → T p → T q) (ha : ∀ p q : ι → Prop, T p → T q → T (fun i => p i ∧ q i)) {r0 : Option ah_R} {r : ι → Option ah_R} {X0 : Nat × Nat → ah_H → Option ρ} {X : ι → Nat × Nat → ah_H → Option ρ} {K0 : ah_H → Option ρ} {K : ι → ah_H → Option ρ} {z : ρ} (e : ah_cV r0 X0 K0 = some z) (hr : ∀ w, r0 = some w → T (fun i => r i = some w)) (hX : ∀ x y, X0 x y = some z → T (fun i => X i x y = some z)) (hK : ∀ y, K0 y = some z → T (fun i => K i y = some z)) : T (fun i => ah_cV (r i) (X i) (K i) = some z) := by
  unfold ah_cV at e
  split at e
  · exact hm _ _ (fun i hi => by rw [hi.1]; exact hi.2) (ha _ _ (hr _ rfl) (hK _ e))
  · exact hm _ _ (fun i hi => by rw [hi.1]; exact hi.2) (ha _ _ (hr _ rfl) (hX _ _ e))
  · cases e
theorem ft_cI (hm : ∀ p q : ι → Prop, (∀ i, p i → q i) → T p → T q) (ha : ∀ p q : ι → Prop, T p → T q → T (fun i => p i ∧ q i)) {r0 : Option ah_R} {r : ι → Option ah_R} {X0 : Nat × Nat → ah_H → Option ρ} {X : ι → Nat × Nat → ah_H → Option ρ} {K0 : Int32 → ah_H → Option ρ} {K : ι → Int32 → ah_H → Option ρ} {z : ρ} (e : ah_cI r0 X0 K0 = some z) (hr : ∀ w, r0 = some w → T (fun i => r i = some w)) (hX : ∀ x y, X0 x y = some z → T (fun i => X i x y = some z)) (hK : ∀ x y, K0 x y = some z → T (fun i => K i x y = some z)) : T (fun i => ah_cI (r i) (X i) (K i) = some z) := by
  unfold ah_cI at e
  split at e
  · exact hm _ _ (fun i hi => by rw [hi.1]; exact hi.2) (ha _ _ (hr _ rfl) (hK _ _ e))
  · exact hm _ _ (fun i hi => by rw [hi.1]; exact hi.2) (ha _ _ (hr _ rfl) (hX _ _ e))
  · cases e
theorem ft_cJ (hm : ∀ p q : ι → Prop, (∀ i, p i → q i) → T p → T q) (ha : ∀ p q : ι → Prop, T p → T q → T (fun i => p i ∧ q i)) {r0 : Option ah_R} {r : ι → Option ah_R} {X0 : Nat × Nat → ah_H → Option ρ} {X : ι → Nat × Nat → ah_H → Option ρ} {K0 : Int64 → ah_H → Option ρ} {K : ι → Int64 → ah_H → Option ρ} {z : ρ} (e : ah_cJ r0 X0 K0 = some z) (hr : ∀ w, r0 = some w → T (fun i => r i = some w)) (hX : ∀ x y, X0 x y = some z → T (fun i => X i x y = some z)) (hK : ∀ x y, K0 x y = some z → T (fun i => K i x y = some z)) : T (fun i => ah_cJ (r i) (X i) (K i) = some z) := by
  unfold ah_cJ at e
  split at e
  · exact hm _ _ (fun i hi => by rw [hi.1]; exact hi.2) (ha _ _ (hr _ rfl) (hK _ _ e))
  · exact hm _ _ (fun i hi => by rw [hi.1]; exact hi.2) (ha _ _ (hr _ rfl) (hX _ _ e))
  · cases e
theorem ft_cR (hm : ∀ p q : ι → Prop, (∀ i, p i → q i) → T p → T q) (ha : ∀ p q : ι → Prop, T p → T q → T (fun i => p i ∧ q i)) {r0 : Option ah_R} {r : ι → Option ah_R} {X0 : Nat × Nat → ah_H → Option ρ} {X : ι → Nat × Nat → ah_H → Option ρ} {K0 : Option Nat → ah_H → Option ρ} {K : ι → Option Nat → ah_H → Option ρ} {z : ρ} (e : ah_cR r0 X0 K0 = some z) (hr : ∀ w, r0 = some w → T (fun i => r i = some w)) (hX : ∀ x y, X0 x y = some z → T (fun i => X i x y = some z)) (hK : ∀ x y, K0 x y = some z → T (fun i => K i x y = some z)) : T (fun i => ah_cR (r i) (X i) (K i) = some z) := by
  unfold ah_cR at e
  split at e
  · exact hm _ _ (fun i hi => by rw [hi.1]; exact hi.2) (ha _ _ (hr _ rfl) (hK _ _ e))
  · exact hm _ _ (fun i hi => by rw [hi.1]; exact hi.2) (ha _ _ (hr _ rfl) (hX _ _ e))
  · cases e
theorem ft_ret (hm : ∀ p q : ι → Prop, (∀ i, p i → q i) → T p → T q) (ha : ∀ p q : ι → Prop, T p → T q → T (fun i => p i ∧ q i)) {rt : Nat} {r0 : Option ah_R} {r : ι → Option ah_R} {X0 : Nat × Nat → ah_H → Option ρ} {X : ι → Nat × Nat → ah_H → Option ρ} {K0 : List AV → ah_H → Option ρ} {K : ι → List AV → ah_H → Option ρ} {z : ρ} (e : ah_ret rt r0 X0 K0 = some z) (hr : ∀ w, r0 = some w → T (fun i => r i = some w)) (hX : ∀ x y, X0 x y = some z → T (fun i => X i x y = some z)) (hK : ∀ x y, K0 x y = some z → T (fun i => K i x y = some z)) : T (fun i => ah_ret rt (r i) (X i) (K i) = some z) := by
  unfold ah_ret at e ⊢
  split at e
  · exact ft_cI hm ha e hr hX (fun _ _ e => hK _ _ e)
  · exact ft_cJ hm ha e hr hX (fun _ _ e => hK _ _ e)
  · exact ft_cR hm ha e hr hX (fun _ _ e => hK _ _ e)
  · exact ft_cI hm ha e hr hX (fun _ _ e => hK _ _ e)
  · exact ft_cV hm ha e hr hX (fun _ e => hK _ _ e)
end Fix
