/-! THE LIMIT: what a method comes to, without fuel -/
section Lim
variable {ι : Type} {T : (ι → Prop) → Prop}
set_option maxHeartbeats 4000000 in
theorem ft_step (hm : ∀ p q : ι → Prop, (∀ i, p i → q i) → T p → T q) (ha : ∀ p q : ι → Prop, T p → T q → T (fun i => p i ∧ q i)) (ht : T (fun _ => True)) {lim : Nat × Nat} {rt : Nat} {C0 : ah_C} {C : ι → ah_C} {X0 : Nat × Nat → ah_H → Option ah_R} {X : ι → Nat × Nat → ah_H → Option ah_R} {i : Instr} {nx : Nat} {q : List Nat} {ts : List (Int32 × Nat)} {w : List AV} {L : ah_L} {st : List AV} {h : ah_H} {K0 : ah_K} {K : ι → ah_K} {z : ah_R}
    (e : ah_step lim rt C0 X0 i nx q ts w L st h K0 = some z) (hC : ∀ y as h r, C0 y as h = some r → T (fun i => C i y as h = some r)) (hX : ∀ x y, X0 x y = some z → T (fun i => X i x y = some z)) (hK : ∀ pc L st h, K0 pc L st h = some z → T (fun i => K i pc L st h = some z)) : T (fun j => ah_step lim rt (C j) (X j) i nx q ts w L st h (K j) = some z) := by
  unfold ah_step at e ⊢
  split at e <;> (try dsimp only at e) <;> (try dsimp only) <;>
    repeat' first
      | exact ft_none e
      | exact hK _ _ _ _ e
      | exact hm _ _ (fun _ _ => e) ht
      | exact ft_st1 e (fun _ e => hK _ _ _ _ e)
      | exact ft_st2 e (fun _ e => hK _ _ _ _ e)
      | exact ft_vI e (fun _ e => hK _ _ _ _ e)
      | exact ft_vJ e (fun _ e => hK _ _ _ _ e)
      | exact ft_vR e (fun _ e => hK _ _ _ _ e)
      | exact ft_vI e (fun _ e => ft_st1 e (fun _ e => hK _ _ _ _ e))
      | exact ft_at hm e (fun _ _ e => ft_vI e (fun _ e => hK _ _ _ _ e))
      | exact ft_at hm e (fun _ _ e => ft_vJ e (fun _ e => hK _ _ _ _ e))
      | exact ft_at hm e (fun _ _ e => ft_vR e (fun _ e => hK _ _ _ _ e))
      | exact ft_at hm e (fun _ _ e => ft_if hm e (fun e => hK _ _ _ _ e) (fun e => ft_none e))
      | exact ft_at hm e (fun _ _ e => ft_ix hm e (fun _ e => ft_vI e (fun _ e => hK _ _ _ _ e)))
      | exact ft_at hm e (fun _ _ e => ft_ix hm e (fun _ e => ft_vJ e (fun _ e => hK _ _ _ _ e)))
      | exact ft_atA hm e (fun _ _ _ e => ft_ix hm e (fun _ e => ft_vR e (fun _ e => hK _ _ _ _ e)))
      | exact ft_atA hm e (fun _ _ _ e => hK _ _ _ _ e)
      | exact ft_at hm e (fun _ _ e => ft_sx hm e (fun _ e => hK _ _ _ _ e))
      | exact ft_if hm e (fun e => hK _ _ _ _ e) (fun e => hK _ _ _ _ e)
      | exact ft_if hm e (fun e => ft_none e) (fun e => hK _ _ _ _ e)
      | exact ft_bif e (fun e => hK _ _ _ _ e) (fun e => ft_none e)
      | exact ft_sw hm (fun _ e => hK _ _ _ _ e) _ e
      | exact ft_sR hm e (fun _ e => hK _ _ _ _ e)
      | exact ft_at hm e (fun _ _ e => hK _ _ _ _ e)
      | exact ft_nn e (fun e => ft_bif e (fun e => hK _ _ _ _ e) (fun e => ft_none e))
      | exact ft_bif e (fun e => ft_cp hm e (fun _ e => hK _ _ _ _ e)) (fun e => ft_none e)
      | exact ft_bif e (fun e => ft_cln hm e (fun _ _ e => hK _ _ _ _ e)) (fun e => ft_none e)
      | exact ft_if hm e (fun e => ft_at hm e (fun _ _ e => ft_if hm e (fun e => hK _ _ _ _ e) (fun e => ft_none e))) (fun e => ft_none e)
      | exact ft_if hm e (fun e => ft_at hm e (fun _ _ e => ft_sx hm e (fun _ e => hK _ _ _ _ e))) (fun e => ft_none e)
      | exact ft_if hm e (fun e => hm _ _ (fun _ _ => e) ht) (fun e => ft_none e)
      | exact ft_mk hm e (fun _ _ e => hK _ _ _ _ e)
      | exact ft_mk hm e (fun _ _ e => hm _ _ (fun _ _ => e) ht)
      | exact ft_if hm e (fun e => ft_none e) (fun e => ft_if hm e (fun e => ft_mk hm e (fun _ _ e => hK _ _ _ _ e)) (fun e => ft_none e))
      | exact ft_bif e (fun e => ft_ret hm ha e (fun _ e => hC _ _ _ _ e) hX (fun _ _ e => hK _ _ _ _ e)) (fun e => ft_none e)
      | exact ft_at hm e (fun _ _ e => ft_bif e (fun e => ft_ret hm ha e (fun _ e => hC _ _ _ _ e) hX (fun _ _ e => hK _ _ _ _ e)) (fun e => ft_none e))
      | exact ft_at hm e (fun _ _ e => ft_bif e (fun e => ft_cV hm ha e (fun _ e => hC _ _ _ _ e) hX (fun _ e => hK _ _ _ _ e)) (fun e => ft_none e))
      | split at e
theorem ft_go (hm : ∀ p q : ι → Prop, (∀ i, p i → q i) → T p → T q) (ha : ∀ p q : ι → Prop, T p → T q → T (fun i => p i ∧ q i)) (ht : T (fun _ => True)) {lim : Nat × Nat} {M : ah_M} {C0 : ah_C} {C : ι → ah_C} {J0 : ah_K} {J : ι → ah_K} {z : ah_R}
    (hC : ∀ y as h r, C0 y as h = some r → T (fun i => C i y as h = some r)) (hJ : ∀ pc L st h, J0 pc L st h = some z → T (fun i => J i pc L st h = some z)) : ∀ (f pc : Nat) (L : ah_L) (st : List AV) (h : ah_H), ah_go lim M C0 J0 f pc L st h = some z → T (fun i => ah_go lim M (C i) (J i) f pc L st h = some z)
  | 0, _, _, _, _, e => by cases e
  | f + 1, pc, L, st, h, e => by
    unfold ah_go at e ⊢
    cases hl : ah_lkc M.1 pc with
    | none => rw [hl] at e; cases e
    | some E =>
      obtain ⟨i, nx, q, ts, w⟩ := E
      rw [hl] at e
      dsimp only at e ⊢
      refine ft_step hm ha ht e hC ?_ ?_
      · intro x y e
        refine ft_bif e (fun e => ?_) (fun e => ft_none e)
        cases hc : ah_catch M.2.2.1 pc x.1 with
        | none => rw [hc] at e; cases e
        | some t => rw [hc] at e; exact hJ _ _ _ _ e
      · intro pc' L' st' h' e
        cases hc : ah_lk M.2.1 pc' with
        | none => rw [hc] at e; exact ft_go hm ha ht hC hJ f pc' L' st' h' e
        | some ms9 => rw [hc] at e; exact hJ _ _ _ _ e
end Lim
theorem ah_run_succ {lim : Nat × Nat} {P : Nat → Option ah_M} {n d y pc : Nat} {L : ah_L} {st : List AV} {h : ah_H} {M : ah_M} (hM : P y = some M) : ah_run lim P (n + 1) d y pc L st h = ah_go lim M (ah_calls P (ah_run lim P n) d) (ah_run lim P n d y) 1000 pc L st h := by
  dsimp only [ah_run]
  rw [hM]
theorem ah_run_mono {lim : Nat × Nat} {P : Nat → Option ah_M} : ∀ (n d y pc : Nat) (L : ah_L) (st : List AV) (h : ah_H) (z : ah_R), ah_run lim P n d y pc L st h = some z → ah_run lim P (n + 1) d y pc L st h = some z
  | 0, _, _, _, _, _, _, _, e => by cases e
  | n + 1, d, y, pc, L, st, h, z, e => by
    cases hM : P y with
    | none =>
      dsimp only [ah_run] at e
      rw [hM] at e; cases e
    | some M =>
      rw [ah_run_succ hM] at e ⊢
      refine ft_go (ι := Unit) (T := fun p => p ()) (fun p q h1 h2 => h1 _ h2) (fun p q h1 h2 => ⟨h1, h2⟩) trivial (C := fun _ => ah_calls P (ah_run lim P (n + 1)) d) (J := fun _ => ah_run lim P (n + 1) d y) ?_ ?_ 1000 pc L st h e
      · intro y' as h' r e'
        unfold ah_calls at e' ⊢
        cases d with
        | zero => cases e'
        | succ d =>
          dsimp only at e' ⊢
          cases hM' : P y' with
          | none => rw [hM'] at e'; cases e'
          | some M' =>
            rw [hM'] at e'
            dsimp only at e' ⊢
            cases hq : Nat.ble (ah_lay as).length M'.2.2.2.2 with
            | false => rw [hq] at e'; cases e'
            | true => rw [hq] at e'; exact ah_run_mono n d y' 0 _ [] h' r e'
      · intro pc' L' st' h' e'
        exact ah_run_mono n d y pc' L' st' h' z e'
theorem ah_run_le {lim : Nat × Nat} {P : Nat → Option ah_M} {n m d y pc : Nat} {L : ah_L} {st : List AV} {h : ah_H} {z : ah_R} (e : ah_run lim P n d y pc L st h = some z) (hnm : n ≤ m) : ah_run lim P m d y pc L st h = some z := by
  induction hnm with
  | refl => exact e
  | step _ ih => exact ah_run_mono _ _ _ _ _ _ _ _ ih
/-- what the method y comes to, from pc on -/
noncomputable def ah_val (lim : Nat × Nat) (P : Nat → Option ah_M) (d y : Nat) : ah_K := fun pc L st h => @dite _ (∃ z n, ah_run lim P n d y pc L st h = some z) (Classical.propDecidable _) (fun hx => some (Classical.choose hx)) (fun _ => none)
theorem ah_val_iff {lim : Nat × Nat} {P : Nat → Option ah_M} {d y pc : Nat} {L : ah_L} {st : List AV} {h : ah_H} {z : ah_R} : ah_val lim P d y pc L st h = some z ↔ ∃ n, ah_run lim P n d y pc L st h = some z := by
  unfold ah_val
  constructor
  · intro e
    by_cases hx : ∃ z n, ah_run lim P n d y pc L st h = some z
    · rw [dif_pos hx] at e
      obtain ⟨n, hn⟩ := Classical.choose_spec hx
      cases e
      exact ⟨n, hn⟩
    · rw [dif_neg hx] at e; cases e
  · rintro ⟨n, hn⟩
    have hx : ∃ z n, ah_run lim P n d y pc L st h = some z := ⟨z, n, hn⟩
    rw [dif_pos hx]
    obtain ⟨m, hm⟩ := Classical.choose_spec hx
    have h1 := ah_run_le hn (Nat.le_max_left n m)
    have h2 := ah_run_le hm (Nat.le_max_right n m)
    rw [h1] at h2
    cases h2
    rfl
/-- it is what one stretch makes of it -/
theorem ah_val_eq {lim : Nat × Nat} {P : Nat → Option ah_M} {d y pc : Nat} {L : ah_L} {st : List AV} {h : ah_H} {M : ah_M} (hM : P y = some M) : ah_val lim P d y pc L st h = ah_go lim M (ah_calls P (ah_val lim P) d) (ah_val lim P d y) 1000 pc L st h := by
  have key : ∀ z, ah_val lim P d y pc L st h = some z ↔ ah_go lim M (ah_calls P (ah_val lim P) d) (ah_val lim P d y) 1000 pc L st h = some z := by
    intro z
    constructor
    · intro e
      obtain ⟨n, hn⟩ := ah_val_iff.mp e
      cases n with
      | zero => cases hn
      | succ n =>
        dsimp only [ah_run] at hn
        rw [hM] at hn
        refine ft_go (ι := Unit) (T := fun p => p ()) (fun p q h1 h2 => h1 _ h2) (fun p q h1 h2 => ⟨h1, h2⟩) trivial (C := fun _ => ah_calls P (ah_val lim P) d) (J := fun _ => ah_val lim P d y) ?_ ?_ 1000 pc L st h hn
        · intro y' as h' r e'
          unfold ah_calls at e' ⊢
          cases d with
          | zero => cases e'
          | succ d =>
            dsimp only at e' ⊢
            cases hM' : P y' with
            | none => rw [hM'] at e'; cases e'
            | some M' =>
              rw [hM'] at e'
              dsimp only at e' ⊢
              cases hq : Nat.ble (ah_lay as).length M'.2.2.2.2 with
              | false => rw [hq] at e'; cases e'
              | true => rw [hq] at e'; exact ah_val_iff.mpr ⟨n, e'⟩
        · intro pc' L' st' h' e'
          exact ah_val_iff.mpr ⟨n, e'⟩
    · intro e
      have h1 := ft_go (ι := Nat) (T := fun p => ∃ n, ∀ m, n ≤ m → p m) (fun p q h1 ⟨n, h2⟩ => ⟨n, fun m hm => h1 _ (h2 m hm)⟩) (fun p q ⟨n1, h1⟩ ⟨n2, h2⟩ => ⟨max n1 n2, fun m hm => ⟨h1 m (Nat.le_trans (Nat.le_max_left _ _) hm), h2 m (Nat.le_trans (Nat.le_max_right _ _) hm)⟩⟩) ⟨0, fun _ _ => trivial⟩ (lim := lim) (M := M) (C0 := ah_calls P (ah_val lim P) d) (J0 := ah_val lim P d y) (C := fun n => ah_calls P (ah_run lim P n) d) (J := fun n => ah_run lim P n d y) (z := z) ?_ ?_ 1000 pc L st h e
      · obtain ⟨n, hn⟩ := h1
        refine ah_val_iff.mpr ⟨n + 1, ?_⟩
        dsimp only [ah_run]
        rw [hM]
        exact hn n (Nat.le_refl _)
      · intro y' as h' r e'
        unfold ah_calls at e' ⊢
        cases d with
        | zero => cases e'
        | succ d =>
          dsimp only at e' ⊢
          cases hM' : P y' with
          | none => rw [hM'] at e'; cases e'
          | some M' =>
            rw [hM'] at e'
            dsimp only at e' ⊢
            cases hq : Nat.ble (ah_lay as).length M'.2.2.2.2 with
            | false => rw [hq] at e'; cases e'
            | true =>
              rw [hq] at e'
              obtain ⟨n, hn⟩ := ah_val_iff.mp e'
              exact ⟨n, fun m hm => ah_run_le hn hm⟩
      · intro pc' L' st' h' e'
        obtain ⟨n, hn⟩ := ah_val_iff.mp e'
        exact ⟨n, fun m hm => ah_run_le hn hm⟩
  cases h1 : ah_go lim M (ah_calls P (ah_val lim P) d) (ah_val lim P d y) 1000 pc L st h with
  | some z => exact (key z).mpr h1
  | none =>
    cases h2 : ah_val lim P d y pc L st h with
    | none => rfl
    | some z => rw [(key z).mp h2] at h1; cases h1
