/-! THE REFERENCE'S STATE -/
/-- its ints, its longs, its arrays (number, place) -/
abbrev rS : Type := (Nat → Int32) × (Nat → Int64) × (Nat → Nat → Int32) × (Nat → Nat → Int64)
abbrev gf (σ : rS) (k : Nat) : Int32 := σ.1 k
abbrev ia (σ : rS) (j i : Nat) : Int32 := σ.2.2.1 j i
abbrev ja (σ : rS) (j i : Nat) : Int64 := σ.2.2.2 j i
def RF (m : Nat) (g : Nat → Int32) (l : Nat → Int64) : List AV := [aI (g 0), aR (m + 1 + 0), aR (m + 1 + 1), aR (m + 1 + 2), aR (m + 1 + 3), aR (m + 1 + 4), aR (m + 1 + 5), aI (g 7), aI (g 8), aI (g 9), aR (m + 1 + 6), aR (m + 1 + 7), aR (m + 1 + 8), aR (m + 1 + 9), aR (m + 1 + 10), aR (m + 1 + 11), aR (m + 1 + 12), aR (m + 1 + 13), aR (m + 1 + 14), aI (g 19), aR (m + 1 + 15), aI (g 21), aI (g 22), aI (g 23), aR (m + 1 + 16), aR (m + 1 + 17), aR (m + 1 + 18), aR (m + 1 + 19), aR (m + 1 + 20), aR (m + 1 + 21), aR (m + 1 + 22), aR (m + 1 + 23), aR (m + 1 + 24), aR (m + 1 + 25), aR (m + 1 + 26), aR (m + 1 + 27), aR (m + 1 + 28), aR (m + 1 + 29), aR (m + 1 + 30), aI (g 39), aI (g 40), aI (g 41), aI (g 42), aI (g 43), aJ (l 44), aJ (l 45), aI (g 46), aI (g 47), aR (m + 1 + 31), aR (m + 1 + 32), aR (m + 1 + 33), aR (m + 1 + 34), aR (m + 1 + 35), aR (m + 1 + 36), aR (m + 1 + 37), aR (m + 1 + 38)]
def rk (j : Nat) : Nat := ([103, 103, 100, 100, 101, 103, 102, 102, 100, 100, 100, 100, 100, 100, 100, 100, 100, 100, 100, 100, 100, 100, 100, 100, 100, 101, 100, 100, 100, 101, 101, 102, 100, 100, 100, 100, 101, 100, 101] : List Nat).getD j 0
def rn (j : Nat) : Nat := ([10100, 10100, 10100, 10100, 10100, 646400, 512, 512, 24000, 24000, 24000, 24000, 24000, 24000, 24000, 4000, 64, 64, 64, 64, 64, 64, 64, 64, 64, 64, 64, 8192, 8192, 8192, 8192, 200, 200, 200, 200, 200, 200, 201, 528] : List Nat).getD j 0
def rl (σ : rS) (j : Nat) : List AV := (List.range (rn j)).map fun i => if rk j = 101 then aJ (ja σ j i) else aI (ia σ j i)
/-- the reference at m, what is not its own as in b -/
def RH (m : Nat) (σ : rS) (b h : ah_H) : Prop := h.1 m = some (11, RF m σ.1 σ.2.1) ∧ (∀ j, j < 39 → h.1 (m + 1 + j) = some (rk j, rl σ j)) ∧ (∀ q, q < m ∨ m + 39 < q → h.1 q = b.1 q) ∧ h.2.1 = b.2.1 ∧ h.2.2.1 = b.2.2.1
def up1 {α : Type} (g : Nat → α) (k : Nat) (x : α) : Nat → α := fun i => if i = k then x else g i
def up2 {α : Type} (g : Nat → Nat → α) (j k : Nat) (x : α) : Nat → Nat → α := fun a i => if a = j ∧ i = k then x else g a i
abbrev sG (σ : rS) (k : Nat) (x : Int32) : rS := (up1 σ.1 k x, σ.2)
abbrev sL (σ : rS) (k : Nat) (x : Int64) : rS := (σ.1, up1 σ.2.1 k x, σ.2.2)
abbrev sI (σ : rS) (j i : Nat) (x : Int32) : rS := (σ.1, σ.2.1, up2 σ.2.2.1 j i x, σ.2.2.2)
abbrev sJ (σ : rS) (j i : Nat) (x : Int64) : rS := (σ.1, σ.2.1, σ.2.2.1, up2 σ.2.2.2 j i x)
theorem up1_eq {α : Type} {g : Nat → α} {k : Nat} {x : α} : up1 g k x k = x := if_pos rfl
theorem up1_ne {α : Type} {g : Nat → α} {k i : Nat} {x : α} (h : i ≠ k) : up1 g k x i = g i := if_neg h
theorem up2_eq {α : Type} {g : Nat → Nat → α} {j k : Nat} {x : α} : up2 g j k x j k = x := if_pos ⟨rfl, rfl⟩
theorem up2_nj {α : Type} {g : Nat → Nat → α} {j k a i : Nat} {x : α} (h : a ≠ j) : up2 g j k x a i = g a i := if_neg (fun e => h e.1)
theorem up2_ni {α : Type} {g : Nat → Nat → α} {j k a i : Nat} {x : α} (h : i ≠ k) : up2 g j k x a i = g a i := if_neg (fun e => h e.2)
theorem rm_get {f : Nat → AV} {n i : Nat} (h : i < n) : ((List.range n).map f)[i]? = some (f i) := by
  rw [List.getElem?_map, List.getElem?_range h]
  rfl
theorem rm_set {f : Nat → AV} {n k : Nat} {v : AV} : ((List.range n).map f).set k v = (List.range n).map fun i => if i = k then v else f i := by
  apply List.ext_getElem?
  intro i
  by_cases hi : i < n
  · rw [rm_get hi]
    by_cases e : k = i
    · subst e
      rw [List.getElem?_set_self (by rw [List.length_map, List.length_range]; exact hi), if_pos rfl]
    · rw [List.getElem?_set_ne e, rm_get hi, if_neg (fun h => e h.symm)]
  · rw [List.getElem?_eq_none (by rw [List.length_set, List.length_map, List.length_range]; omega), List.getElem?_eq_none (by rw [List.length_map, List.length_range]; omega)]
section Rh
variable {ρ : Type} {Φ : ρ → Prop} {m : Nat} {σ : rS} {b h : ah_H} {j kd k : Nat} {x y : Int32} {z : Int64}
theorem RH_self (H : RH m σ b h) : RH m σ h h := ⟨H.1, H.2.1, fun _ _ => rfl, rfl, rfl⟩
theorem rw_I {K1 : ah_H → Option ρ} (H : RH m σ b h) (hk : k < 56) (e : (RF m σ.1 σ.2.1).set k (aI x) = RF m (up1 σ.1 k x) σ.2.1) (c : ∀ h', RH m (sG σ k x) b h' → wq (K1 h') Φ) : wq (ah_wr h (some m) 11 k (.inl x) K1) Φ := by
  obtain ⟨h1, h2, h3, h4⟩ := H
  refine wq_wr h1 hk (c _ ⟨?_, fun j hj => up_ne (by omega) (h2 j hj), fun q hq => up_ne (by omega) (h3 q hq), h4⟩)
  rw [e]
  exact up_eq
theorem rw_J {K1 : ah_H → Option ρ} (H : RH m σ b h) (hk : k < 56) (e : (RF m σ.1 σ.2.1).set k (aJ z) = RF m σ.1 (up1 σ.2.1 k z)) (c : ∀ h', RH m (sL σ k z) b h' → wq (K1 h') Φ) : wq (ah_wr h (some m) 11 k (.inr (.inl z)) K1) Φ := by
  obtain ⟨h1, h2, h3, h4⟩ := H
  refine wq_wr h1 hk (c _ ⟨?_, fun j hj => up_ne (by omega) (h2 j hj), fun q hq => up_ne (by omega) (h3 q hq), h4⟩)
  rw [e]
  exact up_eq
theorem rl_len : (rl σ j).length = rn j := by
  unfold rl
  rw [List.length_map, List.length_range]
theorem ra_I {K1 : Int32 → Option ρ} (H : RH m σ b h) (hj : j < 39) (hk : rk j = kd) (hl : Nat.beq kd 101 = false) (h0 : 0 ≤ x.toInt) (h1 : x.toInt < rn j) (c : wq (K1 (ia σ j x.toInt.toNat)) Φ) : wq (ah_lI h (some (m + 1 + j)) kd x K1) Φ := by
  have e := H.2.1 j hj
  rw [hk] at e
  refine wq_lI e (ix_ge h0) ?_ c
  have hne : ¬ rk j = 101 := fun q => by rw [← hk, q] at hl; cases hl
  refine (rm_get (ix_lt h0 h1)).trans ?_
  rw [if_neg hne]
  rfl
theorem ra_J {K1 : Int64 → Option ρ} (H : RH m σ b h) (hj : j < 39) (hk : rk j = 101) (h0 : 0 ≤ x.toInt) (h1 : x.toInt < rn j) (c : wq (K1 (ja σ j x.toInt.toNat)) Φ) : wq (ah_lJ h (some (m + 1 + j)) 101 x K1) Φ := by
  have e := H.2.1 j hj
  rw [hk] at e
  refine wq_lJ e (ix_ge h0) ?_ c
  refine (rm_get (ix_lt h0 h1)).trans ?_
  rw [if_pos hk]
  rfl
theorem rs_I {K1 : ah_H → Option ρ} (H : RH m σ b h) (hj : j < 39) (hk : rk j = kd) (hl : Nat.beq kd 101 = false) (h0 : 0 ≤ x.toInt) (h1 : x.toInt < rn j) (c : ∀ h', RH m (sI σ j x.toInt.toNat y) b h' → wq (K1 h') Φ) : wq (ah_sI h (some (m + 1 + j)) kd x (.inl y) K1) Φ := by
  obtain ⟨H1, H2, H3, H4⟩ := H
  have e := H2 j hj
  rw [hk] at e
  have hne : ¬ rk j = 101 := fun q => by rw [← hk, q] at hl; cases hl
  refine wq_sI e (ix_ge h0) (by rw [rl_len]; exact ix_lt h0 h1) (c _ ⟨up_ne (by omega) H1, fun i hi => ?_, fun q hq => up_ne (by omega) (H3 q hq), H4⟩)
  by_cases hij : i = j
  · subst hij
    rw [← hk]
    refine up_eq.trans ?_
    unfold rl
    rw [rm_set]
    refine congrArg (fun l => some (rk i, l)) (List.map_congr_left (fun q _ => ?_))
    rw [if_neg hne, if_neg hne]
    show (if q = x.toInt.toNat then aI y else aI (ia σ i q)) = aI (up2 σ.2.2.1 i x.toInt.toNat y i q)
    by_cases hq : q = x.toInt.toNat
    · subst hq
      rw [if_pos rfl, up2_eq]
    · rw [if_neg hq, up2_ni hq]
  · refine up_ne (by omega) ((H2 i hi).trans ?_)
    unfold rl
    refine congrArg (fun l => some (rk i, l)) (List.map_congr_left (fun q _ => ?_))
    show (if rk i = 101 then aJ (ja σ i q) else aI (ia σ i q)) = (if rk i = 101 then aJ (ja σ i q) else aI (up2 σ.2.2.1 j x.toInt.toNat y i q))
    rw [up2_nj hij]
theorem rs_J {K1 : ah_H → Option ρ} (H : RH m σ b h) (hj : j < 39) (hk : rk j = 101) (h0 : 0 ≤ x.toInt) (h1 : x.toInt < rn j) (c : ∀ h', RH m (sJ σ j x.toInt.toNat z) b h' → wq (K1 h') Φ) : wq (ah_sI h (some (m + 1 + j)) 101 x (.inr (.inl z)) K1) Φ := by
  obtain ⟨H1, H2, H3, H4⟩ := H
  have e := H2 j hj
  rw [hk] at e
  refine wq_sI e (ix_ge h0) (by rw [rl_len]; exact ix_lt h0 h1) (c _ ⟨up_ne (by omega) H1, fun i hi => ?_, fun q hq => up_ne (by omega) (H3 q hq), H4⟩)
  by_cases hij : i = j
  · subst hij
    rw [← hk]
    refine up_eq.trans ?_
    unfold rl
    rw [rm_set]
    refine congrArg (fun l => some (rk i, l)) (List.map_congr_left (fun q _ => ?_))
    rw [if_pos hk, if_pos hk]
    show (if q = x.toInt.toNat then aJ z else aJ (ja σ i q)) = aJ (up2 σ.2.2.2 i x.toInt.toNat z i q)
    by_cases hq : q = x.toInt.toNat
    · subst hq
      rw [if_pos rfl, up2_eq]
    · rw [if_neg hq, up2_ni hq]
  · refine up_ne (by omega) ((H2 i hi).trans ?_)
    unfold rl
    refine congrArg (fun l => some (rk i, l)) (List.map_congr_left (fun q _ => ?_))
    show (if rk i = 101 then aJ (ja σ i q) else aI (ia σ i q)) = (if rk i = 101 then aJ (up2 σ.2.2.2 j x.toInt.toNat z i q) else aI (ia σ i q))
    rw [up2_nj hij]
/-- what has changed: only where Q says so (100: the ints, 101: the longs) -/
def sm (Q : Nat → Nat → Prop) (σ σ' : rS) : Prop := (∀ k, ¬ Q 100 k → σ'.1 k = σ.1 k) ∧ (∀ k, ¬ Q 101 k → σ'.2.1 k = σ.2.1 k) ∧ (∀ j i, ¬ Q j i → σ'.2.2.1 j i = σ.2.2.1 j i) ∧ (∀ j i, ¬ Q j i → σ'.2.2.2 j i = σ.2.2.2 j i)
theorem sm_0 {Q : Nat → Nat → Prop} : sm Q σ σ := ⟨fun _ _ => rfl, fun _ _ => rfl, fun _ _ _ => rfl, fun _ _ _ => rfl⟩
theorem sm_tr {Q Q' : Nat → Nat → Prop} {σ1 σ2 σ3 : rS} (a : sm Q σ1 σ2) (c : sm Q' σ2 σ3) (hq : ∀ j i, Q' j i → Q j i) : sm Q σ1 σ3 := ⟨fun k h => (c.1 k (fun e => h (hq _ _ e))).trans (a.1 k h), fun k h => (c.2.1 k (fun e => h (hq _ _ e))).trans (a.2.1 k h), fun j i h => (c.2.2.1 j i (fun e => h (hq _ _ e))).trans (a.2.2.1 j i h), fun j i h => (c.2.2.2 j i (fun e => h (hq _ _ e))).trans (a.2.2.2 j i h)⟩
theorem sm_G {Q : Nat → Nat → Prop} {σ0 : rS} (a : sm Q σ0 σ) (hq : Q 100 k) : sm Q σ0 (sG σ k x) := ⟨fun i h => (up1_ne (fun e => h (by rw [e]; exact hq))).trans (a.1 i h), a.2⟩
theorem sm_L {Q : Nat → Nat → Prop} {σ0 : rS} (a : sm Q σ0 σ) (hq : Q 101 k) : sm Q σ0 (sL σ k z) := ⟨a.1, fun i h => (up1_ne (fun e => h (by rw [e]; exact hq))).trans (a.2.1 i h), a.2.2⟩
theorem sm_I {Q : Nat → Nat → Prop} {σ0 : rS} (a : sm Q σ0 σ) (hq : Q j k) : sm Q σ0 (sI σ j k x) := ⟨a.1, a.2.1, fun i q h => by
  refine Eq.trans ?_ (a.2.2.1 i q h)
  exact if_neg (fun e => h (by rw [e.1, e.2]; exact hq)), a.2.2.2⟩
theorem sm_J {Q : Nat → Nat → Prop} {σ0 : rS} (a : sm Q σ0 σ) (hq : Q j k) : sm Q σ0 (sJ σ j k z) := ⟨a.1, a.2.1, a.2.2.1, fun i q h => by
  refine Eq.trans ?_ (a.2.2.2 i q h)
  exact if_neg (fun e => h (by rw [e.1, e.2]; exact hq))⟩
end Rh
