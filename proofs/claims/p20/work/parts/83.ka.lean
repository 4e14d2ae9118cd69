/-! WHAT IS KEPT STAYS: nodes beyond those that are kept may change -/
def KA (σ σ' : rS) : Prop := (σ.1 22).toInt ≤ (σ'.1 22).toInt ∧ (∀ j i : Nat, 8 ≤ j → j ≤ 12 → 4000 ≤ i → (i : Int) < 4000 + (σ.1 22).toInt → ia σ' j i = ia σ j i) ∧ σ'.1 39 = σ.1 39 ∧ ia σ' 18 (σ.1 39).toInt.toNat = ia σ 18 (σ.1 39).toInt.toNat ∧ ia σ' 19 (σ.1 39).toInt.toNat = ia σ 19 (σ.1 39).toInt.toNat
section Ka
variable {σ σ' : rS} {k c : Int} {n : Nat} {w : Bool}
theorem vN_KA (A : KA σ σ') (h : vN σ k) : vN σ' k := ⟨h.1, h.2.1, by have := A.1; have := h.2.2; omega⟩
theorem rK (A : KA σ σ') (h : vN σ k) (j : Nat) (h1 : 8 ≤ j) (h2 : j ≤ 12) : ia σ' j k.toNat = ia σ j k.toNat := A.2.1 j _ h1 h2 (by have := h.1; omega) (by have := h.2.2; have := h.1; omega)
theorem r8 (A : KA σ σ') (h : vN σ k) : ia σ' 8 k.toNat = ia σ 8 k.toNat := rK A h 8 (by omega) (by omega)
theorem r9 (A : KA σ σ') (h : vN σ k) : ia σ' 9 k.toNat = ia σ 9 k.toNat := rK A h 9 (by omega) (by omega)
theorem r10 (A : KA σ σ') (h : vN σ k) : ia σ' 10 k.toNat = ia σ 10 k.toNat := rK A h 10 (by omega) (by omega)
theorem r11 (A : KA σ σ') (h : vN σ k) : ia σ' 11 k.toNat = ia σ 11 k.toNat := rK A h 11 (by omega) (by omega)
theorem r12 (A : KA σ σ') (h : vN σ k) : ia σ' 12 k.toNat = ia σ 12 k.toNat := rK A h 12 (by omega) (by omega)
theorem oB_KA (A : KA σ σ') (h : oB σ k) : oB σ' k := by
  obtain ⟨v, h⟩ := h
  refine ⟨vN_KA A v, ?_⟩
  rw [r8 A v, r9 A v, A.2.2.1, A.2.2.2.2]
  exact h
theorem sB_KA (A : KA σ σ') (h : sB σ k) : sB σ' k := by
  obtain ⟨v, h⟩ := h
  refine ⟨vN_KA A v, ?_⟩
  rw [r9 A v]
  exact h
theorem chn_KA (A : KA σ σ') : ∀ {l : Nat} {c : Int}, chn σ l c → chn σ' l c := by
  intro l
  induction l with
  | zero => intro c h; exact h
  | succ l ih =>
    intro c h
    refine ⟨vN_KA A h.1, ?_⟩
    rw [r12 A h.1]
    exact ih h.2
theorem chL_KA (A : KA σ σ') {P P' : Int → Prop} (hP : ∀ c, vN σ c → P c → P' c) : ∀ {l : Nat} {c : Int}, chL σ P l c → chL σ' P' l c := by
  intro l
  induction l with
  | zero => intro c h; exact h
  | succ l ih =>
    intro c h
    refine ⟨vN_KA A h.1, hP _ h.1 h.2.1, ?_⟩
    rw [r12 A h.1]
    exact ih h.2.2
theorem brL_KA (A : KA σ σ') {X X' B B' : Int → Prop} (hX : ∀ c, X c → X' c) (hB : ∀ c, B c → B' c) : ∀ {l : Nat} {c : Int}, brL σ X B l c → brL σ' X' B' l c := by
  intro l
  induction l with
  | zero => intro c h; exact h
  | succ l ih =>
    intro c h
    obtain ⟨v, h⟩ := h
    refine ⟨vN_KA A v, ?_⟩
    rw [r12 A v]
    rcases h with ⟨h1, h2⟩ | ⟨h1, h2, h3, h4⟩
    · exact Or.inl ⟨h1, hB _ h2⟩
    · refine Or.inr ⟨hX _ h1, vN_KA A h2, hB _ h3, ?_⟩
      rw [r12 A h2]
      exact ih h4
theorem xE_KA (A : KA σ σ') : ∀ {n : Nat} {k : Int}, xE σ n k → xE σ' n k := by
  intro n
  induction n with
  | zero => intro k h; exact h
  | succ n ih =>
    intro k h
    obtain ⟨v, h⟩ := h
    refine ⟨vN_KA A v, ?_⟩
    rw [r8 A v, r9 A v, r10 A v, r11 A v]
    rcases h with h | ⟨h1, h2, h3, h4⟩ | ⟨h1, h2⟩ | ⟨h1, h2, h3⟩ | ⟨h1, h2⟩ | ⟨h1, h2, h3, h4⟩ | ⟨h1, h2, h3, h4, h5⟩ | ⟨h1, h2⟩ | ⟨h1, h2⟩
    · exact Or.inl h
    · exact Or.inr (Or.inl ⟨h1, h2, h3, chn_KA A h4⟩)
    · exact Or.inr (Or.inr (Or.inl ⟨h1, ih h2⟩))
    · refine Or.inr (Or.inr (Or.inr (Or.inl ⟨h1, ih h2, ?_⟩)))
      rw [r12 A (xE_v h2)]
      exact ih h3
    · exact Or.inr (Or.inr (Or.inr (Or.inr (Or.inl ⟨h1, oB_KA A h2⟩))))
    · refine Or.inr (Or.inr (Or.inr (Or.inr (Or.inr (Or.inl ⟨h1, ih h2, oB_KA A h3, ?_⟩)))))
      rw [r12 A (xE_v h2)]
      exact ih h4
    · refine Or.inr (Or.inr (Or.inr (Or.inr (Or.inr (Or.inr (Or.inl ⟨h1, oB_KA A h2, ?_⟩))))))
      rw [r12 A h2.1, r12 A h3, r9 A h3, r9 A h4]
      exact ⟨vN_KA A h3, vN_KA A h4, h5⟩
    · refine Or.inr (Or.inr (Or.inr (Or.inr (Or.inr (Or.inr (Or.inr (Or.inl ⟨h1, ?_⟩)))))))
      rcases h2 with ⟨g1, g2⟩ | ⟨g1, g2⟩ | ⟨g1, g2, g3, g4⟩
      · exact Or.inl ⟨g1, sB_KA A g2⟩
      · exact Or.inr (Or.inl ⟨g1, ih g2⟩)
      · refine Or.inr (Or.inr ⟨g1, ih g2, ?_⟩)
        rw [r12 A (xE_v g2), r9 A g3]
        exact ⟨vN_KA A g3, g4⟩
    · exact Or.inr (Or.inr (Or.inr (Or.inr (Or.inr (Or.inr (Or.inr (Or.inr ⟨h1, sB_KA A h2⟩)))))))
theorem xT_KA (A : KA σ σ') (h : xT σ n k) : xT σ' n k := by
  obtain ⟨v, h⟩ := h
  refine ⟨vN_KA A v, ?_⟩
  rw [r8 A v, r11 A v]
  rcases h with h | h
  · exact Or.inl h
  · exact Or.inr ⟨h.1, xE_KA A h.2⟩
theorem xW_KA (A : KA σ σ') (v : vN σ k) (h : xW σ n k) : xW σ' n k := by
  unfold xW
  rw [r11 A v, r12 A (xE_v h.1)]
  exact ⟨xE_KA A h.1, xT_KA A h.2⟩
theorem tG_KA (A : KA σ σ') {v : Int} (h : tG σ n v k) : tG σ' n v k := by
  obtain ⟨q, h⟩ := h
  refine ⟨vN_KA A q, ?_⟩
  rw [r8 A q, r11 A q]
  rcases h with ⟨h1, h2⟩ | ⟨h1, h2, h3, h4⟩ | ⟨h1, h2, h3, h4, h5, h6⟩
  · exact Or.inl ⟨h1, oB_KA A h2⟩
  · refine Or.inr (Or.inl ⟨h1, ?_⟩)
    rw [r8 A h3.1, r12 A h3.1]
    exact ⟨h2, oB_KA A h3, xE_KA A h4⟩
  · refine Or.inr (Or.inr ⟨h1, ?_⟩)
    rw [r8 A h3.1, r12 A h3.1, r12 A h4, r9 A h4, r9 A h5]
    exact ⟨h2, oB_KA A h3, vN_KA A h4, vN_KA A h5, h6⟩
theorem xB_KA (A : KA σ σ') {S S' : Int → Prop} (hS : ∀ c, S c → S' c) (h : xB σ S k) : xB σ' S' k := by
  obtain ⟨v, h1, l, h2⟩ := h
  refine ⟨vN_KA A v, ?_⟩
  rw [r8 A v, r11 A v]
  exact ⟨h1, l, chL_KA A (fun c _ => hS c) h2⟩
theorem xC_KA (A : KA σ σ') {B B' : Int → Prop} (hB : ∀ c, B c → B' c) (v : vN σ k) (h : xC σ n B k) : xC σ' n B' k := by
  obtain ⟨h1, ⟨l, h2⟩, h3⟩ := h
  unfold xC
  rw [r11 A v, r11 A h1, r12 A h1]
  refine ⟨vN_KA A h1, ⟨l, chL_KA A (fun c hc hp => ?_) h2⟩, hB _ h3⟩
  rw [r8 A hc]
  exact hp.imp id (fun g => ⟨g.1, xE_KA A g.2⟩)
theorem xS_v : ∀ {n : Nat} {w : Bool} {k : Int}, xS σ n w k → vN σ k
  | 0, _, _, h => h.elim
  | 1, _, _, h => h.1
  | _ + 2, _, _, h => h.1
theorem xS_KA2 (A : KA σ σ') (ih : ∀ {w : Bool} {k : Int}, xS σ n w k → xS σ' n w k) (h : xS σ (n + 2) w k) : xS σ' (n + 2) w k := by
  have bB : ∀ (w : Bool) (c : Int), xB σ (xS σ n w) c → xB σ' (xS σ' n w) c := fun w c h => xB_KA A (fun c => ih) h
  obtain ⟨v, h⟩ := h
  refine ⟨vN_KA A v, ?_⟩
  rw [r8 A v, r9 A v, r11 A v]
  rcases h with ⟨e, a1, a2, hT, hc2, l, hl, hl1, hc⟩ | ⟨e, hT, hx⟩ | ⟨e, l, hl⟩ | ⟨e, hx, l, hl⟩ | ⟨e, ob, h81, hx, hy, hB⟩ | ⟨e, hx, hB⟩ | ⟨e, hB⟩ | ⟨e, hw, hk, hx⟩ | ⟨e, k1, k2, k3, k4, k5, hT⟩ | e | ⟨e, hx⟩ | ⟨e, hx, hy⟩
  · refine Or.inl ⟨e, a1, a2, tG_KA A hT, ?_⟩
    rw [r12 A hT.1]
    by_cases c : (ia σ 9 k.toNat).toInt = 2
    · have z := hc2 c
      rw [if_pos c] at hc
      rw [if_pos c, r8 A z.1.1, r12 A z.1.1]
      exact ⟨fun _ => ⟨xT_KA A z.1, z.2⟩, l, hl, hl1, chL_KA A (fun c hv hp => xW_KA A hv hp) hc⟩
    · rw [if_neg c] at hc
      rw [if_neg c]
      exact ⟨fun h => absurd h c, l, hl, hl1, chL_KA A (fun c hv hp => xW_KA A hv hp) hc⟩
  · refine Or.inr (Or.inl ⟨e, tG_KA A hT, ?_⟩)
    rw [r12 A hT.1]
    exact xE_KA A hx
  · exact Or.inr (Or.inr (Or.inl ⟨e, l, brL_KA A (fun c => xE_KA A) (bB w) hl⟩))
  · refine Or.inr (Or.inr (Or.inr (Or.inl ⟨e, xE_KA A hx, l, ?_⟩)))
    rw [r12 A (xE_v hx)]
    exact chL_KA A (fun c hv hp => xC_KA A (bB w) hv hp) hl
  · refine Or.inr (Or.inr (Or.inr (Or.inr (Or.inl ⟨e, oB_KA A ob, ?_⟩))))
    rw [r8 A ob.1, r12 A ob.1, r12 A (xE_v hx), r12 A (xE_v hy)]
    exact ⟨h81, xE_KA A hx, xE_KA A hy, bB true _ hB⟩
  · refine Or.inr (Or.inr (Or.inr (Or.inr (Or.inr (Or.inl ⟨e, xE_KA A hx, ?_⟩)))))
    rw [r12 A (xE_v hx)]
    exact bB true _ hB
  · exact Or.inr (Or.inr (Or.inr (Or.inr (Or.inr (Or.inr (Or.inl ⟨e, bB true _ hB⟩))))))
  · refine Or.inr (Or.inr (Or.inr (Or.inr (Or.inr (Or.inr (Or.inr (Or.inl ⟨e, hw, vN_KA A hk, ?_⟩)))))))
    rw [r8 A hk]
    exact hx.imp id (fun g => xE_KA A g)
  · refine Or.inr (Or.inr (Or.inr (Or.inr (Or.inr (Or.inr (Or.inr (Or.inr (Or.inl ⟨e, vN_KA A k1, ?_⟩))))))))
    rw [r10 A k1, r11 A k1, r12 A k1, r8 A k4, r12 A k4]
    exact ⟨k2, chn_KA A k3, vN_KA A k4, k5.imp id (fun g => xE_KA A g), xT_KA A hT⟩
  · exact Or.inr (Or.inr (Or.inr (Or.inr (Or.inr (Or.inr (Or.inr (Or.inr (Or.inr (Or.inl e)))))))))
  · exact Or.inr (Or.inr (Or.inr (Or.inr (Or.inr (Or.inr (Or.inr (Or.inr (Or.inr (Or.inr (Or.inl ⟨e, xE_KA A hx⟩))))))))))
  · refine Or.inr (Or.inr (Or.inr (Or.inr (Or.inr (Or.inr (Or.inr (Or.inr (Or.inr (Or.inr (Or.inr ⟨e, xE_KA A hx, ?_⟩))))))))))
    rw [r12 A (xE_v hx)]
    exact xE_KA A hy
theorem xS_KA (A : KA σ σ') : ∀ {n : Nat} {w : Bool} {k : Int}, xS σ n w k → xS σ' n w k := by
  have key : ∀ n, (∀ {w : Bool} {k : Int}, xS σ n w k → xS σ' n w k) ∧ (∀ {w : Bool} {k : Int}, xS σ (n + 1) w k → xS σ' (n + 1) w k) := by
    intro n
    induction n with
    | zero =>
      refine ⟨fun h => h, fun h => ⟨vN_KA A h.1, ?_⟩⟩
      rw [r8 A h.1]
      exact h.2
    | succ n ih => exact ⟨ih.2, fun h => xS_KA2 A ih.1 h⟩
  exact fun {n} => (key n).1
theorem lF_KA (A : KA σ σ') (h : lF σ n k) : lF σ' n k := by
  have bB : ∀ (w : Bool) (c : Int), xB σ (xS σ n w) c → xB σ' (xS σ' n w) c := fun w c h => xB_KA A (fun c => xS_KA A) h
  obtain ⟨v, h⟩ := h
  refine ⟨vN_KA A v, ?_⟩
  rw [r8 A v, r11 A v]
  rcases h with ⟨e, ob, h81, h3, h4, hB⟩ | ⟨e, hx, hB⟩ | ⟨e, hB⟩
  · refine Or.inl ⟨e, oB_KA A ob, ?_⟩
    rw [r8 A ob.1, r12 A ob.1, r12 A h3, r12 A h4]
    exact ⟨h81, vN_KA A h3, vN_KA A h4, bB true _ hB⟩
  · refine Or.inr (Or.inl ⟨e, xE_KA A hx, ?_⟩)
    rw [r12 A (xE_v hx)]
    exact bB true _ hB
  · exact Or.inr (Or.inr ⟨e, bB true _ hB⟩)
theorem fr_KA (A : KA σ σ') {q : Nat} : ∀ {d n : Nat} {w : Bool}, (∀ i, i < d → ia σ' 27 (128 * q + i) = ia σ 27 (128 * q + i) ∧ ia σ' 28 (128 * q + i) = ia σ 28 (128 * q + i)) → fr σ q d n w → fr σ' q d n w := by
  intro d
  induction d with
  | zero => intro n w _ h; exact h
  | succ d ih =>
    intro n w hf h
    obtain ⟨n', w', h1, h2, h3⟩ := h
    refine ⟨n', w', ih (fun i hi => hf i (by omega)) h1, h2, ?_⟩
    have g1 : fF σ' q d = fF σ q d := congrArg Int32.toInt (hf d (by omega)).1
    have g2 : fG σ' q d = fG σ q d := congrArg Int32.toInt (hf d (by omega)).2
    rw [g1, g2]
    rcases h3 with ⟨t1, t2, t3, l, t4⟩ | ⟨j, t1, t2, t3⟩
    · refine Or.inl ⟨?_, t2, vN_KA A t3, l, chL_KA A (fun c _ hp => xS_KA A hp) t4⟩
      rw [r8 A t3]
      exact t1
    · exact Or.inr ⟨j, t1, t2, lF_KA A t3⟩
theorem wA_KA (A : KA σ σ') {q : Nat} (he : ia σ' 24 q = ia σ 24 q) (h : wA σ q) : wA σ' q := by
  obtain ⟨n, w, h1, h2, h3⟩ := h
  refine ⟨n, w, h1, ?_⟩
  rw [he, r8 A (xS_v h2)]
  exact ⟨xS_KA A h2, h3⟩
end Ka
/-! THE REFERENCE'S STATE BETWEEN CALLS -/
/-- as if the process a were at work -/
abbrev at39 (σ : rS) (a : Int32) : rS := sG σ 39 a
/-- a process -/
def PQ (σ : rS) (a : Int32) : Prop := PV (at39 σ a) ∧ (∃ k, k ≤ 100 ∧ xB (at39 σ a) (xS (at39 σ a) k false) (ia σ 17 a.toInt.toNat).toInt) ∧ 0 ≤ (ia σ 20 a.toInt.toNat).toInt ∧ (ia σ 20 a.toInt.toNat).toInt ≤ 3 ∧ ((ia σ 20 a.toInt.toNat).toInt ≤ 1 → ∃ (d n : Nat) (w : Bool), (ia σ 26 a.toInt.toNat).toInt = d ∧ fr (at39 σ a) a.toInt.toNat d n w) ∧ ((ia σ 20 a.toInt.toNat).toInt = 1 → wA (at39 σ a) a.toInt.toNat)
/-- numbers -/
def NJ (σ : rS) : Prop := 0 ≤ (σ.1 7).toInt ∧ (σ.1 7).toInt ≤ 512 ∧ 0 ≤ (σ.1 8).toInt ∧ (σ.1 8).toInt ≤ 128 * (σ.1 23).toInt ∧ 0 ≤ (σ.1 9).toInt ∧ (σ.1 9).toInt ≤ 128 ∧ 0 ≤ (σ.1 22).toInt ∧ (σ.1 22).toInt ≤ 20000 ∧ 0 ≤ (σ.1 23).toInt ∧ (σ.1 23).toInt ≤ 64
/-- a row of the process that is being made is as long as is said of it -/
def DV (σ : rS) : Prop := ∀ v : Nat, (v : Int) < (σ.1 9).toInt → (ia σ 0 (9216 + v)).toInt = 1 → 0 ≤ (ia σ 2 (9216 + v)).toInt ∧ (ia σ 2 (9216 + v)).toInt ≤ 64
def NI (σ : rS) : Prop := NJ σ ∧ DV σ
theorem DV_e {σ σ' : rS} (h9 : σ'.1 9 = σ.1 9) (ha : ∀ j i, j ≤ 3 → 9216 ≤ i → i < 9344 → ia σ' j i = ia σ j i) (N : NJ σ) (hD : DV σ) : DV σ' := fun v hv => by
  have h128 := N.2.2.2.2.2.1
  rw [h9] at hv
  rw [ha 0 _ (by omega) (by omega) (by omega), ha 2 _ (by omega) (by omega) (by omega)]
  exact hD v hv
def RI (σ : rS) : Prop := OKV σ ∧ DI σ ∧ AI σ ∧ NI σ ∧ ∀ a : Int32, 0 ≤ a.toInt → a.toInt < (σ.1 23).toInt → PQ σ a
section Pq
variable {σ σ' : rS} {a : Int32}
/-- what a process asks of a change -/
theorem PQ_of (A : KA (at39 σ a) (at39 σ' a)) (h17 : ia σ' 17 a.toInt.toNat = ia σ 17 a.toInt.toNat) (h20 : ia σ' 20 a.toInt.toNat = ia σ 20 a.toInt.toNat) (h24 : ia σ' 24 a.toInt.toNat = ia σ 24 a.toInt.toNat) (h26 : ia σ' 26 a.toInt.toNat = ia σ 26 a.toInt.toNat) (hf : ∀ i, i < 128 → ia σ' 27 (128 * a.toInt.toNat + i) = ia σ 27 (128 * a.toInt.toNat + i) ∧ ia σ' 28 (128 * a.toInt.toNat + i) = ia σ 28 (128 * a.toInt.toNat + i)) (h : PQ σ a) : PQ σ' a := by
  obtain ⟨p1, ⟨k, hk, p2⟩, p3, p4, p5, p6⟩ := h
  have e39 : ∀ τ : rS, (at39 τ a).1 39 = a := fun τ => sG_eq
  have s1 := A.2.2.2.1
  have s2 := A.2.2.2.2
  rw [e39] at s1 s2
  unfold PQ
  rw [h17, h20, h26]
  refine ⟨?_, ⟨k, hk, xB_KA A (fun c => xS_KA A) p2⟩, p3, p4, fun h => ?_, fun h => wA_KA A h24 (p6 h)⟩
  · unfold PV at p1 ⊢
    rw [e39] at p1 ⊢
    rw [s1, s2]
    exact p1
  · obtain ⟨d, n, w, g1, g2⟩ := p5 h
    have := fr_b g2
    exact ⟨d, n, w, g1, fr_KA A (fun i hi => hf i (by omega)) g2⟩
end Pq
