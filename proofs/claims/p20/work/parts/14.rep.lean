/-! THE ABSTRACT HEAP AND THE MACHINE'S -/
def toV : AV → Value
  | .inl x => .int x
  | .inr (.inl x) => .long x
  | .inr (.inr r) => va_rf r
/-- class numbers, slots of fields, numbers of array classes and exceptions -/
abbrev ar_D : Type := (Nat → ClassId) × (Nat → Nat → Nat) × (Nat → ClassId)
def ar_C (cl : List vw_C) (ak : List (Nat × FieldType)) (D : ar_D) (o : ah_O) (cell : Cell) : Prop :=
  (o.1 < 100 ∧ cell.vm = .none ∧ ∃ r, cl[o.1]? = some r ∧ cell.cls = D.1 o.1 ∧ o.2.length = r.2.2 ∧ ∀ k v, o.2[k]? = some v → cell.slots[D.2.1 o.1 k]? = some (toV v)) ∨
  (100 ≤ o.1 ∧ o.1 < 200 ∧ (∃ ty, (o.1, ty) ∈ ak) ∧ ((∀ k, cell.vm ≠ .statics k) ∧ cell.vm ≠ .unknown ∧ (o.1 ≠ 104 → cell.vm = .none)) ∧ cell.cls = D.2.2 o.1 ∧ cell.slots = (o.2.map toV).toArray) ∨ (200 ≤ o.1 ∧ cell.vm = .none ∧ cell.cls = D.2.2 o.1)
def ar_S (b : Nat) (H : Heap) : Nat := ((H.toList.drop b).map (·.slots.size)).sum
def ar_H (cl : List vw_C) (ak : List (Nat × FieldType)) (D : ar_D) (lim : Nat × Nat) (b : Nat) (B : Heap) (h : ah_H) (H : Heap) : Prop :=
  (b ≤ H.size ∧ ∀ q : Nat, q < b → H[q]? = B[q]?) ∧ H.size = h.2.1 ∧ ar_S b H = h.2.2.1 ∧ h.2.1 ≤ lim.1 ∧ h.2.2.1 ≤ lim.2 ∧ ∀ a o, h.1 a = some o → (o.1 ≠ 104 → b ≤ a) ∧ ∃ cell, H[a]? = some cell ∧ ar_C cl ak D o cell
theorem ar_S_same {b : Nat} {H H' : Heap} (hs : H'.size = H.size) (hc : ∀ (a : Nat) (c : Cell), H[a]? = some c → ∃ c' : Cell, H'[a]? = some c' ∧ c'.slots.size = c.slots.size) : ar_S b H' = ar_S b H := by
  unfold ar_S
  congr 1
  apply List.ext_getElem?
  intro i
  rw [List.getElem?_map, List.getElem?_map, List.getElem?_drop, List.getElem?_drop, Array.getElem?_toList, Array.getElem?_toList]
  cases h1 : H[b + i]? with
  | none =>
    have h2 : H'[b + i]? = none := by
      rw [Array.getElem?_eq_none_iff] at h1 ⊢
      omega
    rw [h2]
  | some c =>
    obtain ⟨c', e1, e2⟩ := hc _ _ h1
    rw [e1]
    simp [e2]
theorem ar_S_push {b : Nat} {H : Heap} {c : Cell} (hb : b ≤ H.size) : ar_S b (H.push c) = ar_S b H + c.slots.size := by
  unfold ar_S
  rw [Array.toList_push, List.drop_append_of_le_length (by simpa using hb), List.map_append, List.sum_append]
  simp
/-- the part below n and the part from n on -/
theorem ar_S_split {b n : Nat} {H : Heap} (h1 : b ≤ n) : ar_S b H = (((H.toList.drop b).take (n - b)).map (·.slots.size)).sum + ar_S n H := by
  unfold ar_S
  have e : H.toList.drop b = (H.toList.drop b).take (n - b) ++ H.toList.drop n := by
    have := List.take_append_drop (n - b) (H.toList.drop b)
    rw [List.drop_drop, show b + (n - b) = n by omega] at this
    exact this.symm
  conv => lhs; rw [e]
  rw [List.map_append, List.sum_append]
/-- old cells keep their sizes: what is in use from n = the old size on -/
theorem ar_S_new {b : Nat} {H0 H : Heap} (hb : b ≤ H0.size) (hs : H0.size ≤ H.size) (hc : ∀ (a : Nat) (c : Cell), H0[a]? = some c → ∃ c' : Cell, H[a]? = some c' ∧ c'.slots.size = c.slots.size) : ar_S b H = ar_S b H0 + ar_S H0.size H := by
  rw [ar_S_split (n := H0.size) hb, ar_S_split (H := H0) (n := H0.size) hb]
  have e0 : ar_S H0.size H0 = 0 := by
    unfold ar_S
    rw [List.drop_eq_nil_of_le (by simp)]
    rfl
  rw [e0, Nat.add_zero]
  congr 2
  apply List.ext_getElem?
  intro i
  rw [List.getElem?_map, List.getElem?_map, List.getElem?_take, List.getElem?_take, List.getElem?_drop, List.getElem?_drop, Array.getElem?_toList, Array.getElem?_toList]
  by_cases hi : i < H0.size - b
  · rw [if_pos hi, if_pos hi]
    have hlt : b + i < H0.size := by omega
    obtain ⟨c', e1, e2⟩ := hc (b + i) _ (Array.getElem?_eq_getElem hlt)
    rw [e1, Array.getElem?_eq_getElem hlt]
    simp [e2]
  · rw [if_neg hi, if_neg hi]
theorem ar_H.up {cl : List vw_C} {ak : List (Nat × FieldType)} {D : ar_D} {lim : Nat × Nat} {b : Nat} {B : Heap} {h : ah_H} {H H' : Heap} {a : Nat} {o : ah_O} {cell cell' : Cell} (hR : ar_H cl ak D lim b B h H) (hba : b ≤ a) (hcell : H[a]? = some cell) (hs : H'.size = H.size) (ho : ∀ q : Nat, q ≠ a → H'[q]? = H[q]?) (ha : H'[a]? = some cell') (hz : cell'.slots.size = cell.slots.size) (hC : ar_C cl ak D o cell') : ar_H cl ak D lim b B (ah_up h a o) H' := by
  obtain ⟨h1, h2, h3, h4, h5, h6⟩ := hR
  refine ⟨⟨by have := h1.1; omega, fun q hq => by rw [ho q (by omega)]; exact h1.2 q hq⟩, by show H'.size = h.2.1; omega, ?_, h4, h5, ?_⟩
  · show ar_S b H' = h.2.2.1
    rw [← h3]
    refine ar_S_same hs (fun q c hq => ?_)
    by_cases e : q = a
    · subst e
      rw [hcell] at hq
      cases hq
      exact ⟨_, ha, hz⟩
    · exact ⟨c, by rw [ho q e]; exact hq, rfl⟩
  · intro q o' hq
    by_cases e : q = a
    · subst e
      have : o' = o := by
        have h9 : (if q = q then some o else h.1 q) = some o' := hq
        rw [if_pos rfl] at h9
        exact (Option.some.inj h9).symm
      subst this
      exact ⟨fun _ => hba, cell', ha, hC⟩
    · have h9 : (if q = a then some o else h.1 q) = some o' := hq
      rw [if_neg e] at h9
      obtain ⟨k1, c1, k2, k3⟩ := h6 q o' h9
      exact ⟨k1, c1, by rw [ho q e]; exact k2, k3⟩
theorem ar_H.push {cl : List vw_C} {ak : List (Nat × FieldType)} {D : ar_D} {lim : Nat × Nat} {b : Nat} {B : Heap} {h : ah_H} {H : Heap} {o : ah_O} {cell : Cell} (hR : ar_H cl ak D lim b B h H) (hl : h.2.1 < lim.1 ∧ h.2.2.1 + cell.slots.size ≤ lim.2) (hC : ar_C cl ak D o cell) : ar_H cl ak D lim b B (ah_new h o cell.slots.size) (H.push cell) := by
  obtain ⟨h1, h2, h3, h4, h5, h6⟩ := hR
  refine ⟨⟨by have := h1.1; simp; omega, fun q hq => by have := h1.1; rw [Array.getElem?_push, if_neg (by omega)]; exact h1.2 q hq⟩, by simp [ah_new, h2], by rw [ar_S_push h1.1, h3]; rfl, by simp [ah_new]; omega, by simp [ah_new]; omega, ?_⟩
  intro q o' hq
  by_cases e : q = H.size
  · subst e
    have h9 : (if H.size = h.2.1 then some o else h.1 H.size) = some o' := hq
    rw [if_pos h2] at h9
    cases h9
    exact ⟨fun _ => h1.1, cell, by simp, hC⟩
  · have h9 : (if q = h.2.1 then some o else h.1 q) = some o' := hq
    rw [if_neg (by omega)] at h9
    obtain ⟨k1, c1, k2, k3⟩ := h6 q o' h9
    refine ⟨k1, c1, ?_, k3⟩
    rw [Array.getElem?_push, if_neg e]
    exact k2
section Tight
variable {p : Program} {l : Launch} {e : Env} {R : Room} {s : State} {m : MethodId} {args : Array Value} {below : List Frame} {meth : Method} {c : Code} {H : Heap} {locs : List Loc} {cells slots : Nat} {Q : State → Prop}
/-- the heap itself says how many cells and slots are new -/
theorem ar_tight {b k0 k : Nat} {g : JFrame} (hb : b ≤ s.heap.size) (h0 : ar_S b s.heap = k0) (hk : ar_S b H = k) (w : s.heap.size ≤ H.size → k0 ≤ k → W p l e R s m args below meth c H locs (H.size - s.heap.size) (k - k0) Q g) : W p l e R s m args below meth c H locs cells slots Q g := by
  intro T hT X
  obtain ⟨e1, e2, e3, e4, e5, e6⟩ := X.same
  have hh : (T.setVm s.vm).heap = H := hT
  have hn0 := ar_S_new (b := b) (H0 := s.heap) (H := H) hb (by rw [← hh]; exact e2) (fun a c hc => by
      obtain ⟨c', q1, q2, q3, -⟩ := e6 a c hc
      rw [hh] at q1
      exact ⟨c', q1, q3⟩)
  refine w (by rw [← hh]; exact e2) (by omega) T hT { X with same := ?_ }
  refine ⟨e1, e2, ?_, e4, ?_, e6⟩
  · rw [hh] at e2 ⊢
    omega
  · have hn := ar_S_new (b := b) (H0 := s.heap) (H := H) hb (by rw [← hh]; exact e2) (fun a c hc => by
      obtain ⟨c', q1, q2, q3, -⟩ := e6 a c hc
      rw [hh] at q1
      exact ⟨c', q1, q3⟩)
    have h9 : ((T.setVm s.vm).heap.toList.drop s.heap.size |>.map (·.slots.size)).sum = ar_S s.heap.size H := by rw [hh]; rfl
    show ((T.setVm s.vm).heap.toList.drop s.heap.size |>.map (·.slots.size)).sum ≤ k - k0
    rw [h9]
    omega
end Tight
