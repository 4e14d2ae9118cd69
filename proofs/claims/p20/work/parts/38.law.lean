/-! THE LAW'S OWN BODY, FROM ITS ENTRY TO ITS END -/
theorem am_drop {s t : State} {L : List Loc} {k n : Nat} (h : s.sameButNew t L k n) (hL : ∀ q ∈ L, s.heap.size ≤ q.base) : s.sameButNew t [] k n := by
  obtain ⟨e1, e2, e3, e4, e5, e6⟩ := h
  refine ⟨e1, e2, e3, e4, e5, fun a c hc => ?_⟩
  obtain ⟨c', q1, q2, q3, q4⟩ := e6 a c hc
  refine ⟨c', q1, q2, q3, fun i _ => q4 i (fun hm => ?_)⟩
  have h1 : s.heap.size ≤ a := hL _ hm
  have h2 := (Array.getElem?_eq_some_iff.mp hc).1
  exact absurd h1 (Nat.not_le.mpr h2)
theorem am_law {l : Launch} {G : am_G} {Ts : List Cond} {I : am_I} {P : Nat → Option ah_M} (hT : am_T G Ts) (hfl : l.stackTraces = false) (hBs : (am_B G).size = G.2.2.2.2.1) (hA : am_all G Ts I P) {y : Nat} {N : MethodName} {bytes : ByteArray} {maxL : Nat} {ret : Option FieldType} {M : ah_M} (hI : I y = some (N, bytes, maxL, ret, [])) (hP : P y = some M) (hM2 : M.2.2.2.2 = maxL)
    {d : Nat} {as : List AV} {h h' : ah_H} {rv : Option AV} (hrun : ah_val G.2.2.2.1 P d y 0 (ah_in M as) [] h = some (.inl rv, h')) (hfit : (ah_lay as).length ≤ maxL) {p : Program} {e : Env} {R : Room} {s : State} {m : MethodId} {below : List Frame} {meth : Method} {c : Code} (hS : am_S G Ts N.cls N.name M.2.2.2.1 p R s m (as.map toV).toArray meth c bytes maxL d h) (htab : c.exceptionTable.toList = []) (hR : ar_H G.1 G.2.1 G.2.2.1 G.2.2.2.1 G.2.2.2.2.1 (am_B G) h s.heap) :
    W p l e R s m (as.map toV).toArray below meth c s.heap [] 0 0 (am_Q G below (as.map toV).toArray s h (.inl rv, h')) (entryFrame m (as.map toV).toArray maxL) := by
  obtain ⟨n, hn⟩ := ah_val_iff.mp hrun
  have body := (am_sound hT hfl hBs hA n d y N bytes maxL ret [] M hI hP).1
  have hlen : (ah_in M as).length = maxL := by
    unfold ah_in
    rw [List.length_append, List.length_replicate, hM2]
    omega
  have hl0 := lv_entry (as.map toV) (n := maxL) (by rw [← al_lay_len]; exact hfit)
  have hl : al_has ((lg_sl (as.map toV) ++ List.replicate (maxL - (lg_sl (as.map toV)).length) Slot.unset).toArray) (ah_in M as) := by
    refine ⟨hl0.1.trans hlen.symm, hl0.2.1, fun i v hv => ?_⟩
    have := al_lay_nth as _ i v hv 0
    rw [Nat.zero_add] at this
    exact hl0.2.2 _ this
  rw [lg_entry_eq]
  exact body (.inl rv, h') h 0 (ah_in M as) [] h hn (fun ka h9 g => by cases g) p e R s m _ below meth c hS (by rw [htab]; rfl) hR.2.1.symm _ s.heap [] 0 0 hlen hl hR (fun q hq => by cases hq) (Nat.le_refl _)
theorem am_fin {G : am_G} {below : List Frame} {args : Array Value} {s t : State} {h h' : ah_H} {rv : Option AV} (hb : s.heap.size ≤ G.2.2.2.2.1) {C S : Nat} (hc : G.2.2.2.1.1 - h.2.1 ≤ C) (hs : G.2.2.2.1.2 - h.2.2.1 ≤ S) (q : am_Q G below args s h (.inl rv, h') t) : ∃ o, t.status = .running ∧ Ended t below o ∧ o = .returned (rv.map toV) ∧ Framed s o t [] C S := by
  obtain ⟨o, r1, r2, ⟨r3, -, -⟩, L, ⟨f1, f2, f3⟩, fL⟩ := q
  exact ⟨o, r1, r2, r3, f1, f2, (am_drop f3 (fun q hq => Nat.le_trans hb (fL q hq).1)).mono hc hs⟩
/-- the heap at the law's start: the script alone -/
def am_h0 (b L : Nat) (xs : Nat → Int32) (n : Nat) : ah_H := (fun q => if q = b then some (104, (List.range L).map fun j => .inl (xs j)) else none, n, 0, 0)
theorem am_h0_ok {cl : List vw_C} {ak : List (Nat × FieldType)} {D : ar_D} {lim : Nat × Nat} {b L : Nat} {xs : Nat → Int32} {s : State} (hX : ∃ scr : Cell, s.heap[b]? = some scr ∧ s.isArrayOf scr .int ∧ scr.vm ≠ .unknown ∧ scr.slots.size = L ∧ (∀ j : Nat, j < L → scr.slots[j]? = some (.int (xs j))) ∧ scr.cls = D.2.2 104) (hak : (104, FieldType.int) ∈ ak) (hlim : s.heap.size ≤ lim.1) : ar_H cl ak D lim s.heap.size s.heap (am_h0 b L xs s.heap.size) s.heap := by
  obtain ⟨scr, x1, x2, x3, x4, x5, x6⟩ := hX
  refine ⟨⟨Nat.le_refl _, fun q _ => rfl⟩, rfl, ?_, hlim, Nat.zero_le _, ?_⟩
  · show ar_S s.heap.size s.heap = 0
    unfold ar_S
    rw [List.drop_eq_nil_of_le (by simp)]
    rfl
  · intro a o ho
    by_cases hab : a = b
    · subst hab
      have h1 : some (104, (List.range L).map fun j => (.inl (xs j) : AV)) = some o := by
        have := ho
        unfold am_h0 at this
        dsimp only at this
        rw [if_pos rfl] at this
        exact this
      cases h1
      refine ⟨fun h => absurd rfl h, scr, x1, Or.inr (Or.inl ⟨by show 100 ≤ 104; decide, by show 104 < 200; decide, ⟨_, hak⟩, ⟨x2.1, x3, fun h => absurd rfl h⟩, x6, ?_⟩)⟩
      apply Array.ext
      · simp [x4]
      · intro i h1 h2
        have hi : i < L := by rw [← x4]; exact h1
        have h3 := x5 i hi
        rw [Array.getElem?_eq_getElem h1] at h3
        rw [Option.some.inj h3]
        simp [toV]
    · exfalso
      have : (if a = b then some (104, (List.range L).map fun j => (.inl (xs j) : AV)) else none) = some o := ho
      rw [if_neg hab] at this
      cases this
/-! CLASSES, ARRAY CLASSES AND EXCEPTIONS AT THE START -/
theorem kn_cl {tbl : List Cond} {s : State} {args : Array Value} (hts : ∀ w ∈ tbl, w.before args s = true) (cl : List vw_C) (hcl : ∀ (kd : Nat) (C : String) (T : u_T) (N : Nat), cl[kd]? = some (C, T, N) → (∀ w ∈ u_ws C T N, w ∈ tbl) ∧ Cond.instantiable C N ∈ tbl) : ∃ (dC : Nat → ClassId) (dI : Nat → Nat → Nat), ∀ (c : Nat) (q : vw_C), cl[c]? = some q → u_Kn s q.1 q.2.1 q.2.2 (dC c) (dI c) := by
  have key : ∀ c : Nat, ∃ (x : ClassId × (Nat → Nat)), ∀ q : vw_C, cl[c]? = some q → u_Kn s q.1 q.2.1 q.2.2 x.1 x.2 := by
    intro c
    cases h : cl[c]? with
    | none => exact ⟨(0, fun _ => 0), fun q hq => by cases hq⟩
    | some q =>
      obtain ⟨C, T, N⟩ := q
      obtain ⟨h1, h2⟩ := hcl c C T N h
      obtain ⟨cC, iS, hk⟩ := u_known hts h1 (hts _ h2)
      exact ⟨(cC, iS), fun q hq => by cases hq; exact hk⟩
  exact ⟨fun c => (Classical.choose (key c)).1, fun c => (Classical.choose (key c)).2, fun c q hq => Classical.choose_spec (key c) q hq⟩
theorem kn_arr {s : State} {args : Array Value} {ty : FieldType} (hp : ty = .int ∨ ty = .long ∨ ty = .boolean ∨ ty = .byte) (h : (Cond.arrayClass ty).before args s = true) : ∃ x, ArrOfT s x ty ∧ va_RA s x ty := by
  obtain ⟨c, k, comp, h1, h2, h3⟩ := Cond.arrayClass_spec (show (Cond.arrayClass ty).holds args s none s [] = true from h)
  refine ⟨c, fun n z => ⟨(fun k h => by cases h), k, h2, comp, h3⟩, ?_⟩
  rcases hp with rfl | rfl | rfl | rfl <;> exact h1
theorem kn_obj {s : State} {args : Array Value} {C : String} (h : (Cond.arrayOver (.object C)).before args s = true) : ∃ x, ArrOfT s x (.object C) ∧ va_RA s x (.object C) := by
  obtain ⟨comp, c, k, h1, h2, h3, h4, h5⟩ := Cond.arrayOver_spec (show (Cond.arrayOver (.object C)).holds args s none s [] = true from h)
  exact ⟨c, fun n z => ⟨(fun k h => by cases h), k, h3, comp, h4⟩, k, comp, h3, h4, h1, h5⟩
theorem kn_D {s : State} {ak : List (Nat × FieldType)} {exc : List (Nat × String)} (akf : Nat → Option FieldType) (exf : Nat → Option String) (ha : ∀ kd ty, (kd, ty) ∈ ak → akf kd = some ty) (he : ∀ kd E, (kd, E) ∈ exc → akf kd = none ∧ exf kd = some E) {x : ClassId} (hx : ArrOfT s x .int) (h104 : akf 104 = some .int)
    (hk : ∀ kd ty, kd ≠ 104 → akf kd = some ty → ∃ x, ArrOfT s x ty ∧ va_RA s x ty) (hE : ∀ kd E, exf kd = some E → ∃ x, s.vm.findClass E = some x) : ∃ f : Nat → ClassId, f 104 = x ∧ (∀ kd ty, (kd, ty) ∈ ak → ArrOfT s (f kd) ty ∧ (kd ≠ 104 → va_RA s (f kd) ty)) ∧ ∀ kd E, (kd, E) ∈ exc → s.vm.findClass E = some (f kd) := by
  have key : ∀ kd, ∃ z : ClassId, (kd = 104 → z = x) ∧ (∀ ty, akf kd = some ty → ArrOfT s z ty ∧ (kd ≠ 104 → va_RA s z ty)) ∧ ∀ E, akf kd = none → exf kd = some E → s.vm.findClass E = some z := by
    intro kd
    by_cases h4 : kd = 104
    · subst h4
      exact ⟨x, fun _ => rfl, (fun ty hty => by rw [h104] at hty; cases hty; exact ⟨hx, fun h => absurd rfl h⟩), (fun E hn => by rw [h104] at hn; cases hn)⟩
    · cases h1 : akf kd with
      | some ty =>
        obtain ⟨z, z1, z2⟩ := hk kd ty h4 h1
        exact ⟨z, fun h => absurd h h4, (fun ty' h => by cases h; exact ⟨z1, fun _ => z2⟩), (fun E hn => by cases hn)⟩
      | none =>
        cases h2 : exf kd with
        | none => exact ⟨0, fun h => absurd h h4, (fun ty h => by cases h), (fun E _ h => by cases h)⟩
        | some E =>
          obtain ⟨z, hz⟩ := hE kd E h2
          exact ⟨z, fun h => absurd h h4, (fun ty h => by cases h), (fun E' _ h => by cases h; exact hz)⟩
  refine ⟨fun kd => Classical.choose (key kd), (Classical.choose_spec (key 104)).1 rfl, fun kd ty hm => (Classical.choose_spec (key kd)).2.1 ty (ha kd ty hm), fun kd E hm => (Classical.choose_spec (key kd)).2.2 E (he kd E hm).1 (he kd E hm).2⟩
