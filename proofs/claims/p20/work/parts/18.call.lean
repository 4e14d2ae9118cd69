/-! CONTRACTS AND CALLS -/
/-- the room at depth d, with heap h: all that is left -/
def am_rm (lim : Nat × Nat) (d : Nat) (h : ah_H) : Room := { frames := d + 10, cells := lim.1 - h.2.1, slots := lim.2 - h.2.2.1, locals := 41 * d + 160 }
/-- what is the same for all methods: classes, array classes, numbers, limits, the law's first address, links between nest mates, classes with arrays of references, the heap at the law's start; String constants (class, entry, text); statics that are laid, statics that hold references, exceptions -/
abbrev am_G : Type := List vw_C × List (Nat × FieldType) × ar_D × (Nat × Nat) × Nat × List (String × Nat × MethodName × String) × List String × Heap × List (String × Nat × String) × List (String × String × String) × List (Nat × String) × List MethodName
def am_B (G : am_G) : Heap := G.2.2.2.2.2.2.2.1
def am_str (G : am_G) : List (String × Nat × String) := G.2.2.2.2.2.2.2.2.1
def am_sta (G : am_G) : List (String × String × String) := G.2.2.2.2.2.2.2.2.2.1
def am_exc (G : am_G) : List (Nat × String) := G.2.2.2.2.2.2.2.2.2.2.1
/-- declared methods -/
def am_dec (G : am_G) : List MethodName := G.2.2.2.2.2.2.2.2.2.2.2
/-- words that a call does not hand on by itself -/
def ar_X (G : am_G) (U : State) : Prop := (∀ q ∈ G.2.2.2.2.2.1, va_Nw (.methodLinkNest q.1 q.2.1 q.2.2.1 q.2.2.2) U) ∧ (∀ C ∈ G.2.2.2.2.2.2.1, va_AO C U) ∧ (∀ q ∈ am_str G, ∃ a, vk_R q.1 q.2.1 q.2.2 a U) ∧
  (∀ q ∈ am_sta G, (Cond.laysStatic q.1 q.2.1 q.2.2).before #[] { U with heap := am_B G } = true ∧ (Cond.isRef (.static q.1 q.2.1 q.2.2)).before #[] { U with heap := am_B G } = true) ∧ (∀ q ∈ am_exc G, (Cond.castable q.2 q.2).before #[] U = true ∧ U.vm.findClass q.2 = some (G.2.2.1.2.2 q.1) ∧ ∀ r ∈ am_exc G, r.1 ≠ q.1 → (Cond.not (.castable q.2 r.2)).before #[] U = true) ∧ ∀ q ∈ am_dec G, va_Nw (.declares q) U
theorem ar_sta_vm {q : String × String × String} {B : Heap} {s U : State} (hW : s.WarmedH U.vm) (h : (Cond.laysStatic q.1 q.2.1 q.2.2).before #[] { s with heap := B } = true ∧ (Cond.isRef (.static q.1 q.2.1 q.2.2)).before #[] { s with heap := B } = true) : (Cond.laysStatic q.1 q.2.1 q.2.2).before #[] { U with heap := B } = true ∧ (Cond.isRef (.static q.1 q.2.1 q.2.2)).before #[] { U with heap := B } = true := by
  have hW' : ({ s with heap := B } : State).WarmedH U.vm := hW
  constructor
  · have h1 : (Cond.laysStatic q.1 q.2.1 q.2.2).before #[] (({ s with heap := B } : State).setVm U.vm) = true := Cond.before_shiftedFace (State.Shifted.of_warmed hW') _ rfl h.1
    exact h1
  · have h1 : (Cond.isRef (.static q.1 q.2.1 q.2.2)).before #[] (({ s with heap := B } : State).setVm U.vm) = true := Cond.before_shiftedFace (State.Shifted.of_warmed hW') _ rfl h.2
    exact h1
/-- ... and so it is in every heap that agrees with B -/
theorem ar_sta_at {a b c : String} {B : Heap} {A : Array Value} {U : State} (hB : ∀ i : Nat, i < B.size → U.heap[i]? = B[i]?) (h1 : (Cond.laysStatic a b c).before #[] { U with heap := B } = true) (h2 : (Cond.isRef (.static a b c)).before #[] { U with heap := B } = true) : (Cond.laysStatic a b c).before A U = true ∧ (Cond.isRef (.static a b c)).before A U = true := by
  obtain ⟨c0, k, i, f, ad, cell, e1, e2, e3, e4, e5, e6, e7, e8, e9⟩ := Cond.laysStatic_spec (show (Cond.laysStatic a b c).holds #[] { U with heap := B } none { U with heap := B } [] = true from h1)
  have e2' : U.fieldFound? a b c = some (c0, k, i, f) := e2
  have e1' : U.vm.findClass a = some c0 := e1
  have e5' : U.heap[ad]? = some cell := by rw [hB ad (Array.getElem?_eq_some_iff.mp e5).1]; exact e5
  have e5'' : B[ad]? = some cell := e5
  constructor
  · simp only [Cond.before, Cond.holds, Cond.value]
    rw [e1', e2']
    simp [e4, e5', e3, e6, e7, e8, e9]
  · have z2 : ({ U with heap := B } : State).fieldFound? a b c = some (c0, k, i, f) := e2
    simp only [Cond.before, Cond.holds, Cond.value, Term.eval, State.fieldNamed?] at h2 ⊢
    rw [z2] at h2
    rw [e2']
    simp only [Option.bind_eq_bind, Option.bind_some, e3, e4, e5', e5'', e6] at h2 ⊢
    simpa [e3, e4, e5', e5'', e6] using h2
theorem ar_cast_vm {E : String} {s U : State} (hW : s.WarmedH U.vm) (h : (Cond.castable E E).before #[] s = true) : (Cond.castable E E).before #[] U = true := by
  have h1 : (Cond.castable E E).before #[] (s.setVm U.vm) = true := Cond.before_shiftedCast (State.Shifted.of_warmed hW) _ rfl h
  exact h1
theorem ar_ncast_vm {E F : String} {s U : State} (hW : s.WarmedH U.vm) (h : (Cond.not (.castable E F)).before #[] s = true) : (Cond.not (.castable E F)).before #[] U = true := by
  have h1 : (Cond.not (.castable E F)).before #[] (s.setVm U.vm) = true := Cond.before_shiftedCast (State.Shifted.of_warmed hW) _ rfl h
  exact h1
theorem ar_X.warm {G : am_G} {s U : State} (hW : s.WarmedH U.vm) (h : ar_X G s) : ar_X G U := ⟨fun q hq => va_Nw.warmM hW (h.1 q hq), fun C hC => (h.2.1 C hC).moved hW.alike, fun q hq => by obtain ⟨a, ha⟩ := h.2.2.1 q hq; exact ⟨a, ha.warm hW⟩, fun q hq => ar_sta_vm hW (h.2.2.2.1 q hq), fun q hq => ⟨ar_cast_vm hW (h.2.2.2.2.1 q hq).1, by rw [hW.alike.findClass]; exact (h.2.2.2.2.1 q hq).2.1, fun r hr hne => ar_ncast_vm hW ((h.2.2.2.2.1 q hq).2.2 r hr hne)⟩, fun q hq => va_Nw.warmD hW (h.2.2.2.2.2 q hq)⟩
theorem ar_X.calling {G : am_G} {U : State} (g : JFrame) (mk : MethodId) (a : Array Value) (h : ar_X G U) : ar_X G (U.calling g mk a) := h.warm (State.WarmedH.refl U)
def am_ok (G : am_G) (h : ah_H) (U : State) : Prop := ar_H G.1 G.2.1 G.2.2.1 G.2.2.2.1 G.2.2.2.2.1 (am_B G) h U.heap ∧ ar_K G.1 G.2.1 G.2.2.1 U ∧ ar_X G U
def am_Pc (G : am_G) (as : List AV) (h : ah_H) : Array Value → State → Prop := fun v U => v = (as.map toV).toArray ∧ am_ok G h U
def am_Qc (G : am_G) (h : ah_H) (rv : Option AV) (h' : ah_H) : Array Value → State → Outcome → State → Prop := fun _ _ o t => o = .returned (rv.map toV) ∧ am_ok G h' t ∧ h.2.2.2 ≤ h'.2.2.2
def am_free (G : am_G) (h h' : ah_H) : Addr → Prop := fun q => G.2.2.2.2.1 ≤ q ∧ h.2.2.2 < h'.2.2.2
def am_Met (G : am_G) (l : Launch) (y : MethodName) (ws : List Cond) (d : Nat) (as : List AV) (h : ah_H) (rv : Option AV) (h' : ah_H) : Prop := Met l y ws (am_rm G.2.2.2.1 d h) (am_Pc G as h) (am_Qc G h rv h') (G.2.2.2.1.1 - h.2.1) (G.2.2.2.1.2 - h.2.2.1) (am_free G h h')
theorem am_ok.calling {G : am_G} {h : ah_H} {U : State} (g : JFrame) (mk : MethodId) (a : Array Value) (q : am_ok G h U) : am_ok G h (U.calling g mk a) := ⟨q.1, ar_K.moved (u := U) (U := U.calling g mk a) (Vm.Alike.refl U.vm) q.2.1, q.2.2.calling g mk a⟩
theorem am_blind (G : am_G) (as : List AV) (h : ah_H) : FrameBlind (am_Pc G as h) := fun a U g mk q => ⟨q.1, q.2.calling g mk a⟩
section ACl
variable {p : Program} {l : Launch} {e : Env} {R : Room} {s : State} {m : MethodId} {args : Array Value} {below : List Frame} {meth : Method} {c : Code} {H : Heap} {locs : List Loc} {cells slots : Nat} {Q : State → Prop}
variable {cc : ByteArray} {pc : Nat} {ls : Array Slot} {rest : List Value} {G : am_G} {h0 h h' : ah_H} {d : Nat}
theorem am_pre (hK : ar_K G.1 G.2.1 G.2.2.1 s) (hX : ar_X G s) (hR : ar_H G.1 G.2.1 G.2.2.1 G.2.2.2.1 G.2.2.2.2.1 (am_B G) h H) (as : List AV) : ∀ U : State, U.heap = H → s.WarmedH U.vm → am_Pc G as h (as.map toV).toArray U := fun U hU hW => ⟨rfl, by rw [hU]; exact hR, ar_K.moved hW.alike hK, hX.warm hW⟩
/-- behind a call -/
theorem as_back {mc ms : Nat} {rv : Option AV} {a : Array Value} {st0 : List Value} (hr : CallRun p l e R s m args below meth c H locs cells slots mc ms (F0 m pc ls st0) rest (am_Qc G h rv h' a) (am_free G h h')) (hL : ∀ q ∈ locs, am_free G h0 h q.base) (h00 : h0.2.2.2 ≤ h.2.2.2)
    (kk : ∀ (H' : Heap) (locs' : List Loc) (cells slots : Nat), ar_H G.1 G.2.1 G.2.2.1 G.2.2.2.1 G.2.2.2.2.1 (am_B G) h' H' → (∀ q ∈ locs', am_free G h0 h' q.base) → h0.2.2.2 ≤ h'.2.2.2 → W p l e R s m args below meth c H' locs' cells slots Q (F0 m (pc + 3) ls ((rv.map toV).toList ++ rest))) : W p l e R s m args below meth c H locs cells slots Q (F0 m pc ls st0) := by
  intro T hT X
  obtain ⟨v, st₀, t, T', L, e0, X', hL', e1, ⟨hv, hok, hmono⟩, st⟩ := hr T hT X
  cases hv
  refine (fun w => ?_) (kk t.heap (locs ++ L) _ _ hok.1 (fun q hq => ?_) (by omega) T' e1 X')
  · obtain ⟨t2, a1, b1⟩ := w
    exact ⟨t2, st t2 a1, b1⟩
  · rcases List.mem_append.mp hq with h1 | h1
    · obtain ⟨z1, z2⟩ := hL q h1
      exact ⟨z1, by omega⟩
    · obtain ⟨z1, z2⟩ := hL' q h1
      exact ⟨z1, by omega⟩
/-- the room of a callee -/
theorem am_room (hRf : d + 1 + 10 ≤ R.frames) (hRl : 41 * (d + 1) + 160 ≤ R.locals) {maxL : Nat} (hm : maxL ≤ 22) : (am_rm G.2.2.2.1 d h).frames + 1 ≤ R.frames ∧ 8 + (maxL + 11) + (am_rm G.2.2.2.1 d h).locals ≤ R.locals := by
  unfold am_rm
  dsimp only
  omega
theorem ah_wt_eq : ∀ st : List AV, ah_wt st = ((st.map toV).map fun v => v.category).sum
  | [] => rfl
  | .inl x :: st => by simp [ah_wt, ah_wt_eq st, toV, Value.category]; omega
  | .inr (.inl x) :: st => by simp [ah_wt, ah_wt_eq st, toV, Value.category]; omega
  | .inr (.inr r) :: st => by
    simp [ah_wt, ah_wt_eq st]
    rw [toV_R, toV_cat1]; omega
end ACl
