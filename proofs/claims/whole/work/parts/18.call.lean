/-! CONTRACTS AND CALLS -/
/-- the room at depth d, with heap h: all that is left -/
def am_rm (lim : Nat × Nat) (d : Nat) (h : ah_H) : Room := { frames := d + 10, cells := lim.1 - h.2.1, slots := lim.2 - h.2.2.1, locals := 41 * d + 160 }
/-- words that a call does not hand on by itself: links between nest mates, arrays of references -/
def ar_X (nl : List (String × Nat × MethodName × String)) (ov : List String) (U : State) : Prop := (∀ q ∈ nl, va_Nw (.methodLinkNest q.1 q.2.1 q.2.2.1 q.2.2.2) U) ∧ ∀ C ∈ ov, va_AO C U
theorem ar_X.warm {nl : List (String × Nat × MethodName × String)} {ov : List String} {s U : State} (hW : s.WarmedH U.vm) (h : ar_X nl ov s) : ar_X nl ov U := ⟨fun q hq => va_Nw.warmM hW (h.1 q hq), fun C hC => (h.2 C hC).moved hW.alike⟩
theorem ar_X.same {nl : List (String × Nat × MethodName × String)} {ov : List String} {s U : State} (hv : s.vm = U.vm) (h : ar_X nl ov s) : ar_X nl ov U := by
  refine ⟨fun q hq => va_Nw.same rfl hv (h.1 q hq), fun C hC => (h.2 C hC).moved ?_⟩
  rw [hv]
  exact Vm.Alike.refl _
/-- what is the same for all methods: classes, array classes, numbers, limits, the law's first address, words -/
abbrev am_G : Type := List vw_C × List (Nat × FieldType) × ar_D × (Nat × Nat) × Nat × List (String × Nat × MethodName × String) × List String × Heap
def am_ok (G : am_G) (h : ah_H) (U : State) : Prop := ar_H G.1 G.2.1 G.2.2.1 G.2.2.2.1 G.2.2.2.2.1 G.2.2.2.2.2.2.2 h U.heap ∧ ar_K G.1 G.2.1 G.2.2.1 U ∧ ar_X G.2.2.2.2.2.1 G.2.2.2.2.2.2.1 U
def am_Pc (G : am_G) (as : List AV) (h : ah_H) : Array Value → State → Prop := fun v U => v = (as.map toV).toArray ∧ am_ok G h U
def am_Qc (G : am_G) (h : ah_H) (rv : Option AV) (h' : ah_H) : Array Value → State → Outcome → State → Prop := fun _ _ o t => o = .returned (rv.map toV) ∧ am_ok G h' t ∧ h.2.2.2 ≤ h'.2.2.2
def am_free (G : am_G) (h h' : ah_H) : Addr → Prop := fun q => G.2.2.2.2.1 ≤ q ∧ h.2.2.2 < h'.2.2.2
def am_Met (G : am_G) (l : Launch) (y : MethodName) (ws : List Cond) (d : Nat) (as : List AV) (h : ah_H) (rv : Option AV) (h' : ah_H) : Prop := Met l y ws (am_rm G.2.2.2.1 d h) (am_Pc G as h) (am_Qc G h rv h') (G.2.2.2.1.1 - h.2.1) (G.2.2.2.1.2 - h.2.2.1) (am_free G h h')
theorem am_ok.calling {G : am_G} {h : ah_H} {U : State} (g : JFrame) (mk : MethodId) (a : Array Value) (q : am_ok G h U) : am_ok G h (U.calling g mk a) := ⟨q.1, va_K.moved (u := U) (U := U.calling g mk a) (Vm.Alike.refl U.vm) q.2.1, q.2.2.same rfl⟩
theorem am_blind (G : am_G) (as : List AV) (h : ah_H) : FrameBlind (am_Pc G as h) := fun a U g mk q => ⟨q.1, q.2.calling g mk a⟩
section ACl
variable {p : Program} {l : Launch} {e : Env} {R : Room} {s : State} {m : MethodId} {args : Array Value} {below : List Frame} {meth : Method} {c : Code} {H : Heap} {locs : List Loc} {cells slots : Nat} {Q : State → Prop}
variable {cc : ByteArray} {pc : Nat} {ls : Array Slot} {rest : List Value} {G : am_G} {h0 h h' : ah_H} {d : Nat}
theorem am_pre (hK : ar_K G.1 G.2.1 G.2.2.1 s) (hX : ar_X G.2.2.2.2.2.1 G.2.2.2.2.2.2.1 s) (hR : ar_H G.1 G.2.1 G.2.2.1 G.2.2.2.1 G.2.2.2.2.1 G.2.2.2.2.2.2.2 h H) (as : List AV) : ∀ U : State, U.heap = H → s.WarmedH U.vm → am_Pc G as h (as.map toV).toArray U := fun U hU hW => ⟨rfl, by rw [hU]; exact hR, va_K.moved hW.alike hK, hX.warm hW⟩
/-- behind a call -/
theorem as_back {mc ms : Nat} {rv : Option AV} {a : Array Value} {st0 : List Value} (hr : CallRun p l e R s m args below meth c H locs cells slots mc ms (F0 m pc ls st0) rest (am_Qc G h rv h' a) (am_free G h h')) (hL : ∀ q ∈ locs, am_free G h0 h q.base) (h00 : h0.2.2.2 ≤ h.2.2.2)
    (kk : ∀ (H' : Heap) (locs' : List Loc) (cells slots : Nat), ar_H G.1 G.2.1 G.2.2.1 G.2.2.2.1 G.2.2.2.2.1 G.2.2.2.2.2.2.2 h' H' → (∀ q ∈ locs', am_free G h0 h' q.base) → h0.2.2.2 ≤ h'.2.2.2 → W p l e R s m args below meth c H' locs' cells slots Q (F0 m (pc + 3) ls ((rv.map toV).toList ++ rest))) : W p l e R s m args below meth c H locs cells slots Q (F0 m pc ls st0) := by
  intro T hT X
  obtain ⟨v, st₀, t, T', L, e0, X', hL', e1, ⟨hv, hok, hmono⟩, st⟩ := hr T hT X
  cases hv
  refine (fun w => ?_) (kk t.heap (locs ++ L) _ _ hok.1 (fun q hq => ?_) (by omega) T' e1 X')
  · obtain ⟨t2, a1, b1⟩ := w
    exact ⟨t2, st t2 a1, b1⟩
  · rcases List.mem_append.mp hq with h1 | h1
    · obtain ⟨z1, z2⟩ := hL q h1
      exact ⟨z1, by omega⟩
    · obtain ⟨z1, z2⟩ := hL' q h1
      exact ⟨z1, by omega⟩
/-- the room of a callee -/
theorem am_room (hRf : d + 1 + 10 ≤ R.frames) (hRl : 41 * (d + 1) + 160 ≤ R.locals) {maxL : Nat} (hm : maxL ≤ 22) : (am_rm G.2.2.2.1 d h).frames + 1 ≤ R.frames ∧ 8 + (maxL + 11) + (am_rm G.2.2.2.1 d h).locals ≤ R.locals := by
  unfold am_rm
  dsimp only
  omega
theorem ah_wt_eq : ∀ st : List AV, ah_wt st = ((st.map toV).map fun v => v.category).sum
  | [] => rfl
  | .inl x :: st => by simp [ah_wt, ah_wt_eq st, toV, Value.category]; omega
  | .inr (.inl x) :: st => by simp [ah_wt, ah_wt_eq st, toV, Value.category]; omega
  | .inr (.inr r) :: st => by
    simp [ah_wt, ah_wt_eq st]
    rw [toV_R, toV_cat1]; omega
end ACl
