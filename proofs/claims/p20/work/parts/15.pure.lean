/-! INSTRUCTIONS OF THE STACK AND THE LOCALS, machine and abstract machine -/
def ah_ilen : Instr → Nat
  | .bipush _ => 2
  | .ldc _ => 2
  | .iload _ => 2
  | .lload _ => 2
  | .aload _ => 2
  | .istore _ => 2
  | .lstore _ => 2
  | .astore _ => 2
  | .newarray _ => 2
  | .sipush _ => 3
  | .ldc_w _ => 3
  | .ldc2_w _ => 3
  | .iinc _ _ => 3
  | .goto _ => 3
  | .ifCond _ _ => 3
  | .if_icmp _ _ => 3
  | .if_acmp _ _ => 3
  | .ifnull _ => 3
  | .ifnonnull _ => 3
  | .getfield _ => 3
  | .putfield _ => 3
  | .new _ => 3
  | .anewarray _ => 3
  | .checkcast _ => 3
  | .invokevirtual _ => 3
  | .invokespecial _ => 3
  | .invokestatic _ => 3
  | _ => 1
theorem toV_cat1 (r : Option Nat) : (va_rf r).category = 1 := by cases r <;> rfl
theorem toV_R (r : Option Nat) : toV (.inr (.inr r)) = va_rf r := rfl
section AP
variable {p : Program} {l : Launch} {e : Env} {R : Room} {s : State} {m : MethodId} {args : Array Value} {below : List Frame} {meth : Method} {c : Code} {H : Heap} {locs : List Loc} {cells slots : Nat} {Q : State → Prop}
variable {cc : ByteArray} {pc : Nat} {ls : Array Slot}
set_option maxHeartbeats 1000000 in
theorem as_pure (hx : p.tables.exec = Jvm.exec) (hb : c.code = cc) {i : Instr} {st st' : List AV} (hd : decode cc pc = .ok (i, ah_ilen i)) (e1 : ah_pure i st = some st')
    (k : W p l e R s m args below meth c H locs cells slots Q (F0 m (pc + ah_ilen i) ls (st'.map toV))) : W p l e R s m args below meth c H locs cells slots Q (F0 m pc ls (st.map toV)) := by
  unfold ah_pure at e1
  split at e1 <;> (try split at e1) <;> cases e1
  · exact lv_iadd hx hb hd k
  · exact lv_isub hx hb hd k
  · exact lv_imul hx hb hd k
  · exact lv_iand hx hb hd k
  · exact lv_ior hx hb hd k
  · exact lv_ixor hx hb hd k
  · exact lv_ishl hx hb hd k
  · exact lv_ishr hx hb hd k
  · exact lv_iushr hx hb hd rfl k
  · exact lv_ineg hx hb hd k
  · exact lv_i2l hx hb hd rfl k
  · exact lv_l2i hx hb hd rfl k
  · exact lv_i2b hx hb hd rfl k
  · exact lv_i2s hx hb hd rfl k
  · exact lv_i2c hx hb hd rfl k
  · exact lv_ladd hx hb hd k
  · exact lv_lsub hx hb hd k
  · exact lv_lmul hx hb hd k
  · exact lv_land hx hb hd k
  · exact lv_lor hx hb hd k
  · exact lv_lxor hx hb hd k
  · exact lv_lneg hx hb hd k
  · exact lv_lshl hx hb hd rfl k
  · exact lv_lshr hx hb hd rfl k
  · exact lv_lushr hx hb hd rfl k
  · exact W.lcmp hx hb hd k
  · exact lv_null hx hb hd k
  · exact lv_pop hx hb hd rfl k
  · exact lv_pop hx hb hd (toV_cat1 _) k
  · exact lv_pop2_2 hx hb hd rfl k
  · exact lv_dup hx hb hd rfl k
  · exact lv_dup hx hb hd (toV_cat1 _) k
  · exact lv_dup_x1 hx hb hd rfl rfl k
  · exact lv_dup_x1 hx hb hd rfl (toV_cat1 _) k
  · exact lv_dup_x1 hx hb hd (toV_cat1 _) (toV_cat1 _) k
  · exact lv_dup_x2 hx hb hd rfl rfl (toV_cat1 _) k
  · exact lv_dup_x2 hx hb hd (toV_cat1 _) rfl (toV_cat1 _) k
  · exact lv_dup2_11 hx hb hd rfl (toV_cat1 _) k
  · exact lv_dup2_11 hx hb hd rfl rfl k
  · exact lv_dup2_2 hx hb hd rfl k
  · exact lv_dup2_x1_2 hx hb hd rfl (toV_cat1 _) k
end AP
/-- the locals: as many; what is known of them is so -/
def al_has (ls : Array Slot) (L : ah_L) : Prop := ls.size = L.length ∧ lv_wf ls ∧ ∀ i v, ah_nth L i = some v → ls[i]? = some (.val (toV v))
def al_as (L : ah_L) : List (Nat × Value) := L.zipIdx.filterMap fun q => q.1.map fun v => (q.2, toV v)
theorem ah_nth_eq {α : Type} : ∀ (L : List (Option α)) (i : Nat), ah_nth L i = (L[i]?).join
  | [], i => by simp [ah_nth]
  | x :: L, 0 => by simp [ah_nth]
  | x :: L, i + 1 => by simp [ah_nth, ah_nth_eq L i]
theorem al_as_mem {L : ah_L} {i : Nat} {w : Value} : (i, w) ∈ al_as L ↔ ∃ v, ah_nth L i = some v ∧ w = toV v := by
  unfold al_as
  rw [List.mem_filterMap]
  constructor
  · rintro ⟨⟨a, j⟩, h1, h2⟩
    rw [List.mem_zipIdx_iff_getElem?] at h1
    cases a with
    | none => simp at h2
    | some v =>
      simp only [Option.map_some, Option.some.injEq, Prod.mk.injEq] at h2
      obtain ⟨rfl, rfl⟩ := h2
      exact ⟨v, by rw [ah_nth_eq, h1]; rfl, rfl⟩
  · rintro ⟨v, h1, rfl⟩
    rw [ah_nth_eq] at h1
    refine ⟨(some v, i), ?_, rfl⟩
    rw [List.mem_zipIdx_iff_getElem?]
    cases h2 : L[i]? with
    | none => rw [h2] at h1; cases h1
    | some x => rw [h2] at h1; cases x with
      | none => cases h1
      | some y => cases h1; first | exact h2 | rfl
theorem al_has.lv {ls : Array Slot} {L : ah_L} (h : al_has ls L) : lv_has ls L.length (al_as L) := by
  refine ⟨h.1, h.2.1, fun q hq => ?_⟩
  obtain ⟨i, w⟩ := q
  obtain ⟨v, h1, rfl⟩ := al_as_mem.mp hq
  exact h.2.2 i v h1
theorem ah_set_spec {α : Type} {v : Option α} : ∀ {L L' : List (Option α)} {i : Nat}, ah_set v L i = some L' → L'.length = L.length ∧ i < L.length ∧ ∀ j, ah_nth L' j = if j = i then v else ah_nth L j
  | [], _, i, h => by cases i <;> cases h
  | x :: L, L', 0, h => by
    cases h
    refine ⟨rfl, by simp, fun j => ?_⟩
    cases j with
    | zero => rfl
    | succ j => simp [ah_nth]
  | x :: L, L', i + 1, h => by
    unfold ah_set at h
    cases h1 : ah_set v L i with
    | none => rw [h1] at h; cases h
    | some t =>
      rw [h1] at h
      cases h
      obtain ⟨a, b, c⟩ := ah_set_spec h1
      refine ⟨by simp [a], by simp; omega, fun j => ?_⟩
      cases j with
      | zero => simp [ah_nth]
      | succ j => simp [ah_nth, c j]
theorem ah_kill_spec (L : ah_L) (i : Nat) : (ah_kill L i).length = L.length ∧ ∀ j w, ah_nth (ah_kill L i) j = some w → ah_nth L j = some w ∧ ¬ (j + 1 = i ∧ (toV w).category = 2) := by
  unfold ah_kill
  cases i with
  | zero => exact ⟨rfl, fun j w h => ⟨h, fun q => by omega⟩⟩
  | succ k =>
    dsimp only
    split
    · rename_i x hx
      split
      · rename_i L' hL
        obtain ⟨a, b, c⟩ := ah_set_spec hL
        refine ⟨a, fun j w h => ?_⟩
        rw [c j] at h
        by_cases e : j = k
        · rw [if_pos e] at h; cases h
        · rw [if_neg e] at h
          exact ⟨h, fun q => e (by omega)⟩
      · rename_i hL
        refine ⟨rfl, fun j w h => ?_⟩
        exfalso
        have : ∀ (M : ah_L) (n : Nat), n < M.length → ah_set none M n ≠ none := by
          intro M
          induction M with
          | nil => intro n hn; simp at hn
          | cons y M ih =>
            intro n hn
            cases n with
            | zero => simp [ah_set]
            | succ n =>
              unfold ah_set
              cases hq : ah_set none M n with
              | none => exact absurd hq (ih n (by simpa using hn))
              | some t => simp
        refine this L k ?_ hL
        rw [ah_nth_eq] at hx
        cases hq : L[k]? with
        | none => rw [hq] at hx; cases hx
        | some y => exact (List.getElem?_eq_some_iff.mp hq).1
    · rename_i hx
      refine ⟨rfl, fun j w h => ⟨h, fun ⟨e1, e2⟩ => ?_⟩⟩
      have : j = k := by omega
      subst this
      cases w with
      | inl x => cases e2
      | inr w =>
        cases w with
        | inl x => exact hx x h
        | inr r => rw [toV_R, toV_cat1] at e2; cases e2
/-- storing a value of one slot -/
theorem al_store1 {ls' : Array Slot} {L L' : ah_L} {i : Nat} {v : AV} (e : ah_set (some v) (ah_kill L i) i = some L') (e2 : lv_has ls' L.length ((i, toV v) :: (al_as L).filter (fun q => !(q.1 == i) && !(q.1 + 1 == i && q.2.category == 2)))) : al_has ls' L' := by
  obtain ⟨a, b, d⟩ := ah_set_spec e
  obtain ⟨k1, k2⟩ := ah_kill_spec L i
  refine ⟨by rw [e2.1, a, k1], e2.2.1, fun j w hj => ?_⟩
  rw [d j] at hj
  refine e2.2.2 (j, toV w) ?_
  by_cases q : j = i
  · rw [if_pos q] at hj
    cases hj
    rw [q]
    exact List.mem_cons_self
  · rw [if_neg q] at hj
    obtain ⟨g1, g2⟩ := k2 j w hj
    refine List.mem_cons_of_mem _ (List.mem_filter.mpr ⟨al_as_mem.mpr ⟨w, g1, rfl⟩, ?_⟩)
    have z1 : (j == i) = false := by simpa using q
    show (!(j == i) && !(j + 1 == i && (toV w).category == 2)) = true
    rw [z1]
    by_cases q1 : j + 1 = i
    · have z2 : ((toV w).category == 2) = false := by
        have := fun q2 => g2 ⟨q1, q2⟩
        simpa using this
      simp [z2]
    · have z2 : (j + 1 == i) = false := by simpa using q1
      simp [z2]
/-- storing a long -/
theorem al_store2 {ls' : Array Slot} {L L1 L' : ah_L} {i : Nat} {v : AV} (e : ah_set (some v) (ah_kill L i) i = some L1) (e' : ah_set none L1 (i + 1) = some L') (e2 : lv_has ls' L.length ((i, toV v) :: (al_as L).filter (fun q => !(q.1 == i) && (!(q.1 == i + 1) && !(q.1 + 1 == i && q.2.category == 2))))) : al_has ls' L' := by
  obtain ⟨a, b, d⟩ := ah_set_spec e
  obtain ⟨a', b', d'⟩ := ah_set_spec e'
  obtain ⟨k1, k2⟩ := ah_kill_spec L i
  refine ⟨by rw [e2.1, a', a, k1], e2.2.1, fun j w hj => ?_⟩
  rw [d' j] at hj
  by_cases q0 : j = i + 1
  · rw [if_pos q0] at hj; cases hj
  · rw [if_neg q0, d j] at hj
    refine e2.2.2 (j, toV w) ?_
    by_cases q : j = i
    · rw [if_pos q] at hj
      cases hj
      rw [q]
      exact List.mem_cons_self
    · rw [if_neg q] at hj
      obtain ⟨g1, g2⟩ := k2 j w hj
      refine List.mem_cons_of_mem _ (List.mem_filter.mpr ⟨al_as_mem.mpr ⟨w, g1, rfl⟩, ?_⟩)
      have z1 : (j == i) = false := by simpa using q
      have z0 : (j == i + 1) = false := by simpa using q0
      show (!(j == i) && (!(j == i + 1) && !(j + 1 == i && (toV w).category == 2))) = true
      rw [z1, z0]
      by_cases q1 : j + 1 = i
      · have z2 : ((toV w).category == 2) = false := by
          have := fun q2 => g2 ⟨q1, q2⟩
          simpa using this
        simp [z2]
      · have z2 : (j + 1 == i) = false := by simpa using q1
        simp [z2]
theorem al_mask {ls : Array Slot} {L : ah_L} (h : al_has ls L) {m : List Bool} (hm : m.length = L.length) : al_has ls (ah_mask m L) := by
  have key : ∀ (m : List Bool) (L : ah_L), m.length = L.length → (ah_mask m L).length = L.length ∧ ∀ i v, ah_nth (ah_mask m L) i = some v → ah_nth L i = some v := by
    intro m
    induction m with
    | nil => intro L h; cases L with
      | nil => exact ⟨rfl, fun i v h => h⟩
      | cons x L => simp at h
    | cons b m ih =>
      intro L h
      cases L with
      | nil => simp at h
      | cons x L =>
        obtain ⟨a1, a2⟩ := ih L (by simpa using h)
        cases b with
        | true =>
          refine ⟨by simp [ah_mask, a1], fun i v hv => ?_⟩
          cases i with
          | zero => exact hv
          | succ i => exact a2 i v hv
        | false =>
          refine ⟨by simp [ah_mask, a1], fun i v hv => ?_⟩
          cases i with
          | zero => cases hv
          | succ i => exact a2 i v hv
  obtain ⟨a1, a2⟩ := key m L hm
  exact ⟨by rw [h.1, a1], h.2.1, fun i v hv => h.2.2 i v (a2 i v hv)⟩
