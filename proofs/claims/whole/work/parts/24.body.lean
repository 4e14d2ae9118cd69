/-! A METHOD'S BODY, AND ALL METHODS -/
theorem al_lay_nth : ∀ (as : List AV) (k i : Nat) (v : AV), ah_nth (ah_lay as ++ List.replicate k none) i = some v → ∀ j, (j + i, toV v) ∈ lv_args j (as.map toV)
  | [], k, i, v, h, j => by
    exfalso
    have : ∀ k i, ah_nth (List.replicate k (none : Option AV)) i = none := by
      intro k
      induction k with
      | zero => intro i; simp [ah_nth]
      | succ k ih => intro i; cases i with
        | zero => rfl
        | succ i => exact ih i
    simp only [ah_lay, List.nil_append] at h
    rw [this] at h; cases h
  | .inl x :: as, k, i, v, h, j => by
    cases i with
    | zero => cases h; exact List.mem_cons_self
    | succ i =>
      have := al_lay_nth as k i v h (j + 1)
      refine List.mem_cons_of_mem _ ?_
      rw [show j + (i + 1) = j + 1 + i by omega]
      exact this
  | .inr (.inl x) :: as, k, i, v, h, j => by
    cases i with
    | zero => cases h; exact List.mem_cons_self
    | succ i =>
      cases i with
      | zero => cases h
      | succ i =>
        have := al_lay_nth as k i v h (j + 2)
        refine List.mem_cons_of_mem _ ?_
        rw [show j + (i + 1 + 1) = j + 2 + i by omega]
        exact this
  | .inr (.inr x) :: as, k, i, v, h, j => by
    cases i with
    | zero => cases h; exact List.mem_cons_self
    | succ i =>
      have := al_lay_nth as k i v h (j + 1)
      refine List.mem_cons_of_mem _ ?_
      show _ ∈ lv_args (if (va_rf x).category = 2 then j + 2 else j + 1) _
      rw [toV_cat1, if_neg (by decide), show j + (i + 1) = j + 1 + i by omega]
      exact this
theorem al_lay_len : ∀ as : List AV, (ah_lay as).length = (lg_sl (as.map toV)).length
  | [] => rfl
  | .inl x :: as => by
    have := al_lay_len as
    simp only [ah_lay, List.length_cons, List.map_cons, lg_sl, List.flatMap_cons, List.length_append] at this ⊢
    rw [this]; simp [toV, Value.category]; omega
  | .inr (.inl x) :: as => by
    have := al_lay_len as
    simp only [ah_lay, List.length_cons, List.map_cons, lg_sl, List.flatMap_cons, List.length_append] at this ⊢
    rw [this]; simp [toV, Value.category]; omega
  | .inr (.inr x) :: as => by
    have := al_lay_len as
    simp only [ah_lay, List.length_cons, List.map_cons, lg_sl, List.flatMap_cons, List.length_append] at this ⊢
    rw [this, toV_R, toV_cat1]; simp; omega
/-- what the tables say of a method -/
def am_mok (G : am_G) (Ts : List Cond) (I : am_I) (P : Nat → Option ah_M) (N : MethodName) (bytes : ByteArray) (maxL : Nat) (ret : Option FieldType) (M : ah_M) : Prop :=
  plainName N.cls = true ∧ M.2.2.2.2 = maxL ∧ am_rt M.2.2.2.1 ret ∧ M.2.2.1 = [] ∧ (∀ pc ms9, ah_lk M.2.1 pc = some ms9 → ms9.length = maxL) ∧
  ∀ pc i nx q ts w, ah_lkc M.1 pc = some (i, nx, q, ts, w) → (∃ n, decode bytes pc = .ok (i, n) ∧ (am_sw i = false → n = ah_ilen i ∧ nx = pc + ah_ilen i)) ∧ am_iok G Ts I P N.cls N.name M.2.2.2.1 bytes pc nx q ts w i ∧ (q ≠ [20] ∧ q ≠ [21] ∧ ∀ k, i ≠ .checkcast k) ∧ ∀ k kd n, i = .new k → q ≠ [kd, n]
section ABd
variable {p : Program} {l : Launch} {e : Env} {R : Room} {s : State} {m : MethodId} {args : Array Value} {below : List Frame} {meth : Method} {c : Code} {Q : State → Prop}
variable {G : am_G} {Ts : List Cond} {I : am_I} {P : Nat → Option ah_M} {d : Nat} {h0 : ah_H} {z : ah_R} {C : ah_C} {J : ah_K} {N : MethodName} {bytes : ByteArray} {maxL : Nat} {ret : Option FieldType} {M : ah_M}
/-- from here on the machine comes to Q -/
def am_W (G : am_G) (p : Program) (l : Launch) (e : Env) (R : Room) (s : State) (m : MethodId) (args : Array Value) (below : List Frame) (meth : Method) (c : Code) (Q : State → Prop) (nL : Nat) (h0 : ah_H) (pc : Nat) (L : ah_L) (st : List AV) (h : ah_H) : Prop :=
  ∀ (ls : Array Slot) (H : Heap) (locs : List Loc) (cells slots : Nat), L.length = nL → al_has ls L → ar_H G.1 G.2.1 G.2.2.1 G.2.2.2.1 G.2.2.2.2.1 (am_B G) h H → (∀ q ∈ locs, am_free G h0 h q.base) → h0.2.2.2 ≤ h.2.2.2 → W p l e R s m args below meth c H locs cells slots Q (F0 m pc ls (st.map toV))
theorem as_go (hT : am_T G Ts) (hS : am_S G Ts N.cls N.name M.2.2.2.1 p R s m args meth c bytes maxL d h0) (hM : am_mok G Ts I P N bytes maxL ret M)
    (hC : ∀ y as h rv h' N bytes maxL ret, C y as h = some (.inl rv, h') → I y = some (N, bytes, maxL, ret) → ∃ d', d = d' + 1 ∧ am_Met G l N (Cond.code N bytes maxL ret :: Ts) d' as h rv h')
    (hJ : ∀ pc L st h, J pc L st h = some z → am_W G p l e R s m args below meth c Q maxL h0 pc L st h)
    (hQ : ∀ rv h', z = (.inl rv, h') → Q = MQ below (am_Qc G h0 rv h') args s (G.2.2.2.1.1 - h0.2.1) (G.2.2.2.1.2 - h0.2.2.1) (am_free G h0 h')) (hh0 : h0.2.1 = s.heap.size) :
    ∀ (f pc : Nat) (L : ah_L) (st : List AV) (h : ah_H), ah_go G.2.2.2.1 M C J f pc L st h = some z → am_W G p l e R s m args below meth c Q maxL h0 pc L st h := by
  obtain ⟨m1, m2, m3, m4, m5, m6⟩ := id hM
  intro f
  induction f with
  | zero => intro pc L st h e1; cases e1
  | succ f ih =>
    intro pc L st h e1 ls H locs cells slots hlen hl hR hL h00
    unfold ah_go at e1
    cases hE : ah_lkc M.1 pc with
    | none => rw [hE] at e1; cases e1
    | some E =>
      obtain ⟨i, nx, q, ts, w⟩ := E
      rw [hE] at e1
      obtain ⟨k1, k2, k3, k4⟩ := m6 pc i nx q ts w hE
      have hnX : ∀ (a : Nat × Nat) (h' : ah_H), (bif Nat.beq h'.2.2.2 h.2.2.2 && Nat.beq h'.2.1 (h.2.1 + 1) then (match ah_catch M.2.2.1 pc a.1 with | some t => J t L [.inr (.inr (some a.2))] h' | none => none) else none : Option ah_R) = some z → False := by
        intro a h' e9
        obtain ⟨-, e9⟩ := bif_t e9
        rw [m4] at e9
        cases e9
      refine as_step (I := I) (P := P) hT hS k1 k2 hC (fun y as a h' _ _ e9 => hnX a h' e9) (fun _ _ _ _ _ _ _ _ _ a h' _ _ _ _ _ _ _ e9 => (hnX a h' e9).elim) (fun k kd n g1 g2 _ _ => absurd g2 (k4 k kd n g1)) k3 ?_ hQ hlen hl hR hh0 hL h00 e1
      intro pc' L' st' h' e2 ls' H' locs' cells slots g1 g2 g3 g4 g5
      cases hc : ah_lk M.2.1 pc' with
      | none => rw [hc] at e2; exact ih pc' L' st' h' e2 ls' H' locs' cells slots g1 g2 g3 g4 g5
      | some ms9 =>
        rw [hc] at e2
        have hml := m5 pc' ms9 hc
        have hmk := al_mask g2 (m := ms9) (by omega)
        refine hJ _ _ _ _ e2 ls' H' locs' cells slots ?_ hmk g3 g4 g5
        have := hmk.1
        have := g2.1
        omega
end ABd
/-- the methods that the tables know -/
def am_all (G : am_G) (Ts : List Cond) (I : am_I) (P : Nat → Option ah_M) : Prop := ∀ y N bytes maxL ret, I y = some (N, bytes, maxL, ret) → ∃ M, P y = some M ∧ am_mok G Ts I P N bytes maxL ret M ∧ Cond.code N bytes maxL ret ∈ Ts
set_option maxHeartbeats 1000000 in
/-- EVERY METHOD THAT THE ABSTRACT MACHINE BRINGS TO AN END HAS ITS CONTRACT -/
theorem am_sound {l : Launch} {G : am_G} {Ts : List Cond} {I : am_I} {P : Nat → Option ah_M} (hT : am_T G Ts) (hA : am_all G Ts I P) : ∀ (n d y : Nat) (N : MethodName) (bytes : ByteArray) (maxL : Nat) (ret : Option FieldType) (M : ah_M), I y = some (N, bytes, maxL, ret) → P y = some M →
    (∀ (rv : Option AV) (h' h0 : ah_H) (pc : Nat) (L : ah_L) (st : List AV) (h : ah_H), ah_run G.2.2.2.1 P n d y pc L st h = some (.inl rv, h') → ∀ (p : Program) (e : Env) (R : Room) (s : State) (m : MethodId) (args : Array Value) (below : List Frame) (meth : Method) (c : Code), am_S G Ts N.cls N.name M.2.2.2.1 p R s m args meth c bytes maxL d h0 → h0.2.1 = s.heap.size →
      am_W G p l e R s m args below meth c (MQ below (am_Qc G h0 rv h') args s (G.2.2.2.1.1 - h0.2.1) (G.2.2.2.1.2 - h0.2.2.1) (am_free G h0 h')) maxL h0 pc L st h) ∧
    ∀ (as : List AV) (h : ah_H) (rv : Option AV) (h' : ah_H), (ah_lay as).length ≤ maxL → ah_run G.2.2.2.1 P n d y 0 (ah_in M as) [] h = some (.inl rv, h') → am_Met G l N (Cond.code N bytes maxL ret :: Ts) d as h rv h' := by
  intro n
  induction n with
  | zero =>
    intro d y N bytes maxL ret M hI hP
    exact ⟨(fun rv h' h0 pc L st h e1 => by cases e1), (fun as h rv h' _ e1 => by cases e1)⟩
  | succ n ih =>
    intro d y N bytes maxL ret M hI hP
    obtain ⟨M', hP', hM, hcode⟩ := hA y N bytes maxL ret hI
    cases Option.some.inj (hP.symm.trans hP')
    obtain ⟨m1, m2, m3, m4, m5, m6⟩ := id hM
    have body : ∀ (rv : Option AV) (h' h0 : ah_H) (pc : Nat) (L : ah_L) (st : List AV) (h : ah_H), ah_run G.2.2.2.1 P (n + 1) d y pc L st h = some (.inl rv, h') → ∀ (p : Program) (e : Env) (R : Room) (s : State) (m : MethodId) (args : Array Value) (below : List Frame) (meth : Method) (c : Code), am_S G Ts N.cls N.name M.2.2.2.1 p R s m args meth c bytes maxL d h0 → h0.2.1 = s.heap.size →
      am_W G p l e R s m args below meth c (MQ below (am_Qc G h0 rv h') args s (G.2.2.2.1.1 - h0.2.1) (G.2.2.2.1.2 - h0.2.2.1) (am_free G h0 h')) maxL h0 pc L st h := by
      intro rv h' h0 pc L st h e1 p e R s m args below meth c hS hh0
      rw [ah_run_succ hP] at e1
      refine as_go hT hS hM (ret := ret) ?_ ?_ (fun rv1 h1 g => by cases g; rfl) hh0 1000 pc L st h e1
      · intro y' as' h2 rv2 h3 N' bytes' maxL' ret' e2 hI'
        unfold ah_calls at e2
        cases d with
        | zero => cases e2
        | succ d' =>
          dsimp only at e2
          obtain ⟨M2, hP2, hm2, -⟩ := hA y' N' bytes' maxL' ret' hI'
          rw [hP2] at e2
          obtain ⟨w1, e3⟩ := bif_t e2
          exact ⟨d', rfl, (ih d' y' N' bytes' maxL' ret' M2 hI' hP2).2 as' h2 rv2 h3 (by rw [← hm2.2.1]; exact Nat.le_of_ble_eq_true w1) e3⟩
      · intro pc1 L1 st1 h1 e2
        exact (ih d y N bytes maxL ret M hI hP).1 rv h' h0 pc1 L1 st1 h1 e2 p e R s m args below meth c hS hh0
    refine ⟨body, fun as h rv h' hfit e1 => ?_⟩
    unfold am_Met
    refine Met.ofW (cc := bytes) (maxL := maxL) (ret := ret) m1 rfl ?_
    intro p e s m args below meth c s₁ B hml hv
    obtain ⟨rfl, hok1, hok2, hok3⟩ := hv
    have hts := atoms_spec (ws := Cond.code N bytes maxL ret :: Ts) B.pre
    have hS : am_S G Ts N.cls N.name M.2.2.2.1 p (am_rm G.2.2.2.1 d h) s m (as.map toV).toArray meth c bytes maxL d h := by
      refine ⟨⟨B.exec, B.bytes, hml, findClass_of_methodNamed B.named, fun w hw => hts w (List.mem_cons_of_mem _ hw)⟩, ?_, B.notSynchronized, (name_of_methodNamed B.named B.method).1, ?_, hok2, hok3⟩
      · rw [B.returns]; exact m3
      · obtain ⟨⟨q1, -⟩, q2, q3, q4, q5, -⟩ := id hok1
        exact ⟨q1, q3, Nat.le_refl _, Nat.le_refl _, by show _ ≤ G.2.2.2.1.1 - h.2.1; omega, Nat.le_refl _⟩
    rw [lg_entry_eq]
    have hlen : (ah_in M as).length = maxL := by
      unfold ah_in
      rw [List.length_append, List.length_replicate, m2]
      omega
    have hl0 := lv_entry (as.map toV) (n := maxL) (by rw [← al_lay_len]; exact hfit)
    have hl : al_has ((lg_sl (as.map toV) ++ List.replicate (maxL - (lg_sl (as.map toV)).length) Slot.unset).toArray) (ah_in M as) := by
      refine ⟨hl0.1.trans hlen.symm, hl0.2.1, fun i v hv => ?_⟩
      have := al_lay_nth as _ i v hv 0
      rw [Nat.zero_add] at this
      exact hl0.2.2 _ this
    exact body rv h' h 0 (ah_in M as) [] h e1 p e _ s m _ below meth c hS (hok1.2.1.symm) _ s.heap [] 0 0 hlen hl hok1 (fun q hq => by cases hq) (Nat.le_refl _)
