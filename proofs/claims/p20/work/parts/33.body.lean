/-! A METHOD'S BODY, AND ALL METHODS -/
theorem al_lay_nth : ∀ (as : List AV) (k i : Nat) (v : AV), ah_nth (ah_lay as ++ List.replicate k none) i = some v → ∀ j, (j + i, toV v) ∈ lv_args j (as.map toV)
  | [], k, i, v, h, j => by
    exfalso
    have : ∀ k i, ah_nth (List.replicate k (none : Option AV)) i = none := by
      intro k
      induction k with
      | zero => intro i; simp [ah_nth]
      | succ k ih => intro i; cases i with
        | zero => rfl
        | succ i => exact ih i
    simp only [ah_lay, List.nil_append] at h
    rw [this] at h; cases h
  | .inl x :: as, k, i, v, h, j => by
    cases i with
    | zero => cases h; exact List.mem_cons_self
    | succ i =>
      have := al_lay_nth as k i v h (j + 1)
      refine List.mem_cons_of_mem _ ?_
      rw [show j + (i + 1) = j + 1 + i by omega]
      exact this
  | .inr (.inl x) :: as, k, i, v, h, j => by
    cases i with
    | zero => cases h; exact List.mem_cons_self
    | succ i =>
      cases i with
      | zero => cases h
      | succ i =>
        have := al_lay_nth as k i v h (j + 2)
        refine List.mem_cons_of_mem _ ?_
        rw [show j + (i + 1 + 1) = j + 2 + i by omega]
        exact this
  | .inr (.inr x) :: as, k, i, v, h, j => by
    cases i with
    | zero => cases h; exact List.mem_cons_self
    | succ i =>
      have := al_lay_nth as k i v h (j + 1)
      refine List.mem_cons_of_mem _ ?_
      show _ ∈ lv_args (if (va_rf x).category = 2 then j + 2 else j + 1) _
      rw [toV_cat1, if_neg (by decide), show j + (i + 1) = j + 1 + i by omega]
      exact this
theorem al_lay_len : ∀ as : List AV, (ah_lay as).length = (lg_sl (as.map toV)).length
  | [] => rfl
  | .inl x :: as => by
    have := al_lay_len as
    simp only [ah_lay, List.length_cons, List.map_cons, lg_sl, List.flatMap_cons, List.length_append] at this ⊢
    rw [this]; simp [toV, Value.category]; omega
  | .inr (.inl x) :: as => by
    have := al_lay_len as
    simp only [ah_lay, List.length_cons, List.map_cons, lg_sl, List.flatMap_cons, List.length_append] at this ⊢
    rw [this]; simp [toV, Value.category]; omega
  | .inr (.inr x) :: as => by
    have := al_lay_len as
    simp only [ah_lay, List.length_cons, List.map_cons, lg_sl, List.flatMap_cons, List.length_append] at this ⊢
    rw [this, toV_R, toV_cat1]; simp; omega
/-- the class file's handlers -/
def am_tab (hh : List (Nat × Nat × Nat × Nat)) : List ExceptionTableEntry := hh.map fun q => { startPc := q.1, endPc := q.2.1, handlerPc := q.2.2.1, catchType := q.2.2.2 }
theorem am_tab_eq : ∀ t : List ExceptionTableEntry, am_tab (t.map fun h => (h.startPc, h.endPc, h.handlerPc, h.catchType)) = t
  | [] => rfl
  | x :: t => by
    show _ :: am_tab _ = _
    rw [am_tab_eq t]
/-- what the tables must say where a method throws -/
def am_tok (G : am_G) (Ts : List Cond) (own : String) (cc : ByteArray) (pc k kd n : Nat) : Prop := ∃ (E tx : String) (ic si : Nat) (names : List String) (wd : Nat), n = 6 ∧ (kd, E) ∈ am_exc G ∧ 200 ≤ kd ∧ Bundle.fit E = true ∧ (∀ x ∈ names, Bundle.fit x = true) ∧ names.length ≤ 3 ∧
  (∀ a ∈ Bundle.ownAtoms own ic E names, a ∈ Ts ∨ (∃ q ∈ am_sta G, a = .laysStatic q.1 q.2.1 q.2.2 ∨ a = .isRef (.static q.1 q.2.1 q.2.2)) ∨ (∃ q ∈ am_exc G, a = .castable q.2 q.2) ∨ ∃ q ∈ am_dec G, a = .declares q) ∧
  Cond.classLink own k E ∈ Ts ∧ Cond.instantiable E 6 ∈ Ts ∧ Cond.initialized E ∈ Ts ∧ (own, si, tx) ∈ am_str G ∧
  decode cc (pc + 3) = .ok (.dup, 1) ∧ ((wd = 2 ∧ decode cc (pc + 4) = .ok (.ldc si, 2)) ∨ (wd = 3 ∧ decode cc (pc + 4) = .ok (.ldc_w si, 3))) ∧ decode cc (pc + 4 + wd) = .ok (.invokespecial ic, 3) ∧ decode cc (pc + 4 + wd + 3) = .ok (.athrow, 1)
/-- what the tables say of a method -/
def am_mok (G : am_G) (Ts : List Cond) (I : am_I) (P : Nat → Option ah_M) (N : MethodName) (bytes : ByteArray) (maxL : Nat) (ret : Option FieldType) (hh : List (Nat × Nat × Nat × Nat)) (M : ah_M) : Prop :=
  plainFor N = true ∧ M.2.2.2.2 = maxL ∧ am_rt M.2.2.2.1 ret ∧ am_hs G Ts N.cls M.2.2.1 (am_tab hh) ∧ (∀ pc ms9, ah_lk M.2.1 pc = some ms9 → ms9.length = maxL) ∧
  ∀ pc i nx q ts w, ah_lkc M.1 pc = some (i, nx, q, ts, w) → (∃ n, decode bytes pc = .ok (i, n) ∧ (am_sw i = false → n = ah_ilen i ∧ nx = pc + ah_ilen i)) ∧ am_iok G Ts I P N.cls N.name M.2.2.2.1 bytes pc nx q ts w i ∧ ((∀ k, i = .invokevirtual k → q ≠ [21]) ∧ ∀ k, i ≠ .checkcast k) ∧
    (∀ k kd n, i = .new k → q = [kd, n] → hh = [] ∧ am_tok G Ts N.cls bytes pc k kd n) ∧ ((∃ k, i = .invokestatic k ∨ i = .invokespecial k) → ∀ kd, ah_catch M.2.2.1 pc kd = none)
section ABd
variable {p : Program} {l : Launch} {e : Env} {R : Room} {s : State} {m : MethodId} {args : Array Value} {below : List Frame} {meth : Method} {c : Code} {Q : State → Prop}
variable {G : am_G} {Ts : List Cond} {I : am_I} {P : Nat → Option ah_M} {d : Nat} {h0 : ah_H} {z : ah_R} {C : ah_C} {J : ah_K} {N : MethodName} {bytes : ByteArray} {maxL : Nat} {ret : Option FieldType} {hh : List (Nat × Nat × Nat × Nat)} {M : ah_M}
/-- from here on the machine comes to Q -/
def am_W (G : am_G) (p : Program) (l : Launch) (e : Env) (R : Room) (s : State) (m : MethodId) (args : Array Value) (below : List Frame) (meth : Method) (c : Code) (Q : State → Prop) (nL : Nat) (h0 : ah_H) (pc : Nat) (L : ah_L) (st : List AV) (h : ah_H) : Prop :=
  ∀ (ls : Array Slot) (H : Heap) (locs : List Loc) (cells slots : Nat), L.length = nL → al_has ls L → ar_H G.1 G.2.1 G.2.2.1 G.2.2.2.1 G.2.2.2.2.1 (am_B G) h H → (∀ q ∈ locs, am_free G h0 h q.base) → h0.2.2.2 ≤ h.2.2.2 → W p l e R s m args below meth c H locs cells slots Q (F0 m pc ls (st.map toV))
/-- how a method ends, by what the abstract machine says -/
def am_Q (G : am_G) (below : List Frame) (args : Array Value) (s : State) (h0 : ah_H) (z : ah_R) : State → Prop := match z with
  | (.inl rv, h') => MQ below (am_Qc G h0 rv h') args s (G.2.2.2.1.1 - h0.2.1) (G.2.2.2.1.2 - h0.2.2.1) (am_free G h0 h')
  | (.inr ka, h') => MQT G below s h0 ka h'
/-- an exception is thrown before anything was written or made -/
def am_ze (h0 : ah_H) (z : ah_R) : Prop := ∀ ka h', z = (.inr ka, h') → h'.2.2.2 = h0.2.2.2 ∧ h'.2.1 = h0.2.1 + 1
theorem as_go (hT : am_T G Ts) (hfl : l.stackTraces = false) (hBs : (am_B G).size = G.2.2.2.2.1) (hS : am_S G Ts N.cls N.name M.2.2.2.1 p R s m args meth c bytes maxL d h0) (hM : am_mok G Ts I P N bytes maxL ret hh M) (htab : c.exceptionTable.toList = am_tab hh)
    (hC : ∀ y as h rv h' N bytes maxL ret hh, C y as h = some (.inl rv, h') → I y = some (N, bytes, maxL, ret, hh) → ∃ d', d = d' + 1 ∧ am_Met G l N (am_w N bytes maxL ret hh :: Ts) d' as h rv h')
    (hCT : ∀ y as h ka h' N bytes maxL ret, C y as h = some (.inr ka, h') → h'.2.2.2 = h.2.2.2 → h'.2.1 = h.2.1 + 1 → I y = some (N, bytes, maxL, ret, []) → ∃ d', d = d' + 1 ∧ am_MetT G l N (Cond.code N bytes maxL ret :: Ts) d' as h ka h')
    (hJ : ∀ pc L st h, J pc L st h = some z → am_W G p l e R s m args below meth c (am_Q G below args s h0 z) maxL h0 pc L st h)
    (hze : am_ze h0 z) (hh0 : h0.2.1 = s.heap.size) :
    ∀ (f pc : Nat) (L : ah_L) (st : List AV) (h : ah_H), ah_go G.2.2.2.1 M C J f pc L st h = some z → am_W G p l e R s m args below meth c (am_Q G below args s h0 z) maxL h0 pc L st h := by
  obtain ⟨m1, m2, m3, m4, m5, m6⟩ := id hM
  intro f
  induction f with
  | zero => intro pc L st h e1; cases e1
  | succ f ih =>
    intro pc L st h e1 ls H locs cells slots hlen hl hR hL h00
    unfold ah_go at e1
    cases hE : ah_lkc M.1 pc with
    | none => rw [hE] at e1; cases e1
    | some E =>
      obtain ⟨i, nx, q, ts, w⟩ := E
      rw [hE] at e1
      obtain ⟨k1, k2, k3, k4, k5⟩ := m6 pc i nx q ts w hE
      refine as_step (I := I) (P := P) hT hS k1 k2 hC ?_ ?_ ?_ k3 ?_ ?_ hlen hl hR hh0 hL h00 e1
      · intro y as a h' hi _ e9
        obtain ⟨-, e9⟩ := bif_t e9
        rw [k5 hi a.1] at e9
        cases e9
      · intro k kd y na rt bs a0 st1 vs a h' hi hq hst hbl ho hwt e8 e9
        obtain ⟨w1, e9⟩ := bif_t e9
        have w2 := Nat.eq_of_beq_eq_true (Bool.and_eq_true_iff.mp w1).1
        have w3 := Nat.eq_of_beq_eq_true (Bool.and_eq_true_iff.mp w1).2
        subst hi
        subst hq
        subst hst
        cases hca : ah_catch M.2.2.1 pc a.1 with
        | none => rw [hca] at e9; cases e9
        | some t =>
          rw [hca] at e9
          obtain ⟨hGd, hak, -, hcl⟩ := id hT
          obtain ⟨S, hrt, hlocks, hname, hRm, hK, hX⟩ := id hS
          obtain ⟨N', bytes', maxL', ret', ⟨i1, i2, i3, i4, i5, i6, i7⟩, c2, c3, c4, r, c5, c6⟩ := k2 _ _ _ _ rfl
          obtain ⟨d', rfl, hM'⟩ := hCT _ _ _ _ _ _ _ _ _ e8 w2 w3 i1
          obtain ⟨n1, hd1, hnx1⟩ := k1
          obtain ⟨rfl, -⟩ := hnx1 rfl
          refine as_cVT S hM' (good_cons hGd i3) i3 i4 c2 c3 c4 i5 i6 hRm hK hX hR ho (hcl kd r.1 r.2.1 r.2.2 c5).1 c5 c6 hbl (hl.1.trans hlen) hwt hd1 hL h00 (by omega) (by rw [htab]; exact m4) hca ?_
          intro H' cells slots g1 g2 g3
          exact hJ _ _ _ _ e9 ls H' locs cells slots hlen hl g1 g2 g3
      · intro k kd n hi hq hroom hz
        subst hi
        subst hq
        obtain ⟨hhn, E, tx, ic, si, names, wd, t1, t2, t3, t4, t5, t6, t7, t8, t9, t10, t11, t12, t13, t14, t15⟩ := k4 _ _ _ rfl rfl
        subst t1
        obtain ⟨n1, hd1, hnx1⟩ := k1
        obtain ⟨rfl, -⟩ := hnx1 rfl
        subst hz
        obtain ⟨z1, z2⟩ := hze _ _ rfl
        have z3 : (ah_new h (kd, []) 6).2.2.2 = h.2.2.2 := rfl
        have z4 : (ah_new h (kd, []) 6).2.1 = h.2.1 + 1 := rfl
        cases st with
        | cons v st =>
          exfalso
          unfold ah_step at e1
          dsimp only at e1
          cases e1
        | nil =>
          exact as_throw hS hfl hBs t2 t3 t4 t5 t6 t7 t8 t9 t10 t11 hd1 t12 t13 t14 t15 (by
            have : c.exceptionTable = #[] := by
              apply Array.toList_inj.mp
              rw [htab, hhn]; rfl
            rw [this]; rfl) hlen hl hR hh0 hL (by omega) (by omega) hroom
      · intro pc' L' st' h' e2 ls' H' locs' cells slots g1 g2 g3 g4 g5
        cases hc : ah_lk M.2.1 pc' with
        | none => rw [hc] at e2; exact ih pc' L' st' h' e2 ls' H' locs' cells slots g1 g2 g3 g4 g5
        | some ms9 =>
          rw [hc] at e2
          have hml := m5 pc' ms9 hc
          have hmk := al_mask g2 (m := ms9) (by omega)
          refine hJ _ _ _ _ e2 ls' H' locs' cells slots ?_ hmk g3 g4 g5
          have := hmk.1
          have := g2.1
          omega
      · intro rv h' hz
        subst hz
        rfl
end ABd
