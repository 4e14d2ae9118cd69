/-! ALL METHODS -/
/-- the methods that the tables know -/
def am_all (G : am_G) (Ts : List Cond) (I : am_I) (P : Nat → Option ah_M) : Prop := ∀ y N bytes maxL ret hh, I y = some (N, bytes, maxL, ret, hh) → ∃ M, P y = some M ∧ am_mok G Ts I P N bytes maxL ret hh M ∧ am_w N bytes maxL ret hh ∈ Ts
def am_bodies (l : Launch) (G : am_G) (Ts : List Cond) (P : Nat → Option ah_M) (n d y : Nat) (N : MethodName) (bytes : ByteArray) (maxL : Nat) (hh : List (Nat × Nat × Nat × Nat)) (M : ah_M) : Prop :=
  ∀ (z : ah_R) (h0 : ah_H) (pc : Nat) (L : ah_L) (st : List AV) (h : ah_H), ah_run G.2.2.2.1 P n d y pc L st h = some z → am_ze h0 z → ∀ (p : Program) (e : Env) (R : Room) (s : State) (m : MethodId) (args : Array Value) (below : List Frame) (meth : Method) (c : Code), am_S G Ts N.cls N.name M.2.2.2.1 p R s m args meth c bytes maxL d h0 → c.exceptionTable.toList = am_tab hh → h0.2.1 = s.heap.size →
    am_W G p l e R s m args below meth c (am_Q G below args s h0 z) maxL h0 pc L st h
/-- a method's context at its entry -/
theorem am_entry {l : Launch} {G : am_G} {Ts : List Cond} {d : Nat} {N : MethodName} {bytes : ByteArray} {maxL : Nat} {ret : Option FieldType} {hh : List (Nat × Nat × Nat × Nat)} {M : ah_M} {as : List AV} {h : ah_H} {p : Program} {e : Env} {s : State} {m : MethodId} {below : List Frame} {meth : Method} {c : Code} {s₁ : State}
    (m2 : M.2.2.2.2 = maxL) (m3 : am_rt M.2.2.2.1 ret) (hfit : (ah_lay as).length ≤ maxL) (B : BodyLoose p l N (headSpec (am_w N bytes maxL ret hh :: Ts) (am_rm G.2.2.2.1 d h)) bytes maxL ret e s m (as.map toV).toArray below meth c s₁) (hml : c.maxLocals = maxL) (hok : am_ok G h s) :
    am_S G Ts N.cls N.name M.2.2.2.1 p (am_rm G.2.2.2.1 d h) s m (as.map toV).toArray meth c bytes maxL d h ∧ c.exceptionTable.toList = am_tab hh ∧ (ah_in M as).length = maxL ∧ al_has ((lg_sl (as.map toV) ++ List.replicate (maxL - (lg_sl (as.map toV)).length) Slot.unset).toArray) (ah_in M as) := by
  have hts := atoms_spec (ws := am_w N bytes maxL ret hh :: Ts) B.pre
  obtain ⟨hok1, hok2, hok3⟩ := hok
  refine ⟨⟨⟨B.exec, B.bytes, hml, findClass_of_methodNamed B.named, fun w hw => hts w (List.mem_cons_of_mem _ hw)⟩, ?_, B.notSynchronized, (name_of_methodNamed B.named B.method).1, ?_, hok2, hok3⟩, ?_, ?_⟩
  · rw [B.returns]; exact m3
  · obtain ⟨⟨q1, -⟩, q2, q3, q4, q5, -⟩ := id hok1
    exact ⟨q1, q3, Nat.le_refl _, Nat.le_refl _, by show _ ≤ G.2.2.2.1.1 - h.2.1; omega, Nat.le_refl _⟩
  · cases hh with
    | nil =>
      have := BodyLoose.noHandlers B (hts _ List.mem_cons_self)
      have h2 : c.exceptionTable = #[] := by simpa using this
      rw [h2]; rfl
    | cons q r =>
      obtain ⟨m', meth', c', g1, g2, g3, -, -, g4, -⟩ := Cond.codeWith_spec (hts _ List.mem_cons_self)
      cases Option.some.inj (g1.symm.trans B.named)
      cases Option.some.inj (g2.symm.trans B.method)
      cases Option.some.inj (g3.symm.trans (Stand.of_body B).code)
      rw [← g4, am_tab_eq]
  · have hlen : (ah_in M as).length = maxL := by
      unfold ah_in
      rw [List.length_append, List.length_replicate, m2]
      omega
    have hl0 := lv_entry (as.map toV) (n := maxL) (by rw [← al_lay_len]; exact hfit)
    refine ⟨hlen, hl0.1.trans hlen.symm, hl0.2.1, fun i v hv => ?_⟩
    have := al_lay_nth as _ i v hv 0
    rw [Nat.zero_add] at this
    exact hl0.2.2 _ this
set_option maxHeartbeats 1000000 in
/-- EVERY METHOD THAT THE ABSTRACT MACHINE BRINGS TO AN END HAS ITS CONTRACT -/
theorem am_sound {l : Launch} {G : am_G} {Ts : List Cond} {I : am_I} {P : Nat → Option ah_M} (hT : am_T G Ts) (hfl : l.stackTraces = false) (hBs : (am_B G).size = G.2.2.2.2.1) (hA : am_all G Ts I P) : ∀ (n d y : Nat) (N : MethodName) (bytes : ByteArray) (maxL : Nat) (ret : Option FieldType) (hh : List (Nat × Nat × Nat × Nat)) (M : ah_M), I y = some (N, bytes, maxL, ret, hh) → P y = some M →
    am_bodies l G Ts P n d y N bytes maxL hh M ∧
    (∀ (as : List AV) (h : ah_H) (rv : Option AV) (h' : ah_H), (ah_lay as).length ≤ maxL → ah_run G.2.2.2.1 P n d y 0 (ah_in M as) [] h = some (.inl rv, h') → am_Met G l N (am_w N bytes maxL ret hh :: Ts) d as h rv h') ∧
    (hh = [] → ∀ (as : List AV) (h : ah_H) (ka : Nat × Nat) (h' : ah_H), (ah_lay as).length ≤ maxL → h'.2.2.2 = h.2.2.2 → h'.2.1 = h.2.1 + 1 → ah_run G.2.2.2.1 P n d y 0 (ah_in M as) [] h = some (.inr ka, h') → am_MetT G l N (Cond.code N bytes maxL ret :: Ts) d as h ka h') := by
  intro n
  induction n with
  | zero =>
    intro d y N bytes maxL ret hh M hI hP
    exact ⟨(fun z h0 pc L st h e1 => by cases e1), (fun as h rv h' _ e1 => by cases e1), (fun _ as h ka h' _ _ _ e1 => by cases e1)⟩
  | succ n ih =>
    intro d y N bytes maxL ret hh M hI hP
    obtain ⟨M', hP', hM, hcode⟩ := hA y N bytes maxL ret hh hI
    cases Option.some.inj (hP.symm.trans hP')
    obtain ⟨m1, m2, m3, m4, m5, m6⟩ := id hM
    have body : am_bodies l G Ts P (n + 1) d y N bytes maxL hh M := by
      intro z h0 pc L st h e1 hze p e R s m args below meth c hS htab hh0
      rw [ah_run_succ hP] at e1
      refine as_go hT hfl hBs hS hM htab ?_ ?_ ?_ hze hh0 1000 pc L st h e1
      · intro y' as' h2 rv2 h3 N' bytes' maxL' ret' hh' e2 hI'
        unfold ah_calls at e2
        cases d with
        | zero => cases e2
        | succ d' =>
          dsimp only at e2
          obtain ⟨M2, hP2, hm2, -⟩ := hA y' N' bytes' maxL' ret' hh' hI'
          rw [hP2] at e2
          obtain ⟨w1, e3⟩ := bif_t e2
          exact ⟨d', rfl, (ih d' y' N' bytes' maxL' ret' hh' M2 hI' hP2).2.1 as' h2 rv2 h3 (by rw [← hm2.2.1]; exact Nat.le_of_ble_eq_true w1) e3⟩
      · intro y' as' h2 ka2 h3 N' bytes' maxL' ret' e2 x1 x2 hI'
        unfold ah_calls at e2
        cases d with
        | zero => cases e2
        | succ d' =>
          dsimp only at e2
          obtain ⟨M2, hP2, hm2, -⟩ := hA y' N' bytes' maxL' ret' [] hI'
          rw [hP2] at e2
          obtain ⟨w1, e3⟩ := bif_t e2
          exact ⟨d', rfl, (ih d' y' N' bytes' maxL' ret' [] M2 hI' hP2).2.2 rfl as' h2 ka2 h3 (by rw [← hm2.2.1]; exact Nat.le_of_ble_eq_true w1) x1 x2 e3⟩
      · intro pc1 L1 st1 h1 e2
        exact (ih d y N bytes maxL ret hh M hI hP).1 z h0 pc1 L1 st1 h1 e2 hze p e R s m args below meth c hS htab hh0
    refine ⟨body, fun as h rv h' hfit e1 => ?_, fun hhn as h ka h' hfit x1 x2 e1 => ?_⟩
    · have key : ∀ p e s m args below meth c s₁, BodyLoose p l N (headSpec (am_w N bytes maxL ret hh :: Ts) (am_rm G.2.2.2.1 d h)) bytes maxL ret e s m args below meth c s₁ → c.maxLocals = maxL → am_Pc G as h args s →
          W p l e (headSpec (am_w N bytes maxL ret hh :: Ts) (am_rm G.2.2.2.1 d h)).room s m args below meth c s.heap [] 0 0 (MQ below (am_Qc G h rv h') args s (G.2.2.2.1.1 - h.2.1) (G.2.2.2.1.2 - h.2.2.1) (am_free G h h')) (entryFrame m args maxL) := by
        intro p e s m args below meth c s₁ B hml hv
        obtain ⟨rfl, hok⟩ := hv
        obtain ⟨hS, htab, hlen, hl⟩ := am_entry m2 m3 hfit B hml hok
        rw [lg_entry_eq]
        exact body (.inl rv, h') h 0 (ah_in M as) [] h e1 (fun ka h9 g => by cases g) p e _ s m _ below meth c hS htab (hok.1.2.1.symm) _ s.heap [] 0 0 hlen hl hok.1 (fun q hq => by cases hq) (Nat.le_refl _)
      cases hh with
      | nil => exact va_MetF (cc := bytes) (maxL := maxL) (ret := ret) m1 rfl key
      | cons q r => exact am_ofW m1 key
    · subst hhn
      refine am_MetT.ofW m1 ?_
      intro p e s m args below meth c s₁ B hml hv
      obtain ⟨rfl, hok⟩ := hv
      obtain ⟨hS, htab, hlen, hl⟩ := am_entry (hh := []) m2 m3 hfit B hml hok
      rw [lg_entry_eq]
      exact body (.inr ka, h') h 0 (ah_in M as) [] h e1 (fun ka9 h9 g => by cases g; exact ⟨x1, x2⟩) p e _ s m _ below meth c hS htab (hok.1.2.1.symm) _ s.heap [] 0 0 hlen hl hok.1 (fun q hq => by cases hq) (Nat.le_refl _)
