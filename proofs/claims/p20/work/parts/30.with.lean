/-! METHODS WITH HANDLERS: their contract, their (static) call -/
theorem am_ofW {G : am_G} {l : Launch} {y : MethodName} {Ts : List Cond} {d : Nat} {as : List AV} {h : ah_H} {rv : Option AV} {h' : ah_H} {cc : ByteArray} {maxL : Nat} {ret : Option FieldType} {hh : List (Nat × Nat × Nat × Nat)} (hy : plainFor y = true)
    (body : ∀ p e s m args below meth c s₁, BodyLoose p l y (headSpec (Cond.codeWith y cc maxL ret hh :: Ts) (am_rm G.2.2.2.1 d h)) cc maxL ret e s m args below meth c s₁ → c.maxLocals = maxL → am_Pc G as h args s →
      W p l e (headSpec (Cond.codeWith y cc maxL ret hh :: Ts) (am_rm G.2.2.2.1 d h)).room s m args below meth c s.heap [] 0 0 (MQ below (am_Qc G h rv h') args s (G.2.2.2.1.1 - h.2.1) (G.2.2.2.1.2 - h.2.2.1) (am_free G h h')) (entryFrame m args maxL)) : am_Met G l y (Cond.codeWith y cc maxL ret hh :: Ts) d as h rv h' := by
  unfold am_Met Met
  refine MetFree.of_bodySF (code := cc) (maxLocals := maxL) (ret := ret) hy ?_ ?_
  · intro args s m hp hn
    obtain ⟨m', meth, c, h0, h1, h2, h3, h4, h5, h6, h7, -⟩ := Cond.codeWith_spec (atoms_spec (ws := Cond.codeWith y cc maxL ret hh :: Ts) hp _ List.mem_cons_self)
    cases Option.some.inj (h0.symm.trans hn)
    exact ⟨meth, c, h1, h2, h3, h4, h6, h7⟩
  · intro p e s m args below meth c s₁ B hml hP _
    have hh0 : s₁.heap = s.heap := by rw [B.state]; rfl
    obtain ⟨t, g1, o, g2, g3, g4⟩ := body p e s m args below meth c s₁ B hml hP s₁ hh0 (Stand.of_body B)
    exact ⟨t, o, g1, g2, g3, ⟨g4.1, g4.2⟩⟩
section AWt
variable {p : Program} {l : Launch} {e : Env} {R : Room} {s : State} {m : MethodId} {args : Array Value} {below : List Frame} {meth : Method} {c : Code} {H : Heap} {locs : List Loc} {cells slots : Nat} {Q : State → Prop}
variable {cc : ByteArray} {pc nL : Nat} {ls : Array Slot} {G : am_G} {h0 h h' : ah_H} {d n index maxL : Nat} {Ts : List Cond} {own : String} {y : MethodName} {bytes : ByteArray} {ret : Option FieldType} {as st : List AV} {rv : Option AV} {hh : List (Nat × Nat × Nat × Nat)}
theorem as_cSW (S : CallFix p m c cc nL s args Ts own) (hM : am_Met G l y (Cond.codeWith y bytes maxL ret hh :: Ts) d as h rv h') (hGd : GoodIn Ts (Cond.codeWith y bytes maxL ret hh :: Ts)) (hcd : Cond.codeWith y bytes maxL ret hh ∈ Ts) (hini : Cond.initialized y.cls ∈ Ts) (hlink : Cond.methodLink own index y ∈ Ts) (hstat : Cond.static y ∈ Ts)
    (hd : y.cls ≠ "java/lang/invoke/MethodHandle" ∧ y.cls ≠ "java/lang/invoke/VarHandle" ∧ (parseMethodDescriptor y.desc).map (fun d => d.parameters.length) = some n) (hmax : maxL ≤ 22) (hRm : am_Rm G R s (d + 1) h0) (hK : ar_K G.1 G.2.1 G.2.2.1 s) (hX : ar_X G s) (hR : ar_H G.1 G.2.1 G.2.2.1 G.2.2.2.1 G.2.2.2.2.1 (am_B G) h H)
    (hn : as.length = n) (hsize : ls.size = nL) (hwt : ah_wt st ≤ 8) (hdg : decode cc pc = .ok (.invokestatic index, 3)) (hL : ∀ q ∈ locs, am_free G h0 h q.base) (h00 : h0.2.2.2 ≤ h.2.2.2)
    (kk : ∀ (H' : Heap) (locs' : List Loc) (cells slots : Nat), ar_H G.1 G.2.1 G.2.2.1 G.2.2.2.1 G.2.2.2.2.1 (am_B G) h' H' → (∀ q ∈ locs', am_free G h0 h' q.base) → h0.2.2.2 ≤ h'.2.2.2 → W p l e R s m args below meth c H' locs' cells slots Q (F0 m (pc + 3) ls ((rv.map toV).toList ++ st.map toV))) : W p l e R s m args below meth c H locs cells slots Q (F0 m pc ls ((as.reverse ++ st).map toV)) := by
  unfold am_Met Met at hM
  refine am_fits hRm hR (fun hf => ?_)
  obtain ⟨hx, hb, hml, hown, hts⟩ := id S
  have hws := pay_in hts hGd
  have hrm := am_room (G := G) (h := h) hRm.2.2.1 hRm.2.2.2.1 hmax
  have hrc : (am_rm G.2.2.2.1 d h).cells = G.2.2.2.1.1 - h.2.1 := rfl
  have hrs : (am_rm G.2.2.2.1 d h).slots = G.2.2.2.1.2 - h.2.2.1 := rfl
  intro T hT X
  obtain ⟨mk, methM, cM, hnamed, hmethM, hcM, -, -, -, -, -, hsigM⟩ := Cond.codeWith_spec (hts _ hcd)
  have hstatic : methM.isStatic = true := Cond.static_spec hnamed hmethM (hts _ hstat)
  obtain ⟨kP, hkP, -⟩ := className_of_methodNamed hnamed
  have hinitP : kP.init = .initialized := Cond.initialized_spec (findClass_of_methodNamed hnamed) hkP (hts _ hini)
  obtain ⟨vm₁, X₁, hstep₁⟩ := X.invokestatic hx hown (hts _ hlink) hnamed hmethM hstatic hkP hinitP ⟨hd.1, hd.2.1⟩ (g := F0 m pc ls ((as.reverse ++ st).map toV)) rfl (argsL := as.map toV) (rest := st.map toV) (by
    have h2 := hd.2.2
    rw [hsigM] at h2
    rw [List.length_map, hn]
    exact (Option.some.inj h2).symm) (by simp) (by rw [hb]; exact hdg)
  have hnU : (T.setVm vm₁).methodNamed? y = some mk := X₁.named hnamed
  obtain ⟨mk2, methY, cY, hn2, hmY, hcY, -, hlY, -, -, -, -⟩ := Cond.codeWith_spec (hws _ List.mem_cons_self #[] (T.setVm vm₁) X₁.warmed)
  cases Option.some.inj (hn2.symm.trans hnU)
  obtain ⟨kY, hkY, -⟩ := className_of_methodNamed hnU
  have hinitY : kY.init = .initialized := Cond.initialized_spec (findClass_of_methodNamed hnU) hkY (hws _ (List.mem_cons_of_mem _ hini) #[] (T.setVm vm₁) X₁.warmed)
  generalize hg' : ({ F0 m pc ls ((as.reverse ++ st).map toV) with stack := st.map toV } : JFrame) = g' at hstep₁
  have hgm : g'.method = m := by rw [← hg']
  have hgl : g'.locals = ls := by rw [← hg']
  have hgp : g'.pc = pc := by rw [← hg']
  have hgs : g'.stack = st.map toV := by rw [← hg']
  have hgr : g'.monitorRoom = 0 := by rw [← hg']
  have hAt : At (T.setVm vm₁) g'.method c below := by rw [hgm]; exact X₁.here
  have hdg' : decode c.code g'.pc = .ok (.invokestatic index, 3) := by rw [hb, hgp]; exact hdg
  have hwt' : ((st.map toV).map fun v => v.category).sum ≤ 8 := by rw [← ah_wt_eq]; exact hwt
  have happ : (headSpec (Cond.codeWith y bytes maxL ret hh :: Ts) (am_rm G.2.2.2.1 d h)).appliesLoose y e.platform ((T.setVm vm₁).calling g' mk (as.map toV).toArray) = true :=
    Spec.appliesLoose_calling hAt hdg' hnU hkY hinitY (X₁.room_calling (g := g') (R' := am_rm G.2.2.2.1 d h) (by rw [hgl, hml]; exact hsize) hmY hcY hrm.1 (by rw [hlY, hgs, hgr]; omega) hf.1 hf.2) (atoms_intro fun w hw => hws w hw _ _ X₁.warmed)
  have hfr : ((T.setVm vm₁).setTop g').frames = .java g' :: below := by
    rw [State.frames_setTop' _ hAt.top, X₁.tail]
  have hP0 : am_Pc G as h (as.map toV).toArray (T.setVm vm₁) := am_pre hK hX hR as (T.setVm vm₁) hT X₁.warmed
  obtain ⟨o, s₂, hsteps, hrun, hend, hq, L, hfe, hLf⟩ := Steps.callFree hM p X.admits X.cas X.clock (acts := []) (mid := [.java g']) (below := below) hfr happ (am_blind G as h _ _ g' mk hP0) trivial
  obtain ⟨rfl, hok, hmono⟩ := hq
  obtain ⟨-, hWt, hsame⟩ := hfe
  rw [hfr] at hend
  obtain ⟨T', X', hW', hs', ht⟩ := X₁.outOf hgm hdg' hend hWt hsame
  have hTh : T'.heap = s₂.heap := by rw [ht]; rfl
  have hL' : ∀ q ∈ locs ++ L, am_free G h0 h' q.base := by
    intro q hq
    rcases List.mem_append.mp hq with h1 | h1
    · exact ⟨(hL q h1).1, by have := (hL q h1).2; omega⟩
    · exact ⟨(hLf q h1).1, by have := (hLf q h1).2; omega⟩
  obtain ⟨tt, k1, k2⟩ := kk s₂.heap (locs ++ L) _ _ hok.1 hL' (by omega) T' hTh X'
  refine ⟨tt, hstep₁ tt (fun acts => ?_), k2⟩
  rw [doInvoke_state]
  refine hsteps.trans ?_
  rw [ht]
  have hgg : ({ g' with pc := g'.pc + 3, stack := (rv.map toV).toList ++ g'.stack } : JFrame) = F0 m (pc + 3) ls ((rv.map toV).toList ++ st.map toV) := by rw [← hg']
  rw [hgg]
  exact k1
end AWt
