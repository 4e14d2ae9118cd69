/-! A CALLEE THAT THROWS -/
def am_QT (G : am_G) (h : ah_H) (ka : Nat × Nat) (h' : ah_H) : Array Value → State → Outcome → State → Prop := fun _ st o t => o = .threw ka.2 ∧ (am_xk G ka h' ∧ am_ok G h' t) ∧ st.WarmedH t.vm ∧ st.sameButNew ({ t with vm := st.vm } : State) [] (G.2.2.2.1.1 - h.2.1) (G.2.2.2.1.2 - h.2.2.1)
def am_MetT (G : am_G) (l : Launch) (y : MethodName) (ws : List Cond) (d : Nat) (as : List AV) (h : ah_H) (ka : Nat × Nat) (h' : ah_H) : Prop := MetFree l y (headSpec ws (am_rm G.2.2.2.1 d h)) (am_Pc G as h) (fun _ _ _ _ _ => True) (am_QT G h ka h')
theorem am_MetT.ofW {G : am_G} {l : Launch} {y : MethodName} {Ts : List Cond} {d : Nat} {as : List AV} {h : ah_H} {ka : Nat × Nat} {h' : ah_H} {cc : ByteArray} {maxL : Nat} {ret : Option FieldType} (hy : plainFor y = true)
    (body : ∀ p e s m args below meth c s₁, BodyLoose p l y (headSpec (Cond.code y cc maxL ret :: Ts) (am_rm G.2.2.2.1 d h)) cc maxL ret e s m args below meth c s₁ → c.maxLocals = maxL → am_Pc G as h args s →
      W p l e (headSpec (Cond.code y cc maxL ret :: Ts) (am_rm G.2.2.2.1 d h)).room s m args below meth c s.heap [] 0 0 (MQT G below s h ka h') (entryFrame m args maxL)) : am_MetT G l y (Cond.code y cc maxL ret :: Ts) d as h ka h' := by
  refine MetFree.of_bodySF (code := cc) (maxLocals := maxL) (ret := ret) hy ?_ ?_
  · intro args s m hp hn
    obtain ⟨meth, c, h1, h2, h3, h4, h5, h6, -, -⟩ := Cond.code_spec hn (atoms_spec (ws := Cond.code y cc maxL ret :: Ts) hp _ List.mem_cons_self)
    exact ⟨meth, c, h1, h2, h3, h4, h5, h6⟩
  · intro p e s m args below meth c s₁ B hml hP _
    have hh0 : s₁.heap = s.heap := by rw [B.state]; rfl
    obtain ⟨t, g1, g2, g3, g4, g5, g6⟩ := body p e s m args below meth c s₁ B hml hP s₁ hh0 (Stand.of_body B)
    exact ⟨t, .threw ka.2, g1, g2, g3, rfl, g4, g5, g6⟩
section ATr
variable {p : Program} {l : Launch} {e : Env} {R : Room} {s : State} {m : MethodId} {args : Array Value} {below : List Frame} {meth : Method} {c : Code} {T : State} {locs : List Loc} {cells slots : Nat}
variable {cc : ByteArray} {pc nL : Nat} {ls : Array Slot} {G : am_G} {h0 h h' : ah_H} {d n index maxL : Nat} {Ts : List Cond} {own : String} {y : MethodName} {bytes : ByteArray} {ret : Option FieldType} {as st : List AV}
theorem callVT (X : Stand p l e R s m args below meth c T locs cells slots) (hexec : p.tables.exec = Jvm.exec) {C : String}
    (hown : s.vm.findClass own = some m.cls) (hlink : (Cond.methodLink own index y).before args s = true) (hinst : (Cond.instanceMethod y).before args s = true) (hsel : (Cond.selects C y y).before args s = true)
    (hcode : (Cond.code y bytes maxL ret).before args s = true) (hy : y.cls ≠ "java/lang/invoke/MethodHandle" ∧ y.cls ≠ "java/lang/invoke/VarHandle")
    {ws : List Cond} (hcw : Cond.code y bytes maxL ret ∈ ws) (hiw : Cond.initialized y.cls ∈ ws) (hws : ∀ w ∈ ws, ∀ (a' : Array Value) (U : State), s.WarmedH U.vm → w.before a' U = true) {ka : Nat × Nat} {As : List AV} (hM : am_MetT G l y ws d As h ka h')
    (hframes : (am_rm G.2.2.2.1 d h).frames + 1 ≤ R.frames) (hlocals : 8 + (maxL + 11) + (am_rm G.2.2.2.1 d h).locals ≤ R.locals) (hcells : cells + (G.2.2.2.1.1 - h.2.1) ≤ R.cells) (hslots : slots + (G.2.2.2.1.2 - h.2.2.1) ≤ R.slots)
    {b : Addr} {cellB : Cell} (hcell : T.heap[b]? = some cellB) (hobj : cellB.vm.isStatics = false) (hcls : s.vm.findClass C = some cellB.cls)
    {g : JFrame} (hg : g.method = m) (hsize : g.locals.size = c.maxLocals) {argsL rest : List Value} (hAs : (Value.ref b :: argsL) = As.map toV) (hlen : ∀ sig, parseMethodDescriptor y.desc = some sig → argsL.length = sig.parameters.length)
    (hstack : g.stack = argsL.reverse ++ .ref b :: rest) (hW : 2 * g.monitorRoom + (rest.map fun v => v.category).sum ≤ 8) (hdg : decode c.code g.pc = .ok (.invokevirtual index, 3))
    (hpre : ∀ U : State, U.heap = T.heap → s.WarmedH U.vm → am_ok G h U) :
    ∃ T' t : State, Stand p l e R s m args below meth c T' locs (cells + (G.2.2.2.1.1 - h.2.1)) (slots + (G.2.2.2.1.2 - h.2.2.1)) ∧ T'.heap = t.heap ∧ (am_xk G ka h' ∧ am_ok G h' t) ∧
      ∀ target, Steps p.tables e below ((T'.setTop { g with stack := rest }).pushFrame (.throwing ka.2)) target → Steps p.tables e below (T.setTop g) target := by
  obtain ⟨mk, methM, hnamed, hmethM, hstM, habM⟩ := Cond.instanceMethod_spec hinst
  obtain ⟨methM', cM, hmethM', hcM, hbM, hlM, -, -, -, hsigM⟩ := Cond.code_spec hnamed hcode
  cases hmethM.symm.trans hmethM'
  obtain ⟨c2, r2, m2, q1, q2, q3, q4, kP, hkP, hkPi⟩ := Cond.selects_spec hsel
  cases hcls.symm.trans q1
  cases (State.methodFound?_of_named hnamed hy).symm.trans q2
  cases hnamed.symm.trans q3
  have hselP : selectMethod e.platform s.vm cellB.cls mk = .method mk := by rw [Launch.admits_selectMethod X.admits]; exact q4
  obtain ⟨vm₁, X₁, hstep₁⟩ := X.invokevirtual hexec hown hlink hnamed hmethM hstM hkP hkPi hy (a := b) (cell := cellB) hcell
    (fun z h => by rw [h] at hobj; cases hobj) hselP hmethM habM hkP hkPi (g := g) hg (argsL := argsL) (rest := rest) (hlen _ hsigM) hstack hdg
  have hnU : (T.setVm vm₁).methodNamed? y = some mk := X₁.named hnamed
  obtain ⟨methY, cY, hmY, hcY, -, hlY, -, -, -, -⟩ := Cond.code_spec hnU (hws _ hcw #[] (T.setVm vm₁) X₁.warmed)
  obtain ⟨kY, hkY, -⟩ := className_of_methodNamed hnU
  have hinitY : kY.init = .initialized := Cond.initialized_spec (findClass_of_methodNamed hnU) hkY (hws _ hiw #[] (T.setVm vm₁) X₁.warmed)
  have hAt : At (T.setVm vm₁) ({ g with stack := rest } : JFrame).method c below := by
    show At (T.setVm vm₁) g.method c below
    rw [hg]; exact X₁.here
  have happ : (headSpec ws (am_rm G.2.2.2.1 d h)).appliesLoose y e.platform ((T.setVm vm₁).calling { g with stack := rest } mk (Value.ref b :: argsL).toArray) = true :=
    Spec.appliesLoose_calling hAt hdg hnU hkY hinitY (X₁.room_calling (g := { g with stack := rest }) (R' := am_rm G.2.2.2.1 d h) hsize hmY hcY hframes (by rw [hlY]; show 2 * g.monitorRoom + (rest.map fun v => v.category).sum + _ + _ ≤ _; omega) hcells hslots) (atoms_intro fun w hw => hws w hw _ _ X₁.warmed)
  have hfr : ((T.setVm vm₁).setTop { g with stack := rest }).frames = .java { g with stack := rest } :: below := by
    rw [State.frames_setTop' _ hAt.top, X₁.tail]
  obtain ⟨o, s₂, hsteps, hrun, hend, hq⟩ := Steps.callFree hM p X.admits X.cas X.clock (acts := []) (mid := [.java { g with stack := rest }]) (below := below) hfr happ
    ⟨by rw [hAs], (hpre (T.setVm vm₁) rfl X₁.warmed).calling { g with stack := rest } mk (Value.ref b :: argsL).toArray⟩ trivial
  obtain ⟨rfl, hok, hWt, hsame⟩ := hq
  rw [hfr] at hend
  obtain ⟨T', X', hW', hs', ht⟩ := X₁.outOfThrown (g := { g with stack := rest }) hg hend hWt hsame
  refine ⟨T', s₂, ?_, ?_, hok, fun target hrest => hstep₁ _ fun acts => ?_⟩
  · rw [List.append_nil] at X'
    exact X'
  · rw [ht]; rfl
  · rw [doInvoke_state]
    refine hsteps.trans ?_
    rw [ht]
    exact hrest
end ATr
