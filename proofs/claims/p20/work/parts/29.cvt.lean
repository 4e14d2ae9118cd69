/-! A CALL WHOSE CALLEE THROWS, CAUGHT -/
section ACx
variable {p : Program} {l : Launch} {e : Env} {R : Room} {s : State} {m : MethodId} {args : Array Value} {below : List Frame} {meth : Method} {c : Code} {H : Heap} {locs : List Loc} {cells slots : Nat} {Q : State → Prop}
variable {cc : ByteArray} {pc nL : Nat} {ls : Array Slot} {G : am_G} {h0 h h' : ah_H} {d n index maxL : Nat} {Ts : List Cond} {own : String} {y : MethodName} {bytes : ByteArray} {ret : Option FieldType} {as st : List AV}
theorem as_cVT (S : CallFix p m c cc nL s args Ts own) {a0 kd0 t : Nat} {ka : Nat × Nat} {vs : List AV} {r : vw_C} {hs : ah_X} (hM : am_MetT G l y (Cond.code y bytes maxL ret :: Ts) d (.inr (.inr (some a0)) :: as) h ka h') (hGd : GoodIn Ts (Cond.code y bytes maxL ret :: Ts)) (hcd : Cond.code y bytes maxL ret ∈ Ts) (hini : Cond.initialized y.cls ∈ Ts) (hlink : Cond.methodLink own index y ∈ Ts) (hinst : Cond.instanceMethod y ∈ Ts) (hsel : Cond.selects y.cls y y ∈ Ts)
    (hd : y.cls ≠ "java/lang/invoke/MethodHandle" ∧ y.cls ≠ "java/lang/invoke/VarHandle" ∧ (parseMethodDescriptor y.desc).map (fun d => d.parameters.length) = some n) (hmax : maxL ≤ 22) (hRm : am_Rm G R s (d + 1) h0) (hK : ar_K G.1 G.2.1 G.2.2.1 s) (hX : ar_X G s) (hR : ar_H G.1 G.2.1 G.2.2.1 G.2.2.2.1 G.2.2.2.2.1 (am_B G) h H)
    (ho : h.1 a0 = some (kd0, vs)) (hkd : kd0 < 100) (hc : G.1[kd0]? = some r) (hrc : r.1 = y.cls)
    (hn : as.length = n) (hsize : ls.size = nL) (hwt : ah_wt st ≤ 8) (hdg : decode cc pc = .ok (.invokevirtual index, 3)) (hL : ∀ q ∈ locs, am_free G h0 h q.base) (h00 : h0.2.2.2 ≤ h.2.2.2) (hmono : h.2.2.2 ≤ h'.2.2.2)
    (hhs : am_hs G Ts own hs c.exceptionTable.toList) (hcatch : ah_catch hs pc ka.1 = some t)
    (kk : ∀ (H' : Heap) (cells slots : Nat), ar_H G.1 G.2.1 G.2.2.1 G.2.2.2.1 G.2.2.2.2.1 (am_B G) h' H' → (∀ q ∈ locs, am_free G h0 h' q.base) → h0.2.2.2 ≤ h'.2.2.2 → W p l e R s m args below meth c H' locs cells slots Q (F0 m t ls [.ref ka.2])) : W p l e R s m args below meth c H locs cells slots Q (F0 m pc ls ((as.reverse ++ .inr (.inr (some a0)) :: st).map toV)) := by
  refine am_fits hRm hR (fun hf => ?_)
  obtain ⟨hx, hb, hml, hown, hts⟩ := id S
  have hrecv : ∃ cellB : Cell, H[a0]? = some cellB ∧ cellB.vm.isStatics = false ∧ s.vm.findClass y.cls = some cellB.cls := by
    obtain ⟨-, cell, q1, q2⟩ := hR.2.2.2.2.2 a0 _ ho
    rcases q2 with ⟨-, q3, r', q4, q5, -⟩ | ⟨q3, -⟩ | ⟨q3, -⟩
    · dsimp only at q4 q5
      refine ⟨cell, q1, by rw [q3]; rfl, ?_⟩
      rw [q5, ← hrc]
      exact (hK.1 kd0 r hc).2.1
    · dsimp only at q3; exact absurd q3 (by omega)
    · dsimp only at q3; exact absurd q3 (by omega)
  obtain ⟨cellB, b1, b2, b3⟩ := hrecv
  intro T hT X
  have hrm := am_room (G := G) (h := h) hRm.2.2.1 hRm.2.2.2.1 hmax
  obtain ⟨T', t', X', e1, ⟨⟨E, ws, hE, h200, hha⟩, hok⟩, hst⟩ := callVT X hx (g := F0 m pc ls ((as.reverse ++ .inr (.inr (some a0)) :: st).map toV)) hown (hts _ hlink) (hts _ hinst) (hts _ hsel) (hts _ hcd) ⟨hd.1, hd.2.1⟩ (ws := Cond.code y bytes maxL ret :: Ts) List.mem_cons_self (List.mem_cons_of_mem _ hini) (pay_in hts hGd) hM hrm.1 hrm.2 hf.1 hf.2 (b := a0) (by rw [hT]; exact b1) b2 b3 rfl (by rw [hml]; exact hsize) (argsL := as.map toV) (rest := st.map toV) rfl (fun sig hsg => by
      have h2 := hd.2.2
      rw [hsg] at h2
      rw [List.length_map, hn]
      exact (Option.some.inj h2).symm) (by simp [toV, va_rf]) (lv_room (by rw [← ah_wt_eq]; exact hwt)) (by rw [hb]; exact hdg) (fun U hU hW => ⟨by rw [hU, hT]; exact hR, ar_K.moved hW.alike hK, hX.warm hW⟩)
  obtain ⟨-, cell, c1, c2⟩ := hok.1.2.2.2.2.2 ka.2 _ hha
  have hcv : cell.vm = .none ∧ cell.cls = G.2.2.1.2.2 ka.1 := by
    rcases c2 with ⟨g1, -⟩ | ⟨-, g1, -⟩ | ⟨-, g1, g2⟩
    · dsimp only at g1; exact absurd g1 (by omega)
    · dsimp only at g1; exact absurd g1 (by omega)
    · exact ⟨g1, g2⟩
  have hpl : e.platform.magicAccessors = ({} : Platform).magicAccessors := by rw [X.admits.platform]
  generalize hg' : ({ F0 m pc ls ((as.reverse ++ .inr (.inr (some a0)) :: st).map toV) with stack := st.map toV } : JFrame) = g' at hst
  have hgm : g'.method = m := by rw [← hg']
  have hgp : g'.pc = pc := by rw [← hg']
  have hS0h : ((T'.setTop g').pushFrame (.throwing ka.2)).heap = T'.heap := throwing_heap T' g' ka.2
  have hS0v : ((T'.setTop g').pushFrame (.throwing ka.2)).vm = T'.vm := throwing_vm T' g' ka.2
  obtain ⟨vm', w1, w2⟩ := find_go (S0 := (T'.setTop g').pushFrame (.throwing ka.2)) (f := g') (a := ka.2) (t := t) (cell := cell) hpl (by rw [hgm]; exact hown) hts hX hE (by rw [hS0h, e1]; exact c1) (fun k hk => by rw [hcv.1] at hk; cases hk) hcv.2 hs c.exceptionTable.toList hhs (by rw [hgp]; exact hcatch) T'.vm X'.warmed
  have hfind : FindsTo e ((T'.setTop g').pushFrame (.throwing ka.2)) g' ka.2 (.found t) vm' := by
    intro Q' E' d' acts'
    rw [W.findHandler_eq (meth := meth) (code := c) (by rw [hS0v, hgm]; exact X'.method') X'.code]
    have h9 := w2 Q' E' d' acts'
    rw [← hS0v, State.setVm_self] at h9
    exact h9
  have hX2 := X'.noted w1
  have hL' : ∀ q ∈ locs, am_free G h0 h' q.base := fun q hq => ⟨(hL q hq).1, by have := (hL q hq).2; omega⟩
  obtain ⟨tt, k1, k2⟩ := kk t'.heap _ _ hok.1 hL' (by omega) (T'.setVm vm') e1 hX2
  refine ⟨tt, hst tt (steps_caughtTo (by rw [hgm]; exact X'.here) hfind ?_), k2⟩
  have hgg : ({ g' with pc := t, stack := [.ref ka.2] } : JFrame) = F0 m t ls [.ref ka.2] := by rw [← hg']
  rw [hgg]
  exact k1
end ACx
