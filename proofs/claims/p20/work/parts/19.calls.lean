/-! THE CALLS -/
section ACs
variable {p : Program} {l : Launch} {e : Env} {R : Room} {s : State} {m : MethodId} {args : Array Value} {below : List Frame} {meth : Method} {c : Code} {H : Heap} {locs : List Loc} {cells slots : Nat} {Q : State → Prop}
variable {cc : ByteArray} {pc nL : Nat} {ls : Array Slot} {G : am_G} {h0 h h' : ah_H} {d n index maxL : Nat} {Ts : List Cond} {own : String} {y : MethodName} {bytes : ByteArray} {ret : Option FieldType} {as st : List AV} {rv : Option AV}
/-- room and frame as a method has them: its own start s with heap h0 -/
def am_Rm (G : am_G) (R : Room) (s : State) (d : Nat) (h0 : ah_H) : Prop := G.2.2.2.2.1 ≤ s.heap.size ∧ ar_S G.2.2.2.2.1 s.heap = h0.2.2.1 ∧ d + 10 ≤ R.frames ∧ 41 * d + 160 ≤ R.locals ∧ G.2.2.2.1.1 - s.heap.size ≤ R.cells ∧ G.2.2.2.1.2 - h0.2.2.1 ≤ R.slots
theorem am_fits (hRm : am_Rm G R s d h0) (hR : ar_H G.1 G.2.1 G.2.2.1 G.2.2.2.1 G.2.2.2.2.1 (am_B G) h H) (w : (H.size - s.heap.size) + (G.2.2.2.1.1 - h.2.1) ≤ R.cells ∧ (h.2.2.1 - h0.2.2.1) + (G.2.2.2.1.2 - h.2.2.1) ≤ R.slots → W p l e R s m args below meth c H locs (H.size - s.heap.size) (h.2.2.1 - h0.2.2.1) Q (F0 m pc ls (st.map toV))) : W p l e R s m args below meth c H locs cells slots Q (F0 m pc ls (st.map toV)) := by
  obtain ⟨r1, r2, r3, r4, r5, r6⟩ := hRm
  obtain ⟨t1, t2, t3, t4, t5, t6⟩ := hR
  refine ar_tight r1 r2 t3 (fun z1 z2 => w ?_)
  omega
theorem as_cS (S : CallFix p m c cc nL s args Ts own) (hM : am_Met G l y (Cond.code y bytes maxL ret :: Ts) d as h rv h') (hGd : GoodIn Ts (Cond.code y bytes maxL ret :: Ts)) (hini : Cond.initialized y.cls ∈ Ts) (hlink : Cond.methodLink own index y ∈ Ts) (hstat : Cond.static y ∈ Ts)
    (hd : y.cls ≠ "java/lang/invoke/MethodHandle" ∧ y.cls ≠ "java/lang/invoke/VarHandle" ∧ (parseMethodDescriptor y.desc).map (fun d => d.parameters.length) = some n) (hmax : maxL ≤ 22) (hRm : am_Rm G R s (d + 1) h0) (hK : ar_K G.1 G.2.1 G.2.2.1 s) (hX : ar_X G s) (hR : ar_H G.1 G.2.1 G.2.2.1 G.2.2.2.1 G.2.2.2.2.1 (am_B G) h H)
    (hn : as.length = n) (hsize : ls.size = nL) (hwt : ah_wt st ≤ 8) (hdg : decode cc pc = .ok (.invokestatic index, 3)) (hL : ∀ q ∈ locs, am_free G h0 h q.base) (h00 : h0.2.2.2 ≤ h.2.2.2)
    (kk : ∀ (H' : Heap) (locs' : List Loc) (cells slots : Nat), ar_H G.1 G.2.1 G.2.2.1 G.2.2.2.1 G.2.2.2.2.1 (am_B G) h' H' → (∀ q ∈ locs', am_free G h0 h' q.base) → h0.2.2.2 ≤ h'.2.2.2 → W p l e R s m args below meth c H' locs' cells slots Q (F0 m (pc + 3) ls ((rv.map toV).toList ++ st.map toV))) : W p l e R s m args below meth c H locs cells slots Q (F0 m pc ls ((as.reverse ++ st).map toV)) := by
  refine am_fits hRm hR (fun hf => ?_)
  have hts := S.2.2.2.2
  exact as_back (W.runS (As := as.map toV) (rest := st.map toV) S hM ⟨callB_of n hts hGd rfl rfl rfl (hts _ hini) (hts _ hlink) hd (am_room hRm.2.2.1 hRm.2.2.2.1 hmax), hts _ hstat⟩ ⟨am_blind G as h, am_pre hK hX hR as⟩ rfl (by simpa using hn) hsize (by simp) (lv_room (by rw [← ah_wt_eq]; exact hwt)) hdg hf) hL h00 kk
theorem as_cV (S : CallFix p m c cc nL s args Ts own) {a kd : Nat} {vs : List AV} {r : vw_C} (hM : am_Met G l y (Cond.code y bytes maxL ret :: Ts) d (.inr (.inr (some a)) :: as) h rv h') (hGd : GoodIn Ts (Cond.code y bytes maxL ret :: Ts)) (hini : Cond.initialized y.cls ∈ Ts) (hlink : Cond.methodLink own index y ∈ Ts) (hinst : Cond.instanceMethod y ∈ Ts) (hsel : Cond.selects y.cls y y ∈ Ts)
    (hd : y.cls ≠ "java/lang/invoke/MethodHandle" ∧ y.cls ≠ "java/lang/invoke/VarHandle" ∧ (parseMethodDescriptor y.desc).map (fun d => d.parameters.length) = some n) (hmax : maxL ≤ 22) (hRm : am_Rm G R s (d + 1) h0) (hK : ar_K G.1 G.2.1 G.2.2.1 s) (hX : ar_X G s) (hR : ar_H G.1 G.2.1 G.2.2.1 G.2.2.2.1 G.2.2.2.2.1 (am_B G) h H)
    (ho : h.1 a = some (kd, vs)) (hkd : kd < 100) (hc : G.1[kd]? = some r) (hrc : r.1 = y.cls)
    (hn : as.length = n) (hsize : ls.size = nL) (hwt : ah_wt st ≤ 8) (hdg : decode cc pc = .ok (.invokevirtual index, 3)) (hL : ∀ q ∈ locs, am_free G h0 h q.base) (h00 : h0.2.2.2 ≤ h.2.2.2)
    (kk : ∀ (H' : Heap) (locs' : List Loc) (cells slots : Nat), ar_H G.1 G.2.1 G.2.2.1 G.2.2.2.1 G.2.2.2.2.1 (am_B G) h' H' → (∀ q ∈ locs', am_free G h0 h' q.base) → h0.2.2.2 ≤ h'.2.2.2 → W p l e R s m args below meth c H' locs' cells slots Q (F0 m (pc + 3) ls ((rv.map toV).toList ++ st.map toV))) : W p l e R s m args below meth c H locs cells slots Q (F0 m pc ls ((as.reverse ++ .inr (.inr (some a)) :: st).map toV)) := by
  refine am_fits hRm hR (fun hf => ?_)
  have hts := S.2.2.2.2
  have hrecv : ∃ cellB : Cell, H[a]? = some cellB ∧ cellB.vm.isStatics = false ∧ s.vm.findClass y.cls = some cellB.cls := by
    obtain ⟨-, cell, q1, q2⟩ := hR.2.2.2.2.2 a _ ho
    rcases q2 with ⟨-, q3, r', q4, q5, -⟩ | ⟨q3, -⟩ | ⟨q3, -⟩
    · dsimp only at q4 q5
      refine ⟨cell, q1, by rw [q3]; rfl, ?_⟩
      rw [q5, ← hrc]
      exact (hK.1 kd r hc).2.1
    · dsimp only at q3; exact absurd q3 (by omega)
    · dsimp only at q3; exact absurd q3 (by omega)
  exact as_back (W.runV (As := as.map toV) (rest := st.map toV) S hM ⟨callB_of n hts hGd rfl rfl rfl (hts _ hini) (hts _ hlink) hd (am_room hRm.2.2.1 hRm.2.2.2.1 hmax), hts _ hinst, hts _ hsel⟩ ⟨am_blind G _ h, hrecv, am_pre hK hX hR _⟩ rfl (by simpa using hn) hsize (by simp [toV, va_rf]) (lv_room (by rw [← ah_wt_eq]; exact hwt)) hdg hf) hL h00 kk
theorem as_cI (S : CallFix p m c cc nL s args Ts own) {a : Nat} (hret : ret = none) (hM : am_Met G l y (Cond.code y bytes maxL ret :: Ts) d (.inr (.inr (some a)) :: as) h rv h') (hGd : GoodIn Ts (Cond.code y bytes maxL ret :: Ts)) (hini : Cond.initialized y.cls ∈ Ts) (hlink : Cond.methodLink own index y ∈ Ts) (hinst : Cond.instanceMethod y ∈ Ts) (hy1 : y.name = "<init>")
    (hd : y.cls ≠ "java/lang/invoke/MethodHandle" ∧ y.cls ≠ "java/lang/invoke/VarHandle" ∧ (parseMethodDescriptor y.desc).map (fun d => d.parameters.length) = some n) (hmax : maxL ≤ 22) (hRm : am_Rm G R s (d + 1) h0) (hK : ar_K G.1 G.2.1 G.2.2.1 s) (hX : ar_X G s) (hR : ar_H G.1 G.2.1 G.2.2.1 G.2.2.2.1 G.2.2.2.2.1 (am_B G) h H)
    (hn : as.length = n) (hsize : ls.size = nL) (hwt : ah_wt st ≤ 8) (hdg : decode cc pc = .ok (.invokespecial index, 3)) (hL : ∀ q ∈ locs, am_free G h0 h q.base) (h00 : h0.2.2.2 ≤ h.2.2.2)
    (kk : ∀ (H' : Heap) (locs' : List Loc) (cells slots : Nat), ar_H G.1 G.2.1 G.2.2.1 G.2.2.2.1 G.2.2.2.2.1 (am_B G) h' H' → (∀ q ∈ locs', am_free G h0 h' q.base) → h0.2.2.2 ≤ h'.2.2.2 → W p l e R s m args below meth c H' locs' cells slots Q (F0 m (pc + 3) ls ((rv.map toV).toList ++ st.map toV))) : W p l e R s m args below meth c H locs cells slots Q (F0 m pc ls ((as.reverse ++ .inr (.inr (some a)) :: st).map toV)) := by
  subst hret
  refine am_fits hRm hR (fun hf => ?_)
  have hts := S.2.2.2.2
  exact as_back (W.runI (As := as.map toV) (rest := st.map toV) S hM ⟨callB_of n hts hGd rfl rfl rfl (hts _ hini) (hts _ hlink) hd (am_room hRm.2.2.1 hRm.2.2.2.1 hmax), hy1, hts _ hinst⟩ ⟨am_blind G _ h, am_pre hK hX hR _⟩ rfl (by simpa using hn) hsize (by simp [toV, va_rf]) (lv_room (by rw [← ah_wt_eq]; exact hwt)) hdg hf) hL h00 kk
end ACs
section ACn
variable {p : Program} {l : Launch} {e : Env} {R : Room} {s : State} {m : MethodId} {args : Array Value} {below : List Frame} {meth : Method} {c : Code} {H : Heap} {locs : List Loc} {cells slots : Nat} {Q : State → Prop}
variable {cc : ByteArray} {pc nL : Nat} {ls : Array Slot} {G : am_G} {h0 h h' : ah_H} {d n index maxL : Nat} {Ts : List Cond} {own : String} {y : MethodName} {bytes : ByteArray} {ret : Option FieldType} {as st : List AV} {rv : Option AV}
theorem as_cIN (S : CallFix p m c cc nL s args Ts own) {a : Nat} {host : String} (hret : ret = none) (hM : am_Met G l y (Cond.code y bytes maxL ret :: Ts) d (.inr (.inr (some a)) :: as) h rv h') (hGd : GoodIn Ts (Cond.code y bytes maxL ret :: Ts)) (hini : Cond.initialized y.cls ∈ Ts) (hlink : (own, index, y, host) ∈ G.2.2.2.2.2.1) (hinst : Cond.instanceMethod y ∈ Ts) (hy1 : y.name = "<init>")
    (hd : y.cls ≠ "java/lang/invoke/MethodHandle" ∧ y.cls ≠ "java/lang/invoke/VarHandle" ∧ (parseMethodDescriptor y.desc).map (fun d => d.parameters.length) = some n) (hmax : maxL ≤ 22) (hRm : am_Rm G R s (d + 1) h0) (hK : ar_K G.1 G.2.1 G.2.2.1 s) (hX : ar_X G s) (hR : ar_H G.1 G.2.1 G.2.2.1 G.2.2.2.1 G.2.2.2.2.1 (am_B G) h H)
    (hn : as.length = n) (hsize : ls.size = nL) (hwt : ah_wt st ≤ 8) (hdg : decode cc pc = .ok (.invokespecial index, 3)) (hL : ∀ q ∈ locs, am_free G h0 h q.base) (h00 : h0.2.2.2 ≤ h.2.2.2)
    (kk : ∀ (H' : Heap) (locs' : List Loc) (cells slots : Nat), ar_H G.1 G.2.1 G.2.2.1 G.2.2.2.1 G.2.2.2.2.1 (am_B G) h' H' → (∀ q ∈ locs', am_free G h0 h' q.base) → h0.2.2.2 ≤ h'.2.2.2 → W p l e R s m args below meth c H' locs' cells slots Q (F0 m (pc + 3) ls ((rv.map toV).toList ++ st.map toV))) : W p l e R s m args below meth c H locs cells slots Q (F0 m pc ls ((as.reverse ++ .inr (.inr (some a)) :: st).map toV)) := by
  subst hret
  refine am_fits hRm hR (fun hf => ?_)
  have hts := S.2.2.2.2
  exact as_back (va_Run.run (va_runIN (As := as.map toV) (rest := st.map toV) S hM ⟨va_cnB n hts hGd rfl rfl rfl (hX.1 _ hlink) (hts _ hini) hd (am_room hRm.2.2.1 hRm.2.2.2.1 hmax), hy1, hts _ hinst⟩ ⟨am_blind G _ h, am_pre hK hX hR _⟩ rfl (by simpa using hn) hsize (by simp [toV, va_rf]) (lv_room (by rw [← ah_wt_eq]; exact hwt)) hdg hf)) hL h00 kk
end ACn
theorem ah_pop_eq : ∀ (n : Nat) (acc st as st' : List AV), ah_pop n acc st = some (as, st') → ∃ bs, as = bs ++ acc ∧ st = bs.reverse ++ st' ∧ bs.length = n
  | 0, acc, st, as, st', h => by cases h; exact ⟨[], rfl, rfl, rfl⟩
  | n + 1, acc, [], as, st', h => by cases h
  | n + 1, acc, v :: st, as, st', h => by
    obtain ⟨bs, h1, h2, h3⟩ := ah_pop_eq n (v :: acc) st as st' h
    exact ⟨bs ++ [v], by rw [h1]; simp, by rw [h2]; simp, by simp [h3]⟩
