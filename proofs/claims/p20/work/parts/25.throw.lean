/-! THROWING -/
theorem same_old {s t : State} {k n : Nat} (h : s.sameButNew t [] k n) : ∀ q : Nat, q < s.heap.size → t.heap[q]? = s.heap[q]? := by
  intro q hq
  obtain ⟨c', h1, h2, h3, h4⟩ := h.2.2.2.2.2 q _ (Array.getElem?_eq_getElem hq)
  rw [h1, Array.getElem?_eq_getElem hq]
  congr 1
  rw [h2]
  have h5 : c'.slots = (s.heap[q]).slots := by
    apply Array.ext_getElem?
    intro i
    exact h4 i (fun g => by cases g)
  rw [h5]
/-- the exception is known -/
def am_xk (G : am_G) (ka : Nat × Nat) (h' : ah_H) : Prop := ∃ E ws, (ka.1, E) ∈ am_exc G ∧ 200 ≤ ka.1 ∧ h'.1 ka.2 = some (ka.1, ws)
def MQT (G : am_G) (below : List Frame) (s : State) (h0 : ah_H) (ka : Nat × Nat) (h' : ah_H) : State → Prop := fun t => t.status = .running ∧ Ended t below (.threw ka.2) ∧ (am_xk G ka h' ∧ am_ok G h' t) ∧ s.WarmedH t.vm ∧ s.sameButNew ({ t with vm := s.vm } : State) [] (G.2.2.2.1.1 - h0.2.1) (G.2.2.2.1.2 - h0.2.2.1)
section ATh
variable {p : Program} {l : Launch} {e : Env} {R : Room} {s : State} {m : MethodId} {args : Array Value} {below : List Frame} {meth : Method} {c : Code} {H : Heap} {locs : List Loc} {cells slots : Nat}
variable {G : am_G} {Ts : List Cond} {own mn : String} {mrt : Nat} {cc : ByteArray} {nL d pc : Nat} {h0 h : ah_H} {ls : Array Slot} {L : ah_L}
theorem as_ldcw {T : State} (X : Stand p l e R s m args below meth c T locs cells slots) (hexec : p.tables.exec = Jvm.exec) {own text : String} {index : Nat} {a : Addr} (hown : s.vm.findClass own = some m.cls)
    (hconst : (Cond.stringRef own index text).before args s = true) (hev : (Term.string own index).eval args s none [] s = some (.ref a)) {g : JFrame} (hg : g.method = m) (hdg : decode c.code g.pc = .ok (.ldc_w index, 3)) :
    ∀ target, Steps p.tables e below (T.setTop { g with pc := g.pc + 3, stack := .ref a :: g.stack }) target → Steps p.tables e below (T.setTop g) target := by
  obtain ⟨k, cf, i, a', hk, hcf, hcp, -, hr, hev'⟩ := Cond.stringRef_spec hown hconst
  cases hev.symm.trans hev'
  obtain ⟨k', hk', he⟩ := X.warmed.alike.2.2 _ _ hk
  have hr' : k'.resolved[index]? = some (some (.string a)) := by
    rcases X.warmed.entry hk hk' index with h | ⟨h, -⟩
    · rw [h]; exact hr
    · rw [hr] at h; cases h
  intro target hrest
  subst hg
  jvm_step X.here [hexec, hdg, ldc_w.wp_string (e := e) (s := T) (f := g) X.here.top hk' (by rw [he]; exact hcf) hcp hr']
  exact hrest
/-- a String constant, by ldc or by ldc_w -/
theorem as_ldS {Q : State → Prop} {rest : List Value} (hexec : p.tables.exec = Jvm.exec) (hb : c.code = cc) {own tx : String} {index q wd : Nat} (hown : s.vm.findClass own = some m.cls) (hZ : vk_R own index tx q s) (hdg : (wd = 2 ∧ decode cc pc = .ok (.ldc index, 2)) ∨ (wd = 3 ∧ decode cc pc = .ok (.ldc_w index, 3)))
    (k : W p l e R s m args below meth c H locs cells slots Q (F0 m (pc + wd) ls (.ref q :: rest))) : W p l e R s m args below meth c H locs cells slots Q (F0 m pc ls rest) := by
  rcases hdg with ⟨rfl, hdg⟩ | ⟨rfl, hdg⟩
  · exact va_ldcS hexec hb hown hZ hdg k
  · intro T hT X
    obtain ⟨t, a1, b1⟩ := k T hT X
    exact ⟨t, as_ldcw X hexec hown (text := tx) (a := q) hZ.1 hZ.2 (g := F0 m pc ls rest) rfl (by rw [hb]; exact hdg) t a1, b1⟩
set_option maxHeartbeats 1000000 in
theorem as_throw (hS : am_S G Ts own mn mrt p R s m args meth c cc nL d h0) (hfl : l.stackTraces = false) (hBs : (am_B G).size = G.2.2.2.2.1) {k kd ic si wd : Nat} {E tx : String} {names : List String} (hexk : (kd, E) ∈ am_exc G) (h200 : 200 ≤ kd) (hfit : Bundle.fit E = true) (hnames : ∀ x ∈ names, Bundle.fit x = true) (hnl : names.length ≤ 3)
    (hat : ∀ a ∈ Bundle.ownAtoms own ic E names, a ∈ Ts ∨ (∃ q ∈ am_sta G, a = .laysStatic q.1 q.2.1 q.2.2 ∨ a = .isRef (.static q.1 q.2.1 q.2.2)) ∨ (∃ q ∈ am_exc G, a = .castable q.2 q.2) ∨ ∃ q ∈ am_dec G, a = .declares q)
    (hcl : Cond.classLink own k E ∈ Ts) (hinst : Cond.instantiable E 6 ∈ Ts) (hini : Cond.initialized E ∈ Ts) (hstr : (own, si, tx) ∈ am_str G)
    (d0 : decode cc pc = .ok (.new k, 3)) (d3 : decode cc (pc + 3) = .ok (.dup, 1)) (d4 : (wd = 2 ∧ decode cc (pc + 4) = .ok (.ldc si, 2)) ∨ (wd = 3 ∧ decode cc (pc + 4) = .ok (.ldc_w si, 3))) (d6 : decode cc (pc + 4 + wd) = .ok (.invokespecial ic, 3)) (d9 : decode cc (pc + 4 + wd + 3) = .ok (.athrow, 1)) (hnh : c.exceptionTable.isEmpty = true)
    (hlen : L.length = nL) (hl : al_has ls L) (hR : ar_H G.1 G.2.1 G.2.2.1 G.2.2.2.1 G.2.2.2.2.1 (am_B G) h H) (hh0 : h0.2.1 = s.heap.size) (hL : ∀ q ∈ locs, am_free G h0 h q.base) (hcnt : h.2.2.2 = h0.2.2.2) (hnx : h.2.1 = h0.2.1) (hroom : h.2.1 < G.2.2.2.1.1 ∧ h.2.2.1 + 6 ≤ G.2.2.2.1.2) :
    W p l e R s m args below meth c H locs cells slots (MQT G below s h0 (kd, h.2.1) (ah_new h (kd, []) 6)) (F0 m pc ls []) := by
  obtain ⟨S, hrt, hlocks, hname, hRm, hK, hX⟩ := id hS
  obtain ⟨hx, hb, hml, hown, hts⟩ := id S
  obtain ⟨r1, r2, r3, r4, r5, r6⟩ := id hRm
  obtain ⟨t1, t2, t3, t4, t5, t6⟩ := id hR
  have hlocs : locs = [] := by
    cases locs with
    | nil => rfl
    | cons q l =>
      have := (hL q List.mem_cons_self).2
      omega
  subst hlocs
  refine ar_tight r1 r2 t3 (fun z1 z2 => ?_)
  refine W.newc hx hb hown (hts _ hcl) (hts _ hinst) (hts _ hini) rfl d0 (by omega) (by omega) fun cX kX f1 f2 f3 f4 => ?_
  refine lv_dup (pc := pc + 3) hx hb d3 rfl ?_
  obtain ⟨sa, hsa⟩ := hX.2.2.1 _ hstr
  refine as_ldS (pc := pc + 4) hx hb hown hsa d4 ?_
  intro T hT X
  have htr : e.platform.stackTraces = false := by rw [X.admits.platform]; exact hfl
  have hBag : ∀ i : Nat, i < (am_B G).size → s.heap[i]? = (am_B G)[i]? := by
    intro i hi
    rw [← t1.2 i (by omega)]
    have h9 := same_old X.same i (by omega)
    have h8 : (T.setVm s.vm).heap[i]? = H[i]? := by
      show T.heap[i]? = _
      rw [hT, Array.getElem?_push, if_neg (by omega)]
    rw [← h9, h8]
  have hatoms : ∀ a ∈ Bundle.ownAtoms own ic E names, a.before args s = true := by
    intro a ha
    rcases hat a ha with q | ⟨q, q1, q2⟩ | ⟨q, q1, q2⟩ | ⟨q, q1, q2⟩
    · exact hts a q
    · have h9 := hX.2.2.2.1 q q1
      obtain ⟨g1, g2⟩ := ar_sta_at (A := args) hBag h9.1 h9.2
      rcases q2 with rfl | rfl
      · exact g1
      · exact g2
    · rw [q2]
      exact (hX.2.2.2.2.1 q q1).1
    · rw [q2]
      exact va_Nw.use rfl (hX.2.2.2.2.2 q q1)
  obtain ⟨U, u1, u2, u3, u4, u5, ce, u6, u7⟩ := X.ctorThrowS (W := T) hx htr hown hfit hnames hatoms (fun x hx => by cases hx) (a := H.size) f1 f2 (by rw [hT]; simp) z1 (msg := .ref sa) rfl (g := F0 m (pc + 4 + wd) ls [.ref sa, .ref H.size, .ref H.size]) rfl (by rw [hml]; exact hl.1.trans hlen) rfl rfl rfl (by rw [hb]; exact d6) (by rw [hb]; exact d9) (fun x hx => by
      have : c.exceptionTable = #[] := by simpa using hnh
      rw [this] at hx; cases hx) (by omega) (by
      show 2 * 0 + ((Value.ref H.size :: ([] : List Value)).map fun v => v.category).sum + (13 * (names.length + 1) + 42) ≤ R.locals
      simp [Value.category]; omega) hlocks
  have hsz : U.heap.size = H.size + 1 := by
    have g1 : U.heap.size ≤ s.heap.size + (H.size - s.heap.size + 1) := u5.2.2.1
    have g2 := (Array.getElem?_eq_some_iff.mp u6).1
    omega
  have hU : U.heap = H.push ce := by
    apply Array.ext_getElem?
    intro i
    by_cases hi : i < H.size
    · rw [Array.getElem?_push, if_neg (by omega)]
      have g1 : U.heap[i]? = s.heap[i]? := same_old u5 i (by omega)
      have g2 := same_old X.same i (by omega)
      have g3 : (T.setVm s.vm).heap[i]? = H[i]? := by
        show T.heap[i]? = _
        rw [hT, Array.getElem?_push, if_neg (by omega)]
      rw [g1, ← g2, g3]
    · by_cases hi2 : i = H.size
      · rw [hi2, u6]; simp
      · rw [Array.getElem?_eq_none (by omega), Array.getElem?_eq_none (by simp; omega)]
  have hce : ce.cls = G.2.2.1.2.2 kd := Option.some.inj (u7.cls.symm.trans (hX.2.2.2.2.1 _ hexk).2.1)
  have hRn := hR.push (o := (kd, [])) (cell := ce) (by rw [u7.size]; exact hroom) (Or.inr (Or.inr ⟨h200, u7.vm, hce⟩))
  rw [u7.size, ← hU] at hRn
  refine ⟨U, u1, u2, by rw [← t2]; exact u3, ⟨⟨E, [], hexk, h200, by show (if h.2.1 = h.2.1 then _ else _) = _; rw [if_pos rfl]⟩, hRn, ar_K.moved u4.alike hK, hX.warm u4⟩, u4, u5.mono (by omega) (by omega)⟩
end ATh
