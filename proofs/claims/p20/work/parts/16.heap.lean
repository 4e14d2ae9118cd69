/-! INSTRUCTIONS OF THE HEAP -/
def ar_K (cl : List vw_C) (ak : List (Nat × FieldType)) (D : ar_D) (U : State) : Prop := (∀ (c : Nat) (q : vw_C), cl[c]? = some q → u_Kn U q.1 q.2.1 q.2.2 (D.1 c) (D.2.1 c)) ∧ ∀ (kd : Nat) (ty : FieldType), (kd, ty) ∈ ak → ArrOfT U (D.2.2 kd) ty ∧ (kd ≠ 104 → va_RA U (D.2.2 kd) ty)
theorem ar_K.arr {cl : List vw_C} {ak : List (Nat × FieldType)} {D : ar_D} {U : State} (h : ar_K cl ak D U) {kd : Nat} {ty : FieldType} (hm : (kd, ty) ∈ ak) : ArrOfT U (D.2.2 kd) ty ∧ (kd ≠ 104 → va_RA U (D.2.2 kd) ty) := h.2 kd ty hm
theorem ar_K.moved {cl : List vw_C} {ak : List (Nat × FieldType)} {D : ar_D} {u U : State} (hvm : u.vm.Alike U.vm) (h : ar_K cl ak D u) : ar_K cl ak D U := ⟨fun c q hq => u_Kn_moved hvm (h.1 c q hq), fun kd ty hm => ⟨arrOfT_moved hvm (h.2 kd ty hm).1, fun hn => ((h.2 kd ty hm).2 hn).moved hvm⟩⟩
theorem ar_K.va {cl : List vw_C} {ak : List (Nat × FieldType)} {D : ar_D} {U : State} (h : ar_K cl ak D U) : va_K (D.1, D.2.1) cl [] U := ⟨h.1, fun k q h => by simp at h⟩
/-- an array's cell -/
theorem ar_arrV (cA : ClassId) (vs : List AV) : ∃ z : Nat → Value, ({ cls := cA, slots := (vs.map toV).toArray, vm := .none } : Cell) = arrV cA vs.length z := by
  refine ⟨fun j => ((vs.map toV)[j]?).getD .null, ?_⟩
  unfold arrV
  congr 1
  apply Array.ext
  · simp
  · intro j h1 h2
    simp at h1
    simp [h1]
theorem va_rf_inj {a b : Option Nat} (h : va_rf a = va_rf b) : a = b := by
  cases a <;> cases b <;> first | rfl | (cases h; done) | (cases h; rfl)
section AHp
variable {p : Program} {l : Launch} {e : Env} {R : Room} {s : State} {m : MethodId} {args : Array Value} {below : List Frame} {meth : Method} {c : Code} {H : Heap} {locs : List Loc} {cells slots : Nat} {Q : State → Prop}
variable {cc : ByteArray} {pc : Nat} {ls : Array Slot} {rest : List Value} {cl : List vw_C} {ak : List (Nat × FieldType)} {D : ar_D} {lim : Nat × Nat} {b : Nat} {B : Heap} {h : ah_H}
theorem as_getf (hx : p.tables.exec = Jvm.exec) (hb : c.code = cc) {own C : String} {T : u_T} {N kd index k : Nat} {Ts : List Cond} (hts : ∀ w ∈ Ts, w.before args s = true) (hin : ∀ w ∈ u_ws C T N, w ∈ Ts) (hown : s.vm.findClass own = some m.cls) (hK : ar_K cl ak D s) (hR : ar_H cl ak D lim b B h H) {a : Nat} {vs : List AV} (ho : h.1 a = some (kd, vs)) (hkd : kd < 100) (hc : cl[kd]? = some (C, T, N)) (hk : k < N) (hC : (T k).1 = C) (hlink : (Cond.fieldLink own index C (T k).2.1 (T k).2.2.1).before args s = true) {v : AV} (hv : vs[k]? = some v) (hdg : decode cc pc = .ok (.getfield index, 3))
    (kk : W p l e R s m args below meth c H locs cells slots Q (F0 m (pc + 3) ls (toV v :: rest))) : W p l e R s m args below meth c H locs cells slots Q (F0 m pc ls (.ref a :: rest)) := by
  obtain ⟨-, cell, h1, h2⟩ := hR.2.2.2.2.2 a _ ho
  rcases h2 with ⟨-, h3, r, h4, h5, h6, h7⟩ | ⟨h3, -⟩ | ⟨h3, -⟩
  · obtain ⟨hS, hfc, kC, hkC, hkind⟩ := hK.1 kd _ hc
    obtain ⟨cf, kf, fi, f, hi, hsl⟩ := hS k hk
    dsimp only at hi
    rw [hC] at hi
    refine W.getf hx hb hown hlink hi (u_facts hfc hkC (u_lays hts hin hk) (by rw [hC]; exact hi)).1 h1 (by rw [h3]; exact fun h => by cases h) (v := toV v) ?_ rfl rfl hdg kk
    rw [hsl]
    exact h7 k v hv
  · exact absurd hkd (by dsimp only at h3; omega)
  · exact absurd hkd (by dsimp only at h3; omega)
/-- an object's cell with another value at a field -/
theorem ar_set {own C : String} {T : u_T} {N kd k : Nat} {Ts : List Cond} (hts : ∀ w ∈ Ts, w.before args s = true) (hin : ∀ w ∈ u_ws C T N, w ∈ Ts) (ty : Nat → FieldType) (hty : ∀ k, k < N → parseFieldDescriptor (T k).2.2.1 = some (ty k)) (hnm : ∀ a, a < N → ∀ b, b < N → a ≠ b → (T a).2.1 ≠ (T b).2.1) (hK : ar_K cl ak D s) (hkd : kd < 100) (hc : cl[kd]? = some (C, T, N)) (hk : k < N) {vs : List AV} {cell : Cell} (hC : ar_C cl ak D (kd, vs) cell) (v : AV) : cell.vm = .none ∧ cell.cls = D.1 kd ∧ k < vs.length ∧ D.2.1 kd k < cell.slots.size ∧ ar_C cl ak D (kd, vs.set k v) (cell.setSlot (D.2.1 kd k) (toV v)) := by
  have hap := va_apart (D := (D.1, D.2.1)) (own := own) hts hin ty hty hnm hK.va hc
  rcases hC with ⟨-, h3, r, h4, h5, h6, h7⟩ | ⟨h3, -⟩ | ⟨h3, -⟩
  · dsimp only at h4 h5 h6 h7
    rw [hc] at h4
    cases h4
    dsimp only at h6
    have hkl : k < vs.length := by omega
    refine ⟨h3, h5, hkl, k2_hasslot (h7 k _ (List.getElem?_eq_getElem hkl)), Or.inl ⟨hkd, ?_, _, hc, ?_, ?_, ?_⟩⟩
    · simpa [Cell.setSlot] using h3
    · simpa [Cell.setSlot] using h5
    · dsimp only; rw [List.length_set]; exact h6
    · intro j w hj
      dsimp only at hj
      have hjl : j < vs.length := by
        have := (List.getElem?_eq_some_iff.mp hj).1
        simpa using this
      have h8 := t_set (N := N) (iS := D.2.1 kd) (V := fun j => ((vs[j]?).map toV).getD .null) (cell := cell) (fun q hq => by
        have hql : q < vs.length := by omega
        rw [h7 q _ (List.getElem?_eq_getElem hql)]
        simp [hql]) hap hk (toV v) j (by omega)
      rw [h8]
      congr 1
      unfold updV
      by_cases q : j = k
      · subst q
        rw [if_pos rfl]
        rw [List.getElem?_set_self hjl] at hj
        cases hj; rfl
      · rw [if_neg q]
        rw [List.getElem?_set_ne (fun z => q z.symm)] at hj
        dsimp only
        rw [hj]; rfl
  · exact absurd hkd (by dsimp only at h3; omega)
  · exact absurd hkd (by dsimp only at h3; omega)
theorem as_putf (hx : p.tables.exec = Jvm.exec) (hb : c.code = cc) {own C : String} {T : u_T} {N kd index k : Nat} {Ts : List Cond} (hts : ∀ w ∈ Ts, w.before args s = true) (hin : ∀ w ∈ u_ws C T N, w ∈ Ts) (ty : Nat → FieldType) (hty : ∀ k, k < N → parseFieldDescriptor (T k).2.2.1 = some (ty k)) (hnm : ∀ a, a < N → ∀ b, b < N → a ≠ b → (T a).2.1 ≠ (T b).2.1) (hown : s.vm.findClass own = some m.cls) (hK : ar_K cl ak D s) (hR : ar_H cl ak D lim b B h H) {a : Nat} {vs : List AV} (ho : h.1 a = some (kd, vs)) (hkd : kd < 100) (hc : cl[kd]? = some (C, T, N)) (hk : k < N) (hC : (T k).1 = C) (hlink : (Cond.fieldLink own index C (T k).2.1 (T k).2.2.1).before args s = true) {v : AV} (hfin : (T k).2.2.2 = true → meth.name = "<init>" ∧ C = own) (hn : narrow (ty k) (toV v) = toV v) (hfit : fits (ty k) (toV v) = true) (hdg : decode cc pc = .ok (.putfield index, 3))
    (kk : ∀ (H' : Heap) (i : Nat), ar_H cl ak D lim b B (ah_up h a (kd, vs.set k v)) H' → W p l e R s m args below meth c H' (locs ++ [⟨a, i⟩]) cells slots Q (F0 m (pc + 3) ls rest)) : W p l e R s m args below meth c H locs cells slots Q (F0 m pc ls (toV v :: .ref a :: rest)) := by
  obtain ⟨hba0, cell, h1, h2⟩ := hR.2.2.2.2.2 a _ ho
  have hba := hba0 (by show kd ≠ 104; omega)
  obtain ⟨e1, e2, e3, e4, e5⟩ := ar_set (own := own) hts hin ty hty hnm hK hkd hc hk h2 v
  obtain ⟨hS, hfc, kC, hkC, hkind⟩ := hK.1 kd _ hc
  obtain ⟨cf, kf, fi, f, hi, hsl⟩ := hS k hk
  dsimp only at hi hsl
  have hi' := hi
  rw [hC] at hi'
  have hst := (u_facts hfc hkC (u_lays hts hin hk) hi).1
  have hlay := hts _ (hin _ (u_in_lay hk))
  unfold u_lay at hlay
  have fin : ∀ H' : Heap, H'[a]? = some (cell.setSlot f.slot (toV v)) → H'.size = H.size → (∀ q, q ≠ a → H'[q]? = H[q]?) → W p l e R s m args below meth c H' (locs ++ [⟨a, f.slot⟩]) cells slots Q (F0 m (pc + 3) ls rest) := by
    intro H' g1 g2 g3
    refine kk H' f.slot (hR.up hba h1 g2 g3 g1 (k2_slotsz _ _ _) ?_)
    rw [hsl]; exact e5
  by_cases hf : (T k).2.2.2 = true
  · rw [if_pos hf] at hlay
    obtain ⟨f1, f2⟩ := hfin hf
    have hcf : m.cls = cf := by
      obtain ⟨_, _, c', _, _, _, -, -, hf', -, -, -, hown2, -⟩ := Cond.laysFinal_spec hlay
      have e1 : c' = cf := by have := hi.symm.trans hf'; simp at this; exact this.1.symm
      rw [hC, f2] at hown2
      rw [← e1]; exact Option.some.inj (hown.symm.trans hown2)
    exact W.putFinK hx hb hown hlink hi' hst hcf f1 (by rw [e2]; exact u_fits hfc hkC hkind (Or.inr hlay) hi (hty k hk) hn hfit) h1 e1 (by rw [hsl]; exact e4) rfl rfl hdg fin
  · rw [if_neg hf] at hlay
    exact W.putK hx hb (f := f) ⟨hown, hlink, ⟨_, _, _, hi'⟩, hst⟩ (by rw [e2]; exact u_store hfc hkC hkind hlay hi (hty k hk) hn hfit) h1 e1 (by rw [hsl]; exact e4) rfl rfl hdg fin
/-- an array's cell in the machine's heap -/
theorem ar_cellA (hK : ar_K cl ak D s) (hR : ar_H cl ak D lim b B h H) {a kd : Nat} {vs : List AV} (ho : h.1 a = some (kd, vs)) (h1 : 100 ≤ kd) (h2 : kd < 200) : (kd ≠ 104 → b ≤ a) ∧ ∃ (cell : Cell) (ty : FieldType), (kd, ty) ∈ ak ∧ H[a]? = some cell ∧ ((∀ k, cell.vm ≠ .statics k) ∧ cell.vm ≠ .unknown ∧ (kd ≠ 104 → cell.vm = .none)) ∧ cell.cls = D.2.2 kd ∧ cell.slots = (vs.map toV).toArray ∧ ∀ ty, (kd, ty) ∈ ak → s.isArrayOf cell ty := by
  obtain ⟨hba, cell, h3, h4⟩ := hR.2.2.2.2.2 a _ ho
  rcases h4 with ⟨h5, -⟩ | ⟨-, -, ⟨ty, hty⟩, h5, h6, h7⟩ | ⟨h5, -⟩
  · exact absurd h1 (by dsimp only at h5; omega)
  · refine ⟨hba, cell, ty, hty, h3, h5, h6, h7, fun ty' hty' => ?_⟩
    obtain ⟨z, hz⟩ := ar_arrV (D.2.2 kd) vs
    have h8 := (hK.arr hty').1 vs.length z
    rw [← hz] at h8
    obtain ⟨g1, g2⟩ := h8
    dsimp only at g1 g2 h6
    exact ⟨h5.1, by rw [h6]; exact g2⟩
  · exact absurd h2 (by dsimp only at h5; omega)
theorem as_alen (hx : p.tables.exec = Jvm.exec) (hb : c.code = cc) (hK : ar_K cl ak D s) (hR : ar_H cl ak D lim b B h H) {a kd : Nat} {vs : List AV} (ho : h.1 a = some (kd, vs)) (h1 : 100 ≤ kd) (h2 : kd < 200) (hdg : decode cc pc = .ok (.arraylength, 1))
    (kk : W p l e R s m args below meth c H locs cells slots Q (F0 m (pc + 1) ls (.int (Nat.toInt32 vs.length) :: rest))) : W p l e R s m args below meth c H locs cells slots Q (F0 m pc ls (.ref a :: rest)) := by
  obtain ⟨-, cell, ty, hty, h3, h4, h5, h6, h7⟩ := ar_cellA hK hR ho h1 h2
  refine W.alen hx hb h3 (h7 ty hty) (n := Nat.toInt32 vs.length) ?_ rfl rfl hdg kk
  rw [h6]; simp
theorem ar_in {vs : List AV} {cell : Cell} (h6 : cell.slots = (vs.map toV).toArray) {j : Int32} (hj : ¬ j < 0) {v : AV} (hv : vs[j.toNatClampNeg]? = some v) : ¬ (j < 0 ∨ cell.slots.size ≤ j.toNatClampNeg) ∧ cell.slots[j.toNatClampNeg]? = some (toV v) := by
  have hlt := (List.getElem?_eq_some_iff.mp hv).1
  refine ⟨?_, ?_⟩
  · rintro (q | q)
    · exact hj q
    · rw [h6] at q; simp at q; omega
  · rw [h6]
    simp [hv]
theorem as_iald (hx : p.tables.exec = Jvm.exec) (hb : c.code = cc) (hK : ar_K cl ak D s) (hR : ar_H cl ak D lim b B h H) {a : Nat} {vs : List AV} (ho : h.1 a = some (100, vs)) (hm : (100, FieldType.int) ∈ ak) {j : Int32} (hj : ¬ j < 0) {v : AV} (hv : vs[j.toNatClampNeg]? = some v) (hdg : decode cc pc = .ok (.iaload, 1))
    (kk : W p l e R s m args below meth c H locs cells slots Q (F0 m (pc + 1) ls (toV v :: rest))) : W p l e R s m args below meth c H locs cells slots Q (F0 m pc ls (.int j :: .ref a :: rest)) := by
  obtain ⟨-, cell, ty, hty, h3, h4, h5, h6, h7⟩ := ar_cellA hK hR ho (by omega) (by omega)
  obtain ⟨g1, g2⟩ := ar_in h6 hj hv
  exact W.iald hx hb h3 (h7 _ hm) h4.2.1 g1 g2 rfl rfl hdg kk
theorem as_sald (hx : p.tables.exec = Jvm.exec) (hb : c.code = cc) (hK : ar_K cl ak D s) (hR : ar_H cl ak D lim b B h H) {a : Nat} {vs : List AV} (ho : h.1 a = some (104, vs)) (hm : (104, FieldType.int) ∈ ak) {j : Int32} (hj : ¬ j < 0) {v : AV} (hv : vs[j.toNatClampNeg]? = some v) (hdg : decode cc pc = .ok (.iaload, 1))
    (kk : W p l e R s m args below meth c H locs cells slots Q (F0 m (pc + 1) ls (toV v :: rest))) : W p l e R s m args below meth c H locs cells slots Q (F0 m pc ls (.int j :: .ref a :: rest)) := by
  obtain ⟨-, cell, ty, hty, h3, h4, h5, h6, h7⟩ := ar_cellA hK hR ho (by omega) (by omega)
  obtain ⟨g1, g2⟩ := ar_in h6 hj hv
  exact W.iald hx hb h3 (h7 _ hm) h4.2.1 g1 g2 rfl rfl hdg kk
theorem as_lald (hx : p.tables.exec = Jvm.exec) (hb : c.code = cc) (hK : ar_K cl ak D s) (hR : ar_H cl ak D lim b B h H) {a : Nat} {vs : List AV} (ho : h.1 a = some (101, vs)) (hm : (101, FieldType.long) ∈ ak) {j : Int32} (hj : ¬ j < 0) {v : AV} (hv : vs[j.toNatClampNeg]? = some v) (hdg : decode cc pc = .ok (.laload, 1))
    (kk : W p l e R s m args below meth c H locs cells slots Q (F0 m (pc + 1) ls (toV v :: rest))) : W p l e R s m args below meth c H locs cells slots Q (F0 m pc ls (.int j :: .ref a :: rest)) := by
  obtain ⟨-, cell, ty, hty, h3, h4, h5, h6, h7⟩ := ar_cellA hK hR ho (by omega) (by omega)
  obtain ⟨g1, g2⟩ := ar_in h6 hj hv
  exact W.lald hx hb h3 (h7 _ hm) h4.2.1 g1 g2 rfl rfl hdg kk
theorem as_zald (hx : p.tables.exec = Jvm.exec) (hb : c.code = cc) (hK : ar_K cl ak D s) (hR : ar_H cl ak D lim b B h H) {a : Nat} {vs : List AV} (ho : h.1 a = some (102, vs)) (hm : (102, FieldType.boolean) ∈ ak) {j : Int32} (hj : ¬ j < 0) {v : AV} (hv : vs[j.toNatClampNeg]? = some v) (hdg : decode cc pc = .ok (.baload, 1))
    (kk : W p l e R s m args below meth c H locs cells slots Q (F0 m (pc + 1) ls (toV v :: rest))) : W p l e R s m args below meth c H locs cells slots Q (F0 m pc ls (.int j :: .ref a :: rest)) := by
  obtain ⟨-, cell, ty, hty, h3, h4, h5, h6, h7⟩ := ar_cellA hK hR ho (by omega) (by omega)
  obtain ⟨g1, g2⟩ := ar_in h6 hj hv
  exact W.zald hx hb h3 (h7 _ hm) h4.2.1 g1 g2 rfl rfl hdg kk
theorem as_bald (hx : p.tables.exec = Jvm.exec) (hb : c.code = cc) (hK : ar_K cl ak D s) (hR : ar_H cl ak D lim b B h H) {a : Nat} {vs : List AV} (ho : h.1 a = some (103, vs)) (hm : (103, FieldType.byte) ∈ ak) {j : Int32} (hj : ¬ j < 0) {v : AV} (hv : vs[j.toNatClampNeg]? = some v) (hdg : decode cc pc = .ok (.baload, 1))
    (kk : W p l e R s m args below meth c H locs cells slots Q (F0 m (pc + 1) ls (toV v :: rest))) : W p l e R s m args below meth c H locs cells slots Q (F0 m pc ls (.int j :: .ref a :: rest)) := by
  obtain ⟨-, cell, ty, hty, h3, h4, h5, h6, h7⟩ := ar_cellA hK hR ho (by omega) (by omega)
  obtain ⟨g1, g2⟩ := ar_in h6 hj hv
  exact W.bald hx hb h3 (h7 _ hm) h4.2.1 g1 g2 rfl rfl hdg kk
theorem as_aald (hx : p.tables.exec = Jvm.exec) (hb : c.code = cc) (hK : ar_K cl ak D s) (hR : ar_H cl ak D lim b B h H) (hak : ∀ kd ty, (kd, ty) ∈ ak → 110 ≤ kd → ∃ C, ty = .object C ∧ ∃ r, cl[kd - 110]? = some r ∧ r.1 = C) {a kd : Nat} {vs : List AV} (ho : h.1 a = some (kd, vs)) (h1 : 110 ≤ kd) (h2 : kd < 200) {j : Int32} (hj : ¬ j < 0) {v : AV} (hv : vs[j.toNatClampNeg]? = some v) (hdg : decode cc pc = .ok (.aaload, 1))
    (kk : W p l e R s m args below meth c H locs cells slots Q (F0 m (pc + 1) ls (toV v :: rest))) : W p l e R s m args below meth c H locs cells slots Q (F0 m pc ls (.int j :: .ref a :: rest)) := by
  obtain ⟨-, cell, ty, hty, h3, h4, h5, h6, h7⟩ := ar_cellA hK hR ho (by omega) (by omega)
  obtain ⟨g1, g2⟩ := ar_in h6 hj hv
  obtain ⟨C, rfl, -⟩ := hak _ _ hty h1
  exact W.aald hx hb h3 (h7 _ hty) rfl h4.2.1 g1 g2 rfl rfl hdg kk
/-- an array with another element -/
theorem ar_setA {a kd : Nat} {vs : List AV} {cell : Cell} (hR : ar_H cl ak D lim b B h H) (h1 : 100 ≤ kd) (h2 : kd < 200) (hba : b ≤ a) (hc : H[a]? = some cell) (hty : ∃ ty, (kd, ty) ∈ ak) (h4 : (∀ k, cell.vm ≠ .statics k) ∧ cell.vm ≠ .unknown ∧ (kd ≠ 104 → cell.vm = .none)) (h5 : cell.cls = D.2.2 kd) (h6 : cell.slots = (vs.map toV).toArray) (k : Nat) (v : AV) {H' : Heap} (e1 : H'[a]? = some (cell.setSlot k (toV v))) (e2 : H'.size = H.size) (e3 : ∀ q, q ≠ a → H'[q]? = H[q]?) : ar_H cl ak D lim b B (ah_up h a (kd, vs.set k v)) H' := by
  refine hR.up hba hc e2 e3 e1 (k2_slotsz _ _ _) (Or.inr (Or.inl ⟨h1, h2, hty, h4, h5, ?_⟩))
  show (cell.setSlot k (toV v)).slots = _
  unfold Cell.setSlot
  rw [h6]
  simp
theorem as_iast (hx : p.tables.exec = Jvm.exec) (hb : c.code = cc) (hK : ar_K cl ak D s) (hR : ar_H cl ak D lim b B h H) {a : Nat} {vs : List AV} (ho : h.1 a = some (100, vs)) (hm : (100, FieldType.int) ∈ ak) {j x : Int32} (hj : ¬ j < 0) (hl : j.toNatClampNeg < vs.length) (hdg : decode cc pc = .ok (.iastore, 1))
    (kk : ∀ (H' : Heap) (i : Nat), ar_H cl ak D lim b B (ah_up h a (100, vs.set j.toNatClampNeg (.inl x))) H' → W p l e R s m args below meth c H' (locs ++ [⟨a, i⟩]) cells slots Q (F0 m (pc + 1) ls rest)) : W p l e R s m args below meth c H locs cells slots Q (F0 m pc ls (.int x :: .int j :: .ref a :: rest)) := by
  obtain ⟨hba, cell, ty, hty, h3, h4, h5, h6, h7⟩ := ar_cellA hK hR ho (by omega) (by omega)
  obtain ⟨g1, -⟩ := ar_in h6 hj (List.getElem?_eq_getElem hl)
  exact W.iast hx hb h3 (h7 _ hm) h4.2.1 g1 rfl rfl hdg fun H' e1 e2 e3 => kk H' _ (ar_setA hR (by omega) (by omega) (hba (by omega)) h3 ⟨ty, hty⟩ h4 h5 h6 _ (.inl x) e1 e2 e3)
theorem as_last (hx : p.tables.exec = Jvm.exec) (hb : c.code = cc) (hK : ar_K cl ak D s) (hR : ar_H cl ak D lim b B h H) {a : Nat} {vs : List AV} (ho : h.1 a = some (101, vs)) (hm : (101, FieldType.long) ∈ ak) {j : Int32} {x : Int64} (hj : ¬ j < 0) (hl : j.toNatClampNeg < vs.length) (hdg : decode cc pc = .ok (.lastore, 1))
    (kk : ∀ (H' : Heap) (i : Nat), ar_H cl ak D lim b B (ah_up h a (101, vs.set j.toNatClampNeg (.inr (.inl x)))) H' → W p l e R s m args below meth c H' (locs ++ [⟨a, i⟩]) cells slots Q (F0 m (pc + 1) ls rest)) : W p l e R s m args below meth c H locs cells slots Q (F0 m pc ls (.long x :: .int j :: .ref a :: rest)) := by
  obtain ⟨hba, cell, ty, hty, h3, h4, h5, h6, h7⟩ := ar_cellA hK hR ho (by omega) (by omega)
  obtain ⟨g1, -⟩ := ar_in h6 hj (List.getElem?_eq_getElem hl)
  exact W.last hx hb h3 (h7 _ hm) h4.2.1 g1 rfl rfl hdg fun H' e1 e2 e3 => kk H' _ (ar_setA hR (by omega) (by omega) (hba (by omega)) h3 ⟨ty, hty⟩ h4 h5 h6 _ (.inr (.inl x)) e1 e2 e3)
theorem as_zast (hx : p.tables.exec = Jvm.exec) (hb : c.code = cc) (hK : ar_K cl ak D s) (hR : ar_H cl ak D lim b B h H) {a : Nat} {vs : List AV} (ho : h.1 a = some (102, vs)) (hm : (102, FieldType.boolean) ∈ ak) {j x : Int32} (hx1 : x = 0 ∨ x = 1) (hj : ¬ j < 0) (hl : j.toNatClampNeg < vs.length) (hdg : decode cc pc = .ok (.bastore, 1))
    (kk : ∀ (H' : Heap) (i : Nat), ar_H cl ak D lim b B (ah_up h a (102, vs.set j.toNatClampNeg (.inl x))) H' → W p l e R s m args below meth c H' (locs ++ [⟨a, i⟩]) cells slots Q (F0 m (pc + 1) ls rest)) : W p l e R s m args below meth c H locs cells slots Q (F0 m pc ls (.int x :: .int j :: .ref a :: rest)) := by
  obtain ⟨hba, cell, ty, hty, h3, h4, h5, h6, h7⟩ := ar_cellA hK hR ho (by omega) (by omega)
  obtain ⟨g1, -⟩ := ar_in h6 hj (List.getElem?_eq_getElem hl)
  have hn : narrow .boolean (.int x) = toV (.inl x) := by rcases hx1 with rfl | rfl <;> rfl
  exact W.zast hx hb h3 (h7 _ hm) h4.2.1 g1 rfl rfl hdg fun H' e1 e2 e3 => kk H' _ (ar_setA hR (by omega) (by omega) (hba (by omega)) h3 ⟨ty, hty⟩ h4 h5 h6 _ (.inl x) (by rw [← hn]; exact e1) e2 e3)
theorem as_bast (hx : p.tables.exec = Jvm.exec) (hb : c.code = cc) (hK : ar_K cl ak D s) (hR : ar_H cl ak D lim b B h H) {a : Nat} {vs : List AV} (ho : h.1 a = some (103, vs)) (hm : (103, FieldType.byte) ∈ ak) {j x : Int32} (hj : ¬ j < 0) (hl : j.toNatClampNeg < vs.length) (hdg : decode cc pc = .ok (.bastore, 1))
    (kk : ∀ (H' : Heap) (i : Nat), ar_H cl ak D lim b B (ah_up h a (103, vs.set j.toNatClampNeg (.inl x.toInt8.toInt32))) H' → W p l e R s m args below meth c H' (locs ++ [⟨a, i⟩]) cells slots Q (F0 m (pc + 1) ls rest)) : W p l e R s m args below meth c H locs cells slots Q (F0 m pc ls (.int x :: .int j :: .ref a :: rest)) := by
  obtain ⟨hba, cell, ty, hty, h3, h4, h5, h6, h7⟩ := ar_cellA hK hR ho (by omega) (by omega)
  obtain ⟨g1, -⟩ := ar_in h6 hj (List.getElem?_eq_getElem hl)
  exact W.bast hx hb h3 (h7 _ hm) h4.2.1 g1 rfl rfl hdg fun H' e1 e2 e3 => kk H' _ (ar_setA hR (by omega) (by omega) (hba (by omega)) h3 ⟨ty, hty⟩ h4 h5 h6 _ (.inl x.toInt8.toInt32) e1 e2 e3)
theorem as_aast (hx : p.tables.exec = Jvm.exec) (hb : c.code = cc) (hK : ar_K cl ak D s) (hR : ar_H cl ak D lim b B h H) (hak : ∀ kd ty, (kd, ty) ∈ ak → 110 ≤ kd → ∃ C, ty = .object C ∧ ∃ r, cl[kd - 110]? = some r ∧ r.1 = C) {a kd : Nat} {vs ws : List AV} (ho : h.1 a = some (kd, vs)) (h1 : 110 ≤ kd) (h2 : kd < 200) {v : Nat} (hv : h.1 v = some (kd - 110, ws)) {j : Int32} (hj : ¬ j < 0) (hl : j.toNatClampNeg < vs.length) (hdg : decode cc pc = .ok (.aastore, 1))
    (kk : ∀ (H' : Heap) (i : Nat), ar_H cl ak D lim b B (ah_up h a (kd, vs.set j.toNatClampNeg (.inr (.inr (some v))))) H' → W p l e R s m args below meth c H' (locs ++ [⟨a, i⟩]) cells slots Q (F0 m (pc + 1) ls rest)) : W p l e R s m args below meth c H locs cells slots Q (F0 m pc ls (.ref v :: .int j :: .ref a :: rest)) := by
  obtain ⟨hba, cell, ty, hty, h3, h4, h5, h6, h7⟩ := ar_cellA hK hR ho (by omega) (by omega)
  obtain ⟨g1, -⟩ := ar_in h6 hj (List.getElem?_eq_getElem hl)
  obtain ⟨C, rfl, r, hr, hrC⟩ := hak _ _ hty h1
  obtain ⟨-, cellV, v1, v2⟩ := hR.2.2.2.2.2 v _ hv
  rcases v2 with ⟨-, v3, r', v4, v5, -⟩ | ⟨v3, -⟩ | ⟨v3, -⟩
  · dsimp only at v4 v5
    have hcls := (hK.1 (kd - 110) r hr).2
    obtain ⟨kA, comp, k1, k2, k3, -⟩ := (hK.arr hty).2 (by omega)
    rw [← hrC] at k3
    have hcomp : comp = D.1 (kd - 110) := Option.some.inj (k3.symm.trans hcls.1)
    subst hcomp
    obtain ⟨kC, hkC, -⟩ := hcls.2
    refine W.aast hx hb h3 (fun q h => h4.1 q h) h4.2.1 (by rw [h5]; exact k1) k2 rfl hkC ⟨hj, by rw [h6]; simpa using hl⟩ v1 (fun q h => by rw [v3] at h; cases h) (by rw [v5]; exact hkC) (by rw [v5]; exact va_assign hcls) rfl rfl hdg fun H' e1 e2 e3 => ?_
    exact kk H' _ (ar_setA hR (by omega) (by omega) (hba (by omega)) h3 ⟨_, hty⟩ h4 h5 h6 _ (.inr (.inr (some v))) e1 e2 e3)
  · dsimp only at v3; exact absurd v3 (by omega)
  · dsimp only at v3; exact absurd v3 (by omega)
theorem as_aastN (hx : p.tables.exec = Jvm.exec) (hb : c.code = cc) (hK : ar_K cl ak D s) (hR : ar_H cl ak D lim b B h H) (hak : ∀ kd ty, (kd, ty) ∈ ak → 110 ≤ kd → ∃ C, ty = .object C ∧ ∃ r, cl[kd - 110]? = some r ∧ r.1 = C) {a kd : Nat} {vs : List AV} (ho : h.1 a = some (kd, vs)) (h1 : 110 ≤ kd) (h2 : kd < 200) {j : Int32} (hj : ¬ j < 0) (hl : j.toNatClampNeg < vs.length) (hdg : decode cc pc = .ok (.aastore, 1))
    (kk : ∀ (H' : Heap) (i : Nat), ar_H cl ak D lim b B (ah_up h a (kd, vs.set j.toNatClampNeg (.inr (.inr none)))) H' → W p l e R s m args below meth c H' (locs ++ [⟨a, i⟩]) cells slots Q (F0 m (pc + 1) ls rest)) : W p l e R s m args below meth c H locs cells slots Q (F0 m pc ls (.null :: .int j :: .ref a :: rest)) := by
  obtain ⟨hba, cell, ty, hty, h3, h4, h5, h6, h7⟩ := ar_cellA hK hR ho (by omega) (by omega)
  obtain ⟨g1, -⟩ := ar_in h6 hj (List.getElem?_eq_getElem hl)
  obtain ⟨C, rfl, r, hr, hrC⟩ := hak _ _ hty h1
  exact va_WaastN (C := C) hx hb h3 (h7 _ hty) h4.2.1 g1 rfl rfl hdg fun H' e1 e2 e3 => kk H' _ (ar_setA hR (by omega) (by omega) (hba (by omega)) h3 ⟨_, hty⟩ h4 h5 h6 _ (.inr (.inr none)) e1 e2 e3)
end AHp
