/-! NEW OBJECTS AND ARRAYS -/
section AMk
variable {p : Program} {l : Launch} {e : Env} {R : Room} {s : State} {m : MethodId} {args : Array Value} {below : List Frame} {meth : Method} {c : Code} {H : Heap} {locs : List Loc} {cells slots : Nat} {Q : State → Prop}
variable {cc : ByteArray} {pc : Nat} {ls : Array Slot} {rest : List Value} {cl : List vw_C} {ak : List (Nat × FieldType)} {D : ar_D} {lim : Nat × Nat} {b k0 : Nat} {B : Heap} {h : ah_H}
theorem as_new (hx : p.tables.exec = Jvm.exec) (hb : c.code = cc) {own C : String} {T : u_T} {N kd index : Nat} {Ts : List Cond} (hts : ∀ w ∈ Ts, w.before args s = true) (hin : ∀ w ∈ u_ws C T N, w ∈ Ts) (ty : Nat → FieldType) (hty : ∀ k, k < N → parseFieldDescriptor (T k).2.2.1 = some (ty k)) (hown : s.vm.findClass own = some m.cls) (hcl : (Cond.classLink own index C).before args s = true) (hinst : (Cond.instantiable C N).before args s = true) (hini : (Cond.initialized C).before args s = true) (hK : ar_K cl ak D s) (hR : ar_H cl ak D lim b B h H) (hb0 : b ≤ s.heap.size) (h0 : ar_S b s.heap = k0) (hRc : lim.1 - s.heap.size ≤ R.cells) (hRs : lim.2 - k0 ≤ R.slots) (hkd : kd < 100) (hc : cl[kd]? = some (C, T, N)) {w : List AV} (hw : w.length = N) (hwv : ∀ j v, w[j]? = some v → toV v = defaultValue (ty j)) (hl : h.2.1 < lim.1 ∧ h.2.2.1 + w.length ≤ lim.2) (hdg : decode cc pc = .ok (.new index, 3))
    (kk : ∀ (H' : Heap) (cells slots : Nat), ar_H cl ak D lim b B (ah_new h (kd, w) w.length) H' → W p l e R s m args below meth c H' locs cells slots Q (F0 m (pc + 3) ls (.ref h.2.1 :: rest))) : W p l e R s m args below meth c H locs cells slots Q (F0 m pc ls rest) := by
  obtain ⟨r1, r2, r3, r4, r5, r6⟩ := id hR
  refine ar_tight hb0 h0 r3 (fun z1 z2 => ?_)
  refine W.newc hx hb hown hcl hinst hini rfl hdg (by omega) (by omega) fun cC kC f1 f2 f3 f4 => ?_
  have hKn := hK.1 kd _ hc
  have hcC : cC = D.1 kd := Option.some.inj (f1.symm.trans hKn.2.1)
  subst hcC
  generalize hcell : ({ cls := D.1 kd, slots := kC.instanceTypes.map defaultValue, vm := .none } : Cell) = cell
  have hz : cell.slots.size = w.length := by rw [← hcell]; simp [f4, hw]
  have hborn := u_born (o := 0) (H := #[cell]) ty hts hin hKn f2 (by rw [← hcell]; rfl) hty
  obtain ⟨cell', g1, g2, g3, g4⟩ := hborn
  have : cell' = cell := by simp at g1; exact g1.symm
  subst this
  show W p l e R s m args below meth c (H.push _) locs _ _ Q (F0 m (pc + 3) ls (.ref H.size :: rest))
  rw [r2]
  refine kk _ _ _ ?_
  rw [← hz]
  refine hR.push (by rw [hz]; exact hl) (Or.inl ⟨hkd, g3, _, hc, g2, hw, fun k v hv => ?_⟩)
  have hkN : k < N := by rw [← hw]; exact (List.getElem?_eq_some_iff.mp hv).1
  rw [g4 k hkN]
  show some (defaultValue (ty k)) = some (toV v)
  rw [hwv k v hv]
theorem as_newa (hx : p.tables.exec = Jvm.exec) (hb : c.code = cc) {at' : ArrayType} {kd : Nat} (harr : (Cond.arrayClass (newarray.typeOf at')).before args s = true) (hm : (kd, newarray.typeOf at') ∈ ak) (h1 : 100 ≤ kd) (h2 : kd < 200 ∧ kd ≠ 104) (hK : ar_K cl ak D s) (hR : ar_H cl ak D lim b B h H) (hb0 : b ≤ s.heap.size) (h0 : ar_S b s.heap = k0) (hRc : lim.1 - s.heap.size ≤ R.cells) (hRs : lim.2 - k0 ≤ R.slots) {v : AV} (hv : toV v = defaultValue (newarray.typeOf at')) {n : Int32} (hn : ¬ n < 0) (hby : n.toNatClampNeg * 8 ≤ 536870912) (hl : h.2.1 < lim.1 ∧ h.2.2.1 + n.toNatClampNeg ≤ lim.2) (hdg : decode cc pc = .ok (.newarray at', 2))
    (kk : ∀ (H' : Heap) (cells slots : Nat), ar_H cl ak D lim b B (ah_new h (kd, List.replicate n.toNatClampNeg v) n.toNatClampNeg) H' → W p l e R s m args below meth c H' locs cells slots Q (F0 m (pc + 2) ls (.ref h.2.1 :: rest))) : W p l e R s m args below meth c H locs cells slots Q (F0 m pc ls (.int n :: rest)) := by
  obtain ⟨r1, r2, r3, r4, r5, r6⟩ := id hR
  refine ar_tight hb0 h0 r3 (fun z1 z2 => ?_)
  refine W.newa hx hb harr rfl hdg rfl hn (Nat.le_trans (Nat.mul_le_mul_left _ (by cases at' <;> decide)) hby) (by omega) (by omega) fun cA kA comp f1 f2 f3 => ?_
  have hfA : s.vm.findClass ("[" ++ (newarray.typeOf at').toString) = some (D.2.2 kd) := by
    have := (hK.arr hm).2 h2.2
    cases at' <;> exact this
  have hcA : cA = D.2.2 kd := Option.some.inj (f1.symm.trans hfA)
  subst hcA
  show W p l e R s m args below meth c (H.push _) locs _ _ Q (F0 m (pc + 2) ls (.ref H.size :: rest))
  rw [r2]
  refine kk _ _ _ ?_
  have h9 := hR.push (o := (kd, List.replicate n.toNatClampNeg v)) (cell := { cls := D.2.2 kd, slots := Array.replicate n.toNatClampNeg (defaultValue (newarray.typeOf at')), vm := .none }) (by simpa using hl) (Or.inr (Or.inl ⟨h1, h2.1, ⟨_, hm⟩, ⟨(fun _ h => by cases h), (fun h => by cases h), fun _ => rfl⟩, rfl, by simp [hv]⟩))
  simpa using h9
theorem as_anew (hx : p.tables.exec = Jvm.exec) (hb : c.code = cc) {own C : String} {index kd : Nat} (hown : s.vm.findClass own = some m.cls) (hclink : (Cond.classLink own index C).before args s = true) (hover : (Cond.arrayOver (.object C)).before args s = true) (hm : (kd, FieldType.object C) ∈ ak) (h1 : 100 ≤ kd) (h2 : kd < 200 ∧ kd ≠ 104) (hK : ar_K cl ak D s) (hR : ar_H cl ak D lim b B h H) (hb0 : b ≤ s.heap.size) (h0 : ar_S b s.heap = k0) (hRc : lim.1 - s.heap.size ≤ R.cells) (hRs : lim.2 - k0 ≤ R.slots) {n : Int32} (hn : ¬ n < 0) (hby : n.toNatClampNeg * 8 ≤ 536870912) (hl : h.2.1 < lim.1 ∧ h.2.2.1 + n.toNatClampNeg ≤ lim.2) (hdg : decode cc pc = .ok (.anewarray index, 3))
    (kk : ∀ (H' : Heap) (cells slots : Nat), ar_H cl ak D lim b B (ah_new h (kd, List.replicate n.toNatClampNeg (.inr (.inr none))) n.toNatClampNeg) H' → W p l e R s m args below meth c H' locs cells slots Q (F0 m (pc + 3) ls (.ref h.2.1 :: rest))) : W p l e R s m args below meth c H locs cells slots Q (F0 m pc ls (.int n :: rest)) := by
  obtain ⟨r1, r2, r3, r4, r5, r6⟩ := id hR
  refine ar_tight hb0 h0 r3 (fun z1 z2 => ?_)
  refine W.anew hx hb hown hclink hover rfl hdg rfl hn (by omega) (by omega) (by omega) fun cA kA comp f1 f2 f3 f4 => ?_
  obtain ⟨kA', comp', g1, g2, g3, g4⟩ := (hK.arr hm).2 h2.2
  have hcA : cA = D.2.2 kd := Option.some.inj (f1.symm.trans g4)
  subst hcA
  show W p l e R s m args below meth c (H.push _) locs _ _ Q (F0 m (pc + 3) ls (.ref H.size :: rest))
  rw [r2]
  refine kk _ _ _ ?_
  have h9 := hR.push (o := (kd, List.replicate n.toNatClampNeg (.inr (.inr none)))) (cell := { cls := D.2.2 kd, slots := Array.replicate n.toNatClampNeg .null, vm := .none }) (by simpa using hl) (Or.inr (Or.inl ⟨h1, h2.1, ⟨_, hm⟩, ⟨(fun _ h => by cases h), (fun h => by cases h), fun _ => rfl⟩, rfl, by simp [toV, va_rf]⟩))
  simpa using h9
end AMk
