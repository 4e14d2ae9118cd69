/-! ARRAYCOPY OVER ARRAYS OF INT -/
theorem cp_inv {ρ : Type} {h : ah_H} {r0 r1 : Option Nat} {sp dp n : Int32} {K : ah_H → Option ρ} {z : ρ} (e : ah_cp h r0 sp r1 dp n K = some z) : ∃ a0 a vs ws, r0 = some a0 ∧ r1 = some a ∧ h.1 a0 = some (100, vs) ∧ h.1 a = some (100, ws) ∧ ¬ sp < 0 ∧ ¬ dp < 0 ∧ ¬ n < 0 ∧ vs.all ah_isI = true ∧ sp.toNatClampNeg + n.toNatClampNeg ≤ vs.length ∧ dp.toNatClampNeg + n.toNatClampNeg ≤ ws.length ∧ K (ah_up h a (100, ws.take dp.toNatClampNeg ++ ((vs.drop sp.toNatClampNeg).take n.toNatClampNeg ++ ws.drop (dp.toNatClampNeg + n.toNatClampNeg)))) = some z := by
  unfold ah_cp at e
  obtain ⟨a0, vs, rfl, o0, e⟩ := at_inv e
  obtain ⟨a, ws, rfl, o1, e⟩ := at_inv e
  split at e
  · cases e
  · rename_i hc
    simp only [not_or] at hc
    obtain ⟨c1, c2, c3, c4, c5, c6⟩ := hc
    exact ⟨a0, a, vs, ws, rfl, rfl, o0, o1, c1, c2, c3, by simpa using c4, by omega, by omega, e⟩
theorem cp_slots {cs cd : Cell} {vs ws : List AV} {sp dp n : Nat} (e0 : cs.slots = (vs.map toV).toArray) (e1 : cd.slots = (ws.map toV).toArray) (h4 : sp + n ≤ vs.length) (h5 : dp + n ≤ ws.length) : (cd.storeRun dp (cs.stretch sp n)).slots = ((ws.take dp ++ ((vs.drop sp).take n ++ ws.drop (dp + n))).map toV).toArray := by
  have hl : (cs.stretch sp n).length = n := by simp [Cell.stretch]
  apply Array.ext_getElem?
  intro j
  rw [Cell.storeRun_get _ _ _ _ (by rw [hl, e1]; simpa using h5), hl]
  have hR : (((ws.take dp ++ ((vs.drop sp).take n ++ ws.drop (dp + n))).map toV).toArray)[j]? = ((ws.take dp ++ ((vs.drop sp).take n ++ ws.drop (dp + n)))[j]?).map toV := by
    rw [List.getElem?_toArray, List.getElem?_map]
  have hD : cd.slots[j]? = (ws[j]?).map toV := by rw [e1, List.getElem?_toArray, List.getElem?_map]
  rw [hR, hD]
  by_cases hj : dp ≤ j ∧ j < dp + n
  · rw [if_pos hj]
    have e2 : (cs.stretch sp n)[j - dp]? = some (cs.slots.getD (sp + (j - dp)) .null) := by
      unfold Cell.stretch
      rw [List.getElem?_map, List.getElem?_range (by omega)]
      rfl
    have e3 : (ws.take dp ++ ((vs.drop sp).take n ++ ws.drop (dp + n)))[j]? = vs[sp + (j - dp)]? := by
      rw [List.getElem?_append_right (by rw [List.length_take]; omega), List.length_take, Nat.min_eq_left (by omega), List.getElem?_append_left (by rw [List.length_take, List.length_drop]; omega), List.getElem?_take_of_lt (by omega), List.getElem?_drop]
    have hlt : sp + (j - dp) < vs.length := by omega
    rw [e2, e3, e0, Array.getD_eq_getD_getElem?, List.getElem?_toArray, List.getElem?_map, List.getElem?_eq_getElem hlt]
    rfl
  · rw [if_neg hj]
    by_cases hj2 : j < dp
    · rw [List.getElem?_append_left (by rw [List.length_take]; omega), List.getElem?_take_of_lt hj2]
    · rw [List.getElem?_append_right (by rw [List.length_take]; omega), List.length_take, Nat.min_eq_left (by omega), List.getElem?_append_right (by rw [List.length_take, List.length_drop]; omega), List.length_take, List.length_drop, List.getElem?_drop]
      congr 2
      omega
section ACp
variable {p : Program} {l : Launch} {e : Env} {R : Room} {s : State} {m : MethodId} {args : Array Value} {below : List Frame} {meth : Method} {c : Code} {H : Heap} {locs : List Loc} {cells slots : Nat} {Q : State → Prop}
variable {cc : ByteArray} {pc : Nat} {ls : Array Slot} {rest : List Value} {cl : List vw_C} {ak : List (Nat × FieldType)} {D : ar_D} {lim : Nat × Nat} {b : Nat} {B : Heap} {h : ah_H}
theorem as_copy (hx : p.tables.exec = Jvm.exec) (hb : c.code = cc) (hml : c.maxLocals = ls.size) {own : String} {index : Nat} (hown : s.vm.findClass own = some m.cls) (hlink : (Cond.methodLink own index arraycopyName).before args s = true) (hnat : (Cond.native arraycopyName).before args s = true) (hstat : (Cond.static arraycopyName).before args s = true) (hini : (Cond.initialized "java/lang/System").before args s = true)
    (hK : ar_K cl ak D s) (hR : ar_H cl ak D lim b B h H) {a0 a : Nat} {vs ws : List AV} (h0 : h.1 a0 = some (100, vs)) (h1 : h.1 a = some (100, ws)) (hm : (100, FieldType.int) ∈ ak) {sp dp n : Int32} (s1 : ¬ sp < 0) (s2 : ¬ dp < 0) (s3 : ¬ n < 0) (hint : vs.all ah_isI = true) (s4 : sp.toNatClampNeg + n.toNatClampNeg ≤ vs.length) (s5 : dp.toNatClampNeg + n.toNatClampNeg ≤ ws.length)
    (hframes : 1 ≤ R.frames) (hlocals : (rest.map fun v => v.category).sum + (nativeFrameWords "java/lang/System" "arraycopy" 5 + 11) ≤ R.locals) (hdg : decode cc pc = .ok (.invokestatic index, 3))
    (kk : ∀ (H' : Heap) (locs' : List Loc), ar_H cl ak D lim b B (ah_up h a (100, ws.take dp.toNatClampNeg ++ ((vs.drop sp.toNatClampNeg).take n.toNatClampNeg ++ ws.drop (dp.toNatClampNeg + n.toNatClampNeg)))) H' → (∀ q ∈ locs', q ∈ locs ∨ q.base = a) → W p l e R s m args below meth c H' locs' cells slots Q (F0 m (pc + 3) ls rest)) : W p l e R s m args below meth c H locs cells slots Q (F0 m pc ls (.int n :: .int dp :: .ref a :: .int sp :: .ref a0 :: rest)) := by
  obtain ⟨-, cs, ty0, -, g3, g4, g5, g6, g7⟩ := ar_cellA hK hR h0 (by omega) (by omega)
  obtain ⟨hba, cd, ty1, ht1, f3, f4, f5, f6, f7⟩ := ar_cellA hK hR h1 (by omega) (by omega)
  obtain ⟨-, ks, hks, cm0, hkk0⟩ := g7 _ hm
  obtain ⟨-, kd, hkd, cm1, hkk1⟩ := f7 _ hm
  have nn : ∀ z : Int32, ¬ z < 0 → z.toInt = (z.toNatClampNeg : Int) := by
    intro z hz
    have hz0 : ¬ z.toInt < 0 := fun q => hz (Int32.lt_iff_toInt_lt.mpr q)
    show z.toInt = ((z.toInt.toNat : Nat) : Int)
    omega
  have l0 : cs.slots.size = vs.length := by rw [g6]; simp
  have l1 : cd.slots.size = ws.length := by rw [f6]; simp
  intro T hT X
  obtain ⟨vm', X', step⟩ := X.arraycopy hx hown hlink hnat hstat hini (src := a0) (dst := a) (cs := cs) (cd := cd) (srcPos := sp) (destPos := dp) (n := n) (by rw [hT]; exact g3) (by rw [hT]; exact f3) g4.1 f4.1 g4.2.1 f4.2.1 hks hkd hkk0 hkk1 (by decide) s1 s2 s3
    (by rw [nn sp s1, nn n s3, l0]; omega) (by rw [nn dp s2, nn n s3, l1]; omega)
    (fun vm₁ _ i hi => by
      have hlt : sp.toNatClampNeg + i < vs.length := by omega
      have e1 : cs.slots.getD (sp.toNatClampNeg + i) .null = toV vs[sp.toNatClampNeg + i] := by
        rw [g6, Array.getD_eq_getD_getElem?, List.getElem?_toArray, List.getElem?_map, List.getElem?_eq_getElem hlt]
        rfl
      have e2 := List.all_eq_true.mp hint _ (List.getElem_mem hlt)
      rw [e1]
      cases e3 : vs[sp.toNatClampNeg + i] with
      | inl x => exact ⟨rfl, trivial⟩
      | inr x => rw [e3] at e2; cases e2)
    (g := F0 m pc ls (.int n :: .int dp :: .ref a :: .int sp :: .ref a0 :: rest)) rfl hml.symm (rest := rest) rfl (by rw [hb]; exact hdg) hframes (by show 2 * 0 + _ + _ ≤ _; omega)
  obtain ⟨q1, q2, q3, -, -⟩ := cd.storeRun_facts dp.toNatClampNeg (cs.stretch sp.toNatClampNeg n.toNatClampNeg)
  have hl : a < H.size := (Array.getElem?_eq_some_iff.mp f3).1
  have hheap : ((T.setVm vm').setCell a (copied cs cd sp dp n)).heap = H.setIfInBounds a (copied cs cd sp dp n) := by rw [← hT]; rfl
  have hRn : ar_H cl ak D lim b B (ah_up h a (100, ws.take dp.toNatClampNeg ++ ((vs.drop sp.toNatClampNeg).take n.toNatClampNeg ++ ws.drop (dp.toNatClampNeg + n.toNatClampNeg)))) (H.setIfInBounds a (copied cs cd sp dp n)) := by
    refine hR.up (hba (by omega)) f3 (by simp) (fun q hq => by simp [Array.getElem?_setIfInBounds, Ne.symm hq]) (show (H.setIfInBounds a _)[a]? = some _ by simp [Array.getElem?_setIfInBounds, hl]) q3 (Or.inr (Or.inl ⟨by show 100 ≤ 100; omega, by show 100 < 200; omega, ⟨_, ht1⟩, ⟨fun k => by rw [q2]; exact f4.1 k, by rw [q2]; exact f4.2.1, fun hn => by rw [q2]; exact f4.2.2 hn⟩, by rw [q1]; exact f5, ?_⟩))
    exact cp_slots g6 f6 s4 s5
  obtain ⟨t, a1, b1⟩ := kk _ _ hRn (fun q hq => by
    rcases List.mem_append.mp hq with h | h
    · exact Or.inl h
    · obtain ⟨z, -, hz⟩ := List.mem_map.mp h
      exact Or.inr (by rw [← hz])) _ hheap X'
  exact ⟨t, step t a1, b1⟩
end ACp
