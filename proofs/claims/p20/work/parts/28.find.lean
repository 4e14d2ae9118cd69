/-! THE HANDLER IS FOUND -/
/-- the abstract handlers and the class file's -/
def am_hs (G : am_G) (Ts : List Cond) (own : String) : ah_X → List ExceptionTableEntry → Prop
  | [], [] => True
  | (st, en, t, es) :: r, x :: tb => (x.startPc = st ∧ x.endPc = en ∧ x.handlerPc = t ∧ x.catchType ≠ 0 ∧ ∃ kd C, es = [kd] ∧ (kd, C) ∈ am_exc G ∧ Cond.classLink own x.catchType C ∈ Ts) ∧ am_hs G Ts own r tb
  | _, _ => False
theorem find_go {G : am_G} {Ts : List Cond} {own E : String} {s S0 : State} {args : Array Value} {e : Env} {f : JFrame} {a kd t : Nat} {cell : Cell} (hpl : e.platform.magicAccessors = ({} : Platform).magicAccessors) (hown : s.vm.findClass own = some f.method.cls) (hts : ∀ w ∈ Ts, w.before args s = true) (hX : ar_X G s)
    (hE : (kd, E) ∈ am_exc G) (hcell : S0.heap[a]? = some cell) (hobj : ∀ k, cell.vm ≠ .statics k) (hcls : cell.cls = G.2.2.1.2.2 kd) :
    ∀ (hs : ah_X) (tab : List ExceptionTableEntry), am_hs G Ts own hs tab → ah_catch hs f.pc kd = some t → ∀ vm, s.WarmedH vm → ∃ vm', s.WarmedH vm' ∧ ∀ (Q : Handler → Pre) (E' : CtlPost) (d : Bool) (acts : List Action), wp (findHandler.go f a tab) Q E' e d acts (S0.setVm vm) ↔ Q (.found t) d acts (S0.setVm vm') := by
  obtain ⟨x1, x2, x3⟩ := hX.2.2.2.2.1 _ hE
  dsimp only at x1 x2 x3
  have hcast := Cond.castable_spec (show (Cond.castable E E).holds #[] s none s [] = true from x1)
  intro hs
  induction hs with
  | nil => intro tab h1 h2; cases h2
  | cons q hs ih =>
    obtain ⟨st, en, tt, es⟩ := q
    intro tab h1 h2 vm hW
    cases tab with
    | nil => exact h1.elim
    | cons x tab =>
      obtain ⟨⟨g1, g2, g3, g4, kd', C, g5, g6, g7⟩, g8⟩ := h1
      subst g5
      by_cases hcov : covers x f.pc = true
      · obtain ⟨c, hfc, hlk⟩ := Cond.classLink_spec hown (hts _ g7) e.platform hpl
        obtain ⟨y1, y2, y3⟩ := hX.2.2.2.2.1 _ g6
        dsimp only at y1 y2 y3
        have hcc : c = G.2.2.1.2.2 kd' := Option.some.inj (hfc.symm.trans y2)
        obtain ⟨i1, i2, i3⟩ := State.classEntry (e := e) hW hlk
        generalize hv1 : vm.noted f.method.cls x.catchType (.cls c) = vm1 at i1 i2 i3
        have hsz : vm1.classes.size ≤ (S0.setVm vm).vm.classes.size := by
          show vm1.classes.size ≤ vm.classes.size
          rw [← hv1, Vm.size_noted]; exact Nat.le_refl _
        have hk1 : ∃ k, vm1.classes[cell.cls]? = some k := by
          obtain ⟨k, hk, -⟩ := Vm.findClass_spec x2
          rw [← hcls] at hk
          obtain ⟨k', hk', -⟩ := i2.alike.2.2 _ _ hk
          exact ⟨k', hk'⟩
        have hk2 : ∃ k, vm1.classes[c]? = some k := by
          obtain ⟨k, hk, -⟩ := Vm.findClass_spec hfc
          obtain ⟨k', hk', -⟩ := i2.alike.2.2 _ _ hk
          exact ⟨k', hk'⟩
        by_cases hkk : kd = kd'
        · subst hkk
          have hasg : vm1.assignable cell.cls c = true := by
            obtain ⟨c1, c2, e1, e2, e3⟩ := hcast
            cases Option.some.inj (e1.symm.trans x2)
            cases Option.some.inj (e2.symm.trans x2)
            rw [i2.alike.assignable, hcls, hcc]; exact e3
          have ht : tt = t := by
            unfold ah_catch at h2
            have hb : (Nat.ble st f.pc && Nat.blt f.pc en && [kd].contains kd) = true := by
              simp only [covers, Bool.and_eq_true, decide_eq_true_eq] at hcov
              rw [g1, g2] at hcov
              simp [Nat.blt, hcov.1]
              omega
            rw [hb] at h2
            exact Option.some.inj h2
          refine ⟨vm1, i2, fun Q E' d acts => ?_⟩
          rw [go_class_cold (s := S0.setVm vm) hcov g4 i1 hsz hcell hobj hk1 hk2, if_pos hasg, g3, ht]
          rfl
        · have hnas : vm1.assignable cell.cls c = false := by
            have h9 := x3 _ g6 (fun z => hkk z.symm)
            simp only [Cond.before, Cond.holds, Cond.value] at h9
            rw [x2, y2] at h9
            rw [i2.alike.assignable, hcls, hcc]
            simpa using h9
          have h3 : ah_catch hs f.pc kd = some t := by
            unfold ah_catch at h2
            have hb : (Nat.ble st f.pc && Nat.blt f.pc en && [kd'].contains kd) = false := by
              simp [hkk]
            rw [hb] at h2
            exact h2
          obtain ⟨vm', w1, w2⟩ := ih tab g8 h3 vm1 i2
          refine ⟨vm', w1, fun Q E' d acts => ?_⟩
          rw [go_class_cold (s := S0.setVm vm) hcov g4 i1 hsz hcell hobj hk1 hk2, if_neg (by rw [hnas]; exact Bool.false_ne_true)]
          exact w2 Q E' d acts
      · have hcov' : covers x f.pc = false := by
          cases hq : covers x f.pc with
          | true => exact absurd hq hcov
          | false => rfl
        have h3 : ah_catch hs f.pc kd = some t := by
          unfold ah_catch at h2
          have hb : (Nat.ble st f.pc && Nat.blt f.pc en && [kd'].contains kd) = false := by
            cases hq : (Nat.ble st f.pc && Nat.blt f.pc en) with
            | false => rfl
            | true =>
              exfalso
              apply hcov
              simp only [Bool.and_eq_true] at hq
              simp only [covers, Bool.and_eq_true, decide_eq_true_eq]
              rw [g1, g2]
              exact ⟨Nat.le_of_ble_eq_true hq.1, Nat.le_of_ble_eq_true hq.2⟩
          rw [hb] at h2
          exact h2
        obtain ⟨vm', w1, w2⟩ := ih tab g8 h3 vm hW
        refine ⟨vm', w1, fun Q E' d acts => ?_⟩
        rw [W.findHandler_go_skip hcov']
        exact w2 Q E' d acts
