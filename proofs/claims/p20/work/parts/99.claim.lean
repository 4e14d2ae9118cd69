/-! THE CLAIM OUT OF ONE WALK OF THE LAW'S BODY. Your part is whole_start (and what it stands on); all else here is the same for every law, but numbers. -/
def R_law : String := "StepCodeLaw"
def lw_P (b : Addr) (xs : List Int32) (args : Array Value) (s : State) : Prop := args = #[.ref b] ∧ s.IntsAt b xs ∧ xs.length ≤ 2560 ∧ (Jvm.Cond.and given_1 narrow_1).before args s = true
def lw_Q (_ : Array Value) (s : State) (o : Outcome) (t : State) : Prop := o = .returned (some (.int 1)) ∧ Framed s o t [] 601024 7293034
def lw_Z (below : List Frame) (a : Array Value) (s : State) : State → Prop := fun t => ∃ o, t.status = .running ∧ Ended t below o ∧ lw_Q a s o t
/-- the law's own end, with 1 on the stack, nothing written that was there before, its room as the claim has it -/
theorem lw_ret {p : Program} {l : Launch} {e : Env} {s : State} {m : MethodId} {below : List Frame} {meth : Method} {c : Code} {b : Nat} (hx : p.tables.exec = Jvm.exec) (hb : c.code = code) (hr : meth.sig.returnType = ret) (hlocks : meth.locks = false) {pc : Nat} {H : Heap} {ls : Array Slot} (hdg : decode code pc = .ok (.ireturn, 1)) : W p l e room_1 s m #[Value.ref b] below meth c H [] 601024 7293034 (lw_Z below #[Value.ref b] s) (F0 m pc ls [.int 1]) := by
  intro T hT X
  obtain ⟨fs, hret, hrun, hended, hW, hframe⟩ := X.leave (v := some (.int 1)) (hlocks := hlocks) (fun h => by rw [hr] at h; cases h)
  have hmeth' : T.vm.method? m = some meth := X.method'
  refine ⟨T.setFrames fs, ?_, .returned (some (.int 1)), hrun, hended, rfl, ⟨_, rfl⟩, hW, hframe⟩
  jvm_step X.here [X.here.top, hx, hb, hdg, hmeth', hr, ret, narrow_b1]
  (try refine ⟨rfl, ?_⟩); (try refine ⟨rfl, ?_⟩)
  first | (intro acts; rw [hret _ acts rfl rfl rfl]) | rw [hret _ _ rfl rfl rfl]
  exact Steps.refl _
/-- what holds at the law's entry: the machine, the code, the tables' words (any of lw_tbl by 'hts w (by decide +kernel)'), the script of L ints xs at the cell b, what the Statement gives of the start (any of its parts by flat_of_before) -/
def lw_At (p : Program) (s : State) (m : MethodId) (meth : Method) (c : Code) (b L : Nat) (xs : Nat → Int32) : Prop :=
  p.tables.exec = Jvm.exec ∧ c.code = code ∧ meth.sig.returnType = ret ∧ c.maxLocals = 8 ∧ s.vm.findClass R_law = some m.cls ∧ (∀ w ∈ tb_tbl, w.before #[Value.ref b] s = true) ∧ va_X b L xs s s.heap ∧ b < s.heap.size ∧ meth.locks = false ∧ (Jvm.Cond.and given_1 narrow_1).before #[Value.ref b] s = true ∧ meth.name = "law" ∧ c.exceptionTable.toList = []
-- ===== YOUR PART BEGINS =====
theorem st_akf : ∀ kd ty, (kd, ty) ∈ tb_ak → ah_lk tb_ak kd = some ty := by
  intro kd ty h
  simp only [tb_ak, List.mem_cons, List.not_mem_nil, or_false, Prod.mk.injEq] at h
  rcases h with ⟨rfl, rfl⟩ | ⟨rfl, rfl⟩ | ⟨rfl, rfl⟩ | ⟨rfl, rfl⟩ | ⟨rfl, rfl⟩ | ⟨rfl, rfl⟩ | ⟨rfl, rfl⟩ | ⟨rfl, rfl⟩ <;> rfl
theorem st_exf : ∀ kd E, (kd, E) ∈ tb_exc → ah_lk tb_ak kd = none ∧ ah_lk tb_exc kd = some E := by
  intro kd E h
  simp only [tb_exc, List.mem_cons, List.not_mem_nil, or_false, Prod.mk.injEq] at h
  rcases h with ⟨rfl, rfl⟩ | ⟨rfl, rfl⟩ | ⟨rfl, rfl⟩ <;> exact ⟨rfl, rfl⟩
/-- the words that the tables don't keep, at the start -/
theorem st_X {s : State} {args : Array Value} {f : Nat → ClassId} {dC : Nat → ClassId} {dI : Nat → Nat → Nat} {lim : Nat × Nat} (hts : ∀ w ∈ tb_tbl, w.before args s = true) (hgv : (Jvm.Cond.and given_1 narrow_1).before args s = true) (f3 : ∀ kd E, (kd, E) ∈ tb_exc → s.vm.findClass E = some (f kd)) : ar_X (tb_G (dC, dI, f) lim s.heap.size s.heap) s := by
  have hfl := flat_of_before _ hgv
  have hw : ∀ (k j : Nat) (w : Cond), (tb_run k)[j]? = some w → w.before args s = true := fun k j w h => hts w (tb_run_ok k w (List.mem_of_getElem? h))
  refine ⟨?_, ?_, ?_, ?_, ?_, ?_⟩
  · show ∀ q ∈ tb_nest, va_Nw (.methodLinkNest q.1 q.2.1 q.2.2.1 q.2.2.2) s
    exact List.forall_mem_cons.mpr ⟨va_Nw.of rfl (hw 2 7 _ rfl), List.forall_mem_cons.mpr ⟨va_Nw.of rfl (hw 2 19 _ rfl), List.forall_mem_cons.mpr ⟨va_Nw.of rfl (hw 2 195 _ rfl), List.forall_mem_cons.mpr ⟨va_Nw.of rfl (hw 1 149 _ rfl), fun _ h => absurd h List.not_mem_nil⟩⟩⟩⟩
  · show ∀ C ∈ tb_aos, va_AO C s
    exact List.forall_mem_cons.mpr ⟨va_AO.of (hw 1 147 _ rfl), List.forall_mem_cons.mpr ⟨va_AO.of (hw 1 40 _ rfl), List.forall_mem_cons.mpr ⟨va_AO.of (hw 1 139 _ rfl), fun _ h => absurd h List.not_mem_nil⟩⟩⟩
  · show ∀ q ∈ tb_str, ∃ a, vk_R q.1 q.2.1 q.2.2 a s
    have key : ∀ (own : String) (k : Nat) (tx : String), (Cond.stringRef own k tx).before args s = true → ∃ a, vk_R own k tx a s := by
      intro own k tx h
      cases hc : s.vm.findClass own with
      | none => simp [Cond.before, Cond.holds, Cond.value, hc] at h
      | some c =>
        obtain ⟨_, _, _, a, -, -, -, -, -, hev⟩ := Cond.stringRef_spec hc h
        exact ⟨a, vk_R.of h hev⟩
    exact List.forall_mem_cons.mpr ⟨key _ _ _ (hw 2 141 _ rfl), List.forall_mem_cons.mpr ⟨key _ _ _ (hw 2 181 _ rfl), List.forall_mem_cons.mpr ⟨key _ _ _ (hw 3 13 _ rfl), List.forall_mem_cons.mpr ⟨key _ _ _ (hw 3 21 _ rfl), List.forall_mem_cons.mpr ⟨key _ _ _ (hw 3 26 _ rfl), List.forall_mem_cons.mpr ⟨key _ _ _ (hw 3 53 _ rfl), List.forall_mem_cons.mpr ⟨key _ _ _ (hw 4 61 _ rfl), List.forall_mem_cons.mpr ⟨key _ _ _ (hw 4 72 _ rfl), List.forall_mem_cons.mpr ⟨key _ _ _ (hw 4 85 _ rfl), List.forall_mem_cons.mpr ⟨key _ _ _ (hw 4 112 _ rfl), List.forall_mem_cons.mpr ⟨key _ _ _ (hw 4 113 _ rfl), List.forall_mem_cons.mpr ⟨key _ _ _ (hw 4 128 _ rfl), List.forall_mem_cons.mpr ⟨key _ _ _ (hw 4 129 _ rfl), List.forall_mem_cons.mpr ⟨key _ _ _ (hw 4 130 _ rfl), List.forall_mem_cons.mpr ⟨key _ _ _ (hw 5 216 _ rfl), List.forall_mem_cons.mpr ⟨key _ _ _ (hw 5 238 _ rfl), List.forall_mem_cons.mpr ⟨key _ _ _ (hw 6 6 _ rfl), List.forall_mem_cons.mpr ⟨key _ _ _ (hw 6 27 _ rfl), List.forall_mem_cons.mpr ⟨key _ _ _ (hw 6 43 _ rfl), List.forall_mem_cons.mpr ⟨key _ _ _ (hw 6 56 _ rfl), fun _ h => absurd h List.not_mem_nil⟩⟩⟩⟩⟩⟩⟩⟩⟩⟩⟩⟩⟩⟩⟩⟩⟩⟩⟩⟩
  · show ∀ q ∈ tb_sta, _
    have key : ∀ (a b c : String), (Cond.laysStatic a b c).before args s = true → (Cond.isRef (.static a b c)).before args s = true → (Cond.laysStatic a b c).before #[] { s with heap := s.heap } = true ∧ (Cond.isRef (.static a b c)).before #[] { s with heap := s.heap } = true := fun a b c h1 h2 => ⟨h1, h2⟩
    exact List.forall_mem_cons.mpr ⟨key _ _ _ (hw 2 127 _ rfl) (hfl (Cond.isRef (.static "java/lang/Throwable" "UNASSIGNED_STACK" "[Ljava/lang/StackTraceElement;")) (by decide +kernel)), List.forall_mem_cons.mpr ⟨key _ _ _ (hw 2 129 _ rfl) (hfl (Cond.isRef (.static "java/lang/Throwable" "SUPPRESSED_SENTINEL" "Ljava/util/List;")) (by decide +kernel)), fun _ h => absurd h List.not_mem_nil⟩⟩
  · show ∀ q ∈ tb_exc, _
    exact List.forall_mem_cons.mpr ⟨⟨hw 2 102 _ rfl, f3 _ _ (List.mem_of_getElem? (i := 0) rfl), List.forall_mem_cons.mpr ⟨fun h => absurd rfl h, List.forall_mem_cons.mpr ⟨fun _ => hfl (Cond.not (Cond.castable "java/lang/IllegalArgumentException" "java/lang/IllegalStateException")) (by decide +kernel), List.forall_mem_cons.mpr ⟨fun _ => hfl (Cond.not (Cond.castable "java/lang/IllegalArgumentException" "java/lang/IndexOutOfBoundsException")) (by decide +kernel), fun _ h => absurd h List.not_mem_nil⟩⟩⟩⟩, List.forall_mem_cons.mpr ⟨⟨hw 2 174 _ rfl, f3 _ _ (List.mem_of_getElem? (i := 1) rfl), List.forall_mem_cons.mpr ⟨fun _ => hfl (Cond.not (Cond.castable "java/lang/IllegalStateException" "java/lang/IllegalArgumentException")) (by decide +kernel), List.forall_mem_cons.mpr ⟨fun h => absurd rfl h, List.forall_mem_cons.mpr ⟨fun _ => hfl (Cond.not (Cond.castable "java/lang/IllegalStateException" "java/lang/IndexOutOfBoundsException")) (by decide +kernel), fun _ h => absurd h List.not_mem_nil⟩⟩⟩⟩, List.forall_mem_cons.mpr ⟨⟨hw 4 54 _ rfl, f3 _ _ (List.mem_of_getElem? (i := 2) rfl), List.forall_mem_cons.mpr ⟨fun _ => hfl (Cond.not (Cond.castable "java/lang/IndexOutOfBoundsException" "java/lang/IllegalArgumentException")) (by decide +kernel), List.forall_mem_cons.mpr ⟨fun _ => hfl (Cond.not (Cond.castable "java/lang/IndexOutOfBoundsException" "java/lang/IllegalStateException")) (by decide +kernel), List.forall_mem_cons.mpr ⟨fun h => absurd rfl h, fun _ h => absurd h List.not_mem_nil⟩⟩⟩⟩, fun _ h => absurd h List.not_mem_nil⟩⟩⟩
  · show ∀ q ∈ tb_dec, va_Nw (.declares q) s
    exact List.forall_mem_cons.mpr ⟨va_Nw.of rfl (hw 2 103 _ rfl), List.forall_mem_cons.mpr ⟨va_Nw.of rfl (hw 2 104 _ rfl), List.forall_mem_cons.mpr ⟨va_Nw.of rfl (hw 2 105 _ rfl), List.forall_mem_cons.mpr ⟨va_Nw.of rfl (hw 2 106 _ rfl), List.forall_mem_cons.mpr ⟨va_Nw.of rfl (hw 2 107 _ rfl), List.forall_mem_cons.mpr ⟨va_Nw.of rfl (hw 2 108 _ rfl), fun _ h => absurd h List.not_mem_nil⟩⟩⟩⟩⟩⟩
theorem whole_start {p : Program} {e : Env} {s : State} {m : MethodId} {below : List Frame} {meth : Method} {c : Code} (l : Launch) (hfl : l.stackTraces = false) {b L : Nat} {xs : Nat → Int32} (hL : L ≤ 2560) (C0 : lw_At p s m meth c b L xs) : W p l e room_1 s m #[Value.ref b] below meth c s.heap [] 0 0 (lw_Z below #[Value.ref b] s) (entryFrame m ([Value.ref b] : List Value).toArray 8) := by
  obtain ⟨hx, hb, hr, hml, hown, hts, hX, hbl, hlocks, hgv, hnm, htab⟩ := id C0
  obtain ⟨scr, x1, x2, x3, x4, x5⟩ := hX
  have htT : ∀ w ∈ tb_Ts, w.before #[Value.ref b] s = true := fun w hw => hts w (List.mem_filter.mp hw).1
  obtain ⟨dC, dI, hKc⟩ := kn_cl htT tb_cl (fun kd C T N h => by
    obtain ⟨-, z1, z2⟩ := ck_cls_ok tb_run_ok tb_cls kd C T N h
    exact ⟨z2, z1⟩)
  have hsc : ArrOfT s scr.cls .int := fun n z => ⟨(fun k h => by cases h), x2.2⟩
  have hw : ∀ (k j : Nat) (w : Cond), (tb_run k)[j]? = some w → w.before #[Value.ref b] s = true := fun k j w h => hts w (tb_run_ok k w (List.mem_of_getElem? h))
  obtain ⟨f, f1, f2, f3⟩ := kn_D (s := s) (ak := tb_ak) (exc := tb_exc) (fun kd => ah_lk tb_ak kd) (fun kd => ah_lk tb_exc kd) st_akf st_exf hsc rfl (fun kd ty hn h => by
      have hm := ah_lk_mem _ h
      simp only [tb_ak, List.mem_cons, List.not_mem_nil, or_false, Prod.mk.injEq] at hm
      rcases hm with ⟨rfl, rfl⟩ | ⟨rfl, rfl⟩ | ⟨rfl, rfl⟩ | ⟨rfl, rfl⟩ | ⟨rfl, rfl⟩ | ⟨rfl, rfl⟩ | ⟨rfl, rfl⟩ | ⟨rfl, rfl⟩
      · exact kn_arr (by simp) (hw 1 97 _ rfl)
      · exact kn_arr (by simp) (hw 1 187 _ rfl)
      · exact kn_arr (by simp) (hw 6 233 _ rfl)
      · exact kn_arr (by simp) (hw 2 167 _ rfl)
      · exact absurd rfl hn
      · exact kn_obj (hw 1 147 _ rfl)
      · exact kn_obj (hw 1 40 _ rfl)
      · exact kn_obj (hw 1 139 _ rfl)) (fun kd E h => by
      have hm := ah_lk_mem _ h
      simp only [tb_exc, List.mem_cons, List.not_mem_nil, or_false, Prod.mk.injEq] at hm
      rcases hm with ⟨rfl, rfl⟩ | ⟨rfl, rfl⟩ | ⟨rfl, rfl⟩
      · obtain ⟨c1, c2, e1, -⟩ := Cond.castable_spec (show (Cond.castable "java/lang/IllegalArgumentException" "java/lang/IllegalArgumentException").holds #[Value.ref b] s none s [] = true from hw 2 102 _ rfl)
        exact ⟨c1, e1⟩
      · obtain ⟨c1, c2, e1, -⟩ := Cond.castable_spec (show (Cond.castable "java/lang/IllegalStateException" "java/lang/IllegalStateException").holds #[Value.ref b] s none s [] = true from hw 2 174 _ rfl)
        exact ⟨c1, e1⟩
      · obtain ⟨c1, c2, e1, -⟩ := Cond.castable_spec (show (Cond.castable "java/lang/IndexOutOfBoundsException" "java/lang/IndexOutOfBoundsException").holds #[Value.ref b] s none s [] = true from hw 4 54 _ rfl)
        exact ⟨c1, e1⟩)
  have hXX : ar_X (tb_G (dC, dI, f) (s.heap.size + 601024, 7293034) s.heap.size s.heap) s := st_X hts hgv f3
  have hK : ar_K tb_cl tb_ak (dC, dI, f) s := ⟨hKc, f2⟩
  have hR : ar_H tb_cl tb_ak (dC, dI, f) (s.heap.size + 601024, 7293034) s.heap.size s.heap (am_h0 b L xs s.heap.size) s.heap := am_h0_ok ⟨scr, x1, x2, x3, x4, x5, f1.symm⟩ (List.mem_of_getElem? (i := 4) rfl) (Nat.le_add_right _ _)
  obtain ⟨z, hz, y, h', rfl, rfl⟩ := p2_pure (d := 1770) (n := s.heap.size) (xs := xs) hL hbl
  have hS : am_S (tb_G (dC, dI, f) (s.heap.size + 601024, 7293034) s.heap.size s.heap) tb_Ts "StepCodeLaw" "law" 3 p room_1 s m #[Value.ref b] meth c code 8 2000 (am_h0 b L xs s.heap.size) := ⟨⟨hx, hb, hml, hown, htT⟩, hr, hlocks, hnm, ⟨Nat.le_refl _, hR.2.2.1, by decide, by decide, by show s.heap.size + 601024 - s.heap.size ≤ 601024; omega, by show 7293034 - 0 ≤ 7293034; omega⟩, hK, hXX⟩
  have w := am_law (l := l) (G := tb_G (dC, dI, f) (s.heap.size + 601024, 7293034) s.heap.size s.heap) (Ts := tb_Ts) (I := tb_I) (P := ah_P) (e := e) (below := below) tb_T hfl rfl tb_all (y := m_Law_law) (N := ⟨"StepCodeLaw", "law", "([I)Z"⟩) (bytes := code) (maxL := 8) (ret := some .boolean) (M := mt_278) rfl hM_278 rfl (as := [.inr (.inr (some b))]) hz (by show 1 ≤ 8; decide) hS htab hR
  intro T hT X
  obtain ⟨t, a1, b1⟩ := w T hT X
  obtain ⟨o, r1, r2, r3, r4⟩ := am_fin (C := 601024) (S := 7293034) (Nat.le_refl _) (by show s.heap.size + 601024 - s.heap.size ≤ 601024; omega) (by show 7293034 - 0 ≤ 7293034; omega) b1
  exact ⟨t, a1, o, r1, r2, r3, r4⟩
-- ===== YOUR PART ENDS =====
set_option maxHeartbeats 4000000 in
theorem lw_walk (l : Launch) (hfl : l.stackTraces = false) (b : Addr) (xs : List Int32) : MetFree l x (headSpec (Jvm.Cond.code x code maxLocals ret :: tables_1) room_1) (lw_P b xs) (fun _ _ _ _ _ => True) lw_Q := by
  refine MetFree.of_bodyS (code := code) (maxLocals := maxLocals) (ret := ret) (by decide) ?_ ?_
  · intro args s m h hn
    obtain ⟨meth, c, h1, h2, h3, h4, h5, h6, -, -⟩ := Cond.code_spec hn (atoms_spec (ws := Jvm.Cond.code x code maxLocals ret :: tables_1) h _ List.mem_cons_self)
    exact ⟨meth, c, h1, h2, h3, h4, h5, h6⟩
  · intro p e s m args below meth c s₁ B hml0 hP _
    obtain ⟨rfl, hx, hbd, hgv⟩ := hP
    obtain ⟨scr, harrAt, hlist, hof, hsmall⟩ := hx
    obtain ⟨hcb, hkn, -, -⟩ := State.arrayAt?_spec harrAt
    have hown : s.vm.findClass R_law = some m.cls := findClass_of_methodNamed B.named
    have hts0 : ∀ c ∈ (Jvm.Cond.code x code maxLocals ret :: tables_1), c.before #[Value.ref b] s = true := atoms_spec (ws := Jvm.Cond.code x code maxLocals ret :: tables_1) B.pre
    have hts1 : ∀ w ∈ lw_tbl, w.before #[Value.ref b] s = true := k2_hts_sels lw_privs (fun w hw => hts0 w (List.mem_cons_of_mem _ hw)) lw_privs_ok
    have hts : ∀ w ∈ tb_tbl, w.before #[Value.ref b] s = true := List.forall_mem_cons.mpr ⟨hts0 _ List.mem_cons_self, hts1⟩
    have htab : c.exceptionTable.toList = [] := by
      have h1 := BodyLoose.noHandlers B (hts0 _ List.mem_cons_self)
      have h2 : c.exceptionTable = #[] := by simpa using h1
      rw [h2]
    have hml : c.maxLocals = 8 := B.maxLocals_eq (hts0 _ List.mem_cons_self)
    have X₀ : Stand p l e room_1 s m #[Value.ref b] below meth c s₁ [] 0 0 := Stand.of_body B
    have hh0 : s₁.heap = s.heap := by rw [B.state]; rfl
    have hsz : scr.slots.size = xs.length := by rw [← Array.length_toList, hlist, List.length_map]
    have hval : ∀ j : Nat, j < xs.length → scr.slots[j]? = some (.int (xs.getD j 0)) := fun j hj => by
      rw [← Array.getElem?_toList, hlist]
      simp [hj]
    have hbl : b < s.heap.size := (Array.getElem?_eq_some_iff.mp hcb).1
    have hX : va_X b xs.length (fun j => xs.getD j 0) s s.heap := ⟨scr, hcb, hof, hkn, hsz, hval⟩
    have K : W p l e room_1 s m #[Value.ref b] below meth c s₁.heap [] 0 0 (lw_Z below #[Value.ref b] s) (entryFrame m ([Value.ref b] : List Value).toArray 8) := by
      rw [hh0]
      exact whole_start l hfl hbd ⟨B.exec, B.bytes, B.returns, hml, hown, hts, hX, hbl, B.notSynchronized, hgv, (name_of_methodNamed B.named B.method).1, htab⟩
    obtain ⟨t, a1, o, b1, b2, b3⟩ := K s₁ rfl X₀
    exact ⟨t, o, a1, b1, b2, b3⟩
theorem lw_pre_spec {args : Array Value} {s : State} (h : (Jvm.Cond.and given_1 narrow_1).before args s = true) (hr : rest_1_c.before args s = true) : ∃ (b : Addr) (xs : List Int32), lw_P b xs args s := by
  have hs := flat_of_before _ h
  have hq := flat_of_before _ hr
  have hc : (Cond.count 1).before args s = true := hs _ (by decide +kernel)
  have harr : (Cond.arrayOf (.arg 0) .int).before args s = true := hs _ (by decide +kernel)
  have hle : (Cond.le (.length (.arg 0)) (.int 2560)).before args s = true := hs _ (by decide +kernel)
  have hlen : (Cond.isInt (.length (.arg 0))).before args s = true := hq _ (by decide +kernel)
  have hall : (Cond.all (.arg 0) (.isInt (.elem (.arg 0) (.index 0)))).before args s = true := hq _ (by decide +kernel)
  obtain ⟨b, xs, hb, hx⟩ := State.ints_of_pre rfl harr hlen hall
  have hsm : xs.length < 2 ^ 31 := hx.choose_spec.2.2.2
  have hev : (Term.length (.arg 0)).eval args s none [] s = some (.int xs.length.toInt32) := hx.length_eval hb
  have hv := Cond.le_ints hev (show (Term.int 2560).eval args s none [] s = some (.int 2560) from rfl)
  have hd : xs.length.toInt32 ≤ 2560 := by
    simpa [Cond.before, Cond.holds, hv] using hle
  have hN : xs.length ≤ 2560 := (Int32.ofNat_le_ofNat hsm (by decide)).mp (show Int32.ofNat xs.length ≤ Int32.ofNat 2560 from hd)
  exact ⟨b, xs, Cond.one_arg hc (show args[0]? = some (.ref b) from hb), hx, hN, h⟩
theorem lw_comes (l : Launch) (hfl : l.stackTraces = false) : Comes l x (Jvm.Cond.code x code maxLocals ret :: tables_1) room_1 (fun tb e args s => Calls_1 tb e args s ∧ rest_1 tb e args s ∧ Pre_1 tb e args s)
    (fun _ _ args s o t => lw_Q args s o t) := by
  intro p e ha hc hk s m args below hf hfit hheap happ hpre
  obtain ⟨b, xs, hP⟩ := lw_pre_spec hpre.2.2 hpre.2.1
  obtain ⟨k, o, h1, h2, h3, hQ⟩ := lw_walk l hfl b xs p e ha hc hk s m args below hf ((Spec.applies_iff_loose hf).mp happ).1 hP trivial
  exact ⟨k, o, h1, h2, h3, hQ⟩
theorem lw_frame {s t : State} {o : Outcome} {args : Array Value} (h : Framed s o t [] 601024 7293034) :
    Framed s o t (fieldLocs frame_1_writes args s ++ arrayLocs frame_1_arrays args s ++ staticLocs frame_1_statics s) 601024 7293034 := h
theorem lw_limb (L : Cond) (hL : ∀ (args : Array Value) (s t : State), L.after args s (.returned (some (.int 1))) t = true) :
    ArmFor flags0 classFile x code maxLocals ret World_1 tables_1 room_1 Calls_1 rest_1 Pre_1
      (fun tb e a s o t => postC L tb e a s o t ∧ Framed s o t (fieldLocs frame_1_writes a s ++ arrayLocs frame_1_arrays a s ++ staticLocs frame_1_statics s) 601024 7293034) := by
  intro l hfl _ _ p e ha hc hk s m args below hf hfit hheap happ hpre
  obtain ⟨k, o, h1, h2, h3, rfl, hF⟩ := lw_comes l (by unfold Launch.stackTraces; rw [hfl]; decide +kernel) p e ha hc hk s m args below hf hfit hheap happ hpre
  exact ⟨k, _, h1, h2, h3, hL args s _, lw_frame hF⟩
theorem i_vc : Claimed_1_1 ∧ Claimed_1_2 := ⟨lw_limb limb_1_1 (fun args s t => by simp [limb_1_1, Cond.after, Cond.holds, Cond.value]), lw_limb limb_1_2 (fun args s t => Cond.after_iff.mpr (by
  first | (rw [show limb_1_2 = Cond.eq .result (.int 1) from rfl, Cond.eq_ints (x := 1) (y := 1) rfl rfl]; simp; done) | (simp [limb_1_2, Cond.value, Term.eval]; done)))⟩
