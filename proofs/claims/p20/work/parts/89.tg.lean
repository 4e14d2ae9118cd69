/-! THE VARIABLES OF THE PROCESSES THAT ARE KEPT -/
/-- rows that are being made -/
def DW (σ : rS) : Prop := ∀ v : Nat, (v : Int) < (σ.1 9).toInt → ia σ 0 (9216 + v) = 1 → ia σ 1 (9216 + v) = ia σ 2 (9216 + v)
/-- where the variables of a process lie -/
def kB (σ : rS) : Prop := ∀ p : Nat, (p : Int) < (σ.1 23).toInt → 0 ≤ (ia σ 18 p).toInt ∧ 0 ≤ (ia σ 19 p).toInt ∧ (ia σ 18 p).toInt + (ia σ 19 p).toInt ≤ (σ.1 8).toInt
def UV (a : Nat) (σ : rS) (p : Nat) (h : ah_H) : Prop := h.1 a = some (8, [aR (a + 1), aI (ia σ 19 p)]) ∧ ∃ row, h.1 (a + 1) = some (117, row) ∧ ∀ i : Nat, (i : Int) < (ia σ 19 p).toInt → ∃ th nw ls ev ac, row[i]? = some (aR th) ∧ h.1 th = some (7, [aI (sF σ (1024 + (ia σ 18 p).toInt.toNat + i) 0), aI (sF σ (1024 + (ia σ 18 p).toInt.toNat + i) 1), aI (sF σ (1024 + (ia σ 18 p).toInt.toNat + i) 2), aI (sF σ (1024 + (ia σ 18 p).toInt.toNat + i) 3), aR nw, aR ls, aI ev, aI ac])
/-- the addresses of what was made with the object -/
def PA (x sg un vr rs rw : Nat) (h : ah_H) : Prop := ∃ mk lk td rn uc nk nd ht ro rc cs cv, h.1 x = some (0, [aR sg, aR mk, aR lk, aR un, aI uc, aI nk, aR td, aR rn]) ∧ h.1 mk = some (4, [aR nd, aR vr, aR ht, aR ro, aI rc]) ∧ h.1 sg = some (8, [aR rs, aI cs]) ∧ h.1 vr = some (8, [aR rw, aI cv])
def PR (x : Nat) (σ : rS) (h : ah_H) : Prop := ∃ sg un vr rs rw, PA x sg un vr rs rw h ∧ (sg < x + 656 ∧ vr < x + 656 ∧ rs < x + 656 ∧ rw < x + 656 ∧ x + 656 ≤ h.2.1) ∧ DW σ ∧ kB σ ∧ ∃ vu, h.1 un = some (120, vu) ∧ ∀ p : Nat, (p : Int) < (σ.1 23).toInt → ∃ u m rest, vu[p]? = some (aR u) ∧ h.1 u = some (10, aR (m + 1) :: aR (m + 10) :: rest) ∧ x + 656 ≤ m ∧ UV (m + 10) σ p h
section Pv
variable {K K' x : Nat} {κ κ' : kM} {σ σ' : rS} {h h' : ah_H}
/-- a unit as its kind tells -/
theorem un_m {un u m p : Nat} {vu rest : List AV} (W : cI K κ h h) (t : κ un = some (120, 64)) (e : h.1 un = some (120, vu)) (hp : vu[p]? = some (aR u)) (eu : h.1 u = some (10, aR (m + 1) :: aR (m + 10) :: rest)) : κ u = some (10, m) ∧ (∃ vn, κ (m + 10) = some (8, vn)) ∧ p < 64 := by
  obtain ⟨vs, ev, ol, -, ov⟩ := W.1 un 120 64 t
  have ev : h.1 un = some (120, vs) := ev
  rw [e] at ev
  cases ev
  have hl : p < vu.length := (List.getElem?_eq_some_iff.mp hp).1
  obtain ⟨r, q1, q2⟩ := ov p (by omega)
  rw [hp] at q1
  cases q1
  obtain ⟨m', q3⟩ := q2 u rfl
  obtain ⟨nd, nn, vr, vn, s2, s3, s4, s5, s6, s7, s8, w9, nx, en, ec, k1, k2, -⟩ := o10 W q3
  rw [eu] at ec
  injection ec with ec
  injection ec with _ ec
  injection ec with ec1 ec
  injection ec1 with ec1
  injection ec1 with ec1
  injection ec1 with ec1
  have : m' = m := by omega
  subst this
  exact ⟨q3, ⟨vn, k2⟩, by omega⟩
theorem UV_k {a p vn : Nat} (W : cI K κ h h) (t : κ a = some (8, vn)) (U : UV a σ p h) : κ (a + 1) = some (117, vn) ∧ ∀ row, h.1 (a + 1) = some (117, row) → row.length = vn ∧ (ia σ 19 p).toInt ≤ vn ∧ vn ≤ 4000 ∧ (∀ i, i < vn → ∃ r, row[i]? = some (.inr (.inr r)) ∧ ∀ t, r = some t → κ t = some (7, 0)) := by
  obtain ⟨u1, -⟩ := U
  obtain ⟨z1, z2, ez, t1, b0, b1, -⟩ := o8 W t
  rw [u1] at ez
  cases ez
  refine ⟨t1, fun row er => ?_⟩
  obtain ⟨vs, ev, ol, ol2, ov⟩ := W.1 (a + 1) 117 vn t1
  have ev : h.1 (a + 1) = some (117, vs) := ev
  rw [er] at ev
  cases ev
  exact ⟨ol, b1, ol2, ov⟩
theorem UV_gen {a p vn B0 : Nat} (W : cI K κ h h) (t : κ a = some (8, vn)) (hB : B0 ≤ a) (U : UV a σ p h) (hs : ∀ q v, κ q = some v → v.1 = 8 ∨ v.1 = 117 → B0 ≤ q → h'.1 q = h.1 q) (h7 : ∀ (q : Nat) (i l lo hi ev ac : Int32) (nw ls : Nat), κ q = some (7, 0) → h.1 q = some (7, [aI i, aI l, aI lo, aI hi, aR nw, aR ls, aI ev, aI ac]) → ∃ nw ls ev ac, h'.1 q = some (7, [aI i, aI l, aI lo, aI hi, aR nw, aR ls, aI ev, aI ac])) : UV a σ p h' := by
  obtain ⟨t1, ok⟩ := UV_k W t U
  obtain ⟨u1, row, u2, u3⟩ := U
  obtain ⟨o1, -, -, o3⟩ := ok row u2
  refine ⟨(hs a _ t (Or.inl rfl) hB).trans u1, row, (hs (a + 1) _ t1 (Or.inr rfl) (by omega)).trans u2, fun i hi => ?_⟩
  obtain ⟨th, nw, ls, ev, ac, j1, j2⟩ := u3 i hi
  have hl : i < row.length := (List.getElem?_eq_some_iff.mp j1).1
  obtain ⟨r, k1, k2⟩ := o3 i (by omega)
  rw [j1] at k1
  cases k1
  obtain ⟨nw', ls', ev2, ac2, j3⟩ := h7 th _ _ _ _ _ _ _ _ (k2 th rfl) j2
  exact ⟨th, nw', ls', ev2, ac2, j1, j3⟩
theorem PA_k {sg un vr rs rw : Nat} (W : cI K κ h h) (t0 : κ x = some (0, 0)) (P : PA x sg un vr rs rw h) : κ sg = some (8, 512) ∧ κ un = some (120, 64) ∧ κ vr = some (8, 128) ∧ κ rs = some (117, 512) ∧ κ rw = some (117, 128) := by
  obtain ⟨mk, lk, td, rn, uc, nk, nd, ht, ro, rc, cs, cv, a1, a2, a3, a4⟩ := P
  obtain ⟨x1, x2, x3, x4, x5, x6, x7, x8, ex, p1, p2, -, p4, -⟩ := o0 W t0
  rw [a1] at ex
  cases ex
  obtain ⟨y1, y2, y3, y4, y5, ey, -, r2, -⟩ := o4 W p2
  rw [a2] at ey
  cases ey
  obtain ⟨z1, z2, ez, t1, -⟩ := o8 W p1
  rw [a3] at ez
  cases ez
  obtain ⟨w1, w2, ew, t2, -⟩ := o8 W r2
  rw [a4] at ew
  cases ew
  exact ⟨p1, p4, r2, t1, t2⟩
theorem PA_gen {sg un vr rs rw : Nat} (W : cI K κ h h) (t0 : κ x = some (0, 0)) (P : PA x sg un vr rs rw h) (hs : ∀ q v, κ q = some v → v = (0, 0) ∨ v = (4, 0) ∨ v = (8, 512) ∨ v = (8, 128) → h'.1 q = h.1 q) : PA x sg un vr rs rw h' := by
  obtain ⟨k1, -, k3, -, -⟩ := PA_k W t0 P
  obtain ⟨mk, lk, td, rn, uc, nk, nd, ht, ro, rc, cs, cv, a1, a2, a3, a4⟩ := P
  obtain ⟨x1, x2, x3, x4, x5, x6, x7, x8, ex, p1, p2, -⟩ := o0 W t0
  rw [a1] at ex
  cases ex
  exact ⟨mk, lk, td, rn, uc, nk, nd, ht, ro, rc, cs, cv, (hs _ _ t0 (Or.inl rfl)).trans a1, (hs _ _ p2 (Or.inr (Or.inl rfl))).trans a2, (hs _ _ k1 (Or.inr (Or.inr (Or.inl rfl)))).trans a3, (hs _ _ k3 (Or.inr (Or.inr (Or.inr rfl)))).trans a4⟩
theorem PR_gen (W : cI K κ h h) (t0 : κ x = some (0, 0)) (P : PR x σ h) (W' : cI K' κ' h' h') (le : ∀ q v, κ q = some v → κ' q = some v) (hl : h.2.1 ≤ h'.2.1) (hA : ∀ sg un vr rs rw, PA x sg un vr rs rw h → PA x sg un vr rs rw h') (hu : ∀ q n, κ q = some (120, n) → h'.1 q = h.1 q) (hs : ∀ q v, κ q = some v → v.1 = 8 ∨ v.1 = 117 → x + 656 ≤ q → h'.1 q = h.1 q) (h7 : ∀ (q : Nat) (i l lo hi ev ac : Int32) (nw ls : Nat), κ q = some (7, 0) → h.1 q = some (7, [aI i, aI l, aI lo, aI hi, aR nw, aR ls, aI ev, aI ac]) → ∃ nw ls ev ac, h'.1 q = some (7, [aI i, aI l, aI lo, aI hi, aR nw, aR ls, aI ev, aI ac])) : PR x σ h' := by
  obtain ⟨sg, un, vr, rs, rw, pa, ⟨b1, b2, b3, b4, b5⟩, dw, kb, vu, e2, e3⟩ := P
  obtain ⟨-, p4, -⟩ := PA_k W t0 pa
  refine ⟨sg, un, vr, rs, rw, hA _ _ _ _ _ pa, ⟨b1, b2, b3, b4, by omega⟩, dw, kb, vu, (hu un _ p4).trans e2, fun p hp => ?_⟩
  obtain ⟨u, m, rest, q1, q2, q3, q4⟩ := e3 p hp
  obtain ⟨ku, ⟨vn, kv⟩, -⟩ := un_m W p4 e2 q1 q2
  obtain ⟨nd, nn, vr, vn', s2, s3, s4, s5, s6, s7, s8, w9, nx, en, ec, -⟩ := o10 W' (le _ _ ku)
  exact ⟨u, m, _, q1, ec, q3, UV_gen W kv (by omega) q4 hs h7⟩
theorem UV_e {a p : Nat} (U : UV a σ p h) (g1 : ia σ' 18 p = ia σ 18 p) (g2 : ia σ' 19 p = ia σ 19 p) (g3 : ∀ (i : Nat), (i : Int) < (ia σ 19 p).toInt → ∀ j, sF σ' (1024 + (ia σ 18 p).toInt.toNat + i) j = sF σ (1024 + (ia σ 18 p).toInt.toNat + i) j) : UV a σ' p h := by
  obtain ⟨u1, row, u2, u3⟩ := U
  unfold UV
  rw [g1, g2]
  refine ⟨u1, row, u2, fun i hi => ?_⟩
  rw [g3 i hi, g3 i hi, g3 i hi, g3 i hi]
  exact u3 i hi
theorem PR_eq (R : RI σ) (P : PR x σ h) (g : KG σ σ') (g8 : (σ.1 8).toInt ≤ (σ'.1 8).toInt) (dw' : DW σ') : PR x σ' h := by
  obtain ⟨sg, un, vr, rs, rw, pa, bb, dw, kb, vu, e2, e3⟩ := P
  obtain ⟨g1, g2, g3⟩ := g
  have nj := R.2.2.2.1.1
  obtain ⟨n1, n2, n3, n4, n5, n6, n7, n8, n9, n10⟩ := nj
  refine ⟨sg, un, vr, rs, rw, pa, bb, dw', fun p hp => ?_, vu, e2, fun p hp => ?_⟩
  · rw [g1] at hp
    have := kb p hp
    rw [g2 18 p (Or.inl rfl), g2 19 p (Or.inr rfl)]
    omega
  · rw [g1] at hp
    have kk := kb p hp
    obtain ⟨u, m, rest, q1, q2, q3, q4⟩ := e3 p hp
    exact ⟨u, m, rest, q1, q2, q3, UV_e q4 (g2 18 p (Or.inl rfl)) (g2 19 p (Or.inr rfl)) (fun i hi => sF_e (fun j hj => g3 j _ hj (by omega) (by omega)))⟩
theorem DW_e (N : NJ σ) (g : TG σ σ') (d : DW σ) : DW σ' := by
  obtain ⟨g1, -, g3⟩ := g
  obtain ⟨-, -, -, -, c0, c1, -⟩ := N
  intro v hv
  rw [g1 9 (by omega)] at hv
  rw [g3 0 _ (by omega) (by omega) (by omega), g3 1 _ (by omega) (by omega) (by omega), g3 2 _ (by omega) (by omega) (by omega)]
  exact d v hv
theorem KG_t (g : TG σ σ') : KG σ σ' := ⟨g.1 23 (by omega), fun j i hj => g.2.1 j i (by omega) (by omega), fun j i h1 h2 h3 => g.2.2 j i h1 (by omega) (by omega)⟩
theorem PR_t (R : RI σ) (P : PR x σ h) (g : TG σ σ') : PR x σ' h := PR_eq R P (KG_t g) (by rw [g.1 8 (by omega)]; exact Int.le_refl _) (by obtain ⟨-, -, -, -, -, -, -, dw, -⟩ := P; exact DW_e R.2.2.2.1.1 g dw)
/-! set, the class's codes -/
variable {lim : Nat × Nat} {d : Nat} {v1 v2 v3 v4 : Int32}
theorem n_unitAt {sg mk lk un td rn : Nat} {uc nk : Int32} {vu : List AV} (W : cI K κ h h) (t : κ un = some (120, 64)) (e1 : h.1 x = some (0, [aR sg, aR mk, aR lk, aR un, aI uc, aI nk, aR td, aR rn])) (e2 : h.1 un = some (120, vu)) (hc : uc.toInt ≤ 64) : wq (vc lim (d + 1) m_Code_unitAt [.inr (.inr (some x)), .inl v1] h) (rR fun r h' => h' = h ∧ ((r = none ∧ ¬ (0 ≤ v1.toInt ∧ v1.toInt < uc.toInt)) ∨ ((0 ≤ v1.toInt ∧ v1.toInt < uc.toInt) ∧ vu[v1.toInt.toNat]? = some (.inr (.inr r))))) := by
  have e0 : (0 : Int32).toInt = 0 := rfl
  obtain ⟨vs, ev, ol, -, ov⟩ := W.1 un 120 64 t
  have ev : h.1 un = some (120, vs) := ev
  rw [e2] at ev
  cases ev
  refine wq_eq e_Code_unitAt (wq_if _ (fun c => wq_some (rR_i ⟨rfl, Or.inl ⟨rfl, fun q => ?_⟩⟩)) (fun c => wq_gI e1 rfl (wq_if _ (fun c1 => wq_gR e1 rfl ?_) (fun c1 => wq_some (rR_i ⟨rfl, Or.inl ⟨rfl, fun q => ?_⟩⟩)))))
  · have := lt_i c
    omega
  · have c0 := nlt_i c
    have c1 := lt_i c1
    obtain ⟨r, hr, -⟩ := ov v1.toInt.toNat (by omega)
    exact wq_lR e2 (by decide) c hr (wq_some (rR_i ⟨rfl, Or.inr ⟨⟨by omega, c1⟩, hr⟩⟩))
  · have := nlt_i c1
    omega
/-- the thing that a process's variable is -/
theorem n_varThing (W : cI K κ h h) (t0 : κ x = some (0, 0)) (P : PR x σ h) (C : ∃ sg mk lk un td rn nk, h.1 x = some (0, [aR sg, aR mk, aR lk, aR un, aI (σ.1 23), aI nk, aR td, aR rn])) : wq (vc lim (d + 2) m_Code_variableThing [.inr (.inr (some x)), .inl v1, .inl v2] h) (rR fun r h' => h' = h ∧ ((r = none ∧ ¬ ((0 ≤ v1.toInt ∧ v1.toInt < (σ.1 23).toInt) ∧ (0 ≤ v2.toInt ∧ v2.toInt < (ia σ 19 v1.toInt.toNat).toInt))) ∨ (((0 ≤ v1.toInt ∧ v1.toInt < (σ.1 23).toInt) ∧ (0 ≤ v2.toInt ∧ v2.toInt < (ia σ 19 v1.toInt.toNat).toInt)) ∧ ∃ th nw ls ev ac, r = some th ∧ κ th = some (7, 0) ∧ h.1 th = some (7, [aI (sF σ (vaX σ v1 v2) 0), aI (sF σ (vaX σ v1 v2) 1), aI (sF σ (vaX σ v1 v2) 2), aI (sF σ (vaX σ v1 v2) 3), aR nw, aR ls, aI ev, aI ac])))) := by
  obtain ⟨sg, mk, lk, un, td, rn, nk, ex⟩ := C
  obtain ⟨sg', un', vr', rs', rw', ⟨mk', lk', td', rn', uc', nk', nd', ht', ro', rc', cs', cv', e1, -⟩, -, -, -, vu, e2, e3⟩ := P
  rw [ex] at e1
  cases e1
  obtain ⟨x1, x2, x3, x4, x5, x6, x7, x8, ey, -, -, -, p4, -, -, b0, b1⟩ := o0 W t0
  rw [ex] at ey
  cases ey
  refine wq_eq e_Code_variableThing (wq_at ex (wq_cR (n_unitAt W p4 ex e2 b1) ?_))
  rintro r h1 ⟨e, q⟩
  cases e
  rcases q with ⟨rfl, nq⟩ | ⟨⟨q0, q1⟩, q2⟩
  · exact wq_t rfl (wq_some (rR_i ⟨rfl, Or.inl ⟨rfl, fun g => nq g.1⟩⟩))
  · obtain ⟨u, m, rest, r1, r2, r3, r4⟩ := e3 v1.toInt.toNat (by omega)
    rw [r1] at q2
    cases q2
    obtain ⟨ku, ⟨vn, kv⟩, -⟩ := un_m W p4 e2 r1 r2
    obtain ⟨t1, ok⟩ := UV_k W kv r4
    obtain ⟨u1, row, u2, u3⟩ := r4
    obtain ⟨o1, o2, o3, o4⟩ := ok row u2
    refine wq_f nofun (wq_gR r2 rfl (wq_at u1 (wq_cR (n_Things_pick u1 u2 o1 o3 o2 o4) ?_)))
    rintro r h2 ⟨e, q⟩
    cases e
    refine wq_some (rR_i ⟨rfl, ?_⟩)
    rcases q with ⟨g0, g1, g2⟩ | ⟨g0, rfl⟩
    · obtain ⟨th, nw, ls, ev, ac, w1, w2⟩ := u3 v2.toInt.toNat (by omega)
      rw [w1] at g2
      cases g2
      have hl : v2.toInt.toNat < row.length := (List.getElem?_eq_some_iff.mp w1).1
      obtain ⟨r, k1, k2⟩ := o4 v2.toInt.toNat (by omega)
      rw [w1] at k1
      cases k1
      exact Or.inr ⟨⟨⟨q0, q1⟩, g0, g1⟩, th, nw, ls, ev, ac, rfl, k2 th rfl, w2⟩
    · exact Or.inl ⟨rfl, fun g => g0 g.2⟩
end Pv
