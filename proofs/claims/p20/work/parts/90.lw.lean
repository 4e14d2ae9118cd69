/-! THE LAW: class and reference side by side -/
theorem wq_hx {lim : Nat × Nat} {d y pc t : Nat} {L : ah_L} {h h' : ah_H} {e : Nat × Nat} {Φ : ah_R → Prop} {M : ah_M} (h1 : h'.2.2.2 = h.2.2.2) (h2 : h'.2.1 = h.2.1 + 1) (hM : ah_P y = some M) (hc : ah_catch M.2.2.1 pc e.1 = some t) (k : wq (ah_val lim ah_P d y t L [.inr (.inr (some e.2))] h') Φ) : wq (ah_hx lim d y pc L h e h') Φ := by
  refine wq_eq ?_ k
  unfold ah_hx
  simp only [h1, h2, hM, hc, Nat.beq_refl, Bool.and_self, cond_true]
/-- the class's signals: how many, and of each four numbers -/
abbrev sV : Type := Int32 × (Nat → Nat → Int32) × rS
def sv (σ : rS) : sV := (σ.1 7, fun j i => sF σ i j, σ)
section Lw
variable {lim : Nat × Nat} {K K' d b x m o L c n : Nat} {xs : Nat → Int32} {κ κ' : kM} {σ σ' : rS} {h h' h1 : ah_H} {cnt : sV}
theorem cI_same (W : cI K κ h h) (hs : ∀ q v, κ q = some v → h'.1 q = h.1 q) : cI K κ h' h' := ⟨fun a kd n t => by obtain ⟨vs, e, o⟩ := W.1 a kd n t; exact ⟨vs, (hs a _ t).trans e, o⟩, fun _ _ => rfl, rfl, rfl⟩
theorem RH_same (H : RH m σ h h) (hs : ∀ q, m ≤ q → q ≤ m + 39 → h'.1 q = h.1 q) : RH m σ h' h' := ⟨(hs m (Nat.le_refl _) (by omega)).trans H.1, fun j hj => (hs _ (by omega) (by omega)).trans (H.2.1 j hj), fun _ _ => rfl, rfl, rfl⟩
/-- the script, the class's object, the reference and the place for answers -/
def LB (b x m o L : Nat) (xs : Nat → Int32) (K : Nat) (κ : kM) (σ : rS) (h : ah_H) : Prop := h.1 b = some (104, (List.range L).map fun j => .inl (xs j)) ∧ cI K κ h h ∧ dm κ h ∧ κ x = some (0, 0) ∧ κ b = none ∧ κ o = none ∧ (∀ q, m ≤ q → q ≤ m + 39 → κ q = none) ∧ RH m σ h h ∧ RI σ ∧ (∃ z, h.1 o = some (101, [aJ z])) ∧ (b < m ∧ m + 39 < o ∧ o < h.2.1)
/-- these signals of the class -/
def sg0 (x : Nat) (cnt : sV) (h : ah_H) : Prop := ∃ sg mk lk un uc nk td rn rs row, h.1 x = some (0, [aR sg, aR mk, aR lk, aR un, aI uc, aI nk, aR td, aR rn]) ∧ h.1 sg = some (8, [aR rs, aI cnt.1]) ∧ h.1 rs = some (117, row) ∧ ∀ i : Nat, (i : Int) < cnt.1.toInt → ∃ th nw ls ev ac, row[i]? = some (aR th) ∧ h.1 th = some (7, [aI (cnt.2.1 0 i), aI (cnt.2.1 1 i), aI (cnt.2.1 2 i), aI (cnt.2.1 3 i), aR nw, aR ls, aI ev, aI ac])
theorem sg0_sv {cnt' : sV} (S : sg0 x cnt h) (h1 : cnt'.1 = cnt.1) (h2 : ∀ j i : Nat, j ≤ 3 → (i : Int) < cnt.1.toInt → cnt'.2.1 j i = cnt.2.1 j i) : sg0 x cnt' h := by
  obtain ⟨sg, mk, lk, un, uc, nk, td, rn, rs, row, e1, e2, e3, e4⟩ := S
  refine ⟨sg, mk, lk, un, uc, nk, td, rn, rs, row, e1, by rw [h1]; exact e2, e3, fun i hi => ?_⟩
  rw [h1] at hi
  obtain ⟨th, nw, ls, ev, ac, r1, r2⟩ := e4 i hi
  refine ⟨th, nw, ls, ev, ac, r1, ?_⟩
  rw [h2 0 i (by omega) hi, h2 1 i (by omega) hi, h2 2 i (by omega) hi, h2 3 i (by omega) hi]
  exact r2
/-- signals, trees and variables -/
def sgR (x : Nat) (cnt : sV) (h : ah_H) : Prop := sg0 x cnt h ∧ CR x cnt.2.2 h ∧ PR x cnt.2.2 h
theorem sgR_sv {cnt' : sV} (S : sgR x cnt h) (h1 : cnt'.1 = cnt.1) (h2 : ∀ j i : Nat, j ≤ 3 → (i : Int) < cnt.1.toInt → cnt'.2.1 j i = cnt.2.1 j i) (h3 : CR x cnt'.2.2 h) (h4 : PR x cnt'.2.2 h) : sgR x cnt' h := ⟨sg0_sv S.1 h1 h2, h3, h4⟩
/-- what a call of the class leaves -/
def cS (κ κ' : kM) (K' c n : Nat) (h h' : ah_H) : Prop := cI K' κ' h' h' ∧ dm κ' h' ∧ (∀ q v, κ q = some v → κ' q = some v) ∧ (∀ q, q < h.2.1 → κ q = none → κ' q = none ∧ h'.1 q = h.1 q) ∧ h.2.1 ≤ h'.2.1 ∧ h'.2.1 ≤ h.2.1 + c ∧ h'.2.2.1 ≤ h.2.2.1 + n
theorem LB_class (B : LB b x m o L xs K κ σ h) (C : cS κ κ' K' c n h h') : LB b x m o L xs K' κ' σ h' := by
  obtain ⟨b1, b2, b3, b4, b5, b6, b7, b8, b9, ⟨z, b10⟩, l1, l2, l3⟩ := B
  obtain ⟨c1, c2, c3, c4, c5, c6, c7⟩ := C
  exact ⟨(c4 b (by omega) b5).2.trans b1, c1, c2, c3 _ _ b4, (c4 b (by omega) b5).1, (c4 o l3 b6).1, fun q h1 h2 => (c4 q (by omega) (b7 q h1 h2)).1, RH_same b8 (fun q h1 h2 => (c4 q (by omega) (b7 q h1 h2)).2), b9, ⟨z, (c4 o l3 b6).2.trans b10⟩, l1, l2, by omega⟩
theorem LB_out {z : Int64} (B : LB b x m o L xs K κ σ h) : LB b x m o L xs K κ σ (ah_up h o (101, [aJ z])) := by
  obtain ⟨b1, b2, b3, b4, b5, b6, b7, b8, b9, -, l1, l2, l3⟩ := B
  refine ⟨up_ne (by omega) b1, cI_same b2 (fun q v hq => up_ne (fun e => ?_) rfl), b3, b4, b5, b6, b7, RH_same b8 (fun q h1 h2 => up_ne (by omega) rfl), b9, ⟨z, up_eq⟩, l1, l2, l3⟩
  subst e
  rw [hq] at b6
  cases b6
theorem LB_ref (B : LB b x m o L xs K κ σ h) (H : RH m σ' h h') (R : RI σ') : LB b x m o L xs K κ σ' h' := by
  obtain ⟨b1, b2, b3, b4, b5, b6, b7, b8, b9, ⟨z, b10⟩, l1, l2, l3⟩ := B
  obtain ⟨H1, H2, H3, H4, H5⟩ := H
  have out : ∀ q, κ q ≠ none → q < m ∨ m + 39 < q := fun q hq => by
    rcases Nat.lt_or_ge q m with g | g
    · exact Or.inl g
    · rcases Nat.lt_or_ge (m + 39) q with g2 | g2
      · exact Or.inr g2
      · exact absurd (b7 q g g2) hq
  exact ⟨(H3 b (by omega)).trans b1, cI_same b2 (fun q v hq => H3 q (out q (by rw [hq]; nofun))), fun a v hv => by rw [H4]; exact b3 a v hv, b4, b5, b6, b7, RH_self ⟨H1, H2, H3, H4, H5⟩, R, ⟨z, (H3 o (by omega)).trans b10⟩, l1, l2, by rw [H4]; exact l3⟩
theorem sg_k (B : LB b x m o L xs K κ σ h) {sg mk lk un td rn : Nat} {uc nk : Int32} (e : h.1 x = some (0, [aR sg, aR mk, aR lk, aR un, aI uc, aI nk, aR td, aR rn])) : κ sg = some (8, 512) ∧ κ mk = some (4, 0) ∧ κ lk = some (3, 0) ∧ κ un = some (120, 64) := by
  obtain ⟨-, b2, -, b4, -⟩ := B
  obtain ⟨x1, x2, x3, x4, x5, x6, x7, x8, ex, p1, p2, p3, p4, -⟩ := o0 b2 b4
  rw [e] at ex
  cases ex
  exact ⟨p1, p2, p3, p4⟩
theorem sg_r {sg rs : Nat} {c : Int32} (B : LB b x m o L xs K κ σ h) (k : κ sg = some (8, 512)) (e : h.1 sg = some (8, [aR rs, aI c])) : κ rs = some (117, 512) ∧ 0 ≤ c.toInt ∧ c.toInt ≤ 512 := by
  obtain ⟨r1, r2, e3, t1, b0, b1, -⟩ := o8 B.2.1 k
  rw [e] at e3
  cases e3
  exact ⟨t1, b0, b1⟩
theorem sg_w {rs : Nat} {row : List AV} (B : LB b x m o L xs K κ σ h) (k : κ rs = some (117, 512)) (e : h.1 rs = some (117, row)) : row.length = 512 ∧ ∀ i, i < 512 → ∃ r, row[i]? = some (.inr (.inr r)) ∧ ∀ t, r = some t → κ t = some (7, 0) := by
  obtain ⟨vs, e', ⟨o1, -, o3⟩⟩ := B.2.1.1 rs 117 512 k
  have e' : h.1 rs = some (117, vs) := e'
  rw [e] at e'
  cases e'
  exact ⟨o1, o3⟩
theorem sg_t {rs i th : Nat} {row : List AV} (B : LB b x m o L xs K κ σ h) (k : κ rs = some (117, 512)) (e : h.1 rs = some (117, row)) (hr : row[i]? = some (aR th)) : κ th = some (7, 0) := by
  obtain ⟨o1, o3⟩ := sg_w B k e
  have hi : i < row.length := (List.getElem?_eq_some_iff.mp hr).1
  obtain ⟨r, q1, q2⟩ := o3 i (by omega)
  rw [hr] at q1
  cases q1
  exact q2 th rfl
theorem sg0_gen (B : LB b x m o L xs K κ σ h) (S : sg0 x cnt h) (hs : ∀ q, κ q = some (0, 0) ∨ κ q = some (8, 512) ∨ κ q = some (117, 512) → h'.1 q = h.1 q) (h7 : ∀ (q : Nat) (i l lo hi ev ac : Int32) (nw ls : Nat), κ q = some (7, 0) → h.1 q = some (7, [aI i, aI l, aI lo, aI hi, aR nw, aR ls, aI ev, aI ac]) → ∃ nw ls ev ac, h'.1 q = some (7, [aI i, aI l, aI lo, aI hi, aR nw, aR ls, aI ev, aI ac])) : sg0 x cnt h' := by
  obtain ⟨sg, mk, lk, un, uc, nk, td, rn, rs, row, e1, e2, e3, e4⟩ := S
  have k := (sg_k B e1).1
  have k2 := (sg_r B k e2).1
  refine ⟨sg, mk, lk, un, uc, nk, td, rn, rs, row, (hs x (Or.inl B.2.2.2.1)).trans e1, (hs sg (Or.inr (Or.inl k))).trans e2, (hs rs (Or.inr (Or.inr k2))).trans e3, fun i hi => ?_⟩
  obtain ⟨th, nw, ls, ev, ac, r1, r2⟩ := e4 i hi
  obtain ⟨nw', ls', ev', ac', r3⟩ := h7 th _ _ _ _ _ _ _ _ (sg_t B k2 e3 r1) r2
  exact ⟨th, nw', ls', ev', ac', r1, r3⟩
/-- cells of signals, of trees and of what is kept -/
def sgK (v : Nat × Nat) : Prop := v = (8, 512) ∨ v = (117, 512) ∨ trK v ∨ v.1 = 120 ∨ v.1 = 8 ∨ v.1 = 117
theorem sgR_gen {K1 : Nat} (B : LB b x m o L xs K κ σ h) (S : sgR x cnt h) (W' : cI K1 κ' h' h') (le : ∀ q v, κ q = some v → κ' q = some v) (hl : h.2.1 ≤ h'.2.1) (hs : ∀ q v, κ q = some v → sgK v → h'.1 q = h.1 q) (h7 : ∀ (q : Nat) (i l lo hi ev ac : Int32) (nw ls : Nat), κ q = some (7, 0) → h.1 q = some (7, [aI i, aI l, aI lo, aI hi, aR nw, aR ls, aI ev, aI ac]) → ∃ nw ls ev ac, h'.1 q = some (7, [aI i, aI l, aI lo, aI hi, aR nw, aR ls, aI ev, aI ac])) : sgR x cnt h' := by
  refine ⟨sg0_gen B S.1 (fun q hq => ?_) h7, CR_gen B.2.1 B.2.2.2.1 S.2.1 (fun q v hq hv => hs q v hq (Or.inr (Or.inr (Or.inl hv)))) h7, PR_gen B.2.1 B.2.2.2.1 S.2.2 W' le hl (fun sg un vr rs rw pa => PA_gen B.2.1 B.2.2.2.1 pa (fun q v hq hv => ?_)) (fun q n hq => hs q _ hq (Or.inr (Or.inr (Or.inr (Or.inl rfl))))) (fun q v hq hv _ => hs q v hq (Or.inr (Or.inr (Or.inr (Or.inr hv))))) h7⟩
  · rcases hq with hq | hq | hq
    · exact hs q _ hq (Or.inr (Or.inr (Or.inl (Or.inl rfl))))
    · exact hs q _ hq (Or.inl rfl)
    · exact hs q _ hq (Or.inr (Or.inl rfl))
  · rcases hv with rfl | rfl | rfl | rfl
    · exact hs q _ hq (Or.inr (Or.inr (Or.inl (Or.inl rfl))))
    · exact hs q _ hq (Or.inr (Or.inr (Or.inl (Or.inr (Or.inr (Or.inl rfl))))))
    · exact hs q _ hq (Or.inl rfl)
    · exact hs q _ hq (Or.inr (Or.inr (Or.inl (Or.inr (Or.inr (Or.inr (Or.inr (Or.inl rfl))))))))
theorem sgR_all (B : LB b x m o L xs K κ σ h) (S : sgR x cnt h) (hl : h.2.1 ≤ h'.2.1) (hs : ∀ q v, κ q = some v → h'.1 q = h.1 q) : sgR x cnt h' := sgR_gen B S (cI_same B.2.1 hs) (fun _ _ e => e) hl (fun q v hq _ => hs q v hq) (fun q i l lo hi ev ac nw ls t e => ⟨nw, ls, ev, ac, (hs q _ t).trans e⟩)
theorem sg0_f (B : LB b x m o L xs K κ σ h) (S : sg0 x cnt h) {ws : List Nat} (g : fk ws κ h h') (h0 : (ws.contains 0 || ws.contains 8 || ws.contains 117 || ws.contains 7) = false) : sg0 x cnt h' := by
  have h0 : ws.contains 0 = false ∧ ws.contains 8 = false ∧ ws.contains 117 = false ∧ ws.contains 7 = false := by
    revert h0
    cases ws.contains 0 <;> cases ws.contains 8 <;> cases ws.contains 117 <;> cases ws.contains 7 <;> decide
  refine sg0_gen B S (fun q hq => ?_) (fun q i l lo hi ev ac nw ls t e => ⟨nw, ls, ev, ac, (g q _ _ t h0.2.2.2).trans e⟩)
  rcases hq with hq | hq | hq
  · exact g q _ _ hq h0.1
  · exact g q _ _ hq h0.2.1
  · exact g q _ _ hq h0.2.2.1
theorem sgR_out {z : Int64} (B : LB b x m o L xs K κ σ h) (S : sgR x cnt h) : sgR x cnt (ah_up h o (101, [aJ z])) := sgR_all B S (Nat.le_refl _) (fun q v hq => up_ne (fun e => by
  subst e
  have b6 := B.2.2.2.2.2.1
  rw [hq] at b6; cases b6) rfl)
theorem sgR_ref (B : LB b x m o L xs K κ σ h) (S : sgR x cnt h) (H : RH m σ' h h') : sgR x cnt h' := sgR_all B S (by rw [H.2.2.2.1]; exact Nat.le_refl _) (fun q v hq => by
  refine H.2.2.1 q ?_
  have b7 := B.2.2.2.2.2.2.1 q
  rcases Nat.lt_or_ge q m with g | g
  · exact Or.inl g
  · rcases Nat.lt_or_ge (m + 39) q with g2 | g2
    · exact Or.inr g2
    · have := b7 g g2
      rw [hq] at this; cases this)
/-- an exception is made -/
theorem cS_x (B : LB b x m o L xs K κ σ h) {k : Nat} (hK : K ≤ K') : cS κ κ K' 1 6 h (ah_new h (k, []) 6) := by
  obtain ⟨-, b2, b3, -⟩ := B
  refine ⟨cI_same (cI_K hK b2) (fun q v hq => nw_ne (by have := b3 q v hq; omega) rfl), fun a v hv => by have := b3 a v hv; show a < h.2.1 + 1; omega, fun _ _ h => h, fun q hq hn => ⟨hn, nw_ne (by omega) rfl⟩, by show h.2.1 ≤ h.2.1 + 1; omega, Nat.le_refl _, Nat.le_refl _⟩
theorem cS_0 (B : LB b x m o L xs K κ σ h) (hK : K ≤ K') : cS κ κ K' 0 0 h h := ⟨cI_K hK B.2.1, B.2.2.1, fun _ _ h => h, fun q _ hn => ⟨hn, rfl⟩, Nat.le_refl _, Nat.le_refl _, Nat.le_refl _⟩
theorem cS_w (B : LB b x m o L xs K κ σ h) (W : cI K' κ h h') : cS κ κ K' 0 0 h h' := ⟨cI_self W, fun a v hv => by rw [W.2.2.1]; exact B.2.2.1 a v hv, fun _ _ h => h, fun q _ hn => ⟨hn, W.2.1 q hn⟩, by rw [W.2.2.1]; exact Nat.le_refl _, by rw [W.2.2.1]; exact Nat.le_refl _, by rw [W.2.2.2]; exact Nat.le_refl _⟩
theorem cS_a {ws : Nat × Nat → Bool} (A : AL K' ws c n κ h κ' h') : cS κ κ' K' c n h h' := by
  obtain ⟨a1, a2, ⟨a3, a4⟩, a5, a6, a7, a8, a9⟩ := A
  exact ⟨a1, a2, fun q v hq => (a4 q (a3 q v hq)).trans hq, fun q hq hn => ⟨(a4 q hq).trans hn, a5 q hq hn⟩, a7, a8, a9⟩
theorem sgR_x (B : LB b x m o L xs K κ σ h) (S : sgR x cnt h) {k : Nat} : sgR x cnt (ah_new h (k, []) 6) := sgR_all B S (by show h.2.1 ≤ h.2.1 + 1; omega) (fun q v hq => nw_ne (by
  have := B.2.2.1 q v hq
  omega) rfl)
theorem sgR_f {K1 : Nat} (B : LB b x m o L xs K κ σ h) (S : sgR x cnt h) (W : cI K1 κ h h') {ws : List Nat} (g : fk ws κ h h') (h0 : ([0, 3, 4, 5, 7, 8, 100, 117, 120].any fun k => ws.contains k) = false) : sgR x cnt h' := by
  have q : ∀ k, k ∈ [0, 3, 4, 5, 7, 8, 100, 117, 120] → ws.contains k = false := fun k hk => by
    have := List.any_eq_false.mp h0 k hk
    exact Bool.eq_false_iff.mpr this
  refine sgR_gen B S (cI_self W) (fun _ _ e => e) (by rw [W.2.2.1]; exact Nat.le_refl _) (fun q' v hq hv => ?_) (fun q' i l lo hi ev ac nw ls t e => ⟨nw, ls, ev, ac, (g q' _ _ t (q 7 (by simp))).trans e⟩)
  obtain ⟨kd, n⟩ := v
  have hk : kd ∈ [0, 3, 4, 5, 7, 8, 100, 117, 120] := by
    rcases hv with hv | hv | (hv | hv | hv | hv | hv | hv | hv) | hv | hv | hv
    · cases hv; simp
    · cases hv; simp
    · cases hv; simp
    · cases hv; simp
    · cases hv; simp
    · cases hv; simp
    · cases hv; simp
    · cases hv; simp
    · cases hv; simp
    · have hv : kd = 120 := hv
      subst hv; simp
    · have hv : kd = 8 := hv
      subst hv; simp
    · have hv : kd = 117 := hv
      subst hv; simp
  exact g q' _ _ hq (q kd hk)
/-- how a call of the class ends: with the number of signals as it was -/
def lwP (b x m o L : Nat) (xs : Nat → Int32) (K : Nat) (σ : rS) (cnt : sV) (h : ah_H) : ah_R → Prop := rI fun _ h' => ∃ κ', LB b x m o L xs K κ' σ h' ∧ sgR x cnt h' ∧ h'.2.1 ≤ h.2.1 + 20 ∧ h'.2.2.1 ≤ h.2.2.1 + 6000
theorem lwP_x {k : Nat} {z : Int32} (B : LB b x m o L xs K κ σ h) (S : sgR x cnt h) (hK : K ≤ K') : lwP b x m o L xs K' σ cnt h (.inl (some (.inl z)), ah_new h (k, []) 6) := rI_i ⟨κ, LB_class B (cS_x B hK), sgR_x B S, by show h.2.1 + 1 ≤ _; omega, by show h.2.2.1 + 6 ≤ _; omega⟩
/-- the answer is laid down -/
theorem L_lay {Φ : ah_R → Prop} {v : Int64} {K1 : ah_H → Option ah_R} (B : LB b x m o L xs K κ σ h) (k : LB b x m o L xs K κ σ (ah_up h o (101, [aJ v])) → wq (K1 (ah_up h o (101, [aJ v]))) Φ) : wq (ah_sI h (some o) 101 (0 : Int32) (.inr (.inl v)) K1) Φ := by
  obtain ⟨z, e⟩ := B.2.2.2.2.2.2.2.2.2.1
  exact wq_sI e (by decide) (show (0 : Int32).toNatClampNeg < 1 by decide) (k (LB_out B))
theorem L_fin {K1 : Nat} {v : Int64} {z : Int32} (B : LB b x m o L xs K κ σ h) (S : sgR x cnt h) (C : cS κ κ' K1 14 5990 h h1) (S1 : sgR x cnt h1) : wq (ah_sI h1 (some o) 101 (0 : Int32) (.inr (.inl v)) fun h3 => some (.inl (some (.inl z)), h3)) (lwP b x m o L xs K1 σ cnt h) := by
  have B1 := LB_class B C
  refine L_lay B1 (fun B2 => wq_some (rI_i ⟨κ', B2, sgR_out B1 S1, ?_, ?_⟩))
  · have := C.2.2.2.2.2.1; show h1.2.1 ≤ _; omega
  · have := C.2.2.2.2.2.2; show h1.2.2.1 ≤ _; omega
theorem cS_le {c' n' : Nat} (C : cS κ κ' K c n h h') (h1 : c ≤ c') (h2 : n ≤ n') : cS κ κ' K c' n' h h' := ⟨C.1, C.2.1, C.2.2.1, C.2.2.2.1, C.2.2.2.2.1, by have := C.2.2.2.2.2.1; omega, by have := C.2.2.2.2.2.2; omega⟩
theorem lwP_v {K1 : Nat} {z : Int32} (B : LB b x m o L xs K κ σ h) (C : cS κ κ' K1 14 5990 h h1) (S1 : sgR x cnt h1) : lwP b x m o L xs K1 σ cnt h (.inl (some (.inl z)), h1) := rI_i ⟨κ', LB_class B C, S1, by have := C.2.2.2.2.2.1; omega, by have := C.2.2.2.2.2.2; omega⟩
/-- the script is read -/
theorem L_rd {ρ : Type} {Φ : ρ → Prop} {K1 : Int32 → Option ρ} {j : Int32} (B : LB b x m o L xs K κ σ h) (h0 : 0 ≤ j.toInt) (hl : j.toInt < L) (k : wq (K1 (xs j.toInt.toNat)) Φ) : wq (ah_lI h (some b) 104 j K1) Φ :=
  wq_lI B.1 (ix_ge h0) (rm_get (ix_lt h0 hl)) k
theorem L_ax {ρ : Type} {Φ : ρ → Prop} {A : Option ρ} (B : LB b x m o L xs K κ σ h) (k : wq A Φ) : wq (ah_at h (some x) 0 fun _ _ => A) Φ := wk_at B.2.1 B.2.2.2.1 rfl (fun _ => k)
end Lw
