/-! CLASS AND REFERENCE: the trees and variables that are being made -/
/-- the roots -/
def OR (ro : Nat) (σ : rS) (h : ah_H) : Prop := ∃ Lr, h.1 ro = some (100, Lr) ∧ Lr.length = 4000 ∧ ∀ j : Nat, (j : Int) < (σ.1 21).toInt → Lr[j]? = some (aI (ia σ 15 j))
def dsj (A : Nat → Nat) (ht ro : Nat) : Prop := (∀ i j, i < 8 → j < 8 → A i = A j → i = j) ∧ (∀ i, i < 8 → A i ≠ ht ∧ A i ≠ ro) ∧ ht ≠ ro
def CR (x : Nat) (σ : rS) (h : ah_H) : Prop := ∃ sg mk lk un td rn nd vr ht ro A Ls kt, h.1 x = some (0, [aR sg, aR mk, aR lk, aR un, aI (σ.1 23), aI (σ.1 22), aR td, aR rn]) ∧ h.1 lk = some (3, [aR mk, aR nd, aR sg]) ∧ h.1 mk = some (4, [aR nd, aR vr, aR ht, aR ro, aI (σ.1 21)]) ∧ NR nd A Ls kt σ h ∧ TR vr (σ.1 9) (fun j i => sF σ (9216 + i) j) h ∧ HR ht σ h ∧ OR ro σ h ∧ dsj A ht ro
section Cr
variable {K x : Nat} {κ : kM} {σ σ' : rS} {h h' : ah_H}
/-- cells of the trees -/
def trK (v : Nat × Nat) : Prop := v = (0, 0) ∨ v = (3, 0) ∨ v = (4, 0) ∨ v = (5, 4000) ∨ v = (8, 128) ∨ v = (117, 128) ∨ v = (100, 4000)
theorem NR_k {nd : Nat} {A : Nat → Nat} {Ls : Nat → List AV} {kt : Int32} (W : cI K κ h h) (N : NR nd A Ls kt σ h) (t : κ nd = some (5, 4000)) : ∀ j, j < 8 → κ (A j) = some (100, 4000) := by
  obtain ⟨x1, x2, x3, x4, x5, x6, x7, x8, x9, x10, ex, p0, p1, p2, p3, p4, p5, p6, p7, -⟩ := o5 W t
  rw [N.1] at ex
  injection ex with ex
  injection ex with ex1 ex
  injection ex with q0 ex
  injection ex with q1 ex
  injection ex with q2 ex
  injection ex with q3 ex
  injection ex with q4 ex
  injection ex with q5 ex
  injection ex with q6 ex
  injection ex with q7 ex
  injection q0 with q0
  injection q0 with q0
  injection q0 with q0
  injection q1 with q1
  injection q1 with q1
  injection q1 with q1
  injection q2 with q2
  injection q2 with q2
  injection q2 with q2
  injection q3 with q3
  injection q3 with q3
  injection q3 with q3
  injection q4 with q4
  injection q4 with q4
  injection q4 with q4
  injection q5 with q5
  injection q5 with q5
  injection q5 with q5
  injection q6 with q6
  injection q6 with q6
  injection q6 with q6
  injection q7 with q7
  injection q7 with q7
  injection q7 with q7
  intro j hj
  match j, hj with
  | 0, _ => rw [q0]; exact p0
  | 1, _ => rw [q1]; exact p1
  | 2, _ => rw [q2]; exact p2
  | 3, _ => rw [q3]; exact p3
  | 4, _ => rw [q4]; exact p4
  | 5, _ => rw [q5]; exact p5
  | 6, _ => rw [q6]; exact p6
  | 7, _ => rw [q7]; exact p7
theorem CR_gen (W : cI K κ h h) (t0 : κ x = some (0, 0)) (C : CR x σ h) (hs : ∀ q v, κ q = some v → trK v → h'.1 q = h.1 q) (h7 : ∀ (q : Nat) (i l lo hi ev ac : Int32) (nw ls : Nat), κ q = some (7, 0) → h.1 q = some (7, [aI i, aI l, aI lo, aI hi, aR nw, aR ls, aI ev, aI ac]) → ∃ nw ls ev ac, h'.1 q = some (7, [aI i, aI l, aI lo, aI hi, aR nw, aR ls, aI ev, aI ac])) : CR x σ h' := by
  obtain ⟨sg, mk, lk, un, td, rn, nd, vr, ht, ro, A, Ls, kt, e1, e2, e3, N, T, H, O, ds⟩ := C
  obtain ⟨x1, x2, x3, x4, x5, x6, x7, x8, ex, -, p2, p3, -⟩ := o0 W t0
  rw [e1] at ex
  cases ex
  obtain ⟨y1, y2, y3, y4, y5, ey, r1, r2, r3, r4, -⟩ := o4 W p2
  rw [e3] at ey
  cases ey
  have kA := NR_k W N r1
  obtain ⟨rs, row, M, f1, f2, f3, f4, f5, f6, f7⟩ := T
  obtain ⟨z1, z2, ez, s1, -⟩ := o8 W r2
  rw [f1] at ez
  cases ez
  obtain ⟨vs, ev, -, -, ov⟩ := W.1 rs 117 128 s1
  have ev : h.1 rs = some (117, vs) := ev
  rw [f2] at ev
  cases ev
  obtain ⟨n1, n2, n3, n4⟩ := N
  obtain ⟨Lh, g1, g2, g3⟩ := H
  obtain ⟨Lr, i1, i2, i3⟩ := O
  refine ⟨sg, mk, lk, un, td, rn, nd, vr, ht, ro, A, Ls, kt, (hs x _ t0 (Or.inl rfl)).trans e1, (hs lk _ p3 (Or.inr (Or.inl rfl))).trans e2, (hs mk _ p2 (Or.inr (Or.inr (Or.inl rfl)))).trans e3, ⟨(hs nd _ r1 (Or.inr (Or.inr (Or.inr (Or.inl rfl))))).trans n1, fun j hj => ⟨(hs _ _ (kA j hj) (Or.inr (Or.inr (Or.inr (Or.inr (Or.inr (Or.inr rfl))))))).trans (n2 j hj).1, (n2 j hj).2⟩, n3, n4⟩, ⟨rs, row, M, (hs vr _ r2 (Or.inr (Or.inr (Or.inr (Or.inr (Or.inl rfl)))))).trans f1, (hs rs _ s1 (Or.inr (Or.inr (Or.inr (Or.inr (Or.inr (Or.inl rfl))))))).trans f2, f3, f4, f5, f6, fun i hi => ?_⟩, ⟨Lh, (hs ht _ r3 (Or.inr (Or.inr (Or.inr (Or.inr (Or.inr (Or.inr rfl))))))).trans g1, g2, g3⟩, ⟨Lr, (hs ro _ r4 (Or.inr (Or.inr (Or.inr (Or.inr (Or.inr (Or.inr rfl))))))).trans i1, i2, i3⟩, ds⟩
  obtain ⟨th, nw, ls, ev, ac, j1, j2⟩ := f7 i hi
  have hl : i < row.length := (List.getElem?_eq_some_iff.mp j1).1
  obtain ⟨vs', ev', ol, -⟩ := W.1 rs 117 128 s1
  have ev' : h.1 rs = some (117, vs') := ev'
  rw [f2] at ev'
  cases ev'
  obtain ⟨r, k1, k2⟩ := ov i (by omega)
  rw [j1] at k1
  cases k1
  obtain ⟨nw', ls', ev2, ac2, j3⟩ := h7 th _ _ _ _ _ _ _ _ (k2 th rfl) j2
  exact ⟨th, nw', ls', ev2, ac2, j1, j3⟩
theorem sq_e (g : ∀ i, ia σ' 12 i = ia σ 12 i) : ∀ (i : Nat) (c : Int32), sq σ' i c = sq σ i c := by
  intro i
  induction i with
  | zero => intro c; rfl
  | succ i ih =>
    intro c
    have e : nx1 σ' c = nx1 σ c := by
      unfold nx1
      rw [g]
    show sq σ' i (nx1 σ' c) = sq σ i (nx1 σ c)
    rw [e]
    exact ih _
theorem sF_e {i : Nat} (g : ∀ j, j ≤ 3 → ia σ' j i = ia σ j i) (j : Nat) : sF σ' i j = sF σ i j := by
  have g0 := g 0 (by omega)
  have g1 := g 1 (by omega)
  have g2 := g 2 (by omega)
  have g3 := g 3 (by omega)
  match j with
  | 0 => exact g0
  | 1 =>
    show (if ia σ' 0 i = 1 then ia σ' 1 i else 1) = (if ia σ 0 i = 1 then ia σ 1 i else 1)
    rw [g0, g1]
  | 2 =>
    show (if ia σ' 0 i = 2 then ia σ' 2 i else 0) = (if ia σ 0 i = 2 then ia σ 2 i else 0)
    rw [g0, g2]
  | n + 3 =>
    show (if ia σ' 0 i = 2 then ia σ' 3 i else 8) = (if ia σ 0 i = 2 then ia σ 3 i else 8)
    rw [g0, g3]
theorem TR_e {a : Nat} {n : Int32} {F G : Nat → Nat → Int32} (T : TR a n F h) (g : ∀ j i : Nat, (i : Int) < n.toInt → G j i = F j i) : TR a n G h := by
  obtain ⟨rs, row, M, f1, f2, f3, f4, f5, f6, f7⟩ := T
  refine ⟨rs, row, M, f1, f2, f3, f4, f5, f6, fun i hi => ?_⟩
  rw [g 0 i hi, g 1 i hi, g 2 i hi, g 3 i hi]
  exact f7 i hi
theorem CR_eq (R : RI σ) (C : CR x σ h) (g : TG σ σ') : CR x σ' h := by
  obtain ⟨sg, mk, lk, un, td, rn, nd, vr, ht, ro, A, Ls, kt, e1, e2, e3, N, T, H, O, ds⟩ := C
  obtain ⟨g1, g2, g3⟩ := g
  have n9 := R.2.2.2.1.1
  obtain ⟨-, -, -, -, c0, c1, -⟩ := n9
  obtain ⟨n1, n2, n3, n4⟩ := N
  obtain ⟨Lh, l1, l2, l3⟩ := H
  obtain ⟨Lr, i1, i2, i3⟩ := O
  have q9 := g1 9 (by omega)
  have q19 := g1 19 (by omega)
  have q21 := g1 21 (by omega)
  have q22 := g1 22 (by omega)
  have q23 := g1 23 (by omega)
  have sqe := sq_e (σ := σ) (σ' := σ') (fun i => g2 12 i (by omega) (by omega))
  refine ⟨sg, mk, lk, un, td, rn, nd, vr, ht, ro, A, Ls, kt, by rw [q23, q22]; exact e1, e2, by rw [q21]; exact e3, ⟨by rw [q19]; exact n1, n2, by rw [q21, q19]; exact n3, fun k hk => ?_⟩, ?_, ⟨Lh, l1, l2, fun k hk => ?_⟩, ⟨Lr, i1, i2, fun j hj => ?_⟩, ds⟩
  · rw [q19] at hk
    obtain ⟨k1, k2, k3, k4, ka, k5, k6, k7, k8⟩ := n4 k hk
    rw [g2 8 k (by omega) (by omega), g2 9 k (by omega) (by omega), g2 13 k (by omega) (by omega), g2 10 k (by omega) (by omega), g2 11 k (by omega) (by omega)]
    exact ⟨k1, k2, k3, k4, ka, k5, k6, k7, fun i hi => by rw [sqe]; exact k8 i hi⟩
  · rw [q9]
    refine TR_e T (fun j i hi => sF_e (fun j hj => g3 j _ hj (by omega) (by omega)) j)
  · rw [q19] at hk
    rw [g2 14 k (by omega) (by omega)]
    exact l3 k hk
  · rw [q21] at hj
    rw [g2 15 j (by omega) (by omega)]
    exact i3 j hj
end Cr
