/-! THE CLASS'S add -/
def DXp (x : Nat) (σ : rS) (h : ah_H) : Prop := ∃ l2 l4, h.1 (x + 7) = some (100, l2) ∧ h.1 (x + 9) = some (100, l4) ∧ DX σ l2 l4
def azP (x : Nat) (D : KD) (σ : rS) (v1 v2 v3 : Int32) (h : ah_H) (z : ah_R) : Prop := ((∃ k, z = (.inr (k, h.2.1), ah_new h (k, []) 6)) ∨ ((∃ v, z.1 = .inl v) ∧ (z.2.2.1 = h.2.1 → KI x D z.2) ∧ ∀ σ', adR σ σ' v1 v2 v3 → DXp x σ' z.2))
section Xi
variable {lim : Nat × Nat} {d x nS nU nD : Nat} {c : SCR} {τ : TD} {PS PD : Nat → Nat} {eS eD : Nat → TS} {U : Nat → UD} {h h' : ah_H} {v1 v2 v3 : Int32} {σ : rS} {D : KD} {K : Nat} {κ : kM}
/-- the maker's own cells change -/
theorem KI_mk (I : KI x D h) (f : ∀ q, (q < x + 3 ∨ x + 12 < q) → q ≠ x + 15 → q ≠ x + 16 → h'.1 q = h.1 q) (e3 : ∃ rc : Int32, h'.1 (x + 3) = some (4, [aR (x + 4), aR (x + 13), aR (x + 15), aR (x + 16), aI rc])) (e4 : ∃ cn kt : Int32, h'.1 (x + 4) = some (5, [aR (x + 5), aR (x + 6), aR (x + 7), aR (x + 8), aR (x + 9), aR (x + 10), aR (x + 11), aR (x + 12), aI cn, aI kt])) (sz : h'.2.1 = h.2.1) : KI x D h' := by
  obtain ⟨k1, k2, k3, k4, k5, k6⟩ := I
  obtain ⟨s0, s1, s2, s3, -⟩ := id k6
  have hi : ∀ q, x + 17 ≤ q → h'.1 q = h.1 q := fun q hq => f q (by omega) (by omega) (by omega)
  have th : ∀ (n : Nat) (P : Nat → Nat), bdT x h.2.1 n P → ∀ i, i < n → h'.1 (P i) = h.1 (P i) ∧ h'.1 (P i + 1) = h.1 (P i + 1) ∧ h'.1 (P i + 2) = h.1 (P i + 2) := fun n P b i hi' => ⟨hi _ (by have := (b i hi').1; omega), hi _ (by have := (b i hi').1; omega), hi _ (by have := (b i hi').1; omega)⟩
  refine ⟨?_, CB_t k2 (fun q _ _ => hi q (by omega)), THs_t k3 (f _ (by omega) (by omega) (by omega)) (f _ (by omega) (by omega) (by omega)) (th _ _ s1), fun k hk => UHp_t (k4 k hk) (fun q q1 q2 => hi q (by have := (s3 k hk).1.1; omega)) (th _ _ (s3 k hk).2), THs_t k5 (f _ (by omega) (by omega) (by omega)) (f _ (by omega) (by omega) (by omega)) (th _ _ s2), by rw [sz]; exact k6⟩
  obtain ⟨⟨uc, nk, c1, c2⟩, ⟨vu, c3, c4⟩, -, -, c7, ⟨l1, c8, c9⟩, l2, c10, c11⟩ := k1
  exact ⟨⟨uc, nk, (f _ (by omega) (by omega) (by omega)).trans c1, c2⟩, ⟨vu, (f _ (by omega) (by omega) (by omega)).trans c3, c4⟩, e3, e4, (f _ (by omega) (by omega) (by omega)).trans c7, ⟨l1, (f _ (by omega) (by omega) (by omega)).trans c8, c9⟩, l2, (f _ (by omega) (by omega) (by omega)).trans c10, c11⟩
theorem kq_add (W : cI K κ h h) (t0 : κ x = some (0, 0)) (Dd : DI σ) (C : CR x σ h) (I : KI x D h) (X : DXp x σ h) (hr : rm lim h) : wq (vc lim (d + 4) m_Code_add [.inr (.inr (some x)), .inl v1, .inl v2, .inl v3] h) (azP x D σ v1 v2 v3 h) := by
  obtain ⟨sg, mk, lk, un, td, rn, nd, vr, ht, ro, A, Ls, kt, e1, e2, em, N0, T, Hh, Oo, ds⟩ := id C
  have e99 : (99 : Int32).toInt = 99 := rfl
  have e0 : (0 : Int32).toInt = 0 := rfl
  obtain ⟨d1, d2, d3, d4, -⟩ := id Dd
  have no : wq (ah_val lim ah_P (d + 3) 3 25 [none, none, none, none] [] h) (azP x D σ v1 v2 v3 h) := wq_eq q_3_25 (thX hr (Or.inl ⟨_, rfl⟩))
  obtain ⟨n1, n2, n3, n4⟩ := id N0
  obtain ⟨Lh, a1, a2, -⟩ := id Hh
  obtain ⟨Lr, b1, b2, -⟩ := id Oo
  -- the arrays are of numbers
  obtain ⟨x1, x2, x3, x4, x5, x6, x7, x8, ex, -, p2, p3, -⟩ := o0 W t0
  rw [e1] at ex
  cases ex
  obtain ⟨y1, y2, y3, y4, y5, ey, r1', -⟩ := o4 W p2
  rw [em] at ey
  cases ey
  have kA := NR_k W N0 r1'
  obtain ⟨z1, z2, z3, z4, z5, z6, z7, z8, z9, z10, ez, -, -, -, -, -, -, -, -, -, -, -, kt0, -⟩ := o5 W r1'
  rw [n1] at ez
  have ekt : kt = z10 := by
    injection ez with ez
    injection ez with _ ez
    injection ez with _ ez
    injection ez with _ ez
    injection ez with _ ez
    injection ez with _ ez
    injection ez with _ ez
    injection ez with _ ez
    injection ez with _ ez
    injection ez with _ ez
    injection ez with _ ez
    injection ez with ez _
    injection ez with ez
  rw [← ekt] at kt0
  have F : AF nd A Ls (σ.1 19) kt h := ⟨n1, fun j hj => ⟨(n2 j hj).1, (n2 j hj).2, fun i hi => by
    obtain ⟨vs, ev, -, -, ov⟩ := W.1 _ 100 4000 (kA j hj)
    have ev : h.1 (A j) = some (100, vs) := ev
    rw [(n2 j hj).1] at ev
    cases ev
    exact ov i hi⟩⟩
  refine wq_eq e_Code_add (wq_if _ (fun c => no) (fun c => wq_if _ (fun c1 => wq_if _ (fun c2 => no) (fun c2 => wq_gR e1 rfl (wq_gI em rfl (wq_if _ (fun c3 => ?_) (fun c3 => no))))) (fun c1 => no)))
  have c := nlt_i c
  have c1 := le_i c1
  have c2 := nlt_i c2
  have c3 := le_i c3
  refine wq_gR e1 rfl (wq_gR em rfl (wq_at F.1 (wq_cI (n_isFull F) ?_)))
  rintro y h5 ⟨e, bf⟩
  cases e
  refine wq_if _ (fun g => ?_) (fun g => thX hr (Or.inl ⟨_, rfl⟩))
  have lt : (σ.1 19).toInt < 4000 := by
    have := bo_n bf g
    omega
  refine wq_gR e1 rfl (wq_at em (wq_cI (n_make2 (N := (σ.1 19).toInt.toNat) (R := (σ.1 21).toInt.toNat) (n := v3.toInt.toNat) (k0 := kt.toInt.toNat) Dd (by omega) (by omega) (by omega) (by omega) (by omega) (by omega) (by omega) em Hh Oo F ds ⟨hne em n1 rfl, hne a1 n1 rfl, hne b1 n1 rfl⟩ ⟨hne em a1 rfl, hne em b1 rfl⟩ (fun j hj => hne em (n2 j hj).1 rfl)) ?_))
  rintro y h8 ⟨rfl, ⟨⟨rc, m1, m2⟩, ⟨L, kj, F8, -⟩, -, -, m12⟩, ⟨L2, j2, j4, J, hA⟩⟩
  refine wq_some (Or.inr ⟨⟨_, rfl⟩, ?_⟩)
  -- the exact places
  obtain ⟨⟨⟨uc, nk, q1, -⟩, -, ⟨rc0, q3⟩, ⟨cn, kt1, q4⟩, -⟩, -⟩ := id I
  rw [q1] at e1
  cases e1
  rw [q3] at em
  injection em with em
  injection em with _ em
  injection em with b0 em
  injection em with b1' em
  injection em with b2' em
  injection em with b3' em
  injection b0 with b0
  injection b0 with b0
  injection b0 with b0
  injection b2' with b2'
  injection b2' with b2'
  injection b2' with b2'
  injection b3' with b3'
  injection b3' with b3'
  injection b3' with b3'
  injection b1' with b1'
  injection b1' with b1'
  injection b1' with b1'
  subst b0
  subst b1'
  subst b2'
  subst b3'
  have eA : ∀ j, j < 8 → A j = x + 5 + j := UH_A (m := x + 3) n1 q4
  obtain ⟨l2, l4, X2, X4, Xd⟩ := X
  have A2 := (n2 2 (by omega)).1
  have A4 := (n2 4 (by omega)).1
  rw [eA 2 (by omega)] at A2 j2
  rw [eA 4 (by omega)] at A4 j4
  have A2 : h.1 (x + 7) = some (100, Ls 2) := A2
  have A4 : h.1 (x + 9) = some (100, Ls 4) := A4
  rw [X2] at A2
  rw [X4] at A4
  cases A2
  cases A4
  refine ⟨fun sz => KI_mk I (fun q q5 q6 q7 => m12 q (by omega) (by omega) q6 q7 (fun j hj => by rw [eA j hj]; omega)) ⟨rc, m2⟩ ?_ sz, fun σ' ad => ⟨L2 2, L2 4, j2, j4, DX_add Dd (R := (σ.1 21).toInt.toNat) (N := (σ.1 19).toInt.toNat) (n := v3.toInt.toNat) (by omega) (by omega) (by omega) (by omega) (by omega) Xd ad J hA⟩⟩
  · have := F8.1
    rw [eA 0 (by omega), eA 1 (by omega), eA 2 (by omega), eA 3 (by omega), eA 4 (by omega), eA 5 (by omega), eA 6 (by omega), eA 7 (by omega)] at this
    exact ⟨_, _, this⟩
end Xi
