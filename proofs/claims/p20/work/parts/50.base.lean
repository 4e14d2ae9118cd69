/-! THE CLASS'S HEAP, TYPED: which cell is of which kind, and what its fields are; rules of the abstract machine over it -/
abbrev aR (a : Nat) : AV := .inr (.inr (some a))
abbrev aN : AV := .inr (.inr none)
abbrev aI (x : Int32) : AV := .inl x
abbrev aJ (x : Int64) : AV := .inr (.inl x)
/-- the kind of each of the class's cells, and its size -/
abbrev kM : Type := Nat → Option (Nat × Nat)
/-- what the fields of a cell are: K bounds the nodes -/
def okC (K : Nat) (κ : kM) (kd n : Nat) (vs : List AV) : Prop := match kd with
  | 0 => ∃ sg mk lk un uc nk td rn, vs = [aR sg, aR mk, aR lk, aR un, aI uc, aI nk, aR td, aR rn] ∧ κ sg = some (8, 512) ∧ κ mk = some (4, 0) ∧ κ lk = some (3, 0) ∧ κ un = some (120, 64) ∧ κ td = some (9, 0) ∧ κ rn = some (6, 0) ∧ 0 ≤ uc.toInt ∧ uc.toInt ≤ 64
  | 1 => ∃ i l n b0 b1 b2 b3, vs = [aI i, aI l, aJ n, aJ b0, aJ b1, aJ b2, aJ b3]
  | 2 => ∃ sg st tp, vs = [aR sg, aR st, aI tp] ∧ κ sg = some (8, 512) ∧ κ st = some (111, 104) ∧ 0 ≤ tp.toInt ∧ tp.toInt ≤ 104
  | 3 => ∃ mk nd sg, vs = [aR mk, aR nd, aR sg] ∧ κ mk = some (4, 0) ∧ κ nd = some (5, 4000) ∧ κ sg = some (8, 512)
  | 4 => ∃ nd vr ht rt rc, vs = [aR nd, aR vr, aR ht, aR rt, aI rc] ∧ κ nd = some (5, 4000) ∧ κ vr = some (8, 128) ∧ κ ht = some (100, 4000) ∧ κ rt = some (100, 4000) ∧ 0 ≤ rc.toInt ∧ rc.toInt ≤ 4000
  | 5 => ∃ a0 a1 a2 a3 a4 a5 a6 a7 c t, vs = [aR a0, aR a1, aR a2, aR a3, aR a4, aR a5, aR a6, aR a7, aI c, aI t] ∧ κ a0 = some (100, n) ∧ κ a1 = some (100, n) ∧ κ a2 = some (100, n) ∧ κ a3 = some (100, n) ∧ κ a4 = some (100, n) ∧ κ a5 = some (100, n) ∧ κ a6 = some (100, n) ∧ κ a7 = some (100, n) ∧ 0 ≤ c.toInt ∧ c.toInt ≤ n ∧ c.toInt ≤ K ∧ 0 ≤ t.toInt ∧ n ≤ 4000
  | 6 => ∃ sg td fd ch wv dl tg i7 i8 i9 i10, vs = [aR sg, aR td, aR fd, aR ch, aR wv, aR dl, .inr (.inr tg), aI i7, aI i8, aI i9, aI i10] ∧ κ sg = some (8, 512) ∧ κ td = some (9, 0) ∧ κ fd = some (2, 0) ∧ κ ch = some (1, 0) ∧ κ wv = some (111, 16) ∧ κ dl = some (101, 16) ∧ (∀ t, tg = some t → κ t = some (7, 0))
  | 7 => ∃ i l lo hi nw ls ev ac, vs = [aI i, aI l, aI lo, aI hi, aR nw, aR ls, aI ev, aI ac] ∧ κ nw = some (1, 0) ∧ κ ls = some (1, 0)
  | 8 => ∃ rw c, vs = [aR rw, aI c] ∧ κ rw = some (117, n) ∧ 0 ≤ c.toInt ∧ c.toInt ≤ n ∧ n ≤ 4000
  | 9 => ∃ a0 a1 a2 a3 a4 a5 a6 a7 a8 a9 c t, vs = [aR a0, aR a1, aR a2, aR a3, aR a4, aR a5, aR a6, aR a7, aR a8, aR a9, aI c, aI t] ∧ κ a0 = some (105, 200) ∧ κ a1 = some (105, 200) ∧ κ a2 = some (105, 200) ∧ κ a3 = some (105, 200) ∧ κ a4 = some (105, 200) ∧ κ a5 = some (105, 200) ∧ κ a6 = some (105, 200) ∧ κ a7 = some (101, 200) ∧ κ a8 = some (101, 500) ∧ κ a9 = some (111, 500) ∧ 0 ≤ c.toInt ∧ c.toInt ≤ 200 ∧ 0 ≤ t.toInt ∧ t.toInt ≤ 500
  | 10 => ∃ (nd nn vr vn : Nat) (s2 s3 s4 s5 s6 s7 s8 : Int32) (w9 : Int64) (nx en : Nat), vs = [aR (n + 1), aR (n + 10), aI s2, aI s3, aI s4, aI s5, aI s6, aI s7, aI s8, aJ w9, aR nx, aR en] ∧ κ (n + 1) = some (5, nn) ∧ κ (n + 10) = some (8, vn) ∧ κ nx = some (101, nn) ∧ κ en = some (101, nn)
  | 100 => vs.length = n ∧ n ≤ 4000 ∧ ∀ i, i < n → ∃ x, vs[i]? = some (aI x)
  | 105 => vs.length = n ∧ n ≤ 4000 ∧ ∀ i, i < n → ∃ x, vs[i]? = some (aI x)
  | 101 => vs.length = n ∧ n ≤ 4000 ∧ ∀ i, i < n → ∃ x, vs[i]? = some (aJ x)
  | 111 => vs.length = n ∧ n ≤ 4000 ∧ ∀ i, i < n → ∃ d, vs[i]? = some (aR d) ∧ κ d = some (1, 0)
  | 117 => vs.length = n ∧ n ≤ 4000 ∧ ∀ i, i < n → ∃ r, vs[i]? = some (.inr (.inr r)) ∧ ∀ t, r = some t → κ t = some (7, 0)
  | 120 => vs.length = n ∧ n ≤ 4000 ∧ ∀ i, i < n → ∃ r, vs[i]? = some (.inr (.inr r)) ∧ ∀ t, r = some t → ∃ m, κ t = some (10, m)
  | _ => False
/-- 105: the arrays of ints of Told -/
def hkd : Nat → Nat
  | 105 => 100
  | k => k
/-- the class's heap: typed, what is not the class's as in b -/
def cI (K : Nat) (κ : kM) (b h : ah_H) : Prop := (∀ a kd n, κ a = some (kd, n) → ∃ vs, h.1 a = some (hkd kd, vs) ∧ okC K κ kd n vs) ∧ (∀ a, κ a = none → h.1 a = b.1 a) ∧ h.2.1 = b.2.1 ∧ h.2.2.1 = b.2.2.1
theorem kne {κ : kM} {a c k1 n1 k2 n2 : Nat} (t1 : κ a = some (k1, n1)) (t2 : κ c = some (k2, n2)) (hk : Nat.beq k1 k2 = false) : a ≠ c := by
  intro e
  subst e
  rw [t1] at t2
  cases t2
  rw [Nat.beq_refl] at hk
  cases hk
theorem lt_i {a c : Int32} (e : a < c) : a.toInt < c.toInt := Int32.lt_iff_toInt_lt.mp e
theorem nlt_i {a c : Int32} (e : ¬ a < c) : c.toInt ≤ a.toInt := by
  rw [Int32.lt_iff_toInt_lt] at e
  omega
theorem le_i {a c : Int32} (e : a ≤ c) : a.toInt ≤ c.toInt := Int32.le_iff_toInt_le.mp e
theorem nle_i {a c : Int32} (e : ¬ a ≤ c) : c.toInt < a.toInt := by
  rw [Int32.le_iff_toInt_le] at e
  omega
theorem ne_i {a c : Int32} (e : ¬ a = c) : ¬ a.toInt = c.toInt := fun h => e (Int32.toInt_inj.mp h)
theorem bd_i (x : Int32) : -2147483648 ≤ x.toInt ∧ x.toInt ≤ 2147483647 := by
  have h1 := Int32.le_toInt x
  have h2 := Int32.toInt_lt x
  exact ⟨by omega, by omega⟩
theorem ad_i {a c : Int32} (h1 : -2147483648 ≤ a.toInt + c.toInt) (h2 : a.toInt + c.toInt ≤ 2147483647) : (a + c).toInt = a.toInt + c.toInt := by
  rw [Int32.toInt_add]
  exact Int.bmod_eq_of_le (by omega) (by omega)
theorem sb_i {a c : Int32} (h1 : -2147483648 ≤ a.toInt - c.toInt) (h2 : a.toInt - c.toInt ≤ 2147483647) : (a - c).toInt = a.toInt - c.toInt := by
  rw [Int32.toInt_sub]
  exact Int.bmod_eq_of_le (by omega) (by omega)
theorem mn_i {a c : Int32} : (if c < a then c else a).toInt ≤ c.toInt ∧ (if c < a then c else a).toInt ≤ a.toInt := by
  by_cases e : c < a
  · rw [if_pos e]
    exact ⟨Int.le_refl _, Int.le_of_lt (lt_i e)⟩
  · rw [if_neg e]
    exact ⟨nlt_i e, Int.le_refl _⟩
section Ci
variable {ρ : Type} {Φ : ρ → Prop} {K : Nat} {κ : kM} {b h : ah_H} {a kd i n : Nat} {vs : List AV} {v : AV} {j x : Int32}
theorem cI_up (W : cI K κ b h) (t : κ a = some (kd, n)) (o : okC K κ kd n vs) : cI K κ b (ah_up h a (hkd kd, vs)) := by
  refine ⟨fun q k m hq => ?_, fun q hq => ?_, W.2.2.1, W.2.2.2⟩
  · by_cases e : q = a
    · subst e
      rw [t] at hq
      cases hq
      exact ⟨vs, up_eq, o⟩
    · obtain ⟨ws, w1, w2⟩ := W.1 q k m hq
      exact ⟨ws, up_ne e w1, w2⟩
  · refine up_ne (fun e => ?_) (W.2.1 q hq)
    subst e
    rw [t] at hq
    cases hq
theorem o0 (W : cI K κ b h) (t : κ a = some (0, n)) : ∃ sg mk lk un uc nk td rn, h.1 a = some (0, [aR sg, aR mk, aR lk, aR un, aI uc, aI nk, aR td, aR rn]) ∧ κ sg = some (8, 512) ∧ κ mk = some (4, 0) ∧ κ lk = some (3, 0) ∧ κ un = some (120, 64) ∧ κ td = some (9, 0) ∧ κ rn = some (6, 0) ∧ 0 ≤ uc.toInt ∧ uc.toInt ≤ 64 := by
  obtain ⟨vs, e, ⟨x1, x2, x3, x4, x5, x6, x7, x8, rfl, k⟩⟩ := W.1 a 0 n t
  exact ⟨x1, x2, x3, x4, x5, x6, x7, x8, e, k⟩
theorem o1 (W : cI K κ b h) (t : κ a = some (1, n)) : ∃ i l n b0 b1 b2 b3, h.1 a = some (1, [aI i, aI l, aJ n, aJ b0, aJ b1, aJ b2, aJ b3]) := by
  obtain ⟨vs, e, ⟨x1, x2, x3, x4, x5, x6, x7, rfl⟩⟩ := W.1 a 1 n t
  exact ⟨x1, x2, x3, x4, x5, x6, x7, e⟩
theorem o2 (W : cI K κ b h) (t : κ a = some (2, n)) : ∃ sg st tp, h.1 a = some (2, [aR sg, aR st, aI tp]) ∧ κ sg = some (8, 512) ∧ κ st = some (111, 104) ∧ 0 ≤ tp.toInt ∧ tp.toInt ≤ 104 := by
  obtain ⟨vs, e, ⟨x1, x2, x3, rfl, k⟩⟩ := W.1 a 2 n t
  exact ⟨x1, x2, x3, e, k⟩
theorem o3 (W : cI K κ b h) (t : κ a = some (3, n)) : ∃ mk nd sg, h.1 a = some (3, [aR mk, aR nd, aR sg]) ∧ κ mk = some (4, 0) ∧ κ nd = some (5, 4000) ∧ κ sg = some (8, 512) := by
  obtain ⟨vs, e, ⟨x1, x2, x3, rfl, k⟩⟩ := W.1 a 3 n t
  exact ⟨x1, x2, x3, e, k⟩
theorem o4 (W : cI K κ b h) (t : κ a = some (4, n)) : ∃ nd vr ht rt rc, h.1 a = some (4, [aR nd, aR vr, aR ht, aR rt, aI rc]) ∧ κ nd = some (5, 4000) ∧ κ vr = some (8, 128) ∧ κ ht = some (100, 4000) ∧ κ rt = some (100, 4000) ∧ 0 ≤ rc.toInt ∧ rc.toInt ≤ 4000 := by
  obtain ⟨vs, e, ⟨x1, x2, x3, x4, x5, rfl, k⟩⟩ := W.1 a 4 n t
  exact ⟨x1, x2, x3, x4, x5, e, k⟩
theorem o5 (W : cI K κ b h) (t : κ a = some (5, n)) : ∃ a0 a1 a2 a3 a4 a5 a6 a7 c t, h.1 a = some (5, [aR a0, aR a1, aR a2, aR a3, aR a4, aR a5, aR a6, aR a7, aI c, aI t]) ∧ κ a0 = some (100, n) ∧ κ a1 = some (100, n) ∧ κ a2 = some (100, n) ∧ κ a3 = some (100, n) ∧ κ a4 = some (100, n) ∧ κ a5 = some (100, n) ∧ κ a6 = some (100, n) ∧ κ a7 = some (100, n) ∧ 0 ≤ c.toInt ∧ c.toInt ≤ n ∧ c.toInt ≤ K ∧ 0 ≤ t.toInt ∧ n ≤ 4000 := by
  obtain ⟨vs, e, ⟨x1, x2, x3, x4, x5, x6, x7, x8, x9, x10, rfl, k⟩⟩ := W.1 a 5 n t
  exact ⟨x1, x2, x3, x4, x5, x6, x7, x8, x9, x10, e, k⟩
theorem o6 (W : cI K κ b h) (t : κ a = some (6, n)) : ∃ sg td fd ch wv dl tg i7 i8 i9 i10, h.1 a = some (6, [aR sg, aR td, aR fd, aR ch, aR wv, aR dl, .inr (.inr tg), aI i7, aI i8, aI i9, aI i10]) ∧ κ sg = some (8, 512) ∧ κ td = some (9, 0) ∧ κ fd = some (2, 0) ∧ κ ch = some (1, 0) ∧ κ wv = some (111, 16) ∧ κ dl = some (101, 16) ∧ (∀ t, tg = some t → κ t = some (7, 0)) := by
  obtain ⟨vs, e, ⟨x1, x2, x3, x4, x5, x6, x7, x8, x9, x10, x11, rfl, k⟩⟩ := W.1 a 6 n t
  exact ⟨x1, x2, x3, x4, x5, x6, x7, x8, x9, x10, x11, e, k⟩
theorem o7 (W : cI K κ b h) (t : κ a = some (7, n)) : ∃ i l lo hi nw ls ev ac, h.1 a = some (7, [aI i, aI l, aI lo, aI hi, aR nw, aR ls, aI ev, aI ac]) ∧ κ nw = some (1, 0) ∧ κ ls = some (1, 0) := by
  obtain ⟨vs, e, ⟨x1, x2, x3, x4, x5, x6, x7, x8, rfl, k⟩⟩ := W.1 a 7 n t
  exact ⟨x1, x2, x3, x4, x5, x6, x7, x8, e, k⟩
theorem o8 (W : cI K κ b h) (t : κ a = some (8, n)) : ∃ rw c, h.1 a = some (8, [aR rw, aI c]) ∧ κ rw = some (117, n) ∧ 0 ≤ c.toInt ∧ c.toInt ≤ n ∧ n ≤ 4000 := by
  obtain ⟨vs, e, ⟨x1, x2, rfl, k⟩⟩ := W.1 a 8 n t
  exact ⟨x1, x2, e, k⟩
theorem o9 (W : cI K κ b h) (t : κ a = some (9, n)) : ∃ a0 a1 a2 a3 a4 a5 a6 a7 a8 a9 c t, h.1 a = some (9, [aR a0, aR a1, aR a2, aR a3, aR a4, aR a5, aR a6, aR a7, aR a8, aR a9, aI c, aI t]) ∧ κ a0 = some (105, 200) ∧ κ a1 = some (105, 200) ∧ κ a2 = some (105, 200) ∧ κ a3 = some (105, 200) ∧ κ a4 = some (105, 200) ∧ κ a5 = some (105, 200) ∧ κ a6 = some (105, 200) ∧ κ a7 = some (101, 200) ∧ κ a8 = some (101, 500) ∧ κ a9 = some (111, 500) ∧ 0 ≤ c.toInt ∧ c.toInt ≤ 200 ∧ 0 ≤ t.toInt ∧ t.toInt ≤ 500 := by
  obtain ⟨vs, e, ⟨x1, x2, x3, x4, x5, x6, x7, x8, x9, x10, x11, x12, rfl, k⟩⟩ := W.1 a 9 n t
  exact ⟨x1, x2, x3, x4, x5, x6, x7, x8, x9, x10, x11, x12, e, k⟩
theorem o10 (W : cI K κ b h) (t : κ a = some (10, n)) : ∃ (nd nn vr vn : Nat) (s2 s3 s4 s5 s6 s7 s8 : Int32) (w9 : Int64) (nx en : Nat), h.1 a = some (10, [aR (n + 1), aR (n + 10), aI s2, aI s3, aI s4, aI s5, aI s6, aI s7, aI s8, aJ w9, aR nx, aR en]) ∧ κ (n + 1) = some (5, nn) ∧ κ (n + 10) = some (8, vn) ∧ κ nx = some (101, nn) ∧ κ en = some (101, nn) := by
  obtain ⟨vs, e, ⟨x1, x2, x3, x4, x5, x6, x7, x8, x9, x10, x11, x12, x13, x14, rfl, k⟩⟩ := W.1 a 10 n t
  exact ⟨x1, x2, x3, x4, x5, x6, x7, x8, x9, x10, x11, x12, x13, x14, e, k⟩
theorem i0 {sg mk lk un td rn : Nat} {uc nk : Int32} (h1 : κ sg = some (8, 512)) (h2 : κ mk = some (4, 0)) (h3 : κ lk = some (3, 0)) (h4 : κ un = some (120, 64)) (h5 : κ td = some (9, 0)) (h6 : κ rn = some (6, 0)) (h7 : 0 ≤ uc.toInt) (h8 : uc.toInt ≤ 64) : okC K κ 0 n [aR sg, aR mk, aR lk, aR un, aI uc, aI nk, aR td, aR rn] := ⟨_, _, _, _, _, _, _, _, rfl, h1, h2, h3, h4, h5, h6, h7, h8⟩
theorem i1 {i l : Int32} {y b0 b1 b2 b3 : Int64} : okC K κ 1 n [aI i, aI l, aJ y, aJ b0, aJ b1, aJ b2, aJ b3] := ⟨_, _, _, _, _, _, _, rfl⟩
theorem i2 {sg st : Nat} {tp : Int32} (h1 : κ sg = some (8, 512)) (h2 : κ st = some (111, 104)) (h3 : 0 ≤ tp.toInt) (h4 : tp.toInt ≤ 104) : okC K κ 2 n [aR sg, aR st, aI tp] := ⟨_, _, _, rfl, h1, h2, h3, h4⟩
theorem i4 {nd vr ht rt : Nat} {rc : Int32} (h1 : κ nd = some (5, 4000)) (h2 : κ vr = some (8, 128)) (h3 : κ ht = some (100, 4000)) (h4 : κ rt = some (100, 4000)) (h5 : 0 ≤ rc.toInt) (h6 : rc.toInt ≤ 4000) : okC K κ 4 n [aR nd, aR vr, aR ht, aR rt, aI rc] := ⟨_, _, _, _, _, rfl, h1, h2, h3, h4, h5, h6⟩
theorem i5 {a0 a1 a2 a3 a4 a5 a6 a7 : Nat} {c t : Int32} (h0 : κ a0 = some (100, n)) (h1 : κ a1 = some (100, n)) (h2 : κ a2 = some (100, n)) (h3 : κ a3 = some (100, n)) (h4 : κ a4 = some (100, n)) (h5 : κ a5 = some (100, n)) (h6 : κ a6 = some (100, n)) (h7 : κ a7 = some (100, n)) (h8 : 0 ≤ c.toInt) (h9 : c.toInt ≤ n) (h10 : c.toInt ≤ K) (h11 : 0 ≤ t.toInt) (h13 : n ≤ 4000) : okC K κ 5 n [aR a0, aR a1, aR a2, aR a3, aR a4, aR a5, aR a6, aR a7, aI c, aI t] := ⟨_, _, _, _, _, _, _, _, _, _, rfl, h0, h1, h2, h3, h4, h5, h6, h7, h8, h9, h10, h11, h13⟩
theorem i6 {sg td fd ch wv dl : Nat} {tg : Option Nat} {x7 x8 x9 x10 : Int32} (h1 : κ sg = some (8, 512)) (h2 : κ td = some (9, 0)) (h3 : κ fd = some (2, 0)) (h4 : κ ch = some (1, 0)) (h5 : κ wv = some (111, 16)) (h6 : κ dl = some (101, 16)) (h7 : ∀ t, tg = some t → κ t = some (7, 0)) : okC K κ 6 n [aR sg, aR td, aR fd, aR ch, aR wv, aR dl, .inr (.inr tg), aI x7, aI x8, aI x9, aI x10] := ⟨_, _, _, _, _, _, _, _, _, _, _, rfl, h1, h2, h3, h4, h5, h6, h7⟩
theorem i7 {i l lo hi ev ac : Int32} {nw ls : Nat} (h1 : κ nw = some (1, 0)) (h2 : κ ls = some (1, 0)) : okC K κ 7 n [aI i, aI l, aI lo, aI hi, aR nw, aR ls, aI ev, aI ac] := ⟨_, _, _, _, _, _, _, _, rfl, h1, h2⟩
theorem i8 {rw : Nat} {c : Int32} (h1 : κ rw = some (117, n)) (h2 : 0 ≤ c.toInt) (h3 : c.toInt ≤ n) (h4 : n ≤ 4000) : okC K κ 8 n [aR rw, aI c] := ⟨_, _, rfl, h1, h2, h3, h4⟩
theorem i9 {a0 a1 a2 a3 a4 a5 a6 a7 a8 a9 : Nat} {c t : Int32} (h0 : κ a0 = some (105, 200)) (h1 : κ a1 = some (105, 200)) (h2 : κ a2 = some (105, 200)) (h3 : κ a3 = some (105, 200)) (h4 : κ a4 = some (105, 200)) (h5 : κ a5 = some (105, 200)) (h6 : κ a6 = some (105, 200)) (h7 : κ a7 = some (101, 200)) (h8 : κ a8 = some (101, 500)) (h9 : κ a9 = some (111, 500)) (g1 : 0 ≤ c.toInt) (g2 : c.toInt ≤ 200) (g3 : 0 ≤ t.toInt) (g4 : t.toInt ≤ 500) : okC K κ 9 n [aR a0, aR a1, aR a2, aR a3, aR a4, aR a5, aR a6, aR a7, aR a8, aR a9, aI c, aI t] := ⟨_, _, _, _, _, _, _, _, _, _, _, _, rfl, h0, h1, h2, h3, h4, h5, h6, h7, h8, h9, g1, g2, g3, g4⟩
theorem i10 {nn vn nx en : Nat} {s2 s3 s4 s5 s6 s7 s8 : Int32} {w9 : Int64} (h1 : κ (n + 1) = some (5, nn)) (h2 : κ (n + 10) = some (8, vn)) (h3 : κ nx = some (101, nn)) (h4 : κ en = some (101, nn)) : okC K κ 10 n [aR (n + 1), aR (n + 10), aI s2, aI s3, aI s4, aI s5, aI s6, aI s7, aI s8, aJ w9, aR nx, aR en] := ⟨0, _, 0, _, _, _, _, _, _, _, _, _, _, _, rfl, h1, h2, h3, h4⟩
theorem wk_at {K1 : Nat → List AV → Option ρ} {kh : Nat} (W : cI K κ b h) (t : κ a = some (kd, n)) (hh : hkd kd = kh) (k : ∀ vs, wq (K1 a vs) Φ) : wq (ah_at h (some a) kh K1) Φ := by
  obtain ⟨vs, e, -⟩ := W.1 a kd n t
  rw [hh] at e
  exact wq_at e (k vs)
theorem wk_wr {K1 : ah_H → Option ρ} {kh : Nat} (W : cI K κ b h) (t : κ a = some (kd, n)) (hh : hkd kd = kh) (e : h.1 a = some (kh, vs)) (hi : i < vs.length) (o : okC K κ kd n (vs.set i v)) (k : ∀ h', cI K κ b h' → h'.1 a = some (kh, vs.set i v) → (∀ q, q ≠ a → h'.1 q = h.1 q) → wq (K1 h') Φ) : wq (ah_wr h (some a) kh i v K1) Φ := by
  have W' := cI_up W t o
  rw [hh] at W'
  exact wq_wr e hi (k _ W' up_eq (fun _ hq => up_ne hq rfl))
theorem ix_lt {j : Int32} {n : Nat} (h0 : 0 ≤ j.toInt) (h1 : j.toInt < n) : j.toNatClampNeg < n := by
  show j.toInt.toNat < n
  omega
theorem ix_ge {j : Int32} (h0 : 0 ≤ j.toInt) : ¬ j < 0 := by
  rw [Int32.lt_iff_toInt_lt]
  show ¬ j.toInt < 0
  omega
theorem wk_lI {K1 : Int32 → Option ρ} (W : cI K κ b h) (t : κ a = some (100, n)) (h0 : 0 ≤ j.toInt) (h1 : j.toInt < n) (k : ∀ x, wq (K1 x) Φ) : wq (ah_lI h (some a) 100 j K1) Φ := by
  obtain ⟨vs, e, ⟨o1, -, o2⟩⟩ := W.1 a 100 n t
  obtain ⟨x, e2⟩ := o2 _ (ix_lt h0 h1)
  exact wq_lI e (ix_ge h0) e2 (k x)
theorem wk_lT {K1 : Int32 → Option ρ} (W : cI K κ b h) (t : κ a = some (105, n)) (h0 : 0 ≤ j.toInt) (h1 : j.toInt < n) (k : ∀ x, wq (K1 x) Φ) : wq (ah_lI h (some a) 100 j K1) Φ := by
  obtain ⟨vs, e, ⟨o1, -, o2⟩⟩ := W.1 a 105 n t
  obtain ⟨x, e2⟩ := o2 _ (ix_lt h0 h1)
  exact wq_lI e (ix_ge h0) e2 (k x)
theorem wk_lJ {K1 : Int64 → Option ρ} (W : cI K κ b h) (t : κ a = some (101, n)) (h0 : 0 ≤ j.toInt) (h1 : j.toInt < n) (k : ∀ x, wq (K1 x) Φ) : wq (ah_lJ h (some a) 101 j K1) Φ := by
  obtain ⟨vs, e, ⟨o1, -, o2⟩⟩ := W.1 a 101 n t
  obtain ⟨x, e2⟩ := o2 _ (ix_lt h0 h1)
  exact wq_lJ e (ix_ge h0) e2 (k x)
theorem wk_l1 {K1 : Option Nat → Option ρ} (W : cI K κ b h) (t : κ a = some (111, n)) (h0 : 0 ≤ j.toInt) (h1 : j.toInt < n) (k : ∀ d, κ d = some (1, 0) → wq (K1 (some d)) Φ) : wq (ah_lR h (some a) j K1) Φ := by
  obtain ⟨vs, e, ⟨o1, -, o2⟩⟩ := W.1 a 111 n t
  obtain ⟨d, e2, e3⟩ := o2 _ (ix_lt h0 h1)
  exact wq_lR e (by decide) (ix_ge h0) e2 (k d e3)
theorem wk_l7 {K1 : Option Nat → Option ρ} (W : cI K κ b h) (t : κ a = some (117, n)) (h0 : 0 ≤ j.toInt) (h1 : j.toInt < n) (k : ∀ r, (∀ t, r = some t → κ t = some (7, 0)) → wq (K1 r) Φ) : wq (ah_lR h (some a) j K1) Φ := by
  obtain ⟨vs, e, ⟨o1, -, o2⟩⟩ := W.1 a 117 n t
  obtain ⟨r, e2, e3⟩ := o2 _ (ix_lt h0 h1)
  exact wq_lR e (by decide) (ix_ge h0) e2 (k r e3)
theorem wk_l10 {K1 : Option Nat → Option ρ} (W : cI K κ b h) (t : κ a = some (120, n)) (h0 : 0 ≤ j.toInt) (h1 : j.toInt < n) (k : ∀ r, (∀ t, r = some t → ∃ m, κ t = some (10, m)) → wq (K1 r) Φ) : wq (ah_lR h (some a) j K1) Φ := by
  obtain ⟨vs, e, ⟨o1, -, o2⟩⟩ := W.1 a 120 n t
  obtain ⟨r, e2, e3⟩ := o2 _ (ix_lt h0 h1)
  exact wq_lR e (by decide) (ix_ge h0) e2 (k r e3)
theorem ok_set (P : AV → Prop) {vs : List AV} {n k : Nat} {v : AV} (hl : vs.length = n) (o : ∀ i, i < n → ∃ x, vs[i]? = some x ∧ P x) (hv : P v) : (vs.set k v).length = n ∧ ∀ i, i < n → ∃ x, (vs.set k v)[i]? = some x ∧ P x := by
  refine ⟨by rw [List.length_set]; exact hl, fun i hi => ?_⟩
  by_cases e : k = i
  · subst e
    exact ⟨v, by rw [List.getElem?_set_self (by omega)], hv⟩
  · obtain ⟨x, e1, e2⟩ := o i hi
    exact ⟨x, by rw [List.getElem?_set_ne e]; exact e1, e2⟩
theorem ok_set100 {k : Nat} (o : okC K κ 100 n vs) : okC K κ 100 n (vs.set k (aI x)) := by
  obtain ⟨o1, o2, o3⟩ := o
  obtain ⟨q1, q2⟩ := ok_set (fun v => ∃ x, v = aI x) (k := k) (v := aI x) o1 (fun i hi => by obtain ⟨x, e⟩ := o3 i hi; exact ⟨_, e, x, rfl⟩) ⟨x, rfl⟩
  exact ⟨q1, o2, fun i hi => by obtain ⟨v, e, x, rfl⟩ := q2 i hi; exact ⟨x, e⟩⟩
theorem ok_set105 {k : Nat} (o : okC K κ 105 n vs) : okC K κ 105 n (vs.set k (aI x)) := by
  obtain ⟨o1, o2, o3⟩ := o
  obtain ⟨q1, q2⟩ := ok_set (fun v => ∃ x, v = aI x) (k := k) (v := aI x) o1 (fun i hi => by obtain ⟨x, e⟩ := o3 i hi; exact ⟨_, e, x, rfl⟩) ⟨x, rfl⟩
  exact ⟨q1, o2, fun i hi => by obtain ⟨v, e, x, rfl⟩ := q2 i hi; exact ⟨x, e⟩⟩
theorem ok_set101 {k : Nat} {y : Int64} (o : okC K κ 101 n vs) : okC K κ 101 n (vs.set k (aJ y)) := by
  obtain ⟨o1, o2, o3⟩ := o
  obtain ⟨q1, q2⟩ := ok_set (fun v => ∃ x, v = aJ x) (k := k) (v := aJ y) o1 (fun i hi => by obtain ⟨x, e⟩ := o3 i hi; exact ⟨_, e, x, rfl⟩) ⟨y, rfl⟩
  exact ⟨q1, o2, fun i hi => by obtain ⟨v, e, x, rfl⟩ := q2 i hi; exact ⟨x, e⟩⟩
theorem ok_set117 {k : Nat} {r : Option Nat} (hr : ∀ t, r = some t → κ t = some (7, 0)) (o : okC K κ 117 n vs) : okC K κ 117 n (vs.set k (.inr (.inr r))) := by
  obtain ⟨o1, o2, o3⟩ := o
  obtain ⟨q1, q2⟩ := ok_set (fun v => ∃ r : Option Nat, v = .inr (.inr r) ∧ ∀ t, r = some t → κ t = some (7, 0)) (k := k) (v := .inr (.inr r)) o1 (fun i hi => by obtain ⟨x, e, e2⟩ := o3 i hi; exact ⟨_, e, x, rfl, e2⟩) ⟨r, rfl, hr⟩
  exact ⟨q1, o2, fun i hi => by obtain ⟨v, e, x, rfl, e2⟩ := q2 i hi; exact ⟨x, e, e2⟩⟩
theorem wk_sI {K1 : ah_H → Option ρ} (W : cI K κ b h) (t : κ a = some (100, n)) (h0 : 0 ≤ j.toInt) (h1 : j.toInt < n) (k : ∀ h', cI K κ b h' → (∀ q, q ≠ a → h'.1 q = h.1 q) → wq (K1 h') Φ) : wq (ah_sI h (some a) 100 j (.inl x) K1) Φ := by
  obtain ⟨vs, e, o⟩ := W.1 a 100 n t
  exact wq_sI e (ix_ge h0) (by rw [o.1]; exact ix_lt h0 h1) (k _ (cI_up W t (ok_set100 o)) (fun _ hq => up_ne hq rfl))
theorem wk_sT {K1 : ah_H → Option ρ} (W : cI K κ b h) (t : κ a = some (105, n)) (h0 : 0 ≤ j.toInt) (h1 : j.toInt < n) (k : ∀ h', cI K κ b h' → (∀ q, q ≠ a → h'.1 q = h.1 q) → wq (K1 h') Φ) : wq (ah_sI h (some a) 100 j (.inl x) K1) Φ := by
  obtain ⟨vs, e, o⟩ := W.1 a 105 n t
  exact wq_sI e (ix_ge h0) (by rw [o.1]; exact ix_lt h0 h1) (k _ (cI_up W t (ok_set105 o)) (fun _ hq => up_ne hq rfl))
theorem wk_sJ {K1 : ah_H → Option ρ} {y : Int64} (W : cI K κ b h) (t : κ a = some (101, n)) (h0 : 0 ≤ j.toInt) (h1 : j.toInt < n) (k : ∀ h', cI K κ b h' → (∀ q, q ≠ a → h'.1 q = h.1 q) → wq (K1 h') Φ) : wq (ah_sI h (some a) 101 j (.inr (.inl y)) K1) Φ := by
  obtain ⟨vs, e, o⟩ := W.1 a 101 n t
  exact wq_sI e (ix_ge h0) (by rw [o.1]; exact ix_lt h0 h1) (k _ (cI_up W t (ok_set101 o)) (fun _ hq => up_ne hq rfl))
theorem i32n {n : Nat} (h : n ≤ 4000) : (Nat.toInt32 n).toInt = n := Int32.toInt_ofNat_of_lt (by omega)
theorem wk_len {K1 : Int32 → Option ρ} (W : cI K κ b h) (t : κ a = some (kd, n)) (hk : kd = 100 ∨ kd = 105 ∨ kd = 101 ∨ kd = 111 ∨ kd = 117 ∨ kd = 120) (k : ∀ x : Int32, x.toInt = n → wq (K1 x) Φ) : wq (ah_len h (some a) K1) Φ := by
  obtain ⟨vs, e, o⟩ := W.1 a kd n t
  have h2 : vs.length = n ∧ n ≤ 4000 := by
    rcases hk with rfl | rfl | rfl | rfl | rfl | rfl <;> exact ⟨o.1, o.2.1⟩
  have h3 : 100 ≤ hkd kd ∧ hkd kd < 200 := by
    rcases hk with rfl | rfl | rfl | rfl | rfl | rfl <;> decide
  refine wq_len e h3 ?_
  rw [h2.1]
  exact k _ (i32n h2.2)
theorem wk_s7 {K1 : ah_H → Option ρ} {r : Option Nat} (W : cI K κ b h) (t : κ a = some (117, n)) (h0 : 0 ≤ j.toInt) (h1 : j.toInt < n) (hr : ∀ t, r = some t → κ t = some (7, 0)) (k : ∀ h', cI K κ b h' → (∀ q, q ≠ a → h'.1 q = h.1 q) → wq (K1 h') Φ) : wq (ah_sR h (some a) j r K1) Φ := by
  obtain ⟨vs, e, o⟩ := W.1 a 117 n t
  have hl : j.toNatClampNeg < vs.length := by rw [o.1]; exact ix_lt h0 h1
  have kk := k _ (cI_up W t (ok_set117 (k := j.toNatClampNeg) hr o)) (fun _ hq => up_ne hq rfl)
  cases r with
  | none => exact wq_sN e (by decide) (ix_ge h0) hl kk
  | some c =>
    obtain ⟨ws, e2, -⟩ := W.1 c 7 0 (hr c rfl)
    exact wq_sR e (by decide) e2 rfl (ix_ge h0) hl kk
/-- an exception of one of these kinds, and nothing else -/
def tX (ks : List Nat) (h : ah_H) (z : ah_R) : Prop := ∃ k, ks.contains k = true ∧ z = (.inr (k, h.2.1), ah_new h (k, []) 6)
/-- room for an exception -/
def rm (lim : Nat × Nat) (h : ah_H) : Prop := h.2.1 < lim.1 ∧ h.2.2.1 + 6 ≤ lim.2
theorem thX {lim : Nat × Nat} {Φ : ah_R → Prop} (hr : rm lim h) (k : Φ (.inr (kd, h.2.1), ah_new h (kd, []) 6)) : wq (ah_mk lim h (kd, []) 6 fun _ h3 => some (.inr (kd, h.2.1), h3)) Φ := wq_mk hr (wq_some k)
/-- cells of other kinds than those of ws are as they were -/
def fk (ws : List Nat) (κ : kM) (h h' : ah_H) : Prop := ∀ q kd n, κ q = some (kd, n) → ws.contains kd = false → h'.1 q = h.1 q
theorem fk_0 {ws : List Nat} : fk ws κ h h := fun _ _ _ _ _ => rfl
theorem fk_w {ws : List Nat} {h1 h2 : ah_H} (g : fk ws κ h h1) (t : κ a = some (kd, n)) (o : ∀ q, q ≠ a → h2.1 q = h1.1 q) (hk : ws.contains kd = true) : fk ws κ h h2 := by
  intro q k m hq hn
  refine (o q (fun e => ?_)).trans (g q k m hq hn)
  subst e
  rw [t] at hq
  cases hq
  rw [hk] at hn
  cases hn
theorem fk_c {ws us : List Nat} {h1 h2 : ah_H} (g : fk ws κ h h1) (g2 : fk us κ h1 h2) (hs : us.all (fun k => ws.contains k) = true) : fk ws κ h h2 := by
  intro q k m hq hn
  refine (g2 q k m hq ?_).trans (g q k m hq hn)
  cases hc : us.contains k with
  | false => rfl
  | true =>
    have h3 := List.all_eq_true.mp hs k (List.contains_iff_mem.mp hc)
    rw [hn] at h3
    cases h3
end Ci
