/-! THE CLASS'S KEPT NODES, THINGS, AND THE FINDER'S STACK -/
/-- how many; kind, given, start, parent, place, -, how many children; children -/
abbrev KT : Type := Nat × (Nat → Nat → Int32) × (Nat → Nat → Int32)
abbrev kf (T : KT) (j : Nat) (v : Int32) : Int32 := T.2.1 j v.toInt.toNat
abbrev kC (T : KT) (v : Int32) (i : Nat) : Int32 := T.2.2 v.toInt.toNat i
abbrev rgN (T : KT) (v : Int32) : Prop := 0 ≤ v.toInt ∧ v.toInt < T.1
def xK (T : KT) (v : Int32) : Int32 := if rgN T v then kf T 0 v else -1
def xG (T : KT) (v : Int32) : Int32 := if rgN T v then kf T 1 v else 0
def xTt (T : KT) (v : Int32) : Int32 := if rgN T v then kf T 2 v else 0
def xU (T : KT) (v : Int32) : Int32 := if rgN T v then kf T 3 v else -1
def xP (T : KT) (v : Int32) : Int32 := if rgN T v then kf T 4 v else 0
def xM (T : KT) (v : Int32) : Int32 := if rgN T v then kf T 6 v else 0
def xCh (T : KT) (v i : Int32) : Int32 := if rgN T v ∧ 0 ≤ i.toInt ∧ i.toInt < (kf T 6 v).toInt then kC T v i.toInt.toNat else -1
/-- the class's Nodes at nd are T -/
def ND (nd : Nat) (T : KT) (h : ah_H) : Prop := ∃ (A : Nat → Nat) (Ls : Nat → List AV) (c kt : Int32), h.1 nd = some (5, [aR (A 0), aR (A 1), aR (A 2), aR (A 3), aR (A 4), aR (A 5), aR (A 6), aR (A 7), aI c, aI kt]) ∧ c.toInt = T.1 ∧ (∀ j, j < 8 → h.1 (A j) = some (100, Ls j) ∧ (Ls j).length ≤ 4000 ∧ nd < A j) ∧ ∀ k : Nat, k < T.1 → (∀ j, j < 7 → j ≠ 5 → (Ls j)[k]? = some (aI (T.2.1 j k))) ∧ ∃ ka : Int32, (Ls 5)[k]? = some (aI ka) ∧ 0 ≤ ka.toInt ∧ ka.toInt + (T.2.1 6 k).toInt ≤ (Ls 7).length ∧ ∀ i : Nat, (i : Int) < (T.2.1 6 k).toInt → (Ls 7)[ka.toInt.toNat + i]? = some (aI (T.2.2 k i))
/-- cells of other kinds than those of values, finders and units are unchanged -/
def KF (h h' : ah_H) : Prop := ∀ (q k : Nat) (vs : List AV), h.1 q = some (k, vs) → Nat.beq k 1 = false → Nat.beq k 2 = false → Nat.beq k 10 = false → h'.1 q = some (k, vs)
section Nk
variable {lim : Nat × Nat} {d nd : Nat} {T : KT} {v i : Int32} {h h' : ah_H}
theorem KF_tr {h1 h2 h3 : ah_H} (a : KF h1 h2) (c : KF h2 h3) : KF h1 h3 := fun q k vs e x y z => c q k vs (a q k vs e x y z) x y z
theorem ND_kf (N : ND nd T h) (k : KF h h') : ND nd T h' := by
  obtain ⟨A, Ls, c, kt, e, ec, ea, r⟩ := N
  exact ⟨A, Ls, c, kt, k _ _ _ e rfl rfl rfl, ec, fun j hj => ⟨k _ _ _ (ea j hj).1 rfl rfl rfl, (ea j hj).2⟩, r⟩
theorem c_kindOf (N : ND nd T h) : wq (vc lim (d + 1) m_Nodes_kindOf [aR nd, aI v] h) (rI fun x h' => h' = h ∧ x = xK T v) := by
  obtain ⟨A, Ls, c, kt, e, ec, ea, r⟩ := N
  refine wq_eq e_Nodes_kindOf (wq_if _ (fun c1 => ?_) (fun c1 => wq_gI e rfl (wq_if _ (fun c2 => ?_) (fun c2 => ?_))))
  · exact wq_some (rI_i ⟨rfl, (if_neg (fun q => by have := lt_i c1; rw [Int32.toInt_zero] at this; omega)).symm⟩)
  · have g1 := nlt_i c1
    have g2 := lt_i c2
    rw [Int32.toInt_zero] at g1
    exact wq_gR e rfl (wq_lI (ea 0 (by omega)).1 c1 ((r v.toInt.toNat (by omega)).1 0 (by omega) (by omega)) (wq_some (rI_i ⟨rfl, (if_pos ⟨g1, by omega⟩).symm⟩)))
  · exact wq_some (rI_i ⟨rfl, (if_neg (fun q => by have := nlt_i c2; omega)).symm⟩)
theorem c_givenOf (N : ND nd T h) : wq (vc lim (d + 1) m_Nodes_givenOf [aR nd, aI v] h) (rI fun x h' => h' = h ∧ x = xG T v) := by
  obtain ⟨A, Ls, c, kt, e, ec, ea, r⟩ := N
  refine wq_eq e_Nodes_givenOf (wq_if _ (fun c1 => ?_) (fun c1 => wq_gI e rfl (wq_if _ (fun c2 => ?_) (fun c2 => ?_))))
  · exact wq_some (rI_i ⟨rfl, (if_neg (fun q => by have := lt_i c1; rw [Int32.toInt_zero] at this; omega)).symm⟩)
  · have g1 := nlt_i c1
    have g2 := lt_i c2
    rw [Int32.toInt_zero] at g1
    exact wq_gR e rfl (wq_lI (ea 1 (by omega)).1 c1 ((r v.toInt.toNat (by omega)).1 1 (by omega) (by omega)) (wq_some (rI_i ⟨rfl, (if_pos ⟨g1, by omega⟩).symm⟩)))
  · exact wq_some (rI_i ⟨rfl, (if_neg (fun q => by have := nlt_i c2; omega)).symm⟩)
theorem c_startOf (N : ND nd T h) : wq (vc lim (d + 1) m_Nodes_startOf [aR nd, aI v] h) (rI fun x h' => h' = h ∧ x = xTt T v) := by
  obtain ⟨A, Ls, c, kt, e, ec, ea, r⟩ := N
  refine wq_eq e_Nodes_startOf (wq_if _ (fun c1 => ?_) (fun c1 => wq_gI e rfl (wq_if _ (fun c2 => ?_) (fun c2 => ?_))))
  · exact wq_some (rI_i ⟨rfl, (if_neg (fun q => by have := lt_i c1; rw [Int32.toInt_zero] at this; omega)).symm⟩)
  · have g1 := nlt_i c1
    have g2 := lt_i c2
    rw [Int32.toInt_zero] at g1
    exact wq_gR e rfl (wq_lI (ea 2 (by omega)).1 c1 ((r v.toInt.toNat (by omega)).1 2 (by omega) (by omega)) (wq_some (rI_i ⟨rfl, (if_pos ⟨g1, by omega⟩).symm⟩)))
  · exact wq_some (rI_i ⟨rfl, (if_neg (fun q => by have := nlt_i c2; omega)).symm⟩)
theorem c_parentOf (N : ND nd T h) : wq (vc lim (d + 1) m_Nodes_parentOf [aR nd, aI v] h) (rI fun x h' => h' = h ∧ x = xU T v) := by
  obtain ⟨A, Ls, c, kt, e, ec, ea, r⟩ := N
  refine wq_eq e_Nodes_parentOf (wq_if _ (fun c1 => ?_) (fun c1 => wq_gI e rfl (wq_if _ (fun c2 => ?_) (fun c2 => ?_))))
  · exact wq_some (rI_i ⟨rfl, (if_neg (fun q => by have := lt_i c1; rw [Int32.toInt_zero] at this; omega)).symm⟩)
  · have g1 := nlt_i c1
    have g2 := lt_i c2
    rw [Int32.toInt_zero] at g1
    exact wq_gR e rfl (wq_lI (ea 3 (by omega)).1 c1 ((r v.toInt.toNat (by omega)).1 3 (by omega) (by omega)) (wq_some (rI_i ⟨rfl, (if_pos ⟨g1, by omega⟩).symm⟩)))
  · exact wq_some (rI_i ⟨rfl, (if_neg (fun q => by have := nlt_i c2; omega)).symm⟩)
theorem c_placeOf (N : ND nd T h) : wq (vc lim (d + 1) m_Nodes_placeOf [aR nd, aI v] h) (rI fun x h' => h' = h ∧ x = xP T v) := by
  obtain ⟨A, Ls, c, kt, e, ec, ea, r⟩ := N
  refine wq_eq e_Nodes_placeOf (wq_if _ (fun c1 => ?_) (fun c1 => wq_gI e rfl (wq_if _ (fun c2 => ?_) (fun c2 => ?_))))
  · exact wq_some (rI_i ⟨rfl, (if_neg (fun q => by have := lt_i c1; rw [Int32.toInt_zero] at this; omega)).symm⟩)
  · have g1 := nlt_i c1
    have g2 := lt_i c2
    rw [Int32.toInt_zero] at g1
    exact wq_gR e rfl (wq_lI (ea 4 (by omega)).1 c1 ((r v.toInt.toNat (by omega)).1 4 (by omega) (by omega)) (wq_some (rI_i ⟨rfl, (if_pos ⟨g1, by omega⟩).symm⟩)))
  · exact wq_some (rI_i ⟨rfl, (if_neg (fun q => by have := nlt_i c2; omega)).symm⟩)
theorem c_kidsOf (N : ND nd T h) : wq (vc lim (d + 1) m_Nodes_kidsOf [aR nd, aI v] h) (rI fun x h' => h' = h ∧ x = xM T v) := by
  obtain ⟨A, Ls, c, kt, e, ec, ea, r⟩ := N
  refine wq_eq e_Nodes_kidsOf (wq_if _ (fun c1 => ?_) (fun c1 => wq_gI e rfl (wq_if _ (fun c2 => ?_) (fun c2 => ?_))))
  · exact wq_some (rI_i ⟨rfl, (if_neg (fun q => by have := lt_i c1; rw [Int32.toInt_zero] at this; omega)).symm⟩)
  · have g1 := nlt_i c1
    have g2 := lt_i c2
    rw [Int32.toInt_zero] at g1
    exact wq_gR e rfl (wq_lI (ea 6 (by omega)).1 c1 ((r v.toInt.toNat (by omega)).1 6 (by omega) (by omega)) (wq_some (rI_i ⟨rfl, (if_pos ⟨g1, by omega⟩).symm⟩)))
  · exact wq_some (rI_i ⟨rfl, (if_neg (fun q => by have := nlt_i c2; omega)).symm⟩)
theorem c_kid (N : ND nd T h) : wq (vc lim (d + 1) m_Nodes_kid [aR nd, aI v, aI i] h) (rI fun x h' => h' = h ∧ x = xCh T v i) := by
  obtain ⟨A, Ls, c, kt, e, ec, ea, r⟩ := N
  have z0 : (0 : Int32).toInt = 0 := Int32.toInt_zero
  refine wq_eq e_Nodes_kid (wq_if _ (fun c1 => ?_) (fun c1 => wq_gI e rfl (wq_if _ (fun c2 => ?_) (fun c2 => ?_))))
  · exact wq_some (rI_i ⟨rfl, (if_neg (fun q => by have := lt_i c1; have := q.1.1; omega)).symm⟩)
  · have g1 := nlt_i c1
    have g2 := lt_i c2
    obtain ⟨r1, ka, r2, r3, r4, r5⟩ := r v.toInt.toNat (by omega)
    refine wq_if _ (fun c3 => ?_) (fun c3 => wq_gR e rfl (wq_lI (ea 6 (by omega)).1 c1 (r1 6 (by omega) (by omega)) (wq_if _ (fun c4 => ?_) (fun c4 => ?_))))
    · exact wq_some (rI_i ⟨rfl, (if_neg (fun q => by have := lt_i c3; have := q.2.1; omega)).symm⟩)
    · have g3 := nlt_i c3
      have g4 := lt_i c4
      have l7 := (ea 7 (by omega)).2.1
      have es : (ka + i).toInt = ka.toInt + i.toInt := ad_i (by omega) (by omega)
      refine wq_gR e rfl (wq_lI (ea 5 (by omega)).1 c1 r2 (wq_f (ix_ge (by omega)) (wq_gR e rfl (wq_len (ea 7 (by omega)).1 (by decide) (wq_t (Int32.lt_iff_toInt_lt.mpr (by rw [i32n l7]; omega)) (wq_gR e rfl (wq_lI (ea 7 (by omega)).1 (ix_ge (by omega)) ?_ (wq_some (rI_i ⟨rfl, (if_pos ⟨⟨by omega, by omega⟩, by omega, g4⟩).symm⟩)))))))))
      show (Ls 7)[(ka + i).toInt.toNat]? = _
      rw [es, show (ka.toInt + i.toInt).toNat = ka.toInt.toNat + i.toInt.toNat by omega]
      exact r5 i.toInt.toNat (by omega)
    · exact wq_some (rI_i ⟨rfl, (if_neg (fun q => c4 (Int32.lt_iff_toInt_lt.mpr q.2.2))).symm⟩)
  · exact wq_some (rI_i ⟨rfl, (if_neg (fun q => by have := nlt_i c2; have := q.1.2; omega)).symm⟩)
end Nk
/-! THINGS -/
/-- n things, their places -/
def TH (th : Nat) (n : Nat) (P : Nat → Nat) (h : ah_H) : Prop := ∃ (rw : Nat) (ls : List AV) (c : Int32), h.1 th = some (8, [aR rw, aI c]) ∧ (c.toInt = n ∧ rw = th + 1) ∧ h.1 rw = some (117, ls) ∧ n ≤ ls.length ∧ ls.length ≤ 4000 ∧ ∀ i, i < n → ls[i]? = some (aR (P i))
/-- a thing: now, last, event, active, least, greatest -/
abbrev TS : Type := WD × WD × Int32 × Int32 × Int32 × Int32
def TC (a : Nat) (s : TS) (h : ah_H) : Prop := h.1 a = some (7, [aI (wI s.1), aI (wL s.1), aI s.2.2.2.2.1, aI s.2.2.2.2.2, aR (a + 1), aR (a + 2), aI s.2.2.1, aI s.2.2.2.1]) ∧ h.1 (a + 1) = some (1, dW s.1) ∧ h.1 (a + 2) = some (1, dW s.2.1)
section Tk
variable {lim : Nat × Nat} {d th n : Nat} {P : Nat → Nat} {i : Int32} {h h' : ah_H}
theorem TH_kf (N : TH th n P h) (k : KF h h') : TH th n P h' := by
  obtain ⟨rw, ls, c, e, ec, er, r⟩ := N
  exact ⟨rw, ls, c, k _ _ _ e rfl rfl rfl, ec, k _ _ _ er rfl rfl rfl, r⟩
theorem c_pick (N : TH th n P h) : wq (vc lim (d + 1) m_Things_pick [aR th, aI i] h) (rR fun x h' => h' = h ∧ x = if 0 ≤ i.toInt ∧ i.toInt < n then some (P i.toInt.toNat) else none) := by
  obtain ⟨rw, ls, c, e, ec, er, r1, r2, r⟩ := N
  obtain ⟨ec, -⟩ := ec
  refine wq_eq e_Things_pick (wq_if _ (fun c1 => ?_) (fun c1 => wq_gI e rfl (wq_if _ (fun c2 => ?_) (fun c2 => ?_))))
  · exact wq_some (rR_i ⟨rfl, (if_neg (fun q => by have := lt_i c1; rw [Int32.toInt_zero] at this; omega)).symm⟩)
  · have g1 := nlt_i c1
    have g2 := lt_i c2
    rw [Int32.toInt_zero] at g1
    exact wq_gR e rfl (wq_len er (by decide) (wq_t (Int32.lt_iff_toInt_lt.mpr (by rw [i32n r2]; omega)) (wq_gR e rfl (wq_lR er (by decide) c1 (r i.toInt.toNat (by omega)) (wq_some (rR_i ⟨rfl, (if_pos ⟨g1, by omega⟩).symm⟩))))))
  · exact wq_some (rR_i ⟨rfl, (if_neg (fun q => by have := nlt_i c2; omega)).symm⟩)
end Tk
/-! THE FINDER'S STACK -/
def upS {α : Type} (S : Nat → α) (i : Nat) (w : α) : Nat → α := fun j => if j = i then w else S j
/-- the finder at f, its stack's row at sa, the values' cells D, what they are, how many are in use -/
def FS (f sa sg : Nat) (D : Nat → Nat) (S : Nat → WD) (t : Nat) (h : ah_H) : Prop := (∃ tp : Int32, h.1 f = some (2, [aR sg, aR sa, aI tp]) ∧ tp.toInt = t) ∧ h.1 sa = some (111, (List.range 104).map fun i => aR (D i)) ∧ (∀ i, i < 104 → h.1 (D i) = some (1, dW (S i))) ∧ t ≤ 104 ∧ (∀ i j, i < 104 → j < 104 → D i = D j → i = j)
/-- only the finder and its values have changed -/
def FG (f : Nat) (D : Nat → Nat) (h h' : ah_H) : Prop := (∀ q, q ≠ f → (∀ i, i < 104 → q ≠ D i) → h'.1 q = h.1 q) ∧ h'.2.1 = h.2.1 ∧ h'.2.2.1 = h.2.2.1
section Fk
variable {lim : Nat × Nat} {d f sa sg t : Nat} {D : Nat → Nat} {S S' : Nat → WD} {h h' h1 h2 h3 : ah_H} {w : WD}
theorem upS_eq {α : Type} {S : Nat → α} {i : Nat} {w : α} : upS S i w i = w := if_pos rfl
theorem upS_ne {α : Type} {S : Nat → α} {i j : Nat} {w : α} (hj : j ≠ i) : upS S i w j = S j := if_neg hj
theorem FG_0 : FG f D h h := ⟨fun _ _ _ => rfl, rfl, rfl⟩
theorem FG_tr (a : FG f D h1 h2) (c : FG f D h2 h3) : FG f D h1 h3 := ⟨fun q x y => (c.1 q x y).trans (a.1 q x y), c.2.1.trans a.2.1, c.2.2.trans a.2.2⟩
theorem FS_fn (F : FS f sa sg D S t h) {i : Nat} (hi : i < 104) : f ≠ D i := by
  obtain ⟨⟨tp, e, -⟩, -, ed, -⟩ := F
  intro q
  have := ed i hi
  rw [← q, e] at this
  cases this
theorem FS_sn (F : FS f sa sg D S t h) {i : Nat} (hi : i < 104) : sa ≠ D i := by
  obtain ⟨-, e, ed, -⟩ := F
  intro q
  have := ed i hi
  rw [← q, e] at this
  cases this
theorem FS_sf (F : FS f sa sg D S t h) : sa ≠ f := by
  obtain ⟨⟨tp, e, -⟩, es, -⟩ := F
  intro q
  rw [q, e] at es
  cases es
theorem FG_kf (F : FS f sa sg D S t h) (g : FG f D h h') : KF h h' := by
  intro q k vs e k1 k2 k10
  refine (g.1 q ?_ ?_).trans e
  · rintro rfl
    obtain ⟨⟨tp, e', -⟩, -⟩ := F
    rw [e] at e'
    cases e'
    cases k2
  · rintro i hi rfl
    have e' := F.2.2.1 i hi
    rw [e] at e'
    cases e'
    cases k1
/-- a value of the stack has changed -/
theorem FS_U {i : Nat} (F : FS f sa sg D S t h) (hi : i < 104) (u : U1 (D i) w h h') : FS f sa sg D (upS S i w) t h' ∧ FG f D h h' := by
  have n1 := FS_fn F hi
  have n2 := FS_sn F hi
  obtain ⟨⟨tp, e, et⟩, es, ed, ht, inj⟩ := F
  refine ⟨⟨⟨tp, U1_ne u n1 e, et⟩, U1_ne u n2 es, fun j hj => ?_, ht, inj⟩, ⟨fun q _ hq => u.2.1 q (hq i hi), u.2.2⟩⟩
  by_cases c : j = i
  · subst c
    rw [upS_eq]
    exact u.1
  · rw [upS_ne c]
    exact U1_ne u (fun q => c (inj j i hj hi q)) (ed j hj)
theorem st_get {i : Nat} (hi : i < 104) : ((List.range 104).map fun i => aR (D i))[i]? = some (aR (D i)) := by
  rw [List.getElem?_map, List.getElem?_range hi]
  rfl
theorem c_push (F : FS f sa sg D S t h) (ht : t < 104) : wq (vc lim (d + 1) m_Finder_push [aR f] h) (rR fun x h' => x = some (D t) ∧ FS f sa sg D S (t + 1) h' ∧ FG f D h h') := by
  have F0 := F
  have n3 := FS_sf F
  obtain ⟨⟨tp, e, et⟩, es, ed, -, inj⟩ := F
  have e1 : (tp + 1).toInt = tp.toInt + 1 := ad_i (by show _ ≤ tp.toInt + 1; omega) (by show tp.toInt + 1 ≤ _; omega)
  have e2 : (tp + 1 - 1).toInt = t := by
    rw [sb_i (by show _ ≤ (tp + 1).toInt - 1; omega) (by show (tp + 1).toInt - 1 ≤ _; omega)]
    show (tp + 1).toInt - 1 = t
    omega
  refine wq_eq e_Finder_push (wq_gI e rfl (wq_gR e rfl (wq_len es (by decide) ?_)))
  rw [List.length_map, List.length_range]
  refine wq_t (Int32.lt_iff_toInt_lt.mpr (by rw [i32n (by omega)]; omega)) (wq_gI e rfl (wq_wr e (Nat.le_of_ble_eq_true rfl) (wq_gR up_eq rfl (wq_gI up_eq rfl (wq_lR (up_ne n3 es) (by decide) (ix_ge (by omega)) ?_ (wq_some (rR_i ⟨rfl, ⟨⟨tp + 1, up_eq, by omega⟩, up_ne n3 es, fun i hi => up_ne (FS_fn F0 hi).symm (ed i hi), by omega, inj⟩, ⟨fun q hq _ => up_ne hq rfl, rfl, rfl⟩⟩)))))))
  show ((List.range 104).map fun i => aR (D i))[(tp + 1 - 1).toInt.toNat]? = _
  rw [e2]
  exact st_get ht
theorem c_down {k : Int32} (F : FS f sa sg D S t h) (h0 : 0 ≤ k.toInt) (hk : k.toInt < t) : wq (vc lim (d + 1) m_Finder_down [aR f, aI k] h) (rR fun x h' => h' = h ∧ x = some (D (t - 1 - k.toInt.toNat))) := by
  obtain ⟨⟨tp, e, et⟩, es, ed, ht, inj⟩ := F
  have e1 : (tp - 1).toInt = tp.toInt - 1 := sb_i (by show _ ≤ tp.toInt - 1; omega) (by show tp.toInt - 1 ≤ _; omega)
  have e2 : (tp - 1 - k).toInt = tp.toInt - 1 - k.toInt := by rw [sb_i (by omega) (by omega), e1]
  refine wq_eq e_Finder_down (wq_f (ix_ge h0) (wq_gI e rfl (wq_t (Int32.lt_iff_toInt_lt.mpr (by omega)) (wq_gR e rfl (wq_gI e rfl (wq_lR es (by decide) (ix_ge (by omega)) ?_ (wq_some (rR_i ⟨rfl, rfl⟩))))))))
  show ((List.range 104).map fun i => aR (D i))[(tp - 1 - k).toInt.toNat]? = _
  rw [e2, show (tp.toInt - 1 - k.toInt).toNat = t - 1 - k.toInt.toNat by omega]
  exact st_get (by omega)
theorem c_drop {k : Int32} (F : FS f sa sg D S t h) (h0 : 0 ≤ k.toInt) (hk : k.toInt < t) : wq (vc lim (d + 1) m_Finder_drop [aR f, aI k] h) (rV fun h' => FS f sa sg D S (t - k.toInt.toNat) h' ∧ FG f D h h') := by
  have F0 := F
  have n3 := FS_sf F
  obtain ⟨⟨tp, e, et⟩, es, ed, ht, inj⟩ := F
  have e1 : (tp - k).toInt = tp.toInt - k.toInt := sb_i (by omega) (by omega)
  refine wq_eq e_Finder_drop (wq_gI e rfl (wq_wr e (Nat.le_of_ble_eq_true rfl) (wq_some (rV_i ⟨⟨⟨_, up_eq, ?_⟩, up_ne n3 es, fun i hi => up_ne (FS_fn F0 hi).symm (ed i hi), by omega, inj⟩, ⟨fun q hq _ => up_ne hq rfl, rfl, rfl⟩⟩))))
  rw [if_neg (fun q => by have := lt_i q; have z : (1 : Int32).toInt = 1 := rfl; omega)]
  omega
theorem c_found (F : FS f sa sg D S t h) : wq (vc lim (d + 1) m_Finder_found [aR f] h) (rR fun x h' => h' = h ∧ x = some (D 0)) := by
  obtain ⟨⟨tp, e, et⟩, es, -⟩ := F
  exact wq_eq e_Finder_found (wq_gR e rfl (wq_lR es (by decide) (by decide) (st_get (i := 0) (by omega)) (wq_some (rR_i ⟨rfl, rfl⟩))))
theorem c_isNumber (F : FS f sa sg D S t h) : wq (vc lim (d + 1) m_Finder_isNumber [aR f] h) (rI fun x h' => h' = h ∧ x = bI (decide (wI (S 0) = 2))) := by
  obtain ⟨⟨tp, e, et⟩, es, ed, -⟩ := F
  refine wq_eq e_Finder_isNumber (wq_gR e rfl (wq_lR es (by decide) (by decide) (st_get (i := 0) (by omega)) (wq_gI (ed 0 (by omega)) rfl (wq_if _ (fun c => ?_) (fun c => ?_)))))
  · exact wq_t (by decide) (wq_some (rI_i ⟨rfl, by rw [decide_eq_true c]; rfl⟩))
  · exact wq_t (by decide) (wq_some (rI_i ⟨rfl, by rw [decide_eq_false c]; rfl⟩))
theorem c_pushNow {a : Nat} {s : TS} (F : FS f sa sg D S t h) (ht : t < 104) (C : TC a s h) (hn : ∀ i, i < 104 → a + 1 ≠ D i) : wq (vc lim (d + 2) m_Finder_pushNow [aR f, aR a] h) (rV fun h' => FS f sa sg D (upS S t s.1) (t + 1) h' ∧ FG f D h h') := by
  have fa : ∃ vs, h.1 f = some (2, vs) := by obtain ⟨⟨tp, e, et⟩, -⟩ := F; exact ⟨_, e⟩
  obtain ⟨vs, ef⟩ := fa
  refine wq_eq e_Finder_pushNow (wq_at ef (wq_cR (c_push F ht) ?_))
  rintro _ h1 ⟨rfl, F1, G1⟩
  have K1 := FG_kf F G1
  have fn : a + 1 ≠ f := fun q => by
    have := C.2.1
    rw [q, ef] at this
    cases this
  refine wq_f (fun q => by cases q) (wq_gR (K1 _ _ _ C.1 rfl rfl rfl) rfl (wq_at (F1.2.2.1 t ht) (wq_cV (c_copy (F1.2.2.1 t ht) ((G1.1 _ fn hn).trans C.2.1) (hn t ht)) ?_)))
  intro h2 u
  obtain ⟨F2, G2⟩ := FS_U F1 ht u
  exact wq_some (rV_i ⟨F2, FG_tr G1 G2⟩)
end Fk
