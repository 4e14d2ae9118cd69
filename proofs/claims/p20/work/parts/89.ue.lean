/-! FINDING: the class's methods over the stack -/
abbrev gb0 (x : Int32) : Int32 := x &&& 1
abbrev gb1 (x : Int32) : Int32 := sri x 1 &&& 1
abbrev gb2 (x : Int32) : Int32 := sri x 2 &&& 1
abbrev gb3 (x : Int32) : Int32 := sri x 3 &&& 1
def gB (b : Int32 → Int32) (c : Nat → Int32) : Nat → Int64
  | 0 => 0
  | n + 1 => shl (gB b c n) 1 ||| (b (c n)).toInt64
def pGather (c : Nat → Int32) (m : Int32) : WD := pHold 1 m (gB gb0 c m.toInt.toNat) (gB gb1 c m.toInt.toNat) (gB gb2 c m.toInt.toNat) (gB gb3 c m.toInt.toNat)
def pEl (r x : WD) : Option WD := if wI x = 2 then if wN x < 0 then none else if wN x < (wL r).toInt64 then some (pPart r 0 (wN x).toInt32 1) else none else none
def pEdge (g : Int32) (s : TS) : WD := pNum (if ¬ s.2.2.1 = 0 ∧ (if g = 8 then ¬ pOnes s.1 = 0 ∧ ¬ pZeros s.2.1 = 0 else ¬ pZeros s.1 = 0 ∧ ¬ pOnes s.2.1 = 0) then 1 else 0)
def pOfS (g : Int32) (s : TS) : WD := if g = 17 then s.2.1 else pNum (if (if g = 15 then s.2.2.1 else s.2.2.2.1) = 0 then 0 else 1)
/-- an end over the stack -/
def oF (f sa sg : Nat) (D : Nat → Nat) (S : Nat → WD) (i t : Nat) (r : Option WD) (h : ah_H) (x : Int32) (h' : ah_H) : Prop := FG f D h h' ∧ match r with
  | some w => x = 0 ∧ FS f sa sg D (upS S i w) t h'
  | none => x ≠ 0 ∧ ∃ S' t', FS f sa sg D S' t' h'
section Fm
variable {lim : Nat × Nat} {d f sa sg t nd : Nat} {D : Nat → Nat} {S : Nat → WD} {h h' : ah_H} {T : KT} {v g x : Int32} {r : Option WD}
theorem FS_f (F : FS f sa sg D S t h) : ∃ vs, h.1 f = some (2, vs) := by
  obtain ⟨⟨tp, e, -⟩, -⟩ := F
  exact ⟨_, e⟩
theorem oF_R {i : Nat} (F : FS f sa sg D S t h) (hi : i < 104) (k : oR r (D i) h x h') : oF f sa sg D S i t r h x h' := by
  cases r with
  | none =>
    obtain ⟨k1, rfl⟩ := k
    exact ⟨FG_0, k1, _, _, F⟩
  | some w =>
    obtain ⟨F1, G1⟩ := FS_U F hi k.2
    exact ⟨G1, k.1, F1⟩
theorem g_gather {m : Int32} (N : ND nd T h) (F : FS f sa sg D S t h) (ht : t < 104) (hm : 0 ≤ m.toInt) (c : Nat → Int32) (hc : ∀ i : Int32, 0 ≤ i.toInt → i.toInt < m.toInt → xG T (xCh T v i) = c i.toInt.toNat) :
    ∀ (n : Nat) (i : Int32), i.toInt + n = m.toInt → 0 ≤ i.toInt → wq (ah_val lim ah_P (d + 1) 142 21 [some (aR f), some (aR nd), some (aI v), some (aI m), some (aJ (gB gb0 c i.toInt.toNat)), none, some (aJ (gB gb1 c i.toInt.toNat)), none, some (aJ (gB gb2 c i.toInt.toNat)), none, some (aJ (gB gb3 c i.toInt.toNat)), none, some (aI i), none] [] h) (rV fun h' => FS f sa sg D (upS S t (pGather c m)) (t + 1) h' ∧ FG f D h h') := by
  obtain ⟨vs, ef⟩ := FS_f F
  have N0 := N
  obtain ⟨A, Ls, cc, kt, en, -⟩ := N0
  intro n
  induction n with
  | zero =>
    intro i hi h0
    have e : i = m := Int32.toInt_inj.mp (by omega)
    subst e
    refine wq_eq q_142_21 (wq_f (fun q => by have := lt_i q; omega) (wq_at ef (wq_cR (c_push F ht) ?_)))
    rintro _ h1 ⟨rfl, F1, G1⟩
    refine wq_at (F1.2.2.1 t ht) (wq_cV (c_hold (F1.2.2.1 t ht)) ?_)
    intro h2 u
    obtain ⟨F2, G2⟩ := FS_U F1 ht u
    exact wq_some (rV_i ⟨F2, FG_tr G1 G2⟩)
  | succ n ih =>
    intro i hi h0
    have hb := bd_i m
    have e1 : (i + 1).toInt = i.toInt + 1 := ad_i (by show _ ≤ i.toInt + 1; omega) (by show i.toInt + 1 ≤ _; omega)
    refine wq_eq q_142_21 (wq_t (Int32.lt_iff_toInt_lt.mpr (by omega)) (wq_at en (wq_cI (c_kid N) ?_)))
    rintro _ _ ⟨rfl, rfl⟩
    refine wq_at en (wq_cI (c_givenOf N) ?_)
    rintro _ _ ⟨rfl, rfl⟩
    rw [hc i h0 (by omega)]
    have := ih (i + 1) (by omega) (by omega)
    rw [show (i + 1).toInt.toNat = i.toInt.toNat + 1 by omega] at this
    exact this
theorem c_gather (N : ND nd T h) (F : FS f sa sg D S t h) (ht : t < 104) (hm : 0 ≤ (xM T v).toInt) (c : Nat → Int32) (hc : ∀ i : Int32, 0 ≤ i.toInt → i.toInt < (xM T v).toInt → xG T (xCh T v i) = c i.toInt.toNat) : wq (vc lim (d + 2) m_Finder_gather [aR f, aR nd, aI v] h) (rV fun h' => FS f sa sg D (upS S t (pGather c (xM T v))) (t + 1) h' ∧ FG f D h h') := by
  have N0 := N
  obtain ⟨A, Ls, cc, kt, en, -⟩ := N0
  refine wq_eq e_Finder_gather (wq_at en (wq_cI (c_kidsOf N) ?_))
  rintro _ _ ⟨rfl, rfl⟩
  exact g_gather N F ht hm c hc (xM T v).toInt.toNat 0 (by rw [Int32.toInt_zero]; omega) (by rw [Int32.toInt_zero]; omega)
theorem c_el (F : FS f sa sg D S t h) (h2 : 2 ≤ t) : wq (vc lim (d + 3) m_Finder_element [aR f] h) (rI (oF f sa sg D S (t - 2) (t - 1) (pEl (S (t - 2)) (S (t - 1))) h)) := by
  have ht := F.2.2.2.1
  obtain ⟨vs, ef⟩ := FS_f F
  have z0 : (0 : Int32).toInt = 0 := rfl
  have z1 : (1 : Int32).toInt = 1 := rfl
  refine wq_eq e_Finder_element ?_
  simp only [lgv_lt]
  refine wq_at ef (wq_cR (c_down (k := 0) F (by omega) (by omega)) ?_)
  rintro _ _ ⟨rfl, rfl⟩
  refine wq_at ef (wq_cR (c_down (k := 1) F (by omega) (by omega)) ?_)
  rintro _ _ ⟨rfl, rfl⟩
  refine wq_at ef (wq_cV (c_drop (k := 1) F (by omega) (by omega)) ?_)
  rintro h1 ⟨F1, G1⟩
  rw [show t - 1 - (0 : Int32).toInt.toNat = t - 1 by rw [z0]; omega, show t - 1 - (1 : Int32).toInt.toNat = t - 2 by rw [z1]; omega]
  rw [show t - (1 : Int32).toInt.toNat = t - 1 by rw [z1]; omega] at F1
  have ea := F1.2.2.1 (t - 2) (by omega)
  have eb := F1.2.2.1 (t - 1) (by omega)
  refine wq_gI eb rfl (wq_if _ (fun c => wq_gJ eb rfl (wq_if _ (fun c1 => ?_) (fun c1 => wq_gJ eb rfl (wq_gI ea rfl (wq_if _ (fun c2 => ?_) (fun c2 => ?_)))))) (fun c => ?_))
  · refine wq_some (rI_i ⟨G1, ?_⟩)
    rw [show pEl (S (t - 2)) (S (t - 1)) = none by rw [pEl, if_pos c, if_pos c1]]
    exact ⟨by decide, _, _, F1⟩
  · refine wq_gJ eb rfl (wq_at ea (wq_cV (c_keepPart ea) ?_))
    intro h2 u
    obtain ⟨F2, G2⟩ := FS_U F1 (by omega) u
    refine wq_some (rI_i ⟨FG_tr G1 G2, ?_⟩)
    rw [show pEl (S (t - 2)) (S (t - 1)) = some (pPart (S (t - 2)) 0 (wN (S (t - 1))).toInt32 1) by rw [pEl, if_pos c, if_neg c1, if_pos c2]]
    exact ⟨rfl, F2⟩
  · refine wq_some (rI_i ⟨G1, ?_⟩)
    rw [show pEl (S (t - 2)) (S (t - 1)) = none by rw [pEl, if_pos c, if_neg c1, if_neg c2]]
    exact ⟨by decide, _, _, F1⟩
  · refine wq_some (rI_i ⟨G1, ?_⟩)
    rw [show pEl (S (t - 2)) (S (t - 1)) = none by rw [pEl, if_neg c]]
    exact ⟨by decide, _, _, F1⟩
theorem c_part (F : FS f sa sg D S t h) (h3 : 3 ≤ t) : wq (vc lim (d + 3) m_Finder_part [aR f] h) (rV fun h' => FS f sa sg D (upS S (t - 3) (pPart (S (t - 3)) 1 (wN (S (t - 2))).toInt32 (wN (S (t - 1))).toInt32)) (t - 2) h' ∧ FG f D h h') := by
  have ht := F.2.2.2.1
  obtain ⟨vs, ef⟩ := FS_f F
  have z0 : (0 : Int32).toInt = 0 := rfl
  have z1 : (1 : Int32).toInt = 1 := rfl
  have z2 : (2 : Int32).toInt = 2 := rfl
  refine wq_eq e_Finder_part (wq_at ef (wq_cR (c_down (k := 0) F (by omega) (by omega)) ?_))
  rintro _ _ ⟨rfl, rfl⟩
  rw [show t - 1 - (0 : Int32).toInt.toNat = t - 1 by rw [z0]; omega]
  refine wq_gJ (F.2.2.1 (t - 1) (by omega)) rfl (wq_at ef (wq_cR (c_down (k := 1) F (by omega) (by omega)) ?_))
  rintro _ _ ⟨rfl, rfl⟩
  rw [show t - 1 - (1 : Int32).toInt.toNat = t - 2 by rw [z1]; omega]
  refine wq_gJ (F.2.2.1 (t - 2) (by omega)) rfl (wq_at ef (wq_cV (c_drop (k := 2) F (by omega) (by omega)) ?_))
  rintro h1 ⟨F1, G1⟩
  rw [show t - (2 : Int32).toInt.toNat = t - 2 by rw [z2]; omega] at F1
  obtain ⟨vs1, ef1⟩ := FS_f F1
  refine wq_at ef1 (wq_cR (c_down (k := 0) F1 (by omega) (by omega)) ?_)
  rintro _ _ ⟨rfl, rfl⟩
  rw [show t - 2 - 1 - (0 : Int32).toInt.toNat = t - 3 by rw [z0]; omega]
  have ea := F1.2.2.1 (t - 3) (by omega)
  refine wq_at ea (wq_cV (c_keepPart ea) ?_)
  intro h2 u
  obtain ⟨F2, G2⟩ := FS_U F1 (by omega) u
  exact wq_some (rV_i ⟨F2, FG_tr G1 G2⟩)
theorem c_dn0 (F : FS f sa sg D S t h) (h1 : 1 ≤ t) : wq (vc lim (d + 1) m_Finder_down [aR f, aI 0] h) (rR fun x h' => h' = h ∧ x = some (D (t - 1))) := by
  have := c_down (lim := lim) (d := d) (k := 0) F (by decide) (by show (0 : Int) < t; omega)
  rw [show t - 1 - (0 : Int32).toInt.toNat = t - 1 from Nat.sub_zero _] at this
  exact this
theorem c_dn1 (F : FS f sa sg D S t h) (h2 : 2 ≤ t) : wq (vc lim (d + 1) m_Finder_down [aR f, aI 1] h) (rR fun x h' => h' = h ∧ x = some (D (t - 2))) := by
  have := c_down (lim := lim) (d := d) (k := 1) F (by decide) (by show (1 : Int) < t; omega)
  rw [show t - 1 - (1 : Int32).toInt.toNat = t - 2 by show t - 1 - 1 = t - 2; omega] at this
  exact this
theorem c_dr1 (F : FS f sa sg D S t h) (h2 : 2 ≤ t) : wq (vc lim (d + 1) m_Finder_drop [aR f, aI 1] h) (rV fun h' => FS f sa sg D S (t - 1) h' ∧ FG f D h h') := by
  have := c_drop (lim := lim) (d := d) (k := 1) F (by decide) (by show (1 : Int) < t; omega)
  rw [show t - (1 : Int32).toInt.toNat = t - 1 by show t - 1 = t - 1; rfl] at this
  exact this
theorem g_145_102 {s : Bool} (F : FS f sa sg D S t h) (h1 : 1 ≤ t) (hr : r = some (pNum (if s then 1 else 0))) : wq (ah_val lim ah_P (d + 1) 145 102 [some (aR f), none, none, none] [aI (bI s)] h) (rI (oF f sa sg D S (t - 1) t r h)) := by
  have ht := F.2.2.2.1
  obtain ⟨vs, ef⟩ := FS_f F
  refine wq_eq q_145_102 (wq_at ef (wq_cR (c_dn0 F h1) ?_))
  rintro _ _ ⟨rfl, rfl⟩
  have ea := F.2.2.1 (t - 1) (by omega)
  cases s with
  | false => exact wq_t rfl (wq_at ea (wq_cV (c_beNumber ea) fun _ u => wq_some (rI_i (oF_R F (by omega) (oR_s hr rfl u)))))
  | true => exact wq_f (by decide) (wq_at ea (wq_cV (c_beNumber ea) fun _ u => wq_some (rI_i (oF_R F (by omega) (oR_s hr rfl u)))))
theorem g_145_139 {s : Bool} (F : FS f sa sg D S t h) (h1 : 1 ≤ t) (hr : r = some (pNum (if s then 1 else 0))) : wq (ah_val lim ah_P (d + 1) 145 139 [some (aR f), none, none, none] [aI (bI s)] h) (rI (oF f sa sg D S (t - 1) t r h)) := by
  have ht := F.2.2.2.1
  obtain ⟨vs, ef⟩ := FS_f F
  refine wq_eq q_145_139 (wq_at ef (wq_cR (c_dn0 F h1) ?_))
  rintro _ _ ⟨rfl, rfl⟩
  have ea := F.2.2.1 (t - 1) (by omega)
  cases s with
  | false => exact wq_t rfl (wq_at ea (wq_cV (c_beNumber ea) fun _ u => wq_some (rI_i (oF_R F (by omega) (oR_s hr rfl u)))))
  | true => exact wq_f (by decide) (wq_at ea (wq_cV (c_beNumber ea) fun _ u => wq_some (rI_i (oF_R F (by omega) (oR_s hr rfl u)))))
theorem g_145_62 {a : Nat} {s : TS} (F : FS f sa sg D S t h) (h1 : 1 ≤ t) (C : TC a s h) (b : Bool) (hb : (b = true) ↔ ¬ s.2.2.1 = 0) : wq (ah_val lim ah_P (d + 1) 145 62 [some (aR f), some (aI g), some (aR a), none] [aI (bI b)] h) (rI (oF f sa sg D S (t - 1) t (some (pEdge g s)) h)) := by
  have E : ∀ q : Bool, ((q = true) ↔ (¬ s.2.2.1 = 0 ∧ (if g = 8 then ¬ pOnes s.1 = 0 ∧ ¬ pZeros s.2.1 = 0 else ¬ pZeros s.1 = 0 ∧ ¬ pOnes s.2.1 = 0))) → some (pEdge g s) = some (pNum (if q then 1 else 0)) := fun q k => by
    unfold pEdge
    simp only [← k]
  refine wq_eq q_145_62 ?_
  simp only [lg_eq]
  refine wq_if _ (fun c => ?_) (fun c => ?_)
  · simp only [if_pos c] at E
    cases b with
    | false => exact wq_t rfl (g_145_102 (s := false) F h1 (E false ⟨fun e => (by cases e), fun e => absurd (hb.mpr e.1) (by decide)⟩))
    | true =>
      refine wq_f (by decide) (wq_gR C.1 rfl (wq_at C.2.1 (wq_cJ (c_ones C.2.1) ?_)))
      rintro _ _ ⟨rfl, rfl⟩
      refine wq_if _ (fun c2 => ?_) (fun c2 => wq_gR C.1 rfl (wq_at C.2.2 (wq_cJ (c_zeros C.2.2) ?_)))
      · exact g_145_102 (s := false) F h1 (E false ⟨fun e => (by cases e), fun e => absurd c2 e.2.1⟩)
      · rintro _ _ ⟨rfl, rfl⟩
        refine wq_if _ (fun c3 => ?_) (fun c3 => ?_)
        · exact g_145_102 (s := false) F h1 (E false ⟨fun e => (by cases e), fun e => absurd c3 e.2.2⟩)
        · exact g_145_102 (s := true) F h1 (E true ⟨fun e => ⟨hb.mp rfl, c2, c3⟩, fun e => rfl⟩)
  · simp only [if_neg c] at E
    cases b with
    | false => exact wq_t rfl (g_145_139 (s := false) F h1 (E false ⟨fun e => (by cases e), fun e => absurd (hb.mpr e.1) (by decide)⟩))
    | true =>
      refine wq_f (by decide) (wq_gR C.1 rfl (wq_at C.2.1 (wq_cJ (c_zeros C.2.1) ?_)))
      rintro _ _ ⟨rfl, rfl⟩
      refine wq_if _ (fun c2 => ?_) (fun c2 => wq_gR C.1 rfl (wq_at C.2.2 (wq_cJ (c_ones C.2.2) ?_)))
      · exact g_145_139 (s := false) F h1 (E false ⟨fun e => (by cases e), fun e => absurd c2 e.2.1⟩)
      · rintro _ _ ⟨rfl, rfl⟩
        refine wq_if _ (fun c3 => ?_) (fun c3 => ?_)
        · exact g_145_139 (s := false) F h1 (E false ⟨fun e => (by cases e), fun e => absurd c3 e.2.2⟩)
        · exact g_145_139 (s := true) F h1 (E true ⟨fun e => ⟨hb.mp rfl, c2, c3⟩, fun e => rfl⟩)
/-- rising, falling -/
theorem c_edge {a : Nat} {s : TS} (F : FS f sa sg D S t h) (h1 : 1 ≤ t) (C : TC a s h) (g0 : ¬ g = 10) (g1 : ¬ g = 11) : wq (vc lim (d + 2) m_Finder_function [aR f, aI g, aR a] h) (rI (oF f sa sg D S (t - 1) t (some (pEdge g s)) h)) := by
  refine wq_eq e_Finder_function (wq_f g0 (wq_f g1 (wq_f (fun q => by cases q) (wq_gI C.1 rfl (wq_if _ (fun c => ?_) (fun c => ?_))))))
  · exact g_145_62 F h1 C false ⟨fun e => (by cases e), fun e => absurd c e⟩
  · exact g_145_62 F h1 C true ⟨fun _ => c, fun _ => rfl⟩
theorem c_fnum {o : Option Nat} (F : FS f sa sg D S t h) (h1 : 1 ≤ t) : wq (vc lim (d + 3) m_Finder_function [aR f, aI 10, .inr (.inr o)] h) (rI (oF f sa sg D S (t - 1) t (pToNum (S (t - 1))) h)) := by
  have ht := F.2.2.2.1
  obtain ⟨vs, ef⟩ := FS_f F
  refine wq_eq e_Finder_function (wq_t rfl (wq_at ef (wq_cR (c_dn0 F h1) ?_)))
  rintro _ _ ⟨rfl, rfl⟩
  exact wq_cI (c_toNumber (F.2.2.1 (t - 1) (by omega))) fun _ _ k => wq_some (rI_i (oF_R F (by omega) k))
theorem c_frow {o : Option Nat} (F : FS f sa sg D S t h) (h2 : 2 ≤ t) : wq (vc lim (d + 3) m_Finder_function [aR f, aI 11, .inr (.inr o)] h) (rI (oF f sa sg D S (t - 2) (t - 1) (pToRow (S (t - 2)) (wN (S (t - 1))).toInt32) h)) := by
  have ht := F.2.2.2.1
  obtain ⟨vs, ef⟩ := FS_f F
  refine wq_eq e_Finder_function (wq_f (by decide) (wq_t rfl (wq_at ef (wq_cR (c_dn0 F (by omega)) ?_))))
  rintro _ _ ⟨rfl, rfl⟩
  refine wq_gJ (F.2.2.1 (t - 1) (by omega)) rfl (wq_at ef (wq_cV (c_dr1 F h2) ?_))
  rintro h3 ⟨F1, G1⟩
  obtain ⟨vs1, ef1⟩ := FS_f F1
  refine wq_at ef1 (wq_cR (c_dn0 F1 (by omega)) ?_)
  rintro _ _ ⟨rfl, rfl⟩
  rw [show t - 1 - 1 = t - 2 by omega]
  refine wq_cI (c_toRow (F1.2.2.1 (t - 2) (by omega))) fun _ _ k => wq_some (rI_i ?_)
  have k2 := oF_R F1 (by omega) k
  exact ⟨FG_tr G1 k2.1, k2.2⟩
theorem c_ofS {a : Nat} {s : TS} (F : FS f sa sg D S t h) (h1 : 1 ≤ t) (C : TC a s h) (hn : ∀ i, i < 104 → a + 2 ≠ D i) : wq (vc lim (d + 2) m_Finder_ofSignal [aR f, aI g, aR a] h) (rV fun h' => FS f sa sg D (upS S (t - 1) (pOfS g s)) t h' ∧ FG f D h h') := by
  have ht := F.2.2.2.1
  obtain ⟨vs, ef⟩ := FS_f F
  have ea := F.2.2.1 (t - 1) (by omega)
  have E : ∀ {w : WD} {h' : ah_H}, pOfS g s = w → U1 (D (t - 1)) w h h' → FS f sa sg D (upS S (t - 1) (pOfS g s)) t h' ∧ FG f D h h' := fun e u => by
    rw [e]
    exact FS_U F (by omega) u
  refine wq_eq e_Finder_ofSignal (wq_f (fun q => by cases q) (wq_if _ (fun c => ?_) (fun c => wq_if _ (fun c1 => ?_) (fun c1 => ?_))))
  · refine wq_at ef (wq_cR (c_dn0 F h1) ?_)
    rintro _ _ ⟨rfl, rfl⟩
    exact wq_gR C.1 rfl (wq_at ea (wq_cV (c_copy ea C.2.2 (hn _ (by omega))) fun _ u => wq_some (rV_i (E (if_pos c) u))))
  · refine wq_gI C.1 rfl (wq_at ef (wq_cR (c_dn0 F h1) ?_))
    rintro _ _ ⟨rfl, rfl⟩
    refine wq_if _ (fun c2 => ?_) (fun c2 => ?_)
    · exact wq_at ea (wq_cV (c_beNumber ea) fun _ u => wq_some (rV_i (E (by rw [pOfS, if_neg c, if_pos c1, if_pos c2]) u)))
    · exact wq_at ea (wq_cV (c_beNumber ea) fun _ u => wq_some (rV_i (E (by rw [pOfS, if_neg c, if_pos c1, if_neg c2]) u)))
  · refine wq_gI C.1 rfl (wq_at ef (wq_cR (c_dn0 F h1) ?_))
    rintro _ _ ⟨rfl, rfl⟩
    refine wq_if _ (fun c2 => ?_) (fun c2 => ?_)
    · exact wq_at ea (wq_cV (c_beNumber ea) fun _ u => wq_some (rV_i (E (by rw [pOfS, if_neg c, if_neg c1, if_pos c2]) u)))
    · exact wq_at ea (wq_cV (c_beNumber ea) fun _ u => wq_some (rV_i (E (by rw [pOfS, if_neg c, if_neg c1, if_neg c2]) u)))
end Fm
/-! UNITS: fail -/
/-- state, fault, its node, steps, task, at, the WAIT, its time -/
abbrev US : Type := Int32 × Int32 × Int32 × Int32 × Int32 × Int32 × Int32 × Int64
abbrev dU (nd vt nx en : Nat) (s : US) : List AV := [aR nd, aR vt, aI s.1, aI s.2.1, aI s.2.2.1, aI s.2.2.2.1, aI s.2.2.2.2.1, aI s.2.2.2.2.2.1, aI s.2.2.2.2.2.2.1, aJ s.2.2.2.2.2.2.2, aR nx, aR en]
/-- one cell has changed -/
def UC (a k : Nat) (vs : List AV) (h h' : ah_H) : Prop := h'.1 a = some (k, vs) ∧ (∀ q, q ≠ a → h'.1 q = h.1 q) ∧ h'.2.1 = h.2.1 ∧ h'.2.2.1 = h.2.2.1
def uFail (s : US) (x v : Int32) : US := (3, x, v, s.2.2.2.1, s.2.2.2.2.1, s.2.2.2.2.2.1, -1, -1)
section Uf
variable {lim : Nat × Nat} {d u nd vt nx en : Nat} {s : US} {x v : Int32} {h : ah_H}
theorem c_leaveWait (e : h.1 u = some (10, dU nd vt nx en s)) : wq (vc lim (d + 1) m_Unit_leaveWait [aR u] h) (rV (UC u 10 (dU nd vt nx en (s.1, s.2.1, s.2.2.1, s.2.2.2.1, s.2.2.2.2.1, s.2.2.2.2.2.1, -1, -1)) h)) := wq_eq e_Unit_leaveWait (wq_wr e (Nat.le_of_ble_eq_true rfl) (wq_wr up_eq (Nat.le_of_ble_eq_true rfl) (wq_some (rV_i ⟨up_eq, fun q hq => up_ne hq (up_ne hq rfl), rfl, rfl⟩))))
theorem c_fail (e : h.1 u = some (10, dU nd vt nx en s)) : wq (vc lim (d + 2) m_Unit_fail [aR u, aI x, aI v] h) (rI fun y h' => y = 0 ∧ UC u 10 (dU nd vt nx en (uFail s x v)) h h') := by
  refine wq_eq e_Unit_fail (wq_at e (wq_cV (c_leaveWait e) ?_))
  rintro h1 ⟨e1, o1, m1⟩
  exact wq_wr e1 (Nat.le_of_ble_eq_true rfl) (wq_wr up_eq (Nat.le_of_ble_eq_true rfl) (wq_wr up_eq (Nat.le_of_ble_eq_true rfl) (wq_t (by decide) (wq_some (rI_i ⟨rfl, up_eq, fun q hq => up_ne hq (up_ne hq (up_ne hq (o1 q hq))), m1⟩)))))
end Uf
