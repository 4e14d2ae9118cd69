/-! FINDING: the class's loop, a kind each, and all of it -/
section Fn
variable {lim : Nat × Nat} {d f sa sg t u nd vt nx en nS nV n : Nat} {D PS PW : Nat → Nat} {S : Nat → WD} {h h' : ah_H} {T : KT} {v vl : Int32} {eS eV : Nat → TS} {kS kV : Nat → Int32 × Int32} {s : US} {Φ : ah_R → Prop}
theorem l_0 (E : EN u nd vt nx en sg PS PW T nS nV eS eV s h) (F : FS f sa sg D S t h) (J1 : DJ D nS PS) (J2 : DJ D nV PW) (hv : rgN T v) (hl : v.toInt ≤ vl.toInt) (hk : kf T 0 v = 0) (t1 : t < 104) (k : ∀ h', FS f sa sg D (upS S t (pNum 0)) (t + 1) h' → FG f D h h' → wq (fLP lim d f u nd vl (v + 1) h') Φ) : wq (fLP lim d f u nd vl v h) Φ := by
  obtain ⟨A, Ls, cc, kt, ed, ec, -⟩ := E.2.1
  obtain ⟨vs, ef⟩ := FS_f F
  have ht := F.2.2.2.1
  refine wq_eq q_137_17 (wq_t (Int32.le_iff_toInt_le.mpr hl) (wq_gI ed rfl (wq_t (Int32.lt_iff_toInt_lt.mpr (by have := hv.2; omega)) (wq_at ed (wq_cI (c_givenOf E.2.1) ?_)))))
  rintro _ _ ⟨rfl, rfl⟩
  refine wq_at ed (wq_cI (c_kindOf E.2.1) ?_)
  rintro _ _ ⟨rfl, rfl⟩
  rw [show xK T v = 0 from (if_pos hv).trans hk, show xG T v = kf T 1 v from if_pos hv]
  refine wq_t rfl ?_
  refine wq_at ef (wq_cR (c_push F t1) ?_)
  rintro _ h1 ⟨rfl, F1, G1⟩
  refine wq_at (F1.2.2.1 t t1) (wq_cV (c_beNumber (F1.2.2.1 t t1)) ?_)
  intro h2 q
  obtain ⟨F2, G2⟩ := FS_U F1 t1 q
  exact fLQ_0 (k h2 F2 (FG_tr G1 G2))
theorem l_2 (E : EN u nd vt nx en sg PS PW T nS nV eS eV s h) (F : FS f sa sg D S t h) (J1 : DJ D nS PS) (J2 : DJ D nV PW) (hv : rgN T v) (hl : v.toInt ≤ vl.toInt) (hk : kf T 0 v = 2) (t1 : t < 104) (k : ∀ h', FS f sa sg D (upS S t (pNum (kf T 1 v).toInt64)) (t + 1) h' → FG f D h h' → wq (fLP lim d f u nd vl (v + 1) h') Φ) : wq (fLP lim d f u nd vl v h) Φ := by
  obtain ⟨A, Ls, cc, kt, ed, ec, -⟩ := E.2.1
  obtain ⟨vs, ef⟩ := FS_f F
  have ht := F.2.2.2.1
  refine wq_eq q_137_17 (wq_t (Int32.le_iff_toInt_le.mpr hl) (wq_gI ed rfl (wq_t (Int32.lt_iff_toInt_lt.mpr (by have := hv.2; omega)) (wq_at ed (wq_cI (c_givenOf E.2.1) ?_)))))
  rintro _ _ ⟨rfl, rfl⟩
  refine wq_at ed (wq_cI (c_kindOf E.2.1) ?_)
  rintro _ _ ⟨rfl, rfl⟩
  rw [show xK T v = 2 from (if_pos hv).trans hk, show xG T v = kf T 1 v from if_pos hv]
  refine wq_f (by decide) ?_
  refine wq_t rfl ?_
  refine wq_at ef (wq_cR (c_push F t1) ?_)
  rintro _ h1 ⟨rfl, F1, G1⟩
  refine wq_at (F1.2.2.1 t t1) (wq_cV (c_beNumber (F1.2.2.1 t t1)) ?_)
  intro h2 q
  obtain ⟨F2, G2⟩ := FS_U F1 t1 q
  exact fLQ_0 (k h2 F2 (FG_tr G1 G2))
theorem l_3 (E : EN u nd vt nx en sg PS PW T nS nV eS eV s h) (F : FS f sa sg D S t h) (J1 : DJ D nS PS) (J2 : DJ D nV PW) (hv : rgN T v) (hl : v.toInt ≤ vl.toInt) (hk : kf T 0 v = 3) (t1 : t < 104) (hp : ¬ xK T (xU T v) = 4) (k : ∀ h', FS f sa sg D (upS S t (pLogic (kf T 1 v))) (t + 1) h' → FG f D h h' → wq (fLP lim d f u nd vl (v + 1) h') Φ) : wq (fLP lim d f u nd vl v h) Φ := by
  obtain ⟨A, Ls, cc, kt, ed, ec, -⟩ := E.2.1
  obtain ⟨vs, ef⟩ := FS_f F
  have ht := F.2.2.2.1
  refine wq_eq q_137_17 (wq_t (Int32.le_iff_toInt_le.mpr hl) (wq_gI ed rfl (wq_t (Int32.lt_iff_toInt_lt.mpr (by have := hv.2; omega)) (wq_at ed (wq_cI (c_givenOf E.2.1) ?_)))))
  rintro _ _ ⟨rfl, rfl⟩
  refine wq_at ed (wq_cI (c_kindOf E.2.1) ?_)
  rintro _ _ ⟨rfl, rfl⟩
  rw [show xK T v = 3 from (if_pos hv).trans hk, show xG T v = kf T 1 v from if_pos hv]
  refine wq_f (by decide) ?_
  refine wq_f (by decide) ?_
  refine wq_t rfl ?_
  refine wq_at ed (wq_cI (c_parentOf E.2.1) ?_)
  rintro _ _ ⟨rfl, rfl⟩
  refine wq_at ed (wq_cI (c_kindOf E.2.1) ?_)
  rintro _ _ ⟨rfl, rfl⟩
  refine wq_f hp (wq_at ef (wq_cR (c_push F t1) ?_))
  rintro _ h1 ⟨rfl, F1, G1⟩
  refine wq_at (F1.2.2.1 t t1) (wq_cV (c_beLogic (F1.2.2.1 t t1)) ?_)
  intro h2 q
  obtain ⟨F2, G2⟩ := FS_U F1 t1 q
  exact fLQ_0 (k h2 F2 (FG_tr G1 G2))
/-- an element of a ROW -/
theorem l_3r (E : EN u nd vt nx en sg PS PW T nS nV eS eV s h) (F : FS f sa sg D S t h) (J1 : DJ D nS PS) (J2 : DJ D nV PW) (hv : rgN T v) (hl : v.toInt ≤ vl.toInt) (hk : kf T 0 v = 3) (hp : xK T (xU T v) = 4) (k : wq (fLP lim d f u nd vl (v + 1) h) Φ) : wq (fLP lim d f u nd vl v h) Φ := by
  obtain ⟨A, Ls, cc, kt, ed, ec, -⟩ := E.2.1
  obtain ⟨vs, ef⟩ := FS_f F
  have ht := F.2.2.2.1
  refine wq_eq q_137_17 (wq_t (Int32.le_iff_toInt_le.mpr hl) (wq_gI ed rfl (wq_t (Int32.lt_iff_toInt_lt.mpr (by have := hv.2; omega)) (wq_at ed (wq_cI (c_givenOf E.2.1) ?_)))))
  rintro _ _ ⟨rfl, rfl⟩
  refine wq_at ed (wq_cI (c_kindOf E.2.1) ?_)
  rintro _ _ ⟨rfl, rfl⟩
  rw [show xK T v = 3 from (if_pos hv).trans hk, show xG T v = kf T 1 v from if_pos hv]
  refine wq_f (by decide) ?_
  refine wq_f (by decide) ?_
  refine wq_t rfl ?_
  refine wq_at ed (wq_cI (c_parentOf E.2.1) ?_)
  rintro _ _ ⟨rfl, rfl⟩
  refine wq_at ed (wq_cI (c_kindOf E.2.1) ?_)
  rintro _ _ ⟨rfl, rfl⟩
  exact wq_t hp (fLQ_0 k)
theorem l_4 (E : EN u nd vt nx en sg PS PW T nS nV eS eV s h) (F : FS f sa sg D S t h) (J1 : DJ D nS PS) (J2 : DJ D nV PW) (hv : rgN T v) (hl : v.toInt ≤ vl.toInt) (hk : kf T 0 v = 4) (t1 : t < 104) (c : Nat → Int32) (hm : 0 ≤ (xM T v).toInt) (hc : ∀ i : Int32, 0 ≤ i.toInt → i.toInt < (xM T v).toInt → xG T (xCh T v i) = c i.toInt.toNat) (k : ∀ h', FS f sa sg D (upS S t (pGather c (xM T v))) (t + 1) h' → FG f D h h' → wq (fLP lim d f u nd vl (v + 1) h') Φ) : wq (fLP lim d f u nd vl v h) Φ := by
  obtain ⟨A, Ls, cc, kt, ed, ec, -⟩ := E.2.1
  obtain ⟨vs, ef⟩ := FS_f F
  have ht := F.2.2.2.1
  refine wq_eq q_137_17 (wq_t (Int32.le_iff_toInt_le.mpr hl) (wq_gI ed rfl (wq_t (Int32.lt_iff_toInt_lt.mpr (by have := hv.2; omega)) (wq_at ed (wq_cI (c_givenOf E.2.1) ?_)))))
  rintro _ _ ⟨rfl, rfl⟩
  refine wq_at ed (wq_cI (c_kindOf E.2.1) ?_)
  rintro _ _ ⟨rfl, rfl⟩
  rw [show xK T v = 4 from (if_pos hv).trans hk, show xG T v = kf T 1 v from if_pos hv]
  refine wq_f (by decide) ?_
  refine wq_f (by decide) ?_
  refine wq_f (by decide) ?_
  refine wq_t rfl ?_
  refine wq_at ef (wq_cV (c_gather E.2.1 F t1 hm c hc) ?_)
  rintro h1 ⟨F1, G1⟩
  exact fLQ_0 (k h1 F1 G1)
theorem l_20 (E : EN u nd vt nx en sg PS PW T nS nV eS eV s h) (F : FS f sa sg D S t h) (J1 : DJ D nS PS) (J2 : DJ D nV PW) (hv : rgN T v) (hl : v.toInt ≤ vl.toInt) (hk : kf T 0 v = 20) (t1 : 1 ≤ t) (k : ∀ w h', pOne (kf T 1 v) (S (t - 1)) = some w → FS f sa sg D (upS S (t - 1) w) (t) h' → FG f D h h' → wq (fLP lim d f u nd vl (v + 1) h') Φ) (k0 : pOne (kf T 1 v) (S (t - 1)) = none → LF f sa sg D u nd vt nx en s h Φ) : wq (fLP lim d f u nd vl v h) Φ := by
  obtain ⟨A, Ls, cc, kt, ed, ec, -⟩ := E.2.1
  obtain ⟨vs, ef⟩ := FS_f F
  have ht := F.2.2.2.1
  refine wq_eq q_137_17 (wq_t (Int32.le_iff_toInt_le.mpr hl) (wq_gI ed rfl (wq_t (Int32.lt_iff_toInt_lt.mpr (by have := hv.2; omega)) (wq_at ed (wq_cI (c_givenOf E.2.1) ?_)))))
  rintro _ _ ⟨rfl, rfl⟩
  refine wq_at ed (wq_cI (c_kindOf E.2.1) ?_)
  rintro _ _ ⟨rfl, rfl⟩
  rw [show xK T v = 20 from (if_pos hv).trans hk, show xG T v = kf T 1 v from if_pos hv]
  refine wq_f (by decide) ?_
  refine wq_f (by decide) ?_
  refine wq_f (by decide) ?_
  refine wq_f (by decide) ?_
  refine wq_t rfl ?_
  refine wq_at ef (wq_cR (c_dn0 F t1) ?_)
  rintro _ _ ⟨rfl, rfl⟩
  exact wq_cI (c_one (F.2.2.1 (t - 1) (by omega))) fun _ h1 q => fLQ_F E F J1 J2 (oF_R F (by omega) q) (fun w e F1 G1 => k w h1 e F1 G1) k0
theorem l_32 (E : EN u nd vt nx en sg PS PW T nS nV eS eV s h) (F : FS f sa sg D S t h) (J1 : DJ D nS PS) (J2 : DJ D nV PW) (hv : rgN T v) (hl : v.toInt ≤ vl.toInt) (hk : kf T 0 v = 32) (t1 : 1 ≤ t) (k : ∀ w h', pTime (kf T 1 v) (S (t - 1)) = some w → FS f sa sg D (upS S (t - 1) w) (t) h' → FG f D h h' → wq (fLP lim d f u nd vl (v + 1) h') Φ) (k0 : pTime (kf T 1 v) (S (t - 1)) = none → LF f sa sg D u nd vt nx en s h Φ) : wq (fLP lim d f u nd vl v h) Φ := by
  obtain ⟨A, Ls, cc, kt, ed, ec, -⟩ := E.2.1
  obtain ⟨vs, ef⟩ := FS_f F
  have ht := F.2.2.2.1
  refine wq_eq q_137_17 (wq_t (Int32.le_iff_toInt_le.mpr hl) (wq_gI ed rfl (wq_t (Int32.lt_iff_toInt_lt.mpr (by have := hv.2; omega)) (wq_at ed (wq_cI (c_givenOf E.2.1) ?_)))))
  rintro _ _ ⟨rfl, rfl⟩
  refine wq_at ed (wq_cI (c_kindOf E.2.1) ?_)
  rintro _ _ ⟨rfl, rfl⟩
  rw [show xK T v = 32 from (if_pos hv).trans hk, show xG T v = kf T 1 v from if_pos hv]
  refine wq_f (by decide) ?_
  refine wq_f (by decide) ?_
  refine wq_f (by decide) ?_
  refine wq_f (by decide) ?_
  refine wq_f (by decide) ?_
  refine wq_f (by decide) ?_
  refine wq_t rfl ?_
  refine wq_at ef (wq_cR (c_dn0 F t1) ?_)
  rintro _ _ ⟨rfl, rfl⟩
  exact wq_cI (c_time (F.2.2.1 (t - 1) (by omega))) fun _ h1 q => fLQ_F E F J1 J2 (oF_R F (by omega) q) (fun w e F1 G1 => k w h1 e F1 G1) k0
theorem l_21 (E : EN u nd vt nx en sg PS PW T nS nV eS eV s h) (F : FS f sa sg D S t h) (J1 : DJ D nS PS) (J2 : DJ D nV PW) (hv : rgN T v) (hl : v.toInt ≤ vl.toInt) (hk : kf T 0 v = 21) (t1 : 2 ≤ t) (k : ∀ w h', pTwo (kf T 1 v) (S (t - 2)) (S (t - 1)) = some w → FS f sa sg D (upS S (t - 2) w) (t - 1) h' → FG f D h h' → wq (fLP lim d f u nd vl (v + 1) h') Φ) (k0 : pTwo (kf T 1 v) (S (t - 2)) (S (t - 1)) = none → LF f sa sg D u nd vt nx en s h Φ) : wq (fLP lim d f u nd vl v h) Φ := by
  obtain ⟨A, Ls, cc, kt, ed, ec, -⟩ := E.2.1
  obtain ⟨vs, ef⟩ := FS_f F
  have ht := F.2.2.2.1
  refine wq_eq q_137_17 (wq_t (Int32.le_iff_toInt_le.mpr hl) (wq_gI ed rfl (wq_t (Int32.lt_iff_toInt_lt.mpr (by have := hv.2; omega)) (wq_at ed (wq_cI (c_givenOf E.2.1) ?_)))))
  rintro _ _ ⟨rfl, rfl⟩
  refine wq_at ed (wq_cI (c_kindOf E.2.1) ?_)
  rintro _ _ ⟨rfl, rfl⟩
  rw [show xK T v = 21 from (if_pos hv).trans hk, show xG T v = kf T 1 v from if_pos hv]
  refine wq_f (by decide) ?_
  refine wq_f (by decide) ?_
  refine wq_f (by decide) ?_
  refine wq_f (by decide) ?_
  refine wq_f (by decide) ?_
  refine wq_t rfl ?_
  refine wq_at ef (wq_cR (c_dn1 F t1) ?_)
  rintro _ _ ⟨rfl, rfl⟩
  refine wq_at ef (wq_cR (c_dn0 F (by omega)) ?_)
  rintro _ _ ⟨rfl, rfl⟩
  refine wq_cI (c_two (F.2.2.1 (t - 2) (by omega)) (F.2.2.1 (t - 1) (by omega))) fun x h1 q => ?_
  cases hr : pTwo (kf T 1 v) (S (t - 2)) (S (t - 1)) with
  | some w =>
    rw [hr] at q
    obtain ⟨rfl, q⟩ := q
    obtain ⟨F1, G1⟩ := FS_U F (by omega) q
    obtain ⟨vs1, ef1⟩ := FS_f F1
    refine wq_at ef1 (wq_cV (c_dr1 F1 t1) ?_)
    rintro h2 ⟨F2, G2⟩
    exact fLQ_0 (k w h2 hr F2 (FG_tr G1 G2))
  | none =>
    rw [hr] at q
    obtain ⟨hx, rfl⟩ := q
    refine wq_at ef (wq_cV (c_dr1 F t1) ?_)
    rintro h2 ⟨F2, G2⟩
    exact fLQ_x hx (EN_tr E F G2 J1 J2) F2 (LF_tr (k0 hr) G2)
theorem l_80 (E : EN u nd vt nx en sg PS PW T nS nV eS eV s h) (F : FS f sa sg D S t h) (J1 : DJ D nS PS) (J2 : DJ D nV PW) (hv : rgN T v) (hl : v.toInt ≤ vl.toInt) (hk : kf T 0 v = 80) (t1 : t < 104) (h0 : 0 ≤ (kf T 1 v).toInt) (h1 : (kf T 1 v).toInt < nS) (k : ∀ h', FS f sa sg D (upS S t ((eS (kf T 1 v).toInt.toNat).1)) (t + 1) h' → FG f D h h' → wq (fLP lim d f u nd vl (v + 1) h') Φ) : wq (fLP lim d f u nd vl v h) Φ := by
  obtain ⟨A, Ls, cc, kt, ed, ec, -⟩ := E.2.1
  obtain ⟨vs, ef⟩ := FS_f F
  have ht := F.2.2.2.1
  refine wq_eq q_137_17 (wq_t (Int32.le_iff_toInt_le.mpr hl) (wq_gI ed rfl (wq_t (Int32.lt_iff_toInt_lt.mpr (by have := hv.2; omega)) (wq_at ed (wq_cI (c_givenOf E.2.1) ?_)))))
  rintro _ _ ⟨rfl, rfl⟩
  refine wq_at ed (wq_cI (c_kindOf E.2.1) ?_)
  rintro _ _ ⟨rfl, rfl⟩
  rw [show xK T v = 80 from (if_pos hv).trans hk, show xG T v = kf T 1 v from if_pos hv]
  refine wq_f (by decide) ?_
  refine wq_f (by decide) ?_
  refine wq_f (by decide) ?_
  refine wq_f (by decide) ?_
  refine wq_f (by decide) ?_
  refine wq_f (by decide) ?_
  refine wq_f (by decide) ?_
  refine wq_t rfl ?_
  have TH1 := E.2.2.1
  obtain ⟨rw1, ls1, c1, et1, -⟩ := TH1
  have TH2 := E.2.2.1
  have C := E.2.2.2.2.1 (kf T 1 v).toInt.toNat (by omega)
  have C2 := J1 (kf T 1 v).toInt.toNat (by omega)
  have F0 := F
  obtain ⟨⟨tp, ef0, -⟩, -⟩ := F0
  refine wq_gR ef0 rfl ?_
  refine wq_at et1 (wq_cR (c_pick TH2) ?_)
  rintro _ _ ⟨rfl, rfl⟩
  rw [if_pos ⟨h0, h1⟩]
  refine wq_at ef (wq_cV (c_pushNow F t1 C (fun i hi => (C2 i hi).1)) ?_)
  rintro h2 ⟨F1, G1⟩
  exact fLQ_0 (k h2 F1 G1)
theorem l_81 (E : EN u nd vt nx en sg PS PW T nS nV eS eV s h) (F : FS f sa sg D S t h) (J1 : DJ D nS PS) (J2 : DJ D nV PW) (hv : rgN T v) (hl : v.toInt ≤ vl.toInt) (hk : kf T 0 v = 81) (t1 : t < 104) (h0 : 0 ≤ (kf T 1 v).toInt) (h1 : (kf T 1 v).toInt < nV) (k : ∀ h', FS f sa sg D (upS S t ((eV (kf T 1 v).toInt.toNat).1)) (t + 1) h' → FG f D h h' → wq (fLP lim d f u nd vl (v + 1) h') Φ) : wq (fLP lim d f u nd vl v h) Φ := by
  obtain ⟨A, Ls, cc, kt, ed, ec, -⟩ := E.2.1
  obtain ⟨vs, ef⟩ := FS_f F
  have ht := F.2.2.2.1
  refine wq_eq q_137_17 (wq_t (Int32.le_iff_toInt_le.mpr hl) (wq_gI ed rfl (wq_t (Int32.lt_iff_toInt_lt.mpr (by have := hv.2; omega)) (wq_at ed (wq_cI (c_givenOf E.2.1) ?_)))))
  rintro _ _ ⟨rfl, rfl⟩
  refine wq_at ed (wq_cI (c_kindOf E.2.1) ?_)
  rintro _ _ ⟨rfl, rfl⟩
  rw [show xK T v = 81 from (if_pos hv).trans hk, show xG T v = kf T 1 v from if_pos hv]
  refine wq_f (by decide) ?_
  refine wq_f (by decide) ?_
  refine wq_f (by decide) ?_
  refine wq_f (by decide) ?_
  refine wq_f (by decide) ?_
  refine wq_f (by decide) ?_
  refine wq_f (by decide) ?_
  refine wq_f (by decide) ?_
  refine wq_t rfl ?_
  have TH1 := E.2.2.2.1
  obtain ⟨rw1, ls1, c1, et1, -⟩ := TH1
  have TH2 := E.2.2.2.1
  have C := E.2.2.2.2.2 (kf T 1 v).toInt.toNat (by omega)
  have C2 := J2 (kf T 1 v).toInt.toNat (by omega)
  refine wq_gR E.1 rfl ?_
  refine wq_at et1 (wq_cR (c_pick TH2) ?_)
  rintro _ _ ⟨rfl, rfl⟩
  rw [if_pos ⟨h0, h1⟩]
  refine wq_at ef (wq_cV (c_pushNow F t1 C (fun i hi => (C2 i hi).1)) ?_)
  rintro h2 ⟨F1, G1⟩
  exact fLQ_0 (k h2 F1 G1)
theorem l_82 (E : EN u nd vt nx en sg PS PW T nS nV eS eV s h) (F : FS f sa sg D S t h) (J1 : DJ D nS PS) (J2 : DJ D nV PW) (hv : rgN T v) (hl : v.toInt ≤ vl.toInt) (hk : kf T 0 v = 82) (t1 : 2 ≤ t) (k : ∀ w h', pEl (S (t - 2)) (S (t - 1)) = some w → FS f sa sg D (upS S (t - 2) w) (t - 1) h' → FG f D h h' → wq (fLP lim d f u nd vl (v + 1) h') Φ) (k0 : pEl (S (t - 2)) (S (t - 1)) = none → LF f sa sg D u nd vt nx en s h Φ) : wq (fLP lim d f u nd vl v h) Φ := by
  obtain ⟨A, Ls, cc, kt, ed, ec, -⟩ := E.2.1
  obtain ⟨vs, ef⟩ := FS_f F
  have ht := F.2.2.2.1
  refine wq_eq q_137_17 (wq_t (Int32.le_iff_toInt_le.mpr hl) (wq_gI ed rfl (wq_t (Int32.lt_iff_toInt_lt.mpr (by have := hv.2; omega)) (wq_at ed (wq_cI (c_givenOf E.2.1) ?_)))))
  rintro _ _ ⟨rfl, rfl⟩
  refine wq_at ed (wq_cI (c_kindOf E.2.1) ?_)
  rintro _ _ ⟨rfl, rfl⟩
  rw [show xK T v = 82 from (if_pos hv).trans hk, show xG T v = kf T 1 v from if_pos hv]
  refine wq_f (by decide) ?_
  refine wq_f (by decide) ?_
  refine wq_f (by decide) ?_
  refine wq_f (by decide) ?_
  refine wq_f (by decide) ?_
  refine wq_f (by decide) ?_
  refine wq_f (by decide) ?_
  refine wq_f (by decide) ?_
  refine wq_f (by decide) ?_
  refine wq_t rfl ?_
  exact wq_at ef (wq_cI (c_el F t1) fun _ h1 q => fLQ_F E F J1 J2 q (fun w e F1 G1 => k w h1 e F1 G1) k0)
theorem l_83 (E : EN u nd vt nx en sg PS PW T nS nV eS eV s h) (F : FS f sa sg D S t h) (J1 : DJ D nS PS) (J2 : DJ D nV PW) (hv : rgN T v) (hl : v.toInt ≤ vl.toInt) (hk : kf T 0 v = 83) (t1 : 3 ≤ t) (k : ∀ h', FS f sa sg D (upS S (t - 3) (pPart (S (t - 3)) 1 (wN (S (t - 2))).toInt32 (wN (S (t - 1))).toInt32)) (t - 2) h' → FG f D h h' → wq (fLP lim d f u nd vl (v + 1) h') Φ) : wq (fLP lim d f u nd vl v h) Φ := by
  obtain ⟨A, Ls, cc, kt, ed, ec, -⟩ := E.2.1
  obtain ⟨vs, ef⟩ := FS_f F
  have ht := F.2.2.2.1
  refine wq_eq q_137_17 (wq_t (Int32.le_iff_toInt_le.mpr hl) (wq_gI ed rfl (wq_t (Int32.lt_iff_toInt_lt.mpr (by have := hv.2; omega)) (wq_at ed (wq_cI (c_givenOf E.2.1) ?_)))))
  rintro _ _ ⟨rfl, rfl⟩
  refine wq_at ed (wq_cI (c_kindOf E.2.1) ?_)
  rintro _ _ ⟨rfl, rfl⟩
  rw [show xK T v = 83 from (if_pos hv).trans hk, show xG T v = kf T 1 v from if_pos hv]
  refine wq_f (by decide) ?_
  refine wq_f (by decide) ?_
  refine wq_f (by decide) ?_
  refine wq_f (by decide) ?_
  refine wq_f (by decide) ?_
  refine wq_f (by decide) ?_
  refine wq_f (by decide) ?_
  refine wq_f (by decide) ?_
  refine wq_f (by decide) ?_
  refine wq_f (by decide) ?_
  refine wq_t rfl ?_
  refine wq_at ef (wq_cV (c_part F t1) ?_)
  rintro h2 ⟨F1, G1⟩
  exact fLQ_0 (k h2 F1 G1)
theorem l_84n (E : EN u nd vt nx en sg PS PW T nS nV eS eV s h) (F : FS f sa sg D S t h) (J1 : DJ D nS PS) (J2 : DJ D nV PW) (hv : rgN T v) (hl : v.toInt ≤ vl.toInt) (hk : kf T 0 v = 84) (hg : kf T 1 v = 10) (t1 : 1 ≤ t) (k : ∀ w h', pToNum (S (t - 1)) = some w → FS f sa sg D (upS S (t - 1) w) (t) h' → FG f D h h' → wq (fLP lim d f u nd vl (v + 1) h') Φ) (k0 : pToNum (S (t - 1)) = none → LF f sa sg D u nd vt nx en s h Φ) : wq (fLP lim d f u nd vl v h) Φ := by
  obtain ⟨A, Ls, cc, kt, ed, ec, -⟩ := E.2.1
  obtain ⟨vs, ef⟩ := FS_f F
  have ht := F.2.2.2.1
  refine wq_eq q_137_17 (wq_t (Int32.le_iff_toInt_le.mpr hl) (wq_gI ed rfl (wq_t (Int32.lt_iff_toInt_lt.mpr (by have := hv.2; omega)) (wq_at ed (wq_cI (c_givenOf E.2.1) ?_)))))
  rintro _ _ ⟨rfl, rfl⟩
  refine wq_at ed (wq_cI (c_kindOf E.2.1) ?_)
  rintro _ _ ⟨rfl, rfl⟩
  rw [show xK T v = 84 from (if_pos hv).trans hk, show xG T v = kf T 1 v from if_pos hv]
  refine wq_f (by decide) ?_
  refine wq_f (by decide) ?_
  refine wq_f (by decide) ?_
  refine wq_f (by decide) ?_
  refine wq_f (by decide) ?_
  refine wq_f (by decide) ?_
  refine wq_f (by decide) ?_
  refine wq_f (by decide) ?_
  refine wq_f (by decide) ?_
  refine wq_f (by decide) ?_
  refine wq_f (by decide) ?_
  refine wq_t rfl ?_
  have F0 := F
  obtain ⟨⟨tp, ef0, -⟩, -⟩ := F0
  obtain ⟨rw1, ls1, c1, et1, -⟩ := E.2.2.1
  refine wq_gR ef0 rfl (wq_at ed (wq_cI (c_kid E.2.1) ?_))
  rintro _ _ ⟨rfl, rfl⟩
  refine wq_at ed (wq_cI (c_givenOf E.2.1) ?_)
  rintro _ _ ⟨rfl, rfl⟩
  refine wq_at et1 (wq_cR (c_pick E.2.2.1) ?_)
  rintro _ _ ⟨rfl, rfl⟩
  rw [hg]
  exact wq_at ef (wq_cI (c_fnum F t1) fun _ h1 q => fLQ_F E F J1 J2 q (fun w e F1 G1 => k w h1 e F1 G1) k0)
theorem l_84r (E : EN u nd vt nx en sg PS PW T nS nV eS eV s h) (F : FS f sa sg D S t h) (J1 : DJ D nS PS) (J2 : DJ D nV PW) (hv : rgN T v) (hl : v.toInt ≤ vl.toInt) (hk : kf T 0 v = 84) (hg : kf T 1 v = 11) (t1 : 2 ≤ t) (k : ∀ w h', pToRow (S (t - 2)) (wN (S (t - 1))).toInt32 = some w → FS f sa sg D (upS S (t - 2) w) (t - 1) h' → FG f D h h' → wq (fLP lim d f u nd vl (v + 1) h') Φ) (k0 : pToRow (S (t - 2)) (wN (S (t - 1))).toInt32 = none → LF f sa sg D u nd vt nx en s h Φ) : wq (fLP lim d f u nd vl v h) Φ := by
  obtain ⟨A, Ls, cc, kt, ed, ec, -⟩ := E.2.1
  obtain ⟨vs, ef⟩ := FS_f F
  have ht := F.2.2.2.1
  refine wq_eq q_137_17 (wq_t (Int32.le_iff_toInt_le.mpr hl) (wq_gI ed rfl (wq_t (Int32.lt_iff_toInt_lt.mpr (by have := hv.2; omega)) (wq_at ed (wq_cI (c_givenOf E.2.1) ?_)))))
  rintro _ _ ⟨rfl, rfl⟩
  refine wq_at ed (wq_cI (c_kindOf E.2.1) ?_)
  rintro _ _ ⟨rfl, rfl⟩
  rw [show xK T v = 84 from (if_pos hv).trans hk, show xG T v = kf T 1 v from if_pos hv]
  refine wq_f (by decide) ?_
  refine wq_f (by decide) ?_
  refine wq_f (by decide) ?_
  refine wq_f (by decide) ?_
  refine wq_f (by decide) ?_
  refine wq_f (by decide) ?_
  refine wq_f (by decide) ?_
  refine wq_f (by decide) ?_
  refine wq_f (by decide) ?_
  refine wq_f (by decide) ?_
  refine wq_f (by decide) ?_
  refine wq_t rfl ?_
  have F0 := F
  obtain ⟨⟨tp, ef0, -⟩, -⟩ := F0
  obtain ⟨rw1, ls1, c1, et1, -⟩ := E.2.2.1
  refine wq_gR ef0 rfl (wq_at ed (wq_cI (c_kid E.2.1) ?_))
  rintro _ _ ⟨rfl, rfl⟩
  refine wq_at ed (wq_cI (c_givenOf E.2.1) ?_)
  rintro _ _ ⟨rfl, rfl⟩
  refine wq_at et1 (wq_cR (c_pick E.2.2.1) ?_)
  rintro _ _ ⟨rfl, rfl⟩
  rw [hg]
  exact wq_at ef (wq_cI (c_frow F t1) fun _ h1 q => fLQ_F E F J1 J2 q (fun w e F1 G1 => k w h1 e F1 G1) k0)
theorem l_84e (E : EN u nd vt nx en sg PS PW T nS nV eS eV s h) (F : FS f sa sg D S t h) (J1 : DJ D nS PS) (J2 : DJ D nV PW) (hv : rgN T v) (hl : v.toInt ≤ vl.toInt) (hk : kf T 0 v = 84) (g0 : ¬ kf T 1 v = 10) (g1 : ¬ kf T 1 v = 11) (t1 : 1 ≤ t) (hc : rgN T (kC T v 0)) (hm : 0 < (kf T 6 v).toInt) (h0 : 0 ≤ (kf T 1 (kC T v 0)).toInt) (h1 : (kf T 1 (kC T v 0)).toInt < nS) (k : ∀ h', FS f sa sg D (upS S (t - 1) (pEdge (kf T 1 v) (eS (kf T 1 (kC T v 0)).toInt.toNat))) (t) h' → FG f D h h' → wq (fLP lim d f u nd vl (v + 1) h') Φ) : wq (fLP lim d f u nd vl v h) Φ := by
  obtain ⟨A, Ls, cc, kt, ed, ec, -⟩ := E.2.1
  obtain ⟨vs, ef⟩ := FS_f F
  have ht := F.2.2.2.1
  refine wq_eq q_137_17 (wq_t (Int32.le_iff_toInt_le.mpr hl) (wq_gI ed rfl (wq_t (Int32.lt_iff_toInt_lt.mpr (by have := hv.2; omega)) (wq_at ed (wq_cI (c_givenOf E.2.1) ?_)))))
  rintro _ _ ⟨rfl, rfl⟩
  refine wq_at ed (wq_cI (c_kindOf E.2.1) ?_)
  rintro _ _ ⟨rfl, rfl⟩
  rw [show xK T v = 84 from (if_pos hv).trans hk, show xG T v = kf T 1 v from if_pos hv]
  refine wq_f (by decide) ?_
  refine wq_f (by decide) ?_
  refine wq_f (by decide) ?_
  refine wq_f (by decide) ?_
  refine wq_f (by decide) ?_
  refine wq_f (by decide) ?_
  refine wq_f (by decide) ?_
  refine wq_f (by decide) ?_
  refine wq_f (by decide) ?_
  refine wq_f (by decide) ?_
  refine wq_f (by decide) ?_
  refine wq_t rfl ?_
  have F0 := F
  obtain ⟨⟨tp, ef0, -⟩, -⟩ := F0
  obtain ⟨rw1, ls1, c1, et1, -⟩ := E.2.2.1
  refine wq_gR ef0 rfl (wq_at ed (wq_cI (c_kid E.2.1) ?_))
  rintro _ _ ⟨rfl, rfl⟩
  refine wq_at ed (wq_cI (c_givenOf E.2.1) ?_)
  rintro _ _ ⟨rfl, rfl⟩
  refine wq_at et1 (wq_cR (c_pick E.2.2.1) ?_)
  rintro _ _ ⟨rfl, rfl⟩
  rw [show xCh T v 0 = kC T v 0 from if_pos ⟨hv, by decide, hm⟩, show xG T (kC T v 0) = kf T 1 (kC T v 0) from if_pos hc, if_pos ⟨h0, h1⟩]
  have C := E.2.2.2.2.1 (kf T 1 (kC T v 0)).toInt.toNat (by omega)
  have C2 := J1 (kf T 1 (kC T v 0)).toInt.toNat (by omega)
  refine wq_at ef (wq_cI (c_edge F t1 C g0 g1) fun _ h2 q => ?_)
  obtain ⟨G1, rfl, F1⟩ := q
  exact fLQ_0 (k h2 F1 G1)
theorem l_85 (E : EN u nd vt nx en sg PS PW T nS nV eS eV s h) (F : FS f sa sg D S t h) (J1 : DJ D nS PS) (J2 : DJ D nV PW) (hv : rgN T v) (hl : v.toInt ≤ vl.toInt) (hk : kf T 0 v = 85) (t1 : 1 ≤ t) (hc : rgN T (kC T v 0)) (hm : 0 < (kf T 6 v).toInt) (h0 : 0 ≤ (kf T 1 (kC T v 0)).toInt) (h1 : (kf T 1 (kC T v 0)).toInt < nS) (k : ∀ h', FS f sa sg D (upS S (t - 1) (pOfS (kf T 1 v) (eS (kf T 1 (kC T v 0)).toInt.toNat))) (t) h' → FG f D h h' → wq (fLP lim d f u nd vl (v + 1) h') Φ) : wq (fLP lim d f u nd vl v h) Φ := by
  obtain ⟨A, Ls, cc, kt, ed, ec, -⟩ := E.2.1
  obtain ⟨vs, ef⟩ := FS_f F
  have ht := F.2.2.2.1
  refine wq_eq q_137_17 (wq_t (Int32.le_iff_toInt_le.mpr hl) (wq_gI ed rfl (wq_t (Int32.lt_iff_toInt_lt.mpr (by have := hv.2; omega)) (wq_at ed (wq_cI (c_givenOf E.2.1) ?_)))))
  rintro _ _ ⟨rfl, rfl⟩
  refine wq_at ed (wq_cI (c_kindOf E.2.1) ?_)
  rintro _ _ ⟨rfl, rfl⟩
  rw [show xK T v = 85 from (if_pos hv).trans hk, show xG T v = kf T 1 v from if_pos hv]
  refine wq_f (by decide) ?_
  refine wq_f (by decide) ?_
  refine wq_f (by decide) ?_
  refine wq_f (by decide) ?_
  refine wq_f (by decide) ?_
  refine wq_f (by decide) ?_
  refine wq_f (by decide) ?_
  refine wq_f (by decide) ?_
  refine wq_f (by decide) ?_
  refine wq_f (by decide) ?_
  refine wq_f (by decide) ?_
  refine wq_f (by decide) ?_
  refine wq_t rfl ?_
  have F0 := F
  obtain ⟨⟨tp, ef0, -⟩, -⟩ := F0
  obtain ⟨rw1, ls1, c1, et1, -⟩ := E.2.2.1
  refine wq_gR ef0 rfl (wq_at ed (wq_cI (c_kid E.2.1) ?_))
  rintro _ _ ⟨rfl, rfl⟩
  refine wq_at ed (wq_cI (c_givenOf E.2.1) ?_)
  rintro _ _ ⟨rfl, rfl⟩
  refine wq_at et1 (wq_cR (c_pick E.2.2.1) ?_)
  rintro _ _ ⟨rfl, rfl⟩
  rw [show xCh T v 0 = kC T v 0 from if_pos ⟨hv, by decide, hm⟩, show xG T (kC T v 0) = kf T 1 (kC T v 0) from if_pos hc, if_pos ⟨h0, h1⟩]
  have C := E.2.2.2.2.1 (kf T 1 (kC T v 0)).toInt.toNat (by omega)
  have C2 := J1 (kf T 1 (kC T v 0)).toInt.toNat (by omega)
  refine wq_at ef (wq_cV (c_ofS F t1 C (fun i hi => (C2 i hi).2)) ?_)
  rintro h2 ⟨F1, G1⟩
  exact fLQ_0 (k h2 F1 G1)
end Fn
