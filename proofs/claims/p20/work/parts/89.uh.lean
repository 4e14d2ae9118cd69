/-! FINDING: the class finds what an expression is -/
section Fh
variable {lim : Nat × Nat} {d f sa sg t u nd vt nx en nS nV n : Nat} {D PS PW : Nat → Nat} {S : Nat → WD} {h h' : ah_H} {T : KT} {v vl : Int32} {eS eV : Nat → TS} {kS kV : Nat → Int32 × Int32} {s : US} {Φ : ah_R → Prop}
theorem ev_0 (hk : kf T 0 v = 0) : ev T eS eV (n + 1) v = some (pNum 0) := by simp [ev, hk]
theorem ev_2 (hk : kf T 0 v = 2) : ev T eS eV (n + 1) v = some (pNum (kf T 1 v).toInt64) := by simp [ev, hk]
theorem ev_3 (hk : kf T 0 v = 3) : ev T eS eV (n + 1) v = some (pLogic (kf T 1 v)) := by simp [ev, hk]
theorem ev_4 (hk : kf T 0 v = 4) : ev T eS eV (n + 1) v = some (pGather (evc T v) (kf T 6 v)) := by simp [ev, hk]
theorem ev_20 (hk : kf T 0 v = 20) : ev T eS eV (n + 1) v = (ev T eS eV n (kC T v 0)).bind fun w => pOne (kf T 1 v) w := by simp [ev, hk]
theorem ev_21 (hk : kf T 0 v = 21) : ev T eS eV (n + 1) v = (ev T eS eV n (kC T v 0)).bind fun w => (ev T eS eV n (kC T v 1)).bind fun z => pTwo (kf T 1 v) w z := by simp [ev, hk]
theorem ev_32 (hk : kf T 0 v = 32) : ev T eS eV (n + 1) v = (ev T eS eV n (kC T v 0)).bind fun w => pTime (kf T 1 v) w := by simp [ev, hk]
theorem ev_80 (hk : kf T 0 v = 80) : ev T eS eV (n + 1) v = some (eS (kf T 1 v).toInt.toNat).1 := by simp [ev, hk]
theorem ev_81 (hk : kf T 0 v = 81) : ev T eS eV (n + 1) v = some (eV (kf T 1 v).toInt.toNat).1 := by simp [ev, hk]
theorem ev_82 (hk : kf T 0 v = 82) : ev T eS eV (n + 1) v = (ev T eS eV n (kC T v 0)).bind fun w => (ev T eS eV n (kC T v 1)).bind fun z => pEl w z := by simp [ev, hk]
theorem ev_83 (hk : kf T 0 v = 83) : ev T eS eV (n + 1) v = (ev T eS eV n (kC T v 0)).bind fun w => some (pPart w 1 (kf T 1 (kC T v 1)) (kf T 1 (kC T v 2))) := by simp [ev, hk]
theorem ev_84n (hk : kf T 0 v = 84) (hg : kf T 1 v = 10) : ev T eS eV (n + 1) v = (ev T eS eV n (kC T v 0)).bind fun w => pToNum w := by simp [ev, hk, hg]
theorem ev_84r (hk : kf T 0 v = 84) (hg : kf T 1 v = 11) : ev T eS eV (n + 1) v = (ev T eS eV n (kC T v 0)).bind fun w => pToRow w (kf T 1 (kC T v 1)) := by simp [ev, hk, hg]
theorem ev_84e (hk : kf T 0 v = 84) (g0 : ¬ kf T 1 v = 10) (g1 : ¬ kf T 1 v = 11) : ev T eS eV (n + 1) v = some (pEdge (kf T 1 v) (eS (kf T 1 (kC T v 0)).toInt.toNat)) := by simp [ev, hk, g0, g1]
theorem ev_85 (hk : kf T 0 v = 85) : ev T eS eV (n + 1) v = some (pOfS (kf T 1 v) (eS (kf T 1 (kC T v 0)).toInt.toNat)) := by simp [ev, hk]
theorem po_0 (P : PO T) (hv : rgN T v) (hm : kf T 6 v = 0) : kf T 2 v = v := (P.2 v hv).2.1 hm
theorem po_k (P : PO T) (hv : rgN T v) {i : Nat} (hi : (i : Int) < (kf T 6 v).toInt) : rgN T (kC T v i) ∧ kf T 3 (kC T v i) = v ∧ (kf T 4 (kC T v i)).toInt = i ∧ (kC T v i).toInt < v.toInt := (P.2 v hv).2.2.2 i hi
theorem po_s (P : PO T) (hv : rgN T v) (hm : 0 < (kf T 6 v).toInt) : kf T 2 v = kf T 2 (kC T v 0) := ((P.2 v hv).2.2.1 hm).1
theorem po_1 (P : PO T) (hv : rgN T v) (hm : kf T 6 v = 1) : kf T 2 v = kf T 2 (kC T v 0) ∧ kC T v 0 + 1 = v ∧ rgN T (kC T v 0) ∧ (kC T v 0).toInt < v.toInt := by
  have q := P.2 v hv
  have e : (kf T 6 v).toInt = 1 := by rw [hm]; rfl
  have q2 := q.2.2.1 (by omega)
  rw [e] at q2
  have q3 := po_k P hv (i := 0) (by omega)
  exact ⟨q2.1, q2.2.2.symm, q3.1, q3.2.2.2⟩
theorem po_2 (P : PO T) (hv : rgN T v) (hm : kf T 6 v = 2) : kf T 2 v = kf T 2 (kC T v 0) ∧ kf T 2 (kC T v 1) = kC T v 0 + 1 ∧ kC T v 1 + 1 = v ∧ (rgN T (kC T v 0) ∧ (kC T v 0).toInt < v.toInt) ∧ (rgN T (kC T v 1) ∧ (kC T v 1).toInt < v.toInt) := by
  have q := P.2 v hv
  have e : (kf T 6 v).toInt = 2 := by rw [hm]; rfl
  have q2 := q.2.2.1 (by omega)
  have q4 := q2.2.1 0 (by omega)
  have q5 := q2.2.2
  rw [e] at q5
  have q3 := po_k P hv (i := 0) (by omega)
  have q6 := po_k P hv (i := 1) (by omega)
  exact ⟨q2.1, q4, q5.symm, ⟨q3.1, q3.2.2.2⟩, ⟨q6.1, q6.2.2.2⟩⟩
theorem po_3 (P : PO T) (hv : rgN T v) (hm : kf T 6 v = 3) : kf T 2 v = kf T 2 (kC T v 0) ∧ kf T 2 (kC T v 1) = kC T v 0 + 1 ∧ kf T 2 (kC T v 2) = kC T v 1 + 1 ∧ kC T v 2 + 1 = v ∧ (rgN T (kC T v 0) ∧ (kC T v 0).toInt < v.toInt) ∧ (rgN T (kC T v 1) ∧ (kC T v 1).toInt < v.toInt) ∧ (rgN T (kC T v 2) ∧ (kC T v 2).toInt < v.toInt) := by
  have q := P.2 v hv
  have e : (kf T 6 v).toInt = 3 := by rw [hm]; rfl
  have q2 := q.2.2.1 (by omega)
  have q4 := q2.2.1 0 (by omega)
  have q7 := q2.2.1 1 (by omega)
  have q5 := q2.2.2
  rw [e] at q5
  have q3 := po_k P hv (i := 0) (by omega)
  have q6 := po_k P hv (i := 1) (by omega)
  have q8 := po_k P hv (i := 2) (by omega)
  exact ⟨q2.1, q4, q7, q5.symm, ⟨q3.1, q3.2.2.2⟩, ⟨q6.1, q6.2.2.2⟩, ⟨q8.1, q8.2.2.2⟩⟩
theorem hp_k (P : PO T) (hv : rgN T v) {i : Nat} (hi : (i : Int) < (kf T 6 v).toInt) (hk : ¬ kf T 0 v = 4) : ¬ xK T (xU T (kC T v i)) = 4 := by
  obtain ⟨q1, q2, -⟩ := po_k P hv hi
  rw [show xU T (kC T v i) = v from (if_pos q1).trans q2, show xK T v = kf T 0 v from if_pos hv]
  exact hk
/-- a ROW's elements are passed over -/
theorem fl_row (P : PO T) (E : EN u nd vt nx en sg PS PW T nS nV eS eV s h) (F : FS f sa sg D S t h) (J1 : DJ D nS PS) (J2 : DJ D nV PW) (hv : rgN T v) (hl : v.toInt ≤ vl.toInt) (hk : kf T 0 v = 4) (hc : ∀ i : Nat, (i : Int) < (kf T 6 v).toInt → kf T 0 (kC T v i) = 3 ∧ kf T 6 (kC T v i) = 0) (k : wq (fLP lim d f u nd vl v h) Φ) : ∀ (m i : Nat), (i : Int) + m + 1 = (kf T 6 v).toInt → wq (fLP lim d f u nd vl (kC T v i) h) Φ := by
  have H : ∀ i : Nat, (i : Int) < (kf T 6 v).toInt → wq (fLP lim d f u nd vl (kC T v i + 1) h) Φ → wq (fLP lim d f u nd vl (kC T v i) h) Φ := fun i hi k' => by
    obtain ⟨q1, q2, -, q4⟩ := po_k P hv hi
    exact l_3r E F J1 J2 q1 (by omega) (hc i hi).1 (by rw [show xU T (kC T v i) = v from (if_pos q1).trans q2, show xK T v = kf T 0 v from if_pos hv]; exact hk) k'
  have Q := (P.2 v hv).2.2.1
  intro m
  induction m with
  | zero =>
    intro i hi
    refine H i (by omega) ?_
    have e := (Q (by omega)).2.2
    rw [show (kf T 6 v).toInt.toNat - 1 = i by omega] at e
    rw [← e]
    exact k
  | succ m ih =>
    intro i hi
    refine H i (by omega) ?_
    have e := (Q (by omega)).2.1 i (by omega)
    rw [← e, po_0 P (po_k P hv (i := i + 1) (by omega)).1 (hc (i + 1) (by omega)).2]
    exact ih (i + 1) (by omega)
set_option maxHeartbeats 1000000 in
theorem fl_ind (P : PO T) (J1 : DJ D nS PS) (J2 : DJ D nV PW) : ∀ (n : Nat) (v : Int32) (t : Nat) (S : Nat → WD) (h : ah_H), gE T nS nV kS kV n v → t + n ≤ 102 → v.toInt ≤ vl.toInt → ¬ xK T (xU T v) = 4 → EN u nd vt nx en sg PS PW T nS nV eS eV s h → FS f sa sg D S t h →
    (∀ w S' h', ev T eS eV n v = some w → FS f sa sg D S' (t + 1) h' → S' t = w → (∀ i, i < t → S' i = S i) → FG f D h h' → wq (fLP lim d f u nd vl (v + 1) h') Φ) → (ev T eS eV n v = none → LF f sa sg D u nd vt nx en s h Φ) → wq (fLP lim d f u nd vl (kf T 2 v) h) Φ := by
  intro n
  induction n with
  | zero => intro v t S h g; exact g.elim
  | succ n ih =>
    intro v t S h g ht hl hp E F k k0
    obtain ⟨hv, hK, g2, g3, g4, g20, g21, g80, g81, g82, g83, g84, g85⟩ := g
    rcases hK with hk | hk | hk | hk | hk | hk | hk | hk | hk | hk | hk
    · rw [po_0 P hv (g2 hk).1]
      exact l_2 E F J1 J2 hv hl hk (by omega) fun h' F' G' => k _ _ h' (ev_2 hk) F' upS_eq (fun i hi => upS_ne (by omega)) G'
    · rw [po_0 P hv (g3 hk).1]
      exact l_3 E F J1 J2 hv hl hk (by omega) hp fun h' F' G' => k _ _ h' (ev_3 hk) F' upS_eq (fun i hi => upS_ne (by omega)) G'
    · obtain ⟨m1, m2, hc⟩ := g4 hk
      rw [po_s P hv (by omega), po_0 P (po_k P hv (i := 0) (by omega)).1 (hc 0 (by omega)).2.1]
      refine fl_row P E F J1 J2 hv hl hk (fun i hi => ⟨(hc i hi).1, (hc i hi).2.1⟩) ?_ ((kf T 6 v).toInt.toNat - 1) 0 (by omega)
      have eM : xM T v = kf T 6 v := if_pos hv
      refine l_4 E F J1 J2 hv hl hk (by omega) (evc T v) (by rw [eM]; omega) (fun i i0 i1 => ?_) fun h' F' G' => k _ _ h' (ev_4 hk) (by rw [eM] at F'; exact F') upS_eq (fun i hi => upS_ne (by omega)) G'
      rw [eM] at i1
      rw [show xCh T v i = kC T v i.toInt.toNat from if_pos ⟨hv, i0, i1⟩]
      exact if_pos (po_k P hv (by omega)).1
    · obtain ⟨hm, -, -, c0⟩ := g20 hk
      obtain ⟨p1, p2, p3, p4⟩ := po_1 P hv hm
      rw [p1]
      refine ih (kC T v 0) t S h c0 (by omega) (by omega) (hp_k P hv (by rw [hm]; decide) (by rw [hk]; decide)) E F ?_ (fun e => k0 (by rw [ev_20 hk, e]; rfl))
      intro w S1 h1 e1 F1 s1 s2 G1
      have q : S1 (t + 1 - 1) = w := s1
      rw [p2]
      refine l_20 (EN_tr E F G1 J1 J2) F1 J1 J2 hv hl hk (by omega) (fun w' h2 e2 F2 G2 => ?_) (fun e2 => LF_tr (k0 ?_) G1)
      · rw [q] at e2
        exact k w' _ h2 (by rw [ev_20 hk, e1]; exact e2) F2 upS_eq (fun i hi => (upS_ne (by omega)).trans (s2 i hi)) (FG_tr G1 G2)
      · rw [q] at e2
        rw [ev_20 hk, e1]
        exact e2
    · obtain ⟨hm, -, -, c0, c1⟩ := g21 hk
      obtain ⟨p1, p2, p3, p4, p5⟩ := po_2 P hv hm
      rw [p1]
      refine ih (kC T v 0) t S h c0 (by omega) (by omega) (hp_k P hv (by rw [hm]; decide) (by rw [hk]; decide)) E F ?_ (fun e => k0 (by rw [ev_21 hk, e]; rfl))
      intro w S1 h1 e1 F1 s1 s2 G1
      have E1 := EN_tr E F G1 J1 J2
      rw [← p2]
      refine ih (kC T v 1) (t + 1) S1 h1 c1 (by omega) (by omega) (hp_k P hv (by rw [hm]; decide) (by rw [hk]; decide)) E1 F1 ?_ (fun e => LF_tr (k0 (by rw [ev_21 hk, e1]; show (ev T eS eV n (kC T v 1)).bind _ = none; rw [e]; rfl)) G1)
      intro z S2 h2 e2 F2 s3 s4 G2
      have q1 : S2 (t + 1 + 1 - 2) = w := (s4 t (by omega)).trans s1
      have q2 : S2 (t + 1 + 1 - 1) = z := s3
      have G12 := FG_tr G1 G2
      have R : ev T eS eV (n + 1) v = pTwo (kf T 1 v) w z := by
        rw [ev_21 hk, e1]
        show (ev T eS eV n (kC T v 1)).bind _ = _
        rw [e2]
        rfl
      rw [p3]
      refine l_21 (EN_tr E1 F1 G2 J1 J2) F2 J1 J2 hv hl hk (by omega) (fun w' h3 e3 F3 G3 => ?_) (fun e3 => LF_tr (k0 ?_) G12)
      · rw [q1, q2] at e3
        exact k w' _ h3 (R.trans e3) F3 upS_eq (fun i hi => (upS_ne (by omega)).trans ((s4 i (by omega)).trans (s2 i hi))) (FG_tr G12 G3)
      · rw [q1, q2] at e3
        exact R.trans e3
    · obtain ⟨hm, g0, g1⟩ := g80 hk
      rw [po_0 P hv hm]
      exact l_80 E F J1 J2 hv hl hk (by omega) g0 g1 fun h' F' G' => k _ _ h' (ev_80 hk) F' upS_eq (fun i hi => upS_ne (by omega)) G'
    · obtain ⟨hm, g0, g1⟩ := g81 hk
      rw [po_0 P hv hm]
      exact l_81 E F J1 J2 hv hl hk (by omega) g0 g1 fun h' F' G' => k _ _ h' (ev_81 hk) F' upS_eq (fun i hi => upS_ne (by omega)) G'
    · obtain ⟨hm, c0, -, -, c1⟩ := g82 hk
      obtain ⟨p1, p2, p3, p4, p5⟩ := po_2 P hv hm
      rw [p1]
      refine ih (kC T v 0) t S h c0 (by omega) (by omega) (hp_k P hv (by rw [hm]; decide) (by rw [hk]; decide)) E F ?_ (fun e => k0 (by rw [ev_82 hk, e]; rfl))
      intro w S1 h1 e1 F1 s1 s2 G1
      have E1 := EN_tr E F G1 J1 J2
      rw [← p2]
      refine ih (kC T v 1) (t + 1) S1 h1 c1 (by omega) (by omega) (hp_k P hv (by rw [hm]; decide) (by rw [hk]; decide)) E1 F1 ?_ (fun e => LF_tr (k0 (by rw [ev_82 hk, e1]; show (ev T eS eV n (kC T v 1)).bind _ = none; rw [e]; rfl)) G1)
      intro z S2 h2 e2 F2 s3 s4 G2
      have q1 : S2 (t + 1 + 1 - 2) = w := (s4 t (by omega)).trans s1
      have q2 : S2 (t + 1 + 1 - 1) = z := s3
      have G12 := FG_tr G1 G2
      have R : ev T eS eV (n + 1) v = pEl w z := by
        rw [ev_82 hk, e1]
        show (ev T eS eV n (kC T v 1)).bind _ = _
        rw [e2]
        rfl
      rw [p3]
      refine l_82 (EN_tr E1 F1 G2 J1 J2) F2 J1 J2 hv hl hk (by omega) (fun w' h3 e3 F3 G3 => ?_) (fun e3 => LF_tr (k0 ?_) G12)
      · rw [q1, q2] at e3
        exact k w' _ h3 (R.trans e3) F3 upS_eq (fun i hi => (upS_ne (by omega)).trans ((s4 i (by omega)).trans (s2 i hi))) (FG_tr G12 G3)
      · rw [q1, q2] at e3
        exact R.trans e3
    · obtain ⟨hm, c0, -, -, c1, k1, c2, k2, -⟩ := g83 hk
      obtain ⟨p1, p2, p3, p4, p5, p6, p7⟩ := po_3 P hv hm
      obtain ⟨n', rfl⟩ : ∃ n', n = n' + 1 := by
        cases n with
        | zero => exact c0.elim
        | succ n' => exact ⟨n', rfl⟩
      rw [p1]
      refine ih (kC T v 0) t S h c0 (by omega) (by omega) (hp_k P hv (by rw [hm]; decide) (by rw [hk]; decide)) E F ?_ (fun e => k0 (by rw [ev_83 hk, e]; rfl))
      intro w S1 h1 e1 F1 s1 s2 G1
      have E1 := EN_tr E F G1 J1 J2
      have ke1 := ev_2 (eS := eS) (eV := eV) (n := n') k1
      have ke2 := ev_2 (eS := eS) (eV := eV) (n := n') k2
      rw [← p2]
      refine ih (kC T v 1) (t + 1) S1 h1 c1 (by omega) (by omega) (hp_k P hv (by rw [hm]; decide) (by rw [hk]; decide)) E1 F1 ?_ (fun e => by rw [ke1] at e; cases e)
      intro z S2 h2 e2 F2 s3 s4 G2
      have E2 := EN_tr E1 F1 G2 J1 J2
      have G12 := FG_tr G1 G2
      rw [← p3]
      rw [po_0 P p7.1 (c2.2.2.1 k2).1]
      refine l_2 E2 F2 J1 J2 p7.1 (by omega) k2 (by omega) fun h3 F3 G3 => ?_
      have G13 := FG_tr G12 G3
      rw [ke1] at e2
      cases e2
      generalize hS3 : upS S2 (t + 1 + 1) (pNum (kf T 1 (kC T v 2)).toInt64) = S3 at F3
      have s6 : ∀ i, i < t + 1 + 1 → S3 i = S2 i := fun i hi => by rw [← hS3]; exact upS_ne (by omega)
      have s5 : S3 (t + 1 + 1) = pNum (kf T 1 (kC T v 2)).toInt64 := by rw [← hS3]; exact upS_eq
      have q1 : S3 (t + 1 + 1 + 1 - 3) = w := (s6 t (by omega)).trans ((s4 t (by omega)).trans s1)
      have q2 : S3 (t + 1 + 1 + 1 - 2) = pNum (kf T 1 (kC T v 1)).toInt64 := (s6 (t + 1) (by omega)).trans s3
      have q3 : S3 (t + 1 + 1 + 1 - 1) = pNum (kf T 1 (kC T v 2)).toInt64 := s5
      rw [p4]
      refine l_83 (EN_tr E2 F2 G3 J1 J2) F3 J1 J2 hv hl hk (by omega) (fun h4 F4 G4 => ?_)
      have R : ev T eS eV (n' + 1 + 1) v = some (pPart (S3 (t + 1 + 1 + 1 - 3)) 1 (wN (S3 (t + 1 + 1 + 1 - 2))).toInt32 (wN (S3 (t + 1 + 1 + 1 - 1))).toInt32) := by
        rw [ev_83 hk, e1, q1, q2, q3]
        show some (pPart w 1 (kf T 1 (kC T v 1)) (kf T 1 (kC T v 2))) = some (pPart w 1 (kf T 1 (kC T v 1)).toInt64.toInt32 (kf T 1 (kC T v 2)).toInt64.toInt32)
        rw [Int32.toInt32_toInt64, Int32.toInt32_toInt64]
      exact k _ _ h4 R F4 upS_eq (fun i hi => (upS_ne (by omega)).trans ((s6 i (by omega)).trans ((s4 i (by omega)).trans (s2 i hi)))) (FG_tr G13 G4)
    · rcases g84 hk with ⟨hg, hm, c0, ck, -⟩ | ⟨hg, hm, c0⟩ | ⟨hg, hm, c0, c1, k1, -⟩
      · obtain ⟨p1, p2, p3, p4⟩ := po_1 P hv hm
        have hm0 : 0 < (kf T 6 v).toInt := by rw [hm]; decide
        have c0' := c0
        obtain ⟨n', rfl⟩ : ∃ n', n = n' + 1 := by
          cases n with
          | zero => exact c0.elim
          | succ n' => exact ⟨n', rfl⟩
        obtain ⟨-, -, -, -, -, -, -, s80, -⟩ := c0'
        obtain ⟨-, b0, b1⟩ := s80 ck
        have x0 : ¬ kf T 1 v = 10 := by rcases hg with e | e <;> rw [e] <;> decide
        have x1 : ¬ kf T 1 v = 11 := by rcases hg with e | e <;> rw [e] <;> decide
        rw [p1]
        refine ih (kC T v 0) t S h c0 (by omega) (by omega) (hp_k P hv hm0 (by rw [hk]; decide)) E F ?_ (fun e => by rw [ev_80 ck] at e; cases e)
        intro w S1 h1 e1 F1 s1 s2 G1
        rw [p2]
        exact l_84e (EN_tr E F G1 J1 J2) F1 J1 J2 hv hl hk x0 x1 (by omega) p3 hm0 b0 b1 fun h2 F2 G2 => k _ _ h2 (ev_84e hk x0 x1) F2 upS_eq (fun i hi => (upS_ne (by omega)).trans (s2 i hi)) (FG_tr G1 G2)
      · obtain ⟨p1, p2, p3, p4⟩ := po_1 P hv hm
        rw [p1]
        refine ih (kC T v 0) t S h c0 (by omega) (by omega) (hp_k P hv (by rw [hm]; decide) (by rw [hk]; decide)) E F ?_ (fun e => k0 (by rw [ev_84n hk hg, e]; rfl))
        intro w S1 h1 e1 F1 s1 s2 G1
        have q : S1 (t + 1 - 1) = w := s1
        rw [p2]
        refine l_84n (EN_tr E F G1 J1 J2) F1 J1 J2 hv hl hk hg (by omega) (fun w' h2 e2 F2 G2 => ?_) (fun e2 => LF_tr (k0 ?_) G1)
        · rw [q] at e2
          exact k w' _ h2 (by rw [ev_84n hk hg, e1]; exact e2) F2 upS_eq (fun i hi => (upS_ne (by omega)).trans (s2 i hi)) (FG_tr G1 G2)
        · rw [q] at e2
          rw [ev_84n hk hg, e1]
          exact e2
      · obtain ⟨p1, p2, p3, p4, p5⟩ := po_2 P hv hm
        obtain ⟨n', rfl⟩ : ∃ n', n = n' + 1 := by
          cases n with
          | zero => exact c0.elim
          | succ n' => exact ⟨n', rfl⟩
        have ke1 := ev_2 (eS := eS) (eV := eV) (n := n') k1
        rw [p1]
        refine ih (kC T v 0) t S h c0 (by omega) (by omega) (hp_k P hv (by rw [hm]; decide) (by rw [hk]; decide)) E F ?_ (fun e => k0 (by rw [ev_84r hk hg, e]; rfl))
        intro w S1 h1 e1 F1 s1 s2 G1
        have E1 := EN_tr E F G1 J1 J2
        rw [← p2]
        refine ih (kC T v 1) (t + 1) S1 h1 c1 (by omega) (by omega) (hp_k P hv (by rw [hm]; decide) (by rw [hk]; decide)) E1 F1 ?_ (fun e => by rw [ke1] at e; cases e)
        intro z S2 h2 e2 F2 s3 s4 G2
        rw [ke1] at e2
        cases e2
        have q1 : S2 (t + 1 + 1 - 2) = w := (s4 t (by omega)).trans s1
        have q2 : S2 (t + 1 + 1 - 1) = pNum (kf T 1 (kC T v 1)).toInt64 := s3
        have G12 := FG_tr G1 G2
        have R : ev T eS eV (n' + 1 + 1) v = pToRow (S2 (t + 1 + 1 - 2)) (wN (S2 (t + 1 + 1 - 1))).toInt32 := by
          rw [ev_84r hk hg, e1, q1, q2]
          show pToRow w (kf T 1 (kC T v 1)) = pToRow w (kf T 1 (kC T v 1)).toInt64.toInt32
          rw [Int32.toInt32_toInt64]
        rw [p3]
        refine l_84r (EN_tr E1 F1 G2 J1 J2) F2 J1 J2 hv hl hk hg (by omega) (fun w' h3 e3 F3 G3 => ?_) (fun e3 => LF_tr (k0 ?_) G12)
        · exact k w' _ h3 (R.trans e3) F3 upS_eq (fun i hi => (upS_ne (by omega)).trans ((s4 i (by omega)).trans (s2 i hi))) (FG_tr G12 G3)
        · exact R.trans e3
    · obtain ⟨hm, hg, c0, ck⟩ := g85 hk
      obtain ⟨p1, p2, p3, p4⟩ := po_1 P hv hm
      have hm0 : 0 < (kf T 6 v).toInt := by rw [hm]; decide
      have c0' := c0
      obtain ⟨n', rfl⟩ : ∃ n', n = n' + 1 := by
        cases n with
        | zero => exact c0.elim
        | succ n' => exact ⟨n', rfl⟩
      obtain ⟨-, -, -, -, -, -, -, s80, -⟩ := c0'
      obtain ⟨-, b0, b1⟩ := s80 ck
      rw [p1]
      refine ih (kC T v 0) t S h c0 (by omega) (by omega) (hp_k P hv hm0 (by rw [hk]; decide)) E F ?_ (fun e => by rw [ev_80 ck] at e; cases e)
      intro w S1 h1 e1 F1 s1 s2 G1
      rw [p2]
      exact l_85 (EN_tr E F G1 J1 J2) F1 J1 J2 hv hl hk (by omega) p3 hm0 b0 b1 fun h2 F2 G2 => k _ _ h2 (ev_85 hk) F2 upS_eq (fun i hi => (upS_ne (by omega)).trans (s2 i hi)) (FG_tr G1 G2)
end Fh
