/-! FIND -/
/-- an expression that stands in no ROW, or a time, or nothing -/
def gX (T : KT) (nS nV : Nat) (kS kV : Nat → Int32 × Int32) (v : Int32) : Prop := (gE T nS nV kS kV 101 v ∧ ¬ xK T (xU T v) = 4) ∨ gT T nS nV kS kV 100 v
def fdR (f sa sg : Nat) (D : Nat → Nat) (u nd vt nx en : Nat) (s : US) (r : Option WD) (h : ah_H) (x : Int32) (h' : ah_H) : Prop := match r with
  | some w => x = 1 ∧ FG f D h h' ∧ ∃ S', FS f sa sg D S' 1 h' ∧ S' 0 = w
  | none => x = 0 ∧ FU f D u h h' ∧ (∃ y z, h'.1 u = some (10, dU nd vt nx en (uFail s y z))) ∧ ∃ S' t', FS f sa sg D S' t' h'
section Fi
variable {lim : Nat × Nat} {d f sa sg t u nd vt nx en nS nV n : Nat} {D PS PW : Nat → Nat} {S : Nat → WD} {h h' : ah_H} {T : KT} {v : Int32} {eS eV : Nat → TS} {kS kV : Nat → Int32 × Int32} {s : US}
theorem gX_v (g : gX T nS nV kS kV v) : rgN T v := by
  rcases g with ⟨g, -⟩ | g
  · exact g.1
  · exact g.1
theorem c_find (P : PO T) (J1 : DJ D nS PS) (J2 : DJ D nV PW) (E : EN u nd vt nx en sg PS PW T nS nV eS eV s h) (F : FS f sa sg D S t h) (g : gX T nS nV kS kV v) : wq (vc lim (d + 4) m_Finder_find [aR f, aR u, aI v] h) (rI (fdR f sa sg D u nd vt nx en s (ev T eS eV 101 v) h)) := by
  have hv := gX_v g
  have F0 := F
  have E0 := E
  obtain ⟨⟨tp, ef, et⟩, es, ed, -, inj⟩ := F
  obtain ⟨A, Ls, cc, kt, e5, -⟩ := E.2.1
  have n3 := FS_sf F0
  refine wq_eq e_Finder_find (wq_gR E.1 rfl (wq_wr ef (Nat.le_of_ble_eq_true rfl) ?_))
  have F1 : FS f sa sg D S 0 (ah_up h f (2, [aR sg, aR sa, aI 0])) := ⟨⟨0, up_eq, rfl⟩, up_ne n3 es, fun i hi => up_ne (FS_fn F0 hi).symm (ed i hi), by omega, inj⟩
  have G1 : FG f D h (ah_up h f (2, [aR sg, aR sa, aI 0])) := ⟨fun q hq _ => up_ne hq rfl, rfl, rfl⟩
  have E1 := EN_tr E F0 G1 J1 J2
  have e5' : (ah_up h f (2, [aR sg, aR sa, aI 0])).1 nd = some (5, [aR (A 0), aR (A 1), aR (A 2), aR (A 3), aR (A 4), aR (A 5), aR (A 6), aR (A 7), aI cc, aI kt]) := FG_kf F0 G1 _ _ _ e5 rfl rfl rfl
  refine wq_at e5' (wq_cI (c_startOf E1.2.1) ?_)
  rintro _ _ ⟨rfl, rfl⟩
  rw [show xTt T v = kf T 2 v from if_pos hv]
  have hb := P.1
  have ev1 : (v + 1).toInt = v.toInt + 1 := ad_i (by show _ ≤ v.toInt + 1; have := hv.1; omega) (by show v.toInt + 1 ≤ _; have := hv.2; omega)
  have OUT : ∀ (w : WD) (S' : Nat → WD) (h' : ah_H), ev T eS eV 101 v = some w → FS f sa sg D S' (0 + 1) h' → S' 0 = w → FG f D (ah_up h f (2, [aR sg, aR sa, aI 0])) h' → wq (fLP lim d f u nd v (v + 1) h') (rI (fdR f sa sg D u nd vt nx en s (ev T eS eV 101 v) h)) := fun w S' h' e F' s0 G' => by
    refine wq_eq q_137_17 (wq_f (fun q => ?_) (wq_t (by decide) (wq_some (rI_i ?_))))
    · have := le_i q
      omega
    · rw [e]
      exact ⟨rfl, FG_tr G1 G', S', F', s0⟩
  have OUT0 : ev T eS eV 101 v = none → LF f sa sg D u nd vt nx en s (ah_up h f (2, [aR sg, aR sa, aI 0])) (rI (fdR f sa sg D u nd vt nx en s (ev T eS eV 101 v) h)) := fun e h' x y G' e' F' => by
    refine rI_i ?_
    rw [e]
    exact ⟨rfl, ⟨fun q q1 q2 q3 => (G'.1 q q1 q2 q3).trans (G1.1 q q1 q3), G'.2.1.trans G1.2.1, G'.2.2.trans G1.2.2⟩, ⟨x, y, e'⟩, F'⟩
  rcases g with ⟨g, hp⟩ | ⟨-, ⟨hk, hm⟩ | ⟨hk, hm, -, -, gc⟩⟩
  · exact fl_ind P J1 J2 101 v 0 S _ g (by omega) (Int.le_refl _) hp E1 F1 (fun w S' h' e F' s0 _ G' => OUT w S' h' e F' s0 G') OUT0
  · rw [po_0 P hv hm]
    exact l_0 E1 F1 J1 J2 hv (Int.le_refl _) hk (by omega) fun h' F' G' => OUT _ _ h' (ev_0 hk) F' upS_eq G'
  · obtain ⟨p1, p2, p3, p4⟩ := po_1 P hv hm
    rw [p1]
    refine fl_ind P J1 J2 100 (kC T v 0) 0 S _ gc (by omega) (by omega) (hp_k P hv (by rw [hm]; decide) (by rw [hk]; decide)) E1 F1 (fun w S1 h1 e1 F1' s1 _ G2 => ?_) (fun e => OUT0 (by rw [ev_32 hk, e]; rfl))
    have q : S1 (0 + 1 - 1) = w := s1
    rw [p2]
    refine l_32 (EN_tr E1 F1 G2 J1 J2) F1' J1 J2 hv (Int.le_refl _) hk (by omega) (fun w' h2 e2 F2 G3 => ?_) (fun e2 => LF_tr (OUT0 ?_) G2)
    · rw [q] at e2
      exact OUT w' _ h2 (by rw [ev_32 hk, e1]; exact e2) F2 upS_eq (FG_tr G2 G3)
    · rw [q] at e2
      rw [ev_32 hk, e1]
      exact e2
end Fi
