/-! THE REFERENCE FINDS WHAT AN EXPRESSION IS: all of it -/
section Vn
variable {lim : Nat × Nat} {d m r n nS nV fv B0 : Nat} {σ σ' τ : rS} {b h h' : ah_H} {R k v : Int32} {w u : WD} {T : KT} {eS eV : Nat → TS} {kS kV : Nat → Int32 × Int32} {res : Option WD}
set_option maxHeartbeats 1000000 in
theorem r_find (P : PO T) (C1 : KC nS kS eS) (C2 : KC nV kV eV) : ∀ (n : Nat) (v k R : Int32) (r D : Nat) (σ : rS) (h : ah_H), gE T nS nV kS kV n v → k.toInt = B0 + v.toInt → R.toInt = r → 9344 ≤ r → r + n ≤ 10099 → 2 * n + 6 ≤ D → RH m σ b h → byE σ → NB T B0 σ → EW nS nV fv eS eV σ → wq (vc lim D m_Ref_find [aR m, aI k, aI R] h) (rI (oQ m b r σ (ev T eS eV n v))) := by
  intro n
  induction n with
  | zero => intro v k R r D σ h g; exact g.elim
  | succ n ih =>
    intro v k R r D σ h g hk hR hr0 hr hD H B N E
    obtain ⟨d, rfl⟩ : ∃ d, D = d + 8 := ⟨D - 8, by omega⟩
    have g0 := g
    obtain ⟨hv, hK, g2, g3, g4, g20, g21, g80, g81, g82, g83, g84, g85⟩ := g
    have hrr : r < 10100 := by omega
    have hS : (R + 1).toInt = ((r + 1 : Nat) : Int) := by rw [inc_i (by omega)]; omega
    refine wq_eq e_Ref_find (rN11 H hk N hv (fun a aN aK => rN9 H hk N hv ?_))
    rcases hK with hkk | hkk | hkk | hkk | hkk | hkk | hkk | hkk | hkk | hkk | hkk <;> refine rN8 H hk N hv hkk ?_
    · exact wq_t rfl (wq_at H.1 (z_num H B sm_0 hR hrr (ev_2 hkk)))
    · exact wq_f (by decide) (wq_t rfl (wq_at H.1 (z_log H B sm_0 hR hrr (ev_3 hkk) rfl (cd_logic (g3 hkk).2.1 (g3 hkk).2.2))))
    · obtain ⟨m1, m2, hc⟩ := g4 hkk
      refine wq_f (by decide) (wq_f (by decide) (wq_t rfl (rN10 H hk N hv (wq_at H.1 (wq_cV (r_row H hR hrr (by omega) (by omega)) fun h1 H1 => ?_)))))
      have N1 := NB_sm N (sm_row (v := kf T 6 v) (r := r) sm_0)
      refine rN10 H1 hk N1 hv ?_
      refine wq_mono (f_4 (d := d) P hv rfl m1 m2 hc hR hrr B N H1 (aK (by omega))) ?_
      rintro _ ⟨x, h', rfl, k⟩
      refine rI_i ?_
      rw [ev_4 hkk]
      exact k
    · obtain ⟨hm, o0, o1, c0⟩ := g20 hkk
      have ak := aK (by rw [hm]; decide)
      refine wq_f (by decide) (wq_f (by decide) (wq_f (by decide) (wq_t rfl (wq_at H.1 (wq_cI (ih (kC T v 0) a R r (d + 7) σ h c0 ak hR hr0 (by omega) (by omega) H B N E) fun x h1 q => ?_)))))
      cases e1 : ev T eS eV n (kC T v 0) with
      | none =>
        rw [e1] at q
        obtain ⟨rfl, q'⟩ := oQ_none (res := ev T eS eV (n + 1) v) q (by rw [ev_20 hkk, e1]; rfl)
        exact wq_t rfl (wq_t (by decide) (wq_some (rI_i q')))
      | some w =>
        rw [e1] at q
        obtain ⟨rfl, σ1, H1, B1, G1, K1⟩ := oQ_some q
        have W1 := ev_WF E C1 C2 n _ _ c0 e1
        refine wq_f (by decide) (wq_at H1.1 (wq_cI (r_one (d := d + 4) H1 B1 hR hrr W1 K1 o0 o1) fun x h2 q2 => ret01 ?_))
        rw [show ev T eS eV (n + 1) v = pOne (kf T 1 v) w by rw [ev_20 hkk, e1]; rfl]
        exact oQ_tr (Nat.le_refl _) G1 q2
    · obtain ⟨hm, o0, o1, c0, c1⟩ := g21 hkk
      have ak := aK (by rw [hm]; decide)
      obtain ⟨p1, p2, p3, ⟨p4, p5⟩, p6, p7⟩ := po_2 P hv hm
      refine wq_f (by decide) (wq_f (by decide) (wq_f (by decide) (wq_f (by decide) (wq_t rfl (wq_at H.1 (wq_cI (ih (kC T v 0) a R r (d + 7) σ h c0 ak hR hr0 (by omega) (by omega) H B N E) fun x h1 q => ?_))))))
      cases e1 : ev T eS eV n (kC T v 0) with
      | none =>
        rw [e1] at q
        obtain ⟨rfl, q'⟩ := oQ_none (res := ev T eS eV (n + 1) v) q (by rw [ev_21 hkk, e1]; rfl)
        exact wq_t rfl (wq_t (by decide) (wq_some (rI_i q')))
      | some w =>
        rw [e1] at q
        obtain ⟨rfl, σ1, H1, B1, G1, K1⟩ := oQ_some q
        have W1 := ev_WF E C1 C2 n _ _ c0 e1
        have N1 := NB_sm N G1
        have E1 := EW_sm E G1 hr0
        have R2 : ev T eS eV (n + 1) v = (ev T eS eV n (kC T v 1)).bind fun z => pTwo (kf T 1 v) w z := by rw [ev_21 hkk, e1]; rfl
        refine wq_f (by decide) (rN12 H1 N1 hv (i := 0) (by rw [hm]; decide) p4 ak (fun a2 ha2 => ?_))
        rw [if_pos (by rw [hm]; decide)] at ha2
        refine wq_at H1.1 (wq_cI (ih (kC T v 1) a2 (R + 1) (r + 1) (d + 7) σ1 h1 c1 ha2 hS (by omega) (by omega) (by omega) H1 B1 N1 E1) fun x2 h2 q2 => ?_)
        cases e2 : ev T eS eV n (kC T v 1) with
        | none =>
          rw [e2] at q2
          obtain ⟨rfl, q2⟩ := oQ_none (r := r + 1) (res := none) q2 rfl
          refine wq_t rfl (wq_t (by decide) (wq_some (rI_i ?_)))
          rw [R2, e2]
          obtain ⟨σ', H', B', G', e'⟩ := q2
          exact ⟨σ', H', B', sm_tr G1 G' (fq_le (by omega)), e'⟩
        | some z =>
          rw [e2] at q2
          obtain ⟨rfl, σ2, H2, B2, G2, K2⟩ := oQ_some q2
          have W2 := ev_WF E C1 C2 n _ _ c1 e2
          refine wq_f (by decide) (wq_at H2.1 (wq_cI (r_two (d := d + 2) H2 B2 hR (by omega) W1 (RW_sm W1 K1 G2 (by omega)) W2 K2 o0 o1) fun x h3 q3 => ret01 ?_))
          rw [R2, e2]
          exact oQ_tr (Nat.le_refl _) (sm_tr G1 G2 (fq_le (by omega))) q3
    · have go := gE_o g0 (Or.inl hkk)
      obtain ⟨w1, w2, w3⟩ := wh_b E go
      refine wq_f (by decide) (wq_f (by decide) (wq_f (by decide) (wq_f (by decide) (wq_f (by decide) (wq_t rfl (wq_at H.1 (wq_cI (r_where H N E go hk) ?_)))))))
      rintro x _ ⟨rfl, hx⟩
      refine wq_at H.1 (wq_cV (r_copy H B hR hrr hx (by omega) (by omega)) fun h1 H1 => wq_t (by decide) (wq_some (rI_i ?_)))
      rw [ev_o g0 (Or.inl hkk)]
      exact ⟨_, H1, by_cp B (by omega), sm_cp sm_0, rfl, RW_cp w2 w3 (by omega)⟩
    · have go := gE_o g0 (Or.inr hkk)
      obtain ⟨w1, w2, w3⟩ := wh_b E go
      refine wq_f (by decide) (wq_f (by decide) (wq_f (by decide) (wq_f (by decide) (wq_f (by decide) (wq_f (by decide) (wq_t rfl (wq_at H.1 (wq_cI (r_where H N E go hk) ?_))))))))
      rintro x _ ⟨rfl, hx⟩
      refine wq_at H.1 (wq_cV (r_copy H B hR hrr hx (by omega) (by omega)) fun h1 H1 => wq_t (by decide) (wq_some (rI_i ?_)))
      rw [ev_o g0 (Or.inr hkk)]
      exact ⟨_, H1, by_cp B (by omega), sm_cp sm_0, rfl, RW_cp w2 w3 (by omega)⟩
    · obtain ⟨hm, c0, ck, cr, c1⟩ := g82 hkk
      have ak := aK (by rw [hm]; decide)
      obtain ⟨p1, p2, p3, ⟨p4, p5⟩, p6, p7⟩ := po_2 P hv hm
      refine wq_f (by decide) (wq_f (by decide) (wq_f (by decide) (wq_f (by decide) (wq_f (by decide) (wq_f (by decide) (wq_f (by decide) (wq_t rfl (wq_at H.1 (wq_cI (ih (kC T v 0) a R r (d + 7) σ h c0 ak hR hr0 (by omega) (by omega) H B N E) fun x h1 q => ?_)))))))))
      have e1 := ev_o (eS := eS) (eV := eV) c0 ck
      rw [e1] at q
      obtain ⟨rfl, σ1, H1, B1, G1, K1⟩ := oQ_some q
      have W1 := ev_WF E C1 C2 n _ _ c0 e1
      have N1 := NB_sm N G1
      have E1 := EW_sm E G1 hr0
      have R2 : ev T eS eV (n + 1) v = (ev T eS eV n (kC T v 1)).bind fun z => pEl (whW T eS eV (kC T v 0)) z := by rw [ev_82 hkk, e1]; rfl
      refine wq_f (by decide) (rN12 H1 N1 hv (i := 0) (by rw [hm]; decide) p4 ak (fun a2 ha2 => ?_))
      rw [if_pos (by rw [hm]; decide)] at ha2
      refine wq_at H1.1 (wq_cI (ih (kC T v 1) a2 (R + 1) (r + 1) (d + 7) σ1 h1 c1 ha2 hS (by omega) (by omega) (by omega) H1 B1 N1 E1) fun x2 h2 q2 => ?_)
      cases e2 : ev T eS eV n (kC T v 1) with
      | none =>
        rw [e2] at q2
        obtain ⟨rfl, q2⟩ := oQ_none (r := r + 1) (res := none) q2 rfl
        refine wq_t rfl (wq_t (by decide) (wq_some (rI_i ?_)))
        rw [R2, e2]
        obtain ⟨σ', H', B', G', e'⟩ := q2
        exact ⟨σ', H', B', sm_tr G1 G' (fq_le (by omega)), e'⟩
      | some z =>
        rw [e2] at q2
        obtain ⟨rfl, σ2, H2, B2, G2, K2⟩ := oQ_some q2
        have W2 := ev_WF E C1 C2 n _ _ c1 e2
        have hw : wI (whW T eS eV (kC T v 0)) = 1 := (whW_k C1 C2 (gE_o c0 ck)).1.trans cr
        refine wq_f (by decide) (wq_at H2.1 (wq_cI (r_findEl (d := d + 5) H2 B2 hR (by omega) W1 hw (RW_sm W1 K1 G2 (by omega)) W2 K2) fun x h3 q3 => ret01 ?_))
        rw [R2, e2]
        exact oQ_tr (Nat.le_refl _) (sm_tr G1 G2 (fq_le (by omega))) q3
    · obtain ⟨hm, c0, ck, cr, c1, k1, c2, k2, b1, b2, b3⟩ := g83 hkk
      have ak := aK (by rw [hm]; decide)
      obtain ⟨p1, p2, p3, p4, ⟨p5, -⟩, ⟨p6, -⟩, p7, -⟩ := po_3 P hv hm
      have go := gE_o c0 ck
      obtain ⟨w1, w2, w3⟩ := wh_b E go
      have wk := whW_k C1 C2 go
      have hw1 := wk.1.trans cr
      have l1 := w3.2.1.2
      rw [wk.2] at l1
      refine wq_f (by decide) (wq_f (by decide) (wq_f (by decide) (wq_f (by decide) (wq_f (by decide) (wq_f (by decide) (wq_f (by decide) (wq_f (by decide) (wq_t rfl (wq_at H.1 (wq_cI (r_where H N E go ak) ?_))))))))))
      rintro x _ ⟨rfl, hx⟩
      refine wq_at H.1 (wq_cV (r_copy H B hR hrr hx (by omega) (by omega)) fun h1 H1 => ?_)
      have G1 : sm (fQ r) σ (sCp σ (whR T fv (kC T v 0)) r) := sm_cp sm_0
      have B1 : byE (sCp σ (whR T fv (kC T v 0)) r) := by_cp B (by omega)
      have N1 := NB_sm N G1
      refine wq_gR H1.1 rfl (rN12 H1 N1 hv (i := 0) (by rw [hm]; decide) p5 ak (fun a1 ha1 => ?_))
      rw [if_pos (by rw [hm]; decide)] at ha1
      refine rdN (j := 9) H1 (by omega) ha1 N1 p6 (wq_gR H1.1 rfl (wq_gR H1.1 rfl (rN12 H1 N1 hv (i := 0) (by rw [hm]; decide) p5 ak (fun a2 ha2 => ?_))))
      rw [if_pos (by rw [hm]; decide)] at ha2
      refine rN12' H1 N1 hv (i := 1) (by rw [hm]; decide) p6 ha2 (fun a3 ha3 => ?_)
      rw [if_pos (by rw [hm]; decide)] at ha3
      refine rdN (j := 9) H1 (by omega) ha3 N1 p7 ?_
      rw [(N1.2 _ p6).2.1, (N1.2 _ p7).2.1]
      generalize hbg : kf T 1 (kC T v 1) = bg at b1 b3
      generalize hmn : kf T 1 (kC T v 2) = mn at b2 b3
      refine wq_at H1.1 (wq_cV (r_row H1 hR hrr (by omega) (by omega)) fun h2 H2 => ?_)
      have el1 : ∀ i, i < 64 * r → ia (sCp σ (whR T fv (kC T v 0)) r) 5 i = ia σ 5 i := fun i hi => by
        show ia (setE (sJ (sI (sI σ 0 r (ia σ 0 (whR T fv (kC T v 0)))) 1 r (ia σ 1 (whR T fv (kC T v 0)))) 4 r (ja σ 4 (whR T fv (kC T v 0)))) r 64 fun k => el σ (whR T fv (kC T v 0)) k) 5 i = _
        rw [setE_n (by omega)]
        show ia (sI (sI σ 0 r (ia σ 0 (whR T fv (kC T v 0)))) 1 r (ia σ 1 (whR T fv (kC T v 0)))) 5 i = _
        rw [iaI_j (by decide), iaI_j (by decide)]
      have Lp : ∀ (p : Nat) (v7 : Int32) (h : ah_H), v7.toInt + p = mn.toInt → 0 ≤ v7.toInt → RH m (setE (sRow (sCp σ (whR T fv (kC T v 0)) r) r mn) r v7.toInt.toNat fun j => el σ (whR T fv (kC T v 0)) (bg.toInt.toNat + j)) b h → wq (ah_val lim ah_P (d + 7) 75 361 [some (aR m), none, some (aI R), some (aI a), none, some (aI bg), some (aI mn), some (aI v7)] [] h) (rI fun x h' => x = 1 ∧ RH m (setE (sRow (sCp σ (whR T fv (kC T v 0)) r) r mn) r mn.toInt.toNat fun j => el σ (whR T fv (kC T v 0)) (bg.toInt.toNat + j)) b h') := by
        intro p
        induction p with
        | zero =>
          intro v7 h hv7 h0 H
          refine wq_eq q_75_361 (wq_f (fun q => by have := lt_i q; omega) (wq_t (by decide) (wq_some (rI_i ⟨rfl, ?_⟩))))
          rw [show mn.toInt.toNat = v7.toInt.toNat by omega]
          exact H
        | succ p ihp =>
          intro v7 h hv7 h0 H
          have ei := inc_i (v := v7) (by omega)
          have es : (bg + v7).toInt = bg.toInt + v7.toInt := ad_i (by omega) (by omega)
          have G3 : sm (fQ r) σ (setE (sRow (sCp σ (whR T fv (kC T v 0)) r) r mn) r v7.toInt.toNat fun j => el σ (whR T fv (kC T v 0)) (bg.toInt.toNat + j)) := sm_E (sm_row G1) (fun k _ => fq5 (by omega))
          refine wq_eq q_75_361 (wq_t (Int32.lt_iff_toInt_lt.mpr (by omega)) (wq_at H.1 (wq_cI (r_where H (NB_sm N G3) (EW_sm E G3 hr0) go ak) ?_)))
          rintro y _ ⟨rfl, hy⟩
          refine wq_at H.1 (wq_cI (r_element H hy (by omega) (by omega) (by omega)) ?_)
          rintro _ _ ⟨rfl, rfl⟩
          rw [setE_n (by omega), sRow_5, el1 _ (by omega)]
          have bb := B.2 (64 * whR T fv (kC T v 0) + (bg + v7).toInt.toNat) (by omega)
          refine wq_at H.1 (wq_cV (se_st H hR hrr h0 (by omega) (by show ia σ 5 _ = _; rw [show 64 * whR T fv (kC T v 0) + (bg.toInt.toNat + v7.toInt.toNat) = 64 * whR T fv (kC T v 0) + (bg + v7).toInt.toNat by omega]) bb.1 bb.2) fun h1 H1 => ihp (v7 + 1) h1 (by omega) (by omega) ?_)
          rw [show (v7 + 1).toInt.toNat = v7.toInt.toNat + 1 by omega]
          exact H1
      refine wq_mono (Lp mn.toInt.toNat 0 h2 (by rw [Int32.toInt_zero]; omega) (by rw [Int32.toInt_zero]; omega) (by rw [show (0 : Int32).toInt.toNat = 0 from rfl, setE_0]; exact H2)) ?_
      rintro _ ⟨x, h', rfl, rfl, H'⟩
      refine rI_i (oQ_rE H' B1 G1 (w := pPart (whW T eS eV (kC T v 0)) 1 bg mn) ?_ rfl rfl (by omega) (by omega) (fun k hk => ?_) rfl)
      · rw [ev_83 hkk, ev_o c0 ck, hbg, hmn]
        rfl
      · rw [cd_part w3 b1 (by omega) b2 (by omega) hk]
        exact (w2.2.2.2 hw1).2.2 _ (by rw [wk.2]; omega)
    · refine wq_f (by decide) (wq_f (by decide) (wq_f (by decide) (wq_f (by decide) (wq_f (by decide) (wq_f (by decide) (wq_f (by decide) (wq_f (by decide) (wq_f (by decide) (wq_t rfl (wq_at H.1 (ps_Q ?_)))))))))))
      refine wq_eq e_Ref_function ?_
      simp only [lgv_lt, lgv_le]
      rcases g84 hkk with ⟨hg, hm, c0, ck, cr⟩ | ⟨hg, hm, c0⟩ | ⟨hg, hm, c0, c1, k1, b1, b2⟩
      · have ak := aK (by rw [hm]; decide)
        obtain ⟨p1, p2, p3, p4⟩ := po_1 P hv hm
        have x0 : ¬ kf T 1 v = 10 := by rcases hg with e | e <;> rw [e] <;> decide
        have x1 : ¬ kf T 1 v = 11 := by rcases hg with e | e <;> rw [e] <;> decide
        obtain ⟨-, q0, ⟨-, q1⟩ | ⟨q1, -⟩⟩ := gE_o c0 (Or.inl ck)
        rotate_left
        · rw [ck] at q1; exact absurd q1 (by decide)
        obtain ⟨bb1, -⟩ := E.1
        obtain ⟨s1, s2, s3, s4, s5, s6, s7, s8⟩ := E.2.1 (kf T 1 (kC T v 0)).toInt.toNat (by omega)
        have kk := C1 (kf T 1 (kC T v 0)).toInt.toNat (by omega)
        rw [kOf, if_pos ck] at cr
        have i0 := kk.1.trans cr
        have i1 := kk.2.2.1.trans cr
        have lb1 := lg_bit s3 (s3.2.2.1 (by rw [i0]; decide))
        have lb2 := lg_bit s4 (s4.2.2.1 (by rw [i1]; decide))
        have es : ((512 : Int32) + kf T 1 (kC T v 0)).toInt = ((512 + (kf T 1 (kC T v 0)).toInt.toNat : Nat) : Int) := by
          rw [ad_i (by show _ ≤ 512 + _; omega) (by show 512 + _ ≤ _; omega)]
          show 512 + _ = _
          omega
        refine wq_t (by rcases hg with e | e <;> rw [e] <;> decide) (rN9 H ak N p3 ?_)
        refine rd4' H (r := (kf T 1 (kC T v 0)).toInt.toNat) (by omega) (by omega) (s1.2.2.1 i0).2 (rd4' H es (by omega) (s2.2.2.1 i1).2 ?_)
        rw [Int32.toInt32_toInt64, Int32.toInt32_toInt64]
        refine wq_gR H.1 rfl (ra_I H (j := 6) (by omega) rfl rfl q0 (by show _ < (512 : Int); omega) ?_)
        rw [s5]
        have ED : ∀ t : Bool, ((t = true) ↔ (¬ (eS (kf T 1 (kC T v 0)).toInt.toNat).2.2.1 = 0 ∧ (if kf T 1 v = 8 then cHigh (cdW (eS (kf T 1 (kC T v 0)).toInt.toNat).1 0) = true ∧ cLow (cdW (eS (kf T 1 (kC T v 0)).toInt.toNat).2.1 0) = true else cLow (cdW (eS (kf T 1 (kC T v 0)).toInt.toNat).1 0) = true ∧ cHigh (cdW (eS (kf T 1 (kC T v 0)).toInt.toNat).2.1 0) = true))) → ev T eS eV (n + 1) v = some (pNum (if t then 1 else 0)) := fun t ht => by
          rw [ev_84e hkk x0 x1]
          unfold pEdge
          simp only [lb1.1, lb1.2, lb2.1, lb2.2, ← ht]
        refine wq_if _ (fun c5 => ?_) (fun c5 => wq_if _ (fun c6 => ?_) (fun c6 => ?_))
        · exact wq_at H.1 (z_tr (t := false) H B sm_0 hR hrr rfl (ED false ⟨fun e => (by cases e), fun e => absurd c5 e.1⟩))
        · simp only [if_pos c6] at ED
          refine wq_cI r_isHigh ?_
          rintro _ _ ⟨rfl, rfl⟩
          cases l1 : cHigh (cdW (eS (kf T 1 (kC T v 0)).toInt.toNat).1 0) with
          | false => exact wq_t rfl (wq_at H.1 (z_tr (t := false) H B sm_0 hR hrr rfl (ED false ⟨fun e => (by cases e), fun e => by rw [l1] at e; cases e.2.1⟩)))
          | true =>
            refine wq_f (by decide) (wq_cI r_isLow ?_)
            rintro _ _ ⟨rfl, rfl⟩
            cases l2 : cLow (cdW (eS (kf T 1 (kC T v 0)).toInt.toNat).2.1 0) with
            | false => exact wq_t rfl (wq_at H.1 (z_tr (t := false) H B sm_0 hR hrr rfl (ED false ⟨fun e => (by cases e), fun e => by rw [l2] at e; cases e.2.2⟩)))
            | true => exact wq_f (by decide) (wq_at H.1 (z_tr (t := true) H B sm_0 hR hrr rfl (ED true ⟨fun _ => ⟨c5, l1, l2⟩, fun _ => rfl⟩)))
        · simp only [if_neg c6] at ED
          refine wq_cI r_isLow ?_
          rintro _ _ ⟨rfl, rfl⟩
          cases l1 : cLow (cdW (eS (kf T 1 (kC T v 0)).toInt.toNat).1 0) with
          | false => exact wq_t rfl (wq_at H.1 (z_tr (t := false) H B sm_0 hR hrr rfl (ED false ⟨fun e => (by cases e), fun e => by rw [l1] at e; cases e.2.1⟩)))
          | true =>
            refine wq_f (by decide) (wq_cI r_isHigh ?_)
            rintro _ _ ⟨rfl, rfl⟩
            cases l2 : cHigh (cdW (eS (kf T 1 (kC T v 0)).toInt.toNat).2.1 0) with
            | false => exact wq_t rfl (wq_at H.1 (z_tr (t := false) H B sm_0 hR hrr rfl (ED false ⟨fun e => (by cases e), fun e => by rw [l2] at e; cases e.2.2⟩)))
            | true => exact wq_f (by decide) (wq_at H.1 (z_tr (t := true) H B sm_0 hR hrr rfl (ED true ⟨fun _ => ⟨c5, l1, l2⟩, fun _ => rfl⟩)))
      · have ak := aK (by rw [hm]; decide)
        rw [hg]
        refine wq_f (by decide) (wq_at H.1 (wq_cI (ih (kC T v 0) a R r (d + 6) σ h c0 ak hR hr0 (by omega) (by omega) H B N E) fun x h1 q => ?_))
        cases e1 : ev T eS eV n (kC T v 0) with
        | none =>
          rw [e1] at q
          obtain ⟨rfl, q'⟩ := oQ_none (res := ev T eS eV (n + 1) v) q (by rw [ev_84n hkk hg, e1]; rfl)
          exact wq_t rfl (wq_t (by decide) (wq_some (rI_i q')))
        | some w =>
          rw [e1] at q
          obtain ⟨rfl, σ1, H1, B1, G1, K1⟩ := oQ_some q
          have W1 := ev_WF E C1 C2 n _ _ c0 e1
          have R2 : ev T eS eV (n + 1) v = pToNum w := by rw [ev_84n hkk hg, e1]; rfl
          rw [R2]
          refine wq_f (by decide) (wq_t rfl (rd0' H1 hR hrr K1.1 (wq_if _ (fun c5 => ?_) (fun c5 => wq_at H1.1 (z_fail H1 B1 G1 (by rw [pToNum, if_neg c5]))))))
          refine wq_at H1.1 (wq_cJ (r_nO H1 hR hrr W1 K1 c5) ?_)
          rintro _ _ ⟨rfl, rfl⟩
          refine wq_at H1.1 (wq_cI (r_clr H1 hR hrr W1 K1 c5) ?_)
          rintro _ _ ⟨rfl, rfl⟩
          cases hc : pClear w with
          | false => exact wq_t rfl (wq_at H1.1 (z_fail H1 B1 G1 (by rw [pToNum, if_pos c5, if_neg (by rw [hc]; decide)])))
          | true =>
            refine wq_f (by decide) (wq_if _ (fun c6 => wq_at H1.1 (z_fail H1 B1 G1 (by rw [pToNum, if_pos c5, if_pos hc, if_pos c6]))) (fun c6 => wq_if _ (fun c7 => ?_) (fun c7 => ?_)))
            · exact wq_at H1.1 (z_num H1 B1 G1 hR hrr (by rw [pToNum, if_pos c5, if_pos hc, if_neg c6, if_pos c7]))
            · exact wq_at H1.1 (z_fail H1 B1 G1 (by rw [pToNum, if_pos c5, if_pos hc, if_neg c6, if_neg c7]))
      · have ak := aK (by rw [hm]; decide)
        obtain ⟨p1, p2, p3, ⟨p4, -⟩, p6, -⟩ := po_2 P hv hm
        rw [hg]
        refine wq_f (by decide) (wq_at H.1 (wq_cI (ih (kC T v 0) a R r (d + 6) σ h c0 ak hR hr0 (by omega) (by omega) H B N E) fun x h1 q => ?_))
        cases e1 : ev T eS eV n (kC T v 0) with
        | none =>
          rw [e1] at q
          obtain ⟨rfl, q'⟩ := oQ_none (res := ev T eS eV (n + 1) v) q (by rw [ev_84r hkk hg, e1]; rfl)
          exact wq_t rfl (wq_t (by decide) (wq_some (rI_i q')))
        | some w =>
          rw [e1] at q
          obtain ⟨rfl, σ1, H1, B1, G1, K1⟩ := oQ_some q
          have N1 := NB_sm N G1
          have R2 : ev T eS eV (n + 1) v = pToRow w (kf T 1 (kC T v 1)) := by rw [ev_84r hkk hg, e1]; rfl
          rw [R2]
          refine wq_f (by decide) (wq_f (by decide) (rd0' H1 hR hrr K1.1 (wq_if _ (fun c5 => ?_) (fun c5 => wq_at H1.1 (z_fail H1 B1 G1 (by rw [pToRow, if_neg c5]))))))
          refine rd4' H1 hR hrr (K1.2.1 c5).2 (wq_gR H1.1 rfl (rN12 H1 N1 hv (i := 0) (by rw [hm]; decide) p4 ak (fun a1 ha1 => ?_)))
          rw [if_pos (by rw [hm]; decide)] at ha1
          refine rdN (j := 9) H1 (by omega) ha1 N1 p6 ?_
          rw [(N1.2 _ p6).2.1]
          refine wq_at H1.1 (wq_cV (r_row H1 hR hrr (by omega) (by omega)) fun h2 H2 => ?_)
          have s1 : ia (sRow σ1 r (kf T 1 (kC T v 1))) 1 r = kf T 1 (kC T v 1) := sRow_1
          refine wq_at H2.1 (wq_cV (r_bits H2 hR hrr (by rw [s1]; omega) (by rw [s1]; exact b2)) fun h3 H3 => wq_t (by decide) (wq_some (rI_i ?_)))
          rw [s1] at H3
          exact oQ_rE H3 B1 G1 (w := pHold 1 (kf T 1 (kC T v 1)) (wN w) (-1) 0 0) (by rw [pToRow, if_pos c5]) rfl rfl b1 b2 (fun k hk => cd_bits b1 b2 hk) rfl
    · obtain ⟨hm, hg, c0, ck⟩ := g85 hkk
      have ak := aK (by rw [hm]; decide)
      obtain ⟨p1, p2, p3, p4⟩ := po_1 P hv hm
      obtain ⟨-, q0, ⟨-, q1⟩ | ⟨q1, -⟩⟩ := gE_o c0 (Or.inl ck)
      rotate_left
      · rw [ck] at q1; exact absurd q1 (by decide)
      obtain ⟨bb1, -⟩ := E.1
      obtain ⟨s1, s2, s3, s4, s5, s6, s7, s8⟩ := E.2.1 (kf T 1 (kC T v 0)).toInt.toNat (by omega)
      refine wq_f (by decide) (wq_f (by decide) (wq_f (by decide) (wq_f (by decide) (wq_f (by decide) (wq_f (by decide) (wq_f (by decide) (wq_f (by decide) (wq_f (by decide) (wq_f (by decide) (rN9 H ak N p3 ?_))))))))))
      have TR : ∀ y : Int32, (y = 0 ∨ y = 1) → ∃ t : Bool, y = bI t ∧ (if t then (1 : Int64) else 0) = if y = 0 then 0 else 1 := fun y hy => by
        rcases hy with rfl | rfl
        · exact ⟨false, rfl, rfl⟩
        · exact ⟨true, rfl, rfl⟩
      rw [ev_85 hkk]
      refine wq_if _ (fun c5 => wq_if _ (fun c6 => ?_) (fun c6 => ?_)) (fun c5 => ?_)
      · refine wq_gR H.1 rfl (ra_I H (j := 6) (by omega) rfl rfl q0 (by show _ < (512 : Int); omega) ?_)
        rw [s5]
        obtain ⟨t, t1, t2⟩ := TR _ s7
        exact wq_at H.1 (z_tr H B sm_0 hR hrr t1 (by rw [pOfS, if_neg (by rw [c6]; decide), if_pos c6, t2]))
      · refine wq_gR H.1 rfl (ra_I H (j := 7) (by omega) rfl rfl q0 (by show _ < (512 : Int); omega) ?_)
        rw [s6]
        obtain ⟨t, t1, t2⟩ := TR _ s8
        exact wq_at H.1 (z_tr H B sm_0 hR hrr t1 (by rw [pOfS, if_neg (fun e => by rw [e] at c5; exact absurd c5 (by decide)), if_neg c6, t2]))
      · have e17 : kf T 1 v = 17 := by
          rcases hg with e | e | e
          · rw [e] at c5; exact absurd (by decide) c5
          · rw [e] at c5; exact absurd (by decide) c5
          · exact e
        have es : ((512 : Int32) + kf T 1 (kC T v 0)).toInt = ((512 + (kf T 1 (kC T v 0)).toInt.toNat : Nat) : Int) := by
          rw [ad_i (by show _ ≤ 512 + _; omega) (by show 512 + _ ≤ _; omega)]
          show 512 + _ = _
          omega
        refine wq_at H.1 (wq_cV (r_copy H B hR hrr es (by omega) (by omega)) fun h1 H1 => wq_t (by decide) (wq_some (rI_i ?_)))
        rw [pOfS, if_pos e17]
        exact ⟨_, H1, by_cp B (by omega), sm_cp sm_0, rfl, RW_cp s2 s4 (by omega)⟩
end Vn
