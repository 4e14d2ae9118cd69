/-! THE REFERENCE'S PROCESS: its answer -/
/-- the reference's numbers of what is kept are as they were -/
def KG (σ σ' : rS) : Prop := σ'.1 23 = σ.1 23 ∧ (∀ j i, j = 18 ∨ j = 19 → ia σ' j i = ia σ j i) ∧ (∀ j i, j ≤ 3 → 1024 ≤ i → i < 9216 → ia σ' j i = ia σ j i)
/-- one process more -/
def kpK (σ σ' : rS) : Prop := (σ'.1 8).toInt = (σ.1 8).toInt + (σ.1 9).toInt ∧ ia σ' 18 (σ.1 23).toInt.toNat = σ.1 8 ∧ ia σ' 19 (σ.1 23).toInt.toNat = σ.1 9 ∧ (∀ j p, j = 18 ∨ j = 19 → p ≠ (σ.1 23).toInt.toNat → ia σ' j p = ia σ j p) ∧ (∀ j i, j ≤ 3 → i < 1024 + (σ.1 8).toInt.toNat → ia σ' j i = ia σ j i) ∧ kvC σ σ' (σ.1 9).toInt.toNat
def oneB (σ : rS) : Prop := σ.1 21 = 1 ∧ isB σ (σ.1 19 - 1)
def prA (σ : rS) (w x : Int32) : Prop := (¬ w = -1 ∧ x = -1 - w) ∨ (w = -1 ∧ ¬ oneB σ ∧ x = if σ.1 19 = 0 then -1 else -(σ.1 19)) ∨ (w = -1 ∧ oneB σ ∧ x = σ.1 23)
def pcR (σ σ' : rS) (w : Int32) : Prop := SS σ σ' ∧ σ'.1 19 = 0 ∧ σ'.1 21 = 0 ∧ σ'.1 9 = 0 ∧ ((w = -1 ∧ oneB σ ∧ σ'.1 23 = σ.1 23 + 1 ∧ σ'.1 22 = σ.1 22 + σ.1 19 ∧ kpK σ σ') ∨ (¬ (w = -1 ∧ oneB σ) ∧ σ'.1 23 = σ.1 23 ∧ σ'.1 22 = σ.1 22 ∧ KG σ σ' ∧ σ'.1 8 = σ.1 8))
def qP (σ : rS) (x : Int32) (σ' : rS) : Prop := RI σ' ∧ σ'.1 0 = σ.1 0 ∧ ∃ w, fwP σ w ∧ prA σ w x ∧ pcR σ σ' w
section Pe
variable {lim : Nat × Nat} {m d : Nat} {σ : rS} {b h : ah_H} {v1 : Int32}
theorem wq_and {A : Option ah_R} {P Q : Int32 → ah_H → Prop} (a : wq A (rI P)) (c : wq A (rI Q)) : wq A (rI fun x h => P x h ∧ Q x h) := by
  obtain ⟨z, ez, x, h1, rfl, p⟩ := a
  obtain ⟨z', ez', x', h1', rfl, q⟩ := c
  rw [ez] at ez'
  cases ez'
  exact ⟨_, ez, x, h1, rfl, p, q⟩
theorem pq_124 {s0 w : Int32} (H : RH m σ b h) (R : RI σ) (hs : s0 < 0) (hw : fwP σ w) (ha : prA σ w s0) (hn : ¬ (w = -1 ∧ oneB σ)) : wq (ah_val lim ah_P d 60 124 [some (.inr (.inr (some m))), none, none] [.inl s0] h) (rI fun x h' => ∃ σ', RH m σ' b h' ∧ qP σ x σ') := by
  obtain ⟨z1, z2⟩ := RI_z R
  refine wq_eq q_60_124 (wq_t hs (rw_I H (by omega) rfl (fun h1 H1 => rw_I H1 (by omega) rfl (fun h2 H2 => rw_I H2 (by omega) rfl (fun h3 H3 => wq_some (rI_i ⟨_, H3, z1, ?_, w, hw, ha, z2, ?_, ?_, ?_, Or.inr ⟨hn, ?_, ?_, ⟨?_, fun _ _ _ => rfl, fun _ _ _ _ _ => rfl⟩, ?_⟩⟩))))))
  · rw [sG_ne (by omega), sG_ne (by omega), sG_ne (by omega)]
  · rw [sG_ne (by omega), sG_ne (by omega), sG_eq]
  · rw [sG_ne (by omega), sG_eq]
  · rw [sG_eq]
  · rw [sG_ne (by omega), sG_ne (by omega), sG_ne (by omega)]
  · rw [sG_ne (by omega), sG_ne (by omega), sG_ne (by omega)]
  · rw [sG_ne (by omega), sG_ne (by omega), sG_ne (by omega)]
  · rw [sG_ne (by omega), sG_ne (by omega), sG_ne (by omega)]
theorem pq_66 (H : RH m σ b h) (R : RI σ) (hP : ¬ (σ.1 23).toInt = 64) (hA : (σ.1 22).toInt + (σ.1 19).toInt ≤ 20000) (h0 : 0 ≤ v1.toInt) (hT : (σ.1 19).toInt ≤ v1.toInt → ∀ c : Int, 0 ≤ c → c < (σ.1 19).toInt → RT σ c) (ok : ∀ c : Int, 0 ≤ c → c < v1.toInt → okN σ c) (hl : v1.toInt ≤ (σ.1 19).toInt) (nok : v1.toInt < (σ.1 19).toInt → ¬ okN σ v1.toInt) : wq (ah_val lim ah_P (d + 5) 60 66 [some (.inr (.inr (some m))), some (.inl v1), none] [] h) (rI fun x h' => ∃ σ', RH m σ' b h' ∧ qP σ x σ') := by
  obtain ⟨O, D, A, ⟨Nn, V⟩, Pp⟩ := id R
  obtain ⟨n1, n2, n3, n4, n5, n6, n7, n8, n9, n10⟩ := id Nn
  obtain ⟨d1, d2, d3, d4, -⟩ := id D
  have e0 : (0 : Int32).toInt = 0 := rfl
  have e1 : (1 : Int32).toInt = 1 := rfl
  have neg : ¬ σ.1 19 = 0 → -(σ.1 19) < (0 : Int32) := fun c => by
    have c : ¬ (σ.1 19).toInt = 0 := fun e => c (i32_of e rfl)
    rw [Int32.lt_iff_toInt_lt, Int32.toInt_neg, Int.bmod_eq_of_le (by omega) (by omega), e0]
    omega
  refine wq_eq q_60_66 (wq_gI H.1 rfl (wq_if _ (fun c => ?_) (fun c => ?_)))
  · have c := lt_i c
    have nw : ¬ v1 = -1 := nn_m h0
    refine pq_124 H R ?_ (Or.inr ⟨h0, c, ok, nok c⟩) (Or.inl ⟨nw, rfl⟩) (fun q => nw q.1)
    rw [Int32.lt_iff_toInt_lt, sb_i (by rw [li_m1]; omega) (by rw [li_m1]; omega), li_m1, e0]
    omega
  · have c := nlt_i c
    have hT := hT c
    have fw : fwP σ (-1) := Or.inl ⟨rfl, fun j j0 j1 => ok j j0 (by omega)⟩
    refine wq_gI H.1 rfl (wq_if _ (fun c1 => ?_) (fun c1 => ?_))
    · have c1' := c1
      have c1 : (σ.1 21).toInt = 1 := congrArg Int32.toInt c1
      obtain ⟨r1, r2, r3, -, r5⟩ := D.2.2.2.2.2 0 (by omega)
      have r5 := r5 (by omega)
      obtain ⟨-, -, -, hck, -⟩ := DI_k D r1 r2
      have es : ia σ 15 0 = σ.1 19 - 1 := Int32.toInt_inj.mp (by rw [sb_i (by omega) (by omega), e1]; omega)
      refine wq_gR H.1 rfl (ra_I H (by omega) rfl rfl (by decide) (by decide) (wq_at H.1 (wq_cI (wq_and (v_body H O (sm_0 (Q := QR 1000)) (Or.inr ⟨r1, by show (ia σ 15 0).toInt < 24000; omega⟩) (fun _ => ⟨_, ck_chn (by omega) hck⟩)) (w_body (d := d + 3) H O D (Or.inr ⟨r1, r2⟩))) ?_)))
      rintro y h5 ⟨⟨rfl, hy, hb⟩, -, bb⟩
      have bb : bo (isB σ (σ.1 19 - 1)) y := by
        rw [← es]
        exact bb
      refine wq_if _ (fun c2 => ?_) (fun c2 => ?_)
      · have no : ¬ oneB σ := fun q => bo_n bb c2 q.2
        exact wq_gI H.1 rfl (wq_if _ (fun c3 => pq_124 H R (by decide) fw (Or.inr (Or.inl ⟨rfl, no, by rw [if_pos c3]⟩)) (fun q => no q.2)) (fun c3 => wq_gI H.1 rfl (pq_124 H R (neg c3) fw (Or.inr (Or.inl ⟨rfl, no, by rw [if_neg c3]⟩)) (fun q => no q.2))))
      · have on : oneB σ := ⟨c1', bo_p bb c2⟩
        have hb := hb (hy.resolve_left c2)
        refine wq_gI H.1 rfl (wq_eq q_60_124 (wq_f (fun c => by have := lt_i c; omega) ?_))
        obtain ⟨N, hN⟩ : ∃ N : Nat, (σ.1 19).toInt = N := ⟨(σ.1 19).toInt.toNat, by omega⟩
        obtain ⟨P, hPp⟩ : ∃ P : Nat, (σ.1 23).toInt = P := ⟨(σ.1 23).toInt.toNat, by omega⟩
        obtain ⟨B, hB⟩ : ∃ B : Nat, (σ.1 22).toInt + 4000 = B := ⟨((σ.1 22).toInt + 4000).toNat, by omega⟩
        refine wq_at H.1 (wq_cV (f_keep (d := d + 2) H R hN hPp (by omega) hB (by omega)) ?_)
        rintro h4 ⟨σ', H4, K⟩
        obtain ⟨z1, z2⟩ := RI_k R hN hPp (by omega) hB (by omega) hT c1 hb K
        obtain ⟨k1, k2, k3, k4, k5, k6, k7, k8, k9, k10, k11, k12, k13, k14, k15, kc⟩ := K
        have eP : (σ.1 23).toInt.toNat = P := by omega
        refine rw_I H4 (by omega) rfl (fun h1 H1 => rw_I H1 (by omega) rfl (fun h2 H2 => rw_I H2 (by omega) rfl (fun h3 H3 => wq_some (rI_i ⟨_, H3, z1, ?_, -1, fw, Or.inr (Or.inr ⟨rfl, on, rfl⟩), z2, ?_, ?_, ?_, Or.inl ⟨rfl, on, ?_, ?_, ?_, by rw [eP]; exact k12, by rw [eP]; exact k13, fun j p hj hp => k8 j p (by omega) (by omega) (by rw [← eP]; exact hp), k10, kc⟩⟩))))
        · rw [sG_ne (by omega), sG_ne (by omega), sG_ne (by omega)]
          exact k2 0 (by omega) (by omega) (by omega)
        · rw [sG_ne (by omega), sG_ne (by omega), sG_eq]
        · rw [sG_ne (by omega), sG_eq]
        · rw [sG_eq]
        · rw [sG_ne (by omega), sG_ne (by omega), sG_ne (by omega)]
          exact Int32.toInt_inj.mp (by rw [ad_i (by omega) (by omega), e1, k5]; omega)
        · rw [sG_ne (by omega), sG_ne (by omega), sG_ne (by omega)]
          exact Int32.toInt_inj.mp (by rw [ad_i (by omega) (by omega), k4]; omega)
        · rw [sG_ne (by omega), sG_ne (by omega), sG_ne (by omega)]
          exact k3
    · have no : ¬ oneB σ := fun q => c1 q.1
      exact wq_gI H.1 rfl (wq_if _ (fun c3 => pq_124 H R (by decide) fw (Or.inr (Or.inl ⟨rfl, no, by rw [if_pos c3]⟩)) (fun q => no q.2)) (fun c3 => wq_gI H.1 rfl (pq_124 H R (neg c3) fw (Or.inr (Or.inl ⟨rfl, no, by rw [if_neg c3]⟩)) (fun q => no q.2))))
theorem cT_of (D : DI σ) (h0 : 0 ≤ v1.toInt) (h1 : v1.toInt < (σ.1 19).toInt) (ok : ∀ c : Int, 0 ≤ c → c < v1.toInt → okN σ c) : cT σ v1 := by
  intro q
  have ec : cO σ v1 0 = ch σ v1.toInt 0 := if_neg (nn_m h0)
  have D' := DI_ch D h0 h1 0
  rcases Int.lt_or_le (((0 : Nat) : Int)) (ia σ 10 v1.toInt.toNat).toInt with g | g
  · obtain ⟨g1, g2, -⟩ := D'.1 g
    rw [← ec] at g1 g2
    obtain ⟨-, o⟩ := ok _ g1 g2
    rw [show Int32.ofInt (cO σ v1 0).toInt = cO σ v1 0 from Int32.ofInt_toInt _] at o
    unfold riP at o
    rcases q with q | q
    · rw [q, if_neg (by decide), if_neg (by decide)] at o
      have o := o.1 (by show isX 80; unfold isX; omega)
      exact (show mO σ (cO σ v1 0) = 0 ∧ tOK σ (cO σ v1 0) from o).2
    · rw [q, if_neg (by decide), if_neg (by decide)] at o
      have o := o.1 (by show isX 81; unfold isX; omega)
      exact (show mO σ (cO σ v1 0) = 0 ∧ tOK σ (cO σ v1 0) from o).2
  · have e := D'.2 g
    rw [← ec] at e
    rw [e] at q
    exact q.elim (fun g => absurd (kO_m1.symm.trans g) (by decide)) (fun g => absurd (kO_m1.symm.trans g) (by decide))
theorem pq_44 (H : RH m σ b h) (R : RI σ) (hP : ¬ (σ.1 23).toInt = 64) (hA : (σ.1 22).toInt + (σ.1 19).toInt ≤ 20000) : ∀ (M : Nat) (v1 : Int32), ((σ.1 19).toInt - v1.toInt).toNat < M → 0 ≤ v1.toInt → v1.toInt ≤ (σ.1 19).toInt → (∀ c : Int, 0 ≤ c → c < v1.toInt → RT σ c) → (∀ c : Int, 0 ≤ c → c < v1.toInt → okN σ c) → wq (ah_val lim ah_P (d + 5) 60 44 [some (.inr (.inr (some m))), some (.inl v1), none] [] h) (rI fun x h' => ∃ σ', RH m σ' b h' ∧ qP σ x σ') := by
  obtain ⟨O, D, A, ⟨Nn, V⟩, Pp⟩ := id R
  obtain ⟨n1, n2, n3, n4, n5, n6, -⟩ := id Nn
  have d2 := D.2.1
  have e1 : (1 : Int32).toInt = 1 := rfl
  intro M
  induction M with
  | zero => intros; omega
  | succ M ih =>
    intro v1 hM h0 h1 hT ok
    refine wq_eq q_60_44 (wq_gI H.1 rfl (wq_if _ (fun c => ?_) (fun c => ?_)))
    · have c := lt_i c
      refine wq_at H.1 (wq_cI (wq_and (v_right H O (sm_0 (Q := QR 1000)) D h0 c (fun hv => RV_of R (hT _ hv.1 (DI_c D h0 c 0 hv).2.1)) n2 n6) (w_right (d := d) H O D h0 c n2 n6 (cT_of D h0 c ok))) ?_)
      rintro y h2 ⟨⟨rfl, hy, hr⟩, -, bb⟩
      refine wq_if _ (fun c2 => pq_66 H R hP hA h0 (fun h => absurd h (by omega)) ok (by omega) (fun _ => bo_n bb c2)) (fun c2 => ?_)
      have hr := hr (hy.resolve_left c2)
      have e2 : (v1 + (1 : Int32)).toInt = v1.toInt + 1 := by rw [ad_i (by omega) (by omega), e1]
      refine ih _ (by omega) (by omega) (by omega) (fun c c0 c1 => ?_) (fun c c0 c1 => ?_)
      · by_cases e : c = v1.toInt
        · rw [e]
          exact hr
        · exact hT c c0 (by omega)
      · by_cases e : c = v1.toInt
        · rw [e]
          exact bo_p bb c2
        · exact ok c c0 (by omega)
    · have c := nlt_i c
      exact pq_66 H R hP hA h0 (fun _ c c0 c1 => hT c c0 (by omega)) ok h1 (fun g => absurd g (by omega))
def pF (σ : rS) : Prop := (σ.1 23).toInt = 64 ∨ 20000 < (σ.1 22).toInt + (σ.1 19).toInt
theorem w_process (H : RH m σ b h) (R : RI σ) : wq (vc lim (d + 6) m_Ref_process [.inr (.inr (some m))] h) (rI fun x h' => ∃ σ', RH m σ' b h' ∧ RI σ' ∧ ((σ'.1 0 = 1 ∧ pF σ ∧ SG σ σ') ∨ (σ'.1 0 = 0 ∧ ¬ pF σ ∧ ∃ w, fwP (sG σ 0 0) w ∧ prA (sG σ 0 0) w x ∧ pcR (sG σ 0 0) σ' w))) := by
  obtain ⟨n1, n2, n3, n4, n5, n6, n7, n8, n9, n10⟩ := R.2.2.2.1.1
  obtain ⟨d1, d2, -⟩ := R.2.1
  have e2 : (20000 : Int32).toInt = 20000 := rfl
  refine wq_eq e_Ref_process (wq_gI H.1 rfl (wq_if _ (fun c => wc H (fun h2 H2 => rc H2 (wq_f (by decide) (wq_some (rI_i ⟨_, H2, RI_c R, Or.inl ⟨sG_eq, Or.inl (congrArg Int32.toInt c), SG_c⟩⟩))))) (fun c => wq_gI H.1 rfl (wq_gI H.1 rfl (wq_if _ (fun c1 => ?_) (fun c1 => wc H (fun h2 H2 => rc H2 (wq_f (by decide) (wq_some (rI_i ⟨_, H2, RI_c R, Or.inl ⟨sG_eq, Or.inr ?_, SG_c⟩⟩))))))))))
  · have c : ¬ (σ.1 23).toInt = 64 := fun e => c (i32_of e rfl)
    have c1 := le_i c1
    rw [ad_i (by omega) (by omega), e2] at c1
    refine wc H (fun h2 H2 => rc H2 (wq_t (by decide) ?_))
    refine wq_mono (pq_44 H2 (RI_c R) (by rw [sG_ne (by omega)]; exact c) (by rw [sG_ne (by omega), sG_ne (by omega)]; exact c1) 4001 0 (by rw [sG_ne (by omega)]; show ((σ.1 19).toInt - 0).toNat < _; omega) (by decide) (by rw [sG_ne (by omega)]; exact d1) (fun c c0 c1 => absurd c1 (by show ¬ c < 0; omega)) (fun c c0 c1 => absurd c1 (by show ¬ c < 0; omega))) ?_
    rintro z ⟨x, h', rfl, σ', H', q1, q2, q3⟩
    exact ⟨x, h', rfl, σ', H', q1, Or.inr ⟨q2.trans sG_eq, by unfold pF; omega, q3⟩⟩
  · have c1 := nle_i c1
    rw [ad_i (by omega) (by omega), e2] at c1
    exact c1
end Pe
