/-! THE REFERENCE FINDS WHAT AN EXPRESSION IS -/
/-- the nodes from B on are T's -/
def NB (T : KT) (B : Nat) (σ : rS) : Prop := (4000 ≤ B ∧ B + T.1 ≤ 24000) ∧ ∀ v, rgN T v → ia σ 8 (B + v.toInt.toNat) = kf T 0 v ∧ ia σ 9 (B + v.toInt.toNat) = kf T 1 v ∧ ia σ 10 (B + v.toInt.toNat) = kf T 6 v ∧ (kf T 6 v = 0 → ia σ 11 (B + v.toInt.toNat) = -1) ∧ (0 < (kf T 6 v).toInt → (ia σ 11 (B + v.toInt.toNat)).toInt = B + (kC T v 0).toInt) ∧ ∀ i : Nat, (i : Int) < (kf T 6 v).toInt → (ia σ 12 (B + (kC T v i).toInt.toNat)).toInt = if (i : Int) + 1 < (kf T 6 v).toInt then B + (kC T v (i + 1)).toInt else -1
/-- signals and variables -/
def EW (nS nV fv : Nat) (eS eV : Nat → TS) (σ : rS) : Prop := (nS ≤ 512 ∧ fv + nV ≤ 8192 ∧ 0 ≤ (σ.1 39).toInt ∧ (σ.1 39).toInt < 64 ∧ (ia σ 18 (σ.1 39).toInt.toNat).toInt = fv) ∧ (∀ i, i < nS → RW σ i (eS i).1 ∧ RW σ (512 + i) (eS i).2.1 ∧ WF (eS i).1 ∧ WF (eS i).2.1 ∧ ia σ 6 i = (eS i).2.2.1 ∧ ia σ 7 i = (eS i).2.2.2.1 ∧ ((eS i).2.2.1 = 0 ∨ (eS i).2.2.1 = 1) ∧ ((eS i).2.2.2.1 = 0 ∨ (eS i).2.2.2.1 = 1)) ∧ ∀ i, i < nV → RW σ (1024 + fv + i) (eV i).1 ∧ WF (eV i).1
/-- classes and lengths -/
def KC (nS : Nat) (kS : Nat → Int32 × Int32) (eS : Nat → TS) : Prop := ∀ i, i < nS → wI (eS i).1 = (kS i).1 ∧ wL (eS i).1 = (kS i).2 ∧ wI (eS i).2.1 = (kS i).1 ∧ wL (eS i).2.1 = (kS i).2
section Vl
variable {lim : Nat × Nat} {d m r n nS nV fv B0 : Nat} {σ σ' τ : rS} {b h h' : ah_H} {R k v : Int32} {w : WD} {T : KT} {eS eV : Nat → TS} {kS kV : Nat → Int32 × Int32}
theorem NB_sm (N : NB T B0 σ) (G : sm (fQ r) σ σ') : NB T B0 σ' := by
  have e : ∀ j i, 6 ≤ j → j < 100 → ia σ' j i = ia σ j i := fun j i h1 h2 => G.2.2.1 j i (fun q => by rcases q with ⟨q, -⟩ | ⟨q, -⟩ | ⟨q, -⟩ <;> omega)
  refine ⟨N.1, fun v hv => ?_⟩
  obtain ⟨n1, n2, n3, n4, n5, n6⟩ := N.2 v hv
  rw [e 8 _ (by omega) (by omega), e 9 _ (by omega) (by omega), e 10 _ (by omega) (by omega), e 11 _ (by omega) (by omega)]
  refine ⟨n1, n2, n3, n4, n5, fun i hi => ?_⟩
  rw [e 12 _ (by omega) (by omega)]
  exact n6 i hi
theorem EW_sm (E : EW nS nV fv eS eV σ) (G : sm (fQ r) σ σ') (hr : 9344 ≤ r) : EW nS nV fv eS eV σ' := by
  have e : ∀ j i, 6 ≤ j → j < 100 → ia σ' j i = ia σ j i := fun j i h1 h2 => G.2.2.1 j i (fun q => by rcases q with ⟨q, -⟩ | ⟨q, -⟩ | ⟨q, -⟩ <;> omega)
  have e39 : σ'.1 39 = σ.1 39 := G.1 39 (fun q => by rcases q with ⟨q, -⟩ | ⟨q, -⟩ | ⟨-, q⟩ <;> omega)
  obtain ⟨⟨b1, b2, b3, b4, b5⟩, es, ev⟩ := E
  refine ⟨⟨b1, b2, by rw [e39]; exact b3, by rw [e39]; exact b4, by rw [e39, e 18 _ (by omega) (by omega)]; exact b5⟩, fun i hi => ?_, fun i hi => ?_⟩
  · obtain ⟨p1, p2, p3, p4, p5, p6, p7⟩ := es i hi
    rw [e 6 _ (by omega) (by omega), e 7 _ (by omega) (by omega)]
    exact ⟨RW_sm p3 p1 G (by omega), RW_sm p4 p2 G (by omega), p3, p4, p5, p6, p7⟩
  · obtain ⟨p1, p2⟩ := ev i hi
    exact ⟨RW_sm p2 p1 G (by omega), p2⟩
/-- reading a node -/
theorem rdN {K1 : Int32 → Option ah_R} {Φ : ah_R → Prop} {j : Nat} (H : RH m σ b h) (hj : 8 ≤ j ∧ j ≤ 12) (hk : k.toInt = B0 + v.toInt) (N : NB T B0 σ) (hv : rgN T v) (c : wq (K1 (ia σ j (B0 + v.toInt.toNat))) Φ) : wq (ah_lI h (some (m + 1 + j)) 100 k K1) Φ := by
  have h1 := N.1
  have h2 := hv.1
  have h3 := hv.2
  have ek : k.toInt.toNat = B0 + v.toInt.toNat := by omega
  have rj : rk j = 100 ∧ rn j = 24000 := by
    obtain ⟨a, c⟩ := hj
    have : j = 8 ∨ j = 9 ∨ j = 10 ∨ j = 11 ∨ j = 12 := by omega
    rcases this with rfl | rfl | rfl | rfl | rfl <;> exact ⟨rfl, rfl⟩
  refine ra_I H (by omega) rj.1 rfl (by omega) (by rw [rj.2]; omega) ?_
  rw [ek]
  exact c
theorem rN8 {K1 : Int32 → Option ah_R} {Φ : ah_R → Prop} {e : Int32} (H : RH m σ b h) (hk : k.toInt = B0 + v.toInt) (N : NB T B0 σ) (hv : rgN T v) (he : kf T 0 v = e) (c : wq (K1 e) Φ) : wq (ah_gR h (some m) 11 12 fun r1 => ah_lI h r1 100 k K1) Φ := wq_gR H.1 rfl (rdN (j := 8) H (by omega) hk N hv (by rw [(N.2 v hv).1, he]; exact c))
theorem rN9 {K1 : Int32 → Option ah_R} {Φ : ah_R → Prop} (H : RH m σ b h) (hk : k.toInt = B0 + v.toInt) (N : NB T B0 σ) (hv : rgN T v) (c : wq (K1 (kf T 1 v)) Φ) : wq (ah_gR h (some m) 11 13 fun r1 => ah_lI h r1 100 k K1) Φ := wq_gR H.1 rfl (rdN (j := 9) H (by omega) hk N hv (by rw [(N.2 v hv).2.1]; exact c))
theorem rN10 {K1 : Int32 → Option ah_R} {Φ : ah_R → Prop} (H : RH m σ b h) (hk : k.toInt = B0 + v.toInt) (N : NB T B0 σ) (hv : rgN T v) (c : wq (K1 (kf T 6 v)) Φ) : wq (ah_gR h (some m) 11 14 fun r1 => ah_lI h r1 100 k K1) Φ := wq_gR H.1 rfl (rdN (j := 10) H (by omega) hk N hv (by rw [(N.2 v hv).2.2.1]; exact c))
theorem rN11 {K1 : Int32 → Option ah_R} {Φ : ah_R → Prop} (H : RH m σ b h) (hk : k.toInt = B0 + v.toInt) (N : NB T B0 σ) (hv : rgN T v) (c : ∀ a : Int32, (kf T 6 v = 0 → a = -1) → (0 < (kf T 6 v).toInt → a.toInt = B0 + (kC T v 0).toInt) → wq (K1 a) Φ) : wq (ah_gR h (some m) 11 15 fun r1 => ah_lI h r1 100 k K1) Φ := wq_gR H.1 rfl (rdN (j := 11) H (by omega) hk N hv (c _ (N.2 v hv).2.2.2.1 (N.2 v hv).2.2.2.2.1))
/-- the next child -/
theorem rN12' {K1 : Int32 → Option ah_R} {Φ : ah_R → Prop} {i : Nat} (H : RH m σ b h) (N : NB T B0 σ) (hv : rgN T v) (hi : (i : Int) < (kf T 6 v).toInt) (hc : rgN T (kC T v i)) (hk : k.toInt = B0 + (kC T v i).toInt) (c : ∀ a : Int32, a.toInt = (if (i : Int) + 1 < (kf T 6 v).toInt then B0 + (kC T v (i + 1)).toInt else -1) → wq (K1 a) Φ) : wq (ah_lI h (some (m + 1 + 12)) 100 k K1) Φ := rdN (j := 12) H (by omega) hk N hc (c _ ((N.2 v hv).2.2.2.2.2 i hi))
theorem rN12 {K1 : Int32 → Option ah_R} {Φ : ah_R → Prop} {i : Nat} (H : RH m σ b h) (N : NB T B0 σ) (hv : rgN T v) (hi : (i : Int) < (kf T 6 v).toInt) (hc : rgN T (kC T v i)) (hk : k.toInt = B0 + (kC T v i).toInt) (c : ∀ a : Int32, a.toInt = (if (i : Int) + 1 < (kf T 6 v).toInt then B0 + (kC T v (i + 1)).toInt else -1) → wq (K1 a) Φ) : wq (ah_gR h (some m) 11 16 fun r1 => ah_lI h r1 100 k K1) Φ := wq_gR H.1 rfl (rN12' H N hv hi hc hk c)
/-- where a thing is -/
def whR (T : KT) (fv : Nat) (v : Int32) : Nat := if kf T 0 v = 80 then (kf T 1 v).toInt.toNat else 1024 + fv + (kf T 1 v).toInt.toNat
def whW (T : KT) (eS eV : Nat → TS) (v : Int32) : WD := if kf T 0 v = 80 then (eS (kf T 1 v).toInt.toNat).1 else (eV (kf T 1 v).toInt.toNat).1
/-- a signal's or a variable's node -/
def gO' (T : KT) (nS nV : Nat) (v : Int32) : Prop := rgN T v ∧ 0 ≤ (kf T 1 v).toInt ∧ ((kf T 0 v = 80 ∧ (kf T 1 v).toInt < nS) ∨ (kf T 0 v = 81 ∧ (kf T 1 v).toInt < nV))
theorem wh_b (E : EW nS nV fv eS eV σ) (g : gO' T nS nV v) : whR T fv v < 9216 ∧ RW σ (whR T fv v) (whW T eS eV v) ∧ WF (whW T eS eV v) := by
  obtain ⟨⟨b1, b2, -⟩, es, ev⟩ := E
  obtain ⟨-, g0, ⟨g1, g2⟩ | ⟨g1, g2⟩⟩ := g
  · unfold whR whW
    rw [if_pos g1, if_pos g1]
    obtain ⟨p1, -, p3, -⟩ := es (kf T 1 v).toInt.toNat (by omega)
    exact ⟨by omega, p1, p3⟩
  · unfold whR whW
    rw [if_neg (by rw [g1]; decide), if_neg (by rw [g1]; decide)]
    obtain ⟨p1, p2⟩ := ev (kf T 1 v).toInt.toNat (by omega)
    exact ⟨by omega, p1, p2⟩
theorem r_where (H : RH m σ b h) (N : NB T B0 σ) (E : EW nS nV fv eS eV σ) (g : gO' T nS nV v) (hk : k.toInt = B0 + v.toInt) : wq (vc lim (d + 1) m_Ref_where [aR m, aI k] h) (rI fun x h' => h' = h ∧ x.toInt = whR T fv v) := by
  obtain ⟨b1, b2, b3, b4, b5⟩ := E.1
  obtain ⟨hv, g0, g1⟩ := g
  refine wq_eq e_Ref_where (rN8 H hk N hv rfl (wq_if _ (fun c => rN9 H hk N hv (wq_some (rI_i ⟨rfl, ?_⟩))) (fun c => ?_)))
  · unfold whR
    rw [if_pos c]
    omega
  · have g2 : (kf T 1 v).toInt < nV := by
      rcases g1 with ⟨q, -⟩ | ⟨-, q⟩
      · exact absurd q c
      · exact q
    refine wq_gR H.1 rfl (wq_gI H.1 rfl (ra_I H (j := 18) (by omega) rfl rfl b3 (by show (σ.1 39).toInt < (64 : Int); omega) (rN9 H hk N hv (wq_some (rI_i ⟨rfl, ?_⟩)))))
    unfold whR
    rw [if_neg c]
    have e1 : ((1024 : Int32) + ia σ 18 (σ.1 39).toInt.toNat).toInt = 1024 + fv := by
      rw [ad_i (by show _ ≤ 1024 + _; omega) (by show 1024 + _ ≤ _; omega), b5]
      rfl
    rw [ad_i (by omega) (by omega), e1]
    omega
theorem RW_cp {s : Nat} (K : RW σ s w) (W : WF w) (hn : s ≠ r) : RW (sCp σ s r) r w := by
  obtain ⟨K0, K2, KL, K1⟩ := K
  have e0 : ia (sCp σ s r) 0 r = ia σ 0 s := by
    show ia (setE (sJ (sI (sI σ 0 r (ia σ 0 s)) 1 r (ia σ 1 s)) 4 r (ja σ 4 s)) r 64 fun k => el σ s k) 0 r = _
    rw [setE_j (by decide)]
    show ia (sI (sI σ 0 r (ia σ 0 s)) 1 r (ia σ 1 s)) 0 r = _
    rw [iaI_j (by decide), iaI_e]
  have e1 : ia (sCp σ s r) 1 r = ia σ 1 s := by
    show ia (setE (sJ (sI (sI σ 0 r (ia σ 0 s)) 1 r (ia σ 1 s)) 4 r (ja σ 4 s)) r 64 fun k => el σ s k) 1 r = _
    rw [setE_j (by decide)]
    exact iaI_e (σ := sI σ 0 r (ia σ 0 s))
  have e4 : ja (sCp σ s r) 4 r = ja σ 4 s := jaJ_e (σ := sI (sI σ 0 r (ia σ 0 s)) 1 r (ia σ 1 s))
  refine ⟨e0.trans K0, fun q => ?_, fun q => ?_, fun q => ?_⟩
  · rw [e1, e4]; exact K2 q
  · rw [e1, e4]; exact KL q
  · rw [e1, e4]
    refine ⟨(K1 q).1, (K1 q).2.1, fun k hk => ?_⟩
    have := W.2.1.2
    exact (setE_e (by omega)).trans ((K1 q).2.2 k hk)
theorem by_cp {s : Nat} (B : byE σ) (hs : s < 10100) : byE (sCp σ s r) := by_E (by_J (by_1 (by_0 B (B.1 s hs).1 (B.1 s hs).2.1) (B.1 s hs).2.2.1 (B.1 s hs).2.2.2)) (fun k hk => B.2 _ (by omega))
theorem sm_cp {s : Nat} (G : sm (fQ r) σ τ) : sm (fQ r) σ (sCp τ s r) := sm_E (sm_J (sm_I (sm_I G fq0) fq1) fq4) (fun k _ => fq5 (by omega))
theorem gE_o (g : gE T nS nV kS kV n v) (hk : kf T 0 v = 80 ∨ kf T 0 v = 81) : gO' T nS nV v := by
  cases n with
  | zero => exact g.elim
  | succ n =>
    obtain ⟨hv, -, -, -, -, -, -, g80, g81, -⟩ := g
    rcases hk with q | q
    · exact ⟨hv, (g80 q).2.1, Or.inl ⟨q, (g80 q).2.2⟩⟩
    · exact ⟨hv, (g81 q).2.1, Or.inr ⟨q, (g81 q).2.2⟩⟩
theorem ev_o (g : gE T nS nV kS kV n v) (hk : kf T 0 v = 80 ∨ kf T 0 v = 81) : ev T eS eV n v = some (whW T eS eV v) := by
  cases n with
  | zero => exact g.elim
  | succ n =>
    unfold whW
    rcases hk with q | q
    · rw [ev_80 q, if_pos q]
    · rw [ev_81 q, if_neg (by rw [q]; decide)]
theorem whW_k (C1 : KC nS kS eS) (C2 : KC nV kV eV) (g : gO' T nS nV v) : wI (whW T eS eV v) = (kOf T kS kV v).1 ∧ wL (whW T eS eV v) = (kOf T kS kV v).2 := by
  obtain ⟨-, g0, ⟨g1, g2⟩ | ⟨g1, g2⟩⟩ := g
  · unfold whW kOf
    rw [if_pos g1, if_pos g1]
    have := C1 (kf T 1 v).toInt.toNat (by omega)
    exact ⟨this.1, this.2.1⟩
  · have n8 : ¬ kf T 0 v = 80 := by rw [g1]; decide
    unfold whW kOf
    rw [if_neg n8, if_neg n8]
    have := C2 (kf T 1 v).toInt.toNat (by omega)
    exact ⟨this.1, this.2.1⟩
/-- what is found can be -/
theorem ev_WF (E : EW nS nV fv eS eV σ) (C1 : KC nS kS eS) (C2 : KC nV kV eV) : ∀ (n : Nat) (v : Int32) (w : WD), gE T nS nV kS kV n v → ev T eS eV n v = some w → WF w := by
  intro n
  induction n with
  | zero => intro v w g; exact g.elim
  | succ n ih =>
    intro v w g e
    have g0 := g
    obtain ⟨hv, hK, g2, g3, g4, g20, g21, g80, g81, g82, g83, g84, g85⟩ := g
    rcases hK with hk | hk | hk | hk | hk | hk | hk | hk | hk | hk | hk
    · rw [ev_2 hk] at e
      cases e
      have := bd_i (kf T 1 v)
      exact WF_num (by rw [Int32.toInt_toInt64]; exact (g2 hk).2) (by rw [Int32.toInt_toInt64]; omega)
    · rw [ev_3 hk] at e
      cases e
      exact WF_logic (g3 hk).2.1 (g3 hk).2.2
    · rw [ev_4 hk] at e
      cases e
      obtain ⟨m1, m2, hc⟩ := g4 hk
      exact WF_gather m1 m2 (fun i hi => (hc i hi).2.2)
    · rw [ev_20 hk] at e
      obtain ⟨hm, -, -, c0⟩ := g20 hk
      cases e1 : ev T eS eV n (kC T v 0) with
      | none => rw [e1] at e; cases e
      | some a => rw [e1] at e; exact WF_one (ih _ _ c0 e1) e
    · rw [ev_21 hk] at e
      obtain ⟨hm, o0, o1, c0, c1⟩ := g21 hk
      cases e1 : ev T eS eV n (kC T v 0) with
      | none => rw [e1] at e; cases e
      | some a =>
        rw [e1] at e
        have e : (ev T eS eV n (kC T v 1)).bind (fun z => pTwo (kf T 1 v) a z) = some w := e
        cases e2 : ev T eS eV n (kC T v 1) with
        | none => rw [e2] at e; cases e
        | some c => rw [e2] at e; exact WF_two (ih _ _ c0 e1) (ih _ _ c1 e2) o0 o1 e
    · rw [ev_o g0 (Or.inl hk)] at e
      cases e
      exact (wh_b E (gE_o g0 (Or.inl hk))).2.2
    · rw [ev_o g0 (Or.inr hk)] at e
      cases e
      exact (wh_b E (gE_o g0 (Or.inr hk))).2.2
    · rw [ev_82 hk] at e
      obtain ⟨hm, c0, -, -, c1⟩ := g82 hk
      cases e1 : ev T eS eV n (kC T v 0) with
      | none => rw [e1] at e; cases e
      | some a =>
        rw [e1] at e
        have e : (ev T eS eV n (kC T v 1)).bind (fun z => pEl a z) = some w := e
        cases e2 : ev T eS eV n (kC T v 1) with
        | none => rw [e2] at e; cases e
        | some c => rw [e2] at e; exact WF_el (ih _ _ c0 e1) e
    · rw [ev_83 hk] at e
      obtain ⟨hm, c0, ck, -, -, -, -, -, b1, b2, b3⟩ := g83 hk
      rw [ev_o c0 ck] at e
      cases e
      have q := wh_b E (gE_o c0 ck)
      have q2 := whW_k C1 C2 (gE_o c0 ck)
      have l1 := q.2.2.2.1
      rw [q2.2] at l1
      exact WF_part q.2.2 (Or.inr rfl) b1 (by omega) b2 (by omega) (fun e => absurd e (by decide))
    · rcases g84 hk with ⟨hg, hm, c0, ck, -⟩ | ⟨hg, hm, c0⟩ | ⟨hg, hm, c0, c1, k1, b1, b2⟩
      · have x0 : ¬ kf T 1 v = 10 := by rcases hg with e | e <;> rw [e] <;> decide
        have x1 : ¬ kf T 1 v = 11 := by rcases hg with e | e <;> rw [e] <;> decide
        rw [ev_84e hk x0 x1] at e
        cases e
        exact WF_01
      · rw [ev_84n hk hg] at e
        cases e1 : ev T eS eV n (kC T v 0) with
        | none => rw [e1] at e; cases e
        | some a => rw [e1] at e; exact WF_toNum (ih _ _ c0 e1) e
      · rw [ev_84r hk hg] at e
        cases e1 : ev T eS eV n (kC T v 0) with
        | none => rw [e1] at e; cases e
        | some a => rw [e1] at e; exact WF_toRow b1 b2 e
    · rw [ev_85 hk] at e
      cases e
      obtain ⟨hm, hg, c0, ck⟩ := g85 hk
      obtain ⟨-, q0, ⟨-, q1⟩ | ⟨q1, -⟩⟩ := gE_o c0 (Or.inl ck)
      · unfold pOfS
        by_cases c : kf T 1 v = 17
        · rw [if_pos c]
          exact (E.2.1 _ (by omega)).2.2.2.1
        · rw [if_neg c]
          exact WF_10
      · rw [ck] at q1
        exact absurd q1 (by decide)
end Vl
