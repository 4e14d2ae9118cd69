/-! THE REFERENCE'S METHODS ON A FRESH OBJECT -/
def refR (m p : Nat) : Prop := m ≤ p ∧ p < m + 40
def rP (m : Nat) (code : Int32) (h h' : ah_H) : Prop := (∃ fs, h'.1 m = some (11, fs) ∧ fs[0]? = some (aI code)) ∧ hk (refR m) 0 0 h h'
def arrs (m : Nat) (h : ah_H) : Prop := ∀ j q, j < 39 → tR[j]? = some q → ∃ vs, h.1 (m + 1 + j) = some (q.2.1, vs) ∧ vs.length = q.2.2.2
theorem arrs_up {m j0 : Nat} {h : ah_H} {q0 : Nat × Nat × AV × Nat} {vs' : List AV} (ha : arrs m h) (hj : tR[j0]? = some q0) (hl : vs'.length = q0.2.2.2) : arrs m (ah_up h (m + 1 + j0) (q0.2.1, vs')) := by
  intro j q h1 h2
  by_cases e : j = j0
  · subst e
    rw [hj] at h2
    cases h2
    exact ⟨vs', up_eq, hl⟩
  · obtain ⟨vs, e1, e2⟩ := ha j q h1 h2
    exact ⟨vs, up_ne (by omega) e1, e2⟩
theorem arrs_m {m : Nat} {h : ah_H} {o : ah_O} (ha : arrs m h) : arrs m (ah_up h m o) := by
  intro j q h1 h2
  obtain ⟨vs, e1, e2⟩ := ha j q h1 h2
  exact ⟨vs, up_ne (by omega) e1, e2⟩
section Rf
variable {lim : Nat × Nat} {d : Nat} {h : ah_H} {m : Nat}
theorem rP_up {c : Int32} : rP m c h (ah_up h m (11, (rF m).set 0 (aI c))) := ⟨⟨_, up_eq, rfl⟩, hk_up ⟨by omega, by omega⟩⟩
theorem r_thrown {fs : List AV} {c : Int32} (hm : h.1 m = some (11, fs)) (h0 : fs[0]? = some (aI c)) : wq (vc lim (d + 5) m_Ref_thrown [aR m] h) (rI fun v h' => v = c ∧ h' = h) := wq_eq e_Ref_thrown (wq_gI hm h0 (wq_some (rI_i ⟨rfl, rfl⟩)))
theorem r_put {a b c e : Int32} (hm : h.1 m = some (11, rF m)) : wq (vc lim (d + 5) m_Ref_put [aR m, aI a, aI b, aI c, aI e] h) (rV (rP m 1 h)) := by
  have key : wq (ah_val lim ah_P (d + 4) 29 41 [some (.inr (.inr (some m))), some (.inl a), some (.inl b), some (.inl c), some (.inl e)] [.inl (1 : Int32), .inr (.inr (some m))] h) (rV (rP m 1 h)) := wq_eq q_29_41 (wq_wr hm (Nat.le_of_ble_eq_true rfl) (wq_gI up_eq rfl (wq_f (by decide) (wq_some (rV_i rP_up)))))
  exact wq_eq e_Ref_put (wq_if _ (fun _ => key) (fun hn => wq_gI hm rfl (wq_f hn key)))
theorem r_mark {a b c : Int32} (hm : h.1 m = some (11, rF m)) : wq (vc lim (d + 5) m_Ref_mark [aR m, aI a, aI b, aI c] h) (rV (rP m 1 h)) := by
  have key : wq (ah_val lim ah_P (d + 4) 30 18 [some (.inr (.inr (some m))), some (.inl a), some (.inl b), some (.inl c)] [.inl (1 : Int32), .inr (.inr (some m))] h) (rV (rP m 1 h)) := wq_eq q_30_18 (wq_wr hm (Nat.le_of_ble_eq_true rfl) (wq_gI up_eq rfl (wq_f (by decide) (wq_some (rV_i rP_up)))))
  exact wq_eq e_Ref_mark (wq_if _ (fun _ => key) (fun hn => wq_gI hm rfl (wq_f hn key)))
theorem r_get {a b : Int32} (hm : h.1 m = some (11, rF m)) : wq (vc lim (d + 5) m_Ref_get [aR m, aI a, aI b] h) (rI fun _ => rP m 1 h) := by
  have key : wq (ah_val lim ah_P (d + 4) 31 22 [some (.inr (.inr (some m))), some (.inl a), some (.inl b)] [.inr (.inr (some m))] h) (rI fun _ => rP m 1 h) := wq_eq q_31_22 (wq_wr hm (Nat.le_of_ble_eq_true rfl) (wq_gI up_eq rfl (wq_f (by decide) (wq_some (rI_i rP_up)))))
  exact wq_eq e_Ref_get (wq_if _ (fun _ => key) (fun hn => wq_gI hm rfl (wq_f hn key)))
theorem r_noP {a : Int32} (hm : h.1 m = some (11, rF m)) : wq (vc lim (d + 1) m_Ref_noProcess [aR m, aI a] h) (rI fun v h' => v = 1 ∧ h' = h) := wq_eq e_Ref_noProcess (wq_if _ (fun _ => wq_1 (wq_some (rI_i ⟨rfl, rfl⟩))) (fun hn => wq_gI hm rfl (wq_f hn (wq_1 (wq_some (rI_i ⟨rfl, rfl⟩))))))
theorem r_vAt {a b c : Int32} (hm : h.1 m = some (11, rF m)) : wq (vc lim (d + 2) m_Ref_variableAt [aR m, aI a, aI b, aI c] h) (rI fun v h' => v = -1 ∧ h' = h) := by
  refine wq_eq e_Ref_variableAt (wq_at hm (wq_cI (r_noP hm) ?_))
  rintro v h' ⟨rfl, rfl⟩
  exact wq_f (by decide) (wq_some (rI_i ⟨rfl, rfl⟩))
theorem r_set {a b c e : Int32} (hm : h.1 m = some (11, rF m)) : wq (vc lim (d + 5) m_Ref_set [aR m, aI a, aI b, aI c, aI e] h) (rV (rP m 1 h)) := by
  refine wq_eq e_Ref_set (wq_at hm (wq_cI (r_vAt hm) ?_))
  rintro v h' ⟨rfl, rfl⟩
  exact wq_t rfl (wq_eq q_34_36 (wq_wr hm (Nat.le_of_ble_eq_true rfl) (wq_gI up_eq rfl (wq_f (by decide) (wq_some (rV_i rP_up))))))
theorem r_variableOf {a b c : Int32} (hm : h.1 m = some (11, rF m)) : wq (vc lim (d + 5) m_Ref_variableOf [aR m, aI a, aI b, aI c] h) (rI fun _ => rP m 1 h) := by
  refine wq_eq e_Ref_variableOf (wq_at hm (wq_cI (r_vAt hm) ?_))
  rintro v h' ⟨rfl, rfl⟩
  exact wq_t rfl (wq_wr hm (Nat.le_of_ble_eq_true rfl) (wq_gI up_eq rfl (wq_f (by decide) (wq_some (rI_i rP_up)))))
theorem r_resume {a b : Int32} (hm : h.1 m = some (11, rF m)) : wq (vc lim (d + 5) m_Ref_resume [aR m, aI a, aI b] h) (rI fun _ => rP m 1 h) := by
  refine wq_eq e_Ref_resume (wq_at hm (wq_cI (r_noP hm) ?_))
  rintro v h' ⟨rfl, rfl⟩
  exact wq_f (by decide) (wq_eq q_39_44 (wq_wr hm (Nat.le_of_ble_eq_true rfl) (wq_gI up_eq rfl (wq_f (by decide) (wq_some (rI_i rP_up))))))
theorem r_holds {a : Int32} (hm : h.1 m = some (11, rF m)) : wq (vc lim (d + 5) m_Ref_holds [aR m, aI a] h) (rI fun _ => rP m 1 h) := by
  refine wq_eq e_Ref_holds (wq_at hm (wq_cI (r_noP hm) ?_))
  rintro v h' ⟨rfl, rfl⟩
  exact wq_f (by decide) (wq_eq q_40_28 (wq_wr hm (Nat.le_of_ble_eq_true rfl) (wq_gI up_eq rfl (wq_f (by decide) (wq_some (rI_i rP_up))))))
theorem r_about {a b : Int32} (hm : h.1 m = some (11, rF m)) : wq (vc lim (d + 5) m_Ref_about [aR m, aI a, aI b] h) (rI fun _ => rP m 1 h) := by
  refine wq_eq e_Ref_about (wq_at hm (wq_cI (r_noP hm) ?_))
  rintro v h' ⟨rfl, rfl⟩
  exact wq_f (by decide) (wq_eq q_41_27 (wq_wr hm (Nat.le_of_ble_eq_true rfl) (wq_gI up_eq rfl (wq_f (by decide) (wq_some (rI_i rP_up))))))
theorem r_waits {a b : Int32} (hm : h.1 m = some (11, rF m)) : wq (vc lim (d + 5) m_Ref_waits [aR m, aI a, aI b] h) (rI fun _ => rP m 1 h) := by
  refine wq_eq e_Ref_waits (wq_at hm (wq_cI (r_noP hm) ?_))
  rintro v h' ⟨rfl, rfl⟩
  exact wq_f (by decide) (wq_eq q_42_48 (wq_wr hm (Nat.le_of_ble_eq_true rfl) (wq_gI up_eq rfl (wq_f (by decide) (wq_some (rI_i rP_up))))))
theorem r_until {a : Int32} (hm : h.1 m = some (11, rF m)) : wq (vc lim (d + 5) m_Ref_until [aR m, aI a] h) (rJ fun _ => rP m 1 h) := by
  refine wq_eq e_Ref_until (wq_at hm (wq_cI (r_noP hm) ?_))
  rintro v h' ⟨rfl, rfl⟩
  exact wq_f (by decide) (wq_eq q_43_14 (wq_wr hm (Nat.le_of_ble_eq_true rfl) (wq_gI up_eq rfl (wq_f (by decide) (wq_some (rJ_i rP_up))))))
theorem r_act {a b : Int32} (hm : h.1 m = some (11, rF m)) : wq (vc lim (d + 5) m_Ref_act [aR m, aI a, aI b] h) (rI fun _ => rP m 1 h) := by
  have key : wq (ah_val lim ah_P (d + 4) 45 31 [some (.inr (.inr (some m))), some (.inl a), some (.inl b)] [.inl (1 : Int32), .inr (.inr (some m))] h) (rI fun _ => rP m 1 h) := wq_eq q_45_31 (wq_wr hm (Nat.le_of_ble_eq_true rfl) (wq_gI up_eq rfl (wq_f (by decide) (wq_some (rI_i rP_up)))))
  exact wq_eq e_Ref_act (wq_if _ (fun _ => key) (fun hn => wq_gI hm rfl (wq_f hn key)))
theorem r_wave {a b : Int32} (hm : h.1 m = some (11, rF m)) : wq (vc lim (d + 1) m_Ref_wave [aR m, aI a, aI b] h) (rI fun v h' => v = -1 ∧ h' = h) := wq_eq e_Ref_wave (wq_if _ (fun _ => wq_some (rI_i ⟨rfl, rfl⟩)) (fun hn => wq_gI hm rfl (wq_f hn (wq_some (rI_i ⟨rfl, rfl⟩)))))
theorem r_value {a b c : Int32} (hm : h.1 m = some (11, rF m)) : wq (vc lim (d + 5) m_Ref_value [aR m, aI a, aI b, aI c] h) (rI fun _ => rP m 1 h) := by
  refine wq_eq e_Ref_value (wq_at hm (wq_cI (r_wave hm) ?_))
  rintro v h' ⟨rfl, rfl⟩
  exact wq_t rfl (wq_eq q_47_29 (wq_wr hm (Nat.le_of_ble_eq_true rfl) (wq_gI up_eq rfl (wq_f (by decide) (wq_some (rI_i rP_up))))))
theorem r_delay {a b : Int32} (hm : h.1 m = some (11, rF m)) : wq (vc lim (d + 5) m_Ref_delay [aR m, aI a, aI b] h) (rJ fun _ => rP m 1 h) := by
  have key : wq (ah_val lim ah_P (d + 4) 48 25 [some (.inr (.inr (some m))), some (.inl a), some (.inl b), none, none] [] h) (rJ fun _ => rP m 1 h) := wq_eq q_48_25 (wq_t rfl (wq_eq q_48_41 (wq_t rfl (wq_eq q_48_64 (wq_wr hm (Nat.le_of_ble_eq_true rfl) (wq_gI up_eq rfl (wq_f (by decide) (wq_some (rJ_i rP_up)))))))))
  exact wq_eq e_Ref_delay (wq_if _ (fun _ => key) (fun hn => wq_gI hm rfl (wq_f hn key)))
theorem r_processes (hm : h.1 m = some (11, rF m)) : wq (vc lim (d + 5) m_Ref_processes [aR m] h) (rI fun v h' => v = 0 ∧ rP m 0 h h') := wq_eq e_Ref_processes (wq_wr hm (Nat.le_of_ble_eq_true rfl) (wq_gI up_eq rfl (wq_some (rI_i ⟨rfl, rP_up⟩))))
theorem r_acts (hm : h.1 m = some (11, rF m)) : wq (vc lim (d + 5) m_Ref_acts [aR m] h) (rI fun v h' => v = 0 ∧ rP m 0 h h') := wq_eq e_Ref_acts (wq_wr hm (Nat.le_of_ble_eq_true rfl) (wq_gI up_eq rfl (wq_some (rI_i ⟨rfl, rP_up⟩))))
theorem r_process (hm : h.1 m = some (11, rF m)) : wq (vc lim (d + 5) m_Ref_process [aR m] h) (rI fun v h' => v = -1 ∧ rP m 0 h h') := by
  refine wq_eq e_Ref_process (wq_gI hm rfl (wq_f (by decide) (wq_gI hm rfl (wq_gI hm rfl (wq_t (by decide) (wq_wr hm (Nat.le_of_ble_eq_true rfl) (wq_gI up_eq rfl (wq_t (by decide) ?_))))))))
  refine wq_eq q_37_44 (wq_gI up_eq rfl (wq_f (by decide) (wq_eq q_37_66 (wq_gI up_eq rfl (wq_f (by decide) (wq_gI up_eq rfl (wq_f (by decide) (wq_gI up_eq rfl (wq_t rfl (wq_eq q_37_124 (wq_t (by decide) (wq_wr up_eq (Nat.le_of_ble_eq_true rfl) (wq_wr up_eq (Nat.le_of_ble_eq_true rfl) (wq_wr up_eq (Nat.le_of_ble_eq_true rfl) (wq_some (rI_i ⟨rfl, ⟨_, up_eq, rfl⟩, ?_⟩))))))))))))))))
  exact hk_cast (hk_trans (hk_trans (hk_trans (hk_up ⟨by omega, by omega⟩) (hk_up ⟨by omega, by omega⟩)) (hk_up ⟨by omega, by omega⟩)) (hk_up ⟨by omega, by omega⟩)) rfl rfl
/-! an object's record -/
theorem r_setEl {fs : List AV} {o k v : Int32} {B : Nat} (hm : h.1 m = some (11, fs)) (h6 : fs[6]? = some (aR (m + 6))) (ha : arrs m h) (hi : (64 : Int32) * o + k = Nat.toInt32 B) (hB : B < 646400) : wq (vc lim (d + 1) m_Ref_setElement [aR m, aI o, aI k, aI v] h) (rV fun h' => ∃ vs', vs'.length = 646400 ∧ h' = ah_up h (m + 6) (103, vs')) := by
  obtain ⟨vs, e1, e2⟩ := ha 5 _ (by omega) rfl
  have e1 : h.1 (m + 6) = some (103, vs) := e1
  have e2 : vs.length = 646400 := e2
  refine wq_eq e_Ref_setElement (wq_gR hm h6 (wq_sI e1 ?_ ?_ (wq_some (rV_i ⟨_, ?_, rfl⟩))))
  · rw [hi]; exact i32_0 (by omega)
  · rw [hi, show (Nat.toInt32 B).toNatClampNeg = B from Int32.toNatClampNeg_ofNat_of_lt (by omega)]; omega
  · rw [List.length_set]; exact e2
theorem r_loop {fs : List AV} {o : Int32} {B : Nat} (h6 : fs[6]? = some (aR (m + 6))) (ho : (64 : Int32) * o = Nat.toInt32 B) (hB : B + 64 ≤ 646400) : ∀ (k i : Nat) (h : ah_H), i + k = 64 → h.1 m = some (11, fs) → arrs m h → wq (ah_val lim ah_P (d + 1) 26 60 [some (.inr (.inr (some m))), some (.inl o), none, none, none, some (.inl (Nat.toInt32 i))] [] h) (rV fun h' => h'.1 m = some (11, fs) ∧ arrs m h' ∧ hk (refR m) 0 0 h h') := by
  intro k
  induction k with
  | zero =>
    intro i h hi hm ha
    have : i = 64 := by omega
    subst this
    exact wq_eq q_26_60 (wq_f (by decide) (wq_some (rV_i ⟨hm, ha, hk_refl⟩)))
  | succ k ih =>
    intro i h hi hm ha
    refine wq_eq q_26_60 (wq_t (i32_t (i := i) (n := 64) (by omega) (by omega)) (wq_at hm (wq_cV (r_setEl (B := B + i) hm h6 ha (by rw [ho]; exact (Int32.ofNat_add B i).symm) (by omega)) ?_)))
    rintro h1 ⟨vs', l1, rfl⟩
    rw [show Nat.toInt32 i + 1 = Nat.toInt32 (i + 1) from (Int32.ofNat_add i 1).symm]
    refine wq_mono (ih (i + 1) _ (by omega) (up_ne (by omega) hm) (arrs_up (j0 := 5) ha rfl l1)) ?_
    rintro z ⟨h', rfl, g1, g2, g3⟩
    exact ⟨h', rfl, g1, g2, hk_cast (hk_trans (hk_up ⟨by omega, by omega⟩) g3) rfl rfl⟩
theorem r_make {fs : List AV} {o c a b : Int32} {n B : Nat} (hm : h.1 m = some (11, fs)) (g1 : fs[1]? = some (aR (m + 1))) (g2 : fs[2]? = some (aR (m + 2))) (g3 : fs[3]? = some (aR (m + 3))) (g4 : fs[4]? = some (aR (m + 4))) (g5 : fs[5]? = some (aR (m + 5))) (g6 : fs[6]? = some (aR (m + 6))) (ha : arrs m h) (hj : ¬ o < 0) (hn : o.toNatClampNeg = n) (hn2 : n < 10100) (ho : (64 : Int32) * o = Nat.toInt32 B) (hB : B + 64 ≤ 646400) :
    wq (vc lim (d + 2) m_Ref_make [aR m, aI o, aI c, aI a, aI b] h) (rV fun h' => h'.1 m = some (11, fs) ∧ arrs m h' ∧ hk (refR m) 0 0 h h') := by
  obtain ⟨v1, e1, l1⟩ := ha 0 _ (by omega) rfl
  have lt : ∀ {vs : List AV}, vs.length = 10100 → o.toNatClampNeg < vs.length := fun {vs} h => by rw [h, hn]; exact hn2
  refine wq_eq e_Ref_make (wq_gR hm g1 (wq_sI e1 hj (lt l1) ?_))
  have a1 := arrs_up (j0 := 0) (vs' := v1.set o.toNatClampNeg (.inl c.toInt8.toInt32.toInt8.toInt32)) ha rfl (by rw [List.length_set]; exact l1)
  have m1 : (ah_up h (m + 1) (103, v1.set o.toNatClampNeg (.inl c.toInt8.toInt32.toInt8.toInt32))).1 m = some (11, fs) := up_ne (by omega) hm
  have k1 : hk (refR m) 0 0 h (ah_up h (m + 1) (103, v1.set o.toNatClampNeg (.inl c.toInt8.toInt32.toInt8.toInt32))) := hk_up ⟨by omega, by omega⟩
  generalize (ah_up h (m + 1) (103, v1.set o.toNatClampNeg (.inl c.toInt8.toInt32.toInt8.toInt32))) = H1 at a1 m1 k1 ⊢
  have key : ∀ s : Int32, wq (ah_val lim ah_P (d + 1) 26 23 [some (.inr (.inr (some m))), some (.inl o), some (.inl c), some (.inl a), some (.inl b), none] [.inl s, .inl o, .inr (.inr (some (m + 2)))] H1) (rV fun h' => h'.1 m = some (11, fs) ∧ arrs m h' ∧ hk (refR m) 0 0 h h') := by
    intro s
    obtain ⟨v2, e2, l2⟩ := a1 1 _ (by omega) rfl
    refine wq_eq q_26_23 (wq_sI e2 hj (lt l2) ?_)
    have a2 := arrs_up (j0 := 1) (vs' := v2.set o.toNatClampNeg (.inl s.toInt8.toInt32.toInt8.toInt32)) a1 rfl (by rw [List.length_set]; exact l2)
    have m2 : (ah_up H1 (m + 2) (103, v2.set o.toNatClampNeg (.inl s.toInt8.toInt32.toInt8.toInt32))).1 m = some (11, fs) := up_ne (by omega) m1
    have k2 : hk (refR m) 0 0 h (ah_up H1 (m + 2) (103, v2.set o.toNatClampNeg (.inl s.toInt8.toInt32.toInt8.toInt32))) := hk_cast (hk_trans k1 (hk_up ⟨by omega, by omega⟩)) rfl rfl
    generalize (ah_up H1 (m + 2) (103, v2.set o.toNatClampNeg (.inl s.toInt8.toInt32.toInt8.toInt32))) = H2 at a2 m2 k2 ⊢
    obtain ⟨v3, e3, l3⟩ := a2 2 _ (by omega) rfl
    refine wq_gR m2 g3 (wq_sI e3 hj (lt l3) ?_)
    have a3 := arrs_up (j0 := 2) (vs' := v3.set o.toNatClampNeg (.inl a)) a2 rfl (by rw [List.length_set]; exact l3)
    have m3 : (ah_up H2 (m + 3) (100, v3.set o.toNatClampNeg (.inl a))).1 m = some (11, fs) := up_ne (by omega) m2
    have k3 : hk (refR m) 0 0 h (ah_up H2 (m + 3) (100, v3.set o.toNatClampNeg (.inl a))) := hk_cast (hk_trans k2 (hk_up ⟨by omega, by omega⟩)) rfl rfl
    generalize (ah_up H2 (m + 3) (100, v3.set o.toNatClampNeg (.inl a))) = H3 at a3 m3 k3 ⊢
    obtain ⟨v4, e4, l4⟩ := a3 3 _ (by omega) rfl
    refine wq_gR m3 g4 (wq_sI e4 hj (lt l4) ?_)
    have a4 := arrs_up (j0 := 3) (vs' := v4.set o.toNatClampNeg (.inl b)) a3 rfl (by rw [List.length_set]; exact l4)
    have m4 : (ah_up H3 (m + 4) (100, v4.set o.toNatClampNeg (.inl b))).1 m = some (11, fs) := up_ne (by omega) m3
    have k4 : hk (refR m) 0 0 h (ah_up H3 (m + 4) (100, v4.set o.toNatClampNeg (.inl b))) := hk_cast (hk_trans k3 (hk_up ⟨by omega, by omega⟩)) rfl rfl
    generalize (ah_up H3 (m + 4) (100, v4.set o.toNatClampNeg (.inl b))) = H4 at a4 m4 k4 ⊢
    obtain ⟨v5, e5, l5⟩ := a4 4 _ (by omega) rfl
    have fin : ∀ j : AV, wq (ah_val lim ah_P (d + 1) 26 60 [some (.inr (.inr (some m))), some (.inl o), none, none, none, some (.inl (0 : Int32))] [] (ah_up H4 (m + 5) (101, v5.set o.toNatClampNeg j))) (rV fun h' => h'.1 m = some (11, fs) ∧ arrs m h' ∧ hk (refR m) 0 0 h h') := by
      intro j
      refine wq_mono (r_loop g6 ho hB 64 0 _ rfl (up_ne (by omega) m4) (arrs_up (j0 := 4) a4 rfl (by rw [List.length_set]; exact l5))) ?_
      rintro z ⟨h', rfl, w1, w2, w3⟩
      exact ⟨h', rfl, w1, w2, hk_cast (hk_trans (hk_trans k4 (hk_up ⟨by omega, by omega⟩)) w3) rfl rfl⟩
    exact wq_gR m4 g5 (wq_if _ (fun _ => wq_sI e5 hj (lt l5) (fin _)) (fun _ => wq_sI e5 hj (lt l5) (fin _)))
  exact wq_gR m1 g2 (wq_if _ (fun _ => key _) (fun _ => key _))
theorem r_signal1 {c a b : Int32} (hm : h.1 m = some (11, rF m)) (ha : arrs m h) (hcan : can c a b) : wq (vc lim (d + 5) m_Ref_signal [aR m, aI c, aI a, aI b] h) (rI fun v h' => v = 0 ∧ rP m 0 h h') := by
  refine wq_eq e_Ref_signal (wq_cI c_noKind ?_)
  rintro v h' ⟨rfl, ⟨rfl, -⟩ | ⟨rfl, hn⟩⟩
  · refine wq_t rfl (wq_gI hm rfl (wq_f (by decide) (wq_eq q_27_29 (wq_wr hm (Nat.le_of_ble_eq_true rfl) (wq_gI up_eq rfl (wq_t (by decide) (wq_gI up_eq rfl (wq_at up_eq (wq_cV (r_make (n := 0) (B := 0) up_eq rfl rfl rfl rfl rfl rfl (arrs_m ha) (by decide) (by decide) (by omega) (by decide) (by omega)) ?_)))))))))
    rintro h4 ⟨w1, w2, w3⟩
    refine wq_gI w1 rfl (wq_at w1 (wq_cV (r_make (n := 512) (B := 32768) w1 rfl rfl rfl rfl rfl rfl w2 (by decide) (by decide) (by omega) (by decide) (by omega)) ?_))
    rintro h6 ⟨y1, y2, y3⟩
    refine wq_gI y1 rfl (wq_wr y1 (Nat.le_of_ble_eq_true rfl) (wq_gI up_eq rfl (wq_some (rI_i ⟨by decide, ⟨_, up_eq, rfl⟩, ?_⟩))))
    exact hk_cast (hk_trans (hk_trans (hk_trans (hk_up ⟨by omega, by omega⟩) w3) y3) (hk_up ⟨by omega, by omega⟩)) rfl rfl
  · exact absurd hcan hn
theorem r_signal0 {c a b : Int32} (hm : h.1 m = some (11, rF m)) (hcan : ¬ can c a b) : wq (vc lim (d + 5) m_Ref_signal [aR m, aI c, aI a, aI b] h) (rI fun _ => rP m 1 h) := by
  refine wq_eq e_Ref_signal (wq_cI c_noKind ?_)
  rintro v h' ⟨rfl, ⟨rfl, hn⟩ | ⟨rfl, -⟩⟩
  · exact absurd hn hcan
  · exact wq_f (by decide) (wq_eq q_27_29 (wq_wr hm (Nat.le_of_ble_eq_true rfl) (wq_gI up_eq rfl (wq_f (by decide) (wq_some (rI_i rP_up))))))
theorem r_variable1 {c a b : Int32} (hm : h.1 m = some (11, rF m)) (ha : arrs m h) (hcan : can c a b) : wq (vc lim (d + 5) m_Ref_variable [aR m, aI c, aI a, aI b] h) (rI fun v h' => v = 0 ∧ rP m 0 h h') := by
  refine wq_eq e_Ref_variable (wq_cI c_noKind ?_)
  rintro v h' ⟨rfl, ⟨rfl, -⟩ | ⟨rfl, hn⟩⟩
  · refine wq_t rfl (wq_gI hm rfl (wq_f (by decide) (wq_eq q_28_29 (wq_wr hm (Nat.le_of_ble_eq_true rfl) (wq_gI up_eq rfl (wq_t (by decide) (wq_gI up_eq rfl (wq_at up_eq (wq_cV (r_make (n := 9216) (B := 589824) up_eq rfl rfl rfl rfl rfl rfl (arrs_m ha) (by decide) (by decide) (by omega) (by decide) (by omega)) ?_)))))))))
    rintro h4 ⟨w1, w2, w3⟩
    refine wq_gI w1 rfl (wq_wr w1 (Nat.le_of_ble_eq_true rfl) (wq_gI up_eq rfl (wq_some (rI_i ⟨by decide, ⟨_, up_eq, rfl⟩, ?_⟩))))
    exact hk_cast (hk_trans (hk_trans (hk_up ⟨by omega, by omega⟩) w3) (hk_up ⟨by omega, by omega⟩)) rfl rfl
  · exact absurd hcan hn
theorem r_variable0 {c a b : Int32} (hm : h.1 m = some (11, rF m)) (hcan : ¬ can c a b) : wq (vc lim (d + 5) m_Ref_variable [aR m, aI c, aI a, aI b] h) (rI fun _ => rP m 1 h) := by
  refine wq_eq e_Ref_variable (wq_cI c_noKind ?_)
  rintro v h' ⟨rfl, ⟨rfl, hn⟩ | ⟨rfl, -⟩⟩
  · exact absurd hn hcan
  · exact wq_f (by decide) (wq_eq q_28_29 (wq_wr hm (Nat.le_of_ble_eq_true rfl) (wq_gI up_eq rfl (wq_f (by decide) (wq_some (rI_i rP_up))))))
end Rf
