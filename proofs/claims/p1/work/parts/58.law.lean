/-! THE LAW'S CASES (by program) -/
theorem wq_hx {lim : Nat × Nat} {d y pc t : Nat} {L : ah_L} {h h' : ah_H} {e : Nat × Nat} {Φ : ah_R → Prop} {M : ah_M} (h1 : h'.2.2.2 = h.2.2.2) (h2 : h'.2.1 = h.2.1 + 1) (hM : ah_P y = some M) (hc : ah_catch M.2.2.1 pc e.1 = some t) (k : wq (ah_val lim ah_P d y t L [.inr (.inr (some e.2))] h') Φ) : wq (ah_hx lim d y pc L h e h') Φ := by
  refine wq_eq ?_ k
  unfold ah_hx
  rw [h1, h2, hM]
  dsimp only
  rw [hc]
  simp
abbrev scr (xs : Nat → Int32) : List AV := [aI (xs 0), aI (xs 1), aI (xs 2), aI (xs 3), aI (xs 4)]
theorem sc0 {xs : Nat → Int32} : (scr xs)[(0 : Int32).toNatClampNeg]? = some (.inl (xs 0)) := by rw [show (0 : Int32).toNatClampNeg = 0 by decide]; rfl
theorem sc1 {xs : Nat → Int32} : (scr xs)[((0 : Int32) + (1 : Int32)).toNatClampNeg]? = some (.inl (xs 1)) := by rw [show ((0 : Int32) + (1 : Int32)).toNatClampNeg = 1 by decide]; rfl
theorem sc2 {xs : Nat → Int32} : (scr xs)[((0 : Int32) + (2 : Int32)).toNatClampNeg]? = some (.inl (xs 2)) := by rw [show ((0 : Int32) + (2 : Int32)).toNatClampNeg = 2 by decide]; rfl
theorem sc3 {xs : Nat → Int32} : (scr xs)[((0 : Int32) + (3 : Int32)).toNatClampNeg]? = some (.inl (xs 3)) := by rw [show ((0 : Int32) + (3 : Int32)).toNatClampNeg = 3 by decide]; rfl
theorem sc4 {xs : Nat → Int32} : (scr xs)[((0 : Int32) + (4 : Int32)).toNatClampNeg]? = some (.inl (xs 4)) := by rw [show ((0 : Int32) + (4 : Int32)).toNatClampNeg = 4 by decide]; rfl
def lawS (lim : Nat × Nat) (b x m o : Nat) (xs : Nat → Int32) (h : ah_H) : Prop := h.1 b = some (104, scr xs) ∧ fC x h ∧ h.1 m = some (11, rF m) ∧ arrs m h ∧ h.1 o = some (101, [aJ 0]) ∧ b < x ∧ m = x + 656 ∧ o = m + 40 ∧ h.2.1 = o + 1 ∧ rm lim h
section Lw
variable {lim : Nat × Nat} {d : Nat} {h : ah_H} {b x m o : Nat} {xs : Nat → Int32}
theorem l_end {vs : List AV} (hb : h.1 b = some (104, vs)) (hl : vs.length = 5) : wq (ah_val lim ah_P d 93 1368 [some (.inr (.inr (some b))), some (.inr (.inr (some x))), some (.inr (.inr (some m))), some (.inr (.inr (some o))), some (.inl (0 : Int32)), none, none, none] [] h) (rI fun v _ => v = 1) := by
  refine wq_eq q_93_1368 (wq_eq q_93_23 (wq_len hb (by decide) ?_))
  rw [hl]
  exact wq_f (by decide) (wq_1 (wq_some (rI_i rfl)))
theorem L_get {a c : Int32} (hf : fC x h) (hr : rm lim h) : wq (vc lim (d + 6) m_Law_get [aR x, aI a, aI c, aR o] h) (rI fun k h' => k = 1 ∧ h' = ah_new h (202, []) 6) := by
  refine wq_eq e_Law_get (wq_at hf.1 (wq_cIx (c_get hf hr) ?_))
  rintro q h' ⟨rfl, rfl⟩
  exact wq_hx rfl rfl hM_82 rfl (wq_eq q_82_13 (wq_some (rI_i ⟨rfl, rfl⟩)))
theorem L_variableOf {a c e : Int32} (hf : fC x h) (hr : rm lim h) : wq (vc lim (d + 6) m_Law_variableOf [aR x, aI a, aI c, aI e, aR o] h) (rI fun k h' => k = 1 ∧ h' = ah_new h (202, []) 6) := by
  refine wq_eq e_Law_variableOf (wq_at hf.1 (wq_cIx (c_variableOf hf hr) ?_))
  rintro q h' ⟨rfl, rfl⟩
  exact wq_hx rfl rfl hM_84 rfl (wq_eq q_84_15 (wq_some (rI_i ⟨rfl, rfl⟩)))
theorem L_resume {a c : Int32} (hf : fC x h) (hr : rm lim h) : wq (vc lim (d + 6) m_Law_resume [aR x, aI a, aI c, aR o] h) (rI fun k h' => k = 1 ∧ h' = ah_new h (202, []) 6) := by
  refine wq_eq e_Law_resume (wq_at hf.1 (wq_cIx (c_resume hf hr) ?_))
  rintro q h' ⟨rfl, rfl⟩
  exact wq_hx rfl rfl hM_85 rfl (wq_eq q_85_13 (wq_some (rI_i ⟨rfl, rfl⟩)))
theorem L_holds {a : Int32} (hf : fC x h) (hr : rm lim h) : wq (vc lim (d + 6) m_Law_holds [aR x, aI a, aR o] h) (rI fun k h' => k = 1 ∧ h' = ah_new h (202, []) 6) := by
  refine wq_eq e_Law_holds (wq_at hf.1 (wq_cIx (c_holds hf hr) ?_))
  rintro q h' ⟨rfl, rfl⟩
  exact wq_hx rfl rfl hM_86 rfl (wq_eq q_86_12 (wq_some (rI_i ⟨rfl, rfl⟩)))
theorem L_about {a c : Int32} (hf : fC x h) (hr : rm lim h) : wq (vc lim (d + 6) m_Law_about [aR x, aI a, aI c, aR o] h) (rI fun k h' => k = 1 ∧ h' = ah_new h (202, []) 6) := by
  refine wq_eq e_Law_about (wq_at hf.1 (wq_cIx (c_about hf hr) ?_))
  rintro q h' ⟨rfl, rfl⟩
  exact wq_hx rfl rfl hM_87 rfl (wq_eq q_87_13 (wq_some (rI_i ⟨rfl, rfl⟩)))
theorem L_waits {a c : Int32} (hf : fC x h) (hr : rm lim h) : wq (vc lim (d + 6) m_Law_waits [aR x, aI a, aI c, aR o] h) (rI fun k h' => k = 1 ∧ h' = ah_new h (202, []) 6) := by
  refine wq_eq e_Law_waits (wq_at hf.1 (wq_cIx (c_waits hf hr) ?_))
  rintro q h' ⟨rfl, rfl⟩
  exact wq_hx rfl rfl hM_88 rfl (wq_eq q_88_13 (wq_some (rI_i ⟨rfl, rfl⟩)))
theorem L_until {a : Int32} (hf : fC x h) (hr : rm lim h) : wq (vc lim (d + 6) m_Law_until [aR x, aI a, aR o] h) (rI fun k h' => k = 1 ∧ h' = ah_new h (202, []) 6) := by
  refine wq_eq e_Law_until (wq_at hf.1 (wq_cJx (c_until hf hr) ?_))
  rintro q h' ⟨rfl, rfl⟩
  exact wq_hx rfl rfl hM_89 rfl (wq_eq q_89_11 (wq_some (rI_i ⟨rfl, rfl⟩)))
theorem L_act {a c : Int32} (hf : fC x h) (hr : rm lim h) : wq (vc lim (d + 6) m_Law_act [aR x, aI a, aI c, aR o] h) (rI fun k h' => k = 1 ∧ h' = ah_new h (202, []) 6) := by
  refine wq_eq e_Law_act (wq_at hf.1 (wq_cIx (c_act hf hr) ?_))
  rintro q h' ⟨rfl, rfl⟩
  exact wq_hx rfl rfl hM_90 rfl (wq_eq q_90_13 (wq_some (rI_i ⟨rfl, rfl⟩)))
theorem L_value {a c e : Int32} (hf : fC x h) (hr : rm lim h) : wq (vc lim (d + 6) m_Law_value [aR x, aI a, aI c, aI e, aR o] h) (rI fun k h' => k = 1 ∧ h' = ah_new h (202, []) 6) := by
  refine wq_eq e_Law_value (wq_at hf.1 (wq_cIx (c_value hf hr) ?_))
  rintro q h' ⟨rfl, rfl⟩
  exact wq_hx rfl rfl hM_91 rfl (wq_eq q_91_15 (wq_some (rI_i ⟨rfl, rfl⟩)))
theorem L_delay {a c : Int32} (hf : fC x h) (hr : rm lim h) : wq (vc lim (d + 6) m_Law_delay [aR x, aI a, aI c, aR o] h) (rI fun k h' => k = 1 ∧ h' = ah_new h (202, []) 6) := by
  refine wq_eq e_Law_delay (wq_at hf.1 (wq_cJx (c_delay hf hr) ?_))
  rintro q h' ⟨rfl, rfl⟩
  exact wq_hx rfl rfl hM_92 rfl (wq_eq q_92_12 (wq_some (rI_i ⟨rfl, rfl⟩)))
theorem L_put {a c e g : Int32} (hf : fC x h) (hr : rm lim h) : wq (vc lim (d + 6) m_Law_put [aR x, aI a, aI c, aI e, aI g] h) (rI fun k h' => k = 1 ∧ h' = ah_new h (202, []) 6) := by
  refine wq_eq e_Law_put (wq_at hf.1 (wq_cVx (c_put hf hr) ?_))
  rintro q h' ⟨rfl, rfl⟩
  exact wq_hx rfl rfl hM_80 rfl (wq_eq q_80_12 (wq_some (rI_i ⟨rfl, rfl⟩)))
theorem L_mark {a c e : Int32} (hf : fC x h) (hr : rm lim h) : wq (vc lim (d + 6) m_Law_mark [aR x, aI a, aI c, aI e] h) (rI fun k h' => k = 1 ∧ h' = ah_new h (202, []) 6) := by
  refine wq_eq e_Law_mark (wq_at hf.1 (wq_cVx (c_mark hf hr) ?_))
  rintro q h' ⟨rfl, rfl⟩
  exact wq_hx rfl rfl hM_81 rfl (wq_eq q_81_10 (wq_some (rI_i ⟨rfl, rfl⟩)))
theorem L_set {a c e g : Int32} (hf : fC x h) (hr : rm lim h) : wq (vc lim (d + 6) m_Law_set [aR x, aI a, aI c, aI e, aI g] h) (rI fun k h' => k = 1 ∧ h' = ah_new h (202, []) 6) := by
  refine wq_eq e_Law_set (wq_at hf.1 (wq_cVx (c_set hf hr) ?_))
  rintro q h' ⟨rfl, rfl⟩
  exact wq_hx rfl rfl hM_83 rfl (wq_eq q_83_12 (wq_some (rI_i ⟨rfl, rfl⟩)))
theorem L_signal0 {a c e : Int32} (hf : fC x h) (hr : rm lim h) (hn : ¬ can a c e) : wq (vc lim (d + 6) m_Law_signal [aR x, aI a, aI c, aI e, aR o] h) (rI fun k h' => k = 1 ∧ h' = ah_new h (200, []) 6) := by
  refine wq_eq e_Law_signal (wq_at hf.1 (wq_cIx (c_signal0 hr hn) ?_))
  rintro q h' ⟨rfl, rfl⟩
  exact wq_hx rfl rfl hM_76 rfl (wq_eq q_76_15 (wq_some (rI_i ⟨rfl, rfl⟩)))
theorem L_variable0 {a c e : Int32} (hf : fC x h) (hr : rm lim h) (hn : ¬ can a c e) : wq (vc lim (d + 6) m_Law_variable [aR x, aI a, aI c, aI e, aR o] h) (rI fun k h' => k = 1 ∧ h' = ah_new h (200, []) 6) := by
  refine wq_eq e_Law_variable (wq_at hf.1 (wq_cIx (c_variable0 hr hn) ?_))
  rintro q h' ⟨rfl, rfl⟩
  exact wq_hx rfl rfl hM_77 rfl (wq_eq q_77_15 (wq_some (rI_i ⟨rfl, rfl⟩)))
theorem L_add0 {a c e : Int32} (hf : fC x h) (hr : rm lim h) (hn : ¬ addable a e) : wq (vc lim (d + 6) m_Law_add [aR x, aI a, aI c, aI e, aR o] h) (rI fun k h' => k = 1 ∧ h' = ah_new h (200, []) 6) := by
  refine wq_eq e_Law_add (wq_at hf.1 (wq_cIx (c_add0 hf hr hn) ?_))
  rintro q h' ⟨rfl, rfl⟩
  exact wq_hx rfl rfl hM_78 rfl (wq_eq q_78_15 (wq_some (rI_i ⟨rfl, rfl⟩)))
theorem L_signal1 {a c e : Int32} (hs : lawS lim b x m o xs h) (hn : can a c e) : wq (vc lim (d + 6) m_Law_signal [aR x, aI a, aI c, aI e, aR o] h) (rI fun k h' => k = 0 ∧ ∃ h1, kC x h h1 ∧ h' = ah_up h1 o (101, [aJ (0 : Int32).toInt64])) := by
  obtain ⟨hb, hf, hm, ha, ho, o1, o2, o3, o4, hr⟩ := hs
  refine wq_eq e_Law_signal (wq_at hf.1 (wq_cI (c_signal1 hf (by omega) hr hn) ?_))
  rintro v h1 ⟨rfl, k⟩
  obtain ⟨c0, n0, -, -, k1, k2, k3⟩ := id k
  have ho1 : h1.1 o = some (101, [aJ 0]) := (k1 o (by omega) (fun hh => by have := hh.2; omega)).trans ho
  exact wq_sI ho1 (by decide) (by decide) (wq_some (rI_i ⟨rfl, h1, k, rfl⟩))
theorem L_variable1 {a c e : Int32} (hs : lawS lim b x m o xs h) (hn : can a c e) : wq (vc lim (d + 6) m_Law_variable [aR x, aI a, aI c, aI e, aR o] h) (rI fun k h' => k = 0 ∧ ∃ h1, kC x h h1 ∧ h' = ah_up h1 o (101, [aJ (0 : Int32).toInt64])) := by
  obtain ⟨hb, hf, hm, ha, ho, o1, o2, o3, o4, hr⟩ := hs
  refine wq_eq e_Law_variable (wq_at hf.1 (wq_cI (c_variable1 hf (by omega) hr hn) ?_))
  rintro v h1 ⟨rfl, k⟩
  obtain ⟨c0, n0, -, -, k1, k2, k3⟩ := id k
  have ho1 : h1.1 o = some (101, [aJ 0]) := (k1 o (by omega) (fun hh => by have := hh.2; omega)).trans ho
  exact wq_sI ho1 (by decide) (by decide) (wq_some (rI_i ⟨rfl, h1, k, rfl⟩))
theorem L_add1 {a c e : Int32} (hs : lawS lim b x m o xs h) (hn : addable a e) : wq (vc lim (d + 6) m_Law_add [aR x, aI a, aI c, aI e, aR o] h) (rI fun k h' => k = 0 ∧ ∃ h1, kC x h h1 ∧ h' = ah_up h1 o (101, [aJ (0 : Int32).toInt64])) := by
  obtain ⟨hb, hf, hm, ha, ho, o1, o2, o3, o4, hr⟩ := hs
  refine wq_eq e_Law_add (wq_at hf.1 (wq_cI (c_add1 hf (by omega) hn) ?_))
  rintro v h1 ⟨rfl, k⟩
  obtain ⟨c0, n0, -, -, k1, k2, k3⟩ := id k
  have ho1 : h1.1 o = some (101, [aJ 0]) := (k1 o (by omega) (fun hh => by have := hh.2; omega)).trans ho
  exact wq_sI ho1 (by decide) (by decide) (wq_some (rI_i ⟨rfl, h1, k, rfl⟩))
theorem L_process1 (hs : lawS lim b x m o xs h) : wq (vc lim (d + 6) m_Law_process [aR x, aR o] h) (rI fun k h' => k = 0 ∧ ∃ h1, kC x h h1 ∧ h' = ah_up h1 o (101, [aJ (-1 : Int32).toInt64])) := by
  obtain ⟨hb, hf, hm, ha, ho, o1, o2, o3, o4, hr⟩ := hs
  refine wq_eq e_Law_process (wq_at hf.1 (wq_cI (c_process hf (by omega)) ?_))
  rintro v h1 ⟨rfl, k⟩
  obtain ⟨c0, n0, -, -, k1, k2, k3⟩ := id k
  have ho1 : h1.1 o = some (101, [aJ 0]) := (k1 o (by omega) (fun hh => by have := hh.2; omega)).trans ho
  exact wq_sI ho1 (by decide) (by decide) (wq_some (rI_i ⟨rfl, h1, k, rfl⟩))
theorem r_add0 {a c e : Int32} (hm : h.1 m = some (11, rF m)) (hn : ¬ addable a e) : wq (vc lim (d + 5) m_Ref_add [aR m, aI a, aI c, aI e] h) (rI fun _ => rP m 1 h) := by
  have key : wq (ah_val lim ah_P (d + 4) 36 42 [some (.inr (.inr (some m))), some (.inl a), some (.inl c), some (.inl e), none, none] [.inl (1 : Int32), .inr (.inr (some m))] h) (rI fun _ => rP m 1 h) := wq_eq q_36_42 (wq_wr hm (Nat.le_of_ble_eq_true rfl) (wq_gI up_eq rfl (wq_f (by decide) (wq_some (rI_i rP_up)))))
  exact wq_eq e_Ref_add (wq_if _ (fun _ => key) (fun h1 => wq_if _ (fun h2 => wq_if _ (fun _ => key) (fun h3 => wq_gI hm rfl (wq_if _ (fun h4 => absurd ⟨h1, h2, i32_z h3 h4⟩ hn) (fun _ => key)))) (fun _ => key)))
/-- an array's write at the place i -/
theorem r_st {fs : List AV} {j0 n : Nat} {q0 : Nat × Nat × AV × Nat} {i : Int32} {v : AV} {ρ : Type} {Φ : ρ → Prop} {K : ah_H → Option ρ} {h0 : ah_H} (hm : h.1 m = some (11, fs)) (ha : arrs m h) (k0 : hk (refR m) 0 0 h0 h) (hj : j0 < 39) (hq : tR[j0]? = some q0) (hi : ¬ i < 0) (hn : i.toNatClampNeg = n) (hl : n < q0.2.2.2) (kk : ∀ h', h'.1 m = some (11, fs) → arrs m h' → hk (refR m) 0 0 h0 h' → wq (K h') Φ) : wq (ah_sI h (some (m + 1 + j0)) q0.2.1 i v K) Φ := by
  obtain ⟨w, e, l⟩ := ha j0 q0 hj hq
  refine wq_sI e hi (by rw [hn, l]; exact hl) (kk _ (up_ne (by omega) hm) (arrs_up ha hq (by rw [List.length_set]; exact l)) (hk_cast (hk_trans k0 (hk_up ⟨by omega, by omega⟩)) rfl rfl))
theorem r_add1 {a c e : Int32} (hm : h.1 m = some (11, rF m)) (ha : arrs m h) (hn : addable a e) : wq (vc lim (d + 5) m_Ref_add [aR m, aI a, aI c, aI e] h) (rI fun v h' => v = 0 ∧ rP m 0 h h') := by
  obtain ⟨h1, h2, rfl⟩ := hn
  refine wq_eq e_Ref_add (wq_f h1 (wq_t h2 (wq_f (by decide) (wq_gI hm rfl (wq_t (by decide) (wq_gI hm rfl (wq_f (by decide) ?_)))))))
  refine wq_eq q_36_42 (wq_wr hm (Nat.le_of_ble_eq_true rfl) (wq_gI up_eq rfl (wq_t (by decide) ?_)))
  have m0 : (ah_up h m (11, (rF m).set 0 (aI 0))).1 m = some (11, (rF m).set 0 (aI 0)) := up_eq
  have a0 : arrs m (ah_up h m (11, (rF m).set 0 (aI 0))) := arrs_m ha
  have k0 : hk (refR m) 0 0 h (ah_up h m (11, (rF m).set 0 (aI 0))) := hk_up ⟨by omega, by omega⟩
  generalize ah_up h m (11, (rF m).set 0 (aI 0)) = H0 at m0 a0 k0 ⊢
  refine wq_gR m0 rfl (wq_gI m0 rfl (r_st (j0 := 8) (n := 0) m0 a0 k0 (by omega) rfl (by decide) (by decide) (by decide) (fun H0 m0 a0 k0 => ?_)))
  refine wq_gR m0 rfl (wq_gI m0 rfl (r_st (j0 := 9) (n := 0) m0 a0 k0 (by omega) rfl (by decide) (by decide) (by decide) (fun H0 m0 a0 k0 => ?_)))
  refine wq_gR m0 rfl (wq_gI m0 rfl (r_st (j0 := 10) (n := 0) m0 a0 k0 (by omega) rfl (by decide) (by decide) (by decide) (fun H0 m0 a0 k0 => ?_)))
  refine wq_gR m0 rfl (wq_gI m0 rfl (wq_t rfl (wq_eq q_36_111 (r_st (j0 := 11) (n := 0) m0 a0 k0 (by omega) rfl (by decide) (by decide) (by decide) (fun H0 m0 a0 k0 => ?_)))))
  refine wq_gR m0 rfl (wq_gI m0 rfl (r_st (j0 := 12) (n := 0) m0 a0 k0 (by omega) rfl (by decide) (by decide) (by decide) (fun H0 m0 a0 k0 => ?_)))
  refine wq_gR m0 rfl (wq_gI m0 rfl (r_st (j0 := 13) (n := 0) m0 a0 k0 (by omega) rfl (by decide) (by decide) (by decide) (fun H0 m0 a0 k0 => ?_)))
  refine wq_gR m0 rfl (wq_gI m0 rfl (r_st (j0 := 14) (n := 0) m0 a0 k0 (by omega) rfl (by decide) (by decide) (by decide) (fun H0 m0 a0 k0 => ?_)))
  refine wq_gI m0 rfl (wq_eq q_36_150 (wq_gI m0 rfl (wq_f (by decide) (wq_gI m0 rfl (wq_wr m0 (Nat.le_of_ble_eq_true rfl) ?_)))))
  have m1 : (ah_up H0 m (11, ((rF m).set 0 (aI 0)).set 21 (aI (0 - 0)))).1 m = some (11, ((rF m).set 0 (aI 0)).set 21 (aI (0 - 0))) := up_eq
  have a1 : arrs m (ah_up H0 m (11, ((rF m).set 0 (aI 0)).set 21 (aI (0 - 0)))) := arrs_m a0
  have k1 : hk (refR m) 0 0 h (ah_up H0 m (11, ((rF m).set 0 (aI 0)).set 21 (aI (0 - 0)))) := hk_cast (hk_trans k0 (hk_up ⟨by omega, by omega⟩)) rfl rfl
  refine wq_gR m1 rfl (wq_gI m1 rfl (wq_gI m1 rfl (r_st (j0 := 15) (n := 0) m1 a1 k1 (by omega) rfl (by decide) (by decide) (by decide) (fun H2 m2 a2 k2 => ?_))))
  refine wq_gI m2 rfl (wq_wr m2 (Nat.le_of_ble_eq_true rfl) (wq_gI up_eq rfl (wq_wr up_eq (Nat.le_of_ble_eq_true rfl) (wq_gI up_eq rfl (wq_some (rI_i ⟨by decide, ⟨_, up_eq, rfl⟩, ?_⟩))))))
  exact hk_cast (hk_trans (hk_trans k2 (hk_up ⟨by omega, by omega⟩)) (hk_up ⟨by omega, by omega⟩)) rfl rfl
theorem lc_get (hs : lawS lim b x m o xs h) : wq (ah_val lim ah_P (d + 10) 93 605 [some (.inr (.inr (some b))), some (.inr (.inr (some x))), some (.inr (.inr (some m))), some (.inr (.inr (some o))), some (.inl (0 : Int32)), none, none, none] [] h) (rI fun v _ => v = 1) := by
  obtain ⟨hb, hf, hm, ha, ho, o1, o2, o3, o4, hr⟩ := id hs
  refine wq_eq q_93_605 (wq_lI hb (by decide) sc1 (wq_lI hb (by decide) sc2 (wq_cI (L_get hf hr) ?_)))
  rintro k h3 ⟨rfl, rfl⟩
  have hb3 : (ah_new h (202, []) 6).1 b = some (104, scr xs) := nw_ne (by omega) hb
  have hm3 : (ah_new h (202, []) 6).1 m = some (11, rF m) := nw_ne (by omega) hm
  refine wq_lI hb3 (by decide) sc1 (wq_lI hb3 (by decide) sc2 (wq_at hm3 (wq_cI (r_get hm3) ?_)))
  rintro v h7 ⟨⟨fs, g1, g2⟩, g3⟩
  refine wq_at g1 (wq_cI (r_thrown g1 g2) ?_)
  rintro c h9 ⟨rfl, rfl⟩
  exact wq_t rfl (wq_f (by decide) (l_end (hk_at g3 hb3 (by show b < h.2.1 + 1; omega) (fun hh => by have := hh.1; omega)) rfl))
theorem lc_variableOf (hs : lawS lim b x m o xs h) : wq (ah_val lim ah_P (d + 10) 93 745 [some (.inr (.inr (some b))), some (.inr (.inr (some x))), some (.inr (.inr (some m))), some (.inr (.inr (some o))), some (.inl (0 : Int32)), none, none, none] [] h) (rI fun v _ => v = 1) := by
  obtain ⟨hb, hf, hm, ha, ho, o1, o2, o3, o4, hr⟩ := id hs
  refine wq_eq q_93_745 (wq_lI hb (by decide) sc1 (wq_lI hb (by decide) sc2 (wq_lI hb (by decide) sc3 (wq_cI (L_variableOf hf hr) ?_))))
  rintro k h3 ⟨rfl, rfl⟩
  have hb3 : (ah_new h (202, []) 6).1 b = some (104, scr xs) := nw_ne (by omega) hb
  have hm3 : (ah_new h (202, []) 6).1 m = some (11, rF m) := nw_ne (by omega) hm
  refine wq_lI hb3 (by decide) sc1 (wq_lI hb3 (by decide) sc2 (wq_lI hb3 (by decide) sc3 (wq_at hm3 (wq_cI (r_variableOf hm3) ?_))))
  rintro v h7 ⟨⟨fs, g1, g2⟩, g3⟩
  refine wq_at g1 (wq_cI (r_thrown g1 g2) ?_)
  rintro c h9 ⟨rfl, rfl⟩
  exact wq_t rfl (wq_f (by decide) (l_end (hk_at g3 hb3 (by show b < h.2.1 + 1; omega) (fun hh => by have := hh.1; omega)) rfl))
theorem lc_resume (hs : lawS lim b x m o xs h) : wq (ah_val lim ah_P (d + 10) 93 825 [some (.inr (.inr (some b))), some (.inr (.inr (some x))), some (.inr (.inr (some m))), some (.inr (.inr (some o))), some (.inl (0 : Int32)), none, none, none] [] h) (rI fun v _ => v = 1) := by
  obtain ⟨hb, hf, hm, ha, ho, o1, o2, o3, o4, hr⟩ := id hs
  refine wq_eq q_93_825 (wq_lI hb (by decide) sc1 (wq_lI hb (by decide) sc2 (wq_cI (L_resume hf hr) ?_)))
  rintro k h3 ⟨rfl, rfl⟩
  have hb3 : (ah_new h (202, []) 6).1 b = some (104, scr xs) := nw_ne (by omega) hb
  have hm3 : (ah_new h (202, []) 6).1 m = some (11, rF m) := nw_ne (by omega) hm
  refine wq_lI hb3 (by decide) sc1 (wq_lI hb3 (by decide) sc2 (wq_at hm3 (wq_cI (r_resume hm3) ?_)))
  rintro v h7 ⟨⟨fs, g1, g2⟩, g3⟩
  refine wq_at g1 (wq_cI (r_thrown g1 g2) ?_)
  rintro c h9 ⟨rfl, rfl⟩
  exact wq_t rfl (wq_f (by decide) (l_end (hk_at g3 hb3 (by show b < h.2.1 + 1; omega) (fun hh => by have := hh.1; omega)) rfl))
theorem lc_holds (hs : lawS lim b x m o xs h) : wq (ah_val lim ah_P (d + 10) 93 893 [some (.inr (.inr (some b))), some (.inr (.inr (some x))), some (.inr (.inr (some m))), some (.inr (.inr (some o))), some (.inl (0 : Int32)), none, none, none] [] h) (rI fun v _ => v = 1) := by
  obtain ⟨hb, hf, hm, ha, ho, o1, o2, o3, o4, hr⟩ := id hs
  refine wq_eq q_93_893 (wq_lI hb (by decide) sc1 (wq_cI (L_holds hf hr) ?_))
  rintro k h3 ⟨rfl, rfl⟩
  have hb3 : (ah_new h (202, []) 6).1 b = some (104, scr xs) := nw_ne (by omega) hb
  have hm3 : (ah_new h (202, []) 6).1 m = some (11, rF m) := nw_ne (by omega) hm
  refine wq_lI hb3 (by decide) sc1 (wq_at hm3 (wq_cI (r_holds hm3) ?_))
  rintro v h7 ⟨⟨fs, g1, g2⟩, g3⟩
  refine wq_at g1 (wq_cI (r_thrown g1 g2) ?_)
  rintro c h9 ⟨rfl, rfl⟩
  exact wq_t rfl (wq_f (by decide) (l_end (hk_at g3 hb3 (by show b < h.2.1 + 1; omega) (fun hh => by have := hh.1; omega)) rfl))
theorem lc_about (hs : lawS lim b x m o xs h) : wq (ah_val lim ah_P (d + 10) 93 949 [some (.inr (.inr (some b))), some (.inr (.inr (some x))), some (.inr (.inr (some m))), some (.inr (.inr (some o))), some (.inl (0 : Int32)), none, none, none] [] h) (rI fun v _ => v = 1) := by
  obtain ⟨hb, hf, hm, ha, ho, o1, o2, o3, o4, hr⟩ := id hs
  refine wq_eq q_93_949 (wq_lI hb (by decide) sc1 (wq_lI hb (by decide) sc2 (wq_cI (L_about hf hr) ?_)))
  rintro k h3 ⟨rfl, rfl⟩
  have hb3 : (ah_new h (202, []) 6).1 b = some (104, scr xs) := nw_ne (by omega) hb
  have hm3 : (ah_new h (202, []) 6).1 m = some (11, rF m) := nw_ne (by omega) hm
  refine wq_lI hb3 (by decide) sc1 (wq_lI hb3 (by decide) sc2 (wq_at hm3 (wq_cI (r_about hm3) ?_)))
  rintro v h7 ⟨⟨fs, g1, g2⟩, g3⟩
  refine wq_at g1 (wq_cI (r_thrown g1 g2) ?_)
  rintro c h9 ⟨rfl, rfl⟩
  exact wq_t rfl (wq_f (by decide) (l_end (hk_at g3 hb3 (by show b < h.2.1 + 1; omega) (fun hh => by have := hh.1; omega)) rfl))
theorem lc_waits (hs : lawS lim b x m o xs h) : wq (ah_val lim ah_P (d + 10) 93 1017 [some (.inr (.inr (some b))), some (.inr (.inr (some x))), some (.inr (.inr (some m))), some (.inr (.inr (some o))), some (.inl (0 : Int32)), none, none, none] [] h) (rI fun v _ => v = 1) := by
  obtain ⟨hb, hf, hm, ha, ho, o1, o2, o3, o4, hr⟩ := id hs
  refine wq_eq q_93_1017 (wq_lI hb (by decide) sc1 (wq_lI hb (by decide) sc2 (wq_cI (L_waits hf hr) ?_)))
  rintro k h3 ⟨rfl, rfl⟩
  have hb3 : (ah_new h (202, []) 6).1 b = some (104, scr xs) := nw_ne (by omega) hb
  have hm3 : (ah_new h (202, []) 6).1 m = some (11, rF m) := nw_ne (by omega) hm
  refine wq_lI hb3 (by decide) sc1 (wq_lI hb3 (by decide) sc2 (wq_at hm3 (wq_cI (r_waits hm3) ?_)))
  rintro v h7 ⟨⟨fs, g1, g2⟩, g3⟩
  refine wq_at g1 (wq_cI (r_thrown g1 g2) ?_)
  rintro c h9 ⟨rfl, rfl⟩
  exact wq_t rfl (wq_f (by decide) (l_end (hk_at g3 hb3 (by show b < h.2.1 + 1; omega) (fun hh => by have := hh.1; omega)) rfl))
theorem lc_until (hs : lawS lim b x m o xs h) : wq (ah_val lim ah_P (d + 10) 93 1085 [some (.inr (.inr (some b))), some (.inr (.inr (some x))), some (.inr (.inr (some m))), some (.inr (.inr (some o))), some (.inl (0 : Int32)), none, none, none] [] h) (rI fun v _ => v = 1) := by
  obtain ⟨hb, hf, hm, ha, ho, o1, o2, o3, o4, hr⟩ := id hs
  refine wq_eq q_93_1085 (wq_lI hb (by decide) sc1 (wq_cI (L_until hf hr) ?_))
  rintro k h3 ⟨rfl, rfl⟩
  have hb3 : (ah_new h (202, []) 6).1 b = some (104, scr xs) := nw_ne (by omega) hb
  have hm3 : (ah_new h (202, []) 6).1 m = some (11, rF m) := nw_ne (by omega) hm
  refine wq_lI hb3 (by decide) sc1 (wq_at hm3 (wq_cJ (r_until hm3) ?_))
  rintro v h7 ⟨⟨fs, g1, g2⟩, g3⟩
  refine wq_at g1 (wq_cI (r_thrown g1 g2) ?_)
  rintro c h9 ⟨rfl, rfl⟩
  exact wq_t rfl (wq_f (by decide) (l_end (hk_at g3 hb3 (by show b < h.2.1 + 1; omega) (fun hh => by have := hh.1; omega)) rfl))
theorem lc_act (hs : lawS lim b x m o xs h) : wq (ah_val lim ah_P (d + 10) 93 1153 [some (.inr (.inr (some b))), some (.inr (.inr (some x))), some (.inr (.inr (some m))), some (.inr (.inr (some o))), some (.inl (0 : Int32)), none, none, none] [] h) (rI fun v _ => v = 1) := by
  obtain ⟨hb, hf, hm, ha, ho, o1, o2, o3, o4, hr⟩ := id hs
  refine wq_eq q_93_1153 (wq_lI hb (by decide) sc1 (wq_lI hb (by decide) sc2 (wq_cI (L_act hf hr) ?_)))
  rintro k h3 ⟨rfl, rfl⟩
  have hb3 : (ah_new h (202, []) 6).1 b = some (104, scr xs) := nw_ne (by omega) hb
  have hm3 : (ah_new h (202, []) 6).1 m = some (11, rF m) := nw_ne (by omega) hm
  refine wq_lI hb3 (by decide) sc1 (wq_lI hb3 (by decide) sc2 (wq_at hm3 (wq_cI (r_act hm3) ?_)))
  rintro v h7 ⟨⟨fs, g1, g2⟩, g3⟩
  refine wq_at g1 (wq_cI (r_thrown g1 g2) ?_)
  rintro c h9 ⟨rfl, rfl⟩
  exact wq_t rfl (wq_f (by decide) (l_end (hk_at g3 hb3 (by show b < h.2.1 + 1; omega) (fun hh => by have := hh.1; omega)) rfl))
theorem lc_value (hs : lawS lim b x m o xs h) : wq (ah_val lim ah_P (d + 10) 93 1221 [some (.inr (.inr (some b))), some (.inr (.inr (some x))), some (.inr (.inr (some m))), some (.inr (.inr (some o))), some (.inl (0 : Int32)), none, none, none] [] h) (rI fun v _ => v = 1) := by
  obtain ⟨hb, hf, hm, ha, ho, o1, o2, o3, o4, hr⟩ := id hs
  refine wq_eq q_93_1221 (wq_lI hb (by decide) sc1 (wq_lI hb (by decide) sc2 (wq_lI hb (by decide) sc3 (wq_cI (L_value hf hr) ?_))))
  rintro k h3 ⟨rfl, rfl⟩
  have hb3 : (ah_new h (202, []) 6).1 b = some (104, scr xs) := nw_ne (by omega) hb
  have hm3 : (ah_new h (202, []) 6).1 m = some (11, rF m) := nw_ne (by omega) hm
  refine wq_lI hb3 (by decide) sc1 (wq_lI hb3 (by decide) sc2 (wq_lI hb3 (by decide) sc3 (wq_at hm3 (wq_cI (r_value hm3) ?_))))
  rintro v h7 ⟨⟨fs, g1, g2⟩, g3⟩
  refine wq_at g1 (wq_cI (r_thrown g1 g2) ?_)
  rintro c h9 ⟨rfl, rfl⟩
  exact wq_t rfl (wq_f (by decide) (l_end (hk_at g3 hb3 (by show b < h.2.1 + 1; omega) (fun hh => by have := hh.1; omega)) rfl))
theorem lc_delay (hs : lawS lim b x m o xs h) : wq (ah_val lim ah_P (d + 10) 93 1301 [some (.inr (.inr (some b))), some (.inr (.inr (some x))), some (.inr (.inr (some m))), some (.inr (.inr (some o))), some (.inl (0 : Int32)), none, none, none] [] h) (rI fun v _ => v = 1) := by
  obtain ⟨hb, hf, hm, ha, ho, o1, o2, o3, o4, hr⟩ := id hs
  refine wq_eq q_93_1301 (wq_lI hb (by decide) sc1 (wq_lI hb (by decide) sc2 (wq_cI (L_delay hf hr) ?_)))
  rintro k h3 ⟨rfl, rfl⟩
  have hb3 : (ah_new h (202, []) 6).1 b = some (104, scr xs) := nw_ne (by omega) hb
  have hm3 : (ah_new h (202, []) 6).1 m = some (11, rF m) := nw_ne (by omega) hm
  refine wq_lI hb3 (by decide) sc1 (wq_lI hb3 (by decide) sc2 (wq_at hm3 (wq_cJ (r_delay hm3) ?_)))
  rintro v h7 ⟨⟨fs, g1, g2⟩, g3⟩
  refine wq_at g1 (wq_cI (r_thrown g1 g2) ?_)
  rintro c h9 ⟨rfl, rfl⟩
  exact wq_t rfl (wq_f (by decide) (l_end (hk_at g3 hb3 (by show b < h.2.1 + 1; omega) (fun hh => by have := hh.1; omega)) rfl))
theorem lc_set (hs : lawS lim b x m o xs h) : wq (ah_val lim ah_P (d + 10) 93 673 [some (.inr (.inr (some b))), some (.inr (.inr (some x))), some (.inr (.inr (some m))), some (.inr (.inr (some o))), some (.inl (0 : Int32)), none, none, none] [] h) (rI fun v _ => v = 1) := by
  obtain ⟨hb, hf, hm, ha, ho, o1, o2, o3, o4, hr⟩ := id hs
  refine wq_eq q_93_673 (wq_lI hb (by decide) sc1 (wq_lI hb (by decide) sc2 (wq_lI hb (by decide) sc3 (wq_lI hb (by decide) sc4 (wq_cI (L_set hf hr) ?_)))))
  rintro k h3 ⟨rfl, rfl⟩
  have hb3 : (ah_new h (202, []) 6).1 b = some (104, scr xs) := nw_ne (by omega) hb
  have hm3 : (ah_new h (202, []) 6).1 m = some (11, rF m) := nw_ne (by omega) hm
  refine wq_lI hb3 (by decide) sc1 (wq_lI hb3 (by decide) sc2 (wq_lI hb3 (by decide) sc3 (wq_lI hb3 (by decide) sc4 (wq_at hm3 (wq_cV (r_set hm3) ?_)))))
  rintro h7 ⟨⟨fs, g1, g2⟩, g3⟩
  refine wq_at g1 (wq_cI (r_thrown g1 g2) ?_)
  rintro c h9 ⟨rfl, rfl⟩
  exact wq_t rfl (l_end (hk_at g3 hb3 (by show b < h.2.1 + 1; omega) (fun hh => by have := hh.1; omega)) rfl)
theorem lc_put (hs : lawS lim b x m o xs h) : wq (ah_val lim ah_P (d + 10) 93 425 [some (.inr (.inr (some b))), some (.inr (.inr (some x))), some (.inr (.inr (some m))), some (.inr (.inr (some o))), some (.inl (0 : Int32)), none, none, none] [] h) (rI fun v _ => v = 1) := by
  obtain ⟨hb, hf, hm, ha, ho, o1, o2, o3, o4, hr⟩ := id hs
  have hb3 : (ah_new h (202, []) 6).1 b = some (104, scr xs) := nw_ne (by omega) hb
  have hm3 : (ah_new h (202, []) 6).1 m = some (11, rF m) := nw_ne (by omega) hm
  have k2 : ∀ s : Int32, wq (ah_val lim ah_P (d + 10) 93 484 [some (.inr (.inr (some b))), some (.inr (.inr (some x))), some (.inr (.inr (some m))), some (.inr (.inr (some o))), some (.inl (0 : Int32)), some (.inl (1 : Int32)), none, none] [.inl s, .inl (xs 1), .inr (.inr (some m))] (ah_new h (202, []) 6)) (rI fun v _ => v = 1) := by
    intro s
    refine wq_eq q_93_484 (wq_lI hb3 (by decide) sc3 (wq_lI hb3 (by decide) sc4 (wq_at hm3 (wq_cV (r_put hm3) ?_))))
    rintro h7 ⟨⟨fs, g1, g2⟩, g3⟩
    refine wq_at g1 (wq_cI (r_thrown g1 g2) ?_)
    rintro c h9 ⟨rfl, rfl⟩
    exact wq_t rfl (l_end (hk_at g3 hb3 (by show b < h.2.1 + 1; omega) (fun hh => by have := hh.1; omega)) rfl)
  have k1 : ∀ s : Int32, wq (ah_val lim ah_P (d + 10) 93 446 [some (.inr (.inr (some b))), some (.inr (.inr (some x))), some (.inr (.inr (some m))), some (.inr (.inr (some o))), some (.inl (0 : Int32)), none, none, none] [.inl s, .inl (xs 1), .inr (.inr (some x))] h) (rI fun v _ => v = 1) := by
    intro s
    refine wq_eq q_93_446 (wq_lI hb (by decide) sc3 (wq_lI hb (by decide) sc4 (wq_cI (L_put hf hr) ?_)))
    rintro k h3 ⟨rfl, rfl⟩
    exact wq_lI hb3 (by decide) sc1 (wq_lI hb3 (by decide) sc2 (wq_if _ (fun _ => k2 _) (fun _ => k2 _)))
  exact wq_eq q_93_425 (wq_lI hb (by decide) sc1 (wq_lI hb (by decide) sc2 (wq_if _ (fun _ => k1 _) (fun _ => k1 _))))
theorem lc_mark (hs : lawS lim b x m o xs h) : wq (ah_val lim ah_P (d + 10) 93 513 [some (.inr (.inr (some b))), some (.inr (.inr (some x))), some (.inr (.inr (some m))), some (.inr (.inr (some o))), some (.inl (0 : Int32)), none, none, none] [] h) (rI fun v _ => v = 1) := by
  obtain ⟨hb, hf, hm, ha, ho, o1, o2, o3, o4, hr⟩ := id hs
  have hb3 : (ah_new h (202, []) 6).1 b = some (104, scr xs) := nw_ne (by omega) hb
  have hm3 : (ah_new h (202, []) 6).1 m = some (11, rF m) := nw_ne (by omega) hm
  have kv : ∀ s t : Int32, wq (ah_at (ah_new h (202, []) 6) (some m) 11 fun _ _ => ah_cV (vc lim (d + 10) m_Ref_mark [aR m, aI (xs 1), aI s, aI t] (ah_new h (202, []) 6)) (nx (ah_new h (202, []) 6)) fun h2 => ah_at h2 (some m) 11 fun _ _ => ah_cI (vc lim (d + 10) m_Ref_thrown [aR m] h2) (nx h2) fun i4 h3 => if i4 = (1 : Int32) then ah_val lim ah_P (d + 10) 93 1368 [some (.inr (.inr (some b))), some (.inr (.inr (some x))), some (.inr (.inr (some m))), some (.inr (.inr (some o))), some (.inl (0 : Int32)), none, none, none] [] h3 else if (0 : Int32) = 0 ∨ (0 : Int32) = 1 then some (.inl (some (.inl (0 : Int32))), h3) else none) (rI fun v _ => v = 1) := by
    intro s t
    refine wq_at hm3 (wq_cV (r_mark hm3) ?_)
    rintro h7 ⟨⟨fs, g1, g2⟩, g3⟩
    refine wq_at g1 (wq_cI (r_thrown g1 g2) ?_)
    rintro c h9 ⟨rfl, rfl⟩
    exact wq_t rfl (l_end (hk_at g3 hb3 (by show b < h.2.1 + 1; omega) (fun hh => by have := hh.1; omega)) rfl)
  have k2 : ∀ s : Int32, wq (ah_val lim ah_P (d + 10) 93 574 [some (.inr (.inr (some b))), some (.inr (.inr (some x))), some (.inr (.inr (some m))), some (.inr (.inr (some o))), some (.inl (0 : Int32)), some (.inl (1 : Int32)), none, none] [.inl s, .inl (xs 1), .inr (.inr (some m))] (ah_new h (202, []) 6)) (rI fun v _ => v = 1) := fun s => wq_eq q_93_574 (wq_lI hb3 (by decide) sc3 (wq_if _ (fun _ => kv _ _) (fun _ => kv _ _)))
  have k1 : ∀ s t : Int32, wq (ah_val lim ah_P (d + 10) 93 548 [some (.inr (.inr (some b))), some (.inr (.inr (some x))), some (.inr (.inr (some m))), some (.inr (.inr (some o))), some (.inl (0 : Int32)), none, none, none] [.inl s, .inl t, .inl (xs 1), .inr (.inr (some x))] h) (rI fun v _ => v = 1) := by
    intro s t
    refine wq_eq q_93_548 (wq_cI (L_mark hf hr) ?_)
    rintro k h3 ⟨rfl, rfl⟩
    exact wq_lI hb3 (by decide) sc1 (wq_lI hb3 (by decide) sc2 (wq_if _ (fun _ => k2 _) (fun _ => k2 _)))
  exact wq_eq q_93_513 (wq_lI hb (by decide) sc1 (wq_lI hb (by decide) sc2 (wq_if _ (fun _ => wq_lI hb (by decide) sc3 (wq_if _ (fun _ => k1 _ _) (fun _ => k1 _ _))) (fun _ => wq_lI hb (by decide) sc3 (wq_if _ (fun _ => k1 _ _) (fun _ => k1 _ _))))))
theorem l_world {h1 : ah_H} {w : AV} (hs : lawS lim b x m o xs h) (k : kC x h h1) : (ah_up h1 o (101, [w])).1 b = some (104, scr xs) ∧ (ah_up h1 o (101, [w])).1 m = some (11, rF m) ∧ arrs m (ah_up h1 o (101, [w])) ∧ o < h1.2.1 := by
  obtain ⟨hb, hf, hm, ha, ho, o1, o2, o3, o4, hr⟩ := hs
  obtain ⟨c0, n0, -, -, k1, k2, k3⟩ := k
  refine ⟨up_ne (by omega) ((k1 b (by omega) (fun hh => by have := hh.1; omega)).trans hb), up_ne (by omega) ((k1 m (by omega) (fun hh => by have := hh.2; omega)).trans hm), fun j q h1 h2 => ?_, by omega⟩
  obtain ⟨vs, e1, e2⟩ := ha j q h1 h2
  exact ⟨vs, up_ne (by omega) ((k1 _ (by omega) (fun hh => by have := hh.2; omega)).trans e1), e2⟩
theorem lc_signal (hs : lawS lim b x m o xs h) : wq (ah_val lim ah_P (d + 10) 93 128 [some (.inr (.inr (some b))), some (.inr (.inr (some x))), some (.inr (.inr (some m))), some (.inr (.inr (some o))), some (.inl (0 : Int32)), none, none, none] [] h) (rI fun v _ => v = 1) := by
  obtain ⟨hb, hf, hm, ha, ho, o1, o2, o3, o4, hr⟩ := id hs
  by_cases hn : can (xs 1) (xs 2) (xs 3)
  · refine wq_eq q_93_128 (wq_lI hb (by decide) sc1 (wq_lI hb (by decide) sc2 (wq_lI hb (by decide) sc3 (wq_cI (L_signal1 hs hn) ?_))))
    rintro k h3 ⟨rfl, h1, hk1, rfl⟩
    obtain ⟨w1, w2, w3, w4⟩ := l_world (w := aJ (0 : Int32).toInt64) hs hk1
    refine wq_lI w1 (by decide) sc1 (wq_lI w1 (by decide) sc2 (wq_lI w1 (by decide) sc3 (wq_at w2 (wq_cI (r_signal1 w2 w3 hn) ?_))))
    rintro v h9 ⟨rfl, ⟨fs, g1, g2⟩, g3⟩
    refine wq_at g1 (wq_cI (r_thrown g1 g2) ?_)
    rintro c h11 ⟨rfl, rfl⟩
    exact wq_t rfl (wq_t rfl (wq_lJ (hk_at g3 up_eq (show o < h1.2.1 from w4) (fun hh => by have := hh.2; omega)) (by decide) (by rw [show (0 : Int32).toNatClampNeg = 0 by decide]; rfl) (wq_t (by decide) (l_end (hk_at g3 w1 (by show b < h1.2.1; omega) (fun hh => by have := hh.1; omega)) rfl))))
  · refine wq_eq q_93_128 (wq_lI hb (by decide) sc1 (wq_lI hb (by decide) sc2 (wq_lI hb (by decide) sc3 (wq_cI (L_signal0 hf hr hn) ?_))))
    rintro k h3 ⟨rfl, rfl⟩
    have hb3 : (ah_new h (200, []) 6).1 b = some (104, scr xs) := nw_ne (by omega) hb
    have hm3 : (ah_new h (200, []) 6).1 m = some (11, rF m) := nw_ne (by omega) hm
    refine wq_lI hb3 (by decide) sc1 (wq_lI hb3 (by decide) sc2 (wq_lI hb3 (by decide) sc3 (wq_at hm3 (wq_cI (r_signal0 hm3 hn) ?_))))
    rintro v h7 ⟨⟨fs, g1, g2⟩, g3⟩
    refine wq_at g1 (wq_cI (r_thrown g1 g2) ?_)
    rintro c h9 ⟨rfl, rfl⟩
    exact wq_t rfl (wq_f (by decide) (l_end (hk_at g3 hb3 (by show b < h.2.1 + 1; omega) (fun hh => by have := hh.1; omega)) rfl))
theorem lc_variable (hs : lawS lim b x m o xs h) : wq (ah_val lim ah_P (d + 10) 93 208 [some (.inr (.inr (some b))), some (.inr (.inr (some x))), some (.inr (.inr (some m))), some (.inr (.inr (some o))), some (.inl (0 : Int32)), none, none, none] [] h) (rI fun v _ => v = 1) := by
  obtain ⟨hb, hf, hm, ha, ho, o1, o2, o3, o4, hr⟩ := id hs
  by_cases hn : can (xs 1) (xs 2) (xs 3)
  · refine wq_eq q_93_208 (wq_lI hb (by decide) sc1 (wq_lI hb (by decide) sc2 (wq_lI hb (by decide) sc3 (wq_cI (L_variable1 hs hn) ?_))))
    rintro k h3 ⟨rfl, h1, hk1, rfl⟩
    obtain ⟨w1, w2, w3, w4⟩ := l_world (w := aJ (0 : Int32).toInt64) hs hk1
    refine wq_lI w1 (by decide) sc1 (wq_lI w1 (by decide) sc2 (wq_lI w1 (by decide) sc3 (wq_at w2 (wq_cI (r_variable1 w2 w3 hn) ?_))))
    rintro v h9 ⟨rfl, ⟨fs, g1, g2⟩, g3⟩
    refine wq_at g1 (wq_cI (r_thrown g1 g2) ?_)
    rintro c h11 ⟨rfl, rfl⟩
    exact wq_t rfl (wq_t rfl (wq_lJ (hk_at g3 up_eq (show o < h1.2.1 from w4) (fun hh => by have := hh.2; omega)) (by decide) (by rw [show (0 : Int32).toNatClampNeg = 0 by decide]; rfl) (wq_t (by decide) (l_end (hk_at g3 w1 (by show b < h1.2.1; omega) (fun hh => by have := hh.1; omega)) rfl))))
  · refine wq_eq q_93_208 (wq_lI hb (by decide) sc1 (wq_lI hb (by decide) sc2 (wq_lI hb (by decide) sc3 (wq_cI (L_variable0 hf hr hn) ?_))))
    rintro k h3 ⟨rfl, rfl⟩
    have hb3 : (ah_new h (200, []) 6).1 b = some (104, scr xs) := nw_ne (by omega) hb
    have hm3 : (ah_new h (200, []) 6).1 m = some (11, rF m) := nw_ne (by omega) hm
    refine wq_lI hb3 (by decide) sc1 (wq_lI hb3 (by decide) sc2 (wq_lI hb3 (by decide) sc3 (wq_at hm3 (wq_cI (r_variable0 hm3 hn) ?_))))
    rintro v h7 ⟨⟨fs, g1, g2⟩, g3⟩
    refine wq_at g1 (wq_cI (r_thrown g1 g2) ?_)
    rintro c h9 ⟨rfl, rfl⟩
    exact wq_t rfl (wq_f (by decide) (l_end (hk_at g3 hb3 (by show b < h.2.1 + 1; omega) (fun hh => by have := hh.1; omega)) rfl))
theorem lc_add (hs : lawS lim b x m o xs h) : wq (ah_val lim ah_P (d + 10) 93 288 [some (.inr (.inr (some b))), some (.inr (.inr (some x))), some (.inr (.inr (some m))), some (.inr (.inr (some o))), some (.inl (0 : Int32)), none, none, none] [] h) (rI fun v _ => v = 1) := by
  obtain ⟨hb, hf, hm, ha, ho, o1, o2, o3, o4, hr⟩ := id hs
  by_cases hn : addable (xs 1) (xs 3)
  · refine wq_eq q_93_288 (wq_lI hb (by decide) sc1 (wq_lI hb (by decide) sc2 (wq_lI hb (by decide) sc3 (wq_cI (L_add1 hs hn) ?_))))
    rintro k h3 ⟨rfl, h1, hk1, rfl⟩
    obtain ⟨w1, w2, w3, w4⟩ := l_world (w := aJ (0 : Int32).toInt64) hs hk1
    refine wq_lI w1 (by decide) sc1 (wq_lI w1 (by decide) sc2 (wq_lI w1 (by decide) sc3 (wq_at w2 (wq_cI (r_add1 w2 w3 hn) ?_))))
    rintro v h9 ⟨rfl, ⟨fs, g1, g2⟩, g3⟩
    refine wq_at g1 (wq_cI (r_thrown g1 g2) ?_)
    rintro c h11 ⟨rfl, rfl⟩
    exact wq_t rfl (wq_t rfl (wq_lJ (hk_at g3 up_eq (show o < h1.2.1 from w4) (fun hh => by have := hh.2; omega)) (by decide) (by rw [show (0 : Int32).toNatClampNeg = 0 by decide]; rfl) (wq_t (by decide) (l_end (hk_at g3 w1 (by show b < h1.2.1; omega) (fun hh => by have := hh.1; omega)) rfl))))
  · refine wq_eq q_93_288 (wq_lI hb (by decide) sc1 (wq_lI hb (by decide) sc2 (wq_lI hb (by decide) sc3 (wq_cI (L_add0 hf hr hn) ?_))))
    rintro k h3 ⟨rfl, rfl⟩
    have hb3 : (ah_new h (200, []) 6).1 b = some (104, scr xs) := nw_ne (by omega) hb
    have hm3 : (ah_new h (200, []) 6).1 m = some (11, rF m) := nw_ne (by omega) hm
    refine wq_lI hb3 (by decide) sc1 (wq_lI hb3 (by decide) sc2 (wq_lI hb3 (by decide) sc3 (wq_at hm3 (wq_cI (r_add0 hm3 hn) ?_))))
    rintro v h7 ⟨⟨fs, g1, g2⟩, g3⟩
    refine wq_at g1 (wq_cI (r_thrown g1 g2) ?_)
    rintro c h9 ⟨rfl, rfl⟩
    exact wq_t rfl (wq_f (by decide) (l_end (hk_at g3 hb3 (by show b < h.2.1 + 1; omega) (fun hh => by have := hh.1; omega)) rfl))
theorem lc_process (hs : lawS lim b x m o xs h) : wq (ah_val lim ah_P (d + 10) 93 368 [some (.inr (.inr (some b))), some (.inr (.inr (some x))), some (.inr (.inr (some m))), some (.inr (.inr (some o))), some (.inl (0 : Int32)), none, none, none] [] h) (rI fun v _ => v = 1) := by
  obtain ⟨hb, hf, hm, ha, ho, o1, o2, o3, o4, hr⟩ := id hs
  refine wq_eq q_93_368 (wq_cI (L_process1 hs) ?_)
  rintro k h3 ⟨rfl, h1, hk1, rfl⟩
  obtain ⟨w1, w2, w3, w4⟩ := l_world (w := aJ (-1 : Int32).toInt64) hs hk1
  refine wq_at w2 (wq_cI (r_process w2) ?_)
  rintro v h9 ⟨rfl, ⟨fs, g1, g2⟩, g3⟩
  refine wq_at g1 (wq_cI (r_thrown g1 g2) ?_)
  rintro c h11 ⟨rfl, rfl⟩
  exact wq_t rfl (wq_t rfl (wq_lJ (hk_at g3 up_eq (show o < h1.2.1 from w4) (fun hh => by have := hh.2; omega)) (by decide) (by rw [show (0 : Int32).toNatClampNeg = 0 by decide]; rfl) (wq_t (by decide) (l_end (hk_at g3 w1 (by show b < h1.2.1; omega) (fun hh => by have := hh.1; omega)) rfl))))
theorem lc_processes (hs : lawS lim b x m o xs h) : wq (ah_val lim ah_P (d + 10) 93 412 [some (.inr (.inr (some b))), some (.inr (.inr (some x))), some (.inr (.inr (some m))), some (.inr (.inr (some o))), some (.inl (0 : Int32)), none, none, none] [] h) (rI fun v _ => v = 1) := by
  obtain ⟨hb, hf, hm, ha, ho, o1, o2, o3, o4, hr⟩ := id hs
  refine wq_eq q_93_412 (wq_at hf.1 (wq_cI (c_processes hf) ?_))
  rintro v h1 ⟨rfl, rfl⟩
  refine wq_at hm (wq_cI (r_processes hm) ?_)
  rintro v h3 ⟨rfl, -, g3⟩
  exact wq_t rfl (l_end (hk_at g3 hb (by omega) (fun hh => by have := hh.1; omega)) rfl)
theorem lc_acts (hs : lawS lim b x m o xs h) : wq (ah_val lim ah_P (d + 10) 93 1140 [some (.inr (.inr (some b))), some (.inr (.inr (some x))), some (.inr (.inr (some m))), some (.inr (.inr (some o))), some (.inl (0 : Int32)), none, none, none] [] h) (rI fun v _ => v = 1) := by
  obtain ⟨hb, hf, hm, ha, ho, o1, o2, o3, o4, hr⟩ := id hs
  refine wq_eq q_93_1140 (wq_at hf.1 (wq_cI (c_acts hf) ?_))
  rintro v h1 ⟨rfl, rfl⟩
  refine wq_at hm (wq_cI (r_acts hm) ?_)
  rintro v h3 ⟨rfl, -, g3⟩
  exact wq_t rfl (l_end (hk_at g3 hb (by omega) (fun hh => by have := hh.1; omega)) rfl)
theorem l_head (hs : lawS lim b x m o xs h) : wq (ah_val lim ah_P (d + 10) 93 23 [some (.inr (.inr (some b))), some (.inr (.inr (some x))), some (.inr (.inr (some m))), some (.inr (.inr (some o))), some (.inl (0 : Int32)), none, none, none] [] h) (rI fun v _ => v = 1) := by
  obtain ⟨hb, hf, hm, ha, ho, o1, o2, o3, o4, hr⟩ := id hs
  refine wq_eq q_93_23 (wq_len hb (by decide) (wq_t (show (0 : Int32) ≤ Nat.toInt32 5 - 5 by decide) (wq_lI hb (by decide) sc0 ?_)))
  exact wq_if _ (fun _ => lc_signal hs) (fun _ => wq_if _ (fun _ => lc_variable hs) (fun _ => wq_if _ (fun _ => lc_add hs) (fun _ => wq_if _ (fun _ => lc_process hs) (fun _ => wq_if _ (fun _ => lc_processes hs) (fun _ => wq_if _ (fun _ => lc_put hs) (fun _ => wq_if _ (fun _ => lc_mark hs) (fun _ => wq_if _ (fun _ => lc_get hs) (fun _ => wq_if _ (fun _ => lc_set hs) (fun _ => wq_if _ (fun _ => lc_variableOf hs) (fun _ => wq_if _ (fun _ => lc_resume hs) (fun _ => wq_if _ (fun _ => lc_holds hs) (fun _ => wq_if _ (fun _ => lc_about hs) (fun _ => wq_if _ (fun _ => lc_waits hs) (fun _ => wq_if _ (fun _ => lc_until hs) (fun _ => wq_if _ (fun _ => lc_acts hs) (fun _ => wq_if _ (fun _ => lc_act hs) (fun _ => wq_if _ (fun _ => lc_value hs) (fun _ => wq_if _ (fun _ => lc_delay hs) (fun _ => l_end hb rfl)))))))))))))))))))
end Lw
