/-! THE CLASS: signal, variable, add, process on a fresh object -/
section Ac
variable {lim : Nat × Nat} {d : Nat} {h : ah_H} {x : Nat} {c a b : Int32}
/-- a new Thing is kept -/
theorem c_keepNew {t r n : Nat} (ht : h.1 t = some (8, [aR r, aI 0])) (hr : h.1 r = some (117, List.replicate n aN)) (hn : 0 < n) (hn2 : n < 2 ^ 31) (hne : t ≠ r) (ht2 : t < h.2.1) (hr2 : r < h.2.1) (hct : clsR x t) (hcr : clsR x r) (hrm : rm lim h) :
    wq (ah_mk lim h (7, [.inl 0, .inl 0, .inl 0, .inl 0, .inr (.inr none), .inr (.inr none), .inl 0, .inl 0]) 8 fun r8 h9 => ah_at h9 r8 7 fun _ _ => ah_cV (vc lim (d + 4) 64 [.inr (.inr r8), .inl c, .inl a, .inl b] h9) (nx h9) fun h10 => ah_at h10 (some t) 8 fun _ _ => ah_cI (vc lim (d + 4) 68 [.inr (.inr (some t)), .inr (.inr r8)] h10) (nx h10) fun i12 h11 => some (.inl (some (.inl i12)), h11)) (rI fun v h' => v = 0 ∧ kC x h h') := by
  obtain ⟨m1, m2⟩ := hrm
  refine wq_mk ⟨by omega, by omega⟩ (wq_at nw_eq (wq_cV (c_Thing_init nw_eq (by show h.2.1 < h.2.1 + 1; omega) (by show h.2.1 + 1 + 2 ≤ _; omega) (by show h.2.2.1 + 8 + 14 ≤ _; omega)) ?_))
  intro h10 ⟨⟨fs, w0⟩, w1, w2, w3⟩
  have w0 : h10.1 h.2.1 = some (7, fs) := w0
  have w2 : h10.2.1 = h.2.1 + 1 + 2 := w2
  have w3 : h10.2.2.1 = h.2.2.1 + 8 + 14 := w3
  have o : ∀ q, q < h.2.1 → h10.1 q = h.1 q := fun q hq => (w1 q (by show q < h.2.1 + 1; omega) (by show ¬ q = h.2.1; omega)).trans (nw_ne (by omega) rfl)
  refine wq_at ((o t ht2).trans ht) (wq_cI (c_keep0 ((o t ht2).trans ht) ((o r hr2).trans hr) w0 hn hn2 hne) ?_)
  rintro v h11 ⟨rfl, v1, v2, v3⟩
  refine wq_some (rI_i ⟨rfl, 3, 22, by omega, by omega, fun q h1 h2 => ?_, by omega, by omega⟩)
  refine (v1 q (by omega) ?_).trans (o q h1)
  rintro (rfl | rfl)
  · exact h2 hcr
  · exact h2 hct
theorem c_signal1 (hf : fC x h) (hx : x + 656 ≤ h.2.1) (hr : rm lim h) (hcan : can c a b) : wq (vc lim (d + 5) m_Code_signal [aR x, aI c, aI a, aI b] h) (rI fun v h' => v = 0 ∧ kC x h h') := by
  obtain ⟨f1, f2, f3, -⟩ := hf
  refine wq_eq e_Code_signal (wq_cI c_canBe ?_)
  rintro v h' ⟨rfl, ⟨rfl, -⟩ | ⟨rfl, hn⟩⟩
  · refine wq_f (by decide) (wq_gR f1 rfl (wq_at f2 (wq_cI (c_isFull0 f2 f3 (by omega) (by omega)) ?_)))
    rintro v h' ⟨rfl, rfl⟩
    exact wq_t rfl (wq_gR f1 rfl (c_keepNew f2 f3 (by omega) (by omega) (by omega) (by omega) (by omega) ⟨by omega, by omega⟩ ⟨by omega, by omega⟩ hr))
  · exact absurd hcan hn
theorem c_signal0 (hr : rm lim h) (hcan : ¬ can c a b) : wq (vc lim (d + 5) m_Code_signal [aR x, aI c, aI a, aI b] h) (xx 200 h) := by
  refine wq_eq e_Code_signal (wq_cI c_canBe ?_)
  rintro v h' ⟨rfl, ⟨rfl, hn⟩ | ⟨rfl, -⟩⟩
  · exact absurd hn hcan
  · exact wq_t rfl (thr hr)
theorem c_variable1 (hf : fC x h) (hx : x + 656 ≤ h.2.1) (hr : rm lim h) (hcan : can c a b) : wq (vc lim (d + 5) m_Code_variable [aR x, aI c, aI a, aI b] h) (rI fun v h' => v = 0 ∧ kC x h h') := by
  obtain ⟨f1, -, -, f4, -, -, f7, f8, -⟩ := hf
  refine wq_eq e_Code_variable (wq_cI c_canBe ?_)
  rintro v h' ⟨rfl, ⟨rfl, -⟩ | ⟨rfl, hn⟩⟩
  · refine wq_f (by decide) (wq_gR f1 rfl (wq_gR f4 rfl (wq_at f7 (wq_cI (c_isFull0 f7 f8 (by omega) (by omega)) ?_))))
    rintro v h' ⟨rfl, rfl⟩
    exact wq_t rfl (wq_gR f1 rfl (wq_gR f4 rfl (c_keepNew f7 f8 (by omega) (by omega) (by omega) (by omega) (by omega) ⟨by omega, by omega⟩ ⟨by omega, by omega⟩ hr)))
  · exact absurd hcan hn
theorem c_variable0 (hr : rm lim h) (hcan : ¬ can c a b) : wq (vc lim (d + 5) m_Code_variable [aR x, aI c, aI a, aI b] h) (xx 200 h) := by
  refine wq_eq e_Code_variable (wq_cI c_canBe ?_)
  rintro v h' ⟨rfl, ⟨rfl, hn⟩ | ⟨rfl, -⟩⟩
  · exact absurd hn hcan
  · exact wq_t rfl (thr hr)
/-- what may be added to no trees -/
def addable (k n : Int32) : Prop := ¬ k < 0 ∧ k ≤ 99 ∧ n = 0
theorem i32_z {n : Int32} (h1 : ¬ n < 0) (h2 : n ≤ 0) : n = 0 := by
  rw [Int32.lt_iff_toInt_lt] at h1
  rw [Int32.le_iff_toInt_le] at h2
  exact Int32.toInt_inj.mp (by omega)
theorem c_add0 (hf : fC x h) (hr : rm lim h) (hn : ¬ addable c b) : wq (vc lim (d + 5) m_Code_add [aR x, aI c, aI a, aI b] h) (xx 200 h) := by
  obtain ⟨f1, -, -, f4, -⟩ := hf
  have key : wq (ah_val lim ah_P (d + 4) 3 25 [none, none, none, none] [] h) (xx 200 h) := wq_eq q_3_25 (thr hr)
  exact wq_eq e_Code_add (wq_if _ (fun _ => key) (fun h1 => wq_if _ (fun h2 => wq_if _ (fun _ => key) (fun h3 => wq_gR f1 rfl (wq_gI f4 rfl (wq_if _ (fun h4 => absurd ⟨h1, h2, i32_z h3 h4⟩ hn) (fun _ => key))))) (fun _ => key)))
theorem c_nFull0 (hf : fC x h) : wq (vc lim (d + 1) m_Nodes_isFull [aR (x + 4)] h) (rI fun v h' => v = 0 ∧ h' = h) := by
  obtain ⟨-, -, -, -, f5, f6, -⟩ := hf
  refine wq_eq e_Nodes_isFull (wq_gI f5 rfl (wq_gR f5 rfl (wq_len (f6 0 (by omega)) (by decide) (wq_t ?_ (wq_0 (wq_some (rI_i ⟨rfl, rfl⟩)))))))
  rw [List.length_replicate]
  exact i32_t (i := 0) (n := 4000) (by omega) (by omega)
theorem rl {n : Nat} {v w : AV} {i : Nat} : ((List.replicate n v).set i w).length = n := by rw [List.length_set, List.length_replicate]
theorem c_begin0 (hf : fC x h) : wq (vc lim (d + 2) m_Nodes_begin [aR (x + 4), aI c, aI a] h) (rI fun v h' => v = 0 ∧ hk (fun p => x + 4 ≤ p ∧ p < x + 13) 0 0 h h') := by
  obtain ⟨-, -, -, -, f5, f6, -⟩ := id hf
  refine wq_eq e_Nodes_begin (wq_at f5 (wq_cI (c_nFull0 hf) ?_))
  rintro v h' ⟨rfl, rfl⟩
  have z : ∀ {v : AV}, (0 : Int32).toNatClampNeg < (List.replicate 4000 v).length := fun {v} => by rw [List.length_replicate]; decide
  have g0 := f6 0 (by omega)
  have g1 := f6 1 (by omega)
  have g2 := f6 2 (by omega)
  have g3 := f6 3 (by omega)
  have g4 := f6 4 (by omega)
  have g5 := f6 5 (by omega)
  have g6 := f6 6 (by omega)
  refine wq_t rfl (wq_gI f5 rfl (wq_gR f5 rfl (wq_sI g0 (by decide) z ?_)))
  refine wq_gR (up_ne (by omega) f5) rfl (wq_sI (up_ne (by omega) g1) (by decide) z ?_)
  refine wq_gR (up_ne (by omega) (up_ne (by omega) f5)) rfl (wq_sI (up_ne (by omega) (up_ne (by omega) g2)) (by decide) z ?_)
  refine wq_gR (up_ne (by omega) (up_ne (by omega) (up_ne (by omega) f5))) rfl (wq_sI (up_ne (by omega) (up_ne (by omega) (up_ne (by omega) g3))) (by decide) z ?_)
  refine wq_gR (up_ne (by omega) (up_ne (by omega) (up_ne (by omega) (up_ne (by omega) f5)))) rfl (wq_sI (up_ne (by omega) (up_ne (by omega) (up_ne (by omega) (up_ne (by omega) g4)))) (by decide) z ?_)
  refine wq_gR (up_ne (by omega) (up_ne (by omega) (up_ne (by omega) (up_ne (by omega) (up_ne (by omega) f5))))) rfl (wq_gI (up_ne (by omega) (up_ne (by omega) (up_ne (by omega) (up_ne (by omega) (up_ne (by omega) f5))))) rfl (wq_sI (up_ne (by omega) (up_ne (by omega) (up_ne (by omega) (up_ne (by omega) (up_ne (by omega) g5))))) (by decide) z ?_))
  refine wq_gR (up_ne (by omega) (up_ne (by omega) (up_ne (by omega) (up_ne (by omega) (up_ne (by omega) (up_ne (by omega) f5)))))) rfl (wq_sI (up_ne (by omega) (up_ne (by omega) (up_ne (by omega) (up_ne (by omega) (up_ne (by omega) (up_ne (by omega) g6)))))) (by decide) z ?_)
  refine wq_gI (up_ne (by omega) (up_ne (by omega) (up_ne (by omega) (up_ne (by omega) (up_ne (by omega) (up_ne (by omega) (up_ne (by omega) f5))))))) rfl (wq_wr (up_ne (by omega) (up_ne (by omega) (up_ne (by omega) (up_ne (by omega) (up_ne (by omega) (up_ne (by omega) (up_ne (by omega) f5))))))) (Nat.le_of_ble_eq_true rfl) (wq_some (rI_i ⟨rfl, ?_⟩)))
  have u : ∀ {q : Nat}, x + 4 ≤ q → q < x + 13 → (fun p => x + 4 ≤ p ∧ p < x + 13) q := fun h1 h2 => ⟨h1, h2⟩
  exact hk_cast (hk_trans (hk_trans (hk_trans (hk_trans (hk_trans (hk_trans (hk_trans (hk_up (u (by omega) (by omega))) (hk_up (u (by omega) (by omega)))) (hk_up (u (by omega) (by omega)))) (hk_up (u (by omega) (by omega)))) (hk_up (u (by omega) (by omega)))) (hk_up (u (by omega) (by omega)))) (hk_up (u (by omega) (by omega)))) (hk_up (u (by omega) (by omega)))) rfl rfl
theorem c_make0 (hf : fC x h) (hx : x + 656 ≤ h.2.1) : wq (vc lim (d + 3) m_Maker_make [aR (x + 3), aI c, aI a, aI 0] h) (rI fun v h' => v = 0 ∧ hk (clsR x) 0 0 h h') := by
  obtain ⟨-, -, -, f4, f5, f6, -, -, f9, f10, -⟩ := id hf
  refine wq_eq e_Maker_make (wq_gI f4 rfl (wq_f (by decide) (wq_f (by decide) (wq_gI f4 rfl (wq_gR f4 rfl (wq_len f10 (by decide) ?_))))))
  rw [List.length_replicate]
  refine wq_t (by decide) (wq_gR f4 rfl (wq_at f5 (wq_cI (c_nFull0 hf) ?_)))
  rintro v h' ⟨rfl, rfl⟩
  refine wq_t rfl (wq_gR f4 rfl (wq_at f5 (wq_cI (c_begin0 hf) ?_)))
  rintro v h9 ⟨rfl, b1, b2, b3⟩
  have b2 : h9.2.1 = h'.2.1 := by omega
  have p4 := (b1 (x + 3) (by omega) (by omega)).trans f4
  have p9 := (b1 (x + 15) (by omega) (by omega)).trans f9
  have p10 := (b1 (x + 16) (by omega) (by omega)).trans f10
  have z : ∀ {v : AV}, (0 : Int32).toNatClampNeg < (List.replicate 4000 v).length := fun {v} => by rw [List.length_replicate]; decide
  refine wq_eq q_57_59 (wq_gI p4 rfl (wq_f (by decide) (wq_wr p4 (Nat.le_of_ble_eq_true rfl) (wq_f (by decide) (wq_gR up_eq rfl (wq_len (up_ne (by omega) p9) (by decide) ?_))))))
  rw [List.length_replicate]
  refine wq_t (by decide) (wq_gR up_eq rfl (wq_len (up_ne (by omega) p10) (by decide) ?_))
  rw [List.length_replicate]
  refine wq_t (by decide) (wq_gR up_eq rfl (wq_sI (up_ne (by omega) p9) (by decide) z (wq_gR (up_ne (by omega) up_eq) rfl (wq_sI (up_ne (by omega) (up_ne (by omega) p10)) (by decide) (by rw [List.length_replicate]; decide) (wq_gI (up_ne (by omega) (up_ne (by omega) up_eq)) rfl (wq_wr (up_ne (by omega) (up_ne (by omega) up_eq)) (Nat.le_of_ble_eq_true rfl) (wq_some (rI_i ⟨rfl, ?_⟩))))))))
  have u : ∀ {q : Nat}, x ≤ q → q < x + 656 → clsR x q := fun h1 h2 => ⟨h1, h2⟩
  have k0 : hk (clsR x) 0 0 h' h9 := ⟨fun q h1 h2 => b1 q h1 (fun h3 => h2 ⟨by omega, by omega⟩), by omega, by omega⟩
  exact hk_cast (hk_trans (hk_trans (hk_trans (hk_trans k0 (hk_up (u (by omega) (by omega)))) (hk_up (u (by omega) (by omega)))) (hk_up (u (by omega) (by omega)))) (hk_up (u (by omega) (by omega)))) rfl rfl
theorem c_add1 (hf : fC x h) (hx : x + 656 ≤ h.2.1) (hn : addable c b) : wq (vc lim (d + 5) m_Code_add [aR x, aI c, aI a, aI b] h) (rI fun v h' => v = 0 ∧ kC x h h') := by
  obtain ⟨h1, h2, rfl⟩ := hn
  obtain ⟨f1, -, -, f4, f5, -⟩ := id hf
  refine wq_eq e_Code_add (wq_f h1 (wq_t h2 (wq_f (by decide) (wq_gR f1 rfl (wq_gI f4 rfl (wq_t (by decide) (wq_gR f1 rfl (wq_gR f4 rfl (wq_at f5 (wq_cI (c_nFull0 hf) ?_))))))))))
  rintro v h' ⟨rfl, rfl⟩
  refine wq_t rfl (wq_gR f1 rfl (wq_at f4 (wq_cI (c_make0 hf hx) ?_)))
  rintro v h9 ⟨rfl, k⟩
  exact wq_some (rI_i ⟨rfl, 0, 0, by omega, by omega, k⟩)
theorem c_process (hf : fC x h) (hx : x + 656 ≤ h.2.1) : wq (vc lim (d + 5) m_Code_process [aR x] h) (rI fun v h' => v = -1 ∧ kC x h h') := by
  obtain ⟨f1, f2, -, f4, f5, f6, f7, -, -, -, f11, f12, -⟩ := id hf
  have fw : wq (vc lim (d + 4) m_Looker_firstWrong [aR (x + 17)] h) (rI fun v h' => v = -1 ∧ h' = h) := wq_eq e_Looker_firstWrong (wq_eq q_54_2 (wq_gR f11 rfl (wq_gI f5 rfl (wq_f (by decide) (wq_some (rI_i ⟨rfl, rfl⟩))))))
  have ob : wq (vc lim (d + 4) m_Looker_isOneBody [aR (x + 17)] h) (rI fun v h' => v = 0 ∧ h' = h) := wq_eq e_Looker_isOneBody (wq_gR f11 rfl (wq_gI f4 rfl (wq_f (by decide) (wq_0 (wq_some (rI_i ⟨rfl, rfl⟩))))))
  refine wq_eq e_Code_process (wq_gR f1 rfl (wq_gR f4 rfl (wq_gI f5 rfl (wq_gI f1 rfl (wq_gR f1 rfl (wq_len f12 (by decide) ?_))))))
  rw [List.length_replicate]
  refine wq_t (by decide) (wq_gI f1 rfl (wq_t (by decide) (wq_gR f1 rfl (wq_at f11 (wq_cI fw ?_)))))
  rintro v h' ⟨rfl, rfl⟩
  refine wq_t rfl (wq_gR f1 rfl (wq_at f11 (wq_cI ob ?_)))
  rintro v h'' ⟨rfl, rfl⟩
  have nc : wq (vc lim (d + 3) m_Nodes_clear [aR (x + 4)] h'') (rV fun h' => hk (fun p => p = x + 4) 0 0 h'' h') := wq_eq e_Nodes_clear (wq_wr f5 (Nat.le_of_ble_eq_true rfl) (wq_wr up_eq (Nat.le_of_ble_eq_true rfl) (wq_some (rV_i (hk_cast (hk_trans (hk_up rfl) (hk_up rfl)) rfl rfl)))))
  have mc : wq (vc lim (d + 4) m_Maker_clear [aR (x + 3)] h'') (rV fun h' => hk (clsR x) 0 0 h'' h') := by
    refine wq_eq e_Maker_clear (wq_gR f4 rfl (wq_at f5 (wq_cV nc ?_)))
    intro h2 ⟨k1, k2, k3⟩
    have p4 := (k1 (x + 3) (by omega) (by omega)).trans f4
    have p7 := (k1 (x + 13) (by omega) (by omega)).trans f7
    have tc : wq (vc lim (d + 3) m_Things_clear [aR (x + 13)] h2) (rV fun h' => h' = ah_up h2 (x + 13) (8, [aR (x + 14), aI 0])) := wq_eq e_Things_clear (wq_wr p7 (Nat.le_of_ble_eq_true rfl) (wq_some (rV_i rfl)))
    refine wq_gR p4 rfl (wq_at p7 (wq_cV tc ?_))
    rintro h4 rfl
    refine wq_wr (up_ne (by omega) p4) (Nat.le_of_ble_eq_true rfl) (wq_some (rV_i ?_))
    have u : ∀ {q : Nat}, x ≤ q → q < x + 656 → clsR x q := fun h1 h2 => ⟨h1, h2⟩
    have k0 : hk (clsR x) 0 0 h'' h2 := ⟨fun q h1 h2 => k1 q h1 (fun h3 => h2 ⟨by omega, by omega⟩), k2, k3⟩
    exact hk_cast (hk_trans (hk_trans k0 (hk_up (u (by omega) (by omega)))) (hk_up (u (by omega) (by omega)))) rfl rfl
  refine wq_t rfl (wq_t rfl (wq_gR f1 rfl (wq_at f4 (wq_cV mc ?_))))
  intro h9 k
  exact wq_some (rI_i ⟨rfl, 0, 0, by omega, by omega, k⟩)
end Ac
