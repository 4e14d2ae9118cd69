/-! PROCESS: THE REFERENCE, WHOLE -/
section Zzc
variable {lim : Nat × Nat} {d m nS nU nD B fv : Nat} {eS : Nat → TS} {U : Nat → UD} {u : UD} {τ : TD} {dc da db : Nat → Int32} {Bf Vf : Nat → Nat} {hf : Nat → Nat → Nat} {σ σ' σ1 : rS} {l2 l4 : List AV} {A : Nat} {PD : Nat → Nat} {a b : Nat → Int64} {bb h : ah_H} {e : Int32}
/-- trees that are being made: the same -/
theorem sq_e2 (e : ∀ i, ia σ' 12 i = ia σ 12 i) : ∀ (i : Nat) (c : Int32), sq σ' i c = sq σ i c
  | 0, _ => rfl
  | i + 1, c => by
    show sq σ' i (nx1 σ' c) = sq σ i (nx1 σ c)
    have : nx1 σ' c = nx1 σ c := by unfold nx1; rw [e]
    rw [this]
    exact sq_e2 e i _
theorem ch_e (e1 : ∀ i, ia σ' 11 i = ia σ 11 i) (e2 : ∀ i, ia σ' 12 i = ia σ 12 i) (k : Int) (i : Nat) : ch σ' k i = ch σ k i := by
  show sq σ' i (ia σ' 11 k.toNat) = sq σ i (ia σ 11 k.toNat)
  rw [e1]
  exact sq_e2 e2 i _
theorem pTall_w (h19 : σ'.1 19 = σ.1 19) (g : ∀ j i, 8 ≤ j → j ≤ 15 → ia σ' j i = ia σ j i) (X : pTall σ) : pTall σ' := by
  intro k h0 h1
  rw [h19] at h1
  rw [g 13 _ (by omega) (by omega), g 14 _ (by omega) (by omega), g 14 _ (by omega) (by omega)]
  exact X k h0 h1
theorem DX_w (h19 : σ'.1 19 = σ.1 19) (h21 : σ'.1 21 = σ.1 21) (g : ∀ j i, 8 ≤ j → j ≤ 15 → ia σ' j i = ia σ j i) (X : DX σ l2 l4) : DX σ' l2 l4 := by
  obtain ⟨⟨x1, x2, x3⟩, x4⟩ := X
  have ec : ∀ (k : Int) (i : Nat), ch σ' k i = ch σ k i := ch_e (fun i => g 11 i (by omega) (by omega)) (fun i => g 12 i (by omega) (by omega))
  have er : ∀ j, rt σ' j = rt σ j := fun j => by unfold rt; rw [g 15 j (by omega) (by omega)]
  refine ⟨⟨fun k hk => ?_, fun j hj => ?_, fun q => ?_⟩, fun k hk => ?_⟩
  · rw [h19] at hk
    rw [g 10 k (by omega) (by omega)]
    simp only [ec]
    exact x1 k hk
  · rw [h21] at hj
    rw [er, er]
    exact x2 j hj
  · rw [h21] at q
    rw [h19]
    exact x3 q
  · rw [h19] at hk
    exact x4 k hk
theorem pTall_t (g : TG σ σ') (X : pTall σ) : pTall σ' := pTall_w (g.1 19 (by omega)) (fun j i h1 h2 => g.2.1 j i h1 (by omega)) X
theorem DX_t (g : TG σ σ') (X : DX σ l2 l4) : DX σ' l2 l4 := DX_w (g.1 19 (by omega)) (g.1 21 (by omega)) (fun j i h1 h2 => g.2.1 j i h1 (by omega)) X
theorem pTall_v {v1 v2 v3 : Int32} (g : vaR σ σ' v1 v2 v3) (X : pTall σ) : pTall σ' := pTall_w (g.2.1 19 (by omega)) (fun j i h1 h2 => g.2.2.1 j i h1 (by omega)) X
theorem DX_v {v1 v2 v3 : Int32} (g : vaR σ σ' v1 v2 v3) (X : DX σ l2 l4) : DX σ' l2 l4 := DX_w (g.2.1 19 (by omega)) (g.2.1 21 (by omega)) (fun j i h1 h2 => g.2.2.1 j i h1 (by omega)) X
theorem kT_c : kT (sG σ 0 e) l2 l4 = kT σ l2 l4 := by
  have ec : (fun k i : Nat => ch (sG σ 0 e) k i) = fun k i : Nat => ch σ k i := funext fun k => funext fun i => ch_e (σ := σ) (σ' := sG σ 0 e) (fun _ => rfl) (fun _ => rfl) _ _
  unfold kT
  rw [show (sG σ 0 e).1 19 = σ.1 19 from sG_ne (by omega), ec]
theorem kSg_w {i : Nat} {w : WD} (R : RW σ i w) (W : WF w) : kSg σ i = (wI w, wL w) := by
  obtain ⟨r0, r2, r3, r1⟩ := R
  have q : (if ia σ 0 i = 1 then ia σ 1 i else 1) = wL w := by
    rw [r0]
    by_cases c : wI w = 1
    · rw [if_pos c]
      exact (r1 c).1
    · rw [if_neg c]
      exact (W.2.2.1 c).symm
  show (ia σ 0 i, if ia σ 0 i = 1 then ia σ 1 i else 1) = _
  rw [q, r0]
theorem kSg_d {i : Nat} (D : DRx nD dc da db σ) (h9 : (σ.1 9).toInt = nD) (dw : DW σ) (hi : i < nD) : kSg σ (9216 + i) = (dc i, if dc i = 1 then da i else 1) := by
  obtain ⟨d1, d2, d3, d4⟩ := D.2 i hi
  show (ia σ 0 (9216 + i), if ia σ 0 (9216 + i) = 1 then ia σ 1 (9216 + i) else 1) = _
  have q : (if ia σ 0 (9216 + i) = 1 then ia σ 1 (9216 + i) else 1) = if dc i = 1 then da i else 1 := by
    by_cases c : dc i = 1
    · rw [d2, if_pos c, if_pos c, ← d3]
      exact dw i (by omega) (d2.trans c)
    · rw [d2, if_neg c, if_neg c]
  rw [q, d2]
theorem PG_new (X : RX nS eS nU U τ nD dc da db Bf Vf hf σ) (OK : ∀ j : Int, 0 ≤ j → j < (σ.1 19).toInt → okN σ j) (PT : pTall σ) (D : DI σ) (dx : DX σ l2 l4) (dw : DW σ) : PG nS (kSe eS) (A, kT σ l2 l4, nD, PD, (fun i => thI (dc i) (da i) (db i)), usN, a, b) := by
  obtain ⟨-, x2, ⟨x3, -, -, x6⟩, -, x8, -⟩ := X
  have n7 : (σ.1 7).toInt.toNat = nS := by omega
  have n9 : (σ.1 9).toInt.toNat = nD := by omega
  have kS : ∀ i, i < nS → kSe eS i = kSg σ i := fun i hi => by
    obtain ⟨⟨p1, -, p3, -⟩, -⟩ := x2.2 i hi
    exact (kSg_w p1 p3).symm
  have kV : ∀ i, i < nD → kSg σ (9216 + i) = (dc i, if dc i = 1 then da i else 1) := fun i hi => kSg_d x8 x6 dw hi
  have g := tk_GKA OK PT D dx ⟨by omega, by omega⟩
  rw [n7, n9] at g
  refine ⟨fun i => kSg σ (9216 + i), ⟨GKA_le g (Nat.le_refl _) kS, fun _ => Or.inl rfl, fun i hi => ?_, fun _ => rfl, fun c => absurd (show (0 : Int32) = 1 from c) (by decide), Or.inl rfl⟩, fun nS' kS' eS' h1 h2 v hv => ?_, fun i hi => ?_, fun i hi => ?_⟩
  · show (thI (dc i) (da i) (db i)).1.1 = (kSg σ (9216 + i)).1 ∧ (thI (dc i) (da i) (db i)).1.2.1 = (kSg σ (9216 + i)).2
    rw [kV i hi]
    exact ⟨rfl, rfl⟩
  · have q := g_Sr (σ := σ) (l2 := l2) (l4 := l4) (v := v) (nS' := nS') (kS' := kS') (eS' := eS') (kV := fun i => kSg σ (9216 + i)) OK D ⟨by omega, by omega⟩ (fun i hi => (h2 i (by omega)).trans (kS i (by omega))) (by omega) (fun _ _ => rfl) hv
    rw [n9] at q
    exact q
  · show (thI (dc i) (da i) (db i)).1.1 = (kSg σ (9216 + i)).1 ∧ (thI (dc i) (da i) (db i)).1.2.1 = (kSg σ (9216 + i)).2 ∧ (thI (dc i) (da i) (db i)).2.1.1 = (kSg σ (9216 + i)).1 ∧ (thI (dc i) (da i) (db i)).2.1.2.1 = (kSg σ (9216 + i)).2
    rw [kV i hi]
    exact ⟨rfl, rfl, rfl, rfl⟩
  · intro z
    have z : dc i = 2 := z
    have ok := (x8.2 i hi).1
    show -2147483647 ≤ (if dc i = 2 then da i else 0).toInt
    rw [if_pos z]
    unfold okK at ok
    rw [z, show (2 : Int32).toInt = 2 from rfl] at ok
    omega
/-- the new process in the reference -/
theorem PX_new (X : RX nS eS nU U τ nD dc da db Bf Vf hf σ) (OK : ∀ j : Int, 0 ≤ j → j < (σ.1 19).toInt → okN σ j) (PT : pTall σ) (D : DI σ) (ob : oneB σ) (dx : DX σ l2 l4) (h8 : (σ.1 8).toInt = fv) (h22 : (σ.1 22).toInt + 4000 = B) (h4 : 4000 ≤ B) (hBN : B + (σ.1 19).toInt.toNat ≤ 24000) (f8 : fv + nD ≤ 8192) (hU : nU < 64) (K : kpP σ σ1 B (σ.1 19).toInt.toNat nU) (E : eqS σ1 σ') (V : VMx fv nD dc da db σ') (i23 : ia σ' 23 nU = 0) : PX (A, kT σ l2 l4, nD, PD, (fun i => thI (dc i) (da i) (db i)), usN, a, b) B fv nU (fun k => (ia σ 14 k).toInt.toNat) σ' := by
  obtain ⟨-, x2, ⟨x3, -, -, x6⟩, -, x8, -⟩ := X
  obtain ⟨-, -, k3, k4, -, k6, -, -, -, -, k11, k12, k13, k14, k15, -⟩ := K
  have e1 : (1 : Int32).toInt = 1 := rfl
  have c1 : (σ.1 21).toInt = 1 := congrArg Int32.toInt ob.1
  have d0 := D.1
  have d1 := D.2.1
  have d3 := D.2.2.2.1
  have g : ∀ j, j = 17 ∨ j = 18 ∨ j = 19 ∨ j = 20 ∨ j = 26 → ia σ' j nU = ia σ1 j nU := fun j hj => by
    rcases hj with rfl | rfl | rfl | rfl | rfl <;> exact E.2.1 _ nU (by decide) (show nU < 64 by omega) (by decide)
  have kr : KR σ σ' B := fun k hk => by
    have q := k6 k hk
    have t : ∀ j, j = 8 ∨ j = 9 ∨ j = 10 ∨ j = 11 ∨ j = 12 → ia σ' j (B + k) = ia σ1 j (B + k) := fun j hj => by
      rcases hj with rfl | rfl | rfl | rfl | rfl <;> exact E.2.1 _ _ (by decide) (show B + k < 24000 by omega) (by decide)
    rw [t 8 (by omega), t 9 (by omega), t 10 (by omega), t 11 (by omega), t 12 (by omega)]
    exact q
  have N := NB_KR (l2 := l2) (l4 := l4) D kr ⟨by omega, by omega⟩
  have en : (Nat.toInt32 (σ.1 19).toInt.toNat).toInt = (σ.1 19).toInt := by rw [i32n (by omega)]; omega
  have er : (rtV (kT σ l2 l4)).toInt = (σ.1 19).toInt - 1 := by
    show (Nat.toInt32 (σ.1 19).toInt.toNat - 1).toInt = _
    rw [sb_i (by omega) (by omega), en, e1]
  refine ⟨⟨tk_PO D dx, HT_k OK PT D, root_k D ob⟩, UVx_0 N f8 hU ?_ ?_ V, UWx_0 ?_ i23 ?_ rfl rfl rfl, ?_, ?_, ?_⟩
  · rw [g 18 (by omega), k12]
    exact h8
  · rw [g 17 (by omega), k11, er]
    omega
  · rw [g 20 (by omega)]
    exact Int32.toInt_inj.mp k14
  · rw [g 26 (by omega)]
    exact k15
  · rw [g 19 (by omega), k13]
    exact x6
  · rw [E.1 8 (by omega), k3]
    show (fv : Int) + nD ≤ _
    omega
  · rw [E.1 22 (by omega), k4]
    show (B : Int) + (((σ.1 19).toInt.toNat : Nat) : Int) ≤ _
    omega
end Zzc
