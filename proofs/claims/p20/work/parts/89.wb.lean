/-! WHAT IS TOLD, in the class -/
/-- acts, values, the acts' ints (seven rows), limits, delays, values -/
abbrev TD : Type := Nat × Nat × (Nat → Nat → Int32) × (Nat → Int64) × (Nat → Int64) × (Nat → WD)
abbrev tlA (f : Nat → Int32) : List AV := (List.range 200).map fun i => aI (f i)
abbrev tdF (x : Nat) (c t : Int32) : List AV := [aR (x + 20 + 0), aR (x + 20 + 1), aR (x + 20 + 2), aR (x + 20 + 3), aR (x + 20 + 4), aR (x + 20 + 5), aR (x + 20 + 6), aR (x + 27), aR (x + 28), aR (x + 29), aI c, aI t]
def TO (x : Nat) (τ : TD) (h : ah_H) : Prop := (∃ c t : Int32, h.1 (x + 19) = some (9, tdF x c t) ∧ c.toInt = τ.1 ∧ t.toInt = τ.2.1) ∧ (∀ j, j < 7 → h.1 (x + 20 + j) = some (100, tlA (τ.2.2.1 j))) ∧ h.1 (x + 27) = some (101, cnA 200 τ.2.2.2.1) ∧ h.1 (x + 28) = some (101, cnA 500 τ.2.2.2.2.1) ∧ h.1 (x + 29) = some (111, (List.range 500).map fun i => aR (x + 30 + i)) ∧ (∀ i, i < 500 → h.1 (x + 30 + i) = some (1, dW (τ.2.2.2.2.2 i))) ∧ τ.1 ≤ 200 ∧ τ.2.1 ≤ 500
/-- only what is told has changed -/
def TF (x : Nat) (h h' : ah_H) : Prop := (∀ q, q < x + 19 ∨ x + 530 ≤ q → h'.1 q = h.1 q) ∧ h'.2.1 = h.2.1 ∧ h'.2.2.1 = h.2.2.1
abbrev tI2 (τ : TD) (j i : Nat) (y : Int32) : TD := (τ.1, τ.2.1, up2 τ.2.2.1 j i y, τ.2.2.2)
section Wb
variable {lim : Nat × Nat} {d x i j : Nat} {τ : TD} {h h' : ah_H} {k y v a : Int32} {z : Int64} {ρ : Type} {Φ : ρ → Prop}
theorem TF_0 : TF x h h := ⟨fun _ _ => rfl, rfl, rfl⟩
theorem TF_tr {h1 h2 h3 : ah_H} (a : TF x h1 h2) (c : TF x h2 h3) : TF x h1 h3 := ⟨fun q k => (c.1 q k).trans (a.1 q k), c.2.1.trans a.2.1, c.2.2.trans a.2.2⟩
theorem tl_get {f : Nat → Int32} (hi : i < 200) : (tlA f)[i]? = some (aI (f i)) := by
  show ((List.range 200).map _)[i]? = _
  rw [List.getElem?_map, List.getElem?_range hi]
  rfl
theorem tl_set {f : Nat → Int32} : (tlA f).set i (aI y) = tlA (upS f i y) := by
  apply List.ext_getElem?
  intro q
  by_cases hj : q < 200
  · rw [tl_get hj]
    by_cases e : i = q
    · subst e
      rw [List.getElem?_set_self (by rw [List.length_map, List.length_range]; exact hj), upS_eq]
    · rw [List.getElem?_set_ne e, tl_get hj, upS_ne (fun q => e q.symm)]
  · rw [List.getElem?_eq_none (by rw [List.length_set, List.length_map, List.length_range]; omega), List.getElem?_eq_none (by rw [List.length_map, List.length_range]; omega)]
theorem da_get (hi : i < 500) : ((List.range 500).map fun i => aR (x + 30 + i))[i]? = some (aR (x + 30 + i)) := by
  rw [List.getElem?_map, List.getElem?_range hi]
  rfl
theorem TO_tf (O : TO x τ h) {h' : ah_H} (k : ∀ q, x + 19 ≤ q → q < x + 530 → h'.1 q = h.1 q) : TO x τ h' := by
  obtain ⟨⟨c, t, o1, o2, o3⟩, o4, o5, o6, o7, o8, o9⟩ := O
  exact ⟨⟨c, t, (k _ (by omega) (by omega)).trans o1, o2, o3⟩, fun j hj => (k _ (by omega) (by omega)).trans (o4 j hj), (k _ (by omega) (by omega)).trans o5, (k _ (by omega) (by omega)).trans o6, (k _ (by omega) (by omega)).trans o7, fun i hi => (k _ (by omega) (by omega)).trans (o8 i hi), o9⟩
theorem tw_I {K : ah_H → Option ρ} (O : TO x τ h) (hj : j < 7) (hk : k.toInt = i) (hi : i < 200) (c : ∀ h', TO x (tI2 τ j i y) h' → TF x h h' → wq (K h') Φ) : wq (ah_sI h (some (x + 20 + j)) 100 k (aI y) K) Φ := by
  have ek : k.toInt.toNat = i := by omega
  obtain ⟨⟨c0, t, o1, o2, o3⟩, o4, o5, o6, o7, o8, o9⟩ := O
  refine wq_sI (o4 j hj) (ix_ge (by omega)) (by rw [List.length_map, List.length_range]; exact ix_lt (by omega) (by omega)) (c _ ⟨⟨c0, t, up_ne (by omega) o1, o2, o3⟩, fun q hq => ?_, up_ne (by omega) o5, up_ne (by omega) o6, up_ne (by omega) o7, fun q hq => up_ne (by omega) (o8 q hq), o9⟩ ⟨fun q hq => up_ne (by omega) rfl, rfl, rfl⟩)
  by_cases e : q = j
  · subst e
    rw [up_eq]
    show some (100, (tlA (τ.2.2.1 q)).set k.toInt.toNat (aI y)) = _
    rw [tl_set, ek]
    refine congrArg (fun l => some (100, l)) (congrArg tlA (funext fun p => ?_))
    show upS (τ.2.2.1 q) i y p = up2 τ.2.2.1 q i y q p
    by_cases e2 : p = i
    · subst e2
      rw [upS_eq, up2_eq]
    · rw [upS_ne e2, up2_ni e2]
  · refine up_ne (by omega) ((o4 q hq).trans (congrArg (fun l => some (100, l)) (congrArg tlA (funext fun p => ?_))))
    show τ.2.2.1 q p = up2 τ.2.2.1 j i y q p
    rw [up2_nj e]
theorem tw_L {K : ah_H → Option ρ} (O : TO x τ h) (hk : k.toInt = i) (hi : i < 200) (c : ∀ h', TO x (τ.1, τ.2.1, τ.2.2.1, upS τ.2.2.2.1 i z, τ.2.2.2.2) h' → TF x h h' → wq (K h') Φ) : wq (ah_sI h (some (x + 27)) 101 k (aJ z) K) Φ := by
  have ek : k.toInt.toNat = i := by omega
  obtain ⟨⟨c0, t, o1, o2, o3⟩, o4, o5, o6, o7, o8, o9⟩ := O
  refine wq_sI o5 (ix_ge (by omega)) (by rw [cn_len]; exact ix_lt (by omega) (by omega)) (c _ ⟨⟨c0, t, up_ne (by omega) o1, o2, o3⟩, fun q hq => up_ne (by omega) (o4 q hq), ?_, up_ne (by omega) o6, up_ne (by omega) o7, fun q hq => up_ne (by omega) (o8 q hq), o9⟩ ⟨fun q hq => up_ne (by omega) rfl, rfl, rfl⟩)
  rw [up_eq]
  show some (101, (cnA 200 τ.2.2.2.1).set k.toInt.toNat (aJ z)) = _
  rw [cn_set, ek]
theorem tw_D {K : ah_H → Option ρ} (O : TO x τ h) (hk : k.toInt = i) (hi : i < 500) (c : ∀ h', TO x (τ.1, τ.2.1, τ.2.2.1, τ.2.2.2.1, upS τ.2.2.2.2.1 i z, τ.2.2.2.2.2) h' → TF x h h' → wq (K h') Φ) : wq (ah_sI h (some (x + 28)) 101 k (aJ z) K) Φ := by
  have ek : k.toInt.toNat = i := by omega
  obtain ⟨⟨c0, t, o1, o2, o3⟩, o4, o5, o6, o7, o8, o9⟩ := O
  refine wq_sI o6 (ix_ge (by omega)) (by rw [cn_len]; exact ix_lt (by omega) (by omega)) (c _ ⟨⟨c0, t, up_ne (by omega) o1, o2, o3⟩, fun q hq => up_ne (by omega) (o4 q hq), up_ne (by omega) o5, ?_, up_ne (by omega) o7, fun q hq => up_ne (by omega) (o8 q hq), o9⟩ ⟨fun q hq => up_ne (by omega) rfl, rfl, rfl⟩)
  rw [up_eq]
  show some (101, (cnA 500 τ.2.2.2.2.1).set k.toInt.toNat (aJ z)) = _
  rw [cn_set, ek]
/-- reading fields of it -/
theorem tr_R {K : Option Nat → Option ρ} {q : Nat} {r : Option Nat} (O : TO x τ h) (hq : ∀ c t : Int32, (tdF x c t)[q]? = some (.inr (.inr r))) (c : wq (K r) Φ) : wq (ah_gR h (some (x + 19)) 9 q K) Φ := by
  obtain ⟨⟨c0, t, o1, -⟩, -⟩ := O
  exact wq_gR o1 (hq c0 t) c
theorem tr_c {K : Int32 → Option ρ} (O : TO x τ h) (c : ∀ c : Int32, c.toInt = τ.1 → wq (K c) Φ) : wq (ah_gI h (some (x + 19)) 9 10 K) Φ := by
  obtain ⟨⟨c0, t, o1, o2, o3⟩, -⟩ := O
  exact wq_gI o1 rfl (c c0 o2)
theorem tr_t {K : Int32 → Option ρ} (O : TO x τ h) (c : ∀ c : Int32, c.toInt = τ.2.1 → wq (K c) Φ) : wq (ah_gI h (some (x + 19)) 9 11 K) Φ := by
  obtain ⟨⟨c0, t, o1, o2, o3⟩, -⟩ := O
  exact wq_gI o1 rfl (c t o3)
theorem tr_at {K : Nat → List AV → Option ρ} (O : TO x τ h) (c : ∀ vs, wq (K (x + 19) vs) Φ) : wq (ah_at h (some (x + 19)) 9 K) Φ := by
  obtain ⟨⟨c0, t, o1, o2, o3⟩, -⟩ := O
  exact wq_at o1 (c _)
theorem tr_I {K : Int32 → Option ρ} (O : TO x τ h) (hj : j < 7) (hk : k.toInt = i) (hi : i < 200) (c : wq (K (τ.2.2.1 j i)) Φ) : wq (ah_lI h (some (x + 20 + j)) 100 k K) Φ := wq_lI (O.2.1 j hj) (ix_ge (by omega)) (by show (tlA _)[k.toInt.toNat]? = _; rw [show k.toInt.toNat = i by omega]; exact tl_get hi) c
/-- count and total -/
theorem tw_c {K : ah_H → Option ρ} {n : Nat} (O : TO x τ h) (hy : y.toInt = n) (hn : n ≤ 200) (c : ∀ h', TO x (n, τ.2) h' → TF x h h' → wq (K h') Φ) : wq (ah_wr h (some (x + 19)) 9 10 (aI y) K) Φ := by
  obtain ⟨⟨c0, t, o1, o2, o3⟩, o4, o5, o6, o7, o8, o9, o10⟩ := O
  exact wq_wr o1 (Nat.le_of_ble_eq_true rfl) (c _ ⟨⟨y, t, up_eq, hy, o3⟩, fun q hq => up_ne (by omega) (o4 q hq), up_ne (by omega) o5, up_ne (by omega) o6, up_ne (by omega) o7, fun q hq => up_ne (by omega) (o8 q hq), hn, o10⟩ ⟨fun q hq => up_ne (by omega) rfl, rfl, rfl⟩)
theorem tw_t {K : ah_H → Option ρ} {n : Nat} (O : TO x τ h) (hy : y.toInt = n) (hn : n ≤ 500) (c : ∀ h', TO x (τ.1, n, τ.2.2) h' → TF x h h' → wq (K h') Φ) : wq (ah_wr h (some (x + 19)) 9 11 (aI y) K) Φ := by
  obtain ⟨⟨c0, t, o1, o2, o3⟩, o4, o5, o6, o7, o8, o9, o10⟩ := O
  exact wq_wr o1 (Nat.le_of_ble_eq_true rfl) (c _ ⟨⟨c0, y, up_eq, o2, hy⟩, fun q hq => up_ne (by omega) (o4 q hq), up_ne (by omega) o5, up_ne (by omega) o6, up_ne (by omega) o7, fun q hq => up_ne (by omega) (o8 q hq), o9, hn⟩ ⟨fun q hq => up_ne (by omega) rfl, rfl, rfl⟩)
theorem c_tclear (O : TO x τ h) : wq (vc lim (d + 1) m_Told_clear [aR (x + 19)] h) (rV fun h' => TO x (0, 0, τ.2.2) h' ∧ TF x h h') := wq_eq e_Told_clear (tw_c (n := 0) O rfl (by omega) fun h1 O1 F1 => tw_t (n := 0) O1 rfl (by omega) fun h2 O2 F2 => wq_some (rV_i ⟨O2, TF_tr F1 F2⟩))
theorem c_has (O : TO x τ h) : wq (vc lim (d + 1) m_Told_has [aR (x + 19), aI v] h) (rI fun y h' => h' = h ∧ y = bI (decide (0 ≤ v.toInt ∧ v.toInt < τ.1))) := by
  have o9 := O.2.2.2.2.2.2.1
  refine wq_eq e_Told_has (wq_if _ (fun c => ?_) (fun c => tr_c O fun c0 hc => wq_if _ (fun c1 => ?_) (fun c1 => ?_)))
  · have : v.toInt < 0 := lt_i c
    exact wq_t (by decide) (wq_some (rI_i ⟨rfl, by rw [decide_eq_false (by omega)]; rfl⟩))
  · have h0 : 0 ≤ v.toInt := nlt_i c
    have h1 := lt_i c1
    refine wq_t (Int32.lt_iff_toInt_lt.mpr (by show v.toInt < 200; omega)) (wq_t (by decide) (wq_some (rI_i ⟨rfl, by rw [decide_eq_true (by omega)]; rfl⟩)))
  · have h1 := nlt_i c1
    exact wq_t (by decide) (wq_some (rI_i ⟨rfl, by rw [decide_eq_false (by omega)]; rfl⟩))
theorem c_hasRoom (O : TO x τ h) (h0 : 0 ≤ v.toInt) (h1 : v.toInt ≤ 16) : wq (vc lim (d + 1) m_Told_hasRoomFor [aR (x + 19), aI v] h) (rI fun y h' => h' = h ∧ y = bI (decide (τ.1 < 200 ∧ (τ.2.1 : Int) + v.toInt ≤ 500))) := by
  have o10 := O.2.2.2.2.2.2.2
  refine wq_eq e_Told_hasRoomFor (tr_c O fun c0 hc => wq_if _ (fun c => tr_t O fun t0 ht => wq_if _ (fun c1 => ?_) (fun c1 => ?_)) (fun c => ?_))
  · have h2 : c0.toInt < 200 := lt_i c
    have h3 : (t0 + v).toInt ≤ 500 := le_i c1
    rw [ad_i (by omega) (by omega)] at h3
    exact wq_t (by decide) (wq_some (rI_i ⟨rfl, by rw [decide_eq_true (by omega)]; rfl⟩))
  · have h3 : 500 < (t0 + v).toInt := nle_i c1
    rw [ad_i (by omega) (by omega)] at h3
    exact wq_t (by decide) (wq_some (rI_i ⟨rfl, by rw [decide_eq_false (by omega)]; rfl⟩))
  · have h2 : 200 ≤ c0.toInt := nlt_i c
    exact wq_t (by decide) (wq_some (rI_i ⟨rfl, by rw [decide_eq_false (by omega)]; rfl⟩))
/-- an act more -/
def tAct (τ : TD) (r s f m o t : Int32) (l : Int64) : TD := (τ.1 + 1, τ.2.1, (tI2 (tI2 (tI2 (tI2 (tI2 (tI2 (tI2 τ 0 τ.1 r) 1 τ.1 s) 2 τ.1 f) 3 τ.1 m) 4 τ.1 o) 5 τ.1 0) 6 τ.1 t).2.2.1, upS τ.2.2.2.1 τ.1 l, τ.2.2.2.2)
theorem c_tellReport (O : TO x τ h) (hc : τ.1 < 200) : wq (vc lim (d + 2) m_Told_tellReport [aR (x + 19), aI y] h) (rV fun h' => (∃ t : Int32, t.toInt = τ.2.1 ∧ TO x (tAct τ 1 y 0 0 0 t 0) h') ∧ TF x h h') := by
  have o10 := O.2.2.2.2.2.2.2
  refine wq_eq e_Told_tellReport (tr_at O fun _ => wq_cI (c_hasRoom (v := 0) O (by decide) (by decide)) ?_)
  rintro _ _ ⟨rfl, rfl⟩
  rw [decide_eq_true ⟨hc, by show (τ.2.1 : Int) + 0 ≤ 500; omega⟩]
  refine wq_f (by decide) ?_
  refine tr_R O (fun _ _ => rfl) (tr_c O fun c0 e0 => tw_I (j := 0) O (by omega) e0 hc fun h1 O1 F1 => ?_)
  refine tr_R O1 (fun _ _ => rfl) (tr_c O1 fun c0 e0 => tw_I (j := 1) O1 (by omega) e0 hc fun h2 O2 F2 => ?_)
  refine tr_R O2 (fun _ _ => rfl) (tr_c O2 fun c0 e0 => tw_I (j := 2) O2 (by omega) e0 hc fun h3 O3 F3 => ?_)
  refine tr_R O3 (fun _ _ => rfl) (tr_c O3 fun c0 e0 => tw_I (j := 3) O3 (by omega) e0 hc fun h4 O4 F4 => ?_)
  refine tr_R O4 (fun _ _ => rfl) (tr_c O4 fun c0 e0 => tw_I (j := 4) O4 (by omega) e0 hc fun h5 O5 F5 => ?_)
  refine tr_R O5 (fun _ _ => rfl) (tr_c O5 fun c0 e0 => tw_I (j := 5) O5 (by omega) e0 hc fun h6 O6 F6 => ?_)
  refine tr_R O6 (fun _ _ => rfl) (tr_c O6 fun c0 e0 => tr_t O6 fun t0 et => tw_I (j := 6) O6 (by omega) e0 hc fun h7 O7 F7 => ?_)
  refine tr_R O7 (fun _ _ => rfl) (tr_c O7 fun c0 e0 => tw_L O7 e0 hc fun h8 O8 F8 => ?_)
  refine tr_c O8 fun c0 e0 => tw_c (n := τ.1 + 1) O8 ?_ (by omega) fun h9 O9 F9 => wq_some (rV_i ⟨⟨t0, et, O9⟩, TF_tr F1 (TF_tr F2 (TF_tr F3 (TF_tr F4 (TF_tr F5 (TF_tr F6 (TF_tr F7 (TF_tr F8 F9)))))))⟩)
  have e0 : c0.toInt = τ.1 := e0
  rw [ad_i (by show _ ≤ c0.toInt + 1; omega) (by show c0.toInt + 1 ≤ _; omega), e0]
  rfl
theorem c_tellAssign {s f m o : Int32} (O : TO x τ h) (hc : τ.1 < 200) : wq (vc lim (d + 2) m_Told_tellAssign [aR (x + 19), aI s, aI f, aI m, aI o, aJ z] h) (rV fun h' => (∃ t : Int32, t.toInt = τ.2.1 ∧ TO x (tAct τ 0 s f m o t z) h') ∧ TF x h h') := by
  have o10 := O.2.2.2.2.2.2.2
  refine wq_eq e_Told_tellAssign (tr_at O fun _ => wq_cI (c_hasRoom (v := 0) O (by decide) (by decide)) ?_)
  rintro _ _ ⟨rfl, rfl⟩
  rw [decide_eq_true ⟨hc, by show (τ.2.1 : Int) + 0 ≤ 500; omega⟩]
  refine wq_f (by decide) ?_
  refine tr_R O (fun _ _ => rfl) (tr_c O fun c0 e0 => tw_I (j := 0) O (by omega) e0 hc fun h1 O1 F1 => ?_)
  refine tr_R O1 (fun _ _ => rfl) (tr_c O1 fun c0 e0 => tw_I (j := 1) O1 (by omega) e0 hc fun h2 O2 F2 => ?_)
  refine tr_R O2 (fun _ _ => rfl) (tr_c O2 fun c0 e0 => tw_I (j := 2) O2 (by omega) e0 hc fun h3 O3 F3 => ?_)
  refine tr_R O3 (fun _ _ => rfl) (tr_c O3 fun c0 e0 => tw_I (j := 3) O3 (by omega) e0 hc fun h4 O4 F4 => ?_)
  refine tr_R O4 (fun _ _ => rfl) (tr_c O4 fun c0 e0 => tw_I (j := 4) O4 (by omega) e0 hc fun h5 O5 F5 => ?_)
  refine tr_R O5 (fun _ _ => rfl) (tr_c O5 fun c0 e0 => tw_I (j := 5) O5 (by omega) e0 hc fun h6 O6 F6 => ?_)
  refine tr_R O6 (fun _ _ => rfl) (tr_c O6 fun c0 e0 => tr_t O6 fun t0 et => tw_I (j := 6) O6 (by omega) e0 hc fun h7 O7 F7 => ?_)
  refine tr_R O7 (fun _ _ => rfl) (tr_c O7 fun c0 e0 => tw_L O7 e0 hc fun h8 O8 F8 => ?_)
  refine tr_c O8 fun c0 e0 => tw_c (n := τ.1 + 1) O8 ?_ (by omega) fun h9 O9 F9 => wq_some (rV_i ⟨⟨t0, et, O9⟩, TF_tr F1 (TF_tr F2 (TF_tr F3 (TF_tr F4 (TF_tr F5 (TF_tr F6 (TF_tr F7 (TF_tr F8 F9)))))))⟩)
  have e0 : c0.toInt = τ.1 := e0
  rw [ad_i (by show _ ≤ c0.toInt + 1; omega) (by show c0.toInt + 1 ≤ _; omega), e0]
  rfl
/-- a value more -/
def tVal (τ : TD) (w : WD) (z : Int64) : TD := (τ.1, τ.2.1 + 1, up2 τ.2.2.1 5 (τ.1 - 1) (τ.2.2.1 5 (τ.1 - 1) + 1), τ.2.2.2.1, upS τ.2.2.2.2.1 τ.2.1 z, upS τ.2.2.2.2.2 τ.2.1 w)
theorem c_tellValue {q : Nat} {w : WD} (O : TO x τ h) (hc : 1 ≤ τ.1) (ht : τ.2.1 < 500) (eq : h.1 q = some (1, dW w)) (hq : q < x + 19 ∨ x + 530 ≤ q) : wq (vc lim (d + 2) m_Told_tellValue [aR (x + 19), aR q, aJ z] h) (rV fun h' => TO x (tVal τ w z) h' ∧ TF x h h') := by
  have o9 := O.2.2.2.2.2.2.1
  have m1 : ∀ c0 : Int32, c0.toInt = τ.1 → (c0 - 1).toInt = ((τ.1 - 1 : Nat) : Int) := fun c0 e0 => by
    rw [sb_i (by show _ ≤ c0.toInt - 1; omega) (by show c0.toInt - 1 ≤ _; omega)]
    show c0.toInt - 1 = _
    omega
  refine wq_eq e_Told_tellValue (tr_c O fun c0 e0 => tr_at O fun _ => wq_cI (c_has O) ?_)
  rintro _ _ ⟨rfl, rfl⟩
  have := m1 c0 e0
  rw [decide_eq_true (by omega)]
  refine wq_f (by decide) (tr_t O fun t0 et => wq_f (ix_ge (by omega)) (tr_t O fun t1 et1 => wq_t (Int32.lt_iff_toInt_lt.mpr (by show t1.toInt < 500; omega)) ?_))
  refine tr_R O (fun _ _ => rfl) (tr_t O fun t2 et2 => wq_lR O.2.2.2.2.1 (by decide) (ix_ge (by omega)) (by show ((List.range 500).map _)[t2.toInt.toNat]? = _; rw [show t2.toInt.toNat = τ.2.1 by omega]; exact da_get ht) ?_)
  have ed := O.2.2.2.2.2.1 τ.2.1 ht
  refine wq_at ed (wq_cV (c_copy ed eq (by omega)) fun h1 u => ?_)
  have O1 : TO x (τ.1, τ.2.1, τ.2.2.1, τ.2.2.2.1, τ.2.2.2.2.1, upS τ.2.2.2.2.2 τ.2.1 w) h1 := by
    obtain ⟨⟨c, t, o1, o2, o3⟩, o4, o5, o6, o7, o8, o9'⟩ := O
    refine ⟨⟨c, t, U1_ne u (by omega) o1, o2, o3⟩, fun j hj => U1_ne u (by omega) (o4 j hj), U1_ne u (by omega) o5, U1_ne u (by omega) o6, U1_ne u (by omega) o7, fun i hi => ?_, o9'⟩
    by_cases e : i = τ.2.1
    · subst e
      show h1.1 _ = some (1, dW (upS τ.2.2.2.2.2 τ.2.1 w τ.2.1))
      rw [upS_eq]
      exact u.1
    · show h1.1 _ = some (1, dW (upS τ.2.2.2.2.2 τ.2.1 w i))
      rw [upS_ne e]
      exact U1_ne u (by omega) (o8 i hi)
  have F1 : TF x _ h1 := ⟨fun q hq => u.2.1 q (by omega), u.2.2⟩
  refine tr_R O1 (fun _ _ => rfl) (tr_t O1 fun t3 et3 => tw_D (i := τ.2.1) O1 et3 ht fun h2 O2 F2 => ?_)
  refine tr_t O2 fun t4 et4 => tw_t (n := τ.2.1 + 1) O2 ?_ (by omega) fun h3 O3 F3 => ?_
  · have et4 : t4.toInt = τ.2.1 := et4
    rw [ad_i (by show _ ≤ t4.toInt + 1; omega) (by show t4.toInt + 1 ≤ _; omega), et4]
    rfl
  refine tr_R O3 (fun _ _ => rfl) (tr_c O3 fun c5 e5 => tr_I (j := 5) (i := τ.1 - 1) O3 (by omega) (m1 c5 e5) (by omega) (tw_I (j := 5) (i := τ.1 - 1) O3 (by omega) (m1 c5 e5) (by omega) fun h4 O4 F4 => wq_some (rV_i ⟨O4, TF_tr F1 (TF_tr F2 (TF_tr F3 F4))⟩)))
/-- where a value of an act is -/
def plT (τ : TD) (i w : Int32) : Int32 := if (0 ≤ i.toInt ∧ i.toInt < τ.1) ∧ 0 ≤ w.toInt ∧ w.toInt < (τ.2.2.1 5 i.toInt.toNat).toInt then τ.2.2.1 6 i.toInt.toNat + w else -1
theorem c_placeOf2 (O : TO x τ h) (hw : (0 ≤ v.toInt ∧ v.toInt < τ.1) → 0 ≤ a.toInt → a.toInt < (τ.2.2.1 5 v.toInt.toNat).toInt → 0 ≤ (τ.2.2.1 6 v.toInt.toNat + a).toInt ∧ (τ.2.2.1 6 v.toInt.toNat + a).toInt < 500) : wq (vc lim (d + 2) m_Told_placeOf [aR (x + 19), aI v, aI a] h) (rI fun y h' => h' = h ∧ y = plT τ v a) := by
  have o9 := O.2.2.2.2.2.2.1
  refine wq_eq e_Told_placeOf (tr_at O fun _ => wq_cI (c_has O) ?_)
  rintro _ _ ⟨rfl, rfl⟩
  by_cases c : 0 ≤ v.toInt ∧ v.toInt < τ.1
  · rw [decide_eq_true c]
    refine wq_f (by decide) (wq_if _ (fun c1 => ?_) (fun c1 => ?_))
    · have h1 : a.toInt < 0 := lt_i c1
      exact wq_some (rI_i ⟨rfl, (if_neg (by omega)).symm⟩)
    · have h1 : 0 ≤ a.toInt := nlt_i c1
      refine tr_R O (fun _ _ => rfl) (tr_I (j := 5) (i := v.toInt.toNat) O (by omega) (by omega) (by omega) (wq_if _ (fun c2 => ?_) (fun c2 => ?_)))
      · have h2 := lt_i c2
        have hb := hw c h1 h2
        refine tr_R O (fun _ _ => rfl) (tr_I (j := 6) (i := v.toInt.toNat) O (by omega) (by omega) (by omega) (wq_f (ix_ge hb.1) (wq_t (Int32.lt_iff_toInt_lt.mpr (by show _ < (500 : Int); exact hb.2)) (wq_some (rI_i ⟨rfl, (if_pos ⟨c, h1, h2⟩).symm⟩)))))
      · have h2 := nlt_i c2
        exact wq_some (rI_i ⟨rfl, (if_neg (by omega)).symm⟩)
  · rw [decide_eq_false c]
    exact wq_t rfl (wq_some (rI_i ⟨rfl, (if_neg (fun q => c q.1)).symm⟩))
end Wb
/-! THE REST OF NODES, THINGS -/
section Wc
variable {lim : Nat × Nat} {d nd a : Nat} {T : KT} {v : Int32} {h h' : ah_H} {z : Int64} {c : TS}
theorem c_loopOf (N : ND nd T h) (P : PO T) (hv : rgN T v) (hu : ∀ x, rgN T x → xU T x = -1 ∨ (rgN T (xU T x) ∧ x.toInt < (xU T x).toInt)) : wq (vc lim (d + 3) m_Nodes_loopOf [aR nd, aI v] h) (rI fun x h' => h' = h ∧ x = lpU T (T.1 + 1) (xU T v)) := by
  have N0 := N
  obtain ⟨A, Ls, cc, kt, e5, ec, -⟩ := N0
  have hT := P.1
  have L : ∀ (n : Nat) (w k : Int32), (w = -1 ∨ (rgN T w ∧ (T.1 : Int) ≤ w.toInt + n)) → 0 ≤ k.toInt → k.toInt + n ≤ T.1 → wq (ah_val lim ah_P (d + 2) 202 8 [some (aR nd), none, some (aI w), some (aI k)] [] h) (rI fun x h' => h' = h ∧ x = lpU T (n + 1) w) := by
    intro n
    induction n with
    | zero =>
      intro w k hw h0 hk
      rcases hw with rfl | ⟨hw, hn⟩
      · refine wq_eq q_202_8 (wq_gI e5 rfl (wq_if _ (fun _ => wq_t rfl (wq_some (rI_i ⟨rfl, ?_⟩))) (fun _ => wq_some (rI_i ⟨rfl, ?_⟩))))
        · rw [lpU, if_pos rfl]
        · rw [lpU, if_pos rfl]
      · have := hw.2
        omega
    | succ n ih =>
      intro w k hw h0 hk
      have ei : (k + 1).toInt = k.toInt + 1 := ad_i (by show _ ≤ k.toInt + 1; omega) (by show k.toInt + 1 ≤ _; omega)
      refine wq_eq q_202_8 (wq_gI e5 rfl (wq_t (Int32.lt_iff_toInt_lt.mpr (by omega)) (wq_if _ (fun c => wq_some (rI_i ⟨rfl, ?_⟩)) (fun c => wq_at e5 (wq_cI (c_isLoop N) ?_)))))
      · rw [lpU, if_pos c]
      · rintro _ _ ⟨rfl, rfl⟩
        rw [lpU, if_neg c]
        cases hl : isLp (xK T w) with
        | true => exact wq_f (by decide) (wq_some (rI_i ⟨rfl, rfl⟩))
        | false =>
          refine wq_t rfl (wq_at e5 (wq_cI (c_parentOf N) ?_))
          rintro _ _ ⟨rfl, rfl⟩
          refine ih (xU T w) (k + 1) ?_ (by omega) (by omega)
          rcases hw with hw | ⟨hw, hn⟩
          · exact absurd hw c
          · rcases hu w hw with q | ⟨q1, q2⟩
            · exact Or.inl q
            · exact Or.inr ⟨q1, by omega⟩
  refine wq_eq e_Nodes_loopOf (wq_at e5 (wq_cI (c_parentOf N) ?_))
  rintro _ _ ⟨rfl, rfl⟩
  refine L T.1 (xU T v) 0 ?_ (by decide) (by rw [Int32.toInt_zero]; omega)
  rcases hu v hv with q | ⟨q1, q2⟩
  · exact Or.inl q
  · exact Or.inr ⟨q1, by have := q1.1; omega⟩
theorem c_allows (C : TC a c h) : wq (vc lim (d + 1) m_Thing_allows [aR a, aJ z] h) (rI fun x h' => h' = h ∧ x = bI (decide (c.2.2.2.2.1.toInt ≤ z.toInt ∧ z.toInt ≤ c.2.2.2.2.2.toInt))) := by
  refine wq_eq e_Thing_allows ?_
  simp only [lgv_lt, lgv_le]
  refine wq_gI C.1 rfl (wq_if _ (fun c1 => ?_) (fun c1 => wq_gI C.1 rfl (wq_if _ (fun c2 => ?_) (fun c2 => ?_))))
  · have h1 := Int64.lt_iff_toInt_lt.mp c1
    rw [Int32.toInt_toInt64] at h1
    exact wq_t (by decide) (wq_some (rI_i ⟨rfl, by rw [decide_eq_false (by omega)]; rfl⟩))
  · have h1 : ¬ z.toInt < _ := fun e => c1 (Int64.lt_iff_toInt_lt.mpr e)
    have h2 := Int64.le_iff_toInt_le.mp c2
    rw [Int32.toInt_toInt64] at h1 h2
    exact wq_t (by decide) (wq_some (rI_i ⟨rfl, by rw [decide_eq_true (by omega)]; rfl⟩))
  · have h2 : ¬ z.toInt ≤ _ := fun e => c2 (Int64.le_iff_toInt_le.mpr e)
    rw [Int32.toInt_toInt64] at h2
    exact wq_t (by decide) (wq_some (rI_i ⟨rfl, by rw [decide_eq_false (by omega)]; rfl⟩))
end Wc
