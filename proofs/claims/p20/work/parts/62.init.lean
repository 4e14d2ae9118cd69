/-! THE CONSTRUCTORS, TYPED -/
/-- what a constructor of the object a leaves -/
def CN (K c n : Nat) (κ0 : kM) (h0 : ah_H) (a : Nat) (κ : kM) (h : ah_H) (κ' : kM) (h' : ah_H) : Prop := AL K (fun _ => true) c n κ0 h0 κ' h' ∧ (∀ q, q < h.2.1 → κ' q = κ q) ∧ (∀ q, q < h.2.1 → (∀ m, κ q ≠ some (1, m)) → q ≠ a → h'.1 q = h.1 q) ∧ h.2.1 ≤ h'.2.1
section In
variable {lim : Nat × Nat} {K c n d : Nat} {κ0 κ κ1 κ2 : kM} {h0 h h1 h2 b : ah_H} {a : Nat} {Φ : ah_R → Prop}
abbrev d7 : List AV := [.inl 0, .inl 0, .inr (.inl 0), .inr (.inl 0), .inr (.inl 0), .inr (.inl 0), .inr (.inl 0)]
theorem nd_none {q : Nat} (hq : κ q = none) : ∀ m, κ q ≠ some (1, m) := fun m e => by rw [hq] at e; cases e
theorem nd_some {q kd k : Nat} (hq : κ q = some (kd, k)) (hk : Nat.beq kd 1 = false) : ∀ m, κ q ≠ some (1, m) := fun m e => by
  rw [hq] at e
  cases e
  cases hk
theorem fkN (W : cI K κ b h) (g : fk [1] κ b h) (q : Nat) (hq : ∀ m, κ q ≠ some (1, m)) : h.1 q = b.1 q := by
  cases e : κ q with
  | none => exact W.2.1 q e
  | some v =>
    refine g q v.1 v.2 e ?_
    cases hc : [1].contains v.1 with
    | false => rfl
    | true =>
      have h1 : v.1 = 1 := by simpa using hc
      exact absurd (show κ q = some (1, v.2) by rw [e, ← h1]) (hq v.2)
theorem CN_0 (A : AL K (fun _ => true) c n κ0 h0 κ h) : CN K c n κ0 h0 a κ h κ h := ⟨A, fun _ _ => rfl, fun _ _ _ _ => rfl, Nat.le_refl _⟩
theorem CN_le {c' n' : Nat} (A : CN K c n κ0 h0 a κ h κ1 h1) (hc : c ≤ c') (hn : n ≤ n') : CN K c' n' κ0 h0 a κ h κ1 h1 := ⟨AL_le A.1 hc hn, A.2⟩
theorem CN_k (A : CN K c n κ0 h0 a κ h κ1 h1) (hd : dm κ h) {q : Nat} {v : Nat × Nat} (hq : κ q = some v) : κ1 q = some v := (A.2.1 q (hd q v hq)).trans hq
/-- a field of the object that is being made -/
theorem cw {K1 : ah_H → Option ah_R} {kd i : Nat} {v : AV} {vs : List AV} (A : CN K c n κ0 h0 a κ h κ1 h1) (ha : h0.2.1 ≤ a) (hn : κ1 a = none) (e : h1.1 a = some (kd, vs)) (hi : i < vs.length) (k : ∀ h', CN K c n κ0 h0 a κ h κ1 h' → h'.1 a = some (kd, vs.set i v) → (∀ q, q ≠ a → h'.1 q = h1.1 q) → h'.2.1 = h1.2.1 → h'.2.2.1 = h1.2.2.1 → wq (K1 h') Φ) : wq (ah_wr h1 (some a) kd i v K1) Φ := by
  refine wu A.1 ha hn e hi ?_
  intro h' A' e' o' m' r'
  exact k h' ⟨A', A.2.1, fun q q1 q2 q3 => (o' q q3).trans (A.2.2.1 q q1 q2 q3), by rw [m']; exact A.2.2.2⟩ e' o' m' r'
/-- a new array in a field of it -/
theorem cf {K1 : ah_H → Option ah_R} {kf kd kh N f : Nat} {v : AV} {j : Int32} {vs : List AV} (A : CN K c n κ0 h0 a κ h κ1 h1) (ha : h0.2.1 ≤ a) (hl : a < h1.2.1) (hn : κ1 a = none) (e : h1.1 a = some (kf, vs)) (hf : f < vs.length) (hh : hkd kd = kh) (hj : j.toInt = N) (hN : N ≤ 4000) (hr : h1.2.1 + 1 ≤ lim.1 ∧ h1.2.2.1 + N ≤ lim.2) (o : okC K (ins κ1 h1.2.1 (kd, N)) kd N (List.replicate N v)) (k : ∀ h' κ', CN K (c + 1) (n + N) κ0 h0 a κ h κ' h' → κ' h1.2.1 = some (kd, N) → (∀ q v, κ1 q = some v → κ' q = some v) → κ' a = none → h'.1 a = some (kf, vs.set f (aR h1.2.1)) → h'.2.1 = h1.2.1 + 1 → h'.2.2.1 = h1.2.2.1 + N → (∀ q, q < h1.2.1 → q ≠ a → h'.1 q = h1.1 q) → wq (K1 h') Φ) : wq (ah_mka lim h1 kh v j fun r h2 => ah_wr h2 (some a) kf f (.inr (.inr r)) K1) Φ := by
  have hh1 := A.2.2.2
  refine wna A.1 hh hj hN hr o ?_
  intro h2 A2 e2 o2 m2 r2
  have n2 : ins κ1 h1.2.1 (kd, N) a = none := ins_ne (by omega) hn
  refine wu A2 ha n2 ((o2 a hl).trans e) hf ?_
  intro h3 A3 e3 o3 m3 r3
  exact k h3 _ ⟨A3, fun q hq => ins_ne (by omega) (A.2.1 q hq), fun q q1 q2 q3 => (o3 q q3).trans ((o2 q (by omega)).trans (A.2.2.1 q q1 q2 q3)), by omega⟩ ins_eq (ins_le (AL_fr A.1 (Nat.le_refl _))) n2 e3 (by omega) (by omega) (fun q q1 q3 => (o3 q q3).trans (o2 q q1))
/-- an array of data is filled -/
theorem loopA {F : Int32 → ah_H → Option ah_R} {E : ah_H → Option ah_R} {kf fl N r : Nat} {fs : List AV} (hF : ∀ v h, F v h = ah_gR h (some a) kf fl fun r1 => ah_len h r1 fun n2 => if v < n2 then ah_gR h (some a) kf fl fun r3 => ah_mk lim h (1, d7) 7 fun r4 h5 => ah_at h5 r4 1 fun _ _ => ah_cV (vc lim (d + 1) 119 [.inr (.inr r4)] h5) (nx h5) fun h6 => ah_sR h6 r3 v r4 fun h7 => F (v + (1 : Int32)) h7 else E h) (hfs : fs[fl]? = some (aR r)) (ha : h0.2.1 ≤ a) (hra : h0.2.1 ≤ r) (hne : r ≠ a) (hhr : h.2.1 ≤ r) (hN : N ≤ 4000) :
    ∀ (m c n : Nat) (v : Int32) (h1 : ah_H) (κ1 : kM) (vs : List AV), v.toInt + m = N → 0 ≤ v.toInt → CN K c n κ0 h0 a κ h κ1 h1 → κ1 a = none → κ1 r = none → r < h1.2.1 → a < h1.2.1 → h1.1 a = some (kf, fs) → h1.1 r = some (111, vs) → vs.length = N → (∀ j : Nat, j < v.toInt → ∃ d, vs[j]? = some (aR d) ∧ κ1 d = some (1, 0)) → h1.2.1 + m ≤ lim.1 → h1.2.2.1 + 7 * m ≤ lim.2 →
      (∀ h' κ', CN K (c + m) (n + 7 * m) κ0 h0 a κ h κ' h' → κ' r = some (111, N) → κ' a = none → (∀ q v, κ1 q = some v → κ' q = some v) → h'.1 a = some (kf, fs) → h'.2.1 = h1.2.1 + m → h'.2.2.1 = h1.2.2.1 + 7 * m → wq (E h') Φ) → wq (F v h1) Φ := by
  intro m
  induction m with
  | zero =>
    intro c n v h1 κ1 vs hv v0 A na nr lr la ea er hlen hall hr1 hr2 k
    refine wq_eq (hF v h1) (wq_gR ea hfs (wq_len er (by decide) ?_))
    rw [hlen]
    refine wq_f (fun hc => ?_) ?_
    · have := lt_i hc
      rw [i32n hN] at this
      omega
    · have A2 := AL_ins (a := r) (kd := 111) (m := N) A.1 hra lr nr er ⟨hlen, hN, fun i hi => by obtain ⟨d, d1, d2⟩ := hall i (by omega); exact ⟨d, d1, ins_le nr _ _ d2⟩⟩
      refine k h1 _ ⟨A2, fun q hq => ?_, A.2.2.1, A.2.2.2⟩ ins_eq (ins_ne hne.symm na) (ins_le nr) ea rfl rfl
      exact ins_ne (by omega) (A.2.1 q hq)
  | succ m ih =>
    intro c n v h1 κ1 vs hv v0 A na nr lr la ea er hlen hall hr1 hr2 k
    refine wq_eq (hF v h1) (wq_gR ea hfs (wq_len er (by decide) ?_))
    rw [hlen]
    refine wq_t (Int32.lt_iff_toInt_lt.mpr (by rw [i32n hN]; omega)) (wq_gR ea hfs (wno A.1 ⟨by omega, by omega⟩ ?_))
    intro h5 A5 e5 o5 m5 r5
    have hh1 := A.2.2.2
    have A6 := AL_ins (a := h1.2.1) (kd := 1) (m := 0) A5 A.1.2.2.2.2.2.1 (by omega) (AL_fr A.1 (Nat.le_refl _)) e5 i1
    refine wq_at e5 (wq_cV (s_Datum_init A6.1 ins_eq) ?_)
    rintro h6 ⟨W6, q6⟩
    have A7 := AL_call A6 W6 q6 (fun _ _ => rfl)
    have na6 : ins κ1 h1.2.1 (1, 0) a = none := ins_ne (by omega) na
    have nr6 : ins κ1 h1.2.1 (1, 0) r = none := ins_ne (by omega) nr
    have er6 : h6.1 r = some (111, vs) := (W6.2.1 r nr6).trans ((o5 r lr).trans er)
    have ea6 : h6.1 a = some (kf, fs) := (W6.2.1 a na6).trans ((o5 a la).trans ea)
    obtain ⟨us, eb, -⟩ := A7.1.1 h1.2.1 1 0 ins_eq
    have hvl : v.toNatClampNeg < vs.length := by rw [hlen]; exact ix_lt v0 (by omega)
    refine wq_sR er6 (by decide) eb rfl (ix_ge v0) hvl ?_
    have hx : (v + 1).toInt = v.toInt + 1 := ad_i (by show _ ≤ v.toInt + 1; omega) (by show v.toInt + 1 ≤ _; omega)
    have m6 := W6.2.2.1
    have r6 := W6.2.2.2
    refine ih (c + 1) (n + 7) (v + 1) _ (ins κ1 h1.2.1 (1, 0)) (vs.set v.toNatClampNeg (aR h1.2.1)) (by omega) (by omega) ⟨AL_up A7 hra nr6, fun q hq => ins_ne (by omega) (A.2.1 q hq), fun q q1 q2 q3 => up_ne (by omega) ((fkN W6 q6 q (fun m e => q2 m ((A.2.1 q q1).symm.trans ((if_neg (by omega)).symm.trans e)))).trans ((o5 q (by omega)).trans (A.2.2.1 q q1 q2 q3))), by show h.2.1 ≤ h6.2.1; omega⟩ na6 nr6 (by show r < h6.2.1; omega) (by show a < h6.2.1; omega) (up_ne hne.symm ea6) up_eq (by rw [List.length_set]; exact hlen) (fun j hj => ?_) (by show h6.2.1 + m ≤ _; omega) (by show h6.2.2.1 + 7 * m ≤ _; omega) ?_
    · by_cases ej : v.toInt.toNat = j
      · subst ej
        exact ⟨h1.2.1, by show (vs.set v.toInt.toNat _)[v.toInt.toNat]? = _; exact List.getElem?_set_self hvl, ins_eq⟩
      · obtain ⟨d, d1, d2⟩ := hall j (by omega)
        exact ⟨d, by show (vs.set v.toInt.toNat _)[j]? = _; rw [List.getElem?_set_ne ej]; exact d1, ins_le (AL_fr A.1 (Nat.le_refl _)) _ _ d2⟩
    · intro h' κ' B b1 b2 b3 b4 b5 b6
      have b5 : h'.2.1 = h6.2.1 + m := b5
      have b6 : h'.2.2.1 = h6.2.2.1 + 7 * m := b6
      exact k h' κ' (CN_le B (by omega) (by omega)) b1 b2 (fun q v hq => b3 q v (ins_le (AL_fr A.1 (Nat.le_refl _)) _ _ hq)) b4 (by omega) (by omega)
/-- a new array in a field, that is being filled -/
theorem cfu {K1 : ah_H → Option ah_R} {kf kh N f : Nat} {v : AV} {j : Int32} {vs : List AV} (A : CN K c n κ0 h0 a κ h κ1 h1) (ha : h0.2.1 ≤ a) (hl : a < h1.2.1) (hn : κ1 a = none) (e : h1.1 a = some (kf, vs)) (hf : f < vs.length) (hj : j.toInt = N) (hN : N ≤ 4000) (hr : h1.2.1 + 1 ≤ lim.1 ∧ h1.2.2.1 + N ≤ lim.2) (k : ∀ h', CN K (c + 1) (n + N) κ0 h0 a κ h κ1 h' → h'.1 a = some (kf, vs.set f (aR h1.2.1)) → h'.1 h1.2.1 = some (kh, List.replicate N v) → κ1 h1.2.1 = none → h'.2.1 = h1.2.1 + 1 → h'.2.2.1 = h1.2.2.1 + N → wq (K1 h') Φ) : wq (ah_mka lim h1 kh v j fun r h2 => ah_wr h2 (some a) kf f (.inr (.inr r)) K1) Φ := by
  have hh1 := A.2.2.2
  refine wq_mka (ix_ge (by omega)) (show j.toInt.toNat = N by omega) (by omega) ⟨by omega, hr.2⟩ ?_
  have A2 := AL_new (o := (kh, List.replicate N v)) (k := N) A.1
  refine wu A2 ha hn (nw_ne (by omega) e) hf ?_
  intro h3 A3 e3 o3 m3 r3
  have m3 : h3.2.1 = h1.2.1 + 1 := m3
  have r3 : h3.2.2.1 = h1.2.2.1 + N := r3
  exact k h3 ⟨A3, A.2.1, fun q q1 q2 q3 => (o3 q q3).trans ((nw_ne (by omega) rfl).trans (A.2.2.1 q q1 q2 q3)), by omega⟩ e3 ((o3 _ (by omega)).trans nw_eq) (AL_fr A.1 (Nat.le_refl _)) m3 r3
theorem ok_rep105 {N : Nat} (hN : N ≤ 4000) : okC K κ 105 N (List.replicate N (.inl 0)) := ⟨List.length_replicate, hN, fun i hi => ⟨0, by rw [List.getElem?_replicate_of_lt hi]⟩⟩
/-- a new object in the midst -/
theorem cno {K1 : Option Nat → ah_H → Option ah_R} {N : Nat} {o : ah_O} (A : CN K c n κ0 h0 a κ h κ1 h1) (hr : h1.2.1 + 1 ≤ lim.1 ∧ h1.2.2.1 + N ≤ lim.2) (k : ∀ h', CN K (c + 1) (n + N) κ0 h0 a κ h κ1 h' → h'.1 h1.2.1 = some o → (∀ q, q < h1.2.1 → h'.1 q = h1.1 q) → h'.2.1 = h1.2.1 + 1 → h'.2.2.1 = h1.2.2.1 + N → wq (K1 (some h1.2.1) h') Φ) : wq (ah_mk lim h1 o N K1) Φ := by
  have hh1 := A.2.2.2
  refine wno A.1 hr ?_
  intro h2 A2 e2 o2 m2 r2
  exact k h2 ⟨A2, A.2.1, fun q q1 q2 q3 => (o2 q (by omega)).trans (A.2.2.1 q q1 q2 q3), by omega⟩ e2 o2 m2 r2
theorem CN_tr {c' n' r : Nat} (A : CN K c n κ0 h0 a κ h κ1 h1) (B : CN K c' n' κ0 h0 r κ1 h1 κ2 h2) (hr : h.2.1 ≤ r) : CN K c' n' κ0 h0 a κ h κ2 h2 := by
  have a4 := A.2.2.2
  have b4 := B.2.2.2
  exact ⟨B.1, fun q hq => (B.2.1 q (by omega)).trans (A.2.1 q hq), fun q q1 q2 q3 => (B.2.2.1 q (by omega) (fun m e => q2 m ((A.2.1 q q1).symm.trans e)) (by omega)).trans (A.2.2.1 q q1 q2 q3), by omega⟩
theorem CN_ins {r kd m : Nat} {vs : List AV} (A : CN K c n κ0 h0 a κ h κ1 h1) (hr : h.2.1 ≤ r) (hr0 : h0.2.1 ≤ r) (hl : r < h1.2.1) (hn : κ1 r = none) (e : h1.1 r = some (hkd kd, vs)) (o : okC K κ1 kd m vs) : CN K c n κ0 h0 a κ h (ins κ1 r (kd, m)) h1 := ⟨AL_ins A.1 hr0 hl hn e (okC_mono (ins_le hn) (Nat.le_refl _) o), fun q hq => ins_ne (by omega) (A.2.1 q hq), A.2.2.1, A.2.2.2⟩
set_option maxHeartbeats 1000000 in
theorem n_Told_init (A : AL K (fun _ => true) c n κ0 h0 κ h) (ha : h0.2.1 ≤ a) (hl : a < h.2.1) (hn : κ a = none) (ea : h.1 a = some (9, [aN, aN, aN, aN, aN, aN, aN, aN, aN, aN, aI 0, aI 0])) (hr : h.2.1 + 510 ≤ lim.1 ∧ h.2.2.1 + 6100 ≤ lim.2) : wq (vc lim (d + 2) m_Told_init [aR a] h) (rV fun h' => ∃ κ' vs, CN K (c + 510) (n + 6100) κ0 h0 a κ h κ' h' ∧ κ' a = none ∧ h'.1 a = some (9, vs) ∧ okC K κ' 9 0 vs ∧ h'.2.1 = h.2.1 + 510 ∧ h'.2.2.1 = h.2.2.1 + 6100) := by
  have A0 := CN_0 (a := a) A
  have g0 := A.2.2.2.2.2.1
  refine wq_eq e_Told_init (wq_nn ?_)
  refine cf A0 ha (by omega) hn ea (Nat.le_of_ble_eq_true rfl) rfl (show (200 : Int32).toInt = (200 : Nat) by decide) (by omega) ⟨by omega, by omega⟩ (ok_rep105 (by omega)) ?_
  intro y0 k0 B0 t0 l0 n0 e0 m0 r0 w0
  refine cf B0 ha (by omega) n0 e0 (Nat.le_of_ble_eq_true rfl) rfl (show (200 : Int32).toInt = (200 : Nat) by decide) (by omega) ⟨by omega, by omega⟩ (ok_rep105 (by omega)) ?_
  intro y1 k1 B1 t1 l1 n1 e1 m1 r1 w1
  refine cf B1 ha (by omega) n1 e1 (Nat.le_of_ble_eq_true rfl) rfl (show (200 : Int32).toInt = (200 : Nat) by decide) (by omega) ⟨by omega, by omega⟩ (ok_rep105 (by omega)) ?_
  intro y2 k2 B2 t2 l2 n2 e2 m2 r2 w2
  refine cf B2 ha (by omega) n2 e2 (Nat.le_of_ble_eq_true rfl) rfl (show (200 : Int32).toInt = (200 : Nat) by decide) (by omega) ⟨by omega, by omega⟩ (ok_rep105 (by omega)) ?_
  intro y3 k3 B3 t3 l3 n3 e3 m3 r3 w3
  refine cf B3 ha (by omega) n3 e3 (Nat.le_of_ble_eq_true rfl) rfl (show (200 : Int32).toInt = (200 : Nat) by decide) (by omega) ⟨by omega, by omega⟩ (ok_rep105 (by omega)) ?_
  intro y4 k4 B4 t4 l4 n4 e4 m4 r4 w4
  refine cf B4 ha (by omega) n4 e4 (Nat.le_of_ble_eq_true rfl) rfl (show (200 : Int32).toInt = (200 : Nat) by decide) (by omega) ⟨by omega, by omega⟩ (ok_rep105 (by omega)) ?_
  intro y5 k5 B5 t5 l5 n5 e5 m5 r5 w5
  refine cf B5 ha (by omega) n5 e5 (Nat.le_of_ble_eq_true rfl) rfl (show (200 : Int32).toInt = (200 : Nat) by decide) (by omega) ⟨by omega, by omega⟩ (ok_rep105 (by omega)) ?_
  intro y6 k6 B6 t6 l6 n6 e6 m6 r6 w6
  refine cf B6 ha (by omega) n6 e6 (Nat.le_of_ble_eq_true rfl) rfl (show (200 : Int32).toInt = (200 : Nat) by decide) (by omega) ⟨by omega, by omega⟩ (ok_rep101 (by omega)) ?_
  intro y7 k7 B7 t7 l7 n7 e7 m7 r7 w7
  refine cf B7 ha (by omega) n7 e7 (Nat.le_of_ble_eq_true rfl) rfl (show (500 : Int32).toInt = (500 : Nat) by decide) (by omega) ⟨by omega, by omega⟩ (ok_rep101 (by omega)) ?_
  intro y8 k8 B8 t8 l8 n8 e8 m8 r8 w8
  refine cfu B8 ha (by omega) n8 e8 (Nat.le_of_ble_eq_true rfl) (show (500 : Int32).toInt = (500 : Nat) by decide) (by omega) ⟨by omega, by omega⟩ ?_
  intro y9 B9 e9 g9 z9 m9 r9
  refine loopA (F := fun v h => ah_val lim ah_P (d + 1) 234 97 [some (.inr (.inr (some a))), some (.inl v)] [] h) (E := fun h => some (.inl none, h)) (d := d) (r := y8.2.1) (fun v h => q_234_97) rfl ha (by omega) (by omega) (by omega) (by omega) 500 _ _ 0 _ _ _ (by decide) (by decide) B9 n8 z9 (by omega) (by omega) e9 g9 List.length_replicate (fun j hj => absurd hj (by show ¬ ((j : Int) < 0); omega)) (by omega) (by omega) ?_
  intro h' κ' C c1 c2 c3 c4 c5 c6
  exact wq_some (rV_i ⟨κ', _, CN_le C (by omega) (by omega), c2, c4, i9 (c3 _ _ (l8 _ _ (l7 _ _ (l6 _ _ (l5 _ _ (l4 _ _ (l3 _ _ (l2 _ _ (l1 _ _ (t0)))))))))) (c3 _ _ (l8 _ _ (l7 _ _ (l6 _ _ (l5 _ _ (l4 _ _ (l3 _ _ (l2 _ _ (t1))))))))) (c3 _ _ (l8 _ _ (l7 _ _ (l6 _ _ (l5 _ _ (l4 _ _ (l3 _ _ (t2)))))))) (c3 _ _ (l8 _ _ (l7 _ _ (l6 _ _ (l5 _ _ (l4 _ _ (t3))))))) (c3 _ _ (l8 _ _ (l7 _ _ (l6 _ _ (l5 _ _ (t4)))))) (c3 _ _ (l8 _ _ (l7 _ _ (l6 _ _ (t5))))) (c3 _ _ (l8 _ _ (l7 _ _ (t6)))) (c3 _ _ (l8 _ _ (t7))) (c3 _ _ (t8)) c1 (by decide) (by decide) (by decide) (by decide), by omega, by omega⟩)
theorem n_Finder_init {sg : Nat} (A : AL K (fun _ => true) c n κ0 h0 κ h) (ha : h0.2.1 ≤ a) (hl : a < h.2.1) (hn : κ a = none) (ea : h.1 a = some (2, [aN, aN, aI 0])) (ts : κ sg = some (8, 512)) (hr : h.2.1 + 105 ≤ lim.1 ∧ h.2.2.1 + 832 ≤ lim.2) : wq (vc lim (d + 2) m_Finder_init [aR a, aR sg] h) (rV fun h' => ∃ κ' vs, CN K (c + 105) (n + 832) κ0 h0 a κ h κ' h' ∧ κ' a = none ∧ h'.1 a = some (2, vs) ∧ okC K κ' 2 0 vs ∧ h'.2.1 = h.2.1 + 105 ∧ h'.2.2.1 = h.2.2.1 + 832) := by
  have A0 := CN_0 (a := a) A
  have g0 := A.2.2.2.2.2.1
  refine wq_eq e_Finder_init (wq_nn ?_)
  refine cw A0 ha hn ea (Nat.le_of_ble_eq_true rfl) ?_
  intro y0 B0 e0 o0 m0 r0
  refine cfu B0 ha (by omega) hn e0 (Nat.le_of_ble_eq_true rfl) (show (104 : Int32).toInt = (104 : Nat) by decide) (by omega) ⟨by omega, by omega⟩ ?_
  intro y1 B1 e1 g1 z1 m1 r1
  refine loopA (F := fun v h => ah_val lim ah_P (d + 1) 134 20 [some (.inr (.inr (some a))), none, some (.inl v)] [] h) (E := fun h => some (.inl none, h)) (d := d) (r := y0.2.1) (fun v h => q_134_20) rfl ha (by omega) (by omega) (by omega) (by omega) 104 _ _ 0 _ _ _ (by decide) (by decide) B1 hn z1 (by omega) (by omega) e1 g1 List.length_replicate (fun j hj => absurd hj (by show ¬ ((j : Int) < 0); omega)) (by omega) (by omega) ?_
  intro h' κ' C c1 c2 c3 c4 c5 c6
  exact wq_some (rV_i ⟨κ', _, CN_le C (by omega) (by omega), c2, c4, i2 (c3 _ _ ts) c1 (by decide) (by decide), by omega, by omega⟩)
set_option maxHeartbeats 1000000 in
theorem n_Runner_init {sg td : Nat} (A : AL K (fun _ => true) c n κ0 h0 κ h) (ha : h0.2.1 ≤ a) (hl : a < h.2.1) (hn : κ a = none) (ea : h.1 a = some (6, [aN, aN, aN, aN, aN, aN, aN, aI 0, aI 0, aI 0, aI 0])) (ts : κ sg = some (8, 512)) (tt : κ td = some (9, 0)) (hr : h.2.1 + 125 ≤ lim.1 ∧ h.2.2.1 + 986 ≤ lim.2) : wq (vc lim (d + 3) m_Runner_init [aR a, aR sg, aR td] h) (rV fun h' => ∃ κ' vs, CN K (c + 125) (n + 986) κ0 h0 a κ h κ' h' ∧ κ' a = none ∧ h'.1 a = some (6, vs) ∧ okC K κ' 6 0 vs ∧ h'.2.1 = h.2.1 + 125 ∧ h'.2.2.1 = h.2.2.1 + 986) := by
  have A0 := CN_0 (a := a) A
  have g0 := A.2.2.2.2.2.1
  refine wq_eq e_Runner_init (wq_nn ?_)
  refine cw A0 ha hn ea (Nat.le_of_ble_eq_true rfl) ?_
  intro y0 B0 e0 o0 m0 r0
  refine cw B0 ha hn e0 (Nat.le_of_ble_eq_true rfl) ?_
  intro y1 B1 e1 o1 m1 r1
  refine cno B1 ⟨by omega, by omega⟩ ?_
  intro f0 C0 x0 p0 v0 s0
  refine wq_at x0 (wq_cV (n_Finder_init C0.1 (by omega) (by omega) (AL_fr B1.1 (Nat.le_refl _)) x0 ts ⟨by omega, by omega⟩) ?_)
  rintro f1 ⟨κ3, vs3, C1, x1, x2, x3, x4, x5⟩
  have C2 := CN_ins (kd := 2) (m := 0) (CN_tr C0 C1 (by omega)) (by omega) (by omega) (by omega) x1 x2 x3
  have na : κ a = none := hn
  have na3 : ins κ3 y1.2.1 (2, 0) a = none := ins_ne (by omega) ((C1.2.1 a (by omega)).trans hn)
  have ea3 : f1.1 a = _ := (C1.2.2.1 a (by omega) (nd_none hn) (by omega)).trans ((p0 a (by omega)).trans e1)
  have ts3 : ins κ3 y1.2.1 (2, 0) sg = some (8, 512) := ins_le x1 _ _ (CN_k C1 C0.1.2.1 ts)
  have tt3 : ins κ3 y1.2.1 (2, 0) td = some (9, 0) := ins_le x1 _ _ (CN_k C1 C0.1.2.1 tt)
  refine cw C2 ha na3 ea3 (Nat.le_of_ble_eq_true rfl) ?_
  intro y4 B4 e4 o4 m4 r4
  refine cno B4 ⟨by omega, by omega⟩ ?_
  intro f5 C5 x5' p5 v5 s5
  have C6 := CN_ins (kd := 1) (m := 0) C5 (by omega) (by omega) (by omega) (AL_fr B4.1 (Nat.le_refl _)) x5' i1
  refine wq_at x5' (wq_cV (s_Datum_init C6.1.1 ins_eq) ?_)
  rintro f7 ⟨W7, q7⟩
  have na7 : ins (ins κ3 y1.2.1 (2, 0)) y4.2.1 (1, 0) a = none := ins_ne (by omega) na3
  have C7 : CN K _ _ κ0 h0 a κ h (ins (ins κ3 y1.2.1 (2, 0)) y4.2.1 (1, 0)) f7 := ⟨AL_call C6.1 W7 q7 (fun _ _ => rfl), C6.2.1, fun q q1 q2 q3 => (fkN W7 q7 q (fun m e => q2 m ((C6.2.1 q q1).symm.trans e))).trans (C6.2.2.1 q q1 q2 q3), by have := C6.2.2.2; have := W7.2.2.1; omega⟩
  have m7 := W7.2.2.1
  have r7 := W7.2.2.2
  have ea7 : f7.1 a = _ := (W7.2.1 a na7).trans ((p5 a (by omega)).trans e4)
  refine cw C7 ha na7 ea7 (Nat.le_of_ble_eq_true rfl) ?_
  intro y8 B8 e8 o8 m8 r8
  have fr8 : ins (ins κ3 y1.2.1 (2, 0)) y4.2.1 (1, 0) y4.2.1 = some (1, 0) := ins_eq
  have tf8 : ins (ins κ3 y1.2.1 (2, 0)) y4.2.1 (1, 0) y1.2.1 = some (2, 0) := ins_ne (by omega) ins_eq
  have ts8 : ins (ins κ3 y1.2.1 (2, 0)) y4.2.1 (1, 0) sg = some (8, 512) := ins_le (AL_fr B4.1 (Nat.le_refl _)) _ _ ts3
  have tt8 : ins (ins κ3 y1.2.1 (2, 0)) y4.2.1 (1, 0) td = some (9, 0) := ins_le (AL_fr B4.1 (Nat.le_refl _)) _ _ tt3
  refine cfu B8 ha (by omega) na7 e8 (Nat.le_of_ble_eq_true rfl) (show (16 : Int32).toInt = (16 : Nat) by decide) (by omega) ⟨by omega, by omega⟩ ?_
  intro y9 B9 e9 g9 z9 m9 r9
  refine loopA (F := fun v h => ah_val lim ah_P (d + 2) 206 48 [some (.inr (.inr (some a))), none, none, some (.inl v)] [] h) (E := fun h => ah_mka lim h 101 (.inr (.inl 0)) (16 : Int32) fun r8 h9 => ah_wr h9 (some a) 6 5 (.inr (.inr r8)) fun h10 => some (.inl none, h10)) (d := d + 1) (r := y8.2.1) (fun v h => q_206_48) rfl ha (by omega) (by omega) (by omega) (by omega) 16 _ _ 0 _ _ _ (by decide) (by decide) B9 na7 z9 (by omega) (by omega) e9 g9 List.length_replicate (fun j hj => absurd hj (by show ¬ ((j : Int) < 0); omega)) (by omega) (by omega) ?_
  intro h' κ' C c1 c2 c3 c4 c5 c6
  refine cf C ha (by omega) c2 c4 (Nat.le_of_ble_eq_true rfl) rfl (show (16 : Int32).toInt = (16 : Nat) by decide) (by omega) ⟨by omega, by omega⟩ (ok_rep101 (by omega)) ?_
  intro y10 k10 B10 t10 l10 n10 e10 m10 r10 _
  exact wq_some (rV_i ⟨k10, _, CN_le B10 (by omega) (by omega), n10, e10, i6 (l10 _ _ (c3 _ _ ts8)) (l10 _ _ (c3 _ _ tt8)) (l10 _ _ (c3 _ _ tf8)) (l10 _ _ (c3 _ _ fr8)) (l10 _ _ c1) t10 nofun, by omega, by omega⟩)
set_option maxHeartbeats 1000000 in
theorem n_Nodes_init (A : AL K (fun _ => true) c n κ0 h0 κ h) (ha : h0.2.1 ≤ a) (hl : a < h.2.1) (hn : κ a = none) (ea : h.1 a = some (5, [aN, aN, aN, aN, aN, aN, aN, aN, aI 0, aI 0])) (hr : h.2.1 + 8 ≤ lim.1 ∧ h.2.2.1 + 32000 ≤ lim.2) : wq (vc lim (d + 1) m_Nodes_init [aR a, aI 4000] h) (rV fun h' => ∃ κ' vs, CN K (c + 8) (n + 32000) κ0 h0 a κ h κ' h' ∧ κ' a = none ∧ h'.1 a = some (5, vs) ∧ okC K κ' 5 4000 vs ∧ h'.2.1 = h.2.1 + 8 ∧ h'.2.2.1 = h.2.2.1 + 32000 ∧ vs = [aR h.2.1, aR (h.2.1 + 1), aR (h.2.1 + 2), aR (h.2.1 + 3), aR (h.2.1 + 4), aR (h.2.1 + 5), aR (h.2.1 + 6), aR (h.2.1 + 7), aI 0, aI 0]) := by
  have A0 := CN_0 (a := a) A
  have g0 := A.2.2.2.2.2.1
  refine wq_eq e_Nodes_init (wq_nn ?_)
  rw [if_neg (by decide : ¬ (4000 : Int32) < (0 : Int32))]
  refine cf A0 ha (by omega) hn ea (Nat.le_of_ble_eq_true rfl) rfl (show (4000 : Int32).toInt = (4000 : Nat) by decide) (by omega) ⟨by omega, by omega⟩ (ok_rep100 (by omega)) ?_
  intro y0 k0 B0 t0 l0 n0 e0 m0 r0 w0
  refine cf B0 ha (by omega) n0 e0 (Nat.le_of_ble_eq_true rfl) rfl (show (4000 : Int32).toInt = (4000 : Nat) by decide) (by omega) ⟨by omega, by omega⟩ (ok_rep100 (by omega)) ?_
  intro y1 k1 B1 t1 l1 n1 e1 m1 r1 w1
  refine cf B1 ha (by omega) n1 e1 (Nat.le_of_ble_eq_true rfl) rfl (show (4000 : Int32).toInt = (4000 : Nat) by decide) (by omega) ⟨by omega, by omega⟩ (ok_rep100 (by omega)) ?_
  intro y2 k2 B2 t2 l2 n2 e2 m2 r2 w2
  refine cf B2 ha (by omega) n2 e2 (Nat.le_of_ble_eq_true rfl) rfl (show (4000 : Int32).toInt = (4000 : Nat) by decide) (by omega) ⟨by omega, by omega⟩ (ok_rep100 (by omega)) ?_
  intro y3 k3 B3 t3 l3 n3 e3 m3 r3 w3
  refine cf B3 ha (by omega) n3 e3 (Nat.le_of_ble_eq_true rfl) rfl (show (4000 : Int32).toInt = (4000 : Nat) by decide) (by omega) ⟨by omega, by omega⟩ (ok_rep100 (by omega)) ?_
  intro y4 k4 B4 t4 l4 n4 e4 m4 r4 w4
  refine cf B4 ha (by omega) n4 e4 (Nat.le_of_ble_eq_true rfl) rfl (show (4000 : Int32).toInt = (4000 : Nat) by decide) (by omega) ⟨by omega, by omega⟩ (ok_rep100 (by omega)) ?_
  intro y5 k5 B5 t5 l5 n5 e5 m5 r5 w5
  refine cf B5 ha (by omega) n5 e5 (Nat.le_of_ble_eq_true rfl) rfl (show (4000 : Int32).toInt = (4000 : Nat) by decide) (by omega) ⟨by omega, by omega⟩ (ok_rep100 (by omega)) ?_
  intro y6 k6 B6 t6 l6 n6 e6 m6 r6 w6
  refine cf B6 ha (by omega) n6 e6 (Nat.le_of_ble_eq_true rfl) rfl (show (4000 : Int32).toInt = (4000 : Nat) by decide) (by omega) ⟨by omega, by omega⟩ (ok_rep100 (by omega)) ?_
  intro y7 k7 B7 t7 l7 n7 e7 m7 r7 w7
  exact wq_some (rV_i ⟨k7, _, CN_le B7 (by omega) (by omega), n7, e7, i5 (l7 _ _ (l6 _ _ (l5 _ _ (l4 _ _ (l3 _ _ (l2 _ _ (l1 _ _ (t0)))))))) (l7 _ _ (l6 _ _ (l5 _ _ (l4 _ _ (l3 _ _ (l2 _ _ (t1))))))) (l7 _ _ (l6 _ _ (l5 _ _ (l4 _ _ (l3 _ _ (t2)))))) (l7 _ _ (l6 _ _ (l5 _ _ (l4 _ _ (t3))))) (l7 _ _ (l6 _ _ (l5 _ _ (t4)))) (l7 _ _ (l6 _ _ (t5))) (l7 _ _ (t6)) (t7) (by decide) (by decide) (by show (0 : Int) ≤ K; omega) (by decide) (by omega), by omega, by omega, by rw [show y6.2.1 = h.2.1 + 7 by omega, show y5.2.1 = h.2.1 + 6 by omega, show y4.2.1 = h.2.1 + 5 by omega, show y3.2.1 = h.2.1 + 4 by omega, show y2.2.1 = h.2.1 + 3 by omega, show y1.2.1 = h.2.1 + 2 by omega, show y0.2.1 = h.2.1 + 1 by omega] <;> rfl⟩)
theorem CN_thing {r N : Nat} {h' : ah_H} (A : AL K (fun _ => true) c n κ0 h0 (ins κ h.2.1 (117, N)) h') (o : ∀ q, q < h.2.1 → q ≠ r → h'.1 q = h.1 q) (m : h'.2.1 = h.2.1 + 1) : CN K c n κ0 h0 r κ h (ins κ h.2.1 (117, N)) h' := ⟨A, fun q hq => ins_ne (by omega) rfl, fun q q1 _ q3 => o q q1 q3, by omega⟩
/-- new Things(N): all of it -/
theorem c_things {N : Nat} {j : Int32} {K1 : Option Nat → ah_H → Option ah_R} (A : CN K c n κ0 h0 a κ h κ1 h1) (hj : j.toInt = N) (hN : N ≤ 4000) (hr : h1.2.1 + 2 ≤ lim.1 ∧ h1.2.2.1 + (N + 2) ≤ lim.2)
    (k : ∀ h' κ', CN K (c + 2) (n + (N + 2)) κ0 h0 a κ h κ' h' → κ' h1.2.1 = some (8, N) → κ' (h1.2.1 + 1) = some (117, N) → h'.1 h1.2.1 = some (8, [aR (h1.2.1 + 1), aI 0]) → (∀ q, q < h1.2.1 → κ' q = κ1 q) → (∀ q, q < h1.2.1 → h'.1 q = h1.1 q) → h'.2.1 = h1.2.1 + 2 → h'.2.2.1 = h1.2.2.1 + (N + 2) → wq (K1 (some h1.2.1) h') Φ) :
    wq (ah_mk lim h1 (8, [.inr (.inr none), .inl 0]) 2 fun r1 h2 => ah_at h2 r1 8 fun _ _ => ah_cV (vc lim (d + 1) 228 [.inr (.inr r1), .inl j] h2) (nx h2) fun h3 => K1 r1 h3) Φ := by
  have g0 := A.1.2.2.2.2.2.1
  have g1 := A.2.2.2
  refine cno A ⟨by omega, by omega⟩ ?_
  intro f0 C0 x0 p0 v0 s0
  refine wq_at x0 (wq_cV (n_Things_init (N := N) C0.1 g0 (by omega) (AL_fr A.1 (Nat.le_refl _)) x0 hj hN ⟨by omega, by omega⟩) ?_)
  rintro f1 ⟨A4, e4, e5, o4, m4, r4⟩
  have C1 := CN_tr C0 (CN_thing A4 o4 m4) g1
  have n1 : ins κ1 f0.2.1 (117, N) h1.2.1 = none := ins_ne (by omega) (AL_fr A.1 (Nat.le_refl _))
  have C2 := CN_ins (kd := 8) (m := N) C1 g1 g0 (by omega) n1 e4 (i8 ins_eq (by decide) (by show (0 : Int) ≤ N; omega) hN)
  rw [v0] at e4 C2
  exact k f1 _ (CN_le C2 (by omega) (by omega)) ins_eq (ins_ne (by omega) ins_eq) e4 (fun q hq => ins_ne (by omega) (ins_ne (by omega) rfl)) (fun q hq => (o4 q (by omega) (by omega)).trans (p0 q hq)) (by omega) (by omega)
theorem n_Maker_init (A : AL K (fun _ => true) c n κ0 h0 κ h) (ha : h0.2.1 ≤ a) (hl : a < h.2.1) (hn : κ a = none) (ea : h.1 a = some (4, [aN, aN, aN, aN, aI 0])) (hr : h.2.1 + 13 ≤ lim.1 ∧ h.2.2.1 + 40140 ≤ lim.2) : wq (vc lim (d + 2) m_Maker_init [aR a] h) (rV fun h' => ∃ κ' nd vr ht rt rw, CN K (c + 13) (n + 40140) κ0 h0 a κ h κ' h' ∧ κ' a = none ∧ h'.1 a = some (4, [aR nd, aR vr, aR ht, aR rt, aI 0]) ∧ κ' nd = some (5, 4000) ∧ κ' vr = some (8, 128) ∧ κ' ht = some (100, 4000) ∧ κ' rt = some (100, 4000) ∧ κ' rw = some (117, 128) ∧ h'.1 vr = some (8, [aR rw, aI 0]) ∧ h'.2.1 = h.2.1 + 13 ∧ h'.2.2.1 = h.2.2.1 + 40140 ∧ ∃ t, h'.1 nd = some (5, [aR t, aR (t + 1), aR (t + 2), aR (t + 3), aR (t + 4), aR (t + 5), aR (t + 6), aR (t + 7), aI 0, aI 0]) ∧ t + 8 ≤ ht ∧ ht < rt) := by
  have A0 := CN_0 (a := a) A
  have g0 := A.2.2.2.2.2.1
  refine wq_eq e_Maker_init (wq_nn (cno A0 ⟨by omega, by omega⟩ ?_))
  intro f0 C0 x0 p0 v0 s0
  refine wq_at x0 (wq_cV (n_Nodes_init C0.1 g0 (by omega) (AL_fr A (Nat.le_refl _)) x0 ⟨by omega, by omega⟩) ?_)
  rintro f1 ⟨κ3, vs3, C1, x1, x2, x3, x4, x5, xv⟩
  have C2 := CN_ins (kd := 5) (m := 4000) (CN_tr C0 C1 (Nat.le_refl _)) (Nat.le_refl _) g0 (by omega) x1 x2 x3
  have na3 : ins κ3 h.2.1 (5, 4000) a = none := ins_ne (by omega) ((C1.2.1 a (by omega)).trans hn)
  have ea3 : f1.1 a = some (4, [aN, aN, aN, aN, aI 0]) := (C1.2.2.1 a (by omega) (nd_none hn) (by omega)).trans ((p0 a (by omega)).trans ea)
  refine cw C2 ha na3 ea3 (Nat.le_of_ble_eq_true rfl) ?_
  intro y4 B4 e4 o4 m4 r4
  refine c_things B4 (show (128 : Int32).toInt = (128 : Nat) by decide) (by omega) ⟨by omega, by omega⟩ ?_
  intro y5 k5 B5 t5 u5 e5 l5 o5 m5 r5
  have na5 : k5 a = none := (l5 a (by omega)).trans na3
  refine cw B5 ha na5 ((o5 a (by omega)).trans e4) (Nat.le_of_ble_eq_true rfl) ?_
  intro y6 B6 e6 o6 m6 r6
  refine cf B6 ha (by omega) na5 e6 (Nat.le_of_ble_eq_true rfl) rfl (show (4000 : Int32).toInt = (4000 : Nat) by decide) (by omega) ⟨by omega, by omega⟩ (ok_rep100 (by omega)) ?_
  intro y7 k7 B7 t7 l7 n7 e7 m7 r7 w7
  refine cf B7 ha (by omega) n7 e7 (Nat.le_of_ble_eq_true rfl) rfl (show (4000 : Int32).toInt = (4000 : Nat) by decide) (by omega) ⟨by omega, by omega⟩ (ok_rep100 (by omega)) ?_
  intro y8 k8 B8 t8 l8 n8 e8 m8 r8 w8
  have ev : y8.1 y4.2.1 = some (8, [aR (y4.2.1 + 1), aI 0]) := (w8 _ (by omega) (by omega)).trans ((w7 _ (by omega) (by omega)).trans ((o6 _ (by omega)).trans e5))
  have en : y8.1 h.2.1 = some (5, vs3) := (w8 _ (by omega) (by omega)).trans ((w7 _ (by omega) (by omega)).trans ((o6 _ (by omega)).trans ((o5 _ (by omega)).trans ((o4 _ (by omega)).trans x2))))
  rw [xv] at en
  exact wq_some (rV_i ⟨k8, _, _, _, _, y4.2.1 + 1, CN_le B8 (by omega) (by omega), n8, e8, l8 _ _ (l7 _ _ ((l5 _ (by omega)).trans ins_eq)), l8 _ _ (l7 _ _ t5), l8 _ _ t7, t8, l8 _ _ (l7 _ _ u5), ev, by omega, by omega, f0.2.1, en, by omega, by omega⟩)
theorem n_Looker_init {mk nd sg : Nat} {fs : List AV} (A : AL K (fun _ => true) c n κ0 h0 κ h) (ha : h0.2.1 ≤ a) (hn : κ a = none) (ea : h.1 a = some (3, [aN, aN, aN])) (hm : mk ≠ a) (em : h.1 mk = some (4, fs)) (ef : fs[0]? = some (aR nd)) : wq (vc lim (d + 1) m_Looker_init [aR a, aR mk, aR sg] h) (rV fun h' => CN K c n κ0 h0 a κ h κ h' ∧ h'.1 a = some (3, [aR mk, aR nd, aR sg]) ∧ h'.2.1 = h.2.1 ∧ h'.2.2.1 = h.2.2.1 ∧ ∀ q, q ≠ a → h'.1 q = h.1 q) := by
  refine wq_eq e_Looker_init (wq_nn (cw (CN_0 A) ha hn ea (Nat.le_of_ble_eq_true rfl) ?_))
  intro y1 B1 e1 o1 m1 r1
  refine wq_gR ((o1 _ hm).trans em) ef (cw B1 ha hn e1 (Nat.le_of_ble_eq_true rfl) ?_)
  intro y2 B2 e2 o2 m2 r2
  refine cw B2 ha hn e2 (Nat.le_of_ble_eq_true rfl) ?_
  intro y3 B3 e3 o3 m3 r3
  exact wq_some (rV_i ⟨B3, e3, by omega, by omega, fun q hq => (o3 q hq).trans ((o2 q hq).trans (o1 q hq))⟩)
theorem ok_rep120 {N : Nat} (hN : N ≤ 4000) : okC K κ 120 N (List.replicate N (.inr (.inr none))) := ⟨List.length_replicate, hN, fun i hi => ⟨none, by rw [List.getElem?_replicate_of_lt hi], nofun⟩⟩
set_option maxHeartbeats 1000000 in
theorem n_Code_init (A : AL K (fun _ => true) c n κ0 h0 κ h) (ha : h0.2.1 ≤ a) (hl : a < h.2.1) (hn : κ a = none) (ea : h.1 a = some (0, [aN, aN, aN, aN, aI 0, aI 0, aN, aN])) (hr : h.2.1 + 655 ≤ lim.1 ∧ h.2.2.1 + 47835 ≤ lim.2) : wq (vc lim (d + 4) m_Code_init [aR a] h) (rV fun h' => ∃ κ' sg mk lk un td rn rs nd vr ht rt rw, CN K (c + 655) (n + 47835) κ0 h0 a κ h κ' h' ∧ κ' a = none ∧ h'.1 a = some (0, [aR sg, aR mk, aR lk, aR un, aI 0, aI 0, aR td, aR rn]) ∧ okC K κ' 0 0 [aR sg, aR mk, aR lk, aR un, aI 0, aI 0, aR td, aR rn] ∧ h'.1 sg = some (8, [aR rs, aI 0]) ∧ κ' rs = some (117, 512) ∧ h'.1 mk = some (4, [aR nd, aR vr, aR ht, aR rt, aI 0]) ∧ h'.1 vr = some (8, [aR rw, aI 0]) ∧ κ' rw = some (117, 128) ∧ h'.1 lk = some (3, [aR mk, aR nd, aR sg]) ∧ h'.2.1 = h.2.1 + 655 ∧ h'.2.2.1 = h.2.2.1 + 47835 ∧ ∃ t, h'.1 nd = some (5, [aR t, aR (t + 1), aR (t + 2), aR (t + 3), aR (t + 4), aR (t + 5), aR (t + 6), aR (t + 7), aI 0, aI 0]) ∧ t + 8 ≤ ht ∧ ht < rt) := by
  have A0 := CN_0 (a := a) A
  have g0 := A.2.2.2.2.2.1
  refine wq_eq e_Code_init (wq_nn (c_things A0 (show (512 : Int32).toInt = (512 : Nat) by decide) (by omega) ⟨by omega, by omega⟩ ?_))
  intro y1 k1 B1 t1 u1 e1 l1 o1 m1 r1
  have n1 : k1 a = none := (l1 a hl).trans hn
  refine cw B1 ha n1 ((o1 a hl).trans ea) (Nat.le_of_ble_eq_true rfl) ?_
  intro y2 B2 e2 o2 m2 r2
  refine cno B2 ⟨by omega, by omega⟩ ?_
  intro f2 C2 x2 p2 v2 s2
  refine wq_at x2 (wq_cV (n_Maker_init C2.1 (by omega) (by omega) (AL_fr B2.1 (Nat.le_refl _)) x2 ⟨by omega, by omega⟩) ?_)
  rintro y3 ⟨k3, nd, vr, ht, rt, rw, D3, n3, e3, t3, t4, t5, t6, t7, e4, m3, r3, tz, xz, xz2, xz3⟩
  have C3 := CN_ins (kd := 4) (m := 0) (CN_tr C2 D3 (by omega)) (by omega) (by omega) (by omega) n3 e3 (i4 t3 t4 t5 t6 (by decide) (by decide))
  have j3 : ∀ q v, k1 q = some v → ins k3 y2.2.1 (4, 0) q = some v := fun q v hq => ins_le n3 _ _ (CN_k D3 C2.1.2.1 hq)
  have na3 : ins k3 y2.2.1 (4, 0) a = none := ins_ne (by omega) ((D3.2.1 a (by omega)).trans n1)
  have ea3 := (D3.2.2.1 a (by omega) (nd_none n1) (by omega)).trans ((p2 a (by omega)).trans e2)
  refine cw C3 ha na3 ea3 (Nat.le_of_ble_eq_true rfl) ?_
  intro y5 B5 e5 o5 m5 r5
  refine cno B5 ⟨by omega, by omega⟩ ?_
  intro f6 C6 x6 p6 v6 s6
  refine wq_gR ((p6 a (by omega)).trans e5) rfl (wq_gR ((p6 a (by omega)).trans e5) rfl (wq_at x6 (wq_cV (n_Looker_init (nd := nd) C6.1 (by omega) (AL_fr B5.1 (Nat.le_refl _)) x6 (by omega) ((p6 _ (by omega)).trans ((o5 _ (by omega)).trans e3)) rfl) ?_)))
  rintro y7 ⟨D7, e7, m7, r7, o7⟩
  have C7 := CN_ins (kd := 3) (m := 0) (CN_tr C6 D7 (by omega)) (by omega) (by omega) (by omega) (AL_fr B5.1 (Nat.le_refl _)) e7 ⟨_, _, _, rfl, ins_eq, ins_le n3 _ _ t3, j3 _ _ t1⟩
  have f7 := AL_fr B5.1 (Nat.le_refl _)
  have na7 : ins (ins k3 y2.2.1 (4, 0)) y5.2.1 (3, 0) a = none := ins_ne (by omega) na3
  refine cw C7 ha na7 ((o7 a (by omega)).trans ((p6 a (by omega)).trans e5)) (Nat.le_of_ble_eq_true rfl) ?_
  intro y8 B8 e8 o8 m8 r8
  refine cf B8 ha (by omega) na7 e8 (Nat.le_of_ble_eq_true rfl) rfl (show (64 : Int32).toInt = (64 : Nat) by decide) (by omega) ⟨by omega, by omega⟩ (ok_rep120 (by omega)) ?_
  intro y9 k9 B9 t9 l9 n9 e9 m9 r9 w9
  refine cno B9 ⟨by omega, by omega⟩ ?_
  intro f10 C10 x10 p10 v10 s10
  refine wq_at x10 (wq_cV (n_Told_init C10.1 (by omega) (by omega) (AL_fr B9.1 (Nat.le_refl _)) x10 ⟨by omega, by omega⟩) ?_)
  rintro y11 ⟨k11, vs11, D11, n11, e11, z11, m11, r11⟩
  have C11 := CN_ins (kd := 9) (m := 0) (CN_tr C10 D11 (by omega)) (by omega) (by omega) (by omega) n11 e11 z11
  have j11 : ∀ q v, k9 q = some v → ins k11 y9.2.1 (9, 0) q = some v := fun q v hq => ins_le n11 _ _ (CN_k D11 C10.1.2.1 hq)
  have na11 : ins k11 y9.2.1 (9, 0) a = none := ins_ne (by omega) ((D11.2.1 a (by omega)).trans n9)
  refine cw C11 ha na11 ((D11.2.2.1 a (by omega) (nd_none n9) (by omega)).trans ((p10 a (by omega)).trans e9)) (Nat.le_of_ble_eq_true rfl) ?_
  intro y12 B12 e12 o12 m12 r12
  refine cno B12 ⟨by omega, by omega⟩ ?_
  intro f13 C13 x13 p13 v13 s13
  have jx : ∀ q v, ins k3 y2.2.1 (4, 0) q = some v → k9 q = some v := fun q v hq => l9 _ _ (ins_le f7 _ _ hq)
  have tsg := j11 _ _ (jx _ _ (j3 _ _ t1))
  refine wq_gR ((p13 a (by omega)).trans e12) rfl (wq_gR ((p13 a (by omega)).trans e12) rfl (wq_at x13 (wq_cV (n_Runner_init C13.1 (by omega) (by omega) (AL_fr B12.1 (Nat.le_refl _)) x13 tsg ins_eq ⟨by omega, by omega⟩) ?_)))
  rintro y14 ⟨k14, vs14, D14, n14, e14, z14, m14, r14⟩
  have C14 := CN_ins (kd := 6) (m := 0) (CN_tr C13 D14 (by omega)) (by omega) (by omega) (by omega) n14 e14 z14
  have j14 : ∀ q v, ins k11 y9.2.1 (9, 0) q = some v → ins k14 y12.2.1 (6, 0) q = some v := fun q v hq => ins_le n14 _ _ (CN_k D14 C13.1.2.1 hq)
  have na14 : ins k14 y12.2.1 (6, 0) a = none := ins_ne (by omega) ((D14.2.1 a (by omega)).trans na11)
  refine cw C14 ha na14 ((D14.2.2.1 a (by omega) (nd_none na11) (by omega)).trans ((p13 a (by omega)).trans e12)) (Nat.le_of_ble_eq_true rfl) ?_
  intro y15 B15 e15 o15 m15 r15
  have hd3 := C3.1.2.1
  have up15 : ∀ q v, ins k3 y2.2.1 (4, 0) q = some v → ins k14 y12.2.1 (6, 0) q = some v := fun q v hq => j14 _ _ (j11 _ _ (jx _ _ hq))
  have ch : ∀ q kd k, ins k3 y2.2.1 (4, 0) q = some (kd, k) → Nat.beq kd 1 = false → q ≠ a → y15.1 q = y3.1 q := by
    intro q kd k hq hk hqa
    have lq : q < y3.2.1 := hd3 q _ hq
    have n9q := jx _ _ hq
    have n11q := j11 _ _ n9q
    exact (o15 q hqa).trans ((D14.2.2.1 q (by omega) (nd_some n11q hk) (by omega)).trans ((p13 q (by omega)).trans ((o12 q hqa).trans ((D11.2.2.1 q (by omega) (nd_some n9q hk) (by omega)).trans ((p10 q (by omega)).trans ((w9 q (by omega) hqa).trans ((o8 q hqa).trans ((o7 q (by omega)).trans ((p6 q (by omega)).trans (o5 q hqa))))))))))
  have lsg : ins k3 y2.2.1 (4, 0) h.2.1 = some (8, 512) := j3 _ _ t1
  have esg : y3.1 h.2.1 = some (8, [aR (h.2.1 + 1), aI 0]) := (D3.2.2.1 _ (by omega) (nd_some t1 rfl) (by omega)).trans ((p2 _ (by omega)).trans ((o2 _ (by omega)).trans e1))
  have lvr : ins k3 y2.2.1 (4, 0) vr = some (8, 128) := ins_le n3 _ _ t4
  have vra : vr ≠ a := fun e => by rw [e, na3] at lvr; cases lvr
  have lmk : ins k3 y2.2.1 (4, 0) y2.2.1 = some (4, 0) := ins_eq
  have lnd : ins k3 y2.2.1 (4, 0) nd = some (5, 4000) := ins_le n3 _ _ t3
  have nda : nd ≠ a := fun e => by rw [e, na3] at lnd; cases lnd
  have elk : y15.1 y5.2.1 = some (3, [aR y2.2.1, aR nd, aR h.2.1]) := by
    have n9q : k9 y5.2.1 = some (3, 0) := l9 _ _ ins_eq
    exact (o15 _ (by omega)).trans ((D14.2.2.1 _ (by omega) (nd_some (j11 _ _ n9q) rfl) (by omega)).trans ((p13 _ (by omega)).trans ((o12 _ (by omega)).trans ((D11.2.2.1 _ (by omega) (nd_some n9q rfl) (by omega)).trans ((p10 _ (by omega)).trans ((w9 _ (by omega) (by omega)).trans ((o8 _ (by omega)).trans e7)))))))
  refine wq_some (rV_i ⟨_, h.2.1, y2.2.1, y5.2.1, y8.2.1, y9.2.1, y12.2.1, h.2.1 + 1, nd, vr, ht, rt, rw, CN_le B15 (by omega) (by omega), na14, e15, i0 (up15 _ _ lsg) (up15 _ _ lmk) (j14 _ _ (j11 _ _ (l9 _ _ ins_eq))) (j14 _ _ (j11 _ _ t9)) (j14 _ _ ins_eq) ins_eq (by decide) (by decide), (ch _ _ _ lsg rfl (by omega)).trans esg, up15 _ _ (j3 _ _ u1), (ch _ _ _ lmk rfl (by omega)).trans e3, (ch _ _ _ lvr rfl vra).trans e4, up15 _ _ (ins_le n3 _ _ t7), elk, by omega, by omega, tz, (ch _ _ _ lnd rfl nda).trans xz, xz2, xz3⟩)
end In
