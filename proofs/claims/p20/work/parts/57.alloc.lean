/-! NEW CELLS OF THE CLASS -/
def ex (κ κ' : kM) (h : ah_H) : Prop := ∀ a, a < h.2.1 → κ' a = κ a
def dm (κ : kM) (h : ah_H) : Prop := ∀ a v, κ a = some v → a < h.2.1
def ins (κ : kM) (a : Nat) (v : Nat × Nat) : kM := fun q => if q = a then some v else κ q
theorem ins_eq {κ : kM} {a : Nat} {v : Nat × Nat} : ins κ a v a = some v := if_pos rfl
theorem ins_ne {κ : kM} {a q : Nat} {v : Nat × Nat} {r : Option (Nat × Nat)} (h : q ≠ a) (k : κ q = r) : ins κ a v q = r := (if_neg h).trans k
theorem ins_le {κ : kM} {a : Nat} {v : Nat × Nat} (hn : κ a = none) : ∀ q w, κ q = some w → ins κ a v q = some w := by
  intro q w hq
  refine ins_ne (fun e => ?_) hq
  subst e
  rw [hn] at hq
  cases hq
/-- from (κ0, h0) to (κ, h): new cells; of the old ones only those have changed of which ws says so -/
def AL (K : Nat) (ws : Nat × Nat → Bool) (c n : Nat) (κ0 : kM) (h0 : ah_H) (κ : kM) (h : ah_H) : Prop :=
  cI K κ h h ∧ dm κ h ∧ (dm κ0 h0 ∧ ex κ0 κ h0) ∧ (∀ q, q < h0.2.1 → κ0 q = none → h.1 q = h0.1 q) ∧ (∀ q v, κ0 q = some v → ws v = false → h.1 q = h0.1 q) ∧ h0.2.1 ≤ h.2.1 ∧ h.2.1 ≤ h0.2.1 + c ∧ h.2.2.1 ≤ h0.2.2.1 + n
section Al
variable {K : Nat} {ws : Nat × Nat → Bool} {c n : Nat} {κ0 κ κ' : kM} {h0 h h' b : ah_H} {a kd m k : Nat} {vs : List AV} {o : ah_O}
theorem okC_mono {K' : Nat} (hk : ∀ a v, κ a = some v → κ' a = some v) (hK : K ≤ K') (o : okC K κ kd n vs) : okC K' κ' kd n vs := by
  unfold okC at o ⊢
  split at o
  · obtain ⟨x1, x2, x3, x4, x5, x6, x7, x8, rfl, p1, p2, p3, p4, p5, p6, p7⟩ := o
    exact ⟨x1, x2, x3, x4, x5, x6, x7, x8, rfl, hk _ _ p1, hk _ _ p2, hk _ _ p3, hk _ _ p4, hk _ _ p5, hk _ _ p6, p7⟩
  · exact o
  · obtain ⟨x1, x2, x3, rfl, p1, p2, p3⟩ := o
    exact ⟨x1, x2, x3, rfl, hk _ _ p1, hk _ _ p2, p3⟩
  · obtain ⟨x1, x2, x3, rfl, p1, p2, p3⟩ := o
    exact ⟨x1, x2, x3, rfl, hk _ _ p1, hk _ _ p2, hk _ _ p3⟩
  · obtain ⟨x1, x2, x3, x4, x5, rfl, p1, p2, p3, p4, p5⟩ := o
    exact ⟨x1, x2, x3, x4, x5, rfl, hk _ _ p1, hk _ _ p2, hk _ _ p3, hk _ _ p4, p5⟩
  · obtain ⟨x1, x2, x3, x4, x5, x6, x7, x8, x9, x10, rfl, p1, p2, p3, p4, p5, p6, p7, p8, p9, p10, p11, p12⟩ := o
    exact ⟨x1, x2, x3, x4, x5, x6, x7, x8, x9, x10, rfl, hk _ _ p1, hk _ _ p2, hk _ _ p3, hk _ _ p4, hk _ _ p5, hk _ _ p6, hk _ _ p7, hk _ _ p8, p9, p10, by omega, p12⟩
  · obtain ⟨x1, x2, x3, x4, x5, x6, x7, x8, x9, x10, x11, rfl, p1, p2, p3, p4, p5, p6, p7⟩ := o
    exact ⟨x1, x2, x3, x4, x5, x6, x7, x8, x9, x10, x11, rfl, hk _ _ p1, hk _ _ p2, hk _ _ p3, hk _ _ p4, hk _ _ p5, hk _ _ p6, fun t e => hk _ _ (p7 t e)⟩
  · obtain ⟨x1, x2, x3, x4, x5, x6, x7, x8, rfl, p1, p2⟩ := o
    exact ⟨x1, x2, x3, x4, x5, x6, x7, x8, rfl, hk _ _ p1, hk _ _ p2⟩
  · obtain ⟨x1, x2, rfl, p1, p2⟩ := o
    exact ⟨x1, x2, rfl, hk _ _ p1, p2⟩
  · obtain ⟨x1, x2, x3, x4, x5, x6, x7, x8, x9, x10, x11, x12, rfl, p1, p2, p3, p4, p5, p6, p7, p8, p9, p10, p11⟩ := o
    exact ⟨x1, x2, x3, x4, x5, x6, x7, x8, x9, x10, x11, x12, rfl, hk _ _ p1, hk _ _ p2, hk _ _ p3, hk _ _ p4, hk _ _ p5, hk _ _ p6, hk _ _ p7, hk _ _ p8, hk _ _ p9, hk _ _ p10, p11⟩
  · obtain ⟨x1, x2, x3, x4, x5, x6, x7, x8, x9, x10, x11, x12, x13, x14, rfl, p1, p2, p3, p4⟩ := o
    exact ⟨x1, x2, x3, x4, x5, x6, x7, x8, x9, x10, x11, x12, x13, x14, rfl, hk _ _ p1, hk _ _ p2, hk _ _ p3, hk _ _ p4⟩
  · exact o
  · exact o
  · exact o
  · obtain ⟨p1, p2, p3⟩ := o
    exact ⟨p1, p2, fun i hi => by obtain ⟨d, e1, e2⟩ := p3 i hi; exact ⟨d, e1, hk _ _ e2⟩⟩
  · obtain ⟨p1, p2, p3⟩ := o
    exact ⟨p1, p2, fun i hi => by obtain ⟨d, e1, e2⟩ := p3 i hi; exact ⟨d, e1, fun t e => hk _ _ (e2 t e)⟩⟩
  · obtain ⟨p1, p2, p3⟩ := o
    exact ⟨p1, p2, fun i hi => by obtain ⟨d, e1, e2⟩ := p3 i hi; exact ⟨d, e1, fun t e => by obtain ⟨m, e3⟩ := e2 t e; exact ⟨m, hk _ _ e3⟩⟩⟩
  · exact o
theorem cI_K {K' : Nat} (hK : K ≤ K') (W : cI K κ b h) : cI K' κ b h := ⟨fun a kd n t => by obtain ⟨vs, e, o⟩ := W.1 a kd n t; exact ⟨vs, e, okC_mono (fun _ _ e => e) hK o⟩, W.2⟩
theorem cI_self (W : cI K κ b h) : cI K κ h h := ⟨W.1, fun _ _ => rfl, rfl, rfl⟩
theorem AL_0 (W : cI K κ h h) (hd : dm κ h) : AL K ws 0 0 κ h κ h := ⟨W, hd, ⟨hd, fun _ _ => rfl⟩, fun _ _ _ => rfl, fun _ _ _ _ => rfl, Nat.le_refl _, Nat.le_refl _, Nat.le_refl _⟩
theorem AL_le (A : AL K ws c n κ0 h0 κ h) {c' n' : Nat} (hc : c ≤ c') (hn : n ≤ n') : AL K ws c' n' κ0 h0 κ h := by
  obtain ⟨a1, a2, a3, a4, a5, a6, a7, a8⟩ := A
  exact ⟨a1, a2, a3, a4, a5, a6, by omega, by omega⟩
theorem dm_none (hd : dm κ h) {q : Nat} (hq : h.2.1 ≤ q) : κ q = none := by
  cases e : κ q with
  | none => rfl
  | some v => have := hd q v e; omega
theorem AL_new (A : AL K ws c n κ0 h0 κ h) : AL K ws (c + 1) (n + k) κ0 h0 κ (ah_new h o k) := by
  obtain ⟨a1, a2, a3, a4, a5, a6, a7, a8⟩ := A
  refine ⟨⟨fun q kd m t => ?_, fun _ _ => rfl, rfl, rfl⟩, fun q v t => ?_, a3, fun q h1 h2 => ?_, fun q v h1 h2 => ?_, ?_, ?_, ?_⟩
  · obtain ⟨vs, e, o⟩ := a1.1 q kd m t
    exact ⟨vs, nw_ne (by have := a2 _ _ t; omega) e, o⟩
  · have := a2 _ _ t
    show q < h.2.1 + 1
    omega
  · exact nw_ne (by omega) (a4 q h1 h2)
  · exact nw_ne (by have := a3.1 q v h1; omega) (a5 q v h1 h2)
  · show h0.2.1 ≤ h.2.1 + 1
    omega
  · show h.2.1 + 1 ≤ h0.2.1 + (c + 1)
    omega
  · show h.2.2.1 + k ≤ h0.2.2.1 + (n + k)
    omega
theorem AL_up (A : AL K ws c n κ0 h0 κ h) (ha : h0.2.1 ≤ a) (hn : κ a = none) : AL K ws c n κ0 h0 κ (ah_up h a o) := by
  obtain ⟨a1, a2, a3, a4, a5, a6, a7, a8⟩ := A
  refine ⟨⟨fun q kd m t => ?_, fun _ _ => rfl, rfl, rfl⟩, a2, a3, fun q h1 h2 => ?_, fun q v h1 h2 => ?_, a6, a7, a8⟩
  · obtain ⟨vs, e, o⟩ := a1.1 q kd m t
    refine ⟨vs, up_ne (fun e => ?_) e, o⟩
    subst e
    rw [hn] at t
    cases t
  · exact up_ne (by omega) (a4 q h1 h2)
  · exact up_ne (by have := a3.1 q v h1; omega) (a5 q v h1 h2)
theorem AL_ins (A : AL K ws c n κ0 h0 κ h) (ha : h0.2.1 ≤ a) (hl : a < h.2.1) (hn : κ a = none) (e : h.1 a = some (hkd kd, vs)) (o : okC K (ins κ a (kd, m)) kd m vs) : AL K ws c n κ0 h0 (ins κ a (kd, m)) h := by
  obtain ⟨a1, a2, a3, a4, a5, a6, a7, a8⟩ := A
  refine ⟨⟨fun q k1 m1 t => ?_, fun _ _ => rfl, rfl, rfl⟩, fun q v t => ?_, ⟨a3.1, fun q hq => ?_⟩, a4, a5, a6, a7, a8⟩
  · by_cases hq : q = a
    · subst hq
      rw [ins_eq] at t
      cases t
      exact ⟨vs, e, o⟩
    · have t : κ q = some (k1, m1) := (if_neg hq).symm.trans t
      obtain ⟨us, e1, o1⟩ := a1.1 q k1 m1 t
      exact ⟨us, e1, okC_mono (ins_le hn) (Nat.le_refl _) o1⟩
  · by_cases hq : q = a
    · omega
    · exact a2 q v ((if_neg hq).symm.trans t)
  · exact ins_ne (by omega) (a3.2 q hq)
theorem AL_call {us : List Nat} (A : AL K ws c n κ0 h0 κ h) (W : cI K κ h h') (g : fk us κ h h') (hs : ∀ v, us.contains v.1 = true → ws v = true) : AL K ws c n κ0 h0 κ h' := by
  obtain ⟨a1, a2, a3, a4, a5, a6, a7, a8⟩ := A
  obtain ⟨w1, w2, w3, w4⟩ := W
  refine ⟨⟨w1, fun _ _ => rfl, rfl, rfl⟩, fun q v t => by rw [w3]; exact a2 q v t, a3, fun q h1 h2 => ?_, fun q v h1 h2 => ?_, by omega, by omega, by omega⟩
  · exact (w2 q ((a3.2 q h1).trans h2)).trans (a4 q h1 h2)
  · have h3 : κ q = some v := (a3.2 q (a3.1 q v h1)).trans h1
    refine (g q v.1 v.2 h3 ?_).trans (a5 q v h1 h2)
    cases hc : us.contains v.1 with
    | false => rfl
    | true => rw [hs v hc] at h2; cases h2
theorem AL_ws {ws' : Nat × Nat → Bool} (A : AL K ws c n κ0 h0 κ h) (hs : ∀ v, ws v = true → ws' v = true) : AL K ws' c n κ0 h0 κ h := by
  obtain ⟨a1, a2, a3, a4, a5, a6, a7, a8⟩ := A
  refine ⟨a1, a2, a3, a4, fun q v h1 h2 => a5 q v h1 ?_, a6, a7, a8⟩
  cases e : ws v with
  | false => rfl
  | true => rw [hs v e] at h2; cases h2
/-- a change of cells that were not there at the beginning, or that may change -/
theorem AL_ch (A : AL K ws c n κ0 h0 κ h) (W : cI K κ h h') (g : ∀ q v, κ0 q = some v → ws v = false → h'.1 q = h.1 q) : AL K ws c n κ0 h0 κ h' := by
  obtain ⟨a1, a2, a3, a4, a5, a6, a7, a8⟩ := A
  obtain ⟨w1, w2, w3, w4⟩ := W
  exact ⟨⟨w1, fun _ _ => rfl, rfl, rfl⟩, fun q v t => by rw [w3]; exact a2 q v t, a3, fun q h1 h2 => (w2 q ((a3.2 q h1).trans h2)).trans (a4 q h1 h2), fun q v h1 h2 => (g q v h1 h2).trans (a5 q v h1 h2), by omega, by omega, by omega⟩
theorem AL_in (A : AL K ws c n κ0 h0 κ h) {v : Nat × Nat} (t : κ0 a = some v) : κ a = some v := (A.2.2.1.2 a (A.2.2.1.1 a v t)).trans t
theorem AL_fr (A : AL K ws c n κ0 h0 κ h) (ha : h.2.1 ≤ a) : κ a = none := dm_none A.2.1 ha
theorem AL_tr {ws' : Nat × Nat → Bool} {c' n' : Nat} (A : AL K ws c n κ0 h0 κ h) (B : AL K ws' c' n' κ h κ' h') (hs : ∀ v, ws' v = true → ws v = true) : AL K ws (c + c') (n + n') κ0 h0 κ' h' := by
  obtain ⟨a1, a2, a3, a4, a5, a6, a7, a8⟩ := A
  obtain ⟨b1, b2, b3, b4, b5, b6, b7, b8⟩ := B
  refine ⟨b1, b2, ⟨a3.1, fun q hq => (b3.2 q (by omega)).trans (a3.2 q hq)⟩, fun q h1 h2 => (b4 q (by omega) ((a3.2 q h1).trans h2)).trans (a4 q h1 h2), fun q v h1 h2 => ?_, by omega, by omega, by omega⟩
  refine (b5 q v ((a3.2 q (a3.1 q v h1)).trans h1) ?_).trans (a5 q v h1 h2)
  cases e : ws' v with
  | false => rfl
  | true => rw [hs v e] at h2; cases h2
/-- a field of an object that is being made -/
theorem wu {Φ : ah_R → Prop} {K1 : ah_H → Option ah_R} {i : Nat} {v : AV} (A : AL K ws c n κ0 h0 κ h) (ha : h0.2.1 ≤ a) (hn : κ a = none) (e : h.1 a = some (kd, vs)) (hi : i < vs.length) (k : ∀ h', AL K ws c n κ0 h0 κ h' → h'.1 a = some (kd, vs.set i v) → (∀ q, q ≠ a → h'.1 q = h.1 q) → h'.2.1 = h.2.1 → h'.2.2.1 = h.2.2.1 → wq (K1 h') Φ) : wq (ah_wr h (some a) kd i v K1) Φ :=
  wq_wr e hi (k _ (AL_up A ha hn) up_eq (fun _ hq => up_ne hq rfl) rfl rfl)
/-- a new array, of the kind that κ gives it -/
theorem wna {Φ : ah_R → Prop} {lim : Nat × Nat} {K1 : Option Nat → ah_H → Option ah_R} {kh N : Nat} {v : AV} {j : Int32} (A : AL K ws c n κ0 h0 κ h) (hh : hkd kd = kh) (hj : j.toInt = N) (hN : N ≤ 4000) (hr : h.2.1 + 1 ≤ lim.1 ∧ h.2.2.1 + N ≤ lim.2) (o : okC K (ins κ h.2.1 (kd, N)) kd N (List.replicate N v)) (k : ∀ h', AL K ws (c + 1) (n + N) κ0 h0 (ins κ h.2.1 (kd, N)) h' → h'.1 h.2.1 = some (kh, List.replicate N v) → (∀ q, q < h.2.1 → h'.1 q = h.1 q) → h'.2.1 = h.2.1 + 1 → h'.2.2.1 = h.2.2.1 + N → wq (K1 (some h.2.1) h') Φ) : wq (ah_mka lim h kh v j K1) Φ := by
  subst hh
  refine wq_mka (ix_ge (by omega)) (show j.toInt.toNat = N by omega) (by omega) ⟨by omega, hr.2⟩ (k _ ?_ nw_eq (fun q hq => nw_ne (by omega) rfl) rfl rfl)
  exact AL_ins (AL_new A) A.2.2.2.2.2.1 (Nat.lt_succ_self _) (AL_fr A (Nat.le_refl _)) nw_eq o
/-- a new object, that is being made -/
theorem wno {Φ : ah_R → Prop} {lim : Nat × Nat} {K1 : Option Nat → ah_H → Option ah_R} {N : Nat} (A : AL K ws c n κ0 h0 κ h) (hr : h.2.1 + 1 ≤ lim.1 ∧ h.2.2.1 + N ≤ lim.2) (k : ∀ h', AL K ws (c + 1) (n + N) κ0 h0 κ h' → h'.1 h.2.1 = some o → (∀ q, q < h.2.1 → h'.1 q = h.1 q) → h'.2.1 = h.2.1 + 1 → h'.2.2.1 = h.2.2.1 + N → wq (K1 (some h.2.1) h') Φ) : wq (ah_mk lim h o N K1) Φ :=
  wq_mk ⟨by omega, hr.2⟩ (k _ (AL_new A) nw_eq (fun q hq => nw_ne (by omega) rfl) rfl rfl)
end Al
