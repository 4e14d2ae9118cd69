/-! ARRAYS INTO FIELDS, AND THE REFERENCE'S CONSTRUCTOR -/
/-- fields that get arrays, one after another: field, kind, first value, length -/
abbrev iT : Type := List (Nat × Nat × AV × Nat)
def iF (T : iT) (q0 : Nat) (fs0 : List AV) : Nat → List AV
  | 0 => fs0
  | k + 1 => match T[k]? with
    | some q => (iF T q0 fs0 k).set q.1 (aR (q0 + k))
    | none => iF T q0 fs0 k
def iS (T : iT) : Nat → Nat
  | 0 => 0
  | k + 1 => match T[k]? with
    | some q => iS T k + q.2.2.2
    | none => iS T k
theorem iF_len {T : iT} {q0 : Nat} {fs0 : List AV} : ∀ k, (iF T q0 fs0 k).length = fs0.length
  | 0 => rfl
  | k + 1 => by
    unfold iF
    cases T[k]? with
    | none => exact iF_len k
    | some q =>
      dsimp only
      rw [List.length_set]; exact iF_len k
def iP (T : iT) (kf : Nat) (fs0 : List AV) (m q0 s0 : Nat) (h0 : ah_H) (k : Nat) (h : ah_H) : Prop :=
  h.1 m = some (kf, iF T q0 fs0 k) ∧ h.2.1 = q0 + k ∧ h.2.2.1 = s0 + iS T k ∧ (∀ j q, j < k → T[j]? = some q → h.1 (q0 + j) = some (q.2.1, List.replicate q.2.2.2 q.2.2.1)) ∧ ∀ q, q < q0 → q ≠ m → h.1 q = h0.1 q
theorem iP_0 {T : iT} {kf : Nat} {fs0 : List AV} {m q0 s0 : Nat} {h : ah_H} (hm : h.1 m = some (kf, fs0)) (hq : h.2.1 = q0) (hs : h.2.2.1 = s0) : iP T kf fs0 m q0 s0 h 0 h := ⟨hm, hq, hs, fun j q hj => absurd hj (Nat.not_lt_zero _), fun _ _ _ => rfl⟩
section Ini
variable {ρ : Type} {Φ : ρ → Prop} {lim : Nat × Nat}
theorem ini {T : iT} {kf : Nat} {fs0 : List AV} {m q0 s0 : Nat} {h0 : ah_H} {k : Nat} {h : ah_H} {fld kd n M : Nat} {v : AV} {j : Int32} {K : ah_H → Option ρ} (hP : iP T kf fs0 m q0 s0 h0 k h) (hT : T[k]? = some (fld, kd, v, n)) (hf : fld < fs0.length) (hm : m < q0) (hj : ¬ j < 0) (hn : j.toNatClampNeg = n) (hb : n * 8 ≤ 536870912) (hr1 : q0 + k < lim.1) (hS : iS T k + n ≤ M) (hr2 : s0 + M ≤ lim.2)
    (kk : ∀ h', iP T kf fs0 m q0 s0 h0 (k + 1) h' → wq (K h') Φ) : wq (ah_mka lim h kd v j fun r h2 => ah_wr h2 (some m) kf fld (.inr (.inr r)) K) Φ := by
  obtain ⟨p1, p2, p3, p4, p5⟩ := hP
  refine wq_mka hj hn hb (by rw [p2, p3]; omega) ?_
  refine wq_wr (vs := iF T q0 fs0 k) (nw_ne (by omega) p1) (by rw [iF_len]; exact hf) (kk _ ?_)
  refine ⟨?_, ?_, ?_, ?_, ?_⟩
  · refine up_eq.trans ?_
    rw [p2]
    simp only [iF, hT]
  · show h.2.1 + 1 = q0 + (k + 1)
    omega
  · show h.2.2.1 + n = s0 + iS T (k + 1)
    simp only [iS, hT]
    omega
  · intro j' q hj' hq
    by_cases e : j' = k
    · subst e
      rw [hT] at hq
      cases hq
      refine up_ne (by omega) ?_
      rw [← p2]
      exact nw_eq
    · exact up_ne (by omega) (nw_ne (by omega) (p4 j' q (by omega) hq))
  · intro q h1 h2
    exact up_ne h2 (nw_ne (by omega) (p5 q h1 h2))
end Ini
/-! THE REFERENCE'S CONSTRUCTOR (by program, out of its equation) -/
abbrev tR : iT := [(1, 103, aI 0, 10100), (2, 103, aI 0, 10100), (3, 100, aI 0, 10100), (4, 100, aI 0, 10100), (5, 101, aJ 0, 10100), (6, 103, aI 0, 646400), (10, 102, aI 0, 512), (11, 102, aI 0, 512), (12, 100, aI 0, 24000), (13, 100, aI 0, 24000), (14, 100, aI 0, 24000), (15, 100, aI 0, 24000), (16, 100, aI 0, 24000), (17, 100, aI 0, 24000), (18, 100, aI 0, 24000), (20, 100, aI 0, 4000), (24, 100, aI 0, 64), (25, 100, aI 0, 64), (26, 100, aI 0, 64), (27, 100, aI 0, 64), (28, 100, aI 0, 64), (29, 100, aI 0, 64), (30, 100, aI 0, 64), (31, 100, aI 0, 64), (32, 100, aI 0, 64), (33, 101, aJ 0, 64), (34, 100, aI 0, 64), (35, 100, aI 0, 8192), (36, 100, aI 0, 8192), (37, 101, aJ 0, 8192), (38, 101, aJ 0, 8192), (48, 102, aI 0, 200), (49, 100, aI 0, 200), (50, 100, aI 0, 200), (51, 100, aI 0, 200), (52, 100, aI 0, 200), (53, 101, aJ 0, 200), (54, 100, aI 0, 201), (55, 101, aJ 0, 528)]
abbrev fR : List AV := [aI 0, aN, aN, aN, aN, aN, aN, aI 0, aI 0, aI 0, aN, aN, aN, aN, aN, aN, aN, aN, aN, aI 0, aN, aI 0, aI 0, aI 0, aN, aN, aN, aN, aN, aN, aN, aN, aN, aN, aN, aN, aN, aN, aN, aI 0, aI 0, aI 0, aI 0, aI 0, aJ 0, aJ 0, aI 0, aI 0, aN, aN, aN, aN, aN, aN, aN, aN]
/-- the reference's fields, when it has been made at m -/
abbrev rF (m : Nat) : List AV := [aI 0, aR (m + 1), aR (m + 2), aR (m + 3), aR (m + 4), aR (m + 5), aR (m + 6), aI 0, aI 0, aI 0, aR (m + 7), aR (m + 8), aR (m + 9), aR (m + 10), aR (m + 11), aR (m + 12), aR (m + 13), aR (m + 14), aR (m + 15), aI 0, aR (m + 16), aI 0, aI 0, aI 0, aR (m + 17), aR (m + 18), aR (m + 19), aR (m + 20), aR (m + 21), aR (m + 22), aR (m + 23), aR (m + 24), aR (m + 25), aR (m + 26), aR (m + 27), aR (m + 28), aR (m + 29), aR (m + 30), aR (m + 31), aI 0, aI 0, aI 0, aI 0, aI 0, aJ 0, aJ 0, aI 0, aI 0, aR (m + 32), aR (m + 33), aR (m + 34), aR (m + 35), aR (m + 36), aR (m + 37), aR (m + 38), aR (m + 39)]
set_option maxRecDepth 10000 in
set_option maxHeartbeats 2000000 in
theorem c_Ref_init {lim : Nat × Nat} {d : Nat} {h : ah_H} {m : Nat} (hc : h.1 m = some (11, fR)) (hq : h.2.1 = m + 1) (hr1 : m + 40 ≤ lim.1) (hr2 : h.2.2.1 + 905325 ≤ lim.2) : wq (vc lim (d + 1) m_Ref_init [aR m] h) (rV (iP tR 11 fR m (m + 1) h.2.2.1 h 39)) := by
  refine wq_eq e_Ref_init (wq_nn ?_)
  have hP := iP_0 (T := tR) (s0 := h.2.2.1) hc hq rfl
  have hm : m < m + 1 := by omega
  refine ini hP rfl (Nat.le_of_ble_eq_true rfl) hm (by decide) (by decide) (Nat.le_of_ble_eq_true rfl) (by omega) (Nat.le_of_ble_eq_true rfl) hr2 (fun _ hP => ?_)
  refine ini hP rfl (Nat.le_of_ble_eq_true rfl) hm (by decide) (by decide) (Nat.le_of_ble_eq_true rfl) (by omega) (Nat.le_of_ble_eq_true rfl) hr2 (fun _ hP => ?_)
  refine ini hP rfl (Nat.le_of_ble_eq_true rfl) hm (by decide) (by decide) (Nat.le_of_ble_eq_true rfl) (by omega) (Nat.le_of_ble_eq_true rfl) hr2 (fun _ hP => ?_)
  refine ini hP rfl (Nat.le_of_ble_eq_true rfl) hm (by decide) (by decide) (Nat.le_of_ble_eq_true rfl) (by omega) (Nat.le_of_ble_eq_true rfl) hr2 (fun _ hP => ?_)
  refine ini hP rfl (Nat.le_of_ble_eq_true rfl) hm (by decide) (by decide) (Nat.le_of_ble_eq_true rfl) (by omega) (Nat.le_of_ble_eq_true rfl) hr2 (fun _ hP => ?_)
  refine ini hP rfl (Nat.le_of_ble_eq_true rfl) hm (by decide) (by decide) (Nat.le_of_ble_eq_true rfl) (by omega) (Nat.le_of_ble_eq_true rfl) hr2 (fun _ hP => ?_)
  refine ini hP rfl (Nat.le_of_ble_eq_true rfl) hm (by decide) (by decide) (Nat.le_of_ble_eq_true rfl) (by omega) (Nat.le_of_ble_eq_true rfl) hr2 (fun _ hP => ?_)
  refine ini hP rfl (Nat.le_of_ble_eq_true rfl) hm (by decide) (by decide) (Nat.le_of_ble_eq_true rfl) (by omega) (Nat.le_of_ble_eq_true rfl) hr2 (fun _ hP => ?_)
  refine ini hP rfl (Nat.le_of_ble_eq_true rfl) hm (by decide) (by decide) (Nat.le_of_ble_eq_true rfl) (by omega) (Nat.le_of_ble_eq_true rfl) hr2 (fun _ hP => ?_)
  refine ini hP rfl (Nat.le_of_ble_eq_true rfl) hm (by decide) (by decide) (Nat.le_of_ble_eq_true rfl) (by omega) (Nat.le_of_ble_eq_true rfl) hr2 (fun _ hP => ?_)
  refine ini hP rfl (Nat.le_of_ble_eq_true rfl) hm (by decide) (by decide) (Nat.le_of_ble_eq_true rfl) (by omega) (Nat.le_of_ble_eq_true rfl) hr2 (fun _ hP => ?_)
  refine ini hP rfl (Nat.le_of_ble_eq_true rfl) hm (by decide) (by decide) (Nat.le_of_ble_eq_true rfl) (by omega) (Nat.le_of_ble_eq_true rfl) hr2 (fun _ hP => ?_)
  refine ini hP rfl (Nat.le_of_ble_eq_true rfl) hm (by decide) (by decide) (Nat.le_of_ble_eq_true rfl) (by omega) (Nat.le_of_ble_eq_true rfl) hr2 (fun _ hP => ?_)
  refine ini hP rfl (Nat.le_of_ble_eq_true rfl) hm (by decide) (by decide) (Nat.le_of_ble_eq_true rfl) (by omega) (Nat.le_of_ble_eq_true rfl) hr2 (fun _ hP => ?_)
  refine ini hP rfl (Nat.le_of_ble_eq_true rfl) hm (by decide) (by decide) (Nat.le_of_ble_eq_true rfl) (by omega) (Nat.le_of_ble_eq_true rfl) hr2 (fun _ hP => ?_)
  refine ini hP rfl (Nat.le_of_ble_eq_true rfl) hm (by decide) (by decide) (Nat.le_of_ble_eq_true rfl) (by omega) (Nat.le_of_ble_eq_true rfl) hr2 (fun _ hP => ?_)
  refine ini hP rfl (Nat.le_of_ble_eq_true rfl) hm (by decide) (by decide) (Nat.le_of_ble_eq_true rfl) (by omega) (Nat.le_of_ble_eq_true rfl) hr2 (fun _ hP => ?_)
  refine ini hP rfl (Nat.le_of_ble_eq_true rfl) hm (by decide) (by decide) (Nat.le_of_ble_eq_true rfl) (by omega) (Nat.le_of_ble_eq_true rfl) hr2 (fun _ hP => ?_)
  refine ini hP rfl (Nat.le_of_ble_eq_true rfl) hm (by decide) (by decide) (Nat.le_of_ble_eq_true rfl) (by omega) (Nat.le_of_ble_eq_true rfl) hr2 (fun _ hP => ?_)
  refine ini hP rfl (Nat.le_of_ble_eq_true rfl) hm (by decide) (by decide) (Nat.le_of_ble_eq_true rfl) (by omega) (Nat.le_of_ble_eq_true rfl) hr2 (fun _ hP => ?_)
  refine ini hP rfl (Nat.le_of_ble_eq_true rfl) hm (by decide) (by decide) (Nat.le_of_ble_eq_true rfl) (by omega) (Nat.le_of_ble_eq_true rfl) hr2 (fun _ hP => ?_)
  refine ini hP rfl (Nat.le_of_ble_eq_true rfl) hm (by decide) (by decide) (Nat.le_of_ble_eq_true rfl) (by omega) (Nat.le_of_ble_eq_true rfl) hr2 (fun _ hP => ?_)
  refine ini hP rfl (Nat.le_of_ble_eq_true rfl) hm (by decide) (by decide) (Nat.le_of_ble_eq_true rfl) (by omega) (Nat.le_of_ble_eq_true rfl) hr2 (fun _ hP => ?_)
  refine ini hP rfl (Nat.le_of_ble_eq_true rfl) hm (by decide) (by decide) (Nat.le_of_ble_eq_true rfl) (by omega) (Nat.le_of_ble_eq_true rfl) hr2 (fun _ hP => ?_)
  refine ini hP rfl (Nat.le_of_ble_eq_true rfl) hm (by decide) (by decide) (Nat.le_of_ble_eq_true rfl) (by omega) (Nat.le_of_ble_eq_true rfl) hr2 (fun _ hP => ?_)
  refine ini hP rfl (Nat.le_of_ble_eq_true rfl) hm (by decide) (by decide) (Nat.le_of_ble_eq_true rfl) (by omega) (Nat.le_of_ble_eq_true rfl) hr2 (fun _ hP => ?_)
  refine ini hP rfl (Nat.le_of_ble_eq_true rfl) hm (by decide) (by decide) (Nat.le_of_ble_eq_true rfl) (by omega) (Nat.le_of_ble_eq_true rfl) hr2 (fun _ hP => ?_)
  refine ini hP rfl (Nat.le_of_ble_eq_true rfl) hm (by decide) (by decide) (Nat.le_of_ble_eq_true rfl) (by omega) (Nat.le_of_ble_eq_true rfl) hr2 (fun _ hP => ?_)
  refine ini hP rfl (Nat.le_of_ble_eq_true rfl) hm (by decide) (by decide) (Nat.le_of_ble_eq_true rfl) (by omega) (Nat.le_of_ble_eq_true rfl) hr2 (fun _ hP => ?_)
  refine ini hP rfl (Nat.le_of_ble_eq_true rfl) hm (by decide) (by decide) (Nat.le_of_ble_eq_true rfl) (by omega) (Nat.le_of_ble_eq_true rfl) hr2 (fun _ hP => ?_)
  refine ini hP rfl (Nat.le_of_ble_eq_true rfl) hm (by decide) (by decide) (Nat.le_of_ble_eq_true rfl) (by omega) (Nat.le_of_ble_eq_true rfl) hr2 (fun _ hP => ?_)
  refine ini hP rfl (Nat.le_of_ble_eq_true rfl) hm (by decide) (by decide) (Nat.le_of_ble_eq_true rfl) (by omega) (Nat.le_of_ble_eq_true rfl) hr2 (fun _ hP => ?_)
  refine ini hP rfl (Nat.le_of_ble_eq_true rfl) hm (by decide) (by decide) (Nat.le_of_ble_eq_true rfl) (by omega) (Nat.le_of_ble_eq_true rfl) hr2 (fun _ hP => ?_)
  refine ini hP rfl (Nat.le_of_ble_eq_true rfl) hm (by decide) (by decide) (Nat.le_of_ble_eq_true rfl) (by omega) (Nat.le_of_ble_eq_true rfl) hr2 (fun _ hP => ?_)
  refine ini hP rfl (Nat.le_of_ble_eq_true rfl) hm (by decide) (by decide) (Nat.le_of_ble_eq_true rfl) (by omega) (Nat.le_of_ble_eq_true rfl) hr2 (fun _ hP => ?_)
  refine ini hP rfl (Nat.le_of_ble_eq_true rfl) hm (by decide) (by decide) (Nat.le_of_ble_eq_true rfl) (by omega) (Nat.le_of_ble_eq_true rfl) hr2 (fun _ hP => ?_)
  refine ini hP rfl (Nat.le_of_ble_eq_true rfl) hm (by decide) (by decide) (Nat.le_of_ble_eq_true rfl) (by omega) (Nat.le_of_ble_eq_true rfl) hr2 (fun _ hP => ?_)
  refine ini hP rfl (Nat.le_of_ble_eq_true rfl) hm (by decide) (by decide) (Nat.le_of_ble_eq_true rfl) (by omega) (Nat.le_of_ble_eq_true rfl) hr2 (fun _ hP => ?_)
  refine ini hP rfl (Nat.le_of_ble_eq_true rfl) hm (by decide) (by decide) (Nat.le_of_ble_eq_true rfl) (by omega) (Nat.le_of_ble_eq_true rfl) hr2 (fun _ hP => ?_)
  exact wq_some (rV_i hP)
theorem iF_s {T : iT} {q0 k fld kd n : Nat} {fs0 : List AV} {v : AV} (hT : T[k]? = some (fld, kd, v, n)) : iF T q0 fs0 (k + 1) = (iF T q0 fs0 k).set fld (aR (q0 + k)) := by simp only [iF, hT]
theorem rF_0 (m : Nat) : iF tR (m + 1) fR 0 = [aI 0, aN, aN, aN, aN, aN, aN, aI 0, aI 0, aI 0, aN, aN, aN, aN, aN, aN, aN, aN, aN, aI 0, aN, aI 0, aI 0, aI 0, aN, aN, aN, aN, aN, aN, aN, aN, aN, aN, aN, aN, aN, aN, aN, aI 0, aI 0, aI 0, aI 0, aI 0, aJ 0, aJ 0, aI 0, aI 0, aN, aN, aN, aN, aN, aN, aN, aN] := rfl
theorem rF_1 (m : Nat) : iF tR (m + 1) fR 1 = [aI 0, aR (m + 1), aN, aN, aN, aN, aN, aI 0, aI 0, aI 0, aN, aN, aN, aN, aN, aN, aN, aN, aN, aI 0, aN, aI 0, aI 0, aI 0, aN, aN, aN, aN, aN, aN, aN, aN, aN, aN, aN, aN, aN, aN, aN, aI 0, aI 0, aI 0, aI 0, aI 0, aJ 0, aJ 0, aI 0, aI 0, aN, aN, aN, aN, aN, aN, aN, aN] := by
  rw [iF_s (k := 0) (fld := 1) (T := tR) rfl, rF_0, show m + 1 + 0 = m + 1 by omega]
  rfl
theorem rF_2 (m : Nat) : iF tR (m + 1) fR 2 = [aI 0, aR (m + 1), aR (m + 2), aN, aN, aN, aN, aI 0, aI 0, aI 0, aN, aN, aN, aN, aN, aN, aN, aN, aN, aI 0, aN, aI 0, aI 0, aI 0, aN, aN, aN, aN, aN, aN, aN, aN, aN, aN, aN, aN, aN, aN, aN, aI 0, aI 0, aI 0, aI 0, aI 0, aJ 0, aJ 0, aI 0, aI 0, aN, aN, aN, aN, aN, aN, aN, aN] := by
  rw [iF_s (k := 1) (fld := 2) (T := tR) rfl, rF_1, show m + 1 + 1 = m + 2 by omega]
  rfl
theorem rF_3 (m : Nat) : iF tR (m + 1) fR 3 = [aI 0, aR (m + 1), aR (m + 2), aR (m + 3), aN, aN, aN, aI 0, aI 0, aI 0, aN, aN, aN, aN, aN, aN, aN, aN, aN, aI 0, aN, aI 0, aI 0, aI 0, aN, aN, aN, aN, aN, aN, aN, aN, aN, aN, aN, aN, aN, aN, aN, aI 0, aI 0, aI 0, aI 0, aI 0, aJ 0, aJ 0, aI 0, aI 0, aN, aN, aN, aN, aN, aN, aN, aN] := by
  rw [iF_s (k := 2) (fld := 3) (T := tR) rfl, rF_2, show m + 1 + 2 = m + 3 by omega]
  rfl
theorem rF_4 (m : Nat) : iF tR (m + 1) fR 4 = [aI 0, aR (m + 1), aR (m + 2), aR (m + 3), aR (m + 4), aN, aN, aI 0, aI 0, aI 0, aN, aN, aN, aN, aN, aN, aN, aN, aN, aI 0, aN, aI 0, aI 0, aI 0, aN, aN, aN, aN, aN, aN, aN, aN, aN, aN, aN, aN, aN, aN, aN, aI 0, aI 0, aI 0, aI 0, aI 0, aJ 0, aJ 0, aI 0, aI 0, aN, aN, aN, aN, aN, aN, aN, aN] := by
  rw [iF_s (k := 3) (fld := 4) (T := tR) rfl, rF_3, show m + 1 + 3 = m + 4 by omega]
  rfl
theorem rF_5 (m : Nat) : iF tR (m + 1) fR 5 = [aI 0, aR (m + 1), aR (m + 2), aR (m + 3), aR (m + 4), aR (m + 5), aN, aI 0, aI 0, aI 0, aN, aN, aN, aN, aN, aN, aN, aN, aN, aI 0, aN, aI 0, aI 0, aI 0, aN, aN, aN, aN, aN, aN, aN, aN, aN, aN, aN, aN, aN, aN, aN, aI 0, aI 0, aI 0, aI 0, aI 0, aJ 0, aJ 0, aI 0, aI 0, aN, aN, aN, aN, aN, aN, aN, aN] := by
  rw [iF_s (k := 4) (fld := 5) (T := tR) rfl, rF_4, show m + 1 + 4 = m + 5 by omega]
  rfl
theorem rF_6 (m : Nat) : iF tR (m + 1) fR 6 = [aI 0, aR (m + 1), aR (m + 2), aR (m + 3), aR (m + 4), aR (m + 5), aR (m + 6), aI 0, aI 0, aI 0, aN, aN, aN, aN, aN, aN, aN, aN, aN, aI 0, aN, aI 0, aI 0, aI 0, aN, aN, aN, aN, aN, aN, aN, aN, aN, aN, aN, aN, aN, aN, aN, aI 0, aI 0, aI 0, aI 0, aI 0, aJ 0, aJ 0, aI 0, aI 0, aN, aN, aN, aN, aN, aN, aN, aN] := by
  rw [iF_s (k := 5) (fld := 6) (T := tR) rfl, rF_5, show m + 1 + 5 = m + 6 by omega]
  rfl
theorem rF_7 (m : Nat) : iF tR (m + 1) fR 7 = [aI 0, aR (m + 1), aR (m + 2), aR (m + 3), aR (m + 4), aR (m + 5), aR (m + 6), aI 0, aI 0, aI 0, aR (m + 7), aN, aN, aN, aN, aN, aN, aN, aN, aI 0, aN, aI 0, aI 0, aI 0, aN, aN, aN, aN, aN, aN, aN, aN, aN, aN, aN, aN, aN, aN, aN, aI 0, aI 0, aI 0, aI 0, aI 0, aJ 0, aJ 0, aI 0, aI 0, aN, aN, aN, aN, aN, aN, aN, aN] := by
  rw [iF_s (k := 6) (fld := 10) (T := tR) rfl, rF_6, show m + 1 + 6 = m + 7 by omega]
  rfl
theorem rF_8 (m : Nat) : iF tR (m + 1) fR 8 = [aI 0, aR (m + 1), aR (m + 2), aR (m + 3), aR (m + 4), aR (m + 5), aR (m + 6), aI 0, aI 0, aI 0, aR (m + 7), aR (m + 8), aN, aN, aN, aN, aN, aN, aN, aI 0, aN, aI 0, aI 0, aI 0, aN, aN, aN, aN, aN, aN, aN, aN, aN, aN, aN, aN, aN, aN, aN, aI 0, aI 0, aI 0, aI 0, aI 0, aJ 0, aJ 0, aI 0, aI 0, aN, aN, aN, aN, aN, aN, aN, aN] := by
  rw [iF_s (k := 7) (fld := 11) (T := tR) rfl, rF_7, show m + 1 + 7 = m + 8 by omega]
  rfl
theorem rF_9 (m : Nat) : iF tR (m + 1) fR 9 = [aI 0, aR (m + 1), aR (m + 2), aR (m + 3), aR (m + 4), aR (m + 5), aR (m + 6), aI 0, aI 0, aI 0, aR (m + 7), aR (m + 8), aR (m + 9), aN, aN, aN, aN, aN, aN, aI 0, aN, aI 0, aI 0, aI 0, aN, aN, aN, aN, aN, aN, aN, aN, aN, aN, aN, aN, aN, aN, aN, aI 0, aI 0, aI 0, aI 0, aI 0, aJ 0, aJ 0, aI 0, aI 0, aN, aN, aN, aN, aN, aN, aN, aN] := by
  rw [iF_s (k := 8) (fld := 12) (T := tR) rfl, rF_8, show m + 1 + 8 = m + 9 by omega]
  rfl
theorem rF_10 (m : Nat) : iF tR (m + 1) fR 10 = [aI 0, aR (m + 1), aR (m + 2), aR (m + 3), aR (m + 4), aR (m + 5), aR (m + 6), aI 0, aI 0, aI 0, aR (m + 7), aR (m + 8), aR (m + 9), aR (m + 10), aN, aN, aN, aN, aN, aI 0, aN, aI 0, aI 0, aI 0, aN, aN, aN, aN, aN, aN, aN, aN, aN, aN, aN, aN, aN, aN, aN, aI 0, aI 0, aI 0, aI 0, aI 0, aJ 0, aJ 0, aI 0, aI 0, aN, aN, aN, aN, aN, aN, aN, aN] := by
  rw [iF_s (k := 9) (fld := 13) (T := tR) rfl, rF_9, show m + 1 + 9 = m + 10 by omega]
  rfl
theorem rF_11 (m : Nat) : iF tR (m + 1) fR 11 = [aI 0, aR (m + 1), aR (m + 2), aR (m + 3), aR (m + 4), aR (m + 5), aR (m + 6), aI 0, aI 0, aI 0, aR (m + 7), aR (m + 8), aR (m + 9), aR (m + 10), aR (m + 11), aN, aN, aN, aN, aI 0, aN, aI 0, aI 0, aI 0, aN, aN, aN, aN, aN, aN, aN, aN, aN, aN, aN, aN, aN, aN, aN, aI 0, aI 0, aI 0, aI 0, aI 0, aJ 0, aJ 0, aI 0, aI 0, aN, aN, aN, aN, aN, aN, aN, aN] := by
  rw [iF_s (k := 10) (fld := 14) (T := tR) rfl, rF_10, show m + 1 + 10 = m + 11 by omega]
  rfl
theorem rF_12 (m : Nat) : iF tR (m + 1) fR 12 = [aI 0, aR (m + 1), aR (m + 2), aR (m + 3), aR (m + 4), aR (m + 5), aR (m + 6), aI 0, aI 0, aI 0, aR (m + 7), aR (m + 8), aR (m + 9), aR (m + 10), aR (m + 11), aR (m + 12), aN, aN, aN, aI 0, aN, aI 0, aI 0, aI 0, aN, aN, aN, aN, aN, aN, aN, aN, aN, aN, aN, aN, aN, aN, aN, aI 0, aI 0, aI 0, aI 0, aI 0, aJ 0, aJ 0, aI 0, aI 0, aN, aN, aN, aN, aN, aN, aN, aN] := by
  rw [iF_s (k := 11) (fld := 15) (T := tR) rfl, rF_11, show m + 1 + 11 = m + 12 by omega]
  rfl
theorem rF_13 (m : Nat) : iF tR (m + 1) fR 13 = [aI 0, aR (m + 1), aR (m + 2), aR (m + 3), aR (m + 4), aR (m + 5), aR (m + 6), aI 0, aI 0, aI 0, aR (m + 7), aR (m + 8), aR (m + 9), aR (m + 10), aR (m + 11), aR (m + 12), aR (m + 13), aN, aN, aI 0, aN, aI 0, aI 0, aI 0, aN, aN, aN, aN, aN, aN, aN, aN, aN, aN, aN, aN, aN, aN, aN, aI 0, aI 0, aI 0, aI 0, aI 0, aJ 0, aJ 0, aI 0, aI 0, aN, aN, aN, aN, aN, aN, aN, aN] := by
  rw [iF_s (k := 12) (fld := 16) (T := tR) rfl, rF_12, show m + 1 + 12 = m + 13 by omega]
  rfl
theorem rF_14 (m : Nat) : iF tR (m + 1) fR 14 = [aI 0, aR (m + 1), aR (m + 2), aR (m + 3), aR (m + 4), aR (m + 5), aR (m + 6), aI 0, aI 0, aI 0, aR (m + 7), aR (m + 8), aR (m + 9), aR (m + 10), aR (m + 11), aR (m + 12), aR (m + 13), aR (m + 14), aN, aI 0, aN, aI 0, aI 0, aI 0, aN, aN, aN, aN, aN, aN, aN, aN, aN, aN, aN, aN, aN, aN, aN, aI 0, aI 0, aI 0, aI 0, aI 0, aJ 0, aJ 0, aI 0, aI 0, aN, aN, aN, aN, aN, aN, aN, aN] := by
  rw [iF_s (k := 13) (fld := 17) (T := tR) rfl, rF_13, show m + 1 + 13 = m + 14 by omega]
  rfl
theorem rF_15 (m : Nat) : iF tR (m + 1) fR 15 = [aI 0, aR (m + 1), aR (m + 2), aR (m + 3), aR (m + 4), aR (m + 5), aR (m + 6), aI 0, aI 0, aI 0, aR (m + 7), aR (m + 8), aR (m + 9), aR (m + 10), aR (m + 11), aR (m + 12), aR (m + 13), aR (m + 14), aR (m + 15), aI 0, aN, aI 0, aI 0, aI 0, aN, aN, aN, aN, aN, aN, aN, aN, aN, aN, aN, aN, aN, aN, aN, aI 0, aI 0, aI 0, aI 0, aI 0, aJ 0, aJ 0, aI 0, aI 0, aN, aN, aN, aN, aN, aN, aN, aN] := by
  rw [iF_s (k := 14) (fld := 18) (T := tR) rfl, rF_14, show m + 1 + 14 = m + 15 by omega]
  rfl
theorem rF_16 (m : Nat) : iF tR (m + 1) fR 16 = [aI 0, aR (m + 1), aR (m + 2), aR (m + 3), aR (m + 4), aR (m + 5), aR (m + 6), aI 0, aI 0, aI 0, aR (m + 7), aR (m + 8), aR (m + 9), aR (m + 10), aR (m + 11), aR (m + 12), aR (m + 13), aR (m + 14), aR (m + 15), aI 0, aR (m + 16), aI 0, aI 0, aI 0, aN, aN, aN, aN, aN, aN, aN, aN, aN, aN, aN, aN, aN, aN, aN, aI 0, aI 0, aI 0, aI 0, aI 0, aJ 0, aJ 0, aI 0, aI 0, aN, aN, aN, aN, aN, aN, aN, aN] := by
  rw [iF_s (k := 15) (fld := 20) (T := tR) rfl, rF_15, show m + 1 + 15 = m + 16 by omega]
  rfl
theorem rF_17 (m : Nat) : iF tR (m + 1) fR 17 = [aI 0, aR (m + 1), aR (m + 2), aR (m + 3), aR (m + 4), aR (m + 5), aR (m + 6), aI 0, aI 0, aI 0, aR (m + 7), aR (m + 8), aR (m + 9), aR (m + 10), aR (m + 11), aR (m + 12), aR (m + 13), aR (m + 14), aR (m + 15), aI 0, aR (m + 16), aI 0, aI 0, aI 0, aR (m + 17), aN, aN, aN, aN, aN, aN, aN, aN, aN, aN, aN, aN, aN, aN, aI 0, aI 0, aI 0, aI 0, aI 0, aJ 0, aJ 0, aI 0, aI 0, aN, aN, aN, aN, aN, aN, aN, aN] := by
  rw [iF_s (k := 16) (fld := 24) (T := tR) rfl, rF_16, show m + 1 + 16 = m + 17 by omega]
  rfl
theorem rF_18 (m : Nat) : iF tR (m + 1) fR 18 = [aI 0, aR (m + 1), aR (m + 2), aR (m + 3), aR (m + 4), aR (m + 5), aR (m + 6), aI 0, aI 0, aI 0, aR (m + 7), aR (m + 8), aR (m + 9), aR (m + 10), aR (m + 11), aR (m + 12), aR (m + 13), aR (m + 14), aR (m + 15), aI 0, aR (m + 16), aI 0, aI 0, aI 0, aR (m + 17), aR (m + 18), aN, aN, aN, aN, aN, aN, aN, aN, aN, aN, aN, aN, aN, aI 0, aI 0, aI 0, aI 0, aI 0, aJ 0, aJ 0, aI 0, aI 0, aN, aN, aN, aN, aN, aN, aN, aN] := by
  rw [iF_s (k := 17) (fld := 25) (T := tR) rfl, rF_17, show m + 1 + 17 = m + 18 by omega]
  rfl
theorem rF_19 (m : Nat) : iF tR (m + 1) fR 19 = [aI 0, aR (m + 1), aR (m + 2), aR (m + 3), aR (m + 4), aR (m + 5), aR (m + 6), aI 0, aI 0, aI 0, aR (m + 7), aR (m + 8), aR (m + 9), aR (m + 10), aR (m + 11), aR (m + 12), aR (m + 13), aR (m + 14), aR (m + 15), aI 0, aR (m + 16), aI 0, aI 0, aI 0, aR (m + 17), aR (m + 18), aR (m + 19), aN, aN, aN, aN, aN, aN, aN, aN, aN, aN, aN, aN, aI 0, aI 0, aI 0, aI 0, aI 0, aJ 0, aJ 0, aI 0, aI 0, aN, aN, aN, aN, aN, aN, aN, aN] := by
  rw [iF_s (k := 18) (fld := 26) (T := tR) rfl, rF_18, show m + 1 + 18 = m + 19 by omega]
  rfl
theorem rF_20 (m : Nat) : iF tR (m + 1) fR 20 = [aI 0, aR (m + 1), aR (m + 2), aR (m + 3), aR (m + 4), aR (m + 5), aR (m + 6), aI 0, aI 0, aI 0, aR (m + 7), aR (m + 8), aR (m + 9), aR (m + 10), aR (m + 11), aR (m + 12), aR (m + 13), aR (m + 14), aR (m + 15), aI 0, aR (m + 16), aI 0, aI 0, aI 0, aR (m + 17), aR (m + 18), aR (m + 19), aR (m + 20), aN, aN, aN, aN, aN, aN, aN, aN, aN, aN, aN, aI 0, aI 0, aI 0, aI 0, aI 0, aJ 0, aJ 0, aI 0, aI 0, aN, aN, aN, aN, aN, aN, aN, aN] := by
  rw [iF_s (k := 19) (fld := 27) (T := tR) rfl, rF_19, show m + 1 + 19 = m + 20 by omega]
  rfl
theorem rF_21 (m : Nat) : iF tR (m + 1) fR 21 = [aI 0, aR (m + 1), aR (m + 2), aR (m + 3), aR (m + 4), aR (m + 5), aR (m + 6), aI 0, aI 0, aI 0, aR (m + 7), aR (m + 8), aR (m + 9), aR (m + 10), aR (m + 11), aR (m + 12), aR (m + 13), aR (m + 14), aR (m + 15), aI 0, aR (m + 16), aI 0, aI 0, aI 0, aR (m + 17), aR (m + 18), aR (m + 19), aR (m + 20), aR (m + 21), aN, aN, aN, aN, aN, aN, aN, aN, aN, aN, aI 0, aI 0, aI 0, aI 0, aI 0, aJ 0, aJ 0, aI 0, aI 0, aN, aN, aN, aN, aN, aN, aN, aN] := by
  rw [iF_s (k := 20) (fld := 28) (T := tR) rfl, rF_20, show m + 1 + 20 = m + 21 by omega]
  rfl
theorem rF_22 (m : Nat) : iF tR (m + 1) fR 22 = [aI 0, aR (m + 1), aR (m + 2), aR (m + 3), aR (m + 4), aR (m + 5), aR (m + 6), aI 0, aI 0, aI 0, aR (m + 7), aR (m + 8), aR (m + 9), aR (m + 10), aR (m + 11), aR (m + 12), aR (m + 13), aR (m + 14), aR (m + 15), aI 0, aR (m + 16), aI 0, aI 0, aI 0, aR (m + 17), aR (m + 18), aR (m + 19), aR (m + 20), aR (m + 21), aR (m + 22), aN, aN, aN, aN, aN, aN, aN, aN, aN, aI 0, aI 0, aI 0, aI 0, aI 0, aJ 0, aJ 0, aI 0, aI 0, aN, aN, aN, aN, aN, aN, aN, aN] := by
  rw [iF_s (k := 21) (fld := 29) (T := tR) rfl, rF_21, show m + 1 + 21 = m + 22 by omega]
  rfl
theorem rF_23 (m : Nat) : iF tR (m + 1) fR 23 = [aI 0, aR (m + 1), aR (m + 2), aR (m + 3), aR (m + 4), aR (m + 5), aR (m + 6), aI 0, aI 0, aI 0, aR (m + 7), aR (m + 8), aR (m + 9), aR (m + 10), aR (m + 11), aR (m + 12), aR (m + 13), aR (m + 14), aR (m + 15), aI 0, aR (m + 16), aI 0, aI 0, aI 0, aR (m + 17), aR (m + 18), aR (m + 19), aR (m + 20), aR (m + 21), aR (m + 22), aR (m + 23), aN, aN, aN, aN, aN, aN, aN, aN, aI 0, aI 0, aI 0, aI 0, aI 0, aJ 0, aJ 0, aI 0, aI 0, aN, aN, aN, aN, aN, aN, aN, aN] := by
  rw [iF_s (k := 22) (fld := 30) (T := tR) rfl, rF_22, show m + 1 + 22 = m + 23 by omega]
  rfl
theorem rF_24 (m : Nat) : iF tR (m + 1) fR 24 = [aI 0, aR (m + 1), aR (m + 2), aR (m + 3), aR (m + 4), aR (m + 5), aR (m + 6), aI 0, aI 0, aI 0, aR (m + 7), aR (m + 8), aR (m + 9), aR (m + 10), aR (m + 11), aR (m + 12), aR (m + 13), aR (m + 14), aR (m + 15), aI 0, aR (m + 16), aI 0, aI 0, aI 0, aR (m + 17), aR (m + 18), aR (m + 19), aR (m + 20), aR (m + 21), aR (m + 22), aR (m + 23), aR (m + 24), aN, aN, aN, aN, aN, aN, aN, aI 0, aI 0, aI 0, aI 0, aI 0, aJ 0, aJ 0, aI 0, aI 0, aN, aN, aN, aN, aN, aN, aN, aN] := by
  rw [iF_s (k := 23) (fld := 31) (T := tR) rfl, rF_23, show m + 1 + 23 = m + 24 by omega]
  rfl
theorem rF_25 (m : Nat) : iF tR (m + 1) fR 25 = [aI 0, aR (m + 1), aR (m + 2), aR (m + 3), aR (m + 4), aR (m + 5), aR (m + 6), aI 0, aI 0, aI 0, aR (m + 7), aR (m + 8), aR (m + 9), aR (m + 10), aR (m + 11), aR (m + 12), aR (m + 13), aR (m + 14), aR (m + 15), aI 0, aR (m + 16), aI 0, aI 0, aI 0, aR (m + 17), aR (m + 18), aR (m + 19), aR (m + 20), aR (m + 21), aR (m + 22), aR (m + 23), aR (m + 24), aR (m + 25), aN, aN, aN, aN, aN, aN, aI 0, aI 0, aI 0, aI 0, aI 0, aJ 0, aJ 0, aI 0, aI 0, aN, aN, aN, aN, aN, aN, aN, aN] := by
  rw [iF_s (k := 24) (fld := 32) (T := tR) rfl, rF_24, show m + 1 + 24 = m + 25 by omega]
  rfl
theorem rF_26 (m : Nat) : iF tR (m + 1) fR 26 = [aI 0, aR (m + 1), aR (m + 2), aR (m + 3), aR (m + 4), aR (m + 5), aR (m + 6), aI 0, aI 0, aI 0, aR (m + 7), aR (m + 8), aR (m + 9), aR (m + 10), aR (m + 11), aR (m + 12), aR (m + 13), aR (m + 14), aR (m + 15), aI 0, aR (m + 16), aI 0, aI 0, aI 0, aR (m + 17), aR (m + 18), aR (m + 19), aR (m + 20), aR (m + 21), aR (m + 22), aR (m + 23), aR (m + 24), aR (m + 25), aR (m + 26), aN, aN, aN, aN, aN, aI 0, aI 0, aI 0, aI 0, aI 0, aJ 0, aJ 0, aI 0, aI 0, aN, aN, aN, aN, aN, aN, aN, aN] := by
  rw [iF_s (k := 25) (fld := 33) (T := tR) rfl, rF_25, show m + 1 + 25 = m + 26 by omega]
  rfl
theorem rF_27 (m : Nat) : iF tR (m + 1) fR 27 = [aI 0, aR (m + 1), aR (m + 2), aR (m + 3), aR (m + 4), aR (m + 5), aR (m + 6), aI 0, aI 0, aI 0, aR (m + 7), aR (m + 8), aR (m + 9), aR (m + 10), aR (m + 11), aR (m + 12), aR (m + 13), aR (m + 14), aR (m + 15), aI 0, aR (m + 16), aI 0, aI 0, aI 0, aR (m + 17), aR (m + 18), aR (m + 19), aR (m + 20), aR (m + 21), aR (m + 22), aR (m + 23), aR (m + 24), aR (m + 25), aR (m + 26), aR (m + 27), aN, aN, aN, aN, aI 0, aI 0, aI 0, aI 0, aI 0, aJ 0, aJ 0, aI 0, aI 0, aN, aN, aN, aN, aN, aN, aN, aN] := by
  rw [iF_s (k := 26) (fld := 34) (T := tR) rfl, rF_26, show m + 1 + 26 = m + 27 by omega]
  rfl
theorem rF_28 (m : Nat) : iF tR (m + 1) fR 28 = [aI 0, aR (m + 1), aR (m + 2), aR (m + 3), aR (m + 4), aR (m + 5), aR (m + 6), aI 0, aI 0, aI 0, aR (m + 7), aR (m + 8), aR (m + 9), aR (m + 10), aR (m + 11), aR (m + 12), aR (m + 13), aR (m + 14), aR (m + 15), aI 0, aR (m + 16), aI 0, aI 0, aI 0, aR (m + 17), aR (m + 18), aR (m + 19), aR (m + 20), aR (m + 21), aR (m + 22), aR (m + 23), aR (m + 24), aR (m + 25), aR (m + 26), aR (m + 27), aR (m + 28), aN, aN, aN, aI 0, aI 0, aI 0, aI 0, aI 0, aJ 0, aJ 0, aI 0, aI 0, aN, aN, aN, aN, aN, aN, aN, aN] := by
  rw [iF_s (k := 27) (fld := 35) (T := tR) rfl, rF_27, show m + 1 + 27 = m + 28 by omega]
  rfl
theorem rF_29 (m : Nat) : iF tR (m + 1) fR 29 = [aI 0, aR (m + 1), aR (m + 2), aR (m + 3), aR (m + 4), aR (m + 5), aR (m + 6), aI 0, aI 0, aI 0, aR (m + 7), aR (m + 8), aR (m + 9), aR (m + 10), aR (m + 11), aR (m + 12), aR (m + 13), aR (m + 14), aR (m + 15), aI 0, aR (m + 16), aI 0, aI 0, aI 0, aR (m + 17), aR (m + 18), aR (m + 19), aR (m + 20), aR (m + 21), aR (m + 22), aR (m + 23), aR (m + 24), aR (m + 25), aR (m + 26), aR (m + 27), aR (m + 28), aR (m + 29), aN, aN, aI 0, aI 0, aI 0, aI 0, aI 0, aJ 0, aJ 0, aI 0, aI 0, aN, aN, aN, aN, aN, aN, aN, aN] := by
  rw [iF_s (k := 28) (fld := 36) (T := tR) rfl, rF_28, show m + 1 + 28 = m + 29 by omega]
  rfl
theorem rF_30 (m : Nat) : iF tR (m + 1) fR 30 = [aI 0, aR (m + 1), aR (m + 2), aR (m + 3), aR (m + 4), aR (m + 5), aR (m + 6), aI 0, aI 0, aI 0, aR (m + 7), aR (m + 8), aR (m + 9), aR (m + 10), aR (m + 11), aR (m + 12), aR (m + 13), aR (m + 14), aR (m + 15), aI 0, aR (m + 16), aI 0, aI 0, aI 0, aR (m + 17), aR (m + 18), aR (m + 19), aR (m + 20), aR (m + 21), aR (m + 22), aR (m + 23), aR (m + 24), aR (m + 25), aR (m + 26), aR (m + 27), aR (m + 28), aR (m + 29), aR (m + 30), aN, aI 0, aI 0, aI 0, aI 0, aI 0, aJ 0, aJ 0, aI 0, aI 0, aN, aN, aN, aN, aN, aN, aN, aN] := by
  rw [iF_s (k := 29) (fld := 37) (T := tR) rfl, rF_29, show m + 1 + 29 = m + 30 by omega]
  rfl
theorem rF_31 (m : Nat) : iF tR (m + 1) fR 31 = [aI 0, aR (m + 1), aR (m + 2), aR (m + 3), aR (m + 4), aR (m + 5), aR (m + 6), aI 0, aI 0, aI 0, aR (m + 7), aR (m + 8), aR (m + 9), aR (m + 10), aR (m + 11), aR (m + 12), aR (m + 13), aR (m + 14), aR (m + 15), aI 0, aR (m + 16), aI 0, aI 0, aI 0, aR (m + 17), aR (m + 18), aR (m + 19), aR (m + 20), aR (m + 21), aR (m + 22), aR (m + 23), aR (m + 24), aR (m + 25), aR (m + 26), aR (m + 27), aR (m + 28), aR (m + 29), aR (m + 30), aR (m + 31), aI 0, aI 0, aI 0, aI 0, aI 0, aJ 0, aJ 0, aI 0, aI 0, aN, aN, aN, aN, aN, aN, aN, aN] := by
  rw [iF_s (k := 30) (fld := 38) (T := tR) rfl, rF_30, show m + 1 + 30 = m + 31 by omega]
  rfl
theorem rF_32 (m : Nat) : iF tR (m + 1) fR 32 = [aI 0, aR (m + 1), aR (m + 2), aR (m + 3), aR (m + 4), aR (m + 5), aR (m + 6), aI 0, aI 0, aI 0, aR (m + 7), aR (m + 8), aR (m + 9), aR (m + 10), aR (m + 11), aR (m + 12), aR (m + 13), aR (m + 14), aR (m + 15), aI 0, aR (m + 16), aI 0, aI 0, aI 0, aR (m + 17), aR (m + 18), aR (m + 19), aR (m + 20), aR (m + 21), aR (m + 22), aR (m + 23), aR (m + 24), aR (m + 25), aR (m + 26), aR (m + 27), aR (m + 28), aR (m + 29), aR (m + 30), aR (m + 31), aI 0, aI 0, aI 0, aI 0, aI 0, aJ 0, aJ 0, aI 0, aI 0, aR (m + 32), aN, aN, aN, aN, aN, aN, aN] := by
  rw [iF_s (k := 31) (fld := 48) (T := tR) rfl, rF_31, show m + 1 + 31 = m + 32 by omega]
  rfl
theorem rF_33 (m : Nat) : iF tR (m + 1) fR 33 = [aI 0, aR (m + 1), aR (m + 2), aR (m + 3), aR (m + 4), aR (m + 5), aR (m + 6), aI 0, aI 0, aI 0, aR (m + 7), aR (m + 8), aR (m + 9), aR (m + 10), aR (m + 11), aR (m + 12), aR (m + 13), aR (m + 14), aR (m + 15), aI 0, aR (m + 16), aI 0, aI 0, aI 0, aR (m + 17), aR (m + 18), aR (m + 19), aR (m + 20), aR (m + 21), aR (m + 22), aR (m + 23), aR (m + 24), aR (m + 25), aR (m + 26), aR (m + 27), aR (m + 28), aR (m + 29), aR (m + 30), aR (m + 31), aI 0, aI 0, aI 0, aI 0, aI 0, aJ 0, aJ 0, aI 0, aI 0, aR (m + 32), aR (m + 33), aN, aN, aN, aN, aN, aN] := by
  rw [iF_s (k := 32) (fld := 49) (T := tR) rfl, rF_32, show m + 1 + 32 = m + 33 by omega]
  rfl
theorem rF_34 (m : Nat) : iF tR (m + 1) fR 34 = [aI 0, aR (m + 1), aR (m + 2), aR (m + 3), aR (m + 4), aR (m + 5), aR (m + 6), aI 0, aI 0, aI 0, aR (m + 7), aR (m + 8), aR (m + 9), aR (m + 10), aR (m + 11), aR (m + 12), aR (m + 13), aR (m + 14), aR (m + 15), aI 0, aR (m + 16), aI 0, aI 0, aI 0, aR (m + 17), aR (m + 18), aR (m + 19), aR (m + 20), aR (m + 21), aR (m + 22), aR (m + 23), aR (m + 24), aR (m + 25), aR (m + 26), aR (m + 27), aR (m + 28), aR (m + 29), aR (m + 30), aR (m + 31), aI 0, aI 0, aI 0, aI 0, aI 0, aJ 0, aJ 0, aI 0, aI 0, aR (m + 32), aR (m + 33), aR (m + 34), aN, aN, aN, aN, aN] := by
  rw [iF_s (k := 33) (fld := 50) (T := tR) rfl, rF_33, show m + 1 + 33 = m + 34 by omega]
  rfl
theorem rF_35 (m : Nat) : iF tR (m + 1) fR 35 = [aI 0, aR (m + 1), aR (m + 2), aR (m + 3), aR (m + 4), aR (m + 5), aR (m + 6), aI 0, aI 0, aI 0, aR (m + 7), aR (m + 8), aR (m + 9), aR (m + 10), aR (m + 11), aR (m + 12), aR (m + 13), aR (m + 14), aR (m + 15), aI 0, aR (m + 16), aI 0, aI 0, aI 0, aR (m + 17), aR (m + 18), aR (m + 19), aR (m + 20), aR (m + 21), aR (m + 22), aR (m + 23), aR (m + 24), aR (m + 25), aR (m + 26), aR (m + 27), aR (m + 28), aR (m + 29), aR (m + 30), aR (m + 31), aI 0, aI 0, aI 0, aI 0, aI 0, aJ 0, aJ 0, aI 0, aI 0, aR (m + 32), aR (m + 33), aR (m + 34), aR (m + 35), aN, aN, aN, aN] := by
  rw [iF_s (k := 34) (fld := 51) (T := tR) rfl, rF_34, show m + 1 + 34 = m + 35 by omega]
  rfl
theorem rF_36 (m : Nat) : iF tR (m + 1) fR 36 = [aI 0, aR (m + 1), aR (m + 2), aR (m + 3), aR (m + 4), aR (m + 5), aR (m + 6), aI 0, aI 0, aI 0, aR (m + 7), aR (m + 8), aR (m + 9), aR (m + 10), aR (m + 11), aR (m + 12), aR (m + 13), aR (m + 14), aR (m + 15), aI 0, aR (m + 16), aI 0, aI 0, aI 0, aR (m + 17), aR (m + 18), aR (m + 19), aR (m + 20), aR (m + 21), aR (m + 22), aR (m + 23), aR (m + 24), aR (m + 25), aR (m + 26), aR (m + 27), aR (m + 28), aR (m + 29), aR (m + 30), aR (m + 31), aI 0, aI 0, aI 0, aI 0, aI 0, aJ 0, aJ 0, aI 0, aI 0, aR (m + 32), aR (m + 33), aR (m + 34), aR (m + 35), aR (m + 36), aN, aN, aN] := by
  rw [iF_s (k := 35) (fld := 52) (T := tR) rfl, rF_35, show m + 1 + 35 = m + 36 by omega]
  rfl
theorem rF_37 (m : Nat) : iF tR (m + 1) fR 37 = [aI 0, aR (m + 1), aR (m + 2), aR (m + 3), aR (m + 4), aR (m + 5), aR (m + 6), aI 0, aI 0, aI 0, aR (m + 7), aR (m + 8), aR (m + 9), aR (m + 10), aR (m + 11), aR (m + 12), aR (m + 13), aR (m + 14), aR (m + 15), aI 0, aR (m + 16), aI 0, aI 0, aI 0, aR (m + 17), aR (m + 18), aR (m + 19), aR (m + 20), aR (m + 21), aR (m + 22), aR (m + 23), aR (m + 24), aR (m + 25), aR (m + 26), aR (m + 27), aR (m + 28), aR (m + 29), aR (m + 30), aR (m + 31), aI 0, aI 0, aI 0, aI 0, aI 0, aJ 0, aJ 0, aI 0, aI 0, aR (m + 32), aR (m + 33), aR (m + 34), aR (m + 35), aR (m + 36), aR (m + 37), aN, aN] := by
  rw [iF_s (k := 36) (fld := 53) (T := tR) rfl, rF_36, show m + 1 + 36 = m + 37 by omega]
  rfl
theorem rF_38 (m : Nat) : iF tR (m + 1) fR 38 = [aI 0, aR (m + 1), aR (m + 2), aR (m + 3), aR (m + 4), aR (m + 5), aR (m + 6), aI 0, aI 0, aI 0, aR (m + 7), aR (m + 8), aR (m + 9), aR (m + 10), aR (m + 11), aR (m + 12), aR (m + 13), aR (m + 14), aR (m + 15), aI 0, aR (m + 16), aI 0, aI 0, aI 0, aR (m + 17), aR (m + 18), aR (m + 19), aR (m + 20), aR (m + 21), aR (m + 22), aR (m + 23), aR (m + 24), aR (m + 25), aR (m + 26), aR (m + 27), aR (m + 28), aR (m + 29), aR (m + 30), aR (m + 31), aI 0, aI 0, aI 0, aI 0, aI 0, aJ 0, aJ 0, aI 0, aI 0, aR (m + 32), aR (m + 33), aR (m + 34), aR (m + 35), aR (m + 36), aR (m + 37), aR (m + 38), aN] := by
  rw [iF_s (k := 37) (fld := 54) (T := tR) rfl, rF_37, show m + 1 + 37 = m + 38 by omega]
  rfl
theorem rF_39 (m : Nat) : iF tR (m + 1) fR 39 = [aI 0, aR (m + 1), aR (m + 2), aR (m + 3), aR (m + 4), aR (m + 5), aR (m + 6), aI 0, aI 0, aI 0, aR (m + 7), aR (m + 8), aR (m + 9), aR (m + 10), aR (m + 11), aR (m + 12), aR (m + 13), aR (m + 14), aR (m + 15), aI 0, aR (m + 16), aI 0, aI 0, aI 0, aR (m + 17), aR (m + 18), aR (m + 19), aR (m + 20), aR (m + 21), aR (m + 22), aR (m + 23), aR (m + 24), aR (m + 25), aR (m + 26), aR (m + 27), aR (m + 28), aR (m + 29), aR (m + 30), aR (m + 31), aI 0, aI 0, aI 0, aI 0, aI 0, aJ 0, aJ 0, aI 0, aI 0, aR (m + 32), aR (m + 33), aR (m + 34), aR (m + 35), aR (m + 36), aR (m + 37), aR (m + 38), aR (m + 39)] := by
  rw [iF_s (k := 38) (fld := 55) (T := tR) rfl, rF_38, show m + 1 + 38 = m + 39 by omega]
  rfl
theorem rF_eq (m : Nat) : iF tR (m + 1) fR 39 = rF m := rF_39 m
