/-! ONE CALL ON A FRESH OBJECT: arrays into fields, loops that fill them -/
abbrev aR (a : Nat) : AV := .inr (.inr (some a))
abbrev aN : AV := .inr (.inr none)
abbrev aI (x : Int32) : AV := .inl x
abbrev aJ (x : Int64) : AV := .inr (.inl x)
/-- fields that get arrays, one after another: field, kind, first value, length -/
abbrev iT : Type := List (Nat × Nat × AV × Nat)
def iF (T : iT) (q0 : Nat) (fs0 : List AV) : Nat → List AV
  | 0 => fs0
  | k + 1 => match T[k]? with
    | some q => (iF T q0 fs0 k).set q.1 (aR (q0 + k))
    | none => iF T q0 fs0 k
def iS (T : iT) : Nat → Nat
  | 0 => 0
  | k + 1 => match T[k]? with
    | some q => iS T k + q.2.2.2
    | none => iS T k
theorem iF_len {T : iT} {q0 : Nat} {fs0 : List AV} : ∀ k, (iF T q0 fs0 k).length = fs0.length
  | 0 => rfl
  | k + 1 => by
    unfold iF
    cases T[k]? with
    | none => exact iF_len k
    | some q =>
      dsimp only
      rw [List.length_set]; exact iF_len k
def iP (T : iT) (kf : Nat) (fs0 : List AV) (m q0 s0 : Nat) (h0 : ah_H) (k : Nat) (h : ah_H) : Prop :=
  h.1 m = some (kf, iF T q0 fs0 k) ∧ h.2.1 = q0 + k ∧ h.2.2.1 = s0 + iS T k ∧ (∀ j q, j < k → T[j]? = some q → h.1 (q0 + j) = some (q.2.1, List.replicate q.2.2.2 q.2.2.1)) ∧ ∀ q, q < q0 → q ≠ m → h.1 q = h0.1 q
theorem iP_0 {T : iT} {kf : Nat} {fs0 : List AV} {m q0 s0 : Nat} {h : ah_H} (hm : h.1 m = some (kf, fs0)) (hq : h.2.1 = q0) (hs : h.2.2.1 = s0) : iP T kf fs0 m q0 s0 h 0 h := ⟨hm, hq, hs, fun j q hj => absurd hj (Nat.not_lt_zero _), fun _ _ _ => rfl⟩
section Ini
variable {ρ : Type} {Φ : ρ → Prop} {lim : Nat × Nat}
theorem ini {T : iT} {kf : Nat} {fs0 : List AV} {m q0 s0 : Nat} {h0 : ah_H} {k : Nat} {h : ah_H} {fld kd n M : Nat} {v : AV} {j : Int32} {K : ah_H → Option ρ} (hP : iP T kf fs0 m q0 s0 h0 k h) (hT : T[k]? = some (fld, kd, v, n)) (hf : fld < fs0.length) (hm : m < q0) (hj : ¬ j < 0) (hn : j.toNatClampNeg = n) (hb : n * 8 ≤ 536870912) (hr1 : q0 + k < lim.1) (hS : iS T k + n ≤ M) (hr2 : s0 + M ≤ lim.2)
    (kk : ∀ h', iP T kf fs0 m q0 s0 h0 (k + 1) h' → wq (K h') Φ) : wq (ah_mka lim h kd v j fun r h2 => ah_wr h2 (some m) kf fld (.inr (.inr r)) K) Φ := by
  obtain ⟨p1, p2, p3, p4, p5⟩ := hP
  refine wq_mka hj hn hb (by rw [p2, p3]; omega) ?_
  refine wq_wr (vs := iF T q0 fs0 k) (nw_ne (by omega) p1) (by rw [iF_len]; exact hf) (kk _ ?_)
  refine ⟨?_, ?_, ?_, ?_, ?_⟩
  · refine up_eq.trans ?_
    rw [p2]
    simp only [iF, hT]
  · show h.2.1 + 1 = q0 + (k + 1)
    omega
  · show h.2.2.1 + n = s0 + iS T (k + 1)
    simp only [iS, hT]
    omega
  · intro j' q hj' hq
    by_cases e : j' = k
    · subst e
      rw [hT] at hq
      cases hq
      refine up_ne (by omega) ?_
      rw [← p2]
      exact nw_eq
    · exact up_ne (by omega) (nw_ne (by omega) (p4 j' q (by omega) hq))
  · intro q h1 h2
    exact up_ne h2 (nw_ne (by omega) (p5 q h1 h2))
end Ini
theorem i32_t {i n : Nat} (h : i < n) (hn : n < 2 ^ 31) : Nat.toInt32 i < Nat.toInt32 n := (Int32.ofNat_lt_iff_lt (by omega) hn).mpr h
theorem i32_f {i n : Nat} (h : ¬ i < n) (hi : i < 2 ^ 31) (hn : n < 2 ^ 31) : ¬ Nat.toInt32 i < Nat.toInt32 n := fun h1 => h ((Int32.ofNat_lt_iff_lt hi hn).mp h1)
theorem i32_0 {i : Nat} (hi : i < 2 ^ 31) : ¬ Nat.toInt32 i < 0 := by
  rw [Int32.lt_iff_toInt_lt, Int32.toInt_ofNat_of_lt hi]
  show ¬ (i : Int) < 0
  omega
theorem c_Datum_init {lim : Nat × Nat} {d : Nat} {h : ah_H} {a : Nat} {fs : List AV} (hc : h.1 a = some (1, fs)) (hl : fs.length = 7) : wq (vc lim (d + 1) m_Datum_init [aR a] h) (rV fun h' => h' = ah_up h a (1, fs.set 1 (aI 1))) :=
  wq_eq e_Datum_init (wq_nn (wq_wr hc (by omega) (wq_some (rV_i rfl))))
abbrev zD : List AV := [.inl 0, .inl 0, .inr (.inl 0), .inr (.inl 0), .inr (.inl 0), .inr (.inl 0), .inr (.inl 0)]
/-- a loop that makes Datums -/
theorem loopD {F : Int32 → ah_H → Option ah_R} {E : ah_H → Option ah_R} {m kf fl d a N : Nat} {lim : Nat × Nat} {fs : List AV} {Φ : ah_R → Prop} (hN : N < 2 ^ 31)
    (hF : ∀ v h, F v h = ah_gR h (some m) kf fl fun r1 => ah_len h r1 fun n2 => if v < n2 then ah_gR h (some m) kf fl fun r3 => ah_mk lim h (1, zD) 7 fun r4 h5 => ah_at h5 r4 1 fun _ _ => ah_cV (vc lim (d + 1) m_Datum_init [.inr (.inr r4)] h5) (nx h5) fun h6 => ah_sR h6 r3 v r4 fun h7 => F (v + 1) h7 else E h)
    (hfs : fs[fl]? = some (aR a)) (hma : m ≠ a) : ∀ (k i : Nat) (h : ah_H) (vs : List AV), i + k = N → h.1 m = some (kf, fs) → h.1 a = some (111, vs) → vs.length = N → m < h.2.1 → a < h.2.1 → h.2.1 + k ≤ lim.1 → h.2.2.1 + 7 * k ≤ lim.2 →
      (∀ h' vs', hk (fun q => q = a) k (7 * k) h h' → h'.1 a = some (111, vs') → vs'.length = N → wq (E h') Φ) → wq (F (Nat.toInt32 i) h) Φ := by
  intro k
  induction k with
  | zero =>
    intro i h vs hi h1 h2 h3 h4 h5 r1 r2 kk
    rw [hF]
    refine wq_gR h1 hfs (wq_len h2 (by decide) ?_)
    rw [h3]
    exact wq_f (i32_f (by omega) (by omega) hN) (kk h vs hk_refl h2 h3)
  | succ k ih =>
    intro i h vs hi h1 h2 h3 h4 h5 r1 r2 kk
    rw [hF]
    refine wq_gR h1 hfs (wq_len h2 (by decide) ?_)
    rw [h3]
    refine wq_t (i32_t (by omega) hN) ?_
    refine wq_gR h1 hfs (wq_mk ⟨by omega, by omega⟩ (wq_at nw_eq (wq_cV (c_Datum_init nw_eq rfl) ?_)))
    intro h6 e6
    subst e6
    have hj : (Nat.toInt32 i).toNatClampNeg = i := Int32.toNatClampNeg_ofNat_of_lt (by omega)
    refine wq_sR (vs := vs) (up_ne (by omega) (nw_ne (by omega) h2)) (by decide) up_eq rfl (i32_0 (by omega)) (by rw [hj]; omega) ?_
    rw [hj, show Nat.toInt32 i + 1 = Nat.toInt32 (i + 1) from (Int32.ofNat_add i 1).symm]
    refine ih (i + 1) _ (vs.set i (aR h.2.1)) (by omega) ?_ up_eq (by rw [List.length_set]; exact h3) ?_ ?_ ?_ ?_ ?_
    · exact up_ne hma (up_ne (by omega) (nw_ne (by omega) h1))
    · show m < h.2.1 + 1
      omega
    · show a < h.2.1 + 1
      omega
    · show h.2.1 + 1 + k ≤ lim.1
      omega
    · show h.2.2.1 + 7 + 7 * k ≤ lim.2
      omega
    · intro h' vs' g1 g2 g3
      refine kk h' vs' ?_ g2 g3
      obtain ⟨b1, b2, b3⟩ := g1
      refine ⟨fun q hq hs => ?_, ?_, ?_⟩
      · refine (b1 q (show q < h.2.1 + 1 by omega) hs).trans ?_
        exact up_ne hs (up_ne (by omega) (nw_ne (by omega) rfl))
      · rw [b2]
        show h.2.1 + 1 + k = h.2.1 + (k + 1)
        omega
      · rw [b3]
        show h.2.2.1 + 7 + 7 * k = h.2.2.1 + 7 * (k + 1)
        omega
