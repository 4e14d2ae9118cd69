/-! FRAMES COME AND GO -/
section Yk
variable {lim : Nat × Nat} {d m n B fv pp : Nat} {V : ENV} {ht : Nat → Nat} {a b : Nat → Int64} {F F' : FL} {σ σ' σ0 : rS} {bb h h' h1 : ah_H} {td : TD} {kS kV : Nat → Int32 × Int32} {v c k k2 l s v1 v2 : Int32} {Φ : ah_R → Prop} {T : KT} {e : Nat → TS}
theorem xCh_c (P : PO T) (hv : rgN T l) : xCh T l k = -1 ∨ ∃ i : Nat, (i : Int) < (kf T 6 l).toInt ∧ xCh T l k = kC T l i := by
  by_cases q : rgN T l ∧ 0 ≤ k.toInt ∧ k.toInt < (kf T 6 l).toInt
  · exact Or.inr ⟨k.toInt.toNat, by omega, if_pos q⟩
  · exact Or.inl (if_neg q)
theorem SF_gt (S : SF T ht ((v, c) :: F)) {p : Int32 × Int32} (hp : p ∈ (v, c) :: F) : ht v.toInt.toNat ≤ ht p.1.toInt.toNat := by
  rcases List.mem_cons.mp hp with e | e
  · rw [e]
    exact Nat.le_refl _
  · exact Nat.le_of_lt (S.2.1 p e)
theorem bel_gt (HH : HT T ht) (hs : rgN T s) (hb : bel T s F) (S : SF T ht F) {p : Int32 × Int32} (hp : p ∈ F) : ht s.toInt.toNat < ht p.1.toInt.toNat := by
  obtain ⟨b1, F', rfl⟩ := hb
  have n : ¬ xU T s = -1 := fun q => by
    have := b1.1.1
    rw [q] at this
    exact absurd this (by decide)
  exact Nat.lt_of_lt_of_le ((HH s hs).2 n) (SF_gt S hp)
theorem up_gt (HH : HT T ht) (hv : rgN T v) (hu : xU T v = s) (hs : ¬ s = -1) : ht v.toInt.toNat < ht s.toInt.toNat := by
  have := (HH v hv).2 (by rw [hu]; exact hs)
  rw [hu] at this
  exact this
theorem rg_n (hs : rgN T s) : ¬ s = -1 := fun q => by
  rw [q] at hs
  exact absurd hs.1 (by decide)
/-- into a body of an IF -/
theorem SF_if (P : PO T) (HH : HT T ht) (hl : bdy T l) (hu : xU T l = s) (hs : rgN T s) (n1 : ¬ isLp (kf T 0 s) = true) (n2 : ¬ kf T 0 s = 36) (hb : bel T s F) (S : SF T ht F) : SF T ht ((l, xCh T l 0) :: F) := by
  refine ⟨hl.1, fun p hp => Nat.lt_trans (up_gt HH hl.1 hu (rg_n hs)) (bel_gt HH hs hb S hp), Or.inr ⟨hl, xCh_c P hl.1, ?_⟩, S⟩
  unfold own
  rw [hu, if_neg (rg_n hs), xK_r hs, if_neg n1, if_neg n2]
  exact ⟨hb, by rw [xK_r hs]; exact n1⟩
/-- into a body of a CASE -/
theorem SF_case (P : PO T) (HH : HT T ht) (hl : bdy T l) (hu : xU T l = c) (hc : rgN T c) (n2 : kf T 0 c = 36) (hcu : xU T c = s) (hs : rgN T s) (n1 : ¬ isLp (kf T 0 s) = true) (hb : bel T s F) (S : SF T ht F) : SF T ht ((l, xCh T l 0) :: F) := by
  refine ⟨hl.1, fun p hp => Nat.lt_trans (up_gt HH hl.1 hu (rg_n hc)) (Nat.lt_trans (up_gt HH hc hcu (rg_n hs)) (bel_gt HH hs hb S hp)), Or.inr ⟨hl, xCh_c P hl.1, ?_⟩, S⟩
  unfold own
  rw [hu, if_neg (rg_n hc), xK_r hc, if_neg (by rw [n2]; decide), if_pos n2, hcu]
  exact ⟨hb, by rw [xK_r hs]; exact n1⟩
/-- into a loop's body -/
theorem SF_body (P : PO T) (HH : HT T ht) (hl : bdy T l) (hu : xU T l = s) (hs : rgN T s) (n1 : isLp (kf T 0 s) = true) (S : SF T ht ((s, -1) :: F)) : SF T ht ((l, xCh T l 0) :: (s, -1) :: F) := by
  refine ⟨hl.1, fun p hp => Nat.lt_of_lt_of_le (up_gt HH hl.1 hu (rg_n hs)) (SF_gt S hp), Or.inr ⟨hl, xCh_c P hl.1, ?_⟩, S⟩
  unfold own
  rw [hu, if_neg (rg_n hs), xK_r hs, if_pos n1]
  exact ⟨F, rfl⟩
theorem SF_loop (HH : HT T ht) (hs : rgN T s) (n1 : isLp (kf T 0 s) = true) (hb : bel T s F) (S : SF T ht F) : SF T ht ((s, -1) :: F) := ⟨hs, fun p hp => bel_gt HH hs hb S hp, Or.inl ⟨n1, rfl, hb⟩, S⟩
/-! the arrays -/
theorem FK_lt {S : Nat} : ∀ F : FL, (∀ i, i < S + F.length → ia σ' 27 i = ia σ 27 i ∧ ia σ' 28 i = ia σ 28 i) → FK σ S B F → FK σ' S B F
  | [], _, _ => trivial
  | q :: F, e, ⟨h1, h2, h3⟩ => ⟨by rw [(e _ (by show S + F.length < S + (F.length + 1); omega)).1]; exact h1, by rw [(e _ (by show S + F.length < S + (F.length + 1); omega)).2]; exact h2, FK_lt F (fun i hi => e i (by show i < S + (F.length + 1); omega)) h3⟩
theorem TA_e (A : TA td σ) (eg : σ'.1 46 = σ.1 46 ∧ σ'.1 47 = σ.1 47) (ei : ∀ j i, 31 ≤ j → ia σ' j i = ia σ j i) (ej : ∀ j i, (j = 36 ∨ j = 38) → ja σ' j i = ja σ j i) (er : ∀ x, 9344 ≤ x → ia σ' 0 x = ia σ 0 x ∧ ia σ' 1 x = ia σ 1 x ∧ ja σ' 4 x = ja σ 4 x ∧ ∀ y, y < 64 → el σ' x y = el σ x y) : TA td σ' := by
  obtain ⟨a1, a2, a3, a4⟩ := A
  refine ⟨by rw [eg.1, eg.2]; exact a1, fun i hi => ?_, by rw [ei 37 _ (by omega)]; exact a3, fun x hx => ?_⟩
  · rw [ei 31 _ (by omega), ei 32 _ (by omega), ei 33 _ (by omega), ei 34 _ (by omega), ei 35 _ (by omega), ej 36 _ (Or.inl rfl), ei 37 _ (by omega), ei 37 _ (by omega)]
    exact a2 i hi
  · rw [ej 38 _ (Or.inr rfl)]
    obtain ⟨d1, d2, d3⟩ := a4 x hx
    obtain ⟨r0, r1, r4, r5⟩ := er (9344 + x) (by omega)
    exact ⟨d1, RW_e d2 r0 r1 r4 r5 d3, d3⟩
/-- arrays 20 to 30 and some numbers alone have changed -/
theorem BT_k (H : BT V B fv pp e td σ) (e1 : ∀ j i, (j ≤ 19 ∨ 31 ≤ j) → ia σ' j i = ia σ j i) (e2 : ∀ j i, (j = 4 ∨ j = 36 ∨ j = 38) → ja σ' j i = ja σ j i) (e3 : σ'.1 39 = σ.1 39 ∧ σ'.1 46 = σ.1 46 ∧ σ'.1 47 = σ.1 47) : BT V B fv pp e td σ' := BT_e H (fun j i hj => e1 j i (Or.inl hj)) (fun i => e2 4 i (Or.inl rfl)) e3.1 (TA_e H.2.2.2.2.2 e3.2 (fun j i hj => e1 j i (Or.inr hj)) (fun j i hj => e2 j i (Or.inr hj)) (fun x _ => ⟨e1 0 _ (by omega), e1 1 _ (by omega), e2 4 _ (Or.inl rfl), fun y _ => e1 5 _ (by omega)⟩))
theorem en_k {D : Nat} {j i : Nat} (hj : j ≠ 26 ∧ j ≠ 27 ∧ j ≠ 28) : ia (en σ pp D v1 v2) j i = ia σ j i := (sI_nj hj.2.2).trans ((sI_nj hj.2.1).trans (sI_nj hj.1))
theorem BS_en (HH : HT V.1 ht) (S : BS V B fv pp ht e a b td F σ) (hv1 : v1.toInt = B + v.toInt) (hv2 : v2.toInt = if c = -1 then -1 else B + c.toInt) (Sn : SF V.1 ht ((v, c) :: F)) (nf : kf V.1 0 v = 38 ∨ kf V.1 0 v = 39 → ja σ 29 (128 * pp + F.length) = a v.toInt.toNat ∧ ja σ 30 (128 * pp + F.length) = b v.toInt.toNat ∧ CW V.1 v (a v.toInt.toNat) (b v.toInt.toNat)) : BS V B fv pp ht e a b td ((v, c) :: F) (en σ pp F.length v1 v2) := by
  obtain ⟨Bt, x1, x2, x3, x4⟩ := S
  have l := SF_101 x4 HH
  have o1 : (1 : Int32).toInt = 1 := rfl
  refine ⟨BT_k Bt (fun j i hj => en_k ⟨by omega, by omega, by omega⟩) (fun _ _ _ => rfl) ⟨rfl, rfl, rfl⟩, ?_, ⟨?_, ?_, FK_lt F (fun i hi => ⟨?_, ?_⟩) x2⟩, ⟨nf, FC_e (σ := σ) (σ' := en σ pp F.length v1 v2) (fun _ => rfl) (fun _ => rfl) F x3⟩, Sn⟩
  · show (ia (en σ pp F.length v1 v2) 26 pp).toInt = ((F.length + 1 : Nat) : Int)
    unfold en
    rw [sI_nj (by omega), sI_nj (by omega), sI_eq, ad_i (by omega) (by omega), o1]
    omega
  · unfold en
    rw [sI_nj (by omega), sI_eq]
    exact hv1
  · unfold en
    rw [sI_eq]
    exact hv2
  · unfold en
    rw [sI_nj (by omega), sI_ni (by omega), sI_nj (by omega)]
  · unfold en
    rw [sI_ni (by omega), sI_nj (by omega), sI_nj (by omega)]
theorem QX_d : QX pp fv n 26 pp := by unfold QX; omega
theorem QX_s {j i : Nat} (hj : 27 ≤ j ∧ j ≤ 30) (hi : 128 * pp ≤ i ∧ i < 128 * pp + 128) : QX pp fv n j i := by unfold QX; omega
theorem rq_enter {K : ah_H → Option ah_R} (HH : HT V.1 ht) (H : RH m σ bb h) (S : BS V B fv pp ht e a b td F σ) (G0 : sm (QX pp fv V.2.2.2) σ0 σ) (hv1 : v1.toInt = B + v.toInt) (hv2 : v2.toInt = if c = -1 then -1 else B + c.toInt) (Sn : SF V.1 ht ((v, c) :: F)) (nf : kf V.1 0 v = 38 ∨ kf V.1 0 v = 39 → ja σ 29 (128 * pp + F.length) = a v.toInt.toNat ∧ ja σ 30 (128 * pp + F.length) = b v.toInt.toNat ∧ CW V.1 v (a v.toInt.toNat) (b v.toInt.toNat)) (k : ∀ σ' h', RH m σ' bb h' → BS V B fv pp ht e a b td ((v, c) :: F) σ' → sm (QX pp fv V.2.2.2) σ0 σ' → (∀ j i, ja σ' j i = ja σ j i) → wq (K h') Φ) : wq (ah_at h (some m) 11 fun _ _ => ah_cV (vc lim (d + 2) 90 [aR m, aI v1, aI v2] h) (nx h1) K) Φ := by
  have l := SF_101 S.2.2.2.2 HH
  refine wq_at H.1 (wq_cV (f_enter (d := F.length) H S.1.2.2.2.1.1 S.1.2.2.2.1.2 S.2.1 (by omega)) fun h2 H2 => k _ h2 H2 (BS_en HH S hv1 hv2 Sn nf) ?_ (fun _ _ => rfl))
  unfold en
  exact sm_I (sm_I (sm_I G0 QX_d) (QX_s (by omega) (by omega))) (QX_s (by omega) (by omega))
/-- the first child, as the reference has it -/
theorem kid_v {x : Int32} (P : PO T) (hl : rgN T l) (h0 : kf T 6 l = 0 → x = -1) (h1 : 0 < (kf T 6 l).toInt → x.toInt = B + (kC T l 0).toInt) : x.toInt = if xCh T l 0 = -1 then -1 else B + (xCh T l 0).toInt := by
  have m0 := (P.2 l hl).1
  by_cases q : 0 < (kf T 6 l).toInt
  · rw [show xCh T l 0 = kC T l 0 from xC_k (n := 0) hl rfl q, if_neg (rg_n (po_k P hl q).1)]
    exact h1 q
  · have z : kf T 6 l = 0 := Int32.toInt_inj.mp (by show _ = (0 : Int); omega)
    have zz : (0 : Int32).toInt = 0 := rfl
    rw [show xCh T l 0 = -1 from if_neg (fun q' => by have := q'.2.2; omega), if_pos rfl, h0 z]
    rfl
/-- one frame less -/
theorem BS_pop {q : Int32 × Int32} {x : Int32} (S : BS V B fv pp ht e a b td (q :: F) σ) (hx : x.toInt = F.length) : BS V B fv pp ht e a b td F (sI σ 26 pp x) := by
  obtain ⟨Bt, x1, ⟨-, -, x2⟩, ⟨-, x3⟩, ⟨-, -, -, x4⟩⟩ := S
  exact ⟨BT_k Bt (fun j i hj => sI_nj (by omega)) (fun _ _ _ => rfl) ⟨rfl, rfl, rfl⟩, by rw [sI_eq]; exact hx, FK_e (fun i => sI_nj (by omega)) (fun i => sI_nj (by omega)) F x2, FC_e (σ := σ) (σ' := sI σ 26 pp x) (fun _ => rfl) (fun _ => rfl) F x3, x4⟩
theorem rq_pop {K : ah_H → Option ah_R} {q : Int32 × Int32} (HH : HT V.1 ht) (H : RH m σ bb h) (S : BS V B fv pp ht e a b td (q :: F) σ) (G0 : sm (QX pp fv V.2.2.2) σ0 σ) (k : ∀ σ' h', RH m σ' bb h' → BS V B fv pp ht e a b td F σ' → sm (QX pp fv V.2.2.2) σ0 σ' → wq (K h') Φ) : wq (ah_gR h (some m) 11 34 fun r1 => ah_gI h (some m) 11 39 fun i2 => ah_lI h r1 100 i2 fun e3 => ah_sI h r1 100 i2 (.inl (e3 - 1)) K) Φ := by
  have l := SF_101 S.2.2.2.2 HH
  have hp := S.1.2.2.2.1
  have ix : (σ.1 39).toInt.toNat = pp := by omega
  have o1 : (1 : Int32).toInt = 1 := rfl
  have l' : F.length + 1 ≤ 101 := l
  have x1 : (ia σ 26 pp).toInt = ((F.length + 1 : Nat) : Int) := S.2.1
  refine wq_gR H.1 rfl (wq_gI H.1 rfl (ra_I H (j := 26) (by omega) rfl rfl (by omega) (by show _ < (64 : Int); omega) (rs_N (j := 26) H (by omega) rfl rfl hp.1 (by show pp < 64; omega) (fun h2 H2 => k _ h2 H2 (BS_pop S ?_) (sm_I G0 QX_d)))))
  rw [ix, sb_i (by omega) (by omega), o1]
  omega
end Yk
