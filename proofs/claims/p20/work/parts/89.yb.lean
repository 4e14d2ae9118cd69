/-! THE REFERENCE WHILE A PROCESS RUNS -/
/-- what a run may change -/
def QX (pp fv nV j i : Nat) : Prop := ((j = 0 ∨ j = 1 ∨ j = 4) ∧ 9344 ≤ i) ∨ (j = 5 ∧ 598016 ≤ i) ∨ (j = 4 ∧ 1024 + fv ≤ i ∧ i < 1024 + fv + nV) ∨ (j = 5 ∧ 64 * (1024 + fv) ≤ i ∧ i < 64 * (1024 + fv + nV)) ∨ (31 ≤ j ∧ j ≤ 38) ∨ (j = 100 ∧ ((41 ≤ i ∧ i ≤ 43) ∨ i = 46 ∨ i = 47)) ∨ j = 101 ∨ (24 ≤ j ∧ j ≤ 26 ∧ i = pp) ∨ (27 ≤ j ∧ j ≤ 30 ∧ 128 * pp ≤ i ∧ i < 128 * pp + 128)
/-- limits -/
def LMv (nS nV fv : Nat) (eS eV : Nat → TS) (σ : rS) : Prop := (∀ i, i < nS → wI (eS i).1 = 2 → ia σ 2 i = (eS i).2.2.2.2.1 ∧ ia σ 3 i = (eS i).2.2.2.2.2) ∧ ∀ i, i < nV → wI (eV i).1 = 2 → ia σ 2 (1024 + fv + i) = (eV i).2.2.2.2.1 ∧ ia σ 3 (1024 + fv + i) = (eV i).2.2.2.2.2
/-- what is told -/
def TA (τ : TD) (σ : rS) : Prop := ((σ.1 46).toInt = τ.1 ∧ (σ.1 47).toInt = τ.2.1 ∧ τ.1 ≤ 200 ∧ τ.2.1 ≤ 500) ∧ (∀ i, i < τ.1 → ia σ 31 i = τ.2.2.1 0 i ∧ ia σ 32 i = τ.2.2.1 1 i ∧ ia σ 33 i = τ.2.2.1 2 i ∧ ia σ 34 i = τ.2.2.1 3 i ∧ ia σ 35 i = τ.2.2.1 4 i ∧ (τ.2.2.1 0 i = 0 → ja σ 36 i = τ.2.2.2.1 i) ∧ ia σ 37 i = τ.2.2.1 6 i ∧ (ia σ 37 (i + 1)).toInt = (ia σ 37 i).toInt + (τ.2.2.1 5 i).toInt ∧ 0 ≤ (ia σ 37 i).toInt ∧ 0 ≤ (τ.2.2.1 5 i).toInt ∧ (τ.2.2.1 0 i = 0 ∨ (τ.2.2.1 0 i = 1 ∧ τ.2.2.1 5 i = 0))) ∧ (ia σ 37 τ.1).toInt = τ.2.1 ∧ ∀ w, w < τ.2.1 → ja σ 38 w = τ.2.2.2.2.1 w ∧ RW σ (9344 + w) (τ.2.2.2.2.2 w) ∧ WF (τ.2.2.2.2.2 w)
def BT (V : ENV) (B fv pp : Nat) (e : Nat → TS) (τ : TD) (σ : rS) : Prop := NB V.1 B σ ∧ EW V.2.1 V.2.2.2 fv V.2.2.1 e σ ∧ byE σ ∧ ((σ.1 39).toInt = pp ∧ pp < 64) ∧ LMv V.2.1 V.2.2.2 fv V.2.2.1 e σ ∧ TA τ σ
/-! frames -/
abbrev FL : Type := List (Int32 × Int32)
def FK (σ : rS) (s B : Nat) : FL → Prop
  | [] => True
  | q :: F => (ia σ 27 (s + F.length)).toInt = B + q.1.toInt ∧ (ia σ 28 (s + F.length)).toInt = (if q.2 = -1 then -1 else B + q.2.toInt) ∧ FK σ s B F
/-- counters that fit -/
def CW (T : KT) (v : Int32) (a b : Int64) : Prop := -2147483647 ≤ b.toInt ∧ b.toInt ≤ 2147483647 ∧ (kf T 0 v = 38 → -2147483647 ≤ a.toInt)
def FC (T : KT) (σ : rS) (s : Nat) (a b : Nat → Int64) : FL → Prop
  | [] => True
  | q :: F => (kf T 0 q.1 = 38 ∨ kf T 0 q.1 = 39 → ja σ 29 (s + F.length) = a q.1.toInt.toNat ∧ ja σ 30 (s + F.length) = b q.1.toInt.toNat ∧ CW T q.1 (a q.1.toInt.toNat) (b q.1.toInt.toNat)) ∧ FC T σ s a b F
/-- below a statement -/
def bel (T : KT) (s : Int32) (F : FL) : Prop := bdy T (xU T s) ∧ ∃ F', F = (xU T s, xCh T (xU T s) (xP T s + 1)) :: F'
/-- below a list -/
def own (T : KT) (l : Int32) (F : FL) : Prop := if xU T l = -1 then F = [] else if isLp (xK T (xU T l)) = true then ∃ F', F = (xU T l, -1) :: F' else bel T (if xK T (xU T l) = 36 then xU T (xU T l) else xU T l) F ∧ ¬ isLp (xK T (if xK T (xU T l) = 36 then xU T (xU T l) else xU T l)) = true
def SF (T : KT) (ht : Nat → Nat) : FL → Prop
  | [] => True
  | q :: F => rgN T q.1 ∧ (∀ p, p ∈ F → ht q.1.toInt.toNat < ht p.1.toInt.toNat) ∧ ((isLp (kf T 0 q.1) = true ∧ q.2 = -1 ∧ bel T q.1 F) ∨ (bdy T q.1 ∧ (q.2 = -1 ∨ ∃ i : Nat, (i : Int) < (kf T 6 q.1).toInt ∧ q.2 = kC T q.1 i) ∧ own T q.1 F)) ∧ SF T ht F
def nrm (T : KT) : FL → Int32 × Int32
  | [] => (0, -1)
  | q :: F => if isLp (kf T 0 q.1) = true then (2, q.1) else if q.2 = -1 then nrm T F else (1, q.2)
/-- heights -/
def HT (T : KT) (ht : Nat → Nat) : Prop := ∀ v, rgN T v → ht v.toInt.toNat ≤ 100 ∧ (¬ xU T v = -1 → ht v.toInt.toNat < ht (xU T v).toInt.toNat)
/-- the frames of process pp -/
def FX (T : KT) (B pp : Nat) (ht : Nat → Nat) (a b : Nat → Int64) (F : FL) (σ : rS) : Prop := (ia σ 26 pp).toInt = F.length ∧ FK σ (128 * pp) B F ∧ FC T σ (128 * pp) a b F ∧ SF T ht F
section Yb
variable {lim : Nat × Nat} {d m n B fv pp : Nat} {V : ENV} {T : KT} {ht : Nat → Nat} {a b : Nat → Int64} {F : FL} {σ σ' τ : rS} {bb h h' : ah_H} {e : Nat → TS} {td : TD} {kS kV : Nat → Int32 × Int32} {v k l p : Int32}
theorem QX_f {nV r : Nat} (hr : 9344 ≤ r) : ∀ j i, fQ r j i → QX pp fv nV j i := by
  intro j i q
  unfold fQ at q
  unfold QX
  omega
theorem bdy_n (g : bdy T l) : ¬ isLp (kf T 0 l) = true := by
  rw [g.2.1]
  decide
theorem SF_len : ∀ (F : FL), SF T ht F → HT T ht → ∀ q F', F = q :: F' → F.length + ht q.1.toInt.toNat ≤ 101 := by
  intro F
  induction F with
  | nil => intro _ _ q F' e; cases e
  | cons q F ih =>
    rintro ⟨s1, s2, -, s4⟩ H q' F' ee
    cases ee
    cases F with
    | nil =>
      have := (H q.1 s1).1
      show 0 + 1 + ht q.1.toInt.toNat ≤ 101
      omega
    | cons p F =>
      have i := ih s4 H p F rfl
      have := s2 p (List.mem_cons_self ..)
      show (p :: F).length + 1 + ht q.1.toInt.toNat ≤ 101
      omega
theorem SF_101 (S : SF T ht F) (H : HT T ht) : F.length ≤ 101 := by
  cases F with
  | nil => exact Nat.zero_le _
  | cons q F =>
    have := SF_len _ S H q F rfl
    omega
/-- where the class is -/
theorem gto_nrm : ∀ (n : Nat) (l p : Int32) (F : FL) (g : Int32 × Int32), SF T ht ((l, xCh T l p) :: F) → bdy T l → gto T n l p = some g → g = nrm T ((l, xCh T l p) :: F) := by
  intro n
  induction n with
  | zero => intro l p F g _ _ e; cases e
  | succ n ih =>
    intro l p F g S hb e
    obtain ⟨s1, s2, s3, s4⟩ := S
    have o : own T l F := by
      rcases s3 with ⟨q, -⟩ | ⟨-, -, q⟩
      · exact absurd q (bdy_n hb)
      · exact q
    have en : nrm T ((l, xCh T l p) :: F) = if xCh T l p = -1 then nrm T F else (1, xCh T l p) := if_neg (bdy_n hb)
    rw [en]
    unfold gto at e
    unfold own at o
    by_cases c1 : xCh T l p = -1
    · rw [if_pos c1] at e
      rw [if_pos c1]
      by_cases c2 : xU T l = -1
      · rw [if_pos c2] at e o
        rw [o]
        cases e
        rfl
      · rw [if_neg c2] at e o
        by_cases c3 : isLp (xK T (xU T l)) = true
        · rw [if_pos c3] at e o
          obtain ⟨F', rfl⟩ := o
          cases e
          exact (if_pos (lp_r c3).2).symm
        · rw [if_neg c3] at e o
          obtain ⟨⟨o1, F', rfl⟩, -⟩ := o
          exact ih _ _ F' g s4 o1 e
    · rw [if_neg c1] at e
      rw [if_neg c1]
      cases e
      rfl
theorem gq_0 (HG : GT T) (S : SF T ht F) (hb : bel T v F) : goP T 0 v = nrm T F := by
  obtain ⟨b1, F', rfl⟩ := hb
  obtain ⟨g, hg⟩ := HG (xU T v) (xP T v + 1)
  show (gto T 101 (xU T v) (xP T v + 1)).getD (0, -1) = _
  rw [hg]
  exact gto_nrm 101 _ _ F' g S b1 hg
theorem gq_1 (HG : GT T) (S : SF T ht ((l, xCh T l 0) :: F)) (hb : bdy T l) : goP T 1 l = nrm T ((l, xCh T l 0) :: F) := by
  obtain ⟨g, hg⟩ := HG l 0
  show (gto T 101 l 0).getD (0, -1) = _
  rw [hg]
  exact gto_nrm 101 _ _ F g S hb hg
theorem gq_2 (hv : isLp (kf T 0 v) = true) : goP T 2 v = nrm T ((v, k) :: F) := (if_pos hv).symm
/-! what finding leaves -/
theorem LM_sm {r : Nat} {nS nV : Nat} {eS : Nat → TS} (M : LMv nS nV fv eS e σ) (G : sm (fQ r) σ σ') : LMv nS nV fv eS e σ' := by
  have e2 : ∀ j i, (j = 2 ∨ j = 3) → ia σ' j i = ia σ j i := fun j i hj => G.2.2.1 j i (fun q => by unfold fQ at q; omega)
  refine ⟨fun i hi hw => ?_, fun i hi hw => ?_⟩
  · rw [e2 2 _ (Or.inl rfl), e2 3 _ (Or.inr rfl)]
    exact M.1 i hi hw
  · rw [e2 2 _ (Or.inl rfl), e2 3 _ (Or.inr rfl)]
    exact M.2 i hi hw
theorem TA_sm {r : Nat} (A : TA td σ) (G : sm (fQ r) σ σ') (hr : 9844 ≤ r) : TA td σ' := by
  have eg : ∀ k, k ≠ 41 → k ≠ 42 → σ'.1 k = σ.1 k := fun k h1 h2 => G.1 k (fun q => by unfold fQ at q; omega)
  have ei : ∀ j i, 6 ≤ j → j < 100 → ia σ' j i = ia σ j i := fun j i h1 h2 => G.2.2.1 j i (fun q => by unfold fQ at q; omega)
  have ej : ∀ j i, 6 ≤ j → j < 100 → ja σ' j i = ja σ j i := fun j i h1 h2 => G.2.2.2 j i (fun q => by unfold fQ at q; omega)
  obtain ⟨a1, a2, a3, a4⟩ := A
  refine ⟨?_, fun i hi => ?_, ?_, fun w hw => ?_⟩
  · rw [eg 46 (by omega) (by omega), eg 47 (by omega) (by omega)]
    exact a1
  · rw [ei 31 _ (by omega) (by omega), ei 32 _ (by omega) (by omega), ei 33 _ (by omega) (by omega), ei 34 _ (by omega) (by omega), ei 35 _ (by omega) (by omega), ej 36 _ (by omega) (by omega), ei 37 _ (by omega) (by omega), ei 37 _ (by omega) (by omega)]
    exact a2 i hi
  · rw [ei 37 _ (by omega) (by omega)]
    exact a3
  · rw [ej 38 _ (by omega) (by omega)]
    obtain ⟨c1, c2, c3⟩ := a4 w hw
    exact ⟨c1, RW_sm c3 c2 G (by have := a1.2.2.2; omega), c3⟩
theorem BT_sm {r : Nat} (H : BT V B fv pp e td σ) (G : sm (fQ r) σ σ') (hr : 9844 ≤ r) (hb : byE σ') : BT V B fv pp e td σ' := by
  obtain ⟨h1, h2, h3, h4, h5, h6⟩ := H
  refine ⟨NB_sm h1 G, EW_sm h2 G (by omega), hb, ?_, LM_sm h5 G, TA_sm h6 G hr⟩
  rw [G.1 39 (fun q => by unfold fQ at q; omega)]
  exact h4
theorem FK_e {s : Nat} (e1 : ∀ i, ia σ' 27 i = ia σ 27 i) (e2 : ∀ i, ia σ' 28 i = ia σ 28 i) : ∀ F : FL, FK σ s B F → FK σ' s B F
  | [], _ => trivial
  | q :: F, ⟨h1, h2, h3⟩ => ⟨by rw [e1]; exact h1, by rw [e2]; exact h2, FK_e e1 e2 F h3⟩
theorem FC_e {s : Nat} (e1 : ∀ i, ja σ' 29 i = ja σ 29 i) (e2 : ∀ i, ja σ' 30 i = ja σ 30 i) : ∀ F : FL, FC T σ s a b F → FC T σ' s a b F
  | [], _ => trivial
  | q :: F, ⟨h1, h2⟩ => ⟨fun c => by rw [e1, e2]; exact h1 c, FC_e e1 e2 F h2⟩
theorem FX_e (H : FX T B pp ht a b F σ) (e0 : ia σ' 26 pp = ia σ 26 pp) (e1 : ∀ i, ia σ' 27 i = ia σ 27 i) (e2 : ∀ i, ia σ' 28 i = ia σ 28 i) (e3 : ∀ i, ja σ' 29 i = ja σ 29 i) (e4 : ∀ i, ja σ' 30 i = ja σ 30 i) : FX T B pp ht a b F σ' := ⟨by rw [e0]; exact H.1, FK_e e1 e2 F H.2.1, FC_e e3 e4 F H.2.2.1, H.2.2.2⟩
theorem FX_sm {r : Nat} (H : FX T B pp ht a b F σ) (G : sm (fQ r) σ σ') : FX T B pp ht a b F σ' := by
  have ei : ∀ j i, 6 ≤ j → j < 100 → ia σ' j i = ia σ j i := fun j i h1 h2 => G.2.2.1 j i (fun q => by unfold fQ at q; omega)
  have ej : ∀ j i, 6 ≤ j → j < 100 → ja σ' j i = ja σ j i := fun j i h1 h2 => G.2.2.2 j i (fun q => by unfold fQ at q; omega)
  exact FX_e H (ei 26 _ (by omega) (by omega)) (fun i => ei 27 i (by omega) (by omega)) (fun i => ei 28 i (by omega) (by omega)) (fun i => ej 29 i (by omega) (by omega)) (fun i => ej 30 i (by omega) (by omega))
end Yb
