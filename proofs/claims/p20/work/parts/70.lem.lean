/-! STATEMENTS: what is told, what is aimed at -/
/-- what is told: within its rows -/
def AI (σ : rS) : Prop := 0 ≤ (σ.1 46).toInt ∧ (σ.1 46).toInt ≤ 200 ∧ 0 ≤ (σ.1 47).toInt ∧ (σ.1 47).toInt ≤ 500 ∧ ∀ i : Nat, (i : Int) ≤ (σ.1 46).toInt → 0 ≤ (ia σ 37 i).toInt ∧ (ia σ 37 i).toInt ≤ 500
/-- told: a acts, w values -/
def AT (σ : rS) (a w : Int32) (f : Nat → Int32) : Prop := σ.1 46 = a ∧ σ.1 47 = w ∧ ∀ i, ia σ 37 i = f i
theorem sG_eq {σ : rS} {k : Nat} {x : Int32} : (sG σ k x).1 k = x := if_pos rfl
theorem sG_ne {σ : rS} {k i : Nat} {x : Int32} (h : i ≠ k) : (sG σ k x).1 i = σ.1 i := if_neg h
theorem sI_eq {σ : rS} {j k : Nat} {x : Int32} : ia (sI σ j k x) j k = x := if_pos ⟨rfl, rfl⟩
theorem sI_nj {σ : rS} {j k a i : Nat} {x : Int32} (h : a ≠ j) : ia (sI σ j k x) a i = ia σ a i := if_neg (fun e => h e.1)
theorem sI_ni {σ : rS} {j k a i : Nat} {x : Int32} (h : i ≠ k) : ia (sI σ j k x) a i = ia σ a i := if_neg (fun e => h e.2)
theorem QR_s {p j i : Nat} (hp : p < 1000 ∨ 2000 ≤ p) (h1 : 31 ≤ j) (h2 : j ≤ 38) : QR p j i := Or.inr (Or.inr (Or.inr (Or.inl ⟨hp, Or.inr (Or.inr (Or.inl ⟨h1, h2⟩))⟩)))
theorem QR_38 {p i : Nat} (hp : p ≠ 1000) : QR p 38 i := Or.inr (Or.inr (Or.inl (Or.inr ⟨hp, Or.inl rfl⟩)))
theorem QR_5 {p i : Nat} (hp : p < 1000 ∨ 2000 ≤ p) (h : 65536 ≤ i) : QR p 5 i := Or.inr (Or.inr (Or.inr (Or.inl ⟨hp, Or.inr (Or.inl ⟨rfl, h⟩)⟩)))
theorem nQ46 : ¬ QR 1001 100 46 := by unfold QR; omega
theorem nQ47 : ¬ QR 1001 100 47 := by unfold QR; omega
section At
variable {σ σ0 σ' : rS} {a w x : Int32} {f : Nat → Int32} {j k n : Nat} {z : Int64} {c t : Int}
theorem AI_sm (g : sm (QR 1001) σ σ') (hA : AI σ) : AI σ' := by
  have e1 : σ'.1 46 = σ.1 46 := g.1 46 (by unfold QR; omega)
  have e2 : σ'.1 47 = σ.1 47 := g.1 47 (by unfold QR; omega)
  have e3 : ∀ i, ia σ' 37 i = ia σ 37 i := fun i => g.2.2.1 37 i (by unfold QR; omega)
  unfold AI
  rw [e1, e2]
  exact ⟨hA.1, hA.2.1, hA.2.2.1, hA.2.2.2.1, fun i hi => by rw [e3]; exact hA.2.2.2.2 i hi⟩
theorem AT_sm (g : sm (QR 1001) σ0 σ) : AT σ (σ0.1 46) (σ0.1 47) (ia σ0 37) := ⟨g.1 46 (by unfold QR; omega), g.1 47 (by unfold QR; omega), fun i => g.2.2.1 37 i (by unfold QR; omega)⟩
theorem AT_I (t : AT σ a w f) (hj : j ≠ 37) : AT (sI σ j k x) a w f := ⟨t.1, t.2.1, fun i => (up2_nj (fun e => hj e.symm)).trans (t.2.2 i)⟩
theorem AT_J (t : AT σ a w f) : AT (sJ σ j k z) a w f := t
theorem AT_L (t : AT σ a w f) : AT (sL σ k z) a w f := t
theorem AT_46 (t : AT σ a w f) : AT (sG σ 46 x) x w f := ⟨sG_eq, (sG_ne (by omega)).trans t.2.1, t.2.2⟩
theorem AT_47 (t : AT σ a w f) : AT (sG σ 47 x) a x f := ⟨(sG_ne (by omega)).trans t.1, sG_eq, t.2.2⟩
theorem AT_G (t : AT σ a w f) (h1 : k ≠ 46) (h2 : k ≠ 47) : AT (sG σ k x) a w f := ⟨(sG_ne (fun e => h1 e.symm)).trans t.1, (sG_ne (fun e => h2 e.symm)).trans t.2.1, t.2.2⟩
theorem AI_AT (hA : AI σ0) (t : AT σ (σ0.1 46) (σ0.1 47) (ia σ0 37)) : AI σ := by
  unfold AI
  rw [t.1, t.2.1]
  exact ⟨hA.1, hA.2.1, hA.2.2.1, hA.2.2.2.1, fun i hi => by rw [t.2.2]; exact hA.2.2.2.2 i hi⟩
theorem AI_fin (hA : AI σ0) (t : AT σ a w (ia σ0 37)) (ha : a.toInt = (σ0.1 46).toInt + 1) (h2 : (σ0.1 46).toInt < 200) (hw : 0 ≤ w.toInt) (hw2 : w.toInt ≤ 500) (hk : k = a.toInt.toNat) (hx : x = w) : AI (sI σ 37 k x) := by
  subst hk hx
  have e1 : (sI σ 37 a.toInt.toNat x).1 46 = a := t.1
  have e2 : (sI σ 37 a.toInt.toNat x).1 47 = x := t.2.1
  unfold AI
  rw [e1, e2]
  refine ⟨by have := hA.1; omega, by omega, hw, hw2, fun i hi => ?_⟩
  by_cases hq : i = a.toInt.toNat
  · subst hq
    rw [show ia (sI σ 37 a.toInt.toNat x) 37 a.toInt.toNat = x from up2_eq]
    exact ⟨hw, hw2⟩
  · rw [show ia (sI σ 37 a.toInt.toNat x) 37 i = ia σ 37 i from up2_ni hq, t.2.2]
    exact hA.2.2.2.2 i (by omega)
theorem xT_x (h : xT σ n t) (e : ¬ ia σ 8 t.toNat = 0) : xE σ n ((ia σ 11 t.toNat).toInt) := by
  rcases h.2 with g | g
  · exact absurd (Int32.toInt_inj.mp (g.trans rfl)) e
  · exact g.2
theorem tG82 {v : Int} (h : tG σ n v c) (hv : v = 80 ∨ v = 81) (e : ia σ 8 c.toNat = 82) : (ia σ 8 (ia σ 11 c.toNat).toInt.toNat).toInt = v ∧ oB σ ((ia σ 11 c.toNat).toInt) ∧ xE σ n ((ia σ 12 (ia σ 11 c.toNat).toInt.toNat).toInt) := by
  have e : (ia σ 8 c.toNat).toInt = 82 := congrArg Int32.toInt e
  rcases h.2 with g | g | g
  · omega
  · exact g.2
  · omega
theorem tG83 {v : Int} (h : tG σ n v c) (hv : v = 80 ∨ v = 81) (e : ia σ 8 c.toNat = 83) : (ia σ 8 (ia σ 11 c.toNat).toInt.toNat).toInt = v ∧ oB σ ((ia σ 11 c.toNat).toInt) ∧ vN σ ((ia σ 12 (ia σ 11 c.toNat).toInt.toNat).toInt) ∧ vN σ ((ia σ 12 (ia σ 12 (ia σ 11 c.toNat).toInt.toNat).toInt.toNat).toInt) ∧ 0 ≤ (ia σ 9 (ia σ 12 (ia σ 11 c.toNat).toInt.toNat).toInt.toNat).toInt ∧ 1 ≤ (ia σ 9 ((ia σ 12 (ia σ 12 (ia σ 11 c.toNat).toInt.toNat).toInt.toNat).toInt).toNat).toInt ∧ (ia σ 9 (ia σ 12 (ia σ 11 c.toNat).toInt.toNat).toInt.toNat).toInt + (ia σ 9 ((ia σ 12 (ia σ 12 (ia σ 11 c.toNat).toInt.toNat).toInt.toNat).toInt).toNat).toInt ≤ 64 := by
  have e : (ia σ 8 c.toNat).toInt = 83 := congrArg Int32.toInt e
  rcases h.2 with g | g | g
  · omega
  · omega
  · exact g.2
theorem tGo {v : Int} (h : tG σ n v c) (e : ¬ ia σ 8 c.toNat = 82) (e2 : ¬ ia σ 8 c.toNat = 83) : (ia σ 8 c.toNat).toInt = v ∧ oB σ c := by
  rcases h.2 with g | g | g
  · exact g
  · exact absurd (Int32.toInt_inj.mp (g.1.trans rfl)) e
  · exact absurd (Int32.toInt_inj.mp (g.1.trans rfl)) e2
/-- where a target begins -/
def tgP (σ0 σ' : rS) (c : Int) : Prop := 0 ≤ (σ'.1 43).toInt ∧ (σ'.1 43).toInt < 64 ∧ (ia σ0 8 c.toNat = 83 → σ'.1 43 = ia σ0 9 ((ia σ0 12 (ia σ0 11 c.toNat).toInt.toNat).toInt).toNat) ∧ (¬ ia σ0 8 c.toNat = 82 → ¬ ia σ0 8 c.toNat = 83 → σ'.1 43 = 0)
theorem tg_mk (e : σ' = sG σ 43 x) (h0 : 0 ≤ x.toInt) (h1 : x.toInt < 64) (h2 : ia σ0 8 c.toNat = 83 → x = ia σ0 9 ((ia σ0 12 (ia σ0 11 c.toNat).toInt.toNat).toInt).toNat) (h3 : ¬ ia σ0 8 c.toNat = 82 → ¬ ia σ0 8 c.toNat = 83 → x = 0) : tgP σ0 σ' c := by
  have e : σ'.1 43 = x := by rw [e]; exact sG_eq
  unfold tgP
  rw [e]
  exact ⟨h0, h1, h2, h3⟩
/-- what fits a part of a row is as long -/
def fitP (σ0 σ' : rS) (c : Int) : Prop := ia σ0 8 c.toNat = 83 → ia σ' 0 (whx σ0 ((ia σ0 11 c.toNat).toInt)).toInt.toNat = 1 → ia σ' 1 (9872 : Int32).toInt.toNat = ia σ0 9 ((ia σ0 12 (ia σ0 12 (ia σ0 11 c.toNat).toInt.toNat).toInt.toNat).toInt).toNat
end At
