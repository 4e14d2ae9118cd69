/-! STATEMENTS OF THE REFERENCE -/
/-- arrays and numbers that no resumption changes -/
def SE (σ σ' : rS) : Prop := (∀ j i, (j = 2 ∨ j = 3 ∨ (6 ≤ j ∧ j ≤ 19)) → ia σ' j i = ia σ j i) ∧ ∀ k, k < 40 → σ'.1 k = σ.1 k
theorem SE_of {p : Nat} {σ σ' : rS} (G : sm (QR p) σ σ') : SE σ σ' := ⟨fun j i hj => G.2.2.1 j i (nQ_j hj i), fun k hk => G.1 k (nQ_f hk)⟩
theorem SE_arr {σ σ' : rS} (E : SE σ σ') {j : Nat} (hj : j = 2 ∨ j = 3 ∨ (6 ≤ j ∧ j ≤ 19)) : ∀ i, ia σ' j i = ia σ j i := fun i => E.1 j i hj
theorem vN_SE {σ σ' : rS} (E : SE σ σ') (k : Int) : vN σ' k = vN σ k := by
  have e := E.2 22 (by omega)
  simp only [vN, e]
theorem chn_SE {σ σ' : rS} (E : SE σ σ') : ∀ j c, chn σ' j c = chn σ j c := by
  intro j
  have e := SE_arr E (j := 12) (by omega)
  induction j with
  | zero => intro c; rfl
  | succ j ih =>
    intro c
    simp only [chn, e, ih, vN_SE E]
theorem PV_SE {σ σ' : rS} (E : SE σ σ') (h : PV σ) : PV σ' := by
  have e1 := SE_arr E (j := 18) (by omega)
  have e2 := SE_arr E (j := 19) (by omega)
  have e3 := E.2 39 (by omega)
  simp only [PV, e1, e2, e3]
  exact h
theorem oB_SE {σ σ' : rS} (E : SE σ σ') (k : Int) : oB σ' k = oB σ k := by
  have e1 := SE_arr E (j := 8) (by omega)
  have e2 := SE_arr E (j := 9) (by omega)
  have e3 := SE_arr E (j := 19) (by omega)
  have e4 := E.2 39 (by omega)
  simp only [oB, vN_SE E, e1, e2, e3, e4]
theorem sB_SE {σ σ' : rS} (E : SE σ σ') (k : Int) : sB σ' k = sB σ k := by
  have e2 := SE_arr E (j := 9) (by omega)
  simp only [sB, e2, vN_SE E]
theorem xE_SE {σ σ' : rS} (E : SE σ σ') : ∀ n k, xE σ' n k = xE σ n k := by
  intro n
  have e1 := SE_arr E (j := 8) (by omega)
  have e2 := SE_arr E (j := 9) (by omega)
  have e3 := SE_arr E (j := 10) (by omega)
  have e4 := SE_arr E (j := 11) (by omega)
  have e5 := SE_arr E (j := 12) (by omega)
  induction n with
  | zero => intro k; rfl
  | succ n ih =>
    intro k
    simp only [xE, vN_SE E, e1, e2, e3, e4, e5, ih, chn_SE E, oB_SE E, sB_SE E]
/-- nodes one behind another, each as P says -/
def chL (σ : rS) (P : Int → Prop) : Nat → Int → Prop
  | 0, c => c = -1
  | l + 1, c => vN σ c ∧ P c ∧ chL σ P l ((ia σ 12 c.toNat).toInt)
/-- branches: conditions and bodies -/
def brL (σ : rS) (X B : Int → Prop) : Nat → Int → Prop
  | 0, c => c = -1
  | l + 1, c => vN σ c ∧ (((ia σ 12 c.toNat).toInt = -1 ∧ B c) ∨ (X c ∧ vN σ ((ia σ 12 c.toNat).toInt) ∧ B ((ia σ 12 c.toNat).toInt) ∧ brL σ X B l ((ia σ 12 (ia σ 12 c.toNat).toInt.toNat).toInt)))
def xT (σ : rS) (n : Nat) (t : Int) : Prop := vN σ t ∧ ((ia σ 8 t.toNat).toInt = 0 ∨ ((ia σ 8 t.toNat).toInt = 32 ∧ xE σ n ((ia σ 11 t.toNat).toInt)))
def xW (σ : rS) (n : Nat) (e : Int) : Prop := xE σ n ((ia σ 11 e.toNat).toInt) ∧ xT σ n ((ia σ 12 (ia σ 11 e.toNat).toInt.toNat).toInt)
/-- what is assigned to: a signal (80) or a variable (81), an element or a part of one -/
def tG (σ : rS) (n : Nat) (w c : Int) : Prop := vN σ c ∧ (((ia σ 8 c.toNat).toInt = w ∧ oB σ c) ∨ ((ia σ 8 c.toNat).toInt = 82 ∧ (ia σ 8 (ia σ 11 c.toNat).toInt.toNat).toInt = w ∧ oB σ ((ia σ 11 c.toNat).toInt) ∧ xE σ n ((ia σ 12 (ia σ 11 c.toNat).toInt.toNat).toInt)) ∨ ((ia σ 8 c.toNat).toInt = 83 ∧ (ia σ 8 (ia σ 11 c.toNat).toInt.toNat).toInt = w ∧ oB σ ((ia σ 11 c.toNat).toInt) ∧ vN σ ((ia σ 12 (ia σ 11 c.toNat).toInt.toNat).toInt) ∧ vN σ ((ia σ 12 (ia σ 12 (ia σ 11 c.toNat).toInt.toNat).toInt.toNat).toInt) ∧ 0 ≤ (ia σ 9 (ia σ 12 (ia σ 11 c.toNat).toInt.toNat).toInt.toNat).toInt ∧ 1 ≤ (ia σ 9 ((ia σ 12 (ia σ 12 (ia σ 11 c.toNat).toInt.toNat).toInt.toNat).toInt).toNat).toInt ∧ (ia σ 9 (ia σ 12 (ia σ 11 c.toNat).toInt.toNat).toInt.toNat).toInt + (ia σ 9 ((ia σ 12 (ia σ 12 (ia σ 11 c.toNat).toInt.toNat).toInt.toNat).toInt).toNat).toInt ≤ 64))
/-- a body of statements as S says -/
def xB (σ : rS) (S : Int → Prop) (c : Int) : Prop := vN σ c ∧ (ia σ 8 c.toNat).toInt = 48 ∧ ∃ l, chL σ S l ((ia σ 11 c.toNat).toInt)
def xC (σ : rS) (n : Nat) (B : Int → Prop) (w : Int) : Prop := vN σ ((ia σ 11 w.toNat).toInt) ∧ (∃ l, chL σ (fun c => (ia σ 8 c.toNat).toInt = 37 ∨ ((ia σ 8 c.toNat).toInt ≠ 37 ∧ xE σ n c)) l ((ia σ 11 (ia σ 11 w.toNat).toInt.toNat).toInt)) ∧ B ((ia σ 12 (ia σ 11 w.toNat).toInt.toNat).toInt)
/-- a statement, at most n high; q: whether it is in a loop -/
def xS (σ : rS) : Nat → Bool → Int → Prop
  | 0, _, _ => False
  | 1, _, s => vN σ s ∧ (ia σ 8 s.toNat).toInt = 45
  | n + 2, q, s => vN σ s ∧ (((ia σ 8 s.toNat).toInt = 30 ∧ 0 ≤ (ia σ 9 s.toNat).toInt ∧ (ia σ 9 s.toNat).toInt ≤ 2 ∧ tG σ (n + 1) 80 ((ia σ 11 s.toNat).toInt) ∧ ((ia σ 9 s.toNat).toInt = 2 → xT σ (n + 1) ((ia σ 12 (ia σ 11 s.toNat).toInt.toNat).toInt) ∧ (ia σ 8 (ia σ 12 (ia σ 11 s.toNat).toInt.toNat).toInt.toNat).toInt = 32) ∧ ∃ l, l ≤ 16 ∧ 1 ≤ l ∧ chL σ (xW σ (n + 1)) l (if (ia σ 9 s.toNat).toInt = 2 then (ia σ 12 (ia σ 12 (ia σ 11 s.toNat).toInt.toNat).toInt.toNat).toInt else (ia σ 12 (ia σ 11 s.toNat).toInt.toNat).toInt)) ∨ ((ia σ 8 s.toNat).toInt = 33 ∧ tG σ (n + 1) 81 ((ia σ 11 s.toNat).toInt) ∧ xE σ (n + 1) ((ia σ 12 (ia σ 11 s.toNat).toInt.toNat).toInt)) ∨ ((ia σ 8 s.toNat).toInt = 34 ∧ ∃ l, brL σ (xE σ (n + 1)) (xB σ (xS σ n q)) l ((ia σ 11 s.toNat).toInt)) ∨ ((ia σ 8 s.toNat).toInt = 35 ∧ xE σ (n + 1) ((ia σ 11 s.toNat).toInt) ∧ ∃ l, chL σ (xC σ (n + 1) (xB σ (xS σ n q))) l ((ia σ 12 (ia σ 11 s.toNat).toInt.toNat).toInt)) ∨ (((ia σ 8 s.toNat).toInt = 38 ∨ (ia σ 8 s.toNat).toInt = 39) ∧ oB σ ((ia σ 11 s.toNat).toInt) ∧ (ia σ 8 (ia σ 11 s.toNat).toInt.toNat).toInt = 81 ∧ xE σ (n + 1) ((ia σ 12 (ia σ 11 s.toNat).toInt.toNat).toInt) ∧ xE σ (n + 1) ((ia σ 12 (ia σ 12 (ia σ 11 s.toNat).toInt.toNat).toInt.toNat).toInt) ∧ xB σ (xS σ n true) ((ia σ 12 ((ia σ 12 (ia σ 12 (ia σ 11 s.toNat).toInt.toNat).toInt.toNat).toInt).toNat).toInt)) ∨ ((ia σ 8 s.toNat).toInt = 40 ∧ xE σ (n + 1) ((ia σ 11 s.toNat).toInt) ∧ xB σ (xS σ n true) ((ia σ 12 (ia σ 11 s.toNat).toInt.toNat).toInt)) ∨ ((ia σ 8 s.toNat).toInt = 41 ∧ xB σ (xS σ n true) ((ia σ 11 s.toNat).toInt)) ∨ (((ia σ 8 s.toNat).toInt = 42 ∨ (ia σ 8 s.toNat).toInt = 43) ∧ q = true ∧ vN σ ((ia σ 11 s.toNat).toInt) ∧ ((ia σ 8 (ia σ 11 s.toNat).toInt.toNat).toInt = 0 ∨ xE σ (n + 1) ((ia σ 11 s.toNat).toInt))) ∨ ((ia σ 8 s.toNat).toInt = 44 ∧ vN σ ((ia σ 11 s.toNat).toInt) ∧ 0 ≤ (ia σ 10 (ia σ 11 s.toNat).toInt.toNat).toInt ∧ chn σ ((ia σ 10 (ia σ 11 s.toNat).toInt.toNat).toInt).toNat ((ia σ 11 (ia σ 11 s.toNat).toInt.toNat).toInt) ∧ vN σ ((ia σ 12 (ia σ 11 s.toNat).toInt.toNat).toInt) ∧ ((ia σ 8 (ia σ 12 (ia σ 11 s.toNat).toInt.toNat).toInt.toNat).toInt = 0 ∨ xE σ (n + 1) ((ia σ 12 (ia σ 11 s.toNat).toInt.toNat).toInt)) ∧ xT σ (n + 1) ((ia σ 12 (ia σ 12 (ia σ 11 s.toNat).toInt.toNat).toInt.toNat).toInt)) ∨ (ia σ 8 s.toNat).toInt = 45 ∨ ((ia σ 8 s.toNat).toInt = 46 ∧ xE σ (n + 1) ((ia σ 11 s.toNat).toInt)) ∨ ((ia σ 8 s.toNat).toInt = 47 ∧ xE σ (n + 1) ((ia σ 11 s.toNat).toInt) ∧ xE σ (n + 1) ((ia σ 12 (ia σ 11 s.toNat).toInt.toNat).toInt)))
