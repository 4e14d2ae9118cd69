/-! TREES OF EXPRESSIONS OF THE REFERENCE -/
/-- a node that is kept -/
def vN (σ : rS) (k : Int) : Prop := 4000 ≤ k ∧ k < 24000 ∧ k < 4000 + (σ.1 22).toInt
def PV (σ : rS) : Prop := 0 ≤ (σ.1 39).toInt ∧ (σ.1 39).toInt < 64 ∧ 0 ≤ (ia σ 18 (σ.1 39).toInt.toNat).toInt ∧ 0 ≤ (ia σ 19 (σ.1 39).toInt.toNat).toInt ∧ (ia σ 18 (σ.1 39).toInt.toNat).toInt + (ia σ 19 (σ.1 39).toInt.toNat).toInt ≤ 8192
def whx (σ : rS) (k : Int) : Int32 := if ia σ 8 k.toNat = 80 then ia σ 9 k.toNat else (1024 : Int32) + ia σ 18 (σ.1 39).toInt.toNat + ia σ 9 k.toNat
/-- a signal or a variable -/
def oB (σ : rS) (k : Int) : Prop := vN σ k ∧ (((ia σ 8 k.toNat).toInt = 80 ∧ 0 ≤ (ia σ 9 k.toNat).toInt ∧ (ia σ 9 k.toNat).toInt < 512) ∨ ((ia σ 8 k.toNat).toInt = 81 ∧ 0 ≤ (ia σ 9 k.toNat).toInt ∧ (ia σ 9 k.toNat).toInt < (ia σ 19 (σ.1 39).toInt.toNat).toInt))
def sB (σ : rS) (k : Int) : Prop := vN σ k ∧ 0 ≤ (ia σ 9 k.toNat).toInt ∧ (ia σ 9 k.toNat).toInt < 512
/-- j nodes one behind another, from c on -/
def chn (σ : rS) : Nat → Int → Prop
  | 0, c => c = -1
  | j + 1, c => vN σ c ∧ chn σ j ((ia σ 12 c.toNat).toInt)
/-- an expression, at most n high -/
def xE (σ : rS) : Nat → Int → Prop
  | 0, _ => False
  | n + 1, k => vN σ k ∧ (((ia σ 8 k.toNat).toInt = 2 ∨ (ia σ 8 k.toNat).toInt = 3) ∨ ((ia σ 8 k.toNat).toInt = 4 ∧ 0 ≤ (ia σ 10 k.toNat).toInt ∧ (ia σ 10 k.toNat).toInt ≤ 64 ∧ chn σ ((ia σ 10 k.toNat).toInt).toNat ((ia σ 11 k.toNat).toInt)) ∨ ((ia σ 8 k.toNat).toInt = 20 ∧ xE σ n ((ia σ 11 k.toNat).toInt)) ∨ ((ia σ 8 k.toNat).toInt = 21 ∧ xE σ n ((ia σ 11 k.toNat).toInt) ∧ xE σ n ((ia σ 12 (ia σ 11 k.toNat).toInt.toNat).toInt)) ∨ (((ia σ 8 k.toNat).toInt = 80 ∨ (ia σ 8 k.toNat).toInt = 81) ∧ oB σ k) ∨ ((ia σ 8 k.toNat).toInt = 82 ∧ xE σ n ((ia σ 11 k.toNat).toInt) ∧ oB σ ((ia σ 11 k.toNat).toInt) ∧ xE σ n ((ia σ 12 (ia σ 11 k.toNat).toInt.toNat).toInt)) ∨ ((ia σ 8 k.toNat).toInt = 83 ∧ oB σ ((ia σ 11 k.toNat).toInt) ∧ vN σ ((ia σ 12 (ia σ 11 k.toNat).toInt.toNat).toInt) ∧ vN σ ((ia σ 12 (ia σ 12 (ia σ 11 k.toNat).toInt.toNat).toInt.toNat).toInt) ∧ 0 ≤ (ia σ 9 (ia σ 12 (ia σ 11 k.toNat).toInt.toNat).toInt.toNat).toInt ∧ 1 ≤ (ia σ 9 ((ia σ 12 (ia σ 12 (ia σ 11 k.toNat).toInt.toNat).toInt.toNat).toInt).toNat).toInt ∧ (ia σ 9 (ia σ 12 (ia σ 11 k.toNat).toInt.toNat).toInt.toNat).toInt + (ia σ 9 ((ia σ 12 (ia σ 12 (ia σ 11 k.toNat).toInt.toNat).toInt.toNat).toInt).toNat).toInt ≤ 64) ∨ ((ia σ 8 k.toNat).toInt = 84 ∧ ((((ia σ 9 k.toNat).toInt = 8 ∨ (ia σ 9 k.toNat).toInt = 9) ∧ sB σ ((ia σ 11 k.toNat).toInt)) ∨ ((ia σ 9 k.toNat).toInt = 10 ∧ xE σ n ((ia σ 11 k.toNat).toInt)) ∨ ((ia σ 9 k.toNat).toInt = 11 ∧ xE σ n ((ia σ 11 k.toNat).toInt) ∧ vN σ ((ia σ 12 (ia σ 11 k.toNat).toInt.toNat).toInt) ∧ 1 ≤ (ia σ 9 (ia σ 12 (ia σ 11 k.toNat).toInt.toNat).toInt.toNat).toInt ∧ (ia σ 9 (ia σ 12 (ia σ 11 k.toNat).toInt.toNat).toInt.toNat).toInt ≤ 64))) ∨ ((ia σ 8 k.toNat).toInt = 85 ∧ sB σ ((ia σ 11 k.toNat).toInt)))
section Tr
variable {σ : rS} {n : Nat} {k : Int}
theorem xE_v (h : xE σ n k) : vN σ k := by
  cases n with
  | zero => exact h.elim
  | succ n => exact h.1
theorem x4 (h : xE σ (n + 1) k) (e : (ia σ 8 k.toNat).toInt = 4) : 0 ≤ (ia σ 10 k.toNat).toInt ∧ (ia σ 10 k.toNat).toInt ≤ 64 ∧ chn σ ((ia σ 10 k.toNat).toInt).toNat ((ia σ 11 k.toNat).toInt) := by
  rcases h.2 with (g | g) | g | g | g | ⟨g | g, -⟩ | g | g | g | g
  · omega
  · omega
  · exact g.2
  · omega
  · omega
  · omega
  · omega
  · omega
  · omega
  · omega
  · omega
theorem x20 (h : xE σ (n + 1) k) (e : (ia σ 8 k.toNat).toInt = 20) : xE σ n ((ia σ 11 k.toNat).toInt) := by
  rcases h.2 with (g | g) | g | g | g | ⟨g | g, -⟩ | g | g | g | g
  · omega
  · omega
  · omega
  · exact g.2
  · omega
  · omega
  · omega
  · omega
  · omega
  · omega
  · omega
theorem x21 (h : xE σ (n + 1) k) (e : (ia σ 8 k.toNat).toInt = 21) : xE σ n ((ia σ 11 k.toNat).toInt) ∧ xE σ n ((ia σ 12 (ia σ 11 k.toNat).toInt.toNat).toInt) := by
  rcases h.2 with (g | g) | g | g | g | ⟨g | g, -⟩ | g | g | g | g
  · omega
  · omega
  · omega
  · omega
  · exact g.2
  · omega
  · omega
  · omega
  · omega
  · omega
  · omega
theorem x80 (h : xE σ (n + 1) k) (e : (ia σ 8 k.toNat).toInt = 80 ∨ (ia σ 8 k.toNat).toInt = 81) : oB σ k := by
  rcases h.2 with (g | g) | g | g | g | ⟨-, g⟩ | g | g | g | g
  · omega
  · omega
  · omega
  · omega
  · omega
  · exact g
  · omega
  · omega
  · omega
  · omega
theorem x82 (h : xE σ (n + 1) k) (e : (ia σ 8 k.toNat).toInt = 82) : xE σ n ((ia σ 11 k.toNat).toInt) ∧ oB σ ((ia σ 11 k.toNat).toInt) ∧ xE σ n ((ia σ 12 (ia σ 11 k.toNat).toInt.toNat).toInt) := by
  rcases h.2 with (g | g) | g | g | g | ⟨g | g, -⟩ | g | g | g | g
  · omega
  · omega
  · omega
  · omega
  · omega
  · omega
  · omega
  · exact g.2
  · omega
  · omega
  · omega
theorem x83 (h : xE σ (n + 1) k) (e : (ia σ 8 k.toNat).toInt = 83) : oB σ ((ia σ 11 k.toNat).toInt) ∧ vN σ ((ia σ 12 (ia σ 11 k.toNat).toInt.toNat).toInt) ∧ vN σ ((ia σ 12 (ia σ 12 (ia σ 11 k.toNat).toInt.toNat).toInt.toNat).toInt) ∧ 0 ≤ (ia σ 9 (ia σ 12 (ia σ 11 k.toNat).toInt.toNat).toInt.toNat).toInt ∧ 1 ≤ (ia σ 9 ((ia σ 12 (ia σ 12 (ia σ 11 k.toNat).toInt.toNat).toInt.toNat).toInt).toNat).toInt ∧ (ia σ 9 (ia σ 12 (ia σ 11 k.toNat).toInt.toNat).toInt.toNat).toInt + (ia σ 9 ((ia σ 12 (ia σ 12 (ia σ 11 k.toNat).toInt.toNat).toInt.toNat).toInt).toNat).toInt ≤ 64 := by
  rcases h.2 with (g | g) | g | g | g | ⟨g | g, -⟩ | g | g | g | g
  · omega
  · omega
  · omega
  · omega
  · omega
  · omega
  · omega
  · omega
  · exact g.2
  · omega
  · omega
theorem x84 (h : xE σ (n + 1) k) (e : (ia σ 8 k.toNat).toInt = 84) : (((ia σ 9 k.toNat).toInt = 8 ∨ (ia σ 9 k.toNat).toInt = 9) ∧ sB σ ((ia σ 11 k.toNat).toInt)) ∨ ((ia σ 9 k.toNat).toInt = 10 ∧ xE σ n ((ia σ 11 k.toNat).toInt)) ∨ ((ia σ 9 k.toNat).toInt = 11 ∧ xE σ n ((ia σ 11 k.toNat).toInt) ∧ vN σ ((ia σ 12 (ia σ 11 k.toNat).toInt.toNat).toInt) ∧ 1 ≤ (ia σ 9 (ia σ 12 (ia σ 11 k.toNat).toInt.toNat).toInt.toNat).toInt ∧ (ia σ 9 (ia σ 12 (ia σ 11 k.toNat).toInt.toNat).toInt.toNat).toInt ≤ 64) := by
  rcases h.2 with (g | g) | g | g | g | ⟨g | g, -⟩ | g | g | g | g
  · omega
  · omega
  · omega
  · omega
  · omega
  · omega
  · omega
  · omega
  · omega
  · exact g.2
  · omega
theorem x85 (h : xE σ (n + 1) k) (e : ¬ (ia σ 8 k.toNat).toInt = 2 ∧ ¬ (ia σ 8 k.toNat).toInt = 3 ∧ ¬ (ia σ 8 k.toNat).toInt = 4 ∧ ¬ (ia σ 8 k.toNat).toInt = 20 ∧ ¬ (ia σ 8 k.toNat).toInt = 21 ∧ ¬ (ia σ 8 k.toNat).toInt = 80 ∧ ¬ (ia σ 8 k.toNat).toInt = 81 ∧ ¬ (ia σ 8 k.toNat).toInt = 82 ∧ ¬ (ia σ 8 k.toNat).toInt = 83 ∧ ¬ (ia σ 8 k.toNat).toInt = 84) : sB σ ((ia σ 11 k.toNat).toInt) := by
  rcases h.2 with (g | g) | g | g | g | ⟨g | g, -⟩ | g | g | g | g
  · omega
  · omega
  · omega
  · omega
  · omega
  · omega
  · omega
  · omega
  · omega
  · omega
  · exact g.2
end Tr
