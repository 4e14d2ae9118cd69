/-! WHAT A RUN OF THE ABSTRACT MACHINE COMES TO: rules, an operation each -/
def wq {ρ : Type} (A : Option ρ) (Φ : ρ → Prop) : Prop := ∃ z, A = some z ∧ Φ z
/-- a call's ends: nothing, an int, a long, a reference, an exception -/
def rV (P : ah_H → Prop) : ah_R → Prop := fun z => ∃ h, z = (.inl none, h) ∧ P h
def rI (P : Int32 → ah_H → Prop) : ah_R → Prop := fun z => ∃ x h, z = (.inl (some (.inl x)), h) ∧ P x h
def rJ (P : Int64 → ah_H → Prop) : ah_R → Prop := fun z => ∃ x h, z = (.inl (some (.inr (.inl x))), h) ∧ P x h
def rR (P : Option Nat → ah_H → Prop) : ah_R → Prop := fun z => ∃ x h, z = (.inl (some (.inr (.inr x))), h) ∧ P x h
def rX (P : Nat × Nat → ah_H → Prop) : ah_R → Prop := fun z => ∃ x h, z = (.inr x, h) ∧ P x h
section Wq
variable {ρ : Type} {A B : Option ρ} {Φ Ψ : ρ → Prop} {h h' : ah_H} {a kd i n : Nat} {vs : List AV} {v : AV} {x j : Int32} {y : Int64} {lim : Nat × Nat} {o : ah_O}
theorem wq_some {z : ρ} (k : Φ z) : wq (some z) Φ := ⟨z, rfl, k⟩
theorem wq_mono (w : wq A Φ) (k : ∀ z, Φ z → Ψ z) : wq A Ψ := by
  obtain ⟨z, e, p⟩ := w
  exact ⟨z, e, k z p⟩
theorem wq_eq (e : A = B) (k : wq B Φ) : wq A Φ := by rw [e]; exact k
theorem wq_if (c : Prop) [Decidable c] (ht : c → wq A Φ) (hf : ¬ c → wq B Φ) : wq (if c then A else B) Φ := by
  by_cases hc : c
  · rw [if_pos hc]; exact ht hc
  · rw [if_neg hc]; exact hf hc
theorem wq_t {c : Prop} [Decidable c] (hc : c) (k : wq A Φ) : wq (if c then A else B) Φ := by rw [if_pos hc]; exact k
theorem wq_f {c : Prop} [Decidable c] (hc : ¬ c) (k : wq B Φ) : wq (if c then A else B) Φ := by rw [if_neg hc]; exact k
theorem wq_at {K : Nat → List AV → Option ρ} (ho : h.1 a = some (kd, vs)) (k : wq (K a vs) Φ) : wq (ah_at h (some a) kd K) Φ := by
  refine wq_eq ?_ k
  simp only [ah_at, ho, if_true]
theorem wq_gI {K : Int32 → Option ρ} (ho : h.1 a = some (kd, vs)) (hv : vs[i]? = some (.inl x)) (k : wq (K x) Φ) : wq (ah_gI h (some a) kd i K) Φ := by
  refine wq_at ho ?_
  rw [hv]; exact k
theorem wq_gJ {K : Int64 → Option ρ} (ho : h.1 a = some (kd, vs)) (hv : vs[i]? = some (.inr (.inl y))) (k : wq (K y) Φ) : wq (ah_gJ h (some a) kd i K) Φ := by
  refine wq_at ho ?_
  rw [hv]; exact k
theorem wq_gR {K : Option Nat → Option ρ} {r : Option Nat} (ho : h.1 a = some (kd, vs)) (hv : vs[i]? = some (.inr (.inr r))) (k : wq (K r) Φ) : wq (ah_gR h (some a) kd i K) Φ := by
  refine wq_at ho ?_
  rw [hv]; exact k
theorem wq_wr {K : ah_H → Option ρ} (ho : h.1 a = some (kd, vs)) (hi : i < vs.length) (k : wq (K (ah_up h a (kd, vs.set i v))) Φ) : wq (ah_wr h (some a) kd i v K) Φ := by
  refine wq_at ho ?_
  rw [if_pos hi]; exact k
theorem wq_ix {K : Option AV → Option ρ} (hj : ¬ j < 0) (k : wq (K vs[j.toNatClampNeg]?) Φ) : wq (ah_ix vs j K) Φ := wq_f hj k
theorem wq_lI {K : Int32 → Option ρ} (ho : h.1 a = some (kd, vs)) (hj : ¬ j < 0) (hv : vs[j.toNatClampNeg]? = some (.inl x)) (k : wq (K x) Φ) : wq (ah_lI h (some a) kd j K) Φ := by
  refine wq_at ho (wq_ix hj ?_)
  rw [hv]; exact k
theorem wq_lJ {K : Int64 → Option ρ} (ho : h.1 a = some (kd, vs)) (hj : ¬ j < 0) (hv : vs[j.toNatClampNeg]? = some (.inr (.inl y))) (k : wq (K y) Φ) : wq (ah_lJ h (some a) kd j K) Φ := by
  refine wq_at ho (wq_ix hj ?_)
  rw [hv]; exact k
theorem wq_atA {lo hi : Nat} {K : Nat → Nat → List AV → Option ρ} (ho : h.1 a = some (kd, vs)) (h1 : lo ≤ kd ∧ kd < hi) (k : wq (K a kd vs) Φ) : wq (ah_atA lo hi h (some a) K) Φ := by
  refine wq_eq ?_ k
  simp only [ah_atA, ho, if_pos h1]
theorem wq_lR {K : Option Nat → Option ρ} {r : Option Nat} (ho : h.1 a = some (kd, vs)) (h1 : 110 ≤ kd ∧ kd < 200) (hj : ¬ j < 0) (hv : vs[j.toNatClampNeg]? = some (.inr (.inr r))) (k : wq (K r) Φ) : wq (ah_lR h (some a) j K) Φ := by
  refine wq_atA ho h1 (wq_ix hj ?_)
  rw [hv]; exact k
theorem wq_len {K : Int32 → Option ρ} (ho : h.1 a = some (kd, vs)) (h1 : 100 ≤ kd ∧ kd < 200) (k : wq (K (Nat.toInt32 vs.length)) Φ) : wq (ah_len h (some a) K) Φ := wq_atA ho h1 k
theorem wq_sx {K : ah_H → Option ρ} (hj : ¬ j < 0) (hl : j.toNatClampNeg < vs.length) (k : wq (K (ah_up h a (kd, vs.set j.toNatClampNeg v))) Φ) : wq (ah_sx h a kd vs j v K) Φ := wq_f hj (wq_t hl k)
theorem wq_sI {K : ah_H → Option ρ} (ho : h.1 a = some (kd, vs)) (hj : ¬ j < 0) (hl : j.toNatClampNeg < vs.length) (k : wq (K (ah_up h a (kd, vs.set j.toNatClampNeg v))) Φ) : wq (ah_sI h (some a) kd j v K) Φ := wq_at ho (wq_sx hj hl k)
theorem wq_sN {K : ah_H → Option ρ} (ho : h.1 a = some (kd, vs)) (h1 : 110 ≤ kd ∧ kd < 200) (hj : ¬ j < 0) (hl : j.toNatClampNeg < vs.length) (k : wq (K (ah_up h a (kd, vs.set j.toNatClampNeg (.inr (.inr none))))) Φ) : wq (ah_sR h (some a) j none K) Φ := wq_atA ho h1 (wq_sx hj hl k)
theorem wq_sR {K : ah_H → Option ρ} {b kb : Nat} {ws : List AV} (ho : h.1 a = some (kd, vs)) (h1 : 110 ≤ kd ∧ kd < 200) (hb : h.1 b = some (kb, ws)) (hk : kb + 110 = kd) (hj : ¬ j < 0) (hl : j.toNatClampNeg < vs.length) (k : wq (K (ah_up h a (kd, vs.set j.toNatClampNeg (.inr (.inr (some b)))))) Φ) : wq (ah_sR h (some a) j (some b) K) Φ := by
  refine wq_atA ho h1 ?_
  simp only [hb, if_pos hk]
  exact wq_sx hj hl k
theorem wq_mk {K : Option Nat → ah_H → Option ρ} (hl : h.2.1 < lim.1 ∧ h.2.2.1 + n ≤ lim.2) (k : wq (K (some h.2.1) (ah_new h o n)) Φ) : wq (ah_mk lim h o n K) Φ := wq_t hl k
theorem wq_mka {K : Option Nat → ah_H → Option ρ} {m : Nat} (hn : ¬ j < 0) (hm : j.toNatClampNeg = m) (hb : m * 8 ≤ 536870912) (hl : h.2.1 < lim.1 ∧ h.2.2.1 + m ≤ lim.2) (k : wq (K (some h.2.1) (ah_new h (kd, List.replicate m v) m)) Φ) : wq (ah_mka lim h kd v j K) Φ := by
  subst hm
  exact wq_f hn (wq_t hb (wq_mk hl k))
theorem wq_nn {A : Option ρ} (k : wq A Φ) : wq (ah_nn (some a) A) Φ := k
theorem wq_vI {K : Int32 → Option ρ} (k : wq (K x) Φ) : wq (ah_vI (some (.inl x)) K) Φ := k
end Wq
section WqC
variable {ρ : Type} {Φ : ρ → Prop} {X : Nat × Nat → ah_H → Option ρ} {r : Option ah_R}
theorem wq_cV {P : ah_H → Prop} {K : ah_H → Option ρ} (w : wq r (rV P)) (k : ∀ h, P h → wq (K h) Φ) : wq (ah_cV r X K) Φ := by
  obtain ⟨z, e, h, rfl, p⟩ := w
  rw [e]; exact k h p
theorem wq_cI {P : Int32 → ah_H → Prop} {K : Int32 → ah_H → Option ρ} (w : wq r (rI P)) (k : ∀ x h, P x h → wq (K x h) Φ) : wq (ah_cI r X K) Φ := by
  obtain ⟨z, e, x, h, rfl, p⟩ := w
  rw [e]; exact k x h p
theorem wq_cJ {P : Int64 → ah_H → Prop} {K : Int64 → ah_H → Option ρ} (w : wq r (rJ P)) (k : ∀ x h, P x h → wq (K x h) Φ) : wq (ah_cJ r X K) Φ := by
  obtain ⟨z, e, x, h, rfl, p⟩ := w
  rw [e]; exact k x h p
theorem wq_cR {P : Option Nat → ah_H → Prop} {K : Option Nat → ah_H → Option ρ} (w : wq r (rR P)) (k : ∀ x h, P x h → wq (K x h) Φ) : wq (ah_cR r X K) Φ := by
  obtain ⟨z, e, x, h, rfl, p⟩ := w
  rw [e]; exact k x h p
theorem wq_cVx {P : Nat × Nat → ah_H → Prop} {K : ah_H → Option ρ} (w : wq r (rX P)) (k : ∀ x h, P x h → wq (X x h) Φ) : wq (ah_cV r X K) Φ := by
  obtain ⟨z, e, x, h, rfl, p⟩ := w
  rw [e]; exact k x h p
theorem wq_cIx {P : Nat × Nat → ah_H → Prop} {K : Int32 → ah_H → Option ρ} (w : wq r (rX P)) (k : ∀ x h, P x h → wq (X x h) Φ) : wq (ah_cI r X K) Φ := by
  obtain ⟨z, e, x, h, rfl, p⟩ := w
  rw [e]; exact k x h p
theorem wq_cJx {P : Nat × Nat → ah_H → Prop} {K : Int64 → ah_H → Option ρ} (w : wq r (rX P)) (k : ∀ x h, P x h → wq (X x h) Φ) : wq (ah_cJ r X K) Φ := by
  obtain ⟨z, e, x, h, rfl, p⟩ := w
  rw [e]; exact k x h p
theorem rV_i {P : ah_H → Prop} {h : ah_H} (p : P h) : rV P (.inl none, h) := ⟨h, rfl, p⟩
theorem rI_i {P : Int32 → ah_H → Prop} {x : Int32} {h : ah_H} (p : P x h) : rI P (.inl (some (.inl x)), h) := ⟨x, h, rfl, p⟩
theorem rJ_i {P : Int64 → ah_H → Prop} {x : Int64} {h : ah_H} (p : P x h) : rJ P (.inl (some (.inr (.inl x))), h) := ⟨x, h, rfl, p⟩
theorem rR_i {P : Option Nat → ah_H → Prop} {x : Option Nat} {h : ah_H} (p : P x h) : rR P (.inl (some (.inr (.inr x))), h) := ⟨x, h, rfl, p⟩
theorem rX_i {P : Nat × Nat → ah_H → Prop} {x : Nat × Nat} {h : ah_H} (p : P x h) : rX P (.inr x, h) := ⟨x, h, rfl, p⟩
end WqC
/-! HEAPS -/
section Hp
variable {h : ah_H} {a q n : Nat} {o : ah_O} {r : Option ah_O}
theorem up_eq : (ah_up h a o).1 a = some o := if_pos rfl
theorem up_ne (hq : q ≠ a) (k : h.1 q = r) : (ah_up h a o).1 q = r := (if_neg hq).trans k
theorem nw_eq : (ah_new h o n).1 h.2.1 = some o := if_pos rfl
theorem nw_ne (hq : q ≠ h.2.1) (k : h.1 q = r) : (ah_new h o n).1 q = r := (if_neg hq).trans k
/-- from h to h': c new cells of n slots; of the old ones only those of S have changed -/
def hk (S : Nat → Prop) (c n : Nat) (h h' : ah_H) : Prop := (∀ q, q < h.2.1 → ¬ S q → h'.1 q = h.1 q) ∧ h'.2.1 = h.2.1 + c ∧ h'.2.2.1 = h.2.2.1 + n
theorem hk_refl {S : Nat → Prop} : hk S 0 0 h h := ⟨fun _ _ _ => rfl, rfl, rfl⟩
theorem hk_trans {S : Nat → Prop} {c n c' n' : Nat} {h1 h2 h3 : ah_H} (k1 : hk S c n h1 h2) (k2 : hk S c' n' h2 h3) : hk S (c + c') (n + n') h1 h3 := by
  obtain ⟨a1, a2, a3⟩ := k1
  obtain ⟨b1, b2, b3⟩ := k2
  exact ⟨fun q hq hs => (b1 q (by omega) hs).trans (a1 q hq hs), by omega, by omega⟩
theorem hk_up {S : Nat → Prop} (hs : S a) : hk S 0 0 h (ah_up h a o) := ⟨fun q _ hn => if_neg (fun (e : q = a) => hn (by rw [e]; exact hs)), rfl, rfl⟩
theorem hk_new {S : Nat → Prop} : hk S 1 n h (ah_new h o n) := ⟨fun q hq _ => if_neg (fun (e : q = h.2.1) => by omega), rfl, rfl⟩
theorem hk_at {S : Nat → Prop} {c n : Nat} {h h' : ah_H} (k : hk S c n h h') (ha : h.1 a = r) (hl : a < h.2.1) (hs : ¬ S a) : h'.1 a = r := (k.1 a hl hs).trans ha
/-- a change of what was made since then is none -/
theorem hk_fresh {S T : Nat → Prop} {c n : Nat} {h h' : ah_H} (k : hk T c n h h') (ht : ∀ q, q < h.2.1 → T q → S q) : hk S c n h h' := ⟨fun q hq hs => k.1 q hq (fun t => hs (ht q hq t)), k.2.1, k.2.2⟩
end Hp
