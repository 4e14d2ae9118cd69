/-! FROM TREES THAT ARE RIGHT TO THOSE THAT ARE KEPT -/
def sh (B : Nat) (x : Int) : Int := if x = -1 then -1 else (B : Int) + x
def KR (σ σ' : rS) (B : Nat) : Prop := ∀ k : Nat, (k : Int) < (σ.1 19).toInt → ia σ' 8 (B + k) = ia σ 8 k ∧ ia σ' 9 (B + k) = ia σ 9 k ∧ ia σ' 10 (B + k) = ia σ 10 k ∧ (ia σ' 11 (B + k)).toInt = sh B (ia σ 11 k).toInt ∧ (ia σ' 12 (B + k)).toInt = sh B (ia σ 12 k).toInt
/-- σ: as it was looked over; σ': as it is kept from B on -/
def KP (σ σ' : rS) (B : Nat) : Prop := DI σ ∧ (∀ c : Int, 0 ≤ c → c < (σ.1 19).toInt → RT σ c) ∧ KR σ σ' B ∧ ((B : Int) + (σ.1 19).toInt ≤ 24000 ∧ 4000 ≤ B ∧ (B : Int) + (σ.1 19).toInt ≤ 4000 + (σ'.1 22).toInt) ∧ (ia σ' 19 (σ'.1 39).toInt.toNat).toInt = (σ.1 9).toInt
/-- in a loop -/
def inL (σ : rS) (k : Int) : Prop := ∃ l, un σ l ((ia σ 13 k.toNat).toInt) ∧ iL σ l ((ia σ 13 k.toNat).toInt)
section Kp
variable {σ σ' : rS} {B : Nat} {k : Int}
theorem sq_succ : ∀ (i : Nat) (c : Int32), sq σ (i + 1) c = nx1 σ (sq σ i c) := by
  intro i
  induction i with
  | zero => intro c; rfl
  | succ i ih => intro c; exact ih (nx1 σ c)
theorem kK (K : KP σ σ' B) (h0 : 0 ≤ k) (h1 : k < (σ.1 19).toInt) : (ia σ' 8 ((B : Int) + k).toNat).toInt = (ia σ 8 k.toNat).toInt ∧ (ia σ' 9 ((B : Int) + k).toNat).toInt = (ia σ 9 k.toNat).toInt ∧ (ia σ' 10 ((B : Int) + k).toNat).toInt = (ia σ 10 k.toNat).toInt ∧ (ia σ' 11 ((B : Int) + k).toNat).toInt = sh B ((ia σ 11 k.toNat).toInt) ∧ (ia σ' 12 ((B : Int) + k).toNat).toInt = sh B ((ia σ 12 k.toNat).toInt) ∧ vN σ' ((B : Int) + k) := by
  have e : ((B : Int) + k).toNat = B + k.toNat := by omega
  obtain ⟨g1, g2, g3, g4, g5⟩ := K.2.2.1 k.toNat (by omega)
  rw [e, g1, g2, g3, g4, g5]
  exact ⟨rfl, rfl, rfl, rfl, rfl, ⟨by have := K.2.2.2.1; omega, by have := K.2.2.2.1; omega, by have := K.2.2.2.1; omega⟩⟩
theorem kc (K : KP σ σ' B) (h0 : 0 ≤ k) (h1 : k < (σ.1 19).toInt) (i : Nat) (hi : (i : Int) < (ia σ 10 k.toNat).toInt) : cOf σ k (ch σ k i).toInt ∧ (kO σ (ch σ k i)).toInt = (ia σ 8 ((ch σ k i).toInt).toNat).toInt := by
  have c := (DI_ch K.1 h0 h1 i).1 hi
  refine ⟨c, ?_⟩
  have hn : ¬ ch σ k i = -1 := fun e => by have := congrArg Int32.toInt e; rw [li_m1] at this; have := c.1; omega
  rw [kO, if_neg hn]
theorem kc0 (K : KP σ σ' B) (h0 : 0 ≤ k) (h1 : k < (σ.1 19).toInt) (hi : 0 < (ia σ 10 k.toNat).toInt) : (ia σ' 11 ((B : Int) + k).toNat).toInt = (B : Int) + (ch σ k 0).toInt := by
  have c := (kc K h0 h1 0 (by omega)).1
  have e : (ia σ 11 k.toNat).toInt = (ch σ k 0).toInt := rfl
  rw [(kK K h0 h1).2.2.2.1, e, sh, if_neg (by have := c.1; omega)]
theorem kcs (K : KP σ σ' B) (h0 : 0 ≤ k) (h1 : k < (σ.1 19).toInt) (i : Nat) (hi : (i : Int) + 1 < (ia σ 10 k.toNat).toInt) : (ia σ' 12 ((B : Int) + (ch σ k i).toInt).toNat).toInt = (B : Int) + (ch σ k (i + 1)).toInt := by
  have c := (kc K h0 h1 i (by omega)).1
  have c' := (kc K h0 h1 (i + 1) (by omega)).1
  have hn : ¬ ch σ k i = -1 := fun e => by have := congrArg Int32.toInt e; rw [li_m1] at this; have := c.1; omega
  have e : (ch σ k (i + 1)).toInt = (ia σ 12 ((ch σ k i).toInt).toNat).toInt := by
    have : ch σ k (i + 1) = nx1 σ (ch σ k i) := sq_succ i _
    rw [this, nx1, if_neg hn]
  have h2 := c.2.1
  rw [(kK K c.1 (by omega)).2.2.2.2.1, ← e, sh, if_neg (by have := c'.1; omega)]
theorem kcs0 (K : KP σ σ' B) (h0 : 0 ≤ k) (h1 : k < (σ.1 19).toInt) (hi : (1 : Int) < (ia σ 10 k.toNat).toInt) : (ia σ' 12 ((B : Int) + (ch σ k 0).toInt).toNat).toInt = (B : Int) + (ch σ k 1).toInt := kcs K h0 h1 0 (by omega)
theorem kcs1 (K : KP σ σ' B) (h0 : 0 ≤ k) (h1 : k < (σ.1 19).toInt) (hi : (2 : Int) < (ia σ 10 k.toNat).toInt) : (ia σ' 12 ((B : Int) + (ch σ k 1).toInt).toNat).toInt = (B : Int) + (ch σ k 2).toInt := kcs K h0 h1 1 (by omega)
theorem kcs2 (K : KP σ σ' B) (h0 : 0 ≤ k) (h1 : k < (σ.1 19).toInt) (hi : (3 : Int) < (ia σ 10 k.toNat).toInt) : (ia σ' 12 ((B : Int) + (ch σ k 2).toInt).toNat).toInt = (B : Int) + (ch σ k 3).toInt := kcs K h0 h1 2 (by omega)
theorem ck_kept (K : KP σ σ' B) (h1 : k < (σ.1 19).toInt) {P : Int → Prop} {Q : Int → Prop} (hP : ∀ s, cOf σ k s → Q ((ia σ 8 s.toNat).toInt) → P ((B : Int) + s)) : ∀ {j : Nat} {c : Int}, ck σ k j c → alP σ Q j c → chL σ' P j (sh B c) := by
  intro j
  induction j with
  | zero => intro c h _; have h : c = -1 := h; show sh B c = -1; rw [sh, if_pos h]
  | succ j ih =>
    intro c h a
    obtain ⟨g1, g2, g3, g4, g5⟩ := h
    obtain ⟨a1, a2⟩ := a
    have e : sh B c = (B : Int) + c := if_neg (by omega)
    rw [e]
    obtain ⟨-, -, -, -, k5, k6⟩ := kK K g1 (by omega)
    refine ⟨k6, hP c ⟨g1, g2, g3, g4⟩ a1, ?_⟩
    rw [k5]
    exact ih g5 a2
theorem alP_T : ∀ (j : Nat) (c : Int), alP σ (fun _ => True) j c := by
  intro j
  induction j with
  | zero => intro c; trivial
  | succ j ih => intro c; exact ⟨trivial, ih _⟩
theorem chL_chn {P : Int → Prop} : ∀ {j : Nat} {c : Int}, chL σ' P j c → chn σ' j c := by
  intro j
  induction j with
  | zero => intro c h; exact h
  | succ j ih => intro c h; exact ⟨h.1, ih h.2.2⟩
theorem ck_chn' (K : KP σ σ' B) (h1 : k < (σ.1 19).toInt) {j : Nat} {c : Int} (h : ck σ k j c) : chn σ' j (sh B c) := chL_chn (ck_kept (P := fun _ => True) (Q := fun _ => True) K h1 (fun _ _ _ => trivial) h (alP_T _ _))
/-- a signal or a variable is kept -/
theorem k_oB (K : KP σ σ' B) (h0 : 0 ≤ k) (h1 : k < (σ.1 19).toInt) (ho : isO ((ia σ 8 k.toNat).toInt)) : oB σ' ((B : Int) + k) := by
  obtain ⟨k1, k2, -, -, -, k6⟩ := kK K h0 h1
  obtain ⟨-, r, -⟩ := K.2.1 k h0 h1
  have hx : isX ((ia σ 8 k.toNat).toInt) := by unfold isO at ho; unfold isX; omega
  obtain ⟨-, -, -, r80, r81, -⟩ := r hx
  refine ⟨k6, ?_⟩
  rw [k1, k2, K.2.2.2.2]
  rcases ho with ho | ho
  · exact Or.inl ⟨ho, r80 ho⟩
  · exact Or.inr ⟨ho, r81 ho⟩
/-- expressions -/
theorem k_xE (K : KP σ σ' B) : ∀ (n : Nat) (k : Int), 0 ≤ k → k < (σ.1 19).toInt → (ia σ 14 k.toNat).toInt ≤ n → isX ((ia σ 8 k.toNat).toInt) → xE σ' n ((B : Int) + k) := by
  intro n
  induction n with
  | zero =>
    intro k h0 h1 ht hx
    obtain ⟨-, -, -, -, -, t1, -⟩ := DI_k K.1 h0 h1
    omega
  | succ n ih =>
    intro k h0 h1 ht hx
    obtain ⟨-, m0, m1, hck, -, t1, -⟩ := DI_k K.1 h0 h1
    obtain ⟨k1, k2, k3, k4, k5, k6⟩ := kK K h0 h1
    obtain ⟨-, r, -⟩ := K.2.1 k h0 h1
    obtain ⟨r4, r20, r21, r80, r81, r82, r83, r84, r85⟩ := r hx
    have kid : ∀ i : Nat, (i : Int) < (ia σ 10 k.toNat).toInt → isX (kO σ (ch σ k i)).toInt → xE σ' n ((B : Int) + (ch σ k i).toInt) := fun i hi hX => by
      obtain ⟨⟨c1, c2, c3, c4⟩, c5⟩ := kc K h0 h1 i hi
      exact ih _ c1 (by omega) (by omega) (by rw [← c5]; exact hX)
    have obj : ∀ i : Nat, (i : Int) < (ia σ 10 k.toNat).toInt → isO (kO σ (ch σ k i)).toInt → oB σ' ((B : Int) + (ch σ k i).toInt) := fun i hi hX => by
      obtain ⟨⟨c1, c2, c3, c4⟩, c5⟩ := kc K h0 h1 i hi
      exact k_oB K c1 (by omega) (by rw [← c5]; exact hX)
    have vk : ∀ i : Nat, (i : Int) < (ia σ 10 k.toNat).toInt → vN σ' ((B : Int) + (ch σ k i).toInt) ∧ (ia σ' 9 ((B : Int) + (ch σ k i).toInt).toNat).toInt = (ia σ 9 ((ch σ k i).toInt).toNat).toInt := fun i hi => by
      obtain ⟨⟨c1, c2, c3, c4⟩, c5⟩ := kc K h0 h1 i hi
      obtain ⟨-, z2, -, -, -, z6⟩ := kK K c1 (by omega)
      exact ⟨z6, z2⟩
    have OX : ∀ z : Int, isO z → isX z := fun z h => by unfold isO at h; unfold isX; omega
    refine ⟨k6, ?_⟩
    rw [k1, k2, k3]
    rcases hx with e | e | e | e | e | e
    · exact Or.inl (Or.inl e)
    · exact Or.inl (Or.inr e)
    · obtain ⟨a1, a2⟩ := r4 e
      refine Or.inr (Or.inl ⟨e, m0, a2, ?_⟩)
      rw [k4]
      exact ck_chn' K h1 hck
    · obtain ⟨a1, a2⟩ := r20 e
      refine Or.inr (Or.inr (Or.inl ⟨e, ?_⟩))
      rw [kc0 K h0 h1 (by omega)]
      exact kid 0 (by omega) a2
    · obtain ⟨a1, a2, a3⟩ := r21 e
      refine Or.inr (Or.inr (Or.inr (Or.inl ⟨e, ?_⟩)))
      rw [kc0 K h0 h1 (by omega), kcs0 K h0 h1 (by omega)]
      exact ⟨kid 0 (by omega) a2, kid 1 (by omega) a3⟩
    · by_cases e0 : (ia σ 8 k.toNat).toInt = 80 ∨ (ia σ 8 k.toNat).toInt = 81
      · exact Or.inr (Or.inr (Or.inr (Or.inr (Or.inl ⟨e0, k_oB K h0 h1 e0⟩))))
      by_cases e2 : (ia σ 8 k.toNat).toInt = 82
      · obtain ⟨a1, a2, a3⟩ := r82 e2
        refine Or.inr (Or.inr (Or.inr (Or.inr (Or.inr (Or.inl ⟨e2, ?_⟩)))))
        rw [kc0 K h0 h1 (by omega), kcs0 K h0 h1 (by omega)]
        exact ⟨kid 0 (by omega) (OX _ a2), obj 0 (by omega) a2, kid 1 (by omega) a3⟩
      by_cases e3 : (ia σ 8 k.toNat).toInt = 83
      · obtain ⟨a1, a2, a3, a4, a5, a6, a7⟩ := r83 e3
        refine Or.inr (Or.inr (Or.inr (Or.inr (Or.inr (Or.inr (Or.inl ⟨e3, ?_⟩))))))
        rw [kc0 K h0 h1 (by omega), kcs0 K h0 h1 (by omega), kcs1 K h0 h1 (by omega), (vk 1 (by omega)).2, (vk 2 (by omega)).2]
        exact ⟨obj 0 (by omega) a2, (vk 1 (by omega)).1, (vk 2 (by omega)).1, a5, a6, a7⟩
      by_cases e4 : (ia σ 8 k.toNat).toInt = 84
      · refine Or.inr (Or.inr (Or.inr (Or.inr (Or.inr (Or.inr (Or.inr (Or.inl ⟨e4, ?_⟩)))))))
        rcases r84 e4 with ⟨a1, a2, a3⟩ | ⟨a1, a2, a3⟩ | ⟨a1, a2, a3, a4, a5, a6⟩
        · refine Or.inl ⟨a1, ?_⟩
          have b1 := obj 0 (by omega) (Or.inl (by rw [a3]; rfl))
          rw [kc0 K h0 h1 (by omega)]
          obtain ⟨⟨c1, c2, c3, c4⟩, c5⟩ := kc K h0 h1 0 (by omega)
          rw [a3] at c5
          refine ⟨b1.1, ?_⟩
          rcases b1.2 with g | g
          · exact g.2
          · rw [(kK K c1 (by omega)).1, ← c5] at g
            exact absurd g.1 (by decide)
        · refine Or.inr (Or.inl ⟨a1, ?_⟩)
          rw [kc0 K h0 h1 (by omega)]
          exact kid 0 (by omega) a3
        · refine Or.inr (Or.inr ⟨a1, ?_⟩)
          rw [kc0 K h0 h1 (by omega), kcs0 K h0 h1 (by omega), (vk 1 (by omega)).2]
          exact ⟨kid 0 (by omega) a3, (vk 1 (by omega)).1, a5, a6⟩
      have e5 : (ia σ 8 k.toNat).toInt = 85 := by omega
      obtain ⟨a1, a3⟩ := r85 e5
      refine Or.inr (Or.inr (Or.inr (Or.inr (Or.inr (Or.inr (Or.inr (Or.inr ⟨e5, ?_⟩)))))))
      have b1 := obj 0 (by omega) (Or.inl (by rw [a3]; rfl))
      rw [kc0 K h0 h1 (by omega)]
      obtain ⟨⟨c1, c2, c3, c4⟩, c5⟩ := kc K h0 h1 0 (by omega)
      rw [a3] at c5
      refine ⟨b1.1, ?_⟩
      rcases b1.2 with g | g
      · exact g.2
      · rw [(kK K c1 (by omega)).1, ← c5] at g
        exact absurd g.1 (by decide)
/-- what is above -/
theorem inL_up {s : Int} (h : inL σ s) : (38 ≤ (ia σ 8 (ia σ 13 s.toNat).toInt.toNat).toInt ∧ (ia σ 8 (ia σ 13 s.toNat).toInt.toNat).toInt ≤ 41) ∨ inL σ ((ia σ 13 s.toNat).toInt) := by
  obtain ⟨l, h1, h2⟩ := h
  cases l with
  | zero => exact h2.elim
  | succ l =>
    rcases h2 with h2 | h2
    · exact Or.inl h2
    · exact Or.inr ⟨l, h1.2, h2⟩
/-- times -/
theorem k_xT (K : KP σ σ' B) {n : Nat} (h0 : 0 ≤ k) (h1 : k < (σ.1 19).toInt) (ht : (ia σ 14 k.toNat).toInt ≤ n + 1) (hk : (ia σ 8 k.toNat).toInt = 0 ∨ (ia σ 8 k.toNat).toInt = 32) : xT σ' n ((B : Int) + k) := by
  obtain ⟨k1, k2, k3, k4, k5, k6⟩ := kK K h0 h1
  refine ⟨k6, ?_⟩
  rw [k1]
  rcases hk with hk | hk
  · exact Or.inl hk
  · obtain ⟨-, -, -, r⟩ := K.2.1 k h0 h1
    obtain ⟨-, r32, -⟩ := r (by unfold isX; omega) (by unfold isS; omega)
    obtain ⟨a1, a2⟩ := r32 hk
    obtain ⟨⟨c1, c2, c3, c4⟩, c5⟩ := kc K h0 h1 0 (by omega)
    refine Or.inr ⟨hk, ?_⟩
    rw [kc0 K h0 h1 (by omega)]
    exact k_xE K n _ c1 (by omega) (by omega) (by rw [← c5]; exact a2)
theorem k_xW (K : KP σ σ' B) {n : Nat} (h0 : 0 ≤ k) (h1 : k < (σ.1 19).toInt) (ht : (ia σ 14 k.toNat).toInt ≤ n + 1) (hk : (ia σ 8 k.toNat).toInt = 31) : xW σ' n ((B : Int) + k) := by
  obtain ⟨-, -, -, r⟩ := K.2.1 k h0 h1
  obtain ⟨r31, -⟩ := r (by unfold isX; omega) (by unfold isS; omega)
  obtain ⟨a1, a2, a3⟩ := r31 hk
  obtain ⟨⟨c1, c2, c3, c4⟩, c5⟩ := kc K h0 h1 0 (by omega)
  obtain ⟨⟨d1, d2, d3, d4⟩, d5⟩ := kc K h0 h1 1 (by omega)
  unfold xW
  rw [kc0 K h0 h1 (by omega), kcs0 K h0 h1 (by omega)]
  refine ⟨k_xE K n _ c1 (by omega) (by omega) (by rw [← c5]; exact a2), k_xT K d1 (by omega) (by omega) ?_⟩
  rw [← d5]
  rcases a3 with a3 | a3
  · exact Or.inl (by rw [a3]; rfl)
  · exact Or.inr (by rw [a3]; rfl)
/-- what is assigned to -/
theorem k_tG (K : KP σ σ' B) {n : Nat} {v : Int32} (hv : v = 80 ∨ v = 81) (h0 : 0 ≤ k) (h1 : k < (σ.1 19).toInt) (hi : 0 < (ia σ 10 k.toNat).toInt) (ht : (ia σ 14 k.toNat).toInt ≤ n + 1) (ha : aM σ (ch σ k 0) v) : tG σ' n v.toInt ((B : Int) + (ch σ k 0).toInt) := by
  obtain ⟨⟨c1, c2, c3, c4⟩, c5⟩ := kc K h0 h1 0 (by omega)
  have hc : (ch σ k 0).toInt < (σ.1 19).toInt := by omega
  obtain ⟨k1, k2, k3, k4, k5, k6⟩ := kK K c1 hc
  have vO : isO v.toInt := by rcases hv with rfl | rfl; exact Or.inl rfl; exact Or.inr rfl
  refine ⟨k6, ?_⟩
  rw [k1]
  unfold aM at ha
  generalize hq : (ch σ k 0).toInt = a at *
  rcases ha with ⟨g1, g2⟩ | ⟨-, -, g⟩
  · obtain ⟨-, r, -⟩ := K.2.1 a c1 hc
    have g1' : (ia σ 8 a.toNat).toInt = 82 ∨ (ia σ 8 a.toNat).toInt = 83 := by
      rw [← c5]
      rcases g1 with g | g
      · exact Or.inl (by rw [g]; rfl)
      · exact Or.inr (by rw [g]; rfl)
    obtain ⟨-, -, -, -, -, r82, r83, -⟩ := r (by unfold isX; omega)
    have hk0 : ia σ 11 a.toNat = ch σ a 0 := rfl
    rw [hk0] at g2
    rcases g1' with g1' | g1'
    · obtain ⟨a1, a2, a3⟩ := r82 g1'
      obtain ⟨⟨d1, d2, d3, d4⟩, d5⟩ := kc K c1 hc 0 (by omega)
      obtain ⟨⟨e1, e2, e3, e4⟩, e5⟩ := kc K c1 hc 1 (by omega)
      refine Or.inr (Or.inl ⟨g1', ?_⟩)
      rw [kc0 K c1 hc (by omega), kcs0 K c1 hc (by omega), (kK K d1 (by omega)).1, ← d5, g2]
      exact ⟨rfl, k_oB K d1 (by omega) (by rw [← d5]; exact a2), k_xE K n _ e1 (by omega) (by omega) (by rw [← e5]; exact a3)⟩
    · obtain ⟨a1, a2, a3, a4, a5, a6, a7⟩ := r83 g1'
      obtain ⟨⟨d1, d2, d3, d4⟩, d5⟩ := kc K c1 hc 0 (by omega)
      obtain ⟨⟨e1, e2, e3, e4⟩, e5⟩ := kc K c1 hc 1 (by omega)
      obtain ⟨⟨f1, f2, f3, f4⟩, f5⟩ := kc K c1 hc 2 (by omega)
      refine Or.inr (Or.inr ⟨g1', ?_⟩)
      rw [kc0 K c1 hc (by omega), kcs0 K c1 hc (by omega), kcs1 K c1 hc (by omega), (kK K d1 (by omega)).1, ← d5, g2, (kK K e1 (by omega)).2.1, (kK K f1 (by omega)).2.1]
      exact ⟨rfl, k_oB K d1 (by omega) (by rw [← d5]; exact a2), (kK K e1 (by omega)).2.2.2.2.2, (kK K f1 (by omega)).2.2.2.2.2, a5, a6, a7⟩
  · rw [g] at c5
    exact Or.inl ⟨c5.symm, k_oB K c1 hc (by rw [← c5]; exact vO)⟩
end Kp
