/-! STATEMENTS ARE KEPT -/
section Ks
variable {σ σ' : rS} {B : Nat} {k : Int}
/-- statements at most m high are kept -/
def kS (σ σ' : rS) (B m : Nat) : Prop := ∀ (s : Int) (w : Bool), 0 ≤ s → s < (σ.1 19).toInt → (ia σ 14 s.toNat).toInt ≤ m → isS ((ia σ 8 s.toNat).toInt) → (inL σ s → w = true) → xS σ' m w ((B : Int) + s)
theorem k_xB (K : KP σ σ' B) {m : Nat} {w : Bool} (ih : kS σ σ' B m) (h0 : 0 ≤ k) (h1 : k < (σ.1 19).toInt) (hb : bd σ k) (ht : (ia σ 14 k.toNat).toInt ≤ m + 1) (hw : inL σ k → w = true) : xB σ' (xS σ' m w) ((B : Int) + k) := by
  obtain ⟨k1, k2, k3, k4, k5, k6⟩ := kK K h0 h1
  obtain ⟨-, m0, m1, hck, -, t1, -⟩ := DI_k K.1 h0 h1
  have hN := K.1.2.1
  obtain ⟨-, b2, b3⟩ := hb
  refine ⟨k6, by rw [k1]; exact b2, ((ia σ 10 k.toNat).toInt).toNat, ?_⟩
  rw [k4]
  refine ck_kept (Q := isS) K h1 (fun s hs hS => ?_) hck (b3 _ (ck_chn (by omega) hck))
  obtain ⟨s1, s2, s3, s4⟩ := hs
  refine ih s w s1 (by omega) (by omega) hS (fun hL => hw ?_)
  have := inL_up hL
  rw [s3] at this
  rcases this with g | g
  · omega
  · exact g
theorem k_br (K : KP σ σ' B) (h1 : k < (σ.1 19).toInt) {X C : Int → Prop} (hX : ∀ s, cOf σ k s → isX ((ia σ 8 s.toNat).toInt) → X ((B : Int) + s)) (hC : ∀ s, cOf σ k s → bd σ s → C ((B : Int) + s)) : ∀ (n j : Nat) (c : Int), j ≤ n → ck σ k j c → rbF σ j false c → ∃ l, brL σ' X C l (sh B c) := by
  intro n
  induction n with
  | zero =>
    intro j c hj h r
    have e : j = 0 := by omega
    subst e
    have h : c = -1 := h
    exact ⟨0, by show sh B c = -1; rw [sh, if_pos h]⟩
  | succ n ih =>
    intro j c hj h r
    match j, h, r with
    | 0, h, r =>
      have h : c = -1 := h
      exact ⟨0, by show sh B c = -1; rw [sh, if_pos h]⟩
    | 1, h, r =>
      obtain ⟨g1, g2, g3, g4, g5⟩ := h
      have g5 : (ia σ 12 c.toNat).toInt = -1 := g5
      have e : sh B c = (B : Int) + c := if_neg (by omega)
      obtain ⟨-, -, -, -, k5, k6⟩ := kK K g1 (by omega)
      refine ⟨1, ?_⟩
      rw [e]
      refine ⟨k6, Or.inl ⟨?_, hC c ⟨g1, g2, g3, g4⟩ (r.1 (Or.inr g5))⟩⟩
      rw [k5, sh, if_pos g5]
    | j + 2, h, r =>
      obtain ⟨g1, g2, g3, g4, e1, e2, e3, e4, e5⟩ := h
      obtain ⟨r1, r2, r3, r4, r5⟩ := r
      have e : sh B c = (B : Int) + c := if_neg (by omega)
      have e' : sh B ((ia σ 12 c.toNat).toInt) = (B : Int) + (ia σ 12 c.toNat).toInt := if_neg (by omega)
      obtain ⟨-, -, -, -, k5, k6⟩ := kK K g1 (by omega)
      obtain ⟨-, -, -, -, z5, z6⟩ := kK K e1 (by omega)
      obtain ⟨l, hl⟩ := ih j _ (by omega) e5 r5
      refine ⟨l + 1, ?_⟩
      rw [e]
      refine ⟨k6, Or.inr ?_⟩
      rw [k5, e', z5]
      refine ⟨hX c ⟨g1, g2, g3, g4⟩ (r2 (fun h => ?_)), z6, hC _ ⟨e1, e2, e3, e4⟩ (r3 (Or.inl rfl)), hl⟩
      rcases h with h | h
      · exact absurd h (by decide)
      · omega
theorem k_xC (K : KP σ σ' B) {m n : Nat} {w : Bool} (ih : kS σ σ' B m) (h0 : 0 ≤ k) (h1 : k < (σ.1 19).toInt) (hk : (ia σ 8 k.toNat).toInt = 36) (ht : (ia σ 14 k.toNat).toInt ≤ m + 1) (hn : m ≤ n) (hw : inL σ k → w = true) : xC σ' n (xB σ' (xS σ' m w)) ((B : Int) + k) := by
  obtain ⟨-, -, -, r⟩ := K.2.1 k h0 h1
  obtain ⟨-, -, r36⟩ := r (by unfold isX; omega) (by unfold isS; omega)
  obtain ⟨a1, a2, a3, a4⟩ := r36 hk
  obtain ⟨⟨c1, c2, c3, c4⟩, c5⟩ := kc K h0 h1 0 (by omega)
  obtain ⟨⟨d1, d2, d3, d4⟩, d5⟩ := kc K h0 h1 1 (by omega)
  have hN := K.1.2.1
  have hc : (ch σ k 0).toInt < (σ.1 19).toInt := by omega
  obtain ⟨k1, k2, k3, k4, k5, k6⟩ := kK K c1 hc
  obtain ⟨-, m0, m1, hck, -, t1, -⟩ := DI_k K.1 c1 hc
  unfold xC
  rw [kc0 K h0 h1 (by omega), kcs0 K h0 h1 (by omega), k4]
  refine ⟨k6, ⟨((ia σ 10 ((ch σ k 0).toInt).toNat).toInt).toNat, ck_kept (Q := isC) K hc (fun s hs hS => ?_) hck (a4 _ (ck_chn (by omega) hck))⟩, k_xB K ih d1 (by omega) a3 (by omega) (fun hL => hw ?_)⟩
  · obtain ⟨s1, s2, s3, s4⟩ := hs
    rw [(kK K s1 (by omega)).1]
    by_cases e : (ia σ 8 s.toNat).toInt = 37
    · exact Or.inl e
    · exact Or.inr ⟨e, k_xE K n _ s1 (by omega) (by omega) (by unfold isC at hS; unfold isX; omega)⟩
  · have := inL_up hL
    rw [d3] at this
    rcases this with g | g
    · omega
    · exact g
theorem k_xS1 (K : KP σ σ' B) : kS σ σ' B 1 := by
  intro k w h0 h1 ht hS hw
  obtain ⟨-, m0, m1, hck, -, t1, -⟩ := DI_k K.1 h0 h1
  obtain ⟨k1, k2, k3, k4, k5, k6⟩ := kK K h0 h1
  have hm : (ia σ 10 k.toNat).toInt = 0 := by
    by_cases e : (ia σ 10 k.toNat).toInt = 0
    · exact e
    · obtain ⟨⟨c1, c2, c3, c4⟩, c5⟩ := kc K h0 h1 0 (by omega)
      obtain ⟨-, -, -, -, -, t2, -⟩ := DI_k K.1 c1 (show (ch σ k 0).toInt < (σ.1 19).toInt by omega)
      omega
  obtain ⟨-, -, r, -⟩ := K.2.1 k h0 h1
  obtain ⟨r30, r33, r34, r35, r38, r40, r41, r42, r44, r46, r47⟩ := r hS
  refine ⟨k6, ?_⟩
  rw [k1]
  rcases hS with e | e | e | e | e
  · obtain ⟨-, -, -, z | z⟩ := r30 e
    · omega
    · omega
  · have := (r33 e).1; omega
  · have := (r34 e).1; omega
  · have := (r35 e).1; omega
  · by_cases e5 : (ia σ 8 k.toNat).toInt = 45
    · exact e5
    by_cases e1 : (ia σ 8 k.toNat).toInt = 38 ∨ (ia σ 8 k.toNat).toInt = 39
    · have := (r38 e1).1; omega
    by_cases e2 : (ia σ 8 k.toNat).toInt = 40
    · have := (r40 e2).1; omega
    by_cases e3 : (ia σ 8 k.toNat).toInt = 41
    · have := (r41 e3).1; omega
    by_cases e4 : (ia σ 8 k.toNat).toInt = 42 ∨ (ia σ 8 k.toNat).toInt = 43
    · have := (r42 e4).1; omega
    by_cases e6 : (ia σ 8 k.toNat).toInt = 44
    · have := (r44 e6).1; omega
    by_cases e7 : (ia σ 8 k.toNat).toInt = 46
    · have := (r46 e7).1; omega
    have := (r47 (by omega)).1; omega
theorem k_xS2 (K : KP σ σ' B) {n : Nat} (ih : kS σ σ' B n) : kS σ σ' B (n + 2) := by
  intro k w h0 h1 ht hS hw
  have hN := K.1.2.1
  obtain ⟨-, m0, m1, hck, -, t1, -⟩ := DI_k K.1 h0 h1
  obtain ⟨k1, k2, k3, k4, k5, k6⟩ := kK K h0 h1
  obtain ⟨-, -, r, -⟩ := K.2.1 k h0 h1
  obtain ⟨r30, r33, r34, r35, r38, r40, r41, r42, r44, r46, r47⟩ := r hS
  have kid : ∀ i : Nat, (i : Int) < (ia σ 10 k.toNat).toInt → isX (kO σ (ch σ k i)).toInt → xE σ' (n + 1) ((B : Int) + (ch σ k i).toInt) := fun i hi hX => by
    obtain ⟨⟨c1, c2, c3, c4⟩, c5⟩ := kc K h0 h1 i hi
    exact k_xE K _ _ c1 (by omega) (by omega) (by rw [← c5]; exact hX)
  have bod : ∀ (i : Nat) (v : Bool), (i : Int) < (ia σ 10 k.toNat).toInt → bd σ (ch σ k i).toInt → (v = true ∨ (¬ (38 ≤ (ia σ 8 k.toNat).toInt ∧ (ia σ 8 k.toNat).toInt ≤ 41) ∧ v = w)) → xB σ' (xS σ' n v) ((B : Int) + (ch σ k i).toInt) := fun i v hi hB hv => by
    obtain ⟨⟨c1, c2, c3, c4⟩, c5⟩ := kc K h0 h1 i hi
    refine k_xB K ih c1 (by omega) hB (by omega) (fun hL => ?_)
    rcases hv with hv | ⟨hv, rfl⟩
    · exact hv
    · have := inL_up hL
      rw [c3] at this
      exact hw (this.resolve_left hv)
  have vk : ∀ i : Nat, (i : Int) < (ia σ 10 k.toNat).toInt → vN σ' ((B : Int) + (ch σ k i).toInt) ∧ (ia σ' 8 ((B : Int) + (ch σ k i).toInt).toNat).toInt = (kO σ (ch σ k i)).toInt := fun i hi => by
    obtain ⟨⟨c1, c2, c3, c4⟩, c5⟩ := kc K h0 h1 i hi
    obtain ⟨z1, -, -, -, -, z6⟩ := kK K c1 (by omega)
    exact ⟨z6, by rw [z1, c5]⟩
  have sfx : ∀ (i : Nat) (P Q : Int → Prop), (i : Int) < (ia σ 10 k.toNat).toInt → (∀ s, cOf σ k s → Q ((ia σ 8 s.toNat).toInt) → P ((B : Int) + s)) → alC σ Q (ch σ k i).toInt → chL σ' P (((ia σ 10 k.toNat).toInt).toNat - i) ((B : Int) + (ch σ k i).toInt) := fun i P Q hi hP hA => by
    have hc := ((ck_sq (c := ia σ 11 k.toNat) hck i).1 (by omega)).2
    have hc : ck σ k (((ia σ 10 k.toNat).toInt).toNat - i) (ch σ k i).toInt := hc
    obtain ⟨⟨c1, c2, c3, c4⟩, c5⟩ := kc K h0 h1 i hi
    have := ck_kept (Q := Q) K h1 hP hc (hA _ (ck_chn (by omega) hc))
    rw [show sh B (ch σ k i).toInt = (B : Int) + (ch σ k i).toInt from if_neg (by omega)] at this
    exact this
  refine ⟨k6, ?_⟩
  rw [k1, k2]
  by_cases e30 : (ia σ 8 k.toNat).toInt = 30
  · obtain ⟨a1, a2, a3, a4⟩ := r30 e30
    have wv : ∀ s, cOf σ k s → (ia σ 8 s.toNat).toInt = (31 : Int32).toInt → xW σ' (n + 1) ((B : Int) + s) := fun s hs he => by
      obtain ⟨s1, s2, s3, s4⟩ := hs
      exact k_xW K s1 (by omega) (by omega) he
    rcases a4 with ⟨b1, b2, b3, b4, b5⟩ | ⟨b1, b2, b3, b4⟩
    · obtain ⟨⟨d1, d2, d3, d4⟩, d5⟩ := kc K h0 h1 1 (by omega)
      refine Or.inl ⟨e30, a1, a2, ?_⟩
      rw [kc0 K h0 h1 (by omega), kcs0 K h0 h1 (by omega), kcs1 K h0 h1 (by omega), if_pos b1]
      refine ⟨k_tG K (v := 80) (Or.inl rfl) h0 h1 (by omega) (by omega) a3, fun _ => ⟨k_xT K d1 (by omega) (by omega) (Or.inr (by rw [← d5, b4]; rfl)), by rw [(vk 1 (by omega)).2, b4]; rfl⟩, _, ?_, ?_, sfx 2 _ _ (by omega) wv b5⟩
      · omega
      · omega
    · refine Or.inl ⟨e30, a1, a2, ?_⟩
      rw [kc0 K h0 h1 (by omega), kcs0 K h0 h1 (by omega), if_neg b1]
      refine ⟨k_tG K (v := 80) (Or.inl rfl) h0 h1 (by omega) (by omega) a3, fun h => absurd h b1, _, ?_, ?_, sfx 1 _ _ (by omega) wv b4⟩
      · omega
      · omega
  by_cases e33 : (ia σ 8 k.toNat).toInt = 33
  · obtain ⟨a1, a2, a3⟩ := r33 e33
    refine Or.inr (Or.inl ⟨e33, ?_⟩)
    rw [kc0 K h0 h1 (by omega), kcs0 K h0 h1 (by omega)]
    exact ⟨k_tG K (v := 81) (Or.inr rfl) h0 h1 (by omega) (by omega) a2, kid 1 (by omega) a3⟩
  by_cases e34 : (ia σ 8 k.toNat).toInt = 34
  · obtain ⟨a1, a2⟩ := r34 e34
    refine Or.inr (Or.inr (Or.inl ⟨e34, ?_⟩))
    rw [k4]
    refine k_br K h1 (fun s hs hX => ?_) (fun s hs hB => ?_) _ _ _ (Nat.le_refl _) hck a2
    · obtain ⟨s1, s2, s3, s4⟩ := hs
      exact k_xE K _ _ s1 (by omega) (by omega) hX
    · obtain ⟨s1, s2, s3, s4⟩ := hs
      refine k_xB K ih s1 (by omega) hB (by omega) (fun hL => hw ?_)
      have := inL_up hL
      rw [s3] at this
      exact this.resolve_left (by omega)
  by_cases e35 : (ia σ 8 k.toNat).toInt = 35
  · obtain ⟨a1, a2, a3⟩ := r35 e35
    refine Or.inr (Or.inr (Or.inr (Or.inl ⟨e35, ?_⟩)))
    rw [kc0 K h0 h1 (by omega), kcs0 K h0 h1 (by omega)]
    refine ⟨kid 0 (by omega) a2, _, sfx 1 _ _ (by omega) (fun s hs he => ?_) a3⟩
    obtain ⟨s1, s2, s3, s4⟩ := hs
    refine k_xC K ih s1 (by omega) he (by omega) (by omega) (fun hL => hw ?_)
    have := inL_up hL
    rw [s3] at this
    exact this.resolve_left (by omega)
  by_cases e38 : (ia σ 8 k.toNat).toInt = 38 ∨ (ia σ 8 k.toNat).toInt = 39
  · obtain ⟨a1, a2, a3, a4, a5⟩ := r38 e38
    refine Or.inr (Or.inr (Or.inr (Or.inr (Or.inl ⟨e38, ?_⟩))))
    rw [kc0 K h0 h1 (by omega), kcs0 K h0 h1 (by omega), kcs1 K h0 h1 (by omega), kcs2 K h0 h1 (by omega)]
    obtain ⟨⟨c1, c2, c3, c4⟩, c5⟩ := kc K h0 h1 0 (by omega)
    exact ⟨k_oB K c1 (by omega) (Or.inr (by rw [← c5, a2]; rfl)), by rw [(vk 0 (by omega)).2, a2]; rfl, kid 1 (by omega) a3, kid 2 (by omega) a4, bod 3 true (by omega) a5 (Or.inl rfl)⟩
  by_cases e40 : (ia σ 8 k.toNat).toInt = 40
  · obtain ⟨a1, a2, a3⟩ := r40 e40
    refine Or.inr (Or.inr (Or.inr (Or.inr (Or.inr (Or.inl ⟨e40, ?_⟩)))))
    rw [kc0 K h0 h1 (by omega), kcs0 K h0 h1 (by omega)]
    exact ⟨kid 0 (by omega) a2, bod 1 true (by omega) a3 (Or.inl rfl)⟩
  by_cases e41 : (ia σ 8 k.toNat).toInt = 41
  · obtain ⟨a1, a2⟩ := r41 e41
    refine Or.inr (Or.inr (Or.inr (Or.inr (Or.inr (Or.inr (Or.inl ⟨e41, ?_⟩))))))
    rw [kc0 K h0 h1 (by omega)]
    exact bod 0 true (by omega) a2 (Or.inl rfl)
  by_cases e42 : (ia σ 8 k.toNat).toInt = 42 ∨ (ia σ 8 k.toNat).toInt = 43
  · obtain ⟨a1, a2, a3⟩ := r42 e42
    refine Or.inr (Or.inr (Or.inr (Or.inr (Or.inr (Or.inr (Or.inr (Or.inl ⟨e42, hw a3, ?_⟩)))))))
    rw [kc0 K h0 h1 (by omega)]
    refine ⟨(vk 0 (by omega)).1, ?_⟩
    rw [(vk 0 (by omega)).2]
    rcases a2 with a2 | a2
    · exact Or.inr (kid 0 (by omega) a2)
    · exact Or.inl (by rw [a2]; rfl)
  by_cases e44 : (ia σ 8 k.toNat).toInt = 44
  · obtain ⟨a1, a2, a3, a4⟩ := r44 e44
    refine Or.inr (Or.inr (Or.inr (Or.inr (Or.inr (Or.inr (Or.inr (Or.inr (Or.inl ⟨e44, ?_⟩))))))))
    obtain ⟨⟨c1, c2, c3, c4⟩, c5⟩ := kc K h0 h1 0 (by omega)
    obtain ⟨⟨d1, d2, d3, d4⟩, d5⟩ := kc K h0 h1 2 (by omega)
    have hc : (ch σ k 0).toInt < (σ.1 19).toInt := by omega
    obtain ⟨-, q0, q1, qck, -⟩ := DI_k K.1 c1 hc
    obtain ⟨z1, z2, z3, z4, z5, z6⟩ := kK K c1 hc
    rw [kc0 K h0 h1 (by omega), kcs0 K h0 h1 (by omega), kcs1 K h0 h1 (by omega), z3, z4, (vk 1 (by omega)).2]
    refine ⟨z6, q0, ck_chn' K hc qck, (vk 1 (by omega)).1, ?_, k_xT K d1 (by omega) (by omega) ?_⟩
    · rcases a3 with a3 | a3
      · exact Or.inr (kid 1 (by omega) a3)
      · exact Or.inl (by rw [a3]; rfl)
    · rw [← d5]
      rcases a4 with a4 | a4
      · exact Or.inr (by rw [a4]; rfl)
      · exact Or.inl (by rw [a4]; rfl)
  by_cases e45 : (ia σ 8 k.toNat).toInt = 45
  · exact Or.inr (Or.inr (Or.inr (Or.inr (Or.inr (Or.inr (Or.inr (Or.inr (Or.inr (Or.inl e45)))))))))
  by_cases e46 : (ia σ 8 k.toNat).toInt = 46
  · obtain ⟨a1, a2⟩ := r46 e46
    refine Or.inr (Or.inr (Or.inr (Or.inr (Or.inr (Or.inr (Or.inr (Or.inr (Or.inr (Or.inr (Or.inl ⟨e46, ?_⟩))))))))))
    rw [kc0 K h0 h1 (by omega)]
    exact kid 0 (by omega) a2
  have e47 : (ia σ 8 k.toNat).toInt = 47 := by unfold isS at hS; omega
  obtain ⟨a1, a2, a3⟩ := r47 e47
  refine Or.inr (Or.inr (Or.inr (Or.inr (Or.inr (Or.inr (Or.inr (Or.inr (Or.inr (Or.inr (Or.inr ⟨e47, ?_⟩))))))))))
  rw [kc0 K h0 h1 (by omega), kcs0 K h0 h1 (by omega)]
  exact ⟨kid 0 (by omega) a2, kid 1 (by omega) a3⟩
theorem k_xS (K : KP σ σ' B) (n : Nat) : kS σ σ' B n := by
  have key : ∀ n, kS σ σ' B n ∧ kS σ σ' B (n + 1) := by
    intro n
    induction n with
    | zero =>
      refine ⟨fun k w h0 h1 ht _ _ => ?_, k_xS1 K⟩
      obtain ⟨-, -, -, -, -, t1, -⟩ := DI_k K.1 h0 h1
      omega
    | succ n ih => exact ⟨ih.2, k_xS2 K ih.1⟩
  exact (key n).1
/-- the body of a process is kept: a root -/
theorem k_root (K : KP σ σ' B) (h0 : 0 ≤ k) (h1 : k < (σ.1 19).toInt) (hb : bd σ k) (hu : (ia σ 13 k.toNat).toInt = -1) : xB σ' (xS σ' 99 false) ((B : Int) + k) := by
  have ht := (K.2.1 k h0 h1).1
  refine k_xB K (k_xS K 99) h0 h1 hb (by omega) (fun hL => ?_)
  obtain ⟨l, g1, g2⟩ := hL
  cases l with
  | zero => exact g2.elim
  | succ l => have := g1.1.1; omega
end Ks
