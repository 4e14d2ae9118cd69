/-! TWO READINGS OF THE SAME CELLS: what is kept -/
section Zza
variable {nS nU nD B fv pp m nV : Nat} {eS e : Nat → TS} {U : Nat → UD} {u : UD} {τ : TD} {dc da db : Nat → Int32} {Bf Vf : Nat → Nat} {hf : Nat → Nat → Nat} {ht : Nat → Nat} {σ σ' : rS} {b b' h : ah_H} {T : KT} {a c : Nat → Int64} {F : FL} {s : US} {w : WD}
theorem RW_eq {r : Nat} (E : eqS σ σ') (hr : r < 10100) (q : RW σ r w) (W : WF w) : RW σ' r w := RW_e q (E.2.1 0 r (by decide) hr (by decide)) (E.2.1 1 r (by decide) hr (by decide)) (E.2.2 4 r (by decide) hr rfl) (fun k hk => E.2.1 5 _ (by decide) (show _ < 646400 by omega) (by decide)) W
theorem SGx_eq (E : eqS σ σ') (SG : SGx nS eS σ) : SGx nS eS σ' := by
  refine ⟨SG.1, fun i hi => ?_⟩
  have h5 := SG.1
  obtain ⟨⟨p1, p2, p3, p4, p5, p6, p7⟩, p8⟩ := SG.2 i hi
  rw [E.2.1 2 i (by decide) (show i < 10100 by omega) (by decide), E.2.1 3 i (by decide) (show i < 10100 by omega) (by decide), E.2.1 6 i (by decide) (show i < 512 by omega) (by decide), E.2.1 7 i (by decide) (show i < 512 by omega) (by decide)]
  exact ⟨⟨RW_eq E (by omega) p1 p3, RW_eq E (by omega) p2 p4, p3, p4, p5, p6, p7⟩, p8⟩
theorem UVx_eq (E : eqS σ σ') (P : PO T) (U : UVx T nV B fv pp e σ) : UVx T nV B fv pp e σ' := by
  obtain ⟨u1, u2, u3, u4, u5, u6⟩ := U
  have uB := u1.1
  refine ⟨NB_r u1 P (fun j i h1 h2 h3 h4 => ?_), u2, u3, ?_, ?_, fun i hi => ?_⟩
  · rcases (show j = 8 ∨ j = 9 ∨ j = 10 ∨ j = 11 ∨ j = 12 by omega) with rfl | rfl | rfl | rfl | rfl <;> exact E.2.1 _ i (by decide) (show i < 24000 by omega) (by decide)
  · rw [E.2.1 18 pp (by decide) (show pp < 64 by omega) (by decide)]
    exact u4
  · rw [E.2.1 17 pp (by decide) (show pp < 64 by omega) (by decide)]
    exact u5
  · obtain ⟨⟨p1, p2⟩, p3⟩ := u6 i hi
    rw [E.2.1 2 _ (by decide) (show 1024 + fv + i < 10100 by omega) (by decide), E.2.1 3 _ (by decide) (show 1024 + fv + i < 10100 by omega) (by decide)]
    exact ⟨⟨RW_eq E (by omega) p1 p2, p2⟩, p3⟩
theorem FX_eq (E : eqS σ σ') (HH : HT T ht) (hp : pp < 64) (H : FX T B pp ht a c F σ) : FX T B pp ht a c F σ' := by
  have l := SF_101 H.2.2.2 HH
  refine ⟨?_, FK_r F (fun i h0 hi => ⟨E.2.1 27 i (by decide) (show i < 8192 by omega) (by decide), E.2.1 28 i (by decide) (show i < 8192 by omega) (by decide)⟩) H.2.1, FC_lt F (fun i h0 hi => ⟨E.2.2 29 i (by decide) (show i < 8192 by omega) rfl, E.2.2 30 i (by decide) (show i < 8192 by omega) rfl⟩) H.2.2.1, H.2.2.2⟩
  rw [E.2.1 26 pp (by decide) (show pp < 64 by omega) (by decide)]
  exact H.1
theorem UWx_eq (E : eqS σ σ') (HH : HT T ht) (hp : pp < 64) (U : UWx T B pp ht s a c σ) : UWx T B pp ht s a c σ' := by
  obtain ⟨u1, u2, u3⟩ := U
  have g : ∀ j, 20 ≤ j → j ≤ 24 → ia σ' j pp = ia σ j pp := fun j h1 h2 => by
    rcases (show j = 20 ∨ j = 21 ∨ j = 22 ∨ j = 23 ∨ j = 24 by omega) with rfl | rfl | rfl | rfl | rfl <;> exact E.2.1 _ pp (by decide) (show pp < 64 by omega) (by decide)
  refine ⟨(g 20 (by omega) (by omega)).trans u1, fun q => ?_, fun q => ?_⟩
  · obtain ⟨c1, F, c2, c3⟩ := u2 q
    exact ⟨(g 23 (by omega) (by omega)).trans c1, F, FX_eq E HH hp c2, c3⟩
  · rw [g 24 (by omega) (by omega), E.2.2 25 pp (by decide) (show pp < 64 by omega) rfl]
    exact u3 q
theorem TA_eq (E : eqS σ σ') (A : TA τ σ) : TA τ σ' := by
  obtain ⟨a1, a2, a3, a4⟩ := A
  have l1 := a1.2.2.1
  have l2 := a1.2.2.2
  refine ⟨?_, fun i hi => ?_, ?_, fun x hx => ?_⟩
  · rw [E.1 46 (by omega), E.1 47 (by omega)]
    exact a1
  · have g : ∀ j, 31 ≤ j → j ≤ 35 → ia σ' j i = ia σ j i := fun j h1 h2 => by
      rcases (show j = 31 ∨ j = 32 ∨ j = 33 ∨ j = 34 ∨ j = 35 by omega) with rfl | rfl | rfl | rfl | rfl <;> exact E.2.1 _ i (by decide) (show i < 200 by omega) (by decide)
    rw [g 31 (by omega) (by omega), g 32 (by omega) (by omega), g 33 (by omega) (by omega), g 34 (by omega) (by omega), g 35 (by omega) (by omega), E.2.2 36 i (by decide) (show i < 200 by omega) rfl, E.2.1 37 i (by decide) (show i < 201 by omega) (by decide), E.2.1 37 (i + 1) (by decide) (show i + 1 < 201 by omega) (by decide)]
    exact a2 i hi
  · rw [E.2.1 37 _ (by decide) (show τ.1 < 201 by omega) (by decide)]
    exact a3
  · rw [E.2.2 38 x (by decide) (show x < 528 by omega) rfl]
    obtain ⟨d1, d2, d3⟩ := a4 x hx
    exact ⟨d1, RW_eq E (by omega) d2 d3, d3⟩
theorem PX_eq (E : eqS σ σ') (X : PX u B fv pp ht σ) : PX u B fv pp ht σ' := by
  obtain ⟨⟨x1, x2, x3⟩, x4, x5, x6, x7, x8⟩ := X
  have hp := x4.2.2.1
  refine ⟨⟨x1, x2, x3⟩, UVx_eq E x1 x4, UWx_eq E x2 hp x5, ?_, by rw [E.1 8 (by omega)]; exact x7, by rw [E.1 22 (by omega)]; exact x8⟩
  rw [E.2.1 19 pp (by decide) (show pp < 64 by omega) (by decide)]
  exact x6
theorem RX_eq (E : eqS σ σ') (X : RX nS eS nU U τ nD dc da db Bf Vf hf σ) : RX nS eS nU U τ nD dc da db Bf Vf hf σ' := by
  obtain ⟨⟨x1, x1'⟩, x2, ⟨x3, x4, x5, x6⟩, x7, x8, x9, x10⟩ := X
  have l8 := x8.1
  refine ⟨⟨fun i hi => ?_, fun i hi => ?_⟩, SGx_eq E x2, ⟨by rw [E.1 7 (by omega)]; exact x3, by rw [E.1 23 (by omega)]; exact x4, x5, by rw [E.1 9 (by omega)]; exact x6⟩, TA_eq E x7, ⟨x8.1, fun i hi => ?_⟩, fun j hj => PX_eq E (x9 j hj), x10⟩
  · rw [E.2.1 0 i (by decide) hi (by decide), E.2.1 1 i (by decide) hi (by decide)]
    exact x1 i hi
  · rw [E.2.1 5 i (by decide) hi (by decide)]
    exact x1' i hi
  · rw [E.2.1 0 _ (by decide) (show 9216 + i < 10100 by omega) (by decide), E.2.1 2 _ (by decide) (show 9216 + i < 10100 by omega) (by decide), E.2.1 3 _ (by decide) (show 9216 + i < 10100 by omega) (by decide)]
    exact x8.2 i hi
end Zza
