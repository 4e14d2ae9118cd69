/-! THE REFERENCE'S STATEMENTS: FOR -/
section Yo
variable {lim : Nat × Nat} {d m n B fv pp : Nat} {V : ENV} {ht : Nat → Nat} {a b a' b' : Nat → Int64} {F F' : FL} {σ σ' σ0 : rS} {bb h h' h1 : ah_H} {td : TD} {kS kV : Nat → Int32 × Int32} {v c k k2 l s v1 v2 R L : Int32} {Φ : ah_R → Prop} {T : KT} {r : RST} {e : Nat → TS} {w : WD} {o : Option SOUT} {x y : Int64}
theorem upS_up {α : Type} {f : Nat → α} {i : Nat} {x y : α} : upS (upS f i x) i y = upS f i y := by
  funext j
  unfold upS
  by_cases q : j = i
  · rw [if_pos q, if_pos q]
  · rw [if_neg q, if_neg q, if_neg q]
theorem FC_up {s : Nat} : ∀ F : FL, (∀ p, p ∈ F → a' p.1.toInt.toNat = a p.1.toInt.toNat ∧ b' p.1.toInt.toNat = b p.1.toInt.toNat) → FC T σ s a b F → FC T σ s a' b' F
  | [], _, _ => trivial
  | q :: F, e, ⟨h1, h2⟩ => ⟨fun c => by rw [(e q (List.mem_cons_self ..)).1, (e q (List.mem_cons_self ..)).2]; exact h1 c, FC_up F (fun p hp => e p (List.mem_cons_of_mem _ hp)) h2⟩
theorem FC_J {s j n : Nat} : ∀ F : FL, F.length ≤ n → FC T σ s a b F → FC T (sJ σ j (s + n) x) s a b F
  | [], _, _ => trivial
  | q :: F, e, ⟨h1, h2⟩ => by
    have e' : F.length + 1 ≤ n := e
    exact ⟨fun c => by rw [jaJ_i (by omega), jaJ_i (by omega)]; exact h1 c, FC_J F (by omega) h2⟩
theorem off_v {q : Int32 × Int32} (S : SF T ht (q :: F)) {p : Int32 × Int32} (hp : p ∈ F) : p.1.toInt.toNat ≠ q.1.toInt.toNat := fun e => by
  have := S.2.1 p hp
  rw [e] at this
  exact absurd this (Nat.lt_irrefl _)
theorem BS_up (S : BS V B fv pp ht e a b td F σ) (Sn : SF V.1 ht ((v, c) :: F)) : BS V B fv pp ht e (upS a v.toInt.toNat x) (upS b v.toInt.toNat y) td F σ := ⟨S.1, S.2.1, S.2.2.1, FC_up F (fun p hp => ⟨upS_ne (off_v Sn hp), upS_ne (off_v Sn hp)⟩) S.2.2.2.1, S.2.2.2.2⟩
theorem BS_29 (S : BS V B fv pp ht e a b td ((v, c) :: F) σ) (C : kf V.1 0 v = 38 ∨ kf V.1 0 v = 39 → CW V.1 v (a v.toInt.toNat) (b v.toInt.toNat) → CW V.1 v x (b v.toInt.toNat)) : BS V B fv pp ht e (upS a v.toInt.toNat x) b td ((v, c) :: F) (sJ σ 29 (128 * pp + F.length) x) := by
  obtain ⟨Bt, x1, x2, ⟨x3, x4⟩, x5⟩ := S
  refine ⟨BT_k Bt (fun _ _ _ => rfl) (fun j i hj => jaJ_j (by omega)) ⟨rfl, rfl, rfl⟩, x1, FK_e (σ := σ) (σ' := sJ σ 29 (128 * pp + F.length) x) (fun _ => rfl) (fun _ => rfl) _ x2, ⟨fun q => ?_, FC_J F (Nat.le_refl _) (FC_up F (fun p hp => ⟨upS_ne (off_v x5 hp), rfl⟩) x4)⟩, x5⟩
  rw [upS_eq]
  exact ⟨jaJ_e, (jaJ_j (by omega)).trans (x3 q).2.1, C q (x3 q).2.2⟩
theorem BS_30 (S : BS V B fv pp ht e a b td ((v, c) :: F) σ) (C : kf V.1 0 v = 38 ∨ kf V.1 0 v = 39 → CW V.1 v (a v.toInt.toNat) (b v.toInt.toNat) → CW V.1 v (a v.toInt.toNat) y) : BS V B fv pp ht e a (upS b v.toInt.toNat y) td ((v, c) :: F) (sJ σ 30 (128 * pp + F.length) y) := by
  obtain ⟨Bt, x1, x2, ⟨x3, x4⟩, x5⟩ := S
  refine ⟨BT_k Bt (fun _ _ _ => rfl) (fun j i hj => jaJ_j (by omega)) ⟨rfl, rfl, rfl⟩, x1, FK_e (σ := σ) (σ' := sJ σ 30 (128 * pp + F.length) y) (fun _ => rfl) (fun _ => rfl) _ x2, ⟨fun q => ?_, FC_J F (Nat.le_refl _) (FC_up F (fun p hp => ⟨rfl, upS_ne (off_v x5 hp)⟩) x4)⟩, x5⟩
  rw [upS_eq]
  exact ⟨(jaJ_j (by omega)).trans (x3 q).1, jaJ_e, C q (x3 q).2.2⟩
theorem en_26 {D : Nat} (hd : (ia σ 26 pp).toInt = D) (hD : D ≤ 1000) : (ia (en σ pp D v1 v2) 26 pp).toInt = ((D + 1 : Nat) : Int) := by
  have o1 : (1 : Int32).toInt = 1 := rfl
  unfold en
  rw [sI_nj (by omega), sI_nj (by omega), sI_eq, ad_i (by omega) (by omega), o1]
  omega
theorem sFor_1 (q : pNo (EVL V r (kC V.1 v 1)) = none) : sFor V r v = none := by unfold sFor; rw [q]; rfl
theorem sFor_2 (q : pNo (EVL V r (kC V.1 v 2)) = none) : sFor V r v = none := by
  unfold sFor
  rw [q]
  cases pNo (EVL V r (kC V.1 v 1)) <;> rfl
theorem pNo_s (q : EVL V r v = some w) (c : wI w = 2) : pNo (EVL V r v) = some w := by rw [q]; exact if_pos c
theorem pNo_n (q : EVL V r v = some w) (c : ¬ wI w = 2) : pNo (EVL V r v) = none := by rw [q]; exact if_neg c
theorem r_for (K : KQ V kS kV r.1) (HG : GT V.1) (HH : HT V.1 ht) (hv : rgN V.1 v) (h38 : kf V.1 0 v = 38 ∨ kf V.1 0 v = 39) (hb : bel V.1 v F) (g : gSr V kS kV v) (gt : gSt V kS kV v) (hk : k.toInt = B + v.toInt) (H : RH m σ bb h) (S : BS V B fv pp ht r.1 r.2.2.1 r.2.2.2.1 r.2.2.2.2 F σ) (G0 : sm (QX pp fv V.2.2.2) σ0 σ) : wq (vc lim (d + 211) 98 [aR m, aI k] h) (rI (rgM m bb V B fv pp ht r.1 r.2.2.2.2 σ0 (sFor V r v))) := by
  have P := K.1
  obtain ⟨g1, g2, -⟩ := g.2.2.2.2.1 h38
  obtain ⟨m4, -⟩ := gt.2.2.2.2.1 h38
  have hl : isLp (kf V.1 0 v) = true := by rcases h38 with q | q <;> (rw [q]; decide)
  have m0 : 0 < (kf V.1 6 v).toInt := by rw [m4]; decide
  have m1 : ((0 : Nat) : Int) + 1 < (kf V.1 6 v).toInt := by rw [m4]; decide
  have m2 : ((1 : Nat) : Int) + 1 < (kf V.1 6 v).toInt := by rw [m4]; decide
  refine wq_eq e_Ref_beginFor (wq_gR H.1 rfl (wq_gR H.1 rfl (rd_c H hk S.1.1 hv m0 (fun e3 h3 => rd_x (i := 0) P H S.1.1 hv m1 h3 (fun e4 h4 => rq_find (r := 9872) K H S G0 g1 h4 rfl (by omega) (by omega) (fun ee σ1 h1 H1 S1 G1 => ?_) (fun w1 σ1 h1 ee1 H1 S1 G1 _ q1 W1 => ?_))))))
  · exact wq_t (Or.inl rfl) (wq_some (rI_i (rg_0 H1 G1 S1 (sFor_1 (by rw [show EVL V r (kC V.1 v 1) = none from ee]; rfl)))))
  refine wq_gR H1.1 rfl (rd_x (i := 1) P H1 S1.1.1 hv m2 h4 (fun e8 h8 => rq_find (r := 9873) K H1 S1 G1 g2 h8 rfl (by omega) (by omega) (fun ee σ2 h2 H2 S2 G2 => ?_) (fun w2 σ3 h3 ee2 H3 S3 G3 f3 q9 W2 => ?_)))
  · exact wq_t (Or.inl rfl) (wq_some (rI_i (rg_0 H2 G2 S2 (sFor_2 (by rw [show EVL V r (kC V.1 v 2) = none from ee]; rfl)))))
  have q8 : RW σ3 9872 w1 := RW_sm W1 q1 f3 (by omega)
  refine rd0' (r := 9872) H3 rfl (by omega) q8.1 (wq_if _ (fun c1 => rd0' (r := 9873) H3 rfl (by omega) q9.1 (wq_if _ (fun c2 => ?_) (fun c2 => ?_))) (fun c1 => ?_))
  rotate_left
  · exact rq_fail H3 S3 G3 (fun σ4 h4 H4 S4 G4 => wq_t (Or.inl rfl) (wq_some (rI_i (rg_0 H4 G4 S4 (sFor_2 (pNo_n ee2 c2))))))
  · exact rq_fail H3 S3 G3 (fun σ4 h4 H4 S4 G4 => wq_t (Or.inl rfl) (wq_some (rI_i (rg_0 H4 G4 S4 (sFor_1 (pNo_n ee1 c1))))))
  have es : sFor V r v = some (r.1, upS r.2.2.1 v.toInt.toNat (wN w1), upS r.2.2.2.1 v.toInt.toNat (wN w2), r.2.2.2.2, 2, v) := by
    unfold sFor
    rw [pNo_s ee1 c1, pNo_s ee2 c2]
    rfl
  have ll := SF_101 S3.2.2.2.2 HH
  have p1 := S3.1.2.2.2.1.1
  have p2 := S3.1.2.2.2.1.2
  have d26 : (ia (en σ3 pp F.length k (-1)) 26 pp).toInt = ((F.length + 1 : Nat) : Int) := en_26 S3.2.1 (by omega)
  refine wq_at H3.1 (wq_cV (f_enter (d := F.length) H3 p1 p2 S3.2.1 (by omega)) fun h4 H4 => ?_)
  refine wq_gR H4.1 rfl (wq_at H4.1 (wq_cI (f_slot (d := F.length + 1) H4 p1 p2 d26 (by omega)) ?_))
  rintro x _ ⟨rfl, hx⟩
  have hx := sl_i hx
  refine wq_gR H4.1 rfl (rd4 (r := 9872) H4 rfl (by omega) (rs_NJ (j := 29) H4 (by omega) rfl hx (by show _ < 8192; omega) (fun h5 H5 => wq_gR H5.1 rfl (wq_at H5.1 (wq_cI (f_slot (d := F.length + 1) H5 p1 p2 d26 (by omega)) ?_)))))
  rintro y _ ⟨rfl, hy⟩
  have hy := sl_i hy
  refine wq_gR H5.1 rfl (rd4 (r := 9873) H5 rfl (by omega) (rs_NJ (j := 30) H5 (by omega) rfl hy (by show _ < 8192; omega) (fun h6 H6 => wq_t (by decide) (wq_some (rI_i ?_)))))
  have eX : ja (en σ3 pp F.length k (-1)) 4 9872 = wN w1 := (q8.2.1 c1).2
  have eY : ja (sJ (en σ3 pp F.length k (-1)) 29 (128 * pp + F.length) (ja (en σ3 pp F.length k (-1)) 4 9872)) 4 9873 = wN w2 := (jaJ_j (by omega)).trans (q9.2.1 c2).2
  rw [eY, eX] at H6
  have H6' : RH m (en (sJ (sJ σ3 29 (128 * pp + F.length) (wN w1)) 30 (128 * pp + F.length) (wN w2)) pp F.length k (-1)) bb h6 := H6
  have Sn := SF_loop HH hv hl hb S3.2.2.2.2
  have Su := BS_up (x := wN w1) (y := wN w2) S3 Sn
  have S5 : BS V B fv pp ht r.1 (upS r.2.2.1 v.toInt.toNat (wN w1)) (upS r.2.2.2.1 v.toInt.toNat (wN w2)) r.2.2.2.2 F (sJ (sJ σ3 29 (128 * pp + F.length) (wN w1)) 30 (128 * pp + F.length) (wN w2)) := by
    obtain ⟨Bt, x1, x2, x3, x5⟩ := Su
    exact ⟨BT_k Bt (fun _ _ _ => rfl) (fun j i hj => (jaJ_j (by omega)).trans (jaJ_j (by omega))) ⟨rfl, rfl, rfl⟩, x1, FK_e (σ := σ3) (σ' := sJ (sJ σ3 29 (128 * pp + F.length) (wN w1)) 30 (128 * pp + F.length) (wN w2)) (fun _ => rfl) (fun _ => rfl) _ x2, FC_J F (Nat.le_refl _) (FC_J F (Nat.le_refl _) x3), x5⟩
  have b1 := W1.2.2.2.1 c1
  have b2 := W2.2.2.2.1 c2
  refine rg_1 H6' ?_ (BS_en HH S5 hk (by rw [if_pos rfl]; rfl) Sn (fun _ => ⟨?_, ?_, ?_⟩)) (gq_2 hl).symm es
  · unfold en
    exact sm_I (sm_I (sm_I (sm_J (sm_J G3 (QX_s (by omega) (by omega))) (QX_s (by omega) (by omega))) QX_d) (QX_s (by omega) (by omega))) (QX_s (by omega) (by omega))
  · rw [upS_eq]
    exact (jaJ_j (by omega)).trans jaJ_e
  · rw [upS_eq]
    exact jaJ_e
  · rw [upS_eq, upS_eq]
    exact ⟨b2.2.2.2.2.1, b2.2.2.2.2.2, fun _ => b1.2.2.2.2.1⟩
end Yo
