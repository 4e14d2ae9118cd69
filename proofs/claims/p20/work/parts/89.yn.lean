/-! THE REFERENCE'S STATEMENTS: EXIT, NEXT -/
section Yn
variable {lim : Nat × Nat} {d m n B fv pp : Nat} {V : ENV} {ht : Nat → Nat} {a b : Nat → Int64} {F F' : FL} {σ σ' σ0 : rS} {bb h h' h1 : ah_H} {td : TD} {kS kV : Nat → Int32 × Int32} {v c k k2 l s v1 v2 R L : Int32} {Φ : ah_R → Prop} {T : KT} {r : RST} {e : Nat → TS} {w : WD} {o : Option SOUT}
theorem lpU_s (h1 : ¬ v = -1) (h2 : ¬ isLp (xK T v) = true) : lpU T (n + 1) v = lpU T n (xU T v) := (if_neg h1).trans (if_neg h2)
theorem lpU_p (h1 : ¬ v = -1) (h2 : isLp (xK T v) = true) : ∀ n, lpU T n v = v
  | 0 => rfl
  | _ + 1 => (if_neg h1).trans (if_pos h2)
theorem lpU_m : ∀ n, lpU T n (-1) = -1
  | 0 => rfl
  | _ + 1 => if_pos rfl
/-- past what is no loop -/
theorem lpU_n (hL : rgN T L) (hl : isLp (kf T 0 L) = true) (h2 : ¬ isLp (xK T v) = true) (e : lpU T n v = L) : ¬ v = -1 ∧ ∃ n', lpU T n' (xU T v) = L := by
  have nv : ¬ v = -1 := fun q => by
    rw [q, lpU_m] at e
    exact rg_n hL e.symm
  refine ⟨nv, ?_⟩
  cases n with
  | zero =>
    have e : v = L := e
    rw [e, xK_r hL] at h2
    exact absurd hl h2
  | succ n =>
    rw [lpU_s nv h2] at e
    exact ⟨n, e⟩
theorem sl_i {x : Int32} {D : Nat} (hx : x.toInt = 128 * (pp : Int) + ((D + 1 : Nat) : Int) - 1) : x.toInt = ((128 * pp + D : Nat) : Int) := by omega
/-- the top frame's number -/
theorem rq_slot {K : Int32 → ah_H → Option ah_R} {q : Int32 × Int32} (HH : HT V.1 ht) (H : RH m σ bb h) (S : BS V B fv pp ht e a b td (q :: F) σ) (k : ∀ x : Int32, x.toInt = ((128 * pp + F.length : Nat) : Int) → wq (K x h) Φ) : wq (ah_at h (some m) 11 fun _ _ => ah_cI (vc lim (d + 1) 89 [aR m] h) (nx h1) K) Φ := by
  have l := SF_101 S.2.2.2.2 HH
  refine wq_at H.1 (wq_cI (f_slot H S.1.2.2.2.1.1 S.1.2.2.2.1.2 S.2.1 (by omega)) ?_)
  rintro x _ ⟨rfl, hx⟩
  exact k x (sl_i hx)
theorem rq_top {K : Int32 → Option ah_R} {q : Int32 × Int32} {x : Int32} (HH : HT V.1 ht) (H : RH m σ bb h) (S : BS V B fv pp ht e a b td (q :: F) σ) (hx : x.toInt = ((128 * pp + F.length : Nat) : Int)) (k : ∀ e : Int32, e.toInt = B + q.1.toInt → wq (K e) Φ) : wq (ah_lI h (some (m + 1 + 27)) 100 x K) Φ := by
  have l := SF_101 S.2.2.2.2 HH
  have l' : F.length + 1 ≤ 101 := l
  have p := S.1.2.2.2.1.2
  refine ra_I H (j := 27) (by omega) rfl rfl (by omega) (by show _ < (8192 : Int); omega) (k _ ?_)
  rw [show x.toInt.toNat = 128 * pp + F.length by omega]
  exact S.2.2.1.1
theorem SF_lp {q : Int32 × Int32} (S : SF T ht (q :: F)) (hl : isLp (kf T 0 q.1) = true) : q.2 = -1 ∧ bel T q.1 F := by
  rcases S.2.2.1 with ⟨-, g1, g2⟩ | ⟨g, -⟩
  · exact ⟨g1, g2⟩
  · exact absurd hl (bdy_n g)
theorem SF_bd {q : Int32 × Int32} (S : SF T ht (q :: F)) (hl : bdy T q.1) : own T q.1 F := by
  rcases S.2.2.1 with ⟨g, -⟩ | ⟨-, -, g⟩
  · exact absurd g (bdy_n hl)
  · exact g
theorem r_lv_l (HG : GT V.1) (HH : HT V.1 ht) (hv : rgN V.1 v) (hk : k.toInt = B + v.toInt) (hL : rgN V.1 L) (hl : isLp (kf V.1 0 L) = true) (ho : o = if kf V.1 0 v = 42 then oBe r L else some (r.1, r.2.2.1, r.2.2.2.1, r.2.2.2.2, 2, L)) : ∀ (F : FL) (l c : Int32) (F' : FL) (n : Nat) (h : ah_H) (σ : rS), F = (l, c) :: F' → bdy V.1 l → lpU V.1 n l = L → RH m σ bb h → BS V B fv pp ht r.1 r.2.2.1 r.2.2.2.1 r.2.2.2.2 F σ → sm (QX pp fv V.2.2.2) σ0 σ → wq (ah_val lim ah_P (d + 210) 99 45 [some (aR m), some (aI k)] [] h) (rI (rgM m bb V B fv pp ht r.1 r.2.2.2.2 σ0 o)) := by
  have fin : ∀ (F : FL) (c : Int32) (h : ah_H) (σ : rS), RH m σ bb h → BS V B fv pp ht r.1 r.2.2.1 r.2.2.2.1 r.2.2.2.2 ((L, c) :: F) σ → sm (QX pp fv V.2.2.2) σ0 σ → wq (ah_val lim ah_P (d + 210) 99 45 [some (aR m), some (aI k)] [] h) (rI (rgM m bb V B fv pp ht r.1 r.2.2.2.2 σ0 o)) := by
    intro F c h σ H S G0
    refine wq_eq q_99_45 (wq_gR H.1 rfl (wq_gR H.1 rfl (rq_slot HH H S (fun x hx => rq_top HH H S hx (fun e5 h5 => rd_k H h5 S.1.1 hL (wq_f (fun q => ?_) (wq_gR H.1 rfl (rd_k H hk S.1.1 hv (wq_if _ (fun c42 => ?_) (fun c42 => ?_))))))))))
    · rw [show kf V.1 0 L = 48 from q] at hl
      exact absurd hl (by decide)
    · rw [if_pos c42] at ho
      exact rq_pop HH H S G0 (fun σ2 h2 H2 S2 G2 => wq_t (by decide) (wq_some (rI_i (rg_1 H2 G2 S2 (gq_0 HG S2.2.2.2.2 (SF_lp S.2.2.2.2 hl).2).symm ho))))
    · rw [if_neg c42] at ho
      exact wq_t (by decide) (wq_some (rI_i (rg_1 H G0 S (gq_2 hl).symm ho)))
  intro F
  induction F with
  | nil => intro l c F' n h σ e; cases e
  | cons q F ih =>
    intro l c F' n h σ e hb hn H S G0
    cases e
    have nl : ¬ isLp (xK V.1 l) = true := by rw [xK_r hb.1]; exact bdy_n hb
    obtain ⟨-, n1, e1⟩ := lpU_n hL hl nl hn
    have ow := SF_bd S.2.2.2.2 hb
    refine wq_eq q_99_45 (wq_gR H.1 rfl (wq_gR H.1 rfl (rq_slot HH H S (fun x hx => rq_top HH H S hx (fun e5 h5 => rd_k H h5 S.1.1 hb.1 (wq_t hb.2.1 (rq_pop HH H S G0 (fun σ2 h2 H2 S2 G2 => ?_))))))))
    unfold own at ow
    by_cases c1 : xU V.1 l = -1
    · rw [c1, lpU_m] at e1
      exact absurd e1.symm (rg_n hL)
    · rw [if_neg c1] at ow
      by_cases c2 : isLp (xK V.1 (xU V.1 l)) = true
      · rw [if_pos c2] at ow
        rw [lpU_p c1 c2] at e1
        obtain ⟨F2, rfl⟩ := ow
        rw [e1] at S2
        exact fin F2 (-1) h2 σ2 H2 S2 G2
      · rw [if_neg c2] at ow
        obtain ⟨-, n2, e2⟩ := lpU_n hL hl c2 e1
        by_cases c3 : xK V.1 (xU V.1 l) = 36
        · rw [if_pos c3] at ow
          obtain ⟨⟨o1, F2, o2⟩, o3⟩ := ow
          obtain ⟨-, n3, e3⟩ := lpU_n hL hl o3 e2
          exact ih _ _ F2 n3 h2 σ2 o2 o1 e3 H2 S2 G2
        · rw [if_neg c3] at ow
          obtain ⟨⟨o1, F2, o2⟩, o3⟩ := ow
          exact ih _ _ F2 n2 h2 σ2 o2 o1 e2 H2 S2 G2
theorem r_leave (K : KQ V kS kV r.1) (HG : GT V.1) (HH : HT V.1 ht) (hv : rgN V.1 v) (h42 : kf V.1 0 v = 42 ∨ kf V.1 0 v = 43) (hb : bel V.1 v F) (g : gSr V kS kV v) (gt : gSt V kS kV v) (hk : k.toInt = B + v.toInt) (H : RH m σ bb h) (S : BS V B fv pp ht r.1 r.2.2.1 r.2.2.2.1 r.2.2.2.2 F σ) (G0 : sm (QX pp fv V.2.2.2) σ0 σ) : wq (vc lim (d + 211) 99 [aR m, aI k] h) (rI (rgM m bb V B fv pp ht r.1 r.2.2.2.2 σ0 (sLeave V r v))) := by
  have P := K.1
  have g1 := g.2.2.2.2.2.2.2.1 h42
  obtain ⟨m1, -, hL, hl⟩ := gt.2.2.2.2.2.2.2.1 h42
  have m0 : 0 < (kf V.1 6 v).toInt := by rw [m1]; decide
  have hc := (po_k P hv (i := 0) (by rw [m1]; decide)).1
  have lo : ∀ (h : ah_H) (σ : rS), RH m σ bb h → BS V B fv pp ht r.1 r.2.2.1 r.2.2.2.1 r.2.2.2.2 F σ → sm (QX pp fv V.2.2.2) σ0 σ → wq (ah_val lim ah_P (d + 210) 99 45 [some (aR m), some (aI k)] [] h) (rI (rgM m bb V B fv pp ht r.1 r.2.2.2.2 σ0 (oL V.1 r v))) := by
    intro h σ H S G0
    obtain ⟨b1, F2, rfl⟩ := hb
    exact r_lv_l (L := lpO' V.1 v) HG HH hv hk hL hl rfl _ _ _ F2 (V.1.1 + 1) h σ rfl b1 rfl H S G0
  refine wq_eq e_Ref_leave (wq_gR H.1 rfl (wq_gR H.1 rfl (rd_c H hk S.1.1 hv m0 (fun e3 h3 => rd_k H h3 S.1.1 hc (wq_if _ (fun c0 => ?_) (fun c0 => ?_))))))
  · rw [show sLeave V r v = oL V.1 r v from if_pos c0]
    exact lo h σ H S G0
  · have es : sLeave V r v = (pNo (EVL V r (kC V.1 v 0))).bind fun w => if wN w = 0 then oBe r v else oL V.1 r v := if_neg c0
    refine wq_gR H.1 rfl (rd_c H hk S.1.1 hv m0 (fun e6 h6 => rq_cond K H S G0 (g1.resolve_left c0) h6 (fun ee σ2 h2 H2 S2 G2 => wq_t (by decide) (wq_some (rI_i (rg_0 H2 G2 S2 (by rw [es, show pNo (EVL V r (kC V.1 v 0)) = none from ee]; rfl))))) (fun w σ2 h2 ee H2 S2 G2 q9 W9 w2 => rq_n (r := 9872) H2 rfl (by omega) q9 w2 (wq_if _ (fun c1 => ?_) (fun c1 => ?_)))))
    · rw [lg_eq] at c1
      exact wq_t (by decide) (wq_some (rI_i (rg_1 H2 G2 S2 (gq_0 HG S2.2.2.2.2 hb).symm (by rw [es, show pNo (EVL V r (kC V.1 v 0)) = some w from ee]; exact if_pos c1))))
    · rw [lg_eq] at c1
      rw [show sLeave V r v = oL V.1 r v by rw [es, show pNo (EVL V r (kC V.1 v 0)) = some w from ee]; exact if_neg c1]
      exact lo h2 σ2 H2 S2 G2
end Yn
