/-! THE REFERENCE'S STEPS -/
def S2 (r : RST) (o : Option SOUT) : Prop := ∀ q, o = some q → ∀ i, (q.1 i).2 = (r.1 i).2
def QY (pp fv nV j i : Nat) : Prop := QX pp fv nV j i ∨ (j = 100 ∧ i = 40) ∨ (j = 23 ∧ i = pp)
section Yv
variable {lim : Nat × Nat} {d m n N B fv pp fr : Nat} {V : ENV} {ht : Nat → Nat} {a b : Nat → Int64} {F : FL} {σ σ' σ0 : rS} {bb h h' h1 : ah_H} {td : TD} {kS kV : Nat → Int32 × Int32} {v c k c0 l s v1 v2 R x32 ii y bo : Int32} {Φ : ah_R → Prop} {T : KT} {r r' : RST} {e : Nat → TS} {w : WD} {o : Option SOUT} {lm : Int64} {A Bk : ah_H → Option ah_R}
theorem s2_r {f : (Nat → Int64) × (Nat → Int64) × TD × Nat × Int32} : S2 r (some (r.1, f)) := by
  rintro q e
  cases e
  exact fun _ => rfl
theorem s2_if {P : Prop} [Decidable P] {a b : Option SOUT} (ha : P → S2 r a) (hb : ¬ P → S2 r b) : S2 r (if P then a else b) := by
  split
  · rename_i q
    exact ha q
  · rename_i q
    exact hb q
theorem s2_b {α : Type} {o : Option α} {f : α → Option SOUT} (hf : ∀ a, o = some a → S2 r (f a)) : S2 r (o.bind f) := by
  intro q e
  obtain ⟨a, ea, eb⟩ := bd_o e
  exact hf a ea q eb
theorem s2_n : S2 r none := fun q e => by cases e
theorem s2_u {j : Nat} {u : WD} {f : (Nat → Int64) × (Nat → Int64) × TD × Nat × Int32} : S2 r (some (upS r.1 j (u, (r.1 j).2), f)) := by
  rintro q e
  cases e
  intro i
  show (upS r.1 j (u, (r.1 j).2) i).2 = _
  by_cases c : i = j
  · rw [c, upS_eq]
  · rw [upS_ne c]
theorem s2_tell : S2 r (sTell r v w) := s2_if (fun _ => s2_r) (fun _ => s2_n)
theorem s2_if34 : ∀ n i, S2 r (sIf V r v n i) := by
  intro n
  induction n with
  | zero => exact fun i => s2_if (fun _ => s2_r) (fun _ => s2_r)
  | succ n ih => exact fun i => s2_if (fun _ => s2_b fun a _ => s2_if (fun _ => ih _) (fun _ => s2_r)) (fun _ => s2_if (fun _ => s2_r) (fun _ => s2_r))
theorem s2_caO : ∀ n i, S2 r (caO V r w v n i) := by
  intro n
  induction n with
  | zero => exact fun i => s2_n
  | succ n ih => exact fun i => s2_if (fun _ => s2_b fun a _ => s2_if (fun _ => s2_r) (fun _ => ih _)) (fun _ => s2_n)
theorem s2_act (K : GK V kS kV) (hv : rgN V.1 v) (e : sAct V r v = some (r', bo)) : ∀ i, (r'.1 i).2 = (r.1 i).2 := by
  obtain ⟨P, HG, HU, GS, K2⟩ := K
  obtain ⟨s30, s33, s34, s35, s38, s40, s41, s42, s44, s46, s47⟩ := GS v hv
  have fin : ∀ o : Option SOUT, S2 r o → oStep V r o = some (r', bo) → ∀ i, (r'.1 i).2 = (r.1 i).2 := by
    intro o ho e
    cases o with
    | none => cases e
    | some q =>
      have h1 := ho q rfl
      cases e
      exact h1
  unfold sAct at e
  split at e
  · exact fin _ (s2_b fun a _ => s2_b fun l _ => s2_b fun ab _ => s2_if (fun _ => s2_r) (fun _ => s2_n)) e
  split at e
  · rename_i k33
    obtain ⟨go, ko⟩ := gTg_o (Or.inr rfl) (s33 k33).2.1
    obtain ⟨-, vs, vn⟩ := go_v (L := (0, 0, 0, 0, 0, fun _ => 0, fun _ => 0)) (r := r) go ko
    refine fin _ (s2_b fun a ea => s2_b fun w ew => s2_if (fun cf => ?_) (fun _ => s2_n)) e
    rw [vs]
    exact s2_u
  split at e
  · exact fin _ (s2_if34 _ _) e
  split at e
  · exact fin _ (s2_b fun a _ => s2_caO _ _) e
  split at e
  · exact fin _ (s2_b fun a _ => s2_b fun c _ => s2_r) e
  split at e
  · exact fin _ s2_r e
  split at e
  · have so_l : S2 r (oL V.1 r v) := s2_if (fun _ => s2_r) (fun _ => s2_r)
    exact fin _ (s2_if (fun _ => so_l) (fun _ => s2_b fun a _ => s2_if (fun _ => s2_r) (fun _ => so_l))) e
  split at e
  · cases ew : sWait V r v with
    | none => rw [ew] at e; cases e
    | some z =>
      rw [ew] at e
      cases e
      exact fun _ => rfl
  split at e
  · exact fin _ (s2_b fun a _ => s2_tell) e
  split at e
  · exact fin _ (s2_b fun a _ => s2_if (fun _ => s2_b fun u _ => s2_tell) (fun _ => s2_r)) e
  · exact fin _ s2_r e
theorem s2_step (K : GK V kS kV) (ia : IA V.1 r.2.1) (e : sStep V r = some (r', bo)) : ∀ i, (r'.1 i).2 = (r.1 i).2 := by
  have fin : ∀ o : Option SOUT, S2 r o → oStep V r o = some (r', bo) → ∀ i, (r'.1 i).2 = (r.1 i).2 := by
    intro o ho e
    cases o with
    | none => cases e
    | some q =>
      have h1 := ho q rfl
      cases e
      exact h1
  unfold sStep at e
  split at e
  · exact fin _ s2_r e
  · rename_i c0
    split at e
    · exact fin _ (s2_if (fun _ => s2_r) (fun n41 => s2_if (fun _ => s2_b fun a _ => s2_if (fun _ => s2_r) (fun _ => s2_r)) (fun n40 => s2_if (fun _ => s2_r) (fun _ => s2_if (fun _ => s2_u) (fun _ => s2_n))))) e
    · have hv : rgN V.1 r.2.1.2.2.2.2.2.1 := by
        rcases ia with q | ⟨-, q⟩ | ⟨-, q, -⟩
        · exact absurd q c0
        · exact q
        · exact q
      exact s2_act K hv e
/-- what a step keeps -/
theorem KQ_step (G : GK V kS kV) (K : KQ V kS kV r.1) (ia : IA V.1 r.2.1) (e : sStep V r = some (r', bo)) : KQ V kS kV r'.1 := by
  obtain ⟨P, C1, C2⟩ := K
  obtain ⟨rk, -⟩ := so_step G (fun i hi => ⟨(C2 i hi).1, (C2 i hi).2.1⟩) ia e
  have h2 := s2_step G ia e
  refine ⟨P, C1, fun i hi => ⟨(rk i hi).1, (rk i hi).2, ?_⟩⟩
  rw [show (r'.1 i).2.1 = (r.1 i).2.1 from congrArg Prod.fst (h2 i)]
  exact (C2 i hi).2.2
theorem QY_x : ∀ j i, QX pp fv n j i → QY pp fv n j i := fun _ _ q => Or.inl q
/-- steps -/
theorem rq_steps (H : RH m σ bb h) (S : BS V B fv pp ht e a b td F σ) (G0 : sm (QY pp fv V.2.2.2) σ0 σ) (hn : (σ.1 40).toInt = n) (hs : ia σ 23 pp = s) (kn : n = 0 → wq (A h) Φ) (ks : ∀ n' σ' h', n = n' + 1 → RH m σ' bb h' → BS V B fv pp ht e a b td F σ' → sm (QY pp fv V.2.2.2) σ0 σ' → (σ'.1 40).toInt = n' → ia σ' 23 pp = (if s < 2147483647 then s + 1 else s) → wq (Bk h') Φ) : wq (ah_at h (some m) 11 fun _ _ => ah_cI (vc lim (d + 1) 91 [aR m] h) (nx h1) fun y h' => if y = 0 then A h' else Bk h') Φ := by
  have p1 := S.1.2.2.2.1.1
  have p2 := S.1.2.2.2.1.2
  have o1 : (1 : Int32).toInt = 1 := rfl
  have fin : wq (vc lim (d + 1) 91 [aR m] h) (rI fun y h' => (y = 0 ∧ wq (A h') Φ) ∨ (y = 1 ∧ wq (Bk h') Φ)) := by
    refine wq_eq e_Ref_steps (wq_gI H.1 rfl (wq_if _ (fun c => ?_) (fun c => ?_)))
    · have : n = 0 := by
        have := congrArg Int32.toInt c
        rw [show (0 : Int32).toInt = 0 from rfl] at this
        omega
      exact wq_t (Or.inl rfl) (wq_some (rI_i (Or.inl ⟨rfl, kn this⟩)))
    · have n0 : 1 ≤ n := by
        by_cases q : n = 0
        · exact absurd (Int32.toInt_inj.mp (by rw [hn, q]; rfl)) c
        · omega
      have e40 : (σ.1 40 - 1).toInt = ((n - 1 : Nat) : Int) := by
        have := Int32.toInt_lt (σ.1 40)
        rw [sb_i (by omega) (by omega), o1]
        omega
      refine wq_gI H.1 rfl (rw_I H (by omega) rfl (fun h2 H2 => ?_))
      have p1' : ((sG σ 40 (σ.1 40 - 1)).1 39).toInt = pp := by
        rw [sG_ne (by omega)]
        exact p1
      have S2' : BS V B fv pp ht e a b td F (sG σ 40 (σ.1 40 - 1)) := BS_G S ⟨by omega, by omega, by omega⟩
      have G2 : sm (QY pp fv V.2.2.2) σ0 (sG σ 40 (σ.1 40 - 1)) := sm_G G0 (Or.inr (Or.inl ⟨rfl, rfl⟩))
      have st : ∀ x : Int32, x = (if s < 2147483647 then s + 1 else s) → ∀ h', RH m (sI (sG σ 40 (σ.1 40 - 1)) 23 pp x) bb h' → wq (Bk h') Φ := fun x hx h' H' => ks (n - 1) _ h' (by omega) H' (BS_24 S2' (by omega)) (sm_I G2 (Or.inr (Or.inr ⟨rfl, rfl⟩))) (by show ((sG σ 40 (σ.1 40 - 1)).1 40).toInt = _; rw [sG_eq]; exact e40) (sI_eq.trans hx)
      refine wq_gR H2.1 rfl (wq_gI H2.1 rfl (wq_gR H2.1 rfl (wq_gI H2.1 rfl (ra_I H2 (j := 23) (by omega) rfl rfl (by omega) (by show _ < (64 : Int); omega) ?_))))
      rw [show ia (sG σ 40 (σ.1 40 - 1)) 23 ((sG σ 40 (σ.1 40 - 1)).1 39).toInt.toNat = s by
        rw [show ((sG σ 40 (σ.1 40 - 1)).1 39).toInt.toNat = pp by omega]
        exact hs]
      refine wq_if _ (fun c2 => ?_) (fun c2 => ?_)
      · exact rs_N (j := 23) H2 (by omega) rfl rfl p1' (by show pp < 64; omega) (fun h3 H3 => wq_t (by decide) (wq_some (rI_i (Or.inr ⟨rfl, st _ (by rw [c2, if_neg (by decide)]) h3 H3⟩))))
      · refine wq_gR H2.1 rfl (wq_gI H2.1 rfl (ra_I H2 (j := 23) (by omega) rfl rfl (by omega) (by show _ < (64 : Int); omega) ?_))
        rw [show ia (sG σ 40 (σ.1 40 - 1)) 23 ((sG σ 40 (σ.1 40 - 1)).1 39).toInt.toNat = s by
          rw [show ((sG σ 40 (σ.1 40 - 1)).1 39).toInt.toNat = pp by omega]
          exact hs]
        refine rs_N (j := 23) H2 (by omega) rfl rfl p1' (by show pp < 64; omega) (fun h3 H3 => wq_t (by decide) (wq_some (rI_i (Or.inr ⟨rfl, st _ ?_ h3 H3⟩))))
        have := Int32.toInt_lt s
        have e31 : (2147483647 : Int32).toInt = 2147483647 := rfl
        have : (2 : Int) ^ 31 = 2147483648 := by decide
        rw [if_pos]
        rw [Int32.lt_iff_toInt_lt, e31]
        have : ¬ s.toInt = 2147483647 := fun q => c2 (Int32.toInt_inj.mp (q.trans e31.symm))
        omega
  refine wq_at H.1 (wq_cI fin ?_)
  rintro y h2 (⟨rfl, q⟩ | ⟨rfl, q⟩)
  · exact wq_t rfl q
  · exact wq_f (by decide) q
end Yv
