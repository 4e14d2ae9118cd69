/-! WHAT IS LOOKED OVER -/
def isX (k : Int) : Prop := k = 2 ∨ k = 3 ∨ k = 4 ∨ k = 20 ∨ k = 21 ∨ (79 < k ∧ k < 86)
def isS (k : Int) : Prop := k = 30 ∨ k = 33 ∨ k = 34 ∨ k = 35 ∨ (37 < k ∧ k < 48)
def isC (k : Int) : Prop := k = 2 ∨ k = 3 ∨ k = 4 ∨ k = 37
def isO (k : Int) : Prop := k = 80 ∨ k = 81
/-! KINDS, by program (wip/tools/drf.py) -/
section RfF
variable {lim : Nat × Nat} {m p : Nat} {σ σ0 : rS} {b : ah_H}
theorem v_expression {d : Nat} {h : ah_H} {v0 : Int32}   : wq (vc lim (d + 1) m_Ref_expression [.inl v0] h) (rI fun x h' => h' = h ∧ ((x = 0 ∨ x = 1) ∧ ((x = 1 → isX v0.toInt) ∧ (x = 0 → ¬ isX v0.toInt)))) := by
  refine wq_eq e_Ref_expression ?_
  refine wq_if _ (fun c1 => ?_) (fun c1 => ?_)
  · refine wq_eq q_45_39 ?_
    exact wq_t (Or.inr rfl) (wq_some (rI_i ⟨rfl, ⟨(Or.inr rfl), ⟨fun _ => (by have := congrArg Int32.toInt c1; have : (2 : Int32).toInt = 2 := rfl; unfold isX; omega), fun h => absurd h (by decide)⟩⟩⟩))
  · refine wq_if _ (fun c2 => ?_) (fun c2 => ?_)
    · refine wq_eq q_45_39 ?_
      exact wq_t (Or.inr rfl) (wq_some (rI_i ⟨rfl, ⟨(Or.inr rfl), ⟨fun _ => (by have := ne_i c1; have := congrArg Int32.toInt c2; have : (2 : Int32).toInt = 2 := rfl; have : (3 : Int32).toInt = 3 := rfl; unfold isX; omega), fun h => absurd h (by decide)⟩⟩⟩))
    · refine wq_if _ (fun c3 => ?_) (fun c3 => ?_)
      · refine wq_eq q_45_39 ?_
        exact wq_t (Or.inr rfl) (wq_some (rI_i ⟨rfl, ⟨(Or.inr rfl), ⟨fun _ => (by have := ne_i c1; have := ne_i c2; have := congrArg Int32.toInt c3; have : (2 : Int32).toInt = 2 := rfl; have : (3 : Int32).toInt = 3 := rfl; have : (4 : Int32).toInt = 4 := rfl; unfold isX; omega), fun h => absurd h (by decide)⟩⟩⟩))
      · refine wq_if _ (fun c4 => ?_) (fun c4 => ?_)
        · refine wq_eq q_45_39 ?_
          exact wq_t (Or.inr rfl) (wq_some (rI_i ⟨rfl, ⟨(Or.inr rfl), ⟨fun _ => (by have := ne_i c1; have := ne_i c2; have := ne_i c3; have := congrArg Int32.toInt c4; have : (2 : Int32).toInt = 2 := rfl; have : (20 : Int32).toInt = 20 := rfl; have : (3 : Int32).toInt = 3 := rfl; have : (4 : Int32).toInt = 4 := rfl; unfold isX; omega), fun h => absurd h (by decide)⟩⟩⟩))
        · refine wq_if _ (fun c5 => ?_) (fun c5 => ?_)
          · refine wq_eq q_45_39 ?_
            exact wq_t (Or.inr rfl) (wq_some (rI_i ⟨rfl, ⟨(Or.inr rfl), ⟨fun _ => (by have := ne_i c1; have := ne_i c2; have := ne_i c3; have := ne_i c4; have := congrArg Int32.toInt c5; have : (2 : Int32).toInt = 2 := rfl; have : (20 : Int32).toInt = 20 := rfl; have : (21 : Int32).toInt = 21 := rfl; have : (3 : Int32).toInt = 3 := rfl; have : (4 : Int32).toInt = 4 := rfl; unfold isX; omega), fun h => absurd h (by decide)⟩⟩⟩))
          · refine wq_if _ (fun c6 => ?_) (fun c6 => ?_)
            · exact wq_t (Or.inl rfl) (wq_some (rI_i ⟨rfl, ⟨(Or.inl rfl), ⟨fun h => absurd h (by decide), fun _ => (by have := ne_i c1; have := ne_i c2; have := ne_i c3; have := ne_i c4; have := ne_i c5; have := le_i c6; have : (2 : Int32).toInt = 2 := rfl; have : (20 : Int32).toInt = 20 := rfl; have : (21 : Int32).toInt = 21 := rfl; have : (3 : Int32).toInt = 3 := rfl; have : (4 : Int32).toInt = 4 := rfl; have : (79 : Int32).toInt = 79 := rfl; unfold isX; omega)⟩⟩⟩))
            · refine wq_if _ (fun c7 => ?_) (fun c7 => ?_)
              · refine wq_eq q_45_39 ?_
                exact wq_t (Or.inr rfl) (wq_some (rI_i ⟨rfl, ⟨(Or.inr rfl), ⟨fun _ => (by have := ne_i c1; have := ne_i c2; have := ne_i c3; have := ne_i c4; have := ne_i c5; have := nle_i c6; have := lt_i c7; have : (2 : Int32).toInt = 2 := rfl; have : (20 : Int32).toInt = 20 := rfl; have : (21 : Int32).toInt = 21 := rfl; have : (3 : Int32).toInt = 3 := rfl; have : (4 : Int32).toInt = 4 := rfl; have : (79 : Int32).toInt = 79 := rfl; have : (86 : Int32).toInt = 86 := rfl; unfold isX; omega), fun h => absurd h (by decide)⟩⟩⟩))
              · exact wq_t (Or.inl rfl) (wq_some (rI_i ⟨rfl, ⟨(Or.inl rfl), ⟨fun h => absurd h (by decide), fun _ => (by have := ne_i c1; have := ne_i c2; have := ne_i c3; have := ne_i c4; have := ne_i c5; have := nle_i c6; have := nlt_i c7; have : (2 : Int32).toInt = 2 := rfl; have : (20 : Int32).toInt = 20 := rfl; have : (21 : Int32).toInt = 21 := rfl; have : (3 : Int32).toInt = 3 := rfl; have : (4 : Int32).toInt = 4 := rfl; have : (79 : Int32).toInt = 79 := rfl; have : (86 : Int32).toInt = 86 := rfl; unfold isX; omega)⟩⟩⟩))
theorem v_statement {d : Nat} {h : ah_H} {v0 : Int32}   : wq (vc lim (d + 1) m_Ref_statement [.inl v0] h) (rI fun x h' => h' = h ∧ ((x = 0 ∨ x = 1) ∧ ((x = 1 → isS v0.toInt) ∧ (x = 0 → ¬ isS v0.toInt)))) := by
  refine wq_eq e_Ref_statement ?_
  refine wq_if _ (fun c1 => ?_) (fun c1 => ?_)
  · exact wq_t (Or.inr rfl) (wq_some (rI_i ⟨rfl, ⟨(Or.inr rfl), ⟨fun _ => (by have := congrArg Int32.toInt c1; have : (30 : Int32).toInt = 30 := rfl; unfold isS; omega), fun h => absurd h (by decide)⟩⟩⟩))
  · refine wq_if _ (fun c2 => ?_) (fun c2 => ?_)
    · exact wq_t (Or.inr rfl) (wq_some (rI_i ⟨rfl, ⟨(Or.inr rfl), ⟨fun _ => (by have := ne_i c1; have := congrArg Int32.toInt c2; have : (30 : Int32).toInt = 30 := rfl; have : (33 : Int32).toInt = 33 := rfl; unfold isS; omega), fun h => absurd h (by decide)⟩⟩⟩))
    · refine wq_if _ (fun c3 => ?_) (fun c3 => ?_)
      · exact wq_t (Or.inr rfl) (wq_some (rI_i ⟨rfl, ⟨(Or.inr rfl), ⟨fun _ => (by have := ne_i c1; have := ne_i c2; have := congrArg Int32.toInt c3; have : (30 : Int32).toInt = 30 := rfl; have : (33 : Int32).toInt = 33 := rfl; have : (34 : Int32).toInt = 34 := rfl; unfold isS; omega), fun h => absurd h (by decide)⟩⟩⟩))
      · refine wq_if _ (fun c4 => ?_) (fun c4 => ?_)
        · exact wq_t (Or.inr rfl) (wq_some (rI_i ⟨rfl, ⟨(Or.inr rfl), ⟨fun _ => (by have := ne_i c1; have := ne_i c2; have := ne_i c3; have := congrArg Int32.toInt c4; have : (30 : Int32).toInt = 30 := rfl; have : (33 : Int32).toInt = 33 := rfl; have : (34 : Int32).toInt = 34 := rfl; have : (35 : Int32).toInt = 35 := rfl; unfold isS; omega), fun h => absurd h (by decide)⟩⟩⟩))
        · refine wq_if _ (fun c5 => ?_) (fun c5 => ?_)
          · exact wq_t (Or.inl rfl) (wq_some (rI_i ⟨rfl, ⟨(Or.inl rfl), ⟨fun h => absurd h (by decide), fun _ => (by have := ne_i c1; have := ne_i c2; have := ne_i c3; have := ne_i c4; have := le_i c5; have : (30 : Int32).toInt = 30 := rfl; have : (33 : Int32).toInt = 33 := rfl; have : (34 : Int32).toInt = 34 := rfl; have : (35 : Int32).toInt = 35 := rfl; have : (37 : Int32).toInt = 37 := rfl; unfold isS; omega)⟩⟩⟩))
          · refine wq_if _ (fun c6 => ?_) (fun c6 => ?_)
            · exact wq_t (Or.inr rfl) (wq_some (rI_i ⟨rfl, ⟨(Or.inr rfl), ⟨fun _ => (by have := ne_i c1; have := ne_i c2; have := ne_i c3; have := ne_i c4; have := nle_i c5; have := lt_i c6; have : (30 : Int32).toInt = 30 := rfl; have : (33 : Int32).toInt = 33 := rfl; have : (34 : Int32).toInt = 34 := rfl; have : (35 : Int32).toInt = 35 := rfl; have : (37 : Int32).toInt = 37 := rfl; have : (48 : Int32).toInt = 48 := rfl; unfold isS; omega), fun h => absurd h (by decide)⟩⟩⟩))
            · exact wq_t (Or.inl rfl) (wq_some (rI_i ⟨rfl, ⟨(Or.inl rfl), ⟨fun h => absurd h (by decide), fun _ => (by have := ne_i c1; have := ne_i c2; have := ne_i c3; have := ne_i c4; have := nle_i c5; have := nlt_i c6; have : (30 : Int32).toInt = 30 := rfl; have : (33 : Int32).toInt = 33 := rfl; have : (34 : Int32).toInt = 34 := rfl; have : (35 : Int32).toInt = 35 := rfl; have : (37 : Int32).toInt = 37 := rfl; have : (48 : Int32).toInt = 48 := rfl; unfold isS; omega)⟩⟩⟩))
end RfF
/-- a node, kept or not -/
def vD (k : Int) : Prop := 0 ≤ k ∧ k < 24000
def cD (σ : rS) : Nat → Int → Prop
  | 0, c => c = -1
  | j + 1, c => vD c ∧ cD σ j ((ia σ 12 c.toNat).toInt)
def chD (σ : rS) (P : Int → Prop) : Nat → Int → Prop
  | 0, c => c = -1
  | l + 1, c => vD c ∧ P c ∧ chD σ P l ((ia σ 12 c.toNat).toInt)
theorem ne_mD {c : Int32} (h : vD c.toInt) : ¬ c = (-1 : Int32) := fun e => by have := congrArg Int32.toInt e; rw [li_m1] at this; have := h.1; omega
theorem rd_d {ρ : Type} {Φ : ρ → Prop} {K1 : Int32 → Option ρ} {m p j : Nat} {x : Int32} {σ σ0 : rS} {b h : ah_H} (H : RH m σ b h) (G : sm (QR p) σ0 σ) (hv : vD x.toInt) (hj : 8 ≤ j ∧ j ≤ 14) (c : wq (K1 (ia σ0 j x.toInt.toNat)) Φ) : wq (ah_lI h (some (m + 1 + j)) 100 x K1) Φ := by
  have hk : rk j = 100 ∧ rn j = 24000 := by
    have : j = 8 ∨ j = 9 ∨ j = 10 ∨ j = 11 ∨ j = 12 ∨ j = 13 ∨ j = 14 := by omega
    rcases this with rfl | rfl | rfl | rfl | rfl | rfl | rfl <;> exact ⟨rfl, rfl⟩
  exact rv_n H G (by omega) hk.1 rfl (nQ_j (by omega)) hv.1 (by rw [hk.2]; exact hv.2) c
/-- none, or a node -/
def oV (c : Int32) : Prop := c = -1 ∨ vD c.toInt
def kO (σ : rS) (c : Int32) : Int32 := if c = -1 then -1 else ia σ 8 c.toInt.toNat
def nx1 (σ : rS) (c : Int32) : Int32 := if c = -1 then -1 else ia σ 12 c.toInt.toNat
def sq (σ : rS) : Nat → Int32 → Int32
  | 0, c => c
  | j + 1, c => sq σ j (nx1 σ c)
/-- a node's children, by their places -/
def ch (σ : rS) (k : Int) (i : Nat) : Int32 := sq σ i (ia σ 11 k.toNat)
def alP (σ : rS) (P : Int → Prop) : Nat → Int → Prop
  | 0, _ => True
  | l + 1, c => P ((ia σ 8 c.toNat).toInt) ∧ alP σ P l ((ia σ 12 c.toNat).toInt)
def un (σ : rS) : Nat → Int → Prop
  | 0, u => u = -1
  | l + 1, u => vD u ∧ un σ l ((ia σ 13 u.toNat).toInt)
def iL (σ : rS) : Nat → Int → Prop
  | 0, _ => False
  | l + 1, u => (38 ≤ (ia σ 8 u.toNat).toInt ∧ (ia σ 8 u.toNat).toInt ≤ 41) ∨ iL σ l ((ia σ 13 u.toNat).toInt)
/-- a body of statements -/
def bd (σ : rS) (c : Int) : Prop := vD c ∧ (ia σ 8 c.toNat).toInt = 48 ∧ ∀ l, cD σ l ((ia σ 11 c.toNat).toInt) → alP σ isS l ((ia σ 11 c.toNat).toInt)
def aM (σ : rS) (c w : Int32) : Prop := ((kO σ c = 82 ∨ kO σ c = 83) ∧ kO σ (ia σ 11 c.toInt.toNat) = w) ∨ (¬ kO σ c = 82 ∧ ¬ kO σ c = 83 ∧ kO σ c = w)
/-- branches: i tells whether a body's turn is -/
def rbF (σ : rS) : Nat → Bool → Int → Prop
  | 0, _, _ => True
  | l + 1, i, c => ((i = true ∨ (ia σ 12 c.toNat).toInt = -1) → bd σ c) ∧ (¬ (i = true ∨ (ia σ 12 c.toNat).toInt = -1) → isX ((ia σ 8 c.toNat).toInt)) ∧ rbF σ l (!i) ((ia σ 12 c.toNat).toInt)
def RV (σ : rS) (c : Int) : Prop := ((ia σ 8 c.toNat).toInt = 80 → 0 ≤ (ia σ 9 c.toNat).toInt ∧ (ia σ 9 c.toNat).toInt < 512) ∧ ((ia σ 8 c.toNat).toInt = 81 → 0 ≤ (ia σ 9 c.toNat).toInt ∧ (ia σ 9 c.toNat).toInt < 128)
section Dr
variable {lim : Nat × Nat} {m p d : Nat} {σ σ0 : rS} {b h : ah_H} {v1 v2 : Int32}
theorem sq_m1 {σ : rS} : ∀ j, sq σ j (-1) = -1 := by
  intro j
  induction j with
  | zero => rfl
  | succ j ih =>
    have e : nx1 σ (-1) = -1 := if_pos rfl
    show sq σ j (nx1 σ (-1)) = -1
    rw [e]
    exact ih
theorem vN_ne {c : Int32} (h : oV c) (e : ¬ c = -1) : vD c.toInt := h.resolve_left e
theorem v_kindOf (H : RH m σ b h) (O : OKV σ) (G : sm (QR p) σ0 σ) (hc : oV v1) : wq (vc lim (d + 1) m_Ref_kindOf [.inr (.inr (some m)), .inl v1] h) (rI fun x h' => h' = h ∧ x = kO σ0 v1) := by
  refine wq_eq e_Ref_kindOf (wq_if _ (fun c => ?_) (fun c => ?_))
  · exact wq_some (rI_i ⟨rfl, (if_pos c).symm⟩)
  · exact wq_gR H.1 rfl (rd_d H G (vN_ne hc c) (by omega) (wq_some (rI_i ⟨rfl, (if_neg c).symm⟩)))
theorem ch_loop (H : RH m σ b h) (G : sm (QR p) σ0 σ) : ∀ (j : Nat) (v3 v4 : Int32), v4.toInt + j = v2.toInt → 0 ≤ v4.toInt → (∀ i, oV (sq σ0 i v3)) → wq (ah_val lim ah_P d 43 10 [some (.inr (.inr (some m))), none, some (.inl v2), some (.inl v3), some (.inl v4)] [] h) (rI fun x h' => h' = h ∧ x = sq σ0 j v3) := by
  intro j
  have b2 := bd_i v2
  induction j with
  | zero =>
    intro v3 v4 h4 h0 hv
    exact wq_eq q_43_10 (wq_f (fun c => by have := lt_i c; omega) (wq_some (rI_i ⟨rfl, rfl⟩)))
  | succ j ih =>
    intro v3 v4 h4 h0 hv
    refine wq_eq q_43_10 (wq_t (Int32.lt_iff_toInt_lt.mpr (by omega)) (wq_if _ (fun c => ?_) (fun c => ?_)))
    · subst c
      exact wq_some (rI_i ⟨rfl, (sq_m1 _).symm⟩)
    · have e : nx1 σ0 v3 = ia σ0 12 v3.toInt.toNat := if_neg c
      have e1 : (1 : Int32).toInt = 1 := rfl
      refine wq_gR H.1 rfl (rd_d H G (vN_ne (hv 0) c) (by omega) ?_)
      rw [← e]
      exact ih (nx1 σ0 v3) _ (by rw [ad_i (by omega) (by omega), e1]; omega) (by rw [ad_i (by omega) (by omega), e1]; omega) (fun i => hv (i + 1))
theorem v_child (H : RH m σ b h) (O : OKV σ) (G : sm (QR p) σ0 σ) (hk : vD v1.toInt) (h2 : 0 ≤ v2.toInt) (hv : ∀ i, oV (ch σ0 v1.toInt i)) : wq (vc lim (d + 1) m_Ref_child [.inr (.inr (some m)), .inl v1, .inl v2] h) (rI fun x h' => h' = h ∧ x = ch σ0 v1.toInt v2.toInt.toNat) :=
  wq_eq e_Ref_child (wq_gR H.1 rfl (rd_d H G hk (by omega) (ch_loop H G v2.toInt.toNat _ 0 (by show 0 + _ = _; omega) (by decide) hv)))
theorem bd_loop (H : RH m σ b h) (G : sm (QR p) σ0 σ) {Q : Prop} : ∀ (l : Nat) (v2 v3 : Int32), cD σ0 l v3.toInt → (v2 = 0 ∨ v2 = 1) → (v2 = 1 → alP σ0 isS l v3.toInt → Q) → wq (ah_val lim ah_P (d + 1) 47 31 [some (.inr (.inr (some m))), none, some (.inl v2), some (.inl v3)] [] h) (rI fun x h' => h' = h ∧ ((x = 0 ∨ x = 1) ∧ (x = 1 → Q))) := by
  intro l
  induction l with
  | zero =>
    intro v2 v3 hg h2 hq
    exact wq_eq q_47_31 (wq_t (eq_m1 hg) (wq_t h2 (wq_some (rI_i ⟨rfl, h2, fun e => hq e trivial⟩))))
  | succ l ih =>
    intro v2 v3 hg h2 hq
    obtain ⟨g1, g2⟩ := hg
    refine wq_eq q_47_31 (wq_f (ne_mD g1) (wq_if _ (fun c => ?_) (fun c => ?_)))
    · exact wq_gR H.1 rfl (rd_d H G g1 (by omega) (ih 0 _ g2 (Or.inl rfl) (fun e => absurd e (by decide))))
    · refine wq_gR H.1 rfl (rd_d H G g1 (by omega) (wq_cI v_statement ?_))
      rintro y h5 ⟨rfl, hy, hy2, -⟩
      refine wq_if _ (fun c2 => ?_) (fun c2 => ?_)
      · exact wq_gR H.1 rfl (rd_d H G g1 (by omega) (ih 0 _ g2 (Or.inl rfl) (fun e => absurd e (by decide))))
      · exact wq_gR H.1 rfl (rd_d H G g1 (by omega) (ih 1 _ g2 (Or.inr rfl) (fun _ ha => hq (h2.resolve_left c) ⟨hy2 (hy.resolve_left c2), ha⟩)))
theorem chn_fun {σ : rS} : ∀ {l l' : Nat} {c : Int}, cD σ l c → cD σ l' c → l = l' := by
  intro l
  induction l with
  | zero =>
    intro l' c h h'
    cases l' with
    | zero => rfl
    | succ l' => have e : c = -1 := h; have := h'.1.1; omega
  | succ l ih =>
    intro l' c h h'
    cases l' with
    | zero => have e : c = -1 := h'; have := h.1.1; omega
    | succ l' => rw [ih h.2 h'.2]
theorem v_body (H : RH m σ b h) (O : OKV σ) (G : sm (QR p) σ0 σ) (hc : oV v1) (hl : vD v1.toInt → ∃ l, cD σ0 l ((ia σ0 11 v1.toInt.toNat).toInt)) : wq (vc lim (d + 2) m_Ref_body [.inr (.inr (some m)), .inl v1] h) (rI fun x h' => h' = h ∧ ((x = 0 ∨ x = 1) ∧ (x = 1 → bd σ0 v1.toInt))) := by
  refine wq_eq e_Ref_body (wq_at H.1 (wq_cI (v_kindOf H O G hc) ?_))
  rintro y h1 ⟨rfl, rfl⟩
  refine wq_if _ (fun c => ?_) (fun c => ?_)
  · have hn : ¬ v1 = -1 := fun e => by
      rw [kO, if_pos e] at c
      exact absurd c (by decide)
    have hv := vN_ne hc hn
    rw [kO, if_neg hn] at c
    obtain ⟨l, hl⟩ := hl hv
    refine wq_f (by decide) (wq_gR H.1 rfl (rd_d H G hv (by omega) (bd_loop H G l 1 _ hl (Or.inr rfl) (fun _ ha => ⟨hv, congrArg Int32.toInt c, fun l' hl' => ?_⟩))))
    rw [chn_fun hl' hl]
    exact ha
  · exact wq_t rfl (bd_loop H G 0 0 (-1) li_m1 (Or.inl rfl) (fun e => absurd e (by decide)))
theorem all_loop (H : RH m σ b h) (G : sm (QR p) σ0 σ) {Q : Prop} : ∀ (l : Nat) (v3 v4 : Int32), cD σ0 l v4.toInt → (v3 = 0 ∨ v3 = 1) → (v3 = 1 → alP σ0 (fun k => k = v2.toInt) l v4.toInt → Q) → wq (ah_val lim ah_P d 48 5 [some (.inr (.inr (some m))), none, some (.inl v2), some (.inl v3), some (.inl v4)] [] h) (rI fun x h' => h' = h ∧ ((x = 0 ∨ x = 1) ∧ (x = 1 → Q))) := by
  intro l
  induction l with
  | zero =>
    intro v3 v4 hg h2 hq
    exact wq_eq q_48_5 (wq_t (eq_m1 hg) (wq_t h2 (wq_some (rI_i ⟨rfl, h2, fun e => hq e trivial⟩))))
  | succ l ih =>
    intro v3 v4 hg h2 hq
    obtain ⟨g1, g2⟩ := hg
    refine wq_eq q_48_5 (wq_f (ne_mD g1) (wq_if _ (fun c => ?_) (fun c => ?_)))
    · exact wq_gR H.1 rfl (rd_d H G g1 (by omega) (ih 0 _ g2 (Or.inl rfl) (fun e => absurd e (by decide))))
    · refine wq_gR H.1 rfl (rd_d H G g1 (by omega) (wq_if _ (fun c2 => ?_) (fun c2 => ?_)))
      · exact wq_gR H.1 rfl (rd_d H G g1 (by omega) (ih 1 _ g2 (Or.inr rfl) (fun _ ha => hq (h2.resolve_left c) ⟨congrArg Int32.toInt c2, ha⟩)))
      · exact wq_gR H.1 rfl (rd_d H G g1 (by omega) (ih 0 _ g2 (Or.inl rfl) (fun e => absurd e (by decide))))
theorem v_all (H : RH m σ b h) (O : OKV σ) (G : sm (QR p) σ0 σ) (hl : ∃ l, cD σ0 l v1.toInt) : wq (vc lim (d + 1) m_Ref_all [.inr (.inr (some m)), .inl v1, .inl v2] h) (rI fun x h' => h' = h ∧ ((x = 0 ∨ x = 1) ∧ (x = 1 → ∀ l, cD σ0 l v1.toInt → alP σ0 (fun k => k = v2.toInt) l v1.toInt))) := by
  obtain ⟨l, hl⟩ := hl
  exact wq_eq e_Ref_all (all_loop H G l 1 v1 hl (Or.inr rfl) (fun _ ha l' hl' => by rw [chn_fun hl' hl]; exact ha))
theorem un_fun {σ : rS} : ∀ {l l' : Nat} {c : Int}, un σ l c → un σ l' c → l = l' := by
  intro l
  induction l with
  | zero =>
    intro l' c h h'
    cases l' with
    | zero => rfl
    | succ l' => have e : c = -1 := h; have := h'.1.1; omega
  | succ l ih =>
    intro l' c h h'
    cases l' with
    | zero => have e : c = -1 := h'; have := h.1.1; omega
    | succ l' => rw [ih h.2 h'.2]
theorem il_loop (H : RH m σ b h) (G : sm (QR p) σ0 σ) {Q : Prop} : ∀ (l : Nat) (v2 v3 : Int32), un σ0 l v3.toInt → (v2 = 0 ∨ v2 = 1) → (v2 = 1 → Q) → (iL σ0 l v3.toInt → Q) → wq (ah_val lim ah_P d 53 9 [some (.inr (.inr (some m))), none, some (.inl v2), some (.inl v3)] [] h) (rI fun x h' => h' = h ∧ ((x = 0 ∨ x = 1) ∧ (x = 1 → Q))) := by
  intro l
  induction l with
  | zero =>
    intro v2 v3 hg h2 hq _
    exact wq_eq q_53_9 (wq_t (eq_m1 hg) (wq_t h2 (wq_some (rI_i ⟨rfl, h2, hq⟩))))
  | succ l ih =>
    intro v2 v3 hg h2 hq hi
    obtain ⟨g1, g2⟩ := hg
    refine wq_eq q_53_9 (wq_f (ne_mD g1) (wq_if _ (fun c => ?_) (fun c => ?_)))
    · refine wq_gR H.1 rfl (rd_d H G g1 (by omega) (wq_if _ (fun c2 => ?_) (fun c2 => ?_)))
      · exact wq_gR H.1 rfl (rd_d H G g1 (by omega) (ih 0 _ g2 (Or.inl rfl) (fun e => absurd e (by decide)) (fun z => hi (Or.inr z))))
      · refine wq_gR H.1 rfl (rd_d H G g1 (by omega) (wq_if _ (fun c3 => ?_) (fun c3 => ?_)))
        · refine wq_gR H.1 rfl (rd_d H G g1 (by omega) (ih 1 _ g2 (Or.inr rfl) (fun _ => hi (Or.inl ⟨?_, ?_⟩)) (fun z => hi (Or.inr z))))
          · exact nlt_i c2
          · exact le_i c3
        · exact wq_gR H.1 rfl (rd_d H G g1 (by omega) (ih 0 _ g2 (Or.inl rfl) (fun e => absurd e (by decide)) (fun z => hi (Or.inr z))))
    · exact wq_gR H.1 rfl (rd_d H G g1 (by omega) (ih 1 _ g2 (Or.inr rfl) (fun _ => hq (h2.resolve_left c)) (fun z => hi (Or.inr z))))
theorem v_inLoop (H : RH m σ b h) (O : OKV σ) (G : sm (QR p) σ0 σ) (hk : vD v1.toInt) (hl : ∃ l, un σ0 l ((ia σ0 13 v1.toInt.toNat).toInt)) : wq (vc lim (d + 1) m_Ref_inLoop [.inr (.inr (some m)), .inl v1] h) (rI fun x h' => h' = h ∧ ((x = 0 ∨ x = 1) ∧ (x = 1 → ∃ l, un σ0 l ((ia σ0 13 v1.toInt.toNat).toInt) ∧ iL σ0 l ((ia σ0 13 v1.toInt.toNat).toInt)))) := by
  obtain ⟨l, hl⟩ := hl
  exact wq_eq e_Ref_inLoop (wq_gR H.1 rfl (rd_d H G hk (by omega) (il_loop H G l 0 _ hl (Or.inl rfl) (fun e => absurd e (by decide)) (fun z => ⟨l, hl, z⟩))))
theorem v_objectOf (H : RH m σ b h) (O : OKV σ) (G : sm (QR p) σ0 σ) (hk : vD v1.toInt) (ho : isO ((ia σ0 8 v1.toInt.toNat).toInt)) (hr : RV σ0 v1.toInt) : wq (vc lim (d + 1) m_Ref_objectOf [.inr (.inr (some m)), .inl v1] h) (rI fun x h' => h' = h ∧ (0 ≤ x.toInt ∧ x.toInt < 10100)) := by
  refine wq_eq e_Ref_objectOf (wq_gR H.1 rfl (rd_d H G hk (by omega) (wq_if _ (fun c => ?_) (fun c => ?_))))
  · have c : (ia σ0 8 v1.toInt.toNat).toInt = 80 := congrArg Int32.toInt c
    have := hr.1 c
    exact wq_gR H.1 rfl (rd_d H G hk (by omega) (wq_some (rI_i ⟨rfl, by omega, by omega⟩)))
  · have c : ¬ (ia σ0 8 v1.toInt.toNat).toInt = 80 := fun e => c (Int32.toInt_inj.mp (e.trans rfl))
    have := hr.2 (ho.resolve_left c)
    have e : (9216 : Int32).toInt = 9216 := rfl
    have e2 : ((9216 : Int32) + ia σ0 9 v1.toInt.toNat).toInt = 9216 + (ia σ0 9 v1.toInt.toNat).toInt := by rw [ad_i (by omega) (by omega), e]
    exact wq_gR H.1 rfl (rd_d H G hk (by omega) (wq_some (rI_i ⟨rfl, by omega, by omega⟩)))
theorem v_isObject (H : RH m σ b h) (O : OKV σ) (G : sm (QR p) σ0 σ) (hc : oV v1) : wq (vc lim (d + 2) m_Ref_isObject [.inr (.inr (some m)), .inl v1, .inl v2] h) (rI fun x h' => h' = h ∧ ((x = 0 ∨ x = 1) ∧ (x = 1 → kO σ0 v1 = v2))) := by
  refine wq_eq e_Ref_isObject (wq_at H.1 (wq_cI (v_kindOf H O G hc) ?_))
  rintro y h1 ⟨rfl, rfl⟩
  exact wq_if _ (fun c => wq_t (Or.inr rfl) (wq_some (rI_i ⟨rfl, Or.inr rfl, fun _ => c⟩))) (fun c => wq_t (Or.inl rfl) (wq_some (rI_i ⟨rfl, Or.inl rfl, fun e => absurd e (by decide)⟩)))
theorem kO_k {c : Int32} {w : Int32} (h : kO σ0 c = w) (hw : ¬ w = -1) : ¬ c = -1 ∧ ia σ0 8 c.toInt.toNat = w := by
  by_cases e : c = -1
  · rw [kO, if_pos e] at h
    exact absurd h.symm hw
  · rw [kO, if_neg e] at h
    exact ⟨e, h⟩
theorem ro_tail (H : RH m σ b h) (O : OKV σ) (G : sm (QR p) σ0 σ) (hc : oV v1) (hr : vD v1.toInt → RV σ0 v1.toInt) {w : Int32} (hw : w = 80 ∨ w = 81) (he : kO σ0 v1 = w) : wq (ah_gR h (some m) 11 1 fun r5 => ah_at h (some m) 11 fun _ _ => ah_cI (vc lim (d + 2) 49 [.inr (.inr (some m)), .inl v1] h) (nx h) fun i7 h6 => ah_lI h6 r5 103 i7 fun e8 => if e8 = (1 : Int32) then if (1 : Int32) = 0 ∨ (1 : Int32) = 1 then some (.inl (some (.inl (1 : Int32))), h6) else none else if (0 : Int32) = 0 ∨ (0 : Int32) = 1 then some (.inl (some (.inl (0 : Int32))), h6) else none) (rI fun x h' => h' = h ∧ ((x = 0 ∨ x = 1) ∧ (x = 1 → isO (kO σ0 v1).toInt))) := by
  obtain ⟨k1, k2⟩ := kO_k he (by rcases hw with rfl | rfl <;> decide)
  have hv := vN_ne hc k1
  have ho : isO ((ia σ0 8 v1.toInt.toNat).toInt) := by rw [k2]; rcases hw with rfl | rfl; exact Or.inl rfl; exact Or.inr rfl
  refine wq_gR H.1 rfl (wq_at H.1 (wq_cI (v_objectOf H O G hv ho (hr hv)) ?_))
  rintro y h6 ⟨rfl, y0, y1⟩
  refine rv_0 H O y0 y1 (fun v _ _ => wq_if _ (fun c => ?_) (fun c => ?_))
  · refine wq_t (Or.inr rfl) (wq_some (rI_i ⟨rfl, Or.inr rfl, fun _ => ?_⟩))
    rw [he]
    rcases hw with rfl | rfl
    · exact Or.inl rfl
    · exact Or.inr rfl
  · exact wq_t (Or.inl rfl) (wq_some (rI_i ⟨rfl, Or.inl rfl, fun e => absurd e (by decide)⟩))
theorem v_rowObject (H : RH m σ b h) (O : OKV σ) (G : sm (QR p) σ0 σ) (hc : oV v1) (hr : vD v1.toInt → RV σ0 v1.toInt) : wq (vc lim (d + 3) m_Ref_rowObject [.inr (.inr (some m)), .inl v1] h) (rI fun x h' => h' = h ∧ ((x = 0 ∨ x = 1) ∧ (x = 1 → isO (kO σ0 v1).toInt))) := by
  refine wq_eq e_Ref_rowObject (wq_at H.1 (wq_cI (v_isObject H O G hc) ?_))
  rintro y h1 ⟨rfl, hy, hy2⟩
  refine wq_if _ (fun c => ?_) (fun c => ro_tail H O G hc hr (Or.inl rfl) (hy2 (hy.resolve_left c)))
  refine wq_at H.1 (wq_cI (v_isObject H O G hc) ?_)
  rintro y2 h2 ⟨rfl, hz, hz2⟩
  refine wq_if _ (fun c => ?_) (fun c => ro_tail H O G hc hr (Or.inr rfl) (hz2 (hz.resolve_left c)))
  exact wq_t (Or.inl rfl) (wq_some (rI_i ⟨rfl, Or.inl rfl, fun e => absurd e (by decide)⟩))
theorem v_aims (H : RH m σ b h) (O : OKV σ) (G : sm (QR p) σ0 σ) (hc : oV v1) (hk : vD v1.toInt → oV (ia σ0 11 v1.toInt.toNat)) : wq (vc lim (d + 3) m_Ref_aims [.inr (.inr (some m)), .inl v1, .inl v2] h) (rI fun x h' => h' = h ∧ ((x = 0 ∨ x = 1) ∧ (x = 1 → aM σ0 v1 v2))) := by
  have one : (kO σ0 v1 = 82 ∨ kO σ0 v1 = 83) → wq (ah_val lim ah_P (d + 2) 52 25 [some (.inr (.inr (some m))), some (.inl v1), some (.inl v2), none] [.inl (1 : Int32)] h) (rI fun x h' => h' = h ∧ ((x = 0 ∨ x = 1) ∧ (x = 1 → aM σ0 v1 v2))) := by
    intro c
    have hn : ¬ v1 = -1 := by
      rcases c with c | c
      · exact (kO_k c (by decide)).1
      · exact (kO_k c (by decide)).1
    have hv := vN_ne hc hn
    refine wq_eq q_52_25 (wq_f (by decide) (wq_gR H.1 rfl (rd_d H G hv (by omega) (wq_at H.1 (wq_cI (v_isObject H O G (hk hv)) ?_)))))
    rintro y h5 ⟨rfl, hy, hy2⟩
    exact wq_t hy (wq_some (rI_i ⟨rfl, hy, fun e => Or.inl ⟨c, hy2 e⟩⟩))
  refine wq_eq e_Ref_aims (wq_at H.1 (wq_cI (v_kindOf H O G hc) ?_))
  rintro y h1 ⟨rfl, rfl⟩
  refine wq_if _ (fun c => one (Or.inl c)) (fun c => wq_at H.1 (wq_cI (v_kindOf H O G hc) ?_))
  rintro y h1 ⟨rfl, rfl⟩
  refine wq_if _ (fun c => one (Or.inr c)) (fun c2 => ?_)
  refine wq_eq q_52_25 (wq_t rfl (wq_at H.1 (wq_cI (v_isObject H O G hc) ?_)))
  rintro y h5 ⟨rfl, hy, hy2⟩
  exact wq_t hy (wq_some (rI_i ⟨rfl, hy, fun e => Or.inr ⟨c, c2, hy2 e⟩⟩))
theorem par_i {v : Int32} (h0 : 0 ≤ v.toInt) (h1 : v.toInt ≤ 100000) : ((v - v / (2 : Int32) * (2 : Int32)) = (1 : Int32)) ↔ v.toInt % 2 = 1 := by
  have e2 : (2 : Int32).toInt = 2 := rfl
  have ed : (v / (2 : Int32)).toInt = v.toInt / 2 := by
    rw [Int32.toInt_div, e2, Int.tdiv_eq_ediv_of_nonneg h0]
    exact Int.bmod_eq_of_le (by omega) (by omega)
  have em : (v / (2 : Int32) * (2 : Int32)).toInt = v.toInt / 2 * 2 := by rw [ml_i (by rw [ed, e2]; omega) (by rw [ed, e2]; omega), ed, e2]
  have es : (v - v / (2 : Int32) * (2 : Int32)).toInt = v.toInt - v.toInt / 2 * 2 := by rw [sb_i (by omega) (by omega), em]
  have e1 : (1 : Int32).toInt = 1 := rfl
  constructor
  · intro h
    have := congrArg Int32.toInt h
    omega
  · intro h
    apply Int32.toInt_inj.mp
    omega
theorem rb_loop (H : RH m σ b h) (O : OKV σ) (G : sm (QR p) σ0 σ) {C : Int → Prop} (hb : ∀ c : Int, C c → ∃ l, cD σ0 l ((ia σ0 11 c.toNat).toInt)) {Q : Prop} : ∀ (l : Nat) (v2 v3 v4 : Int32), chD σ0 C l v4.toInt → (v2 = 0 ∨ v2 = 1) → 0 ≤ v3.toInt → v3.toInt + l ≤ 50000 → (v2 = 1 → rbF σ0 l (v3.toInt % 2 == 1) v4.toInt → Q) → wq (ah_val lim ah_P (d + 2) 58 12 [some (.inr (.inr (some m))), none, some (.inl v2), some (.inl v3), some (.inl v4), none] [] h) (rI fun x h' => h' = h ∧ ((x = 0 ∨ x = 1) ∧ (x = 1 → Q))) := by
  intro l
  induction l with
  | zero =>
    intro v2 v3 v4 hg h2 _ _ hq
    exact wq_eq q_58_12 (wq_t (eq_m1 hg) (wq_t h2 (wq_some (rI_i ⟨rfl, h2, fun e => hq e trivial⟩))))
  | succ l ih =>
    intro v2 v3 v4 hg h2 h3 h3' hq
    obtain ⟨g1, gC, g2⟩ := hg
    have e1 : (1 : Int32).toInt = 1 := rfl
    have e3 : (v3 + (1 : Int32)).toInt = v3.toInt + 1 := by rw [ad_i (by omega) (by omega), e1]
    have z81 : wq (ah_val lim ah_P (d + 2) 58 81 [some (.inr (.inr (some m))), none, none, some (.inl v3), some (.inl v4), none] [] h) (rI fun x h' => h' = h ∧ ((x = 0 ∨ x = 1) ∧ (x = 1 → Q))) := wq_eq q_58_81 (wq_gR H.1 rfl (rd_d H G g1 (by omega) (ih 0 _ _ g2 (Or.inl rfl) (by omega) (by omega) (fun e => absurd e (by decide)))))
    have par : (!(v3.toInt % 2 == 1)) = ((v3 + (1 : Int32)).toInt % 2 == 1) := by
      rw [e3]
      by_cases c : v3.toInt % 2 = 1
      · have : ¬ (v3.toInt + 1) % 2 = 1 := by omega
        simp [c, this]
      · have : (v3.toInt + 1) % 2 = 1 := by omega
        simp [c, this]
    have bod : ((v3.toInt % 2 == 1) = true ∨ (ia σ0 12 v4.toInt.toNat).toInt = -1) → wq (ah_val lim ah_P (d + 2) 58 41 [some (.inr (.inr (some m))), none, some (.inl v2), some (.inl v3), some (.inl v4), none] [.inl (1 : Int32)] h) (rI fun x h' => h' = h ∧ ((x = 0 ∨ x = 1) ∧ (x = 1 → Q))) := by
      intro hi
      refine wq_eq q_58_41 (wq_if _ (fun c => z81) (fun c => wq_f (by decide) (wq_at H.1 (wq_cI (v_body H O G (Or.inr g1) (fun _ => hb _ gC)) ?_))))
      rintro y h7 ⟨rfl, hy, hy2⟩
      refine wq_if _ (fun c => z81) (fun c2 => ?_)
      refine wq_gR H.1 rfl (rd_d H G g1 (by omega) (ih 1 _ _ g2 (Or.inr rfl) (by omega) (by omega) (fun _ ha => hq (h2.resolve_left c) ⟨fun _ => hy2 (hy.resolve_left c2), fun n => absurd hi n, ?_⟩)))
      rw [par]
      exact ha
    refine wq_eq q_58_12 (wq_f (ne_mD g1) (wq_f (by decide) (wq_if _ (fun c => ?_) (fun c => ?_))))
    · exact bod (Or.inl (by rw [(par_i h3 (by omega)).mp c]; rfl))
    · have hc : ¬ v3.toInt % 2 = 1 := fun e => c ((par_i h3 (by omega)).mpr e)
      refine wq_gR H.1 rfl (rd_d H G g1 (by omega) (wq_if _ (fun c2 => ?_) (fun c2 => ?_)))
      · exact bod (Or.inr (by rw [c2, li_m1]))
      · have hn : ¬ ((v3.toInt % 2 == 1) = true ∨ (ia σ0 12 v4.toInt.toNat).toInt = -1) := by
          rintro (z | z)
          · exact hc (by simpa using z)
          · exact c2 (eq_m1 z)
        refine wq_eq q_58_41 (wq_if _ (fun c => z81) (fun c => wq_t rfl (wq_gR H.1 rfl (rd_d H G g1 (by omega) (wq_cI v_expression ?_)))))
        rintro y h7 ⟨rfl, hy, hy2, -⟩
        refine wq_if _ (fun c => z81) (fun c2 => ?_)
        refine wq_gR H.1 rfl (rd_d H G g1 (by omega) (ih 1 _ _ g2 (Or.inr rfl) (by omega) (by omega) (fun _ ha => hq (h2.resolve_left c) ⟨fun n => absurd n hn, fun _ => hy2 (hy.resolve_left c2), ?_⟩)))
        rw [par]
        exact ha
theorem v_rightBranch (H : RH m σ b h) (O : OKV σ) (G : sm (QR p) σ0 σ) (hk : vD v1.toInt) {C : Int → Prop} (hb : ∀ c : Int, C c → ∃ l, cD σ0 l ((ia σ0 11 c.toNat).toInt)) {l : Nat} (hl : chD σ0 C l ((ia σ0 11 v1.toInt.toNat).toInt)) (h4 : l ≤ 4000) : wq (vc lim (d + 3) m_Ref_rightBranch [.inr (.inr (some m)), .inl v1] h) (rI fun x h' => h' = h ∧ ((x = 0 ∨ x = 1) ∧ (x = 1 → rbF σ0 l false ((ia σ0 11 v1.toInt.toNat).toInt)))) :=
  wq_eq e_Ref_rightBranch (wq_gR H.1 rfl (rd_d H G hk (by omega) (rb_loop H O G hb l 1 0 _ hl (Or.inr rfl) (by decide) (by show (0 : Int) + _ ≤ _; omega) (fun _ ha => ha))))
end Dr
