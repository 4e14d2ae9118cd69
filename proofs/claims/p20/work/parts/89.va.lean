/-! THE REFERENCE'S VALUES, exactly: registers, codes -/
def cLow (v : Int32) : Bool := decide (v = 2 ∨ v = 6)
def cHigh (v : Int32) : Bool := decide (v = 3 ∨ v = 7)
def cNot (v : Int32) : Int32 := if v = 0 then 0 else if cLow v then 3 else if cHigh v then 2 else 1
def cJn (o x y : Int32) : Int32 := if (o = 0 ∨ o = 2) ∧ (cLow x = true ∨ cLow y = true) then 2 else if (o = 1 ∨ o = 3) ∧ (cHigh x = true ∨ cHigh y = true) then 3 else if x = 0 ∨ y = 0 then 0 else if (cLow x = false ∧ cHigh x = false) ∨ (cLow y = false ∧ cHigh y = false) then 1 else if o = 0 ∨ o = 2 then 3 else if o = 1 ∨ o = 3 then 2 else if cHigh x = cHigh y then 2 else 3
def cJoin (o x y : Int32) : Int32 := if o = 2 ∨ o = 3 ∨ o = 5 then cNot (cJn o x y) else cJn o x y
abbrev sNum (σ : rS) (r : Nat) (n : Int64) : rS := sJ (sI (sI σ 0 r 2) 1 r 0) 4 r n
abbrev sLog (σ : rS) (r : Nat) (c : Int32) : rS := sJ (sI (sI σ 0 r 0) 1 r 0) 4 r c.toInt64
abbrev sRow (σ : rS) (r : Nat) (n : Int32) : rS := sJ (sI (sI σ 0 r 1) 1 r n) 4 r 0
/-- elements of r below n are g's -/
def setE (σ : rS) (r n : Nat) (g : Nat → Int32) : rS := (σ.1, σ.2.1, fun j i => if j = 5 ∧ 64 * r ≤ i ∧ i < 64 * r + n then g (i - 64 * r) else σ.2.2.1 j i, σ.2.2.2)
theorem rS_ext {σ τ : rS} (h1 : ∀ k, σ.1 k = τ.1 k) (h2 : ∀ k, σ.2.1 k = τ.2.1 k) (h3 : ∀ j i, σ.2.2.1 j i = τ.2.2.1 j i) (h4 : ∀ j i, σ.2.2.2 j i = τ.2.2.2 j i) : σ = τ := by
  obtain ⟨a, b, c, e⟩ := σ
  obtain ⟨a', b', c', e'⟩ := τ
  simp only at h1 h2 h3 h4
  rw [show a = a' from funext h1, show b = b' from funext h2, show c = c' from funext fun j => funext (h3 j), show e = e' from funext fun j => funext (h4 j)]
section Va
variable {lim : Nat × Nat} {d m r s n : Nat} {σ : rS} {b h : ah_H} {R S k v f : Int32} {g : Nat → Int32} {z : Int64}
theorem setE_0 : setE σ r 0 g = σ := rS_ext (fun _ => rfl) (fun _ => rfl) (fun j i => if_neg (by omega)) (fun _ _ => rfl)
theorem setE_s : sI (setE σ r n g) 5 (64 * r + n) (g n) = setE σ r (n + 1) g := by
  refine rS_ext (fun _ => rfl) (fun _ => rfl) (fun j i => ?_) (fun _ _ => rfl)
  show (if j = 5 ∧ i = 64 * r + n then g n else if j = 5 ∧ 64 * r ≤ i ∧ i < 64 * r + n then g (i - 64 * r) else σ.2.2.1 j i) = if j = 5 ∧ 64 * r ≤ i ∧ i < 64 * r + (n + 1) then g (i - 64 * r) else σ.2.2.1 j i
  by_cases c : j = 5 ∧ i = 64 * r + n
  · rw [if_pos c, if_pos (by omega), show i - 64 * r = n by omega]
  · rw [if_neg c]
    by_cases c2 : j = 5 ∧ 64 * r ≤ i ∧ i < 64 * r + n
    · rw [if_pos c2, if_pos (by omega)]
    · rw [if_neg c2, if_neg (by omega)]
theorem setE_j {j i : Nat} (hj : j ≠ 5) : ia (setE σ r n g) j i = ia σ j i := if_neg (fun q => hj q.1)
theorem setE_e {q : Nat} (hq : q < n) : ia (setE σ r n g) 5 (64 * r + q) = g q := (if_pos ⟨rfl, by omega, by omega⟩).trans (congrArg g (by omega))
theorem setE_n {i : Nat} (hq : i < 64 * r ∨ 64 * r + n ≤ i) : ia (setE σ r n g) 5 i = ia σ 5 i := if_neg (by omega)
theorem ix64 (hR : R.toInt = r) (hr : r < 10100) (h0 : 0 ≤ k.toInt) (h1 : k.toInt < 64) : ((64 : Int32) * R + k).toInt = 64 * r + k.toInt := by
  have e64 : (64 : Int32).toInt = 64 := rfl
  have e1 : ((64 : Int32) * R).toInt = 64 * r := by rw [ml_c e64 (by omega) (by omega), hR]
  rw [ad_i (by omega) (by omega), e1]
theorem b88 (h0 : 0 ≤ v.toInt) (h1 : v.toInt ≤ 127) : v.toInt8.toInt32.toInt8.toInt32 = v := by rw [b8_i h0 h1, b8_i h0 h1]
theorem r_element (H : RH m σ b h) (hR : R.toInt = r) (hr : r < 10100) (h0 : 0 ≤ k.toInt) (h1 : k.toInt < 64) : wq (vc lim (d + 1) m_Ref_element [aR m, aI R, aI k] h) (rI fun x h' => h' = h ∧ x = ia σ 5 (64 * r + k.toInt.toNat)) := by
  have e := ix64 hR hr h0 h1
  have L : (rn 5 : Int) = 646400 := rfl
  refine wq_eq e_Ref_element (wq_gR H.1 rfl (ra_I H (j := 5) (by omega) rfl rfl (by omega) (by rw [L]; omega) (wq_some (rI_i ⟨rfl, ?_⟩))))
  rw [e, show (64 * (r : Int) + k.toInt).toNat = 64 * r + k.toInt.toNat by omega]
theorem r_setElement (H : RH m σ b h) (hR : R.toInt = r) (hr : r < 10100) (h0 : 0 ≤ k.toInt) (h1 : k.toInt < 64) (v0 : 0 ≤ v.toInt) (v1 : v.toInt ≤ 127) : wq (vc lim (d + 1) m_Ref_setElement [aR m, aI R, aI k, aI v] h) (rV fun h' => RH m (sI σ 5 (64 * r + k.toInt.toNat) v) b h') := by
  have e := ix64 hR hr h0 h1
  have L : (rn 5 : Int) = 646400 := rfl
  refine wq_eq e_Ref_setElement (wq_gR H.1 rfl ?_)
  rw [b88 v0 v1]
  refine rs_I H (j := 5) (by omega) rfl rfl (by omega) (by rw [L]; omega) (fun h' H' => wq_some (rV_i ?_))
  rw [e, show (64 * (r : Int) + k.toInt).toNat = 64 * r + k.toInt.toNat by omega] at H'
  exact H'
theorem r_fail (H : RH m σ b h) : wq (vc lim (d + 1) m_Ref_fail [aR m, aI f, aI v] h) (rI fun x h' => x = 0 ∧ RH m (sG (sG σ 41 f) 42 v) b h') := wq_eq e_Ref_fail (rw_I H (by omega) rfl (fun h1 H1 => rw_I H1 (by omega) rfl (fun h2 H2 => wq_t (by decide) (wq_some (rI_i ⟨rfl, H2⟩)))))
theorem r_numeral (H : RH m σ b h) (hR : R.toInt = r) (hr : r < 10100) : wq (vc lim (d + 1) m_Ref_numeral [aR m, aI R, aJ z] h) (rI fun x h' => x = 1 ∧ RH m (sNum σ r z) b h') := by
  have e : R.toInt.toNat = r := by omega
  refine wq_eq e_Ref_numeral (wq_gR H.1 rfl (rs_I H (j := 0) (by omega) rfl rfl (by omega) (by show R.toInt < (10100 : Int); omega) (fun h1 H1 => wq_gR H1.1 rfl (rs_I H1 (j := 1) (by omega) rfl rfl (by omega) (by show R.toInt < (10100 : Int); omega) (fun h2 H2 => wq_gR H2.1 rfl (rs_J H2 (j := 4) (by omega) rfl (by omega) (by show R.toInt < (10100 : Int); omega) (fun h3 H3 => wq_t (by decide) (wq_some (rI_i ⟨rfl, ?_⟩)))))))))
  rw [e] at H3
  exact H3
theorem r_logic (H : RH m σ b h) (hR : R.toInt = r) (hr : r < 10100) : wq (vc lim (d + 1) m_Ref_logic [aR m, aI R, aI v] h) (rI fun x h' => x = 1 ∧ RH m (sLog σ r v) b h') := by
  have e : R.toInt.toNat = r := by omega
  refine wq_eq e_Ref_logic (wq_gR H.1 rfl (rs_I H (j := 0) (by omega) rfl rfl (by omega) (by show R.toInt < (10100 : Int); omega) (fun h1 H1 => wq_gR H1.1 rfl (rs_I H1 (j := 1) (by omega) rfl rfl (by omega) (by show R.toInt < (10100 : Int); omega) (fun h2 H2 => wq_gR H2.1 rfl (rs_J H2 (j := 4) (by omega) rfl (by omega) (by show R.toInt < (10100 : Int); omega) (fun h3 H3 => wq_t (by decide) (wq_some (rI_i ⟨rfl, ?_⟩)))))))))
  rw [e] at H3
  exact H3
theorem r_row (H : RH m σ b h) (hR : R.toInt = r) (hr : r < 10100) (v0 : 0 ≤ v.toInt) (v1 : v.toInt ≤ 127) : wq (vc lim (d + 1) m_Ref_row [aR m, aI R, aI v] h) (rV fun h' => RH m (sRow σ r v) b h') := by
  have e : R.toInt.toNat = r := by omega
  refine wq_eq e_Ref_row ?_
  rw [b88 v0 v1]
  refine wq_gR H.1 rfl (rs_I H (j := 0) (by omega) rfl rfl (by omega) (by show R.toInt < (10100 : Int); omega) (fun h1 H1 => wq_gR H1.1 rfl (rs_I H1 (j := 1) (by omega) rfl rfl (by omega) (by show R.toInt < (10100 : Int); omega) (fun h2 H2 => wq_gR H2.1 rfl (rs_J H2 (j := 4) (by omega) rfl (by omega) (by show R.toInt < (10100 : Int); omega) (fun h3 H3 => wq_some (rV_i ?_)))))))
  rw [e] at H3
  exact H3
theorem ps_I {P : Int32 → ah_H → Prop} {q : Option ah_R} (k : wq q (rI P)) (hp : ∀ x h, P x h → x = 0 ∨ x = 1) : wq (ah_cI q (nx h) fun i h1 => if i = 0 ∨ i = 1 then some (.inl (some (.inl i)), h1) else none) (rI P) := wq_cI k fun x h1 p => wq_t (hp x h1 p) (wq_some (rI_i p))
theorem r_truth {t : Bool} (H : RH m σ b h) (hR : R.toInt = r) (hr : r < 10100) : wq (vc lim (d + 2) m_Ref_truth [aR m, aI R, aI (bI t)] h) (rI fun x h' => x = 1 ∧ RH m (sNum σ r (if t then 1 else 0)) b h') := by
  refine wq_eq e_Ref_truth ?_
  cases t with
  | false => exact wq_t rfl (wq_at H.1 (ps_I (r_numeral H hR hr) (fun x h p => Or.inr p.1)))
  | true => exact wq_f (by decide) (wq_at H.1 (ps_I (r_numeral H hR hr) (fun x h p => Or.inr p.1)))
theorem r_isLow : wq (vc lim (d + 1) m_Ref_isLow [aI v] h) (rI fun x h' => h' = h ∧ x = bI (cLow v)) := by
  refine wq_eq e_Ref_isLow (wq_if _ (fun c => ?_) (fun c => wq_if _ (fun c1 => ?_) (fun c1 => ?_)))
  · exact wq_t (by decide) (wq_some (rI_i ⟨rfl, by rw [show cLow v = true from decide_eq_true (Or.inl c)]; rfl⟩))
  · exact wq_t (by decide) (wq_some (rI_i ⟨rfl, by rw [show cLow v = true from decide_eq_true (Or.inr c1)]; rfl⟩))
  · exact wq_t (by decide) (wq_some (rI_i ⟨rfl, by rw [show cLow v = false from decide_eq_false (fun q => q.elim c c1)]; rfl⟩))
theorem r_isHigh : wq (vc lim (d + 1) m_Ref_isHigh [aI v] h) (rI fun x h' => h' = h ∧ x = bI (cHigh v)) := by
  refine wq_eq e_Ref_isHigh (wq_if _ (fun c => ?_) (fun c => wq_if _ (fun c1 => ?_) (fun c1 => ?_)))
  · exact wq_t (by decide) (wq_some (rI_i ⟨rfl, by rw [show cHigh v = true from decide_eq_true (Or.inl c)]; rfl⟩))
  · exact wq_t (by decide) (wq_some (rI_i ⟨rfl, by rw [show cHigh v = true from decide_eq_true (Or.inr c1)]; rfl⟩))
  · exact wq_t (by decide) (wq_some (rI_i ⟨rfl, by rw [show cHigh v = false from decide_eq_false (fun q => q.elim c c1)]; rfl⟩))
theorem r_not : wq (vc lim (d + 2) m_Ref_not [aI v] h) (rI fun x h' => h' = h ∧ x = cNot v) := by
  refine wq_eq e_Ref_not (wq_if _ (fun c => wq_some (rI_i ⟨rfl, (if_pos c).symm⟩)) (fun c => wq_cI r_isLow ?_))
  rintro _ _ ⟨rfl, rfl⟩
  cases h1 : cLow v with
  | true => exact wq_f (by decide) (wq_some (rI_i ⟨rfl, by simp [cNot, c, h1]⟩))
  | false =>
    refine wq_t rfl (wq_cI r_isHigh ?_)
    rintro _ _ ⟨rfl, rfl⟩
    cases h2 : cHigh v with
    | true => exact wq_f (by decide) (wq_some (rI_i ⟨rfl, by simp [cNot, c, h1, h2]⟩))
    | false => exact wq_t rfl (wq_some (rI_i ⟨rfl, by simp [cNot, c, h1, h2]⟩))
end Va
section Vj
variable {lim : Nat × Nat} {d : Nat} {h : ah_H} {o x y w : Int32}
theorem q80_168 (e : cJoin o x y = if o = 2 ∨ o = 3 ∨ o = 5 then cNot w else w) : wq (ah_val lim ah_P (d + 2) 80 168 [some (aI o), none, none, none, none, some (aI w)] [] h) (rI fun z h' => h' = h ∧ z = cJoin o x y) := by
  rw [e]
  have N : (o = 2 ∨ o = 3 ∨ o = 5) → wq (ah_cI (vc lim (d + 2) 70 [aI w] h) (nx h) fun i2 h1 => some (.inl (some (.inl i2)), h1)) (rI fun z h' => h' = h ∧ z = if o = 2 ∨ o = 3 ∨ o = 5 then cNot w else w) := fun c => by
    rw [if_pos c]
    exact wq_cI r_not fun _ _ p => wq_some (rI_i p)
  refine wq_eq q_80_168 (wq_if _ (fun c => N (Or.inl c)) (fun c => wq_if _ (fun c1 => N (Or.inr (Or.inl c1))) (fun c1 => wq_if _ (fun c2 => N (Or.inr (Or.inr c2))) (fun c2 => wq_some (rI_i ⟨rfl, ?_⟩)))))
  rw [if_neg (fun q => by rcases q with q | q | q <;> contradiction)]
theorem jn_of (e : cJn o x y = w) : cJoin o x y = if o = 2 ∨ o = 3 ∨ o = 5 then cNot w else w := by rw [cJoin, e]
theorem q80_129 {p q : Bool} (hp : p = decide (o = 0 ∨ o = 2)) (hq : q = decide (o = 1 ∨ o = 3)) (hA : ¬ ((o = 0 ∨ o = 2) ∧ (cLow x = true ∨ cLow y = true))) (hO : ¬ ((o = 1 ∨ o = 3) ∧ (cHigh x = true ∨ cHigh y = true))) (h0 : ¬ (x = 0 ∨ y = 0)) (hk : ¬ ((cLow x = false ∧ cHigh x = false) ∨ (cLow y = false ∧ cHigh y = false))) : wq (ah_val lim ah_P (d + 2) 80 129 [some (aI o), some (aI x), some (aI y), some (aI (bI p)), some (aI (bI q)), none] [] h) (rI fun z h' => h' = h ∧ z = cJoin o x y) := by
  have B : cJn o x y = if o = 0 ∨ o = 2 then 3 else if o = 1 ∨ o = 3 then 2 else if cHigh x = cHigh y then 2 else 3 := by rw [cJn, if_neg hA, if_neg hO, if_neg h0, if_neg hk]
  refine wq_eq q_80_129 ?_
  cases p with
  | true => exact wq_f (by decide) (q80_168 (jn_of (by rw [B, if_pos (of_decide_eq_true hp.symm)])))
  | false =>
    have hp := of_decide_eq_false hp.symm
    cases q with
    | true => exact wq_t rfl (wq_f (by decide) (q80_168 (jn_of (by rw [B, if_neg hp, if_pos (of_decide_eq_true hq.symm)]))))
    | false =>
      have hq := of_decide_eq_false hq.symm
      refine wq_t rfl (wq_t rfl (wq_cI r_isHigh ?_))
      rintro _ _ ⟨rfl, rfl⟩
      refine wq_cI r_isHigh ?_
      rintro _ _ ⟨rfl, rfl⟩
      simp only [show ∀ a c : Bool, (bI a = bI c) = (a = c) from fun a c => propext (by revert a c; decide)]
      refine wq_if _ (fun c => ?_) (fun c => ?_)
      · exact q80_168 (jn_of (by rw [B, if_neg hp, if_neg hq, if_pos c]))
      · exact q80_168 (jn_of (by rw [B, if_neg hp, if_neg hq, if_neg c]))
theorem q80_81 {p q : Bool} (hp : p = decide (o = 0 ∨ o = 2)) (hq : q = decide (o = 1 ∨ o = 3)) (hA : ¬ ((o = 0 ∨ o = 2) ∧ (cLow x = true ∨ cLow y = true))) (hO : ¬ ((o = 1 ∨ o = 3) ∧ (cHigh x = true ∨ cHigh y = true))) : wq (ah_val lim ah_P (d + 2) 80 81 [some (aI o), some (aI x), some (aI y), some (aI (bI p)), some (aI (bI q)), none] [] h) (rI fun z h' => h' = h ∧ z = cJoin o x y) := by
  have B : cJn o x y = if x = 0 ∨ y = 0 then 0 else if (cLow x = false ∧ cHigh x = false) ∨ (cLow y = false ∧ cHigh y = false) then 1 else if o = 0 ∨ o = 2 then 3 else if o = 1 ∨ o = 3 then 2 else if cHigh x = cHigh y then 2 else 3 := by rw [cJn, if_neg hA, if_neg hO]
  refine wq_eq q_80_81 (wq_if _ (fun c => ?_) (fun c => wq_if _ (fun c1 => ?_) (fun c1 => ?_)))
  · exact q80_168 (jn_of (by rw [B, if_pos (Or.inl c)]))
  · exact q80_168 (jn_of (by rw [B, if_pos (Or.inr c1)]))
  have h0 : ¬ (x = 0 ∨ y = 0) := fun q => q.elim c c1
  have X : ((cLow x = false ∧ cHigh x = false) ∨ (cLow y = false ∧ cHigh y = false)) → wq (ah_val lim ah_P (d + 2) 80 168 [some (aI o), none, none, none, none, some (aI 1)] [] h) (rI fun z h' => h' = h ∧ z = cJoin o x y) := fun k => q80_168 (jn_of (by rw [B, if_neg h0, if_pos k]))
  have Y : ¬ ((cLow x = false ∧ cHigh x = false) ∨ (cLow y = false ∧ cHigh y = false)) → wq (ah_val lim ah_P (d + 2) 80 129 [some (aI o), some (aI x), some (aI y), some (aI (bI p)), some (aI (bI q)), none] [] h) (rI fun z h' => h' = h ∧ z = cJoin o x y) := fun k => q80_129 hp hq hA hO h0 k
  have Z : ¬ (cLow x = false ∧ cHigh x = false) → wq (ah_cI (vc lim (d + 2) 68 [aI y] h) (nx h) fun i10 h9 => if i10 = 0 then ah_cI (vc lim (d + 2) 69 [aI y] h9) (nx h9) fun i12 h11 => if i12 = 0 then ah_val lim ah_P (d + 2) 80 168 [some (aI o), none, none, none, none, some (aI 1)] [] h11 else ah_val lim ah_P (d + 2) 80 129 [some (aI o), some (aI x), some (aI y), some (aI (bI p)), some (aI (bI q)), none] [] h11 else ah_val lim ah_P (d + 2) 80 129 [some (aI o), some (aI x), some (aI y), some (aI (bI p)), some (aI (bI q)), none] [] h9) (rI fun z h' => h' = h ∧ z = cJoin o x y) := fun k => by
    refine wq_cI r_isLow ?_
    rintro _ _ ⟨rfl, rfl⟩
    cases l3 : cLow y with
    | true => exact wq_f (by decide) (Y (fun q => q.elim k (fun q => by rw [l3] at q; cases q.1)))
    | false =>
      refine wq_t rfl (wq_cI r_isHigh ?_)
      rintro _ _ ⟨rfl, rfl⟩
      cases l4 : cHigh y with
      | true => exact wq_f (by decide) (Y (fun q => q.elim k (fun q => by rw [l4] at q; cases q.2)))
      | false => exact wq_t rfl (X (Or.inr ⟨l3, l4⟩))
  refine wq_cI r_isLow ?_
  rintro _ _ ⟨rfl, rfl⟩
  cases l1 : cLow x with
  | true => exact wq_f (by decide) (Z (fun q => by rw [l1] at q; cases q.1))
  | false =>
    refine wq_t rfl (wq_cI r_isHigh ?_)
    rintro _ _ ⟨rfl, rfl⟩
    cases l2 : cHigh x with
    | false => exact wq_t rfl (X (Or.inl ⟨l1, l2⟩))
    | true => exact wq_f (by decide) (Z (fun q => by rw [l2] at q; cases q.2))
theorem q80_30 {p q : Bool} (hp : p = decide (o = 0 ∨ o = 2)) (hq : q = decide (o = 1 ∨ o = 3)) : wq (ah_val lim ah_P (d + 2) 80 30 [some (aI o), some (aI x), some (aI y), some (aI (bI p)), none, none] [aI (bI q)] h) (rI fun z h' => h' = h ∧ z = cJoin o x y) := by
  refine wq_eq q_80_30 ?_
  cases p with
  | false =>
    have np := of_decide_eq_false hp.symm
    refine wq_t rfl ?_
    cases q with
    | false =>
      have nq := of_decide_eq_false hq.symm
      exact wq_t rfl (q80_81 (p := false) (q := false) hp hq (fun e => np e.1) (fun e => nq e.1))
    | true =>
      have yq := of_decide_eq_true hq.symm
      refine wq_f (by decide) (wq_cI r_isHigh ?_)
      rintro _ _ ⟨rfl, rfl⟩
      cases l1 : cHigh x with
      | true => exact wq_f (by decide) (q80_168 (jn_of (by rw [cJn, if_neg (fun e => np e.1), if_pos ⟨yq, Or.inl l1⟩])))
      | false =>
        refine wq_t rfl (wq_cI r_isHigh ?_)
        rintro _ _ ⟨rfl, rfl⟩
        cases l2 : cHigh y with
        | true => exact wq_f (by decide) (q80_168 (jn_of (by rw [cJn, if_neg (fun e => np e.1), if_pos ⟨yq, Or.inr l2⟩])))
        | false => exact wq_t rfl (q80_81 (p := false) (q := true) hp hq (fun e => np e.1) (fun e => e.2.elim (fun e => by rw [l1] at e; cases e) (fun e => by rw [l2] at e; cases e)))
  | true =>
    have yp := of_decide_eq_true hp.symm
    have hq0 : q = false := by
      rw [hq]
      refine decide_eq_false (fun e => ?_)
      rcases yp with e1 | e1 <;> rcases e with e | e <;> (rw [e1] at e; exact absurd e (by decide))
    subst hq0
    have nq := of_decide_eq_false hq.symm
    refine wq_f (by decide) (wq_cI r_isLow ?_)
    rintro _ _ ⟨rfl, rfl⟩
    cases l1 : cLow x with
    | true => exact wq_f (by decide) (q80_168 (jn_of (by rw [cJn, if_pos ⟨yp, Or.inl l1⟩])))
    | false =>
      refine wq_t rfl (wq_cI r_isLow ?_)
      rintro _ _ ⟨rfl, rfl⟩
      cases l2 : cLow y with
      | true => exact wq_f (by decide) (q80_168 (jn_of (by rw [cJn, if_pos ⟨yp, Or.inr l2⟩])))
      | false => exact wq_t rfl (wq_t rfl (q80_81 (p := true) (q := false) hp hq (fun e => e.2.elim (fun e => by rw [l1] at e; cases e) (fun e => by rw [l2] at e; cases e)) (fun e => nq e.1)))
theorem r_join : wq (vc lim (d + 3) m_Ref_join [aI o, aI x, aI y] h) (rI fun z h' => h' = h ∧ z = cJoin o x y) := by
  have K : ∀ (p q : Bool), (p = true ↔ (o = 0 ∨ o = 2)) → (q = true ↔ (o = 1 ∨ o = 3)) → wq (ah_val lim ah_P (d + 2) 80 30 [some (aI o), some (aI x), some (aI y), some (aI (bI p)), none, none] [aI (bI q)] h) (rI fun z h' => h' = h ∧ z = cJoin o x y) := fun p q hp hq => q80_30 (by cases p <;> simp_all) (by cases q <;> simp_all)
  refine wq_eq e_Ref_join (wq_if _ (fun c => ?_) (fun c => wq_if _ (fun c1 => ?_) (fun c1 => wq_if _ (fun c2 => ?_) (fun c2 => wq_if _ (fun c3 => ?_) (fun c3 => ?_)))))
  · subst c
    exact wq_f (by decide) (wq_f (by decide) (K true false (by simp) (by simp)))
  · subst c1
    exact wq_f (by decide) (wq_f (by decide) (K true false (by simp) (by simp)))
  · subst c2
    exact K false true (by simp) (by simp)
  · subst c3
    exact K false true (by simp) (by simp)
  · exact K false false (by simp [c, c1]) (by simp [c2, c3])
end Vj
