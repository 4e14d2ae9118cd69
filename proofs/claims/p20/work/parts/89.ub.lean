/-! VALUES, as the class keeps them -/
/-- what it is, length, number, four rows of bits -/
abbrev WD : Type := Int32 × Int32 × Int64 × Int64 × Int64 × Int64 × Int64
abbrev wI (w : WD) : Int32 := w.1
abbrev wL (w : WD) : Int32 := w.2.1
abbrev wN (w : WD) : Int64 := w.2.2.1
abbrev w0 (w : WD) : Int64 := w.2.2.2.1
abbrev w1 (w : WD) : Int64 := w.2.2.2.2.1
abbrev w2 (w : WD) : Int64 := w.2.2.2.2.2.1
abbrev w3 (w : WD) : Int64 := w.2.2.2.2.2.2
abbrev dW (w : WD) : List AV := [aI (wI w), aI (wL w), aJ (wN w), aJ (w0 w), aJ (w1 w), aJ (w2 w), aJ (w3 w)]
/-- the cell a has become w, nothing else has changed -/
def U1 (a : Nat) (w : WD) (h h' : ah_H) : Prop := h'.1 a = some (1, dW w) ∧ (∀ q, q ≠ a → h'.1 q = h.1 q) ∧ h'.2.1 = h.2.1 ∧ h'.2.2.1 = h.2.2.1
def pHold (i l : Int32) (c0 c1 c2 c3 : Int64) : WD := (i, l, 0, c0 &&& mkL l, c1 &&& mkL l, c2 &&& mkL l, c3 &&& mkL l)
def pNum (n : Int64) : WD := (2, 1, n, 0, 0, 0, 0)
/-- shifts, as the machine does them -/
abbrev shl (x : Int64) (n : Int32) : Int64 := x <<< (n.toInt64 &&& 63)
abbrev shr (x : Int64) (n : Int32) : Int64 := (x.toUInt64 >>> (n.toInt64.toUInt64 &&& Int64.toUInt64 63)).toInt64
abbrev sri (x n : Int32) : Int32 := x >>> (n &&& 31)
def pLogic (c : Int32) : WD := pHold 0 1 c.toInt64 (sri c 1).toInt64 (sri c 2).toInt64 (sri c 3).toInt64
def pPart (w : WD) (i f l : Int32) : WD := pHold i l (shr (w0 w) f) (shr (w1 w) f) (shr (w2 w) f) (shr (w3 w) f)
def pOver (w p : WD) (f : Int32) : WD := pHold (wI w) (wL w) ((w0 w &&& (shl (mkL (wL p)) f ^^^ (-1))) ||| shl (w0 p) f) ((w1 w &&& (shl (mkL (wL p)) f ^^^ (-1))) ||| shl (w1 p) f) ((w2 w &&& (shl (mkL (wL p)) f ^^^ (-1))) ||| shl (w2 p) f) ((w3 w &&& (shl (mkL (wL p)) f ^^^ (-1))) ||| shl (w3 p) f)
def pChange (w : WD) (k to : Int32) : WD := if wI w = 2 then (wI w, wL w, to.toInt64, w0 w, w1 w, w2 w, w3 w) else pHold (wI w) (wL w) ((w0 w &&& (shl 1 k ^^^ (-1))) ||| shl (to.toInt64 &&& 1) k) ((w1 w &&& (shl 1 k ^^^ (-1))) ||| shl ((sri to 1).toInt64 &&& 1) k) ((w2 w &&& (shl 1 k ^^^ (-1))) ||| shl ((sri to 2).toInt64 &&& 1) k) ((w3 w &&& (shl 1 k ^^^ (-1))) ||| shl ((sri to 3).toInt64 &&& 1) k)
def pElem (w : WD) (k : Int32) : Int32 := if wI w = 2 then (wN w).toInt32 else ((((shr (w0 w) k &&& 1) ||| shl (shr (w1 w) k &&& 1) 1) ||| shl (shr (w2 w) k &&& 1) 2) ||| shl (shr (w3 w) k &&& 1) 3).toInt32
def pZeros (w : WD) : Int64 := w1 w &&& (w0 w ^^^ (-1))
def pOnes (w : WD) : Int64 := w1 w &&& w0 w
def pUnset (w : WD) : Int64 := (((w0 w ||| w1 w) ||| w2 w ||| w3 w) ^^^ (-1)) &&& mkL (wL w)
def pClear (w : WD) : Bool := decide (w1 w = mkL (wL w))
def pSame (w v : WD) : Bool := decide (wN w = wN v ∧ w0 w = w0 v ∧ w1 w = w1 v ∧ w2 w = w2 v ∧ w3 w = w3 v)
def pUnlike (w v : WD) : Int32 := if wI w = wI v then if wL w = wL v then 0 else 4 else 3
abbrev bI (b : Bool) : Int32 := if b then 1 else 0
theorem lg_eq {x y : Int64} : lg_cmp x y = 0 ↔ x = y := by
  unfold lg_cmp
  by_cases c1 : x > y
  · rw [if_pos c1]
    exact ⟨fun e => absurd e (by decide), fun e => by rw [e] at c1; exact absurd c1 (fun q => Int64.lt_irrefl q)⟩
  · rw [if_neg c1]
    by_cases c2 : x = y
    · rw [if_pos c2]
      exact ⟨fun _ => c2, fun _ => rfl⟩
    · rw [if_neg c2]
      exact ⟨fun e => absurd e (by decide), fun e => absurd e c2⟩
theorem lgv_lt {x y : Int64} : lg_cmp x y < 0 ↔ x < y := by
  unfold lg_cmp
  by_cases c1 : x > y
  · rw [if_pos c1]
    exact ⟨fun e => absurd e (by decide), fun e => absurd c1 (by have := Int64.lt_iff_toInt_lt.mp e; intro q; have := Int64.lt_iff_toInt_lt.mp q; omega)⟩
  · rw [if_neg c1]
    by_cases c2 : x = y
    · rw [if_pos c2]
      exact ⟨fun e => absurd e (by decide), fun e => by rw [c2] at e; exact absurd e (fun q => Int64.lt_irrefl q)⟩
    · rw [if_neg c2]
      refine ⟨fun _ => ?_, fun _ => by decide⟩
      have c3 : ¬ y.toInt < x.toInt := fun q => c1 (Int64.lt_iff_toInt_lt.mpr q)
      have c4 : ¬ x.toInt = y.toInt := fun q => c2 (Int64.toInt_inj.mp q)
      exact Int64.lt_iff_toInt_lt.mpr (by omega)
theorem lgv_le {x y : Int64} : lg_cmp x y ≤ 0 ↔ x ≤ y := by
  rw [show (lg_cmp x y ≤ 0) ↔ (lg_cmp x y < 0 ∨ lg_cmp x y = 0) by
    rw [Int32.le_iff_toInt_le, Int32.lt_iff_toInt_lt, ← Int32.toInt_inj]
    omega, lgv_lt, lg_eq, Int64.le_iff_toInt_le, Int64.lt_iff_toInt_lt, ← Int64.toInt_inj]
  omega
section Da
variable {lim : Nat × Nat} {d a b : Nat} {h : ah_H} {w v : WD} {i l f k to : Int32} {n c0 c1 c2 c3 : Int64}
theorem U1_ne {h' : ah_H} {q : Nat} {r : Option ah_O} (u : U1 a w h h') (hq : q ≠ a) (e : h.1 q = r) : h'.1 q = r := (u.2.1 q hq).trans e
theorem c_copy (ea : h.1 a = some (1, dW w)) (eb : h.1 b = some (1, dW v)) (hn : b ≠ a) : wq (vc lim (d + 1) m_Datum_copy [aR a, aR b] h) (rV (U1 a v h)) := wq_eq e_Datum_copy (wq_gI eb rfl (wq_wr ea (Nat.le_of_ble_eq_true rfl) (wq_gI (up_ne hn eb) rfl (wq_wr up_eq (Nat.le_of_ble_eq_true rfl) (wq_gJ (up_ne hn (up_ne hn eb)) rfl (wq_wr up_eq (Nat.le_of_ble_eq_true rfl) (wq_gJ (up_ne hn (up_ne hn (up_ne hn eb))) rfl (wq_wr up_eq (Nat.le_of_ble_eq_true rfl) (wq_gJ (up_ne hn (up_ne hn (up_ne hn (up_ne hn eb)))) rfl (wq_wr up_eq (Nat.le_of_ble_eq_true rfl) (wq_gJ (up_ne hn (up_ne hn (up_ne hn (up_ne hn (up_ne hn eb))))) rfl (wq_wr up_eq (Nat.le_of_ble_eq_true rfl) (wq_gJ (up_ne hn (up_ne hn (up_ne hn (up_ne hn (up_ne hn (up_ne hn eb)))))) rfl (wq_wr up_eq (Nat.le_of_ble_eq_true rfl) (wq_some (rV_i ⟨up_eq, fun q hq => (up_ne hq (up_ne hq (up_ne hq (up_ne hq (up_ne hq (up_ne hq (up_ne hq rfl))))))), rfl, rfl⟩))))))))))))))))
theorem c_hold (ea : h.1 a = some (1, dW w)) : wq (vc lim (d + 1) m_Datum_hold [aR a, aI i, aI l, aJ c0, aJ c1, aJ c2, aJ c3] h) (rV (U1 a (pHold i l c0 c1 c2 c3) h)) := wq_eq e_Datum_hold (wq_wr ea (Nat.le_of_ble_eq_true rfl) (wq_wr up_eq (Nat.le_of_ble_eq_true rfl) (wq_wr up_eq (Nat.le_of_ble_eq_true rfl) (wq_wr up_eq (Nat.le_of_ble_eq_true rfl) (wq_wr up_eq (Nat.le_of_ble_eq_true rfl) (wq_wr up_eq (Nat.le_of_ble_eq_true rfl) (wq_wr up_eq (Nat.le_of_ble_eq_true rfl) (wq_some (rV_i ⟨up_eq, fun q hq => (up_ne hq (up_ne hq (up_ne hq (up_ne hq (up_ne hq (up_ne hq (up_ne hq rfl))))))), rfl, rfl⟩)))))))))
theorem c_beNumber (ea : h.1 a = some (1, dW w)) : wq (vc lim (d + 1) m_Datum_beNumber [aR a, aJ n] h) (rV (U1 a (pNum n) h)) := wq_eq e_Datum_beNumber (wq_wr ea (Nat.le_of_ble_eq_true rfl) (wq_wr up_eq (Nat.le_of_ble_eq_true rfl) (wq_wr up_eq (Nat.le_of_ble_eq_true rfl) (wq_wr up_eq (Nat.le_of_ble_eq_true rfl) (wq_wr up_eq (Nat.le_of_ble_eq_true rfl) (wq_wr up_eq (Nat.le_of_ble_eq_true rfl) (wq_wr up_eq (Nat.le_of_ble_eq_true rfl) (wq_some (rV_i ⟨up_eq, fun q hq => (up_ne hq (up_ne hq (up_ne hq (up_ne hq (up_ne hq (up_ne hq (up_ne hq rfl))))))), rfl, rfl⟩)))))))))
theorem c_beLogic (ea : h.1 a = some (1, dW w)) : wq (vc lim (d + 2) m_Datum_beLogic [aR a, aI k] h) (rV (U1 a (pLogic k) h)) := wq_eq e_Datum_beLogic (wq_at ea (wq_cV (c_hold ea) fun _ u => wq_some (rV_i u)))
theorem c_keepPart (ea : h.1 a = some (1, dW w)) : wq (vc lim (d + 2) m_Datum_keepPart [aR a, aI i, aI f, aI l] h) (rV (U1 a (pPart w i f l) h)) := wq_eq e_Datum_keepPart (wq_gJ ea rfl (wq_gJ ea rfl (wq_gJ ea rfl (wq_gJ ea rfl (wq_at ea (wq_cV (c_hold ea) fun _ u => wq_some (rV_i u)))))))
theorem c_overlay (ea : h.1 a = some (1, dW w)) (eb : h.1 b = some (1, dW v)) : wq (vc lim (d + 2) m_Datum_overlay [aR a, aI f, aR b] h) (rV (U1 a (pOver w v f) h)) := wq_eq e_Datum_overlay (wq_gI eb rfl (wq_gI ea rfl (wq_gI ea rfl (wq_gJ ea rfl (wq_gJ eb rfl (wq_gJ ea rfl (wq_gJ eb rfl (wq_gJ ea rfl (wq_gJ eb rfl (wq_gJ ea rfl (wq_gJ eb rfl (wq_at ea (wq_cV (c_hold ea) fun _ u => wq_some (rV_i u))))))))))))))
theorem c_change (ea : h.1 a = some (1, dW w)) : wq (vc lim (d + 2) m_Datum_change [aR a, aI k, aI to] h) (rV (U1 a (pChange w k to) h)) := by
  refine wq_eq e_Datum_change (wq_gI ea rfl (wq_if _ (fun c => ?_) (fun c => ?_)))
  · unfold pChange
    rw [if_pos c]
    exact wq_wr ea (Nat.le_of_ble_eq_true rfl) (wq_some (rV_i ⟨up_eq, fun q hq => up_ne hq rfl, rfl, rfl⟩))
  · unfold pChange
    rw [if_neg c]
    exact (wq_gI ea rfl (wq_gI ea rfl (wq_gJ ea rfl (wq_gJ ea rfl (wq_gJ ea rfl (wq_gJ ea rfl (wq_at ea (wq_cV (c_hold ea) fun _ u => wq_some (rV_i u)))))))))
theorem c_element (ea : h.1 a = some (1, dW w)) : wq (vc lim (d + 1) m_Datum_element [aR a, aI k] h) (rI fun x h' => h' = h ∧ x = pElem w k) := by
  refine wq_eq e_Datum_element (wq_gI ea rfl (wq_if _ (fun c => ?_) (fun c => ?_)))
  · exact wq_gJ ea rfl (wq_some (rI_i ⟨rfl, (if_pos c).symm⟩))
  · exact (wq_gJ ea rfl (wq_gJ ea rfl (wq_gJ ea rfl (wq_gJ ea rfl (wq_some (rI_i ⟨rfl, (if_neg c).symm⟩))))))
theorem c_zeros (ea : h.1 a = some (1, dW w)) : wq (vc lim (d + 1) m_Datum_zeros [aR a] h) (rJ fun x h' => h' = h ∧ x = pZeros w) := wq_eq e_Datum_zeros (wq_gJ ea rfl (wq_gJ ea rfl (wq_some (rJ_i ⟨rfl, rfl⟩))))
theorem c_ones (ea : h.1 a = some (1, dW w)) : wq (vc lim (d + 1) m_Datum_ones [aR a] h) (rJ fun x h' => h' = h ∧ x = pOnes w) := wq_eq e_Datum_ones (wq_gJ ea rfl (wq_gJ ea rfl (wq_some (rJ_i ⟨rfl, rfl⟩))))
theorem c_unset (ea : h.1 a = some (1, dW w)) : wq (vc lim (d + 1) m_Datum_unset [aR a] h) (rJ fun x h' => h' = h ∧ x = pUnset w) := wq_eq e_Datum_unset (wq_gJ ea rfl (wq_gJ ea rfl (wq_gJ ea rfl (wq_gJ ea rfl (wq_gI ea rfl (wq_some (rJ_i ⟨rfl, rfl⟩)))))))
theorem c_isClear (ea : h.1 a = some (1, dW w)) : wq (vc lim (d + 1) m_Datum_isClear [aR a] h) (rI fun x h' => h' = h ∧ x = bI (pClear w)) := by
  refine wq_eq e_Datum_isClear (wq_gJ ea rfl (wq_gI ea rfl (wq_if _ (fun c => ?_) (fun c => ?_))))
  · have e : pClear w = true := decide_eq_true (lg_eq.mp c)
    exact wq_t (by decide) (wq_some (rI_i ⟨rfl, by rw [e]; rfl⟩))
  · have e : pClear w = false := decide_eq_false (fun q => c (lg_eq.mpr q))
    exact wq_t (by decide) (wq_some (rI_i ⟨rfl, by rw [e]; rfl⟩))
theorem c_unlike (ea : h.1 a = some (1, dW w)) (eb : h.1 b = some (1, dW v)) : wq (vc lim (d + 1) m_Datum_unlike [aR a, aR b] h) (rI fun x h' => h' = h ∧ x = pUnlike w v) := by
  refine wq_eq e_Datum_unlike (wq_gI ea rfl (wq_gI eb rfl (wq_if _ (fun c => ?_) (fun c => ?_))))
  · refine wq_gI ea rfl (wq_gI eb rfl (wq_if _ (fun c' => ?_) (fun c' => ?_)))
    · exact wq_some (rI_i ⟨rfl, ((if_pos c).trans (if_pos c')).symm⟩)
    · exact wq_some (rI_i ⟨rfl, ((if_pos c).trans (if_neg c')).symm⟩)
  · exact wq_some (rI_i ⟨rfl, (if_neg c).symm⟩)
theorem c_isSame (ea : h.1 a = some (1, dW w)) (eb : h.1 b = some (1, dW v)) : wq (vc lim (d + 1) m_Datum_isSame [aR a, aR b] h) (rI fun x h' => h' = h ∧ x = bI (pSame w v)) := by
  have no : ∀ {P : Prop} [Decidable P], ¬ P → (0 : Int32) = bI (decide P) := fun hp => by rw [decide_eq_false hp]; rfl
  refine wq_eq e_Datum_isSame (wq_gJ ea rfl (wq_gJ eb rfl (wq_if _ (fun q0 => ?_) (fun q0 => ?_))))
  · refine wq_gJ ea rfl (wq_gJ eb rfl (wq_if _ (fun q1 => ?_) (fun q1 => ?_)))
    · refine wq_gJ ea rfl (wq_gJ eb rfl (wq_if _ (fun q2 => ?_) (fun q2 => ?_)))
      · refine wq_gJ ea rfl (wq_gJ eb rfl (wq_if _ (fun q3 => ?_) (fun q3 => ?_)))
        · refine wq_gJ ea rfl (wq_gJ eb rfl (wq_if _ (fun q4 => ?_) (fun q4 => ?_)))
          · refine wq_t (by decide) (wq_some (rI_i ⟨rfl, ?_⟩))
            have e : pSame w v = true := decide_eq_true ⟨lg_eq.mp q0, lg_eq.mp q1, lg_eq.mp q2, lg_eq.mp q3, lg_eq.mp q4⟩
            rw [e]
            rfl
          · exact wq_t (by decide) (wq_some (rI_i ⟨rfl, no (fun e => q4 (lg_eq.mpr e.2.2.2.2))⟩))
        · exact wq_t (by decide) (wq_some (rI_i ⟨rfl, no (fun e => q3 (lg_eq.mpr e.2.2.2.1))⟩))
      · exact wq_t (by decide) (wq_some (rI_i ⟨rfl, no (fun e => q2 (lg_eq.mpr e.2.2.1))⟩))
    · exact wq_t (by decide) (wq_some (rI_i ⟨rfl, no (fun e => q1 (lg_eq.mpr e.2.1))⟩))
  · exact wq_t (by decide) (wq_some (rI_i ⟨rfl, no (fun e => q0 (lg_eq.mpr e.1))⟩))
end Da
