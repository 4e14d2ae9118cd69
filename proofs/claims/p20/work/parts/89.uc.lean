/-! WHAT THE CLASS MAKES OF VALUES: pure, and the contracts of Finder's methods on values -/
def pTime (u : Int32) (w : WD) : Option WD := if wI w = 2 then if wN w < 0 then none else some (pNum (wN w * u.toInt64)) else none
def pToNum (w : WD) : Option WD := if wI w = 1 then if pClear w = true then if pOnes w < 0 then none else if pOnes w ≤ 2147483647 then some (pNum (pOnes w)) else none else none else none
def pToRow (w : WD) (l : Int32) : Option WD := if wI w = 2 then some (pHold 1 l (wN w) (-1) 0 0) else none
def pSettle (w : WD) (z o u : Int64) : WD := pHold (wI w) (wL w) (o ||| (((z ||| o) ||| u) ^^^ (-1))) (z ||| o) 0 0
def pOne (o : Int32) (w : WD) : Option WD := if wI w = 2 then if o = 0 then some (pNum (if wN w = 0 then 1 else 0)) else if o = 1 then some (pNum (-wN w)) else if o = 3 then if wN w < 0 then some (pNum (-wN w)) else some w else some w else if o = 0 then some (pSettle w (pOnes w) (pZeros w) (pUnset w)) else none
def pTurned (o : Int32) : Bool := decide (o = 2 ∨ o = 3 ∨ o = 5)
def pTr (o : Int32) (x y : Bool) : Bool := if o = 0 ∨ o = 2 then x && y else if o = 1 ∨ o = 3 then x || y else x != y
def pTruths (o : Int32) (w v : WD) : Option WD := if wI v = 2 then some (pNum (if pTr o (decide (wN w ≠ 0)) (decide (wN v ≠ 0)) = pTurned o then 0 else 1)) else none
def pZ (o : Int32) (w v : WD) : Int64 := if o = 0 ∨ o = 2 then pZeros w ||| pZeros v else if o = 1 ∨ o = 3 then pZeros w &&& pZeros v else (pZeros w &&& pZeros v) ||| (pOnes w &&& pOnes v)
def pO (o : Int32) (w v : WD) : Int64 := if o = 0 ∨ o = 2 then pOnes w &&& pOnes v else if o = 1 ∨ o = 3 then pOnes w ||| pOnes v else (pZeros w &&& pOnes v) ||| (pOnes w &&& pZeros v)
def pLogics (o : Int32) (w v : WD) : Option WD := if pUnlike w v = 0 then some (pHold (wI w) (wL w) ((if pTurned o then pZ o w v else pO o w v) ||| (((pZ o w v ||| pO o w v) ||| (pUnset w ||| pUnset v)) ^^^ (-1))) (pZ o w v ||| pO o w v) 0 0) else none
def pSameOp (x : Int32) (w v : WD) : Option WD := if pUnlike w v = 0 then some (pNum (if bI (pSame w v) = x then 1 else 0)) else none
def pKey (w v : WD) : Int64 := if wI w = 2 then wN v else pOnes v ^^^ (-9223372036854775808)
def pCmp (o : Int32) (x y : Int64) : Bool := decide ((o = 8 ∧ x < y) ∨ (o = 9 ∧ x ≤ y) ∨ (o = 10 ∧ ¬ x ≤ y) ∨ (o = 11 ∧ ¬ x < y))
def pKnown (w v : WD) : Bool := decide (wI w = 2 ∨ (pClear w = true ∧ pClear v = true))
def pOrder (o : Int32) (w v : WD) : Option WD := if wI w = 0 then none else if pUnlike w v = 0 then some (pNum (if pKnown w v && pCmp o (pKey w w) (pKey w v) then 1 else 0)) else none
def pOf (w : WD) : Int64 := if wI w = 1 then pOnes w else wN w
def pRows (o : Int32) (w v : WD) : Option WD := if wI w = 0 then none else if wI v = 0 then none else if wI w = wI v ∧ ¬ wL w = wL v then none else if (wI w = 1 ∧ pClear w = false) ∨ (wI v = 1 ∧ pClear v = false) then some (pHold 1 (if wI w = 1 then wL w else wL v) (-1) 0 0 0) else some (pHold 1 (if wI w = 1 then wL w else wL v) (if o = 12 then pOf w + pOf v else pOf w - pOf v) (-1) 0 0)
def pJoined (w v : WD) : Option WD := if wI w = 2 then none else if wI v = 2 then none else if wL w + wL v ≤ 64 then some (pHold 1 (wL w + wL v) (shl (w0 w) (wL v) ||| w0 v) (shl (w1 w) (wL v) ||| w1 v) (shl (w2 w) (wL v) ||| w2 v) (shl (w3 w) (wL v) ||| w3 v)) else none
def pBy (l : Int32) (y : Int64) : Int32 := (if l.toInt64 < (if (0 : Int64) < y then y else -y) then l.toInt64 else (if (0 : Int64) < y then y else -y)).toInt32
def pShift (w : WD) (y : Int64) : WD := if pBy (wL w) y = wL w then pHold 1 (pBy (wL w) y) 0 (-1) 0 0 else if y < 0 then pHold 1 (wL w) (shr (w0 w) (pBy (wL w) y)) (shr (w1 w) (pBy (wL w) y) ||| (shr (mkL (wL w)) (pBy (wL w) y) ^^^ (-1))) (shr (w2 w) (pBy (wL w) y)) (shr (w3 w) (pBy (wL w) y)) else pHold 1 (wL w) (shl (w0 w) (pBy (wL w) y)) (shl (w1 w) (pBy (wL w) y) ||| (shl 1 (pBy (wL w) y) - 1)) (shl (w2 w) (pBy (wL w) y)) (shl (w3 w) (pBy (wL w) y))
def pShifted (o : Int32) (w v : WD) : Option WD := if wI w = 1 then if wI v = 2 then some (pShift w (if o = 19 then wN v else -wN v)) else none else none
def pBnd (x : Int64) : Option WD := if x < -2147483647 then none else if x ≤ 2147483647 then some (pNum x) else none
def pMod (x y : Int64) : Int64 := if (x ^^^ y) < 0 then if x - x / y * y = 0 then x - x / y * y else (x - x / y * y) + y else x - x / y * y
def pNumbers (o : Int32) (w v : WD) : Option WD := if wI w = 2 then if wI v = 2 then if o = 12 then pBnd (wN w + wN v) else if o = 13 then pBnd (wN w - wN v) else if o = 15 then pBnd (wN w * wN v) else if wN v = 0 then none else if o = 16 then pBnd (wN w / wN v) else if o = 17 then pBnd (pMod (wN w) (wN v)) else pBnd (wN w - wN w / wN v * wN v) else none else none
def pTwo (o : Int32) (w v : WD) : Option WD := if o = 0 ∨ o = 1 ∨ o = 2 ∨ o = 3 ∨ o = 4 ∨ o = 5 then if wI w = 2 then pTruths o w v else pLogics o w v else if o = 6 then pSameOp 1 w v else if o = 7 then pSameOp 0 w v else if o = 8 ∨ o = 9 ∨ o = 10 ∨ o = 11 then pOrder o w v else if o = 12 ∨ o = 13 then if wI w = 2 ∧ wI v = 2 then pNumbers o w v else pRows o w v else if o = 14 then pJoined w v else if o = 19 ∨ o = 20 then pShifted o w v else pNumbers o w v
/-- an operation's end: the value in the cell a, or a fault and nothing changed -/
def oR (r : Option WD) (a : Nat) (h : ah_H) (x : Int32) (h' : ah_H) : Prop := match r with
  | some w => x = 0 ∧ U1 a w h h'
  | none => x ≠ 0 ∧ h' = h
section Fv
variable {lim : Nat × Nat} {d a b : Nat} {h h' : ah_H} {w v : WD} {o x k l : Int32} {r : Option WD}
theorem oR_n (e : r = none) (hx : x ≠ 0) (hh : h' = h) : oR r a h x h' := by rw [e]; exact ⟨hx, hh⟩
theorem oR_s {u : WD} (e : r = some u) (hx : x = 0) (hu : U1 a u h h') : oR r a h x h' := by rw [e]; exact ⟨hx, hu⟩
theorem U1_0 (ea : h.1 a = some (1, dW w)) : U1 a w h h := ⟨ea, fun _ _ => rfl, rfl, rfl⟩
theorem c_time (ea : h.1 a = some (1, dW w)) : wq (vc lim (d + 2) m_Finder_time [aI o, aR a] h) (rI (oR (pTime o w) a h)) := by
  refine wq_eq e_Finder_time ?_
  simp only [lgv_lt]
  refine wq_gI ea rfl (wq_if _ (fun c => wq_gJ ea rfl (wq_if _ (fun c2 => ?_) (fun c2 => ?_))) (fun c => ?_))
  · exact wq_some (rI_i (oR_n (by simp [pTime, c, c2]) (by decide) rfl))
  · exact wq_gJ ea rfl (wq_at ea (wq_cV (c_beNumber ea) fun _ u => wq_some (rI_i (oR_s (by simp [pTime, c, c2]) rfl u))))
  · exact wq_some (rI_i (oR_n (by simp [pTime, c]) (by decide) rfl))
theorem c_toNumber (ea : h.1 a = some (1, dW w)) : wq (vc lim (d + 2) m_Finder_toNumber [aR a] h) (rI (oR (pToNum w) a h)) := by
  refine wq_eq e_Finder_toNumber ?_
  simp only [lgv_lt, lgv_le]
  refine wq_gI ea rfl (wq_if _ (fun c => wq_at ea (wq_cJ (c_ones ea) ?_)) (fun c => ?_))
  · rintro _ _ ⟨rfl, rfl⟩
    refine wq_at ea (wq_cI (c_isClear ea) ?_)
    rintro _ _ ⟨rfl, rfl⟩
    cases hc : pClear w with
    | false => exact wq_t rfl (wq_some (rI_i (oR_n (by simp [pToNum, c, hc]) (by decide) rfl)))
    | true =>
      refine wq_f (by decide) (wq_if _ (fun c2 => ?_) (fun c2 => wq_if _ (fun c3 => ?_) (fun c3 => ?_)))
      · exact wq_some (rI_i (oR_n (by simp [pToNum, c, hc, c2]) (by decide) rfl))
      · exact wq_at ea (wq_cV (c_beNumber ea) fun _ u => wq_some (rI_i (oR_s (by simp [pToNum, c, hc, c2, c3]) rfl u)))
      · exact wq_some (rI_i (oR_n (by simp [pToNum, c, hc, c2, c3]) (by decide) rfl))
  · exact wq_some (rI_i (oR_n (by simp [pToNum, c]) (by decide) rfl))
theorem c_toRow (ea : h.1 a = some (1, dW w)) : wq (vc lim (d + 2) m_Finder_toRow [aR a, aI l] h) (rI (oR (pToRow w l) a h)) := by
  refine wq_eq e_Finder_toRow (wq_gI ea rfl (wq_if _ (fun c => wq_gJ ea rfl (wq_at ea (wq_cV (c_hold ea) fun _ u => wq_some (rI_i (oR_s (by simp [pToRow, c]) rfl u))))) (fun c => ?_)))
  exact wq_some (rI_i (oR_n (by simp [pToRow, c]) (by decide) rfl))
theorem c_settle {z n u : Int64} (ea : h.1 a = some (1, dW w)) : wq (vc lim (d + 2) m_Finder_settle [aR a, aJ z, aJ n, aJ u] h) (rV (U1 a (pSettle w z n u) h)) := wq_eq e_Finder_settle (wq_gI ea rfl (wq_gI ea rfl (wq_at ea (wq_cV (c_hold ea) fun _ u => wq_some (rV_i u)))))
theorem c_one (ea : h.1 a = some (1, dW w)) : wq (vc lim (d + 3) m_Finder_one [aI o, aR a] h) (rI (oR (pOne o w) a h)) := by
  refine wq_eq e_Finder_one ?_
  simp only [lgv_lt, lg_eq]
  refine wq_gI ea rfl (wq_if _ (fun c => ?_) (fun c => ?_))
  · refine wq_if _ (fun c1 => ?_) (fun c1 => ?_)
    · refine wq_gJ ea rfl (wq_if _ (fun c2 => ?_) (fun c2 => ?_))
      · exact wq_at ea (wq_cV (c_beNumber ea) fun _ u => wq_some (rI_i (oR_s (by simp [pOne, c, c1, c2]) rfl u)))
      · exact wq_at ea (wq_cV (c_beNumber ea) fun _ u => wq_some (rI_i (oR_s (by simp [pOne, c, c1, c2]) rfl u)))
    · refine wq_if _ (fun c2 => ?_) (fun c2 => ?_)
      · exact wq_gJ ea rfl (wq_at ea (wq_cV (c_beNumber ea) fun _ u => wq_some (rI_i (oR_s (by simp [pOne, c, c1, c2]) rfl u))))
      · refine wq_if _ (fun c3 => wq_gJ ea rfl (wq_if _ (fun c4 => ?_) (fun c4 => ?_))) (fun c3 => ?_)
        · exact wq_gJ ea rfl (wq_at ea (wq_cV (c_beNumber ea) fun _ u => wq_some (rI_i (oR_s (by simp [pOne, c, c1, c2, c3, c4]) rfl u))))
        · exact wq_some (rI_i (oR_s (by simp [pOne, c, c1, c2, c3, c4]) rfl (U1_0 ea)))
        · exact wq_some (rI_i (oR_s (by simp [pOne, c, c1, c2, c3]) rfl (U1_0 ea)))
  · refine wq_if _ (fun c1 => wq_at ea (wq_cJ (c_ones ea) ?_)) (fun c1 => ?_)
    · rintro _ _ ⟨rfl, rfl⟩
      refine wq_at ea (wq_cJ (c_zeros ea) ?_)
      rintro _ _ ⟨rfl, rfl⟩
      refine wq_at ea (wq_cJ (c_unset ea) ?_)
      rintro _ _ ⟨rfl, rfl⟩
      exact wq_cV (c_settle ea) fun _ u => wq_some (rI_i (oR_s (by simp [pOne, c, c1]) rfl u))
    · exact wq_some (rI_i (oR_n (by simp [pOne, c, c1]) (by decide) rfl))
theorem c_isTurned : wq (vc lim (d + 1) m_Finder_isTurned [aI o] h) (rI fun x h' => h' = h ∧ x = bI (pTurned o)) := by
  refine wq_eq e_Finder_isTurned (wq_if _ (fun c => ?_) (fun c => wq_if _ (fun c1 => ?_) (fun c1 => wq_if _ (fun c2 => ?_) (fun c2 => ?_))))
  · exact wq_t (by decide) (wq_some (rI_i ⟨rfl, by rw [show pTurned o = true from decide_eq_true (Or.inl c)]; rfl⟩))
  · exact wq_t (by decide) (wq_some (rI_i ⟨rfl, by rw [show pTurned o = true from decide_eq_true (Or.inr (Or.inl c1))]; rfl⟩))
  · exact wq_t (by decide) (wq_some (rI_i ⟨rfl, by rw [show pTurned o = true from decide_eq_true (Or.inr (Or.inr c2))]; rfl⟩))
  · exact wq_t (by decide) (wq_some (rI_i ⟨rfl, by rw [show pTurned o = false from decide_eq_false (fun q => by rcases q with q | q | q <;> contradiction)]; rfl⟩))
theorem bI_eq {x y : Bool} : bI x = bI y ↔ x = y := by
  revert x y
  decide
theorem g_153_105 {s : Bool} (ea : h.1 a = some (1, dW w)) (hr : r = some (pNum (if s = pTurned o then 0 else 1))) : wq (ah_val lim ah_P (d + 1) 153 105 [some (aI o), some (aR a), none, none, none, none] [aI (bI s)] h) (rI (oR r a h)) := by
  refine wq_eq q_153_105 (wq_cI c_isTurned ?_)
  rintro _ _ ⟨rfl, rfl⟩
  simp only [bI_eq]
  refine wq_if _ (fun c => ?_) (fun c => ?_)
  · exact wq_at ea (wq_cV (c_beNumber ea) fun _ u => wq_some (rI_i (oR_s (by rw [hr, if_pos c]) rfl u)))
  · exact wq_at ea (wq_cV (c_beNumber ea) fun _ u => wq_some (rI_i (oR_s (by rw [hr, if_neg c]) rfl u)))
theorem g_153_39 {s t : Bool} (ea : h.1 a = some (1, dW w)) (hr : r = some (pNum (if pTr o s t = pTurned o then 0 else 1))) : wq (ah_val lim ah_P (d + 1) 153 39 [some (aI o), some (aR a), none, some (aI (bI s)), none, none] [aI (bI t)] h) (rI (oR r a h)) := by
  refine wq_eq q_153_39 ?_
  have E : ∀ {u : Bool}, pTr o s t = u → wq (ah_val lim ah_P (d + 1) 153 105 [some (aI o), some (aR a), none, none, none, none] [aI (bI u)] h) (rI (oR r a h)) := fun e => g_153_105 ea (by rw [← e]; exact hr)
  have E0 : pTr o s t = false → wq (ah_val lim ah_P (d + 1) 153 105 [some (aI o), some (aR a), none, none, none, none] [aI 0] h) (rI (oR r a h)) := fun e => E (u := false) e
  have E1 : pTr o s t = true → wq (ah_val lim ah_P (d + 1) 153 105 [some (aI o), some (aR a), none, none, none, none] [aI 1] h) (rI (oR r a h)) := fun e => E (u := true) e
  refine wq_if _ (fun c => ?_) (fun c => wq_if _ (fun c1 => ?_) (fun c1 => wq_if _ (fun c2 => ?_) (fun c2 => wq_if _ (fun c3 => ?_) (fun c3 => ?_))))
  · cases s with
    | false => exact wq_t rfl (E0 (by simp [pTr, c]))
    | true => cases t with
      | false => exact wq_f (by decide) (wq_t rfl (E0 (by simp [pTr, c])))
      | true => exact wq_f (by decide) (wq_f (by decide) (E1 (by simp [pTr, c])))
  · cases s with
    | false => exact wq_t rfl (E0 (by simp [pTr, c1]))
    | true => cases t with
      | false => exact wq_f (by decide) (wq_t rfl (E0 (by simp [pTr, c1])))
      | true => exact wq_f (by decide) (wq_f (by decide) (E1 (by simp [pTr, c1])))
  · cases s with
    | true => exact wq_f (by decide) (E1 (by simp [pTr, c2]))
    | false => cases t with
      | false => exact wq_t rfl (wq_t rfl (E0 (by simp [pTr, c2])))
      | true => exact wq_t rfl (wq_f (by decide) (E1 (by simp [pTr, c2])))
  · cases s with
    | true => exact wq_f (by decide) (E1 (by simp [pTr, c3]))
    | false => cases t with
      | false => exact wq_t rfl (wq_t rfl (E0 (by simp [pTr, c3])))
      | true => exact wq_t rfl (wq_f (by decide) (E1 (by simp [pTr, c3])))
  · cases s <;> cases t
    · exact wq_t rfl (E0 (by simp [pTr, c, c1, c2, c3]))
    · exact wq_f (by decide) (E1 (by simp [pTr, c, c1, c2, c3]))
    · exact wq_f (by decide) (E1 (by simp [pTr, c, c1, c2, c3]))
    · exact wq_t rfl (E0 (by simp [pTr, c, c1, c2, c3]))
theorem c_truths (ea : h.1 a = some (1, dW w)) (eb : h.1 b = some (1, dW v)) : wq (vc lim (d + 2) m_Finder_truths [aI o, aR a, aR b] h) (rI (oR (pTruths o w v) a h)) := by
  refine wq_eq e_Finder_truths ?_
  simp only [lg_eq]
  refine wq_gI eb rfl (wq_if _ (fun c => wq_gJ ea rfl (wq_if _ (fun c1 => wq_gJ eb rfl (wq_if _ (fun c2 => ?_) (fun c2 => ?_))) (fun c1 => wq_gJ eb rfl (wq_if _ (fun c2 => ?_) (fun c2 => ?_))))) (fun c => ?_))
  · exact g_153_39 (s := false) (t := false) ea (by simp [pTruths, c, c1, c2])
  · exact g_153_39 (s := false) (t := true) ea (by simp [pTruths, c, c1, c2])
  · exact g_153_39 (s := true) (t := false) ea (by simp [pTruths, c, c1, c2])
  · exact g_153_39 (s := true) (t := true) ea (by simp [pTruths, c, c1, c2])
  · exact wq_some (rI_i (oR_n (by simp [pTruths, c]) (by decide) rfl))
theorem g_155_135 {u z n : Int64} (ea : h.1 a = some (1, dW w)) (hr : r = some (pHold (wI w) (wL w) ((if pTurned o then z else n) ||| (((z ||| n) ||| u) ^^^ (-1))) (z ||| n) 0 0)) : wq (ah_val lim ah_P (d + 1) 155 135 [some (aI o), some (aR a), none, some (aJ u), none, some (aJ z), none, some (aJ n), none, none, none, none] [] h) (rI (oR r a h)) := by
  refine wq_eq q_155_135 (wq_cI c_isTurned ?_)
  rintro _ _ ⟨rfl, rfl⟩
  refine wq_gI ea rfl (wq_gI ea rfl ?_)
  cases ht : pTurned o with
  | false => exact wq_t rfl (wq_at ea (wq_cV (c_hold ea) fun _ u => wq_some (rI_i (oR_s (by rw [hr, ht]; rfl) rfl u))))
  | true => exact wq_f (by decide) (wq_at ea (wq_cV (c_hold ea) fun _ u => wq_some (rI_i (oR_s (by rw [hr, ht]; rfl) rfl u))))
theorem c_logics (ea : h.1 a = some (1, dW w)) (eb : h.1 b = some (1, dW v)) : wq (vc lim (d + 2) m_Finder_logics [aI o, aR a, aR b] h) (rI (oR (pLogics o w v) a h)) := by
  refine wq_eq e_Finder_logics (wq_at ea (wq_cI (c_unlike ea eb) ?_))
  rintro _ _ ⟨rfl, rfl⟩
  refine wq_if _ (fun c => ?_) (fun c => ?_)
  · refine wq_at ea (wq_cJ (c_unset ea) ?_)
    rintro _ _ ⟨rfl, rfl⟩
    refine wq_at eb (wq_cJ (c_unset eb) ?_)
    rintro _ _ ⟨rfl, rfl⟩
    refine wq_if _ (fun c1 => ?_) (fun c1 => wq_if _ (fun c2 => ?_) (fun c2 => wq_if _ (fun c3 => ?_) (fun c3 => wq_if _ (fun c4 => ?_) (fun c4 => ?_))))
    iterate 4
      · refine wq_at ea (wq_cJ (c_zeros ea) ?_)
        rintro _ _ ⟨rfl, rfl⟩
        refine wq_at eb (wq_cJ (c_zeros eb) ?_)
        rintro _ _ ⟨rfl, rfl⟩
        refine wq_at ea (wq_cJ (c_ones ea) ?_)
        rintro _ _ ⟨rfl, rfl⟩
        refine wq_at eb (wq_cJ (c_ones eb) ?_)
        rintro _ _ ⟨rfl, rfl⟩
        exact g_155_135 ea (by simp [pLogics, pZ, pO, *])
    · refine wq_at ea (wq_cJ (c_zeros ea) ?_)
      rintro _ _ ⟨rfl, rfl⟩
      refine wq_at eb (wq_cJ (c_zeros eb) ?_)
      rintro _ _ ⟨rfl, rfl⟩
      refine wq_at ea (wq_cJ (c_ones ea) ?_)
      rintro _ _ ⟨rfl, rfl⟩
      refine wq_at eb (wq_cJ (c_ones eb) ?_)
      rintro _ _ ⟨rfl, rfl⟩
      refine wq_at ea (wq_cJ (c_zeros ea) ?_)
      rintro _ _ ⟨rfl, rfl⟩
      refine wq_at eb (wq_cJ (c_ones eb) ?_)
      rintro _ _ ⟨rfl, rfl⟩
      refine wq_at ea (wq_cJ (c_ones ea) ?_)
      rintro _ _ ⟨rfl, rfl⟩
      refine wq_at eb (wq_cJ (c_zeros eb) ?_)
      rintro _ _ ⟨rfl, rfl⟩
      exact g_155_135 ea (by simp [pLogics, pZ, pO, *])
  · refine wq_at ea (wq_cI (c_unlike ea eb) ?_)
    rintro _ _ ⟨rfl, rfl⟩
    exact wq_some (rI_i (oR_n (by simp [pLogics, c]) c rfl))
theorem c_same (ea : h.1 a = some (1, dW w)) (eb : h.1 b = some (1, dW v)) : wq (vc lim (d + 2) m_Finder_same [aI x, aR a, aR b] h) (rI (oR (pSameOp x w v) a h)) := by
  refine wq_eq e_Finder_same (wq_at ea (wq_cI (c_unlike ea eb) ?_))
  rintro _ _ ⟨rfl, rfl⟩
  refine wq_if _ (fun c => ?_) (fun c => ?_)
  · refine wq_at ea (wq_cI (c_isSame ea eb) ?_)
    rintro _ _ ⟨rfl, rfl⟩
    refine wq_if _ (fun c1 => ?_) (fun c1 => ?_)
    · exact wq_at ea (wq_cV (c_beNumber ea) fun _ u => wq_some (rI_i (oR_s (by rw [pSameOp, if_pos c, if_pos c1]) c u)))
    · exact wq_at ea (wq_cV (c_beNumber ea) fun _ u => wq_some (rI_i (oR_s (by rw [pSameOp, if_pos c, if_neg c1]) c u)))
  · exact wq_some (rI_i (oR_n (by simp [pSameOp, c]) c rfl))
theorem g_157_174 {p q s : Bool} (ea : h.1 a = some (1, dW w)) (hr : r = some (pNum (if p && (q || s) then 1 else 0))) : wq (ah_val lim ah_P (d + 1) 157 174 [none, some (aR a), none, none, none, none, none, some (aI (bI p)), some (aI (bI q)), none] [aI (bI s)] h) (rI (oR r a h)) := by
  refine wq_eq q_157_174 ?_
  cases p with
  | false => exact wq_t rfl (wq_at ea (wq_cV (c_beNumber ea) fun _ u => wq_some (rI_i (oR_s hr rfl u))))
  | true => cases q with
    | true => exact wq_f (by decide) (wq_f (by decide) (wq_at ea (wq_cV (c_beNumber ea) fun _ u => wq_some (rI_i (oR_s hr rfl u)))))
    | false => cases s with
      | true => exact wq_f (by decide) (wq_t rfl (wq_f (by decide) (wq_at ea (wq_cV (c_beNumber ea) fun _ u => wq_some (rI_i (oR_s hr rfl u))))))
      | false => exact wq_f (by decide) (wq_t rfl (wq_t rfl (wq_at ea (wq_cV (c_beNumber ea) fun _ u => wq_some (rI_i (oR_s hr rfl u))))))
theorem g_157_141 {p q : Bool} {x y : Int64} (ea : h.1 a = some (1, dW w)) (hr : r = some (pNum (if p && (q || decide ((o = 10 ∧ ¬ x ≤ y) ∨ (o = 11 ∧ ¬ x < y))) then 1 else 0))) : wq (ah_val lim ah_P (d + 1) 157 141 [some (aI o), some (aR a), none, some (aJ x), none, some (aJ y), none, some (aI (bI p)), none, none] [aI (bI q)] h) (rI (oR r a h)) := by
  refine wq_eq q_157_141 ?_
  simp only [lgv_lt, lgv_le]
  have E0 : ¬ ((o = 10 ∧ ¬ x ≤ y) ∨ (o = 11 ∧ ¬ x < y)) → wq (ah_val lim ah_P (d + 1) 157 174 [none, some (aR a), none, none, none, none, none, some (aI (bI p)), some (aI (bI q)), none] [aI 0] h) (rI (oR r a h)) := fun e => g_157_174 (s := false) ea (by rw [hr, decide_eq_false e])
  have E1 : ((o = 10 ∧ ¬ x ≤ y) ∨ (o = 11 ∧ ¬ x < y)) → wq (ah_val lim ah_P (d + 1) 157 174 [none, some (aR a), none, none, none, none, none, some (aI (bI p)), some (aI (bI q)), none] [aI 1] h) (rI (oR r a h)) := fun e => g_157_174 (s := true) ea (by rw [hr, decide_eq_true e])
  refine wq_if _ (fun c => wq_if _ (fun c1 => wq_if _ (fun c2 => wq_if _ (fun c3 => E0 ?_) (fun c3 => E1 ?_)) (fun c2 => E0 ?_)) (fun c1 => E1 ?_)) (fun c => wq_if _ (fun c2 => wq_if _ (fun c3 => E0 ?_) (fun c3 => E1 ?_)) (fun c2 => E0 ?_))
  · exact fun e => e.elim (fun e => e.2 c1) (fun e => e.2 c3)
  · exact Or.inr ⟨c2, c3⟩
  · exact fun e => e.elim (fun e => e.2 c1) (fun e => c2 e.1)
  · exact Or.inl ⟨c, c1⟩
  · exact fun e => e.elim (fun e => c e.1) (fun e => e.2 c3)
  · exact Or.inr ⟨c2, c3⟩
  · exact fun e => e.elim (fun e => c e.1) (fun e => c2 e.1)
theorem or_bool {A B : Prop} [Decidable A] [Decidable B] : (decide A || decide B) = decide (A ∨ B) := by
  by_cases hA : A <;> by_cases hB : B <;> simp [hA, hB]
theorem g_157_108 {p : Bool} {x y : Int64} (ea : h.1 a = some (1, dW w)) (hr : r = some (pNum (if p && pCmp o x y then 1 else 0))) : wq (ah_val lim ah_P (d + 1) 157 108 [some (aI o), some (aR a), none, some (aJ x), none, some (aJ y), none, none, none, none] [aI (bI p)] h) (rI (oR r a h)) := by
  refine wq_eq q_157_108 ?_
  simp only [lgv_lt, lgv_le]
  have K : ∀ q : Bool, (q = decide ((o = 8 ∧ x < y) ∨ (o = 9 ∧ x ≤ y))) → r = some (pNum (if p && (q || decide ((o = 10 ∧ ¬ x ≤ y) ∨ (o = 11 ∧ ¬ x < y))) then 1 else 0)) := by
    intro q e
    rw [hr, e, or_bool]
    unfold pCmp
    simp only [or_assoc]
  have E0 : ¬ ((o = 8 ∧ x < y) ∨ (o = 9 ∧ x ≤ y)) → wq (ah_val lim ah_P (d + 1) 157 141 [some (aI o), some (aR a), none, some (aJ x), none, some (aJ y), none, some (aI (bI p)), none, none] [aI 0] h) (rI (oR r a h)) := fun e => g_157_141 (q := false) ea (K false (decide_eq_false e).symm)
  have E1 : ((o = 8 ∧ x < y) ∨ (o = 9 ∧ x ≤ y)) → wq (ah_val lim ah_P (d + 1) 157 141 [some (aI o), some (aR a), none, some (aJ x), none, some (aJ y), none, some (aI (bI p)), none, none] [aI 1] h) (rI (oR r a h)) := fun e => g_157_141 (q := true) ea (K true (decide_eq_true e).symm)
  refine wq_if _ (fun c => wq_if _ (fun c1 => E1 (Or.inl ⟨c, c1⟩)) (fun c1 => wq_if _ (fun c2 => wq_if _ (fun c3 => E1 (Or.inr ⟨c2, c3⟩)) (fun c3 => E0 ?_)) (fun c2 => E0 ?_))) (fun c => wq_if _ (fun c2 => wq_if _ (fun c3 => E1 (Or.inr ⟨c2, c3⟩)) (fun c3 => E0 ?_)) (fun c2 => E0 ?_))
  · exact fun e => e.elim (fun e => c1 e.2) (fun e => c3 e.2)
  · exact fun e => e.elim (fun e => c1 e.2) (fun e => c2 e.1)
  · exact fun e => e.elim (fun e => c e.1) (fun e => c3 e.2)
  · exact fun e => e.elim (fun e => c e.1) (fun e => c2 e.1)
theorem g_157_79 {x y : Int64} (ea : h.1 a = some (1, dW w)) (eb : h.1 b = some (1, dW v)) (hr : r = some (pNum (if pKnown w v && pCmp o x y then 1 else 0))) : wq (ah_val lim ah_P (d + 1) 157 79 [some (aI o), some (aR a), some (aR b), some (aJ x), none, none, none, none, none, none] [aJ y] h) (rI (oR r a h)) := by
  refine wq_eq q_157_79 (wq_gI ea rfl (wq_if _ (fun c => ?_) (fun c => wq_at ea (wq_cI (c_isClear ea) ?_))))
  · exact g_157_108 (p := true) ea (by rw [hr, show pKnown w v = true from decide_eq_true (Or.inl c)])
  · rintro _ _ ⟨rfl, rfl⟩
    cases h1 : pClear w with
    | false => exact wq_t rfl (g_157_108 (p := false) ea (by rw [hr, show pKnown w v = false from decide_eq_false (fun e => e.elim (fun e => c e) (fun e => by rw [h1] at e; cases e.1))]))
    | true =>
      refine wq_f (by decide) (wq_at eb (wq_cI (c_isClear eb) ?_))
      rintro _ _ ⟨rfl, rfl⟩
      cases h2 : pClear v with
      | false => exact wq_t rfl (g_157_108 (p := false) ea (by rw [hr, show pKnown w v = false from decide_eq_false (fun e => e.elim (fun e => c e) (fun e => by rw [h2] at e; cases e.2))]))
      | true => exact wq_f (by decide) (g_157_108 (p := true) ea (by rw [hr, show pKnown w v = true from decide_eq_true (Or.inr ⟨h1, h2⟩)]))
theorem c_order (ea : h.1 a = some (1, dW w)) (eb : h.1 b = some (1, dW v)) : wq (vc lim (d + 2) m_Finder_order [aI o, aR a, aR b] h) (rI (oR (pOrder o w v) a h)) := by
  refine wq_eq e_Finder_order (wq_gI ea rfl (wq_if _ (fun c => ?_) (fun c => wq_at ea (wq_cI (c_unlike ea eb) ?_))))
  · exact wq_gI ea rfl (wq_t c (wq_some (rI_i (oR_n (by simp [pOrder, c]) (by decide) rfl))))
  · rintro _ _ ⟨rfl, rfl⟩
    refine wq_if _ (fun c1 => ?_) (fun c1 => ?_)
    · have hr : ∀ {x y : Int64}, pKey w w = x → pKey w v = y → pOrder o w v = some (pNum (if pKnown w v && pCmp o x y then 1 else 0)) := fun e1 e2 => by
        rw [pOrder, if_neg c, if_pos c1, e1, e2]
      refine wq_gI ea rfl (wq_if _ (fun c2 => ?_) (fun c2 => ?_))
      · exact wq_gJ ea rfl (wq_gI ea rfl (wq_t c2 (wq_gJ eb rfl (g_157_79 ea eb (hr (if_pos c2) (if_pos c2))))))
      · refine wq_at ea (wq_cJ (c_ones ea) ?_)
        rintro _ _ ⟨rfl, rfl⟩
        refine wq_gI ea rfl (wq_f c2 (wq_at eb (wq_cJ (c_ones eb) ?_)))
        rintro _ _ ⟨rfl, rfl⟩
        exact g_157_79 ea eb (hr (if_neg c2) (if_neg c2))
    · refine wq_gI ea rfl (wq_f c (wq_at ea (wq_cI (c_unlike ea eb) ?_)))
      rintro _ _ ⟨rfl, rfl⟩
      exact wq_some (rI_i (oR_n (by simp [pOrder, c, c1]) c1 rfl))
theorem g_158_147 {x y : Int64} (ea : h.1 a = some (1, dW w)) (hr : r = some (pHold 1 l (if o = 12 then x + y else x - y) (-1) 0 0)) : wq (ah_val lim ah_P (d + 1) 158 147 [some (aI o), some (aR a), none, some (aI l), some (aJ x), none, some (aJ y), none] [] h) (rI (oR r a h)) := by
  refine wq_eq q_158_147 (wq_if _ (fun c => ?_) (fun c => ?_))
  · exact wq_at ea (wq_cV (c_hold ea) fun _ u => wq_some (rI_i (oR_s (by rw [hr, if_pos c]) rfl u)))
  · exact wq_at ea (wq_cV (c_hold ea) fun _ u => wq_some (rI_i (oR_s (by rw [hr, if_neg c]) rfl u)))
theorem g_158_117 {x y : Int64} (ea : h.1 a = some (1, dW w)) (eb : h.1 b = some (1, dW v)) (hr : r = if (wI v = 1 ∧ pClear v = false) then some (pHold 1 l (-1) 0 0 0) else some (pHold 1 l (if o = 12 then x + y else x - y) (-1) 0 0)) : wq (ah_val lim ah_P (d + 1) 158 117 [some (aI o), some (aR a), some (aR b), some (aI l), some (aJ x), none, some (aJ y), none] [] h) (rI (oR r a h)) := by
  refine wq_eq q_158_117 (wq_gI eb rfl (wq_if _ (fun c => wq_at eb (wq_cI (c_isClear eb) ?_)) (fun c => ?_)))
  · rintro _ _ ⟨rfl, rfl⟩
    cases h1 : pClear v with
    | false => exact wq_t rfl (wq_at ea (wq_cV (c_hold ea) fun _ u => wq_some (rI_i (oR_s (by rw [hr, if_pos ⟨c, h1⟩]) rfl u))))
    | true => exact wq_f (by decide) (g_158_147 ea (by rw [hr, if_neg (fun e => by rw [h1] at e; cases e.2)]))
  · exact g_158_147 ea (by rw [hr, if_neg (fun e => c e.1)])
theorem g_158_100 {x y : Int64} (ea : h.1 a = some (1, dW w)) (eb : h.1 b = some (1, dW v)) (hr : r = if (wI w = 1 ∧ pClear w = false) ∨ (wI v = 1 ∧ pClear v = false) then some (pHold 1 l (-1) 0 0 0) else some (pHold 1 l (if o = 12 then x + y else x - y) (-1) 0 0)) : wq (ah_val lim ah_P (d + 1) 158 100 [some (aI o), some (aR a), some (aR b), some (aI l), some (aJ x), none, none, none] [aJ y] h) (rI (oR r a h)) := by
  refine wq_eq q_158_100 (wq_gI ea rfl (wq_if _ (fun c => wq_at ea (wq_cI (c_isClear ea) ?_)) (fun c => ?_)))
  · rintro _ _ ⟨rfl, rfl⟩
    cases h1 : pClear w with
    | false => exact wq_t rfl (wq_at ea (wq_cV (c_hold ea) fun _ u => wq_some (rI_i (oR_s (by rw [hr, if_pos (Or.inl ⟨c, h1⟩)]) rfl u))))
    | true => exact wq_f (by decide) (g_158_117 ea eb (by rw [hr]; simp [h1]))
  · exact g_158_117 ea eb (by rw [hr]; simp [c])
theorem g_158_59 (ea : h.1 a = some (1, dW w)) (eb : h.1 b = some (1, dW v)) (hr : r = if (wI w = 1 ∧ pClear w = false) ∨ (wI v = 1 ∧ pClear v = false) then some (pHold 1 l (-1) 0 0 0) else some (pHold 1 l (if o = 12 then pOf w + pOf v else pOf w - pOf v) (-1) 0 0)) : wq (ah_val lim ah_P (d + 1) 158 59 [some (aI o), some (aR a), some (aR b), none, none, none, none, none] [aI l] h) (rI (oR r a h)) := by
  have K : ∀ {x y : Int64}, pOf w = x → pOf v = y → wq (ah_val lim ah_P (d + 1) 158 100 [some (aI o), some (aR a), some (aR b), some (aI l), some (aJ x), none, none, none] [aJ y] h) (rI (oR r a h)) := fun e1 e2 => g_158_100 ea eb (by rw [hr, e1, e2])
  refine wq_eq q_158_59 (wq_gI ea rfl (wq_if _ (fun c => wq_at ea (wq_cJ (c_ones ea) ?_)) (fun c => wq_gJ ea rfl (wq_gI eb rfl (wq_if _ (fun c1 => wq_at eb (wq_cJ (c_ones eb) ?_)) (fun c1 => wq_gJ eb rfl (K (if_neg c) (if_neg c1))))))))
  · rintro _ _ ⟨rfl, rfl⟩
    refine wq_gI eb rfl (wq_if _ (fun c1 => wq_at eb (wq_cJ (c_ones eb) ?_)) (fun c1 => wq_gJ eb rfl (K (if_pos c) (if_neg c1))))
    rintro _ _ ⟨rfl, rfl⟩
    exact K (if_pos c) (if_pos c1)
  · rintro _ _ ⟨rfl, rfl⟩
    exact K (if_neg c) (if_pos c1)
theorem c_rows (ea : h.1 a = some (1, dW w)) (eb : h.1 b = some (1, dW v)) : wq (vc lim (d + 2) m_Finder_rows [aI o, aR a, aR b] h) (rI (oR (pRows o w v) a h)) := by
  refine wq_eq e_Finder_rows (wq_gI ea rfl (wq_if _ (fun c => ?_) (fun c => wq_gI eb rfl (wq_if _ (fun c1 => ?_) (fun c1 => wq_gI ea rfl (wq_gI eb rfl (wq_if _ (fun c2 => wq_gI ea rfl (wq_gI eb rfl (wq_if _ (fun c3 => ?_) (fun c3 => ?_)))) (fun c2 => ?_))))))))
  · exact wq_some (rI_i (oR_n (by simp [pRows, c]) (by decide) rfl))
  · exact wq_some (rI_i (oR_n (by simp [pRows, c, c1]) (by decide) rfl))
  · have e : ¬ (wI w = wI v ∧ ¬ wL w = wL v) := fun e => e.2 c3
    refine wq_gI ea rfl (wq_if _ (fun c4 => wq_gI ea rfl (g_158_59 ea eb ?_)) (fun c4 => wq_gI eb rfl (g_158_59 ea eb ?_)))
    · rw [pRows, if_neg c, if_neg c1, if_neg e, if_pos c4]
    · rw [pRows, if_neg c, if_neg c1, if_neg e, if_neg c4]
  · exact wq_some (rI_i (oR_n (by rw [pRows, if_neg c, if_neg c1, if_pos ⟨c2, c3⟩]) (by decide) rfl))
  · have e : ¬ (wI w = wI v ∧ ¬ wL w = wL v) := fun e => c2 e.1
    refine wq_gI ea rfl (wq_if _ (fun c4 => wq_gI ea rfl (g_158_59 ea eb ?_)) (fun c4 => wq_gI eb rfl (g_158_59 ea eb ?_)))
    · rw [pRows, if_neg c, if_neg c1, if_neg e, if_pos c4]
    · rw [pRows, if_neg c, if_neg c1, if_neg e, if_neg c4]
theorem c_joined (ea : h.1 a = some (1, dW w)) (eb : h.1 b = some (1, dW v)) : wq (vc lim (d + 2) m_Finder_joined [aR a, aR b] h) (rI (oR (pJoined w v) a h)) := by
  refine wq_eq e_Finder_joined (wq_gI ea rfl (wq_if _ (fun c => ?_) (fun c => wq_gI eb rfl (wq_if _ (fun c1 => ?_) (fun c1 => wq_gI ea rfl (wq_gI eb rfl (wq_if _ (fun c2 => ?_) (fun c2 => ?_))))))))
  · exact wq_some (rI_i (oR_n (by simp [pJoined, c]) (by decide) rfl))
  · exact wq_some (rI_i (oR_n (by simp [pJoined, c, c1]) (by decide) rfl))
  · exact wq_gI eb rfl (wq_gI ea rfl (wq_gJ ea rfl (wq_gJ eb rfl (wq_gJ ea rfl (wq_gJ eb rfl (wq_gJ ea rfl (wq_gJ eb rfl (wq_gJ ea rfl (wq_gJ eb rfl (wq_at ea (wq_cV (c_hold ea) fun _ u => wq_some (rI_i (oR_s (by rw [pJoined, if_neg c, if_neg c1, if_pos c2]) rfl u))))))))))))) 
  · exact wq_some (rI_i (oR_n (by rw [pJoined, if_neg c, if_neg c1, if_neg c2]) (by decide) rfl))
theorem g_160_36 {y : Int64} (ea : h.1 a = some (1, dW w)) (hr : r = some (pShift w y)) : wq (ah_val lim ah_P (d + 1) 160 36 [none, some (aR a), none, none, none, none, none, none] [aJ y] h) (rI (oR r a h)) := by
  refine wq_eq q_160_36 (wq_gI ea rfl (wq_gI ea rfl (wq_if _ (fun c => ?_) (fun c => wq_if _ (fun c1 => ?_) (fun c1 => ?_)))))
  · exact wq_at ea (wq_cV (c_hold ea) fun _ u => wq_some (rI_i (oR_s (hr.trans (congrArg some (if_pos c))) rfl u)))
  · exact wq_gI ea rfl (wq_gI ea rfl (wq_gJ ea rfl (wq_gJ ea rfl (wq_gJ ea rfl (wq_gJ ea rfl (wq_at ea (wq_cV (c_hold ea) fun _ u => wq_some (rI_i (oR_s (hr.trans (congrArg some ((if_neg c).trans (if_pos (lgv_lt.mp c1))))) rfl u)))))))))
  · exact wq_gI ea rfl (wq_gJ ea rfl (wq_gJ ea rfl (wq_gJ ea rfl (wq_gJ ea rfl (wq_at ea (wq_cV (c_hold ea) fun _ u => wq_some (rI_i (oR_s (hr.trans (congrArg some ((if_neg c).trans (if_neg (fun e => c1 (lgv_lt.mpr e)))))) rfl u))))))))
theorem c_shifted (ea : h.1 a = some (1, dW w)) (eb : h.1 b = some (1, dW v)) : wq (vc lim (d + 2) m_Finder_shifted [aI o, aR a, aR b] h) (rI (oR (pShifted o w v) a h)) := by
  refine wq_eq e_Finder_shifted (wq_gI ea rfl (wq_if _ (fun c => wq_gI eb rfl (wq_if _ (fun c1 => wq_if _ (fun c2 => wq_gJ eb rfl (g_160_36 ea ?_)) (fun c2 => wq_gJ eb rfl (g_160_36 ea ?_))) (fun c1 => ?_))) (fun c => ?_)))
  · rw [pShifted, if_pos c, if_pos c1, if_pos c2]
  · rw [pShifted, if_pos c, if_pos c1, if_neg c2]
  · exact wq_some (rI_i (oR_n (by simp [pShifted, c1]) (by decide) rfl))
  · exact wq_some (rI_i (oR_n (by simp [pShifted, c]) (by decide) rfl))
theorem g_161_135 {y : Int64} (ea : h.1 a = some (1, dW w)) (hr : r = pBnd y) : wq (ah_val lim ah_P (d + 1) 161 135 [none, some (aR a), none, some (aJ y), none] [] h) (rI (oR r a h)) := by
  refine wq_eq q_161_135 (wq_if _ (fun c => ?_) (fun c => wq_if _ (fun c1 => ?_) (fun c1 => ?_)))
  · exact wq_some (rI_i (oR_n (hr.trans (if_pos (lgv_lt.mp c))) (by decide) rfl))
  · exact wq_at ea (wq_cV (c_beNumber ea) fun _ u => wq_some (rI_i (oR_s (hr.trans ((if_neg (fun e => c (lgv_lt.mpr e))).trans (if_pos (lgv_le.mp c1)))) rfl u)))
  · exact wq_some (rI_i (oR_n (hr.trans ((if_neg (fun e => c (lgv_lt.mpr e))).trans (if_neg (fun e => c1 (lgv_le.mpr e))))) (by decide) rfl))
theorem c_floorMod {x y : Int64} (hy : ¬ y = 0) : wq (vc lim (d + 1) m_Math_floorMod [aJ x, aJ y] h) (rJ fun z h' => h' = h ∧ z = pMod x y) := by
  refine wq_eq e_Math_floorMod ?_
  simp only [lgv_lt, lg_eq]
  refine wq_f hy (wq_if _ (fun c => wq_if _ (fun c1 => ?_) (fun c1 => ?_)) (fun c => ?_))
  · exact wq_some (rJ_i ⟨rfl, by rw [pMod, if_pos c, if_pos c1]⟩)
  · exact wq_some (rJ_i ⟨rfl, by rw [pMod, if_pos c, if_neg c1]⟩)
  · exact wq_some (rJ_i ⟨rfl, by rw [pMod, if_neg c]⟩)
theorem c_numbers (ea : h.1 a = some (1, dW w)) (eb : h.1 b = some (1, dW v)) : wq (vc lim (d + 2) m_Finder_numbers [aI o, aR a, aR b] h) (rI (oR (pNumbers o w v) a h)) := by
  refine wq_eq e_Finder_numbers (wq_gI ea rfl (wq_if _ (fun c => wq_gI eb rfl (wq_if _ (fun c1 => ?_) (fun c1 => ?_))) (fun c => ?_)))
  · refine wq_if _ (fun q1 => wq_gJ ea rfl (wq_gJ eb rfl (g_161_135 ea ?_))) (fun q1 => wq_if _ (fun q2 => wq_gJ ea rfl (wq_gJ eb rfl (g_161_135 ea ?_))) (fun q2 => wq_if _ (fun q3 => wq_gJ ea rfl (wq_gJ eb rfl (g_161_135 ea ?_))) (fun q3 => wq_gJ eb rfl (wq_if _ (fun q4 => ?_) (fun q4 => ?_)))))
    · rw [pNumbers, if_pos c, if_pos c1, if_pos q1]
    · rw [pNumbers, if_pos c, if_pos c1, if_neg q1, if_pos q2]
    · rw [pNumbers, if_pos c, if_pos c1, if_neg q1, if_neg q2, if_pos q3]
    · exact wq_some (rI_i (oR_n (by rw [pNumbers, if_pos c, if_pos c1, if_neg q1, if_neg q2, if_neg q3, if_pos (lg_eq.mp q4)]) (by decide) rfl))
    · have q4 : ¬ wN v = 0 := fun e => q4 (lg_eq.mpr e)
      refine wq_if _ (fun q5 => wq_gJ ea rfl (wq_gJ eb rfl (wq_f q4 (g_161_135 ea ?_)))) (fun q5 => wq_if _ (fun q6 => wq_gJ ea rfl (wq_gJ eb rfl (wq_cJ (c_floorMod q4) ?_))) (fun q6 => wq_gJ ea rfl (wq_gJ eb rfl (wq_f q4 (g_161_135 ea ?_)))))
      · rw [pNumbers, if_pos c, if_pos c1, if_neg q1, if_neg q2, if_neg q3, if_neg q4, if_pos q5]
      · rintro _ _ ⟨rfl, rfl⟩
        exact g_161_135 ea (by rw [pNumbers, if_pos c, if_pos c1, if_neg q1, if_neg q2, if_neg q3, if_neg q4, if_neg q5, if_pos q6])
      · rw [pNumbers, if_pos c, if_pos c1, if_neg q1, if_neg q2, if_neg q3, if_neg q4, if_neg q5, if_neg q6]
  · exact wq_some (rI_i (oR_n (by simp [pNumbers, c1]) (by decide) rfl))
  · exact wq_some (rI_i (oR_n (by simp [pNumbers, c]) (by decide) rfl))
theorem pass_I {P : Int32 → ah_H → Prop} {q : Option ah_R} (k : wq q (rI P)) : wq (ah_cI q (nx h) fun i h1 => some (.inl (some (.inl i)), h1)) (rI P) := wq_cI k fun _ _ p => wq_some (rI_i p)
theorem g_152_100 (ea : h.1 a = some (1, dW w)) (eb : h.1 b = some (1, dW v)) (hr : r = if wI w = 2 then pTruths o w v else pLogics o w v) : wq (ah_val lim ah_P (d + 2) 152 100 [some (aI o), some (aR a), some (aR b)] [] h) (rI (oR r a h)) := by
  subst hr
  refine wq_eq q_152_100 (wq_gI ea rfl (wq_if _ (fun c => ?_) (fun c => ?_)))
  · rw [if_pos c]
    exact pass_I (c_truths ea eb)
  · rw [if_neg c]
    exact pass_I (c_logics ea eb)
theorem c_two (ea : h.1 a = some (1, dW w)) (eb : h.1 b = some (1, dW v)) : wq (vc lim (d + 3) m_Finder_two [aI o, aR a, aR b] h) (rI (oR (pTwo o w v) a h)) := by
  refine wq_eq e_Finder_two ?_
  refine wq_if _ (fun c => g_152_100 ea eb (by simp [pTwo, c])) (fun c0 => ?_)
  refine wq_if _ (fun c => g_152_100 ea eb (by simp [pTwo, c])) (fun c1 => ?_)
  refine wq_if _ (fun c => g_152_100 ea eb (by simp [pTwo, c])) (fun c2 => ?_)
  refine wq_if _ (fun c => g_152_100 ea eb (by simp [pTwo, c])) (fun c3 => ?_)
  refine wq_if _ (fun c => g_152_100 ea eb (by simp [pTwo, c])) (fun c4 => ?_)
  refine wq_if _ (fun c => g_152_100 ea eb (by simp [pTwo, c])) (fun c5 => ?_)
  refine wq_if _ (fun c => wq_t c ?_) (fun c6 => ?_)
  · rw [show pTwo o w v = pSameOp 1 w v by simp [pTwo, c]]
    exact pass_I (c_same ea eb)
  refine wq_if _ (fun c => wq_f c6 ?_) (fun c7 => ?_)
  · rw [show pTwo o w v = pSameOp 0 w v by simp [pTwo, c]]
    exact pass_I (c_same ea eb)
  refine wq_if _ (fun c => ?_) (fun c8 => ?_)
  · rw [show pTwo o w v = pOrder o w v by simp [pTwo, c]]
    exact wq_eq q_152_141 (pass_I (c_order ea eb))
  refine wq_if _ (fun c => ?_) (fun c9 => ?_)
  · rw [show pTwo o w v = pOrder o w v by simp [pTwo, c]]
    exact wq_eq q_152_141 (pass_I (c_order ea eb))
  refine wq_if _ (fun c => ?_) (fun c10 => ?_)
  · rw [show pTwo o w v = pOrder o w v by simp [pTwo, c]]
    exact wq_eq q_152_141 (pass_I (c_order ea eb))
  refine wq_if _ (fun c => ?_) (fun c11 => ?_)
  · rw [show pTwo o w v = pOrder o w v by simp [pTwo, c]]
    exact wq_eq q_152_141 (pass_I (c_order ea eb))
  have S : (o = 12 ∨ o = 13) → wq (ah_val lim ah_P (d + 2) 152 148 [some (aI o), some (aR a), some (aR b)] [] h) (rI (oR (pTwo o w v) a h)) := fun c => by
    have e : pTwo o w v = if wI w = 2 ∧ wI v = 2 then pNumbers o w v else pRows o w v := by
      rcases c with rfl | rfl <;> simp [pTwo]
    rw [e]
    refine wq_eq q_152_148 (wq_gI ea rfl (wq_if _ (fun q => wq_gI eb rfl (wq_if _ (fun q1 => ?_) (fun q1 => ?_))) (fun q => ?_)))
    · rw [if_pos ⟨q, q1⟩]
      exact pass_I (c_numbers ea eb)
    · rw [if_neg (fun e => q1 e.2)]
      exact pass_I (c_rows ea eb)
    · rw [if_neg (fun e => q e.1)]
      exact pass_I (c_rows ea eb)
  refine wq_if _ (fun c => S (Or.inl c)) (fun c12 => ?_)
  refine wq_if _ (fun c => S (Or.inr c)) (fun c13 => ?_)
  refine wq_if _ (fun c => ?_) (fun c14 => ?_)
  · rw [show pTwo o w v = pJoined w v by simp [pTwo, c]]
    exact pass_I (c_joined ea eb)
  have N : ¬ o = 19 → ¬ o = 20 → wq (ah_val lim ah_P (d + 2) 152 193 [some (aI o), some (aR a), some (aR b)] [] h) (rI (oR (pTwo o w v) a h)) := fun n1 n2 => by
    rw [show pTwo o w v = pNumbers o w v by simp [pTwo, *]]
    exact wq_eq q_152_193 (pass_I (c_numbers ea eb))
  refine wq_if _ (fun c => N (by rw [c]; decide) (by rw [c]; decide)) (fun c15 => ?_)
  refine wq_if _ (fun c => N (by rw [c]; decide) (by rw [c]; decide)) (fun c16 => ?_)
  refine wq_if _ (fun c => N (by rw [c]; decide) (by rw [c]; decide)) (fun c17 => ?_)
  refine wq_if _ (fun c => N (by rw [c]; decide) (by rw [c]; decide)) (fun c18 => ?_)
  refine wq_if _ (fun c => ?_) (fun c19 => ?_)
  · rw [show pTwo o w v = pShifted o w v by simp [pTwo, c]]
    exact pass_I (c_shifted ea eb)
  refine wq_if _ (fun c => ?_) (fun c20 => N c19 c20)
  rw [show pTwo o w v = pShifted o w v by simp [pTwo, c]]
  exact pass_I (c_shifted ea eb)
end Fv
