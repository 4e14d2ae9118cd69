/-! BITS -/
def tb (x : Int64) (k : Nat) : Bool := x.toBitVec.getLsbD k
section Bt
variable {x y : Int64} {k : Nat} {n l : Int32}
theorem tb_ext (h : ∀ k, k < 64 → tb x k = tb y k) : x = y := Int64.toBitVec_inj.mp (BitVec.eq_of_getLsbD_eq h)
theorem tb_and : tb (x &&& y) k = (tb x k && tb y k) := by
  unfold tb
  rw [Int64.toBitVec_and, BitVec.getLsbD_and]
theorem tb_or : tb (x ||| y) k = (tb x k || tb y k) := by
  unfold tb
  rw [Int64.toBitVec_or, BitVec.getLsbD_or]
theorem tb_xor : tb (x ^^^ y) k = (tb x k ^^ tb y k) := by
  unfold tb
  rw [Int64.toBitVec_xor, BitVec.getLsbD_xor]
theorem tb_m1 (hk : k < 64) : tb (-1) k = true := by
  unfold tb
  rw [show (-1 : Int64).toBitVec = BitVec.allOnes 64 by decide, BitVec.getLsbD_allOnes]
  exact decide_eq_true hk
theorem tb_0 : tb 0 k = false := by
  unfold tb
  rw [show (0 : Int64).toBitVec = 0#64 by decide]
  exact BitVec.getLsbD_zero
theorem tb_1 : tb 1 k = decide (k = 0) := by
  unfold tb
  rw [show (1 : Int64).toBitVec = 1#64 by decide]
  rw [BitVec.getLsbD_one]
  simp
theorem tb_not (hk : k < 64) : tb (x ^^^ (-1)) k = !tb x k := by
  rw [tb_xor, tb_m1 hk]
  exact Bool.xor_true _
theorem sh_n (h0 : 0 ≤ n.toInt) (h1 : n.toInt < 64) : ∃ m : Fin 64, n = Int32.ofNat m.1 ∧ n.toInt.toNat = m.1 := by
  refine ⟨⟨n.toInt.toNat, by omega⟩, Int32.toInt_inj.mp ?_, rfl⟩
  show n.toInt = (Int32.ofNat n.toInt.toNat).toInt
  rw [Int32.toInt_ofNat_of_lt (by omega)]
  omega
theorem sh_l : ∀ m : Fin 64, (((Int32.ofNat m.1).toInt64 &&& 63).toBitVec.smod 64).toNat = m.1 := by decide +kernel
theorem sh_r : ∀ m : Fin 64, (((Int32.ofNat m.1).toInt64.toUInt64 &&& Int64.toUInt64 63).toBitVec % 64).toNat = m.1 := by decide +kernel
theorem tb_shl (h0 : 0 ≤ n.toInt) (h1 : n.toInt < 64) (hk : k < 64) : tb (x <<< (n.toInt64 &&& 63)) k = (!decide (k < n.toInt.toNat) && tb x (k - n.toInt.toNat)) := by
  obtain ⟨m, e1, e2⟩ := sh_n h0 h1
  rw [e2, e1]
  unfold tb
  rw [Int64.toBitVec_shiftLeft, BitVec.shiftLeft_eq', sh_l m, BitVec.getLsbD_shiftLeft, decide_eq_true hk]
  rfl
theorem tb_shr (h0 : 0 ≤ n.toInt) (h1 : n.toInt < 64) : tb ((x.toUInt64 >>> (n.toInt64.toUInt64 &&& Int64.toUInt64 63)).toInt64) k = tb x (n.toInt.toNat + k) := by
  obtain ⟨m, e1, e2⟩ := sh_n h0 h1
  rw [e2, e1]
  unfold tb
  rw [UInt64.toBitVec_toInt64, UInt64.toBitVec_shiftRight, Int64.toBitVec_toUInt64, BitVec.ushiftRight_eq', sh_r m, BitVec.getLsbD_ushiftRight]
/-- the places below l -/
def mkL (l : Int32) : Int64 := ((-1 : Int64).toUInt64 >>> (((64 : Int32) - l).toInt64.toUInt64 &&& Int64.toUInt64 63)).toInt64
theorem tb_mk (h0 : 1 ≤ l.toInt) (h1 : l.toInt ≤ 64) (hk : k < 64) : tb (mkL l) k = decide (k < l.toInt.toNat) := by
  have e6 : (64 : Int32).toInt = 64 := rfl
  have es : ((64 : Int32) - l).toInt = 64 - l.toInt := by rw [sb_i (by omega) (by omega), e6]
  unfold mkL
  rw [tb_shr (by omega) (by omega)]
  by_cases c : k < l.toInt.toNat
  · rw [tb_m1 (by omega), decide_eq_true c]
  · rw [decide_eq_false c]
    unfold tb
    exact BitVec.getLsbD_of_ge _ _ (by omega)
theorem tb_hi (hk : 64 ≤ k) : tb x k = false := BitVec.getLsbD_of_ge _ _ hk
/-- the code that four bits make -/
def cdI (a b c d : Bool) : Int32 := (if a then 1 else 0) + (if b then 2 else 0) + (if c then 4 else 0) + (if d then 8 else 0)
def cB (c : Int32) (j : Nat) : Bool := c.toBitVec.getLsbD j
theorem b1_i (h0 : 0 ≤ n.toInt) (h1 : n.toInt < 64) : ((x.toUInt64 >>> (n.toInt64.toUInt64 &&& Int64.toUInt64 63)).toInt64) &&& (1 : Int64) = if tb x n.toInt.toNat then 1 else 0 := by
  apply tb_ext
  intro k hk
  rw [tb_and, tb_shr h0 h1, tb_1]
  by_cases c : k = 0
  · subst c
    rw [Nat.add_zero]
    cases tb x n.toInt.toNat <;> simp [tb_1, tb_0]
  · cases tb x n.toInt.toNat <;> simp [c, tb_1, tb_0]
theorem el_i {b0 b1 b2 b3 : Int64} (h0 : 0 ≤ n.toInt) (h1 : n.toInt < 64) : (((((((b0.toUInt64 >>> (n.toInt64.toUInt64 &&& Int64.toUInt64 63)).toInt64) &&& (1 : Int64)) ||| ((((b1.toUInt64 >>> (n.toInt64.toUInt64 &&& Int64.toUInt64 63)).toInt64) &&& (1 : Int64)) <<< ((1 : Int32).toInt64 &&& 63))) ||| ((((b2.toUInt64 >>> (n.toInt64.toUInt64 &&& Int64.toUInt64 63)).toInt64) &&& (1 : Int64)) <<< ((2 : Int32).toInt64 &&& 63))) ||| ((((b3.toUInt64 >>> (n.toInt64.toUInt64 &&& Int64.toUInt64 63)).toInt64) &&& (1 : Int64)) <<< ((3 : Int32).toInt64 &&& 63))).toInt32) = cdI (tb b0 n.toInt.toNat) (tb b1 n.toInt.toNat) (tb b2 n.toInt.toNat) (tb b3 n.toInt.toNat) := by
  rw [b1_i h0 h1, b1_i h0 h1, b1_i h0 h1, b1_i h0 h1]
  generalize tb b0 n.toInt.toNat = a
  generalize tb b1 n.toInt.toNat = b
  generalize tb b2 n.toInt.toNat = c
  generalize tb b3 n.toInt.toNat = e
  revert a b c e
  decide
/-- the codes -/
theorem cd_c {c : Int32} (h0 : 0 ≤ c.toInt) (h1 : c.toInt ≤ 8) : cdI (cB c 0) (cB c 1) (cB c 2) (cB c 3) = c := by
  obtain ⟨m, e1, e2⟩ := sh_n h0 (show c.toInt < 64 by omega)
  rw [e1]
  revert m
  intro m e1 e2
  have : ∀ m : Fin 9, cdI (cB (Int32.ofNat m.1) 0) (cB (Int32.ofNat m.1) 1) (cB (Int32.ofNat m.1) 2) (cB (Int32.ofNat m.1) 3) = Int32.ofNat m.1 := by decide +kernel
  exact this ⟨m.1, by omega⟩
end Bt
