/-! heights, the root and the beginning of a new process in the reference -/
section Zp
variable {B P fv nD : Nat} {σ σ' : rS} {l2 l4 : List AV} {dc da db : Nat → Int32} {a b : Nat → Int64} {s : US} {T : KT} {ht : Nat → Nat}
theorem HT_k (OK : ∀ j : Int, 0 ≤ j → j < (σ.1 19).toInt → okN σ j) (PT : pTall σ) (D : DI σ) : HT (kT σ l2 l4) (fun k => (ia σ 14 k).toInt.toNat) := by
  intro v hv
  have r := (kT_r D).mp hv
  have v0 := hv.1
  have v1 : v.toInt < ((σ.1 19).toInt.toNat : Int) := hv.2
  have d0 := D.1
  have ok := (OK v.toInt v0 (by omega)).1
  obtain ⟨-, -, -, -, d5, -⟩ := D.2.2.2.2.1 v.toInt v0 (by omega)
  refine ⟨by show (ia σ 14 v.toInt.toNat).toInt.toNat ≤ 100; omega, fun n => ?_⟩
  have := tk_t PT D hv n
  show (ia σ 14 v.toInt.toNat).toInt.toNat < (ia σ 14 (xU (kT σ l2 l4) v).toInt.toNat).toInt.toNat
  omega
/-- the root -/
theorem root_k (D : DI σ) (ob : oneB σ) : bdy (kT σ l2 l4) (rtV (kT σ l2 l4)) ∧ xU (kT σ l2 l4) (rtV (kT σ l2 l4)) = -1 := by
  have c1 : (σ.1 21).toInt = 1 := congrArg Int32.toInt ob.1
  have d0 := D.1
  have d1 := D.2.1
  have o1 : (1 : Int32).toInt = 1 := rfl
  obtain ⟨r1, r2, r3, -, r5⟩ := D.2.2.2.2.2 0 (by omega)
  have r5 := r5 (by omega)
  have en : (Nat.toInt32 (σ.1 19).toInt.toNat).toInt = (σ.1 19).toInt := by rw [i32n (by omega)]; omega
  have er : rtV (kT σ l2 l4) = ia σ 15 0 := Int32.toInt_inj.mp (by
    show (Nat.toInt32 (σ.1 19).toInt.toNat - 1).toInt = _
    rw [sb_i (by omega) (by omega), en, o1]
    omega)
  have e9 : ia σ 15 0 = σ.1 19 - 1 := Int32.toInt_inj.mp (by rw [sb_i (by omega) (by omega), o1]; omega)
  rw [er]
  have hv : rgN (kT σ l2 l4) (ia σ 15 0) := (kT_r D).mpr ⟨r1, r2⟩
  have ib : isB σ (ia σ 15 0) := by rw [e9]; exact ob.2
  refine ⟨⟨hv, ?_, fun j hj => ?_⟩, ?_⟩
  · rw [← tk_k hv]
    exact ib.1
  · obtain ⟨a2, -⟩ := tk_h (l2 := l2) (l4 := l4) D hv hj
    have := ib.2 j (Nat.zero_le _) (by rw [tk_m hv]; exact hj)
    rw [tk_c hv, tk_k a2] at this
    exact this
  · rw [xU_r hv]
    exact Int32.toInt_inj.mp (by show (ia σ 13 (ia σ 15 0).toInt.toNat).toInt = -1; exact r3)
/-- what has no frames -/
theorem FX_0 (h26 : (ia σ 26 P).toInt = 0) : FX T B P ht a b [] σ := ⟨h26, trivial, trivial, trivial⟩
theorem UWx_0 (h20 : ia σ 20 P = 0) (h23 : ia σ 23 P = 0) (h26 : (ia σ 26 P).toInt = 0) (s0 : s.1 = 0) (s3 : s.2.2.2.1 = 0) (s4 : (s.2.2.2.2.1, s.2.2.2.2.2.1) = ((0, -1) : Int32 × Int32)) : UWx T B P ht s a b σ := ⟨h20.trans s0.symm, fun _ => ⟨h23.trans s3.symm, [], FX_0 h26, s4.symm⟩, fun q => absurd (s0.symm.trans q) (by decide)⟩
theorem UVx_0 (N : NB T B σ) (f8 : fv + nD ≤ 8192) (hP : P < 64) (h18 : (ia σ 18 P).toInt = fv) (h17 : (ia σ 17 P).toInt = B + (rtV T).toInt) (V : VMx fv nD dc da db σ) : UVx T nD B fv P (fun i => thI (dc i) (da i) (db i)) σ := ⟨N, f8, hP, h18, h17, fun i hi => V i hi⟩
end Zp
