/-! ONE STEP OF THE ABSTRACT MACHINE IS ONE OF THE MACHINE'S -/
theorem i32_le {a b : Int32} (h : b ≤ a) : ¬ a < b := by rw [Int32.le_iff_toInt_le] at h; rw [Int32.lt_iff_toInt_lt]; omega
theorem i32_nle {a b : Int32} (h : ¬ b ≤ a) : a < b := by rw [Int32.le_iff_toInt_le] at h; rw [Int32.lt_iff_toInt_lt]; omega
theorem i32_lt {a b : Int32} (h : b < a) : ¬ a ≤ b := by rw [Int32.lt_iff_toInt_lt] at h; rw [Int32.le_iff_toInt_le]; omega
theorem i32_nlt {a b : Int32} (h : ¬ b < a) : a ≤ b := by rw [Int32.lt_iff_toInt_lt] at h; rw [Int32.le_iff_toInt_le]; omega
theorem if_t {α : Type} {c : Prop} [Decidable c] {a b : Option α} {z : α} (e : (if c then a else b) = some z) (h : c) : a = some z := by rw [if_pos h] at e; exact e
theorem if_f {α : Type} {c : Prop} [Decidable c] {a b : Option α} {z : α} (e : (if c then a else b) = some z) (h : ¬ c) : b = some z := by rw [if_neg h] at e; exact e
theorem at_inv {ρ : Type} {h : ah_H} {r : Option Nat} {kd : Nat} {K : Nat → List AV → Option ρ} {z : ρ} (e : ah_at h r kd K = some z) : ∃ a vs, r = some a ∧ h.1 a = some (kd, vs) ∧ K a vs = some z := by
  unfold ah_at at e
  cases r with
  | none => cases e
  | some a =>
    dsimp only at e
    cases ho : h.1 a with
    | none => rw [ho] at e; cases e
    | some o =>
      rw [ho] at e
      dsimp only at e
      by_cases hk : o.1 = kd
      · rw [if_pos hk] at e
        exact ⟨a, o.2, rfl, by rw [ho, ← hk], e⟩
      · rw [if_neg hk] at e; cases e
theorem atA_inv {ρ : Type} {lo hi : Nat} {h : ah_H} {r : Option Nat} {K : Nat → Nat → List AV → Option ρ} {z : ρ} (e : ah_atA lo hi h r K = some z) : ∃ a kd vs, r = some a ∧ h.1 a = some (kd, vs) ∧ lo ≤ kd ∧ kd < hi ∧ K a kd vs = some z := by
  unfold ah_atA at e
  cases r with
  | none => cases e
  | some a =>
    dsimp only at e
    cases ho : h.1 a with
    | none => rw [ho] at e; cases e
    | some o =>
      rw [ho] at e
      dsimp only at e
      by_cases hk : lo ≤ o.1 ∧ o.1 < hi
      · rw [if_pos hk] at e
        exact ⟨a, o.1, o.2, rfl, ho, hk.1, hk.2, e⟩
      · rw [if_neg hk] at e; cases e
theorem vI_inv {ρ : Type} {v : Option AV} {K : Int32 → Option ρ} {z : ρ} (e : ah_vI v K = some z) : ∃ x, v = some (.inl x) ∧ K x = some z := by
  unfold ah_vI at e
  split at e
  · exact ⟨_, rfl, e⟩
  · cases e
theorem vJ_inv {ρ : Type} {v : Option AV} {K : Int64 → Option ρ} {z : ρ} (e : ah_vJ v K = some z) : ∃ x, v = some (.inr (.inl x)) ∧ K x = some z := by
  unfold ah_vJ at e
  split at e
  · exact ⟨_, rfl, e⟩
  · cases e
theorem vR_inv {ρ : Type} {v : Option AV} {K : Option Nat → Option ρ} {z : ρ} (e : ah_vR v K = some z) : ∃ x, v = some (.inr (.inr x)) ∧ K x = some z := by
  unfold ah_vR at e
  split at e
  · exact ⟨_, rfl, e⟩
  · cases e
theorem ix_inv {ρ : Type} {vs : List AV} {j : Int32} {K : Option AV → Option ρ} {z : ρ} (e : ah_ix vs j K = some z) : ¬ j < 0 ∧ K vs[j.toNatClampNeg]? = some z := by
  unfold ah_ix at e
  by_cases h : j < 0
  · rw [if_pos h] at e; cases e
  · rw [if_neg h] at e; exact ⟨h, e⟩
theorem sx_inv {ρ : Type} {h : ah_H} {a kd : Nat} {vs : List AV} {j : Int32} {v : AV} {K : ah_H → Option ρ} {z : ρ} (e : ah_sx h a kd vs j v K = some z) : ¬ j < 0 ∧ j.toNatClampNeg < vs.length ∧ K (ah_up h a (kd, vs.set j.toNatClampNeg v)) = some z := by
  unfold ah_sx at e
  by_cases h1 : j < 0
  · rw [if_pos h1] at e; cases e
  · rw [if_neg h1] at e
    by_cases h2 : j.toNatClampNeg < vs.length
    · rw [if_pos h2] at e; exact ⟨h1, h2, e⟩
    · rw [if_neg h2] at e; cases e
theorem mk_inv {ρ : Type} {lim : Nat × Nat} {h : ah_H} {o : ah_O} {n : Nat} {K : Option Nat → ah_H → Option ρ} {z : ρ} (e : ah_mk lim h o n K = some z) : (h.2.1 < lim.1 ∧ h.2.2.1 + n ≤ lim.2) ∧ K (some h.2.1) (ah_new h o n) = some z := by
  unfold ah_mk at e
  by_cases h1 : h.2.1 < lim.1 ∧ h.2.2.1 + n ≤ lim.2
  · rw [if_pos h1] at e; exact ⟨h1, e⟩
  · rw [if_neg h1] at e; cases e
theorem mka_inv {ρ : Type} {lim : Nat × Nat} {h : ah_H} {kd : Nat} {v : AV} {n : Int32} {K : Option Nat → ah_H → Option ρ} {z : ρ} (e : ah_mka lim h kd v n K = some z) : ¬ n < 0 ∧ n.toNatClampNeg * 8 ≤ 536870912 ∧ (h.2.1 < lim.1 ∧ h.2.2.1 + n.toNatClampNeg ≤ lim.2) ∧ K (some h.2.1) (ah_new h (kd, List.replicate n.toNatClampNeg v) n.toNatClampNeg) = some z := by
  unfold ah_mka at e
  by_cases h1 : n < 0
  · rw [if_pos h1] at e; cases e
  · rw [if_neg h1] at e
    by_cases h2 : n.toNatClampNeg * 8 ≤ 536870912
    · rw [if_pos h2] at e
      obtain ⟨a, b⟩ := mk_inv e
      exact ⟨h1, h2, a, b⟩
    · rw [if_neg h2] at e; cases e
theorem bif_t {α : Type} {c : Bool} {a : Option α} {z : α} (e : (bif c then a else none) = some z) : c = true ∧ a = some z := by
  cases c
  · cases e
  · exact ⟨rfl, e⟩
theorem sw_inv {ρ : Type} {x : Int32} {d : Nat} {K : Nat → Option ρ} {z : ρ} : ∀ {ts : List (Int32 × Nat)}, ah_sw x d K ts = some z → ((∀ t, (x, t) ∉ ts) ∧ K d = some z) ∨ ∃ t, (x, t) ∈ ts ∧ K t = some z
  | [], e => Or.inl ⟨(fun t h => by cases h), e⟩
  | (c, t) :: r, e => by
    unfold ah_sw at e
    by_cases h : x = c
    · rw [if_pos h] at e
      exact Or.inr ⟨t, by rw [h]; exact List.mem_cons_self, e⟩
    · rw [if_neg h] at e
      rcases sw_inv e with ⟨h1, h2⟩ | ⟨t', h1, h2⟩
      · refine Or.inl ⟨fun t' ht => ?_, h2⟩
        rcases List.mem_cons.mp ht with q | q
        · cases q; exact h rfl
        · exact h1 t' q
      · exact Or.inr ⟨t', List.mem_cons_of_mem _ h1, h2⟩
theorem ah_sk {v : Option AV} {L L1 : ah_L} {i : Nat} (h : ah_set v (ah_kill L i) i = some L1) : L1.length = L.length ∧ i < L.length := by
  obtain ⟨a, b, -⟩ := ah_set_spec h
  have c := (ah_kill_spec L i).1
  omega
def am_sw : Instr → Bool
  | .tableswitch _ _ _ _ => true
  | .lookupswitch _ _ => true
  | _ => false
/-- what holds throughout a method's body -/
def am_S (G : am_G) (Ts : List Cond) (own mn : String) (mrt : Nat) (p : Program) (R : Room) (s : State) (m : MethodId) (args : Array Value) (meth : Method) (c : Code) (cc : ByteArray) (nL d : Nat) (h0 : ah_H) : Prop :=
  CallFix p m c cc nL s args Ts own ∧ am_rt mrt meth.sig.returnType ∧ meth.locks = false ∧ meth.name = mn ∧ am_Rm G R s d h0 ∧ ar_K G.1 G.2.1 G.2.2.1 s ∧ ar_X G.2.2.2.2.2.1 G.2.2.2.2.2.2 s
/-- what the tables say of classes and array kinds -/
def am_T (G : am_G) (Ts : List Cond) : Prop :=
  GoodIn Ts Ts ∧ (∀ kd ty, (kd, ty) ∈ G.2.1 → 110 ≤ kd → ∃ C, ty = .object C ∧ ∃ r, G.1[kd - 110]? = some r ∧ r.1 = C) ∧ ((100, FieldType.int) ∈ G.2.1 ∧ (101, FieldType.long) ∈ G.2.1 ∧ (102, FieldType.boolean) ∈ G.2.1 ∧ (103, FieldType.byte) ∈ G.2.1) ∧
  ∀ kd C T N, G.1[kd]? = some (C, T, N) → kd < 100 ∧ (∀ w ∈ u_ws C T N, w ∈ Ts) ∧ (∀ a, a < N → ∀ b, b < N → a ≠ b → (T a).2.1 ≠ (T b).2.1) ∧ ∀ k, k < N → parseFieldDescriptor (T k).2.2.1 = some ((parseFieldDescriptor (T k).2.2.1).getD .int)
section AStep
variable {p : Program} {l : Launch} {e : Env} {R : Room} {s : State} {m : MethodId} {args : Array Value} {below : List Frame} {meth : Method} {c : Code} {H : Heap} {locs : List Loc} {cells slots : Nat} {Q : State → Prop}
variable {G : am_G} {Ts : List Cond} {I : am_I} {P : Nat → Option ah_M} {own mn : String} {mrt : Nat} {cc : ByteArray} {nL d pc nx : Nat} {h0 h : ah_H} {ls : Array Slot} {L : ah_L} {st : List AV} {z : ah_R} {C : ah_C} {X : Nat × Nat → ah_H → Option ah_R} {K : ah_K} {i : Instr} {q : List Nat} {ts : List (Int32 × Nat)} {w : List AV}
set_option maxHeartbeats 4000000 in
theorem as_step (hT : am_T G Ts) (hS : am_S G Ts own mn mrt p R s m args meth c cc nL d h0) (hd : ∃ n, decode cc pc = .ok (i, n) ∧ (am_sw i = false → n = ah_ilen i ∧ nx = pc + ah_ilen i)) (hok : am_iok G Ts I P own mn mrt cc pc nx q ts w i)
    (hC : ∀ y as h rv h' N bytes maxL ret, C y as h = some (.inl rv, h') → I y = some (N, bytes, maxL, ret) → ∃ d', d = d' + 1 ∧ am_Met G l N (Cond.code N bytes maxL ret :: Ts) d' as h rv h')
    (hXc : ∀ y as h a h', C y as h = some (.inr a, h') → X a h' = some z → False) (hEx : ∀ kd n, q = [kd, n] → (∃ k, i = .new k) → False) (hNat : q ≠ [20] ∧ q ≠ [21] ∧ ∀ k, i ≠ .checkcast k)
    (hKc : ∀ pc' L' st' h', K pc' L' st' h' = some z → ∀ (ls' : Array Slot) (H' : Heap) (locs' : List Loc) (cells slots : Nat), L'.length = nL → al_has ls' L' → ar_H G.1 G.2.1 G.2.2.1 G.2.2.2.1 G.2.2.2.2.1 h' H' → (∀ q ∈ locs', am_free G h0 h' q.base) → h0.2.2.2 ≤ h'.2.2.2 → W p l e R s m args below meth c H' locs' cells slots Q (F0 m pc' ls' (st'.map toV)))
    (hQ : ∀ rv h', z = (.inl rv, h') → Q = MQ below (am_Qc G h0 rv h') args s (G.2.2.2.1.1 - h0.2.1) (G.2.2.2.1.2 - h0.2.2.1) (am_free G h0 h'))
    (hlen : L.length = nL) (hl : al_has ls L) (hR : ar_H G.1 G.2.1 G.2.2.1 G.2.2.2.1 G.2.2.2.2.1 h H) (hh0 : h0.2.1 = s.heap.size) (hL : ∀ q ∈ locs, am_free G h0 h q.base) (h00 : h0.2.2.2 ≤ h.2.2.2)
    (e1 : ah_step G.2.2.2.1 mrt C X i nx q ts w L st h K = some z) : W p l e R s m args below meth c H locs cells slots Q (F0 m pc ls (st.map toV)) := by
  obtain ⟨hGd, hak, ⟨hm100, hm101, hm102, hm103⟩, hcl⟩ := id hT
  obtain ⟨S, hrt, hlocks, hname, hRm, hK, hX⟩ := id hS
  obtain ⟨hx, hb, hml, hown, hts⟩ := id S
  obtain ⟨n0, hd, hnx⟩ := hd
  have hput : ∀ (a : Nat) (o : ah_O) (k : Nat), G.2.2.2.2.1 ≤ a → (∀ q ∈ locs ++ [⟨a, k⟩], am_free G h0 (ah_up h a o) q.base) ∧ h0.2.2.2 ≤ (ah_up h a o).2.2.2 := by
    intro a o k hba
    have hu : (ah_up h a o).2.2.2 = h.2.2.2 + 1 := rfl
    refine ⟨fun q hq => ?_, by omega⟩
    rcases List.mem_append.mp hq with h1 | h1
    · obtain ⟨z1, z2⟩ := hL q h1
      exact ⟨z1, by omega⟩
    · rw [List.mem_singleton.mp h1]
      exact ⟨hba, by omega⟩
  unfold ah_step at e1
  split at e1
  · obtain ⟨rfl, rfl⟩ := hnx rfl
    split at e1
    · rename_i v
      exact lv_iconst hx hb hd (hok _ rfl) (hKc _ _ _ _ e1 ls H locs _ _ hlen hl hR hL h00)
    · cases e1
  · obtain ⟨rfl, rfl⟩ := hnx rfl
    split at e1
    · rename_i v
      exact lv_bipush hx hb hd (hok _ rfl) (hKc _ _ _ _ e1 ls H locs _ _ hlen hl hR hL h00)
    · cases e1
  · obtain ⟨rfl, rfl⟩ := hnx rfl
    split at e1
    · rename_i v
      exact lv_sipush hx hb hd (hok _ rfl) (hKc _ _ _ _ e1 ls H locs _ _ hlen hl hR hL h00)
    · cases e1
  · obtain ⟨rfl, rfl⟩ := hnx rfl
    split at e1
    · rename_i v
      exact lv_ldc hx hb hown (hts _ (hok _ rfl)) hd (hKc _ _ _ _ e1 ls H locs _ _ hlen hl hR hL h00)
    · cases e1
  · obtain ⟨rfl, rfl⟩ := hnx rfl
    split at e1
    · rename_i v
      exact lv_ldcw hx hb hown (hts _ (hok _ rfl)) hd (hKc _ _ _ _ e1 ls H locs _ _ hlen hl hR hL h00)
    · cases e1
  · obtain ⟨rfl, rfl⟩ := hnx rfl
    split at e1
    · rename_i v
      exact lv_lconst hx hb hd (hok _ rfl) (hKc _ _ _ _ e1 ls H locs _ _ hlen hl hR hL h00)
    · cases e1
  · obtain ⟨rfl, rfl⟩ := hnx rfl
    split at e1
    · rename_i v
      exact lv_ldc2 hx hb hown (hts _ (hok _ rfl)) hd (hKc _ _ _ _ e1 ls H locs _ _ hlen hl hR hL h00)
    · cases e1
  · obtain ⟨rfl, rfl⟩ := hnx rfl
    split at e1
    · rename_i k
      obtain ⟨x, h1, e2⟩ := vI_inv e1
      cases hok _ rfl
      exact lv_iload hx hb hd (hl.2.2 _ _ h1) (hKc _ _ _ _ e2 ls H locs _ _ hlen hl hR hL h00)
    · cases e1
  · obtain ⟨rfl, rfl⟩ := hnx rfl
    split at e1
    · rename_i k
      obtain ⟨x, h1, e2⟩ := vI_inv e1
      cases hok _ rfl
      exact lv_iload_n hx hb hd rfl (hl.2.2 _ _ h1) (hKc _ _ _ _ e2 ls H locs _ _ hlen hl hR hL h00)
    · cases e1
  · obtain ⟨rfl, rfl⟩ := hnx rfl
    split at e1
    · rename_i k
      obtain ⟨x, h1, e2⟩ := vJ_inv e1
      cases hok _ rfl
      exact lv_lload hx hb hd (hl.2.2 _ _ h1) (hKc _ _ _ _ e2 ls H locs _ _ hlen hl hR hL h00)
    · cases e1
  · obtain ⟨rfl, rfl⟩ := hnx rfl
    split at e1
    · rename_i k
      obtain ⟨x, h1, e2⟩ := vJ_inv e1
      cases hok _ rfl
      exact lv_lload_n hx hb hd rfl (hl.2.2 _ _ h1) (hKc _ _ _ _ e2 ls H locs _ _ hlen hl hR hL h00)
    · cases e1
  · obtain ⟨rfl, rfl⟩ := hnx rfl
    split at e1
    · rename_i k
      obtain ⟨x, h1, e2⟩ := vR_inv e1
      cases hok _ rfl
      have h2 := hl.2.2 _ _ h1
      cases x with
      | none => exact lv_aloadN hx hb hd h2 (hKc _ _ _ _ e2 ls H locs _ _ hlen hl hR hL h00)
      | some a => exact lv_aload hx hb hd h2 (hKc _ _ _ _ e2 ls H locs _ _ hlen hl hR hL h00)
    · cases e1
  · obtain ⟨rfl, rfl⟩ := hnx rfl
    split at e1
    · rename_i k
      obtain ⟨x, h1, e2⟩ := vR_inv e1
      cases hok _ rfl
      have h2 := hl.2.2 _ _ h1
      cases x with
      | none => exact lv_aload_nN hx hb hd rfl h2 (hKc _ _ _ _ e2 ls H locs _ _ hlen hl hR hL h00)
      | some a => exact lv_aload_n hx hb hd rfl h2 (hKc _ _ _ _ e2 ls H locs _ _ hlen hl hR hL h00)
    · cases e1
  · obtain ⟨rfl, rfl⟩ := hnx rfl
    split at e1
    · rename_i k x st
      cases hok _ rfl
      unfold ah_st1 at e1
      split at e1
      · rename_i L1 hL1
        have hsp := ah_sk hL1
        refine lv_istore hx hb hd hl.lv (by omega) rfl (fun ls' hl' => ?_)
        exact hKc _ _ _ _ e1 ls' H locs _ _ (by omega) (al_store1 hL1 hl') hR hL h00
      · cases e1
    · cases e1
  · obtain ⟨rfl, rfl⟩ := hnx rfl
    split at e1
    · rename_i k x st
      cases hok _ rfl
      unfold ah_st1 at e1
      split at e1
      · rename_i L1 hL1
        have hsp := ah_sk hL1
        refine lv_istore_n hx hb hd rfl hl.lv (by omega) rfl (fun ls' hl' => ?_)
        exact hKc _ _ _ _ e1 ls' H locs _ _ (by omega) (al_store1 hL1 hl') hR hL h00
      · cases e1
    · cases e1
  · obtain ⟨rfl, rfl⟩ := hnx rfl
    split at e1
    · rename_i k x st
      cases hok _ rfl
      unfold ah_st2 at e1
      split at e1
      · rename_i L1 hL1
        split at e1
        · rename_i L2 hL2
          have hsp := ah_sk hL1
          have hsp2 := ah_set_spec hL2
          refine lv_lstore hx hb hd hl.lv (by omega) rfl (fun ls' hl' => ?_)
          exact hKc _ _ _ _ e1 ls' H locs _ _ (by omega) (al_store2 hL1 hL2 hl') hR hL h00
        · cases e1
      · cases e1
    · cases e1
  · obtain ⟨rfl, rfl⟩ := hnx rfl
    split at e1
    · rename_i k x st
      cases hok _ rfl
      unfold ah_st2 at e1
      split at e1
      · rename_i L1 hL1
        split at e1
        · rename_i L2 hL2
          have hsp := ah_sk hL1
          have hsp2 := ah_set_spec hL2
          refine lv_lstore_n hx hb hd rfl hl.lv (by omega) rfl (fun ls' hl' => ?_)
          exact hKc _ _ _ _ e1 ls' H locs _ _ (by omega) (al_store2 hL1 hL2 hl') hR hL h00
        · cases e1
      · cases e1
    · cases e1
  · obtain ⟨rfl, rfl⟩ := hnx rfl
    split at e1
    · rename_i k x st
      cases hok _ rfl
      unfold ah_st1 at e1
      split at e1
      · rename_i L1 hL1
        have hsp := ah_sk hL1
        cases x with
        | none =>
          refine lv_astoreN hx hb hd hl.lv (by omega) rfl (fun ls' hl' => ?_)
          exact hKc _ _ _ _ e1 ls' H locs _ _ (by omega) (al_store1 hL1 hl') hR hL h00
        | some a =>
          refine lv_astore hx hb hd hl.lv (by omega) rfl (fun ls' hl' => ?_)
          exact hKc _ _ _ _ e1 ls' H locs _ _ (by omega) (al_store1 hL1 hl') hR hL h00
      · cases e1
    · cases e1
  · obtain ⟨rfl, rfl⟩ := hnx rfl
    split at e1
    · rename_i k x st
      cases hok _ rfl
      unfold ah_st1 at e1
      split at e1
      · rename_i L1 hL1
        have hsp := ah_sk hL1
        cases x with
        | none =>
          refine lv_astore_nN hx hb hd rfl hl.lv (by omega) rfl (fun ls' hl' => ?_)
          exact hKc _ _ _ _ e1 ls' H locs _ _ (by omega) (al_store1 hL1 hl') hR hL h00
        | some a =>
          refine lv_astore_n hx hb hd rfl hl.lv (by omega) rfl (fun ls' hl' => ?_)
          exact hKc _ _ _ _ e1 ls' H locs _ _ (by omega) (al_store1 hL1 hl') hR hL h00
      · cases e1
    · cases e1
  · obtain ⟨rfl, rfl⟩ := hnx rfl
    split at e1
    · rename_i k v
      obtain ⟨x, h1, e2⟩ := vI_inv e1
      obtain ⟨rfl, rfl⟩ := hok _ _ rfl rfl
      unfold ah_st1 at e2
      split at e2
      · rename_i L1 hL1
        have hsp := ah_sk hL1
        obtain ⟨j, hj⟩ := List.getElem?_of_mem (al_as_mem.mpr ⟨_, h1, rfl⟩)
        refine lv_iinc hx hb hd hl.lv hj rfl (by omega) rfl (fun ls' hl' => ?_)
        exact hKc _ _ _ _ e2 ls' H locs _ _ (by omega) (al_store1 hL1 hl') hR hL h00
      · cases e2
    · cases e1
  · split at e1
    · obtain ⟨rfl, -⟩ := hnx rfl
      exact lv_goto hx hb hd (hok _ rfl) (hKc _ _ _ _ e1 ls H locs _ _ hlen hl hR hL h00)
    · cases e1
  · obtain ⟨rfl, rfl⟩ := hnx rfl
    split at e1
    · rename_i t x st
      split at e1
      · exact lv_if_eq hx hb hd (hok _ rfl) (fun g => (hKc _ _ _ _ (if_t e1 g) ls H locs _ _ hlen hl hR hL h00)) (fun g => (hKc _ _ _ _ (if_f e1 g) ls H locs _ _ hlen hl hR hL h00))
      · exact lv_if_ne hx hb hd (hok _ rfl) (fun g => (hKc _ _ _ _ (if_f e1 g) ls H locs _ _ hlen hl hR hL h00)) (fun g => (hKc _ _ _ _ (if_t e1 g) ls H locs _ _ hlen hl hR hL h00))
      · exact lv_if_lt hx hb hd (hok _ rfl) (fun g => (hKc _ _ _ _ (if_t e1 g) ls H locs _ _ hlen hl hR hL h00)) (fun g => (hKc _ _ _ _ (if_f e1 g) ls H locs _ _ hlen hl hR hL h00))
      · exact lv_if_ge hx hb hd (hok _ rfl) (fun g => (hKc _ _ _ _ (if_f e1 (i32_le g)) ls H locs _ _ hlen hl hR hL h00)) (fun g => (hKc _ _ _ _ (if_t e1 (i32_nle g)) ls H locs _ _ hlen hl hR hL h00))
      · exact lv_if_gt hx hb hd (hok _ rfl) (fun g => (hKc _ _ _ _ (if_f e1 (i32_lt g)) ls H locs _ _ hlen hl hR hL h00)) (fun g => (hKc _ _ _ _ (if_t e1 (i32_nlt g)) ls H locs _ _ hlen hl hR hL h00))
      · exact lv_if_le hx hb hd (hok _ rfl) (fun g => (hKc _ _ _ _ (if_t e1 g) ls H locs _ _ hlen hl hR hL h00)) (fun g => (hKc _ _ _ _ (if_f e1 g) ls H locs _ _ hlen hl hR hL h00))
    · cases e1
  · obtain ⟨rfl, rfl⟩ := hnx rfl
    split at e1
    · rename_i t y x st
      split at e1
      · exact lv_icmp_eq hx hb hd (hok _ rfl) (fun g => (hKc _ _ _ _ (if_t e1 g) ls H locs _ _ hlen hl hR hL h00)) (fun g => (hKc _ _ _ _ (if_f e1 g) ls H locs _ _ hlen hl hR hL h00))
      · exact lv_icmp_ne hx hb hd (hok _ rfl) (fun g => (hKc _ _ _ _ (if_f e1 g) ls H locs _ _ hlen hl hR hL h00)) (fun g => (hKc _ _ _ _ (if_t e1 g) ls H locs _ _ hlen hl hR hL h00))
      · exact lv_icmp_lt hx hb hd (hok _ rfl) (fun g => (hKc _ _ _ _ (if_t e1 g) ls H locs _ _ hlen hl hR hL h00)) (fun g => (hKc _ _ _ _ (if_f e1 g) ls H locs _ _ hlen hl hR hL h00))
      · exact lv_icmp_ge hx hb hd (hok _ rfl) (fun g => (hKc _ _ _ _ (if_f e1 (i32_le g)) ls H locs _ _ hlen hl hR hL h00)) (fun g => (hKc _ _ _ _ (if_t e1 (i32_nle g)) ls H locs _ _ hlen hl hR hL h00))
      · exact lv_icmp_gt hx hb hd (hok _ rfl) (fun g => (hKc _ _ _ _ (if_f e1 (i32_lt g)) ls H locs _ _ hlen hl hR hL h00)) (fun g => (hKc _ _ _ _ (if_t e1 (i32_nlt g)) ls H locs _ _ hlen hl hR hL h00))
      · exact lv_icmp_le hx hb hd (hok _ rfl) (fun g => (hKc _ _ _ _ (if_t e1 g) ls H locs _ _ hlen hl hR hL h00)) (fun g => (hKc _ _ _ _ (if_f e1 g) ls H locs _ _ hlen hl hR hL h00))
    · cases e1
  · obtain ⟨rfl, rfl⟩ := hnx rfl
    split at e1
    · rename_i t r st
      cases r with
      | none => exact lv_ifnullN hx hb hd (hok _ rfl) (hKc _ _ _ _ (if_t e1 rfl) ls H locs _ _ hlen hl hR hL h00)
      | some a => exact lv_ifnull hx hb hd (hKc _ _ _ _ (if_f e1 (fun g => by cases g)) ls H locs _ _ hlen hl hR hL h00)
    · cases e1
  · obtain ⟨rfl, rfl⟩ := hnx rfl
    split at e1
    · rename_i t r st
      cases r with
      | none => exact lv_ifnonnullN hx hb hd (hKc _ _ _ _ (if_t e1 rfl) ls H locs _ _ hlen hl hR hL h00)
      | some a => exact lv_ifnonnull hx hb hd (hok _ rfl) (hKc _ _ _ _ (if_f e1 (fun g => by cases g)) ls H locs _ _ hlen hl hR hL h00)
    · cases e1
  · obtain ⟨rfl, rfl⟩ := hnx rfl
    split at e1
    · rename_i t y x st
      split at e1
      · exact lv_acmp_eq hx hb hd (hok _ rfl) (fun g => (hKc _ _ _ _ (if_t e1 g) ls H locs _ _ hlen hl hR hL h00)) (fun g => (hKc _ _ _ _ (if_f e1 g) ls H locs _ _ hlen hl hR hL h00))
      · exact lv_acmp_ne hx hb hd (hok _ rfl) (fun g => (hKc _ _ _ _ (if_f e1 g) ls H locs _ _ hlen hl hR hL h00)) (fun g => (hKc _ _ _ _ (if_t e1 g) ls H locs _ _ hlen hl hR hL h00))
    · cases e1
  all_goals sorry
end AStep
