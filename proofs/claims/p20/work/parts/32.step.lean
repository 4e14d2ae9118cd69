/-! ONE STEP OF THE ABSTRACT MACHINE IS ONE OF THE MACHINE'S (written by wip/tools/stepgen.py) -/
section AStep
variable {p : Program} {l : Launch} {e : Env} {R : Room} {s : State} {m : MethodId} {args : Array Value} {below : List Frame} {meth : Method} {c : Code} {H : Heap} {locs : List Loc} {cells slots : Nat} {Q : State → Prop}
variable {G : am_G} {Ts : List Cond} {I : am_I} {P : Nat → Option ah_M} {own mn : String} {mrt : Nat} {cc : ByteArray} {nL d pc nx : Nat} {h0 h : ah_H} {ls : Array Slot} {L : ah_L} {st : List AV} {z : ah_R} {C : ah_C} {X : Nat × Nat → ah_H → Option ah_R} {K : ah_K} {i : Instr} {q : List Nat} {ts : List (Int32 × Nat)} {w : List AV}
set_option maxHeartbeats 4000000 in
theorem as_step (hT : am_T G Ts) (hS : am_S G Ts own mn mrt p R s m args meth c cc nL d h0) (hd : ∃ n, decode cc pc = .ok (i, n) ∧ (am_sw i = false → n = ah_ilen i ∧ nx = pc + ah_ilen i)) (hok : am_iok G Ts I P own mn mrt cc pc nx q ts w i)
    (hC : ∀ y as h rv h' N bytes maxL ret hh, C y as h = some (.inl rv, h') → I y = some (N, bytes, maxL, ret, hh) → ∃ d', d = d' + 1 ∧ am_Met G l N (am_w N bytes maxL ret hh :: Ts) d' as h rv h')
    (hXs : ∀ y as a h', (∃ k, i = .invokestatic k ∨ i = .invokespecial k) → C y as h = some (.inr a, h') → X a h' = some z → False)
    (hXv : ∀ k kd y na rt bs a0 st1 vs a h', i = .invokevirtual k → q = [1, kd, y, na, rt] → st = bs.reverse ++ .inr (.inr (some a0)) :: st1 → bs.length = na → h.1 a0 = some (kd, vs) → ah_wt st1 ≤ 8 → C y (.inr (.inr (some a0)) :: bs) h = some (.inr a, h') → X a h' = some z → W p l e R s m args below meth c H locs cells slots Q (F0 m pc ls (st.map toV)))
    (hEx : ∀ k kd n, i = .new k → q = [kd, n] → (h.2.1 < G.2.2.2.1.1 ∧ h.2.2.1 + n ≤ G.2.2.2.1.2) → z = (.inr (kd, h.2.1), ah_new h (kd, []) n) → W p l e R s m args below meth c H locs cells slots Q (F0 m pc ls (st.map toV))) (hNat : (∀ k, i = .invokevirtual k → q ≠ [21]) ∧ ∀ k, i ≠ .checkcast k)
    (hKc : ∀ pc' L' st' h', K pc' L' st' h' = some z → ∀ (ls' : Array Slot) (H' : Heap) (locs' : List Loc) (cells slots : Nat), L'.length = nL → al_has ls' L' → ar_H G.1 G.2.1 G.2.2.1 G.2.2.2.1 G.2.2.2.2.1 (am_B G) h' H' → (∀ q ∈ locs', am_free G h0 h' q.base) → h0.2.2.2 ≤ h'.2.2.2 → W p l e R s m args below meth c H' locs' cells slots Q (F0 m pc' ls' (st'.map toV)))
    (hQ : ∀ rv h', z = (.inl rv, h') → Q = MQ below (am_Qc G h0 rv h') args s (G.2.2.2.1.1 - h0.2.1) (G.2.2.2.1.2 - h0.2.2.1) (am_free G h0 h'))
    (hlen : L.length = nL) (hl : al_has ls L) (hR : ar_H G.1 G.2.1 G.2.2.1 G.2.2.2.1 G.2.2.2.2.1 (am_B G) h H) (hh0 : h0.2.1 = s.heap.size) (hL : ∀ q ∈ locs, am_free G h0 h q.base) (h00 : h0.2.2.2 ≤ h.2.2.2)
    (e1 : ah_step G.2.2.2.1 mrt C X i nx q ts w L st h K = some z) : W p l e R s m args below meth c H locs cells slots Q (F0 m pc ls (st.map toV)) := by
  obtain ⟨hGd, hak, ⟨hm100, hm101, hm102, hm103, hm104⟩, hcl⟩ := id hT
  obtain ⟨S, hrt, hlocks, hname, hRm, hK, hX⟩ := id hS
  obtain ⟨hx, hb, hml, hown, hts⟩ := id S
  obtain ⟨n0, hd, hnx⟩ := hd
  have hput : ∀ (a : Nat) (o : ah_O) (k : Nat), G.2.2.2.2.1 ≤ a → (∀ q ∈ locs ++ [⟨a, k⟩], am_free G h0 (ah_up h a o) q.base) ∧ h0.2.2.2 ≤ (ah_up h a o).2.2.2 := by
    intro a o k hba
    have hu : (ah_up h a o).2.2.2 = h.2.2.2 + 1 := rfl
    refine ⟨fun q hq => ?_, by omega⟩
    rcases List.mem_append.mp hq with h1 | h1
    · obtain ⟨z1, z2⟩ := hL q h1
      exact ⟨z1, by omega⟩
    · rw [List.mem_singleton.mp h1]
      exact ⟨hba, by omega⟩
  unfold ah_step at e1
  split at e1
  · obtain ⟨rfl, rfl⟩ := hnx rfl
    split at e1
    · rename_i v
      exact lv_iconst hx hb hd (hok _ rfl) (hKc _ _ _ _ e1 ls H locs _ _ hlen hl hR hL h00)
    · cases e1
  · obtain ⟨rfl, rfl⟩ := hnx rfl
    split at e1
    · rename_i v
      exact lv_bipush hx hb hd (hok _ rfl) (hKc _ _ _ _ e1 ls H locs _ _ hlen hl hR hL h00)
    · cases e1
  · obtain ⟨rfl, rfl⟩ := hnx rfl
    split at e1
    · rename_i v
      exact lv_sipush hx hb hd (hok _ rfl) (hKc _ _ _ _ e1 ls H locs _ _ hlen hl hR hL h00)
    · cases e1
  · obtain ⟨rfl, rfl⟩ := hnx rfl
    split at e1
    · rename_i v
      exact lv_ldc hx hb hown (hts _ (hok _ rfl)) hd (hKc _ _ _ _ e1 ls H locs _ _ hlen hl hR hL h00)
    · cases e1
  · obtain ⟨rfl, rfl⟩ := hnx rfl
    split at e1
    · rename_i v
      exact lv_ldcw hx hb hown (hts _ (hok _ rfl)) hd (hKc _ _ _ _ e1 ls H locs _ _ hlen hl hR hL h00)
    · cases e1
  · obtain ⟨rfl, rfl⟩ := hnx rfl
    split at e1
    · rename_i v
      exact lv_lconst hx hb hd (hok _ rfl) (hKc _ _ _ _ e1 ls H locs _ _ hlen hl hR hL h00)
    · cases e1
  · obtain ⟨rfl, rfl⟩ := hnx rfl
    split at e1
    · rename_i v
      exact lv_ldc2 hx hb hown (hts _ (hok _ rfl)) hd (hKc _ _ _ _ e1 ls H locs _ _ hlen hl hR hL h00)
    · cases e1
  · obtain ⟨rfl, rfl⟩ := hnx rfl
    split at e1
    · rename_i k
      obtain ⟨x, h1, e2⟩ := vI_inv e1
      cases hok _ rfl
      exact lv_iload hx hb hd (hl.2.2 _ _ h1) (hKc _ _ _ _ e2 ls H locs _ _ hlen hl hR hL h00)
    · cases e1
  · obtain ⟨rfl, rfl⟩ := hnx rfl
    split at e1
    · rename_i k
      obtain ⟨x, h1, e2⟩ := vI_inv e1
      cases hok _ rfl
      exact lv_iload_n hx hb hd rfl (hl.2.2 _ _ h1) (hKc _ _ _ _ e2 ls H locs _ _ hlen hl hR hL h00)
    · cases e1
  · obtain ⟨rfl, rfl⟩ := hnx rfl
    split at e1
    · rename_i k
      obtain ⟨x, h1, e2⟩ := vJ_inv e1
      cases hok _ rfl
      exact lv_lload hx hb hd (hl.2.2 _ _ h1) (hKc _ _ _ _ e2 ls H locs _ _ hlen hl hR hL h00)
    · cases e1
  · obtain ⟨rfl, rfl⟩ := hnx rfl
    split at e1
    · rename_i k
      obtain ⟨x, h1, e2⟩ := vJ_inv e1
      cases hok _ rfl
      exact lv_lload_n hx hb hd rfl (hl.2.2 _ _ h1) (hKc _ _ _ _ e2 ls H locs _ _ hlen hl hR hL h00)
    · cases e1
  · obtain ⟨rfl, rfl⟩ := hnx rfl
    split at e1
    · rename_i k
      obtain ⟨x, h1, e2⟩ := vR_inv e1
      cases hok _ rfl
      have h2 := hl.2.2 _ _ h1
      cases x with
      | none => exact lv_aloadN hx hb hd h2 (hKc _ _ _ _ e2 ls H locs _ _ hlen hl hR hL h00)
      | some a => exact lv_aload hx hb hd h2 (hKc _ _ _ _ e2 ls H locs _ _ hlen hl hR hL h00)
    · cases e1
  · obtain ⟨rfl, rfl⟩ := hnx rfl
    split at e1
    · rename_i k
      obtain ⟨x, h1, e2⟩ := vR_inv e1
      cases hok _ rfl
      have h2 := hl.2.2 _ _ h1
      cases x with
      | none => exact lv_aload_nN hx hb hd rfl h2 (hKc _ _ _ _ e2 ls H locs _ _ hlen hl hR hL h00)
      | some a => exact lv_aload_n hx hb hd rfl h2 (hKc _ _ _ _ e2 ls H locs _ _ hlen hl hR hL h00)
    · cases e1
  · obtain ⟨rfl, rfl⟩ := hnx rfl
    split at e1
    · rename_i k x st
      cases hok _ rfl
      unfold ah_st1 at e1
      split at e1
      · rename_i L1 hL1
        have hsp := ah_sk hL1
        refine lv_istore hx hb hd hl.lv (by omega) rfl (fun ls' hl' => ?_)
        exact hKc _ _ _ _ e1 ls' H locs _ _ (by omega) (al_store1 hL1 hl') hR hL h00
      · cases e1
    · cases e1
  · obtain ⟨rfl, rfl⟩ := hnx rfl
    split at e1
    · rename_i k x st
      cases hok _ rfl
      unfold ah_st1 at e1
      split at e1
      · rename_i L1 hL1
        have hsp := ah_sk hL1
        refine lv_istore_n hx hb hd rfl hl.lv (by omega) rfl (fun ls' hl' => ?_)
        exact hKc _ _ _ _ e1 ls' H locs _ _ (by omega) (al_store1 hL1 hl') hR hL h00
      · cases e1
    · cases e1
  · obtain ⟨rfl, rfl⟩ := hnx rfl
    split at e1
    · rename_i k x st
      cases hok _ rfl
      unfold ah_st2 at e1
      split at e1
      · rename_i L1 hL1
        split at e1
        · rename_i L2 hL2
          have hsp := ah_sk hL1
          have hsp2 := ah_set_spec hL2
          refine lv_lstore hx hb hd hl.lv (by omega) rfl (fun ls' hl' => ?_)
          exact hKc _ _ _ _ e1 ls' H locs _ _ (by omega) (al_store2 hL1 hL2 hl') hR hL h00
        · cases e1
      · cases e1
    · cases e1
  · obtain ⟨rfl, rfl⟩ := hnx rfl
    split at e1
    · rename_i k x st
      cases hok _ rfl
      unfold ah_st2 at e1
      split at e1
      · rename_i L1 hL1
        split at e1
        · rename_i L2 hL2
          have hsp := ah_sk hL1
          have hsp2 := ah_set_spec hL2
          refine lv_lstore_n hx hb hd rfl hl.lv (by omega) rfl (fun ls' hl' => ?_)
          exact hKc _ _ _ _ e1 ls' H locs _ _ (by omega) (al_store2 hL1 hL2 hl') hR hL h00
        · cases e1
      · cases e1
    · cases e1
  · obtain ⟨rfl, rfl⟩ := hnx rfl
    split at e1
    · rename_i k x st
      cases hok _ rfl
      unfold ah_st1 at e1
      split at e1
      · rename_i L1 hL1
        have hsp := ah_sk hL1
        cases x with
        | none =>
          refine lv_astoreN hx hb hd hl.lv (by omega) rfl (fun ls' hl' => ?_)
          exact hKc _ _ _ _ e1 ls' H locs _ _ (by omega) (al_store1 hL1 hl') hR hL h00
        | some a =>
          refine lv_astore hx hb hd hl.lv (by omega) rfl (fun ls' hl' => ?_)
          exact hKc _ _ _ _ e1 ls' H locs _ _ (by omega) (al_store1 hL1 hl') hR hL h00
      · cases e1
    · cases e1
  · obtain ⟨rfl, rfl⟩ := hnx rfl
    split at e1
    · rename_i k x st
      cases hok _ rfl
      unfold ah_st1 at e1
      split at e1
      · rename_i L1 hL1
        have hsp := ah_sk hL1
        cases x with
        | none =>
          refine lv_astore_nN hx hb hd rfl hl.lv (by omega) rfl (fun ls' hl' => ?_)
          exact hKc _ _ _ _ e1 ls' H locs _ _ (by omega) (al_store1 hL1 hl') hR hL h00
        | some a =>
          refine lv_astore_n hx hb hd rfl hl.lv (by omega) rfl (fun ls' hl' => ?_)
          exact hKc _ _ _ _ e1 ls' H locs _ _ (by omega) (al_store1 hL1 hl') hR hL h00
      · cases e1
    · cases e1
  · obtain ⟨rfl, rfl⟩ := hnx rfl
    split at e1
    · rename_i k v
      obtain ⟨x, h1, e2⟩ := vI_inv e1
      obtain ⟨rfl, rfl⟩ := hok _ _ rfl rfl
      unfold ah_st1 at e2
      split at e2
      · rename_i L1 hL1
        have hsp := ah_sk hL1
        obtain ⟨j, hj⟩ := List.getElem?_of_mem (al_as_mem.mpr ⟨_, h1, rfl⟩)
        refine lv_iinc hx hb hd hl.lv hj rfl (by omega) rfl (fun ls' hl' => ?_)
        exact hKc _ _ _ _ e2 ls' H locs _ _ (by omega) (al_store1 hL1 hl') hR hL h00
      · cases e2
    · cases e1
  · split at e1
    · obtain ⟨rfl, -⟩ := hnx rfl
      exact lv_goto hx hb hd (hok _ rfl) (hKc _ _ _ _ e1 ls H locs _ _ hlen hl hR hL h00)
    · cases e1
  · obtain ⟨rfl, rfl⟩ := hnx rfl
    split at e1
    · rename_i t x st
      split at e1
      · exact lv_if_eq hx hb hd (hok _ rfl) (fun g => (hKc _ _ _ _ (if_t e1 g) ls H locs _ _ hlen hl hR hL h00)) (fun g => (hKc _ _ _ _ (if_f e1 g) ls H locs _ _ hlen hl hR hL h00))
      · exact lv_if_ne hx hb hd (hok _ rfl) (fun g => (hKc _ _ _ _ (if_f e1 g) ls H locs _ _ hlen hl hR hL h00)) (fun g => (hKc _ _ _ _ (if_t e1 g) ls H locs _ _ hlen hl hR hL h00))
      · exact lv_if_lt hx hb hd (hok _ rfl) (fun g => (hKc _ _ _ _ (if_t e1 g) ls H locs _ _ hlen hl hR hL h00)) (fun g => (hKc _ _ _ _ (if_f e1 g) ls H locs _ _ hlen hl hR hL h00))
      · exact lv_if_ge hx hb hd (hok _ rfl) (fun g => (hKc _ _ _ _ (if_f e1 (i32_le g)) ls H locs _ _ hlen hl hR hL h00)) (fun g => (hKc _ _ _ _ (if_t e1 (i32_nle g)) ls H locs _ _ hlen hl hR hL h00))
      · exact lv_if_gt hx hb hd (hok _ rfl) (fun g => (hKc _ _ _ _ (if_f e1 (i32_lt g)) ls H locs _ _ hlen hl hR hL h00)) (fun g => (hKc _ _ _ _ (if_t e1 (i32_nlt g)) ls H locs _ _ hlen hl hR hL h00))
      · exact lv_if_le hx hb hd (hok _ rfl) (fun g => (hKc _ _ _ _ (if_t e1 g) ls H locs _ _ hlen hl hR hL h00)) (fun g => (hKc _ _ _ _ (if_f e1 g) ls H locs _ _ hlen hl hR hL h00))
    · cases e1
  · obtain ⟨rfl, rfl⟩ := hnx rfl
    split at e1
    · rename_i t y x st
      split at e1
      · exact lv_icmp_eq hx hb hd (hok _ rfl) (fun g => (hKc _ _ _ _ (if_t e1 g) ls H locs _ _ hlen hl hR hL h00)) (fun g => (hKc _ _ _ _ (if_f e1 g) ls H locs _ _ hlen hl hR hL h00))
      · exact lv_icmp_ne hx hb hd (hok _ rfl) (fun g => (hKc _ _ _ _ (if_f e1 g) ls H locs _ _ hlen hl hR hL h00)) (fun g => (hKc _ _ _ _ (if_t e1 g) ls H locs _ _ hlen hl hR hL h00))
      · exact lv_icmp_lt hx hb hd (hok _ rfl) (fun g => (hKc _ _ _ _ (if_t e1 g) ls H locs _ _ hlen hl hR hL h00)) (fun g => (hKc _ _ _ _ (if_f e1 g) ls H locs _ _ hlen hl hR hL h00))
      · exact lv_icmp_ge hx hb hd (hok _ rfl) (fun g => (hKc _ _ _ _ (if_f e1 (i32_le g)) ls H locs _ _ hlen hl hR hL h00)) (fun g => (hKc _ _ _ _ (if_t e1 (i32_nle g)) ls H locs _ _ hlen hl hR hL h00))
      · exact lv_icmp_gt hx hb hd (hok _ rfl) (fun g => (hKc _ _ _ _ (if_f e1 (i32_lt g)) ls H locs _ _ hlen hl hR hL h00)) (fun g => (hKc _ _ _ _ (if_t e1 (i32_nlt g)) ls H locs _ _ hlen hl hR hL h00))
      · exact lv_icmp_le hx hb hd (hok _ rfl) (fun g => (hKc _ _ _ _ (if_t e1 g) ls H locs _ _ hlen hl hR hL h00)) (fun g => (hKc _ _ _ _ (if_f e1 g) ls H locs _ _ hlen hl hR hL h00))
    · cases e1
  · obtain ⟨rfl, rfl⟩ := hnx rfl
    split at e1
    · rename_i t r st
      cases r with
      | none => exact lv_ifnullN hx hb hd (hok _ rfl) (hKc _ _ _ _ (if_t e1 rfl) ls H locs _ _ hlen hl hR hL h00)
      | some a => exact lv_ifnull hx hb hd (hKc _ _ _ _ (if_f e1 (fun g => by cases g)) ls H locs _ _ hlen hl hR hL h00)
    · cases e1
  · obtain ⟨rfl, rfl⟩ := hnx rfl
    split at e1
    · rename_i t r st
      cases r with
      | none => exact lv_ifnonnullN hx hb hd (hKc _ _ _ _ (if_t e1 rfl) ls H locs _ _ hlen hl hR hL h00)
      | some a => exact lv_ifnonnull hx hb hd (hok _ rfl) (hKc _ _ _ _ (if_f e1 (fun g => by cases g)) ls H locs _ _ hlen hl hR hL h00)
    · cases e1
  · obtain ⟨rfl, rfl⟩ := hnx rfl
    split at e1
    · rename_i t y x st
      split at e1
      · exact lv_acmp_eq hx hb hd (hok _ rfl) (fun g => (hKc _ _ _ _ (if_t e1 g) ls H locs _ _ hlen hl hR hL h00)) (fun g => (hKc _ _ _ _ (if_f e1 g) ls H locs _ _ hlen hl hR hL h00))
      · exact lv_acmp_ne hx hb hd (hok _ rfl) (fun g => (hKc _ _ _ _ (if_f e1 g) ls H locs _ _ hlen hl hR hL h00)) (fun g => (hKc _ _ _ _ (if_t e1 g) ls H locs _ _ hlen hl hR hL h00))
    · cases e1
  · split at e1
    · rename_i t x st
      obtain ⟨k1, k2, k3⟩ := hok _ rfl
      rcases sw_inv e1 with ⟨g1, g2⟩ | ⟨t, g1, g2⟩
      · exact lv_tableOut hx hb hd (k2 _ g1) k1 (hKc _ _ _ _ g2 ls H locs _ _ hlen hl hR hL h00)
      · obtain ⟨j1, j2, off, j3, j4⟩ := k3 _ _ g1
        exact lv_tableIn hx hb hd j1 j2 j3 j4 (hKc _ _ _ _ g2 ls H locs _ _ hlen hl hR hL h00)
    · cases e1
  · split at e1
    · rename_i t x st
      obtain ⟨k0, k1, k2⟩ := hok _ rfl
      rcases sw_inv e1 with ⟨g1, g2⟩ | ⟨t, g1, g2⟩
      · exact lv_lookup hx hb hd k0 rfl (k1 _ g1) (hKc _ _ _ _ g2 ls H locs _ _ hlen hl hR hL h00)
      · exact lv_lookup hx hb hd k0 rfl (k2 _ _ g1) (hKc _ _ _ _ g2 ls H locs _ _ hlen hl hR hL h00)
    · cases e1
  · obtain ⟨rfl, rfl⟩ := hnx rfl
    split at e1
    · rename_i y x st
      by_cases g : y = 0
      · rw [if_pos g] at e1; cases e1
      · rw [if_neg g] at e1
        exact lv_idiv hx hb hd g (hKc _ _ _ _ e1 ls H locs _ _ hlen hl hR hL h00)
    · cases e1
  · obtain ⟨rfl, rfl⟩ := hnx rfl
    split at e1
    · rename_i y x st
      by_cases g : y = 0
      · rw [if_pos g] at e1; cases e1
      · rw [if_neg g] at e1
        exact lv_irem hx hb hd g (hKc _ _ _ _ e1 ls H locs _ _ hlen hl hR hL h00)
    · cases e1
  · obtain ⟨rfl, rfl⟩ := hnx rfl
    split at e1
    · rename_i y x st
      by_cases g : y = 0
      · rw [if_pos g] at e1; cases e1
      · rw [if_neg g] at e1
        exact lv_ldiv hx hb hd g (hKc _ _ _ _ e1 ls H locs _ _ hlen hl hR hL h00)
    · cases e1
  · obtain ⟨rfl, rfl⟩ := hnx rfl
    split at e1
    · rename_i y x st
      by_cases g : y = 0
      · rw [if_pos g] at e1; cases e1
      · rw [if_neg g] at e1
        exact lv_lrem hx hb hd g (hKc _ _ _ _ e1 ls H locs _ _ hlen hl hR hL h00)
    · cases e1
  · obtain ⟨rfl, rfl⟩ := hnx rfl
    split at e1
    · rename_i kd k r st
      unfold ah_gI at e1
      obtain ⟨a, vs, rfl, ho, e2⟩ := at_inv e1
      obtain ⟨x, h1, e3⟩ := vI_inv e2
      obtain ⟨C', T, N, c1, c2, c3, c4, c5, -⟩ := hok _ _ _ rfl
      obtain ⟨d1, d2, d3, d4⟩ := hcl _ _ _ _ c1
      exact as_getf hx hb hts d2 hown hK hR ho d1 c1 c2 c3 (hts _ c4) h1 hd (hKc _ _ _ _ e3 ls H locs _ _ hlen hl hR hL h00)
    · rename_i kd k r st
      unfold ah_gJ at e1
      obtain ⟨a, vs, rfl, ho, e2⟩ := at_inv e1
      obtain ⟨x, h1, e3⟩ := vJ_inv e2
      obtain ⟨C', T, N, c1, c2, c3, c4, c5, -⟩ := hok _ _ _ rfl
      obtain ⟨d1, d2, d3, d4⟩ := hcl _ _ _ _ c1
      exact as_getf hx hb hts d2 hown hK hR ho d1 c1 c2 c3 (hts _ c4) h1 hd (hKc _ _ _ _ e3 ls H locs _ _ hlen hl hR hL h00)
    · rename_i kd k r st
      unfold ah_gR at e1
      obtain ⟨a, vs, rfl, ho, e2⟩ := at_inv e1
      obtain ⟨x, h1, e3⟩ := vR_inv e2
      obtain ⟨C', T, N, c1, c2, c3, c4, c5, -⟩ := hok _ _ _ rfl
      obtain ⟨d1, d2, d3, d4⟩ := hcl _ _ _ _ c1
      exact as_getf hx hb hts d2 hown hK hR ho d1 c1 c2 c3 (hts _ c4) h1 hd (hKc _ _ _ _ e3 ls H locs _ _ hlen hl hR hL h00)
    · rename_i kd k r st
      unfold ah_gI at e1
      obtain ⟨a, vs, rfl, ho, e2⟩ := at_inv e1
      obtain ⟨x, h1, e3⟩ := vI_inv e2
      obtain ⟨C', T, N, c1, c2, c3, c4, c5, -⟩ := hok _ _ _ rfl
      obtain ⟨d1, d2, d3, d4⟩ := hcl _ _ _ _ c1
      exact as_getf hx hb hts d2 hown hK hR ho d1 c1 c2 c3 (hts _ c4) h1 hd (hKc _ _ _ _ e3 ls H locs _ _ hlen hl hR hL h00)
    · cases e1
  · obtain ⟨rfl, rfl⟩ := hnx rfl
    split at e1
    · rename_i kd k x r st
      unfold ah_wr at e1
      obtain ⟨a, vs, rfl, ho, e2⟩ := at_inv e1
      obtain ⟨hkl, e3⟩ := ift_inv e2
      obtain ⟨C', T, N, c1, c2, c3, c4, ⟨ty, p1, p2⟩, c6⟩ := hok _ _ _ rfl
      obtain ⟨d1, d2, d3, d4⟩ := hcl _ _ _ _ c1
      have hty : (parseFieldDescriptor (T k).2.2.1).getD .int = ty := by rw [p1]; rfl
      have hne4 : kd ≠ 104 := by omega
      refine as_putf hx hb hts d2 (fun k => (parseFieldDescriptor (T k).2.2.1).getD .int) d4 d3 hown hK hR ho d1 c1 c2 c3 (hts _ c4) (v := .inl x) (fun g => by rw [hname]; exact c6 rfl g) ?_ ?_ hd (fun H' i g => hKc _ _ _ _ e3 ls H' _ _ _ hlen hl g (hput _ _ _ ((hR.2.2.2.2.2 a _ ho).1 hne4)).1 (hput _ _ 0 ((hR.2.2.2.2.2 a _ ho).1 hne4)).2)
      · show narrow ((parseFieldDescriptor (T k).2.2.1).getD .int) _ = _
        rw [hty]
        rcases p2 with ⟨-, rfl⟩ | ⟨g, -⟩ | ⟨g, -⟩ | ⟨g, -⟩ <;> first | (exact absurd g (by decide)) | (rfl)
      · show fits ((parseFieldDescriptor (T k).2.2.1).getD .int) _ = true
        rw [hty]
        rcases p2 with ⟨-, rfl⟩ | ⟨g, -⟩ | ⟨g, -⟩ | ⟨g, -⟩ <;> first | (exact absurd g (by decide)) | (rfl)
    · rename_i kd k x r st
      unfold ah_wr at e1
      obtain ⟨a, vs, rfl, ho, e2⟩ := at_inv e1
      obtain ⟨hkl, e3⟩ := ift_inv e2
      obtain ⟨C', T, N, c1, c2, c3, c4, ⟨ty, p1, p2⟩, c6⟩ := hok _ _ _ rfl
      obtain ⟨d1, d2, d3, d4⟩ := hcl _ _ _ _ c1
      have hty : (parseFieldDescriptor (T k).2.2.1).getD .int = ty := by rw [p1]; rfl
      have hne4 : kd ≠ 104 := by omega
      refine as_putf hx hb hts d2 (fun k => (parseFieldDescriptor (T k).2.2.1).getD .int) d4 d3 hown hK hR ho d1 c1 c2 c3 (hts _ c4) (v := .inr (.inl x)) (fun g => by rw [hname]; exact c6 rfl g) ?_ ?_ hd (fun H' i g => hKc _ _ _ _ e3 ls H' _ _ _ hlen hl g (hput _ _ _ ((hR.2.2.2.2.2 a _ ho).1 hne4)).1 (hput _ _ 0 ((hR.2.2.2.2.2 a _ ho).1 hne4)).2)
      · show narrow ((parseFieldDescriptor (T k).2.2.1).getD .int) _ = _
        rw [hty]
        rcases p2 with ⟨g, -⟩ | ⟨-, rfl⟩ | ⟨g, -⟩ | ⟨g, -⟩ <;> first | (exact absurd g (by decide)) | (rfl)
      · show fits ((parseFieldDescriptor (T k).2.2.1).getD .int) _ = true
        rw [hty]
        rcases p2 with ⟨g, -⟩ | ⟨-, rfl⟩ | ⟨g, -⟩ | ⟨g, -⟩ <;> first | (exact absurd g (by decide)) | (rfl)
    · rename_i kd k x r st
      unfold ah_wr at e1
      obtain ⟨a, vs, rfl, ho, e2⟩ := at_inv e1
      obtain ⟨hkl, e3⟩ := ift_inv e2
      obtain ⟨C', T, N, c1, c2, c3, c4, ⟨ty, p1, p2⟩, c6⟩ := hok _ _ _ rfl
      obtain ⟨d1, d2, d3, d4⟩ := hcl _ _ _ _ c1
      have hty : (parseFieldDescriptor (T k).2.2.1).getD .int = ty := by rw [p1]; rfl
      have hne4 : kd ≠ 104 := by omega
      refine as_putf hx hb hts d2 (fun k => (parseFieldDescriptor (T k).2.2.1).getD .int) d4 d3 hown hK hR ho d1 c1 c2 c3 (hts _ c4) (v := .inr (.inr x)) (fun g => by rw [hname]; exact c6 rfl g) ?_ ?_ hd (fun H' i g => hKc _ _ _ _ e3 ls H' _ _ _ hlen hl g (hput _ _ _ ((hR.2.2.2.2.2 a _ ho).1 hne4)).1 (hput _ _ 0 ((hR.2.2.2.2.2 a _ ho).1 hne4)).2)
      · show narrow ((parseFieldDescriptor (T k).2.2.1).getD .int) _ = _
        rw [hty]
        rcases p2 with ⟨g, -⟩ | ⟨g, -⟩ | ⟨-, hr2⟩ | ⟨g, -⟩ <;> first | (exact absurd g (by decide)) | (rcases hr2 with ⟨n, rfl⟩ | ⟨u, rfl⟩ <;> cases x <;> rfl)
      · show fits ((parseFieldDescriptor (T k).2.2.1).getD .int) _ = true
        rw [hty]
        rcases p2 with ⟨g, -⟩ | ⟨g, -⟩ | ⟨-, hr2⟩ | ⟨g, -⟩ <;> first | (exact absurd g (by decide)) | (rcases hr2 with ⟨n, rfl⟩ | ⟨u, rfl⟩ <;> cases x <;> rfl)
    · rename_i kd k x r st
      obtain ⟨hx01, e1⟩ := ift_inv e1
      unfold ah_wr at e1
      obtain ⟨a, vs, rfl, ho, e2⟩ := at_inv e1
      obtain ⟨hkl, e3⟩ := ift_inv e2
      obtain ⟨C', T, N, c1, c2, c3, c4, ⟨ty, p1, p2⟩, c6⟩ := hok _ _ _ rfl
      obtain ⟨d1, d2, d3, d4⟩ := hcl _ _ _ _ c1
      have hty : (parseFieldDescriptor (T k).2.2.1).getD .int = ty := by rw [p1]; rfl
      have hne4 : kd ≠ 104 := by omega
      refine as_putf hx hb hts d2 (fun k => (parseFieldDescriptor (T k).2.2.1).getD .int) d4 d3 hown hK hR ho d1 c1 c2 c3 (hts _ c4) (v := .inl x) (fun g => by rw [hname]; exact c6 rfl g) ?_ ?_ hd (fun H' i g => hKc _ _ _ _ e3 ls H' _ _ _ hlen hl g (hput _ _ _ ((hR.2.2.2.2.2 a _ ho).1 hne4)).1 (hput _ _ 0 ((hR.2.2.2.2.2 a _ ho).1 hne4)).2)
      · show narrow ((parseFieldDescriptor (T k).2.2.1).getD .int) _ = _
        rw [hty]
        rcases p2 with ⟨g, -⟩ | ⟨g, -⟩ | ⟨g, -⟩ | ⟨-, rfl⟩ <;> first | (exact absurd g (by decide)) | (rcases hx01 with rfl | rfl <;> rfl)
      · show fits ((parseFieldDescriptor (T k).2.2.1).getD .int) _ = true
        rw [hty]
        rcases p2 with ⟨g, -⟩ | ⟨g, -⟩ | ⟨g, -⟩ | ⟨-, rfl⟩ <;> first | (exact absurd g (by decide)) | (rcases hx01 with rfl | rfl <;> rfl)
    · cases e1
  · obtain ⟨rfl, rfl⟩ := hnx rfl
    split at e1
    · rename_i r st
      unfold ah_len at e1
      obtain ⟨a, kd, vs, rfl, ho, g1, g2, e2⟩ := atA_inv e1
      exact as_alen hx hb hK hR ho g1 g2 hd (hKc _ _ _ _ e2 ls H locs _ _ hlen hl hR hL h00)
    · cases e1
  · obtain ⟨rfl, rfl⟩ := hnx rfl
    split at e1
    · rename_i j r st
      unfold ah_lI at e1
      obtain ⟨a, vs, rfl, ho, e2⟩ := at_inv e1
      obtain ⟨hj, e3⟩ := ix_inv e2
      obtain ⟨x, h1, e4⟩ := vI_inv e3
      exact as_iald hx hb hK hR ho hm100 hj h1 hd (hKc _ _ _ _ e4 ls H locs _ _ hlen hl hR hL h00)
    · rename_i j r st
      unfold ah_lI at e1
      obtain ⟨a, vs, rfl, ho, e2⟩ := at_inv e1
      obtain ⟨hj, e3⟩ := ix_inv e2
      obtain ⟨x, h1, e4⟩ := vI_inv e3
      exact as_sald hx hb hK hR ho hm104 hj h1 hd (hKc _ _ _ _ e4 ls H locs _ _ hlen hl hR hL h00)
    · cases e1
  · obtain ⟨rfl, rfl⟩ := hnx rfl
    split at e1
    · rename_i j r st
      unfold ah_lJ at e1
      obtain ⟨a, vs, rfl, ho, e2⟩ := at_inv e1
      obtain ⟨hj, e3⟩ := ix_inv e2
      obtain ⟨x, h1, e4⟩ := vJ_inv e3
      exact as_lald hx hb hK hR ho hm101 hj h1 hd (hKc _ _ _ _ e4 ls H locs _ _ hlen hl hR hL h00)
    · cases e1
  · obtain ⟨rfl, rfl⟩ := hnx rfl
    split at e1
    · rename_i j r st
      unfold ah_lI at e1
      obtain ⟨a, vs, rfl, ho, e2⟩ := at_inv e1
      obtain ⟨hj, e3⟩ := ix_inv e2
      obtain ⟨x, h1, e4⟩ := vI_inv e3
      exact as_zald hx hb hK hR ho hm102 hj h1 hd (hKc _ _ _ _ e4 ls H locs _ _ hlen hl hR hL h00)
    · rename_i j r st
      unfold ah_lI at e1
      obtain ⟨a, vs, rfl, ho, e2⟩ := at_inv e1
      obtain ⟨hj, e3⟩ := ix_inv e2
      obtain ⟨x, h1, e4⟩ := vI_inv e3
      exact as_bald hx hb hK hR ho hm103 hj h1 hd (hKc _ _ _ _ e4 ls H locs _ _ hlen hl hR hL h00)
    · cases e1
  · obtain ⟨rfl, rfl⟩ := hnx rfl
    split at e1
    · rename_i j r st
      unfold ah_lR at e1
      obtain ⟨a, kd, vs, rfl, ho, g1, g2, e2⟩ := atA_inv e1
      obtain ⟨hj, e3⟩ := ix_inv e2
      obtain ⟨x, h1, e4⟩ := vR_inv e3
      exact as_aald hx hb hK hR hak ho g1 g2 hj h1 hd (hKc _ _ _ _ e4 ls H locs _ _ hlen hl hR hL h00)
    · cases e1
  · obtain ⟨rfl, rfl⟩ := hnx rfl
    split at e1
    · rename_i x j r st
      unfold ah_sI at e1
      obtain ⟨a, vs, rfl, ho, e2⟩ := at_inv e1
      obtain ⟨hj, hjl, e3⟩ := sx_inv e2
      have hne4 : 100 ≠ 104 := by decide
      exact as_iast hx hb hK hR ho hm100 hj hjl hd (fun H' i g => hKc _ _ _ _ e3 ls H' _ _ _ hlen hl g (hput _ _ _ ((hR.2.2.2.2.2 a _ ho).1 hne4)).1 (hput _ _ 0 ((hR.2.2.2.2.2 a _ ho).1 hne4)).2)
    · cases e1
  · obtain ⟨rfl, rfl⟩ := hnx rfl
    split at e1
    · rename_i x j r st
      unfold ah_sI at e1
      obtain ⟨a, vs, rfl, ho, e2⟩ := at_inv e1
      obtain ⟨hj, hjl, e3⟩ := sx_inv e2
      have hne4 : 101 ≠ 104 := by decide
      exact as_last hx hb hK hR ho hm101 hj hjl hd (fun H' i g => hKc _ _ _ _ e3 ls H' _ _ _ hlen hl g (hput _ _ _ ((hR.2.2.2.2.2 a _ ho).1 hne4)).1 (hput _ _ 0 ((hR.2.2.2.2.2 a _ ho).1 hne4)).2)
    · cases e1
  · obtain ⟨rfl, rfl⟩ := hnx rfl
    split at e1
    · rename_i x j r st
      obtain ⟨hx01, e1⟩ := ift_inv e1
      unfold ah_sI at e1
      obtain ⟨a, vs, rfl, ho, e2⟩ := at_inv e1
      obtain ⟨hj, hjl, e3⟩ := sx_inv e2
      have hne4 : 102 ≠ 104 := by decide
      exact as_zast hx hb hK hR ho hm102 hx01 hj hjl hd (fun H' i g => hKc _ _ _ _ e3 ls H' _ _ _ hlen hl g (hput _ _ _ ((hR.2.2.2.2.2 a _ ho).1 hne4)).1 (hput _ _ 0 ((hR.2.2.2.2.2 a _ ho).1 hne4)).2)
    · rename_i x j r st
      unfold ah_sI at e1
      obtain ⟨a, vs, rfl, ho, e2⟩ := at_inv e1
      obtain ⟨hj, hjl, e3⟩ := sx_inv e2
      have hne4 : 103 ≠ 104 := by decide
      exact as_bast hx hb hK hR ho hm103 hj hjl hd (fun H' i g => hKc _ _ _ _ e3 ls H' _ _ _ hlen hl g (hput _ _ _ ((hR.2.2.2.2.2 a _ ho).1 hne4)).1 (hput _ _ 0 ((hR.2.2.2.2.2 a _ ho).1 hne4)).2)
    · cases e1
  · exact absurd rfl (hNat.2 _)
  · obtain ⟨rfl, rfl⟩ := hnx rfl
    split at e1
    · rename_i x j r st
      unfold ah_sR at e1
      obtain ⟨a, kd, vs, rfl, ho, g1, g2, e2⟩ := atA_inv e1
      have hne4 : kd ≠ 104 := by omega
      cases x with
      | none =>
        obtain ⟨hj, hjl, e3⟩ := sx_inv e2
        exact as_aastN hx hb hK hR hak ho g1 g2 hj hjl hd (fun H' i g => hKc _ _ _ _ e3 ls H' _ _ _ hlen hl g (hput _ _ _ ((hR.2.2.2.2.2 a _ ho).1 hne4)).1 (hput _ _ 0 ((hR.2.2.2.2.2 a _ ho).1 hne4)).2)
      | some b =>
        dsimp only at e2
        cases hob : h.1 b with
        | none => rw [hob] at e2; cases e2
        | some o =>
          rw [hob] at e2
          obtain ⟨hk1, e3⟩ := ift_inv e2
          obtain ⟨hj, hjl, e4⟩ := sx_inv e3
          exact as_aast hx hb hK hR hak ho g1 g2 (ws := o.2) (by rw [hob, ← hk1]; simp) hj hjl hd (fun H' i g => hKc _ _ _ _ e4 ls H' _ _ _ hlen hl g (hput _ _ _ ((hR.2.2.2.2.2 a _ ho).1 hne4)).1 (hput _ _ 0 ((hR.2.2.2.2.2 a _ ho).1 hne4)).2)
    · cases e1
  · obtain ⟨rfl, rfl⟩ := hnx rfl
    obtain ⟨r1, r2, r3, r4, r5, r6⟩ := id hRm
    split at e1
    · rename_i kd v n st
      obtain ⟨f1, f2, f3, e2⟩ := mka_inv e1
      obtain ⟨k1, k2, k3, k4, k5⟩ := hok _ _ rfl rfl
      exact as_newa hx hb (hts _ k3) k4 k1 k2 hK hR r1 r2 r5 r6 k5 f1 f2 f3 hd (fun H' cells slots g => hKc _ _ _ _ e2 ls H' locs _ _ hlen hl g (fun q hq => hL q hq) h00)
    · cases e1
  · obtain ⟨rfl, rfl⟩ := hnx rfl
    obtain ⟨r1, r2, r3, r4, r5, r6⟩ := id hRm
    split at e1
    · rename_i kd n st
      obtain ⟨f1, f2, f3, e2⟩ := mka_inv e1
      obtain ⟨k1, k2, C', k3, k4, k5⟩ := hok _ rfl
      exact as_anew hx hb hown (hts _ k3) (va_AO.use (hX.2.1 _ k4)) k5 k1 k2 hK hR r1 r2 r5 r6 f1 f2 f3 hd (fun H' cells slots g => hKc _ _ _ _ e2 ls H' locs _ _ hlen hl g (fun q hq => hL q hq) h00)
    · cases e1
  · obtain ⟨rfl, rfl⟩ := hnx rfl
    obtain ⟨r1, r2, r3, r4, r5, r6⟩ := id hRm
    split at e1
    · rename_i kd st
      obtain ⟨f1, e2⟩ := mk_inv e1
      obtain ⟨C', T, N, c1, c2, c3, c4, c5, c6⟩ := hok _ rfl
      obtain ⟨d1, d2, d3, d4⟩ := hcl _ _ _ _ c1
      exact as_new hx hb hts d2 (fun k => (parseFieldDescriptor (T k).2.2.1).getD .int) d4 hown (hts _ c2) (hts _ c3) (hts _ c4) hK hR r1 r2 r5 r6 d1 c1 c5 (fun j v hv => by obtain ⟨ty, p1, p2⟩ := c6 j v hv; rw [p2, p1]; rfl) f1 hd (fun H' cells slots g => hKc _ _ _ _ e2 ls H' locs _ _ hlen hl g (fun q hq => hL q hq) h00)
    · rename_i kd n
      obtain ⟨f1, e2⟩ := mk_inv e1
      cases e2
      exact hEx _ _ _ rfl rfl f1 rfl
    · cases e1
  · obtain ⟨rfl, rfl⟩ := hnx rfl
    split at e1
    · rename_i y na rt st
      split at e1
      · rename_i as st1 hp
        obtain ⟨bs, b1, b2, b3⟩ := ah_pop_eq _ _ _ _ _ hp
        rw [List.append_nil] at b1
        subst b1
        subst b2
        obtain ⟨w1, e2⟩ := bif_t e1
        rcases ret_inv e2 with ⟨rv, h', e3, e4⟩ | ⟨a, h', e3, e4⟩
        · obtain ⟨N, bytes, maxL, ret, hh, ⟨i1, i2, i3, i4, i5, i6, i7⟩, c2, c3⟩ := hok.1 _ _ _ rfl
          obtain ⟨d', rfl, hM⟩ := hC _ _ _ _ _ _ _ _ _ _ e3 i1
          cases hh with
          | nil => exact as_cS S hM (good_cons hGd i3) i4 c2 c3 i5 i6 hRm hK hX hR b3 (hl.1.trans hlen) (Nat.le_of_ble_eq_true w1) hd hL h00 (fun H' locs' cells slots g1 g2 g3 => by rw [rv_map]; exact hKc _ _ _ _ e4 ls H' locs' _ _ hlen hl g1 g2 g3)
          | cons q9 r9 => exact as_cSW S hM (good_cons hGd i3) i3 i4 c2 c3 i5 i6 hRm hK hX hR b3 (hl.1.trans hlen) (Nat.le_of_ble_eq_true w1) hd hL h00 (fun H' locs' cells slots g1 g2 g3 => by rw [rv_map]; exact hKc _ _ _ _ e4 ls H' locs' _ _ hlen hl g1 g2 g3)
        · exact (hXs _ _ _ _ ⟨_, Or.inl rfl⟩ e3 e4).elim
      · cases e1
    · rename_i n dp r1 sp r0 st
      obtain ⟨w1, e2⟩ := bif_t e1
      obtain ⟨k1, k2, k3, k4⟩ := hok.2.2.2.2.2 rfl
      obtain ⟨a0, a, vs, ws, rfl, rfl, o0, ho, c1, c2, c3, c4, c5, c6, e3⟩ := cp_inv e2
      have w2 := Nat.le_of_ble_eq_true w1
      rw [ah_wt_eq] at w2
      obtain ⟨r1, r2, r3, r4, r5, r6⟩ := id hRm
      have hne4 : 100 ≠ 104 := by decide
      exact as_copy hx hb (hml.trans (hl.1.trans hlen).symm) hown (hts _ k1) (hts _ k2) (hts _ k3) (hts _ k4) hK hR o0 ho hm100 c1 c2 c3 c4 c5 c6 (by omega) (by show _ + (7 + 11) ≤ _; omega) hd (fun H' locs' g gl => hKc _ _ _ _ e3 ls H' locs' _ _ hlen hl g (fun q hq => by
        rcases gl q hq with g1 | g1
        · exact ⟨(hL q g1).1, Nat.lt_succ_of_lt (hL q g1).2⟩
        · rw [g1]; exact ⟨(hR.2.2.2.2.2 a _ ho).1 hne4, Nat.lt_succ_of_le h00⟩) (Nat.le_succ_of_le h00))
    · rename_i y x st
      obtain ⟨w1, e2⟩ := bif_t e1
      obtain ⟨k1, k2, k3, k4⟩ := hok.2.1 rfl
      have w2 := Nat.le_of_ble_eq_true w1
      rw [ah_wt_eq] at w2
      refine am_fits hRm hR (fun hf => ?_)
      obtain ⟨r1, r2, r3, r4, r5, r6⟩ := id hRm
      exact va_mmax hx hb (hml.trans (hl.1.trans hlen).symm) hown (hts _ k1) (hts _ k2) (hts _ k3) (hts _ k4) (by omega) (by omega) (by omega) (by omega) hd (hKc _ _ _ _ e2 ls H locs _ _ hlen hl hR hL h00)
    · rename_i y x st
      obtain ⟨w1, e2⟩ := bif_t e1
      obtain ⟨k1, k2, k3, k4⟩ := hok.2.2.1 rfl
      have w2 := Nat.le_of_ble_eq_true w1
      rw [ah_wt_eq] at w2
      refine am_fits hRm hR (fun hf => ?_)
      obtain ⟨r1, r2, r3, r4, r5, r6⟩ := id hRm
      exact va_mmin hx hb (hml.trans (hl.1.trans hlen).symm) hown (hts _ k1) (hts _ k2) (hts _ k3) (hts _ k4) (by omega) (by omega) (by omega) (by omega) hd (hKc _ _ _ _ e2 ls H locs _ _ hlen hl hR hL h00)
    · rename_i y x st
      obtain ⟨w1, e2⟩ := bif_t e1
      obtain ⟨k1, k2, k3, k4⟩ := hok.2.2.2.1 rfl
      have w2 := Nat.le_of_ble_eq_true w1
      rw [ah_wt_eq] at w2
      refine am_fits hRm hR (fun hf => ?_)
      obtain ⟨r1, r2, r3, r4, r5, r6⟩ := id hRm
      exact va_mmin_long hx hb (hml.trans (hl.1.trans hlen).symm) hown (hts _ k1) (hts _ k2) (hts _ k3) (hts _ k4) (by omega) (by omega) (by omega) (by omega) hd (hKc _ _ _ _ e2 ls H locs _ _ hlen hl hR hL h00)
    · rename_i x st
      obtain ⟨w1, e2⟩ := bif_t e1
      obtain ⟨k1, k2, k3, k4⟩ := hok.2.2.2.2.1 rfl
      have w2 := Nat.le_of_ble_eq_true w1
      rw [ah_wt_eq] at w2
      refine am_fits hRm hR (fun hf => ?_)
      obtain ⟨r1, r2, r3, r4, r5, r6⟩ := id hRm
      exact va_mabs_long hx hb (hml.trans (hl.1.trans hlen).symm) hown (hts _ k1) (hts _ k2) (hts _ k3) (hts _ k4) (by omega) (by omega) (by omega) (by omega) hd (hKc _ _ _ _ e2 ls H locs _ _ hlen hl hR hL h00)
    · cases e1
  · obtain ⟨rfl, rfl⟩ := hnx rfl
    split at e1
    · rename_i kd y na rt
      split at e1
      · rename_i as r st1 hp
        obtain ⟨bs, b1, b2, b3⟩ := ah_pop_eq _ _ _ _ _ hp
        rw [List.append_nil] at b1
        subst b1
        subst b2
        obtain ⟨a, vs, rfl, ho, e1⟩ := at_inv e1
        obtain ⟨w1, e2⟩ := bif_t e1
        rcases ret_inv e2 with ⟨rv, h', e3, e4⟩ | ⟨a, h', e3, e4⟩
        · obtain ⟨N, bytes, maxL, ret, ⟨i1, i2, i3, i4, i5, i6, i7⟩, c2, c3, c4, r, c5, c6⟩ := hok _ _ _ _ rfl
          obtain ⟨d', rfl, hM⟩ := hC _ _ _ _ _ _ _ _ _ _ e3 i1
          exact as_cV S hM (good_cons hGd i3) i4 c2 c3 c4 i5 i6 hRm hK hX hR ho (hcl kd r.1 r.2.1 r.2.2 c5).1 c5 c6 b3 (hl.1.trans hlen) (Nat.le_of_ble_eq_true w1) hd hL h00 (fun H' locs' cells slots g1 g2 g3 => by rw [rv_map]; exact hKc _ _ _ _ e4 ls H' locs' _ _ hlen hl g1 g2 g3)
        · exact hXv _ _ _ _ _ _ _ _ _ _ _ rfl rfl rfl b3 ho (Nat.le_of_ble_eq_true w1) e3 e4
      · cases e1
    · exact absurd rfl (hNat.1 _ rfl)
    · cases e1
  · obtain ⟨rfl, rfl⟩ := hnx rfl
    split at e1
    · rename_i kd y na
      split at e1
      · rename_i as r st1 hp
        obtain ⟨bs, b1, b2, b3⟩ := ah_pop_eq _ _ _ _ _ hp
        rw [List.append_nil] at b1
        subst b1
        subst b2
        obtain ⟨a, vs, rfl, ho, e1⟩ := at_inv e1
        obtain ⟨w1, e2⟩ := bif_t e1
        rcases cV_inv e2 with ⟨h', e3, e4⟩ | ⟨a, h', e3, e4⟩
        · obtain ⟨N, bytes, maxL, ret, ⟨i1, i2, i3, i4, i5, i6, i7⟩, c2, c3, c4⟩ := hok.1 _ _ _ rfl
          obtain ⟨d', rfl, hM⟩ := hC _ _ _ _ _ _ _ _ _ _ e3 i1
          rcases c2 with c2 | ⟨host, c2⟩
          · exact as_cI S i7 hM (good_cons hGd i3) i4 c2 c3 c4 i5 i6 hRm hK hX hR b3 (hl.1.trans hlen) (Nat.le_of_ble_eq_true w1) hd hL h00 (fun H' locs' cells slots g1 g2 g3 => by rw [rv_map]; exact hKc _ _ _ _ e4 ls H' locs' _ _ hlen hl g1 g2 g3)
          · exact as_cIN S i7 hM (good_cons hGd i3) i4 c2 c3 c4 i5 i6 hRm hK hX hR b3 (hl.1.trans hlen) (Nat.le_of_ble_eq_true w1) hd hL h00 (fun H' locs' cells slots g1 g2 g3 => by rw [rv_map]; exact hKc _ _ _ _ e4 ls H' locs' _ _ hlen hl g1 g2 g3)
        · exact (hXs _ _ _ _ ⟨_, Or.inr rfl⟩ e3 e4).elim
      · cases e1
    · split at e1
      · rename_i r st1
        cases r with
        | none => cases e1
        | some a =>
          obtain ⟨w1, e2⟩ := bif_t e1
          obtain ⟨k1, k2, k3⟩ := hok.2 rfl
          have w2 := Nat.le_of_ble_eq_true w1
          rw [ah_wt_eq] at w2
          obtain ⟨r1, r2, r3, r4, r5, r6⟩ := id hRm
          exact W.objInit hx hb hown (hts _ k1) (hts _ k2) (hts _ k3) rfl (by rw [hml]; exact hl.1.trans hlen) rfl hd (by omega) (by show 2 * 0 + _ + 12 ≤ _; omega) (hKc _ _ _ _ e2 ls H locs _ _ hlen hl hR hL h00)
      · cases e1
    · cases e1
  · obtain ⟨rfl, rfl⟩ := hnx rfl
    obtain ⟨r1, r2, r3, r4, r5, r6⟩ := id hRm
    obtain ⟨t1, t2, t3, t4, t5, t6⟩ := id hR
    split at e1
    · rename_i x
      split at e1
      · cases e1
        obtain rfl := hQ _ _ rfl
        refine ar_tight r1 r2 t3 (fun z1 z2 => W.widen (k := G.2.2.2.1.1 - h0.2.1) (n := G.2.2.2.1.2 - h0.2.2.1) (by omega) (by omega) ?_)
        exact W.iret hx hb hrt (fun t ht hW => ⟨rfl, ⟨by rw [ht]; exact hR, ar_K.moved hW.alike hK, hX.warm hW⟩, h00⟩) (fun q hq => hL q hq) hd hlocks
      · obtain ⟨hx01, e1⟩ := ift_inv e1
        cases e1
        obtain rfl := hQ _ _ rfl
        refine ar_tight r1 r2 t3 (fun z1 z2 => W.widen (k := G.2.2.2.1.1 - h0.2.1) (n := G.2.2.2.1.2 - h0.2.2.1) (by omega) (by omega) ?_)
        exact W.zret hx hb hrt (by rcases hx01 with rfl | rfl <;> rfl) (fun t ht hW => ⟨rfl, ⟨by rw [ht]; exact hR, ar_K.moved hW.alike hK, hX.warm hW⟩, h00⟩) (fun q hq => hL q hq) hd hlocks
      · cases e1
    · cases e1
  · obtain ⟨rfl, rfl⟩ := hnx rfl
    obtain ⟨r1, r2, r3, r4, r5, r6⟩ := id hRm
    obtain ⟨t1, t2, t3, t4, t5, t6⟩ := id hR
    split at e1
    · rename_i x
      cases e1
      obtain rfl := hQ _ _ rfl
      refine ar_tight r1 r2 t3 (fun z1 z2 => W.widen (k := G.2.2.2.1.1 - h0.2.1) (n := G.2.2.2.1.2 - h0.2.2.1) (by omega) (by omega) ?_)
      exact W.lret hx hb hrt (fun t ht hW => ⟨rfl, ⟨by rw [ht]; exact hR, ar_K.moved hW.alike hK, hX.warm hW⟩, h00⟩) (fun q hq => hL q hq) hd hlocks
    · cases e1
  · obtain ⟨rfl, rfl⟩ := hnx rfl
    obtain ⟨r1, r2, r3, r4, r5, r6⟩ := id hRm
    obtain ⟨t1, t2, t3, t4, t5, t6⟩ := id hR
    split at e1
    · rename_i x
      obtain ⟨tt, hr1, hr2⟩ := hrt
      cases e1
      obtain rfl := hQ _ _ rfl
      refine ar_tight r1 r2 t3 (fun z1 z2 => W.widen (k := G.2.2.2.1.1 - h0.2.1) (n := G.2.2.2.1.2 - h0.2.2.1) (by omega) (by omega) ?_)
      exact W.aret hx hb hr1 hr2 (by cases x; exact Or.inl rfl; exact Or.inr ⟨_, rfl⟩) (fun t ht hW => ⟨rfl, ⟨by rw [ht]; exact hR, ar_K.moved hW.alike hK, hX.warm hW⟩, h00⟩) (fun q hq => hL q hq) hd hlocks
    · cases e1
  · obtain ⟨rfl, rfl⟩ := hnx rfl
    obtain ⟨r1, r2, r3, r4, r5, r6⟩ := id hRm
    obtain ⟨t1, t2, t3, t4, t5, t6⟩ := id hR
    split at e1
    · cases e1
      obtain rfl := hQ _ _ rfl
      refine ar_tight r1 r2 t3 (fun z1 z2 => W.widen (k := G.2.2.2.1.1 - h0.2.1) (n := G.2.2.2.1.2 - h0.2.2.1) (by omega) (by omega) ?_)
      exact W.vret hx hb hrt (fun t ht hW => ⟨rfl, ⟨by rw [ht]; exact hR, ar_K.moved hW.alike hK, hX.warm hW⟩, h00⟩) (fun q hq => hL q hq) hd hlocks
    · cases e1
  · split at e1
    · rename_i st' hp
      obtain ⟨rfl, rfl⟩ := hnx (pure_sw hp)
      exact as_pure hx hb hd hp (hKc _ _ _ _ e1 ls H locs _ _ hlen hl hR hL h00)
    · cases e1
end AStep
