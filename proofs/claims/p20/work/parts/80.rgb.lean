/-! RIGHT STATEMENTS, by program (wip/tools/drf.py) -/
section RfH
variable {lim : Nat × Nat} {m p : Nat} {σ σ0 : rS} {b : ah_H}
theorem ro_loop {d : Nat} {h : ah_H} (H : RH m σ b h) (G : sm (QR p) σ0 σ) {Q : Prop} : ∀ (l : Nat) (v5 v6 : Int32), cD σ0 l v6.toInt → (v5 = 0 ∨ v5 = 1) → (v5 = 1 → alP σ0 isC l v6.toInt → Q) → wq (ah_val lim ah_P d 59 221 [some (.inr (.inr (some m))), none, none, none, none, some (.inl v5), some (.inl v6)] [] h) (rI fun x h' => h' = h ∧ ((x = 0 ∨ x = 1) ∧ (x = 1 → Q))) := by
  intro l
  induction l with
  | zero =>
    intro v5 v6 hg h2 hq
    exact wq_eq q_59_221 (wq_t (eq_m1 hg) (wq_t h2 (wq_some (rI_i ⟨rfl, h2, fun e => hq e trivial⟩))))
  | succ l ih =>
    intro v5 v6 hg h2 hq
    obtain ⟨g1, g2⟩ := hg
    refine wq_eq q_59_221 (wq_f (ne_mD g1) (wq_if _ (fun c => ?_) (fun c => ?_)))
    · exact wq_gR H.1 rfl (rd_d H G g1 (by omega) (ih 0 _ g2 (Or.inl rfl) (fun e => absurd e (by decide))))
    · have go : isC ((ia σ0 8 v6.toInt.toNat).toInt) → wq (ah_val lim ah_P d 59 277 [some (.inr (.inr (some m))), none, none, none, none, none, some (.inl v6)] [] h) (rI fun x h' => h' = h ∧ ((x = 0 ∨ x = 1) ∧ (x = 1 → Q))) := fun hc =>
        wq_eq q_59_277 (wq_gR H.1 rfl (rd_d H G g1 (by omega) (ih 1 _ g2 (Or.inr rfl) (fun _ ha => hq (h2.resolve_left c) ⟨hc, ha⟩))))
      refine wq_gR H.1 rfl (rd_d H G g1 (by omega) (wq_if _ (fun c2 => go (Or.inl (congrArg Int32.toInt c2))) (fun c2 => ?_)))
      refine wq_gR H.1 rfl (rd_d H G g1 (by omega) (wq_if _ (fun c3 => go (Or.inr (Or.inl (congrArg Int32.toInt c3)))) (fun c3 => ?_)))
      refine wq_gR H.1 rfl (rd_d H G g1 (by omega) (wq_if _ (fun c4 => go (Or.inr (Or.inr (Or.inl (congrArg Int32.toInt c4))))) (fun c4 => ?_)))
      refine wq_gR H.1 rfl (rd_d H G g1 (by omega) (wq_if _ (fun c5 => go (Or.inr (Or.inr (Or.inr (congrArg Int32.toInt c5))))) (fun c5 => ?_)))
      exact wq_gR H.1 rfl (rd_d H G g1 (by omega) (ih 0 _ g2 (Or.inl rfl) (fun e => absurd e (by decide))))
theorem v_rightStatement {d : Nat} {h : ah_H} {v1 : Int32} (H : RH m σ b h) (O : OKV σ) (G : sm (QR p) σ0 σ)  (D : DI σ0) (h0 : 0 ≤ v1.toInt) (h1 : v1.toInt < (σ0.1 19).toInt) (hr : vD (ch σ0 v1.toInt 0).toInt → RV σ0 (ch σ0 v1.toInt 0).toInt) (hs : (σ0.1 7).toInt ≤ 512) (hd : (σ0.1 9).toInt ≤ 128) (hy : isS ((ia σ0 8 v1.toInt.toNat).toInt)) : wq (vc lim (d + 4) m_Ref_rightStatement [.inr (.inr (some m)), .inl v1] h) (rI fun x h' => h' = h ∧ ((x = 0 ∨ x = 1) ∧ (x = 1 → RS σ0 v1.toInt))) := by
  obtain ⟨⟨k0, k1⟩, m0, m1, hck, -, t0, t1, -⟩ := DI_k D h0 h1
  have hN := D.2.1
  have hch := DI_o D h0 h1
  refine wq_eq e_Ref_rightStatement ?_
  refine wq_gR H.1 rfl ?_
  refine rv_n H G (by omega) rfl rfl (nQ_j (by omega)) (by omega) (by show _ < (24000 : Int); omega) ?_
  refine wq_at H.1 ?_
  refine wq_cI (v_ch0 H O G ⟨k0, k1⟩ hch) ?_
  rintro y3 h1 ⟨rfl, rfl⟩
  refine wq_at H.1 ?_
  refine wq_cI (v_ch1 H O G ⟨k0, k1⟩ hch) ?_
  rintro y6 h4 ⟨rfl, rfl⟩
  refine wq_at H.1 ?_
  refine wq_cI (v_ch2 H O G ⟨k0, k1⟩ hch) ?_
  rintro y9 h7 ⟨rfl, rfl⟩
  refine wq_at H.1 ?_
  refine wq_cI (v_kindOf H O G (hch 0)) ?_
  rintro y12 h10 ⟨rfl, rfl⟩
  refine wq_cI v_expression ?_
  rintro y15 h13 ⟨rfl, p14⟩
  refine wq_at H.1 ?_
  refine wq_cI (v_kindOf H O G (hch 1)) ?_
  rintro y18 h16 ⟨rfl, rfl⟩
  refine wq_cI v_expression ?_
  rintro y21 h19 ⟨rfl, p20⟩
  refine wq_gR H.1 rfl ?_
  refine rv_n H G (by omega) rfl rfl (nQ_j (by omega)) (by omega) (by show _ < (24000 : Int); omega) ?_
  refine wq_if _ (fun c22 => ?_) (fun c22 => ?_)
  · refine wq_gR H.1 rfl ?_
    refine rv_n H G (by omega) rfl rfl (nQ_j (by omega)) (by have := congrArg Int32.toInt c22; have : (30 : Int32).toInt = 30 := rfl; omega) (by have := congrArg Int32.toInt c22; have : (30 : Int32).toInt = 30 := rfl; show _ < (24000 : Int); omega) ?_
    refine wq_if _ (fun c23 => ?_) (fun c23 => ?_)
    · refine wq_eq q_57_159 ?_
      refine wq_if _ (fun c24 => ?_) (fun c24 => ?_)
      · exact wq_t (Or.inl rfl) (wq_some (rI_i ⟨rfl, ⟨(Or.inl rfl), fun h => absurd h (by decide)⟩⟩))
      · refine wq_if _ (fun c25 => ?_) (fun c25 => ?_)
        · refine wq_if _ (fun c26 => ?_) (fun c26 => ?_)
          · exact wq_t (Or.inl rfl) (wq_some (rI_i ⟨rfl, ⟨(Or.inl rfl), fun h => absurd h (by decide)⟩⟩))
          · refine wq_if _ (fun c27 => ?_) (fun c27 => ?_)
            · refine wq_at H.1 ?_
              refine wq_cI (v_aims H O G (hch 0) (DI_ko D h0 h1 0)) ?_
              rintro y30 h28 ⟨rfl, p29⟩
              refine wq_if _ (fun c31 => ?_) (fun c31 => ?_)
              · exact wq_t (Or.inl rfl) (wq_some (rI_i ⟨rfl, ⟨(Or.inl rfl), fun h => absurd h (by decide)⟩⟩))
              · refine wq_if _ (fun c32 => ?_) (fun c32 => ?_)
                · refine wq_eq q_57_214 ?_
                  refine wq_t c23 ?_
                  refine wq_at H.1 ?_
                  refine wq_cI (v_all H O G (DI_cl D h0 h1 2)) ?_
                  rintro y35 h33 ⟨rfl, p34⟩
                  refine wq_if _ (fun c36 => ?_) (fun c36 => ?_)
                  · exact wq_t (Or.inl rfl) (wq_some (rI_i ⟨rfl, ⟨(Or.inl rfl), fun h => absurd h (by decide)⟩⟩))
                  · exact wq_t (Or.inr rfl) (wq_some (rI_i ⟨rfl, ⟨(Or.inr rfl), fun hx1 => by have hK : (ia σ0 8 v1.toInt.toNat).toInt = 30 := (congrArg Int32.toInt c22); exact ⟨fun _ => (by have := congrArg Int32.toInt c22; have := congrArg Int32.toInt c23; have := nlt_i c24; have := le_i c25; have := nle_i c26; have := le_i c27; have := ne_i c31; have := lt_i c32; have := ne_i c36; have := (show ((2 : Int32) + (16 : Int32)).toInt = 18 from rfl); have := (show ((1 : Int32) + (16 : Int32)).toInt = 17 from rfl); have : (0 : Int32).toInt = 0 := rfl; have : (16 : Int32).toInt = 16 := rfl; have : (2 : Int32).toInt = 2 := rfl; have : (30 : Int32).toInt = 30 := rfl; exfalso; omega), fun h => absurd (h.symm.trans hK) (by decide), fun h => absurd (h.symm.trans hK) (by decide), fun h => absurd (h.symm.trans hK) (by decide), fun h => by omega, fun h => absurd (h.symm.trans hK) (by decide), fun h => absurd (h.symm.trans hK) (by decide), fun h => by omega, fun h => absurd (h.symm.trans hK) (by decide), fun h => absurd (h.symm.trans hK) (by decide), fun h => absurd (h.symm.trans hK) (by decide)⟩⟩⟩))
                · refine wq_at H.1 ?_
                  refine wq_cI (v_kindOf H O G (hch 1)) ?_
                  rintro y39 h37 ⟨rfl, rfl⟩
                  refine wq_if _ (fun c40 => ?_) (fun c40 => ?_)
                  · obtain ⟨⟨z41, z42⟩, z43⟩ := kO_v (hch 1) c40 (by decide)
                    refine wq_eq q_57_214 ?_
                    refine wq_t c23 ?_
                    refine wq_at H.1 ?_
                    refine wq_cI (v_all H O G (DI_cl D h0 h1 2)) ?_
                    rintro y46 h44 ⟨rfl, p45⟩
                    refine wq_if _ (fun c47 => ?_) (fun c47 => ?_)
                    · exact wq_t (Or.inl rfl) (wq_some (rI_i ⟨rfl, ⟨(Or.inl rfl), fun h => absurd h (by decide)⟩⟩))
                    · exact wq_t (Or.inr rfl) (wq_some (rI_i ⟨rfl, ⟨(Or.inr rfl), fun hx1 => by have hK : (ia σ0 8 v1.toInt.toNat).toInt = 30 := (congrArg Int32.toInt c22); exact ⟨fun _ => ⟨(by have := congrArg Int32.toInt c22; have := congrArg Int32.toInt c23; have := nlt_i c24; have := le_i c25; have := nle_i c26; have := le_i c27; have := ne_i c31; have := nlt_i c32; have := congrArg Int32.toInt c40; have := ne_i c47; have := (show ((2 : Int32) + (16 : Int32)).toInt = 18 from rfl); have := (show ((1 : Int32) + (16 : Int32)).toInt = 17 from rfl); have : (0 : Int32).toInt = 0 := rfl; have : (16 : Int32).toInt = 16 := rfl; have : (2 : Int32).toInt = 2 := rfl; have : (30 : Int32).toInt = 30 := rfl; have : (32 : Int32).toInt = 32 := rfl; omega), (by have := congrArg Int32.toInt c22; have := congrArg Int32.toInt c23; have := nlt_i c24; have := le_i c25; have := nle_i c26; have := le_i c27; have := ne_i c31; have := nlt_i c32; have := congrArg Int32.toInt c40; have := ne_i c47; have := (show ((2 : Int32) + (16 : Int32)).toInt = 18 from rfl); have := (show ((1 : Int32) + (16 : Int32)).toInt = 17 from rfl); have : (0 : Int32).toInt = 0 := rfl; have : (16 : Int32).toInt = 16 := rfl; have : (2 : Int32).toInt = 2 := rfl; have : (30 : Int32).toInt = 30 := rfl; have : (32 : Int32).toInt = 32 := rfl; omega), (p29.2 (p29.1.resolve_left c31)), Or.inl ⟨(by have := congrArg Int32.toInt c22; have := congrArg Int32.toInt c23; have := nlt_i c24; have := le_i c25; have := nle_i c26; have := le_i c27; have := ne_i c31; have := nlt_i c32; have := congrArg Int32.toInt c40; have := ne_i c47; have := (show ((2 : Int32) + (16 : Int32)).toInt = 18 from rfl); have := (show ((1 : Int32) + (16 : Int32)).toInt = 17 from rfl); have : (0 : Int32).toInt = 0 := rfl; have : (16 : Int32).toInt = 16 := rfl; have : (2 : Int32).toInt = 2 := rfl; have : (30 : Int32).toInt = 30 := rfl; have : (32 : Int32).toInt = 32 := rfl; omega), (by have := congrArg Int32.toInt c22; have := congrArg Int32.toInt c23; have := nlt_i c24; have := le_i c25; have := nle_i c26; have := le_i c27; have := ne_i c31; have := nlt_i c32; have := congrArg Int32.toInt c40; have := ne_i c47; have := (show ((2 : Int32) + (16 : Int32)).toInt = 18 from rfl); have := (show ((1 : Int32) + (16 : Int32)).toInt = 17 from rfl); have : (0 : Int32).toInt = 0 := rfl; have : (16 : Int32).toInt = 16 := rfl; have : (2 : Int32).toInt = 2 := rfl; have : (30 : Int32).toInt = 30 := rfl; have : (32 : Int32).toInt = 32 := rfl; omega), (by have := congrArg Int32.toInt c22; have := congrArg Int32.toInt c23; have := nlt_i c24; have := le_i c25; have := nle_i c26; have := le_i c27; have := ne_i c31; have := nlt_i c32; have := congrArg Int32.toInt c40; have := ne_i c47; have := (show ((2 : Int32) + (16 : Int32)).toInt = 18 from rfl); have := (show ((1 : Int32) + (16 : Int32)).toInt = 17 from rfl); have : (0 : Int32).toInt = 0 := rfl; have : (16 : Int32).toInt = 16 := rfl; have : (2 : Int32).toInt = 2 := rfl; have : (30 : Int32).toInt = 30 := rfl; have : (32 : Int32).toInt = 32 := rfl; omega), c40, (p45.2 (p45.1.resolve_left c47))⟩⟩, fun h => absurd (h.symm.trans hK) (by decide), fun h => absurd (h.symm.trans hK) (by decide), fun h => absurd (h.symm.trans hK) (by decide), fun h => by omega, fun h => absurd (h.symm.trans hK) (by decide), fun h => absurd (h.symm.trans hK) (by decide), fun h => by omega, fun h => absurd (h.symm.trans hK) (by decide), fun h => absurd (h.symm.trans hK) (by decide), fun h => absurd (h.symm.trans hK) (by decide)⟩⟩⟩))
                  · exact wq_t (Or.inl rfl) (wq_some (rI_i ⟨rfl, ⟨(Or.inl rfl), fun h => absurd h (by decide)⟩⟩))
            · exact wq_t (Or.inl rfl) (wq_some (rI_i ⟨rfl, ⟨(Or.inl rfl), fun h => absurd h (by decide)⟩⟩))
        · exact wq_t (Or.inl rfl) (wq_some (rI_i ⟨rfl, ⟨(Or.inl rfl), fun h => absurd h (by decide)⟩⟩))
    · refine wq_eq q_57_159 ?_
      refine wq_if _ (fun c48 => ?_) (fun c48 => ?_)
      · exact wq_t (Or.inl rfl) (wq_some (rI_i ⟨rfl, ⟨(Or.inl rfl), fun h => absurd h (by decide)⟩⟩))
      · refine wq_if _ (fun c49 => ?_) (fun c49 => ?_)
        · refine wq_if _ (fun c50 => ?_) (fun c50 => ?_)
          · exact wq_t (Or.inl rfl) (wq_some (rI_i ⟨rfl, ⟨(Or.inl rfl), fun h => absurd h (by decide)⟩⟩))
          · refine wq_if _ (fun c51 => ?_) (fun c51 => ?_)
            · refine wq_at H.1 ?_
              refine wq_cI (v_aims H O G (hch 0) (DI_ko D h0 h1 0)) ?_
              rintro y54 h52 ⟨rfl, p53⟩
              refine wq_if _ (fun c55 => ?_) (fun c55 => ?_)
              · exact wq_t (Or.inl rfl) (wq_some (rI_i ⟨rfl, ⟨(Or.inl rfl), fun h => absurd h (by decide)⟩⟩))
              · refine wq_if _ (fun c56 => ?_) (fun c56 => ?_)
                · refine wq_eq q_57_214 ?_
                  refine wq_f c23 ?_
                  refine wq_at H.1 ?_
                  refine wq_cI (v_all H O G (DI_cl D h0 h1 1)) ?_
                  rintro y59 h57 ⟨rfl, p58⟩
                  refine wq_if _ (fun c60 => ?_) (fun c60 => ?_)
                  · exact wq_t (Or.inl rfl) (wq_some (rI_i ⟨rfl, ⟨(Or.inl rfl), fun h => absurd h (by decide)⟩⟩))
                  · exact wq_t (Or.inr rfl) (wq_some (rI_i ⟨rfl, ⟨(Or.inr rfl), fun hx1 => by have hK : (ia σ0 8 v1.toInt.toNat).toInt = 30 := (congrArg Int32.toInt c22); exact ⟨fun _ => ⟨(by have := congrArg Int32.toInt c22; have := ne_i c23; have := nlt_i c48; have := le_i c49; have := nle_i c50; have := le_i c51; have := ne_i c55; have := lt_i c56; have := ne_i c60; have := (show ((2 : Int32) + (16 : Int32)).toInt = 18 from rfl); have := (show ((1 : Int32) + (16 : Int32)).toInt = 17 from rfl); have : (0 : Int32).toInt = 0 := rfl; have : (1 : Int32).toInt = 1 := rfl; have : (16 : Int32).toInt = 16 := rfl; have : (2 : Int32).toInt = 2 := rfl; have : (30 : Int32).toInt = 30 := rfl; omega), (by have := congrArg Int32.toInt c22; have := ne_i c23; have := nlt_i c48; have := le_i c49; have := nle_i c50; have := le_i c51; have := ne_i c55; have := lt_i c56; have := ne_i c60; have := (show ((2 : Int32) + (16 : Int32)).toInt = 18 from rfl); have := (show ((1 : Int32) + (16 : Int32)).toInt = 17 from rfl); have : (0 : Int32).toInt = 0 := rfl; have : (1 : Int32).toInt = 1 := rfl; have : (16 : Int32).toInt = 16 := rfl; have : (2 : Int32).toInt = 2 := rfl; have : (30 : Int32).toInt = 30 := rfl; omega), (p53.2 (p53.1.resolve_left c55)), Or.inr ⟨(by have := congrArg Int32.toInt c22; have := ne_i c23; have := nlt_i c48; have := le_i c49; have := nle_i c50; have := le_i c51; have := ne_i c55; have := lt_i c56; have := ne_i c60; have := (show ((2 : Int32) + (16 : Int32)).toInt = 18 from rfl); have := (show ((1 : Int32) + (16 : Int32)).toInt = 17 from rfl); have : (0 : Int32).toInt = 0 := rfl; have : (1 : Int32).toInt = 1 := rfl; have : (16 : Int32).toInt = 16 := rfl; have : (2 : Int32).toInt = 2 := rfl; have : (30 : Int32).toInt = 30 := rfl; omega), (by have := congrArg Int32.toInt c22; have := ne_i c23; have := nlt_i c48; have := le_i c49; have := nle_i c50; have := le_i c51; have := ne_i c55; have := lt_i c56; have := ne_i c60; have := (show ((2 : Int32) + (16 : Int32)).toInt = 18 from rfl); have := (show ((1 : Int32) + (16 : Int32)).toInt = 17 from rfl); have : (0 : Int32).toInt = 0 := rfl; have : (1 : Int32).toInt = 1 := rfl; have : (16 : Int32).toInt = 16 := rfl; have : (2 : Int32).toInt = 2 := rfl; have : (30 : Int32).toInt = 30 := rfl; omega), (by have := congrArg Int32.toInt c22; have := ne_i c23; have := nlt_i c48; have := le_i c49; have := nle_i c50; have := le_i c51; have := ne_i c55; have := lt_i c56; have := ne_i c60; have := (show ((2 : Int32) + (16 : Int32)).toInt = 18 from rfl); have := (show ((1 : Int32) + (16 : Int32)).toInt = 17 from rfl); have : (0 : Int32).toInt = 0 := rfl; have : (1 : Int32).toInt = 1 := rfl; have : (16 : Int32).toInt = 16 := rfl; have : (2 : Int32).toInt = 2 := rfl; have : (30 : Int32).toInt = 30 := rfl; omega), (p58.2 (p58.1.resolve_left c60))⟩⟩, fun h => absurd (h.symm.trans hK) (by decide), fun h => absurd (h.symm.trans hK) (by decide), fun h => absurd (h.symm.trans hK) (by decide), fun h => by omega, fun h => absurd (h.symm.trans hK) (by decide), fun h => absurd (h.symm.trans hK) (by decide), fun h => by omega, fun h => absurd (h.symm.trans hK) (by decide), fun h => absurd (h.symm.trans hK) (by decide), fun h => absurd (h.symm.trans hK) (by decide)⟩⟩⟩))
                · refine wq_at H.1 ?_
                  refine wq_cI (v_kindOf H O G (hch 1)) ?_
                  rintro y63 h61 ⟨rfl, rfl⟩
                  refine wq_if _ (fun c64 => ?_) (fun c64 => ?_)
                  · obtain ⟨⟨z65, z66⟩, z67⟩ := kO_v (hch 1) c64 (by decide)
                    refine wq_eq q_57_214 ?_
                    refine wq_f c23 ?_
                    refine wq_at H.1 ?_
                    refine wq_cI (v_all H O G (DI_cl D h0 h1 1)) ?_
                    rintro y70 h68 ⟨rfl, p69⟩
                    refine wq_if _ (fun c71 => ?_) (fun c71 => ?_)
                    · exact wq_t (Or.inl rfl) (wq_some (rI_i ⟨rfl, ⟨(Or.inl rfl), fun h => absurd h (by decide)⟩⟩))
                    · exact wq_t (Or.inr rfl) (wq_some (rI_i ⟨rfl, ⟨(Or.inr rfl), fun hx1 => by have hK : (ia σ0 8 v1.toInt.toNat).toInt = 30 := (congrArg Int32.toInt c22); exact ⟨fun _ => ⟨(by have := congrArg Int32.toInt c22; have := ne_i c23; have := nlt_i c48; have := le_i c49; have := nle_i c50; have := le_i c51; have := ne_i c55; have := nlt_i c56; have := congrArg Int32.toInt c64; have := ne_i c71; have := (show ((2 : Int32) + (16 : Int32)).toInt = 18 from rfl); have := (show ((1 : Int32) + (16 : Int32)).toInt = 17 from rfl); have : (0 : Int32).toInt = 0 := rfl; have : (1 : Int32).toInt = 1 := rfl; have : (16 : Int32).toInt = 16 := rfl; have : (2 : Int32).toInt = 2 := rfl; have : (30 : Int32).toInt = 30 := rfl; have : (32 : Int32).toInt = 32 := rfl; omega), (by have := congrArg Int32.toInt c22; have := ne_i c23; have := nlt_i c48; have := le_i c49; have := nle_i c50; have := le_i c51; have := ne_i c55; have := nlt_i c56; have := congrArg Int32.toInt c64; have := ne_i c71; have := (show ((2 : Int32) + (16 : Int32)).toInt = 18 from rfl); have := (show ((1 : Int32) + (16 : Int32)).toInt = 17 from rfl); have : (0 : Int32).toInt = 0 := rfl; have : (1 : Int32).toInt = 1 := rfl; have : (16 : Int32).toInt = 16 := rfl; have : (2 : Int32).toInt = 2 := rfl; have : (30 : Int32).toInt = 30 := rfl; have : (32 : Int32).toInt = 32 := rfl; omega), (p53.2 (p53.1.resolve_left c55)), Or.inr ⟨(by have := congrArg Int32.toInt c22; have := ne_i c23; have := nlt_i c48; have := le_i c49; have := nle_i c50; have := le_i c51; have := ne_i c55; have := nlt_i c56; have := congrArg Int32.toInt c64; have := ne_i c71; have := (show ((2 : Int32) + (16 : Int32)).toInt = 18 from rfl); have := (show ((1 : Int32) + (16 : Int32)).toInt = 17 from rfl); have : (0 : Int32).toInt = 0 := rfl; have : (1 : Int32).toInt = 1 := rfl; have : (16 : Int32).toInt = 16 := rfl; have : (2 : Int32).toInt = 2 := rfl; have : (30 : Int32).toInt = 30 := rfl; have : (32 : Int32).toInt = 32 := rfl; omega), (by have := congrArg Int32.toInt c22; have := ne_i c23; have := nlt_i c48; have := le_i c49; have := nle_i c50; have := le_i c51; have := ne_i c55; have := nlt_i c56; have := congrArg Int32.toInt c64; have := ne_i c71; have := (show ((2 : Int32) + (16 : Int32)).toInt = 18 from rfl); have := (show ((1 : Int32) + (16 : Int32)).toInt = 17 from rfl); have : (0 : Int32).toInt = 0 := rfl; have : (1 : Int32).toInt = 1 := rfl; have : (16 : Int32).toInt = 16 := rfl; have : (2 : Int32).toInt = 2 := rfl; have : (30 : Int32).toInt = 30 := rfl; have : (32 : Int32).toInt = 32 := rfl; omega), (by have := congrArg Int32.toInt c22; have := ne_i c23; have := nlt_i c48; have := le_i c49; have := nle_i c50; have := le_i c51; have := ne_i c55; have := nlt_i c56; have := congrArg Int32.toInt c64; have := ne_i c71; have := (show ((2 : Int32) + (16 : Int32)).toInt = 18 from rfl); have := (show ((1 : Int32) + (16 : Int32)).toInt = 17 from rfl); have : (0 : Int32).toInt = 0 := rfl; have : (1 : Int32).toInt = 1 := rfl; have : (16 : Int32).toInt = 16 := rfl; have : (2 : Int32).toInt = 2 := rfl; have : (30 : Int32).toInt = 30 := rfl; have : (32 : Int32).toInt = 32 := rfl; omega), (p69.2 (p69.1.resolve_left c71))⟩⟩, fun h => absurd (h.symm.trans hK) (by decide), fun h => absurd (h.symm.trans hK) (by decide), fun h => absurd (h.symm.trans hK) (by decide), fun h => by omega, fun h => absurd (h.symm.trans hK) (by decide), fun h => absurd (h.symm.trans hK) (by decide), fun h => by omega, fun h => absurd (h.symm.trans hK) (by decide), fun h => absurd (h.symm.trans hK) (by decide), fun h => absurd (h.symm.trans hK) (by decide)⟩⟩⟩))
                  · exact wq_t (Or.inl rfl) (wq_some (rI_i ⟨rfl, ⟨(Or.inl rfl), fun h => absurd h (by decide)⟩⟩))
            · exact wq_t (Or.inl rfl) (wq_some (rI_i ⟨rfl, ⟨(Or.inl rfl), fun h => absurd h (by decide)⟩⟩))
        · exact wq_t (Or.inl rfl) (wq_some (rI_i ⟨rfl, ⟨(Or.inl rfl), fun h => absurd h (by decide)⟩⟩))
  refine wq_if _ (fun c72 => ?_) (fun c72 => ?_)
  · refine wq_eq q_57_551 ?_
    refine wq_if _ (fun c73 => ?_) (fun c73 => ?_)
    · refine wq_if _ (fun c74 => ?_) (fun c74 => ?_)
      · exact wq_t (Or.inl rfl) (wq_some (rI_i ⟨rfl, ⟨(Or.inl rfl), fun h => absurd h (by decide)⟩⟩))
      · refine wq_if _ (fun c75 => ?_) (fun c75 => ?_)
        · exact wq_t (Or.inl rfl) (wq_some (rI_i ⟨rfl, ⟨(Or.inl rfl), fun h => absurd h (by decide)⟩⟩))
        · exact wq_t (Or.inr rfl) (wq_some (rI_i ⟨rfl, ⟨(Or.inr rfl), fun hx1 => by have hK : (ia σ0 8 v1.toInt.toNat).toInt = 31 := (congrArg Int32.toInt c72); exact ⟨fun h => absurd (h.symm.trans hK) (by decide), fun h => absurd (h.symm.trans hK) (by decide), fun h => absurd (h.symm.trans hK) (by decide), fun h => absurd (h.symm.trans hK) (by decide), fun h => by omega, fun h => absurd (h.symm.trans hK) (by decide), fun h => absurd (h.symm.trans hK) (by decide), fun h => by omega, fun h => absurd (h.symm.trans hK) (by decide), fun h => absurd (h.symm.trans hK) (by decide), fun h => absurd (h.symm.trans hK) (by decide)⟩⟩⟩))
    · exact wq_t (Or.inl rfl) (wq_some (rI_i ⟨rfl, ⟨(Or.inl rfl), fun h => absurd h (by decide)⟩⟩))
  refine wq_if _ (fun c76 => ?_) (fun c76 => ?_)
  · refine wq_eq q_57_551 ?_
    refine wq_if _ (fun c77 => ?_) (fun c77 => ?_)
    · refine wq_if _ (fun c78 => ?_) (fun c78 => ?_)
      · exact wq_t (Or.inl rfl) (wq_some (rI_i ⟨rfl, ⟨(Or.inl rfl), fun h => absurd h (by decide)⟩⟩))
      · refine wq_if _ (fun c79 => ?_) (fun c79 => ?_)
        · exact wq_t (Or.inl rfl) (wq_some (rI_i ⟨rfl, ⟨(Or.inl rfl), fun h => absurd h (by decide)⟩⟩))
        · exact wq_t (Or.inr rfl) (wq_some (rI_i ⟨rfl, ⟨(Or.inr rfl), fun hx1 => by have hK : (ia σ0 8 v1.toInt.toNat).toInt = 32 := (congrArg Int32.toInt c76); exact ⟨fun h => absurd (h.symm.trans hK) (by decide), fun h => absurd (h.symm.trans hK) (by decide), fun h => absurd (h.symm.trans hK) (by decide), fun h => absurd (h.symm.trans hK) (by decide), fun h => by omega, fun h => absurd (h.symm.trans hK) (by decide), fun h => absurd (h.symm.trans hK) (by decide), fun h => by omega, fun h => absurd (h.symm.trans hK) (by decide), fun h => absurd (h.symm.trans hK) (by decide), fun h => absurd (h.symm.trans hK) (by decide)⟩⟩⟩))
    · exact wq_t (Or.inl rfl) (wq_some (rI_i ⟨rfl, ⟨(Or.inl rfl), fun h => absurd h (by decide)⟩⟩))
  refine wq_if _ (fun c80 => ?_) (fun c80 => ?_)
  · refine wq_if _ (fun c81 => ?_) (fun c81 => ?_)
    · refine wq_at H.1 ?_
      refine wq_cI (v_aims H O G (hch 0) (DI_ko D h0 h1 0)) ?_
      rintro y84 h82 ⟨rfl, p83⟩
      refine wq_if _ (fun c85 => ?_) (fun c85 => ?_)
      · exact wq_t (Or.inl rfl) (wq_some (rI_i ⟨rfl, ⟨(Or.inl rfl), fun h => absurd h (by decide)⟩⟩))
      · refine wq_if _ (fun c86 => ?_) (fun c86 => ?_)
        · exact wq_t (Or.inl rfl) (wq_some (rI_i ⟨rfl, ⟨(Or.inl rfl), fun h => absurd h (by decide)⟩⟩))
        · exact wq_t (Or.inr rfl) (wq_some (rI_i ⟨rfl, ⟨(Or.inr rfl), fun hx1 => by have hK : (ia σ0 8 v1.toInt.toNat).toInt = 33 := (congrArg Int32.toInt c80); exact ⟨fun h => absurd (h.symm.trans hK) (by decide), fun _ => ⟨(by have := ne_i c22; have := ne_i c72; have := ne_i c76; have := congrArg Int32.toInt c80; have := congrArg Int32.toInt c81; have := ne_i c85; have := ne_i c86; have : (0 : Int32).toInt = 0 := rfl; have : (2 : Int32).toInt = 2 := rfl; have : (30 : Int32).toInt = 30 := rfl; have : (31 : Int32).toInt = 31 := rfl; have : (32 : Int32).toInt = 32 := rfl; have : (33 : Int32).toInt = 33 := rfl; omega), (p83.2 (p83.1.resolve_left c85)), (p20.2.1 (p20.1.resolve_left c86))⟩, fun h => absurd (h.symm.trans hK) (by decide), fun h => absurd (h.symm.trans hK) (by decide), fun h => by omega, fun h => absurd (h.symm.trans hK) (by decide), fun h => absurd (h.symm.trans hK) (by decide), fun h => by omega, fun h => absurd (h.symm.trans hK) (by decide), fun h => absurd (h.symm.trans hK) (by decide), fun h => absurd (h.symm.trans hK) (by decide)⟩⟩⟩))
    · exact wq_t (Or.inl rfl) (wq_some (rI_i ⟨rfl, ⟨(Or.inl rfl), fun h => absurd h (by decide)⟩⟩))
  refine wq_if _ (fun c87 => ?_) (fun c87 => ?_)
  · refine wq_if _ (fun c88 => ?_) (fun c88 => ?_)
    · exact wq_t (Or.inl rfl) (wq_some (rI_i ⟨rfl, ⟨(Or.inl rfl), fun h => absurd h (by decide)⟩⟩))
    · refine wq_at H.1 ?_
      refine wq_cI (v_rightBranch H O G ⟨k0, k1⟩ (fun c hc => DI_cc D h1 hc) (ck_chL (by omega) hck) (by omega)) ?_
      rintro y91 h89 ⟨rfl, p90⟩
      refine wq_if _ (fun c92 => ?_) (fun c92 => ?_)
      · exact wq_t (Or.inl rfl) (wq_some (rI_i ⟨rfl, ⟨(Or.inl rfl), fun h => absurd h (by decide)⟩⟩))
      · exact wq_t (Or.inr rfl) (wq_some (rI_i ⟨rfl, ⟨(Or.inr rfl), fun hx1 => by have hK : (ia σ0 8 v1.toInt.toNat).toInt = 34 := (congrArg Int32.toInt c87); exact ⟨fun h => absurd (h.symm.trans hK) (by decide), fun h => absurd (h.symm.trans hK) (by decide), fun _ => ⟨(by have := ne_i c22; have := ne_i c72; have := ne_i c76; have := ne_i c80; have := congrArg Int32.toInt c87; have := nle_i c88; have := ne_i c92; have : (0 : Int32).toInt = 0 := rfl; have : (1 : Int32).toInt = 1 := rfl; have : (30 : Int32).toInt = 30 := rfl; have : (31 : Int32).toInt = 31 := rfl; have : (32 : Int32).toInt = 32 := rfl; have : (33 : Int32).toInt = 33 := rfl; have : (34 : Int32).toInt = 34 := rfl; omega), (p90.2 (p90.1.resolve_left c92))⟩, fun h => absurd (h.symm.trans hK) (by decide), fun h => by omega, fun h => absurd (h.symm.trans hK) (by decide), fun h => absurd (h.symm.trans hK) (by decide), fun h => by omega, fun h => absurd (h.symm.trans hK) (by decide), fun h => absurd (h.symm.trans hK) (by decide), fun h => absurd (h.symm.trans hK) (by decide)⟩⟩⟩))
  refine wq_if _ (fun c93 => ?_) (fun c93 => ?_)
  · refine wq_if _ (fun c94 => ?_) (fun c94 => ?_)
    · exact wq_t (Or.inl rfl) (wq_some (rI_i ⟨rfl, ⟨(Or.inl rfl), fun h => absurd h (by decide)⟩⟩))
    · refine wq_if _ (fun c95 => ?_) (fun c95 => ?_)
      · exact wq_t (Or.inl rfl) (wq_some (rI_i ⟨rfl, ⟨(Or.inl rfl), fun h => absurd h (by decide)⟩⟩))
      · refine wq_at H.1 ?_
        refine wq_cI (v_all H O G (DI_cl D h0 h1 1)) ?_
        rintro y98 h96 ⟨rfl, p97⟩
        refine wq_if _ (fun c99 => ?_) (fun c99 => ?_)
        · exact wq_t (Or.inl rfl) (wq_some (rI_i ⟨rfl, ⟨(Or.inl rfl), fun h => absurd h (by decide)⟩⟩))
        · exact wq_t (Or.inr rfl) (wq_some (rI_i ⟨rfl, ⟨(Or.inr rfl), fun hx1 => by have hK : (ia σ0 8 v1.toInt.toNat).toInt = 35 := (congrArg Int32.toInt c93); exact ⟨fun h => absurd (h.symm.trans hK) (by decide), fun h => absurd (h.symm.trans hK) (by decide), fun h => absurd (h.symm.trans hK) (by decide), fun _ => ⟨(by have := ne_i c22; have := ne_i c72; have := ne_i c76; have := ne_i c80; have := ne_i c87; have := congrArg Int32.toInt c93; have := nle_i c94; have := ne_i c95; have := ne_i c99; have : (0 : Int32).toInt = 0 := rfl; have : (1 : Int32).toInt = 1 := rfl; have : (30 : Int32).toInt = 30 := rfl; have : (31 : Int32).toInt = 31 := rfl; have : (32 : Int32).toInt = 32 := rfl; have : (33 : Int32).toInt = 33 := rfl; have : (34 : Int32).toInt = 34 := rfl; have : (35 : Int32).toInt = 35 := rfl; omega), (p14.2.1 (p14.1.resolve_left c95)), (p97.2 (p97.1.resolve_left c99))⟩, fun h => by omega, fun h => absurd (h.symm.trans hK) (by decide), fun h => absurd (h.symm.trans hK) (by decide), fun h => by omega, fun h => absurd (h.symm.trans hK) (by decide), fun h => absurd (h.symm.trans hK) (by decide), fun h => absurd (h.symm.trans hK) (by decide)⟩⟩⟩))
  refine wq_if _ (fun c100 => ?_) (fun c100 => ?_)
  · refine wq_eq q_57_551 ?_
    refine wq_if _ (fun c101 => ?_) (fun c101 => ?_)
    · refine wq_if _ (fun c102 => ?_) (fun c102 => ?_)
      · exact wq_t (Or.inl rfl) (wq_some (rI_i ⟨rfl, ⟨(Or.inl rfl), fun h => absurd h (by decide)⟩⟩))
      · refine wq_if _ (fun c103 => ?_) (fun c103 => ?_)
        · exact wq_t (Or.inl rfl) (wq_some (rI_i ⟨rfl, ⟨(Or.inl rfl), fun h => absurd h (by decide)⟩⟩))
        · exact wq_t (Or.inr rfl) (wq_some (rI_i ⟨rfl, ⟨(Or.inr rfl), fun hx1 => by have hK : (ia σ0 8 v1.toInt.toNat).toInt = 36 := (congrArg Int32.toInt c100); exact ⟨fun h => absurd (h.symm.trans hK) (by decide), fun h => absurd (h.symm.trans hK) (by decide), fun h => absurd (h.symm.trans hK) (by decide), fun h => absurd (h.symm.trans hK) (by decide), fun h => by omega, fun h => absurd (h.symm.trans hK) (by decide), fun h => absurd (h.symm.trans hK) (by decide), fun h => by omega, fun h => absurd (h.symm.trans hK) (by decide), fun h => absurd (h.symm.trans hK) (by decide), fun h => absurd (h.symm.trans hK) (by decide)⟩⟩⟩))
    · exact wq_t (Or.inl rfl) (wq_some (rI_i ⟨rfl, ⟨(Or.inl rfl), fun h => absurd h (by decide)⟩⟩))
  refine wq_if _ (fun c104 => ?_) (fun c104 => ?_)
  · refine wq_eq q_57_551 ?_
    refine wq_if _ (fun c105 => ?_) (fun c105 => ?_)
    · refine wq_if _ (fun c106 => ?_) (fun c106 => ?_)
      · exact wq_t (Or.inl rfl) (wq_some (rI_i ⟨rfl, ⟨(Or.inl rfl), fun h => absurd h (by decide)⟩⟩))
      · refine wq_if _ (fun c107 => ?_) (fun c107 => ?_)
        · exact wq_t (Or.inl rfl) (wq_some (rI_i ⟨rfl, ⟨(Or.inl rfl), fun h => absurd h (by decide)⟩⟩))
        · exact wq_t (Or.inr rfl) (wq_some (rI_i ⟨rfl, ⟨(Or.inr rfl), fun hx1 => by have hK : (ia σ0 8 v1.toInt.toNat).toInt = 37 := (congrArg Int32.toInt c104); exact ⟨fun h => absurd (h.symm.trans hK) (by decide), fun h => absurd (h.symm.trans hK) (by decide), fun h => absurd (h.symm.trans hK) (by decide), fun h => absurd (h.symm.trans hK) (by decide), fun h => by omega, fun h => absurd (h.symm.trans hK) (by decide), fun h => absurd (h.symm.trans hK) (by decide), fun h => by omega, fun h => absurd (h.symm.trans hK) (by decide), fun h => absurd (h.symm.trans hK) (by decide), fun h => absurd (h.symm.trans hK) (by decide)⟩⟩⟩))
    · exact wq_t (Or.inl rfl) (wq_some (rI_i ⟨rfl, ⟨(Or.inl rfl), fun h => absurd h (by decide)⟩⟩))
  refine wq_if _ (fun c108 => ?_) (fun c108 => ?_)
  · refine wq_eq q_57_314 ?_
    refine wq_if _ (fun c109 => ?_) (fun c109 => ?_)
    · refine wq_at H.1 ?_
      refine wq_cI (v_isObject H O G (hch 0)) ?_
      rintro y112 h110 ⟨rfl, p111⟩
      refine wq_if _ (fun c113 => ?_) (fun c113 => ?_)
      · exact wq_t (Or.inl rfl) (wq_some (rI_i ⟨rfl, ⟨(Or.inl rfl), fun h => absurd h (by decide)⟩⟩))
      · refine wq_gR H.1 rfl ?_
        refine wq_at H.1 ?_
        obtain ⟨o114, o114'⟩ := kO_i (hch 0) (by rw [p111.2 (p111.1.resolve_left c113)]; exact Or.inr rfl)
        refine wq_cI (v_objectOf H O G o114 o114' (hr o114)) ?_
        rintro y117 h115 ⟨rfl, p116⟩
        obtain ⟨q118, q119⟩ := p116
        refine rv_0 H O (by omega) (by show _ < (10100 : Int); omega) (fun u120 q121 q122 => ?_)
        refine wq_if _ (fun c123 => ?_) (fun c123 => ?_)
        · refine wq_if _ (fun c124 => ?_) (fun c124 => ?_)
          · exact wq_t (Or.inl rfl) (wq_some (rI_i ⟨rfl, ⟨(Or.inl rfl), fun h => absurd h (by decide)⟩⟩))
          · refine wq_at H.1 ?_
            refine wq_cI (v_kindOf H O G (hch 2)) ?_
            rintro y127 h125 ⟨rfl, rfl⟩
            refine wq_cI v_expression ?_
            rintro y130 h128 ⟨rfl, p129⟩
            refine wq_if _ (fun c131 => ?_) (fun c131 => ?_)
            · exact wq_t (Or.inl rfl) (wq_some (rI_i ⟨rfl, ⟨(Or.inl rfl), fun h => absurd h (by decide)⟩⟩))
            · refine wq_at H.1 ?_
              refine wq_cI (v_ch3 H O G ⟨k0, k1⟩ hch) ?_
              rintro y134 h132 ⟨rfl, rfl⟩
              refine wq_at H.1 ?_
              refine wq_cI (v_body H O G (hch 3) (DI_b D h0 h1 3)) ?_
              rintro y137 h135 ⟨rfl, p136⟩
              refine wq_if _ (fun c138 => ?_) (fun c138 => ?_)
              · exact wq_t (Or.inl rfl) (wq_some (rI_i ⟨rfl, ⟨(Or.inl rfl), fun h => absurd h (by decide)⟩⟩))
              · exact wq_t (Or.inr rfl) (wq_some (rI_i ⟨rfl, ⟨(Or.inr rfl), fun hx1 => by have hK : (ia σ0 8 v1.toInt.toNat).toInt = 38 := (congrArg Int32.toInt c108); exact ⟨fun h => absurd (h.symm.trans hK) (by decide), fun h => absurd (h.symm.trans hK) (by decide), fun h => absurd (h.symm.trans hK) (by decide), fun h => absurd (h.symm.trans hK) (by decide), fun _ => ⟨(by have := ne_i c22; have := ne_i c72; have := ne_i c76; have := ne_i c80; have := ne_i c87; have := ne_i c93; have := ne_i c100; have := ne_i c104; have := congrArg Int32.toInt c108; have := congrArg Int32.toInt c109; have := ne_i c113; have := congrArg Int32.toInt c123; have := ne_i c124; have := ne_i c131; have := ne_i c138; have : (0 : Int32).toInt = 0 := rfl; have : (2 : Int32).toInt = 2 := rfl; have : (30 : Int32).toInt = 30 := rfl; have : (31 : Int32).toInt = 31 := rfl; have : (32 : Int32).toInt = 32 := rfl; have : (33 : Int32).toInt = 33 := rfl; have : (34 : Int32).toInt = 34 := rfl; have : (35 : Int32).toInt = 35 := rfl; have : (36 : Int32).toInt = 36 := rfl; have : (37 : Int32).toInt = 37 := rfl; have : (38 : Int32).toInt = 38 := rfl; have : (4 : Int32).toInt = 4 := rfl; omega), (p111.2 (p111.1.resolve_left c113)), (p20.2.1 (p20.1.resolve_left c124)), (p129.2.1 (p129.1.resolve_left c131)), (p136.2 (p136.1.resolve_left c138))⟩, fun h => absurd (h.symm.trans hK) (by decide), fun h => absurd (h.symm.trans hK) (by decide), fun h => by omega, fun h => absurd (h.symm.trans hK) (by decide), fun h => absurd (h.symm.trans hK) (by decide), fun h => absurd (h.symm.trans hK) (by decide)⟩⟩⟩))
        · exact wq_t (Or.inl rfl) (wq_some (rI_i ⟨rfl, ⟨(Or.inl rfl), fun h => absurd h (by decide)⟩⟩))
    · exact wq_t (Or.inl rfl) (wq_some (rI_i ⟨rfl, ⟨(Or.inl rfl), fun h => absurd h (by decide)⟩⟩))
  refine wq_if _ (fun c139 => ?_) (fun c139 => ?_)
  · refine wq_eq q_57_314 ?_
    refine wq_if _ (fun c140 => ?_) (fun c140 => ?_)
    · refine wq_at H.1 ?_
      refine wq_cI (v_isObject H O G (hch 0)) ?_
      rintro y143 h141 ⟨rfl, p142⟩
      refine wq_if _ (fun c144 => ?_) (fun c144 => ?_)
      · exact wq_t (Or.inl rfl) (wq_some (rI_i ⟨rfl, ⟨(Or.inl rfl), fun h => absurd h (by decide)⟩⟩))
      · refine wq_gR H.1 rfl ?_
        refine wq_at H.1 ?_
        obtain ⟨o145, o145'⟩ := kO_i (hch 0) (by rw [p142.2 (p142.1.resolve_left c144)]; exact Or.inr rfl)
        refine wq_cI (v_objectOf H O G o145 o145' (hr o145)) ?_
        rintro y148 h146 ⟨rfl, p147⟩
        obtain ⟨q149, q150⟩ := p147
        refine rv_0 H O (by omega) (by show _ < (10100 : Int); omega) (fun u151 q152 q153 => ?_)
        refine wq_if _ (fun c154 => ?_) (fun c154 => ?_)
        · refine wq_if _ (fun c155 => ?_) (fun c155 => ?_)
          · exact wq_t (Or.inl rfl) (wq_some (rI_i ⟨rfl, ⟨(Or.inl rfl), fun h => absurd h (by decide)⟩⟩))
          · refine wq_at H.1 ?_
            refine wq_cI (v_kindOf H O G (hch 2)) ?_
            rintro y158 h156 ⟨rfl, rfl⟩
            refine wq_cI v_expression ?_
            rintro y161 h159 ⟨rfl, p160⟩
            refine wq_if _ (fun c162 => ?_) (fun c162 => ?_)
            · exact wq_t (Or.inl rfl) (wq_some (rI_i ⟨rfl, ⟨(Or.inl rfl), fun h => absurd h (by decide)⟩⟩))
            · refine wq_at H.1 ?_
              refine wq_cI (v_ch3 H O G ⟨k0, k1⟩ hch) ?_
              rintro y165 h163 ⟨rfl, rfl⟩
              refine wq_at H.1 ?_
              refine wq_cI (v_body H O G (hch 3) (DI_b D h0 h1 3)) ?_
              rintro y168 h166 ⟨rfl, p167⟩
              refine wq_if _ (fun c169 => ?_) (fun c169 => ?_)
              · exact wq_t (Or.inl rfl) (wq_some (rI_i ⟨rfl, ⟨(Or.inl rfl), fun h => absurd h (by decide)⟩⟩))
              · exact wq_t (Or.inr rfl) (wq_some (rI_i ⟨rfl, ⟨(Or.inr rfl), fun hx1 => by have hK : (ia σ0 8 v1.toInt.toNat).toInt = 39 := (congrArg Int32.toInt c139); exact ⟨fun h => absurd (h.symm.trans hK) (by decide), fun h => absurd (h.symm.trans hK) (by decide), fun h => absurd (h.symm.trans hK) (by decide), fun h => absurd (h.symm.trans hK) (by decide), fun _ => ⟨(by have := ne_i c22; have := ne_i c72; have := ne_i c76; have := ne_i c80; have := ne_i c87; have := ne_i c93; have := ne_i c100; have := ne_i c104; have := ne_i c108; have := congrArg Int32.toInt c139; have := congrArg Int32.toInt c140; have := ne_i c144; have := congrArg Int32.toInt c154; have := ne_i c155; have := ne_i c162; have := ne_i c169; have : (0 : Int32).toInt = 0 := rfl; have : (2 : Int32).toInt = 2 := rfl; have : (30 : Int32).toInt = 30 := rfl; have : (31 : Int32).toInt = 31 := rfl; have : (32 : Int32).toInt = 32 := rfl; have : (33 : Int32).toInt = 33 := rfl; have : (34 : Int32).toInt = 34 := rfl; have : (35 : Int32).toInt = 35 := rfl; have : (36 : Int32).toInt = 36 := rfl; have : (37 : Int32).toInt = 37 := rfl; have : (38 : Int32).toInt = 38 := rfl; have : (39 : Int32).toInt = 39 := rfl; have : (4 : Int32).toInt = 4 := rfl; omega), (p142.2 (p142.1.resolve_left c144)), (p20.2.1 (p20.1.resolve_left c155)), (p160.2.1 (p160.1.resolve_left c162)), (p167.2 (p167.1.resolve_left c169))⟩, fun h => absurd (h.symm.trans hK) (by decide), fun h => absurd (h.symm.trans hK) (by decide), fun h => by omega, fun h => absurd (h.symm.trans hK) (by decide), fun h => absurd (h.symm.trans hK) (by decide), fun h => absurd (h.symm.trans hK) (by decide)⟩⟩⟩))
        · exact wq_t (Or.inl rfl) (wq_some (rI_i ⟨rfl, ⟨(Or.inl rfl), fun h => absurd h (by decide)⟩⟩))
    · exact wq_t (Or.inl rfl) (wq_some (rI_i ⟨rfl, ⟨(Or.inl rfl), fun h => absurd h (by decide)⟩⟩))
  refine wq_if _ (fun c170 => ?_) (fun c170 => ?_)
  · refine wq_if _ (fun c171 => ?_) (fun c171 => ?_)
    · refine wq_if _ (fun c172 => ?_) (fun c172 => ?_)
      · exact wq_t (Or.inl rfl) (wq_some (rI_i ⟨rfl, ⟨(Or.inl rfl), fun h => absurd h (by decide)⟩⟩))
      · refine wq_at H.1 ?_
        refine wq_cI (v_body H O G (hch 1) (DI_b D h0 h1 1)) ?_
        rintro y175 h173 ⟨rfl, p174⟩
        refine wq_if _ (fun c176 => ?_) (fun c176 => ?_)
        · exact wq_t (Or.inl rfl) (wq_some (rI_i ⟨rfl, ⟨(Or.inl rfl), fun h => absurd h (by decide)⟩⟩))
        · exact wq_t (Or.inr rfl) (wq_some (rI_i ⟨rfl, ⟨(Or.inr rfl), fun hx1 => by have hK : (ia σ0 8 v1.toInt.toNat).toInt = 40 := (congrArg Int32.toInt c170); exact ⟨fun h => absurd (h.symm.trans hK) (by decide), fun h => absurd (h.symm.trans hK) (by decide), fun h => absurd (h.symm.trans hK) (by decide), fun h => absurd (h.symm.trans hK) (by decide), fun h => by omega, fun _ => ⟨(by have := ne_i c22; have := ne_i c72; have := ne_i c76; have := ne_i c80; have := ne_i c87; have := ne_i c93; have := ne_i c100; have := ne_i c104; have := ne_i c108; have := ne_i c139; have := congrArg Int32.toInt c170; have := congrArg Int32.toInt c171; have := ne_i c172; have := ne_i c176; have : (0 : Int32).toInt = 0 := rfl; have : (2 : Int32).toInt = 2 := rfl; have : (30 : Int32).toInt = 30 := rfl; have : (31 : Int32).toInt = 31 := rfl; have : (32 : Int32).toInt = 32 := rfl; have : (33 : Int32).toInt = 33 := rfl; have : (34 : Int32).toInt = 34 := rfl; have : (35 : Int32).toInt = 35 := rfl; have : (36 : Int32).toInt = 36 := rfl; have : (37 : Int32).toInt = 37 := rfl; have : (38 : Int32).toInt = 38 := rfl; have : (39 : Int32).toInt = 39 := rfl; have : (40 : Int32).toInt = 40 := rfl; omega), (p14.2.1 (p14.1.resolve_left c172)), (p174.2 (p174.1.resolve_left c176))⟩, fun h => absurd (h.symm.trans hK) (by decide), fun h => by omega, fun h => absurd (h.symm.trans hK) (by decide), fun h => absurd (h.symm.trans hK) (by decide), fun h => absurd (h.symm.trans hK) (by decide)⟩⟩⟩))
    · exact wq_t (Or.inl rfl) (wq_some (rI_i ⟨rfl, ⟨(Or.inl rfl), fun h => absurd h (by decide)⟩⟩))
  refine wq_if _ (fun c177 => ?_) (fun c177 => ?_)
  · refine wq_if _ (fun c178 => ?_) (fun c178 => ?_)
    · refine wq_at H.1 ?_
      refine wq_cI (v_body H O G (hch 0) (DI_b D h0 h1 0)) ?_
      rintro y181 h179 ⟨rfl, p180⟩
      refine wq_if _ (fun c182 => ?_) (fun c182 => ?_)
      · exact wq_t (Or.inl rfl) (wq_some (rI_i ⟨rfl, ⟨(Or.inl rfl), fun h => absurd h (by decide)⟩⟩))
      · exact wq_t (Or.inr rfl) (wq_some (rI_i ⟨rfl, ⟨(Or.inr rfl), fun hx1 => by have hK : (ia σ0 8 v1.toInt.toNat).toInt = 41 := (congrArg Int32.toInt c177); exact ⟨fun h => absurd (h.symm.trans hK) (by decide), fun h => absurd (h.symm.trans hK) (by decide), fun h => absurd (h.symm.trans hK) (by decide), fun h => absurd (h.symm.trans hK) (by decide), fun h => by omega, fun h => absurd (h.symm.trans hK) (by decide), fun _ => ⟨(by have := ne_i c22; have := ne_i c72; have := ne_i c76; have := ne_i c80; have := ne_i c87; have := ne_i c93; have := ne_i c100; have := ne_i c104; have := ne_i c108; have := ne_i c139; have := ne_i c170; have := congrArg Int32.toInt c177; have := congrArg Int32.toInt c178; have := ne_i c182; have : (0 : Int32).toInt = 0 := rfl; have : (1 : Int32).toInt = 1 := rfl; have : (30 : Int32).toInt = 30 := rfl; have : (31 : Int32).toInt = 31 := rfl; have : (32 : Int32).toInt = 32 := rfl; have : (33 : Int32).toInt = 33 := rfl; have : (34 : Int32).toInt = 34 := rfl; have : (35 : Int32).toInt = 35 := rfl; have : (36 : Int32).toInt = 36 := rfl; have : (37 : Int32).toInt = 37 := rfl; have : (38 : Int32).toInt = 38 := rfl; have : (39 : Int32).toInt = 39 := rfl; have : (40 : Int32).toInt = 40 := rfl; have : (41 : Int32).toInt = 41 := rfl; omega), (p180.2 (p180.1.resolve_left c182))⟩, fun h => by omega, fun h => absurd (h.symm.trans hK) (by decide), fun h => absurd (h.symm.trans hK) (by decide), fun h => absurd (h.symm.trans hK) (by decide)⟩⟩⟩))
    · exact wq_t (Or.inl rfl) (wq_some (rI_i ⟨rfl, ⟨(Or.inl rfl), fun h => absurd h (by decide)⟩⟩))
  refine wq_if _ (fun c183 => ?_) (fun c183 => ?_)
  · refine wq_eq q_57_423 ?_
    refine wq_if _ (fun c184 => ?_) (fun c184 => ?_)
    · refine wq_if _ (fun c185 => ?_) (fun c185 => ?_)
      · refine wq_at H.1 ?_
        refine wq_cI (v_kindOf H O G (hch 0)) ?_
        rintro y188 h186 ⟨rfl, rfl⟩
        refine wq_if _ (fun c189 => ?_) (fun c189 => ?_)
        · obtain ⟨⟨z190, z191⟩, z192⟩ := kO_v (hch 0) c189 (by decide)
          refine wq_at H.1 ?_
          refine wq_cI (v_inLoop H O G ⟨k0, k1⟩ (DI_un D h0 h1)) ?_
          rintro y195 h193 ⟨rfl, p194⟩
          refine wq_if _ (fun c196 => ?_) (fun c196 => ?_)
          · exact wq_t (Or.inl rfl) (wq_some (rI_i ⟨rfl, ⟨(Or.inl rfl), fun h => absurd h (by decide)⟩⟩))
          · exact wq_t (Or.inr rfl) (wq_some (rI_i ⟨rfl, ⟨(Or.inr rfl), fun hx1 => by have hK : (ia σ0 8 v1.toInt.toNat).toInt = 42 := (congrArg Int32.toInt c183); exact ⟨fun h => absurd (h.symm.trans hK) (by decide), fun h => absurd (h.symm.trans hK) (by decide), fun h => absurd (h.symm.trans hK) (by decide), fun h => absurd (h.symm.trans hK) (by decide), fun h => by omega, fun h => absurd (h.symm.trans hK) (by decide), fun h => absurd (h.symm.trans hK) (by decide), fun _ => ⟨(by have := ne_i c22; have := ne_i c72; have := ne_i c76; have := ne_i c80; have := ne_i c87; have := ne_i c93; have := ne_i c100; have := ne_i c104; have := ne_i c108; have := ne_i c139; have := ne_i c170; have := ne_i c177; have := congrArg Int32.toInt c183; have := congrArg Int32.toInt c184; have := congrArg Int32.toInt c185; have := congrArg Int32.toInt c189; have := ne_i c196; have : (0 : Int32).toInt = 0 := rfl; have : (1 : Int32).toInt = 1 := rfl; have : (30 : Int32).toInt = 30 := rfl; have : (31 : Int32).toInt = 31 := rfl; have : (32 : Int32).toInt = 32 := rfl; have : (33 : Int32).toInt = 33 := rfl; have : (34 : Int32).toInt = 34 := rfl; have : (35 : Int32).toInt = 35 := rfl; have : (36 : Int32).toInt = 36 := rfl; have : (37 : Int32).toInt = 37 := rfl; have : (38 : Int32).toInt = 38 := rfl; have : (39 : Int32).toInt = 39 := rfl; have : (40 : Int32).toInt = 40 := rfl; have : (41 : Int32).toInt = 41 := rfl; have : (42 : Int32).toInt = 42 := rfl; omega), Or.inr c189, (p194.2 (p194.1.resolve_left c196))⟩, fun h => absurd (h.symm.trans hK) (by decide), fun h => absurd (h.symm.trans hK) (by decide), fun h => absurd (h.symm.trans hK) (by decide)⟩⟩⟩))
        · exact wq_t (Or.inl rfl) (wq_some (rI_i ⟨rfl, ⟨(Or.inl rfl), fun h => absurd h (by decide)⟩⟩))
      · refine wq_at H.1 ?_
        refine wq_cI (v_inLoop H O G ⟨k0, k1⟩ (DI_un D h0 h1)) ?_
        rintro y199 h197 ⟨rfl, p198⟩
        refine wq_if _ (fun c200 => ?_) (fun c200 => ?_)
        · exact wq_t (Or.inl rfl) (wq_some (rI_i ⟨rfl, ⟨(Or.inl rfl), fun h => absurd h (by decide)⟩⟩))
        · exact wq_t (Or.inr rfl) (wq_some (rI_i ⟨rfl, ⟨(Or.inr rfl), fun hx1 => by have hK : (ia σ0 8 v1.toInt.toNat).toInt = 42 := (congrArg Int32.toInt c183); exact ⟨fun h => absurd (h.symm.trans hK) (by decide), fun h => absurd (h.symm.trans hK) (by decide), fun h => absurd (h.symm.trans hK) (by decide), fun h => absurd (h.symm.trans hK) (by decide), fun h => by omega, fun h => absurd (h.symm.trans hK) (by decide), fun h => absurd (h.symm.trans hK) (by decide), fun _ => ⟨(by have := ne_i c22; have := ne_i c72; have := ne_i c76; have := ne_i c80; have := ne_i c87; have := ne_i c93; have := ne_i c100; have := ne_i c104; have := ne_i c108; have := ne_i c139; have := ne_i c170; have := ne_i c177; have := congrArg Int32.toInt c183; have := congrArg Int32.toInt c184; have := ne_i c185; have := ne_i c200; have : (0 : Int32).toInt = 0 := rfl; have : (1 : Int32).toInt = 1 := rfl; have : (30 : Int32).toInt = 30 := rfl; have : (31 : Int32).toInt = 31 := rfl; have : (32 : Int32).toInt = 32 := rfl; have : (33 : Int32).toInt = 33 := rfl; have : (34 : Int32).toInt = 34 := rfl; have : (35 : Int32).toInt = 35 := rfl; have : (36 : Int32).toInt = 36 := rfl; have : (37 : Int32).toInt = 37 := rfl; have : (38 : Int32).toInt = 38 := rfl; have : (39 : Int32).toInt = 39 := rfl; have : (40 : Int32).toInt = 40 := rfl; have : (41 : Int32).toInt = 41 := rfl; have : (42 : Int32).toInt = 42 := rfl; omega), Or.inl (p14.2.1 (p14.1.resolve_left c185)), (p198.2 (p198.1.resolve_left c200))⟩, fun h => absurd (h.symm.trans hK) (by decide), fun h => absurd (h.symm.trans hK) (by decide), fun h => absurd (h.symm.trans hK) (by decide)⟩⟩⟩))
    · exact wq_t (Or.inl rfl) (wq_some (rI_i ⟨rfl, ⟨(Or.inl rfl), fun h => absurd h (by decide)⟩⟩))
  refine wq_if _ (fun c201 => ?_) (fun c201 => ?_)
  · refine wq_eq q_57_423 ?_
    refine wq_if _ (fun c202 => ?_) (fun c202 => ?_)
    · refine wq_if _ (fun c203 => ?_) (fun c203 => ?_)
      · refine wq_at H.1 ?_
        refine wq_cI (v_kindOf H O G (hch 0)) ?_
        rintro y206 h204 ⟨rfl, rfl⟩
        refine wq_if _ (fun c207 => ?_) (fun c207 => ?_)
        · obtain ⟨⟨z208, z209⟩, z210⟩ := kO_v (hch 0) c207 (by decide)
          refine wq_at H.1 ?_
          refine wq_cI (v_inLoop H O G ⟨k0, k1⟩ (DI_un D h0 h1)) ?_
          rintro y213 h211 ⟨rfl, p212⟩
          refine wq_if _ (fun c214 => ?_) (fun c214 => ?_)
          · exact wq_t (Or.inl rfl) (wq_some (rI_i ⟨rfl, ⟨(Or.inl rfl), fun h => absurd h (by decide)⟩⟩))
          · exact wq_t (Or.inr rfl) (wq_some (rI_i ⟨rfl, ⟨(Or.inr rfl), fun hx1 => by have hK : (ia σ0 8 v1.toInt.toNat).toInt = 43 := (congrArg Int32.toInt c201); exact ⟨fun h => absurd (h.symm.trans hK) (by decide), fun h => absurd (h.symm.trans hK) (by decide), fun h => absurd (h.symm.trans hK) (by decide), fun h => absurd (h.symm.trans hK) (by decide), fun h => by omega, fun h => absurd (h.symm.trans hK) (by decide), fun h => absurd (h.symm.trans hK) (by decide), fun _ => ⟨(by have := ne_i c22; have := ne_i c72; have := ne_i c76; have := ne_i c80; have := ne_i c87; have := ne_i c93; have := ne_i c100; have := ne_i c104; have := ne_i c108; have := ne_i c139; have := ne_i c170; have := ne_i c177; have := ne_i c183; have := congrArg Int32.toInt c201; have := congrArg Int32.toInt c202; have := congrArg Int32.toInt c203; have := congrArg Int32.toInt c207; have := ne_i c214; have : (0 : Int32).toInt = 0 := rfl; have : (1 : Int32).toInt = 1 := rfl; have : (30 : Int32).toInt = 30 := rfl; have : (31 : Int32).toInt = 31 := rfl; have : (32 : Int32).toInt = 32 := rfl; have : (33 : Int32).toInt = 33 := rfl; have : (34 : Int32).toInt = 34 := rfl; have : (35 : Int32).toInt = 35 := rfl; have : (36 : Int32).toInt = 36 := rfl; have : (37 : Int32).toInt = 37 := rfl; have : (38 : Int32).toInt = 38 := rfl; have : (39 : Int32).toInt = 39 := rfl; have : (40 : Int32).toInt = 40 := rfl; have : (41 : Int32).toInt = 41 := rfl; have : (42 : Int32).toInt = 42 := rfl; have : (43 : Int32).toInt = 43 := rfl; omega), Or.inr c207, (p212.2 (p212.1.resolve_left c214))⟩, fun h => absurd (h.symm.trans hK) (by decide), fun h => absurd (h.symm.trans hK) (by decide), fun h => absurd (h.symm.trans hK) (by decide)⟩⟩⟩))
        · exact wq_t (Or.inl rfl) (wq_some (rI_i ⟨rfl, ⟨(Or.inl rfl), fun h => absurd h (by decide)⟩⟩))
      · refine wq_at H.1 ?_
        refine wq_cI (v_inLoop H O G ⟨k0, k1⟩ (DI_un D h0 h1)) ?_
        rintro y217 h215 ⟨rfl, p216⟩
        refine wq_if _ (fun c218 => ?_) (fun c218 => ?_)
        · exact wq_t (Or.inl rfl) (wq_some (rI_i ⟨rfl, ⟨(Or.inl rfl), fun h => absurd h (by decide)⟩⟩))
        · exact wq_t (Or.inr rfl) (wq_some (rI_i ⟨rfl, ⟨(Or.inr rfl), fun hx1 => by have hK : (ia σ0 8 v1.toInt.toNat).toInt = 43 := (congrArg Int32.toInt c201); exact ⟨fun h => absurd (h.symm.trans hK) (by decide), fun h => absurd (h.symm.trans hK) (by decide), fun h => absurd (h.symm.trans hK) (by decide), fun h => absurd (h.symm.trans hK) (by decide), fun h => by omega, fun h => absurd (h.symm.trans hK) (by decide), fun h => absurd (h.symm.trans hK) (by decide), fun _ => ⟨(by have := ne_i c22; have := ne_i c72; have := ne_i c76; have := ne_i c80; have := ne_i c87; have := ne_i c93; have := ne_i c100; have := ne_i c104; have := ne_i c108; have := ne_i c139; have := ne_i c170; have := ne_i c177; have := ne_i c183; have := congrArg Int32.toInt c201; have := congrArg Int32.toInt c202; have := ne_i c203; have := ne_i c218; have : (0 : Int32).toInt = 0 := rfl; have : (1 : Int32).toInt = 1 := rfl; have : (30 : Int32).toInt = 30 := rfl; have : (31 : Int32).toInt = 31 := rfl; have : (32 : Int32).toInt = 32 := rfl; have : (33 : Int32).toInt = 33 := rfl; have : (34 : Int32).toInt = 34 := rfl; have : (35 : Int32).toInt = 35 := rfl; have : (36 : Int32).toInt = 36 := rfl; have : (37 : Int32).toInt = 37 := rfl; have : (38 : Int32).toInt = 38 := rfl; have : (39 : Int32).toInt = 39 := rfl; have : (40 : Int32).toInt = 40 := rfl; have : (41 : Int32).toInt = 41 := rfl; have : (42 : Int32).toInt = 42 := rfl; have : (43 : Int32).toInt = 43 := rfl; omega), Or.inl (p14.2.1 (p14.1.resolve_left c203)), (p216.2 (p216.1.resolve_left c218))⟩, fun h => absurd (h.symm.trans hK) (by decide), fun h => absurd (h.symm.trans hK) (by decide), fun h => absurd (h.symm.trans hK) (by decide)⟩⟩⟩))
    · exact wq_t (Or.inl rfl) (wq_some (rI_i ⟨rfl, ⟨(Or.inl rfl), fun h => absurd h (by decide)⟩⟩))
  refine wq_if _ (fun c219 => ?_) (fun c219 => ?_)
  · refine wq_if _ (fun c220 => ?_) (fun c220 => ?_)
    · refine wq_at H.1 ?_
      refine wq_cI (v_kindOf H O G (hch 0)) ?_
      rintro y223 h221 ⟨rfl, rfl⟩
      refine wq_if _ (fun c224 => ?_) (fun c224 => ?_)
      · obtain ⟨⟨z225, z226⟩, z227⟩ := kO_v (hch 0) c224 (by decide)
        refine wq_gR H.1 rfl ?_
        refine rv_n H G (by omega) rfl rfl (nQ_j (by omega)) (by have := congrArg Int32.toInt c219; have := congrArg Int32.toInt c220; have := congrArg Int32.toInt c224; have : (3 : Int32).toInt = 3 := rfl; have : (44 : Int32).toInt = 44 := rfl; have : (48 : Int32).toInt = 48 := rfl; omega) (by have := congrArg Int32.toInt c219; have := congrArg Int32.toInt c220; have := congrArg Int32.toInt c224; have : (3 : Int32).toInt = 3 := rfl; have : (44 : Int32).toInt = 44 := rfl; have : (48 : Int32).toInt = 48 := rfl; show _ < (24000 : Int); omega) ?_
        refine wq_at H.1 ?_
        refine wq_cI (v_all H O G (DI_b D h0 h1 0 (kO_v (hch 0) c224 (by decide)).1)) ?_
        rintro y230 h228 ⟨rfl, p229⟩
        refine wq_if _ (fun c231 => ?_) (fun c231 => ?_)
        · exact wq_t (Or.inl rfl) (wq_some (rI_i ⟨rfl, ⟨(Or.inl rfl), fun h => absurd h (by decide)⟩⟩))
        · refine wq_if _ (fun c232 => ?_) (fun c232 => ?_)
          · refine wq_at H.1 ?_
            refine wq_cI (v_kindOf H O G (hch 1)) ?_
            rintro y235 h233 ⟨rfl, rfl⟩
            refine wq_if _ (fun c236 => ?_) (fun c236 => ?_)
            · obtain ⟨⟨z237, z238⟩, z239⟩ := kO_v (hch 1) c236 (by decide)
              refine wq_eq q_57_499 ?_
              refine wq_at H.1 ?_
              refine wq_cI (v_kindOf H O G (hch 2)) ?_
              rintro y242 h240 ⟨rfl, rfl⟩
              refine wq_if _ (fun c243 => ?_) (fun c243 => ?_)
              · obtain ⟨⟨z244, z245⟩, z246⟩ := kO_v (hch 2) c243 (by decide)
                exact wq_t (Or.inr rfl) (wq_some (rI_i ⟨rfl, ⟨(Or.inr rfl), fun hx1 => by have hK : (ia σ0 8 v1.toInt.toNat).toInt = 44 := (congrArg Int32.toInt c219); exact ⟨fun h => absurd (h.symm.trans hK) (by decide), fun h => absurd (h.symm.trans hK) (by decide), fun h => absurd (h.symm.trans hK) (by decide), fun h => absurd (h.symm.trans hK) (by decide), fun h => by omega, fun h => absurd (h.symm.trans hK) (by decide), fun h => absurd (h.symm.trans hK) (by decide), fun h => by omega, fun _ => ⟨(by have := ne_i c22; have := ne_i c72; have := ne_i c76; have := ne_i c80; have := ne_i c87; have := ne_i c93; have := ne_i c100; have := ne_i c104; have := ne_i c108; have := ne_i c139; have := ne_i c170; have := ne_i c177; have := ne_i c183; have := ne_i c201; have := congrArg Int32.toInt c219; have := congrArg Int32.toInt c220; have := congrArg Int32.toInt c224; have := ne_i c231; have := congrArg Int32.toInt c232; have := congrArg Int32.toInt c236; have := congrArg Int32.toInt c243; have : (0 : Int32).toInt = 0 := rfl; have : (3 : Int32).toInt = 3 := rfl; have : (30 : Int32).toInt = 30 := rfl; have : (31 : Int32).toInt = 31 := rfl; have : (32 : Int32).toInt = 32 := rfl; have : (33 : Int32).toInt = 33 := rfl; have : (34 : Int32).toInt = 34 := rfl; have : (35 : Int32).toInt = 35 := rfl; have : (36 : Int32).toInt = 36 := rfl; have : (37 : Int32).toInt = 37 := rfl; have : (38 : Int32).toInt = 38 := rfl; have : (39 : Int32).toInt = 39 := rfl; have : (40 : Int32).toInt = 40 := rfl; have : (41 : Int32).toInt = 41 := rfl; have : (42 : Int32).toInt = 42 := rfl; have : (43 : Int32).toInt = 43 := rfl; have : (44 : Int32).toInt = 44 := rfl; have : (48 : Int32).toInt = 48 := rfl; omega), c224, Or.inr c236, Or.inl c243⟩, fun h => absurd (h.symm.trans hK) (by decide), fun h => absurd (h.symm.trans hK) (by decide)⟩⟩⟩))
              · refine wq_at H.1 ?_
                refine wq_cI (v_kindOf H O G (hch 2)) ?_
                rintro y249 h247 ⟨rfl, rfl⟩
                refine wq_if _ (fun c250 => ?_) (fun c250 => ?_)
                · obtain ⟨⟨z251, z252⟩, z253⟩ := kO_v (hch 2) c250 (by decide)
                  exact wq_t (Or.inr rfl) (wq_some (rI_i ⟨rfl, ⟨(Or.inr rfl), fun hx1 => by have hK : (ia σ0 8 v1.toInt.toNat).toInt = 44 := (congrArg Int32.toInt c219); exact ⟨fun h => absurd (h.symm.trans hK) (by decide), fun h => absurd (h.symm.trans hK) (by decide), fun h => absurd (h.symm.trans hK) (by decide), fun h => absurd (h.symm.trans hK) (by decide), fun h => by omega, fun h => absurd (h.symm.trans hK) (by decide), fun h => absurd (h.symm.trans hK) (by decide), fun h => by omega, fun _ => ⟨(by have := ne_i c22; have := ne_i c72; have := ne_i c76; have := ne_i c80; have := ne_i c87; have := ne_i c93; have := ne_i c100; have := ne_i c104; have := ne_i c108; have := ne_i c139; have := ne_i c170; have := ne_i c177; have := ne_i c183; have := ne_i c201; have := congrArg Int32.toInt c219; have := congrArg Int32.toInt c220; have := congrArg Int32.toInt c224; have := ne_i c231; have := congrArg Int32.toInt c232; have := congrArg Int32.toInt c236; have := ne_i c243; have := congrArg Int32.toInt c250; have : (0 : Int32).toInt = 0 := rfl; have : (3 : Int32).toInt = 3 := rfl; have : (30 : Int32).toInt = 30 := rfl; have : (31 : Int32).toInt = 31 := rfl; have : (32 : Int32).toInt = 32 := rfl; have : (33 : Int32).toInt = 33 := rfl; have : (34 : Int32).toInt = 34 := rfl; have : (35 : Int32).toInt = 35 := rfl; have : (36 : Int32).toInt = 36 := rfl; have : (37 : Int32).toInt = 37 := rfl; have : (38 : Int32).toInt = 38 := rfl; have : (39 : Int32).toInt = 39 := rfl; have : (40 : Int32).toInt = 40 := rfl; have : (41 : Int32).toInt = 41 := rfl; have : (42 : Int32).toInt = 42 := rfl; have : (43 : Int32).toInt = 43 := rfl; have : (44 : Int32).toInt = 44 := rfl; have : (48 : Int32).toInt = 48 := rfl; omega), c224, Or.inr c236, Or.inr c250⟩, fun h => absurd (h.symm.trans hK) (by decide), fun h => absurd (h.symm.trans hK) (by decide)⟩⟩⟩))
                · exact wq_t (Or.inl rfl) (wq_some (rI_i ⟨rfl, ⟨(Or.inl rfl), fun h => absurd h (by decide)⟩⟩))
            · exact wq_t (Or.inl rfl) (wq_some (rI_i ⟨rfl, ⟨(Or.inl rfl), fun h => absurd h (by decide)⟩⟩))
          · refine wq_eq q_57_499 ?_
            refine wq_at H.1 ?_
            refine wq_cI (v_kindOf H O G (hch 2)) ?_
            rintro y256 h254 ⟨rfl, rfl⟩
            refine wq_if _ (fun c257 => ?_) (fun c257 => ?_)
            · obtain ⟨⟨z258, z259⟩, z260⟩ := kO_v (hch 2) c257 (by decide)
              exact wq_t (Or.inr rfl) (wq_some (rI_i ⟨rfl, ⟨(Or.inr rfl), fun hx1 => by have hK : (ia σ0 8 v1.toInt.toNat).toInt = 44 := (congrArg Int32.toInt c219); exact ⟨fun h => absurd (h.symm.trans hK) (by decide), fun h => absurd (h.symm.trans hK) (by decide), fun h => absurd (h.symm.trans hK) (by decide), fun h => absurd (h.symm.trans hK) (by decide), fun h => by omega, fun h => absurd (h.symm.trans hK) (by decide), fun h => absurd (h.symm.trans hK) (by decide), fun h => by omega, fun _ => ⟨(by have := ne_i c22; have := ne_i c72; have := ne_i c76; have := ne_i c80; have := ne_i c87; have := ne_i c93; have := ne_i c100; have := ne_i c104; have := ne_i c108; have := ne_i c139; have := ne_i c170; have := ne_i c177; have := ne_i c183; have := ne_i c201; have := congrArg Int32.toInt c219; have := congrArg Int32.toInt c220; have := congrArg Int32.toInt c224; have := ne_i c231; have := ne_i c232; have := congrArg Int32.toInt c257; have : (0 : Int32).toInt = 0 := rfl; have : (3 : Int32).toInt = 3 := rfl; have : (30 : Int32).toInt = 30 := rfl; have : (31 : Int32).toInt = 31 := rfl; have : (32 : Int32).toInt = 32 := rfl; have : (33 : Int32).toInt = 33 := rfl; have : (34 : Int32).toInt = 34 := rfl; have : (35 : Int32).toInt = 35 := rfl; have : (36 : Int32).toInt = 36 := rfl; have : (37 : Int32).toInt = 37 := rfl; have : (38 : Int32).toInt = 38 := rfl; have : (39 : Int32).toInt = 39 := rfl; have : (40 : Int32).toInt = 40 := rfl; have : (41 : Int32).toInt = 41 := rfl; have : (42 : Int32).toInt = 42 := rfl; have : (43 : Int32).toInt = 43 := rfl; have : (44 : Int32).toInt = 44 := rfl; have : (48 : Int32).toInt = 48 := rfl; omega), c224, Or.inl (p20.2.1 (p20.1.resolve_left c232)), Or.inl c257⟩, fun h => absurd (h.symm.trans hK) (by decide), fun h => absurd (h.symm.trans hK) (by decide)⟩⟩⟩))
            · refine wq_at H.1 ?_
              refine wq_cI (v_kindOf H O G (hch 2)) ?_
              rintro y263 h261 ⟨rfl, rfl⟩
              refine wq_if _ (fun c264 => ?_) (fun c264 => ?_)
              · obtain ⟨⟨z265, z266⟩, z267⟩ := kO_v (hch 2) c264 (by decide)
                exact wq_t (Or.inr rfl) (wq_some (rI_i ⟨rfl, ⟨(Or.inr rfl), fun hx1 => by have hK : (ia σ0 8 v1.toInt.toNat).toInt = 44 := (congrArg Int32.toInt c219); exact ⟨fun h => absurd (h.symm.trans hK) (by decide), fun h => absurd (h.symm.trans hK) (by decide), fun h => absurd (h.symm.trans hK) (by decide), fun h => absurd (h.symm.trans hK) (by decide), fun h => by omega, fun h => absurd (h.symm.trans hK) (by decide), fun h => absurd (h.symm.trans hK) (by decide), fun h => by omega, fun _ => ⟨(by have := ne_i c22; have := ne_i c72; have := ne_i c76; have := ne_i c80; have := ne_i c87; have := ne_i c93; have := ne_i c100; have := ne_i c104; have := ne_i c108; have := ne_i c139; have := ne_i c170; have := ne_i c177; have := ne_i c183; have := ne_i c201; have := congrArg Int32.toInt c219; have := congrArg Int32.toInt c220; have := congrArg Int32.toInt c224; have := ne_i c231; have := ne_i c232; have := ne_i c257; have := congrArg Int32.toInt c264; have : (0 : Int32).toInt = 0 := rfl; have : (3 : Int32).toInt = 3 := rfl; have : (30 : Int32).toInt = 30 := rfl; have : (31 : Int32).toInt = 31 := rfl; have : (32 : Int32).toInt = 32 := rfl; have : (33 : Int32).toInt = 33 := rfl; have : (34 : Int32).toInt = 34 := rfl; have : (35 : Int32).toInt = 35 := rfl; have : (36 : Int32).toInt = 36 := rfl; have : (37 : Int32).toInt = 37 := rfl; have : (38 : Int32).toInt = 38 := rfl; have : (39 : Int32).toInt = 39 := rfl; have : (40 : Int32).toInt = 40 := rfl; have : (41 : Int32).toInt = 41 := rfl; have : (42 : Int32).toInt = 42 := rfl; have : (43 : Int32).toInt = 43 := rfl; have : (44 : Int32).toInt = 44 := rfl; have : (48 : Int32).toInt = 48 := rfl; omega), c224, Or.inl (p20.2.1 (p20.1.resolve_left c232)), Or.inr c264⟩, fun h => absurd (h.symm.trans hK) (by decide), fun h => absurd (h.symm.trans hK) (by decide)⟩⟩⟩))
              · exact wq_t (Or.inl rfl) (wq_some (rI_i ⟨rfl, ⟨(Or.inl rfl), fun h => absurd h (by decide)⟩⟩))
      · exact wq_t (Or.inl rfl) (wq_some (rI_i ⟨rfl, ⟨(Or.inl rfl), fun h => absurd h (by decide)⟩⟩))
    · exact wq_t (Or.inl rfl) (wq_some (rI_i ⟨rfl, ⟨(Or.inl rfl), fun h => absurd h (by decide)⟩⟩))
  refine wq_if _ (fun c268 => ?_) (fun c268 => ?_)
  · refine wq_if _ (fun c269 => ?_) (fun c269 => ?_)
    · exact wq_t (Or.inr rfl) (wq_some (rI_i ⟨rfl, ⟨(Or.inr rfl), fun hx1 => by have hK : (ia σ0 8 v1.toInt.toNat).toInt = 45 := (congrArg Int32.toInt c268); exact ⟨fun h => absurd (h.symm.trans hK) (by decide), fun h => absurd (h.symm.trans hK) (by decide), fun h => absurd (h.symm.trans hK) (by decide), fun h => absurd (h.symm.trans hK) (by decide), fun h => by omega, fun h => absurd (h.symm.trans hK) (by decide), fun h => absurd (h.symm.trans hK) (by decide), fun h => by omega, fun h => absurd (h.symm.trans hK) (by decide), fun h => absurd (h.symm.trans hK) (by decide), fun h => absurd (h.symm.trans hK) (by decide)⟩⟩⟩))
    · exact wq_t (Or.inl rfl) (wq_some (rI_i ⟨rfl, ⟨(Or.inl rfl), fun h => absurd h (by decide)⟩⟩))
  refine wq_if _ (fun c270 => ?_) (fun c270 => ?_)
  · refine wq_if _ (fun c271 => ?_) (fun c271 => ?_)
    · refine wq_if _ (fun c272 => ?_) (fun c272 => ?_)
      · exact wq_t (Or.inl rfl) (wq_some (rI_i ⟨rfl, ⟨(Or.inl rfl), fun h => absurd h (by decide)⟩⟩))
      · exact wq_t (Or.inr rfl) (wq_some (rI_i ⟨rfl, ⟨(Or.inr rfl), fun hx1 => by have hK : (ia σ0 8 v1.toInt.toNat).toInt = 46 := (congrArg Int32.toInt c270); exact ⟨fun h => absurd (h.symm.trans hK) (by decide), fun h => absurd (h.symm.trans hK) (by decide), fun h => absurd (h.symm.trans hK) (by decide), fun h => absurd (h.symm.trans hK) (by decide), fun h => by omega, fun h => absurd (h.symm.trans hK) (by decide), fun h => absurd (h.symm.trans hK) (by decide), fun h => by omega, fun h => absurd (h.symm.trans hK) (by decide), fun _ => ⟨(by have := ne_i c22; have := ne_i c72; have := ne_i c76; have := ne_i c80; have := ne_i c87; have := ne_i c93; have := ne_i c100; have := ne_i c104; have := ne_i c108; have := ne_i c139; have := ne_i c170; have := ne_i c177; have := ne_i c183; have := ne_i c201; have := ne_i c219; have := ne_i c268; have := congrArg Int32.toInt c270; have := congrArg Int32.toInt c271; have := ne_i c272; have : (0 : Int32).toInt = 0 := rfl; have : (1 : Int32).toInt = 1 := rfl; have : (30 : Int32).toInt = 30 := rfl; have : (31 : Int32).toInt = 31 := rfl; have : (32 : Int32).toInt = 32 := rfl; have : (33 : Int32).toInt = 33 := rfl; have : (34 : Int32).toInt = 34 := rfl; have : (35 : Int32).toInt = 35 := rfl; have : (36 : Int32).toInt = 36 := rfl; have : (37 : Int32).toInt = 37 := rfl; have : (38 : Int32).toInt = 38 := rfl; have : (39 : Int32).toInt = 39 := rfl; have : (40 : Int32).toInt = 40 := rfl; have : (41 : Int32).toInt = 41 := rfl; have : (42 : Int32).toInt = 42 := rfl; have : (43 : Int32).toInt = 43 := rfl; have : (44 : Int32).toInt = 44 := rfl; have : (45 : Int32).toInt = 45 := rfl; have : (46 : Int32).toInt = 46 := rfl; omega), (p14.2.1 (p14.1.resolve_left c272))⟩, fun h => absurd (h.symm.trans hK) (by decide)⟩⟩⟩))
    · exact wq_t (Or.inl rfl) (wq_some (rI_i ⟨rfl, ⟨(Or.inl rfl), fun h => absurd h (by decide)⟩⟩))
  refine wq_eq q_57_551 ?_
  refine wq_if _ (fun c273 => ?_) (fun c273 => ?_)
  · refine wq_if _ (fun c274 => ?_) (fun c274 => ?_)
    · exact wq_t (Or.inl rfl) (wq_some (rI_i ⟨rfl, ⟨(Or.inl rfl), fun h => absurd h (by decide)⟩⟩))
    · refine wq_if _ (fun c275 => ?_) (fun c275 => ?_)
      · exact wq_t (Or.inl rfl) (wq_some (rI_i ⟨rfl, ⟨(Or.inl rfl), fun h => absurd h (by decide)⟩⟩))
      · exact wq_t (Or.inr rfl) (wq_some (rI_i ⟨rfl, ⟨(Or.inr rfl), fun hx1 => by have hK : (ia σ0 8 v1.toInt.toNat).toInt = 47 := (by have := ne_i c22; have := ne_i c72; have := ne_i c76; have := ne_i c80; have := ne_i c87; have := ne_i c93; have := ne_i c100; have := ne_i c104; have := ne_i c108; have := ne_i c139; have := ne_i c170; have := ne_i c177; have := ne_i c183; have := ne_i c201; have := ne_i c219; have := ne_i c268; have := ne_i c270; have := congrArg Int32.toInt c273; have := ne_i c274; have := ne_i c275; have : (0 : Int32).toInt = 0 := rfl; have : (2 : Int32).toInt = 2 := rfl; have : (30 : Int32).toInt = 30 := rfl; have : (31 : Int32).toInt = 31 := rfl; have : (32 : Int32).toInt = 32 := rfl; have : (33 : Int32).toInt = 33 := rfl; have : (34 : Int32).toInt = 34 := rfl; have : (35 : Int32).toInt = 35 := rfl; have : (36 : Int32).toInt = 36 := rfl; have : (37 : Int32).toInt = 37 := rfl; have : (38 : Int32).toInt = 38 := rfl; have : (39 : Int32).toInt = 39 := rfl; have : (40 : Int32).toInt = 40 := rfl; have : (41 : Int32).toInt = 41 := rfl; have : (42 : Int32).toInt = 42 := rfl; have : (43 : Int32).toInt = 43 := rfl; have : (44 : Int32).toInt = 44 := rfl; have : (45 : Int32).toInt = 45 := rfl; have : (46 : Int32).toInt = 46 := rfl; unfold isS at hy; omega); exact ⟨fun h => absurd (h.symm.trans hK) (by decide), fun h => absurd (h.symm.trans hK) (by decide), fun h => absurd (h.symm.trans hK) (by decide), fun h => absurd (h.symm.trans hK) (by decide), fun h => by omega, fun h => absurd (h.symm.trans hK) (by decide), fun h => absurd (h.symm.trans hK) (by decide), fun h => by omega, fun h => absurd (h.symm.trans hK) (by decide), fun h => absurd (h.symm.trans hK) (by decide), fun _ => ⟨(by have := ne_i c22; have := ne_i c72; have := ne_i c76; have := ne_i c80; have := ne_i c87; have := ne_i c93; have := ne_i c100; have := ne_i c104; have := ne_i c108; have := ne_i c139; have := ne_i c170; have := ne_i c177; have := ne_i c183; have := ne_i c201; have := ne_i c219; have := ne_i c268; have := ne_i c270; have := congrArg Int32.toInt c273; have := ne_i c274; have := ne_i c275; have : (0 : Int32).toInt = 0 := rfl; have : (2 : Int32).toInt = 2 := rfl; have : (30 : Int32).toInt = 30 := rfl; have : (31 : Int32).toInt = 31 := rfl; have : (32 : Int32).toInt = 32 := rfl; have : (33 : Int32).toInt = 33 := rfl; have : (34 : Int32).toInt = 34 := rfl; have : (35 : Int32).toInt = 35 := rfl; have : (36 : Int32).toInt = 36 := rfl; have : (37 : Int32).toInt = 37 := rfl; have : (38 : Int32).toInt = 38 := rfl; have : (39 : Int32).toInt = 39 := rfl; have : (40 : Int32).toInt = 40 := rfl; have : (41 : Int32).toInt = 41 := rfl; have : (42 : Int32).toInt = 42 := rfl; have : (43 : Int32).toInt = 43 := rfl; have : (44 : Int32).toInt = 44 := rfl; have : (45 : Int32).toInt = 45 := rfl; have : (46 : Int32).toInt = 46 := rfl; omega), (p14.2.1 (p14.1.resolve_left c274)), (p20.2.1 (p20.1.resolve_left c275))⟩⟩⟩⟩))
  · exact wq_t (Or.inl rfl) (wq_some (rI_i ⟨rfl, ⟨(Or.inl rfl), fun h => absurd h (by decide)⟩⟩))
theorem v_rightOther {d : Nat} {h : ah_H} {v1 : Int32} (H : RH m σ b h) (O : OKV σ) (G : sm (QR p) σ0 σ)  (D : DI σ0) (h0 : 0 ≤ v1.toInt) (h1 : v1.toInt < (σ0.1 19).toInt) (hr : vD (ch σ0 v1.toInt 0).toInt → RV σ0 (ch σ0 v1.toInt 0).toInt) (hs : (σ0.1 7).toInt ≤ 512) (hd : (σ0.1 9).toInt ≤ 128) : wq (vc lim (d + 3) m_Ref_rightOther [.inr (.inr (some m)), .inl v1] h) (rI fun x h' => h' = h ∧ ((x = 0 ∨ x = 1) ∧ (x = 1 → RO σ0 v1.toInt))) := by
  obtain ⟨⟨k0, k1⟩, m0, m1, hck, -, t0, t1, -⟩ := DI_k D h0 h1
  have hN := D.2.1
  have hch := DI_o D h0 h1
  refine wq_eq e_Ref_rightOther ?_
  refine wq_gR H.1 rfl ?_
  refine rv_n H G (by omega) rfl rfl (nQ_j (by omega)) (by omega) (by show _ < (24000 : Int); omega) ?_
  refine wq_at H.1 ?_
  refine wq_cI (v_ch0 H O G ⟨k0, k1⟩ hch) ?_
  rintro y3 h1 ⟨rfl, rfl⟩
  refine wq_at H.1 ?_
  refine wq_cI (v_ch1 H O G ⟨k0, k1⟩ hch) ?_
  rintro y6 h4 ⟨rfl, rfl⟩
  refine wq_gR H.1 rfl ?_
  refine rv_n H G (by omega) rfl rfl (nQ_j (by omega)) (by omega) (by show _ < (24000 : Int); omega) ?_
  refine wq_if _ (fun c7 => ?_) (fun c7 => ?_)
  · refine wq_if _ (fun c8 => ?_) (fun c8 => ?_)
    · exact wq_t (Or.inr rfl) (wq_some (rI_i ⟨rfl, ⟨(Or.inr rfl), fun hx1 => by have hK : (ia σ0 8 v1.toInt.toNat).toInt = 0 := (congrArg Int32.toInt c7); exact ⟨fun h => absurd (h.symm.trans hK) (by decide), fun h => absurd (h.symm.trans hK) (by decide), fun h => absurd (h.symm.trans hK) (by decide)⟩⟩⟩))
    · exact wq_t (Or.inl rfl) (wq_some (rI_i ⟨rfl, ⟨(Or.inl rfl), fun h => absurd h (by decide)⟩⟩))
  refine wq_if _ (fun c9 => ?_) (fun c9 => ?_)
  · refine wq_if _ (fun c10 => ?_) (fun c10 => ?_)
    · refine wq_at H.1 ?_
      refine wq_cI (v_kindOf H O G (hch 0)) ?_
      rintro y13 h11 ⟨rfl, rfl⟩
      refine wq_cI v_expression ?_
      rintro y16 h14 ⟨rfl, p15⟩
      refine wq_if _ (fun c17 => ?_) (fun c17 => ?_)
      · exact wq_t (Or.inl rfl) (wq_some (rI_i ⟨rfl, ⟨(Or.inl rfl), fun h => absurd h (by decide)⟩⟩))
      · refine wq_at H.1 ?_
        refine wq_cI (v_kindOf H O G (hch 1)) ?_
        rintro y20 h18 ⟨rfl, rfl⟩
        refine wq_if _ (fun c21 => ?_) (fun c21 => ?_)
        · obtain ⟨⟨z22, z23⟩, z24⟩ := kO_v (hch 1) c21 (by decide)
          exact wq_t (Or.inr rfl) (wq_some (rI_i ⟨rfl, ⟨(Or.inr rfl), fun hx1 => by have hK : (ia σ0 8 v1.toInt.toNat).toInt = 31 := (congrArg Int32.toInt c9); exact ⟨fun _ => ⟨(by have := ne_i c7; have := congrArg Int32.toInt c9; have := congrArg Int32.toInt c10; have := ne_i c17; have := congrArg Int32.toInt c21; have : (0 : Int32).toInt = 0 := rfl; have : (2 : Int32).toInt = 2 := rfl; have : (31 : Int32).toInt = 31 := rfl; omega), (p15.2.1 (p15.1.resolve_left c17)), Or.inl c21⟩, fun h => absurd (h.symm.trans hK) (by decide), fun h => absurd (h.symm.trans hK) (by decide)⟩⟩⟩))
        · refine wq_at H.1 ?_
          refine wq_cI (v_kindOf H O G (hch 1)) ?_
          rintro y27 h25 ⟨rfl, rfl⟩
          refine wq_if _ (fun c28 => ?_) (fun c28 => ?_)
          · obtain ⟨⟨z29, z30⟩, z31⟩ := kO_v (hch 1) c28 (by decide)
            exact wq_t (Or.inr rfl) (wq_some (rI_i ⟨rfl, ⟨(Or.inr rfl), fun hx1 => by have hK : (ia σ0 8 v1.toInt.toNat).toInt = 31 := (congrArg Int32.toInt c9); exact ⟨fun _ => ⟨(by have := ne_i c7; have := congrArg Int32.toInt c9; have := congrArg Int32.toInt c10; have := ne_i c17; have := ne_i c21; have := congrArg Int32.toInt c28; have : (0 : Int32).toInt = 0 := rfl; have : (2 : Int32).toInt = 2 := rfl; have : (31 : Int32).toInt = 31 := rfl; have : (32 : Int32).toInt = 32 := rfl; omega), (p15.2.1 (p15.1.resolve_left c17)), Or.inr c28⟩, fun h => absurd (h.symm.trans hK) (by decide), fun h => absurd (h.symm.trans hK) (by decide)⟩⟩⟩))
          · exact wq_t (Or.inl rfl) (wq_some (rI_i ⟨rfl, ⟨(Or.inl rfl), fun h => absurd h (by decide)⟩⟩))
    · exact wq_t (Or.inl rfl) (wq_some (rI_i ⟨rfl, ⟨(Or.inl rfl), fun h => absurd h (by decide)⟩⟩))
  refine wq_if _ (fun c32 => ?_) (fun c32 => ?_)
  · refine wq_if _ (fun c33 => ?_) (fun c33 => ?_)
    · refine wq_gR H.1 rfl ?_
      refine rv_n H G (by omega) rfl rfl (nQ_j (by omega)) (by have := ne_i c7; have := ne_i c9; have := congrArg Int32.toInt c32; have := congrArg Int32.toInt c33; have : (0 : Int32).toInt = 0 := rfl; have : (1 : Int32).toInt = 1 := rfl; have : (31 : Int32).toInt = 31 := rfl; have : (32 : Int32).toInt = 32 := rfl; omega) (by have := ne_i c7; have := ne_i c9; have := congrArg Int32.toInt c32; have := congrArg Int32.toInt c33; have : (0 : Int32).toInt = 0 := rfl; have : (1 : Int32).toInt = 1 := rfl; have : (31 : Int32).toInt = 31 := rfl; have : (32 : Int32).toInt = 32 := rfl; show _ < (24000 : Int); omega) ?_
      refine wq_if _ (fun c34 => ?_) (fun c34 => ?_)
      · exact wq_t (Or.inl rfl) (wq_some (rI_i ⟨rfl, ⟨(Or.inl rfl), fun h => absurd h (by decide)⟩⟩))
      · refine wq_gR H.1 rfl ?_
        refine rv_n H G (by omega) rfl rfl (nQ_j (by omega)) (by have := ne_i c7; have := ne_i c9; have := congrArg Int32.toInt c32; have := congrArg Int32.toInt c33; have := nlt_i c34; have : (0 : Int32).toInt = 0 := rfl; have : (1 : Int32).toInt = 1 := rfl; have : (31 : Int32).toInt = 31 := rfl; have : (32 : Int32).toInt = 32 := rfl; omega) (by have := ne_i c7; have := ne_i c9; have := congrArg Int32.toInt c32; have := congrArg Int32.toInt c33; have := nlt_i c34; have : (0 : Int32).toInt = 0 := rfl; have : (1 : Int32).toInt = 1 := rfl; have : (31 : Int32).toInt = 31 := rfl; have : (32 : Int32).toInt = 32 := rfl; show _ < (24000 : Int); omega) ?_
        refine wq_if _ (fun c35 => ?_) (fun c35 => ?_)
        · refine wq_at H.1 ?_
          refine wq_cI (v_kindOf H O G (hch 0)) ?_
          rintro y38 h36 ⟨rfl, rfl⟩
          refine wq_cI v_expression ?_
          rintro y41 h39 ⟨rfl, p40⟩
          refine wq_if _ (fun c42 => ?_) (fun c42 => ?_)
          · exact wq_t (Or.inl rfl) (wq_some (rI_i ⟨rfl, ⟨(Or.inl rfl), fun h => absurd h (by decide)⟩⟩))
          · exact wq_t (Or.inr rfl) (wq_some (rI_i ⟨rfl, ⟨(Or.inr rfl), fun hx1 => by have hK : (ia σ0 8 v1.toInt.toNat).toInt = 32 := (congrArg Int32.toInt c32); exact ⟨fun h => absurd (h.symm.trans hK) (by decide), fun _ => ⟨(by have := ne_i c7; have := ne_i c9; have := congrArg Int32.toInt c32; have := congrArg Int32.toInt c33; have := nlt_i c34; have := le_i c35; have := ne_i c42; have : (0 : Int32).toInt = 0 := rfl; have : (1 : Int32).toInt = 1 := rfl; have : (1000000 : Int32).toInt = 1000000 := rfl; have : (31 : Int32).toInt = 31 := rfl; have : (32 : Int32).toInt = 32 := rfl; omega), (p40.2.1 (p40.1.resolve_left c42))⟩, fun h => absurd (h.symm.trans hK) (by decide)⟩⟩⟩))
        · exact wq_t (Or.inl rfl) (wq_some (rI_i ⟨rfl, ⟨(Or.inl rfl), fun h => absurd h (by decide)⟩⟩))
    · exact wq_t (Or.inl rfl) (wq_some (rI_i ⟨rfl, ⟨(Or.inl rfl), fun h => absurd h (by decide)⟩⟩))
  refine wq_if _ (fun c43 => ?_) (fun c43 => ?_)
  · refine wq_if _ (fun c44 => ?_) (fun c44 => ?_)
    · refine wq_at H.1 ?_
      refine wq_cI (v_kindOf H O G (hch 0)) ?_
      rintro y47 h45 ⟨rfl, rfl⟩
      refine wq_if _ (fun c48 => ?_) (fun c48 => ?_)
      · obtain ⟨⟨z49, z50⟩, z51⟩ := kO_v (hch 0) c48 (by decide)
        refine wq_gR H.1 rfl ?_
        refine rv_n H G (by omega) rfl rfl (nQ_j (by omega)) (by have := ne_i c7; have := ne_i c9; have := ne_i c32; have := congrArg Int32.toInt c43; have := congrArg Int32.toInt c44; have := congrArg Int32.toInt c48; have : (0 : Int32).toInt = 0 := rfl; have : (2 : Int32).toInt = 2 := rfl; have : (31 : Int32).toInt = 31 := rfl; have : (32 : Int32).toInt = 32 := rfl; have : (36 : Int32).toInt = 36 := rfl; have : (48 : Int32).toInt = 48 := rfl; omega) (by have := ne_i c7; have := ne_i c9; have := ne_i c32; have := congrArg Int32.toInt c43; have := congrArg Int32.toInt c44; have := congrArg Int32.toInt c48; have : (0 : Int32).toInt = 0 := rfl; have : (2 : Int32).toInt = 2 := rfl; have : (31 : Int32).toInt = 31 := rfl; have : (32 : Int32).toInt = 32 := rfl; have : (36 : Int32).toInt = 36 := rfl; have : (48 : Int32).toInt = 48 := rfl; show _ < (24000 : Int); omega) ?_
        refine wq_if _ (fun c52 => ?_) (fun c52 => ?_)
        · exact wq_t (Or.inl rfl) (wq_some (rI_i ⟨rfl, ⟨(Or.inl rfl), fun h => absurd h (by decide)⟩⟩))
        · refine wq_at H.1 ?_
          refine wq_cI (v_body H O G (hch 1) (DI_b D h0 h1 1)) ?_
          rintro y55 h53 ⟨rfl, p54⟩
          refine wq_if _ (fun c56 => ?_) (fun c56 => ?_)
          · exact wq_t (Or.inl rfl) (wq_some (rI_i ⟨rfl, ⟨(Or.inl rfl), fun h => absurd h (by decide)⟩⟩))
          · refine wq_gR H.1 rfl ?_
            refine rv_n H G (by omega) rfl rfl (nQ_j (by omega)) (by have := ne_i c7; have := ne_i c9; have := ne_i c32; have := congrArg Int32.toInt c43; have := congrArg Int32.toInt c44; have := congrArg Int32.toInt c48; have := ne_i c52; have : (0 : Int32).toInt = 0 := rfl; have : (2 : Int32).toInt = 2 := rfl; have : (31 : Int32).toInt = 31 := rfl; have : (32 : Int32).toInt = 32 := rfl; have : (36 : Int32).toInt = 36 := rfl; have : (48 : Int32).toInt = 48 := rfl; omega) (by have := ne_i c7; have := ne_i c9; have := ne_i c32; have := congrArg Int32.toInt c43; have := congrArg Int32.toInt c44; have := congrArg Int32.toInt c48; have := ne_i c52; have : (0 : Int32).toInt = 0 := rfl; have : (2 : Int32).toInt = 2 := rfl; have : (31 : Int32).toInt = 31 := rfl; have : (32 : Int32).toInt = 32 := rfl; have : (36 : Int32).toInt = 36 := rfl; have : (48 : Int32).toInt = 48 := rfl; show _ < (24000 : Int); omega) ?_
            obtain ⟨l57, w58⟩ := DI_b D h0 h1 0 (kO_v (hch 0) c48 (by decide)).1
            refine ro_loop H G l57 1 _ w58 (Or.inr rfl) (fun _ ha => ?_)
            have hK : (ia σ0 8 v1.toInt.toNat).toInt = 36 := (congrArg Int32.toInt c43)
            exact ⟨fun h => absurd (h.symm.trans hK) (by decide), fun h => absurd (h.symm.trans hK) (by decide), fun _ => ⟨(by have := ne_i c7; have := ne_i c9; have := ne_i c32; have := congrArg Int32.toInt c43; have := congrArg Int32.toInt c44; have := congrArg Int32.toInt c48; have := ne_i c52; have := ne_i c56; have : (0 : Int32).toInt = 0 := rfl; have : (2 : Int32).toInt = 2 := rfl; have : (31 : Int32).toInt = 31 := rfl; have : (32 : Int32).toInt = 32 := rfl; have : (36 : Int32).toInt = 36 := rfl; have : (48 : Int32).toInt = 48 := rfl; omega), c48, (p54.2 (p54.1.resolve_left c56)), fun l' hl' => by rw [chn_fun hl' w58]; exact ha⟩⟩
      · exact wq_t (Or.inl rfl) (wq_some (rI_i ⟨rfl, ⟨(Or.inl rfl), fun h => absurd h (by decide)⟩⟩))
    · exact wq_t (Or.inl rfl) (wq_some (rI_i ⟨rfl, ⟨(Or.inl rfl), fun h => absurd h (by decide)⟩⟩))
  refine wq_if _ (fun c59 => ?_) (fun c59 => ?_)
  · refine wq_if _ (fun c60 => ?_) (fun c60 => ?_)
    · exact wq_t (Or.inr rfl) (wq_some (rI_i ⟨rfl, ⟨(Or.inr rfl), fun hx1 => by have hK : (ia σ0 8 v1.toInt.toNat).toInt = 37 := (congrArg Int32.toInt c59); exact ⟨fun h => absurd (h.symm.trans hK) (by decide), fun h => absurd (h.symm.trans hK) (by decide), fun h => absurd (h.symm.trans hK) (by decide)⟩⟩⟩))
    · exact wq_t (Or.inl rfl) (wq_some (rI_i ⟨rfl, ⟨(Or.inl rfl), fun h => absurd h (by decide)⟩⟩))
  refine wq_gR H.1 rfl ?_
  refine rv_n H G (by omega) rfl rfl (nQ_j (by omega)) (by have := ne_i c7; have := ne_i c9; have := ne_i c32; have := ne_i c43; have := ne_i c59; have : (0 : Int32).toInt = 0 := rfl; have : (31 : Int32).toInt = 31 := rfl; have : (32 : Int32).toInt = 32 := rfl; have : (36 : Int32).toInt = 36 := rfl; have : (37 : Int32).toInt = 37 := rfl; omega) (by have := ne_i c7; have := ne_i c9; have := ne_i c32; have := ne_i c43; have := ne_i c59; have : (0 : Int32).toInt = 0 := rfl; have : (31 : Int32).toInt = 31 := rfl; have : (32 : Int32).toInt = 32 := rfl; have : (36 : Int32).toInt = 36 := rfl; have : (37 : Int32).toInt = 37 := rfl; show _ < (24000 : Int); omega) ?_
  refine wq_if _ (fun c61 => ?_) (fun c61 => ?_)
  · exact wq_t (Or.inr rfl) (wq_some (rI_i ⟨rfl, ⟨(Or.inr rfl), fun hx1 => by have hK : (ia σ0 8 v1.toInt.toNat).toInt = 48 := (congrArg Int32.toInt c61); exact ⟨fun h => absurd (h.symm.trans hK) (by decide), fun h => absurd (h.symm.trans hK) (by decide), fun h => absurd (h.symm.trans hK) (by decide)⟩⟩⟩))
  · exact wq_t (Or.inl rfl) (wq_some (rI_i ⟨rfl, ⟨(Or.inl rfl), fun h => absurd h (by decide)⟩⟩))
theorem v_valued {d : Nat} {h : ah_H} {v1 : Int32} (H : RH m σ b h) (O : OKV σ) (G : sm (QR p) σ0 σ)   : wq (vc lim (d + 1) m_Ref_valued [.inr (.inr (some m)), .inl v1] h) (rI fun x h' => h' = h ∧ (x = 0 ∨ x = 1)) := by
  refine wq_eq e_Ref_valued ?_
  refine wq_if _ (fun c1 => ?_) (fun c1 => ?_)
  · refine wq_eq q_54_58 ?_
    exact wq_t (Or.inr rfl) (wq_some (rI_i ⟨rfl, (Or.inr rfl)⟩))
  · refine wq_if _ (fun c2 => ?_) (fun c2 => ?_)
    · refine wq_eq q_54_58 ?_
      exact wq_t (Or.inr rfl) (wq_some (rI_i ⟨rfl, (Or.inr rfl)⟩))
    · refine wq_if _ (fun c3 => ?_) (fun c3 => ?_)
      · refine wq_eq q_54_58 ?_
        exact wq_t (Or.inr rfl) (wq_some (rI_i ⟨rfl, (Or.inr rfl)⟩))
      · refine wq_if _ (fun c4 => ?_) (fun c4 => ?_)
        · refine wq_eq q_54_58 ?_
          exact wq_t (Or.inr rfl) (wq_some (rI_i ⟨rfl, (Or.inr rfl)⟩))
        · refine wq_if _ (fun c5 => ?_) (fun c5 => ?_)
          · refine wq_eq q_54_58 ?_
            exact wq_t (Or.inr rfl) (wq_some (rI_i ⟨rfl, (Or.inr rfl)⟩))
          · refine wq_if _ (fun c6 => ?_) (fun c6 => ?_)
            · refine wq_eq q_54_58 ?_
              exact wq_t (Or.inr rfl) (wq_some (rI_i ⟨rfl, (Or.inr rfl)⟩))
            · refine wq_if _ (fun c7 => ?_) (fun c7 => ?_)
              · refine wq_eq q_54_58 ?_
                exact wq_t (Or.inr rfl) (wq_some (rI_i ⟨rfl, (Or.inr rfl)⟩))
              · refine wq_if _ (fun c8 => ?_) (fun c8 => ?_)
                · refine wq_eq q_54_58 ?_
                  exact wq_t (Or.inr rfl) (wq_some (rI_i ⟨rfl, (Or.inr rfl)⟩))
                · refine wq_if _ (fun c9 => ?_) (fun c9 => ?_)
                  · refine wq_eq q_54_58 ?_
                    exact wq_t (Or.inr rfl) (wq_some (rI_i ⟨rfl, (Or.inr rfl)⟩))
                  · refine wq_if _ (fun c10 => ?_) (fun c10 => ?_)
                    · refine wq_eq q_54_58 ?_
                      exact wq_t (Or.inr rfl) (wq_some (rI_i ⟨rfl, (Or.inr rfl)⟩))
                    · exact wq_t (Or.inl rfl) (wq_some (rI_i ⟨rfl, (Or.inl rfl)⟩))
theorem v_right {d : Nat} {h : ah_H} {v1 : Int32} (H : RH m σ b h) (O : OKV σ) (G : sm (QR p) σ0 σ) (D : DI σ0) (h0 : 0 ≤ v1.toInt) (h1 : v1.toInt < (σ0.1 19).toInt) (hr : vD (ch σ0 v1.toInt 0).toInt → RV σ0 (ch σ0 v1.toInt 0).toInt) (hs : (σ0.1 7).toInt ≤ 512) (hd : (σ0.1 9).toInt ≤ 128) : wq (vc lim (d + 5) m_Ref_right [.inr (.inr (some m)), .inl v1] h) (rI fun x h' => h' = h ∧ ((x = 0 ∨ x = 1) ∧ (x = 1 → RT σ0 v1.toInt))) := by
  obtain ⟨hv, -⟩ := DI_k D h0 h1
  have no : ∀ (h' : ah_H), h' = h → wq (if (0 : Int32) = 0 ∨ (0 : Int32) = 1 then some ((.inl (some (.inl (0 : Int32))), h') : ah_R) else none) (rI fun x h' => h' = h ∧ ((x = 0 ∨ x = 1) ∧ (x = 1 → RT σ0 v1.toInt))) := fun h' e => wq_t (Or.inl rfl) (wq_some (rI_i ⟨e, Or.inl rfl, fun e => absurd e (by decide)⟩))
  refine wq_eq e_Ref_right (wq_gR H.1 rfl (rd_d H G hv (by omega) (wq_if _ (fun c => ?_) (fun c => no h rfl))))
  have ht : (ia σ0 14 v1.toInt.toNat).toInt ≤ 100 := le_i c
  have go : wq (ah_val lim ah_P (d + 4) 55 35 [some (.inr (.inr (some m))), some (.inl v1)] [] h) (rI fun x h' => h' = h ∧ ((x = 0 ∨ x = 1) ∧ (x = 1 → RT σ0 v1.toInt))) := by
    refine wq_eq q_55_35 (wq_gR H.1 rfl (rd_d H G hv (by omega) (wq_cI v_expression ?_)))
    rintro y h2 ⟨rfl, hy, hx, hnx⟩
    refine wq_if _ (fun c1 => ?_) (fun c1 => ?_)
    · have hnx := hnx c1
      refine wq_gR H.1 rfl (rd_d H G hv (by omega) (wq_cI v_statement ?_))
      rintro y2 h3 ⟨rfl, hy2, hS, hnS⟩
      refine wq_if _ (fun c2 => ?_) (fun c2 => ?_)
      · have hnS := hnS c2
        refine wq_at H.1 (wq_cI (v_rightOther H O G D h0 h1 hr hs hd) ?_)
        rintro x h4 ⟨rfl, hz, hR⟩
        exact wq_t hz (wq_some (rI_i ⟨rfl, hz, fun e => ⟨ht, fun g => absurd g hnx, fun g => absurd g hnS, fun _ _ => hR e⟩⟩))
      · have hS := hS (hy2.resolve_left c2)
        refine wq_at H.1 (wq_cI (v_rightStatement H O G D h0 h1 hr hs hd hS) ?_)
        rintro x h4 ⟨rfl, hz, hR⟩
        exact wq_t hz (wq_some (rI_i ⟨rfl, hz, fun e => ⟨ht, fun g => absurd g hnx, fun _ => hR e, fun _ g => absurd hS g⟩⟩))
    · have hx := hx (hy.resolve_left c1)
      refine wq_at H.1 (wq_cI (v_rightExpression H O G D h0 h1 hr hs hd hx) ?_)
      rintro x h4 ⟨rfl, hz, hR⟩
      exact wq_t hz (wq_some (rI_i ⟨rfl, hz, fun e => ⟨ht, fun _ => hR e, fun g => (isX_S hx g).elim, fun g => absurd hx g⟩⟩))
  refine wq_gR H.1 rfl (rd_d H G hv (by omega) (wq_at H.1 (wq_cI (v_valued H O G) ?_)))
  rintro y h2 ⟨rfl, hy⟩
  exact wq_if _ (fun c1 => wq_gR H.1 rfl (rd_d H G hv (by omega) (wq_if _ (fun c2 => go) (fun c2 => no h2 rfl)))) (fun c1 => go)

end RfH
