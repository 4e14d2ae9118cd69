/-! THE LAW FROM ITS ENTRY: both objects are made -/
def σz : rS := (fun _ => 0, fun _ => 0, fun _ _ => 0, fun _ _ => 0)
theorem RI_0 : RI σz := by
  have e0 : (0 : Int32).toInt = 0 := rfl
  have f : ∀ k, (σz.1 k).toInt = 0 := fun _ => rfl
  refine ⟨fun i _ => ⟨(by decide : 0 ≤ (0 : Int32).toInt), (by decide : (0 : Int32).toInt ≤ 2), (by decide : 0 ≤ (0 : Int32).toInt), (by decide : (0 : Int32).toInt ≤ 64)⟩, DI_z rfl rfl, ⟨by decide, by decide, by decide, by decide, fun i _ => ⟨(by decide : 0 ≤ (0 : Int32).toInt), (by decide : (0 : Int32).toInt ≤ 500)⟩⟩, ⟨⟨by decide, by decide, by decide, by decide, by decide, by decide, by decide, by decide, by decide, by decide⟩, fun v hv => ?_⟩, fun a h0 h1 => ?_⟩
  · have := f 9
    omega
  · have := f 23
    omega
theorem rep_map {n : Nat} {v : AV} : (List.range n).map (fun _ => v) = List.replicate n v := by
  apply List.ext_getElem?
  intro i
  by_cases hi : i < n
  · rw [rm_get (f := fun _ => v) hi, List.getElem?_replicate_of_lt hi]
  · rw [List.getElem?_eq_none (by rw [List.length_map, List.length_range]; omega), List.getElem?_eq_none (by rw [List.length_replicate]; omega)]
set_option maxRecDepth 10000 in
theorem rl_0 : ∀ j, j < 39 → ∃ fld, tR[j]? = some (fld, rk j, (if rk j = 101 then aJ 0 else aI 0), rn j) := by
  intro j hj
  have h39 : ∀ k : Fin 39, ∃ fld, tR[k.1]? = some (fld, rk k.1, (if rk k.1 = 101 then aJ 0 else aI 0), rn k.1) := by
    intro k
    match k with
    | ⟨0, _⟩ => exact ⟨_, rfl⟩
    | ⟨1, _⟩ => exact ⟨_, rfl⟩
    | ⟨2, _⟩ => exact ⟨_, rfl⟩
    | ⟨3, _⟩ => exact ⟨_, rfl⟩
    | ⟨4, _⟩ => exact ⟨_, rfl⟩
    | ⟨5, _⟩ => exact ⟨_, rfl⟩
    | ⟨6, _⟩ => exact ⟨_, rfl⟩
    | ⟨7, _⟩ => exact ⟨_, rfl⟩
    | ⟨8, _⟩ => exact ⟨_, rfl⟩
    | ⟨9, _⟩ => exact ⟨_, rfl⟩
    | ⟨10, _⟩ => exact ⟨_, rfl⟩
    | ⟨11, _⟩ => exact ⟨_, rfl⟩
    | ⟨12, _⟩ => exact ⟨_, rfl⟩
    | ⟨13, _⟩ => exact ⟨_, rfl⟩
    | ⟨14, _⟩ => exact ⟨_, rfl⟩
    | ⟨15, _⟩ => exact ⟨_, rfl⟩
    | ⟨16, _⟩ => exact ⟨_, rfl⟩
    | ⟨17, _⟩ => exact ⟨_, rfl⟩
    | ⟨18, _⟩ => exact ⟨_, rfl⟩
    | ⟨19, _⟩ => exact ⟨_, rfl⟩
    | ⟨20, _⟩ => exact ⟨_, rfl⟩
    | ⟨21, _⟩ => exact ⟨_, rfl⟩
    | ⟨22, _⟩ => exact ⟨_, rfl⟩
    | ⟨23, _⟩ => exact ⟨_, rfl⟩
    | ⟨24, _⟩ => exact ⟨_, rfl⟩
    | ⟨25, _⟩ => exact ⟨_, rfl⟩
    | ⟨26, _⟩ => exact ⟨_, rfl⟩
    | ⟨27, _⟩ => exact ⟨_, rfl⟩
    | ⟨28, _⟩ => exact ⟨_, rfl⟩
    | ⟨29, _⟩ => exact ⟨_, rfl⟩
    | ⟨30, _⟩ => exact ⟨_, rfl⟩
    | ⟨31, _⟩ => exact ⟨_, rfl⟩
    | ⟨32, _⟩ => exact ⟨_, rfl⟩
    | ⟨33, _⟩ => exact ⟨_, rfl⟩
    | ⟨34, _⟩ => exact ⟨_, rfl⟩
    | ⟨35, _⟩ => exact ⟨_, rfl⟩
    | ⟨36, _⟩ => exact ⟨_, rfl⟩
    | ⟨37, _⟩ => exact ⟨_, rfl⟩
    | ⟨38, _⟩ => exact ⟨_, rfl⟩
    | ⟨k' + 39, hk⟩ => exact absurd hk (by omega)
  exact h39 ⟨j, hj⟩
theorem rl_z {j : Nat} : rl σz j = List.replicate (rn j) (if rk j = 101 then aJ 0 else aI 0) := by
  show (List.range (rn j)).map (fun _ => if rk j = 101 then aJ 0 else aI 0) = _
  exact rep_map
theorem RF_0 {m : Nat} : RF m σz.1 σz.2.1 = rF m := rfl
theorem RQ_z {U : Nat → UD} {Bf Vf : Nat → Nat} {hf : Nat → Nat → Nat} : RQ 0 (fun _ => thI 0 0 0) 0 U td00 0 (fun _ => 0) (fun _ => 0) (fun _ => 0) Bf Vf hf σz := by
  have no : ∀ {P : Prop} {i : Nat}, i < 0 → P := fun hi => absurd hi (Nat.not_lt_zero _)
  refine ⟨⟨⟨fun i _ => show 0 ≤ (0 : Int32).toInt ∧ (0 : Int32).toInt ≤ 2 ∧ 0 ≤ (0 : Int32).toInt ∧ (0 : Int32).toInt ≤ 64 by decide, fun i _ => show 0 ≤ (0 : Int32).toInt ∧ (0 : Int32).toInt ≤ 127 by decide⟩, ⟨Nat.zero_le _, fun i hi => no hi⟩, ⟨rfl, rfl, Nat.zero_le _, rfl⟩, ⟨⟨rfl, rfl, Nat.zero_le _, Nat.zero_le _⟩, fun i hi => no hi, rfl, fun w hw => no hw⟩, ⟨Nat.zero_le _, fun i hi => no hi⟩, fun j hj => no hj, fun j k _ hk => no hk⟩, fun j hj => no hj, fun i hi => no hi, fun i _ _ => ⟨rfl, rfl⟩⟩
theorem p2_pure {d n b L : Nat} {xs : Nat → Int32} (hL : L ≤ 2560) (hb : b < n) : wq (ah_val (n + 601024, 7293034) ah_P (d + 230) m_Law_law 0 (ah_in mt_278 [.inr (.inr (some b))]) [] (am_h0 b L xs n)) (rI fun x _ => x = 1) := by
  show wq (ah_val (n + 601024, 7293034) ah_P (d + 230) 278 0 [some (.inr (.inr (some b))), none, none, none, none, none, none, none] [] (am_h0 b L xs n)) (rI fun x _ => x = 1)
  have b0 : (am_h0 b L xs n).1 b = some (104, (List.range L).map fun j => .inl (xs j)) := if_pos rfl
  have A0 : AL 0 (fun _ => true) 0 0 (fun _ => none) (am_h0 b L xs n) (fun _ => none) (am_h0 b L xs n) := AL_0 ⟨fun a kd n t => (by cases t), fun _ _ => rfl, rfl, rfl⟩ (fun a v hv => (by cases hv))
  refine wq_eq q_278_0 (wq_mk ⟨by show n < n + 601024; omega, by show 0 + 8 ≤ 7293034; omega⟩ (wq_at nw_eq (wq_cV (wq_aV (n_Code_init (d := d + 226) (AL_new A0) (a := n) (Nat.le_refl _) (by show n < n + 1; omega) rfl nw_eq ⟨by show n + 1 + 655 ≤ n + 601024; omega, by show 0 + 8 + 47835 ≤ 7293034; omega⟩) (c_Code_init2 (d := d + 226) (x := n) nw_eq rfl (by show n + 656 ≤ n + 601024; omega) (by show 0 + 8 + 47835 ≤ 7293034; omega))) ?_)))
  rintro h3 ⟨hC, hI, hA8, -⟩
  obtain ⟨κ', sg, mk, lk, un, td, rn', rs, nd, vr, ht, rt, ww, C, kn, e1, o1, e2, t2, em, ev, tw, el, q1, q2, tz, en, z1, z2⟩ := hC
  have q1 : h3.2.1 = n + 1 + 655 := q1
  have q2 : h3.2.2.1 = 0 + 8 + 47835 := q2
  have C1 := C.1
  have AI1 : AL 0 (fun _ => true) _ _ (fun _ => none) (am_h0 b L xs n) (ins κ' n (0, 0)) h3 := AL_ins C1 (Nat.le_refl _) (by omega) kn e1 (okC_mono (ins_le kn) (Nat.le_refl _) o1)
  obtain ⟨W, hd, -, hk, -⟩ := AI1
  have b3 : h3.1 b = some (104, (List.range L).map fun j => .inl (xs j)) := (hk b hb rfl).trans b0
  have kb : ins κ' n (0, 0) b = none := by
    have := (C.2.1 b (by show b < n + 1; omega)).trans rfl
    exact ins_ne (by omega) this
  refine wq_mk ⟨by show h3.2.1 < n + 601024; omega, by show h3.2.2.1 + 56 ≤ 7293034; omega⟩ (wq_at nw_eq (wq_cV (c_Ref_init nw_eq rfl (by show h3.2.1 + 40 ≤ n + 601024; omega) (by show h3.2.2.1 + 56 + 905325 ≤ 7293034; omega)) ?_))
  intro h6 hP
  have hP : iP tR 11 fR h3.2.1 (h3.2.1 + 1) (h3.2.2.1 + 56) _ 39 h6 := hP
  obtain ⟨p1, p2, p3, p4, p5⟩ := hP
  rw [rF_eq] at p1
  have p3 : h6.2.2.1 = h3.2.2.1 + 56 + 905325 := p3
  have old : ∀ q, q < h3.2.1 → h6.1 q = h3.1 q := fun q hq => (p5 q (by omega) (by omega)).trans (nw_ne (by omega) rfl)
  refine wq_mka (by decide) (by decide : Int32.toNatClampNeg 1 = 1) (by decide) ⟨by show h6.2.1 < n + 601024; omega, by show h6.2.2.1 + 1 ≤ 7293034; omega⟩ ?_
  have old8 : ∀ q, q < h6.2.1 → (ah_new h6 (101, List.replicate 1 (.inr (.inl 0))) 1).1 q = h6.1 q := fun q hq => nw_ne (by omega) rfl
  have B : LB b n h3.2.1 h6.2.1 L xs 0 (ins κ' n (0, 0)) σz (ah_new h6 (101, List.replicate 1 (.inr (.inl 0))) 1) := by
    refine ⟨(old8 b (by omega)).trans ((old b (by omega)).trans b3), cI_same W (fun q v hv => ?_), fun a v hv => ?_, ins_eq, kb, ?_, fun q h1 h2 => ?_, ⟨(old8 _ (by omega)).trans p1, fun j hj => ?_, fun _ _ => rfl, rfl, rfl⟩, RI_0, ⟨0, nw_eq⟩, by omega, by omega, by show h6.2.1 < h6.2.1 + 1; omega⟩
    · have := hd q v hv
      exact (old8 q (by omega)).trans (old q this)
    · have := hd a v hv
      show a < h6.2.1 + 1
      omega
    · exact dm_none hd (by omega)
    · exact dm_none hd h1
    · obtain ⟨fld, ht⟩ := rl_0 j hj
      rw [rl_z]
      exact (old8 _ (by omega)).trans (p4 j _ hj ht)
  have S : sgR n (sv σz) (ah_new h6 (101, List.replicate 1 (.inr (.inl 0))) 1) := by
    have ks : ins κ' n (0, 0) sg = some (8, 512) := by
      obtain ⟨x1, x2, x3, x4, x5, x6, x7, x8, ex, p1, -⟩ := o0 W ins_eq
      rw [e1] at ex
      cases ex
      exact p1
    have kr : ins κ' n (0, 0) rs = some (117, 512) := by
      obtain ⟨y1, y2, ey, p1, -⟩ := o8 W ks
      rw [e2] at ey
      cases ey
      exact p1
    have ls := hd sg _ ks
    have lr := hd rs _ kr
    obtain ⟨row, er, -⟩ := W.1 rs 117 512 kr
    have e0 : (0 : Int32).toInt = 0 := rfl
    have S0 : sg0 n (sv σz) (ah_new h6 (101, List.replicate 1 (.inr (.inl 0))) 1) := by
      refine ⟨sg, mk, lk, un, 0, 0, td, rn', rs, row, (old8 n (by omega)).trans ((old n (by omega)).trans e1), (old8 sg (by omega)).trans ((old sg ls).trans e2), (old8 rs (by omega)).trans ((old rs lr).trans er), fun i hi => ?_⟩
      have hi : (i : Int) < (0 : Int32).toInt := hi
      omega
    have km : ins κ' n (0, 0) mk = some (4, 0) := by
      obtain ⟨x1, x2, x3, x4, x5, x6, x7, x8, ex, -, p2, -⟩ := o0 W ins_eq
      rw [e1] at ex
      cases ex
      exact p2
    obtain ⟨y1, y2, y3, y4, y5, ey, r1, r2, r3, r4, -⟩ := o4 W km
    rw [em] at ey
    cases ey
    have kA : ∀ j, j < 8 → ins κ' n (0, 0) (tz + j) = some (100, 4000) := by
      obtain ⟨x1, x2, x3, x4, x5, x6, x7, x8, x9, x10, ex, p0, p1, p2, p3, p4, p5, p6, p7, -⟩ := o5 W r1
      rw [en] at ex
      cases ex
      intro j hj
      match j, hj with
      | 0, _ => exact p0
      | 1, _ => exact p1
      | 2, _ => exact p2
      | 3, _ => exact p3
      | 4, _ => exact p4
      | 5, _ => exact p5
      | 6, _ => exact p6
      | 7, _ => exact p7
    obtain ⟨Ls, hLs⟩ := Classical.axiomOfChoice (r := fun (j : Nat) (l : List AV) => j < 8 → h3.1 (tz + j) = some (100, l) ∧ l.length = 4000) (fun j => by
      by_cases hj : j < 8
      · obtain ⟨vs, e, o, -⟩ := W.1 _ _ _ (kA j hj)
        exact ⟨vs, fun _ => ⟨e, o⟩⟩
      · exact ⟨[], fun h => absurd h hj⟩)
    obtain ⟨Lh, lh1, lh2, -⟩ := W.1 _ _ _ r3
    obtain ⟨Lr, lr1, lr2, -⟩ := W.1 _ _ _ r4
    obtain ⟨w1, w2, ew, tw', -⟩ := o8 W r2
    rw [ev] at ew
    cases ew
    obtain ⟨lw, lw1, lw2, lw3, lw4⟩ := W.1 _ _ _ tw'
    have C3 : CR n σz h3 := ⟨sg, mk, lk, un, td, rn', nd, vr, ht, rt, fun i => tz + i, Ls, 0, e1, el, em, ⟨en, fun j hj => hLs j hj, rfl, fun k hk => by
      have hk : (k : Int) < (0 : Int32).toInt := hk
      omega⟩, ⟨ww, lw, 128, ev, lw1, lw2, by omega, by decide, fun i hi => by obtain ⟨r, hr, -⟩ := lw4 i hi; exact ⟨r, hr⟩, fun i hi => by
      have hi : (i : Int) < (0 : Int32).toInt := hi
      omega⟩, ⟨Lh, lh1, lh2, fun k hk => by
      have hk : (k : Int) < (0 : Int32).toInt := hk
      omega⟩, ⟨Lr, lr1, lr2, fun k hk => by
      have hk : (k : Int) < (0 : Int32).toInt := hk
      omega⟩, fun i j _ _ g => by
      have g : tz + i = tz + j := g
      omega, fun i hi => ⟨by show tz + i ≠ ht; omega, by show tz + i ≠ rt; omega⟩, by omega⟩
    have kl : ∀ q v, ins κ' n (0, 0) q = some v → q < n + 656 := fun q v hq => by
      have := hd q v hq
      omega
    obtain ⟨vu, lu1, -⟩ := W.1 _ _ _ (show ins κ' n (0, 0) un = some (120, 64) by
      obtain ⟨x1, x2, x3, x4, x5, x6, x7, x8, ex, -, -, -, p4, -⟩ := o0 W ins_eq
      rw [e1] at ex
      cases ex
      exact p4)
    have hsm : ∀ q v, ins κ' n (0, 0) q = some v → (ah_new h6 (101, List.replicate 1 (.inr (.inl 0))) 1).1 q = h3.1 q := fun q v hq => by
      have := hd q v hq
      exact (old8 q (by omega)).trans (old q this)
    have P3 : PR n σz h3 := ⟨sg, un, vr, rs, ww, ⟨mk, lk, td, rn', 0, 0, nd, ht, rt, 0, 0, 0, e1, em, e2, ev⟩, ⟨kl _ _ ks, kl _ _ r2, kl _ _ kr, kl _ _ tw', by omega⟩, fun v hv => by
      have hv : (v : Int) < (0 : Int32).toInt := hv
      omega, fun p hp => by
      have hp : (p : Int) < (0 : Int32).toInt := hp
      omega, vu, lu1, fun p hp => by
      have hp : (p : Int) < (0 : Int32).toInt := hp
      omega⟩
    have P6 := PR_gen W ins_eq P3 (cI_same W hsm) (fun _ _ e => e) (by show h3.2.1 ≤ h6.2.1 + 1; omega) (fun sg un vr rs rw pa => PA_gen W ins_eq pa (fun q v hq _ => hsm q v hq)) (fun q n hq => hsm q _ hq) (fun q v hq _ _ => hsm q v hq) (fun q i l lo hi ev ac nw ls t e => ⟨nw, ls, ev, ac, (hsm q _ t).trans e⟩)
    refine ⟨S0, ?_, P6⟩
    exact CR_gen W ins_eq C3 (fun q v hq _ => by
      have := hd q v hq
      exact (old8 q (by omega)).trans (old q this)) (fun q i l lo hi ev ac nw ls t e => ⟨nw, ls, ev, ac, by
      have := hd q _ t
      exact ((old8 q (by omega)).trans (old q this)).trans e⟩)
  have X : XR n h3.2.1 h6.2.1 σz (ah_new h6 (101, List.replicate 1 (.inr (.inl 0))) 1) := by
    have fr : ∀ q, q < h3.2.1 → (ah_new h6 (101, List.replicate 1 (.inr (.inl 0))) 1).1 q = h3.1 q := fun q hq => (old8 q (by omega)).trans (old q hq)
    refine ⟨_, td00, 0, fun _ => 0, fun _ => thI 0 0 0, 0, _, 0, fun _ => 0, fun _ => 0, fun _ => 0, fun _ => 0, fun _ => 0, fun _ => 0, fun _ _ => 0, KI_new hI fr (by show h3.2.1 ≤ h6.2.1 + 1; omega), ⟨fun i hi => absurd hi (Nat.not_lt_zero _), fun i hi => absurd hi (Nat.not_lt_zero _), fun i hi => absurd hi (Nat.not_lt_zero _)⟩, RQ_z, fun k h0 h1 => absurd h1 (by show ¬ k < 0; omega), ⟨_, _, (fr _ (by omega)).trans (hA8 2 (by omega)), (fr _ (by omega)).trans (hA8 4 (by omega)), ⟨fun k hk => absurd hk (by show ¬ (k : Int) < 0; omega), fun k hk => absurd hk (by show ¬ (k : Int) < 0; omega), fun _ => rfl⟩, fun k hk => absurd hk (by show ¬ (k : Int) < 0; omega)⟩, by omega, by omega⟩
  exact law_loop hL 514 0 _ σz _ 0 (by omega) (by omega) rfl B S X ⟨by show h6.2.1 + 1 + 20 * (512 - 0) ≤ n + 601024; omega, by show h6.2.2.1 + 1 + 6000 * (512 - 0) ≤ 7293034; omega⟩
