/-! TABLES of the abstract machine, by program (wip/tools/gen2.py) out of the claim's listing and words -/
-- StepCodeLaw.signal(LStepCode;III[J)I
theorem kb_76_0 : ck_es tb_E "StepCodeLaw" "signal" method_3_code [(0, 12, 15, [200]), (0, 12, 19, [201])] false mc_76_0 [[], [], [], [], [], [], [(2, 92), (2, 93), (2, 94)], [], [], [], [], [], [], [], [], [], [], []] = true := by decide +kernel
theorem kf_76 : ck_m ⟨"StepCodeLaw", "signal", "(LStepCode;III[J)I"⟩ 6 (some .int) mt_76 = true := by decide +kernel
theorem kh_76 : ck_hs tb_E tb_exc "StepCodeLaw" [(0, 12, 15, [200]), (0, 12, 19, [201])] [(0, 12, 15, 13), (0, 12, 19, 15)] [(2, 90, 0), (2, 91, 1)] = true := by decide +kernel
theorem km_76 {D : ar_D} {lim : Nat × Nat} {b : Nat} {B : Heap} (hE : ck_env tb_E (tb_G D lim b B) tb_Ts tb_I ah_P) : am_mok (tb_G D lim b B) tb_Ts tb_I ah_P ⟨"StepCodeLaw", "signal", "(LStepCode;III[J)I"⟩ method_3_code 6 (some .int) [(0, 12, 15, 13), (0, 12, 19, 15)] mt_76 :=
  ck_mok (hn := false) hE (fun h => by cases h) kf_76 (ck_hs_ok hE _ _ [(2, 90, 0), (2, 91, 1)] kh_76) (List.forall_mem_cons.mpr ⟨ck_es_ok hE _ _ kb_76_0, fun _ h => absurd h List.not_mem_nil⟩)
-- StepCodeLaw.variable(LStepCode;III[J)I
theorem kb_77_0 : ck_es tb_E "StepCodeLaw" "variable" method_4_code [(0, 12, 15, [200]), (0, 12, 19, [201])] false mc_77_0 [[], [], [], [], [], [], [(3, 9), (3, 10), (3, 11)], [], [], [], [], [], [], [], [], [], [], []] = true := by decide +kernel
theorem kf_77 : ck_m ⟨"StepCodeLaw", "variable", "(LStepCode;III[J)I"⟩ 6 (some .int) mt_77 = true := by decide +kernel
theorem kh_77 : ck_hs tb_E tb_exc "StepCodeLaw" [(0, 12, 15, [200]), (0, 12, 19, [201])] [(0, 12, 15, 13), (0, 12, 19, 15)] [(2, 90, 0), (2, 91, 1)] = true := by decide +kernel
theorem km_77 {D : ar_D} {lim : Nat × Nat} {b : Nat} {B : Heap} (hE : ck_env tb_E (tb_G D lim b B) tb_Ts tb_I ah_P) : am_mok (tb_G D lim b B) tb_Ts tb_I ah_P ⟨"StepCodeLaw", "variable", "(LStepCode;III[J)I"⟩ method_4_code 6 (some .int) [(0, 12, 15, 13), (0, 12, 19, 15)] mt_77 :=
  ck_mok (hn := false) hE (fun h => by cases h) kf_77 (ck_hs_ok hE _ _ [(2, 90, 0), (2, 91, 1)] kh_77) (List.forall_mem_cons.mpr ⟨ck_es_ok hE _ _ kb_77_0, fun _ h => absurd h List.not_mem_nil⟩)
-- StepCodeLaw.add(LStepCode;III[J)I
theorem kb_78_0 : ck_es tb_E "StepCodeLaw" "add" method_5_code [(0, 12, 15, [200]), (0, 12, 19, [201])] false mc_78_0 [[], [], [], [], [], [], [(3, 17), (3, 18), (3, 19)], [], [], [], [], [], [], [], [], [], [], []] = true := by decide +kernel
theorem kf_78 : ck_m ⟨"StepCodeLaw", "add", "(LStepCode;III[J)I"⟩ 6 (some .int) mt_78 = true := by decide +kernel
theorem kh_78 : ck_hs tb_E tb_exc "StepCodeLaw" [(0, 12, 15, [200]), (0, 12, 19, [201])] [(0, 12, 15, 13), (0, 12, 19, 15)] [(2, 90, 0), (2, 91, 1)] = true := by decide +kernel
theorem km_78 {D : ar_D} {lim : Nat × Nat} {b : Nat} {B : Heap} (hE : ck_env tb_E (tb_G D lim b B) tb_Ts tb_I ah_P) : am_mok (tb_G D lim b B) tb_Ts tb_I ah_P ⟨"StepCodeLaw", "add", "(LStepCode;III[J)I"⟩ method_5_code 6 (some .int) [(0, 12, 15, 13), (0, 12, 19, 15)] mt_78 :=
  ck_mok (hn := false) hE (fun h => by cases h) kf_78 (ck_hs_ok hE _ _ [(2, 90, 0), (2, 91, 1)] kh_78) (List.forall_mem_cons.mpr ⟨ck_es_ok hE _ _ kb_78_0, fun _ h => absurd h List.not_mem_nil⟩)
-- StepCodeLaw.process(LStepCode;[J)I
theorem kb_79_0 : ck_es tb_E "StepCodeLaw" "process" method_6_code [(0, 8, 11, [201])] false mc_79_0 [[], [], [], [(3, 49), (3, 50), (3, 51)], [], [], [], [], [], [], [], []] = true := by decide +kernel
theorem kf_79 : ck_m ⟨"StepCodeLaw", "process", "(LStepCode;[J)I"⟩ 3 (some .int) mt_79 = true := by decide +kernel
theorem kh_79 : ck_hs tb_E tb_exc "StepCodeLaw" [(0, 8, 11, [201])] [(0, 8, 11, 15)] [(2, 91, 1)] = true := by decide +kernel
theorem km_79 {D : ar_D} {lim : Nat × Nat} {b : Nat} {B : Heap} (hE : ck_env tb_E (tb_G D lim b B) tb_Ts tb_I ah_P) : am_mok (tb_G D lim b B) tb_Ts tb_I ah_P ⟨"StepCodeLaw", "process", "(LStepCode;[J)I"⟩ method_6_code 3 (some .int) [(0, 8, 11, 15)] mt_79 :=
  ck_mok (hn := false) hE (fun h => by cases h) kf_79 (ck_hs_ok hE _ _ [(2, 91, 1)] kh_79) (List.forall_mem_cons.mpr ⟨ck_es_ok hE _ _ kb_79_0, fun _ h => absurd h List.not_mem_nil⟩)
-- StepCodeLaw.put(LStepCode;IZII)I
theorem kb_80_0 : ck_es tb_E "StepCodeLaw" "put" method_7_code [(0, 9, 12, [202]), (0, 9, 16, [200])] false mc_80_0 [[], [], [], [], [], [(4, 43), (4, 44), (4, 45)], [], [], [], [], [], [], [], [], []] = true := by decide +kernel
theorem kf_80 : ck_m ⟨"StepCodeLaw", "put", "(LStepCode;IZII)I"⟩ 6 (some .int) mt_80 = true := by decide +kernel
theorem kh_80 : ck_hs tb_E tb_exc "StepCodeLaw" [(0, 9, 12, [202]), (0, 9, 16, [200])] [(0, 9, 12, 31), (0, 9, 16, 13)] [(4, 42, 2), (2, 90, 0)] = true := by decide +kernel
theorem km_80 {D : ar_D} {lim : Nat × Nat} {b : Nat} {B : Heap} (hE : ck_env tb_E (tb_G D lim b B) tb_Ts tb_I ah_P) : am_mok (tb_G D lim b B) tb_Ts tb_I ah_P ⟨"StepCodeLaw", "put", "(LStepCode;IZII)I"⟩ method_7_code 6 (some .int) [(0, 9, 12, 31), (0, 9, 16, 13)] mt_80 :=
  ck_mok (hn := false) hE (fun h => by cases h) kf_80 (ck_hs_ok hE _ _ [(4, 42, 2), (2, 90, 0)] kh_80) (List.forall_mem_cons.mpr ⟨ck_es_ok hE _ _ kb_80_0, fun _ h => absurd h List.not_mem_nil⟩)
-- StepCodeLaw.mark(LStepCode;IZZ)I
theorem kb_81_0 : ck_es tb_E "StepCodeLaw" "mark" method_8_code [(0, 7, 10, [202])] false mc_81_0 [[], [], [], [], [(4, 81), (4, 82), (4, 83)], [], [], [], [], [], []] = true := by decide +kernel
theorem kf_81 : ck_m ⟨"StepCodeLaw", "mark", "(LStepCode;IZZ)I"⟩ 5 (some .int) mt_81 = true := by decide +kernel
theorem kh_81 : ck_hs tb_E tb_exc "StepCodeLaw" [(0, 7, 10, [202])] [(0, 7, 10, 31)] [(4, 42, 2)] = true := by decide +kernel
theorem km_81 {D : ar_D} {lim : Nat × Nat} {b : Nat} {B : Heap} (hE : ck_env tb_E (tb_G D lim b B) tb_Ts tb_I ah_P) : am_mok (tb_G D lim b B) tb_Ts tb_I ah_P ⟨"StepCodeLaw", "mark", "(LStepCode;IZZ)I"⟩ method_8_code 5 (some .int) [(0, 7, 10, 31)] mt_81 :=
  ck_mok (hn := false) hE (fun h => by cases h) kf_81 (ck_hs_ok hE _ _ [(4, 42, 2)] kh_81) (List.forall_mem_cons.mpr ⟨ck_es_ok hE _ _ kb_81_0, fun _ h => absurd h List.not_mem_nil⟩)
-- StepCodeLaw.get(LStepCode;II[J)I
theorem kb_82_0 : ck_es tb_E "StepCodeLaw" "get" method_9_code [(0, 10, 13, [202])] false mc_82_0 [[], [], [], [], [], [(4, 89), (4, 90), (4, 91)], [], [], [], [], [], [], [], []] = true := by decide +kernel
theorem kf_82 : ck_m ⟨"StepCodeLaw", "get", "(LStepCode;II[J)I"⟩ 5 (some .int) mt_82 = true := by decide +kernel
theorem kh_82 : ck_hs tb_E tb_exc "StepCodeLaw" [(0, 10, 13, [202])] [(0, 10, 13, 31)] [(4, 42, 2)] = true := by decide +kernel
theorem km_82 {D : ar_D} {lim : Nat × Nat} {b : Nat} {B : Heap} (hE : ck_env tb_E (tb_G D lim b B) tb_Ts tb_I ah_P) : am_mok (tb_G D lim b B) tb_Ts tb_I ah_P ⟨"StepCodeLaw", "get", "(LStepCode;II[J)I"⟩ method_9_code 5 (some .int) [(0, 10, 13, 31)] mt_82 :=
  ck_mok (hn := false) hE (fun h => by cases h) kf_82 (ck_hs_ok hE _ _ [(4, 42, 2)] kh_82) (List.forall_mem_cons.mpr ⟨ck_es_ok hE _ _ kb_82_0, fun _ h => absurd h List.not_mem_nil⟩)
-- StepCodeLaw.set(LStepCode;IIII)I
theorem kb_83_0 : ck_es tb_E "StepCodeLaw" "set" method_10_code [(0, 9, 12, [202]), (0, 9, 16, [200])] false mc_83_0 [[], [], [], [], [], [(4, 100), (4, 101), (4, 102)], [], [], [], [], [], [], [], [], []] = true := by decide +kernel
theorem kf_83 : ck_m ⟨"StepCodeLaw", "set", "(LStepCode;IIII)I"⟩ 6 (some .int) mt_83 = true := by decide +kernel
theorem kh_83 : ck_hs tb_E tb_exc "StepCodeLaw" [(0, 9, 12, [202]), (0, 9, 16, [200])] [(0, 9, 12, 31), (0, 9, 16, 13)] [(4, 42, 2), (2, 90, 0)] = true := by decide +kernel
theorem km_83 {D : ar_D} {lim : Nat × Nat} {b : Nat} {B : Heap} (hE : ck_env tb_E (tb_G D lim b B) tb_Ts tb_I ah_P) : am_mok (tb_G D lim b B) tb_Ts tb_I ah_P ⟨"StepCodeLaw", "set", "(LStepCode;IIII)I"⟩ method_10_code 6 (some .int) [(0, 9, 12, 31), (0, 9, 16, 13)] mt_83 :=
  ck_mok (hn := false) hE (fun h => by cases h) kf_83 (ck_hs_ok hE _ _ [(4, 42, 2), (2, 90, 0)] kh_83) (List.forall_mem_cons.mpr ⟨ck_es_ok hE _ _ kb_83_0, fun _ h => absurd h List.not_mem_nil⟩)
-- StepCodeLaw.variableOf(LStepCode;III[J)I
theorem kb_84_0 : ck_es tb_E "StepCodeLaw" "variableOf" method_11_code [(0, 12, 15, [202])] false mc_84_0 [[], [], [], [], [], [], [(4, 117), (4, 118), (4, 119)], [], [], [], [], [], [], [], []] = true := by decide +kernel
theorem kf_84 : ck_m ⟨"StepCodeLaw", "variableOf", "(LStepCode;III[J)I"⟩ 6 (some .int) mt_84 = true := by decide +kernel
theorem kh_84 : ck_hs tb_E tb_exc "StepCodeLaw" [(0, 12, 15, [202])] [(0, 12, 15, 31)] [(4, 42, 2)] = true := by decide +kernel
theorem km_84 {D : ar_D} {lim : Nat × Nat} {b : Nat} {B : Heap} (hE : ck_env tb_E (tb_G D lim b B) tb_Ts tb_I ah_P) : am_mok (tb_G D lim b B) tb_Ts tb_I ah_P ⟨"StepCodeLaw", "variableOf", "(LStepCode;III[J)I"⟩ method_11_code 6 (some .int) [(0, 12, 15, 31)] mt_84 :=
  ck_mok (hn := false) hE (fun h => by cases h) kf_84 (ck_hs_ok hE _ _ [(4, 42, 2)] kh_84) (List.forall_mem_cons.mpr ⟨ck_es_ok hE _ _ kb_84_0, fun _ h => absurd h List.not_mem_nil⟩)
-- StepCodeLaw.resume(LStepCode;II[J)I
theorem kb_85_0 : ck_es tb_E "StepCodeLaw" "resume" method_12_code [(0, 10, 13, [202]), (0, 10, 17, [200]), (0, 10, 21, [201])] false mc_85_0 [[], [], [], [], [], [(4, 124), (4, 125), (4, 126)], [], [], [], [], [], [], [], [], [], [], [], [], [], []] = true := by decide +kernel
theorem kf_85 : ck_m ⟨"StepCodeLaw", "resume", "(LStepCode;II[J)I"⟩ 5 (some .int) mt_85 = true := by decide +kernel
theorem kh_85 : ck_hs tb_E tb_exc "StepCodeLaw" [(0, 10, 13, [202]), (0, 10, 17, [200]), (0, 10, 21, [201])] [(0, 10, 13, 31), (0, 10, 17, 13), (0, 10, 21, 15)] [(4, 42, 2), (2, 90, 0), (2, 91, 1)] = true := by decide +kernel
theorem km_85 {D : ar_D} {lim : Nat × Nat} {b : Nat} {B : Heap} (hE : ck_env tb_E (tb_G D lim b B) tb_Ts tb_I ah_P) : am_mok (tb_G D lim b B) tb_Ts tb_I ah_P ⟨"StepCodeLaw", "resume", "(LStepCode;II[J)I"⟩ method_12_code 5 (some .int) [(0, 10, 13, 31), (0, 10, 17, 13), (0, 10, 21, 15)] mt_85 :=
  ck_mok (hn := false) hE (fun h => by cases h) kf_85 (ck_hs_ok hE _ _ [(4, 42, 2), (2, 90, 0), (2, 91, 1)] kh_85) (List.forall_mem_cons.mpr ⟨ck_es_ok hE _ _ kb_85_0, fun _ h => absurd h List.not_mem_nil⟩)
-- StepCodeLaw.holds(LStepCode;I[J)I
theorem kb_86_0 : ck_es tb_E "StepCodeLaw" "holds" method_13_code [(0, 9, 12, [202]), (0, 9, 15, [201])] false mc_86_0 [[], [], [], [], [(5, 212), (5, 213), (5, 214)], [], [], [], [], [], [], [], [], [], [], []] = true := by decide +kernel
theorem kf_86 : ck_m ⟨"StepCodeLaw", "holds", "(LStepCode;I[J)I"⟩ 4 (some .int) mt_86 = true := by decide +kernel
theorem kh_86 : ck_hs tb_E tb_exc "StepCodeLaw" [(0, 9, 12, [202]), (0, 9, 15, [201])] [(0, 9, 12, 31), (0, 9, 15, 15)] [(4, 42, 2), (2, 91, 1)] = true := by decide +kernel
theorem km_86 {D : ar_D} {lim : Nat × Nat} {b : Nat} {B : Heap} (hE : ck_env tb_E (tb_G D lim b B) tb_Ts tb_I ah_P) : am_mok (tb_G D lim b B) tb_Ts tb_I ah_P ⟨"StepCodeLaw", "holds", "(LStepCode;I[J)I"⟩ method_13_code 4 (some .int) [(0, 9, 12, 31), (0, 9, 15, 15)] mt_86 :=
  ck_mok (hn := false) hE (fun h => by cases h) kf_86 (ck_hs_ok hE _ _ [(4, 42, 2), (2, 91, 1)] kh_86) (List.forall_mem_cons.mpr ⟨ck_es_ok hE _ _ kb_86_0, fun _ h => absurd h List.not_mem_nil⟩)
-- StepCodeLaw.about(LStepCode;II[J)I
theorem kb_87_0 : ck_es tb_E "StepCodeLaw" "about" method_14_code [(0, 10, 13, [202]), (0, 10, 17, [200])] false mc_87_0 [[], [], [], [], [], [(5, 228), (5, 229), (5, 230)], [], [], [], [], [], [], [], [], [], [], []] = true := by decide +kernel
theorem kf_87 : ck_m ⟨"StepCodeLaw", "about", "(LStepCode;II[J)I"⟩ 5 (some .int) mt_87 = true := by decide +kernel
theorem kh_87 : ck_hs tb_E tb_exc "StepCodeLaw" [(0, 10, 13, [202]), (0, 10, 17, [200])] [(0, 10, 13, 31), (0, 10, 17, 13)] [(4, 42, 2), (2, 90, 0)] = true := by decide +kernel
theorem km_87 {D : ar_D} {lim : Nat × Nat} {b : Nat} {B : Heap} (hE : ck_env tb_E (tb_G D lim b B) tb_Ts tb_I ah_P) : am_mok (tb_G D lim b B) tb_Ts tb_I ah_P ⟨"StepCodeLaw", "about", "(LStepCode;II[J)I"⟩ method_14_code 5 (some .int) [(0, 10, 13, 31), (0, 10, 17, 13)] mt_87 :=
  ck_mok (hn := false) hE (fun h => by cases h) kf_87 (ck_hs_ok hE _ _ [(4, 42, 2), (2, 90, 0)] kh_87) (List.forall_mem_cons.mpr ⟨ck_es_ok hE _ _ kb_87_0, fun _ h => absurd h List.not_mem_nil⟩)
-- StepCodeLaw.waits(LStepCode;II[J)I
theorem kb_88_0 : ck_es tb_E "StepCodeLaw" "waits" method_15_code [(0, 10, 13, [202])] false mc_88_0 [[], [], [], [], [], [(6, 2), (6, 3), (6, 4)], [], [], [], [], [], [], [], []] = true := by decide +kernel
theorem kf_88 : ck_m ⟨"StepCodeLaw", "waits", "(LStepCode;II[J)I"⟩ 5 (some .int) mt_88 = true := by decide +kernel
theorem kh_88 : ck_hs tb_E tb_exc "StepCodeLaw" [(0, 10, 13, [202])] [(0, 10, 13, 31)] [(4, 42, 2)] = true := by decide +kernel
theorem km_88 {D : ar_D} {lim : Nat × Nat} {b : Nat} {B : Heap} (hE : ck_env tb_E (tb_G D lim b B) tb_Ts tb_I ah_P) : am_mok (tb_G D lim b B) tb_Ts tb_I ah_P ⟨"StepCodeLaw", "waits", "(LStepCode;II[J)I"⟩ method_15_code 5 (some .int) [(0, 10, 13, 31)] mt_88 :=
  ck_mok (hn := false) hE (fun h => by cases h) kf_88 (ck_hs_ok hE _ _ [(4, 42, 2)] kh_88) (List.forall_mem_cons.mpr ⟨ck_es_ok hE _ _ kb_88_0, fun _ h => absurd h List.not_mem_nil⟩)
-- StepCodeLaw.until(LStepCode;I[J)I
theorem kb_89_0 : ck_es tb_E "StepCodeLaw" "until" method_16_code [(0, 8, 11, [202])] false mc_89_0 [[], [], [], [], [(6, 15), (6, 16), (6, 17)], [], [], [], [], [], [], []] = true := by decide +kernel
theorem kf_89 : ck_m ⟨"StepCodeLaw", "until", "(LStepCode;I[J)I"⟩ 4 (some .int) mt_89 = true := by decide +kernel
theorem kh_89 : ck_hs tb_E tb_exc "StepCodeLaw" [(0, 8, 11, [202])] [(0, 8, 11, 31)] [(4, 42, 2)] = true := by decide +kernel
theorem km_89 {D : ar_D} {lim : Nat × Nat} {b : Nat} {B : Heap} (hE : ck_env tb_E (tb_G D lim b B) tb_Ts tb_I ah_P) : am_mok (tb_G D lim b B) tb_Ts tb_I ah_P ⟨"StepCodeLaw", "until", "(LStepCode;I[J)I"⟩ method_16_code 4 (some .int) [(0, 8, 11, 31)] mt_89 :=
  ck_mok (hn := false) hE (fun h => by cases h) kf_89 (ck_hs_ok hE _ _ [(4, 42, 2)] kh_89) (List.forall_mem_cons.mpr ⟨ck_es_ok hE _ _ kb_89_0, fun _ h => absurd h List.not_mem_nil⟩)
-- StepCodeLaw.act(LStepCode;II[J)I
theorem kb_90_0 : ck_es tb_E "StepCodeLaw" "act" method_17_code [(0, 10, 13, [202]), (0, 10, 17, [200])] false mc_90_0 [[], [], [], [], [], [(6, 22), (6, 23), (6, 24)], [], [], [], [], [], [], [], [], [], [], []] = true := by decide +kernel
theorem kf_90 : ck_m ⟨"StepCodeLaw", "act", "(LStepCode;II[J)I"⟩ 5 (some .int) mt_90 = true := by decide +kernel
theorem kh_90 : ck_hs tb_E tb_exc "StepCodeLaw" [(0, 10, 13, [202]), (0, 10, 17, [200])] [(0, 10, 13, 31), (0, 10, 17, 13)] [(4, 42, 2), (2, 90, 0)] = true := by decide +kernel
theorem km_90 {D : ar_D} {lim : Nat × Nat} {b : Nat} {B : Heap} (hE : ck_env tb_E (tb_G D lim b B) tb_Ts tb_I ah_P) : am_mok (tb_G D lim b B) tb_Ts tb_I ah_P ⟨"StepCodeLaw", "act", "(LStepCode;II[J)I"⟩ method_17_code 5 (some .int) [(0, 10, 13, 31), (0, 10, 17, 13)] mt_90 :=
  ck_mok (hn := false) hE (fun h => by cases h) kf_90 (ck_hs_ok hE _ _ [(4, 42, 2), (2, 90, 0)] kh_90) (List.forall_mem_cons.mpr ⟨ck_es_ok hE _ _ kb_90_0, fun _ h => absurd h List.not_mem_nil⟩)
-- StepCodeLaw.value(LStepCode;III[J)I
theorem kb_91_0 : ck_es tb_E "StepCodeLaw" "value" method_18_code [(0, 12, 15, [202])] false mc_91_0 [[], [], [], [], [], [], [(6, 31), (6, 32), (6, 33)], [], [], [], [], [], [], [], []] = true := by decide +kernel
theorem kf_91 : ck_m ⟨"StepCodeLaw", "value", "(LStepCode;III[J)I"⟩ 6 (some .int) mt_91 = true := by decide +kernel
theorem kh_91 : ck_hs tb_E tb_exc "StepCodeLaw" [(0, 12, 15, [202])] [(0, 12, 15, 31)] [(4, 42, 2)] = true := by decide +kernel
theorem km_91 {D : ar_D} {lim : Nat × Nat} {b : Nat} {B : Heap} (hE : ck_env tb_E (tb_G D lim b B) tb_Ts tb_I ah_P) : am_mok (tb_G D lim b B) tb_Ts tb_I ah_P ⟨"StepCodeLaw", "value", "(LStepCode;III[J)I"⟩ method_18_code 6 (some .int) [(0, 12, 15, 31)] mt_91 :=
  ck_mok (hn := false) hE (fun h => by cases h) kf_91 (ck_hs_ok hE _ _ [(4, 42, 2)] kh_91) (List.forall_mem_cons.mpr ⟨ck_es_ok hE _ _ kb_91_0, fun _ h => absurd h List.not_mem_nil⟩)
-- StepCodeLaw.delay(LStepCode;II[J)I
theorem kb_92_0 : ck_es tb_E "StepCodeLaw" "delay" method_19_code [(0, 9, 12, [202])] false mc_92_0 [[], [], [], [], [], [(6, 47), (6, 48), (6, 49)], [], [], [], [], [], [], []] = true := by decide +kernel
theorem kf_92 : ck_m ⟨"StepCodeLaw", "delay", "(LStepCode;II[J)I"⟩ 5 (some .int) mt_92 = true := by decide +kernel
theorem kh_92 : ck_hs tb_E tb_exc "StepCodeLaw" [(0, 9, 12, [202])] [(0, 9, 12, 31)] [(4, 42, 2)] = true := by decide +kernel
theorem km_92 {D : ar_D} {lim : Nat × Nat} {b : Nat} {B : Heap} (hE : ck_env tb_E (tb_G D lim b B) tb_Ts tb_I ah_P) : am_mok (tb_G D lim b B) tb_Ts tb_I ah_P ⟨"StepCodeLaw", "delay", "(LStepCode;II[J)I"⟩ method_19_code 5 (some .int) [(0, 9, 12, 31)] mt_92 :=
  ck_mok (hn := false) hE (fun h => by cases h) kf_92 (ck_hs_ok hE _ _ [(4, 42, 2)] kh_92) (List.forall_mem_cons.mpr ⟨ck_es_ok hE _ _ kb_92_0, fun _ h => absurd h List.not_mem_nil⟩)
-- StepCodeLaw.law([I)Z
theorem kb_93_0 : ck_es tb_E "StepCodeLaw" "law" code [] true mc_93_0 [[(1, 22), (1, 23), (1, 1)], [], [(1, 24), (1, 25)], [], [(6, 57), (6, 58), (1, 11)], [], [(6, 59), (6, 60)], [], [], [(1, 187)], [], [], [], [], [], [], [], [], [], [], [], [], [], []] = true := by decide +kernel
theorem kb_93_1 : ck_es tb_E "StepCodeLaw" "law" code [] true mc_93_1 [[], [], [], [], [], [], [], [], [], [], [], [], [], [], [], [], [], [], [(2, 87), (2, 88)], [], [], [], [], []] = true := by decide +kernel
theorem kb_93_2 : ck_es tb_E "StepCodeLaw" "law" code [] true mc_93_2 [[], [], [], [], [], [], [], [], [], [], [], [], [(6, 238), (6, 239), (7, 0)], [], [], [(6, 234), (6, 235), (6, 236)], [], [], [], [], [], [], [], []] = true := by decide +kernel
theorem kb_93_3 : ck_es tb_E "StepCodeLaw" "law" code [] true mc_93_3 [[], [], [], [], [], [], [], [], [], [], [], [], [], [], [], [], [], [], [], [], [], [], [], []] = true := by decide +kernel
theorem kb_93_4 : ck_es tb_E "StepCodeLaw" "law" code [] true mc_93_4 [[], [(3, 6), (3, 7)], [], [], [], [], [], [], [], [], [], [], [], [], [], [], [], [], [], [(7, 14), (7, 15), (7, 16)], [], [], [(6, 234), (6, 235), (6, 236)], []] = true := by decide +kernel
theorem kb_93_5 : ck_es tb_E "StepCodeLaw" "law" code [] true mc_93_5 [[], [], [], [], [], [], [], [], [], [], [], [], [], [], [], [], [], [], [], [], [], [], [], []] = true := by decide +kernel
theorem kb_93_6 : ck_es tb_E "StepCodeLaw" "law" code [] true mc_93_6 [[], [], [], [], [], [], [], [], [(3, 14), (3, 15)], [], [], [], [], [], [], [], [], [], [], [], [], [], [], []] = true := by decide +kernel
theorem kb_93_7 : ck_es tb_E "StepCodeLaw" "law" code [] true mc_93_7 [[], [], [(7, 66), (7, 67), (7, 68)], [], [], [(6, 234), (6, 235), (6, 236)], [], [], [], [], [], [], [], [], [], [], [], [], [], [], [], [], [], []] = true := by decide +kernel
theorem kb_93_8 : ck_es tb_E "StepCodeLaw" "law" code [] true mc_93_8 [[(3, 46), (3, 47)], [], [], [(7, 70), (7, 71), (7, 72)], [], [], [(6, 234), (6, 235), (6, 236)], [], [], [], [], [], [], [], [], [], [], [], [], [], [], [], [], []] = true := by decide +kernel
theorem kb_93_9 : ck_es tb_E "StepCodeLaw" "law" code [] true mc_93_9 [[(2, 79), (2, 80), (2, 81)], [], [(7, 145), (7, 146), (7, 147)], [], [], [], [], [], [], [], [], [], [], [], [], [], [], [], [], [], [], [], [], []] = true := by decide +kernel
theorem kb_93_10 : ck_es tb_E "StepCodeLaw" "law" code [] true mc_93_10 [[], [], [], [], [], [], [], [(4, 39), (4, 40)], [], [], [], [], [], [], [], [], [], [], [], [], [], [], [], []] = true := by decide +kernel
theorem kb_93_11 : ck_es tb_E "StepCodeLaw" "law" code [] true mc_93_11 [[], [], [], [], [], [], [], [], [], [], [(7, 18), (7, 19), (7, 20)], [], [(6, 234), (6, 235), (6, 236)], [], [], [], [], [], [], [], [], [], [], []] = true := by decide +kernel
theorem kb_93_12 : ck_es tb_E "StepCodeLaw" "law" code [] true mc_93_12 [[], [], [], [], [], [], [], [], [], [], [], [], [], [], [], [], [], [], [(4, 78), (4, 79)], [], [], [], [], []] = true := by decide +kernel
theorem kb_93_13 : ck_es tb_E "StepCodeLaw" "law" code [] true mc_93_13 [[], [], [], [], [], [], [], [], [], [], [], [], [], [], [], [], [], [], [], [], [(7, 34), (7, 35), (7, 36)], [], [(6, 234), (6, 235), (6, 236)], []] = true := by decide +kernel
theorem kb_93_14 : ck_es tb_E "StepCodeLaw" "law" code [] true mc_93_14 [[], [], [], [], [], [], [], [], [], [], [], [], [], [], [], [], [(4, 86), (4, 87)], [], [], [], [], [], [], []] = true := by decide +kernel
theorem kb_93_15 : ck_es tb_E "StepCodeLaw" "law" code [] true mc_93_15 [[], [], [], [], [], [(7, 38), (7, 39), (7, 40)], [], [], [(6, 234), (6, 235), (6, 236)], [], [], [], [], [], [], [], [], [], [], [], [], [], [], []] = true := by decide +kernel
theorem kb_93_16 : ck_es tb_E "StepCodeLaw" "law" code [] true mc_93_16 [[], [], [], [], [], [], [], [], [], [], [], [], [], [], [], [], [], [], [], [], [], [], [(4, 97), (4, 98)], []] = true := by decide +kernel
theorem kb_93_17 : ck_es tb_E "StepCodeLaw" "law" code [] true mc_93_17 [[], [], [], [], [], [], [], [], [], [], [], [], [], [], [], [], [], [], [], [], [], [(7, 50), (7, 51), (7, 52)], [], [(6, 234), (6, 235), (6, 236)]] = true := by decide +kernel
theorem kb_93_18 : ck_es tb_E "StepCodeLaw" "law" code [] true mc_93_18 [[], [], [], [], [], [], [], [], [], [], [], [], [], [], [], [], [], [], [], [], [], [], [(4, 114), (4, 115)], []] = true := by decide +kernel
theorem kb_93_19 : ck_es tb_E "StepCodeLaw" "law" code [] true mc_93_19 [[], [], [], [], [], [], [], [], [], [], [], [], [], [], [], [], [(7, 62), (7, 63), (7, 64)], [], [], [(6, 234), (6, 235), (6, 236)], [], [], [], []] = true := by decide +kernel
theorem kb_93_20 : ck_es tb_E "StepCodeLaw" "law" code [] true mc_93_20 [[], [], [], [], [], [], [], [], [], [], [], [], [], [], [], [], [], [], [], [], [], [], [], []] = true := by decide +kernel
theorem kb_93_21 : ck_es tb_E "StepCodeLaw" "law" code [] true mc_93_21 [[(4, 121), (4, 122)], [], [], [], [], [], [], [], [], [], [], [], [], [(7, 149), (7, 150), (7, 151)], [], [], [(6, 234), (6, 235), (6, 236)], [], [], [], [], [], [], []] = true := by decide +kernel
theorem kb_93_22 : ck_es tb_E "StepCodeLaw" "law" code [] true mc_93_22 [[], [], [], [], [], [], [], [], [], [], [], [], [], [], [], [], [(5, 209), (5, 210)], [], [], [], [], [], [], []] = true := by decide +kernel
theorem kb_93_23 : ck_es tb_E "StepCodeLaw" "law" code [] true mc_93_23 [[(8, 98), (8, 99), (8, 100)], [], [], [(6, 234), (6, 235), (6, 236)], [], [], [], [], [], [], [], [], [], [], [], [], [], [], [], [], [], [], [], []] = true := by decide +kernel
theorem kb_93_24 : ck_es tb_E "StepCodeLaw" "law" code [] true mc_93_24 [[], [], [], [], [], [], [], [], [(5, 225), (5, 226)], [], [], [], [], [], [], [], [], [], [], [], [], [(8, 106), (8, 107), (8, 108)], [], []] = true := by decide +kernel
theorem kb_93_25 : ck_es tb_E "StepCodeLaw" "law" code [] true mc_93_25 [[(6, 234), (6, 235), (6, 236)], [], [], [], [], [], [], [], [], [], [], [], [], [], [], [], [], [], [], [], [], [], [], []] = true := by decide +kernel
theorem kb_93_26 : ck_es tb_E "StepCodeLaw" "law" code [] true mc_93_26 [[], [], [], [], [], [(5, 239), (6, 0)], [], [], [], [], [], [], [], [], [], [], [], [], [(8, 110), (8, 111), (8, 112)], [], [], [(6, 234), (6, 235), (6, 236)], [], []] = true := by decide +kernel
theorem kb_93_27 : ck_es tb_E "StepCodeLaw" "law" code [] true mc_93_27 [[], [], [], [], [], [], [], [], [], [], [], [], [], [], [], [], [], [], [], [], [], [(6, 12), (6, 13)], [], []] = true := by decide +kernel
theorem kb_93_28 : ck_es tb_E "StepCodeLaw" "law" code [] true mc_93_28 [[], [], [], [], [], [(8, 114), (8, 115), (8, 116)], [], [], [(6, 234), (6, 235), (6, 236)], [], [], [], [], [], [], [], [], [], [], [], [], [], [], []] = true := by decide +kernel
theorem kb_93_29 : ck_es tb_E "StepCodeLaw" "law" code [] true mc_93_29 [[], [(2, 83), (2, 84), (2, 85)], [], [(8, 118), (8, 119), (8, 120)], [], [], [], [], [], [], [], [], [], [], [], [], [], [], [], [(6, 19), (6, 20)], [], [], [], []] = true := by decide +kernel
theorem kb_93_30 : ck_es tb_E "StepCodeLaw" "law" code [] true mc_93_30 [[], [], [], [], [], [], [], [], [(8, 122), (8, 123), (8, 124)], [], [], [(6, 234), (6, 235), (6, 236)], [], [], [], [], [], [], [], [], [], [], [], []] = true := by decide +kernel
theorem kb_93_31 : ck_es tb_E "StepCodeLaw" "law" code [] true mc_93_31 [[], [], [], [], [], [], [], [], [], [], [], [], [], [], [], [], [], [], [], [], [], [(6, 28), (6, 29)], [], []] = true := by decide +kernel
theorem kb_93_32 : ck_es tb_E "StepCodeLaw" "law" code [] true mc_93_32 [[], [], [], [], [], [], [], [], [], [], [], [], [], [], [], [(8, 126), (8, 127), (8, 128)], [], [], [(6, 234), (6, 235), (6, 236)], [], [], [], [], []] = true := by decide +kernel
theorem kb_93_33 : ck_es tb_E "StepCodeLaw" "law" code [] true mc_93_33 [[], [], [], [], [], [], [], [], [], [], [], [], [], [], [], [], [], [], [], [], [], [], [], [(6, 44), (6, 45)]] = true := by decide +kernel
theorem kb_93_34 : ck_es tb_E "StepCodeLaw" "law" code [] true mc_93_34 [[], [], [], [], [], [], [], [], [], [], [], [], [(8, 134), (8, 135), (8, 136)], [], [], [(6, 234), (6, 235), (6, 236)], [], [], [], [], [], [], [], []] = true := by decide +kernel
theorem kb_93_35 : ck_es tb_E "StepCodeLaw" "law" code [] true mc_93_35 [[], [], [], [], [], [], [], [], [], [], []] = true := by decide +kernel
theorem kf_93 : ck_m ⟨"StepCodeLaw", "law", "([I)Z"⟩ 8 (some .boolean) mt_93 = true := by decide +kernel
theorem km_93 {D : ar_D} {lim : Nat × Nat} {b : Nat} {B : Heap} (hE : ck_env tb_E (tb_G D lim b B) tb_Ts tb_I ah_P) : am_mok (tb_G D lim b B) tb_Ts tb_I ah_P ⟨"StepCodeLaw", "law", "([I)Z"⟩ code 8 (some .boolean) [] mt_93 :=
  ck_mok (hn := true) hE (fun _ => rfl) kf_93 (trivial) (List.forall_mem_cons.mpr ⟨ck_es_ok hE _ _ kb_93_0, List.forall_mem_cons.mpr ⟨ck_es_ok hE _ _ kb_93_1, List.forall_mem_cons.mpr ⟨ck_es_ok hE _ _ kb_93_2, List.forall_mem_cons.mpr ⟨ck_es_ok hE _ _ kb_93_3, List.forall_mem_cons.mpr ⟨ck_es_ok hE _ _ kb_93_4, List.forall_mem_cons.mpr ⟨ck_es_ok hE _ _ kb_93_5, List.forall_mem_cons.mpr ⟨ck_es_ok hE _ _ kb_93_6, List.forall_mem_cons.mpr ⟨ck_es_ok hE _ _ kb_93_7, List.forall_mem_cons.mpr ⟨ck_es_ok hE _ _ kb_93_8, List.forall_mem_cons.mpr ⟨ck_es_ok hE _ _ kb_93_9, List.forall_mem_cons.mpr ⟨ck_es_ok hE _ _ kb_93_10, List.forall_mem_cons.mpr ⟨ck_es_ok hE _ _ kb_93_11, List.forall_mem_cons.mpr ⟨ck_es_ok hE _ _ kb_93_12, List.forall_mem_cons.mpr ⟨ck_es_ok hE _ _ kb_93_13, List.forall_mem_cons.mpr ⟨ck_es_ok hE _ _ kb_93_14, List.forall_mem_cons.mpr ⟨ck_es_ok hE _ _ kb_93_15, List.forall_mem_cons.mpr ⟨ck_es_ok hE _ _ kb_93_16, List.forall_mem_cons.mpr ⟨ck_es_ok hE _ _ kb_93_17, List.forall_mem_cons.mpr ⟨ck_es_ok hE _ _ kb_93_18, List.forall_mem_cons.mpr ⟨ck_es_ok hE _ _ kb_93_19, List.forall_mem_cons.mpr ⟨ck_es_ok hE _ _ kb_93_20, List.forall_mem_cons.mpr ⟨ck_es_ok hE _ _ kb_93_21, List.forall_mem_cons.mpr ⟨ck_es_ok hE _ _ kb_93_22, List.forall_mem_cons.mpr ⟨ck_es_ok hE _ _ kb_93_23, List.forall_mem_cons.mpr ⟨ck_es_ok hE _ _ kb_93_24, List.forall_mem_cons.mpr ⟨ck_es_ok hE _ _ kb_93_25, List.forall_mem_cons.mpr ⟨ck_es_ok hE _ _ kb_93_26, List.forall_mem_cons.mpr ⟨ck_es_ok hE _ _ kb_93_27, List.forall_mem_cons.mpr ⟨ck_es_ok hE _ _ kb_93_28, List.forall_mem_cons.mpr ⟨ck_es_ok hE _ _ kb_93_29, List.forall_mem_cons.mpr ⟨ck_es_ok hE _ _ kb_93_30, List.forall_mem_cons.mpr ⟨ck_es_ok hE _ _ kb_93_31, List.forall_mem_cons.mpr ⟨ck_es_ok hE _ _ kb_93_32, List.forall_mem_cons.mpr ⟨ck_es_ok hE _ _ kb_93_33, List.forall_mem_cons.mpr ⟨ck_es_ok hE _ _ kb_93_34, List.forall_mem_cons.mpr ⟨ck_es_ok hE _ _ kb_93_35, fun _ h => absurd h List.not_mem_nil⟩⟩⟩⟩⟩⟩⟩⟩⟩⟩⟩⟩⟩⟩⟩⟩⟩⟩⟩⟩⟩⟩⟩⟩⟩⟩⟩⟩⟩⟩⟩⟩⟩⟩⟩⟩)
