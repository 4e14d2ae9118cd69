/-! TABLES of the abstract machine, by program (wip/tools/gen2.py) out of the claim's listing and words -/
-- StepCodeLaw.signal(LStepCode;III[J)I
theorem kb_261_0 : ck_es tb_E "StepCodeLaw" "signal" method_3_code [(0, 12, 15, [200]), (0, 12, 19, [201])] false mc_261_0 [[], [], [], [], [], [], [(2, 92), (2, 93), (2, 94)], [], [], [], [], [], [], [], [], [], [], []] = true := by decide +kernel
theorem kf_261 : ck_m ⟨"StepCodeLaw", "signal", "(LStepCode;III[J)I"⟩ 6 (some .int) mt_261 = true := by decide +kernel
theorem kh_261 : ck_hs tb_E tb_exc "StepCodeLaw" [(0, 12, 15, [200]), (0, 12, 19, [201])] [(0, 12, 15, 13), (0, 12, 19, 15)] [(2, 90, 0), (2, 91, 1)] = true := by decide +kernel
theorem km_261 {D : ar_D} {lim : Nat × Nat} {b : Nat} {B : Heap} (hE : ck_env tb_E (tb_G D lim b B) tb_Ts tb_I ah_P) : am_mok (tb_G D lim b B) tb_Ts tb_I ah_P ⟨"StepCodeLaw", "signal", "(LStepCode;III[J)I"⟩ method_3_code 6 (some .int) [(0, 12, 15, 13), (0, 12, 19, 15)] mt_261 :=
  ck_mok (hn := false) hE (fun h => by cases h) kf_261 (ck_hs_ok hE _ _ [(2, 90, 0), (2, 91, 1)] kh_261) (List.forall_mem_cons.mpr ⟨ck_es_ok hE _ _ kb_261_0, fun _ h => absurd h List.not_mem_nil⟩)
-- StepCodeLaw.variable(LStepCode;III[J)I
theorem kb_262_0 : ck_es tb_E "StepCodeLaw" "variable" method_4_code [(0, 12, 15, [200]), (0, 12, 19, [201])] false mc_262_0 [[], [], [], [], [], [], [(3, 9), (3, 10), (3, 11)], [], [], [], [], [], [], [], [], [], [], []] = true := by decide +kernel
theorem kf_262 : ck_m ⟨"StepCodeLaw", "variable", "(LStepCode;III[J)I"⟩ 6 (some .int) mt_262 = true := by decide +kernel
theorem kh_262 : ck_hs tb_E tb_exc "StepCodeLaw" [(0, 12, 15, [200]), (0, 12, 19, [201])] [(0, 12, 15, 13), (0, 12, 19, 15)] [(2, 90, 0), (2, 91, 1)] = true := by decide +kernel
theorem km_262 {D : ar_D} {lim : Nat × Nat} {b : Nat} {B : Heap} (hE : ck_env tb_E (tb_G D lim b B) tb_Ts tb_I ah_P) : am_mok (tb_G D lim b B) tb_Ts tb_I ah_P ⟨"StepCodeLaw", "variable", "(LStepCode;III[J)I"⟩ method_4_code 6 (some .int) [(0, 12, 15, 13), (0, 12, 19, 15)] mt_262 :=
  ck_mok (hn := false) hE (fun h => by cases h) kf_262 (ck_hs_ok hE _ _ [(2, 90, 0), (2, 91, 1)] kh_262) (List.forall_mem_cons.mpr ⟨ck_es_ok hE _ _ kb_262_0, fun _ h => absurd h List.not_mem_nil⟩)
-- StepCodeLaw.add(LStepCode;III[J)I
theorem kb_263_0 : ck_es tb_E "StepCodeLaw" "add" method_5_code [(0, 12, 15, [200]), (0, 12, 19, [201])] false mc_263_0 [[], [], [], [], [], [], [(3, 17), (3, 18), (3, 19)], [], [], [], [], [], [], [], [], [], [], []] = true := by decide +kernel
theorem kf_263 : ck_m ⟨"StepCodeLaw", "add", "(LStepCode;III[J)I"⟩ 6 (some .int) mt_263 = true := by decide +kernel
theorem kh_263 : ck_hs tb_E tb_exc "StepCodeLaw" [(0, 12, 15, [200]), (0, 12, 19, [201])] [(0, 12, 15, 13), (0, 12, 19, 15)] [(2, 90, 0), (2, 91, 1)] = true := by decide +kernel
theorem km_263 {D : ar_D} {lim : Nat × Nat} {b : Nat} {B : Heap} (hE : ck_env tb_E (tb_G D lim b B) tb_Ts tb_I ah_P) : am_mok (tb_G D lim b B) tb_Ts tb_I ah_P ⟨"StepCodeLaw", "add", "(LStepCode;III[J)I"⟩ method_5_code 6 (some .int) [(0, 12, 15, 13), (0, 12, 19, 15)] mt_263 :=
  ck_mok (hn := false) hE (fun h => by cases h) kf_263 (ck_hs_ok hE _ _ [(2, 90, 0), (2, 91, 1)] kh_263) (List.forall_mem_cons.mpr ⟨ck_es_ok hE _ _ kb_263_0, fun _ h => absurd h List.not_mem_nil⟩)
-- StepCodeLaw.process(LStepCode;[J)I
theorem kb_264_0 : ck_es tb_E "StepCodeLaw" "process" method_6_code [(0, 8, 11, [201])] false mc_264_0 [[], [], [], [(3, 49), (3, 50), (3, 51)], [], [], [], [], [], [], [], []] = true := by decide +kernel
theorem kf_264 : ck_m ⟨"StepCodeLaw", "process", "(LStepCode;[J)I"⟩ 3 (some .int) mt_264 = true := by decide +kernel
theorem kh_264 : ck_hs tb_E tb_exc "StepCodeLaw" [(0, 8, 11, [201])] [(0, 8, 11, 15)] [(2, 91, 1)] = true := by decide +kernel
theorem km_264 {D : ar_D} {lim : Nat × Nat} {b : Nat} {B : Heap} (hE : ck_env tb_E (tb_G D lim b B) tb_Ts tb_I ah_P) : am_mok (tb_G D lim b B) tb_Ts tb_I ah_P ⟨"StepCodeLaw", "process", "(LStepCode;[J)I"⟩ method_6_code 3 (some .int) [(0, 8, 11, 15)] mt_264 :=
  ck_mok (hn := false) hE (fun h => by cases h) kf_264 (ck_hs_ok hE _ _ [(2, 91, 1)] kh_264) (List.forall_mem_cons.mpr ⟨ck_es_ok hE _ _ kb_264_0, fun _ h => absurd h List.not_mem_nil⟩)
-- StepCodeLaw.put(LStepCode;IZII)I
theorem kb_265_0 : ck_es tb_E "StepCodeLaw" "put" method_7_code [(0, 9, 12, [202]), (0, 9, 16, [200])] false mc_265_0 [[], [], [], [], [], [(4, 43), (4, 44), (4, 45)], [], [], [], [], [], [], [], [], []] = true := by decide +kernel
theorem kf_265 : ck_m ⟨"StepCodeLaw", "put", "(LStepCode;IZII)I"⟩ 6 (some .int) mt_265 = true := by decide +kernel
theorem kh_265 : ck_hs tb_E tb_exc "StepCodeLaw" [(0, 9, 12, [202]), (0, 9, 16, [200])] [(0, 9, 12, 31), (0, 9, 16, 13)] [(4, 42, 2), (2, 90, 0)] = true := by decide +kernel
theorem km_265 {D : ar_D} {lim : Nat × Nat} {b : Nat} {B : Heap} (hE : ck_env tb_E (tb_G D lim b B) tb_Ts tb_I ah_P) : am_mok (tb_G D lim b B) tb_Ts tb_I ah_P ⟨"StepCodeLaw", "put", "(LStepCode;IZII)I"⟩ method_7_code 6 (some .int) [(0, 9, 12, 31), (0, 9, 16, 13)] mt_265 :=
  ck_mok (hn := false) hE (fun h => by cases h) kf_265 (ck_hs_ok hE _ _ [(4, 42, 2), (2, 90, 0)] kh_265) (List.forall_mem_cons.mpr ⟨ck_es_ok hE _ _ kb_265_0, fun _ h => absurd h List.not_mem_nil⟩)
-- StepCodeLaw.mark(LStepCode;IZZ)I
theorem kb_266_0 : ck_es tb_E "StepCodeLaw" "mark" method_8_code [(0, 7, 10, [202])] false mc_266_0 [[], [], [], [], [(4, 81), (4, 82), (4, 83)], [], [], [], [], [], []] = true := by decide +kernel
theorem kf_266 : ck_m ⟨"StepCodeLaw", "mark", "(LStepCode;IZZ)I"⟩ 5 (some .int) mt_266 = true := by decide +kernel
theorem kh_266 : ck_hs tb_E tb_exc "StepCodeLaw" [(0, 7, 10, [202])] [(0, 7, 10, 31)] [(4, 42, 2)] = true := by decide +kernel
theorem km_266 {D : ar_D} {lim : Nat × Nat} {b : Nat} {B : Heap} (hE : ck_env tb_E (tb_G D lim b B) tb_Ts tb_I ah_P) : am_mok (tb_G D lim b B) tb_Ts tb_I ah_P ⟨"StepCodeLaw", "mark", "(LStepCode;IZZ)I"⟩ method_8_code 5 (some .int) [(0, 7, 10, 31)] mt_266 :=
  ck_mok (hn := false) hE (fun h => by cases h) kf_266 (ck_hs_ok hE _ _ [(4, 42, 2)] kh_266) (List.forall_mem_cons.mpr ⟨ck_es_ok hE _ _ kb_266_0, fun _ h => absurd h List.not_mem_nil⟩)
-- StepCodeLaw.get(LStepCode;II[J)I
theorem kb_267_0 : ck_es tb_E "StepCodeLaw" "get" method_9_code [(0, 10, 13, [202])] false mc_267_0 [[], [], [], [], [], [(4, 89), (4, 90), (4, 91)], [], [], [], [], [], [], [], []] = true := by decide +kernel
theorem kf_267 : ck_m ⟨"StepCodeLaw", "get", "(LStepCode;II[J)I"⟩ 5 (some .int) mt_267 = true := by decide +kernel
theorem kh_267 : ck_hs tb_E tb_exc "StepCodeLaw" [(0, 10, 13, [202])] [(0, 10, 13, 31)] [(4, 42, 2)] = true := by decide +kernel
theorem km_267 {D : ar_D} {lim : Nat × Nat} {b : Nat} {B : Heap} (hE : ck_env tb_E (tb_G D lim b B) tb_Ts tb_I ah_P) : am_mok (tb_G D lim b B) tb_Ts tb_I ah_P ⟨"StepCodeLaw", "get", "(LStepCode;II[J)I"⟩ method_9_code 5 (some .int) [(0, 10, 13, 31)] mt_267 :=
  ck_mok (hn := false) hE (fun h => by cases h) kf_267 (ck_hs_ok hE _ _ [(4, 42, 2)] kh_267) (List.forall_mem_cons.mpr ⟨ck_es_ok hE _ _ kb_267_0, fun _ h => absurd h List.not_mem_nil⟩)
-- StepCodeLaw.set(LStepCode;IIII)I
theorem kb_268_0 : ck_es tb_E "StepCodeLaw" "set" method_10_code [(0, 9, 12, [202]), (0, 9, 16, [200])] false mc_268_0 [[], [], [], [], [], [(4, 100), (4, 101), (4, 102)], [], [], [], [], [], [], [], [], []] = true := by decide +kernel
theorem kf_268 : ck_m ⟨"StepCodeLaw", "set", "(LStepCode;IIII)I"⟩ 6 (some .int) mt_268 = true := by decide +kernel
theorem kh_268 : ck_hs tb_E tb_exc "StepCodeLaw" [(0, 9, 12, [202]), (0, 9, 16, [200])] [(0, 9, 12, 31), (0, 9, 16, 13)] [(4, 42, 2), (2, 90, 0)] = true := by decide +kernel
theorem km_268 {D : ar_D} {lim : Nat × Nat} {b : Nat} {B : Heap} (hE : ck_env tb_E (tb_G D lim b B) tb_Ts tb_I ah_P) : am_mok (tb_G D lim b B) tb_Ts tb_I ah_P ⟨"StepCodeLaw", "set", "(LStepCode;IIII)I"⟩ method_10_code 6 (some .int) [(0, 9, 12, 31), (0, 9, 16, 13)] mt_268 :=
  ck_mok (hn := false) hE (fun h => by cases h) kf_268 (ck_hs_ok hE _ _ [(4, 42, 2), (2, 90, 0)] kh_268) (List.forall_mem_cons.mpr ⟨ck_es_ok hE _ _ kb_268_0, fun _ h => absurd h List.not_mem_nil⟩)
-- StepCodeLaw.variableOf(LStepCode;III[J)I
theorem kb_269_0 : ck_es tb_E "StepCodeLaw" "variableOf" method_11_code [(0, 12, 15, [202])] false mc_269_0 [[], [], [], [], [], [], [(4, 117), (4, 118), (4, 119)], [], [], [], [], [], [], [], []] = true := by decide +kernel
theorem kf_269 : ck_m ⟨"StepCodeLaw", "variableOf", "(LStepCode;III[J)I"⟩ 6 (some .int) mt_269 = true := by decide +kernel
theorem kh_269 : ck_hs tb_E tb_exc "StepCodeLaw" [(0, 12, 15, [202])] [(0, 12, 15, 31)] [(4, 42, 2)] = true := by decide +kernel
theorem km_269 {D : ar_D} {lim : Nat × Nat} {b : Nat} {B : Heap} (hE : ck_env tb_E (tb_G D lim b B) tb_Ts tb_I ah_P) : am_mok (tb_G D lim b B) tb_Ts tb_I ah_P ⟨"StepCodeLaw", "variableOf", "(LStepCode;III[J)I"⟩ method_11_code 6 (some .int) [(0, 12, 15, 31)] mt_269 :=
  ck_mok (hn := false) hE (fun h => by cases h) kf_269 (ck_hs_ok hE _ _ [(4, 42, 2)] kh_269) (List.forall_mem_cons.mpr ⟨ck_es_ok hE _ _ kb_269_0, fun _ h => absurd h List.not_mem_nil⟩)
-- StepCodeLaw.resume(LStepCode;II[J)I
theorem kb_270_0 : ck_es tb_E "StepCodeLaw" "resume" method_12_code [(0, 10, 13, [202]), (0, 10, 17, [200]), (0, 10, 21, [201])] false mc_270_0 [[], [], [], [], [], [(4, 124), (4, 125), (4, 126)], [], [], [], [], [], [], [], [], [], [], [], [], [], []] = true := by decide +kernel
theorem kf_270 : ck_m ⟨"StepCodeLaw", "resume", "(LStepCode;II[J)I"⟩ 5 (some .int) mt_270 = true := by decide +kernel
theorem kh_270 : ck_hs tb_E tb_exc "StepCodeLaw" [(0, 10, 13, [202]), (0, 10, 17, [200]), (0, 10, 21, [201])] [(0, 10, 13, 31), (0, 10, 17, 13), (0, 10, 21, 15)] [(4, 42, 2), (2, 90, 0), (2, 91, 1)] = true := by decide +kernel
theorem km_270 {D : ar_D} {lim : Nat × Nat} {b : Nat} {B : Heap} (hE : ck_env tb_E (tb_G D lim b B) tb_Ts tb_I ah_P) : am_mok (tb_G D lim b B) tb_Ts tb_I ah_P ⟨"StepCodeLaw", "resume", "(LStepCode;II[J)I"⟩ method_12_code 5 (some .int) [(0, 10, 13, 31), (0, 10, 17, 13), (0, 10, 21, 15)] mt_270 :=
  ck_mok (hn := false) hE (fun h => by cases h) kf_270 (ck_hs_ok hE _ _ [(4, 42, 2), (2, 90, 0), (2, 91, 1)] kh_270) (List.forall_mem_cons.mpr ⟨ck_es_ok hE _ _ kb_270_0, fun _ h => absurd h List.not_mem_nil⟩)
-- StepCodeLaw.holds(LStepCode;I[J)I
theorem kb_271_0 : ck_es tb_E "StepCodeLaw" "holds" method_13_code [(0, 9, 12, [202]), (0, 9, 15, [201])] false mc_271_0 [[], [], [], [], [(5, 212), (5, 213), (5, 214)], [], [], [], [], [], [], [], [], [], [], []] = true := by decide +kernel
theorem kf_271 : ck_m ⟨"StepCodeLaw", "holds", "(LStepCode;I[J)I"⟩ 4 (some .int) mt_271 = true := by decide +kernel
theorem kh_271 : ck_hs tb_E tb_exc "StepCodeLaw" [(0, 9, 12, [202]), (0, 9, 15, [201])] [(0, 9, 12, 31), (0, 9, 15, 15)] [(4, 42, 2), (2, 91, 1)] = true := by decide +kernel
theorem km_271 {D : ar_D} {lim : Nat × Nat} {b : Nat} {B : Heap} (hE : ck_env tb_E (tb_G D lim b B) tb_Ts tb_I ah_P) : am_mok (tb_G D lim b B) tb_Ts tb_I ah_P ⟨"StepCodeLaw", "holds", "(LStepCode;I[J)I"⟩ method_13_code 4 (some .int) [(0, 9, 12, 31), (0, 9, 15, 15)] mt_271 :=
  ck_mok (hn := false) hE (fun h => by cases h) kf_271 (ck_hs_ok hE _ _ [(4, 42, 2), (2, 91, 1)] kh_271) (List.forall_mem_cons.mpr ⟨ck_es_ok hE _ _ kb_271_0, fun _ h => absurd h List.not_mem_nil⟩)
-- StepCodeLaw.about(LStepCode;II[J)I
theorem kb_272_0 : ck_es tb_E "StepCodeLaw" "about" method_14_code [(0, 10, 13, [202]), (0, 10, 17, [200])] false mc_272_0 [[], [], [], [], [], [(5, 228), (5, 229), (5, 230)], [], [], [], [], [], [], [], [], [], [], []] = true := by decide +kernel
theorem kf_272 : ck_m ⟨"StepCodeLaw", "about", "(LStepCode;II[J)I"⟩ 5 (some .int) mt_272 = true := by decide +kernel
theorem kh_272 : ck_hs tb_E tb_exc "StepCodeLaw" [(0, 10, 13, [202]), (0, 10, 17, [200])] [(0, 10, 13, 31), (0, 10, 17, 13)] [(4, 42, 2), (2, 90, 0)] = true := by decide +kernel
theorem km_272 {D : ar_D} {lim : Nat × Nat} {b : Nat} {B : Heap} (hE : ck_env tb_E (tb_G D lim b B) tb_Ts tb_I ah_P) : am_mok (tb_G D lim b B) tb_Ts tb_I ah_P ⟨"StepCodeLaw", "about", "(LStepCode;II[J)I"⟩ method_14_code 5 (some .int) [(0, 10, 13, 31), (0, 10, 17, 13)] mt_272 :=
  ck_mok (hn := false) hE (fun h => by cases h) kf_272 (ck_hs_ok hE _ _ [(4, 42, 2), (2, 90, 0)] kh_272) (List.forall_mem_cons.mpr ⟨ck_es_ok hE _ _ kb_272_0, fun _ h => absurd h List.not_mem_nil⟩)
-- StepCodeLaw.waits(LStepCode;II[J)I
theorem kb_273_0 : ck_es tb_E "StepCodeLaw" "waits" method_15_code [(0, 10, 13, [202])] false mc_273_0 [[], [], [], [], [], [(6, 2), (6, 3), (6, 4)], [], [], [], [], [], [], [], []] = true := by decide +kernel
theorem kf_273 : ck_m ⟨"StepCodeLaw", "waits", "(LStepCode;II[J)I"⟩ 5 (some .int) mt_273 = true := by decide +kernel
theorem kh_273 : ck_hs tb_E tb_exc "StepCodeLaw" [(0, 10, 13, [202])] [(0, 10, 13, 31)] [(4, 42, 2)] = true := by decide +kernel
theorem km_273 {D : ar_D} {lim : Nat × Nat} {b : Nat} {B : Heap} (hE : ck_env tb_E (tb_G D lim b B) tb_Ts tb_I ah_P) : am_mok (tb_G D lim b B) tb_Ts tb_I ah_P ⟨"StepCodeLaw", "waits", "(LStepCode;II[J)I"⟩ method_15_code 5 (some .int) [(0, 10, 13, 31)] mt_273 :=
  ck_mok (hn := false) hE (fun h => by cases h) kf_273 (ck_hs_ok hE _ _ [(4, 42, 2)] kh_273) (List.forall_mem_cons.mpr ⟨ck_es_ok hE _ _ kb_273_0, fun _ h => absurd h List.not_mem_nil⟩)
-- StepCodeLaw.until(LStepCode;I[J)I
theorem kb_274_0 : ck_es tb_E "StepCodeLaw" "until" method_16_code [(0, 8, 11, [202])] false mc_274_0 [[], [], [], [], [(6, 15), (6, 16), (6, 17)], [], [], [], [], [], [], []] = true := by decide +kernel
theorem kf_274 : ck_m ⟨"StepCodeLaw", "until", "(LStepCode;I[J)I"⟩ 4 (some .int) mt_274 = true := by decide +kernel
theorem kh_274 : ck_hs tb_E tb_exc "StepCodeLaw" [(0, 8, 11, [202])] [(0, 8, 11, 31)] [(4, 42, 2)] = true := by decide +kernel
theorem km_274 {D : ar_D} {lim : Nat × Nat} {b : Nat} {B : Heap} (hE : ck_env tb_E (tb_G D lim b B) tb_Ts tb_I ah_P) : am_mok (tb_G D lim b B) tb_Ts tb_I ah_P ⟨"StepCodeLaw", "until", "(LStepCode;I[J)I"⟩ method_16_code 4 (some .int) [(0, 8, 11, 31)] mt_274 :=
  ck_mok (hn := false) hE (fun h => by cases h) kf_274 (ck_hs_ok hE _ _ [(4, 42, 2)] kh_274) (List.forall_mem_cons.mpr ⟨ck_es_ok hE _ _ kb_274_0, fun _ h => absurd h List.not_mem_nil⟩)
-- StepCodeLaw.act(LStepCode;II[J)I
theorem kb_275_0 : ck_es tb_E "StepCodeLaw" "act" method_17_code [(0, 10, 13, [202]), (0, 10, 17, [200])] false mc_275_0 [[], [], [], [], [], [(6, 22), (6, 23), (6, 24)], [], [], [], [], [], [], [], [], [], [], []] = true := by decide +kernel
theorem kf_275 : ck_m ⟨"StepCodeLaw", "act", "(LStepCode;II[J)I"⟩ 5 (some .int) mt_275 = true := by decide +kernel
theorem kh_275 : ck_hs tb_E tb_exc "StepCodeLaw" [(0, 10, 13, [202]), (0, 10, 17, [200])] [(0, 10, 13, 31), (0, 10, 17, 13)] [(4, 42, 2), (2, 90, 0)] = true := by decide +kernel
theorem km_275 {D : ar_D} {lim : Nat × Nat} {b : Nat} {B : Heap} (hE : ck_env tb_E (tb_G D lim b B) tb_Ts tb_I ah_P) : am_mok (tb_G D lim b B) tb_Ts tb_I ah_P ⟨"StepCodeLaw", "act", "(LStepCode;II[J)I"⟩ method_17_code 5 (some .int) [(0, 10, 13, 31), (0, 10, 17, 13)] mt_275 :=
  ck_mok (hn := false) hE (fun h => by cases h) kf_275 (ck_hs_ok hE _ _ [(4, 42, 2), (2, 90, 0)] kh_275) (List.forall_mem_cons.mpr ⟨ck_es_ok hE _ _ kb_275_0, fun _ h => absurd h List.not_mem_nil⟩)
-- StepCodeLaw.value(LStepCode;III[J)I
theorem kb_276_0 : ck_es tb_E "StepCodeLaw" "value" method_18_code [(0, 12, 15, [202])] false mc_276_0 [[], [], [], [], [], [], [(6, 31), (6, 32), (6, 33)], [], [], [], [], [], [], [], []] = true := by decide +kernel
theorem kf_276 : ck_m ⟨"StepCodeLaw", "value", "(LStepCode;III[J)I"⟩ 6 (some .int) mt_276 = true := by decide +kernel
theorem kh_276 : ck_hs tb_E tb_exc "StepCodeLaw" [(0, 12, 15, [202])] [(0, 12, 15, 31)] [(4, 42, 2)] = true := by decide +kernel
theorem km_276 {D : ar_D} {lim : Nat × Nat} {b : Nat} {B : Heap} (hE : ck_env tb_E (tb_G D lim b B) tb_Ts tb_I ah_P) : am_mok (tb_G D lim b B) tb_Ts tb_I ah_P ⟨"StepCodeLaw", "value", "(LStepCode;III[J)I"⟩ method_18_code 6 (some .int) [(0, 12, 15, 31)] mt_276 :=
  ck_mok (hn := false) hE (fun h => by cases h) kf_276 (ck_hs_ok hE _ _ [(4, 42, 2)] kh_276) (List.forall_mem_cons.mpr ⟨ck_es_ok hE _ _ kb_276_0, fun _ h => absurd h List.not_mem_nil⟩)
-- StepCodeLaw.delay(LStepCode;II[J)I
theorem kb_277_0 : ck_es tb_E "StepCodeLaw" "delay" method_19_code [(0, 9, 12, [202])] false mc_277_0 [[], [], [], [], [], [(6, 47), (6, 48), (6, 49)], [], [], [], [], [], [], []] = true := by decide +kernel
theorem kf_277 : ck_m ⟨"StepCodeLaw", "delay", "(LStepCode;II[J)I"⟩ 5 (some .int) mt_277 = true := by decide +kernel
theorem kh_277 : ck_hs tb_E tb_exc "StepCodeLaw" [(0, 9, 12, [202])] [(0, 9, 12, 31)] [(4, 42, 2)] = true := by decide +kernel
theorem km_277 {D : ar_D} {lim : Nat × Nat} {b : Nat} {B : Heap} (hE : ck_env tb_E (tb_G D lim b B) tb_Ts tb_I ah_P) : am_mok (tb_G D lim b B) tb_Ts tb_I ah_P ⟨"StepCodeLaw", "delay", "(LStepCode;II[J)I"⟩ method_19_code 5 (some .int) [(0, 9, 12, 31)] mt_277 :=
  ck_mok (hn := false) hE (fun h => by cases h) kf_277 (ck_hs_ok hE _ _ [(4, 42, 2)] kh_277) (List.forall_mem_cons.mpr ⟨ck_es_ok hE _ _ kb_277_0, fun _ h => absurd h List.not_mem_nil⟩)
-- StepCodeLaw.law([I)Z
theorem kb_278_0 : ck_es tb_E "StepCodeLaw" "law" code [] true mc_278_0 [[(1, 22), (1, 23), (1, 1)], [], [(1, 24), (1, 25)], [], [(6, 57), (6, 58), (1, 11)], [], [(6, 59), (6, 60)], [], [], [(1, 187)], [], [], [], [], [], [], [], [], [], [], [], [], [], []] = true := by decide +kernel
theorem kb_278_1 : ck_es tb_E "StepCodeLaw" "law" code [] true mc_278_1 [[], [], [], [], [], [], [], [], [], [], [], [], [], [], [], [], [], [], [(2, 87), (2, 88)], [], [], [], [], []] = true := by decide +kernel
theorem kb_278_2 : ck_es tb_E "StepCodeLaw" "law" code [] true mc_278_2 [[], [], [], [], [], [], [], [], [], [], [], [], [(6, 238), (6, 239), (7, 0)], [], [], [], [], [], [], [], [], [], [], []] = true := by decide +kernel
theorem kb_278_3 : ck_es tb_E "StepCodeLaw" "law" code [] true mc_278_3 [[], [], [], [], [], [], [], [], [(3, 6), (3, 7)], [], [], [], [], [], [], [], [], [], [], [], [], [], [], []] = true := by decide +kernel
theorem kb_278_4 : ck_es tb_E "StepCodeLaw" "law" code [] true mc_278_4 [[], [], [(7, 14), (7, 15), (7, 16)], [], [], [], [], [], [], [], [], [], [], [], [], [], [], [], [], [], [], [], [(3, 14), (3, 15)], []] = true := by decide +kernel
theorem kb_278_5 : ck_es tb_E "StepCodeLaw" "law" code [] true mc_278_5 [[], [], [], [], [], [], [], [], [], [], [], [], [], [], [], [], [(7, 66), (7, 67), (7, 68)], [], [], [], [], [(3, 46), (3, 47)], [], []] = true := by decide +kernel
theorem kb_278_6 : ck_es tb_E "StepCodeLaw" "law" code [] true mc_278_6 [[(7, 70), (7, 71), (7, 72)], [], [], [], [(2, 79), (2, 80), (2, 81)], [], [], [(7, 145), (7, 146), (7, 147)], [], [], [], [], [], [], [], [], [], [], [], [], [], [], [], []] = true := by decide +kernel
theorem kb_278_7 : ck_es tb_E "StepCodeLaw" "law" code [] true mc_278_7 [[], [], [], [], [], [], [], [], [], [], [], [(4, 39), (4, 40)], [], [], [], [], [], [], [], [], [], [], [], []] = true := by decide +kernel
theorem kb_278_8 : ck_es tb_E "StepCodeLaw" "law" code [] true mc_278_8 [[], [], [], [], [], [], [], [], [], [], [], [], [], [], [(7, 18), (7, 19), (7, 20)], [], [], [], [], [], [], [], [], []] = true := by decide +kernel
theorem kb_278_9 : ck_es tb_E "StepCodeLaw" "law" code [] true mc_278_9 [[], [], [], [], [], [], [], [], [], [], [], [], [], [], [], [], [(4, 78), (4, 79)], [], [], [], [], [], [], []] = true := by decide +kernel
theorem kb_278_10 : ck_es tb_E "StepCodeLaw" "law" code [] true mc_278_10 [[], [], [], [], [], [], [], [], [], [], [], [], [], [], [], [], [], [], [(7, 34), (7, 35), (7, 36)], [], [], [], [], []] = true := by decide +kernel
theorem kb_278_11 : ck_es tb_E "StepCodeLaw" "law" code [] true mc_278_11 [[], [], [], [], [], [], [], [], [(4, 86), (4, 87)], [], [], [], [], [], [], [], [], [], [], [], [], [(7, 38), (7, 39), (7, 40)], [], []] = true := by decide +kernel
theorem kb_278_12 : ck_es tb_E "StepCodeLaw" "law" code [] true mc_278_12 [[], [], [], [], [], [], [], [], [], [], [], [], [], [], [], [], [], [], [], [], [], [(4, 97), (4, 98)], [], []] = true := by decide +kernel
theorem kb_278_13 : ck_es tb_E "StepCodeLaw" "law" code [] true mc_278_13 [[], [], [], [], [], [], [], [], [], [], [], [], [], [], [], [], [], [], [], [], [(7, 50), (7, 51), (7, 52)], [], [], []] = true := by decide +kernel
theorem kb_278_14 : ck_es tb_E "StepCodeLaw" "law" code [] true mc_278_14 [[], [], [], [], [], [], [], [], [], [], [], [], [], [], [], [(4, 114), (4, 115)], [], [], [], [], [], [], [], []] = true := by decide +kernel
theorem kb_278_15 : ck_es tb_E "StepCodeLaw" "law" code [] true mc_278_15 [[], [], [], [], [], [], [], [], [], [(7, 62), (7, 63), (7, 64)], [], [], [], [], [], [], [], [], [], [], [], [], [], []] = true := by decide +kernel
theorem kb_278_16 : ck_es tb_E "StepCodeLaw" "law" code [] true mc_278_16 [[(4, 121), (4, 122)], [], [], [], [], [], [], [], [], [], [], [], [], [(7, 149), (7, 150), (7, 151)], [], [], [], [], [], [], [], [], [], [(5, 209), (5, 210)]] = true := by decide +kernel
theorem kb_278_17 : ck_es tb_E "StepCodeLaw" "law" code [] true mc_278_17 [[], [], [], [], [], [], [], [(8, 98), (8, 99), (8, 100)], [], [], [], [], [], [], [], [], [], [], [], [], [], [], [(5, 225), (5, 226)], []] = true := by decide +kernel
theorem kb_278_18 : ck_es tb_E "StepCodeLaw" "law" code [] true mc_278_18 [[], [], [], [], [], [], [], [], [], [], [], [(8, 106), (8, 107), (8, 108)], [], [], [], [], [], [], [], [], [], [], [], []] = true := by decide +kernel
theorem kb_278_19 : ck_es tb_E "StepCodeLaw" "law" code [] true mc_278_19 [[], [], [(5, 239), (6, 0)], [], [], [], [], [], [], [], [], [], [], [], [], [(8, 110), (8, 111), (8, 112)], [], [], [], [], [], [], [], []] = true := by decide +kernel
theorem kb_278_20 : ck_es tb_E "StepCodeLaw" "law" code [] true mc_278_20 [[], [(6, 12), (6, 13)], [], [], [], [], [], [], [], [(8, 114), (8, 115), (8, 116)], [], [], [], [(2, 83), (2, 84), (2, 85)], [], [], [(8, 118), (8, 119), (8, 120)], [], [], [], [], [], [], []] = true := by decide +kernel
theorem kb_278_21 : ck_es tb_E "StepCodeLaw" "law" code [] true mc_278_21 [[], [], [], [], [], [], [], [(6, 19), (6, 20)], [], [], [], [], [], [], [], [], [], [], [], [], [(8, 122), (8, 123), (8, 124)], [], [], []] = true := by decide +kernel
theorem kb_278_22 : ck_es tb_E "StepCodeLaw" "law" code [] true mc_278_22 [[], [], [], [], [], [], [], [], [], [], [], [], [], [], [], [], [(6, 28), (6, 29)], [], [], [], [], [], [], []] = true := by decide +kernel
theorem kb_278_23 : ck_es tb_E "StepCodeLaw" "law" code [] true mc_278_23 [[], [], [], [], [], [], [], [], [], [], [(8, 126), (8, 127), (8, 128)], [], [], [], [], [], [], [], [], [], [], [], [], []] = true := by decide +kernel
theorem kb_278_24 : ck_es tb_E "StepCodeLaw" "law" code [] true mc_278_24 [[], [(6, 44), (6, 45)], [], [], [], [], [], [], [], [], [], [], [], [], [(8, 134), (8, 135), (8, 136)], [], [], [(6, 234), (6, 235), (6, 236)], [], [], [], [], [], []] = true := by decide +kernel
theorem kb_278_25 : ck_es tb_E "StepCodeLaw" "law" code [] true mc_278_25 [[], [], [], [], [], [], [], [], [], [], [], [], []] = true := by decide +kernel
theorem kf_278 : ck_m ⟨"StepCodeLaw", "law", "([I)Z"⟩ 8 (some .boolean) mt_278 = true := by decide +kernel
theorem km_278 {D : ar_D} {lim : Nat × Nat} {b : Nat} {B : Heap} (hE : ck_env tb_E (tb_G D lim b B) tb_Ts tb_I ah_P) : am_mok (tb_G D lim b B) tb_Ts tb_I ah_P ⟨"StepCodeLaw", "law", "([I)Z"⟩ code 8 (some .boolean) [] mt_278 :=
  ck_mok (hn := true) hE (fun _ => rfl) kf_278 (trivial) (List.forall_mem_cons.mpr ⟨ck_es_ok hE _ _ kb_278_0, List.forall_mem_cons.mpr ⟨ck_es_ok hE _ _ kb_278_1, List.forall_mem_cons.mpr ⟨ck_es_ok hE _ _ kb_278_2, List.forall_mem_cons.mpr ⟨ck_es_ok hE _ _ kb_278_3, List.forall_mem_cons.mpr ⟨ck_es_ok hE _ _ kb_278_4, List.forall_mem_cons.mpr ⟨ck_es_ok hE _ _ kb_278_5, List.forall_mem_cons.mpr ⟨ck_es_ok hE _ _ kb_278_6, List.forall_mem_cons.mpr ⟨ck_es_ok hE _ _ kb_278_7, List.forall_mem_cons.mpr ⟨ck_es_ok hE _ _ kb_278_8, List.forall_mem_cons.mpr ⟨ck_es_ok hE _ _ kb_278_9, List.forall_mem_cons.mpr ⟨ck_es_ok hE _ _ kb_278_10, List.forall_mem_cons.mpr ⟨ck_es_ok hE _ _ kb_278_11, List.forall_mem_cons.mpr ⟨ck_es_ok hE _ _ kb_278_12, List.forall_mem_cons.mpr ⟨ck_es_ok hE _ _ kb_278_13, List.forall_mem_cons.mpr ⟨ck_es_ok hE _ _ kb_278_14, List.forall_mem_cons.mpr ⟨ck_es_ok hE _ _ kb_278_15, List.forall_mem_cons.mpr ⟨ck_es_ok hE _ _ kb_278_16, List.forall_mem_cons.mpr ⟨ck_es_ok hE _ _ kb_278_17, List.forall_mem_cons.mpr ⟨ck_es_ok hE _ _ kb_278_18, List.forall_mem_cons.mpr ⟨ck_es_ok hE _ _ kb_278_19, List.forall_mem_cons.mpr ⟨ck_es_ok hE _ _ kb_278_20, List.forall_mem_cons.mpr ⟨ck_es_ok hE _ _ kb_278_21, List.forall_mem_cons.mpr ⟨ck_es_ok hE _ _ kb_278_22, List.forall_mem_cons.mpr ⟨ck_es_ok hE _ _ kb_278_23, List.forall_mem_cons.mpr ⟨ck_es_ok hE _ _ kb_278_24, List.forall_mem_cons.mpr ⟨ck_es_ok hE _ _ kb_278_25, fun _ h => absurd h List.not_mem_nil⟩⟩⟩⟩⟩⟩⟩⟩⟩⟩⟩⟩⟩⟩⟩⟩⟩⟩⟩⟩⟩⟩⟩⟩⟩⟩)
