/-! TABLES of the abstract machine, by program (wip/tools/gen2.py) out of the claim's listing and words -/
-- StepCode$Things.trimmed()LStepCode$Things;
theorem kb_233_0 : ck_es tb_E "StepCode$Things" "trimmed" prog_9_method_6_code [] true mc_233_0 [[(3, 208), (1, 31), (1, 2)], [], [], [(1, 42)], [(3, 209), (1, 33)], [], [], [], [], [], [(1, 42)], [], [], [], [(1, 41)], [], [], [], [], [(1, 41)], [], [], [(3, 210), (3, 2), (3, 3)], []] = true := by decide +kernel
theorem kb_233_1 : ck_es tb_E "StepCode$Things" "trimmed" prog_9_method_6_code [] true mc_233_1 [[], [], [], []] = true := by decide +kernel
theorem kf_233 : ck_m ⟨"StepCode$Things", "trimmed", "()LStepCode$Things;"⟩ 3 (some (.object "StepCode$Things")) mt_233 = true := by decide +kernel
theorem km_233 {D : ar_D} {lim : Nat × Nat} {b : Nat} {B : Heap} (hE : ck_env tb_E (tb_G D lim b B) tb_Ts tb_I ah_P) : am_mok (tb_G D lim b B) tb_Ts tb_I ah_P ⟨"StepCode$Things", "trimmed", "()LStepCode$Things;"⟩ prog_9_method_6_code 3 (some (.object "StepCode$Things")) [] mt_233 :=
  ck_mok (hn := true) hE (fun _ => rfl) kf_233 (trivial) (List.forall_mem_cons.mpr ⟨ck_es_ok hE _ _ kb_233_0, List.forall_mem_cons.mpr ⟨ck_es_ok hE _ _ kb_233_1, fun _ h => absurd h List.not_mem_nil⟩⟩)
-- StepCode$Told.<init>()V
theorem kb_234_0 : ck_es tb_E "StepCode$Told" "<init>" prog_10_method_1_code [] true mc_234_0 [[], [(1, 145), (1, 28), (1, 29)], [], [], [(1, 97)], [(1, 188)], [], [], [(1, 97)], [(1, 190)], [], [], [(1, 97)], [(1, 192)], [], [], [(1, 97)], [(1, 194)], [], [], [(1, 97)], [(1, 196)], [], []] = true := by decide +kernel
theorem kb_234_1 : ck_es tb_E "StepCode$Told" "<init>" prog_10_method_1_code [] true mc_234_1 [[(1, 97)], [(1, 198)], [], [], [(1, 97)], [(1, 200)], [], [], [(1, 187)], [(1, 201)], [], [], [(1, 187)], [(1, 203)], [], [], [(1, 146)], [(1, 205)], [], [], [], [], [(1, 205)], []] = true := by decide +kernel
theorem kb_234_2 : ck_es tb_E "StepCode$Told" "<init>" prog_10_method_1_code [] true mc_234_2 [[], [], [(1, 205)], [], [(1, 146), (1, 148), (1, 8)], [], [(999, 0), (1, 150), (3, 0)], [], [], [], []] = true := by decide +kernel
theorem kf_234 : ck_m ⟨"StepCode$Told", "<init>", "()V"⟩ 2 none mt_234 = true := by decide +kernel
theorem km_234 {D : ar_D} {lim : Nat × Nat} {b : Nat} {B : Heap} (hE : ck_env tb_E (tb_G D lim b B) tb_Ts tb_I ah_P) : am_mok (tb_G D lim b B) tb_Ts tb_I ah_P ⟨"StepCode$Told", "<init>", "()V"⟩ prog_10_method_1_code 2 none [] mt_234 :=
  ck_mok (hn := true) hE (fun _ => rfl) kf_234 (trivial) (List.forall_mem_cons.mpr ⟨ck_es_ok hE _ _ kb_234_0, List.forall_mem_cons.mpr ⟨ck_es_ok hE _ _ kb_234_1, List.forall_mem_cons.mpr ⟨ck_es_ok hE _ _ kb_234_2, fun _ h => absurd h List.not_mem_nil⟩⟩⟩)
-- StepCode$Told.clear()V
theorem kb_235_0 : ck_es tb_E "StepCode$Told" "clear" prog_10_method_2_code [] true mc_235_0 [[], [], [(1, 206)], [], [], [(1, 208)], []] = true := by decide +kernel
theorem kf_235 : ck_m ⟨"StepCode$Told", "clear", "()V"⟩ 1 none mt_235 = true := by decide +kernel
theorem km_235 {D : ar_D} {lim : Nat × Nat} {b : Nat} {B : Heap} (hE : ck_env tb_E (tb_G D lim b B) tb_Ts tb_I ah_P) : am_mok (tb_G D lim b B) tb_Ts tb_I ah_P ⟨"StepCode$Told", "clear", "()V"⟩ prog_10_method_2_code 1 none [] mt_235 :=
  ck_mok (hn := true) hE (fun _ => rfl) kf_235 (trivial) (List.forall_mem_cons.mpr ⟨ck_es_ok hE _ _ kb_235_0, fun _ h => absurd h List.not_mem_nil⟩)
-- StepCode$Told.has(I)Z
theorem kb_236_0 : ck_es tb_E "StepCode$Told" "has" prog_10_method_3_code [] true mc_236_0 [[], [], [], [], [(1, 206)], [], [], [], [], [], [], [], []] = true := by decide +kernel
theorem kf_236 : ck_m ⟨"StepCode$Told", "has", "(I)Z"⟩ 2 (some .boolean) mt_236 = true := by decide +kernel
theorem km_236 {D : ar_D} {lim : Nat × Nat} {b : Nat} {B : Heap} (hE : ck_env tb_E (tb_G D lim b B) tb_Ts tb_I ah_P) : am_mok (tb_G D lim b B) tb_Ts tb_I ah_P ⟨"StepCode$Told", "has", "(I)Z"⟩ prog_10_method_3_code 2 (some .boolean) [] mt_236 :=
  ck_mok (hn := true) hE (fun _ => rfl) kf_236 (trivial) (List.forall_mem_cons.mpr ⟨ck_es_ok hE _ _ kb_236_0, fun _ h => absurd h List.not_mem_nil⟩)
-- StepCode$Told.isAssign(I)Z
theorem kb_237_0 : ck_es tb_E "StepCode$Told" "isAssign" prog_10_method_4_code [] true mc_237_0 [[], [], [(5, 147), (5, 148), (5, 149)], [], [], [(1, 188)], [], [], [], [], [], [], []] = true := by decide +kernel
theorem kf_237 : ck_m ⟨"StepCode$Told", "isAssign", "(I)Z"⟩ 2 (some .boolean) mt_237 = true := by decide +kernel
theorem km_237 {D : ar_D} {lim : Nat × Nat} {b : Nat} {B : Heap} (hE : ck_env tb_E (tb_G D lim b B) tb_Ts tb_I ah_P) : am_mok (tb_G D lim b B) tb_Ts tb_I ah_P ⟨"StepCode$Told", "isAssign", "(I)Z"⟩ prog_10_method_4_code 2 (some .boolean) [] mt_237 :=
  ck_mok (hn := true) hE (fun _ => rfl) kf_237 (trivial) (List.forall_mem_cons.mpr ⟨ck_es_ok hE _ _ kb_237_0, fun _ h => absurd h List.not_mem_nil⟩)
-- StepCode$Told.hasRoomFor(I)Z
theorem kb_238_0 : ck_es tb_E "StepCode$Told" "hasRoomFor" prog_10_method_5_code [] true mc_238_0 [[], [(1, 206)], [], [], [], [(1, 208)], [], [], [], [], [], [], [], []] = true := by decide +kernel
theorem kf_238 : ck_m ⟨"StepCode$Told", "hasRoomFor", "(I)Z"⟩ 2 (some .boolean) mt_238 = true := by decide +kernel
theorem km_238 {D : ar_D} {lim : Nat × Nat} {b : Nat} {B : Heap} (hE : ck_env tb_E (tb_G D lim b B) tb_Ts tb_I ah_P) : am_mok (tb_G D lim b B) tb_Ts tb_I ah_P ⟨"StepCode$Told", "hasRoomFor", "(I)Z"⟩ prog_10_method_5_code 2 (some .boolean) [] mt_238 :=
  ck_mok (hn := true) hE (fun _ => rfl) kf_238 (trivial) (List.forall_mem_cons.mpr ⟨ck_es_ok hE _ _ kb_238_0, fun _ h => absurd h List.not_mem_nil⟩)
-- StepCode$Told.tellReport(I)V
theorem kb_239_0 : ck_es tb_E "StepCode$Told" "tellReport" prog_10_method_6_code [] true mc_239_0 [[], [], [(5, 142), (5, 135), (5, 136)], [], [], [(1, 188)], [], [(1, 206)], [], [], [], [(1, 190)], [], [(1, 206)], [], [], [], [(1, 192)], [], [(1, 206)], [], [], [], [(1, 194)]] = true := by decide +kernel
theorem kb_239_1 : ck_es tb_E "StepCode$Told" "tellReport" prog_10_method_6_code [] true mc_239_1 [[], [(1, 206)], [], [], [], [(1, 196)], [], [(1, 206)], [], [], [], [(1, 198)], [], [(1, 206)], [], [], [], [(1, 200)], [], [(1, 206)], [], [(1, 208)], [], []] = true := by decide +kernel
theorem kb_239_2 : ck_es tb_E "StepCode$Told" "tellReport" prog_10_method_6_code [] true mc_239_2 [[(1, 201)], [], [(1, 206)], [], [], [], [], [(1, 206)], [], [], [(1, 206)], []] = true := by decide +kernel
theorem kf_239 : ck_m ⟨"StepCode$Told", "tellReport", "(I)V"⟩ 2 none mt_239 = true := by decide +kernel
theorem km_239 {D : ar_D} {lim : Nat × Nat} {b : Nat} {B : Heap} (hE : ck_env tb_E (tb_G D lim b B) tb_Ts tb_I ah_P) : am_mok (tb_G D lim b B) tb_Ts tb_I ah_P ⟨"StepCode$Told", "tellReport", "(I)V"⟩ prog_10_method_6_code 2 none [] mt_239 :=
  ck_mok (hn := true) hE (fun _ => rfl) kf_239 (trivial) (List.forall_mem_cons.mpr ⟨ck_es_ok hE _ _ kb_239_0, List.forall_mem_cons.mpr ⟨ck_es_ok hE _ _ kb_239_1, List.forall_mem_cons.mpr ⟨ck_es_ok hE _ _ kb_239_2, fun _ h => absurd h List.not_mem_nil⟩⟩⟩)
-- StepCode$Told.tellAssign(IIIIJ)V
theorem kb_240_0 : ck_es tb_E "StepCode$Told" "tellAssign" prog_10_method_7_code [] true mc_240_0 [[], [], [(5, 142), (5, 135), (5, 136)], [], [], [(1, 188)], [], [(1, 206)], [], [], [], [(1, 190)], [], [(1, 206)], [], [], [], [(1, 192)], [], [(1, 206)], [], [], [], [(1, 194)]] = true := by decide +kernel
theorem kb_240_1 : ck_es tb_E "StepCode$Told" "tellAssign" prog_10_method_7_code [] true mc_240_1 [[], [(1, 206)], [], [], [], [(1, 196)], [], [(1, 206)], [], [], [], [(1, 198)], [], [(1, 206)], [], [], [], [(1, 200)], [], [(1, 206)], [], [(1, 208)], [], []] = true := by decide +kernel
theorem kb_240_2 : ck_es tb_E "StepCode$Told" "tellAssign" prog_10_method_7_code [] true mc_240_2 [[(1, 201)], [], [(1, 206)], [], [], [], [], [(1, 206)], [], [], [(1, 206)], []] = true := by decide +kernel
theorem kf_240 : ck_m ⟨"StepCode$Told", "tellAssign", "(IIIIJ)V"⟩ 7 none mt_240 = true := by decide +kernel
theorem km_240 {D : ar_D} {lim : Nat × Nat} {b : Nat} {B : Heap} (hE : ck_env tb_E (tb_G D lim b B) tb_Ts tb_I ah_P) : am_mok (tb_G D lim b B) tb_Ts tb_I ah_P ⟨"StepCode$Told", "tellAssign", "(IIIIJ)V"⟩ prog_10_method_7_code 7 none [] mt_240 :=
  ck_mok (hn := true) hE (fun _ => rfl) kf_240 (trivial) (List.forall_mem_cons.mpr ⟨ck_es_ok hE _ _ kb_240_0, List.forall_mem_cons.mpr ⟨ck_es_ok hE _ _ kb_240_1, List.forall_mem_cons.mpr ⟨ck_es_ok hE _ _ kb_240_2, fun _ h => absurd h List.not_mem_nil⟩⟩⟩)
-- StepCode$Told.tellValue(LStepCode$Datum;J)V
theorem kb_241_0 : ck_es tb_E "StepCode$Told" "tellValue" prog_10_method_8_code [] true mc_241_0 [[], [], [(1, 206)], [], [], [(5, 147), (5, 148), (5, 149)], [], [], [(1, 208)], [], [], [(1, 208)], [], [], [], [(1, 205)], [], [(1, 208)], [], [], [(5, 151), (2, 202), (2, 203)], [], [(1, 203)], []] = true := by decide +kernel
theorem kb_241_1 : ck_es tb_E "StepCode$Told" "tellValue" prog_10_method_8_code [] true mc_241_1 [[(1, 208)], [], [], [], [], [(1, 208)], [], [], [(1, 208)], [], [(1, 198)], [], [(1, 206)], [], [], [], [], [], [], [], []] = true := by decide +kernel
theorem kf_241 : ck_m ⟨"StepCode$Told", "tellValue", "(LStepCode$Datum;J)V"⟩ 4 none mt_241 = true := by decide +kernel
theorem km_241 {D : ar_D} {lim : Nat × Nat} {b : Nat} {B : Heap} (hE : ck_env tb_E (tb_G D lim b B) tb_Ts tb_I ah_P) : am_mok (tb_G D lim b B) tb_Ts tb_I ah_P ⟨"StepCode$Told", "tellValue", "(LStepCode$Datum;J)V"⟩ prog_10_method_8_code 4 none [] mt_241 :=
  ck_mok (hn := true) hE (fun _ => rfl) kf_241 (trivial) (List.forall_mem_cons.mpr ⟨ck_es_ok hE _ _ kb_241_0, List.forall_mem_cons.mpr ⟨ck_es_ok hE _ _ kb_241_1, fun _ h => absurd h List.not_mem_nil⟩⟩)
-- StepCode$Told.placeOf(II)I
theorem kb_242_0 : ck_es tb_E "StepCode$Told" "placeOf" prog_10_method_9_code [] true mc_242_0 [[], [], [(5, 147), (5, 148), (5, 149)], [], [], [], [], [], [(1, 198)], [], [], [], [], [], [], [(1, 200)], [], [], [], [], [], [], [], []] = true := by decide +kernel
theorem kb_242_1 : ck_es tb_E "StepCode$Told" "placeOf" prog_10_method_9_code [] true mc_242_1 [[], [], [], [], [], []] = true := by decide +kernel
theorem kf_242 : ck_m ⟨"StepCode$Told", "placeOf", "(II)I"⟩ 4 (some .int) mt_242 = true := by decide +kernel
theorem km_242 {D : ar_D} {lim : Nat × Nat} {b : Nat} {B : Heap} (hE : ck_env tb_E (tb_G D lim b B) tb_Ts tb_I ah_P) : am_mok (tb_G D lim b B) tb_Ts tb_I ah_P ⟨"StepCode$Told", "placeOf", "(II)I"⟩ prog_10_method_9_code 4 (some .int) [] mt_242 :=
  ck_mok (hn := true) hE (fun _ => rfl) kf_242 (trivial) (List.forall_mem_cons.mpr ⟨ck_es_ok hE _ _ kb_242_0, List.forall_mem_cons.mpr ⟨ck_es_ok hE _ _ kb_242_1, fun _ h => absurd h List.not_mem_nil⟩⟩)
-- StepCode$Told.datumOf(II)LStepCode$Datum;
theorem kb_243_0 : ck_es tb_E "StepCode$Told" "datumOf" prog_10_method_10_code [] true mc_243_0 [[], [], [], [(6, 39), (6, 40), (6, 41)], [], [], [], [], [], [], [], [(1, 205)], [], [], []] = true := by decide +kernel
theorem kf_243 : ck_m ⟨"StepCode$Told", "datumOf", "(II)LStepCode$Datum;"⟩ 4 (some (.object "StepCode$Datum")) mt_243 = true := by decide +kernel
theorem km_243 {D : ar_D} {lim : Nat × Nat} {b : Nat} {B : Heap} (hE : ck_env tb_E (tb_G D lim b B) tb_Ts tb_I ah_P) : am_mok (tb_G D lim b B) tb_Ts tb_I ah_P ⟨"StepCode$Told", "datumOf", "(II)LStepCode$Datum;"⟩ prog_10_method_10_code 4 (some (.object "StepCode$Datum")) [] mt_243 :=
  ck_mok (hn := true) hE (fun _ => rfl) kf_243 (trivial) (List.forall_mem_cons.mpr ⟨ck_es_ok hE _ _ kb_243_0, fun _ h => absurd h List.not_mem_nil⟩)
-- StepCode$Unit.<init>(LStepCode$Nodes;LStepCode$Things;)V
theorem kb_244_0 : ck_es tb_E "StepCode$Unit" "<init>" prog_11_method_1_code [] true mc_244_0 [[], [(3, 214), (1, 28), (1, 29)], [], [], [(3, 224)], [], [], [(3, 228)], [], [], [(3, 232)], [], [], [(3, 234)], [], [], [(3, 236)], [], [(3, 215)], [(3, 238)], [], [], [(3, 217)], []] = true := by decide +kernel
theorem kb_244_1 : ck_es tb_E "StepCode$Unit" "<init>" prog_11_method_1_code [] true mc_244_1 [[], [(3, 220)], [], [], [(1, 69)], [], [(3, 216), (1, 37), (1, 3), (1, 38)], [(1, 187)], [(4, 0)], [], [], [(1, 69)], [], [(3, 216), (1, 37), (1, 3), (1, 38)], [(1, 187)], [(4, 1)], []] = true := by decide +kernel
theorem kf_244 : ck_m ⟨"StepCode$Unit", "<init>", "(LStepCode$Nodes;LStepCode$Things;)V"⟩ 3 none mt_244 = true := by decide +kernel
theorem km_244 {D : ar_D} {lim : Nat × Nat} {b : Nat} {B : Heap} (hE : ck_env tb_E (tb_G D lim b B) tb_Ts tb_I ah_P) : am_mok (tb_G D lim b B) tb_Ts tb_I ah_P ⟨"StepCode$Unit", "<init>", "(LStepCode$Nodes;LStepCode$Things;)V"⟩ prog_11_method_1_code 3 none [] mt_244 :=
  ck_mok (hn := true) hE (fun _ => rfl) kf_244 (trivial) (List.forall_mem_cons.mpr ⟨ck_es_ok hE _ _ kb_244_0, List.forall_mem_cons.mpr ⟨ck_es_ok hE _ _ kb_244_1, fun _ h => absurd h List.not_mem_nil⟩⟩)
-- StepCode$Unit.countStep()V
theorem kb_245_0 : ck_es tb_E "StepCode$Unit" "countStep" prog_11_method_2_code [] true mc_245_0 [[], [(3, 230)], [(4, 147)], [], [], [], [(3, 230)], [], [], [(3, 230)], []] = true := by decide +kernel
theorem kf_245 : ck_m ⟨"StepCode$Unit", "countStep", "()V"⟩ 1 none mt_245 = true := by decide +kernel
theorem km_245 {D : ar_D} {lim : Nat × Nat} {b : Nat} {B : Heap} (hE : ck_env tb_E (tb_G D lim b B) tb_Ts tb_I ah_P) : am_mok (tb_G D lim b B) tb_Ts tb_I ah_P ⟨"StepCode$Unit", "countStep", "()V"⟩ prog_11_method_2_code 1 none [] mt_245 :=
  ck_mok (hn := true) hE (fun _ => rfl) kf_245 (trivial) (List.forall_mem_cons.mpr ⟨ck_es_ok hE _ _ kb_245_0, fun _ h => absurd h List.not_mem_nil⟩)
-- StepCode$Unit.goTo(II)V
theorem kb_246_0 : ck_es tb_E "StepCode$Unit" "goTo" prog_11_method_3_code [] true mc_246_0 [[], [], [], [], [], [], [], [], [], [], [(3, 217)], [], [], [(4, 156), (3, 88), (3, 89)], [], [], [], [], [], [], [(3, 232)], [], [], [(3, 234)]] = true := by decide +kernel
theorem kb_246_1 : ck_es tb_E "StepCode$Unit" "goTo" prog_11_method_3_code [] true mc_246_1 [[], [], [(3, 217)], [], [(4, 157), (3, 163), (3, 164)], [], [], [], [], [], [(3, 217)], [], [(4, 158), (3, 167), (3, 168)], [], [], [], [], [], [], [], [], [(3, 232)], [], []] = true := by decide +kernel
theorem kb_246_2 : ck_es tb_E "StepCode$Unit" "goTo" prog_11_method_3_code [] true mc_246_2 [[(3, 234)], [], [], [(3, 217)], [], [(4, 159), (3, 64), (3, 65)], [], [], [], [(3, 217)], [], [(4, 157), (3, 163), (3, 164)], [], [], [], [], [(3, 217)], [], [(4, 157), (3, 163), (3, 164)], [], [], [(3, 217)], [], [(4, 160), (4, 161), (4, 162)]] = true := by decide +kernel
theorem kb_246_3 : ck_es tb_E "StepCode$Unit" "goTo" prog_11_method_3_code [] true mc_246_3 [[], [], [], [], [], []] = true := by decide +kernel
theorem kf_246 : ck_m ⟨"StepCode$Unit", "goTo", "(II)V"⟩ 9 none mt_246 = true := by decide +kernel
theorem km_246 {D : ar_D} {lim : Nat × Nat} {b : Nat} {B : Heap} (hE : ck_env tb_E (tb_G D lim b B) tb_Ts tb_I ah_P) : am_mok (tb_G D lim b B) tb_Ts tb_I ah_P ⟨"StepCode$Unit", "goTo", "(II)V"⟩ prog_11_method_3_code 9 none [] mt_246 :=
  ck_mok (hn := true) hE (fun _ => rfl) kf_246 (trivial) (List.forall_mem_cons.mpr ⟨ck_es_ok hE _ _ kb_246_0, List.forall_mem_cons.mpr ⟨ck_es_ok hE _ _ kb_246_1, List.forall_mem_cons.mpr ⟨ck_es_ok hE _ _ kb_246_2, List.forall_mem_cons.mpr ⟨ck_es_ok hE _ _ kb_246_3, fun _ h => absurd h List.not_mem_nil⟩⟩⟩⟩)
-- StepCode$Unit.goBehind(I)Z
theorem kb_247_0 : ck_es tb_E "StepCode$Unit" "goBehind" prog_11_method_4_code [] true mc_247_0 [[], [], [(3, 217)], [], [(4, 157), (3, 163), (3, 164)], [], [(3, 217)], [], [(4, 160), (4, 161), (4, 162)], [], [], [(4, 152), (4, 153), (4, 154)], [], []] = true := by decide +kernel
theorem kf_247 : ck_m ⟨"StepCode$Unit", "goBehind", "(I)Z"⟩ 2 (some .boolean) mt_247 = true := by decide +kernel
theorem km_247 {D : ar_D} {lim : Nat × Nat} {b : Nat} {B : Heap} (hE : ck_env tb_E (tb_G D lim b B) tb_Ts tb_I ah_P) : am_mok (tb_G D lim b B) tb_Ts tb_I ah_P ⟨"StepCode$Unit", "goBehind", "(I)Z"⟩ prog_11_method_4_code 2 (some .boolean) [] mt_247 :=
  ck_mok (hn := true) hE (fun _ => rfl) kf_247 (trivial) (List.forall_mem_cons.mpr ⟨ck_es_ok hE _ _ kb_247_0, fun _ h => absurd h List.not_mem_nil⟩)
-- StepCode$Unit.goInto(I)Z
theorem kb_248_0 : ck_es tb_E "StepCode$Unit" "goInto" prog_11_method_5_code [] true mc_248_0 [[], [], [], [(4, 152), (4, 153), (4, 154)], [], []] = true := by decide +kernel
theorem kf_248 : ck_m ⟨"StepCode$Unit", "goInto", "(I)Z"⟩ 2 (some .boolean) mt_248 = true := by decide +kernel
theorem km_248 {D : ar_D} {lim : Nat × Nat} {b : Nat} {B : Heap} (hE : ck_env tb_E (tb_G D lim b B) tb_Ts tb_I ah_P) : am_mok (tb_G D lim b B) tb_Ts tb_I ah_P ⟨"StepCode$Unit", "goInto", "(I)Z"⟩ prog_11_method_5_code 2 (some .boolean) [] mt_248 :=
  ck_mok (hn := true) hE (fun _ => rfl) kf_248 (trivial) (List.forall_mem_cons.mpr ⟨ck_es_ok hE _ _ kb_248_0, fun _ h => absurd h List.not_mem_nil⟩)
-- StepCode$Unit.goToLook(I)Z
theorem kb_249_0 : ck_es tb_E "StepCode$Unit" "goToLook" prog_11_method_6_code [] true mc_249_0 [[], [], [(3, 232)], [], [], [(3, 234)], [], []] = true := by decide +kernel
theorem kf_249 : ck_m ⟨"StepCode$Unit", "goToLook", "(I)Z"⟩ 2 (some .boolean) mt_249 = true := by decide +kernel
theorem km_249 {D : ar_D} {lim : Nat × Nat} {b : Nat} {B : Heap} (hE : ck_env tb_E (tb_G D lim b B) tb_Ts tb_I ah_P) : am_mok (tb_G D lim b B) tb_Ts tb_I ah_P ⟨"StepCode$Unit", "goToLook", "(I)Z"⟩ prog_11_method_6_code 2 (some .boolean) [] mt_249 :=
  ck_mok (hn := true) hE (fun _ => rfl) kf_249 (trivial) (List.forall_mem_cons.mpr ⟨ck_es_ok hE _ _ kb_249_0, fun _ h => absurd h List.not_mem_nil⟩)
-- StepCode$Unit.beginCount(IJJ)V
theorem kb_250_0 : ck_es tb_E "StepCode$Unit" "beginCount" prog_11_method_7_code [] true mc_250_0 [[], [], [], [], [(4, 0)], [], [], [], [(4, 0)], [], [], [], [], [(4, 1)], [], [], [], []] = true := by decide +kernel
theorem kf_250 : ck_m ⟨"StepCode$Unit", "beginCount", "(IJJ)V"⟩ 6 none mt_250 = true := by decide +kernel
theorem km_250 {D : ar_D} {lim : Nat × Nat} {b : Nat} {B : Heap} (hE : ck_env tb_E (tb_G D lim b B) tb_Ts tb_I ah_P) : am_mok (tb_G D lim b B) tb_Ts tb_I ah_P ⟨"StepCode$Unit", "beginCount", "(IJJ)V"⟩ prog_11_method_7_code 6 none [] mt_250 :=
  ck_mok (hn := true) hE (fun _ => rfl) kf_250 (trivial) (List.forall_mem_cons.mpr ⟨ck_es_ok hE _ _ kb_250_0, fun _ h => absurd h List.not_mem_nil⟩)
-- StepCode$Unit.isCountOver(I)Z
theorem kb_251_0 : ck_es tb_E "StepCode$Unit" "isCountOver" prog_11_method_8_code [] true mc_251_0 [[], [], [], [], [(4, 0)], [], [], [], [], [], [(3, 217)], [], [(4, 159), (3, 64), (3, 65)], [], [], [], [(4, 0)], [], [], [], [(4, 1)], [], [], []] = true := by decide +kernel
theorem kb_251_1 : ck_es tb_E "StepCode$Unit" "isCountOver" prog_11_method_8_code [] true mc_251_1 [[], [], [], [], [], [], [(4, 0)], [], [], [], [(4, 1)], [], [], [], [], [], [], [], []] = true := by decide +kernel
theorem kf_251 : ck_m ⟨"StepCode$Unit", "isCountOver", "(I)Z"⟩ 2 (some .boolean) mt_251 = true := by decide +kernel
theorem km_251 {D : ar_D} {lim : Nat × Nat} {b : Nat} {B : Heap} (hE : ck_env tb_E (tb_G D lim b B) tb_Ts tb_I ah_P) : am_mok (tb_G D lim b B) tb_Ts tb_I ah_P ⟨"StepCode$Unit", "isCountOver", "(I)Z"⟩ prog_11_method_8_code 2 (some .boolean) [] mt_251 :=
  ck_mok (hn := true) hE (fun _ => rfl) kf_251 (trivial) (List.forall_mem_cons.mpr ⟨ck_es_ok hE _ _ kb_251_0, List.forall_mem_cons.mpr ⟨ck_es_ok hE _ _ kb_251_1, fun _ h => absurd h List.not_mem_nil⟩⟩)
-- StepCode$Unit.countOn(I)J
theorem kb_252_0 : ck_es tb_E "StepCode$Unit" "countOn" prog_11_method_9_code [] true mc_252_0 [[], [], [], [], [(4, 0)], [], [], [], [], [], [(4, 0)], [], [], [], [], [(4, 0)], [], [], [(3, 217)], [], [(4, 159), (3, 64), (3, 65)], [], [], []] = true := by decide +kernel
theorem kb_252_1 : ck_es tb_E "StepCode$Unit" "countOn" prog_11_method_9_code [] true mc_252_1 [[], [], [], [], [], [], [], [], []] = true := by decide +kernel
theorem kf_252 : ck_m ⟨"StepCode$Unit", "countOn", "(I)J"⟩ 4 (some .long) mt_252 = true := by decide +kernel
theorem km_252 {D : ar_D} {lim : Nat × Nat} {b : Nat} {B : Heap} (hE : ck_env tb_E (tb_G D lim b B) tb_Ts tb_I ah_P) : am_mok (tb_G D lim b B) tb_Ts tb_I ah_P ⟨"StepCode$Unit", "countOn", "(I)J"⟩ prog_11_method_9_code 4 (some .long) [] mt_252 :=
  ck_mok (hn := true) hE (fun _ => rfl) kf_252 (trivial) (List.forall_mem_cons.mpr ⟨ck_es_ok hE _ _ kb_252_0, List.forall_mem_cons.mpr ⟨ck_es_ok hE _ _ kb_252_1, fun _ h => absurd h List.not_mem_nil⟩⟩)
-- StepCode$Unit.fail(II)Z
theorem kb_253_0 : ck_es tb_E "StepCode$Unit" "fail" prog_11_method_10_code [] true mc_253_0 [[], [(5, 85), (4, 136), (4, 137)], [], [], [(3, 224)], [], [], [(3, 226)], [], [], [(3, 228)], [], []] = true := by decide +kernel
theorem kf_253 : ck_m ⟨"StepCode$Unit", "fail", "(II)Z"⟩ 3 (some .boolean) mt_253 = true := by decide +kernel
theorem km_253 {D : ar_D} {lim : Nat × Nat} {b : Nat} {B : Heap} (hE : ck_env tb_E (tb_G D lim b B) tb_Ts tb_I ah_P) : am_mok (tb_G D lim b B) tb_Ts tb_I ah_P ⟨"StepCode$Unit", "fail", "(II)Z"⟩ prog_11_method_10_code 3 (some .boolean) [] mt_253 :=
  ck_mok (hn := true) hE (fun _ => rfl) kf_253 (trivial) (List.forall_mem_cons.mpr ⟨ck_es_ok hE _ _ kb_253_0, fun _ h => absurd h List.not_mem_nil⟩)
-- StepCode$Unit.waitAt(IJ)Z
theorem kb_254_0 : ck_es tb_E "StepCode$Unit" "waitAt" prog_11_method_11_code [] true mc_254_0 [[], [], [(5, 196), (5, 96), (5, 97)], [], [], [], [(3, 224)], [], [], [(3, 236)], [], [], [(3, 238)], [], []] = true := by decide +kernel
theorem kf_254 : ck_m ⟨"StepCode$Unit", "waitAt", "(IJ)Z"⟩ 4 (some .boolean) mt_254 = true := by decide +kernel
theorem km_254 {D : ar_D} {lim : Nat × Nat} {b : Nat} {B : Heap} (hE : ck_env tb_E (tb_G D lim b B) tb_Ts tb_I ah_P) : am_mok (tb_G D lim b B) tb_Ts tb_I ah_P ⟨"StepCode$Unit", "waitAt", "(IJ)Z"⟩ prog_11_method_11_code 4 (some .boolean) [] mt_254 :=
  ck_mok (hn := true) hE (fun _ => rfl) kf_254 (trivial) (List.forall_mem_cons.mpr ⟨ck_es_ok hE _ _ kb_254_0, fun _ h => absurd h List.not_mem_nil⟩)
-- StepCode$Unit.leaveWait()V
theorem kb_255_0 : ck_es tb_E "StepCode$Unit" "leaveWait" prog_11_method_12_code [] true mc_255_0 [[], [], [(3, 236)], [], [(3, 215)], [(3, 238)], []] = true := by decide +kernel
theorem kf_255 : ck_m ⟨"StepCode$Unit", "leaveWait", "()V"⟩ 1 none mt_255 = true := by decide +kernel
theorem km_255 {D : ar_D} {lim : Nat × Nat} {b : Nat} {B : Heap} (hE : ck_env tb_E (tb_G D lim b B) tb_Ts tb_I ah_P) : am_mok (tb_G D lim b B) tb_Ts tb_I ah_P ⟨"StepCode$Unit", "leaveWait", "()V"⟩ prog_11_method_12_code 1 none [] mt_255 :=
  ck_mok (hn := true) hE (fun _ => rfl) kf_255 (trivial) (List.forall_mem_cons.mpr ⟨ck_es_ok hE _ _ kb_255_0, fun _ h => absurd h List.not_mem_nil⟩)
-- StepCode$Unit.signalsWaitedFor()I
theorem kb_256_0 : ck_es tb_E "StepCode$Unit" "signalsWaitedFor" prog_11_method_13_code [] true mc_256_0 [[], [(3, 217)], [], [(3, 217)], [], [(3, 236)], [], [(4, 156), (3, 88), (3, 89)], [(5, 236), (3, 76), (3, 77)], []] = true := by decide +kernel
theorem kf_256 : ck_m ⟨"StepCode$Unit", "signalsWaitedFor", "()I"⟩ 1 (some .int) mt_256 = true := by decide +kernel
theorem km_256 {D : ar_D} {lim : Nat × Nat} {b : Nat} {B : Heap} (hE : ck_env tb_E (tb_G D lim b B) tb_Ts tb_I ah_P) : am_mok (tb_G D lim b B) tb_Ts tb_I ah_P ⟨"StepCode$Unit", "signalsWaitedFor", "()I"⟩ prog_11_method_13_code 1 (some .int) [] mt_256 :=
  ck_mok (hn := true) hE (fun _ => rfl) kf_256 (trivial) (List.forall_mem_cons.mpr ⟨ck_es_ok hE _ _ kb_256_0, fun _ h => absurd h List.not_mem_nil⟩)
-- StepCode$Unit.signalWaitedFor(I)I
theorem kb_257_0 : ck_es tb_E "StepCode$Unit" "signalWaitedFor" prog_11_method_14_code [] true mc_257_0 [[], [(3, 217)], [], [(3, 217)], [], [(3, 217)], [], [(3, 236)], [], [(4, 156), (3, 88), (3, 89)], [], [(4, 156), (3, 88), (3, 89)], [(6, 11), (3, 68), (3, 69)], []] = true := by decide +kernel
theorem kf_257 : ck_m ⟨"StepCode$Unit", "signalWaitedFor", "(I)I"⟩ 2 (some .int) mt_257 = true := by decide +kernel
theorem km_257 {D : ar_D} {lim : Nat × Nat} {b : Nat} {B : Heap} (hE : ck_env tb_E (tb_G D lim b B) tb_Ts tb_I ah_P) : am_mok (tb_G D lim b B) tb_Ts tb_I ah_P ⟨"StepCode$Unit", "signalWaitedFor", "(I)I"⟩ prog_11_method_14_code 2 (some .int) [] mt_257 :=
  ck_mok (hn := true) hE (fun _ => rfl) kf_257 (trivial) (List.forall_mem_cons.mpr ⟨ck_es_ok hE _ _ kb_257_0, fun _ h => absurd h List.not_mem_nil⟩)
-- StepCode$Unit.waitsForExpression()Z
theorem kb_258_0 : ck_es tb_E "StepCode$Unit" "waitsForExpression" prog_11_method_15_code [] true mc_258_0 [[], [(3, 236)], [], [], [], [(3, 217)], [], [(3, 217)], [], [(3, 236)], [], [(4, 156), (3, 88), (3, 89)], [(4, 159), (3, 64), (3, 65)], [], [], [], [], []] = true := by decide +kernel
theorem kf_258 : ck_m ⟨"StepCode$Unit", "waitsForExpression", "()Z"⟩ 1 (some .boolean) mt_258 = true := by decide +kernel
theorem km_258 {D : ar_D} {lim : Nat × Nat} {b : Nat} {B : Heap} (hE : ck_env tb_E (tb_G D lim b B) tb_Ts tb_I ah_P) : am_mok (tb_G D lim b B) tb_Ts tb_I ah_P ⟨"StepCode$Unit", "waitsForExpression", "()Z"⟩ prog_11_method_15_code 1 (some .boolean) [] mt_258 :=
  ck_mok (hn := true) hE (fun _ => rfl) kf_258 (trivial) (List.forall_mem_cons.mpr ⟨ck_es_ok hE _ _ kb_258_0, fun _ h => absurd h List.not_mem_nil⟩)
-- java/lang/Math.floorMod(JJ)J
theorem kb_259_0 : ck_es tb_E "java/lang/Math" "floorMod" prog_19_method_52_code [] true mc_259_0 [[], [], [], [], [], [], [], [], [], [], [], [], [], [], [], [], [], [], [], []] = true := by decide +kernel
theorem kf_259 : ck_m ⟨"java/lang/Math", "floorMod", "(JJ)J"⟩ 6 (some .long) mt_259 = true := by decide +kernel
theorem km_259 {D : ar_D} {lim : Nat × Nat} {b : Nat} {B : Heap} (hE : ck_env tb_E (tb_G D lim b B) tb_Ts tb_I ah_P) : am_mok (tb_G D lim b B) tb_Ts tb_I ah_P ⟨"java/lang/Math", "floorMod", "(JJ)J"⟩ prog_19_method_52_code 6 (some .long) [] mt_259 :=
  ck_mok (hn := true) hE (fun _ => rfl) kf_259 (trivial) (List.forall_mem_cons.mpr ⟨ck_es_ok hE _ _ kb_259_0, fun _ h => absurd h List.not_mem_nil⟩)
-- java/util/Arrays.copyOf([II)[I
theorem kb_260_0 : ck_es tb_E "java/util/Arrays" "copyOf" prog_24_method_123_code [] true mc_260_0 [[], [], [], [], [], [], [], [], [(1, 97)], [], [], [], [], [], [], [], [], [(3, 198), (3, 199), (1, 3), (3, 200)], [(3, 201), (3, 203), (3, 202), (1, 20)], [], []] = true := by decide +kernel
theorem kf_260 : ck_m ⟨"java/util/Arrays", "copyOf", "([II)[I"⟩ 3 (some (.array .int)) mt_260 = true := by decide +kernel
theorem km_260 {D : ar_D} {lim : Nat × Nat} {b : Nat} {B : Heap} (hE : ck_env tb_E (tb_G D lim b B) tb_Ts tb_I ah_P) : am_mok (tb_G D lim b B) tb_Ts tb_I ah_P ⟨"java/util/Arrays", "copyOf", "([II)[I"⟩ prog_24_method_123_code 3 (some (.array .int)) [] mt_260 :=
  ck_mok (hn := true) hE (fun _ => rfl) kf_260 (trivial) (List.forall_mem_cons.mpr ⟨ck_es_ok hE _ _ kb_260_0, fun _ h => absurd h List.not_mem_nil⟩)
