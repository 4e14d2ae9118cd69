/-! TABLES of the abstract machine, by program (wip/tools/gen2.py) out of the claim's listing and words -/
-- StepCode$Nodes.clear()V
theorem kb_62_0 : ck_es tb_E "StepCode$Nodes" "clear" prog_6_method_16_code [] true mc_62_0 [[], [], [(1, 70)], [], [], [(1, 75)], []] = true := by decide +kernel
theorem kf_62 : ck_m ⟨"StepCode$Nodes", "clear", "()V"⟩ 1 none mt_62 = true := by decide +kernel
theorem km_62 {D : ar_D} {lim : Nat × Nat} {b : Nat} {B : Heap} (hE : ck_env tb_E (tb_G D lim b B) tb_Ts tb_I ah_P) : am_mok (tb_G D lim b B) tb_Ts tb_I ah_P ⟨"StepCode$Nodes", "clear", "()V"⟩ prog_6_method_16_code 1 none [] mt_62 :=
  ck_mok (hn := true) hE (fun _ => rfl) kf_62 (trivial) (List.forall_mem_cons.mpr ⟨ck_es_ok hE _ _ kb_62_0, fun _ h => absurd h List.not_mem_nil⟩)
-- StepCode$Runner.<init>(LStepCode$Things;LStepCode$Told;)V
theorem kb_63_0 : ck_es tb_E "StepCode$Runner" "<init>" prog_7_method_1_code [] true mc_63_0 [[], [(1, 239), (1, 28), (1, 29)], [], [], [(2, 20)], [], [], [(2, 21)], [], [(2, 0), (2, 1), (1, 10)], [], [], [(2, 2), (2, 3)], [(2, 22)], [], [(2, 18), (1, 148), (1, 8)], [], [(999, 0), (1, 150), (1, 0)], [(2, 23)], [], [], [(2, 18)], [(2, 24)], []] = true := by decide +kernel
theorem kb_63_1 : ck_es tb_E "StepCode$Runner" "<init>" prog_7_method_1_code [] true mc_63_1 [[], [], [], [(2, 24)], [], [], [], [(2, 24)], [], [(2, 18), (1, 148), (1, 8)], [], [(999, 0), (1, 150), (1, 0)], [], [], [], [], [], [(1, 187)], [(2, 25)], []] = true := by decide +kernel
theorem kf_63 : ck_m ⟨"StepCode$Runner", "<init>", "(LStepCode$Things;LStepCode$Told;)V"⟩ 4 none mt_63 = true := by decide +kernel
theorem km_63 {D : ar_D} {lim : Nat × Nat} {b : Nat} {B : Heap} (hE : ck_env tb_E (tb_G D lim b B) tb_Ts tb_I ah_P) : am_mok (tb_G D lim b B) tb_Ts tb_I ah_P ⟨"StepCode$Runner", "<init>", "(LStepCode$Things;LStepCode$Told;)V"⟩ prog_7_method_1_code 4 none [] mt_63 :=
  ck_mok (hn := true) hE (fun _ => rfl) kf_63 (trivial) (List.forall_mem_cons.mpr ⟨ck_es_ok hE _ _ kb_63_0, List.forall_mem_cons.mpr ⟨ck_es_ok hE _ _ kb_63_1, fun _ h => absurd h List.not_mem_nil⟩⟩)
-- StepCode$Thing.<init>(III)V
theorem kb_64_0 : ck_es tb_E "StepCode$Thing" "<init>" prog_8_method_1_code [] true mc_64_0 [[], [(2, 193), (1, 28), (1, 29)], [], [], [(2, 205)], [], [], [], [], [], [], [], [(2, 208)], [], [], [], [], [], [], [], [(2, 211)], [], [], []] = true := by decide +kernel
theorem kb_64_1 : ck_es tb_E "StepCode$Thing" "<init>" prog_8_method_1_code [] true mc_64_1 [[], [], [], [], [(2, 212)], [], [(2, 194), (1, 148), (1, 8)], [], [(999, 0), (1, 150), (2, 0)], [(2, 213)], [], [(2, 194), (1, 148), (1, 8)], [], [(999, 0), (1, 150), (2, 0)], [(2, 217)], [], [(2, 213)], [], [], [(2, 208)], [], [], [], []] = true := by decide +kernel
theorem kb_64_2 : ck_es tb_E "StepCode$Thing" "<init>" prog_8_method_1_code [] true mc_64_2 [[(2, 196), (2, 197), (2, 198)], [], [(2, 213)], [], [(2, 211)], [], [(1, 160)], [], [(2, 217)], [], [(2, 213)], [(2, 201), (2, 202), (2, 203)], []] = true := by decide +kernel
theorem kf_64 : ck_m ⟨"StepCode$Thing", "<init>", "(III)V"⟩ 4 none mt_64 = true := by decide +kernel
theorem km_64 {D : ar_D} {lim : Nat × Nat} {b : Nat} {B : Heap} (hE : ck_env tb_E (tb_G D lim b B) tb_Ts tb_I ah_P) : am_mok (tb_G D lim b B) tb_Ts tb_I ah_P ⟨"StepCode$Thing", "<init>", "(III)V"⟩ prog_8_method_1_code 4 none [] mt_64 :=
  ck_mok (hn := true) hE (fun _ => rfl) kf_64 (trivial) (List.forall_mem_cons.mpr ⟨ck_es_ok hE _ _ kb_64_0, List.forall_mem_cons.mpr ⟨ck_es_ok hE _ _ kb_64_1, List.forall_mem_cons.mpr ⟨ck_es_ok hE _ _ kb_64_2, fun _ h => absurd h List.not_mem_nil⟩⟩⟩)
-- StepCode$Thing.canBe(III)Z
theorem kb_65_0 : ck_es tb_E "StepCode$Thing" "canBe" prog_8_method_2_code [] true mc_65_0 [[], [], [], [], [], [], [], [], [], [], [], [], [], [], [], [], [], [], [], [], [], [], [], [(2, 99)]] = true := by decide +kernel
theorem kb_65_1 : ck_es tb_E "StepCode$Thing" "canBe" prog_8_method_2_code [] true mc_65_1 [[], [], [(2, 99)], [], [], [], [], [], [], [], [], [], []] = true := by decide +kernel
theorem kf_65 : ck_m ⟨"StepCode$Thing", "canBe", "(III)Z"⟩ 3 (some .boolean) mt_65 = true := by decide +kernel
theorem km_65 {D : ar_D} {lim : Nat × Nat} {b : Nat} {B : Heap} (hE : ck_env tb_E (tb_G D lim b B) tb_Ts tb_I ah_P) : am_mok (tb_G D lim b B) tb_Ts tb_I ah_P ⟨"StepCode$Thing", "canBe", "(III)Z"⟩ prog_8_method_2_code 3 (some .boolean) [] mt_65 :=
  ck_mok (hn := true) hE (fun _ => rfl) kf_65 (trivial) (List.forall_mem_cons.mpr ⟨ck_es_ok hE _ _ kb_65_0, List.forall_mem_cons.mpr ⟨ck_es_ok hE _ _ kb_65_1, fun _ h => absurd h List.not_mem_nil⟩⟩)
-- StepCode$Things.<init>(I)V
theorem kb_66_0 : ck_es tb_E "StepCode$Things" "<init>" prog_9_method_1_code [] true mc_66_0 [[], [(1, 35), (1, 28), (1, 29)], [], [], [], [(1, 36), (1, 37), (1, 3), (1, 38)], [(1, 39)], [(1, 41)], []] = true := by decide +kernel
theorem kf_66 : ck_m ⟨"StepCode$Things", "<init>", "(I)V"⟩ 2 none mt_66 = true := by decide +kernel
theorem km_66 {D : ar_D} {lim : Nat × Nat} {b : Nat} {B : Heap} (hE : ck_env tb_E (tb_G D lim b B) tb_Ts tb_I ah_P) : am_mok (tb_G D lim b B) tb_Ts tb_I ah_P ⟨"StepCode$Things", "<init>", "(I)V"⟩ prog_9_method_1_code 2 none [] mt_66 :=
  ck_mok (hn := true) hE (fun _ => rfl) kf_66 (trivial) (List.forall_mem_cons.mpr ⟨ck_es_ok hE _ _ kb_66_0, fun _ h => absurd h List.not_mem_nil⟩)
-- StepCode$Things.isFull()Z
theorem kb_67_0 : ck_es tb_E "StepCode$Things" "isFull" prog_9_method_2_code [] true mc_67_0 [[], [(1, 42)], [], [(1, 41)], [], [], [], [], [], []] = true := by decide +kernel
theorem kf_67 : ck_m ⟨"StepCode$Things", "isFull", "()Z"⟩ 1 (some .boolean) mt_67 = true := by decide +kernel
theorem km_67 {D : ar_D} {lim : Nat × Nat} {b : Nat} {B : Heap} (hE : ck_env tb_E (tb_G D lim b B) tb_Ts tb_I ah_P) : am_mok (tb_G D lim b B) tb_Ts tb_I ah_P ⟨"StepCode$Things", "isFull", "()Z"⟩ prog_9_method_2_code 1 (some .boolean) [] mt_67 :=
  ck_mok (hn := true) hE (fun _ => rfl) kf_67 (trivial) (List.forall_mem_cons.mpr ⟨ck_es_ok hE _ _ kb_67_0, fun _ h => absurd h List.not_mem_nil⟩)
-- StepCode$Things.keep(LStepCode$Thing;)I
theorem kb_68_0 : ck_es tb_E "StepCode$Things" "keep" prog_9_method_3_code [] true mc_68_0 [[], [(3, 5), (2, 169), (2, 170)], [], [], [], [], [(1, 41)], [], [(1, 42)], [], [], [], [], [(1, 42)], [], [], [(1, 42)], [], [(1, 42)], [], [], []] = true := by decide +kernel
theorem kf_68 : ck_m ⟨"StepCode$Things", "keep", "(LStepCode$Thing;)I"⟩ 2 (some .int) mt_68 = true := by decide +kernel
theorem km_68 {D : ar_D} {lim : Nat × Nat} {b : Nat} {B : Heap} (hE : ck_env tb_E (tb_G D lim b B) tb_Ts tb_I ah_P) : am_mok (tb_G D lim b B) tb_Ts tb_I ah_P ⟨"StepCode$Things", "keep", "(LStepCode$Thing;)I"⟩ prog_9_method_3_code 2 (some .int) [] mt_68 :=
  ck_mok (hn := true) hE (fun _ => rfl) kf_68 (trivial) (List.forall_mem_cons.mpr ⟨ck_es_ok hE _ _ kb_68_0, fun _ h => absurd h List.not_mem_nil⟩)
-- StepCode$Things.pick(I)LStepCode$Thing;
theorem kb_69_0 : ck_es tb_E "StepCode$Things" "pick" prog_9_method_4_code [] true mc_69_0 [[], [], [], [], [(1, 42)], [], [], [], [(1, 41)], [], [], [], [(1, 41)], [], [], [], [], []] = true := by decide +kernel
theorem kf_69 : ck_m ⟨"StepCode$Things", "pick", "(I)LStepCode$Thing;"⟩ 2 (some (.object "StepCode$Thing")) mt_69 = true := by decide +kernel
theorem km_69 {D : ar_D} {lim : Nat × Nat} {b : Nat} {B : Heap} (hE : ck_env tb_E (tb_G D lim b B) tb_Ts tb_I ah_P) : am_mok (tb_G D lim b B) tb_Ts tb_I ah_P ⟨"StepCode$Things", "pick", "(I)LStepCode$Thing;"⟩ prog_9_method_4_code 2 (some (.object "StepCode$Thing")) [] mt_69 :=
  ck_mok (hn := true) hE (fun _ => rfl) kf_69 (trivial) (List.forall_mem_cons.mpr ⟨ck_es_ok hE _ _ kb_69_0, fun _ h => absurd h List.not_mem_nil⟩)
-- StepCode$Things.clear()V
theorem kb_70_0 : ck_es tb_E "StepCode$Things" "clear" prog_9_method_5_code [] true mc_70_0 [[], [], [(1, 42)], []] = true := by decide +kernel
theorem kf_70 : ck_m ⟨"StepCode$Things", "clear", "()V"⟩ 1 none mt_70 = true := by decide +kernel
theorem km_70 {D : ar_D} {lim : Nat × Nat} {b : Nat} {B : Heap} (hE : ck_env tb_E (tb_G D lim b B) tb_Ts tb_I ah_P) : am_mok (tb_G D lim b B) tb_Ts tb_I ah_P ⟨"StepCode$Things", "clear", "()V"⟩ prog_9_method_5_code 1 none [] mt_70 :=
  ck_mok (hn := true) hE (fun _ => rfl) kf_70 (trivial) (List.forall_mem_cons.mpr ⟨ck_es_ok hE _ _ kb_70_0, fun _ h => absurd h List.not_mem_nil⟩)
-- StepCode$Told.<init>()V
theorem kb_71_0 : ck_es tb_E "StepCode$Told" "<init>" prog_10_method_1_code [] true mc_71_0 [[], [(1, 145), (1, 28), (1, 29)], [], [], [(1, 97)], [(1, 188)], [], [], [(1, 97)], [(1, 190)], [], [], [(1, 97)], [(1, 192)], [], [], [(1, 97)], [(1, 194)], [], [], [(1, 97)], [(1, 196)], [], []] = true := by decide +kernel
theorem kb_71_1 : ck_es tb_E "StepCode$Told" "<init>" prog_10_method_1_code [] true mc_71_1 [[(1, 97)], [(1, 198)], [], [], [(1, 97)], [(1, 200)], [], [], [(1, 187)], [(1, 201)], [], [], [(1, 187)], [(1, 203)], [], [], [(1, 146)], [(1, 205)], [], [], [], [], [(1, 205)], []] = true := by decide +kernel
theorem kb_71_2 : ck_es tb_E "StepCode$Told" "<init>" prog_10_method_1_code [] true mc_71_2 [[], [], [(1, 205)], [], [(1, 146), (1, 148), (1, 8)], [], [(999, 0), (1, 150), (3, 0)], [], [], [], []] = true := by decide +kernel
theorem kf_71 : ck_m ⟨"StepCode$Told", "<init>", "()V"⟩ 2 none mt_71 = true := by decide +kernel
theorem km_71 {D : ar_D} {lim : Nat × Nat} {b : Nat} {B : Heap} (hE : ck_env tb_E (tb_G D lim b B) tb_Ts tb_I ah_P) : am_mok (tb_G D lim b B) tb_Ts tb_I ah_P ⟨"StepCode$Told", "<init>", "()V"⟩ prog_10_method_1_code 2 none [] mt_71 :=
  ck_mok (hn := true) hE (fun _ => rfl) kf_71 (trivial) (List.forall_mem_cons.mpr ⟨ck_es_ok hE _ _ kb_71_0, List.forall_mem_cons.mpr ⟨ck_es_ok hE _ _ kb_71_1, List.forall_mem_cons.mpr ⟨ck_es_ok hE _ _ kb_71_2, fun _ h => absurd h List.not_mem_nil⟩⟩⟩)
-- StepCode$Told.has(I)Z
theorem kb_72_0 : ck_es tb_E "StepCode$Told" "has" prog_10_method_3_code [] true mc_72_0 [[], [], [], [], [(1, 206)], [], [], [], [], [], [], [], []] = true := by decide +kernel
theorem kf_72 : ck_m ⟨"StepCode$Told", "has", "(I)Z"⟩ 2 (some .boolean) mt_72 = true := by decide +kernel
theorem km_72 {D : ar_D} {lim : Nat × Nat} {b : Nat} {B : Heap} (hE : ck_env tb_E (tb_G D lim b B) tb_Ts tb_I ah_P) : am_mok (tb_G D lim b B) tb_Ts tb_I ah_P ⟨"StepCode$Told", "has", "(I)Z"⟩ prog_10_method_3_code 2 (some .boolean) [] mt_72 :=
  ck_mok (hn := true) hE (fun _ => rfl) kf_72 (trivial) (List.forall_mem_cons.mpr ⟨ck_es_ok hE _ _ kb_72_0, fun _ h => absurd h List.not_mem_nil⟩)
-- StepCode$Told.isAssign(I)Z
theorem kb_73_0 : ck_es tb_E "StepCode$Told" "isAssign" prog_10_method_4_code [] true mc_73_0 [[], [], [(5, 147), (5, 148), (5, 149)], [], [], [(1, 188)], [], [], [], [], [], [], []] = true := by decide +kernel
theorem kf_73 : ck_m ⟨"StepCode$Told", "isAssign", "(I)Z"⟩ 2 (some .boolean) mt_73 = true := by decide +kernel
theorem km_73 {D : ar_D} {lim : Nat × Nat} {b : Nat} {B : Heap} (hE : ck_env tb_E (tb_G D lim b B) tb_Ts tb_I ah_P) : am_mok (tb_G D lim b B) tb_Ts tb_I ah_P ⟨"StepCode$Told", "isAssign", "(I)Z"⟩ prog_10_method_4_code 2 (some .boolean) [] mt_73 :=
  ck_mok (hn := true) hE (fun _ => rfl) kf_73 (trivial) (List.forall_mem_cons.mpr ⟨ck_es_ok hE _ _ kb_73_0, fun _ h => absurd h List.not_mem_nil⟩)
-- StepCode$Told.placeOf(II)I
theorem kb_74_0 : ck_es tb_E "StepCode$Told" "placeOf" prog_10_method_9_code [] true mc_74_0 [[], [], [(5, 147), (5, 148), (5, 149)], [], [], [], [], [], [(1, 198)], [], [], [], [], [], [], [(1, 200)], [], [], [], [], [], [], [], []] = true := by decide +kernel
theorem kb_74_1 : ck_es tb_E "StepCode$Told" "placeOf" prog_10_method_9_code [] true mc_74_1 [[], [], [], [], [], []] = true := by decide +kernel
theorem kf_74 : ck_m ⟨"StepCode$Told", "placeOf", "(II)I"⟩ 4 (some .int) mt_74 = true := by decide +kernel
theorem km_74 {D : ar_D} {lim : Nat × Nat} {b : Nat} {B : Heap} (hE : ck_env tb_E (tb_G D lim b B) tb_Ts tb_I ah_P) : am_mok (tb_G D lim b B) tb_Ts tb_I ah_P ⟨"StepCode$Told", "placeOf", "(II)I"⟩ prog_10_method_9_code 4 (some .int) [] mt_74 :=
  ck_mok (hn := true) hE (fun _ => rfl) kf_74 (trivial) (List.forall_mem_cons.mpr ⟨ck_es_ok hE _ _ kb_74_0, List.forall_mem_cons.mpr ⟨ck_es_ok hE _ _ kb_74_1, fun _ h => absurd h List.not_mem_nil⟩⟩)
-- StepCode$Told.datumOf(II)LStepCode$Datum;
theorem kb_75_0 : ck_es tb_E "StepCode$Told" "datumOf" prog_10_method_10_code [] true mc_75_0 [[], [], [], [(6, 39), (6, 40), (6, 41)], [], [], [], [], [], [], [], [(1, 205)], [], [], []] = true := by decide +kernel
theorem kf_75 : ck_m ⟨"StepCode$Told", "datumOf", "(II)LStepCode$Datum;"⟩ 4 (some (.object "StepCode$Datum")) mt_75 = true := by decide +kernel
theorem km_75 {D : ar_D} {lim : Nat × Nat} {b : Nat} {B : Heap} (hE : ck_env tb_E (tb_G D lim b B) tb_Ts tb_I ah_P) : am_mok (tb_G D lim b B) tb_Ts tb_I ah_P ⟨"StepCode$Told", "datumOf", "(II)LStepCode$Datum;"⟩ prog_10_method_10_code 4 (some (.object "StepCode$Datum")) [] mt_75 :=
  ck_mok (hn := true) hE (fun _ => rfl) kf_75 (trivial) (List.forall_mem_cons.mpr ⟨ck_es_ok hE _ _ kb_75_0, fun _ h => absurd h List.not_mem_nil⟩)
