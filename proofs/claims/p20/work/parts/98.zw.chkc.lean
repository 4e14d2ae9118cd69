/-! TABLES of the abstract machine, by program (wip/tools/gen2.py) out of the claim's listing and words -/
-- StepCodeModel.rightOther(I)Z
theorem kb_59_0 : ck_es tb_E "StepCodeModel" "rightOther" prog_13_method_38_code [] true mc_59_0 [[], [(6, 78)], [], [], [], [], [], [], [(7, 89), (7, 91), (0, 57)], [], [], [], [], [(7, 89), (7, 91), (0, 57)], [], [], [(6, 76)], [], [], [], [], [], [], []] = true := by decide +kernel
theorem kb_59_1 : ck_es tb_E "StepCodeModel" "rightOther" prog_13_method_38_code [] true mc_59_1 [[], [], [], [], [], [], [], [(7, 97), (7, 99), (0, 59)], [(7, 82), (7, 83)], [], [], [], [(7, 97), (7, 99), (0, 59)], [], [], [], [(7, 97), (7, 99), (0, 59)], [], [], [], [], [], [], []] = true := by decide +kernel
theorem kb_59_2 : ck_es tb_E "StepCodeModel" "rightOther" prog_13_method_38_code [] true mc_59_2 [[], [], [], [(6, 77)], [], [], [], [], [], [(6, 77)], [], [], [(7, 140)], [], [], [], [(7, 97), (7, 99), (0, 59)], [(7, 82), (7, 83)], [], [], [], [], [], []] = true := by decide +kernel
theorem kb_59_3 : ck_es tb_E "StepCodeModel" "rightOther" prog_13_method_38_code [] true mc_59_3 [[], [], [], [], [(7, 97), (7, 99), (0, 59)], [], [], [], [(6, 78)], [], [], [], [], [], [(7, 128), (7, 130), (0, 66)], [], [], [], [], [], [], [(6, 79)], [], []] = true := by decide +kernel
theorem kb_59_4 : ck_es tb_E "StepCodeModel" "rightOther" prog_13_method_38_code [] true mc_59_4 [[], [], [], [], [], [], [], [(6, 76)], [], [], [], [], [], [(6, 76)], [], [], [], [], [], [(6, 76)], [], [], [], []] = true := by decide +kernel
theorem kb_59_5 : ck_es tb_E "StepCodeModel" "rightOther" prog_13_method_38_code [] true mc_59_5 [[], [(6, 76)], [], [], [], [], [], [], [], [], [], [(6, 80)], [], [], [], [], [], [], [], [(6, 76)], [], [], [], []] = true := by decide +kernel
theorem kb_59_6 : ck_es tb_E "StepCodeModel" "rightOther" prog_13_method_38_code [] true mc_59_6 [[], [], [], []] = true := by decide +kernel
theorem kf_59 : ck_m ⟨"StepCodeModel", "rightOther", "(I)Z"⟩ 7 (some .boolean) mt_59 = true := by decide +kernel
theorem km_59 {D : ar_D} {lim : Nat × Nat} {b : Nat} {B : Heap} (hE : ck_env tb_E (tb_G D lim b B) tb_Ts tb_I ah_P) : am_mok (tb_G D lim b B) tb_Ts tb_I ah_P ⟨"StepCodeModel", "rightOther", "(I)Z"⟩ prog_13_method_38_code 7 (some .boolean) [] mt_59 :=
  ck_mok (hn := true) hE (fun _ => rfl) kf_59 (trivial) (List.forall_mem_cons.mpr ⟨ck_es_ok hE _ _ kb_59_0, List.forall_mem_cons.mpr ⟨ck_es_ok hE _ _ kb_59_1, List.forall_mem_cons.mpr ⟨ck_es_ok hE _ _ kb_59_2, List.forall_mem_cons.mpr ⟨ck_es_ok hE _ _ kb_59_3, List.forall_mem_cons.mpr ⟨ck_es_ok hE _ _ kb_59_4, List.forall_mem_cons.mpr ⟨ck_es_ok hE _ _ kb_59_5, List.forall_mem_cons.mpr ⟨ck_es_ok hE _ _ kb_59_6, fun _ h => absurd h List.not_mem_nil⟩⟩⟩⟩⟩⟩⟩)
-- StepCodeModel.process()I
theorem kb_60_0 : ck_es tb_E "StepCodeModel" "process" prog_13_method_39_code [] true mc_60_0 [[], [], [(6, 87)], [], [], [], [(6, 86)], [], [(6, 83)], [], [], [], [], [], [], [(6, 64)], [], [(6, 64)], [], [], [], [], [], []] = true := by decide +kernel
theorem kb_60_1 : ck_es tb_E "StepCodeModel" "process" prog_13_method_39_code [] true mc_60_1 [[], [(6, 83)], [], [], [], [(7, 74), (7, 76), (0, 54)], [], [], [], [], [], [(6, 83)], [], [], [], [], [], [], [(6, 85)], [], [], [], [], [(6, 84)]] = true := by decide +kernel
theorem kb_60_2 : ck_es tb_E "StepCodeModel" "process" prog_13_method_39_code [] true mc_60_2 [[], [], [(7, 128), (7, 130), (0, 66)], [], [], [(6, 83)], [], [], [], [], [(6, 83)], [], [], [], [(6, 87)], [], [], [], [], [(7, 141), (7, 143), (0, 69)], [], [], [(6, 83)], []] = true := by decide +kernel
theorem kb_60_3 : ck_es tb_E "StepCodeModel" "process" prog_13_method_39_code [] true mc_60_3 [[], [(6, 85)], [], [], [(6, 73)], [], []] = true := by decide +kernel
theorem kf_60 : ck_m ⟨"StepCodeModel", "process", "()I"⟩ 3 (some .int) mt_60 = true := by decide +kernel
theorem km_60 {D : ar_D} {lim : Nat × Nat} {b : Nat} {B : Heap} (hE : ck_env tb_E (tb_G D lim b B) tb_Ts tb_I ah_P) : am_mok (tb_G D lim b B) tb_Ts tb_I ah_P ⟨"StepCodeModel", "process", "()I"⟩ prog_13_method_39_code 3 (some .int) [] mt_60 :=
  ck_mok (hn := true) hE (fun _ => rfl) kf_60 (trivial) (List.forall_mem_cons.mpr ⟨ck_es_ok hE _ _ kb_60_0, List.forall_mem_cons.mpr ⟨ck_es_ok hE _ _ kb_60_1, List.forall_mem_cons.mpr ⟨ck_es_ok hE _ _ kb_60_2, List.forall_mem_cons.mpr ⟨ck_es_ok hE _ _ kb_60_3, fun _ h => absurd h List.not_mem_nil⟩⟩⟩⟩)
-- StepCodeModel.keep()V
theorem kb_61_0 : ck_es tb_E "StepCodeModel" "keep" prog_13_method_40_code [] true mc_61_0 [[], [], [(6, 86)], [], [], [], [], [], [], [(6, 83)], [], [], [(6, 76)], [], [], [], [], [(6, 76)], [], [], [], [], [(6, 77)], []] = true := by decide +kernel
theorem kb_61_1 : ck_es tb_E "StepCodeModel" "keep" prog_13_method_40_code [] true mc_61_1 [[], [], [], [(6, 77)], [], [], [], [], [(6, 78)], [], [], [], [], [(6, 78)], [], [], [], [], [(6, 79)], [], [], [], [], [(6, 79)]] = true := by decide +kernel
theorem kb_61_2 : ck_es tb_E "StepCodeModel" "keep" prog_13_method_40_code [] true mc_61_2 [[], [], [], [], [], [], [], [], [(6, 79)], [], [], [], [], [], [(6, 80)], [], [], [], [], [(6, 80)], [], [], [], []] = true := by decide +kernel
theorem kb_61_3 : ck_es tb_E "StepCodeModel" "keep" prog_13_method_40_code [] true mc_61_3 [[], [], [], [], [(6, 80)], [], [], [], [], [], [], [], [(6, 88)], [], [(6, 87)], [], [], [], [(6, 89)], [], [(6, 87)], [], [], [(6, 83)]] = true := by decide +kernel
theorem kb_61_4 : ck_es tb_E "StepCodeModel" "keep" prog_13_method_40_code [] true mc_61_4 [[], [], [], [], [], [(6, 90)], [], [(6, 87)], [], [(6, 72)], [], [], [(6, 91)], [], [(6, 87)], [], [(6, 73)], [], [], [], [], [], [(6, 73)], []] = true := by decide +kernel
theorem kb_61_5 : ck_es tb_E "StepCodeModel" "keep" prog_13_method_40_code [] true mc_61_5 [[], [], [], [(6, 72)], [], [], [], [], [(6, 65)], [], [], [], [], [], [(6, 67)], [], [], [], [], [], [(6, 68)], [], [], []] = true := by decide +kernel
theorem kb_61_6 : ck_es tb_E "StepCodeModel" "keep" prog_13_method_40_code [] true mc_61_6 [[], [(7, 6), (7, 8), (0, 45)], [], [], [], [], [(6, 72)], [], [(6, 73)], [], [(6, 72)], [], [(6, 92)], [], [(6, 87)], [], [], [], [(6, 93)], [], [(6, 87)], [], [], []] = true := by decide +kernel
theorem kb_61_7 : ck_es tb_E "StepCodeModel" "keep" prog_13_method_40_code [] true mc_61_7 [[(6, 94)], [], [(6, 87)], [], [], [], [(6, 95)], [], [(6, 87)], [], [], [], [(6, 98)], [], [(6, 87)], [], [], [], [], [(6, 86)], [], [(6, 83)], [], [(6, 86)]] = true := by decide +kernel
theorem kb_61_8 : ck_es tb_E "StepCodeModel" "keep" prog_13_method_40_code [] true mc_61_8 [[], [], [(6, 87)], [], [], [(6, 87)], []] = true := by decide +kernel
theorem kf_61 : ck_m ⟨"StepCodeModel", "keep", "()V"⟩ 3 none mt_61 = true := by decide +kernel
theorem km_61 {D : ar_D} {lim : Nat × Nat} {b : Nat} {B : Heap} (hE : ck_env tb_E (tb_G D lim b B) tb_Ts tb_I ah_P) : am_mok (tb_G D lim b B) tb_Ts tb_I ah_P ⟨"StepCodeModel", "keep", "()V"⟩ prog_13_method_40_code 3 none [] mt_61 :=
  ck_mok (hn := true) hE (fun _ => rfl) kf_61 (trivial) (List.forall_mem_cons.mpr ⟨ck_es_ok hE _ _ kb_61_0, List.forall_mem_cons.mpr ⟨ck_es_ok hE _ _ kb_61_1, List.forall_mem_cons.mpr ⟨ck_es_ok hE _ _ kb_61_2, List.forall_mem_cons.mpr ⟨ck_es_ok hE _ _ kb_61_3, List.forall_mem_cons.mpr ⟨ck_es_ok hE _ _ kb_61_4, List.forall_mem_cons.mpr ⟨ck_es_ok hE _ _ kb_61_5, List.forall_mem_cons.mpr ⟨ck_es_ok hE _ _ kb_61_6, List.forall_mem_cons.mpr ⟨ck_es_ok hE _ _ kb_61_7, List.forall_mem_cons.mpr ⟨ck_es_ok hE _ _ kb_61_8, fun _ h => absurd h List.not_mem_nil⟩⟩⟩⟩⟩⟩⟩⟩⟩)
-- StepCodeModel.processes()I
theorem kb_62_0 : ck_es tb_E "StepCodeModel" "processes" prog_13_method_41_code [] true mc_62_0 [[], [], [(6, 64)], [], [(6, 87)], []] = true := by decide +kernel
theorem kf_62 : ck_m ⟨"StepCodeModel", "processes", "()I"⟩ 1 (some .int) mt_62 = true := by decide +kernel
theorem km_62 {D : ar_D} {lim : Nat × Nat} {b : Nat} {B : Heap} (hE : ck_env tb_E (tb_G D lim b B) tb_Ts tb_I ah_P) : am_mok (tb_G D lim b B) tb_Ts tb_I ah_P ⟨"StepCodeModel", "processes", "()I"⟩ prog_13_method_41_code 1 (some .int) [] mt_62 :=
  ck_mok (hn := true) hE (fun _ => rfl) kf_62 (trivial) (List.forall_mem_cons.mpr ⟨ck_es_ok hE _ _ kb_62_0, fun _ h => absurd h List.not_mem_nil⟩)
-- StepCodeModel.fail(II)Z
theorem kb_63_0 : ck_es tb_E "StepCodeModel" "fail" prog_13_method_42_code [] true mc_63_0 [[], [], [(6, 105)], [], [], [(6, 106)], [], []] = true := by decide +kernel
theorem kf_63 : ck_m ⟨"StepCodeModel", "fail", "(II)Z"⟩ 3 (some .boolean) mt_63 = true := by decide +kernel
theorem km_63 {D : ar_D} {lim : Nat × Nat} {b : Nat} {B : Heap} (hE : ck_env tb_E (tb_G D lim b B) tb_Ts tb_I ah_P) : am_mok (tb_G D lim b B) tb_Ts tb_I ah_P ⟨"StepCodeModel", "fail", "(II)Z"⟩ prog_13_method_42_code 3 (some .boolean) [] mt_63 :=
  ck_mok (hn := true) hE (fun _ => rfl) kf_63 (trivial) (List.forall_mem_cons.mpr ⟨ck_es_ok hE _ _ kb_63_0, fun _ h => absurd h List.not_mem_nil⟩)
-- StepCodeModel.numeral(IJ)Z
theorem kb_64_0 : ck_es tb_E "StepCodeModel" "numeral" prog_13_method_43_code [] true mc_64_0 [[], [(6, 65)], [], [], [], [], [(6, 66)], [], [], [], [], [(6, 69)], [], [], [], [], []] = true := by decide +kernel
theorem kf_64 : ck_m ⟨"StepCodeModel", "numeral", "(IJ)Z"⟩ 4 (some .boolean) mt_64 = true := by decide +kernel
theorem km_64 {D : ar_D} {lim : Nat × Nat} {b : Nat} {B : Heap} (hE : ck_env tb_E (tb_G D lim b B) tb_Ts tb_I ah_P) : am_mok (tb_G D lim b B) tb_Ts tb_I ah_P ⟨"StepCodeModel", "numeral", "(IJ)Z"⟩ prog_13_method_43_code 4 (some .boolean) [] mt_64 :=
  ck_mok (hn := true) hE (fun _ => rfl) kf_64 (trivial) (List.forall_mem_cons.mpr ⟨ck_es_ok hE _ _ kb_64_0, fun _ h => absurd h List.not_mem_nil⟩)
-- StepCodeModel.truth(IZ)Z
theorem kb_65_0 : ck_es tb_E "StepCodeModel" "truth" prog_13_method_44_code [] true mc_65_0 [[], [], [], [], [], [], [], [(7, 190), (7, 192), (0, 79)], []] = true := by decide +kernel
theorem kf_65 : ck_m ⟨"StepCodeModel", "truth", "(IZ)Z"⟩ 3 (some .boolean) mt_65 = true := by decide +kernel
theorem km_65 {D : ar_D} {lim : Nat × Nat} {b : Nat} {B : Heap} (hE : ck_env tb_E (tb_G D lim b B) tb_Ts tb_I ah_P) : am_mok (tb_G D lim b B) tb_Ts tb_I ah_P ⟨"StepCodeModel", "truth", "(IZ)Z"⟩ prog_13_method_44_code 3 (some .boolean) [] mt_65 :=
  ck_mok (hn := true) hE (fun _ => rfl) kf_65 (trivial) (List.forall_mem_cons.mpr ⟨ck_es_ok hE _ _ kb_65_0, fun _ h => absurd h List.not_mem_nil⟩)
-- StepCodeModel.row(II)V
theorem kb_66_0 : ck_es tb_E "StepCodeModel" "row" prog_13_method_45_code [] true mc_66_0 [[], [(6, 65)], [], [], [], [], [(6, 66)], [], [], [], [], [], [(6, 69)], [], [], [], []] = true := by decide +kernel
theorem kf_66 : ck_m ⟨"StepCodeModel", "row", "(II)V"⟩ 3 none mt_66 = true := by decide +kernel
theorem km_66 {D : ar_D} {lim : Nat × Nat} {b : Nat} {B : Heap} (hE : ck_env tb_E (tb_G D lim b B) tb_Ts tb_I ah_P) : am_mok (tb_G D lim b B) tb_Ts tb_I ah_P ⟨"StepCodeModel", "row", "(II)V"⟩ prog_13_method_45_code 3 none [] mt_66 :=
  ck_mok (hn := true) hE (fun _ => rfl) kf_66 (trivial) (List.forall_mem_cons.mpr ⟨ck_es_ok hE _ _ kb_66_0, fun _ h => absurd h List.not_mem_nil⟩)
-- StepCodeModel.logic(II)Z
theorem kb_67_0 : ck_es tb_E "StepCodeModel" "logic" prog_13_method_46_code [] true mc_67_0 [[], [(6, 65)], [], [], [], [], [(6, 66)], [], [], [], [], [(6, 69)], [], [], [], [], [], []] = true := by decide +kernel
theorem kf_67 : ck_m ⟨"StepCodeModel", "logic", "(II)Z"⟩ 3 (some .boolean) mt_67 = true := by decide +kernel
theorem km_67 {D : ar_D} {lim : Nat × Nat} {b : Nat} {B : Heap} (hE : ck_env tb_E (tb_G D lim b B) tb_Ts tb_I ah_P) : am_mok (tb_G D lim b B) tb_Ts tb_I ah_P ⟨"StepCodeModel", "logic", "(II)Z"⟩ prog_13_method_46_code 3 (some .boolean) [] mt_67 :=
  ck_mok (hn := true) hE (fun _ => rfl) kf_67 (trivial) (List.forall_mem_cons.mpr ⟨ck_es_ok hE _ _ kb_67_0, fun _ h => absurd h List.not_mem_nil⟩)
-- StepCodeModel.isLow(I)Z
theorem kb_68_0 : ck_es tb_E "StepCodeModel" "isLow" prog_13_method_47_code [] true mc_68_0 [[], [], [], [], [], [], [], [], [], []] = true := by decide +kernel
theorem kf_68 : ck_m ⟨"StepCodeModel", "isLow", "(I)Z"⟩ 1 (some .boolean) mt_68 = true := by decide +kernel
theorem km_68 {D : ar_D} {lim : Nat × Nat} {b : Nat} {B : Heap} (hE : ck_env tb_E (tb_G D lim b B) tb_Ts tb_I ah_P) : am_mok (tb_G D lim b B) tb_Ts tb_I ah_P ⟨"StepCodeModel", "isLow", "(I)Z"⟩ prog_13_method_47_code 1 (some .boolean) [] mt_68 :=
  ck_mok (hn := true) hE (fun _ => rfl) kf_68 (trivial) (List.forall_mem_cons.mpr ⟨ck_es_ok hE _ _ kb_68_0, fun _ h => absurd h List.not_mem_nil⟩)
-- StepCodeModel.isHigh(I)Z
theorem kb_69_0 : ck_es tb_E "StepCodeModel" "isHigh" prog_13_method_48_code [] true mc_69_0 [[], [], [], [], [], [], [], [], [], []] = true := by decide +kernel
theorem kf_69 : ck_m ⟨"StepCodeModel", "isHigh", "(I)Z"⟩ 1 (some .boolean) mt_69 = true := by decide +kernel
theorem km_69 {D : ar_D} {lim : Nat × Nat} {b : Nat} {B : Heap} (hE : ck_env tb_E (tb_G D lim b B) tb_Ts tb_I ah_P) : am_mok (tb_G D lim b B) tb_Ts tb_I ah_P ⟨"StepCodeModel", "isHigh", "(I)Z"⟩ prog_13_method_48_code 1 (some .boolean) [] mt_69 :=
  ck_mok (hn := true) hE (fun _ => rfl) kf_69 (trivial) (List.forall_mem_cons.mpr ⟨ck_es_ok hE _ _ kb_69_0, fun _ h => absurd h List.not_mem_nil⟩)
-- StepCodeModel.not(I)I
theorem kb_70_0 : ck_es tb_E "StepCodeModel" "not" prog_13_method_49_code [] true mc_70_0 [[], [], [], [], [], [(7, 217), (7, 218)], [], [], [], [], [(7, 220), (7, 221)], [], [], [], [], []] = true := by decide +kernel
theorem kf_70 : ck_m ⟨"StepCodeModel", "not", "(I)I"⟩ 1 (some .int) mt_70 = true := by decide +kernel
theorem km_70 {D : ar_D} {lim : Nat × Nat} {b : Nat} {B : Heap} (hE : ck_env tb_E (tb_G D lim b B) tb_Ts tb_I ah_P) : am_mok (tb_G D lim b B) tb_Ts tb_I ah_P ⟨"StepCodeModel", "not", "(I)I"⟩ prog_13_method_49_code 1 (some .int) [] mt_70 :=
  ck_mok (hn := true) hE (fun _ => rfl) kf_70 (trivial) (List.forall_mem_cons.mpr ⟨ck_es_ok hE _ _ kb_70_0, fun _ h => absurd h List.not_mem_nil⟩)
-- StepCodeModel.clear(I)Z
theorem kb_71_0 : ck_es tb_E "StepCodeModel" "clear" prog_13_method_50_code [] true mc_71_0 [[], [], [], [], [], [], [(6, 66)], [], [], [], [], [], [], [], [], [(7, 46), (7, 48), (0, 51)], [(7, 217), (7, 218)], [], [], [], [], [(7, 46), (7, 48), (0, 51)], [(7, 220), (7, 221)], []] = true := by decide +kernel
theorem kb_71_1 : ck_es tb_E "StepCodeModel" "clear" prog_13_method_50_code [] true mc_71_1 [[], [], [], [], [], [], [], []] = true := by decide +kernel
theorem kf_71 : ck_m ⟨"StepCodeModel", "clear", "(I)Z"⟩ 4 (some .boolean) mt_71 = true := by decide +kernel
theorem km_71 {D : ar_D} {lim : Nat × Nat} {b : Nat} {B : Heap} (hE : ck_env tb_E (tb_G D lim b B) tb_Ts tb_I ah_P) : am_mok (tb_G D lim b B) tb_Ts tb_I ah_P ⟨"StepCodeModel", "clear", "(I)Z"⟩ prog_13_method_50_code 4 (some .boolean) [] mt_71 :=
  ck_mok (hn := true) hE (fun _ => rfl) kf_71 (trivial) (List.forall_mem_cons.mpr ⟨ck_es_ok hE _ _ kb_71_0, List.forall_mem_cons.mpr ⟨ck_es_ok hE _ _ kb_71_1, fun _ h => absurd h List.not_mem_nil⟩⟩)
-- StepCodeModel.numberOf(I)J
theorem kb_72_0 : ck_es tb_E "StepCodeModel" "numberOf" prog_13_method_51_code [] true mc_72_0 [[], [], [], [(6, 66)], [], [], [], [], [], [], [], [(8, 20)], [], [], [], [], [], [(7, 46), (7, 48), (0, 51)], [(7, 220), (7, 221)], [], [], [], [], []] = true := by decide +kernel
theorem kb_72_1 : ck_es tb_E "StepCodeModel" "numberOf" prog_13_method_51_code [] true mc_72_1 [[], [], [], [], []] = true := by decide +kernel
theorem kf_72 : ck_m ⟨"StepCodeModel", "numberOf", "(I)J"⟩ 5 (some .long) mt_72 = true := by decide +kernel
theorem km_72 {D : ar_D} {lim : Nat × Nat} {b : Nat} {B : Heap} (hE : ck_env tb_E (tb_G D lim b B) tb_Ts tb_I ah_P) : am_mok (tb_G D lim b B) tb_Ts tb_I ah_P ⟨"StepCodeModel", "numberOf", "(I)J"⟩ prog_13_method_51_code 5 (some .long) [] mt_72 :=
  ck_mok (hn := true) hE (fun _ => rfl) kf_72 (trivial) (List.forall_mem_cons.mpr ⟨ck_es_ok hE _ _ kb_72_0, List.forall_mem_cons.mpr ⟨ck_es_ok hE _ _ kb_72_1, fun _ h => absurd h List.not_mem_nil⟩⟩)
-- StepCodeModel.bits(IJ)V
theorem kb_73_0 : ck_es tb_E "StepCodeModel" "bits" prog_13_method_52_code [] true mc_73_0 [[], [], [], [], [(6, 66)], [], [], [], [], [], [], [], [], [], [], [], [], [], [], [], [], [], [(7, 10), (7, 12), (0, 46)], []] = true := by decide +kernel
theorem kb_73_1 : ck_es tb_E "StepCodeModel" "bits" prog_13_method_52_code [] true mc_73_1 [[], []] = true := by decide +kernel
theorem kf_73 : ck_m ⟨"StepCodeModel", "bits", "(IJ)V"⟩ 5 none mt_73 = true := by decide +kernel
theorem km_73 {D : ar_D} {lim : Nat × Nat} {b : Nat} {B : Heap} (hE : ck_env tb_E (tb_G D lim b B) tb_Ts tb_I ah_P) : am_mok (tb_G D lim b B) tb_Ts tb_I ah_P ⟨"StepCodeModel", "bits", "(IJ)V"⟩ prog_13_method_52_code 5 none [] mt_73 :=
  ck_mok (hn := true) hE (fun _ => rfl) kf_73 (trivial) (List.forall_mem_cons.mpr ⟨ck_es_ok hE _ _ kb_73_0, List.forall_mem_cons.mpr ⟨ck_es_ok hE _ _ kb_73_1, fun _ h => absurd h List.not_mem_nil⟩⟩)
-- StepCodeModel.where(I)I
theorem kb_74_0 : ck_es tb_E "StepCodeModel" "where" prog_13_method_53_code [] true mc_74_0 [[], [(6, 76)], [], [], [], [], [], [(6, 77)], [], [], [], [], [], [(6, 90)], [], [(6, 103)], [], [], [], [(6, 77)], [], [], [], []] = true := by decide +kernel
theorem kf_74 : ck_m ⟨"StepCodeModel", "where", "(I)I"⟩ 2 (some .int) mt_74 = true := by decide +kernel
theorem km_74 {D : ar_D} {lim : Nat × Nat} {b : Nat} {B : Heap} (hE : ck_env tb_E (tb_G D lim b B) tb_Ts tb_I ah_P) : am_mok (tb_G D lim b B) tb_Ts tb_I ah_P ⟨"StepCodeModel", "where", "(I)I"⟩ prog_13_method_53_code 2 (some .int) [] mt_74 :=
  ck_mok (hn := true) hE (fun _ => rfl) kf_74 (trivial) (List.forall_mem_cons.mpr ⟨ck_es_ok hE _ _ kb_74_0, fun _ h => absurd h List.not_mem_nil⟩)
-- StepCodeModel.find(II)Z
theorem kb_75_0 : ck_es tb_E "StepCodeModel" "find" prog_13_method_54_code [] true mc_75_0 [[], [(6, 79)], [], [], [], [], [(6, 77)], [], [], [], [], [(6, 76)], [], [], [], [], [], [], [], [(7, 190), (7, 192), (0, 79)], [], [], [], []] = true := by decide +kernel
theorem kb_75_1 : ck_es tb_E "StepCodeModel" "find" prog_13_method_54_code [] true mc_75_1 [[(7, 194), (7, 196), (0, 80)], [], [], [], [], [(6, 78)], [], [], [(7, 198), (7, 200), (0, 81)], [], [], [], [(6, 78)], [], [], [], [], [], [], [], [], [], [], []] = true := by decide +kernel
theorem kb_75_2 : ck_es tb_E "StepCodeModel" "find" prog_13_method_54_code [] true mc_75_2 [[], [(6, 77)], [], [], [(7, 10), (7, 12), (0, 46)], [], [(6, 80)], [], [], [], [], [], [], [], [], [], [], [(7, 174), (7, 176), (0, 75)], [], [(7, 202), (7, 204), (0, 82)], [], [], [], []] = true := by decide +kernel
theorem kb_75_3 : ck_es tb_E "StepCodeModel" "find" prog_13_method_54_code [] true mc_75_3 [[], [(7, 186), (7, 188), (0, 78)], [], [], [], [], [], [(7, 206), (7, 208), (0, 83)], [], [], [], [], [], [], [], [], [(7, 186), (7, 188), (0, 78)], [], [], [], [(6, 80)], [], [], []] = true := by decide +kernel
theorem kb_75_4 : ck_es tb_E "StepCodeModel" "find" prog_13_method_54_code [] true mc_75_4 [[], [], [(7, 186), (7, 188), (0, 78)], [], [], [], [], [], [(7, 223), (7, 225), (0, 85)], [], [], [], [], [], [], [], [], [(7, 186), (7, 188), (0, 78)], [], [], [], [(6, 80)], [], []] = true := by decide +kernel
theorem kb_75_5 : ck_es tb_E "StepCodeModel" "find" prog_13_method_54_code [] true mc_75_5 [[], [], [], [(7, 186), (7, 188), (0, 78)], [], [], [], [], [(8, 37), (8, 39), (0, 97)], [], [], [], [], [], [], [], [], [(7, 174), (7, 176), (0, 75)], [], [(7, 202), (7, 204), (0, 82)], [], [(6, 77)], [], [(6, 80)]] = true := by decide +kernel
theorem kb_75_6 : ck_es tb_E "StepCodeModel" "find" prog_13_method_54_code [] true mc_75_6 [[], [], [], [], [], [(6, 77)], [], [(6, 80)], [], [(6, 80)], [], [], [], [], [], [], [], [], [(7, 198), (7, 200), (0, 81)], [], [], [], [], []] = true := by decide +kernel
theorem kb_75_7 : ck_es tb_E "StepCodeModel" "find" prog_13_method_54_code [] true mc_75_7 [[], [], [], [], [], [], [(7, 174), (7, 176), (0, 75)], [], [], [], [(7, 46), (7, 48), (0, 51)], [(7, 10), (7, 12), (0, 46)], [], [], [], [], [], [], [], [], [], [(8, 41), (8, 43), (0, 98)], [], []] = true := by decide +kernel
theorem kb_75_8 : ck_es tb_E "StepCodeModel" "find" prog_13_method_54_code [] true mc_75_8 [[(6, 77)], [], [], [], [], [], [], [], [], [], [], [], [], [(6, 74)], [], [], [], [], [(6, 75)], [], [], [(7, 210), (7, 212), (0, 84)], [], []] = true := by decide +kernel
theorem kb_75_9 : ck_es tb_E "StepCodeModel" "find" prog_13_method_54_code [] true mc_75_9 [[], [], [], [], [(7, 202), (7, 204), (0, 82)], [], []] = true := by decide +kernel
theorem kf_75 : ck_m ⟨"StepCodeModel", "find", "(II)Z"⟩ 8 (some .boolean) mt_75 = true := by decide +kernel
theorem km_75 {D : ar_D} {lim : Nat × Nat} {b : Nat} {B : Heap} (hE : ck_env tb_E (tb_G D lim b B) tb_Ts tb_I ah_P) : am_mok (tb_G D lim b B) tb_Ts tb_I ah_P ⟨"StepCodeModel", "find", "(II)Z"⟩ prog_13_method_54_code 8 (some .boolean) [] mt_75 :=
  ck_mok (hn := true) hE (fun _ => rfl) kf_75 (trivial) (List.forall_mem_cons.mpr ⟨ck_es_ok hE _ _ kb_75_0, List.forall_mem_cons.mpr ⟨ck_es_ok hE _ _ kb_75_1, List.forall_mem_cons.mpr ⟨ck_es_ok hE _ _ kb_75_2, List.forall_mem_cons.mpr ⟨ck_es_ok hE _ _ kb_75_3, List.forall_mem_cons.mpr ⟨ck_es_ok hE _ _ kb_75_4, List.forall_mem_cons.mpr ⟨ck_es_ok hE _ _ kb_75_5, List.forall_mem_cons.mpr ⟨ck_es_ok hE _ _ kb_75_6, List.forall_mem_cons.mpr ⟨ck_es_ok hE _ _ kb_75_7, List.forall_mem_cons.mpr ⟨ck_es_ok hE _ _ kb_75_8, List.forall_mem_cons.mpr ⟨ck_es_ok hE _ _ kb_75_9, fun _ h => absurd h List.not_mem_nil⟩⟩⟩⟩⟩⟩⟩⟩⟩⟩)
-- StepCodeModel.findElement(II)Z
theorem kb_76_0 : ck_es tb_E "StepCodeModel" "findElement" prog_13_method_55_code [] true mc_76_0 [[], [(6, 65)], [], [], [], [], [], [], [], [], [], [(7, 178), (7, 180), (0, 76)], [], [], [(6, 69)], [], [], [], [], [], [], [], [], [(6, 69)]] = true := by decide +kernel
theorem kb_76_1 : ck_es tb_E "StepCodeModel" "findElement" prog_13_method_55_code [] true mc_76_1 [[], [], [], [], [], [(6, 66)], [], [], [], [], [], [], [], [], [(7, 178), (7, 180), (0, 76)], [], [], [], [], [], [], [(6, 69)], [], []] = true := by decide +kernel
theorem kb_76_2 : ck_es tb_E "StepCodeModel" "findElement" prog_13_method_55_code [] true mc_76_2 [[], [], [], [(7, 46), (7, 48), (0, 51)], [(7, 194), (7, 196), (0, 80)], []] = true := by decide +kernel
theorem kf_76 : ck_m ⟨"StepCodeModel", "findElement", "(II)Z"⟩ 3 (some .boolean) mt_76 = true := by decide +kernel
theorem km_76 {D : ar_D} {lim : Nat × Nat} {b : Nat} {B : Heap} (hE : ck_env tb_E (tb_G D lim b B) tb_Ts tb_I ah_P) : am_mok (tb_G D lim b B) tb_Ts tb_I ah_P ⟨"StepCodeModel", "findElement", "(II)Z"⟩ prog_13_method_55_code 3 (some .boolean) [] mt_76 :=
  ck_mok (hn := true) hE (fun _ => rfl) kf_76 (trivial) (List.forall_mem_cons.mpr ⟨ck_es_ok hE _ _ kb_76_0, List.forall_mem_cons.mpr ⟨ck_es_ok hE _ _ kb_76_1, List.forall_mem_cons.mpr ⟨ck_es_ok hE _ _ kb_76_2, fun _ h => absurd h List.not_mem_nil⟩⟩⟩)
-- StepCodeModel.function(IIII)Z
theorem kb_77_0 : ck_es tb_E "StepCodeModel" "function" prog_13_method_56_code [] true mc_77_0 [[], [], [], [], [(6, 77)], [], [], [], [], [(6, 69)], [], [], [], [], [], [(6, 69)], [], [], [], [], [], [], [], []] = true := by decide +kernel
theorem kb_77_1 : ck_es tb_E "StepCodeModel" "function" prog_13_method_56_code [] true mc_77_1 [[], [(6, 74)], [], [], [], [], [], [], [], [(7, 220), (7, 221)], [], [], [(7, 217), (7, 218)], [], [], [], [(7, 217), (7, 218)], [], [], [(7, 220), (7, 221)], [], [], [], []] = true := by decide +kernel
theorem kb_77_2 : ck_es tb_E "StepCodeModel" "function" prog_13_method_56_code [] true mc_77_2 [[(7, 210), (7, 212), (0, 84)], [], [], [], [], [(7, 186), (7, 188), (0, 78)], [], [], [], [], [], [], [], [(6, 65)], [], [], [], [], [], [], [], [(7, 178), (7, 180), (0, 76)], [], []] = true := by decide +kernel
theorem kb_77_3 : ck_es tb_E "StepCodeModel" "function" prog_13_method_56_code [] true mc_77_3 [[], [(8, 16), (8, 18), (0, 92)], [], [], [], [(8, 2), (8, 4), (0, 89)], [], [], [], [], [], [], [(8, 14)], [], [], [], [], [], [(7, 190), (7, 192), (0, 79)], [], [], [], [], [(7, 178), (7, 180), (0, 76)]] = true := by decide +kernel
theorem kb_77_4 : ck_es tb_E "StepCodeModel" "function" prog_13_method_56_code [] true mc_77_4 [[], [], [(6, 65)], [], [], [], [], [], [], [], [(7, 178), (7, 180), (0, 76)], [], [], [(6, 69)], [], [], [], [], [], [], [(6, 77)], [], [(6, 80)], []] = true := by decide +kernel
theorem kb_77_5 : ck_es tb_E "StepCodeModel" "function" prog_13_method_56_code [] true mc_77_5 [[], [], [(7, 198), (7, 200), (0, 81)], [], [], [], [(8, 21), (8, 23), (0, 93)], [], []] = true := by decide +kernel
theorem kf_77 : ck_m ⟨"StepCodeModel", "function", "(IIII)Z"⟩ 8 (some .boolean) mt_77 = true := by decide +kernel
theorem km_77 {D : ar_D} {lim : Nat × Nat} {b : Nat} {B : Heap} (hE : ck_env tb_E (tb_G D lim b B) tb_Ts tb_I ah_P) : am_mok (tb_G D lim b B) tb_Ts tb_I ah_P ⟨"StepCodeModel", "function", "(IIII)Z"⟩ prog_13_method_56_code 8 (some .boolean) [] mt_77 :=
  ck_mok (hn := true) hE (fun _ => rfl) kf_77 (trivial) (List.forall_mem_cons.mpr ⟨ck_es_ok hE _ _ kb_77_0, List.forall_mem_cons.mpr ⟨ck_es_ok hE _ _ kb_77_1, List.forall_mem_cons.mpr ⟨ck_es_ok hE _ _ kb_77_2, List.forall_mem_cons.mpr ⟨ck_es_ok hE _ _ kb_77_3, List.forall_mem_cons.mpr ⟨ck_es_ok hE _ _ kb_77_4, List.forall_mem_cons.mpr ⟨ck_es_ok hE _ _ kb_77_5, fun _ h => absurd h List.not_mem_nil⟩⟩⟩⟩⟩⟩)
-- StepCodeModel.one(III)Z
theorem kb_78_0 : ck_es tb_E "StepCodeModel" "one" prog_13_method_57_code [] true mc_78_0 [[], [], [], [(6, 69)], [], [], [], [], [], [], [], [], [(6, 69)], [], [], [], [], [], [], [(6, 69)], [], [], [], []] = true := by decide +kernel
theorem kb_78_1 : ck_es tb_E "StepCodeModel" "one" prog_13_method_57_code [] true mc_78_1 [[], [(6, 69)], [], [], [], [], [(6, 65)], [], [], [], [], [], [], [], [(7, 178), (7, 180), (0, 76)], [], [], [], [], [], [], [(6, 65)], [], []] = true := by decide +kernel
theorem kb_78_2 : ck_es tb_E "StepCodeModel" "one" prog_13_method_57_code [] true mc_78_2 [[], [], [], [], [], [(6, 69)], [], [], [], [], [], [], [], [], [(7, 210), (7, 212), (0, 84)], [], [], [(6, 65)], [], [], [], [], [], []] = true := by decide +kernel
theorem kb_78_3 : ck_es tb_E "StepCodeModel" "one" prog_13_method_57_code [] true mc_78_3 [[(6, 69)], [], [], [], [(7, 214), (7, 215)], [(7, 194), (7, 196), (0, 80)], [], [], [], [], [], [(6, 66)], [], [], [], [], [], [], [], [], [], [(7, 46), (7, 48), (0, 51)], [(7, 214), (7, 215)], [(7, 10), (7, 12), (0, 46)]] = true := by decide +kernel
theorem kb_78_4 : ck_es tb_E "StepCodeModel" "one" prog_13_method_57_code [] true mc_78_4 [[], [], [], []] = true := by decide +kernel
theorem kf_78 : ck_m ⟨"StepCodeModel", "one", "(III)Z"⟩ 5 (some .boolean) mt_78 = true := by decide +kernel
theorem km_78 {D : ar_D} {lim : Nat × Nat} {b : Nat} {B : Heap} (hE : ck_env tb_E (tb_G D lim b B) tb_Ts tb_I ah_P) : am_mok (tb_G D lim b B) tb_Ts tb_I ah_P ⟨"StepCodeModel", "one", "(III)Z"⟩ prog_13_method_57_code 5 (some .boolean) [] mt_78 :=
  ck_mok (hn := true) hE (fun _ => rfl) kf_78 (trivial) (List.forall_mem_cons.mpr ⟨ck_es_ok hE _ _ kb_78_0, List.forall_mem_cons.mpr ⟨ck_es_ok hE _ _ kb_78_1, List.forall_mem_cons.mpr ⟨ck_es_ok hE _ _ kb_78_2, List.forall_mem_cons.mpr ⟨ck_es_ok hE _ _ kb_78_3, List.forall_mem_cons.mpr ⟨ck_es_ok hE _ _ kb_78_4, fun _ h => absurd h List.not_mem_nil⟩⟩⟩⟩⟩)
-- StepCodeModel.two(III)Z
theorem kb_79_0 : ck_es tb_E "StepCodeModel" "two" prog_13_method_58_code [] true mc_79_0 [[], [], [], [], [], [], [], [], [], [], [], [], [(7, 227), (7, 229), (0, 86)], [], [], [], [], [], [], [], [], [], [(7, 234), (7, 236), (0, 87)], []] = true := by decide +kernel
theorem kb_79_1 : ck_es tb_E "StepCodeModel" "two" prog_13_method_58_code [] true mc_79_1 [[], [], [], [], [], [], [], [], [], [], [], [], [], [(8, 6), (8, 8), (0, 90)], [], [], [], [], [], [], [], [], [(8, 25), (8, 27), (0, 94)], []] = true := by decide +kernel
theorem kb_79_2 : ck_es tb_E "StepCodeModel" "two" prog_13_method_58_code [] true mc_79_2 [[], [], [], [], [], [], [], [], [(8, 29), (8, 31), (0, 95)], [], [], [], [], [], [], [], [], [], [], [], [(8, 33), (8, 35), (0, 96)], []] = true := by decide +kernel
theorem kf_79 : ck_m ⟨"StepCodeModel", "two", "(III)Z"⟩ 5 (some .boolean) mt_79 = true := by decide +kernel
theorem km_79 {D : ar_D} {lim : Nat × Nat} {b : Nat} {B : Heap} (hE : ck_env tb_E (tb_G D lim b B) tb_Ts tb_I ah_P) : am_mok (tb_G D lim b B) tb_Ts tb_I ah_P ⟨"StepCodeModel", "two", "(III)Z"⟩ prog_13_method_58_code 5 (some .boolean) [] mt_79 :=
  ck_mok (hn := true) hE (fun _ => rfl) kf_79 (trivial) (List.forall_mem_cons.mpr ⟨ck_es_ok hE _ _ kb_79_0, List.forall_mem_cons.mpr ⟨ck_es_ok hE _ _ kb_79_1, List.forall_mem_cons.mpr ⟨ck_es_ok hE _ _ kb_79_2, fun _ h => absurd h List.not_mem_nil⟩⟩⟩)
