/-! TABLES of the abstract machine, by program (wip/tools/gen2.py) out of the claim's listing and words -/
-- StepCodeModel.get(II)I
theorem kb_31_0 : ck_es tb_E "StepCodeModel" "get" prog_13_method_16_code [] true mc_31_0 [[], [], [], [], [], [(6, 71)], [], [], [], [], [], [], [], [], [], [(6, 64)], [], [(6, 64)], [], [], [], [], [], []] = true := by decide +kernel
theorem kb_31_1 : ck_es tb_E "StepCodeModel" "get" prog_13_method_16_code [] true mc_31_1 [[], []] = true := by decide +kernel
theorem kf_31 : ck_m ⟨"StepCodeModel", "get", "(II)I"⟩ 3 (some .int) mt_31 = true := by decide +kernel
theorem km_31 {D : ar_D} {lim : Nat × Nat} {b : Nat} {B : Heap} (hE : ck_env tb_E (tb_G D lim b B) tb_Ts tb_I ah_P) : am_mok (tb_G D lim b B) tb_Ts tb_I ah_P ⟨"StepCodeModel", "get", "(II)I"⟩ prog_13_method_16_code 3 (some .int) [] mt_31 :=
  ck_mok (hn := true) hE (fun _ => rfl) kf_31 (trivial) (List.forall_mem_cons.mpr ⟨ck_es_ok hE _ _ kb_31_0, List.forall_mem_cons.mpr ⟨ck_es_ok hE _ _ kb_31_1, fun _ h => absurd h List.not_mem_nil⟩⟩)
-- StepCodeModel.noProcess(I)Z
theorem kb_32_0 : ck_es tb_E "StepCodeModel" "noProcess" prog_13_method_17_code [] true mc_32_0 [[], [], [], [], [(6, 87)], [], [], [], [], []] = true := by decide +kernel
theorem kf_32 : ck_m ⟨"StepCodeModel", "noProcess", "(I)Z"⟩ 2 (some .boolean) mt_32 = true := by decide +kernel
theorem km_32 {D : ar_D} {lim : Nat × Nat} {b : Nat} {B : Heap} (hE : ck_env tb_E (tb_G D lim b B) tb_Ts tb_I ah_P) : am_mok (tb_G D lim b B) tb_Ts tb_I ah_P ⟨"StepCodeModel", "noProcess", "(I)Z"⟩ prog_13_method_17_code 2 (some .boolean) [] mt_32 :=
  ck_mok (hn := true) hE (fun _ => rfl) kf_32 (trivial) (List.forall_mem_cons.mpr ⟨ck_es_ok hE _ _ kb_32_0, fun _ h => absurd h List.not_mem_nil⟩)
-- StepCodeModel.variableAt(III)I
theorem kb_33_0 : ck_es tb_E "StepCodeModel" "variableAt" prog_13_method_18_code [] true mc_33_0 [[], [], [(7, 58), (7, 60), (0, 53)], [], [], [], [], [], [(6, 91)], [], [], [], [], [], [], [], [(6, 90)], [], [], [], [], [], [], []] = true := by decide +kernel
theorem kb_33_1 : ck_es tb_E "StepCodeModel" "variableAt" prog_13_method_18_code [] true mc_33_1 [[], [], [], [], [], [], [], []] = true := by decide +kernel
theorem kf_33 : ck_m ⟨"StepCodeModel", "variableAt", "(III)I"⟩ 5 (some .int) mt_33 = true := by decide +kernel
theorem km_33 {D : ar_D} {lim : Nat × Nat} {b : Nat} {B : Heap} (hE : ck_env tb_E (tb_G D lim b B) tb_Ts tb_I ah_P) : am_mok (tb_G D lim b B) tb_Ts tb_I ah_P ⟨"StepCodeModel", "variableAt", "(III)I"⟩ prog_13_method_18_code 5 (some .int) [] mt_33 :=
  ck_mok (hn := true) hE (fun _ => rfl) kf_33 (trivial) (List.forall_mem_cons.mpr ⟨ck_es_ok hE _ _ kb_33_0, List.forall_mem_cons.mpr ⟨ck_es_ok hE _ _ kb_33_1, fun _ h => absurd h List.not_mem_nil⟩⟩)
-- StepCodeModel.set(IIII)V
theorem kb_34_0 : ck_es tb_E "StepCodeModel" "set" prog_13_method_19_code [] true mc_34_0 [[], [], [], [], [(7, 54), (7, 56), (0, 52)], [], [], [], [], [], [], [], [], [], [], [], [], [], [], [], [(6, 64)], [], [(6, 64)], []] = true := by decide +kernel
theorem kb_34_1 : ck_es tb_E "StepCodeModel" "set" prog_13_method_19_code [] true mc_34_1 [[], [], [], [], [], []] = true := by decide +kernel
theorem kf_34 : ck_m ⟨"StepCodeModel", "set", "(IIII)V"⟩ 6 none mt_34 = true := by decide +kernel
theorem km_34 {D : ar_D} {lim : Nat × Nat} {b : Nat} {B : Heap} (hE : ck_env tb_E (tb_G D lim b B) tb_Ts tb_I ah_P) : am_mok (tb_G D lim b B) tb_Ts tb_I ah_P ⟨"StepCodeModel", "set", "(IIII)V"⟩ prog_13_method_19_code 6 none [] mt_34 :=
  ck_mok (hn := true) hE (fun _ => rfl) kf_34 (trivial) (List.forall_mem_cons.mpr ⟨ck_es_ok hE _ _ kb_34_0, List.forall_mem_cons.mpr ⟨ck_es_ok hE _ _ kb_34_1, fun _ h => absurd h List.not_mem_nil⟩⟩)
-- StepCodeModel.variableOf(III)I
theorem kb_35_0 : ck_es tb_E "StepCodeModel" "variableOf" prog_13_method_20_code [] true mc_35_0 [[], [], [], [], [(7, 54), (7, 56), (0, 52)], [], [], [], [], [], [], [], [], [(6, 64)], [], [(6, 64)], [], [], [], [], [], [], [], []] = true := by decide +kernel
theorem kf_35 : ck_m ⟨"StepCodeModel", "variableOf", "(III)I"⟩ 5 (some .int) mt_35 = true := by decide +kernel
theorem km_35 {D : ar_D} {lim : Nat × Nat} {b : Nat} {B : Heap} (hE : ck_env tb_E (tb_G D lim b B) tb_Ts tb_I ah_P) : am_mok (tb_G D lim b B) tb_Ts tb_I ah_P ⟨"StepCodeModel", "variableOf", "(III)I"⟩ prog_13_method_20_code 5 (some .int) [] mt_35 :=
  ck_mok (hn := true) hE (fun _ => rfl) kf_35 (trivial) (List.forall_mem_cons.mpr ⟨ck_es_ok hE _ _ kb_35_0, fun _ h => absurd h List.not_mem_nil⟩)
-- StepCodeModel.add(III)I
theorem kb_36_0 : ck_es tb_E "StepCodeModel" "add" prog_13_method_21_code [] true mc_36_0 [[], [], [], [], [], [], [], [], [], [], [(6, 85)], [], [], [], [], [(6, 83)], [], [], [], [], [], [(6, 64)], [], [(6, 64)]] = true := by decide +kernel
theorem kb_36_1 : ck_es tb_E "StepCodeModel" "add" prog_13_method_21_code [] true mc_36_1 [[], [], [], [], [(6, 76)], [], [(6, 83)], [], [], [], [(6, 77)], [], [(6, 83)], [], [], [], [(6, 78)], [], [(6, 83)], [], [], [], [(6, 79)], []] = true := by decide +kernel
theorem kb_36_2 : ck_es tb_E "StepCodeModel" "add" prog_13_method_21_code [] true mc_36_2 [[(6, 83)], [], [], [], [], [], [(6, 84)], [], [(6, 85)], [], [], [], [], [], [(6, 80)], [], [(6, 83)], [], [], [], [(6, 81)], [], [(6, 83)], []] = true := by decide +kernel
theorem kb_36_3 : ck_es tb_E "StepCodeModel" "add" prog_13_method_21_code [] true mc_36_3 [[], [], [(6, 82)], [], [(6, 83)], [], [], [], [(6, 85)], [], [], [], [], [], [(6, 85)], [], [], [(6, 84)], [], [], [], [], [(6, 81)], []] = true := by decide +kernel
theorem kb_36_4 : ck_es tb_E "StepCodeModel" "add" prog_13_method_21_code [] true mc_36_4 [[], [(6, 83)], [], [], [(6, 80)], [], [], [], [], [], [(6, 85)], [], [], [(6, 84)], [], [], [], [], [], [], [], [], [(6, 82)], []] = true := by decide +kernel
theorem kb_36_5 : ck_es tb_E "StepCodeModel" "add" prog_13_method_21_code [] true mc_36_5 [[(6, 83)], [], [(6, 82)], [], [], [], [], [], [(6, 82)], [], [(6, 83)], [], [], [], [(6, 82)], [], [], [], [], [], [], [(6, 82)], [], [(6, 83)]] = true := by decide +kernel
theorem kb_36_6 : ck_es tb_E "StepCodeModel" "add" prog_13_method_21_code [] true mc_36_6 [[], [], [], [], [], [], [(6, 85)], [], [], [(6, 85)], [], [(6, 84)], [], [(6, 85)], [], [(6, 83)], [], [], [], [(6, 85)], [], [], [(6, 85)], []] = true := by decide +kernel
theorem kb_36_7 : ck_es tb_E "StepCodeModel" "add" prog_13_method_21_code [] true mc_36_7 [[], [(6, 83)], [], [], [(6, 83)], [], [(6, 83)], [], [], []] = true := by decide +kernel
theorem kf_36 : ck_m ⟨"StepCodeModel", "add", "(III)I"⟩ 6 (some .int) mt_36 = true := by decide +kernel
theorem km_36 {D : ar_D} {lim : Nat × Nat} {b : Nat} {B : Heap} (hE : ck_env tb_E (tb_G D lim b B) tb_Ts tb_I ah_P) : am_mok (tb_G D lim b B) tb_Ts tb_I ah_P ⟨"StepCodeModel", "add", "(III)I"⟩ prog_13_method_21_code 6 (some .int) [] mt_36 :=
  ck_mok (hn := true) hE (fun _ => rfl) kf_36 (trivial) (List.forall_mem_cons.mpr ⟨ck_es_ok hE _ _ kb_36_0, List.forall_mem_cons.mpr ⟨ck_es_ok hE _ _ kb_36_1, List.forall_mem_cons.mpr ⟨ck_es_ok hE _ _ kb_36_2, List.forall_mem_cons.mpr ⟨ck_es_ok hE _ _ kb_36_3, List.forall_mem_cons.mpr ⟨ck_es_ok hE _ _ kb_36_4, List.forall_mem_cons.mpr ⟨ck_es_ok hE _ _ kb_36_5, List.forall_mem_cons.mpr ⟨ck_es_ok hE _ _ kb_36_6, List.forall_mem_cons.mpr ⟨ck_es_ok hE _ _ kb_36_7, fun _ h => absurd h List.not_mem_nil⟩⟩⟩⟩⟩⟩⟩⟩)
-- StepCodeModel.process()I
theorem kb_37_0 : ck_es tb_E "StepCodeModel" "process" prog_13_method_39_code [] true mc_37_0 [[], [], [(6, 87)], [], [], [], [(6, 86)], [], [(6, 83)], [], [], [], [], [], [], [(6, 64)], [], [(6, 64)], [], [], [], [], [], []] = true := by decide +kernel
theorem kb_37_1 : ck_es tb_E "StepCodeModel" "process" prog_13_method_39_code [] true mc_37_1 [[], [(6, 83)], [], [], [], [], [], [], [], [], [], [(6, 83)], [], [], [], [], [], [], [(6, 85)], [], [], [], [], [(6, 84)]] = true := by decide +kernel
theorem kb_37_2 : ck_es tb_E "StepCodeModel" "process" prog_13_method_39_code [] true mc_37_2 [[], [], [], [], [], [(6, 83)], [], [], [], [], [(6, 83)], [], [], [], [(6, 87)], [], [], [], [], [], [], [], [(6, 83)], []] = true := by decide +kernel
theorem kb_37_3 : ck_es tb_E "StepCodeModel" "process" prog_13_method_39_code [] true mc_37_3 [[], [(6, 85)], [], [], [(6, 73)], [], []] = true := by decide +kernel
theorem kf_37 : ck_m ⟨"StepCodeModel", "process", "()I"⟩ 3 (some .int) mt_37 = true := by decide +kernel
theorem km_37 {D : ar_D} {lim : Nat × Nat} {b : Nat} {B : Heap} (hE : ck_env tb_E (tb_G D lim b B) tb_Ts tb_I ah_P) : am_mok (tb_G D lim b B) tb_Ts tb_I ah_P ⟨"StepCodeModel", "process", "()I"⟩ prog_13_method_39_code 3 (some .int) [] mt_37 :=
  ck_mok (hn := true) hE (fun _ => rfl) kf_37 (trivial) (List.forall_mem_cons.mpr ⟨ck_es_ok hE _ _ kb_37_0, List.forall_mem_cons.mpr ⟨ck_es_ok hE _ _ kb_37_1, List.forall_mem_cons.mpr ⟨ck_es_ok hE _ _ kb_37_2, List.forall_mem_cons.mpr ⟨ck_es_ok hE _ _ kb_37_3, fun _ h => absurd h List.not_mem_nil⟩⟩⟩⟩)
-- StepCodeModel.processes()I
theorem kb_38_0 : ck_es tb_E "StepCodeModel" "processes" prog_13_method_41_code [] true mc_38_0 [[], [], [(6, 64)], [], [(6, 87)], []] = true := by decide +kernel
theorem kf_38 : ck_m ⟨"StepCodeModel", "processes", "()I"⟩ 1 (some .int) mt_38 = true := by decide +kernel
theorem km_38 {D : ar_D} {lim : Nat × Nat} {b : Nat} {B : Heap} (hE : ck_env tb_E (tb_G D lim b B) tb_Ts tb_I ah_P) : am_mok (tb_G D lim b B) tb_Ts tb_I ah_P ⟨"StepCodeModel", "processes", "()I"⟩ prog_13_method_41_code 1 (some .int) [] mt_38 :=
  ck_mok (hn := true) hE (fun _ => rfl) kf_38 (trivial) (List.forall_mem_cons.mpr ⟨ck_es_ok hE _ _ kb_38_0, fun _ h => absurd h List.not_mem_nil⟩)
-- StepCodeModel.resume(II)I
theorem kb_39_0 : ck_es tb_E "StepCodeModel" "resume" prog_13_method_87_code [] true mc_39_0 [[], [], [], [(7, 58), (7, 60), (0, 53)], [], [], [], [], [], [], [], [], [], [], [], [], [(6, 92)], [], [], [], [], [], [], []] = true := by decide +kernel
theorem kb_39_1 : ck_es tb_E "StepCodeModel" "resume" prog_13_method_87_code [] true mc_39_1 [[(6, 64)], [], [(6, 64)], [], [], [], [], [], [(6, 103)], [], [], [(6, 104)], [], [], [(6, 110)], [], [], [(6, 111)], [], [(6, 118)], [], [], [], []] = true := by decide +kernel
theorem kb_39_2 : ck_es tb_E "StepCodeModel" "resume" prog_13_method_87_code [] true mc_39_2 [[], [], [], [], [(6, 92)], [], [], []] = true := by decide +kernel
theorem kf_39 : ck_m ⟨"StepCodeModel", "resume", "(II)I"⟩ 3 (some .int) mt_39 = true := by decide +kernel
theorem km_39 {D : ar_D} {lim : Nat × Nat} {b : Nat} {B : Heap} (hE : ck_env tb_E (tb_G D lim b B) tb_Ts tb_I ah_P) : am_mok (tb_G D lim b B) tb_Ts tb_I ah_P ⟨"StepCodeModel", "resume", "(II)I"⟩ prog_13_method_87_code 3 (some .int) [] mt_39 :=
  ck_mok (hn := true) hE (fun _ => rfl) kf_39 (trivial) (List.forall_mem_cons.mpr ⟨ck_es_ok hE _ _ kb_39_0, List.forall_mem_cons.mpr ⟨ck_es_ok hE _ _ kb_39_1, List.forall_mem_cons.mpr ⟨ck_es_ok hE _ _ kb_39_2, fun _ h => absurd h List.not_mem_nil⟩⟩⟩)
-- StepCodeModel.holds(I)I
theorem kb_40_0 : ck_es tb_E "StepCodeModel" "holds" prog_13_method_89_code [] true mc_40_0 [[], [], [], [(7, 58), (7, 60), (0, 53)], [], [], [], [], [(6, 92)], [], [], [], [], [], [], [], [(6, 64)], [], [(6, 64)], [], [], [], [], []] = true := by decide +kernel
theorem kb_40_1 : ck_es tb_E "StepCodeModel" "holds" prog_13_method_89_code [] true mc_40_1 [[], [], [], [(6, 76)], [], [], [], [], [], [], [], [(6, 103)], [], [], [], [(6, 96)], [], [], [], [], [], [(6, 69)], [], []] = true := by decide +kernel
theorem kb_40_2 : ck_es tb_E "StepCodeModel" "holds" prog_13_method_89_code [] true mc_40_2 [[], [], [], [], [], [], [], [], [], [], [], []] = true := by decide +kernel
theorem kf_40 : ck_m ⟨"StepCodeModel", "holds", "(I)I"⟩ 3 (some .int) mt_40 = true := by decide +kernel
theorem km_40 {D : ar_D} {lim : Nat × Nat} {b : Nat} {B : Heap} (hE : ck_env tb_E (tb_G D lim b B) tb_Ts tb_I ah_P) : am_mok (tb_G D lim b B) tb_Ts tb_I ah_P ⟨"StepCodeModel", "holds", "(I)I"⟩ prog_13_method_89_code 3 (some .int) [] mt_40 :=
  ck_mok (hn := true) hE (fun _ => rfl) kf_40 (trivial) (List.forall_mem_cons.mpr ⟨ck_es_ok hE _ _ kb_40_0, List.forall_mem_cons.mpr ⟨ck_es_ok hE _ _ kb_40_1, List.forall_mem_cons.mpr ⟨ck_es_ok hE _ _ kb_40_2, fun _ h => absurd h List.not_mem_nil⟩⟩⟩)
-- StepCodeModel.about(II)I
theorem kb_41_0 : ck_es tb_E "StepCodeModel" "about" prog_13_method_90_code [] true mc_41_0 [[], [], [], [(7, 58), (7, 60), (0, 53)], [], [], [], [], [], [], [], [], [], [], [], [(6, 64)], [], [(6, 64)], [], [], [], [], [(6, 92)], []] = true := by decide +kernel
theorem kb_41_1 : ck_es tb_E "StepCodeModel" "about" prog_13_method_90_code [] true mc_41_1 [[], [], [], [], [], [], [], [], [], [], [(6, 92)], [], [], [], [], [(6, 93)], [], [], [], [], [(6, 94)], [], [], []] = true := by decide +kernel
theorem kb_41_2 : ck_es tb_E "StepCodeModel" "about" prog_13_method_90_code [] true mc_41_2 [[], [], [], [(6, 78)], [], [(6, 79)], [], [(6, 96)], [], [], [], [], [], [], [], [], [], [], [(6, 76)], [], [], [], [], []] = true := by decide +kernel
theorem kb_41_3 : ck_es tb_E "StepCodeModel" "about" prog_13_method_90_code [] true mc_41_3 [[], [], [], [], [], [(6, 95)], [], [], []] = true := by decide +kernel
theorem kf_41 : ck_m ⟨"StepCodeModel", "about", "(II)I"⟩ 4 (some .int) mt_41 = true := by decide +kernel
theorem km_41 {D : ar_D} {lim : Nat × Nat} {b : Nat} {B : Heap} (hE : ck_env tb_E (tb_G D lim b B) tb_Ts tb_I ah_P) : am_mok (tb_G D lim b B) tb_Ts tb_I ah_P ⟨"StepCodeModel", "about", "(II)I"⟩ prog_13_method_90_code 4 (some .int) [] mt_41 :=
  ck_mok (hn := true) hE (fun _ => rfl) kf_41 (trivial) (List.forall_mem_cons.mpr ⟨ck_es_ok hE _ _ kb_41_0, List.forall_mem_cons.mpr ⟨ck_es_ok hE _ _ kb_41_1, List.forall_mem_cons.mpr ⟨ck_es_ok hE _ _ kb_41_2, List.forall_mem_cons.mpr ⟨ck_es_ok hE _ _ kb_41_3, fun _ h => absurd h List.not_mem_nil⟩⟩⟩⟩)
-- StepCodeModel.waits(II)I
theorem kb_42_0 : ck_es tb_E "StepCodeModel" "waits" prog_13_method_91_code [] true mc_42_0 [[], [], [], [(7, 58), (7, 60), (0, 53)], [], [], [(6, 92)], [], [], [], [], [], [], [], [], [(6, 78)], [], [(6, 79)], [], [(6, 96)], [], [], [], []] = true := by decide +kernel
theorem kb_42_1 : ck_es tb_E "StepCodeModel" "waits" prog_13_method_91_code [] true mc_42_1 [[], [], [], [], [(6, 64)], [], [(6, 64)], [], [], [], [], [(6, 77)], [], [], [(6, 79)], [], [(6, 96)], [], [], [], [], [], [], []] = true := by decide +kernel
theorem kf_42 : ck_m ⟨"StepCodeModel", "waits", "(II)I"⟩ 3 (some .int) mt_42 = true := by decide +kernel
theorem km_42 {D : ar_D} {lim : Nat × Nat} {b : Nat} {B : Heap} (hE : ck_env tb_E (tb_G D lim b B) tb_Ts tb_I ah_P) : am_mok (tb_G D lim b B) tb_Ts tb_I ah_P ⟨"StepCodeModel", "waits", "(II)I"⟩ prog_13_method_91_code 3 (some .int) [] mt_42 :=
  ck_mok (hn := true) hE (fun _ => rfl) kf_42 (trivial) (List.forall_mem_cons.mpr ⟨ck_es_ok hE _ _ kb_42_0, List.forall_mem_cons.mpr ⟨ck_es_ok hE _ _ kb_42_1, fun _ h => absurd h List.not_mem_nil⟩⟩)
-- StepCodeModel.until(I)J
theorem kb_43_0 : ck_es tb_E "StepCodeModel" "until" prog_13_method_92_code [] true mc_43_0 [[], [], [], [(7, 58), (7, 60), (0, 53)], [], [], [], [], [(6, 64)], [], [(6, 64)], [], [], [], [], [(6, 92)], [], [], [], [], [], [(6, 97)], [], []] = true := by decide +kernel
theorem kb_43_1 : ck_es tb_E "StepCodeModel" "until" prog_13_method_92_code [] true mc_43_1 [[], [(8, 89)], []] = true := by decide +kernel
theorem kf_43 : ck_m ⟨"StepCodeModel", "until", "(I)J"⟩ 2 (some .long) mt_43 = true := by decide +kernel
theorem km_43 {D : ar_D} {lim : Nat × Nat} {b : Nat} {B : Heap} (hE : ck_env tb_E (tb_G D lim b B) tb_Ts tb_I ah_P) : am_mok (tb_G D lim b B) tb_Ts tb_I ah_P ⟨"StepCodeModel", "until", "(I)J"⟩ prog_13_method_92_code 2 (some .long) [] mt_43 :=
  ck_mok (hn := true) hE (fun _ => rfl) kf_43 (trivial) (List.forall_mem_cons.mpr ⟨ck_es_ok hE _ _ kb_43_0, List.forall_mem_cons.mpr ⟨ck_es_ok hE _ _ kb_43_1, fun _ h => absurd h List.not_mem_nil⟩⟩)
-- StepCodeModel.acts()I
theorem kb_44_0 : ck_es tb_E "StepCodeModel" "acts" prog_13_method_93_code [] true mc_44_0 [[], [], [(6, 64)], [], [(6, 110)], []] = true := by decide +kernel
theorem kf_44 : ck_m ⟨"StepCodeModel", "acts", "()I"⟩ 1 (some .int) mt_44 = true := by decide +kernel
theorem km_44 {D : ar_D} {lim : Nat × Nat} {b : Nat} {B : Heap} (hE : ck_env tb_E (tb_G D lim b B) tb_Ts tb_I ah_P) : am_mok (tb_G D lim b B) tb_Ts tb_I ah_P ⟨"StepCodeModel", "acts", "()I"⟩ prog_13_method_93_code 1 (some .int) [] mt_44 :=
  ck_mok (hn := true) hE (fun _ => rfl) kf_44 (trivial) (List.forall_mem_cons.mpr ⟨ck_es_ok hE _ _ kb_44_0, fun _ h => absurd h List.not_mem_nil⟩)
-- StepCodeModel.act(II)I
theorem kb_45_0 : ck_es tb_E "StepCodeModel" "act" prog_13_method_94_code [] true mc_45_0 [[], [], [], [], [], [(6, 110)], [], [], [], [], [], [], [], [], [], [], [], [(6, 64)], [], [(6, 64)], [], [], [], []] = true := by decide +kernel
theorem kb_45_1 : ck_es tb_E "StepCodeModel" "act" prog_13_method_94_code [] true mc_45_1 [[], [], [(6, 112)], [], [], [], [], [], [], [], [], [], [], [], [(6, 113)], [], [], [], [], [], [], [], [(6, 114)], []] = true := by decide +kernel
theorem kb_45_2 : ck_es tb_E "StepCodeModel" "act" prog_13_method_94_code [] true mc_45_2 [[], [], [], [], [], [], [(6, 115)], [], [], [], [], [], [], [], [(6, 116)], [], [], [], [], [(6, 118)], [], [], [], []] = true := by decide +kernel
theorem kb_45_3 : ck_es tb_E "StepCodeModel" "act" prog_13_method_94_code [] true mc_45_3 [[], [(6, 118)], [], [], [], []] = true := by decide +kernel
theorem kf_45 : ck_m ⟨"StepCodeModel", "act", "(II)I"⟩ 3 (some .int) mt_45 = true := by decide +kernel
theorem km_45 {D : ar_D} {lim : Nat × Nat} {b : Nat} {B : Heap} (hE : ck_env tb_E (tb_G D lim b B) tb_Ts tb_I ah_P) : am_mok (tb_G D lim b B) tb_Ts tb_I ah_P ⟨"StepCodeModel", "act", "(II)I"⟩ prog_13_method_94_code 3 (some .int) [] mt_45 :=
  ck_mok (hn := true) hE (fun _ => rfl) kf_45 (trivial) (List.forall_mem_cons.mpr ⟨ck_es_ok hE _ _ kb_45_0, List.forall_mem_cons.mpr ⟨ck_es_ok hE _ _ kb_45_1, List.forall_mem_cons.mpr ⟨ck_es_ok hE _ _ kb_45_2, List.forall_mem_cons.mpr ⟨ck_es_ok hE _ _ kb_45_3, fun _ h => absurd h List.not_mem_nil⟩⟩⟩⟩)
-- StepCodeModel.wave(II)I
theorem kb_46_0 : ck_es tb_E "StepCodeModel" "wave" prog_13_method_95_code [] true mc_46_0 [[], [], [], [], [(6, 110)], [], [], [], [], [], [(6, 118)], [], [], [], [], [], [(6, 118)], [], [], [], [], [], [], []] = true := by decide +kernel
theorem kb_46_1 : ck_es tb_E "StepCodeModel" "wave" prog_13_method_95_code [] true mc_46_1 [[(6, 118)], [], [], [], [], []] = true := by decide +kernel
theorem kf_46 : ck_m ⟨"StepCodeModel", "wave", "(II)I"⟩ 3 (some .int) mt_46 = true := by decide +kernel
theorem km_46 {D : ar_D} {lim : Nat × Nat} {b : Nat} {B : Heap} (hE : ck_env tb_E (tb_G D lim b B) tb_Ts tb_I ah_P) : am_mok (tb_G D lim b B) tb_Ts tb_I ah_P ⟨"StepCodeModel", "wave", "(II)I"⟩ prog_13_method_95_code 3 (some .int) [] mt_46 :=
  ck_mok (hn := true) hE (fun _ => rfl) kf_46 (trivial) (List.forall_mem_cons.mpr ⟨ck_es_ok hE _ _ kb_46_0, List.forall_mem_cons.mpr ⟨ck_es_ok hE _ _ kb_46_1, fun _ h => absurd h List.not_mem_nil⟩⟩)
-- StepCodeModel.value(III)I
theorem kb_47_0 : ck_es tb_E "StepCodeModel" "value" prog_13_method_96_code [] true mc_47_0 [[], [], [], [(8, 130), (8, 132), (0, 113)], [], [], [], [], [], [], [], [], [], [], [], [], [], [], [], [(6, 64)], [], [(6, 64)], [], []] = true := by decide +kernel
theorem kb_47_1 : ck_es tb_E "StepCodeModel" "value" prog_13_method_96_code [] true mc_47_1 [[], [], [], [], [], [], [], []] = true := by decide +kernel
theorem kf_47 : ck_m ⟨"StepCodeModel", "value", "(III)I"⟩ 5 (some .int) mt_47 = true := by decide +kernel
theorem km_47 {D : ar_D} {lim : Nat × Nat} {b : Nat} {B : Heap} (hE : ck_env tb_E (tb_G D lim b B) tb_Ts tb_I ah_P) : am_mok (tb_G D lim b B) tb_Ts tb_I ah_P ⟨"StepCodeModel", "value", "(III)I"⟩ prog_13_method_96_code 5 (some .int) [] mt_47 :=
  ck_mok (hn := true) hE (fun _ => rfl) kf_47 (trivial) (List.forall_mem_cons.mpr ⟨ck_es_ok hE _ _ kb_47_0, List.forall_mem_cons.mpr ⟨ck_es_ok hE _ _ kb_47_1, fun _ h => absurd h List.not_mem_nil⟩⟩)
-- StepCodeModel.delay(II)J
theorem kb_48_0 : ck_es tb_E "StepCodeModel" "delay" prog_13_method_97_code [] true mc_48_0 [[], [], [], [], [(6, 110)], [], [], [(6, 112)], [], [], [], [], [], [], [], [], [], [], [], [], [(8, 130), (8, 132), (0, 113)], [], [], []] = true := by decide +kernel
theorem kb_48_1 : ck_es tb_E "StepCodeModel" "delay" prog_13_method_97_code [] true mc_48_1 [[], [], [], [], [], [], [], [], [], [], [], [], [(6, 64)], [], [(6, 64)], [], [], [], [], [], [], [], [(6, 117)], []] = true := by decide +kernel
theorem kb_48_2 : ck_es tb_E "StepCodeModel" "delay" prog_13_method_97_code [] true mc_48_2 [[], [], [], [(6, 119)], [], [], []] = true := by decide +kernel
theorem kf_48 : ck_m ⟨"StepCodeModel", "delay", "(II)J"⟩ 5 (some .long) mt_48 = true := by decide +kernel
theorem km_48 {D : ar_D} {lim : Nat × Nat} {b : Nat} {B : Heap} (hE : ck_env tb_E (tb_G D lim b B) tb_Ts tb_I ah_P) : am_mok (tb_G D lim b B) tb_Ts tb_I ah_P ⟨"StepCodeModel", "delay", "(II)J"⟩ prog_13_method_97_code 5 (some .long) [] mt_48 :=
  ck_mok (hn := true) hE (fun _ => rfl) kf_48 (trivial) (List.forall_mem_cons.mpr ⟨ck_es_ok hE _ _ kb_48_0, List.forall_mem_cons.mpr ⟨ck_es_ok hE _ _ kb_48_1, List.forall_mem_cons.mpr ⟨ck_es_ok hE _ _ kb_48_2, fun _ h => absurd h List.not_mem_nil⟩⟩⟩)
-- StepCode$Datum.<init>()V
theorem kb_49_0 : ck_es tb_E "StepCode$Datum" "<init>" prog_2_method_1_code [] true mc_49_0 [[], [(1, 152), (1, 28), (1, 29)], [], [], [(1, 156)], []] = true := by decide +kernel
theorem kf_49 : ck_m ⟨"StepCode$Datum", "<init>", "()V"⟩ 1 none mt_49 = true := by decide +kernel
theorem km_49 {D : ar_D} {lim : Nat × Nat} {b : Nat} {B : Heap} (hE : ck_env tb_E (tb_G D lim b B) tb_Ts tb_I ah_P) : am_mok (tb_G D lim b B) tb_Ts tb_I ah_P ⟨"StepCode$Datum", "<init>", "()V"⟩ prog_2_method_1_code 1 none [] mt_49 :=
  ck_mok (hn := true) hE (fun _ => rfl) kf_49 (trivial) (List.forall_mem_cons.mpr ⟨ck_es_ok hE _ _ kb_49_0, fun _ h => absurd h List.not_mem_nil⟩)
-- StepCode$Datum.copy(LStepCode$Datum;)V
theorem kb_50_0 : ck_es tb_E "StepCode$Datum" "copy" prog_2_method_2_code [] true mc_50_0 [[], [], [(1, 153)], [(1, 153)], [], [], [(1, 156)], [(1, 156)], [], [], [(1, 161)], [(1, 161)], [], [], [(1, 164)], [(1, 164)], [], [], [(1, 166)], [(1, 166)], [], [], [(1, 168)], [(1, 168)]] = true := by decide +kernel
theorem kb_50_1 : ck_es tb_E "StepCode$Datum" "copy" prog_2_method_2_code [] true mc_50_1 [[], [], [(1, 170)], [(1, 170)], []] = true := by decide +kernel
theorem kf_50 : ck_m ⟨"StepCode$Datum", "copy", "(LStepCode$Datum;)V"⟩ 2 none mt_50 = true := by decide +kernel
theorem km_50 {D : ar_D} {lim : Nat × Nat} {b : Nat} {B : Heap} (hE : ck_env tb_E (tb_G D lim b B) tb_Ts tb_I ah_P) : am_mok (tb_G D lim b B) tb_Ts tb_I ah_P ⟨"StepCode$Datum", "copy", "(LStepCode$Datum;)V"⟩ prog_2_method_2_code 2 none [] mt_50 :=
  ck_mok (hn := true) hE (fun _ => rfl) kf_50 (trivial) (List.forall_mem_cons.mpr ⟨ck_es_ok hE _ _ kb_50_0, List.forall_mem_cons.mpr ⟨ck_es_ok hE _ _ kb_50_1, fun _ h => absurd h List.not_mem_nil⟩⟩)
-- StepCode$Datum.hold(IIJJJJ)V
theorem kb_51_0 : ck_es tb_E "StepCode$Datum" "hold" prog_2_method_3_code [] true mc_51_0 [[(2, 200)], [], [], [], [], [], [], [], [(1, 153)], [], [], [(1, 156)], [], [], [(1, 161)], [], [], [], [], [(1, 164)], [], [], [], []] = true := by decide +kernel
theorem kb_51_1 : ck_es tb_E "StepCode$Datum" "hold" prog_2_method_3_code [] true mc_51_1 [[(1, 166)], [], [], [], [], [(1, 168)], [], [], [], [], [(1, 170)], []] = true := by decide +kernel
theorem kf_51 : ck_m ⟨"StepCode$Datum", "hold", "(IIJJJJ)V"⟩ 13 none mt_51 = true := by decide +kernel
theorem km_51 {D : ar_D} {lim : Nat × Nat} {b : Nat} {B : Heap} (hE : ck_env tb_E (tb_G D lim b B) tb_Ts tb_I ah_P) : am_mok (tb_G D lim b B) tb_Ts tb_I ah_P ⟨"StepCode$Datum", "hold", "(IIJJJJ)V"⟩ prog_2_method_3_code 13 none [] mt_51 :=
  ck_mok (hn := true) hE (fun _ => rfl) kf_51 (trivial) (List.forall_mem_cons.mpr ⟨ck_es_ok hE _ _ kb_51_0, List.forall_mem_cons.mpr ⟨ck_es_ok hE _ _ kb_51_1, fun _ h => absurd h List.not_mem_nil⟩⟩)
-- StepCode$Finder.<init>(LStepCode$Things;)V
theorem kb_52_0 : ck_es tb_E "StepCode$Finder" "<init>" prog_3_method_1_code [] true mc_52_0 [[], [(2, 5), (1, 28), (1, 29)], [], [], [(2, 8)], [], [], [(2, 6)], [(2, 9)], [], [], [], [], [(2, 9)], [], [], [], [(2, 9)], [], [(2, 6), (1, 148), (1, 8)], [], [(999, 0), (1, 150), (0, 0)], [], []] = true := by decide +kernel
theorem kb_52_1 : ck_es tb_E "StepCode$Finder" "<init>" prog_3_method_1_code [] true mc_52_1 [[], []] = true := by decide +kernel
theorem kf_52 : ck_m ⟨"StepCode$Finder", "<init>", "(LStepCode$Things;)V"⟩ 3 none mt_52 = true := by decide +kernel
theorem km_52 {D : ar_D} {lim : Nat × Nat} {b : Nat} {B : Heap} (hE : ck_env tb_E (tb_G D lim b B) tb_Ts tb_I ah_P) : am_mok (tb_G D lim b B) tb_Ts tb_I ah_P ⟨"StepCode$Finder", "<init>", "(LStepCode$Things;)V"⟩ prog_3_method_1_code 3 none [] mt_52 :=
  ck_mok (hn := true) hE (fun _ => rfl) kf_52 (trivial) (List.forall_mem_cons.mpr ⟨ck_es_ok hE _ _ kb_52_0, List.forall_mem_cons.mpr ⟨ck_es_ok hE _ _ kb_52_1, fun _ h => absurd h List.not_mem_nil⟩⟩)
-- StepCode$Looker.<init>(LStepCode$Maker;LStepCode$Things;)V
theorem kb_53_0 : ck_es tb_E "StepCode$Looker" "<init>" prog_4_method_1_code [] true mc_53_0 [[], [(1, 127), (1, 28), (1, 29)], [], [], [(1, 128)], [], [], [(1, 100)], [(1, 129)], [], [], [(1, 130)], []] = true := by decide +kernel
theorem kf_53 : ck_m ⟨"StepCode$Looker", "<init>", "(LStepCode$Maker;LStepCode$Things;)V"⟩ 3 none mt_53 = true := by decide +kernel
theorem km_53 {D : ar_D} {lim : Nat × Nat} {b : Nat} {B : Heap} (hE : ck_env tb_E (tb_G D lim b B) tb_Ts tb_I ah_P) : am_mok (tb_G D lim b B) tb_Ts tb_I ah_P ⟨"StepCode$Looker", "<init>", "(LStepCode$Maker;LStepCode$Things;)V"⟩ prog_4_method_1_code 3 none [] mt_53 :=
  ck_mok (hn := true) hE (fun _ => rfl) kf_53 (trivial) (List.forall_mem_cons.mpr ⟨ck_es_ok hE _ _ kb_53_0, fun _ h => absurd h List.not_mem_nil⟩)
-- StepCode$Looker.firstWrong()I
theorem kb_54_0 : ck_es tb_E "StepCode$Looker" "firstWrong" prog_4_method_2_code [] true mc_54_0 [[], [], [], [], [(1, 129)], [(1, 71)], [], [], [(1, 128)], [], [], [], [], [], [], [], [], [], [], [], [], [], []] = true := by decide +kernel
theorem kf_54 : ck_m ⟨"StepCode$Looker", "firstWrong", "()I"⟩ 2 (some .int) mt_54 = true := by decide +kernel
theorem km_54 {D : ar_D} {lim : Nat × Nat} {b : Nat} {B : Heap} (hE : ck_env tb_E (tb_G D lim b B) tb_Ts tb_I ah_P) : am_mok (tb_G D lim b B) tb_Ts tb_I ah_P ⟨"StepCode$Looker", "firstWrong", "()I"⟩ prog_4_method_2_code 2 (some .int) [] mt_54 :=
  ck_mok (hn := true) hE (fun _ => rfl) kf_54 (trivial) (List.forall_mem_cons.mpr ⟨ck_es_ok hE _ _ kb_54_0, fun _ h => absurd h List.not_mem_nil⟩)
-- StepCode$Looker.isOneBody()Z
theorem kb_55_0 : ck_es tb_E "StepCode$Looker" "isOneBody" prog_4_method_3_code [] true mc_55_0 [[], [(1, 128)], [(1, 109)], [], [], [], [], [(1, 129)], [(1, 71)], [], [], [], [], [], [], [], []] = true := by decide +kernel
theorem kf_55 : ck_m ⟨"StepCode$Looker", "isOneBody", "()Z"⟩ 1 (some .boolean) mt_55 = true := by decide +kernel
theorem km_55 {D : ar_D} {lim : Nat × Nat} {b : Nat} {B : Heap} (hE : ck_env tb_E (tb_G D lim b B) tb_Ts tb_I ah_P) : am_mok (tb_G D lim b B) tb_Ts tb_I ah_P ⟨"StepCode$Looker", "isOneBody", "()Z"⟩ prog_4_method_3_code 1 (some .boolean) [] mt_55 :=
  ck_mok (hn := true) hE (fun _ => rfl) kf_55 (trivial) (List.forall_mem_cons.mpr ⟨ck_es_ok hE _ _ kb_55_0, fun _ h => absurd h List.not_mem_nil⟩)
-- StepCode$Maker.<init>()V
theorem kb_56_0 : ck_es tb_E "StepCode$Maker" "<init>" prog_5_method_1_code [] true mc_56_0 [[], [(1, 53), (1, 28), (1, 29)], [], [(1, 54), (1, 55), (1, 5)], [], [], [(1, 56), (1, 57)], [(1, 101)], [], [(1, 98), (1, 31), (1, 2)], [], [], [(1, 99), (1, 33)], [(1, 103)], [], [], [(1, 97)], [(1, 106)], [], [], [(1, 97)], [(1, 107)], []] = true := by decide +kernel
theorem kf_56 : ck_m ⟨"StepCode$Maker", "<init>", "()V"⟩ 1 none mt_56 = true := by decide +kernel
theorem km_56 {D : ar_D} {lim : Nat × Nat} {b : Nat} {B : Heap} (hE : ck_env tb_E (tb_G D lim b B) tb_Ts tb_I ah_P) : am_mok (tb_G D lim b B) tb_Ts tb_I ah_P ⟨"StepCode$Maker", "<init>", "()V"⟩ prog_5_method_1_code 1 none [] mt_56 :=
  ck_mok (hn := true) hE (fun _ => rfl) kf_56 (trivial) (List.forall_mem_cons.mpr ⟨ck_es_ok hE _ _ kb_56_0, fun _ h => absurd h List.not_mem_nil⟩)
-- StepCode$Maker.make(III)I
theorem kb_57_0 : ck_es tb_E "StepCode$Maker" "make" prog_5_method_2_code [] true mc_57_0 [[], [(1, 108)], [], [], [], [], [], [], [], [], [(1, 108)], [], [(1, 107)], [], [], [], [(1, 101)], [(3, 31), (3, 23), (3, 24)], [], [], [], [], [(1, 101)], []] = true := by decide +kernel
theorem kb_57_1 : ck_es tb_E "StepCode$Maker" "make" prog_5_method_2_code [] true mc_57_1 [[], [(3, 32), (3, 33), (3, 34)], [], [], [], [], [], [], [], [(1, 108)], [], [], [(1, 101)], [], [(1, 107)], [], [], [], [], [], [], [(1, 107)], [], []] = true := by decide +kernel
theorem kb_57_2 : ck_es tb_E "StepCode$Maker" "make" prog_5_method_2_code [] true mc_57_2 [[], [(3, 45), (1, 37), (1, 3), (1, 38)], [], [], [], [], [], [(1, 108)], [], [], [], [], [(1, 106)], [], [], [], [], [(1, 107)], [], [], [], [(1, 106)], [], []] = true := by decide +kernel
theorem kb_57_3 : ck_es tb_E "StepCode$Maker" "make" prog_5_method_2_code [] true mc_57_3 [[], [], [], [], [(1, 107)], [], [], [], [], [], [(1, 108)], [], [], [(1, 108)], [], []] = true := by decide +kernel
theorem kf_57 : ck_m ⟨"StepCode$Maker", "make", "(III)I"⟩ 8 (some .int) mt_57 = true := by decide +kernel
theorem km_57 {D : ar_D} {lim : Nat × Nat} {b : Nat} {B : Heap} (hE : ck_env tb_E (tb_G D lim b B) tb_Ts tb_I ah_P) : am_mok (tb_G D lim b B) tb_Ts tb_I ah_P ⟨"StepCode$Maker", "make", "(III)I"⟩ prog_5_method_2_code 8 (some .int) [] mt_57 :=
  ck_mok (hn := true) hE (fun _ => rfl) kf_57 (trivial) (List.forall_mem_cons.mpr ⟨ck_es_ok hE _ _ kb_57_0, List.forall_mem_cons.mpr ⟨ck_es_ok hE _ _ kb_57_1, List.forall_mem_cons.mpr ⟨ck_es_ok hE _ _ kb_57_2, List.forall_mem_cons.mpr ⟨ck_es_ok hE _ _ kb_57_3, fun _ h => absurd h List.not_mem_nil⟩⟩⟩⟩)
-- StepCode$Maker.clear()V
theorem kb_58_0 : ck_es tb_E "StepCode$Maker" "clear" prog_5_method_4_code [] true mc_58_0 [[], [(1, 101)], [(4, 31), (4, 32), (4, 33)], [], [(1, 103)], [(4, 35), (4, 36), (4, 37)], [], [], [(1, 108)], []] = true := by decide +kernel
theorem kf_58 : ck_m ⟨"StepCode$Maker", "clear", "()V"⟩ 1 none mt_58 = true := by decide +kernel
theorem km_58 {D : ar_D} {lim : Nat × Nat} {b : Nat} {B : Heap} (hE : ck_env tb_E (tb_G D lim b B) tb_Ts tb_I ah_P) : am_mok (tb_G D lim b B) tb_Ts tb_I ah_P ⟨"StepCode$Maker", "clear", "()V"⟩ prog_5_method_4_code 1 none [] mt_58 :=
  ck_mok (hn := true) hE (fun _ => rfl) kf_58 (trivial) (List.forall_mem_cons.mpr ⟨ck_es_ok hE _ _ kb_58_0, fun _ h => absurd h List.not_mem_nil⟩)
-- StepCode$Nodes.<init>(I)V
theorem kb_59_0 : ck_es tb_E "StepCode$Nodes" "<init>" prog_6_method_1_code [] true mc_59_0 [[], [(1, 59), (1, 28), (1, 29)], [], [], [(1, 60), (1, 37), (1, 3), (1, 38)], [], [], [], [(1, 97)], [(1, 61)], [], [], [(1, 97)], [(1, 62)], [], [], [(1, 97)], [(1, 63)], [], [], [(1, 97)], [(1, 64)], [], []] = true := by decide +kernel
theorem kb_59_1 : ck_es tb_E "StepCode$Nodes" "<init>" prog_6_method_1_code [] true mc_59_1 [[(1, 97)], [(1, 65)], [], [], [(1, 97)], [(1, 66)], [], [], [(1, 97)], [(1, 67)], [], [], [(1, 97)], [(1, 68)], []] = true := by decide +kernel
theorem kf_59 : ck_m ⟨"StepCode$Nodes", "<init>", "(I)V"⟩ 3 none mt_59 = true := by decide +kernel
theorem km_59 {D : ar_D} {lim : Nat × Nat} {b : Nat} {B : Heap} (hE : ck_env tb_E (tb_G D lim b B) tb_Ts tb_I ah_P) : am_mok (tb_G D lim b B) tb_Ts tb_I ah_P ⟨"StepCode$Nodes", "<init>", "(I)V"⟩ prog_6_method_1_code 3 none [] mt_59 :=
  ck_mok (hn := true) hE (fun _ => rfl) kf_59 (trivial) (List.forall_mem_cons.mpr ⟨ck_es_ok hE _ _ kb_59_0, List.forall_mem_cons.mpr ⟨ck_es_ok hE _ _ kb_59_1, fun _ h => absurd h List.not_mem_nil⟩⟩)
-- StepCode$Nodes.isFull()Z
theorem kb_60_0 : ck_es tb_E "StepCode$Nodes" "isFull" prog_6_method_4_code [] true mc_60_0 [[], [(1, 70)], [], [(1, 61)], [], [], [], [], [], []] = true := by decide +kernel
theorem kf_60 : ck_m ⟨"StepCode$Nodes", "isFull", "()Z"⟩ 1 (some .boolean) mt_60 = true := by decide +kernel
theorem km_60 {D : ar_D} {lim : Nat × Nat} {b : Nat} {B : Heap} (hE : ck_env tb_E (tb_G D lim b B) tb_Ts tb_I ah_P) : am_mok (tb_G D lim b B) tb_Ts tb_I ah_P ⟨"StepCode$Nodes", "isFull", "()Z"⟩ prog_6_method_4_code 1 (some .boolean) [] mt_60 :=
  ck_mok (hn := true) hE (fun _ => rfl) kf_60 (trivial) (List.forall_mem_cons.mpr ⟨ck_es_ok hE _ _ kb_60_0, fun _ h => absurd h List.not_mem_nil⟩)
-- StepCode$Nodes.begin(II)I
theorem kb_61_0 : ck_es tb_E "StepCode$Nodes" "begin" prog_6_method_14_code [] true mc_61_0 [[], [(3, 36), (3, 23), (3, 24)], [], [], [], [], [(1, 70)], [], [], [(1, 61)], [], [], [], [], [(1, 62)], [], [], [], [], [(1, 63)], [], [], [], []] = true := by decide +kernel
theorem kb_61_1 : ck_es tb_E "StepCode$Nodes" "begin" prog_6_method_14_code [] true mc_61_1 [[(1, 64)], [], [], [], [], [(1, 65)], [], [], [], [], [(1, 66)], [], [], [(1, 75)], [], [], [(1, 67)], [], [], [], [], [], [(1, 70)], []] = true := by decide +kernel
theorem kb_61_2 : ck_es tb_E "StepCode$Nodes" "begin" prog_6_method_14_code [] true mc_61_2 [[], [(1, 70)], [], []] = true := by decide +kernel
theorem kf_61 : ck_m ⟨"StepCode$Nodes", "begin", "(II)I"⟩ 4 (some .int) mt_61 = true := by decide +kernel
theorem km_61 {D : ar_D} {lim : Nat × Nat} {b : Nat} {B : Heap} (hE : ck_env tb_E (tb_G D lim b B) tb_Ts tb_I ah_P) : am_mok (tb_G D lim b B) tb_Ts tb_I ah_P ⟨"StepCode$Nodes", "begin", "(II)I"⟩ prog_6_method_14_code 4 (some .int) [] mt_61 :=
  ck_mok (hn := true) hE (fun _ => rfl) kf_61 (trivial) (List.forall_mem_cons.mpr ⟨ck_es_ok hE _ _ kb_61_0, List.forall_mem_cons.mpr ⟨ck_es_ok hE _ _ kb_61_1, List.forall_mem_cons.mpr ⟨ck_es_ok hE _ _ kb_61_2, fun _ h => absurd h List.not_mem_nil⟩⟩⟩)
