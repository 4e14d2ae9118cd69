/-! TABLES of the abstract machine, by program (wip/tools/gen2.py) out of the claim's listing and words -/
-- StepCodeModel.set(IIII)V
theorem kb_40_0 : ck_es tb_E "StepCodeModel" "set" prog_13_method_19_code [] true mc_40_0 [[], [], [], [], [(7, 54), (7, 56), (0, 52)], [], [], [], [], [], [], [], [], [], [], [(7, 26), (7, 28), (0, 48)], [], [], [], [], [(6, 64)], [], [(6, 64)], []] = true := by decide +kernel
theorem kb_40_1 : ck_es tb_E "StepCodeModel" "set" prog_13_method_19_code [] true mc_40_1 [[], [], [], [], [(7, 30), (7, 32), (0, 49)], []] = true := by decide +kernel
theorem kf_40 : ck_m ⟨"StepCodeModel", "set", "(IIII)V"⟩ 6 none mt_40 = true := by decide +kernel
theorem km_40 {D : ar_D} {lim : Nat × Nat} {b : Nat} {B : Heap} (hE : ck_env tb_E (tb_G D lim b B) tb_Ts tb_I ah_P) : am_mok (tb_G D lim b B) tb_Ts tb_I ah_P ⟨"StepCodeModel", "set", "(IIII)V"⟩ prog_13_method_19_code 6 none [] mt_40 :=
  ck_mok (hn := true) hE (fun _ => rfl) kf_40 (trivial) (List.forall_mem_cons.mpr ⟨ck_es_ok hE _ _ kb_40_0, List.forall_mem_cons.mpr ⟨ck_es_ok hE _ _ kb_40_1, fun _ h => absurd h List.not_mem_nil⟩⟩)
-- StepCodeModel.variableOf(III)I
theorem kb_41_0 : ck_es tb_E "StepCodeModel" "variableOf" prog_13_method_20_code [] true mc_41_0 [[], [], [], [], [(7, 54), (7, 56), (0, 52)], [], [], [], [], [], [], [], [], [(6, 64)], [], [(6, 64)], [], [], [], [], [], [], [(7, 42), (7, 44), (0, 50)], []] = true := by decide +kernel
theorem kf_41 : ck_m ⟨"StepCodeModel", "variableOf", "(III)I"⟩ 5 (some .int) mt_41 = true := by decide +kernel
theorem km_41 {D : ar_D} {lim : Nat × Nat} {b : Nat} {B : Heap} (hE : ck_env tb_E (tb_G D lim b B) tb_Ts tb_I ah_P) : am_mok (tb_G D lim b B) tb_Ts tb_I ah_P ⟨"StepCodeModel", "variableOf", "(III)I"⟩ prog_13_method_20_code 5 (some .int) [] mt_41 :=
  ck_mok (hn := true) hE (fun _ => rfl) kf_41 (trivial) (List.forall_mem_cons.mpr ⟨ck_es_ok hE _ _ kb_41_0, fun _ h => absurd h List.not_mem_nil⟩)
-- StepCodeModel.add(III)I
theorem kb_42_0 : ck_es tb_E "StepCodeModel" "add" prog_13_method_21_code [] true mc_42_0 [[], [], [], [], [], [], [], [], [], [], [(6, 85)], [], [], [], [], [(6, 83)], [], [], [], [], [], [(6, 64)], [], [(6, 64)]] = true := by decide +kernel
theorem kb_42_1 : ck_es tb_E "StepCodeModel" "add" prog_13_method_21_code [] true mc_42_1 [[], [], [], [], [(6, 76)], [], [(6, 83)], [], [], [], [(6, 77)], [], [(6, 83)], [], [], [], [(6, 78)], [], [(6, 83)], [], [], [], [(6, 79)], []] = true := by decide +kernel
theorem kb_42_2 : ck_es tb_E "StepCodeModel" "add" prog_13_method_21_code [] true mc_42_2 [[(6, 83)], [], [], [], [], [], [(6, 84)], [], [(6, 85)], [], [], [], [], [], [(6, 80)], [], [(6, 83)], [], [], [], [(6, 81)], [], [(6, 83)], []] = true := by decide +kernel
theorem kb_42_3 : ck_es tb_E "StepCodeModel" "add" prog_13_method_21_code [] true mc_42_3 [[], [], [(6, 82)], [], [(6, 83)], [], [], [], [(6, 85)], [], [], [], [], [], [(6, 85)], [], [], [(6, 84)], [], [], [], [], [(6, 81)], []] = true := by decide +kernel
theorem kb_42_4 : ck_es tb_E "StepCodeModel" "add" prog_13_method_21_code [] true mc_42_4 [[], [(6, 83)], [], [], [(6, 80)], [], [], [], [], [], [(6, 85)], [], [], [(6, 84)], [], [], [], [], [], [], [], [], [(6, 82)], []] = true := by decide +kernel
theorem kb_42_5 : ck_es tb_E "StepCodeModel" "add" prog_13_method_21_code [] true mc_42_5 [[(6, 83)], [], [(6, 82)], [], [], [], [], [], [(6, 82)], [], [(6, 83)], [], [], [], [(6, 82)], [], [], [], [], [], [], [(6, 82)], [], [(6, 83)]] = true := by decide +kernel
theorem kb_42_6 : ck_es tb_E "StepCodeModel" "add" prog_13_method_21_code [] true mc_42_6 [[], [], [], [], [], [], [(6, 85)], [], [], [(6, 85)], [], [(6, 84)], [], [(6, 85)], [], [(6, 83)], [], [], [], [(6, 85)], [], [], [(6, 85)], []] = true := by decide +kernel
theorem kb_42_7 : ck_es tb_E "StepCodeModel" "add" prog_13_method_21_code [] true mc_42_7 [[], [(6, 83)], [], [], [(6, 83)], [], [(6, 83)], [], [], []] = true := by decide +kernel
theorem kf_42 : ck_m ⟨"StepCodeModel", "add", "(III)I"⟩ 6 (some .int) mt_42 = true := by decide +kernel
theorem km_42 {D : ar_D} {lim : Nat × Nat} {b : Nat} {B : Heap} (hE : ck_env tb_E (tb_G D lim b B) tb_Ts tb_I ah_P) : am_mok (tb_G D lim b B) tb_Ts tb_I ah_P ⟨"StepCodeModel", "add", "(III)I"⟩ prog_13_method_21_code 6 (some .int) [] mt_42 :=
  ck_mok (hn := true) hE (fun _ => rfl) kf_42 (trivial) (List.forall_mem_cons.mpr ⟨ck_es_ok hE _ _ kb_42_0, List.forall_mem_cons.mpr ⟨ck_es_ok hE _ _ kb_42_1, List.forall_mem_cons.mpr ⟨ck_es_ok hE _ _ kb_42_2, List.forall_mem_cons.mpr ⟨ck_es_ok hE _ _ kb_42_3, List.forall_mem_cons.mpr ⟨ck_es_ok hE _ _ kb_42_4, List.forall_mem_cons.mpr ⟨ck_es_ok hE _ _ kb_42_5, List.forall_mem_cons.mpr ⟨ck_es_ok hE _ _ kb_42_6, List.forall_mem_cons.mpr ⟨ck_es_ok hE _ _ kb_42_7, fun _ h => absurd h List.not_mem_nil⟩⟩⟩⟩⟩⟩⟩⟩)
-- StepCodeModel.child(II)I
theorem kb_43_0 : ck_es tb_E "StepCodeModel" "child" prog_13_method_22_code [] true mc_43_0 [[], [(6, 79)], [], [], [], [], [], [], [], [], [], [], [], [], [(6, 80)], [], [], [], [], [], [], []] = true := by decide +kernel
theorem kf_43 : ck_m ⟨"StepCodeModel", "child", "(II)I"⟩ 5 (some .int) mt_43 = true := by decide +kernel
theorem km_43 {D : ar_D} {lim : Nat × Nat} {b : Nat} {B : Heap} (hE : ck_env tb_E (tb_G D lim b B) tb_Ts tb_I ah_P) : am_mok (tb_G D lim b B) tb_Ts tb_I ah_P ⟨"StepCodeModel", "child", "(II)I"⟩ prog_13_method_22_code 5 (some .int) [] mt_43 :=
  ck_mok (hn := true) hE (fun _ => rfl) kf_43 (trivial) (List.forall_mem_cons.mpr ⟨ck_es_ok hE _ _ kb_43_0, fun _ h => absurd h List.not_mem_nil⟩)
-- StepCodeModel.kindOf(I)I
theorem kb_44_0 : ck_es tb_E "StepCodeModel" "kindOf" prog_13_method_23_code [] true mc_44_0 [[], [], [], [], [], [], [(6, 76)], [], [], []] = true := by decide +kernel
theorem kf_44 : ck_m ⟨"StepCodeModel", "kindOf", "(I)I"⟩ 2 (some .int) mt_44 = true := by decide +kernel
theorem km_44 {D : ar_D} {lim : Nat × Nat} {b : Nat} {B : Heap} (hE : ck_env tb_E (tb_G D lim b B) tb_Ts tb_I ah_P) : am_mok (tb_G D lim b B) tb_Ts tb_I ah_P ⟨"StepCodeModel", "kindOf", "(I)I"⟩ prog_13_method_23_code 2 (some .int) [] mt_44 :=
  ck_mok (hn := true) hE (fun _ => rfl) kf_44 (trivial) (List.forall_mem_cons.mpr ⟨ck_es_ok hE _ _ kb_44_0, fun _ h => absurd h List.not_mem_nil⟩)
-- StepCodeModel.expression(I)Z
theorem kb_45_0 : ck_es tb_E "StepCodeModel" "expression" prog_13_method_24_code [] true mc_45_0 [[], [], [], [], [], [], [], [], [], [], [], [], [], [], [], [], [], [], [], [], [], [], [], []] = true := by decide +kernel
theorem kb_45_1 : ck_es tb_E "StepCodeModel" "expression" prog_13_method_24_code [] true mc_45_1 [[]] = true := by decide +kernel
theorem kf_45 : ck_m ⟨"StepCodeModel", "expression", "(I)Z"⟩ 1 (some .boolean) mt_45 = true := by decide +kernel
theorem km_45 {D : ar_D} {lim : Nat × Nat} {b : Nat} {B : Heap} (hE : ck_env tb_E (tb_G D lim b B) tb_Ts tb_I ah_P) : am_mok (tb_G D lim b B) tb_Ts tb_I ah_P ⟨"StepCodeModel", "expression", "(I)Z"⟩ prog_13_method_24_code 1 (some .boolean) [] mt_45 :=
  ck_mok (hn := true) hE (fun _ => rfl) kf_45 (trivial) (List.forall_mem_cons.mpr ⟨ck_es_ok hE _ _ kb_45_0, List.forall_mem_cons.mpr ⟨ck_es_ok hE _ _ kb_45_1, fun _ h => absurd h List.not_mem_nil⟩⟩)
-- StepCodeModel.statement(I)Z
theorem kb_46_0 : ck_es tb_E "StepCodeModel" "statement" prog_13_method_25_code [] true mc_46_0 [[], [], [], [], [], [], [], [], [], [], [], [], [], [], [], [], [], [], [], [], [], []] = true := by decide +kernel
theorem kf_46 : ck_m ⟨"StepCodeModel", "statement", "(I)Z"⟩ 1 (some .boolean) mt_46 = true := by decide +kernel
theorem km_46 {D : ar_D} {lim : Nat × Nat} {b : Nat} {B : Heap} (hE : ck_env tb_E (tb_G D lim b B) tb_Ts tb_I ah_P) : am_mok (tb_G D lim b B) tb_Ts tb_I ah_P ⟨"StepCodeModel", "statement", "(I)Z"⟩ prog_13_method_25_code 1 (some .boolean) [] mt_46 :=
  ck_mok (hn := true) hE (fun _ => rfl) kf_46 (trivial) (List.forall_mem_cons.mpr ⟨ck_es_ok hE _ _ kb_46_0, fun _ h => absurd h List.not_mem_nil⟩)
-- StepCodeModel.body(I)Z
theorem kb_47_0 : ck_es tb_E "StepCodeModel" "body" prog_13_method_26_code [] true mc_47_0 [[], [], [(7, 97), (7, 99), (0, 59)], [], [], [], [], [], [], [], [], [], [(6, 79)], [], [], [], [], [], [], [], [], [], [], []] = true := by decide +kernel
theorem kb_47_1 : ck_es tb_E "StepCodeModel" "body" prog_13_method_26_code [] true mc_47_1 [[(6, 76)], [], [], [(7, 113), (7, 114)], [], [], [], [], [], [], [(6, 80)], [], [], [], [], [], []] = true := by decide +kernel
theorem kf_47 : ck_m ⟨"StepCodeModel", "body", "(I)Z"⟩ 4 (some .boolean) mt_47 = true := by decide +kernel
theorem km_47 {D : ar_D} {lim : Nat × Nat} {b : Nat} {B : Heap} (hE : ck_env tb_E (tb_G D lim b B) tb_Ts tb_I ah_P) : am_mok (tb_G D lim b B) tb_Ts tb_I ah_P ⟨"StepCodeModel", "body", "(I)Z"⟩ prog_13_method_26_code 4 (some .boolean) [] mt_47 :=
  ck_mok (hn := true) hE (fun _ => rfl) kf_47 (trivial) (List.forall_mem_cons.mpr ⟨ck_es_ok hE _ _ kb_47_0, List.forall_mem_cons.mpr ⟨ck_es_ok hE _ _ kb_47_1, fun _ h => absurd h List.not_mem_nil⟩⟩)
-- StepCodeModel.all(II)Z
theorem kb_48_0 : ck_es tb_E "StepCodeModel" "all" prog_13_method_27_code [] true mc_48_0 [[], [], [], [], [], [], [], [], [], [], [(6, 76)], [], [], [], [], [], [], [], [], [], [(6, 80)], [], [], []] = true := by decide +kernel
theorem kb_48_1 : ck_es tb_E "StepCodeModel" "all" prog_13_method_27_code [] true mc_48_1 [[], [], []] = true := by decide +kernel
theorem kf_48 : ck_m ⟨"StepCodeModel", "all", "(II)Z"⟩ 5 (some .boolean) mt_48 = true := by decide +kernel
theorem km_48 {D : ar_D} {lim : Nat × Nat} {b : Nat} {B : Heap} (hE : ck_env tb_E (tb_G D lim b B) tb_Ts tb_I ah_P) : am_mok (tb_G D lim b B) tb_Ts tb_I ah_P ⟨"StepCodeModel", "all", "(II)Z"⟩ prog_13_method_27_code 5 (some .boolean) [] mt_48 :=
  ck_mok (hn := true) hE (fun _ => rfl) kf_48 (trivial) (List.forall_mem_cons.mpr ⟨ck_es_ok hE _ _ kb_48_0, List.forall_mem_cons.mpr ⟨ck_es_ok hE _ _ kb_48_1, fun _ h => absurd h List.not_mem_nil⟩⟩)
-- StepCodeModel.objectOf(I)I
theorem kb_49_0 : ck_es tb_E "StepCodeModel" "objectOf" prog_13_method_28_code [] true mc_49_0 [[], [(6, 76)], [], [], [], [], [], [(6, 77)], [], [], [], [], [], [(6, 77)], [], [], [], []] = true := by decide +kernel
theorem kf_49 : ck_m ⟨"StepCodeModel", "objectOf", "(I)I"⟩ 2 (some .int) mt_49 = true := by decide +kernel
theorem km_49 {D : ar_D} {lim : Nat × Nat} {b : Nat} {B : Heap} (hE : ck_env tb_E (tb_G D lim b B) tb_Ts tb_I ah_P) : am_mok (tb_G D lim b B) tb_Ts tb_I ah_P ⟨"StepCodeModel", "objectOf", "(I)I"⟩ prog_13_method_28_code 2 (some .int) [] mt_49 :=
  ck_mok (hn := true) hE (fun _ => rfl) kf_49 (trivial) (List.forall_mem_cons.mpr ⟨ck_es_ok hE _ _ kb_49_0, fun _ h => absurd h List.not_mem_nil⟩)
-- StepCodeModel.isObject(II)Z
theorem kb_50_0 : ck_es tb_E "StepCodeModel" "isObject" prog_13_method_29_code [] true mc_50_0 [[], [], [(7, 97), (7, 99), (0, 59)], [], [], [], [], [], []] = true := by decide +kernel
theorem kf_50 : ck_m ⟨"StepCodeModel", "isObject", "(II)Z"⟩ 3 (some .boolean) mt_50 = true := by decide +kernel
theorem km_50 {D : ar_D} {lim : Nat × Nat} {b : Nat} {B : Heap} (hE : ck_env tb_E (tb_G D lim b B) tb_Ts tb_I ah_P) : am_mok (tb_G D lim b B) tb_Ts tb_I ah_P ⟨"StepCodeModel", "isObject", "(II)Z"⟩ prog_13_method_29_code 3 (some .boolean) [] mt_50 :=
  ck_mok (hn := true) hE (fun _ => rfl) kf_50 (trivial) (List.forall_mem_cons.mpr ⟨ck_es_ok hE _ _ kb_50_0, fun _ h => absurd h List.not_mem_nil⟩)
-- StepCodeModel.rowObject(I)Z
theorem kb_51_0 : ck_es tb_E "StepCodeModel" "rowObject" prog_13_method_30_code [] true mc_51_0 [[], [], [], [(7, 105), (7, 107), (0, 61)], [], [], [], [], [(7, 105), (7, 107), (0, 61)], [], [], [(6, 65)], [], [], [(7, 109), (7, 111), (0, 62)], [], [], [], [], [], [], []] = true := by decide +kernel
theorem kf_51 : ck_m ⟨"StepCodeModel", "rowObject", "(I)Z"⟩ 2 (some .boolean) mt_51 = true := by decide +kernel
theorem km_51 {D : ar_D} {lim : Nat × Nat} {b : Nat} {B : Heap} (hE : ck_env tb_E (tb_G D lim b B) tb_Ts tb_I ah_P) : am_mok (tb_G D lim b B) tb_Ts tb_I ah_P ⟨"StepCodeModel", "rowObject", "(I)Z"⟩ prog_13_method_30_code 2 (some .boolean) [] mt_51 :=
  ck_mok (hn := true) hE (fun _ => rfl) kf_51 (trivial) (List.forall_mem_cons.mpr ⟨ck_es_ok hE _ _ kb_51_0, fun _ h => absurd h List.not_mem_nil⟩)
-- StepCodeModel.aims(II)Z
theorem kb_52_0 : ck_es tb_E "StepCodeModel" "aims" prog_13_method_31_code [] true mc_52_0 [[], [], [(7, 97), (7, 99), (0, 59)], [], [], [], [], [(7, 97), (7, 99), (0, 59)], [], [], [], [], [], [], [], [], [], [], [(6, 79)], [], [], [], [], []] = true := by decide +kernel
theorem kb_52_1 : ck_es tb_E "StepCodeModel" "aims" prog_13_method_31_code [] true mc_52_1 [[(7, 105), (7, 107), (0, 61)], []] = true := by decide +kernel
theorem kf_52 : ck_m ⟨"StepCodeModel", "aims", "(II)Z"⟩ 4 (some .boolean) mt_52 = true := by decide +kernel
theorem km_52 {D : ar_D} {lim : Nat × Nat} {b : Nat} {B : Heap} (hE : ck_env tb_E (tb_G D lim b B) tb_Ts tb_I ah_P) : am_mok (tb_G D lim b B) tb_Ts tb_I ah_P ⟨"StepCodeModel", "aims", "(II)Z"⟩ prog_13_method_31_code 4 (some .boolean) [] mt_52 :=
  ck_mok (hn := true) hE (fun _ => rfl) kf_52 (trivial) (List.forall_mem_cons.mpr ⟨ck_es_ok hE _ _ kb_52_0, List.forall_mem_cons.mpr ⟨ck_es_ok hE _ _ kb_52_1, fun _ h => absurd h List.not_mem_nil⟩⟩)
-- StepCodeModel.inLoop(I)Z
theorem kb_53_0 : ck_es tb_E "StepCodeModel" "inLoop" prog_13_method_32_code [] true mc_53_0 [[], [], [], [(6, 81)], [], [], [], [], [], [], [], [], [], [(6, 76)], [], [], [], [], [], [(6, 76)], [], [], [], []] = true := by decide +kernel
theorem kb_53_1 : ck_es tb_E "StepCodeModel" "inLoop" prog_13_method_32_code [] true mc_53_1 [[], [], [], [], [], [(6, 81)], [], [], [], [], [], []] = true := by decide +kernel
theorem kf_53 : ck_m ⟨"StepCodeModel", "inLoop", "(I)Z"⟩ 4 (some .boolean) mt_53 = true := by decide +kernel
theorem km_53 {D : ar_D} {lim : Nat × Nat} {b : Nat} {B : Heap} (hE : ck_env tb_E (tb_G D lim b B) tb_Ts tb_I ah_P) : am_mok (tb_G D lim b B) tb_Ts tb_I ah_P ⟨"StepCodeModel", "inLoop", "(I)Z"⟩ prog_13_method_32_code 4 (some .boolean) [] mt_53 :=
  ck_mok (hn := true) hE (fun _ => rfl) kf_53 (trivial) (List.forall_mem_cons.mpr ⟨ck_es_ok hE _ _ kb_53_0, List.forall_mem_cons.mpr ⟨ck_es_ok hE _ _ kb_53_1, fun _ h => absurd h List.not_mem_nil⟩⟩)
-- StepCodeModel.valued(I)Z
theorem kb_54_0 : ck_es tb_E "StepCodeModel" "valued" prog_13_method_33_code [] true mc_54_0 [[], [], [], [], [], [], [], [], [], [], [], [], [], [], [], [], [], [], [], [], [], [], [], []] = true := by decide +kernel
theorem kb_54_1 : ck_es tb_E "StepCodeModel" "valued" prog_13_method_33_code [] true mc_54_1 [[], [], [], [], [], [], [], [], [], []] = true := by decide +kernel
theorem kf_54 : ck_m ⟨"StepCodeModel", "valued", "(I)Z"⟩ 2 (some .boolean) mt_54 = true := by decide +kernel
theorem km_54 {D : ar_D} {lim : Nat × Nat} {b : Nat} {B : Heap} (hE : ck_env tb_E (tb_G D lim b B) tb_Ts tb_I ah_P) : am_mok (tb_G D lim b B) tb_Ts tb_I ah_P ⟨"StepCodeModel", "valued", "(I)Z"⟩ prog_13_method_33_code 2 (some .boolean) [] mt_54 :=
  ck_mok (hn := true) hE (fun _ => rfl) kf_54 (trivial) (List.forall_mem_cons.mpr ⟨ck_es_ok hE _ _ kb_54_0, List.forall_mem_cons.mpr ⟨ck_es_ok hE _ _ kb_54_1, fun _ h => absurd h List.not_mem_nil⟩⟩)
-- StepCodeModel.right(I)Z
theorem kb_55_0 : ck_es tb_E "StepCodeModel" "right" prog_13_method_34_code [] true mc_55_0 [[], [(6, 82)], [], [], [], [], [], [], [(6, 76)], [], [], [(7, 78), (7, 80), (0, 55)], [], [], [(6, 77)], [], [], [], [], [], [], [(6, 76)], [], []] = true := by decide +kernel
theorem kb_55_1 : ck_es tb_E "StepCodeModel" "right" prog_13_method_34_code [] true mc_55_1 [[(7, 82), (7, 83)], [], [], [], [(7, 85), (7, 87), (0, 56)], [], [], [(6, 76)], [], [], [(7, 113), (7, 114)], [], [], [], [(7, 116), (7, 118), (0, 63)], [], [], [], [(7, 136), (7, 138), (0, 68)], []] = true := by decide +kernel
theorem kf_55 : ck_m ⟨"StepCodeModel", "right", "(I)Z"⟩ 2 (some .boolean) mt_55 = true := by decide +kernel
theorem km_55 {D : ar_D} {lim : Nat × Nat} {b : Nat} {B : Heap} (hE : ck_env tb_E (tb_G D lim b B) tb_Ts tb_I ah_P) : am_mok (tb_G D lim b B) tb_Ts tb_I ah_P ⟨"StepCodeModel", "right", "(I)Z"⟩ prog_13_method_34_code 2 (some .boolean) [] mt_55 :=
  ck_mok (hn := true) hE (fun _ => rfl) kf_55 (trivial) (List.forall_mem_cons.mpr ⟨ck_es_ok hE _ _ kb_55_0, List.forall_mem_cons.mpr ⟨ck_es_ok hE _ _ kb_55_1, fun _ h => absurd h List.not_mem_nil⟩⟩)
-- StepCodeModel.rightExpression(I)Z
theorem kb_56_0 : ck_es tb_E "StepCodeModel" "rightExpression" prog_13_method_35_code [] true mc_56_0 [[], [(6, 78)], [], [], [], [], [(6, 77)], [], [], [], [], [], [], [(7, 89), (7, 91), (0, 57)], [], [], [], [], [(7, 89), (7, 91), (0, 57)], [], [], [(6, 76)], [], []] = true := by decide +kernel
theorem kb_56_1 : ck_es tb_E "StepCodeModel" "rightExpression" prog_13_method_35_code [] true mc_56_1 [[], [], [], [], [(7, 5)], [], [], [], [], [], [], [], [], [], [], [], [], [], [], [], [], [], [], []] = true := by decide +kernel
theorem kb_56_2 : ck_es tb_E "StepCodeModel" "rightExpression" prog_13_method_35_code [] true mc_56_2 [[], [], [], [], [], [(7, 93), (7, 95), (0, 58)], [], [], [], [], [], [], [], [], [], [], [], [], [], [], [], [(7, 97), (7, 99), (0, 59)], [(7, 82), (7, 83)], []] = true := by decide +kernel
theorem kb_56_3 : ck_es tb_E "StepCodeModel" "rightExpression" prog_13_method_35_code [] true mc_56_3 [[], [], [], [], [], [], [], [], [], [], [], [], [], [], [(7, 97), (7, 99), (0, 59)], [(7, 82), (7, 83)], [], [], [], [(7, 97), (7, 99), (0, 59)], [(7, 82), (7, 83)], [], [], []] = true := by decide +kernel
theorem kb_56_4 : ck_es tb_E "StepCodeModel" "rightExpression" prog_13_method_35_code [] true mc_56_4 [[], [], [], [], [], [], [], [], [(6, 71)], [], [], [], [], [], [], [], [], [], [], [], [(6, 73)], [], [], []] = true := by decide +kernel
theorem kb_56_5 : ck_es tb_E "StepCodeModel" "rightExpression" prog_13_method_35_code [] true mc_56_5 [[], [], [], [], [], [], [], [(7, 101), (7, 103), (0, 60)], [], [], [], [(7, 97), (7, 99), (0, 59)], [(7, 82), (7, 83)], [], [], [], [], [], [], [], [], [(7, 89), (7, 91), (0, 57)], [], []] = true := by decide +kernel
theorem kb_56_6 : ck_es tb_E "StepCodeModel" "rightExpression" prog_13_method_35_code [] true mc_56_6 [[], [], [], [], [(7, 101), (7, 103), (0, 60)], [], [], [], [(7, 97), (7, 99), (0, 59)], [], [], [], [], [(7, 97), (7, 99), (0, 59)], [], [], [], [(6, 77)], [], [], [], [], [(6, 77)], []] = true := by decide +kernel
theorem kb_56_7 : ck_es tb_E "StepCodeModel" "rightExpression" prog_13_method_35_code [] true mc_56_7 [[], [], [], [], [(6, 77)], [], [], [], [], [(6, 77)], [], [], [], [], [], [(6, 66)], [], [], [(7, 109), (7, 111), (0, 62)], [], [], [], [], []] = true := by decide +kernel
theorem kb_56_8 : ck_es tb_E "StepCodeModel" "rightExpression" prog_13_method_35_code [] true mc_56_8 [[], [], [], [], [], [], [], [], [], [], [], [], [], [], [], [(7, 105), (7, 107), (0, 61)], [], [], [(6, 65)], [], [(6, 77)], [], [], []] = true := by decide +kernel
theorem kb_56_9 : ck_es tb_E "StepCodeModel" "rightExpression" prog_13_method_35_code [] true mc_56_9 [[], [], [], [], [], [], [], [], [], [], [], [], [], [(7, 97), (7, 99), (0, 59)], [(7, 82), (7, 83)], [], [], [], [], [], [], [], [], []] = true := by decide +kernel
theorem kb_56_10 : ck_es tb_E "StepCodeModel" "rightExpression" prog_13_method_35_code [] true mc_56_10 [[], [], [], [], [(7, 97), (7, 99), (0, 59)], [(7, 82), (7, 83)], [], [], [], [(7, 97), (7, 99), (0, 59)], [], [], [], [(6, 77)], [], [], [], [], [], [(6, 77)], [], [], [], []] = true := by decide +kernel
theorem kb_56_11 : ck_es tb_E "StepCodeModel" "rightExpression" prog_13_method_35_code [] true mc_56_11 [[], [], [], [], [], [], [], [], [], [], [], [], [], [], [], [], [(7, 105), (7, 107), (0, 61)], [], [], [], [], []] = true := by decide +kernel
theorem kf_56 : ck_m ⟨"StepCodeModel", "rightExpression", "(I)Z"⟩ 7 (some .boolean) mt_56 = true := by decide +kernel
theorem km_56 {D : ar_D} {lim : Nat × Nat} {b : Nat} {B : Heap} (hE : ck_env tb_E (tb_G D lim b B) tb_Ts tb_I ah_P) : am_mok (tb_G D lim b B) tb_Ts tb_I ah_P ⟨"StepCodeModel", "rightExpression", "(I)Z"⟩ prog_13_method_35_code 7 (some .boolean) [] mt_56 :=
  ck_mok (hn := true) hE (fun _ => rfl) kf_56 (trivial) (List.forall_mem_cons.mpr ⟨ck_es_ok hE _ _ kb_56_0, List.forall_mem_cons.mpr ⟨ck_es_ok hE _ _ kb_56_1, List.forall_mem_cons.mpr ⟨ck_es_ok hE _ _ kb_56_2, List.forall_mem_cons.mpr ⟨ck_es_ok hE _ _ kb_56_3, List.forall_mem_cons.mpr ⟨ck_es_ok hE _ _ kb_56_4, List.forall_mem_cons.mpr ⟨ck_es_ok hE _ _ kb_56_5, List.forall_mem_cons.mpr ⟨ck_es_ok hE _ _ kb_56_6, List.forall_mem_cons.mpr ⟨ck_es_ok hE _ _ kb_56_7, List.forall_mem_cons.mpr ⟨ck_es_ok hE _ _ kb_56_8, List.forall_mem_cons.mpr ⟨ck_es_ok hE _ _ kb_56_9, List.forall_mem_cons.mpr ⟨ck_es_ok hE _ _ kb_56_10, List.forall_mem_cons.mpr ⟨ck_es_ok hE _ _ kb_56_11, fun _ h => absurd h List.not_mem_nil⟩⟩⟩⟩⟩⟩⟩⟩⟩⟩⟩⟩)
-- StepCodeModel.rightStatement(I)Z
theorem kb_57_0 : ck_es tb_E "StepCodeModel" "rightStatement" prog_13_method_36_code [] true mc_57_0 [[], [(6, 78)], [], [], [], [], [], [], [(7, 89), (7, 91), (0, 57)], [], [], [], [], [(7, 89), (7, 91), (0, 57)], [], [], [], [], [(7, 89), (7, 91), (0, 57)], [], [], [], [(7, 97), (7, 99), (0, 59)], [(7, 82), (7, 83)]] = true := by decide +kernel
theorem kb_57_1 : ck_es tb_E "StepCodeModel" "rightStatement" prog_13_method_36_code [] true mc_57_1 [[], [], [], [(7, 97), (7, 99), (0, 59)], [(7, 82), (7, 83)], [], [], [(6, 76)], [], [], [], [], [(6, 77)], [], [], [], [], [], [], [], [], [], [], []] = true := by decide +kernel
theorem kb_57_2 : ck_es tb_E "StepCodeModel" "rightStatement" prog_13_method_36_code [] true mc_57_2 [[], [], [], [], [], [], [], [], [], [], [], [], [], [], [], [(7, 120), (7, 122), (0, 64)], [], [], [], [], [], [], [(7, 97), (7, 99), (0, 59)], []] = true := by decide +kernel
theorem kb_57_3 : ck_es tb_E "StepCodeModel" "rightStatement" prog_13_method_36_code [] true mc_57_3 [[], [], [], [], [], [], [], [], [], [(7, 93), (7, 95), (0, 58)], [], [], [], [], [], [], [], [], [], [], [], [(7, 120), (7, 122), (0, 64)], [], []] = true := by decide +kernel
theorem kb_57_4 : ck_es tb_E "StepCodeModel" "rightStatement" prog_13_method_36_code [] true mc_57_4 [[], [], [], [], [], [], [], [], [], [], [(7, 124), (7, 126), (0, 65)], [], [], [], [], [], [], [], [], [], [], [], [], []] = true := by decide +kernel
theorem kb_57_5 : ck_es tb_E "StepCodeModel" "rightStatement" prog_13_method_36_code [] true mc_57_5 [[(7, 93), (7, 95), (0, 58)], [], [], [], [], [], [], [], [], [], [], [], [(7, 105), (7, 107), (0, 61)], [], [], [(6, 65)], [], [], [(7, 109), (7, 111), (0, 62)], [], [], [], [], []] = true := by decide +kernel
theorem kb_57_6 : ck_es tb_E "StepCodeModel" "rightStatement" prog_13_method_36_code [] true mc_57_6 [[], [], [(7, 97), (7, 99), (0, 59)], [(7, 82), (7, 83)], [], [], [], [], [], [(7, 89), (7, 91), (0, 57)], [(7, 128), (7, 130), (0, 66)], [], [], [], [], [], [], [], [], [], [], [], [], [(7, 128), (7, 130), (0, 66)]] = true := by decide +kernel
theorem kb_57_7 : ck_es tb_E "StepCodeModel" "rightStatement" prog_13_method_36_code [] true mc_57_7 [[], [], [], [], [], [], [], [], [], [], [(7, 128), (7, 130), (0, 66)], [], [], [], [], [], [], [], [], [], [], [], [], [(7, 97), (7, 99), (0, 59)]] = true := by decide +kernel
theorem kb_57_8 : ck_es tb_E "StepCodeModel" "rightStatement" prog_13_method_36_code [] true mc_57_8 [[], [], [], [(7, 132), (7, 134), (0, 67)], [], [], [], [], [], [], [], [], [], [], [(7, 97), (7, 99), (0, 59)], [], [], [], [], [(6, 79)], [], [], [], [(7, 93), (7, 95), (0, 58)]] = true := by decide +kernel
theorem kb_57_9 : ck_es tb_E "StepCodeModel" "rightStatement" prog_13_method_36_code [] true mc_57_9 [[], [], [], [], [], [(7, 97), (7, 99), (0, 59)], [], [], [], [(7, 97), (7, 99), (0, 59)], [], [], [], [], [(7, 97), (7, 99), (0, 59)], [], [], [], [], [], [], [], [], []] = true := by decide +kernel
theorem kb_57_10 : ck_es tb_E "StepCodeModel" "rightStatement" prog_13_method_36_code [] true mc_57_10 [[], [], [], [], [], [], [], [], [], [], [], [], [], [], [], [], [], [], [], [], [], []] = true := by decide +kernel
theorem kf_57 : ck_m ⟨"StepCodeModel", "rightStatement", "(I)Z"⟩ 10 (some .boolean) mt_57 = true := by decide +kernel
theorem km_57 {D : ar_D} {lim : Nat × Nat} {b : Nat} {B : Heap} (hE : ck_env tb_E (tb_G D lim b B) tb_Ts tb_I ah_P) : am_mok (tb_G D lim b B) tb_Ts tb_I ah_P ⟨"StepCodeModel", "rightStatement", "(I)Z"⟩ prog_13_method_36_code 10 (some .boolean) [] mt_57 :=
  ck_mok (hn := true) hE (fun _ => rfl) kf_57 (trivial) (List.forall_mem_cons.mpr ⟨ck_es_ok hE _ _ kb_57_0, List.forall_mem_cons.mpr ⟨ck_es_ok hE _ _ kb_57_1, List.forall_mem_cons.mpr ⟨ck_es_ok hE _ _ kb_57_2, List.forall_mem_cons.mpr ⟨ck_es_ok hE _ _ kb_57_3, List.forall_mem_cons.mpr ⟨ck_es_ok hE _ _ kb_57_4, List.forall_mem_cons.mpr ⟨ck_es_ok hE _ _ kb_57_5, List.forall_mem_cons.mpr ⟨ck_es_ok hE _ _ kb_57_6, List.forall_mem_cons.mpr ⟨ck_es_ok hE _ _ kb_57_7, List.forall_mem_cons.mpr ⟨ck_es_ok hE _ _ kb_57_8, List.forall_mem_cons.mpr ⟨ck_es_ok hE _ _ kb_57_9, List.forall_mem_cons.mpr ⟨ck_es_ok hE _ _ kb_57_10, fun _ h => absurd h List.not_mem_nil⟩⟩⟩⟩⟩⟩⟩⟩⟩⟩⟩)
-- StepCodeModel.rightBranch(I)Z
theorem kb_58_0 : ck_es tb_E "StepCodeModel" "rightBranch" prog_13_method_37_code [] true mc_58_0 [[], [], [], [], [], [(6, 79)], [], [], [], [], [], [], [], [], [], [], [], [], [(6, 80)], [], [], [], [], []] = true := by decide +kernel
theorem kb_58_1 : ck_es tb_E "StepCodeModel" "rightBranch" prog_13_method_37_code [] true mc_58_1 [[], [], [], [], [], [], [], [], [], [(7, 128), (7, 130), (0, 66)], [], [], [], [(6, 76)], [], [], [(7, 82), (7, 83)], [], [], [], [], [], [], []] = true := by decide +kernel
theorem kb_58_2 : ck_es tb_E "StepCodeModel" "rightBranch" prog_13_method_37_code [] true mc_58_2 [[(6, 80)], [], [], [], [], [], []] = true := by decide +kernel
theorem kf_58 : ck_m ⟨"StepCodeModel", "rightBranch", "(I)Z"⟩ 6 (some .boolean) mt_58 = true := by decide +kernel
theorem km_58 {D : ar_D} {lim : Nat × Nat} {b : Nat} {B : Heap} (hE : ck_env tb_E (tb_G D lim b B) tb_Ts tb_I ah_P) : am_mok (tb_G D lim b B) tb_Ts tb_I ah_P ⟨"StepCodeModel", "rightBranch", "(I)Z"⟩ prog_13_method_37_code 6 (some .boolean) [] mt_58 :=
  ck_mok (hn := true) hE (fun _ => rfl) kf_58 (trivial) (List.forall_mem_cons.mpr ⟨ck_es_ok hE _ _ kb_58_0, List.forall_mem_cons.mpr ⟨ck_es_ok hE _ _ kb_58_1, List.forall_mem_cons.mpr ⟨ck_es_ok hE _ _ kb_58_2, fun _ h => absurd h List.not_mem_nil⟩⟩⟩)
