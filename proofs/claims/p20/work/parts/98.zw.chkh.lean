/-! TABLES of the abstract machine, by program (wip/tools/gen2.py) out of the claim's listing and words -/
-- StepCode$Looker.isRightStatement(III)Z
theorem kb_167_0 : ck_es tb_E "StepCode$Looker" "isRightStatement" prog_4_method_6_code [] true mc_167_0 [[], [], [], [], [], [], [], [], [], [], [], [], [], [], [], [], [(3, 79), (3, 81), (0, 2)], [], [], [], [], [], [(3, 135), (3, 137), (0, 13)], []] = true := by decide +kernel
theorem kb_167_1 : ck_es tb_E "StepCode$Looker" "isRightStatement" prog_4_method_6_code [] true mc_167_1 [[], [], [], [], [], [], [], [], [], [(1, 129)], [], [], [(3, 87), (3, 88), (3, 89)], [], [(3, 98), (3, 100), (0, 5)], [], [], [], [], [(3, 79), (3, 81), (0, 2)], [], [], [], []] = true := by decide +kernel
theorem kb_167_2 : ck_es tb_E "StepCode$Looker" "isRightStatement" prog_4_method_6_code [] true mc_167_2 [[], [], [], [], [(3, 139), (3, 141), (0, 14)], [], [], [], [], [], [], [], [(3, 79), (3, 81), (0, 2)], [], [], [], [], [], [(3, 102), (3, 104), (0, 6)], [], [], [], [], []] = true := by decide +kernel
theorem kb_167_3 : ck_es tb_E "StepCode$Looker" "isRightStatement" prog_4_method_6_code [] true mc_167_3 [[], [], [], [], [], [(1, 129)], [], [], [(3, 87), (3, 88), (3, 89)], [(3, 150), (3, 152), (0, 16)], [], [], [], [(1, 129)], [], [], [(3, 87), (3, 88), (3, 89)], [(3, 143), (3, 145), (0, 15)], [], [], [], [], [], []] = true := by decide +kernel
theorem kb_167_4 : ck_es tb_E "StepCode$Looker" "isRightStatement" prog_4_method_6_code [] true mc_167_4 [[], [], [], [], [], [(3, 83), (3, 85), (0, 3)], [], [], [], [], [(1, 129)], [], [], [(3, 87), (3, 88), (3, 89)], [], [(3, 119), (3, 121), (0, 9)], [], [], [], [], [(3, 79), (3, 81), (0, 2)], [], [], []] = true := by decide +kernel
theorem kb_167_5 : ck_es tb_E "StepCode$Looker" "isRightStatement" prog_4_method_6_code [] true mc_167_5 [[], [(3, 79), (3, 81), (0, 2)], [], [], [], [(1, 129)], [], [], [(3, 87), (3, 88), (3, 89)], [(3, 143), (3, 145), (0, 15)], [], [], [], [], [], [], [], [], [], [], [], [(3, 79), (3, 81), (0, 2)], [], []] = true := by decide +kernel
theorem kb_167_6 : ck_es tb_E "StepCode$Looker" "isRightStatement" prog_4_method_6_code [] true mc_167_6 [[], [(1, 129)], [], [], [(3, 87), (3, 88), (3, 89)], [(3, 143), (3, 145), (0, 15)], [], [], [], [], [], [], [], [], [], [], [(1, 129)], [], [], [(3, 87), (3, 88), (3, 89)], [(3, 143), (3, 145), (0, 15)], [], [], []] = true := by decide +kernel
theorem kb_167_7 : ck_es tb_E "StepCode$Looker" "isRightStatement" prog_4_method_6_code [] true mc_167_7 [[], [], [], [], [], [], [], [], [(3, 154), (3, 156), (0, 17)], [], [], [(1, 129)], [], [(3, 158), (3, 159), (3, 160)], [], [], [], [], [], [], [], [], [], []] = true := by decide +kernel
theorem kb_167_8 : ck_es tb_E "StepCode$Looker" "isRightStatement" prog_4_method_6_code [] true mc_167_8 [[], [(1, 129)], [], [], [(3, 87), (3, 88), (3, 89)], [(3, 171), (3, 173), (0, 18)], [], [], [], [], [(3, 154), (3, 156), (0, 17)], [], [], [], [], [], [(3, 135), (3, 137), (0, 13)], [], [], [], [], [], [], []] = true := by decide +kernel
theorem kb_167_9 : ck_es tb_E "StepCode$Looker" "isRightStatement" prog_4_method_6_code [] true mc_167_9 [[], [], [], [], [(3, 79), (3, 81), (0, 2)], [], [], [], [], [], [], [], [], [], [], [], [(3, 79), (3, 81), (0, 2)], [], [], [], [], [(3, 79), (3, 81), (0, 2)], [], []] = true := by decide +kernel
theorem kb_167_10 : ck_es tb_E "StepCode$Looker" "isRightStatement" prog_4_method_6_code [] true mc_167_10 [[], [], [], [], []] = true := by decide +kernel
theorem kf_167 : ck_m ⟨"StepCode$Looker", "isRightStatement", "(III)Z"⟩ 4 (some .boolean) mt_167 = true := by decide +kernel
theorem km_167 {D : ar_D} {lim : Nat × Nat} {b : Nat} {B : Heap} (hE : ck_env tb_E (tb_G D lim b B) tb_Ts tb_I ah_P) : am_mok (tb_G D lim b B) tb_Ts tb_I ah_P ⟨"StepCode$Looker", "isRightStatement", "(III)Z"⟩ prog_4_method_6_code 4 (some .boolean) [] mt_167 :=
  ck_mok (hn := true) hE (fun _ => rfl) kf_167 (trivial) (List.forall_mem_cons.mpr ⟨ck_es_ok hE _ _ kb_167_0, List.forall_mem_cons.mpr ⟨ck_es_ok hE _ _ kb_167_1, List.forall_mem_cons.mpr ⟨ck_es_ok hE _ _ kb_167_2, List.forall_mem_cons.mpr ⟨ck_es_ok hE _ _ kb_167_3, List.forall_mem_cons.mpr ⟨ck_es_ok hE _ _ kb_167_4, List.forall_mem_cons.mpr ⟨ck_es_ok hE _ _ kb_167_5, List.forall_mem_cons.mpr ⟨ck_es_ok hE _ _ kb_167_6, List.forall_mem_cons.mpr ⟨ck_es_ok hE _ _ kb_167_7, List.forall_mem_cons.mpr ⟨ck_es_ok hE _ _ kb_167_8, List.forall_mem_cons.mpr ⟨ck_es_ok hE _ _ kb_167_9, List.forall_mem_cons.mpr ⟨ck_es_ok hE _ _ kb_167_10, fun _ h => absurd h List.not_mem_nil⟩⟩⟩⟩⟩⟩⟩⟩⟩⟩⟩)
-- StepCode$Looker.isFunction(III)Z
theorem kb_168_0 : ck_es tb_E "StepCode$Looker" "isFunction" prog_4_method_7_code [] true mc_168_0 [[], [], [], [], [], [], [], [], [(3, 83), (3, 85), (0, 3)], [], [], [], [], [(1, 129)], [], [], [(3, 87), (3, 88), (3, 89)], [], [(3, 119), (3, 121), (0, 9)], [], [], [], [], []] = true := by decide +kernel
theorem kb_168_1 : ck_es tb_E "StepCode$Looker" "isFunction" prog_4_method_7_code [] true mc_168_1 [[], [], [], [], [], [], [(3, 79), (3, 81), (0, 2)], [], [], [], [], [], [], [], [], [], [], [], [(3, 79), (3, 81), (0, 2)], [], [], [], [], [(3, 83), (3, 85), (0, 3)]] = true := by decide +kernel
theorem kb_168_2 : ck_es tb_E "StepCode$Looker" "isFunction" prog_4_method_7_code [] true mc_168_2 [[], [], [], [(1, 129)], [], [(1, 129)], [], [], [(3, 87), (3, 88), (3, 89)], [(3, 67), (3, 68), (3, 69)], [], [], [(3, 72), (3, 73)], [], [], [], [], [], [], []] = true := by decide +kernel
theorem kf_168 : ck_m ⟨"StepCode$Looker", "isFunction", "(III)Z"⟩ 4 (some .boolean) mt_168 = true := by decide +kernel
theorem km_168 {D : ar_D} {lim : Nat × Nat} {b : Nat} {B : Heap} (hE : ck_env tb_E (tb_G D lim b B) tb_Ts tb_I ah_P) : am_mok (tb_G D lim b B) tb_Ts tb_I ah_P ⟨"StepCode$Looker", "isFunction", "(III)Z"⟩ prog_4_method_7_code 4 (some .boolean) [] mt_168 :=
  ck_mok (hn := true) hE (fun _ => rfl) kf_168 (trivial) (List.forall_mem_cons.mpr ⟨ck_es_ok hE _ _ kb_168_0, List.forall_mem_cons.mpr ⟨ck_es_ok hE _ _ kb_168_1, List.forall_mem_cons.mpr ⟨ck_es_ok hE _ _ kb_168_2, fun _ h => absurd h List.not_mem_nil⟩⟩⟩)
-- StepCode$Looker.isPart(I)Z
theorem kb_169_0 : ck_es tb_E "StepCode$Looker" "isPart" prog_4_method_8_code [] true mc_169_0 [[], [], [(1, 129)], [], [], [(3, 87), (3, 88), (3, 89)], [(3, 111), (3, 113), (0, 8)], [], [], [], [], [(2, 207)], [], [], [], [], [], [(3, 83), (3, 85), (0, 3)], [], [], [], [], [], [(3, 83), (3, 85), (0, 3)]] = true := by decide +kernel
theorem kb_169_1 : ck_es tb_E "StepCode$Looker" "isPart" prog_4_method_8_code [] true mc_169_1 [[], [], [], [], [], [(1, 129)], [], [(1, 129)], [], [], [(3, 87), (3, 88), (3, 89)], [(3, 67), (3, 68), (3, 69)], [], [], [(1, 129)], [], [(1, 129)], [], [], [(3, 87), (3, 88), (3, 89)], [(3, 67), (3, 68), (3, 69)], [], [], []] = true := by decide +kernel
theorem kb_169_2 : ck_es tb_E "StepCode$Looker" "isPart" prog_4_method_8_code [] true mc_169_2 [[], [], [], [], [], [(2, 210)], [], [], [], [], [], [], []] = true := by decide +kernel
theorem kf_169 : ck_m ⟨"StepCode$Looker", "isPart", "(I)Z"⟩ 5 (some .boolean) mt_169 = true := by decide +kernel
theorem km_169 {D : ar_D} {lim : Nat × Nat} {b : Nat} {B : Heap} (hE : ck_env tb_E (tb_G D lim b B) tb_Ts tb_I ah_P) : am_mok (tb_G D lim b B) tb_Ts tb_I ah_P ⟨"StepCode$Looker", "isPart", "(I)Z"⟩ prog_4_method_8_code 5 (some .boolean) [] mt_169 :=
  ck_mok (hn := true) hE (fun _ => rfl) kf_169 (trivial) (List.forall_mem_cons.mpr ⟨ck_es_ok hE _ _ kb_169_0, List.forall_mem_cons.mpr ⟨ck_es_ok hE _ _ kb_169_1, List.forall_mem_cons.mpr ⟨ck_es_ok hE _ _ kb_169_2, fun _ h => absurd h List.not_mem_nil⟩⟩⟩)
-- StepCode$Looker.isAssign(I)Z
theorem kb_170_0 : ck_es tb_E "StepCode$Looker" "isAssign" prog_4_method_9_code [] true mc_170_0 [[], [(1, 129)], [], [(3, 67), (3, 68), (3, 69)], [], [], [], [], [], [], [], [], [], [], [], [(3, 72), (3, 73)], [], [], [], [(1, 129)], [], [], [(3, 87), (3, 88), (3, 89)], []] = true := by decide +kernel
theorem kb_170_1 : ck_es tb_E "StepCode$Looker" "isAssign" prog_4_method_9_code [] true mc_170_1 [[(3, 98), (3, 100), (0, 5)], [], [], [], [], [], [], [], [(3, 83), (3, 85), (0, 3)], [], [], [], [(1, 129)], [], [(3, 75), (3, 76), (3, 77)], [], [], [], [], [(3, 72), (3, 73)], [], [], [], []] = true := by decide +kernel
theorem kb_170_2 : ck_es tb_E "StepCode$Looker" "isAssign" prog_4_method_9_code [] true mc_170_2 [[], [(3, 102), (3, 104), (0, 6)], [], [], [], [], []] = true := by decide +kernel
theorem kf_170 : ck_m ⟨"StepCode$Looker", "isAssign", "(I)Z"⟩ 4 (some .boolean) mt_170 = true := by decide +kernel
theorem km_170 {D : ar_D} {lim : Nat × Nat} {b : Nat} {B : Heap} (hE : ck_env tb_E (tb_G D lim b B) tb_Ts tb_I ah_P) : am_mok (tb_G D lim b B) tb_Ts tb_I ah_P ⟨"StepCode$Looker", "isAssign", "(I)Z"⟩ prog_4_method_9_code 4 (some .boolean) [] mt_170 :=
  ck_mok (hn := true) hE (fun _ => rfl) kf_170 (trivial) (List.forall_mem_cons.mpr ⟨ck_es_ok hE _ _ kb_170_0, List.forall_mem_cons.mpr ⟨ck_es_ok hE _ _ kb_170_1, List.forall_mem_cons.mpr ⟨ck_es_ok hE _ _ kb_170_2, fun _ h => absurd h List.not_mem_nil⟩⟩⟩)
-- StepCode$Looker.isIf(II)Z
theorem kb_171_0 : ck_es tb_E "StepCode$Looker" "isIf" prog_4_method_10_code [] true mc_171_0 [[], [], [], [], [], [], [], [], [], [], [(3, 79), (3, 81), (0, 2)], [], [], [], [(1, 129)], [], [], [], [], [(3, 87), (3, 88), (3, 89)], [(3, 143), (3, 145), (0, 15)], [], [], []] = true := by decide +kernel
theorem kb_171_1 : ck_es tb_E "StepCode$Looker" "isIf" prog_4_method_10_code [] true mc_171_1 [[], [], [], [], [], [], [], [], [], [], [], [(1, 129)], [], [], [], [], [(3, 87), (3, 88), (3, 89)], [(3, 143), (3, 145), (0, 15)], [], [], [], [], []] = true := by decide +kernel
theorem kf_171 : ck_m ⟨"StepCode$Looker", "isIf", "(II)Z"⟩ 4 (some .boolean) mt_171 = true := by decide +kernel
theorem km_171 {D : ar_D} {lim : Nat × Nat} {b : Nat} {B : Heap} (hE : ck_env tb_E (tb_G D lim b B) tb_Ts tb_I ah_P) : am_mok (tb_G D lim b B) tb_Ts tb_I ah_P ⟨"StepCode$Looker", "isIf", "(II)Z"⟩ prog_4_method_10_code 4 (some .boolean) [] mt_171 :=
  ck_mok (hn := true) hE (fun _ => rfl) kf_171 (trivial) (List.forall_mem_cons.mpr ⟨ck_es_ok hE _ _ kb_171_0, List.forall_mem_cons.mpr ⟨ck_es_ok hE _ _ kb_171_1, fun _ h => absurd h List.not_mem_nil⟩⟩)
-- StepCode$Looker.isTarget(II)Z
theorem kb_172_0 : ck_es tb_E "StepCode$Looker" "isTarget" prog_4_method_11_code [] true mc_172_0 [[], [(1, 129)], [], [(3, 63), (3, 64), (3, 65)], [], [], [], [], [], [], [], [], [], [], [], [], [], [(3, 83), (3, 85), (0, 3)], [], [], [], [], [], []] = true := by decide +kernel
theorem kf_172 : ck_m ⟨"StepCode$Looker", "isTarget", "(II)Z"⟩ 4 (some .boolean) mt_172 = true := by decide +kernel
theorem km_172 {D : ar_D} {lim : Nat × Nat} {b : Nat} {B : Heap} (hE : ck_env tb_E (tb_G D lim b B) tb_Ts tb_I ah_P) : am_mok (tb_G D lim b B) tb_Ts tb_I ah_P ⟨"StepCode$Looker", "isTarget", "(II)Z"⟩ prog_4_method_11_code 4 (some .boolean) [] mt_172 :=
  ck_mok (hn := true) hE (fun _ => rfl) kf_172 (trivial) (List.forall_mem_cons.mpr ⟨ck_es_ok hE _ _ kb_172_0, fun _ h => absurd h List.not_mem_nil⟩)
-- StepCode$Looker.isStatements(I)Z
theorem kb_173_0 : ck_es tb_E "StepCode$Looker" "isStatements" prog_4_method_12_code [] true mc_173_0 [[], [(1, 129)], [], [(3, 63), (3, 64), (3, 65)], [], [], [], [], [], [], [], [], [(1, 129)], [], [(3, 75), (3, 76), (3, 77)], [], [], [], [], [(3, 83), (3, 85), (0, 3)], [(3, 147), (3, 148)], [], [], []] = true := by decide +kernel
theorem kb_173_1 : ck_es tb_E "StepCode$Looker" "isStatements" prog_4_method_12_code [] true mc_173_1 [[], [], [], []] = true := by decide +kernel
theorem kf_173 : ck_m ⟨"StepCode$Looker", "isStatements", "(I)Z"⟩ 3 (some .boolean) mt_173 = true := by decide +kernel
theorem km_173 {D : ar_D} {lim : Nat × Nat} {b : Nat} {B : Heap} (hE : ck_env tb_E (tb_G D lim b B) tb_Ts tb_I ah_P) : am_mok (tb_G D lim b B) tb_Ts tb_I ah_P ⟨"StepCode$Looker", "isStatements", "(I)Z"⟩ prog_4_method_12_code 3 (some .boolean) [] mt_173 :=
  ck_mok (hn := true) hE (fun _ => rfl) kf_173 (trivial) (List.forall_mem_cons.mpr ⟨ck_es_ok hE _ _ kb_173_0, List.forall_mem_cons.mpr ⟨ck_es_ok hE _ _ kb_173_1, fun _ h => absurd h List.not_mem_nil⟩⟩)
-- StepCode$Looker.isSignals(I)Z
theorem kb_174_0 : ck_es tb_E "StepCode$Looker" "isSignals" prog_4_method_13_code [] true mc_174_0 [[], [(1, 129)], [], [(3, 63), (3, 64), (3, 65)], [], [], [], [], [], [], [(3, 102), (3, 104), (0, 6)], [], [], [], [], []] = true := by decide +kernel
theorem kf_174 : ck_m ⟨"StepCode$Looker", "isSignals", "(I)Z"⟩ 2 (some .boolean) mt_174 = true := by decide +kernel
theorem km_174 {D : ar_D} {lim : Nat × Nat} {b : Nat} {B : Heap} (hE : ck_env tb_E (tb_G D lim b B) tb_Ts tb_I ah_P) : am_mok (tb_G D lim b B) tb_Ts tb_I ah_P ⟨"StepCode$Looker", "isSignals", "(I)Z"⟩ prog_4_method_13_code 2 (some .boolean) [] mt_174 :=
  ck_mok (hn := true) hE (fun _ => rfl) kf_174 (trivial) (List.forall_mem_cons.mpr ⟨ck_es_ok hE _ _ kb_174_0, fun _ h => absurd h List.not_mem_nil⟩)
-- StepCode$Looker.areChoices(I)Z
theorem kb_175_0 : ck_es tb_E "StepCode$Looker" "areChoices" prog_4_method_14_code [] true mc_175_0 [[], [], [], [], [(1, 129)], [], [(3, 75), (3, 76), (3, 77)], [], [], [], [], [(3, 83), (3, 85), (0, 3)], [], [], [], [], [], [], [], [(3, 72), (3, 73)], [], [], [], []] = true := by decide +kernel
theorem kb_175_1 : ck_es tb_E "StepCode$Looker" "areChoices" prog_4_method_14_code [] true mc_175_1 [[], [], [(1, 129)], [], [(3, 63), (3, 64), (3, 65)], [], [], [], [(1, 129)], [], [(3, 75), (3, 76), (3, 77)], [], [], [], [], [], []] = true := by decide +kernel
theorem kf_175 : ck_m ⟨"StepCode$Looker", "areChoices", "(I)Z"⟩ 4 (some .boolean) mt_175 = true := by decide +kernel
theorem km_175 {D : ar_D} {lim : Nat × Nat} {b : Nat} {B : Heap} (hE : ck_env tb_E (tb_G D lim b B) tb_Ts tb_I ah_P) : am_mok (tb_G D lim b B) tb_Ts tb_I ah_P ⟨"StepCode$Looker", "areChoices", "(I)Z"⟩ prog_4_method_14_code 4 (some .boolean) [] mt_175 :=
  ck_mok (hn := true) hE (fun _ => rfl) kf_175 (trivial) (List.forall_mem_cons.mpr ⟨ck_es_ok hE _ _ kb_175_0, List.forall_mem_cons.mpr ⟨ck_es_ok hE _ _ kb_175_1, fun _ h => absurd h List.not_mem_nil⟩⟩)
-- StepCode$Looker.areKids(III)Z
theorem kb_176_0 : ck_es tb_E "StepCode$Looker" "areKids" prog_4_method_15_code [] true mc_176_0 [[], [], [], [], [(1, 129)], [], [(3, 75), (3, 76), (3, 77)], [], [], [], [], [(3, 83), (3, 85), (0, 3)], [], [], [], [], [], [], [], []] = true := by decide +kernel
theorem kf_176 : ck_m ⟨"StepCode$Looker", "areKids", "(III)Z"⟩ 5 (some .boolean) mt_176 = true := by decide +kernel
theorem km_176 {D : ar_D} {lim : Nat × Nat} {b : Nat} {B : Heap} (hE : ck_env tb_E (tb_G D lim b B) tb_Ts tb_I ah_P) : am_mok (tb_G D lim b B) tb_Ts tb_I ah_P ⟨"StepCode$Looker", "areKids", "(III)Z"⟩ prog_4_method_15_code 5 (some .boolean) [] mt_176 :=
  ck_mok (hn := true) hE (fun _ => rfl) kf_176 (trivial) (List.forall_mem_cons.mpr ⟨ck_es_ok hE _ _ kb_176_0, fun _ h => absurd h List.not_mem_nil⟩)
-- StepCode$Looker.isKidOrNothing(III)Z
theorem kb_177_0 : ck_es tb_E "StepCode$Looker" "isKidOrNothing" prog_4_method_16_code [] true mc_177_0 [[], [], [], [(3, 83), (3, 85), (0, 3)], [], [], [], [], [], [], [], [], [], []] = true := by decide +kernel
theorem kf_177 : ck_m ⟨"StepCode$Looker", "isKidOrNothing", "(III)Z"⟩ 5 (some .boolean) mt_177 = true := by decide +kernel
theorem km_177 {D : ar_D} {lim : Nat × Nat} {b : Nat} {B : Heap} (hE : ck_env tb_E (tb_G D lim b B) tb_Ts tb_I ah_P) : am_mok (tb_G D lim b B) tb_Ts tb_I ah_P ⟨"StepCode$Looker", "isKidOrNothing", "(III)Z"⟩ prog_4_method_16_code 5 (some .boolean) [] mt_177 :=
  ck_mok (hn := true) hE (fun _ => rfl) kf_177 (trivial) (List.forall_mem_cons.mpr ⟨ck_es_ok hE _ _ kb_177_0, fun _ h => absurd h List.not_mem_nil⟩)
-- StepCode$Looker.isExpressionOrNothing(II)Z
theorem kb_178_0 : ck_es tb_E "StepCode$Looker" "isExpressionOrNothing" prog_4_method_17_code [] true mc_178_0 [[], [], [], [(3, 79), (3, 81), (0, 2)], [], [], [], [], [(3, 83), (3, 85), (0, 3)], [], [], [], [], []] = true := by decide +kernel
theorem kf_178 : ck_m ⟨"StepCode$Looker", "isExpressionOrNothing", "(II)Z"⟩ 3 (some .boolean) mt_178 = true := by decide +kernel
theorem km_178 {D : ar_D} {lim : Nat × Nat} {b : Nat} {B : Heap} (hE : ck_env tb_E (tb_G D lim b B) tb_Ts tb_I ah_P) : am_mok (tb_G D lim b B) tb_Ts tb_I ah_P ⟨"StepCode$Looker", "isExpressionOrNothing", "(II)Z"⟩ prog_4_method_17_code 3 (some .boolean) [] mt_178 :=
  ck_mok (hn := true) hE (fun _ => rfl) kf_178 (trivial) (List.forall_mem_cons.mpr ⟨ck_es_ok hE _ _ kb_178_0, fun _ h => absurd h List.not_mem_nil⟩)
-- StepCode$Looker.isExpressionKid(II)Z
theorem kb_179_0 : ck_es tb_E "StepCode$Looker" "isExpressionKid" prog_4_method_18_code [] true mc_179_0 [[], [], [], [(3, 83), (3, 85), (0, 3)], [(3, 91), (3, 92)], []] = true := by decide +kernel
theorem kf_179 : ck_m ⟨"StepCode$Looker", "isExpressionKid", "(II)Z"⟩ 3 (some .boolean) mt_179 = true := by decide +kernel
theorem km_179 {D : ar_D} {lim : Nat × Nat} {b : Nat} {B : Heap} (hE : ck_env tb_E (tb_G D lim b B) tb_Ts tb_I ah_P) : am_mok (tb_G D lim b B) tb_Ts tb_I ah_P ⟨"StepCode$Looker", "isExpressionKid", "(II)Z"⟩ prog_4_method_18_code 3 (some .boolean) [] mt_179 :=
  ck_mok (hn := true) hE (fun _ => rfl) kf_179 (trivial) (List.forall_mem_cons.mpr ⟨ck_es_ok hE _ _ kb_179_0, fun _ h => absurd h List.not_mem_nil⟩)
-- StepCode$Looker.kidKind(II)I
theorem kb_180_0 : ck_es tb_E "StepCode$Looker" "kidKind" prog_4_method_19_code [] true mc_180_0 [[], [(1, 129)], [], [(1, 129)], [], [], [(3, 87), (3, 88), (3, 89)], [(3, 63), (3, 64), (3, 65)], []] = true := by decide +kernel
theorem kf_180 : ck_m ⟨"StepCode$Looker", "kidKind", "(II)I"⟩ 3 (some .int) mt_180 = true := by decide +kernel
theorem km_180 {D : ar_D} {lim : Nat × Nat} {b : Nat} {B : Heap} (hE : ck_env tb_E (tb_G D lim b B) tb_Ts tb_I ah_P) : am_mok (tb_G D lim b B) tb_Ts tb_I ah_P ⟨"StepCode$Looker", "kidKind", "(II)I"⟩ prog_4_method_19_code 3 (some .int) [] mt_180 :=
  ck_mok (hn := true) hE (fun _ => rfl) kf_180 (trivial) (List.forall_mem_cons.mpr ⟨ck_es_ok hE _ _ kb_180_0, fun _ h => absurd h List.not_mem_nil⟩)
-- StepCode$Looker.isThing(II)Z
theorem kb_181_0 : ck_es tb_E "StepCode$Looker" "isThing" prog_4_method_20_code [] true mc_181_0 [[], [], [(3, 111), (3, 113), (0, 8)], [], [], [], [], [(2, 207)], [], [], [], [], [], []] = true := by decide +kernel
theorem kf_181 : ck_m ⟨"StepCode$Looker", "isThing", "(II)Z"⟩ 4 (some .boolean) mt_181 = true := by decide +kernel
theorem km_181 {D : ar_D} {lim : Nat × Nat} {b : Nat} {B : Heap} (hE : ck_env tb_E (tb_G D lim b B) tb_Ts tb_I ah_P) : am_mok (tb_G D lim b B) tb_Ts tb_I ah_P ⟨"StepCode$Looker", "isThing", "(II)Z"⟩ prog_4_method_20_code 4 (some .boolean) [] mt_181 :=
  ck_mok (hn := true) hE (fun _ => rfl) kf_181 (trivial) (List.forall_mem_cons.mpr ⟨ck_es_ok hE _ _ kb_181_0, fun _ h => absurd h List.not_mem_nil⟩)
-- StepCode$Looker.thingOf(I)LStepCode$Thing;
theorem kb_182_0 : ck_es tb_E "StepCode$Looker" "thingOf" prog_4_method_21_code [] true mc_182_0 [[], [(1, 129)], [], [(3, 63), (3, 64), (3, 65)], [], [], [], [], [], [(1, 130)], [], [(1, 129)], [], [(3, 67), (3, 68), (3, 69)], [(3, 115), (3, 116), (3, 117)], [], [], [], [], [], [(1, 128)], [(1, 105)], [], [(1, 129)]] = true := by decide +kernel
theorem kb_182_1 : ck_es tb_E "StepCode$Looker" "thingOf" prog_4_method_21_code [] true mc_182_1 [[], [(3, 67), (3, 68), (3, 69)], [(3, 115), (3, 116), (3, 117)], [], [], []] = true := by decide +kernel
theorem kf_182 : ck_m ⟨"StepCode$Looker", "thingOf", "(I)LStepCode$Thing;"⟩ 3 (some (.object "StepCode$Thing")) mt_182 = true := by decide +kernel
theorem km_182 {D : ar_D} {lim : Nat × Nat} {b : Nat} {B : Heap} (hE : ck_env tb_E (tb_G D lim b B) tb_Ts tb_I ah_P) : am_mok (tb_G D lim b B) tb_Ts tb_I ah_P ⟨"StepCode$Looker", "thingOf", "(I)LStepCode$Thing;"⟩ prog_4_method_21_code 3 (some (.object "StepCode$Thing")) [] mt_182 :=
  ck_mok (hn := true) hE (fun _ => rfl) kf_182 (trivial) (List.forall_mem_cons.mpr ⟨ck_es_ok hE _ _ kb_182_0, List.forall_mem_cons.mpr ⟨ck_es_ok hE _ _ kb_182_1, fun _ h => absurd h List.not_mem_nil⟩⟩)
-- StepCode$Looker.isExpression(I)Z
theorem kb_183_0 : ck_es tb_E "StepCode$Looker" "isExpression" prog_4_method_22_code [] true mc_183_0 [[], [], [], [(3, 72), (3, 73)], [], [], [], [], [], [], [], [], [], [], [(3, 72), (3, 73)], [], [], [], [], []] = true := by decide +kernel
theorem kf_183 : ck_m ⟨"StepCode$Looker", "isExpression", "(I)Z"⟩ 1 (some .boolean) mt_183 = true := by decide +kernel
theorem km_183 {D : ar_D} {lim : Nat × Nat} {b : Nat} {B : Heap} (hE : ck_env tb_E (tb_G D lim b B) tb_Ts tb_I ah_P) : am_mok (tb_G D lim b B) tb_Ts tb_I ah_P ⟨"StepCode$Looker", "isExpression", "(I)Z"⟩ prog_4_method_22_code 1 (some .boolean) [] mt_183 :=
  ck_mok (hn := true) hE (fun _ => rfl) kf_183 (trivial) (List.forall_mem_cons.mpr ⟨ck_es_ok hE _ _ kb_183_0, fun _ h => absurd h List.not_mem_nil⟩)
-- StepCode$Looker.isStatement(I)Z
theorem kb_184_0 : ck_es tb_E "StepCode$Looker" "isStatement" prog_4_method_23_code [] true mc_184_0 [[], [], [], [], [], [], [(3, 72), (3, 73)], [], [], [], [], [(3, 72), (3, 73)], [], [], [], [], []] = true := by decide +kernel
theorem kf_184 : ck_m ⟨"StepCode$Looker", "isStatement", "(I)Z"⟩ 1 (some .boolean) mt_184 = true := by decide +kernel
theorem km_184 {D : ar_D} {lim : Nat × Nat} {b : Nat} {B : Heap} (hE : ck_env tb_E (tb_G D lim b B) tb_Ts tb_I ah_P) : am_mok (tb_G D lim b B) tb_Ts tb_I ah_P ⟨"StepCode$Looker", "isStatement", "(I)Z"⟩ prog_4_method_23_code 1 (some .boolean) [] mt_184 :=
  ck_mok (hn := true) hE (fun _ => rfl) kf_184 (trivial) (List.forall_mem_cons.mpr ⟨ck_es_ok hE _ _ kb_184_0, fun _ h => absurd h List.not_mem_nil⟩)
-- StepCode$Looker.isWithin(III)Z
theorem kb_185_0 : ck_es tb_E "StepCode$Looker" "isWithin" prog_4_method_24_code [] true mc_185_0 [[], [], [], [], [], [], [], [], [], []] = true := by decide +kernel
theorem kf_185 : ck_m ⟨"StepCode$Looker", "isWithin", "(III)Z"⟩ 3 (some .boolean) mt_185 = true := by decide +kernel
theorem km_185 {D : ar_D} {lim : Nat × Nat} {b : Nat} {B : Heap} (hE : ck_env tb_E (tb_G D lim b B) tb_Ts tb_I ah_P) : am_mok (tb_G D lim b B) tb_Ts tb_I ah_P ⟨"StepCode$Looker", "isWithin", "(III)Z"⟩ prog_4_method_24_code 3 (some .boolean) [] mt_185 :=
  ck_mok (hn := true) hE (fun _ => rfl) kf_185 (trivial) (List.forall_mem_cons.mpr ⟨ck_es_ok hE _ _ kb_185_0, fun _ h => absurd h List.not_mem_nil⟩)
-- StepCode$Maker.<init>()V
theorem kb_186_0 : ck_es tb_E "StepCode$Maker" "<init>" prog_5_method_1_code [] true mc_186_0 [[], [(1, 53), (1, 28), (1, 29)], [], [(1, 54), (1, 55), (1, 5)], [], [], [(1, 56), (1, 57)], [(1, 101)], [], [(1, 98), (1, 31), (1, 2)], [], [], [(1, 99), (1, 33)], [(1, 103)], [], [], [(1, 97)], [(1, 106)], [], [], [(1, 97)], [(1, 107)], []] = true := by decide +kernel
theorem kf_186 : ck_m ⟨"StepCode$Maker", "<init>", "()V"⟩ 1 none mt_186 = true := by decide +kernel
theorem km_186 {D : ar_D} {lim : Nat × Nat} {b : Nat} {B : Heap} (hE : ck_env tb_E (tb_G D lim b B) tb_Ts tb_I ah_P) : am_mok (tb_G D lim b B) tb_Ts tb_I ah_P ⟨"StepCode$Maker", "<init>", "()V"⟩ prog_5_method_1_code 1 none [] mt_186 :=
  ck_mok (hn := true) hE (fun _ => rfl) kf_186 (trivial) (List.forall_mem_cons.mpr ⟨ck_es_ok hE _ _ kb_186_0, fun _ h => absurd h List.not_mem_nil⟩)
-- StepCode$Maker.make(III)I
theorem kb_187_0 : ck_es tb_E "StepCode$Maker" "make" prog_5_method_2_code [] true mc_187_0 [[], [(1, 108)], [], [], [], [], [], [], [], [], [(1, 108)], [], [(1, 107)], [], [], [], [(1, 101)], [(3, 31), (3, 23), (3, 24)], [], [], [], [], [(1, 101)], []] = true := by decide +kernel
theorem kb_187_1 : ck_es tb_E "StepCode$Maker" "make" prog_5_method_2_code [] true mc_187_1 [[], [(3, 32), (3, 33), (3, 34)], [], [], [], [], [], [], [], [(1, 108)], [], [], [(1, 101)], [], [(1, 107)], [], [], [(3, 37), (3, 38), (3, 39)], [], [], [], [(1, 107)], [], []] = true := by decide +kernel
theorem kb_187_2 : ck_es tb_E "StepCode$Maker" "make" prog_5_method_2_code [] true mc_187_2 [[(3, 41), (3, 42), (3, 43)], [(3, 45), (1, 37), (1, 3), (1, 38)], [], [], [], [], [], [(1, 108)], [], [], [], [], [(1, 106)], [], [], [], [], [(1, 107)], [], [], [], [(1, 106)], [], []] = true := by decide +kernel
theorem kb_187_3 : ck_es tb_E "StepCode$Maker" "make" prog_5_method_2_code [] true mc_187_3 [[], [], [], [], [(1, 107)], [], [], [], [], [], [(1, 108)], [], [], [(1, 108)], [], []] = true := by decide +kernel
theorem kf_187 : ck_m ⟨"StepCode$Maker", "make", "(III)I"⟩ 8 (some .int) mt_187 = true := by decide +kernel
theorem km_187 {D : ar_D} {lim : Nat × Nat} {b : Nat} {B : Heap} (hE : ck_env tb_E (tb_G D lim b B) tb_Ts tb_I ah_P) : am_mok (tb_G D lim b B) tb_Ts tb_I ah_P ⟨"StepCode$Maker", "make", "(III)I"⟩ prog_5_method_2_code 8 (some .int) [] mt_187 :=
  ck_mok (hn := true) hE (fun _ => rfl) kf_187 (trivial) (List.forall_mem_cons.mpr ⟨ck_es_ok hE _ _ kb_187_0, List.forall_mem_cons.mpr ⟨ck_es_ok hE _ _ kb_187_1, List.forall_mem_cons.mpr ⟨ck_es_ok hE _ _ kb_187_2, List.forall_mem_cons.mpr ⟨ck_es_ok hE _ _ kb_187_3, fun _ h => absurd h List.not_mem_nil⟩⟩⟩⟩)
-- StepCode$Maker.heightOf(I)I
theorem kb_188_0 : ck_es tb_E "StepCode$Maker" "heightOf" prog_5_method_3_code [] true mc_188_0 [[], [], [], [], [(1, 106)], [], [], [], [(1, 106)], [], [], [], [], []] = true := by decide +kernel
theorem kf_188 : ck_m ⟨"StepCode$Maker", "heightOf", "(I)I"⟩ 2 (some .int) mt_188 = true := by decide +kernel
theorem km_188 {D : ar_D} {lim : Nat × Nat} {b : Nat} {B : Heap} (hE : ck_env tb_E (tb_G D lim b B) tb_Ts tb_I ah_P) : am_mok (tb_G D lim b B) tb_Ts tb_I ah_P ⟨"StepCode$Maker", "heightOf", "(I)I"⟩ prog_5_method_3_code 2 (some .int) [] mt_188 :=
  ck_mok (hn := true) hE (fun _ => rfl) kf_188 (trivial) (List.forall_mem_cons.mpr ⟨ck_es_ok hE _ _ kb_188_0, fun _ h => absurd h List.not_mem_nil⟩)
-- StepCode$Maker.clear()V
theorem kb_189_0 : ck_es tb_E "StepCode$Maker" "clear" prog_5_method_4_code [] true mc_189_0 [[], [(1, 101)], [(4, 31), (4, 32), (4, 33)], [], [(1, 103)], [(4, 35), (4, 36), (4, 37)], [], [], [(1, 108)], []] = true := by decide +kernel
theorem kf_189 : ck_m ⟨"StepCode$Maker", "clear", "()V"⟩ 1 none mt_189 = true := by decide +kernel
theorem km_189 {D : ar_D} {lim : Nat × Nat} {b : Nat} {B : Heap} (hE : ck_env tb_E (tb_G D lim b B) tb_Ts tb_I ah_P) : am_mok (tb_G D lim b B) tb_Ts tb_I ah_P ⟨"StepCode$Maker", "clear", "()V"⟩ prog_5_method_4_code 1 none [] mt_189 :=
  ck_mok (hn := true) hE (fun _ => rfl) kf_189 (trivial) (List.forall_mem_cons.mpr ⟨ck_es_ok hE _ _ kb_189_0, fun _ h => absurd h List.not_mem_nil⟩)
-- StepCode$Nodes.<init>(I)V
theorem kb_190_0 : ck_es tb_E "StepCode$Nodes" "<init>" prog_6_method_1_code [] true mc_190_0 [[], [(1, 59), (1, 28), (1, 29)], [], [], [(1, 60), (1, 37), (1, 3), (1, 38)], [], [], [], [(1, 97)], [(1, 61)], [], [], [(1, 97)], [(1, 62)], [], [], [(1, 97)], [(1, 63)], [], [], [(1, 97)], [(1, 64)], [], []] = true := by decide +kernel
theorem kb_190_1 : ck_es tb_E "StepCode$Nodes" "<init>" prog_6_method_1_code [] true mc_190_1 [[(1, 97)], [(1, 65)], [], [], [(1, 97)], [(1, 66)], [], [], [(1, 97)], [(1, 67)], [], [], [(1, 97)], [(1, 68)], []] = true := by decide +kernel
theorem kf_190 : ck_m ⟨"StepCode$Nodes", "<init>", "(I)V"⟩ 3 none mt_190 = true := by decide +kernel
theorem km_190 {D : ar_D} {lim : Nat × Nat} {b : Nat} {B : Heap} (hE : ck_env tb_E (tb_G D lim b B) tb_Ts tb_I ah_P) : am_mok (tb_G D lim b B) tb_Ts tb_I ah_P ⟨"StepCode$Nodes", "<init>", "(I)V"⟩ prog_6_method_1_code 3 none [] mt_190 :=
  ck_mok (hn := true) hE (fun _ => rfl) kf_190 (trivial) (List.forall_mem_cons.mpr ⟨ck_es_ok hE _ _ kb_190_0, List.forall_mem_cons.mpr ⟨ck_es_ok hE _ _ kb_190_1, fun _ h => absurd h List.not_mem_nil⟩⟩)
-- StepCode$Nodes.<init>(LStepCode$Nodes;)V
theorem kb_191_0 : ck_es tb_E "StepCode$Nodes" "<init>" prog_6_method_2_code [] true mc_191_0 [[], [(1, 59), (1, 28), (1, 29)], [], [], [(1, 70)], [(1, 70)], [], [], [(1, 75)], [(1, 75)], [], [], [(1, 61)], [], [(1, 70)], [(3, 188), (3, 189)], [(1, 61)], [], [], [(1, 62)], [], [(1, 70)], [(3, 188), (3, 189)], [(1, 62)]] = true := by decide +kernel
theorem kb_191_1 : ck_es tb_E "StepCode$Nodes" "<init>" prog_6_method_2_code [] true mc_191_1 [[], [], [(1, 63)], [], [(1, 70)], [(3, 188), (3, 189)], [(1, 63)], [], [], [(1, 64)], [], [(1, 70)], [(3, 188), (3, 189)], [(1, 64)], [], [], [(1, 65)], [], [(1, 70)], [(3, 188), (3, 189)], [(1, 65)], [], [], [(1, 66)]] = true := by decide +kernel
theorem kb_191_2 : ck_es tb_E "StepCode$Nodes" "<init>" prog_6_method_2_code [] true mc_191_2 [[], [(1, 70)], [(3, 188), (3, 189)], [(1, 66)], [], [], [(1, 67)], [], [(1, 70)], [(3, 188), (3, 189)], [(1, 67)], [], [], [(1, 68)], [], [(1, 70)], [(3, 188), (3, 189)], [(1, 68)], []] = true := by decide +kernel
theorem kf_191 : ck_m ⟨"StepCode$Nodes", "<init>", "(LStepCode$Nodes;)V"⟩ 2 none mt_191 = true := by decide +kernel
theorem km_191 {D : ar_D} {lim : Nat × Nat} {b : Nat} {B : Heap} (hE : ck_env tb_E (tb_G D lim b B) tb_Ts tb_I ah_P) : am_mok (tb_G D lim b B) tb_Ts tb_I ah_P ⟨"StepCode$Nodes", "<init>", "(LStepCode$Nodes;)V"⟩ prog_6_method_2_code 2 none [] mt_191 :=
  ck_mok (hn := true) hE (fun _ => rfl) kf_191 (trivial) (List.forall_mem_cons.mpr ⟨ck_es_ok hE _ _ kb_191_0, List.forall_mem_cons.mpr ⟨ck_es_ok hE _ _ kb_191_1, List.forall_mem_cons.mpr ⟨ck_es_ok hE _ _ kb_191_2, fun _ h => absurd h List.not_mem_nil⟩⟩⟩)
-- StepCode$Nodes.trimmed()LStepCode$Nodes;
theorem kb_192_0 : ck_es tb_E "StepCode$Nodes" "trimmed" prog_6_method_3_code [] true mc_192_0 [[(3, 184), (1, 55), (1, 5)], [], [], [(3, 185), (3, 186)], []] = true := by decide +kernel
theorem kf_192 : ck_m ⟨"StepCode$Nodes", "trimmed", "()LStepCode$Nodes;"⟩ 1 (some (.object "StepCode$Nodes")) mt_192 = true := by decide +kernel
theorem km_192 {D : ar_D} {lim : Nat × Nat} {b : Nat} {B : Heap} (hE : ck_env tb_E (tb_G D lim b B) tb_Ts tb_I ah_P) : am_mok (tb_G D lim b B) tb_Ts tb_I ah_P ⟨"StepCode$Nodes", "trimmed", "()LStepCode$Nodes;"⟩ prog_6_method_3_code 1 (some (.object "StepCode$Nodes")) [] mt_192 :=
  ck_mok (hn := true) hE (fun _ => rfl) kf_192 (trivial) (List.forall_mem_cons.mpr ⟨ck_es_ok hE _ _ kb_192_0, fun _ h => absurd h List.not_mem_nil⟩)
-- StepCode$Nodes.isFull()Z
theorem kb_193_0 : ck_es tb_E "StepCode$Nodes" "isFull" prog_6_method_4_code [] true mc_193_0 [[], [(1, 70)], [], [(1, 61)], [], [], [], [], [], []] = true := by decide +kernel
theorem kf_193 : ck_m ⟨"StepCode$Nodes", "isFull", "()Z"⟩ 1 (some .boolean) mt_193 = true := by decide +kernel
theorem km_193 {D : ar_D} {lim : Nat × Nat} {b : Nat} {B : Heap} (hE : ck_env tb_E (tb_G D lim b B) tb_Ts tb_I ah_P) : am_mok (tb_G D lim b B) tb_Ts tb_I ah_P ⟨"StepCode$Nodes", "isFull", "()Z"⟩ prog_6_method_4_code 1 (some .boolean) [] mt_193 :=
  ck_mok (hn := true) hE (fun _ => rfl) kf_193 (trivial) (List.forall_mem_cons.mpr ⟨ck_es_ok hE _ _ kb_193_0, fun _ h => absurd h List.not_mem_nil⟩)
-- StepCode$Nodes.kindOf(I)I
theorem kb_194_0 : ck_es tb_E "StepCode$Nodes" "kindOf" prog_6_method_5_code [] true mc_194_0 [[], [], [], [], [(1, 70)], [], [], [(1, 61)], [], [], [], [], []] = true := by decide +kernel
theorem kf_194 : ck_m ⟨"StepCode$Nodes", "kindOf", "(I)I"⟩ 2 (some .int) mt_194 = true := by decide +kernel
theorem km_194 {D : ar_D} {lim : Nat × Nat} {b : Nat} {B : Heap} (hE : ck_env tb_E (tb_G D lim b B) tb_Ts tb_I ah_P) : am_mok (tb_G D lim b B) tb_Ts tb_I ah_P ⟨"StepCode$Nodes", "kindOf", "(I)I"⟩ prog_6_method_5_code 2 (some .int) [] mt_194 :=
  ck_mok (hn := true) hE (fun _ => rfl) kf_194 (trivial) (List.forall_mem_cons.mpr ⟨ck_es_ok hE _ _ kb_194_0, fun _ h => absurd h List.not_mem_nil⟩)
-- StepCode$Nodes.givenOf(I)I
theorem kb_195_0 : ck_es tb_E "StepCode$Nodes" "givenOf" prog_6_method_6_code [] true mc_195_0 [[], [], [], [], [(1, 70)], [], [], [(1, 62)], [], [], [], [], []] = true := by decide +kernel
theorem kf_195 : ck_m ⟨"StepCode$Nodes", "givenOf", "(I)I"⟩ 2 (some .int) mt_195 = true := by decide +kernel
theorem km_195 {D : ar_D} {lim : Nat × Nat} {b : Nat} {B : Heap} (hE : ck_env tb_E (tb_G D lim b B) tb_Ts tb_I ah_P) : am_mok (tb_G D lim b B) tb_Ts tb_I ah_P ⟨"StepCode$Nodes", "givenOf", "(I)I"⟩ prog_6_method_6_code 2 (some .int) [] mt_195 :=
  ck_mok (hn := true) hE (fun _ => rfl) kf_195 (trivial) (List.forall_mem_cons.mpr ⟨ck_es_ok hE _ _ kb_195_0, fun _ h => absurd h List.not_mem_nil⟩)
-- StepCode$Nodes.startOf(I)I
theorem kb_196_0 : ck_es tb_E "StepCode$Nodes" "startOf" prog_6_method_7_code [] true mc_196_0 [[], [], [], [], [(1, 70)], [], [], [(1, 63)], [], [], [], [], []] = true := by decide +kernel
theorem kf_196 : ck_m ⟨"StepCode$Nodes", "startOf", "(I)I"⟩ 2 (some .int) mt_196 = true := by decide +kernel
theorem km_196 {D : ar_D} {lim : Nat × Nat} {b : Nat} {B : Heap} (hE : ck_env tb_E (tb_G D lim b B) tb_Ts tb_I ah_P) : am_mok (tb_G D lim b B) tb_Ts tb_I ah_P ⟨"StepCode$Nodes", "startOf", "(I)I"⟩ prog_6_method_7_code 2 (some .int) [] mt_196 :=
  ck_mok (hn := true) hE (fun _ => rfl) kf_196 (trivial) (List.forall_mem_cons.mpr ⟨ck_es_ok hE _ _ kb_196_0, fun _ h => absurd h List.not_mem_nil⟩)
-- StepCode$Nodes.parentOf(I)I
theorem kb_197_0 : ck_es tb_E "StepCode$Nodes" "parentOf" prog_6_method_8_code [] true mc_197_0 [[], [], [], [], [(1, 70)], [], [], [(1, 64)], [], [], [], [], []] = true := by decide +kernel
theorem kf_197 : ck_m ⟨"StepCode$Nodes", "parentOf", "(I)I"⟩ 2 (some .int) mt_197 = true := by decide +kernel
theorem km_197 {D : ar_D} {lim : Nat × Nat} {b : Nat} {B : Heap} (hE : ck_env tb_E (tb_G D lim b B) tb_Ts tb_I ah_P) : am_mok (tb_G D lim b B) tb_Ts tb_I ah_P ⟨"StepCode$Nodes", "parentOf", "(I)I"⟩ prog_6_method_8_code 2 (some .int) [] mt_197 :=
  ck_mok (hn := true) hE (fun _ => rfl) kf_197 (trivial) (List.forall_mem_cons.mpr ⟨ck_es_ok hE _ _ kb_197_0, fun _ h => absurd h List.not_mem_nil⟩)
-- StepCode$Nodes.placeOf(I)I
theorem kb_198_0 : ck_es tb_E "StepCode$Nodes" "placeOf" prog_6_method_9_code [] true mc_198_0 [[], [], [], [], [(1, 70)], [], [], [(1, 65)], [], [], [], [], []] = true := by decide +kernel
theorem kf_198 : ck_m ⟨"StepCode$Nodes", "placeOf", "(I)I"⟩ 2 (some .int) mt_198 = true := by decide +kernel
theorem km_198 {D : ar_D} {lim : Nat × Nat} {b : Nat} {B : Heap} (hE : ck_env tb_E (tb_G D lim b B) tb_Ts tb_I ah_P) : am_mok (tb_G D lim b B) tb_Ts tb_I ah_P ⟨"StepCode$Nodes", "placeOf", "(I)I"⟩ prog_6_method_9_code 2 (some .int) [] mt_198 :=
  ck_mok (hn := true) hE (fun _ => rfl) kf_198 (trivial) (List.forall_mem_cons.mpr ⟨ck_es_ok hE _ _ kb_198_0, fun _ h => absurd h List.not_mem_nil⟩)
-- StepCode$Nodes.kidsOf(I)I
theorem kb_199_0 : ck_es tb_E "StepCode$Nodes" "kidsOf" prog_6_method_10_code [] true mc_199_0 [[], [], [], [], [(1, 70)], [], [], [(1, 67)], [], [], [], [], []] = true := by decide +kernel
theorem kf_199 : ck_m ⟨"StepCode$Nodes", "kidsOf", "(I)I"⟩ 2 (some .int) mt_199 = true := by decide +kernel
theorem km_199 {D : ar_D} {lim : Nat × Nat} {b : Nat} {B : Heap} (hE : ck_env tb_E (tb_G D lim b B) tb_Ts tb_I ah_P) : am_mok (tb_G D lim b B) tb_Ts tb_I ah_P ⟨"StepCode$Nodes", "kidsOf", "(I)I"⟩ prog_6_method_10_code 2 (some .int) [] mt_199 :=
  ck_mok (hn := true) hE (fun _ => rfl) kf_199 (trivial) (List.forall_mem_cons.mpr ⟨ck_es_ok hE _ _ kb_199_0, fun _ h => absurd h List.not_mem_nil⟩)
-- StepCode$Nodes.kid(II)I
theorem kb_200_0 : ck_es tb_E "StepCode$Nodes" "kid" prog_6_method_11_code [] true mc_200_0 [[], [], [], [], [(1, 70)], [], [], [], [], [], [(1, 67)], [], [], [], [], [], [], [(1, 66)], [], [], [], [], [], []] = true := by decide +kernel
theorem kb_200_1 : ck_es tb_E "StepCode$Nodes" "kid" prog_6_method_11_code [] true mc_200_1 [[], [], [], [(1, 68)], [], [], [], [(1, 68)], [], [], [], [], []] = true := by decide +kernel
theorem kf_200 : ck_m ⟨"StepCode$Nodes", "kid", "(II)I"⟩ 4 (some .int) mt_200 = true := by decide +kernel
theorem km_200 {D : ar_D} {lim : Nat × Nat} {b : Nat} {B : Heap} (hE : ck_env tb_E (tb_G D lim b B) tb_Ts tb_I ah_P) : am_mok (tb_G D lim b B) tb_Ts tb_I ah_P ⟨"StepCode$Nodes", "kid", "(II)I"⟩ prog_6_method_11_code 4 (some .int) [] mt_200 :=
  ck_mok (hn := true) hE (fun _ => rfl) kf_200 (trivial) (List.forall_mem_cons.mpr ⟨ck_es_ok hE _ _ kb_200_0, List.forall_mem_cons.mpr ⟨ck_es_ok hE _ _ kb_200_1, fun _ h => absurd h List.not_mem_nil⟩⟩)
-- StepCode$Nodes.isLoop(I)Z
theorem kb_201_0 : ck_es tb_E "StepCode$Nodes" "isLoop" prog_6_method_12_code [] true mc_201_0 [[], [], [(3, 170), (3, 64), (3, 65)], [], [], [], [], [], [], [], [], [], [], []] = true := by decide +kernel
theorem kf_201 : ck_m ⟨"StepCode$Nodes", "isLoop", "(I)Z"⟩ 3 (some .boolean) mt_201 = true := by decide +kernel
theorem km_201 {D : ar_D} {lim : Nat × Nat} {b : Nat} {B : Heap} (hE : ck_env tb_E (tb_G D lim b B) tb_Ts tb_I ah_P) : am_mok (tb_G D lim b B) tb_Ts tb_I ah_P ⟨"StepCode$Nodes", "isLoop", "(I)Z"⟩ prog_6_method_12_code 3 (some .boolean) [] mt_201 :=
  ck_mok (hn := true) hE (fun _ => rfl) kf_201 (trivial) (List.forall_mem_cons.mpr ⟨ck_es_ok hE _ _ kb_201_0, fun _ h => absurd h List.not_mem_nil⟩)
-- StepCode$Nodes.loopOf(I)I
theorem kb_202_0 : ck_es tb_E "StepCode$Nodes" "loopOf" prog_6_method_13_code [] true mc_202_0 [[], [], [(3, 162), (3, 163), (3, 164)], [], [], [], [], [], [(1, 70)], [], [], [], [], [], [], [(3, 166), (3, 167), (3, 168)], [], [], [], [(3, 162), (3, 163), (3, 164)], [], [], [], []] = true := by decide +kernel
theorem kb_202_1 : ck_es tb_E "StepCode$Nodes" "loopOf" prog_6_method_13_code [] true mc_202_1 [[]] = true := by decide +kernel
theorem kf_202 : ck_m ⟨"StepCode$Nodes", "loopOf", "(I)I"⟩ 4 (some .int) mt_202 = true := by decide +kernel
theorem km_202 {D : ar_D} {lim : Nat × Nat} {b : Nat} {B : Heap} (hE : ck_env tb_E (tb_G D lim b B) tb_Ts tb_I ah_P) : am_mok (tb_G D lim b B) tb_Ts tb_I ah_P ⟨"StepCode$Nodes", "loopOf", "(I)I"⟩ prog_6_method_13_code 4 (some .int) [] mt_202 :=
  ck_mok (hn := true) hE (fun _ => rfl) kf_202 (trivial) (List.forall_mem_cons.mpr ⟨ck_es_ok hE _ _ kb_202_0, List.forall_mem_cons.mpr ⟨ck_es_ok hE _ _ kb_202_1, fun _ h => absurd h List.not_mem_nil⟩⟩)
-- StepCode$Nodes.begin(II)I
theorem kb_203_0 : ck_es tb_E "StepCode$Nodes" "begin" prog_6_method_14_code [] true mc_203_0 [[], [(3, 36), (3, 23), (3, 24)], [], [], [], [], [(1, 70)], [], [], [(1, 61)], [], [], [], [], [(1, 62)], [], [], [], [], [(1, 63)], [], [], [], []] = true := by decide +kernel
theorem kb_203_1 : ck_es tb_E "StepCode$Nodes" "begin" prog_6_method_14_code [] true mc_203_1 [[(1, 64)], [], [], [], [], [(1, 65)], [], [], [], [], [(1, 66)], [], [], [(1, 75)], [], [], [(1, 67)], [], [], [], [], [], [(1, 70)], []] = true := by decide +kernel
theorem kb_203_2 : ck_es tb_E "StepCode$Nodes" "begin" prog_6_method_14_code [] true mc_203_2 [[], [(1, 70)], [], []] = true := by decide +kernel
theorem kf_203 : ck_m ⟨"StepCode$Nodes", "begin", "(II)I"⟩ 4 (some .int) mt_203 = true := by decide +kernel
theorem km_203 {D : ar_D} {lim : Nat × Nat} {b : Nat} {B : Heap} (hE : ck_env tb_E (tb_G D lim b B) tb_Ts tb_I ah_P) : am_mok (tb_G D lim b B) tb_Ts tb_I ah_P ⟨"StepCode$Nodes", "begin", "(II)I"⟩ prog_6_method_14_code 4 (some .int) [] mt_203 :=
  ck_mok (hn := true) hE (fun _ => rfl) kf_203 (trivial) (List.forall_mem_cons.mpr ⟨ck_es_ok hE _ _ kb_203_0, List.forall_mem_cons.mpr ⟨ck_es_ok hE _ _ kb_203_1, List.forall_mem_cons.mpr ⟨ck_es_ok hE _ _ kb_203_2, fun _ h => absurd h List.not_mem_nil⟩⟩⟩)
-- StepCode$Nodes.take(I)V
theorem kb_204_0 : ck_es tb_E "StepCode$Nodes" "take" prog_6_method_15_code [] true mc_204_0 [[], [(1, 70)], [], [], [], [], [], [], [], [], [], [], [], [(1, 75)], [], [(1, 68)], [], [], [], [], [(1, 67)], [], [], []] = true := by decide +kernel
theorem kb_204_1 : ck_es tb_E "StepCode$Nodes" "take" prog_6_method_15_code [] true mc_204_1 [[], [(1, 63)], [], [], [(1, 63)], [], [], [], [], [(1, 64)], [], [], [], [], [(1, 65)], [], [], [(1, 67)], [], [], [], [], [(1, 68)], []] = true := by decide +kernel
theorem kb_204_2 : ck_es tb_E "StepCode$Nodes" "take" prog_6_method_15_code [] true mc_204_2 [[(1, 75)], [], [], [], [], [(1, 75)], [], [], [(1, 75)], [], [(1, 67)], [], [], [], [], [], [], []] = true := by decide +kernel
theorem kf_204 : ck_m ⟨"StepCode$Nodes", "take", "(I)V"⟩ 3 none mt_204 = true := by decide +kernel
theorem km_204 {D : ar_D} {lim : Nat × Nat} {b : Nat} {B : Heap} (hE : ck_env tb_E (tb_G D lim b B) tb_Ts tb_I ah_P) : am_mok (tb_G D lim b B) tb_Ts tb_I ah_P ⟨"StepCode$Nodes", "take", "(I)V"⟩ prog_6_method_15_code 3 none [] mt_204 :=
  ck_mok (hn := true) hE (fun _ => rfl) kf_204 (trivial) (List.forall_mem_cons.mpr ⟨ck_es_ok hE _ _ kb_204_0, List.forall_mem_cons.mpr ⟨ck_es_ok hE _ _ kb_204_1, List.forall_mem_cons.mpr ⟨ck_es_ok hE _ _ kb_204_2, fun _ h => absurd h List.not_mem_nil⟩⟩⟩)
-- StepCode$Nodes.clear()V
theorem kb_205_0 : ck_es tb_E "StepCode$Nodes" "clear" prog_6_method_16_code [] true mc_205_0 [[], [], [(1, 70)], [], [], [(1, 75)], []] = true := by decide +kernel
theorem kf_205 : ck_m ⟨"StepCode$Nodes", "clear", "()V"⟩ 1 none mt_205 = true := by decide +kernel
theorem km_205 {D : ar_D} {lim : Nat × Nat} {b : Nat} {B : Heap} (hE : ck_env tb_E (tb_G D lim b B) tb_Ts tb_I ah_P) : am_mok (tb_G D lim b B) tb_Ts tb_I ah_P ⟨"StepCode$Nodes", "clear", "()V"⟩ prog_6_method_16_code 1 none [] mt_205 :=
  ck_mok (hn := true) hE (fun _ => rfl) kf_205 (trivial) (List.forall_mem_cons.mpr ⟨ck_es_ok hE _ _ kb_205_0, fun _ h => absurd h List.not_mem_nil⟩)
