/-! TABLES of the abstract machine, by program (wip/tools/gen2.py) out of the claim's listing and words -/
-- StepCodeModel.holds(I)I
theorem kb_110_0 : ck_es tb_E "StepCodeModel" "holds" prog_13_method_89_code [] true mc_110_0 [[], [], [], [(7, 58), (7, 60), (0, 53)], [], [], [], [], [(6, 92)], [], [], [], [], [], [], [], [(6, 64)], [], [(6, 64)], [], [], [], [], []] = true := by decide +kernel
theorem kb_110_1 : ck_es tb_E "StepCodeModel" "holds" prog_13_method_89_code [] true mc_110_1 [[(8, 102), (8, 104), (0, 112)], [], [], [(6, 76)], [], [], [], [], [], [], [], [(6, 103)], [], [], [], [(6, 96)], [], [], [(7, 182), (7, 184), (0, 77)], [], [], [(6, 69)], [], []] = true := by decide +kernel
theorem kb_110_2 : ck_es tb_E "StepCodeModel" "holds" prog_13_method_89_code [] true mc_110_2 [[], [], [], [], [], [], [], [], [], [(8, 94), (8, 96), (0, 111)], [], []] = true := by decide +kernel
theorem kf_110 : ck_m ⟨"StepCodeModel", "holds", "(I)I"⟩ 3 (some .int) mt_110 = true := by decide +kernel
theorem km_110 {D : ar_D} {lim : Nat × Nat} {b : Nat} {B : Heap} (hE : ck_env tb_E (tb_G D lim b B) tb_Ts tb_I ah_P) : am_mok (tb_G D lim b B) tb_Ts tb_I ah_P ⟨"StepCodeModel", "holds", "(I)I"⟩ prog_13_method_89_code 3 (some .int) [] mt_110 :=
  ck_mok (hn := true) hE (fun _ => rfl) kf_110 (trivial) (List.forall_mem_cons.mpr ⟨ck_es_ok hE _ _ kb_110_0, List.forall_mem_cons.mpr ⟨ck_es_ok hE _ _ kb_110_1, List.forall_mem_cons.mpr ⟨ck_es_ok hE _ _ kb_110_2, fun _ h => absurd h List.not_mem_nil⟩⟩⟩)
-- StepCodeModel.about(II)I
theorem kb_111_0 : ck_es tb_E "StepCodeModel" "about" prog_13_method_90_code [] true mc_111_0 [[], [], [], [(7, 58), (7, 60), (0, 53)], [], [], [], [], [], [], [], [], [], [], [], [(6, 64)], [], [(6, 64)], [], [], [], [], [(6, 92)], []] = true := by decide +kernel
theorem kb_111_1 : ck_es tb_E "StepCodeModel" "about" prog_13_method_90_code [] true mc_111_1 [[], [], [], [], [], [], [], [], [], [], [(6, 92)], [], [], [], [], [(6, 93)], [], [], [], [], [(6, 94)], [], [], []] = true := by decide +kernel
theorem kb_111_2 : ck_es tb_E "StepCodeModel" "about" prog_13_method_90_code [] true mc_111_2 [[], [], [], [(6, 78)], [], [(6, 79)], [], [(6, 96)], [], [], [], [], [], [], [], [], [], [], [(6, 76)], [], [], [(8, 102), (8, 104), (0, 112)], [], []] = true := by decide +kernel
theorem kb_111_3 : ck_es tb_E "StepCodeModel" "about" prog_13_method_90_code [] true mc_111_3 [[], [], [], [], [], [(6, 95)], [], [], []] = true := by decide +kernel
theorem kf_111 : ck_m ⟨"StepCodeModel", "about", "(II)I"⟩ 4 (some .int) mt_111 = true := by decide +kernel
theorem km_111 {D : ar_D} {lim : Nat × Nat} {b : Nat} {B : Heap} (hE : ck_env tb_E (tb_G D lim b B) tb_Ts tb_I ah_P) : am_mok (tb_G D lim b B) tb_Ts tb_I ah_P ⟨"StepCodeModel", "about", "(II)I"⟩ prog_13_method_90_code 4 (some .int) [] mt_111 :=
  ck_mok (hn := true) hE (fun _ => rfl) kf_111 (trivial) (List.forall_mem_cons.mpr ⟨ck_es_ok hE _ _ kb_111_0, List.forall_mem_cons.mpr ⟨ck_es_ok hE _ _ kb_111_1, List.forall_mem_cons.mpr ⟨ck_es_ok hE _ _ kb_111_2, List.forall_mem_cons.mpr ⟨ck_es_ok hE _ _ kb_111_3, fun _ h => absurd h List.not_mem_nil⟩⟩⟩⟩)
-- StepCodeModel.waits(II)I
theorem kb_112_0 : ck_es tb_E "StepCodeModel" "waits" prog_13_method_91_code [] true mc_112_0 [[], [], [], [(7, 58), (7, 60), (0, 53)], [], [], [(6, 92)], [], [], [], [], [], [], [], [], [(6, 78)], [], [(6, 79)], [], [(6, 96)], [], [], [], []] = true := by decide +kernel
theorem kb_112_1 : ck_es tb_E "StepCodeModel" "waits" prog_13_method_91_code [] true mc_112_1 [[], [], [], [], [(6, 64)], [], [(6, 64)], [], [], [], [], [(6, 77)], [], [], [(6, 79)], [], [(6, 96)], [], [], [], [], [(7, 89), (7, 91), (0, 57)], [], []] = true := by decide +kernel
theorem kf_112 : ck_m ⟨"StepCodeModel", "waits", "(II)I"⟩ 3 (some .int) mt_112 = true := by decide +kernel
theorem km_112 {D : ar_D} {lim : Nat × Nat} {b : Nat} {B : Heap} (hE : ck_env tb_E (tb_G D lim b B) tb_Ts tb_I ah_P) : am_mok (tb_G D lim b B) tb_Ts tb_I ah_P ⟨"StepCodeModel", "waits", "(II)I"⟩ prog_13_method_91_code 3 (some .int) [] mt_112 :=
  ck_mok (hn := true) hE (fun _ => rfl) kf_112 (trivial) (List.forall_mem_cons.mpr ⟨ck_es_ok hE _ _ kb_112_0, List.forall_mem_cons.mpr ⟨ck_es_ok hE _ _ kb_112_1, fun _ h => absurd h List.not_mem_nil⟩⟩)
-- StepCodeModel.until(I)J
theorem kb_113_0 : ck_es tb_E "StepCodeModel" "until" prog_13_method_92_code [] true mc_113_0 [[], [], [], [(7, 58), (7, 60), (0, 53)], [], [], [], [], [(6, 64)], [], [(6, 64)], [], [], [], [], [(6, 92)], [], [], [], [], [], [(6, 97)], [], []] = true := by decide +kernel
theorem kb_113_1 : ck_es tb_E "StepCodeModel" "until" prog_13_method_92_code [] true mc_113_1 [[], [(8, 89)], []] = true := by decide +kernel
theorem kf_113 : ck_m ⟨"StepCodeModel", "until", "(I)J"⟩ 2 (some .long) mt_113 = true := by decide +kernel
theorem km_113 {D : ar_D} {lim : Nat × Nat} {b : Nat} {B : Heap} (hE : ck_env tb_E (tb_G D lim b B) tb_Ts tb_I ah_P) : am_mok (tb_G D lim b B) tb_Ts tb_I ah_P ⟨"StepCodeModel", "until", "(I)J"⟩ prog_13_method_92_code 2 (some .long) [] mt_113 :=
  ck_mok (hn := true) hE (fun _ => rfl) kf_113 (trivial) (List.forall_mem_cons.mpr ⟨ck_es_ok hE _ _ kb_113_0, List.forall_mem_cons.mpr ⟨ck_es_ok hE _ _ kb_113_1, fun _ h => absurd h List.not_mem_nil⟩⟩)
-- StepCodeModel.acts()I
theorem kb_114_0 : ck_es tb_E "StepCodeModel" "acts" prog_13_method_93_code [] true mc_114_0 [[], [], [(6, 64)], [], [(6, 110)], []] = true := by decide +kernel
theorem kf_114 : ck_m ⟨"StepCodeModel", "acts", "()I"⟩ 1 (some .int) mt_114 = true := by decide +kernel
theorem km_114 {D : ar_D} {lim : Nat × Nat} {b : Nat} {B : Heap} (hE : ck_env tb_E (tb_G D lim b B) tb_Ts tb_I ah_P) : am_mok (tb_G D lim b B) tb_Ts tb_I ah_P ⟨"StepCodeModel", "acts", "()I"⟩ prog_13_method_93_code 1 (some .int) [] mt_114 :=
  ck_mok (hn := true) hE (fun _ => rfl) kf_114 (trivial) (List.forall_mem_cons.mpr ⟨ck_es_ok hE _ _ kb_114_0, fun _ h => absurd h List.not_mem_nil⟩)
-- StepCodeModel.act(II)I
theorem kb_115_0 : ck_es tb_E "StepCodeModel" "act" prog_13_method_94_code [] true mc_115_0 [[], [], [], [], [], [(6, 110)], [], [], [], [], [], [], [], [], [], [], [], [(6, 64)], [], [(6, 64)], [], [], [], []] = true := by decide +kernel
theorem kb_115_1 : ck_es tb_E "StepCodeModel" "act" prog_13_method_94_code [] true mc_115_1 [[], [], [(6, 112)], [], [], [], [], [], [], [], [], [], [], [], [(6, 113)], [], [], [], [], [], [], [], [(6, 114)], []] = true := by decide +kernel
theorem kb_115_2 : ck_es tb_E "StepCodeModel" "act" prog_13_method_94_code [] true mc_115_2 [[], [], [], [], [], [], [(6, 115)], [], [], [], [], [], [], [], [(6, 116)], [], [], [], [], [(6, 118)], [], [], [], []] = true := by decide +kernel
theorem kb_115_3 : ck_es tb_E "StepCodeModel" "act" prog_13_method_94_code [] true mc_115_3 [[], [(6, 118)], [], [], [], []] = true := by decide +kernel
theorem kf_115 : ck_m ⟨"StepCodeModel", "act", "(II)I"⟩ 3 (some .int) mt_115 = true := by decide +kernel
theorem km_115 {D : ar_D} {lim : Nat × Nat} {b : Nat} {B : Heap} (hE : ck_env tb_E (tb_G D lim b B) tb_Ts tb_I ah_P) : am_mok (tb_G D lim b B) tb_Ts tb_I ah_P ⟨"StepCodeModel", "act", "(II)I"⟩ prog_13_method_94_code 3 (some .int) [] mt_115 :=
  ck_mok (hn := true) hE (fun _ => rfl) kf_115 (trivial) (List.forall_mem_cons.mpr ⟨ck_es_ok hE _ _ kb_115_0, List.forall_mem_cons.mpr ⟨ck_es_ok hE _ _ kb_115_1, List.forall_mem_cons.mpr ⟨ck_es_ok hE _ _ kb_115_2, List.forall_mem_cons.mpr ⟨ck_es_ok hE _ _ kb_115_3, fun _ h => absurd h List.not_mem_nil⟩⟩⟩⟩)
-- StepCodeModel.wave(II)I
theorem kb_116_0 : ck_es tb_E "StepCodeModel" "wave" prog_13_method_95_code [] true mc_116_0 [[], [], [], [], [(6, 110)], [], [], [], [], [], [(6, 118)], [], [], [], [], [], [(6, 118)], [], [], [], [], [], [], []] = true := by decide +kernel
theorem kb_116_1 : ck_es tb_E "StepCodeModel" "wave" prog_13_method_95_code [] true mc_116_1 [[(6, 118)], [], [], [], [], []] = true := by decide +kernel
theorem kf_116 : ck_m ⟨"StepCodeModel", "wave", "(II)I"⟩ 3 (some .int) mt_116 = true := by decide +kernel
theorem km_116 {D : ar_D} {lim : Nat × Nat} {b : Nat} {B : Heap} (hE : ck_env tb_E (tb_G D lim b B) tb_Ts tb_I ah_P) : am_mok (tb_G D lim b B) tb_Ts tb_I ah_P ⟨"StepCodeModel", "wave", "(II)I"⟩ prog_13_method_95_code 3 (some .int) [] mt_116 :=
  ck_mok (hn := true) hE (fun _ => rfl) kf_116 (trivial) (List.forall_mem_cons.mpr ⟨ck_es_ok hE _ _ kb_116_0, List.forall_mem_cons.mpr ⟨ck_es_ok hE _ _ kb_116_1, fun _ h => absurd h List.not_mem_nil⟩⟩)
-- StepCodeModel.value(III)I
theorem kb_117_0 : ck_es tb_E "StepCodeModel" "value" prog_13_method_96_code [] true mc_117_0 [[], [], [], [(8, 130), (8, 132), (0, 113)], [], [], [], [], [], [], [], [], [], [], [(7, 22), (7, 24), (0, 47)], [], [], [], [], [(6, 64)], [], [(6, 64)], [], []] = true := by decide +kernel
theorem kb_117_1 : ck_es tb_E "StepCodeModel" "value" prog_13_method_96_code [] true mc_117_1 [[], [], [], [], [], [], [(7, 42), (7, 44), (0, 50)], []] = true := by decide +kernel
theorem kf_117 : ck_m ⟨"StepCodeModel", "value", "(III)I"⟩ 5 (some .int) mt_117 = true := by decide +kernel
theorem km_117 {D : ar_D} {lim : Nat × Nat} {b : Nat} {B : Heap} (hE : ck_env tb_E (tb_G D lim b B) tb_Ts tb_I ah_P) : am_mok (tb_G D lim b B) tb_Ts tb_I ah_P ⟨"StepCodeModel", "value", "(III)I"⟩ prog_13_method_96_code 5 (some .int) [] mt_117 :=
  ck_mok (hn := true) hE (fun _ => rfl) kf_117 (trivial) (List.forall_mem_cons.mpr ⟨ck_es_ok hE _ _ kb_117_0, List.forall_mem_cons.mpr ⟨ck_es_ok hE _ _ kb_117_1, fun _ h => absurd h List.not_mem_nil⟩⟩)
-- StepCodeModel.delay(II)J
theorem kb_118_0 : ck_es tb_E "StepCodeModel" "delay" prog_13_method_97_code [] true mc_118_0 [[], [], [], [], [(6, 110)], [], [], [(6, 112)], [], [], [], [], [], [], [], [], [], [], [], [], [(8, 130), (8, 132), (0, 113)], [], [], []] = true := by decide +kernel
theorem kb_118_1 : ck_es tb_E "StepCodeModel" "delay" prog_13_method_97_code [] true mc_118_1 [[], [], [], [], [], [], [], [], [], [], [], [], [(6, 64)], [], [(6, 64)], [], [], [], [], [], [], [], [(6, 117)], []] = true := by decide +kernel
theorem kb_118_2 : ck_es tb_E "StepCodeModel" "delay" prog_13_method_97_code [] true mc_118_2 [[], [], [], [(6, 119)], [], [], []] = true := by decide +kernel
theorem kf_118 : ck_m ⟨"StepCodeModel", "delay", "(II)J"⟩ 5 (some .long) mt_118 = true := by decide +kernel
theorem km_118 {D : ar_D} {lim : Nat × Nat} {b : Nat} {B : Heap} (hE : ck_env tb_E (tb_G D lim b B) tb_Ts tb_I ah_P) : am_mok (tb_G D lim b B) tb_Ts tb_I ah_P ⟨"StepCodeModel", "delay", "(II)J"⟩ prog_13_method_97_code 5 (some .long) [] mt_118 :=
  ck_mok (hn := true) hE (fun _ => rfl) kf_118 (trivial) (List.forall_mem_cons.mpr ⟨ck_es_ok hE _ _ kb_118_0, List.forall_mem_cons.mpr ⟨ck_es_ok hE _ _ kb_118_1, List.forall_mem_cons.mpr ⟨ck_es_ok hE _ _ kb_118_2, fun _ h => absurd h List.not_mem_nil⟩⟩⟩)
-- StepCode$Datum.<init>()V
theorem kb_119_0 : ck_es tb_E "StepCode$Datum" "<init>" prog_2_method_1_code [] true mc_119_0 [[], [(1, 152), (1, 28), (1, 29)], [], [], [(1, 156)], []] = true := by decide +kernel
theorem kf_119 : ck_m ⟨"StepCode$Datum", "<init>", "()V"⟩ 1 none mt_119 = true := by decide +kernel
theorem km_119 {D : ar_D} {lim : Nat × Nat} {b : Nat} {B : Heap} (hE : ck_env tb_E (tb_G D lim b B) tb_Ts tb_I ah_P) : am_mok (tb_G D lim b B) tb_Ts tb_I ah_P ⟨"StepCode$Datum", "<init>", "()V"⟩ prog_2_method_1_code 1 none [] mt_119 :=
  ck_mok (hn := true) hE (fun _ => rfl) kf_119 (trivial) (List.forall_mem_cons.mpr ⟨ck_es_ok hE _ _ kb_119_0, fun _ h => absurd h List.not_mem_nil⟩)
-- StepCode$Datum.copy(LStepCode$Datum;)V
theorem kb_120_0 : ck_es tb_E "StepCode$Datum" "copy" prog_2_method_2_code [] true mc_120_0 [[], [], [(1, 153)], [(1, 153)], [], [], [(1, 156)], [(1, 156)], [], [], [(1, 161)], [(1, 161)], [], [], [(1, 164)], [(1, 164)], [], [], [(1, 166)], [(1, 166)], [], [], [(1, 168)], [(1, 168)]] = true := by decide +kernel
theorem kb_120_1 : ck_es tb_E "StepCode$Datum" "copy" prog_2_method_2_code [] true mc_120_1 [[], [], [(1, 170)], [(1, 170)], []] = true := by decide +kernel
theorem kf_120 : ck_m ⟨"StepCode$Datum", "copy", "(LStepCode$Datum;)V"⟩ 2 none mt_120 = true := by decide +kernel
theorem km_120 {D : ar_D} {lim : Nat × Nat} {b : Nat} {B : Heap} (hE : ck_env tb_E (tb_G D lim b B) tb_Ts tb_I ah_P) : am_mok (tb_G D lim b B) tb_Ts tb_I ah_P ⟨"StepCode$Datum", "copy", "(LStepCode$Datum;)V"⟩ prog_2_method_2_code 2 none [] mt_120 :=
  ck_mok (hn := true) hE (fun _ => rfl) kf_120 (trivial) (List.forall_mem_cons.mpr ⟨ck_es_ok hE _ _ kb_120_0, List.forall_mem_cons.mpr ⟨ck_es_ok hE _ _ kb_120_1, fun _ h => absurd h List.not_mem_nil⟩⟩)
-- StepCode$Datum.hold(IIJJJJ)V
theorem kb_121_0 : ck_es tb_E "StepCode$Datum" "hold" prog_2_method_3_code [] true mc_121_0 [[(2, 200)], [], [], [], [], [], [], [], [(1, 153)], [], [], [(1, 156)], [], [], [(1, 161)], [], [], [], [], [(1, 164)], [], [], [], []] = true := by decide +kernel
theorem kb_121_1 : ck_es tb_E "StepCode$Datum" "hold" prog_2_method_3_code [] true mc_121_1 [[(1, 166)], [], [], [], [], [(1, 168)], [], [], [], [], [(1, 170)], []] = true := by decide +kernel
theorem kf_121 : ck_m ⟨"StepCode$Datum", "hold", "(IIJJJJ)V"⟩ 13 none mt_121 = true := by decide +kernel
theorem km_121 {D : ar_D} {lim : Nat × Nat} {b : Nat} {B : Heap} (hE : ck_env tb_E (tb_G D lim b B) tb_Ts tb_I ah_P) : am_mok (tb_G D lim b B) tb_Ts tb_I ah_P ⟨"StepCode$Datum", "hold", "(IIJJJJ)V"⟩ prog_2_method_3_code 13 none [] mt_121 :=
  ck_mok (hn := true) hE (fun _ => rfl) kf_121 (trivial) (List.forall_mem_cons.mpr ⟨ck_es_ok hE _ _ kb_121_0, List.forall_mem_cons.mpr ⟨ck_es_ok hE _ _ kb_121_1, fun _ h => absurd h List.not_mem_nil⟩⟩)
-- StepCode$Datum.beNumber(J)V
theorem kb_122_0 : ck_es tb_E "StepCode$Datum" "beNumber" prog_2_method_4_code [] true mc_122_0 [[], [], [(1, 153)], [], [], [(1, 156)], [], [], [(1, 161)], [], [], [(1, 164)], [], [], [(1, 166)], [], [], [(1, 168)], [], [], [(1, 170)], []] = true := by decide +kernel
theorem kf_122 : ck_m ⟨"StepCode$Datum", "beNumber", "(J)V"⟩ 3 none mt_122 = true := by decide +kernel
theorem km_122 {D : ar_D} {lim : Nat × Nat} {b : Nat} {B : Heap} (hE : ck_env tb_E (tb_G D lim b B) tb_Ts tb_I ah_P) : am_mok (tb_G D lim b B) tb_Ts tb_I ah_P ⟨"StepCode$Datum", "beNumber", "(J)V"⟩ prog_2_method_4_code 3 none [] mt_122 :=
  ck_mok (hn := true) hE (fun _ => rfl) kf_122 (trivial) (List.forall_mem_cons.mpr ⟨ck_es_ok hE _ _ kb_122_0, fun _ h => absurd h List.not_mem_nil⟩)
-- StepCode$Datum.beLogic(I)V
theorem kb_123_0 : ck_es tb_E "StepCode$Datum" "beLogic" prog_2_method_5_code [] true mc_123_0 [[], [], [], [], [], [], [], [], [], [], [], [], [], [], [], [], [], [(4, 77), (2, 197), (2, 198)], []] = true := by decide +kernel
theorem kf_123 : ck_m ⟨"StepCode$Datum", "beLogic", "(I)V"⟩ 2 none mt_123 = true := by decide +kernel
theorem km_123 {D : ar_D} {lim : Nat × Nat} {b : Nat} {B : Heap} (hE : ck_env tb_E (tb_G D lim b B) tb_Ts tb_I ah_P) : am_mok (tb_G D lim b B) tb_Ts tb_I ah_P ⟨"StepCode$Datum", "beLogic", "(I)V"⟩ prog_2_method_5_code 2 none [] mt_123 :=
  ck_mok (hn := true) hE (fun _ => rfl) kf_123 (trivial) (List.forall_mem_cons.mpr ⟨ck_es_ok hE _ _ kb_123_0, fun _ h => absurd h List.not_mem_nil⟩)
-- StepCode$Datum.keepPart(III)V
theorem kb_124_0 : ck_es tb_E "StepCode$Datum" "keepPart" prog_2_method_6_code [] true mc_124_0 [[], [], [], [], [(1, 164)], [], [], [], [(1, 166)], [], [], [], [(1, 168)], [], [], [], [(1, 170)], [], [], [(4, 77), (2, 197), (2, 198)], []] = true := by decide +kernel
theorem kf_124 : ck_m ⟨"StepCode$Datum", "keepPart", "(III)V"⟩ 4 none mt_124 = true := by decide +kernel
theorem km_124 {D : ar_D} {lim : Nat × Nat} {b : Nat} {B : Heap} (hE : ck_env tb_E (tb_G D lim b B) tb_Ts tb_I ah_P) : am_mok (tb_G D lim b B) tb_Ts tb_I ah_P ⟨"StepCode$Datum", "keepPart", "(III)V"⟩ prog_2_method_6_code 4 none [] mt_124 :=
  ck_mok (hn := true) hE (fun _ => rfl) kf_124 (trivial) (List.forall_mem_cons.mpr ⟨ck_es_ok hE _ _ kb_124_0, fun _ h => absurd h List.not_mem_nil⟩)
-- StepCode$Datum.overlay(ILStepCode$Datum;)V
theorem kb_125_0 : ck_es tb_E "StepCode$Datum" "overlay" prog_2_method_7_code [] true mc_125_0 [[(2, 200)], [], [], [(1, 156)], [], [], [], [], [(2, 200)], [], [], [], [], [(1, 153)], [], [(1, 156)], [], [(1, 164)], [], [], [], [(1, 164)], [], []] = true := by decide +kernel
theorem kb_125_1 : ck_es tb_E "StepCode$Datum" "overlay" prog_2_method_7_code [] true mc_125_1 [[], [], [(1, 166)], [], [], [], [(1, 166)], [], [], [], [], [(1, 168)], [], [], [], [(1, 168)], [], [], [], [], [(1, 170)], [], [], []] = true := by decide +kernel
theorem kb_125_2 : ck_es tb_E "StepCode$Datum" "overlay" prog_2_method_7_code [] true mc_125_2 [[(1, 170)], [], [], [], [(4, 77), (2, 197), (2, 198)], []] = true := by decide +kernel
theorem kf_125 : ck_m ⟨"StepCode$Datum", "overlay", "(ILStepCode$Datum;)V"⟩ 5 none mt_125 = true := by decide +kernel
theorem km_125 {D : ar_D} {lim : Nat × Nat} {b : Nat} {B : Heap} (hE : ck_env tb_E (tb_G D lim b B) tb_Ts tb_I ah_P) : am_mok (tb_G D lim b B) tb_Ts tb_I ah_P ⟨"StepCode$Datum", "overlay", "(ILStepCode$Datum;)V"⟩ prog_2_method_7_code 5 none [] mt_125 :=
  ck_mok (hn := true) hE (fun _ => rfl) kf_125 (trivial) (List.forall_mem_cons.mpr ⟨ck_es_ok hE _ _ kb_125_0, List.forall_mem_cons.mpr ⟨ck_es_ok hE _ _ kb_125_1, List.forall_mem_cons.mpr ⟨ck_es_ok hE _ _ kb_125_2, fun _ h => absurd h List.not_mem_nil⟩⟩⟩)
-- StepCode$Datum.change(II)V
theorem kb_126_0 : ck_es tb_E "StepCode$Datum" "change" prog_2_method_8_code [] true mc_126_0 [[], [(1, 153)], [], [], [], [], [], [(1, 161)], [], [], [], [], [(2, 200)], [], [], [], [], [(1, 153)], [], [(1, 156)], [], [(1, 164)], [], []] = true := by decide +kernel
theorem kb_126_1 : ck_es tb_E "StepCode$Datum" "change" prog_2_method_8_code [] true mc_126_1 [[], [], [], [], [], [], [], [], [(1, 166)], [], [], [], [], [], [], [], [], [], [], [], [], [(1, 168)], [], []] = true := by decide +kernel
theorem kb_126_2 : ck_es tb_E "StepCode$Datum" "change" prog_2_method_8_code [] true mc_126_2 [[], [], [], [], [], [], [], [], [], [], [(1, 170)], [], [], [], [], [], [], [], [], [], [], [], [(4, 77), (2, 197), (2, 198)], []] = true := by decide +kernel
theorem kf_126 : ck_m ⟨"StepCode$Datum", "change", "(II)V"⟩ 5 none mt_126 = true := by decide +kernel
theorem km_126 {D : ar_D} {lim : Nat × Nat} {b : Nat} {B : Heap} (hE : ck_env tb_E (tb_G D lim b B) tb_Ts tb_I ah_P) : am_mok (tb_G D lim b B) tb_Ts tb_I ah_P ⟨"StepCode$Datum", "change", "(II)V"⟩ prog_2_method_8_code 5 none [] mt_126 :=
  ck_mok (hn := true) hE (fun _ => rfl) kf_126 (trivial) (List.forall_mem_cons.mpr ⟨ck_es_ok hE _ _ kb_126_0, List.forall_mem_cons.mpr ⟨ck_es_ok hE _ _ kb_126_1, List.forall_mem_cons.mpr ⟨ck_es_ok hE _ _ kb_126_2, fun _ h => absurd h List.not_mem_nil⟩⟩⟩)
-- StepCode$Datum.element(I)I
theorem kb_127_0 : ck_es tb_E "StepCode$Datum" "element" prog_2_method_9_code [] true mc_127_0 [[], [(1, 153)], [], [], [], [(1, 161)], [], [], [], [(1, 164)], [], [], [], [], [], [(1, 166)], [], [], [], [], [], [], [], []] = true := by decide +kernel
theorem kb_127_1 : ck_es tb_E "StepCode$Datum" "element" prog_2_method_9_code [] true mc_127_1 [[(1, 168)], [], [], [], [], [], [], [], [], [(1, 170)], [], [], [], [], [], [], [], [], []] = true := by decide +kernel
theorem kf_127 : ck_m ⟨"StepCode$Datum", "element", "(I)I"⟩ 2 (some .int) mt_127 = true := by decide +kernel
theorem km_127 {D : ar_D} {lim : Nat × Nat} {b : Nat} {B : Heap} (hE : ck_env tb_E (tb_G D lim b B) tb_Ts tb_I ah_P) : am_mok (tb_G D lim b B) tb_Ts tb_I ah_P ⟨"StepCode$Datum", "element", "(I)I"⟩ prog_2_method_9_code 2 (some .int) [] mt_127 :=
  ck_mok (hn := true) hE (fun _ => rfl) kf_127 (trivial) (List.forall_mem_cons.mpr ⟨ck_es_ok hE _ _ kb_127_0, List.forall_mem_cons.mpr ⟨ck_es_ok hE _ _ kb_127_1, fun _ h => absurd h List.not_mem_nil⟩⟩)
-- StepCode$Datum.zeros()J
theorem kb_128_0 : ck_es tb_E "StepCode$Datum" "zeros" prog_2_method_10_code [] true mc_128_0 [[], [(1, 166)], [], [(1, 164)], [(2, 200)], [], [], []] = true := by decide +kernel
theorem kf_128 : ck_m ⟨"StepCode$Datum", "zeros", "()J"⟩ 1 (some .long) mt_128 = true := by decide +kernel
theorem km_128 {D : ar_D} {lim : Nat × Nat} {b : Nat} {B : Heap} (hE : ck_env tb_E (tb_G D lim b B) tb_Ts tb_I ah_P) : am_mok (tb_G D lim b B) tb_Ts tb_I ah_P ⟨"StepCode$Datum", "zeros", "()J"⟩ prog_2_method_10_code 1 (some .long) [] mt_128 :=
  ck_mok (hn := true) hE (fun _ => rfl) kf_128 (trivial) (List.forall_mem_cons.mpr ⟨ck_es_ok hE _ _ kb_128_0, fun _ h => absurd h List.not_mem_nil⟩)
-- StepCode$Datum.ones()J
theorem kb_129_0 : ck_es tb_E "StepCode$Datum" "ones" prog_2_method_11_code [] true mc_129_0 [[], [(1, 166)], [], [(1, 164)], [], []] = true := by decide +kernel
theorem kf_129 : ck_m ⟨"StepCode$Datum", "ones", "()J"⟩ 1 (some .long) mt_129 = true := by decide +kernel
theorem km_129 {D : ar_D} {lim : Nat × Nat} {b : Nat} {B : Heap} (hE : ck_env tb_E (tb_G D lim b B) tb_Ts tb_I ah_P) : am_mok (tb_G D lim b B) tb_Ts tb_I ah_P ⟨"StepCode$Datum", "ones", "()J"⟩ prog_2_method_11_code 1 (some .long) [] mt_129 :=
  ck_mok (hn := true) hE (fun _ => rfl) kf_129 (trivial) (List.forall_mem_cons.mpr ⟨ck_es_ok hE _ _ kb_129_0, fun _ h => absurd h List.not_mem_nil⟩)
-- StepCode$Datum.unset()J
theorem kb_130_0 : ck_es tb_E "StepCode$Datum" "unset" prog_2_method_12_code [] true mc_130_0 [[], [(1, 164)], [], [(1, 166)], [], [], [(1, 168)], [], [], [(1, 170)], [], [(2, 200)], [], [(2, 200)], [], [], [(1, 156)], [], [], [], []] = true := by decide +kernel
theorem kf_130 : ck_m ⟨"StepCode$Datum", "unset", "()J"⟩ 1 (some .long) mt_130 = true := by decide +kernel
theorem km_130 {D : ar_D} {lim : Nat × Nat} {b : Nat} {B : Heap} (hE : ck_env tb_E (tb_G D lim b B) tb_Ts tb_I ah_P) : am_mok (tb_G D lim b B) tb_Ts tb_I ah_P ⟨"StepCode$Datum", "unset", "()J"⟩ prog_2_method_12_code 1 (some .long) [] mt_130 :=
  ck_mok (hn := true) hE (fun _ => rfl) kf_130 (trivial) (List.forall_mem_cons.mpr ⟨ck_es_ok hE _ _ kb_130_0, fun _ h => absurd h List.not_mem_nil⟩)
-- StepCode$Datum.isClear()Z
theorem kb_131_0 : ck_es tb_E "StepCode$Datum" "isClear" prog_2_method_13_code [] true mc_131_0 [[], [(1, 166)], [(2, 200)], [], [], [(1, 156)], [], [], [], [], [], [], [], []] = true := by decide +kernel
theorem kf_131 : ck_m ⟨"StepCode$Datum", "isClear", "()Z"⟩ 1 (some .boolean) mt_131 = true := by decide +kernel
theorem km_131 {D : ar_D} {lim : Nat × Nat} {b : Nat} {B : Heap} (hE : ck_env tb_E (tb_G D lim b B) tb_Ts tb_I ah_P) : am_mok (tb_G D lim b B) tb_Ts tb_I ah_P ⟨"StepCode$Datum", "isClear", "()Z"⟩ prog_2_method_13_code 1 (some .boolean) [] mt_131 :=
  ck_mok (hn := true) hE (fun _ => rfl) kf_131 (trivial) (List.forall_mem_cons.mpr ⟨ck_es_ok hE _ _ kb_131_0, fun _ h => absurd h List.not_mem_nil⟩)
-- StepCode$Datum.isSame(LStepCode$Datum;)Z
theorem kb_132_0 : ck_es tb_E "StepCode$Datum" "isSame" prog_2_method_14_code [] true mc_132_0 [[], [(1, 161)], [], [(1, 161)], [], [], [], [(1, 164)], [], [(1, 164)], [], [], [], [(1, 166)], [], [(1, 166)], [], [], [], [(1, 168)], [], [(1, 168)], [], []] = true := by decide +kernel
theorem kb_132_1 : ck_es tb_E "StepCode$Datum" "isSame" prog_2_method_14_code [] true mc_132_1 [[], [(1, 170)], [], [(1, 170)], [], [], [], [], [], []] = true := by decide +kernel
theorem kf_132 : ck_m ⟨"StepCode$Datum", "isSame", "(LStepCode$Datum;)Z"⟩ 2 (some .boolean) mt_132 = true := by decide +kernel
theorem km_132 {D : ar_D} {lim : Nat × Nat} {b : Nat} {B : Heap} (hE : ck_env tb_E (tb_G D lim b B) tb_Ts tb_I ah_P) : am_mok (tb_G D lim b B) tb_Ts tb_I ah_P ⟨"StepCode$Datum", "isSame", "(LStepCode$Datum;)Z"⟩ prog_2_method_14_code 2 (some .boolean) [] mt_132 :=
  ck_mok (hn := true) hE (fun _ => rfl) kf_132 (trivial) (List.forall_mem_cons.mpr ⟨ck_es_ok hE _ _ kb_132_0, List.forall_mem_cons.mpr ⟨ck_es_ok hE _ _ kb_132_1, fun _ h => absurd h List.not_mem_nil⟩⟩)
-- StepCode$Datum.unlike(LStepCode$Datum;)I
theorem kb_133_0 : ck_es tb_E "StepCode$Datum" "unlike" prog_2_method_15_code [] true mc_133_0 [[], [(1, 153)], [], [(1, 153)], [], [], [], [], [(1, 156)], [], [(1, 156)], [], [], [], [], []] = true := by decide +kernel
theorem kf_133 : ck_m ⟨"StepCode$Datum", "unlike", "(LStepCode$Datum;)I"⟩ 2 (some .int) mt_133 = true := by decide +kernel
theorem km_133 {D : ar_D} {lim : Nat × Nat} {b : Nat} {B : Heap} (hE : ck_env tb_E (tb_G D lim b B) tb_Ts tb_I ah_P) : am_mok (tb_G D lim b B) tb_Ts tb_I ah_P ⟨"StepCode$Datum", "unlike", "(LStepCode$Datum;)I"⟩ prog_2_method_15_code 2 (some .int) [] mt_133 :=
  ck_mok (hn := true) hE (fun _ => rfl) kf_133 (trivial) (List.forall_mem_cons.mpr ⟨ck_es_ok hE _ _ kb_133_0, fun _ h => absurd h List.not_mem_nil⟩)
-- StepCode$Finder.<init>(LStepCode$Things;)V
theorem kb_134_0 : ck_es tb_E "StepCode$Finder" "<init>" prog_3_method_1_code [] true mc_134_0 [[], [(2, 5), (1, 28), (1, 29)], [], [], [(2, 8)], [], [], [(2, 6)], [(2, 9)], [], [], [], [], [(2, 9)], [], [], [], [(2, 9)], [], [(2, 6), (1, 148), (1, 8)], [], [(999, 0), (1, 150), (0, 0)], [], []] = true := by decide +kernel
theorem kb_134_1 : ck_es tb_E "StepCode$Finder" "<init>" prog_3_method_1_code [] true mc_134_1 [[], []] = true := by decide +kernel
theorem kf_134 : ck_m ⟨"StepCode$Finder", "<init>", "(LStepCode$Things;)V"⟩ 3 none mt_134 = true := by decide +kernel
theorem km_134 {D : ar_D} {lim : Nat × Nat} {b : Nat} {B : Heap} (hE : ck_env tb_E (tb_G D lim b B) tb_Ts tb_I ah_P) : am_mok (tb_G D lim b B) tb_Ts tb_I ah_P ⟨"StepCode$Finder", "<init>", "(LStepCode$Things;)V"⟩ prog_3_method_1_code 3 none [] mt_134 :=
  ck_mok (hn := true) hE (fun _ => rfl) kf_134 (trivial) (List.forall_mem_cons.mpr ⟨ck_es_ok hE _ _ kb_134_0, List.forall_mem_cons.mpr ⟨ck_es_ok hE _ _ kb_134_1, fun _ h => absurd h List.not_mem_nil⟩⟩)
-- StepCode$Finder.found()LStepCode$Datum;
theorem kb_135_0 : ck_es tb_E "StepCode$Finder" "found" prog_3_method_2_code [] true mc_135_0 [[], [(2, 9)], [], [], []] = true := by decide +kernel
theorem kf_135 : ck_m ⟨"StepCode$Finder", "found", "()LStepCode$Datum;"⟩ 1 (some (.object "StepCode$Datum")) mt_135 = true := by decide +kernel
theorem km_135 {D : ar_D} {lim : Nat × Nat} {b : Nat} {B : Heap} (hE : ck_env tb_E (tb_G D lim b B) tb_Ts tb_I ah_P) : am_mok (tb_G D lim b B) tb_Ts tb_I ah_P ⟨"StepCode$Finder", "found", "()LStepCode$Datum;"⟩ prog_3_method_2_code 1 (some (.object "StepCode$Datum")) [] mt_135 :=
  ck_mok (hn := true) hE (fun _ => rfl) kf_135 (trivial) (List.forall_mem_cons.mpr ⟨ck_es_ok hE _ _ kb_135_0, fun _ h => absurd h List.not_mem_nil⟩)
-- StepCode$Finder.isNumber()Z
theorem kb_136_0 : ck_es tb_E "StepCode$Finder" "isNumber" prog_3_method_3_code [] true mc_136_0 [[], [(2, 9)], [], [], [(1, 154)], [], [], [], [], [], []] = true := by decide +kernel
theorem kf_136 : ck_m ⟨"StepCode$Finder", "isNumber", "()Z"⟩ 1 (some .boolean) mt_136 = true := by decide +kernel
theorem km_136 {D : ar_D} {lim : Nat × Nat} {b : Nat} {B : Heap} (hE : ck_env tb_E (tb_G D lim b B) tb_Ts tb_I ah_P) : am_mok (tb_G D lim b B) tb_Ts tb_I ah_P ⟨"StepCode$Finder", "isNumber", "()Z"⟩ prog_3_method_3_code 1 (some .boolean) [] mt_136 :=
  ck_mok (hn := true) hE (fun _ => rfl) kf_136 (trivial) (List.forall_mem_cons.mpr ⟨ck_es_ok hE _ _ kb_136_0, fun _ h => absurd h List.not_mem_nil⟩)
-- StepCode$Finder.find(LStepCode$Unit;I)Z
theorem kb_137_0 : ck_es tb_E "StepCode$Finder" "find" prog_3_method_4_code [] true mc_137_0 [[], [(3, 219)], [], [], [], [(2, 10)], [], [], [(4, 178), (4, 179), (4, 180)], [], [], [], [], [], [], [(1, 73)], [], [], [], [(4, 182), (3, 68), (3, 69)], [], [], [], []] = true := by decide +kernel
theorem kb_137_1 : ck_es tb_E "StepCode$Finder" "find" prog_3_method_4_code [] true mc_137_1 [[], [(4, 183), (3, 64), (3, 65)], [], [], [(4, 184), (4, 186), (0, 23)], [], [(4, 188), (4, 189), (4, 190)], [], [], [(4, 184), (4, 186), (0, 23)], [], [], [(4, 188), (4, 189), (4, 190)], [], [], [], [], [(4, 192), (3, 163), (3, 164)], [(4, 183), (3, 64), (3, 65)], [], [], [], [(4, 184), (4, 186), (0, 23)], []] = true := by decide +kernel
theorem kb_137_2 : ck_es tb_E "StepCode$Finder" "find" prog_3_method_4_code [] true mc_137_2 [[(4, 193), (4, 194), (4, 195)], [], [], [], [], [(4, 197), (4, 199), (0, 24)], [], [], [], [(2, 8)], [], [(4, 204), (3, 116), (3, 117)], [(4, 205), (4, 207), (0, 25)], [], [], [], [(3, 221)], [], [(4, 204), (3, 116), (3, 117)], [(4, 205), (4, 207), (0, 25)], [], [], [(4, 210), (4, 212), (0, 26)], []] = true := by decide +kernel
theorem kb_137_3 : ck_es tb_E "StepCode$Finder" "find" prog_3_method_4_code [] true mc_137_3 [[], [], [(4, 227), (4, 229), (0, 29)], [], [], [], [], [(2, 8)], [], [], [], [], [(4, 202), (3, 88), (3, 89)], [(4, 182), (3, 68), (3, 69)], [(4, 204), (3, 116), (3, 117)], [(4, 231), (4, 233), (0, 30)], [], [], [], [], [], [(2, 8)], [], []] = true := by decide +kernel
theorem kb_137_4 : ck_es tb_E "StepCode$Finder" "find" prog_3_method_4_code [] true mc_137_4 [[], [], [(4, 202), (3, 88), (3, 89)], [(4, 182), (3, 68), (3, 69)], [(4, 204), (3, 116), (3, 117)], [(5, 15), (5, 17), (0, 31)], [], [], [], [], [(4, 214), (4, 216), (0, 27)], [(5, 19), (5, 20)], [], [], [], [], [], [(4, 214), (4, 216), (0, 27)], [], [], [(4, 214), (4, 216), (0, 27)], [(5, 29), (5, 30)], [], []] = true := by decide +kernel
theorem kb_137_5 : ck_es tb_E "StepCode$Finder" "find" prog_3_method_4_code [] true mc_137_5 [[], [(4, 218), (4, 220), (0, 28)], [], [], [], [], [(4, 214), (4, 216), (0, 27)], [(5, 78), (5, 79)], [], [], [], [], [], [], [], [(5, 81), (5, 82), (5, 83)], [], [], [], [], []] = true := by decide +kernel
theorem kf_137 : ck_m ⟨"StepCode$Finder", "find", "(LStepCode$Unit;I)Z"⟩ 7 (some .boolean) mt_137 = true := by decide +kernel
theorem km_137 {D : ar_D} {lim : Nat × Nat} {b : Nat} {B : Heap} (hE : ck_env tb_E (tb_G D lim b B) tb_Ts tb_I ah_P) : am_mok (tb_G D lim b B) tb_Ts tb_I ah_P ⟨"StepCode$Finder", "find", "(LStepCode$Unit;I)Z"⟩ prog_3_method_4_code 7 (some .boolean) [] mt_137 :=
  ck_mok (hn := true) hE (fun _ => rfl) kf_137 (trivial) (List.forall_mem_cons.mpr ⟨ck_es_ok hE _ _ kb_137_0, List.forall_mem_cons.mpr ⟨ck_es_ok hE _ _ kb_137_1, List.forall_mem_cons.mpr ⟨ck_es_ok hE _ _ kb_137_2, List.forall_mem_cons.mpr ⟨ck_es_ok hE _ _ kb_137_3, List.forall_mem_cons.mpr ⟨ck_es_ok hE _ _ kb_137_4, List.forall_mem_cons.mpr ⟨ck_es_ok hE _ _ kb_137_5, fun _ h => absurd h List.not_mem_nil⟩⟩⟩⟩⟩⟩)
-- StepCode$Finder.push()LStepCode$Datum;
theorem kb_138_0 : ck_es tb_E "StepCode$Finder" "push" prog_3_method_5_code [] true mc_138_0 [[], [(2, 10)], [], [(2, 9)], [], [], [], [], [(2, 10)], [], [], [(2, 10)], [], [(2, 9)], [], [(2, 10)], [], [], [], []] = true := by decide +kernel
theorem kf_138 : ck_m ⟨"StepCode$Finder", "push", "()LStepCode$Datum;"⟩ 1 (some (.object "StepCode$Datum")) mt_138 = true := by decide +kernel
theorem km_138 {D : ar_D} {lim : Nat × Nat} {b : Nat} {B : Heap} (hE : ck_env tb_E (tb_G D lim b B) tb_Ts tb_I ah_P) : am_mok (tb_G D lim b B) tb_Ts tb_I ah_P ⟨"StepCode$Finder", "push", "()LStepCode$Datum;"⟩ prog_3_method_5_code 1 (some (.object "StepCode$Datum")) [] mt_138 :=
  ck_mok (hn := true) hE (fun _ => rfl) kf_138 (trivial) (List.forall_mem_cons.mpr ⟨ck_es_ok hE _ _ kb_138_0, fun _ h => absurd h List.not_mem_nil⟩)
-- StepCode$Finder.pushNow(LStepCode$Thing;)V
theorem kb_139_0 : ck_es tb_E "StepCode$Finder" "pushNow" prog_3_method_6_code [] true mc_139_0 [[], [(4, 184), (4, 186), (0, 23)], [], [], [], [], [], [(4, 188), (4, 189), (4, 190)], [], [], [], [(2, 214)], [(4, 209), (2, 202), (2, 203)], []] = true := by decide +kernel
theorem kf_139 : ck_m ⟨"StepCode$Finder", "pushNow", "(LStepCode$Thing;)V"⟩ 3 none mt_139 = true := by decide +kernel
theorem km_139 {D : ar_D} {lim : Nat × Nat} {b : Nat} {B : Heap} (hE : ck_env tb_E (tb_G D lim b B) tb_Ts tb_I ah_P) : am_mok (tb_G D lim b B) tb_Ts tb_I ah_P ⟨"StepCode$Finder", "pushNow", "(LStepCode$Thing;)V"⟩ prog_3_method_6_code 3 none [] mt_139 :=
  ck_mok (hn := true) hE (fun _ => rfl) kf_139 (trivial) (List.forall_mem_cons.mpr ⟨ck_es_ok hE _ _ kb_139_0, fun _ h => absurd h List.not_mem_nil⟩)
-- StepCode$Finder.down(I)LStepCode$Datum;
theorem kb_140_0 : ck_es tb_E "StepCode$Finder" "down" prog_3_method_7_code [] true mc_140_0 [[], [], [], [], [(2, 10)], [], [], [(2, 9)], [], [(2, 10)], [], [], [], [], [], [], [], [(2, 9)], [], [], []] = true := by decide +kernel
theorem kf_140 : ck_m ⟨"StepCode$Finder", "down", "(I)LStepCode$Datum;"⟩ 2 (some (.object "StepCode$Datum")) mt_140 = true := by decide +kernel
theorem km_140 {D : ar_D} {lim : Nat × Nat} {b : Nat} {B : Heap} (hE : ck_env tb_E (tb_G D lim b B) tb_Ts tb_I ah_P) : am_mok (tb_G D lim b B) tb_Ts tb_I ah_P ⟨"StepCode$Finder", "down", "(I)LStepCode$Datum;"⟩ prog_3_method_7_code 2 (some (.object "StepCode$Datum")) [] mt_140 :=
  ck_mok (hn := true) hE (fun _ => rfl) kf_140 (trivial) (List.forall_mem_cons.mpr ⟨ck_es_ok hE _ _ kb_140_0, fun _ h => absurd h List.not_mem_nil⟩)
-- StepCode$Finder.drop(I)V
theorem kb_141_0 : ck_es tb_E "StepCode$Finder" "drop" prog_3_method_8_code [] true mc_141_0 [[], [], [(2, 10)], [], [], [], [(4, 222), (1, 37), (1, 3), (1, 38)], [(2, 10)], []] = true := by decide +kernel
theorem kf_141 : ck_m ⟨"StepCode$Finder", "drop", "(I)V"⟩ 2 none mt_141 = true := by decide +kernel
theorem km_141 {D : ar_D} {lim : Nat × Nat} {b : Nat} {B : Heap} (hE : ck_env tb_E (tb_G D lim b B) tb_Ts tb_I ah_P) : am_mok (tb_G D lim b B) tb_Ts tb_I ah_P ⟨"StepCode$Finder", "drop", "(I)V"⟩ prog_3_method_8_code 2 none [] mt_141 :=
  ck_mok (hn := true) hE (fun _ => rfl) kf_141 (trivial) (List.forall_mem_cons.mpr ⟨ck_es_ok hE _ _ kb_141_0, fun _ h => absurd h List.not_mem_nil⟩)
-- StepCode$Finder.gather(LStepCode$Nodes;I)V
theorem kb_142_0 : ck_es tb_E "StepCode$Finder" "gather" prog_3_method_9_code [] true mc_142_0 [[], [], [(4, 201), (3, 76), (3, 77)], [], [], [], [], [], [], [], [], [], [], [], [], [], [], [], [], [], [], [(4, 202), (3, 88), (3, 89)], [(4, 182), (3, 68), (3, 69)], []] = true := by decide +kernel
theorem kb_142_1 : ck_es tb_E "StepCode$Finder" "gather" prog_3_method_9_code [] true mc_142_1 [[], [], [], [], [], [], [], [], [], [], [], [], [], [], [], [], [], [], [], [], [], [], [], []] = true := by decide +kernel
theorem kb_142_2 : ck_es tb_E "StepCode$Finder" "gather" prog_3_method_9_code [] true mc_142_2 [[], [], [], [], [], [], [], [], [], [], [], [], [], [], [], [], [], [], [], [], [], [(4, 184), (4, 186), (0, 23)], [], []] = true := by decide +kernel
theorem kb_142_3 : ck_es tb_E "StepCode$Finder" "gather" prog_3_method_9_code [] true mc_142_3 [[], [], [], [], [(4, 203), (2, 197), (2, 198)], []] = true := by decide +kernel
theorem kf_142 : ck_m ⟨"StepCode$Finder", "gather", "(LStepCode$Nodes;I)V"⟩ 14 none mt_142 = true := by decide +kernel
theorem km_142 {D : ar_D} {lim : Nat × Nat} {b : Nat} {B : Heap} (hE : ck_env tb_E (tb_G D lim b B) tb_Ts tb_I ah_P) : am_mok (tb_G D lim b B) tb_Ts tb_I ah_P ⟨"StepCode$Finder", "gather", "(LStepCode$Nodes;I)V"⟩ prog_3_method_9_code 14 none [] mt_142 :=
  ck_mok (hn := true) hE (fun _ => rfl) kf_142 (trivial) (List.forall_mem_cons.mpr ⟨ck_es_ok hE _ _ kb_142_0, List.forall_mem_cons.mpr ⟨ck_es_ok hE _ _ kb_142_1, List.forall_mem_cons.mpr ⟨ck_es_ok hE _ _ kb_142_2, List.forall_mem_cons.mpr ⟨ck_es_ok hE _ _ kb_142_3, fun _ h => absurd h List.not_mem_nil⟩⟩⟩⟩)
-- StepCode$Finder.element()I
theorem kb_143_0 : ck_es tb_E "StepCode$Finder" "element" prog_3_method_10_code [] true mc_143_0 [[], [], [(4, 214), (4, 216), (0, 27)], [], [], [], [(4, 214), (4, 216), (0, 27)], [], [], [], [(4, 218), (4, 220), (0, 28)], [], [(1, 154)], [], [], [], [], [], [(1, 163)], [], [], [], [], [(1, 163)]] = true := by decide +kernel
theorem kb_143_1 : ck_es tb_E "StepCode$Finder" "element" prog_3_method_10_code [] true mc_143_1 [[], [(1, 158)], [], [], [], [], [], [], [], [], [(1, 163)], [], [], [(4, 223), (4, 224), (4, 225)], [], []] = true := by decide +kernel
theorem kf_143 : ck_m ⟨"StepCode$Finder", "element", "()I"⟩ 3 (some .int) mt_143 = true := by decide +kernel
theorem km_143 {D : ar_D} {lim : Nat × Nat} {b : Nat} {B : Heap} (hE : ck_env tb_E (tb_G D lim b B) tb_Ts tb_I ah_P) : am_mok (tb_G D lim b B) tb_Ts tb_I ah_P ⟨"StepCode$Finder", "element", "()I"⟩ prog_3_method_10_code 3 (some .int) [] mt_143 :=
  ck_mok (hn := true) hE (fun _ => rfl) kf_143 (trivial) (List.forall_mem_cons.mpr ⟨ck_es_ok hE _ _ kb_143_0, List.forall_mem_cons.mpr ⟨ck_es_ok hE _ _ kb_143_1, fun _ h => absurd h List.not_mem_nil⟩⟩)
-- StepCode$Finder.part()V
theorem kb_144_0 : ck_es tb_E "StepCode$Finder" "part" prog_3_method_11_code [] true mc_144_0 [[], [], [(4, 214), (4, 216), (0, 27)], [(1, 163)], [], [], [], [], [(4, 214), (4, 216), (0, 27)], [(1, 163)], [], [], [], [], [(4, 218), (4, 220), (0, 28)], [], [], [(4, 214), (4, 216), (0, 27)], [], [], [], [(4, 223), (4, 224), (4, 225)], []] = true := by decide +kernel
theorem kf_144 : ck_m ⟨"StepCode$Finder", "part", "()V"⟩ 3 none mt_144 = true := by decide +kernel
theorem km_144 {D : ar_D} {lim : Nat × Nat} {b : Nat} {B : Heap} (hE : ck_env tb_E (tb_G D lim b B) tb_Ts tb_I ah_P) : am_mok (tb_G D lim b B) tb_Ts tb_I ah_P ⟨"StepCode$Finder", "part", "()V"⟩ prog_3_method_11_code 3 none [] mt_144 :=
  ck_mok (hn := true) hE (fun _ => rfl) kf_144 (trivial) (List.forall_mem_cons.mpr ⟨ck_es_ok hE _ _ kb_144_0, fun _ h => absurd h List.not_mem_nil⟩)
-- StepCode$Finder.function(ILStepCode$Thing;)I
theorem kb_145_0 : ck_es tb_E "StepCode$Finder" "function" prog_3_method_12_code [] true mc_145_0 [[], [], [], [], [], [(4, 214), (4, 216), (0, 27)], [(4, 235), (4, 236)], [], [], [], [], [], [], [(4, 214), (4, 216), (0, 27)], [(1, 163)], [], [], [], [], [(4, 218), (4, 220), (0, 28)], [], [], [(4, 214), (4, 216), (0, 27)], []] = true := by decide +kernel
theorem kb_145_1 : ck_es tb_E "StepCode$Finder" "function" prog_3_method_12_code [] true mc_145_1 [[(5, 7), (5, 8)], [], [], [], [], [(2, 221)], [], [], [], [], [], [], [], [], [], [], [], [(2, 214)], [(4, 238), (4, 239), (5, 0)], [], [], [], [], [(2, 219)]] = true := by decide +kernel
theorem kb_145_2 : ck_es tb_E "StepCode$Finder" "function" prog_3_method_12_code [] true mc_145_2 [[(5, 11), (5, 12), (5, 13)], [], [], [], [], [], [], [], [], [], [], [], [(2, 214)], [(5, 11), (5, 12), (5, 13)], [], [], [], [], [(2, 219)], [(4, 238), (4, 239), (5, 0)], [], [], [], []] = true := by decide +kernel
theorem kb_145_3 : ck_es tb_E "StepCode$Finder" "function" prog_3_method_12_code [] true mc_145_3 [[], [], [], [], [], [(4, 214), (4, 216), (0, 27)], [], [], [], [], [], [(4, 188), (4, 189), (4, 190)], [], []] = true := by decide +kernel
theorem kf_145 : ck_m ⟨"StepCode$Finder", "function", "(ILStepCode$Thing;)I"⟩ 4 (some .int) mt_145 = true := by decide +kernel
theorem km_145 {D : ar_D} {lim : Nat × Nat} {b : Nat} {B : Heap} (hE : ck_env tb_E (tb_G D lim b B) tb_Ts tb_I ah_P) : am_mok (tb_G D lim b B) tb_Ts tb_I ah_P ⟨"StepCode$Finder", "function", "(ILStepCode$Thing;)I"⟩ prog_3_method_12_code 4 (some .int) [] mt_145 :=
  ck_mok (hn := true) hE (fun _ => rfl) kf_145 (trivial) (List.forall_mem_cons.mpr ⟨ck_es_ok hE _ _ kb_145_0, List.forall_mem_cons.mpr ⟨ck_es_ok hE _ _ kb_145_1, List.forall_mem_cons.mpr ⟨ck_es_ok hE _ _ kb_145_2, List.forall_mem_cons.mpr ⟨ck_es_ok hE _ _ kb_145_3, fun _ h => absurd h List.not_mem_nil⟩⟩⟩⟩)
