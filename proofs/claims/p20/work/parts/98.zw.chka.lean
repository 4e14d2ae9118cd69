/-! TABLES of the abstract machine, by program (wip/tools/gen2.py) out of the claim's listing and words -/
-- StepCode.<init>()V
theorem kb_0_0 : ck_es tb_E "StepCode" "<init>" prog_1_method_1_code [] true mc_0_0 [[], [(1, 27), (1, 28), (1, 29)], [], [(1, 30), (1, 31), (1, 2)], [], [], [(1, 32), (1, 33)], [(2, 54)], [], [(1, 48), (1, 49), (1, 4)], [], [(1, 50), (1, 51)], [(2, 55)], [], [(1, 122), (1, 123), (1, 6)], [], [], [(2, 55)], [], [(2, 54)], [(1, 124), (1, 125)], [(2, 56)], [], []] = true := by decide +kernel
theorem kb_0_1 : ck_es tb_E "StepCode" "<init>" prog_1_method_1_code [] true mc_0_1 [[(1, 138)], [(2, 57)], [], [(1, 140), (1, 141), (1, 7)], [], [(1, 142), (1, 143)], [(2, 60)], [], [(1, 234), (1, 235), (1, 9)], [], [], [(2, 54)], [], [(2, 60)], [(1, 236), (1, 237)], [(2, 61)], []] = true := by decide +kernel
theorem kf_0 : ck_m ⟨"StepCode", "<init>", "()V"⟩ 1 none mt_0 = true := by decide +kernel
theorem km_0 {D : ar_D} {lim : Nat × Nat} {b : Nat} {B : Heap} (hE : ck_env tb_E (tb_G D lim b B) tb_Ts tb_I ah_P) : am_mok (tb_G D lim b B) tb_Ts tb_I ah_P ⟨"StepCode", "<init>", "()V"⟩ prog_1_method_1_code 1 none [] mt_0 :=
  ck_mok (hn := true) hE (fun _ => rfl) kf_0 (trivial) (List.forall_mem_cons.mpr ⟨ck_es_ok hE _ _ kb_0_0, List.forall_mem_cons.mpr ⟨ck_es_ok hE _ _ kb_0_1, fun _ h => absurd h List.not_mem_nil⟩⟩)
-- StepCode.signal(III)I
theorem kb_1_0 : ck_es tb_E "StepCode" "signal" prog_1_method_2_code [] true mc_1_0 [[], [], [], [(2, 96), (2, 97)], [], [(2, 142), (2, 100), (0, 0)], [], [], [], [], [], [(2, 54)], [(2, 168), (2, 169), (2, 170)], [], [(2, 182), (2, 172), (1, 1)], [], [], [], [], [], [(2, 54)], [(2, 188), (2, 189), (1, 12)], [], []] = true := by decide +kernel
theorem kb_1_1 : ck_es tb_E "StepCode" "signal" prog_1_method_2_code [] true mc_1_1 [[], [], [(2, 190), (2, 191)], [(3, 1), (3, 2), (3, 3)], []] = true := by decide +kernel
theorem kf_1 : ck_m ⟨"StepCode", "signal", "(III)I"⟩ 4 (some .int) mt_1 = true := by decide +kernel
theorem km_1 {D : ar_D} {lim : Nat × Nat} {b : Nat} {B : Heap} (hE : ck_env tb_E (tb_G D lim b B) tb_Ts tb_I ah_P) : am_mok (tb_G D lim b B) tb_Ts tb_I ah_P ⟨"StepCode", "signal", "(III)I"⟩ prog_1_method_2_code 4 (some .int) [] mt_1 :=
  ck_mok (hn := true) hE (fun _ => rfl) kf_1 (trivial) (List.forall_mem_cons.mpr ⟨ck_es_ok hE _ _ kb_1_0, List.forall_mem_cons.mpr ⟨ck_es_ok hE _ _ kb_1_1, fun _ h => absurd h List.not_mem_nil⟩⟩)
-- StepCode.variable(III)I
theorem kb_2_0 : ck_es tb_E "StepCode" "variable" prog_1_method_3_code [] true mc_2_0 [[], [], [], [(2, 96), (2, 97)], [], [(2, 142), (2, 100), (0, 0)], [], [], [], [], [], [(2, 55)], [(1, 104)], [(2, 168), (2, 169), (2, 170)], [], [(2, 182), (2, 172), (1, 2)], [], [], [], [], [], [(2, 55)], [(1, 104)], [(2, 188), (2, 189), (1, 12)]] = true := by decide +kernel
theorem kb_2_1 : ck_es tb_E "StepCode" "variable" prog_1_method_3_code [] true mc_2_1 [[], [], [], [], [(2, 190), (2, 191)], [(3, 1), (3, 2), (3, 3)], []] = true := by decide +kernel
theorem kf_2 : ck_m ⟨"StepCode", "variable", "(III)I"⟩ 4 (some .int) mt_2 = true := by decide +kernel
theorem km_2 {D : ar_D} {lim : Nat × Nat} {b : Nat} {B : Heap} (hE : ck_env tb_E (tb_G D lim b B) tb_Ts tb_I ah_P) : am_mok (tb_G D lim b B) tb_Ts tb_I ah_P ⟨"StepCode", "variable", "(III)I"⟩ prog_1_method_3_code 4 (some .int) [] mt_2 :=
  ck_mok (hn := true) hE (fun _ => rfl) kf_2 (trivial) (List.forall_mem_cons.mpr ⟨ck_es_ok hE _ _ kb_2_0, List.forall_mem_cons.mpr ⟨ck_es_ok hE _ _ kb_2_1, fun _ h => absurd h List.not_mem_nil⟩⟩)
-- StepCode.add(III)I
theorem kb_3_0 : ck_es tb_E "StepCode" "add" prog_1_method_4_code [] true mc_3_0 [[], [], [], [], [], [], [], [], [], [(2, 55)], [(1, 110)], [], [(2, 142), (2, 100), (0, 3)], [], [], [], [], [], [(2, 55)], [(1, 102)], [(3, 22), (3, 23), (3, 24)], [], [(2, 182), (2, 172), (1, 4)], []] = true := by decide +kernel
theorem kb_3_1 : ck_es tb_E "StepCode" "add" prog_1_method_4_code [] true mc_3_1 [[], [], [], [], [(2, 55)], [], [], [], [(3, 27), (3, 28), (3, 29)], []] = true := by decide +kernel
theorem kf_3 : ck_m ⟨"StepCode", "add", "(III)I"⟩ 4 (some .int) mt_3 = true := by decide +kernel
theorem km_3 {D : ar_D} {lim : Nat × Nat} {b : Nat} {B : Heap} (hE : ck_env tb_E (tb_G D lim b B) tb_Ts tb_I ah_P) : am_mok (tb_G D lim b B) tb_Ts tb_I ah_P ⟨"StepCode", "add", "(III)I"⟩ prog_1_method_4_code 4 (some .int) [] mt_3 :=
  ck_mok (hn := true) hE (fun _ => rfl) kf_3 (trivial) (List.forall_mem_cons.mpr ⟨ck_es_ok hE _ _ kb_3_0, List.forall_mem_cons.mpr ⟨ck_es_ok hE _ _ kb_3_1, fun _ h => absurd h List.not_mem_nil⟩⟩)
-- StepCode.process()I
theorem kb_4_0 : ck_es tb_E "StepCode" "process" prog_1_method_5_code [] true mc_4_0 [[], [(2, 55)], [(1, 102)], [(1, 74)], [], [], [(2, 58)], [], [(2, 57)], [], [], [], [(2, 59)], [], [], [], [], [(2, 182), (2, 172), (1, 5)], [], [], [], [], [], [(2, 56)]] = true := by decide +kernel
theorem kb_4_1 : ck_es tb_E "StepCode" "process" prog_1_method_5_code [] true mc_4_1 [[(3, 54), (3, 55), (3, 56)], [], [], [], [], [], [], [], [], [], [], [(2, 56)], [(3, 175), (3, 176), (3, 177)], [], [], [], [], [], [], [], [], [], [], [(2, 58)]] = true := by decide +kernel
theorem kb_4_2 : ck_es tb_E "StepCode" "process" prog_1_method_5_code [] true mc_4_2 [[], [], [(2, 57)], [], [(2, 58)], [(1, 138), (3, 179), (1, 18)], [], [], [(2, 55)], [(1, 102)], [(3, 180), (3, 181), (3, 182)], [], [(2, 55)], [(1, 104)], [(3, 204), (3, 205), (3, 206)], [(3, 211), (3, 212)], [], [], [], [(2, 58)], [], [], [(2, 58)], []] = true := by decide +kernel
theorem kb_4_3 : ck_es tb_E "StepCode" "process" prog_1_method_5_code [] true mc_4_3 [[], [(2, 59)], [], [], [(2, 59)], [], [(2, 55)], [(4, 27), (4, 28), (4, 29)], [], []] = true := by decide +kernel
theorem kf_4 : ck_m ⟨"StepCode", "process", "()I"⟩ 3 (some .int) mt_4 = true := by decide +kernel
theorem km_4 {D : ar_D} {lim : Nat × Nat} {b : Nat} {B : Heap} (hE : ck_env tb_E (tb_G D lim b B) tb_Ts tb_I ah_P) : am_mok (tb_G D lim b B) tb_Ts tb_I ah_P ⟨"StepCode", "process", "()I"⟩ prog_1_method_5_code 3 (some .int) [] mt_4 :=
  ck_mok (hn := true) hE (fun _ => rfl) kf_4 (trivial) (List.forall_mem_cons.mpr ⟨ck_es_ok hE _ _ kb_4_0, List.forall_mem_cons.mpr ⟨ck_es_ok hE _ _ kb_4_1, List.forall_mem_cons.mpr ⟨ck_es_ok hE _ _ kb_4_2, List.forall_mem_cons.mpr ⟨ck_es_ok hE _ _ kb_4_3, fun _ h => absurd h List.not_mem_nil⟩⟩⟩⟩)
-- StepCode.processes()I
theorem kb_5_0 : ck_es tb_E "StepCode" "processes" prog_1_method_6_code [] true mc_5_0 [[], [(2, 58)], []] = true := by decide +kernel
theorem kf_5 : ck_m ⟨"StepCode", "processes", "()I"⟩ 1 (some .int) mt_5 = true := by decide +kernel
theorem km_5 {D : ar_D} {lim : Nat × Nat} {b : Nat} {B : Heap} (hE : ck_env tb_E (tb_G D lim b B) tb_Ts tb_I ah_P) : am_mok (tb_G D lim b B) tb_Ts tb_I ah_P ⟨"StepCode", "processes", "()I"⟩ prog_1_method_6_code 1 (some .int) [] mt_5 :=
  ck_mok (hn := true) hE (fun _ => rfl) kf_5 (trivial) (List.forall_mem_cons.mpr ⟨ck_es_ok hE _ _ kb_5_0, fun _ h => absurd h List.not_mem_nil⟩)
-- StepCode.put(IZII)V
theorem kb_6_0 : ck_es tb_E "StepCode" "put" prog_1_method_7_code [] true mc_6_0 [[], [(2, 54)], [], [(4, 47), (3, 116), (3, 117)], [], [], [], [], [], [(4, 48), (4, 49), (4, 50)], [], [(4, 62), (4, 52), (2, 6)], [], [], [], [], [], [], [], [(4, 68), (4, 69), (4, 70)], [], [(2, 142), (2, 100), (0, 7)], [], []] = true := by decide +kernel
theorem kb_6_1 : ck_es tb_E "StepCode" "put" prog_1_method_7_code [] true mc_6_1 [[], [], [], [], [], [(2, 218)], [], [], [(4, 73), (4, 74), (4, 75)], [], [], [(2, 215)], [], [], [(4, 73), (4, 74), (4, 75)], []] = true := by decide +kernel
theorem kf_6 : ck_m ⟨"StepCode", "put", "(IZII)V"⟩ 6 none mt_6 = true := by decide +kernel
theorem km_6 {D : ar_D} {lim : Nat × Nat} {b : Nat} {B : Heap} (hE : ck_env tb_E (tb_G D lim b B) tb_Ts tb_I ah_P) : am_mok (tb_G D lim b B) tb_Ts tb_I ah_P ⟨"StepCode", "put", "(IZII)V"⟩ prog_1_method_7_code 6 none [] mt_6 :=
  ck_mok (hn := true) hE (fun _ => rfl) kf_6 (trivial) (List.forall_mem_cons.mpr ⟨ck_es_ok hE _ _ kb_6_0, List.forall_mem_cons.mpr ⟨ck_es_ok hE _ _ kb_6_1, fun _ h => absurd h List.not_mem_nil⟩⟩)
-- StepCode.mark(IZZ)V
theorem kb_7_0 : ck_es tb_E "StepCode" "mark" prog_1_method_8_code [] true mc_7_0 [[], [(2, 54)], [], [(4, 47), (3, 116), (3, 117)], [], [], [], [(4, 62), (4, 52), (2, 8)], [], [], [], [], [], [], [(2, 220)], [], [], [(2, 222)], []] = true := by decide +kernel
theorem kf_7 : ck_m ⟨"StepCode", "mark", "(IZZ)V"⟩ 5 none mt_7 = true := by decide +kernel
theorem km_7 {D : ar_D} {lim : Nat × Nat} {b : Nat} {B : Heap} (hE : ck_env tb_E (tb_G D lim b B) tb_Ts tb_I ah_P) : am_mok (tb_G D lim b B) tb_Ts tb_I ah_P ⟨"StepCode", "mark", "(IZZ)V"⟩ prog_1_method_8_code 5 none [] mt_7 :=
  ck_mok (hn := true) hE (fun _ => rfl) kf_7 (trivial) (List.forall_mem_cons.mpr ⟨ck_es_ok hE _ _ kb_7_0, fun _ h => absurd h List.not_mem_nil⟩)
-- StepCode.get(II)I
theorem kb_8_0 : ck_es tb_E "StepCode" "get" prog_1_method_9_code [] true mc_8_0 [[], [(2, 54)], [], [(4, 47), (3, 116), (3, 117)], [], [], [], [], [], [(4, 48), (4, 49), (4, 50)], [], [(4, 62), (4, 52), (2, 6)], [], [], [], [], [], [(2, 215)], [], [(4, 93), (4, 94), (4, 95)], []] = true := by decide +kernel
theorem kf_8 : ck_m ⟨"StepCode", "get", "(II)I"⟩ 4 (some .int) mt_8 = true := by decide +kernel
theorem km_8 {D : ar_D} {lim : Nat × Nat} {b : Nat} {B : Heap} (hE : ck_env tb_E (tb_G D lim b B) tb_Ts tb_I ah_P) : am_mok (tb_G D lim b B) tb_Ts tb_I ah_P ⟨"StepCode", "get", "(II)I"⟩ prog_1_method_9_code 4 (some .int) [] mt_8 :=
  ck_mok (hn := true) hE (fun _ => rfl) kf_8 (trivial) (List.forall_mem_cons.mpr ⟨ck_es_ok hE _ _ kb_8_0, fun _ h => absurd h List.not_mem_nil⟩)
-- StepCode.set(IIII)V
theorem kb_9_0 : ck_es tb_E "StepCode" "set" prog_1_method_10_code [] true mc_9_0 [[], [], [], [(4, 104), (4, 106), (0, 19)], [], [], [], [], [], [(4, 48), (4, 49), (4, 50)], [], [(4, 62), (4, 52), (2, 9)], [], [], [], [], [], [], [], [(4, 68), (4, 69), (4, 70)], [], [(2, 142), (2, 100), (0, 10)], [], []] = true := by decide +kernel
theorem kb_9_1 : ck_es tb_E "StepCode" "set" prog_1_method_10_code [] true mc_9_1 [[], [], [], [(2, 215)], [], [], [(4, 73), (4, 74), (4, 75)], []] = true := by decide +kernel
theorem kf_9 : ck_m ⟨"StepCode", "set", "(IIII)V"⟩ 6 none mt_9 = true := by decide +kernel
theorem km_9 {D : ar_D} {lim : Nat × Nat} {b : Nat} {B : Heap} (hE : ck_env tb_E (tb_G D lim b B) tb_Ts tb_I ah_P) : am_mok (tb_G D lim b B) tb_Ts tb_I ah_P ⟨"StepCode", "set", "(IIII)V"⟩ prog_1_method_10_code 6 none [] mt_9 :=
  ck_mok (hn := true) hE (fun _ => rfl) kf_9 (trivial) (List.forall_mem_cons.mpr ⟨ck_es_ok hE _ _ kb_9_0, List.forall_mem_cons.mpr ⟨ck_es_ok hE _ _ kb_9_1, fun _ h => absurd h List.not_mem_nil⟩⟩)
-- StepCode.variableOf(III)I
theorem kb_10_0 : ck_es tb_E "StepCode" "variableOf" prog_1_method_11_code [] true mc_10_0 [[], [], [], [(4, 104), (4, 106), (0, 19)], [], [], [], [], [], [(4, 48), (4, 49), (4, 50)], [], [(4, 62), (4, 52), (2, 9)], [], [], [], [], [], [(2, 215)], [], [(4, 93), (4, 94), (4, 95)], []] = true := by decide +kernel
theorem kf_10 : ck_m ⟨"StepCode", "variableOf", "(III)I"⟩ 5 (some .int) mt_10 = true := by decide +kernel
theorem km_10 {D : ar_D} {lim : Nat × Nat} {b : Nat} {B : Heap} (hE : ck_env tb_E (tb_G D lim b B) tb_Ts tb_I ah_P) : am_mok (tb_G D lim b B) tb_Ts tb_I ah_P ⟨"StepCode", "variableOf", "(III)I"⟩ prog_1_method_11_code 5 (some .int) [] mt_10 :=
  ck_mok (hn := true) hE (fun _ => rfl) kf_10 (trivial) (List.forall_mem_cons.mpr ⟨ck_es_ok hE _ _ kb_10_0, fun _ h => absurd h List.not_mem_nil⟩)
-- StepCode.resume(II)I
theorem kb_11_0 : ck_es tb_E "StepCode" "resume" prog_1_method_12_code [] true mc_11_0 [[], [], [(4, 108), (4, 110), (0, 20)], [], [], [], [(4, 62), (4, 52), (2, 11)], [], [], [], [], [], [], [], [], [], [], [(2, 142), (2, 100), (0, 12)], [], [], [], [], [], [(3, 225)]] = true := by decide +kernel
theorem kb_11_1 : ck_es tb_E "StepCode" "resume" prog_1_method_12_code [] true mc_11_1 [[], [], [], [(3, 225)], [], [], [(2, 182), (2, 172), (1, 13)], [], [], [], [], [], [(2, 60)], [(4, 131), (4, 132), (4, 133)], [], [(4, 135), (4, 136), (4, 137)], [], [], [], [], [], [], [(2, 61)], []] = true := by decide +kernel
theorem kb_11_2 : ck_es tb_E "StepCode" "resume" prog_1_method_12_code [] true mc_11_2 [[(4, 139), (4, 140), (4, 141)], [], [], [(3, 225)], [], [], [], [], [], [(3, 225)], [], []] = true := by decide +kernel
theorem kf_11 : ck_m ⟨"StepCode", "resume", "(II)I"⟩ 5 (some .int) mt_11 = true := by decide +kernel
theorem km_11 {D : ar_D} {lim : Nat × Nat} {b : Nat} {B : Heap} (hE : ck_env tb_E (tb_G D lim b B) tb_Ts tb_I ah_P) : am_mok (tb_G D lim b B) tb_Ts tb_I ah_P ⟨"StepCode", "resume", "(II)I"⟩ prog_1_method_12_code 5 (some .int) [] mt_11 :=
  ck_mok (hn := true) hE (fun _ => rfl) kf_11 (trivial) (List.forall_mem_cons.mpr ⟨ck_es_ok hE _ _ kb_11_0, List.forall_mem_cons.mpr ⟨ck_es_ok hE _ _ kb_11_1, List.forall_mem_cons.mpr ⟨ck_es_ok hE _ _ kb_11_2, fun _ h => absurd h List.not_mem_nil⟩⟩⟩)
-- StepCode.holds(I)I
theorem kb_12_0 : ck_es tb_E "StepCode" "holds" prog_1_method_13_code [] true mc_12_0 [[], [], [(4, 108), (4, 110), (0, 20)], [], [], [], [(4, 62), (4, 52), (2, 11)], [], [], [], [], [], [(3, 225)], [], [], [(2, 182), (2, 172), (1, 14)], [], [], [], [], [], [(2, 61)], [], [(5, 217), (5, 218), (5, 219)]] = true := by decide +kernel
theorem kb_12_1 : ck_es tb_E "StepCode" "holds" prog_1_method_13_code [] true mc_12_1 [[]] = true := by decide +kernel
theorem kf_12 : ck_m ⟨"StepCode", "holds", "(I)I"⟩ 3 (some .int) mt_12 = true := by decide +kernel
theorem km_12 {D : ar_D} {lim : Nat × Nat} {b : Nat} {B : Heap} (hE : ck_env tb_E (tb_G D lim b B) tb_Ts tb_I ah_P) : am_mok (tb_G D lim b B) tb_Ts tb_I ah_P ⟨"StepCode", "holds", "(I)I"⟩ prog_1_method_13_code 3 (some .int) [] mt_12 :=
  ck_mok (hn := true) hE (fun _ => rfl) kf_12 (trivial) (List.forall_mem_cons.mpr ⟨ck_es_ok hE _ _ kb_12_0, List.forall_mem_cons.mpr ⟨ck_es_ok hE _ _ kb_12_1, fun _ h => absurd h List.not_mem_nil⟩⟩)
-- StepCode.about(II)I
theorem kb_13_0 : ck_es tb_E "StepCode" "about" prog_1_method_14_code [] true mc_13_0 [[], [], [(4, 108), (4, 110), (0, 20)], [], [], [], [(4, 62), (4, 52), (2, 11)], [], [], [], [], [], [], [], [(3, 225)], [], [], [(3, 227)], [], [], [(3, 229)], [], [], [(5, 232), (5, 233), (5, 234)]] = true := by decide +kernel
theorem kb_13_1 : ck_es tb_E "StepCode" "about" prog_1_method_14_code [] true mc_13_1 [[], [], [(5, 237), (5, 222), (5, 223)], [], [], [], [], [], [], [(3, 231)], [], [(2, 142), (2, 100), (0, 15)], [], [], [], []] = true := by decide +kernel
theorem kf_13 : ck_m ⟨"StepCode", "about", "(II)I"⟩ 4 (some .int) mt_13 = true := by decide +kernel
theorem km_13 {D : ar_D} {lim : Nat × Nat} {b : Nat} {B : Heap} (hE : ck_env tb_E (tb_G D lim b B) tb_Ts tb_I ah_P) : am_mok (tb_G D lim b B) tb_Ts tb_I ah_P ⟨"StepCode", "about", "(II)I"⟩ prog_1_method_14_code 4 (some .int) [] mt_13 :=
  ck_mok (hn := true) hE (fun _ => rfl) kf_13 (trivial) (List.forall_mem_cons.mpr ⟨ck_es_ok hE _ _ kb_13_0, List.forall_mem_cons.mpr ⟨ck_es_ok hE _ _ kb_13_1, fun _ h => absurd h List.not_mem_nil⟩⟩)
-- StepCode.waits(II)I
theorem kb_14_0 : ck_es tb_E "StepCode" "waits" prog_1_method_15_code [] true mc_14_0 [[], [], [(4, 108), (4, 110), (0, 20)], [], [], [], [], [], [], [], [(5, 232), (5, 233), (5, 234)], [], [(4, 62), (4, 52), (2, 16)], [], [], [], [], [], [], [(6, 7), (6, 8), (6, 9)], []] = true := by decide +kernel
theorem kf_14 : ck_m ⟨"StepCode", "waits", "(II)I"⟩ 4 (some .int) mt_14 = true := by decide +kernel
theorem km_14 {D : ar_D} {lim : Nat × Nat} {b : Nat} {B : Heap} (hE : ck_env tb_E (tb_G D lim b B) tb_Ts tb_I ah_P) : am_mok (tb_G D lim b B) tb_Ts tb_I ah_P ⟨"StepCode", "waits", "(II)I"⟩ prog_1_method_15_code 4 (some .int) [] mt_14 :=
  ck_mok (hn := true) hE (fun _ => rfl) kf_14 (trivial) (List.forall_mem_cons.mpr ⟨ck_es_ok hE _ _ kb_14_0, fun _ h => absurd h List.not_mem_nil⟩)
-- StepCode.until(I)J
theorem kb_15_0 : ck_es tb_E "StepCode" "until" prog_1_method_16_code [] true mc_15_0 [[], [], [(4, 108), (4, 110), (0, 20)], [], [], [], [(4, 62), (4, 52), (2, 11)], [], [], [], [], [], [(3, 239)], []] = true := by decide +kernel
theorem kf_15 : ck_m ⟨"StepCode", "until", "(I)J"⟩ 3 (some .long) mt_15 = true := by decide +kernel
theorem km_15 {D : ar_D} {lim : Nat × Nat} {b : Nat} {B : Heap} (hE : ck_env tb_E (tb_G D lim b B) tb_Ts tb_I ah_P) : am_mok (tb_G D lim b B) tb_Ts tb_I ah_P ⟨"StepCode", "until", "(I)J"⟩ prog_1_method_16_code 3 (some .long) [] mt_15 :=
  ck_mok (hn := true) hE (fun _ => rfl) kf_15 (trivial) (List.forall_mem_cons.mpr ⟨ck_es_ok hE _ _ kb_15_0, fun _ h => absurd h List.not_mem_nil⟩)
-- StepCode.acts()I
theorem kb_16_0 : ck_es tb_E "StepCode" "acts" prog_1_method_17_code [] true mc_16_0 [[], [(2, 60)], [(1, 207)], []] = true := by decide +kernel
theorem kf_16 : ck_m ⟨"StepCode", "acts", "()I"⟩ 1 (some .int) mt_16 = true := by decide +kernel
theorem km_16 {D : ar_D} {lim : Nat × Nat} {b : Nat} {B : Heap} (hE : ck_env tb_E (tb_G D lim b B) tb_Ts tb_I ah_P) : am_mok (tb_G D lim b B) tb_Ts tb_I ah_P ⟨"StepCode", "acts", "()I"⟩ prog_1_method_17_code 1 (some .int) [] mt_16 :=
  ck_mok (hn := true) hE (fun _ => rfl) kf_16 (trivial) (List.forall_mem_cons.mpr ⟨ck_es_ok hE _ _ kb_16_0, fun _ h => absurd h List.not_mem_nil⟩)
-- StepCode.act(II)I
theorem kb_17_0 : ck_es tb_E "StepCode" "act" prog_1_method_18_code [] true mc_17_0 [[], [(2, 60)], [], [(6, 26), (5, 148), (5, 149)], [], [(4, 62), (4, 52), (2, 17)], [], [], [], [], [], [], [], [(2, 60)], [(1, 189)], [], [], [], [], [(2, 60)], [(1, 191)], [], [], []] = true := by decide +kernel
theorem kb_17_1 : ck_es tb_E "StepCode" "act" prog_1_method_18_code [] true mc_17_1 [[], [(2, 60)], [(1, 193)], [], [], [], [], [(2, 60)], [(1, 195)], [], [], [], [], [(2, 60)], [(1, 197)], [], [], [], [], [(2, 60)], [(1, 199)], [], [], []] = true := by decide +kernel
theorem kb_17_2 : ck_es tb_E "StepCode" "act" prog_1_method_18_code [] true mc_17_2 [[(2, 142), (2, 100), (0, 15)], [], [], [], []] = true := by decide +kernel
theorem kf_17 : ck_m ⟨"StepCode", "act", "(II)I"⟩ 3 (some .int) mt_17 = true := by decide +kernel
theorem km_17 {D : ar_D} {lim : Nat × Nat} {b : Nat} {B : Heap} (hE : ck_env tb_E (tb_G D lim b B) tb_Ts tb_I ah_P) : am_mok (tb_G D lim b B) tb_Ts tb_I ah_P ⟨"StepCode", "act", "(II)I"⟩ prog_1_method_18_code 3 (some .int) [] mt_17 :=
  ck_mok (hn := true) hE (fun _ => rfl) kf_17 (trivial) (List.forall_mem_cons.mpr ⟨ck_es_ok hE _ _ kb_17_0, List.forall_mem_cons.mpr ⟨ck_es_ok hE _ _ kb_17_1, List.forall_mem_cons.mpr ⟨ck_es_ok hE _ _ kb_17_2, fun _ h => absurd h List.not_mem_nil⟩⟩⟩)
-- StepCode.value(III)I
theorem kb_18_0 : ck_es tb_E "StepCode" "value" prog_1_method_19_code [] true mc_18_0 [[], [(2, 60)], [], [], [(6, 35), (6, 36), (6, 37)], [], [], [], [], [], [], [], [(1, 159)], [], [(4, 62), (4, 52), (2, 18)], [], [], [], [], [], [], [(4, 93), (4, 94), (4, 95)], []] = true := by decide +kernel
theorem kf_18 : ck_m ⟨"StepCode", "value", "(III)I"⟩ 5 (some .int) mt_18 = true := by decide +kernel
theorem km_18 {D : ar_D} {lim : Nat × Nat} {b : Nat} {B : Heap} (hE : ck_env tb_E (tb_G D lim b B) tb_Ts tb_I ah_P) : am_mok (tb_G D lim b B) tb_Ts tb_I ah_P ⟨"StepCode", "value", "(III)I"⟩ prog_1_method_19_code 5 (some .int) [] mt_18 :=
  ck_mok (hn := true) hE (fun _ => rfl) kf_18 (trivial) (List.forall_mem_cons.mpr ⟨ck_es_ok hE _ _ kb_18_0, fun _ h => absurd h List.not_mem_nil⟩)
-- StepCode.delay(II)J
theorem kb_19_0 : ck_es tb_E "StepCode" "delay" prog_1_method_20_code [] true mc_19_0 [[], [], [], [], [(2, 60)], [], [(6, 51), (6, 52), (6, 53)], [], [], [(2, 60)], [(1, 202)], [], [], [], [], [(2, 60)], [], [], [(6, 55), (6, 40), (6, 41)], [], [], [], [], [(4, 62), (4, 52), (2, 19)]] = true := by decide +kernel
theorem kb_19_1 : ck_es tb_E "StepCode" "delay" prog_1_method_20_code [] true mc_19_1 [[], [], [], [], [], [(2, 60)], [(1, 204)], [], [], []] = true := by decide +kernel
theorem kf_19 : ck_m ⟨"StepCode", "delay", "(II)J"⟩ 4 (some .long) mt_19 = true := by decide +kernel
theorem km_19 {D : ar_D} {lim : Nat × Nat} {b : Nat} {B : Heap} (hE : ck_env tb_E (tb_G D lim b B) tb_Ts tb_I ah_P) : am_mok (tb_G D lim b B) tb_Ts tb_I ah_P ⟨"StepCode", "delay", "(II)J"⟩ prog_1_method_20_code 4 (some .long) [] mt_19 :=
  ck_mok (hn := true) hE (fun _ => rfl) kf_19 (trivial) (List.forall_mem_cons.mpr ⟨ck_es_ok hE _ _ kb_19_0, List.forall_mem_cons.mpr ⟨ck_es_ok hE _ _ kb_19_1, fun _ h => absurd h List.not_mem_nil⟩⟩)
-- StepCode.unitAt(I)LStepCode$Unit;
theorem kb_20_0 : ck_es tb_E "StepCode" "unitAt" prog_1_method_21_code [] true mc_20_0 [[], [], [], [], [(2, 58)], [], [], [(2, 57)], [], [], [], [], []] = true := by decide +kernel
theorem kf_20 : ck_m ⟨"StepCode", "unitAt", "(I)LStepCode$Unit;"⟩ 2 (some (.object "StepCode$Unit")) mt_20 = true := by decide +kernel
theorem km_20 {D : ar_D} {lim : Nat × Nat} {b : Nat} {B : Heap} (hE : ck_env tb_E (tb_G D lim b B) tb_Ts tb_I ah_P) : am_mok (tb_G D lim b B) tb_Ts tb_I ah_P ⟨"StepCode", "unitAt", "(I)LStepCode$Unit;"⟩ prog_1_method_21_code 2 (some (.object "StepCode$Unit")) [] mt_20 :=
  ck_mok (hn := true) hE (fun _ => rfl) kf_20 (trivial) (List.forall_mem_cons.mpr ⟨ck_es_ok hE _ _ kb_20_0, fun _ h => absurd h List.not_mem_nil⟩)
-- StepCode.variableThing(II)LStepCode$Thing;
theorem kb_21_0 : ck_es tb_E "StepCode" "variableThing" prog_1_method_22_code [] true mc_21_0 [[], [], [(4, 108), (4, 110), (0, 20)], [], [], [], [], [], [], [(3, 223)], [], [(4, 47), (3, 116), (3, 117)], []] = true := by decide +kernel
theorem kf_21 : ck_m ⟨"StepCode", "variableThing", "(II)LStepCode$Thing;"⟩ 4 (some (.object "StepCode$Thing")) mt_21 = true := by decide +kernel
theorem km_21 {D : ar_D} {lim : Nat × Nat} {b : Nat} {B : Heap} (hE : ck_env tb_E (tb_G D lim b B) tb_Ts tb_I ah_P) : am_mok (tb_G D lim b B) tb_Ts tb_I ah_P ⟨"StepCode", "variableThing", "(II)LStepCode$Thing;"⟩ prog_1_method_22_code 4 (some (.object "StepCode$Thing")) [] mt_21 :=
  ck_mok (hn := true) hE (fun _ => rfl) kf_21 (trivial) (List.forall_mem_cons.mpr ⟨ck_es_ok hE _ _ kb_21_0, fun _ h => absurd h List.not_mem_nil⟩)
-- StepCodeModel.<init>()V
theorem kb_22_0 : ck_es tb_E "StepCodeModel" "<init>" prog_13_method_1_code [] true mc_22_0 [[], [(6, 62), (1, 28), (1, 29)], [], [], [(2, 167)], [(6, 65)], [], [], [(2, 167)], [(6, 66)], [], [], [(1, 97)], [(6, 67)], [], [], [(1, 97)], [(6, 68)], [], [], [(1, 187)], [(6, 69)], [], [(6, 63)]] = true := by decide +kernel
theorem kb_22_1 : ck_es tb_E "StepCodeModel" "<init>" prog_13_method_1_code [] true mc_22_1 [[(2, 167)], [(6, 70)], [], [], [(6, 233)], [(6, 74)], [], [], [(6, 233)], [(6, 75)], [], [], [(1, 97)], [(6, 76)], [], [], [(1, 97)], [(6, 77)], [], [], [(1, 97)], [(6, 78)], [], []] = true := by decide +kernel
theorem kb_22_2 : ck_es tb_E "StepCodeModel" "<init>" prog_13_method_1_code [] true mc_22_2 [[(1, 97)], [(6, 79)], [], [], [(1, 97)], [(6, 80)], [], [], [(1, 97)], [(6, 81)], [], [], [(1, 97)], [(6, 82)], [], [], [(1, 97)], [(6, 84)], [], [], [(1, 97)], [(6, 88)], [], []] = true := by decide +kernel
theorem kb_22_3 : ck_es tb_E "StepCodeModel" "<init>" prog_13_method_1_code [] true mc_22_3 [[(1, 97)], [(6, 89)], [], [], [(1, 97)], [(6, 90)], [], [], [(1, 97)], [(6, 91)], [], [], [(1, 97)], [(6, 92)], [], [], [(1, 97)], [(6, 93)], [], [], [(1, 97)], [(6, 94)], [], []] = true := by decide +kernel
theorem kb_22_4 : ck_es tb_E "StepCodeModel" "<init>" prog_13_method_1_code [] true mc_22_4 [[(1, 97)], [(6, 95)], [], [], [(1, 97)], [(6, 96)], [], [], [(1, 187)], [(6, 97)], [], [], [(1, 97)], [(6, 98)], [], [], [(1, 97)], [(6, 99)], [], [], [(1, 97)], [(6, 100)], [], []] = true := by decide +kernel
theorem kb_22_5 : ck_es tb_E "StepCodeModel" "<init>" prog_13_method_1_code [] true mc_22_5 [[(1, 187)], [(6, 101)], [], [], [(1, 187)], [(6, 102)], [], [], [(6, 233)], [(6, 112)], [], [], [(1, 97)], [(6, 113)], [], [], [(1, 97)], [(6, 114)], [], [], [(1, 97)], [(6, 115)], [], []] = true := by decide +kernel
theorem kb_22_6 : ck_es tb_E "StepCodeModel" "<init>" prog_13_method_1_code [] true mc_22_6 [[(1, 97)], [(6, 116)], [], [], [(1, 187)], [(6, 117)], [], [], [(1, 97)], [(6, 118)], [], [], [(1, 187)], [(6, 119)], []] = true := by decide +kernel
theorem kf_22 : ck_m ⟨"StepCodeModel", "<init>", "()V"⟩ 1 none mt_22 = true := by decide +kernel
theorem km_22 {D : ar_D} {lim : Nat × Nat} {b : Nat} {B : Heap} (hE : ck_env tb_E (tb_G D lim b B) tb_Ts tb_I ah_P) : am_mok (tb_G D lim b B) tb_Ts tb_I ah_P ⟨"StepCodeModel", "<init>", "()V"⟩ prog_13_method_1_code 1 none [] mt_22 :=
  ck_mok (hn := true) hE (fun _ => rfl) kf_22 (trivial) (List.forall_mem_cons.mpr ⟨ck_es_ok hE _ _ kb_22_0, List.forall_mem_cons.mpr ⟨ck_es_ok hE _ _ kb_22_1, List.forall_mem_cons.mpr ⟨ck_es_ok hE _ _ kb_22_2, List.forall_mem_cons.mpr ⟨ck_es_ok hE _ _ kb_22_3, List.forall_mem_cons.mpr ⟨ck_es_ok hE _ _ kb_22_4, List.forall_mem_cons.mpr ⟨ck_es_ok hE _ _ kb_22_5, List.forall_mem_cons.mpr ⟨ck_es_ok hE _ _ kb_22_6, fun _ h => absurd h List.not_mem_nil⟩⟩⟩⟩⟩⟩⟩)
-- StepCodeModel.thrown()I
theorem kb_23_0 : ck_es tb_E "StepCodeModel" "thrown" prog_13_method_2_code [] true mc_23_0 [[], [(6, 64)], []] = true := by decide +kernel
theorem kf_23 : ck_m ⟨"StepCodeModel", "thrown", "()I"⟩ 1 (some .int) mt_23 = true := by decide +kernel
theorem km_23 {D : ar_D} {lim : Nat × Nat} {b : Nat} {B : Heap} (hE : ck_env tb_E (tb_G D lim b B) tb_Ts tb_I ah_P) : am_mok (tb_G D lim b B) tb_Ts tb_I ah_P ⟨"StepCodeModel", "thrown", "()I"⟩ prog_13_method_2_code 1 (some .int) [] mt_23 :=
  ck_mok (hn := true) hE (fun _ => rfl) kf_23 (trivial) (List.forall_mem_cons.mpr ⟨ck_es_ok hE _ _ kb_23_0, fun _ h => absurd h List.not_mem_nil⟩)
-- StepCodeModel.element(II)I
theorem kb_24_0 : ck_es tb_E "StepCodeModel" "element" prog_13_method_3_code [] true mc_24_0 [[], [(6, 70)], [], [], [], [], [], [], []] = true := by decide +kernel
theorem kf_24 : ck_m ⟨"StepCodeModel", "element", "(II)I"⟩ 3 (some .int) mt_24 = true := by decide +kernel
theorem km_24 {D : ar_D} {lim : Nat × Nat} {b : Nat} {B : Heap} (hE : ck_env tb_E (tb_G D lim b B) tb_Ts tb_I ah_P) : am_mok (tb_G D lim b B) tb_Ts tb_I ah_P ⟨"StepCodeModel", "element", "(II)I"⟩ prog_13_method_3_code 3 (some .int) [] mt_24 :=
  ck_mok (hn := true) hE (fun _ => rfl) kf_24 (trivial) (List.forall_mem_cons.mpr ⟨ck_es_ok hE _ _ kb_24_0, fun _ h => absurd h List.not_mem_nil⟩)
-- StepCodeModel.setElement(III)V
theorem kb_25_0 : ck_es tb_E "StepCodeModel" "setElement" prog_13_method_4_code [] true mc_25_0 [[], [(6, 70)], [], [], [], [], [], [], [], [], []] = true := by decide +kernel
theorem kf_25 : ck_m ⟨"StepCodeModel", "setElement", "(III)V"⟩ 4 none mt_25 = true := by decide +kernel
theorem km_25 {D : ar_D} {lim : Nat × Nat} {b : Nat} {B : Heap} (hE : ck_env tb_E (tb_G D lim b B) tb_Ts tb_I ah_P) : am_mok (tb_G D lim b B) tb_Ts tb_I ah_P ⟨"StepCodeModel", "setElement", "(III)V"⟩ prog_13_method_4_code 4 none [] mt_25 :=
  ck_mok (hn := true) hE (fun _ => rfl) kf_25 (trivial) (List.forall_mem_cons.mpr ⟨ck_es_ok hE _ _ kb_25_0, fun _ h => absurd h List.not_mem_nil⟩)
-- StepCodeModel.noKind(III)Z
theorem kb_26_0 : ck_es tb_E "StepCodeModel" "noKind" prog_13_method_5_code [] true mc_26_0 [[], [], [], [], [], [], [], [(7, 5)], [], [], [(7, 5)], [], [], [], [], [], [], [], [], [], [], [], [], []] = true := by decide +kernel
theorem kb_26_1 : ck_es tb_E "StepCodeModel" "noKind" prog_13_method_5_code [] true mc_26_1 [[], [], [], [], [], [], [], [], [], [], [], [], [], [], [], [], []] = true := by decide +kernel
theorem kf_26 : ck_m ⟨"StepCodeModel", "noKind", "(III)Z"⟩ 3 (some .boolean) mt_26 = true := by decide +kernel
theorem km_26 {D : ar_D} {lim : Nat × Nat} {b : Nat} {B : Heap} (hE : ck_env tb_E (tb_G D lim b B) tb_Ts tb_I ah_P) : am_mok (tb_G D lim b B) tb_Ts tb_I ah_P ⟨"StepCodeModel", "noKind", "(III)Z"⟩ prog_13_method_5_code 3 (some .boolean) [] mt_26 :=
  ck_mok (hn := true) hE (fun _ => rfl) kf_26 (trivial) (List.forall_mem_cons.mpr ⟨ck_es_ok hE _ _ kb_26_0, List.forall_mem_cons.mpr ⟨ck_es_ok hE _ _ kb_26_1, fun _ h => absurd h List.not_mem_nil⟩⟩)
-- StepCodeModel.make(IIII)V
theorem kb_27_0 : ck_es tb_E "StepCodeModel" "make" prog_13_method_6_code [] true mc_27_0 [[], [(6, 65)], [], [], [], [], [], [(6, 66)], [], [], [], [], [], [], [], [], [], [], [(6, 67)], [], [], [], [], [(6, 68)]] = true := by decide +kernel
theorem kb_27_1 : ck_es tb_E "StepCodeModel" "make" prog_13_method_6_code [] true mc_27_1 [[], [], [], [], [(6, 69)], [], [], [], [], [], [], [], [], [], [], [], [], [], [], [], [], [], [], [(7, 10), (7, 12), (0, 46)]] = true := by decide +kernel
theorem kb_27_2 : ck_es tb_E "StepCodeModel" "make" prog_13_method_6_code [] true mc_27_2 [[], [], []] = true := by decide +kernel
theorem kf_27 : ck_m ⟨"StepCodeModel", "make", "(IIII)V"⟩ 6 none mt_27 = true := by decide +kernel
theorem km_27 {D : ar_D} {lim : Nat × Nat} {b : Nat} {B : Heap} (hE : ck_env tb_E (tb_G D lim b B) tb_Ts tb_I ah_P) : am_mok (tb_G D lim b B) tb_Ts tb_I ah_P ⟨"StepCodeModel", "make", "(IIII)V"⟩ prog_13_method_6_code 6 none [] mt_27 :=
  ck_mok (hn := true) hE (fun _ => rfl) kf_27 (trivial) (List.forall_mem_cons.mpr ⟨ck_es_ok hE _ _ kb_27_0, List.forall_mem_cons.mpr ⟨ck_es_ok hE _ _ kb_27_1, List.forall_mem_cons.mpr ⟨ck_es_ok hE _ _ kb_27_2, fun _ h => absurd h List.not_mem_nil⟩⟩⟩)
-- StepCodeModel.copy(II)V
theorem kb_28_0 : ck_es tb_E "StepCodeModel" "copy" prog_13_method_7_code [] true mc_28_0 [[], [(6, 65)], [], [], [(6, 65)], [], [], [], [], [(6, 66)], [], [], [(6, 66)], [], [], [], [], [(6, 69)], [], [], [(6, 69)], [], [], []] = true := by decide +kernel
theorem kb_28_1 : ck_es tb_E "StepCodeModel" "copy" prog_13_method_7_code [] true mc_28_1 [[], [], [], [], [], [], [], [], [], [], [], [(7, 46), (7, 48), (0, 51)], [(7, 10), (7, 12), (0, 46)], [], [], []] = true := by decide +kernel
theorem kf_28 : ck_m ⟨"StepCodeModel", "copy", "(II)V"⟩ 4 none mt_28 = true := by decide +kernel
theorem km_28 {D : ar_D} {lim : Nat × Nat} {b : Nat} {B : Heap} (hE : ck_env tb_E (tb_G D lim b B) tb_Ts tb_I ah_P) : am_mok (tb_G D lim b B) tb_Ts tb_I ah_P ⟨"StepCodeModel", "copy", "(II)V"⟩ prog_13_method_7_code 4 none [] mt_28 :=
  ck_mok (hn := true) hE (fun _ => rfl) kf_28 (trivial) (List.forall_mem_cons.mpr ⟨ck_es_ok hE _ _ kb_28_0, List.forall_mem_cons.mpr ⟨ck_es_ok hE _ _ kb_28_1, fun _ h => absurd h List.not_mem_nil⟩⟩)
-- StepCodeModel.signal(III)I
theorem kb_29_0 : ck_es tb_E "StepCodeModel" "signal" prog_13_method_8_code [] true mc_29_0 [[], [], [], [], [(7, 2), (7, 3)], [], [], [], [], [(6, 71)], [], [], [], [], [], [(6, 64)], [], [(6, 64)], [], [], [], [], [], [(6, 71)]] = true := by decide +kernel
theorem kb_29_1 : ck_es tb_E "StepCodeModel" "signal" prog_13_method_8_code [] true mc_29_1 [[], [], [], [(7, 6), (7, 8), (0, 45)], [], [], [], [(6, 71)], [], [], [], [], [(7, 6), (7, 8), (0, 45)], [], [], [(6, 71)], [], [], [(6, 71)], [], [(6, 71)], [], [], []] = true := by decide +kernel
theorem kf_29 : ck_m ⟨"StepCodeModel", "signal", "(III)I"⟩ 4 (some .int) mt_29 = true := by decide +kernel
theorem km_29 {D : ar_D} {lim : Nat × Nat} {b : Nat} {B : Heap} (hE : ck_env tb_E (tb_G D lim b B) tb_Ts tb_I ah_P) : am_mok (tb_G D lim b B) tb_Ts tb_I ah_P ⟨"StepCodeModel", "signal", "(III)I"⟩ prog_13_method_8_code 4 (some .int) [] mt_29 :=
  ck_mok (hn := true) hE (fun _ => rfl) kf_29 (trivial) (List.forall_mem_cons.mpr ⟨ck_es_ok hE _ _ kb_29_0, List.forall_mem_cons.mpr ⟨ck_es_ok hE _ _ kb_29_1, fun _ h => absurd h List.not_mem_nil⟩⟩)
-- StepCodeModel.variable(III)I
theorem kb_30_0 : ck_es tb_E "StepCodeModel" "variable" prog_13_method_9_code [] true mc_30_0 [[], [], [], [], [(7, 2), (7, 3)], [], [], [], [], [(6, 73)], [], [], [], [], [], [(6, 64)], [], [(6, 64)], [], [], [], [], [], []] = true := by decide +kernel
theorem kb_30_1 : ck_es tb_E "StepCodeModel" "variable" prog_13_method_9_code [] true mc_30_1 [[(6, 73)], [], [], [], [], [(7, 6), (7, 8), (0, 45)], [], [], [(6, 73)], [], [], [(6, 73)], [], [(6, 73)], [], [], []] = true := by decide +kernel
theorem kf_30 : ck_m ⟨"StepCodeModel", "variable", "(III)I"⟩ 4 (some .int) mt_30 = true := by decide +kernel
theorem km_30 {D : ar_D} {lim : Nat × Nat} {b : Nat} {B : Heap} (hE : ck_env tb_E (tb_G D lim b B) tb_Ts tb_I ah_P) : am_mok (tb_G D lim b B) tb_Ts tb_I ah_P ⟨"StepCodeModel", "variable", "(III)I"⟩ prog_13_method_9_code 4 (some .int) [] mt_30 :=
  ck_mok (hn := true) hE (fun _ => rfl) kf_30 (trivial) (List.forall_mem_cons.mpr ⟨ck_es_ok hE _ _ kb_30_0, List.forall_mem_cons.mpr ⟨ck_es_ok hE _ _ kb_30_1, fun _ h => absurd h List.not_mem_nil⟩⟩)
-- StepCodeModel.lacks(II)Z
theorem kb_31_0 : ck_es tb_E "StepCodeModel" "lacks" prog_13_method_10_code [] true mc_31_0 [[], [], [], [], [(6, 65)], [], [], [], [], [], [(6, 66)], [], [], [], [], [], [], [], [], []] = true := by decide +kernel
theorem kf_31 : ck_m ⟨"StepCodeModel", "lacks", "(II)Z"⟩ 3 (some .boolean) mt_31 = true := by decide +kernel
theorem km_31 {D : ar_D} {lim : Nat × Nat} {b : Nat} {B : Heap} (hE : ck_env tb_E (tb_G D lim b B) tb_Ts tb_I ah_P) : am_mok (tb_G D lim b B) tb_Ts tb_I ah_P ⟨"StepCodeModel", "lacks", "(II)Z"⟩ prog_13_method_10_code 3 (some .boolean) [] mt_31 :=
  ck_mok (hn := true) hE (fun _ => rfl) kf_31 (trivial) (List.forall_mem_cons.mpr ⟨ck_es_ok hE _ _ kb_31_0, fun _ h => absurd h List.not_mem_nil⟩)
-- StepCodeModel.cannot(II)Z
theorem kb_32_0 : ck_es tb_E "StepCodeModel" "cannot" prog_13_method_11_code [] true mc_32_0 [[], [(6, 65)], [], [], [], [], [], [], [(6, 67)], [], [], [], [], [], [(6, 68)], [], [], [], [], [], [], [], [], []] = true := by decide +kernel
theorem kb_32_1 : ck_es tb_E "StepCodeModel" "cannot" prog_13_method_11_code [] true mc_32_1 [[], [], [], [], [], [], []] = true := by decide +kernel
theorem kf_32 : ck_m ⟨"StepCodeModel", "cannot", "(II)Z"⟩ 3 (some .boolean) mt_32 = true := by decide +kernel
theorem km_32 {D : ar_D} {lim : Nat × Nat} {b : Nat} {B : Heap} (hE : ck_env tb_E (tb_G D lim b B) tb_Ts tb_I ah_P) : am_mok (tb_G D lim b B) tb_Ts tb_I ah_P ⟨"StepCodeModel", "cannot", "(II)Z"⟩ prog_13_method_11_code 3 (some .boolean) [] mt_32 :=
  ck_mok (hn := true) hE (fun _ => rfl) kf_32 (trivial) (List.forall_mem_cons.mpr ⟨ck_es_ok hE _ _ kb_32_0, List.forall_mem_cons.mpr ⟨ck_es_ok hE _ _ kb_32_1, fun _ h => absurd h List.not_mem_nil⟩⟩)
-- StepCodeModel.told(II)I
theorem kb_33_0 : ck_es tb_E "StepCodeModel" "told" prog_13_method_12_code [] true mc_33_0 [[], [(6, 65)], [], [], [], [], [], [], [], [(7, 46), (7, 48), (0, 51)], [], [], [(6, 69)], [], [], [], []] = true := by decide +kernel
theorem kf_33 : ck_m ⟨"StepCodeModel", "told", "(II)I"⟩ 3 (some .int) mt_33 = true := by decide +kernel
theorem km_33 {D : ar_D} {lim : Nat × Nat} {b : Nat} {B : Heap} (hE : ck_env tb_E (tb_G D lim b B) tb_Ts tb_I ah_P) : am_mok (tb_G D lim b B) tb_Ts tb_I ah_P ⟨"StepCodeModel", "told", "(II)I"⟩ prog_13_method_12_code 3 (some .int) [] mt_33 :=
  ck_mok (hn := true) hE (fun _ => rfl) kf_33 (trivial) (List.forall_mem_cons.mpr ⟨ck_es_ok hE _ _ kb_33_0, fun _ h => absurd h List.not_mem_nil⟩)
-- StepCodeModel.become(III)V
theorem kb_34_0 : ck_es tb_E "StepCodeModel" "become" prog_13_method_13_code [] true mc_34_0 [[], [(6, 65)], [], [], [], [], [], [], [], [], [(7, 10), (7, 12), (0, 46)], [], [], [(6, 69)], [], [], [], [], []] = true := by decide +kernel
theorem kf_34 : ck_m ⟨"StepCodeModel", "become", "(III)V"⟩ 4 none mt_34 = true := by decide +kernel
theorem km_34 {D : ar_D} {lim : Nat × Nat} {b : Nat} {B : Heap} (hE : ck_env tb_E (tb_G D lim b B) tb_Ts tb_I ah_P) : am_mok (tb_G D lim b B) tb_Ts tb_I ah_P ⟨"StepCodeModel", "become", "(III)V"⟩ prog_13_method_13_code 4 none [] mt_34 :=
  ck_mok (hn := true) hE (fun _ => rfl) kf_34 (trivial) (List.forall_mem_cons.mpr ⟨ck_es_ok hE _ _ kb_34_0, fun _ h => absurd h List.not_mem_nil⟩)
-- StepCodeModel.put(IZII)V
theorem kb_35_0 : ck_es tb_E "StepCodeModel" "put" prog_13_method_14_code [] true mc_35_0 [[], [], [], [], [], [(6, 71)], [], [], [], [], [(7, 22), (7, 24), (0, 47)], [], [], [], [], [], [], [(7, 26), (7, 28), (0, 48)], [], [], [], [], [(6, 64)], []] = true := by decide +kernel
theorem kb_35_1 : ck_es tb_E "StepCodeModel" "put" prog_13_method_14_code [] true mc_35_1 [[(6, 64)], [], [], [], [], [], [], [], [], [], [], [], [(7, 30), (7, 32), (0, 49)], []] = true := by decide +kernel
theorem kf_35 : ck_m ⟨"StepCodeModel", "put", "(IZII)V"⟩ 5 none mt_35 = true := by decide +kernel
theorem km_35 {D : ar_D} {lim : Nat × Nat} {b : Nat} {B : Heap} (hE : ck_env tb_E (tb_G D lim b B) tb_Ts tb_I ah_P) : am_mok (tb_G D lim b B) tb_Ts tb_I ah_P ⟨"StepCodeModel", "put", "(IZII)V"⟩ prog_13_method_14_code 5 none [] mt_35 :=
  ck_mok (hn := true) hE (fun _ => rfl) kf_35 (trivial) (List.forall_mem_cons.mpr ⟨ck_es_ok hE _ _ kb_35_0, List.forall_mem_cons.mpr ⟨ck_es_ok hE _ _ kb_35_1, fun _ h => absurd h List.not_mem_nil⟩⟩)
-- StepCodeModel.mark(IZZ)V
theorem kb_36_0 : ck_es tb_E "StepCodeModel" "mark" prog_13_method_15_code [] true mc_36_0 [[], [], [], [], [], [(6, 71)], [], [], [], [], [(6, 64)], [], [(6, 64)], [], [], [], [(6, 74)], [], [], [], [], [(6, 75)], [], []] = true := by decide +kernel
theorem kb_36_1 : ck_es tb_E "StepCodeModel" "mark" prog_13_method_15_code [] true mc_36_1 [[], []] = true := by decide +kernel
theorem kf_36 : ck_m ⟨"StepCodeModel", "mark", "(IZZ)V"⟩ 4 none mt_36 = true := by decide +kernel
theorem km_36 {D : ar_D} {lim : Nat × Nat} {b : Nat} {B : Heap} (hE : ck_env tb_E (tb_G D lim b B) tb_Ts tb_I ah_P) : am_mok (tb_G D lim b B) tb_Ts tb_I ah_P ⟨"StepCodeModel", "mark", "(IZZ)V"⟩ prog_13_method_15_code 4 none [] mt_36 :=
  ck_mok (hn := true) hE (fun _ => rfl) kf_36 (trivial) (List.forall_mem_cons.mpr ⟨ck_es_ok hE _ _ kb_36_0, List.forall_mem_cons.mpr ⟨ck_es_ok hE _ _ kb_36_1, fun _ h => absurd h List.not_mem_nil⟩⟩)
-- StepCodeModel.get(II)I
theorem kb_37_0 : ck_es tb_E "StepCodeModel" "get" prog_13_method_16_code [] true mc_37_0 [[], [], [], [], [], [(6, 71)], [], [], [], [], [(7, 22), (7, 24), (0, 47)], [], [], [], [], [(6, 64)], [], [(6, 64)], [], [], [], [], [], []] = true := by decide +kernel
theorem kb_37_1 : ck_es tb_E "StepCodeModel" "get" prog_13_method_16_code [] true mc_37_1 [[(7, 42), (7, 44), (0, 50)], []] = true := by decide +kernel
theorem kf_37 : ck_m ⟨"StepCodeModel", "get", "(II)I"⟩ 3 (some .int) mt_37 = true := by decide +kernel
theorem km_37 {D : ar_D} {lim : Nat × Nat} {b : Nat} {B : Heap} (hE : ck_env tb_E (tb_G D lim b B) tb_Ts tb_I ah_P) : am_mok (tb_G D lim b B) tb_Ts tb_I ah_P ⟨"StepCodeModel", "get", "(II)I"⟩ prog_13_method_16_code 3 (some .int) [] mt_37 :=
  ck_mok (hn := true) hE (fun _ => rfl) kf_37 (trivial) (List.forall_mem_cons.mpr ⟨ck_es_ok hE _ _ kb_37_0, List.forall_mem_cons.mpr ⟨ck_es_ok hE _ _ kb_37_1, fun _ h => absurd h List.not_mem_nil⟩⟩)
-- StepCodeModel.noProcess(I)Z
theorem kb_38_0 : ck_es tb_E "StepCodeModel" "noProcess" prog_13_method_17_code [] true mc_38_0 [[], [], [], [], [(6, 87)], [], [], [], [], []] = true := by decide +kernel
theorem kf_38 : ck_m ⟨"StepCodeModel", "noProcess", "(I)Z"⟩ 2 (some .boolean) mt_38 = true := by decide +kernel
theorem km_38 {D : ar_D} {lim : Nat × Nat} {b : Nat} {B : Heap} (hE : ck_env tb_E (tb_G D lim b B) tb_Ts tb_I ah_P) : am_mok (tb_G D lim b B) tb_Ts tb_I ah_P ⟨"StepCodeModel", "noProcess", "(I)Z"⟩ prog_13_method_17_code 2 (some .boolean) [] mt_38 :=
  ck_mok (hn := true) hE (fun _ => rfl) kf_38 (trivial) (List.forall_mem_cons.mpr ⟨ck_es_ok hE _ _ kb_38_0, fun _ h => absurd h List.not_mem_nil⟩)
-- StepCodeModel.variableAt(III)I
theorem kb_39_0 : ck_es tb_E "StepCodeModel" "variableAt" prog_13_method_18_code [] true mc_39_0 [[], [], [(7, 58), (7, 60), (0, 53)], [], [], [], [], [], [(6, 91)], [], [], [], [], [], [], [], [(6, 90)], [], [], [], [], [], [], []] = true := by decide +kernel
theorem kb_39_1 : ck_es tb_E "StepCodeModel" "variableAt" prog_13_method_18_code [] true mc_39_1 [[], [], [(7, 22), (7, 24), (0, 47)], [], [], [], [], []] = true := by decide +kernel
theorem kf_39 : ck_m ⟨"StepCodeModel", "variableAt", "(III)I"⟩ 5 (some .int) mt_39 = true := by decide +kernel
theorem km_39 {D : ar_D} {lim : Nat × Nat} {b : Nat} {B : Heap} (hE : ck_env tb_E (tb_G D lim b B) tb_Ts tb_I ah_P) : am_mok (tb_G D lim b B) tb_Ts tb_I ah_P ⟨"StepCodeModel", "variableAt", "(III)I"⟩ prog_13_method_18_code 5 (some .int) [] mt_39 :=
  ck_mok (hn := true) hE (fun _ => rfl) kf_39 (trivial) (List.forall_mem_cons.mpr ⟨ck_es_ok hE _ _ kb_39_0, List.forall_mem_cons.mpr ⟨ck_es_ok hE _ _ kb_39_1, fun _ h => absurd h List.not_mem_nil⟩⟩)
