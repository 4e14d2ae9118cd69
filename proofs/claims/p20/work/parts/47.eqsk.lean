/-! EQUATIONS of the methods, by program (wip/tools/eqs2.py) -/
-- StepCodeLaw.signal(LStepCode;III[J)I
set_option maxRecDepth 100000 in
theorem q_261_0 {lim : Nat × Nat} {d : Nat} {h : ah_H} {v0 : Option Nat} {v1 : Int32} {v2 : Int32} {v3 : Int32} {v4 : Option Nat} : ah_val lim ah_P d 261 0 [some (.inr (.inr v0)), some (.inl v1), some (.inl v2), some (.inl v3), some (.inr (.inr v4)), none] [] h = ah_at h v0 0 fun _ _ => ah_cI (vc lim d 1 [.inr (.inr v0), .inl v1, .inl v2, .inl v3] h) (ah_hx lim d 261 7 [some (.inr (.inr v0)), some (.inl v1), some (.inl v2), some (.inl v3), some (.inr (.inr v4)), none] h) fun i2 h1 => ah_sI h1 v4 101 (0 : Int32) (.inr (.inl i2.toInt64)) fun h3 => some (.inl (some (.inl (0 : Int32))), h3) := by
  rw [ah_val_eq hM_261]
  rfl
set_option maxRecDepth 100000 in
theorem q_261_15 {lim : Nat × Nat} {d : Nat} {h : ah_H} {v0 : Option Nat} {v1 : Int32} {v2 : Int32} {v3 : Int32} {v4 : Option Nat} {s0 : Option Nat} : ah_val lim ah_P d 261 15 [some (.inr (.inr v0)), some (.inl v1), some (.inl v2), some (.inl v3), some (.inr (.inr v4)), none] [.inr (.inr s0)] h = some (.inl (some (.inl (1 : Int32))), h) := by
  rw [ah_val_eq hM_261]
  rfl
set_option maxRecDepth 100000 in
theorem q_261_19 {lim : Nat × Nat} {d : Nat} {h : ah_H} {v0 : Option Nat} {v1 : Int32} {v2 : Int32} {v3 : Int32} {v4 : Option Nat} {s0 : Option Nat} : ah_val lim ah_P d 261 19 [some (.inr (.inr v0)), some (.inl v1), some (.inl v2), some (.inl v3), some (.inr (.inr v4)), none] [.inr (.inr s0)] h = some (.inl (some (.inl (2 : Int32))), h) := by
  rw [ah_val_eq hM_261]
  rfl
theorem e_Law_signal {lim : Nat × Nat} {d : Nat} {h : ah_H} {v0 : Option Nat} {v1 : Int32} {v2 : Int32} {v3 : Int32} {v4 : Option Nat} : vc lim (d + 1) m_Law_signal [.inr (.inr v0), .inl v1, .inl v2, .inl v3, .inr (.inr v4)] h = ah_at h v0 0 fun _ _ => ah_cI (vc lim d 1 [.inr (.inr v0), .inl v1, .inl v2, .inl v3] h) (ah_hx lim d 261 7 [some (.inr (.inr v0)), some (.inl v1), some (.inl v2), some (.inl v3), some (.inr (.inr v4)), none] h) fun i2 h1 => ah_sI h1 v4 101 (0 : Int32) (.inr (.inl i2.toInt64)) fun h3 => some (.inl (some (.inl (0 : Int32))), h3) := q_261_0
-- StepCodeLaw.variable(LStepCode;III[J)I
set_option maxRecDepth 100000 in
theorem q_262_0 {lim : Nat × Nat} {d : Nat} {h : ah_H} {v0 : Option Nat} {v1 : Int32} {v2 : Int32} {v3 : Int32} {v4 : Option Nat} : ah_val lim ah_P d 262 0 [some (.inr (.inr v0)), some (.inl v1), some (.inl v2), some (.inl v3), some (.inr (.inr v4)), none] [] h = ah_at h v0 0 fun _ _ => ah_cI (vc lim d 2 [.inr (.inr v0), .inl v1, .inl v2, .inl v3] h) (ah_hx lim d 262 7 [some (.inr (.inr v0)), some (.inl v1), some (.inl v2), some (.inl v3), some (.inr (.inr v4)), none] h) fun i2 h1 => ah_sI h1 v4 101 (0 : Int32) (.inr (.inl i2.toInt64)) fun h3 => some (.inl (some (.inl (0 : Int32))), h3) := by
  rw [ah_val_eq hM_262]
  rfl
set_option maxRecDepth 100000 in
theorem q_262_15 {lim : Nat × Nat} {d : Nat} {h : ah_H} {v0 : Option Nat} {v1 : Int32} {v2 : Int32} {v3 : Int32} {v4 : Option Nat} {s0 : Option Nat} : ah_val lim ah_P d 262 15 [some (.inr (.inr v0)), some (.inl v1), some (.inl v2), some (.inl v3), some (.inr (.inr v4)), none] [.inr (.inr s0)] h = some (.inl (some (.inl (1 : Int32))), h) := by
  rw [ah_val_eq hM_262]
  rfl
set_option maxRecDepth 100000 in
theorem q_262_19 {lim : Nat × Nat} {d : Nat} {h : ah_H} {v0 : Option Nat} {v1 : Int32} {v2 : Int32} {v3 : Int32} {v4 : Option Nat} {s0 : Option Nat} : ah_val lim ah_P d 262 19 [some (.inr (.inr v0)), some (.inl v1), some (.inl v2), some (.inl v3), some (.inr (.inr v4)), none] [.inr (.inr s0)] h = some (.inl (some (.inl (2 : Int32))), h) := by
  rw [ah_val_eq hM_262]
  rfl
theorem e_Law_variable {lim : Nat × Nat} {d : Nat} {h : ah_H} {v0 : Option Nat} {v1 : Int32} {v2 : Int32} {v3 : Int32} {v4 : Option Nat} : vc lim (d + 1) m_Law_variable [.inr (.inr v0), .inl v1, .inl v2, .inl v3, .inr (.inr v4)] h = ah_at h v0 0 fun _ _ => ah_cI (vc lim d 2 [.inr (.inr v0), .inl v1, .inl v2, .inl v3] h) (ah_hx lim d 262 7 [some (.inr (.inr v0)), some (.inl v1), some (.inl v2), some (.inl v3), some (.inr (.inr v4)), none] h) fun i2 h1 => ah_sI h1 v4 101 (0 : Int32) (.inr (.inl i2.toInt64)) fun h3 => some (.inl (some (.inl (0 : Int32))), h3) := q_262_0
-- StepCodeLaw.add(LStepCode;III[J)I
set_option maxRecDepth 100000 in
theorem q_263_0 {lim : Nat × Nat} {d : Nat} {h : ah_H} {v0 : Option Nat} {v1 : Int32} {v2 : Int32} {v3 : Int32} {v4 : Option Nat} : ah_val lim ah_P d 263 0 [some (.inr (.inr v0)), some (.inl v1), some (.inl v2), some (.inl v3), some (.inr (.inr v4)), none] [] h = ah_at h v0 0 fun _ _ => ah_cI (vc lim d 3 [.inr (.inr v0), .inl v1, .inl v2, .inl v3] h) (ah_hx lim d 263 7 [some (.inr (.inr v0)), some (.inl v1), some (.inl v2), some (.inl v3), some (.inr (.inr v4)), none] h) fun i2 h1 => ah_sI h1 v4 101 (0 : Int32) (.inr (.inl i2.toInt64)) fun h3 => some (.inl (some (.inl (0 : Int32))), h3) := by
  rw [ah_val_eq hM_263]
  rfl
set_option maxRecDepth 100000 in
theorem q_263_15 {lim : Nat × Nat} {d : Nat} {h : ah_H} {v0 : Option Nat} {v1 : Int32} {v2 : Int32} {v3 : Int32} {v4 : Option Nat} {s0 : Option Nat} : ah_val lim ah_P d 263 15 [some (.inr (.inr v0)), some (.inl v1), some (.inl v2), some (.inl v3), some (.inr (.inr v4)), none] [.inr (.inr s0)] h = some (.inl (some (.inl (1 : Int32))), h) := by
  rw [ah_val_eq hM_263]
  rfl
set_option maxRecDepth 100000 in
theorem q_263_19 {lim : Nat × Nat} {d : Nat} {h : ah_H} {v0 : Option Nat} {v1 : Int32} {v2 : Int32} {v3 : Int32} {v4 : Option Nat} {s0 : Option Nat} : ah_val lim ah_P d 263 19 [some (.inr (.inr v0)), some (.inl v1), some (.inl v2), some (.inl v3), some (.inr (.inr v4)), none] [.inr (.inr s0)] h = some (.inl (some (.inl (2 : Int32))), h) := by
  rw [ah_val_eq hM_263]
  rfl
theorem e_Law_add {lim : Nat × Nat} {d : Nat} {h : ah_H} {v0 : Option Nat} {v1 : Int32} {v2 : Int32} {v3 : Int32} {v4 : Option Nat} : vc lim (d + 1) m_Law_add [.inr (.inr v0), .inl v1, .inl v2, .inl v3, .inr (.inr v4)] h = ah_at h v0 0 fun _ _ => ah_cI (vc lim d 3 [.inr (.inr v0), .inl v1, .inl v2, .inl v3] h) (ah_hx lim d 263 7 [some (.inr (.inr v0)), some (.inl v1), some (.inl v2), some (.inl v3), some (.inr (.inr v4)), none] h) fun i2 h1 => ah_sI h1 v4 101 (0 : Int32) (.inr (.inl i2.toInt64)) fun h3 => some (.inl (some (.inl (0 : Int32))), h3) := q_263_0
-- StepCodeLaw.process(LStepCode;[J)I
set_option maxRecDepth 100000 in
theorem q_264_0 {lim : Nat × Nat} {d : Nat} {h : ah_H} {v0 : Option Nat} {v1 : Option Nat} : ah_val lim ah_P d 264 0 [some (.inr (.inr v0)), some (.inr (.inr v1)), none] [] h = ah_at h v0 0 fun _ _ => ah_cI (vc lim d 4 [.inr (.inr v0)] h) (ah_hx lim d 264 3 [some (.inr (.inr v0)), some (.inr (.inr v1)), none] h) fun i2 h1 => ah_sI h1 v1 101 (0 : Int32) (.inr (.inl i2.toInt64)) fun h3 => some (.inl (some (.inl (0 : Int32))), h3) := by
  rw [ah_val_eq hM_264]
  rfl
set_option maxRecDepth 100000 in
theorem q_264_11 {lim : Nat × Nat} {d : Nat} {h : ah_H} {v0 : Option Nat} {v1 : Option Nat} {s0 : Option Nat} : ah_val lim ah_P d 264 11 [some (.inr (.inr v0)), some (.inr (.inr v1)), none] [.inr (.inr s0)] h = some (.inl (some (.inl (1 : Int32))), h) := by
  rw [ah_val_eq hM_264]
  rfl
theorem e_Law_process {lim : Nat × Nat} {d : Nat} {h : ah_H} {v0 : Option Nat} {v1 : Option Nat} : vc lim (d + 1) m_Law_process [.inr (.inr v0), .inr (.inr v1)] h = ah_at h v0 0 fun _ _ => ah_cI (vc lim d 4 [.inr (.inr v0)] h) (ah_hx lim d 264 3 [some (.inr (.inr v0)), some (.inr (.inr v1)), none] h) fun i2 h1 => ah_sI h1 v1 101 (0 : Int32) (.inr (.inl i2.toInt64)) fun h3 => some (.inl (some (.inl (0 : Int32))), h3) := q_264_0
-- StepCodeLaw.put(LStepCode;IZII)I
set_option maxRecDepth 100000 in
theorem q_265_0 {lim : Nat × Nat} {d : Nat} {h : ah_H} {v0 : Option Nat} {v1 : Int32} {v2 : Int32} {v3 : Int32} {v4 : Int32} : ah_val lim ah_P d 265 0 [some (.inr (.inr v0)), some (.inl v1), some (.inl v2), some (.inl v3), some (.inl v4), none] [] h = ah_at h v0 0 fun _ _ => ah_cV (vc lim d 6 [.inr (.inr v0), .inl v1, .inl v2, .inl v3, .inl v4] h) (ah_hx lim d 265 6 [some (.inr (.inr v0)), some (.inl v1), some (.inl v2), some (.inl v3), some (.inl v4), none] h) fun h1 => some (.inl (some (.inl (0 : Int32))), h1) := by
  rw [ah_val_eq hM_265]
  rfl
set_option maxRecDepth 100000 in
theorem q_265_12 {lim : Nat × Nat} {d : Nat} {h : ah_H} {v0 : Option Nat} {v1 : Int32} {v2 : Int32} {v3 : Int32} {v4 : Int32} {s0 : Option Nat} : ah_val lim ah_P d 265 12 [some (.inr (.inr v0)), some (.inl v1), some (.inl v2), some (.inl v3), some (.inl v4), none] [.inr (.inr s0)] h = some (.inl (some (.inl (1 : Int32))), h) := by
  rw [ah_val_eq hM_265]
  rfl
set_option maxRecDepth 100000 in
theorem q_265_16 {lim : Nat × Nat} {d : Nat} {h : ah_H} {v0 : Option Nat} {v1 : Int32} {v2 : Int32} {v3 : Int32} {v4 : Int32} {s0 : Option Nat} : ah_val lim ah_P d 265 16 [some (.inr (.inr v0)), some (.inl v1), some (.inl v2), some (.inl v3), some (.inl v4), none] [.inr (.inr s0)] h = some (.inl (some (.inl (2 : Int32))), h) := by
  rw [ah_val_eq hM_265]
  rfl
theorem e_Law_put {lim : Nat × Nat} {d : Nat} {h : ah_H} {v0 : Option Nat} {v1 : Int32} {v2 : Int32} {v3 : Int32} {v4 : Int32} : vc lim (d + 1) m_Law_put [.inr (.inr v0), .inl v1, .inl v2, .inl v3, .inl v4] h = ah_at h v0 0 fun _ _ => ah_cV (vc lim d 6 [.inr (.inr v0), .inl v1, .inl v2, .inl v3, .inl v4] h) (ah_hx lim d 265 6 [some (.inr (.inr v0)), some (.inl v1), some (.inl v2), some (.inl v3), some (.inl v4), none] h) fun h1 => some (.inl (some (.inl (0 : Int32))), h1) := q_265_0
-- StepCodeLaw.mark(LStepCode;IZZ)I
set_option maxRecDepth 100000 in
theorem q_266_0 {lim : Nat × Nat} {d : Nat} {h : ah_H} {v0 : Option Nat} {v1 : Int32} {v2 : Int32} {v3 : Int32} : ah_val lim ah_P d 266 0 [some (.inr (.inr v0)), some (.inl v1), some (.inl v2), some (.inl v3), none] [] h = ah_at h v0 0 fun _ _ => ah_cV (vc lim d 7 [.inr (.inr v0), .inl v1, .inl v2, .inl v3] h) (ah_hx lim d 266 4 [some (.inr (.inr v0)), some (.inl v1), some (.inl v2), some (.inl v3), none] h) fun h1 => some (.inl (some (.inl (0 : Int32))), h1) := by
  rw [ah_val_eq hM_266]
  rfl
set_option maxRecDepth 100000 in
theorem q_266_10 {lim : Nat × Nat} {d : Nat} {h : ah_H} {v0 : Option Nat} {v1 : Int32} {v2 : Int32} {v3 : Int32} {s0 : Option Nat} : ah_val lim ah_P d 266 10 [some (.inr (.inr v0)), some (.inl v1), some (.inl v2), some (.inl v3), none] [.inr (.inr s0)] h = some (.inl (some (.inl (1 : Int32))), h) := by
  rw [ah_val_eq hM_266]
  rfl
theorem e_Law_mark {lim : Nat × Nat} {d : Nat} {h : ah_H} {v0 : Option Nat} {v1 : Int32} {v2 : Int32} {v3 : Int32} : vc lim (d + 1) m_Law_mark [.inr (.inr v0), .inl v1, .inl v2, .inl v3] h = ah_at h v0 0 fun _ _ => ah_cV (vc lim d 7 [.inr (.inr v0), .inl v1, .inl v2, .inl v3] h) (ah_hx lim d 266 4 [some (.inr (.inr v0)), some (.inl v1), some (.inl v2), some (.inl v3), none] h) fun h1 => some (.inl (some (.inl (0 : Int32))), h1) := q_266_0
-- StepCodeLaw.get(LStepCode;II[J)I
set_option maxRecDepth 100000 in
theorem q_267_0 {lim : Nat × Nat} {d : Nat} {h : ah_H} {v0 : Option Nat} {v1 : Int32} {v2 : Int32} {v3 : Option Nat} : ah_val lim ah_P d 267 0 [some (.inr (.inr v0)), some (.inl v1), some (.inl v2), some (.inr (.inr v3)), none] [] h = ah_at h v0 0 fun _ _ => ah_cI (vc lim d 8 [.inr (.inr v0), .inl v1, .inl v2] h) (ah_hx lim d 267 5 [some (.inr (.inr v0)), some (.inl v1), some (.inl v2), some (.inr (.inr v3)), none] h) fun i2 h1 => ah_sI h1 v3 101 (0 : Int32) (.inr (.inl i2.toInt64)) fun h3 => some (.inl (some (.inl (0 : Int32))), h3) := by
  rw [ah_val_eq hM_267]
  rfl
set_option maxRecDepth 100000 in
theorem q_267_13 {lim : Nat × Nat} {d : Nat} {h : ah_H} {v0 : Option Nat} {v1 : Int32} {v2 : Int32} {v3 : Option Nat} {s0 : Option Nat} : ah_val lim ah_P d 267 13 [some (.inr (.inr v0)), some (.inl v1), some (.inl v2), some (.inr (.inr v3)), none] [.inr (.inr s0)] h = some (.inl (some (.inl (1 : Int32))), h) := by
  rw [ah_val_eq hM_267]
  rfl
theorem e_Law_get {lim : Nat × Nat} {d : Nat} {h : ah_H} {v0 : Option Nat} {v1 : Int32} {v2 : Int32} {v3 : Option Nat} : vc lim (d + 1) m_Law_get [.inr (.inr v0), .inl v1, .inl v2, .inr (.inr v3)] h = ah_at h v0 0 fun _ _ => ah_cI (vc lim d 8 [.inr (.inr v0), .inl v1, .inl v2] h) (ah_hx lim d 267 5 [some (.inr (.inr v0)), some (.inl v1), some (.inl v2), some (.inr (.inr v3)), none] h) fun i2 h1 => ah_sI h1 v3 101 (0 : Int32) (.inr (.inl i2.toInt64)) fun h3 => some (.inl (some (.inl (0 : Int32))), h3) := q_267_0
-- StepCodeLaw.set(LStepCode;IIII)I
set_option maxRecDepth 100000 in
theorem q_268_0 {lim : Nat × Nat} {d : Nat} {h : ah_H} {v0 : Option Nat} {v1 : Int32} {v2 : Int32} {v3 : Int32} {v4 : Int32} : ah_val lim ah_P d 268 0 [some (.inr (.inr v0)), some (.inl v1), some (.inl v2), some (.inl v3), some (.inl v4), none] [] h = ah_at h v0 0 fun _ _ => ah_cV (vc lim d 9 [.inr (.inr v0), .inl v1, .inl v2, .inl v3, .inl v4] h) (ah_hx lim d 268 6 [some (.inr (.inr v0)), some (.inl v1), some (.inl v2), some (.inl v3), some (.inl v4), none] h) fun h1 => some (.inl (some (.inl (0 : Int32))), h1) := by
  rw [ah_val_eq hM_268]
  rfl
set_option maxRecDepth 100000 in
theorem q_268_12 {lim : Nat × Nat} {d : Nat} {h : ah_H} {v0 : Option Nat} {v1 : Int32} {v2 : Int32} {v3 : Int32} {v4 : Int32} {s0 : Option Nat} : ah_val lim ah_P d 268 12 [some (.inr (.inr v0)), some (.inl v1), some (.inl v2), some (.inl v3), some (.inl v4), none] [.inr (.inr s0)] h = some (.inl (some (.inl (1 : Int32))), h) := by
  rw [ah_val_eq hM_268]
  rfl
set_option maxRecDepth 100000 in
theorem q_268_16 {lim : Nat × Nat} {d : Nat} {h : ah_H} {v0 : Option Nat} {v1 : Int32} {v2 : Int32} {v3 : Int32} {v4 : Int32} {s0 : Option Nat} : ah_val lim ah_P d 268 16 [some (.inr (.inr v0)), some (.inl v1), some (.inl v2), some (.inl v3), some (.inl v4), none] [.inr (.inr s0)] h = some (.inl (some (.inl (2 : Int32))), h) := by
  rw [ah_val_eq hM_268]
  rfl
theorem e_Law_set {lim : Nat × Nat} {d : Nat} {h : ah_H} {v0 : Option Nat} {v1 : Int32} {v2 : Int32} {v3 : Int32} {v4 : Int32} : vc lim (d + 1) m_Law_set [.inr (.inr v0), .inl v1, .inl v2, .inl v3, .inl v4] h = ah_at h v0 0 fun _ _ => ah_cV (vc lim d 9 [.inr (.inr v0), .inl v1, .inl v2, .inl v3, .inl v4] h) (ah_hx lim d 268 6 [some (.inr (.inr v0)), some (.inl v1), some (.inl v2), some (.inl v3), some (.inl v4), none] h) fun h1 => some (.inl (some (.inl (0 : Int32))), h1) := q_268_0
-- StepCodeLaw.variableOf(LStepCode;III[J)I
set_option maxRecDepth 100000 in
theorem q_269_0 {lim : Nat × Nat} {d : Nat} {h : ah_H} {v0 : Option Nat} {v1 : Int32} {v2 : Int32} {v3 : Int32} {v4 : Option Nat} : ah_val lim ah_P d 269 0 [some (.inr (.inr v0)), some (.inl v1), some (.inl v2), some (.inl v3), some (.inr (.inr v4)), none] [] h = ah_at h v0 0 fun _ _ => ah_cI (vc lim d 10 [.inr (.inr v0), .inl v1, .inl v2, .inl v3] h) (ah_hx lim d 269 7 [some (.inr (.inr v0)), some (.inl v1), some (.inl v2), some (.inl v3), some (.inr (.inr v4)), none] h) fun i2 h1 => ah_sI h1 v4 101 (0 : Int32) (.inr (.inl i2.toInt64)) fun h3 => some (.inl (some (.inl (0 : Int32))), h3) := by
  rw [ah_val_eq hM_269]
  rfl
set_option maxRecDepth 100000 in
theorem q_269_15 {lim : Nat × Nat} {d : Nat} {h : ah_H} {v0 : Option Nat} {v1 : Int32} {v2 : Int32} {v3 : Int32} {v4 : Option Nat} {s0 : Option Nat} : ah_val lim ah_P d 269 15 [some (.inr (.inr v0)), some (.inl v1), some (.inl v2), some (.inl v3), some (.inr (.inr v4)), none] [.inr (.inr s0)] h = some (.inl (some (.inl (1 : Int32))), h) := by
  rw [ah_val_eq hM_269]
  rfl
theorem e_Law_variableOf {lim : Nat × Nat} {d : Nat} {h : ah_H} {v0 : Option Nat} {v1 : Int32} {v2 : Int32} {v3 : Int32} {v4 : Option Nat} : vc lim (d + 1) m_Law_variableOf [.inr (.inr v0), .inl v1, .inl v2, .inl v3, .inr (.inr v4)] h = ah_at h v0 0 fun _ _ => ah_cI (vc lim d 10 [.inr (.inr v0), .inl v1, .inl v2, .inl v3] h) (ah_hx lim d 269 7 [some (.inr (.inr v0)), some (.inl v1), some (.inl v2), some (.inl v3), some (.inr (.inr v4)), none] h) fun i2 h1 => ah_sI h1 v4 101 (0 : Int32) (.inr (.inl i2.toInt64)) fun h3 => some (.inl (some (.inl (0 : Int32))), h3) := q_269_0
-- StepCodeLaw.resume(LStepCode;II[J)I
set_option maxRecDepth 100000 in
theorem q_270_0 {lim : Nat × Nat} {d : Nat} {h : ah_H} {v0 : Option Nat} {v1 : Int32} {v2 : Int32} {v3 : Option Nat} : ah_val lim ah_P d 270 0 [some (.inr (.inr v0)), some (.inl v1), some (.inl v2), some (.inr (.inr v3)), none] [] h = ah_at h v0 0 fun _ _ => ah_cI (vc lim d 11 [.inr (.inr v0), .inl v1, .inl v2] h) (ah_hx lim d 270 5 [some (.inr (.inr v0)), some (.inl v1), some (.inl v2), some (.inr (.inr v3)), none] h) fun i2 h1 => ah_sI h1 v3 101 (0 : Int32) (.inr (.inl i2.toInt64)) fun h3 => some (.inl (some (.inl (0 : Int32))), h3) := by
  rw [ah_val_eq hM_270]
  rfl
set_option maxRecDepth 100000 in
theorem q_270_13 {lim : Nat × Nat} {d : Nat} {h : ah_H} {v0 : Option Nat} {v1 : Int32} {v2 : Int32} {v3 : Option Nat} {s0 : Option Nat} : ah_val lim ah_P d 270 13 [some (.inr (.inr v0)), some (.inl v1), some (.inl v2), some (.inr (.inr v3)), none] [.inr (.inr s0)] h = some (.inl (some (.inl (1 : Int32))), h) := by
  rw [ah_val_eq hM_270]
  rfl
set_option maxRecDepth 100000 in
theorem q_270_17 {lim : Nat × Nat} {d : Nat} {h : ah_H} {v0 : Option Nat} {v1 : Int32} {v2 : Int32} {v3 : Option Nat} {s0 : Option Nat} : ah_val lim ah_P d 270 17 [some (.inr (.inr v0)), some (.inl v1), some (.inl v2), some (.inr (.inr v3)), none] [.inr (.inr s0)] h = some (.inl (some (.inl (2 : Int32))), h) := by
  rw [ah_val_eq hM_270]
  rfl
set_option maxRecDepth 100000 in
theorem q_270_21 {lim : Nat × Nat} {d : Nat} {h : ah_H} {v0 : Option Nat} {v1 : Int32} {v2 : Int32} {v3 : Option Nat} {s0 : Option Nat} : ah_val lim ah_P d 270 21 [some (.inr (.inr v0)), some (.inl v1), some (.inl v2), some (.inr (.inr v3)), none] [.inr (.inr s0)] h = some (.inl (some (.inl (3 : Int32))), h) := by
  rw [ah_val_eq hM_270]
  rfl
theorem e_Law_resume {lim : Nat × Nat} {d : Nat} {h : ah_H} {v0 : Option Nat} {v1 : Int32} {v2 : Int32} {v3 : Option Nat} : vc lim (d + 1) m_Law_resume [.inr (.inr v0), .inl v1, .inl v2, .inr (.inr v3)] h = ah_at h v0 0 fun _ _ => ah_cI (vc lim d 11 [.inr (.inr v0), .inl v1, .inl v2] h) (ah_hx lim d 270 5 [some (.inr (.inr v0)), some (.inl v1), some (.inl v2), some (.inr (.inr v3)), none] h) fun i2 h1 => ah_sI h1 v3 101 (0 : Int32) (.inr (.inl i2.toInt64)) fun h3 => some (.inl (some (.inl (0 : Int32))), h3) := q_270_0
-- StepCodeLaw.holds(LStepCode;I[J)I
set_option maxRecDepth 100000 in
theorem q_271_0 {lim : Nat × Nat} {d : Nat} {h : ah_H} {v0 : Option Nat} {v1 : Int32} {v2 : Option Nat} : ah_val lim ah_P d 271 0 [some (.inr (.inr v0)), some (.inl v1), some (.inr (.inr v2)), none] [] h = ah_at h v0 0 fun _ _ => ah_cI (vc lim d 12 [.inr (.inr v0), .inl v1] h) (ah_hx lim d 271 4 [some (.inr (.inr v0)), some (.inl v1), some (.inr (.inr v2)), none] h) fun i2 h1 => ah_sI h1 v2 101 (0 : Int32) (.inr (.inl i2.toInt64)) fun h3 => some (.inl (some (.inl (0 : Int32))), h3) := by
  rw [ah_val_eq hM_271]
  rfl
set_option maxRecDepth 100000 in
theorem q_271_12 {lim : Nat × Nat} {d : Nat} {h : ah_H} {v0 : Option Nat} {v1 : Int32} {v2 : Option Nat} {s0 : Option Nat} : ah_val lim ah_P d 271 12 [some (.inr (.inr v0)), some (.inl v1), some (.inr (.inr v2)), none] [.inr (.inr s0)] h = some (.inl (some (.inl (1 : Int32))), h) := by
  rw [ah_val_eq hM_271]
  rfl
set_option maxRecDepth 100000 in
theorem q_271_15 {lim : Nat × Nat} {d : Nat} {h : ah_H} {v0 : Option Nat} {v1 : Int32} {v2 : Option Nat} {s0 : Option Nat} : ah_val lim ah_P d 271 15 [some (.inr (.inr v0)), some (.inl v1), some (.inr (.inr v2)), none] [.inr (.inr s0)] h = some (.inl (some (.inl (2 : Int32))), h) := by
  rw [ah_val_eq hM_271]
  rfl
theorem e_Law_holds {lim : Nat × Nat} {d : Nat} {h : ah_H} {v0 : Option Nat} {v1 : Int32} {v2 : Option Nat} : vc lim (d + 1) m_Law_holds [.inr (.inr v0), .inl v1, .inr (.inr v2)] h = ah_at h v0 0 fun _ _ => ah_cI (vc lim d 12 [.inr (.inr v0), .inl v1] h) (ah_hx lim d 271 4 [some (.inr (.inr v0)), some (.inl v1), some (.inr (.inr v2)), none] h) fun i2 h1 => ah_sI h1 v2 101 (0 : Int32) (.inr (.inl i2.toInt64)) fun h3 => some (.inl (some (.inl (0 : Int32))), h3) := q_271_0
-- StepCodeLaw.about(LStepCode;II[J)I
set_option maxRecDepth 100000 in
theorem q_272_0 {lim : Nat × Nat} {d : Nat} {h : ah_H} {v0 : Option Nat} {v1 : Int32} {v2 : Int32} {v3 : Option Nat} : ah_val lim ah_P d 272 0 [some (.inr (.inr v0)), some (.inl v1), some (.inl v2), some (.inr (.inr v3)), none] [] h = ah_at h v0 0 fun _ _ => ah_cI (vc lim d 13 [.inr (.inr v0), .inl v1, .inl v2] h) (ah_hx lim d 272 5 [some (.inr (.inr v0)), some (.inl v1), some (.inl v2), some (.inr (.inr v3)), none] h) fun i2 h1 => ah_sI h1 v3 101 (0 : Int32) (.inr (.inl i2.toInt64)) fun h3 => some (.inl (some (.inl (0 : Int32))), h3) := by
  rw [ah_val_eq hM_272]
  rfl
set_option maxRecDepth 100000 in
theorem q_272_13 {lim : Nat × Nat} {d : Nat} {h : ah_H} {v0 : Option Nat} {v1 : Int32} {v2 : Int32} {v3 : Option Nat} {s0 : Option Nat} : ah_val lim ah_P d 272 13 [some (.inr (.inr v0)), some (.inl v1), some (.inl v2), some (.inr (.inr v3)), none] [.inr (.inr s0)] h = some (.inl (some (.inl (1 : Int32))), h) := by
  rw [ah_val_eq hM_272]
  rfl
set_option maxRecDepth 100000 in
theorem q_272_17 {lim : Nat × Nat} {d : Nat} {h : ah_H} {v0 : Option Nat} {v1 : Int32} {v2 : Int32} {v3 : Option Nat} {s0 : Option Nat} : ah_val lim ah_P d 272 17 [some (.inr (.inr v0)), some (.inl v1), some (.inl v2), some (.inr (.inr v3)), none] [.inr (.inr s0)] h = some (.inl (some (.inl (2 : Int32))), h) := by
  rw [ah_val_eq hM_272]
  rfl
theorem e_Law_about {lim : Nat × Nat} {d : Nat} {h : ah_H} {v0 : Option Nat} {v1 : Int32} {v2 : Int32} {v3 : Option Nat} : vc lim (d + 1) m_Law_about [.inr (.inr v0), .inl v1, .inl v2, .inr (.inr v3)] h = ah_at h v0 0 fun _ _ => ah_cI (vc lim d 13 [.inr (.inr v0), .inl v1, .inl v2] h) (ah_hx lim d 272 5 [some (.inr (.inr v0)), some (.inl v1), some (.inl v2), some (.inr (.inr v3)), none] h) fun i2 h1 => ah_sI h1 v3 101 (0 : Int32) (.inr (.inl i2.toInt64)) fun h3 => some (.inl (some (.inl (0 : Int32))), h3) := q_272_0
-- StepCodeLaw.waits(LStepCode;II[J)I
set_option maxRecDepth 100000 in
theorem q_273_0 {lim : Nat × Nat} {d : Nat} {h : ah_H} {v0 : Option Nat} {v1 : Int32} {v2 : Int32} {v3 : Option Nat} : ah_val lim ah_P d 273 0 [some (.inr (.inr v0)), some (.inl v1), some (.inl v2), some (.inr (.inr v3)), none] [] h = ah_at h v0 0 fun _ _ => ah_cI (vc lim d 14 [.inr (.inr v0), .inl v1, .inl v2] h) (ah_hx lim d 273 5 [some (.inr (.inr v0)), some (.inl v1), some (.inl v2), some (.inr (.inr v3)), none] h) fun i2 h1 => ah_sI h1 v3 101 (0 : Int32) (.inr (.inl i2.toInt64)) fun h3 => some (.inl (some (.inl (0 : Int32))), h3) := by
  rw [ah_val_eq hM_273]
  rfl
set_option maxRecDepth 100000 in
theorem q_273_13 {lim : Nat × Nat} {d : Nat} {h : ah_H} {v0 : Option Nat} {v1 : Int32} {v2 : Int32} {v3 : Option Nat} {s0 : Option Nat} : ah_val lim ah_P d 273 13 [some (.inr (.inr v0)), some (.inl v1), some (.inl v2), some (.inr (.inr v3)), none] [.inr (.inr s0)] h = some (.inl (some (.inl (1 : Int32))), h) := by
  rw [ah_val_eq hM_273]
  rfl
theorem e_Law_waits {lim : Nat × Nat} {d : Nat} {h : ah_H} {v0 : Option Nat} {v1 : Int32} {v2 : Int32} {v3 : Option Nat} : vc lim (d + 1) m_Law_waits [.inr (.inr v0), .inl v1, .inl v2, .inr (.inr v3)] h = ah_at h v0 0 fun _ _ => ah_cI (vc lim d 14 [.inr (.inr v0), .inl v1, .inl v2] h) (ah_hx lim d 273 5 [some (.inr (.inr v0)), some (.inl v1), some (.inl v2), some (.inr (.inr v3)), none] h) fun i2 h1 => ah_sI h1 v3 101 (0 : Int32) (.inr (.inl i2.toInt64)) fun h3 => some (.inl (some (.inl (0 : Int32))), h3) := q_273_0
-- StepCodeLaw.until(LStepCode;I[J)I
set_option maxRecDepth 100000 in
theorem q_274_0 {lim : Nat × Nat} {d : Nat} {h : ah_H} {v0 : Option Nat} {v1 : Int32} {v2 : Option Nat} : ah_val lim ah_P d 274 0 [some (.inr (.inr v0)), some (.inl v1), some (.inr (.inr v2)), none] [] h = ah_at h v0 0 fun _ _ => ah_cJ (vc lim d 15 [.inr (.inr v0), .inl v1] h) (ah_hx lim d 274 4 [some (.inr (.inr v0)), some (.inl v1), some (.inr (.inr v2)), none] h) fun j2 h1 => ah_sI h1 v2 101 (0 : Int32) (.inr (.inl j2)) fun h3 => some (.inl (some (.inl (0 : Int32))), h3) := by
  rw [ah_val_eq hM_274]
  rfl
set_option maxRecDepth 100000 in
theorem q_274_11 {lim : Nat × Nat} {d : Nat} {h : ah_H} {v0 : Option Nat} {v1 : Int32} {v2 : Option Nat} {s0 : Option Nat} : ah_val lim ah_P d 274 11 [some (.inr (.inr v0)), some (.inl v1), some (.inr (.inr v2)), none] [.inr (.inr s0)] h = some (.inl (some (.inl (1 : Int32))), h) := by
  rw [ah_val_eq hM_274]
  rfl
theorem e_Law_until {lim : Nat × Nat} {d : Nat} {h : ah_H} {v0 : Option Nat} {v1 : Int32} {v2 : Option Nat} : vc lim (d + 1) m_Law_until [.inr (.inr v0), .inl v1, .inr (.inr v2)] h = ah_at h v0 0 fun _ _ => ah_cJ (vc lim d 15 [.inr (.inr v0), .inl v1] h) (ah_hx lim d 274 4 [some (.inr (.inr v0)), some (.inl v1), some (.inr (.inr v2)), none] h) fun j2 h1 => ah_sI h1 v2 101 (0 : Int32) (.inr (.inl j2)) fun h3 => some (.inl (some (.inl (0 : Int32))), h3) := q_274_0
-- StepCodeLaw.act(LStepCode;II[J)I
set_option maxRecDepth 100000 in
theorem q_275_0 {lim : Nat × Nat} {d : Nat} {h : ah_H} {v0 : Option Nat} {v1 : Int32} {v2 : Int32} {v3 : Option Nat} : ah_val lim ah_P d 275 0 [some (.inr (.inr v0)), some (.inl v1), some (.inl v2), some (.inr (.inr v3)), none] [] h = ah_at h v0 0 fun _ _ => ah_cI (vc lim d 17 [.inr (.inr v0), .inl v1, .inl v2] h) (ah_hx lim d 275 5 [some (.inr (.inr v0)), some (.inl v1), some (.inl v2), some (.inr (.inr v3)), none] h) fun i2 h1 => ah_sI h1 v3 101 (0 : Int32) (.inr (.inl i2.toInt64)) fun h3 => some (.inl (some (.inl (0 : Int32))), h3) := by
  rw [ah_val_eq hM_275]
  rfl
set_option maxRecDepth 100000 in
theorem q_275_13 {lim : Nat × Nat} {d : Nat} {h : ah_H} {v0 : Option Nat} {v1 : Int32} {v2 : Int32} {v3 : Option Nat} {s0 : Option Nat} : ah_val lim ah_P d 275 13 [some (.inr (.inr v0)), some (.inl v1), some (.inl v2), some (.inr (.inr v3)), none] [.inr (.inr s0)] h = some (.inl (some (.inl (1 : Int32))), h) := by
  rw [ah_val_eq hM_275]
  rfl
set_option maxRecDepth 100000 in
theorem q_275_17 {lim : Nat × Nat} {d : Nat} {h : ah_H} {v0 : Option Nat} {v1 : Int32} {v2 : Int32} {v3 : Option Nat} {s0 : Option Nat} : ah_val lim ah_P d 275 17 [some (.inr (.inr v0)), some (.inl v1), some (.inl v2), some (.inr (.inr v3)), none] [.inr (.inr s0)] h = some (.inl (some (.inl (2 : Int32))), h) := by
  rw [ah_val_eq hM_275]
  rfl
theorem e_Law_act {lim : Nat × Nat} {d : Nat} {h : ah_H} {v0 : Option Nat} {v1 : Int32} {v2 : Int32} {v3 : Option Nat} : vc lim (d + 1) m_Law_act [.inr (.inr v0), .inl v1, .inl v2, .inr (.inr v3)] h = ah_at h v0 0 fun _ _ => ah_cI (vc lim d 17 [.inr (.inr v0), .inl v1, .inl v2] h) (ah_hx lim d 275 5 [some (.inr (.inr v0)), some (.inl v1), some (.inl v2), some (.inr (.inr v3)), none] h) fun i2 h1 => ah_sI h1 v3 101 (0 : Int32) (.inr (.inl i2.toInt64)) fun h3 => some (.inl (some (.inl (0 : Int32))), h3) := q_275_0
-- StepCodeLaw.value(LStepCode;III[J)I
set_option maxRecDepth 100000 in
theorem q_276_0 {lim : Nat × Nat} {d : Nat} {h : ah_H} {v0 : Option Nat} {v1 : Int32} {v2 : Int32} {v3 : Int32} {v4 : Option Nat} : ah_val lim ah_P d 276 0 [some (.inr (.inr v0)), some (.inl v1), some (.inl v2), some (.inl v3), some (.inr (.inr v4)), none] [] h = ah_at h v0 0 fun _ _ => ah_cI (vc lim d 18 [.inr (.inr v0), .inl v1, .inl v2, .inl v3] h) (ah_hx lim d 276 7 [some (.inr (.inr v0)), some (.inl v1), some (.inl v2), some (.inl v3), some (.inr (.inr v4)), none] h) fun i2 h1 => ah_sI h1 v4 101 (0 : Int32) (.inr (.inl i2.toInt64)) fun h3 => some (.inl (some (.inl (0 : Int32))), h3) := by
  rw [ah_val_eq hM_276]
  rfl
set_option maxRecDepth 100000 in
theorem q_276_15 {lim : Nat × Nat} {d : Nat} {h : ah_H} {v0 : Option Nat} {v1 : Int32} {v2 : Int32} {v3 : Int32} {v4 : Option Nat} {s0 : Option Nat} : ah_val lim ah_P d 276 15 [some (.inr (.inr v0)), some (.inl v1), some (.inl v2), some (.inl v3), some (.inr (.inr v4)), none] [.inr (.inr s0)] h = some (.inl (some (.inl (1 : Int32))), h) := by
  rw [ah_val_eq hM_276]
  rfl
theorem e_Law_value {lim : Nat × Nat} {d : Nat} {h : ah_H} {v0 : Option Nat} {v1 : Int32} {v2 : Int32} {v3 : Int32} {v4 : Option Nat} : vc lim (d + 1) m_Law_value [.inr (.inr v0), .inl v1, .inl v2, .inl v3, .inr (.inr v4)] h = ah_at h v0 0 fun _ _ => ah_cI (vc lim d 18 [.inr (.inr v0), .inl v1, .inl v2, .inl v3] h) (ah_hx lim d 276 7 [some (.inr (.inr v0)), some (.inl v1), some (.inl v2), some (.inl v3), some (.inr (.inr v4)), none] h) fun i2 h1 => ah_sI h1 v4 101 (0 : Int32) (.inr (.inl i2.toInt64)) fun h3 => some (.inl (some (.inl (0 : Int32))), h3) := q_276_0
-- StepCodeLaw.delay(LStepCode;II[J)I
set_option maxRecDepth 100000 in
theorem q_277_0 {lim : Nat × Nat} {d : Nat} {h : ah_H} {v0 : Option Nat} {v1 : Int32} {v2 : Int32} {v3 : Option Nat} : ah_val lim ah_P d 277 0 [some (.inr (.inr v0)), some (.inl v1), some (.inl v2), some (.inr (.inr v3)), none] [] h = ah_at h v0 0 fun _ _ => ah_cJ (vc lim d 19 [.inr (.inr v0), .inl v1, .inl v2] h) (ah_hx lim d 277 5 [some (.inr (.inr v0)), some (.inl v1), some (.inl v2), some (.inr (.inr v3)), none] h) fun j2 h1 => ah_sI h1 v3 101 (0 : Int32) (.inr (.inl j2)) fun h3 => some (.inl (some (.inl (0 : Int32))), h3) := by
  rw [ah_val_eq hM_277]
  rfl
set_option maxRecDepth 100000 in
theorem q_277_12 {lim : Nat × Nat} {d : Nat} {h : ah_H} {v0 : Option Nat} {v1 : Int32} {v2 : Int32} {v3 : Option Nat} {s0 : Option Nat} : ah_val lim ah_P d 277 12 [some (.inr (.inr v0)), some (.inl v1), some (.inl v2), some (.inr (.inr v3)), none] [.inr (.inr s0)] h = some (.inl (some (.inl (1 : Int32))), h) := by
  rw [ah_val_eq hM_277]
  rfl
theorem e_Law_delay {lim : Nat × Nat} {d : Nat} {h : ah_H} {v0 : Option Nat} {v1 : Int32} {v2 : Int32} {v3 : Option Nat} : vc lim (d + 1) m_Law_delay [.inr (.inr v0), .inl v1, .inl v2, .inr (.inr v3)] h = ah_at h v0 0 fun _ _ => ah_cJ (vc lim d 19 [.inr (.inr v0), .inl v1, .inl v2] h) (ah_hx lim d 277 5 [some (.inr (.inr v0)), some (.inl v1), some (.inl v2), some (.inr (.inr v3)), none] h) fun j2 h1 => ah_sI h1 v3 101 (0 : Int32) (.inr (.inl j2)) fun h3 => some (.inl (some (.inl (0 : Int32))), h3) := q_277_0
-- StepCodeLaw.law([I)Z
set_option maxRecDepth 100000 in
theorem q_278_0 {lim : Nat × Nat} {d : Nat} {h : ah_H} {v0 : Option Nat} : ah_val lim ah_P d 278 0 [some (.inr (.inr v0)), none, none, none, none, none, none, none] [] h = ah_mk lim h (0, [.inr (.inr none), .inr (.inr none), .inr (.inr none), .inr (.inr none), .inl 0, .inl 0, .inr (.inr none), .inr (.inr none)]) 8 fun r1 h2 => ah_at h2 r1 0 fun _ _ => ah_cV (vc lim d 0 [.inr (.inr r1)] h2) (nx h2) fun h3 => ah_mk lim h3 (11, [.inl 0, .inr (.inr none), .inr (.inr none), .inr (.inr none), .inr (.inr none), .inr (.inr none), .inr (.inr none), .inl 0, .inl 0, .inl 0, .inr (.inr none), .inr (.inr none), .inr (.inr none), .inr (.inr none), .inr (.inr none), .inr (.inr none), .inr (.inr none), .inr (.inr none), .inr (.inr none), .inl 0, .inr (.inr none), .inl 0, .inl 0, .inl 0, .inr (.inr none), .inr (.inr none), .inr (.inr none), .inr (.inr none), .inr (.inr none), .inr (.inr none), .inr (.inr none), .inr (.inr none), .inr (.inr none), .inr (.inr none), .inr (.inr none), .inr (.inr none), .inr (.inr none), .inr (.inr none), .inr (.inr none), .inl 0, .inl 0, .inl 0, .inl 0, .inl 0, .inr (.inl 0), .inr (.inl 0), .inl 0, .inl 0, .inr (.inr none), .inr (.inr none), .inr (.inr none), .inr (.inr none), .inr (.inr none), .inr (.inr none), .inr (.inr none), .inr (.inr none)]) 56 fun r4 h5 => ah_at h5 r4 11 fun _ _ => ah_cV (vc lim d 22 [.inr (.inr r4)] h5) (nx h5) fun h6 => ah_mka lim h6 101 (.inr (.inl 0)) (1 : Int32) fun r7 h8 => ah_val lim ah_P d 278 23 [some (.inr (.inr v0)), some (.inr (.inr r1)), some (.inr (.inr r4)), some (.inr (.inr r7)), some (.inl (0 : Int32)), none, none, none] [] h8 := by
  rw [ah_val_eq hM_278]
  rfl
set_option maxRecDepth 100000 in
theorem q_278_23 {lim : Nat × Nat} {d : Nat} {h : ah_H} {v0 : Option Nat} {v1 : Option Nat} {v2 : Option Nat} {v3 : Option Nat} {v4 : Int32} : ah_val lim ah_P d 278 23 [some (.inr (.inr v0)), some (.inr (.inr v1)), some (.inr (.inr v2)), some (.inr (.inr v3)), some (.inl v4), none, none, none] [] h = ah_len h v0 fun n1 => if v4 ≤ (n1 - (5 : Int32)) then ah_lI h v0 104 v4 fun e2 => if (e2 &&& (31 : Int32)) = (0 : Int32) then ah_val lim ah_P d 278 128 [some (.inr (.inr v0)), some (.inr (.inr v1)), some (.inr (.inr v2)), some (.inr (.inr v3)), some (.inl v4), none, none, none] [] h else if (e2 &&& (31 : Int32)) = (1 : Int32) then ah_val lim ah_P d 278 180 [some (.inr (.inr v0)), some (.inr (.inr v1)), some (.inr (.inr v2)), some (.inr (.inr v3)), some (.inl v4), none, none, none] [] h else if (e2 &&& (31 : Int32)) = (2 : Int32) then ah_val lim ah_P d 278 232 [some (.inr (.inr v0)), some (.inr (.inr v1)), some (.inr (.inr v2)), some (.inr (.inr v3)), some (.inl v4), none, none, none] [] h else if (e2 &&& (31 : Int32)) = (3 : Int32) then ah_val lim ah_P d 278 284 [some (.inr (.inr v0)), some (.inr (.inr v1)), some (.inr (.inr v2)), some (.inr (.inr v3)), some (.inl v4), none, none, none] [] h else if (e2 &&& (31 : Int32)) = (4 : Int32) then ah_val lim ah_P d 278 300 [some (.inr (.inr v0)), some (.inr (.inr v1)), some (.inr (.inr v2)), some (.inr (.inr v3)), some (.inl v4), none, none, none] [] h else if (e2 &&& (31 : Int32)) = (5 : Int32) then ah_val lim ah_P d 278 313 [some (.inr (.inr v0)), some (.inr (.inr v1)), some (.inr (.inr v2)), some (.inr (.inr v3)), some (.inl v4), none, none, none] [] h else if (e2 &&& (31 : Int32)) = (6 : Int32) then ah_val lim ah_P d 278 390 [some (.inr (.inr v0)), some (.inr (.inr v1)), some (.inr (.inr v2)), some (.inr (.inr v3)), some (.inl v4), none, none, none] [] h else if (e2 &&& (31 : Int32)) = (7 : Int32) then ah_val lim ah_P d 278 471 [some (.inr (.inr v0)), some (.inr (.inr v1)), some (.inr (.inr v2)), some (.inr (.inr v3)), some (.inl v4), none, none, none] [] h else if (e2 &&& (31 : Int32)) = (8 : Int32) then ah_val lim ah_P d 278 511 [some (.inr (.inr v0)), some (.inr (.inr v1)), some (.inr (.inr v2)), some (.inr (.inr v3)), some (.inl v4), none, none, none] [] h else if (e2 &&& (31 : Int32)) = (9 : Int32) then ah_val lim ah_P d 278 572 [some (.inr (.inr v0)), some (.inr (.inr v1)), some (.inr (.inr v2)), some (.inr (.inr v3)), some (.inl v4), none, none, none] [] h else if (e2 &&& (31 : Int32)) = (10 : Int32) then ah_val lim ah_P d 278 624 [some (.inr (.inr v0)), some (.inr (.inr v1)), some (.inr (.inr v2)), some (.inr (.inr v3)), some (.inl v4), none, none, none] [] h else if (e2 &&& (31 : Int32)) = (11 : Int32) then ah_val lim ah_P d 278 664 [some (.inr (.inr v0)), some (.inr (.inr v1)), some (.inr (.inr v2)), some (.inr (.inr v3)), some (.inl v4), none, none, none] [] h else if (e2 &&& (31 : Int32)) = (12 : Int32) then ah_val lim ah_P d 278 692 [some (.inr (.inr v0)), some (.inr (.inr v1)), some (.inr (.inr v2)), some (.inr (.inr v3)), some (.inl v4), none, none, none] [] h else if (e2 &&& (31 : Int32)) = (13 : Int32) then ah_val lim ah_P d 278 732 [some (.inr (.inr v0)), some (.inr (.inr v1)), some (.inr (.inr v2)), some (.inr (.inr v3)), some (.inl v4), none, none, none] [] h else if (e2 &&& (31 : Int32)) = (14 : Int32) then ah_val lim ah_P d 278 772 [some (.inr (.inr v0)), some (.inr (.inr v1)), some (.inr (.inr v2)), some (.inr (.inr v3)), some (.inl v4), none, none, none] [] h else if (e2 &&& (31 : Int32)) = (15 : Int32) then ah_val lim ah_P d 278 800 [some (.inr (.inr v0)), some (.inr (.inr v1)), some (.inr (.inr v2)), some (.inr (.inr v3)), some (.inl v4), none, none, none] [] h else if (e2 &&& (31 : Int32)) = (16 : Int32) then ah_val lim ah_P d 278 813 [some (.inr (.inr v0)), some (.inr (.inr v1)), some (.inr (.inr v2)), some (.inr (.inr v3)), some (.inl v4), none, none, none] [] h else if (e2 &&& (31 : Int32)) = (17 : Int32) then ah_val lim ah_P d 278 853 [some (.inr (.inr v0)), some (.inr (.inr v1)), some (.inr (.inr v2)), some (.inr (.inr v3)), some (.inl v4), none, none, none] [] h else if (e2 &&& (31 : Int32)) = (18 : Int32) then ah_val lim ah_P d 278 905 [some (.inr (.inr v0)), some (.inr (.inr v1)), some (.inr (.inr v2)), some (.inr (.inr v3)), some (.inl v4), none, none, none] [] h else ah_val lim ah_P d 278 972 [some (.inr (.inr v0)), some (.inr (.inr v1)), some (.inr (.inr v2)), some (.inr (.inr v3)), some (.inl v4), none, none, none] [] h else if (1 : Int32) = 0 ∨ (1 : Int32) = 1 then some (.inl (some (.inl (1 : Int32))), h) else none := by
  rw [ah_val_eq hM_278]
  rfl
set_option maxRecDepth 100000 in
theorem q_278_128 {lim : Nat × Nat} {d : Nat} {h : ah_H} {v0 : Option Nat} {v1 : Option Nat} {v2 : Option Nat} {v3 : Option Nat} {v4 : Int32} : ah_val lim ah_P d 278 128 [some (.inr (.inr v0)), some (.inr (.inr v1)), some (.inr (.inr v2)), some (.inr (.inr v3)), some (.inl v4), none, none, none] [] h = ah_lI h v0 104 (v4 + (1 : Int32)) fun e1 => ah_lI h v0 104 (v4 + (2 : Int32)) fun e2 => ah_lI h v0 104 (v4 + (3 : Int32)) fun e3 => ah_cI (vc lim d 261 [.inr (.inr v1), .inl e1, .inl e2, .inl e3, .inr (.inr v3)] h) (nx h) fun i5 h4 => ah_lI h4 v0 104 (v4 + (1 : Int32)) fun e6 => ah_lI h4 v0 104 (v4 + (2 : Int32)) fun e7 => ah_lI h4 v0 104 (v4 + (3 : Int32)) fun e8 => ah_at h4 v2 11 fun _ _ => ah_cI (vc lim d 29 [.inr (.inr v2), .inl e6, .inl e7, .inl e8] h4) (nx h4) fun i10 h9 => ah_val lim ah_P d 278 972 [some (.inr (.inr v0)), some (.inr (.inr v1)), some (.inr (.inr v2)), some (.inr (.inr v3)), some (.inl v4), none, none, none] [] h9 := by
  rw [ah_val_eq hM_278]
  rfl
set_option maxRecDepth 100000 in
theorem q_278_180 {lim : Nat × Nat} {d : Nat} {h : ah_H} {v0 : Option Nat} {v1 : Option Nat} {v2 : Option Nat} {v3 : Option Nat} {v4 : Int32} : ah_val lim ah_P d 278 180 [some (.inr (.inr v0)), some (.inr (.inr v1)), some (.inr (.inr v2)), some (.inr (.inr v3)), some (.inl v4), none, none, none] [] h = ah_lI h v0 104 (v4 + (1 : Int32)) fun e1 => ah_lI h v0 104 (v4 + (2 : Int32)) fun e2 => ah_lI h v0 104 (v4 + (3 : Int32)) fun e3 => ah_cI (vc lim d 262 [.inr (.inr v1), .inl e1, .inl e2, .inl e3, .inr (.inr v3)] h) (nx h) fun i5 h4 => ah_lI h4 v0 104 (v4 + (1 : Int32)) fun e6 => ah_lI h4 v0 104 (v4 + (2 : Int32)) fun e7 => ah_lI h4 v0 104 (v4 + (3 : Int32)) fun e8 => ah_at h4 v2 11 fun _ _ => ah_cI (vc lim d 30 [.inr (.inr v2), .inl e6, .inl e7, .inl e8] h4) (nx h4) fun i10 h9 => ah_val lim ah_P d 278 972 [some (.inr (.inr v0)), some (.inr (.inr v1)), some (.inr (.inr v2)), some (.inr (.inr v3)), some (.inl v4), none, none, none] [] h9 := by
  rw [ah_val_eq hM_278]
  rfl
set_option maxRecDepth 100000 in
theorem q_278_232 {lim : Nat × Nat} {d : Nat} {h : ah_H} {v0 : Option Nat} {v1 : Option Nat} {v2 : Option Nat} {v3 : Option Nat} {v4 : Int32} : ah_val lim ah_P d 278 232 [some (.inr (.inr v0)), some (.inr (.inr v1)), some (.inr (.inr v2)), some (.inr (.inr v3)), some (.inl v4), none, none, none] [] h = ah_lI h v0 104 (v4 + (1 : Int32)) fun e1 => ah_lI h v0 104 (v4 + (2 : Int32)) fun e2 => ah_lI h v0 104 (v4 + (3 : Int32)) fun e3 => ah_cI (vc lim d 263 [.inr (.inr v1), .inl e1, .inl e2, .inl e3, .inr (.inr v3)] h) (nx h) fun i5 h4 => ah_lI h4 v0 104 (v4 + (1 : Int32)) fun e6 => ah_lI h4 v0 104 (v4 + (2 : Int32)) fun e7 => ah_lI h4 v0 104 (v4 + (3 : Int32)) fun e8 => ah_at h4 v2 11 fun _ _ => ah_cI (vc lim d 42 [.inr (.inr v2), .inl e6, .inl e7, .inl e8] h4) (nx h4) fun i10 h9 => ah_val lim ah_P d 278 972 [some (.inr (.inr v0)), some (.inr (.inr v1)), some (.inr (.inr v2)), some (.inr (.inr v3)), some (.inl v4), none, none, none] [] h9 := by
  rw [ah_val_eq hM_278]
  rfl
set_option maxRecDepth 100000 in
theorem q_278_284 {lim : Nat × Nat} {d : Nat} {h : ah_H} {v0 : Option Nat} {v1 : Option Nat} {v2 : Option Nat} {v3 : Option Nat} {v4 : Int32} : ah_val lim ah_P d 278 284 [some (.inr (.inr v0)), some (.inr (.inr v1)), some (.inr (.inr v2)), some (.inr (.inr v3)), some (.inl v4), none, none, none] [] h = ah_cI (vc lim d 264 [.inr (.inr v1), .inr (.inr v3)] h) (nx h) fun i2 h1 => ah_at h1 v2 11 fun _ _ => ah_cI (vc lim d 60 [.inr (.inr v2)] h1) (nx h1) fun i4 h3 => ah_val lim ah_P d 278 972 [some (.inr (.inr v0)), some (.inr (.inr v1)), some (.inr (.inr v2)), some (.inr (.inr v3)), some (.inl v4), none, none, none] [] h3 := by
  rw [ah_val_eq hM_278]
  rfl
set_option maxRecDepth 100000 in
theorem q_278_300 {lim : Nat × Nat} {d : Nat} {h : ah_H} {v0 : Option Nat} {v1 : Option Nat} {v2 : Option Nat} {v3 : Option Nat} {v4 : Int32} : ah_val lim ah_P d 278 300 [some (.inr (.inr v0)), some (.inr (.inr v1)), some (.inr (.inr v2)), some (.inr (.inr v3)), some (.inl v4), none, none, none] [] h = ah_at h v1 0 fun _ _ => ah_cI (vc lim d 5 [.inr (.inr v1)] h) (nx h) fun i2 h1 => ah_at h1 v2 11 fun _ _ => ah_cI (vc lim d 62 [.inr (.inr v2)] h1) (nx h1) fun i4 h3 => ah_val lim ah_P d 278 972 [some (.inr (.inr v0)), some (.inr (.inr v1)), some (.inr (.inr v2)), some (.inr (.inr v3)), some (.inl v4), none, none, none] [] h3 := by
  rw [ah_val_eq hM_278]
  rfl
set_option maxRecDepth 100000 in
theorem q_278_313 {lim : Nat × Nat} {d : Nat} {h : ah_H} {v0 : Option Nat} {v1 : Option Nat} {v2 : Option Nat} {v3 : Option Nat} {v4 : Int32} : ah_val lim ah_P d 278 313 [some (.inr (.inr v0)), some (.inr (.inr v1)), some (.inr (.inr v2)), some (.inr (.inr v3)), some (.inl v4), none, none, none] [] h = ah_lI h v0 104 (v4 + (1 : Int32)) fun e1 => ah_lI h v0 104 (v4 + (2 : Int32)) fun e2 => if e2 = 0 then ah_val lim ah_P d 278 334 [some (.inr (.inr v0)), some (.inr (.inr v1)), some (.inr (.inr v2)), some (.inr (.inr v3)), some (.inl v4), none, none, none] [.inl (0 : Int32), .inl e1, .inr (.inr v1)] h else ah_val lim ah_P d 278 334 [some (.inr (.inr v0)), some (.inr (.inr v1)), some (.inr (.inr v2)), some (.inr (.inr v3)), some (.inl v4), none, none, none] [.inl (1 : Int32), .inl e1, .inr (.inr v1)] h := by
  rw [ah_val_eq hM_278]
  rfl
set_option maxRecDepth 100000 in
theorem q_278_334 {lim : Nat × Nat} {d : Nat} {h : ah_H} {v0 : Option Nat} {v1 : Option Nat} {v2 : Option Nat} {v3 : Option Nat} {v4 : Int32} {s0 : Option Nat} {s1 : Int32} {s2 : Int32} : ah_val lim ah_P d 278 334 [some (.inr (.inr v0)), some (.inr (.inr v1)), some (.inr (.inr v2)), some (.inr (.inr v3)), some (.inl v4), none, none, none] [.inl s2, .inl s1, .inr (.inr s0)] h = ah_lI h v0 104 (v4 + (3 : Int32)) fun e1 => ah_lI h v0 104 (v4 + (4 : Int32)) fun e2 => ah_cI (vc lim d 265 [.inr (.inr s0), .inl s1, .inl s2, .inl e1, .inl e2] h) (nx h) fun i4 h3 => ah_lI h3 v0 104 (v4 + (1 : Int32)) fun e5 => ah_lI h3 v0 104 (v4 + (2 : Int32)) fun e6 => if e6 = 0 then ah_lI h3 v0 104 (v4 + (3 : Int32)) fun e7 => ah_lI h3 v0 104 (v4 + (4 : Int32)) fun e8 => ah_at h3 v2 11 fun _ _ => ah_cV (vc lim d 35 [.inr (.inr v2), .inl e5, .inl (0 : Int32), .inl e7, .inl e8] h3) (nx h3) fun h9 => ah_val lim ah_P d 278 972 [some (.inr (.inr v0)), some (.inr (.inr v1)), some (.inr (.inr v2)), some (.inr (.inr v3)), some (.inl v4), none, none, none] [] h9 else ah_lI h3 v0 104 (v4 + (3 : Int32)) fun e10 => ah_lI h3 v0 104 (v4 + (4 : Int32)) fun e11 => ah_at h3 v2 11 fun _ _ => ah_cV (vc lim d 35 [.inr (.inr v2), .inl e5, .inl (1 : Int32), .inl e10, .inl e11] h3) (nx h3) fun h12 => ah_val lim ah_P d 278 972 [some (.inr (.inr v0)), some (.inr (.inr v1)), some (.inr (.inr v2)), some (.inr (.inr v3)), some (.inl v4), none, none, none] [] h12 := by
  rw [ah_val_eq hM_278]
  rfl
set_option maxRecDepth 100000 in
theorem q_278_390 {lim : Nat × Nat} {d : Nat} {h : ah_H} {v0 : Option Nat} {v1 : Option Nat} {v2 : Option Nat} {v3 : Option Nat} {v4 : Int32} : ah_val lim ah_P d 278 390 [some (.inr (.inr v0)), some (.inr (.inr v1)), some (.inr (.inr v2)), some (.inr (.inr v3)), some (.inl v4), none, none, none] [] h = ah_lI h v0 104 (v4 + (1 : Int32)) fun e1 => ah_lI h v0 104 (v4 + (2 : Int32)) fun e2 => if e2 = 0 then ah_lI h v0 104 (v4 + (3 : Int32)) fun e3 => if e3 = 0 then ah_val lim ah_P d 278 425 [some (.inr (.inr v0)), some (.inr (.inr v1)), some (.inr (.inr v2)), some (.inr (.inr v3)), some (.inl v4), none, none, none] [.inl (0 : Int32), .inl (0 : Int32), .inl e1, .inr (.inr v1)] h else ah_val lim ah_P d 278 425 [some (.inr (.inr v0)), some (.inr (.inr v1)), some (.inr (.inr v2)), some (.inr (.inr v3)), some (.inl v4), none, none, none] [.inl (1 : Int32), .inl (0 : Int32), .inl e1, .inr (.inr v1)] h else ah_lI h v0 104 (v4 + (3 : Int32)) fun e4 => if e4 = 0 then ah_val lim ah_P d 278 425 [some (.inr (.inr v0)), some (.inr (.inr v1)), some (.inr (.inr v2)), some (.inr (.inr v3)), some (.inl v4), none, none, none] [.inl (0 : Int32), .inl (1 : Int32), .inl e1, .inr (.inr v1)] h else ah_val lim ah_P d 278 425 [some (.inr (.inr v0)), some (.inr (.inr v1)), some (.inr (.inr v2)), some (.inr (.inr v3)), some (.inl v4), none, none, none] [.inl (1 : Int32), .inl (1 : Int32), .inl e1, .inr (.inr v1)] h := by
  rw [ah_val_eq hM_278]
  rfl
set_option maxRecDepth 100000 in
theorem q_278_425 {lim : Nat × Nat} {d : Nat} {h : ah_H} {v0 : Option Nat} {v1 : Option Nat} {v2 : Option Nat} {v3 : Option Nat} {v4 : Int32} {s0 : Option Nat} {s1 : Int32} {s2 : Int32} {s3 : Int32} : ah_val lim ah_P d 278 425 [some (.inr (.inr v0)), some (.inr (.inr v1)), some (.inr (.inr v2)), some (.inr (.inr v3)), some (.inl v4), none, none, none] [.inl s3, .inl s2, .inl s1, .inr (.inr s0)] h = ah_cI (vc lim d 266 [.inr (.inr s0), .inl s1, .inl s2, .inl s3] h) (nx h) fun i2 h1 => ah_lI h1 v0 104 (v4 + (1 : Int32)) fun e3 => ah_lI h1 v0 104 (v4 + (2 : Int32)) fun e4 => if e4 = 0 then ah_lI h1 v0 104 (v4 + (3 : Int32)) fun e5 => if e5 = 0 then ah_at h1 v2 11 fun _ _ => ah_cV (vc lim d 36 [.inr (.inr v2), .inl e3, .inl (0 : Int32), .inl (0 : Int32)] h1) (nx h1) fun h6 => ah_val lim ah_P d 278 972 [some (.inr (.inr v0)), some (.inr (.inr v1)), some (.inr (.inr v2)), some (.inr (.inr v3)), some (.inl v4), none, none, none] [] h6 else ah_at h1 v2 11 fun _ _ => ah_cV (vc lim d 36 [.inr (.inr v2), .inl e3, .inl (0 : Int32), .inl (1 : Int32)] h1) (nx h1) fun h7 => ah_val lim ah_P d 278 972 [some (.inr (.inr v0)), some (.inr (.inr v1)), some (.inr (.inr v2)), some (.inr (.inr v3)), some (.inl v4), none, none, none] [] h7 else ah_lI h1 v0 104 (v4 + (3 : Int32)) fun e8 => if e8 = 0 then ah_at h1 v2 11 fun _ _ => ah_cV (vc lim d 36 [.inr (.inr v2), .inl e3, .inl (1 : Int32), .inl (0 : Int32)] h1) (nx h1) fun h9 => ah_val lim ah_P d 278 972 [some (.inr (.inr v0)), some (.inr (.inr v1)), some (.inr (.inr v2)), some (.inr (.inr v3)), some (.inl v4), none, none, none] [] h9 else ah_at h1 v2 11 fun _ _ => ah_cV (vc lim d 36 [.inr (.inr v2), .inl e3, .inl (1 : Int32), .inl (1 : Int32)] h1) (nx h1) fun h10 => ah_val lim ah_P d 278 972 [some (.inr (.inr v0)), some (.inr (.inr v1)), some (.inr (.inr v2)), some (.inr (.inr v3)), some (.inl v4), none, none, none] [] h10 := by
  rw [ah_val_eq hM_278]
  rfl
set_option maxRecDepth 100000 in
theorem q_278_471 {lim : Nat × Nat} {d : Nat} {h : ah_H} {v0 : Option Nat} {v1 : Option Nat} {v2 : Option Nat} {v3 : Option Nat} {v4 : Int32} : ah_val lim ah_P d 278 471 [some (.inr (.inr v0)), some (.inr (.inr v1)), some (.inr (.inr v2)), some (.inr (.inr v3)), some (.inl v4), none, none, none] [] h = ah_lI h v0 104 (v4 + (1 : Int32)) fun e1 => ah_lI h v0 104 (v4 + (2 : Int32)) fun e2 => ah_cI (vc lim d 267 [.inr (.inr v1), .inl e1, .inl e2, .inr (.inr v3)] h) (nx h) fun i4 h3 => ah_lI h3 v0 104 (v4 + (1 : Int32)) fun e5 => ah_lI h3 v0 104 (v4 + (2 : Int32)) fun e6 => ah_at h3 v2 11 fun _ _ => ah_cI (vc lim d 37 [.inr (.inr v2), .inl e5, .inl e6] h3) (nx h3) fun i8 h7 => ah_val lim ah_P d 278 972 [some (.inr (.inr v0)), some (.inr (.inr v1)), some (.inr (.inr v2)), some (.inr (.inr v3)), some (.inl v4), none, none, none] [] h7 := by
  rw [ah_val_eq hM_278]
  rfl
set_option maxRecDepth 100000 in
theorem q_278_511 {lim : Nat × Nat} {d : Nat} {h : ah_H} {v0 : Option Nat} {v1 : Option Nat} {v2 : Option Nat} {v3 : Option Nat} {v4 : Int32} : ah_val lim ah_P d 278 511 [some (.inr (.inr v0)), some (.inr (.inr v1)), some (.inr (.inr v2)), some (.inr (.inr v3)), some (.inl v4), none, none, none] [] h = ah_lI h v0 104 (v4 + (1 : Int32)) fun e1 => ah_lI h v0 104 (v4 + (2 : Int32)) fun e2 => ah_lI h v0 104 (v4 + (3 : Int32)) fun e3 => ah_lI h v0 104 (v4 + (4 : Int32)) fun e4 => ah_cI (vc lim d 268 [.inr (.inr v1), .inl e1, .inl e2, .inl e3, .inl e4] h) (nx h) fun i6 h5 => ah_lI h5 v0 104 (v4 + (1 : Int32)) fun e7 => ah_lI h5 v0 104 (v4 + (2 : Int32)) fun e8 => ah_lI h5 v0 104 (v4 + (3 : Int32)) fun e9 => ah_lI h5 v0 104 (v4 + (4 : Int32)) fun e10 => ah_at h5 v2 11 fun _ _ => ah_cV (vc lim d 40 [.inr (.inr v2), .inl e7, .inl e8, .inl e9, .inl e10] h5) (nx h5) fun h11 => ah_val lim ah_P d 278 972 [some (.inr (.inr v0)), some (.inr (.inr v1)), some (.inr (.inr v2)), some (.inr (.inr v3)), some (.inl v4), none, none, none] [] h11 := by
  rw [ah_val_eq hM_278]
  rfl
set_option maxRecDepth 100000 in
theorem q_278_572 {lim : Nat × Nat} {d : Nat} {h : ah_H} {v0 : Option Nat} {v1 : Option Nat} {v2 : Option Nat} {v3 : Option Nat} {v4 : Int32} : ah_val lim ah_P d 278 572 [some (.inr (.inr v0)), some (.inr (.inr v1)), some (.inr (.inr v2)), some (.inr (.inr v3)), some (.inl v4), none, none, none] [] h = ah_lI h v0 104 (v4 + (1 : Int32)) fun e1 => ah_lI h v0 104 (v4 + (2 : Int32)) fun e2 => ah_lI h v0 104 (v4 + (3 : Int32)) fun e3 => ah_cI (vc lim d 269 [.inr (.inr v1), .inl e1, .inl e2, .inl e3, .inr (.inr v3)] h) (nx h) fun i5 h4 => ah_lI h4 v0 104 (v4 + (1 : Int32)) fun e6 => ah_lI h4 v0 104 (v4 + (2 : Int32)) fun e7 => ah_lI h4 v0 104 (v4 + (3 : Int32)) fun e8 => ah_at h4 v2 11 fun _ _ => ah_cI (vc lim d 41 [.inr (.inr v2), .inl e6, .inl e7, .inl e8] h4) (nx h4) fun i10 h9 => ah_val lim ah_P d 278 972 [some (.inr (.inr v0)), some (.inr (.inr v1)), some (.inr (.inr v2)), some (.inr (.inr v3)), some (.inl v4), none, none, none] [] h9 := by
  rw [ah_val_eq hM_278]
  rfl
set_option maxRecDepth 100000 in
theorem q_278_624 {lim : Nat × Nat} {d : Nat} {h : ah_H} {v0 : Option Nat} {v1 : Option Nat} {v2 : Option Nat} {v3 : Option Nat} {v4 : Int32} : ah_val lim ah_P d 278 624 [some (.inr (.inr v0)), some (.inr (.inr v1)), some (.inr (.inr v2)), some (.inr (.inr v3)), some (.inl v4), none, none, none] [] h = ah_lI h v0 104 (v4 + (1 : Int32)) fun e1 => ah_lI h v0 104 (v4 + (2 : Int32)) fun e2 => ah_cI (vc lim d 270 [.inr (.inr v1), .inl e1, .inl e2, .inr (.inr v3)] h) (nx h) fun i4 h3 => ah_lI h3 v0 104 (v4 + (1 : Int32)) fun e5 => ah_lI h3 v0 104 (v4 + (2 : Int32)) fun e6 => ah_at h3 v2 11 fun _ _ => ah_cI (vc lim d 108 [.inr (.inr v2), .inl e5, .inl e6] h3) (nx h3) fun i8 h7 => ah_val lim ah_P d 278 972 [some (.inr (.inr v0)), some (.inr (.inr v1)), some (.inr (.inr v2)), some (.inr (.inr v3)), some (.inl v4), none, none, none] [] h7 := by
  rw [ah_val_eq hM_278]
  rfl
set_option maxRecDepth 100000 in
theorem q_278_664 {lim : Nat × Nat} {d : Nat} {h : ah_H} {v0 : Option Nat} {v1 : Option Nat} {v2 : Option Nat} {v3 : Option Nat} {v4 : Int32} : ah_val lim ah_P d 278 664 [some (.inr (.inr v0)), some (.inr (.inr v1)), some (.inr (.inr v2)), some (.inr (.inr v3)), some (.inl v4), none, none, none] [] h = ah_lI h v0 104 (v4 + (1 : Int32)) fun e1 => ah_cI (vc lim d 271 [.inr (.inr v1), .inl e1, .inr (.inr v3)] h) (nx h) fun i3 h2 => ah_lI h2 v0 104 (v4 + (1 : Int32)) fun e4 => ah_at h2 v2 11 fun _ _ => ah_cI (vc lim d 110 [.inr (.inr v2), .inl e4] h2) (nx h2) fun i6 h5 => ah_val lim ah_P d 278 972 [some (.inr (.inr v0)), some (.inr (.inr v1)), some (.inr (.inr v2)), some (.inr (.inr v3)), some (.inl v4), none, none, none] [] h5 := by
  rw [ah_val_eq hM_278]
  rfl
set_option maxRecDepth 100000 in
theorem q_278_692 {lim : Nat × Nat} {d : Nat} {h : ah_H} {v0 : Option Nat} {v1 : Option Nat} {v2 : Option Nat} {v3 : Option Nat} {v4 : Int32} : ah_val lim ah_P d 278 692 [some (.inr (.inr v0)), some (.inr (.inr v1)), some (.inr (.inr v2)), some (.inr (.inr v3)), some (.inl v4), none, none, none] [] h = ah_lI h v0 104 (v4 + (1 : Int32)) fun e1 => ah_lI h v0 104 (v4 + (2 : Int32)) fun e2 => ah_cI (vc lim d 272 [.inr (.inr v1), .inl e1, .inl e2, .inr (.inr v3)] h) (nx h) fun i4 h3 => ah_lI h3 v0 104 (v4 + (1 : Int32)) fun e5 => ah_lI h3 v0 104 (v4 + (2 : Int32)) fun e6 => ah_at h3 v2 11 fun _ _ => ah_cI (vc lim d 111 [.inr (.inr v2), .inl e5, .inl e6] h3) (nx h3) fun i8 h7 => ah_val lim ah_P d 278 972 [some (.inr (.inr v0)), some (.inr (.inr v1)), some (.inr (.inr v2)), some (.inr (.inr v3)), some (.inl v4), none, none, none] [] h7 := by
  rw [ah_val_eq hM_278]
  rfl
set_option maxRecDepth 100000 in
theorem q_278_732 {lim : Nat × Nat} {d : Nat} {h : ah_H} {v0 : Option Nat} {v1 : Option Nat} {v2 : Option Nat} {v3 : Option Nat} {v4 : Int32} : ah_val lim ah_P d 278 732 [some (.inr (.inr v0)), some (.inr (.inr v1)), some (.inr (.inr v2)), some (.inr (.inr v3)), some (.inl v4), none, none, none] [] h = ah_lI h v0 104 (v4 + (1 : Int32)) fun e1 => ah_lI h v0 104 (v4 + (2 : Int32)) fun e2 => ah_cI (vc lim d 273 [.inr (.inr v1), .inl e1, .inl e2, .inr (.inr v3)] h) (nx h) fun i4 h3 => ah_lI h3 v0 104 (v4 + (1 : Int32)) fun e5 => ah_lI h3 v0 104 (v4 + (2 : Int32)) fun e6 => ah_at h3 v2 11 fun _ _ => ah_cI (vc lim d 112 [.inr (.inr v2), .inl e5, .inl e6] h3) (nx h3) fun i8 h7 => ah_val lim ah_P d 278 972 [some (.inr (.inr v0)), some (.inr (.inr v1)), some (.inr (.inr v2)), some (.inr (.inr v3)), some (.inl v4), none, none, none] [] h7 := by
  rw [ah_val_eq hM_278]
  rfl
set_option maxRecDepth 100000 in
theorem q_278_772 {lim : Nat × Nat} {d : Nat} {h : ah_H} {v0 : Option Nat} {v1 : Option Nat} {v2 : Option Nat} {v3 : Option Nat} {v4 : Int32} : ah_val lim ah_P d 278 772 [some (.inr (.inr v0)), some (.inr (.inr v1)), some (.inr (.inr v2)), some (.inr (.inr v3)), some (.inl v4), none, none, none] [] h = ah_lI h v0 104 (v4 + (1 : Int32)) fun e1 => ah_cI (vc lim d 274 [.inr (.inr v1), .inl e1, .inr (.inr v3)] h) (nx h) fun i3 h2 => ah_lI h2 v0 104 (v4 + (1 : Int32)) fun e4 => ah_at h2 v2 11 fun _ _ => ah_cJ (vc lim d 113 [.inr (.inr v2), .inl e4] h2) (nx h2) fun j6 h5 => ah_val lim ah_P d 278 972 [some (.inr (.inr v0)), some (.inr (.inr v1)), some (.inr (.inr v2)), some (.inr (.inr v3)), some (.inl v4), none, none, none] [] h5 := by
  rw [ah_val_eq hM_278]
  rfl
set_option maxRecDepth 100000 in
theorem q_278_800 {lim : Nat × Nat} {d : Nat} {h : ah_H} {v0 : Option Nat} {v1 : Option Nat} {v2 : Option Nat} {v3 : Option Nat} {v4 : Int32} : ah_val lim ah_P d 278 800 [some (.inr (.inr v0)), some (.inr (.inr v1)), some (.inr (.inr v2)), some (.inr (.inr v3)), some (.inl v4), none, none, none] [] h = ah_at h v1 0 fun _ _ => ah_cI (vc lim d 16 [.inr (.inr v1)] h) (nx h) fun i2 h1 => ah_at h1 v2 11 fun _ _ => ah_cI (vc lim d 114 [.inr (.inr v2)] h1) (nx h1) fun i4 h3 => ah_val lim ah_P d 278 972 [some (.inr (.inr v0)), some (.inr (.inr v1)), some (.inr (.inr v2)), some (.inr (.inr v3)), some (.inl v4), none, none, none] [] h3 := by
  rw [ah_val_eq hM_278]
  rfl
set_option maxRecDepth 100000 in
theorem q_278_813 {lim : Nat × Nat} {d : Nat} {h : ah_H} {v0 : Option Nat} {v1 : Option Nat} {v2 : Option Nat} {v3 : Option Nat} {v4 : Int32} : ah_val lim ah_P d 278 813 [some (.inr (.inr v0)), some (.inr (.inr v1)), some (.inr (.inr v2)), some (.inr (.inr v3)), some (.inl v4), none, none, none] [] h = ah_lI h v0 104 (v4 + (1 : Int32)) fun e1 => ah_lI h v0 104 (v4 + (2 : Int32)) fun e2 => ah_cI (vc lim d 275 [.inr (.inr v1), .inl e1, .inl e2, .inr (.inr v3)] h) (nx h) fun i4 h3 => ah_lI h3 v0 104 (v4 + (1 : Int32)) fun e5 => ah_lI h3 v0 104 (v4 + (2 : Int32)) fun e6 => ah_at h3 v2 11 fun _ _ => ah_cI (vc lim d 115 [.inr (.inr v2), .inl e5, .inl e6] h3) (nx h3) fun i8 h7 => ah_val lim ah_P d 278 972 [some (.inr (.inr v0)), some (.inr (.inr v1)), some (.inr (.inr v2)), some (.inr (.inr v3)), some (.inl v4), none, none, none] [] h7 := by
  rw [ah_val_eq hM_278]
  rfl
set_option maxRecDepth 100000 in
theorem q_278_853 {lim : Nat × Nat} {d : Nat} {h : ah_H} {v0 : Option Nat} {v1 : Option Nat} {v2 : Option Nat} {v3 : Option Nat} {v4 : Int32} : ah_val lim ah_P d 278 853 [some (.inr (.inr v0)), some (.inr (.inr v1)), some (.inr (.inr v2)), some (.inr (.inr v3)), some (.inl v4), none, none, none] [] h = ah_lI h v0 104 (v4 + (1 : Int32)) fun e1 => ah_lI h v0 104 (v4 + (2 : Int32)) fun e2 => ah_lI h v0 104 (v4 + (3 : Int32)) fun e3 => ah_cI (vc lim d 276 [.inr (.inr v1), .inl e1, .inl e2, .inl e3, .inr (.inr v3)] h) (nx h) fun i5 h4 => ah_lI h4 v0 104 (v4 + (1 : Int32)) fun e6 => ah_lI h4 v0 104 (v4 + (2 : Int32)) fun e7 => ah_lI h4 v0 104 (v4 + (3 : Int32)) fun e8 => ah_at h4 v2 11 fun _ _ => ah_cI (vc lim d 117 [.inr (.inr v2), .inl e6, .inl e7, .inl e8] h4) (nx h4) fun i10 h9 => ah_val lim ah_P d 278 972 [some (.inr (.inr v0)), some (.inr (.inr v1)), some (.inr (.inr v2)), some (.inr (.inr v3)), some (.inl v4), none, none, none] [] h9 := by
  rw [ah_val_eq hM_278]
  rfl
set_option maxRecDepth 100000 in
theorem q_278_905 {lim : Nat × Nat} {d : Nat} {h : ah_H} {v0 : Option Nat} {v1 : Option Nat} {v2 : Option Nat} {v3 : Option Nat} {v4 : Int32} : ah_val lim ah_P d 278 905 [some (.inr (.inr v0)), some (.inr (.inr v1)), some (.inr (.inr v2)), some (.inr (.inr v3)), some (.inl v4), none, none, none] [] h = ah_lI h v0 104 (v4 + (1 : Int32)) fun e1 => ah_lI h v0 104 (v4 + (2 : Int32)) fun e2 => ah_cI (vc lim d 277 [.inr (.inr v1), .inl e1, .inl e2, .inr (.inr v3)] h) (nx h) fun i4 h3 => ah_lI h3 v0 104 (v4 + (1 : Int32)) fun e5 => ah_lI h3 v0 104 (v4 + (2 : Int32)) fun e6 => ah_at h3 v2 11 fun _ _ => ah_cJ (vc lim d 118 [.inr (.inr v2), .inl e5, .inl e6] h3) (nx h3) fun j8 h7 => ah_at h7 v2 11 fun _ _ => ah_cI (vc lim d 23 [.inr (.inr v2)] h7) (nx h7) fun i10 h9 => if i10 = i4 then if i4 = 0 then ah_lJ h9 v3 101 (0 : Int32) fun e11 => if (lg_cmp e11 j8) = 0 then ah_val lim ah_P d 278 972 [some (.inr (.inr v0)), some (.inr (.inr v1)), some (.inr (.inr v2)), some (.inr (.inr v3)), some (.inl v4), none, none, none] [] h9 else if (0 : Int32) = 0 ∨ (0 : Int32) = 1 then some (.inl (some (.inl (0 : Int32))), h9) else none else ah_val lim ah_P d 278 972 [some (.inr (.inr v0)), some (.inr (.inr v1)), some (.inr (.inr v2)), some (.inr (.inr v3)), some (.inl v4), none, none, none] [] h9 else if (0 : Int32) = 0 ∨ (0 : Int32) = 1 then some (.inl (some (.inl (0 : Int32))), h9) else none := by
  rw [ah_val_eq hM_278]
  rfl
set_option maxRecDepth 100000 in
theorem q_278_972 {lim : Nat × Nat} {d : Nat} {h : ah_H} {v0 : Option Nat} {v1 : Option Nat} {v2 : Option Nat} {v3 : Option Nat} {v4 : Int32} : ah_val lim ah_P d 278 972 [some (.inr (.inr v0)), some (.inr (.inr v1)), some (.inr (.inr v2)), some (.inr (.inr v3)), some (.inl v4), none, none, none] [] h = ah_val lim ah_P d 278 23 [some (.inr (.inr v0)), some (.inr (.inr v1)), some (.inr (.inr v2)), some (.inr (.inr v3)), some (.inl (v4 + (5 : Int32))), none, none, none] [] h := by
  rw [ah_val_eq hM_278]
  rfl
theorem e_Law_law {lim : Nat × Nat} {d : Nat} {h : ah_H} {v0 : Option Nat} : vc lim (d + 1) m_Law_law [.inr (.inr v0)] h = ah_mk lim h (0, [.inr (.inr none), .inr (.inr none), .inr (.inr none), .inr (.inr none), .inl 0, .inl 0, .inr (.inr none), .inr (.inr none)]) 8 fun r1 h2 => ah_at h2 r1 0 fun _ _ => ah_cV (vc lim d 0 [.inr (.inr r1)] h2) (nx h2) fun h3 => ah_mk lim h3 (11, [.inl 0, .inr (.inr none), .inr (.inr none), .inr (.inr none), .inr (.inr none), .inr (.inr none), .inr (.inr none), .inl 0, .inl 0, .inl 0, .inr (.inr none), .inr (.inr none), .inr (.inr none), .inr (.inr none), .inr (.inr none), .inr (.inr none), .inr (.inr none), .inr (.inr none), .inr (.inr none), .inl 0, .inr (.inr none), .inl 0, .inl 0, .inl 0, .inr (.inr none), .inr (.inr none), .inr (.inr none), .inr (.inr none), .inr (.inr none), .inr (.inr none), .inr (.inr none), .inr (.inr none), .inr (.inr none), .inr (.inr none), .inr (.inr none), .inr (.inr none), .inr (.inr none), .inr (.inr none), .inr (.inr none), .inl 0, .inl 0, .inl 0, .inl 0, .inl 0, .inr (.inl 0), .inr (.inl 0), .inl 0, .inl 0, .inr (.inr none), .inr (.inr none), .inr (.inr none), .inr (.inr none), .inr (.inr none), .inr (.inr none), .inr (.inr none), .inr (.inr none)]) 56 fun r4 h5 => ah_at h5 r4 11 fun _ _ => ah_cV (vc lim d 22 [.inr (.inr r4)] h5) (nx h5) fun h6 => ah_mka lim h6 101 (.inr (.inl 0)) (1 : Int32) fun r7 h8 => ah_val lim ah_P d 278 23 [some (.inr (.inr v0)), some (.inr (.inr r1)), some (.inr (.inr r4)), some (.inr (.inr r7)), some (.inl (0 : Int32)), none, none, none] [] h8 := q_278_0
