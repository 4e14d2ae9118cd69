/-! THE ABSTRACT MACHINE: bytecode over a heap of numbered cells (kind, values). Own text. A value: an int, a long, or a reference (none: null). -/
abbrev AV : Type := Int32 ⊕ (Int64 ⊕ Option Nat)
/-- a cell: its kind (a class's number; 100.. an array; 200.. an exception), its values -/
abbrev ah_O : Type := Nat × List AV
/-- a heap: cells by address, the next address, the slots in use, how often it was written -/
abbrev ah_H : Type := (Nat → Option ah_O) × Nat × Nat × Nat
/-- how a method ends: it returned (a value or none), or threw (kind, address) -/
abbrev ah_R : Type := (Option AV ⊕ (Nat × Nat)) × ah_H
abbrev ah_L : Type := List (Option AV)
abbrev ah_K : Type := Nat → ah_L → List AV → ah_H → Option ah_R
abbrev ah_C : Type := Nat → List AV → ah_H → Option ah_R
def ah_lk {α : Type} : List (Nat × α) → Nat → Option α
  | [], _ => none
  | (k, v) :: t, q => bif Nat.beq k q then some v else ah_lk t q
/-- in chunks: (the first key that is too great, rows) -/
def ah_lkc {α : Type} : List (Nat × List (Nat × α)) → Nat → Option α
  | [], _ => none
  | (e, l) :: t, q => bif Nat.blt q e then ah_lk l q else ah_lkc t q
def ah_nth {α : Type} : List (Option α) → Nat → Option α
  | [], _ => none
  | x :: _, 0 => x
  | _ :: t, i + 1 => ah_nth t i
def ah_set {α : Type} (v : Option α) : List (Option α) → Nat → Option (List (Option α))
  | [], _ => none
  | _ :: t, 0 => some (v :: t)
  | x :: t, i + 1 => match ah_set v t i with
    | some t' => some (x :: t')
    | none => none
/-- a long at the place below is broken by a store -/
def ah_kill (L : ah_L) (i : Nat) : ah_L := match i with
  | 0 => L
  | j + 1 => match ah_nth L j with
    | some (.inr (.inl _)) => match ah_set none L j with
      | some L' => L'
      | none => L
    | _ => L
def ah_st1 {ρ : Type} (L : ah_L) (i : Nat) (v : AV) (K : ah_L → Option ρ) : Option ρ := match ah_set (some v) (ah_kill L i) i with
  | some L' => K L'
  | none => none
def ah_st2 {ρ : Type} (L : ah_L) (i : Nat) (v : AV) (K : ah_L → Option ρ) : Option ρ := match ah_set (some v) (ah_kill L i) i with
  | some L' => match ah_set none L' (i + 1) with
    | some L2 => K L2
    | none => none
  | none => none
/-- a cell becomes another one -/
def ah_up (h : ah_H) (a : Nat) (o : ah_O) : ah_H := (fun q => if q = a then some o else h.1 q, h.2.1, h.2.2.1, h.2.2.2 + 1)
/-- a new cell of n slots -/
def ah_new (h : ah_H) (o : ah_O) (n : Nat) : ah_H := (fun q => if q = h.2.1 then some o else h.1 q, h.2.1 + 1, h.2.2.1 + n, h.2.2.2)
/-- the values of the cell of that kind to which a reference leads -/
def ah_at {ρ : Type} (h : ah_H) (r : Option Nat) (kd : Nat) (K : Nat → List AV → Option ρ) : Option ρ := match r with
  | some a => match h.1 a with
    | some o => if o.1 = kd then K a o.2 else none
    | none => none
  | none => none
def ah_vI {ρ : Type} (v : Option AV) (K : Int32 → Option ρ) : Option ρ := match v with
  | some (.inl x) => K x
  | _ => none
def ah_vJ {ρ : Type} (v : Option AV) (K : Int64 → Option ρ) : Option ρ := match v with
  | some (.inr (.inl x)) => K x
  | _ => none
def ah_vR {ρ : Type} (v : Option AV) (K : Option Nat → Option ρ) : Option ρ := match v with
  | some (.inr (.inr x)) => K x
  | _ => none
def ah_gI {ρ : Type} (h : ah_H) (r : Option Nat) (kd k : Nat) (K : Int32 → Option ρ) : Option ρ := ah_at h r kd fun _ vs => ah_vI vs[k]? K
def ah_gJ {ρ : Type} (h : ah_H) (r : Option Nat) (kd k : Nat) (K : Int64 → Option ρ) : Option ρ := ah_at h r kd fun _ vs => ah_vJ vs[k]? K
def ah_gR {ρ : Type} (h : ah_H) (r : Option Nat) (kd k : Nat) (K : Option Nat → Option ρ) : Option ρ := ah_at h r kd fun _ vs => ah_vR vs[k]? K
def ah_wr {ρ : Type} (h : ah_H) (r : Option Nat) (kd k : Nat) (v : AV) (K : ah_H → Option ρ) : Option ρ := ah_at h r kd fun a vs => if k < vs.length then K (ah_up h a (kd, vs.set k v)) else none
/-- an array's element; its place must be there -/
def ah_ix {ρ : Type} (vs : List AV) (j : Int32) (K : Option AV → Option ρ) : Option ρ := if j < 0 then none else K vs[j.toNatClampNeg]?
def ah_lI {ρ : Type} (h : ah_H) (r : Option Nat) (kd : Nat) (j : Int32) (K : Int32 → Option ρ) : Option ρ := ah_at h r kd fun _ vs => ah_ix vs j fun v => ah_vI v K
def ah_lJ {ρ : Type} (h : ah_H) (r : Option Nat) (kd : Nat) (j : Int32) (K : Int64 → Option ρ) : Option ρ := ah_at h r kd fun _ vs => ah_ix vs j fun v => ah_vJ v K
/-- any array of references -/
def ah_atA {ρ : Type} (lo hi : Nat) (h : ah_H) (r : Option Nat) (K : Nat → Nat → List AV → Option ρ) : Option ρ := match r with
  | some a => match h.1 a with
    | some o => if lo ≤ o.1 ∧ o.1 < hi then K a o.1 o.2 else none
    | none => none
  | none => none
def ah_lR {ρ : Type} (h : ah_H) (r : Option Nat) (j : Int32) (K : Option Nat → Option ρ) : Option ρ := ah_atA 110 200 h r fun _ _ vs => ah_ix vs j fun v => ah_vR v K
def ah_len {ρ : Type} (h : ah_H) (r : Option Nat) (K : Int32 → Option ρ) : Option ρ := ah_atA 100 200 h r fun _ _ vs => K (Nat.toInt32 vs.length)
def ah_sx {ρ : Type} (h : ah_H) (a kd : Nat) (vs : List AV) (j : Int32) (v : AV) (K : ah_H → Option ρ) : Option ρ := if j < 0 then none else if j.toNatClampNeg < vs.length then K (ah_up h a (kd, vs.set j.toNatClampNeg v)) else none
def ah_sI {ρ : Type} (h : ah_H) (r : Option Nat) (kd : Nat) (j : Int32) (v : AV) (K : ah_H → Option ρ) : Option ρ := ah_at h r kd fun a vs => ah_sx h a kd vs j v K
/-- a reference into an array of references: null, or a cell of the very class -/
def ah_sR {ρ : Type} (h : ah_H) (r : Option Nat) (j : Int32) (v : Option Nat) (K : ah_H → Option ρ) : Option ρ := ah_atA 110 200 h r fun a kd vs => match v with
  | none => ah_sx h a kd vs j (.inr (.inr none)) K
  | some b => match h.1 b with
    | some o => if o.1 + 110 = kd then ah_sx h a kd vs j (.inr (.inr (some b))) K else none
    | none => none
/-- a new cell, if the room holds it (lim: the address that is too great, the slots at most) -/
def ah_mk {ρ : Type} (lim : Nat × Nat) (h : ah_H) (o : ah_O) (n : Nat) (K : Option Nat → ah_H → Option ρ) : Option ρ := if h.2.1 < lim.1 ∧ h.2.2.1 + n ≤ lim.2 then K (some h.2.1) (ah_new h o n) else none
/-- a new array -/
def ah_mka {ρ : Type} (lim : Nat × Nat) (h : ah_H) (kd : Nat) (v : AV) (n : Int32) (K : Option Nat → ah_H → Option ρ) : Option ρ := if n < 0 then none else if n.toNatClampNeg * 8 ≤ 536870912 then ah_mk lim h (kd, List.replicate n.toNatClampNeg v) n.toNatClampNeg K else none
/-- arguments off the stack, the first one first -/
def ah_pop : Nat → List AV → List AV → Option (List AV × List AV)
  | 0, acc, st => some (acc, st)
  | n + 1, acc, v :: st => ah_pop n (v :: acc) st
  | _ + 1, _, [] => none
/-- how a call goes on -/
def ah_cV {ρ : Type} (r : Option ah_R) (X : Nat × Nat → ah_H → Option ρ) (K : ah_H → Option ρ) : Option ρ := match r with
  | some (.inl none, h) => K h
  | some (.inr e, h) => X e h
  | _ => none
def ah_cI {ρ : Type} (r : Option ah_R) (X : Nat × Nat → ah_H → Option ρ) (K : Int32 → ah_H → Option ρ) : Option ρ := match r with
  | some (.inl (some (.inl x)), h) => K x h
  | some (.inr e, h) => X e h
  | _ => none
def ah_cJ {ρ : Type} (r : Option ah_R) (X : Nat × Nat → ah_H → Option ρ) (K : Int64 → ah_H → Option ρ) : Option ρ := match r with
  | some (.inl (some (.inr (.inl x))), h) => K x h
  | some (.inr e, h) => X e h
  | _ => none
def ah_cR {ρ : Type} (r : Option ah_R) (X : Nat × Nat → ah_H → Option ρ) (K : Option Nat → ah_H → Option ρ) : Option ρ := match r with
  | some (.inl (some (.inr (.inr x))), h) => K x h
  | some (.inr e, h) => X e h
  | _ => none
def ah_sw {ρ : Type} (x : Int32) (d : Nat) (K : Nat → Option ρ) : List (Int32 × Nat) → Option ρ
  | [] => K d
  | (c, t) :: r => if x = c then K t else ah_sw x d K r
def ah_nn {ρ : Type} (r : Option Nat) (K : Option ρ) : Option ρ := match r with
  | some _ => K
  | none => none
def ah_isI : AV → Bool
  | .inl _ => true
  | _ => false
/-- System.arraycopy over arrays of int -/
def ah_cp {ρ : Type} (h : ah_H) (r0 : Option Nat) (sp : Int32) (r1 : Option Nat) (dp n : Int32) (K : ah_H → Option ρ) : Option ρ := ah_at h r0 100 fun _ vs => ah_at h r1 100 fun b ws => if sp < 0 ∨ dp < 0 ∨ n < 0 ∨ vs.all ah_isI = false ∨ vs.length < sp.toNatClampNeg + n.toNatClampNeg ∨ ws.length < dp.toNatClampNeg + n.toNatClampNeg then none else K (ah_up h b (100, ws.take dp.toNatClampNeg ++ ((vs.drop sp.toNatClampNeg).take n.toNatClampNeg ++ ws.drop (dp.toNatClampNeg + n.toNatClampNeg))))
/-- clone of an array of int -/
def ah_cln {ρ : Type} (lim : Nat × Nat) (h : ah_H) (r : Option Nat) (K : Option Nat → ah_H → Option ρ) : Option ρ := ah_at h r 100 fun _ vs => ah_mk lim h (100, vs) vs.length K
