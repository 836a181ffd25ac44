abbrev vwCl : List vw_C := []
def lw_tbl : List Cond := tables_1
def q_y : Nat → MethodName := fun _ => ⟨"", "", ""⟩
def q_b : Nat → ByteArray := fun _ => ⟨#[]⟩
def q_nl : Nat → Nat := fun _ => 0
def q_rt : Nat → Option FieldType := fun _ => none
def q_np : Nat → Nat := fun _ => 0
def q_rc : Nat → Option Nat := fun _ => none
def q_nf : Nat → Nat := fun _ => 0
def q_ty : Nat → Nat → FieldType := fun _ _ => .int
def q_i : Nat → Nat → Option Instr := fun _ _ => none
def q_f : Nat → Nat → Option (Nat × Nat) := fun _ _ => none
def q_pf : Nat → Nat → Bool := fun _ _ => false
def q_ra : Nat → Bool := fun _ => false
def q_m : Nat → Nat → Option (Nat × Nat) := fun _ _ => none
def q_c : Nat → Nat → Option Nat := fun _ _ => none
def q_ca : Nat → Nat → Option Nat := fun _ _ => none
def q_th : Nat → Nat → Option String := fun _ _ => none
def q_h : Nat → Nat → String → Option (Nat × Nat) := fun _ _ _ => none
def q_W : List Cond := lw_tbl.filter goodWord
def q_tyok (ty : FieldType) : Bool := match ty with
  | .int | .boolean | .long | .object _ | .array _ => true
  | _ => false
theorem q_cl_ok {ci : Nat} {C : String} {T : u_T} {N : Nat} (h : vwCl[ci]? = some (C, T, N)) : ci < 100 ∧ q_nf ci = N ∧ (∀ w ∈ u_ws C T N, w ∈ q_W) ∧ (∀ k, k < N → parseFieldDescriptor (T k).2.2.1 = some (q_ty ci k)) ∧ (∀ a, a < N → ∀ b, b < N → a ≠ b → (T a).2.1 ≠ (T b).2.1) ∧ (∀ k, k < N → q_tyok (q_ty ci k) = true) := sorry
theorem q_f_ok {mid idx ci k : Nat} (h : q_f mid idx = some (ci, k)) : ∃ (C : String) (T : u_T) (N : Nat), vwCl[ci]? = some (C, T, N) ∧ k < N ∧ Cond.fieldLink (q_y mid).cls idx (T k).1 (T k).2.1 (T k).2.2.1 ∈ q_W := sorry
theorem q_pf_ok {mid idx ci k : Nat} {C : String} {T : u_T} {N : Nat} (h : q_f mid idx = some (ci, k)) (h2 : q_pf mid idx = true) (h3 : vwCl[ci]? = some (C, T, N)) : (T k).2.2.2 = false ∨ ((T k).2.2.2 = true ∧ (q_y mid).name = "<init>" ∧ (T k).1 = (q_y mid).cls) := sorry
theorem q_i_ok {mid pc : Nat} {i : Instr} (h : q_i mid pc = some i) : ∃ len, decode (q_b mid) pc = .ok (i, len) ∧ (m_len i = len ∨ m_len i = 0) := sorry
def q_k : Nat → Nat → Option MV := fun _ _ => none
def q_N : List (String × Nat × MethodName × String) := []
theorem q_c_ok {mid idx ci : Nat} (h : q_c mid idx = some ci) : ∃ (C : String) (T : u_T) (N : Nat), vwCl[ci]? = some (C, T, N) ∧ Cond.classLink (q_y mid).cls idx C ∈ q_W ∧ Cond.instantiable C N ∈ q_W ∧ Cond.initialized C ∈ q_W := sorry
theorem q_ca_ok {mid idx ci : Nat} (h : q_ca mid idx = some ci) : q_ra ci = true ∧ ∃ (C : String) (T : u_T) (N : Nat), vwCl[ci]? = some (C, T, N) ∧ Cond.classLink (q_y mid).cls idx C ∈ q_W := sorry
theorem q_ai_ok : Cond.arrayClass .int ∈ q_W ∧ Cond.arrayClass .long ∈ q_W := sorry
theorem q_k_ok {mid idx : Nat} {v : MV} (h : q_k mid idx = some v) : (∃ x, v = .inl x ∧ Cond.constant (q_y mid).cls idx x ∈ q_W) ∨ (∃ x, v = .inr (.inl x) ∧ Cond.constantLong (q_y mid).cls idx x ∈ q_W) := sorry
/-- what the words say of a method -/
def q_good (cm : Nat) : Prop := Cond.initialized (q_y cm).cls ∈ q_W ∧ ((q_y cm).cls ≠ "java/lang/invoke/MethodHandle" ∧ (q_y cm).cls ≠ "java/lang/invoke/VarHandle" ∧ (parseMethodDescriptor (q_y cm).desc).map (fun d => d.parameters.length) = some (q_np cm)) ∧ plainName (q_y cm).cls = true ∧ q_nl cm ≤ 45
theorem q_m_ok {mid idx cm kd : Nat} (h : q_m mid idx = some (cm, kd)) (h5 : kd ≠ 5) : q_good cm := sorry
theorem q_m_code {mid idx cm kd : Nat} (h : q_m mid idx = some (cm, kd)) (h5 : kd ≠ 5) (h7 : kd ≠ 7) : Cond.code (q_y cm) (q_b cm) (q_nl cm) (q_rt cm) ∈ q_W := sorry
theorem q_m0 {mid idx cm : Nat} (h : q_m mid idx = some (cm, 0)) : Cond.methodLink (q_y mid).cls idx (q_y cm) ∈ q_W ∧ Cond.instanceMethod (q_y cm) ∈ q_W ∧ Cond.selects (q_y cm).cls (q_y cm) (q_y cm) ∈ q_W ∧ ∃ (rc : Nat) (T : u_T) (N : Nat), q_rc cm = some rc ∧ vwCl[rc]? = some ((q_y cm).cls, T, N) := sorry
theorem q_m1 {mid idx cm : Nat} (h : q_m mid idx = some (cm, 1)) : Cond.methodLink (q_y mid).cls idx (q_y cm) ∈ q_W ∧ Cond.static (q_y cm) ∈ q_W := sorry
theorem q_m2 {mid idx cm : Nat} (h : q_m mid idx = some (cm, 2)) : (∃ host, ((q_y mid).cls, idx, q_y cm, host) ∈ q_N) ∧ Cond.instanceMethod (q_y cm) ∈ q_W ∧ (q_y cm).name = "<init>" ∧ q_rt cm = none := sorry
theorem q_m3 {mid idx cm : Nat} (h : q_m mid idx = some (cm, 3)) : (∃ host, ((q_y mid).cls, idx, q_y cm, host) ∈ q_N) ∧ Cond.static (q_y cm) ∈ q_W := sorry
theorem q_m5 {mid idx cm : Nat} (h : q_m mid idx = some (cm, 5)) : Cond.methodLink (q_y mid).cls idx Lib.objectInit ∈ q_W ∧ Cond.instanceMethod Lib.objectInit ∈ q_W ∧ Cond.code Lib.objectInit ⟨#[0xb1]⟩ 1 none ∈ q_W := sorry
theorem q_m6 {mid idx cm : Nat} (h : q_m mid idx = some (cm, 6)) : Cond.methodLink (q_y mid).cls idx (q_y cm) ∈ q_W ∧ Cond.instanceMethod (q_y cm) ∈ q_W ∧ (q_y cm).name = "<init>" ∧ q_rt cm = none := sorry
def q_hh : Nat → List (Nat × Nat × Nat × Nat) := fun _ => []
theorem q_nh {mid idx cm kd : Nat} (h : q_m mid idx = some (cm, kd)) (h7 : kd ≠ 7) (pc : Nat) (E : String) : q_h cm pc E = none := sorry
theorem q_m7 {mid idx cm : Nat} (h : q_m mid idx = some (cm, 7)) : Cond.methodLink (q_y mid).cls idx (q_y cm) ∈ q_W ∧ Cond.static (q_y cm) ∈ q_W ∧ Cond.codeWith (q_y cm) (q_b cm) (q_nl cm) (q_rt cm) (q_hh cm) ∈ q_W := sorry
theorem q_h_ok {mid pc : Nat} {E : String} {hh : Nat × Nat} (h : q_h mid pc E = some hh) : ∃ idx, q_i mid pc = some (.invokevirtual idx) := sorry
