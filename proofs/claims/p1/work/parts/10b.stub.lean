abbrev vwCl : List vw_C := []
def lw_tbl : List Cond := tables_1
def q_y : Nat → MethodName := fun _ => ⟨"", "", ""⟩
def q_b : Nat → ByteArray := fun _ => ⟨#[]⟩
def q_nl : Nat → Nat := fun _ => 0
def q_rt : Nat → Option FieldType := fun _ => none
def q_np : Nat → Nat := fun _ => 0
def q_rc : Nat → Option Nat := fun _ => none
def q_nf : Nat → Nat := fun _ => 0
def q_ty : Nat → Nat → FieldType := fun _ _ => .int
def q_i : Nat → Nat → Option Instr := fun _ _ => none
def q_f : Nat → Nat → Option (Nat × Nat) := fun _ _ => none
def q_pf : Nat → Nat → Bool := fun _ _ => false
def q_ra : Nat → Bool := fun _ => false
def q_m : Nat → Nat → Option (Nat × Nat) := fun _ _ => none
def q_c : Nat → Nat → Option Nat := fun _ _ => none
def q_ca : Nat → Nat → Option Nat := fun _ _ => none
def q_th : Nat → Nat → Option String := fun _ _ => none
def q_h : Nat → Nat → String → Option (Nat × Nat) := fun _ _ _ => none
def q_W : List Cond := lw_tbl.filter goodWord
theorem q_cl_ok {ci : Nat} {C : String} {T : u_T} {N : Nat} (h : vwCl[ci]? = some (C, T, N)) : ci < 100 ∧ q_nf ci = N ∧ (∀ w ∈ u_ws C T N, w ∈ q_W) ∧ (∀ k, k < N → parseFieldDescriptor (T k).2.2.1 = some (q_ty ci k)) ∧ (∀ a, a < N → ∀ b, b < N → a ≠ b → (T a).2.1 ≠ (T b).2.1) := sorry
theorem q_f_ok {mid idx ci k : Nat} (h : q_f mid idx = some (ci, k)) : ∃ (C : String) (T : u_T) (N : Nat), vwCl[ci]? = some (C, T, N) ∧ k < N ∧ Cond.fieldLink (q_y mid).cls idx (T k).1 (T k).2.1 (T k).2.2.1 ∈ q_W := sorry
theorem q_pf_ok {mid idx ci k : Nat} {C : String} {T : u_T} {N : Nat} (h : q_f mid idx = some (ci, k)) (h2 : q_pf mid idx = true) (h3 : vwCl[ci]? = some (C, T, N)) : (T k).2.2.2 = false ∨ ((T k).2.2.2 = true ∧ (q_y mid).name = "<init>" ∧ (T k).1 = (q_y mid).cls) := sorry
theorem q_i_ok {mid pc : Nat} {i : Instr} (h : q_i mid pc = some i) : ∃ len, decode (q_b mid) pc = .ok (i, len) ∧ (m_len i = len ∨ m_len i = 0) := sorry
