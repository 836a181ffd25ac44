section
def m_stp (ro : MRo) (mid d : Nat) (i : Instr) (pc : Nat) (L : ML) (st : List MV) (w : MWd) : Option (Nat × ML × List MV × MWd) := match m_pure i pc (q_nl mid) L st with
  | some r => some (r.1, r.2.1, r.2.2, w)
  | none => match m_heap ro mid i st w with
    | some r => some (pc + m_len i, L, r.1, r.2)
    | none => match m_new mid i st w with
      | some r => some (pc + m_len i, L, r.1, r.2)
      | none => match m_ret mid i st with
        | some _ => none
        | none => match m_obj mid i st with
          | some st' => if d = 0 then none else some (pc + 3, L, st', w)
          | none => match m_con mid i with
            | some v => some (pc + m_len i, L, v :: st, w)
            | none => match m_cpy mid i st w with
              | some r => if d = 0 then none else some (pc + 3, L, r.1, r.2)
              | none => none
theorem m_run_stp {ro : MRo} {n mid d : Nat} {i : Instr} {pc : Nat} {L : ML} {st : List MV} {w : MWd} {r : Nat × ML × List MV × MWd} (hth : q_th mid pc = none) (hi : q_i mid pc = some i) (h : m_stp ro mid d i pc L st w = some r) : m_run ro (n + 1) d mid pc L st w = m_run ro n d mid r.1 r.2.1 r.2.2.1 r.2.2.2 := by
  unfold m_stp at h
  rw [m_run]
  rw [hth, hi]
  dsimp only
  split at h
  · rename_i h1; rw [h1]; cases h; rfl
  · rename_i h1; rw [h1]; dsimp only
    split at h
    · rename_i h2; rw [h2]; cases h; rfl
    · rename_i h2; rw [h2]; dsimp only
      split at h
      · rename_i h3; rw [h3]; cases h; rfl
      · rename_i h3; rw [h3]; dsimp only
        split at h
        · cases h
        · rename_i h4; rw [h4]; dsimp only
          split at h
          · rename_i h5; rw [h5]; dsimp only
            split at h
            · cases h
            · rename_i h6; rw [if_neg h6]; cases h; rfl
          · rename_i h5; rw [h5]; dsimp only
            split at h
            · rename_i h6; rw [h6]; cases h; rfl
            · rename_i h6; rw [h6]; dsimp only
              split at h
              · rename_i h7; rw [h7]; dsimp only
                split at h
                · cases h
                · rename_i h8; rw [if_neg h8]; cases h; rfl
              · cases h
section STP
variable {pc mid d : Nat} {ro : MRo} {i : Instr}
theorem m_stp_p {L : ML} {st : List MV} {w : MWd} {r : Nat × ML × List MV} (h : m_pure i pc (q_nl mid) L st = some r) : m_stp ro mid d i pc L st w = some (r.1, r.2.1, r.2.2, w) := by
  unfold m_stp; rw [h]
theorem m_stp_h {L : ML} {st : List MV} {w : MWd} {r : List MV × MWd} (h0 : m_pure i pc (q_nl mid) L st = none) (h : m_heap ro mid i st w = some r) : m_stp ro mid d i pc L st w = some (pc + m_len i, L, r.1, r.2) := by
  unfold m_stp; rw [h0, h]
theorem m_stp_n {L : ML} {st : List MV} {w : MWd} {r : List MV × MWd} (h0 : m_pure i pc (q_nl mid) L st = none) (h1 : m_heap ro mid i st w = none) (h : m_new mid i st w = some r) : m_stp ro mid d i pc L st w = some (pc + m_len i, L, r.1, r.2) := by
  unfold m_stp; rw [h0, h1, h]
theorem m_stp_o {L : ML} {st st' : List MV} {w : MWd} (h0 : m_pure i pc (q_nl mid) L st = none) (h1 : m_heap ro mid i st w = none) (h2 : m_new mid i st w = none) (h3 : m_ret mid i st = none) (h : m_obj mid i st = some st') (hd : d ≠ 0) : m_stp ro mid d i pc L st w = some (pc + 3, L, st', w) := by
  unfold m_stp; rw [h0, h1, h2, h3, h]; dsimp only; rw [if_neg hd]
theorem m_stp_c {L : ML} {st : List MV} {v : MV} {w : MWd} (h0 : m_pure i pc (q_nl mid) L st = none) (h1 : m_heap ro mid i st w = none) (h2 : m_new mid i st w = none) (h3 : m_ret mid i st = none) (h4 : m_obj mid i st = none) (h : m_con mid i = some v) : m_stp ro mid d i pc L st w = some (pc + m_len i, L, v :: st, w) := by
  unfold m_stp; rw [h0, h1, h2, h3, h4, h]
theorem m_stp_y {L : ML} {st : List MV} {w : MWd} {r : List MV × MWd} (h0 : m_pure i pc (q_nl mid) L st = none) (h1 : m_heap ro mid i st w = none) (h2 : m_new mid i st w = none) (h3 : m_ret mid i st = none) (h4 : m_obj mid i st = none) (h5 : m_con mid i = none) (h : m_cpy mid i st w = some r) (hd : d ≠ 0) : m_stp ro mid d i pc L st w = some (pc + 3, L, r.1, r.2) := by
  unfold m_stp; rw [h0, h1, h2, h3, h4, h5, h]; dsimp only; rw [if_neg hd]
theorem m_new_none {st : List MV} {w : MWd} (h1 : ∀ idx, i ≠ .new idx) (h2 : ∀ t, i ≠ .newarray t) (h3 : ∀ idx, i ≠ .anewarray idx) : m_new mid i st w = none := by
  unfold m_new
  split
  · split
    · exact absurd rfl (h1 _)
    · exact absurd rfl (h2 _)
    · exact absurd rfl (h3 _)
    · rfl
  · rfl
end STP
theorem m_run_up (ro : MRo) : ∀ (n d mid pc : Nat) (L : ML) (st : List MV) (w : MWd) (r : MOut × MWd), m_run ro n d mid pc L st w = some r → m_run ro (n + 1) d mid pc L st w = some r := by
  intro n
  induction n with
  | zero => intro d mid pc L st w r h; cases h
  | succ n ih =>
    intro d mid pc L st w r h
    rw [m_run] at h ⊢
    split at h
    · exact h
    split at h
    · cases h
    split at h
    · exact ih _ _ _ _ _ _ _ h
    split at h
    · exact ih _ _ _ _ _ _ _ h
    split at h
    · exact ih _ _ _ _ _ _ _ h
    split at h
    · exact h
    split at h
    · split at h
      · cases h
      · rename_i hd; rw [if_neg hd]; exact ih _ _ _ _ _ _ _ h
    split at h
    · exact ih _ _ _ _ _ _ _ h
    split at h
    · split at h
      · cases h
      · rename_i hd; rw [if_neg hd]; exact ih _ _ _ _ _ _ _ h
    split at h
    · cases h
    split at h
    · cases h
    split at h
    · cases h
    · rename_i h11
      rw [ih _ _ _ _ _ _ _ h11]
      exact ih _ _ _ _ _ _ _ h
    · rename_i h11
      rw [ih _ _ _ _ _ _ _ h11]
      dsimp only
      split at h
      · cases h
      · exact ih _ _ _ _ _ _ _ h
theorem m_run_le {ro : MRo} {n k d mid pc : Nat} {L : ML} {st : List MV} {w : MWd} {r : MOut × MWd} (h : m_run ro n d mid pc L st w = some r) (hk : n ≤ k) : m_run ro k d mid pc L st w = some r := by
  obtain ⟨j, rfl⟩ := Nat.exists_eq_add_of_le hk
  induction j with
  | zero => exact h
  | succ j ih => exact m_run_up ro _ _ _ _ _ _ _ _ (ih (Nat.le_add_right _ _))
/-- behind a call -/
def m_aft (ro : MRo) (n d mid pc : Nat) (L : ML) (rest : List MV) (w1 : MWd) : MOut → Option (MOut × MWd)
  | .inl v => m_run ro n d mid (pc + 3) L (v.toList ++ rest) w1
  | .inr E => match q_h mid pc E with
    | none => none
    | some hh => m_run ro n d mid hh.1 (m_drop L hh.2) [] w1
/-- the small machine at a call -/
theorem m_run_call {ro : MRo} {n d mid pc : Nat} {i : Instr} {L : ML} {st : List MV} {w : MWd} {z : Nat × List MV × List MV} {o : MOut} {w1 : MWd} (hth : q_th mid pc = none) (hi : q_i mid pc = some i) (hz : m_call mid i st w = some z)
    (hk : (∃ idx kd, i = .invokestatic idx ∧ q_m mid idx = some (z.1, kd) ∧ (kd = 1 ∨ kd = 3 ∨ kd = 7)) ∨ (∃ idx, i = .invokevirtual idx) ∨ (∃ idx kd, i = .invokespecial idx ∧ q_m mid idx = some (z.1, kd) ∧ (kd = 2 ∨ kd = 6)))
    (h1 : m_run ro n d z.1 0 (m_ent 0 z.2.1) [] w = some (o, w1)) : m_run ro (n + 1) (d + 1) mid pc L st w = m_aft ro n (d + 1) mid pc L z.2.2 w1 o := by
  have hp : m_pure i pc (q_nl mid) L st = none := by rcases hk with ⟨idx, kd, rfl, -⟩ | ⟨idx, rfl⟩ | ⟨idx, kd, rfl, -⟩ <;> rfl
  have hh : m_heap ro mid i st w = none := by rcases hk with ⟨idx, kd, rfl, -⟩ | ⟨idx, rfl⟩ | ⟨idx, kd, rfl, -⟩ <;> rfl
  have hn : m_new mid i st w = none := by
    rcases hk with ⟨idx, kd, rfl, -⟩ | ⟨idx, rfl⟩ | ⟨idx, kd, rfl, -⟩ <;> exact m_new_none (fun _ q => by cases q) (fun _ q => by cases q) (fun _ q => by cases q)
  have hr : m_ret mid i st = none := by rcases hk with ⟨idx, kd, rfl, -⟩ | ⟨idx, rfl⟩ | ⟨idx, kd, rfl, -⟩ <;> rfl
  have ho : m_obj mid i st = none := by
    rcases hk with ⟨idx, kd, rfl, hq, hkd⟩ | ⟨idx, rfl⟩ | ⟨idx, kd, rfl, hq, hkd⟩
    · rcases hkd with rfl | rfl | rfl <;> simp only [m_obj, hq]
    · rfl
    · rcases hkd with rfl | rfl <;> simp only [m_obj, hq]
  have hc : m_con mid i = none := by rcases hk with ⟨idx, kd, rfl, -⟩ | ⟨idx, rfl⟩ | ⟨idx, kd, rfl, -⟩ <;> rfl
  have hy : m_cpy mid i st w = none := by
    rcases hk with ⟨idx, kd, rfl, hq, hkd⟩ | ⟨idx, rfl⟩ | ⟨idx, kd, rfl, hq, hkd⟩
    · rcases hkd with rfl | rfl | rfl <;> simp only [m_cpy, hq]
    · rfl
    · rfl
  rw [m_run]
  rw [hth, hi]; dsimp only
  rw [hp]; dsimp only
  rw [hh]; dsimp only
  rw [hn]; dsimp only
  rw [hr]; dsimp only
  rw [ho]; dsimp only
  rw [hc]; dsimp only
  rw [hy]; dsimp only
  rw [hz]; dsimp only
  rw [h1]
  rcases o with v | E
  · rfl
  · rfl
theorem m_run_ret {ro : MRo} {n d mid pc : Nat} {i : Instr} {L : ML} {st : List MV} {w : MWd} {v : Option MV} (hth : q_th mid pc = none) (hi : q_i mid pc = some i) (hv : m_ret mid i st = some v) (hk : i = .return_ ∨ i = .ireturn ∨ i = .lreturn ∨ i = .areturn) : m_run ro (n + 1) d mid pc L st w = some (.inl v, w) := by
  have hp : m_pure i pc (q_nl mid) L st = none := by rcases hk with rfl | rfl | rfl | rfl <;> rfl
  have hh : m_heap ro mid i st w = none := by rcases hk with rfl | rfl | rfl | rfl <;> rfl
  have hn : m_new mid i st w = none := by
    rcases hk with rfl | rfl | rfl | rfl <;> exact m_new_none (fun _ q => by cases q) (fun _ q => by cases q) (fun _ q => by cases q)
  rw [m_run]
  rw [hth, hi]; dsimp only
  rw [hp]; dsimp only
  rw [hh]; dsimp only
  rw [hn]; dsimp only
  rw [hv]
end
section
def e_N : Nat := 214
def e_THIS : Nat := 8
def e_REF : Nat := 192
def e_OUT : Nat := 213
def e_C0 : Int := 206
def e_S0 : Int := 45815
def e_shL : List (List (Nat × Nat)) := [[(100, 0), (100, 4), (100, 4), (100, 8), (100, 8), (0, 0), (0, 0), (0, 0), (11, 10), (3, 5), (4, 8), (100, 40), (100, 40), (100, 40), (100, 40), (100, 320)],
  [(100, 320), (100, 320), (1, 6), (100, 240), (100, 240), (100, 160), (100, 40), (100, 40), (100, 40), (109, 40), (6, 8), (100, 10), (100, 10), (100, 10), (100, 12), (100, 12)],
  [(100, 120), (9, 4), (100, 12), (100, 12), (100, 403), (7, 5), (7, 5), (7, 5), (7, 5), (7, 5), (7, 5), (7, 5), (7, 5), (7, 5), (7, 5), (7, 5)],
  [(7, 5), (7, 5), (7, 5), (7, 5), (7, 5), (7, 5), (7, 5), (7, 5), (7, 5), (7, 5), (7, 5), (7, 5), (7, 5), (7, 5), (7, 5), (7, 5)],
  [(7, 5), (7, 5), (7, 5), (7, 5), (7, 5), (7, 5), (7, 5), (7, 5), (7, 5), (7, 5), (7, 5), (7, 5), (7, 5), (3, 5), (4, 8), (100, 40)],
  [(100, 40), (100, 40), (100, 40), (100, 320), (100, 320), (100, 320), (1, 6), (100, 240), (100, 240), (100, 160), (100, 40), (100, 40), (100, 40), (109, 40), (6, 8), (100, 10)],
  [(100, 10), (100, 10), (100, 12), (100, 12), (100, 120), (9, 4), (100, 12), (100, 12), (100, 403), (7, 5), (7, 5), (7, 5), (7, 5), (7, 5), (7, 5), (7, 5)],
  [(7, 5), (7, 5), (7, 5), (7, 5), (7, 5), (7, 5), (7, 5), (7, 5), (7, 5), (7, 5), (7, 5), (7, 5), (7, 5), (7, 5), (7, 5), (7, 5)],
  [(7, 5), (7, 5), (7, 5), (7, 5), (7, 5), (7, 5), (7, 5), (7, 5), (7, 5), (7, 5), (7, 5), (7, 5), (7, 5), (7, 5), (7, 5), (7, 5)],
  [(7, 5), (110, 8), (8, 7), (100, 120), (8, 7), (100, 120), (8, 7), (100, 120), (8, 7), (100, 120), (8, 7), (100, 120), (8, 7), (100, 120), (8, 7), (100, 120)],
  [(8, 7), (100, 120), (5, 16), (100, 120), (100, 120), (100, 121), (100, 120), (100, 120), (100, 120), (100, 120), (0, 19), (100, 7), (100, 40), (100, 40), (100, 40), (100, 160)],
  [(100, 40), (100, 240), (100, 240), (100, 4040), (100, 100), (100, 1000), (7, 5), (10, 4), (100, 31), (100, 31), (100, 31), (2, 4), (100, 81), (100, 9801), (100, 600), (100, 240)],
  [(12, 40), (100, 1330), (100, 1330), (100, 8), (100, 8), (100, 8), (100, 960), (100, 8), (100, 8), (100, 8), (100, 48), (100, 48), (100, 1330), (100, 1000), (100, 100), (100, 1024)],
  [(100, 1024), (100, 800), (100, 403), (100, 403), (100, 11737), (101, 1)]]
def e_sh (a : Nat) : Nat × Nat := (e_shL.getD (a / 16) []).getD (a % 16) (0, 0)
def e_grL : List (List (List Int)) := [[[], [], [], [], [], [], [], [], [9, 77, -1, 145, 162, 170, 182, 183, 187, 191], [10, 18, 25, 26, 33], [-1, 11, 12, 13, 14, 15, 16, 17], [], [], [], [], []],
  [[], [], [19, 20, 21, 22, 23, 24], [], [], [], [], [], [], [37, 38, 39, 40, 41, 42, 43, 44, 45, 46, 47, 48, 49, 50, 51, 52, 53, 54, 55, 56, 57, 58, 59, 60, 61, 62, 63, 64, 65, 66, 67, 68, 69, 70, 71, 72, 73, 74, 75, 76], [27, 28, 29, 30, 31, 32, -1, -1], [], [], [], [], []],
  [[], [34, 35, -1, 36], [], [], [], [], [], [], [], [], [], [], [], [], [], []],
  [[], [], [], [], [], [], [], [], [], [], [], [], [], [], [], []],
  [[], [], [], [], [], [], [], [], [], [], [], [], [], [78, 86, 93, 94, 101], [-1, 79, 80, 81, 82, 83, 84, 85], []],
  [[], [], [], [], [], [], [87, 88, 89, 90, 91, 92], [], [], [], [], [], [], [105, 106, 107, 108, 109, 110, 111, 112, 113, 114, 115, 116, 117, 118, 119, 120, 121, 122, 123, 124, 125, 126, 127, 128, 129, 130, 131, 132, 133, 134, 135, 136, 137, 138, 139, 140, 141, 142, 143, 144], [95, 96, 97, 98, 99, 100, -1, -1], []],
  [[], [], [], [], [], [102, 103, -1, 104], [], [], [], [], [], [], [], [], [], []],
  [[], [], [], [], [], [], [], [], [], [], [], [], [], [], [], []],
  [[], [], [], [], [], [], [], [], [], [], [], [], [], [], [], []],
  [[], [146, 148, 150, 152, 154, 156, 158, 160], [-1, -1, -1, -1, -1, -1, 147], [], [-1, -1, -1, -1, -1, -1, 149], [], [-1, -1, -1, -1, -1, -1, 151], [], [-1, -1, -1, -1, -1, -1, 153], [], [-1, -1, -1, -1, -1, -1, 155], [], [-1, -1, -1, -1, -1, -1, 157], [], [-1, -1, -1, -1, -1, -1, 159], []],
  [[-1, -1, -1, -1, -1, -1, 161], [], [-1, -1, -1, -1, -1, -1, -1, -1, -1, 163, 164, 165, 166, 167, 168, 169], [], [], [], [], [], [], [], [-1, -1, -1, 9, -1, -1, -1, -1, 171, 172, 173, 174, 175, 176, 177, 178, 179, 180, 181], [], [], [], [], []],
  [[], [], [], [], [], [], [], [-1, 184, 185, 186], [], [], [], [-1, 188, 189, 190], [], [], [], []],
  [[193, 194, 195, 196, 197, 198, 199, 200, 201, -1, -1, 202, 203, -1, -1, -1, -1, -1, -1, 204, -1, -1, -1, -1, -1, 205, 206, -1, -1, -1, -1, 207, 208, -1, -1, -1, 209, 210, 211, 212], [], [], [], [], [], [], [], [], [], [], [], [], [], [], []],
  [[], [], [], [], [], []]]
/-- the cells that hold objects, which never change -/
def e_gr (a k : Nat) : Int := ((e_grL.getD (a / 16) []).getD (a % 16) []).getD k (-1)
end
section
/-! THE TREES: what a method does from one label to the next, over whole numbers: a tree is an Int.Internal.Linear.Expr, read as code (its own meaning as a sum is not used).
Numbers stand for ints, longs, and for objects by their numbers (-1: null). -/
abbrev e_X : Type := Int.Internal.Linear.Expr
abbrev EM : Type := Nat → Nat → Int
abbrev EO : Type := Option (Int × EM)
def e_w (x : Int) : Int := (x + 2147483648) % 4294967296 - 2147483648
def e_W (x : Int) : Int := (x + 9223372036854775808) % 18446744073709551616 - 9223372036854775808
def e_up (M : EM) (a k : Nat) (v : Int) : EM := fun b => if b = a then (fun j => if j = k then v else M b j) else M b
/-- an array's size; that of the script is told by a cell of its own -/
def e_sz (M : EM) (a : Nat) : Nat := if a = 0 then (M 5 1).toNat else (e_sh a).2
def e_b1 (k : Nat) (a : Int) : Option Int := match k with
  | 1 => some a
  | 2 => some a
  | 3 => some a
  | 21 => some (e_w (-a))
  | 22 => some a
  | 23 => some (e_w a)
  | 24 => some ((a + 128) % 256 - 128)
  | 25 => some ((a + 32768) % 65536 - 32768)
  | 36 => some (if 0 ≤ a then a else e_w (0 - a))
  | 46 => some (if a = 0 then 1 else 0)
  | 47 => some (if a ≠ 0 then 1 else 0)
  | 48 => some (if a < 0 then 1 else 0)
  | 49 => some (if 0 ≤ a then 1 else 0)
  | 50 => some (if 0 < a then 1 else 0)
  | 51 => some (if a ≤ 0 then 1 else 0)
  | 52 => some (if a = -1 then 1 else 0)
  | 53 => some (if a ≠ -1 then 1 else 0)
  | _ => none
def e_bit (f : Int32 → Int32 → Int32) (a b : Int) : Int := (f (Int32.ofInt a) (Int32.ofInt b)).toInt
def e_b2 (k : Nat) (a b : Int) : Option Int := match k with
  | 10 => some (e_w (a + b))
  | 11 => some (e_w (a - b))
  | 12 => some (e_w (a * b))
  | 13 => if b = 0 then none else some (e_w (a.tdiv b))
  | 14 => if b = 0 then none else some (a.tmod b)
  | 15 => some (e_bit (fun x y => x &&& y) a b)
  | 16 => some (e_bit (fun x y => x ||| y) a b)
  | 17 => some (e_bit (fun x y => x ^^^ y) a b)
  | 18 => some (e_bit (fun x y => x <<< (y &&& 31)) a b)
  | 19 => some (e_bit (fun x y => x >>> (y &&& 31)) a b)
  | 20 => some (e_bit (fun x y => (x.toUInt32 >>> (y.toUInt32 &&& Int32.toUInt32 31)).toInt32) a b)
  | 30 => some (e_W (a + b))
  | 31 => some (e_W (a - b))
  | 32 => some (e_W (a * b))
  | 33 => if b = 0 then none else some (e_W (a.tdiv b))
  | 34 => some (if a < b then b else a)
  | 35 => some (if b < a then b else a)
  | 40 => some (if a = b then 1 else 0)
  | 41 => some (if a ≠ b then 1 else 0)
  | 42 => some (if a < b then 1 else 0)
  | 43 => some (if b ≤ a then 1 else 0)
  | 44 => some (if b < a then 1 else 0)
  | 45 => some (if a ≤ b then 1 else 0)
  | 54 => some (if a = b then 1 else 0)
  | 55 => some (if a ≠ b then 1 else 0)
  | 56 => some (if a < b then 1 else 0)
  | 57 => some (if b ≤ a then 1 else 0)
  | 58 => some (if b < a then 1 else 0)
  | 59 => some (if a ≤ b then 1 else 0)
  | _ => none
/-- a place of an array of a kind -/
abbrev e_in2 (M : EM) (kd : Nat) (a i : Int) : Prop := 0 ≤ a ∧ a.toNat < e_N ∧ (e_sh a.toNat).1 = kd ∧ 0 ≤ i ∧ i.toNat < e_sz M a.toNat
def e_op (k : Nat) (x : List Int) (M : EM) : Option Int := match x with
  | [a] => if k = 63 then (if 0 ≤ a ∧ a.toNat < e_N ∧ 100 ≤ (e_sh a.toNat).1 then some (e_sz M a.toNat : Int) else none) else e_b1 k a
  | [a, i] => if k = 60 then (if e_in2 M 100 a i then some (M a.toNat i.toNat) else none)
    else if k = 61 then (if e_in2 M 101 a i then some (M a.toNat i.toNat) else none)
    else if k = 62 then (if 0 ≤ a ∧ a.toNat < e_N ∧ 102 ≤ (e_sh a.toNat).1 ∧ 0 ≤ i ∧ i.toNat < e_sz M a.toNat then some (e_gr a.toNat i.toNat) else none)
    else e_b2 k a i
  | _ => none
/-- a field's kind of value: 0 int, 1 long, 2 object, 3 boolean -/
def e_fty (key : Nat) : Nat := match q_ty (key / 64) (key % 64) with
  | .int => 0
  | .boolean => 3
  | .long => 1
  | _ => 2
/-- an object of a class -/
abbrev e_isO (ci : Nat) (a : Int) : Prop := 8 ≤ a ∧ a.toNat < e_N ∧ (e_sh a.toNat).1 = ci
def e_gf (key : Nat) (x : List Int) (M : EM) : Option Int := match x with
  | [a] => if e_isO (key / 64) a then some (if e_fty key = 2 then e_gr a.toNat (key % 64) else M a.toNat (key % 64)) else none
  | _ => none
/-- what pushes values: numbers, locals, one behind the other, an operation on what was pushed (5000 and on: a call), a field's value, a choice (below 0: where the branch begins) -/
def e_ev (K : Nat → List Int → EM → EO) (L : List Int) : e_X → EM → Option (List Int × EM)
  | .num v, M => some ([v], M)
  | .var i, M => some ([L.getD i 0], M)
  | .add a b, M => (e_ev K L a M).bind fun r => (e_ev K L b r.2).bind fun q => some (r.1 ++ q.1, q.2)
  | .mulL k a, M => if k < 0 then e_ev K L a M else (e_ev K L a M).bind fun r => if 5000 ≤ k then (K (k.toNat - 5000) r.1 r.2).bind fun q => some ([q.1], q.2) else (e_op k.toNat r.1 r.2).bind fun v => some ([v], r.2)
  | .mulR a k, M => (e_ev K L a M).bind fun r => (e_gf k.toNat r.1 r.2).bind fun v => some ([v], r.2)
  | .sub c (.add a b), M => (e_ev K L c M).bind fun r => if r.1 = [0] then e_ev K L b r.2 else e_ev K L a r.2
  | _, _ => none
/-- a store into an array of a kind -/
def e_st (kd : Nat) (x : List Int) (M : EM) : Option EM := match x with
  | [a, i, v] => if 8 ≤ a ∧ e_in2 M kd a i then some (e_up M a.toNat i.toNat v) else none
  | _ => none
def e_pf (key : Nat) (x : List Int) (M : EM) : Option EM := match x with
  | [a, v] => if e_isO (key / 64) a ∧ e_fty key ≠ 2 then some (e_up M a.toNat (key % 64) v) else none
  | _ => none
def e_cpm (M : EM) (a0 sp a dp n : Nat) : EM := fun b j => if b = a ∧ dp ≤ j ∧ j < dp + n then M a0 (sp + (j - dp)) else M b j
/-- System.arraycopy of ints -/
def e_cp (x : List Int) (M : EM) : Option EM := match x with
  | [a0, sp, a, dp, n] => if e_isO 100 a ∧ e_isO 100 a0 ∧ 0 ≤ sp ∧ 0 ≤ dp ∧ 0 ≤ n ∧ sp + n ≤ (e_sh a0.toNat).2 ∧ dp + n ≤ (e_sh a.toNat).2 then
      some (e_cpm M a0.toNat sp.toNat a.toNat dp.toNat n.toNat) else none
  | _ => none
def e_sv (K : Nat → List Int → EM → EO) (s : e_X) (L : List Int) (M : EM) : Option (List Int × EM) := match s with
  | .mulL k e =>
    if k = 64 then (e_ev K L e M).bind fun r => (e_st 100 r.1 r.2).bind fun M' => some (L, M')
    else if k = 65 then (e_ev K L e M).bind fun r => (e_st 101 r.1 r.2).bind fun M' => some (L, M')
    else if k = 66 then (e_ev K L e M).bind fun r => (e_cp r.1 r.2).bind fun M' => some (L, M')
    else if k = 67 then match e with
      | .mulR (.add o x) key => (e_ev K L o M).bind fun r => (e_gf key.toNat r.1 r.2).bind fun u => (e_ev K L x r.2).bind fun q => (e_b2 10 u (q.1.getD 0 0)).bind fun z => (e_pf key.toNat (r.1 ++ [z]) q.2).bind fun M' => some (L, M')
      | _ => none
    else if k = 68 then match e with
      | .add ai x => (e_ev K L ai M).bind fun r => (e_op 60 r.1 r.2).bind fun u => (e_ev K L x r.2).bind fun q => (e_b2 10 u (q.1.getD 0 0)).bind fun z => (e_st 100 (r.1 ++ [z]) q.2).bind fun M' => some (L, M')
      | _ => none
    else if 100 ≤ k ∧ k < 200 then (e_ev K L e M).bind fun r => some (L.set (k.toNat - 100) (r.1.getD 0 0), r.2)
    else if 200 ≤ k ∧ k < 300 then match e with
      | .num c => some (L.set (k.toNat - 200) (e_w (L.getD (k.toNat - 200) 0 + c)), M)
      | _ => none
    else if 5000 ≤ k then (e_ev K L (.mulL k e) M).bind fun r => some (L, r.2)
    else none
  | .mulR e key => (e_ev K L e M).bind fun r => (e_pf key.toNat r.1 r.2).bind fun M' => some (L, M')
  | _ => none
/-- an answer beyond all longs is a throw -/
def e_TH : Int := 1180591620717411303424
/-- a row of labels -/
def e_nth : e_X → Nat → Nat
  | .add (.num c) t, n => if n = 0 then c.toNat else e_nth t (n - 1)
  | .num c, _ => c.toNat
  | _, _ => 0
def e_len : e_X → Nat
  | .add _ t => e_len t + 1
  | _ => 0
/-- statements up to the next label: K what a call does, J what happens from a label on -/
def e_tv (K : Nat → List Int → EM → EO) (J : Nat → List Int → EM → EO) : e_X → List Int → EM → EO
  | .mulL k e, L, M =>
    if k < 0 then e_tv K J e L M
    else if k = 1 then (e_ev K L e M).bind fun r => some (r.1.getD 0 0, r.2)
    else if k = 2 then some (0, M)
    else if k = 3 then (e_ev K L e M).bind fun r => some (e_TH + r.1.getD 0 0, e_up M 5 0 (M 5 0 + 1))
    else if k = 4 then (e_ev K L e M).bind fun r => J (r.1.getD 0 0).toNat L M
    else none
  | .sub c (.add a b), L, M => (e_ev K L c M).bind fun r => if r.1 = [0] then e_tv K J b L r.2 else e_tv K J a L r.2
  | .add s t, L, M => (e_sv K s L M).bind fun r => e_tv K J t r.1 r.2
  | .mulR (.add x (.add (.num lo) cs)) _, L, M => (e_ev K L x M).bind fun r => J (if r.1.getD 0 0 < lo ∨ lo + e_len cs ≤ r.1.getD 0 0 then e_nth cs (e_len cs) else e_nth cs (r.1.getD 0 0 - lo).toNat) L r.2
  | .neg (.add (.mulR (.add ai as) v) (.add t (.add h0 h1))), L, M => (e_ev K L ai M).bind fun r => (e_ev K L as r.2).bind fun q => (K v.toNat q.1 q.2).bind fun z =>
      if z.1 = e_TH then e_tv K J h0 L z.2 else if z.1 = e_TH + 1 then e_tv K J h1 L z.2 else (e_st 101 (r.1 ++ [z.1]) z.2).bind fun M' => e_tv K J t L M'
  | _, _, _ => none
end
