section
def m_stp (ro : MRo) (mid d : Nat) (i : Instr) (pc : Nat) (L : ML) (st : List MV) (w : MWd) : Option (Nat × ML × List MV × MWd) := match m_pure i pc (q_nl mid) L st with
  | some r => some (r.1, r.2.1, r.2.2, w)
  | none => match m_heap ro mid i st w with
    | some r => some (pc + m_len i, L, r.1, r.2)
    | none => match m_new mid i st w with
      | some r => some (pc + m_len i, L, r.1, r.2)
      | none => match m_ret mid i st with
        | some _ => none
        | none => match m_obj mid i st with
          | some st' => if d = 0 then none else some (pc + 3, L, st', w)
          | none => match m_con mid i with
            | some v => some (pc + m_len i, L, v :: st, w)
            | none => match m_cpy mid i st w with
              | some r => if d = 0 then none else some (pc + 3, L, r.1, r.2)
              | none => none
theorem m_run_stp {ro : MRo} {n mid d : Nat} {i : Instr} {pc : Nat} {L : ML} {st : List MV} {w : MWd} {r : Nat × ML × List MV × MWd} (hth : q_th mid pc = none) (hi : q_i mid pc = some i) (h : m_stp ro mid d i pc L st w = some r) : m_run ro (n + 1) d mid pc L st w = m_run ro n d mid r.1 r.2.1 r.2.2.1 r.2.2.2 := by
  unfold m_stp at h
  rw [m_run]
  rw [hth, hi]
  dsimp only
  split at h
  · rename_i h1; rw [h1]; cases h; rfl
  · rename_i h1; rw [h1]; dsimp only
    split at h
    · rename_i h2; rw [h2]; cases h; rfl
    · rename_i h2; rw [h2]; dsimp only
      split at h
      · rename_i h3; rw [h3]; cases h; rfl
      · rename_i h3; rw [h3]; dsimp only
        split at h
        · cases h
        · rename_i h4; rw [h4]; dsimp only
          split at h
          · rename_i h5; rw [h5]; dsimp only
            split at h
            · cases h
            · rename_i h6; rw [if_neg h6]; cases h; rfl
          · rename_i h5; rw [h5]; dsimp only
            split at h
            · rename_i h6; rw [h6]; cases h; rfl
            · rename_i h6; rw [h6]; dsimp only
              split at h
              · rename_i h7; rw [h7]; dsimp only
                split at h
                · cases h
                · rename_i h8; rw [if_neg h8]; cases h; rfl
              · cases h
section STP
variable {pc mid d : Nat} {ro : MRo} {i : Instr}
theorem m_stp_p {L : ML} {st : List MV} {w : MWd} {r : Nat × ML × List MV} (h : m_pure i pc (q_nl mid) L st = some r) : m_stp ro mid d i pc L st w = some (r.1, r.2.1, r.2.2, w) := by
  unfold m_stp; rw [h]
theorem m_stp_h {L : ML} {st : List MV} {w : MWd} {r : List MV × MWd} (h0 : m_pure i pc (q_nl mid) L st = none) (h : m_heap ro mid i st w = some r) : m_stp ro mid d i pc L st w = some (pc + m_len i, L, r.1, r.2) := by
  unfold m_stp; rw [h0, h]
theorem m_stp_n {L : ML} {st : List MV} {w : MWd} {r : List MV × MWd} (h0 : m_pure i pc (q_nl mid) L st = none) (h1 : m_heap ro mid i st w = none) (h : m_new mid i st w = some r) : m_stp ro mid d i pc L st w = some (pc + m_len i, L, r.1, r.2) := by
  unfold m_stp; rw [h0, h1, h]
theorem m_stp_o {L : ML} {st st' : List MV} {w : MWd} (h0 : m_pure i pc (q_nl mid) L st = none) (h1 : m_heap ro mid i st w = none) (h2 : m_new mid i st w = none) (h3 : m_ret mid i st = none) (h : m_obj mid i st = some st') (hd : d ≠ 0) : m_stp ro mid d i pc L st w = some (pc + 3, L, st', w) := by
  unfold m_stp; rw [h0, h1, h2, h3, h]; dsimp only; rw [if_neg hd]
theorem m_stp_c {L : ML} {st : List MV} {v : MV} {w : MWd} (h0 : m_pure i pc (q_nl mid) L st = none) (h1 : m_heap ro mid i st w = none) (h2 : m_new mid i st w = none) (h3 : m_ret mid i st = none) (h4 : m_obj mid i st = none) (h : m_con mid i = some v) : m_stp ro mid d i pc L st w = some (pc + m_len i, L, v :: st, w) := by
  unfold m_stp; rw [h0, h1, h2, h3, h4, h]
theorem m_stp_y {L : ML} {st : List MV} {w : MWd} {r : List MV × MWd} (h0 : m_pure i pc (q_nl mid) L st = none) (h1 : m_heap ro mid i st w = none) (h2 : m_new mid i st w = none) (h3 : m_ret mid i st = none) (h4 : m_obj mid i st = none) (h5 : m_con mid i = none) (h : m_cpy mid i st w = some r) (hd : d ≠ 0) : m_stp ro mid d i pc L st w = some (pc + 3, L, r.1, r.2) := by
  unfold m_stp; rw [h0, h1, h2, h3, h4, h5, h]; dsimp only; rw [if_neg hd]
theorem m_new_none {st : List MV} {w : MWd} (h1 : ∀ idx, i ≠ .new idx) (h2 : ∀ t, i ≠ .newarray t) (h3 : ∀ idx, i ≠ .anewarray idx) : m_new mid i st w = none := by
  unfold m_new
  split
  · split
    · exact absurd rfl (h1 _)
    · exact absurd rfl (h2 _)
    · exact absurd rfl (h3 _)
    · rfl
  · rfl
end STP
theorem m_run_up (ro : MRo) : ∀ (n d mid pc : Nat) (L : ML) (st : List MV) (w : MWd) (r : MOut × MWd), m_run ro n d mid pc L st w = some r → m_run ro (n + 1) d mid pc L st w = some r := by
  intro n
  induction n with
  | zero => intro d mid pc L st w r h; cases h
  | succ n ih =>
    intro d mid pc L st w r h
    rw [m_run] at h ⊢
    split at h
    · exact h
    split at h
    · cases h
    split at h
    · exact ih _ _ _ _ _ _ _ h
    split at h
    · exact ih _ _ _ _ _ _ _ h
    split at h
    · exact ih _ _ _ _ _ _ _ h
    split at h
    · exact h
    split at h
    · split at h
      · cases h
      · rename_i hd; rw [if_neg hd]; exact ih _ _ _ _ _ _ _ h
    split at h
    · exact ih _ _ _ _ _ _ _ h
    split at h
    · split at h
      · cases h
      · rename_i hd; rw [if_neg hd]; exact ih _ _ _ _ _ _ _ h
    split at h
    · cases h
    split at h
    · cases h
    split at h
    · cases h
    · rename_i h11
      rw [ih _ _ _ _ _ _ _ h11]
      exact ih _ _ _ _ _ _ _ h
    · rename_i h11
      rw [ih _ _ _ _ _ _ _ h11]
      dsimp only
      split at h
      · cases h
      · exact ih _ _ _ _ _ _ _ h
theorem m_run_le {ro : MRo} {n k d mid pc : Nat} {L : ML} {st : List MV} {w : MWd} {r : MOut × MWd} (h : m_run ro n d mid pc L st w = some r) (hk : n ≤ k) : m_run ro k d mid pc L st w = some r := by
  obtain ⟨j, rfl⟩ := Nat.exists_eq_add_of_le hk
  induction j with
  | zero => exact h
  | succ j ih => exact m_run_up ro _ _ _ _ _ _ _ _ (ih (Nat.le_add_right _ _))
/-- behind a call -/
def m_aft (ro : MRo) (n d mid pc : Nat) (L : ML) (rest : List MV) (w1 : MWd) : MOut → Option (MOut × MWd)
  | .inl v => m_run ro n d mid (pc + 3) L (v.toList ++ rest) w1
  | .inr E => match q_h mid pc E with
    | none => none
    | some hh => m_run ro n d mid hh.1 (m_drop L hh.2) [] w1
/-- the small machine at a call -/
theorem m_run_call {ro : MRo} {n d mid pc : Nat} {i : Instr} {L : ML} {st : List MV} {w : MWd} {z : Nat × List MV × List MV} {o : MOut} {w1 : MWd} (hth : q_th mid pc = none) (hi : q_i mid pc = some i) (hz : m_call mid i st w = some z)
    (hk : (∃ idx kd, i = .invokestatic idx ∧ q_m mid idx = some (z.1, kd) ∧ (kd = 1 ∨ kd = 3 ∨ kd = 7)) ∨ (∃ idx, i = .invokevirtual idx) ∨ (∃ idx kd, i = .invokespecial idx ∧ q_m mid idx = some (z.1, kd) ∧ (kd = 2 ∨ kd = 6)))
    (h1 : m_run ro n d z.1 0 (m_ent 0 z.2.1) [] w = some (o, w1)) : m_run ro (n + 1) (d + 1) mid pc L st w = m_aft ro n (d + 1) mid pc L z.2.2 w1 o := by
  have hp : m_pure i pc (q_nl mid) L st = none := by rcases hk with ⟨idx, kd, rfl, -⟩ | ⟨idx, rfl⟩ | ⟨idx, kd, rfl, -⟩ <;> rfl
  have hh : m_heap ro mid i st w = none := by rcases hk with ⟨idx, kd, rfl, -⟩ | ⟨idx, rfl⟩ | ⟨idx, kd, rfl, -⟩ <;> rfl
  have hn : m_new mid i st w = none := by
    rcases hk with ⟨idx, kd, rfl, -⟩ | ⟨idx, rfl⟩ | ⟨idx, kd, rfl, -⟩ <;> exact m_new_none (fun _ q => by cases q) (fun _ q => by cases q) (fun _ q => by cases q)
  have hr : m_ret mid i st = none := by rcases hk with ⟨idx, kd, rfl, -⟩ | ⟨idx, rfl⟩ | ⟨idx, kd, rfl, -⟩ <;> rfl
  have ho : m_obj mid i st = none := by
    rcases hk with ⟨idx, kd, rfl, hq, hkd⟩ | ⟨idx, rfl⟩ | ⟨idx, kd, rfl, hq, hkd⟩
    · rcases hkd with rfl | rfl | rfl <;> simp only [m_obj, hq]
    · rfl
    · rcases hkd with rfl | rfl <;> simp only [m_obj, hq]
  have hc : m_con mid i = none := by rcases hk with ⟨idx, kd, rfl, -⟩ | ⟨idx, rfl⟩ | ⟨idx, kd, rfl, -⟩ <;> rfl
  have hy : m_cpy mid i st w = none := by
    rcases hk with ⟨idx, kd, rfl, hq, hkd⟩ | ⟨idx, rfl⟩ | ⟨idx, kd, rfl, hq, hkd⟩
    · rcases hkd with rfl | rfl | rfl <;> simp only [m_cpy, hq]
    · rfl
    · rfl
  rw [m_run]
  rw [hth, hi]; dsimp only
  rw [hp]; dsimp only
  rw [hh]; dsimp only
  rw [hn]; dsimp only
  rw [hr]; dsimp only
  rw [ho]; dsimp only
  rw [hc]; dsimp only
  rw [hy]; dsimp only
  rw [hz]; dsimp only
  rw [h1]
  rcases o with v | E
  · rfl
  · rfl
theorem m_run_ret {ro : MRo} {n d mid pc : Nat} {i : Instr} {L : ML} {st : List MV} {w : MWd} {v : Option MV} (hth : q_th mid pc = none) (hi : q_i mid pc = some i) (hv : m_ret mid i st = some v) (hk : i = .return_ ∨ i = .ireturn ∨ i = .lreturn ∨ i = .areturn) : m_run ro (n + 1) d mid pc L st w = some (.inl v, w) := by
  have hp : m_pure i pc (q_nl mid) L st = none := by rcases hk with rfl | rfl | rfl | rfl <;> rfl
  have hh : m_heap ro mid i st w = none := by rcases hk with rfl | rfl | rfl | rfl <;> rfl
  have hn : m_new mid i st w = none := by
    rcases hk with rfl | rfl | rfl | rfl <;> exact m_new_none (fun _ q => by cases q) (fun _ q => by cases q) (fun _ q => by cases q)
  rw [m_run]
  rw [hth, hi]; dsimp only
  rw [hp]; dsimp only
  rw [hh]; dsimp only
  rw [hn]; dsimp only
  rw [hv]
end
section
def e_N : Nat := 214
def e_THIS : Nat := 8
def e_REF : Nat := 192
def e_OUT : Nat := 213
def e_C0 : Int := 206
def e_S0 : Int := 45815
def e_shL : List (List (Nat × Nat)) := [[(100, 0), (100, 4), (100, 4), (100, 8), (100, 8), (0, 0), (0, 0), (0, 0), (11, 10), (3, 5), (4, 8), (100, 40), (100, 40), (100, 40), (100, 40), (100, 320)],
  [(100, 320), (100, 320), (1, 6), (100, 240), (100, 240), (100, 160), (100, 40), (100, 40), (100, 40), (109, 40), (6, 8), (100, 10), (100, 10), (100, 10), (100, 12), (100, 12)],
  [(100, 120), (9, 4), (100, 12), (100, 12), (100, 403), (7, 5), (7, 5), (7, 5), (7, 5), (7, 5), (7, 5), (7, 5), (7, 5), (7, 5), (7, 5), (7, 5)],
  [(7, 5), (7, 5), (7, 5), (7, 5), (7, 5), (7, 5), (7, 5), (7, 5), (7, 5), (7, 5), (7, 5), (7, 5), (7, 5), (7, 5), (7, 5), (7, 5)],
  [(7, 5), (7, 5), (7, 5), (7, 5), (7, 5), (7, 5), (7, 5), (7, 5), (7, 5), (7, 5), (7, 5), (7, 5), (7, 5), (3, 5), (4, 8), (100, 40)],
  [(100, 40), (100, 40), (100, 40), (100, 320), (100, 320), (100, 320), (1, 6), (100, 240), (100, 240), (100, 160), (100, 40), (100, 40), (100, 40), (109, 40), (6, 8), (100, 10)],
  [(100, 10), (100, 10), (100, 12), (100, 12), (100, 120), (9, 4), (100, 12), (100, 12), (100, 403), (7, 5), (7, 5), (7, 5), (7, 5), (7, 5), (7, 5), (7, 5)],
  [(7, 5), (7, 5), (7, 5), (7, 5), (7, 5), (7, 5), (7, 5), (7, 5), (7, 5), (7, 5), (7, 5), (7, 5), (7, 5), (7, 5), (7, 5), (7, 5)],
  [(7, 5), (7, 5), (7, 5), (7, 5), (7, 5), (7, 5), (7, 5), (7, 5), (7, 5), (7, 5), (7, 5), (7, 5), (7, 5), (7, 5), (7, 5), (7, 5)],
  [(7, 5), (110, 8), (8, 7), (100, 120), (8, 7), (100, 120), (8, 7), (100, 120), (8, 7), (100, 120), (8, 7), (100, 120), (8, 7), (100, 120), (8, 7), (100, 120)],
  [(8, 7), (100, 120), (5, 16), (100, 120), (100, 120), (100, 121), (100, 120), (100, 120), (100, 120), (100, 120), (0, 19), (100, 7), (100, 40), (100, 40), (100, 40), (100, 160)],
  [(100, 40), (100, 240), (100, 240), (100, 4040), (100, 100), (100, 1000), (7, 5), (10, 4), (100, 31), (100, 31), (100, 31), (2, 4), (100, 81), (100, 9801), (100, 600), (100, 240)],
  [(12, 40), (100, 1330), (100, 1330), (100, 8), (100, 8), (100, 8), (100, 960), (100, 8), (100, 8), (100, 8), (100, 48), (100, 48), (100, 1330), (100, 1000), (100, 100), (100, 1024)],
  [(100, 1024), (100, 800), (100, 403), (100, 403), (100, 11737), (101, 1)]]
def e_sh (a : Nat) : Nat × Nat := (e_shL.getD (a / 16) []).getD (a % 16) (0, 0)
def e_grL : List (List (List Int)) := [[[], [], [], [], [], [], [], [], [9, 77, -1, 145, 162, 170, 182, 183, 187, 191], [10, 18, 25, 26, 33], [-1, 11, 12, 13, 14, 15, 16, 17], [], [], [], [], []],
  [[], [], [19, 20, 21, 22, 23, 24], [], [], [], [], [], [], [37, 38, 39, 40, 41, 42, 43, 44, 45, 46, 47, 48, 49, 50, 51, 52, 53, 54, 55, 56, 57, 58, 59, 60, 61, 62, 63, 64, 65, 66, 67, 68, 69, 70, 71, 72, 73, 74, 75, 76], [27, 28, 29, 30, 31, 32, -1, -1], [], [], [], [], []],
  [[], [34, 35, -1, 36], [], [], [], [], [], [], [], [], [], [], [], [], [], []],
  [[], [], [], [], [], [], [], [], [], [], [], [], [], [], [], []],
  [[], [], [], [], [], [], [], [], [], [], [], [], [], [78, 86, 93, 94, 101], [-1, 79, 80, 81, 82, 83, 84, 85], []],
  [[], [], [], [], [], [], [87, 88, 89, 90, 91, 92], [], [], [], [], [], [], [105, 106, 107, 108, 109, 110, 111, 112, 113, 114, 115, 116, 117, 118, 119, 120, 121, 122, 123, 124, 125, 126, 127, 128, 129, 130, 131, 132, 133, 134, 135, 136, 137, 138, 139, 140, 141, 142, 143, 144], [95, 96, 97, 98, 99, 100, -1, -1], []],
  [[], [], [], [], [], [102, 103, -1, 104], [], [], [], [], [], [], [], [], [], []],
  [[], [], [], [], [], [], [], [], [], [], [], [], [], [], [], []],
  [[], [], [], [], [], [], [], [], [], [], [], [], [], [], [], []],
  [[], [146, 148, 150, 152, 154, 156, 158, 160], [-1, -1, -1, -1, -1, -1, 147], [], [-1, -1, -1, -1, -1, -1, 149], [], [-1, -1, -1, -1, -1, -1, 151], [], [-1, -1, -1, -1, -1, -1, 153], [], [-1, -1, -1, -1, -1, -1, 155], [], [-1, -1, -1, -1, -1, -1, 157], [], [-1, -1, -1, -1, -1, -1, 159], []],
  [[-1, -1, -1, -1, -1, -1, 161], [], [-1, -1, -1, -1, -1, -1, -1, -1, -1, 163, 164, 165, 166, 167, 168, 169], [], [], [], [], [], [], [], [-1, -1, -1, 9, -1, -1, -1, -1, 171, 172, 173, 174, 175, 176, 177, 178, 179, 180, 181], [], [], [], [], []],
  [[], [], [], [], [], [], [], [-1, 184, 185, 186], [], [], [], [-1, 188, 189, 190], [], [], [], []],
  [[193, 194, 195, 196, 197, 198, 199, 200, 201, -1, -1, 202, 203, -1, -1, -1, -1, -1, -1, 204, -1, -1, -1, -1, -1, 205, 206, -1, -1, -1, -1, 207, 208, -1, -1, -1, 209, 210, 211, 212], [], [], [], [], [], [], [], [], [], [], [], [], [], [], []],
  [[], [], [], [], [], []]]
/-- the cells that hold objects, which never change -/
def e_gr (a k : Nat) : Int := ((e_grL.getD (a / 16) []).getD (a % 16) []).getD k (-1)
end
section
/-! THE TREES: what a method does from one label to the next, over whole numbers: a tree is an Int.Internal.Linear.Expr, read as code (its own meaning as a sum is not used).
Numbers stand for ints, longs, and for objects by their numbers (-1: null). -/
abbrev e_X : Type := Int.Internal.Linear.Expr
abbrev EM : Type := Nat → Nat → Int
abbrev EO : Type := Option (Int × EM)
def e_w (x : Int) : Int := (x + 2147483648) % 4294967296 - 2147483648
def e_W (x : Int) : Int := (x + 9223372036854775808) % 18446744073709551616 - 9223372036854775808
def e_up (M : EM) (a k : Nat) (v : Int) : EM := fun b => if b = a then (fun j => if j = k then v else M b j) else M b
/-- an array's size; that of the script is told by a cell of its own -/
def e_sz (M : EM) (a : Nat) : Nat := if a = 0 then (M 5 1).toNat else (e_sh a).2
def e_b1 (k : Nat) (a : Int) : Option Int := match k with
  | 1 => some a
  | 2 => some a
  | 3 => some a
  | 21 => some (e_w (-a))
  | 22 => some a
  | 23 => some (e_w a)
  | 24 => some ((a + 128) % 256 - 128)
  | 25 => some ((a + 32768) % 65536 - 32768)
  | 36 => some (if 0 ≤ a then a else e_w (0 - a))
  | 46 => some (if a = 0 then 1 else 0)
  | 47 => some (if a ≠ 0 then 1 else 0)
  | 48 => some (if a < 0 then 1 else 0)
  | 49 => some (if 0 ≤ a then 1 else 0)
  | 50 => some (if 0 < a then 1 else 0)
  | 51 => some (if a ≤ 0 then 1 else 0)
  | 52 => some (if a = -1 then 1 else 0)
  | 53 => some (if a ≠ -1 then 1 else 0)
  | _ => none
def e_bit (f : Int32 → Int32 → Int32) (a b : Int) : Int := (f (Int32.ofInt a) (Int32.ofInt b)).toInt
def e_b2 (k : Nat) (a b : Int) : Option Int := match k with
  | 10 => some (e_w (a + b))
  | 11 => some (e_w (a - b))
  | 12 => some (e_w (a * b))
  | 13 => if b = 0 then none else some (e_w (a.tdiv b))
  | 14 => if b = 0 then none else some (a.tmod b)
  | 15 => some (e_bit (fun x y => x &&& y) a b)
  | 16 => some (e_bit (fun x y => x ||| y) a b)
  | 17 => some (e_bit (fun x y => x ^^^ y) a b)
  | 18 => some (e_bit (fun x y => x <<< (y &&& 31)) a b)
  | 19 => some (e_bit (fun x y => x >>> (y &&& 31)) a b)
  | 20 => some (e_bit (fun x y => (x.toUInt32 >>> (y.toUInt32 &&& Int32.toUInt32 31)).toInt32) a b)
  | 30 => some (e_W (a + b))
  | 31 => some (e_W (a - b))
  | 32 => some (e_W (a * b))
  | 33 => if b = 0 then none else some (e_W (a.tdiv b))
  | 34 => some (if a < b then b else a)
  | 35 => some (if b < a then b else a)
  | 40 => some (if a = b then 1 else 0)
  | 41 => some (if a ≠ b then 1 else 0)
  | 42 => some (if a < b then 1 else 0)
  | 43 => some (if b ≤ a then 1 else 0)
  | 44 => some (if b < a then 1 else 0)
  | 45 => some (if a ≤ b then 1 else 0)
  | 54 => some (if a = b then 1 else 0)
  | 55 => some (if a ≠ b then 1 else 0)
  | 56 => some (if a < b then 1 else 0)
  | 57 => some (if b ≤ a then 1 else 0)
  | 58 => some (if b < a then 1 else 0)
  | 59 => some (if a ≤ b then 1 else 0)
  | _ => none
/-- a place of an array of a kind -/
abbrev e_in2 (M : EM) (kd : Nat) (a i : Int) : Prop := 0 ≤ a ∧ a.toNat < e_N ∧ (e_sh a.toNat).1 = kd ∧ 0 ≤ i ∧ i.toNat < e_sz M a.toNat
def e_op (k : Nat) (x : List Int) (M : EM) : Option Int := match x with
  | [a] => if k = 63 then (if 0 ≤ a ∧ a.toNat < e_N ∧ 100 ≤ (e_sh a.toNat).1 then some (e_sz M a.toNat : Int) else none) else e_b1 k a
  | [a, i] => if k = 60 then (if e_in2 M 100 a i then some (M a.toNat i.toNat) else none)
    else if k = 61 then (if e_in2 M 101 a i then some (M a.toNat i.toNat) else none)
    else if k = 62 then (if 0 ≤ a ∧ a.toNat < e_N ∧ 102 ≤ (e_sh a.toNat).1 ∧ 0 ≤ i ∧ i.toNat < e_sz M a.toNat then some (e_gr a.toNat i.toNat) else none)
    else e_b2 k a i
  | _ => none
/-- a field's kind of value: 0 int, 1 long, 2 object, 3 boolean -/
def e_fty (key : Nat) : Nat := match q_ty (key / 64) (key % 64) with
  | .int => 0
  | .boolean => 3
  | .long => 1
  | _ => 2
/-- an object of a class -/
abbrev e_isO (ci : Nat) (a : Int) : Prop := 8 ≤ a ∧ a.toNat < e_N ∧ (e_sh a.toNat).1 = ci
def e_gf (key : Nat) (x : List Int) (M : EM) : Option Int := match x with
  | [a] => if e_isO (key / 64) a then some (if e_fty key = 2 then e_gr a.toNat (key % 64) else M a.toNat (key % 64)) else none
  | _ => none
/-- what pushes values: numbers, locals, one behind the other, an operation on what was pushed (5000 and on: a call), a field's value, a choice (below 0: where the branch begins) -/
def e_ev (K : Nat → List Int → EM → EO) (L : List Int) : e_X → EM → Option (List Int × EM)
  | .num v, M => some ([v], M)
  | .var i, M => some ([L.getD i 0], M)
  | .add a b, M => (e_ev K L a M).bind fun r => (e_ev K L b r.2).bind fun q => some (r.1 ++ q.1, q.2)
  | .mulL k a, M => if k < 0 then e_ev K L a M else (e_ev K L a M).bind fun r => if 5000 ≤ k then (K (k.toNat - 5000) r.1 r.2).bind fun q => some ([q.1], q.2) else (e_op k.toNat r.1 r.2).bind fun v => some ([v], r.2)
  | .mulR a k, M => (e_ev K L a M).bind fun r => (e_gf k.toNat r.1 r.2).bind fun v => some ([v], r.2)
  | .sub c (.add a b), M => (e_ev K L c M).bind fun r => if r.1 = [0] then e_ev K L b r.2 else e_ev K L a r.2
  | _, _ => none
/-- a store into an array of a kind -/
def e_st (kd : Nat) (x : List Int) (M : EM) : Option EM := match x with
  | [a, i, v] => if 8 ≤ a ∧ e_in2 M kd a i then some (e_up M a.toNat i.toNat v) else none
  | _ => none
def e_pf (key : Nat) (x : List Int) (M : EM) : Option EM := match x with
  | [a, v] => if e_isO (key / 64) a ∧ e_fty key ≠ 2 then some (e_up M a.toNat (key % 64) v) else none
  | _ => none
def e_cpm (M : EM) (a0 sp a dp n : Nat) : EM := fun b j => if b = a ∧ dp ≤ j ∧ j < dp + n then M a0 (sp + (j - dp)) else M b j
/-- System.arraycopy of ints -/
def e_cp (x : List Int) (M : EM) : Option EM := match x with
  | [a0, sp, a, dp, n] => if e_isO 100 a ∧ e_isO 100 a0 ∧ 0 ≤ sp ∧ 0 ≤ dp ∧ 0 ≤ n ∧ sp + n ≤ (e_sh a0.toNat).2 ∧ dp + n ≤ (e_sh a.toNat).2 then
      some (e_cpm M a0.toNat sp.toNat a.toNat dp.toNat n.toNat) else none
  | _ => none
def e_sv (K : Nat → List Int → EM → EO) (s : e_X) (L : List Int) (M : EM) : Option (List Int × EM) := match s with
  | .mulL k e =>
    if k = 64 then (e_ev K L e M).bind fun r => (e_st 100 r.1 r.2).bind fun M' => some (L, M')
    else if k = 65 then (e_ev K L e M).bind fun r => (e_st 101 r.1 r.2).bind fun M' => some (L, M')
    else if k = 66 then (e_ev K L e M).bind fun r => (e_cp r.1 r.2).bind fun M' => some (L, M')
    else if k = 67 then match e with
      | .mulR (.add o x) key => (e_ev K L o M).bind fun r => (e_gf key.toNat r.1 r.2).bind fun u => (e_ev K L x r.2).bind fun q => (e_b2 10 u (q.1.getD 0 0)).bind fun z => (e_pf key.toNat (r.1 ++ [z]) q.2).bind fun M' => some (L, M')
      | _ => none
    else if k = 68 then match e with
      | .add ai x => (e_ev K L ai M).bind fun r => (e_op 60 r.1 r.2).bind fun u => (e_ev K L x r.2).bind fun q => (e_b2 10 u (q.1.getD 0 0)).bind fun z => (e_st 100 (r.1 ++ [z]) q.2).bind fun M' => some (L, M')
      | _ => none
    else if 100 ≤ k ∧ k < 200 then (e_ev K L e M).bind fun r => some (L.set (k.toNat - 100) (r.1.getD 0 0), r.2)
    else if 200 ≤ k ∧ k < 300 then match e with
      | .num c => some (L.set (k.toNat - 200) (e_w (L.getD (k.toNat - 200) 0 + c)), M)
      | _ => none
    else if 5000 ≤ k then (e_ev K L (.mulL k e) M).bind fun r => some (L, r.2)
    else none
  | .mulR e key => (e_ev K L e M).bind fun r => (e_pf key.toNat r.1 r.2).bind fun M' => some (L, M')
  | _ => none
/-- an answer beyond all longs is a throw -/
def e_TH : Int := 1180591620717411303424
/-- a row of labels -/
def e_nth : e_X → Nat → Nat
  | .add (.num c) t, n => if n = 0 then c.toNat else e_nth t (n - 1)
  | .num c, _ => c.toNat
  | _, _ => 0
def e_len : e_X → Nat
  | .add _ t => e_len t + 1
  | _ => 0
/-- statements up to the next label: K what a call does, J what happens from a label on -/
def e_tv (K : Nat → List Int → EM → EO) (J : Nat → List Int → EM → EO) : e_X → List Int → EM → EO
  | .mulL k e, L, M =>
    if k < 0 then e_tv K J e L M
    else if k = 1 then (e_ev K L e M).bind fun r => some (r.1.getD 0 0, r.2)
    else if k = 2 then some (0, M)
    else if k = 3 then (e_ev K L e M).bind fun r => some (e_TH + r.1.getD 0 0, e_up M 5 0 (M 5 0 + 1))
    else if k = 4 then (e_ev K L e M).bind fun r => J (r.1.getD 0 0).toNat L M
    else none
  | .sub c (.add a b), L, M => (e_ev K L c M).bind fun r => if r.1 = [0] then e_tv K J b L r.2 else e_tv K J a L r.2
  | .add s t, L, M => (e_sv K s L M).bind fun r => e_tv K J t r.1 r.2
  | .mulR (.add x (.add (.num lo) cs)) _, L, M => (e_ev K L x M).bind fun r => J (if r.1.getD 0 0 < lo ∨ lo + e_len cs ≤ r.1.getD 0 0 then e_nth cs (e_len cs) else e_nth cs (r.1.getD 0 0 - lo).toNat) L r.2
  | .neg (.add (.mulR (.add ai as) v) (.add t (.add h0 h1))), L, M => (e_ev K L ai M).bind fun r => (e_ev K L as r.2).bind fun q => (K v.toNat q.1 q.2).bind fun z =>
      if z.1 = e_TH then e_tv K J h0 L z.2 else if z.1 = e_TH + 1 then e_tv K J h1 L z.2 else (e_st 101 (r.1 ++ [z.1]) z.2).bind fun M' => e_tv K J t L M'
  | _, _, _ => none
end
section
/-! the trees' equations said step by step: what is behind a step stands still until the step is done -/
section TLS
variable {K : Nat → List Int → EM → EO} {J : Nat → List Int → EM → EO} {L xs ys : List Int} {M M' : EM}
def zt_nt : List Int → Nat → Int
  | [], _ => 0
  | a :: _, 0 => a
  | _ :: l, n + 1 => zt_nt l n
def zt_put (L : List Int) (n : Nat) (v : Int) : List Int := L.set n v
theorem zt_nt_g : ∀ (L : List Int) (n : Nat), zt_nt L n = L.getD n 0
  | [], _ => rfl
  | _ :: _, 0 => rfl
  | _ :: l, n + 1 => zt_nt_g l n
theorem zq_a {a : Int} {l : List Int} : zt_nt (a :: l) 0 = a := rfl
theorem zq_b {a v : Int} {l : List Int} : zt_put (a :: l) 0 v = v :: l := rfl
theorem zq_c {a b : Int} {l : List Int} : zt_nt (a :: b :: l) 1 = b := rfl
theorem zq_d {a b v : Int} {l : List Int} : zt_put (a :: b :: l) 1 v = a :: v :: l := rfl
theorem zq_e {a b c : Int} {l : List Int} : zt_nt (a :: b :: c :: l) 2 = c := rfl
theorem zq_f {a b c v : Int} {l : List Int} : zt_put (a :: b :: c :: l) 2 v = a :: b :: v :: l := rfl
theorem zq_g {a b c d : Int} {l : List Int} : zt_nt (a :: b :: c :: d :: l) 3 = d := rfl
theorem zq_h {a b c d v : Int} {l : List Int} : zt_put (a :: b :: c :: d :: l) 3 v = a :: b :: c :: v :: l := rfl
theorem zq_i {a b c d e : Int} {l : List Int} : zt_nt (a :: b :: c :: d :: e :: l) 4 = e := rfl
theorem zq_j {a b c d e v : Int} {l : List Int} : zt_put (a :: b :: c :: d :: e :: l) 4 v = a :: b :: c :: d :: v :: l := rfl
theorem zq_k {a b c d e f : Int} {l : List Int} : zt_nt (a :: b :: c :: d :: e :: f :: l) 5 = f := rfl
theorem zq_l {a b c d e f v : Int} {l : List Int} : zt_put (a :: b :: c :: d :: e :: f :: l) 5 v = a :: b :: c :: d :: e :: v :: l := rfl
theorem zq_m {a b c d e f g : Int} {l : List Int} : zt_nt (a :: b :: c :: d :: e :: f :: g :: l) 6 = g := rfl
theorem zq_n {a b c d e f g v : Int} {l : List Int} : zt_put (a :: b :: c :: d :: e :: f :: g :: l) 6 v = a :: b :: c :: d :: e :: f :: v :: l := rfl
theorem zq_o {a b c d e f g h : Int} {l : List Int} : zt_nt (a :: b :: c :: d :: e :: f :: g :: h :: l) 7 = h := rfl
theorem zq_p {a b c d e f g h v : Int} {l : List Int} : zt_put (a :: b :: c :: d :: e :: f :: g :: h :: l) 7 v = a :: b :: c :: d :: e :: f :: g :: v :: l := rfl
theorem zq_q {a b c d e f g h i : Int} {l : List Int} : zt_nt (a :: b :: c :: d :: e :: f :: g :: h :: i :: l) 8 = i := rfl
theorem zq_r {a b c d e f g h i v : Int} {l : List Int} : zt_put (a :: b :: c :: d :: e :: f :: g :: h :: i :: l) 8 v = a :: b :: c :: d :: e :: f :: g :: h :: v :: l := rfl
theorem zq_s {a b c d e f g h i j : Int} {l : List Int} : zt_nt (a :: b :: c :: d :: e :: f :: g :: h :: i :: j :: l) 9 = j := rfl
theorem zq_t {a b c d e f g h i j v : Int} {l : List Int} : zt_put (a :: b :: c :: d :: e :: f :: g :: h :: i :: j :: l) 9 v = a :: b :: c :: d :: e :: f :: g :: h :: i :: v :: l := rfl
theorem zq_u {a b c d e f g h i j k : Int} {l : List Int} : zt_nt (a :: b :: c :: d :: e :: f :: g :: h :: i :: j :: k :: l) 10 = k := rfl
theorem zq_v {a b c d e f g h i j k v : Int} {l : List Int} : zt_put (a :: b :: c :: d :: e :: f :: g :: h :: i :: j :: k :: l) 10 v = a :: b :: c :: d :: e :: f :: g :: h :: i :: j :: v :: l := rfl
theorem zq_w {a b c d e f g h i j k m : Int} {l : List Int} : zt_nt (a :: b :: c :: d :: e :: f :: g :: h :: i :: j :: k :: m :: l) 11 = m := rfl
theorem zq_x {a b c d e f g h i j k m v : Int} {l : List Int} : zt_put (a :: b :: c :: d :: e :: f :: g :: h :: i :: j :: k :: m :: l) 11 v = a :: b :: c :: d :: e :: f :: g :: h :: i :: j :: k :: v :: l := rfl
theorem zq_y {a b c d e f g h i j k m : Int} {l : List Int} {n : Nat} : zt_nt (a :: b :: c :: d :: e :: f :: g :: h :: i :: j :: k :: m :: l) (n + 12) = zt_nt l n := rfl
theorem zq_z {a b c d e f g h i j k m v : Int} {l : List Int} {n : Nat} : zt_put (a :: b :: c :: d :: e :: f :: g :: h :: i :: j :: k :: m :: l) (n + 12) v = a :: b :: c :: d :: e :: f :: g :: h :: i :: j :: k :: m :: zt_put l n v := rfl
/-- what stands still: a tree is not looked at before its turn -/
def zt_U (_ : e_X) : Type := Unit
def zt_ac (xs : List Int) : Option (List Int × EM) → Option (List Int × EM)
  | some (ys, M) => some (xs ++ ys, M)
  | none => none
def zt_ab (K : Nat → List Int → EM → EO) (L : List Int) (b : e_X) (_ : zt_U b) (_ : True) : Option (List Int × EM) → Option (List Int × EM)
  | some (xs, M) => zt_ac xs (e_ev K L b M)
  | none => none
def zt_r1 : EO → Option (List Int × EM)
  | some (r, M) => some ([r], M)
  | none => none
def zt_cl (K : Nat → List Int → EM → EO) (k : Int) : Option (List Int × EM) → Option (List Int × EM)
  | some (xs, M) => zt_r1 (K (k.toNat - 5000) xs M)
  | none => none
def zt_v1 (M : EM) : Option Int → Option (List Int × EM)
  | some v => some ([v], M)
  | none => none
def zt_op (k : Int) : Option (List Int × EM) → Option (List Int × EM)
  | some (xs, M) => zt_v1 M (e_op k.toNat xs M)
  | none => none
def zt_gf (k : Int) : Option (List Int × EM) → Option (List Int × EM)
  | some (xs, M) => zt_v1 M (e_gf k.toNat xs M)
  | none => none
def zt_ie (K : Nat → List Int → EM → EO) (L : List Int) (a b : e_X) (_ : zt_U a) (_ : zt_U b) (_ : True) : Option (List Int × EM) → Option (List Int × EM)
  | some (xs, M) => if xs = [0] then e_ev K L b M else e_ev K L a M
  | none => none
theorem zq_A {a : Int} : zt_ac [a] (some (ys, M)) = some (a :: ys, M) := rfl
theorem zq_B {a b : Int} : zt_ac [a, b] (some (ys, M)) = some (a :: b :: ys, M) := rfl
theorem zq_C {a b c : Int} : zt_ac [a, b, c] (some (ys, M)) = some (a :: b :: c :: ys, M) := rfl
theorem zq_D {a b c d : Int} {l : List Int} : zt_ac (a :: b :: c :: d :: l) (some (ys, M)) = some (a :: b :: c :: d :: (l ++ ys), M) := rfl
theorem zq_E : zt_ac [] (some (ys, M)) = some (ys, M) := rfl
theorem zq_F {b : e_X} : zt_ab K L b Unit.unit True.intro (some (xs, M)) = zt_ac xs (e_ev K L b M) := rfl
theorem zq_G {r : Int} : zt_r1 (some (r, M)) = some ([r], M) := rfl
theorem zq_H {k : Int} : zt_cl K k (some (xs, M)) = zt_r1 (K (k.toNat - 5000) xs M) := rfl
theorem zq_I {v : Int} : zt_v1 M (some v) = some ([v], M) := rfl
theorem zq_J {k : Int} : zt_op k (some (xs, M)) = zt_v1 M (e_op k.toNat xs M) := rfl
theorem zq_K {k : Int} : zt_gf k (some (xs, M)) = zt_v1 M (e_gf k.toNat xs M) := rfl
theorem zq_L {a b : e_X} {x : Int} : zt_ie K L a b Unit.unit Unit.unit True.intro (some ([x], M)) = if x = 0 then e_ev K L b M else e_ev K L a M := by
  show (if [x] = [0] then e_ev K L b M else e_ev K L a M) = _
  by_cases h : x = 0
  · rw [if_pos h, if_pos (by rw [h])]
  · rw [if_neg h, if_neg (fun q => h (by cases q; rfl))]
theorem zq_M {v : Int} : e_ev K L (.num v) M = some ([v], M) := rfl
theorem zq_N {i : Nat} : e_ev K L (.var i) M = some ([zt_nt L i], M) := by
  rw [zt_nt_g]
  rfl
theorem zq_O {a b : e_X} : e_ev K L (.add a b) M = zt_ab K L b Unit.unit True.intro (e_ev K L a M) := by
  show (e_ev K L a M).bind _ = _
  rcases e_ev K L a M with _ | ⟨x, N⟩
  · rfl
  show (e_ev K L b N).bind _ = zt_ac x (e_ev K L b N)
  rcases e_ev K L b N with _ | ⟨y, N'⟩ <;> rfl
theorem zq_P {k : Int} {a : e_X} : e_ev K L (.mulL k a) M = if k < 0 then e_ev K L a M else if 5000 ≤ k then zt_cl K k (e_ev K L a M) else zt_op k (e_ev K L a M) := by
  show (if k < 0 then e_ev K L a M else (e_ev K L a M).bind _) = _
  by_cases h0 : k < 0
  · rw [if_pos h0, if_pos h0]
  rw [if_neg h0, if_neg h0]
  by_cases h1 : 5000 ≤ k
  · rw [if_pos h1]
    rcases e_ev K L a M with _ | ⟨x, N⟩
    · rfl
    show (if 5000 ≤ k then (K (k.toNat - 5000) x N).bind _ else _) = zt_r1 (K (k.toNat - 5000) x N)
    rw [if_pos h1]
    rcases K (k.toNat - 5000) x N with _ | ⟨y, N'⟩ <;> rfl
  · rw [if_neg h1]
    rcases e_ev K L a M with _ | ⟨x, N⟩
    · rfl
    show (if 5000 ≤ k then _ else (e_op k.toNat x N).bind _) = zt_v1 N (e_op k.toNat x N)
    rw [if_neg h1]
    rcases e_op k.toNat x N with _ | v <;> rfl
theorem zq_Q {k : Int} {a : e_X} : e_ev K L (.mulR a k) M = zt_gf k (e_ev K L a M) := by
  show (e_ev K L a M).bind _ = _
  rcases e_ev K L a M with _ | ⟨x, N⟩
  · rfl
  show (e_gf k.toNat x N).bind _ = zt_v1 N (e_gf k.toNat x N)
  rcases e_gf k.toNat x N with _ | v <;> rfl
theorem zq_R {c a b : e_X} : e_ev K L (.sub c (.add a b)) M = zt_ie K L a b Unit.unit Unit.unit True.intro (e_ev K L c M) := by
  show (e_ev K L c M).bind _ = _
  rcases e_ev K L c M with _ | ⟨x, N⟩ <;> rfl
def zt_lm (L : List Int) : Option EM → Option (List Int × EM)
  | some M => some (L, M)
  | none => none
def zt_st (kd : Nat) (L : List Int) : Option (List Int × EM) → Option (List Int × EM)
  | some (xs, M) => zt_lm L (e_st kd xs M)
  | none => none
def zt_cp (L : List Int) : Option (List Int × EM) → Option (List Int × EM)
  | some (xs, M) => zt_lm L (e_cp xs M)
  | none => none
def zt_pf (k : Int) (L : List Int) : Option (List Int × EM) → Option (List Int × EM)
  | some (xs, M) => zt_lm L (e_pf k.toNat xs M)
  | none => none
def zt_se (k : Int) (L : List Int) : Option (List Int × EM) → Option (List Int × EM)
  | some (xs, M) => some (L.set (k.toNat - 100) (xs.getD 0 0), M)
  | none => none
def zt_dr (L : List Int) : Option (List Int × EM) → Option (List Int × EM)
  | some (_, M) => some (L, M)
  | none => none
def zt_7d (k : Int) (L xs : List Int) (M : EM) : Option Int → Option (List Int × EM)
  | some z => zt_lm L (e_pf k.toNat (xs ++ [z]) M)
  | none => none
def zt_7c (k : Int) (L xs : List Int) (u : Int) : Option (List Int × EM) → Option (List Int × EM)
  | some (ys, M) => zt_7d k L xs M (e_b2 10 u (ys.getD 0 0))
  | none => none
def zt_7b (K : Nat → List Int → EM → EO) (k : Int) (L : List Int) (x : e_X) (xs : List Int) (M : EM) (_ : zt_U x) (_ : True) : Option Int → Option (List Int × EM)
  | some u => zt_7c k L xs u (e_ev K L x M)
  | none => none
def zt_7a (K : Nat → List Int → EM → EO) (k : Int) (L : List Int) (x : e_X) (_ : zt_U x) (_ : True) : Option (List Int × EM) → Option (List Int × EM)
  | some (xs, M) => zt_7b K k L x xs M Unit.unit True.intro (e_gf k.toNat xs M)
  | none => none
def zt_8d (L xs : List Int) (M : EM) : Option Int → Option (List Int × EM)
  | some z => zt_lm L (e_st 100 (xs ++ [z]) M)
  | none => none
def zt_8c (L xs : List Int) (u : Int) : Option (List Int × EM) → Option (List Int × EM)
  | some (ys, M) => zt_8d L xs M (e_b2 10 u (ys.getD 0 0))
  | none => none
def zt_8b (K : Nat → List Int → EM → EO) (L : List Int) (x : e_X) (xs : List Int) (M : EM) (_ : zt_U x) (_ : True) : Option Int → Option (List Int × EM)
  | some u => zt_8c L xs u (e_ev K L x M)
  | none => none
def zt_8a (K : Nat → List Int → EM → EO) (L : List Int) (x : e_X) (_ : zt_U x) (_ : True) : Option (List Int × EM) → Option (List Int × EM)
  | some (xs, M) => zt_8b K L x xs M Unit.unit True.intro (e_op 60 xs M)
  | none => none
def zt_s7 (K : Nat → List Int → EM → EO) (L : List Int) (M : EM) : e_X → Option (List Int × EM)
  | .mulR (.add o x) key => zt_7a K key L x Unit.unit True.intro (e_ev K L o M)
  | _ => none
def zt_s8 (K : Nat → List Int → EM → EO) (L : List Int) (M : EM) : e_X → Option (List Int × EM)
  | .add ai x => zt_8a K L x Unit.unit True.intro (e_ev K L ai M)
  | _ => none
def zt_in (k : Int) (L : List Int) (M : EM) : e_X → Option (List Int × EM)
  | .num c => some (L.set (k.toNat - 200) (e_w (L.getD (k.toNat - 200) 0 + c)), M)
  | _ => none
theorem zq_S : zt_lm L (some M) = some (L, M) := rfl
theorem zq_T {kd : Nat} : zt_st kd L (some (xs, M)) = zt_lm L (e_st kd xs M) := rfl
theorem zq_U : zt_cp L (some (xs, M)) = zt_lm L (e_cp xs M) := rfl
theorem zq_V {k : Int} : zt_pf k L (some (xs, M)) = zt_lm L (e_pf k.toNat xs M) := rfl
theorem zq_W {k x : Int} : zt_se k L (some ([x], M)) = some (zt_put L (k.toNat - 100) x, M) := rfl
theorem zq_X : zt_dr L (some (xs, M)) = some (L, M) := rfl
theorem zq_Y {k z : Int} : zt_7d k L xs M (some z) = zt_lm L (e_pf k.toNat (xs ++ [z]) M) := rfl
theorem zq_Z {k u y : Int} : zt_7c k L xs u (some ([y], M)) = zt_7d k L xs M (e_b2 10 u y) := rfl
theorem zq_0 {k u : Int} {x : e_X} : zt_7b K k L x xs M Unit.unit True.intro (some u) = zt_7c k L xs u (e_ev K L x M) := rfl
theorem zq_1 {k : Int} {x : e_X} : zt_7a K k L x Unit.unit True.intro (some (xs, M)) = zt_7b K k L x xs M Unit.unit True.intro (e_gf k.toNat xs M) := rfl
theorem zq_2 {z : Int} : zt_8d L xs M (some z) = zt_lm L (e_st 100 (xs ++ [z]) M) := rfl
theorem zq_3 {u y : Int} : zt_8c L xs u (some ([y], M)) = zt_8d L xs M (e_b2 10 u y) := rfl
theorem zq_4 {u : Int} {x : e_X} : zt_8b K L x xs M Unit.unit True.intro (some u) = zt_8c L xs u (e_ev K L x M) := rfl
theorem zq_5 {x : e_X} : zt_8a K L x Unit.unit True.intro (some (xs, M)) = zt_8b K L x xs M Unit.unit True.intro (e_op 60 xs M) := rfl
theorem zq_6 {o x : e_X} {k : Int} : zt_s7 K L M (.mulR (.add o x) k) = zt_7a K k L x Unit.unit True.intro (e_ev K L o M) := rfl
theorem zq_7 {a x : e_X} : zt_s8 K L M (.add a x) = zt_8a K L x Unit.unit True.intro (e_ev K L a M) := rfl
theorem zq_8 {k c : Int} : zt_in k L M (.num c) = some (zt_put L (k.toNat - 200) (e_w (zt_nt L (k.toNat - 200) + c)), M) := by
  rw [zt_nt_g]
  rfl
theorem zt_bi {o : Option EM} : (o.bind fun M' => some (L, M')) = zt_lm L o := by cases o <;> rfl
theorem zt_sv0 {k : Int} {e : e_X} : e_sv K (.mulL k e) L M = if k = 64 then zt_st 100 L (e_ev K L e M) else if k = 65 then zt_st 101 L (e_ev K L e M) else if k = 66 then zt_cp L (e_ev K L e M) else if k = 67 then zt_s7 K L M e else if k = 68 then zt_s8 K L M e else if 100 ≤ k ∧ k < 200 then zt_se k L (e_ev K L e M) else if 200 ≤ k ∧ k < 300 then zt_in k L M e else if 5000 ≤ k then zt_dr L (e_ev K L (.mulL k e) M) else none := by
  have g4 : ∀ kd, ((e_ev K L e M).bind fun r => (e_st kd r.1 r.2).bind fun M' => some (L, M')) = zt_st kd L (e_ev K L e M) := by
    intro kd
    rcases e_ev K L e M with _ | ⟨x, N⟩
    · rfl
    · exact zt_bi
  have g6 : ((e_ev K L e M).bind fun r => (e_cp r.1 r.2).bind fun M' => some (L, M')) = zt_cp L (e_ev K L e M) := by
    rcases e_ev K L e M with _ | ⟨x, N⟩
    · rfl
    · exact zt_bi
  have g1 : ((e_ev K L e M).bind fun r => some (L.set (k.toNat - 100) (r.1.getD 0 0), r.2)) = zt_se k L (e_ev K L e M) := by
    rcases e_ev K L e M with _ | ⟨x, N⟩ <;> rfl
  have g5 : ((e_ev K L (.mulL k e) M).bind fun r => some (L, r.2)) = zt_dr L (e_ev K L (.mulL k e) M) := by
    rcases e_ev K L (.mulL k e) M with _ | ⟨x, N⟩ <;> rfl
  unfold e_sv
  dsimp only
  by_cases h0 : k = 64
  · rw [if_pos h0, if_pos h0]; exact g4 100
  rw [if_neg h0, if_neg h0]
  by_cases h1 : k = 65
  · rw [if_pos h1, if_pos h1]; exact g4 101
  rw [if_neg h1, if_neg h1]
  by_cases h2 : k = 66
  · rw [if_pos h2, if_pos h2]; exact g6
  rw [if_neg h2, if_neg h2]
  by_cases h3 : k = 67
  · rw [if_pos h3, if_pos h3]
    cases e with
    | mulR e key =>
      cases e with
      | add o x =>
        show (e_ev K L o M).bind _ = zt_7a K key L x Unit.unit True.intro (e_ev K L o M)
        rcases e_ev K L o M with _ | ⟨a, N⟩
        · rfl
        show (e_gf key.toNat a N).bind _ = zt_7b K key L x a N Unit.unit True.intro (e_gf key.toNat a N)
        rcases e_gf key.toNat a N with _ | u
        · rfl
        show (e_ev K L x N).bind _ = zt_7c key L a u (e_ev K L x N)
        rcases e_ev K L x N with _ | ⟨b, N'⟩
        · rfl
        show ((e_b2 10 u (b.getD 0 0)).bind fun z => (e_pf key.toNat (a ++ [z]) N').bind fun M' => some (L, M')) = zt_7d key L a N' (e_b2 10 u (b.getD 0 0))
        rcases e_b2 10 u (b.getD 0 0) with _ | z
        · rfl
        exact zt_bi
      | _ => rfl
    | _ => rfl
  rw [if_neg h3, if_neg h3]
  by_cases h4 : k = 68
  · rw [if_pos h4, if_pos h4]
    cases e with
    | add o x =>
      show (e_ev K L o M).bind _ = zt_8a K L x Unit.unit True.intro (e_ev K L o M)
      rcases e_ev K L o M with _ | ⟨a, N⟩
      · rfl
      show (e_op 60 a N).bind _ = zt_8b K L x a N Unit.unit True.intro (e_op 60 a N)
      rcases e_op 60 a N with _ | u
      · rfl
      show (e_ev K L x N).bind _ = zt_8c L a u (e_ev K L x N)
      rcases e_ev K L x N with _ | ⟨b, N'⟩
      · rfl
      show ((e_b2 10 u (b.getD 0 0)).bind fun z => (e_st 100 (a ++ [z]) N').bind fun M' => some (L, M')) = zt_8d L a N' (e_b2 10 u (b.getD 0 0))
      rcases e_b2 10 u (b.getD 0 0) with _ | z
      · rfl
      exact zt_bi
    | _ => rfl
  rw [if_neg h4, if_neg h4]
  by_cases h5 : 100 ≤ k ∧ k < 200
  · rw [if_pos h5, if_pos h5]; exact g1
  rw [if_neg h5, if_neg h5]
  by_cases h6 : 200 ≤ k ∧ k < 300
  · rw [if_pos h6, if_pos h6]
    cases e <;> rfl
  rw [if_neg h6, if_neg h6]
  by_cases h7 : 5000 ≤ k
  · rw [if_pos h7, if_pos h7]; exact g5
  rw [if_neg h7, if_neg h7]
theorem zq_9 {k : Int} {e : e_X} : e_sv K (.mulL k e) L M = if 100 ≤ k then (if k < 200 then zt_se k L (e_ev K L e M) else if k < 300 then zt_in k L M e else if 5000 ≤ k then zt_dr L (e_ev K L (.mulL k e) M) else none) else if k = 64 then zt_st 100 L (e_ev K L e M) else if k = 65 then zt_st 101 L (e_ev K L e M) else if k = 66 then zt_cp L (e_ev K L e M) else if k = 67 then zt_s7 K L M e else if k = 68 then zt_s8 K L M e else none := by
  rw [zt_sv0]
  by_cases h : 100 ≤ k
  · rw [if_pos h, if_neg (show ¬ k = 64 by omega), if_neg (show ¬ k = 65 by omega), if_neg (show ¬ k = 66 by omega), if_neg (show ¬ k = 67 by omega), if_neg (show ¬ k = 68 by omega)]
    by_cases h2 : k < 200
    · rw [if_pos h2, if_pos ⟨h, h2⟩]
    rw [if_neg h2, if_neg (fun q => h2 q.2)]
    by_cases h3 : k < 300
    · rw [if_pos h3, if_pos ⟨by omega, h3⟩]
    rw [if_neg h3, if_neg (fun q => h3 q.2)]
  · rw [if_neg h, if_neg (show ¬ (100 ≤ k ∧ k < 200) by omega), if_neg (show ¬ (200 ≤ k ∧ k < 300) by omega), if_neg (show ¬ 5000 ≤ k by omega)]
theorem zq_aa {k : Int} {e : e_X} : e_sv K (.mulR e k) L M = zt_pf k L (e_ev K L e M) := by
  show (e_ev K L e M).bind _ = _
  rcases e_ev K L e M with _ | ⟨x, N⟩
  · rfl
  · exact zt_bi
def zt_re : Option (List Int × EM) → EO
  | some (xs, M) => some (xs.getD 0 0, M)
  | none => none
def zt_th (M : EM) : Option (List Int × EM) → EO
  | some (xs, _) => some (e_TH + xs.getD 0 0, e_up M 5 0 (M 5 0 + 1))
  | none => none
def zt_ju (J : Nat → List Int → EM → EO) (L : List Int) (M : EM) : Option (List Int × EM) → EO
  | some (xs, _) => J (xs.getD 0 0).toNat L M
  | none => none
def zt_if (K : Nat → List Int → EM → EO) (J : Nat → List Int → EM → EO) (a b : e_X) (L : List Int) (_ : zt_U a) (_ : zt_U b) (_ : True) : Option (List Int × EM) → EO
  | some (xs, M) => if xs = [0] then e_tv K J b L M else e_tv K J a L M
  | none => none
def zt_sq (K : Nat → List Int → EM → EO) (J : Nat → List Int → EM → EO) (t : e_X) (_ : zt_U t) (_ : True) : Option (List Int × EM) → EO
  | some (L, M) => e_tv K J t L M
  | none => none
theorem zq_ab {x : Int} : zt_re (some ([x], M)) = some (x, M) := rfl
theorem zq_ac : zt_re (some ([], M)) = some (0, M) := rfl
theorem zq_ad {x : Int} : zt_th M (some ([x], M')) = some (e_TH + x, e_up M 5 0 (M 5 0 + 1)) := rfl
theorem zq_ae {x : Int} : zt_ju J L M (some ([x], M')) = J x.toNat L M := rfl
theorem zq_af {a b : e_X} {x : Int} : zt_if K J a b L Unit.unit Unit.unit True.intro (some ([x], M)) = if x = 0 then e_tv K J b L M else e_tv K J a L M := by
  show (if [x] = [0] then e_tv K J b L M else e_tv K J a L M) = _
  by_cases h : x = 0
  · rw [if_pos h, if_pos (by rw [h])]
  · rw [if_neg h, if_neg (fun q => h (by cases q; rfl))]
theorem zq_ag {t : e_X} : zt_sq K J t Unit.unit True.intro (some (L, M)) = e_tv K J t L M := rfl
theorem zq_ah {k : Int} {e : e_X} : e_tv K J (.mulL k e) L M = if k < 0 then e_tv K J e L M else if k = 1 then zt_re (e_ev K L e M) else if k = 2 then some (0, M) else if k = 3 then zt_th M (e_ev K L e M) else if k = 4 then zt_ju J L M (e_ev K L e M) else none := by
  have g1 : ((e_ev K L e M).bind fun r => some (r.1.getD 0 0, r.2)) = zt_re (e_ev K L e M) := by
    rcases e_ev K L e M with _ | ⟨x, N⟩ <;> rfl
  have g3 : ((e_ev K L e M).bind fun r => some (e_TH + r.1.getD 0 0, e_up M 5 0 (M 5 0 + 1))) = zt_th M (e_ev K L e M) := by
    rcases e_ev K L e M with _ | ⟨x, N⟩ <;> rfl
  have g4 : ((e_ev K L e M).bind fun r => J (r.1.getD 0 0).toNat L M) = zt_ju J L M (e_ev K L e M) := by
    rcases e_ev K L e M with _ | ⟨x, N⟩ <;> rfl
  rw [e_tv]
  by_cases h0 : k < 0
  · rw [if_pos h0, if_pos h0]
  rw [if_neg h0, if_neg h0]
  by_cases h1 : k = 1
  · rw [if_pos h1, if_pos h1]; exact g1
  rw [if_neg h1, if_neg h1]
  by_cases h2 : k = 2
  · rw [if_pos h2, if_pos h2]
  rw [if_neg h2, if_neg h2]
  by_cases h3 : k = 3
  · rw [if_pos h3, if_pos h3]; exact g3
  rw [if_neg h3, if_neg h3]
  by_cases h4 : k = 4
  · rw [if_pos h4, if_pos h4]; exact g4
  rw [if_neg h4, if_neg h4]
theorem zq_ai {c a b : e_X} : e_tv K J (.sub c (.add a b)) L M = zt_if K J a b L Unit.unit Unit.unit True.intro (e_ev K L c M) := by
  show (e_ev K L c M).bind _ = _
  rcases e_ev K L c M with _ | ⟨x, N⟩ <;> rfl
theorem zq_aj {s t : e_X} : e_tv K J (.add s t) L M = zt_sq K J t Unit.unit True.intro (e_sv K s L M) := by
  show (e_sv K s L M).bind _ = _
  rcases e_sv K s L M with _ | ⟨x, N⟩ <;> rfl
def zt_sw (J : Nat → List Int → EM → EO) (L : List Int) (lo : Int) (cs : e_X) (_ : zt_U cs) (_ : True) : Option (List Int × EM) → EO
  | some (xs, M) => J (if xs.getD 0 0 < lo ∨ lo + e_len cs ≤ xs.getD 0 0 then e_nth cs (e_len cs) else e_nth cs (xs.getD 0 0 - lo).toNat) L M
  | none => none
theorem zq_ak {lo x : Int} {cs : e_X} : zt_sw J L lo cs Unit.unit True.intro (some ([x], M)) = J (if x < lo ∨ lo + e_len cs ≤ x then e_nth cs (e_len cs) else e_nth cs (x - lo).toNat) L M := rfl
theorem zq_al {k lo : Int} {x cs : e_X} : e_tv K J (.mulR (.add x (.add (.num lo) cs)) k) L M = zt_sw J L lo cs Unit.unit True.intro (e_ev K L x M) := by
  show (e_ev K L x M).bind _ = _
  rcases e_ev K L x M with _ | ⟨x, N⟩ <;> rfl
theorem zq_am {v : Int} {ai as t h0 h1 : e_X} : e_tv K J (.neg (.add (.mulR (.add ai as) v) (.add t (.add h0 h1)))) L M = (e_ev K L ai M).bind fun r => (e_ev K L as r.2).bind fun q => (K v.toNat q.1 q.2).bind fun z =>
      if z.1 = e_TH then e_tv K J h0 L z.2 else if z.1 = e_TH + 1 then e_tv K J h1 L z.2 else (e_st 101 (r.1 ++ [z.1]) z.2).bind fun M' => e_tv K J t L M' := rfl
end TLS
end
