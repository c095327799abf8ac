/-! THE MEMORY AS DATA: mk c t: the twenty cells of the class, with the contents c (a cell, a place in it), then t; md d: the twelve cells of the reference, with the contents d -/
def ca (c : Nat → Nat → Int32) (k : Nat) (f : Nat → Int32) : Nat → Nat → Int32 := fun j => if j = k then f else c j
theorem ca_eq (c : Nat → Nat → Int32) (k : Nat) (f : Nat → Int32) : ca c k f k = f := if_pos rfl
theorem ca_ne {c : Nat → Nat → Int32} {k : Nat} {f : Nat → Int32} {j : Nat} (h : j ≠ k) : ca c k f j = c j := if_neg h
theorem upd_eq (f : Nat → Int32) (k : Nat) (x : Int32) : upd f k x k = x := if_pos rfl
theorem upd_ne {f : Nat → Int32} {k : Nat} {x : Int32} {j : Nat} (h : j ≠ k) : upd f k x j = f j := if_neg h
def mk (c : Nat → Nat → Int32) (t : mM) : mM := .inr (6, [.ref 1, .ref 6, .ref 13, .ref 14, .ref 15]) :: .inr (4, [.ref 2, .ref 4]) :: .inr (3, [.ref 3]) :: .inl (57, c 3) :: .inr (3, [.ref 5]) :: .inl (11400, c 5) :: .inr (5, [.ref 1, .ref 7, .ref 9, .ref 11, .int (c 6 4), .int (c 6 5)]) :: .inr (3, [.ref 8]) :: .inl (200, c 8) :: .inr (3, [.ref 10]) :: .inl (200, c 10) :: .inr (3, [.ref 12]) :: .inl (200, c 12) :: .inr (2, [.ref 1, .ref 6, .int (c 13 2), .int (c 13 3)]) :: .inr (0, [.ref 1, .int (c 14 1), .int (c 14 2)]) :: .inr (1, [.ref 16, .ref 18, .int (c 15 2)]) :: .inr (3, [.ref 17]) :: .inl (60, c 17) :: .inr (3, [.ref 19]) :: .inl (61, c 19) :: t
section MEM
variable (c d : Nat → Nat → Int32) (t : mM)
theorem mo_0 : m_isO (mk c t) 0 6 = true := rfl
theorem mf_0_0 : m_fld (mk c t) 0 6 0 = some (.ref 1) := rfl
theorem mf_0_1 : m_fld (mk c t) 0 6 1 = some (.ref 6) := rfl
theorem mf_0_2 : m_fld (mk c t) 0 6 2 = some (.ref 13) := rfl
theorem mf_0_3 : m_fld (mk c t) 0 6 3 = some (.ref 14) := rfl
theorem mf_0_4 : m_fld (mk c t) 0 6 4 = some (.ref 15) := rfl
theorem mo_1 : m_isO (mk c t) 1 4 = true := rfl
theorem mf_1_0 : m_fld (mk c t) 1 4 0 = some (.ref 2) := rfl
theorem mf_1_1 : m_fld (mk c t) 1 4 1 = some (.ref 4) := rfl
theorem mo_2 : m_isO (mk c t) 2 3 = true := rfl
theorem mf_2_0 : m_fld (mk c t) 2 3 0 = some (.ref 3) := rfl
theorem mo_4 : m_isO (mk c t) 4 3 = true := rfl
theorem mf_4_0 : m_fld (mk c t) 4 3 0 = some (.ref 5) := rfl
theorem mo_6 : m_isO (mk c t) 6 5 = true := rfl
theorem mf_6_0 : m_fld (mk c t) 6 5 0 = some (.ref 1) := rfl
theorem mf_6_1 : m_fld (mk c t) 6 5 1 = some (.ref 7) := rfl
theorem mf_6_2 : m_fld (mk c t) 6 5 2 = some (.ref 9) := rfl
theorem mf_6_3 : m_fld (mk c t) 6 5 3 = some (.ref 11) := rfl
theorem mf_6_4 : m_fld (mk c t) 6 5 4 = some (.int (c 6 4)) := rfl
theorem mp_6_4 (v : Int32) : m_put (mk c t) 6 5 4 (.int v) = some (mk (ca c 6 (upd (c 6) 4 v)) t) := rfl
theorem mf_6_5 : m_fld (mk c t) 6 5 5 = some (.int (c 6 5)) := rfl
theorem mp_6_5 (v : Int32) : m_put (mk c t) 6 5 5 (.int v) = some (mk (ca c 6 (upd (c 6) 5 v)) t) := rfl
theorem mo_7 : m_isO (mk c t) 7 3 = true := rfl
theorem mf_7_0 : m_fld (mk c t) 7 3 0 = some (.ref 8) := rfl
theorem mo_9 : m_isO (mk c t) 9 3 = true := rfl
theorem mf_9_0 : m_fld (mk c t) 9 3 0 = some (.ref 10) := rfl
theorem mo_11 : m_isO (mk c t) 11 3 = true := rfl
theorem mf_11_0 : m_fld (mk c t) 11 3 0 = some (.ref 12) := rfl
theorem mo_13 : m_isO (mk c t) 13 2 = true := rfl
theorem mf_13_0 : m_fld (mk c t) 13 2 0 = some (.ref 1) := rfl
theorem mf_13_1 : m_fld (mk c t) 13 2 1 = some (.ref 6) := rfl
theorem mf_13_2 : m_fld (mk c t) 13 2 2 = some (.int (c 13 2)) := rfl
theorem mp_13_2 (v : Int32) : m_put (mk c t) 13 2 2 (.int v) = some (mk (ca c 13 (upd (c 13) 2 v)) t) := rfl
theorem mf_13_3 : m_fld (mk c t) 13 2 3 = some (.int (c 13 3)) := rfl
theorem mp_13_3 (v : Int32) : m_put (mk c t) 13 2 3 (.int v) = some (mk (ca c 13 (upd (c 13) 3 v)) t) := rfl
theorem mo_14 : m_isO (mk c t) 14 0 = true := rfl
theorem mf_14_0 : m_fld (mk c t) 14 0 0 = some (.ref 1) := rfl
theorem mf_14_1 : m_fld (mk c t) 14 0 1 = some (.int (c 14 1)) := rfl
theorem mp_14_1 (v : Int32) : m_put (mk c t) 14 0 1 (.int v) = some (mk (ca c 14 (upd (c 14) 1 v)) t) := rfl
theorem mf_14_2 : m_fld (mk c t) 14 0 2 = some (.int (c 14 2)) := rfl
theorem mp_14_2 (v : Int32) : m_put (mk c t) 14 0 2 (.int v) = some (mk (ca c 14 (upd (c 14) 2 v)) t) := rfl
theorem mo_15 : m_isO (mk c t) 15 1 = true := rfl
theorem mf_15_0 : m_fld (mk c t) 15 1 0 = some (.ref 16) := rfl
theorem mf_15_1 : m_fld (mk c t) 15 1 1 = some (.ref 18) := rfl
theorem mf_15_2 : m_fld (mk c t) 15 1 2 = some (.int (c 15 2)) := rfl
theorem mp_15_2 (v : Int32) : m_put (mk c t) 15 1 2 (.int v) = some (mk (ca c 15 (upd (c 15) 2 v)) t) := rfl
theorem mo_16 : m_isO (mk c t) 16 3 = true := rfl
theorem mf_16_0 : m_fld (mk c t) 16 3 0 = some (.ref 17) := rfl
theorem mo_18 : m_isO (mk c t) 18 3 = true := rfl
theorem mf_18_0 : m_fld (mk c t) 18 3 0 = some (.ref 19) := rfl
theorem ma_3 : m_arr (mk c t) 3 = some (57, c 3) := rfl
theorem ms_3 (f : Nat → Int32) : (mk c t).set 3 (.inl (57, f)) = mk (ca c 3 f) t := rfl
theorem ma_5 : m_arr (mk c t) 5 = some (11400, c 5) := rfl
theorem ms_5 (f : Nat → Int32) : (mk c t).set 5 (.inl (11400, f)) = mk (ca c 5 f) t := rfl
theorem ma_8 : m_arr (mk c t) 8 = some (200, c 8) := rfl
theorem ms_8 (f : Nat → Int32) : (mk c t).set 8 (.inl (200, f)) = mk (ca c 8 f) t := rfl
theorem ma_10 : m_arr (mk c t) 10 = some (200, c 10) := rfl
theorem ms_10 (f : Nat → Int32) : (mk c t).set 10 (.inl (200, f)) = mk (ca c 10 f) t := rfl
theorem ma_12 : m_arr (mk c t) 12 = some (200, c 12) := rfl
theorem ms_12 (f : Nat → Int32) : (mk c t).set 12 (.inl (200, f)) = mk (ca c 12 f) t := rfl
theorem ma_17 : m_arr (mk c t) 17 = some (60, c 17) := rfl
theorem ms_17 (f : Nat → Int32) : (mk c t).set 17 (.inl (60, f)) = mk (ca c 17 f) t := rfl
theorem ma_19 : m_arr (mk c t) 19 = some (61, c 19) := rfl
theorem ms_19 (f : Nat → Int32) : (mk c t).set 19 (.inl (61, f)) = mk (ca c 19 f) t := rfl
end MEM

