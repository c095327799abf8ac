/-! THE MEMORY AS DATA: mk c t: the twenty cells of the class, with the contents c (a cell, a place in it), then t; md d: the twelve cells of the reference, with the contents d -/
def ca (c : Nat → Nat → Int32) (k : Nat) (f : Nat → Int32) : Nat → Nat → Int32 := fun j => if j = k then f else c j
theorem ca_eq (c : Nat → Nat → Int32) (k : Nat) (f : Nat → Int32) : ca c k f k = f := if_pos rfl
theorem ca_ne {c : Nat → Nat → Int32} {k : Nat} {f : Nat → Int32} {j : Nat} (h : j ≠ k) : ca c k f j = c j := if_neg h
theorem upd_eq (f : Nat → Int32) (k : Nat) (x : Int32) : upd f k x k = x := if_pos rfl
theorem upd_ne {f : Nat → Int32} {k : Nat} {x : Int32} {j : Nat} (h : j ≠ k) : upd f k x j = f j := if_neg h
def mk (c : Nat → Nat → Int32) (t : mM) : mM := .inr (6, [.ref 1, .ref 6, .ref 13, .ref 14, .ref 15]) :: .inr (4, [.ref 2, .ref 4]) :: .inr (3, [.ref 3]) :: .inl (57, c 3) :: .inr (3, [.ref 5]) :: .inl (11400, c 5) :: .inr (5, [.ref 1, .ref 7, .ref 9, .ref 11, .int (c 6 4), .int (c 6 5)]) :: .inr (3, [.ref 8]) :: .inl (200, c 8) :: .inr (3, [.ref 10]) :: .inl (200, c 10) :: .inr (3, [.ref 12]) :: .inl (200, c 12) :: .inr (2, [.ref 1, .ref 6, .int (c 13 2), .int (c 13 3)]) :: .inr (0, [.ref 1, .int (c 14 1), .int (c 14 2)]) :: .inr (1, [.ref 16, .ref 18, .int (c 15 2)]) :: .inr (3, [.ref 17]) :: .inl (60, c 17) :: .inr (3, [.ref 19]) :: .inl (61, c 19) :: t
def md (d : Nat → Nat → Int32) : mM := [.inr (7, [.ref 21, .ref 22, .int (d 0 2), .ref 23, .ref 24, .ref 25, .int (d 0 6), .ref 26, .int (d 0 8), .ref 27, .ref 28, .int (d 0 11), .ref 29, .ref 30, .int (d 0 14), .ref 31, .int (d 0 16)]), .inl (1206, d 1), .inl (7236, d 2), .inl (2412, d 3), .inl (2, d 4), .inl (60, d 5), .inl (200, d 6), .inl (200, d 7), .inl (200, d 8), .inl (204, d 9), .inl (200, d 10), .inl (400, d 11)]
section MEM
variable (c d : Nat → Nat → Int32) (t : mM)
theorem mo_0 : m_isO (mk c t) 0 6 = true := rfl
theorem mf_0_0 : m_fld (mk c t) 0 6 0 = some (.ref 1) := rfl
theorem mf_0_1 : m_fld (mk c t) 0 6 1 = some (.ref 6) := rfl
theorem mf_0_2 : m_fld (mk c t) 0 6 2 = some (.ref 13) := rfl
theorem mf_0_3 : m_fld (mk c t) 0 6 3 = some (.ref 14) := rfl
theorem mf_0_4 : m_fld (mk c t) 0 6 4 = some (.ref 15) := rfl
theorem mo_1 : m_isO (mk c t) 1 4 = true := rfl
theorem mf_1_0 : m_fld (mk c t) 1 4 0 = some (.ref 2) := rfl
theorem mf_1_1 : m_fld (mk c t) 1 4 1 = some (.ref 4) := rfl
theorem mo_2 : m_isO (mk c t) 2 3 = true := rfl
theorem mf_2_0 : m_fld (mk c t) 2 3 0 = some (.ref 3) := rfl
theorem mo_4 : m_isO (mk c t) 4 3 = true := rfl
theorem mf_4_0 : m_fld (mk c t) 4 3 0 = some (.ref 5) := rfl
theorem mo_6 : m_isO (mk c t) 6 5 = true := rfl
theorem mf_6_0 : m_fld (mk c t) 6 5 0 = some (.ref 1) := rfl
theorem mf_6_1 : m_fld (mk c t) 6 5 1 = some (.ref 7) := rfl
theorem mf_6_2 : m_fld (mk c t) 6 5 2 = some (.ref 9) := rfl
theorem mf_6_3 : m_fld (mk c t) 6 5 3 = some (.ref 11) := rfl
theorem mf_6_4 : m_fld (mk c t) 6 5 4 = some (.int (c 6 4)) := rfl
theorem mp_6_4 (v : Int32) : m_put (mk c t) 6 5 4 (.int v) = some (mk (ca c 6 (upd (c 6) 4 v)) t) := rfl
theorem mf_6_5 : m_fld (mk c t) 6 5 5 = some (.int (c 6 5)) := rfl
theorem mp_6_5 (v : Int32) : m_put (mk c t) 6 5 5 (.int v) = some (mk (ca c 6 (upd (c 6) 5 v)) t) := rfl
theorem mo_7 : m_isO (mk c t) 7 3 = true := rfl
theorem mf_7_0 : m_fld (mk c t) 7 3 0 = some (.ref 8) := rfl
theorem mo_9 : m_isO (mk c t) 9 3 = true := rfl
theorem mf_9_0 : m_fld (mk c t) 9 3 0 = some (.ref 10) := rfl
theorem mo_11 : m_isO (mk c t) 11 3 = true := rfl
theorem mf_11_0 : m_fld (mk c t) 11 3 0 = some (.ref 12) := rfl
theorem mo_13 : m_isO (mk c t) 13 2 = true := rfl
theorem mf_13_0 : m_fld (mk c t) 13 2 0 = some (.ref 1) := rfl
theorem mf_13_1 : m_fld (mk c t) 13 2 1 = some (.ref 6) := rfl
theorem mf_13_2 : m_fld (mk c t) 13 2 2 = some (.int (c 13 2)) := rfl
theorem mp_13_2 (v : Int32) : m_put (mk c t) 13 2 2 (.int v) = some (mk (ca c 13 (upd (c 13) 2 v)) t) := rfl
theorem mf_13_3 : m_fld (mk c t) 13 2 3 = some (.int (c 13 3)) := rfl
theorem mp_13_3 (v : Int32) : m_put (mk c t) 13 2 3 (.int v) = some (mk (ca c 13 (upd (c 13) 3 v)) t) := rfl
theorem mo_14 : m_isO (mk c t) 14 0 = true := rfl
theorem mf_14_0 : m_fld (mk c t) 14 0 0 = some (.ref 1) := rfl
theorem mf_14_1 : m_fld (mk c t) 14 0 1 = some (.int (c 14 1)) := rfl
theorem mp_14_1 (v : Int32) : m_put (mk c t) 14 0 1 (.int v) = some (mk (ca c 14 (upd (c 14) 1 v)) t) := rfl
theorem mf_14_2 : m_fld (mk c t) 14 0 2 = some (.int (c 14 2)) := rfl
theorem mp_14_2 (v : Int32) : m_put (mk c t) 14 0 2 (.int v) = some (mk (ca c 14 (upd (c 14) 2 v)) t) := rfl
theorem mo_15 : m_isO (mk c t) 15 1 = true := rfl
theorem mf_15_0 : m_fld (mk c t) 15 1 0 = some (.ref 16) := rfl
theorem mf_15_1 : m_fld (mk c t) 15 1 1 = some (.ref 18) := rfl
theorem mf_15_2 : m_fld (mk c t) 15 1 2 = some (.int (c 15 2)) := rfl
theorem mp_15_2 (v : Int32) : m_put (mk c t) 15 1 2 (.int v) = some (mk (ca c 15 (upd (c 15) 2 v)) t) := rfl
theorem mo_16 : m_isO (mk c t) 16 3 = true := rfl
theorem mf_16_0 : m_fld (mk c t) 16 3 0 = some (.ref 17) := rfl
theorem mo_18 : m_isO (mk c t) 18 3 = true := rfl
theorem mf_18_0 : m_fld (mk c t) 18 3 0 = some (.ref 19) := rfl
theorem ma_3 : m_arr (mk c t) 3 = some (57, c 3) := rfl
theorem ms_3 (f : Nat → Int32) : (mk c t).set 3 (.inl (57, f)) = mk (ca c 3 f) t := rfl
theorem ma_5 : m_arr (mk c t) 5 = some (11400, c 5) := rfl
theorem ms_5 (f : Nat → Int32) : (mk c t).set 5 (.inl (11400, f)) = mk (ca c 5 f) t := rfl
theorem ma_8 : m_arr (mk c t) 8 = some (200, c 8) := rfl
theorem ms_8 (f : Nat → Int32) : (mk c t).set 8 (.inl (200, f)) = mk (ca c 8 f) t := rfl
theorem ma_10 : m_arr (mk c t) 10 = some (200, c 10) := rfl
theorem ms_10 (f : Nat → Int32) : (mk c t).set 10 (.inl (200, f)) = mk (ca c 10 f) t := rfl
theorem ma_12 : m_arr (mk c t) 12 = some (200, c 12) := rfl
theorem ms_12 (f : Nat → Int32) : (mk c t).set 12 (.inl (200, f)) = mk (ca c 12 f) t := rfl
theorem ma_17 : m_arr (mk c t) 17 = some (60, c 17) := rfl
theorem ms_17 (f : Nat → Int32) : (mk c t).set 17 (.inl (60, f)) = mk (ca c 17 f) t := rfl
theorem ma_19 : m_arr (mk c t) 19 = some (61, c 19) := rfl
theorem ms_19 (f : Nat → Int32) : (mk c t).set 19 (.inl (61, f)) = mk (ca c 19 f) t := rfl
theorem mo_20 : m_isO (mk c (md d)) 20 7 = true := rfl
theorem mf_20_0 : m_fld (mk c (md d)) 20 7 0 = some (.ref 21) := rfl
theorem mf_20_1 : m_fld (mk c (md d)) 20 7 1 = some (.ref 22) := rfl
theorem mf_20_2 : m_fld (mk c (md d)) 20 7 2 = some (.int (d 0 2)) := rfl
theorem mp_20_2 (v : Int32) : m_put (mk c (md d)) 20 7 2 (.int v) = some (mk c (md (ca d 0 (upd (d 0) 2 v)))) := rfl
theorem mf_20_3 : m_fld (mk c (md d)) 20 7 3 = some (.ref 23) := rfl
theorem mf_20_4 : m_fld (mk c (md d)) 20 7 4 = some (.ref 24) := rfl
theorem mf_20_5 : m_fld (mk c (md d)) 20 7 5 = some (.ref 25) := rfl
theorem mf_20_6 : m_fld (mk c (md d)) 20 7 6 = some (.int (d 0 6)) := rfl
theorem mp_20_6 (v : Int32) : m_put (mk c (md d)) 20 7 6 (.int v) = some (mk c (md (ca d 0 (upd (d 0) 6 v)))) := rfl
theorem mf_20_7 : m_fld (mk c (md d)) 20 7 7 = some (.ref 26) := rfl
theorem mf_20_8 : m_fld (mk c (md d)) 20 7 8 = some (.int (d 0 8)) := rfl
theorem mp_20_8 (v : Int32) : m_put (mk c (md d)) 20 7 8 (.int v) = some (mk c (md (ca d 0 (upd (d 0) 8 v)))) := rfl
theorem mf_20_9 : m_fld (mk c (md d)) 20 7 9 = some (.ref 27) := rfl
theorem mf_20_10 : m_fld (mk c (md d)) 20 7 10 = some (.ref 28) := rfl
theorem mf_20_11 : m_fld (mk c (md d)) 20 7 11 = some (.int (d 0 11)) := rfl
theorem mp_20_11 (v : Int32) : m_put (mk c (md d)) 20 7 11 (.int v) = some (mk c (md (ca d 0 (upd (d 0) 11 v)))) := rfl
theorem mf_20_12 : m_fld (mk c (md d)) 20 7 12 = some (.ref 29) := rfl
theorem mf_20_13 : m_fld (mk c (md d)) 20 7 13 = some (.ref 30) := rfl
theorem mf_20_14 : m_fld (mk c (md d)) 20 7 14 = some (.int (d 0 14)) := rfl
theorem mp_20_14 (v : Int32) : m_put (mk c (md d)) 20 7 14 (.int v) = some (mk c (md (ca d 0 (upd (d 0) 14 v)))) := rfl
theorem mf_20_15 : m_fld (mk c (md d)) 20 7 15 = some (.ref 31) := rfl
theorem mf_20_16 : m_fld (mk c (md d)) 20 7 16 = some (.int (d 0 16)) := rfl
theorem mp_20_16 (v : Int32) : m_put (mk c (md d)) 20 7 16 (.int v) = some (mk c (md (ca d 0 (upd (d 0) 16 v)))) := rfl
theorem ma_21 : m_arr (mk c (md d)) 21 = some (1206, d 1) := rfl
theorem ms_21 (f : Nat → Int32) : (mk c (md d)).set 21 (.inl (1206, f)) = mk c (md (ca d 1 f)) := rfl
theorem ma_22 : m_arr (mk c (md d)) 22 = some (7236, d 2) := rfl
theorem ms_22 (f : Nat → Int32) : (mk c (md d)).set 22 (.inl (7236, f)) = mk c (md (ca d 2 f)) := rfl
theorem ma_23 : m_arr (mk c (md d)) 23 = some (2412, d 3) := rfl
theorem ms_23 (f : Nat → Int32) : (mk c (md d)).set 23 (.inl (2412, f)) = mk c (md (ca d 3 f)) := rfl
theorem ma_24 : m_arr (mk c (md d)) 24 = some (2, d 4) := rfl
theorem ms_24 (f : Nat → Int32) : (mk c (md d)).set 24 (.inl (2, f)) = mk c (md (ca d 4 f)) := rfl
theorem ma_25 : m_arr (mk c (md d)) 25 = some (60, d 5) := rfl
theorem ms_25 (f : Nat → Int32) : (mk c (md d)).set 25 (.inl (60, f)) = mk c (md (ca d 5 f)) := rfl
theorem ma_26 : m_arr (mk c (md d)) 26 = some (200, d 6) := rfl
theorem ms_26 (f : Nat → Int32) : (mk c (md d)).set 26 (.inl (200, f)) = mk c (md (ca d 6 f)) := rfl
theorem ma_27 : m_arr (mk c (md d)) 27 = some (200, d 7) := rfl
theorem ms_27 (f : Nat → Int32) : (mk c (md d)).set 27 (.inl (200, f)) = mk c (md (ca d 7 f)) := rfl
theorem ma_28 : m_arr (mk c (md d)) 28 = some (200, d 8) := rfl
theorem ms_28 (f : Nat → Int32) : (mk c (md d)).set 28 (.inl (200, f)) = mk c (md (ca d 8 f)) := rfl
theorem ma_29 : m_arr (mk c (md d)) 29 = some (204, d 9) := rfl
theorem ms_29 (f : Nat → Int32) : (mk c (md d)).set 29 (.inl (204, f)) = mk c (md (ca d 9 f)) := rfl
theorem ma_30 : m_arr (mk c (md d)) 30 = some (200, d 10) := rfl
theorem ms_30 (f : Nat → Int32) : (mk c (md d)).set 30 (.inl (200, f)) = mk c (md (ca d 10 f)) := rfl
theorem ma_31 : m_arr (mk c (md d)) 31 = some (400, d 11) := rfl
theorem ms_31 (f : Nat → Int32) : (mk c (md d)).set 31 (.inl (400, f)) = mk c (md (ca d 11 f)) := rfl
end MEM
