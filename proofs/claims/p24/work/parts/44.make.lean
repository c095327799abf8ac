/-! the objects are made -/
theorem mv_57 : (57 : Int32).toNatClampNeg = 57 := rfl
theorem mv_11400 : (11400 : Int32).toNatClampNeg = 11400 := rfl
theorem mv_200 : (200 : Int32).toNatClampNeg = 200 := rfl
theorem mv_60 : (60 : Int32).toNatClampNeg = 60 := rfl
theorem mv_61 : (61 : Int32).toNatClampNeg = 61 := rfl
/-- a new row of numbers -/
theorem z_row {S : mS} {M : mM} {o n : Nat} (hn : n ≤ 1000000) (K : Option Value → mM → Prop) {x : Int32} (hx : x = nI n) : go S 17 0 [.ref o, .int x] [] M K = bnd (m_put (M ++ [.inl (n, fun _ => 0)]) o 3 0 (.ref M.length)) fun M1 => K none M1 := by
  subst hx
  have e1 : (if nI n < 0 then (0 : Int32) else nI n) = nI n := if_neg (nI_pos (by omega))
  simp only [↓g17_0, ↓g17_1, ↓g17_4, ↓g17_5, ↓g17_6, ↓g17_7, ↓g17_10, ↓g17_12, ↓g17_15, e1, nI_clamp (show n < 2 ^ 31 by omega), nI_pos' (show n < 2 ^ 31 by omega), hn, true_and]
theorem zb_0 : Nat.beq 0 0 = true := rfl
theorem zb_1 : Nat.beq 1 1 = true := rfl
theorem zb_2 : Nat.beq 2 2 = true := rfl
theorem zb_3 : Nat.beq 3 3 = true := rfl
theorem zb_4 : Nat.beq 4 4 = true := rfl
theorem zb_5 : Nat.beq 5 5 = true := rfl
theorem zb_6 : Nat.beq 6 6 = true := rfl
theorem zb_7 : Nat.beq 7 7 = true := rfl
theorem zt_0_1 : Nat.blt 0 1 = true := rfl
theorem zt_0_2 : Nat.blt 0 2 = true := rfl
theorem zt_1_2 : Nat.blt 1 2 = true := rfl
theorem zt_0_3 : Nat.blt 0 3 = true := rfl
theorem zt_1_3 : Nat.blt 1 3 = true := rfl
theorem zt_2_3 : Nat.blt 2 3 = true := rfl
theorem zt_0_4 : Nat.blt 0 4 = true := rfl
theorem zt_1_4 : Nat.blt 1 4 = true := rfl
theorem zt_2_4 : Nat.blt 2 4 = true := rfl
theorem zt_3_4 : Nat.blt 3 4 = true := rfl
theorem zt_0_5 : Nat.blt 0 5 = true := rfl
theorem zt_1_5 : Nat.blt 1 5 = true := rfl
theorem zt_2_5 : Nat.blt 2 5 = true := rfl
theorem zt_3_5 : Nat.blt 3 5 = true := rfl
theorem zt_4_5 : Nat.blt 4 5 = true := rfl
theorem zt_0_6 : Nat.blt 0 6 = true := rfl
theorem zt_1_6 : Nat.blt 1 6 = true := rfl
theorem zt_2_6 : Nat.blt 2 6 = true := rfl
theorem zt_3_6 : Nat.blt 3 6 = true := rfl
theorem zt_4_6 : Nat.blt 4 6 = true := rfl
theorem zt_5_6 : Nat.blt 5 6 = true := rfl
theorem zt_0_17 : Nat.blt 0 17 = true := rfl
theorem zt_1_17 : Nat.blt 1 17 = true := rfl
theorem zt_2_17 : Nat.blt 2 17 = true := rfl
theorem zt_3_17 : Nat.blt 3 17 = true := rfl
theorem zt_4_17 : Nat.blt 4 17 = true := rfl
theorem zt_5_17 : Nat.blt 5 17 = true := rfl
theorem zt_6_17 : Nat.blt 6 17 = true := rfl
theorem zt_7_17 : Nat.blt 7 17 = true := rfl
theorem zt_8_17 : Nat.blt 8 17 = true := rfl
theorem zt_9_17 : Nat.blt 9 17 = true := rfl
theorem zt_10_17 : Nat.blt 10 17 = true := rfl
theorem zt_11_17 : Nat.blt 11 17 = true := rfl
theorem zt_12_17 : Nat.blt 12 17 = true := rfl
theorem zt_13_17 : Nat.blt 13 17 = true := rfl
theorem zt_14_17 : Nat.blt 14 17 = true := rfl
theorem zt_15_17 : Nat.blt 15 17 = true := rfl
theorem zt_16_17 : Nat.blt 16 17 = true := rfl
theorem mk_app {c : Nat → Nat → Int32} {t u : mM} : mk c t ++ u = mk c (t ++ u) := rfl
theorem mk_len {c : Nat → Nat → Int32} {t : mM} : (mk c t).length = t.length + 20 := rfl
theorem mk_get {c : Nat → Nat → Int32} {a : mC} {t : mM} : (mk c (a :: t))[20]? = some a := rfl
theorem mk_set {c : Nat → Nat → Int32} {a b : mC} {t : mM} : (mk c (a :: t)).set 20 b = mk c (b :: t) := rfl
