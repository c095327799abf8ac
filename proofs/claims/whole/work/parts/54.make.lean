/-! the objects are made -/
theorem mv_57 : (57 : Int32).toNatClampNeg = 57 := rfl
theorem mv_11400 : (11400 : Int32).toNatClampNeg = 11400 := rfl
theorem mv_200 : (200 : Int32).toNatClampNeg = 200 := rfl
theorem mv_60 : (60 : Int32).toNatClampNeg = 60 := rfl
theorem mv_61 : (61 : Int32).toNatClampNeg = 61 := rfl
/-- a new row of numbers -/
theorem z_row {S : mS} {M : mM} {o n : Nat} (hn : n ≤ 1000000) (K : Option Value → mM → Prop) {x : Int32} (hx : x = nI n) : go S 20 0 [.ref o, .int x] [] M K = bnd (m_put (M ++ [.inl (n, fun _ => 0)]) o 3 0 (.ref M.length)) fun M1 => K none M1 := by
  subst hx
  have e1 : (if nI n < 0 then (0 : Int32) else nI n) = nI n := if_neg (nI_pos (by omega))
  simp only [↓g20_0, ↓g20_1, ↓g20_4, ↓g20_5, ↓g20_6, ↓g20_7, ↓g20_10, ↓g20_12, ↓g20_15, e1, nI_clamp (show n < 2 ^ 31 by omega), nI_pos' (show n < 2 ^ 31 by omega), hn, true_and]
theorem zb_0 : Nat.beq 0 0 = true := rfl
theorem zb_1 : Nat.beq 1 1 = true := rfl
theorem zb_2 : Nat.beq 2 2 = true := rfl
theorem zb_3 : Nat.beq 3 3 = true := rfl
theorem zb_4 : Nat.beq 4 4 = true := rfl
theorem zb_5 : Nat.beq 5 5 = true := rfl
theorem zb_6 : Nat.beq 6 6 = true := rfl
theorem zb_7 : Nat.beq 7 7 = true := rfl
theorem zt_0_1 : Nat.blt 0 1 = true := rfl
theorem zt_0_2 : Nat.blt 0 2 = true := rfl
theorem zt_1_2 : Nat.blt 1 2 = true := rfl
theorem zt_0_3 : Nat.blt 0 3 = true := rfl
theorem zt_1_3 : Nat.blt 1 3 = true := rfl
theorem zt_2_3 : Nat.blt 2 3 = true := rfl
theorem zt_0_4 : Nat.blt 0 4 = true := rfl
theorem zt_1_4 : Nat.blt 1 4 = true := rfl
theorem zt_2_4 : Nat.blt 2 4 = true := rfl
theorem zt_3_4 : Nat.blt 3 4 = true := rfl
theorem zt_0_5 : Nat.blt 0 5 = true := rfl
theorem zt_1_5 : Nat.blt 1 5 = true := rfl
theorem zt_2_5 : Nat.blt 2 5 = true := rfl
theorem zt_3_5 : Nat.blt 3 5 = true := rfl
theorem zt_4_5 : Nat.blt 4 5 = true := rfl
theorem zt_0_6 : Nat.blt 0 6 = true := rfl
theorem zt_1_6 : Nat.blt 1 6 = true := rfl
theorem zt_2_6 : Nat.blt 2 6 = true := rfl
theorem zt_3_6 : Nat.blt 3 6 = true := rfl
theorem zt_4_6 : Nat.blt 4 6 = true := rfl
theorem zt_5_6 : Nat.blt 5 6 = true := rfl
theorem zt_0_17 : Nat.blt 0 17 = true := rfl
theorem zt_1_17 : Nat.blt 1 17 = true := rfl
theorem zt_2_17 : Nat.blt 2 17 = true := rfl
theorem zt_3_17 : Nat.blt 3 17 = true := rfl
theorem zt_4_17 : Nat.blt 4 17 = true := rfl
theorem zt_5_17 : Nat.blt 5 17 = true := rfl
theorem zt_6_17 : Nat.blt 6 17 = true := rfl
theorem zt_7_17 : Nat.blt 7 17 = true := rfl
theorem zt_8_17 : Nat.blt 8 17 = true := rfl
theorem zt_9_17 : Nat.blt 9 17 = true := rfl
theorem zt_10_17 : Nat.blt 10 17 = true := rfl
theorem zt_11_17 : Nat.blt 11 17 = true := rfl
theorem zt_12_17 : Nat.blt 12 17 = true := rfl
theorem zt_13_17 : Nat.blt 13 17 = true := rfl
theorem zt_14_17 : Nat.blt 14 17 = true := rfl
theorem zt_15_17 : Nat.blt 15 17 = true := rfl
theorem zt_16_17 : Nat.blt 16 17 = true := rfl
/-- the class object -/
theorem z_new {S : mS} {a0 a1 a2 a3 : Value} {K : Option Value → mM → Prop} : go S 138 0 [a0, a1, a2, a3] [] [] K = go S 54 77 [.ref 0, .int 0] [] (mk (fun _ _ => 0) []) fun v M1 => m_pv v [.ref 0] fun st2 => go S 138 7 [a0, a1, a2, a3] st2 M1 K := by
  have r57 := fun M o K => z_row (S := S) (M := M) (o := o) (n := 57) (by decide) K (x := 57) rfl
  have r11 := fun M o K => z_row (S := S) (M := M) (o := o) (n := 11400) (by decide) K (x := 11400) rfl
  have r20 := fun M o K => z_row (S := S) (M := M) (o := o) (n := 200) (by decide) K (x := 200) rfl
  have r60 := fun M o K => z_row (S := S) (M := M) (o := o) (n := 60) (by decide) K (x := 60) rfl
  have r61 := fun M o K => z_row (S := S) (M := M) (o := o) (n := 61) (by decide) K (x := 61) rfl
  rw [g138_0, g138_3, g138_4]
  simp only [↓g54_0, ↓g54_1, ↓g54_4, ↓g54_5, ↓g54_8, ↓g54_9, ↓g54_12, ↓g54_15, ↓g54_16, ↓g54_19, ↓g54_20, ↓g54_21, ↓g54_24, ↓g54_27, ↓g54_30, ↓g54_31, ↓g54_34, ↓g54_35, ↓g54_36, ↓g54_39, ↓g54_40, ↓g54_43, ↓g54_46, ↓g54_49, ↓g54_50, ↓g54_53, ↓g54_54, ↓g54_55, ↓g54_58, ↓g54_61, ↓g54_64, ↓g54_65, ↓g54_68, ↓g54_69, ↓g54_72, ↓g54_75, ↓g54_76, ↓g54_78, ↓g54_80, ↓g54_83, ↓g54_84, ↓g54_87, ↓g54_88, ↓g54_89, ↓g54_90, ↓g54_93, ↓g54_96, ↓g54_99, ↓g24_0, ↓g24_1, ↓g24_4, ↓g24_5, ↓g24_8, ↓g24_9, ↓g24_11, ↓g24_14, ↓g24_17, ↓g24_18, ↓g24_21, ↓g24_22, ↓g24_25, ↓g24_28, ↓g24_31, ↓g37_0, ↓g37_1, ↓g37_4, ↓g37_5, ↓g37_6, ↓g37_9, ↓g37_10, ↓g37_13, ↓g37_14, ↓g37_17, ↓g37_20, ↓g37_23, ↓g37_24, ↓g37_27, ↓g37_28, ↓g37_31, ↓g37_34, ↓g37_37, ↓g37_38, ↓g37_41, ↓g37_42, ↓g37_45, ↓g37_48, ↓g37_51, ↓g12_0, ↓g12_1, ↓g12_4, ↓g12_5, ↓g12_6, ↓g12_9, ↓g12_10, ↓g12_11, ↓g12_14, ↓g0_0, ↓g0_1, ↓g0_4, ↓g0_5, ↓g0_6, ↓g0_9, ↓g4_0, ↓g4_1, ↓g4_4, ↓g4_5, ↓g4_8, ↓g4_9, ↓g4_11, ↓g4_14, ↓g4_17, ↓g4_18, ↓g4_21, ↓g4_22, ↓g4_24, ↓g4_27, ↓g4_30, ↓r57, ↓r11, ↓r20, ↓r60, ↓r61, ↓bnd_some, ↓cond_true, ↓m_pv_none, ↓m_pv_some, m_put, m_fld, m_arr, m_isO, bnd_some, List.getElem?_cons_succ, List.getElem?_cons_zero, Bool.and_self, cond_true, List.length_cons, List.length_nil, Nat.reduceAdd, Nat.zero_add, List.set_cons_zero, List.set_cons_succ, List.cons_append, List.nil_append, zb_0, zb_1, zb_2, zb_3, zb_4, zb_5, zb_6, zb_7, zt_0_1, zt_0_2, zt_1_2, zt_0_3, zt_1_3, zt_2_3, zt_0_4, zt_1_4, zt_2_4, zt_3_4, zt_0_5, zt_1_5, zt_2_5, zt_3_5, zt_4_5, zt_0_6, zt_1_6, zt_2_6, zt_3_6, zt_4_6, zt_5_6, zt_0_17, zt_1_17, zt_2_17, zt_3_17, zt_4_17, zt_5_17, zt_6_17, zt_7_17, zt_8_17, zt_9_17, zt_10_17, zt_11_17, zt_12_17, zt_13_17, zt_14_17, zt_15_17, zt_16_17]
  rfl
theorem mk_app {c : Nat → Nat → Int32} {t u : mM} : mk c t ++ u = mk c (t ++ u) := rfl
theorem mk_len {c : Nat → Nat → Int32} {t : mM} : (mk c t).length = t.length + 20 := rfl
theorem mk_get {c : Nat → Nat → Int32} {a : mC} {t : mM} : (mk c (a :: t))[20]? = some a := rfl
theorem mk_set {c : Nat → Nat → Int32} {a b : mC} {t : mM} : (mk c (a :: t)).set 20 b = mk c (b :: t) := rfl
theorem mz_1206 : (1206 : Int32).toNatClampNeg = 1206 := rfl
theorem mz_7236 : (7236 : Int32).toNatClampNeg = 7236 := rfl
theorem mz_2412 : (2412 : Int32).toNatClampNeg = 2412 := rfl
theorem mz_2 : (2 : Int32).toNatClampNeg = 2 := rfl
theorem mz_204 : (204 : Int32).toNatClampNeg = 204 := rfl
theorem mz_400 : (400 : Int32).toNatClampNeg = 400 := rfl
theorem mw_1206 : ((0 : Int32) ≤ 1206 ∧ 1206 ≤ 1000000) = True := eq_true ⟨by decide, by decide⟩
theorem mw_7236 : ((0 : Int32) ≤ 7236 ∧ 7236 ≤ 1000000) = True := eq_true ⟨by decide, by decide⟩
theorem mw_2412 : ((0 : Int32) ≤ 2412 ∧ 2412 ≤ 1000000) = True := eq_true ⟨by decide, by decide⟩
theorem mw_2 : ((0 : Int32) ≤ 2 ∧ 2 ≤ 1000000) = True := eq_true ⟨by decide, by decide⟩
theorem mw_60 : ((0 : Int32) ≤ 60 ∧ 60 ≤ 1000000) = True := eq_true ⟨by decide, by decide⟩
theorem mw_200 : ((0 : Int32) ≤ 200 ∧ 200 ≤ 1000000) = True := eq_true ⟨by decide, by decide⟩
theorem mw_204 : ((0 : Int32) ≤ 204 ∧ 204 ≤ 1000000) = True := eq_true ⟨by decide, by decide⟩
theorem mw_400 : ((0 : Int32) ≤ 400 ∧ 400 ≤ 1000000) = True := eq_true ⟨by decide, by decide⟩
/-- the model's object -/
theorem z_newM {S : mS} {c : Nat → Nat → Int32} {a0 a1 a2 a3 : Value} {K : Option Value → mM → Prop} : go S 138 8 [a0, a1, a2, a3] [] (mk c []) K = go S 82 102 [.ref 20, .int 0] [] (mk c (md (fun _ _ => 0))) fun v M1 => m_pv v [.ref 20] fun st2 => go S 138 15 [a0, a1, a2, a3] st2 M1 K := by
  rw [g138_8, g138_11, g138_12]
  simp only [↓g82_0, ↓g82_1, ↓g82_4, ↓g82_5, ↓g82_8, ↓g82_10, ↓g82_13, ↓g82_14, ↓g82_17, ↓g82_19, ↓g82_22, ↓g82_23, ↓g82_26, ↓g82_28, ↓g82_31, ↓g82_32, ↓g82_33, ↓g82_35, ↓g82_38, ↓g82_39, ↓g82_41, ↓g82_43, ↓g82_46, ↓g82_47, ↓g82_50, ↓g82_52, ↓g82_55, ↓g82_56, ↓g82_59, ↓g82_61, ↓g82_64, ↓g82_65, ↓g82_68, ↓g82_70, ↓g82_73, ↓g82_74, ↓g82_77, ↓g82_79, ↓g82_82, ↓g82_83, ↓g82_86, ↓g82_88, ↓g82_91, ↓g82_92, ↓g82_95, ↓g82_97, ↓g82_100, ↓g82_101, ↓g82_103, ↓g82_105, ↓g82_108, ↓g82_109, ↓g82_112, ↓g82_113, ↓g82_114, ↓g82_115, ↓g82_116, ↓g82_119, ↓g82_121, ↓g82_124, ↓g82_125, ↓g82_126, ↓g82_127, ↓g82_130, ↓g82_131, ↓g82_134, ↓g82_137, mk_app, mk_len, mk_get, mk_set, mz_1206, mz_7236, mz_2412, mz_2, mz_204, mz_400, mv_60, mv_200, mw_1206, mw_7236, mw_2412, mw_2, mw_60, mw_200, mw_204, mw_400, true_and, ↓bnd_some, ↓cond_true, ↓m_pv_none, ↓m_pv_some, m_put, m_fld, m_arr, m_isO, bnd_some, List.getElem?_cons_succ, List.getElem?_cons_zero, Bool.and_self, cond_true, List.length_cons, List.length_nil, Nat.reduceAdd, Nat.zero_add, List.set_cons_zero, List.set_cons_succ, List.cons_append, List.nil_append, zb_0, zb_1, zb_2, zb_3, zb_4, zb_5, zb_6, zb_7, zt_0_1, zt_0_2, zt_1_2, zt_0_3, zt_1_3, zt_2_3, zt_0_4, zt_1_4, zt_2_4, zt_3_4, zt_0_5, zt_1_5, zt_2_5, zt_3_5, zt_4_5, zt_0_6, zt_1_6, zt_2_6, zt_3_6, zt_4_6, zt_5_6, zt_0_17, zt_1_17, zt_2_17, zt_3_17, zt_4_17, zt_5_17, zt_6_17, zt_7_17, zt_8_17, zt_9_17, zt_10_17, zt_11_17, zt_12_17, zt_13_17, zt_14_17, zt_15_17, zt_16_17]
  rfl
