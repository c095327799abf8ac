/-! the object's calls, to the end -/
section CALLS3
variable {S : mS} {t : mM} {c : Nat → Nat → Int32} {σ : Sg}
theorem C_ends (h : CI c σ) (ho : SOk σ) (x o f : Int32) : CC S 66 [.ref 0, .int x, .int o, .int f] c t (F_ends σ x o f) := by
  unfold F_ends
  cases hx : rgx x 6 with
  | none => exact ⟨c, h, fun K => by simp only [↓g66_0, ↓g66_1, ↓g66_4, ↓g66_7, ↓g66_8, ↓g66_9, ↓g66_10, ↓g66_13, ↓g66_16, ↓g66_17, ↓g66_20, ↓g66_23, ↓g66_25, ↓g66_26, ↓g66_27, ↓g66_30, ↓g66_31, ↓g66_33, ↓g66_36, ↓g66_37, ↓g66_40, ↓g66_42, ↓g66_43, ↓g66_44, ↓g66_47, ↓g66_50, ↓g66_51, ↓g66_54, ↓g66_57, ↓g66_60, ↓g66_62, ↓mo_0, ↓mf_0_0, ↓mf_0_1, ↓mf_0_2, ↓mf_0_3, ↓mf_0_4, ↓mo_1, ↓mf_1_0, ↓mf_1_1, ↓mo_2, ↓mf_2_0, ↓mo_4, ↓mf_4_0, ↓mo_6, ↓mf_6_0, ↓mf_6_1, ↓mf_6_2, ↓mf_6_3, ↓mp_6_4, ↓mf_6_4, ↓mp_6_5, ↓mf_6_5, ↓mo_7, ↓mf_7_0, ↓mo_9, ↓mf_9_0, ↓mo_11, ↓mf_11_0, ↓mo_13, ↓mf_13_0, ↓mf_13_1, ↓mp_13_2, ↓mf_13_2, ↓mp_13_3, ↓mf_13_3, ↓mo_14, ↓mf_14_0, ↓mp_14_1, ↓mf_14_1, ↓mp_14_2, ↓mf_14_2, ↓mo_15, ↓mf_15_0, ↓mf_15_1, ↓mp_15_2, ↓mf_15_2, ↓mo_16, ↓mf_16_0, ↓mo_18, ↓mf_18_0, ↓ma_3, ↓ms_3, ↓ma_5, ↓ms_5, ↓ma_8, ↓ms_8, ↓ma_10, ↓ms_10, ↓ma_12, ↓ms_12, ↓ma_17, ↓ms_17, ↓ma_19, ↓ms_19, ↓bnd_some, ↓cond_true, ↓m_pv_none, ↓m_pv_some, m_b01_0, m_b01_1, true_and, and_true, ↓n_reg (rgx_no hx), ↓reduceIte, eq_self, i_10]⟩
  | some i =>
    obtain ⟨hi, rfl⟩ := rgx_some hx (by decide)
    have y1 := fun K => y_reg (S := S) (M := mk c t) (inR_nI hi (by decide)) K
    cases hy : rgx o 3 with
    | none => exact ⟨c, h, fun K => by simp only [↓g66_0, ↓g66_1, ↓g66_4, ↓g66_7, ↓g66_8, ↓g66_9, ↓g66_10, ↓g66_13, ↓g66_16, ↓g66_17, ↓g66_20, ↓g66_23, ↓g66_25, ↓g66_26, ↓g66_27, ↓g66_30, ↓g66_31, ↓g66_33, ↓g66_36, ↓g66_37, ↓g66_40, ↓g66_42, ↓g66_43, ↓g66_44, ↓g66_47, ↓g66_50, ↓g66_51, ↓g66_54, ↓g66_57, ↓g66_60, ↓g66_62, ↓mo_0, ↓mf_0_0, ↓mf_0_1, ↓mf_0_2, ↓mf_0_3, ↓mf_0_4, ↓mo_1, ↓mf_1_0, ↓mf_1_1, ↓mo_2, ↓mf_2_0, ↓mo_4, ↓mf_4_0, ↓mo_6, ↓mf_6_0, ↓mf_6_1, ↓mf_6_2, ↓mf_6_3, ↓mp_6_4, ↓mf_6_4, ↓mp_6_5, ↓mf_6_5, ↓mo_7, ↓mf_7_0, ↓mo_9, ↓mf_9_0, ↓mo_11, ↓mf_11_0, ↓mo_13, ↓mf_13_0, ↓mf_13_1, ↓mp_13_2, ↓mf_13_2, ↓mp_13_3, ↓mf_13_3, ↓mo_14, ↓mf_14_0, ↓mp_14_1, ↓mf_14_1, ↓mp_14_2, ↓mf_14_2, ↓mo_15, ↓mf_15_0, ↓mf_15_1, ↓mp_15_2, ↓mf_15_2, ↓mo_16, ↓mf_16_0, ↓mo_18, ↓mf_18_0, ↓ma_3, ↓ms_3, ↓ma_5, ↓ms_5, ↓ma_8, ↓ms_8, ↓ma_10, ↓ms_10, ↓ma_12, ↓ms_12, ↓ma_17, ↓ms_17, ↓ma_19, ↓ms_19, ↓bnd_some, ↓cond_true, ↓m_pv_none, ↓m_pv_some, m_b01_0, m_b01_1, true_and, and_true, ↓y1, ↓n_ord (rgx_no hy), ↓reduceIte, eq_self, i_10]⟩
    | some o =>
      obtain ⟨hj, rfl⟩ := rgx_some hy (by decide)
      have y2 := fun K => y_ord (S := S) (M := mk c t) (inR_nI hj (by decide)) K
      cases hz : fux f with
      | none => exact ⟨c, h, fun K => by simp only [↓g66_0, ↓g66_1, ↓g66_4, ↓g66_7, ↓g66_8, ↓g66_9, ↓g66_10, ↓g66_13, ↓g66_16, ↓g66_17, ↓g66_20, ↓g66_23, ↓g66_25, ↓g66_26, ↓g66_27, ↓g66_30, ↓g66_31, ↓g66_33, ↓g66_36, ↓g66_37, ↓g66_40, ↓g66_42, ↓g66_43, ↓g66_44, ↓g66_47, ↓g66_50, ↓g66_51, ↓g66_54, ↓g66_57, ↓g66_60, ↓g66_62, ↓mo_0, ↓mf_0_0, ↓mf_0_1, ↓mf_0_2, ↓mf_0_3, ↓mf_0_4, ↓mo_1, ↓mf_1_0, ↓mf_1_1, ↓mo_2, ↓mf_2_0, ↓mo_4, ↓mf_4_0, ↓mo_6, ↓mf_6_0, ↓mf_6_1, ↓mf_6_2, ↓mf_6_3, ↓mp_6_4, ↓mf_6_4, ↓mp_6_5, ↓mf_6_5, ↓mo_7, ↓mf_7_0, ↓mo_9, ↓mf_9_0, ↓mo_11, ↓mf_11_0, ↓mo_13, ↓mf_13_0, ↓mf_13_1, ↓mp_13_2, ↓mf_13_2, ↓mp_13_3, ↓mf_13_3, ↓mo_14, ↓mf_14_0, ↓mp_14_1, ↓mf_14_1, ↓mp_14_2, ↓mf_14_2, ↓mo_15, ↓mf_15_0, ↓mf_15_1, ↓mp_15_2, ↓mf_15_2, ↓mo_16, ↓mf_16_0, ↓mo_18, ↓mf_18_0, ↓ma_3, ↓ms_3, ↓ma_5, ↓ms_5, ↓ma_8, ↓ms_8, ↓ma_10, ↓ms_10, ↓ma_12, ↓ms_12, ↓ma_17, ↓ms_17, ↓ma_19, ↓ms_19, ↓bnd_some, ↓cond_true, ↓m_pv_none, ↓m_pv_some, m_b01_0, m_b01_1, true_and, and_true, ↓y1, ↓y2, ↓n_fuel (fux_no hz), ↓reduceIte, eq_self, i_10]⟩
      | some n =>
        obtain ⟨f1, f2, rfl⟩ := fux_some hz
        have y3 := fun K => y_fuel (S := S) (M := mk c t) ⟨nI_le (a := 1) f1 (by omega), nI_le (b := 200) f2 (by decide)⟩ K
        obtain ⟨T, nx, h1⟩ := h
        have hk := ho.reg hi
        have e2 : T i = σ.1 i := h1.at hi
        obtain ⟨c2, h2, s2, g2⟩ := q_duplicate (S := S) (t := t) h1.1 (i := i) (j := 54) (by omega) (by omega) (y := 54)
        rw [e2] at h2
        obtain ⟨c3, T3, h4, t4, s4, m4, -, g4⟩ := w_steps (S := S) (t := t) (v := 54) (o := o) (n := n) (by omega) hj f2 h2 (by rw [tu_eq]; exact hk) (x := 54)
        rw [tu_eq] at t4 m4 g4
        have h5 := h1.same h4 (fun j hj => by rw [t4 j (by omega), tu_ne (by omega), tu_ne (by omega)]) (sx_tr (fun q hq => s2 q (by simp at hq ⊢; omega)) s4) (by simp) (by simp) (by simp)
        refine ⟨c3, ⟨_, _, h5⟩, fun K => ?_⟩
        dsimp only
        by_cases hn : nxt (rn o n (σ.1 i)).2.2 o = none
        · rw [if_pos hn] at g4 ⊢
          simp only [↓g66_0, ↓g66_1, ↓g66_4, ↓g66_7, ↓g66_8, ↓g66_9, ↓g66_10, ↓g66_13, ↓g66_16, ↓g66_17, ↓g66_20, ↓g66_23, ↓g66_25, ↓g66_26, ↓g66_27, ↓g66_30, ↓g66_31, ↓g66_33, ↓g66_36, ↓g66_37, ↓g66_40, ↓g66_42, ↓g66_43, ↓g66_44, ↓g66_47, ↓g66_50, ↓g66_51, ↓g66_54, ↓g66_57, ↓g66_60, ↓g66_62, ↓g13_0, ↓g13_1, ↓g13_4, ↓mo_0, ↓mf_0_0, ↓mf_0_1, ↓mf_0_2, ↓mf_0_3, ↓mf_0_4, ↓mo_1, ↓mf_1_0, ↓mf_1_1, ↓mo_2, ↓mf_2_0, ↓mo_4, ↓mf_4_0, ↓mo_6, ↓mf_6_0, ↓mf_6_1, ↓mf_6_2, ↓mf_6_3, ↓mp_6_4, ↓mf_6_4, ↓mp_6_5, ↓mf_6_5, ↓mo_7, ↓mf_7_0, ↓mo_9, ↓mf_9_0, ↓mo_11, ↓mf_11_0, ↓mo_13, ↓mf_13_0, ↓mf_13_1, ↓mp_13_2, ↓mf_13_2, ↓mp_13_3, ↓mf_13_3, ↓mo_14, ↓mf_14_0, ↓mp_14_1, ↓mf_14_1, ↓mp_14_2, ↓mf_14_2, ↓mo_15, ↓mf_15_0, ↓mf_15_1, ↓mp_15_2, ↓mf_15_2, ↓mo_16, ↓mf_16_0, ↓mo_18, ↓mf_18_0, ↓ma_3, ↓ms_3, ↓ma_5, ↓ms_5, ↓ma_8, ↓ms_8, ↓ma_10, ↓ms_10, ↓ma_12, ↓ms_12, ↓ma_17, ↓ms_17, ↓ma_19, ↓ms_19, ↓bnd_some, ↓cond_true, ↓m_pv_none, ↓m_pv_some, m_b01_0, m_b01_1, true_and, and_true, ↓y1, ↓y2, ↓y3, ↓g2, ↓g4, m4, ↓reduceIte, eq_self, i_10]
        · rw [if_neg hn] at g4 ⊢
          simp only [↓g66_0, ↓g66_1, ↓g66_4, ↓g66_7, ↓g66_8, ↓g66_9, ↓g66_10, ↓g66_13, ↓g66_16, ↓g66_17, ↓g66_20, ↓g66_23, ↓g66_25, ↓g66_26, ↓g66_27, ↓g66_30, ↓g66_31, ↓g66_33, ↓g66_36, ↓g66_37, ↓g66_40, ↓g66_42, ↓g66_43, ↓g66_44, ↓g66_47, ↓g66_50, ↓g66_51, ↓g66_54, ↓g66_57, ↓g66_60, ↓g66_62, ↓g13_0, ↓g13_1, ↓g13_4, ↓mo_0, ↓mf_0_0, ↓mf_0_1, ↓mf_0_2, ↓mf_0_3, ↓mf_0_4, ↓mo_1, ↓mf_1_0, ↓mf_1_1, ↓mo_2, ↓mf_2_0, ↓mo_4, ↓mf_4_0, ↓mo_6, ↓mf_6_0, ↓mf_6_1, ↓mf_6_2, ↓mf_6_3, ↓mp_6_4, ↓mf_6_4, ↓mp_6_5, ↓mf_6_5, ↓mo_7, ↓mf_7_0, ↓mo_9, ↓mf_9_0, ↓mo_11, ↓mf_11_0, ↓mo_13, ↓mf_13_0, ↓mf_13_1, ↓mp_13_2, ↓mf_13_2, ↓mp_13_3, ↓mf_13_3, ↓mo_14, ↓mf_14_0, ↓mp_14_1, ↓mf_14_1, ↓mp_14_2, ↓mf_14_2, ↓mo_15, ↓mf_15_0, ↓mf_15_1, ↓mp_15_2, ↓mf_15_2, ↓mo_16, ↓mf_16_0, ↓mo_18, ↓mf_18_0, ↓ma_3, ↓ms_3, ↓ma_5, ↓ms_5, ↓ma_8, ↓ms_8, ↓ma_10, ↓ms_10, ↓ma_12, ↓ms_12, ↓ma_17, ↓ms_17, ↓ma_19, ↓ms_19, ↓bnd_some, ↓cond_true, ↓m_pv_none, ↓m_pv_some, m_b01_0, m_b01_1, true_and, and_true, ↓y1, ↓y2, ↓y3, ↓g2, ↓g4, m4, ↓reduceIte, eq_self, i_10]
theorem C_most (h : CI c σ) (ho : SOk σ) (x o f : Int32) : CC S 68 [.ref 0, .int x, .int o, .int f] c t (F_most σ x o f) := by
  unfold F_most
  cases hx : rgx x 6 with
  | none => exact ⟨c, h, fun K => by simp only [↓g68_0, ↓g68_1, ↓g68_4, ↓g68_7, ↓g68_8, ↓g68_9, ↓g68_10, ↓g68_13, ↓g68_16, ↓g68_17, ↓g68_20, ↓g68_23, ↓g68_25, ↓g68_26, ↓g68_27, ↓g68_30, ↓g68_31, ↓g68_33, ↓g68_36, ↓g68_37, ↓g68_40, ↓g68_42, ↓g68_43, ↓g68_44, ↓g68_47, ↓g68_48, ↓g68_49, ↓g68_52, ↓g68_55, ↓mo_0, ↓mf_0_0, ↓mf_0_1, ↓mf_0_2, ↓mf_0_3, ↓mf_0_4, ↓mo_1, ↓mf_1_0, ↓mf_1_1, ↓mo_2, ↓mf_2_0, ↓mo_4, ↓mf_4_0, ↓mo_6, ↓mf_6_0, ↓mf_6_1, ↓mf_6_2, ↓mf_6_3, ↓mp_6_4, ↓mf_6_4, ↓mp_6_5, ↓mf_6_5, ↓mo_7, ↓mf_7_0, ↓mo_9, ↓mf_9_0, ↓mo_11, ↓mf_11_0, ↓mo_13, ↓mf_13_0, ↓mf_13_1, ↓mp_13_2, ↓mf_13_2, ↓mp_13_3, ↓mf_13_3, ↓mo_14, ↓mf_14_0, ↓mp_14_1, ↓mf_14_1, ↓mp_14_2, ↓mf_14_2, ↓mo_15, ↓mf_15_0, ↓mf_15_1, ↓mp_15_2, ↓mf_15_2, ↓mo_16, ↓mf_16_0, ↓mo_18, ↓mf_18_0, ↓ma_3, ↓ms_3, ↓ma_5, ↓ms_5, ↓ma_8, ↓ms_8, ↓ma_10, ↓ms_10, ↓ma_12, ↓ms_12, ↓ma_17, ↓ms_17, ↓ma_19, ↓ms_19, ↓bnd_some, ↓cond_true, ↓m_pv_none, ↓m_pv_some, m_b01_0, m_b01_1, true_and, and_true, ↓n_reg (rgx_no hx), ↓reduceIte, eq_self, i_10]⟩
  | some i =>
    obtain ⟨hi, rfl⟩ := rgx_some hx (by decide)
    have y1 := fun K => y_reg (S := S) (M := mk c t) (inR_nI hi (by decide)) K
    cases hy : rgx o 3 with
    | none => exact ⟨c, h, fun K => by simp only [↓g68_0, ↓g68_1, ↓g68_4, ↓g68_7, ↓g68_8, ↓g68_9, ↓g68_10, ↓g68_13, ↓g68_16, ↓g68_17, ↓g68_20, ↓g68_23, ↓g68_25, ↓g68_26, ↓g68_27, ↓g68_30, ↓g68_31, ↓g68_33, ↓g68_36, ↓g68_37, ↓g68_40, ↓g68_42, ↓g68_43, ↓g68_44, ↓g68_47, ↓g68_48, ↓g68_49, ↓g68_52, ↓g68_55, ↓mo_0, ↓mf_0_0, ↓mf_0_1, ↓mf_0_2, ↓mf_0_3, ↓mf_0_4, ↓mo_1, ↓mf_1_0, ↓mf_1_1, ↓mo_2, ↓mf_2_0, ↓mo_4, ↓mf_4_0, ↓mo_6, ↓mf_6_0, ↓mf_6_1, ↓mf_6_2, ↓mf_6_3, ↓mp_6_4, ↓mf_6_4, ↓mp_6_5, ↓mf_6_5, ↓mo_7, ↓mf_7_0, ↓mo_9, ↓mf_9_0, ↓mo_11, ↓mf_11_0, ↓mo_13, ↓mf_13_0, ↓mf_13_1, ↓mp_13_2, ↓mf_13_2, ↓mp_13_3, ↓mf_13_3, ↓mo_14, ↓mf_14_0, ↓mp_14_1, ↓mf_14_1, ↓mp_14_2, ↓mf_14_2, ↓mo_15, ↓mf_15_0, ↓mf_15_1, ↓mp_15_2, ↓mf_15_2, ↓mo_16, ↓mf_16_0, ↓mo_18, ↓mf_18_0, ↓ma_3, ↓ms_3, ↓ma_5, ↓ms_5, ↓ma_8, ↓ms_8, ↓ma_10, ↓ms_10, ↓ma_12, ↓ms_12, ↓ma_17, ↓ms_17, ↓ma_19, ↓ms_19, ↓bnd_some, ↓cond_true, ↓m_pv_none, ↓m_pv_some, m_b01_0, m_b01_1, true_and, and_true, ↓y1, ↓n_ord (rgx_no hy), ↓reduceIte, eq_self, i_10]⟩
    | some o =>
      obtain ⟨hj, rfl⟩ := rgx_some hy (by decide)
      have y2 := fun K => y_ord (S := S) (M := mk c t) (inR_nI hj (by decide)) K
      cases hz : fux f with
      | none => exact ⟨c, h, fun K => by simp only [↓g68_0, ↓g68_1, ↓g68_4, ↓g68_7, ↓g68_8, ↓g68_9, ↓g68_10, ↓g68_13, ↓g68_16, ↓g68_17, ↓g68_20, ↓g68_23, ↓g68_25, ↓g68_26, ↓g68_27, ↓g68_30, ↓g68_31, ↓g68_33, ↓g68_36, ↓g68_37, ↓g68_40, ↓g68_42, ↓g68_43, ↓g68_44, ↓g68_47, ↓g68_48, ↓g68_49, ↓g68_52, ↓g68_55, ↓mo_0, ↓mf_0_0, ↓mf_0_1, ↓mf_0_2, ↓mf_0_3, ↓mf_0_4, ↓mo_1, ↓mf_1_0, ↓mf_1_1, ↓mo_2, ↓mf_2_0, ↓mo_4, ↓mf_4_0, ↓mo_6, ↓mf_6_0, ↓mf_6_1, ↓mf_6_2, ↓mf_6_3, ↓mp_6_4, ↓mf_6_4, ↓mp_6_5, ↓mf_6_5, ↓mo_7, ↓mf_7_0, ↓mo_9, ↓mf_9_0, ↓mo_11, ↓mf_11_0, ↓mo_13, ↓mf_13_0, ↓mf_13_1, ↓mp_13_2, ↓mf_13_2, ↓mp_13_3, ↓mf_13_3, ↓mo_14, ↓mf_14_0, ↓mp_14_1, ↓mf_14_1, ↓mp_14_2, ↓mf_14_2, ↓mo_15, ↓mf_15_0, ↓mf_15_1, ↓mp_15_2, ↓mf_15_2, ↓mo_16, ↓mf_16_0, ↓mo_18, ↓mf_18_0, ↓ma_3, ↓ms_3, ↓ma_5, ↓ms_5, ↓ma_8, ↓ms_8, ↓ma_10, ↓ms_10, ↓ma_12, ↓ms_12, ↓ma_17, ↓ms_17, ↓ma_19, ↓ms_19, ↓bnd_some, ↓cond_true, ↓m_pv_none, ↓m_pv_some, m_b01_0, m_b01_1, true_and, and_true, ↓y1, ↓y2, ↓n_fuel (fux_no hz), ↓reduceIte, eq_self, i_10]⟩
      | some n =>
        obtain ⟨f1, f2, rfl⟩ := fux_some hz
        have y3 := fun K => y_fuel (S := S) (M := mk c t) ⟨nI_le (a := 1) f1 (by omega), nI_le (b := 200) f2 (by decide)⟩ K
        obtain ⟨T, nx, h1⟩ := h
        have hk := ho.reg hi
        have e2 : T i = σ.1 i := h1.at hi
        obtain ⟨c2, h2, s2, g2⟩ := q_duplicate (S := S) (t := t) h1.1 (i := i) (j := 54) (by omega) (by omega) (y := 54)
        rw [e2] at h2
        obtain ⟨c3, T3, h4, t4, s4, -, m4, g4⟩ := w_steps (S := S) (t := t) (v := 54) (o := o) (n := n) (by omega) hj f2 h2 (by rw [tu_eq]; exact hk) (x := 54)
        rw [tu_eq] at t4 m4 g4
        have h5 := h1.same h4 (fun j hj => by rw [t4 j (by omega), tu_ne (by omega), tu_ne (by omega)]) (sx_tr (fun q hq => s2 q (by simp at hq ⊢; omega)) s4) (by simp) (by simp) (by simp)
        refine ⟨c3, ⟨_, _, h5⟩, fun K => ?_⟩
        simp only [↓g68_0, ↓g68_1, ↓g68_4, ↓g68_7, ↓g68_8, ↓g68_9, ↓g68_10, ↓g68_13, ↓g68_16, ↓g68_17, ↓g68_20, ↓g68_23, ↓g68_25, ↓g68_26, ↓g68_27, ↓g68_30, ↓g68_31, ↓g68_33, ↓g68_36, ↓g68_37, ↓g68_40, ↓g68_42, ↓g68_43, ↓g68_44, ↓g68_47, ↓g68_48, ↓g68_49, ↓g68_52, ↓g68_55, ↓g14_0, ↓g14_1, ↓g14_4, ↓mo_0, ↓mf_0_0, ↓mf_0_1, ↓mf_0_2, ↓mf_0_3, ↓mf_0_4, ↓mo_1, ↓mf_1_0, ↓mf_1_1, ↓mo_2, ↓mf_2_0, ↓mo_4, ↓mf_4_0, ↓mo_6, ↓mf_6_0, ↓mf_6_1, ↓mf_6_2, ↓mf_6_3, ↓mp_6_4, ↓mf_6_4, ↓mp_6_5, ↓mf_6_5, ↓mo_7, ↓mf_7_0, ↓mo_9, ↓mf_9_0, ↓mo_11, ↓mf_11_0, ↓mo_13, ↓mf_13_0, ↓mf_13_1, ↓mp_13_2, ↓mf_13_2, ↓mp_13_3, ↓mf_13_3, ↓mo_14, ↓mf_14_0, ↓mp_14_1, ↓mf_14_1, ↓mp_14_2, ↓mf_14_2, ↓mo_15, ↓mf_15_0, ↓mf_15_1, ↓mp_15_2, ↓mf_15_2, ↓mo_16, ↓mf_16_0, ↓mo_18, ↓mf_18_0, ↓ma_3, ↓ms_3, ↓ma_5, ↓ms_5, ↓ma_8, ↓ms_8, ↓ma_10, ↓ms_10, ↓ma_12, ↓ms_12, ↓ma_17, ↓ms_17, ↓ma_19, ↓ms_19, ↓bnd_some, ↓cond_true, ↓m_pv_none, ↓m_pv_some, m_b01_0, m_b01_1, true_and, and_true, ↓y1, ↓y2, ↓y3, ↓g2, ↓g4, m4, ↓reduceIte, eq_self, i_10]
theorem C_agree (h : CI c σ) (ho : SOk σ) (x f : Int32) : CC S 67 [.ref 0, .int x, .int f] c t (F_agree σ x f) := by
  unfold F_agree
  cases hx : rgx x 6 with
  | none => exact ⟨c, h, fun K => by simp only [↓g67_0, ↓g67_1, ↓g67_4, ↓g67_7, ↓g67_8, ↓g67_9, ↓g67_10, ↓g67_13, ↓g67_16, ↓g67_18, ↓g67_19, ↓g67_20, ↓g67_23, ↓g67_24, ↓g67_26, ↓g67_29, ↓g67_30, ↓g67_33, ↓g67_34, ↓g67_36, ↓g67_39, ↓g67_40, ↓g67_43, ↓g67_45, ↓g67_46, ↓g67_47, ↓g67_50, ↓g67_53, ↓g67_54, ↓g67_57, ↓g67_59, ↓g67_60, ↓g67_61, ↓g67_64, ↓g67_67, ↓g67_69, ↓g67_70, ↓g67_71, ↓g67_74, ↓g67_76, ↓g67_78, ↓g67_81, ↓g67_84, ↓g67_85, ↓g67_88, ↓g67_89, ↓mo_0, ↓mf_0_0, ↓mf_0_1, ↓mf_0_2, ↓mf_0_3, ↓mf_0_4, ↓mo_1, ↓mf_1_0, ↓mf_1_1, ↓mo_2, ↓mf_2_0, ↓mo_4, ↓mf_4_0, ↓mo_6, ↓mf_6_0, ↓mf_6_1, ↓mf_6_2, ↓mf_6_3, ↓mp_6_4, ↓mf_6_4, ↓mp_6_5, ↓mf_6_5, ↓mo_7, ↓mf_7_0, ↓mo_9, ↓mf_9_0, ↓mo_11, ↓mf_11_0, ↓mo_13, ↓mf_13_0, ↓mf_13_1, ↓mp_13_2, ↓mf_13_2, ↓mp_13_3, ↓mf_13_3, ↓mo_14, ↓mf_14_0, ↓mp_14_1, ↓mf_14_1, ↓mp_14_2, ↓mf_14_2, ↓mo_15, ↓mf_15_0, ↓mf_15_1, ↓mp_15_2, ↓mf_15_2, ↓mo_16, ↓mf_16_0, ↓mo_18, ↓mf_18_0, ↓ma_3, ↓ms_3, ↓ma_5, ↓ms_5, ↓ma_8, ↓ms_8, ↓ma_10, ↓ms_10, ↓ma_12, ↓ms_12, ↓ma_17, ↓ms_17, ↓ma_19, ↓ms_19, ↓bnd_some, ↓cond_true, ↓m_pv_none, ↓m_pv_some, m_b01_0, m_b01_1, true_and, and_true, ↓n_reg (rgx_no hx), ↓reduceIte, eq_self, i_10]⟩
  | some i =>
    obtain ⟨hi, rfl⟩ := rgx_some hx (by decide)
    have y1 := fun K => y_reg (S := S) (M := mk c t) (inR_nI hi (by decide)) K
    cases hz : fux f with
    | none => exact ⟨c, h, fun K => by simp only [↓g67_0, ↓g67_1, ↓g67_4, ↓g67_7, ↓g67_8, ↓g67_9, ↓g67_10, ↓g67_13, ↓g67_16, ↓g67_18, ↓g67_19, ↓g67_20, ↓g67_23, ↓g67_24, ↓g67_26, ↓g67_29, ↓g67_30, ↓g67_33, ↓g67_34, ↓g67_36, ↓g67_39, ↓g67_40, ↓g67_43, ↓g67_45, ↓g67_46, ↓g67_47, ↓g67_50, ↓g67_53, ↓g67_54, ↓g67_57, ↓g67_59, ↓g67_60, ↓g67_61, ↓g67_64, ↓g67_67, ↓g67_69, ↓g67_70, ↓g67_71, ↓g67_74, ↓g67_76, ↓g67_78, ↓g67_81, ↓g67_84, ↓g67_85, ↓g67_88, ↓g67_89, ↓mo_0, ↓mf_0_0, ↓mf_0_1, ↓mf_0_2, ↓mf_0_3, ↓mf_0_4, ↓mo_1, ↓mf_1_0, ↓mf_1_1, ↓mo_2, ↓mf_2_0, ↓mo_4, ↓mf_4_0, ↓mo_6, ↓mf_6_0, ↓mf_6_1, ↓mf_6_2, ↓mf_6_3, ↓mp_6_4, ↓mf_6_4, ↓mp_6_5, ↓mf_6_5, ↓mo_7, ↓mf_7_0, ↓mo_9, ↓mf_9_0, ↓mo_11, ↓mf_11_0, ↓mo_13, ↓mf_13_0, ↓mf_13_1, ↓mp_13_2, ↓mf_13_2, ↓mp_13_3, ↓mf_13_3, ↓mo_14, ↓mf_14_0, ↓mp_14_1, ↓mf_14_1, ↓mp_14_2, ↓mf_14_2, ↓mo_15, ↓mf_15_0, ↓mf_15_1, ↓mp_15_2, ↓mf_15_2, ↓mo_16, ↓mf_16_0, ↓mo_18, ↓mf_18_0, ↓ma_3, ↓ms_3, ↓ma_5, ↓ms_5, ↓ma_8, ↓ms_8, ↓ma_10, ↓ms_10, ↓ma_12, ↓ms_12, ↓ma_17, ↓ms_17, ↓ma_19, ↓ms_19, ↓bnd_some, ↓cond_true, ↓m_pv_none, ↓m_pv_some, m_b01_0, m_b01_1, true_and, and_true, ↓y1, ↓n_fuel (fux_no hz), ↓reduceIte, eq_self, i_10]⟩
    | some n =>
      obtain ⟨f1, f2, rfl⟩ := fux_some hz
      have y3 := fun K => y_fuel (S := S) (M := mk c t) ⟨nI_le (a := 1) f1 (by omega), nI_le (b := 200) f2 (by decide)⟩ K
      obtain ⟨T, nx, h1⟩ := h
      have hk := ho.reg hi
      have e2 : T i = σ.1 i := h1.at hi
      obtain ⟨c2, h2, s2, g2⟩ := q_duplicate (S := S) (t := t) h1.1 (i := i) (j := 54) (by omega) (by omega) (y := 54)
      obtain ⟨c3, h3, s3, g3⟩ := q_duplicate (S := S) (t := t) h2 (i := i) (j := 55) (by omega) (by omega) (y := 55)
      rw [tu_ne (by omega)] at h3
      rw [e2] at h3
      have u1 : tu (tu T 54 (σ.1 i)) 55 (σ.1 i) 54 = σ.1 i := by rw [tu_ne (by decide), tu_eq]
      obtain ⟨c4, T4, h4, t4, s4, -, -, g4⟩ := w_steps (S := S) (t := t) (v := 54) (o := 0) (n := n) (by omega) (by decide) f2 h3 (by rw [u1]; exact hk) (x := 54) (y := 0)
      rw [u1] at t4 g4
      have u2 : T4 55 = σ.1 i := by rw [t4 55 (by decide), tu_ne (by decide), tu_eq]
      obtain ⟨c5, T5, h5, t5, s5, -, -, g5⟩ := w_steps (S := S) (t := t) (v := 55) (o := 1) (n := n) (by omega) (by decide) f2 h4 (by rw [u2]; exact hk) (x := 55) (y := 1)
      rw [u2] at t5 g5
      have u3 : T5 54 = (rn 0 n (σ.1 i)).2.2 := by rw [t5 54 (by decide), tu_ne (by decide), t4 54 (by decide), tu_eq]
      have u4 : T5 55 = (rn 1 n (σ.1 i)).2.2 := by rw [t5 55 (by decide), tu_eq]
      have a0 := fun K => q_alike (S := S) (t := t) h5 (i := 54) (j := 55) (by omega) (by omega) K (x := 54) (y := 55)
      rw [u3, u4] at a0
      have s4' : sx [3, 5, 6, 8, 10, 12, 13] c c4 := sx_tr (fun q hq => s2 q (by simp at hq ⊢; omega)) (sx_tr (fun q hq => s3 q (by simp at hq ⊢; omega)) s4)
      have h4c := h1.same h4 (fun j hj => by rw [t4 j (by omega), tu_ne (by omega), tu_ne (by omega), tu_ne (by omega)]) s4' (by simp) (by simp) (by simp)
      have h5c := h4c.same h5 (fun j hj => by rw [t5 j (by omega), tu_ne (by omega)]) s5 (by simp) (by simp) (by simp)
      dsimp only
      unfold mtv
      by_cases hn : nxt (rn 0 n (σ.1 i)).2.2 0 = none
      · rw [if_pos hn] at g4 ⊢
        refine ⟨c5, ⟨_, _, h5c⟩, fun K => ?_⟩
        by_cases hm : nxt (rn 1 n (σ.1 i)).2.2 1 = none
        · rw [if_pos hm] at g5 ⊢
          by_cases he : (rn 0 n (σ.1 i)).2.2 = (rn 1 n (σ.1 i)).2.2
          · simp only [if_pos he] at a0 ⊢
            simp only [↓g67_0, ↓g67_1, ↓g67_4, ↓g67_7, ↓g67_8, ↓g67_9, ↓g67_10, ↓g67_13, ↓g67_16, ↓g67_18, ↓g67_19, ↓g67_20, ↓g67_23, ↓g67_24, ↓g67_26, ↓g67_29, ↓g67_30, ↓g67_33, ↓g67_34, ↓g67_36, ↓g67_39, ↓g67_40, ↓g67_43, ↓g67_45, ↓g67_46, ↓g67_47, ↓g67_50, ↓g67_53, ↓g67_54, ↓g67_57, ↓g67_59, ↓g67_60, ↓g67_61, ↓g67_64, ↓g67_67, ↓g67_69, ↓g67_70, ↓g67_71, ↓g67_74, ↓g67_76, ↓g67_78, ↓g67_81, ↓g67_84, ↓g67_85, ↓g67_88, ↓g67_89, ↓mo_0, ↓mf_0_0, ↓mf_0_1, ↓mf_0_2, ↓mf_0_3, ↓mf_0_4, ↓mo_1, ↓mf_1_0, ↓mf_1_1, ↓mo_2, ↓mf_2_0, ↓mo_4, ↓mf_4_0, ↓mo_6, ↓mf_6_0, ↓mf_6_1, ↓mf_6_2, ↓mf_6_3, ↓mp_6_4, ↓mf_6_4, ↓mp_6_5, ↓mf_6_5, ↓mo_7, ↓mf_7_0, ↓mo_9, ↓mf_9_0, ↓mo_11, ↓mf_11_0, ↓mo_13, ↓mf_13_0, ↓mf_13_1, ↓mp_13_2, ↓mf_13_2, ↓mp_13_3, ↓mf_13_3, ↓mo_14, ↓mf_14_0, ↓mp_14_1, ↓mf_14_1, ↓mp_14_2, ↓mf_14_2, ↓mo_15, ↓mf_15_0, ↓mf_15_1, ↓mp_15_2, ↓mf_15_2, ↓mo_16, ↓mf_16_0, ↓mo_18, ↓mf_18_0, ↓ma_3, ↓ms_3, ↓ma_5, ↓ms_5, ↓ma_8, ↓ms_8, ↓ma_10, ↓ms_10, ↓ma_12, ↓ms_12, ↓ma_17, ↓ms_17, ↓ma_19, ↓ms_19, ↓bnd_some, ↓cond_true, ↓m_pv_none, ↓m_pv_some, m_b01_0, m_b01_1, true_and, and_true, ↓y1, ↓y3, ↓g2, ↓g3, ↓g4, ↓g5, ↓a0, ↓reduceIte, eq_self, i_10]
          · simp only [if_neg he] at a0 ⊢
            simp only [↓g67_0, ↓g67_1, ↓g67_4, ↓g67_7, ↓g67_8, ↓g67_9, ↓g67_10, ↓g67_13, ↓g67_16, ↓g67_18, ↓g67_19, ↓g67_20, ↓g67_23, ↓g67_24, ↓g67_26, ↓g67_29, ↓g67_30, ↓g67_33, ↓g67_34, ↓g67_36, ↓g67_39, ↓g67_40, ↓g67_43, ↓g67_45, ↓g67_46, ↓g67_47, ↓g67_50, ↓g67_53, ↓g67_54, ↓g67_57, ↓g67_59, ↓g67_60, ↓g67_61, ↓g67_64, ↓g67_67, ↓g67_69, ↓g67_70, ↓g67_71, ↓g67_74, ↓g67_76, ↓g67_78, ↓g67_81, ↓g67_84, ↓g67_85, ↓g67_88, ↓g67_89, ↓mo_0, ↓mf_0_0, ↓mf_0_1, ↓mf_0_2, ↓mf_0_3, ↓mf_0_4, ↓mo_1, ↓mf_1_0, ↓mf_1_1, ↓mo_2, ↓mf_2_0, ↓mo_4, ↓mf_4_0, ↓mo_6, ↓mf_6_0, ↓mf_6_1, ↓mf_6_2, ↓mf_6_3, ↓mp_6_4, ↓mf_6_4, ↓mp_6_5, ↓mf_6_5, ↓mo_7, ↓mf_7_0, ↓mo_9, ↓mf_9_0, ↓mo_11, ↓mf_11_0, ↓mo_13, ↓mf_13_0, ↓mf_13_1, ↓mp_13_2, ↓mf_13_2, ↓mp_13_3, ↓mf_13_3, ↓mo_14, ↓mf_14_0, ↓mp_14_1, ↓mf_14_1, ↓mp_14_2, ↓mf_14_2, ↓mo_15, ↓mf_15_0, ↓mf_15_1, ↓mp_15_2, ↓mf_15_2, ↓mo_16, ↓mf_16_0, ↓mo_18, ↓mf_18_0, ↓ma_3, ↓ms_3, ↓ma_5, ↓ms_5, ↓ma_8, ↓ms_8, ↓ma_10, ↓ms_10, ↓ma_12, ↓ms_12, ↓ma_17, ↓ms_17, ↓ma_19, ↓ms_19, ↓bnd_some, ↓cond_true, ↓m_pv_none, ↓m_pv_some, m_b01_0, m_b01_1, true_and, and_true, ↓y1, ↓y3, ↓g2, ↓g3, ↓g4, ↓g5, ↓a0, ↓reduceIte, eq_self, i_10]
        · rw [if_neg hm] at g5 ⊢
          simp only [↓g67_0, ↓g67_1, ↓g67_4, ↓g67_7, ↓g67_8, ↓g67_9, ↓g67_10, ↓g67_13, ↓g67_16, ↓g67_18, ↓g67_19, ↓g67_20, ↓g67_23, ↓g67_24, ↓g67_26, ↓g67_29, ↓g67_30, ↓g67_33, ↓g67_34, ↓g67_36, ↓g67_39, ↓g67_40, ↓g67_43, ↓g67_45, ↓g67_46, ↓g67_47, ↓g67_50, ↓g67_53, ↓g67_54, ↓g67_57, ↓g67_59, ↓g67_60, ↓g67_61, ↓g67_64, ↓g67_67, ↓g67_69, ↓g67_70, ↓g67_71, ↓g67_74, ↓g67_76, ↓g67_78, ↓g67_81, ↓g67_84, ↓g67_85, ↓g67_88, ↓g67_89, ↓mo_0, ↓mf_0_0, ↓mf_0_1, ↓mf_0_2, ↓mf_0_3, ↓mf_0_4, ↓mo_1, ↓mf_1_0, ↓mf_1_1, ↓mo_2, ↓mf_2_0, ↓mo_4, ↓mf_4_0, ↓mo_6, ↓mf_6_0, ↓mf_6_1, ↓mf_6_2, ↓mf_6_3, ↓mp_6_4, ↓mf_6_4, ↓mp_6_5, ↓mf_6_5, ↓mo_7, ↓mf_7_0, ↓mo_9, ↓mf_9_0, ↓mo_11, ↓mf_11_0, ↓mo_13, ↓mf_13_0, ↓mf_13_1, ↓mp_13_2, ↓mf_13_2, ↓mp_13_3, ↓mf_13_3, ↓mo_14, ↓mf_14_0, ↓mp_14_1, ↓mf_14_1, ↓mp_14_2, ↓mf_14_2, ↓mo_15, ↓mf_15_0, ↓mf_15_1, ↓mp_15_2, ↓mf_15_2, ↓mo_16, ↓mf_16_0, ↓mo_18, ↓mf_18_0, ↓ma_3, ↓ms_3, ↓ma_5, ↓ms_5, ↓ma_8, ↓ms_8, ↓ma_10, ↓ms_10, ↓ma_12, ↓ms_12, ↓ma_17, ↓ms_17, ↓ma_19, ↓ms_19, ↓bnd_some, ↓cond_true, ↓m_pv_none, ↓m_pv_some, m_b01_0, m_b01_1, true_and, and_true, ↓y1, ↓y3, ↓g2, ↓g3, ↓g4, ↓g5, ↓reduceIte, eq_self, i_10]
      · rw [if_neg hn] at g4 ⊢
        refine ⟨c4, ⟨_, _, h4c⟩, fun K => ?_⟩
        simp only [↓g67_0, ↓g67_1, ↓g67_4, ↓g67_7, ↓g67_8, ↓g67_9, ↓g67_10, ↓g67_13, ↓g67_16, ↓g67_18, ↓g67_19, ↓g67_20, ↓g67_23, ↓g67_24, ↓g67_26, ↓g67_29, ↓g67_30, ↓g67_33, ↓g67_34, ↓g67_36, ↓g67_39, ↓g67_40, ↓g67_43, ↓g67_45, ↓g67_46, ↓g67_47, ↓g67_50, ↓g67_53, ↓g67_54, ↓g67_57, ↓g67_59, ↓g67_60, ↓g67_61, ↓g67_64, ↓g67_67, ↓g67_69, ↓g67_70, ↓g67_71, ↓g67_74, ↓g67_76, ↓g67_78, ↓g67_81, ↓g67_84, ↓g67_85, ↓g67_88, ↓g67_89, ↓mo_0, ↓mf_0_0, ↓mf_0_1, ↓mf_0_2, ↓mf_0_3, ↓mf_0_4, ↓mo_1, ↓mf_1_0, ↓mf_1_1, ↓mo_2, ↓mf_2_0, ↓mo_4, ↓mf_4_0, ↓mo_6, ↓mf_6_0, ↓mf_6_1, ↓mf_6_2, ↓mf_6_3, ↓mp_6_4, ↓mf_6_4, ↓mp_6_5, ↓mf_6_5, ↓mo_7, ↓mf_7_0, ↓mo_9, ↓mf_9_0, ↓mo_11, ↓mf_11_0, ↓mo_13, ↓mf_13_0, ↓mf_13_1, ↓mp_13_2, ↓mf_13_2, ↓mp_13_3, ↓mf_13_3, ↓mo_14, ↓mf_14_0, ↓mp_14_1, ↓mf_14_1, ↓mp_14_2, ↓mf_14_2, ↓mo_15, ↓mf_15_0, ↓mf_15_1, ↓mp_15_2, ↓mf_15_2, ↓mo_16, ↓mf_16_0, ↓mo_18, ↓mf_18_0, ↓ma_3, ↓ms_3, ↓ma_5, ↓ms_5, ↓ma_8, ↓ms_8, ↓ma_10, ↓ms_10, ↓ma_12, ↓ms_12, ↓ma_17, ↓ms_17, ↓ma_19, ↓ms_19, ↓bnd_some, ↓cond_true, ↓m_pv_none, ↓m_pv_some, m_b01_0, m_b01_1, true_and, and_true, ↓y1, ↓y3, ↓g2, ↓g3, ↓g4, ↓reduceIte, eq_self, i_10]
theorem C_alike (h : CI c σ) (ho : SOk σ) (x y f : Int32) : CC S 69 [.ref 0, .int x, .int y, .int f] c t (F_alike σ x y f) := by
  unfold F_alike
  cases hx : rgx x 6 with
  | none => exact ⟨c, h, fun K => by simp only [↓g69_0, ↓g69_1, ↓g69_4, ↓g69_7, ↓g69_8, ↓g69_11, ↓g69_14, ↓g69_15, ↓g69_16, ↓g69_17, ↓g69_20, ↓g69_23, ↓g69_25, ↓g69_26, ↓g69_27, ↓g69_30, ↓g69_31, ↓g69_33, ↓g69_36, ↓g69_37, ↓g69_40, ↓g69_41, ↓g69_43, ↓g69_46, ↓g69_47, ↓g69_50, ↓g69_52, ↓g69_53, ↓g69_54, ↓g69_57, ↓g69_60, ↓g69_61, ↓g69_64, ↓g69_66, ↓g69_67, ↓g69_68, ↓g69_71, ↓g69_74, ↓g69_76, ↓g69_77, ↓g69_78, ↓g69_81, ↓g69_83, ↓g69_85, ↓g69_88, ↓g69_91, ↓g69_92, ↓g69_95, ↓g69_96, ↓mo_0, ↓mf_0_0, ↓mf_0_1, ↓mf_0_2, ↓mf_0_3, ↓mf_0_4, ↓mo_1, ↓mf_1_0, ↓mf_1_1, ↓mo_2, ↓mf_2_0, ↓mo_4, ↓mf_4_0, ↓mo_6, ↓mf_6_0, ↓mf_6_1, ↓mf_6_2, ↓mf_6_3, ↓mp_6_4, ↓mf_6_4, ↓mp_6_5, ↓mf_6_5, ↓mo_7, ↓mf_7_0, ↓mo_9, ↓mf_9_0, ↓mo_11, ↓mf_11_0, ↓mo_13, ↓mf_13_0, ↓mf_13_1, ↓mp_13_2, ↓mf_13_2, ↓mp_13_3, ↓mf_13_3, ↓mo_14, ↓mf_14_0, ↓mp_14_1, ↓mf_14_1, ↓mp_14_2, ↓mf_14_2, ↓mo_15, ↓mf_15_0, ↓mf_15_1, ↓mp_15_2, ↓mf_15_2, ↓mo_16, ↓mf_16_0, ↓mo_18, ↓mf_18_0, ↓ma_3, ↓ms_3, ↓ma_5, ↓ms_5, ↓ma_8, ↓ms_8, ↓ma_10, ↓ms_10, ↓ma_12, ↓ms_12, ↓ma_17, ↓ms_17, ↓ma_19, ↓ms_19, ↓bnd_some, ↓cond_true, ↓m_pv_none, ↓m_pv_some, m_b01_0, m_b01_1, true_and, and_true, ↓n_reg (rgx_no hx), ↓reduceIte, eq_self, i_10]⟩
  | some i =>
    obtain ⟨hi, rfl⟩ := rgx_some hx (by decide)
    have y1 := fun K => y_reg (S := S) (M := mk c t) (inR_nI hi (by decide)) K
    cases hy : rgx y 6 with
    | none => exact ⟨c, h, fun K => by simp only [↓g69_0, ↓g69_1, ↓g69_4, ↓g69_7, ↓g69_8, ↓g69_11, ↓g69_14, ↓g69_15, ↓g69_16, ↓g69_17, ↓g69_20, ↓g69_23, ↓g69_25, ↓g69_26, ↓g69_27, ↓g69_30, ↓g69_31, ↓g69_33, ↓g69_36, ↓g69_37, ↓g69_40, ↓g69_41, ↓g69_43, ↓g69_46, ↓g69_47, ↓g69_50, ↓g69_52, ↓g69_53, ↓g69_54, ↓g69_57, ↓g69_60, ↓g69_61, ↓g69_64, ↓g69_66, ↓g69_67, ↓g69_68, ↓g69_71, ↓g69_74, ↓g69_76, ↓g69_77, ↓g69_78, ↓g69_81, ↓g69_83, ↓g69_85, ↓g69_88, ↓g69_91, ↓g69_92, ↓g69_95, ↓g69_96, ↓mo_0, ↓mf_0_0, ↓mf_0_1, ↓mf_0_2, ↓mf_0_3, ↓mf_0_4, ↓mo_1, ↓mf_1_0, ↓mf_1_1, ↓mo_2, ↓mf_2_0, ↓mo_4, ↓mf_4_0, ↓mo_6, ↓mf_6_0, ↓mf_6_1, ↓mf_6_2, ↓mf_6_3, ↓mp_6_4, ↓mf_6_4, ↓mp_6_5, ↓mf_6_5, ↓mo_7, ↓mf_7_0, ↓mo_9, ↓mf_9_0, ↓mo_11, ↓mf_11_0, ↓mo_13, ↓mf_13_0, ↓mf_13_1, ↓mp_13_2, ↓mf_13_2, ↓mp_13_3, ↓mf_13_3, ↓mo_14, ↓mf_14_0, ↓mp_14_1, ↓mf_14_1, ↓mp_14_2, ↓mf_14_2, ↓mo_15, ↓mf_15_0, ↓mf_15_1, ↓mp_15_2, ↓mf_15_2, ↓mo_16, ↓mf_16_0, ↓mo_18, ↓mf_18_0, ↓ma_3, ↓ms_3, ↓ma_5, ↓ms_5, ↓ma_8, ↓ms_8, ↓ma_10, ↓ms_10, ↓ma_12, ↓ms_12, ↓ma_17, ↓ms_17, ↓ma_19, ↓ms_19, ↓bnd_some, ↓cond_true, ↓m_pv_none, ↓m_pv_some, m_b01_0, m_b01_1, true_and, and_true, ↓y1, ↓n_reg (rgx_no hy), ↓reduceIte, eq_self, i_10]⟩
    | some j =>
      obtain ⟨hj, rfl⟩ := rgx_some hy (by decide)
      have y2 := fun K => y_reg (S := S) (M := mk c t) (inR_nI hj (by decide)) K
      cases hz : fux f with
      | none => exact ⟨c, h, fun K => by simp only [↓g69_0, ↓g69_1, ↓g69_4, ↓g69_7, ↓g69_8, ↓g69_11, ↓g69_14, ↓g69_15, ↓g69_16, ↓g69_17, ↓g69_20, ↓g69_23, ↓g69_25, ↓g69_26, ↓g69_27, ↓g69_30, ↓g69_31, ↓g69_33, ↓g69_36, ↓g69_37, ↓g69_40, ↓g69_41, ↓g69_43, ↓g69_46, ↓g69_47, ↓g69_50, ↓g69_52, ↓g69_53, ↓g69_54, ↓g69_57, ↓g69_60, ↓g69_61, ↓g69_64, ↓g69_66, ↓g69_67, ↓g69_68, ↓g69_71, ↓g69_74, ↓g69_76, ↓g69_77, ↓g69_78, ↓g69_81, ↓g69_83, ↓g69_85, ↓g69_88, ↓g69_91, ↓g69_92, ↓g69_95, ↓g69_96, ↓mo_0, ↓mf_0_0, ↓mf_0_1, ↓mf_0_2, ↓mf_0_3, ↓mf_0_4, ↓mo_1, ↓mf_1_0, ↓mf_1_1, ↓mo_2, ↓mf_2_0, ↓mo_4, ↓mf_4_0, ↓mo_6, ↓mf_6_0, ↓mf_6_1, ↓mf_6_2, ↓mf_6_3, ↓mp_6_4, ↓mf_6_4, ↓mp_6_5, ↓mf_6_5, ↓mo_7, ↓mf_7_0, ↓mo_9, ↓mf_9_0, ↓mo_11, ↓mf_11_0, ↓mo_13, ↓mf_13_0, ↓mf_13_1, ↓mp_13_2, ↓mf_13_2, ↓mp_13_3, ↓mf_13_3, ↓mo_14, ↓mf_14_0, ↓mp_14_1, ↓mf_14_1, ↓mp_14_2, ↓mf_14_2, ↓mo_15, ↓mf_15_0, ↓mf_15_1, ↓mp_15_2, ↓mf_15_2, ↓mo_16, ↓mf_16_0, ↓mo_18, ↓mf_18_0, ↓ma_3, ↓ms_3, ↓ma_5, ↓ms_5, ↓ma_8, ↓ms_8, ↓ma_10, ↓ms_10, ↓ma_12, ↓ms_12, ↓ma_17, ↓ms_17, ↓ma_19, ↓ms_19, ↓bnd_some, ↓cond_true, ↓m_pv_none, ↓m_pv_some, m_b01_0, m_b01_1, true_and, and_true, ↓y1, ↓y2, ↓n_fuel (fux_no hz), ↓reduceIte, eq_self, i_10]⟩
      | some n =>
        obtain ⟨f1, f2, rfl⟩ := fux_some hz
        have y3 := fun K => y_fuel (S := S) (M := mk c t) ⟨nI_le (a := 1) f1 (by omega), nI_le (b := 200) f2 (by decide)⟩ K
        obtain ⟨T, nx, h1⟩ := h
        have e2 : T i = σ.1 i := h1.at hi
        have e3 : T j = σ.1 j := h1.at hj
        obtain ⟨c2, h2, s2, g2⟩ := q_duplicate (S := S) (t := t) h1.1 (i := i) (j := 54) (by omega) (by omega) (y := 54)
        obtain ⟨c3, h3, s3, g3⟩ := q_duplicate (S := S) (t := t) h2 (i := j) (j := 55) (by omega) (by omega) (y := 55)
        rw [tu_ne (by omega)] at h3
        rw [e2, e3] at h3
        have u1 : tu (tu T 54 (σ.1 i)) 55 (σ.1 j) 54 = σ.1 i := by rw [tu_ne (by decide), tu_eq]
        obtain ⟨c4, T4, h4, t4, s4, -, -, g4⟩ := w_steps (S := S) (t := t) (v := 54) (o := 0) (n := n) (by omega) (by decide) f2 h3 (by rw [u1]; exact ho.reg hi) (x := 54) (y := 0)
        rw [u1] at t4 g4
        have u2 : T4 55 = σ.1 j := by rw [t4 55 (by decide), tu_ne (by decide), tu_eq]
        obtain ⟨c5, T5, h5, t5, s5, -, -, g5⟩ := w_steps (S := S) (t := t) (v := 55) (o := 0) (n := n) (by omega) (by decide) f2 h4 (by rw [u2]; exact ho.reg hj) (x := 55) (y := 0)
        rw [u2] at t5 g5
        have u3 : T5 54 = (rn 0 n (σ.1 i)).2.2 := by rw [t5 54 (by decide), tu_ne (by decide), t4 54 (by decide), tu_eq]
        have u4 : T5 55 = (rn 0 n (σ.1 j)).2.2 := by rw [t5 55 (by decide), tu_eq]
        have a0 := fun K => q_alike (S := S) (t := t) h5 (i := 54) (j := 55) (by omega) (by omega) K (x := 54) (y := 55)
        rw [u3, u4] at a0
        have s4' : sx [3, 5, 6, 8, 10, 12, 13] c c4 := sx_tr (fun q hq => s2 q (by simp at hq ⊢; omega)) (sx_tr (fun q hq => s3 q (by simp at hq ⊢; omega)) s4)
        have h4c := h1.same h4 (fun j hj => by rw [t4 j (by omega), tu_ne (by omega), tu_ne (by omega), tu_ne (by omega)]) s4' (by simp) (by simp) (by simp)
        have h5c := h4c.same h5 (fun j hj => by rw [t5 j (by omega), tu_ne (by omega)]) s5 (by simp) (by simp) (by simp)
        dsimp only
        unfold mtv
        by_cases hn : nxt (rn 0 n (σ.1 i)).2.2 0 = none
        · rw [if_pos hn] at g4 ⊢
          refine ⟨c5, ⟨_, _, h5c⟩, fun K => ?_⟩
          by_cases hm : nxt (rn 0 n (σ.1 j)).2.2 0 = none
          · rw [if_pos hm] at g5 ⊢
            by_cases he : (rn 0 n (σ.1 i)).2.2 = (rn 0 n (σ.1 j)).2.2
            · simp only [if_pos he] at a0 ⊢
              simp only [↓g69_0, ↓g69_1, ↓g69_4, ↓g69_7, ↓g69_8, ↓g69_11, ↓g69_14, ↓g69_15, ↓g69_16, ↓g69_17, ↓g69_20, ↓g69_23, ↓g69_25, ↓g69_26, ↓g69_27, ↓g69_30, ↓g69_31, ↓g69_33, ↓g69_36, ↓g69_37, ↓g69_40, ↓g69_41, ↓g69_43, ↓g69_46, ↓g69_47, ↓g69_50, ↓g69_52, ↓g69_53, ↓g69_54, ↓g69_57, ↓g69_60, ↓g69_61, ↓g69_64, ↓g69_66, ↓g69_67, ↓g69_68, ↓g69_71, ↓g69_74, ↓g69_76, ↓g69_77, ↓g69_78, ↓g69_81, ↓g69_83, ↓g69_85, ↓g69_88, ↓g69_91, ↓g69_92, ↓g69_95, ↓g69_96, ↓mo_0, ↓mf_0_0, ↓mf_0_1, ↓mf_0_2, ↓mf_0_3, ↓mf_0_4, ↓mo_1, ↓mf_1_0, ↓mf_1_1, ↓mo_2, ↓mf_2_0, ↓mo_4, ↓mf_4_0, ↓mo_6, ↓mf_6_0, ↓mf_6_1, ↓mf_6_2, ↓mf_6_3, ↓mp_6_4, ↓mf_6_4, ↓mp_6_5, ↓mf_6_5, ↓mo_7, ↓mf_7_0, ↓mo_9, ↓mf_9_0, ↓mo_11, ↓mf_11_0, ↓mo_13, ↓mf_13_0, ↓mf_13_1, ↓mp_13_2, ↓mf_13_2, ↓mp_13_3, ↓mf_13_3, ↓mo_14, ↓mf_14_0, ↓mp_14_1, ↓mf_14_1, ↓mp_14_2, ↓mf_14_2, ↓mo_15, ↓mf_15_0, ↓mf_15_1, ↓mp_15_2, ↓mf_15_2, ↓mo_16, ↓mf_16_0, ↓mo_18, ↓mf_18_0, ↓ma_3, ↓ms_3, ↓ma_5, ↓ms_5, ↓ma_8, ↓ms_8, ↓ma_10, ↓ms_10, ↓ma_12, ↓ms_12, ↓ma_17, ↓ms_17, ↓ma_19, ↓ms_19, ↓bnd_some, ↓cond_true, ↓m_pv_none, ↓m_pv_some, m_b01_0, m_b01_1, true_and, and_true, ↓y1, ↓y2, ↓y3, ↓g2, ↓g3, ↓g4, ↓g5, ↓a0, ↓reduceIte, eq_self, i_10]
            · simp only [if_neg he] at a0 ⊢
              simp only [↓g69_0, ↓g69_1, ↓g69_4, ↓g69_7, ↓g69_8, ↓g69_11, ↓g69_14, ↓g69_15, ↓g69_16, ↓g69_17, ↓g69_20, ↓g69_23, ↓g69_25, ↓g69_26, ↓g69_27, ↓g69_30, ↓g69_31, ↓g69_33, ↓g69_36, ↓g69_37, ↓g69_40, ↓g69_41, ↓g69_43, ↓g69_46, ↓g69_47, ↓g69_50, ↓g69_52, ↓g69_53, ↓g69_54, ↓g69_57, ↓g69_60, ↓g69_61, ↓g69_64, ↓g69_66, ↓g69_67, ↓g69_68, ↓g69_71, ↓g69_74, ↓g69_76, ↓g69_77, ↓g69_78, ↓g69_81, ↓g69_83, ↓g69_85, ↓g69_88, ↓g69_91, ↓g69_92, ↓g69_95, ↓g69_96, ↓mo_0, ↓mf_0_0, ↓mf_0_1, ↓mf_0_2, ↓mf_0_3, ↓mf_0_4, ↓mo_1, ↓mf_1_0, ↓mf_1_1, ↓mo_2, ↓mf_2_0, ↓mo_4, ↓mf_4_0, ↓mo_6, ↓mf_6_0, ↓mf_6_1, ↓mf_6_2, ↓mf_6_3, ↓mp_6_4, ↓mf_6_4, ↓mp_6_5, ↓mf_6_5, ↓mo_7, ↓mf_7_0, ↓mo_9, ↓mf_9_0, ↓mo_11, ↓mf_11_0, ↓mo_13, ↓mf_13_0, ↓mf_13_1, ↓mp_13_2, ↓mf_13_2, ↓mp_13_3, ↓mf_13_3, ↓mo_14, ↓mf_14_0, ↓mp_14_1, ↓mf_14_1, ↓mp_14_2, ↓mf_14_2, ↓mo_15, ↓mf_15_0, ↓mf_15_1, ↓mp_15_2, ↓mf_15_2, ↓mo_16, ↓mf_16_0, ↓mo_18, ↓mf_18_0, ↓ma_3, ↓ms_3, ↓ma_5, ↓ms_5, ↓ma_8, ↓ms_8, ↓ma_10, ↓ms_10, ↓ma_12, ↓ms_12, ↓ma_17, ↓ms_17, ↓ma_19, ↓ms_19, ↓bnd_some, ↓cond_true, ↓m_pv_none, ↓m_pv_some, m_b01_0, m_b01_1, true_and, and_true, ↓y1, ↓y2, ↓y3, ↓g2, ↓g3, ↓g4, ↓g5, ↓a0, ↓reduceIte, eq_self, i_10]
          · rw [if_neg hm] at g5 ⊢
            simp only [↓g69_0, ↓g69_1, ↓g69_4, ↓g69_7, ↓g69_8, ↓g69_11, ↓g69_14, ↓g69_15, ↓g69_16, ↓g69_17, ↓g69_20, ↓g69_23, ↓g69_25, ↓g69_26, ↓g69_27, ↓g69_30, ↓g69_31, ↓g69_33, ↓g69_36, ↓g69_37, ↓g69_40, ↓g69_41, ↓g69_43, ↓g69_46, ↓g69_47, ↓g69_50, ↓g69_52, ↓g69_53, ↓g69_54, ↓g69_57, ↓g69_60, ↓g69_61, ↓g69_64, ↓g69_66, ↓g69_67, ↓g69_68, ↓g69_71, ↓g69_74, ↓g69_76, ↓g69_77, ↓g69_78, ↓g69_81, ↓g69_83, ↓g69_85, ↓g69_88, ↓g69_91, ↓g69_92, ↓g69_95, ↓g69_96, ↓mo_0, ↓mf_0_0, ↓mf_0_1, ↓mf_0_2, ↓mf_0_3, ↓mf_0_4, ↓mo_1, ↓mf_1_0, ↓mf_1_1, ↓mo_2, ↓mf_2_0, ↓mo_4, ↓mf_4_0, ↓mo_6, ↓mf_6_0, ↓mf_6_1, ↓mf_6_2, ↓mf_6_3, ↓mp_6_4, ↓mf_6_4, ↓mp_6_5, ↓mf_6_5, ↓mo_7, ↓mf_7_0, ↓mo_9, ↓mf_9_0, ↓mo_11, ↓mf_11_0, ↓mo_13, ↓mf_13_0, ↓mf_13_1, ↓mp_13_2, ↓mf_13_2, ↓mp_13_3, ↓mf_13_3, ↓mo_14, ↓mf_14_0, ↓mp_14_1, ↓mf_14_1, ↓mp_14_2, ↓mf_14_2, ↓mo_15, ↓mf_15_0, ↓mf_15_1, ↓mp_15_2, ↓mf_15_2, ↓mo_16, ↓mf_16_0, ↓mo_18, ↓mf_18_0, ↓ma_3, ↓ms_3, ↓ma_5, ↓ms_5, ↓ma_8, ↓ms_8, ↓ma_10, ↓ms_10, ↓ma_12, ↓ms_12, ↓ma_17, ↓ms_17, ↓ma_19, ↓ms_19, ↓bnd_some, ↓cond_true, ↓m_pv_none, ↓m_pv_some, m_b01_0, m_b01_1, true_and, and_true, ↓y1, ↓y2, ↓y3, ↓g2, ↓g3, ↓g4, ↓g5, ↓reduceIte, eq_self, i_10]
        · rw [if_neg hn] at g4 ⊢
          refine ⟨c4, ⟨_, _, h4c⟩, fun K => ?_⟩
          simp only [↓g69_0, ↓g69_1, ↓g69_4, ↓g69_7, ↓g69_8, ↓g69_11, ↓g69_14, ↓g69_15, ↓g69_16, ↓g69_17, ↓g69_20, ↓g69_23, ↓g69_25, ↓g69_26, ↓g69_27, ↓g69_30, ↓g69_31, ↓g69_33, ↓g69_36, ↓g69_37, ↓g69_40, ↓g69_41, ↓g69_43, ↓g69_46, ↓g69_47, ↓g69_50, ↓g69_52, ↓g69_53, ↓g69_54, ↓g69_57, ↓g69_60, ↓g69_61, ↓g69_64, ↓g69_66, ↓g69_67, ↓g69_68, ↓g69_71, ↓g69_74, ↓g69_76, ↓g69_77, ↓g69_78, ↓g69_81, ↓g69_83, ↓g69_85, ↓g69_88, ↓g69_91, ↓g69_92, ↓g69_95, ↓g69_96, ↓mo_0, ↓mf_0_0, ↓mf_0_1, ↓mf_0_2, ↓mf_0_3, ↓mf_0_4, ↓mo_1, ↓mf_1_0, ↓mf_1_1, ↓mo_2, ↓mf_2_0, ↓mo_4, ↓mf_4_0, ↓mo_6, ↓mf_6_0, ↓mf_6_1, ↓mf_6_2, ↓mf_6_3, ↓mp_6_4, ↓mf_6_4, ↓mp_6_5, ↓mf_6_5, ↓mo_7, ↓mf_7_0, ↓mo_9, ↓mf_9_0, ↓mo_11, ↓mf_11_0, ↓mo_13, ↓mf_13_0, ↓mf_13_1, ↓mp_13_2, ↓mf_13_2, ↓mp_13_3, ↓mf_13_3, ↓mo_14, ↓mf_14_0, ↓mp_14_1, ↓mf_14_1, ↓mp_14_2, ↓mf_14_2, ↓mo_15, ↓mf_15_0, ↓mf_15_1, ↓mp_15_2, ↓mf_15_2, ↓mo_16, ↓mf_16_0, ↓mo_18, ↓mf_18_0, ↓ma_3, ↓ms_3, ↓ma_5, ↓ms_5, ↓ma_8, ↓ms_8, ↓ma_10, ↓ms_10, ↓ma_12, ↓ms_12, ↓ma_17, ↓ms_17, ↓ma_19, ↓ms_19, ↓bnd_some, ↓cond_true, ↓m_pv_none, ↓m_pv_some, m_b01_0, m_b01_1, true_and, and_true, ↓y1, ↓y2, ↓y3, ↓g2, ↓g3, ↓g4, ↓reduceIte, eq_self, i_10]
theorem C_put (h : CI c σ) {r : Nat} (hr : r < 2 ^ 64) : CC S 70 [.ref 0, .long (lN r), .null, .null] c t (F_put σ r) := by
  unfold F_put
  have g1 := fun K => p_chars (S := S) (mk c t) hr K
  cases hb : bys 8 r with
  | none =>
    rw [hb] at g1
    exact ⟨c, h, fun K => by simp only [↓g70_0, ↓g70_1, ↓g70_4, ↓g70_5, ↓g70_6, ↓g70_9, ↓g70_11, ↓g70_12, ↓g70_13, ↓g70_16, ↓g70_19, ↓g70_20, ↓g70_21, ↓g70_23, ↓g70_26, ↓g70_28, ↓g70_29, ↓g70_30, ↓g70_33, ↓g70_34, ↓g70_35, ↓g70_38, ↓g70_39, ↓g70_42, ↓g70_45, ↓mo_0, ↓mf_0_0, ↓mf_0_1, ↓mf_0_2, ↓mf_0_3, ↓mf_0_4, ↓mo_1, ↓mf_1_0, ↓mf_1_1, ↓mo_2, ↓mf_2_0, ↓mo_4, ↓mf_4_0, ↓mo_6, ↓mf_6_0, ↓mf_6_1, ↓mf_6_2, ↓mf_6_3, ↓mp_6_4, ↓mf_6_4, ↓mp_6_5, ↓mf_6_5, ↓mo_7, ↓mf_7_0, ↓mo_9, ↓mf_9_0, ↓mo_11, ↓mf_11_0, ↓mo_13, ↓mf_13_0, ↓mf_13_1, ↓mp_13_2, ↓mf_13_2, ↓mp_13_3, ↓mf_13_3, ↓mo_14, ↓mf_14_0, ↓mp_14_1, ↓mf_14_1, ↓mp_14_2, ↓mf_14_2, ↓mo_15, ↓mf_15_0, ↓mf_15_1, ↓mp_15_2, ↓mf_15_2, ↓mo_16, ↓mf_16_0, ↓mo_18, ↓mf_18_0, ↓ma_3, ↓ms_3, ↓ma_5, ↓ms_5, ↓ma_8, ↓ms_8, ↓ma_10, ↓ms_10, ↓ma_12, ↓ms_12, ↓ma_17, ↓ms_17, ↓ma_19, ↓ms_19, ↓bnd_some, ↓cond_true, ↓m_pv_none, ↓m_pv_some, m_b01_0, m_b01_1, true_and, and_true, ↓g1, ↓reduceIte, eq_self, i_10]⟩
  | some l =>
    rw [hb] at g1
    cases l with
    | nil => exact ⟨c, h, fun K => by simp only [↓g70_0, ↓g70_1, ↓g70_4, ↓g70_5, ↓g70_6, ↓g70_9, ↓g70_11, ↓g70_12, ↓g70_13, ↓g70_16, ↓g70_19, ↓g70_20, ↓g70_21, ↓g70_23, ↓g70_26, ↓g70_28, ↓g70_29, ↓g70_30, ↓g70_33, ↓g70_34, ↓g70_35, ↓g70_38, ↓g70_39, ↓g70_42, ↓g70_45, ↓mo_0, ↓mf_0_0, ↓mf_0_1, ↓mf_0_2, ↓mf_0_3, ↓mf_0_4, ↓mo_1, ↓mf_1_0, ↓mf_1_1, ↓mo_2, ↓mf_2_0, ↓mo_4, ↓mf_4_0, ↓mo_6, ↓mf_6_0, ↓mf_6_1, ↓mf_6_2, ↓mf_6_3, ↓mp_6_4, ↓mf_6_4, ↓mp_6_5, ↓mf_6_5, ↓mo_7, ↓mf_7_0, ↓mo_9, ↓mf_9_0, ↓mo_11, ↓mf_11_0, ↓mo_13, ↓mf_13_0, ↓mf_13_1, ↓mp_13_2, ↓mf_13_2, ↓mp_13_3, ↓mf_13_3, ↓mo_14, ↓mf_14_0, ↓mp_14_1, ↓mf_14_1, ↓mp_14_2, ↓mf_14_2, ↓mo_15, ↓mf_15_0, ↓mf_15_1, ↓mp_15_2, ↓mf_15_2, ↓mo_16, ↓mf_16_0, ↓mo_18, ↓mf_18_0, ↓ma_3, ↓ms_3, ↓ma_5, ↓ms_5, ↓ma_8, ↓ms_8, ↓ma_10, ↓ms_10, ↓ma_12, ↓ms_12, ↓ma_17, ↓ms_17, ↓ma_19, ↓ms_19, ↓bnd_some, ↓cond_true, ↓m_pv_none, ↓m_pv_some, m_b01_0, m_b01_1, true_and, and_true, ↓g1, List.length_nil, show (nI 0 = 0) = True from eq_true rfl, ↓reduceIte, eq_self, i_10]⟩
    | cons b l =>
      obtain ⟨b1, -, -⟩ := bys_all hb
      obtain ⟨T, nx, h1⟩ := h
      have hp := h1.pad.1
      have e1 : ¬ nI (b :: l).length = 0 := nI_ne0 (by rw [List.length_cons]; omega) (by omega)
      have e2 : (nI (σ.2.2.2.length + (b :: l).length) ≤ 60) = (σ.2.2.2.length + (b :: l).length ≤ 60) := propext (nI_leI (b := 60) (by omega) (by decide))
      dsimp only at g1 ⊢
      by_cases hf : σ.2.2.2.length + (b :: l).length ≤ 60
      · rw [if_pos hf]
        obtain ⟨c2, h2, s2, g2⟩ := p_append (S := S) (t := t) hr hb hf h1.pad
        have h3 := h1.padTo h2 s2 (by simp) (by simp) (by simp)
        have g3 := fun K => p_length (S := S) (t := t) h2 K
        rw [List.length_append, List.length_reverse] at g3
        refine ⟨c2, ⟨_, _, h3⟩, fun K => ?_⟩
        simp only [↓g70_0, ↓g70_1, ↓g70_4, ↓g70_5, ↓g70_6, ↓g70_9, ↓g70_11, ↓g70_12, ↓g70_13, ↓g70_16, ↓g70_19, ↓g70_20, ↓g70_21, ↓g70_23, ↓g70_26, ↓g70_28, ↓g70_29, ↓g70_30, ↓g70_33, ↓g70_34, ↓g70_35, ↓g70_38, ↓g70_39, ↓g70_42, ↓g70_45, ↓mo_0, ↓mf_0_0, ↓mf_0_1, ↓mf_0_2, ↓mf_0_3, ↓mf_0_4, ↓mo_1, ↓mf_1_0, ↓mf_1_1, ↓mo_2, ↓mf_2_0, ↓mo_4, ↓mf_4_0, ↓mo_6, ↓mf_6_0, ↓mf_6_1, ↓mf_6_2, ↓mf_6_3, ↓mp_6_4, ↓mf_6_4, ↓mp_6_5, ↓mf_6_5, ↓mo_7, ↓mf_7_0, ↓mo_9, ↓mf_9_0, ↓mo_11, ↓mf_11_0, ↓mo_13, ↓mf_13_0, ↓mf_13_1, ↓mp_13_2, ↓mf_13_2, ↓mp_13_3, ↓mf_13_3, ↓mo_14, ↓mf_14_0, ↓mp_14_1, ↓mf_14_1, ↓mp_14_2, ↓mf_14_2, ↓mo_15, ↓mf_15_0, ↓mf_15_1, ↓mp_15_2, ↓mf_15_2, ↓mo_16, ↓mf_16_0, ↓mo_18, ↓mf_18_0, ↓ma_3, ↓ms_3, ↓ma_5, ↓ms_5, ↓ma_8, ↓ms_8, ↓ma_10, ↓ms_10, ↓ma_12, ↓ms_12, ↓ma_17, ↓ms_17, ↓ma_19, ↓ms_19, ↓bnd_some, ↓cond_true, ↓m_pv_none, ↓m_pv_some, m_b01_0, m_b01_1, true_and, and_true, ↓g1, e1, ↓p_length h1.pad, nI_add, e2, hf, ↓g2, ↓g3, ↓reduceIte, eq_self, i_10]
      · rw [if_neg hf]
        refine ⟨c, ⟨_, _, h1⟩, fun K => ?_⟩
        simp only [↓g70_0, ↓g70_1, ↓g70_4, ↓g70_5, ↓g70_6, ↓g70_9, ↓g70_11, ↓g70_12, ↓g70_13, ↓g70_16, ↓g70_19, ↓g70_20, ↓g70_21, ↓g70_23, ↓g70_26, ↓g70_28, ↓g70_29, ↓g70_30, ↓g70_33, ↓g70_34, ↓g70_35, ↓g70_38, ↓g70_39, ↓g70_42, ↓g70_45, ↓mo_0, ↓mf_0_0, ↓mf_0_1, ↓mf_0_2, ↓mf_0_3, ↓mf_0_4, ↓mo_1, ↓mf_1_0, ↓mf_1_1, ↓mo_2, ↓mf_2_0, ↓mo_4, ↓mf_4_0, ↓mo_6, ↓mf_6_0, ↓mf_6_1, ↓mf_6_2, ↓mf_6_3, ↓mp_6_4, ↓mf_6_4, ↓mp_6_5, ↓mf_6_5, ↓mo_7, ↓mf_7_0, ↓mo_9, ↓mf_9_0, ↓mo_11, ↓mf_11_0, ↓mo_13, ↓mf_13_0, ↓mf_13_1, ↓mp_13_2, ↓mf_13_2, ↓mp_13_3, ↓mf_13_3, ↓mo_14, ↓mf_14_0, ↓mp_14_1, ↓mf_14_1, ↓mp_14_2, ↓mf_14_2, ↓mo_15, ↓mf_15_0, ↓mf_15_1, ↓mp_15_2, ↓mf_15_2, ↓mo_16, ↓mf_16_0, ↓mo_18, ↓mf_18_0, ↓ma_3, ↓ms_3, ↓ma_5, ↓ms_5, ↓ma_8, ↓ms_8, ↓ma_10, ↓ms_10, ↓ma_12, ↓ms_12, ↓ma_17, ↓ms_17, ↓ma_19, ↓ms_19, ↓bnd_some, ↓cond_true, ↓m_pv_none, ↓m_pv_some, m_b01_0, m_b01_1, true_and, and_true, ↓g1, e1, ↓p_length h1.pad, nI_add, e2, hf, ↓reduceIte, eq_self, i_10]
theorem C_wipe (h : CI c σ) : CC S 71 [.ref 0, .null] c t (F_wipe σ) := by
  obtain ⟨T, nx, h1⟩ := h
  obtain ⟨c2, h2, s2, g2⟩ := p_empty (S := S) (t := t) h1.pad
  refine ⟨c2, ⟨_, _, h1.padTo h2 s2 (by simp) (by simp) (by simp)⟩, fun K => ?_⟩
  simp only [↓g71_0, ↓g71_1, ↓g71_4, ↓g71_7, ↓g71_8, ↓g71_9, ↓g71_12, ↓g71_15, ↓g71_16, ↓mo_0, ↓mf_0_0, ↓mf_0_1, ↓mf_0_2, ↓mf_0_3, ↓mf_0_4, ↓mo_1, ↓mf_1_0, ↓mf_1_1, ↓mo_2, ↓mf_2_0, ↓mo_4, ↓mf_4_0, ↓mo_6, ↓mf_6_0, ↓mf_6_1, ↓mf_6_2, ↓mf_6_3, ↓mp_6_4, ↓mf_6_4, ↓mp_6_5, ↓mf_6_5, ↓mo_7, ↓mf_7_0, ↓mo_9, ↓mf_9_0, ↓mo_11, ↓mf_11_0, ↓mo_13, ↓mf_13_0, ↓mf_13_1, ↓mp_13_2, ↓mf_13_2, ↓mp_13_3, ↓mf_13_3, ↓mo_14, ↓mf_14_0, ↓mp_14_1, ↓mf_14_1, ↓mp_14_2, ↓mf_14_2, ↓mo_15, ↓mf_15_0, ↓mf_15_1, ↓mp_15_2, ↓mf_15_2, ↓mo_16, ↓mf_16_0, ↓mo_18, ↓mf_18_0, ↓ma_3, ↓ms_3, ↓ma_5, ↓ms_5, ↓ma_8, ↓ms_8, ↓ma_10, ↓ms_10, ↓ma_12, ↓ms_12, ↓ma_17, ↓ms_17, ↓ma_19, ↓ms_19, ↓bnd_some, ↓cond_true, ↓m_pv_none, ↓m_pv_some, m_b01_0, m_b01_1, true_and, and_true, ↓p_length h1.pad, ↓g2]
  rfl
theorem C_fault (h : CI c σ) (ho : SOk σ) : CC S 72 [.ref 0] c t (F_fault σ) := by
  obtain ⟨T, nx, h1⟩ := h
  obtain ⟨c1, s1, g1⟩ := p_wrong (S := S) (t := t) ho.pad h1.pad
  refine ⟨c1, ⟨_, _, h1.same (h1.1.sx s1 (by simp) (by simp)) (fun _ _ => rfl) s1 (by simp) (by simp) (by simp)⟩, fun K => ?_⟩
  simp only [↓g72_0, ↓g72_1, ↓g72_4, ↓g72_7, ↓mo_0, ↓mf_0_0, ↓mf_0_1, ↓mf_0_2, ↓mf_0_3, ↓mf_0_4, ↓mo_1, ↓mf_1_0, ↓mf_1_1, ↓mo_2, ↓mf_2_0, ↓mo_4, ↓mf_4_0, ↓mo_6, ↓mf_6_0, ↓mf_6_1, ↓mf_6_2, ↓mf_6_3, ↓mp_6_4, ↓mf_6_4, ↓mp_6_5, ↓mf_6_5, ↓mo_7, ↓mf_7_0, ↓mo_9, ↓mf_9_0, ↓mo_11, ↓mf_11_0, ↓mo_13, ↓mf_13_0, ↓mf_13_1, ↓mp_13_2, ↓mf_13_2, ↓mp_13_3, ↓mf_13_3, ↓mo_14, ↓mf_14_0, ↓mp_14_1, ↓mf_14_1, ↓mp_14_2, ↓mf_14_2, ↓mo_15, ↓mf_15_0, ↓mf_15_1, ↓mp_15_2, ↓mf_15_2, ↓mo_16, ↓mf_16_0, ↓mo_18, ↓mf_18_0, ↓ma_3, ↓ms_3, ↓ma_5, ↓ms_5, ↓ma_8, ↓ms_8, ↓ma_10, ↓ms_10, ↓ma_12, ↓ms_12, ↓ma_17, ↓ms_17, ↓ma_19, ↓ms_19, ↓bnd_some, ↓cond_true, ↓m_pv_none, ↓m_pv_some, m_b01_0, m_b01_1, true_and, and_true, ↓g1]
  rfl
theorem C_undo (h : CI c σ) (ho : SOk σ) : CC S 73 [.ref 0] c t (F_undo σ) := by
  obtain ⟨T, nx, h1⟩ := h
  have g1 := fun K => h_len (S := S) (t := t) h1 K
  unfold F_undo
  match he : σ.2.1 with
  | [] =>
    rw [he] at g1
    exact ⟨c, ⟨_, _, h1⟩, fun K => by simp only [↓g73_0, ↓g73_1, ↓g73_4, ↓g73_7, ↓g73_10, ↓g73_12, ↓g73_13, ↓g73_14, ↓g73_17, ↓g73_20, ↓g73_21, ↓g73_24, ↓g73_27, ↓mo_0, ↓mf_0_0, ↓mf_0_1, ↓mf_0_2, ↓mf_0_3, ↓mf_0_4, ↓mo_1, ↓mf_1_0, ↓mf_1_1, ↓mo_2, ↓mf_2_0, ↓mo_4, ↓mf_4_0, ↓mo_6, ↓mf_6_0, ↓mf_6_1, ↓mf_6_2, ↓mf_6_3, ↓mp_6_4, ↓mf_6_4, ↓mp_6_5, ↓mf_6_5, ↓mo_7, ↓mf_7_0, ↓mo_9, ↓mf_9_0, ↓mo_11, ↓mf_11_0, ↓mo_13, ↓mf_13_0, ↓mf_13_1, ↓mp_13_2, ↓mf_13_2, ↓mp_13_3, ↓mf_13_3, ↓mo_14, ↓mf_14_0, ↓mp_14_1, ↓mf_14_1, ↓mp_14_2, ↓mf_14_2, ↓mo_15, ↓mf_15_0, ↓mf_15_1, ↓mp_15_2, ↓mf_15_2, ↓mo_16, ↓mf_16_0, ↓mo_18, ↓mf_18_0, ↓ma_3, ↓ms_3, ↓ma_5, ↓ms_5, ↓ma_8, ↓ms_8, ↓ma_10, ↓ms_10, ↓ma_12, ↓ms_12, ↓ma_17, ↓ms_17, ↓ma_19, ↓ms_19, ↓bnd_some, ↓cond_true, ↓m_pv_none, ↓m_pv_some, m_b01_0, m_b01_1, true_and, and_true, ↓g1, List.length_nil, show (nI 0 = 0) = True from eq_true rfl, ↓reduceIte, eq_self, i_10]⟩
  | st :: hs =>
    rw [he] at g1
    have hl := ho.2.2.2.1
    rw [he, List.length_cons] at hl
    obtain ⟨c2, T2, nx2, h2, g2⟩ := h_back (S := S) (t := t) h1 he ho.2.2.2.1
    have g3 := fun K => h_len (S := S) (t := t) h2 K
    have e1 : ¬ nI (st :: hs).length = 0 := nI_ne0 (by rw [List.length_cons]; omega) (by rw [List.length_cons]; omega)
    refine ⟨c2, ⟨_, _, h2⟩, fun K => ?_⟩
    simp only [↓g73_0, ↓g73_1, ↓g73_4, ↓g73_7, ↓g73_10, ↓g73_12, ↓g73_13, ↓g73_14, ↓g73_17, ↓g73_20, ↓g73_21, ↓g73_24, ↓g73_27, ↓mo_0, ↓mf_0_0, ↓mf_0_1, ↓mf_0_2, ↓mf_0_3, ↓mf_0_4, ↓mo_1, ↓mf_1_0, ↓mf_1_1, ↓mo_2, ↓mf_2_0, ↓mo_4, ↓mf_4_0, ↓mo_6, ↓mf_6_0, ↓mf_6_1, ↓mf_6_2, ↓mf_6_3, ↓mp_6_4, ↓mf_6_4, ↓mp_6_5, ↓mf_6_5, ↓mo_7, ↓mf_7_0, ↓mo_9, ↓mf_9_0, ↓mo_11, ↓mf_11_0, ↓mo_13, ↓mf_13_0, ↓mf_13_1, ↓mp_13_2, ↓mf_13_2, ↓mp_13_3, ↓mf_13_3, ↓mo_14, ↓mf_14_0, ↓mp_14_1, ↓mf_14_1, ↓mp_14_2, ↓mf_14_2, ↓mo_15, ↓mf_15_0, ↓mf_15_1, ↓mp_15_2, ↓mf_15_2, ↓mo_16, ↓mf_16_0, ↓mo_18, ↓mf_18_0, ↓ma_3, ↓ms_3, ↓ma_5, ↓ms_5, ↓ma_8, ↓ms_8, ↓ma_10, ↓ms_10, ↓ma_12, ↓ms_12, ↓ma_17, ↓ms_17, ↓ma_19, ↓ms_19, ↓bnd_some, ↓cond_true, ↓m_pv_none, ↓m_pv_some, m_b01_0, m_b01_1, true_and, and_true, ↓g1, e1, ↓g2, ↓g3, ↓reduceIte, eq_self, i_10]
theorem C_save (h : CI c σ) (x : Int32) : CC S 74 [.ref 0, .int x] c t (F_save σ x) := by
  unfold F_save
  cases hx : rgx x 2 with
  | none => exact ⟨c, h, fun K => by simp only [↓g74_0, ↓g74_1, ↓g74_4, ↓g74_7, ↓g74_9, ↓g74_10, ↓g74_11, ↓g74_14, ↓g74_15, ↓g74_17, ↓g74_18, ↓g74_19, ↓g74_22, ↓g74_23, ↓g74_26, ↓g74_27, ↓g74_30, ↓mo_0, ↓mf_0_0, ↓mf_0_1, ↓mf_0_2, ↓mf_0_3, ↓mf_0_4, ↓mo_1, ↓mf_1_0, ↓mf_1_1, ↓mo_2, ↓mf_2_0, ↓mo_4, ↓mf_4_0, ↓mo_6, ↓mf_6_0, ↓mf_6_1, ↓mf_6_2, ↓mf_6_3, ↓mp_6_4, ↓mf_6_4, ↓mp_6_5, ↓mf_6_5, ↓mo_7, ↓mf_7_0, ↓mo_9, ↓mf_9_0, ↓mo_11, ↓mf_11_0, ↓mo_13, ↓mf_13_0, ↓mf_13_1, ↓mp_13_2, ↓mf_13_2, ↓mp_13_3, ↓mf_13_3, ↓mo_14, ↓mf_14_0, ↓mp_14_1, ↓mf_14_1, ↓mp_14_2, ↓mf_14_2, ↓mo_15, ↓mf_15_0, ↓mf_15_1, ↓mp_15_2, ↓mf_15_2, ↓mo_16, ↓mf_16_0, ↓mo_18, ↓mf_18_0, ↓ma_3, ↓ms_3, ↓ma_5, ↓ms_5, ↓ma_8, ↓ms_8, ↓ma_10, ↓ms_10, ↓ma_12, ↓ms_12, ↓ma_17, ↓ms_17, ↓ma_19, ↓ms_19, ↓bnd_some, ↓cond_true, ↓m_pv_none, ↓m_pv_some, m_b01_0, m_b01_1, true_and, and_true, ↓n_slot (rgx_no hx), ↓reduceIte, eq_self, i_10]⟩
  | some s =>
    obtain ⟨hs, rfl⟩ := rgx_some hx (by decide)
    have y1 := fun K => y_slot (S := S) (M := mk c t) (inR_nI hs (by decide)) K
    obtain ⟨T, nx, h1⟩ := h
    obtain ⟨a1, a2, a3, a4, a5, a6, a7, a8⟩ := id h1
    obtain ⟨c2, h2, s2, g2⟩ := q_dupState (S := S) (t := t) h1.1 (s := 0) (u := 7 + s) (by omega) (by omega) (by omega) (x := 0) (y := 7 + nI s) (hy := by rw [show (7 : Int32) = nI 7 from rfl, nI_add])
    have a0 := fun K => q_partsState (S := S) (t := t) h2 (s := 0) (by decide) K (x := 0)
    rw [sumF_congr (g := fun r => (σ.1 r).length) (fun k hk => by
      show (tdk T 0 (7 + s) 6 (6 * 0 + k)).length = _
      unfold tdk
      rw [if_neg (by omega), show 6 * 0 + k = k by omega, h1.at hk])] at a0
    refine ⟨c2, ⟨_, nx, h2, fun r hr => ?_, a3, by rw [s2 14 (by simp)]; exact a4, by rw [s2 14 (by simp)]; exact a5, fun j hj r hr => ?_, fun u hu r hr => ?_, a8.sx s2 (by simp) (by simp)⟩, fun K => ?_⟩
    · unfold tdk
      rw [if_neg (by omega)]
      exact a2 r hr
    · unfold tdk
      rw [if_neg (by omega)]
      exact a6 j hj r hr
    · show _ = slT (if u = s then some σ.1 else σ.2.2.1 u) r
      by_cases e : u = s
      · subst e
        rw [if_pos rfl]
        unfold tdk
        rw [if_pos (by omega), show 6 * 0 + (6 * (7 + u) + r - 6 * (7 + u)) = r by omega]
        exact a2 r hr
      · rw [if_neg e]
        unfold tdk
        rw [if_neg (by omega)]
        exact a7 u hu r hr
    · simp only [↓g74_0, ↓g74_1, ↓g74_4, ↓g74_7, ↓g74_9, ↓g74_10, ↓g74_11, ↓g74_14, ↓g74_15, ↓g74_17, ↓g74_18, ↓g74_19, ↓g74_22, ↓g74_23, ↓g74_26, ↓g74_27, ↓g74_30, ↓mo_0, ↓mf_0_0, ↓mf_0_1, ↓mf_0_2, ↓mf_0_3, ↓mf_0_4, ↓mo_1, ↓mf_1_0, ↓mf_1_1, ↓mo_2, ↓mf_2_0, ↓mo_4, ↓mf_4_0, ↓mo_6, ↓mf_6_0, ↓mf_6_1, ↓mf_6_2, ↓mf_6_3, ↓mp_6_4, ↓mf_6_4, ↓mp_6_5, ↓mf_6_5, ↓mo_7, ↓mf_7_0, ↓mo_9, ↓mf_9_0, ↓mo_11, ↓mf_11_0, ↓mo_13, ↓mf_13_0, ↓mf_13_1, ↓mp_13_2, ↓mf_13_2, ↓mp_13_3, ↓mf_13_3, ↓mo_14, ↓mf_14_0, ↓mp_14_1, ↓mf_14_1, ↓mp_14_2, ↓mf_14_2, ↓mo_15, ↓mf_15_0, ↓mf_15_1, ↓mp_15_2, ↓mf_15_2, ↓mo_16, ↓mf_16_0, ↓mo_18, ↓mf_18_0, ↓ma_3, ↓ms_3, ↓ma_5, ↓ms_5, ↓ma_8, ↓ms_8, ↓ma_10, ↓ms_10, ↓ma_12, ↓ms_12, ↓ma_17, ↓ms_17, ↓ma_19, ↓ms_19, ↓bnd_some, ↓cond_true, ↓m_pv_none, ↓m_pv_some, m_b01_0, m_b01_1, true_and, and_true, ↓y1, ↓g2, ↓a0, ↓reduceIte, eq_self, i_10]
      rfl
theorem sumF_pos {f : Nat → Nat} {n : Nat} (h : 0 < f 0) : 0 < sumF f (n + 1) := by
  induction n with
  | zero =>
    rw [sumF, sumF]
    omega
  | succ n ih =>
    rw [sumF]
    omega
theorem C_restore (h : CI c σ) (ho : SOk σ) (x : Int32) : CC S 75 [.ref 0, .int x] c t (F_restore σ x) := by
  unfold F_restore
  cases hx : rgx x 2 with
  | none => exact ⟨c, h, fun K => by simp only [↓g75_0, ↓g75_1, ↓g75_4, ↓g75_7, ↓g75_9, ↓g75_10, ↓g75_11, ↓g75_14, ↓g75_16, ↓g75_17, ↓g75_18, ↓g75_21, ↓g75_24, ↓g75_26, ↓g75_27, ↓g75_28, ↓g75_31, ↓g75_34, ↓g75_35, ↓g75_38, ↓g75_40, ↓g75_41, ↓g75_42, ↓g75_43, ↓g75_46, ↓g75_47, ↓g75_50, ↓g75_51, ↓g75_54, ↓mo_0, ↓mf_0_0, ↓mf_0_1, ↓mf_0_2, ↓mf_0_3, ↓mf_0_4, ↓mo_1, ↓mf_1_0, ↓mf_1_1, ↓mo_2, ↓mf_2_0, ↓mo_4, ↓mf_4_0, ↓mo_6, ↓mf_6_0, ↓mf_6_1, ↓mf_6_2, ↓mf_6_3, ↓mp_6_4, ↓mf_6_4, ↓mp_6_5, ↓mf_6_5, ↓mo_7, ↓mf_7_0, ↓mo_9, ↓mf_9_0, ↓mo_11, ↓mf_11_0, ↓mo_13, ↓mf_13_0, ↓mf_13_1, ↓mp_13_2, ↓mf_13_2, ↓mp_13_3, ↓mf_13_3, ↓mo_14, ↓mf_14_0, ↓mp_14_1, ↓mf_14_1, ↓mp_14_2, ↓mf_14_2, ↓mo_15, ↓mf_15_0, ↓mf_15_1, ↓mp_15_2, ↓mf_15_2, ↓mo_16, ↓mf_16_0, ↓mo_18, ↓mf_18_0, ↓ma_3, ↓ms_3, ↓ma_5, ↓ms_5, ↓ma_8, ↓ms_8, ↓ma_10, ↓ms_10, ↓ma_12, ↓ms_12, ↓ma_17, ↓ms_17, ↓ma_19, ↓ms_19, ↓bnd_some, ↓cond_true, ↓m_pv_none, ↓m_pv_some, m_b01_0, m_b01_1, true_and, and_true, ↓n_slot (rgx_no hx), ↓reduceIte, eq_self, i_10]⟩
  | some s =>
    obtain ⟨hs, rfl⟩ := rgx_some hx (by decide)
    have y1 := fun K => y_slot (S := S) (M := mk c t) (inR_nI hs (by decide)) K
    obtain ⟨T, nx, h1⟩ := h
    have w7 : (7 : Int32) + nI s = nI (7 + s) := by rw [show (7 : Int32) = nI 7 from rfl, nI_add]
    have b0 := fun K => q_partsState (S := S) (t := t) h1.1 (s := 7 + s) (by omega) K (x := 7 + nI s) (hx := w7)
    rw [sumF_congr (g := fun r => (slT (σ.2.2.1 s) r).length) (fun k hk => by rw [h1.2.2.2.2.2.2.1 s hs k hk])] at b0
    dsimp only
    cases hz : σ.2.2.1 s with
    | none =>
      rw [hz] at b0
      have b0' : ∀ K, go S 36 0 [.ref 1, .int (7 + nI s), .null, .null] [] (mk c t) K = K (some (.int 0)) (mk c t) := b0
      refine ⟨c, ⟨_, _, h1⟩, fun K => ?_⟩
      simp only [↓g75_0, ↓g75_1, ↓g75_4, ↓g75_7, ↓g75_9, ↓g75_10, ↓g75_11, ↓g75_14, ↓g75_16, ↓g75_17, ↓g75_18, ↓g75_21, ↓g75_24, ↓g75_26, ↓g75_27, ↓g75_28, ↓g75_31, ↓g75_34, ↓g75_35, ↓g75_38, ↓g75_40, ↓g75_41, ↓g75_42, ↓g75_43, ↓g75_46, ↓g75_47, ↓g75_50, ↓g75_51, ↓g75_54, ↓mo_0, ↓mf_0_0, ↓mf_0_1, ↓mf_0_2, ↓mf_0_3, ↓mf_0_4, ↓mo_1, ↓mf_1_0, ↓mf_1_1, ↓mo_2, ↓mf_2_0, ↓mo_4, ↓mf_4_0, ↓mo_6, ↓mf_6_0, ↓mf_6_1, ↓mf_6_2, ↓mf_6_3, ↓mp_6_4, ↓mf_6_4, ↓mp_6_5, ↓mf_6_5, ↓mo_7, ↓mf_7_0, ↓mo_9, ↓mf_9_0, ↓mo_11, ↓mf_11_0, ↓mo_13, ↓mf_13_0, ↓mf_13_1, ↓mp_13_2, ↓mf_13_2, ↓mp_13_3, ↓mf_13_3, ↓mo_14, ↓mf_14_0, ↓mp_14_1, ↓mf_14_1, ↓mp_14_2, ↓mf_14_2, ↓mo_15, ↓mf_15_0, ↓mf_15_1, ↓mp_15_2, ↓mf_15_2, ↓mo_16, ↓mf_16_0, ↓mo_18, ↓mf_18_0, ↓ma_3, ↓ms_3, ↓ma_5, ↓ms_5, ↓ma_8, ↓ms_8, ↓ma_10, ↓ms_10, ↓ma_12, ↓ms_12, ↓ma_17, ↓ms_17, ↓ma_19, ↓ms_19, ↓bnd_some, ↓cond_true, ↓m_pv_none, ↓m_pv_some, m_b01_0, m_b01_1, true_and, and_true, ↓y1, ↓b0', ↓reduceIte, eq_self, i_10]
    | some st =>
      rw [hz] at b0
      have hst := ho.2.2.1 s hs st hz
      have hp : 0 < sumF (fun r => (slT (some st) r).length) 6 := sumF_pos (hst 0 (by decide)).pos
      have hq : sumF (fun r => (slT (some st) r).length) 6 ≤ 6 * 200 := sumF_le _ 200 6 (fun k hk => (hst k hk).2)
      have e1 : ¬ nI (sumF (fun r => (slT (some st) r).length) 6) = 0 := nI_ne0 hp (by omega)
      obtain ⟨c2, T2, nx2, h3, s3, g3⟩ := h_keep (S := S) (t := t) h1 ho
      obtain ⟨a1, a2, a3, a4, a5, a6, a7, a8⟩ := id h3
      obtain ⟨c4, h4, s4, g4⟩ := q_dupState (S := S) (t := t) h3.1 (s := 7 + s) (u := 0) (by omega) (by omega) (by omega) (x := 7 + nI s) (y := 0) (hx := w7)
      have z1 : ∀ r, r < 6 → tdk T2 (7 + s) 0 6 r = st r := fun r hr => by
        unfold tdk
        rw [if_pos (by omega), show 6 * (7 + s) + (r - 6 * 0) = 6 * (7 + s) + r by omega, a7 s hs r hr]
        show slT (σ.2.2.1 s) r = _
        rw [hz]
        rfl
      have a0 := fun K => q_partsState (S := S) (t := t) h4 (s := 0) (by decide) K (x := 0)
      rw [sumF_congr (g := fun r => (st r).length) (fun k hk => by rw [show 6 * 0 + k = k by omega, z1 k hk])] at a0
      refine ⟨c4, ⟨_, nx2, h4, z1, a3, by rw [s4 14 (by simp)]; exact a4, by rw [s4 14 (by simp)]; exact a5, fun j hj r hr => ?_, fun u hu r hr => ?_, a8.sx s4 (by simp) (by simp)⟩, fun K => ?_⟩
      · unfold tdk
        rw [if_neg (by omega)]
        exact a6 j hj r hr
      · unfold tdk
        rw [if_neg (by omega)]
        exact a7 u hu r hr
      · simp only [↓g75_0, ↓g75_1, ↓g75_4, ↓g75_7, ↓g75_9, ↓g75_10, ↓g75_11, ↓g75_14, ↓g75_16, ↓g75_17, ↓g75_18, ↓g75_21, ↓g75_24, ↓g75_26, ↓g75_27, ↓g75_28, ↓g75_31, ↓g75_34, ↓g75_35, ↓g75_38, ↓g75_40, ↓g75_41, ↓g75_42, ↓g75_43, ↓g75_46, ↓g75_47, ↓g75_50, ↓g75_51, ↓g75_54, ↓mo_0, ↓mf_0_0, ↓mf_0_1, ↓mf_0_2, ↓mf_0_3, ↓mf_0_4, ↓mo_1, ↓mf_1_0, ↓mf_1_1, ↓mo_2, ↓mf_2_0, ↓mo_4, ↓mf_4_0, ↓mo_6, ↓mf_6_0, ↓mf_6_1, ↓mf_6_2, ↓mf_6_3, ↓mp_6_4, ↓mf_6_4, ↓mp_6_5, ↓mf_6_5, ↓mo_7, ↓mf_7_0, ↓mo_9, ↓mf_9_0, ↓mo_11, ↓mf_11_0, ↓mo_13, ↓mf_13_0, ↓mf_13_1, ↓mp_13_2, ↓mf_13_2, ↓mp_13_3, ↓mf_13_3, ↓mo_14, ↓mf_14_0, ↓mp_14_1, ↓mf_14_1, ↓mp_14_2, ↓mf_14_2, ↓mo_15, ↓mf_15_0, ↓mf_15_1, ↓mp_15_2, ↓mf_15_2, ↓mo_16, ↓mf_16_0, ↓mo_18, ↓mf_18_0, ↓ma_3, ↓ms_3, ↓ma_5, ↓ms_5, ↓ma_8, ↓ms_8, ↓ma_10, ↓ms_10, ↓ma_12, ↓ms_12, ↓ma_17, ↓ms_17, ↓ma_19, ↓ms_19, ↓bnd_some, ↓cond_true, ↓m_pv_none, ↓m_pv_some, m_b01_0, m_b01_1, true_and, and_true, ↓y1, ↓b0, e1, ↓g3, ↓g4, ↓a0, ↓reduceIte, eq_self, i_10]
        rfl
end CALLS3
