/-! the object's calls, to the end -/
section CALLS3
variable {S : mS} {t : mM} {c : Nat → Nat → Int32} {σ : Sg}
theorem C_ends (h : CI c σ) (ho : SOk σ) (x o f : Int32) : CC S 56 [.ref 0, .int x, .int o, .int f] c t (F_ends σ x o f) := by
  unfold F_ends
  cases hx : rgx x 6 with
  | none => exact ⟨c, h, fun K => by simp only [↓g56_0, ↓g56_1, ↓g56_4, ↓g56_7, ↓g56_8, ↓g56_9, ↓g56_10, ↓g56_13, ↓g56_16, ↓g56_17, ↓g56_20, ↓g56_23, ↓g56_25, ↓g56_26, ↓g56_27, ↓g56_30, ↓g56_31, ↓g56_33, ↓g56_36, ↓g56_37, ↓g56_40, ↓g56_42, ↓g56_43, ↓g56_44, ↓g56_47, ↓g56_50, ↓g56_51, ↓g56_54, ↓g56_57, ↓g56_60, ↓g56_62, ↓mo_0, ↓mf_0_0, ↓mf_0_1, ↓mf_0_2, ↓mf_0_3, ↓mf_0_4, ↓mo_1, ↓mf_1_0, ↓mf_1_1, ↓mo_2, ↓mf_2_0, ↓mo_4, ↓mf_4_0, ↓mo_6, ↓mf_6_0, ↓mf_6_1, ↓mf_6_2, ↓mf_6_3, ↓mp_6_4, ↓mf_6_4, ↓mp_6_5, ↓mf_6_5, ↓mo_7, ↓mf_7_0, ↓mo_9, ↓mf_9_0, ↓mo_11, ↓mf_11_0, ↓mo_13, ↓mf_13_0, ↓mf_13_1, ↓mp_13_2, ↓mf_13_2, ↓mp_13_3, ↓mf_13_3, ↓mo_14, ↓mf_14_0, ↓mp_14_1, ↓mf_14_1, ↓mp_14_2, ↓mf_14_2, ↓mo_15, ↓mf_15_0, ↓mf_15_1, ↓mp_15_2, ↓mf_15_2, ↓mo_16, ↓mf_16_0, ↓mo_18, ↓mf_18_0, ↓ma_3, ↓ms_3, ↓ma_5, ↓ms_5, ↓ma_8, ↓ms_8, ↓ma_10, ↓ms_10, ↓ma_12, ↓ms_12, ↓ma_17, ↓ms_17, ↓ma_19, ↓ms_19, ↓bnd_some, ↓cond_true, ↓m_pv_none, ↓m_pv_some, m_b01_0, m_b01_1, true_and, and_true, ↓n_reg (rgx_no hx), ↓reduceIte, eq_self, i_10]⟩
  | some i =>
    obtain ⟨hi, rfl⟩ := rgx_some hx (by decide)
    have y1 := fun K => y_reg (S := S) (M := mk c t) (inR_nI hi (by decide)) K
    cases hy : rgx o 3 with
    | none => exact ⟨c, h, fun K => by simp only [↓g56_0, ↓g56_1, ↓g56_4, ↓g56_7, ↓g56_8, ↓g56_9, ↓g56_10, ↓g56_13, ↓g56_16, ↓g56_17, ↓g56_20, ↓g56_23, ↓g56_25, ↓g56_26, ↓g56_27, ↓g56_30, ↓g56_31, ↓g56_33, ↓g56_36, ↓g56_37, ↓g56_40, ↓g56_42, ↓g56_43, ↓g56_44, ↓g56_47, ↓g56_50, ↓g56_51, ↓g56_54, ↓g56_57, ↓g56_60, ↓g56_62, ↓mo_0, ↓mf_0_0, ↓mf_0_1, ↓mf_0_2, ↓mf_0_3, ↓mf_0_4, ↓mo_1, ↓mf_1_0, ↓mf_1_1, ↓mo_2, ↓mf_2_0, ↓mo_4, ↓mf_4_0, ↓mo_6, ↓mf_6_0, ↓mf_6_1, ↓mf_6_2, ↓mf_6_3, ↓mp_6_4, ↓mf_6_4, ↓mp_6_5, ↓mf_6_5, ↓mo_7, ↓mf_7_0, ↓mo_9, ↓mf_9_0, ↓mo_11, ↓mf_11_0, ↓mo_13, ↓mf_13_0, ↓mf_13_1, ↓mp_13_2, ↓mf_13_2, ↓mp_13_3, ↓mf_13_3, ↓mo_14, ↓mf_14_0, ↓mp_14_1, ↓mf_14_1, ↓mp_14_2, ↓mf_14_2, ↓mo_15, ↓mf_15_0, ↓mf_15_1, ↓mp_15_2, ↓mf_15_2, ↓mo_16, ↓mf_16_0, ↓mo_18, ↓mf_18_0, ↓ma_3, ↓ms_3, ↓ma_5, ↓ms_5, ↓ma_8, ↓ms_8, ↓ma_10, ↓ms_10, ↓ma_12, ↓ms_12, ↓ma_17, ↓ms_17, ↓ma_19, ↓ms_19, ↓bnd_some, ↓cond_true, ↓m_pv_none, ↓m_pv_some, m_b01_0, m_b01_1, true_and, and_true, ↓y1, ↓n_ord (rgx_no hy), ↓reduceIte, eq_self, i_10]⟩
    | some o =>
      obtain ⟨hj, rfl⟩ := rgx_some hy (by decide)
      have y2 := fun K => y_ord (S := S) (M := mk c t) (inR_nI hj (by decide)) K
      cases hz : fux f with
      | none => exact ⟨c, h, fun K => by simp only [↓g56_0, ↓g56_1, ↓g56_4, ↓g56_7, ↓g56_8, ↓g56_9, ↓g56_10, ↓g56_13, ↓g56_16, ↓g56_17, ↓g56_20, ↓g56_23, ↓g56_25, ↓g56_26, ↓g56_27, ↓g56_30, ↓g56_31, ↓g56_33, ↓g56_36, ↓g56_37, ↓g56_40, ↓g56_42, ↓g56_43, ↓g56_44, ↓g56_47, ↓g56_50, ↓g56_51, ↓g56_54, ↓g56_57, ↓g56_60, ↓g56_62, ↓mo_0, ↓mf_0_0, ↓mf_0_1, ↓mf_0_2, ↓mf_0_3, ↓mf_0_4, ↓mo_1, ↓mf_1_0, ↓mf_1_1, ↓mo_2, ↓mf_2_0, ↓mo_4, ↓mf_4_0, ↓mo_6, ↓mf_6_0, ↓mf_6_1, ↓mf_6_2, ↓mf_6_3, ↓mp_6_4, ↓mf_6_4, ↓mp_6_5, ↓mf_6_5, ↓mo_7, ↓mf_7_0, ↓mo_9, ↓mf_9_0, ↓mo_11, ↓mf_11_0, ↓mo_13, ↓mf_13_0, ↓mf_13_1, ↓mp_13_2, ↓mf_13_2, ↓mp_13_3, ↓mf_13_3, ↓mo_14, ↓mf_14_0, ↓mp_14_1, ↓mf_14_1, ↓mp_14_2, ↓mf_14_2, ↓mo_15, ↓mf_15_0, ↓mf_15_1, ↓mp_15_2, ↓mf_15_2, ↓mo_16, ↓mf_16_0, ↓mo_18, ↓mf_18_0, ↓ma_3, ↓ms_3, ↓ma_5, ↓ms_5, ↓ma_8, ↓ms_8, ↓ma_10, ↓ms_10, ↓ma_12, ↓ms_12, ↓ma_17, ↓ms_17, ↓ma_19, ↓ms_19, ↓bnd_some, ↓cond_true, ↓m_pv_none, ↓m_pv_some, m_b01_0, m_b01_1, true_and, and_true, ↓y1, ↓y2, ↓n_fuel (fux_no hz), ↓reduceIte, eq_self, i_10]⟩
      | some n =>
        obtain ⟨f1, f2, rfl⟩ := fux_some hz
        have y3 := fun K => y_fuel (S := S) (M := mk c t) ⟨nI_le (a := 1) f1 (by omega), nI_le (b := 200) f2 (by decide)⟩ K
        obtain ⟨T, nx, h1⟩ := h
        have hk := ho.reg hi
        have e2 : T i = σ.1 i := h1.at hi
        obtain ⟨c2, h2, s2, g2⟩ := q_duplicate (S := S) (t := t) h1.1 (i := i) (j := 54) (by omega) (by omega) (y := 54)
        rw [e2] at h2
        obtain ⟨c3, T3, h4, t4, s4, m4, -, g4⟩ := w_steps (S := S) (t := t) (v := 54) (o := o) (n := n) (by omega) hj f2 h2 (by rw [tu_eq]; exact hk) (x := 54)
        rw [tu_eq] at t4 m4 g4
        have h5 := h1.same h4 (fun j hj => by rw [t4 j (by omega), tu_ne (by omega), tu_ne (by omega)]) (sx_tr (fun q hq => s2 q (by simp at hq ⊢; omega)) s4) (by simp) (by simp) (by simp)
        refine ⟨c3, ⟨_, _, h5⟩, fun K => ?_⟩
        dsimp only
        by_cases hn : nxt (rn o n (σ.1 i)).2.2 o = none
        · rw [if_pos hn] at g4 ⊢
          simp only [↓g56_0, ↓g56_1, ↓g56_4, ↓g56_7, ↓g56_8, ↓g56_9, ↓g56_10, ↓g56_13, ↓g56_16, ↓g56_17, ↓g56_20, ↓g56_23, ↓g56_25, ↓g56_26, ↓g56_27, ↓g56_30, ↓g56_31, ↓g56_33, ↓g56_36, ↓g56_37, ↓g56_40, ↓g56_42, ↓g56_43, ↓g56_44, ↓g56_47, ↓g56_50, ↓g56_51, ↓g56_54, ↓g56_57, ↓g56_60, ↓g56_62, ↓g11_0, ↓g11_1, ↓g11_4, ↓mo_0, ↓mf_0_0, ↓mf_0_1, ↓mf_0_2, ↓mf_0_3, ↓mf_0_4, ↓mo_1, ↓mf_1_0, ↓mf_1_1, ↓mo_2, ↓mf_2_0, ↓mo_4, ↓mf_4_0, ↓mo_6, ↓mf_6_0, ↓mf_6_1, ↓mf_6_2, ↓mf_6_3, ↓mp_6_4, ↓mf_6_4, ↓mp_6_5, ↓mf_6_5, ↓mo_7, ↓mf_7_0, ↓mo_9, ↓mf_9_0, ↓mo_11, ↓mf_11_0, ↓mo_13, ↓mf_13_0, ↓mf_13_1, ↓mp_13_2, ↓mf_13_2, ↓mp_13_3, ↓mf_13_3, ↓mo_14, ↓mf_14_0, ↓mp_14_1, ↓mf_14_1, ↓mp_14_2, ↓mf_14_2, ↓mo_15, ↓mf_15_0, ↓mf_15_1, ↓mp_15_2, ↓mf_15_2, ↓mo_16, ↓mf_16_0, ↓mo_18, ↓mf_18_0, ↓ma_3, ↓ms_3, ↓ma_5, ↓ms_5, ↓ma_8, ↓ms_8, ↓ma_10, ↓ms_10, ↓ma_12, ↓ms_12, ↓ma_17, ↓ms_17, ↓ma_19, ↓ms_19, ↓bnd_some, ↓cond_true, ↓m_pv_none, ↓m_pv_some, m_b01_0, m_b01_1, true_and, and_true, ↓y1, ↓y2, ↓y3, ↓g2, ↓g4, m4, ↓reduceIte, eq_self, i_10]
        · rw [if_neg hn] at g4 ⊢
          simp only [↓g56_0, ↓g56_1, ↓g56_4, ↓g56_7, ↓g56_8, ↓g56_9, ↓g56_10, ↓g56_13, ↓g56_16, ↓g56_17, ↓g56_20, ↓g56_23, ↓g56_25, ↓g56_26, ↓g56_27, ↓g56_30, ↓g56_31, ↓g56_33, ↓g56_36, ↓g56_37, ↓g56_40, ↓g56_42, ↓g56_43, ↓g56_44, ↓g56_47, ↓g56_50, ↓g56_51, ↓g56_54, ↓g56_57, ↓g56_60, ↓g56_62, ↓g11_0, ↓g11_1, ↓g11_4, ↓mo_0, ↓mf_0_0, ↓mf_0_1, ↓mf_0_2, ↓mf_0_3, ↓mf_0_4, ↓mo_1, ↓mf_1_0, ↓mf_1_1, ↓mo_2, ↓mf_2_0, ↓mo_4, ↓mf_4_0, ↓mo_6, ↓mf_6_0, ↓mf_6_1, ↓mf_6_2, ↓mf_6_3, ↓mp_6_4, ↓mf_6_4, ↓mp_6_5, ↓mf_6_5, ↓mo_7, ↓mf_7_0, ↓mo_9, ↓mf_9_0, ↓mo_11, ↓mf_11_0, ↓mo_13, ↓mf_13_0, ↓mf_13_1, ↓mp_13_2, ↓mf_13_2, ↓mp_13_3, ↓mf_13_3, ↓mo_14, ↓mf_14_0, ↓mp_14_1, ↓mf_14_1, ↓mp_14_2, ↓mf_14_2, ↓mo_15, ↓mf_15_0, ↓mf_15_1, ↓mp_15_2, ↓mf_15_2, ↓mo_16, ↓mf_16_0, ↓mo_18, ↓mf_18_0, ↓ma_3, ↓ms_3, ↓ma_5, ↓ms_5, ↓ma_8, ↓ms_8, ↓ma_10, ↓ms_10, ↓ma_12, ↓ms_12, ↓ma_17, ↓ms_17, ↓ma_19, ↓ms_19, ↓bnd_some, ↓cond_true, ↓m_pv_none, ↓m_pv_some, m_b01_0, m_b01_1, true_and, and_true, ↓y1, ↓y2, ↓y3, ↓g2, ↓g4, m4, ↓reduceIte, eq_self, i_10]
theorem C_put (h : CI c σ) {r : Nat} (hr : r < 2 ^ 64) : CC S 57 [.ref 0, .long (lN r), .null, .null] c t (F_put σ r) := by
  unfold F_put
  have g1 := fun K => p_chars (S := S) (mk c t) hr K
  cases hb : bys 8 r with
  | none =>
    rw [hb] at g1
    exact ⟨c, h, fun K => by simp only [↓g57_0, ↓g57_1, ↓g57_4, ↓g57_5, ↓g57_6, ↓g57_9, ↓g57_11, ↓g57_12, ↓g57_13, ↓g57_16, ↓g57_19, ↓g57_20, ↓g57_21, ↓g57_23, ↓g57_26, ↓g57_28, ↓g57_29, ↓g57_30, ↓g57_33, ↓g57_34, ↓g57_35, ↓g57_38, ↓g57_39, ↓g57_42, ↓g57_45, ↓mo_0, ↓mf_0_0, ↓mf_0_1, ↓mf_0_2, ↓mf_0_3, ↓mf_0_4, ↓mo_1, ↓mf_1_0, ↓mf_1_1, ↓mo_2, ↓mf_2_0, ↓mo_4, ↓mf_4_0, ↓mo_6, ↓mf_6_0, ↓mf_6_1, ↓mf_6_2, ↓mf_6_3, ↓mp_6_4, ↓mf_6_4, ↓mp_6_5, ↓mf_6_5, ↓mo_7, ↓mf_7_0, ↓mo_9, ↓mf_9_0, ↓mo_11, ↓mf_11_0, ↓mo_13, ↓mf_13_0, ↓mf_13_1, ↓mp_13_2, ↓mf_13_2, ↓mp_13_3, ↓mf_13_3, ↓mo_14, ↓mf_14_0, ↓mp_14_1, ↓mf_14_1, ↓mp_14_2, ↓mf_14_2, ↓mo_15, ↓mf_15_0, ↓mf_15_1, ↓mp_15_2, ↓mf_15_2, ↓mo_16, ↓mf_16_0, ↓mo_18, ↓mf_18_0, ↓ma_3, ↓ms_3, ↓ma_5, ↓ms_5, ↓ma_8, ↓ms_8, ↓ma_10, ↓ms_10, ↓ma_12, ↓ms_12, ↓ma_17, ↓ms_17, ↓ma_19, ↓ms_19, ↓bnd_some, ↓cond_true, ↓m_pv_none, ↓m_pv_some, m_b01_0, m_b01_1, true_and, and_true, ↓g1, ↓reduceIte, eq_self, i_10]⟩
  | some l =>
    rw [hb] at g1
    cases l with
    | nil => exact ⟨c, h, fun K => by simp only [↓g57_0, ↓g57_1, ↓g57_4, ↓g57_5, ↓g57_6, ↓g57_9, ↓g57_11, ↓g57_12, ↓g57_13, ↓g57_16, ↓g57_19, ↓g57_20, ↓g57_21, ↓g57_23, ↓g57_26, ↓g57_28, ↓g57_29, ↓g57_30, ↓g57_33, ↓g57_34, ↓g57_35, ↓g57_38, ↓g57_39, ↓g57_42, ↓g57_45, ↓mo_0, ↓mf_0_0, ↓mf_0_1, ↓mf_0_2, ↓mf_0_3, ↓mf_0_4, ↓mo_1, ↓mf_1_0, ↓mf_1_1, ↓mo_2, ↓mf_2_0, ↓mo_4, ↓mf_4_0, ↓mo_6, ↓mf_6_0, ↓mf_6_1, ↓mf_6_2, ↓mf_6_3, ↓mp_6_4, ↓mf_6_4, ↓mp_6_5, ↓mf_6_5, ↓mo_7, ↓mf_7_0, ↓mo_9, ↓mf_9_0, ↓mo_11, ↓mf_11_0, ↓mo_13, ↓mf_13_0, ↓mf_13_1, ↓mp_13_2, ↓mf_13_2, ↓mp_13_3, ↓mf_13_3, ↓mo_14, ↓mf_14_0, ↓mp_14_1, ↓mf_14_1, ↓mp_14_2, ↓mf_14_2, ↓mo_15, ↓mf_15_0, ↓mf_15_1, ↓mp_15_2, ↓mf_15_2, ↓mo_16, ↓mf_16_0, ↓mo_18, ↓mf_18_0, ↓ma_3, ↓ms_3, ↓ma_5, ↓ms_5, ↓ma_8, ↓ms_8, ↓ma_10, ↓ms_10, ↓ma_12, ↓ms_12, ↓ma_17, ↓ms_17, ↓ma_19, ↓ms_19, ↓bnd_some, ↓cond_true, ↓m_pv_none, ↓m_pv_some, m_b01_0, m_b01_1, true_and, and_true, ↓g1, List.length_nil, show (nI 0 = 0) = True from eq_true rfl, ↓reduceIte, eq_self, i_10]⟩
    | cons b l =>
      obtain ⟨b1, -, -⟩ := bys_all hb
      obtain ⟨T, nx, h1⟩ := h
      have hp := h1.pad.1
      have e1 : ¬ nI (b :: l).length = 0 := nI_ne0 (by rw [List.length_cons]; omega) (by omega)
      have e2 : (nI (σ.2.2.2.length + (b :: l).length) ≤ 60) = (σ.2.2.2.length + (b :: l).length ≤ 60) := propext (nI_leI (b := 60) (by omega) (by decide))
      dsimp only at g1 ⊢
      by_cases hf : σ.2.2.2.length + (b :: l).length ≤ 60
      · rw [if_pos hf]
        obtain ⟨c2, h2, s2, g2⟩ := p_append (S := S) (t := t) hr hb hf h1.pad
        have h3 := h1.padTo h2 s2 (by simp) (by simp) (by simp)
        have g3 := fun K => p_length (S := S) (t := t) h2 K
        rw [List.length_append, List.length_reverse] at g3
        refine ⟨c2, ⟨_, _, h3⟩, fun K => ?_⟩
        simp only [↓g57_0, ↓g57_1, ↓g57_4, ↓g57_5, ↓g57_6, ↓g57_9, ↓g57_11, ↓g57_12, ↓g57_13, ↓g57_16, ↓g57_19, ↓g57_20, ↓g57_21, ↓g57_23, ↓g57_26, ↓g57_28, ↓g57_29, ↓g57_30, ↓g57_33, ↓g57_34, ↓g57_35, ↓g57_38, ↓g57_39, ↓g57_42, ↓g57_45, ↓mo_0, ↓mf_0_0, ↓mf_0_1, ↓mf_0_2, ↓mf_0_3, ↓mf_0_4, ↓mo_1, ↓mf_1_0, ↓mf_1_1, ↓mo_2, ↓mf_2_0, ↓mo_4, ↓mf_4_0, ↓mo_6, ↓mf_6_0, ↓mf_6_1, ↓mf_6_2, ↓mf_6_3, ↓mp_6_4, ↓mf_6_4, ↓mp_6_5, ↓mf_6_5, ↓mo_7, ↓mf_7_0, ↓mo_9, ↓mf_9_0, ↓mo_11, ↓mf_11_0, ↓mo_13, ↓mf_13_0, ↓mf_13_1, ↓mp_13_2, ↓mf_13_2, ↓mp_13_3, ↓mf_13_3, ↓mo_14, ↓mf_14_0, ↓mp_14_1, ↓mf_14_1, ↓mp_14_2, ↓mf_14_2, ↓mo_15, ↓mf_15_0, ↓mf_15_1, ↓mp_15_2, ↓mf_15_2, ↓mo_16, ↓mf_16_0, ↓mo_18, ↓mf_18_0, ↓ma_3, ↓ms_3, ↓ma_5, ↓ms_5, ↓ma_8, ↓ms_8, ↓ma_10, ↓ms_10, ↓ma_12, ↓ms_12, ↓ma_17, ↓ms_17, ↓ma_19, ↓ms_19, ↓bnd_some, ↓cond_true, ↓m_pv_none, ↓m_pv_some, m_b01_0, m_b01_1, true_and, and_true, ↓g1, e1, ↓p_length h1.pad, nI_add, e2, hf, ↓g2, ↓g3, ↓reduceIte, eq_self, i_10]
      · rw [if_neg hf]
        refine ⟨c, ⟨_, _, h1⟩, fun K => ?_⟩
        simp only [↓g57_0, ↓g57_1, ↓g57_4, ↓g57_5, ↓g57_6, ↓g57_9, ↓g57_11, ↓g57_12, ↓g57_13, ↓g57_16, ↓g57_19, ↓g57_20, ↓g57_21, ↓g57_23, ↓g57_26, ↓g57_28, ↓g57_29, ↓g57_30, ↓g57_33, ↓g57_34, ↓g57_35, ↓g57_38, ↓g57_39, ↓g57_42, ↓g57_45, ↓mo_0, ↓mf_0_0, ↓mf_0_1, ↓mf_0_2, ↓mf_0_3, ↓mf_0_4, ↓mo_1, ↓mf_1_0, ↓mf_1_1, ↓mo_2, ↓mf_2_0, ↓mo_4, ↓mf_4_0, ↓mo_6, ↓mf_6_0, ↓mf_6_1, ↓mf_6_2, ↓mf_6_3, ↓mp_6_4, ↓mf_6_4, ↓mp_6_5, ↓mf_6_5, ↓mo_7, ↓mf_7_0, ↓mo_9, ↓mf_9_0, ↓mo_11, ↓mf_11_0, ↓mo_13, ↓mf_13_0, ↓mf_13_1, ↓mp_13_2, ↓mf_13_2, ↓mp_13_3, ↓mf_13_3, ↓mo_14, ↓mf_14_0, ↓mp_14_1, ↓mf_14_1, ↓mp_14_2, ↓mf_14_2, ↓mo_15, ↓mf_15_0, ↓mf_15_1, ↓mp_15_2, ↓mf_15_2, ↓mo_16, ↓mf_16_0, ↓mo_18, ↓mf_18_0, ↓ma_3, ↓ms_3, ↓ma_5, ↓ms_5, ↓ma_8, ↓ms_8, ↓ma_10, ↓ms_10, ↓ma_12, ↓ms_12, ↓ma_17, ↓ms_17, ↓ma_19, ↓ms_19, ↓bnd_some, ↓cond_true, ↓m_pv_none, ↓m_pv_some, m_b01_0, m_b01_1, true_and, and_true, ↓g1, e1, ↓p_length h1.pad, nI_add, e2, hf, ↓reduceIte, eq_self, i_10]
theorem C_wipe (h : CI c σ) : CC S 58 [.ref 0, .null] c t (F_wipe σ) := by
  obtain ⟨T, nx, h1⟩ := h
  obtain ⟨c2, h2, s2, g2⟩ := p_empty (S := S) (t := t) h1.pad
  refine ⟨c2, ⟨_, _, h1.padTo h2 s2 (by simp) (by simp) (by simp)⟩, fun K => ?_⟩
  simp only [↓g58_0, ↓g58_1, ↓g58_4, ↓g58_7, ↓g58_8, ↓g58_9, ↓g58_12, ↓g58_15, ↓g58_16, ↓mo_0, ↓mf_0_0, ↓mf_0_1, ↓mf_0_2, ↓mf_0_3, ↓mf_0_4, ↓mo_1, ↓mf_1_0, ↓mf_1_1, ↓mo_2, ↓mf_2_0, ↓mo_4, ↓mf_4_0, ↓mo_6, ↓mf_6_0, ↓mf_6_1, ↓mf_6_2, ↓mf_6_3, ↓mp_6_4, ↓mf_6_4, ↓mp_6_5, ↓mf_6_5, ↓mo_7, ↓mf_7_0, ↓mo_9, ↓mf_9_0, ↓mo_11, ↓mf_11_0, ↓mo_13, ↓mf_13_0, ↓mf_13_1, ↓mp_13_2, ↓mf_13_2, ↓mp_13_3, ↓mf_13_3, ↓mo_14, ↓mf_14_0, ↓mp_14_1, ↓mf_14_1, ↓mp_14_2, ↓mf_14_2, ↓mo_15, ↓mf_15_0, ↓mf_15_1, ↓mp_15_2, ↓mf_15_2, ↓mo_16, ↓mf_16_0, ↓mo_18, ↓mf_18_0, ↓ma_3, ↓ms_3, ↓ma_5, ↓ms_5, ↓ma_8, ↓ms_8, ↓ma_10, ↓ms_10, ↓ma_12, ↓ms_12, ↓ma_17, ↓ms_17, ↓ma_19, ↓ms_19, ↓bnd_some, ↓cond_true, ↓m_pv_none, ↓m_pv_some, m_b01_0, m_b01_1, true_and, and_true, ↓p_length h1.pad, ↓g2]
  rfl
theorem C_fault (h : CI c σ) (ho : SOk σ) : CC S 59 [.ref 0] c t (F_fault σ) := by
  obtain ⟨T, nx, h1⟩ := h
  obtain ⟨c1, s1, g1⟩ := p_wrong (S := S) (t := t) ho.pad h1.pad
  refine ⟨c1, ⟨_, _, h1.same (h1.1.sx s1 (by simp) (by simp)) (fun _ _ => rfl) s1 (by simp) (by simp) (by simp)⟩, fun K => ?_⟩
  simp only [↓g59_0, ↓g59_1, ↓g59_4, ↓g59_7, ↓mo_0, ↓mf_0_0, ↓mf_0_1, ↓mf_0_2, ↓mf_0_3, ↓mf_0_4, ↓mo_1, ↓mf_1_0, ↓mf_1_1, ↓mo_2, ↓mf_2_0, ↓mo_4, ↓mf_4_0, ↓mo_6, ↓mf_6_0, ↓mf_6_1, ↓mf_6_2, ↓mf_6_3, ↓mp_6_4, ↓mf_6_4, ↓mp_6_5, ↓mf_6_5, ↓mo_7, ↓mf_7_0, ↓mo_9, ↓mf_9_0, ↓mo_11, ↓mf_11_0, ↓mo_13, ↓mf_13_0, ↓mf_13_1, ↓mp_13_2, ↓mf_13_2, ↓mp_13_3, ↓mf_13_3, ↓mo_14, ↓mf_14_0, ↓mp_14_1, ↓mf_14_1, ↓mp_14_2, ↓mf_14_2, ↓mo_15, ↓mf_15_0, ↓mf_15_1, ↓mp_15_2, ↓mf_15_2, ↓mo_16, ↓mf_16_0, ↓mo_18, ↓mf_18_0, ↓ma_3, ↓ms_3, ↓ma_5, ↓ms_5, ↓ma_8, ↓ms_8, ↓ma_10, ↓ms_10, ↓ma_12, ↓ms_12, ↓ma_17, ↓ms_17, ↓ma_19, ↓ms_19, ↓bnd_some, ↓cond_true, ↓m_pv_none, ↓m_pv_some, m_b01_0, m_b01_1, true_and, and_true, ↓g1]
  rfl
theorem sumF_pos {f : Nat → Nat} {n : Nat} (h : 0 < f 0) : 0 < sumF f (n + 1) := by
  induction n with
  | zero =>
    rw [sumF, sumF]
    omega
  | succ n ih =>
    rw [sumF]
    omega
end CALLS3

