/-! the model's calls, to the end -/
section MC4
theorem bys_map {r : Nat} {l : List Nat} (hb : bys 8 r = some l) : (List.range l.length).map (fun i => r / 2 ^ (8 * i) % 256) = l := by
  obtain ⟨b1, b2, b3⟩ := bys_all hb
  apply List.ext_getElem?
  intro i
  by_cases hi : i < l.length
  · have := b3 i hi
    rw [List.getD_eq_getElem?_getD, List.getElem?_eq_getElem hi, Option.getD_some] at this
    rw [List.getElem?_map, List.getElem?_range hi, Option.map_some, List.getElem?_eq_getElem hi, this]
  · rw [List.getElem?_eq_none (by simp; omega), List.getElem?_eq_none (by omega)]
variable {S : mS} {c d : Nat → Nat → Int32} {σ : Sg}
theorem M_ends (h : MI d σ) (ho : SOk σ) (x o f : Int32) : MC S 125 [.ref 20, .int x, .int o, .int f, .null] d c (F_ends σ x o f) := by
  unfold F_ends
  cases hx : rgx x 6 with
  | none => exact ⟨d, h, fun K => by simp only [↓g125_0, ↓g125_1, ↓g125_4, ↓g125_7, ↓g125_8, ↓g125_9, ↓g125_12, ↓g125_15, ↓g125_16, ↓g125_19, ↓g125_22, ↓g125_24, ↓g125_27, ↓g125_28, ↓g125_29, ↓g125_30, ↓g125_31, ↓g125_34, ↓g125_35, ↓g125_36, ↓g125_37, ↓g125_40, ↓g125_42, ↓g125_44, ↓g125_47, ↓g125_49, ↓g125_52, ↓g125_54, ↓mo_20, ↓mf_20_0, ↓mf_20_1, ↓mp_20_2, ↓mf_20_2, ↓mf_20_3, ↓mf_20_4, ↓mf_20_5, ↓mp_20_6, ↓mf_20_6, ↓mf_20_7, ↓mp_20_8, ↓mf_20_8, ↓mf_20_9, ↓mf_20_10, ↓mp_20_11, ↓mf_20_11, ↓mf_20_12, ↓mf_20_13, ↓mp_20_14, ↓mf_20_14, ↓mf_20_15, ↓mp_20_16, ↓mf_20_16, ↓ma_21, ↓ms_21, ↓ma_22, ↓ms_22, ↓ma_23, ↓ms_23, ↓ma_24, ↓ms_24, ↓ma_25, ↓ms_25, ↓ma_26, ↓ms_26, ↓ma_27, ↓ms_27, ↓ma_28, ↓ms_28, ↓ma_29, ↓ms_29, ↓ma_30, ↓ms_30, ↓ma_31, ↓ms_31, ↓bnd_some, ↓cond_true, ↓m_pv_none, ↓m_pv_some, m_b01_0, m_b01_1, true_and, and_true, eq_self, ↓z_reg _ hx, ↓reduceIte]⟩
  | some i =>
    obtain ⟨hi, rfl⟩ := rgx_some hx (by decide)
    cases hy : rgx o 3 with
    | none => exact ⟨d, h, fun K => by simp only [↓g125_0, ↓g125_1, ↓g125_4, ↓g125_7, ↓g125_8, ↓g125_9, ↓g125_12, ↓g125_15, ↓g125_16, ↓g125_19, ↓g125_22, ↓g125_24, ↓g125_27, ↓g125_28, ↓g125_29, ↓g125_30, ↓g125_31, ↓g125_34, ↓g125_35, ↓g125_36, ↓g125_37, ↓g125_40, ↓g125_42, ↓g125_44, ↓g125_47, ↓g125_49, ↓g125_52, ↓g125_54, ↓mo_20, ↓mf_20_0, ↓mf_20_1, ↓mp_20_2, ↓mf_20_2, ↓mf_20_3, ↓mf_20_4, ↓mf_20_5, ↓mp_20_6, ↓mf_20_6, ↓mf_20_7, ↓mp_20_8, ↓mf_20_8, ↓mf_20_9, ↓mf_20_10, ↓mp_20_11, ↓mf_20_11, ↓mf_20_12, ↓mf_20_13, ↓mp_20_14, ↓mf_20_14, ↓mf_20_15, ↓mp_20_16, ↓mf_20_16, ↓ma_21, ↓ms_21, ↓ma_22, ↓ms_22, ↓ma_23, ↓ms_23, ↓ma_24, ↓ms_24, ↓ma_25, ↓ms_25, ↓ma_26, ↓ms_26, ↓ma_27, ↓ms_27, ↓ma_28, ↓ms_28, ↓ma_29, ↓ms_29, ↓ma_30, ↓ms_30, ↓ma_31, ↓ms_31, ↓bnd_some, ↓cond_true, ↓m_pv_none, ↓m_pv_some, m_b01_0, m_b01_1, true_and, and_true, eq_self, ↓o_reg _ hi, ↓z_run1 _ hy, i_10, ↓reduceIte]⟩
    | some o =>
      obtain ⟨hj, rfl⟩ := rgx_some hy (by decide)
      cases hz : fux f with
      | none => exact ⟨d, h, fun K => by simp only [↓g125_0, ↓g125_1, ↓g125_4, ↓g125_7, ↓g125_8, ↓g125_9, ↓g125_12, ↓g125_15, ↓g125_16, ↓g125_19, ↓g125_22, ↓g125_24, ↓g125_27, ↓g125_28, ↓g125_29, ↓g125_30, ↓g125_31, ↓g125_34, ↓g125_35, ↓g125_36, ↓g125_37, ↓g125_40, ↓g125_42, ↓g125_44, ↓g125_47, ↓g125_49, ↓g125_52, ↓g125_54, ↓mo_20, ↓mf_20_0, ↓mf_20_1, ↓mp_20_2, ↓mf_20_2, ↓mf_20_3, ↓mf_20_4, ↓mf_20_5, ↓mp_20_6, ↓mf_20_6, ↓mf_20_7, ↓mp_20_8, ↓mf_20_8, ↓mf_20_9, ↓mf_20_10, ↓mp_20_11, ↓mf_20_11, ↓mf_20_12, ↓mf_20_13, ↓mp_20_14, ↓mf_20_14, ↓mf_20_15, ↓mp_20_16, ↓mf_20_16, ↓ma_21, ↓ms_21, ↓ma_22, ↓ms_22, ↓ma_23, ↓ms_23, ↓ma_24, ↓ms_24, ↓ma_25, ↓ms_25, ↓ma_26, ↓ms_26, ↓ma_27, ↓ms_27, ↓ma_28, ↓ms_28, ↓ma_29, ↓ms_29, ↓ma_30, ↓ms_30, ↓ma_31, ↓ms_31, ↓bnd_some, ↓cond_true, ↓m_pv_none, ↓m_pv_some, m_b01_0, m_b01_1, true_and, and_true, eq_self, ↓o_reg _ hi, ↓z_run2 _ hj hz, i_10, ↓reduceIte]⟩
      | some n =>
        obtain ⟨f1, f2, rfl⟩ := fux_some hz
        have hT := ho.reg hi
        obtain ⟨d2, r2, v2, m2, g2⟩ := n_load (S := S) (c := c) h.1 hi hT
        have h2 := h.mx m2 (by simp) (by simp) (by simp) (by simp) (by simp) (by simp) (by simp)
        obtain ⟨d3, r3, v3, m3, g3⟩ := n_on (S := S) (c := c) hj f2 r2 v2 hT
        have h3 := h2.mx m3 (by simp) (by simp) (by simp) (by simp) (by simp) (by simp) (by simp)
        have hk' := rn_ok (o := o) (n := n) hT
        refine ⟨d3, h3, fun K => ?_⟩
        have y3 := fun M K => o_run (S := S) M hj f1 f2 K
        unfold onv at g3
        dsimp only
        by_cases hn : nxt (rn o n (σ.1 i)).2.2 o = none
        · rw [if_pos hn] at g3 ⊢
          have e1 : (0 : Int32) ≤ nI (rn o n (σ.1 i)).1 := nI_pos' (by omega)
          simp only [↓g125_0, ↓g125_1, ↓g125_4, ↓g125_7, ↓g125_8, ↓g125_9, ↓g125_12, ↓g125_15, ↓g125_16, ↓g125_19, ↓g125_22, ↓g125_24, ↓g125_27, ↓g125_28, ↓g125_29, ↓g125_30, ↓g125_31, ↓g125_34, ↓g125_35, ↓g125_36, ↓g125_37, ↓g125_40, ↓g125_42, ↓g125_44, ↓g125_47, ↓g125_49, ↓g125_52, ↓g125_54, ↓mo_20, ↓mf_20_0, ↓mf_20_1, ↓mp_20_2, ↓mf_20_2, ↓mf_20_3, ↓mf_20_4, ↓mf_20_5, ↓mp_20_6, ↓mf_20_6, ↓mf_20_7, ↓mp_20_8, ↓mf_20_8, ↓mf_20_9, ↓mf_20_10, ↓mp_20_11, ↓mf_20_11, ↓mf_20_12, ↓mf_20_13, ↓mp_20_14, ↓mf_20_14, ↓mf_20_15, ↓mp_20_16, ↓mf_20_16, ↓ma_21, ↓ms_21, ↓ma_22, ↓ms_22, ↓ma_23, ↓ms_23, ↓ma_24, ↓ms_24, ↓ma_25, ↓ms_25, ↓ma_26, ↓ms_26, ↓ma_27, ↓ms_27, ↓ma_28, ↓ms_28, ↓ma_29, ↓ms_29, ↓ma_30, ↓ms_30, ↓ma_31, ↓ms_31, ↓bnd_some, ↓cond_true, ↓m_pv_none, ↓m_pv_some, m_b01_0, m_b01_1, true_and, and_true, eq_self, ↓o_reg _ hi, ↓y3, i_10, ↓reduceIte, ↓g2, ↓g3, e1]
        · rw [if_neg hn] at g3 ⊢
          have e1 : ¬ (0 : Int32) ≤ -1 - nI (rn o n (σ.1 i)).1 := Int32.not_le.mpr (of_eq_true (onv_neg (s := (rn o n (σ.1 i)).1) (by omega)))
          simp only [↓g125_0, ↓g125_1, ↓g125_4, ↓g125_7, ↓g125_8, ↓g125_9, ↓g125_12, ↓g125_15, ↓g125_16, ↓g125_19, ↓g125_22, ↓g125_24, ↓g125_27, ↓g125_28, ↓g125_29, ↓g125_30, ↓g125_31, ↓g125_34, ↓g125_35, ↓g125_36, ↓g125_37, ↓g125_40, ↓g125_42, ↓g125_44, ↓g125_47, ↓g125_49, ↓g125_52, ↓g125_54, ↓mo_20, ↓mf_20_0, ↓mf_20_1, ↓mp_20_2, ↓mf_20_2, ↓mf_20_3, ↓mf_20_4, ↓mf_20_5, ↓mp_20_6, ↓mf_20_6, ↓mf_20_7, ↓mp_20_8, ↓mf_20_8, ↓mf_20_9, ↓mf_20_10, ↓mp_20_11, ↓mf_20_11, ↓mf_20_12, ↓mf_20_13, ↓mp_20_14, ↓mf_20_14, ↓mf_20_15, ↓mp_20_16, ↓mf_20_16, ↓ma_21, ↓ms_21, ↓ma_22, ↓ms_22, ↓ma_23, ↓ms_23, ↓ma_24, ↓ms_24, ↓ma_25, ↓ms_25, ↓ma_26, ↓ms_26, ↓ma_27, ↓ms_27, ↓ma_28, ↓ms_28, ↓ma_29, ↓ms_29, ↓ma_30, ↓ms_30, ↓ma_31, ↓ms_31, ↓bnd_some, ↓cond_true, ↓m_pv_none, ↓m_pv_some, m_b01_0, m_b01_1, true_and, and_true, eq_self, ↓o_reg _ hi, ↓y3, i_10, ↓reduceIte, ↓g2, ↓g3, e1]
theorem M_most (h : MI d σ) (ho : SOk σ) (x o f : Int32) : MC S 128 [.ref 20, .int x, .int o, .int f, .null, .null, .null] d c (F_most σ x o f) := by
  unfold F_most
  cases hx : rgx x 6 with
  | none => exact ⟨d, h, fun K => by simp only [↓g128_0, ↓g128_1, ↓g128_4, ↓g128_7, ↓g128_8, ↓g128_9, ↓g128_12, ↓g128_15, ↓g128_16, ↓g128_19, ↓g128_22, ↓g128_24, ↓g128_27, ↓g128_28, ↓g128_29, ↓g128_30, ↓g128_31, ↓g128_34, ↓g128_35, ↓g128_38, ↓g128_40, ↓g128_41, ↓g128_43, ↓g128_44, ↓g128_48, ↓g128_49, ↓g128_52, ↓g128_54, ↓g128_57, ↓g128_58, ↓g128_59, ↓g128_62, ↓g128_64, ↓g128_65, ↓g128_68, ↓g128_70, ↓g128_73, ↓g128_74, ↓g128_77, ↓g128_80, ↓g128_82, ↓g128_84, ↓g128_87, ↓g128_90, ↓g128_92, ↓mo_20, ↓mf_20_0, ↓mf_20_1, ↓mp_20_2, ↓mf_20_2, ↓mf_20_3, ↓mf_20_4, ↓mf_20_5, ↓mp_20_6, ↓mf_20_6, ↓mf_20_7, ↓mp_20_8, ↓mf_20_8, ↓mf_20_9, ↓mf_20_10, ↓mp_20_11, ↓mf_20_11, ↓mf_20_12, ↓mf_20_13, ↓mp_20_14, ↓mf_20_14, ↓mf_20_15, ↓mp_20_16, ↓mf_20_16, ↓ma_21, ↓ms_21, ↓ma_22, ↓ms_22, ↓ma_23, ↓ms_23, ↓ma_24, ↓ms_24, ↓ma_25, ↓ms_25, ↓ma_26, ↓ms_26, ↓ma_27, ↓ms_27, ↓ma_28, ↓ms_28, ↓ma_29, ↓ms_29, ↓ma_30, ↓ms_30, ↓ma_31, ↓ms_31, ↓bnd_some, ↓cond_true, ↓m_pv_none, ↓m_pv_some, m_b01_0, m_b01_1, true_and, and_true, eq_self, ↓z_reg _ hx, ↓reduceIte]⟩
  | some i =>
    obtain ⟨hi, rfl⟩ := rgx_some hx (by decide)
    cases hy : rgx o 3 with
    | none => exact ⟨d, h, fun K => by simp only [↓g128_0, ↓g128_1, ↓g128_4, ↓g128_7, ↓g128_8, ↓g128_9, ↓g128_12, ↓g128_15, ↓g128_16, ↓g128_19, ↓g128_22, ↓g128_24, ↓g128_27, ↓g128_28, ↓g128_29, ↓g128_30, ↓g128_31, ↓g128_34, ↓g128_35, ↓g128_38, ↓g128_40, ↓g128_41, ↓g128_43, ↓g128_44, ↓g128_48, ↓g128_49, ↓g128_52, ↓g128_54, ↓g128_57, ↓g128_58, ↓g128_59, ↓g128_62, ↓g128_64, ↓g128_65, ↓g128_68, ↓g128_70, ↓g128_73, ↓g128_74, ↓g128_77, ↓g128_80, ↓g128_82, ↓g128_84, ↓g128_87, ↓g128_90, ↓g128_92, ↓mo_20, ↓mf_20_0, ↓mf_20_1, ↓mp_20_2, ↓mf_20_2, ↓mf_20_3, ↓mf_20_4, ↓mf_20_5, ↓mp_20_6, ↓mf_20_6, ↓mf_20_7, ↓mp_20_8, ↓mf_20_8, ↓mf_20_9, ↓mf_20_10, ↓mp_20_11, ↓mf_20_11, ↓mf_20_12, ↓mf_20_13, ↓mp_20_14, ↓mf_20_14, ↓mf_20_15, ↓mp_20_16, ↓mf_20_16, ↓ma_21, ↓ms_21, ↓ma_22, ↓ms_22, ↓ma_23, ↓ms_23, ↓ma_24, ↓ms_24, ↓ma_25, ↓ms_25, ↓ma_26, ↓ms_26, ↓ma_27, ↓ms_27, ↓ma_28, ↓ms_28, ↓ma_29, ↓ms_29, ↓ma_30, ↓ms_30, ↓ma_31, ↓ms_31, ↓bnd_some, ↓cond_true, ↓m_pv_none, ↓m_pv_some, m_b01_0, m_b01_1, true_and, and_true, eq_self, ↓o_reg _ hi, ↓z_run1 _ hy, i_10, ↓reduceIte]⟩
    | some o =>
      obtain ⟨hj, rfl⟩ := rgx_some hy (by decide)
      cases hz : fux f with
      | none => exact ⟨d, h, fun K => by simp only [↓g128_0, ↓g128_1, ↓g128_4, ↓g128_7, ↓g128_8, ↓g128_9, ↓g128_12, ↓g128_15, ↓g128_16, ↓g128_19, ↓g128_22, ↓g128_24, ↓g128_27, ↓g128_28, ↓g128_29, ↓g128_30, ↓g128_31, ↓g128_34, ↓g128_35, ↓g128_38, ↓g128_40, ↓g128_41, ↓g128_43, ↓g128_44, ↓g128_48, ↓g128_49, ↓g128_52, ↓g128_54, ↓g128_57, ↓g128_58, ↓g128_59, ↓g128_62, ↓g128_64, ↓g128_65, ↓g128_68, ↓g128_70, ↓g128_73, ↓g128_74, ↓g128_77, ↓g128_80, ↓g128_82, ↓g128_84, ↓g128_87, ↓g128_90, ↓g128_92, ↓mo_20, ↓mf_20_0, ↓mf_20_1, ↓mp_20_2, ↓mf_20_2, ↓mf_20_3, ↓mf_20_4, ↓mf_20_5, ↓mp_20_6, ↓mf_20_6, ↓mf_20_7, ↓mp_20_8, ↓mf_20_8, ↓mf_20_9, ↓mf_20_10, ↓mp_20_11, ↓mf_20_11, ↓mf_20_12, ↓mf_20_13, ↓mp_20_14, ↓mf_20_14, ↓mf_20_15, ↓mp_20_16, ↓mf_20_16, ↓ma_21, ↓ms_21, ↓ma_22, ↓ms_22, ↓ma_23, ↓ms_23, ↓ma_24, ↓ms_24, ↓ma_25, ↓ms_25, ↓ma_26, ↓ms_26, ↓ma_27, ↓ms_27, ↓ma_28, ↓ms_28, ↓ma_29, ↓ms_29, ↓ma_30, ↓ms_30, ↓ma_31, ↓ms_31, ↓bnd_some, ↓cond_true, ↓m_pv_none, ↓m_pv_some, m_b01_0, m_b01_1, true_and, and_true, eq_self, ↓o_reg _ hi, ↓z_run2 _ hj hz, i_10, ↓reduceIte]⟩
      | some n =>
        obtain ⟨f1, f2, rfl⟩ := fux_some hz
        have hT := ho.reg hi
        obtain ⟨d2, r2, v2, m2, g2⟩ := n_load (S := S) (c := c) h.1 hi hT
        have h2 := h.mx m2 (by simp) (by simp) (by simp) (by simp) (by simp) (by simp) (by simp)
        obtain ⟨d3, m3, g3⟩ := n_mostL (S := S) (c := c) hj f2 n 0 (σ.1 i).length d2 (σ.1 i) rfl (Nat.le_refl _) hT.2 r2 v2 hT
        have h3 := h2.mx m3 (by simp) (by simp) (by simp) (by simp) (by simp) (by simp) (by simp)
        have hk' := rn_ok (o := o) (n := n) hT
        refine ⟨d3, h3, fun K => ?_⟩
        have y3 := fun M K => o_run (S := S) M hj f1 f2 K
        have g4 := g3 K (.int (nI i))
        rw [Nat.max_eq_right hk'.2.2.1] at g4
        simp only [↓g128_0, ↓g128_1, ↓g128_4, ↓g128_7, ↓g128_8, ↓g128_9, ↓g128_12, ↓g128_15, ↓g128_16, ↓g128_19, ↓g128_22, ↓g128_24, ↓g128_27, ↓g128_28, ↓g128_29, ↓g128_30, ↓g128_31, ↓g128_34, ↓g128_35, ↓g128_38, ↓g128_40, ↓g128_41, ↓g128_43, ↓g128_44, ↓g128_48, ↓g128_49, ↓g128_52, ↓g128_54, ↓g128_57, ↓g128_58, ↓g128_59, ↓g128_62, ↓g128_64, ↓g128_65, ↓g128_68, ↓g128_70, ↓g128_73, ↓g128_74, ↓g128_77, ↓g128_80, ↓g128_82, ↓g128_84, ↓g128_87, ↓g128_90, ↓g128_92, ↓mo_20, ↓mf_20_0, ↓mf_20_1, ↓mp_20_2, ↓mf_20_2, ↓mf_20_3, ↓mf_20_4, ↓mf_20_5, ↓mp_20_6, ↓mf_20_6, ↓mf_20_7, ↓mp_20_8, ↓mf_20_8, ↓mf_20_9, ↓mf_20_10, ↓mp_20_11, ↓mf_20_11, ↓mf_20_12, ↓mf_20_13, ↓mp_20_14, ↓mf_20_14, ↓mf_20_15, ↓mp_20_16, ↓mf_20_16, ↓ma_21, ↓ms_21, ↓ma_22, ↓ms_22, ↓ma_23, ↓ms_23, ↓ma_24, ↓ms_24, ↓ma_25, ↓ms_25, ↓ma_26, ↓ms_26, ↓ma_27, ↓ms_27, ↓ma_28, ↓ms_28, ↓ma_29, ↓ms_29, ↓ma_30, ↓ms_30, ↓ma_31, ↓ms_31, ↓bnd_some, ↓cond_true, ↓m_pv_none, ↓m_pv_some, m_b01_0, m_b01_1, true_and, and_true, eq_self, ↓o_reg _ hi, ↓y3, i_10, ↓reduceIte, ↓g2, r2.1]
        exact g4
theorem n_mvRO (d : Nat → Nat → Int32) {w : Nat} (hw : w ≤ 200) (K : Option Value → mM → Prop) : go S 83 0 [.ref 26, .int 0, .ref 30, .int 0, .int (nI w), .null] [] (mk c (md d)) K = K none (mk c (md (ca d 10 (va_cpy (d 6) (d 10) 0 0 w)))) := by
  have g := n_moves (S := S) (F := fun g => mk c (md (ca d 10 g))) (a := 26) (b := 30) (f := d 6) (fun g => rfl) (fun g => rfl) (fun g g' => by
    show mk c (md (ca (ca d 10 g) 10 g')) = _
    rw [ca_ca]) (by decide) (by decide) (p := 0) (q := 0) (w := w) (by omega) (by omega) (d 10) K (x := 0) (y := 0)
  simp only [ca_self] at g
  exact g
theorem n_meetL {l l' : Tm} (h : RW d l) (hk : Tok l) (hk' : Tok l') (h' : ∀ p, p < l'.length → d 10 p = nI (cm (pt l' p))) (hl : l.length = l'.length) : ∀ (n k : Nat), n + k = l.length → (∀ p, p < k → pt l p = pt l' p) → ∀ (K : Option Value → mM → Prop) (a1 a2 a3 a4 a5 : Value), go S 126 83 [.ref 20, a1, a2, a3, a4, a5, .int 1, .int (nI k)] [] (mk c (md d)) K = K (some (.int (if l = l' then 1 else 0))) (mk c (md d))
  | 0, k, hn, hp, K, a1, a2, a3, a4, a5 => by
    have e : k = l.length := by omega
    subst e
    rw [g126_83, if_pos (tm_eq hl hp)]
    simp only [↓g126_0, ↓g126_1, ↓g126_2, ↓g126_5, ↓g126_6, ↓g126_8, ↓g126_10, ↓g126_13, ↓g126_16, ↓g126_18, ↓g126_19, ↓g126_20, ↓g126_21, ↓g126_24, ↓g126_27, ↓g126_28, ↓g126_31, ↓g126_32, ↓g126_33, ↓g126_36, ↓g126_37, ↓g126_38, ↓g126_41, ↓g126_44, ↓g126_45, ↓g126_46, ↓g126_49, ↓g126_50, ↓g126_51, ↓g126_53, ↓g126_56, ↓g126_59, ↓g126_61, ↓g126_62, ↓g126_63, ↓g126_66, ↓g126_67, ↓g126_70, ↓g126_73, ↓g126_74, ↓g126_77, ↓g126_78, ↓g126_80, ↓g126_81, ↓g126_85, ↓g126_86, ↓g126_89, ↓g126_92, ↓g126_94, ↓g126_97, ↓g126_98, ↓g126_101, ↓g126_103, ↓g126_104, ↓g126_105, ↓g126_108, ↓g126_110, ↓g126_111, ↓g126_114, ↓g126_115, ↓g126_118, ↓g126_119, ↓g126_121, ↓g126_124, ↓g126_127, ↓g126_129, ↓g126_132, ↓g126_133, ↓g126_136, ↓g126_137, ↓mo_20, ↓mf_20_0, ↓mf_20_1, ↓mp_20_2, ↓mf_20_2, ↓mf_20_3, ↓mf_20_4, ↓mf_20_5, ↓mp_20_6, ↓mf_20_6, ↓mf_20_7, ↓mp_20_8, ↓mf_20_8, ↓mf_20_9, ↓mf_20_10, ↓mp_20_11, ↓mf_20_11, ↓mf_20_12, ↓mf_20_13, ↓mp_20_14, ↓mf_20_14, ↓mf_20_15, ↓mp_20_16, ↓mf_20_16, ↓ma_21, ↓ms_21, ↓ma_22, ↓ms_22, ↓ma_23, ↓ms_23, ↓ma_24, ↓ms_24, ↓ma_25, ↓ms_25, ↓ma_26, ↓ms_26, ↓ma_27, ↓ms_27, ↓ma_28, ↓ms_28, ↓ma_29, ↓ms_29, ↓ma_30, ↓ms_30, ↓ma_31, ↓ms_31, ↓bnd_some, ↓cond_true, ↓m_pv_none, ↓m_pv_some, m_b01_0, m_b01_1, true_and, and_true, eq_self, h.1, Int32.le_refl, i_10, ↓reduceIte]
  | n + 1, k, hn, hp, K, a1, a2, a3, a4, a5 => by
    have hb := hk.2
    have hki : k < l.length := by omega
    have hkj : k < l'.length := by omega
    have e4 : ¬ nI l.length ≤ nI k := nI_ge (by omega) (by omega)
    have e7 := cm_inj hk hk' hki hkj
    have i1 := ib (show k < 200 by omega)
    have i2 := nI_clamp (show k < 2 ^ 31 by omega)
    rw [g126_83]
    by_cases e8 : pt l k = pt l' k
    · simp only [↓g126_0, ↓g126_1, ↓g126_2, ↓g126_5, ↓g126_6, ↓g126_8, ↓g126_10, ↓g126_13, ↓g126_16, ↓g126_18, ↓g126_19, ↓g126_20, ↓g126_21, ↓g126_24, ↓g126_27, ↓g126_28, ↓g126_31, ↓g126_32, ↓g126_33, ↓g126_36, ↓g126_37, ↓g126_38, ↓g126_41, ↓g126_44, ↓g126_45, ↓g126_46, ↓g126_49, ↓g126_50, ↓g126_51, ↓g126_53, ↓g126_56, ↓g126_59, ↓g126_61, ↓g126_62, ↓g126_63, ↓g126_66, ↓g126_67, ↓g126_70, ↓g126_73, ↓g126_74, ↓g126_77, ↓g126_78, ↓g126_80, ↓g126_81, ↓g126_85, ↓g126_86, ↓g126_89, ↓g126_92, ↓g126_94, ↓g126_97, ↓g126_98, ↓g126_101, ↓g126_103, ↓g126_104, ↓g126_105, ↓g126_108, ↓g126_110, ↓g126_111, ↓g126_114, ↓g126_115, ↓g126_118, ↓g126_119, ↓g126_121, ↓g126_124, ↓g126_127, ↓g126_129, ↓g126_132, ↓g126_133, ↓g126_136, ↓g126_137, ↓mo_20, ↓mf_20_0, ↓mf_20_1, ↓mp_20_2, ↓mf_20_2, ↓mf_20_3, ↓mf_20_4, ↓mf_20_5, ↓mp_20_6, ↓mf_20_6, ↓mf_20_7, ↓mp_20_8, ↓mf_20_8, ↓mf_20_9, ↓mf_20_10, ↓mp_20_11, ↓mf_20_11, ↓mf_20_12, ↓mf_20_13, ↓mp_20_14, ↓mf_20_14, ↓mf_20_15, ↓mp_20_16, ↓mf_20_16, ↓ma_21, ↓ms_21, ↓ma_22, ↓ms_22, ↓ma_23, ↓ms_23, ↓ma_24, ↓ms_24, ↓ma_25, ↓ms_25, ↓ma_26, ↓ms_26, ↓ma_27, ↓ms_27, ↓ma_28, ↓ms_28, ↓ma_29, ↓ms_29, ↓ma_30, ↓ms_30, ↓ma_31, ↓ms_31, ↓bnd_some, ↓cond_true, ↓m_pv_none, ↓m_pv_some, m_b01_0, m_b01_1, true_and, and_true, eq_self, h.1, e4, i_10, i1, i2, h.2 k hki, h' k hkj, e7.mpr e8, nI_1, ↓reduceIte]
      exact n_meetL h hk hk' h' hl n (k + 1) (by omega) (fun p hpk => by
        rcases Nat.lt_or_eq_of_le (Nat.le_of_lt_succ hpk) with z | z
        · exact hp p z
        · rw [z]; exact e8) K a1 a2 a3 a4 a5
    · simp only [↓g126_0, ↓g126_1, ↓g126_2, ↓g126_5, ↓g126_6, ↓g126_8, ↓g126_10, ↓g126_13, ↓g126_16, ↓g126_18, ↓g126_19, ↓g126_20, ↓g126_21, ↓g126_24, ↓g126_27, ↓g126_28, ↓g126_31, ↓g126_32, ↓g126_33, ↓g126_36, ↓g126_37, ↓g126_38, ↓g126_41, ↓g126_44, ↓g126_45, ↓g126_46, ↓g126_49, ↓g126_50, ↓g126_51, ↓g126_53, ↓g126_56, ↓g126_59, ↓g126_61, ↓g126_62, ↓g126_63, ↓g126_66, ↓g126_67, ↓g126_70, ↓g126_73, ↓g126_74, ↓g126_77, ↓g126_78, ↓g126_80, ↓g126_81, ↓g126_85, ↓g126_86, ↓g126_89, ↓g126_92, ↓g126_94, ↓g126_97, ↓g126_98, ↓g126_101, ↓g126_103, ↓g126_104, ↓g126_105, ↓g126_108, ↓g126_110, ↓g126_111, ↓g126_114, ↓g126_115, ↓g126_118, ↓g126_119, ↓g126_121, ↓g126_124, ↓g126_127, ↓g126_129, ↓g126_132, ↓g126_133, ↓g126_136, ↓g126_137, ↓mo_20, ↓mf_20_0, ↓mf_20_1, ↓mp_20_2, ↓mf_20_2, ↓mf_20_3, ↓mf_20_4, ↓mf_20_5, ↓mp_20_6, ↓mf_20_6, ↓mf_20_7, ↓mp_20_8, ↓mf_20_8, ↓mf_20_9, ↓mf_20_10, ↓mp_20_11, ↓mf_20_11, ↓mf_20_12, ↓mf_20_13, ↓mp_20_14, ↓mf_20_14, ↓mf_20_15, ↓mp_20_16, ↓mf_20_16, ↓ma_21, ↓ms_21, ↓ma_22, ↓ms_22, ↓ma_23, ↓ms_23, ↓ma_24, ↓ms_24, ↓ma_25, ↓ms_25, ↓ma_26, ↓ms_26, ↓ma_27, ↓ms_27, ↓ma_28, ↓ms_28, ↓ma_29, ↓ms_29, ↓ma_30, ↓ms_30, ↓ma_31, ↓ms_31, ↓bnd_some, ↓cond_true, ↓m_pv_none, ↓m_pv_some, m_b01_0, m_b01_1, true_and, and_true, eq_self, h.1, e4, i_10, i1, i2, h.2 k hki, h' k hkj, e7, e8, nI_1, ↓reduceIte]
      rw [if_neg (fun z => e8 (by rw [z])), g126_83]
      by_cases e9 : nI l.length ≤ nI (k + 1)
      · simp only [↓g126_0, ↓g126_1, ↓g126_2, ↓g126_5, ↓g126_6, ↓g126_8, ↓g126_10, ↓g126_13, ↓g126_16, ↓g126_18, ↓g126_19, ↓g126_20, ↓g126_21, ↓g126_24, ↓g126_27, ↓g126_28, ↓g126_31, ↓g126_32, ↓g126_33, ↓g126_36, ↓g126_37, ↓g126_38, ↓g126_41, ↓g126_44, ↓g126_45, ↓g126_46, ↓g126_49, ↓g126_50, ↓g126_51, ↓g126_53, ↓g126_56, ↓g126_59, ↓g126_61, ↓g126_62, ↓g126_63, ↓g126_66, ↓g126_67, ↓g126_70, ↓g126_73, ↓g126_74, ↓g126_77, ↓g126_78, ↓g126_80, ↓g126_81, ↓g126_85, ↓g126_86, ↓g126_89, ↓g126_92, ↓g126_94, ↓g126_97, ↓g126_98, ↓g126_101, ↓g126_103, ↓g126_104, ↓g126_105, ↓g126_108, ↓g126_110, ↓g126_111, ↓g126_114, ↓g126_115, ↓g126_118, ↓g126_119, ↓g126_121, ↓g126_124, ↓g126_127, ↓g126_129, ↓g126_132, ↓g126_133, ↓g126_136, ↓g126_137, ↓mo_20, ↓mf_20_0, ↓mf_20_1, ↓mp_20_2, ↓mf_20_2, ↓mf_20_3, ↓mf_20_4, ↓mf_20_5, ↓mp_20_6, ↓mf_20_6, ↓mf_20_7, ↓mp_20_8, ↓mf_20_8, ↓mf_20_9, ↓mf_20_10, ↓mp_20_11, ↓mf_20_11, ↓mf_20_12, ↓mf_20_13, ↓mp_20_14, ↓mf_20_14, ↓mf_20_15, ↓mp_20_16, ↓mf_20_16, ↓ma_21, ↓ms_21, ↓ma_22, ↓ms_22, ↓ma_23, ↓ms_23, ↓ma_24, ↓ms_24, ↓ma_25, ↓ms_25, ↓ma_26, ↓ms_26, ↓ma_27, ↓ms_27, ↓ma_28, ↓ms_28, ↓ma_29, ↓ms_29, ↓ma_30, ↓ms_30, ↓ma_31, ↓ms_31, ↓bnd_some, ↓cond_true, ↓m_pv_none, ↓m_pv_some, m_b01_0, m_b01_1, true_and, and_true, eq_self, h.1, e9, ↓reduceIte]
      · simp only [↓g126_0, ↓g126_1, ↓g126_2, ↓g126_5, ↓g126_6, ↓g126_8, ↓g126_10, ↓g126_13, ↓g126_16, ↓g126_18, ↓g126_19, ↓g126_20, ↓g126_21, ↓g126_24, ↓g126_27, ↓g126_28, ↓g126_31, ↓g126_32, ↓g126_33, ↓g126_36, ↓g126_37, ↓g126_38, ↓g126_41, ↓g126_44, ↓g126_45, ↓g126_46, ↓g126_49, ↓g126_50, ↓g126_51, ↓g126_53, ↓g126_56, ↓g126_59, ↓g126_61, ↓g126_62, ↓g126_63, ↓g126_66, ↓g126_67, ↓g126_70, ↓g126_73, ↓g126_74, ↓g126_77, ↓g126_78, ↓g126_80, ↓g126_81, ↓g126_85, ↓g126_86, ↓g126_89, ↓g126_92, ↓g126_94, ↓g126_97, ↓g126_98, ↓g126_101, ↓g126_103, ↓g126_104, ↓g126_105, ↓g126_108, ↓g126_110, ↓g126_111, ↓g126_114, ↓g126_115, ↓g126_118, ↓g126_119, ↓g126_121, ↓g126_124, ↓g126_127, ↓g126_129, ↓g126_132, ↓g126_133, ↓g126_136, ↓g126_137, ↓mo_20, ↓mf_20_0, ↓mf_20_1, ↓mp_20_2, ↓mf_20_2, ↓mf_20_3, ↓mf_20_4, ↓mf_20_5, ↓mp_20_6, ↓mf_20_6, ↓mf_20_7, ↓mp_20_8, ↓mf_20_8, ↓mf_20_9, ↓mf_20_10, ↓mp_20_11, ↓mf_20_11, ↓mf_20_12, ↓mf_20_13, ↓mp_20_14, ↓mf_20_14, ↓mf_20_15, ↓mp_20_16, ↓mf_20_16, ↓ma_21, ↓ms_21, ↓ma_22, ↓ms_22, ↓ma_23, ↓ms_23, ↓ma_24, ↓ms_24, ↓ma_25, ↓ms_25, ↓ma_26, ↓ms_26, ↓ma_27, ↓ms_27, ↓ma_28, ↓ms_28, ↓ma_29, ↓ms_29, ↓ma_30, ↓ms_30, ↓ma_31, ↓ms_31, ↓bnd_some, ↓cond_true, ↓m_pv_none, ↓m_pv_some, m_b01_0, m_b01_1, true_and, and_true, eq_self, h.1, e9, ↓reduceIte]
theorem n_meet (h : MI d σ) (ho : SOk σ) {i j o o' n : Nat} (hi : i < 6) (hj : j < 6) (h3 : o < 3) (h3' : o' < 3) (hn : n ≤ 200) {x y : Int32} (hx : x = nI o := by rfl) (hy : y = nI o' := by rfl) : ∃ d', MI d' σ ∧ ∀ (K : Option Value → mM → Prop), go S 126 0 [.ref 20, .int (nI i), .int x, .int (nI j), .int y, .int (nI n), .null, .null] [] (mk c (md d)) K = K (some (.int (mtv (σ.1 i) (σ.1 j) o o' n))) (mk c (md d')) := by
  subst hx; subst hy
  have hT := ho.reg hi
  have hT' := ho.reg hj
  have hR := rn_ok (o := o) (n := n) hT
  have hR' := rn_ok (o := o') (n := n) hT'
  obtain ⟨d1, r1, v1, m1, g1⟩ := n_load (S := S) (c := c) h.1 hj hT'
  have h1 := h.mx m1 (by simp) (by simp) (by simp) (by simp) (by simp) (by simp) (by simp)
  obtain ⟨d2, r2, v2, m2, g2⟩ := n_on (S := S) (c := c) h3' hn r1 v1 hT'
  have h2 := h1.mx m2 (by simp) (by simp) (by simp) (by simp) (by simp) (by simp) (by simp)
  unfold onv at g2
  unfold mtv
  by_cases q2 : nxt (rn o' n (σ.1 j)).2.2 o' = none
  · rw [if_pos q2] at g2
    have e2 : (0 : Int32) ≤ nI (rn o' n (σ.1 j)).1 := nI_pos' (by omega)
    have hlen' := hR'.1.2
    have f14 : ∀ v, mx [] [14] d2 (ca d2 0 (upd (d2 0) 14 v)) := fun v => mx_u (by simp)
    have x1 := n_mvRO (S := S) (c := c) (ca d2 0 (upd (d2 0) 14 (nI (rn o' n (σ.1 j)).2.2.length))) hlen'
    have m3 : mx [10] [14] d2 (ca (ca d2 0 (upd (d2 0) 14 (nI (rn o' n (σ.1 j)).2.2.length))) 10 (va_cpy (d2 6) (d2 10) 0 0 (rn o' n (σ.1 j)).2.2.length)) := mx_tr (mx_u (by simp)) (mx_ca (d := ca d2 0 (upd (d2 0) 14 (nI (rn o' n (σ.1 j)).2.2.length))) (by simp) (by decide))
    have h3 := h2.mx m3 (by simp) (by simp) (by simp) (by simp) (by simp) (by simp) (by simp)
    obtain ⟨d4, r4, v4, m4, g4⟩ := n_load (S := S) (c := c) h3.1 hi hT
    have h4 := h3.mx m4 (by simp) (by simp) (by simp) (by simp) (by simp) (by simp) (by simp)
    obtain ⟨d5, r5, v5, m5, g5⟩ := n_on (S := S) (c := c) ‹o < 3› hn r4 v4 hT
    have h5 := h4.mx m5 (by simp) (by simp) (by simp) (by simp) (by simp) (by simp) (by simp)
    have m35 : mx [6, 7, 8, 9] [8, 11] (ca (ca d2 0 (upd (d2 0) 14 (nI (rn o' n (σ.1 j)).2.2.length))) 10 (va_cpy (d2 6) (d2 10) 0 0 (rn o' n (σ.1 j)).2.2.length)) d5 := mx_tr (mx_up m4 (by simp) (by simp)) m5
    have e14 : d5 0 14 = nI (rn o' n (σ.1 j)).2.2.length := by rw [m35.2 14 (by simp), ca_ne (by decide), ca_eq, upd_eq]
    have e10 : ∀ p, p < (rn o' n (σ.1 j)).2.2.length → d5 10 p = nI (cm (pt (rn o' n (σ.1 j)).2.2 p)) := fun p hp => by
      rw [m35.1 10 (by decide) (by simp), ca_eq, pk_cpy_in (by omega) (by omega), Nat.sub_zero, Nat.zero_add]
      exact r2.2 p hp
    have x2 : ∀ K, go S 83 0 [.ref 26, .int 0, .ref 30, .int 0, .int (nI (rn o' n (σ.1 j)).2.2.length), .null] [] (mk c (md (ca d2 0 (upd (d2 0) 14 (nI (rn o' n (σ.1 j)).2.2.length))))) K = K none (mk c (md (ca (ca d2 0 (upd (d2 0) 14 (nI (rn o' n (σ.1 j)).2.2.length))) 10 (va_cpy (d2 6) (d2 10) 0 0 (rn o' n (σ.1 j)).2.2.length)))) := x1
    unfold onv at g5
    refine ⟨d5, h5, fun K => ?_⟩
    by_cases q5 : nxt (rn o n (σ.1 i)).2.2 o = none
    · rw [if_pos q5] at g5
      rw [if_pos q5, if_pos q2]
      have e5 : (0 : Int32) ≤ nI (rn o n (σ.1 i)).1 := nI_pos' (by omega)
      have hlen := hR.1.2
      have e6 : (nI (rn o n (σ.1 i)).2.2.length = nI (rn o' n (σ.1 j)).2.2.length) ↔ (rn o n (σ.1 i)).2.2.length = (rn o' n (σ.1 j)).2.2.length := nI_eq (by omega) (by omega)
      by_cases e : (rn o n (σ.1 i)).2.2.length = (rn o' n (σ.1 j)).2.2.length
      · have g6 := n_meetL (S := S) (c := c) r5 hR.1 hR'.1 e10 e (rn o n (σ.1 i)).2.2.length 0 rfl (fun p hp => absurd hp (Nat.not_lt_zero p)) K (.int (nI i)) (.int (nI o)) (.int (nI j)) (.int (nI o')) (.int (nI n))
        simp only [↓g126_0, ↓g126_1, ↓g126_2, ↓g126_5, ↓g126_6, ↓g126_8, ↓g126_10, ↓g126_13, ↓g126_16, ↓g126_18, ↓g126_19, ↓g126_20, ↓g126_21, ↓g126_24, ↓g126_27, ↓g126_28, ↓g126_31, ↓g126_32, ↓g126_33, ↓g126_36, ↓g126_37, ↓g126_38, ↓g126_41, ↓g126_44, ↓g126_45, ↓g126_46, ↓g126_49, ↓g126_50, ↓g126_51, ↓g126_53, ↓g126_56, ↓g126_59, ↓g126_61, ↓g126_62, ↓g126_63, ↓g126_66, ↓g126_67, ↓g126_70, ↓g126_73, ↓g126_74, ↓g126_77, ↓g126_78, ↓g126_80, ↓g126_81, ↓g126_85, ↓g126_86, ↓g126_89, ↓g126_92, ↓g126_94, ↓g126_97, ↓g126_98, ↓g126_101, ↓g126_103, ↓g126_104, ↓g126_105, ↓g126_108, ↓g126_110, ↓g126_111, ↓g126_114, ↓g126_115, ↓g126_118, ↓g126_119, ↓g126_121, ↓g126_124, ↓g126_127, ↓g126_129, ↓g126_132, ↓g126_133, ↓g126_136, ↓g126_137, ↓mo_20, ↓mf_20_0, ↓mf_20_1, ↓mp_20_2, ↓mf_20_2, ↓mf_20_3, ↓mf_20_4, ↓mf_20_5, ↓mp_20_6, ↓mf_20_6, ↓mf_20_7, ↓mp_20_8, ↓mf_20_8, ↓mf_20_9, ↓mf_20_10, ↓mp_20_11, ↓mf_20_11, ↓mf_20_12, ↓mf_20_13, ↓mp_20_14, ↓mf_20_14, ↓mf_20_15, ↓mp_20_16, ↓mf_20_16, ↓ma_21, ↓ms_21, ↓ma_22, ↓ms_22, ↓ma_23, ↓ms_23, ↓ma_24, ↓ms_24, ↓ma_25, ↓ms_25, ↓ma_26, ↓ms_26, ↓ma_27, ↓ms_27, ↓ma_28, ↓ms_28, ↓ma_29, ↓ms_29, ↓ma_30, ↓ms_30, ↓ma_31, ↓ms_31, ↓bnd_some, ↓cond_true, ↓m_pv_none, ↓m_pv_some, m_b01_0, m_b01_1, true_and, and_true, eq_self, ↓g1, ↓g2, e2, r2.1, cz_1, cz_2, cz_3, cz_4, cz_5, cz_6, cz_7, cz_8, cz_9, cz_10, cz_11, cn_1, cn_2, cn_3, cn_4, cn_5, cn_6, cn_7, cn_8, cn_9, cn_10, cn_11, un_2_6, un_2_8, un_2_11, un_2_14, un_2_16, un_6_2, un_6_8, un_6_11, un_6_14, un_6_16, un_8_2, un_8_6, un_8_11, un_8_14, un_8_16, un_11_2, un_11_6, un_11_8, un_11_14, un_11_16, un_14_2, un_14_6, un_14_8, un_14_11, un_14_16, un_16_2, un_16_6, un_16_8, un_16_11, un_16_14, ca_eq, upd_eq, ↓x2, ↓g4, ↓g5, e5, r5.1, e14, e6.mpr e, ↓reduceIte]
        exact g6
      · have hpos := hR.1.pos
        have e7 : ¬ nI (rn o n (σ.1 i)).2.2.length ≤ 0 := nI_gt0 hpos (by omega)
        rw [if_neg (fun z => e (by rw [z]))]
        simp only [↓g126_0, ↓g126_1, ↓g126_2, ↓g126_5, ↓g126_6, ↓g126_8, ↓g126_10, ↓g126_13, ↓g126_16, ↓g126_18, ↓g126_19, ↓g126_20, ↓g126_21, ↓g126_24, ↓g126_27, ↓g126_28, ↓g126_31, ↓g126_32, ↓g126_33, ↓g126_36, ↓g126_37, ↓g126_38, ↓g126_41, ↓g126_44, ↓g126_45, ↓g126_46, ↓g126_49, ↓g126_50, ↓g126_51, ↓g126_53, ↓g126_56, ↓g126_59, ↓g126_61, ↓g126_62, ↓g126_63, ↓g126_66, ↓g126_67, ↓g126_70, ↓g126_73, ↓g126_74, ↓g126_77, ↓g126_78, ↓g126_80, ↓g126_81, ↓g126_85, ↓g126_86, ↓g126_89, ↓g126_92, ↓g126_94, ↓g126_97, ↓g126_98, ↓g126_101, ↓g126_103, ↓g126_104, ↓g126_105, ↓g126_108, ↓g126_110, ↓g126_111, ↓g126_114, ↓g126_115, ↓g126_118, ↓g126_119, ↓g126_121, ↓g126_124, ↓g126_127, ↓g126_129, ↓g126_132, ↓g126_133, ↓g126_136, ↓g126_137, ↓mo_20, ↓mf_20_0, ↓mf_20_1, ↓mp_20_2, ↓mf_20_2, ↓mf_20_3, ↓mf_20_4, ↓mf_20_5, ↓mp_20_6, ↓mf_20_6, ↓mf_20_7, ↓mp_20_8, ↓mf_20_8, ↓mf_20_9, ↓mf_20_10, ↓mp_20_11, ↓mf_20_11, ↓mf_20_12, ↓mf_20_13, ↓mp_20_14, ↓mf_20_14, ↓mf_20_15, ↓mp_20_16, ↓mf_20_16, ↓ma_21, ↓ms_21, ↓ma_22, ↓ms_22, ↓ma_23, ↓ms_23, ↓ma_24, ↓ms_24, ↓ma_25, ↓ms_25, ↓ma_26, ↓ms_26, ↓ma_27, ↓ms_27, ↓ma_28, ↓ms_28, ↓ma_29, ↓ms_29, ↓ma_30, ↓ms_30, ↓ma_31, ↓ms_31, ↓bnd_some, ↓cond_true, ↓m_pv_none, ↓m_pv_some, m_b01_0, m_b01_1, true_and, and_true, eq_self, ↓g1, ↓g2, e2, r2.1, cz_1, cz_2, cz_3, cz_4, cz_5, cz_6, cz_7, cz_8, cz_9, cz_10, cz_11, cn_1, cn_2, cn_3, cn_4, cn_5, cn_6, cn_7, cn_8, cn_9, cn_10, cn_11, un_2_6, un_2_8, un_2_11, un_2_14, un_2_16, un_6_2, un_6_8, un_6_11, un_6_14, un_6_16, un_8_2, un_8_6, un_8_11, un_8_14, un_8_16, un_11_2, un_11_6, un_11_8, un_11_14, un_11_16, un_14_2, un_14_6, un_14_8, un_14_11, un_14_16, un_16_2, un_16_6, un_16_8, un_16_11, un_16_14, ca_eq, upd_eq, ↓x2, ↓g4, ↓g5, e5, r5.1, e14, e6, e, ↓reduceIte]
        rw [g126_83]
        simp only [↓g126_0, ↓g126_1, ↓g126_2, ↓g126_5, ↓g126_6, ↓g126_8, ↓g126_10, ↓g126_13, ↓g126_16, ↓g126_18, ↓g126_19, ↓g126_20, ↓g126_21, ↓g126_24, ↓g126_27, ↓g126_28, ↓g126_31, ↓g126_32, ↓g126_33, ↓g126_36, ↓g126_37, ↓g126_38, ↓g126_41, ↓g126_44, ↓g126_45, ↓g126_46, ↓g126_49, ↓g126_50, ↓g126_51, ↓g126_53, ↓g126_56, ↓g126_59, ↓g126_61, ↓g126_62, ↓g126_63, ↓g126_66, ↓g126_67, ↓g126_70, ↓g126_73, ↓g126_74, ↓g126_77, ↓g126_78, ↓g126_80, ↓g126_81, ↓g126_85, ↓g126_86, ↓g126_89, ↓g126_92, ↓g126_94, ↓g126_97, ↓g126_98, ↓g126_101, ↓g126_103, ↓g126_104, ↓g126_105, ↓g126_108, ↓g126_110, ↓g126_111, ↓g126_114, ↓g126_115, ↓g126_118, ↓g126_119, ↓g126_121, ↓g126_124, ↓g126_127, ↓g126_129, ↓g126_132, ↓g126_133, ↓g126_136, ↓g126_137, ↓mo_20, ↓mf_20_0, ↓mf_20_1, ↓mp_20_2, ↓mf_20_2, ↓mf_20_3, ↓mf_20_4, ↓mf_20_5, ↓mp_20_6, ↓mf_20_6, ↓mf_20_7, ↓mp_20_8, ↓mf_20_8, ↓mf_20_9, ↓mf_20_10, ↓mp_20_11, ↓mf_20_11, ↓mf_20_12, ↓mf_20_13, ↓mp_20_14, ↓mf_20_14, ↓mf_20_15, ↓mp_20_16, ↓mf_20_16, ↓ma_21, ↓ms_21, ↓ma_22, ↓ms_22, ↓ma_23, ↓ms_23, ↓ma_24, ↓ms_24, ↓ma_25, ↓ms_25, ↓ma_26, ↓ms_26, ↓ma_27, ↓ms_27, ↓ma_28, ↓ms_28, ↓ma_29, ↓ms_29, ↓ma_30, ↓ms_30, ↓ma_31, ↓ms_31, ↓bnd_some, ↓cond_true, ↓m_pv_none, ↓m_pv_some, m_b01_0, m_b01_1, true_and, and_true, eq_self, r5.1, e7, ↓reduceIte]
    · rw [if_neg q5] at g5
      rw [if_neg q5]
      have e5 : ¬ (0 : Int32) ≤ -1 - nI (rn o n (σ.1 i)).1 := Int32.not_le.mpr (of_eq_true (onv_neg (s := (rn o n (σ.1 i)).1) (by omega)))
      simp only [↓g126_0, ↓g126_1, ↓g126_2, ↓g126_5, ↓g126_6, ↓g126_8, ↓g126_10, ↓g126_13, ↓g126_16, ↓g126_18, ↓g126_19, ↓g126_20, ↓g126_21, ↓g126_24, ↓g126_27, ↓g126_28, ↓g126_31, ↓g126_32, ↓g126_33, ↓g126_36, ↓g126_37, ↓g126_38, ↓g126_41, ↓g126_44, ↓g126_45, ↓g126_46, ↓g126_49, ↓g126_50, ↓g126_51, ↓g126_53, ↓g126_56, ↓g126_59, ↓g126_61, ↓g126_62, ↓g126_63, ↓g126_66, ↓g126_67, ↓g126_70, ↓g126_73, ↓g126_74, ↓g126_77, ↓g126_78, ↓g126_80, ↓g126_81, ↓g126_85, ↓g126_86, ↓g126_89, ↓g126_92, ↓g126_94, ↓g126_97, ↓g126_98, ↓g126_101, ↓g126_103, ↓g126_104, ↓g126_105, ↓g126_108, ↓g126_110, ↓g126_111, ↓g126_114, ↓g126_115, ↓g126_118, ↓g126_119, ↓g126_121, ↓g126_124, ↓g126_127, ↓g126_129, ↓g126_132, ↓g126_133, ↓g126_136, ↓g126_137, ↓mo_20, ↓mf_20_0, ↓mf_20_1, ↓mp_20_2, ↓mf_20_2, ↓mf_20_3, ↓mf_20_4, ↓mf_20_5, ↓mp_20_6, ↓mf_20_6, ↓mf_20_7, ↓mp_20_8, ↓mf_20_8, ↓mf_20_9, ↓mf_20_10, ↓mp_20_11, ↓mf_20_11, ↓mf_20_12, ↓mf_20_13, ↓mp_20_14, ↓mf_20_14, ↓mf_20_15, ↓mp_20_16, ↓mf_20_16, ↓ma_21, ↓ms_21, ↓ma_22, ↓ms_22, ↓ma_23, ↓ms_23, ↓ma_24, ↓ms_24, ↓ma_25, ↓ms_25, ↓ma_26, ↓ms_26, ↓ma_27, ↓ms_27, ↓ma_28, ↓ms_28, ↓ma_29, ↓ms_29, ↓ma_30, ↓ms_30, ↓ma_31, ↓ms_31, ↓bnd_some, ↓cond_true, ↓m_pv_none, ↓m_pv_some, m_b01_0, m_b01_1, true_and, and_true, eq_self, ↓g1, ↓g2, e2, r2.1, cz_1, cz_2, cz_3, cz_4, cz_5, cz_6, cz_7, cz_8, cz_9, cz_10, cz_11, cn_1, cn_2, cn_3, cn_4, cn_5, cn_6, cn_7, cn_8, cn_9, cn_10, cn_11, un_2_6, un_2_8, un_2_11, un_2_14, un_2_16, un_6_2, un_6_8, un_6_11, un_6_14, un_6_16, un_8_2, un_8_6, un_8_11, un_8_14, un_8_16, un_11_2, un_11_6, un_11_8, un_11_14, un_11_16, un_14_2, un_14_6, un_14_8, un_14_11, un_14_16, un_16_2, un_16_6, un_16_8, un_16_11, un_16_14, ca_eq, upd_eq, ↓x2, ↓g4, ↓g5, e5, ↓reduceIte]
  · rw [if_neg q2] at g2
    have e2 : ¬ (0 : Int32) ≤ -1 - nI (rn o' n (σ.1 j)).1 := Int32.not_le.mpr (of_eq_true (onv_neg (s := (rn o' n (σ.1 j)).1) (by omega)))
    refine ⟨d2, h2, fun K => ?_⟩
    have e3 : (if nxt (rn o n (σ.1 i)).2.2 o = none then (if nxt (rn o' n (σ.1 j)).2.2 o' = none then (if (rn o n (σ.1 i)).2.2 = (rn o' n (σ.1 j)).2.2 then (1 : Int32) else 0) else -6) else -6) = -6 := by
      rw [if_neg q2]
      split <;> rfl
    rw [e3]
    simp only [↓g126_0, ↓g126_1, ↓g126_2, ↓g126_5, ↓g126_6, ↓g126_8, ↓g126_10, ↓g126_13, ↓g126_16, ↓g126_18, ↓g126_19, ↓g126_20, ↓g126_21, ↓g126_24, ↓g126_27, ↓g126_28, ↓g126_31, ↓g126_32, ↓g126_33, ↓g126_36, ↓g126_37, ↓g126_38, ↓g126_41, ↓g126_44, ↓g126_45, ↓g126_46, ↓g126_49, ↓g126_50, ↓g126_51, ↓g126_53, ↓g126_56, ↓g126_59, ↓g126_61, ↓g126_62, ↓g126_63, ↓g126_66, ↓g126_67, ↓g126_70, ↓g126_73, ↓g126_74, ↓g126_77, ↓g126_78, ↓g126_80, ↓g126_81, ↓g126_85, ↓g126_86, ↓g126_89, ↓g126_92, ↓g126_94, ↓g126_97, ↓g126_98, ↓g126_101, ↓g126_103, ↓g126_104, ↓g126_105, ↓g126_108, ↓g126_110, ↓g126_111, ↓g126_114, ↓g126_115, ↓g126_118, ↓g126_119, ↓g126_121, ↓g126_124, ↓g126_127, ↓g126_129, ↓g126_132, ↓g126_133, ↓g126_136, ↓g126_137, ↓mo_20, ↓mf_20_0, ↓mf_20_1, ↓mp_20_2, ↓mf_20_2, ↓mf_20_3, ↓mf_20_4, ↓mf_20_5, ↓mp_20_6, ↓mf_20_6, ↓mf_20_7, ↓mp_20_8, ↓mf_20_8, ↓mf_20_9, ↓mf_20_10, ↓mp_20_11, ↓mf_20_11, ↓mf_20_12, ↓mf_20_13, ↓mp_20_14, ↓mf_20_14, ↓mf_20_15, ↓mp_20_16, ↓mf_20_16, ↓ma_21, ↓ms_21, ↓ma_22, ↓ms_22, ↓ma_23, ↓ms_23, ↓ma_24, ↓ms_24, ↓ma_25, ↓ms_25, ↓ma_26, ↓ms_26, ↓ma_27, ↓ms_27, ↓ma_28, ↓ms_28, ↓ma_29, ↓ms_29, ↓ma_30, ↓ms_30, ↓ma_31, ↓ms_31, ↓bnd_some, ↓cond_true, ↓m_pv_none, ↓m_pv_some, m_b01_0, m_b01_1, true_and, and_true, eq_self, ↓g1, ↓g2, e2, ↓reduceIte]
theorem M_agree (h : MI d σ) (ho : SOk σ) (x f : Int32) : MC S 127 [.ref 20, .int x, .int f] d c (F_agree σ x f) := by
  unfold F_agree
  cases hx : rgx x 6 with
  | none => exact ⟨d, h, fun K => by simp only [↓g127_0, ↓g127_1, ↓g127_4, ↓g127_7, ↓g127_8, ↓g127_9, ↓g127_12, ↓g127_15, ↓g127_16, ↓g127_19, ↓g127_22, ↓g127_24, ↓g127_27, ↓g127_28, ↓g127_29, ↓g127_30, ↓g127_31, ↓g127_32, ↓g127_33, ↓g127_34, ↓g127_35, ↓g127_38, ↓mo_20, ↓mf_20_0, ↓mf_20_1, ↓mp_20_2, ↓mf_20_2, ↓mf_20_3, ↓mf_20_4, ↓mf_20_5, ↓mp_20_6, ↓mf_20_6, ↓mf_20_7, ↓mp_20_8, ↓mf_20_8, ↓mf_20_9, ↓mf_20_10, ↓mp_20_11, ↓mf_20_11, ↓mf_20_12, ↓mf_20_13, ↓mp_20_14, ↓mf_20_14, ↓mf_20_15, ↓mp_20_16, ↓mf_20_16, ↓ma_21, ↓ms_21, ↓ma_22, ↓ms_22, ↓ma_23, ↓ms_23, ↓ma_24, ↓ms_24, ↓ma_25, ↓ms_25, ↓ma_26, ↓ms_26, ↓ma_27, ↓ms_27, ↓ma_28, ↓ms_28, ↓ma_29, ↓ms_29, ↓ma_30, ↓ms_30, ↓ma_31, ↓ms_31, ↓bnd_some, ↓cond_true, ↓m_pv_none, ↓m_pv_some, m_b01_0, m_b01_1, true_and, and_true, eq_self, ↓z_reg _ hx, ↓reduceIte]⟩
  | some i =>
    obtain ⟨hi, rfl⟩ := rgx_some hx (by decide)
    cases hz : fux f with
    | none =>
      have y3 := fun M K => z_run2 (S := S) M (o := 0) (by decide) hz K (x := 0)
      exact ⟨d, h, fun K => by simp only [↓g127_0, ↓g127_1, ↓g127_4, ↓g127_7, ↓g127_8, ↓g127_9, ↓g127_12, ↓g127_15, ↓g127_16, ↓g127_19, ↓g127_22, ↓g127_24, ↓g127_27, ↓g127_28, ↓g127_29, ↓g127_30, ↓g127_31, ↓g127_32, ↓g127_33, ↓g127_34, ↓g127_35, ↓g127_38, ↓mo_20, ↓mf_20_0, ↓mf_20_1, ↓mp_20_2, ↓mf_20_2, ↓mf_20_3, ↓mf_20_4, ↓mf_20_5, ↓mp_20_6, ↓mf_20_6, ↓mf_20_7, ↓mp_20_8, ↓mf_20_8, ↓mf_20_9, ↓mf_20_10, ↓mp_20_11, ↓mf_20_11, ↓mf_20_12, ↓mf_20_13, ↓mp_20_14, ↓mf_20_14, ↓mf_20_15, ↓mp_20_16, ↓mf_20_16, ↓ma_21, ↓ms_21, ↓ma_22, ↓ms_22, ↓ma_23, ↓ms_23, ↓ma_24, ↓ms_24, ↓ma_25, ↓ms_25, ↓ma_26, ↓ms_26, ↓ma_27, ↓ms_27, ↓ma_28, ↓ms_28, ↓ma_29, ↓ms_29, ↓ma_30, ↓ms_30, ↓ma_31, ↓ms_31, ↓bnd_some, ↓cond_true, ↓m_pv_none, ↓m_pv_some, m_b01_0, m_b01_1, true_and, and_true, eq_self, ↓o_reg _ hi, ↓y3, i_10, ↓reduceIte]⟩
    | some n =>
      obtain ⟨f1, f2, rfl⟩ := fux_some hz
      have y3 := fun M K => o_run (S := S) M (o := 0) (by decide) f1 f2 K (x := 0)
      obtain ⟨d1, h1, g1⟩ := n_meet (S := S) (c := c) h ho hi hi (o := 0) (o' := 1) (by decide) (by decide) f2 (x := 0) (y := 1)
      refine ⟨d1, h1, fun K => ?_⟩
      simp only [↓g127_0, ↓g127_1, ↓g127_4, ↓g127_7, ↓g127_8, ↓g127_9, ↓g127_12, ↓g127_15, ↓g127_16, ↓g127_19, ↓g127_22, ↓g127_24, ↓g127_27, ↓g127_28, ↓g127_29, ↓g127_30, ↓g127_31, ↓g127_32, ↓g127_33, ↓g127_34, ↓g127_35, ↓g127_38, ↓mo_20, ↓mf_20_0, ↓mf_20_1, ↓mp_20_2, ↓mf_20_2, ↓mf_20_3, ↓mf_20_4, ↓mf_20_5, ↓mp_20_6, ↓mf_20_6, ↓mf_20_7, ↓mp_20_8, ↓mf_20_8, ↓mf_20_9, ↓mf_20_10, ↓mp_20_11, ↓mf_20_11, ↓mf_20_12, ↓mf_20_13, ↓mp_20_14, ↓mf_20_14, ↓mf_20_15, ↓mp_20_16, ↓mf_20_16, ↓ma_21, ↓ms_21, ↓ma_22, ↓ms_22, ↓ma_23, ↓ms_23, ↓ma_24, ↓ms_24, ↓ma_25, ↓ms_25, ↓ma_26, ↓ms_26, ↓ma_27, ↓ms_27, ↓ma_28, ↓ms_28, ↓ma_29, ↓ms_29, ↓ma_30, ↓ms_30, ↓ma_31, ↓ms_31, ↓bnd_some, ↓cond_true, ↓m_pv_none, ↓m_pv_some, m_b01_0, m_b01_1, true_and, and_true, eq_self, ↓o_reg _ hi, ↓y3, i_10, ↓g1, ↓reduceIte]
theorem M_alike (h : MI d σ) (ho : SOk σ) (x y f : Int32) : MC S 129 [.ref 20, .int x, .int y, .int f] d c (F_alike σ x y f) := by
  unfold F_alike
  cases hx : rgx x 6 with
  | none => exact ⟨d, h, fun K => by simp only [↓g129_0, ↓g129_1, ↓g129_4, ↓g129_7, ↓g129_8, ↓g129_11, ↓g129_14, ↓g129_15, ↓g129_16, ↓g129_17, ↓g129_18, ↓g129_21, ↓g129_24, ↓g129_25, ↓g129_26, ↓g129_27, ↓g129_28, ↓g129_29, ↓g129_30, ↓g129_33, ↓g129_36, ↓g129_38, ↓mo_20, ↓mf_20_0, ↓mf_20_1, ↓mp_20_2, ↓mf_20_2, ↓mf_20_3, ↓mf_20_4, ↓mf_20_5, ↓mp_20_6, ↓mf_20_6, ↓mf_20_7, ↓mp_20_8, ↓mf_20_8, ↓mf_20_9, ↓mf_20_10, ↓mp_20_11, ↓mf_20_11, ↓mf_20_12, ↓mf_20_13, ↓mp_20_14, ↓mf_20_14, ↓mf_20_15, ↓mp_20_16, ↓mf_20_16, ↓ma_21, ↓ms_21, ↓ma_22, ↓ms_22, ↓ma_23, ↓ms_23, ↓ma_24, ↓ms_24, ↓ma_25, ↓ms_25, ↓ma_26, ↓ms_26, ↓ma_27, ↓ms_27, ↓ma_28, ↓ms_28, ↓ma_29, ↓ms_29, ↓ma_30, ↓ms_30, ↓ma_31, ↓ms_31, ↓bnd_some, ↓cond_true, ↓m_pv_none, ↓m_pv_some, m_b01_0, m_b01_1, true_and, and_true, eq_self, ↓z_reg _ hx, ↓reduceIte]⟩
  | some i =>
    obtain ⟨hi, rfl⟩ := rgx_some hx (by decide)
    cases hy : rgx y 6 with
    | none => exact ⟨d, h, fun K => by simp only [↓g129_0, ↓g129_1, ↓g129_4, ↓g129_7, ↓g129_8, ↓g129_11, ↓g129_14, ↓g129_15, ↓g129_16, ↓g129_17, ↓g129_18, ↓g129_21, ↓g129_24, ↓g129_25, ↓g129_26, ↓g129_27, ↓g129_28, ↓g129_29, ↓g129_30, ↓g129_33, ↓g129_36, ↓g129_38, ↓mo_20, ↓mf_20_0, ↓mf_20_1, ↓mp_20_2, ↓mf_20_2, ↓mf_20_3, ↓mf_20_4, ↓mf_20_5, ↓mp_20_6, ↓mf_20_6, ↓mf_20_7, ↓mp_20_8, ↓mf_20_8, ↓mf_20_9, ↓mf_20_10, ↓mp_20_11, ↓mf_20_11, ↓mf_20_12, ↓mf_20_13, ↓mp_20_14, ↓mf_20_14, ↓mf_20_15, ↓mp_20_16, ↓mf_20_16, ↓ma_21, ↓ms_21, ↓ma_22, ↓ms_22, ↓ma_23, ↓ms_23, ↓ma_24, ↓ms_24, ↓ma_25, ↓ms_25, ↓ma_26, ↓ms_26, ↓ma_27, ↓ms_27, ↓ma_28, ↓ms_28, ↓ma_29, ↓ms_29, ↓ma_30, ↓ms_30, ↓ma_31, ↓ms_31, ↓bnd_some, ↓cond_true, ↓m_pv_none, ↓m_pv_some, m_b01_0, m_b01_1, true_and, and_true, eq_self, ↓o_reg _ hi, ↓z_reg _ hy, i_10, ↓reduceIte]⟩
    | some j =>
      obtain ⟨hj, rfl⟩ := rgx_some hy (by decide)
      cases hz : fux f with
      | none =>
        have y3 := fun M K => z_run2 (S := S) M (o := 0) (by decide) hz K (x := 0)
        exact ⟨d, h, fun K => by simp only [↓g129_0, ↓g129_1, ↓g129_4, ↓g129_7, ↓g129_8, ↓g129_11, ↓g129_14, ↓g129_15, ↓g129_16, ↓g129_17, ↓g129_18, ↓g129_21, ↓g129_24, ↓g129_25, ↓g129_26, ↓g129_27, ↓g129_28, ↓g129_29, ↓g129_30, ↓g129_33, ↓g129_36, ↓g129_38, ↓mo_20, ↓mf_20_0, ↓mf_20_1, ↓mp_20_2, ↓mf_20_2, ↓mf_20_3, ↓mf_20_4, ↓mf_20_5, ↓mp_20_6, ↓mf_20_6, ↓mf_20_7, ↓mp_20_8, ↓mf_20_8, ↓mf_20_9, ↓mf_20_10, ↓mp_20_11, ↓mf_20_11, ↓mf_20_12, ↓mf_20_13, ↓mp_20_14, ↓mf_20_14, ↓mf_20_15, ↓mp_20_16, ↓mf_20_16, ↓ma_21, ↓ms_21, ↓ma_22, ↓ms_22, ↓ma_23, ↓ms_23, ↓ma_24, ↓ms_24, ↓ma_25, ↓ms_25, ↓ma_26, ↓ms_26, ↓ma_27, ↓ms_27, ↓ma_28, ↓ms_28, ↓ma_29, ↓ms_29, ↓ma_30, ↓ms_30, ↓ma_31, ↓ms_31, ↓bnd_some, ↓cond_true, ↓m_pv_none, ↓m_pv_some, m_b01_0, m_b01_1, true_and, and_true, eq_self, ↓o_reg _ hi, ↓o_reg _ hj, ↓y3, i_10, ↓reduceIte]⟩
      | some n =>
        obtain ⟨f1, f2, rfl⟩ := fux_some hz
        have y3 := fun M K => o_run (S := S) M (o := 0) (by decide) f1 f2 K (x := 0)
        obtain ⟨d1, h1, g1⟩ := n_meet (S := S) (c := c) h ho hi hj (o := 0) (o' := 0) (by decide) (by decide) f2 (x := 0) (y := 0)
        refine ⟨d1, h1, fun K => ?_⟩
        simp only [↓g129_0, ↓g129_1, ↓g129_4, ↓g129_7, ↓g129_8, ↓g129_11, ↓g129_14, ↓g129_15, ↓g129_16, ↓g129_17, ↓g129_18, ↓g129_21, ↓g129_24, ↓g129_25, ↓g129_26, ↓g129_27, ↓g129_28, ↓g129_29, ↓g129_30, ↓g129_33, ↓g129_36, ↓g129_38, ↓mo_20, ↓mf_20_0, ↓mf_20_1, ↓mp_20_2, ↓mf_20_2, ↓mf_20_3, ↓mf_20_4, ↓mf_20_5, ↓mp_20_6, ↓mf_20_6, ↓mf_20_7, ↓mp_20_8, ↓mf_20_8, ↓mf_20_9, ↓mf_20_10, ↓mp_20_11, ↓mf_20_11, ↓mf_20_12, ↓mf_20_13, ↓mp_20_14, ↓mf_20_14, ↓mf_20_15, ↓mp_20_16, ↓mf_20_16, ↓ma_21, ↓ms_21, ↓ma_22, ↓ms_22, ↓ma_23, ↓ms_23, ↓ma_24, ↓ms_24, ↓ma_25, ↓ms_25, ↓ma_26, ↓ms_26, ↓ma_27, ↓ms_27, ↓ma_28, ↓ms_28, ↓ma_29, ↓ms_29, ↓ma_30, ↓ms_30, ↓ma_31, ↓ms_31, ↓bnd_some, ↓cond_true, ↓m_pv_none, ↓m_pv_some, m_b01_0, m_b01_1, true_and, and_true, eq_self, ↓o_reg _ hi, ↓o_reg _ hj, ↓y3, i_10, ↓g1, ↓reduceIte]
theorem mi_pad {d' : Nat → Nat → Int32} (h : MI d σ) {P : List Nat} (hP : PM d' P) (hs : mx [5] [6] d d') : MI d' (σ.1, σ.2.1, σ.2.2.1, P) := by
  obtain ⟨a1, a2, a3, a4⟩ := h
  exact ⟨by rw [hs.1 1 (by decide) (by decide)]; exact a1, ⟨by rw [hs.2 2 (by decide)]; exact a2.1, fun j hj => by rw [hs.1 2 (by decide) (by decide)]; exact a2.2 j hj⟩, fun s hs2 => (a3 s hs2).mx (hs.1 3 (by decide) (by decide)) (hs.1 4 (by decide) (by decide)), hP⟩
theorem M_put (h : MI d σ) (ho : SOk σ) {r : Nat} (hr : r < 2 ^ 64) : MC S 130 [.ref 20, .long (lN r), .null, .null, .null, .null, .null, .null] d c (F_put σ r) := by
  unfold F_put
  have hP := ho.pad.1
  have hle := zs_le 8 r
  have hr2 : (zs 8 r).2.1 < 2 ^ 64 := by omega
  have g1 : ∀ (M : mM) (K : Option Value → mM → Prop) (a0 a7 : Value), go S 130 8 [a0, .long (lN r), .null, .int 0, .long (lN r), .null, .int 1, a7] [] M K = go S 130 67 [a0, .long (lN r), .null, .int (nI (zs 8 r).1), .long (lN (zs 8 r).2.1), .null, .int (if (zs 8 r).2.2 = true then 1 else 0), a7] [] M K := fun M K a0 a7 => by
    have g := n_putA (S := S) M (lN r) 8 0 r true rfl hr K a0 a7
    rw [Nat.zero_add, Bool.true_and] at g
    exact g
  have e1 : (nI (zs 8 r).1 = 0) ↔ (zs 8 r).1 = 0 := nI_z (by omega)
  have e7 : (lN (zs 8 r).2.1 = (0 : Int64)) ↔ (zs 8 r).2.1 = 0 := lN_0 hr2
  have bad : ¬ ((zs 8 r).2.2 = true ∧ (zs 8 r).2.1 = 0) → MC S 130 [.ref 20, .long (lN r), .null, .null, .null, .null, .null, .null] d c (-2, σ) := fun hb => by
    refine ⟨d, h, fun K => ?_⟩
    simp only [↓g130_0, ↓g130_1, ↓g130_2, ↓g130_3, ↓g130_5, ↓g130_6, ↓g130_9, ↓g130_11, ↓g130_14, ↓g130_16, ↓g130_19, ↓g130_20, ↓g130_21, ↓g130_22, ↓g130_25, ↓g130_27, ↓g130_30, ↓g130_32, ↓g130_35, ↓g130_36, ↓g130_37, ↓g130_39, ↓g130_41, ↓g130_44, ↓g130_47, ↓g130_48, ↓g130_51, ↓g130_52, ↓g130_54, ↓g130_56, ↓g130_58, ↓g130_59, ↓g130_61, ↓g130_64, ↓g130_68, ↓g130_71, ↓g130_73, ↓g130_76, ↓g130_78, ↓g130_79, ↓g130_80, ↓g130_83, ↓g130_85, ↓g130_86, ↓g130_87, ↓g130_90, ↓g130_91, ↓g130_92, ↓g130_94, ↓g130_97, ↓g130_99, ↓g130_100, ↓g130_101, ↓g130_102, ↓g130_103, ↓g130_107, ↓g130_110, ↓g130_111, ↓g130_114, ↓g130_115, ↓g130_118, ↓g130_119, ↓g130_121, ↓g130_123, ↓g130_124, ↓g130_125, ↓g130_128, ↓g130_129, ↓g130_130, ↓g130_131, ↓g130_132, ↓g130_133, ↓g130_136, ↓g130_137, ↓g130_138, ↓g130_141, ↓g130_144, ↓g130_147, ↓g130_148, ↓g130_151, ↓mo_20, ↓mf_20_0, ↓mf_20_1, ↓mp_20_2, ↓mf_20_2, ↓mf_20_3, ↓mf_20_4, ↓mf_20_5, ↓mp_20_6, ↓mf_20_6, ↓mf_20_7, ↓mp_20_8, ↓mf_20_8, ↓mf_20_9, ↓mf_20_10, ↓mp_20_11, ↓mf_20_11, ↓mf_20_12, ↓mf_20_13, ↓mp_20_14, ↓mf_20_14, ↓mf_20_15, ↓mp_20_16, ↓mf_20_16, ↓ma_21, ↓ms_21, ↓ma_22, ↓ms_22, ↓ma_23, ↓ms_23, ↓ma_24, ↓ms_24, ↓ma_25, ↓ms_25, ↓ma_26, ↓ms_26, ↓ma_27, ↓ms_27, ↓ma_28, ↓ms_28, ↓ma_29, ↓ms_29, ↓ma_30, ↓ms_30, ↓ma_31, ↓ms_31, ↓bnd_some, ↓cond_true, ↓m_pv_none, ↓m_pv_some, m_b01_0, m_b01_1, true_and, and_true, eq_self, ↓g1]
    by_cases z1 : (zs 8 r).1 = 0
    · simp only [↓g130_0, ↓g130_1, ↓g130_2, ↓g130_3, ↓g130_5, ↓g130_6, ↓g130_9, ↓g130_11, ↓g130_14, ↓g130_16, ↓g130_19, ↓g130_20, ↓g130_21, ↓g130_22, ↓g130_25, ↓g130_27, ↓g130_30, ↓g130_32, ↓g130_35, ↓g130_36, ↓g130_37, ↓g130_39, ↓g130_41, ↓g130_44, ↓g130_47, ↓g130_48, ↓g130_51, ↓g130_52, ↓g130_54, ↓g130_56, ↓g130_58, ↓g130_59, ↓g130_61, ↓g130_64, ↓g130_67, ↓g130_68, ↓g130_71, ↓g130_73, ↓g130_76, ↓g130_78, ↓g130_79, ↓g130_80, ↓g130_83, ↓g130_85, ↓g130_86, ↓g130_87, ↓g130_90, ↓g130_91, ↓g130_92, ↓g130_94, ↓g130_97, ↓g130_99, ↓g130_100, ↓g130_101, ↓g130_102, ↓g130_103, ↓g130_107, ↓g130_110, ↓g130_111, ↓g130_114, ↓g130_115, ↓g130_118, ↓g130_119, ↓g130_121, ↓g130_123, ↓g130_124, ↓g130_125, ↓g130_128, ↓g130_129, ↓g130_130, ↓g130_131, ↓g130_132, ↓g130_133, ↓g130_136, ↓g130_137, ↓g130_138, ↓g130_141, ↓g130_144, ↓g130_147, ↓g130_148, ↓g130_151, ↓mo_20, ↓mf_20_0, ↓mf_20_1, ↓mp_20_2, ↓mf_20_2, ↓mf_20_3, ↓mf_20_4, ↓mf_20_5, ↓mp_20_6, ↓mf_20_6, ↓mf_20_7, ↓mp_20_8, ↓mf_20_8, ↓mf_20_9, ↓mf_20_10, ↓mp_20_11, ↓mf_20_11, ↓mf_20_12, ↓mf_20_13, ↓mp_20_14, ↓mf_20_14, ↓mf_20_15, ↓mp_20_16, ↓mf_20_16, ↓ma_21, ↓ms_21, ↓ma_22, ↓ms_22, ↓ma_23, ↓ms_23, ↓ma_24, ↓ms_24, ↓ma_25, ↓ms_25, ↓ma_26, ↓ms_26, ↓ma_27, ↓ms_27, ↓ma_28, ↓ms_28, ↓ma_29, ↓ms_29, ↓ma_30, ↓ms_30, ↓ma_31, ↓ms_31, ↓bnd_some, ↓cond_true, ↓m_pv_none, ↓m_pv_some, m_b01_0, m_b01_1, true_and, and_true, eq_self, e1.mpr z1, ↓reduceIte]
    · by_cases z2 : (zs 8 r).2.2 = true
      · have z3 : ¬ (zs 8 r).2.1 = 0 := fun z => hb ⟨z2, z⟩
        rw [if_pos z2]
        simp only [↓g130_0, ↓g130_1, ↓g130_2, ↓g130_3, ↓g130_5, ↓g130_6, ↓g130_9, ↓g130_11, ↓g130_14, ↓g130_16, ↓g130_19, ↓g130_20, ↓g130_21, ↓g130_22, ↓g130_25, ↓g130_27, ↓g130_30, ↓g130_32, ↓g130_35, ↓g130_36, ↓g130_37, ↓g130_39, ↓g130_41, ↓g130_44, ↓g130_47, ↓g130_48, ↓g130_51, ↓g130_52, ↓g130_54, ↓g130_56, ↓g130_58, ↓g130_59, ↓g130_61, ↓g130_64, ↓g130_67, ↓g130_68, ↓g130_71, ↓g130_73, ↓g130_76, ↓g130_78, ↓g130_79, ↓g130_80, ↓g130_83, ↓g130_85, ↓g130_86, ↓g130_87, ↓g130_90, ↓g130_91, ↓g130_92, ↓g130_94, ↓g130_97, ↓g130_99, ↓g130_100, ↓g130_101, ↓g130_102, ↓g130_103, ↓g130_107, ↓g130_110, ↓g130_111, ↓g130_114, ↓g130_115, ↓g130_118, ↓g130_119, ↓g130_121, ↓g130_123, ↓g130_124, ↓g130_125, ↓g130_128, ↓g130_129, ↓g130_130, ↓g130_131, ↓g130_132, ↓g130_133, ↓g130_136, ↓g130_137, ↓g130_138, ↓g130_141, ↓g130_144, ↓g130_147, ↓g130_148, ↓g130_151, ↓mo_20, ↓mf_20_0, ↓mf_20_1, ↓mp_20_2, ↓mf_20_2, ↓mf_20_3, ↓mf_20_4, ↓mf_20_5, ↓mp_20_6, ↓mf_20_6, ↓mf_20_7, ↓mp_20_8, ↓mf_20_8, ↓mf_20_9, ↓mf_20_10, ↓mp_20_11, ↓mf_20_11, ↓mf_20_12, ↓mf_20_13, ↓mp_20_14, ↓mf_20_14, ↓mf_20_15, ↓mp_20_16, ↓mf_20_16, ↓ma_21, ↓ms_21, ↓ma_22, ↓ms_22, ↓ma_23, ↓ms_23, ↓ma_24, ↓ms_24, ↓ma_25, ↓ms_25, ↓ma_26, ↓ms_26, ↓ma_27, ↓ms_27, ↓ma_28, ↓ms_28, ↓ma_29, ↓ms_29, ↓ma_30, ↓ms_30, ↓ma_31, ↓ms_31, ↓bnd_some, ↓cond_true, ↓m_pv_none, ↓m_pv_some, m_b01_0, m_b01_1, true_and, and_true, eq_self, e1, z1, i_10, lg_cmp_eq, e7, z3, ↓reduceIte]
      · rw [if_neg z2]
        simp only [↓g130_0, ↓g130_1, ↓g130_2, ↓g130_3, ↓g130_5, ↓g130_6, ↓g130_9, ↓g130_11, ↓g130_14, ↓g130_16, ↓g130_19, ↓g130_20, ↓g130_21, ↓g130_22, ↓g130_25, ↓g130_27, ↓g130_30, ↓g130_32, ↓g130_35, ↓g130_36, ↓g130_37, ↓g130_39, ↓g130_41, ↓g130_44, ↓g130_47, ↓g130_48, ↓g130_51, ↓g130_52, ↓g130_54, ↓g130_56, ↓g130_58, ↓g130_59, ↓g130_61, ↓g130_64, ↓g130_67, ↓g130_68, ↓g130_71, ↓g130_73, ↓g130_76, ↓g130_78, ↓g130_79, ↓g130_80, ↓g130_83, ↓g130_85, ↓g130_86, ↓g130_87, ↓g130_90, ↓g130_91, ↓g130_92, ↓g130_94, ↓g130_97, ↓g130_99, ↓g130_100, ↓g130_101, ↓g130_102, ↓g130_103, ↓g130_107, ↓g130_110, ↓g130_111, ↓g130_114, ↓g130_115, ↓g130_118, ↓g130_119, ↓g130_121, ↓g130_123, ↓g130_124, ↓g130_125, ↓g130_128, ↓g130_129, ↓g130_130, ↓g130_131, ↓g130_132, ↓g130_133, ↓g130_136, ↓g130_137, ↓g130_138, ↓g130_141, ↓g130_144, ↓g130_147, ↓g130_148, ↓g130_151, ↓mo_20, ↓mf_20_0, ↓mf_20_1, ↓mp_20_2, ↓mf_20_2, ↓mf_20_3, ↓mf_20_4, ↓mf_20_5, ↓mp_20_6, ↓mf_20_6, ↓mf_20_7, ↓mp_20_8, ↓mf_20_8, ↓mf_20_9, ↓mf_20_10, ↓mp_20_11, ↓mf_20_11, ↓mf_20_12, ↓mf_20_13, ↓mp_20_14, ↓mf_20_14, ↓mf_20_15, ↓mp_20_16, ↓mf_20_16, ↓ma_21, ↓ms_21, ↓ma_22, ↓ms_22, ↓ma_23, ↓ms_23, ↓ma_24, ↓ms_24, ↓ma_25, ↓ms_25, ↓ma_26, ↓ms_26, ↓ma_27, ↓ms_27, ↓ma_28, ↓ms_28, ↓ma_29, ↓ms_29, ↓ma_30, ↓ms_30, ↓ma_31, ↓ms_31, ↓bnd_some, ↓cond_true, ↓m_pv_none, ↓m_pv_some, m_b01_0, m_b01_1, true_and, and_true, eq_self, e1, z1, ↓reduceIte]
  cases hb : bys 8 r with
  | none => exact bad (zs_none hb)
  | some l =>
    obtain ⟨z1, z2, z3⟩ := zs_some hb
    obtain ⟨b1, b2, b3⟩ := bys_all hb
    cases l with
    | nil =>
      have z3 : (zs 8 r).1 = 0 := z3
      refine ⟨d, h, fun K => ?_⟩
      simp only [↓g130_0, ↓g130_1, ↓g130_2, ↓g130_3, ↓g130_5, ↓g130_6, ↓g130_9, ↓g130_11, ↓g130_14, ↓g130_16, ↓g130_19, ↓g130_20, ↓g130_21, ↓g130_22, ↓g130_25, ↓g130_27, ↓g130_30, ↓g130_32, ↓g130_35, ↓g130_36, ↓g130_37, ↓g130_39, ↓g130_41, ↓g130_44, ↓g130_47, ↓g130_48, ↓g130_51, ↓g130_52, ↓g130_54, ↓g130_56, ↓g130_58, ↓g130_59, ↓g130_61, ↓g130_64, ↓g130_68, ↓g130_71, ↓g130_73, ↓g130_76, ↓g130_78, ↓g130_79, ↓g130_80, ↓g130_83, ↓g130_85, ↓g130_86, ↓g130_87, ↓g130_90, ↓g130_91, ↓g130_92, ↓g130_94, ↓g130_97, ↓g130_99, ↓g130_100, ↓g130_101, ↓g130_102, ↓g130_103, ↓g130_107, ↓g130_110, ↓g130_111, ↓g130_114, ↓g130_115, ↓g130_118, ↓g130_119, ↓g130_121, ↓g130_123, ↓g130_124, ↓g130_125, ↓g130_128, ↓g130_129, ↓g130_130, ↓g130_131, ↓g130_132, ↓g130_133, ↓g130_136, ↓g130_137, ↓g130_138, ↓g130_141, ↓g130_144, ↓g130_147, ↓g130_148, ↓g130_151, ↓mo_20, ↓mf_20_0, ↓mf_20_1, ↓mp_20_2, ↓mf_20_2, ↓mf_20_3, ↓mf_20_4, ↓mf_20_5, ↓mp_20_6, ↓mf_20_6, ↓mf_20_7, ↓mp_20_8, ↓mf_20_8, ↓mf_20_9, ↓mf_20_10, ↓mp_20_11, ↓mf_20_11, ↓mf_20_12, ↓mf_20_13, ↓mp_20_14, ↓mf_20_14, ↓mf_20_15, ↓mp_20_16, ↓mf_20_16, ↓ma_21, ↓ms_21, ↓ma_22, ↓ms_22, ↓ma_23, ↓ms_23, ↓ma_24, ↓ms_24, ↓ma_25, ↓ms_25, ↓ma_26, ↓ms_26, ↓ma_27, ↓ms_27, ↓ma_28, ↓ms_28, ↓ma_29, ↓ms_29, ↓ma_30, ↓ms_30, ↓ma_31, ↓ms_31, ↓bnd_some, ↓cond_true, ↓m_pv_none, ↓m_pv_some, m_b01_0, m_b01_1, true_and, and_true, eq_self, ↓g1]
      simp only [↓g130_0, ↓g130_1, ↓g130_2, ↓g130_3, ↓g130_5, ↓g130_6, ↓g130_9, ↓g130_11, ↓g130_14, ↓g130_16, ↓g130_19, ↓g130_20, ↓g130_21, ↓g130_22, ↓g130_25, ↓g130_27, ↓g130_30, ↓g130_32, ↓g130_35, ↓g130_36, ↓g130_37, ↓g130_39, ↓g130_41, ↓g130_44, ↓g130_47, ↓g130_48, ↓g130_51, ↓g130_52, ↓g130_54, ↓g130_56, ↓g130_58, ↓g130_59, ↓g130_61, ↓g130_64, ↓g130_67, ↓g130_68, ↓g130_71, ↓g130_73, ↓g130_76, ↓g130_78, ↓g130_79, ↓g130_80, ↓g130_83, ↓g130_85, ↓g130_86, ↓g130_87, ↓g130_90, ↓g130_91, ↓g130_92, ↓g130_94, ↓g130_97, ↓g130_99, ↓g130_100, ↓g130_101, ↓g130_102, ↓g130_103, ↓g130_107, ↓g130_110, ↓g130_111, ↓g130_114, ↓g130_115, ↓g130_118, ↓g130_119, ↓g130_121, ↓g130_123, ↓g130_124, ↓g130_125, ↓g130_128, ↓g130_129, ↓g130_130, ↓g130_131, ↓g130_132, ↓g130_133, ↓g130_136, ↓g130_137, ↓g130_138, ↓g130_141, ↓g130_144, ↓g130_147, ↓g130_148, ↓g130_151, ↓mo_20, ↓mf_20_0, ↓mf_20_1, ↓mp_20_2, ↓mf_20_2, ↓mf_20_3, ↓mf_20_4, ↓mf_20_5, ↓mp_20_6, ↓mf_20_6, ↓mf_20_7, ↓mp_20_8, ↓mf_20_8, ↓mf_20_9, ↓mf_20_10, ↓mp_20_11, ↓mf_20_11, ↓mf_20_12, ↓mf_20_13, ↓mp_20_14, ↓mf_20_14, ↓mf_20_15, ↓mp_20_16, ↓mf_20_16, ↓ma_21, ↓ms_21, ↓ma_22, ↓ms_22, ↓ma_23, ↓ms_23, ↓ma_24, ↓ms_24, ↓ma_25, ↓ms_25, ↓ma_26, ↓ms_26, ↓ma_27, ↓ms_27, ↓ma_28, ↓ms_28, ↓ma_29, ↓ms_29, ↓ma_30, ↓ms_30, ↓ma_31, ↓ms_31, ↓bnd_some, ↓cond_true, ↓m_pv_none, ↓m_pv_some, m_b01_0, m_b01_1, true_and, and_true, eq_self, e1.mpr z3, ↓reduceIte]
    | cons b l =>
      have hl0 : ¬ nI (b :: l).length = 0 := nI_ne0 (by rw [List.length_cons]; omega) (by omega)
      have e70 : (lN 0 = (0 : Int64)) = True := eq_true rfl
      have e8 : (nI (σ.2.2.2.length + (b :: l).length) ≤ 60) ↔ σ.2.2.2.length + (b :: l).length ≤ 60 := nI_leI (b := 60) (by omega) (by decide)
      have e9 : nI σ.2.2.2.length + nI (b :: l).length = nI (σ.2.2.2.length + (b :: l).length) := nI_add _ _
      dsimp only
      by_cases hf : σ.2.2.2.length + (b :: l).length ≤ 60
      · rw [if_pos hf]
        obtain ⟨d1, h1, m1, g2⟩ := n_putB (S := S) (c := c) hr (b :: l).length d σ.2.2.2 b1 hf h.2.2.2
        rw [bys_map hb] at h1
        refine ⟨d1, mi_pad h h1 m1, fun K => ?_⟩
        simp only [↓g130_0, ↓g130_1, ↓g130_2, ↓g130_3, ↓g130_5, ↓g130_6, ↓g130_9, ↓g130_11, ↓g130_14, ↓g130_16, ↓g130_19, ↓g130_20, ↓g130_21, ↓g130_22, ↓g130_25, ↓g130_27, ↓g130_30, ↓g130_32, ↓g130_35, ↓g130_36, ↓g130_37, ↓g130_39, ↓g130_41, ↓g130_44, ↓g130_47, ↓g130_48, ↓g130_51, ↓g130_52, ↓g130_54, ↓g130_56, ↓g130_58, ↓g130_59, ↓g130_61, ↓g130_64, ↓g130_68, ↓g130_71, ↓g130_73, ↓g130_76, ↓g130_78, ↓g130_79, ↓g130_80, ↓g130_83, ↓g130_85, ↓g130_86, ↓g130_87, ↓g130_90, ↓g130_91, ↓g130_92, ↓g130_94, ↓g130_97, ↓g130_99, ↓g130_100, ↓g130_101, ↓g130_102, ↓g130_103, ↓g130_107, ↓g130_110, ↓g130_111, ↓g130_114, ↓g130_115, ↓g130_118, ↓g130_119, ↓g130_121, ↓g130_123, ↓g130_124, ↓g130_125, ↓g130_128, ↓g130_129, ↓g130_130, ↓g130_131, ↓g130_132, ↓g130_133, ↓g130_136, ↓g130_137, ↓g130_138, ↓g130_141, ↓g130_144, ↓g130_147, ↓g130_148, ↓g130_151, ↓mo_20, ↓mf_20_0, ↓mf_20_1, ↓mp_20_2, ↓mf_20_2, ↓mf_20_3, ↓mf_20_4, ↓mf_20_5, ↓mp_20_6, ↓mf_20_6, ↓mf_20_7, ↓mp_20_8, ↓mf_20_8, ↓mf_20_9, ↓mf_20_10, ↓mp_20_11, ↓mf_20_11, ↓mf_20_12, ↓mf_20_13, ↓mp_20_14, ↓mf_20_14, ↓mf_20_15, ↓mp_20_16, ↓mf_20_16, ↓ma_21, ↓ms_21, ↓ma_22, ↓ms_22, ↓ma_23, ↓ms_23, ↓ma_24, ↓ms_24, ↓ma_25, ↓ms_25, ↓ma_26, ↓ms_26, ↓ma_27, ↓ms_27, ↓ma_28, ↓ms_28, ↓ma_29, ↓ms_29, ↓ma_30, ↓ms_30, ↓ma_31, ↓ms_31, ↓bnd_some, ↓cond_true, ↓m_pv_none, ↓m_pv_some, m_b01_0, m_b01_1, true_and, and_true, eq_self, ↓g1]
        simp only [↓g130_0, ↓g130_1, ↓g130_2, ↓g130_3, ↓g130_5, ↓g130_6, ↓g130_9, ↓g130_11, ↓g130_14, ↓g130_16, ↓g130_19, ↓g130_20, ↓g130_21, ↓g130_22, ↓g130_25, ↓g130_27, ↓g130_30, ↓g130_32, ↓g130_35, ↓g130_36, ↓g130_37, ↓g130_39, ↓g130_41, ↓g130_44, ↓g130_47, ↓g130_48, ↓g130_51, ↓g130_52, ↓g130_54, ↓g130_56, ↓g130_58, ↓g130_59, ↓g130_61, ↓g130_64, ↓g130_67, ↓g130_68, ↓g130_71, ↓g130_73, ↓g130_76, ↓g130_78, ↓g130_79, ↓g130_80, ↓g130_83, ↓g130_85, ↓g130_86, ↓g130_87, ↓g130_90, ↓g130_91, ↓g130_92, ↓g130_94, ↓g130_97, ↓g130_99, ↓g130_100, ↓g130_101, ↓g130_102, ↓g130_103, ↓g130_107, ↓g130_110, ↓g130_111, ↓g130_114, ↓g130_115, ↓g130_118, ↓g130_119, ↓g130_121, ↓g130_123, ↓g130_124, ↓g130_125, ↓g130_128, ↓g130_129, ↓g130_130, ↓g130_131, ↓g130_132, ↓g130_133, ↓g130_136, ↓g130_137, ↓g130_138, ↓g130_141, ↓g130_144, ↓g130_147, ↓g130_148, ↓g130_151, ↓mo_20, ↓mf_20_0, ↓mf_20_1, ↓mp_20_2, ↓mf_20_2, ↓mf_20_3, ↓mf_20_4, ↓mf_20_5, ↓mp_20_6, ↓mf_20_6, ↓mf_20_7, ↓mp_20_8, ↓mf_20_8, ↓mf_20_9, ↓mf_20_10, ↓mp_20_11, ↓mf_20_11, ↓mf_20_12, ↓mf_20_13, ↓mp_20_14, ↓mf_20_14, ↓mf_20_15, ↓mp_20_16, ↓mf_20_16, ↓ma_21, ↓ms_21, ↓ma_22, ↓ms_22, ↓ma_23, ↓ms_23, ↓ma_24, ↓ms_24, ↓ma_25, ↓ms_25, ↓ma_26, ↓ms_26, ↓ma_27, ↓ms_27, ↓ma_28, ↓ms_28, ↓ma_29, ↓ms_29, ↓ma_30, ↓ms_30, ↓ma_31, ↓ms_31, ↓bnd_some, ↓cond_true, ↓m_pv_none, ↓m_pv_some, m_b01_0, m_b01_1, true_and, and_true, eq_self, z1, z3, hl0, i_10, lg_cmp_eq, z2, e70, h.2.2.2.1, e9, e8, hf, ↓g2, ↓reduceIte]
      · rw [if_neg hf]
        refine ⟨d, h, fun K => ?_⟩
        simp only [↓g130_0, ↓g130_1, ↓g130_2, ↓g130_3, ↓g130_5, ↓g130_6, ↓g130_9, ↓g130_11, ↓g130_14, ↓g130_16, ↓g130_19, ↓g130_20, ↓g130_21, ↓g130_22, ↓g130_25, ↓g130_27, ↓g130_30, ↓g130_32, ↓g130_35, ↓g130_36, ↓g130_37, ↓g130_39, ↓g130_41, ↓g130_44, ↓g130_47, ↓g130_48, ↓g130_51, ↓g130_52, ↓g130_54, ↓g130_56, ↓g130_58, ↓g130_59, ↓g130_61, ↓g130_64, ↓g130_68, ↓g130_71, ↓g130_73, ↓g130_76, ↓g130_78, ↓g130_79, ↓g130_80, ↓g130_83, ↓g130_85, ↓g130_86, ↓g130_87, ↓g130_90, ↓g130_91, ↓g130_92, ↓g130_94, ↓g130_97, ↓g130_99, ↓g130_100, ↓g130_101, ↓g130_102, ↓g130_103, ↓g130_107, ↓g130_110, ↓g130_111, ↓g130_114, ↓g130_115, ↓g130_118, ↓g130_119, ↓g130_121, ↓g130_123, ↓g130_124, ↓g130_125, ↓g130_128, ↓g130_129, ↓g130_130, ↓g130_131, ↓g130_132, ↓g130_133, ↓g130_136, ↓g130_137, ↓g130_138, ↓g130_141, ↓g130_144, ↓g130_147, ↓g130_148, ↓g130_151, ↓mo_20, ↓mf_20_0, ↓mf_20_1, ↓mp_20_2, ↓mf_20_2, ↓mf_20_3, ↓mf_20_4, ↓mf_20_5, ↓mp_20_6, ↓mf_20_6, ↓mf_20_7, ↓mp_20_8, ↓mf_20_8, ↓mf_20_9, ↓mf_20_10, ↓mp_20_11, ↓mf_20_11, ↓mf_20_12, ↓mf_20_13, ↓mp_20_14, ↓mf_20_14, ↓mf_20_15, ↓mp_20_16, ↓mf_20_16, ↓ma_21, ↓ms_21, ↓ma_22, ↓ms_22, ↓ma_23, ↓ms_23, ↓ma_24, ↓ms_24, ↓ma_25, ↓ms_25, ↓ma_26, ↓ms_26, ↓ma_27, ↓ms_27, ↓ma_28, ↓ms_28, ↓ma_29, ↓ms_29, ↓ma_30, ↓ms_30, ↓ma_31, ↓ms_31, ↓bnd_some, ↓cond_true, ↓m_pv_none, ↓m_pv_some, m_b01_0, m_b01_1, true_and, and_true, eq_self, ↓g1]
        simp only [↓g130_0, ↓g130_1, ↓g130_2, ↓g130_3, ↓g130_5, ↓g130_6, ↓g130_9, ↓g130_11, ↓g130_14, ↓g130_16, ↓g130_19, ↓g130_20, ↓g130_21, ↓g130_22, ↓g130_25, ↓g130_27, ↓g130_30, ↓g130_32, ↓g130_35, ↓g130_36, ↓g130_37, ↓g130_39, ↓g130_41, ↓g130_44, ↓g130_47, ↓g130_48, ↓g130_51, ↓g130_52, ↓g130_54, ↓g130_56, ↓g130_58, ↓g130_59, ↓g130_61, ↓g130_64, ↓g130_67, ↓g130_68, ↓g130_71, ↓g130_73, ↓g130_76, ↓g130_78, ↓g130_79, ↓g130_80, ↓g130_83, ↓g130_85, ↓g130_86, ↓g130_87, ↓g130_90, ↓g130_91, ↓g130_92, ↓g130_94, ↓g130_97, ↓g130_99, ↓g130_100, ↓g130_101, ↓g130_102, ↓g130_103, ↓g130_107, ↓g130_110, ↓g130_111, ↓g130_114, ↓g130_115, ↓g130_118, ↓g130_119, ↓g130_121, ↓g130_123, ↓g130_124, ↓g130_125, ↓g130_128, ↓g130_129, ↓g130_130, ↓g130_131, ↓g130_132, ↓g130_133, ↓g130_136, ↓g130_137, ↓g130_138, ↓g130_141, ↓g130_144, ↓g130_147, ↓g130_148, ↓g130_151, ↓mo_20, ↓mf_20_0, ↓mf_20_1, ↓mp_20_2, ↓mf_20_2, ↓mf_20_3, ↓mf_20_4, ↓mf_20_5, ↓mp_20_6, ↓mf_20_6, ↓mf_20_7, ↓mp_20_8, ↓mf_20_8, ↓mf_20_9, ↓mf_20_10, ↓mp_20_11, ↓mf_20_11, ↓mf_20_12, ↓mf_20_13, ↓mp_20_14, ↓mf_20_14, ↓mf_20_15, ↓mp_20_16, ↓mf_20_16, ↓ma_21, ↓ms_21, ↓ma_22, ↓ms_22, ↓ma_23, ↓ms_23, ↓ma_24, ↓ms_24, ↓ma_25, ↓ms_25, ↓ma_26, ↓ms_26, ↓ma_27, ↓ms_27, ↓ma_28, ↓ms_28, ↓ma_29, ↓ms_29, ↓ma_30, ↓ms_30, ↓ma_31, ↓ms_31, ↓bnd_some, ↓cond_true, ↓m_pv_none, ↓m_pv_some, m_b01_0, m_b01_1, true_and, and_true, eq_self, z1, z3, hl0, i_10, lg_cmp_eq, z2, e70, h.2.2.2.1, e9, e8, hf, ↓reduceIte]
theorem M_wipe (h : MI d σ) : MC S 131 [.ref 20, .null] d c (F_wipe σ) := by
  have hD : mx [5] [6] d (ca d 0 (upd (d 0) 6 0)) := mx_u (by simp)
  refine ⟨ca d 0 (upd (d 0) 6 0), mi_pad h ⟨by rw [ca_eq, upd_eq]; rfl, fun j hj => absurd hj (Nat.not_lt_zero j)⟩ hD, fun K => ?_⟩
  simp only [↓g131_0, ↓g131_1, ↓g131_4, ↓g131_5, ↓g131_6, ↓g131_7, ↓g131_10, ↓g131_11, ↓mo_20, ↓mf_20_0, ↓mf_20_1, ↓mp_20_2, ↓mf_20_2, ↓mf_20_3, ↓mf_20_4, ↓mf_20_5, ↓mp_20_6, ↓mf_20_6, ↓mf_20_7, ↓mp_20_8, ↓mf_20_8, ↓mf_20_9, ↓mf_20_10, ↓mp_20_11, ↓mf_20_11, ↓mf_20_12, ↓mf_20_13, ↓mp_20_14, ↓mf_20_14, ↓mf_20_15, ↓mp_20_16, ↓mf_20_16, ↓ma_21, ↓ms_21, ↓ma_22, ↓ms_22, ↓ma_23, ↓ms_23, ↓ma_24, ↓ms_24, ↓ma_25, ↓ms_25, ↓ma_26, ↓ms_26, ↓ma_27, ↓ms_27, ↓ma_28, ↓ms_28, ↓ma_29, ↓ms_29, ↓ma_30, ↓ms_30, ↓ma_31, ↓ms_31, ↓bnd_some, ↓cond_true, ↓m_pv_none, ↓m_pv_some, m_b01_0, m_b01_1, true_and, and_true, eq_self, h.2.2.2.1]
  rfl
theorem M_fault (h : MI d σ) (ho : SOk σ) : MC S 134 [.ref 20] d c (F_fault σ) := by
  obtain ⟨d1, m1, g1⟩ := n_fault (S := S) (c := c) ho.pad h.2.2.2
  refine ⟨d1, h.mx m1 (by simp) (by simp) (by simp) (by simp) (by simp) (by simp) (by simp), fun K => ?_⟩
  simp only [↓g134_0, ↓g134_1, ↓g134_4, ↓mo_20, ↓mf_20_0, ↓mf_20_1, ↓mp_20_2, ↓mf_20_2, ↓mf_20_3, ↓mf_20_4, ↓mf_20_5, ↓mp_20_6, ↓mf_20_6, ↓mf_20_7, ↓mp_20_8, ↓mf_20_8, ↓mf_20_9, ↓mf_20_10, ↓mp_20_11, ↓mf_20_11, ↓mf_20_12, ↓mf_20_13, ↓mp_20_14, ↓mf_20_14, ↓mf_20_15, ↓mp_20_16, ↓mf_20_16, ↓ma_21, ↓ms_21, ↓ma_22, ↓ms_22, ↓ma_23, ↓ms_23, ↓ma_24, ↓ms_24, ↓ma_25, ↓ms_25, ↓ma_26, ↓ms_26, ↓ma_27, ↓ms_27, ↓ma_28, ↓ms_28, ↓ma_29, ↓ms_29, ↓ma_30, ↓ms_30, ↓ma_31, ↓ms_31, ↓bnd_some, ↓cond_true, ↓m_pv_none, ↓m_pv_some, m_b01_0, m_b01_1, true_and, and_true, eq_self, ↓g1]
  rfl
theorem n_toS (d : Nat → Nat → Int32) {a p : Nat} (k N : Nat) (f : Nat → Int32) (hk : ∀ g, m_arr (mk c (md (ca d 1 g))) k = some (N, f)) (hN : N < 2 ^ 30) (hp : p + 1206 ≤ N) (K : Option Value → mM → Prop) {x : Int32} (hx : x = nI p) : go S 83 0 [.ref k, .int x, .ref 21, .int 0, .int 1206, .null] [] (mk c (md d)) K = K none (mk c (md (ca d 1 (va_cpy f (d 1) p 0 1206)))) := by
  have g := n_moves (S := S) (F := fun g => mk c (md (ca d 1 g))) (a := k) (b := 21) (f := f) hk (fun g => rfl) (fun g g' => by
    show mk c (md (ca (ca d 1 g) 1 g')) = _
    rw [ca_ca]) hN (by decide) (p := p) (q := 0) (w := 1206) hp (by omega) (d 1) K hx (y := 0) (z := 1206)
  simp only [ca_self] at g
  exact g
theorem M_undo (h : MI d σ) (ho : SOk σ) : MC S 135 [.ref 20] d c (F_undo σ) := by
  obtain ⟨R, hs, sl, P⟩ := σ
  obtain ⟨a1, a2, a3, a4⟩ := id h
  have hl := ho.2.2.2.1
  cases hs with
  | nil =>
    have e0 : d 0 2 = 0 := a2.1
    refine ⟨d, h, fun K => ?_⟩
    simp only [↓g135_0, ↓g135_1, ↓g135_4, ↓g135_7, ↓g135_9, ↓g135_10, ↓g135_11, ↓g135_12, ↓g135_15, ↓g135_16, ↓g135_17, ↓g135_20, ↓g135_21, ↓g135_24, ↓g135_25, ↓g135_28, ↓g135_31, ↓g135_32, ↓g135_33, ↓g135_36, ↓g135_37, ↓g135_40, ↓g135_43, ↓g135_44, ↓g135_47, ↓mo_20, ↓mf_20_0, ↓mf_20_1, ↓mp_20_2, ↓mf_20_2, ↓mf_20_3, ↓mf_20_4, ↓mf_20_5, ↓mp_20_6, ↓mf_20_6, ↓mf_20_7, ↓mp_20_8, ↓mf_20_8, ↓mf_20_9, ↓mf_20_10, ↓mp_20_11, ↓mf_20_11, ↓mf_20_12, ↓mf_20_13, ↓mp_20_14, ↓mf_20_14, ↓mf_20_15, ↓mp_20_16, ↓mf_20_16, ↓ma_21, ↓ms_21, ↓ma_22, ↓ms_22, ↓ma_23, ↓ms_23, ↓ma_24, ↓ms_24, ↓ma_25, ↓ms_25, ↓ma_26, ↓ms_26, ↓ma_27, ↓ms_27, ↓ma_28, ↓ms_28, ↓ma_29, ↓ms_29, ↓ma_30, ↓ms_30, ↓ma_31, ↓ms_31, ↓bnd_some, ↓cond_true, ↓m_pv_none, ↓m_pv_some, m_b01_0, m_b01_1, true_and, and_true, eq_self, e0, ↓reduceIte]
    rfl
  | cons st hs =>
    have hl : hs.length + 1 ≤ 6 := hl
    have e0 : d 0 2 = nI (hs.length + 1) := a2.1
    have e1 : ¬ nI (hs.length + 1) = 0 := nI_ne0 (by omega) (by omega)
    have e2 : nI (hs.length + 1) - 1 = nI hs.length := nI_pred _
    have x1 : ∀ K, go S 83 0 [.ref 22, .int (nI hs.length * 1206), .ref 21, .int 0, .int 1206, .null] [] (mk c (md (ca d 0 (upd (d 0) 2 (nI hs.length))))) K = K none (mk c (md (ca (ca d 0 (upd (d 0) 2 (nI hs.length))) 1 (va_cpy (d 2) (d 1) (1206 * hs.length) 0 1206)))) := fun K => n_toS (S := S) (c := c) (a := 0) (ca d 0 (upd (d 0) 2 (nI hs.length))) (p := 1206 * hs.length) 22 7236 (d 2) (fun g => rfl) (by decide) (by omega) K (by rw [show (1206 : Int32) = nI 1206 from rfl, pk_mul, Nat.mul_comm])
    refine ⟨ca (ca d 0 (upd (d 0) 2 (nI hs.length))) 1 (va_cpy (d 2) (d 1) (1206 * hs.length) 0 1206), ⟨?_, ⟨?_, fun j hj => ?_⟩, fun s hs2 => (a3 s hs2).mx rfl rfl, a4⟩, fun K => ?_⟩
    · show SL (ca (ca d 0 _) 1 _ 1) 0 st
      rw [ca_eq]
      have h0 := a2.2 0 (Nat.succ_pos _)
      refine SL.mov (f := d 2) (o := 1206 * hs.length) h0 (fun r hr => (ho.2.1 st List.mem_cons_self r hr).2) (fun j hj => ?_)
      rw [pk_cpy_in (by omega) (by omega)]
      congr 1
      omega
    · rw [ca_ne (by decide), ca_eq, upd_eq]
      rfl
    · have hj : j < hs.length := hj
      show SL (d 2) (1206 * (hs.length - 1 - j)) (hs.getD j (fun _ => []))
      have h0 := a2.2 (j + 1) (by show j + 1 < hs.length + 1; omega)
      rw [List.getD_cons_succ] at h0
      rw [show hs.length - 1 - j = hs.length + 1 - 1 - (j + 1) by omega]
      exact h0
    · simp only [↓g135_0, ↓g135_1, ↓g135_4, ↓g135_7, ↓g135_9, ↓g135_10, ↓g135_11, ↓g135_12, ↓g135_15, ↓g135_16, ↓g135_17, ↓g135_20, ↓g135_21, ↓g135_24, ↓g135_25, ↓g135_28, ↓g135_31, ↓g135_32, ↓g135_33, ↓g135_36, ↓g135_37, ↓g135_40, ↓g135_43, ↓g135_44, ↓g135_47, ↓mo_20, ↓mf_20_0, ↓mf_20_1, ↓mp_20_2, ↓mf_20_2, ↓mf_20_3, ↓mf_20_4, ↓mf_20_5, ↓mp_20_6, ↓mf_20_6, ↓mf_20_7, ↓mp_20_8, ↓mf_20_8, ↓mf_20_9, ↓mf_20_10, ↓mp_20_11, ↓mf_20_11, ↓mf_20_12, ↓mf_20_13, ↓mp_20_14, ↓mf_20_14, ↓mf_20_15, ↓mp_20_16, ↓mf_20_16, ↓ma_21, ↓ms_21, ↓ma_22, ↓ms_22, ↓ma_23, ↓ms_23, ↓ma_24, ↓ms_24, ↓ma_25, ↓ms_25, ↓ma_26, ↓ms_26, ↓ma_27, ↓ms_27, ↓ma_28, ↓ms_28, ↓ma_29, ↓ms_29, ↓ma_30, ↓ms_30, ↓ma_31, ↓ms_31, ↓bnd_some, ↓cond_true, ↓m_pv_none, ↓m_pv_some, m_b01_0, m_b01_1, true_and, and_true, eq_self, e0, e1, e2, cz_1, cz_2, cz_3, cz_4, cz_5, cz_6, cz_7, cz_8, cz_9, cz_10, cz_11, cn_1, cn_2, cn_3, cn_4, cn_5, cn_6, cn_7, cn_8, cn_9, cn_10, cn_11, un_2_6, un_2_8, un_2_11, un_2_14, un_2_16, un_6_2, un_6_8, un_6_11, un_6_14, un_6_16, un_8_2, un_8_6, un_8_11, un_8_14, un_8_16, un_11_2, un_11_6, un_11_8, un_11_14, un_11_16, un_14_2, un_14_6, un_14_8, un_14_11, un_14_16, un_16_2, un_16_6, un_16_8, un_16_11, un_16_14, ca_eq, upd_eq, ↓x1, ↓reduceIte]
      rfl
theorem M_save (h : MI d σ) (ho : SOk σ) (x : Int32) : MC S 136 [.ref 20, .int x] d c (F_save σ x) := by
  unfold F_save
  have gw := fun M K => n_within (S := S) M x 0 1 K
  have e2 : (0 ≤ x ∧ x ≤ 1) ↔ (0 ≤ x ∧ x < nI 2) := win_m (m := 2) (by decide)
  cases hx : rgx x 2 with
  | none =>
    simp only [if_neg (fun z => rgx_no hx (e2.mp z))] at gw
    exact ⟨d, h, fun K => by simp only [↓g136_0, ↓g136_1, ↓g136_2, ↓g136_3, ↓g136_6, ↓g136_9, ↓g136_11, ↓g136_12, ↓g136_13, ↓g136_16, ↓g136_17, ↓g136_18, ↓g136_21, ↓g136_24, ↓g136_25, ↓g136_26, ↓g136_29, ↓g136_32, ↓g136_33, ↓g136_36, ↓g136_37, ↓g136_38, ↓g136_39, ↓g136_40, ↓g136_43, ↓mo_20, ↓mf_20_0, ↓mf_20_1, ↓mp_20_2, ↓mf_20_2, ↓mf_20_3, ↓mf_20_4, ↓mf_20_5, ↓mp_20_6, ↓mf_20_6, ↓mf_20_7, ↓mp_20_8, ↓mf_20_8, ↓mf_20_9, ↓mf_20_10, ↓mp_20_11, ↓mf_20_11, ↓mf_20_12, ↓mf_20_13, ↓mp_20_14, ↓mf_20_14, ↓mf_20_15, ↓mp_20_16, ↓mf_20_16, ↓ma_21, ↓ms_21, ↓ma_22, ↓ms_22, ↓ma_23, ↓ms_23, ↓ma_24, ↓ms_24, ↓ma_25, ↓ms_25, ↓ma_26, ↓ms_26, ↓ma_27, ↓ms_27, ↓ma_28, ↓ms_28, ↓ma_29, ↓ms_29, ↓ma_30, ↓ms_30, ↓ma_31, ↓ms_31, ↓bnd_some, ↓cond_true, ↓m_pv_none, ↓m_pv_some, m_b01_0, m_b01_1, true_and, and_true, eq_self, ↓gw, ↓reduceIte]⟩
  | some s =>
    obtain ⟨hs, rfl⟩ := rgx_some hx (by decide)
    simp only [if_pos (e2.mpr (inR_nI hs (by decide)))] at gw
    obtain ⟨a1, a2, a3, a4⟩ := id h
    have x1 : ∀ K, go S 83 0 [.ref 21, .int 0, .ref 23, .int (1206 * nI s), .int 1206, .null] [] (mk c (md d)) K = K none (mk c (md (ca d 3 (va_cpy (d 1) (d 3) 0 (1206 * s) 1206)))) := fun K => by
      have g := n_moves (S := S) (F := fun g => mk c (md (ca d 3 g))) (a := 21) (b := 23) (f := d 1) (fun g => rfl) (fun g => rfl) (fun g g' => by
        show mk c (md (ca (ca d 3 g) 3 g')) = _
        rw [ca_ca]) (by decide) (by decide) (p := 0) (q := 1206 * s) (w := 1206) (by omega) (by omega) (d 3) K (x := 0) (y := 1206 * nI s) (z := 1206) (hy := by rw [show (1206 : Int32) = nI 1206 from rfl, pk_mul])
      simp only [ca_self] at g
      exact g
    have g2 := fun K => n_all (S := S) (c := c) (d := ca (ca d 3 (va_cpy (d 1) (d 3) 0 (1206 * s) 1206)) 4 (upd (d 4) s 1)) (R := σ.1) a1 K
    refine ⟨ca (ca d 3 (va_cpy (d 1) (d 3) 0 (1206 * s) 1206)) 4 (upd (d 4) s 1), ⟨a1, a2, fun u hu => ?_, a4⟩, fun K => ?_⟩
    · show MS _ (if u = s then some σ.1 else σ.2.2.1 u) u
      by_cases e : u = s
      · subst e
        rw [if_pos rfl]
        refine ⟨by rw [ca_eq, upd_eq], ?_⟩
        rw [ca_ne (by decide), ca_eq]
        refine SL.mov (f := d 1) (o := 0) a1 (fun r hr => (ho.1 r hr).2) (fun j hj => ?_)
        rw [pk_cpy_in (by omega) (by omega)]
        congr 1
        omega
      · rw [if_neg e]
        have h0 := a3 u hu
        have e4 : ca (ca d 3 (va_cpy (d 1) (d 3) 0 (1206 * s) 1206)) 4 (upd (d 4) s 1) 4 u = d 4 u := by rw [ca_eq, upd_ne e]
        cases hz : σ.2.2.1 u with
        | none =>
          rw [hz] at h0
          exact e4.trans h0
        | some st =>
          rw [hz] at h0
          refine ⟨e4.trans h0.1, ?_⟩
          rw [ca_ne (by decide), ca_eq]
          refine SL.mov (f := d 3) (o := 1206 * u) h0.2 (fun r hr => (ho.2.2.1 u hu st hz r hr).2) (fun j hj => ?_)
          exact pk_cpy_out (by omega)
    · have i1 := ib (show s < 2 by omega)
      have i2 := nI_clamp (show s < 2 ^ 31 by omega)
      simp only [↓g136_0, ↓g136_1, ↓g136_2, ↓g136_3, ↓g136_6, ↓g136_9, ↓g136_11, ↓g136_12, ↓g136_13, ↓g136_16, ↓g136_17, ↓g136_18, ↓g136_21, ↓g136_24, ↓g136_25, ↓g136_26, ↓g136_29, ↓g136_32, ↓g136_33, ↓g136_36, ↓g136_37, ↓g136_38, ↓g136_39, ↓g136_40, ↓g136_43, ↓mo_20, ↓mf_20_0, ↓mf_20_1, ↓mp_20_2, ↓mf_20_2, ↓mf_20_3, ↓mf_20_4, ↓mf_20_5, ↓mp_20_6, ↓mf_20_6, ↓mf_20_7, ↓mp_20_8, ↓mf_20_8, ↓mf_20_9, ↓mf_20_10, ↓mp_20_11, ↓mf_20_11, ↓mf_20_12, ↓mf_20_13, ↓mp_20_14, ↓mf_20_14, ↓mf_20_15, ↓mp_20_16, ↓mf_20_16, ↓ma_21, ↓ms_21, ↓ma_22, ↓ms_22, ↓ma_23, ↓ms_23, ↓ma_24, ↓ms_24, ↓ma_25, ↓ms_25, ↓ma_26, ↓ms_26, ↓ma_27, ↓ms_27, ↓ma_28, ↓ms_28, ↓ma_29, ↓ms_29, ↓ma_30, ↓ms_30, ↓ma_31, ↓ms_31, ↓bnd_some, ↓cond_true, ↓m_pv_none, ↓m_pv_some, m_b01_0, m_b01_1, true_and, and_true, eq_self, ↓gw, i_10, ↓x1, i1, i2, show ∀ f, ca d 3 f 4 = d 4 from fun f => rfl, ↓g2, ↓reduceIte]
theorem M_restore (h : MI d σ) (ho : SOk σ) (x : Int32) : MC S 137 [.ref 20, .int x] d c (F_restore σ x) := by
  unfold F_restore
  have gw := fun M K => n_within (S := S) M x 0 1 K
  have e2 : (0 ≤ x ∧ x ≤ 1) ↔ (0 ≤ x ∧ x < nI 2) := win_m (m := 2) (by decide)
  cases hx : rgx x 2 with
  | none =>
    simp only [if_neg (fun z => rgx_no hx (e2.mp z))] at gw
    exact ⟨d, h, fun K => by simp only [↓g137_0, ↓g137_1, ↓g137_2, ↓g137_3, ↓g137_6, ↓g137_9, ↓g137_11, ↓g137_12, ↓g137_13, ↓g137_16, ↓g137_17, ↓g137_18, ↓g137_21, ↓g137_23, ↓g137_24, ↓g137_25, ↓g137_28, ↓g137_29, ↓g137_32, ↓g137_35, ↓g137_36, ↓g137_37, ↓g137_38, ↓g137_41, ↓g137_42, ↓g137_45, ↓g137_48, ↓g137_49, ↓g137_52, ↓mo_20, ↓mf_20_0, ↓mf_20_1, ↓mp_20_2, ↓mf_20_2, ↓mf_20_3, ↓mf_20_4, ↓mf_20_5, ↓mp_20_6, ↓mf_20_6, ↓mf_20_7, ↓mp_20_8, ↓mf_20_8, ↓mf_20_9, ↓mf_20_10, ↓mp_20_11, ↓mf_20_11, ↓mf_20_12, ↓mf_20_13, ↓mp_20_14, ↓mf_20_14, ↓mf_20_15, ↓mp_20_16, ↓mf_20_16, ↓ma_21, ↓ms_21, ↓ma_22, ↓ms_22, ↓ma_23, ↓ms_23, ↓ma_24, ↓ms_24, ↓ma_25, ↓ms_25, ↓ma_26, ↓ms_26, ↓ma_27, ↓ms_27, ↓ma_28, ↓ms_28, ↓ma_29, ↓ms_29, ↓ma_30, ↓ms_30, ↓ma_31, ↓ms_31, ↓bnd_some, ↓cond_true, ↓m_pv_none, ↓m_pv_some, m_b01_0, m_b01_1, true_and, and_true, eq_self, ↓gw, ↓reduceIte]⟩
  | some s =>
    obtain ⟨hs, rfl⟩ := rgx_some hx (by decide)
    simp only [if_pos (e2.mpr (inR_nI hs (by decide)))] at gw
    have h0 := h.2.2.1 s hs
    have i1 := ib (show s < 2 by omega)
    have i2 := nI_clamp (show s < 2 ^ 31 by omega)
    dsimp only
    cases hz : σ.2.2.1 s with
    | none =>
      rw [hz] at h0
      have h0 : d 4 s = 0 := h0
      refine ⟨d, h, fun K => ?_⟩
      simp only [↓g137_0, ↓g137_1, ↓g137_2, ↓g137_3, ↓g137_6, ↓g137_9, ↓g137_11, ↓g137_12, ↓g137_13, ↓g137_16, ↓g137_17, ↓g137_18, ↓g137_21, ↓g137_23, ↓g137_24, ↓g137_25, ↓g137_28, ↓g137_29, ↓g137_32, ↓g137_35, ↓g137_36, ↓g137_37, ↓g137_38, ↓g137_41, ↓g137_42, ↓g137_45, ↓g137_48, ↓g137_49, ↓g137_52, ↓mo_20, ↓mf_20_0, ↓mf_20_1, ↓mp_20_2, ↓mf_20_2, ↓mf_20_3, ↓mf_20_4, ↓mf_20_5, ↓mp_20_6, ↓mf_20_6, ↓mf_20_7, ↓mp_20_8, ↓mf_20_8, ↓mf_20_9, ↓mf_20_10, ↓mp_20_11, ↓mf_20_11, ↓mf_20_12, ↓mf_20_13, ↓mp_20_14, ↓mf_20_14, ↓mf_20_15, ↓mp_20_16, ↓mf_20_16, ↓ma_21, ↓ms_21, ↓ma_22, ↓ms_22, ↓ma_23, ↓ms_23, ↓ma_24, ↓ms_24, ↓ma_25, ↓ms_25, ↓ma_26, ↓ms_26, ↓ma_27, ↓ms_27, ↓ma_28, ↓ms_28, ↓ma_29, ↓ms_29, ↓ma_30, ↓ms_30, ↓ma_31, ↓ms_31, ↓bnd_some, ↓cond_true, ↓m_pv_none, ↓m_pv_some, m_b01_0, m_b01_1, true_and, and_true, eq_self, ↓gw, i_10, i1, i2, h0, ↓reduceIte]
    | some st =>
      rw [hz] at h0
      have h0 : d 4 s = 1 ∧ SL (d 3) (1206 * s) st := h0
      have hst := ho.2.2.1 s hs st hz
      obtain ⟨d1, h1, m1, g1⟩ := mi_rec (S := S) (c := c) h ho
      obtain ⟨a1, a2, a3, a4⟩ := id h1
      have x1 : ∀ K, go S 83 0 [.ref 23, .int (1206 * nI s), .ref 21, .int 0, .int 1206, .null] [] (mk c (md d1)) K = K none (mk c (md (ca d1 1 (va_cpy (d1 3) (d1 1) (1206 * s) 0 1206)))) := fun K => n_toS (S := S) (c := c) (a := 0) d1 (p := 1206 * s) 23 2412 (d1 3) (fun g => rfl) (by decide) (by omega) K (by rw [show (1206 : Int32) = nI 1206 from rfl, pk_mul])
      have s1 : SL (ca d1 1 (va_cpy (d1 3) (d1 1) (1206 * s) 0 1206) 1) 0 st := by
        rw [ca_eq]
        refine SL.mov (f := d1 3) (o := 1206 * s) (by rw [m1.1 3 (by decide) (by decide)]; exact h0.2) (fun r hr => (hst r hr).2) (fun j hj => ?_)
        rw [pk_cpy_in (by omega) (by omega)]
        congr 1
        omega
      have g2 := fun K => n_all (S := S) (c := c) (d := ca d1 1 (va_cpy (d1 3) (d1 1) (1206 * s) 0 1206)) s1 K
      refine ⟨ca d1 1 (va_cpy (d1 3) (d1 1) (1206 * s) 0 1206), ⟨s1, a2, fun u hu => (a3 u hu).mx rfl rfl, a4⟩, fun K => ?_⟩
      simp only [↓g137_0, ↓g137_1, ↓g137_2, ↓g137_3, ↓g137_6, ↓g137_9, ↓g137_11, ↓g137_12, ↓g137_13, ↓g137_16, ↓g137_17, ↓g137_18, ↓g137_21, ↓g137_23, ↓g137_24, ↓g137_25, ↓g137_28, ↓g137_29, ↓g137_32, ↓g137_35, ↓g137_36, ↓g137_37, ↓g137_38, ↓g137_41, ↓g137_42, ↓g137_45, ↓g137_48, ↓g137_49, ↓g137_52, ↓mo_20, ↓mf_20_0, ↓mf_20_1, ↓mp_20_2, ↓mf_20_2, ↓mf_20_3, ↓mf_20_4, ↓mf_20_5, ↓mp_20_6, ↓mf_20_6, ↓mf_20_7, ↓mp_20_8, ↓mf_20_8, ↓mf_20_9, ↓mf_20_10, ↓mp_20_11, ↓mf_20_11, ↓mf_20_12, ↓mf_20_13, ↓mp_20_14, ↓mf_20_14, ↓mf_20_15, ↓mp_20_16, ↓mf_20_16, ↓ma_21, ↓ms_21, ↓ma_22, ↓ms_22, ↓ma_23, ↓ms_23, ↓ma_24, ↓ms_24, ↓ma_25, ↓ms_25, ↓ma_26, ↓ms_26, ↓ma_27, ↓ms_27, ↓ma_28, ↓ms_28, ↓ma_29, ↓ms_29, ↓ma_30, ↓ms_30, ↓ma_31, ↓ms_31, ↓bnd_some, ↓cond_true, ↓m_pv_none, ↓m_pv_some, m_b01_0, m_b01_1, true_and, and_true, eq_self, ↓gw, i_10, i1, i2, h0.1, ↓g1, ↓x1, ↓g2, ↓reduceIte]
end MC4
