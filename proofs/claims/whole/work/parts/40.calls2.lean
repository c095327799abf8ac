/-! the object's calls, on: what there is, what would be -/
theorem sumF_congr {f g : Nat → Nat} : ∀ {n : Nat}, (∀ k, k < n → f k = g k) → sumF f n = sumF g n
  | 0, _ => rfl
  | n + 1, h => by rw [sumF, sumF, sumF_congr (fun k hk => h k (by omega)), h n (by omega)]
theorem msk_congr {R R' : Nat → Tm} : ∀ {n : Nat}, (∀ k, k < n → R k = R' k) → msk R n = msk R' n
  | 0, _ => rfl
  | n + 1, h => by rw [msk, msk, msk_congr (fun k hk => h k (by omega)), h n (by omega)]
theorem rgx_ne {x : Int32} {n i : Nat} (h : rgx x n = none) (hi : i < n) (hn : n < 2 ^ 31) : ¬ x = nI i := fun e => by
  rw [e, rgx_nI hi hn] at h
  cases h
section CALLS2
variable {S : mS} {t : mM} {c : Nat → Nat → Int32} {σ : Sg}
theorem C_of (h : CI c σ) (ho : SOk σ) (x w : Int32) : CC S 61 [.ref 0, .int x, .int w] c t (F_of σ x w) := by
  unfold F_of
  cases hx : rgx x 6 with
  | none => exact ⟨c, h, fun K => by simp only [↓g61_0, ↓g61_1, ↓g61_4, ↓g61_7, ↓g61_8, ↓g61_9, ↓g61_10, ↓g61_13, ↓g61_14, ↓g61_16, ↓g61_19, ↓g61_21, ↓g61_22, ↓g61_23, ↓g61_26, ↓g61_27, ↓g61_30, ↓g61_31, ↓g61_84, ↓g61_85, ↓g61_88, ↓g61_89, ↓g61_92, ↓g61_93, ↓g61_94, ↓g61_97, ↓g61_98, ↓g61_99, ↓g61_102, ↓g61_103, ↓g61_104, ↓g61_107, ↓g61_108, ↓g61_109, ↓g61_112, ↓g61_113, ↓g61_114, ↓g61_117, ↓g61_118, ↓g61_119, ↓g61_122, ↓g61_123, ↓g61_124, ↓g61_127, ↓g61_128, ↓g61_129, ↓g61_132, ↓g61_133, ↓g61_134, ↓g61_137, ↓g61_140, ↓g61_141, ↓g61_142, ↓g61_145, ↓g61_148, ↓g61_149, ↓g61_150, ↓g61_153, ↓g61_154, ↓g61_157, ↓g61_158, ↓g61_159, ↓g61_162, ↓g61_163, ↓g61_166, ↓g61_167, ↓g61_168, ↓g61_171, ↓g61_172, ↓g61_175, ↓g61_176, ↓g61_177, ↓g61_180, ↓g61_181, ↓g61_184, ↓mo_0, ↓mf_0_0, ↓mf_0_1, ↓mf_0_2, ↓mf_0_3, ↓mf_0_4, ↓mo_1, ↓mf_1_0, ↓mf_1_1, ↓mo_2, ↓mf_2_0, ↓mo_4, ↓mf_4_0, ↓mo_6, ↓mf_6_0, ↓mf_6_1, ↓mf_6_2, ↓mf_6_3, ↓mp_6_4, ↓mf_6_4, ↓mp_6_5, ↓mf_6_5, ↓mo_7, ↓mf_7_0, ↓mo_9, ↓mf_9_0, ↓mo_11, ↓mf_11_0, ↓mo_13, ↓mf_13_0, ↓mf_13_1, ↓mp_13_2, ↓mf_13_2, ↓mp_13_3, ↓mf_13_3, ↓mo_14, ↓mf_14_0, ↓mp_14_1, ↓mf_14_1, ↓mp_14_2, ↓mf_14_2, ↓mo_15, ↓mf_15_0, ↓mf_15_1, ↓mp_15_2, ↓mf_15_2, ↓mo_16, ↓mf_16_0, ↓mo_18, ↓mf_18_0, ↓ma_3, ↓ms_3, ↓ma_5, ↓ms_5, ↓ma_8, ↓ms_8, ↓ma_10, ↓ms_10, ↓ma_12, ↓ms_12, ↓ma_17, ↓ms_17, ↓ma_19, ↓ms_19, ↓bnd_some, ↓cond_true, ↓m_pv_none, ↓m_pv_some, m_b01_0, m_b01_1, true_and, and_true, ↓n_reg (rgx_no hx), ↓reduceIte, eq_self, i_10]⟩
  | some i =>
    obtain ⟨hi, rfl⟩ := rgx_some hx (by decide)
    have y1 := fun K => y_reg (S := S) (M := mk c t) (inR_nI hi (by decide)) K
    cases hy : rgx w 11 with
    | none =>
      refine ⟨c, h, fun K => ?_⟩
      by_cases q1 : w < 0
      · simp only [↓g61_0, ↓g61_1, ↓g61_4, ↓g61_7, ↓g61_8, ↓g61_9, ↓g61_10, ↓g61_13, ↓g61_14, ↓g61_16, ↓g61_19, ↓g61_21, ↓g61_22, ↓g61_23, ↓g61_26, ↓g61_27, ↓g61_30, ↓g61_31, ↓g61_84, ↓g61_85, ↓g61_88, ↓g61_89, ↓g61_92, ↓g61_93, ↓g61_94, ↓g61_97, ↓g61_98, ↓g61_99, ↓g61_102, ↓g61_103, ↓g61_104, ↓g61_107, ↓g61_108, ↓g61_109, ↓g61_112, ↓g61_113, ↓g61_114, ↓g61_117, ↓g61_118, ↓g61_119, ↓g61_122, ↓g61_123, ↓g61_124, ↓g61_127, ↓g61_128, ↓g61_129, ↓g61_132, ↓g61_133, ↓g61_134, ↓g61_137, ↓g61_140, ↓g61_141, ↓g61_142, ↓g61_145, ↓g61_148, ↓g61_149, ↓g61_150, ↓g61_153, ↓g61_154, ↓g61_157, ↓g61_158, ↓g61_159, ↓g61_162, ↓g61_163, ↓g61_166, ↓g61_167, ↓g61_168, ↓g61_171, ↓g61_172, ↓g61_175, ↓g61_176, ↓g61_177, ↓g61_180, ↓g61_181, ↓g61_184, ↓mo_0, ↓mf_0_0, ↓mf_0_1, ↓mf_0_2, ↓mf_0_3, ↓mf_0_4, ↓mo_1, ↓mf_1_0, ↓mf_1_1, ↓mo_2, ↓mf_2_0, ↓mo_4, ↓mf_4_0, ↓mo_6, ↓mf_6_0, ↓mf_6_1, ↓mf_6_2, ↓mf_6_3, ↓mp_6_4, ↓mf_6_4, ↓mp_6_5, ↓mf_6_5, ↓mo_7, ↓mf_7_0, ↓mo_9, ↓mf_9_0, ↓mo_11, ↓mf_11_0, ↓mo_13, ↓mf_13_0, ↓mf_13_1, ↓mp_13_2, ↓mf_13_2, ↓mp_13_3, ↓mf_13_3, ↓mo_14, ↓mf_14_0, ↓mp_14_1, ↓mf_14_1, ↓mp_14_2, ↓mf_14_2, ↓mo_15, ↓mf_15_0, ↓mf_15_1, ↓mp_15_2, ↓mf_15_2, ↓mo_16, ↓mf_16_0, ↓mo_18, ↓mf_18_0, ↓ma_3, ↓ms_3, ↓ma_5, ↓ms_5, ↓ma_8, ↓ms_8, ↓ma_10, ↓ms_10, ↓ma_12, ↓ms_12, ↓ma_17, ↓ms_17, ↓ma_19, ↓ms_19, ↓bnd_some, ↓cond_true, ↓m_pv_none, ↓m_pv_some, m_b01_0, m_b01_1, true_and, and_true, ↓y1, q1, ↓reduceIte, eq_self, i_10]
      · have q2 : ¬ w ≤ 10 := fun z => by
          obtain ⟨j, hj, rfl⟩ := nI_of q1
          exact rgx_ne (i := j) hy (by have := (nI_leI (b := 10) hj (by decide)).mp z; omega) (by decide) rfl
        simp only [↓g61_0, ↓g61_1, ↓g61_4, ↓g61_7, ↓g61_8, ↓g61_9, ↓g61_10, ↓g61_13, ↓g61_14, ↓g61_16, ↓g61_19, ↓g61_21, ↓g61_22, ↓g61_23, ↓g61_26, ↓g61_27, ↓g61_30, ↓g61_31, ↓g61_84, ↓g61_85, ↓g61_88, ↓g61_89, ↓g61_92, ↓g61_93, ↓g61_94, ↓g61_97, ↓g61_98, ↓g61_99, ↓g61_102, ↓g61_103, ↓g61_104, ↓g61_107, ↓g61_108, ↓g61_109, ↓g61_112, ↓g61_113, ↓g61_114, ↓g61_117, ↓g61_118, ↓g61_119, ↓g61_122, ↓g61_123, ↓g61_124, ↓g61_127, ↓g61_128, ↓g61_129, ↓g61_132, ↓g61_133, ↓g61_134, ↓g61_137, ↓g61_140, ↓g61_141, ↓g61_142, ↓g61_145, ↓g61_148, ↓g61_149, ↓g61_150, ↓g61_153, ↓g61_154, ↓g61_157, ↓g61_158, ↓g61_159, ↓g61_162, ↓g61_163, ↓g61_166, ↓g61_167, ↓g61_168, ↓g61_171, ↓g61_172, ↓g61_175, ↓g61_176, ↓g61_177, ↓g61_180, ↓g61_181, ↓g61_184, ↓mo_0, ↓mf_0_0, ↓mf_0_1, ↓mf_0_2, ↓mf_0_3, ↓mf_0_4, ↓mo_1, ↓mf_1_0, ↓mf_1_1, ↓mo_2, ↓mf_2_0, ↓mo_4, ↓mf_4_0, ↓mo_6, ↓mf_6_0, ↓mf_6_1, ↓mf_6_2, ↓mf_6_3, ↓mp_6_4, ↓mf_6_4, ↓mp_6_5, ↓mf_6_5, ↓mo_7, ↓mf_7_0, ↓mo_9, ↓mf_9_0, ↓mo_11, ↓mf_11_0, ↓mo_13, ↓mf_13_0, ↓mf_13_1, ↓mp_13_2, ↓mf_13_2, ↓mp_13_3, ↓mf_13_3, ↓mo_14, ↓mf_14_0, ↓mp_14_1, ↓mf_14_1, ↓mp_14_2, ↓mf_14_2, ↓mo_15, ↓mf_15_0, ↓mf_15_1, ↓mp_15_2, ↓mf_15_2, ↓mo_16, ↓mf_16_0, ↓mo_18, ↓mf_18_0, ↓ma_3, ↓ms_3, ↓ma_5, ↓ms_5, ↓ma_8, ↓ms_8, ↓ma_10, ↓ms_10, ↓ma_12, ↓ms_12, ↓ma_17, ↓ms_17, ↓ma_19, ↓ms_19, ↓bnd_some, ↓cond_true, ↓m_pv_none, ↓m_pv_some, m_b01_0, m_b01_1, true_and, and_true, ↓y1, q1, q2, ↓reduceIte, eq_self, i_10]
    | some k =>
      obtain ⟨hk, rfl⟩ := rgx_some hy (by decide)
      obtain ⟨T, nx, h1⟩ := h
      have hl := ho.reg hi
      have e0 : T i = σ.1 i := h1.at hi
      obtain ⟨c1, v1, h2, s1, g1⟩ := q_look (S := S) (t := t) (v := i) (by omega) (by rw [e0]; exact hl.1) h1.1
      have h2c := h1.same h2 (fun _ _ => rfl) s1 (by simp) (by simp) (by simp)
      have a0 := fun K => q_length (S := S) (t := t) h2 (i := i) (by omega) K
      have a1 := fun K => q_ofKind (S := S) (t := t) h2 (i := i) (k := 2) (by omega) (by omega) K (y := 2)
      have a2 := fun K => q_ofKind (S := S) (t := t) h2 (i := i) (k := 3) (by omega) (by omega) K (y := 3)
      have a3 := fun K => q_ofKind (S := S) (t := t) h2 (i := i) (k := 0) (by omega) (by omega) K (y := 0)
      have a4 := fun K => q_ofKind (S := S) (t := t) h2 (i := i) (k := 1) (by omega) (by omega) K (y := 1)
      have a5 := fun K => u_most (S := S) (t := t) v1 (by rw [e0]; exact hl.2) (by rw [e0]; exact hl.1) K
      have a6 := fun K => u_reds (S := S) (t := t) h2 v1 (by rw [e0]; exact hl.1) K
      have a7 := fun K => u_next (S := S) (t := t) h2 v1 (by rw [e0]; exact hl.1) (o := 0) (by decide) K (x := 0)
      have a8 := fun K => u_next (S := S) (t := t) h2 v1 (by rw [e0]; exact hl.1) (o := 1) (by decide) K (x := 1)
      have a9 := fun K => u_next (S := S) (t := t) h2 v1 (by rw [e0]; exact hl.1) (o := 2) (by decide) K (x := 2)
      have a10 := fun K => q_greatest (S := S) (t := t) h2 (i := i) (by omega) K
      rw [e0] at a0 a1 a2 a3 a4 a5 a6 a7 a8 a9 a10
      have q1 : ¬ nI k < 0 := nI_pos (by omega)
      have q2 : nI k ≤ 10 := nI_le (b := 10) (by omega) (by decide)
      have f0 : (nI k = 0) = (k = 0) := propext (nI_eq (b := 0) (by omega) (by decide))
      have f1 : (nI k = 1) = (k = 1) := propext (nI_eq (b := 1) (by omega) (by decide))
      have f2 : (nI k = 2) = (k = 2) := propext (nI_eq (b := 2) (by omega) (by decide))
      have f3 : (nI k = 3) = (k = 3) := propext (nI_eq (b := 3) (by omega) (by decide))
      have f4 : (nI k = 4) = (k = 4) := propext (nI_eq (b := 4) (by omega) (by decide))
      have f5 : (nI k = 5) = (k = 5) := propext (nI_eq (b := 5) (by omega) (by decide))
      have f6 : (nI k = 6) = (k = 6) := propext (nI_eq (b := 6) (by omega) (by decide))
      have f7 : (nI k = 7) = (k = 7) := propext (nI_eq (b := 7) (by omega) (by decide))
      have f8 : (nI k = 8) = (k = 8) := propext (nI_eq (b := 8) (by omega) (by decide))
      have f9 : (nI k = 9) = (k = 9) := propext (nI_eq (b := 9) (by omega) (by decide))
      refine ⟨c1, ⟨_, _, h2c⟩, fun K => ?_⟩
      simp only [↓g61_0, ↓g61_1, ↓g61_4, ↓g61_7, ↓g61_8, ↓g61_9, ↓g61_10, ↓g61_13, ↓g61_14, ↓g61_16, ↓g61_19, ↓g61_21, ↓g61_22, ↓g61_23, ↓g61_26, ↓g61_27, ↓g61_30, ↓g61_31, ↓g61_84, ↓g61_85, ↓g61_88, ↓g61_89, ↓g61_92, ↓g61_93, ↓g61_94, ↓g61_97, ↓g61_98, ↓g61_99, ↓g61_102, ↓g61_103, ↓g61_104, ↓g61_107, ↓g61_108, ↓g61_109, ↓g61_112, ↓g61_113, ↓g61_114, ↓g61_117, ↓g61_118, ↓g61_119, ↓g61_122, ↓g61_123, ↓g61_124, ↓g61_127, ↓g61_128, ↓g61_129, ↓g61_132, ↓g61_133, ↓g61_134, ↓g61_137, ↓g61_140, ↓g61_141, ↓g61_142, ↓g61_145, ↓g61_148, ↓g61_149, ↓g61_150, ↓g61_153, ↓g61_154, ↓g61_157, ↓g61_158, ↓g61_159, ↓g61_162, ↓g61_163, ↓g61_166, ↓g61_167, ↓g61_168, ↓g61_171, ↓g61_172, ↓g61_175, ↓g61_176, ↓g61_177, ↓g61_180, ↓g61_181, ↓g61_184, ↓mo_0, ↓mf_0_0, ↓mf_0_1, ↓mf_0_2, ↓mf_0_3, ↓mf_0_4, ↓mo_1, ↓mf_1_0, ↓mf_1_1, ↓mo_2, ↓mf_2_0, ↓mo_4, ↓mf_4_0, ↓mo_6, ↓mf_6_0, ↓mf_6_1, ↓mf_6_2, ↓mf_6_3, ↓mp_6_4, ↓mf_6_4, ↓mp_6_5, ↓mf_6_5, ↓mo_7, ↓mf_7_0, ↓mo_9, ↓mf_9_0, ↓mo_11, ↓mf_11_0, ↓mo_13, ↓mf_13_0, ↓mf_13_1, ↓mp_13_2, ↓mf_13_2, ↓mp_13_3, ↓mf_13_3, ↓mo_14, ↓mf_14_0, ↓mp_14_1, ↓mf_14_1, ↓mp_14_2, ↓mf_14_2, ↓mo_15, ↓mf_15_0, ↓mf_15_1, ↓mp_15_2, ↓mf_15_2, ↓mo_16, ↓mf_16_0, ↓mo_18, ↓mf_18_0, ↓ma_3, ↓ms_3, ↓ma_5, ↓ms_5, ↓ma_8, ↓ms_8, ↓ma_10, ↓ms_10, ↓ma_12, ↓ms_12, ↓ma_17, ↓ms_17, ↓ma_19, ↓ms_19, ↓bnd_some, ↓cond_true, ↓m_pv_none, ↓m_pv_some, m_b01_0, m_b01_1, true_and, and_true, ↓y1, q1, q2, ↓g1, f0, f1, f2, f3, f4, f5, f6, f7, f8, f9, ↓a0, ↓a1, ↓a2, ↓a3, ↓a4, ↓a5, ↓a6, ↓a7, ↓a8, ↓a9, ↓a10, ↓reduceIte, eq_self, i_10]
      clear q1 q2 f0 f1 f2 f3 f4 f5 f6 f7 f8 f9 hy
      match k, hk with
      | 0, _ => rfl
      | 1, _ => rfl
      | 2, _ => rfl
      | 3, _ => rfl
      | 4, _ => rfl
      | 5, _ => rfl
      | 6, _ => rfl
      | 7, _ => rfl
      | 8, _ => rfl
      | 9, _ => rfl
      | 10, _ => rfl
theorem C_part (h : CI c σ) (ho : SOk σ) (x p w : Int32) : CC S 62 [.ref 0, .int x, .int p, .int w] c t (F_part σ x p w) := by
  unfold F_part
  cases hx : rgx x 6 with
  | none => exact ⟨c, h, fun K => by simp only [↓g62_0, ↓g62_1, ↓g62_4, ↓g62_7, ↓g62_8, ↓g62_11, ↓g62_12, ↓g62_13, ↓g62_16, ↓g62_17, ↓g62_20, ↓g62_23, ↓g62_24, ↓g62_25, ↓g62_26, ↓g62_29, ↓g62_30, ↓g62_31, ↓g62_34, ↓g62_36, ↓g62_37, ↓g62_38, ↓g62_41, ↓g62_42, ↓g62_45, ↓g62_46, ↓g62_76, ↓g62_77, ↓g62_80, ↓g62_81, ↓g62_82, ↓g62_85, ↓g62_86, ↓g62_87, ↓g62_90, ↓g62_91, ↓g62_92, ↓g62_95, ↓g62_96, ↓g62_97, ↓g62_100, ↓g62_101, ↓g62_104, ↓g62_105, ↓g62_106, ↓g62_109, ↓g62_110, ↓g62_113, ↓g62_114, ↓g62_115, ↓g62_118, ↓g62_119, ↓g62_122, ↓mo_0, ↓mf_0_0, ↓mf_0_1, ↓mf_0_2, ↓mf_0_3, ↓mf_0_4, ↓mo_1, ↓mf_1_0, ↓mf_1_1, ↓mo_2, ↓mf_2_0, ↓mo_4, ↓mf_4_0, ↓mo_6, ↓mf_6_0, ↓mf_6_1, ↓mf_6_2, ↓mf_6_3, ↓mp_6_4, ↓mf_6_4, ↓mp_6_5, ↓mf_6_5, ↓mo_7, ↓mf_7_0, ↓mo_9, ↓mf_9_0, ↓mo_11, ↓mf_11_0, ↓mo_13, ↓mf_13_0, ↓mf_13_1, ↓mp_13_2, ↓mf_13_2, ↓mp_13_3, ↓mf_13_3, ↓mo_14, ↓mf_14_0, ↓mp_14_1, ↓mf_14_1, ↓mp_14_2, ↓mf_14_2, ↓mo_15, ↓mf_15_0, ↓mf_15_1, ↓mp_15_2, ↓mf_15_2, ↓mo_16, ↓mf_16_0, ↓mo_18, ↓mf_18_0, ↓ma_3, ↓ms_3, ↓ma_5, ↓ms_5, ↓ma_8, ↓ms_8, ↓ma_10, ↓ms_10, ↓ma_12, ↓ms_12, ↓ma_17, ↓ms_17, ↓ma_19, ↓ms_19, ↓bnd_some, ↓cond_true, ↓m_pv_none, ↓m_pv_some, m_b01_0, m_b01_1, true_and, and_true, ↓n_reg (rgx_no hx), ↓reduceIte, eq_self, i_10]⟩
  | some i =>
    obtain ⟨hi, rfl⟩ := rgx_some hx (by decide)
    have y1 := fun K => y_reg (S := S) (M := mk c t) (inR_nI hi (by decide)) K
    obtain ⟨T, nx, h1⟩ := h
    have hl := ho.reg hi
    have hl2 := hl.2
    have e0 : T i = σ.1 i := h1.at hi
    have b0 := fun K => q_length (S := S) (t := t) h1.1 (i := i) (by omega) K
    rw [e0] at b0
    dsimp only
    cases hp : rgx p (σ.1 i).length with
    | none =>
      refine ⟨c, ⟨_, _, h1⟩, fun K => ?_⟩
      by_cases q1 : p < 0
      · simp only [↓g62_0, ↓g62_1, ↓g62_4, ↓g62_7, ↓g62_8, ↓g62_11, ↓g62_12, ↓g62_13, ↓g62_16, ↓g62_17, ↓g62_20, ↓g62_23, ↓g62_24, ↓g62_25, ↓g62_26, ↓g62_29, ↓g62_30, ↓g62_31, ↓g62_34, ↓g62_36, ↓g62_37, ↓g62_38, ↓g62_41, ↓g62_42, ↓g62_45, ↓g62_46, ↓g62_76, ↓g62_77, ↓g62_80, ↓g62_81, ↓g62_82, ↓g62_85, ↓g62_86, ↓g62_87, ↓g62_90, ↓g62_91, ↓g62_92, ↓g62_95, ↓g62_96, ↓g62_97, ↓g62_100, ↓g62_101, ↓g62_104, ↓g62_105, ↓g62_106, ↓g62_109, ↓g62_110, ↓g62_113, ↓g62_114, ↓g62_115, ↓g62_118, ↓g62_119, ↓g62_122, ↓mo_0, ↓mf_0_0, ↓mf_0_1, ↓mf_0_2, ↓mf_0_3, ↓mf_0_4, ↓mo_1, ↓mf_1_0, ↓mf_1_1, ↓mo_2, ↓mf_2_0, ↓mo_4, ↓mf_4_0, ↓mo_6, ↓mf_6_0, ↓mf_6_1, ↓mf_6_2, ↓mf_6_3, ↓mp_6_4, ↓mf_6_4, ↓mp_6_5, ↓mf_6_5, ↓mo_7, ↓mf_7_0, ↓mo_9, ↓mf_9_0, ↓mo_11, ↓mf_11_0, ↓mo_13, ↓mf_13_0, ↓mf_13_1, ↓mp_13_2, ↓mf_13_2, ↓mp_13_3, ↓mf_13_3, ↓mo_14, ↓mf_14_0, ↓mp_14_1, ↓mf_14_1, ↓mp_14_2, ↓mf_14_2, ↓mo_15, ↓mf_15_0, ↓mf_15_1, ↓mp_15_2, ↓mf_15_2, ↓mo_16, ↓mf_16_0, ↓mo_18, ↓mf_18_0, ↓ma_3, ↓ms_3, ↓ma_5, ↓ms_5, ↓ma_8, ↓ms_8, ↓ma_10, ↓ms_10, ↓ma_12, ↓ms_12, ↓ma_17, ↓ms_17, ↓ma_19, ↓ms_19, ↓bnd_some, ↓cond_true, ↓m_pv_none, ↓m_pv_some, m_b01_0, m_b01_1, true_and, and_true, ↓y1, q1, ↓reduceIte, eq_self, i_10]
      · have q2 : ¬ p < nI (σ.1 i).length := fun z => rgx_no hp ⟨Int32.not_lt.mp q1, z⟩
        simp only [↓g62_0, ↓g62_1, ↓g62_4, ↓g62_7, ↓g62_8, ↓g62_11, ↓g62_12, ↓g62_13, ↓g62_16, ↓g62_17, ↓g62_20, ↓g62_23, ↓g62_24, ↓g62_25, ↓g62_26, ↓g62_29, ↓g62_30, ↓g62_31, ↓g62_34, ↓g62_36, ↓g62_37, ↓g62_38, ↓g62_41, ↓g62_42, ↓g62_45, ↓g62_46, ↓g62_76, ↓g62_77, ↓g62_80, ↓g62_81, ↓g62_82, ↓g62_85, ↓g62_86, ↓g62_87, ↓g62_90, ↓g62_91, ↓g62_92, ↓g62_95, ↓g62_96, ↓g62_97, ↓g62_100, ↓g62_101, ↓g62_104, ↓g62_105, ↓g62_106, ↓g62_109, ↓g62_110, ↓g62_113, ↓g62_114, ↓g62_115, ↓g62_118, ↓g62_119, ↓g62_122, ↓mo_0, ↓mf_0_0, ↓mf_0_1, ↓mf_0_2, ↓mf_0_3, ↓mf_0_4, ↓mo_1, ↓mf_1_0, ↓mf_1_1, ↓mo_2, ↓mf_2_0, ↓mo_4, ↓mf_4_0, ↓mo_6, ↓mf_6_0, ↓mf_6_1, ↓mf_6_2, ↓mf_6_3, ↓mp_6_4, ↓mf_6_4, ↓mp_6_5, ↓mf_6_5, ↓mo_7, ↓mf_7_0, ↓mo_9, ↓mf_9_0, ↓mo_11, ↓mf_11_0, ↓mo_13, ↓mf_13_0, ↓mf_13_1, ↓mp_13_2, ↓mf_13_2, ↓mp_13_3, ↓mf_13_3, ↓mo_14, ↓mf_14_0, ↓mp_14_1, ↓mf_14_1, ↓mp_14_2, ↓mf_14_2, ↓mo_15, ↓mf_15_0, ↓mf_15_1, ↓mp_15_2, ↓mf_15_2, ↓mo_16, ↓mf_16_0, ↓mo_18, ↓mf_18_0, ↓ma_3, ↓ms_3, ↓ma_5, ↓ms_5, ↓ma_8, ↓ms_8, ↓ma_10, ↓ms_10, ↓ma_12, ↓ms_12, ↓ma_17, ↓ms_17, ↓ma_19, ↓ms_19, ↓bnd_some, ↓cond_true, ↓m_pv_none, ↓m_pv_some, m_b01_0, m_b01_1, true_and, and_true, ↓y1, q1, ↓b0, q2, ↓reduceIte, eq_self, i_10]
    | some p =>
      obtain ⟨hpl, rfl⟩ := rgx_some hp (by omega)
      have p1 : ¬ nI p < 0 := nI_pos (by omega)
      have p2 : nI p < nI (σ.1 i).length := nI_lt hpl (by omega)
      cases hy : rgx w 5 with
      | none =>
        refine ⟨c, ⟨_, _, h1⟩, fun K => ?_⟩
        by_cases q1 : w < 0
        · simp only [↓g62_0, ↓g62_1, ↓g62_4, ↓g62_7, ↓g62_8, ↓g62_11, ↓g62_12, ↓g62_13, ↓g62_16, ↓g62_17, ↓g62_20, ↓g62_23, ↓g62_24, ↓g62_25, ↓g62_26, ↓g62_29, ↓g62_30, ↓g62_31, ↓g62_34, ↓g62_36, ↓g62_37, ↓g62_38, ↓g62_41, ↓g62_42, ↓g62_45, ↓g62_46, ↓g62_76, ↓g62_77, ↓g62_80, ↓g62_81, ↓g62_82, ↓g62_85, ↓g62_86, ↓g62_87, ↓g62_90, ↓g62_91, ↓g62_92, ↓g62_95, ↓g62_96, ↓g62_97, ↓g62_100, ↓g62_101, ↓g62_104, ↓g62_105, ↓g62_106, ↓g62_109, ↓g62_110, ↓g62_113, ↓g62_114, ↓g62_115, ↓g62_118, ↓g62_119, ↓g62_122, ↓mo_0, ↓mf_0_0, ↓mf_0_1, ↓mf_0_2, ↓mf_0_3, ↓mf_0_4, ↓mo_1, ↓mf_1_0, ↓mf_1_1, ↓mo_2, ↓mf_2_0, ↓mo_4, ↓mf_4_0, ↓mo_6, ↓mf_6_0, ↓mf_6_1, ↓mf_6_2, ↓mf_6_3, ↓mp_6_4, ↓mf_6_4, ↓mp_6_5, ↓mf_6_5, ↓mo_7, ↓mf_7_0, ↓mo_9, ↓mf_9_0, ↓mo_11, ↓mf_11_0, ↓mo_13, ↓mf_13_0, ↓mf_13_1, ↓mp_13_2, ↓mf_13_2, ↓mp_13_3, ↓mf_13_3, ↓mo_14, ↓mf_14_0, ↓mp_14_1, ↓mf_14_1, ↓mp_14_2, ↓mf_14_2, ↓mo_15, ↓mf_15_0, ↓mf_15_1, ↓mp_15_2, ↓mf_15_2, ↓mo_16, ↓mf_16_0, ↓mo_18, ↓mf_18_0, ↓ma_3, ↓ms_3, ↓ma_5, ↓ms_5, ↓ma_8, ↓ms_8, ↓ma_10, ↓ms_10, ↓ma_12, ↓ms_12, ↓ma_17, ↓ms_17, ↓ma_19, ↓ms_19, ↓bnd_some, ↓cond_true, ↓m_pv_none, ↓m_pv_some, m_b01_0, m_b01_1, true_and, and_true, ↓y1, p1, p2, ↓b0, q1, ↓reduceIte, eq_self, i_10]
        · have q2 : ¬ w ≤ 4 := fun z => by
            obtain ⟨j, hj, rfl⟩ := nI_of q1
            exact rgx_ne (i := j) hy (by have := (nI_leI (b := 4) hj (by decide)).mp z; omega) (by decide) rfl
          simp only [↓g62_0, ↓g62_1, ↓g62_4, ↓g62_7, ↓g62_8, ↓g62_11, ↓g62_12, ↓g62_13, ↓g62_16, ↓g62_17, ↓g62_20, ↓g62_23, ↓g62_24, ↓g62_25, ↓g62_26, ↓g62_29, ↓g62_30, ↓g62_31, ↓g62_34, ↓g62_36, ↓g62_37, ↓g62_38, ↓g62_41, ↓g62_42, ↓g62_45, ↓g62_46, ↓g62_76, ↓g62_77, ↓g62_80, ↓g62_81, ↓g62_82, ↓g62_85, ↓g62_86, ↓g62_87, ↓g62_90, ↓g62_91, ↓g62_92, ↓g62_95, ↓g62_96, ↓g62_97, ↓g62_100, ↓g62_101, ↓g62_104, ↓g62_105, ↓g62_106, ↓g62_109, ↓g62_110, ↓g62_113, ↓g62_114, ↓g62_115, ↓g62_118, ↓g62_119, ↓g62_122, ↓mo_0, ↓mf_0_0, ↓mf_0_1, ↓mf_0_2, ↓mf_0_3, ↓mf_0_4, ↓mo_1, ↓mf_1_0, ↓mf_1_1, ↓mo_2, ↓mf_2_0, ↓mo_4, ↓mf_4_0, ↓mo_6, ↓mf_6_0, ↓mf_6_1, ↓mf_6_2, ↓mf_6_3, ↓mp_6_4, ↓mf_6_4, ↓mp_6_5, ↓mf_6_5, ↓mo_7, ↓mf_7_0, ↓mo_9, ↓mf_9_0, ↓mo_11, ↓mf_11_0, ↓mo_13, ↓mf_13_0, ↓mf_13_1, ↓mp_13_2, ↓mf_13_2, ↓mp_13_3, ↓mf_13_3, ↓mo_14, ↓mf_14_0, ↓mp_14_1, ↓mf_14_1, ↓mp_14_2, ↓mf_14_2, ↓mo_15, ↓mf_15_0, ↓mf_15_1, ↓mp_15_2, ↓mf_15_2, ↓mo_16, ↓mf_16_0, ↓mo_18, ↓mf_18_0, ↓ma_3, ↓ms_3, ↓ma_5, ↓ms_5, ↓ma_8, ↓ms_8, ↓ma_10, ↓ms_10, ↓ma_12, ↓ms_12, ↓ma_17, ↓ms_17, ↓ma_19, ↓ms_19, ↓bnd_some, ↓cond_true, ↓m_pv_none, ↓m_pv_some, m_b01_0, m_b01_1, true_and, and_true, ↓y1, p1, p2, ↓b0, q1, q2, ↓reduceIte, eq_self, i_10]
      | some k =>
        obtain ⟨hk, rfl⟩ := rgx_some hy (by decide)
        obtain ⟨c1, v1, h2, s1, g1⟩ := q_look (S := S) (t := t) (v := i) (by omega) (by rw [e0]; exact hl.1) h1.1
        have h2c := h1.same h2 (fun _ _ => rfl) s1 (by simp) (by simp) (by simp)
        have a0 := fun K => q_kind (S := S) (t := t) h2 (i := i) (p := p) (by omega) (by rw [e0]; exact hpl) K
        have a1 := fun K => q_number (S := S) (t := t) h2 (i := i) (p := p) (by omega) (by rw [e0]; exact hpl) K
        have a2 := v1.around (by rw [e0]; exact hl.2) (i := p) (by rw [e0]; exact hpl)
        have a3 := v1.behind (by rw [e0]; exact hl.2) (i := p) (by rw [e0]; exact hpl)
        have a4 := fun K => u_binder (S := S) (t := t) h2 v1 (by rw [e0]; exact hl.1) (p := p) (by rw [e0]; exact hpl) K
        rw [e0] at a0 a1 a2 a3 a4
        have q1 : ¬ nI k < 0 := nI_pos (by omega)
        have q2 : nI k ≤ 4 := nI_le (b := 4) (by omega) (by decide)
        have f0 : (nI k = 0) = (k = 0) := propext (nI_eq (b := 0) (by omega) (by decide))
        have f1 : (nI k = 1) = (k = 1) := propext (nI_eq (b := 1) (by omega) (by decide))
        have f2 : (nI k = 2) = (k = 2) := propext (nI_eq (b := 2) (by omega) (by decide))
        have f3 : (nI k = 3) = (k = 3) := propext (nI_eq (b := 3) (by omega) (by decide))
        refine ⟨c1, ⟨_, _, h2c⟩, fun K => ?_⟩
        simp only [↓g62_0, ↓g62_1, ↓g62_4, ↓g62_7, ↓g62_8, ↓g62_11, ↓g62_12, ↓g62_13, ↓g62_16, ↓g62_17, ↓g62_20, ↓g62_23, ↓g62_24, ↓g62_25, ↓g62_26, ↓g62_29, ↓g62_30, ↓g62_31, ↓g62_34, ↓g62_36, ↓g62_37, ↓g62_38, ↓g62_41, ↓g62_42, ↓g62_45, ↓g62_46, ↓g62_76, ↓g62_77, ↓g62_80, ↓g62_81, ↓g62_82, ↓g62_85, ↓g62_86, ↓g62_87, ↓g62_90, ↓g62_91, ↓g62_92, ↓g62_95, ↓g62_96, ↓g62_97, ↓g62_100, ↓g62_101, ↓g62_104, ↓g62_105, ↓g62_106, ↓g62_109, ↓g62_110, ↓g62_113, ↓g62_114, ↓g62_115, ↓g62_118, ↓g62_119, ↓g62_122, ↓mo_0, ↓mf_0_0, ↓mf_0_1, ↓mf_0_2, ↓mf_0_3, ↓mf_0_4, ↓mo_1, ↓mf_1_0, ↓mf_1_1, ↓mo_2, ↓mf_2_0, ↓mo_4, ↓mf_4_0, ↓mo_6, ↓mf_6_0, ↓mf_6_1, ↓mf_6_2, ↓mf_6_3, ↓mp_6_4, ↓mf_6_4, ↓mp_6_5, ↓mf_6_5, ↓mo_7, ↓mf_7_0, ↓mo_9, ↓mf_9_0, ↓mo_11, ↓mf_11_0, ↓mo_13, ↓mf_13_0, ↓mf_13_1, ↓mp_13_2, ↓mf_13_2, ↓mp_13_3, ↓mf_13_3, ↓mo_14, ↓mf_14_0, ↓mp_14_1, ↓mf_14_1, ↓mp_14_2, ↓mf_14_2, ↓mo_15, ↓mf_15_0, ↓mf_15_1, ↓mp_15_2, ↓mf_15_2, ↓mo_16, ↓mf_16_0, ↓mo_18, ↓mf_18_0, ↓ma_3, ↓ms_3, ↓ma_5, ↓ms_5, ↓ma_8, ↓ms_8, ↓ma_10, ↓ms_10, ↓ma_12, ↓ms_12, ↓ma_17, ↓ms_17, ↓ma_19, ↓ms_19, ↓bnd_some, ↓cond_true, ↓m_pv_none, ↓m_pv_some, m_b01_0, m_b01_1, true_and, and_true, ↓y1, p1, p2, ↓b0, q1, q2, ↓g1, f0, f1, f2, f3, ↓a0, ↓a1, ↓u_around, ↓u_behind, a2, a3, ↓a4, ↓reduceIte, eq_self, i_10]
        clear q1 q2 f0 f1 f2 f3 hy
        match k, hk with
        | 0, _ => rfl
        | 1, _ => rfl
        | 2, _ => rfl
        | 3, _ => rfl
        | 4, _ => rfl
theorem C_named (h : CI c σ) (ho : SOk σ) (x p : Int32) : CC S 63 [.ref 0, .int x, .int p] c t (F_named σ x p) := by
  unfold F_named
  cases hx : rgx x 6 with
  | none => exact ⟨c, h, fun K => by simp only [↓g63_0, ↓g63_1, ↓g63_4, ↓g63_7, ↓g63_8, ↓g63_9, ↓g63_10, ↓g63_13, ↓g63_14, ↓g63_17, ↓g63_18, ↓g63_21, ↓g63_22, ↓g63_25, ↓mo_0, ↓mf_0_0, ↓mf_0_1, ↓mf_0_2, ↓mf_0_3, ↓mf_0_4, ↓mo_1, ↓mf_1_0, ↓mf_1_1, ↓mo_2, ↓mf_2_0, ↓mo_4, ↓mf_4_0, ↓mo_6, ↓mf_6_0, ↓mf_6_1, ↓mf_6_2, ↓mf_6_3, ↓mp_6_4, ↓mf_6_4, ↓mp_6_5, ↓mf_6_5, ↓mo_7, ↓mf_7_0, ↓mo_9, ↓mf_9_0, ↓mo_11, ↓mf_11_0, ↓mo_13, ↓mf_13_0, ↓mf_13_1, ↓mp_13_2, ↓mf_13_2, ↓mp_13_3, ↓mf_13_3, ↓mo_14, ↓mf_14_0, ↓mp_14_1, ↓mf_14_1, ↓mp_14_2, ↓mf_14_2, ↓mo_15, ↓mf_15_0, ↓mf_15_1, ↓mp_15_2, ↓mf_15_2, ↓mo_16, ↓mf_16_0, ↓mo_18, ↓mf_18_0, ↓ma_3, ↓ms_3, ↓ma_5, ↓ms_5, ↓ma_8, ↓ms_8, ↓ma_10, ↓ms_10, ↓ma_12, ↓ms_12, ↓ma_17, ↓ms_17, ↓ma_19, ↓ms_19, ↓bnd_some, ↓cond_true, ↓m_pv_none, ↓m_pv_some, m_b01_0, m_b01_1, true_and, and_true, ↓n_reg (rgx_no hx), ↓reduceIte, eq_self, i_10]⟩
  | some i =>
    obtain ⟨hi, rfl⟩ := rgx_some hx (by decide)
    have y1 := fun K => y_reg (S := S) (M := mk c t) (inR_nI hi (by decide)) K
    obtain ⟨T, nx, h1⟩ := h
    have hl := ho.reg hi
    have e0 : T i = σ.1 i := h1.at hi
    obtain ⟨c1, v1, h2, s1, g1⟩ := q_look (S := S) (t := t) (v := i) (by omega) (by rw [e0]; exact hl.1) h1.1
    have h2c := h1.same h2 (fun _ _ => rfl) s1 (by simp) (by simp) (by simp)
    have a0 := fun K => u_printed (S := S) (t := t) h2 v1 (by rw [e0]; exact hl.1) p K
    rw [e0] at a0
    refine ⟨c1, ⟨_, _, h2c⟩, fun K => ?_⟩
    simp only [↓g63_0, ↓g63_1, ↓g63_4, ↓g63_7, ↓g63_8, ↓g63_9, ↓g63_10, ↓g63_13, ↓g63_14, ↓g63_17, ↓g63_18, ↓g63_21, ↓g63_22, ↓g63_25, ↓mo_0, ↓mf_0_0, ↓mf_0_1, ↓mf_0_2, ↓mf_0_3, ↓mf_0_4, ↓mo_1, ↓mf_1_0, ↓mf_1_1, ↓mo_2, ↓mf_2_0, ↓mo_4, ↓mf_4_0, ↓mo_6, ↓mf_6_0, ↓mf_6_1, ↓mf_6_2, ↓mf_6_3, ↓mp_6_4, ↓mf_6_4, ↓mp_6_5, ↓mf_6_5, ↓mo_7, ↓mf_7_0, ↓mo_9, ↓mf_9_0, ↓mo_11, ↓mf_11_0, ↓mo_13, ↓mf_13_0, ↓mf_13_1, ↓mp_13_2, ↓mf_13_2, ↓mp_13_3, ↓mf_13_3, ↓mo_14, ↓mf_14_0, ↓mp_14_1, ↓mf_14_1, ↓mp_14_2, ↓mf_14_2, ↓mo_15, ↓mf_15_0, ↓mf_15_1, ↓mp_15_2, ↓mf_15_2, ↓mo_16, ↓mf_16_0, ↓mo_18, ↓mf_18_0, ↓ma_3, ↓ms_3, ↓ma_5, ↓ms_5, ↓ma_8, ↓ms_8, ↓ma_10, ↓ms_10, ↓ma_12, ↓ms_12, ↓ma_17, ↓ms_17, ↓ma_19, ↓ms_19, ↓bnd_some, ↓cond_true, ↓m_pv_none, ↓m_pv_some, m_b01_0, m_b01_1, true_and, and_true, ↓y1, ↓g1, ↓a0, ↓reduceIte, eq_self, i_10]
theorem C_same (h : CI c σ) (x y : Int32) : CC S 64 [.ref 0, .int x, .int y] c t (F_same σ x y) := by
  unfold F_same
  cases hx : rgx x 6 with
  | none => exact ⟨c, h, fun K => by simp only [↓g64_0, ↓g64_1, ↓g64_4, ↓g64_7, ↓g64_8, ↓g64_11, ↓g64_14, ↓g64_15, ↓g64_16, ↓g64_17, ↓g64_20, ↓g64_21, ↓g64_22, ↓g64_25, ↓g64_28, ↓g64_29, ↓g64_32, ↓g64_33, ↓mo_0, ↓mf_0_0, ↓mf_0_1, ↓mf_0_2, ↓mf_0_3, ↓mf_0_4, ↓mo_1, ↓mf_1_0, ↓mf_1_1, ↓mo_2, ↓mf_2_0, ↓mo_4, ↓mf_4_0, ↓mo_6, ↓mf_6_0, ↓mf_6_1, ↓mf_6_2, ↓mf_6_3, ↓mp_6_4, ↓mf_6_4, ↓mp_6_5, ↓mf_6_5, ↓mo_7, ↓mf_7_0, ↓mo_9, ↓mf_9_0, ↓mo_11, ↓mf_11_0, ↓mo_13, ↓mf_13_0, ↓mf_13_1, ↓mp_13_2, ↓mf_13_2, ↓mp_13_3, ↓mf_13_3, ↓mo_14, ↓mf_14_0, ↓mp_14_1, ↓mf_14_1, ↓mp_14_2, ↓mf_14_2, ↓mo_15, ↓mf_15_0, ↓mf_15_1, ↓mp_15_2, ↓mf_15_2, ↓mo_16, ↓mf_16_0, ↓mo_18, ↓mf_18_0, ↓ma_3, ↓ms_3, ↓ma_5, ↓ms_5, ↓ma_8, ↓ms_8, ↓ma_10, ↓ms_10, ↓ma_12, ↓ms_12, ↓ma_17, ↓ms_17, ↓ma_19, ↓ms_19, ↓bnd_some, ↓cond_true, ↓m_pv_none, ↓m_pv_some, m_b01_0, m_b01_1, true_and, and_true, ↓n_reg (rgx_no hx), ↓reduceIte, eq_self, i_10]⟩
  | some i =>
    obtain ⟨hi, rfl⟩ := rgx_some hx (by decide)
    have y1 := fun K => y_reg (S := S) (M := mk c t) (inR_nI hi (by decide)) K
    cases hy : rgx y 6 with
    | none => exact ⟨c, h, fun K => by simp only [↓g64_0, ↓g64_1, ↓g64_4, ↓g64_7, ↓g64_8, ↓g64_11, ↓g64_14, ↓g64_15, ↓g64_16, ↓g64_17, ↓g64_20, ↓g64_21, ↓g64_22, ↓g64_25, ↓g64_28, ↓g64_29, ↓g64_32, ↓g64_33, ↓mo_0, ↓mf_0_0, ↓mf_0_1, ↓mf_0_2, ↓mf_0_3, ↓mf_0_4, ↓mo_1, ↓mf_1_0, ↓mf_1_1, ↓mo_2, ↓mf_2_0, ↓mo_4, ↓mf_4_0, ↓mo_6, ↓mf_6_0, ↓mf_6_1, ↓mf_6_2, ↓mf_6_3, ↓mp_6_4, ↓mf_6_4, ↓mp_6_5, ↓mf_6_5, ↓mo_7, ↓mf_7_0, ↓mo_9, ↓mf_9_0, ↓mo_11, ↓mf_11_0, ↓mo_13, ↓mf_13_0, ↓mf_13_1, ↓mp_13_2, ↓mf_13_2, ↓mp_13_3, ↓mf_13_3, ↓mo_14, ↓mf_14_0, ↓mp_14_1, ↓mf_14_1, ↓mp_14_2, ↓mf_14_2, ↓mo_15, ↓mf_15_0, ↓mf_15_1, ↓mp_15_2, ↓mf_15_2, ↓mo_16, ↓mf_16_0, ↓mo_18, ↓mf_18_0, ↓ma_3, ↓ms_3, ↓ma_5, ↓ms_5, ↓ma_8, ↓ms_8, ↓ma_10, ↓ms_10, ↓ma_12, ↓ms_12, ↓ma_17, ↓ms_17, ↓ma_19, ↓ms_19, ↓bnd_some, ↓cond_true, ↓m_pv_none, ↓m_pv_some, m_b01_0, m_b01_1, true_and, and_true, ↓y1, ↓n_reg (rgx_no hy), ↓reduceIte, eq_self, i_10]⟩
    | some j =>
      obtain ⟨hj, rfl⟩ := rgx_some hy (by decide)
      have y2 := fun K => y_reg (S := S) (M := mk c t) (inR_nI hj (by decide)) K
      obtain ⟨T, nx, h1⟩ := h
      have a0 := fun K => q_alike (S := S) (t := t) h1.1 (i := i) (j := j) (by omega) (by omega) K
      rw [h1.at hi, h1.at hj] at a0
      refine ⟨c, ⟨_, _, h1⟩, fun K => ?_⟩
      dsimp only
      by_cases e : σ.1 i = σ.1 j
      · simp only [if_pos e] at a0 ⊢
        simp only [↓g64_0, ↓g64_1, ↓g64_4, ↓g64_7, ↓g64_8, ↓g64_11, ↓g64_14, ↓g64_15, ↓g64_16, ↓g64_17, ↓g64_20, ↓g64_21, ↓g64_22, ↓g64_25, ↓g64_28, ↓g64_29, ↓g64_32, ↓g64_33, ↓mo_0, ↓mf_0_0, ↓mf_0_1, ↓mf_0_2, ↓mf_0_3, ↓mf_0_4, ↓mo_1, ↓mf_1_0, ↓mf_1_1, ↓mo_2, ↓mf_2_0, ↓mo_4, ↓mf_4_0, ↓mo_6, ↓mf_6_0, ↓mf_6_1, ↓mf_6_2, ↓mf_6_3, ↓mp_6_4, ↓mf_6_4, ↓mp_6_5, ↓mf_6_5, ↓mo_7, ↓mf_7_0, ↓mo_9, ↓mf_9_0, ↓mo_11, ↓mf_11_0, ↓mo_13, ↓mf_13_0, ↓mf_13_1, ↓mp_13_2, ↓mf_13_2, ↓mp_13_3, ↓mf_13_3, ↓mo_14, ↓mf_14_0, ↓mp_14_1, ↓mf_14_1, ↓mp_14_2, ↓mf_14_2, ↓mo_15, ↓mf_15_0, ↓mf_15_1, ↓mp_15_2, ↓mf_15_2, ↓mo_16, ↓mf_16_0, ↓mo_18, ↓mf_18_0, ↓ma_3, ↓ms_3, ↓ma_5, ↓ms_5, ↓ma_8, ↓ms_8, ↓ma_10, ↓ms_10, ↓ma_12, ↓ms_12, ↓ma_17, ↓ms_17, ↓ma_19, ↓ms_19, ↓bnd_some, ↓cond_true, ↓m_pv_none, ↓m_pv_some, m_b01_0, m_b01_1, true_and, and_true, ↓y1, ↓y2, ↓a0, ↓reduceIte, eq_self, i_10]
      · simp only [if_neg e] at a0 ⊢
        simp only [↓g64_0, ↓g64_1, ↓g64_4, ↓g64_7, ↓g64_8, ↓g64_11, ↓g64_14, ↓g64_15, ↓g64_16, ↓g64_17, ↓g64_20, ↓g64_21, ↓g64_22, ↓g64_25, ↓g64_28, ↓g64_29, ↓g64_32, ↓g64_33, ↓mo_0, ↓mf_0_0, ↓mf_0_1, ↓mf_0_2, ↓mf_0_3, ↓mf_0_4, ↓mo_1, ↓mf_1_0, ↓mf_1_1, ↓mo_2, ↓mf_2_0, ↓mo_4, ↓mf_4_0, ↓mo_6, ↓mf_6_0, ↓mf_6_1, ↓mf_6_2, ↓mf_6_3, ↓mp_6_4, ↓mf_6_4, ↓mp_6_5, ↓mf_6_5, ↓mo_7, ↓mf_7_0, ↓mo_9, ↓mf_9_0, ↓mo_11, ↓mf_11_0, ↓mo_13, ↓mf_13_0, ↓mf_13_1, ↓mp_13_2, ↓mf_13_2, ↓mp_13_3, ↓mf_13_3, ↓mo_14, ↓mf_14_0, ↓mp_14_1, ↓mf_14_1, ↓mp_14_2, ↓mf_14_2, ↓mo_15, ↓mf_15_0, ↓mf_15_1, ↓mp_15_2, ↓mf_15_2, ↓mo_16, ↓mf_16_0, ↓mo_18, ↓mf_18_0, ↓ma_3, ↓ms_3, ↓ma_5, ↓ms_5, ↓ma_8, ↓ms_8, ↓ma_10, ↓ms_10, ↓ma_12, ↓ms_12, ↓ma_17, ↓ms_17, ↓ma_19, ↓ms_19, ↓bnd_some, ↓cond_true, ↓m_pv_none, ↓m_pv_some, m_b01_0, m_b01_1, true_and, and_true, ↓y1, ↓y2, ↓a0, ↓reduceIte, eq_self, i_10]
theorem C_count (h : CI c σ) (ho : SOk σ) (w : Int32) : CC S 65 [.ref 0, .int w] c t (F_count σ w) := by
  unfold F_count
  cases hy : rgx w 4 with
  | none =>
    have n0 : ¬ w = 0 := rgx_ne hy (i := 0) (by decide) (by decide)
    have n1 : ¬ w = 1 := rgx_ne hy (i := 1) (by decide) (by decide)
    have n2 : ¬ w = 2 := rgx_ne hy (i := 2) (by decide) (by decide)
    have n3 : ¬ w = 3 := rgx_ne hy (i := 3) (by decide) (by decide)
    exact ⟨c, h, fun K => by simp only [↓g65_0, ↓g65_1, ↓g65_32, ↓g65_33, ↓g65_36, ↓g65_37, ↓g65_40, ↓g65_41, ↓g65_42, ↓g65_45, ↓g65_46, ↓g65_47, ↓g65_50, ↓g65_53, ↓g65_54, ↓g65_55, ↓g65_58, ↓g65_61, ↓g65_62, ↓g65_64, ↓mo_0, ↓mf_0_0, ↓mf_0_1, ↓mf_0_2, ↓mf_0_3, ↓mf_0_4, ↓mo_1, ↓mf_1_0, ↓mf_1_1, ↓mo_2, ↓mf_2_0, ↓mo_4, ↓mf_4_0, ↓mo_6, ↓mf_6_0, ↓mf_6_1, ↓mf_6_2, ↓mf_6_3, ↓mp_6_4, ↓mf_6_4, ↓mp_6_5, ↓mf_6_5, ↓mo_7, ↓mf_7_0, ↓mo_9, ↓mf_9_0, ↓mo_11, ↓mf_11_0, ↓mo_13, ↓mf_13_0, ↓mf_13_1, ↓mp_13_2, ↓mf_13_2, ↓mp_13_3, ↓mf_13_3, ↓mo_14, ↓mf_14_0, ↓mp_14_1, ↓mf_14_1, ↓mp_14_2, ↓mf_14_2, ↓mo_15, ↓mf_15_0, ↓mf_15_1, ↓mp_15_2, ↓mf_15_2, ↓mo_16, ↓mf_16_0, ↓mo_18, ↓mf_18_0, ↓ma_3, ↓ms_3, ↓ma_5, ↓ms_5, ↓ma_8, ↓ms_8, ↓ma_10, ↓ms_10, ↓ma_12, ↓ms_12, ↓ma_17, ↓ms_17, ↓ma_19, ↓ms_19, ↓bnd_some, ↓cond_true, ↓m_pv_none, ↓m_pv_some, m_b01_0, m_b01_1, true_and, and_true, n0, n1, n2, n3, ↓reduceIte, eq_self, i_10]⟩
  | some k =>
    obtain ⟨hk, rfl⟩ := rgx_some hy (by decide)
    obtain ⟨T, nx, h1⟩ := h
    clear hy
    match k, hk with
    | 0, _ =>
      have a0 := fun K => q_partsState (S := S) (t := t) h1.1 (s := 0) (by decide) K (x := 0)
      rw [sumF_congr (g := fun r => (σ.1 r).length) (fun k hk => by rw [show 6 * 0 + k = k by omega, h1.at hk])] at a0
      refine ⟨c, ⟨_, _, h1⟩, fun K => ?_⟩
      simp only [↓g65_0, ↓g65_1, ↓g65_32, ↓g65_33, ↓g65_36, ↓g65_37, ↓g65_40, ↓g65_41, ↓g65_42, ↓g65_45, ↓g65_46, ↓g65_47, ↓g65_50, ↓g65_53, ↓g65_54, ↓g65_55, ↓g65_58, ↓g65_61, ↓g65_62, ↓g65_64, ↓mo_0, ↓mf_0_0, ↓mf_0_1, ↓mf_0_2, ↓mf_0_3, ↓mf_0_4, ↓mo_1, ↓mf_1_0, ↓mf_1_1, ↓mo_2, ↓mf_2_0, ↓mo_4, ↓mf_4_0, ↓mo_6, ↓mf_6_0, ↓mf_6_1, ↓mf_6_2, ↓mf_6_3, ↓mp_6_4, ↓mf_6_4, ↓mp_6_5, ↓mf_6_5, ↓mo_7, ↓mf_7_0, ↓mo_9, ↓mf_9_0, ↓mo_11, ↓mf_11_0, ↓mo_13, ↓mf_13_0, ↓mf_13_1, ↓mp_13_2, ↓mf_13_2, ↓mp_13_3, ↓mf_13_3, ↓mo_14, ↓mf_14_0, ↓mp_14_1, ↓mf_14_1, ↓mp_14_2, ↓mf_14_2, ↓mo_15, ↓mf_15_0, ↓mf_15_1, ↓mp_15_2, ↓mf_15_2, ↓mo_16, ↓mf_16_0, ↓mo_18, ↓mf_18_0, ↓ma_3, ↓ms_3, ↓ma_5, ↓ms_5, ↓ma_8, ↓ms_8, ↓ma_10, ↓ms_10, ↓ma_12, ↓ms_12, ↓ma_17, ↓ms_17, ↓ma_19, ↓ms_19, ↓bnd_some, ↓cond_true, ↓m_pv_none, ↓m_pv_some, m_b01_0, m_b01_1, true_and, and_true, show (nI 0 = 0) = True from eq_true rfl, ↓a0, ↓reduceIte, eq_self, i_10]
      rfl
    | 1, _ =>
      obtain ⟨c1, h2, s1, a0⟩ := d_rest (S := S) (t := t) h1.1 (fun r hr => by rw [h1.at hr]; exact ho.reg hr)
      rw [msk_congr (fun k hk => h1.at hk)] at a0
      refine ⟨c1, ⟨_, _, h1.same h2 (fun _ _ => rfl) s1 (by simp) (by simp) (by simp)⟩, fun K => ?_⟩
      simp only [↓g65_0, ↓g65_1, ↓g65_32, ↓g65_33, ↓g65_36, ↓g65_37, ↓g65_40, ↓g65_41, ↓g65_42, ↓g65_45, ↓g65_46, ↓g65_47, ↓g65_50, ↓g65_53, ↓g65_54, ↓g65_55, ↓g65_58, ↓g65_61, ↓g65_62, ↓g65_64, ↓mo_0, ↓mf_0_0, ↓mf_0_1, ↓mf_0_2, ↓mf_0_3, ↓mf_0_4, ↓mo_1, ↓mf_1_0, ↓mf_1_1, ↓mo_2, ↓mf_2_0, ↓mo_4, ↓mf_4_0, ↓mo_6, ↓mf_6_0, ↓mf_6_1, ↓mf_6_2, ↓mf_6_3, ↓mp_6_4, ↓mf_6_4, ↓mp_6_5, ↓mf_6_5, ↓mo_7, ↓mf_7_0, ↓mo_9, ↓mf_9_0, ↓mo_11, ↓mf_11_0, ↓mo_13, ↓mf_13_0, ↓mf_13_1, ↓mp_13_2, ↓mf_13_2, ↓mp_13_3, ↓mf_13_3, ↓mo_14, ↓mf_14_0, ↓mp_14_1, ↓mf_14_1, ↓mp_14_2, ↓mf_14_2, ↓mo_15, ↓mf_15_0, ↓mf_15_1, ↓mp_15_2, ↓mf_15_2, ↓mo_16, ↓mf_16_0, ↓mo_18, ↓mf_18_0, ↓ma_3, ↓ms_3, ↓ma_5, ↓ms_5, ↓ma_8, ↓ms_8, ↓ma_10, ↓ms_10, ↓ma_12, ↓ms_12, ↓ma_17, ↓ms_17, ↓ma_19, ↓ms_19, ↓bnd_some, ↓cond_true, ↓m_pv_none, ↓m_pv_some, m_b01_0, m_b01_1, true_and, and_true, show (nI 1 = 0) = False from eq_false (by decide), show (nI 1 = 1) = True from eq_true rfl, ↓a0, ↓reduceIte, eq_self, i_10]
    | 2, _ =>
      refine ⟨c, ⟨_, _, h1⟩, fun K => ?_⟩
      simp only [↓g65_0, ↓g65_1, ↓g65_32, ↓g65_33, ↓g65_36, ↓g65_37, ↓g65_40, ↓g65_41, ↓g65_42, ↓g65_45, ↓g65_46, ↓g65_47, ↓g65_50, ↓g65_53, ↓g65_54, ↓g65_55, ↓g65_58, ↓g65_61, ↓g65_62, ↓g65_64, ↓mo_0, ↓mf_0_0, ↓mf_0_1, ↓mf_0_2, ↓mf_0_3, ↓mf_0_4, ↓mo_1, ↓mf_1_0, ↓mf_1_1, ↓mo_2, ↓mf_2_0, ↓mo_4, ↓mf_4_0, ↓mo_6, ↓mf_6_0, ↓mf_6_1, ↓mf_6_2, ↓mf_6_3, ↓mp_6_4, ↓mf_6_4, ↓mp_6_5, ↓mf_6_5, ↓mo_7, ↓mf_7_0, ↓mo_9, ↓mf_9_0, ↓mo_11, ↓mf_11_0, ↓mo_13, ↓mf_13_0, ↓mf_13_1, ↓mp_13_2, ↓mf_13_2, ↓mp_13_3, ↓mf_13_3, ↓mo_14, ↓mf_14_0, ↓mp_14_1, ↓mf_14_1, ↓mp_14_2, ↓mf_14_2, ↓mo_15, ↓mf_15_0, ↓mf_15_1, ↓mp_15_2, ↓mf_15_2, ↓mo_16, ↓mf_16_0, ↓mo_18, ↓mf_18_0, ↓ma_3, ↓ms_3, ↓ma_5, ↓ms_5, ↓ma_8, ↓ms_8, ↓ma_10, ↓ms_10, ↓ma_12, ↓ms_12, ↓ma_17, ↓ms_17, ↓ma_19, ↓ms_19, ↓bnd_some, ↓cond_true, ↓m_pv_none, ↓m_pv_some, m_b01_0, m_b01_1, true_and, and_true, show (nI 2 = 0) = False from eq_false (by decide), show (nI 2 = 1) = False from eq_false (by decide), show (nI 2 = 2) = True from eq_true rfl, ↓p_length h1.pad, ↓reduceIte, eq_self, i_10]
    | 3, _ =>
      refine ⟨c, ⟨_, _, h1⟩, fun K => ?_⟩
      simp only [↓g65_0, ↓g65_1, ↓g65_32, ↓g65_33, ↓g65_36, ↓g65_37, ↓g65_40, ↓g65_41, ↓g65_42, ↓g65_45, ↓g65_46, ↓g65_47, ↓g65_50, ↓g65_53, ↓g65_54, ↓g65_55, ↓g65_58, ↓g65_61, ↓g65_62, ↓g65_64, ↓mo_0, ↓mf_0_0, ↓mf_0_1, ↓mf_0_2, ↓mf_0_3, ↓mf_0_4, ↓mo_1, ↓mf_1_0, ↓mf_1_1, ↓mo_2, ↓mf_2_0, ↓mo_4, ↓mf_4_0, ↓mo_6, ↓mf_6_0, ↓mf_6_1, ↓mf_6_2, ↓mf_6_3, ↓mp_6_4, ↓mf_6_4, ↓mp_6_5, ↓mf_6_5, ↓mo_7, ↓mf_7_0, ↓mo_9, ↓mf_9_0, ↓mo_11, ↓mf_11_0, ↓mo_13, ↓mf_13_0, ↓mf_13_1, ↓mp_13_2, ↓mf_13_2, ↓mp_13_3, ↓mf_13_3, ↓mo_14, ↓mf_14_0, ↓mp_14_1, ↓mf_14_1, ↓mp_14_2, ↓mf_14_2, ↓mo_15, ↓mf_15_0, ↓mf_15_1, ↓mp_15_2, ↓mf_15_2, ↓mo_16, ↓mf_16_0, ↓mo_18, ↓mf_18_0, ↓ma_3, ↓ms_3, ↓ma_5, ↓ms_5, ↓ma_8, ↓ms_8, ↓ma_10, ↓ms_10, ↓ma_12, ↓ms_12, ↓ma_17, ↓ms_17, ↓ma_19, ↓ms_19, ↓bnd_some, ↓cond_true, ↓m_pv_none, ↓m_pv_some, m_b01_0, m_b01_1, true_and, and_true, show (nI 3 = 0) = False from eq_false (by decide), show (nI 3 = 1) = False from eq_false (by decide), show (nI 3 = 2) = False from eq_false (by decide), show (nI 3 = 3) = True from eq_true rfl, ↓h_len h1, ↓reduceIte, eq_self, i_10]
end CALLS2
