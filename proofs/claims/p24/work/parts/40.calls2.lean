/-! the object's calls, on: what there is, what would be -/
theorem sumF_congr {f g : Nat → Nat} : ∀ {n : Nat}, (∀ k, k < n → f k = g k) → sumF f n = sumF g n
  | 0, _ => rfl
  | n + 1, h => by rw [sumF, sumF, sumF_congr (fun k hk => h k (by omega)), h n (by omega)]
theorem msk_congr {R R' : Nat → Tm} : ∀ {n : Nat}, (∀ k, k < n → R k = R' k) → msk R n = msk R' n
  | 0, _ => rfl
  | n + 1, h => by rw [msk, msk, msk_congr (fun k hk => h k (by omega)), h n (by omega)]
theorem rgx_ne {x : Int32} {n i : Nat} (h : rgx x n = none) (hi : i < n) (hn : n < 2 ^ 31) : ¬ x = nI i := fun e => by
  rw [e, rgx_nI hi hn] at h
  cases h
section CALLS2
variable {S : mS} {t : mM} {c : Nat → Nat → Int32} {σ : Sg}
theorem C_of (h : CI c σ) (ho : SOk σ) (x w : Int32) : CC S 53 [.ref 0, .int x, .int w] c t (F_of σ x w) := by
  unfold F_of
  cases hx : rgx x 6 with
  | none => exact ⟨c, h, fun K => by simp only [↓g53_0, ↓g53_1, ↓g53_4, ↓g53_7, ↓g53_8, ↓g53_9, ↓g53_10, ↓g53_13, ↓g53_14, ↓g53_16, ↓g53_19, ↓g53_21, ↓g53_22, ↓g53_23, ↓g53_26, ↓g53_27, ↓g53_30, ↓g53_31, ↓g53_84, ↓g53_85, ↓g53_88, ↓g53_89, ↓g53_92, ↓g53_93, ↓g53_94, ↓g53_97, ↓g53_98, ↓g53_99, ↓g53_102, ↓g53_103, ↓g53_104, ↓g53_107, ↓g53_108, ↓g53_109, ↓g53_112, ↓g53_113, ↓g53_114, ↓g53_117, ↓g53_118, ↓g53_119, ↓g53_122, ↓g53_123, ↓g53_124, ↓g53_127, ↓g53_128, ↓g53_129, ↓g53_132, ↓g53_133, ↓g53_134, ↓g53_137, ↓g53_140, ↓g53_141, ↓g53_142, ↓g53_145, ↓g53_148, ↓g53_149, ↓g53_150, ↓g53_153, ↓g53_154, ↓g53_157, ↓g53_158, ↓g53_159, ↓g53_162, ↓g53_163, ↓g53_166, ↓g53_167, ↓g53_168, ↓g53_171, ↓g53_172, ↓g53_175, ↓g53_176, ↓g53_177, ↓g53_180, ↓g53_181, ↓g53_184, ↓mo_0, ↓mf_0_0, ↓mf_0_1, ↓mf_0_2, ↓mf_0_3, ↓mf_0_4, ↓mo_1, ↓mf_1_0, ↓mf_1_1, ↓mo_2, ↓mf_2_0, ↓mo_4, ↓mf_4_0, ↓mo_6, ↓mf_6_0, ↓mf_6_1, ↓mf_6_2, ↓mf_6_3, ↓mp_6_4, ↓mf_6_4, ↓mp_6_5, ↓mf_6_5, ↓mo_7, ↓mf_7_0, ↓mo_9, ↓mf_9_0, ↓mo_11, ↓mf_11_0, ↓mo_13, ↓mf_13_0, ↓mf_13_1, ↓mp_13_2, ↓mf_13_2, ↓mp_13_3, ↓mf_13_3, ↓mo_14, ↓mf_14_0, ↓mp_14_1, ↓mf_14_1, ↓mp_14_2, ↓mf_14_2, ↓mo_15, ↓mf_15_0, ↓mf_15_1, ↓mp_15_2, ↓mf_15_2, ↓mo_16, ↓mf_16_0, ↓mo_18, ↓mf_18_0, ↓ma_3, ↓ms_3, ↓ma_5, ↓ms_5, ↓ma_8, ↓ms_8, ↓ma_10, ↓ms_10, ↓ma_12, ↓ms_12, ↓ma_17, ↓ms_17, ↓ma_19, ↓ms_19, ↓bnd_some, ↓cond_true, ↓m_pv_none, ↓m_pv_some, m_b01_0, m_b01_1, true_and, and_true, ↓n_reg (rgx_no hx), ↓reduceIte, eq_self, i_10]⟩
  | some i =>
    obtain ⟨hi, rfl⟩ := rgx_some hx (by decide)
    have y1 := fun K => y_reg (S := S) (M := mk c t) (inR_nI hi (by decide)) K
    cases hy : rgx w 11 with
    | none =>
      refine ⟨c, h, fun K => ?_⟩
      by_cases q1 : w < 0
      · simp only [↓g53_0, ↓g53_1, ↓g53_4, ↓g53_7, ↓g53_8, ↓g53_9, ↓g53_10, ↓g53_13, ↓g53_14, ↓g53_16, ↓g53_19, ↓g53_21, ↓g53_22, ↓g53_23, ↓g53_26, ↓g53_27, ↓g53_30, ↓g53_31, ↓g53_84, ↓g53_85, ↓g53_88, ↓g53_89, ↓g53_92, ↓g53_93, ↓g53_94, ↓g53_97, ↓g53_98, ↓g53_99, ↓g53_102, ↓g53_103, ↓g53_104, ↓g53_107, ↓g53_108, ↓g53_109, ↓g53_112, ↓g53_113, ↓g53_114, ↓g53_117, ↓g53_118, ↓g53_119, ↓g53_122, ↓g53_123, ↓g53_124, ↓g53_127, ↓g53_128, ↓g53_129, ↓g53_132, ↓g53_133, ↓g53_134, ↓g53_137, ↓g53_140, ↓g53_141, ↓g53_142, ↓g53_145, ↓g53_148, ↓g53_149, ↓g53_150, ↓g53_153, ↓g53_154, ↓g53_157, ↓g53_158, ↓g53_159, ↓g53_162, ↓g53_163, ↓g53_166, ↓g53_167, ↓g53_168, ↓g53_171, ↓g53_172, ↓g53_175, ↓g53_176, ↓g53_177, ↓g53_180, ↓g53_181, ↓g53_184, ↓mo_0, ↓mf_0_0, ↓mf_0_1, ↓mf_0_2, ↓mf_0_3, ↓mf_0_4, ↓mo_1, ↓mf_1_0, ↓mf_1_1, ↓mo_2, ↓mf_2_0, ↓mo_4, ↓mf_4_0, ↓mo_6, ↓mf_6_0, ↓mf_6_1, ↓mf_6_2, ↓mf_6_3, ↓mp_6_4, ↓mf_6_4, ↓mp_6_5, ↓mf_6_5, ↓mo_7, ↓mf_7_0, ↓mo_9, ↓mf_9_0, ↓mo_11, ↓mf_11_0, ↓mo_13, ↓mf_13_0, ↓mf_13_1, ↓mp_13_2, ↓mf_13_2, ↓mp_13_3, ↓mf_13_3, ↓mo_14, ↓mf_14_0, ↓mp_14_1, ↓mf_14_1, ↓mp_14_2, ↓mf_14_2, ↓mo_15, ↓mf_15_0, ↓mf_15_1, ↓mp_15_2, ↓mf_15_2, ↓mo_16, ↓mf_16_0, ↓mo_18, ↓mf_18_0, ↓ma_3, ↓ms_3, ↓ma_5, ↓ms_5, ↓ma_8, ↓ms_8, ↓ma_10, ↓ms_10, ↓ma_12, ↓ms_12, ↓ma_17, ↓ms_17, ↓ma_19, ↓ms_19, ↓bnd_some, ↓cond_true, ↓m_pv_none, ↓m_pv_some, m_b01_0, m_b01_1, true_and, and_true, ↓y1, q1, ↓reduceIte, eq_self, i_10]
      · have q2 : ¬ w ≤ 10 := fun z => by
          obtain ⟨j, hj, rfl⟩ := nI_of q1
          exact rgx_ne (i := j) hy (by have := (nI_leI (b := 10) hj (by decide)).mp z; omega) (by decide) rfl
        simp only [↓g53_0, ↓g53_1, ↓g53_4, ↓g53_7, ↓g53_8, ↓g53_9, ↓g53_10, ↓g53_13, ↓g53_14, ↓g53_16, ↓g53_19, ↓g53_21, ↓g53_22, ↓g53_23, ↓g53_26, ↓g53_27, ↓g53_30, ↓g53_31, ↓g53_84, ↓g53_85, ↓g53_88, ↓g53_89, ↓g53_92, ↓g53_93, ↓g53_94, ↓g53_97, ↓g53_98, ↓g53_99, ↓g53_102, ↓g53_103, ↓g53_104, ↓g53_107, ↓g53_108, ↓g53_109, ↓g53_112, ↓g53_113, ↓g53_114, ↓g53_117, ↓g53_118, ↓g53_119, ↓g53_122, ↓g53_123, ↓g53_124, ↓g53_127, ↓g53_128, ↓g53_129, ↓g53_132, ↓g53_133, ↓g53_134, ↓g53_137, ↓g53_140, ↓g53_141, ↓g53_142, ↓g53_145, ↓g53_148, ↓g53_149, ↓g53_150, ↓g53_153, ↓g53_154, ↓g53_157, ↓g53_158, ↓g53_159, ↓g53_162, ↓g53_163, ↓g53_166, ↓g53_167, ↓g53_168, ↓g53_171, ↓g53_172, ↓g53_175, ↓g53_176, ↓g53_177, ↓g53_180, ↓g53_181, ↓g53_184, ↓mo_0, ↓mf_0_0, ↓mf_0_1, ↓mf_0_2, ↓mf_0_3, ↓mf_0_4, ↓mo_1, ↓mf_1_0, ↓mf_1_1, ↓mo_2, ↓mf_2_0, ↓mo_4, ↓mf_4_0, ↓mo_6, ↓mf_6_0, ↓mf_6_1, ↓mf_6_2, ↓mf_6_3, ↓mp_6_4, ↓mf_6_4, ↓mp_6_5, ↓mf_6_5, ↓mo_7, ↓mf_7_0, ↓mo_9, ↓mf_9_0, ↓mo_11, ↓mf_11_0, ↓mo_13, ↓mf_13_0, ↓mf_13_1, ↓mp_13_2, ↓mf_13_2, ↓mp_13_3, ↓mf_13_3, ↓mo_14, ↓mf_14_0, ↓mp_14_1, ↓mf_14_1, ↓mp_14_2, ↓mf_14_2, ↓mo_15, ↓mf_15_0, ↓mf_15_1, ↓mp_15_2, ↓mf_15_2, ↓mo_16, ↓mf_16_0, ↓mo_18, ↓mf_18_0, ↓ma_3, ↓ms_3, ↓ma_5, ↓ms_5, ↓ma_8, ↓ms_8, ↓ma_10, ↓ms_10, ↓ma_12, ↓ms_12, ↓ma_17, ↓ms_17, ↓ma_19, ↓ms_19, ↓bnd_some, ↓cond_true, ↓m_pv_none, ↓m_pv_some, m_b01_0, m_b01_1, true_and, and_true, ↓y1, q1, q2, ↓reduceIte, eq_self, i_10]
    | some k =>
      obtain ⟨hk, rfl⟩ := rgx_some hy (by decide)
      obtain ⟨T, nx, h1⟩ := h
      have hl := ho.reg hi
      have e0 : T i = σ.1 i := h1.at hi
      obtain ⟨c1, v1, h2, s1, g1⟩ := q_look (S := S) (t := t) (v := i) (by omega) (by rw [e0]; exact hl.1) h1.1
      have h2c := h1.same h2 (fun _ _ => rfl) s1 (by simp) (by simp) (by simp)
      have a0 := fun K => q_length (S := S) (t := t) h2 (i := i) (by omega) K
      have a1 := fun K => q_ofKind (S := S) (t := t) h2 (i := i) (k := 2) (by omega) (by omega) K (y := 2)
      have a2 := fun K => q_ofKind (S := S) (t := t) h2 (i := i) (k := 3) (by omega) (by omega) K (y := 3)
      have a3 := fun K => q_ofKind (S := S) (t := t) h2 (i := i) (k := 0) (by omega) (by omega) K (y := 0)
      have a4 := fun K => q_ofKind (S := S) (t := t) h2 (i := i) (k := 1) (by omega) (by omega) K (y := 1)
      have a5 := fun K => u_most (S := S) (t := t) v1 (by rw [e0]; exact hl.2) (by rw [e0]; exact hl.1) K
      have a6 := fun K => u_reds (S := S) (t := t) h2 v1 (by rw [e0]; exact hl.1) K
      have a7 := fun K => u_next (S := S) (t := t) h2 v1 (by rw [e0]; exact hl.1) (o := 0) (by decide) K (x := 0)
      have a8 := fun K => u_next (S := S) (t := t) h2 v1 (by rw [e0]; exact hl.1) (o := 1) (by decide) K (x := 1)
      have a9 := fun K => u_next (S := S) (t := t) h2 v1 (by rw [e0]; exact hl.1) (o := 2) (by decide) K (x := 2)
      have a10 := fun K => q_greatest (S := S) (t := t) h2 (i := i) (by omega) K
      rw [e0] at a0 a1 a2 a3 a4 a5 a6 a7 a8 a9 a10
      have q1 : ¬ nI k < 0 := nI_pos (by omega)
      have q2 : nI k ≤ 10 := nI_le (b := 10) (by omega) (by decide)
      have f0 : (nI k = 0) = (k = 0) := propext (nI_eq (b := 0) (by omega) (by decide))
      have f1 : (nI k = 1) = (k = 1) := propext (nI_eq (b := 1) (by omega) (by decide))
      have f2 : (nI k = 2) = (k = 2) := propext (nI_eq (b := 2) (by omega) (by decide))
      have f3 : (nI k = 3) = (k = 3) := propext (nI_eq (b := 3) (by omega) (by decide))
      have f4 : (nI k = 4) = (k = 4) := propext (nI_eq (b := 4) (by omega) (by decide))
      have f5 : (nI k = 5) = (k = 5) := propext (nI_eq (b := 5) (by omega) (by decide))
      have f6 : (nI k = 6) = (k = 6) := propext (nI_eq (b := 6) (by omega) (by decide))
      have f7 : (nI k = 7) = (k = 7) := propext (nI_eq (b := 7) (by omega) (by decide))
      have f8 : (nI k = 8) = (k = 8) := propext (nI_eq (b := 8) (by omega) (by decide))
      have f9 : (nI k = 9) = (k = 9) := propext (nI_eq (b := 9) (by omega) (by decide))
      refine ⟨c1, ⟨_, _, h2c⟩, fun K => ?_⟩
      simp only [↓g53_0, ↓g53_1, ↓g53_4, ↓g53_7, ↓g53_8, ↓g53_9, ↓g53_10, ↓g53_13, ↓g53_14, ↓g53_16, ↓g53_19, ↓g53_21, ↓g53_22, ↓g53_23, ↓g53_26, ↓g53_27, ↓g53_30, ↓g53_31, ↓g53_84, ↓g53_85, ↓g53_88, ↓g53_89, ↓g53_92, ↓g53_93, ↓g53_94, ↓g53_97, ↓g53_98, ↓g53_99, ↓g53_102, ↓g53_103, ↓g53_104, ↓g53_107, ↓g53_108, ↓g53_109, ↓g53_112, ↓g53_113, ↓g53_114, ↓g53_117, ↓g53_118, ↓g53_119, ↓g53_122, ↓g53_123, ↓g53_124, ↓g53_127, ↓g53_128, ↓g53_129, ↓g53_132, ↓g53_133, ↓g53_134, ↓g53_137, ↓g53_140, ↓g53_141, ↓g53_142, ↓g53_145, ↓g53_148, ↓g53_149, ↓g53_150, ↓g53_153, ↓g53_154, ↓g53_157, ↓g53_158, ↓g53_159, ↓g53_162, ↓g53_163, ↓g53_166, ↓g53_167, ↓g53_168, ↓g53_171, ↓g53_172, ↓g53_175, ↓g53_176, ↓g53_177, ↓g53_180, ↓g53_181, ↓g53_184, ↓mo_0, ↓mf_0_0, ↓mf_0_1, ↓mf_0_2, ↓mf_0_3, ↓mf_0_4, ↓mo_1, ↓mf_1_0, ↓mf_1_1, ↓mo_2, ↓mf_2_0, ↓mo_4, ↓mf_4_0, ↓mo_6, ↓mf_6_0, ↓mf_6_1, ↓mf_6_2, ↓mf_6_3, ↓mp_6_4, ↓mf_6_4, ↓mp_6_5, ↓mf_6_5, ↓mo_7, ↓mf_7_0, ↓mo_9, ↓mf_9_0, ↓mo_11, ↓mf_11_0, ↓mo_13, ↓mf_13_0, ↓mf_13_1, ↓mp_13_2, ↓mf_13_2, ↓mp_13_3, ↓mf_13_3, ↓mo_14, ↓mf_14_0, ↓mp_14_1, ↓mf_14_1, ↓mp_14_2, ↓mf_14_2, ↓mo_15, ↓mf_15_0, ↓mf_15_1, ↓mp_15_2, ↓mf_15_2, ↓mo_16, ↓mf_16_0, ↓mo_18, ↓mf_18_0, ↓ma_3, ↓ms_3, ↓ma_5, ↓ms_5, ↓ma_8, ↓ms_8, ↓ma_10, ↓ms_10, ↓ma_12, ↓ms_12, ↓ma_17, ↓ms_17, ↓ma_19, ↓ms_19, ↓bnd_some, ↓cond_true, ↓m_pv_none, ↓m_pv_some, m_b01_0, m_b01_1, true_and, and_true, ↓y1, q1, q2, ↓g1, f0, f1, f2, f3, f4, f5, f6, f7, f8, f9, ↓a0, ↓a1, ↓a2, ↓a3, ↓a4, ↓a5, ↓a6, ↓a7, ↓a8, ↓a9, ↓a10, ↓reduceIte, eq_self, i_10]
      clear q1 q2 f0 f1 f2 f3 f4 f5 f6 f7 f8 f9 hy
      match k, hk with
      | 0, _ => rfl
      | 1, _ => rfl
      | 2, _ => rfl
      | 3, _ => rfl
      | 4, _ => rfl
      | 5, _ => rfl
      | 6, _ => rfl
      | 7, _ => rfl
      | 8, _ => rfl
      | 9, _ => rfl
      | 10, _ => rfl
theorem C_part (h : CI c σ) (ho : SOk σ) (x p w : Int32) : CC S 54 [.ref 0, .int x, .int p, .int w] c t (F_part σ x p w) := by
  unfold F_part
  cases hx : rgx x 6 with
  | none => exact ⟨c, h, fun K => by simp only [↓g54_0, ↓g54_1, ↓g54_4, ↓g54_7, ↓g54_8, ↓g54_11, ↓g54_12, ↓g54_13, ↓g54_16, ↓g54_17, ↓g54_20, ↓g54_23, ↓g54_24, ↓g54_25, ↓g54_26, ↓g54_29, ↓g54_30, ↓g54_31, ↓g54_34, ↓g54_36, ↓g54_37, ↓g54_38, ↓g54_41, ↓g54_42, ↓g54_45, ↓g54_46, ↓g54_76, ↓g54_77, ↓g54_80, ↓g54_81, ↓g54_82, ↓g54_85, ↓g54_86, ↓g54_87, ↓g54_90, ↓g54_91, ↓g54_92, ↓g54_95, ↓g54_96, ↓g54_97, ↓g54_100, ↓g54_101, ↓g54_104, ↓g54_105, ↓g54_106, ↓g54_109, ↓g54_110, ↓g54_113, ↓g54_114, ↓g54_115, ↓g54_118, ↓g54_119, ↓g54_122, ↓mo_0, ↓mf_0_0, ↓mf_0_1, ↓mf_0_2, ↓mf_0_3, ↓mf_0_4, ↓mo_1, ↓mf_1_0, ↓mf_1_1, ↓mo_2, ↓mf_2_0, ↓mo_4, ↓mf_4_0, ↓mo_6, ↓mf_6_0, ↓mf_6_1, ↓mf_6_2, ↓mf_6_3, ↓mp_6_4, ↓mf_6_4, ↓mp_6_5, ↓mf_6_5, ↓mo_7, ↓mf_7_0, ↓mo_9, ↓mf_9_0, ↓mo_11, ↓mf_11_0, ↓mo_13, ↓mf_13_0, ↓mf_13_1, ↓mp_13_2, ↓mf_13_2, ↓mp_13_3, ↓mf_13_3, ↓mo_14, ↓mf_14_0, ↓mp_14_1, ↓mf_14_1, ↓mp_14_2, ↓mf_14_2, ↓mo_15, ↓mf_15_0, ↓mf_15_1, ↓mp_15_2, ↓mf_15_2, ↓mo_16, ↓mf_16_0, ↓mo_18, ↓mf_18_0, ↓ma_3, ↓ms_3, ↓ma_5, ↓ms_5, ↓ma_8, ↓ms_8, ↓ma_10, ↓ms_10, ↓ma_12, ↓ms_12, ↓ma_17, ↓ms_17, ↓ma_19, ↓ms_19, ↓bnd_some, ↓cond_true, ↓m_pv_none, ↓m_pv_some, m_b01_0, m_b01_1, true_and, and_true, ↓n_reg (rgx_no hx), ↓reduceIte, eq_self, i_10]⟩
  | some i =>
    obtain ⟨hi, rfl⟩ := rgx_some hx (by decide)
    have y1 := fun K => y_reg (S := S) (M := mk c t) (inR_nI hi (by decide)) K
    obtain ⟨T, nx, h1⟩ := h
    have hl := ho.reg hi
    have hl2 := hl.2
    have e0 : T i = σ.1 i := h1.at hi
    have b0 := fun K => q_length (S := S) (t := t) h1.1 (i := i) (by omega) K
    rw [e0] at b0
    dsimp only
    cases hp : rgx p (σ.1 i).length with
    | none =>
      refine ⟨c, ⟨_, _, h1⟩, fun K => ?_⟩
      by_cases q1 : p < 0
      · simp only [↓g54_0, ↓g54_1, ↓g54_4, ↓g54_7, ↓g54_8, ↓g54_11, ↓g54_12, ↓g54_13, ↓g54_16, ↓g54_17, ↓g54_20, ↓g54_23, ↓g54_24, ↓g54_25, ↓g54_26, ↓g54_29, ↓g54_30, ↓g54_31, ↓g54_34, ↓g54_36, ↓g54_37, ↓g54_38, ↓g54_41, ↓g54_42, ↓g54_45, ↓g54_46, ↓g54_76, ↓g54_77, ↓g54_80, ↓g54_81, ↓g54_82, ↓g54_85, ↓g54_86, ↓g54_87, ↓g54_90, ↓g54_91, ↓g54_92, ↓g54_95, ↓g54_96, ↓g54_97, ↓g54_100, ↓g54_101, ↓g54_104, ↓g54_105, ↓g54_106, ↓g54_109, ↓g54_110, ↓g54_113, ↓g54_114, ↓g54_115, ↓g54_118, ↓g54_119, ↓g54_122, ↓mo_0, ↓mf_0_0, ↓mf_0_1, ↓mf_0_2, ↓mf_0_3, ↓mf_0_4, ↓mo_1, ↓mf_1_0, ↓mf_1_1, ↓mo_2, ↓mf_2_0, ↓mo_4, ↓mf_4_0, ↓mo_6, ↓mf_6_0, ↓mf_6_1, ↓mf_6_2, ↓mf_6_3, ↓mp_6_4, ↓mf_6_4, ↓mp_6_5, ↓mf_6_5, ↓mo_7, ↓mf_7_0, ↓mo_9, ↓mf_9_0, ↓mo_11, ↓mf_11_0, ↓mo_13, ↓mf_13_0, ↓mf_13_1, ↓mp_13_2, ↓mf_13_2, ↓mp_13_3, ↓mf_13_3, ↓mo_14, ↓mf_14_0, ↓mp_14_1, ↓mf_14_1, ↓mp_14_2, ↓mf_14_2, ↓mo_15, ↓mf_15_0, ↓mf_15_1, ↓mp_15_2, ↓mf_15_2, ↓mo_16, ↓mf_16_0, ↓mo_18, ↓mf_18_0, ↓ma_3, ↓ms_3, ↓ma_5, ↓ms_5, ↓ma_8, ↓ms_8, ↓ma_10, ↓ms_10, ↓ma_12, ↓ms_12, ↓ma_17, ↓ms_17, ↓ma_19, ↓ms_19, ↓bnd_some, ↓cond_true, ↓m_pv_none, ↓m_pv_some, m_b01_0, m_b01_1, true_and, and_true, ↓y1, q1, ↓reduceIte, eq_self, i_10]
      · have q2 : ¬ p < nI (σ.1 i).length := fun z => rgx_no hp ⟨Int32.not_lt.mp q1, z⟩
        simp only [↓g54_0, ↓g54_1, ↓g54_4, ↓g54_7, ↓g54_8, ↓g54_11, ↓g54_12, ↓g54_13, ↓g54_16, ↓g54_17, ↓g54_20, ↓g54_23, ↓g54_24, ↓g54_25, ↓g54_26, ↓g54_29, ↓g54_30, ↓g54_31, ↓g54_34, ↓g54_36, ↓g54_37, ↓g54_38, ↓g54_41, ↓g54_42, ↓g54_45, ↓g54_46, ↓g54_76, ↓g54_77, ↓g54_80, ↓g54_81, ↓g54_82, ↓g54_85, ↓g54_86, ↓g54_87, ↓g54_90, ↓g54_91, ↓g54_92, ↓g54_95, ↓g54_96, ↓g54_97, ↓g54_100, ↓g54_101, ↓g54_104, ↓g54_105, ↓g54_106, ↓g54_109, ↓g54_110, ↓g54_113, ↓g54_114, ↓g54_115, ↓g54_118, ↓g54_119, ↓g54_122, ↓mo_0, ↓mf_0_0, ↓mf_0_1, ↓mf_0_2, ↓mf_0_3, ↓mf_0_4, ↓mo_1, ↓mf_1_0, ↓mf_1_1, ↓mo_2, ↓mf_2_0, ↓mo_4, ↓mf_4_0, ↓mo_6, ↓mf_6_0, ↓mf_6_1, ↓mf_6_2, ↓mf_6_3, ↓mp_6_4, ↓mf_6_4, ↓mp_6_5, ↓mf_6_5, ↓mo_7, ↓mf_7_0, ↓mo_9, ↓mf_9_0, ↓mo_11, ↓mf_11_0, ↓mo_13, ↓mf_13_0, ↓mf_13_1, ↓mp_13_2, ↓mf_13_2, ↓mp_13_3, ↓mf_13_3, ↓mo_14, ↓mf_14_0, ↓mp_14_1, ↓mf_14_1, ↓mp_14_2, ↓mf_14_2, ↓mo_15, ↓mf_15_0, ↓mf_15_1, ↓mp_15_2, ↓mf_15_2, ↓mo_16, ↓mf_16_0, ↓mo_18, ↓mf_18_0, ↓ma_3, ↓ms_3, ↓ma_5, ↓ms_5, ↓ma_8, ↓ms_8, ↓ma_10, ↓ms_10, ↓ma_12, ↓ms_12, ↓ma_17, ↓ms_17, ↓ma_19, ↓ms_19, ↓bnd_some, ↓cond_true, ↓m_pv_none, ↓m_pv_some, m_b01_0, m_b01_1, true_and, and_true, ↓y1, q1, ↓b0, q2, ↓reduceIte, eq_self, i_10]
    | some p =>
      obtain ⟨hpl, rfl⟩ := rgx_some hp (by omega)
      have p1 : ¬ nI p < 0 := nI_pos (by omega)
      have p2 : nI p < nI (σ.1 i).length := nI_lt hpl (by omega)
      cases hy : rgx w 5 with
      | none =>
        refine ⟨c, ⟨_, _, h1⟩, fun K => ?_⟩
        by_cases q1 : w < 0
        · simp only [↓g54_0, ↓g54_1, ↓g54_4, ↓g54_7, ↓g54_8, ↓g54_11, ↓g54_12, ↓g54_13, ↓g54_16, ↓g54_17, ↓g54_20, ↓g54_23, ↓g54_24, ↓g54_25, ↓g54_26, ↓g54_29, ↓g54_30, ↓g54_31, ↓g54_34, ↓g54_36, ↓g54_37, ↓g54_38, ↓g54_41, ↓g54_42, ↓g54_45, ↓g54_46, ↓g54_76, ↓g54_77, ↓g54_80, ↓g54_81, ↓g54_82, ↓g54_85, ↓g54_86, ↓g54_87, ↓g54_90, ↓g54_91, ↓g54_92, ↓g54_95, ↓g54_96, ↓g54_97, ↓g54_100, ↓g54_101, ↓g54_104, ↓g54_105, ↓g54_106, ↓g54_109, ↓g54_110, ↓g54_113, ↓g54_114, ↓g54_115, ↓g54_118, ↓g54_119, ↓g54_122, ↓mo_0, ↓mf_0_0, ↓mf_0_1, ↓mf_0_2, ↓mf_0_3, ↓mf_0_4, ↓mo_1, ↓mf_1_0, ↓mf_1_1, ↓mo_2, ↓mf_2_0, ↓mo_4, ↓mf_4_0, ↓mo_6, ↓mf_6_0, ↓mf_6_1, ↓mf_6_2, ↓mf_6_3, ↓mp_6_4, ↓mf_6_4, ↓mp_6_5, ↓mf_6_5, ↓mo_7, ↓mf_7_0, ↓mo_9, ↓mf_9_0, ↓mo_11, ↓mf_11_0, ↓mo_13, ↓mf_13_0, ↓mf_13_1, ↓mp_13_2, ↓mf_13_2, ↓mp_13_3, ↓mf_13_3, ↓mo_14, ↓mf_14_0, ↓mp_14_1, ↓mf_14_1, ↓mp_14_2, ↓mf_14_2, ↓mo_15, ↓mf_15_0, ↓mf_15_1, ↓mp_15_2, ↓mf_15_2, ↓mo_16, ↓mf_16_0, ↓mo_18, ↓mf_18_0, ↓ma_3, ↓ms_3, ↓ma_5, ↓ms_5, ↓ma_8, ↓ms_8, ↓ma_10, ↓ms_10, ↓ma_12, ↓ms_12, ↓ma_17, ↓ms_17, ↓ma_19, ↓ms_19, ↓bnd_some, ↓cond_true, ↓m_pv_none, ↓m_pv_some, m_b01_0, m_b01_1, true_and, and_true, ↓y1, p1, p2, ↓b0, q1, ↓reduceIte, eq_self, i_10]
        · have q2 : ¬ w ≤ 4 := fun z => by
            obtain ⟨j, hj, rfl⟩ := nI_of q1
            exact rgx_ne (i := j) hy (by have := (nI_leI (b := 4) hj (by decide)).mp z; omega) (by decide) rfl
          simp only [↓g54_0, ↓g54_1, ↓g54_4, ↓g54_7, ↓g54_8, ↓g54_11, ↓g54_12, ↓g54_13, ↓g54_16, ↓g54_17, ↓g54_20, ↓g54_23, ↓g54_24, ↓g54_25, ↓g54_26, ↓g54_29, ↓g54_30, ↓g54_31, ↓g54_34, ↓g54_36, ↓g54_37, ↓g54_38, ↓g54_41, ↓g54_42, ↓g54_45, ↓g54_46, ↓g54_76, ↓g54_77, ↓g54_80, ↓g54_81, ↓g54_82, ↓g54_85, ↓g54_86, ↓g54_87, ↓g54_90, ↓g54_91, ↓g54_92, ↓g54_95, ↓g54_96, ↓g54_97, ↓g54_100, ↓g54_101, ↓g54_104, ↓g54_105, ↓g54_106, ↓g54_109, ↓g54_110, ↓g54_113, ↓g54_114, ↓g54_115, ↓g54_118, ↓g54_119, ↓g54_122, ↓mo_0, ↓mf_0_0, ↓mf_0_1, ↓mf_0_2, ↓mf_0_3, ↓mf_0_4, ↓mo_1, ↓mf_1_0, ↓mf_1_1, ↓mo_2, ↓mf_2_0, ↓mo_4, ↓mf_4_0, ↓mo_6, ↓mf_6_0, ↓mf_6_1, ↓mf_6_2, ↓mf_6_3, ↓mp_6_4, ↓mf_6_4, ↓mp_6_5, ↓mf_6_5, ↓mo_7, ↓mf_7_0, ↓mo_9, ↓mf_9_0, ↓mo_11, ↓mf_11_0, ↓mo_13, ↓mf_13_0, ↓mf_13_1, ↓mp_13_2, ↓mf_13_2, ↓mp_13_3, ↓mf_13_3, ↓mo_14, ↓mf_14_0, ↓mp_14_1, ↓mf_14_1, ↓mp_14_2, ↓mf_14_2, ↓mo_15, ↓mf_15_0, ↓mf_15_1, ↓mp_15_2, ↓mf_15_2, ↓mo_16, ↓mf_16_0, ↓mo_18, ↓mf_18_0, ↓ma_3, ↓ms_3, ↓ma_5, ↓ms_5, ↓ma_8, ↓ms_8, ↓ma_10, ↓ms_10, ↓ma_12, ↓ms_12, ↓ma_17, ↓ms_17, ↓ma_19, ↓ms_19, ↓bnd_some, ↓cond_true, ↓m_pv_none, ↓m_pv_some, m_b01_0, m_b01_1, true_and, and_true, ↓y1, p1, p2, ↓b0, q1, q2, ↓reduceIte, eq_self, i_10]
      | some k =>
        obtain ⟨hk, rfl⟩ := rgx_some hy (by decide)
        obtain ⟨c1, v1, h2, s1, g1⟩ := q_look (S := S) (t := t) (v := i) (by omega) (by rw [e0]; exact hl.1) h1.1
        have h2c := h1.same h2 (fun _ _ => rfl) s1 (by simp) (by simp) (by simp)
        have a0 := fun K => q_kind (S := S) (t := t) h2 (i := i) (p := p) (by omega) (by rw [e0]; exact hpl) K
        have a1 := fun K => q_number (S := S) (t := t) h2 (i := i) (p := p) (by omega) (by rw [e0]; exact hpl) K
        have a2 := v1.around (by rw [e0]; exact hl.2) (i := p) (by rw [e0]; exact hpl)
        have a3 := v1.behind (by rw [e0]; exact hl.2) (i := p) (by rw [e0]; exact hpl)
        have a4 := fun K => u_binder (S := S) (t := t) h2 v1 (by rw [e0]; exact hl.1) (p := p) (by rw [e0]; exact hpl) K
        rw [e0] at a0 a1 a2 a3 a4
        have q1 : ¬ nI k < 0 := nI_pos (by omega)
        have q2 : nI k ≤ 4 := nI_le (b := 4) (by omega) (by decide)
        have f0 : (nI k = 0) = (k = 0) := propext (nI_eq (b := 0) (by omega) (by decide))
        have f1 : (nI k = 1) = (k = 1) := propext (nI_eq (b := 1) (by omega) (by decide))
        have f2 : (nI k = 2) = (k = 2) := propext (nI_eq (b := 2) (by omega) (by decide))
        have f3 : (nI k = 3) = (k = 3) := propext (nI_eq (b := 3) (by omega) (by decide))
        refine ⟨c1, ⟨_, _, h2c⟩, fun K => ?_⟩
        simp only [↓g54_0, ↓g54_1, ↓g54_4, ↓g54_7, ↓g54_8, ↓g54_11, ↓g54_12, ↓g54_13, ↓g54_16, ↓g54_17, ↓g54_20, ↓g54_23, ↓g54_24, ↓g54_25, ↓g54_26, ↓g54_29, ↓g54_30, ↓g54_31, ↓g54_34, ↓g54_36, ↓g54_37, ↓g54_38, ↓g54_41, ↓g54_42, ↓g54_45, ↓g54_46, ↓g54_76, ↓g54_77, ↓g54_80, ↓g54_81, ↓g54_82, ↓g54_85, ↓g54_86, ↓g54_87, ↓g54_90, ↓g54_91, ↓g54_92, ↓g54_95, ↓g54_96, ↓g54_97, ↓g54_100, ↓g54_101, ↓g54_104, ↓g54_105, ↓g54_106, ↓g54_109, ↓g54_110, ↓g54_113, ↓g54_114, ↓g54_115, ↓g54_118, ↓g54_119, ↓g54_122, ↓mo_0, ↓mf_0_0, ↓mf_0_1, ↓mf_0_2, ↓mf_0_3, ↓mf_0_4, ↓mo_1, ↓mf_1_0, ↓mf_1_1, ↓mo_2, ↓mf_2_0, ↓mo_4, ↓mf_4_0, ↓mo_6, ↓mf_6_0, ↓mf_6_1, ↓mf_6_2, ↓mf_6_3, ↓mp_6_4, ↓mf_6_4, ↓mp_6_5, ↓mf_6_5, ↓mo_7, ↓mf_7_0, ↓mo_9, ↓mf_9_0, ↓mo_11, ↓mf_11_0, ↓mo_13, ↓mf_13_0, ↓mf_13_1, ↓mp_13_2, ↓mf_13_2, ↓mp_13_3, ↓mf_13_3, ↓mo_14, ↓mf_14_0, ↓mp_14_1, ↓mf_14_1, ↓mp_14_2, ↓mf_14_2, ↓mo_15, ↓mf_15_0, ↓mf_15_1, ↓mp_15_2, ↓mf_15_2, ↓mo_16, ↓mf_16_0, ↓mo_18, ↓mf_18_0, ↓ma_3, ↓ms_3, ↓ma_5, ↓ms_5, ↓ma_8, ↓ms_8, ↓ma_10, ↓ms_10, ↓ma_12, ↓ms_12, ↓ma_17, ↓ms_17, ↓ma_19, ↓ms_19, ↓bnd_some, ↓cond_true, ↓m_pv_none, ↓m_pv_some, m_b01_0, m_b01_1, true_and, and_true, ↓y1, p1, p2, ↓b0, q1, q2, ↓g1, f0, f1, f2, f3, ↓a0, ↓a1, ↓u_around, ↓u_behind, a2, a3, ↓a4, ↓reduceIte, eq_self, i_10]
        clear q1 q2 f0 f1 f2 f3 hy
        match k, hk with
        | 0, _ => rfl
        | 1, _ => rfl
        | 2, _ => rfl
        | 3, _ => rfl
        | 4, _ => rfl
theorem C_named (h : CI c σ) (ho : SOk σ) (x p : Int32) : CC S 55 [.ref 0, .int x, .int p] c t (F_named σ x p) := by
  unfold F_named
  cases hx : rgx x 6 with
  | none => exact ⟨c, h, fun K => by simp only [↓g55_0, ↓g55_1, ↓g55_4, ↓g55_7, ↓g55_8, ↓g55_9, ↓g55_10, ↓g55_13, ↓g55_14, ↓g55_17, ↓g55_18, ↓g55_21, ↓g55_22, ↓g55_25, ↓mo_0, ↓mf_0_0, ↓mf_0_1, ↓mf_0_2, ↓mf_0_3, ↓mf_0_4, ↓mo_1, ↓mf_1_0, ↓mf_1_1, ↓mo_2, ↓mf_2_0, ↓mo_4, ↓mf_4_0, ↓mo_6, ↓mf_6_0, ↓mf_6_1, ↓mf_6_2, ↓mf_6_3, ↓mp_6_4, ↓mf_6_4, ↓mp_6_5, ↓mf_6_5, ↓mo_7, ↓mf_7_0, ↓mo_9, ↓mf_9_0, ↓mo_11, ↓mf_11_0, ↓mo_13, ↓mf_13_0, ↓mf_13_1, ↓mp_13_2, ↓mf_13_2, ↓mp_13_3, ↓mf_13_3, ↓mo_14, ↓mf_14_0, ↓mp_14_1, ↓mf_14_1, ↓mp_14_2, ↓mf_14_2, ↓mo_15, ↓mf_15_0, ↓mf_15_1, ↓mp_15_2, ↓mf_15_2, ↓mo_16, ↓mf_16_0, ↓mo_18, ↓mf_18_0, ↓ma_3, ↓ms_3, ↓ma_5, ↓ms_5, ↓ma_8, ↓ms_8, ↓ma_10, ↓ms_10, ↓ma_12, ↓ms_12, ↓ma_17, ↓ms_17, ↓ma_19, ↓ms_19, ↓bnd_some, ↓cond_true, ↓m_pv_none, ↓m_pv_some, m_b01_0, m_b01_1, true_and, and_true, ↓n_reg (rgx_no hx), ↓reduceIte, eq_self, i_10]⟩
  | some i =>
    obtain ⟨hi, rfl⟩ := rgx_some hx (by decide)
    have y1 := fun K => y_reg (S := S) (M := mk c t) (inR_nI hi (by decide)) K
    obtain ⟨T, nx, h1⟩ := h
    have hl := ho.reg hi
    have e0 : T i = σ.1 i := h1.at hi
    obtain ⟨c1, v1, h2, s1, g1⟩ := q_look (S := S) (t := t) (v := i) (by omega) (by rw [e0]; exact hl.1) h1.1
    have h2c := h1.same h2 (fun _ _ => rfl) s1 (by simp) (by simp) (by simp)
    have a0 := fun K => u_printed (S := S) (t := t) h2 v1 (by rw [e0]; exact hl.1) p K
    rw [e0] at a0
    refine ⟨c1, ⟨_, _, h2c⟩, fun K => ?_⟩
    simp only [↓g55_0, ↓g55_1, ↓g55_4, ↓g55_7, ↓g55_8, ↓g55_9, ↓g55_10, ↓g55_13, ↓g55_14, ↓g55_17, ↓g55_18, ↓g55_21, ↓g55_22, ↓g55_25, ↓mo_0, ↓mf_0_0, ↓mf_0_1, ↓mf_0_2, ↓mf_0_3, ↓mf_0_4, ↓mo_1, ↓mf_1_0, ↓mf_1_1, ↓mo_2, ↓mf_2_0, ↓mo_4, ↓mf_4_0, ↓mo_6, ↓mf_6_0, ↓mf_6_1, ↓mf_6_2, ↓mf_6_3, ↓mp_6_4, ↓mf_6_4, ↓mp_6_5, ↓mf_6_5, ↓mo_7, ↓mf_7_0, ↓mo_9, ↓mf_9_0, ↓mo_11, ↓mf_11_0, ↓mo_13, ↓mf_13_0, ↓mf_13_1, ↓mp_13_2, ↓mf_13_2, ↓mp_13_3, ↓mf_13_3, ↓mo_14, ↓mf_14_0, ↓mp_14_1, ↓mf_14_1, ↓mp_14_2, ↓mf_14_2, ↓mo_15, ↓mf_15_0, ↓mf_15_1, ↓mp_15_2, ↓mf_15_2, ↓mo_16, ↓mf_16_0, ↓mo_18, ↓mf_18_0, ↓ma_3, ↓ms_3, ↓ma_5, ↓ms_5, ↓ma_8, ↓ms_8, ↓ma_10, ↓ms_10, ↓ma_12, ↓ms_12, ↓ma_17, ↓ms_17, ↓ma_19, ↓ms_19, ↓bnd_some, ↓cond_true, ↓m_pv_none, ↓m_pv_some, m_b01_0, m_b01_1, true_and, and_true, ↓y1, ↓g1, ↓a0, ↓reduceIte, eq_self, i_10]
end CALLS2

