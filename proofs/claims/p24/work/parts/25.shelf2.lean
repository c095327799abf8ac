/-! Shelf: stretches, copies, questions -/
theorem nI_gt0 {n : Nat} (h0 : 0 < n) (h : n < 2 ^ 31) : ¬ nI n ≤ 0 := nI_nle h0 h
theorem l_6 : (6 : Int32) = nI 6 := rfl
theorem l_0 : (0 : Int32) = nI 0 := rfl
theorem pt_drop (l : Tm) (a p : Nat) : pt (l.drop a) p = pt l (a + p) := by
  unfold pt
  simp [List.getD_eq_getElem?_getD, List.getElem?_drop]
theorem pt_take {l : Tm} {a p : Nat} (h : p < a) : pt (l.take a) p = pt l p := by
  unfold pt
  simp [List.getD_eq_getElem?_getD, List.getElem?_take, h]
/-- a stretch of a term -/
def seg (l : Tm) (a b : Nat) : Tm := (l.drop a).take (b - a)
theorem seg_len {l : Tm} {a b : Nat} (hb : b ≤ l.length) : (seg l a b).length = b - a := by
  unfold seg
  rw [List.length_take, List.length_drop]
  omega
theorem pt_seg {l : Tm} {a b p : Nat} (h : p < b - a) : pt (seg l a b) p = pt l (a + p) := by
  unfold seg
  rw [pt_take h, pt_drop]
theorem CS.tu_same {c : Nat → Nat → Int32} {T : Nat → Tm} {i : Nat} {l : Tm} (h : CS c T) (e : l = T i) : CS c (tu T i l) := by
  intro j hj
  by_cases ej : j = i
  · subst ej
    rw [tu_eq, e]
    exact h j hj
  · rw [tu_ne ej]
    exact h j hj
section SHELF3
variable {S : mS} {c : Nat → Nat → Int32} {t : mM} {T : Nat → Tm}
theorem q_appendParts (h : CS c T) {i j a b : Nat} (hi : i < 57) (hj : j < 57) (hij : i ≠ j) (hab : a ≤ b) (hb : b ≤ (T j).length) (hl : (T i).length + (b - a) ≤ 200) {x y z w : Int32} (hx : x = nI i := by rfl) (hy : y = nI j := by rfl) (hz : z = nI a := by rfl) (hw : w = nI b := by rfl) : CH S 27 [.ref 1, .int x, .int y, .int z, .int w, .null, .null] none [3, 5] c t (tu T i (T i ++ seg (T j) a b)) := by
  subst hx; subst hy; subst hz; subst hw
  have hjl := (h j hj).1
  have h4 : nI b - nI a = nI (b - a) := pk_sub hab
  by_cases h0 : a = b
  · subst h0
    refine ⟨c, h.tu_same ?_, sx_rf, fun K => ?_⟩
    · unfold seg
      rw [Nat.sub_self, List.take_zero, List.append_nil]
    · have h5 : nI (a - a) ≤ 0 := by rw [Nat.sub_self]; exact Int32.le_refl 0
      simp only [↓g27_0, ↓g27_1, ↓g27_4, ↓g27_5, ↓g27_8, ↓g27_10, ↓g27_12, ↓g27_13, ↓g27_14, ↓g27_16, ↓g27_18, ↓g27_21, ↓g27_23, ↓g27_25, ↓g27_26, ↓g27_29, ↓g27_32, ↓g27_33, ↓g27_36, ↓g27_37, ↓g27_40, ↓g27_41, ↓g27_42, ↓g27_43, ↓g27_44, ↓g27_47, ↓g27_48, ↓g27_50, ↓g27_51, ↓g27_53, ↓g27_56, ↓g27_57, ↓g27_60, ↓g27_61, ↓g27_63, ↓g27_65, ↓g27_66, ↓g27_69, ↓mo_0, ↓mf_0_0, ↓mf_0_1, ↓mf_0_2, ↓mf_0_3, ↓mf_0_4, ↓mo_1, ↓mf_1_0, ↓mf_1_1, ↓mo_2, ↓mf_2_0, ↓mo_4, ↓mf_4_0, ↓mo_6, ↓mf_6_0, ↓mf_6_1, ↓mf_6_2, ↓mf_6_3, ↓mp_6_4, ↓mf_6_4, ↓mp_6_5, ↓mf_6_5, ↓mo_7, ↓mf_7_0, ↓mo_9, ↓mf_9_0, ↓mo_11, ↓mf_11_0, ↓mo_13, ↓mf_13_0, ↓mf_13_1, ↓mp_13_2, ↓mf_13_2, ↓mp_13_3, ↓mf_13_3, ↓mo_14, ↓mf_14_0, ↓mp_14_1, ↓mf_14_1, ↓mp_14_2, ↓mf_14_2, ↓mo_15, ↓mf_15_0, ↓mf_15_1, ↓mp_15_2, ↓mf_15_2, ↓mo_16, ↓mf_16_0, ↓mo_18, ↓mf_18_0, ↓ma_3, ↓ms_3, ↓ma_5, ↓ms_5, ↓ma_8, ↓ms_8, ↓ma_10, ↓ms_10, ↓ma_12, ↓ms_12, ↓ma_17, ↓ms_17, ↓ma_19, ↓ms_19, ↓bnd_some, ↓cond_true, ↓m_pv_none, ↓m_pv_some, m_b01_0, m_b01_1, true_and, and_true, ↓r_get_2, ↓r_get_4, ↓r_get_7, ↓r_get_9, ↓r_get_11, ↓r_get_16, ↓r_get_18, ↓r_set_2, ↓r_set_4, ↓r_set_7, ↓r_set_9, ↓r_set_11, ↓r_set_16, ↓r_set_18, h4, h5, if_true]
  · refine ⟨ca (ca c 5 (va_cpy (c 5) (c 5) (200 * j + a) (200 * i + (T i).length) (b - a))) 3 (upd (c 3) i (nI ((T i).length + (b - a)))), ?_, sx_tr (sx_ca (by simp)) (sx_ca (by simp)), fun K => ?_⟩
    · intro k hk
      by_cases e : k = i
      · subst e
        rw [tu_eq]
        refine ⟨by rw [List.length_append, seg_len hb]; omega, ?_, fun p hp => ?_⟩
        · rw [ca_eq, upd_eq, List.length_append, seg_len hb]
        · rw [ca_ne (by decide), ca_eq]
          unfold kd nu
          rw [pt_app]
          rw [List.length_append, seg_len hb] at hp
          by_cases h1 : p < (T k).length
          · rw [if_pos h1]
            unfold va_cpy
            rw [if_neg (by omega)]
            exact (h k hk).2.2 p h1
          · rw [if_neg h1, pt_seg (by omega)]
            unfold va_cpy
            rw [if_pos (by omega), show 200 * j + a + (200 * k + p - (200 * k + (T k).length)) = 200 * j + (a + (p - (T k).length)) by omega]
            exact (h j hj).2.2 _ (by omega)
      · rw [tu_ne e]
        have hk1 := (h k hk).1
        refine ⟨hk1, ?_, fun p hp => ?_⟩
        · rw [ca_eq, upd_ne e]
          exact (h k hk).2.1
        · rw [ca_ne (by decide), ca_eq]
          unfold va_cpy
          rw [if_neg (by omega)]
          exact (h k hk).2.2 p hp
    · have h5 : ¬ nI (b - a) ≤ 0 := nI_nle (by omega) (by omega)
      have h6 : nI (T i).length + nI (b - a) = nI ((T i).length + (b - a)) := nI_add _ _
      have h7 : ¬ 200 < nI ((T i).length + (b - a)) := nI_nlt (a := 200) (b := (T i).length + (b - a)) (by omega) (by decide)
      have h8 : nI j * 200 + nI a = nI (200 * j + a) := by rw [l_200, pk_mul, nI_add, Nat.mul_comm]
      have h9 : nI i * 200 + nI (T i).length = nI (200 * i + (T i).length) := by rw [l_200, pk_mul, nI_add, Nat.mul_comm]
      simp only [↓g27_0, ↓g27_1, ↓g27_4, ↓g27_5, ↓g27_8, ↓g27_10, ↓g27_12, ↓g27_13, ↓g27_14, ↓g27_16, ↓g27_18, ↓g27_21, ↓g27_23, ↓g27_25, ↓g27_26, ↓g27_29, ↓g27_32, ↓g27_33, ↓g27_36, ↓g27_37, ↓g27_40, ↓g27_41, ↓g27_42, ↓g27_43, ↓g27_44, ↓g27_47, ↓g27_48, ↓g27_50, ↓g27_51, ↓g27_53, ↓g27_56, ↓g27_57, ↓g27_60, ↓g27_61, ↓g27_63, ↓g27_65, ↓g27_66, ↓g27_69, ↓mo_0, ↓mf_0_0, ↓mf_0_1, ↓mf_0_2, ↓mf_0_3, ↓mf_0_4, ↓mo_1, ↓mf_1_0, ↓mf_1_1, ↓mo_2, ↓mf_2_0, ↓mo_4, ↓mf_4_0, ↓mo_6, ↓mf_6_0, ↓mf_6_1, ↓mf_6_2, ↓mf_6_3, ↓mp_6_4, ↓mf_6_4, ↓mp_6_5, ↓mf_6_5, ↓mo_7, ↓mf_7_0, ↓mo_9, ↓mf_9_0, ↓mo_11, ↓mf_11_0, ↓mo_13, ↓mf_13_0, ↓mf_13_1, ↓mp_13_2, ↓mf_13_2, ↓mp_13_3, ↓mf_13_3, ↓mo_14, ↓mf_14_0, ↓mp_14_1, ↓mf_14_1, ↓mp_14_2, ↓mf_14_2, ↓mo_15, ↓mf_15_0, ↓mf_15_1, ↓mp_15_2, ↓mf_15_2, ↓mo_16, ↓mf_16_0, ↓mo_18, ↓mf_18_0, ↓ma_3, ↓ms_3, ↓ma_5, ↓ms_5, ↓ma_8, ↓ms_8, ↓ma_10, ↓ms_10, ↓ma_12, ↓ms_12, ↓ma_17, ↓ms_17, ↓ma_19, ↓ms_19, ↓bnd_some, ↓cond_true, ↓m_pv_none, ↓m_pv_some, m_b01_0, m_b01_1, true_and, and_true, ↓r_get_2, ↓r_get_4, ↓r_get_7, ↓r_get_9, ↓r_get_11, ↓r_get_16, ↓r_get_18, ↓r_set_2, ↓r_set_4, ↓r_set_7, ↓r_set_9, ↓r_set_11, ↓r_set_16, ↓r_set_18, (h i hi).len hi, h4, h5, h6, h7, if_false, h8, h9]
      rw [r_move_4 _ _ (by omega) (by omega) (by omega)]
      simp only [↓g27_0, ↓g27_1, ↓g27_4, ↓g27_5, ↓g27_8, ↓g27_10, ↓g27_12, ↓g27_13, ↓g27_14, ↓g27_16, ↓g27_18, ↓g27_21, ↓g27_23, ↓g27_25, ↓g27_26, ↓g27_29, ↓g27_32, ↓g27_33, ↓g27_36, ↓g27_37, ↓g27_40, ↓g27_41, ↓g27_42, ↓g27_43, ↓g27_44, ↓g27_47, ↓g27_48, ↓g27_50, ↓g27_51, ↓g27_53, ↓g27_56, ↓g27_57, ↓g27_60, ↓g27_61, ↓g27_63, ↓g27_65, ↓g27_66, ↓g27_69, ↓mo_0, ↓mf_0_0, ↓mf_0_1, ↓mf_0_2, ↓mf_0_3, ↓mf_0_4, ↓mo_1, ↓mf_1_0, ↓mf_1_1, ↓mo_2, ↓mf_2_0, ↓mo_4, ↓mf_4_0, ↓mo_6, ↓mf_6_0, ↓mf_6_1, ↓mf_6_2, ↓mf_6_3, ↓mp_6_4, ↓mf_6_4, ↓mp_6_5, ↓mf_6_5, ↓mo_7, ↓mf_7_0, ↓mo_9, ↓mf_9_0, ↓mo_11, ↓mf_11_0, ↓mo_13, ↓mf_13_0, ↓mf_13_1, ↓mp_13_2, ↓mf_13_2, ↓mp_13_3, ↓mf_13_3, ↓mo_14, ↓mf_14_0, ↓mp_14_1, ↓mf_14_1, ↓mp_14_2, ↓mf_14_2, ↓mo_15, ↓mf_15_0, ↓mf_15_1, ↓mp_15_2, ↓mf_15_2, ↓mo_16, ↓mf_16_0, ↓mo_18, ↓mf_18_0, ↓ma_3, ↓ms_3, ↓ma_5, ↓ms_5, ↓ma_8, ↓ms_8, ↓ma_10, ↓ms_10, ↓ma_12, ↓ms_12, ↓ma_17, ↓ms_17, ↓ma_19, ↓ms_19, ↓bnd_some, ↓cond_true, ↓m_pv_none, ↓m_pv_some, m_b01_0, m_b01_1, true_and, and_true, ↓r_get_2, ↓r_get_4, ↓r_get_7, ↓r_get_9, ↓r_get_11, ↓r_get_16, ↓r_get_18, ↓r_set_2, ↓r_set_4, ↓r_set_7, ↓r_set_9, ↓r_set_11, ↓r_set_16, ↓r_set_18, rs_in hi (by decide : 57 < 2 ^ 31)]
      rw [ca_ne (by decide)]
end SHELF3

