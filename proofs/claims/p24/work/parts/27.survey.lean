/-! Survey: what can be seen of one term -/
def nbI (o : Option Nat) : Int32 := match o with
  | none => -6
  | some x => nI x
/-- the ends stand in the row -/
def EV (c : Nat → Nat → Int32) (l : Tm) : Prop := ∀ p, p < l.length → c 8 p = nI (en l p)
/-- the survey sees the term v, which is l -/
def SV (c : Nat → Nat → Int32) (v : Nat) (l : Tm) : Prop := v < 57 ∧ c 6 4 = nI v ∧ c 6 5 = nI l.length ∧ EV c l ∧ ∀ p, p < l.length → c 10 p = nI (dep l p) ∧ c 12 p = nbI (nb l p)
theorem l_1 : (1 : Int32) = nI 1 := rfl
theorem l_2 : (2 : Int32) = nI 2 := rfl
theorem l_3 : (3 : Int32) = nI 3 := rfl
section SURV
variable {S : mS} {K : Option Value → mM → Prop} (c : Nat → Nat → Int32) (t : mM)
theorem u_behind (i : Int32) : go S 35 0 [.ref 6, .int i] [] (mk c t) K = K (some (.int (rg 200 (c 8) i))) (mk c t) := by
  simp only [↓g35_0, ↓g35_1, ↓g35_4, ↓g35_5, ↓g35_8, ↓mo_0, ↓mf_0_0, ↓mf_0_1, ↓mf_0_2, ↓mf_0_3, ↓mf_0_4, ↓mo_1, ↓mf_1_0, ↓mf_1_1, ↓mo_2, ↓mf_2_0, ↓mo_4, ↓mf_4_0, ↓mo_6, ↓mf_6_0, ↓mf_6_1, ↓mf_6_2, ↓mf_6_3, ↓mp_6_4, ↓mf_6_4, ↓mp_6_5, ↓mf_6_5, ↓mo_7, ↓mf_7_0, ↓mo_9, ↓mf_9_0, ↓mo_11, ↓mf_11_0, ↓mo_13, ↓mf_13_0, ↓mf_13_1, ↓mp_13_2, ↓mf_13_2, ↓mp_13_3, ↓mf_13_3, ↓mo_14, ↓mf_14_0, ↓mp_14_1, ↓mf_14_1, ↓mp_14_2, ↓mf_14_2, ↓mo_15, ↓mf_15_0, ↓mf_15_1, ↓mp_15_2, ↓mf_15_2, ↓mo_16, ↓mf_16_0, ↓mo_18, ↓mf_18_0, ↓ma_3, ↓ms_3, ↓ma_5, ↓ms_5, ↓ma_8, ↓ms_8, ↓ma_10, ↓ms_10, ↓ma_12, ↓ms_12, ↓ma_17, ↓ms_17, ↓ma_19, ↓ms_19, ↓bnd_some, ↓cond_true, ↓m_pv_none, ↓m_pv_some, m_b01_0, m_b01_1, true_and, and_true, ↓r_get_2, ↓r_get_4, ↓r_get_7, ↓r_get_9, ↓r_get_11, ↓r_get_16, ↓r_get_18, ↓r_set_2, ↓r_set_4, ↓r_set_7, ↓r_set_9, ↓r_set_11, ↓r_set_16, ↓r_set_18]
theorem u_around (i : Int32) : go S 36 0 [.ref 6, .int i] [] (mk c t) K = K (some (.int (rg 200 (c 10) i))) (mk c t) := by
  simp only [↓g36_0, ↓g36_1, ↓g36_4, ↓g36_5, ↓g36_8, ↓mo_0, ↓mf_0_0, ↓mf_0_1, ↓mf_0_2, ↓mf_0_3, ↓mf_0_4, ↓mo_1, ↓mf_1_0, ↓mf_1_1, ↓mo_2, ↓mf_2_0, ↓mo_4, ↓mf_4_0, ↓mo_6, ↓mf_6_0, ↓mf_6_1, ↓mf_6_2, ↓mf_6_3, ↓mp_6_4, ↓mf_6_4, ↓mp_6_5, ↓mf_6_5, ↓mo_7, ↓mf_7_0, ↓mo_9, ↓mf_9_0, ↓mo_11, ↓mf_11_0, ↓mo_13, ↓mf_13_0, ↓mf_13_1, ↓mp_13_2, ↓mf_13_2, ↓mp_13_3, ↓mf_13_3, ↓mo_14, ↓mf_14_0, ↓mp_14_1, ↓mf_14_1, ↓mp_14_2, ↓mf_14_2, ↓mo_15, ↓mf_15_0, ↓mf_15_1, ↓mp_15_2, ↓mf_15_2, ↓mo_16, ↓mf_16_0, ↓mo_18, ↓mf_18_0, ↓ma_3, ↓ms_3, ↓ma_5, ↓ms_5, ↓ma_8, ↓ms_8, ↓ma_10, ↓ms_10, ↓ma_12, ↓ms_12, ↓ma_17, ↓ms_17, ↓ma_19, ↓ms_19, ↓bnd_some, ↓cond_true, ↓m_pv_none, ↓m_pv_some, m_b01_0, m_b01_1, true_and, and_true, ↓r_get_2, ↓r_get_4, ↓r_get_7, ↓r_get_9, ↓r_get_11, ↓r_get_16, ↓r_get_18, ↓r_set_2, ↓r_set_4, ↓r_set_7, ↓r_set_9, ↓r_set_11, ↓r_set_16, ↓r_set_18]
theorem u_term : go S 34 0 [.ref 6] [] (mk c t) K = K (some (.int (c 6 4))) (mk c t) := by
  simp only [↓g34_0, ↓g34_1, ↓g34_4, ↓mo_0, ↓mf_0_0, ↓mf_0_1, ↓mf_0_2, ↓mf_0_3, ↓mf_0_4, ↓mo_1, ↓mf_1_0, ↓mf_1_1, ↓mo_2, ↓mf_2_0, ↓mo_4, ↓mf_4_0, ↓mo_6, ↓mf_6_0, ↓mf_6_1, ↓mf_6_2, ↓mf_6_3, ↓mp_6_4, ↓mf_6_4, ↓mp_6_5, ↓mf_6_5, ↓mo_7, ↓mf_7_0, ↓mo_9, ↓mf_9_0, ↓mo_11, ↓mf_11_0, ↓mo_13, ↓mf_13_0, ↓mf_13_1, ↓mp_13_2, ↓mf_13_2, ↓mp_13_3, ↓mf_13_3, ↓mo_14, ↓mf_14_0, ↓mp_14_1, ↓mf_14_1, ↓mp_14_2, ↓mf_14_2, ↓mo_15, ↓mf_15_0, ↓mf_15_1, ↓mp_15_2, ↓mf_15_2, ↓mo_16, ↓mf_16_0, ↓mo_18, ↓mf_18_0, ↓ma_3, ↓ms_3, ↓ma_5, ↓ms_5, ↓ma_8, ↓ms_8, ↓ma_10, ↓ms_10, ↓ma_12, ↓ms_12, ↓ma_17, ↓ms_17, ↓ma_19, ↓ms_19, ↓bnd_some, ↓cond_true, ↓m_pv_none, ↓m_pv_some, m_b01_0, m_b01_1, true_and, and_true, ↓r_get_2, ↓r_get_4, ↓r_get_7, ↓r_get_9, ↓r_get_11, ↓r_get_16, ↓r_get_18, ↓r_set_2, ↓r_set_4, ↓r_set_7, ↓r_set_9, ↓r_set_11, ↓r_set_16, ↓r_set_18]
theorem u_letter (i : Int32) : go S 48 0 [.int i] [] (mk c t) K = K (some (.int (103 + (i - i / 20 * 20)))) (mk c t) := by
  simp only [↓g48_0, ↓g48_2, ↓g48_3, ↓g48_5, ↓g48_6, ↓g48_7, ↓mo_0, ↓mf_0_0, ↓mf_0_1, ↓mf_0_2, ↓mf_0_3, ↓mf_0_4, ↓mo_1, ↓mf_1_0, ↓mf_1_1, ↓mo_2, ↓mf_2_0, ↓mo_4, ↓mf_4_0, ↓mo_6, ↓mf_6_0, ↓mf_6_1, ↓mf_6_2, ↓mf_6_3, ↓mp_6_4, ↓mf_6_4, ↓mp_6_5, ↓mf_6_5, ↓mo_7, ↓mf_7_0, ↓mo_9, ↓mf_9_0, ↓mo_11, ↓mf_11_0, ↓mo_13, ↓mf_13_0, ↓mf_13_1, ↓mp_13_2, ↓mf_13_2, ↓mp_13_3, ↓mf_13_3, ↓mo_14, ↓mf_14_0, ↓mp_14_1, ↓mf_14_1, ↓mp_14_2, ↓mf_14_2, ↓mo_15, ↓mf_15_0, ↓mf_15_1, ↓mp_15_2, ↓mf_15_2, ↓mo_16, ↓mf_16_0, ↓mo_18, ↓mf_18_0, ↓ma_3, ↓ms_3, ↓ma_5, ↓ms_5, ↓ma_8, ↓ms_8, ↓ma_10, ↓ms_10, ↓ma_12, ↓ms_12, ↓ma_17, ↓ms_17, ↓ma_19, ↓ms_19, ↓bnd_some, ↓cond_true, ↓m_pv_none, ↓m_pv_some, m_b01_0, m_b01_1, true_and, and_true, ↓r_get_2, ↓r_get_4, ↓r_get_7, ↓r_get_9, ↓r_get_11, ↓r_get_16, ↓r_get_18, ↓r_set_2, ↓r_set_4, ↓r_set_7, ↓r_set_9, ↓r_set_11, ↓r_set_16, ↓r_set_18]
theorem u_sur {k j : Nat} (hk : k < 200) (hj : j < 200) : go S 44 0 [.ref 6, .int (nI k), .int (nI j)] [] (mk c t) K = K none (mk (ca (ca c 10 (upd (c 10) j (c 10 k))) 12 (upd (c 12) j (c 12 k))) t) := by
  simp only [↓g44_0, ↓g44_1, ↓g44_4, ↓g44_5, ↓g44_6, ↓g44_9, ↓g44_10, ↓g44_13, ↓g44_16, ↓g44_17, ↓g44_20, ↓g44_21, ↓g44_22, ↓g44_25, ↓g44_26, ↓g44_29, ↓g44_32, ↓mo_0, ↓mf_0_0, ↓mf_0_1, ↓mf_0_2, ↓mf_0_3, ↓mf_0_4, ↓mo_1, ↓mf_1_0, ↓mf_1_1, ↓mo_2, ↓mf_2_0, ↓mo_4, ↓mf_4_0, ↓mo_6, ↓mf_6_0, ↓mf_6_1, ↓mf_6_2, ↓mf_6_3, ↓mp_6_4, ↓mf_6_4, ↓mp_6_5, ↓mf_6_5, ↓mo_7, ↓mf_7_0, ↓mo_9, ↓mf_9_0, ↓mo_11, ↓mf_11_0, ↓mo_13, ↓mf_13_0, ↓mf_13_1, ↓mp_13_2, ↓mf_13_2, ↓mp_13_3, ↓mf_13_3, ↓mo_14, ↓mf_14_0, ↓mp_14_1, ↓mf_14_1, ↓mp_14_2, ↓mf_14_2, ↓mo_15, ↓mf_15_0, ↓mf_15_1, ↓mp_15_2, ↓mf_15_2, ↓mo_16, ↓mf_16_0, ↓mo_18, ↓mf_18_0, ↓ma_3, ↓ms_3, ↓ma_5, ↓ms_5, ↓ma_8, ↓ms_8, ↓ma_10, ↓ms_10, ↓ma_12, ↓ms_12, ↓ma_17, ↓ms_17, ↓ma_19, ↓ms_19, ↓bnd_some, ↓cond_true, ↓m_pv_none, ↓m_pv_some, m_b01_0, m_b01_1, true_and, and_true, ↓r_get_2, ↓r_get_4, ↓r_get_7, ↓r_get_9, ↓r_get_11, ↓r_get_16, ↓r_get_18, ↓r_set_2, ↓r_set_4, ↓r_set_7, ↓r_set_9, ↓r_set_11, ↓r_set_16, ↓r_set_18, rs_in hj (by decide : 200 < 2 ^ 31), rg_in hk (by decide : 200 < 2 ^ 31), ca_eq, ca_ne (show (12 : Nat) ≠ 10 by decide)]
end SURV
section SURV2
variable {S : mS} {t : mM} {T : Nat → Tm} {v : Nat}
theorem q_endsL (hv : v < 57) (hw : WF (T v)) : ∀ (k : Nat) (c : Nat → Nat → Int32), k ≤ (T v).length → CS c T → c 6 4 = nI v → (∀ p, k ≤ p → p < (T v).length → c 8 p = nI (en (T v) p)) → ∃ c', EV c' (T v) ∧ sx [8] c c' ∧ ∀ (K : Option Value → mM → Prop) (j2 j3 : Value), go S 42 7 [.ref 6, .int (nI k - 1), j2, j3] [] (mk c t) K = K none (mk c' t)
  | 0, c, hk, h, h6, hp => by
    refine ⟨c, fun p hpl => hp p (Nat.zero_le _) hpl, sx_rf, fun K j2 j3 => ?_⟩
    rw [g42_7]
    simp only [↓g42_0, ↓g42_1, ↓g42_4, ↓g42_5, ↓g42_6, ↓g42_8, ↓g42_11, ↓g42_12, ↓g42_15, ↓g42_16, ↓g42_19, ↓g42_20, ↓g42_23, ↓g42_24, ↓g42_25, ↓g42_26, ↓g42_27, ↓g42_28, ↓g42_29, ↓g42_30, ↓g42_33, ↓g42_34, ↓g42_35, ↓g42_36, ↓g42_37, ↓g42_40, ↓g42_41, ↓g42_44, ↓g42_45, ↓g42_46, ↓g42_49, ↓g42_50, ↓g42_51, ↓g42_52, ↓g42_53, ↓g42_54, ↓g42_57, ↓g42_60, ↓g42_61, ↓g42_62, ↓g42_65, ↓g42_66, ↓g42_67, ↓g42_70, ↓g42_73, ↓g42_76, ↓mo_0, ↓mf_0_0, ↓mf_0_1, ↓mf_0_2, ↓mf_0_3, ↓mf_0_4, ↓mo_1, ↓mf_1_0, ↓mf_1_1, ↓mo_2, ↓mf_2_0, ↓mo_4, ↓mf_4_0, ↓mo_6, ↓mf_6_0, ↓mf_6_1, ↓mf_6_2, ↓mf_6_3, ↓mp_6_4, ↓mf_6_4, ↓mp_6_5, ↓mf_6_5, ↓mo_7, ↓mf_7_0, ↓mo_9, ↓mf_9_0, ↓mo_11, ↓mf_11_0, ↓mo_13, ↓mf_13_0, ↓mf_13_1, ↓mp_13_2, ↓mf_13_2, ↓mp_13_3, ↓mf_13_3, ↓mo_14, ↓mf_14_0, ↓mp_14_1, ↓mf_14_1, ↓mp_14_2, ↓mf_14_2, ↓mo_15, ↓mf_15_0, ↓mf_15_1, ↓mp_15_2, ↓mf_15_2, ↓mo_16, ↓mf_16_0, ↓mo_18, ↓mf_18_0, ↓ma_3, ↓ms_3, ↓ma_5, ↓ms_5, ↓ma_8, ↓ms_8, ↓ma_10, ↓ms_10, ↓ma_12, ↓ms_12, ↓ma_17, ↓ms_17, ↓ma_19, ↓ms_19, ↓bnd_some, ↓cond_true, ↓m_pv_none, ↓m_pv_some, m_b01_0, m_b01_1, true_and, and_true, show nI 0 - 1 < 0 by decide, if_true]
  | k + 1, c, hk, h, h6, hp => by
    have hkl : k < (T v).length := hk
    have hl1 := (h v hv).1
    have e0 : nI (k + 1) - 1 = nI k := nI_pred k
    have e1 : ¬ nI k < 0 := nI_pos (by omega)
    have e2 : nI k + -1 = nI k - 1 := by rw [Int32.sub_eq_add_neg]
    have hkd := hw.kd hkl
    have e3 : (nI (kd (T v) k) = 2) ↔ kd (T v) k = 2 := nI_eq (b := 2) (by omega) (by omega)
    have e4 : (nI (kd (T v) k) = 3) ↔ kd (T v) k = 3 := nI_eq (b := 3) (by omega) (by omega)
    have g1 := q_kind (S := S) (t := t) h hv hkl
    rw [← h6] at g1
    obtain ⟨c', h1, h2, h3⟩ := q_endsL hv hw k (ca c 8 (upd (c 8) k (nI (en (T v) k)))) (by omega) (h.sx (ks := [8]) (sx_ca (by simp)) (by simp) (by simp)) (by rw [ca_ne (by decide)]; exact h6) (fun p hp1 hp2 => by
      rw [ca_eq]
      by_cases e : p = k
      · subst e
        rw [upd_eq]
      · rw [upd_ne e]
        exact hp p (by omega) hp2)
    refine ⟨c', h1, sx_tr (sx_ca (by simp)) h2, fun K j2 j3 => ?_⟩
    rw [e0, g42_7]
    simp only [↓g42_0, ↓g42_1, ↓g42_4, ↓g42_5, ↓g42_6, ↓g42_8, ↓g42_11, ↓g42_12, ↓g42_15, ↓g42_16, ↓g42_19, ↓g42_20, ↓g42_23, ↓g42_24, ↓g42_25, ↓g42_26, ↓g42_27, ↓g42_28, ↓g42_29, ↓g42_30, ↓g42_33, ↓g42_34, ↓g42_35, ↓g42_36, ↓g42_37, ↓g42_40, ↓g42_41, ↓g42_44, ↓g42_45, ↓g42_46, ↓g42_49, ↓g42_50, ↓g42_51, ↓g42_52, ↓g42_53, ↓g42_54, ↓g42_57, ↓g42_60, ↓g42_61, ↓g42_62, ↓g42_65, ↓g42_66, ↓g42_67, ↓g42_70, ↓g42_73, ↓g42_76, ↓mo_0, ↓mf_0_0, ↓mf_0_1, ↓mf_0_2, ↓mf_0_3, ↓mf_0_4, ↓mo_1, ↓mf_1_0, ↓mf_1_1, ↓mo_2, ↓mf_2_0, ↓mo_4, ↓mf_4_0, ↓mo_6, ↓mf_6_0, ↓mf_6_1, ↓mf_6_2, ↓mf_6_3, ↓mp_6_4, ↓mf_6_4, ↓mp_6_5, ↓mf_6_5, ↓mo_7, ↓mf_7_0, ↓mo_9, ↓mf_9_0, ↓mo_11, ↓mf_11_0, ↓mo_13, ↓mf_13_0, ↓mf_13_1, ↓mp_13_2, ↓mf_13_2, ↓mp_13_3, ↓mf_13_3, ↓mo_14, ↓mf_14_0, ↓mp_14_1, ↓mf_14_1, ↓mp_14_2, ↓mf_14_2, ↓mo_15, ↓mf_15_0, ↓mf_15_1, ↓mp_15_2, ↓mf_15_2, ↓mo_16, ↓mf_16_0, ↓mo_18, ↓mf_18_0, ↓ma_3, ↓ms_3, ↓ma_5, ↓ms_5, ↓ma_8, ↓ms_8, ↓ma_10, ↓ms_10, ↓ma_12, ↓ms_12, ↓ma_17, ↓ms_17, ↓ma_19, ↓ms_19, ↓bnd_some, ↓cond_true, ↓m_pv_none, ↓m_pv_some, m_b01_0, m_b01_1, true_and, and_true, ↓r_get_2, ↓r_get_4, ↓r_get_7, ↓r_get_9, ↓r_get_11, ↓r_get_16, ↓r_get_18, ↓r_set_2, ↓r_set_4, ↓r_set_7, ↓r_set_9, ↓r_set_11, ↓r_set_16, ↓r_set_18, e1, if_false, ↓g1, e3, e4, ↓u_behind, rs_in (show k < 200 by omega) (by decide : 200 < 2 ^ 31), e2]
    by_cases hk2 : kd (T v) k = 2
    · have hx : rg 200 (c 8) (nI k + 1) = nI (en (T v) k) := by
        have hc := child_2 hw hkl hk2
        rw [nI_1, rg_in (by omega) (by decide), hp (k + 1) (by omega) hc, en_2 hkl hk2]
      rw [if_pos hk2, hx]
      exact h3 K _ _
    · rw [if_neg hk2]
      by_cases hk3 : kd (T v) k = 3
      · have hx : rg 200 (c 8) (rg 200 (c 8) (nI k + 1)) = nI (en (T v) k) := by
          have hc := child_3 hw hkl hk3
          have hd := (dep_3e hw hkl hk3).2.2
          have hg := en_lt hc
          rw [nI_1, rg_in (by omega) (by decide), hp (k + 1) (by omega) hc, rg_in (by omega) (by decide), hp _ (by omega) hd, en_3 hkl hk3]
        rw [if_pos hk3, hx]
        exact h3 K _ _
      · have hx : nI k + 1 = nI (en (T v) k) := by
          rw [nI_1, en_0 hkl (by unfold ar; rw [if_neg hk2, if_neg hk3])]
        rw [if_neg hk3, hx]
        exact h3 K _ _
theorem q_ends (hv : v < 57) (hw : WF (T v)) {c : Nat → Nat → Int32} (h : CS c T) (h6 : c 6 4 = nI v) (h65 : c 6 5 = nI (T v).length) : ∃ c', EV c' (T v) ∧ sx [8] c c' ∧ ∀ K : Option Value → mM → Prop, go S 42 0 [.ref 6, .null, .null, .null] [] (mk c t) K = K none (mk c' t) := by
  obtain ⟨c', h1, h2, h3⟩ := q_endsL (S := S) (t := t) hv hw (T v).length c (Nat.le_refl _) h h6 (fun p z1 z2 => by omega)
  refine ⟨c', h1, h2, fun K => ?_⟩
  simp only [↓g42_0, ↓g42_1, ↓g42_4, ↓g42_5, ↓g42_6, ↓g42_8, ↓g42_11, ↓g42_12, ↓g42_15, ↓g42_16, ↓g42_19, ↓g42_20, ↓g42_23, ↓g42_24, ↓g42_25, ↓g42_26, ↓g42_27, ↓g42_28, ↓g42_29, ↓g42_30, ↓g42_33, ↓g42_34, ↓g42_35, ↓g42_36, ↓g42_37, ↓g42_40, ↓g42_41, ↓g42_44, ↓g42_45, ↓g42_46, ↓g42_49, ↓g42_50, ↓g42_51, ↓g42_52, ↓g42_53, ↓g42_54, ↓g42_57, ↓g42_60, ↓g42_61, ↓g42_62, ↓g42_65, ↓g42_66, ↓g42_67, ↓g42_70, ↓g42_73, ↓g42_76, ↓mo_0, ↓mf_0_0, ↓mf_0_1, ↓mf_0_2, ↓mf_0_3, ↓mf_0_4, ↓mo_1, ↓mf_1_0, ↓mf_1_1, ↓mo_2, ↓mf_2_0, ↓mo_4, ↓mf_4_0, ↓mo_6, ↓mf_6_0, ↓mf_6_1, ↓mf_6_2, ↓mf_6_3, ↓mp_6_4, ↓mf_6_4, ↓mp_6_5, ↓mf_6_5, ↓mo_7, ↓mf_7_0, ↓mo_9, ↓mf_9_0, ↓mo_11, ↓mf_11_0, ↓mo_13, ↓mf_13_0, ↓mf_13_1, ↓mp_13_2, ↓mf_13_2, ↓mp_13_3, ↓mf_13_3, ↓mo_14, ↓mf_14_0, ↓mp_14_1, ↓mf_14_1, ↓mp_14_2, ↓mf_14_2, ↓mo_15, ↓mf_15_0, ↓mf_15_1, ↓mp_15_2, ↓mf_15_2, ↓mo_16, ↓mf_16_0, ↓mo_18, ↓mf_18_0, ↓ma_3, ↓ms_3, ↓ma_5, ↓ms_5, ↓ma_8, ↓ms_8, ↓ma_10, ↓ms_10, ↓ma_12, ↓ms_12, ↓ma_17, ↓ms_17, ↓ma_19, ↓ms_19, ↓bnd_some, ↓cond_true, ↓m_pv_none, ↓m_pv_some, m_b01_0, m_b01_1, true_and, and_true, h65]
  exact h3 K _ _
/-- what has been handed down, by the places before k -/
def AV (c : Nat → Nat → Int32) (l : Tm) (k : Nat) : Prop := ∀ j, j < l.length → (j = 0 ∨ ∃ p, p < k ∧ par l p j) → c 10 j = nI (dep l j) ∧ c 12 j = nbI (nb l j)
theorem AV.at {c : Nat → Nat → Int32} {l : Tm} {k : Nat} (h : AV c l k) (hw : WF l) (hk : k < l.length) : c 10 k = nI (dep l k) ∧ c 12 k = nbI (nb l k) := by
  refine h k hk ?_
  by_cases h0 : k = 0
  · exact Or.inl h0
  · obtain ⟨p, h1, h2⟩ := has_par hw hk (by omega)
    exact Or.inr ⟨p, h1, h2⟩
theorem AV.all {c : Nat → Nat → Int32} {l : Tm} (h : AV c l l.length) (hw : WF l) {k : Nat} (hk : k < l.length) : c 10 k = nI (dep l k) ∧ c 12 k = nbI (nb l k) := by
  refine h k hk ?_
  by_cases h0 : k = 0
  · exact Or.inl h0
  · obtain ⟨p, h1, h2⟩ := has_par hw hk (by omega)
    exact Or.inr ⟨p, by omega, h2⟩
/-- a child gets what is its own -/
theorem AV.put {c : Nat → Nat → Int32} {l : Tm} {k j : Nat} {x y : Int32} {P : Nat → Prop} (h : ∀ i, i < l.length → P i → c 10 i = nI (dep l i) ∧ c 12 i = nbI (nb l i)) (hx : x = nI (dep l j)) (hy : y = nbI (nb l j)) : ∀ i, i < l.length → (P i ∨ i = j) → ca (ca c 10 (upd (c 10) j x)) 12 (upd (c 12) j y) 10 i = nI (dep l i) ∧ ca (ca c 10 (upd (c 10) j x)) 12 (upd (c 12) j y) 12 i = nbI (nb l i) := by
  intro i hi hP
  rw [ca_eq, ca_ne (by decide), ca_eq]
  by_cases e : i = j
  · subst e
    rw [upd_eq, upd_eq]
    exact ⟨hx, hy⟩
  · rw [upd_ne e, upd_ne e]
    exact h i hi (hP.resolve_right e)
theorem q_surL (hv : v < 57) (hw : WF (T v)) : ∀ (n k : Nat) (c : Nat → Nat → Int32), n + k = (T v).length → CS c T → c 6 4 = nI v → c 6 5 = nI (T v).length → EV c (T v) → AV c (T v) k → ∃ c', AV c' (T v) (T v).length ∧ sx [10, 12] c c' ∧ ∀ (K : Option Value → mM → Prop) (j2 : Value), go S 43 21 [.ref 6, .int (nI k), j2] [] (mk c t) K = K none (mk c' t)
  | 0, k, c, hn, h, h6, h65, hE, hA => by
    have e : k = (T v).length := by omega
    subst e
    refine ⟨c, hA, sx_rf, fun K j2 => ?_⟩
    rw [g43_21]
    simp only [↓g43_0, ↓g43_1, ↓g43_4, ↓g43_5, ↓g43_6, ↓g43_9, ↓g43_10, ↓g43_13, ↓g43_14, ↓g43_16, ↓g43_19, ↓g43_20, ↓g43_22, ↓g43_23, ↓g43_26, ↓g43_29, ↓g43_30, ↓g43_33, ↓g43_34, ↓g43_37, ↓g43_38, ↓g43_41, ↓g43_42, ↓g43_43, ↓g43_44, ↓g43_47, ↓g43_48, ↓g43_51, ↓g43_52, ↓g43_53, ↓g43_54, ↓g43_55, ↓g43_56, ↓g43_59, ↓g43_60, ↓g43_61, ↓g43_64, ↓g43_65, ↓g43_68, ↓g43_69, ↓g43_70, ↓g43_71, ↓g43_72, ↓g43_75, ↓g43_78, ↓g43_79, ↓g43_80, ↓g43_83, ↓g43_84, ↓g43_85, ↓g43_86, ↓g43_87, ↓g43_88, ↓g43_91, ↓g43_92, ↓g43_93, ↓g43_94, ↓g43_95, ↓g43_96, ↓g43_97, ↓g43_100, ↓g43_103, ↓g43_106, ↓g43_109, ↓mo_0, ↓mf_0_0, ↓mf_0_1, ↓mf_0_2, ↓mf_0_3, ↓mf_0_4, ↓mo_1, ↓mf_1_0, ↓mf_1_1, ↓mo_2, ↓mf_2_0, ↓mo_4, ↓mf_4_0, ↓mo_6, ↓mf_6_0, ↓mf_6_1, ↓mf_6_2, ↓mf_6_3, ↓mp_6_4, ↓mf_6_4, ↓mp_6_5, ↓mf_6_5, ↓mo_7, ↓mf_7_0, ↓mo_9, ↓mf_9_0, ↓mo_11, ↓mf_11_0, ↓mo_13, ↓mf_13_0, ↓mf_13_1, ↓mp_13_2, ↓mf_13_2, ↓mp_13_3, ↓mf_13_3, ↓mo_14, ↓mf_14_0, ↓mp_14_1, ↓mf_14_1, ↓mp_14_2, ↓mf_14_2, ↓mo_15, ↓mf_15_0, ↓mf_15_1, ↓mp_15_2, ↓mf_15_2, ↓mo_16, ↓mf_16_0, ↓mo_18, ↓mf_18_0, ↓ma_3, ↓ms_3, ↓ma_5, ↓ms_5, ↓ma_8, ↓ms_8, ↓ma_10, ↓ms_10, ↓ma_12, ↓ms_12, ↓ma_17, ↓ms_17, ↓ma_19, ↓ms_19, ↓bnd_some, ↓cond_true, ↓m_pv_none, ↓m_pv_some, m_b01_0, m_b01_1, true_and, and_true, h65, Int32.le_refl, if_true]
  | n + 1, k, c, hn, h, h6, h65, hE, hA => by
    have hkl : k < (T v).length := by omega
    have hl1 := (h v hv).1
    have e1 : ¬ nI (T v).length ≤ nI k := nI_ge (by omega) (by omega)
    have hkd := hw.kd hkl
    have e3 : (nI (kd (T v) k) = 2) ↔ kd (T v) k = 2 := nI_eq (b := 2) (by omega) (by omega)
    have e4 : (nI (kd (T v) k) = 3) ↔ kd (T v) k = 3 := nI_eq (b := 3) (by omega) (by omega)
    have g1 := q_kind (S := S) (t := t) h hv hkl
    rw [← h6] at g1
    have hak := hA.at hw hkl
    have next : ∀ c1, CS c1 T → c1 6 4 = nI v → c1 6 5 = nI (T v).length → EV c1 (T v) → sx [10, 12] c c1 → AV c1 (T v) (k + 1) → ∃ c', AV c' (T v) (T v).length ∧ sx [10, 12] c c' ∧ ∀ (K : Option Value → mM → Prop) (j2 : Value), go S 43 21 [.ref 6, .int (nI (k + 1)), j2] [] (mk c1 t) K = K none (mk c' t) := fun c1 z1 z2 z3 z4 z5 z6 => by
      obtain ⟨c', w1, w2, w3⟩ := q_surL hv hw n (k + 1) c1 (by omega) z1 z2 z3 z4 z6
      exact ⟨c', w1, sx_tr z5 w2, w3⟩
    by_cases hk2 : kd (T v) k = 2
    · have hc := child_2 hw hkl hk2
      have hd := dep_2 hw hkl hk2
      have hs : sx [10, 12] c (ca (ca c 10 (upd (c 10) (k + 1) (nI (dep (T v) k) + 1))) 12 (upd (c 12) (k + 1) (nI k))) := sx_tr (sx_ca (by simp)) (sx_ca (by simp))
      obtain ⟨c', w1, w2, w3⟩ := next (ca (ca c 10 (upd (c 10) (k + 1) (nI (dep (T v) k) + 1))) 12 (upd (c 12) (k + 1) (nI k))) (h.sx hs (by simp) (by simp)) (by rw [hs 6 (by simp)]; exact h6) (by rw [hs 6 (by simp)]; exact h65) (fun p hp => by rw [hs 8 (by simp)]; exact hE p hp) hs (fun i hi hp => AV.put (k := k) (P := fun i => i = 0 ∨ ∃ p, p < k ∧ par (T v) p i) hA (by rw [hd.1, nI_1]) (by rw [hd.2.1]; rfl) i hi (by
        rcases hp with e | ⟨p, hp1, hp2⟩
        · exact Or.inl (Or.inl e)
        · by_cases e : p = k
          · subst e
            rcases hp2 with ⟨-, z⟩ | ⟨z, -⟩
            · exact Or.inr z
            · omega
          · exact Or.inl (Or.inr ⟨p, by omega, hp2⟩)))
      refine ⟨c', w1, w2, fun K j2 => ?_⟩
      rw [g43_21]
      simp only [↓g43_0, ↓g43_1, ↓g43_4, ↓g43_5, ↓g43_6, ↓g43_9, ↓g43_10, ↓g43_13, ↓g43_14, ↓g43_16, ↓g43_19, ↓g43_20, ↓g43_22, ↓g43_23, ↓g43_26, ↓g43_29, ↓g43_30, ↓g43_33, ↓g43_34, ↓g43_37, ↓g43_38, ↓g43_41, ↓g43_42, ↓g43_43, ↓g43_44, ↓g43_47, ↓g43_48, ↓g43_51, ↓g43_52, ↓g43_53, ↓g43_54, ↓g43_55, ↓g43_56, ↓g43_59, ↓g43_60, ↓g43_61, ↓g43_64, ↓g43_65, ↓g43_68, ↓g43_69, ↓g43_70, ↓g43_71, ↓g43_72, ↓g43_75, ↓g43_78, ↓g43_79, ↓g43_80, ↓g43_83, ↓g43_84, ↓g43_85, ↓g43_86, ↓g43_87, ↓g43_88, ↓g43_91, ↓g43_92, ↓g43_93, ↓g43_94, ↓g43_95, ↓g43_96, ↓g43_97, ↓g43_100, ↓g43_103, ↓g43_106, ↓g43_109, ↓mo_0, ↓mf_0_0, ↓mf_0_1, ↓mf_0_2, ↓mf_0_3, ↓mf_0_4, ↓mo_1, ↓mf_1_0, ↓mf_1_1, ↓mo_2, ↓mf_2_0, ↓mo_4, ↓mf_4_0, ↓mo_6, ↓mf_6_0, ↓mf_6_1, ↓mf_6_2, ↓mf_6_3, ↓mp_6_4, ↓mf_6_4, ↓mp_6_5, ↓mf_6_5, ↓mo_7, ↓mf_7_0, ↓mo_9, ↓mf_9_0, ↓mo_11, ↓mf_11_0, ↓mo_13, ↓mf_13_0, ↓mf_13_1, ↓mp_13_2, ↓mf_13_2, ↓mp_13_3, ↓mf_13_3, ↓mo_14, ↓mf_14_0, ↓mp_14_1, ↓mf_14_1, ↓mp_14_2, ↓mf_14_2, ↓mo_15, ↓mf_15_0, ↓mf_15_1, ↓mp_15_2, ↓mf_15_2, ↓mo_16, ↓mf_16_0, ↓mo_18, ↓mf_18_0, ↓ma_3, ↓ms_3, ↓ma_5, ↓ms_5, ↓ma_8, ↓ms_8, ↓ma_10, ↓ms_10, ↓ma_12, ↓ms_12, ↓ma_17, ↓ms_17, ↓ma_19, ↓ms_19, ↓bnd_some, ↓cond_true, ↓m_pv_none, ↓m_pv_some, m_b01_0, m_b01_1, true_and, and_true, ↓r_get_2, ↓r_get_4, ↓r_get_7, ↓r_get_9, ↓r_get_11, ↓r_get_16, ↓r_get_18, ↓r_set_2, ↓r_set_4, ↓r_set_7, ↓r_set_9, ↓r_set_11, ↓r_set_16, ↓r_set_18, h65, e1, if_false, ↓g1, e3, hk2, if_true, ↓u_around, rg_in (show k < 200 by omega) (by decide : 200 < 2 ^ 31), hak.1, nI_1, rs_in (show k + 1 < 200 by omega) (by decide : 200 < 2 ^ 31), ca_ne (show (12 : Nat) ≠ 10 by decide)]
      simp only [nI_1] at w3
      exact w3 K _
    · by_cases hk3 : kd (T v) k = 3
      · have hc := child_3 hw hkl hk3
        have hd := dep_3 hw hkl hk3
        have hde := dep_3e hw hkl hk3
        have hg := en_lt hc
        have hs1 : sx [10, 12] c (ca (ca c 10 (upd (c 10) (k + 1) (c 10 k))) 12 (upd (c 12) (k + 1) (c 12 k))) := sx_tr (sx_ca (by simp)) (sx_ca (by simp))
        have hA1 := AV.put (k := k) (j := k + 1) (x := c 10 k) (y := c 12 k) (P := fun i => i = 0 ∨ ∃ p, p < k ∧ par (T v) p i) hA (by rw [hd.1]; exact hak.1) (by rw [hd.2.1]; exact hak.2)
        generalize hc1 : ca (ca c 10 (upd (c 10) (k + 1) (c 10 k))) 12 (upd (c 12) (k + 1) (c 12 k)) = c1 at hs1 hA1
        have hak1 : c1 10 k = nI (dep (T v) k) ∧ c1 12 k = nbI (nb (T v) k) := by
          rw [← hc1, ca_ne (by decide), ca_eq, ca_eq, upd_ne (by omega), upd_ne (by omega)]
          exact hak
        have hs : sx [10, 12] c (ca (ca c1 10 (upd (c1 10) (en (T v) (k + 1)) (c1 10 k))) 12 (upd (c1 12) (en (T v) (k + 1)) (c1 12 k))) := sx_tr hs1 (sx_tr (sx_ca (by simp)) (sx_ca (by simp)))
        obtain ⟨c', w1, w2, w3⟩ := next (ca (ca c1 10 (upd (c1 10) (en (T v) (k + 1)) (c1 10 k))) 12 (upd (c1 12) (en (T v) (k + 1)) (c1 12 k))) (h.sx hs (by simp) (by simp)) (by rw [hs 6 (by simp)]; exact h6) (by rw [hs 6 (by simp)]; exact h65) (fun p hp => by rw [hs 8 (by simp)]; exact hE p hp) hs (fun i hi hp => AV.put (k := k) (P := fun i => (i = 0 ∨ ∃ p, p < k ∧ par (T v) p i) ∨ i = k + 1) hA1 (by rw [hde.1]; exact hak1.1) (by rw [hde.2.1]; exact hak1.2) i hi (by
          rcases hp with e | ⟨p, hp1, hp2⟩
          · exact Or.inl (Or.inl (Or.inl e))
          · by_cases e : p = k
            · subst e
              rcases hp2 with ⟨z, -⟩ | ⟨-, z | z⟩
              · omega
              · exact Or.inl (Or.inr z)
              · exact Or.inr z
            · exact Or.inl (Or.inl (Or.inr ⟨p, by omega, hp2⟩))))
        refine ⟨c', w1, w2, fun K j2 => ?_⟩
        have g2 : ∀ K : Option Value → mM → Prop, go S 44 0 [.ref 6, .int (nI k), .int (nI k + 1)] [] (mk c t) K = K none (mk c1 t) := fun K => by
          rw [nI_1, u_sur c t (by omega) (by omega), hc1]
        have hb : rg 200 (c1 8) (nI k + 1) = nI (en (T v) (k + 1)) := by
          rw [nI_1, rg_in (by omega) (by decide), hs1 8 (by simp)]
          exact hE _ hc
        have g3 : ∀ K : Option Value → mM → Prop, go S 44 0 [.ref 6, .int (nI k), .int (rg 200 (c1 8) (nI k + 1))] [] (mk c1 t) K = K none (mk (ca (ca c1 10 (upd (c1 10) (en (T v) (k + 1)) (c1 10 k))) 12 (upd (c1 12) (en (T v) (k + 1)) (c1 12 k))) t) := fun K => by
          rw [hb, u_sur c1 t (by omega) (by omega)]
        rw [g43_21]
        simp only [↓g43_0, ↓g43_1, ↓g43_4, ↓g43_5, ↓g43_6, ↓g43_9, ↓g43_10, ↓g43_13, ↓g43_14, ↓g43_16, ↓g43_19, ↓g43_20, ↓g43_22, ↓g43_23, ↓g43_26, ↓g43_29, ↓g43_30, ↓g43_33, ↓g43_34, ↓g43_37, ↓g43_38, ↓g43_41, ↓g43_42, ↓g43_43, ↓g43_44, ↓g43_47, ↓g43_48, ↓g43_51, ↓g43_52, ↓g43_53, ↓g43_54, ↓g43_55, ↓g43_56, ↓g43_59, ↓g43_60, ↓g43_61, ↓g43_64, ↓g43_65, ↓g43_68, ↓g43_69, ↓g43_70, ↓g43_71, ↓g43_72, ↓g43_75, ↓g43_78, ↓g43_79, ↓g43_80, ↓g43_83, ↓g43_84, ↓g43_85, ↓g43_86, ↓g43_87, ↓g43_88, ↓g43_91, ↓g43_92, ↓g43_93, ↓g43_94, ↓g43_95, ↓g43_96, ↓g43_97, ↓g43_100, ↓g43_103, ↓g43_106, ↓g43_109, ↓mo_0, ↓mf_0_0, ↓mf_0_1, ↓mf_0_2, ↓mf_0_3, ↓mf_0_4, ↓mo_1, ↓mf_1_0, ↓mf_1_1, ↓mo_2, ↓mf_2_0, ↓mo_4, ↓mf_4_0, ↓mo_6, ↓mf_6_0, ↓mf_6_1, ↓mf_6_2, ↓mf_6_3, ↓mp_6_4, ↓mf_6_4, ↓mp_6_5, ↓mf_6_5, ↓mo_7, ↓mf_7_0, ↓mo_9, ↓mf_9_0, ↓mo_11, ↓mf_11_0, ↓mo_13, ↓mf_13_0, ↓mf_13_1, ↓mp_13_2, ↓mf_13_2, ↓mp_13_3, ↓mf_13_3, ↓mo_14, ↓mf_14_0, ↓mp_14_1, ↓mf_14_1, ↓mp_14_2, ↓mf_14_2, ↓mo_15, ↓mf_15_0, ↓mf_15_1, ↓mp_15_2, ↓mf_15_2, ↓mo_16, ↓mf_16_0, ↓mo_18, ↓mf_18_0, ↓ma_3, ↓ms_3, ↓ma_5, ↓ms_5, ↓ma_8, ↓ms_8, ↓ma_10, ↓ms_10, ↓ma_12, ↓ms_12, ↓ma_17, ↓ms_17, ↓ma_19, ↓ms_19, ↓bnd_some, ↓cond_true, ↓m_pv_none, ↓m_pv_some, m_b01_0, m_b01_1, true_and, and_true, h65, e1, if_false, ↓g1, e3, e4, hk2, hk3, if_true, ↓g2, ↓u_behind, ↓g3]
        rw [nI_1]
        exact w3 K _
      · obtain ⟨c', w1, w2, w3⟩ := next c h h6 h65 hE sx_rf (fun i hi hp => hA i hi (by
          rcases hp with e | ⟨p, hp1, hp2⟩
          · exact Or.inl e
          · by_cases e : p = k
            · subst e
              rcases hp2 with ⟨z, -⟩ | ⟨z, -⟩ <;> omega
            · exact Or.inr ⟨p, by omega, hp2⟩))
        refine ⟨c', w1, w2, fun K j2 => ?_⟩
        rw [g43_21]
        simp only [↓g43_0, ↓g43_1, ↓g43_4, ↓g43_5, ↓g43_6, ↓g43_9, ↓g43_10, ↓g43_13, ↓g43_14, ↓g43_16, ↓g43_19, ↓g43_20, ↓g43_22, ↓g43_23, ↓g43_26, ↓g43_29, ↓g43_30, ↓g43_33, ↓g43_34, ↓g43_37, ↓g43_38, ↓g43_41, ↓g43_42, ↓g43_43, ↓g43_44, ↓g43_47, ↓g43_48, ↓g43_51, ↓g43_52, ↓g43_53, ↓g43_54, ↓g43_55, ↓g43_56, ↓g43_59, ↓g43_60, ↓g43_61, ↓g43_64, ↓g43_65, ↓g43_68, ↓g43_69, ↓g43_70, ↓g43_71, ↓g43_72, ↓g43_75, ↓g43_78, ↓g43_79, ↓g43_80, ↓g43_83, ↓g43_84, ↓g43_85, ↓g43_86, ↓g43_87, ↓g43_88, ↓g43_91, ↓g43_92, ↓g43_93, ↓g43_94, ↓g43_95, ↓g43_96, ↓g43_97, ↓g43_100, ↓g43_103, ↓g43_106, ↓g43_109, ↓mo_0, ↓mf_0_0, ↓mf_0_1, ↓mf_0_2, ↓mf_0_3, ↓mf_0_4, ↓mo_1, ↓mf_1_0, ↓mf_1_1, ↓mo_2, ↓mf_2_0, ↓mo_4, ↓mf_4_0, ↓mo_6, ↓mf_6_0, ↓mf_6_1, ↓mf_6_2, ↓mf_6_3, ↓mp_6_4, ↓mf_6_4, ↓mp_6_5, ↓mf_6_5, ↓mo_7, ↓mf_7_0, ↓mo_9, ↓mf_9_0, ↓mo_11, ↓mf_11_0, ↓mo_13, ↓mf_13_0, ↓mf_13_1, ↓mp_13_2, ↓mf_13_2, ↓mp_13_3, ↓mf_13_3, ↓mo_14, ↓mf_14_0, ↓mp_14_1, ↓mf_14_1, ↓mp_14_2, ↓mf_14_2, ↓mo_15, ↓mf_15_0, ↓mf_15_1, ↓mp_15_2, ↓mf_15_2, ↓mo_16, ↓mf_16_0, ↓mo_18, ↓mf_18_0, ↓ma_3, ↓ms_3, ↓ma_5, ↓ms_5, ↓ma_8, ↓ms_8, ↓ma_10, ↓ms_10, ↓ma_12, ↓ms_12, ↓ma_17, ↓ms_17, ↓ma_19, ↓ms_19, ↓bnd_some, ↓cond_true, ↓m_pv_none, ↓m_pv_some, m_b01_0, m_b01_1, true_and, and_true, h65, e1, if_false, ↓g1, e3, e4, hk2, hk3]
        rw [nI_1]
        exact w3 K _
/-- the survey takes a term into view -/
theorem q_look (hv : v < 57) (hw : WF (T v)) {c : Nat → Nat → Int32} (h : CS c T) {x : Int32} (hx : x = nI v := by rfl) : ∃ c', SV c' v (T v) ∧ CS c' T ∧ sx [6, 8, 10, 12] c c' ∧ ∀ K : Option Value → mM → Prop, go S 33 0 [.ref 6, .int x] [] (mk c t) K = K none (mk c' t) := by
  subst hx
  have g0 := q_length (S := S) (t := t) (c := ca c 6 (upd (c 6) 4 (nI v))) (T := T) (h.sx (ks := [6]) (sx_ca (by simp)) (by simp) (by simp)) hv
  have hs1 : sx [6, 8, 10, 12] c (ca (ca c 6 (upd (c 6) 4 (nI v))) 6 (upd (ca c 6 (upd (c 6) 4 (nI v)) 6) 5 (nI (T v).length))) := sx_tr (sx_ca (by simp)) (sx_ca (by simp))
  have k1 : (ca (ca c 6 (upd (c 6) 4 (nI v))) 6 (upd (ca c 6 (upd (c 6) 4 (nI v)) 6) 5 (nI (T v).length))) 6 4 = nI v := by
    rw [ca_eq, upd_ne (by decide), ca_eq, upd_eq]
  have k2 : (ca (ca c 6 (upd (c 6) 4 (nI v))) 6 (upd (ca c 6 (upd (c 6) 4 (nI v)) 6) 5 (nI (T v).length))) 6 5 = nI (T v).length := by
    rw [ca_eq, upd_eq]
  obtain ⟨c2, h2, s2, g2⟩ := q_ends (S := S) (t := t) hv hw (h.sx hs1 (by simp) (by simp)) k1 k2
  have hs2 : sx [6, 8, 10, 12] c c2 := sx_tr hs1 (fun k hk => s2 k (by simp at hk ⊢; omega))
  have hs3 : sx [6, 8, 10, 12] c (ca (ca c2 10 (upd (c2 10) 0 0)) 12 (upd (c2 12) 0 (-6))) := sx_tr hs2 (sx_tr (sx_ca (by simp)) (sx_ca (by simp)))
  obtain ⟨c3, h3, s3, g3⟩ := q_surL (S := S) (t := t) hv hw (T v).length 0 (ca (ca c2 10 (upd (c2 10) 0 0)) 12 (upd (c2 12) 0 (-6))) rfl (h.sx hs3 (by simp) (by simp)) (by rw [ca_ne (by decide), ca_ne (by decide), s2 6 (by simp)]; exact k1) (by rw [ca_ne (by decide), ca_ne (by decide), s2 6 (by simp)]; exact k2) (fun p hp => by rw [ca_ne (by decide), ca_ne (by decide)]; exact h2 p hp) (fun j hj hp => by
    rcases hp with rfl | ⟨p, hp, -⟩
    · rw [ca_ne (by decide), ca_eq, ca_eq, upd_eq, upd_eq]
      exact ⟨rfl, rfl⟩
    · omega)
  have hs4 : sx [6, 8, 10, 12] c c3 := sx_tr hs3 (fun k hk => s3 k (by simp at hk ⊢; omega))
  refine ⟨c3, ⟨hv, ?_, ?_, fun p hp => ?_, fun p hp => h3.all hw hp⟩, h.sx hs4 (by simp) (by simp), hs4, fun K => ?_⟩
  · rw [s3 6 (by simp), ca_ne (by decide), ca_ne (by decide), s2 6 (by simp)]
    exact k1
  · rw [s3 6 (by simp), ca_ne (by decide), ca_ne (by decide), s2 6 (by simp)]
    exact k2
  · rw [s3 8 (by simp), ca_ne (by decide), ca_ne (by decide)]
    exact h2 p hp
  · have e0 : rs c2 10 200 0 0 = ca c2 10 (upd (c2 10) 0 0) := rs_in (i := 0) (by decide) (by decide)
    have e1 : rs (ca c2 10 (upd (c2 10) 0 0)) 12 200 0 (-6) = ca (ca c2 10 (upd (c2 10) 0 0)) 12 (upd (c2 12) 0 (-6)) := by
      rw [show (0 : Int32) = nI 0 from rfl, rs_in (i := 0) (by decide) (by decide), ca_ne (by decide)]
    have g4 : ∀ (K : Option Value → mM → Prop) (j2 : Value), go S 43 21 [.ref 6, .int 0, j2] [] (mk (ca (ca c2 10 (upd (c2 10) 0 0)) 12 (upd (c2 12) 0 (-6))) t) K = K none (mk c3 t) := g3
    simp only [↓g33_0, ↓g33_1, ↓g33_2, ↓g33_5, ↓g33_6, ↓g33_7, ↓g33_10, ↓g33_11, ↓g33_14, ↓g33_17, ↓g33_18, ↓g33_21, ↓g33_22, ↓g33_25, ↓g43_0, ↓g43_1, ↓g43_4, ↓g43_5, ↓g43_6, ↓g43_9, ↓g43_10, ↓g43_13, ↓g43_14, ↓g43_16, ↓g43_19, ↓g43_20, ↓g43_22, ↓g43_23, ↓g43_26, ↓g43_29, ↓g43_30, ↓g43_33, ↓g43_34, ↓g43_37, ↓g43_38, ↓g43_41, ↓g43_42, ↓g43_43, ↓g43_44, ↓g43_47, ↓g43_48, ↓g43_51, ↓g43_52, ↓g43_53, ↓g43_54, ↓g43_55, ↓g43_56, ↓g43_59, ↓g43_60, ↓g43_61, ↓g43_64, ↓g43_65, ↓g43_68, ↓g43_69, ↓g43_70, ↓g43_71, ↓g43_72, ↓g43_75, ↓g43_78, ↓g43_79, ↓g43_80, ↓g43_83, ↓g43_84, ↓g43_85, ↓g43_86, ↓g43_87, ↓g43_88, ↓g43_91, ↓g43_92, ↓g43_93, ↓g43_94, ↓g43_95, ↓g43_96, ↓g43_97, ↓g43_100, ↓g43_103, ↓g43_106, ↓g43_109, ↓mo_0, ↓mf_0_0, ↓mf_0_1, ↓mf_0_2, ↓mf_0_3, ↓mf_0_4, ↓mo_1, ↓mf_1_0, ↓mf_1_1, ↓mo_2, ↓mf_2_0, ↓mo_4, ↓mf_4_0, ↓mo_6, ↓mf_6_0, ↓mf_6_1, ↓mf_6_2, ↓mf_6_3, ↓mp_6_4, ↓mf_6_4, ↓mp_6_5, ↓mf_6_5, ↓mo_7, ↓mf_7_0, ↓mo_9, ↓mf_9_0, ↓mo_11, ↓mf_11_0, ↓mo_13, ↓mf_13_0, ↓mf_13_1, ↓mp_13_2, ↓mf_13_2, ↓mp_13_3, ↓mf_13_3, ↓mo_14, ↓mf_14_0, ↓mp_14_1, ↓mf_14_1, ↓mp_14_2, ↓mf_14_2, ↓mo_15, ↓mf_15_0, ↓mf_15_1, ↓mp_15_2, ↓mf_15_2, ↓mo_16, ↓mf_16_0, ↓mo_18, ↓mf_18_0, ↓ma_3, ↓ms_3, ↓ma_5, ↓ms_5, ↓ma_8, ↓ms_8, ↓ma_10, ↓ms_10, ↓ma_12, ↓ms_12, ↓ma_17, ↓ms_17, ↓ma_19, ↓ms_19, ↓bnd_some, ↓cond_true, ↓m_pv_none, ↓m_pv_some, m_b01_0, m_b01_1, true_and, and_true, ↓r_get_2, ↓r_get_4, ↓r_get_7, ↓r_get_9, ↓r_get_11, ↓r_get_16, ↓r_get_18, ↓r_set_2, ↓r_set_4, ↓r_set_7, ↓r_set_9, ↓r_set_11, ↓r_set_16, ↓r_set_18, ↓g0, ↓g2, e0, e1]
    rw [g4]
    simp only [↓g33_0, ↓g33_1, ↓g33_2, ↓g33_5, ↓g33_6, ↓g33_7, ↓g33_10, ↓g33_11, ↓g33_14, ↓g33_17, ↓g33_18, ↓g33_21, ↓g33_22, ↓g33_25, ↓mo_0, ↓mf_0_0, ↓mf_0_1, ↓mf_0_2, ↓mf_0_3, ↓mf_0_4, ↓mo_1, ↓mf_1_0, ↓mf_1_1, ↓mo_2, ↓mf_2_0, ↓mo_4, ↓mf_4_0, ↓mo_6, ↓mf_6_0, ↓mf_6_1, ↓mf_6_2, ↓mf_6_3, ↓mp_6_4, ↓mf_6_4, ↓mp_6_5, ↓mf_6_5, ↓mo_7, ↓mf_7_0, ↓mo_9, ↓mf_9_0, ↓mo_11, ↓mf_11_0, ↓mo_13, ↓mf_13_0, ↓mf_13_1, ↓mp_13_2, ↓mf_13_2, ↓mp_13_3, ↓mf_13_3, ↓mo_14, ↓mf_14_0, ↓mp_14_1, ↓mf_14_1, ↓mp_14_2, ↓mf_14_2, ↓mo_15, ↓mf_15_0, ↓mf_15_1, ↓mp_15_2, ↓mf_15_2, ↓mo_16, ↓mf_16_0, ↓mo_18, ↓mf_18_0, ↓ma_3, ↓ms_3, ↓ma_5, ↓ms_5, ↓ma_8, ↓ms_8, ↓ma_10, ↓ms_10, ↓ma_12, ↓ms_12, ↓ma_17, ↓ms_17, ↓ma_19, ↓ms_19, ↓bnd_some, ↓cond_true, ↓m_pv_none, ↓m_pv_some, m_b01_0, m_b01_1, true_and, and_true]
end SURV2

