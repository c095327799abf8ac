/-! what the made objects hold -/
def σ0 : Sg := (fun _ => [(1, 0)], [], fun _ => none, [])
theorem tok1 : Tok [(1, 0)] := ⟨WF_of ⟨⟨0, [], rfl, Or.inr (Or.inl ⟨rfl, by decide⟩)⟩, trivial⟩ rfl, by decide⟩
theorem σ0_ok : SOk σ0 := ⟨fun _ _ => tok1, fun st h => (by cases h), fun s _ st h => (by cases h), Nat.zero_le _, Nat.zero_le _, fun ch h => (by cases h)⟩
section MAKE
variable {S : mS}
theorem z_iniL : ∀ (n k : Nat) (c : Nat → Nat → Int32) (T : Nat → Tm), n + k = 6 → CS c T → (∀ r, r < k → T r = [(1, 0)]) → (∀ r, k ≤ r → T r = []) → ∃ c' T', CS c' T' ∧ (∀ r, r < 6 → T' r = [(1, 0)]) ∧ (∀ r, 6 ≤ r → T' r = []) ∧ sx [3, 5] c c' ∧ ∀ (t : mM) (K : Option Value → mM → Prop), go S 54 77 [.ref 0, .int (nI k)] [] (mk c t) K = K none (mk c' t)
  | 0, k, c, T, hn, h, h1, h2 => by
    have e : k = 6 := by omega
    subst e
    refine ⟨c, T, h, h1, h2, sx_rf, fun t K => ?_⟩
    rw [g54_77]
    simp only [↓g54_0, ↓g54_1, ↓g54_4, ↓g54_5, ↓g54_8, ↓g54_9, ↓g54_12, ↓g54_15, ↓g54_16, ↓g54_19, ↓g54_20, ↓g54_21, ↓g54_24, ↓g54_27, ↓g54_30, ↓g54_31, ↓g54_34, ↓g54_35, ↓g54_36, ↓g54_39, ↓g54_40, ↓g54_43, ↓g54_46, ↓g54_49, ↓g54_50, ↓g54_53, ↓g54_54, ↓g54_55, ↓g54_58, ↓g54_61, ↓g54_64, ↓g54_65, ↓g54_68, ↓g54_69, ↓g54_72, ↓g54_75, ↓g54_76, ↓g54_78, ↓g54_80, ↓g54_83, ↓g54_84, ↓g54_87, ↓g54_88, ↓g54_89, ↓g54_90, ↓g54_93, ↓g54_96, ↓g54_99, show (6 : Int32) ≤ nI 6 from Int32.le_refl _, ↓reduceIte]
  | n + 1, k, c, T, hn, h, h1, h2 => by
    have e1 : ¬ (6 : Int32) ≤ nI k := nI_ge (b := 6) (by omega) (by decide)
    have ek : T k = [] := h2 k (Nat.le_refl _)
    have key : ∃ c1, CS c1 (tu T k [(1, 0)]) ∧ sx [3, 5] c c1 ∧ ∀ (t : mM) (K : Option Value → mM → Prop), go S 29 0 [.ref 1, .int (nI k), .int 1, .int 0, .null] [] (mk c t) K = K none (mk c1 t) := by
      have hT := h k (by omega)
      have e2 : 200 * k < 11400 := by omega
      refine ⟨ca (ca c 5 (upd (c 5) (200 * k) (1 * 256 + 0))) 3 (upd (c 3) k (0 + 1)), fun j hj => ?_, sx_tr (sx_ca (by simp)) (sx_ca (by simp)), fun t K => ?_⟩
      · by_cases e : j = k
        · subst e
          rw [tu_eq]
          refine ⟨by decide, by rw [ca_eq, upd_eq]; rfl, fun p hp => ?_⟩
          have hp : p < 1 := hp
          have e0 : p = 0 := by omega
          subst e0
          refine ⟨?_, by decide, by decide⟩
          rw [ca_ne (by decide), ca_eq, Nat.add_zero, upd_eq]
          rfl
        · rw [tu_ne e]
          obtain ⟨b1, b2, b3⟩ := h j hj
          refine ⟨b1, by rw [ca_eq, upd_ne e]; exact b2, fun p hp => ?_⟩
          rw [ca_ne (by decide), ca_eq, upd_ne (by omega)]
          exact b3 p hp
      · have e3 : rg 57 (c 3) (nI k) = 0 := by
          rw [rg_in (by omega) (by decide), hT.2.1, ek]
          rfl
        have e4 : nI k * 200 + 0 = nI (200 * k) := by rw [l_200, pk_mul, Int32.add_zero, Nat.mul_comm]
        simp only [↓g29_0, ↓g29_1, ↓g29_4, ↓g29_5, ↓g29_8, ↓g29_10, ↓g29_12, ↓g29_15, ↓g29_18, ↓g29_19, ↓g29_22, ↓g29_23, ↓g29_26, ↓g29_27, ↓g29_29, ↓g29_30, ↓g29_31, ↓g29_34, ↓g29_35, ↓g29_36, ↓g29_37, ↓g29_40, ↓g29_41, ↓g29_44, ↓g29_45, ↓g29_47, ↓g29_48, ↓g29_49, ↓g29_52, ↓mo_0, ↓mf_0_0, ↓mf_0_1, ↓mf_0_2, ↓mf_0_3, ↓mf_0_4, ↓mo_1, ↓mf_1_0, ↓mf_1_1, ↓mo_2, ↓mf_2_0, ↓mo_4, ↓mf_4_0, ↓mo_6, ↓mf_6_0, ↓mf_6_1, ↓mf_6_2, ↓mf_6_3, ↓mp_6_4, ↓mf_6_4, ↓mp_6_5, ↓mf_6_5, ↓mo_7, ↓mf_7_0, ↓mo_9, ↓mf_9_0, ↓mo_11, ↓mf_11_0, ↓mo_13, ↓mf_13_0, ↓mf_13_1, ↓mp_13_2, ↓mf_13_2, ↓mp_13_3, ↓mf_13_3, ↓mo_14, ↓mf_14_0, ↓mp_14_1, ↓mf_14_1, ↓mp_14_2, ↓mf_14_2, ↓mo_15, ↓mf_15_0, ↓mf_15_1, ↓mp_15_2, ↓mf_15_2, ↓mo_16, ↓mf_16_0, ↓mo_18, ↓mf_18_0, ↓ma_3, ↓ms_3, ↓ma_5, ↓ms_5, ↓ma_8, ↓ms_8, ↓ma_10, ↓ms_10, ↓ma_12, ↓ms_12, ↓ma_17, ↓ms_17, ↓ma_19, ↓ms_19, ↓bnd_some, ↓cond_true, ↓m_pv_none, ↓m_pv_some, m_b01_0, m_b01_1, true_and, and_true, ↓r_get_2, ↓r_get_4, ↓r_get_7, ↓r_get_9, ↓r_get_11, ↓r_get_16, ↓r_get_18, ↓r_set_2, ↓r_set_4, ↓r_set_7, ↓r_set_9, ↓r_set_11, ↓r_set_16, ↓r_set_18, e3, e4, show ((200 : Int32) ≤ 0) = False from eq_false (by decide), rs_in e2 (by decide : 11400 < 2 ^ 31), rs_in (show k < 57 by omega) (by decide : 57 < 2 ^ 31), ca_ne (show (3 : Nat) ≠ 5 by decide), ↓reduceIte]
    obtain ⟨c1, b1, b2, b3⟩ := key
    obtain ⟨c2, T2, q1, q2, q3, q4, q5⟩ := z_iniL n (k + 1) c1 (tu T k [(1, 0)]) (by omega) b1 (fun r hr => by
      by_cases e : r = k
      · subst e; exact tu_eq _ _ _
      · rw [tu_ne e]; exact h1 r (by omega)) (fun r hr => by rw [tu_ne (by omega)]; exact h2 r (by omega))
    refine ⟨c2, T2, q1, q2, q3, sx_tr b2 q4, fun t K => ?_⟩
    rw [g54_77]
    simp only [↓g54_0, ↓g54_1, ↓g54_4, ↓g54_5, ↓g54_8, ↓g54_9, ↓g54_12, ↓g54_15, ↓g54_16, ↓g54_19, ↓g54_20, ↓g54_21, ↓g54_24, ↓g54_27, ↓g54_30, ↓g54_31, ↓g54_34, ↓g54_35, ↓g54_36, ↓g54_39, ↓g54_40, ↓g54_43, ↓g54_46, ↓g54_49, ↓g54_50, ↓g54_53, ↓g54_54, ↓g54_55, ↓g54_58, ↓g54_61, ↓g54_64, ↓g54_65, ↓g54_68, ↓g54_69, ↓g54_72, ↓g54_75, ↓g54_76, ↓g54_78, ↓g54_80, ↓g54_83, ↓g54_84, ↓g54_87, ↓g54_88, ↓g54_89, ↓g54_90, ↓g54_93, ↓g54_96, ↓g54_99, ↓mo_0, ↓mf_0_0, ↓mf_0_1, ↓mf_0_2, ↓mf_0_3, ↓mf_0_4, ↓mo_1, ↓mf_1_0, ↓mf_1_1, ↓mo_2, ↓mf_2_0, ↓mo_4, ↓mf_4_0, ↓mo_6, ↓mf_6_0, ↓mf_6_1, ↓mf_6_2, ↓mf_6_3, ↓mp_6_4, ↓mf_6_4, ↓mp_6_5, ↓mf_6_5, ↓mo_7, ↓mf_7_0, ↓mo_9, ↓mf_9_0, ↓mo_11, ↓mf_11_0, ↓mo_13, ↓mf_13_0, ↓mf_13_1, ↓mp_13_2, ↓mf_13_2, ↓mp_13_3, ↓mf_13_3, ↓mo_14, ↓mf_14_0, ↓mp_14_1, ↓mf_14_1, ↓mp_14_2, ↓mf_14_2, ↓mo_15, ↓mf_15_0, ↓mf_15_1, ↓mp_15_2, ↓mf_15_2, ↓mo_16, ↓mf_16_0, ↓mo_18, ↓mf_18_0, ↓ma_3, ↓ms_3, ↓ma_5, ↓ms_5, ↓ma_8, ↓ms_8, ↓ma_10, ↓ms_10, ↓ma_12, ↓ms_12, ↓ma_17, ↓ms_17, ↓ma_19, ↓ms_19, ↓bnd_some, ↓cond_true, ↓m_pv_none, ↓m_pv_some, m_b01_0, m_b01_1, true_and, and_true, e1, ↓b3, nI_1, ↓reduceIte]
    exact q5 t K
theorem z_C : ∃ c, CI c σ0 ∧ ∀ (t : mM) (K : Option Value → mM → Prop), go S 54 77 [.ref 0, .int 0] [] (mk (fun _ _ => 0) t) K = K none (mk c t) := by
  obtain ⟨c, T, h1, h2, h3, h4, h5⟩ := z_iniL (S := S) 6 0 (fun _ _ => 0) (fun _ => []) rfl (fun i _ => ⟨Nat.zero_le _, rfl, fun p hp => absurd hp (Nat.not_lt_zero p)⟩) (fun r hr => absurd hr (Nat.not_lt_zero r)) (fun _ _ => rfl)
  refine ⟨c, ⟨T, 0, h1, h2, by decide, ?_, ?_, fun j hj => absurd hj (Nat.not_lt_zero j), fun s hs r hr => h3 _ (by omega), Nat.zero_le _, ?_, fun j hj => absurd hj (Nat.not_lt_zero j)⟩, h5⟩
  · rw [h4 14 (by simp)]; rfl
  · rw [h4 14 (by simp)]; rfl
  · rw [h4 15 (by simp)]; rfl
theorem z_iniM {c : Nat → Nat → Int32} : ∀ (n k : Nat) (d : Nat → Nat → Int32), n + k = 6 → (∀ r, r < k → d 1 r = 1 ∧ d 1 (6 + 200 * r) = 1000) → ∃ d', (∀ r, r < 6 → d' 1 r = 1 ∧ d' 1 (6 + 200 * r) = 1000) ∧ mx [1] [] d d' ∧ ∀ (K : Option Value → mM → Prop), go S 82 102 [.ref 20, .int (nI k)] [] (mk c (md d)) K = K none (mk c (md d'))
  | 0, k, d, hn, h => by
    have e : k = 6 := by omega
    subst e
    refine ⟨d, h, mx_rf, fun K => ?_⟩
    rw [g82_102]
    simp only [↓g82_0, ↓g82_1, ↓g82_4, ↓g82_5, ↓g82_8, ↓g82_10, ↓g82_13, ↓g82_14, ↓g82_17, ↓g82_19, ↓g82_22, ↓g82_23, ↓g82_26, ↓g82_28, ↓g82_31, ↓g82_32, ↓g82_33, ↓g82_35, ↓g82_38, ↓g82_39, ↓g82_41, ↓g82_43, ↓g82_46, ↓g82_47, ↓g82_50, ↓g82_52, ↓g82_55, ↓g82_56, ↓g82_59, ↓g82_61, ↓g82_64, ↓g82_65, ↓g82_68, ↓g82_70, ↓g82_73, ↓g82_74, ↓g82_77, ↓g82_79, ↓g82_82, ↓g82_83, ↓g82_86, ↓g82_88, ↓g82_91, ↓g82_92, ↓g82_95, ↓g82_97, ↓g82_100, ↓g82_101, ↓g82_103, ↓g82_105, ↓g82_108, ↓g82_109, ↓g82_112, ↓g82_113, ↓g82_114, ↓g82_115, ↓g82_116, ↓g82_119, ↓g82_121, ↓g82_124, ↓g82_125, ↓g82_126, ↓g82_127, ↓g82_130, ↓g82_131, ↓g82_134, ↓g82_137, show (6 : Int32) ≤ nI 6 from Int32.le_refl _, ↓reduceIte]
  | n + 1, k, d, hn, h => by
    have e1 : ¬ (6 : Int32) ≤ nI k := nI_ge (b := 6) (by omega) (by decide)
    have e2 : (6 : Int32) + 200 * nI k = nI (6 + 200 * k) := by rw [l_6, l_200, pk_mul, nI_add]
    obtain ⟨d2, q1, q2, q3⟩ := z_iniM (c := c) n (k + 1) (ca d 1 (upd (upd (d 1) k 1) (6 + 200 * k) 1000)) (by omega) (fun r hr => by
      rw [ca_eq]
      by_cases e : r = k
      · subst e
        rw [upd_ne (by omega), upd_eq, upd_eq]
        exact ⟨rfl, rfl⟩
      · rw [upd_ne (by omega), upd_ne e, upd_ne (by omega), upd_ne (by omega)]
        exact h r (by omega))
    refine ⟨d2, q1, mx_tr (mx_ca (by simp) (by decide)) q2, fun K => ?_⟩
    rw [g82_102]
    simp only [↓g82_0, ↓g82_1, ↓g82_4, ↓g82_5, ↓g82_8, ↓g82_10, ↓g82_13, ↓g82_14, ↓g82_17, ↓g82_19, ↓g82_22, ↓g82_23, ↓g82_26, ↓g82_28, ↓g82_31, ↓g82_32, ↓g82_33, ↓g82_35, ↓g82_38, ↓g82_39, ↓g82_41, ↓g82_43, ↓g82_46, ↓g82_47, ↓g82_50, ↓g82_52, ↓g82_55, ↓g82_56, ↓g82_59, ↓g82_61, ↓g82_64, ↓g82_65, ↓g82_68, ↓g82_70, ↓g82_73, ↓g82_74, ↓g82_77, ↓g82_79, ↓g82_82, ↓g82_83, ↓g82_86, ↓g82_88, ↓g82_91, ↓g82_92, ↓g82_95, ↓g82_97, ↓g82_100, ↓g82_101, ↓g82_103, ↓g82_105, ↓g82_108, ↓g82_109, ↓g82_112, ↓g82_113, ↓g82_114, ↓g82_115, ↓g82_116, ↓g82_119, ↓g82_121, ↓g82_124, ↓g82_125, ↓g82_126, ↓g82_127, ↓g82_130, ↓g82_131, ↓g82_134, ↓g82_137, ↓mo_20, ↓mf_20_0, ↓mf_20_1, ↓mp_20_2, ↓mf_20_2, ↓mf_20_3, ↓mf_20_4, ↓mf_20_5, ↓mp_20_6, ↓mf_20_6, ↓mf_20_7, ↓mp_20_8, ↓mf_20_8, ↓mf_20_9, ↓mf_20_10, ↓mp_20_11, ↓mf_20_11, ↓mf_20_12, ↓mf_20_13, ↓mp_20_14, ↓mf_20_14, ↓mf_20_15, ↓mp_20_16, ↓mf_20_16, ↓ma_21, ↓ms_21, ↓ma_22, ↓ms_22, ↓ma_23, ↓ms_23, ↓ma_24, ↓ms_24, ↓ma_25, ↓ms_25, ↓ma_26, ↓ms_26, ↓ma_27, ↓ms_27, ↓ma_28, ↓ms_28, ↓ma_29, ↓ms_29, ↓ma_30, ↓ms_30, ↓ma_31, ↓ms_31, ↓bnd_some, ↓cond_true, ↓m_pv_none, ↓m_pv_some, m_b01_0, m_b01_1, true_and, and_true, eq_self, e1, ib (show k < 1206 by omega), nI_clamp (show k < 2 ^ 31 by omega), ca_eq, ca_ca, e2, ib (show 6 + 200 * k < 1206 by omega), nI_clamp (show 6 + 200 * k < 2 ^ 31 by omega), nI_1, ↓reduceIte]
    exact q3 K
theorem z_M {c : Nat → Nat → Int32} : ∃ d, MI d σ0 ∧ ∀ (K : Option Value → mM → Prop), go S 82 102 [.ref 20, .int 0] [] (mk c (md (fun _ _ => 0))) K = K none (mk c (md d)) := by
  obtain ⟨d, h1, h2, h3⟩ := z_iniM (S := S) (c := c) 6 0 (fun _ _ => 0) rfl (fun r hr => absurd hr (Nat.not_lt_zero r))
  refine ⟨d, ⟨fun r hr => ⟨by rw [Nat.zero_add]; exact (h1 r hr).1, fun p hp => ?_⟩, ⟨?_, fun j hj => absurd hj (Nat.not_lt_zero j)⟩, fun s hs => ?_, ?_, fun j hj => absurd hj (Nat.not_lt_zero j)⟩, h3⟩
  · have hp : p < 1 := hp
    have e0 : p = 0 := by omega
    subst e0
    rw [Nat.zero_add, Nat.add_zero, (h1 r hr).2]
    rfl
  · rw [h2.2 2 (by simp)]; rfl
  · show d 4 s = 0
    rw [h2.1 4 (by decide) (by simp)]
  · rw [h2.2 6 (by simp)]; rfl
end MAKE
