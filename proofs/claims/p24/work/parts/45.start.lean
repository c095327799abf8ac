/-! what the made objects hold -/
def σ0 : Sg := (fun _ => [(1, 0)], [], fun _ => none, [])
theorem tok1 : Tok [(1, 0)] := ⟨WF_of ⟨⟨0, [], rfl, Or.inr (Or.inl ⟨rfl, by decide⟩)⟩, trivial⟩ rfl, by decide⟩
theorem σ0_ok : SOk σ0 := ⟨fun _ _ => tok1, fun st h => (by cases h), fun s _ st h => (by cases h), Nat.zero_le _, Nat.zero_le _, fun ch h => (by cases h)⟩
section MAKE
variable {S : mS}
theorem z_iniL : ∀ (n k : Nat) (c : Nat → Nat → Int32) (T : Nat → Tm), n + k = 6 → CS c T → (∀ r, r < k → T r = [(1, 0)]) → (∀ r, k ≤ r → T r = []) → ∃ c' T', CS c' T' ∧ (∀ r, r < 6 → T' r = [(1, 0)]) ∧ (∀ r, 6 ≤ r → T' r = []) ∧ sx [3, 5] c c' ∧ ∀ (t : mM) (K : Option Value → mM → Prop), go S 49 77 [.ref 0, .int (nI k)] [] (mk c t) K = K none (mk c' t)
  | 0, k, c, T, hn, h, h1, h2 => by
    have e : k = 6 := by omega
    subst e
    refine ⟨c, T, h, h1, h2, sx_rf, fun t K => ?_⟩
    rw [g49_77]
    simp only [↓g49_0, ↓g49_1, ↓g49_4, ↓g49_5, ↓g49_8, ↓g49_9, ↓g49_12, ↓g49_15, ↓g49_16, ↓g49_19, ↓g49_20, ↓g49_21, ↓g49_24, ↓g49_27, ↓g49_30, ↓g49_31, ↓g49_34, ↓g49_35, ↓g49_36, ↓g49_39, ↓g49_40, ↓g49_43, ↓g49_46, ↓g49_49, ↓g49_50, ↓g49_53, ↓g49_54, ↓g49_55, ↓g49_58, ↓g49_61, ↓g49_64, ↓g49_65, ↓g49_68, ↓g49_69, ↓g49_72, ↓g49_75, ↓g49_76, ↓g49_78, ↓g49_80, ↓g49_83, ↓g49_84, ↓g49_87, ↓g49_88, ↓g49_89, ↓g49_90, ↓g49_93, ↓g49_96, ↓g49_99, show (6 : Int32) ≤ nI 6 from Int32.le_refl _, ↓reduceIte]
  | n + 1, k, c, T, hn, h, h1, h2 => by
    have e1 : ¬ (6 : Int32) ≤ nI k := nI_ge (b := 6) (by omega) (by decide)
    have ek : T k = [] := h2 k (Nat.le_refl _)
    have key : ∃ c1, CS c1 (tu T k [(1, 0)]) ∧ sx [3, 5] c c1 ∧ ∀ (t : mM) (K : Option Value → mM → Prop), go S 26 0 [.ref 1, .int (nI k), .int 1, .int 0, .null] [] (mk c t) K = K none (mk c1 t) := by
      have hT := h k (by omega)
      have e2 : 200 * k < 11400 := by omega
      refine ⟨ca (ca c 5 (upd (c 5) (200 * k) (1 * 256 + 0))) 3 (upd (c 3) k (0 + 1)), fun j hj => ?_, sx_tr (sx_ca (by simp)) (sx_ca (by simp)), fun t K => ?_⟩
      · by_cases e : j = k
        · subst e
          rw [tu_eq]
          refine ⟨by decide, by rw [ca_eq, upd_eq]; rfl, fun p hp => ?_⟩
          have hp : p < 1 := hp
          have e0 : p = 0 := by omega
          subst e0
          refine ⟨?_, by decide, by decide⟩
          rw [ca_ne (by decide), ca_eq, Nat.add_zero, upd_eq]
          rfl
        · rw [tu_ne e]
          obtain ⟨b1, b2, b3⟩ := h j hj
          refine ⟨b1, by rw [ca_eq, upd_ne e]; exact b2, fun p hp => ?_⟩
          rw [ca_ne (by decide), ca_eq, upd_ne (by omega)]
          exact b3 p hp
      · have e3 : rg 57 (c 3) (nI k) = 0 := by
          rw [rg_in (by omega) (by decide), hT.2.1, ek]
          rfl
        have e4 : nI k * 200 + 0 = nI (200 * k) := by rw [l_200, pk_mul, Int32.add_zero, Nat.mul_comm]
        simp only [↓g26_0, ↓g26_1, ↓g26_4, ↓g26_5, ↓g26_8, ↓g26_10, ↓g26_12, ↓g26_15, ↓g26_18, ↓g26_19, ↓g26_22, ↓g26_23, ↓g26_26, ↓g26_27, ↓g26_29, ↓g26_30, ↓g26_31, ↓g26_34, ↓g26_35, ↓g26_36, ↓g26_37, ↓g26_40, ↓g26_41, ↓g26_44, ↓g26_45, ↓g26_47, ↓g26_48, ↓g26_49, ↓g26_52, ↓mo_0, ↓mf_0_0, ↓mf_0_1, ↓mf_0_2, ↓mf_0_3, ↓mf_0_4, ↓mo_1, ↓mf_1_0, ↓mf_1_1, ↓mo_2, ↓mf_2_0, ↓mo_4, ↓mf_4_0, ↓mo_6, ↓mf_6_0, ↓mf_6_1, ↓mf_6_2, ↓mf_6_3, ↓mp_6_4, ↓mf_6_4, ↓mp_6_5, ↓mf_6_5, ↓mo_7, ↓mf_7_0, ↓mo_9, ↓mf_9_0, ↓mo_11, ↓mf_11_0, ↓mo_13, ↓mf_13_0, ↓mf_13_1, ↓mp_13_2, ↓mf_13_2, ↓mp_13_3, ↓mf_13_3, ↓mo_14, ↓mf_14_0, ↓mp_14_1, ↓mf_14_1, ↓mp_14_2, ↓mf_14_2, ↓mo_15, ↓mf_15_0, ↓mf_15_1, ↓mp_15_2, ↓mf_15_2, ↓mo_16, ↓mf_16_0, ↓mo_18, ↓mf_18_0, ↓ma_3, ↓ms_3, ↓ma_5, ↓ms_5, ↓ma_8, ↓ms_8, ↓ma_10, ↓ms_10, ↓ma_12, ↓ms_12, ↓ma_17, ↓ms_17, ↓ma_19, ↓ms_19, ↓bnd_some, ↓cond_true, ↓m_pv_none, ↓m_pv_some, m_b01_0, m_b01_1, true_and, and_true, ↓r_get_2, ↓r_get_4, ↓r_get_7, ↓r_get_9, ↓r_get_11, ↓r_get_16, ↓r_get_18, ↓r_set_2, ↓r_set_4, ↓r_set_7, ↓r_set_9, ↓r_set_11, ↓r_set_16, ↓r_set_18, e3, e4, show ((200 : Int32) ≤ 0) = False from eq_false (by decide), rs_in e2 (by decide : 11400 < 2 ^ 31), rs_in (show k < 57 by omega) (by decide : 57 < 2 ^ 31), ca_ne (show (3 : Nat) ≠ 5 by decide), ↓reduceIte]
    obtain ⟨c1, b1, b2, b3⟩ := key
    obtain ⟨c2, T2, q1, q2, q3, q4, q5⟩ := z_iniL n (k + 1) c1 (tu T k [(1, 0)]) (by omega) b1 (fun r hr => by
      by_cases e : r = k
      · subst e; exact tu_eq _ _ _
      · rw [tu_ne e]; exact h1 r (by omega)) (fun r hr => by rw [tu_ne (by omega)]; exact h2 r (by omega))
    refine ⟨c2, T2, q1, q2, q3, sx_tr b2 q4, fun t K => ?_⟩
    rw [g49_77]
    simp only [↓g49_0, ↓g49_1, ↓g49_4, ↓g49_5, ↓g49_8, ↓g49_9, ↓g49_12, ↓g49_15, ↓g49_16, ↓g49_19, ↓g49_20, ↓g49_21, ↓g49_24, ↓g49_27, ↓g49_30, ↓g49_31, ↓g49_34, ↓g49_35, ↓g49_36, ↓g49_39, ↓g49_40, ↓g49_43, ↓g49_46, ↓g49_49, ↓g49_50, ↓g49_53, ↓g49_54, ↓g49_55, ↓g49_58, ↓g49_61, ↓g49_64, ↓g49_65, ↓g49_68, ↓g49_69, ↓g49_72, ↓g49_75, ↓g49_76, ↓g49_78, ↓g49_80, ↓g49_83, ↓g49_84, ↓g49_87, ↓g49_88, ↓g49_89, ↓g49_90, ↓g49_93, ↓g49_96, ↓g49_99, ↓mo_0, ↓mf_0_0, ↓mf_0_1, ↓mf_0_2, ↓mf_0_3, ↓mf_0_4, ↓mo_1, ↓mf_1_0, ↓mf_1_1, ↓mo_2, ↓mf_2_0, ↓mo_4, ↓mf_4_0, ↓mo_6, ↓mf_6_0, ↓mf_6_1, ↓mf_6_2, ↓mf_6_3, ↓mp_6_4, ↓mf_6_4, ↓mp_6_5, ↓mf_6_5, ↓mo_7, ↓mf_7_0, ↓mo_9, ↓mf_9_0, ↓mo_11, ↓mf_11_0, ↓mo_13, ↓mf_13_0, ↓mf_13_1, ↓mp_13_2, ↓mf_13_2, ↓mp_13_3, ↓mf_13_3, ↓mo_14, ↓mf_14_0, ↓mp_14_1, ↓mf_14_1, ↓mp_14_2, ↓mf_14_2, ↓mo_15, ↓mf_15_0, ↓mf_15_1, ↓mp_15_2, ↓mf_15_2, ↓mo_16, ↓mf_16_0, ↓mo_18, ↓mf_18_0, ↓ma_3, ↓ms_3, ↓ma_5, ↓ms_5, ↓ma_8, ↓ms_8, ↓ma_10, ↓ms_10, ↓ma_12, ↓ms_12, ↓ma_17, ↓ms_17, ↓ma_19, ↓ms_19, ↓bnd_some, ↓cond_true, ↓m_pv_none, ↓m_pv_some, m_b01_0, m_b01_1, true_and, and_true, e1, ↓b3, nI_1, ↓reduceIte]
    exact q5 t K
theorem z_C : ∃ c, CI c σ0 ∧ ∀ (t : mM) (K : Option Value → mM → Prop), go S 49 77 [.ref 0, .int 0] [] (mk (fun _ _ => 0) t) K = K none (mk c t) := by
  obtain ⟨c, T, h1, h2, h3, h4, h5⟩ := z_iniL (S := S) 6 0 (fun _ _ => 0) (fun _ => []) rfl (fun i _ => ⟨Nat.zero_le _, rfl, fun p hp => absurd hp (Nat.not_lt_zero p)⟩) (fun r hr => absurd hr (Nat.not_lt_zero r)) (fun _ _ => rfl)
  refine ⟨c, ⟨T, 0, h1, h2, by decide, ?_, ?_, fun j hj => absurd hj (Nat.not_lt_zero j), fun s hs r hr => h3 _ (by omega), Nat.zero_le _, ?_, fun j hj => absurd hj (Nat.not_lt_zero j)⟩, h5⟩
  · rw [h4 14 (by simp)]; rfl
  · rw [h4 14 (by simp)]; rfl
  · rw [h4 15 (by simp)]; rfl
end MAKE

