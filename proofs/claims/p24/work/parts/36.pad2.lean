/-! Pad: the fault, the term that a text is -/
theorem nI_m6 {n : Nat} (h : n < 2 ^ 31) : ¬ nI n = -6 := fun z => by
  have z2 := congrArg Int32.toInt z
  rw [nI_toInt h] at z2
  have e6 : (-6 : Int32).toInt = -6 := by decide
  omega
theorem tm1_kd {ch q : Nat} (h : kOf ch = some q) : (tm1 ch).1 = q := by
  unfold tm1
  rw [h]
  have hq := kOf_le h
  rcases (by omega : q = 0 ∨ q = 1 ∨ q = 2 ∨ q = 3) with rfl | rfl | rfl | rfl <;> rfl
theorem tm1_nu {ch q : Nat} (h : kOf ch = some q) : (tm1 ch).2 = if q = 0 then ch - 48 else if q = 1 then ch - 97 else 0 := by
  unfold tm1
  rw [h]
  have hq := kOf_le h
  rcases (by omega : q = 0 ∨ q = 1 ∨ q = 2 ∨ q = 3) with rfl | rfl | rfl | rfl <;> rfl
theorem kOf_1 {ch : Nat} (h : kOf ch = some 1) : 97 ≤ ch ∧ ch < 103 := by
  unfold kOf at h
  split at h
  · cases h
  · split at h
    · cases h
    · split at h
      · cases h
      · split at h
        · assumption
        · cases h
theorem kOf_0 {ch : Nat} (h : kOf ch = some 0) : 48 ≤ ch ∧ ch ≤ 57 := by
  unfold kOf at h
  split at h
  · cases h
  · split at h
    · cases h
    · split at h
      · assumption
      · split at h
        · cases h
        · cases h
theorem flt_ok : ∀ {P : List Nat} {s : List Nat} {k : Nat}, k + P.length < 1000 → flt P s k = -6 → okL (P.map tm1) s ∧ skL (P.map tm1) s = [] ∧ ∀ ch ∈ P, ∃ q, kOf ch = some q
  | [], s, k, hk, h => by
    unfold flt at h
    split at h
    · rename_i e
      subst e
      exact ⟨trivial, rfl, fun ch hc => by cases hc⟩
    · exact absurd h (nI_m6 (by simp at hk; omega))
  | ch :: P, [], k, hk, h => absurd h (nI_m6 (by omega))
  | ch :: P, d :: s', k, hk, h => by
    unfold flt at h
    simp only at h
    cases hq : kOf ch with
    | none =>
      rw [hq] at h
      exact absurd h (nI_m6 (by omega))
    | some q =>
      rw [hq] at h
      simp only at h
      split at h
      · exact absurd h (nI_m6 (by omega))
      · rename_i hc
        rw [List.length_cons] at hk
        obtain ⟨i1, i2, i3⟩ := flt_ok (by omega) h
        have e : stq (q, 0) (d :: s') = stq (tm1 ch) (d :: s') := by
          unfold stq
          rw [tm1_kd hq]
        rw [e] at i1 i2
        refine ⟨⟨⟨d, s', rfl, ?_⟩, i1⟩, i2, fun c hc2 => ?_⟩
        · have h1 := tm1_kd hq
          have h2 := tm1_nu hq
          have h3 := kOf_le hq
          unfold okq
          rw [h1, h2]
          rcases (by omega : q = 0 ∨ q = 1 ∨ q = 2 ∨ q = 3) with rfl | rfl | rfl | rfl
          · rw [if_pos rfl]
            omega
          · have := kOf_1 hq
            rw [if_neg (by decide), if_pos rfl]
            omega
          · rw [if_neg (by decide), if_neg (by decide)]
            omega
          · rw [if_neg (by decide), if_neg (by decide)]
            omega
        · rcases List.mem_cons.mp hc2 with e2 | e2
          · exact ⟨q, e2 ▸ hq⟩
          · exact i3 c e2
/-- a text without a fault is a term -/
theorem flt_WF {P : List Nat} (hP : Pok P) (h : flt P [0] 0 = -6) : Tok (P.map tm1) := by
  obtain ⟨h1, h2, -⟩ := flt_ok (by have := hP.1; omega) h
  exact ⟨WF_of h1 h2, by rw [List.length_map]; have := hP.1; omega⟩
theorem stq_cons (q : Nat × Nat) (d : Nat) (s : List Nat) : stq q (d :: s) = if q.1 = 2 then (d + 1) :: s else if q.1 = 3 then d :: d :: s else s := rfl
/-- the depths that are awaited stand in the row, the next one last -/
def AW (f : Nat → Int32) (s : List Nat) : Prop := ∀ i, i < s.length → f i = nI (s.getD (s.length - 1 - i) 0)
theorem getD_lt {s : List Nat} {b : Nat} (h : ∀ d ∈ s, d ≤ b) (i : Nat) : s.getD i 0 ≤ b := by
  rw [List.getD_eq_getElem?_getD]
  cases hs : s[i]? with
  | none => exact Nat.zero_le _
  | some d => exact h d (List.mem_of_getElem? hs)
theorem AW.hd {f : Nat → Int32} {d : Nat} {s : List Nat} (h : AW f (d :: s)) : f s.length = nI d := by
  have := h s.length (by rw [List.length_cons]; omega)
  rw [this, List.length_cons]
  simp
theorem AW.tl {f : Nat → Int32} {d : Nat} {s : List Nat} (h : AW f (d :: s)) : AW f s := fun i hi => by
  have := h i (by rw [List.length_cons]; omega)
  rw [this, List.length_cons, show s.length + 1 - 1 - i = (s.length - 1 - i) + 1 by omega, List.getD_cons_succ]
theorem AW.put {f : Nat → Int32} {d : Nat} {s : List Nat} (h : AW f s) : AW (upd f s.length (nI d)) (d :: s) := fun i hi => by
  rw [List.length_cons] at hi ⊢
  by_cases e : i = s.length
  · subst e
    rw [upd_eq]
    simp
  · rw [upd_ne e, h i (by omega), show s.length + 1 - 1 - i = (s.length - 1 - i) + 1 by omega, List.getD_cons_succ]
theorem drop_getD {P : List Nat} {k : Nat} (h : k < P.length) : P.drop k = P.getD k 0 :: P.drop (k + 1) := by
  rw [List.drop_eq_getElem_cons h]
  simp [List.getD_eq_getElem?_getD, h]
section PAD2
variable {S : mS} {t : mM} {T : Nat → Tm}
theorem p_wrongL {P : List Nat} (hPo : Pok P) : ∀ (n k : Nat) (s : List Nat) (c : Nat → Nat → Int32), n + k = P.length → s.length ≤ k + 1 → (∀ d ∈ s, d ≤ k) → PR c P → AW (c 19) s → ∃ c', sx [19] c c' ∧ ∀ (K : Option Value → mM → Prop) (j3 j4 j5 : Value), go S 7 13 [.ref 15, .int (nI s.length), .int (nI k), j3, j4, j5] [] (mk c t) K = K (some (.int (flt (P.drop k) s k))) (mk c' t)
  | 0, k, s, c, hk, hs, hd, h, hA => by
    have e : k = P.length := by omega
    subst e
    refine ⟨c, sx_rf, fun K j3 j4 j5 => ?_⟩
    have hP := hPo.1
    have e1 := nI_z (n := s.length) (by omega)
    rw [g7_13, List.drop_length]
    simp only [↓g7_0, ↓g7_1, ↓g7_2, ↓g7_3, ↓g7_6, ↓g7_7, ↓g7_8, ↓g7_11, ↓g7_12, ↓g7_14, ↓g7_15, ↓g7_18, ↓g7_21, ↓g7_22, ↓g7_25, ↓g7_26, ↓g7_27, ↓g7_28, ↓g7_31, ↓g7_32, ↓g7_33, ↓g7_34, ↓g7_37, ↓g7_38, ↓g7_39, ↓g7_42, ↓g7_43, ↓g7_46, ↓g7_48, ↓g7_50, ↓g7_53, ↓g7_55, ↓g7_57, ↓g7_59, ↓g7_62, ↓g7_64, ↓g7_67, ↓g7_69, ↓g7_71, ↓g7_72, ↓g7_73, ↓g7_76, ↓g7_77, ↓g7_78, ↓g7_80, ↓g7_81, ↓g7_84, ↓g7_85, ↓g7_88, ↓g7_89, ↓g7_90, ↓g7_91, ↓g7_92, ↓g7_93, ↓g7_94, ↓g7_97, ↓g7_100, ↓g7_102, ↓g7_103, ↓g7_106, ↓g7_107, ↓g7_110, ↓g7_111, ↓g7_112, ↓g7_115, ↓g7_118, ↓g7_121, ↓g7_124, ↓g7_127, ↓g7_130, ↓g7_131, ↓g7_134, ↓g7_136, ↓g7_139, ↓g7_140, ↓g7_143, ↓mo_0, ↓mf_0_0, ↓mf_0_1, ↓mf_0_2, ↓mf_0_3, ↓mf_0_4, ↓mo_1, ↓mf_1_0, ↓mf_1_1, ↓mo_2, ↓mf_2_0, ↓mo_4, ↓mf_4_0, ↓mo_6, ↓mf_6_0, ↓mf_6_1, ↓mf_6_2, ↓mf_6_3, ↓mp_6_4, ↓mf_6_4, ↓mp_6_5, ↓mf_6_5, ↓mo_7, ↓mf_7_0, ↓mo_9, ↓mf_9_0, ↓mo_11, ↓mf_11_0, ↓mo_13, ↓mf_13_0, ↓mf_13_1, ↓mp_13_2, ↓mf_13_2, ↓mp_13_3, ↓mf_13_3, ↓mo_14, ↓mf_14_0, ↓mp_14_1, ↓mf_14_1, ↓mp_14_2, ↓mf_14_2, ↓mo_15, ↓mf_15_0, ↓mf_15_1, ↓mp_15_2, ↓mf_15_2, ↓mo_16, ↓mf_16_0, ↓mo_18, ↓mf_18_0, ↓ma_3, ↓ms_3, ↓ma_5, ↓ms_5, ↓ma_8, ↓ms_8, ↓ma_10, ↓ms_10, ↓ma_12, ↓ms_12, ↓ma_17, ↓ms_17, ↓ma_19, ↓ms_19, ↓bnd_some, ↓cond_true, ↓m_pv_none, ↓m_pv_some, m_b01_0, m_b01_1, true_and, and_true, h.2.1, Int32.le_refl, if_true, e1, List.length_eq_zero_iff]
    unfold flt
    by_cases hz : s = []
    · simp only [hz, if_true, ↓g7_0, ↓g7_1, ↓g7_2, ↓g7_3, ↓g7_6, ↓g7_7, ↓g7_8, ↓g7_11, ↓g7_12, ↓g7_14, ↓g7_15, ↓g7_18, ↓g7_21, ↓g7_22, ↓g7_25, ↓g7_26, ↓g7_27, ↓g7_28, ↓g7_31, ↓g7_32, ↓g7_33, ↓g7_34, ↓g7_37, ↓g7_38, ↓g7_39, ↓g7_42, ↓g7_43, ↓g7_46, ↓g7_48, ↓g7_50, ↓g7_53, ↓g7_55, ↓g7_57, ↓g7_59, ↓g7_62, ↓g7_64, ↓g7_67, ↓g7_69, ↓g7_71, ↓g7_72, ↓g7_73, ↓g7_76, ↓g7_77, ↓g7_78, ↓g7_80, ↓g7_81, ↓g7_84, ↓g7_85, ↓g7_88, ↓g7_89, ↓g7_90, ↓g7_91, ↓g7_92, ↓g7_93, ↓g7_94, ↓g7_97, ↓g7_100, ↓g7_102, ↓g7_103, ↓g7_106, ↓g7_107, ↓g7_110, ↓g7_111, ↓g7_112, ↓g7_115, ↓g7_118, ↓g7_121, ↓g7_124, ↓g7_127, ↓g7_130, ↓g7_131, ↓g7_134, ↓g7_136, ↓g7_139, ↓g7_140, ↓g7_143, ↓mo_0, ↓mf_0_0, ↓mf_0_1, ↓mf_0_2, ↓mf_0_3, ↓mf_0_4, ↓mo_1, ↓mf_1_0, ↓mf_1_1, ↓mo_2, ↓mf_2_0, ↓mo_4, ↓mf_4_0, ↓mo_6, ↓mf_6_0, ↓mf_6_1, ↓mf_6_2, ↓mf_6_3, ↓mp_6_4, ↓mf_6_4, ↓mp_6_5, ↓mf_6_5, ↓mo_7, ↓mf_7_0, ↓mo_9, ↓mf_9_0, ↓mo_11, ↓mf_11_0, ↓mo_13, ↓mf_13_0, ↓mf_13_1, ↓mp_13_2, ↓mf_13_2, ↓mp_13_3, ↓mf_13_3, ↓mo_14, ↓mf_14_0, ↓mp_14_1, ↓mf_14_1, ↓mp_14_2, ↓mf_14_2, ↓mo_15, ↓mf_15_0, ↓mf_15_1, ↓mp_15_2, ↓mf_15_2, ↓mo_16, ↓mf_16_0, ↓mo_18, ↓mf_18_0, ↓ma_3, ↓ms_3, ↓ma_5, ↓ms_5, ↓ma_8, ↓ms_8, ↓ma_10, ↓ms_10, ↓ma_12, ↓ms_12, ↓ma_17, ↓ms_17, ↓ma_19, ↓ms_19, ↓bnd_some, ↓cond_true, ↓m_pv_none, ↓m_pv_some, m_b01_0, m_b01_1, true_and, and_true]
    · simp only [hz, if_false, ↓g7_0, ↓g7_1, ↓g7_2, ↓g7_3, ↓g7_6, ↓g7_7, ↓g7_8, ↓g7_11, ↓g7_12, ↓g7_14, ↓g7_15, ↓g7_18, ↓g7_21, ↓g7_22, ↓g7_25, ↓g7_26, ↓g7_27, ↓g7_28, ↓g7_31, ↓g7_32, ↓g7_33, ↓g7_34, ↓g7_37, ↓g7_38, ↓g7_39, ↓g7_42, ↓g7_43, ↓g7_46, ↓g7_48, ↓g7_50, ↓g7_53, ↓g7_55, ↓g7_57, ↓g7_59, ↓g7_62, ↓g7_64, ↓g7_67, ↓g7_69, ↓g7_71, ↓g7_72, ↓g7_73, ↓g7_76, ↓g7_77, ↓g7_78, ↓g7_80, ↓g7_81, ↓g7_84, ↓g7_85, ↓g7_88, ↓g7_89, ↓g7_90, ↓g7_91, ↓g7_92, ↓g7_93, ↓g7_94, ↓g7_97, ↓g7_100, ↓g7_102, ↓g7_103, ↓g7_106, ↓g7_107, ↓g7_110, ↓g7_111, ↓g7_112, ↓g7_115, ↓g7_118, ↓g7_121, ↓g7_124, ↓g7_127, ↓g7_130, ↓g7_131, ↓g7_134, ↓g7_136, ↓g7_139, ↓g7_140, ↓g7_143, ↓mo_0, ↓mf_0_0, ↓mf_0_1, ↓mf_0_2, ↓mf_0_3, ↓mf_0_4, ↓mo_1, ↓mf_1_0, ↓mf_1_1, ↓mo_2, ↓mf_2_0, ↓mo_4, ↓mf_4_0, ↓mo_6, ↓mf_6_0, ↓mf_6_1, ↓mf_6_2, ↓mf_6_3, ↓mp_6_4, ↓mf_6_4, ↓mp_6_5, ↓mf_6_5, ↓mo_7, ↓mf_7_0, ↓mo_9, ↓mf_9_0, ↓mo_11, ↓mf_11_0, ↓mo_13, ↓mf_13_0, ↓mf_13_1, ↓mp_13_2, ↓mf_13_2, ↓mp_13_3, ↓mf_13_3, ↓mo_14, ↓mf_14_0, ↓mp_14_1, ↓mf_14_1, ↓mp_14_2, ↓mf_14_2, ↓mo_15, ↓mf_15_0, ↓mf_15_1, ↓mp_15_2, ↓mf_15_2, ↓mo_16, ↓mf_16_0, ↓mo_18, ↓mf_18_0, ↓ma_3, ↓ms_3, ↓ma_5, ↓ms_5, ↓ma_8, ↓ms_8, ↓ma_10, ↓ms_10, ↓ma_12, ↓ms_12, ↓ma_17, ↓ms_17, ↓ma_19, ↓ms_19, ↓bnd_some, ↓cond_true, ↓m_pv_none, ↓m_pv_some, m_b01_0, m_b01_1, true_and, and_true, h.2.1]
  | n + 1, k, s, c, hk, hs, hd, h, hA => by
    have hP := hPo.1
    have hkP : k < P.length := by omega
    have e0 : ¬ nI P.length ≤ nI k := nI_ge (by omega) (by omega)
    have e1 := nI_z (n := s.length) (by omega)
    rw [drop_getD hkP]
    have hch : 33 ≤ P.getD k 0 ∧ P.getD k 0 ≤ 126 := by
      apply hPo.2
      rw [List.getD_eq_getElem?_getD, List.getElem?_eq_getElem hkP, Option.getD_some]
      exact List.getElem_mem _
    cases s with
    | nil =>
      refine ⟨c, sx_rf, fun K j3 j4 j5 => ?_⟩
      rw [g7_13]
      simp only [↓g7_0, ↓g7_1, ↓g7_2, ↓g7_3, ↓g7_6, ↓g7_7, ↓g7_8, ↓g7_11, ↓g7_12, ↓g7_14, ↓g7_15, ↓g7_18, ↓g7_21, ↓g7_22, ↓g7_25, ↓g7_26, ↓g7_27, ↓g7_28, ↓g7_31, ↓g7_32, ↓g7_33, ↓g7_34, ↓g7_37, ↓g7_38, ↓g7_39, ↓g7_42, ↓g7_43, ↓g7_46, ↓g7_48, ↓g7_50, ↓g7_53, ↓g7_55, ↓g7_57, ↓g7_59, ↓g7_62, ↓g7_64, ↓g7_67, ↓g7_69, ↓g7_71, ↓g7_72, ↓g7_73, ↓g7_76, ↓g7_77, ↓g7_78, ↓g7_80, ↓g7_81, ↓g7_84, ↓g7_85, ↓g7_88, ↓g7_89, ↓g7_90, ↓g7_91, ↓g7_92, ↓g7_93, ↓g7_94, ↓g7_97, ↓g7_100, ↓g7_102, ↓g7_103, ↓g7_106, ↓g7_107, ↓g7_110, ↓g7_111, ↓g7_112, ↓g7_115, ↓g7_118, ↓g7_121, ↓g7_124, ↓g7_127, ↓g7_130, ↓g7_131, ↓g7_134, ↓g7_136, ↓g7_139, ↓g7_140, ↓g7_143, ↓mo_0, ↓mf_0_0, ↓mf_0_1, ↓mf_0_2, ↓mf_0_3, ↓mf_0_4, ↓mo_1, ↓mf_1_0, ↓mf_1_1, ↓mo_2, ↓mf_2_0, ↓mo_4, ↓mf_4_0, ↓mo_6, ↓mf_6_0, ↓mf_6_1, ↓mf_6_2, ↓mf_6_3, ↓mp_6_4, ↓mf_6_4, ↓mp_6_5, ↓mf_6_5, ↓mo_7, ↓mf_7_0, ↓mo_9, ↓mf_9_0, ↓mo_11, ↓mf_11_0, ↓mo_13, ↓mf_13_0, ↓mf_13_1, ↓mp_13_2, ↓mf_13_2, ↓mp_13_3, ↓mf_13_3, ↓mo_14, ↓mf_14_0, ↓mp_14_1, ↓mf_14_1, ↓mp_14_2, ↓mf_14_2, ↓mo_15, ↓mf_15_0, ↓mf_15_1, ↓mp_15_2, ↓mf_15_2, ↓mo_16, ↓mf_16_0, ↓mo_18, ↓mf_18_0, ↓ma_3, ↓ms_3, ↓ma_5, ↓ms_5, ↓ma_8, ↓ms_8, ↓ma_10, ↓ms_10, ↓ma_12, ↓ms_12, ↓ma_17, ↓ms_17, ↓ma_19, ↓ms_19, ↓bnd_some, ↓cond_true, ↓m_pv_none, ↓m_pv_some, m_b01_0, m_b01_1, true_and, and_true, h.2.1, e0, if_false, List.length_nil, show nI 0 = 0 from rfl, if_true]
      rfl
    | cons d s' =>
      rw [List.length_cons] at hs e1
      have hds : d ≤ k := hd d List.mem_cons_self
      have e2 : nI (s'.length + 1) - 1 = nI s'.length := nI_pred _
      have e3 : rg 61 (c 19) (nI s'.length) = nI d := by
        rw [rg_in (by omega) (by decide)]
        exact hA.hd
      have e4 : rg 60 (c 17) (nI k) = nI (P.getD k 0) := by
        rw [rg_in (by omega) (by decide)]
        exact h.2.2 k hkP
      have g1 := fun c => p_kindOf (S := S) (mk c t) (ch := P.getD k 0) (by omega)
      have e5 : ¬ s'.length + 1 = 0 := by omega
      cases hq : kOf (P.getD k 0) with
      | none =>
        refine ⟨c, sx_rf, fun K j3 j4 j5 => ?_⟩
        rw [g7_13]
        simp only [↓g7_0, ↓g7_1, ↓g7_2, ↓g7_3, ↓g7_6, ↓g7_7, ↓g7_8, ↓g7_11, ↓g7_12, ↓g7_14, ↓g7_15, ↓g7_18, ↓g7_21, ↓g7_22, ↓g7_25, ↓g7_26, ↓g7_27, ↓g7_28, ↓g7_31, ↓g7_32, ↓g7_33, ↓g7_34, ↓g7_37, ↓g7_38, ↓g7_39, ↓g7_42, ↓g7_43, ↓g7_46, ↓g7_48, ↓g7_50, ↓g7_53, ↓g7_55, ↓g7_57, ↓g7_59, ↓g7_62, ↓g7_64, ↓g7_67, ↓g7_69, ↓g7_71, ↓g7_72, ↓g7_73, ↓g7_76, ↓g7_77, ↓g7_78, ↓g7_80, ↓g7_81, ↓g7_84, ↓g7_85, ↓g7_88, ↓g7_89, ↓g7_90, ↓g7_91, ↓g7_92, ↓g7_93, ↓g7_94, ↓g7_97, ↓g7_100, ↓g7_102, ↓g7_103, ↓g7_106, ↓g7_107, ↓g7_110, ↓g7_111, ↓g7_112, ↓g7_115, ↓g7_118, ↓g7_121, ↓g7_124, ↓g7_127, ↓g7_130, ↓g7_131, ↓g7_134, ↓g7_136, ↓g7_139, ↓g7_140, ↓g7_143, ↓mo_0, ↓mf_0_0, ↓mf_0_1, ↓mf_0_2, ↓mf_0_3, ↓mf_0_4, ↓mo_1, ↓mf_1_0, ↓mf_1_1, ↓mo_2, ↓mf_2_0, ↓mo_4, ↓mf_4_0, ↓mo_6, ↓mf_6_0, ↓mf_6_1, ↓mf_6_2, ↓mf_6_3, ↓mp_6_4, ↓mf_6_4, ↓mp_6_5, ↓mf_6_5, ↓mo_7, ↓mf_7_0, ↓mo_9, ↓mf_9_0, ↓mo_11, ↓mf_11_0, ↓mo_13, ↓mf_13_0, ↓mf_13_1, ↓mp_13_2, ↓mf_13_2, ↓mp_13_3, ↓mf_13_3, ↓mo_14, ↓mf_14_0, ↓mp_14_1, ↓mf_14_1, ↓mp_14_2, ↓mf_14_2, ↓mo_15, ↓mf_15_0, ↓mf_15_1, ↓mp_15_2, ↓mf_15_2, ↓mo_16, ↓mf_16_0, ↓mo_18, ↓mf_18_0, ↓ma_3, ↓ms_3, ↓ma_5, ↓ms_5, ↓ma_8, ↓ms_8, ↓ma_10, ↓ms_10, ↓ma_12, ↓ms_12, ↓ma_17, ↓ms_17, ↓ma_19, ↓ms_19, ↓bnd_some, ↓cond_true, ↓m_pv_none, ↓m_pv_some, m_b01_0, m_b01_1, true_and, and_true, ↓r_get_2, ↓r_get_4, ↓r_get_7, ↓r_get_9, ↓r_get_11, ↓r_get_16, ↓r_get_18, ↓r_set_2, ↓r_set_4, ↓r_set_7, ↓r_set_9, ↓r_set_11, ↓r_set_16, ↓r_set_18, h.2.1, e0, if_false, List.length_cons, e1, e5, e2, e3, e4, ↓g1, hq, show nbI none = -6 from rfl, if_true]
        conv => rhs; unfold flt
        simp only [hq]
      | some q =>
        have hql := kOf_le hq
        have e6 : ¬ nI q = -6 := nI_m6 (by omega)
        have z0 : (nI q = 0) ↔ q = 0 := nI_z (by omega)
        have z2 : (nI q = 2) ↔ q = 2 := nI_eq (b := 2) (by omega) (by decide)
        have z3 : (nI q = 3) ↔ q = 3 := nI_eq (b := 3) (by omega) (by decide)
        have hflt : flt (P.getD k 0 :: P.drop (k + 1)) (d :: s') k = if q = 0 ∧ d ≤ P.getD k 0 - 48 then nI k else flt (P.drop (k + 1)) (stq (q, 0) (d :: s')) (k + 1) := by
          conv => lhs; unfold flt
          simp only [hq]
        rw [hflt]
        by_cases hbad : q = 0 ∧ d ≤ P.getD k 0 - 48
        · refine ⟨c, sx_rf, fun K j3 j4 j5 => ?_⟩
          obtain ⟨rfl, hb⟩ := id hbad
          have h0 := kOf_0 hq
          have e7 : nI (P.getD k 0) - 48 = nI (P.getD k 0 - 48) := by rw [show (48 : Int32) = nI 48 from rfl, pk_sub (by omega)]
          have e8 : ¬ nI (P.getD k 0 - 48) < nI d := nI_nlt hb (by omega)
          rw [if_pos hbad, g7_13]
          simp only [↓g7_0, ↓g7_1, ↓g7_2, ↓g7_3, ↓g7_6, ↓g7_7, ↓g7_8, ↓g7_11, ↓g7_12, ↓g7_14, ↓g7_15, ↓g7_18, ↓g7_21, ↓g7_22, ↓g7_25, ↓g7_26, ↓g7_27, ↓g7_28, ↓g7_31, ↓g7_32, ↓g7_33, ↓g7_34, ↓g7_37, ↓g7_38, ↓g7_39, ↓g7_42, ↓g7_43, ↓g7_46, ↓g7_48, ↓g7_50, ↓g7_53, ↓g7_55, ↓g7_57, ↓g7_59, ↓g7_62, ↓g7_64, ↓g7_67, ↓g7_69, ↓g7_71, ↓g7_72, ↓g7_73, ↓g7_76, ↓g7_77, ↓g7_78, ↓g7_80, ↓g7_81, ↓g7_84, ↓g7_85, ↓g7_88, ↓g7_89, ↓g7_90, ↓g7_91, ↓g7_92, ↓g7_93, ↓g7_94, ↓g7_97, ↓g7_100, ↓g7_102, ↓g7_103, ↓g7_106, ↓g7_107, ↓g7_110, ↓g7_111, ↓g7_112, ↓g7_115, ↓g7_118, ↓g7_121, ↓g7_124, ↓g7_127, ↓g7_130, ↓g7_131, ↓g7_134, ↓g7_136, ↓g7_139, ↓g7_140, ↓g7_143, ↓mo_0, ↓mf_0_0, ↓mf_0_1, ↓mf_0_2, ↓mf_0_3, ↓mf_0_4, ↓mo_1, ↓mf_1_0, ↓mf_1_1, ↓mo_2, ↓mf_2_0, ↓mo_4, ↓mf_4_0, ↓mo_6, ↓mf_6_0, ↓mf_6_1, ↓mf_6_2, ↓mf_6_3, ↓mp_6_4, ↓mf_6_4, ↓mp_6_5, ↓mf_6_5, ↓mo_7, ↓mf_7_0, ↓mo_9, ↓mf_9_0, ↓mo_11, ↓mf_11_0, ↓mo_13, ↓mf_13_0, ↓mf_13_1, ↓mp_13_2, ↓mf_13_2, ↓mp_13_3, ↓mf_13_3, ↓mo_14, ↓mf_14_0, ↓mp_14_1, ↓mf_14_1, ↓mp_14_2, ↓mf_14_2, ↓mo_15, ↓mf_15_0, ↓mf_15_1, ↓mp_15_2, ↓mf_15_2, ↓mo_16, ↓mf_16_0, ↓mo_18, ↓mf_18_0, ↓ma_3, ↓ms_3, ↓ma_5, ↓ms_5, ↓ma_8, ↓ms_8, ↓ma_10, ↓ms_10, ↓ma_12, ↓ms_12, ↓ma_17, ↓ms_17, ↓ma_19, ↓ms_19, ↓bnd_some, ↓cond_true, ↓m_pv_none, ↓m_pv_some, m_b01_0, m_b01_1, true_and, and_true, ↓r_get_2, ↓r_get_4, ↓r_get_7, ↓r_get_9, ↓r_get_11, ↓r_get_16, ↓r_get_18, ↓r_set_2, ↓r_set_4, ↓r_set_7, ↓r_set_9, ↓r_set_11, ↓r_set_16, ↓r_set_18, h.2.1, e0, if_false, List.length_cons, e1, e5, e2, e3, e4, ↓g1, hq, show nbI (some 0) = nI 0 from rfl, nI_m6 (show 0 < 2 ^ 31 by decide), nI_0, if_true, e7, e8, ite_self]
        · rw [if_neg hbad]
          have step : ∀ c1, sx [19] c c1 → AW (c1 19) (stq (q, 0) (d :: s')) → ∃ c', sx [19] c c' ∧ ∀ (K : Option Value → mM → Prop) (j3 j4 j5 : Value), go S 7 13 [.ref 15, .int (nI (stq (q, 0) (d :: s')).length), .int (nI (k + 1)), j3, j4, j5] [] (mk c1 t) K = K (some (.int (flt (P.drop (k + 1)) (stq (q, 0) (d :: s')) (k + 1)))) (mk c' t) := fun c1 w1 w2 => by
            obtain ⟨c', y1, y2⟩ := p_wrongL hPo n (k + 1) (stq (q, 0) (d :: s')) c1 (by omega) (by
              rw [stq_cons]
              split
              · rw [List.length_cons]; omega
              · split
                · rw [List.length_cons, List.length_cons]; omega
                · omega) (fun z hz => by
              have hs2 : ∀ y ∈ s', y ≤ k := fun y hy => hd y (List.mem_cons_of_mem _ hy)
              rw [stq_cons] at hz
              split at hz
              · rcases List.mem_cons.mp hz with e | e
                · rw [e]; omega
                · have := hs2 z e; omega
              · split at hz
                · rcases List.mem_cons.mp hz with e | e
                  · rw [e]; omega
                  · rcases List.mem_cons.mp e with e | e
                    · rw [e]; omega
                    · have := hs2 z e; omega
                · have := hs2 z hz; omega) (h.sx w1 (by simp) (by simp)) w2
            exact ⟨c', sx_tr w1 y1, y2⟩
          have common : ∀ (K : Option Value → mM → Prop) (j3 j4 j5 : Value), go S 7 13 [.ref 15, .int (nI (d :: s').length), .int (nI k), j3, j4, j5] [] (mk c t) K = go S 7 78 [.ref 15, .int (nI (s'.length + 1)), .int (nI k), .int (nI d), .int (nI (P.getD k 0)), .int (nI q)] [] (mk c t) K := fun K j3 j4 j5 => by
            rw [g7_13]
            simp only [↓g7_0, ↓g7_1, ↓g7_2, ↓g7_3, ↓g7_6, ↓g7_7, ↓g7_8, ↓g7_11, ↓g7_12, ↓g7_14, ↓g7_15, ↓g7_18, ↓g7_21, ↓g7_22, ↓g7_25, ↓g7_26, ↓g7_27, ↓g7_28, ↓g7_31, ↓g7_32, ↓g7_33, ↓g7_34, ↓g7_37, ↓g7_38, ↓g7_39, ↓g7_42, ↓g7_43, ↓g7_46, ↓g7_48, ↓g7_50, ↓g7_53, ↓g7_55, ↓g7_57, ↓g7_59, ↓g7_62, ↓g7_64, ↓g7_67, ↓g7_69, ↓g7_71, ↓g7_72, ↓g7_73, ↓g7_76, ↓g7_77, ↓g7_80, ↓g7_81, ↓g7_84, ↓g7_85, ↓g7_88, ↓g7_89, ↓g7_90, ↓g7_91, ↓g7_92, ↓g7_93, ↓g7_94, ↓g7_97, ↓g7_100, ↓g7_102, ↓g7_103, ↓g7_106, ↓g7_107, ↓g7_110, ↓g7_111, ↓g7_112, ↓g7_115, ↓g7_118, ↓g7_121, ↓g7_124, ↓g7_127, ↓g7_130, ↓g7_131, ↓g7_134, ↓g7_136, ↓g7_139, ↓g7_140, ↓g7_143, ↓mo_0, ↓mf_0_0, ↓mf_0_1, ↓mf_0_2, ↓mf_0_3, ↓mf_0_4, ↓mo_1, ↓mf_1_0, ↓mf_1_1, ↓mo_2, ↓mf_2_0, ↓mo_4, ↓mf_4_0, ↓mo_6, ↓mf_6_0, ↓mf_6_1, ↓mf_6_2, ↓mf_6_3, ↓mp_6_4, ↓mf_6_4, ↓mp_6_5, ↓mf_6_5, ↓mo_7, ↓mf_7_0, ↓mo_9, ↓mf_9_0, ↓mo_11, ↓mf_11_0, ↓mo_13, ↓mf_13_0, ↓mf_13_1, ↓mp_13_2, ↓mf_13_2, ↓mp_13_3, ↓mf_13_3, ↓mo_14, ↓mf_14_0, ↓mp_14_1, ↓mf_14_1, ↓mp_14_2, ↓mf_14_2, ↓mo_15, ↓mf_15_0, ↓mf_15_1, ↓mp_15_2, ↓mf_15_2, ↓mo_16, ↓mf_16_0, ↓mo_18, ↓mf_18_0, ↓ma_3, ↓ms_3, ↓ma_5, ↓ms_5, ↓ma_8, ↓ms_8, ↓ma_10, ↓ms_10, ↓ma_12, ↓ms_12, ↓ma_17, ↓ms_17, ↓ma_19, ↓ms_19, ↓bnd_some, ↓cond_true, ↓m_pv_none, ↓m_pv_some, m_b01_0, m_b01_1, true_and, and_true, ↓r_get_2, ↓r_get_4, ↓r_get_7, ↓r_get_9, ↓r_get_11, ↓r_get_16, ↓r_get_18, ↓r_set_2, ↓r_set_4, ↓r_set_7, ↓r_set_9, ↓r_set_11, ↓r_set_16, ↓r_set_18, h.2.1, e0, if_false, List.length_cons, e1, e5, e2, e3, e4, ↓g1, hq, show nbI (some q) = nI q from rfl, e6, z0]
            by_cases h0 : q = 0
            · have h1 := kOf_0 (h0 ▸ hq)
              have e7 : nI (P.getD k 0) - 48 = nI (P.getD k 0 - 48) := by rw [show (48 : Int32) = nI 48 from rfl, pk_sub (by omega)]
              have e8 : nI (P.getD k 0 - 48) < nI d := nI_lt (by omega) (by omega)
              rw [if_pos h0, e7, if_pos e8]
            · rw [if_neg h0]
          by_cases h2 : q = 2
          · subst h2
            obtain ⟨c', y1, y2⟩ := step (ca c 19 (upd (c 19) s'.length (nI (d + 1)))) (sx_ca (by simp)) (by rw [ca_eq]; exact hA.tl.put)
            refine ⟨c', y1, fun K j3 j4 j5 => ?_⟩
            rw [common]
            simp only [↓g7_0, ↓g7_1, ↓g7_2, ↓g7_3, ↓g7_6, ↓g7_7, ↓g7_8, ↓g7_11, ↓g7_12, ↓g7_14, ↓g7_15, ↓g7_18, ↓g7_21, ↓g7_22, ↓g7_25, ↓g7_26, ↓g7_27, ↓g7_28, ↓g7_31, ↓g7_32, ↓g7_33, ↓g7_34, ↓g7_37, ↓g7_38, ↓g7_39, ↓g7_42, ↓g7_43, ↓g7_46, ↓g7_48, ↓g7_50, ↓g7_53, ↓g7_55, ↓g7_57, ↓g7_59, ↓g7_62, ↓g7_64, ↓g7_67, ↓g7_69, ↓g7_71, ↓g7_72, ↓g7_73, ↓g7_76, ↓g7_77, ↓g7_78, ↓g7_80, ↓g7_81, ↓g7_84, ↓g7_85, ↓g7_88, ↓g7_89, ↓g7_90, ↓g7_91, ↓g7_92, ↓g7_93, ↓g7_94, ↓g7_97, ↓g7_100, ↓g7_102, ↓g7_103, ↓g7_106, ↓g7_107, ↓g7_110, ↓g7_111, ↓g7_112, ↓g7_115, ↓g7_118, ↓g7_121, ↓g7_124, ↓g7_127, ↓g7_130, ↓g7_131, ↓g7_134, ↓g7_136, ↓g7_139, ↓g7_140, ↓g7_143, ↓mo_0, ↓mf_0_0, ↓mf_0_1, ↓mf_0_2, ↓mf_0_3, ↓mf_0_4, ↓mo_1, ↓mf_1_0, ↓mf_1_1, ↓mo_2, ↓mf_2_0, ↓mo_4, ↓mf_4_0, ↓mo_6, ↓mf_6_0, ↓mf_6_1, ↓mf_6_2, ↓mf_6_3, ↓mp_6_4, ↓mf_6_4, ↓mp_6_5, ↓mf_6_5, ↓mo_7, ↓mf_7_0, ↓mo_9, ↓mf_9_0, ↓mo_11, ↓mf_11_0, ↓mo_13, ↓mf_13_0, ↓mf_13_1, ↓mp_13_2, ↓mf_13_2, ↓mp_13_3, ↓mf_13_3, ↓mo_14, ↓mf_14_0, ↓mp_14_1, ↓mf_14_1, ↓mp_14_2, ↓mf_14_2, ↓mo_15, ↓mf_15_0, ↓mf_15_1, ↓mp_15_2, ↓mf_15_2, ↓mo_16, ↓mf_16_0, ↓mo_18, ↓mf_18_0, ↓ma_3, ↓ms_3, ↓ma_5, ↓ms_5, ↓ma_8, ↓ms_8, ↓ma_10, ↓ms_10, ↓ma_12, ↓ms_12, ↓ma_17, ↓ms_17, ↓ma_19, ↓ms_19, ↓bnd_some, ↓cond_true, ↓m_pv_none, ↓m_pv_some, m_b01_0, m_b01_1, true_and, and_true, ↓r_get_2, ↓r_get_4, ↓r_get_7, ↓r_get_9, ↓r_get_11, ↓r_get_16, ↓r_get_18, ↓r_set_2, ↓r_set_4, ↓r_set_7, ↓r_set_9, ↓r_set_11, ↓r_set_16, ↓r_set_18, z2, if_true, e2, nI_1, rs_in (show s'.length < 61 by omega) (by decide : 61 < 2 ^ 31)]
            exact y2 K _ _ _
          · by_cases h3 : q = 3
            · subst h3
              obtain ⟨c', y1, y2⟩ := step (ca c 19 (upd (c 19) (d :: s').length (nI d))) (sx_ca (by simp)) (by rw [ca_eq]; exact hA.put)
              refine ⟨c', y1, fun K j3 j4 j5 => ?_⟩
              rw [common]
              simp only [↓g7_0, ↓g7_1, ↓g7_2, ↓g7_3, ↓g7_6, ↓g7_7, ↓g7_8, ↓g7_11, ↓g7_12, ↓g7_14, ↓g7_15, ↓g7_18, ↓g7_21, ↓g7_22, ↓g7_25, ↓g7_26, ↓g7_27, ↓g7_28, ↓g7_31, ↓g7_32, ↓g7_33, ↓g7_34, ↓g7_37, ↓g7_38, ↓g7_39, ↓g7_42, ↓g7_43, ↓g7_46, ↓g7_48, ↓g7_50, ↓g7_53, ↓g7_55, ↓g7_57, ↓g7_59, ↓g7_62, ↓g7_64, ↓g7_67, ↓g7_69, ↓g7_71, ↓g7_72, ↓g7_73, ↓g7_76, ↓g7_77, ↓g7_78, ↓g7_80, ↓g7_81, ↓g7_84, ↓g7_85, ↓g7_88, ↓g7_89, ↓g7_90, ↓g7_91, ↓g7_92, ↓g7_93, ↓g7_94, ↓g7_97, ↓g7_100, ↓g7_102, ↓g7_103, ↓g7_106, ↓g7_107, ↓g7_110, ↓g7_111, ↓g7_112, ↓g7_115, ↓g7_118, ↓g7_121, ↓g7_124, ↓g7_127, ↓g7_130, ↓g7_131, ↓g7_134, ↓g7_136, ↓g7_139, ↓g7_140, ↓g7_143, ↓mo_0, ↓mf_0_0, ↓mf_0_1, ↓mf_0_2, ↓mf_0_3, ↓mf_0_4, ↓mo_1, ↓mf_1_0, ↓mf_1_1, ↓mo_2, ↓mf_2_0, ↓mo_4, ↓mf_4_0, ↓mo_6, ↓mf_6_0, ↓mf_6_1, ↓mf_6_2, ↓mf_6_3, ↓mp_6_4, ↓mf_6_4, ↓mp_6_5, ↓mf_6_5, ↓mo_7, ↓mf_7_0, ↓mo_9, ↓mf_9_0, ↓mo_11, ↓mf_11_0, ↓mo_13, ↓mf_13_0, ↓mf_13_1, ↓mp_13_2, ↓mf_13_2, ↓mp_13_3, ↓mf_13_3, ↓mo_14, ↓mf_14_0, ↓mp_14_1, ↓mf_14_1, ↓mp_14_2, ↓mf_14_2, ↓mo_15, ↓mf_15_0, ↓mf_15_1, ↓mp_15_2, ↓mf_15_2, ↓mo_16, ↓mf_16_0, ↓mo_18, ↓mf_18_0, ↓ma_3, ↓ms_3, ↓ma_5, ↓ms_5, ↓ma_8, ↓ms_8, ↓ma_10, ↓ms_10, ↓ma_12, ↓ms_12, ↓ma_17, ↓ms_17, ↓ma_19, ↓ms_19, ↓bnd_some, ↓cond_true, ↓m_pv_none, ↓m_pv_some, m_b01_0, m_b01_1, true_and, and_true, ↓r_get_2, ↓r_get_4, ↓r_get_7, ↓r_get_9, ↓r_get_11, ↓r_get_16, ↓r_get_18, ↓r_set_2, ↓r_set_4, ↓r_set_7, ↓r_set_9, ↓r_set_11, ↓r_set_16, ↓r_set_18, z2, z3, h2, if_false, if_true, nI_1, rs_in (show s'.length + 1 < 61 by omega) (by decide : 61 < 2 ^ 31)]
              exact y2 K _ _ _
            · have e9 : stq (q, 0) (d :: s') = s' := by
                rw [stq_cons, if_neg (show ¬ (q, 0).1 = 2 from h2), if_neg (show ¬ (q, 0).1 = 3 from h3)]
              obtain ⟨c', y1, y2⟩ := step c sx_rf (by rw [e9]; exact hA.tl)
              refine ⟨c', y1, fun K j3 j4 j5 => ?_⟩
              have e10 : nI (s'.length + 1) + -1 = nI s'.length := pk_m1 _
              rw [e9] at y2 ⊢
              rw [common]
              simp only [↓g7_0, ↓g7_1, ↓g7_2, ↓g7_3, ↓g7_6, ↓g7_7, ↓g7_8, ↓g7_11, ↓g7_12, ↓g7_14, ↓g7_15, ↓g7_18, ↓g7_21, ↓g7_22, ↓g7_25, ↓g7_26, ↓g7_27, ↓g7_28, ↓g7_31, ↓g7_32, ↓g7_33, ↓g7_34, ↓g7_37, ↓g7_38, ↓g7_39, ↓g7_42, ↓g7_43, ↓g7_46, ↓g7_48, ↓g7_50, ↓g7_53, ↓g7_55, ↓g7_57, ↓g7_59, ↓g7_62, ↓g7_64, ↓g7_67, ↓g7_69, ↓g7_71, ↓g7_72, ↓g7_73, ↓g7_76, ↓g7_77, ↓g7_78, ↓g7_80, ↓g7_81, ↓g7_84, ↓g7_85, ↓g7_88, ↓g7_89, ↓g7_90, ↓g7_91, ↓g7_92, ↓g7_93, ↓g7_94, ↓g7_97, ↓g7_100, ↓g7_102, ↓g7_103, ↓g7_106, ↓g7_107, ↓g7_110, ↓g7_111, ↓g7_112, ↓g7_115, ↓g7_118, ↓g7_121, ↓g7_124, ↓g7_127, ↓g7_130, ↓g7_131, ↓g7_134, ↓g7_136, ↓g7_139, ↓g7_140, ↓g7_143, ↓mo_0, ↓mf_0_0, ↓mf_0_1, ↓mf_0_2, ↓mf_0_3, ↓mf_0_4, ↓mo_1, ↓mf_1_0, ↓mf_1_1, ↓mo_2, ↓mf_2_0, ↓mo_4, ↓mf_4_0, ↓mo_6, ↓mf_6_0, ↓mf_6_1, ↓mf_6_2, ↓mf_6_3, ↓mp_6_4, ↓mf_6_4, ↓mp_6_5, ↓mf_6_5, ↓mo_7, ↓mf_7_0, ↓mo_9, ↓mf_9_0, ↓mo_11, ↓mf_11_0, ↓mo_13, ↓mf_13_0, ↓mf_13_1, ↓mp_13_2, ↓mf_13_2, ↓mp_13_3, ↓mf_13_3, ↓mo_14, ↓mf_14_0, ↓mp_14_1, ↓mf_14_1, ↓mp_14_2, ↓mf_14_2, ↓mo_15, ↓mf_15_0, ↓mf_15_1, ↓mp_15_2, ↓mf_15_2, ↓mo_16, ↓mf_16_0, ↓mo_18, ↓mf_18_0, ↓ma_3, ↓ms_3, ↓ma_5, ↓ms_5, ↓ma_8, ↓ms_8, ↓ma_10, ↓ms_10, ↓ma_12, ↓ms_12, ↓ma_17, ↓ms_17, ↓ma_19, ↓ms_19, ↓bnd_some, ↓cond_true, ↓m_pv_none, ↓m_pv_some, m_b01_0, m_b01_1, true_and, and_true, ↓r_get_2, ↓r_get_4, ↓r_get_7, ↓r_get_9, ↓r_get_11, ↓r_get_16, ↓r_get_18, ↓r_set_2, ↓r_set_4, ↓r_set_7, ↓r_set_9, ↓r_set_11, ↓r_set_16, ↓r_set_18, z2, z3, h2, h3, if_false, nI_1, e10]
              exact y2 K _ _ _
theorem p_wrong {P : List Nat} (hPo : Pok P) {c : Nat → Nat → Int32} (h : PR c P) : ∃ c', sx [19] c c' ∧ ∀ (K : Option Value → mM → Prop), go S 7 0 [.ref 15, .null, .null, .null, .null, .null] [] (mk c t) K = K (some (.int (flt P [0] 0))) (mk c' t) := by
  obtain ⟨c', h1, h2⟩ := p_wrongL (S := S) (t := t) hPo P.length 0 [0] (ca c 19 (upd (c 19) 0 0)) rfl (by simp) (by simp) (h.sx (ks := [19]) (sx_ca (by simp)) (by simp) (by simp)) (fun i hi => by
    have e : i = 0 := by simp at hi; omega
    subst e
    rw [ca_eq, upd_eq]
    rfl)
  refine ⟨c', sx_tr (sx_ca (by simp)) h1, fun K => ?_⟩
  have e0 : rs c 19 61 0 0 = ca c 19 (upd (c 19) 0 0) := rs_in (i := 0) (by decide) (by decide)
  simp only [↓g7_0, ↓g7_1, ↓g7_2, ↓g7_3, ↓g7_6, ↓g7_7, ↓g7_8, ↓g7_11, ↓g7_12, ↓g7_14, ↓g7_15, ↓g7_18, ↓g7_21, ↓g7_22, ↓g7_25, ↓g7_26, ↓g7_27, ↓g7_28, ↓g7_31, ↓g7_32, ↓g7_33, ↓g7_34, ↓g7_37, ↓g7_38, ↓g7_39, ↓g7_42, ↓g7_43, ↓g7_46, ↓g7_48, ↓g7_50, ↓g7_53, ↓g7_55, ↓g7_57, ↓g7_59, ↓g7_62, ↓g7_64, ↓g7_67, ↓g7_69, ↓g7_71, ↓g7_72, ↓g7_73, ↓g7_76, ↓g7_77, ↓g7_78, ↓g7_80, ↓g7_81, ↓g7_84, ↓g7_85, ↓g7_88, ↓g7_89, ↓g7_90, ↓g7_91, ↓g7_92, ↓g7_93, ↓g7_94, ↓g7_97, ↓g7_100, ↓g7_102, ↓g7_103, ↓g7_106, ↓g7_107, ↓g7_110, ↓g7_111, ↓g7_112, ↓g7_115, ↓g7_118, ↓g7_121, ↓g7_124, ↓g7_127, ↓g7_130, ↓g7_131, ↓g7_134, ↓g7_136, ↓g7_139, ↓g7_140, ↓g7_143, ↓mo_0, ↓mf_0_0, ↓mf_0_1, ↓mf_0_2, ↓mf_0_3, ↓mf_0_4, ↓mo_1, ↓mf_1_0, ↓mf_1_1, ↓mo_2, ↓mf_2_0, ↓mo_4, ↓mf_4_0, ↓mo_6, ↓mf_6_0, ↓mf_6_1, ↓mf_6_2, ↓mf_6_3, ↓mp_6_4, ↓mf_6_4, ↓mp_6_5, ↓mf_6_5, ↓mo_7, ↓mf_7_0, ↓mo_9, ↓mf_9_0, ↓mo_11, ↓mf_11_0, ↓mo_13, ↓mf_13_0, ↓mf_13_1, ↓mp_13_2, ↓mf_13_2, ↓mp_13_3, ↓mf_13_3, ↓mo_14, ↓mf_14_0, ↓mp_14_1, ↓mf_14_1, ↓mp_14_2, ↓mf_14_2, ↓mo_15, ↓mf_15_0, ↓mf_15_1, ↓mp_15_2, ↓mf_15_2, ↓mo_16, ↓mf_16_0, ↓mo_18, ↓mf_18_0, ↓ma_3, ↓ms_3, ↓ma_5, ↓ms_5, ↓ma_8, ↓ms_8, ↓ma_10, ↓ms_10, ↓ma_12, ↓ms_12, ↓ma_17, ↓ms_17, ↓ma_19, ↓ms_19, ↓bnd_some, ↓cond_true, ↓m_pv_none, ↓m_pv_some, m_b01_0, m_b01_1, true_and, and_true, ↓r_get_2, ↓r_get_4, ↓r_get_7, ↓r_get_9, ↓r_get_11, ↓r_get_16, ↓r_get_18, ↓r_set_2, ↓r_set_4, ↓r_set_7, ↓r_set_9, ↓r_set_11, ↓r_set_16, ↓r_set_18, e0]
  exact h2 K _ _ _
theorem p_writeL {P : List Nat} (hPo : Pok P) {i : Nat} (hi : i < 57) (hq : ∀ ch ∈ P, ∃ q, kOf ch = some q) : ∀ (n k : Nat) (c : Nat → Nat → Int32), n + k = P.length → PR c P → CS c (tu T i ((P.take k).map tm1)) → ∃ c', CS c' (tu T i (P.map tm1)) ∧ sx [3, 5] c c' ∧ ∀ (K : Option Value → mM → Prop) (j4 j5 j6 : Value), go S 8 7 [.ref 15, .ref 1, .int (nI i), .int (nI k), j4, j5, j6] [] (mk c t) K = K none (mk c' t)
  | 0, k, c, hk, h, hC => by
    have e : k = P.length := by omega
    subst e
    rw [List.take_length] at hC
    refine ⟨c, hC, sx_rf, fun K j4 j5 j6 => ?_⟩
    rw [g8_7]
    simp only [↓g8_0, ↓g8_1, ↓g8_2, ↓g8_5, ↓g8_6, ↓g8_8, ↓g8_9, ↓g8_12, ↓g8_15, ↓g8_16, ↓g8_19, ↓g8_20, ↓g8_23, ↓g8_25, ↓g8_27, ↓g8_30, ↓g8_32, ↓g8_33, ↓g8_35, ↓g8_37, ↓g8_40, ↓g8_42, ↓g8_44, ↓g8_45, ↓g8_47, ↓g8_50, ↓g8_52, ↓g8_53, ↓g8_56, ↓g8_58, ↓g8_60, ↓g8_61, ↓g8_63, ↓g8_64, ↓g8_65, ↓g8_67, ↓g8_69, ↓g8_72, ↓g8_75, ↓g8_78, ↓mo_0, ↓mf_0_0, ↓mf_0_1, ↓mf_0_2, ↓mf_0_3, ↓mf_0_4, ↓mo_1, ↓mf_1_0, ↓mf_1_1, ↓mo_2, ↓mf_2_0, ↓mo_4, ↓mf_4_0, ↓mo_6, ↓mf_6_0, ↓mf_6_1, ↓mf_6_2, ↓mf_6_3, ↓mp_6_4, ↓mf_6_4, ↓mp_6_5, ↓mf_6_5, ↓mo_7, ↓mf_7_0, ↓mo_9, ↓mf_9_0, ↓mo_11, ↓mf_11_0, ↓mo_13, ↓mf_13_0, ↓mf_13_1, ↓mp_13_2, ↓mf_13_2, ↓mp_13_3, ↓mf_13_3, ↓mo_14, ↓mf_14_0, ↓mp_14_1, ↓mf_14_1, ↓mp_14_2, ↓mf_14_2, ↓mo_15, ↓mf_15_0, ↓mf_15_1, ↓mp_15_2, ↓mf_15_2, ↓mo_16, ↓mf_16_0, ↓mo_18, ↓mf_18_0, ↓ma_3, ↓ms_3, ↓ma_5, ↓ms_5, ↓ma_8, ↓ms_8, ↓ma_10, ↓ms_10, ↓ma_12, ↓ms_12, ↓ma_17, ↓ms_17, ↓ma_19, ↓ms_19, ↓bnd_some, ↓cond_true, ↓m_pv_none, ↓m_pv_some, m_b01_0, m_b01_1, true_and, and_true, h.2.1, Int32.le_refl, if_true]
  | n + 1, k, c, hk, h, hC => by
    have hP := hPo.1
    have hkP : k < P.length := by omega
    have e0 : ¬ nI P.length ≤ nI k := nI_ge (by omega) (by omega)
    have hmem : P.getD k 0 ∈ P := by
      rw [List.getD_eq_getElem?_getD, List.getElem?_eq_getElem hkP, Option.getD_some]
      exact List.getElem_mem _
    have hch := hPo.2 _ hmem
    obtain ⟨q, hkq⟩ := hq _ hmem
    have hql := kOf_le hkq
    have e4 : rg 60 (c 17) (nI k) = nI (P.getD k 0) := by
      rw [rg_in (by omega) (by decide)]
      exact h.2.2 k hkP
    have g1 := p_kindOf (S := S) (mk c t) (ch := P.getD k 0) (by omega)
    have z0 : (nI q = 0) ↔ q = 0 := nI_z (by omega)
    have z1 : (nI q = 1) ↔ q = 1 := nI_eq (b := 1) (by omega) (by decide)
    have h1 := tm1_kd hkq
    have h2 := tm1_nu hkq
    have h3 : (tm1 (P.getD k 0)).2 < 256 := by
      rw [h2]
      split
      · omega
      · split <;> omega
    obtain ⟨c1, a1, a2, a3⟩ := q_append (S := S) (t := t) (i := i) (k := (tm1 (P.getD k 0)).1) (n := (tm1 (P.getD k 0)).2) hC hi (by rw [tu_eq, List.length_map, List.length_take]; omega) (by rw [h1]; exact hql) h3
    have e5 : P.take (k + 1) = P.take k ++ [P.getD k 0] := by
      rw [List.take_succ]
      congr 1
      simp [List.getD_eq_getElem?_getD, hkP]
    obtain ⟨c2, b1, b2, b3⟩ := p_writeL hPo hi hq n (k + 1) c1 (by omega) (h.sx a2 (by simp) (by simp)) (a1.congr fun j hj => by
      by_cases e : j = i
      · subst e
        rw [tu_eq, tu_eq, tu_eq, e5, List.map_append]
        rfl
      · rw [tu_ne e, tu_ne e, tu_ne e])
    refine ⟨c2, b1, sx_tr a2 b2, fun K j4 j5 j6 => ?_⟩
    have a3' : ∀ (K : Option Value → mM → Prop) (y : Int32), y = nI (tm1 (P.getD k 0)).2 → go S 26 0 [.ref 1, .int (nI i), .int (nI q), .int y, .null] [] (mk c t) K = K none (mk c1 t) := fun K y hy => by
      rw [hy, ← h1]
      exact a3 K
    rw [g8_7]
    simp only [↓g8_0, ↓g8_1, ↓g8_2, ↓g8_5, ↓g8_6, ↓g8_8, ↓g8_9, ↓g8_12, ↓g8_15, ↓g8_16, ↓g8_19, ↓g8_20, ↓g8_23, ↓g8_25, ↓g8_27, ↓g8_30, ↓g8_32, ↓g8_33, ↓g8_35, ↓g8_37, ↓g8_40, ↓g8_42, ↓g8_44, ↓g8_45, ↓g8_47, ↓g8_50, ↓g8_52, ↓g8_53, ↓g8_56, ↓g8_58, ↓g8_60, ↓g8_61, ↓g8_63, ↓g8_64, ↓g8_65, ↓g8_67, ↓g8_69, ↓g8_72, ↓g8_75, ↓g8_78, ↓mo_0, ↓mf_0_0, ↓mf_0_1, ↓mf_0_2, ↓mf_0_3, ↓mf_0_4, ↓mo_1, ↓mf_1_0, ↓mf_1_1, ↓mo_2, ↓mf_2_0, ↓mo_4, ↓mf_4_0, ↓mo_6, ↓mf_6_0, ↓mf_6_1, ↓mf_6_2, ↓mf_6_3, ↓mp_6_4, ↓mf_6_4, ↓mp_6_5, ↓mf_6_5, ↓mo_7, ↓mf_7_0, ↓mo_9, ↓mf_9_0, ↓mo_11, ↓mf_11_0, ↓mo_13, ↓mf_13_0, ↓mf_13_1, ↓mp_13_2, ↓mf_13_2, ↓mp_13_3, ↓mf_13_3, ↓mo_14, ↓mf_14_0, ↓mp_14_1, ↓mf_14_1, ↓mp_14_2, ↓mf_14_2, ↓mo_15, ↓mf_15_0, ↓mf_15_1, ↓mp_15_2, ↓mf_15_2, ↓mo_16, ↓mf_16_0, ↓mo_18, ↓mf_18_0, ↓ma_3, ↓ms_3, ↓ma_5, ↓ms_5, ↓ma_8, ↓ms_8, ↓ma_10, ↓ms_10, ↓ma_12, ↓ms_12, ↓ma_17, ↓ms_17, ↓ma_19, ↓ms_19, ↓bnd_some, ↓cond_true, ↓m_pv_none, ↓m_pv_some, m_b01_0, m_b01_1, true_and, and_true, ↓r_get_2, ↓r_get_4, ↓r_get_7, ↓r_get_9, ↓r_get_11, ↓r_get_16, ↓r_get_18, ↓r_set_2, ↓r_set_4, ↓r_set_7, ↓r_set_9, ↓r_set_11, ↓r_set_16, ↓r_set_18, h.2.1, e0, if_false, e4, ↓g1, hkq, show nbI (some q) = nI q from rfl, z0, z1, nI_1]
    by_cases hq0 : q = 0
    · have hk0 := kOf_0 (hq0 ▸ hkq)
      rw [if_pos hq0, a3' _ (nI (P.getD k 0) - 48) (by rw [h2, if_pos hq0, show (48 : Int32) = nI 48 from rfl, pk_sub (by omega)])]
      simp only [↓g8_0, ↓g8_1, ↓g8_2, ↓g8_5, ↓g8_6, ↓g8_8, ↓g8_9, ↓g8_12, ↓g8_15, ↓g8_16, ↓g8_19, ↓g8_20, ↓g8_23, ↓g8_25, ↓g8_27, ↓g8_30, ↓g8_32, ↓g8_33, ↓g8_35, ↓g8_37, ↓g8_40, ↓g8_42, ↓g8_44, ↓g8_45, ↓g8_47, ↓g8_50, ↓g8_52, ↓g8_53, ↓g8_56, ↓g8_58, ↓g8_60, ↓g8_61, ↓g8_63, ↓g8_64, ↓g8_65, ↓g8_67, ↓g8_69, ↓g8_72, ↓g8_75, ↓g8_78, ↓mo_0, ↓mf_0_0, ↓mf_0_1, ↓mf_0_2, ↓mf_0_3, ↓mf_0_4, ↓mo_1, ↓mf_1_0, ↓mf_1_1, ↓mo_2, ↓mf_2_0, ↓mo_4, ↓mf_4_0, ↓mo_6, ↓mf_6_0, ↓mf_6_1, ↓mf_6_2, ↓mf_6_3, ↓mp_6_4, ↓mf_6_4, ↓mp_6_5, ↓mf_6_5, ↓mo_7, ↓mf_7_0, ↓mo_9, ↓mf_9_0, ↓mo_11, ↓mf_11_0, ↓mo_13, ↓mf_13_0, ↓mf_13_1, ↓mp_13_2, ↓mf_13_2, ↓mp_13_3, ↓mf_13_3, ↓mo_14, ↓mf_14_0, ↓mp_14_1, ↓mf_14_1, ↓mp_14_2, ↓mf_14_2, ↓mo_15, ↓mf_15_0, ↓mf_15_1, ↓mp_15_2, ↓mf_15_2, ↓mo_16, ↓mf_16_0, ↓mo_18, ↓mf_18_0, ↓ma_3, ↓ms_3, ↓ma_5, ↓ms_5, ↓ma_8, ↓ms_8, ↓ma_10, ↓ms_10, ↓ma_12, ↓ms_12, ↓ma_17, ↓ms_17, ↓ma_19, ↓ms_19, ↓bnd_some, ↓cond_true, ↓m_pv_none, ↓m_pv_some, m_b01_0, m_b01_1, true_and, and_true, nI_1]
      exact b3 K _ _ _
    · rw [if_neg hq0]
      by_cases hq1 : q = 1
      · have hk1 := kOf_1 (hq1 ▸ hkq)
        rw [if_pos hq1, a3' _ (nI (P.getD k 0) - 97) (by rw [h2, if_neg hq0, if_pos hq1, show (97 : Int32) = nI 97 from rfl, pk_sub (by omega)])]
        simp only [↓g8_0, ↓g8_1, ↓g8_2, ↓g8_5, ↓g8_6, ↓g8_8, ↓g8_9, ↓g8_12, ↓g8_15, ↓g8_16, ↓g8_19, ↓g8_20, ↓g8_23, ↓g8_25, ↓g8_27, ↓g8_30, ↓g8_32, ↓g8_33, ↓g8_35, ↓g8_37, ↓g8_40, ↓g8_42, ↓g8_44, ↓g8_45, ↓g8_47, ↓g8_50, ↓g8_52, ↓g8_53, ↓g8_56, ↓g8_58, ↓g8_60, ↓g8_61, ↓g8_63, ↓g8_64, ↓g8_65, ↓g8_67, ↓g8_69, ↓g8_72, ↓g8_75, ↓g8_78, ↓mo_0, ↓mf_0_0, ↓mf_0_1, ↓mf_0_2, ↓mf_0_3, ↓mf_0_4, ↓mo_1, ↓mf_1_0, ↓mf_1_1, ↓mo_2, ↓mf_2_0, ↓mo_4, ↓mf_4_0, ↓mo_6, ↓mf_6_0, ↓mf_6_1, ↓mf_6_2, ↓mf_6_3, ↓mp_6_4, ↓mf_6_4, ↓mp_6_5, ↓mf_6_5, ↓mo_7, ↓mf_7_0, ↓mo_9, ↓mf_9_0, ↓mo_11, ↓mf_11_0, ↓mo_13, ↓mf_13_0, ↓mf_13_1, ↓mp_13_2, ↓mf_13_2, ↓mp_13_3, ↓mf_13_3, ↓mo_14, ↓mf_14_0, ↓mp_14_1, ↓mf_14_1, ↓mp_14_2, ↓mf_14_2, ↓mo_15, ↓mf_15_0, ↓mf_15_1, ↓mp_15_2, ↓mf_15_2, ↓mo_16, ↓mf_16_0, ↓mo_18, ↓mf_18_0, ↓ma_3, ↓ms_3, ↓ma_5, ↓ms_5, ↓ma_8, ↓ms_8, ↓ma_10, ↓ms_10, ↓ma_12, ↓ms_12, ↓ma_17, ↓ms_17, ↓ma_19, ↓ms_19, ↓bnd_some, ↓cond_true, ↓m_pv_none, ↓m_pv_some, m_b01_0, m_b01_1, true_and, and_true, nI_1]
        exact b3 K _ _ _
      · rw [if_neg hq1, a3' _ 0 (by rw [h2, if_neg hq0, if_neg hq1]; rfl)]
        simp only [↓g8_0, ↓g8_1, ↓g8_2, ↓g8_5, ↓g8_6, ↓g8_8, ↓g8_9, ↓g8_12, ↓g8_15, ↓g8_16, ↓g8_19, ↓g8_20, ↓g8_23, ↓g8_25, ↓g8_27, ↓g8_30, ↓g8_32, ↓g8_33, ↓g8_35, ↓g8_37, ↓g8_40, ↓g8_42, ↓g8_44, ↓g8_45, ↓g8_47, ↓g8_50, ↓g8_52, ↓g8_53, ↓g8_56, ↓g8_58, ↓g8_60, ↓g8_61, ↓g8_63, ↓g8_64, ↓g8_65, ↓g8_67, ↓g8_69, ↓g8_72, ↓g8_75, ↓g8_78, ↓mo_0, ↓mf_0_0, ↓mf_0_1, ↓mf_0_2, ↓mf_0_3, ↓mf_0_4, ↓mo_1, ↓mf_1_0, ↓mf_1_1, ↓mo_2, ↓mf_2_0, ↓mo_4, ↓mf_4_0, ↓mo_6, ↓mf_6_0, ↓mf_6_1, ↓mf_6_2, ↓mf_6_3, ↓mp_6_4, ↓mf_6_4, ↓mp_6_5, ↓mf_6_5, ↓mo_7, ↓mf_7_0, ↓mo_9, ↓mf_9_0, ↓mo_11, ↓mf_11_0, ↓mo_13, ↓mf_13_0, ↓mf_13_1, ↓mp_13_2, ↓mf_13_2, ↓mp_13_3, ↓mf_13_3, ↓mo_14, ↓mf_14_0, ↓mp_14_1, ↓mf_14_1, ↓mp_14_2, ↓mf_14_2, ↓mo_15, ↓mf_15_0, ↓mf_15_1, ↓mp_15_2, ↓mf_15_2, ↓mo_16, ↓mf_16_0, ↓mo_18, ↓mf_18_0, ↓ma_3, ↓ms_3, ↓ma_5, ↓ms_5, ↓ma_8, ↓ms_8, ↓ma_10, ↓ms_10, ↓ma_12, ↓ms_12, ↓ma_17, ↓ms_17, ↓ma_19, ↓ms_19, ↓bnd_some, ↓cond_true, ↓m_pv_none, ↓m_pv_some, m_b01_0, m_b01_1, true_and, and_true, nI_1]
        exact b3 K _ _ _
theorem p_write {P : List Nat} (hPo : Pok P) {i : Nat} (hi : i < 57) (hq : ∀ ch ∈ P, ∃ q, kOf ch = some q) {c : Nat → Nat → Int32} (h : PR c P) (hC : CS c T) : ∃ c', CS c' (tu T i (P.map tm1)) ∧ sx [3, 5] c c' ∧ ∀ (K : Option Value → mM → Prop), go S 8 0 [.ref 15, .ref 1, .int (nI i), .null, .null, .null, .null] [] (mk c t) K = K none (mk c' t) := by
  obtain ⟨c1, h1, s1, g1⟩ := q_clear (S := S) (t := t) (i := i) hC hi
  obtain ⟨c2, h2, s2, g2⟩ := p_writeL (S := S) (t := t) hPo hi hq P.length 0 c1 rfl (h.sx s1 (by simp) (by simp)) h1
  refine ⟨c2, h2, sx_tr s1 s2, fun K => ?_⟩
  simp only [↓g8_0, ↓g8_1, ↓g8_2, ↓g8_5, ↓g8_6, ↓g8_8, ↓g8_9, ↓g8_12, ↓g8_15, ↓g8_16, ↓g8_19, ↓g8_20, ↓g8_23, ↓g8_25, ↓g8_27, ↓g8_30, ↓g8_32, ↓g8_33, ↓g8_35, ↓g8_37, ↓g8_40, ↓g8_42, ↓g8_44, ↓g8_45, ↓g8_47, ↓g8_50, ↓g8_52, ↓g8_53, ↓g8_56, ↓g8_58, ↓g8_60, ↓g8_61, ↓g8_63, ↓g8_64, ↓g8_65, ↓g8_67, ↓g8_69, ↓g8_72, ↓g8_75, ↓g8_78, ↓mo_0, ↓mf_0_0, ↓mf_0_1, ↓mf_0_2, ↓mf_0_3, ↓mf_0_4, ↓mo_1, ↓mf_1_0, ↓mf_1_1, ↓mo_2, ↓mf_2_0, ↓mo_4, ↓mf_4_0, ↓mo_6, ↓mf_6_0, ↓mf_6_1, ↓mf_6_2, ↓mf_6_3, ↓mp_6_4, ↓mf_6_4, ↓mp_6_5, ↓mf_6_5, ↓mo_7, ↓mf_7_0, ↓mo_9, ↓mf_9_0, ↓mo_11, ↓mf_11_0, ↓mo_13, ↓mf_13_0, ↓mf_13_1, ↓mp_13_2, ↓mf_13_2, ↓mp_13_3, ↓mf_13_3, ↓mo_14, ↓mf_14_0, ↓mp_14_1, ↓mf_14_1, ↓mp_14_2, ↓mf_14_2, ↓mo_15, ↓mf_15_0, ↓mf_15_1, ↓mp_15_2, ↓mf_15_2, ↓mo_16, ↓mf_16_0, ↓mo_18, ↓mf_18_0, ↓ma_3, ↓ms_3, ↓ma_5, ↓ms_5, ↓ma_8, ↓ms_8, ↓ma_10, ↓ms_10, ↓ma_12, ↓ms_12, ↓ma_17, ↓ms_17, ↓ma_19, ↓ms_19, ↓bnd_some, ↓cond_true, ↓m_pv_none, ↓m_pv_some, m_b01_0, m_b01_1, true_and, and_true, ↓g1]
  exact g2 K _ _ _
end PAD2

