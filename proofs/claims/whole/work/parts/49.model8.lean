/-! the model: the pad -/
def PM (d : Nat → Nat → Int32) (P : List Nat) : Prop := d 0 6 = nI P.length ∧ ∀ j, j < P.length → d 5 j = nI (P.getD j 0)
def pbv (ch : Nat) : Int32 := match kOf ch with
  | some _ => nI (cm (tm1 ch))
  | none => -1
/-- how many characters a number gives, what is left of it, whether each is one -/
def zs : Nat → Nat → Nat × Nat × Bool
  | 0, r => (0, r, true)
  | n + 1, r => if r % 256 = 0 then (0, r, true) else ((zs n (r / 256)).1 + 1, (zs n (r / 256)).2.1, decide (33 ≤ r % 256 ∧ r % 256 ≤ 126) && (zs n (r / 256)).2.2)
theorem zs_some : ∀ {n r : Nat} {l : List Nat}, bys n r = some l → (zs n r).2.2 = true ∧ (zs n r).2.1 = 0 ∧ (zs n r).1 = l.length
  | 0, r, l, h => by
    unfold bys at h
    split at h
    · rename_i h0
      cases h
      exact ⟨rfl, h0, rfl⟩
    · cases h
  | n + 1, r, l, h => by
    unfold bys at h
    unfold zs
    by_cases h0 : r % 256 = 0
    · rw [if_pos h0] at h ⊢
      split at h
      · rename_i h1
        cases h
        exact ⟨rfl, h1, rfl⟩
      · cases h
    · rw [if_neg h0] at h ⊢
      split at h
      · rename_i h1
        cases hb : bys n (r / 256) with
        | none => rw [hb] at h; cases h
        | some l' =>
          rw [hb] at h
          cases h
          obtain ⟨z1, z2, z3⟩ := zs_some hb
          exact ⟨by show (decide _ && _) = true; rw [z1, decide_eq_true h1]; rfl, z2, by show _ + 1 = _; rw [z3, List.length_cons]⟩
      · cases h
theorem zs_none : ∀ {n r : Nat}, bys n r = none → ¬ ((zs n r).2.2 = true ∧ (zs n r).2.1 = 0)
  | 0, r, h => by
    unfold bys at h
    split at h
    · cases h
    · rename_i h0
      exact fun z => h0 z.2
  | n + 1, r, h => by
    unfold bys at h
    unfold zs
    by_cases h0 : r % 256 = 0
    · rw [if_pos h0] at h ⊢
      split at h
      · cases h
      · rename_i h1
        exact fun z => h1 z.2
    · rw [if_neg h0] at h ⊢
      rintro ⟨z1, z2⟩
      have z1 : (decide (33 ≤ r % 256 ∧ r % 256 ≤ 126) && (zs n (r / 256)).2.2) = true := z1
      rw [Bool.and_eq_true, decide_eq_true_eq] at z1
      rw [if_pos z1.1] at h
      cases hb : bys n (r / 256) with
      | none => exact zs_none hb ⟨z1.2, z2⟩
      | some l => rw [hb] at h; cases h
theorem zs_le : ∀ (n r : Nat), (zs n r).1 ≤ n ∧ (zs n r).2.1 ≤ r
  | 0, r => ⟨Nat.le_refl _, Nat.le_refl _⟩
  | n + 1, r => by
    unfold zs
    split
    · exact ⟨Nat.zero_le _, Nat.le_refl _⟩
    · obtain ⟨h1, h2⟩ := zs_le n (r / 256)
      exact ⟨Nat.succ_le_succ h1, Nat.le_trans h2 (Nat.div_le_self _ _)⟩
theorem PM.mx {ks ns : List Nat} {d d' : Nat → Nat → Int32} {P : List Nat} (h : PM d P) (hs : mx ks ns d d') (h1 : 5 ∉ ks) (h2 : 6 ∉ ns) : PM d' P := by
  refine ⟨by rw [hs.2 6 h2]; exact h.1, fun p hp => ?_⟩
  rw [hs.1 5 (by decide) h1]
  exact h.2 p hp
theorem Pok.at {P : List Nat} (h : Pok P) {k : Nat} (hk : k < P.length) : 33 ≤ P.getD k 0 ∧ P.getD k 0 ≤ 126 := by
  apply h.2
  rw [List.getD_eq_getElem?_getD, List.getElem?_eq_getElem hk, Option.getD_some]
  exact List.getElem_mem _
section MOD8
variable {S : mS} {c : Nat → Nat → Int32}
theorem n_partBy (M : mM) {ch : Nat} (h : ch < 1000) (K : Option Value → mM → Prop) : go S 132 0 [.int (nI ch)] [] M K = K (some (.int (pbv ch))) M := by
  have g1 := fun K => n_within (S := S) M (nI ch) 48 57 K
  have g2 := fun K => n_within (S := S) M (nI ch) 97 102 K
  have e1 : (nI ch = 76) ↔ ch = 76 := nI_eq (b := 76) (by omega) (by decide)
  have e2 : (nI ch = 64) ↔ ch = 64 := nI_eq (b := 64) (by omega) (by decide)
  have e3 : ((48 : Int32) ≤ nI ch ∧ nI ch ≤ 57) ↔ (48 ≤ ch ∧ ch ≤ 57) := and_congr (nI_leI (a := 48) (by decide) (by omega)) (nI_leI (b := 57) (by omega) (by decide))
  have e4 : ((97 : Int32) ≤ nI ch ∧ nI ch ≤ 102) ↔ (97 ≤ ch ∧ ch ≤ 102) := and_congr (nI_leI (a := 97) (by decide) (by omega)) (nI_leI (b := 102) (by omega) (by decide))
  by_cases h1 : 48 ≤ ch ∧ ch ≤ 57
  · have hq : kOf ch = some 0 := by unfold kOf; rw [if_neg (by omega), if_neg (by omega), if_pos h1]
    have hv : pbv ch = nI (ch - 48) := by
      unfold pbv tm1
      rw [hq]
      show nI (1000 * 0 + (ch - 48)) = _
      rw [Nat.mul_zero, Nat.zero_add]
    have e5 : (0 : Int32) + nI ch - 48 = nI (ch - 48) := by rw [Int32.zero_add, show (48 : Int32) = nI 48 from rfl, pk_sub h1.1]
    simp only [if_pos (e3.mpr h1)] at g1
    rw [hv]
    simp only [↓g132_0, ↓g132_1, ↓g132_3, ↓g132_5, ↓g132_8, ↓g132_11, ↓g132_12, ↓g132_13, ↓g132_14, ↓g132_16, ↓g132_17, ↓g132_18, ↓g132_19, ↓g132_21, ↓g132_23, ↓g132_26, ↓g132_29, ↓g132_32, ↓g132_33, ↓g132_34, ↓g132_36, ↓g132_37, ↓g132_38, ↓g132_39, ↓g132_41, ↓g132_44, ↓g132_47, ↓g132_50, ↓g132_51, ↓g132_53, ↓g132_56, ↓g132_59, ↓g132_62, ↓g132_63, ↓mo_20, ↓mf_20_0, ↓mf_20_1, ↓mp_20_2, ↓mf_20_2, ↓mf_20_3, ↓mf_20_4, ↓mf_20_5, ↓mp_20_6, ↓mf_20_6, ↓mf_20_7, ↓mp_20_8, ↓mf_20_8, ↓mf_20_9, ↓mf_20_10, ↓mp_20_11, ↓mf_20_11, ↓mf_20_12, ↓mf_20_13, ↓mp_20_14, ↓mf_20_14, ↓mf_20_15, ↓mp_20_16, ↓mf_20_16, ↓ma_21, ↓ms_21, ↓ma_22, ↓ms_22, ↓ma_23, ↓ms_23, ↓ma_24, ↓ms_24, ↓ma_25, ↓ms_25, ↓ma_26, ↓ms_26, ↓ma_27, ↓ms_27, ↓ma_28, ↓ms_28, ↓ma_29, ↓ms_29, ↓ma_30, ↓ms_30, ↓ma_31, ↓ms_31, ↓bnd_some, ↓cond_true, ↓m_pv_none, ↓m_pv_some, m_b01_0, m_b01_1, true_and, and_true, eq_self, ↓g1, i_10, ↓reduceIte, e5]
  · simp only [if_neg (fun z => h1 (e3.mp z))] at g1
    by_cases h2 : 97 ≤ ch ∧ ch ≤ 102
    · have hq : kOf ch = some 1 := by unfold kOf; rw [if_neg (by omega), if_neg (by omega), if_neg h1, if_pos (by omega)]
      have hv : pbv ch = nI (1000 + ch - 97) := by
        unfold pbv tm1
        rw [hq]
        show nI (1000 * 1 + (ch - 97)) = _
        congr 1
        omega
      have e5 : (1000 : Int32) + nI ch - 97 = nI (1000 + ch - 97) := by rw [show (1000 : Int32) = nI 1000 from rfl, nI_add, show (97 : Int32) = nI 97 from rfl, pk_sub (by omega)]
      simp only [if_pos (e4.mpr h2)] at g2
      rw [hv]
      simp only [↓g132_0, ↓g132_1, ↓g132_3, ↓g132_5, ↓g132_8, ↓g132_11, ↓g132_12, ↓g132_13, ↓g132_14, ↓g132_16, ↓g132_17, ↓g132_18, ↓g132_19, ↓g132_21, ↓g132_23, ↓g132_26, ↓g132_29, ↓g132_32, ↓g132_33, ↓g132_34, ↓g132_36, ↓g132_37, ↓g132_38, ↓g132_39, ↓g132_41, ↓g132_44, ↓g132_47, ↓g132_50, ↓g132_51, ↓g132_53, ↓g132_56, ↓g132_59, ↓g132_62, ↓g132_63, ↓mo_20, ↓mf_20_0, ↓mf_20_1, ↓mp_20_2, ↓mf_20_2, ↓mf_20_3, ↓mf_20_4, ↓mf_20_5, ↓mp_20_6, ↓mf_20_6, ↓mf_20_7, ↓mp_20_8, ↓mf_20_8, ↓mf_20_9, ↓mf_20_10, ↓mp_20_11, ↓mf_20_11, ↓mf_20_12, ↓mf_20_13, ↓mp_20_14, ↓mf_20_14, ↓mf_20_15, ↓mp_20_16, ↓mf_20_16, ↓ma_21, ↓ms_21, ↓ma_22, ↓ms_22, ↓ma_23, ↓ms_23, ↓ma_24, ↓ms_24, ↓ma_25, ↓ms_25, ↓ma_26, ↓ms_26, ↓ma_27, ↓ms_27, ↓ma_28, ↓ms_28, ↓ma_29, ↓ms_29, ↓ma_30, ↓ms_30, ↓ma_31, ↓ms_31, ↓bnd_some, ↓cond_true, ↓m_pv_none, ↓m_pv_some, m_b01_0, m_b01_1, true_and, and_true, eq_self, ↓g1, ↓g2, i_10, ↓reduceIte, e5]
    · simp only [if_neg (fun z => h2 (e4.mp z))] at g2
      by_cases h3 : ch = 76
      · subst h3
        simp only [↓g132_0, ↓g132_1, ↓g132_3, ↓g132_5, ↓g132_8, ↓g132_11, ↓g132_12, ↓g132_13, ↓g132_14, ↓g132_16, ↓g132_17, ↓g132_18, ↓g132_19, ↓g132_21, ↓g132_23, ↓g132_26, ↓g132_29, ↓g132_32, ↓g132_33, ↓g132_34, ↓g132_36, ↓g132_37, ↓g132_38, ↓g132_39, ↓g132_41, ↓g132_44, ↓g132_47, ↓g132_50, ↓g132_51, ↓g132_53, ↓g132_56, ↓g132_59, ↓g132_62, ↓g132_63, ↓mo_20, ↓mf_20_0, ↓mf_20_1, ↓mp_20_2, ↓mf_20_2, ↓mf_20_3, ↓mf_20_4, ↓mf_20_5, ↓mp_20_6, ↓mf_20_6, ↓mf_20_7, ↓mp_20_8, ↓mf_20_8, ↓mf_20_9, ↓mf_20_10, ↓mp_20_11, ↓mf_20_11, ↓mf_20_12, ↓mf_20_13, ↓mp_20_14, ↓mf_20_14, ↓mf_20_15, ↓mp_20_16, ↓mf_20_16, ↓ma_21, ↓ms_21, ↓ma_22, ↓ms_22, ↓ma_23, ↓ms_23, ↓ma_24, ↓ms_24, ↓ma_25, ↓ms_25, ↓ma_26, ↓ms_26, ↓ma_27, ↓ms_27, ↓ma_28, ↓ms_28, ↓ma_29, ↓ms_29, ↓ma_30, ↓ms_30, ↓ma_31, ↓ms_31, ↓bnd_some, ↓cond_true, ↓m_pv_none, ↓m_pv_some, m_b01_0, m_b01_1, true_and, and_true, eq_self, ↓g1, ↓g2, e1.mpr rfl, ↓reduceIte]
        rfl
      · by_cases h4 : ch = 64
        · subst h4
          simp only [↓g132_0, ↓g132_1, ↓g132_3, ↓g132_5, ↓g132_8, ↓g132_11, ↓g132_12, ↓g132_13, ↓g132_14, ↓g132_16, ↓g132_17, ↓g132_18, ↓g132_19, ↓g132_21, ↓g132_23, ↓g132_26, ↓g132_29, ↓g132_32, ↓g132_33, ↓g132_34, ↓g132_36, ↓g132_37, ↓g132_38, ↓g132_39, ↓g132_41, ↓g132_44, ↓g132_47, ↓g132_50, ↓g132_51, ↓g132_53, ↓g132_56, ↓g132_59, ↓g132_62, ↓g132_63, ↓mo_20, ↓mf_20_0, ↓mf_20_1, ↓mp_20_2, ↓mf_20_2, ↓mf_20_3, ↓mf_20_4, ↓mf_20_5, ↓mp_20_6, ↓mf_20_6, ↓mf_20_7, ↓mp_20_8, ↓mf_20_8, ↓mf_20_9, ↓mf_20_10, ↓mp_20_11, ↓mf_20_11, ↓mf_20_12, ↓mf_20_13, ↓mp_20_14, ↓mf_20_14, ↓mf_20_15, ↓mp_20_16, ↓mf_20_16, ↓ma_21, ↓ms_21, ↓ma_22, ↓ms_22, ↓ma_23, ↓ms_23, ↓ma_24, ↓ms_24, ↓ma_25, ↓ms_25, ↓ma_26, ↓ms_26, ↓ma_27, ↓ms_27, ↓ma_28, ↓ms_28, ↓ma_29, ↓ms_29, ↓ma_30, ↓ms_30, ↓ma_31, ↓ms_31, ↓bnd_some, ↓cond_true, ↓m_pv_none, ↓m_pv_some, m_b01_0, m_b01_1, true_and, and_true, eq_self, ↓g1, ↓g2, e1, h3, e2.mpr rfl, ↓reduceIte]
          rfl
        · have hq : kOf ch = none := by unfold kOf; rw [if_neg h3, if_neg h4, if_neg h1, if_neg (by omega)]
          have hv : pbv ch = -1 := by unfold pbv; rw [hq]
          rw [hv]
          simp only [↓g132_0, ↓g132_1, ↓g132_3, ↓g132_5, ↓g132_8, ↓g132_11, ↓g132_12, ↓g132_13, ↓g132_14, ↓g132_16, ↓g132_17, ↓g132_18, ↓g132_19, ↓g132_21, ↓g132_23, ↓g132_26, ↓g132_29, ↓g132_32, ↓g132_33, ↓g132_34, ↓g132_36, ↓g132_37, ↓g132_38, ↓g132_39, ↓g132_41, ↓g132_44, ↓g132_47, ↓g132_50, ↓g132_51, ↓g132_53, ↓g132_56, ↓g132_59, ↓g132_62, ↓g132_63, ↓mo_20, ↓mf_20_0, ↓mf_20_1, ↓mp_20_2, ↓mf_20_2, ↓mf_20_3, ↓mf_20_4, ↓mf_20_5, ↓mp_20_6, ↓mf_20_6, ↓mf_20_7, ↓mp_20_8, ↓mf_20_8, ↓mf_20_9, ↓mf_20_10, ↓mp_20_11, ↓mf_20_11, ↓mf_20_12, ↓mf_20_13, ↓mp_20_14, ↓mf_20_14, ↓mf_20_15, ↓mp_20_16, ↓mf_20_16, ↓ma_21, ↓ms_21, ↓ma_22, ↓ms_22, ↓ma_23, ↓ms_23, ↓ma_24, ↓ms_24, ↓ma_25, ↓ms_25, ↓ma_26, ↓ms_26, ↓ma_27, ↓ms_27, ↓ma_28, ↓ms_28, ↓ma_29, ↓ms_29, ↓ma_30, ↓ms_30, ↓ma_31, ↓ms_31, ↓bnd_some, ↓cond_true, ↓m_pv_none, ↓m_pv_some, m_b01_0, m_b01_1, true_and, and_true, eq_self, ↓g1, ↓g2, e1, h3, e2, h4, ↓reduceIte]
theorem n_faultL {P : List Nat} (hPo : Pok P) : ∀ (n k : Nat) (s : List Nat) (d : Nat → Nat → Int32), n + k = P.length → s.length ≤ k + 1 → (∀ e ∈ s, e ≤ k) → PM d P → AW (d 9) s → ∃ d', mx [9] [] d d' ∧ ∀ (K : Option Value → mM → Prop) (j3 j4 : Value), go S 133 11 [.ref 20, .int (nI s.length), .int (nI k), j3, j4] [] (mk c (md d)) K = K (some (.int (flt (P.drop k) s k))) (mk c (md d'))
  | 0, k, s, d, hk, hs, hd, h, hA => by
    have e : k = P.length := by omega
    subst e
    refine ⟨d, mx_rf, fun K j3 j4 => ?_⟩
    have hP := hPo.1
    have e1 := nI_z (n := s.length) (by omega)
    rw [g133_11, List.drop_length]
    unfold flt
    by_cases hz : s = []
    · subst hz
      simp only [↓g133_0, ↓g133_1, ↓g133_2, ↓g133_3, ↓g133_6, ↓g133_7, ↓g133_8, ↓g133_9, ↓g133_10, ↓g133_12, ↓g133_13, ↓g133_16, ↓g133_19, ↓g133_20, ↓g133_23, ↓g133_24, ↓g133_25, ↓g133_28, ↓g133_29, ↓g133_30, ↓g133_33, ↓g133_34, ↓g133_37, ↓g133_38, ↓g133_41, ↓g133_42, ↓g133_43, ↓g133_44, ↓g133_45, ↓g133_47, ↓g133_48, ↓g133_51, ↓g133_52, ↓g133_55, ↓g133_56, ↓g133_59, ↓g133_60, ↓g133_63, ↓g133_64, ↓g133_66, ↓g133_69, ↓g133_70, ↓g133_71, ↓g133_72, ↓g133_75, ↓g133_76, ↓g133_77, ↓g133_80, ↓g133_81, ↓g133_84, ↓g133_85, ↓g133_87, ↓g133_88, ↓g133_91, ↓g133_94, ↓g133_95, ↓g133_98, ↓g133_99, ↓g133_100, ↓g133_103, ↓g133_104, ↓g133_107, ↓g133_108, ↓g133_109, ↓g133_110, ↓g133_112, ↓g133_113, ↓g133_114, ↓g133_115, ↓g133_118, ↓g133_121, ↓g133_124, ↓g133_127, ↓g133_128, ↓g133_131, ↓g133_133, ↓g133_136, ↓g133_137, ↓g133_140, ↓mo_20, ↓mf_20_0, ↓mf_20_1, ↓mp_20_2, ↓mf_20_2, ↓mf_20_3, ↓mf_20_4, ↓mf_20_5, ↓mp_20_6, ↓mf_20_6, ↓mf_20_7, ↓mp_20_8, ↓mf_20_8, ↓mf_20_9, ↓mf_20_10, ↓mp_20_11, ↓mf_20_11, ↓mf_20_12, ↓mf_20_13, ↓mp_20_14, ↓mf_20_14, ↓mf_20_15, ↓mp_20_16, ↓mf_20_16, ↓ma_21, ↓ms_21, ↓ma_22, ↓ms_22, ↓ma_23, ↓ms_23, ↓ma_24, ↓ms_24, ↓ma_25, ↓ms_25, ↓ma_26, ↓ms_26, ↓ma_27, ↓ms_27, ↓ma_28, ↓ms_28, ↓ma_29, ↓ms_29, ↓ma_30, ↓ms_30, ↓ma_31, ↓ms_31, ↓bnd_some, ↓cond_true, ↓m_pv_none, ↓m_pv_some, m_b01_0, m_b01_1, true_and, and_true, eq_self, h.1, Int32.le_refl, ↓reduceIte, List.length_nil, show nI 0 = 0 from rfl]
    · have hz2 : ¬ s.length = 0 := fun z => hz (List.length_eq_zero_iff.mp z)
      simp only [↓g133_0, ↓g133_1, ↓g133_2, ↓g133_3, ↓g133_6, ↓g133_7, ↓g133_8, ↓g133_9, ↓g133_10, ↓g133_12, ↓g133_13, ↓g133_16, ↓g133_19, ↓g133_20, ↓g133_23, ↓g133_24, ↓g133_25, ↓g133_28, ↓g133_29, ↓g133_30, ↓g133_33, ↓g133_34, ↓g133_37, ↓g133_38, ↓g133_41, ↓g133_42, ↓g133_43, ↓g133_44, ↓g133_45, ↓g133_47, ↓g133_48, ↓g133_51, ↓g133_52, ↓g133_55, ↓g133_56, ↓g133_59, ↓g133_60, ↓g133_63, ↓g133_64, ↓g133_66, ↓g133_69, ↓g133_70, ↓g133_71, ↓g133_72, ↓g133_75, ↓g133_76, ↓g133_77, ↓g133_80, ↓g133_81, ↓g133_84, ↓g133_85, ↓g133_87, ↓g133_88, ↓g133_91, ↓g133_94, ↓g133_95, ↓g133_98, ↓g133_99, ↓g133_100, ↓g133_103, ↓g133_104, ↓g133_107, ↓g133_108, ↓g133_109, ↓g133_110, ↓g133_112, ↓g133_113, ↓g133_114, ↓g133_115, ↓g133_118, ↓g133_121, ↓g133_124, ↓g133_127, ↓g133_128, ↓g133_131, ↓g133_133, ↓g133_136, ↓g133_137, ↓g133_140, ↓mo_20, ↓mf_20_0, ↓mf_20_1, ↓mp_20_2, ↓mf_20_2, ↓mf_20_3, ↓mf_20_4, ↓mf_20_5, ↓mp_20_6, ↓mf_20_6, ↓mf_20_7, ↓mp_20_8, ↓mf_20_8, ↓mf_20_9, ↓mf_20_10, ↓mp_20_11, ↓mf_20_11, ↓mf_20_12, ↓mf_20_13, ↓mp_20_14, ↓mf_20_14, ↓mf_20_15, ↓mp_20_16, ↓mf_20_16, ↓ma_21, ↓ms_21, ↓ma_22, ↓ms_22, ↓ma_23, ↓ms_23, ↓ma_24, ↓ms_24, ↓ma_25, ↓ms_25, ↓ma_26, ↓ms_26, ↓ma_27, ↓ms_27, ↓ma_28, ↓ms_28, ↓ma_29, ↓ms_29, ↓ma_30, ↓ms_30, ↓ma_31, ↓ms_31, ↓bnd_some, ↓cond_true, ↓m_pv_none, ↓m_pv_some, m_b01_0, m_b01_1, true_and, and_true, eq_self, h.1, Int32.le_refl, ↓reduceIte, e1, hz2, hz]
  | n + 1, k, s, d, hk, hs, hd, h, hA => by
    have hP := hPo.1
    have hkP : k < P.length := by omega
    have e0 : ¬ nI P.length ≤ nI k := nI_ge (by omega) (by omega)
    rw [drop_getD hkP]
    have hch := hPo.at hkP
    have i1 := ib (show k < 60 by omega)
    have i2 := nI_clamp (show k < 2 ^ 31 by omega)
    have e4 := h.2 k hkP
    have g1 := fun M K => n_partBy (S := S) M (ch := P.getD k 0) (by omega) K
    cases s with
    | nil =>
      refine ⟨d, mx_rf, fun K j3 j4 => ?_⟩
      rw [g133_11]
      simp only [↓g133_0, ↓g133_1, ↓g133_2, ↓g133_3, ↓g133_6, ↓g133_7, ↓g133_8, ↓g133_9, ↓g133_10, ↓g133_12, ↓g133_13, ↓g133_16, ↓g133_19, ↓g133_20, ↓g133_23, ↓g133_24, ↓g133_25, ↓g133_28, ↓g133_29, ↓g133_30, ↓g133_33, ↓g133_34, ↓g133_37, ↓g133_38, ↓g133_41, ↓g133_42, ↓g133_43, ↓g133_44, ↓g133_45, ↓g133_47, ↓g133_48, ↓g133_51, ↓g133_52, ↓g133_55, ↓g133_56, ↓g133_59, ↓g133_60, ↓g133_63, ↓g133_64, ↓g133_66, ↓g133_69, ↓g133_70, ↓g133_71, ↓g133_72, ↓g133_75, ↓g133_76, ↓g133_77, ↓g133_80, ↓g133_81, ↓g133_84, ↓g133_85, ↓g133_87, ↓g133_88, ↓g133_91, ↓g133_94, ↓g133_95, ↓g133_98, ↓g133_99, ↓g133_100, ↓g133_103, ↓g133_104, ↓g133_107, ↓g133_108, ↓g133_109, ↓g133_110, ↓g133_112, ↓g133_113, ↓g133_114, ↓g133_115, ↓g133_118, ↓g133_121, ↓g133_124, ↓g133_127, ↓g133_128, ↓g133_131, ↓g133_133, ↓g133_136, ↓g133_137, ↓g133_140, ↓mo_20, ↓mf_20_0, ↓mf_20_1, ↓mp_20_2, ↓mf_20_2, ↓mf_20_3, ↓mf_20_4, ↓mf_20_5, ↓mp_20_6, ↓mf_20_6, ↓mf_20_7, ↓mp_20_8, ↓mf_20_8, ↓mf_20_9, ↓mf_20_10, ↓mp_20_11, ↓mf_20_11, ↓mf_20_12, ↓mf_20_13, ↓mp_20_14, ↓mf_20_14, ↓mf_20_15, ↓mp_20_16, ↓mf_20_16, ↓ma_21, ↓ms_21, ↓ma_22, ↓ms_22, ↓ma_23, ↓ms_23, ↓ma_24, ↓ms_24, ↓ma_25, ↓ms_25, ↓ma_26, ↓ms_26, ↓ma_27, ↓ms_27, ↓ma_28, ↓ms_28, ↓ma_29, ↓ms_29, ↓ma_30, ↓ms_30, ↓ma_31, ↓ms_31, ↓bnd_some, ↓cond_true, ↓m_pv_none, ↓m_pv_some, m_b01_0, m_b01_1, true_and, and_true, eq_self, h.1, e0, i1, i2, e4, ↓g1, ↓reduceIte, List.length_nil, show nI 0 = 0 from rfl]
      rfl
    | cons e s' =>
      rw [List.length_cons] at hs
      have e1 : ¬ nI (s'.length + 1) = 0 := nI_ne0 (by omega) (by omega)
      have hds : e ≤ k := hd e List.mem_cons_self
      have e2 : nI (s'.length + 1) - 1 = nI s'.length := nI_pred _
      have e3 : d 9 s'.length = nI e := hA.hd
      have i3 := ib (show s'.length < 204 by omega)
      have i4 := nI_clamp (show s'.length < 2 ^ 31 by omega)
      have i5 := ib (show s'.length + 1 < 204 by omega)
      have i6 := nI_clamp (show s'.length + 1 < 2 ^ 31 by omega)
      cases hq : kOf (P.getD k 0) with
      | none =>
        have hv : pbv (P.getD k 0) = -1 := by unfold pbv; rw [hq]
        refine ⟨d, mx_rf, fun K j3 j4 => ?_⟩
        rw [g133_11]
        simp only [↓g133_0, ↓g133_1, ↓g133_2, ↓g133_3, ↓g133_6, ↓g133_7, ↓g133_8, ↓g133_9, ↓g133_10, ↓g133_12, ↓g133_13, ↓g133_16, ↓g133_19, ↓g133_20, ↓g133_23, ↓g133_24, ↓g133_25, ↓g133_28, ↓g133_29, ↓g133_30, ↓g133_33, ↓g133_34, ↓g133_37, ↓g133_38, ↓g133_41, ↓g133_42, ↓g133_43, ↓g133_44, ↓g133_45, ↓g133_47, ↓g133_48, ↓g133_51, ↓g133_52, ↓g133_55, ↓g133_56, ↓g133_59, ↓g133_60, ↓g133_63, ↓g133_64, ↓g133_66, ↓g133_69, ↓g133_70, ↓g133_71, ↓g133_72, ↓g133_75, ↓g133_76, ↓g133_77, ↓g133_80, ↓g133_81, ↓g133_84, ↓g133_85, ↓g133_87, ↓g133_88, ↓g133_91, ↓g133_94, ↓g133_95, ↓g133_98, ↓g133_99, ↓g133_100, ↓g133_103, ↓g133_104, ↓g133_107, ↓g133_108, ↓g133_109, ↓g133_110, ↓g133_112, ↓g133_113, ↓g133_114, ↓g133_115, ↓g133_118, ↓g133_121, ↓g133_124, ↓g133_127, ↓g133_128, ↓g133_131, ↓g133_133, ↓g133_136, ↓g133_137, ↓g133_140, ↓mo_20, ↓mf_20_0, ↓mf_20_1, ↓mp_20_2, ↓mf_20_2, ↓mf_20_3, ↓mf_20_4, ↓mf_20_5, ↓mp_20_6, ↓mf_20_6, ↓mf_20_7, ↓mp_20_8, ↓mf_20_8, ↓mf_20_9, ↓mf_20_10, ↓mp_20_11, ↓mf_20_11, ↓mf_20_12, ↓mf_20_13, ↓mp_20_14, ↓mf_20_14, ↓mf_20_15, ↓mp_20_16, ↓mf_20_16, ↓ma_21, ↓ms_21, ↓ma_22, ↓ms_22, ↓ma_23, ↓ms_23, ↓ma_24, ↓ms_24, ↓ma_25, ↓ms_25, ↓ma_26, ↓ms_26, ↓ma_27, ↓ms_27, ↓ma_28, ↓ms_28, ↓ma_29, ↓ms_29, ↓ma_30, ↓ms_30, ↓ma_31, ↓ms_31, ↓bnd_some, ↓cond_true, ↓m_pv_none, ↓m_pv_some, m_b01_0, m_b01_1, true_and, and_true, eq_self, h.1, e0, i1, i2, e4, ↓g1, hv, ↓reduceIte, List.length_cons, e1, e2, i3, i4, e3, show ((-1 : Int32) < 0) = True from eq_true (by decide)]
        conv => rhs; unfold flt
        simp only [hq]
      | some q =>
        have hql := kOf_le hq
        have hk1 := tm1_kd hq
        have hn1 := tm1_nu hq
        have hv : pbv (P.getD k 0) = nI (1000 * q + (tm1 (P.getD k 0)).2) := by
          unfold pbv
          rw [hq]
          show nI (1000 * (tm1 (P.getD k 0)).1 + _) = _
          rw [hk1]
        have hnb : (tm1 (P.getD k 0)).2 < 1000 := by
          rw [hn1]
          split
          · omega
          · split <;> omega
        have e6 : ¬ nI (1000 * q + (tm1 (P.getD k 0)).2) < 0 := nI_pos (by omega)
        have e7 : nI (1000 * q + (tm1 (P.getD k 0)).2) / 1000 = nI q := by
          rw [show (1000 : Int32) = nI 1000 from rfl, pk_div (by omega) (by decide) (by decide)]
          congr 1
          omega
        have z0 : (nI q = 0) ↔ q = 0 := nI_z (by omega)
        have z2 : (nI q = 2) ↔ q = 2 := nI_eq (b := 2) (by omega) (by decide)
        have z3 : (nI q = 3) ↔ q = 3 := nI_eq (b := 3) (by omega) (by decide)
        have hflt : flt (P.getD k 0 :: P.drop (k + 1)) (e :: s') k = if q = 0 ∧ e ≤ P.getD k 0 - 48 then nI k else flt (P.drop (k + 1)) (stq (q, 0) (e :: s')) (k + 1) := by
          conv => lhs; unfold flt
          simp only [hq]
        rw [hflt]
        by_cases hbad : q = 0 ∧ e ≤ P.getD k 0 - 48
        · refine ⟨d, mx_rf, fun K j3 j4 => ?_⟩
          obtain ⟨h0, hb⟩ := id hbad
          rw [if_pos h0] at hn1
          have e8 : ¬ nI (1000 * q + (tm1 (P.getD k 0)).2) < nI e := nI_nlt (by omega) (by omega)
          rw [if_pos hbad, g133_11]
          simp only [↓g133_0, ↓g133_1, ↓g133_2, ↓g133_3, ↓g133_6, ↓g133_7, ↓g133_8, ↓g133_9, ↓g133_10, ↓g133_12, ↓g133_13, ↓g133_16, ↓g133_19, ↓g133_20, ↓g133_23, ↓g133_24, ↓g133_25, ↓g133_28, ↓g133_29, ↓g133_30, ↓g133_33, ↓g133_34, ↓g133_37, ↓g133_38, ↓g133_41, ↓g133_42, ↓g133_43, ↓g133_44, ↓g133_45, ↓g133_47, ↓g133_48, ↓g133_51, ↓g133_52, ↓g133_55, ↓g133_56, ↓g133_59, ↓g133_60, ↓g133_63, ↓g133_64, ↓g133_66, ↓g133_69, ↓g133_70, ↓g133_71, ↓g133_72, ↓g133_75, ↓g133_76, ↓g133_77, ↓g133_80, ↓g133_81, ↓g133_84, ↓g133_85, ↓g133_87, ↓g133_88, ↓g133_91, ↓g133_94, ↓g133_95, ↓g133_98, ↓g133_99, ↓g133_100, ↓g133_103, ↓g133_104, ↓g133_107, ↓g133_108, ↓g133_109, ↓g133_110, ↓g133_112, ↓g133_113, ↓g133_114, ↓g133_115, ↓g133_118, ↓g133_121, ↓g133_124, ↓g133_127, ↓g133_128, ↓g133_131, ↓g133_133, ↓g133_136, ↓g133_137, ↓g133_140, ↓mo_20, ↓mf_20_0, ↓mf_20_1, ↓mp_20_2, ↓mf_20_2, ↓mf_20_3, ↓mf_20_4, ↓mf_20_5, ↓mp_20_6, ↓mf_20_6, ↓mf_20_7, ↓mp_20_8, ↓mf_20_8, ↓mf_20_9, ↓mf_20_10, ↓mp_20_11, ↓mf_20_11, ↓mf_20_12, ↓mf_20_13, ↓mp_20_14, ↓mf_20_14, ↓mf_20_15, ↓mp_20_16, ↓mf_20_16, ↓ma_21, ↓ms_21, ↓ma_22, ↓ms_22, ↓ma_23, ↓ms_23, ↓ma_24, ↓ms_24, ↓ma_25, ↓ms_25, ↓ma_26, ↓ms_26, ↓ma_27, ↓ms_27, ↓ma_28, ↓ms_28, ↓ma_29, ↓ms_29, ↓ma_30, ↓ms_30, ↓ma_31, ↓ms_31, ↓bnd_some, ↓cond_true, ↓m_pv_none, ↓m_pv_some, m_b01_0, m_b01_1, true_and, and_true, eq_self, h.1, e0, i1, i2, e4, ↓g1, hv, ↓reduceIte, List.length_cons, e1, e2, i3, i4, e3, e6, e7, z0.mpr h0, e8]
        · rw [if_neg hbad]
          have step : ∀ d1, mx [9] [] d d1 → AW (d1 9) (stq (q, 0) (e :: s')) → ∃ d', mx [9] [] d d' ∧ ∀ (K : Option Value → mM → Prop) (j3 j4 : Value), go S 133 11 [.ref 20, .int (nI (stq (q, 0) (e :: s')).length), .int (nI (k + 1)), j3, j4] [] (mk c (md d1)) K = K (some (.int (flt (P.drop (k + 1)) (stq (q, 0) (e :: s')) (k + 1)))) (mk c (md d')) := fun d1 w1 w2 => by
            obtain ⟨d', y1, y2⟩ := n_faultL hPo n (k + 1) (stq (q, 0) (e :: s')) d1 (by omega) (by
              rw [stq_cons]
              split
              · rw [List.length_cons]; omega
              · split
                · rw [List.length_cons, List.length_cons]; omega
                · omega) (fun z hz => by
              have hs2 : ∀ y ∈ s', y ≤ k := fun y hy => hd y (List.mem_cons_of_mem _ hy)
              rw [stq_cons] at hz
              split at hz
              · rcases List.mem_cons.mp hz with e | e
                · rw [e]; omega
                · have := hs2 z e; omega
              · split at hz
                · rcases List.mem_cons.mp hz with e | e
                  · rw [e]; omega
                  · rcases List.mem_cons.mp e with e | e
                    · rw [e]; omega
                    · have := hs2 z e; omega
                · have := hs2 z hz; omega) (h.mx w1 (by simp) (by simp)) w2
            exact ⟨d', mx_tr w1 y1, y2⟩
          have common : ∀ (K : Option Value → mM → Prop) (j3 j4 : Value), go S 133 11 [.ref 20, .int (nI (e :: s').length), .int (nI k), j3, j4] [] (mk c (md d)) K = go S 133 71 [.ref 20, .int (nI (s'.length + 1)), .int (nI k), .int (nI (1000 * q + (tm1 (P.getD k 0)).2)), .int (nI e)] [] (mk c (md d)) K := fun K j3 j4 => by
            rw [g133_11]
            by_cases h0 : q = 0
            · rw [if_pos h0] at hn1
              have e8 : nI (1000 * q + (tm1 (P.getD k 0)).2) < nI e := nI_lt (by omega) (by omega)
              simp only [↓g133_0, ↓g133_1, ↓g133_2, ↓g133_3, ↓g133_6, ↓g133_7, ↓g133_8, ↓g133_9, ↓g133_10, ↓g133_12, ↓g133_13, ↓g133_16, ↓g133_19, ↓g133_20, ↓g133_23, ↓g133_24, ↓g133_25, ↓g133_28, ↓g133_29, ↓g133_30, ↓g133_33, ↓g133_34, ↓g133_37, ↓g133_38, ↓g133_41, ↓g133_42, ↓g133_43, ↓g133_44, ↓g133_45, ↓g133_47, ↓g133_48, ↓g133_51, ↓g133_52, ↓g133_55, ↓g133_56, ↓g133_59, ↓g133_60, ↓g133_63, ↓g133_64, ↓g133_66, ↓g133_69, ↓g133_70, ↓g133_72, ↓g133_75, ↓g133_76, ↓g133_77, ↓g133_80, ↓g133_81, ↓g133_84, ↓g133_85, ↓g133_87, ↓g133_88, ↓g133_91, ↓g133_94, ↓g133_95, ↓g133_98, ↓g133_99, ↓g133_100, ↓g133_103, ↓g133_104, ↓g133_107, ↓g133_108, ↓g133_109, ↓g133_110, ↓g133_112, ↓g133_113, ↓g133_114, ↓g133_115, ↓g133_118, ↓g133_121, ↓g133_124, ↓g133_127, ↓g133_128, ↓g133_131, ↓g133_133, ↓g133_136, ↓g133_137, ↓g133_140, ↓mo_20, ↓mf_20_0, ↓mf_20_1, ↓mp_20_2, ↓mf_20_2, ↓mf_20_3, ↓mf_20_4, ↓mf_20_5, ↓mp_20_6, ↓mf_20_6, ↓mf_20_7, ↓mp_20_8, ↓mf_20_8, ↓mf_20_9, ↓mf_20_10, ↓mp_20_11, ↓mf_20_11, ↓mf_20_12, ↓mf_20_13, ↓mp_20_14, ↓mf_20_14, ↓mf_20_15, ↓mp_20_16, ↓mf_20_16, ↓ma_21, ↓ms_21, ↓ma_22, ↓ms_22, ↓ma_23, ↓ms_23, ↓ma_24, ↓ms_24, ↓ma_25, ↓ms_25, ↓ma_26, ↓ms_26, ↓ma_27, ↓ms_27, ↓ma_28, ↓ms_28, ↓ma_29, ↓ms_29, ↓ma_30, ↓ms_30, ↓ma_31, ↓ms_31, ↓bnd_some, ↓cond_true, ↓m_pv_none, ↓m_pv_some, m_b01_0, m_b01_1, true_and, and_true, eq_self, h.1, e0, i1, i2, e4, ↓g1, hv, ↓reduceIte, List.length_cons, e1, e2, i3, i4, e3, e6, e7, z0.mpr h0, e8]
            · simp only [↓g133_0, ↓g133_1, ↓g133_2, ↓g133_3, ↓g133_6, ↓g133_7, ↓g133_8, ↓g133_9, ↓g133_10, ↓g133_12, ↓g133_13, ↓g133_16, ↓g133_19, ↓g133_20, ↓g133_23, ↓g133_24, ↓g133_25, ↓g133_28, ↓g133_29, ↓g133_30, ↓g133_33, ↓g133_34, ↓g133_37, ↓g133_38, ↓g133_41, ↓g133_42, ↓g133_43, ↓g133_44, ↓g133_45, ↓g133_47, ↓g133_48, ↓g133_51, ↓g133_52, ↓g133_55, ↓g133_56, ↓g133_59, ↓g133_60, ↓g133_63, ↓g133_64, ↓g133_66, ↓g133_69, ↓g133_70, ↓g133_72, ↓g133_75, ↓g133_76, ↓g133_77, ↓g133_80, ↓g133_81, ↓g133_84, ↓g133_85, ↓g133_87, ↓g133_88, ↓g133_91, ↓g133_94, ↓g133_95, ↓g133_98, ↓g133_99, ↓g133_100, ↓g133_103, ↓g133_104, ↓g133_107, ↓g133_108, ↓g133_109, ↓g133_110, ↓g133_112, ↓g133_113, ↓g133_114, ↓g133_115, ↓g133_118, ↓g133_121, ↓g133_124, ↓g133_127, ↓g133_128, ↓g133_131, ↓g133_133, ↓g133_136, ↓g133_137, ↓g133_140, ↓mo_20, ↓mf_20_0, ↓mf_20_1, ↓mp_20_2, ↓mf_20_2, ↓mf_20_3, ↓mf_20_4, ↓mf_20_5, ↓mp_20_6, ↓mf_20_6, ↓mf_20_7, ↓mp_20_8, ↓mf_20_8, ↓mf_20_9, ↓mf_20_10, ↓mp_20_11, ↓mf_20_11, ↓mf_20_12, ↓mf_20_13, ↓mp_20_14, ↓mf_20_14, ↓mf_20_15, ↓mp_20_16, ↓mf_20_16, ↓ma_21, ↓ms_21, ↓ma_22, ↓ms_22, ↓ma_23, ↓ms_23, ↓ma_24, ↓ms_24, ↓ma_25, ↓ms_25, ↓ma_26, ↓ms_26, ↓ma_27, ↓ms_27, ↓ma_28, ↓ms_28, ↓ma_29, ↓ms_29, ↓ma_30, ↓ms_30, ↓ma_31, ↓ms_31, ↓bnd_some, ↓cond_true, ↓m_pv_none, ↓m_pv_some, m_b01_0, m_b01_1, true_and, and_true, eq_self, h.1, e0, i1, i2, e4, ↓g1, hv, ↓reduceIte, List.length_cons, e1, e2, i3, i4, e3, e6, e7, z0, h0]
          by_cases h2 : q = 2
          · have e9 : stq (q, 0) (e :: s') = (e + 1) :: s' := by rw [stq_cons, if_pos (show (q, 0).1 = 2 from h2)]
            obtain ⟨d', y1, y2⟩ := step (ca d 9 (upd (d 9) s'.length (nI (e + 1)))) (mx_ca (by simp) (by decide)) (by rw [ca_eq, e9]; exact hA.tl.put)
            refine ⟨d', y1, fun K j3 j4 => ?_⟩
            have h3 : ¬ q = 3 := by omega
            rw [common]
            rw [e9, List.length_cons] at y2
            rw [e9]
            simp only [↓g133_0, ↓g133_1, ↓g133_2, ↓g133_3, ↓g133_6, ↓g133_7, ↓g133_8, ↓g133_9, ↓g133_10, ↓g133_12, ↓g133_13, ↓g133_16, ↓g133_19, ↓g133_20, ↓g133_23, ↓g133_24, ↓g133_25, ↓g133_28, ↓g133_29, ↓g133_30, ↓g133_33, ↓g133_34, ↓g133_37, ↓g133_38, ↓g133_41, ↓g133_42, ↓g133_43, ↓g133_44, ↓g133_45, ↓g133_47, ↓g133_48, ↓g133_51, ↓g133_52, ↓g133_55, ↓g133_56, ↓g133_59, ↓g133_60, ↓g133_63, ↓g133_64, ↓g133_66, ↓g133_69, ↓g133_70, ↓g133_71, ↓g133_72, ↓g133_75, ↓g133_76, ↓g133_77, ↓g133_80, ↓g133_81, ↓g133_84, ↓g133_85, ↓g133_87, ↓g133_88, ↓g133_91, ↓g133_94, ↓g133_95, ↓g133_98, ↓g133_99, ↓g133_100, ↓g133_103, ↓g133_104, ↓g133_107, ↓g133_108, ↓g133_109, ↓g133_110, ↓g133_112, ↓g133_113, ↓g133_114, ↓g133_115, ↓g133_118, ↓g133_121, ↓g133_124, ↓g133_127, ↓g133_128, ↓g133_131, ↓g133_133, ↓g133_136, ↓g133_137, ↓g133_140, ↓mo_20, ↓mf_20_0, ↓mf_20_1, ↓mp_20_2, ↓mf_20_2, ↓mf_20_3, ↓mf_20_4, ↓mf_20_5, ↓mp_20_6, ↓mf_20_6, ↓mf_20_7, ↓mp_20_8, ↓mf_20_8, ↓mf_20_9, ↓mf_20_10, ↓mp_20_11, ↓mf_20_11, ↓mf_20_12, ↓mf_20_13, ↓mp_20_14, ↓mf_20_14, ↓mf_20_15, ↓mp_20_16, ↓mf_20_16, ↓ma_21, ↓ms_21, ↓ma_22, ↓ms_22, ↓ma_23, ↓ms_23, ↓ma_24, ↓ms_24, ↓ma_25, ↓ms_25, ↓ma_26, ↓ms_26, ↓ma_27, ↓ms_27, ↓ma_28, ↓ms_28, ↓ma_29, ↓ms_29, ↓ma_30, ↓ms_30, ↓ma_31, ↓ms_31, ↓bnd_some, ↓cond_true, ↓m_pv_none, ↓m_pv_some, m_b01_0, m_b01_1, true_and, and_true, eq_self, e7, z3, h3, z2.mpr h2, ↓reduceIte, e2, nI_1, i3, i4]
            exact y2 K _ _
          · by_cases h3 : q = 3
            · have e9 : stq (q, 0) (e :: s') = e :: e :: s' := by rw [stq_cons, if_neg (show ¬ (q, 0).1 = 2 from h2), if_pos (show (q, 0).1 = 3 from h3)]
              obtain ⟨d', y1, y2⟩ := step (ca d 9 (upd (d 9) (e :: s').length (nI e))) (mx_ca (by simp) (by decide)) (by rw [ca_eq, e9]; exact hA.put)
              refine ⟨d', y1, fun K j3 j4 => ?_⟩
              rw [common]
              rw [e9, List.length_cons, List.length_cons] at y2
              rw [e9]
              simp only [↓g133_0, ↓g133_1, ↓g133_2, ↓g133_3, ↓g133_6, ↓g133_7, ↓g133_8, ↓g133_9, ↓g133_10, ↓g133_12, ↓g133_13, ↓g133_16, ↓g133_19, ↓g133_20, ↓g133_23, ↓g133_24, ↓g133_25, ↓g133_28, ↓g133_29, ↓g133_30, ↓g133_33, ↓g133_34, ↓g133_37, ↓g133_38, ↓g133_41, ↓g133_42, ↓g133_43, ↓g133_44, ↓g133_45, ↓g133_47, ↓g133_48, ↓g133_51, ↓g133_52, ↓g133_55, ↓g133_56, ↓g133_59, ↓g133_60, ↓g133_63, ↓g133_64, ↓g133_66, ↓g133_69, ↓g133_70, ↓g133_71, ↓g133_72, ↓g133_75, ↓g133_76, ↓g133_77, ↓g133_80, ↓g133_81, ↓g133_84, ↓g133_85, ↓g133_87, ↓g133_88, ↓g133_91, ↓g133_94, ↓g133_95, ↓g133_98, ↓g133_99, ↓g133_100, ↓g133_103, ↓g133_104, ↓g133_107, ↓g133_108, ↓g133_109, ↓g133_110, ↓g133_112, ↓g133_113, ↓g133_114, ↓g133_115, ↓g133_118, ↓g133_121, ↓g133_124, ↓g133_127, ↓g133_128, ↓g133_131, ↓g133_133, ↓g133_136, ↓g133_137, ↓g133_140, ↓mo_20, ↓mf_20_0, ↓mf_20_1, ↓mp_20_2, ↓mf_20_2, ↓mf_20_3, ↓mf_20_4, ↓mf_20_5, ↓mp_20_6, ↓mf_20_6, ↓mf_20_7, ↓mp_20_8, ↓mf_20_8, ↓mf_20_9, ↓mf_20_10, ↓mp_20_11, ↓mf_20_11, ↓mf_20_12, ↓mf_20_13, ↓mp_20_14, ↓mf_20_14, ↓mf_20_15, ↓mp_20_16, ↓mf_20_16, ↓ma_21, ↓ms_21, ↓ma_22, ↓ms_22, ↓ma_23, ↓ms_23, ↓ma_24, ↓ms_24, ↓ma_25, ↓ms_25, ↓ma_26, ↓ms_26, ↓ma_27, ↓ms_27, ↓ma_28, ↓ms_28, ↓ma_29, ↓ms_29, ↓ma_30, ↓ms_30, ↓ma_31, ↓ms_31, ↓bnd_some, ↓cond_true, ↓m_pv_none, ↓m_pv_some, m_b01_0, m_b01_1, true_and, and_true, eq_self, e7, z3.mpr h3, ↓reduceIte, nI_1, i5, i6]
              exact y2 K _ _
            · have e9 : stq (q, 0) (e :: s') = s' := by
                rw [stq_cons, if_neg (show ¬ (q, 0).1 = 2 from h2), if_neg (show ¬ (q, 0).1 = 3 from h3)]
              obtain ⟨d', y1, y2⟩ := step d mx_rf (by rw [e9]; exact hA.tl)
              refine ⟨d', y1, fun K j3 j4 => ?_⟩
              rw [e9] at y2 ⊢
              rw [common]
              simp only [↓g133_0, ↓g133_1, ↓g133_2, ↓g133_3, ↓g133_6, ↓g133_7, ↓g133_8, ↓g133_9, ↓g133_10, ↓g133_12, ↓g133_13, ↓g133_16, ↓g133_19, ↓g133_20, ↓g133_23, ↓g133_24, ↓g133_25, ↓g133_28, ↓g133_29, ↓g133_30, ↓g133_33, ↓g133_34, ↓g133_37, ↓g133_38, ↓g133_41, ↓g133_42, ↓g133_43, ↓g133_44, ↓g133_45, ↓g133_47, ↓g133_48, ↓g133_51, ↓g133_52, ↓g133_55, ↓g133_56, ↓g133_59, ↓g133_60, ↓g133_63, ↓g133_64, ↓g133_66, ↓g133_69, ↓g133_70, ↓g133_71, ↓g133_72, ↓g133_75, ↓g133_76, ↓g133_77, ↓g133_80, ↓g133_81, ↓g133_84, ↓g133_85, ↓g133_87, ↓g133_88, ↓g133_91, ↓g133_94, ↓g133_95, ↓g133_98, ↓g133_99, ↓g133_100, ↓g133_103, ↓g133_104, ↓g133_107, ↓g133_108, ↓g133_109, ↓g133_110, ↓g133_112, ↓g133_113, ↓g133_114, ↓g133_115, ↓g133_118, ↓g133_121, ↓g133_124, ↓g133_127, ↓g133_128, ↓g133_131, ↓g133_133, ↓g133_136, ↓g133_137, ↓g133_140, ↓mo_20, ↓mf_20_0, ↓mf_20_1, ↓mp_20_2, ↓mf_20_2, ↓mf_20_3, ↓mf_20_4, ↓mf_20_5, ↓mp_20_6, ↓mf_20_6, ↓mf_20_7, ↓mp_20_8, ↓mf_20_8, ↓mf_20_9, ↓mf_20_10, ↓mp_20_11, ↓mf_20_11, ↓mf_20_12, ↓mf_20_13, ↓mp_20_14, ↓mf_20_14, ↓mf_20_15, ↓mp_20_16, ↓mf_20_16, ↓ma_21, ↓ms_21, ↓ma_22, ↓ms_22, ↓ma_23, ↓ms_23, ↓ma_24, ↓ms_24, ↓ma_25, ↓ms_25, ↓ma_26, ↓ms_26, ↓ma_27, ↓ms_27, ↓ma_28, ↓ms_28, ↓ma_29, ↓ms_29, ↓ma_30, ↓ms_30, ↓ma_31, ↓ms_31, ↓bnd_some, ↓cond_true, ↓m_pv_none, ↓m_pv_some, m_b01_0, m_b01_1, true_and, and_true, eq_self, e7, z2, z3, h2, h3, ↓reduceIte, nI_1, pk_m1]
              exact y2 K _ _
theorem n_fault {P : List Nat} (hPo : Pok P) {d : Nat → Nat → Int32} (h : PM d P) : ∃ d', mx [9] [] d d' ∧ ∀ (K : Option Value → mM → Prop), go S 133 0 [.ref 20, .null, .null, .null, .null] [] (mk c (md d)) K = K (some (.int (flt P [0] 0))) (mk c (md d')) := by
  have h0 : mx [9] [] d (ca d 9 (upd (d 9) 0 0)) := mx_ca (by simp) (by decide)
  obtain ⟨d', b1, b2⟩ := n_faultL (S := S) (c := c) hPo P.length 0 [0] (ca d 9 (upd (d 9) 0 0)) rfl (by simp) (by simp) (h.mx h0 (by simp) (by simp)) (by
    rw [ca_eq]
    intro i hi
    have hi : i < 1 := hi
    have e : i = 0 := by omega
    subst e
    exact upd_eq _ _ _)
  refine ⟨d', mx_tr h0 b1, fun K => ?_⟩
  simp only [↓g133_0, ↓g133_1, ↓g133_2, ↓g133_3, ↓g133_6, ↓g133_7, ↓g133_8, ↓g133_9, ↓g133_10, ↓g133_12, ↓g133_13, ↓g133_16, ↓g133_19, ↓g133_20, ↓g133_23, ↓g133_24, ↓g133_25, ↓g133_28, ↓g133_29, ↓g133_30, ↓g133_33, ↓g133_34, ↓g133_37, ↓g133_38, ↓g133_41, ↓g133_42, ↓g133_43, ↓g133_44, ↓g133_45, ↓g133_47, ↓g133_48, ↓g133_51, ↓g133_52, ↓g133_55, ↓g133_56, ↓g133_59, ↓g133_60, ↓g133_63, ↓g133_64, ↓g133_66, ↓g133_69, ↓g133_70, ↓g133_71, ↓g133_72, ↓g133_75, ↓g133_76, ↓g133_77, ↓g133_80, ↓g133_81, ↓g133_84, ↓g133_85, ↓g133_87, ↓g133_88, ↓g133_91, ↓g133_94, ↓g133_95, ↓g133_98, ↓g133_99, ↓g133_100, ↓g133_103, ↓g133_104, ↓g133_107, ↓g133_108, ↓g133_109, ↓g133_110, ↓g133_112, ↓g133_113, ↓g133_114, ↓g133_115, ↓g133_118, ↓g133_121, ↓g133_124, ↓g133_127, ↓g133_128, ↓g133_131, ↓g133_133, ↓g133_136, ↓g133_137, ↓g133_140, ↓mo_20, ↓mf_20_0, ↓mf_20_1, ↓mp_20_2, ↓mf_20_2, ↓mf_20_3, ↓mf_20_4, ↓mf_20_5, ↓mp_20_6, ↓mf_20_6, ↓mf_20_7, ↓mp_20_8, ↓mf_20_8, ↓mf_20_9, ↓mf_20_10, ↓mp_20_11, ↓mf_20_11, ↓mf_20_12, ↓mf_20_13, ↓mp_20_14, ↓mf_20_14, ↓mf_20_15, ↓mp_20_16, ↓mf_20_16, ↓ma_21, ↓ms_21, ↓ma_22, ↓ms_22, ↓ma_23, ↓ms_23, ↓ma_24, ↓ms_24, ↓ma_25, ↓ms_25, ↓ma_26, ↓ms_26, ↓ma_27, ↓ms_27, ↓ma_28, ↓ms_28, ↓ma_29, ↓ms_29, ↓ma_30, ↓ms_30, ↓ma_31, ↓ms_31, ↓bnd_some, ↓cond_true, ↓m_pv_none, ↓m_pv_some, m_b01_0, m_b01_1, true_and, and_true, eq_self, show m_inb 0 204 = true from by decide, show (0 : Int32).toNatClampNeg = 0 from rfl]
  exact b2 K .null .null
theorem n_putA (M : mM) (a : Int64) : ∀ (n f r : Nat) (b : Bool), n + f = 8 → r < 2 ^ 64 → ∀ (K : Option Value → mM → Prop) (a0 a7 : Value), go S 130 8 [a0, .long a, .null, .int (nI f), .long (lN r), .null, .int (if b = true then 1 else 0), a7] [] M K = go S 130 67 [a0, .long a, .null, .int (nI (f + (zs n r).1)), .long (lN (zs n r).2.1), .null, .int (if (b && (zs n r).2.2) = true then 1 else 0), a7] [] M K
  | 0, f, r, b, hf, hr, K, a0, a7 => by
    have e : f = 8 := by omega
    subst e
    rw [g130_8]
    simp only [↓g130_0, ↓g130_1, ↓g130_2, ↓g130_3, ↓g130_5, ↓g130_6, ↓g130_9, ↓g130_11, ↓g130_14, ↓g130_16, ↓g130_19, ↓g130_20, ↓g130_21, ↓g130_22, ↓g130_25, ↓g130_27, ↓g130_30, ↓g130_32, ↓g130_35, ↓g130_36, ↓g130_37, ↓g130_39, ↓g130_41, ↓g130_44, ↓g130_47, ↓g130_48, ↓g130_51, ↓g130_52, ↓g130_54, ↓g130_56, ↓g130_58, ↓g130_59, ↓g130_61, ↓g130_64, ↓g130_68, ↓g130_71, ↓g130_73, ↓g130_76, ↓g130_78, ↓g130_79, ↓g130_80, ↓g130_83, ↓g130_85, ↓g130_86, ↓g130_87, ↓g130_90, ↓g130_91, ↓g130_92, ↓g130_94, ↓g130_97, ↓g130_99, ↓g130_100, ↓g130_101, ↓g130_102, ↓g130_103, ↓g130_107, ↓g130_110, ↓g130_111, ↓g130_114, ↓g130_115, ↓g130_118, ↓g130_119, ↓g130_121, ↓g130_123, ↓g130_124, ↓g130_125, ↓g130_128, ↓g130_129, ↓g130_130, ↓g130_131, ↓g130_132, ↓g130_133, ↓g130_136, ↓g130_137, ↓g130_138, ↓g130_141, ↓g130_144, ↓g130_147, ↓g130_148, ↓g130_151, show (8 : Int32) ≤ nI 8 from Int32.le_refl _, ↓reduceIte, zs, Bool.and_true, Nat.add_zero]
  | n + 1, f, r, b, hf, hr, K, a0, a7 => by
    have e1 : ¬ (8 : Int32) ≤ nI f := nI_ge (b := 8) (by omega) (by decide)
    have e2 : lN r &&& 255 = lN (r % 256) := by rw [l_255, wb_mask hr (by decide)]
    have hm : r % 256 < 256 := Nat.mod_lt _ (by decide)
    have e3 : (lN (r % 256) = (0 : Int64)) ↔ r % 256 = 0 := lN_0 (by omega)
    have e4 : ((lN r).toUInt64 >>> ((8 : Int32).toInt64.toUInt64 &&& Int64.toUInt64 63)).toInt64 = lN (r / 256) := wb_shr (k := 8) hr (by decide)
    have g1 := fun K => n_within (S := S) M (nI (r % 256)) 33 126 K
    have e5 : ((33 : Int32) ≤ nI (r % 256) ∧ nI (r % 256) ≤ 126) ↔ (33 ≤ r % 256 ∧ r % 256 ≤ 126) := and_congr (nI_leI (a := 33) (by decide) (by omega)) (nI_leI (b := 126) (by omega) (by decide))
    by_cases h0 : r % 256 = 0
    · have ez : zs (n + 1) r = (0, r, true) := by unfold zs; rw [if_pos h0]
      rw [ez, g130_8]
      simp only [↓g130_0, ↓g130_1, ↓g130_2, ↓g130_3, ↓g130_5, ↓g130_6, ↓g130_9, ↓g130_11, ↓g130_14, ↓g130_16, ↓g130_19, ↓g130_20, ↓g130_21, ↓g130_22, ↓g130_25, ↓g130_27, ↓g130_30, ↓g130_32, ↓g130_35, ↓g130_36, ↓g130_37, ↓g130_39, ↓g130_41, ↓g130_44, ↓g130_47, ↓g130_48, ↓g130_51, ↓g130_52, ↓g130_54, ↓g130_56, ↓g130_58, ↓g130_59, ↓g130_61, ↓g130_64, ↓g130_68, ↓g130_71, ↓g130_73, ↓g130_76, ↓g130_78, ↓g130_79, ↓g130_80, ↓g130_83, ↓g130_85, ↓g130_86, ↓g130_87, ↓g130_90, ↓g130_91, ↓g130_92, ↓g130_94, ↓g130_97, ↓g130_99, ↓g130_100, ↓g130_101, ↓g130_102, ↓g130_103, ↓g130_107, ↓g130_110, ↓g130_111, ↓g130_114, ↓g130_115, ↓g130_118, ↓g130_119, ↓g130_121, ↓g130_123, ↓g130_124, ↓g130_125, ↓g130_128, ↓g130_129, ↓g130_130, ↓g130_131, ↓g130_132, ↓g130_133, ↓g130_136, ↓g130_137, ↓g130_138, ↓g130_141, ↓g130_144, ↓g130_147, ↓g130_148, ↓g130_151, ↓mo_20, ↓mf_20_0, ↓mf_20_1, ↓mp_20_2, ↓mf_20_2, ↓mf_20_3, ↓mf_20_4, ↓mf_20_5, ↓mp_20_6, ↓mf_20_6, ↓mf_20_7, ↓mp_20_8, ↓mf_20_8, ↓mf_20_9, ↓mf_20_10, ↓mp_20_11, ↓mf_20_11, ↓mf_20_12, ↓mf_20_13, ↓mp_20_14, ↓mf_20_14, ↓mf_20_15, ↓mp_20_16, ↓mf_20_16, ↓ma_21, ↓ms_21, ↓ma_22, ↓ms_22, ↓ma_23, ↓ms_23, ↓ma_24, ↓ms_24, ↓ma_25, ↓ms_25, ↓ma_26, ↓ms_26, ↓ma_27, ↓ms_27, ↓ma_28, ↓ms_28, ↓ma_29, ↓ms_29, ↓ma_30, ↓ms_30, ↓ma_31, ↓ms_31, ↓bnd_some, ↓cond_true, ↓m_pv_none, ↓m_pv_some, m_b01_0, m_b01_1, true_and, and_true, eq_self, e1, ↓reduceIte, e2, lg_cmp_eq, e3.mpr h0, Bool.and_true, Nat.add_zero]
    · have ez : zs (n + 1) r = ((zs n (r / 256)).1 + 1, (zs n (r / 256)).2.1, decide (33 ≤ r % 256 ∧ r % 256 ≤ 126) && (zs n (r / 256)).2.2) := by rw [zs, if_neg h0]
      have ih := fun b' => n_putA M a n (f + 1) (r / 256) b' (by omega) (Nat.lt_of_le_of_lt (Nat.div_le_self _ _) hr) K a0 a7
      rw [ez]
      dsimp only
      rw [show f + ((zs n (r / 256)).1 + 1) = f + 1 + (zs n (r / 256)).1 by omega, ← Bool.and_assoc, ← ih, g130_8]
      cases b with
      | false =>
        simp only [↓g130_0, ↓g130_1, ↓g130_2, ↓g130_3, ↓g130_5, ↓g130_6, ↓g130_9, ↓g130_11, ↓g130_14, ↓g130_16, ↓g130_19, ↓g130_20, ↓g130_21, ↓g130_22, ↓g130_25, ↓g130_27, ↓g130_30, ↓g130_32, ↓g130_35, ↓g130_36, ↓g130_37, ↓g130_39, ↓g130_41, ↓g130_44, ↓g130_47, ↓g130_48, ↓g130_51, ↓g130_52, ↓g130_54, ↓g130_56, ↓g130_58, ↓g130_59, ↓g130_61, ↓g130_64, ↓g130_67, ↓g130_68, ↓g130_71, ↓g130_73, ↓g130_76, ↓g130_78, ↓g130_79, ↓g130_80, ↓g130_83, ↓g130_85, ↓g130_86, ↓g130_87, ↓g130_90, ↓g130_91, ↓g130_92, ↓g130_94, ↓g130_97, ↓g130_99, ↓g130_100, ↓g130_101, ↓g130_102, ↓g130_103, ↓g130_107, ↓g130_110, ↓g130_111, ↓g130_114, ↓g130_115, ↓g130_118, ↓g130_119, ↓g130_121, ↓g130_123, ↓g130_124, ↓g130_125, ↓g130_128, ↓g130_129, ↓g130_130, ↓g130_131, ↓g130_132, ↓g130_133, ↓g130_136, ↓g130_137, ↓g130_138, ↓g130_141, ↓g130_144, ↓g130_147, ↓g130_148, ↓g130_151, ↓mo_20, ↓mf_20_0, ↓mf_20_1, ↓mp_20_2, ↓mf_20_2, ↓mf_20_3, ↓mf_20_4, ↓mf_20_5, ↓mp_20_6, ↓mf_20_6, ↓mf_20_7, ↓mp_20_8, ↓mf_20_8, ↓mf_20_9, ↓mf_20_10, ↓mp_20_11, ↓mf_20_11, ↓mf_20_12, ↓mf_20_13, ↓mp_20_14, ↓mf_20_14, ↓mf_20_15, ↓mp_20_16, ↓mf_20_16, ↓ma_21, ↓ms_21, ↓ma_22, ↓ms_22, ↓ma_23, ↓ms_23, ↓ma_24, ↓ms_24, ↓ma_25, ↓ms_25, ↓ma_26, ↓ms_26, ↓ma_27, ↓ms_27, ↓ma_28, ↓ms_28, ↓ma_29, ↓ms_29, ↓ma_30, ↓ms_30, ↓ma_31, ↓ms_31, ↓bnd_some, ↓cond_true, ↓m_pv_none, ↓m_pv_some, m_b01_0, m_b01_1, true_and, and_true, eq_self, e1, ↓reduceIte, e2, lg_cmp_eq, e3, h0, e4, nI_1, Bool.false_and, Bool.false_eq_true]
      | true =>
        by_cases hc : 33 ≤ r % 256 ∧ r % 256 ≤ 126
        · simp only [if_pos (e5.mpr hc)] at g1
          simp only [↓g130_0, ↓g130_1, ↓g130_2, ↓g130_3, ↓g130_5, ↓g130_6, ↓g130_9, ↓g130_11, ↓g130_14, ↓g130_16, ↓g130_19, ↓g130_20, ↓g130_21, ↓g130_22, ↓g130_25, ↓g130_27, ↓g130_30, ↓g130_32, ↓g130_35, ↓g130_36, ↓g130_37, ↓g130_39, ↓g130_41, ↓g130_44, ↓g130_47, ↓g130_48, ↓g130_51, ↓g130_52, ↓g130_54, ↓g130_56, ↓g130_58, ↓g130_59, ↓g130_61, ↓g130_64, ↓g130_67, ↓g130_68, ↓g130_71, ↓g130_73, ↓g130_76, ↓g130_78, ↓g130_79, ↓g130_80, ↓g130_83, ↓g130_85, ↓g130_86, ↓g130_87, ↓g130_90, ↓g130_91, ↓g130_92, ↓g130_94, ↓g130_97, ↓g130_99, ↓g130_100, ↓g130_101, ↓g130_102, ↓g130_103, ↓g130_107, ↓g130_110, ↓g130_111, ↓g130_114, ↓g130_115, ↓g130_118, ↓g130_119, ↓g130_121, ↓g130_123, ↓g130_124, ↓g130_125, ↓g130_128, ↓g130_129, ↓g130_130, ↓g130_131, ↓g130_132, ↓g130_133, ↓g130_136, ↓g130_137, ↓g130_138, ↓g130_141, ↓g130_144, ↓g130_147, ↓g130_148, ↓g130_151, ↓mo_20, ↓mf_20_0, ↓mf_20_1, ↓mp_20_2, ↓mf_20_2, ↓mf_20_3, ↓mf_20_4, ↓mf_20_5, ↓mp_20_6, ↓mf_20_6, ↓mf_20_7, ↓mp_20_8, ↓mf_20_8, ↓mf_20_9, ↓mf_20_10, ↓mp_20_11, ↓mf_20_11, ↓mf_20_12, ↓mf_20_13, ↓mp_20_14, ↓mf_20_14, ↓mf_20_15, ↓mp_20_16, ↓mf_20_16, ↓ma_21, ↓ms_21, ↓ma_22, ↓ms_22, ↓ma_23, ↓ms_23, ↓ma_24, ↓ms_24, ↓ma_25, ↓ms_25, ↓ma_26, ↓ms_26, ↓ma_27, ↓ms_27, ↓ma_28, ↓ms_28, ↓ma_29, ↓ms_29, ↓ma_30, ↓ms_30, ↓ma_31, ↓ms_31, ↓bnd_some, ↓cond_true, ↓m_pv_none, ↓m_pv_some, m_b01_0, m_b01_1, true_and, and_true, eq_self, e1, ↓reduceIte, e2, lg_cmp_eq, e3, h0, i_10, lN_i, ↓g1, e4, nI_1, Bool.true_and, decide_eq_true hc]
        · simp only [if_neg (fun z => hc (e5.mp z))] at g1
          simp only [↓g130_0, ↓g130_1, ↓g130_2, ↓g130_3, ↓g130_5, ↓g130_6, ↓g130_9, ↓g130_11, ↓g130_14, ↓g130_16, ↓g130_19, ↓g130_20, ↓g130_21, ↓g130_22, ↓g130_25, ↓g130_27, ↓g130_30, ↓g130_32, ↓g130_35, ↓g130_36, ↓g130_37, ↓g130_39, ↓g130_41, ↓g130_44, ↓g130_47, ↓g130_48, ↓g130_51, ↓g130_52, ↓g130_54, ↓g130_56, ↓g130_58, ↓g130_59, ↓g130_61, ↓g130_64, ↓g130_67, ↓g130_68, ↓g130_71, ↓g130_73, ↓g130_76, ↓g130_78, ↓g130_79, ↓g130_80, ↓g130_83, ↓g130_85, ↓g130_86, ↓g130_87, ↓g130_90, ↓g130_91, ↓g130_92, ↓g130_94, ↓g130_97, ↓g130_99, ↓g130_100, ↓g130_101, ↓g130_102, ↓g130_103, ↓g130_107, ↓g130_110, ↓g130_111, ↓g130_114, ↓g130_115, ↓g130_118, ↓g130_119, ↓g130_121, ↓g130_123, ↓g130_124, ↓g130_125, ↓g130_128, ↓g130_129, ↓g130_130, ↓g130_131, ↓g130_132, ↓g130_133, ↓g130_136, ↓g130_137, ↓g130_138, ↓g130_141, ↓g130_144, ↓g130_147, ↓g130_148, ↓g130_151, ↓mo_20, ↓mf_20_0, ↓mf_20_1, ↓mp_20_2, ↓mf_20_2, ↓mf_20_3, ↓mf_20_4, ↓mf_20_5, ↓mp_20_6, ↓mf_20_6, ↓mf_20_7, ↓mp_20_8, ↓mf_20_8, ↓mf_20_9, ↓mf_20_10, ↓mp_20_11, ↓mf_20_11, ↓mf_20_12, ↓mf_20_13, ↓mp_20_14, ↓mf_20_14, ↓mf_20_15, ↓mp_20_16, ↓mf_20_16, ↓ma_21, ↓ms_21, ↓ma_22, ↓ms_22, ↓ma_23, ↓ms_23, ↓ma_24, ↓ms_24, ↓ma_25, ↓ms_25, ↓ma_26, ↓ms_26, ↓ma_27, ↓ms_27, ↓ma_28, ↓ms_28, ↓ma_29, ↓ms_29, ↓ma_30, ↓ms_30, ↓ma_31, ↓ms_31, ↓bnd_some, ↓cond_true, ↓m_pv_none, ↓m_pv_some, m_b01_0, m_b01_1, true_and, and_true, eq_self, e1, ↓reduceIte, e2, lg_cmp_eq, e3, h0, i_10, lN_i, ↓g1, e4, nI_1, Bool.true_and, decide_eq_false hc, Bool.false_eq_true]
theorem n_putB {r : Nat} (hr : r < 2 ^ 64) : ∀ (k : Nat) (d : Nat → Nat → Int32) (P : List Nat), k ≤ 8 → P.length + k ≤ 60 → PM d P → ∃ d', PM d' (P ++ ((List.range k).map (fun i => r / 2 ^ (8 * i) % 256)).reverse) ∧ mx [5] [6] d d' ∧ ∀ (K : Option Value → mM → Prop) (a3 a4 a5 a6 : Value), go S 130 105 [.ref 20, .long (lN r), .null, a3, a4, a5, a6, .int (nI k - 1)] [] (mk c (md d)) K = K (some (.int (nI (P.length + k)))) (mk c (md d'))
  | 0, d, P, hk, hP, h => by
    refine ⟨d, by simpa using h, mx_rf, fun K a3 a4 a5 a6 => ?_⟩
    rw [g130_105]
    simp only [↓g130_0, ↓g130_1, ↓g130_2, ↓g130_3, ↓g130_5, ↓g130_6, ↓g130_9, ↓g130_11, ↓g130_14, ↓g130_16, ↓g130_19, ↓g130_20, ↓g130_21, ↓g130_22, ↓g130_25, ↓g130_27, ↓g130_30, ↓g130_32, ↓g130_35, ↓g130_36, ↓g130_37, ↓g130_39, ↓g130_41, ↓g130_44, ↓g130_47, ↓g130_48, ↓g130_51, ↓g130_52, ↓g130_54, ↓g130_56, ↓g130_58, ↓g130_59, ↓g130_61, ↓g130_64, ↓g130_67, ↓g130_68, ↓g130_71, ↓g130_73, ↓g130_76, ↓g130_78, ↓g130_79, ↓g130_80, ↓g130_83, ↓g130_85, ↓g130_86, ↓g130_87, ↓g130_90, ↓g130_91, ↓g130_92, ↓g130_94, ↓g130_97, ↓g130_99, ↓g130_100, ↓g130_101, ↓g130_102, ↓g130_103, ↓g130_107, ↓g130_110, ↓g130_111, ↓g130_114, ↓g130_115, ↓g130_118, ↓g130_119, ↓g130_121, ↓g130_123, ↓g130_124, ↓g130_125, ↓g130_128, ↓g130_129, ↓g130_130, ↓g130_131, ↓g130_132, ↓g130_133, ↓g130_136, ↓g130_137, ↓g130_138, ↓g130_141, ↓g130_144, ↓g130_147, ↓g130_148, ↓g130_151, ↓mo_20, ↓mf_20_0, ↓mf_20_1, ↓mp_20_2, ↓mf_20_2, ↓mf_20_3, ↓mf_20_4, ↓mf_20_5, ↓mp_20_6, ↓mf_20_6, ↓mf_20_7, ↓mp_20_8, ↓mf_20_8, ↓mf_20_9, ↓mf_20_10, ↓mp_20_11, ↓mf_20_11, ↓mf_20_12, ↓mf_20_13, ↓mp_20_14, ↓mf_20_14, ↓mf_20_15, ↓mp_20_16, ↓mf_20_16, ↓ma_21, ↓ms_21, ↓ma_22, ↓ms_22, ↓ma_23, ↓ms_23, ↓ma_24, ↓ms_24, ↓ma_25, ↓ms_25, ↓ma_26, ↓ms_26, ↓ma_27, ↓ms_27, ↓ma_28, ↓ms_28, ↓ma_29, ↓ms_29, ↓ma_30, ↓ms_30, ↓ma_31, ↓ms_31, ↓bnd_some, ↓cond_true, ↓m_pv_none, ↓m_pv_some, m_b01_0, m_b01_1, true_and, and_true, eq_self, show (nI 0 - 1 < 0) = True from eq_true (by decide), ↓reduceIte, h.1, Nat.add_zero]
  | k + 1, d, P, hk, hP, h => by
    have e0 : nI (k + 1) - 1 = nI k := nI_pred k
    have e1 : ¬ nI k < 0 := nI_pos (by omega)
    have e3 : (8 : Int32) * nI k = nI (8 * k) := by rw [show (8 : Int32) = nI 8 from rfl, pk_mul]
    have e4 : ((lN r).toUInt64 >>> ((nI (8 * k)).toInt64.toUInt64 &&& Int64.toUInt64 63)).toInt64 = lN (r / 2 ^ (8 * k)) := wb_shr hr (by omega)
    have e5 : lN (r / 2 ^ (8 * k)) &&& 255 = lN (r / 2 ^ (8 * k) % 256) := by rw [l_255, wb_mask (Nat.lt_of_le_of_lt (Nat.div_le_self _ _) hr) (by decide)]
    have e6 : nI k + -1 = nI k - 1 := by rw [Int32.sub_eq_add_neg]
    obtain ⟨d', h1, h2, h3⟩ := n_putB hr k (ca (ca d 5 (upd (d 5) P.length (nI (r / 2 ^ (8 * k) % 256)))) 0 (upd (d 0) 6 (nI (P.length + 1)))) (P ++ [r / 2 ^ (8 * k) % 256]) (by omega) (by rw [List.length_append, List.length_singleton]; omega) (by
      refine ⟨by rw [ca_eq, upd_eq, List.length_append, List.length_singleton], fun j hj => ?_⟩
      rw [ca_ne (by decide), ca_eq]
      rw [List.length_append, List.length_singleton] at hj
      simp only [List.getD_eq_getElem?_getD]
      by_cases e : j = P.length
      · subst e
        rw [upd_eq]
        simp
      · rw [upd_ne e, List.getElem?_append_left (by omega), h.2 j (by omega), List.getD_eq_getElem?_getD])
    have e8 : P ++ ((List.range (k + 1)).map (fun i => r / 2 ^ (8 * i) % 256)).reverse = P ++ [r / 2 ^ (8 * k) % 256] ++ ((List.range k).map (fun i => r / 2 ^ (8 * i) % 256)).reverse := by
      rw [List.range_succ, List.map_append, List.reverse_append, List.append_assoc]
      rfl
    rw [e8]
    refine ⟨d', h1, mx_tr (mx_tr (mx_ca (by simp) (by decide)) (mx_u (a := 6) (d := ca d 5 (upd (d 5) P.length (nI (r / 2 ^ (8 * k) % 256)))) (by simp))) h2, fun K a3 a4 a5 a6 => ?_⟩
    have h4 := h3 K a3 a4 a5 a6
    rw [List.length_append, List.length_singleton, show P.length + 1 + k = P.length + (k + 1) by omega] at h4
    rw [e0, g130_105]
    simp only [↓g130_0, ↓g130_1, ↓g130_2, ↓g130_3, ↓g130_5, ↓g130_6, ↓g130_9, ↓g130_11, ↓g130_14, ↓g130_16, ↓g130_19, ↓g130_20, ↓g130_21, ↓g130_22, ↓g130_25, ↓g130_27, ↓g130_30, ↓g130_32, ↓g130_35, ↓g130_36, ↓g130_37, ↓g130_39, ↓g130_41, ↓g130_44, ↓g130_47, ↓g130_48, ↓g130_51, ↓g130_52, ↓g130_54, ↓g130_56, ↓g130_58, ↓g130_59, ↓g130_61, ↓g130_64, ↓g130_67, ↓g130_68, ↓g130_71, ↓g130_73, ↓g130_76, ↓g130_78, ↓g130_79, ↓g130_80, ↓g130_83, ↓g130_85, ↓g130_86, ↓g130_87, ↓g130_90, ↓g130_91, ↓g130_92, ↓g130_94, ↓g130_97, ↓g130_99, ↓g130_100, ↓g130_101, ↓g130_102, ↓g130_103, ↓g130_107, ↓g130_110, ↓g130_111, ↓g130_114, ↓g130_115, ↓g130_118, ↓g130_119, ↓g130_121, ↓g130_123, ↓g130_124, ↓g130_125, ↓g130_128, ↓g130_129, ↓g130_130, ↓g130_131, ↓g130_132, ↓g130_133, ↓g130_136, ↓g130_137, ↓g130_138, ↓g130_141, ↓g130_144, ↓g130_147, ↓g130_148, ↓g130_151, ↓mo_20, ↓mf_20_0, ↓mf_20_1, ↓mp_20_2, ↓mf_20_2, ↓mf_20_3, ↓mf_20_4, ↓mf_20_5, ↓mp_20_6, ↓mf_20_6, ↓mf_20_7, ↓mp_20_8, ↓mf_20_8, ↓mf_20_9, ↓mf_20_10, ↓mp_20_11, ↓mf_20_11, ↓mf_20_12, ↓mf_20_13, ↓mp_20_14, ↓mf_20_14, ↓mf_20_15, ↓mp_20_16, ↓mf_20_16, ↓ma_21, ↓ms_21, ↓ma_22, ↓ms_22, ↓ma_23, ↓ms_23, ↓ma_24, ↓ms_24, ↓ma_25, ↓ms_25, ↓ma_26, ↓ms_26, ↓ma_27, ↓ms_27, ↓ma_28, ↓ms_28, ↓ma_29, ↓ms_29, ↓ma_30, ↓ms_30, ↓ma_31, ↓ms_31, ↓bnd_some, ↓cond_true, ↓m_pv_none, ↓m_pv_some, m_b01_0, m_b01_1, true_and, and_true, eq_self, e1, ↓reduceIte, h.1, e3, e4, e5, lN_i, ib (show P.length < 60 by omega), nI_clamp (show P.length < 2 ^ 31 by omega), cz_5, nI_1, e6]
    exact h4
end MOD8
