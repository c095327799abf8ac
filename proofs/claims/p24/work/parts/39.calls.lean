/-! the object's calls -/
theorem i_10 : ((1 : Int32) = 0) = False := eq_false (by decide)
def CC (S : mS) (m : Nat) (ls : List Value) (c : Nat → Nat → Int32) (t : mM) (r : RS) : Prop := ∃ c', CI c' r.2 ∧ ∀ (K : Option Value → mM → Prop), go S m 0 ls [] (mk c t) K = K (some (.int r.1)) (mk c' t)
theorem CIT.pad {c : Nat → Nat → Int32} {T : Nat → Tm} {nx : Nat} {σ : Sg} (h : CIT c T nx σ) : PR c σ.2.2.2 := h.2.2.2.2.2.2.2
theorem CIT.padTo {c c' : Nat → Nat → Int32} {T : Nat → Tm} {nx : Nat} {σ : Sg} {ks : List Nat} (h : CIT c T nx σ) {P : List Nat} (hP : PR c' P) (hs : sx ks c c') (k1 : 3 ∉ ks) (k2 : 5 ∉ ks) (k3 : 14 ∉ ks) : CIT c' T nx (σ.1, σ.2.1, σ.2.2.1, P) := by
  obtain ⟨a1, a2, a3, a4, a5, a6, a7, a8⟩ := h
  exact ⟨a1.sx hs k1 k2, a2, a3, by rw [hs 14 k3]; exact a4, by rw [hs 14 k3]; exact a5, a6, a7, hP⟩
theorem i_len {x y : Nat} (hx : x ≤ 200) (hy : y ≤ 200) : ((1 : Int32) + nI x + nI y ≤ 200) = (1 + x + y ≤ 200) := by
  rw [l_1, nI_add, nI_add]
  exact propext (nI_leI (b := 200) (by omega) (by decide))
theorem rwt_b {l : Tm} (h : Tok l) {p : Nat} (hp : p < l.length) (hr : red l p = true) : (rwt l p).length < 2 ^ 31 := by
  have hrl := rwt_len h.1 hp hr
  have hub := us_le l p (en l (p + 1) - (p + 2))
  obtain ⟨r1, r2, r3, -⟩ := red_all h.1 hp hr
  have hlw := h.2
  have : us l p (en l (p + 1) - (p + 2)) * (en l p - en l (p + 1)) ≤ 200 * 200 := Nat.mul_le_mul (by omega) (by omega)
  omega
section CALLS
variable {S : mS} {t : mM} {c : Nat → Nat → Int32} {σ : Sg}
theorem C_read (h : CI c σ) (ho : SOk σ) (x : Int32) : CC S 50 [.ref 0, .int x] c t (F_read σ x) := by
  unfold F_read
  cases hx : rgx x 6 with
  | none => exact ⟨c, h, fun K => by simp only [↓g50_0, ↓g50_1, ↓g50_4, ↓g50_7, ↓g50_8, ↓g50_9, ↓g50_10, ↓g50_13, ↓g50_16, ↓g50_18, ↓g50_21, ↓g50_23, ↓g50_24, ↓g50_25, ↓g50_28, ↓g50_31, ↓g50_32, ↓g50_35, ↓g50_36, ↓g50_39, ↓g50_40, ↓g50_43, ↓g50_44, ↓g50_47, ↓g50_50, ↓g50_51, ↓g50_54, ↓g50_55, ↓g50_58, ↓mo_0, ↓mf_0_0, ↓mf_0_1, ↓mf_0_2, ↓mf_0_3, ↓mf_0_4, ↓mo_1, ↓mf_1_0, ↓mf_1_1, ↓mo_2, ↓mf_2_0, ↓mo_4, ↓mf_4_0, ↓mo_6, ↓mf_6_0, ↓mf_6_1, ↓mf_6_2, ↓mf_6_3, ↓mp_6_4, ↓mf_6_4, ↓mp_6_5, ↓mf_6_5, ↓mo_7, ↓mf_7_0, ↓mo_9, ↓mf_9_0, ↓mo_11, ↓mf_11_0, ↓mo_13, ↓mf_13_0, ↓mf_13_1, ↓mp_13_2, ↓mf_13_2, ↓mp_13_3, ↓mf_13_3, ↓mo_14, ↓mf_14_0, ↓mp_14_1, ↓mf_14_1, ↓mp_14_2, ↓mf_14_2, ↓mo_15, ↓mf_15_0, ↓mf_15_1, ↓mp_15_2, ↓mf_15_2, ↓mo_16, ↓mf_16_0, ↓mo_18, ↓mf_18_0, ↓ma_3, ↓ms_3, ↓ma_5, ↓ms_5, ↓ma_8, ↓ms_8, ↓ma_10, ↓ms_10, ↓ma_12, ↓ms_12, ↓ma_17, ↓ms_17, ↓ma_19, ↓ms_19, ↓bnd_some, ↓cond_true, ↓m_pv_none, ↓m_pv_some, m_b01_0, m_b01_1, true_and, and_true, ↓n_reg (rgx_no hx), ↓reduceIte, eq_self, i_10]⟩
  | some i =>
    obtain ⟨hi, rfl⟩ := rgx_some hx (by decide)
    obtain ⟨T, nx, h1⟩ := h
    obtain ⟨c1, s1, g1⟩ := p_wrong (S := S) (t := t) ho.pad h1.pad
    have h2 : CIT c1 T nx σ := h1.same (h1.1.sx s1 (by simp) (by simp)) (fun _ _ => rfl) s1 (by simp) (by simp) (by simp)
    have y1 := fun K => y_reg (S := S) (M := mk c t) (inR_nI hi (by decide)) K
    dsimp only
    by_cases hf : flt σ.2.2.2 [0] 0 = -6
    · rw [if_pos hf]
      rw [hf] at g1
      obtain ⟨c2, T2, nx2, h3, s3, g3⟩ := h_keep (S := S) (t := t) h2 ho
      obtain ⟨c3, h4, s4, g4⟩ := p_write (S := S) (t := t) ho.pad (i := i) (by omega) (flt_ok (by have := ho.pad.1; omega) hf).2.2 h3.pad h3.1
      have h5 := h3.reg hi h4 (fun j _ => rfl) s4 (by simp) (by simp) (by simp)
      obtain ⟨c4, h6, s6, g6⟩ := p_empty (S := S) (t := t) h5.pad
      have h7 := h5.padTo h6 s6 (by simp) (by simp) (by simp)
      have g7 := fun K => q_length (S := S) (t := t) h7.1 (i := i) (by omega) K
      simp only [tu_eq, List.length_map] at g7
      refine ⟨c4, ⟨_, _, h7⟩, fun K => ?_⟩
      simp only [↓g50_0, ↓g50_1, ↓g50_4, ↓g50_7, ↓g50_8, ↓g50_9, ↓g50_10, ↓g50_13, ↓g50_16, ↓g50_18, ↓g50_21, ↓g50_23, ↓g50_24, ↓g50_25, ↓g50_28, ↓g50_31, ↓g50_32, ↓g50_35, ↓g50_36, ↓g50_39, ↓g50_40, ↓g50_43, ↓g50_44, ↓g50_47, ↓g50_50, ↓g50_51, ↓g50_54, ↓g50_55, ↓g50_58, ↓mo_0, ↓mf_0_0, ↓mf_0_1, ↓mf_0_2, ↓mf_0_3, ↓mf_0_4, ↓mo_1, ↓mf_1_0, ↓mf_1_1, ↓mo_2, ↓mf_2_0, ↓mo_4, ↓mf_4_0, ↓mo_6, ↓mf_6_0, ↓mf_6_1, ↓mf_6_2, ↓mf_6_3, ↓mp_6_4, ↓mf_6_4, ↓mp_6_5, ↓mf_6_5, ↓mo_7, ↓mf_7_0, ↓mo_9, ↓mf_9_0, ↓mo_11, ↓mf_11_0, ↓mo_13, ↓mf_13_0, ↓mf_13_1, ↓mp_13_2, ↓mf_13_2, ↓mp_13_3, ↓mf_13_3, ↓mo_14, ↓mf_14_0, ↓mp_14_1, ↓mf_14_1, ↓mp_14_2, ↓mf_14_2, ↓mo_15, ↓mf_15_0, ↓mf_15_1, ↓mp_15_2, ↓mf_15_2, ↓mo_16, ↓mf_16_0, ↓mo_18, ↓mf_18_0, ↓ma_3, ↓ms_3, ↓ma_5, ↓ms_5, ↓ma_8, ↓ms_8, ↓ma_10, ↓ms_10, ↓ma_12, ↓ms_12, ↓ma_17, ↓ms_17, ↓ma_19, ↓ms_19, ↓bnd_some, ↓cond_true, ↓m_pv_none, ↓m_pv_some, m_b01_0, m_b01_1, true_and, and_true, ↓y1, ↓g1, ↓g3, ↓g4, ↓g6, ↓g7, ↓reduceIte, eq_self, i_10]
    · rw [if_neg hf]
      refine ⟨c1, ⟨_, _, h2⟩, fun K => ?_⟩
      simp only [↓g50_0, ↓g50_1, ↓g50_4, ↓g50_7, ↓g50_8, ↓g50_9, ↓g50_10, ↓g50_13, ↓g50_16, ↓g50_18, ↓g50_21, ↓g50_23, ↓g50_24, ↓g50_25, ↓g50_28, ↓g50_31, ↓g50_32, ↓g50_35, ↓g50_36, ↓g50_39, ↓g50_40, ↓g50_43, ↓g50_44, ↓g50_47, ↓g50_50, ↓g50_51, ↓g50_54, ↓g50_55, ↓g50_58, ↓mo_0, ↓mf_0_0, ↓mf_0_1, ↓mf_0_2, ↓mf_0_3, ↓mf_0_4, ↓mo_1, ↓mf_1_0, ↓mf_1_1, ↓mo_2, ↓mf_2_0, ↓mo_4, ↓mf_4_0, ↓mo_6, ↓mf_6_0, ↓mf_6_1, ↓mf_6_2, ↓mf_6_3, ↓mp_6_4, ↓mf_6_4, ↓mp_6_5, ↓mf_6_5, ↓mo_7, ↓mf_7_0, ↓mo_9, ↓mf_9_0, ↓mo_11, ↓mf_11_0, ↓mo_13, ↓mf_13_0, ↓mf_13_1, ↓mp_13_2, ↓mf_13_2, ↓mp_13_3, ↓mf_13_3, ↓mo_14, ↓mf_14_0, ↓mp_14_1, ↓mf_14_1, ↓mp_14_2, ↓mf_14_2, ↓mo_15, ↓mf_15_0, ↓mf_15_1, ↓mp_15_2, ↓mf_15_2, ↓mo_16, ↓mf_16_0, ↓mo_18, ↓mf_18_0, ↓ma_3, ↓ms_3, ↓ma_5, ↓ms_5, ↓ma_8, ↓ms_8, ↓ma_10, ↓ms_10, ↓ma_12, ↓ms_12, ↓ma_17, ↓ms_17, ↓ma_19, ↓ms_19, ↓bnd_some, ↓cond_true, ↓m_pv_none, ↓m_pv_some, m_b01_0, m_b01_1, true_and, and_true, ↓y1, ↓g1, hf, ↓reduceIte, eq_self, i_10]
theorem C_bind (h : CI c σ) (ho : SOk σ) (x y z : Int32) : CC S 51 [.ref 0, .int x, .int y, .int z, .null] c t (F_bind σ x y z) := by
  unfold F_bind
  cases hx : rgx x 6 with
  | none => exact ⟨c, h, fun K => by simp only [↓g51_0, ↓g51_1, ↓g51_4, ↓g51_7, ↓g51_8, ↓g51_11, ↓g51_14, ↓g51_15, ↓g51_16, ↓g51_17, ↓g51_20, ↓g51_21, ↓g51_23, ↓g51_26, ↓g51_28, ↓g51_29, ↓g51_30, ↓g51_31, ↓g51_34, ↓g51_35, ↓g51_38, ↓g51_39, ↓g51_42, ↓g51_45, ↓g51_47, ↓g51_48, ↓g51_49, ↓g51_52, ↓g51_55, ↓g51_56, ↓g51_57, ↓g51_58, ↓g51_61, ↓g51_63, ↓g51_64, ↓g51_67, ↓g51_69, ↓g51_70, ↓g51_73, ↓g51_75, ↓mo_0, ↓mf_0_0, ↓mf_0_1, ↓mf_0_2, ↓mf_0_3, ↓mf_0_4, ↓mo_1, ↓mf_1_0, ↓mf_1_1, ↓mo_2, ↓mf_2_0, ↓mo_4, ↓mf_4_0, ↓mo_6, ↓mf_6_0, ↓mf_6_1, ↓mf_6_2, ↓mf_6_3, ↓mp_6_4, ↓mf_6_4, ↓mp_6_5, ↓mf_6_5, ↓mo_7, ↓mf_7_0, ↓mo_9, ↓mf_9_0, ↓mo_11, ↓mf_11_0, ↓mo_13, ↓mf_13_0, ↓mf_13_1, ↓mp_13_2, ↓mf_13_2, ↓mp_13_3, ↓mf_13_3, ↓mo_14, ↓mf_14_0, ↓mp_14_1, ↓mf_14_1, ↓mp_14_2, ↓mf_14_2, ↓mo_15, ↓mf_15_0, ↓mf_15_1, ↓mp_15_2, ↓mf_15_2, ↓mo_16, ↓mf_16_0, ↓mo_18, ↓mf_18_0, ↓ma_3, ↓ms_3, ↓ma_5, ↓ms_5, ↓ma_8, ↓ms_8, ↓ma_10, ↓ms_10, ↓ma_12, ↓ms_12, ↓ma_17, ↓ms_17, ↓ma_19, ↓ms_19, ↓bnd_some, ↓cond_true, ↓m_pv_none, ↓m_pv_some, m_b01_0, m_b01_1, true_and, and_true, ↓n_reg (rgx_no hx), ↓reduceIte, eq_self, i_10]⟩
  | some i =>
    obtain ⟨hi, rfl⟩ := rgx_some hx (by decide)
    have y1 := fun K => y_reg (S := S) (M := mk c t) (inR_nI hi (by decide)) K
    cases hz : rgx z 6 with
    | none => exact ⟨c, h, fun K => by simp only [↓g51_0, ↓g51_1, ↓g51_4, ↓g51_7, ↓g51_8, ↓g51_11, ↓g51_14, ↓g51_15, ↓g51_16, ↓g51_17, ↓g51_20, ↓g51_21, ↓g51_23, ↓g51_26, ↓g51_28, ↓g51_29, ↓g51_30, ↓g51_31, ↓g51_34, ↓g51_35, ↓g51_38, ↓g51_39, ↓g51_42, ↓g51_45, ↓g51_47, ↓g51_48, ↓g51_49, ↓g51_52, ↓g51_55, ↓g51_56, ↓g51_57, ↓g51_58, ↓g51_61, ↓g51_63, ↓g51_64, ↓g51_67, ↓g51_69, ↓g51_70, ↓g51_73, ↓g51_75, ↓mo_0, ↓mf_0_0, ↓mf_0_1, ↓mf_0_2, ↓mf_0_3, ↓mf_0_4, ↓mo_1, ↓mf_1_0, ↓mf_1_1, ↓mo_2, ↓mf_2_0, ↓mo_4, ↓mf_4_0, ↓mo_6, ↓mf_6_0, ↓mf_6_1, ↓mf_6_2, ↓mf_6_3, ↓mp_6_4, ↓mf_6_4, ↓mp_6_5, ↓mf_6_5, ↓mo_7, ↓mf_7_0, ↓mo_9, ↓mf_9_0, ↓mo_11, ↓mf_11_0, ↓mo_13, ↓mf_13_0, ↓mf_13_1, ↓mp_13_2, ↓mf_13_2, ↓mp_13_3, ↓mf_13_3, ↓mo_14, ↓mf_14_0, ↓mp_14_1, ↓mf_14_1, ↓mp_14_2, ↓mf_14_2, ↓mo_15, ↓mf_15_0, ↓mf_15_1, ↓mp_15_2, ↓mf_15_2, ↓mo_16, ↓mf_16_0, ↓mo_18, ↓mf_18_0, ↓ma_3, ↓ms_3, ↓ma_5, ↓ms_5, ↓ma_8, ↓ms_8, ↓ma_10, ↓ms_10, ↓ma_12, ↓ms_12, ↓ma_17, ↓ms_17, ↓ma_19, ↓ms_19, ↓bnd_some, ↓cond_true, ↓m_pv_none, ↓m_pv_some, m_b01_0, m_b01_1, true_and, and_true, ↓y1, ↓n_reg (rgx_no hz), ↓reduceIte, eq_self, i_10]⟩
    | some k =>
      obtain ⟨hk, rfl⟩ := rgx_some hz (by decide)
      have y2 := fun K => y_reg (S := S) (M := mk c t) (inR_nI hk (by decide)) K
      cases hy : rgx y 6 with
      | none =>
        refine ⟨c, h, fun K => ?_⟩
        have hn := rgx_no hy
        by_cases q1 : y < 0
        · simp only [↓g51_0, ↓g51_1, ↓g51_4, ↓g51_7, ↓g51_8, ↓g51_11, ↓g51_14, ↓g51_15, ↓g51_16, ↓g51_17, ↓g51_20, ↓g51_21, ↓g51_23, ↓g51_26, ↓g51_28, ↓g51_29, ↓g51_30, ↓g51_31, ↓g51_34, ↓g51_35, ↓g51_38, ↓g51_39, ↓g51_42, ↓g51_45, ↓g51_47, ↓g51_48, ↓g51_49, ↓g51_52, ↓g51_55, ↓g51_56, ↓g51_57, ↓g51_58, ↓g51_61, ↓g51_63, ↓g51_64, ↓g51_67, ↓g51_69, ↓g51_70, ↓g51_73, ↓g51_75, ↓mo_0, ↓mf_0_0, ↓mf_0_1, ↓mf_0_2, ↓mf_0_3, ↓mf_0_4, ↓mo_1, ↓mf_1_0, ↓mf_1_1, ↓mo_2, ↓mf_2_0, ↓mo_4, ↓mf_4_0, ↓mo_6, ↓mf_6_0, ↓mf_6_1, ↓mf_6_2, ↓mf_6_3, ↓mp_6_4, ↓mf_6_4, ↓mp_6_5, ↓mf_6_5, ↓mo_7, ↓mf_7_0, ↓mo_9, ↓mf_9_0, ↓mo_11, ↓mf_11_0, ↓mo_13, ↓mf_13_0, ↓mf_13_1, ↓mp_13_2, ↓mf_13_2, ↓mp_13_3, ↓mf_13_3, ↓mo_14, ↓mf_14_0, ↓mp_14_1, ↓mf_14_1, ↓mp_14_2, ↓mf_14_2, ↓mo_15, ↓mf_15_0, ↓mf_15_1, ↓mp_15_2, ↓mf_15_2, ↓mo_16, ↓mf_16_0, ↓mo_18, ↓mf_18_0, ↓ma_3, ↓ms_3, ↓ma_5, ↓ms_5, ↓ma_8, ↓ms_8, ↓ma_10, ↓ms_10, ↓ma_12, ↓ms_12, ↓ma_17, ↓ms_17, ↓ma_19, ↓ms_19, ↓bnd_some, ↓cond_true, ↓m_pv_none, ↓m_pv_some, m_b01_0, m_b01_1, true_and, and_true, ↓y1, ↓y2, q1, ↓reduceIte, eq_self, i_10]
        · have q2 : ¬ y < 6 := fun z => hn ⟨Int32.not_lt.mp q1, z⟩
          simp only [↓g51_0, ↓g51_1, ↓g51_4, ↓g51_7, ↓g51_8, ↓g51_11, ↓g51_14, ↓g51_15, ↓g51_16, ↓g51_17, ↓g51_20, ↓g51_21, ↓g51_23, ↓g51_26, ↓g51_28, ↓g51_29, ↓g51_30, ↓g51_31, ↓g51_34, ↓g51_35, ↓g51_38, ↓g51_39, ↓g51_42, ↓g51_45, ↓g51_47, ↓g51_48, ↓g51_49, ↓g51_52, ↓g51_55, ↓g51_56, ↓g51_57, ↓g51_58, ↓g51_61, ↓g51_63, ↓g51_64, ↓g51_67, ↓g51_69, ↓g51_70, ↓g51_73, ↓g51_75, ↓mo_0, ↓mf_0_0, ↓mf_0_1, ↓mf_0_2, ↓mf_0_3, ↓mf_0_4, ↓mo_1, ↓mf_1_0, ↓mf_1_1, ↓mo_2, ↓mf_2_0, ↓mo_4, ↓mf_4_0, ↓mo_6, ↓mf_6_0, ↓mf_6_1, ↓mf_6_2, ↓mf_6_3, ↓mp_6_4, ↓mf_6_4, ↓mp_6_5, ↓mf_6_5, ↓mo_7, ↓mf_7_0, ↓mo_9, ↓mf_9_0, ↓mo_11, ↓mf_11_0, ↓mo_13, ↓mf_13_0, ↓mf_13_1, ↓mp_13_2, ↓mf_13_2, ↓mp_13_3, ↓mf_13_3, ↓mo_14, ↓mf_14_0, ↓mp_14_1, ↓mf_14_1, ↓mp_14_2, ↓mf_14_2, ↓mo_15, ↓mf_15_0, ↓mf_15_1, ↓mp_15_2, ↓mf_15_2, ↓mo_16, ↓mf_16_0, ↓mo_18, ↓mf_18_0, ↓ma_3, ↓ms_3, ↓ma_5, ↓ms_5, ↓ma_8, ↓ms_8, ↓ma_10, ↓ms_10, ↓ma_12, ↓ms_12, ↓ma_17, ↓ms_17, ↓ma_19, ↓ms_19, ↓bnd_some, ↓cond_true, ↓m_pv_none, ↓m_pv_some, m_b01_0, m_b01_1, true_and, and_true, ↓y1, ↓y2, q1, q2, ↓reduceIte, eq_self, i_10]
      | some j =>
        obtain ⟨hj, rfl⟩ := rgx_some hy (by decide)
        have q1 : ¬ nI j < 0 := nI_pos (by omega)
        have q2 : nI j < 6 := nI_lt (b := 6) (by omega) (by decide)
        obtain ⟨T, nx, h1⟩ := h
        have k1 := fun K => q_length (S := S) (t := t) h1.1 (i := i) (by omega) K
        rw [h1.at hi] at k1
        have b1 := (ho.reg hi).2
        have q3 : ((1 : Int32) + nI (σ.1 i).length ≤ 200) = (1 + (σ.1 i).length ≤ 200) := by
          rw [l_1, nI_add]
          exact propext (nI_leI (b := 200) (by omega) (by decide))
        dsimp only
        by_cases hf : 1 + (σ.1 i).length ≤ 200
        · rw [if_pos hf]
          obtain ⟨c2, T2, nx2, h3, s3, g3⟩ := h_keep (S := S) (t := t) h1 ho
          have e1 : T2 i = σ.1 i := h3.at hi
          obtain ⟨c3, h4, s4, g4⟩ := d_draft (S := S) (t := t) (v := i) (T := T2) (by omega) (by rw [e1]; exact (ho.reg hi).1) (by rw [e1]; exact hf) hj h3.1
          rw [e1] at h4 g4
          obtain ⟨c7, h8, s8, g8⟩ := q_duplicate (S := S) (t := t) h4 (i := 56) (j := k) (by omega) (by omega) (x := 56)
          rw [tu_eq] at h8
          have h9 := h3.reg hk h8 (fun j _ => by
            by_cases e : j = k
            · subst e; rw [tu_eq, tu_eq]
            · rw [tu_ne e, tu_ne e, tu_ne (by omega)]) (sx_tr s4 (fun q hq => s8 q (by simp at hq ⊢; omega))) (by simp) (by simp) (by simp)
          refine ⟨c7, ⟨_, _, h9⟩, fun K => ?_⟩
          simp only [↓g51_0, ↓g51_1, ↓g51_4, ↓g51_7, ↓g51_8, ↓g51_11, ↓g51_14, ↓g51_15, ↓g51_16, ↓g51_17, ↓g51_20, ↓g51_21, ↓g51_23, ↓g51_26, ↓g51_28, ↓g51_29, ↓g51_30, ↓g51_31, ↓g51_34, ↓g51_35, ↓g51_38, ↓g51_39, ↓g51_42, ↓g51_45, ↓g51_47, ↓g51_48, ↓g51_49, ↓g51_52, ↓g51_55, ↓g51_56, ↓g51_57, ↓g51_58, ↓g51_61, ↓g51_63, ↓g51_64, ↓g51_67, ↓g51_69, ↓g51_70, ↓g51_73, ↓g51_75, ↓mo_0, ↓mf_0_0, ↓mf_0_1, ↓mf_0_2, ↓mf_0_3, ↓mf_0_4, ↓mo_1, ↓mf_1_0, ↓mf_1_1, ↓mo_2, ↓mf_2_0, ↓mo_4, ↓mf_4_0, ↓mo_6, ↓mf_6_0, ↓mf_6_1, ↓mf_6_2, ↓mf_6_3, ↓mp_6_4, ↓mf_6_4, ↓mp_6_5, ↓mf_6_5, ↓mo_7, ↓mf_7_0, ↓mo_9, ↓mf_9_0, ↓mo_11, ↓mf_11_0, ↓mo_13, ↓mf_13_0, ↓mf_13_1, ↓mp_13_2, ↓mf_13_2, ↓mp_13_3, ↓mf_13_3, ↓mo_14, ↓mf_14_0, ↓mp_14_1, ↓mf_14_1, ↓mp_14_2, ↓mf_14_2, ↓mo_15, ↓mf_15_0, ↓mf_15_1, ↓mp_15_2, ↓mf_15_2, ↓mo_16, ↓mf_16_0, ↓mo_18, ↓mf_18_0, ↓ma_3, ↓ms_3, ↓ma_5, ↓ms_5, ↓ma_8, ↓ms_8, ↓ma_10, ↓ms_10, ↓ma_12, ↓ms_12, ↓ma_17, ↓ms_17, ↓ma_19, ↓ms_19, ↓bnd_some, ↓cond_true, ↓m_pv_none, ↓m_pv_some, m_b01_0, m_b01_1, true_and, and_true, ↓y1, ↓y2, q1, q2, ↓k1, q3, hf, ↓g3, ↓g4, ↓g8, ↓reduceIte, eq_self, i_10]
        · rw [if_neg hf]
          refine ⟨c, ⟨_, _, h1⟩, fun K => ?_⟩
          simp only [↓g51_0, ↓g51_1, ↓g51_4, ↓g51_7, ↓g51_8, ↓g51_11, ↓g51_14, ↓g51_15, ↓g51_16, ↓g51_17, ↓g51_20, ↓g51_21, ↓g51_23, ↓g51_26, ↓g51_28, ↓g51_29, ↓g51_30, ↓g51_31, ↓g51_34, ↓g51_35, ↓g51_38, ↓g51_39, ↓g51_42, ↓g51_45, ↓g51_47, ↓g51_48, ↓g51_49, ↓g51_52, ↓g51_55, ↓g51_56, ↓g51_57, ↓g51_58, ↓g51_61, ↓g51_63, ↓g51_64, ↓g51_67, ↓g51_69, ↓g51_70, ↓g51_73, ↓g51_75, ↓mo_0, ↓mf_0_0, ↓mf_0_1, ↓mf_0_2, ↓mf_0_3, ↓mf_0_4, ↓mo_1, ↓mf_1_0, ↓mf_1_1, ↓mo_2, ↓mf_2_0, ↓mo_4, ↓mf_4_0, ↓mo_6, ↓mf_6_0, ↓mf_6_1, ↓mf_6_2, ↓mf_6_3, ↓mp_6_4, ↓mf_6_4, ↓mp_6_5, ↓mf_6_5, ↓mo_7, ↓mf_7_0, ↓mo_9, ↓mf_9_0, ↓mo_11, ↓mf_11_0, ↓mo_13, ↓mf_13_0, ↓mf_13_1, ↓mp_13_2, ↓mf_13_2, ↓mp_13_3, ↓mf_13_3, ↓mo_14, ↓mf_14_0, ↓mp_14_1, ↓mf_14_1, ↓mp_14_2, ↓mf_14_2, ↓mo_15, ↓mf_15_0, ↓mf_15_1, ↓mp_15_2, ↓mf_15_2, ↓mo_16, ↓mf_16_0, ↓mo_18, ↓mf_18_0, ↓ma_3, ↓ms_3, ↓ma_5, ↓ms_5, ↓ma_8, ↓ms_8, ↓ma_10, ↓ms_10, ↓ma_12, ↓ms_12, ↓ma_17, ↓ms_17, ↓ma_19, ↓ms_19, ↓bnd_some, ↓cond_true, ↓m_pv_none, ↓m_pv_some, m_b01_0, m_b01_1, true_and, and_true, ↓y1, ↓y2, q1, q2, ↓k1, q3, hf, ↓reduceIte, eq_self, i_10]
theorem C_step (h : CI c σ) (ho : SOk σ) (x o : Int32) : CC S 52 [.ref 0, .int x, .int o, .null] c t (F_step σ x o) := by
  unfold F_step
  cases hx : rgx x 6 with
  | none => exact ⟨c, h, fun K => by simp only [↓g52_0, ↓g52_1, ↓g52_4, ↓g52_7, ↓g52_8, ↓g52_9, ↓g52_10, ↓g52_13, ↓g52_16, ↓g52_18, ↓g52_19, ↓g52_20, ↓g52_23, ↓g52_24, ↓g52_27, ↓g52_28, ↓g52_31, ↓g52_32, ↓g52_35, ↓g52_36, ↓g52_37, ↓g52_39, ↓g52_42, ↓g52_44, ↓g52_45, ↓g52_46, ↓g52_49, ↓g52_50, ↓g52_53, ↓g52_56, ↓g52_59, ↓g52_61, ↓g52_62, ↓g52_63, ↓g52_66, ↓g52_69, ↓g52_70, ↓g52_73, ↓g52_74, ↓g52_77, ↓g52_78, ↓g52_81, ↓g52_82, ↓g52_85, ↓mo_0, ↓mf_0_0, ↓mf_0_1, ↓mf_0_2, ↓mf_0_3, ↓mf_0_4, ↓mo_1, ↓mf_1_0, ↓mf_1_1, ↓mo_2, ↓mf_2_0, ↓mo_4, ↓mf_4_0, ↓mo_6, ↓mf_6_0, ↓mf_6_1, ↓mf_6_2, ↓mf_6_3, ↓mp_6_4, ↓mf_6_4, ↓mp_6_5, ↓mf_6_5, ↓mo_7, ↓mf_7_0, ↓mo_9, ↓mf_9_0, ↓mo_11, ↓mf_11_0, ↓mo_13, ↓mf_13_0, ↓mf_13_1, ↓mp_13_2, ↓mf_13_2, ↓mp_13_3, ↓mf_13_3, ↓mo_14, ↓mf_14_0, ↓mp_14_1, ↓mf_14_1, ↓mp_14_2, ↓mf_14_2, ↓mo_15, ↓mf_15_0, ↓mf_15_1, ↓mp_15_2, ↓mf_15_2, ↓mo_16, ↓mf_16_0, ↓mo_18, ↓mf_18_0, ↓ma_3, ↓ms_3, ↓ma_5, ↓ms_5, ↓ma_8, ↓ms_8, ↓ma_10, ↓ms_10, ↓ma_12, ↓ms_12, ↓ma_17, ↓ms_17, ↓ma_19, ↓ms_19, ↓bnd_some, ↓cond_true, ↓m_pv_none, ↓m_pv_some, m_b01_0, m_b01_1, true_and, and_true, ↓n_reg (rgx_no hx), ↓reduceIte, eq_self, i_10]⟩
  | some i =>
    obtain ⟨hi, rfl⟩ := rgx_some hx (by decide)
    have y1 := fun K => y_reg (S := S) (M := mk c t) (inR_nI hi (by decide)) K
    cases hy : rgx o 3 with
    | none => exact ⟨c, h, fun K => by simp only [↓g52_0, ↓g52_1, ↓g52_4, ↓g52_7, ↓g52_8, ↓g52_9, ↓g52_10, ↓g52_13, ↓g52_16, ↓g52_18, ↓g52_19, ↓g52_20, ↓g52_23, ↓g52_24, ↓g52_27, ↓g52_28, ↓g52_31, ↓g52_32, ↓g52_35, ↓g52_36, ↓g52_37, ↓g52_39, ↓g52_42, ↓g52_44, ↓g52_45, ↓g52_46, ↓g52_49, ↓g52_50, ↓g52_53, ↓g52_56, ↓g52_59, ↓g52_61, ↓g52_62, ↓g52_63, ↓g52_66, ↓g52_69, ↓g52_70, ↓g52_73, ↓g52_74, ↓g52_77, ↓g52_78, ↓g52_81, ↓g52_82, ↓g52_85, ↓mo_0, ↓mf_0_0, ↓mf_0_1, ↓mf_0_2, ↓mf_0_3, ↓mf_0_4, ↓mo_1, ↓mf_1_0, ↓mf_1_1, ↓mo_2, ↓mf_2_0, ↓mo_4, ↓mf_4_0, ↓mo_6, ↓mf_6_0, ↓mf_6_1, ↓mf_6_2, ↓mf_6_3, ↓mp_6_4, ↓mf_6_4, ↓mp_6_5, ↓mf_6_5, ↓mo_7, ↓mf_7_0, ↓mo_9, ↓mf_9_0, ↓mo_11, ↓mf_11_0, ↓mo_13, ↓mf_13_0, ↓mf_13_1, ↓mp_13_2, ↓mf_13_2, ↓mp_13_3, ↓mf_13_3, ↓mo_14, ↓mf_14_0, ↓mp_14_1, ↓mf_14_1, ↓mp_14_2, ↓mf_14_2, ↓mo_15, ↓mf_15_0, ↓mf_15_1, ↓mp_15_2, ↓mf_15_2, ↓mo_16, ↓mf_16_0, ↓mo_18, ↓mf_18_0, ↓ma_3, ↓ms_3, ↓ma_5, ↓ms_5, ↓ma_8, ↓ms_8, ↓ma_10, ↓ms_10, ↓ma_12, ↓ms_12, ↓ma_17, ↓ms_17, ↓ma_19, ↓ms_19, ↓bnd_some, ↓cond_true, ↓m_pv_none, ↓m_pv_some, m_b01_0, m_b01_1, true_and, and_true, ↓y1, ↓n_ord (rgx_no hy), ↓reduceIte, eq_self, i_10]⟩
    | some o =>
      obtain ⟨hj, rfl⟩ := rgx_some hy (by decide)
      have y2 := fun K => y_ord (S := S) (M := mk c t) (inR_nI hj (by decide)) K
      obtain ⟨T, nx, h1⟩ := h
      have hk := ho.reg hi
      have e0 : T i = σ.1 i := h1.at hi
      obtain ⟨c1, v1, h2, s1, g1⟩ := q_look (S := S) (t := t) (v := i) (by omega) (by rw [e0]; exact hk.1) h1.1
      have h2c := h1.same h2 (fun _ _ => rfl) s1 (by simp) (by simp) (by simp)
      have g2 := fun K => u_next (S := S) (t := t) h2 v1 (by rw [e0]; exact hk.1) hj K
      rw [e0] at g2
      dsimp only
      cases hz : nxt (σ.1 i) o with
      | none =>
        rw [hz] at g2
        refine ⟨c1, ⟨_, _, h2c⟩, fun K => ?_⟩
        simp only [↓g52_0, ↓g52_1, ↓g52_4, ↓g52_7, ↓g52_8, ↓g52_9, ↓g52_10, ↓g52_13, ↓g52_16, ↓g52_18, ↓g52_19, ↓g52_20, ↓g52_23, ↓g52_24, ↓g52_27, ↓g52_28, ↓g52_31, ↓g52_32, ↓g52_35, ↓g52_36, ↓g52_37, ↓g52_39, ↓g52_42, ↓g52_44, ↓g52_45, ↓g52_46, ↓g52_49, ↓g52_50, ↓g52_53, ↓g52_56, ↓g52_59, ↓g52_61, ↓g52_62, ↓g52_63, ↓g52_66, ↓g52_69, ↓g52_70, ↓g52_73, ↓g52_74, ↓g52_77, ↓g52_78, ↓g52_81, ↓g52_82, ↓g52_85, ↓mo_0, ↓mf_0_0, ↓mf_0_1, ↓mf_0_2, ↓mf_0_3, ↓mf_0_4, ↓mo_1, ↓mf_1_0, ↓mf_1_1, ↓mo_2, ↓mf_2_0, ↓mo_4, ↓mf_4_0, ↓mo_6, ↓mf_6_0, ↓mf_6_1, ↓mf_6_2, ↓mf_6_3, ↓mp_6_4, ↓mf_6_4, ↓mp_6_5, ↓mf_6_5, ↓mo_7, ↓mf_7_0, ↓mo_9, ↓mf_9_0, ↓mo_11, ↓mf_11_0, ↓mo_13, ↓mf_13_0, ↓mf_13_1, ↓mp_13_2, ↓mf_13_2, ↓mp_13_3, ↓mf_13_3, ↓mo_14, ↓mf_14_0, ↓mp_14_1, ↓mf_14_1, ↓mp_14_2, ↓mf_14_2, ↓mo_15, ↓mf_15_0, ↓mf_15_1, ↓mp_15_2, ↓mf_15_2, ↓mo_16, ↓mf_16_0, ↓mo_18, ↓mf_18_0, ↓ma_3, ↓ms_3, ↓ma_5, ↓ms_5, ↓ma_8, ↓ms_8, ↓ma_10, ↓ms_10, ↓ma_12, ↓ms_12, ↓ma_17, ↓ms_17, ↓ma_19, ↓ms_19, ↓bnd_some, ↓cond_true, ↓m_pv_none, ↓m_pv_some, m_b01_0, m_b01_1, true_and, and_true, ↓y1, ↓y2, ↓g1, ↓g2, show nbI none = -6 from rfl, ↓reduceIte, eq_self, i_10]
      | some p =>
        rw [hz] at g2
        obtain ⟨n1, n2⟩ := nxt_red hz
        have g3 := fun K => w_len (S := S) (t := t) (p := p) h2 v1 (by rw [e0]; exact hk.1) (by rw [e0]; exact n1) (by rw [e0]; exact n2) K
        rw [e0] at g3
        have b1 := hk.2
        have e1 : ¬ nI p = -6 := nI_m6 (by omega)
        have e3 : ((nI (rwt (σ.1 i) p).length) ≤ 200) = ((rwt (σ.1 i) p).length ≤ 200) := propext (nI_leI (b := 200) (rwt_b hk n1 n2) (by decide))
        dsimp only
        by_cases hf : (rwt (σ.1 i) p).length ≤ 200
        · rw [if_pos hf]
          obtain ⟨c2, T2, nx2, h3, s3, g4⟩ := h_keep (S := S) (t := t) h2c ho
          have e2 : T2 i = σ.1 i := h3.at hi
          have v2 : SV c2 i (T2 i) := by rw [e2, ← e0]; exact v1.sx s3 (by simp) (by simp) (by simp) (by simp)
          obtain ⟨c3, T3, h4, t4, s4, g5⟩ := w_rw (S := S) (t := t) (v := i) (p := p) (T := T2) (by omega) (by rw [e2]; exact hk.1) (by rw [e2]; exact n1) (by rw [e2]; exact n2) (by rw [e2]; exact hf) h3.1 v2
          rw [e2] at t4
          have h5 := h3.reg hi h4 (fun j hj => t4 j (by omega)) s4 (by simp) (by simp) (by simp)
          have k5 := fun K => q_length (S := S) (t := t) h4 (i := i) (by omega) K
          rw [t4 i (by omega), tu_eq] at k5
          refine ⟨c3, ⟨_, _, h5⟩, fun K => ?_⟩
          simp only [↓g52_0, ↓g52_1, ↓g52_4, ↓g52_7, ↓g52_8, ↓g52_9, ↓g52_10, ↓g52_13, ↓g52_16, ↓g52_18, ↓g52_19, ↓g52_20, ↓g52_23, ↓g52_24, ↓g52_27, ↓g52_28, ↓g52_31, ↓g52_32, ↓g52_35, ↓g52_36, ↓g52_37, ↓g52_39, ↓g52_42, ↓g52_44, ↓g52_45, ↓g52_46, ↓g52_49, ↓g52_50, ↓g52_53, ↓g52_56, ↓g52_59, ↓g52_61, ↓g52_62, ↓g52_63, ↓g52_66, ↓g52_69, ↓g52_70, ↓g52_73, ↓g52_74, ↓g52_77, ↓g52_78, ↓g52_81, ↓g52_82, ↓g52_85, ↓mo_0, ↓mf_0_0, ↓mf_0_1, ↓mf_0_2, ↓mf_0_3, ↓mf_0_4, ↓mo_1, ↓mf_1_0, ↓mf_1_1, ↓mo_2, ↓mf_2_0, ↓mo_4, ↓mf_4_0, ↓mo_6, ↓mf_6_0, ↓mf_6_1, ↓mf_6_2, ↓mf_6_3, ↓mp_6_4, ↓mf_6_4, ↓mp_6_5, ↓mf_6_5, ↓mo_7, ↓mf_7_0, ↓mo_9, ↓mf_9_0, ↓mo_11, ↓mf_11_0, ↓mo_13, ↓mf_13_0, ↓mf_13_1, ↓mp_13_2, ↓mf_13_2, ↓mp_13_3, ↓mf_13_3, ↓mo_14, ↓mf_14_0, ↓mp_14_1, ↓mf_14_1, ↓mp_14_2, ↓mf_14_2, ↓mo_15, ↓mf_15_0, ↓mf_15_1, ↓mp_15_2, ↓mf_15_2, ↓mo_16, ↓mf_16_0, ↓mo_18, ↓mf_18_0, ↓ma_3, ↓ms_3, ↓ma_5, ↓ms_5, ↓ma_8, ↓ms_8, ↓ma_10, ↓ms_10, ↓ma_12, ↓ms_12, ↓ma_17, ↓ms_17, ↓ma_19, ↓ms_19, ↓bnd_some, ↓cond_true, ↓m_pv_none, ↓m_pv_some, m_b01_0, m_b01_1, true_and, and_true, ↓y1, ↓y2, ↓g1, ↓g2, show nbI (some p) = nI p from rfl, e1, ↓g3, e3, hf, ↓g4, ↓g5, ↓k5, ↓reduceIte, eq_self, i_10]
        · rw [if_neg hf]
          refine ⟨c1, ⟨_, _, h2c⟩, fun K => ?_⟩
          simp only [↓g52_0, ↓g52_1, ↓g52_4, ↓g52_7, ↓g52_8, ↓g52_9, ↓g52_10, ↓g52_13, ↓g52_16, ↓g52_18, ↓g52_19, ↓g52_20, ↓g52_23, ↓g52_24, ↓g52_27, ↓g52_28, ↓g52_31, ↓g52_32, ↓g52_35, ↓g52_36, ↓g52_37, ↓g52_39, ↓g52_42, ↓g52_44, ↓g52_45, ↓g52_46, ↓g52_49, ↓g52_50, ↓g52_53, ↓g52_56, ↓g52_59, ↓g52_61, ↓g52_62, ↓g52_63, ↓g52_66, ↓g52_69, ↓g52_70, ↓g52_73, ↓g52_74, ↓g52_77, ↓g52_78, ↓g52_81, ↓g52_82, ↓g52_85, ↓mo_0, ↓mf_0_0, ↓mf_0_1, ↓mf_0_2, ↓mf_0_3, ↓mf_0_4, ↓mo_1, ↓mf_1_0, ↓mf_1_1, ↓mo_2, ↓mf_2_0, ↓mo_4, ↓mf_4_0, ↓mo_6, ↓mf_6_0, ↓mf_6_1, ↓mf_6_2, ↓mf_6_3, ↓mp_6_4, ↓mf_6_4, ↓mp_6_5, ↓mf_6_5, ↓mo_7, ↓mf_7_0, ↓mo_9, ↓mf_9_0, ↓mo_11, ↓mf_11_0, ↓mo_13, ↓mf_13_0, ↓mf_13_1, ↓mp_13_2, ↓mf_13_2, ↓mp_13_3, ↓mf_13_3, ↓mo_14, ↓mf_14_0, ↓mp_14_1, ↓mf_14_1, ↓mp_14_2, ↓mf_14_2, ↓mo_15, ↓mf_15_0, ↓mf_15_1, ↓mp_15_2, ↓mf_15_2, ↓mo_16, ↓mf_16_0, ↓mo_18, ↓mf_18_0, ↓ma_3, ↓ms_3, ↓ma_5, ↓ms_5, ↓ma_8, ↓ms_8, ↓ma_10, ↓ms_10, ↓ma_12, ↓ms_12, ↓ma_17, ↓ms_17, ↓ma_19, ↓ms_19, ↓bnd_some, ↓cond_true, ↓m_pv_none, ↓m_pv_some, m_b01_0, m_b01_1, true_and, and_true, ↓y1, ↓y2, ↓g1, ↓g2, show nbI (some p) = nI p from rfl, e1, ↓g3, e3, hf, ↓reduceIte, eq_self, i_10]
end CALLS

