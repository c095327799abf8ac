/-! the object's calls -/
theorem i_10 : ((1 : Int32) = 0) = False := eq_false (by decide)
def CC (S : mS) (m : Nat) (ls : List Value) (c : Nat → Nat → Int32) (t : mM) (r : RS) : Prop := ∃ c', CI c' r.2 ∧ ∀ (K : Option Value → mM → Prop), go S m 0 ls [] (mk c t) K = K (some (.int r.1)) (mk c' t)
theorem CIT.pad {c : Nat → Nat → Int32} {T : Nat → Tm} {nx : Nat} {σ : Sg} (h : CIT c T nx σ) : PR c σ.2.2.2 := h.2.2.2.2.2.2.2
theorem CIT.padTo {c c' : Nat → Nat → Int32} {T : Nat → Tm} {nx : Nat} {σ : Sg} {ks : List Nat} (h : CIT c T nx σ) {P : List Nat} (hP : PR c' P) (hs : sx ks c c') (k1 : 3 ∉ ks) (k2 : 5 ∉ ks) (k3 : 14 ∉ ks) : CIT c' T nx (σ.1, σ.2.1, σ.2.2.1, P) := by
  obtain ⟨a1, a2, a3, a4, a5, a6, a7, a8⟩ := h
  exact ⟨a1.sx hs k1 k2, a2, a3, by rw [hs 14 k3]; exact a4, by rw [hs 14 k3]; exact a5, a6, a7, hP⟩
theorem i_len {x y : Nat} (hx : x ≤ 200) (hy : y ≤ 200) : ((1 : Int32) + nI x + nI y ≤ 200) = (1 + x + y ≤ 200) := by
  rw [l_1, nI_add, nI_add]
  exact propext (nI_leI (b := 200) (by omega) (by decide))
theorem rwt_b {l : Tm} (h : Tok l) {p : Nat} (hp : p < l.length) (hr : red l p = true) : (rwt l p).length < 2 ^ 31 := by
  have hrl := rwt_len h.1 hp hr
  have hub := us_le l p (en l (p + 1) - (p + 2))
  obtain ⟨r1, r2, r3, -⟩ := red_all h.1 hp hr
  have hlw := h.2
  have : us l p (en l (p + 1) - (p + 2)) * (en l p - en l (p + 1)) ≤ 200 * 200 := Nat.mul_le_mul (by omega) (by omega)
  omega
section CALLS
variable {S : mS} {t : mM} {c : Nat → Nat → Int32} {σ : Sg}
theorem C_read (h : CI c σ) (ho : SOk σ) (x : Int32) : CC S 55 [.ref 0, .int x] c t (F_read σ x) := by
  unfold F_read
  cases hx : rgx x 6 with
  | none => exact ⟨c, h, fun K => by simp only [↓g55_0, ↓g55_1, ↓g55_4, ↓g55_7, ↓g55_8, ↓g55_9, ↓g55_10, ↓g55_13, ↓g55_16, ↓g55_18, ↓g55_21, ↓g55_23, ↓g55_24, ↓g55_25, ↓g55_28, ↓g55_31, ↓g55_32, ↓g55_35, ↓g55_36, ↓g55_39, ↓g55_40, ↓g55_43, ↓g55_44, ↓g55_47, ↓g55_50, ↓g55_51, ↓g55_54, ↓g55_55, ↓g55_58, ↓mo_0, ↓mf_0_0, ↓mf_0_1, ↓mf_0_2, ↓mf_0_3, ↓mf_0_4, ↓mo_1, ↓mf_1_0, ↓mf_1_1, ↓mo_2, ↓mf_2_0, ↓mo_4, ↓mf_4_0, ↓mo_6, ↓mf_6_0, ↓mf_6_1, ↓mf_6_2, ↓mf_6_3, ↓mp_6_4, ↓mf_6_4, ↓mp_6_5, ↓mf_6_5, ↓mo_7, ↓mf_7_0, ↓mo_9, ↓mf_9_0, ↓mo_11, ↓mf_11_0, ↓mo_13, ↓mf_13_0, ↓mf_13_1, ↓mp_13_2, ↓mf_13_2, ↓mp_13_3, ↓mf_13_3, ↓mo_14, ↓mf_14_0, ↓mp_14_1, ↓mf_14_1, ↓mp_14_2, ↓mf_14_2, ↓mo_15, ↓mf_15_0, ↓mf_15_1, ↓mp_15_2, ↓mf_15_2, ↓mo_16, ↓mf_16_0, ↓mo_18, ↓mf_18_0, ↓ma_3, ↓ms_3, ↓ma_5, ↓ms_5, ↓ma_8, ↓ms_8, ↓ma_10, ↓ms_10, ↓ma_12, ↓ms_12, ↓ma_17, ↓ms_17, ↓ma_19, ↓ms_19, ↓bnd_some, ↓cond_true, ↓m_pv_none, ↓m_pv_some, m_b01_0, m_b01_1, true_and, and_true, ↓n_reg (rgx_no hx), ↓reduceIte, eq_self, i_10]⟩
  | some i =>
    obtain ⟨hi, rfl⟩ := rgx_some hx (by decide)
    obtain ⟨T, nx, h1⟩ := h
    obtain ⟨c1, s1, g1⟩ := p_wrong (S := S) (t := t) ho.pad h1.pad
    have h2 : CIT c1 T nx σ := h1.same (h1.1.sx s1 (by simp) (by simp)) (fun _ _ => rfl) s1 (by simp) (by simp) (by simp)
    have y1 := fun K => y_reg (S := S) (M := mk c t) (inR_nI hi (by decide)) K
    dsimp only
    by_cases hf : flt σ.2.2.2 [0] 0 = -6
    · rw [if_pos hf]
      rw [hf] at g1
      obtain ⟨c2, T2, nx2, h3, s3, g3⟩ := h_keep (S := S) (t := t) h2 ho
      obtain ⟨c3, h4, s4, g4⟩ := p_write (S := S) (t := t) ho.pad (i := i) (by omega) (flt_ok (by have := ho.pad.1; omega) hf).2.2 h3.pad h3.1
      have h5 := h3.reg hi h4 (fun j _ => rfl) s4 (by simp) (by simp) (by simp)
      obtain ⟨c4, h6, s6, g6⟩ := p_empty (S := S) (t := t) h5.pad
      have h7 := h5.padTo h6 s6 (by simp) (by simp) (by simp)
      have g7 := fun K => q_length (S := S) (t := t) h7.1 (i := i) (by omega) K
      simp only [tu_eq, List.length_map] at g7
      refine ⟨c4, ⟨_, _, h7⟩, fun K => ?_⟩
      simp only [↓g55_0, ↓g55_1, ↓g55_4, ↓g55_7, ↓g55_8, ↓g55_9, ↓g55_10, ↓g55_13, ↓g55_16, ↓g55_18, ↓g55_21, ↓g55_23, ↓g55_24, ↓g55_25, ↓g55_28, ↓g55_31, ↓g55_32, ↓g55_35, ↓g55_36, ↓g55_39, ↓g55_40, ↓g55_43, ↓g55_44, ↓g55_47, ↓g55_50, ↓g55_51, ↓g55_54, ↓g55_55, ↓g55_58, ↓mo_0, ↓mf_0_0, ↓mf_0_1, ↓mf_0_2, ↓mf_0_3, ↓mf_0_4, ↓mo_1, ↓mf_1_0, ↓mf_1_1, ↓mo_2, ↓mf_2_0, ↓mo_4, ↓mf_4_0, ↓mo_6, ↓mf_6_0, ↓mf_6_1, ↓mf_6_2, ↓mf_6_3, ↓mp_6_4, ↓mf_6_4, ↓mp_6_5, ↓mf_6_5, ↓mo_7, ↓mf_7_0, ↓mo_9, ↓mf_9_0, ↓mo_11, ↓mf_11_0, ↓mo_13, ↓mf_13_0, ↓mf_13_1, ↓mp_13_2, ↓mf_13_2, ↓mp_13_3, ↓mf_13_3, ↓mo_14, ↓mf_14_0, ↓mp_14_1, ↓mf_14_1, ↓mp_14_2, ↓mf_14_2, ↓mo_15, ↓mf_15_0, ↓mf_15_1, ↓mp_15_2, ↓mf_15_2, ↓mo_16, ↓mf_16_0, ↓mo_18, ↓mf_18_0, ↓ma_3, ↓ms_3, ↓ma_5, ↓ms_5, ↓ma_8, ↓ms_8, ↓ma_10, ↓ms_10, ↓ma_12, ↓ms_12, ↓ma_17, ↓ms_17, ↓ma_19, ↓ms_19, ↓bnd_some, ↓cond_true, ↓m_pv_none, ↓m_pv_some, m_b01_0, m_b01_1, true_and, and_true, ↓y1, ↓g1, ↓g3, ↓g4, ↓g6, ↓g7, ↓reduceIte, eq_self, i_10]
    · rw [if_neg hf]
      refine ⟨c1, ⟨_, _, h2⟩, fun K => ?_⟩
      simp only [↓g55_0, ↓g55_1, ↓g55_4, ↓g55_7, ↓g55_8, ↓g55_9, ↓g55_10, ↓g55_13, ↓g55_16, ↓g55_18, ↓g55_21, ↓g55_23, ↓g55_24, ↓g55_25, ↓g55_28, ↓g55_31, ↓g55_32, ↓g55_35, ↓g55_36, ↓g55_39, ↓g55_40, ↓g55_43, ↓g55_44, ↓g55_47, ↓g55_50, ↓g55_51, ↓g55_54, ↓g55_55, ↓g55_58, ↓mo_0, ↓mf_0_0, ↓mf_0_1, ↓mf_0_2, ↓mf_0_3, ↓mf_0_4, ↓mo_1, ↓mf_1_0, ↓mf_1_1, ↓mo_2, ↓mf_2_0, ↓mo_4, ↓mf_4_0, ↓mo_6, ↓mf_6_0, ↓mf_6_1, ↓mf_6_2, ↓mf_6_3, ↓mp_6_4, ↓mf_6_4, ↓mp_6_5, ↓mf_6_5, ↓mo_7, ↓mf_7_0, ↓mo_9, ↓mf_9_0, ↓mo_11, ↓mf_11_0, ↓mo_13, ↓mf_13_0, ↓mf_13_1, ↓mp_13_2, ↓mf_13_2, ↓mp_13_3, ↓mf_13_3, ↓mo_14, ↓mf_14_0, ↓mp_14_1, ↓mf_14_1, ↓mp_14_2, ↓mf_14_2, ↓mo_15, ↓mf_15_0, ↓mf_15_1, ↓mp_15_2, ↓mf_15_2, ↓mo_16, ↓mf_16_0, ↓mo_18, ↓mf_18_0, ↓ma_3, ↓ms_3, ↓ma_5, ↓ms_5, ↓ma_8, ↓ms_8, ↓ma_10, ↓ms_10, ↓ma_12, ↓ms_12, ↓ma_17, ↓ms_17, ↓ma_19, ↓ms_19, ↓bnd_some, ↓cond_true, ↓m_pv_none, ↓m_pv_some, m_b01_0, m_b01_1, true_and, and_true, ↓y1, ↓g1, hf, ↓reduceIte, eq_self, i_10]
theorem C_copy (h : CI c σ) (ho : SOk σ) (x y : Int32) : CC S 56 [.ref 0, .int x, .int y] c t (F_copy σ x y) := by
  unfold F_copy
  cases hx : rgx x 6 with
  | none => exact ⟨c, h, fun K => by simp only [↓g56_0, ↓g56_1, ↓g56_4, ↓g56_7, ↓g56_8, ↓g56_11, ↓g56_14, ↓g56_15, ↓g56_16, ↓g56_17, ↓g56_20, ↓g56_23, ↓g56_24, ↓g56_27, ↓g56_28, ↓g56_29, ↓g56_32, ↓g56_33, ↓g56_36, ↓g56_37, ↓g56_40, ↓mo_0, ↓mf_0_0, ↓mf_0_1, ↓mf_0_2, ↓mf_0_3, ↓mf_0_4, ↓mo_1, ↓mf_1_0, ↓mf_1_1, ↓mo_2, ↓mf_2_0, ↓mo_4, ↓mf_4_0, ↓mo_6, ↓mf_6_0, ↓mf_6_1, ↓mf_6_2, ↓mf_6_3, ↓mp_6_4, ↓mf_6_4, ↓mp_6_5, ↓mf_6_5, ↓mo_7, ↓mf_7_0, ↓mo_9, ↓mf_9_0, ↓mo_11, ↓mf_11_0, ↓mo_13, ↓mf_13_0, ↓mf_13_1, ↓mp_13_2, ↓mf_13_2, ↓mp_13_3, ↓mf_13_3, ↓mo_14, ↓mf_14_0, ↓mp_14_1, ↓mf_14_1, ↓mp_14_2, ↓mf_14_2, ↓mo_15, ↓mf_15_0, ↓mf_15_1, ↓mp_15_2, ↓mf_15_2, ↓mo_16, ↓mf_16_0, ↓mo_18, ↓mf_18_0, ↓ma_3, ↓ms_3, ↓ma_5, ↓ms_5, ↓ma_8, ↓ms_8, ↓ma_10, ↓ms_10, ↓ma_12, ↓ms_12, ↓ma_17, ↓ms_17, ↓ma_19, ↓ms_19, ↓bnd_some, ↓cond_true, ↓m_pv_none, ↓m_pv_some, m_b01_0, m_b01_1, true_and, and_true, ↓n_reg (rgx_no hx), ↓reduceIte, eq_self, i_10]⟩
  | some i =>
    obtain ⟨hi, rfl⟩ := rgx_some hx (by decide)
    have y1 := fun K => y_reg (S := S) (M := mk c t) (inR_nI hi (by decide)) K
    cases hy : rgx y 6 with
    | none => exact ⟨c, h, fun K => by simp only [↓g56_0, ↓g56_1, ↓g56_4, ↓g56_7, ↓g56_8, ↓g56_11, ↓g56_14, ↓g56_15, ↓g56_16, ↓g56_17, ↓g56_20, ↓g56_23, ↓g56_24, ↓g56_27, ↓g56_28, ↓g56_29, ↓g56_32, ↓g56_33, ↓g56_36, ↓g56_37, ↓g56_40, ↓mo_0, ↓mf_0_0, ↓mf_0_1, ↓mf_0_2, ↓mf_0_3, ↓mf_0_4, ↓mo_1, ↓mf_1_0, ↓mf_1_1, ↓mo_2, ↓mf_2_0, ↓mo_4, ↓mf_4_0, ↓mo_6, ↓mf_6_0, ↓mf_6_1, ↓mf_6_2, ↓mf_6_3, ↓mp_6_4, ↓mf_6_4, ↓mp_6_5, ↓mf_6_5, ↓mo_7, ↓mf_7_0, ↓mo_9, ↓mf_9_0, ↓mo_11, ↓mf_11_0, ↓mo_13, ↓mf_13_0, ↓mf_13_1, ↓mp_13_2, ↓mf_13_2, ↓mp_13_3, ↓mf_13_3, ↓mo_14, ↓mf_14_0, ↓mp_14_1, ↓mf_14_1, ↓mp_14_2, ↓mf_14_2, ↓mo_15, ↓mf_15_0, ↓mf_15_1, ↓mp_15_2, ↓mf_15_2, ↓mo_16, ↓mf_16_0, ↓mo_18, ↓mf_18_0, ↓ma_3, ↓ms_3, ↓ma_5, ↓ms_5, ↓ma_8, ↓ms_8, ↓ma_10, ↓ms_10, ↓ma_12, ↓ms_12, ↓ma_17, ↓ms_17, ↓ma_19, ↓ms_19, ↓bnd_some, ↓cond_true, ↓m_pv_none, ↓m_pv_some, m_b01_0, m_b01_1, true_and, and_true, ↓y1, ↓n_reg (rgx_no hy), ↓reduceIte, eq_self, i_10]⟩
    | some j =>
      obtain ⟨hj, rfl⟩ := rgx_some hy (by decide)
      have y2 := fun K => y_reg (S := S) (M := mk c t) (inR_nI hj (by decide)) K
      obtain ⟨T, nx, h1⟩ := h
      obtain ⟨c2, T2, nx2, h3, s3, g3⟩ := h_keep (S := S) (t := t) h1 ho
      obtain ⟨c3, h4, s4, g4⟩ := q_duplicate (S := S) (t := t) h3.1 (i := i) (j := j) (by omega) (by omega)
      have e : T2 i = σ.1 i := h3.at hi
      rw [e] at h4
      have h5 := h3.reg hj h4 (fun j _ => rfl) s4 (by simp) (by simp) (by simp)
      have g7 := fun K => q_length (S := S) (t := t) h5.1 (i := j) (by omega) K
      simp only [tu_eq] at g7
      refine ⟨c3, ⟨_, _, h5⟩, fun K => ?_⟩
      simp only [↓g56_0, ↓g56_1, ↓g56_4, ↓g56_7, ↓g56_8, ↓g56_11, ↓g56_14, ↓g56_15, ↓g56_16, ↓g56_17, ↓g56_20, ↓g56_23, ↓g56_24, ↓g56_27, ↓g56_28, ↓g56_29, ↓g56_32, ↓g56_33, ↓g56_36, ↓g56_37, ↓g56_40, ↓mo_0, ↓mf_0_0, ↓mf_0_1, ↓mf_0_2, ↓mf_0_3, ↓mf_0_4, ↓mo_1, ↓mf_1_0, ↓mf_1_1, ↓mo_2, ↓mf_2_0, ↓mo_4, ↓mf_4_0, ↓mo_6, ↓mf_6_0, ↓mf_6_1, ↓mf_6_2, ↓mf_6_3, ↓mp_6_4, ↓mf_6_4, ↓mp_6_5, ↓mf_6_5, ↓mo_7, ↓mf_7_0, ↓mo_9, ↓mf_9_0, ↓mo_11, ↓mf_11_0, ↓mo_13, ↓mf_13_0, ↓mf_13_1, ↓mp_13_2, ↓mf_13_2, ↓mp_13_3, ↓mf_13_3, ↓mo_14, ↓mf_14_0, ↓mp_14_1, ↓mf_14_1, ↓mp_14_2, ↓mf_14_2, ↓mo_15, ↓mf_15_0, ↓mf_15_1, ↓mp_15_2, ↓mf_15_2, ↓mo_16, ↓mf_16_0, ↓mo_18, ↓mf_18_0, ↓ma_3, ↓ms_3, ↓ma_5, ↓ms_5, ↓ma_8, ↓ms_8, ↓ma_10, ↓ms_10, ↓ma_12, ↓ms_12, ↓ma_17, ↓ms_17, ↓ma_19, ↓ms_19, ↓bnd_some, ↓cond_true, ↓m_pv_none, ↓m_pv_some, m_b01_0, m_b01_1, true_and, and_true, ↓y1, ↓y2, ↓g3, ↓g4, ↓g7, ↓reduceIte, eq_self, i_10]
theorem C_apply (h : CI c σ) (ho : SOk σ) (x y z : Int32) : CC S 57 [.ref 0, .int x, .int y, .int z] c t (F_apply σ x y z) := by
  unfold F_apply
  cases hx : rgx x 6 with
  | none => exact ⟨c, h, fun K => by simp only [↓g57_0, ↓g57_1, ↓g57_4, ↓g57_7, ↓g57_8, ↓g57_11, ↓g57_14, ↓g57_15, ↓g57_18, ↓g57_21, ↓g57_22, ↓g57_23, ↓g57_24, ↓g57_25, ↓g57_28, ↓g57_29, ↓g57_32, ↓g57_33, ↓g57_34, ↓g57_37, ↓g57_38, ↓g57_41, ↓g57_42, ↓g57_45, ↓g57_48, ↓g57_50, ↓g57_51, ↓g57_52, ↓g57_55, ↓g57_58, ↓g57_59, ↓g57_62, ↓g57_64, ↓g57_67, ↓g57_68, ↓g57_71, ↓g57_73, ↓g57_74, ↓g57_75, ↓g57_78, ↓g57_79, ↓g57_82, ↓g57_84, ↓g57_85, ↓g57_86, ↓g57_87, ↓g57_90, ↓g57_91, ↓g57_94, ↓g57_97, ↓g57_98, ↓g57_101, ↓g57_103, ↓g57_104, ↓g57_105, ↓g57_106, ↓g57_109, ↓g57_110, ↓g57_113, ↓g57_116, ↓g57_117, ↓g57_120, ↓g57_122, ↓g57_123, ↓g57_126, ↓g57_127, ↓g57_130, ↓g57_131, ↓g57_134, ↓mo_0, ↓mf_0_0, ↓mf_0_1, ↓mf_0_2, ↓mf_0_3, ↓mf_0_4, ↓mo_1, ↓mf_1_0, ↓mf_1_1, ↓mo_2, ↓mf_2_0, ↓mo_4, ↓mf_4_0, ↓mo_6, ↓mf_6_0, ↓mf_6_1, ↓mf_6_2, ↓mf_6_3, ↓mp_6_4, ↓mf_6_4, ↓mp_6_5, ↓mf_6_5, ↓mo_7, ↓mf_7_0, ↓mo_9, ↓mf_9_0, ↓mo_11, ↓mf_11_0, ↓mo_13, ↓mf_13_0, ↓mf_13_1, ↓mp_13_2, ↓mf_13_2, ↓mp_13_3, ↓mf_13_3, ↓mo_14, ↓mf_14_0, ↓mp_14_1, ↓mf_14_1, ↓mp_14_2, ↓mf_14_2, ↓mo_15, ↓mf_15_0, ↓mf_15_1, ↓mp_15_2, ↓mf_15_2, ↓mo_16, ↓mf_16_0, ↓mo_18, ↓mf_18_0, ↓ma_3, ↓ms_3, ↓ma_5, ↓ms_5, ↓ma_8, ↓ms_8, ↓ma_10, ↓ms_10, ↓ma_12, ↓ms_12, ↓ma_17, ↓ms_17, ↓ma_19, ↓ms_19, ↓bnd_some, ↓cond_true, ↓m_pv_none, ↓m_pv_some, m_b01_0, m_b01_1, true_and, and_true, ↓n_reg (rgx_no hx), ↓reduceIte, eq_self, i_10]⟩
  | some i =>
    obtain ⟨hi, rfl⟩ := rgx_some hx (by decide)
    have y1 := fun K => y_reg (S := S) (M := mk c t) (inR_nI hi (by decide)) K
    cases hy : rgx y 6 with
    | none => exact ⟨c, h, fun K => by simp only [↓g57_0, ↓g57_1, ↓g57_4, ↓g57_7, ↓g57_8, ↓g57_11, ↓g57_14, ↓g57_15, ↓g57_18, ↓g57_21, ↓g57_22, ↓g57_23, ↓g57_24, ↓g57_25, ↓g57_28, ↓g57_29, ↓g57_32, ↓g57_33, ↓g57_34, ↓g57_37, ↓g57_38, ↓g57_41, ↓g57_42, ↓g57_45, ↓g57_48, ↓g57_50, ↓g57_51, ↓g57_52, ↓g57_55, ↓g57_58, ↓g57_59, ↓g57_62, ↓g57_64, ↓g57_67, ↓g57_68, ↓g57_71, ↓g57_73, ↓g57_74, ↓g57_75, ↓g57_78, ↓g57_79, ↓g57_82, ↓g57_84, ↓g57_85, ↓g57_86, ↓g57_87, ↓g57_90, ↓g57_91, ↓g57_94, ↓g57_97, ↓g57_98, ↓g57_101, ↓g57_103, ↓g57_104, ↓g57_105, ↓g57_106, ↓g57_109, ↓g57_110, ↓g57_113, ↓g57_116, ↓g57_117, ↓g57_120, ↓g57_122, ↓g57_123, ↓g57_126, ↓g57_127, ↓g57_130, ↓g57_131, ↓g57_134, ↓mo_0, ↓mf_0_0, ↓mf_0_1, ↓mf_0_2, ↓mf_0_3, ↓mf_0_4, ↓mo_1, ↓mf_1_0, ↓mf_1_1, ↓mo_2, ↓mf_2_0, ↓mo_4, ↓mf_4_0, ↓mo_6, ↓mf_6_0, ↓mf_6_1, ↓mf_6_2, ↓mf_6_3, ↓mp_6_4, ↓mf_6_4, ↓mp_6_5, ↓mf_6_5, ↓mo_7, ↓mf_7_0, ↓mo_9, ↓mf_9_0, ↓mo_11, ↓mf_11_0, ↓mo_13, ↓mf_13_0, ↓mf_13_1, ↓mp_13_2, ↓mf_13_2, ↓mp_13_3, ↓mf_13_3, ↓mo_14, ↓mf_14_0, ↓mp_14_1, ↓mf_14_1, ↓mp_14_2, ↓mf_14_2, ↓mo_15, ↓mf_15_0, ↓mf_15_1, ↓mp_15_2, ↓mf_15_2, ↓mo_16, ↓mf_16_0, ↓mo_18, ↓mf_18_0, ↓ma_3, ↓ms_3, ↓ma_5, ↓ms_5, ↓ma_8, ↓ms_8, ↓ma_10, ↓ms_10, ↓ma_12, ↓ms_12, ↓ma_17, ↓ms_17, ↓ma_19, ↓ms_19, ↓bnd_some, ↓cond_true, ↓m_pv_none, ↓m_pv_some, m_b01_0, m_b01_1, true_and, and_true, ↓y1, ↓n_reg (rgx_no hy), ↓reduceIte, eq_self, i_10]⟩
    | some j =>
      obtain ⟨hj, rfl⟩ := rgx_some hy (by decide)
      have y2 := fun K => y_reg (S := S) (M := mk c t) (inR_nI hj (by decide)) K
      cases hz : rgx z 6 with
      | none => exact ⟨c, h, fun K => by simp only [↓g57_0, ↓g57_1, ↓g57_4, ↓g57_7, ↓g57_8, ↓g57_11, ↓g57_14, ↓g57_15, ↓g57_18, ↓g57_21, ↓g57_22, ↓g57_23, ↓g57_24, ↓g57_25, ↓g57_28, ↓g57_29, ↓g57_32, ↓g57_33, ↓g57_34, ↓g57_37, ↓g57_38, ↓g57_41, ↓g57_42, ↓g57_45, ↓g57_48, ↓g57_50, ↓g57_51, ↓g57_52, ↓g57_55, ↓g57_58, ↓g57_59, ↓g57_62, ↓g57_64, ↓g57_67, ↓g57_68, ↓g57_71, ↓g57_73, ↓g57_74, ↓g57_75, ↓g57_78, ↓g57_79, ↓g57_82, ↓g57_84, ↓g57_85, ↓g57_86, ↓g57_87, ↓g57_90, ↓g57_91, ↓g57_94, ↓g57_97, ↓g57_98, ↓g57_101, ↓g57_103, ↓g57_104, ↓g57_105, ↓g57_106, ↓g57_109, ↓g57_110, ↓g57_113, ↓g57_116, ↓g57_117, ↓g57_120, ↓g57_122, ↓g57_123, ↓g57_126, ↓g57_127, ↓g57_130, ↓g57_131, ↓g57_134, ↓mo_0, ↓mf_0_0, ↓mf_0_1, ↓mf_0_2, ↓mf_0_3, ↓mf_0_4, ↓mo_1, ↓mf_1_0, ↓mf_1_1, ↓mo_2, ↓mf_2_0, ↓mo_4, ↓mf_4_0, ↓mo_6, ↓mf_6_0, ↓mf_6_1, ↓mf_6_2, ↓mf_6_3, ↓mp_6_4, ↓mf_6_4, ↓mp_6_5, ↓mf_6_5, ↓mo_7, ↓mf_7_0, ↓mo_9, ↓mf_9_0, ↓mo_11, ↓mf_11_0, ↓mo_13, ↓mf_13_0, ↓mf_13_1, ↓mp_13_2, ↓mf_13_2, ↓mp_13_3, ↓mf_13_3, ↓mo_14, ↓mf_14_0, ↓mp_14_1, ↓mf_14_1, ↓mp_14_2, ↓mf_14_2, ↓mo_15, ↓mf_15_0, ↓mf_15_1, ↓mp_15_2, ↓mf_15_2, ↓mo_16, ↓mf_16_0, ↓mo_18, ↓mf_18_0, ↓ma_3, ↓ms_3, ↓ma_5, ↓ms_5, ↓ma_8, ↓ms_8, ↓ma_10, ↓ms_10, ↓ma_12, ↓ms_12, ↓ma_17, ↓ms_17, ↓ma_19, ↓ms_19, ↓bnd_some, ↓cond_true, ↓m_pv_none, ↓m_pv_some, m_b01_0, m_b01_1, true_and, and_true, ↓y1, ↓y2, ↓n_reg (rgx_no hz), ↓reduceIte, eq_self, i_10]⟩
      | some k =>
        obtain ⟨hk, rfl⟩ := rgx_some hz (by decide)
        have y3 := fun K => y_reg (S := S) (M := mk c t) (inR_nI hk (by decide)) K
        obtain ⟨T, nx, h1⟩ := h
        have b1 := (ho.reg hi).2
        have b2 := (ho.reg hj).2
        have k1 := fun K => q_length (S := S) (t := t) h1.1 (i := i) (by omega) K
        have k2 := fun K => q_length (S := S) (t := t) h1.1 (i := j) (by omega) K
        rw [h1.at hi] at k1
        rw [h1.at hj] at k2
        dsimp only
        by_cases hf : 1 + (σ.1 i).length + (σ.1 j).length ≤ 200
        · rw [if_pos hf]
          obtain ⟨c2, T2, nx2, h3, s3, g3⟩ := h_keep (S := S) (t := t) h1 ho
          have e1 : T2 i = σ.1 i := h3.at hi
          have e2 : T2 j = σ.1 j := h3.at hj
          obtain ⟨c3, h4, s4, g4⟩ := q_clear (S := S) (t := t) (i := 56) h3.1 (by omega)
          obtain ⟨c4, h5, s5, g5⟩ := q_append (S := S) (t := t) (i := 56) (k := 3) (n := 0) h4 (by omega) (by rw [tu_eq]; simp) (by omega) (by omega)
          have g4' : ∀ K : Option Value → mM → Prop, go S 28 0 [.ref 1, .int 56] [] (mk c2 t) K = K none (mk c3 t) := g4
          have g5' : ∀ K : Option Value → mM → Prop, go S 29 0 [.ref 1, .int 56, .int 3, .int 0, .null] [] (mk c3 t) K = K none (mk c4 t) := g5
          have h5' : CS c4 (tu T2 56 [(3, 0)]) := h5.congr fun q _ => by
            by_cases e : q = 56
            · subst e; rw [tu_eq, tu_eq, tu_eq]; rfl
            · rw [tu_ne e, tu_ne e, tu_ne e]
          have u1 : tu T2 56 [(3, 0)] i = σ.1 i := by rw [tu_ne (by omega), e1]
          have k3 := fun K => q_length (S := S) (t := t) h5' (i := i) (by omega) K
          rw [u1] at k3
          obtain ⟨c5, h6, s6, g6⟩ := q_appendParts (S := S) (t := t) (i := 56) (j := i) (a := 0) (b := (σ.1 i).length) (x := 56) (z := 0) h5' (by omega) (by omega) (by omega) (Nat.zero_le _) (by rw [u1]; omega) (by rw [tu_eq, List.length_singleton]; omega)
          have h6' : CS c5 (tu T2 56 ((3, 0) :: σ.1 i)) := h6.congr fun q _ => by
            by_cases e : q = 56
            · subst e; rw [tu_eq, tu_eq, tu_eq, u1, seg_all]; rfl
            · rw [tu_ne e, tu_ne e, tu_ne e]
          have u2 : tu T2 56 ((3, 0) :: σ.1 i) j = σ.1 j := by rw [tu_ne (by omega), e2]
          have k4 := fun K => q_length (S := S) (t := t) h6' (i := j) (by omega) K
          rw [u2] at k4
          obtain ⟨c6, h7, s7, g7⟩ := q_appendParts (S := S) (t := t) (i := 56) (j := j) (a := 0) (b := (σ.1 j).length) (x := 56) (z := 0) h6' (by omega) (by omega) (by omega) (Nat.zero_le _) (by rw [u2]; omega) (by rw [tu_eq, List.length_cons]; omega)
          have h7' : CS c6 (tu T2 56 ((3, 0) :: (σ.1 i ++ σ.1 j))) := h7.congr fun q _ => by
            by_cases e : q = 56
            · subst e; rw [tu_eq, tu_eq, tu_eq, u2, seg_all]; rfl
            · rw [tu_ne e, tu_ne e, tu_ne e]
          obtain ⟨c7, h8, s8, g8⟩ := q_duplicate (S := S) (t := t) h7' (i := 56) (j := k) (by omega) (by omega) (x := 56)
          rw [tu_eq] at h8
          have h9 := h3.reg hk h8 (fun j _ => by
            by_cases e : j = k
            · subst e; rw [tu_eq, tu_eq]
            · rw [tu_ne e, tu_ne e, tu_ne (by omega)]) (sx_tr (sx_tr s4 s5) (sx_tr s6 (sx_tr s7 s8))) (by simp) (by simp) (by simp)
          have k5 := fun K => q_length (S := S) (t := t) h8 (i := k) (by omega) K
          have u3 : ((3, 0) :: (σ.1 i ++ σ.1 j) : Tm).length = 1 + (σ.1 i).length + (σ.1 j).length := by rw [List.length_cons, List.length_append]; omega
          rw [tu_eq, u3] at k5
          refine ⟨c7, ⟨_, _, h9⟩, fun K => ?_⟩
          simp only [↓g57_0, ↓g57_1, ↓g57_4, ↓g57_7, ↓g57_8, ↓g57_11, ↓g57_14, ↓g57_15, ↓g57_18, ↓g57_21, ↓g57_22, ↓g57_23, ↓g57_24, ↓g57_25, ↓g57_28, ↓g57_29, ↓g57_32, ↓g57_33, ↓g57_34, ↓g57_37, ↓g57_38, ↓g57_41, ↓g57_42, ↓g57_45, ↓g57_48, ↓g57_50, ↓g57_51, ↓g57_52, ↓g57_55, ↓g57_58, ↓g57_59, ↓g57_62, ↓g57_64, ↓g57_67, ↓g57_68, ↓g57_71, ↓g57_73, ↓g57_74, ↓g57_75, ↓g57_78, ↓g57_79, ↓g57_82, ↓g57_84, ↓g57_85, ↓g57_86, ↓g57_87, ↓g57_90, ↓g57_91, ↓g57_94, ↓g57_97, ↓g57_98, ↓g57_101, ↓g57_103, ↓g57_104, ↓g57_105, ↓g57_106, ↓g57_109, ↓g57_110, ↓g57_113, ↓g57_116, ↓g57_117, ↓g57_120, ↓g57_122, ↓g57_123, ↓g57_126, ↓g57_127, ↓g57_130, ↓g57_131, ↓g57_134, ↓mo_0, ↓mf_0_0, ↓mf_0_1, ↓mf_0_2, ↓mf_0_3, ↓mf_0_4, ↓mo_1, ↓mf_1_0, ↓mf_1_1, ↓mo_2, ↓mf_2_0, ↓mo_4, ↓mf_4_0, ↓mo_6, ↓mf_6_0, ↓mf_6_1, ↓mf_6_2, ↓mf_6_3, ↓mp_6_4, ↓mf_6_4, ↓mp_6_5, ↓mf_6_5, ↓mo_7, ↓mf_7_0, ↓mo_9, ↓mf_9_0, ↓mo_11, ↓mf_11_0, ↓mo_13, ↓mf_13_0, ↓mf_13_1, ↓mp_13_2, ↓mf_13_2, ↓mp_13_3, ↓mf_13_3, ↓mo_14, ↓mf_14_0, ↓mp_14_1, ↓mf_14_1, ↓mp_14_2, ↓mf_14_2, ↓mo_15, ↓mf_15_0, ↓mf_15_1, ↓mp_15_2, ↓mf_15_2, ↓mo_16, ↓mf_16_0, ↓mo_18, ↓mf_18_0, ↓ma_3, ↓ms_3, ↓ma_5, ↓ms_5, ↓ma_8, ↓ms_8, ↓ma_10, ↓ms_10, ↓ma_12, ↓ms_12, ↓ma_17, ↓ms_17, ↓ma_19, ↓ms_19, ↓bnd_some, ↓cond_true, ↓m_pv_none, ↓m_pv_some, m_b01_0, m_b01_1, true_and, and_true, ↓y1, ↓y2, ↓y3, ↓k1, ↓k2, i_len b1 b2, hf, ↓g3, ↓g4', ↓g5', ↓k3, ↓g6, ↓k4, ↓g7, ↓g8, ↓k5, ↓reduceIte, eq_self, i_10]
        · rw [if_neg hf]
          refine ⟨c, ⟨_, _, h1⟩, fun K => ?_⟩
          simp only [↓g57_0, ↓g57_1, ↓g57_4, ↓g57_7, ↓g57_8, ↓g57_11, ↓g57_14, ↓g57_15, ↓g57_18, ↓g57_21, ↓g57_22, ↓g57_23, ↓g57_24, ↓g57_25, ↓g57_28, ↓g57_29, ↓g57_32, ↓g57_33, ↓g57_34, ↓g57_37, ↓g57_38, ↓g57_41, ↓g57_42, ↓g57_45, ↓g57_48, ↓g57_50, ↓g57_51, ↓g57_52, ↓g57_55, ↓g57_58, ↓g57_59, ↓g57_62, ↓g57_64, ↓g57_67, ↓g57_68, ↓g57_71, ↓g57_73, ↓g57_74, ↓g57_75, ↓g57_78, ↓g57_79, ↓g57_82, ↓g57_84, ↓g57_85, ↓g57_86, ↓g57_87, ↓g57_90, ↓g57_91, ↓g57_94, ↓g57_97, ↓g57_98, ↓g57_101, ↓g57_103, ↓g57_104, ↓g57_105, ↓g57_106, ↓g57_109, ↓g57_110, ↓g57_113, ↓g57_116, ↓g57_117, ↓g57_120, ↓g57_122, ↓g57_123, ↓g57_126, ↓g57_127, ↓g57_130, ↓g57_131, ↓g57_134, ↓mo_0, ↓mf_0_0, ↓mf_0_1, ↓mf_0_2, ↓mf_0_3, ↓mf_0_4, ↓mo_1, ↓mf_1_0, ↓mf_1_1, ↓mo_2, ↓mf_2_0, ↓mo_4, ↓mf_4_0, ↓mo_6, ↓mf_6_0, ↓mf_6_1, ↓mf_6_2, ↓mf_6_3, ↓mp_6_4, ↓mf_6_4, ↓mp_6_5, ↓mf_6_5, ↓mo_7, ↓mf_7_0, ↓mo_9, ↓mf_9_0, ↓mo_11, ↓mf_11_0, ↓mo_13, ↓mf_13_0, ↓mf_13_1, ↓mp_13_2, ↓mf_13_2, ↓mp_13_3, ↓mf_13_3, ↓mo_14, ↓mf_14_0, ↓mp_14_1, ↓mf_14_1, ↓mp_14_2, ↓mf_14_2, ↓mo_15, ↓mf_15_0, ↓mf_15_1, ↓mp_15_2, ↓mf_15_2, ↓mo_16, ↓mf_16_0, ↓mo_18, ↓mf_18_0, ↓ma_3, ↓ms_3, ↓ma_5, ↓ms_5, ↓ma_8, ↓ms_8, ↓ma_10, ↓ms_10, ↓ma_12, ↓ms_12, ↓ma_17, ↓ms_17, ↓ma_19, ↓ms_19, ↓bnd_some, ↓cond_true, ↓m_pv_none, ↓m_pv_some, m_b01_0, m_b01_1, true_and, and_true, ↓y1, ↓y2, ↓y3, ↓k1, ↓k2, i_len b1 b2, hf, ↓reduceIte, eq_self, i_10]
theorem C_bind (h : CI c σ) (ho : SOk σ) (x y z : Int32) : CC S 58 [.ref 0, .int x, .int y, .int z, .null] c t (F_bind σ x y z) := by
  unfold F_bind
  cases hx : rgx x 6 with
  | none => exact ⟨c, h, fun K => by simp only [↓g58_0, ↓g58_1, ↓g58_4, ↓g58_7, ↓g58_8, ↓g58_11, ↓g58_14, ↓g58_15, ↓g58_16, ↓g58_17, ↓g58_20, ↓g58_21, ↓g58_23, ↓g58_26, ↓g58_28, ↓g58_29, ↓g58_30, ↓g58_31, ↓g58_34, ↓g58_35, ↓g58_38, ↓g58_39, ↓g58_42, ↓g58_45, ↓g58_47, ↓g58_48, ↓g58_49, ↓g58_52, ↓g58_55, ↓g58_56, ↓g58_57, ↓g58_58, ↓g58_61, ↓g58_63, ↓g58_64, ↓g58_67, ↓g58_69, ↓g58_70, ↓g58_73, ↓g58_75, ↓mo_0, ↓mf_0_0, ↓mf_0_1, ↓mf_0_2, ↓mf_0_3, ↓mf_0_4, ↓mo_1, ↓mf_1_0, ↓mf_1_1, ↓mo_2, ↓mf_2_0, ↓mo_4, ↓mf_4_0, ↓mo_6, ↓mf_6_0, ↓mf_6_1, ↓mf_6_2, ↓mf_6_3, ↓mp_6_4, ↓mf_6_4, ↓mp_6_5, ↓mf_6_5, ↓mo_7, ↓mf_7_0, ↓mo_9, ↓mf_9_0, ↓mo_11, ↓mf_11_0, ↓mo_13, ↓mf_13_0, ↓mf_13_1, ↓mp_13_2, ↓mf_13_2, ↓mp_13_3, ↓mf_13_3, ↓mo_14, ↓mf_14_0, ↓mp_14_1, ↓mf_14_1, ↓mp_14_2, ↓mf_14_2, ↓mo_15, ↓mf_15_0, ↓mf_15_1, ↓mp_15_2, ↓mf_15_2, ↓mo_16, ↓mf_16_0, ↓mo_18, ↓mf_18_0, ↓ma_3, ↓ms_3, ↓ma_5, ↓ms_5, ↓ma_8, ↓ms_8, ↓ma_10, ↓ms_10, ↓ma_12, ↓ms_12, ↓ma_17, ↓ms_17, ↓ma_19, ↓ms_19, ↓bnd_some, ↓cond_true, ↓m_pv_none, ↓m_pv_some, m_b01_0, m_b01_1, true_and, and_true, ↓n_reg (rgx_no hx), ↓reduceIte, eq_self, i_10]⟩
  | some i =>
    obtain ⟨hi, rfl⟩ := rgx_some hx (by decide)
    have y1 := fun K => y_reg (S := S) (M := mk c t) (inR_nI hi (by decide)) K
    cases hz : rgx z 6 with
    | none => exact ⟨c, h, fun K => by simp only [↓g58_0, ↓g58_1, ↓g58_4, ↓g58_7, ↓g58_8, ↓g58_11, ↓g58_14, ↓g58_15, ↓g58_16, ↓g58_17, ↓g58_20, ↓g58_21, ↓g58_23, ↓g58_26, ↓g58_28, ↓g58_29, ↓g58_30, ↓g58_31, ↓g58_34, ↓g58_35, ↓g58_38, ↓g58_39, ↓g58_42, ↓g58_45, ↓g58_47, ↓g58_48, ↓g58_49, ↓g58_52, ↓g58_55, ↓g58_56, ↓g58_57, ↓g58_58, ↓g58_61, ↓g58_63, ↓g58_64, ↓g58_67, ↓g58_69, ↓g58_70, ↓g58_73, ↓g58_75, ↓mo_0, ↓mf_0_0, ↓mf_0_1, ↓mf_0_2, ↓mf_0_3, ↓mf_0_4, ↓mo_1, ↓mf_1_0, ↓mf_1_1, ↓mo_2, ↓mf_2_0, ↓mo_4, ↓mf_4_0, ↓mo_6, ↓mf_6_0, ↓mf_6_1, ↓mf_6_2, ↓mf_6_3, ↓mp_6_4, ↓mf_6_4, ↓mp_6_5, ↓mf_6_5, ↓mo_7, ↓mf_7_0, ↓mo_9, ↓mf_9_0, ↓mo_11, ↓mf_11_0, ↓mo_13, ↓mf_13_0, ↓mf_13_1, ↓mp_13_2, ↓mf_13_2, ↓mp_13_3, ↓mf_13_3, ↓mo_14, ↓mf_14_0, ↓mp_14_1, ↓mf_14_1, ↓mp_14_2, ↓mf_14_2, ↓mo_15, ↓mf_15_0, ↓mf_15_1, ↓mp_15_2, ↓mf_15_2, ↓mo_16, ↓mf_16_0, ↓mo_18, ↓mf_18_0, ↓ma_3, ↓ms_3, ↓ma_5, ↓ms_5, ↓ma_8, ↓ms_8, ↓ma_10, ↓ms_10, ↓ma_12, ↓ms_12, ↓ma_17, ↓ms_17, ↓ma_19, ↓ms_19, ↓bnd_some, ↓cond_true, ↓m_pv_none, ↓m_pv_some, m_b01_0, m_b01_1, true_and, and_true, ↓y1, ↓n_reg (rgx_no hz), ↓reduceIte, eq_self, i_10]⟩
    | some k =>
      obtain ⟨hk, rfl⟩ := rgx_some hz (by decide)
      have y2 := fun K => y_reg (S := S) (M := mk c t) (inR_nI hk (by decide)) K
      cases hy : rgx y 6 with
      | none =>
        refine ⟨c, h, fun K => ?_⟩
        have hn := rgx_no hy
        by_cases q1 : y < 0
        · simp only [↓g58_0, ↓g58_1, ↓g58_4, ↓g58_7, ↓g58_8, ↓g58_11, ↓g58_14, ↓g58_15, ↓g58_16, ↓g58_17, ↓g58_20, ↓g58_21, ↓g58_23, ↓g58_26, ↓g58_28, ↓g58_29, ↓g58_30, ↓g58_31, ↓g58_34, ↓g58_35, ↓g58_38, ↓g58_39, ↓g58_42, ↓g58_45, ↓g58_47, ↓g58_48, ↓g58_49, ↓g58_52, ↓g58_55, ↓g58_56, ↓g58_57, ↓g58_58, ↓g58_61, ↓g58_63, ↓g58_64, ↓g58_67, ↓g58_69, ↓g58_70, ↓g58_73, ↓g58_75, ↓mo_0, ↓mf_0_0, ↓mf_0_1, ↓mf_0_2, ↓mf_0_3, ↓mf_0_4, ↓mo_1, ↓mf_1_0, ↓mf_1_1, ↓mo_2, ↓mf_2_0, ↓mo_4, ↓mf_4_0, ↓mo_6, ↓mf_6_0, ↓mf_6_1, ↓mf_6_2, ↓mf_6_3, ↓mp_6_4, ↓mf_6_4, ↓mp_6_5, ↓mf_6_5, ↓mo_7, ↓mf_7_0, ↓mo_9, ↓mf_9_0, ↓mo_11, ↓mf_11_0, ↓mo_13, ↓mf_13_0, ↓mf_13_1, ↓mp_13_2, ↓mf_13_2, ↓mp_13_3, ↓mf_13_3, ↓mo_14, ↓mf_14_0, ↓mp_14_1, ↓mf_14_1, ↓mp_14_2, ↓mf_14_2, ↓mo_15, ↓mf_15_0, ↓mf_15_1, ↓mp_15_2, ↓mf_15_2, ↓mo_16, ↓mf_16_0, ↓mo_18, ↓mf_18_0, ↓ma_3, ↓ms_3, ↓ma_5, ↓ms_5, ↓ma_8, ↓ms_8, ↓ma_10, ↓ms_10, ↓ma_12, ↓ms_12, ↓ma_17, ↓ms_17, ↓ma_19, ↓ms_19, ↓bnd_some, ↓cond_true, ↓m_pv_none, ↓m_pv_some, m_b01_0, m_b01_1, true_and, and_true, ↓y1, ↓y2, q1, ↓reduceIte, eq_self, i_10]
        · have q2 : ¬ y < 6 := fun z => hn ⟨Int32.not_lt.mp q1, z⟩
          simp only [↓g58_0, ↓g58_1, ↓g58_4, ↓g58_7, ↓g58_8, ↓g58_11, ↓g58_14, ↓g58_15, ↓g58_16, ↓g58_17, ↓g58_20, ↓g58_21, ↓g58_23, ↓g58_26, ↓g58_28, ↓g58_29, ↓g58_30, ↓g58_31, ↓g58_34, ↓g58_35, ↓g58_38, ↓g58_39, ↓g58_42, ↓g58_45, ↓g58_47, ↓g58_48, ↓g58_49, ↓g58_52, ↓g58_55, ↓g58_56, ↓g58_57, ↓g58_58, ↓g58_61, ↓g58_63, ↓g58_64, ↓g58_67, ↓g58_69, ↓g58_70, ↓g58_73, ↓g58_75, ↓mo_0, ↓mf_0_0, ↓mf_0_1, ↓mf_0_2, ↓mf_0_3, ↓mf_0_4, ↓mo_1, ↓mf_1_0, ↓mf_1_1, ↓mo_2, ↓mf_2_0, ↓mo_4, ↓mf_4_0, ↓mo_6, ↓mf_6_0, ↓mf_6_1, ↓mf_6_2, ↓mf_6_3, ↓mp_6_4, ↓mf_6_4, ↓mp_6_5, ↓mf_6_5, ↓mo_7, ↓mf_7_0, ↓mo_9, ↓mf_9_0, ↓mo_11, ↓mf_11_0, ↓mo_13, ↓mf_13_0, ↓mf_13_1, ↓mp_13_2, ↓mf_13_2, ↓mp_13_3, ↓mf_13_3, ↓mo_14, ↓mf_14_0, ↓mp_14_1, ↓mf_14_1, ↓mp_14_2, ↓mf_14_2, ↓mo_15, ↓mf_15_0, ↓mf_15_1, ↓mp_15_2, ↓mf_15_2, ↓mo_16, ↓mf_16_0, ↓mo_18, ↓mf_18_0, ↓ma_3, ↓ms_3, ↓ma_5, ↓ms_5, ↓ma_8, ↓ms_8, ↓ma_10, ↓ms_10, ↓ma_12, ↓ms_12, ↓ma_17, ↓ms_17, ↓ma_19, ↓ms_19, ↓bnd_some, ↓cond_true, ↓m_pv_none, ↓m_pv_some, m_b01_0, m_b01_1, true_and, and_true, ↓y1, ↓y2, q1, q2, ↓reduceIte, eq_self, i_10]
      | some j =>
        obtain ⟨hj, rfl⟩ := rgx_some hy (by decide)
        have q1 : ¬ nI j < 0 := nI_pos (by omega)
        have q2 : nI j < 6 := nI_lt (b := 6) (by omega) (by decide)
        obtain ⟨T, nx, h1⟩ := h
        have k1 := fun K => q_length (S := S) (t := t) h1.1 (i := i) (by omega) K
        rw [h1.at hi] at k1
        have b1 := (ho.reg hi).2
        have q3 : ((1 : Int32) + nI (σ.1 i).length ≤ 200) = (1 + (σ.1 i).length ≤ 200) := by
          rw [l_1, nI_add]
          exact propext (nI_leI (b := 200) (by omega) (by decide))
        dsimp only
        by_cases hf : 1 + (σ.1 i).length ≤ 200
        · rw [if_pos hf]
          obtain ⟨c2, T2, nx2, h3, s3, g3⟩ := h_keep (S := S) (t := t) h1 ho
          have e1 : T2 i = σ.1 i := h3.at hi
          obtain ⟨c3, h4, s4, g4⟩ := d_draft (S := S) (t := t) (v := i) (T := T2) (by omega) (by rw [e1]; exact (ho.reg hi).1) (by rw [e1]; exact hf) hj h3.1
          rw [e1] at h4 g4
          obtain ⟨c7, h8, s8, g8⟩ := q_duplicate (S := S) (t := t) h4 (i := 56) (j := k) (by omega) (by omega) (x := 56)
          rw [tu_eq] at h8
          have h9 := h3.reg hk h8 (fun j _ => by
            by_cases e : j = k
            · subst e; rw [tu_eq, tu_eq]
            · rw [tu_ne e, tu_ne e, tu_ne (by omega)]) (sx_tr s4 (fun q hq => s8 q (by simp at hq ⊢; omega))) (by simp) (by simp) (by simp)
          refine ⟨c7, ⟨_, _, h9⟩, fun K => ?_⟩
          simp only [↓g58_0, ↓g58_1, ↓g58_4, ↓g58_7, ↓g58_8, ↓g58_11, ↓g58_14, ↓g58_15, ↓g58_16, ↓g58_17, ↓g58_20, ↓g58_21, ↓g58_23, ↓g58_26, ↓g58_28, ↓g58_29, ↓g58_30, ↓g58_31, ↓g58_34, ↓g58_35, ↓g58_38, ↓g58_39, ↓g58_42, ↓g58_45, ↓g58_47, ↓g58_48, ↓g58_49, ↓g58_52, ↓g58_55, ↓g58_56, ↓g58_57, ↓g58_58, ↓g58_61, ↓g58_63, ↓g58_64, ↓g58_67, ↓g58_69, ↓g58_70, ↓g58_73, ↓g58_75, ↓mo_0, ↓mf_0_0, ↓mf_0_1, ↓mf_0_2, ↓mf_0_3, ↓mf_0_4, ↓mo_1, ↓mf_1_0, ↓mf_1_1, ↓mo_2, ↓mf_2_0, ↓mo_4, ↓mf_4_0, ↓mo_6, ↓mf_6_0, ↓mf_6_1, ↓mf_6_2, ↓mf_6_3, ↓mp_6_4, ↓mf_6_4, ↓mp_6_5, ↓mf_6_5, ↓mo_7, ↓mf_7_0, ↓mo_9, ↓mf_9_0, ↓mo_11, ↓mf_11_0, ↓mo_13, ↓mf_13_0, ↓mf_13_1, ↓mp_13_2, ↓mf_13_2, ↓mp_13_3, ↓mf_13_3, ↓mo_14, ↓mf_14_0, ↓mp_14_1, ↓mf_14_1, ↓mp_14_2, ↓mf_14_2, ↓mo_15, ↓mf_15_0, ↓mf_15_1, ↓mp_15_2, ↓mf_15_2, ↓mo_16, ↓mf_16_0, ↓mo_18, ↓mf_18_0, ↓ma_3, ↓ms_3, ↓ma_5, ↓ms_5, ↓ma_8, ↓ms_8, ↓ma_10, ↓ms_10, ↓ma_12, ↓ms_12, ↓ma_17, ↓ms_17, ↓ma_19, ↓ms_19, ↓bnd_some, ↓cond_true, ↓m_pv_none, ↓m_pv_some, m_b01_0, m_b01_1, true_and, and_true, ↓y1, ↓y2, q1, q2, ↓k1, q3, hf, ↓g3, ↓g4, ↓g8, ↓reduceIte, eq_self, i_10]
        · rw [if_neg hf]
          refine ⟨c, ⟨_, _, h1⟩, fun K => ?_⟩
          simp only [↓g58_0, ↓g58_1, ↓g58_4, ↓g58_7, ↓g58_8, ↓g58_11, ↓g58_14, ↓g58_15, ↓g58_16, ↓g58_17, ↓g58_20, ↓g58_21, ↓g58_23, ↓g58_26, ↓g58_28, ↓g58_29, ↓g58_30, ↓g58_31, ↓g58_34, ↓g58_35, ↓g58_38, ↓g58_39, ↓g58_42, ↓g58_45, ↓g58_47, ↓g58_48, ↓g58_49, ↓g58_52, ↓g58_55, ↓g58_56, ↓g58_57, ↓g58_58, ↓g58_61, ↓g58_63, ↓g58_64, ↓g58_67, ↓g58_69, ↓g58_70, ↓g58_73, ↓g58_75, ↓mo_0, ↓mf_0_0, ↓mf_0_1, ↓mf_0_2, ↓mf_0_3, ↓mf_0_4, ↓mo_1, ↓mf_1_0, ↓mf_1_1, ↓mo_2, ↓mf_2_0, ↓mo_4, ↓mf_4_0, ↓mo_6, ↓mf_6_0, ↓mf_6_1, ↓mf_6_2, ↓mf_6_3, ↓mp_6_4, ↓mf_6_4, ↓mp_6_5, ↓mf_6_5, ↓mo_7, ↓mf_7_0, ↓mo_9, ↓mf_9_0, ↓mo_11, ↓mf_11_0, ↓mo_13, ↓mf_13_0, ↓mf_13_1, ↓mp_13_2, ↓mf_13_2, ↓mp_13_3, ↓mf_13_3, ↓mo_14, ↓mf_14_0, ↓mp_14_1, ↓mf_14_1, ↓mp_14_2, ↓mf_14_2, ↓mo_15, ↓mf_15_0, ↓mf_15_1, ↓mp_15_2, ↓mf_15_2, ↓mo_16, ↓mf_16_0, ↓mo_18, ↓mf_18_0, ↓ma_3, ↓ms_3, ↓ma_5, ↓ms_5, ↓ma_8, ↓ms_8, ↓ma_10, ↓ms_10, ↓ma_12, ↓ms_12, ↓ma_17, ↓ms_17, ↓ma_19, ↓ms_19, ↓bnd_some, ↓cond_true, ↓m_pv_none, ↓m_pv_some, m_b01_0, m_b01_1, true_and, and_true, ↓y1, ↓y2, q1, q2, ↓k1, q3, hf, ↓reduceIte, eq_self, i_10]
theorem C_step (h : CI c σ) (ho : SOk σ) (x o : Int32) : CC S 59 [.ref 0, .int x, .int o, .null] c t (F_step σ x o) := by
  unfold F_step
  cases hx : rgx x 6 with
  | none => exact ⟨c, h, fun K => by simp only [↓g59_0, ↓g59_1, ↓g59_4, ↓g59_7, ↓g59_8, ↓g59_9, ↓g59_10, ↓g59_13, ↓g59_16, ↓g59_18, ↓g59_19, ↓g59_20, ↓g59_23, ↓g59_24, ↓g59_27, ↓g59_28, ↓g59_31, ↓g59_32, ↓g59_35, ↓g59_36, ↓g59_37, ↓g59_39, ↓g59_42, ↓g59_44, ↓g59_45, ↓g59_46, ↓g59_49, ↓g59_50, ↓g59_53, ↓g59_56, ↓g59_59, ↓g59_61, ↓g59_62, ↓g59_63, ↓g59_66, ↓g59_69, ↓g59_70, ↓g59_73, ↓g59_74, ↓g59_77, ↓g59_78, ↓g59_81, ↓g59_82, ↓g59_85, ↓mo_0, ↓mf_0_0, ↓mf_0_1, ↓mf_0_2, ↓mf_0_3, ↓mf_0_4, ↓mo_1, ↓mf_1_0, ↓mf_1_1, ↓mo_2, ↓mf_2_0, ↓mo_4, ↓mf_4_0, ↓mo_6, ↓mf_6_0, ↓mf_6_1, ↓mf_6_2, ↓mf_6_3, ↓mp_6_4, ↓mf_6_4, ↓mp_6_5, ↓mf_6_5, ↓mo_7, ↓mf_7_0, ↓mo_9, ↓mf_9_0, ↓mo_11, ↓mf_11_0, ↓mo_13, ↓mf_13_0, ↓mf_13_1, ↓mp_13_2, ↓mf_13_2, ↓mp_13_3, ↓mf_13_3, ↓mo_14, ↓mf_14_0, ↓mp_14_1, ↓mf_14_1, ↓mp_14_2, ↓mf_14_2, ↓mo_15, ↓mf_15_0, ↓mf_15_1, ↓mp_15_2, ↓mf_15_2, ↓mo_16, ↓mf_16_0, ↓mo_18, ↓mf_18_0, ↓ma_3, ↓ms_3, ↓ma_5, ↓ms_5, ↓ma_8, ↓ms_8, ↓ma_10, ↓ms_10, ↓ma_12, ↓ms_12, ↓ma_17, ↓ms_17, ↓ma_19, ↓ms_19, ↓bnd_some, ↓cond_true, ↓m_pv_none, ↓m_pv_some, m_b01_0, m_b01_1, true_and, and_true, ↓n_reg (rgx_no hx), ↓reduceIte, eq_self, i_10]⟩
  | some i =>
    obtain ⟨hi, rfl⟩ := rgx_some hx (by decide)
    have y1 := fun K => y_reg (S := S) (M := mk c t) (inR_nI hi (by decide)) K
    cases hy : rgx o 3 with
    | none => exact ⟨c, h, fun K => by simp only [↓g59_0, ↓g59_1, ↓g59_4, ↓g59_7, ↓g59_8, ↓g59_9, ↓g59_10, ↓g59_13, ↓g59_16, ↓g59_18, ↓g59_19, ↓g59_20, ↓g59_23, ↓g59_24, ↓g59_27, ↓g59_28, ↓g59_31, ↓g59_32, ↓g59_35, ↓g59_36, ↓g59_37, ↓g59_39, ↓g59_42, ↓g59_44, ↓g59_45, ↓g59_46, ↓g59_49, ↓g59_50, ↓g59_53, ↓g59_56, ↓g59_59, ↓g59_61, ↓g59_62, ↓g59_63, ↓g59_66, ↓g59_69, ↓g59_70, ↓g59_73, ↓g59_74, ↓g59_77, ↓g59_78, ↓g59_81, ↓g59_82, ↓g59_85, ↓mo_0, ↓mf_0_0, ↓mf_0_1, ↓mf_0_2, ↓mf_0_3, ↓mf_0_4, ↓mo_1, ↓mf_1_0, ↓mf_1_1, ↓mo_2, ↓mf_2_0, ↓mo_4, ↓mf_4_0, ↓mo_6, ↓mf_6_0, ↓mf_6_1, ↓mf_6_2, ↓mf_6_3, ↓mp_6_4, ↓mf_6_4, ↓mp_6_5, ↓mf_6_5, ↓mo_7, ↓mf_7_0, ↓mo_9, ↓mf_9_0, ↓mo_11, ↓mf_11_0, ↓mo_13, ↓mf_13_0, ↓mf_13_1, ↓mp_13_2, ↓mf_13_2, ↓mp_13_3, ↓mf_13_3, ↓mo_14, ↓mf_14_0, ↓mp_14_1, ↓mf_14_1, ↓mp_14_2, ↓mf_14_2, ↓mo_15, ↓mf_15_0, ↓mf_15_1, ↓mp_15_2, ↓mf_15_2, ↓mo_16, ↓mf_16_0, ↓mo_18, ↓mf_18_0, ↓ma_3, ↓ms_3, ↓ma_5, ↓ms_5, ↓ma_8, ↓ms_8, ↓ma_10, ↓ms_10, ↓ma_12, ↓ms_12, ↓ma_17, ↓ms_17, ↓ma_19, ↓ms_19, ↓bnd_some, ↓cond_true, ↓m_pv_none, ↓m_pv_some, m_b01_0, m_b01_1, true_and, and_true, ↓y1, ↓n_ord (rgx_no hy), ↓reduceIte, eq_self, i_10]⟩
    | some o =>
      obtain ⟨hj, rfl⟩ := rgx_some hy (by decide)
      have y2 := fun K => y_ord (S := S) (M := mk c t) (inR_nI hj (by decide)) K
      obtain ⟨T, nx, h1⟩ := h
      have hk := ho.reg hi
      have e0 : T i = σ.1 i := h1.at hi
      obtain ⟨c1, v1, h2, s1, g1⟩ := q_look (S := S) (t := t) (v := i) (by omega) (by rw [e0]; exact hk.1) h1.1
      have h2c := h1.same h2 (fun _ _ => rfl) s1 (by simp) (by simp) (by simp)
      have g2 := fun K => u_next (S := S) (t := t) h2 v1 (by rw [e0]; exact hk.1) hj K
      rw [e0] at g2
      dsimp only
      cases hz : nxt (σ.1 i) o with
      | none =>
        rw [hz] at g2
        refine ⟨c1, ⟨_, _, h2c⟩, fun K => ?_⟩
        simp only [↓g59_0, ↓g59_1, ↓g59_4, ↓g59_7, ↓g59_8, ↓g59_9, ↓g59_10, ↓g59_13, ↓g59_16, ↓g59_18, ↓g59_19, ↓g59_20, ↓g59_23, ↓g59_24, ↓g59_27, ↓g59_28, ↓g59_31, ↓g59_32, ↓g59_35, ↓g59_36, ↓g59_37, ↓g59_39, ↓g59_42, ↓g59_44, ↓g59_45, ↓g59_46, ↓g59_49, ↓g59_50, ↓g59_53, ↓g59_56, ↓g59_59, ↓g59_61, ↓g59_62, ↓g59_63, ↓g59_66, ↓g59_69, ↓g59_70, ↓g59_73, ↓g59_74, ↓g59_77, ↓g59_78, ↓g59_81, ↓g59_82, ↓g59_85, ↓mo_0, ↓mf_0_0, ↓mf_0_1, ↓mf_0_2, ↓mf_0_3, ↓mf_0_4, ↓mo_1, ↓mf_1_0, ↓mf_1_1, ↓mo_2, ↓mf_2_0, ↓mo_4, ↓mf_4_0, ↓mo_6, ↓mf_6_0, ↓mf_6_1, ↓mf_6_2, ↓mf_6_3, ↓mp_6_4, ↓mf_6_4, ↓mp_6_5, ↓mf_6_5, ↓mo_7, ↓mf_7_0, ↓mo_9, ↓mf_9_0, ↓mo_11, ↓mf_11_0, ↓mo_13, ↓mf_13_0, ↓mf_13_1, ↓mp_13_2, ↓mf_13_2, ↓mp_13_3, ↓mf_13_3, ↓mo_14, ↓mf_14_0, ↓mp_14_1, ↓mf_14_1, ↓mp_14_2, ↓mf_14_2, ↓mo_15, ↓mf_15_0, ↓mf_15_1, ↓mp_15_2, ↓mf_15_2, ↓mo_16, ↓mf_16_0, ↓mo_18, ↓mf_18_0, ↓ma_3, ↓ms_3, ↓ma_5, ↓ms_5, ↓ma_8, ↓ms_8, ↓ma_10, ↓ms_10, ↓ma_12, ↓ms_12, ↓ma_17, ↓ms_17, ↓ma_19, ↓ms_19, ↓bnd_some, ↓cond_true, ↓m_pv_none, ↓m_pv_some, m_b01_0, m_b01_1, true_and, and_true, ↓y1, ↓y2, ↓g1, ↓g2, show nbI none = -6 from rfl, ↓reduceIte, eq_self, i_10]
      | some p =>
        rw [hz] at g2
        obtain ⟨n1, n2⟩ := nxt_red hz
        have g3 := fun K => w_len (S := S) (t := t) (p := p) h2 v1 (by rw [e0]; exact hk.1) (by rw [e0]; exact n1) (by rw [e0]; exact n2) K
        rw [e0] at g3
        have b1 := hk.2
        have e1 : ¬ nI p = -6 := nI_m6 (by omega)
        have e3 : ((nI (rwt (σ.1 i) p).length) ≤ 200) = ((rwt (σ.1 i) p).length ≤ 200) := propext (nI_leI (b := 200) (rwt_b hk n1 n2) (by decide))
        dsimp only
        by_cases hf : (rwt (σ.1 i) p).length ≤ 200
        · rw [if_pos hf]
          obtain ⟨c2, T2, nx2, h3, s3, g4⟩ := h_keep (S := S) (t := t) h2c ho
          have e2 : T2 i = σ.1 i := h3.at hi
          have v2 : SV c2 i (T2 i) := by rw [e2, ← e0]; exact v1.sx s3 (by simp) (by simp) (by simp) (by simp)
          obtain ⟨c3, T3, h4, t4, s4, g5⟩ := w_rw (S := S) (t := t) (v := i) (p := p) (T := T2) (by omega) (by rw [e2]; exact hk.1) (by rw [e2]; exact n1) (by rw [e2]; exact n2) (by rw [e2]; exact hf) h3.1 v2
          rw [e2] at t4
          have h5 := h3.reg hi h4 (fun j hj => t4 j (by omega)) s4 (by simp) (by simp) (by simp)
          have k5 := fun K => q_length (S := S) (t := t) h4 (i := i) (by omega) K
          rw [t4 i (by omega), tu_eq] at k5
          refine ⟨c3, ⟨_, _, h5⟩, fun K => ?_⟩
          simp only [↓g59_0, ↓g59_1, ↓g59_4, ↓g59_7, ↓g59_8, ↓g59_9, ↓g59_10, ↓g59_13, ↓g59_16, ↓g59_18, ↓g59_19, ↓g59_20, ↓g59_23, ↓g59_24, ↓g59_27, ↓g59_28, ↓g59_31, ↓g59_32, ↓g59_35, ↓g59_36, ↓g59_37, ↓g59_39, ↓g59_42, ↓g59_44, ↓g59_45, ↓g59_46, ↓g59_49, ↓g59_50, ↓g59_53, ↓g59_56, ↓g59_59, ↓g59_61, ↓g59_62, ↓g59_63, ↓g59_66, ↓g59_69, ↓g59_70, ↓g59_73, ↓g59_74, ↓g59_77, ↓g59_78, ↓g59_81, ↓g59_82, ↓g59_85, ↓mo_0, ↓mf_0_0, ↓mf_0_1, ↓mf_0_2, ↓mf_0_3, ↓mf_0_4, ↓mo_1, ↓mf_1_0, ↓mf_1_1, ↓mo_2, ↓mf_2_0, ↓mo_4, ↓mf_4_0, ↓mo_6, ↓mf_6_0, ↓mf_6_1, ↓mf_6_2, ↓mf_6_3, ↓mp_6_4, ↓mf_6_4, ↓mp_6_5, ↓mf_6_5, ↓mo_7, ↓mf_7_0, ↓mo_9, ↓mf_9_0, ↓mo_11, ↓mf_11_0, ↓mo_13, ↓mf_13_0, ↓mf_13_1, ↓mp_13_2, ↓mf_13_2, ↓mp_13_3, ↓mf_13_3, ↓mo_14, ↓mf_14_0, ↓mp_14_1, ↓mf_14_1, ↓mp_14_2, ↓mf_14_2, ↓mo_15, ↓mf_15_0, ↓mf_15_1, ↓mp_15_2, ↓mf_15_2, ↓mo_16, ↓mf_16_0, ↓mo_18, ↓mf_18_0, ↓ma_3, ↓ms_3, ↓ma_5, ↓ms_5, ↓ma_8, ↓ms_8, ↓ma_10, ↓ms_10, ↓ma_12, ↓ms_12, ↓ma_17, ↓ms_17, ↓ma_19, ↓ms_19, ↓bnd_some, ↓cond_true, ↓m_pv_none, ↓m_pv_some, m_b01_0, m_b01_1, true_and, and_true, ↓y1, ↓y2, ↓g1, ↓g2, show nbI (some p) = nI p from rfl, e1, ↓g3, e3, hf, ↓g4, ↓g5, ↓k5, ↓reduceIte, eq_self, i_10]
        · rw [if_neg hf]
          refine ⟨c1, ⟨_, _, h2c⟩, fun K => ?_⟩
          simp only [↓g59_0, ↓g59_1, ↓g59_4, ↓g59_7, ↓g59_8, ↓g59_9, ↓g59_10, ↓g59_13, ↓g59_16, ↓g59_18, ↓g59_19, ↓g59_20, ↓g59_23, ↓g59_24, ↓g59_27, ↓g59_28, ↓g59_31, ↓g59_32, ↓g59_35, ↓g59_36, ↓g59_37, ↓g59_39, ↓g59_42, ↓g59_44, ↓g59_45, ↓g59_46, ↓g59_49, ↓g59_50, ↓g59_53, ↓g59_56, ↓g59_59, ↓g59_61, ↓g59_62, ↓g59_63, ↓g59_66, ↓g59_69, ↓g59_70, ↓g59_73, ↓g59_74, ↓g59_77, ↓g59_78, ↓g59_81, ↓g59_82, ↓g59_85, ↓mo_0, ↓mf_0_0, ↓mf_0_1, ↓mf_0_2, ↓mf_0_3, ↓mf_0_4, ↓mo_1, ↓mf_1_0, ↓mf_1_1, ↓mo_2, ↓mf_2_0, ↓mo_4, ↓mf_4_0, ↓mo_6, ↓mf_6_0, ↓mf_6_1, ↓mf_6_2, ↓mf_6_3, ↓mp_6_4, ↓mf_6_4, ↓mp_6_5, ↓mf_6_5, ↓mo_7, ↓mf_7_0, ↓mo_9, ↓mf_9_0, ↓mo_11, ↓mf_11_0, ↓mo_13, ↓mf_13_0, ↓mf_13_1, ↓mp_13_2, ↓mf_13_2, ↓mp_13_3, ↓mf_13_3, ↓mo_14, ↓mf_14_0, ↓mp_14_1, ↓mf_14_1, ↓mp_14_2, ↓mf_14_2, ↓mo_15, ↓mf_15_0, ↓mf_15_1, ↓mp_15_2, ↓mf_15_2, ↓mo_16, ↓mf_16_0, ↓mo_18, ↓mf_18_0, ↓ma_3, ↓ms_3, ↓ma_5, ↓ms_5, ↓ma_8, ↓ms_8, ↓ma_10, ↓ms_10, ↓ma_12, ↓ms_12, ↓ma_17, ↓ms_17, ↓ma_19, ↓ms_19, ↓bnd_some, ↓cond_true, ↓m_pv_none, ↓m_pv_some, m_b01_0, m_b01_1, true_and, and_true, ↓y1, ↓y2, ↓g1, ↓g2, show nbI (some p) = nI p from rfl, e1, ↓g3, e3, hf, ↓reduceIte, eq_self, i_10]
theorem C_run (h : CI c σ) (ho : SOk σ) (x o f : Int32) : CC S 60 [.ref 0, .int x, .int o, .int f] c t (F_run σ x o f) := by
  unfold F_run
  cases hx : rgx x 6 with
  | none => exact ⟨c, h, fun K => by simp only [↓g60_0, ↓g60_1, ↓g60_4, ↓g60_7, ↓g60_8, ↓g60_9, ↓g60_10, ↓g60_13, ↓g60_16, ↓g60_17, ↓g60_20, ↓g60_23, ↓g60_25, ↓g60_26, ↓g60_27, ↓g60_30, ↓g60_33, ↓g60_34, ↓g60_37, ↓g60_38, ↓g60_39, ↓g60_40, ↓g60_43, ↓g60_44, ↓g60_45, ↓g60_48, ↓g60_51, ↓mo_0, ↓mf_0_0, ↓mf_0_1, ↓mf_0_2, ↓mf_0_3, ↓mf_0_4, ↓mo_1, ↓mf_1_0, ↓mf_1_1, ↓mo_2, ↓mf_2_0, ↓mo_4, ↓mf_4_0, ↓mo_6, ↓mf_6_0, ↓mf_6_1, ↓mf_6_2, ↓mf_6_3, ↓mp_6_4, ↓mf_6_4, ↓mp_6_5, ↓mf_6_5, ↓mo_7, ↓mf_7_0, ↓mo_9, ↓mf_9_0, ↓mo_11, ↓mf_11_0, ↓mo_13, ↓mf_13_0, ↓mf_13_1, ↓mp_13_2, ↓mf_13_2, ↓mp_13_3, ↓mf_13_3, ↓mo_14, ↓mf_14_0, ↓mp_14_1, ↓mf_14_1, ↓mp_14_2, ↓mf_14_2, ↓mo_15, ↓mf_15_0, ↓mf_15_1, ↓mp_15_2, ↓mf_15_2, ↓mo_16, ↓mf_16_0, ↓mo_18, ↓mf_18_0, ↓ma_3, ↓ms_3, ↓ma_5, ↓ms_5, ↓ma_8, ↓ms_8, ↓ma_10, ↓ms_10, ↓ma_12, ↓ms_12, ↓ma_17, ↓ms_17, ↓ma_19, ↓ms_19, ↓bnd_some, ↓cond_true, ↓m_pv_none, ↓m_pv_some, m_b01_0, m_b01_1, true_and, and_true, ↓n_reg (rgx_no hx), ↓reduceIte, eq_self, i_10]⟩
  | some i =>
    obtain ⟨hi, rfl⟩ := rgx_some hx (by decide)
    have y1 := fun K => y_reg (S := S) (M := mk c t) (inR_nI hi (by decide)) K
    cases hy : rgx o 3 with
    | none => exact ⟨c, h, fun K => by simp only [↓g60_0, ↓g60_1, ↓g60_4, ↓g60_7, ↓g60_8, ↓g60_9, ↓g60_10, ↓g60_13, ↓g60_16, ↓g60_17, ↓g60_20, ↓g60_23, ↓g60_25, ↓g60_26, ↓g60_27, ↓g60_30, ↓g60_33, ↓g60_34, ↓g60_37, ↓g60_38, ↓g60_39, ↓g60_40, ↓g60_43, ↓g60_44, ↓g60_45, ↓g60_48, ↓g60_51, ↓mo_0, ↓mf_0_0, ↓mf_0_1, ↓mf_0_2, ↓mf_0_3, ↓mf_0_4, ↓mo_1, ↓mf_1_0, ↓mf_1_1, ↓mo_2, ↓mf_2_0, ↓mo_4, ↓mf_4_0, ↓mo_6, ↓mf_6_0, ↓mf_6_1, ↓mf_6_2, ↓mf_6_3, ↓mp_6_4, ↓mf_6_4, ↓mp_6_5, ↓mf_6_5, ↓mo_7, ↓mf_7_0, ↓mo_9, ↓mf_9_0, ↓mo_11, ↓mf_11_0, ↓mo_13, ↓mf_13_0, ↓mf_13_1, ↓mp_13_2, ↓mf_13_2, ↓mp_13_3, ↓mf_13_3, ↓mo_14, ↓mf_14_0, ↓mp_14_1, ↓mf_14_1, ↓mp_14_2, ↓mf_14_2, ↓mo_15, ↓mf_15_0, ↓mf_15_1, ↓mp_15_2, ↓mf_15_2, ↓mo_16, ↓mf_16_0, ↓mo_18, ↓mf_18_0, ↓ma_3, ↓ms_3, ↓ma_5, ↓ms_5, ↓ma_8, ↓ms_8, ↓ma_10, ↓ms_10, ↓ma_12, ↓ms_12, ↓ma_17, ↓ms_17, ↓ma_19, ↓ms_19, ↓bnd_some, ↓cond_true, ↓m_pv_none, ↓m_pv_some, m_b01_0, m_b01_1, true_and, and_true, ↓y1, ↓n_ord (rgx_no hy), ↓reduceIte, eq_self, i_10]⟩
    | some o =>
      obtain ⟨hj, rfl⟩ := rgx_some hy (by decide)
      have y2 := fun K => y_ord (S := S) (M := mk c t) (inR_nI hj (by decide)) K
      cases hz : fux f with
      | none => exact ⟨c, h, fun K => by simp only [↓g60_0, ↓g60_1, ↓g60_4, ↓g60_7, ↓g60_8, ↓g60_9, ↓g60_10, ↓g60_13, ↓g60_16, ↓g60_17, ↓g60_20, ↓g60_23, ↓g60_25, ↓g60_26, ↓g60_27, ↓g60_30, ↓g60_33, ↓g60_34, ↓g60_37, ↓g60_38, ↓g60_39, ↓g60_40, ↓g60_43, ↓g60_44, ↓g60_45, ↓g60_48, ↓g60_51, ↓mo_0, ↓mf_0_0, ↓mf_0_1, ↓mf_0_2, ↓mf_0_3, ↓mf_0_4, ↓mo_1, ↓mf_1_0, ↓mf_1_1, ↓mo_2, ↓mf_2_0, ↓mo_4, ↓mf_4_0, ↓mo_6, ↓mf_6_0, ↓mf_6_1, ↓mf_6_2, ↓mf_6_3, ↓mp_6_4, ↓mf_6_4, ↓mp_6_5, ↓mf_6_5, ↓mo_7, ↓mf_7_0, ↓mo_9, ↓mf_9_0, ↓mo_11, ↓mf_11_0, ↓mo_13, ↓mf_13_0, ↓mf_13_1, ↓mp_13_2, ↓mf_13_2, ↓mp_13_3, ↓mf_13_3, ↓mo_14, ↓mf_14_0, ↓mp_14_1, ↓mf_14_1, ↓mp_14_2, ↓mf_14_2, ↓mo_15, ↓mf_15_0, ↓mf_15_1, ↓mp_15_2, ↓mf_15_2, ↓mo_16, ↓mf_16_0, ↓mo_18, ↓mf_18_0, ↓ma_3, ↓ms_3, ↓ma_5, ↓ms_5, ↓ma_8, ↓ms_8, ↓ma_10, ↓ms_10, ↓ma_12, ↓ms_12, ↓ma_17, ↓ms_17, ↓ma_19, ↓ms_19, ↓bnd_some, ↓cond_true, ↓m_pv_none, ↓m_pv_some, m_b01_0, m_b01_1, true_and, and_true, ↓y1, ↓y2, ↓n_fuel (fux_no hz), ↓reduceIte, eq_self, i_10]⟩
      | some n =>
        obtain ⟨f1, f2, rfl⟩ := fux_some hz
        have y3 := fun K => y_fuel (S := S) (M := mk c t) ⟨nI_le (a := 1) f1 (by omega), nI_le (b := 200) f2 (by decide)⟩ K
        obtain ⟨T, nx, h1⟩ := h
        have hk := ho.reg hi
        obtain ⟨c2, T2, nx2, h3, s3, g3⟩ := h_keep (S := S) (t := t) h1 ho
        have e2 : T2 i = σ.1 i := h3.at hi
        obtain ⟨c3, T3, h4, t4, s4, m4, -, g4⟩ := w_steps (S := S) (t := t) (v := i) (o := o) (n := n) (by omega) hj f2 h3.1 (by rw [e2]; exact hk)
        rw [e2] at t4 m4 g4
        have h5 := h3.reg hi h4 (fun j hj => t4 j (by omega)) s4 (by simp) (by simp) (by simp)
        refine ⟨c3, ⟨_, _, h5⟩, fun K => ?_⟩
        simp only [↓g60_0, ↓g60_1, ↓g60_4, ↓g60_7, ↓g60_8, ↓g60_9, ↓g60_10, ↓g60_13, ↓g60_16, ↓g60_17, ↓g60_20, ↓g60_23, ↓g60_25, ↓g60_26, ↓g60_27, ↓g60_30, ↓g60_33, ↓g60_34, ↓g60_37, ↓g60_38, ↓g60_39, ↓g60_40, ↓g60_43, ↓g60_44, ↓g60_45, ↓g60_48, ↓g60_51, ↓g13_0, ↓g13_1, ↓g13_4, ↓mo_0, ↓mf_0_0, ↓mf_0_1, ↓mf_0_2, ↓mf_0_3, ↓mf_0_4, ↓mo_1, ↓mf_1_0, ↓mf_1_1, ↓mo_2, ↓mf_2_0, ↓mo_4, ↓mf_4_0, ↓mo_6, ↓mf_6_0, ↓mf_6_1, ↓mf_6_2, ↓mf_6_3, ↓mp_6_4, ↓mf_6_4, ↓mp_6_5, ↓mf_6_5, ↓mo_7, ↓mf_7_0, ↓mo_9, ↓mf_9_0, ↓mo_11, ↓mf_11_0, ↓mo_13, ↓mf_13_0, ↓mf_13_1, ↓mp_13_2, ↓mf_13_2, ↓mp_13_3, ↓mf_13_3, ↓mo_14, ↓mf_14_0, ↓mp_14_1, ↓mf_14_1, ↓mp_14_2, ↓mf_14_2, ↓mo_15, ↓mf_15_0, ↓mf_15_1, ↓mp_15_2, ↓mf_15_2, ↓mo_16, ↓mf_16_0, ↓mo_18, ↓mf_18_0, ↓ma_3, ↓ms_3, ↓ma_5, ↓ms_5, ↓ma_8, ↓ms_8, ↓ma_10, ↓ms_10, ↓ma_12, ↓ms_12, ↓ma_17, ↓ms_17, ↓ma_19, ↓ms_19, ↓bnd_some, ↓cond_true, ↓m_pv_none, ↓m_pv_some, m_b01_0, m_b01_1, true_and, and_true, ↓y1, ↓y2, ↓y3, ↓g3, ↓g4, m4, ↓reduceIte, eq_self, i_10]
end CALLS
