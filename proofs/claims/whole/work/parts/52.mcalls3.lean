/-! the model's calls, on: what there is -/
theorem win_m {x : Int32} {m : Nat} (hm : m < 2 ^ 30) : (0 ≤ x ∧ x ≤ nI m - 1) ↔ (0 ≤ x ∧ x < nI m) := by
  refine and_congr_right fun h0 => ?_
  rw [Int32.lt_iff_toInt_lt, Int32.le_iff_toInt_le, l_1, pk_sub_toInt hm (by decide), nI_toInt (by omega)]
  omega
theorem cm_inj {l l' : Tm} (hk : Tok l) (hk' : Tok l') {p : Nat} (hp : p < l.length) (hp' : p < l'.length) : (nI (cm (pt l p)) = nI (cm (pt l' p))) ↔ pt l p = pt l' p := by
  have a1 := hk.1.kd hp
  have a2 := nu_lt hk.1 hp hk.2
  have a3 := hk'.1.kd hp'
  have a4 := nu_lt hk'.1 hp' hk'.2
  rw [nI_eq (by show 1000 * kd l p + nu l p < _; omega) (by show 1000 * kd l' p + nu l' p < _; omega)]
  constructor
  · intro z
    have z : 1000 * kd l p + nu l p = 1000 * kd l' p + nu l' p := z
    exact Prod.ext (show kd l p = kd l' p by omega) (show nu l p = nu l' p by omega)
  · intro z
    rw [z]
theorem tm_eq {l l' : Tm} (hl : l.length = l'.length) (h : ∀ p, p < l.length → pt l p = pt l' p) : l = l' := by
  apply List.ext_getElem?
  intro p
  by_cases hpl : p < l.length
  · have h1 := h p hpl
    have h2 : p < l'.length := by omega
    unfold pt at h1
    simp only [List.getD_eq_getElem?_getD, List.getElem?_eq_getElem hpl, List.getElem?_eq_getElem h2, Option.getD_some] at h1 ⊢
    rw [h1]
  · rw [List.getElem?_eq_none (by omega), List.getElem?_eq_none (by omega)]
section MC3
variable {S : mS} {c d : Nat → Nat → Int32} {σ : Sg}
theorem M_of (h : MI d σ) (ho : SOk σ) (x w : Int32) : MC S 114 [.ref 20, .int x, .int w] d c (F_of σ x w) := by
  unfold F_of
  cases hx : rgx x 6 with
  | none => exact ⟨d, h, fun K => by simp only [↓g114_0, ↓g114_1, ↓g114_4, ↓g114_7, ↓g114_8, ↓g114_9, ↓g114_10, ↓g114_11, ↓g114_14, ↓g114_15, ↓g114_72, ↓g114_73, ↓g114_76, ↓g114_77, ↓g114_78, ↓g114_79, ↓g114_82, ↓g114_83, ↓g114_84, ↓g114_85, ↓g114_88, ↓g114_89, ↓g114_90, ↓g114_91, ↓g114_94, ↓g114_95, ↓g114_96, ↓g114_97, ↓g114_100, ↓g114_101, ↓g114_102, ↓g114_105, ↓g114_106, ↓g114_107, ↓g114_110, ↓g114_111, ↓g114_112, ↓g114_113, ↓g114_115, ↓g114_116, ↓g114_119, ↓g114_120, ↓g114_121, ↓g114_124, ↓g114_125, ↓g114_127, ↓mo_20, ↓mf_20_0, ↓mf_20_1, ↓mp_20_2, ↓mf_20_2, ↓mf_20_3, ↓mf_20_4, ↓mf_20_5, ↓mp_20_6, ↓mf_20_6, ↓mf_20_7, ↓mp_20_8, ↓mf_20_8, ↓mf_20_9, ↓mf_20_10, ↓mp_20_11, ↓mf_20_11, ↓mf_20_12, ↓mf_20_13, ↓mp_20_14, ↓mf_20_14, ↓mf_20_15, ↓mp_20_16, ↓mf_20_16, ↓ma_21, ↓ms_21, ↓ma_22, ↓ms_22, ↓ma_23, ↓ms_23, ↓ma_24, ↓ms_24, ↓ma_25, ↓ms_25, ↓ma_26, ↓ms_26, ↓ma_27, ↓ms_27, ↓ma_28, ↓ms_28, ↓ma_29, ↓ms_29, ↓ma_30, ↓ms_30, ↓ma_31, ↓ms_31, ↓bnd_some, ↓cond_true, ↓m_pv_none, ↓m_pv_some, m_b01_0, m_b01_1, true_and, and_true, eq_self, ↓z_reg _ hx, ↓reduceIte]⟩
  | some i =>
    obtain ⟨hi, rfl⟩ := rgx_some hx (by decide)
    have hT := ho.reg hi
    obtain ⟨d2, r2, v2, m2, g2⟩ := n_load (S := S) (c := c) h.1 hi hT
    have h2 := h.mx m2 (by simp) (by simp) (by simp) (by simp) (by simp) (by simp) (by simp)
    cases hy : rgx w 11 with
    | none =>
      have n0 : ¬ w = 0 := rgx_ne hy (i := 0) (by decide) (by decide)
      have n1 : ¬ w = 1 := rgx_ne hy (i := 1) (by decide) (by decide)
      have n2 : ¬ w = 2 := rgx_ne hy (i := 2) (by decide) (by decide)
      have n3 : ¬ w = 3 := rgx_ne hy (i := 3) (by decide) (by decide)
      have n4 : ¬ w = 4 := rgx_ne hy (i := 4) (by decide) (by decide)
      have n5 : ¬ w = 5 := rgx_ne hy (i := 5) (by decide) (by decide)
      have n6 : ¬ w = 6 := rgx_ne hy (i := 6) (by decide) (by decide)
      have n7 : ¬ w = 7 := rgx_ne hy (i := 7) (by decide) (by decide)
      have n8 : ¬ w = 8 := rgx_ne hy (i := 8) (by decide) (by decide)
      have n9 : ¬ w = 9 := rgx_ne hy (i := 9) (by decide) (by decide)
      have n10 : ¬ w = 10 := rgx_ne hy (i := 10) (by decide) (by decide)
      refine ⟨d2, h2, fun K => ?_⟩
      simp only [↓g114_0, ↓g114_1, ↓g114_4, ↓g114_7, ↓g114_8, ↓g114_9, ↓g114_10, ↓g114_11, ↓g114_14, ↓g114_15, ↓g114_72, ↓g114_73, ↓g114_76, ↓g114_77, ↓g114_78, ↓g114_79, ↓g114_82, ↓g114_83, ↓g114_84, ↓g114_85, ↓g114_88, ↓g114_89, ↓g114_90, ↓g114_91, ↓g114_94, ↓g114_95, ↓g114_96, ↓g114_97, ↓g114_100, ↓g114_101, ↓g114_102, ↓g114_105, ↓g114_106, ↓g114_107, ↓g114_110, ↓g114_111, ↓g114_112, ↓g114_113, ↓g114_115, ↓g114_116, ↓g114_119, ↓g114_120, ↓g114_121, ↓g114_124, ↓g114_125, ↓g114_127, ↓mo_20, ↓mf_20_0, ↓mf_20_1, ↓mp_20_2, ↓mf_20_2, ↓mf_20_3, ↓mf_20_4, ↓mf_20_5, ↓mp_20_6, ↓mf_20_6, ↓mf_20_7, ↓mp_20_8, ↓mf_20_8, ↓mf_20_9, ↓mf_20_10, ↓mp_20_11, ↓mf_20_11, ↓mf_20_12, ↓mf_20_13, ↓mp_20_14, ↓mf_20_14, ↓mf_20_15, ↓mp_20_16, ↓mf_20_16, ↓ma_21, ↓ms_21, ↓ma_22, ↓ms_22, ↓ma_23, ↓ms_23, ↓ma_24, ↓ms_24, ↓ma_25, ↓ms_25, ↓ma_26, ↓ms_26, ↓ma_27, ↓ms_27, ↓ma_28, ↓ms_28, ↓ma_29, ↓ms_29, ↓ma_30, ↓ms_30, ↓ma_31, ↓ms_31, ↓bnd_some, ↓cond_true, ↓m_pv_none, ↓m_pv_some, m_b01_0, m_b01_1, true_and, and_true, eq_self, ↓o_reg _ hi, i_10, ↓g2, n0, n1, n2, n3, n4, n5, n6, n7, n8, n9, n10, ↓reduceIte]
    | some k =>
      obtain ⟨hk, rfl⟩ := rgx_some hy (by decide)
      have a1 := fun K => n_ofKind (S := S) (c := c) r2 hT (q := 2) (by omega) K (x := 2)
      have a2 := fun K => n_ofKind (S := S) (c := c) r2 hT (q := 3) (by omega) K (x := 3)
      have a3 := fun K => n_ofKind (S := S) (c := c) r2 hT (q := 0) (by omega) K (x := 0)
      have a4 := fun K => n_ofKind (S := S) (c := c) r2 hT (q := 1) (by omega) K (x := 1)
      have a5 := fun K => n_deep (S := S) (c := c) r2 v2 hT K
      have a6 := fun K => n_reds (S := S) (c := c) r2 hT K
      have a10 := fun K => n_great (S := S) (c := c) r2 hT K
      have f0 : (nI k = 0) = (k = 0) := propext (nI_eq (b := 0) (by omega) (by decide))
      have f1 : (nI k = 1) = (k = 1) := propext (nI_eq (b := 1) (by omega) (by decide))
      have f2 : (nI k = 2) = (k = 2) := propext (nI_eq (b := 2) (by omega) (by decide))
      have f3 : (nI k = 3) = (k = 3) := propext (nI_eq (b := 3) (by omega) (by decide))
      have f4 : (nI k = 4) = (k = 4) := propext (nI_eq (b := 4) (by omega) (by decide))
      have f5 : (nI k = 5) = (k = 5) := propext (nI_eq (b := 5) (by omega) (by decide))
      have f6 : (nI k = 6) = (k = 6) := propext (nI_eq (b := 6) (by omega) (by decide))
      have f7 : (nI k = 7) = (k = 7) := propext (nI_eq (b := 7) (by omega) (by decide))
      have f8 : (nI k = 8) = (k = 8) := propext (nI_eq (b := 8) (by omega) (by decide))
      have f9 : (nI k = 9) = (k = 9) := propext (nI_eq (b := 9) (by omega) (by decide))
      have f10 : (nI k = 10) = (k = 10) := propext (nI_eq (b := 10) (by omega) (by decide))
      refine ⟨d2, h2, fun K => ?_⟩
      by_cases hb : 7 ≤ k ∧ k ≤ 9
      · have a7 := fun K => n_next (S := S) (c := c) r2 v2 hT (o := k - 7) (by omega) K (x := nI k - 7) (by rw [show (7 : Int32) = nI 7 from rfl, pk_sub hb.1])
        simp only [↓g114_0, ↓g114_1, ↓g114_4, ↓g114_7, ↓g114_8, ↓g114_9, ↓g114_10, ↓g114_11, ↓g114_14, ↓g114_15, ↓g114_72, ↓g114_73, ↓g114_76, ↓g114_77, ↓g114_78, ↓g114_79, ↓g114_82, ↓g114_83, ↓g114_84, ↓g114_85, ↓g114_88, ↓g114_89, ↓g114_90, ↓g114_91, ↓g114_94, ↓g114_95, ↓g114_96, ↓g114_97, ↓g114_100, ↓g114_101, ↓g114_102, ↓g114_105, ↓g114_106, ↓g114_107, ↓g114_110, ↓g114_111, ↓g114_112, ↓g114_113, ↓g114_115, ↓g114_116, ↓g114_119, ↓g114_120, ↓g114_121, ↓g114_124, ↓g114_125, ↓g114_127, ↓mo_20, ↓mf_20_0, ↓mf_20_1, ↓mp_20_2, ↓mf_20_2, ↓mf_20_3, ↓mf_20_4, ↓mf_20_5, ↓mp_20_6, ↓mf_20_6, ↓mf_20_7, ↓mp_20_8, ↓mf_20_8, ↓mf_20_9, ↓mf_20_10, ↓mp_20_11, ↓mf_20_11, ↓mf_20_12, ↓mf_20_13, ↓mp_20_14, ↓mf_20_14, ↓mf_20_15, ↓mp_20_16, ↓mf_20_16, ↓ma_21, ↓ms_21, ↓ma_22, ↓ms_22, ↓ma_23, ↓ms_23, ↓ma_24, ↓ms_24, ↓ma_25, ↓ms_25, ↓ma_26, ↓ms_26, ↓ma_27, ↓ms_27, ↓ma_28, ↓ms_28, ↓ma_29, ↓ms_29, ↓ma_30, ↓ms_30, ↓ma_31, ↓ms_31, ↓bnd_some, ↓cond_true, ↓m_pv_none, ↓m_pv_some, m_b01_0, m_b01_1, true_and, and_true, eq_self, ↓o_reg _ hi, i_10, ↓g2, r2.1, f0, f1, f2, f3, f4, f5, f6, f7, f8, f9, f10, ↓a1, ↓a2, ↓a3, ↓a4, ↓a5, ↓a6, ↓a7, ↓a10, ↓reduceIte]
        clear a7 f0 f1 f2 f3 f4 f5 f6 f7 f8 f9 f10 hy
        obtain ⟨b1, b2⟩ := hb
        match k, hk, b1, b2 with
        | 7, _, _, _ => rfl
        | 8, _, _, _ => rfl
        | 9, _, _, _ => rfl
      · simp only [↓g114_0, ↓g114_1, ↓g114_4, ↓g114_7, ↓g114_8, ↓g114_9, ↓g114_10, ↓g114_11, ↓g114_14, ↓g114_15, ↓g114_72, ↓g114_73, ↓g114_76, ↓g114_77, ↓g114_78, ↓g114_79, ↓g114_82, ↓g114_83, ↓g114_84, ↓g114_85, ↓g114_88, ↓g114_89, ↓g114_90, ↓g114_91, ↓g114_94, ↓g114_95, ↓g114_96, ↓g114_97, ↓g114_100, ↓g114_101, ↓g114_102, ↓g114_105, ↓g114_106, ↓g114_107, ↓g114_110, ↓g114_111, ↓g114_112, ↓g114_113, ↓g114_115, ↓g114_116, ↓g114_119, ↓g114_120, ↓g114_121, ↓g114_124, ↓g114_125, ↓g114_127, ↓mo_20, ↓mf_20_0, ↓mf_20_1, ↓mp_20_2, ↓mf_20_2, ↓mf_20_3, ↓mf_20_4, ↓mf_20_5, ↓mp_20_6, ↓mf_20_6, ↓mf_20_7, ↓mp_20_8, ↓mf_20_8, ↓mf_20_9, ↓mf_20_10, ↓mp_20_11, ↓mf_20_11, ↓mf_20_12, ↓mf_20_13, ↓mp_20_14, ↓mf_20_14, ↓mf_20_15, ↓mp_20_16, ↓mf_20_16, ↓ma_21, ↓ms_21, ↓ma_22, ↓ms_22, ↓ma_23, ↓ms_23, ↓ma_24, ↓ms_24, ↓ma_25, ↓ms_25, ↓ma_26, ↓ms_26, ↓ma_27, ↓ms_27, ↓ma_28, ↓ms_28, ↓ma_29, ↓ms_29, ↓ma_30, ↓ms_30, ↓ma_31, ↓ms_31, ↓bnd_some, ↓cond_true, ↓m_pv_none, ↓m_pv_some, m_b01_0, m_b01_1, true_and, and_true, eq_self, ↓o_reg _ hi, i_10, ↓g2, r2.1, f0, f1, f2, f3, f4, f5, f6, f7, f8, f9, f10, ↓a1, ↓a2, ↓a3, ↓a4, ↓a5, ↓a6, ↓a10, ↓reduceIte]
        clear f0 f1 f2 f3 f4 f5 f6 f7 f8 f9 f10 hy
        match k, hk, hb with
        | 0, _, _ => rfl
        | 1, _, _ => rfl
        | 2, _, _ => rfl
        | 3, _, _ => rfl
        | 4, _, _ => rfl
        | 5, _, _ => rfl
        | 6, _, _ => rfl
        | 10, _, _ => rfl
theorem M_part (h : MI d σ) (ho : SOk σ) (x p w : Int32) : MC S 116 [.ref 20, .int x, .int p, .int w] d c (F_part σ x p w) := by
  unfold F_part
  cases hx : rgx x 6 with
  | none => exact ⟨d, h, fun K => by simp only [↓g116_0, ↓g116_1, ↓g116_4, ↓g116_7, ↓g116_8, ↓g116_9, ↓g116_10, ↓g116_13, ↓g116_14, ↓g116_15, ↓g116_16, ↓g116_17, ↓g116_20, ↓g116_23, ↓g116_24, ↓g116_25, ↓g116_26, ↓g116_27, ↓g116_30, ↓g116_31, ↓g116_64, ↓g116_65, ↓g116_66, ↓g116_69, ↓g116_70, ↓g116_71, ↓g116_72, ↓g116_75, ↓g116_76, ↓g116_77, ↓g116_80, ↓g116_81, ↓g116_82, ↓g116_83, ↓g116_84, ↓g116_85, ↓g116_88, ↓g116_89, ↓g116_90, ↓g116_91, ↓g116_94, ↓g116_97, ↓g116_98, ↓g116_99, ↓g116_102, ↓g116_105, ↓g116_107, ↓g116_108, ↓g116_110, ↓mo_20, ↓mf_20_0, ↓mf_20_1, ↓mp_20_2, ↓mf_20_2, ↓mf_20_3, ↓mf_20_4, ↓mf_20_5, ↓mp_20_6, ↓mf_20_6, ↓mf_20_7, ↓mp_20_8, ↓mf_20_8, ↓mf_20_9, ↓mf_20_10, ↓mp_20_11, ↓mf_20_11, ↓mf_20_12, ↓mf_20_13, ↓mp_20_14, ↓mf_20_14, ↓mf_20_15, ↓mp_20_16, ↓mf_20_16, ↓ma_21, ↓ms_21, ↓ma_22, ↓ms_22, ↓ma_23, ↓ms_23, ↓ma_24, ↓ms_24, ↓ma_25, ↓ms_25, ↓ma_26, ↓ms_26, ↓ma_27, ↓ms_27, ↓ma_28, ↓ms_28, ↓ma_29, ↓ms_29, ↓ma_30, ↓ms_30, ↓ma_31, ↓ms_31, ↓bnd_some, ↓cond_true, ↓m_pv_none, ↓m_pv_some, m_b01_0, m_b01_1, true_and, and_true, eq_self, ↓z_reg _ hx, ↓reduceIte]⟩
  | some i =>
    obtain ⟨hi, rfl⟩ := rgx_some hx (by decide)
    have hT := ho.reg hi
    have hl := hT.2
    have i1 := ib (show i < 1206 by omega)
    have i2 := nI_clamp (show i < 2 ^ 31 by omega)
    have l1 : d 1 i = nI (σ.1 i).length := by have := (h.1 i hi).1; rw [Nat.zero_add] at this; exact this
    have gw := fun M K => n_within (S := S) M p 0 (nI (σ.1 i).length - 1) K
    have hw := win_m (x := p) (m := (σ.1 i).length) (by omega)
    dsimp only
    cases hp : rgx p (σ.1 i).length with
    | none =>
      have hn : ¬ (0 ≤ p ∧ p ≤ nI (σ.1 i).length - 1) := fun z => rgx_no hp (hw.mp z)
      simp only [if_neg hn] at gw
      refine ⟨d, h, fun K => ?_⟩
      simp only [↓g116_0, ↓g116_1, ↓g116_4, ↓g116_7, ↓g116_8, ↓g116_9, ↓g116_10, ↓g116_13, ↓g116_14, ↓g116_15, ↓g116_16, ↓g116_17, ↓g116_20, ↓g116_23, ↓g116_24, ↓g116_25, ↓g116_26, ↓g116_27, ↓g116_30, ↓g116_31, ↓g116_64, ↓g116_65, ↓g116_66, ↓g116_69, ↓g116_70, ↓g116_71, ↓g116_72, ↓g116_75, ↓g116_76, ↓g116_77, ↓g116_80, ↓g116_81, ↓g116_82, ↓g116_83, ↓g116_84, ↓g116_85, ↓g116_88, ↓g116_89, ↓g116_90, ↓g116_91, ↓g116_94, ↓g116_97, ↓g116_98, ↓g116_99, ↓g116_102, ↓g116_105, ↓g116_107, ↓g116_108, ↓g116_110, ↓mo_20, ↓mf_20_0, ↓mf_20_1, ↓mp_20_2, ↓mf_20_2, ↓mf_20_3, ↓mf_20_4, ↓mf_20_5, ↓mp_20_6, ↓mf_20_6, ↓mf_20_7, ↓mp_20_8, ↓mf_20_8, ↓mf_20_9, ↓mf_20_10, ↓mp_20_11, ↓mf_20_11, ↓mf_20_12, ↓mf_20_13, ↓mp_20_14, ↓mf_20_14, ↓mf_20_15, ↓mp_20_16, ↓mf_20_16, ↓ma_21, ↓ms_21, ↓ma_22, ↓ms_22, ↓ma_23, ↓ms_23, ↓ma_24, ↓ms_24, ↓ma_25, ↓ms_25, ↓ma_26, ↓ms_26, ↓ma_27, ↓ms_27, ↓ma_28, ↓ms_28, ↓ma_29, ↓ms_29, ↓ma_30, ↓ms_30, ↓ma_31, ↓ms_31, ↓bnd_some, ↓cond_true, ↓m_pv_none, ↓m_pv_some, m_b01_0, m_b01_1, true_and, and_true, eq_self, ↓o_reg _ hi, i_10, i1, i2, l1, ↓gw, ↓reduceIte]
    | some p =>
      obtain ⟨hpl, rfl⟩ := rgx_some hp (by omega)
      have hn : (0 ≤ nI p ∧ nI p ≤ nI (σ.1 i).length - 1) := hw.mpr ⟨nI_pos' (by omega), nI_lt hpl (by omega)⟩
      simp only [if_pos hn] at gw
      obtain ⟨d2, r2, v2, m2, g2⟩ := n_load (S := S) (c := c) h.1 hi hT
      have h2 := h.mx m2 (by simp) (by simp) (by simp) (by simp) (by simp) (by simp) (by simp)
      cases hy : rgx w 5 with
      | none =>
        have n0 : ¬ w = 0 := rgx_ne hy (i := 0) (by decide) (by decide)
        have n1 : ¬ w = 1 := rgx_ne hy (i := 1) (by decide) (by decide)
        have n2 : ¬ w = 2 := rgx_ne hy (i := 2) (by decide) (by decide)
        have n3 : ¬ w = 3 := rgx_ne hy (i := 3) (by decide) (by decide)
        have n4 : ¬ w = 4 := rgx_ne hy (i := 4) (by decide) (by decide)
        refine ⟨d2, h2, fun K => ?_⟩
        simp only [↓g116_0, ↓g116_1, ↓g116_4, ↓g116_7, ↓g116_8, ↓g116_9, ↓g116_10, ↓g116_13, ↓g116_14, ↓g116_15, ↓g116_16, ↓g116_17, ↓g116_20, ↓g116_23, ↓g116_24, ↓g116_25, ↓g116_26, ↓g116_27, ↓g116_30, ↓g116_31, ↓g116_64, ↓g116_65, ↓g116_66, ↓g116_69, ↓g116_70, ↓g116_71, ↓g116_72, ↓g116_75, ↓g116_76, ↓g116_77, ↓g116_80, ↓g116_81, ↓g116_82, ↓g116_83, ↓g116_84, ↓g116_85, ↓g116_88, ↓g116_89, ↓g116_90, ↓g116_91, ↓g116_94, ↓g116_97, ↓g116_98, ↓g116_99, ↓g116_102, ↓g116_105, ↓g116_107, ↓g116_108, ↓g116_110, ↓mo_20, ↓mf_20_0, ↓mf_20_1, ↓mp_20_2, ↓mf_20_2, ↓mf_20_3, ↓mf_20_4, ↓mf_20_5, ↓mp_20_6, ↓mf_20_6, ↓mf_20_7, ↓mp_20_8, ↓mf_20_8, ↓mf_20_9, ↓mf_20_10, ↓mp_20_11, ↓mf_20_11, ↓mf_20_12, ↓mf_20_13, ↓mp_20_14, ↓mf_20_14, ↓mf_20_15, ↓mp_20_16, ↓mf_20_16, ↓ma_21, ↓ms_21, ↓ma_22, ↓ms_22, ↓ma_23, ↓ms_23, ↓ma_24, ↓ms_24, ↓ma_25, ↓ms_25, ↓ma_26, ↓ms_26, ↓ma_27, ↓ms_27, ↓ma_28, ↓ms_28, ↓ma_29, ↓ms_29, ↓ma_30, ↓ms_30, ↓ma_31, ↓ms_31, ↓bnd_some, ↓cond_true, ↓m_pv_none, ↓m_pv_some, m_b01_0, m_b01_1, true_and, and_true, eq_self, ↓o_reg _ hi, i_10, i1, i2, l1, ↓gw, ↓g2, n0, n1, n2, n3, n4, ↓reduceIte]
      | some k =>
        obtain ⟨hk, rfl⟩ := rgx_some hy (by decide)
        have hkd := hT.1.kd hpl
        have a0 := fun K => n_kind (S := S) (c := c) r2 hT hpl K
        have a1 := fun K => n_number (S := S) (c := c) r2 hT hpl K
        have a2 := v2 p hpl
        have a3 := fun K => n_end (S := S) (c := c) r2 hT hpl K
        have e2 : (nI (kd (σ.1 i) p) = 0) ↔ kd (σ.1 i) p = 0 := nI_eq (b := 0) (by omega) (by decide)
        have i3 := ib (show p < 200 by omega)
        have i4 := nI_clamp (show p < 2 ^ 31 by omega)
        have f0 : (nI k = 0) = (k = 0) := propext (nI_eq (b := 0) (by omega) (by decide))
        have f1 : (nI k = 1) = (k = 1) := propext (nI_eq (b := 1) (by omega) (by decide))
        have f2 : (nI k = 2) = (k = 2) := propext (nI_eq (b := 2) (by omega) (by decide))
        have f3 : (nI k = 3) = (k = 3) := propext (nI_eq (b := 3) (by omega) (by decide))
        have f4 : (nI k = 4) = (k = 4) := propext (nI_eq (b := 4) (by omega) (by decide))
        refine ⟨d2, h2, fun K => ?_⟩
        by_cases z : kd (σ.1 i) p = 0
        · have a4 := fun K => n_bind (S := S) (c := c) r2 hT hpl z K
          simp only [↓g116_0, ↓g116_1, ↓g116_4, ↓g116_7, ↓g116_8, ↓g116_9, ↓g116_10, ↓g116_13, ↓g116_14, ↓g116_15, ↓g116_16, ↓g116_17, ↓g116_20, ↓g116_23, ↓g116_24, ↓g116_25, ↓g116_26, ↓g116_27, ↓g116_30, ↓g116_31, ↓g116_64, ↓g116_65, ↓g116_66, ↓g116_69, ↓g116_70, ↓g116_71, ↓g116_72, ↓g116_75, ↓g116_76, ↓g116_77, ↓g116_80, ↓g116_81, ↓g116_82, ↓g116_83, ↓g116_84, ↓g116_85, ↓g116_88, ↓g116_89, ↓g116_90, ↓g116_91, ↓g116_94, ↓g116_97, ↓g116_98, ↓g116_99, ↓g116_102, ↓g116_105, ↓g116_107, ↓g116_108, ↓g116_110, ↓mo_20, ↓mf_20_0, ↓mf_20_1, ↓mp_20_2, ↓mf_20_2, ↓mf_20_3, ↓mf_20_4, ↓mf_20_5, ↓mp_20_6, ↓mf_20_6, ↓mf_20_7, ↓mp_20_8, ↓mf_20_8, ↓mf_20_9, ↓mf_20_10, ↓mp_20_11, ↓mf_20_11, ↓mf_20_12, ↓mf_20_13, ↓mp_20_14, ↓mf_20_14, ↓mf_20_15, ↓mp_20_16, ↓mf_20_16, ↓ma_21, ↓ms_21, ↓ma_22, ↓ms_22, ↓ma_23, ↓ms_23, ↓ma_24, ↓ms_24, ↓ma_25, ↓ms_25, ↓ma_26, ↓ms_26, ↓ma_27, ↓ms_27, ↓ma_28, ↓ms_28, ↓ma_29, ↓ms_29, ↓ma_30, ↓ms_30, ↓ma_31, ↓ms_31, ↓bnd_some, ↓cond_true, ↓m_pv_none, ↓m_pv_some, m_b01_0, m_b01_1, true_and, and_true, eq_self, ↓o_reg _ hi, i_10, i1, i2, l1, ↓gw, ↓g2, f0, f1, f2, f3, f4, ↓a0, ↓a1, i3, i4, a2, ↓a3, e2, z, show (nI 0 = 0) = True from eq_true rfl, ↓a4, ↓reduceIte]
          clear f0 f1 f2 f3 f4 hy
          match k, hk with
          | 0, _ => dsimp only [prv]; rw [z]; rfl
          | 1, _ => rfl
          | 2, _ => rfl
          | 3, _ => rfl
          | 4, _ => rfl
        · have e5 : bndr (σ.1 i) p = -6 := if_neg z
          simp only [↓g116_0, ↓g116_1, ↓g116_4, ↓g116_7, ↓g116_8, ↓g116_9, ↓g116_10, ↓g116_13, ↓g116_14, ↓g116_15, ↓g116_16, ↓g116_17, ↓g116_20, ↓g116_23, ↓g116_24, ↓g116_25, ↓g116_26, ↓g116_27, ↓g116_30, ↓g116_31, ↓g116_64, ↓g116_65, ↓g116_66, ↓g116_69, ↓g116_70, ↓g116_71, ↓g116_72, ↓g116_75, ↓g116_76, ↓g116_77, ↓g116_80, ↓g116_81, ↓g116_82, ↓g116_83, ↓g116_84, ↓g116_85, ↓g116_88, ↓g116_89, ↓g116_90, ↓g116_91, ↓g116_94, ↓g116_97, ↓g116_98, ↓g116_99, ↓g116_102, ↓g116_105, ↓g116_107, ↓g116_108, ↓g116_110, ↓mo_20, ↓mf_20_0, ↓mf_20_1, ↓mp_20_2, ↓mf_20_2, ↓mf_20_3, ↓mf_20_4, ↓mf_20_5, ↓mp_20_6, ↓mf_20_6, ↓mf_20_7, ↓mp_20_8, ↓mf_20_8, ↓mf_20_9, ↓mf_20_10, ↓mp_20_11, ↓mf_20_11, ↓mf_20_12, ↓mf_20_13, ↓mp_20_14, ↓mf_20_14, ↓mf_20_15, ↓mp_20_16, ↓mf_20_16, ↓ma_21, ↓ms_21, ↓ma_22, ↓ms_22, ↓ma_23, ↓ms_23, ↓ma_24, ↓ms_24, ↓ma_25, ↓ms_25, ↓ma_26, ↓ms_26, ↓ma_27, ↓ms_27, ↓ma_28, ↓ms_28, ↓ma_29, ↓ms_29, ↓ma_30, ↓ms_30, ↓ma_31, ↓ms_31, ↓bnd_some, ↓cond_true, ↓m_pv_none, ↓m_pv_some, m_b01_0, m_b01_1, true_and, and_true, eq_self, ↓o_reg _ hi, i_10, i1, i2, l1, ↓gw, ↓g2, f0, f1, f2, f3, f4, ↓a0, ↓a1, i3, i4, a2, ↓a3, e2, z, ↓reduceIte]
          clear f0 f1 f2 f3 f4 hy
          match k, hk with
          | 0, _ => rfl
          | 1, _ => rfl
          | 2, _ => rfl
          | 3, _ => rfl
          | 4, _ => dsimp only [prv]; rw [e5]; rfl
theorem M_named (h : MI d σ) (ho : SOk σ) (x p : Int32) : MC S 120 [.ref 20, .int x, .int p] d c (F_named σ x p) := by
  unfold F_named
  cases hx : rgx x 6 with
  | none => exact ⟨d, h, fun K => by simp only [↓g120_0, ↓g120_1, ↓g120_4, ↓g120_7, ↓g120_8, ↓g120_9, ↓g120_10, ↓g120_11, ↓g120_14, ↓g120_15, ↓g120_18, ↓g120_19, ↓g120_20, ↓g120_21, ↓g120_24, ↓g120_25, ↓g120_26, ↓g120_29, ↓g120_32, ↓g120_33, ↓g120_36, ↓g120_37, ↓g120_38, ↓g120_41, ↓g120_42, ↓mo_20, ↓mf_20_0, ↓mf_20_1, ↓mp_20_2, ↓mf_20_2, ↓mf_20_3, ↓mf_20_4, ↓mf_20_5, ↓mp_20_6, ↓mf_20_6, ↓mf_20_7, ↓mp_20_8, ↓mf_20_8, ↓mf_20_9, ↓mf_20_10, ↓mp_20_11, ↓mf_20_11, ↓mf_20_12, ↓mf_20_13, ↓mp_20_14, ↓mf_20_14, ↓mf_20_15, ↓mp_20_16, ↓mf_20_16, ↓ma_21, ↓ms_21, ↓ma_22, ↓ms_22, ↓ma_23, ↓ms_23, ↓ma_24, ↓ms_24, ↓ma_25, ↓ms_25, ↓ma_26, ↓ms_26, ↓ma_27, ↓ms_27, ↓ma_28, ↓ms_28, ↓ma_29, ↓ms_29, ↓ma_30, ↓ms_30, ↓ma_31, ↓ms_31, ↓bnd_some, ↓cond_true, ↓m_pv_none, ↓m_pv_some, m_b01_0, m_b01_1, true_and, and_true, eq_self, ↓z_reg _ hx, ↓reduceIte]⟩
  | some i =>
    obtain ⟨hi, rfl⟩ := rgx_some hx (by decide)
    have hT := ho.reg hi
    have hl := hT.2
    have htl := txt_len (σ.1 i) (σ.1 i).length
    obtain ⟨d2, r2, v2, m2, g2⟩ := n_load (S := S) (c := c) h.1 hi hT
    obtain ⟨d3, t3, m3, g3⟩ := n_print (S := S) (c := c) hT r2 v2
    have h2 := h.mx m2 (by simp) (by simp) (by simp) (by simp) (by simp) (by simp) (by simp)
    have h3 := h2.mx m3 (by simp) (by simp) (by simp) (by simp) (by simp) (by simp) (by simp)
    have gw := fun M K => n_within (S := S) M p 0 (nI (txt (σ.1 i) (σ.1 i).length).length - 1) K
    have hw := win_m (x := p) (m := (txt (σ.1 i) (σ.1 i).length).length) (by omega)
    refine ⟨d3, h3, fun K => ?_⟩
    dsimp only
    unfold chr
    by_cases hn : (0 ≤ p ∧ p ≤ nI (txt (σ.1 i) (σ.1 i).length).length - 1)
    · have hn2 := hw.mp hn
      obtain ⟨q, hq, rfl⟩ := inR_of (x := p) (n := (txt (σ.1 i) (σ.1 i).length).length) hn2 (by omega)
      simp only [if_pos hn] at gw
      rw [if_pos hn2]
      simp only [↓g120_0, ↓g120_1, ↓g120_4, ↓g120_7, ↓g120_8, ↓g120_9, ↓g120_10, ↓g120_11, ↓g120_14, ↓g120_15, ↓g120_18, ↓g120_19, ↓g120_20, ↓g120_21, ↓g120_24, ↓g120_25, ↓g120_26, ↓g120_29, ↓g120_32, ↓g120_33, ↓g120_36, ↓g120_37, ↓g120_38, ↓g120_41, ↓g120_42, ↓mo_20, ↓mf_20_0, ↓mf_20_1, ↓mp_20_2, ↓mf_20_2, ↓mf_20_3, ↓mf_20_4, ↓mf_20_5, ↓mp_20_6, ↓mf_20_6, ↓mf_20_7, ↓mp_20_8, ↓mf_20_8, ↓mf_20_9, ↓mf_20_10, ↓mp_20_11, ↓mf_20_11, ↓mf_20_12, ↓mf_20_13, ↓mp_20_14, ↓mf_20_14, ↓mf_20_15, ↓mp_20_16, ↓mf_20_16, ↓ma_21, ↓ms_21, ↓ma_22, ↓ms_22, ↓ma_23, ↓ms_23, ↓ma_24, ↓ms_24, ↓ma_25, ↓ms_25, ↓ma_26, ↓ms_26, ↓ma_27, ↓ms_27, ↓ma_28, ↓ms_28, ↓ma_29, ↓ms_29, ↓ma_30, ↓ms_30, ↓ma_31, ↓ms_31, ↓bnd_some, ↓cond_true, ↓m_pv_none, ↓m_pv_some, m_b01_0, m_b01_1, true_and, and_true, eq_self, ↓o_reg _ hi, i_10, ↓g2, ↓g3, t3.1, ↓gw, ib (show q < 400 by omega), nI_clamp (show q < 2 ^ 31 by omega), t3.2 q hq, ↓reduceIte]
    · simp only [if_neg hn] at gw
      rw [if_neg (fun z => hn (hw.mpr z))]
      simp only [↓g120_0, ↓g120_1, ↓g120_4, ↓g120_7, ↓g120_8, ↓g120_9, ↓g120_10, ↓g120_11, ↓g120_14, ↓g120_15, ↓g120_18, ↓g120_19, ↓g120_20, ↓g120_21, ↓g120_24, ↓g120_25, ↓g120_26, ↓g120_29, ↓g120_32, ↓g120_33, ↓g120_36, ↓g120_37, ↓g120_38, ↓g120_41, ↓g120_42, ↓mo_20, ↓mf_20_0, ↓mf_20_1, ↓mp_20_2, ↓mf_20_2, ↓mf_20_3, ↓mf_20_4, ↓mf_20_5, ↓mp_20_6, ↓mf_20_6, ↓mf_20_7, ↓mp_20_8, ↓mf_20_8, ↓mf_20_9, ↓mf_20_10, ↓mp_20_11, ↓mf_20_11, ↓mf_20_12, ↓mf_20_13, ↓mp_20_14, ↓mf_20_14, ↓mf_20_15, ↓mp_20_16, ↓mf_20_16, ↓ma_21, ↓ms_21, ↓ma_22, ↓ms_22, ↓ma_23, ↓ms_23, ↓ma_24, ↓ms_24, ↓ma_25, ↓ms_25, ↓ma_26, ↓ms_26, ↓ma_27, ↓ms_27, ↓ma_28, ↓ms_28, ↓ma_29, ↓ms_29, ↓ma_30, ↓ms_30, ↓ma_31, ↓ms_31, ↓bnd_some, ↓cond_true, ↓m_pv_none, ↓m_pv_some, m_b01_0, m_b01_1, true_and, and_true, eq_self, ↓o_reg _ hi, i_10, ↓g2, ↓g3, t3.1, ↓gw, ↓reduceIte]
theorem n_sameL (h : MI d σ) (ho : SOk σ) {i j : Nat} (hi : i < 6) (hj : j < 6) (hl : (σ.1 i).length = (σ.1 j).length) : ∀ (n k : Nat), n + k = (σ.1 i).length → (∀ p, p < k → pt (σ.1 i) p = pt (σ.1 j) p) → ∀ K : Option Value → mM → Prop, go S 121 40 [.ref 20, .int (nI i), .int (nI j), .int 1, .int (nI k)] [] (mk c (md d)) K = K (some (.int (if σ.1 i = σ.1 j then 1 else 0))) (mk c (md d))
  | 0, k, hk, hp, K => by
    have e : k = (σ.1 i).length := by omega
    subst e
    have e1 : σ.1 i = σ.1 j := tm_eq hl hp
    have l1 : d 1 i = nI (σ.1 i).length := by have := (h.1 i hi).1; rw [Nat.zero_add] at this; exact this
    rw [g121_40, if_pos e1]
    simp only [↓g121_0, ↓g121_1, ↓g121_4, ↓g121_7, ↓g121_8, ↓g121_11, ↓g121_14, ↓g121_15, ↓g121_16, ↓g121_17, ↓g121_20, ↓g121_21, ↓g121_22, ↓g121_23, ↓g121_26, ↓g121_27, ↓g121_28, ↓g121_31, ↓g121_32, ↓g121_35, ↓g121_36, ↓g121_37, ↓g121_38, ↓g121_42, ↓g121_43, ↓g121_46, ↓g121_47, ↓g121_48, ↓g121_51, ↓g121_52, ↓g121_55, ↓g121_56, ↓g121_59, ↓g121_61, ↓g121_64, ↓g121_65, ↓g121_66, ↓g121_67, ↓g121_69, ↓g121_70, ↓g121_71, ↓g121_72, ↓g121_75, ↓g121_77, ↓g121_80, ↓g121_81, ↓g121_82, ↓g121_83, ↓g121_85, ↓g121_86, ↓g121_87, ↓g121_90, ↓g121_91, ↓g121_94, ↓g121_95, ↓g121_96, ↓g121_99, ↓g121_102, ↓g121_103, ↓g121_106, ↓g121_107, ↓g121_110, ↓g121_111, ↓mo_20, ↓mf_20_0, ↓mf_20_1, ↓mp_20_2, ↓mf_20_2, ↓mf_20_3, ↓mf_20_4, ↓mf_20_5, ↓mp_20_6, ↓mf_20_6, ↓mf_20_7, ↓mp_20_8, ↓mf_20_8, ↓mf_20_9, ↓mf_20_10, ↓mp_20_11, ↓mf_20_11, ↓mf_20_12, ↓mf_20_13, ↓mp_20_14, ↓mf_20_14, ↓mf_20_15, ↓mp_20_16, ↓mf_20_16, ↓ma_21, ↓ms_21, ↓ma_22, ↓ms_22, ↓ma_23, ↓ms_23, ↓ma_24, ↓ms_24, ↓ma_25, ↓ms_25, ↓ma_26, ↓ms_26, ↓ma_27, ↓ms_27, ↓ma_28, ↓ms_28, ↓ma_29, ↓ms_29, ↓ma_30, ↓ms_30, ↓ma_31, ↓ms_31, ↓bnd_some, ↓cond_true, ↓m_pv_none, ↓m_pv_some, m_b01_0, m_b01_1, true_and, and_true, eq_self, ib (show i < 1206 by omega), nI_clamp (show i < 2 ^ 31 by omega), l1, Int32.le_refl, i_10, ↓reduceIte]
  | n + 1, k, hk, hp, K => by
    have hb := (ho.reg hi).2
    have hki : k < (σ.1 i).length := by omega
    have hkj : k < (σ.1 j).length := by omega
    have l1 : d 1 i = nI (σ.1 i).length := by have := (h.1 i hi).1; rw [Nat.zero_add] at this; exact this
    have p1 : d 1 (6 + 200 * i + k) = nI (cm (pt (σ.1 i) k)) := by have := (h.1 i hi).2 k hki; rw [Nat.zero_add] at this; exact this
    have p2 : d 1 (6 + 200 * j + k) = nI (cm (pt (σ.1 j) k)) := by have := (h.1 j hj).2 k hkj; rw [Nat.zero_add] at this; exact this
    have e4 : ¬ nI (σ.1 i).length ≤ nI k := nI_ge (by omega) (by omega)
    have x1 : (6 : Int32) + 200 * nI i + nI k = nI (6 + 200 * i + k) := by rw [l_6, l_200, pk_mul, nI_add, nI_add]
    have x2 : (6 : Int32) + 200 * nI j + nI k = nI (6 + 200 * j + k) := by rw [l_6, l_200, pk_mul, nI_add, nI_add]
    have e7 := cm_inj (ho.reg hi) (ho.reg hj) hki hkj
    rw [g121_40]
    by_cases e8 : pt (σ.1 i) k = pt (σ.1 j) k
    · simp only [↓g121_0, ↓g121_1, ↓g121_4, ↓g121_7, ↓g121_8, ↓g121_11, ↓g121_14, ↓g121_15, ↓g121_16, ↓g121_17, ↓g121_20, ↓g121_21, ↓g121_22, ↓g121_23, ↓g121_26, ↓g121_27, ↓g121_28, ↓g121_31, ↓g121_32, ↓g121_35, ↓g121_36, ↓g121_37, ↓g121_38, ↓g121_42, ↓g121_43, ↓g121_46, ↓g121_47, ↓g121_48, ↓g121_51, ↓g121_52, ↓g121_55, ↓g121_56, ↓g121_59, ↓g121_61, ↓g121_64, ↓g121_65, ↓g121_66, ↓g121_67, ↓g121_69, ↓g121_70, ↓g121_71, ↓g121_72, ↓g121_75, ↓g121_77, ↓g121_80, ↓g121_81, ↓g121_82, ↓g121_83, ↓g121_85, ↓g121_86, ↓g121_87, ↓g121_90, ↓g121_91, ↓g121_94, ↓g121_95, ↓g121_96, ↓g121_99, ↓g121_102, ↓g121_103, ↓g121_106, ↓g121_107, ↓g121_110, ↓g121_111, ↓mo_20, ↓mf_20_0, ↓mf_20_1, ↓mp_20_2, ↓mf_20_2, ↓mf_20_3, ↓mf_20_4, ↓mf_20_5, ↓mp_20_6, ↓mf_20_6, ↓mf_20_7, ↓mp_20_8, ↓mf_20_8, ↓mf_20_9, ↓mf_20_10, ↓mp_20_11, ↓mf_20_11, ↓mf_20_12, ↓mf_20_13, ↓mp_20_14, ↓mf_20_14, ↓mf_20_15, ↓mp_20_16, ↓mf_20_16, ↓ma_21, ↓ms_21, ↓ma_22, ↓ms_22, ↓ma_23, ↓ms_23, ↓ma_24, ↓ms_24, ↓ma_25, ↓ms_25, ↓ma_26, ↓ms_26, ↓ma_27, ↓ms_27, ↓ma_28, ↓ms_28, ↓ma_29, ↓ms_29, ↓ma_30, ↓ms_30, ↓ma_31, ↓ms_31, ↓bnd_some, ↓cond_true, ↓m_pv_none, ↓m_pv_some, m_b01_0, m_b01_1, true_and, and_true, eq_self, ib (show i < 1206 by omega), nI_clamp (show i < 2 ^ 31 by omega), l1, e4, i_10, x1, x2, ib (show 6 + 200 * i + k < 1206 by omega), nI_clamp (show 6 + 200 * i + k < 2 ^ 31 by omega), ib (show 6 + 200 * j + k < 1206 by omega), nI_clamp (show 6 + 200 * j + k < 2 ^ 31 by omega), p1, p2, e7.mpr e8, nI_1, ↓reduceIte]
      exact n_sameL h ho hi hj hl n (k + 1) (by omega) (fun p hpk => by
        rcases Nat.lt_or_eq_of_le (Nat.le_of_lt_succ hpk) with z | z
        · exact hp p z
        · rw [z]; exact e8) K
    · simp only [↓g121_0, ↓g121_1, ↓g121_4, ↓g121_7, ↓g121_8, ↓g121_11, ↓g121_14, ↓g121_15, ↓g121_16, ↓g121_17, ↓g121_20, ↓g121_21, ↓g121_22, ↓g121_23, ↓g121_26, ↓g121_27, ↓g121_28, ↓g121_31, ↓g121_32, ↓g121_35, ↓g121_36, ↓g121_37, ↓g121_38, ↓g121_42, ↓g121_43, ↓g121_46, ↓g121_47, ↓g121_48, ↓g121_51, ↓g121_52, ↓g121_55, ↓g121_56, ↓g121_59, ↓g121_61, ↓g121_64, ↓g121_65, ↓g121_66, ↓g121_67, ↓g121_69, ↓g121_70, ↓g121_71, ↓g121_72, ↓g121_75, ↓g121_77, ↓g121_80, ↓g121_81, ↓g121_82, ↓g121_83, ↓g121_85, ↓g121_86, ↓g121_87, ↓g121_90, ↓g121_91, ↓g121_94, ↓g121_95, ↓g121_96, ↓g121_99, ↓g121_102, ↓g121_103, ↓g121_106, ↓g121_107, ↓g121_110, ↓g121_111, ↓mo_20, ↓mf_20_0, ↓mf_20_1, ↓mp_20_2, ↓mf_20_2, ↓mf_20_3, ↓mf_20_4, ↓mf_20_5, ↓mp_20_6, ↓mf_20_6, ↓mf_20_7, ↓mp_20_8, ↓mf_20_8, ↓mf_20_9, ↓mf_20_10, ↓mp_20_11, ↓mf_20_11, ↓mf_20_12, ↓mf_20_13, ↓mp_20_14, ↓mf_20_14, ↓mf_20_15, ↓mp_20_16, ↓mf_20_16, ↓ma_21, ↓ms_21, ↓ma_22, ↓ms_22, ↓ma_23, ↓ms_23, ↓ma_24, ↓ms_24, ↓ma_25, ↓ms_25, ↓ma_26, ↓ms_26, ↓ma_27, ↓ms_27, ↓ma_28, ↓ms_28, ↓ma_29, ↓ms_29, ↓ma_30, ↓ms_30, ↓ma_31, ↓ms_31, ↓bnd_some, ↓cond_true, ↓m_pv_none, ↓m_pv_some, m_b01_0, m_b01_1, true_and, and_true, eq_self, ib (show i < 1206 by omega), nI_clamp (show i < 2 ^ 31 by omega), l1, e4, i_10, x1, x2, ib (show 6 + 200 * i + k < 1206 by omega), nI_clamp (show 6 + 200 * i + k < 2 ^ 31 by omega), ib (show 6 + 200 * j + k < 1206 by omega), nI_clamp (show 6 + 200 * j + k < 2 ^ 31 by omega), p1, p2, e7, e8, nI_1, ↓reduceIte]
      rw [if_neg (fun z => e8 (by rw [z])), g121_40]
      by_cases e9 : nI (σ.1 i).length ≤ nI (k + 1)
      · simp only [↓g121_0, ↓g121_1, ↓g121_4, ↓g121_7, ↓g121_8, ↓g121_11, ↓g121_14, ↓g121_15, ↓g121_16, ↓g121_17, ↓g121_20, ↓g121_21, ↓g121_22, ↓g121_23, ↓g121_26, ↓g121_27, ↓g121_28, ↓g121_31, ↓g121_32, ↓g121_35, ↓g121_36, ↓g121_37, ↓g121_38, ↓g121_42, ↓g121_43, ↓g121_46, ↓g121_47, ↓g121_48, ↓g121_51, ↓g121_52, ↓g121_55, ↓g121_56, ↓g121_59, ↓g121_61, ↓g121_64, ↓g121_65, ↓g121_66, ↓g121_67, ↓g121_69, ↓g121_70, ↓g121_71, ↓g121_72, ↓g121_75, ↓g121_77, ↓g121_80, ↓g121_81, ↓g121_82, ↓g121_83, ↓g121_85, ↓g121_86, ↓g121_87, ↓g121_90, ↓g121_91, ↓g121_94, ↓g121_95, ↓g121_96, ↓g121_99, ↓g121_102, ↓g121_103, ↓g121_106, ↓g121_107, ↓g121_110, ↓g121_111, ↓mo_20, ↓mf_20_0, ↓mf_20_1, ↓mp_20_2, ↓mf_20_2, ↓mf_20_3, ↓mf_20_4, ↓mf_20_5, ↓mp_20_6, ↓mf_20_6, ↓mf_20_7, ↓mp_20_8, ↓mf_20_8, ↓mf_20_9, ↓mf_20_10, ↓mp_20_11, ↓mf_20_11, ↓mf_20_12, ↓mf_20_13, ↓mp_20_14, ↓mf_20_14, ↓mf_20_15, ↓mp_20_16, ↓mf_20_16, ↓ma_21, ↓ms_21, ↓ma_22, ↓ms_22, ↓ma_23, ↓ms_23, ↓ma_24, ↓ms_24, ↓ma_25, ↓ms_25, ↓ma_26, ↓ms_26, ↓ma_27, ↓ms_27, ↓ma_28, ↓ms_28, ↓ma_29, ↓ms_29, ↓ma_30, ↓ms_30, ↓ma_31, ↓ms_31, ↓bnd_some, ↓cond_true, ↓m_pv_none, ↓m_pv_some, m_b01_0, m_b01_1, true_and, and_true, eq_self, ib (show i < 1206 by omega), nI_clamp (show i < 2 ^ 31 by omega), l1, e9, ↓reduceIte]
      · simp only [↓g121_0, ↓g121_1, ↓g121_4, ↓g121_7, ↓g121_8, ↓g121_11, ↓g121_14, ↓g121_15, ↓g121_16, ↓g121_17, ↓g121_20, ↓g121_21, ↓g121_22, ↓g121_23, ↓g121_26, ↓g121_27, ↓g121_28, ↓g121_31, ↓g121_32, ↓g121_35, ↓g121_36, ↓g121_37, ↓g121_38, ↓g121_42, ↓g121_43, ↓g121_46, ↓g121_47, ↓g121_48, ↓g121_51, ↓g121_52, ↓g121_55, ↓g121_56, ↓g121_59, ↓g121_61, ↓g121_64, ↓g121_65, ↓g121_66, ↓g121_67, ↓g121_69, ↓g121_70, ↓g121_71, ↓g121_72, ↓g121_75, ↓g121_77, ↓g121_80, ↓g121_81, ↓g121_82, ↓g121_83, ↓g121_85, ↓g121_86, ↓g121_87, ↓g121_90, ↓g121_91, ↓g121_94, ↓g121_95, ↓g121_96, ↓g121_99, ↓g121_102, ↓g121_103, ↓g121_106, ↓g121_107, ↓g121_110, ↓g121_111, ↓mo_20, ↓mf_20_0, ↓mf_20_1, ↓mp_20_2, ↓mf_20_2, ↓mf_20_3, ↓mf_20_4, ↓mf_20_5, ↓mp_20_6, ↓mf_20_6, ↓mf_20_7, ↓mp_20_8, ↓mf_20_8, ↓mf_20_9, ↓mf_20_10, ↓mp_20_11, ↓mf_20_11, ↓mf_20_12, ↓mf_20_13, ↓mp_20_14, ↓mf_20_14, ↓mf_20_15, ↓mp_20_16, ↓mf_20_16, ↓ma_21, ↓ms_21, ↓ma_22, ↓ms_22, ↓ma_23, ↓ms_23, ↓ma_24, ↓ms_24, ↓ma_25, ↓ms_25, ↓ma_26, ↓ms_26, ↓ma_27, ↓ms_27, ↓ma_28, ↓ms_28, ↓ma_29, ↓ms_29, ↓ma_30, ↓ms_30, ↓ma_31, ↓ms_31, ↓bnd_some, ↓cond_true, ↓m_pv_none, ↓m_pv_some, m_b01_0, m_b01_1, true_and, and_true, eq_self, ib (show i < 1206 by omega), nI_clamp (show i < 2 ^ 31 by omega), l1, e9, ↓reduceIte]
theorem M_same (h : MI d σ) (ho : SOk σ) (x y : Int32) : MC S 121 [.ref 20, .int x, .int y, .null, .null] d c (F_same σ x y) := by
  unfold F_same
  cases hx : rgx x 6 with
  | none => exact ⟨d, h, fun K => by simp only [↓g121_0, ↓g121_1, ↓g121_4, ↓g121_7, ↓g121_8, ↓g121_11, ↓g121_14, ↓g121_15, ↓g121_16, ↓g121_17, ↓g121_20, ↓g121_21, ↓g121_22, ↓g121_23, ↓g121_26, ↓g121_27, ↓g121_28, ↓g121_31, ↓g121_32, ↓g121_35, ↓g121_36, ↓g121_37, ↓g121_38, ↓g121_42, ↓g121_43, ↓g121_46, ↓g121_47, ↓g121_48, ↓g121_51, ↓g121_52, ↓g121_55, ↓g121_56, ↓g121_59, ↓g121_61, ↓g121_64, ↓g121_65, ↓g121_66, ↓g121_67, ↓g121_69, ↓g121_70, ↓g121_71, ↓g121_72, ↓g121_75, ↓g121_77, ↓g121_80, ↓g121_81, ↓g121_82, ↓g121_83, ↓g121_85, ↓g121_86, ↓g121_87, ↓g121_90, ↓g121_91, ↓g121_94, ↓g121_95, ↓g121_96, ↓g121_99, ↓g121_102, ↓g121_103, ↓g121_106, ↓g121_107, ↓g121_110, ↓g121_111, ↓mo_20, ↓mf_20_0, ↓mf_20_1, ↓mp_20_2, ↓mf_20_2, ↓mf_20_3, ↓mf_20_4, ↓mf_20_5, ↓mp_20_6, ↓mf_20_6, ↓mf_20_7, ↓mp_20_8, ↓mf_20_8, ↓mf_20_9, ↓mf_20_10, ↓mp_20_11, ↓mf_20_11, ↓mf_20_12, ↓mf_20_13, ↓mp_20_14, ↓mf_20_14, ↓mf_20_15, ↓mp_20_16, ↓mf_20_16, ↓ma_21, ↓ms_21, ↓ma_22, ↓ms_22, ↓ma_23, ↓ms_23, ↓ma_24, ↓ms_24, ↓ma_25, ↓ms_25, ↓ma_26, ↓ms_26, ↓ma_27, ↓ms_27, ↓ma_28, ↓ms_28, ↓ma_29, ↓ms_29, ↓ma_30, ↓ms_30, ↓ma_31, ↓ms_31, ↓bnd_some, ↓cond_true, ↓m_pv_none, ↓m_pv_some, m_b01_0, m_b01_1, true_and, and_true, eq_self, ↓z_reg _ hx, ↓reduceIte]⟩
  | some i =>
    obtain ⟨hi, rfl⟩ := rgx_some hx (by decide)
    cases hy : rgx y 6 with
    | none => exact ⟨d, h, fun K => by simp only [↓g121_0, ↓g121_1, ↓g121_4, ↓g121_7, ↓g121_8, ↓g121_11, ↓g121_14, ↓g121_15, ↓g121_16, ↓g121_17, ↓g121_20, ↓g121_21, ↓g121_22, ↓g121_23, ↓g121_26, ↓g121_27, ↓g121_28, ↓g121_31, ↓g121_32, ↓g121_35, ↓g121_36, ↓g121_37, ↓g121_38, ↓g121_42, ↓g121_43, ↓g121_46, ↓g121_47, ↓g121_48, ↓g121_51, ↓g121_52, ↓g121_55, ↓g121_56, ↓g121_59, ↓g121_61, ↓g121_64, ↓g121_65, ↓g121_66, ↓g121_67, ↓g121_69, ↓g121_70, ↓g121_71, ↓g121_72, ↓g121_75, ↓g121_77, ↓g121_80, ↓g121_81, ↓g121_82, ↓g121_83, ↓g121_85, ↓g121_86, ↓g121_87, ↓g121_90, ↓g121_91, ↓g121_94, ↓g121_95, ↓g121_96, ↓g121_99, ↓g121_102, ↓g121_103, ↓g121_106, ↓g121_107, ↓g121_110, ↓g121_111, ↓mo_20, ↓mf_20_0, ↓mf_20_1, ↓mp_20_2, ↓mf_20_2, ↓mf_20_3, ↓mf_20_4, ↓mf_20_5, ↓mp_20_6, ↓mf_20_6, ↓mf_20_7, ↓mp_20_8, ↓mf_20_8, ↓mf_20_9, ↓mf_20_10, ↓mp_20_11, ↓mf_20_11, ↓mf_20_12, ↓mf_20_13, ↓mp_20_14, ↓mf_20_14, ↓mf_20_15, ↓mp_20_16, ↓mf_20_16, ↓ma_21, ↓ms_21, ↓ma_22, ↓ms_22, ↓ma_23, ↓ms_23, ↓ma_24, ↓ms_24, ↓ma_25, ↓ms_25, ↓ma_26, ↓ms_26, ↓ma_27, ↓ms_27, ↓ma_28, ↓ms_28, ↓ma_29, ↓ms_29, ↓ma_30, ↓ms_30, ↓ma_31, ↓ms_31, ↓bnd_some, ↓cond_true, ↓m_pv_none, ↓m_pv_some, m_b01_0, m_b01_1, true_and, and_true, eq_self, ↓o_reg _ hi, ↓z_reg _ hy, i_10, ↓reduceIte]⟩
    | some j =>
      obtain ⟨hj, rfl⟩ := rgx_some hy (by decide)
      have hb := (ho.reg hi).2
      have hb2 := (ho.reg hj).2
      have hpos := (ho.reg hi).pos
      have l1 : d 1 i = nI (σ.1 i).length := by have := (h.1 i hi).1; rw [Nat.zero_add] at this; exact this
      have l2 : d 1 j = nI (σ.1 j).length := by have := (h.1 j hj).1; rw [Nat.zero_add] at this; exact this
      have e1 : (nI (σ.1 i).length = nI (σ.1 j).length) ↔ (σ.1 i).length = (σ.1 j).length := nI_eq (by omega) (by omega)
      have i1 := ib (show i < 1206 by omega)
      have i2 := nI_clamp (show i < 2 ^ 31 by omega)
      have i3 := ib (show j < 1206 by omega)
      have i4 := nI_clamp (show j < 2 ^ 31 by omega)
      refine ⟨d, h, fun K => ?_⟩
      dsimp only
      by_cases e : (σ.1 i).length = (σ.1 j).length
      · have g := n_sameL (S := S) (c := c) h ho hi hj e (σ.1 i).length 0 rfl (fun p hp => absurd hp (Nat.not_lt_zero p)) K
        simp only [↓g121_0, ↓g121_1, ↓g121_4, ↓g121_7, ↓g121_8, ↓g121_11, ↓g121_14, ↓g121_15, ↓g121_16, ↓g121_17, ↓g121_20, ↓g121_21, ↓g121_22, ↓g121_23, ↓g121_26, ↓g121_27, ↓g121_28, ↓g121_31, ↓g121_32, ↓g121_35, ↓g121_36, ↓g121_37, ↓g121_38, ↓g121_42, ↓g121_43, ↓g121_46, ↓g121_47, ↓g121_48, ↓g121_51, ↓g121_52, ↓g121_55, ↓g121_56, ↓g121_59, ↓g121_61, ↓g121_64, ↓g121_65, ↓g121_66, ↓g121_67, ↓g121_69, ↓g121_70, ↓g121_71, ↓g121_72, ↓g121_75, ↓g121_77, ↓g121_80, ↓g121_81, ↓g121_82, ↓g121_83, ↓g121_85, ↓g121_86, ↓g121_87, ↓g121_90, ↓g121_91, ↓g121_94, ↓g121_95, ↓g121_96, ↓g121_99, ↓g121_102, ↓g121_103, ↓g121_106, ↓g121_107, ↓g121_110, ↓g121_111, ↓mo_20, ↓mf_20_0, ↓mf_20_1, ↓mp_20_2, ↓mf_20_2, ↓mf_20_3, ↓mf_20_4, ↓mf_20_5, ↓mp_20_6, ↓mf_20_6, ↓mf_20_7, ↓mp_20_8, ↓mf_20_8, ↓mf_20_9, ↓mf_20_10, ↓mp_20_11, ↓mf_20_11, ↓mf_20_12, ↓mf_20_13, ↓mp_20_14, ↓mf_20_14, ↓mf_20_15, ↓mp_20_16, ↓mf_20_16, ↓ma_21, ↓ms_21, ↓ma_22, ↓ms_22, ↓ma_23, ↓ms_23, ↓ma_24, ↓ms_24, ↓ma_25, ↓ms_25, ↓ma_26, ↓ms_26, ↓ma_27, ↓ms_27, ↓ma_28, ↓ms_28, ↓ma_29, ↓ms_29, ↓ma_30, ↓ms_30, ↓ma_31, ↓ms_31, ↓bnd_some, ↓cond_true, ↓m_pv_none, ↓m_pv_some, m_b01_0, m_b01_1, true_and, and_true, eq_self, ↓o_reg _ hi, ↓o_reg _ hj, i_10, i1, i2, i3, i4, l1, l2, e1.mpr e, ↓reduceIte]
        exact g
      · have e5 : ¬ nI (σ.1 i).length ≤ 0 := nI_gt0 hpos (by omega)
        rw [if_neg (fun z => e (by rw [z]))]
        simp only [↓g121_0, ↓g121_1, ↓g121_4, ↓g121_7, ↓g121_8, ↓g121_11, ↓g121_14, ↓g121_15, ↓g121_16, ↓g121_17, ↓g121_20, ↓g121_21, ↓g121_22, ↓g121_23, ↓g121_26, ↓g121_27, ↓g121_28, ↓g121_31, ↓g121_32, ↓g121_35, ↓g121_36, ↓g121_37, ↓g121_38, ↓g121_42, ↓g121_43, ↓g121_46, ↓g121_47, ↓g121_48, ↓g121_51, ↓g121_52, ↓g121_55, ↓g121_56, ↓g121_59, ↓g121_61, ↓g121_64, ↓g121_65, ↓g121_66, ↓g121_67, ↓g121_69, ↓g121_70, ↓g121_71, ↓g121_72, ↓g121_75, ↓g121_77, ↓g121_80, ↓g121_81, ↓g121_82, ↓g121_83, ↓g121_85, ↓g121_86, ↓g121_87, ↓g121_90, ↓g121_91, ↓g121_94, ↓g121_95, ↓g121_96, ↓g121_99, ↓g121_102, ↓g121_103, ↓g121_106, ↓g121_107, ↓g121_110, ↓g121_111, ↓mo_20, ↓mf_20_0, ↓mf_20_1, ↓mp_20_2, ↓mf_20_2, ↓mf_20_3, ↓mf_20_4, ↓mf_20_5, ↓mp_20_6, ↓mf_20_6, ↓mf_20_7, ↓mp_20_8, ↓mf_20_8, ↓mf_20_9, ↓mf_20_10, ↓mp_20_11, ↓mf_20_11, ↓mf_20_12, ↓mf_20_13, ↓mp_20_14, ↓mf_20_14, ↓mf_20_15, ↓mp_20_16, ↓mf_20_16, ↓ma_21, ↓ms_21, ↓ma_22, ↓ms_22, ↓ma_23, ↓ms_23, ↓ma_24, ↓ms_24, ↓ma_25, ↓ms_25, ↓ma_26, ↓ms_26, ↓ma_27, ↓ms_27, ↓ma_28, ↓ms_28, ↓ma_29, ↓ms_29, ↓ma_30, ↓ms_30, ↓ma_31, ↓ms_31, ↓bnd_some, ↓cond_true, ↓m_pv_none, ↓m_pv_some, m_b01_0, m_b01_1, true_and, and_true, eq_self, ↓o_reg _ hi, ↓o_reg _ hj, i_10, i1, i2, i3, i4, l1, l2, e1, e, ↓reduceIte]
        rw [g121_40]
        simp only [↓g121_0, ↓g121_1, ↓g121_4, ↓g121_7, ↓g121_8, ↓g121_11, ↓g121_14, ↓g121_15, ↓g121_16, ↓g121_17, ↓g121_20, ↓g121_21, ↓g121_22, ↓g121_23, ↓g121_26, ↓g121_27, ↓g121_28, ↓g121_31, ↓g121_32, ↓g121_35, ↓g121_36, ↓g121_37, ↓g121_38, ↓g121_42, ↓g121_43, ↓g121_46, ↓g121_47, ↓g121_48, ↓g121_51, ↓g121_52, ↓g121_55, ↓g121_56, ↓g121_59, ↓g121_61, ↓g121_64, ↓g121_65, ↓g121_66, ↓g121_67, ↓g121_69, ↓g121_70, ↓g121_71, ↓g121_72, ↓g121_75, ↓g121_77, ↓g121_80, ↓g121_81, ↓g121_82, ↓g121_83, ↓g121_85, ↓g121_86, ↓g121_87, ↓g121_90, ↓g121_91, ↓g121_94, ↓g121_95, ↓g121_96, ↓g121_99, ↓g121_102, ↓g121_103, ↓g121_106, ↓g121_107, ↓g121_110, ↓g121_111, ↓mo_20, ↓mf_20_0, ↓mf_20_1, ↓mp_20_2, ↓mf_20_2, ↓mf_20_3, ↓mf_20_4, ↓mf_20_5, ↓mp_20_6, ↓mf_20_6, ↓mf_20_7, ↓mp_20_8, ↓mf_20_8, ↓mf_20_9, ↓mf_20_10, ↓mp_20_11, ↓mf_20_11, ↓mf_20_12, ↓mf_20_13, ↓mp_20_14, ↓mf_20_14, ↓mf_20_15, ↓mp_20_16, ↓mf_20_16, ↓ma_21, ↓ms_21, ↓ma_22, ↓ms_22, ↓ma_23, ↓ms_23, ↓ma_24, ↓ms_24, ↓ma_25, ↓ms_25, ↓ma_26, ↓ms_26, ↓ma_27, ↓ms_27, ↓ma_28, ↓ms_28, ↓ma_29, ↓ms_29, ↓ma_30, ↓ms_30, ↓ma_31, ↓ms_31, ↓bnd_some, ↓cond_true, ↓m_pv_none, ↓m_pv_some, m_b01_0, m_b01_1, true_and, and_true, eq_self, i1, i2, l1, e5, ↓reduceIte]
theorem n_allL {R : Nat → Tm} (h : SL (d 1) 0 R) : ∀ (n k : Nat), n + k = 6 → ∀ (K : Option Value → mM → Prop), go S 122 4 [.ref 20, .int (nI (sumF (fun r => (R r).length) k)), .int (nI k)] [] (mk c (md d)) K = K (some (.int (prs R))) (mk c (md d))
  | 0, k, hk, K => by
    have e : k = 6 := by omega
    subst e
    rw [g122_4]
    simp only [↓g122_0, ↓g122_1, ↓g122_2, ↓g122_3, ↓g122_5, ↓g122_7, ↓g122_10, ↓g122_11, ↓g122_12, ↓g122_15, ↓g122_16, ↓g122_17, ↓g122_18, ↓g122_19, ↓g122_22, ↓g122_25, ↓g122_26, show (6 : Int32) ≤ nI 6 from Int32.le_refl _, ↓reduceIte]
    rfl
  | n + 1, k, hk, K => by
    have e1 : ¬ (6 : Int32) ≤ nI k := nI_ge (b := 6) (by omega) (by decide)
    have l1 : d 1 k = nI (R k).length := by have := (h k (by omega)).1; rw [Nat.zero_add] at this; exact this
    have ih := n_allL h n (k + 1) (by omega) K
    rw [sumF] at ih
    rw [g122_4]
    simp only [↓g122_0, ↓g122_1, ↓g122_2, ↓g122_3, ↓g122_5, ↓g122_7, ↓g122_10, ↓g122_11, ↓g122_12, ↓g122_15, ↓g122_16, ↓g122_17, ↓g122_18, ↓g122_19, ↓g122_22, ↓g122_25, ↓g122_26, ↓mo_20, ↓mf_20_0, ↓mf_20_1, ↓mp_20_2, ↓mf_20_2, ↓mf_20_3, ↓mf_20_4, ↓mf_20_5, ↓mp_20_6, ↓mf_20_6, ↓mf_20_7, ↓mp_20_8, ↓mf_20_8, ↓mf_20_9, ↓mf_20_10, ↓mp_20_11, ↓mf_20_11, ↓mf_20_12, ↓mf_20_13, ↓mp_20_14, ↓mf_20_14, ↓mf_20_15, ↓mp_20_16, ↓mf_20_16, ↓ma_21, ↓ms_21, ↓ma_22, ↓ms_22, ↓ma_23, ↓ms_23, ↓ma_24, ↓ms_24, ↓ma_25, ↓ms_25, ↓ma_26, ↓ms_26, ↓ma_27, ↓ms_27, ↓ma_28, ↓ms_28, ↓ma_29, ↓ms_29, ↓ma_30, ↓ms_30, ↓ma_31, ↓ms_31, ↓bnd_some, ↓cond_true, ↓m_pv_none, ↓m_pv_some, m_b01_0, m_b01_1, true_and, and_true, eq_self, e1, ib (show k < 1206 by omega), nI_clamp (show k < 2 ^ 31 by omega), l1, nI_add, nI_1, ↓reduceIte]
    exact ih
theorem n_all {R : Nat → Tm} (h : SL (d 1) 0 R) (K : Option Value → mM → Prop) : go S 122 0 [.ref 20, .null, .null] [] (mk c (md d)) K = K (some (.int (prs R))) (mk c (md d)) := by
  have g := n_allL (S := S) (c := c) h 6 0 rfl K
  simp only [↓g122_0, ↓g122_1, ↓g122_2, ↓g122_3, ↓g122_5, ↓g122_7, ↓g122_10, ↓g122_11, ↓g122_12, ↓g122_15, ↓g122_16, ↓g122_17, ↓g122_18, ↓g122_19, ↓g122_22, ↓g122_25, ↓g122_26]
  exact g
theorem n_restL (ho : SOk σ) : ∀ (n k : Nat) (d : Nat → Nat → Int32), n + k = 6 → MI d σ → ∃ d', MI d' σ ∧ ∀ (K : Option Value → mM → Prop), go S 123 4 [.ref 20, .int (msk σ.1 k), .int (nI k)] [] (mk c (md d)) K = K (some (.int (msk σ.1 6))) (mk c (md d'))
  | 0, k, d, hk, h => by
    have e : k = 6 := by omega
    subst e
    refine ⟨d, h, fun K => ?_⟩
    rw [g123_4]
    simp only [↓g123_0, ↓g123_1, ↓g123_2, ↓g123_3, ↓g123_5, ↓g123_7, ↓g123_10, ↓g123_11, ↓g123_12, ↓g123_15, ↓g123_16, ↓g123_17, ↓g123_18, ↓g123_21, ↓g123_23, ↓g123_26, ↓g123_27, ↓g123_28, ↓g123_29, ↓g123_32, ↓g123_33, ↓g123_34, ↓g123_35, ↓g123_38, ↓g123_41, ↓g123_42, show (6 : Int32) ≤ nI 6 from Int32.le_refl _, ↓reduceIte]
  | n + 1, k, d, hk, h => by
    have hT := ho.reg (i := k) (by omega)
    have e1 : ¬ (6 : Int32) ≤ nI k := nI_ge (b := 6) (by omega) (by decide)
    obtain ⟨d2, r2, v2, m2, g2⟩ := n_load (S := S) (c := c) h.1 (i := k) (by omega) hT
    have h2 := h.mx m2 (by simp) (by simp) (by simp) (by simp) (by simp) (by simp) (by simp)
    have g3 := fun K => n_next (S := S) (c := c) r2 v2 hT (o := 0) (by omega) K (x := 0)
    have e2 := nbI_none (nxt_lt hT.2 (o := 0))
    obtain ⟨d3, h3, g4⟩ := n_restL ho n (k + 1) d2 (by omega) h2
    refine ⟨d3, h3, fun K => ?_⟩
    have g5 := g4 K
    rw [msk] at g5
    rw [g123_4]
    by_cases hn : nxt (σ.1 k) 0 = none
    · rw [if_pos hn] at g5
      simp only [↓g123_0, ↓g123_1, ↓g123_2, ↓g123_3, ↓g123_5, ↓g123_7, ↓g123_10, ↓g123_11, ↓g123_12, ↓g123_15, ↓g123_16, ↓g123_17, ↓g123_18, ↓g123_21, ↓g123_23, ↓g123_26, ↓g123_27, ↓g123_28, ↓g123_29, ↓g123_32, ↓g123_33, ↓g123_34, ↓g123_35, ↓g123_38, ↓g123_41, ↓g123_42, ↓mo_20, ↓mf_20_0, ↓mf_20_1, ↓mp_20_2, ↓mf_20_2, ↓mf_20_3, ↓mf_20_4, ↓mf_20_5, ↓mp_20_6, ↓mf_20_6, ↓mf_20_7, ↓mp_20_8, ↓mf_20_8, ↓mf_20_9, ↓mf_20_10, ↓mp_20_11, ↓mf_20_11, ↓mf_20_12, ↓mf_20_13, ↓mp_20_14, ↓mf_20_14, ↓mf_20_15, ↓mp_20_16, ↓mf_20_16, ↓ma_21, ↓ms_21, ↓ma_22, ↓ms_22, ↓ma_23, ↓ms_23, ↓ma_24, ↓ms_24, ↓ma_25, ↓ms_25, ↓ma_26, ↓ms_26, ↓ma_27, ↓ms_27, ↓ma_28, ↓ms_28, ↓ma_29, ↓ms_29, ↓ma_30, ↓ms_30, ↓ma_31, ↓ms_31, ↓bnd_some, ↓cond_true, ↓m_pv_none, ↓m_pv_some, m_b01_0, m_b01_1, true_and, and_true, eq_self, e1, ↓g2, ↓g3, e2, hn, show (nbI none = -6) = True from eq_true rfl, nI_1, ↓reduceIte]
      exact g5
    · rw [if_neg hn] at g5
      simp only [↓g123_0, ↓g123_1, ↓g123_2, ↓g123_3, ↓g123_5, ↓g123_7, ↓g123_10, ↓g123_11, ↓g123_12, ↓g123_15, ↓g123_16, ↓g123_17, ↓g123_18, ↓g123_21, ↓g123_23, ↓g123_26, ↓g123_27, ↓g123_28, ↓g123_29, ↓g123_32, ↓g123_33, ↓g123_34, ↓g123_35, ↓g123_38, ↓g123_41, ↓g123_42, ↓mo_20, ↓mf_20_0, ↓mf_20_1, ↓mp_20_2, ↓mf_20_2, ↓mf_20_3, ↓mf_20_4, ↓mf_20_5, ↓mp_20_6, ↓mf_20_6, ↓mf_20_7, ↓mp_20_8, ↓mf_20_8, ↓mf_20_9, ↓mf_20_10, ↓mp_20_11, ↓mf_20_11, ↓mf_20_12, ↓mf_20_13, ↓mp_20_14, ↓mf_20_14, ↓mf_20_15, ↓mp_20_16, ↓mf_20_16, ↓ma_21, ↓ms_21, ↓ma_22, ↓ms_22, ↓ma_23, ↓ms_23, ↓ma_24, ↓ms_24, ↓ma_25, ↓ms_25, ↓ma_26, ↓ms_26, ↓ma_27, ↓ms_27, ↓ma_28, ↓ms_28, ↓ma_29, ↓ms_29, ↓ma_30, ↓ms_30, ↓ma_31, ↓ms_31, ↓bnd_some, ↓cond_true, ↓m_pv_none, ↓m_pv_some, m_b01_0, m_b01_1, true_and, and_true, eq_self, e1, ↓g2, ↓g3, e2, hn, nI_1, Int32.or_zero, ↓reduceIte]
      exact g5
theorem M_count (h : MI d σ) (ho : SOk σ) (w : Int32) : MC S 124 [.ref 20, .int w] d c (F_count σ w) := by
  unfold F_count
  cases hy : rgx w 4 with
  | none =>
    have n0 : ¬ w = 0 := rgx_ne hy (i := 0) (by decide) (by decide)
    have n1 : ¬ w = 1 := rgx_ne hy (i := 1) (by decide) (by decide)
    have n2 : ¬ w = 2 := rgx_ne hy (i := 2) (by decide) (by decide)
    have n3 : ¬ w = 3 := rgx_ne hy (i := 3) (by decide) (by decide)
    exact ⟨d, h, fun K => by simp only [↓g124_0, ↓g124_1, ↓g124_32, ↓g124_33, ↓g124_36, ↓g124_37, ↓g124_38, ↓g124_41, ↓g124_42, ↓g124_43, ↓g124_46, ↓g124_47, ↓g124_48, ↓g124_51, ↓g124_52, ↓g124_54, ↓mo_20, ↓mf_20_0, ↓mf_20_1, ↓mp_20_2, ↓mf_20_2, ↓mf_20_3, ↓mf_20_4, ↓mf_20_5, ↓mp_20_6, ↓mf_20_6, ↓mf_20_7, ↓mp_20_8, ↓mf_20_8, ↓mf_20_9, ↓mf_20_10, ↓mp_20_11, ↓mf_20_11, ↓mf_20_12, ↓mf_20_13, ↓mp_20_14, ↓mf_20_14, ↓mf_20_15, ↓mp_20_16, ↓mf_20_16, ↓ma_21, ↓ms_21, ↓ma_22, ↓ms_22, ↓ma_23, ↓ms_23, ↓ma_24, ↓ms_24, ↓ma_25, ↓ms_25, ↓ma_26, ↓ms_26, ↓ma_27, ↓ms_27, ↓ma_28, ↓ms_28, ↓ma_29, ↓ms_29, ↓ma_30, ↓ms_30, ↓ma_31, ↓ms_31, ↓bnd_some, ↓cond_true, ↓m_pv_none, ↓m_pv_some, m_b01_0, m_b01_1, true_and, and_true, eq_self, n0, n1, n2, n3, ↓reduceIte]⟩
  | some k =>
    obtain ⟨hk, rfl⟩ := rgx_some hy (by decide)
    clear hy
    match k, hk with
    | 0, _ =>
      have a0 := fun K => n_all (S := S) (c := c) h.1 K
      refine ⟨d, h, fun K => ?_⟩
      simp only [↓g124_0, ↓g124_1, ↓g124_32, ↓g124_33, ↓g124_36, ↓g124_37, ↓g124_38, ↓g124_41, ↓g124_42, ↓g124_43, ↓g124_46, ↓g124_47, ↓g124_48, ↓g124_51, ↓g124_52, ↓g124_54, ↓mo_20, ↓mf_20_0, ↓mf_20_1, ↓mp_20_2, ↓mf_20_2, ↓mf_20_3, ↓mf_20_4, ↓mf_20_5, ↓mp_20_6, ↓mf_20_6, ↓mf_20_7, ↓mp_20_8, ↓mf_20_8, ↓mf_20_9, ↓mf_20_10, ↓mp_20_11, ↓mf_20_11, ↓mf_20_12, ↓mf_20_13, ↓mp_20_14, ↓mf_20_14, ↓mf_20_15, ↓mp_20_16, ↓mf_20_16, ↓ma_21, ↓ms_21, ↓ma_22, ↓ms_22, ↓ma_23, ↓ms_23, ↓ma_24, ↓ms_24, ↓ma_25, ↓ms_25, ↓ma_26, ↓ms_26, ↓ma_27, ↓ms_27, ↓ma_28, ↓ms_28, ↓ma_29, ↓ms_29, ↓ma_30, ↓ms_30, ↓ma_31, ↓ms_31, ↓bnd_some, ↓cond_true, ↓m_pv_none, ↓m_pv_some, m_b01_0, m_b01_1, true_and, and_true, eq_self, show (nI 0 = 0) = True from eq_true rfl, ↓a0, ↓reduceIte]
    | 1, _ =>
      obtain ⟨d1, h2, a0⟩ := n_restL (S := S) (c := c) ho 6 0 d rfl h
      have a1 : ∀ K, go S 123 0 [.ref 20, .null, .null] [] (mk c (md d)) K = K (some (.int (msk σ.1 6))) (mk c (md d1)) := fun K => by
        simp only [↓g123_0, ↓g123_1, ↓g123_2, ↓g123_3, ↓g123_5, ↓g123_7, ↓g123_10, ↓g123_11, ↓g123_12, ↓g123_15, ↓g123_16, ↓g123_17, ↓g123_18, ↓g123_21, ↓g123_23, ↓g123_26, ↓g123_27, ↓g123_28, ↓g123_29, ↓g123_32, ↓g123_33, ↓g123_34, ↓g123_35, ↓g123_38, ↓g123_41, ↓g123_42]
        exact a0 K
      refine ⟨d1, h2, fun K => ?_⟩
      simp only [↓g124_0, ↓g124_1, ↓g124_32, ↓g124_33, ↓g124_36, ↓g124_37, ↓g124_38, ↓g124_41, ↓g124_42, ↓g124_43, ↓g124_46, ↓g124_47, ↓g124_48, ↓g124_51, ↓g124_52, ↓g124_54, ↓mo_20, ↓mf_20_0, ↓mf_20_1, ↓mp_20_2, ↓mf_20_2, ↓mf_20_3, ↓mf_20_4, ↓mf_20_5, ↓mp_20_6, ↓mf_20_6, ↓mf_20_7, ↓mp_20_8, ↓mf_20_8, ↓mf_20_9, ↓mf_20_10, ↓mp_20_11, ↓mf_20_11, ↓mf_20_12, ↓mf_20_13, ↓mp_20_14, ↓mf_20_14, ↓mf_20_15, ↓mp_20_16, ↓mf_20_16, ↓ma_21, ↓ms_21, ↓ma_22, ↓ms_22, ↓ma_23, ↓ms_23, ↓ma_24, ↓ms_24, ↓ma_25, ↓ms_25, ↓ma_26, ↓ms_26, ↓ma_27, ↓ms_27, ↓ma_28, ↓ms_28, ↓ma_29, ↓ms_29, ↓ma_30, ↓ms_30, ↓ma_31, ↓ms_31, ↓bnd_some, ↓cond_true, ↓m_pv_none, ↓m_pv_some, m_b01_0, m_b01_1, true_and, and_true, eq_self, show (nI 1 = 0) = False from eq_false (by decide), show (nI 1 = 1) = True from eq_true rfl, ↓a1, ↓reduceIte]
    | 2, _ =>
      refine ⟨d, h, fun K => ?_⟩
      simp only [↓g124_0, ↓g124_1, ↓g124_32, ↓g124_33, ↓g124_36, ↓g124_37, ↓g124_38, ↓g124_41, ↓g124_42, ↓g124_43, ↓g124_46, ↓g124_47, ↓g124_48, ↓g124_51, ↓g124_52, ↓g124_54, ↓mo_20, ↓mf_20_0, ↓mf_20_1, ↓mp_20_2, ↓mf_20_2, ↓mf_20_3, ↓mf_20_4, ↓mf_20_5, ↓mp_20_6, ↓mf_20_6, ↓mf_20_7, ↓mp_20_8, ↓mf_20_8, ↓mf_20_9, ↓mf_20_10, ↓mp_20_11, ↓mf_20_11, ↓mf_20_12, ↓mf_20_13, ↓mp_20_14, ↓mf_20_14, ↓mf_20_15, ↓mp_20_16, ↓mf_20_16, ↓ma_21, ↓ms_21, ↓ma_22, ↓ms_22, ↓ma_23, ↓ms_23, ↓ma_24, ↓ms_24, ↓ma_25, ↓ms_25, ↓ma_26, ↓ms_26, ↓ma_27, ↓ms_27, ↓ma_28, ↓ms_28, ↓ma_29, ↓ms_29, ↓ma_30, ↓ms_30, ↓ma_31, ↓ms_31, ↓bnd_some, ↓cond_true, ↓m_pv_none, ↓m_pv_some, m_b01_0, m_b01_1, true_and, and_true, eq_self, show (nI 2 = 0) = False from eq_false (by decide), show (nI 2 = 1) = False from eq_false (by decide), show (nI 2 = 2) = True from eq_true rfl, h.2.2.2.1, ↓reduceIte]
    | 3, _ =>
      refine ⟨d, h, fun K => ?_⟩
      simp only [↓g124_0, ↓g124_1, ↓g124_32, ↓g124_33, ↓g124_36, ↓g124_37, ↓g124_38, ↓g124_41, ↓g124_42, ↓g124_43, ↓g124_46, ↓g124_47, ↓g124_48, ↓g124_51, ↓g124_52, ↓g124_54, ↓mo_20, ↓mf_20_0, ↓mf_20_1, ↓mp_20_2, ↓mf_20_2, ↓mf_20_3, ↓mf_20_4, ↓mf_20_5, ↓mp_20_6, ↓mf_20_6, ↓mf_20_7, ↓mp_20_8, ↓mf_20_8, ↓mf_20_9, ↓mf_20_10, ↓mp_20_11, ↓mf_20_11, ↓mf_20_12, ↓mf_20_13, ↓mp_20_14, ↓mf_20_14, ↓mf_20_15, ↓mp_20_16, ↓mf_20_16, ↓ma_21, ↓ms_21, ↓ma_22, ↓ms_22, ↓ma_23, ↓ms_23, ↓ma_24, ↓ms_24, ↓ma_25, ↓ms_25, ↓ma_26, ↓ms_26, ↓ma_27, ↓ms_27, ↓ma_28, ↓ms_28, ↓ma_29, ↓ms_29, ↓ma_30, ↓ms_30, ↓ma_31, ↓ms_31, ↓bnd_some, ↓cond_true, ↓m_pv_none, ↓m_pv_some, m_b01_0, m_b01_1, true_and, and_true, eq_self, show (nI 3 = 0) = False from eq_false (by decide), show (nI 3 = 1) = False from eq_false (by decide), show (nI 3 = 2) = False from eq_false (by decide), show (nI 3 = 3) = True from eq_true rfl, h.2.1.1, ↓reduceIte]
end MC3
