/-! the model: many steps; questions of a term -/
section MOD6
variable {S : mS} {c : Nat → Nat → Int32}
theorem n_onL {o : Nat} (ho : o < 3) {N : Nat} (hN : N ≤ 200) : ∀ (n s : Nat) (d : Nat → Nat → Int32) (l : Tm), n + s = N → RW d l → DV d l → Tok l → ∃ d', RW d' (rn o n l).2.2 ∧ DV d' (rn o n l).2.2 ∧ mx [6, 7, 8, 9] [8, 11] d d' ∧ ∀ (K : Option Value → mM → Prop) (j5 : Value), go S 102 5 [.ref 20, .int (nI o), .int (nI N), .int (nI s), .int 0, j5] [] (mk c (md d)) K = K (some (.int (if nxt (rn o n l).2.2 o = none then nI (s + (rn o n l).1) else -1 - nI (s + (rn o n l).1)))) (mk c (md d'))
  | 0, s, d, l, hn, h, hv, hk => by
    have e : s = N := by omega
    subst e
    have g1 := fun K => n_next (S := S) (c := c) h hv hk ho K
    have e2 := nbI_none (nxt_lt hk.2 (o := o))
    refine ⟨d, h, hv, mx_rf, fun K j5 => ?_⟩
    rw [g102_5]
    show _ = K (some (.int (if nxt l o = none then nI (s + 0) else -1 - nI (s + 0)))) _
    rw [Nat.add_zero]
    by_cases hz : nxt l o = none
    · simp only [↓g102_0, ↓g102_1, ↓g102_2, ↓g102_3, ↓g102_7, ↓g102_10, ↓g102_11, ↓g102_12, ↓g102_15, ↓g102_16, ↓g102_17, ↓g102_20, ↓g102_22, ↓g102_23, ↓g102_25, ↓g102_28, ↓g102_29, ↓g102_32, ↓g102_33, ↓g102_34, ↓g102_35, ↓g102_38, ↓g102_40, ↓g102_41, ↓g102_44, ↓g102_46, ↓g102_49, ↓g102_50, ↓g102_51, ↓g102_54, ↓g102_56, ↓g102_59, ↓g102_60, ↓g102_63, ↓g102_64, ↓g102_66, ↓g102_68, ↓g102_71, ↓g102_72, ↓g102_75, ↓g102_76, ↓g102_77, ↓g102_78, ↓mo_20, ↓mf_20_0, ↓mf_20_1, ↓mp_20_2, ↓mf_20_2, ↓mf_20_3, ↓mf_20_4, ↓mf_20_5, ↓mp_20_6, ↓mf_20_6, ↓mf_20_7, ↓mp_20_8, ↓mf_20_8, ↓mf_20_9, ↓mf_20_10, ↓mp_20_11, ↓mf_20_11, ↓mf_20_12, ↓mf_20_13, ↓mp_20_14, ↓mf_20_14, ↓mf_20_15, ↓mp_20_16, ↓mf_20_16, ↓ma_21, ↓ms_21, ↓ma_22, ↓ms_22, ↓ma_23, ↓ms_23, ↓ma_24, ↓ms_24, ↓ma_25, ↓ms_25, ↓ma_26, ↓ms_26, ↓ma_27, ↓ms_27, ↓ma_28, ↓ms_28, ↓ma_29, ↓ms_29, ↓ma_30, ↓ms_30, ↓ma_31, ↓ms_31, ↓bnd_some, ↓cond_true, ↓m_pv_none, ↓m_pv_some, m_b01_0, m_b01_1, true_and, and_true, eq_self, Int32.le_refl, ↓reduceIte, show ((0 : Int32) = 1) = False from eq_false (by decide), ↓g1, e2, hz, i_10, show nbI none = -6 from rfl]
    · simp only [↓g102_0, ↓g102_1, ↓g102_2, ↓g102_3, ↓g102_7, ↓g102_10, ↓g102_11, ↓g102_12, ↓g102_15, ↓g102_16, ↓g102_17, ↓g102_20, ↓g102_22, ↓g102_23, ↓g102_25, ↓g102_28, ↓g102_29, ↓g102_32, ↓g102_33, ↓g102_34, ↓g102_35, ↓g102_38, ↓g102_40, ↓g102_41, ↓g102_44, ↓g102_46, ↓g102_49, ↓g102_50, ↓g102_51, ↓g102_54, ↓g102_56, ↓g102_59, ↓g102_60, ↓g102_63, ↓g102_64, ↓g102_66, ↓g102_68, ↓g102_71, ↓g102_72, ↓g102_75, ↓g102_76, ↓g102_77, ↓g102_78, ↓mo_20, ↓mf_20_0, ↓mf_20_1, ↓mp_20_2, ↓mf_20_2, ↓mf_20_3, ↓mf_20_4, ↓mf_20_5, ↓mp_20_6, ↓mf_20_6, ↓mf_20_7, ↓mp_20_8, ↓mf_20_8, ↓mf_20_9, ↓mf_20_10, ↓mp_20_11, ↓mf_20_11, ↓mf_20_12, ↓mf_20_13, ↓mp_20_14, ↓mf_20_14, ↓mf_20_15, ↓mp_20_16, ↓mf_20_16, ↓ma_21, ↓ms_21, ↓ma_22, ↓ms_22, ↓ma_23, ↓ms_23, ↓ma_24, ↓ms_24, ↓ma_25, ↓ms_25, ↓ma_26, ↓ms_26, ↓ma_27, ↓ms_27, ↓ma_28, ↓ms_28, ↓ma_29, ↓ms_29, ↓ma_30, ↓ms_30, ↓ma_31, ↓ms_31, ↓bnd_some, ↓cond_true, ↓m_pv_none, ↓m_pv_some, m_b01_0, m_b01_1, true_and, and_true, eq_self, Int32.le_refl, ↓reduceIte, show ((0 : Int32) = 1) = False from eq_false (by decide), ↓g1, e2, hz]
  | n + 1, s, d, l, hn, h, hv, hk => by
    obtain ⟨d1, a1, a2, a3, g1⟩ := n_goes (S := S) (c := c) h hv hk ho
    have e1 : ¬ nI N ≤ nI s := nI_ge (by omega) (by omega)
    rw [rn]
    cases hs : stp1 l o with
    | some l' =>
      have hc : goc l o = 0 := goc_0.mpr ⟨l', hs⟩
      have hg : gol l o = l' := by unfold gol; rw [hs]; rfl
      rw [hg] at a1 a2
      rw [hc] at g1
      obtain ⟨d2, b1, b2, b3, b4⟩ := n_onL ho hN n (s + 1) d1 l' (by omega) a1 a2 (stp1_ok hk hs)
      refine ⟨d2, b1, b2, mx_tr a3 b3, fun K j5 => ?_⟩
      rw [g102_5]
      simp only [↓g102_0, ↓g102_1, ↓g102_2, ↓g102_3, ↓g102_7, ↓g102_10, ↓g102_11, ↓g102_12, ↓g102_15, ↓g102_16, ↓g102_17, ↓g102_20, ↓g102_22, ↓g102_23, ↓g102_25, ↓g102_28, ↓g102_29, ↓g102_32, ↓g102_33, ↓g102_34, ↓g102_35, ↓g102_38, ↓g102_40, ↓g102_41, ↓g102_44, ↓g102_46, ↓g102_49, ↓g102_50, ↓g102_51, ↓g102_54, ↓g102_56, ↓g102_59, ↓g102_60, ↓g102_63, ↓g102_64, ↓g102_66, ↓g102_68, ↓g102_71, ↓g102_72, ↓g102_75, ↓g102_76, ↓g102_77, ↓g102_78, ↓mo_20, ↓mf_20_0, ↓mf_20_1, ↓mp_20_2, ↓mf_20_2, ↓mf_20_3, ↓mf_20_4, ↓mf_20_5, ↓mp_20_6, ↓mf_20_6, ↓mf_20_7, ↓mp_20_8, ↓mf_20_8, ↓mf_20_9, ↓mf_20_10, ↓mp_20_11, ↓mf_20_11, ↓mf_20_12, ↓mf_20_13, ↓mp_20_14, ↓mf_20_14, ↓mf_20_15, ↓mp_20_16, ↓mf_20_16, ↓ma_21, ↓ms_21, ↓ma_22, ↓ms_22, ↓ma_23, ↓ms_23, ↓ma_24, ↓ms_24, ↓ma_25, ↓ms_25, ↓ma_26, ↓ms_26, ↓ma_27, ↓ms_27, ↓ma_28, ↓ms_28, ↓ma_29, ↓ms_29, ↓ma_30, ↓ms_30, ↓ma_31, ↓ms_31, ↓bnd_some, ↓cond_true, ↓m_pv_none, ↓m_pv_some, m_b01_0, m_b01_1, true_and, and_true, eq_self, ↓reduceIte, e1, ↓g1, nI_1]
      rw [b4 K _, show s + 1 + (rn o n l').1 = s + ((rn o n l').1 + 1) by omega]
    | none =>
      have hc : ¬ goc l o = 0 := fun z => by
        obtain ⟨l', h'⟩ := goc_0.mp z
        rw [hs] at h'
        cases h'
      have hg : gol l o = l := by unfold gol; rw [hs]; rfl
      rw [hg] at a1 a2
      refine ⟨d1, a1, a2, a3, fun K j5 => ?_⟩
      show _ = K (some (.int (if nxt l o = none then nI (s + 0) else -1 - nI (s + 0)))) _
      rw [Nat.add_zero, g102_5]
      have h1 := goc_1 (l := l) (o := o)
      by_cases hz : nxt l o = none
      · rw [h1.mpr hz] at g1
        simp only [↓g102_0, ↓g102_1, ↓g102_2, ↓g102_3, ↓g102_7, ↓g102_10, ↓g102_11, ↓g102_12, ↓g102_15, ↓g102_16, ↓g102_17, ↓g102_20, ↓g102_22, ↓g102_23, ↓g102_25, ↓g102_28, ↓g102_29, ↓g102_32, ↓g102_33, ↓g102_34, ↓g102_35, ↓g102_38, ↓g102_40, ↓g102_41, ↓g102_44, ↓g102_46, ↓g102_49, ↓g102_50, ↓g102_51, ↓g102_54, ↓g102_56, ↓g102_59, ↓g102_60, ↓g102_63, ↓g102_64, ↓g102_66, ↓g102_68, ↓g102_71, ↓g102_72, ↓g102_75, ↓g102_76, ↓g102_77, ↓g102_78, ↓mo_20, ↓mf_20_0, ↓mf_20_1, ↓mp_20_2, ↓mf_20_2, ↓mf_20_3, ↓mf_20_4, ↓mf_20_5, ↓mp_20_6, ↓mf_20_6, ↓mf_20_7, ↓mp_20_8, ↓mf_20_8, ↓mf_20_9, ↓mf_20_10, ↓mp_20_11, ↓mf_20_11, ↓mf_20_12, ↓mf_20_13, ↓mp_20_14, ↓mf_20_14, ↓mf_20_15, ↓mp_20_16, ↓mf_20_16, ↓ma_21, ↓ms_21, ↓ma_22, ↓ms_22, ↓ma_23, ↓ms_23, ↓ma_24, ↓ms_24, ↓ma_25, ↓ms_25, ↓ma_26, ↓ms_26, ↓ma_27, ↓ms_27, ↓ma_28, ↓ms_28, ↓ma_29, ↓ms_29, ↓ma_30, ↓ms_30, ↓ma_31, ↓ms_31, ↓bnd_some, ↓cond_true, ↓m_pv_none, ↓m_pv_some, m_b01_0, m_b01_1, true_and, and_true, eq_self, ↓reduceIte, e1, ↓g1, i_10, Int32.add_zero, hz]
        rw [g102_5]
        simp only [↓g102_0, ↓g102_1, ↓g102_2, ↓g102_3, ↓g102_7, ↓g102_10, ↓g102_11, ↓g102_12, ↓g102_15, ↓g102_16, ↓g102_17, ↓g102_20, ↓g102_22, ↓g102_23, ↓g102_25, ↓g102_28, ↓g102_29, ↓g102_32, ↓g102_33, ↓g102_34, ↓g102_35, ↓g102_38, ↓g102_40, ↓g102_41, ↓g102_44, ↓g102_46, ↓g102_49, ↓g102_50, ↓g102_51, ↓g102_54, ↓g102_56, ↓g102_59, ↓g102_60, ↓g102_63, ↓g102_64, ↓g102_66, ↓g102_68, ↓g102_71, ↓g102_72, ↓g102_75, ↓g102_76, ↓g102_77, ↓g102_78, ↓mo_20, ↓mf_20_0, ↓mf_20_1, ↓mp_20_2, ↓mf_20_2, ↓mf_20_3, ↓mf_20_4, ↓mf_20_5, ↓mp_20_6, ↓mf_20_6, ↓mf_20_7, ↓mp_20_8, ↓mf_20_8, ↓mf_20_9, ↓mf_20_10, ↓mp_20_11, ↓mf_20_11, ↓mf_20_12, ↓mf_20_13, ↓mp_20_14, ↓mf_20_14, ↓mf_20_15, ↓mp_20_16, ↓mf_20_16, ↓ma_21, ↓ms_21, ↓ma_22, ↓ms_22, ↓ma_23, ↓ms_23, ↓ma_24, ↓ms_24, ↓ma_25, ↓ms_25, ↓ma_26, ↓ms_26, ↓ma_27, ↓ms_27, ↓ma_28, ↓ms_28, ↓ma_29, ↓ms_29, ↓ma_30, ↓ms_30, ↓ma_31, ↓ms_31, ↓bnd_some, ↓cond_true, ↓m_pv_none, ↓m_pv_some, m_b01_0, m_b01_1, true_and, and_true, eq_self, ↓reduceIte, i_10]
      · have hc1 : ¬ goc l o = 1 := fun z => hz (h1.mp z)
        simp only [↓g102_0, ↓g102_1, ↓g102_2, ↓g102_3, ↓g102_7, ↓g102_10, ↓g102_11, ↓g102_12, ↓g102_15, ↓g102_16, ↓g102_17, ↓g102_20, ↓g102_22, ↓g102_23, ↓g102_25, ↓g102_28, ↓g102_29, ↓g102_32, ↓g102_33, ↓g102_34, ↓g102_35, ↓g102_38, ↓g102_40, ↓g102_41, ↓g102_44, ↓g102_46, ↓g102_49, ↓g102_50, ↓g102_51, ↓g102_54, ↓g102_56, ↓g102_59, ↓g102_60, ↓g102_63, ↓g102_64, ↓g102_66, ↓g102_68, ↓g102_71, ↓g102_72, ↓g102_75, ↓g102_76, ↓g102_77, ↓g102_78, ↓mo_20, ↓mf_20_0, ↓mf_20_1, ↓mp_20_2, ↓mf_20_2, ↓mf_20_3, ↓mf_20_4, ↓mf_20_5, ↓mp_20_6, ↓mf_20_6, ↓mf_20_7, ↓mp_20_8, ↓mf_20_8, ↓mf_20_9, ↓mf_20_10, ↓mp_20_11, ↓mf_20_11, ↓mf_20_12, ↓mf_20_13, ↓mp_20_14, ↓mf_20_14, ↓mf_20_15, ↓mp_20_16, ↓mf_20_16, ↓ma_21, ↓ms_21, ↓ma_22, ↓ms_22, ↓ma_23, ↓ms_23, ↓ma_24, ↓ms_24, ↓ma_25, ↓ms_25, ↓ma_26, ↓ms_26, ↓ma_27, ↓ms_27, ↓ma_28, ↓ms_28, ↓ma_29, ↓ms_29, ↓ma_30, ↓ms_30, ↓ma_31, ↓ms_31, ↓bnd_some, ↓cond_true, ↓m_pv_none, ↓m_pv_some, m_b01_0, m_b01_1, true_and, and_true, eq_self, ↓reduceIte, e1, ↓g1, hc, Int32.add_zero, hz]
        rw [g102_5]
        simp only [↓g102_0, ↓g102_1, ↓g102_2, ↓g102_3, ↓g102_7, ↓g102_10, ↓g102_11, ↓g102_12, ↓g102_15, ↓g102_16, ↓g102_17, ↓g102_20, ↓g102_22, ↓g102_23, ↓g102_25, ↓g102_28, ↓g102_29, ↓g102_32, ↓g102_33, ↓g102_34, ↓g102_35, ↓g102_38, ↓g102_40, ↓g102_41, ↓g102_44, ↓g102_46, ↓g102_49, ↓g102_50, ↓g102_51, ↓g102_54, ↓g102_56, ↓g102_59, ↓g102_60, ↓g102_63, ↓g102_64, ↓g102_66, ↓g102_68, ↓g102_71, ↓g102_72, ↓g102_75, ↓g102_76, ↓g102_77, ↓g102_78, ↓mo_20, ↓mf_20_0, ↓mf_20_1, ↓mp_20_2, ↓mf_20_2, ↓mf_20_3, ↓mf_20_4, ↓mf_20_5, ↓mp_20_6, ↓mf_20_6, ↓mf_20_7, ↓mp_20_8, ↓mf_20_8, ↓mf_20_9, ↓mf_20_10, ↓mp_20_11, ↓mf_20_11, ↓mf_20_12, ↓mf_20_13, ↓mp_20_14, ↓mf_20_14, ↓mf_20_15, ↓mp_20_16, ↓mf_20_16, ↓ma_21, ↓ms_21, ↓ma_22, ↓ms_22, ↓ma_23, ↓ms_23, ↓ma_24, ↓ms_24, ↓ma_25, ↓ms_25, ↓ma_26, ↓ms_26, ↓ma_27, ↓ms_27, ↓ma_28, ↓ms_28, ↓ma_29, ↓ms_29, ↓ma_30, ↓ms_30, ↓ma_31, ↓ms_31, ↓bnd_some, ↓cond_true, ↓m_pv_none, ↓m_pv_some, m_b01_0, m_b01_1, true_and, and_true, eq_self, ↓reduceIte, hc, hc1]
theorem n_on {o : Nat} (ho : o < 3) {n : Nat} (hN : n ≤ 200) {d : Nat → Nat → Int32} {l : Tm} (h : RW d l) (hv : DV d l) (hk : Tok l) {x : Int32} (hx : x = nI o := by rfl) : ∃ d', RW d' (rn o n l).2.2 ∧ DV d' (rn o n l).2.2 ∧ mx [6, 7, 8, 9] [8, 11] d d' ∧ ∀ (K : Option Value → mM → Prop), go S 102 0 [.ref 20, .int x, .int (nI n), .null, .null, .null] [] (mk c (md d)) K = K (some (.int (onv l o n))) (mk c (md d')) := by
  subst hx
  obtain ⟨d', b1, b2, b3, b4⟩ := n_onL (S := S) (c := c) ho hN n 0 d l rfl h hv hk
  refine ⟨d', b1, b2, b3, fun K => ?_⟩
  simp only [↓g102_0, ↓g102_1, ↓g102_2, ↓g102_3, ↓g102_7, ↓g102_10, ↓g102_11, ↓g102_12, ↓g102_15, ↓g102_16, ↓g102_17, ↓g102_20, ↓g102_22, ↓g102_23, ↓g102_25, ↓g102_28, ↓g102_29, ↓g102_32, ↓g102_33, ↓g102_34, ↓g102_35, ↓g102_38, ↓g102_40, ↓g102_41, ↓g102_44, ↓g102_46, ↓g102_49, ↓g102_50, ↓g102_51, ↓g102_54, ↓g102_56, ↓g102_59, ↓g102_60, ↓g102_63, ↓g102_64, ↓g102_66, ↓g102_68, ↓g102_71, ↓g102_72, ↓g102_75, ↓g102_76, ↓g102_77, ↓g102_78]
  unfold onv
  have b5 := b4 K .null
  simp only [Nat.zero_add] at b5
  exact b5
theorem n_mostL {o : Nat} (ho : o < 3) {N : Nat} (hN : N ≤ 200) : ∀ (n s g : Nat) (d : Nat → Nat → Int32) (l : Tm), n + s = N → l.length ≤ g → g ≤ 200 → RW d l → DV d l → Tok l → ∃ d', mx [6, 7, 8, 9] [8, 11] d d' ∧ ∀ (K : Option Value → mM → Prop) (j1 : Value), go S 128 46 [.ref 20, j1, .int (nI o), .int (nI N), .int (nI g), .int 0, .int (nI s)] [] (mk c (md d)) K = K (some (.int (nI (max g (rn o n l).2.1)))) (mk c (md d'))
  | 0, s, g, d, l, hn, hg1, hg2, h, hv, hk => by
    have e : s = N := by omega
    subst e
    refine ⟨d, mx_rf, fun K j1 => ?_⟩
    rw [g128_46]
    simp only [↓g128_0, ↓g128_1, ↓g128_4, ↓g128_7, ↓g128_8, ↓g128_9, ↓g128_12, ↓g128_15, ↓g128_16, ↓g128_19, ↓g128_22, ↓g128_24, ↓g128_27, ↓g128_28, ↓g128_29, ↓g128_30, ↓g128_31, ↓g128_34, ↓g128_35, ↓g128_38, ↓g128_40, ↓g128_41, ↓g128_43, ↓g128_44, ↓g128_48, ↓g128_49, ↓g128_52, ↓g128_54, ↓g128_57, ↓g128_58, ↓g128_59, ↓g128_62, ↓g128_64, ↓g128_65, ↓g128_68, ↓g128_70, ↓g128_73, ↓g128_74, ↓g128_77, ↓g128_80, ↓g128_82, ↓g128_84, ↓g128_87, ↓g128_90, ↓g128_92, Int32.le_refl, ↓reduceIte, rn, Nat.max_eq_left hg1]
  | n + 1, s, g, d, l, hn, hg1, hg2, h, hv, hk => by
    obtain ⟨d1, a1, a2, a3, g1⟩ := n_goes (S := S) (c := c) h hv hk ho
    have e1 : ¬ nI N ≤ nI s := nI_ge (by omega) (by omega)
    rw [rn]
    cases hs : stp1 l o with
    | some l' =>
      have hc : goc l o = 0 := goc_0.mpr ⟨l', hs⟩
      have hg : gol l o = l' := by unfold gol; rw [hs]; rfl
      have hk' := stp1_ok hk hs
      have hl' := hk'.2
      rw [hg] at a1 a2
      rw [hc] at g1
      have hgm : max g l'.length ≤ 200 := Nat.max_le.mpr ⟨hg2, hl'⟩
      obtain ⟨d2, b3, b4⟩ := n_mostL ho hN n (s + 1) (max g l'.length) d1 l' (by omega) (Nat.le_max_right _ _) hgm a1 a2 hk'
      have hr := (rn_ok (o := o) (n := n) hk').2.2.1
      refine ⟨d2, mx_tr a3 b3, fun K j1 => ?_⟩
      have e5 : max g (max l.length (rn o n l').2.1) = max (max g l'.length) (rn o n l').2.1 := by omega
      rw [g128_46]
      dsimp only
      rw [e5, ← b4 K j1]
      by_cases hm : l'.length ≤ g
      · have e3 : nI l'.length ≤ nI g := nI_le hm (by omega)
        simp only [↓g128_0, ↓g128_1, ↓g128_4, ↓g128_7, ↓g128_8, ↓g128_9, ↓g128_12, ↓g128_15, ↓g128_16, ↓g128_19, ↓g128_22, ↓g128_24, ↓g128_27, ↓g128_28, ↓g128_29, ↓g128_30, ↓g128_31, ↓g128_34, ↓g128_35, ↓g128_38, ↓g128_40, ↓g128_41, ↓g128_43, ↓g128_44, ↓g128_48, ↓g128_49, ↓g128_52, ↓g128_54, ↓g128_57, ↓g128_58, ↓g128_59, ↓g128_62, ↓g128_64, ↓g128_65, ↓g128_68, ↓g128_70, ↓g128_73, ↓g128_74, ↓g128_77, ↓g128_80, ↓g128_82, ↓g128_84, ↓g128_87, ↓g128_90, ↓g128_92, ↓mo_20, ↓mf_20_0, ↓mf_20_1, ↓mp_20_2, ↓mf_20_2, ↓mf_20_3, ↓mf_20_4, ↓mf_20_5, ↓mp_20_6, ↓mf_20_6, ↓mf_20_7, ↓mp_20_8, ↓mf_20_8, ↓mf_20_9, ↓mf_20_10, ↓mp_20_11, ↓mf_20_11, ↓mf_20_12, ↓mf_20_13, ↓mp_20_14, ↓mf_20_14, ↓mf_20_15, ↓mp_20_16, ↓mf_20_16, ↓ma_21, ↓ms_21, ↓ma_22, ↓ms_22, ↓ma_23, ↓ms_23, ↓ma_24, ↓ms_24, ↓ma_25, ↓ms_25, ↓ma_26, ↓ms_26, ↓ma_27, ↓ms_27, ↓ma_28, ↓ms_28, ↓ma_29, ↓ms_29, ↓ma_30, ↓ms_30, ↓ma_31, ↓ms_31, ↓bnd_some, ↓cond_true, ↓m_pv_none, ↓m_pv_some, m_b01_0, m_b01_1, true_and, and_true, eq_self, ↓reduceIte, e1, ↓g1, a1.1, e3, nI_1, Nat.max_eq_left hm]
      · have e3 : ¬ nI l'.length ≤ nI g := nI_ge (by omega) (by omega)
        simp only [↓g128_0, ↓g128_1, ↓g128_4, ↓g128_7, ↓g128_8, ↓g128_9, ↓g128_12, ↓g128_15, ↓g128_16, ↓g128_19, ↓g128_22, ↓g128_24, ↓g128_27, ↓g128_28, ↓g128_29, ↓g128_30, ↓g128_31, ↓g128_34, ↓g128_35, ↓g128_38, ↓g128_40, ↓g128_41, ↓g128_43, ↓g128_44, ↓g128_48, ↓g128_49, ↓g128_52, ↓g128_54, ↓g128_57, ↓g128_58, ↓g128_59, ↓g128_62, ↓g128_64, ↓g128_65, ↓g128_68, ↓g128_70, ↓g128_73, ↓g128_74, ↓g128_77, ↓g128_80, ↓g128_82, ↓g128_84, ↓g128_87, ↓g128_90, ↓g128_92, ↓mo_20, ↓mf_20_0, ↓mf_20_1, ↓mp_20_2, ↓mf_20_2, ↓mf_20_3, ↓mf_20_4, ↓mf_20_5, ↓mp_20_6, ↓mf_20_6, ↓mf_20_7, ↓mp_20_8, ↓mf_20_8, ↓mf_20_9, ↓mf_20_10, ↓mp_20_11, ↓mf_20_11, ↓mf_20_12, ↓mf_20_13, ↓mp_20_14, ↓mf_20_14, ↓mf_20_15, ↓mp_20_16, ↓mf_20_16, ↓ma_21, ↓ms_21, ↓ma_22, ↓ms_22, ↓ma_23, ↓ms_23, ↓ma_24, ↓ms_24, ↓ma_25, ↓ms_25, ↓ma_26, ↓ms_26, ↓ma_27, ↓ms_27, ↓ma_28, ↓ms_28, ↓ma_29, ↓ms_29, ↓ma_30, ↓ms_30, ↓ma_31, ↓ms_31, ↓bnd_some, ↓cond_true, ↓m_pv_none, ↓m_pv_some, m_b01_0, m_b01_1, true_and, and_true, eq_self, ↓reduceIte, e1, ↓g1, a1.1, e3, nI_1, Nat.max_eq_right (show g ≤ l'.length by omega)]
    | none =>
      have hc : ¬ goc l o = 0 := fun z => by
        obtain ⟨l', h'⟩ := goc_0.mp z
        rw [hs] at h'
        cases h'
      have hg : gol l o = l := by unfold gol; rw [hs]; rfl
      rw [hg] at a1 a2
      refine ⟨d1, a3, fun K j1 => ?_⟩
      have e3 : nI l.length ≤ nI g := nI_le hg1 (by omega)
      rw [g128_46]
      simp only [↓g128_0, ↓g128_1, ↓g128_4, ↓g128_7, ↓g128_8, ↓g128_9, ↓g128_12, ↓g128_15, ↓g128_16, ↓g128_19, ↓g128_22, ↓g128_24, ↓g128_27, ↓g128_28, ↓g128_29, ↓g128_30, ↓g128_31, ↓g128_34, ↓g128_35, ↓g128_38, ↓g128_40, ↓g128_41, ↓g128_43, ↓g128_44, ↓g128_48, ↓g128_49, ↓g128_52, ↓g128_54, ↓g128_57, ↓g128_58, ↓g128_59, ↓g128_62, ↓g128_64, ↓g128_65, ↓g128_68, ↓g128_70, ↓g128_73, ↓g128_74, ↓g128_77, ↓g128_80, ↓g128_82, ↓g128_84, ↓g128_87, ↓g128_90, ↓g128_92, ↓mo_20, ↓mf_20_0, ↓mf_20_1, ↓mp_20_2, ↓mf_20_2, ↓mf_20_3, ↓mf_20_4, ↓mf_20_5, ↓mp_20_6, ↓mf_20_6, ↓mf_20_7, ↓mp_20_8, ↓mf_20_8, ↓mf_20_9, ↓mf_20_10, ↓mp_20_11, ↓mf_20_11, ↓mf_20_12, ↓mf_20_13, ↓mp_20_14, ↓mf_20_14, ↓mf_20_15, ↓mp_20_16, ↓mf_20_16, ↓ma_21, ↓ms_21, ↓ma_22, ↓ms_22, ↓ma_23, ↓ms_23, ↓ma_24, ↓ms_24, ↓ma_25, ↓ms_25, ↓ma_26, ↓ms_26, ↓ma_27, ↓ms_27, ↓ma_28, ↓ms_28, ↓ma_29, ↓ms_29, ↓ma_30, ↓ms_30, ↓ma_31, ↓ms_31, ↓bnd_some, ↓cond_true, ↓m_pv_none, ↓m_pv_some, m_b01_0, m_b01_1, true_and, and_true, eq_self, ↓reduceIte, e1, ↓g1, a1.1, e3, nI_1]
      rw [g128_46]
      by_cases e4 : nI N ≤ nI (s + 1)
      · simp only [↓g128_0, ↓g128_1, ↓g128_4, ↓g128_7, ↓g128_8, ↓g128_9, ↓g128_12, ↓g128_15, ↓g128_16, ↓g128_19, ↓g128_22, ↓g128_24, ↓g128_27, ↓g128_28, ↓g128_29, ↓g128_30, ↓g128_31, ↓g128_34, ↓g128_35, ↓g128_38, ↓g128_40, ↓g128_41, ↓g128_43, ↓g128_44, ↓g128_48, ↓g128_49, ↓g128_52, ↓g128_54, ↓g128_57, ↓g128_58, ↓g128_59, ↓g128_62, ↓g128_64, ↓g128_65, ↓g128_68, ↓g128_70, ↓g128_73, ↓g128_74, ↓g128_77, ↓g128_80, ↓g128_82, ↓g128_84, ↓g128_87, ↓g128_90, ↓g128_92, ↓mo_20, ↓mf_20_0, ↓mf_20_1, ↓mp_20_2, ↓mf_20_2, ↓mf_20_3, ↓mf_20_4, ↓mf_20_5, ↓mp_20_6, ↓mf_20_6, ↓mf_20_7, ↓mp_20_8, ↓mf_20_8, ↓mf_20_9, ↓mf_20_10, ↓mp_20_11, ↓mf_20_11, ↓mf_20_12, ↓mf_20_13, ↓mp_20_14, ↓mf_20_14, ↓mf_20_15, ↓mp_20_16, ↓mf_20_16, ↓ma_21, ↓ms_21, ↓ma_22, ↓ms_22, ↓ma_23, ↓ms_23, ↓ma_24, ↓ms_24, ↓ma_25, ↓ms_25, ↓ma_26, ↓ms_26, ↓ma_27, ↓ms_27, ↓ma_28, ↓ms_28, ↓ma_29, ↓ms_29, ↓ma_30, ↓ms_30, ↓ma_31, ↓ms_31, ↓bnd_some, ↓cond_true, ↓m_pv_none, ↓m_pv_some, m_b01_0, m_b01_1, true_and, and_true, eq_self, ↓reduceIte, e4, Nat.max_eq_left hg1]
      · simp only [↓g128_0, ↓g128_1, ↓g128_4, ↓g128_7, ↓g128_8, ↓g128_9, ↓g128_12, ↓g128_15, ↓g128_16, ↓g128_19, ↓g128_22, ↓g128_24, ↓g128_27, ↓g128_28, ↓g128_29, ↓g128_30, ↓g128_31, ↓g128_34, ↓g128_35, ↓g128_38, ↓g128_40, ↓g128_41, ↓g128_43, ↓g128_44, ↓g128_48, ↓g128_49, ↓g128_52, ↓g128_54, ↓g128_57, ↓g128_58, ↓g128_59, ↓g128_62, ↓g128_64, ↓g128_65, ↓g128_68, ↓g128_70, ↓g128_73, ↓g128_74, ↓g128_77, ↓g128_80, ↓g128_82, ↓g128_84, ↓g128_87, ↓g128_90, ↓g128_92, ↓mo_20, ↓mf_20_0, ↓mf_20_1, ↓mp_20_2, ↓mf_20_2, ↓mf_20_3, ↓mf_20_4, ↓mf_20_5, ↓mp_20_6, ↓mf_20_6, ↓mf_20_7, ↓mp_20_8, ↓mf_20_8, ↓mf_20_9, ↓mf_20_10, ↓mp_20_11, ↓mf_20_11, ↓mf_20_12, ↓mf_20_13, ↓mp_20_14, ↓mf_20_14, ↓mf_20_15, ↓mp_20_16, ↓mf_20_16, ↓ma_21, ↓ms_21, ↓ma_22, ↓ms_22, ↓ma_23, ↓ms_23, ↓ma_24, ↓ms_24, ↓ma_25, ↓ms_25, ↓ma_26, ↓ms_26, ↓ma_27, ↓ms_27, ↓ma_28, ↓ms_28, ↓ma_29, ↓ms_29, ↓ma_30, ↓ms_30, ↓ma_31, ↓ms_31, ↓bnd_some, ↓cond_true, ↓m_pv_none, ↓m_pv_some, m_b01_0, m_b01_1, true_and, and_true, eq_self, ↓reduceIte, e4, hc, Nat.max_eq_left hg1]
variable {d : Nat → Nat → Int32} {l : Tm}
theorem n_ofKindL (h : RW d l) (hk : Tok l) {q : Nat} (hq : q ≤ 3) : ∀ (n p : Nat), n + p = l.length → ∀ (K : Option Value → mM → Prop), go S 110 4 [.ref 20, .int (nI q), .int (nI (cnt (fun i => decide (kd l i = q)) p)), .int (nI p)] [] (mk c (md d)) K = K (some (.int (nI (cnt (fun i => decide (kd l i = q)) l.length)))) (mk c (md d))
  | 0, p, hn, K => by
    have e : p = l.length := by omega
    subst e
    rw [g110_4]
    simp only [↓g110_0, ↓g110_1, ↓g110_2, ↓g110_3, ↓g110_5, ↓g110_6, ↓g110_9, ↓g110_12, ↓g110_13, ↓g110_14, ↓g110_15, ↓g110_18, ↓g110_19, ↓g110_22, ↓g110_23, ↓g110_26, ↓g110_27, ↓g110_28, ↓g110_29, ↓g110_32, ↓g110_35, ↓g110_36, ↓mo_20, ↓mf_20_0, ↓mf_20_1, ↓mp_20_2, ↓mf_20_2, ↓mf_20_3, ↓mf_20_4, ↓mf_20_5, ↓mp_20_6, ↓mf_20_6, ↓mf_20_7, ↓mp_20_8, ↓mf_20_8, ↓mf_20_9, ↓mf_20_10, ↓mp_20_11, ↓mf_20_11, ↓mf_20_12, ↓mf_20_13, ↓mp_20_14, ↓mf_20_14, ↓mf_20_15, ↓mp_20_16, ↓mf_20_16, ↓ma_21, ↓ms_21, ↓ma_22, ↓ms_22, ↓ma_23, ↓ms_23, ↓ma_24, ↓ms_24, ↓ma_25, ↓ms_25, ↓ma_26, ↓ms_26, ↓ma_27, ↓ms_27, ↓ma_28, ↓ms_28, ↓ma_29, ↓ms_29, ↓ma_30, ↓ms_30, ↓ma_31, ↓ms_31, ↓bnd_some, ↓cond_true, ↓m_pv_none, ↓m_pv_some, m_b01_0, m_b01_1, true_and, and_true, eq_self, h.1, Int32.le_refl, ↓reduceIte]
  | n + 1, p, hn, K => by
    have hl := hk.2
    have hpl : p < l.length := by omega
    have hkd := hk.1.kd hpl
    have e1 : ¬ nI l.length ≤ nI p := nI_ge (by omega) (by omega)
    have g1 := fun K => n_kind (S := S) (c := c) h hk hpl K
    have e2 : (nI (kd l p) = nI q) ↔ kd l p = q := nI_eq (by omega) (by omega)
    have ih := n_ofKindL h hk hq n (p + 1) (by omega) K
    rw [cnt] at ih
    rw [g110_4]
    by_cases z : kd l p = q
    · rw [if_pos (decide_eq_true z)] at ih
      simp only [↓g110_0, ↓g110_1, ↓g110_2, ↓g110_3, ↓g110_5, ↓g110_6, ↓g110_9, ↓g110_12, ↓g110_13, ↓g110_14, ↓g110_15, ↓g110_18, ↓g110_19, ↓g110_22, ↓g110_23, ↓g110_26, ↓g110_27, ↓g110_28, ↓g110_29, ↓g110_32, ↓g110_35, ↓g110_36, ↓mo_20, ↓mf_20_0, ↓mf_20_1, ↓mp_20_2, ↓mf_20_2, ↓mf_20_3, ↓mf_20_4, ↓mf_20_5, ↓mp_20_6, ↓mf_20_6, ↓mf_20_7, ↓mp_20_8, ↓mf_20_8, ↓mf_20_9, ↓mf_20_10, ↓mp_20_11, ↓mf_20_11, ↓mf_20_12, ↓mf_20_13, ↓mp_20_14, ↓mf_20_14, ↓mf_20_15, ↓mp_20_16, ↓mf_20_16, ↓ma_21, ↓ms_21, ↓ma_22, ↓ms_22, ↓ma_23, ↓ms_23, ↓ma_24, ↓ms_24, ↓ma_25, ↓ms_25, ↓ma_26, ↓ms_26, ↓ma_27, ↓ms_27, ↓ma_28, ↓ms_28, ↓ma_29, ↓ms_29, ↓ma_30, ↓ms_30, ↓ma_31, ↓ms_31, ↓bnd_some, ↓cond_true, ↓m_pv_none, ↓m_pv_some, m_b01_0, m_b01_1, true_and, and_true, eq_self, h.1, e1, ↓reduceIte, ↓g1, e2.mpr z, nI_1]
      exact ih
    · rw [if_neg (by rw [decide_eq_false z]; decide)] at ih
      simp only [↓g110_0, ↓g110_1, ↓g110_2, ↓g110_3, ↓g110_5, ↓g110_6, ↓g110_9, ↓g110_12, ↓g110_13, ↓g110_14, ↓g110_15, ↓g110_18, ↓g110_19, ↓g110_22, ↓g110_23, ↓g110_26, ↓g110_27, ↓g110_28, ↓g110_29, ↓g110_32, ↓g110_35, ↓g110_36, ↓mo_20, ↓mf_20_0, ↓mf_20_1, ↓mp_20_2, ↓mf_20_2, ↓mf_20_3, ↓mf_20_4, ↓mf_20_5, ↓mp_20_6, ↓mf_20_6, ↓mf_20_7, ↓mp_20_8, ↓mf_20_8, ↓mf_20_9, ↓mf_20_10, ↓mp_20_11, ↓mf_20_11, ↓mf_20_12, ↓mf_20_13, ↓mp_20_14, ↓mf_20_14, ↓mf_20_15, ↓mp_20_16, ↓mf_20_16, ↓ma_21, ↓ms_21, ↓ma_22, ↓ms_22, ↓ma_23, ↓ms_23, ↓ma_24, ↓ms_24, ↓ma_25, ↓ms_25, ↓ma_26, ↓ms_26, ↓ma_27, ↓ms_27, ↓ma_28, ↓ms_28, ↓ma_29, ↓ms_29, ↓ma_30, ↓ms_30, ↓ma_31, ↓ms_31, ↓bnd_some, ↓cond_true, ↓m_pv_none, ↓m_pv_some, m_b01_0, m_b01_1, true_and, and_true, eq_self, h.1, e1, ↓reduceIte, ↓g1, e2, z, nI_1, Int32.add_zero]
      exact ih
theorem n_ofKind (h : RW d l) (hk : Tok l) {q : Nat} (hq : q ≤ 3) (K : Option Value → mM → Prop) {x : Int32} (hx : x = nI q := by rfl) : go S 110 0 [.ref 20, .int x, .null, .null] [] (mk c (md d)) K = K (some (.int (nI (cnt (fun i => decide (kd l i = q)) l.length)))) (mk c (md d)) := by
  subst hx
  have g := n_ofKindL (S := S) (c := c) h hk hq l.length 0 rfl K
  simp only [↓g110_0, ↓g110_1, ↓g110_2, ↓g110_3, ↓g110_5, ↓g110_6, ↓g110_9, ↓g110_12, ↓g110_13, ↓g110_14, ↓g110_15, ↓g110_18, ↓g110_19, ↓g110_22, ↓g110_23, ↓g110_26, ↓g110_27, ↓g110_28, ↓g110_29, ↓g110_32, ↓g110_35, ↓g110_36]
  exact g
theorem n_deepL (h : RW d l) (hv : DV d l) (hk : Tok l) : ∀ (n p : Nat), n + p = l.length → ∀ (K : Option Value → mM → Prop), go S 111 4 [.ref 20, .int (nI (mxd (dep l) p)), .int (nI p)] [] (mk c (md d)) K = K (some (.int (nI (mxd (dep l) l.length)))) (mk c (md d))
  | 0, p, hn, K => by
    have e : p = l.length := by omega
    subst e
    rw [g111_4]
    simp only [↓g111_0, ↓g111_1, ↓g111_2, ↓g111_3, ↓g111_5, ↓g111_6, ↓g111_9, ↓g111_12, ↓g111_13, ↓g111_16, ↓g111_17, ↓g111_18, ↓g111_19, ↓g111_22, ↓g111_23, ↓g111_26, ↓g111_27, ↓g111_28, ↓g111_31, ↓g111_32, ↓g111_33, ↓g111_36, ↓g111_39, ↓g111_40, ↓mo_20, ↓mf_20_0, ↓mf_20_1, ↓mp_20_2, ↓mf_20_2, ↓mf_20_3, ↓mf_20_4, ↓mf_20_5, ↓mp_20_6, ↓mf_20_6, ↓mf_20_7, ↓mp_20_8, ↓mf_20_8, ↓mf_20_9, ↓mf_20_10, ↓mp_20_11, ↓mf_20_11, ↓mf_20_12, ↓mf_20_13, ↓mp_20_14, ↓mf_20_14, ↓mf_20_15, ↓mp_20_16, ↓mf_20_16, ↓ma_21, ↓ms_21, ↓ma_22, ↓ms_22, ↓ma_23, ↓ms_23, ↓ma_24, ↓ms_24, ↓ma_25, ↓ms_25, ↓ma_26, ↓ms_26, ↓ma_27, ↓ms_27, ↓ma_28, ↓ms_28, ↓ma_29, ↓ms_29, ↓ma_30, ↓ms_30, ↓ma_31, ↓ms_31, ↓bnd_some, ↓cond_true, ↓m_pv_none, ↓m_pv_some, m_b01_0, m_b01_1, true_and, and_true, eq_self, h.1, Int32.le_refl, ↓reduceIte]
  | n + 1, p, hn, K => by
    have hl := hk.2
    have hpl : p < l.length := by omega
    have e1 : ¬ nI l.length ≤ nI p := nI_ge (by omega) (by omega)
    have hd := dep_lt hk.1 hpl hl
    have hm := mxd_le (dep l) 200 p (fun k hk2 => by have := dep_lt hk.1 (p := k) (by omega) hl; omega)
    have ih := n_deepL h hv hk n (p + 1) (by omega) K
    have i1 := ib (show p < 200 by omega)
    have i2 := nI_clamp (show p < 2 ^ 31 by omega)
    rw [mxd] at ih
    rw [g111_4]
    by_cases z : mxd (dep l) p < dep l p
    · rw [if_pos z] at ih
      have e3 : ¬ nI (dep l p) ≤ nI (mxd (dep l) p) := nI_ge z (by omega)
      simp only [↓g111_0, ↓g111_1, ↓g111_2, ↓g111_3, ↓g111_5, ↓g111_6, ↓g111_9, ↓g111_12, ↓g111_13, ↓g111_16, ↓g111_17, ↓g111_18, ↓g111_19, ↓g111_22, ↓g111_23, ↓g111_26, ↓g111_27, ↓g111_28, ↓g111_31, ↓g111_32, ↓g111_33, ↓g111_36, ↓g111_39, ↓g111_40, ↓mo_20, ↓mf_20_0, ↓mf_20_1, ↓mp_20_2, ↓mf_20_2, ↓mf_20_3, ↓mf_20_4, ↓mf_20_5, ↓mp_20_6, ↓mf_20_6, ↓mf_20_7, ↓mp_20_8, ↓mf_20_8, ↓mf_20_9, ↓mf_20_10, ↓mp_20_11, ↓mf_20_11, ↓mf_20_12, ↓mf_20_13, ↓mp_20_14, ↓mf_20_14, ↓mf_20_15, ↓mp_20_16, ↓mf_20_16, ↓ma_21, ↓ms_21, ↓ma_22, ↓ms_22, ↓ma_23, ↓ms_23, ↓ma_24, ↓ms_24, ↓ma_25, ↓ms_25, ↓ma_26, ↓ms_26, ↓ma_27, ↓ms_27, ↓ma_28, ↓ms_28, ↓ma_29, ↓ms_29, ↓ma_30, ↓ms_30, ↓ma_31, ↓ms_31, ↓bnd_some, ↓cond_true, ↓m_pv_none, ↓m_pv_some, m_b01_0, m_b01_1, true_and, and_true, eq_self, h.1, e1, ↓reduceIte, i1, i2, hv _ hpl, e3, nI_1]
      exact ih
    · rw [if_neg z] at ih
      have e3 : nI (dep l p) ≤ nI (mxd (dep l) p) := nI_le (by omega) (by omega)
      simp only [↓g111_0, ↓g111_1, ↓g111_2, ↓g111_3, ↓g111_5, ↓g111_6, ↓g111_9, ↓g111_12, ↓g111_13, ↓g111_16, ↓g111_17, ↓g111_18, ↓g111_19, ↓g111_22, ↓g111_23, ↓g111_26, ↓g111_27, ↓g111_28, ↓g111_31, ↓g111_32, ↓g111_33, ↓g111_36, ↓g111_39, ↓g111_40, ↓mo_20, ↓mf_20_0, ↓mf_20_1, ↓mp_20_2, ↓mf_20_2, ↓mf_20_3, ↓mf_20_4, ↓mf_20_5, ↓mp_20_6, ↓mf_20_6, ↓mf_20_7, ↓mp_20_8, ↓mf_20_8, ↓mf_20_9, ↓mf_20_10, ↓mp_20_11, ↓mf_20_11, ↓mf_20_12, ↓mf_20_13, ↓mp_20_14, ↓mf_20_14, ↓mf_20_15, ↓mp_20_16, ↓mf_20_16, ↓ma_21, ↓ms_21, ↓ma_22, ↓ms_22, ↓ma_23, ↓ms_23, ↓ma_24, ↓ms_24, ↓ma_25, ↓ms_25, ↓ma_26, ↓ms_26, ↓ma_27, ↓ms_27, ↓ma_28, ↓ms_28, ↓ma_29, ↓ms_29, ↓ma_30, ↓ms_30, ↓ma_31, ↓ms_31, ↓bnd_some, ↓cond_true, ↓m_pv_none, ↓m_pv_some, m_b01_0, m_b01_1, true_and, and_true, eq_self, h.1, e1, ↓reduceIte, i1, i2, hv _ hpl, e3, nI_1]
      exact ih
theorem n_deep (h : RW d l) (hv : DV d l) (hk : Tok l) (K : Option Value → mM → Prop) : go S 111 0 [.ref 20, .null, .null] [] (mk c (md d)) K = K (some (.int (nI (mxd (dep l) l.length)))) (mk c (md d)) := by
  have g := n_deepL (S := S) (c := c) h hv hk l.length 0 rfl K
  simp only [↓g111_0, ↓g111_1, ↓g111_2, ↓g111_3, ↓g111_5, ↓g111_6, ↓g111_9, ↓g111_12, ↓g111_13, ↓g111_16, ↓g111_17, ↓g111_18, ↓g111_19, ↓g111_22, ↓g111_23, ↓g111_26, ↓g111_27, ↓g111_28, ↓g111_31, ↓g111_32, ↓g111_33, ↓g111_36, ↓g111_39, ↓g111_40]
  exact g
theorem n_redsL (h : RW d l) (hk : Tok l) : ∀ (n p : Nat), n + p = l.length → ∀ (K : Option Value → mM → Prop), go S 112 4 [.ref 20, .int (nI (cnt (red l) p)), .int (nI p)] [] (mk c (md d)) K = K (some (.int (nI (cnt (red l) l.length)))) (mk c (md d))
  | 0, p, hn, K => by
    have e : p = l.length := by omega
    subst e
    rw [g112_4]
    simp only [↓g112_0, ↓g112_1, ↓g112_2, ↓g112_3, ↓g112_5, ↓g112_6, ↓g112_9, ↓g112_12, ↓g112_13, ↓g112_14, ↓g112_15, ↓g112_18, ↓g112_21, ↓g112_22, ↓g112_25, ↓g112_26, ↓g112_27, ↓g112_28, ↓g112_31, ↓g112_34, ↓g112_35, ↓mo_20, ↓mf_20_0, ↓mf_20_1, ↓mp_20_2, ↓mf_20_2, ↓mf_20_3, ↓mf_20_4, ↓mf_20_5, ↓mp_20_6, ↓mf_20_6, ↓mf_20_7, ↓mp_20_8, ↓mf_20_8, ↓mf_20_9, ↓mf_20_10, ↓mp_20_11, ↓mf_20_11, ↓mf_20_12, ↓mf_20_13, ↓mp_20_14, ↓mf_20_14, ↓mf_20_15, ↓mp_20_16, ↓mf_20_16, ↓ma_21, ↓ms_21, ↓ma_22, ↓ms_22, ↓ma_23, ↓ms_23, ↓ma_24, ↓ms_24, ↓ma_25, ↓ms_25, ↓ma_26, ↓ms_26, ↓ma_27, ↓ms_27, ↓ma_28, ↓ms_28, ↓ma_29, ↓ms_29, ↓ma_30, ↓ms_30, ↓ma_31, ↓ms_31, ↓bnd_some, ↓cond_true, ↓m_pv_none, ↓m_pv_some, m_b01_0, m_b01_1, true_and, and_true, eq_self, h.1, Int32.le_refl, ↓reduceIte]
  | n + 1, p, hn, K => by
    have hl := hk.2
    have hpl : p < l.length := by omega
    have e1 : ¬ nI l.length ≤ nI p := nI_ge (by omega) (by omega)
    have g1 := fun K => n_red (S := S) (c := c) h hk hpl K
    have ih := n_redsL h hk n (p + 1) (by omega) K
    rw [cnt] at ih
    rw [g112_4]
    by_cases z : red l p = true
    · rw [if_pos z] at ih
      simp only [if_pos z] at g1
      simp only [↓g112_0, ↓g112_1, ↓g112_2, ↓g112_3, ↓g112_5, ↓g112_6, ↓g112_9, ↓g112_12, ↓g112_13, ↓g112_14, ↓g112_15, ↓g112_18, ↓g112_21, ↓g112_22, ↓g112_25, ↓g112_26, ↓g112_27, ↓g112_28, ↓g112_31, ↓g112_34, ↓g112_35, ↓mo_20, ↓mf_20_0, ↓mf_20_1, ↓mp_20_2, ↓mf_20_2, ↓mf_20_3, ↓mf_20_4, ↓mf_20_5, ↓mp_20_6, ↓mf_20_6, ↓mf_20_7, ↓mp_20_8, ↓mf_20_8, ↓mf_20_9, ↓mf_20_10, ↓mp_20_11, ↓mf_20_11, ↓mf_20_12, ↓mf_20_13, ↓mp_20_14, ↓mf_20_14, ↓mf_20_15, ↓mp_20_16, ↓mf_20_16, ↓ma_21, ↓ms_21, ↓ma_22, ↓ms_22, ↓ma_23, ↓ms_23, ↓ma_24, ↓ms_24, ↓ma_25, ↓ms_25, ↓ma_26, ↓ms_26, ↓ma_27, ↓ms_27, ↓ma_28, ↓ms_28, ↓ma_29, ↓ms_29, ↓ma_30, ↓ms_30, ↓ma_31, ↓ms_31, ↓bnd_some, ↓cond_true, ↓m_pv_none, ↓m_pv_some, m_b01_0, m_b01_1, true_and, and_true, eq_self, h.1, e1, ↓reduceIte, ↓g1, i_10, nI_1]
      exact ih
    · rw [if_neg z] at ih
      simp only [if_neg z] at g1
      simp only [↓g112_0, ↓g112_1, ↓g112_2, ↓g112_3, ↓g112_5, ↓g112_6, ↓g112_9, ↓g112_12, ↓g112_13, ↓g112_14, ↓g112_15, ↓g112_18, ↓g112_21, ↓g112_22, ↓g112_25, ↓g112_26, ↓g112_27, ↓g112_28, ↓g112_31, ↓g112_34, ↓g112_35, ↓mo_20, ↓mf_20_0, ↓mf_20_1, ↓mp_20_2, ↓mf_20_2, ↓mf_20_3, ↓mf_20_4, ↓mf_20_5, ↓mp_20_6, ↓mf_20_6, ↓mf_20_7, ↓mp_20_8, ↓mf_20_8, ↓mf_20_9, ↓mf_20_10, ↓mp_20_11, ↓mf_20_11, ↓mf_20_12, ↓mf_20_13, ↓mp_20_14, ↓mf_20_14, ↓mf_20_15, ↓mp_20_16, ↓mf_20_16, ↓ma_21, ↓ms_21, ↓ma_22, ↓ms_22, ↓ma_23, ↓ms_23, ↓ma_24, ↓ms_24, ↓ma_25, ↓ms_25, ↓ma_26, ↓ms_26, ↓ma_27, ↓ms_27, ↓ma_28, ↓ms_28, ↓ma_29, ↓ms_29, ↓ma_30, ↓ms_30, ↓ma_31, ↓ms_31, ↓bnd_some, ↓cond_true, ↓m_pv_none, ↓m_pv_some, m_b01_0, m_b01_1, true_and, and_true, eq_self, h.1, e1, ↓reduceIte, ↓g1, nI_1, Int32.add_zero]
      exact ih
theorem n_reds (h : RW d l) (hk : Tok l) (K : Option Value → mM → Prop) : go S 112 0 [.ref 20, .null, .null] [] (mk c (md d)) K = K (some (.int (nI (cnt (red l) l.length)))) (mk c (md d)) := by
  have g := n_redsL (S := S) (c := c) h hk l.length 0 rfl K
  simp only [↓g112_0, ↓g112_1, ↓g112_2, ↓g112_3, ↓g112_5, ↓g112_6, ↓g112_9, ↓g112_12, ↓g112_13, ↓g112_14, ↓g112_15, ↓g112_18, ↓g112_21, ↓g112_22, ↓g112_25, ↓g112_26, ↓g112_27, ↓g112_28, ↓g112_31, ↓g112_34, ↓g112_35]
  exact g
theorem n_greatL (h : RW d l) (hk : Tok l) : ∀ (n p : Nat), n + p = l.length → ∀ (K : Option Value → mM → Prop), go S 113 5 [.ref 20, .int (mxv l p), .int (nI p)] [] (mk c (md d)) K = K (some (.int (mxv l l.length))) (mk c (md d))
  | 0, p, hn, K => by
    have e : p = l.length := by omega
    subst e
    rw [g113_5]
    simp only [↓g113_0, ↓g113_2, ↓g113_3, ↓g113_4, ↓g113_6, ↓g113_7, ↓g113_10, ↓g113_13, ↓g113_14, ↓g113_15, ↓g113_18, ↓g113_21, ↓g113_22, ↓g113_23, ↓g113_26, ↓g113_27, ↓g113_30, ↓g113_31, ↓g113_32, ↓g113_35, ↓g113_38, ↓g113_39, ↓g113_40, ↓g113_43, ↓g113_46, ↓g113_47, ↓mo_20, ↓mf_20_0, ↓mf_20_1, ↓mp_20_2, ↓mf_20_2, ↓mf_20_3, ↓mf_20_4, ↓mf_20_5, ↓mp_20_6, ↓mf_20_6, ↓mf_20_7, ↓mp_20_8, ↓mf_20_8, ↓mf_20_9, ↓mf_20_10, ↓mp_20_11, ↓mf_20_11, ↓mf_20_12, ↓mf_20_13, ↓mp_20_14, ↓mf_20_14, ↓mf_20_15, ↓mp_20_16, ↓mf_20_16, ↓ma_21, ↓ms_21, ↓ma_22, ↓ms_22, ↓ma_23, ↓ms_23, ↓ma_24, ↓ms_24, ↓ma_25, ↓ms_25, ↓ma_26, ↓ms_26, ↓ma_27, ↓ms_27, ↓ma_28, ↓ms_28, ↓ma_29, ↓ms_29, ↓ma_30, ↓ms_30, ↓ma_31, ↓ms_31, ↓bnd_some, ↓cond_true, ↓m_pv_none, ↓m_pv_some, m_b01_0, m_b01_1, true_and, and_true, eq_self, h.1, Int32.le_refl, ↓reduceIte]
  | n + 1, p, hn, K => by
    have hl := hk.2
    have hpl : p < l.length := by omega
    have hkd := hk.1.kd hpl
    have e1 : ¬ nI l.length ≤ nI p := nI_ge (by omega) (by omega)
    have g1 := fun K => n_kind (S := S) (c := c) h hk hpl K
    have g2 := fun K => n_number (S := S) (c := c) h hk hpl K
    have e2 : (nI (kd l p) = 0) ↔ kd l p = 0 := nI_eq (b := 0) (by omega) (by decide)
    have ih := n_greatL h hk n (p + 1) (by omega) K
    rw [mxv] at ih
    rw [g113_5]
    by_cases z : kd l p = 0
    · rw [if_pos z] at ih
      by_cases z2 : mxv l p < nI (nu l p)
      · rw [if_pos z2] at ih
        simp only [↓g113_0, ↓g113_2, ↓g113_3, ↓g113_4, ↓g113_6, ↓g113_7, ↓g113_10, ↓g113_13, ↓g113_14, ↓g113_15, ↓g113_18, ↓g113_21, ↓g113_22, ↓g113_23, ↓g113_26, ↓g113_27, ↓g113_30, ↓g113_31, ↓g113_32, ↓g113_35, ↓g113_38, ↓g113_39, ↓g113_40, ↓g113_43, ↓g113_46, ↓g113_47, ↓mo_20, ↓mf_20_0, ↓mf_20_1, ↓mp_20_2, ↓mf_20_2, ↓mf_20_3, ↓mf_20_4, ↓mf_20_5, ↓mp_20_6, ↓mf_20_6, ↓mf_20_7, ↓mp_20_8, ↓mf_20_8, ↓mf_20_9, ↓mf_20_10, ↓mp_20_11, ↓mf_20_11, ↓mf_20_12, ↓mf_20_13, ↓mp_20_14, ↓mf_20_14, ↓mf_20_15, ↓mp_20_16, ↓mf_20_16, ↓ma_21, ↓ms_21, ↓ma_22, ↓ms_22, ↓ma_23, ↓ms_23, ↓ma_24, ↓ms_24, ↓ma_25, ↓ms_25, ↓ma_26, ↓ms_26, ↓ma_27, ↓ms_27, ↓ma_28, ↓ms_28, ↓ma_29, ↓ms_29, ↓ma_30, ↓ms_30, ↓ma_31, ↓ms_31, ↓bnd_some, ↓cond_true, ↓m_pv_none, ↓m_pv_some, m_b01_0, m_b01_1, true_and, and_true, eq_self, h.1, e1, ↓reduceIte, ↓g1, e2.mpr z, ↓g2, Int32.not_le.mpr z2, nI_1]
        exact ih
      · rw [if_neg z2] at ih
        simp only [↓g113_0, ↓g113_2, ↓g113_3, ↓g113_4, ↓g113_6, ↓g113_7, ↓g113_10, ↓g113_13, ↓g113_14, ↓g113_15, ↓g113_18, ↓g113_21, ↓g113_22, ↓g113_23, ↓g113_26, ↓g113_27, ↓g113_30, ↓g113_31, ↓g113_32, ↓g113_35, ↓g113_38, ↓g113_39, ↓g113_40, ↓g113_43, ↓g113_46, ↓g113_47, ↓mo_20, ↓mf_20_0, ↓mf_20_1, ↓mp_20_2, ↓mf_20_2, ↓mf_20_3, ↓mf_20_4, ↓mf_20_5, ↓mp_20_6, ↓mf_20_6, ↓mf_20_7, ↓mp_20_8, ↓mf_20_8, ↓mf_20_9, ↓mf_20_10, ↓mp_20_11, ↓mf_20_11, ↓mf_20_12, ↓mf_20_13, ↓mp_20_14, ↓mf_20_14, ↓mf_20_15, ↓mp_20_16, ↓mf_20_16, ↓ma_21, ↓ms_21, ↓ma_22, ↓ms_22, ↓ma_23, ↓ms_23, ↓ma_24, ↓ms_24, ↓ma_25, ↓ms_25, ↓ma_26, ↓ms_26, ↓ma_27, ↓ms_27, ↓ma_28, ↓ms_28, ↓ma_29, ↓ms_29, ↓ma_30, ↓ms_30, ↓ma_31, ↓ms_31, ↓bnd_some, ↓cond_true, ↓m_pv_none, ↓m_pv_some, m_b01_0, m_b01_1, true_and, and_true, eq_self, h.1, e1, ↓reduceIte, ↓g1, e2.mpr z, ↓g2, Int32.not_lt.mp z2, nI_1]
        exact ih
    · rw [if_neg z] at ih
      simp only [↓g113_0, ↓g113_2, ↓g113_3, ↓g113_4, ↓g113_6, ↓g113_7, ↓g113_10, ↓g113_13, ↓g113_14, ↓g113_15, ↓g113_18, ↓g113_21, ↓g113_22, ↓g113_23, ↓g113_26, ↓g113_27, ↓g113_30, ↓g113_31, ↓g113_32, ↓g113_35, ↓g113_38, ↓g113_39, ↓g113_40, ↓g113_43, ↓g113_46, ↓g113_47, ↓mo_20, ↓mf_20_0, ↓mf_20_1, ↓mp_20_2, ↓mf_20_2, ↓mf_20_3, ↓mf_20_4, ↓mf_20_5, ↓mp_20_6, ↓mf_20_6, ↓mf_20_7, ↓mp_20_8, ↓mf_20_8, ↓mf_20_9, ↓mf_20_10, ↓mp_20_11, ↓mf_20_11, ↓mf_20_12, ↓mf_20_13, ↓mp_20_14, ↓mf_20_14, ↓mf_20_15, ↓mp_20_16, ↓mf_20_16, ↓ma_21, ↓ms_21, ↓ma_22, ↓ms_22, ↓ma_23, ↓ms_23, ↓ma_24, ↓ms_24, ↓ma_25, ↓ms_25, ↓ma_26, ↓ms_26, ↓ma_27, ↓ms_27, ↓ma_28, ↓ms_28, ↓ma_29, ↓ms_29, ↓ma_30, ↓ms_30, ↓ma_31, ↓ms_31, ↓bnd_some, ↓cond_true, ↓m_pv_none, ↓m_pv_some, m_b01_0, m_b01_1, true_and, and_true, eq_self, h.1, e1, ↓reduceIte, ↓g1, e2, z, nI_1]
      exact ih
theorem n_great (h : RW d l) (hk : Tok l) (K : Option Value → mM → Prop) : go S 113 0 [.ref 20, .null, .null] [] (mk c (md d)) K = K (some (.int (mxv l l.length))) (mk c (md d)) := by
  have g := n_greatL (S := S) (c := c) h hk l.length 0 rfl K
  simp only [↓g113_0, ↓g113_2, ↓g113_3, ↓g113_4, ↓g113_6, ↓g113_7, ↓g113_10, ↓g113_13, ↓g113_14, ↓g113_15, ↓g113_18, ↓g113_21, ↓g113_22, ↓g113_23, ↓g113_26, ↓g113_27, ↓g113_30, ↓g113_31, ↓g113_32, ↓g113_35, ↓g113_38, ↓g113_39, ↓g113_40, ↓g113_43, ↓g113_46, ↓g113_47]
  exact g
end MOD6
