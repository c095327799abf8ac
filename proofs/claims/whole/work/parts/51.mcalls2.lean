/-! the model's calls, on: terms from terms, steps -/
section MC2
variable {S : mS} {c : Nat → Nat → Int32} {σ : Sg} {l : Tm}
theorem n_mvSR (d : Nat → Nat → Int32) {p q w : Nat} (hp : p + w ≤ 1206) (hq : q + w ≤ 200) (K : Option Value → mM → Prop) {x y z : Int32} (hx : x = nI p) (hy : y = nI q) (hz : z = nI w) : go S 83 0 [.ref 21, .int x, .ref 26, .int y, .int z, .null] [] (mk c (md d)) K = K none (mk c (md (ca d 6 (va_cpy (d 1) (d 6) p q w)))) := by
  have g := n_moves (S := S) (F := fun g => mk c (md (ca d 6 g))) (a := 21) (b := 26) (f := d 1) (fun g => rfl) (fun g => rfl) (fun g g' => by
    show mk c (md (ca (ca d 6 g) 6 g')) = _
    rw [ca_ca]) (by decide) (by decide) (p := p) (q := q) (w := w) hp hq (d 6) K hx hy hz
  simp only [ca_self] at g
  exact g
theorem n_mvNR (d : Nat → Nat → Int32) {w : Nat} (hw : w ≤ 200) (K : Option Value → mM → Prop) : go S 83 0 [.ref 28, .int 0, .ref 26, .int 0, .int (nI w), .null] [] (mk c (md d)) K = K none (mk c (md (ca d 6 (va_cpy (d 8) (d 6) 0 0 w)))) := by
  have g := n_moves (S := S) (F := fun g => mk c (md (ca d 6 g))) (a := 28) (b := 26) (f := d 8) (fun g => rfl) (fun g => rfl) (fun g g' => by
    show mk c (md (ca (ca d 6 g) 6 g')) = _
    rw [ca_ca]) (by decide) (by decide) (p := 0) (q := 0) (w := w) (by omega) (by omega) (d 6) K (x := 0) (y := 0)
  simp only [ca_self] at g
  exact g
theorem M_apply {d : Nat → Nat → Int32} (h : MI d σ) (ho : SOk σ) (x y z : Int32) : MC S 105 [.ref 20, .int x, .int y, .int z, .null] d c (F_apply σ x y z) := by
  unfold F_apply
  cases hx : rgx x 6 with
  | none => exact ⟨d, h, fun K => by simp only [↓g105_0, ↓g105_1, ↓g105_4, ↓g105_7, ↓g105_8, ↓g105_11, ↓g105_14, ↓g105_15, ↓g105_18, ↓g105_21, ↓g105_22, ↓g105_23, ↓g105_24, ↓g105_25, ↓g105_28, ↓g105_29, ↓g105_30, ↓g105_31, ↓g105_32, ↓g105_35, ↓g105_36, ↓g105_37, ↓g105_38, ↓g105_40, ↓g105_42, ↓g105_45, ↓g105_48, ↓g105_50, ↓g105_51, ↓g105_52, ↓g105_55, ↓g105_56, ↓g105_59, ↓g105_60, ↓g105_63, ↓g105_64, ↓g105_65, ↓g105_68, ↓g105_70, ↓g105_73, ↓g105_74, ↓g105_75, ↓g105_76, ↓g105_77, ↓g105_80, ↓g105_81, ↓g105_82, ↓g105_85, ↓g105_86, ↓g105_87, ↓g105_90, ↓g105_91, ↓g105_94, ↓g105_96, ↓g105_99, ↓g105_100, ↓g105_101, ↓g105_102, ↓g105_103, ↓g105_106, ↓g105_107, ↓g105_108, ↓g105_111, ↓g105_112, ↓g105_113, ↓g105_114, ↓g105_115, ↓g105_118, ↓g105_119, ↓g105_120, ↓g105_123, ↓g105_124, ↓g105_126, ↓g105_129, ↓g105_130, ↓g105_131, ↓g105_134, ↓g105_135, ↓g105_138, ↓mo_20, ↓mf_20_0, ↓mf_20_1, ↓mp_20_2, ↓mf_20_2, ↓mf_20_3, ↓mf_20_4, ↓mf_20_5, ↓mp_20_6, ↓mf_20_6, ↓mf_20_7, ↓mp_20_8, ↓mf_20_8, ↓mf_20_9, ↓mf_20_10, ↓mp_20_11, ↓mf_20_11, ↓mf_20_12, ↓mf_20_13, ↓mp_20_14, ↓mf_20_14, ↓mf_20_15, ↓mp_20_16, ↓mf_20_16, ↓ma_21, ↓ms_21, ↓ma_22, ↓ms_22, ↓ma_23, ↓ms_23, ↓ma_24, ↓ms_24, ↓ma_25, ↓ms_25, ↓ma_26, ↓ms_26, ↓ma_27, ↓ms_27, ↓ma_28, ↓ms_28, ↓ma_29, ↓ms_29, ↓ma_30, ↓ms_30, ↓ma_31, ↓ms_31, ↓bnd_some, ↓cond_true, ↓m_pv_none, ↓m_pv_some, m_b01_0, m_b01_1, true_and, and_true, eq_self, ↓z_reg _ hx, ↓reduceIte]⟩
  | some i =>
    obtain ⟨hi, rfl⟩ := rgx_some hx (by decide)
    cases hy : rgx y 6 with
    | none => exact ⟨d, h, fun K => by simp only [↓g105_0, ↓g105_1, ↓g105_4, ↓g105_7, ↓g105_8, ↓g105_11, ↓g105_14, ↓g105_15, ↓g105_18, ↓g105_21, ↓g105_22, ↓g105_23, ↓g105_24, ↓g105_25, ↓g105_28, ↓g105_29, ↓g105_30, ↓g105_31, ↓g105_32, ↓g105_35, ↓g105_36, ↓g105_37, ↓g105_38, ↓g105_40, ↓g105_42, ↓g105_45, ↓g105_48, ↓g105_50, ↓g105_51, ↓g105_52, ↓g105_55, ↓g105_56, ↓g105_59, ↓g105_60, ↓g105_63, ↓g105_64, ↓g105_65, ↓g105_68, ↓g105_70, ↓g105_73, ↓g105_74, ↓g105_75, ↓g105_76, ↓g105_77, ↓g105_80, ↓g105_81, ↓g105_82, ↓g105_85, ↓g105_86, ↓g105_87, ↓g105_90, ↓g105_91, ↓g105_94, ↓g105_96, ↓g105_99, ↓g105_100, ↓g105_101, ↓g105_102, ↓g105_103, ↓g105_106, ↓g105_107, ↓g105_108, ↓g105_111, ↓g105_112, ↓g105_113, ↓g105_114, ↓g105_115, ↓g105_118, ↓g105_119, ↓g105_120, ↓g105_123, ↓g105_124, ↓g105_126, ↓g105_129, ↓g105_130, ↓g105_131, ↓g105_134, ↓g105_135, ↓g105_138, ↓mo_20, ↓mf_20_0, ↓mf_20_1, ↓mp_20_2, ↓mf_20_2, ↓mf_20_3, ↓mf_20_4, ↓mf_20_5, ↓mp_20_6, ↓mf_20_6, ↓mf_20_7, ↓mp_20_8, ↓mf_20_8, ↓mf_20_9, ↓mf_20_10, ↓mp_20_11, ↓mf_20_11, ↓mf_20_12, ↓mf_20_13, ↓mp_20_14, ↓mf_20_14, ↓mf_20_15, ↓mp_20_16, ↓mf_20_16, ↓ma_21, ↓ms_21, ↓ma_22, ↓ms_22, ↓ma_23, ↓ms_23, ↓ma_24, ↓ms_24, ↓ma_25, ↓ms_25, ↓ma_26, ↓ms_26, ↓ma_27, ↓ms_27, ↓ma_28, ↓ms_28, ↓ma_29, ↓ms_29, ↓ma_30, ↓ms_30, ↓ma_31, ↓ms_31, ↓bnd_some, ↓cond_true, ↓m_pv_none, ↓m_pv_some, m_b01_0, m_b01_1, true_and, and_true, eq_self, ↓o_reg _ hi, ↓z_reg _ hy, i_10, ↓reduceIte]⟩
    | some j =>
      obtain ⟨hj, rfl⟩ := rgx_some hy (by decide)
      cases hz : rgx z 6 with
      | none => exact ⟨d, h, fun K => by simp only [↓g105_0, ↓g105_1, ↓g105_4, ↓g105_7, ↓g105_8, ↓g105_11, ↓g105_14, ↓g105_15, ↓g105_18, ↓g105_21, ↓g105_22, ↓g105_23, ↓g105_24, ↓g105_25, ↓g105_28, ↓g105_29, ↓g105_30, ↓g105_31, ↓g105_32, ↓g105_35, ↓g105_36, ↓g105_37, ↓g105_38, ↓g105_40, ↓g105_42, ↓g105_45, ↓g105_48, ↓g105_50, ↓g105_51, ↓g105_52, ↓g105_55, ↓g105_56, ↓g105_59, ↓g105_60, ↓g105_63, ↓g105_64, ↓g105_65, ↓g105_68, ↓g105_70, ↓g105_73, ↓g105_74, ↓g105_75, ↓g105_76, ↓g105_77, ↓g105_80, ↓g105_81, ↓g105_82, ↓g105_85, ↓g105_86, ↓g105_87, ↓g105_90, ↓g105_91, ↓g105_94, ↓g105_96, ↓g105_99, ↓g105_100, ↓g105_101, ↓g105_102, ↓g105_103, ↓g105_106, ↓g105_107, ↓g105_108, ↓g105_111, ↓g105_112, ↓g105_113, ↓g105_114, ↓g105_115, ↓g105_118, ↓g105_119, ↓g105_120, ↓g105_123, ↓g105_124, ↓g105_126, ↓g105_129, ↓g105_130, ↓g105_131, ↓g105_134, ↓g105_135, ↓g105_138, ↓mo_20, ↓mf_20_0, ↓mf_20_1, ↓mp_20_2, ↓mf_20_2, ↓mf_20_3, ↓mf_20_4, ↓mf_20_5, ↓mp_20_6, ↓mf_20_6, ↓mf_20_7, ↓mp_20_8, ↓mf_20_8, ↓mf_20_9, ↓mf_20_10, ↓mp_20_11, ↓mf_20_11, ↓mf_20_12, ↓mf_20_13, ↓mp_20_14, ↓mf_20_14, ↓mf_20_15, ↓mp_20_16, ↓mf_20_16, ↓ma_21, ↓ms_21, ↓ma_22, ↓ms_22, ↓ma_23, ↓ms_23, ↓ma_24, ↓ms_24, ↓ma_25, ↓ms_25, ↓ma_26, ↓ms_26, ↓ma_27, ↓ms_27, ↓ma_28, ↓ms_28, ↓ma_29, ↓ms_29, ↓ma_30, ↓ms_30, ↓ma_31, ↓ms_31, ↓bnd_some, ↓cond_true, ↓m_pv_none, ↓m_pv_some, m_b01_0, m_b01_1, true_and, and_true, eq_self, ↓o_reg _ hi, ↓o_reg _ hj, ↓z_reg _ hz, i_10, ↓reduceIte]⟩
      | some k =>
        obtain ⟨hk, rfl⟩ := rgx_some hz (by decide)
        have b1 := (ho.reg hi).2
        have b2 := (ho.reg hj).2
        have i1 := ib (show i < 1206 by omega)
        have i2 := nI_clamp (show i < 2 ^ 31 by omega)
        have i3 := ib (show j < 1206 by omega)
        have i4 := nI_clamp (show j < 2 ^ 31 by omega)
        have l1 : d 1 i = nI (σ.1 i).length := by have := (h.1 i hi).1; rw [Nat.zero_add] at this; exact this
        have l2 : d 1 j = nI (σ.1 j).length := by have := (h.1 j hj).1; rw [Nat.zero_add] at this; exact this
        dsimp only
        by_cases hf : 1 + (σ.1 i).length + (σ.1 j).length ≤ 200
        · rw [if_pos hf]
          obtain ⟨d2, h2, mr, g2⟩ := mi_rec (S := S) (c := c) h ho
          have l3 : d2 1 i = nI (σ.1 i).length := by have := (h2.1 i hi).1; rw [Nat.zero_add] at this; exact this
          have l4 : d2 1 j = nI (σ.1 j).length := by have := (h2.1 j hj).1; rw [Nat.zero_add] at this; exact this
          let d3 := ca d2 6 (upd (d2 6) 0 3000)
          let d4 := ca d3 6 (va_cpy (d2 1) (d3 6) (6 + 200 * i) 1 (σ.1 i).length)
          let d5 := ca d4 6 (va_cpy (d2 1) (d4 6) (6 + 200 * j) (1 + (σ.1 i).length) (σ.1 j).length)
          let d6 := ca d5 0 (upd (d5 0) 8 (nI (1 + (σ.1 i).length + (σ.1 j).length)))
          have v3 : d3 1 = d2 1 := ca_ne (by decide)
          have v4 : d4 1 = d2 1 := (ca_ne (by decide)).trans v3
          have w3 : d3 6 = upd (d2 6) 0 3000 := ca_eq _ _ _
          have w4 : d4 6 = va_cpy (d2 1) (d3 6) (6 + 200 * i) 1 (σ.1 i).length := ca_eq _ _ _
          have w5 : d5 6 = va_cpy (d2 1) (d4 6) (6 + 200 * j) (1 + (σ.1 i).length) (σ.1 j).length := ca_eq _ _ _
          have m6 : mx [6] [8] d2 d6 := mx_tr (mx_tr (mx_ca (by simp) (by decide)) (mx_tr (mx_ca (d := d3) (by simp) (by decide)) (mx_ca (d := d4) (by simp) (by decide)))) (mx_u (d := d5) (a := 8) (by simp))
          have h6 := h2.mx m6 (by simp) (by simp) (by simp) (by simp) (by simp) (by simp) (by simp)
          have u3 : ((3, 0) :: (σ.1 i ++ σ.1 j) : Tm).length = 1 + (σ.1 i).length + (σ.1 j).length := by rw [List.length_cons, List.length_append]; omega
          have r6 : RW d6 ((3, 0) :: (σ.1 i ++ σ.1 j)) := by
            refine ⟨by rw [u3]; show ca d5 0 _ 0 8 = _; rw [ca_eq, upd_eq], fun p hp => ?_⟩
            rw [u3] at hp
            have e6 : d6 6 = d5 6 := ca_ne (by decide)
            rw [e6, w5]
            by_cases p2 : 1 + (σ.1 i).length ≤ p
            · rw [pk_cpy_in p2 (by omega)]
              have e := (h2.1 j hj).2 (p - (1 + (σ.1 i).length)) (by show _ < (σ.1 j).length; omega)
              rw [Nat.zero_add] at e
              rw [e]
              congr 2
              show pt (σ.1 j) _ = ((3, 0) :: (σ.1 i ++ σ.1 j)).getD p (0, 0)
              obtain ⟨u, rfl⟩ := Nat.exists_eq_add_of_le p2
              rw [show 1 + (σ.1 i).length + u = (σ.1 i).length + u + 1 by omega, List.getD_cons_succ, show (σ.1 i).length + u + 1 - (1 + (σ.1 i).length) = u by omega]
              unfold pt
              rw [List.getD_eq_getElem?_getD, List.getD_eq_getElem?_getD, List.getElem?_append_right (by omega), show (σ.1 i).length + u - (σ.1 i).length = u by omega]
            · rw [pk_cpy_out (by omega), w4]
              by_cases p1 : 1 ≤ p
              · rw [pk_cpy_in p1 (by omega)]
                have e := (h2.1 i hi).2 (p - 1) (by show _ < (σ.1 i).length; omega)
                rw [Nat.zero_add] at e
                rw [e]
                congr 2
                show pt (σ.1 i) _ = ((3, 0) :: (σ.1 i ++ σ.1 j)).getD p (0, 0)
                obtain ⟨u, rfl⟩ := Nat.exists_eq_add_of_le p1
                rw [show 1 + u = u + 1 by omega, List.getD_cons_succ, Nat.add_sub_cancel]
                unfold pt
                rw [List.getD_eq_getElem?_getD, List.getD_eq_getElem?_getD, List.getElem?_append_left (by omega)]
              · have e0 : p = 0 := by omega
                subst e0
                rw [pk_cpy_out (by omega), w3, upd_eq]
                rfl
          obtain ⟨d7, m7, s7, g7⟩ := n_store (S := S) (c := c) r6 hk (by rw [u3]; exact hf)
          have h7 := mi_setR h6 (kp_ok ho) s7 m7
          have e9 : d7 0 8 = nI (1 + (σ.1 i).length + (σ.1 j).length) := by rw [m7.2 8 (by simp), r6.1, u3]
          have x1 : (6 : Int32) + 200 * nI i = nI (6 + 200 * i) := by rw [l_6, l_200, pk_mul, nI_add]
          have x2 : (6 : Int32) + 200 * nI j = nI (6 + 200 * j) := by rw [l_6, l_200, pk_mul, nI_add]
          have x3 : (1 : Int32) + nI (σ.1 i).length = nI (1 + (σ.1 i).length) := by rw [l_1, nI_add]
          have g3 : ∀ K, go S 83 0 [.ref 21, .int (6 + 200 * nI i), .ref 26, .int 1, .int (nI (σ.1 i).length), .null] [] (mk c (md d3)) K = K none (mk c (md d4)) := fun K => by
            have g := n_mvSR (S := S) (c := c) d3 (p := 6 + 200 * i) (q := 1) (w := (σ.1 i).length) (by omega) (by omega) K x1 (y := 1) rfl rfl
            rw [v3] at g
            exact g
          have g4 : ∀ K, go S 83 0 [.ref 21, .int (6 + 200 * nI j), .ref 26, .int (1 + nI (σ.1 i).length), .int (nI (σ.1 j).length), .null] [] (mk c (md d4)) K = K none (mk c (md d5)) := fun K => by
            have g := n_mvSR (S := S) (c := c) d4 (p := 6 + 200 * j) (q := 1 + (σ.1 i).length) (w := (σ.1 j).length) (by omega) (by omega) K x2 x3 rfl
            rw [v4] at g
            exact g
          have q3 : (nI (1 + (σ.1 i).length + (σ.1 j).length) ≤ 200) = True := eq_true (nI_le (b := 200) hf (by decide))
          have q4 : (1 : Int32) + nI (σ.1 i).length + nI (σ.1 j).length = nI (1 + (σ.1 i).length + (σ.1 j).length) := by rw [x3, nI_add]
          have f3 : ca d2 6 (upd (d2 6) 0 3000) = d3 := rfl
          have f6 : ca d5 0 (upd (d5 0) 8 (nI (1 + (σ.1 i).length + (σ.1 j).length))) = d6 := rfl
          have y3 : d3 1 i = nI (σ.1 i).length := by rw [v3]; exact l3
          have y4 : d4 1 i = nI (σ.1 i).length := by rw [v4]; exact l3
          have y5 : d4 1 j = nI (σ.1 j).length := by rw [v4]; exact l4
          clear_value d3 d4 d5 d6
          refine ⟨d7, h7, fun K => ?_⟩
          simp only [↓g105_0, ↓g105_1, ↓g105_4, ↓g105_7, ↓g105_8, ↓g105_11, ↓g105_14, ↓g105_15, ↓g105_18, ↓g105_21, ↓g105_22, ↓g105_23, ↓g105_24, ↓g105_25, ↓g105_28, ↓g105_29, ↓g105_30, ↓g105_31, ↓g105_32, ↓g105_35, ↓g105_36, ↓g105_37, ↓g105_38, ↓g105_40, ↓g105_42, ↓g105_45, ↓g105_48, ↓g105_50, ↓g105_51, ↓g105_52, ↓g105_55, ↓g105_56, ↓g105_59, ↓g105_60, ↓g105_63, ↓g105_64, ↓g105_65, ↓g105_68, ↓g105_70, ↓g105_73, ↓g105_74, ↓g105_75, ↓g105_76, ↓g105_77, ↓g105_80, ↓g105_81, ↓g105_82, ↓g105_85, ↓g105_86, ↓g105_87, ↓g105_90, ↓g105_91, ↓g105_94, ↓g105_96, ↓g105_99, ↓g105_100, ↓g105_101, ↓g105_102, ↓g105_103, ↓g105_106, ↓g105_107, ↓g105_108, ↓g105_111, ↓g105_112, ↓g105_113, ↓g105_114, ↓g105_115, ↓g105_118, ↓g105_119, ↓g105_120, ↓g105_123, ↓g105_124, ↓g105_126, ↓g105_129, ↓g105_130, ↓g105_131, ↓g105_134, ↓g105_135, ↓g105_138, ↓mo_20, ↓mf_20_0, ↓mf_20_1, ↓mp_20_2, ↓mf_20_2, ↓mf_20_3, ↓mf_20_4, ↓mf_20_5, ↓mp_20_6, ↓mf_20_6, ↓mf_20_7, ↓mp_20_8, ↓mf_20_8, ↓mf_20_9, ↓mf_20_10, ↓mp_20_11, ↓mf_20_11, ↓mf_20_12, ↓mf_20_13, ↓mp_20_14, ↓mf_20_14, ↓mf_20_15, ↓mp_20_16, ↓mf_20_16, ↓ma_21, ↓ms_21, ↓ma_22, ↓ms_22, ↓ma_23, ↓ms_23, ↓ma_24, ↓ms_24, ↓ma_25, ↓ms_25, ↓ma_26, ↓ms_26, ↓ma_27, ↓ms_27, ↓ma_28, ↓ms_28, ↓ma_29, ↓ms_29, ↓ma_30, ↓ms_30, ↓ma_31, ↓ms_31, ↓bnd_some, ↓cond_true, ↓m_pv_none, ↓m_pv_some, m_b01_0, m_b01_1, true_and, and_true, eq_self, ↓o_reg _ hi, ↓o_reg _ hj, ↓o_reg _ hk, i_10, ↓reduceIte, i1, i2, i3, i4, l1, l2, q3, ↓g2, show m_inb 0 200 = true from by decide, show (0 : Int32).toNatClampNeg = 0 from rfl, f3, y3, ↓g3, y4, y5, ↓g4, q4, f6, ↓g7, e9]
        · rw [if_neg hf]
          refine ⟨d, h, fun K => ?_⟩
          simp only [↓g105_0, ↓g105_1, ↓g105_4, ↓g105_7, ↓g105_8, ↓g105_11, ↓g105_14, ↓g105_15, ↓g105_18, ↓g105_21, ↓g105_22, ↓g105_23, ↓g105_24, ↓g105_25, ↓g105_28, ↓g105_29, ↓g105_30, ↓g105_31, ↓g105_32, ↓g105_35, ↓g105_36, ↓g105_37, ↓g105_38, ↓g105_40, ↓g105_42, ↓g105_45, ↓g105_48, ↓g105_50, ↓g105_51, ↓g105_52, ↓g105_55, ↓g105_56, ↓g105_59, ↓g105_60, ↓g105_63, ↓g105_64, ↓g105_65, ↓g105_68, ↓g105_70, ↓g105_73, ↓g105_74, ↓g105_75, ↓g105_76, ↓g105_77, ↓g105_80, ↓g105_81, ↓g105_82, ↓g105_85, ↓g105_86, ↓g105_87, ↓g105_90, ↓g105_91, ↓g105_94, ↓g105_96, ↓g105_99, ↓g105_100, ↓g105_101, ↓g105_102, ↓g105_103, ↓g105_106, ↓g105_107, ↓g105_108, ↓g105_111, ↓g105_112, ↓g105_113, ↓g105_114, ↓g105_115, ↓g105_118, ↓g105_119, ↓g105_120, ↓g105_123, ↓g105_124, ↓g105_126, ↓g105_129, ↓g105_130, ↓g105_131, ↓g105_134, ↓g105_135, ↓g105_138, ↓mo_20, ↓mf_20_0, ↓mf_20_1, ↓mp_20_2, ↓mf_20_2, ↓mf_20_3, ↓mf_20_4, ↓mf_20_5, ↓mp_20_6, ↓mf_20_6, ↓mf_20_7, ↓mp_20_8, ↓mf_20_8, ↓mf_20_9, ↓mf_20_10, ↓mp_20_11, ↓mf_20_11, ↓mf_20_12, ↓mf_20_13, ↓mp_20_14, ↓mf_20_14, ↓mf_20_15, ↓mp_20_16, ↓mf_20_16, ↓ma_21, ↓ms_21, ↓ma_22, ↓ms_22, ↓ma_23, ↓ms_23, ↓ma_24, ↓ms_24, ↓ma_25, ↓ms_25, ↓ma_26, ↓ms_26, ↓ma_27, ↓ms_27, ↓ma_28, ↓ms_28, ↓ma_29, ↓ms_29, ↓ma_30, ↓ms_30, ↓ma_31, ↓ms_31, ↓bnd_some, ↓cond_true, ↓m_pv_none, ↓m_pv_some, m_b01_0, m_b01_1, true_and, and_true, eq_self, ↓o_reg _ hi, ↓o_reg _ hj, ↓o_reg _ hk, i_10, ↓reduceIte, i1, i2, i3, i4, l1, l2, i_len b1 b2, hf]
theorem n_bndL (hk : Tok l) (hl2 : 1 + l.length ≤ 200) {k : Nat} (hk6 : k < 6) : ∀ (n p : Nat) (d : Nat → Nat → Int32), n + p = l.length → RW d l → DV d l → NX d (bnl l k p) → ∃ d', NX d' (bnl l k l.length) ∧ mx [8] [11] d d' ∧ ∀ a6 : Value, ∃ a6', ∀ (K : Option Value → mM → Prop) (a1 a3 : Value), go S 106 70 [.ref 20, a1, .int (nI k), a3, .int (nI (bnc l k p)), .int (nI p), a6] [] (mk c (md d)) K = go S 106 150 [.ref 20, a1, .int (nI k), a3, .int (nI (bnc l k l.length)), .int (nI l.length), a6'] [] (mk c (md d')) K
  | 0, p, d, hn, h, hv, hx => by
    have e : p = l.length := by omega
    subst e
    refine ⟨d, hx, mx_rf, fun a6 => ⟨a6, fun K a1 a3 => ?_⟩⟩
    rw [g106_70]
    simp only [↓g106_0, ↓g106_1, ↓g106_4, ↓g106_7, ↓g106_8, ↓g106_11, ↓g106_14, ↓g106_15, ↓g106_16, ↓g106_17, ↓g106_18, ↓g106_19, ↓g106_22, ↓g106_25, ↓g106_27, ↓g106_28, ↓g106_29, ↓g106_32, ↓g106_33, ↓g106_34, ↓g106_37, ↓g106_40, ↓g106_42, ↓g106_43, ↓g106_44, ↓g106_47, ↓g106_48, ↓g106_49, ↓g106_52, ↓g106_53, ↓g106_55, ↓g106_56, ↓g106_57, ↓g106_60, ↓g106_61, ↓g106_64, ↓g106_67, ↓g106_68, ↓g106_72, ↓g106_73, ↓g106_76, ↓g106_79, ↓g106_80, ↓g106_83, ↓g106_85, ↓g106_86, ↓g106_89, ↓g106_90, ↓g106_91, ↓g106_94, ↓g106_95, ↓g106_98, ↓g106_99, ↓g106_101, ↓g106_103, ↓g106_105, ↓g106_108, ↓g106_109, ↓g106_112, ↓g106_113, ↓g106_114, ↓g106_116, ↓g106_117, ↓g106_119, ↓g106_122, ↓g106_123, ↓g106_124, ↓g106_127, ↓g106_129, ↓g106_130, ↓g106_131, ↓g106_134, ↓g106_135, ↓g106_138, ↓g106_140, ↓g106_141, ↓g106_144, ↓g106_147, ↓g106_151, ↓g106_152, ↓g106_155, ↓g106_158, ↓g106_159, ↓g106_162, ↓g106_163, ↓g106_164, ↓g106_167, ↓g106_168, ↓g106_169, ↓g106_172, ↓g106_175, ↓g106_176, ↓g106_177, ↓g106_180, ↓g106_182, ↓mo_20, ↓mf_20_0, ↓mf_20_1, ↓mp_20_2, ↓mf_20_2, ↓mf_20_3, ↓mf_20_4, ↓mf_20_5, ↓mp_20_6, ↓mf_20_6, ↓mf_20_7, ↓mp_20_8, ↓mf_20_8, ↓mf_20_9, ↓mf_20_10, ↓mp_20_11, ↓mf_20_11, ↓mf_20_12, ↓mf_20_13, ↓mp_20_14, ↓mf_20_14, ↓mf_20_15, ↓mp_20_16, ↓mf_20_16, ↓ma_21, ↓ms_21, ↓ma_22, ↓ms_22, ↓ma_23, ↓ms_23, ↓ma_24, ↓ms_24, ↓ma_25, ↓ms_25, ↓ma_26, ↓ms_26, ↓ma_27, ↓ms_27, ↓ma_28, ↓ms_28, ↓ma_29, ↓ms_29, ↓ma_30, ↓ms_30, ↓ma_31, ↓ms_31, ↓bnd_some, ↓cond_true, ↓m_pv_none, ↓m_pv_some, m_b01_0, m_b01_1, true_and, and_true, eq_self, h.1, Int32.le_refl, ↓reduceIte]
  | n + 1, p, d, hn, h, hv, hx => by
    have hpl : p < l.length := by omega
    have hkd := hk.1.kd hpl
    have hnu := nu_lt hk.1 hpl (by omega)
    have e1 : ¬ nI l.length ≤ nI p := nI_ge (by omega) (by omega)
    have e2 : (nI (cm (pt l p)) = 1000 + nI k) ↔ pt l p = (1, k) := by
      rw [show (1000 : Int32) = nI 1000 from rfl, nI_add, nI_eq (by show 1000 * kd l p + nu l p < _; omega) (by omega)]
      constructor
      · intro z
        have z : 1000 * kd l p + nu l p = 1000 + k := z
        exact Prod.ext (show kd l p = 1 by omega) (show nu l p = k by omega)
      · intro z
        rw [z]
        show 1000 * 1 + k = _
        omega
    have i1 := ib (show p < 200 by omega)
    have i2 := nI_clamp (show p < 2 ^ 31 by omega)
    have hs : bnl l k (p + 1) = bnl l k p ++ [bnp l k p] := rfl
    have e5 : bnc l k (p + 1) = bnc l k p + (if pt l p = (1, k) then 1 else 0) := by
      unfold bnc
      rw [cnt]
      simp
    by_cases hc : pt l p = (1, k)
    · obtain ⟨d1, b1, b2, b3⟩ := n_gives (S := S) (c := c) hx (by rw [bnl_len]; omega) (bnp l k p) (v := 0 + nI (dep l p)) (by
        unfold bnp
        rw [if_pos hc, Int32.zero_add]
        congr 1
        show dep l p = 1000 * 0 + dep l p
        omega)
      rw [← hs] at b1
      obtain ⟨d2, q1, q2, q3⟩ := n_bndL hk hl2 hk6 n (p + 1) d1 (by omega) (h.mx b2 (by simp) (by simp)) (hv.mx b2 (by simp)) b1
      rw [e5, if_pos hc] at q3
      refine ⟨d2, q1, mx_tr b2 q2, fun a6 => ?_⟩
      obtain ⟨a6', q4⟩ := q3 (.int 1)
      refine ⟨a6', fun K a1 a3 => ?_⟩
      rw [g106_70]
      simp only [↓g106_0, ↓g106_1, ↓g106_4, ↓g106_7, ↓g106_8, ↓g106_11, ↓g106_14, ↓g106_15, ↓g106_16, ↓g106_17, ↓g106_18, ↓g106_19, ↓g106_22, ↓g106_25, ↓g106_27, ↓g106_28, ↓g106_29, ↓g106_32, ↓g106_33, ↓g106_34, ↓g106_37, ↓g106_40, ↓g106_42, ↓g106_43, ↓g106_44, ↓g106_47, ↓g106_48, ↓g106_49, ↓g106_52, ↓g106_53, ↓g106_55, ↓g106_56, ↓g106_57, ↓g106_60, ↓g106_61, ↓g106_64, ↓g106_67, ↓g106_68, ↓g106_72, ↓g106_73, ↓g106_76, ↓g106_79, ↓g106_80, ↓g106_83, ↓g106_85, ↓g106_86, ↓g106_89, ↓g106_90, ↓g106_91, ↓g106_94, ↓g106_95, ↓g106_98, ↓g106_99, ↓g106_101, ↓g106_103, ↓g106_105, ↓g106_108, ↓g106_109, ↓g106_112, ↓g106_113, ↓g106_114, ↓g106_116, ↓g106_117, ↓g106_119, ↓g106_122, ↓g106_123, ↓g106_124, ↓g106_127, ↓g106_129, ↓g106_130, ↓g106_131, ↓g106_134, ↓g106_135, ↓g106_138, ↓g106_140, ↓g106_141, ↓g106_144, ↓g106_147, ↓g106_151, ↓g106_152, ↓g106_155, ↓g106_158, ↓g106_159, ↓g106_162, ↓g106_163, ↓g106_164, ↓g106_167, ↓g106_168, ↓g106_169, ↓g106_172, ↓g106_175, ↓g106_176, ↓g106_177, ↓g106_180, ↓g106_182, ↓mo_20, ↓mf_20_0, ↓mf_20_1, ↓mp_20_2, ↓mf_20_2, ↓mf_20_3, ↓mf_20_4, ↓mf_20_5, ↓mp_20_6, ↓mf_20_6, ↓mf_20_7, ↓mp_20_8, ↓mf_20_8, ↓mf_20_9, ↓mf_20_10, ↓mp_20_11, ↓mf_20_11, ↓mf_20_12, ↓mf_20_13, ↓mp_20_14, ↓mf_20_14, ↓mf_20_15, ↓mp_20_16, ↓mf_20_16, ↓ma_21, ↓ms_21, ↓ma_22, ↓ms_22, ↓ma_23, ↓ms_23, ↓ma_24, ↓ms_24, ↓ma_25, ↓ms_25, ↓ma_26, ↓ms_26, ↓ma_27, ↓ms_27, ↓ma_28, ↓ms_28, ↓ma_29, ↓ms_29, ↓ma_30, ↓ms_30, ↓ma_31, ↓ms_31, ↓bnd_some, ↓cond_true, ↓m_pv_none, ↓m_pv_some, m_b01_0, m_b01_1, true_and, and_true, eq_self, h.1, e1, ↓reduceIte, i1, i2, h.2 _ hpl, e2.mpr hc, i_10, hv _ hpl, ↓b3, nI_1]
      exact q4 K a1 a3
    · obtain ⟨d1, b1, b2, b3⟩ := n_gives (S := S) (c := c) hx (by rw [bnl_len]; omega) (bnp l k p) (v := nI (cm (pt l p))) (by
        unfold bnp
        rw [if_neg hc])
      rw [← hs] at b1
      obtain ⟨d2, q1, q2, q3⟩ := n_bndL hk hl2 hk6 n (p + 1) d1 (by omega) (h.mx b2 (by simp) (by simp)) (hv.mx b2 (by simp)) b1
      rw [e5, if_neg hc] at q3
      refine ⟨d2, q1, mx_tr b2 q2, fun a6 => ?_⟩
      obtain ⟨a6', q4⟩ := q3 (.int 0)
      refine ⟨a6', fun K a1 a3 => ?_⟩
      rw [g106_70]
      simp only [↓g106_0, ↓g106_1, ↓g106_4, ↓g106_7, ↓g106_8, ↓g106_11, ↓g106_14, ↓g106_15, ↓g106_16, ↓g106_17, ↓g106_18, ↓g106_19, ↓g106_22, ↓g106_25, ↓g106_27, ↓g106_28, ↓g106_29, ↓g106_32, ↓g106_33, ↓g106_34, ↓g106_37, ↓g106_40, ↓g106_42, ↓g106_43, ↓g106_44, ↓g106_47, ↓g106_48, ↓g106_49, ↓g106_52, ↓g106_53, ↓g106_55, ↓g106_56, ↓g106_57, ↓g106_60, ↓g106_61, ↓g106_64, ↓g106_67, ↓g106_68, ↓g106_72, ↓g106_73, ↓g106_76, ↓g106_79, ↓g106_80, ↓g106_83, ↓g106_85, ↓g106_86, ↓g106_89, ↓g106_90, ↓g106_91, ↓g106_94, ↓g106_95, ↓g106_98, ↓g106_99, ↓g106_101, ↓g106_103, ↓g106_105, ↓g106_108, ↓g106_109, ↓g106_112, ↓g106_113, ↓g106_114, ↓g106_116, ↓g106_117, ↓g106_119, ↓g106_122, ↓g106_123, ↓g106_124, ↓g106_127, ↓g106_129, ↓g106_130, ↓g106_131, ↓g106_134, ↓g106_135, ↓g106_138, ↓g106_140, ↓g106_141, ↓g106_144, ↓g106_147, ↓g106_151, ↓g106_152, ↓g106_155, ↓g106_158, ↓g106_159, ↓g106_162, ↓g106_163, ↓g106_164, ↓g106_167, ↓g106_168, ↓g106_169, ↓g106_172, ↓g106_175, ↓g106_176, ↓g106_177, ↓g106_180, ↓g106_182, ↓mo_20, ↓mf_20_0, ↓mf_20_1, ↓mp_20_2, ↓mf_20_2, ↓mf_20_3, ↓mf_20_4, ↓mf_20_5, ↓mp_20_6, ↓mf_20_6, ↓mf_20_7, ↓mp_20_8, ↓mf_20_8, ↓mf_20_9, ↓mf_20_10, ↓mp_20_11, ↓mf_20_11, ↓mf_20_12, ↓mf_20_13, ↓mp_20_14, ↓mf_20_14, ↓mf_20_15, ↓mp_20_16, ↓mf_20_16, ↓ma_21, ↓ms_21, ↓ma_22, ↓ms_22, ↓ma_23, ↓ms_23, ↓ma_24, ↓ms_24, ↓ma_25, ↓ms_25, ↓ma_26, ↓ms_26, ↓ma_27, ↓ms_27, ↓ma_28, ↓ms_28, ↓ma_29, ↓ms_29, ↓ma_30, ↓ms_30, ↓ma_31, ↓ms_31, ↓bnd_some, ↓cond_true, ↓m_pv_none, ↓m_pv_some, m_b01_0, m_b01_1, true_and, and_true, eq_self, h.1, e1, ↓reduceIte, i1, i2, h.2 _ hpl, e2, hc, ↓b3, nI_1, Int32.add_zero]
      exact q4 K a1 a3
theorem M_bind {d : Nat → Nat → Int32} (h : MI d σ) (ho : SOk σ) (x y z : Int32) : MC S 106 [.ref 20, .int x, .int y, .int z, .null, .null, .null] d c (F_bind σ x y z) := by
  unfold F_bind
  cases hx : rgx x 6 with
  | none => exact ⟨d, h, fun K => by simp only [↓g106_0, ↓g106_1, ↓g106_4, ↓g106_7, ↓g106_8, ↓g106_11, ↓g106_14, ↓g106_15, ↓g106_16, ↓g106_17, ↓g106_18, ↓g106_19, ↓g106_22, ↓g106_25, ↓g106_27, ↓g106_28, ↓g106_29, ↓g106_32, ↓g106_33, ↓g106_34, ↓g106_37, ↓g106_40, ↓g106_42, ↓g106_43, ↓g106_44, ↓g106_47, ↓g106_48, ↓g106_49, ↓g106_52, ↓g106_53, ↓g106_55, ↓g106_56, ↓g106_57, ↓g106_60, ↓g106_61, ↓g106_64, ↓g106_67, ↓g106_68, ↓g106_72, ↓g106_73, ↓g106_76, ↓g106_79, ↓g106_80, ↓g106_83, ↓g106_85, ↓g106_86, ↓g106_89, ↓g106_90, ↓g106_91, ↓g106_94, ↓g106_95, ↓g106_98, ↓g106_99, ↓g106_101, ↓g106_103, ↓g106_105, ↓g106_108, ↓g106_109, ↓g106_112, ↓g106_113, ↓g106_114, ↓g106_116, ↓g106_117, ↓g106_119, ↓g106_122, ↓g106_123, ↓g106_124, ↓g106_127, ↓g106_129, ↓g106_130, ↓g106_131, ↓g106_134, ↓g106_135, ↓g106_138, ↓g106_140, ↓g106_141, ↓g106_144, ↓g106_147, ↓g106_150, ↓g106_151, ↓g106_152, ↓g106_155, ↓g106_158, ↓g106_159, ↓g106_162, ↓g106_163, ↓g106_164, ↓g106_167, ↓g106_168, ↓g106_169, ↓g106_172, ↓g106_175, ↓g106_176, ↓g106_177, ↓g106_180, ↓g106_182, ↓mo_20, ↓mf_20_0, ↓mf_20_1, ↓mp_20_2, ↓mf_20_2, ↓mf_20_3, ↓mf_20_4, ↓mf_20_5, ↓mp_20_6, ↓mf_20_6, ↓mf_20_7, ↓mp_20_8, ↓mf_20_8, ↓mf_20_9, ↓mf_20_10, ↓mp_20_11, ↓mf_20_11, ↓mf_20_12, ↓mf_20_13, ↓mp_20_14, ↓mf_20_14, ↓mf_20_15, ↓mp_20_16, ↓mf_20_16, ↓ma_21, ↓ms_21, ↓ma_22, ↓ms_22, ↓ma_23, ↓ms_23, ↓ma_24, ↓ms_24, ↓ma_25, ↓ms_25, ↓ma_26, ↓ms_26, ↓ma_27, ↓ms_27, ↓ma_28, ↓ms_28, ↓ma_29, ↓ms_29, ↓ma_30, ↓ms_30, ↓ma_31, ↓ms_31, ↓bnd_some, ↓cond_true, ↓m_pv_none, ↓m_pv_some, m_b01_0, m_b01_1, true_and, and_true, eq_self, ↓z_reg _ hx, ↓reduceIte]⟩
  | some i =>
    obtain ⟨hi, rfl⟩ := rgx_some hx (by decide)
    cases hz : rgx z 6 with
    | none => exact ⟨d, h, fun K => by simp only [↓g106_0, ↓g106_1, ↓g106_4, ↓g106_7, ↓g106_8, ↓g106_11, ↓g106_14, ↓g106_15, ↓g106_16, ↓g106_17, ↓g106_18, ↓g106_19, ↓g106_22, ↓g106_25, ↓g106_27, ↓g106_28, ↓g106_29, ↓g106_32, ↓g106_33, ↓g106_34, ↓g106_37, ↓g106_40, ↓g106_42, ↓g106_43, ↓g106_44, ↓g106_47, ↓g106_48, ↓g106_49, ↓g106_52, ↓g106_53, ↓g106_55, ↓g106_56, ↓g106_57, ↓g106_60, ↓g106_61, ↓g106_64, ↓g106_67, ↓g106_68, ↓g106_72, ↓g106_73, ↓g106_76, ↓g106_79, ↓g106_80, ↓g106_83, ↓g106_85, ↓g106_86, ↓g106_89, ↓g106_90, ↓g106_91, ↓g106_94, ↓g106_95, ↓g106_98, ↓g106_99, ↓g106_101, ↓g106_103, ↓g106_105, ↓g106_108, ↓g106_109, ↓g106_112, ↓g106_113, ↓g106_114, ↓g106_116, ↓g106_117, ↓g106_119, ↓g106_122, ↓g106_123, ↓g106_124, ↓g106_127, ↓g106_129, ↓g106_130, ↓g106_131, ↓g106_134, ↓g106_135, ↓g106_138, ↓g106_140, ↓g106_141, ↓g106_144, ↓g106_147, ↓g106_150, ↓g106_151, ↓g106_152, ↓g106_155, ↓g106_158, ↓g106_159, ↓g106_162, ↓g106_163, ↓g106_164, ↓g106_167, ↓g106_168, ↓g106_169, ↓g106_172, ↓g106_175, ↓g106_176, ↓g106_177, ↓g106_180, ↓g106_182, ↓mo_20, ↓mf_20_0, ↓mf_20_1, ↓mp_20_2, ↓mf_20_2, ↓mf_20_3, ↓mf_20_4, ↓mf_20_5, ↓mp_20_6, ↓mf_20_6, ↓mf_20_7, ↓mp_20_8, ↓mf_20_8, ↓mf_20_9, ↓mf_20_10, ↓mp_20_11, ↓mf_20_11, ↓mf_20_12, ↓mf_20_13, ↓mp_20_14, ↓mf_20_14, ↓mf_20_15, ↓mp_20_16, ↓mf_20_16, ↓ma_21, ↓ms_21, ↓ma_22, ↓ms_22, ↓ma_23, ↓ms_23, ↓ma_24, ↓ms_24, ↓ma_25, ↓ms_25, ↓ma_26, ↓ms_26, ↓ma_27, ↓ms_27, ↓ma_28, ↓ms_28, ↓ma_29, ↓ms_29, ↓ma_30, ↓ms_30, ↓ma_31, ↓ms_31, ↓bnd_some, ↓cond_true, ↓m_pv_none, ↓m_pv_some, m_b01_0, m_b01_1, true_and, and_true, eq_self, ↓o_reg _ hi, ↓z_reg _ hz, i_10, ↓reduceIte]⟩
    | some j =>
      obtain ⟨hj, rfl⟩ := rgx_some hz (by decide)
      cases hy : rgx y 6 with
      | none => exact ⟨d, h, fun K => by simp only [↓g106_0, ↓g106_1, ↓g106_4, ↓g106_7, ↓g106_8, ↓g106_11, ↓g106_14, ↓g106_15, ↓g106_16, ↓g106_17, ↓g106_18, ↓g106_19, ↓g106_22, ↓g106_25, ↓g106_27, ↓g106_28, ↓g106_29, ↓g106_32, ↓g106_33, ↓g106_34, ↓g106_37, ↓g106_40, ↓g106_42, ↓g106_43, ↓g106_44, ↓g106_47, ↓g106_48, ↓g106_49, ↓g106_52, ↓g106_53, ↓g106_55, ↓g106_56, ↓g106_57, ↓g106_60, ↓g106_61, ↓g106_64, ↓g106_67, ↓g106_68, ↓g106_72, ↓g106_73, ↓g106_76, ↓g106_79, ↓g106_80, ↓g106_83, ↓g106_85, ↓g106_86, ↓g106_89, ↓g106_90, ↓g106_91, ↓g106_94, ↓g106_95, ↓g106_98, ↓g106_99, ↓g106_101, ↓g106_103, ↓g106_105, ↓g106_108, ↓g106_109, ↓g106_112, ↓g106_113, ↓g106_114, ↓g106_116, ↓g106_117, ↓g106_119, ↓g106_122, ↓g106_123, ↓g106_124, ↓g106_127, ↓g106_129, ↓g106_130, ↓g106_131, ↓g106_134, ↓g106_135, ↓g106_138, ↓g106_140, ↓g106_141, ↓g106_144, ↓g106_147, ↓g106_150, ↓g106_151, ↓g106_152, ↓g106_155, ↓g106_158, ↓g106_159, ↓g106_162, ↓g106_163, ↓g106_164, ↓g106_167, ↓g106_168, ↓g106_169, ↓g106_172, ↓g106_175, ↓g106_176, ↓g106_177, ↓g106_180, ↓g106_182, ↓mo_20, ↓mf_20_0, ↓mf_20_1, ↓mp_20_2, ↓mf_20_2, ↓mf_20_3, ↓mf_20_4, ↓mf_20_5, ↓mp_20_6, ↓mf_20_6, ↓mf_20_7, ↓mp_20_8, ↓mf_20_8, ↓mf_20_9, ↓mf_20_10, ↓mp_20_11, ↓mf_20_11, ↓mf_20_12, ↓mf_20_13, ↓mp_20_14, ↓mf_20_14, ↓mf_20_15, ↓mp_20_16, ↓mf_20_16, ↓ma_21, ↓ms_21, ↓ma_22, ↓ms_22, ↓ma_23, ↓ms_23, ↓ma_24, ↓ms_24, ↓ma_25, ↓ms_25, ↓ma_26, ↓ms_26, ↓ma_27, ↓ms_27, ↓ma_28, ↓ms_28, ↓ma_29, ↓ms_29, ↓ma_30, ↓ms_30, ↓ma_31, ↓ms_31, ↓bnd_some, ↓cond_true, ↓m_pv_none, ↓m_pv_some, m_b01_0, m_b01_1, true_and, and_true, eq_self, ↓o_reg _ hi, ↓o_reg _ hj, ↓z_five _ hy, i_10, ↓reduceIte]⟩
      | some k =>
        obtain ⟨hk, rfl⟩ := rgx_some hy (by decide)
        have hT := ho.reg hi
        have b1 := hT.2
        have i1 := ib (show i < 1206 by omega)
        have i2 := nI_clamp (show i < 2 ^ 31 by omega)
        have l1 : d 1 i = nI (σ.1 i).length := by have := (h.1 i hi).1; rw [Nat.zero_add] at this; exact this
        have e1 : (nI (σ.1 i).length = 200) ↔ (σ.1 i).length = 200 := nI_eq (b := 200) (by omega) (by decide)
        dsimp only
        by_cases hf : 1 + (σ.1 i).length ≤ 200
        · rw [if_pos hf]
          have e2 : ¬ (σ.1 i).length = 200 := by omega
          obtain ⟨d2, h2, mr, g2⟩ := mi_rec (S := S) (c := c) h ho
          obtain ⟨d3, r3, v3, m3, g3⟩ := n_load (S := S) (c := c) h2.1 hi hT
          have r3 : RW d3 (σ.1 i) := r3
          have v3 : DV d3 (σ.1 i) := v3
          have h3 := h2.mx m3 (by simp) (by simp) (by simp) (by simp) (by simp) (by simp) (by simp)
          have hD : mx [] [11] d3 (ca d3 0 (upd (d3 0) 11 0)) := mx_u (by simp)
          have x0 : NX (ca d3 0 (upd (d3 0) 11 0)) [] := ⟨by rw [ca_eq, upd_eq]; rfl, fun p hp => absurd hp (Nat.not_lt_zero p)⟩
          obtain ⟨d4, x4, m4, g4⟩ := n_gives (S := S) (c := c) x0 (by decide) (2, 0) (v := 2000)
          have m34 : mx [8] [11] d3 d4 := mx_tr (mx_up hD (by simp) (by simp)) m4
          have h4 := h3.mx m34 (by simp) (by simp) (by simp) (by simp) (by simp) (by simp) (by simp)
          obtain ⟨d5, x5, m5, g5⟩ := n_bndL (S := S) (c := c) hT hf hk (σ.1 i).length 0 d4 rfl (r3.mx m34 (by simp) (by simp)) (v3.mx m34 (by simp)) x4
          obtain ⟨a6', g5⟩ := g5 .null
          have h5 := h4.mx m5 (by simp) (by simp) (by simp) (by simp) (by simp) (by simp) (by simp)
          have bl := bnl_len (σ.1 i) k (σ.1 i).length
          have r6 : RW (ca (ca d5 0 (upd (d5 0) 8 (nI ((σ.1 i).length + 1)))) 6 (va_cpy (d5 8) (d5 6) 0 0 ((σ.1 i).length + 1))) (bnl (σ.1 i) k (σ.1 i).length) := by
            refine ⟨by rw [ca_ne (by decide), ca_eq, upd_eq, bl], fun p hp => ?_⟩
            have hp' := hp
            rw [bl] at hp'
            rw [ca_eq, pk_cpy_in (by omega) (by omega), Nat.sub_zero, Nat.zero_add]
            exact x5.2 p hp
          have m6 : mx [6] [8] d5 (ca (ca d5 0 (upd (d5 0) 8 (nI ((σ.1 i).length + 1)))) 6 (va_cpy (d5 8) (d5 6) 0 0 ((σ.1 i).length + 1))) := mx_tr (mx_u (by simp)) (mx_ca (d := ca d5 0 (upd (d5 0) 8 (nI ((σ.1 i).length + 1)))) (by simp) (by decide))
          have h6 := h5.mx m6 (by simp) (by simp) (by simp) (by simp) (by simp) (by simp) (by simp)
          obtain ⟨d7, m7, s7, g7⟩ := n_store (S := S) (c := c) r6 hj (by rw [bl]; omega)
          have h7 := mi_setR h6 (kp_ok ho) s7 m7
          have g6 : ∀ K, go S 83 0 [.ref 28, .int 0, .ref 26, .int 0, .int (nI ((σ.1 i).length + 1)), .null] [] (mk c (md (ca d5 0 (upd (d5 0) 8 (nI ((σ.1 i).length + 1)))))) K = K none (mk c (md (ca (ca d5 0 (upd (d5 0) 8 (nI ((σ.1 i).length + 1)))) 6 (va_cpy (d5 8) (d5 6) 0 0 ((σ.1 i).length + 1))))) := fun K => n_mvNR (ca d5 0 (upd (d5 0) 8 (nI ((σ.1 i).length + 1)))) (w := (σ.1 i).length + 1) (by omega) K
          have x51 : d5 0 11 = nI ((σ.1 i).length + 1) := by rw [x5.1, bl]
          have g5' : ∀ K a1 a3, go S 106 70 [.ref 20, a1, .int (nI k), a3, .int 0, .int 0, .null] [] (mk c (md d4)) K = go S 106 150 [.ref 20, a1, .int (nI k), a3, .int (nI (bnc (σ.1 i) k (σ.1 i).length)), .int (nI (σ.1 i).length), a6'] [] (mk c (md d5)) K := g5
          refine ⟨d7, h7, fun K => ?_⟩
          simp only [↓g106_0, ↓g106_1, ↓g106_4, ↓g106_7, ↓g106_8, ↓g106_11, ↓g106_14, ↓g106_15, ↓g106_16, ↓g106_17, ↓g106_18, ↓g106_19, ↓g106_22, ↓g106_25, ↓g106_27, ↓g106_28, ↓g106_29, ↓g106_32, ↓g106_33, ↓g106_34, ↓g106_37, ↓g106_40, ↓g106_42, ↓g106_43, ↓g106_44, ↓g106_47, ↓g106_48, ↓g106_49, ↓g106_52, ↓g106_53, ↓g106_55, ↓g106_56, ↓g106_57, ↓g106_60, ↓g106_61, ↓g106_64, ↓g106_67, ↓g106_68, ↓g106_72, ↓g106_73, ↓g106_76, ↓g106_79, ↓g106_80, ↓g106_83, ↓g106_85, ↓g106_86, ↓g106_89, ↓g106_90, ↓g106_91, ↓g106_94, ↓g106_95, ↓g106_98, ↓g106_99, ↓g106_101, ↓g106_103, ↓g106_105, ↓g106_108, ↓g106_109, ↓g106_112, ↓g106_113, ↓g106_114, ↓g106_116, ↓g106_117, ↓g106_119, ↓g106_122, ↓g106_123, ↓g106_124, ↓g106_127, ↓g106_129, ↓g106_130, ↓g106_131, ↓g106_134, ↓g106_135, ↓g106_138, ↓g106_140, ↓g106_141, ↓g106_144, ↓g106_147, ↓g106_151, ↓g106_152, ↓g106_155, ↓g106_158, ↓g106_159, ↓g106_162, ↓g106_163, ↓g106_164, ↓g106_167, ↓g106_168, ↓g106_169, ↓g106_172, ↓g106_175, ↓g106_176, ↓g106_177, ↓g106_180, ↓g106_182, ↓mo_20, ↓mf_20_0, ↓mf_20_1, ↓mp_20_2, ↓mf_20_2, ↓mf_20_3, ↓mf_20_4, ↓mf_20_5, ↓mp_20_6, ↓mf_20_6, ↓mf_20_7, ↓mp_20_8, ↓mf_20_8, ↓mf_20_9, ↓mf_20_10, ↓mp_20_11, ↓mf_20_11, ↓mf_20_12, ↓mf_20_13, ↓mp_20_14, ↓mf_20_14, ↓mf_20_15, ↓mp_20_16, ↓mf_20_16, ↓ma_21, ↓ms_21, ↓ma_22, ↓ms_22, ↓ma_23, ↓ms_23, ↓ma_24, ↓ms_24, ↓ma_25, ↓ms_25, ↓ma_26, ↓ms_26, ↓ma_27, ↓ms_27, ↓ma_28, ↓ms_28, ↓ma_29, ↓ms_29, ↓ma_30, ↓ms_30, ↓ma_31, ↓ms_31, ↓bnd_some, ↓cond_true, ↓m_pv_none, ↓m_pv_some, m_b01_0, m_b01_1, true_and, and_true, eq_self, ↓o_reg _ hi, ↓o_reg _ hj, ↓o_five _ hk, i_10, ↓reduceIte, i1, i2, l1, e1, e2, ↓g2, ↓g3, ↓g4, ↓g5']
          simp only [↓g106_0, ↓g106_1, ↓g106_4, ↓g106_7, ↓g106_8, ↓g106_11, ↓g106_14, ↓g106_15, ↓g106_16, ↓g106_17, ↓g106_18, ↓g106_19, ↓g106_22, ↓g106_25, ↓g106_27, ↓g106_28, ↓g106_29, ↓g106_32, ↓g106_33, ↓g106_34, ↓g106_37, ↓g106_40, ↓g106_42, ↓g106_43, ↓g106_44, ↓g106_47, ↓g106_48, ↓g106_49, ↓g106_52, ↓g106_53, ↓g106_55, ↓g106_56, ↓g106_57, ↓g106_60, ↓g106_61, ↓g106_64, ↓g106_67, ↓g106_68, ↓g106_72, ↓g106_73, ↓g106_76, ↓g106_79, ↓g106_80, ↓g106_83, ↓g106_85, ↓g106_86, ↓g106_89, ↓g106_90, ↓g106_91, ↓g106_94, ↓g106_95, ↓g106_98, ↓g106_99, ↓g106_101, ↓g106_103, ↓g106_105, ↓g106_108, ↓g106_109, ↓g106_112, ↓g106_113, ↓g106_114, ↓g106_116, ↓g106_117, ↓g106_119, ↓g106_122, ↓g106_123, ↓g106_124, ↓g106_127, ↓g106_129, ↓g106_130, ↓g106_131, ↓g106_134, ↓g106_135, ↓g106_138, ↓g106_140, ↓g106_141, ↓g106_144, ↓g106_147, ↓g106_150, ↓g106_151, ↓g106_152, ↓g106_155, ↓g106_158, ↓g106_159, ↓g106_162, ↓g106_163, ↓g106_164, ↓g106_167, ↓g106_168, ↓g106_169, ↓g106_172, ↓g106_175, ↓g106_176, ↓g106_177, ↓g106_180, ↓g106_182, ↓mo_20, ↓mf_20_0, ↓mf_20_1, ↓mp_20_2, ↓mf_20_2, ↓mf_20_3, ↓mf_20_4, ↓mf_20_5, ↓mp_20_6, ↓mf_20_6, ↓mf_20_7, ↓mp_20_8, ↓mf_20_8, ↓mf_20_9, ↓mf_20_10, ↓mp_20_11, ↓mf_20_11, ↓mf_20_12, ↓mf_20_13, ↓mp_20_14, ↓mf_20_14, ↓mf_20_15, ↓mp_20_16, ↓mf_20_16, ↓ma_21, ↓ms_21, ↓ma_22, ↓ms_22, ↓ma_23, ↓ms_23, ↓ma_24, ↓ms_24, ↓ma_25, ↓ms_25, ↓ma_26, ↓ms_26, ↓ma_27, ↓ms_27, ↓ma_28, ↓ms_28, ↓ma_29, ↓ms_29, ↓ma_30, ↓ms_30, ↓ma_31, ↓ms_31, ↓bnd_some, ↓cond_true, ↓m_pv_none, ↓m_pv_some, m_b01_0, m_b01_1, true_and, and_true, eq_self, x51, cz_1, cz_2, cz_3, cz_4, cz_5, cz_6, cz_7, cz_8, cz_9, cz_10, cz_11, cn_1, cn_2, cn_3, cn_4, cn_5, cn_6, cn_7, cn_8, cn_9, cn_10, cn_11, un_2_6, un_2_8, un_2_11, un_2_14, un_2_16, un_6_2, un_6_8, un_6_11, un_6_14, un_6_16, un_8_2, un_8_6, un_8_11, un_8_14, un_8_16, un_11_2, un_11_6, un_11_8, un_11_14, un_11_16, un_14_2, un_14_6, un_14_8, un_14_11, un_14_16, un_16_2, un_16_6, un_16_8, un_16_11, un_16_14, ca_eq, upd_eq, ↓g6, ↓g7]
        · rw [if_neg hf]
          have e2 : (σ.1 i).length = 200 := by omega
          refine ⟨d, h, fun K => ?_⟩
          simp only [↓g106_0, ↓g106_1, ↓g106_4, ↓g106_7, ↓g106_8, ↓g106_11, ↓g106_14, ↓g106_15, ↓g106_16, ↓g106_17, ↓g106_18, ↓g106_19, ↓g106_22, ↓g106_25, ↓g106_27, ↓g106_28, ↓g106_29, ↓g106_32, ↓g106_33, ↓g106_34, ↓g106_37, ↓g106_40, ↓g106_42, ↓g106_43, ↓g106_44, ↓g106_47, ↓g106_48, ↓g106_49, ↓g106_52, ↓g106_53, ↓g106_55, ↓g106_56, ↓g106_57, ↓g106_60, ↓g106_61, ↓g106_64, ↓g106_67, ↓g106_68, ↓g106_72, ↓g106_73, ↓g106_76, ↓g106_79, ↓g106_80, ↓g106_83, ↓g106_85, ↓g106_86, ↓g106_89, ↓g106_90, ↓g106_91, ↓g106_94, ↓g106_95, ↓g106_98, ↓g106_99, ↓g106_101, ↓g106_103, ↓g106_105, ↓g106_108, ↓g106_109, ↓g106_112, ↓g106_113, ↓g106_114, ↓g106_116, ↓g106_117, ↓g106_119, ↓g106_122, ↓g106_123, ↓g106_124, ↓g106_127, ↓g106_129, ↓g106_130, ↓g106_131, ↓g106_134, ↓g106_135, ↓g106_138, ↓g106_140, ↓g106_141, ↓g106_144, ↓g106_147, ↓g106_150, ↓g106_151, ↓g106_152, ↓g106_155, ↓g106_158, ↓g106_159, ↓g106_162, ↓g106_163, ↓g106_164, ↓g106_167, ↓g106_168, ↓g106_169, ↓g106_172, ↓g106_175, ↓g106_176, ↓g106_177, ↓g106_180, ↓g106_182, ↓mo_20, ↓mf_20_0, ↓mf_20_1, ↓mp_20_2, ↓mf_20_2, ↓mf_20_3, ↓mf_20_4, ↓mf_20_5, ↓mp_20_6, ↓mf_20_6, ↓mf_20_7, ↓mp_20_8, ↓mf_20_8, ↓mf_20_9, ↓mf_20_10, ↓mp_20_11, ↓mf_20_11, ↓mf_20_12, ↓mf_20_13, ↓mp_20_14, ↓mf_20_14, ↓mf_20_15, ↓mp_20_16, ↓mf_20_16, ↓ma_21, ↓ms_21, ↓ma_22, ↓ms_22, ↓ma_23, ↓ms_23, ↓ma_24, ↓ms_24, ↓ma_25, ↓ms_25, ↓ma_26, ↓ms_26, ↓ma_27, ↓ms_27, ↓ma_28, ↓ms_28, ↓ma_29, ↓ms_29, ↓ma_30, ↓ms_30, ↓ma_31, ↓ms_31, ↓bnd_some, ↓cond_true, ↓m_pv_none, ↓m_pv_some, m_b01_0, m_b01_1, true_and, and_true, eq_self, ↓o_reg _ hi, ↓o_reg _ hj, ↓o_five _ hk, i_10, ↓reduceIte, i1, i2, l1, e1.mpr e2]
theorem M_step {d : Nat → Nat → Int32} (h : MI d σ) (ho : SOk σ) (x o : Int32) : MC S 107 [.ref 20, .int x, .int o, .null] d c (F_step σ x o) := by
  unfold F_step
  cases hx : rgx x 6 with
  | none => exact ⟨d, h, fun K => by simp only [↓g107_0, ↓g107_1, ↓g107_4, ↓g107_7, ↓g107_8, ↓g107_9, ↓g107_10, ↓g107_13, ↓g107_16, ↓g107_17, ↓g107_20, ↓g107_23, ↓g107_25, ↓g107_28, ↓g107_29, ↓g107_30, ↓g107_31, ↓g107_32, ↓g107_35, ↓g107_36, ↓g107_37, ↓g107_40, ↓g107_41, ↓g107_42, ↓g107_45, ↓g107_46, ↓g107_47, ↓g107_50, ↓g107_52, ↓g107_55, ↓g107_57, ↓g107_58, ↓g107_59, ↓g107_62, ↓g107_63, ↓g107_64, ↓g107_67, ↓g107_68, ↓g107_71, ↓mo_20, ↓mf_20_0, ↓mf_20_1, ↓mp_20_2, ↓mf_20_2, ↓mf_20_3, ↓mf_20_4, ↓mf_20_5, ↓mp_20_6, ↓mf_20_6, ↓mf_20_7, ↓mp_20_8, ↓mf_20_8, ↓mf_20_9, ↓mf_20_10, ↓mp_20_11, ↓mf_20_11, ↓mf_20_12, ↓mf_20_13, ↓mp_20_14, ↓mf_20_14, ↓mf_20_15, ↓mp_20_16, ↓mf_20_16, ↓ma_21, ↓ms_21, ↓ma_22, ↓ms_22, ↓ma_23, ↓ms_23, ↓ma_24, ↓ms_24, ↓ma_25, ↓ms_25, ↓ma_26, ↓ms_26, ↓ma_27, ↓ms_27, ↓ma_28, ↓ms_28, ↓ma_29, ↓ms_29, ↓ma_30, ↓ms_30, ↓ma_31, ↓ms_31, ↓bnd_some, ↓cond_true, ↓m_pv_none, ↓m_pv_some, m_b01_0, m_b01_1, true_and, and_true, eq_self, ↓z_reg _ hx, ↓reduceIte]⟩
  | some i =>
    obtain ⟨hi, rfl⟩ := rgx_some hx (by decide)
    cases hy : rgx o 3 with
    | none => exact ⟨d, h, fun K => by simp only [↓g107_0, ↓g107_1, ↓g107_4, ↓g107_7, ↓g107_8, ↓g107_9, ↓g107_10, ↓g107_13, ↓g107_16, ↓g107_17, ↓g107_20, ↓g107_23, ↓g107_25, ↓g107_28, ↓g107_29, ↓g107_30, ↓g107_31, ↓g107_32, ↓g107_35, ↓g107_36, ↓g107_37, ↓g107_40, ↓g107_41, ↓g107_42, ↓g107_45, ↓g107_46, ↓g107_47, ↓g107_50, ↓g107_52, ↓g107_55, ↓g107_57, ↓g107_58, ↓g107_59, ↓g107_62, ↓g107_63, ↓g107_64, ↓g107_67, ↓g107_68, ↓g107_71, ↓mo_20, ↓mf_20_0, ↓mf_20_1, ↓mp_20_2, ↓mf_20_2, ↓mf_20_3, ↓mf_20_4, ↓mf_20_5, ↓mp_20_6, ↓mf_20_6, ↓mf_20_7, ↓mp_20_8, ↓mf_20_8, ↓mf_20_9, ↓mf_20_10, ↓mp_20_11, ↓mf_20_11, ↓mf_20_12, ↓mf_20_13, ↓mp_20_14, ↓mf_20_14, ↓mf_20_15, ↓mp_20_16, ↓mf_20_16, ↓ma_21, ↓ms_21, ↓ma_22, ↓ms_22, ↓ma_23, ↓ms_23, ↓ma_24, ↓ms_24, ↓ma_25, ↓ms_25, ↓ma_26, ↓ms_26, ↓ma_27, ↓ms_27, ↓ma_28, ↓ms_28, ↓ma_29, ↓ms_29, ↓ma_30, ↓ms_30, ↓ma_31, ↓ms_31, ↓bnd_some, ↓cond_true, ↓m_pv_none, ↓m_pv_some, m_b01_0, m_b01_1, true_and, and_true, eq_self, ↓o_reg _ hi, ↓z_ord _ hy, i_10, ↓reduceIte]⟩
    | some o =>
      obtain ⟨hj, rfl⟩ := rgx_some hy (by decide)
      have hT := ho.reg hi
      obtain ⟨d1, r1, v1, m1, g1⟩ := n_load (S := S) (c := c) h.1 hi hT
      obtain ⟨d2, r2, v2, m2, g2⟩ := n_goes (S := S) (c := c) r1 v1 hT hj
      have m12 : mx [6, 7, 8, 9] [8, 11] d d2 := mx_tr (mx_up m1 (by simp) (by simp)) m2
      have h2 := h.mx m12 (by simp) (by simp) (by simp) (by simp) (by simp) (by simp) (by simp)
      dsimp only
      cases hz : nxt (σ.1 i) o with
      | none =>
        have e : goc (σ.1 i) o = 1 := goc_1.mpr hz
        rw [e] at g2
        refine ⟨d2, h2, fun K => ?_⟩
        simp only [↓g107_0, ↓g107_1, ↓g107_4, ↓g107_7, ↓g107_8, ↓g107_9, ↓g107_10, ↓g107_13, ↓g107_16, ↓g107_17, ↓g107_20, ↓g107_23, ↓g107_25, ↓g107_28, ↓g107_29, ↓g107_30, ↓g107_31, ↓g107_32, ↓g107_35, ↓g107_36, ↓g107_37, ↓g107_40, ↓g107_41, ↓g107_42, ↓g107_45, ↓g107_46, ↓g107_47, ↓g107_50, ↓g107_52, ↓g107_55, ↓g107_57, ↓g107_58, ↓g107_59, ↓g107_62, ↓g107_63, ↓g107_64, ↓g107_67, ↓g107_68, ↓g107_71, ↓mo_20, ↓mf_20_0, ↓mf_20_1, ↓mp_20_2, ↓mf_20_2, ↓mf_20_3, ↓mf_20_4, ↓mf_20_5, ↓mp_20_6, ↓mf_20_6, ↓mf_20_7, ↓mp_20_8, ↓mf_20_8, ↓mf_20_9, ↓mf_20_10, ↓mp_20_11, ↓mf_20_11, ↓mf_20_12, ↓mf_20_13, ↓mp_20_14, ↓mf_20_14, ↓mf_20_15, ↓mp_20_16, ↓mf_20_16, ↓ma_21, ↓ms_21, ↓ma_22, ↓ms_22, ↓ma_23, ↓ms_23, ↓ma_24, ↓ms_24, ↓ma_25, ↓ms_25, ↓ma_26, ↓ms_26, ↓ma_27, ↓ms_27, ↓ma_28, ↓ms_28, ↓ma_29, ↓ms_29, ↓ma_30, ↓ms_30, ↓ma_31, ↓ms_31, ↓bnd_some, ↓cond_true, ↓m_pv_none, ↓m_pv_some, m_b01_0, m_b01_1, true_and, and_true, eq_self, ↓o_reg _ hi, ↓o_ord _ hj, i_10, ↓reduceIte, ↓g1, ↓g2]
      | some p =>
        dsimp only
        by_cases hf : (rwt (σ.1 i) p).length ≤ 200
        · have e : goc (σ.1 i) o = 0 := by unfold goc; rw [hz]; exact if_pos hf
          have e' : gol (σ.1 i) o = rwt (σ.1 i) p := by unfold gol stp1; rw [hz]; dsimp only; rw [if_pos hf]; rfl
          rw [e] at g2
          rw [e'] at r2
          rw [if_pos hf]
          obtain ⟨d3, h3, m3, g3⟩ := mi_rec (S := S) (c := c) h2 ho
          have r3 := r2.mx m3 (by simp) (by simp)
          obtain ⟨d4, m4, s4, g4⟩ := n_store (S := S) (c := c) r3 hi hf
          have h4 := mi_setR h3 (kp_ok ho) s4 m4
          have e9 : d4 0 8 = nI (rwt (σ.1 i) p).length := by rw [m4.2 8 (by simp)]; exact r3.1
          refine ⟨d4, h4, fun K => ?_⟩
          simp only [↓g107_0, ↓g107_1, ↓g107_4, ↓g107_7, ↓g107_8, ↓g107_9, ↓g107_10, ↓g107_13, ↓g107_16, ↓g107_17, ↓g107_20, ↓g107_23, ↓g107_25, ↓g107_28, ↓g107_29, ↓g107_30, ↓g107_31, ↓g107_32, ↓g107_35, ↓g107_36, ↓g107_37, ↓g107_40, ↓g107_41, ↓g107_42, ↓g107_45, ↓g107_46, ↓g107_47, ↓g107_50, ↓g107_52, ↓g107_55, ↓g107_57, ↓g107_58, ↓g107_59, ↓g107_62, ↓g107_63, ↓g107_64, ↓g107_67, ↓g107_68, ↓g107_71, ↓mo_20, ↓mf_20_0, ↓mf_20_1, ↓mp_20_2, ↓mf_20_2, ↓mf_20_3, ↓mf_20_4, ↓mf_20_5, ↓mp_20_6, ↓mf_20_6, ↓mf_20_7, ↓mp_20_8, ↓mf_20_8, ↓mf_20_9, ↓mf_20_10, ↓mp_20_11, ↓mf_20_11, ↓mf_20_12, ↓mf_20_13, ↓mp_20_14, ↓mf_20_14, ↓mf_20_15, ↓mp_20_16, ↓mf_20_16, ↓ma_21, ↓ms_21, ↓ma_22, ↓ms_22, ↓ma_23, ↓ms_23, ↓ma_24, ↓ms_24, ↓ma_25, ↓ms_25, ↓ma_26, ↓ms_26, ↓ma_27, ↓ms_27, ↓ma_28, ↓ms_28, ↓ma_29, ↓ms_29, ↓ma_30, ↓ms_30, ↓ma_31, ↓ms_31, ↓bnd_some, ↓cond_true, ↓m_pv_none, ↓m_pv_some, m_b01_0, m_b01_1, true_and, and_true, eq_self, ↓o_reg _ hi, ↓o_ord _ hj, i_10, ↓reduceIte, ↓g1, ↓g2, ↓g3, ↓g4, e9]
        · have e : goc (σ.1 i) o = 2 := by unfold goc; rw [hz]; exact if_neg hf
          rw [e] at g2
          rw [if_neg hf]
          refine ⟨d2, h2, fun K => ?_⟩
          simp only [↓g107_0, ↓g107_1, ↓g107_4, ↓g107_7, ↓g107_8, ↓g107_9, ↓g107_10, ↓g107_13, ↓g107_16, ↓g107_17, ↓g107_20, ↓g107_23, ↓g107_25, ↓g107_28, ↓g107_29, ↓g107_30, ↓g107_31, ↓g107_32, ↓g107_35, ↓g107_36, ↓g107_37, ↓g107_40, ↓g107_41, ↓g107_42, ↓g107_45, ↓g107_46, ↓g107_47, ↓g107_50, ↓g107_52, ↓g107_55, ↓g107_57, ↓g107_58, ↓g107_59, ↓g107_62, ↓g107_63, ↓g107_64, ↓g107_67, ↓g107_68, ↓g107_71, ↓mo_20, ↓mf_20_0, ↓mf_20_1, ↓mp_20_2, ↓mf_20_2, ↓mf_20_3, ↓mf_20_4, ↓mf_20_5, ↓mp_20_6, ↓mf_20_6, ↓mf_20_7, ↓mp_20_8, ↓mf_20_8, ↓mf_20_9, ↓mf_20_10, ↓mp_20_11, ↓mf_20_11, ↓mf_20_12, ↓mf_20_13, ↓mp_20_14, ↓mf_20_14, ↓mf_20_15, ↓mp_20_16, ↓mf_20_16, ↓ma_21, ↓ms_21, ↓ma_22, ↓ms_22, ↓ma_23, ↓ms_23, ↓ma_24, ↓ms_24, ↓ma_25, ↓ms_25, ↓ma_26, ↓ms_26, ↓ma_27, ↓ms_27, ↓ma_28, ↓ms_28, ↓ma_29, ↓ms_29, ↓ma_30, ↓ms_30, ↓ma_31, ↓ms_31, ↓bnd_some, ↓cond_true, ↓m_pv_none, ↓m_pv_some, m_b01_0, m_b01_1, true_and, and_true, eq_self, ↓o_reg _ hi, ↓o_ord _ hj, i_10, ↓reduceIte, ↓g1, ↓g2, show ((2 : Int32) = 0) = False from eq_false (by decide), show ((2 : Int32) = 1) = False from eq_false (by decide)]
theorem z_run1 (M : mM) {o f : Int32} (h : rgx o 3 = none) (K : Option Value → mM → Prop) : go S 108 0 [.int o, .int f] [] M K = K (some (.int 0)) M := by
  simp only [↓g108_0, ↓g108_1, ↓g108_2, ↓g108_3, ↓g108_6, ↓g108_9, ↓g108_10, ↓g108_11, ↓g108_14, ↓g108_17, ↓g108_20, ↓g108_21, ↓g108_24, ↓g108_25, ↓mo_20, ↓mf_20_0, ↓mf_20_1, ↓mp_20_2, ↓mf_20_2, ↓mf_20_3, ↓mf_20_4, ↓mf_20_5, ↓mp_20_6, ↓mf_20_6, ↓mf_20_7, ↓mp_20_8, ↓mf_20_8, ↓mf_20_9, ↓mf_20_10, ↓mp_20_11, ↓mf_20_11, ↓mf_20_12, ↓mf_20_13, ↓mp_20_14, ↓mf_20_14, ↓mf_20_15, ↓mp_20_16, ↓mf_20_16, ↓ma_21, ↓ms_21, ↓ma_22, ↓ms_22, ↓ma_23, ↓ms_23, ↓ma_24, ↓ms_24, ↓ma_25, ↓ms_25, ↓ma_26, ↓ms_26, ↓ma_27, ↓ms_27, ↓ma_28, ↓ms_28, ↓ma_29, ↓ms_29, ↓ma_30, ↓ms_30, ↓ma_31, ↓ms_31, ↓bnd_some, ↓cond_true, ↓m_pv_none, ↓m_pv_some, m_b01_0, m_b01_1, true_and, and_true, eq_self, ↓z_ord _ h, ↓reduceIte]
theorem z_run2 (M : mM) {o : Nat} {f : Int32} (ho : o < 3) (h : fux f = none) (K : Option Value → mM → Prop) {x : Int32} (hx : x = nI o := by rfl) : go S 108 0 [.int x, .int f] [] M K = K (some (.int 0)) M := by
  subst hx
  simp only [↓g108_0, ↓g108_1, ↓g108_2, ↓g108_3, ↓g108_6, ↓g108_9, ↓g108_10, ↓g108_11, ↓g108_14, ↓g108_17, ↓g108_20, ↓g108_21, ↓g108_24, ↓g108_25, ↓mo_20, ↓mf_20_0, ↓mf_20_1, ↓mp_20_2, ↓mf_20_2, ↓mf_20_3, ↓mf_20_4, ↓mf_20_5, ↓mp_20_6, ↓mf_20_6, ↓mf_20_7, ↓mp_20_8, ↓mf_20_8, ↓mf_20_9, ↓mf_20_10, ↓mp_20_11, ↓mf_20_11, ↓mf_20_12, ↓mf_20_13, ↓mp_20_14, ↓mf_20_14, ↓mf_20_15, ↓mp_20_16, ↓mf_20_16, ↓ma_21, ↓ms_21, ↓ma_22, ↓ms_22, ↓ma_23, ↓ms_23, ↓ma_24, ↓ms_24, ↓ma_25, ↓ms_25, ↓ma_26, ↓ms_26, ↓ma_27, ↓ms_27, ↓ma_28, ↓ms_28, ↓ma_29, ↓ms_29, ↓ma_30, ↓ms_30, ↓ma_31, ↓ms_31, ↓bnd_some, ↓cond_true, ↓m_pv_none, ↓m_pv_some, m_b01_0, m_b01_1, true_and, and_true, eq_self, ↓o_ord _ ho, ↓z_fuel _ h, i_10, ↓reduceIte]
theorem o_run (M : mM) {o n : Nat} (ho : o < 3) (h1 : 1 ≤ n) (h2 : n ≤ 200) (K : Option Value → mM → Prop) {x : Int32} (hx : x = nI o := by rfl) : go S 108 0 [.int x, .int (nI n)] [] M K = K (some (.int 1)) M := by
  subst hx
  simp only [↓g108_0, ↓g108_1, ↓g108_2, ↓g108_3, ↓g108_6, ↓g108_9, ↓g108_10, ↓g108_11, ↓g108_14, ↓g108_17, ↓g108_20, ↓g108_21, ↓g108_24, ↓g108_25, ↓mo_20, ↓mf_20_0, ↓mf_20_1, ↓mp_20_2, ↓mf_20_2, ↓mf_20_3, ↓mf_20_4, ↓mf_20_5, ↓mp_20_6, ↓mf_20_6, ↓mf_20_7, ↓mp_20_8, ↓mf_20_8, ↓mf_20_9, ↓mf_20_10, ↓mp_20_11, ↓mf_20_11, ↓mf_20_12, ↓mf_20_13, ↓mp_20_14, ↓mf_20_14, ↓mf_20_15, ↓mp_20_16, ↓mf_20_16, ↓ma_21, ↓ms_21, ↓ma_22, ↓ms_22, ↓ma_23, ↓ms_23, ↓ma_24, ↓ms_24, ↓ma_25, ↓ms_25, ↓ma_26, ↓ms_26, ↓ma_27, ↓ms_27, ↓ma_28, ↓ms_28, ↓ma_29, ↓ms_29, ↓ma_30, ↓ms_30, ↓ma_31, ↓ms_31, ↓bnd_some, ↓cond_true, ↓m_pv_none, ↓m_pv_some, m_b01_0, m_b01_1, true_and, and_true, eq_self, ↓o_ord _ ho, ↓o_fuel _ h1 h2, i_10, ↓reduceIte]
theorem onv_neg {s : Nat} (h : s ≤ 200) : (-1 - nI s < 0) = True := by
  have e : (-1 : Int32) - nI s = nI 0 - nI (1 + s) := by
    rw [← nI_add, show (-1 : Int32) = nI 0 - nI 1 from rfl, Int32.sub_sub]
  rw [e]
  exact eq_true (pk_sneg (by omega) (by omega))
theorem onv_back {s : Nat} : (-1 : Int32) - (-1 - nI s) = nI s := by
  rw [Int32.sub_eq_add_neg, Int32.neg_sub, Int32.add_comm, Int32.sub_add_cancel]
theorem M_run {d : Nat → Nat → Int32} (h : MI d σ) (ho : SOk σ) (x o f : Int32) : MC S 109 [.ref 20, .int x, .int o, .int f, .null] d c (F_run σ x o f) := by
  unfold F_run
  cases hx : rgx x 6 with
  | none => exact ⟨d, h, fun K => by simp only [↓g109_0, ↓g109_1, ↓g109_4, ↓g109_7, ↓g109_8, ↓g109_9, ↓g109_12, ↓g109_15, ↓g109_16, ↓g109_19, ↓g109_22, ↓g109_24, ↓g109_27, ↓g109_28, ↓g109_29, ↓g109_30, ↓g109_33, ↓g109_34, ↓g109_35, ↓g109_38, ↓g109_39, ↓g109_40, ↓g109_41, ↓g109_44, ↓g109_46, ↓g109_47, ↓g109_48, ↓g109_51, ↓g109_53, ↓g109_56, ↓g109_57, ↓g109_59, ↓g109_60, ↓g109_63, ↓g109_65, ↓mo_20, ↓mf_20_0, ↓mf_20_1, ↓mp_20_2, ↓mf_20_2, ↓mf_20_3, ↓mf_20_4, ↓mf_20_5, ↓mp_20_6, ↓mf_20_6, ↓mf_20_7, ↓mp_20_8, ↓mf_20_8, ↓mf_20_9, ↓mf_20_10, ↓mp_20_11, ↓mf_20_11, ↓mf_20_12, ↓mf_20_13, ↓mp_20_14, ↓mf_20_14, ↓mf_20_15, ↓mp_20_16, ↓mf_20_16, ↓ma_21, ↓ms_21, ↓ma_22, ↓ms_22, ↓ma_23, ↓ms_23, ↓ma_24, ↓ms_24, ↓ma_25, ↓ms_25, ↓ma_26, ↓ms_26, ↓ma_27, ↓ms_27, ↓ma_28, ↓ms_28, ↓ma_29, ↓ms_29, ↓ma_30, ↓ms_30, ↓ma_31, ↓ms_31, ↓bnd_some, ↓cond_true, ↓m_pv_none, ↓m_pv_some, m_b01_0, m_b01_1, true_and, and_true, eq_self, ↓z_reg _ hx, ↓reduceIte]⟩
  | some i =>
    obtain ⟨hi, rfl⟩ := rgx_some hx (by decide)
    cases hy : rgx o 3 with
    | none => exact ⟨d, h, fun K => by simp only [↓g109_0, ↓g109_1, ↓g109_4, ↓g109_7, ↓g109_8, ↓g109_9, ↓g109_12, ↓g109_15, ↓g109_16, ↓g109_19, ↓g109_22, ↓g109_24, ↓g109_27, ↓g109_28, ↓g109_29, ↓g109_30, ↓g109_33, ↓g109_34, ↓g109_35, ↓g109_38, ↓g109_39, ↓g109_40, ↓g109_41, ↓g109_44, ↓g109_46, ↓g109_47, ↓g109_48, ↓g109_51, ↓g109_53, ↓g109_56, ↓g109_57, ↓g109_59, ↓g109_60, ↓g109_63, ↓g109_65, ↓mo_20, ↓mf_20_0, ↓mf_20_1, ↓mp_20_2, ↓mf_20_2, ↓mf_20_3, ↓mf_20_4, ↓mf_20_5, ↓mp_20_6, ↓mf_20_6, ↓mf_20_7, ↓mp_20_8, ↓mf_20_8, ↓mf_20_9, ↓mf_20_10, ↓mp_20_11, ↓mf_20_11, ↓mf_20_12, ↓mf_20_13, ↓mp_20_14, ↓mf_20_14, ↓mf_20_15, ↓mp_20_16, ↓mf_20_16, ↓ma_21, ↓ms_21, ↓ma_22, ↓ms_22, ↓ma_23, ↓ms_23, ↓ma_24, ↓ms_24, ↓ma_25, ↓ms_25, ↓ma_26, ↓ms_26, ↓ma_27, ↓ms_27, ↓ma_28, ↓ms_28, ↓ma_29, ↓ms_29, ↓ma_30, ↓ms_30, ↓ma_31, ↓ms_31, ↓bnd_some, ↓cond_true, ↓m_pv_none, ↓m_pv_some, m_b01_0, m_b01_1, true_and, and_true, eq_self, ↓o_reg _ hi, ↓z_run1 _ hy, i_10, ↓reduceIte]⟩
    | some o =>
      obtain ⟨hj, rfl⟩ := rgx_some hy (by decide)
      cases hz : fux f with
      | none => exact ⟨d, h, fun K => by simp only [↓g109_0, ↓g109_1, ↓g109_4, ↓g109_7, ↓g109_8, ↓g109_9, ↓g109_12, ↓g109_15, ↓g109_16, ↓g109_19, ↓g109_22, ↓g109_24, ↓g109_27, ↓g109_28, ↓g109_29, ↓g109_30, ↓g109_33, ↓g109_34, ↓g109_35, ↓g109_38, ↓g109_39, ↓g109_40, ↓g109_41, ↓g109_44, ↓g109_46, ↓g109_47, ↓g109_48, ↓g109_51, ↓g109_53, ↓g109_56, ↓g109_57, ↓g109_59, ↓g109_60, ↓g109_63, ↓g109_65, ↓mo_20, ↓mf_20_0, ↓mf_20_1, ↓mp_20_2, ↓mf_20_2, ↓mf_20_3, ↓mf_20_4, ↓mf_20_5, ↓mp_20_6, ↓mf_20_6, ↓mf_20_7, ↓mp_20_8, ↓mf_20_8, ↓mf_20_9, ↓mf_20_10, ↓mp_20_11, ↓mf_20_11, ↓mf_20_12, ↓mf_20_13, ↓mp_20_14, ↓mf_20_14, ↓mf_20_15, ↓mp_20_16, ↓mf_20_16, ↓ma_21, ↓ms_21, ↓ma_22, ↓ms_22, ↓ma_23, ↓ms_23, ↓ma_24, ↓ms_24, ↓ma_25, ↓ms_25, ↓ma_26, ↓ms_26, ↓ma_27, ↓ms_27, ↓ma_28, ↓ms_28, ↓ma_29, ↓ms_29, ↓ma_30, ↓ms_30, ↓ma_31, ↓ms_31, ↓bnd_some, ↓cond_true, ↓m_pv_none, ↓m_pv_some, m_b01_0, m_b01_1, true_and, and_true, eq_self, ↓o_reg _ hi, ↓z_run2 _ hj hz, i_10, ↓reduceIte]⟩
      | some n =>
        obtain ⟨f1, f2, rfl⟩ := fux_some hz
        have hT := ho.reg hi
        obtain ⟨d1, h1, m1, g1⟩ := mi_rec (S := S) (c := c) h ho
        obtain ⟨d2, r2, v2, m2, g2⟩ := n_load (S := S) (c := c) h1.1 hi hT
        have r2 : RW d2 (σ.1 i) := r2
        have v2 : DV d2 (σ.1 i) := v2
        have h2 := h1.mx m2 (by simp) (by simp) (by simp) (by simp) (by simp) (by simp) (by simp)
        obtain ⟨d3, r3, v3, m3, g3⟩ := n_on (S := S) (c := c) hj f2 r2 v2 hT
        have h3 := h2.mx m3 (by simp) (by simp) (by simp) (by simp) (by simp) (by simp) (by simp)
        have hk' := rn_ok (o := o) (n := n) hT
        obtain ⟨d4, m4, s4, g4⟩ := n_store (S := S) (c := c) r3 hi hk'.1.2
        have h4 := mi_setR h3 (kp_ok ho) s4 m4
        refine ⟨d4, h4, fun K => ?_⟩
        have y3 := fun M K => o_run (S := S) M hj f1 f2 K
        unfold onv at g3
        by_cases hn : nxt (rn o n (σ.1 i)).2.2 o = none
        · rw [if_pos hn] at g3
          have e1 : (0 : Int32) ≤ nI (rn o n (σ.1 i)).1 := nI_pos' (by omega)
          simp only [↓g109_0, ↓g109_1, ↓g109_4, ↓g109_7, ↓g109_8, ↓g109_9, ↓g109_12, ↓g109_15, ↓g109_16, ↓g109_19, ↓g109_22, ↓g109_24, ↓g109_27, ↓g109_28, ↓g109_29, ↓g109_30, ↓g109_33, ↓g109_34, ↓g109_35, ↓g109_38, ↓g109_39, ↓g109_40, ↓g109_41, ↓g109_44, ↓g109_46, ↓g109_47, ↓g109_48, ↓g109_51, ↓g109_53, ↓g109_56, ↓g109_57, ↓g109_59, ↓g109_60, ↓g109_63, ↓g109_65, ↓mo_20, ↓mf_20_0, ↓mf_20_1, ↓mp_20_2, ↓mf_20_2, ↓mf_20_3, ↓mf_20_4, ↓mf_20_5, ↓mp_20_6, ↓mf_20_6, ↓mf_20_7, ↓mp_20_8, ↓mf_20_8, ↓mf_20_9, ↓mf_20_10, ↓mp_20_11, ↓mf_20_11, ↓mf_20_12, ↓mf_20_13, ↓mp_20_14, ↓mf_20_14, ↓mf_20_15, ↓mp_20_16, ↓mf_20_16, ↓ma_21, ↓ms_21, ↓ma_22, ↓ms_22, ↓ma_23, ↓ms_23, ↓ma_24, ↓ms_24, ↓ma_25, ↓ms_25, ↓ma_26, ↓ms_26, ↓ma_27, ↓ms_27, ↓ma_28, ↓ms_28, ↓ma_29, ↓ms_29, ↓ma_30, ↓ms_30, ↓ma_31, ↓ms_31, ↓bnd_some, ↓cond_true, ↓m_pv_none, ↓m_pv_some, m_b01_0, m_b01_1, true_and, and_true, eq_self, ↓o_reg _ hi, ↓y3, i_10, ↓reduceIte, ↓g1, ↓g2, ↓g3, ↓g4, e1]
        · rw [if_neg hn] at g3
          have e1 : ¬ (0 : Int32) ≤ -1 - nI (rn o n (σ.1 i)).1 := Int32.not_le.mpr (of_eq_true (onv_neg (s := (rn o n (σ.1 i)).1) (by omega)))
          simp only [↓g109_0, ↓g109_1, ↓g109_4, ↓g109_7, ↓g109_8, ↓g109_9, ↓g109_12, ↓g109_15, ↓g109_16, ↓g109_19, ↓g109_22, ↓g109_24, ↓g109_27, ↓g109_28, ↓g109_29, ↓g109_30, ↓g109_33, ↓g109_34, ↓g109_35, ↓g109_38, ↓g109_39, ↓g109_40, ↓g109_41, ↓g109_44, ↓g109_46, ↓g109_47, ↓g109_48, ↓g109_51, ↓g109_53, ↓g109_56, ↓g109_57, ↓g109_59, ↓g109_60, ↓g109_63, ↓g109_65, ↓mo_20, ↓mf_20_0, ↓mf_20_1, ↓mp_20_2, ↓mf_20_2, ↓mf_20_3, ↓mf_20_4, ↓mf_20_5, ↓mp_20_6, ↓mf_20_6, ↓mf_20_7, ↓mp_20_8, ↓mf_20_8, ↓mf_20_9, ↓mf_20_10, ↓mp_20_11, ↓mf_20_11, ↓mf_20_12, ↓mf_20_13, ↓mp_20_14, ↓mf_20_14, ↓mf_20_15, ↓mp_20_16, ↓mf_20_16, ↓ma_21, ↓ms_21, ↓ma_22, ↓ms_22, ↓ma_23, ↓ms_23, ↓ma_24, ↓ms_24, ↓ma_25, ↓ms_25, ↓ma_26, ↓ms_26, ↓ma_27, ↓ms_27, ↓ma_28, ↓ms_28, ↓ma_29, ↓ms_29, ↓ma_30, ↓ms_30, ↓ma_31, ↓ms_31, ↓bnd_some, ↓cond_true, ↓m_pv_none, ↓m_pv_some, m_b01_0, m_b01_1, true_and, and_true, eq_self, ↓o_reg _ hi, ↓y3, i_10, ↓reduceIte, ↓g1, ↓g2, ↓g3, ↓g4, e1, onv_back]
end MC2
