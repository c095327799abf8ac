/-! the model: goes, goesOn -/
def goc (l : Tm) (o : Nat) : Int32 := match nxt l o with
  | none => 1
  | some p => if (rwt l p).length ≤ 200 then 0 else 2
def gol (l : Tm) (o : Nat) : Tm := (stp1 l o).getD l
section MOD5
variable {S : mS} {c : Nat → Nat → Int32} {l : Tm}
theorem tk_1 {p : Nat} (hp : p < l.length) : l.take (p + 1) = l.take p ++ [pt l p] := by
  rw [List.take_add_one]
  congr 1
  unfold pt
  rw [List.getD_eq_getElem?_getD, List.getElem?_eq_getElem hp]
  rfl
theorem n_goesA (hl : l.length ≤ 200) {p : Nat} (hp : p ≤ l.length) : ∀ (n k : Nat) (d : Nat → Nat → Int32), n + k = p → RW d l → NX d (l.take k) → ∃ d', NX d' (l.take p) ∧ mx [8] [11] d d' ∧ ∀ (K : Option Value → mM → Prop) (a1 a3 a4 a5 a6 : Value), go S 101 85 [.ref 20, a1, .int (nI p), a3, a4, a5, a6, .int (nI k)] [] (mk c (md d)) K = go S 101 108 [.ref 20, a1, .int (nI p), a3, a4, a5, a6, .int (nI p)] [] (mk c (md d')) K
  | 0, k, d, hn, h, hx => by
    have e : k = p := by omega
    subst e
    refine ⟨d, hx, mx_rf, fun K a1 a3 a4 a5 a6 => ?_⟩
    rw [g101_85]
    simp only [↓g101_0, ↓g101_1, ↓g101_2, ↓g101_5, ↓g101_6, ↓g101_7, ↓g101_9, ↓g101_12, ↓g101_13, ↓g101_14, ↓g101_15, ↓g101_16, ↓g101_17, ↓g101_18, ↓g101_21, ↓g101_22, ↓g101_23, ↓g101_24, ↓g101_27, ↓g101_29, ↓g101_30, ↓g101_31, ↓g101_32, ↓g101_33, ↓g101_34, ↓g101_37, ↓g101_39, ↓g101_40, ↓g101_43, ↓g101_45, ↓g101_46, ↓g101_47, ↓g101_48, ↓g101_49, ↓g101_50, ↓g101_51, ↓g101_52, ↓g101_53, ↓g101_55, ↓g101_56, ↓g101_57, ↓g101_59, ↓g101_61, ↓g101_62, ↓g101_63, ↓g101_64, ↓g101_65, ↓g101_67, ↓g101_69, ↓g101_72, ↓g101_75, ↓g101_76, ↓g101_77, ↓g101_78, ↓g101_79, ↓g101_82, ↓g101_83, ↓g101_87, ↓g101_88, ↓g101_91, ↓g101_92, ↓g101_93, ↓g101_96, ↓g101_98, ↓g101_99, ↓g101_102, ↓g101_105, ↓g101_109, ↓g101_110, ↓g101_111, ↓g101_112, ↓g101_113, ↓g101_115, ↓g101_118, ↓g101_120, ↓g101_124, ↓g101_125, ↓g101_128, ↓g101_131, ↓g101_132, ↓g101_133, ↓g101_136, ↓g101_138, ↓g101_139, ↓g101_142, ↓g101_145, ↓g101_148, ↓g101_149, ↓g101_150, ↓g101_153, ↓g101_156, ↓g101_157, ↓g101_160, ↓g101_161, ↓g101_162, ↓g101_165, ↓g101_166, ↓g101_167, ↓g101_170, ↓g101_173, ↓g101_174, ↓g101_177, ↓g101_178, Int32.le_refl, ↓reduceIte]
  | n + 1, k, d, hn, h, hx => by
    have e1 : ¬ nI p ≤ nI k := nI_ge (by omega) (by omega)
    have hkl : k < l.length := by omega
    obtain ⟨d1, b1, b2, b3⟩ := n_gives (S := S) (c := c) hx (by rw [List.length_take]; omega) (pt l k)
    rw [← tk_1 hkl] at b1
    obtain ⟨d2, q1, q2, q3⟩ := n_goesA hl hp n (k + 1) d1 (by omega) (h.mx b2 (by simp) (by simp)) b1
    refine ⟨d2, q1, mx_tr b2 q2, fun K a1 a3 a4 a5 a6 => ?_⟩
    rw [g101_85]
    simp only [↓g101_0, ↓g101_1, ↓g101_2, ↓g101_5, ↓g101_6, ↓g101_7, ↓g101_9, ↓g101_12, ↓g101_13, ↓g101_14, ↓g101_15, ↓g101_16, ↓g101_17, ↓g101_18, ↓g101_21, ↓g101_22, ↓g101_23, ↓g101_24, ↓g101_27, ↓g101_29, ↓g101_30, ↓g101_31, ↓g101_32, ↓g101_33, ↓g101_34, ↓g101_37, ↓g101_39, ↓g101_40, ↓g101_43, ↓g101_45, ↓g101_46, ↓g101_47, ↓g101_48, ↓g101_49, ↓g101_50, ↓g101_51, ↓g101_52, ↓g101_53, ↓g101_55, ↓g101_56, ↓g101_57, ↓g101_59, ↓g101_61, ↓g101_62, ↓g101_63, ↓g101_64, ↓g101_65, ↓g101_67, ↓g101_69, ↓g101_72, ↓g101_75, ↓g101_76, ↓g101_77, ↓g101_78, ↓g101_79, ↓g101_82, ↓g101_83, ↓g101_87, ↓g101_88, ↓g101_91, ↓g101_92, ↓g101_93, ↓g101_96, ↓g101_98, ↓g101_99, ↓g101_102, ↓g101_105, ↓g101_109, ↓g101_110, ↓g101_111, ↓g101_112, ↓g101_113, ↓g101_115, ↓g101_118, ↓g101_120, ↓g101_124, ↓g101_125, ↓g101_128, ↓g101_131, ↓g101_132, ↓g101_133, ↓g101_136, ↓g101_138, ↓g101_139, ↓g101_142, ↓g101_145, ↓g101_148, ↓g101_149, ↓g101_150, ↓g101_153, ↓g101_156, ↓g101_157, ↓g101_160, ↓g101_161, ↓g101_162, ↓g101_165, ↓g101_166, ↓g101_167, ↓g101_170, ↓g101_173, ↓g101_174, ↓g101_177, ↓g101_178, ↓mo_20, ↓mf_20_0, ↓mf_20_1, ↓mp_20_2, ↓mf_20_2, ↓mf_20_3, ↓mf_20_4, ↓mf_20_5, ↓mp_20_6, ↓mf_20_6, ↓mf_20_7, ↓mp_20_8, ↓mf_20_8, ↓mf_20_9, ↓mf_20_10, ↓mp_20_11, ↓mf_20_11, ↓mf_20_12, ↓mf_20_13, ↓mp_20_14, ↓mf_20_14, ↓mf_20_15, ↓mp_20_16, ↓mf_20_16, ↓ma_21, ↓ms_21, ↓ma_22, ↓ms_22, ↓ma_23, ↓ms_23, ↓ma_24, ↓ms_24, ↓ma_25, ↓ms_25, ↓ma_26, ↓ms_26, ↓ma_27, ↓ms_27, ↓ma_28, ↓ms_28, ↓ma_29, ↓ms_29, ↓ma_30, ↓ms_30, ↓ma_31, ↓ms_31, ↓bnd_some, ↓cond_true, ↓m_pv_none, ↓m_pv_some, m_b01_0, m_b01_1, true_and, and_true, eq_self, e1, ↓reduceIte, ib (show k < 200 by omega), nI_clamp (show k < 2 ^ 31 by omega), h.2 _ hkl, ↓b3, nI_1]
    exact q3 K _ _ _ _ _
theorem n_goesB (hl : l.length ≤ 200) {a : Nat} (ha : a ≤ l.length) (q : Tm) (hq : q.length + (l.length - a) ≤ 200) : ∀ (n k : Nat) (d : Nat → Nat → Int32), n + k = l.length → a ≤ k → RW d l → NX d (q ++ (l.drop a).take (k - a)) → ∃ d', NX d' (q ++ l.drop a) ∧ RW d' l ∧ mx [8] [11] d d' ∧ ∀ (K : Option Value → mM → Prop) (a1 a2 a3 a4 a5 a6 : Value), go S 101 122 [.ref 20, a1, a2, a3, a4, a5, a6, .int (nI k)] [] (mk c (md d)) K = go S 101 148 [.ref 20, a1, a2, a3, a4, a5, a6, .int (nI l.length)] [] (mk c (md d')) K
  | 0, k, d, hn, hak, h, hx => by
    have e : k = l.length := by omega
    subst e
    rw [List.take_of_length_le (by rw [List.length_drop]; omega)] at hx
    refine ⟨d, hx, h, mx_rf, fun K a1 a2 a3 a4 a5 a6 => ?_⟩
    rw [g101_122]
    simp only [↓g101_0, ↓g101_1, ↓g101_2, ↓g101_5, ↓g101_6, ↓g101_7, ↓g101_9, ↓g101_12, ↓g101_13, ↓g101_14, ↓g101_15, ↓g101_16, ↓g101_17, ↓g101_18, ↓g101_21, ↓g101_22, ↓g101_23, ↓g101_24, ↓g101_27, ↓g101_29, ↓g101_30, ↓g101_31, ↓g101_32, ↓g101_33, ↓g101_34, ↓g101_37, ↓g101_39, ↓g101_40, ↓g101_43, ↓g101_45, ↓g101_46, ↓g101_47, ↓g101_48, ↓g101_49, ↓g101_50, ↓g101_51, ↓g101_52, ↓g101_53, ↓g101_55, ↓g101_56, ↓g101_57, ↓g101_59, ↓g101_61, ↓g101_62, ↓g101_63, ↓g101_64, ↓g101_65, ↓g101_67, ↓g101_69, ↓g101_72, ↓g101_75, ↓g101_76, ↓g101_77, ↓g101_78, ↓g101_79, ↓g101_82, ↓g101_83, ↓g101_87, ↓g101_88, ↓g101_91, ↓g101_92, ↓g101_93, ↓g101_96, ↓g101_98, ↓g101_99, ↓g101_102, ↓g101_105, ↓g101_108, ↓g101_109, ↓g101_110, ↓g101_111, ↓g101_112, ↓g101_113, ↓g101_115, ↓g101_118, ↓g101_120, ↓g101_124, ↓g101_125, ↓g101_128, ↓g101_131, ↓g101_132, ↓g101_133, ↓g101_136, ↓g101_138, ↓g101_139, ↓g101_142, ↓g101_145, ↓g101_149, ↓g101_150, ↓g101_153, ↓g101_156, ↓g101_157, ↓g101_160, ↓g101_161, ↓g101_162, ↓g101_165, ↓g101_166, ↓g101_167, ↓g101_170, ↓g101_173, ↓g101_174, ↓g101_177, ↓g101_178, ↓mo_20, ↓mf_20_0, ↓mf_20_1, ↓mp_20_2, ↓mf_20_2, ↓mf_20_3, ↓mf_20_4, ↓mf_20_5, ↓mp_20_6, ↓mf_20_6, ↓mf_20_7, ↓mp_20_8, ↓mf_20_8, ↓mf_20_9, ↓mf_20_10, ↓mp_20_11, ↓mf_20_11, ↓mf_20_12, ↓mf_20_13, ↓mp_20_14, ↓mf_20_14, ↓mf_20_15, ↓mp_20_16, ↓mf_20_16, ↓ma_21, ↓ms_21, ↓ma_22, ↓ms_22, ↓ma_23, ↓ms_23, ↓ma_24, ↓ms_24, ↓ma_25, ↓ms_25, ↓ma_26, ↓ms_26, ↓ma_27, ↓ms_27, ↓ma_28, ↓ms_28, ↓ma_29, ↓ms_29, ↓ma_30, ↓ms_30, ↓ma_31, ↓ms_31, ↓bnd_some, ↓cond_true, ↓m_pv_none, ↓m_pv_some, m_b01_0, m_b01_1, true_and, and_true, eq_self, h.1, Int32.le_refl, ↓reduceIte]
  | n + 1, k, d, hn, hak, h, hx => by
    have hkl : k < l.length := by omega
    have e1 : ¬ nI l.length ≤ nI k := nI_ge (by omega) (by omega)
    obtain ⟨d1, b1, b2, b3⟩ := n_gives (S := S) (c := c) hx (by rw [List.length_append, List.length_take, List.length_drop]; omega) (pt l k)
    have e2 : q ++ (l.drop a).take (k - a) ++ [pt l k] = q ++ (l.drop a).take (k + 1 - a) := by
      rw [List.append_assoc]
      congr 1
      rw [show k + 1 - a = k - a + 1 by omega, tk_1 (l := l.drop a) (by rw [List.length_drop]; omega), pt_drop, show a + (k - a) = k by omega]
    rw [e2] at b1
    obtain ⟨d2, q1, q0, q2, q3⟩ := n_goesB hl ha q hq n (k + 1) d1 (by omega) (by omega) (h.mx b2 (by simp) (by simp)) b1
    refine ⟨d2, q1, q0, mx_tr b2 q2, fun K a1 a2 a3 a4 a5 a6 => ?_⟩
    rw [g101_122]
    simp only [↓g101_0, ↓g101_1, ↓g101_2, ↓g101_5, ↓g101_6, ↓g101_7, ↓g101_9, ↓g101_12, ↓g101_13, ↓g101_14, ↓g101_15, ↓g101_16, ↓g101_17, ↓g101_18, ↓g101_21, ↓g101_22, ↓g101_23, ↓g101_24, ↓g101_27, ↓g101_29, ↓g101_30, ↓g101_31, ↓g101_32, ↓g101_33, ↓g101_34, ↓g101_37, ↓g101_39, ↓g101_40, ↓g101_43, ↓g101_45, ↓g101_46, ↓g101_47, ↓g101_48, ↓g101_49, ↓g101_50, ↓g101_51, ↓g101_52, ↓g101_53, ↓g101_55, ↓g101_56, ↓g101_57, ↓g101_59, ↓g101_61, ↓g101_62, ↓g101_63, ↓g101_64, ↓g101_65, ↓g101_67, ↓g101_69, ↓g101_72, ↓g101_75, ↓g101_76, ↓g101_77, ↓g101_78, ↓g101_79, ↓g101_82, ↓g101_83, ↓g101_87, ↓g101_88, ↓g101_91, ↓g101_92, ↓g101_93, ↓g101_96, ↓g101_98, ↓g101_99, ↓g101_102, ↓g101_105, ↓g101_108, ↓g101_109, ↓g101_110, ↓g101_111, ↓g101_112, ↓g101_113, ↓g101_115, ↓g101_118, ↓g101_120, ↓g101_124, ↓g101_125, ↓g101_128, ↓g101_131, ↓g101_132, ↓g101_133, ↓g101_136, ↓g101_138, ↓g101_139, ↓g101_142, ↓g101_145, ↓g101_149, ↓g101_150, ↓g101_153, ↓g101_156, ↓g101_157, ↓g101_160, ↓g101_161, ↓g101_162, ↓g101_165, ↓g101_166, ↓g101_167, ↓g101_170, ↓g101_173, ↓g101_174, ↓g101_177, ↓g101_178, ↓mo_20, ↓mf_20_0, ↓mf_20_1, ↓mp_20_2, ↓mf_20_2, ↓mf_20_3, ↓mf_20_4, ↓mf_20_5, ↓mp_20_6, ↓mf_20_6, ↓mf_20_7, ↓mp_20_8, ↓mf_20_8, ↓mf_20_9, ↓mf_20_10, ↓mp_20_11, ↓mf_20_11, ↓mf_20_12, ↓mf_20_13, ↓mp_20_14, ↓mf_20_14, ↓mf_20_15, ↓mp_20_16, ↓mf_20_16, ↓ma_21, ↓ms_21, ↓ma_22, ↓ms_22, ↓ma_23, ↓ms_23, ↓ma_24, ↓ms_24, ↓ma_25, ↓ms_25, ↓ma_26, ↓ms_26, ↓ma_27, ↓ms_27, ↓ma_28, ↓ms_28, ↓ma_29, ↓ms_29, ↓ma_30, ↓ms_30, ↓ma_31, ↓ms_31, ↓bnd_some, ↓cond_true, ↓m_pv_none, ↓m_pv_some, m_b01_0, m_b01_1, true_and, and_true, eq_self, h.1, e1, ↓reduceIte, ib (show k < 200 by omega), nI_clamp (show k < 2 ^ 31 by omega), h.2 _ hkl, ↓b3, nI_1]
    exact q3 K _ _ _ _ _ _
theorem n_take {d : Nat → Nat → Int32} {q : Tm} (h : NX d q) (hk : Tok q) (K : Option Value → mM → Prop) : ∃ d', RW d' q ∧ DV d' q ∧ mx [6, 7, 9] [8] d d' ∧ ∀ (K : Option Value → mM → Prop) (a1 a2 a3 a4 a5 a6 a7 : Value), go S 101 148 [.ref 20, a1, a2, a3, a4, a5, a6, a7] [] (mk c (md d)) K = K (some (.int 0)) (mk c (md d')) := by
  have hl := hk.2
  have g0 : ∀ K, go S 83 0 [.ref 28, .int 0, .ref 26, .int 0, .int (nI q.length), .null] [] (mk c (md (ca d 0 (upd (d 0) 8 (nI q.length))))) K = K none (mk c (md (ca (ca d 0 (upd (d 0) 8 (nI q.length))) 6 (va_cpy (d 8) (d 6) 0 0 q.length)))) := fun K => by
    have g := n_moves (S := S) (F := fun g => mk c (md (ca (ca d 0 (upd (d 0) 8 (nI q.length))) 6 g))) (a := 28) (b := 26) (f := d 8) (fun g => rfl) (fun g => rfl) (fun g g' => by
      show mk c (md (ca (ca (ca d 0 (upd (d 0) 8 (nI q.length))) 6 g) 6 g')) = _
      rw [ca_ca]) (by decide) (by decide) (p := 0) (q := 0) (w := q.length) (by omega) (by omega) (d 6) K (x := 0) (y := 0)
    have e : ca (ca d 0 (upd (d 0) 8 (nI q.length))) 6 (d 6) = ca d 0 (upd (d 0) 8 (nI q.length)) := ca_self (ca d 0 (upd (d 0) 8 (nI q.length))) 6
    simp only [e] at g
    exact g
  have r1 : RW (ca (ca d 0 (upd (d 0) 8 (nI q.length))) 6 (va_cpy (d 8) (d 6) 0 0 q.length)) q := by
    refine ⟨by rw [ca_ne (by decide), ca_eq, upd_eq], fun p hp => ?_⟩
    rw [ca_eq, pk_cpy_in (by omega) (by omega), Nat.sub_zero, Nat.zero_add]
    exact h.2 p hp
  obtain ⟨d', b1, b2, b3⟩ := n_deps (S := S) (c := c) hk r1
  refine ⟨d', r1.mx b2 (by simp) (by simp), b1, mx_tr (mx_tr (mx_u (by simp)) (mx_ca (by simp) (by decide))) (mx_up b2 (by simp) (by simp)), fun K a1 a2 a3 a4 a5 a6 a7 => ?_⟩
  simp only [↓g101_0, ↓g101_1, ↓g101_2, ↓g101_5, ↓g101_6, ↓g101_7, ↓g101_9, ↓g101_12, ↓g101_13, ↓g101_14, ↓g101_15, ↓g101_16, ↓g101_17, ↓g101_18, ↓g101_21, ↓g101_22, ↓g101_23, ↓g101_24, ↓g101_27, ↓g101_29, ↓g101_30, ↓g101_31, ↓g101_32, ↓g101_33, ↓g101_34, ↓g101_37, ↓g101_39, ↓g101_40, ↓g101_43, ↓g101_45, ↓g101_46, ↓g101_47, ↓g101_48, ↓g101_49, ↓g101_50, ↓g101_51, ↓g101_52, ↓g101_53, ↓g101_55, ↓g101_56, ↓g101_57, ↓g101_59, ↓g101_61, ↓g101_62, ↓g101_63, ↓g101_64, ↓g101_65, ↓g101_67, ↓g101_69, ↓g101_72, ↓g101_75, ↓g101_76, ↓g101_77, ↓g101_78, ↓g101_79, ↓g101_82, ↓g101_83, ↓g101_87, ↓g101_88, ↓g101_91, ↓g101_92, ↓g101_93, ↓g101_96, ↓g101_98, ↓g101_99, ↓g101_102, ↓g101_105, ↓g101_108, ↓g101_109, ↓g101_110, ↓g101_111, ↓g101_112, ↓g101_113, ↓g101_115, ↓g101_118, ↓g101_120, ↓g101_124, ↓g101_125, ↓g101_128, ↓g101_131, ↓g101_132, ↓g101_133, ↓g101_136, ↓g101_138, ↓g101_139, ↓g101_142, ↓g101_145, ↓g101_148, ↓g101_149, ↓g101_150, ↓g101_153, ↓g101_156, ↓g101_157, ↓g101_160, ↓g101_161, ↓g101_162, ↓g101_165, ↓g101_166, ↓g101_167, ↓g101_170, ↓g101_173, ↓g101_174, ↓g101_177, ↓g101_178, ↓mo_20, ↓mf_20_0, ↓mf_20_1, ↓mp_20_2, ↓mf_20_2, ↓mf_20_3, ↓mf_20_4, ↓mf_20_5, ↓mp_20_6, ↓mf_20_6, ↓mf_20_7, ↓mp_20_8, ↓mf_20_8, ↓mf_20_9, ↓mf_20_10, ↓mp_20_11, ↓mf_20_11, ↓mf_20_12, ↓mf_20_13, ↓mp_20_14, ↓mf_20_14, ↓mf_20_15, ↓mp_20_16, ↓mf_20_16, ↓ma_21, ↓ms_21, ↓ma_22, ↓ms_22, ↓ma_23, ↓ms_23, ↓ma_24, ↓ms_24, ↓ma_25, ↓ms_25, ↓ma_26, ↓ms_26, ↓ma_27, ↓ms_27, ↓ma_28, ↓ms_28, ↓ma_29, ↓ms_29, ↓ma_30, ↓ms_30, ↓ma_31, ↓ms_31, ↓bnd_some, ↓cond_true, ↓m_pv_none, ↓m_pv_some, m_b01_0, m_b01_1, true_and, and_true, eq_self, h.1, cz_1, cz_2, cz_3, cz_4, cz_5, cz_6, cz_7, cz_8, cz_9, cz_10, cz_11, cn_1, cn_2, cn_3, cn_4, cn_5, cn_6, cn_7, cn_8, cn_9, cn_10, cn_11, un_2_6, un_2_8, un_2_11, un_2_14, un_2_16, un_6_2, un_6_8, un_6_11, un_6_14, un_6_16, un_8_2, un_8_6, un_8_11, un_8_14, un_8_16, un_11_2, un_11_6, un_11_8, un_11_14, un_11_16, un_14_2, un_14_6, un_14_8, un_14_11, un_14_16, un_16_2, un_16_6, un_16_8, un_16_11, un_16_14, ca_eq, upd_eq, ↓g0, ↓b3]
variable {d : Nat → Nat → Int32}
theorem n_goes (h : RW d l) (hv : DV d l) (hk : Tok l) {o : Nat} (ho : o < 3) : ∃ d', RW d' (gol l o) ∧ DV d' (gol l o) ∧ mx [6, 7, 8, 9] [8, 11] d d' ∧ ∀ (K : Option Value → mM → Prop), go S 101 0 [.ref 20, .int (nI o), .null, .null, .null, .null, .null, .null] [] (mk c (md d)) K = K (some (.int (goc l o))) (mk c (md d')) := by
  have g1 := fun K => n_next (S := S) (c := c) h hv hk ho K
  have hl := hk.2
  unfold gol goc stp1
  cases hz : nxt l o with
  | none =>
    rw [hz] at g1
    refine ⟨d, h, hv, mx_rf, fun K => ?_⟩
    simp only [↓g101_0, ↓g101_1, ↓g101_2, ↓g101_5, ↓g101_6, ↓g101_7, ↓g101_9, ↓g101_12, ↓g101_13, ↓g101_14, ↓g101_15, ↓g101_16, ↓g101_17, ↓g101_18, ↓g101_21, ↓g101_22, ↓g101_23, ↓g101_24, ↓g101_27, ↓g101_29, ↓g101_30, ↓g101_31, ↓g101_32, ↓g101_33, ↓g101_34, ↓g101_37, ↓g101_39, ↓g101_40, ↓g101_43, ↓g101_45, ↓g101_46, ↓g101_47, ↓g101_48, ↓g101_49, ↓g101_50, ↓g101_51, ↓g101_52, ↓g101_53, ↓g101_55, ↓g101_56, ↓g101_57, ↓g101_59, ↓g101_61, ↓g101_62, ↓g101_63, ↓g101_64, ↓g101_65, ↓g101_67, ↓g101_69, ↓g101_72, ↓g101_75, ↓g101_76, ↓g101_77, ↓g101_78, ↓g101_79, ↓g101_82, ↓g101_83, ↓g101_87, ↓g101_88, ↓g101_91, ↓g101_92, ↓g101_93, ↓g101_96, ↓g101_98, ↓g101_99, ↓g101_102, ↓g101_105, ↓g101_108, ↓g101_109, ↓g101_110, ↓g101_111, ↓g101_112, ↓g101_113, ↓g101_115, ↓g101_118, ↓g101_120, ↓g101_124, ↓g101_125, ↓g101_128, ↓g101_131, ↓g101_132, ↓g101_133, ↓g101_136, ↓g101_138, ↓g101_139, ↓g101_142, ↓g101_145, ↓g101_148, ↓g101_149, ↓g101_150, ↓g101_153, ↓g101_156, ↓g101_157, ↓g101_160, ↓g101_161, ↓g101_162, ↓g101_165, ↓g101_166, ↓g101_167, ↓g101_170, ↓g101_173, ↓g101_174, ↓g101_177, ↓g101_178, ↓mo_20, ↓mf_20_0, ↓mf_20_1, ↓mp_20_2, ↓mf_20_2, ↓mf_20_3, ↓mf_20_4, ↓mf_20_5, ↓mp_20_6, ↓mf_20_6, ↓mf_20_7, ↓mp_20_8, ↓mf_20_8, ↓mf_20_9, ↓mf_20_10, ↓mp_20_11, ↓mf_20_11, ↓mf_20_12, ↓mf_20_13, ↓mp_20_14, ↓mf_20_14, ↓mf_20_15, ↓mp_20_16, ↓mf_20_16, ↓ma_21, ↓ms_21, ↓ma_22, ↓ms_22, ↓ma_23, ↓ms_23, ↓ma_24, ↓ms_24, ↓ma_25, ↓ms_25, ↓ma_26, ↓ms_26, ↓ma_27, ↓ms_27, ↓ma_28, ↓ms_28, ↓ma_29, ↓ms_29, ↓ma_30, ↓ms_30, ↓ma_31, ↓ms_31, ↓bnd_some, ↓cond_true, ↓m_pv_none, ↓m_pv_some, m_b01_0, m_b01_1, true_and, and_true, eq_self, ↓g1, show nbI none = -6 from rfl, ↓reduceIte]
  | some p =>
    rw [hz] at g1
    obtain ⟨hp, hr⟩ := nxt_red hz
    obtain ⟨r1, r2, r3, r4, r5, -⟩ := red_all hk.1 hp hr
    have e1 : ¬ nI p = -6 := nI_m6 (by omega)
    have g2 := fun K => n_end (S := S) (c := c) h hk (p := p + 1) (by omega) K
    have g3 := fun K => n_end (S := S) (c := c) h hk (p := en l (p + 1)) (by omega) K
    rw [← r5] at g3
    have g4 := fun K => n_uses (S := S) (c := c) h hv hk hp hr K
    have hrl := rwt_len hk.1 hp hr
    have hub := us_le l p (en l (p + 1) - (p + 2))
    have e2 : nI l.length - (nI (en l p) - nI p) + (nI (en l (p + 1)) - nI p - 2 - nI (us l p (en l (p + 1) - (p + 2)))) + nI (us l p (en l (p + 1) - (p + 2))) * (nI (en l p) - nI (en l (p + 1))) = nI (rwt l p).length := by
      rw [pk_sub (show p ≤ en l p by omega), pk_sub (show en l p - p ≤ l.length by omega), pk_sub (show p ≤ en l (p + 1) by omega), l_2, pk_sub (show 2 ≤ en l (p + 1) - p by omega), pk_sub (show us l p (en l (p + 1) - (p + 2)) ≤ en l (p + 1) - p - 2 by omega), pk_sub (show en l (p + 1) ≤ en l p by omega), pk_mul, nI_add, nI_add]
      congr 1
      omega
    have e3 : (nI (rwt l p).length ≤ 200) ↔ (rwt l p).length ≤ 200 := nI_leI (b := 200) (rwt_b hk hp hr) (by decide)
    dsimp only
    by_cases hn : (rwt l p).length ≤ 200
    · rw [if_pos hn, if_pos hn]
      have hD : mx [8] [11] d (ca d 0 (upd (d 0) 11 0)) := mx_u (by simp)
      have x0 : NX (ca d 0 (upd (d 0) 11 0)) (l.take 0) := ⟨by rw [ca_eq, upd_eq]; rfl, fun p hp => absurd hp (Nat.not_lt_zero p)⟩
      obtain ⟨d1, x1, m1, c1⟩ := n_goesA (S := S) (c := c) hl (show p ≤ l.length by omega) p 0 _ rfl (h.mx hD (by simp) (by simp)) x0
      have m1' := mx_tr hD m1
      obtain ⟨d2, x2, m2, c2⟩ := n_bodyL (S := S) (c := c) hk hp hr hn (en l (p + 1) - (p + 2)) 0 d1 rfl (h.mx m1' (by simp) (by simp)) (hv.mx m1' (by simp)) (by show NX d1 (l.take p ++ []); rw [List.append_nil]; exact x1)
      have m2' := mx_tr m1' m2
      have hn' := hn
      unfold rwt at hn'
      rw [List.length_append, List.length_drop] at hn'
      obtain ⟨d3, x3, -, m3, c3⟩ := n_goesB (S := S) (c := c) hl (show en l p ≤ l.length by omega) (l.take p ++ bd l p (en l (p + 1) - (p + 2))) hn' (l.length - en l p) (en l p) d2 (by omega) (Nat.le_refl _) (h.mx m2' (by simp) (by simp)) (by rw [Nat.sub_self, List.take_zero, List.append_nil]; exact x2)
      have m3' := mx_tr m2' m3
      have x3' : NX d3 (rwt l p) := x3
      obtain ⟨d4, w1, w2, m4, c4⟩ := n_take (S := S) (c := c) x3' ⟨rwt_ok hk.1 hp hr, hn⟩ (fun _ _ => True)
      refine ⟨d4, w1, w2, mx_tr (mx_up m3' (by simp) (by simp)) (mx_up m4 (by simp) (by simp)), fun K => ?_⟩
      have c1' := fun K a1 a3 a4 a5 a6 => c1 K a1 a3 a4 a5 a6
      have e0 : (0 : Int32) = nI 0 := rfl
      have c1'' : ∀ K a1 a3 a4 a5 a6, go S 101 85 [.ref 20, a1, .int (nI p), a3, a4, a5, a6, .int 0] [] (mk c (md (ca d 0 (upd (d 0) 11 0)))) K = go S 101 108 [.ref 20, a1, .int (nI p), a3, a4, a5, a6, .int (nI p)] [] (mk c (md d1)) K := c1
      have c2' : ∀ K, go S 100 0 [.ref 20, .int (nI (p + 1)), .int (nI (en l (p + 1))), .int (nI (en l p)), .null, .null, .null] [] (mk c (md d1)) K = K none (mk c (md d2)) := fun K => by
        simp only [↓g100_0, ↓g100_1, ↓g100_2, ↓g100_3, ↓g100_7, ↓g100_8, ↓g100_11, ↓g100_12, ↓g100_15, ↓g100_17, ↓g100_18, ↓g100_19, ↓g100_22, ↓g100_23, ↓g100_24, ↓g100_25, ↓g100_26, ↓g100_27, ↓g100_29, ↓g100_30, ↓g100_32, ↓g100_35, ↓g100_37, ↓g100_38, ↓g100_40, ↓g100_43, ↓g100_46, ↓g100_48, ↓g100_50, ↓g100_53, ↓g100_54, ↓g100_55, ↓g100_56, ↓g100_58, ↓g100_61, ↓g100_64, ↓g100_65, ↓g100_66, ↓g100_68, ↓g100_71, ↓g100_74, ↓g100_76, ↓g100_78, ↓g100_81, ↓g100_82, ↓g100_85, ↓g100_87, ↓g100_88, ↓g100_89, ↓g100_90, ↓g100_93, ↓g100_94, ↓g100_97, ↓g100_99, ↓g100_100, ↓g100_103, ↓g100_106, ↓g100_109, nI_1]
        exact c2 K .null .null
      simp only [↓g101_0, ↓g101_1, ↓g101_2, ↓g101_5, ↓g101_6, ↓g101_7, ↓g101_9, ↓g101_12, ↓g101_13, ↓g101_14, ↓g101_15, ↓g101_16, ↓g101_17, ↓g101_18, ↓g101_21, ↓g101_22, ↓g101_23, ↓g101_24, ↓g101_27, ↓g101_29, ↓g101_30, ↓g101_31, ↓g101_32, ↓g101_33, ↓g101_34, ↓g101_37, ↓g101_39, ↓g101_40, ↓g101_43, ↓g101_45, ↓g101_46, ↓g101_47, ↓g101_48, ↓g101_49, ↓g101_50, ↓g101_51, ↓g101_52, ↓g101_53, ↓g101_55, ↓g101_56, ↓g101_57, ↓g101_59, ↓g101_61, ↓g101_62, ↓g101_63, ↓g101_64, ↓g101_65, ↓g101_67, ↓g101_69, ↓g101_72, ↓g101_75, ↓g101_76, ↓g101_77, ↓g101_78, ↓g101_79, ↓g101_82, ↓g101_83, ↓g101_87, ↓g101_88, ↓g101_91, ↓g101_92, ↓g101_93, ↓g101_96, ↓g101_98, ↓g101_99, ↓g101_102, ↓g101_105, ↓g101_109, ↓g101_110, ↓g101_111, ↓g101_112, ↓g101_113, ↓g101_115, ↓g101_118, ↓g101_120, ↓g101_124, ↓g101_125, ↓g101_128, ↓g101_131, ↓g101_132, ↓g101_133, ↓g101_136, ↓g101_138, ↓g101_139, ↓g101_142, ↓g101_145, ↓g101_149, ↓g101_150, ↓g101_153, ↓g101_156, ↓g101_157, ↓g101_160, ↓g101_161, ↓g101_162, ↓g101_165, ↓g101_166, ↓g101_167, ↓g101_170, ↓g101_173, ↓g101_174, ↓g101_177, ↓g101_178, ↓mo_20, ↓mf_20_0, ↓mf_20_1, ↓mp_20_2, ↓mf_20_2, ↓mf_20_3, ↓mf_20_4, ↓mf_20_5, ↓mp_20_6, ↓mf_20_6, ↓mf_20_7, ↓mp_20_8, ↓mf_20_8, ↓mf_20_9, ↓mf_20_10, ↓mp_20_11, ↓mf_20_11, ↓mf_20_12, ↓mf_20_13, ↓mp_20_14, ↓mf_20_14, ↓mf_20_15, ↓mp_20_16, ↓mf_20_16, ↓ma_21, ↓ms_21, ↓ma_22, ↓ms_22, ↓ma_23, ↓ms_23, ↓ma_24, ↓ms_24, ↓ma_25, ↓ms_25, ↓ma_26, ↓ms_26, ↓ma_27, ↓ms_27, ↓ma_28, ↓ms_28, ↓ma_29, ↓ms_29, ↓ma_30, ↓ms_30, ↓ma_31, ↓ms_31, ↓bnd_some, ↓cond_true, ↓m_pv_none, ↓m_pv_some, m_b01_0, m_b01_1, true_and, and_true, eq_self, ↓g1, show nbI (some p) = nI p from rfl, e1, ↓reduceIte, nI_1, ↓g2, ↓g3, ↓g4, h.1, e2, e3, hn, ↓c1'']
      simp only [↓g101_0, ↓g101_1, ↓g101_2, ↓g101_5, ↓g101_6, ↓g101_7, ↓g101_9, ↓g101_12, ↓g101_13, ↓g101_14, ↓g101_15, ↓g101_16, ↓g101_17, ↓g101_18, ↓g101_21, ↓g101_22, ↓g101_23, ↓g101_24, ↓g101_27, ↓g101_29, ↓g101_30, ↓g101_31, ↓g101_32, ↓g101_33, ↓g101_34, ↓g101_37, ↓g101_39, ↓g101_40, ↓g101_43, ↓g101_45, ↓g101_46, ↓g101_47, ↓g101_48, ↓g101_49, ↓g101_50, ↓g101_51, ↓g101_52, ↓g101_53, ↓g101_55, ↓g101_56, ↓g101_57, ↓g101_59, ↓g101_61, ↓g101_62, ↓g101_63, ↓g101_64, ↓g101_65, ↓g101_67, ↓g101_69, ↓g101_72, ↓g101_75, ↓g101_76, ↓g101_77, ↓g101_78, ↓g101_79, ↓g101_82, ↓g101_83, ↓g101_87, ↓g101_88, ↓g101_91, ↓g101_92, ↓g101_93, ↓g101_96, ↓g101_98, ↓g101_99, ↓g101_102, ↓g101_105, ↓g101_108, ↓g101_109, ↓g101_110, ↓g101_111, ↓g101_112, ↓g101_113, ↓g101_115, ↓g101_118, ↓g101_120, ↓g101_124, ↓g101_125, ↓g101_128, ↓g101_131, ↓g101_132, ↓g101_133, ↓g101_136, ↓g101_138, ↓g101_139, ↓g101_142, ↓g101_145, ↓g101_149, ↓g101_150, ↓g101_153, ↓g101_156, ↓g101_157, ↓g101_160, ↓g101_161, ↓g101_162, ↓g101_165, ↓g101_166, ↓g101_167, ↓g101_170, ↓g101_173, ↓g101_174, ↓g101_177, ↓g101_178, ↓mo_20, ↓mf_20_0, ↓mf_20_1, ↓mp_20_2, ↓mf_20_2, ↓mf_20_3, ↓mf_20_4, ↓mf_20_5, ↓mp_20_6, ↓mf_20_6, ↓mf_20_7, ↓mp_20_8, ↓mf_20_8, ↓mf_20_9, ↓mf_20_10, ↓mp_20_11, ↓mf_20_11, ↓mf_20_12, ↓mf_20_13, ↓mp_20_14, ↓mf_20_14, ↓mf_20_15, ↓mp_20_16, ↓mf_20_16, ↓ma_21, ↓ms_21, ↓ma_22, ↓ms_22, ↓ma_23, ↓ms_23, ↓ma_24, ↓ms_24, ↓ma_25, ↓ms_25, ↓ma_26, ↓ms_26, ↓ma_27, ↓ms_27, ↓ma_28, ↓ms_28, ↓ma_29, ↓ms_29, ↓ma_30, ↓ms_30, ↓ma_31, ↓ms_31, ↓bnd_some, ↓cond_true, ↓m_pv_none, ↓m_pv_some, m_b01_0, m_b01_1, true_and, and_true, eq_self, nI_1, ↓c2', ↓c3, ↓c4]
    · rw [if_neg hn, if_neg hn]
      refine ⟨d, h, hv, mx_rf, fun K => ?_⟩
      simp only [↓g101_0, ↓g101_1, ↓g101_2, ↓g101_5, ↓g101_6, ↓g101_7, ↓g101_9, ↓g101_12, ↓g101_13, ↓g101_14, ↓g101_15, ↓g101_16, ↓g101_17, ↓g101_18, ↓g101_21, ↓g101_22, ↓g101_23, ↓g101_24, ↓g101_27, ↓g101_29, ↓g101_30, ↓g101_31, ↓g101_32, ↓g101_33, ↓g101_34, ↓g101_37, ↓g101_39, ↓g101_40, ↓g101_43, ↓g101_45, ↓g101_46, ↓g101_47, ↓g101_48, ↓g101_49, ↓g101_50, ↓g101_51, ↓g101_52, ↓g101_53, ↓g101_55, ↓g101_56, ↓g101_57, ↓g101_59, ↓g101_61, ↓g101_62, ↓g101_63, ↓g101_64, ↓g101_65, ↓g101_67, ↓g101_69, ↓g101_72, ↓g101_75, ↓g101_76, ↓g101_77, ↓g101_78, ↓g101_79, ↓g101_82, ↓g101_83, ↓g101_87, ↓g101_88, ↓g101_91, ↓g101_92, ↓g101_93, ↓g101_96, ↓g101_98, ↓g101_99, ↓g101_102, ↓g101_105, ↓g101_108, ↓g101_109, ↓g101_110, ↓g101_111, ↓g101_112, ↓g101_113, ↓g101_115, ↓g101_118, ↓g101_120, ↓g101_124, ↓g101_125, ↓g101_128, ↓g101_131, ↓g101_132, ↓g101_133, ↓g101_136, ↓g101_138, ↓g101_139, ↓g101_142, ↓g101_145, ↓g101_148, ↓g101_149, ↓g101_150, ↓g101_153, ↓g101_156, ↓g101_157, ↓g101_160, ↓g101_161, ↓g101_162, ↓g101_165, ↓g101_166, ↓g101_167, ↓g101_170, ↓g101_173, ↓g101_174, ↓g101_177, ↓g101_178, ↓mo_20, ↓mf_20_0, ↓mf_20_1, ↓mp_20_2, ↓mf_20_2, ↓mf_20_3, ↓mf_20_4, ↓mf_20_5, ↓mp_20_6, ↓mf_20_6, ↓mf_20_7, ↓mp_20_8, ↓mf_20_8, ↓mf_20_9, ↓mf_20_10, ↓mp_20_11, ↓mf_20_11, ↓mf_20_12, ↓mf_20_13, ↓mp_20_14, ↓mf_20_14, ↓mf_20_15, ↓mp_20_16, ↓mf_20_16, ↓ma_21, ↓ms_21, ↓ma_22, ↓ms_22, ↓ma_23, ↓ms_23, ↓ma_24, ↓ms_24, ↓ma_25, ↓ms_25, ↓ma_26, ↓ms_26, ↓ma_27, ↓ms_27, ↓ma_28, ↓ms_28, ↓ma_29, ↓ms_29, ↓ma_30, ↓ms_30, ↓ma_31, ↓ms_31, ↓bnd_some, ↓cond_true, ↓m_pv_none, ↓m_pv_some, m_b01_0, m_b01_1, true_and, and_true, eq_self, ↓g1, show nbI (some p) = nI p from rfl, e1, ↓reduceIte, nI_1, ↓g2, ↓g3, ↓g4, h.1, e2, e3, hn]
theorem goc_0 {o : Nat} : goc l o = 0 ↔ ∃ l', stp1 l o = some l' := by
  unfold goc stp1
  cases nxt l o with
  | none => exact ⟨fun h => absurd (show (1 : Int32) = 0 from h) (by decide), fun ⟨l', h⟩ => by cases h⟩
  | some p =>
    dsimp only
    split
    · exact ⟨fun _ => ⟨_, rfl⟩, fun _ => rfl⟩
    · exact ⟨fun h => absurd (show (2 : Int32) = 0 from h) (by decide), fun ⟨l', h⟩ => by cases h⟩
theorem goc_1 {o : Nat} : goc l o = 1 ↔ nxt l o = none := by
  unfold goc
  cases nxt l o with
  | none => exact ⟨fun _ => rfl, fun _ => rfl⟩
  | some p =>
    dsimp only
    split
    · exact ⟨fun h => absurd (show (0 : Int32) = 1 from h) (by decide), fun h => by cases h⟩
    · exact ⟨fun h => absurd (show (2 : Int32) = 1 from h) (by decide), fun h => by cases h⟩
def onv (l : Tm) (o n : Nat) : Int32 := if nxt (rn o n l).2.2 o = none then nI (rn o n l).1 else -1 - nI (rn o n l).1
end MOD5
