/-! the law's own methods: scan, end, deep, count, low, cell -/
section SCAN
variable {S : mS} {c : Nat → Nat → Int32} {r : mM} {l : Tm}
theorem x_scanL (hw : WF l) (hl : l.length ≤ 62) (n : Nat) : ∀ (k : Nat) (a : Nat → Nat → Int32), n + k = l.length → LT a l → LN a l k → WT (a 3) (wl l k) → ∃ a', LN a' l l.length ∧ sx [2, 3] a a' ∧ ∀ (K : Option Value → mM → Prop), go S 66 10 [.ref 20, .ref 28, .ref 22, .ref 23, .int (nI (wl l k).length), .int (nI k)] [] (mk c (ml a r)) K = K none (mk c (ml a' r)) := by
  induction n with
  | zero =>
    intro k a hn h hN hW
    have e : k = l.length := by omega
    subst e
    refine ⟨a, hN, sx_rf, fun K => ?_⟩
    rw [g66_10]
    simp only [↓g66_0, ↓g66_1, ↓g66_3, ↓g66_4, ↓g66_5, ↓g66_6, ↓g66_7, ↓g66_8, ↓g66_12, ↓g66_13, ↓g66_14, ↓g66_15, ↓g66_18, ↓g66_19, ↓g66_21, ↓g66_22, ↓g66_25, ↓g66_27, ↓g66_28, ↓g66_29, ↓g66_30, ↓g66_32, ↓g66_33, ↓g66_34, ↓g66_37, ↓g66_38, ↓g66_40, ↓g66_43, ↓g66_44, ↓g66_46, ↓g66_47, ↓g66_48, ↓g66_49, ↓g66_51, ↓g66_54, ↓g66_55, ↓g66_57, ↓g66_58, ↓g66_59, ↓g66_60, ↓g66_62, ↓g66_63, ↓g66_64, ↓g66_67, ↓g66_68, ↓g66_70, ↓g66_73, ↓g66_75, ↓g66_76, ↓g66_79, ↓g66_82, ↓la_20, ↓ls_20, ↓la_21, ↓ls_21, ↓la_22, ↓ls_22, ↓la_23, ↓ls_23, ↓la_24, ↓ls_24, ↓la_25, ↓ls_25, ↓la_26, ↓ls_26, ↓la_27, ↓ls_27, ↓la_28, ↓ls_28, ↓bnd_some, ↓cond_true, ↓m_pv_none, ↓m_pv_some, m_b01_0, m_b01_1, true_and, and_true, ib_0, ic_0, h.1, Int32.le_refl, ↓reduceIte]
  | succ n ih =>
    intro k a hn h hN hW
    have hkl : k < l.length := by omega
    obtain ⟨s, hs⟩ := sk_cons (hw.1 k hkl).1
    obtain ⟨w1, w2⟩ := wl_step hs
    have hb := sk_bound l k
    rw [hs, List.length_cons] at hb
    rw [w1] at hW
    have e1 : ¬ nI l.length ≤ nI k := nI_ge (by omega) (by omega)
    have e2 : nI (wl l k).length + -1 = nI s.length := by rw [w1, List.length_cons, List.length_map, nI_dec]
    have e3 : a 3 s.length = nbm (nb l k) := by
      have := hW.hd
      rw [List.length_map] at this
      exact this
    have hW2 := hW.tl
    have hkd := hw.kd hkl
    have e4 : (nI (kd l k) = 3) = (kd l k = 3) := propext (nI_eq (b := 3) (by omega) (by decide))
    have e5 : (nI (kd l k) = 2) = (kd l k = 2) := propext (nI_eq (b := 2) (by omega) (by decide))
    have hN' : ∀ f, LN (ca (ca a 2 (upd (a 2) k (nbm (nb l k)))) 3 f) l (k + 1) := fun f p hp => by
      rw [cx_3_2, ca_eq]
      by_cases e : p = k
      · subst e
        rw [upd_eq]
      · rw [upd_ne e]
        exact hN p (by omega)
    have hs' : ∀ f, sx [2, 3] a (ca (ca a 2 (upd (a 2) k (nbm (nb l k)))) 3 f) := fun f => sx_tr (sx_ca (by simp)) (sx_ca (by simp))
    have next : ∀ f, WT f (wl l (k + 1)) → ∃ a', LN a' l l.length ∧ sx [2, 3] a a' ∧ ∀ (K : Option Value → mM → Prop), go S 66 10 [.ref 20, .ref 28, .ref 22, .ref 23, .int (nI (wl l (k + 1)).length), .int (nI (k + 1))] [] (mk c (ml (ca (ca a 2 (upd (a 2) k (nbm (nb l k)))) 3 f) r)) K = K none (mk c (ml a' r)) := fun f hf => by
      obtain ⟨a', z1, z2, z3⟩ := ih (k + 1) (ca (ca a 2 (upd (a 2) k (nbm (nb l k)))) 3 f) (by omega) (h.sx (hs' f) (by simp) (by simp) (by simp)) (hN' f) (by rw [ca_eq]; exact hf)
      exact ⟨a', z1, sx_tr (hs' f) z2, z3⟩
    have c0 : ca (ca a 2 (upd (a 2) k (nbm (nb l k)))) 3 (a 3) = ca a 2 (upd (a 2) k (nbm (nb l k))) := by
      have := ca_self (ca a 2 (upd (a 2) k (nbm (nb l k)))) 3
      rw [cx_2_3] at this
      exact this
    rw [w2] at next
    by_cases h3 : kd l k = 3
    · rw [if_neg (by omega), if_pos h3] at next
      have hW3 := (hW2.put (d := nbm (nb l k))).put (d := nbm (nb l k))
      rw [List.length_cons, List.length_map] at hW3
      obtain ⟨a', z1, z2, z3⟩ := next _ hW3
      refine ⟨a', z1, z2, fun K => ?_⟩
      rw [g66_10]
      simp only [↓g66_0, ↓g66_1, ↓g66_3, ↓g66_4, ↓g66_5, ↓g66_6, ↓g66_7, ↓g66_8, ↓g66_12, ↓g66_13, ↓g66_14, ↓g66_15, ↓g66_18, ↓g66_19, ↓g66_21, ↓g66_22, ↓g66_25, ↓g66_27, ↓g66_28, ↓g66_29, ↓g66_30, ↓g66_32, ↓g66_33, ↓g66_34, ↓g66_37, ↓g66_38, ↓g66_40, ↓g66_43, ↓g66_44, ↓g66_46, ↓g66_47, ↓g66_48, ↓g66_49, ↓g66_51, ↓g66_54, ↓g66_55, ↓g66_57, ↓g66_58, ↓g66_59, ↓g66_60, ↓g66_62, ↓g66_63, ↓g66_64, ↓g66_67, ↓g66_68, ↓g66_70, ↓g66_73, ↓g66_75, ↓g66_76, ↓g66_79, ↓g66_82, ↓la_20, ↓ls_20, ↓la_21, ↓ls_21, ↓la_22, ↓ls_22, ↓la_23, ↓ls_23, ↓la_24, ↓ls_24, ↓la_25, ↓ls_25, ↓la_26, ↓ls_26, ↓la_27, ↓ls_27, ↓la_28, ↓ls_28, ↓bnd_some, ↓cond_true, ↓m_pv_none, ↓m_pv_some, m_b01_0, m_b01_1, true_and, and_true, ca_eq, ca_ca, cx_0_1, cx_0_2, cx_0_3, cx_0_4, cx_0_5, cx_0_6, cx_0_7, cx_0_8, cx_1_0, cx_1_2, cx_1_3, cx_1_4, cx_1_5, cx_1_6, cx_1_7, cx_1_8, cx_2_0, cx_2_1, cx_2_3, cx_2_4, cx_2_5, cx_2_6, cx_2_7, cx_2_8, cx_3_0, cx_3_1, cx_3_2, cx_3_4, cx_3_5, cx_3_6, cx_3_7, cx_3_8, cx_4_0, cx_4_1, cx_4_2, cx_4_3, cx_4_5, cx_4_6, cx_4_7, cx_4_8, cx_5_0, cx_5_1, cx_5_2, cx_5_3, cx_5_4, cx_5_6, cx_5_7, cx_5_8, cx_6_0, cx_6_1, cx_6_2, cx_6_3, cx_6_4, cx_6_5, cx_6_7, cx_6_8, cx_7_0, cx_7_1, cx_7_2, cx_7_3, cx_7_4, cx_7_5, cx_7_6, cx_7_8, cx_8_0, cx_8_1, cx_8_2, cx_8_3, cx_8_4, cx_8_5, cx_8_6, cx_8_7, ib_0, ic_0, h.1, e1, e2, e3, h.2 k hkl, ib (show k < 64 by omega), ib (show s.length < 64 by omega), nI_clamp (show k < 2 ^ 31 by omega), nI_clamp (show s.length < 2 ^ 31 by omega), e4, e5, h3, upd_eq, nI_1, ib (show s.length + 1 < 64 by omega), nI_clamp (show s.length + 1 < 2 ^ 31 by omega), ↓reduceIte, show ¬ (3 : Nat) = 2 by decide]
      have := z3 K
      rw [List.length_cons, List.length_cons, List.length_map] at this
      exact this
    · by_cases h2 : kd l k = 2
      · rw [if_pos h2] at next
        have hW3 := hW2.put (d := nI k)
        rw [List.length_map] at hW3
        obtain ⟨a', z1, z2, z3⟩ := next _ hW3
        refine ⟨a', z1, z2, fun K => ?_⟩
        rw [g66_10]
        simp only [↓g66_0, ↓g66_1, ↓g66_3, ↓g66_4, ↓g66_5, ↓g66_6, ↓g66_7, ↓g66_8, ↓g66_12, ↓g66_13, ↓g66_14, ↓g66_15, ↓g66_18, ↓g66_19, ↓g66_21, ↓g66_22, ↓g66_25, ↓g66_27, ↓g66_28, ↓g66_29, ↓g66_30, ↓g66_32, ↓g66_33, ↓g66_34, ↓g66_37, ↓g66_38, ↓g66_40, ↓g66_43, ↓g66_44, ↓g66_46, ↓g66_47, ↓g66_48, ↓g66_49, ↓g66_51, ↓g66_54, ↓g66_55, ↓g66_57, ↓g66_58, ↓g66_59, ↓g66_60, ↓g66_62, ↓g66_63, ↓g66_64, ↓g66_67, ↓g66_68, ↓g66_70, ↓g66_73, ↓g66_75, ↓g66_76, ↓g66_79, ↓g66_82, ↓la_20, ↓ls_20, ↓la_21, ↓ls_21, ↓la_22, ↓ls_22, ↓la_23, ↓ls_23, ↓la_24, ↓ls_24, ↓la_25, ↓ls_25, ↓la_26, ↓ls_26, ↓la_27, ↓ls_27, ↓la_28, ↓ls_28, ↓bnd_some, ↓cond_true, ↓m_pv_none, ↓m_pv_some, m_b01_0, m_b01_1, true_and, and_true, ca_eq, ca_ca, cx_0_1, cx_0_2, cx_0_3, cx_0_4, cx_0_5, cx_0_6, cx_0_7, cx_0_8, cx_1_0, cx_1_2, cx_1_3, cx_1_4, cx_1_5, cx_1_6, cx_1_7, cx_1_8, cx_2_0, cx_2_1, cx_2_3, cx_2_4, cx_2_5, cx_2_6, cx_2_7, cx_2_8, cx_3_0, cx_3_1, cx_3_2, cx_3_4, cx_3_5, cx_3_6, cx_3_7, cx_3_8, cx_4_0, cx_4_1, cx_4_2, cx_4_3, cx_4_5, cx_4_6, cx_4_7, cx_4_8, cx_5_0, cx_5_1, cx_5_2, cx_5_3, cx_5_4, cx_5_6, cx_5_7, cx_5_8, cx_6_0, cx_6_1, cx_6_2, cx_6_3, cx_6_4, cx_6_5, cx_6_7, cx_6_8, cx_7_0, cx_7_1, cx_7_2, cx_7_3, cx_7_4, cx_7_5, cx_7_6, cx_7_8, cx_8_0, cx_8_1, cx_8_2, cx_8_3, cx_8_4, cx_8_5, cx_8_6, cx_8_7, ib_0, ic_0, h.1, e1, e2, e3, h.2 k hkl, ib (show k < 64 by omega), ib (show s.length < 64 by omega), nI_clamp (show k < 2 ^ 31 by omega), nI_clamp (show s.length < 2 ^ 31 by omega), e4, e5, h2, upd_eq, nI_1, ↓reduceIte, show ¬ (2 : Nat) = 3 by decide]
        have := z3 K
        rw [List.length_cons, List.length_map] at this
        exact this
      · rw [if_neg h2, if_neg h3] at next
        obtain ⟨a', z1, z2, z3⟩ := next (a 3) hW2
        refine ⟨a', z1, z2, fun K => ?_⟩
        rw [g66_10]
        simp only [↓g66_0, ↓g66_1, ↓g66_3, ↓g66_4, ↓g66_5, ↓g66_6, ↓g66_7, ↓g66_8, ↓g66_12, ↓g66_13, ↓g66_14, ↓g66_15, ↓g66_18, ↓g66_19, ↓g66_21, ↓g66_22, ↓g66_25, ↓g66_27, ↓g66_28, ↓g66_29, ↓g66_30, ↓g66_32, ↓g66_33, ↓g66_34, ↓g66_37, ↓g66_38, ↓g66_40, ↓g66_43, ↓g66_44, ↓g66_46, ↓g66_47, ↓g66_48, ↓g66_49, ↓g66_51, ↓g66_54, ↓g66_55, ↓g66_57, ↓g66_58, ↓g66_59, ↓g66_60, ↓g66_62, ↓g66_63, ↓g66_64, ↓g66_67, ↓g66_68, ↓g66_70, ↓g66_73, ↓g66_75, ↓g66_76, ↓g66_79, ↓g66_82, ↓la_20, ↓ls_20, ↓la_21, ↓ls_21, ↓la_22, ↓ls_22, ↓la_23, ↓ls_23, ↓la_24, ↓ls_24, ↓la_25, ↓ls_25, ↓la_26, ↓ls_26, ↓la_27, ↓ls_27, ↓la_28, ↓ls_28, ↓bnd_some, ↓cond_true, ↓m_pv_none, ↓m_pv_some, m_b01_0, m_b01_1, true_and, and_true, ca_eq, ca_ca, cx_0_1, cx_0_2, cx_0_3, cx_0_4, cx_0_5, cx_0_6, cx_0_7, cx_0_8, cx_1_0, cx_1_2, cx_1_3, cx_1_4, cx_1_5, cx_1_6, cx_1_7, cx_1_8, cx_2_0, cx_2_1, cx_2_3, cx_2_4, cx_2_5, cx_2_6, cx_2_7, cx_2_8, cx_3_0, cx_3_1, cx_3_2, cx_3_4, cx_3_5, cx_3_6, cx_3_7, cx_3_8, cx_4_0, cx_4_1, cx_4_2, cx_4_3, cx_4_5, cx_4_6, cx_4_7, cx_4_8, cx_5_0, cx_5_1, cx_5_2, cx_5_3, cx_5_4, cx_5_6, cx_5_7, cx_5_8, cx_6_0, cx_6_1, cx_6_2, cx_6_3, cx_6_4, cx_6_5, cx_6_7, cx_6_8, cx_7_0, cx_7_1, cx_7_2, cx_7_3, cx_7_4, cx_7_5, cx_7_6, cx_7_8, cx_8_0, cx_8_1, cx_8_2, cx_8_3, cx_8_4, cx_8_5, cx_8_6, cx_8_7, ib_0, ic_0, h.1, e1, e2, e3, h.2 k hkl, ib (show k < 64 by omega), ib (show s.length < 64 by omega), nI_clamp (show k < 2 ^ 31 by omega), nI_clamp (show s.length < 2 ^ 31 by omega), e4, e5, h2, h3, upd_eq, nI_1, ↓reduceIte]
        have := z3 K
        rw [List.length_map, c0] at this
        exact this
theorem x_scan (hw : WF l) (hl : l.length ≤ 62) {a : Nat → Nat → Int32} (h : LT a l) : ∃ a', LT a' l ∧ LN a' l l.length ∧ sx [2, 3] a a' ∧ ∀ (K : Option Value → mM → Prop), go S 66 0 [.ref 20, .ref 28, .ref 22, .ref 23, .null, .null] [] (mk c (ml a r)) K = K none (mk c (ml a' r)) := by
  have hs : sx [2, 3] a (ca a 3 (upd (a 3) 0 (-1))) := sx_ca (by simp)
  obtain ⟨a', z1, z2, z3⟩ := x_scanL (S := S) (c := c) (r := r) hw hl l.length 0 (ca a 3 (upd (a 3) 0 (-1))) rfl (h.sx hs (by simp) (by simp) (by simp)) (fun p hp => absurd hp (Nat.not_lt_zero p)) (fun i hi => by
    have hi : i < 1 := hi
    have e : i = 0 := by omega
    subst e
    rw [ca_eq, upd_eq]
    rfl)
  refine ⟨a', h.sx (sx_tr hs z2) (by simp) (by simp) (by simp), z1, sx_tr hs z2, fun K => ?_⟩
  simp only [↓g66_0, ↓g66_1, ↓g66_3, ↓g66_4, ↓g66_5, ↓g66_6, ↓g66_7, ↓g66_8, ↓g66_12, ↓g66_13, ↓g66_14, ↓g66_15, ↓g66_18, ↓g66_19, ↓g66_21, ↓g66_22, ↓g66_25, ↓g66_27, ↓g66_28, ↓g66_29, ↓g66_30, ↓g66_32, ↓g66_33, ↓g66_34, ↓g66_37, ↓g66_38, ↓g66_40, ↓g66_43, ↓g66_44, ↓g66_46, ↓g66_47, ↓g66_48, ↓g66_49, ↓g66_51, ↓g66_54, ↓g66_55, ↓g66_57, ↓g66_58, ↓g66_59, ↓g66_60, ↓g66_62, ↓g66_63, ↓g66_64, ↓g66_67, ↓g66_68, ↓g66_70, ↓g66_73, ↓g66_75, ↓g66_76, ↓g66_79, ↓g66_82, ↓la_20, ↓ls_20, ↓la_21, ↓ls_21, ↓la_22, ↓ls_22, ↓la_23, ↓ls_23, ↓la_24, ↓ls_24, ↓la_25, ↓ls_25, ↓la_26, ↓ls_26, ↓la_27, ↓ls_27, ↓la_28, ↓ls_28, ↓bnd_some, ↓cond_true, ↓m_pv_none, ↓m_pv_some, m_b01_0, m_b01_1, true_and, and_true, ib_1, ic_0]
  exact z3 K
theorem x_endL (hw : WF l) (hl : l.length ≤ 62) {a : Nat → Nat → Int32} (h : ∀ p, p < l.length → a 0 p = nI (kd l p)) {p : Nat} (hp : p < l.length) (j1 : Value) : ∀ (n k : Nat) (X : List (Nat × Option Nat)), n + k = en l p → p ≤ k → sk l k = X ++ (sk l p).drop 1 → ∀ (K : Option Value → mM → Prop), go S 67 4 [.ref 20, j1, .int (nI X.length), .int (nI k)] [] (mk c (ml a r)) K = K (some (.int (nI (en l p)))) (mk c (ml a r))
  | 0, k, X, hn, hpk, hX, K => by
    have e : k = en l p := by omega
    subst e
    have e2 := seg_fin hw hp hX
    subst e2
    rw [g67_4]
    simp only [↓g67_0, ↓g67_1, ↓g67_2, ↓g67_3, ↓g67_5, ↓g67_8, ↓g67_9, ↓g67_10, ↓g67_11, ↓g67_12, ↓g67_13, ↓g67_16, ↓g67_17, ↓g67_20, ↓g67_21, ↓g67_22, ↓g67_23, ↓g67_24, ↓g67_27, ↓g67_28, ↓g67_31, ↓g67_32, ↓g67_33, ↓g67_34, ↓g67_37, ↓g67_40, ↓g67_41, List.length_nil, show (nI 0 : Int32) ≤ 0 from Int32.le_refl _, ↓reduceIte]
  | n + 1, k, X, hn, hpk, hX, K => by
    have hel := en_le (l := l) (Nat.le_of_lt hp)
    have hkl : k < l.length := by omega
    obtain ⟨Y, y1, -, y3⟩ := sk_seg hw hp (k - p) k (by omega) (by omega)
    obtain ⟨e, X', rfl⟩ := seg_end y3 (by omega)
    have eX : X = e :: X' := List.append_cancel_right (hX.symm.trans y1)
    subst eX
    have hb := sk_bound l k
    rw [hX, List.length_append, List.length_cons] at hb
    have hkd := hw.kd hkl
    have ih := x_endL hw hl h hp j1 n (k + 1) (stp k (pt l k) (e :: X')) (by omega) (by omega) (seg_nx hX) K
    rw [stp_len] at ih
    have ih : go S 67 4 [.ref 20, j1, .int (nI (X'.length + ar (kd l k))), .int (nI (k + 1))] [] (mk c (ml a r)) K = K (some (.int (nI (en l p)))) (mk c (ml a r)) := ih
    have e1 : ¬ nI (X'.length + 1) ≤ 0 := nI_nle (by omega) (by omega)
    have e4 : (nI (kd l k) = 3) = (kd l k = 3) := propext (nI_eq (b := 3) (by omega) (by decide))
    have e5 : (nI (kd l k) = 2) = (kd l k = 2) := propext (nI_eq (b := 2) (by omega) (by decide))
    rw [g67_4]
    by_cases h3 : kd l k = 3
    · rw [h3] at ih
      simp only [↓g67_0, ↓g67_1, ↓g67_2, ↓g67_3, ↓g67_5, ↓g67_8, ↓g67_9, ↓g67_10, ↓g67_11, ↓g67_12, ↓g67_13, ↓g67_16, ↓g67_17, ↓g67_20, ↓g67_21, ↓g67_22, ↓g67_23, ↓g67_24, ↓g67_27, ↓g67_28, ↓g67_31, ↓g67_32, ↓g67_33, ↓g67_34, ↓g67_37, ↓g67_40, ↓g67_41, ↓la_20, ↓ls_20, ↓la_21, ↓ls_21, ↓la_22, ↓ls_22, ↓la_23, ↓ls_23, ↓la_24, ↓ls_24, ↓la_25, ↓ls_25, ↓la_26, ↓ls_26, ↓la_27, ↓ls_27, ↓la_28, ↓ls_28, ↓bnd_some, ↓cond_true, ↓m_pv_none, ↓m_pv_some, m_b01_0, m_b01_1, true_and, and_true, List.length_cons, e1, h k hkl, ib (show k < 64 by omega), nI_clamp (show k < 2 ^ 31 by omega), e4, h3, nI_1, ↓reduceIte]
      exact ih
    · by_cases h2 : kd l k = 2
      · rw [h2] at ih
        simp only [↓g67_0, ↓g67_1, ↓g67_2, ↓g67_3, ↓g67_5, ↓g67_8, ↓g67_9, ↓g67_10, ↓g67_11, ↓g67_12, ↓g67_13, ↓g67_16, ↓g67_17, ↓g67_20, ↓g67_21, ↓g67_22, ↓g67_23, ↓g67_24, ↓g67_27, ↓g67_28, ↓g67_31, ↓g67_32, ↓g67_33, ↓g67_34, ↓g67_37, ↓g67_40, ↓g67_41, ↓la_20, ↓ls_20, ↓la_21, ↓ls_21, ↓la_22, ↓ls_22, ↓la_23, ↓ls_23, ↓la_24, ↓ls_24, ↓la_25, ↓ls_25, ↓la_26, ↓ls_26, ↓la_27, ↓ls_27, ↓la_28, ↓ls_28, ↓bnd_some, ↓cond_true, ↓m_pv_none, ↓m_pv_some, m_b01_0, m_b01_1, true_and, and_true, List.length_cons, e1, h k hkl, ib (show k < 64 by omega), nI_clamp (show k < 2 ^ 31 by omega), e4, e5, h2, Int32.add_zero, nI_1, ↓reduceIte, show ¬ (2 : Nat) = 3 by decide]
        exact ih
      · have e6 : ar (kd l k) = 0 := by unfold ar; rw [if_neg h2, if_neg h3]
        rw [e6] at ih
        simp only [↓g67_0, ↓g67_1, ↓g67_2, ↓g67_3, ↓g67_5, ↓g67_8, ↓g67_9, ↓g67_10, ↓g67_11, ↓g67_12, ↓g67_13, ↓g67_16, ↓g67_17, ↓g67_20, ↓g67_21, ↓g67_22, ↓g67_23, ↓g67_24, ↓g67_27, ↓g67_28, ↓g67_31, ↓g67_32, ↓g67_33, ↓g67_34, ↓g67_37, ↓g67_40, ↓g67_41, ↓la_20, ↓ls_20, ↓la_21, ↓ls_21, ↓la_22, ↓ls_22, ↓la_23, ↓ls_23, ↓la_24, ↓ls_24, ↓la_25, ↓ls_25, ↓la_26, ↓ls_26, ↓la_27, ↓ls_27, ↓la_28, ↓ls_28, ↓bnd_some, ↓cond_true, ↓m_pv_none, ↓m_pv_some, m_b01_0, m_b01_1, true_and, and_true, List.length_cons, e1, h k hkl, ib (show k < 64 by omega), nI_clamp (show k < 2 ^ 31 by omega), e4, e5, h2, h3, nI_dec, nI_1, ↓reduceIte]
        exact ih
theorem x_end (hw : WF l) (hl : l.length ≤ 62) {a : Nat → Nat → Int32} (h : ∀ p, p < l.length → a 0 p = nI (kd l p)) {p : Nat} (hp : p < l.length) (K : Option Value → mM → Prop) {x : Int32} (hx : x = nI p := by rfl) : go S 67 0 [.ref 20, .int x, .null, .null] [] (mk c (ml a r)) K = K (some (.int (nI (en l p)))) (mk c (ml a r)) := by
  subst hx
  obtain ⟨s, hs⟩ := sk_cons (hw.1 p hp).1
  have g := x_endL (S := S) (c := c) (r := r) hw hl h hp (.int (nI p)) (en l p - p) p [(dep l p, nb l p)] (by have := en_lt hp; omega) (Nat.le_refl _) (by rw [hs]; rfl) K
  simp only [↓g67_0, ↓g67_1, ↓g67_2, ↓g67_3, ↓g67_5, ↓g67_8, ↓g67_9, ↓g67_10, ↓g67_11, ↓g67_12, ↓g67_13, ↓g67_16, ↓g67_17, ↓g67_20, ↓g67_21, ↓g67_22, ↓g67_23, ↓g67_24, ↓g67_27, ↓g67_28, ↓g67_31, ↓g67_32, ↓g67_33, ↓g67_34, ↓g67_37, ↓g67_40, ↓g67_41]
  exact g
theorem nb_bch {l : Tm} {p i x : Nat} (h : bch l p i = some x) : bch l p (i + 1) = nb l x := by
  unfold bch
  rw [h]
  rfl
theorem x_deepL (hw : WF l) (hl : l.length ≤ 62) {a : Nat → Nat → Int32} {p : Nat} (hp : p < l.length) (h : LN a l p) (j1 : Value) : ∀ (n i : Nat), n + i = dep l p → ∀ (K : Option Value → mM → Prop), go S 68 6 [.ref 22, j1, .int (nI i), .int (nbm (bch l p i))] [] (mk c (ml a r)) K = K (some (.int (nI (dep l p)))) (mk c (ml a r))
  | 0, i, hi, K => by
    have e : i = dep l p := by omega
    subst e
    have e2 : bch l p (dep l p) = none := by rw [bch_ev, dep_ev]; simp
    rw [g68_6]
    simp only [↓g68_0, ↓g68_1, ↓g68_2, ↓g68_3, ↓g68_4, ↓g68_5, ↓g68_7, ↓g68_10, ↓g68_13, ↓g68_14, ↓g68_15, ↓g68_16, ↓g68_17, ↓g68_20, ↓g68_21, e2, show nbm none < 0 by decide, ↓reduceIte]
  | n + 1, i, hi, K => by
    obtain ⟨x, x1, x2, x3, x4⟩ := bch_at hw hp i (by omega)
    have ih := x_deepL hw hl hp h j1 n (i + 1) (by omega) K
    rw [nb_bch x1] at ih
    have e1 : ¬ nI x < 0 := nI_pos (by omega)
    rw [g68_6]
    simp only [↓g68_0, ↓g68_1, ↓g68_2, ↓g68_3, ↓g68_4, ↓g68_5, ↓g68_7, ↓g68_10, ↓g68_13, ↓g68_14, ↓g68_15, ↓g68_16, ↓g68_17, ↓g68_20, ↓g68_21, ↓la_20, ↓ls_20, ↓la_21, ↓ls_21, ↓la_22, ↓ls_22, ↓la_23, ↓ls_23, ↓la_24, ↓ls_24, ↓la_25, ↓ls_25, ↓la_26, ↓ls_26, ↓la_27, ↓ls_27, ↓la_28, ↓ls_28, ↓bnd_some, ↓cond_true, ↓m_pv_none, ↓m_pv_some, m_b01_0, m_b01_1, true_and, and_true, x1, show nbm (some x) = nI x from rfl, e1, ib (show x < 64 by omega), nI_clamp (show x < 2 ^ 31 by omega), h x x2, nI_1, ↓reduceIte]
    exact ih
theorem x_deep (hw : WF l) (hl : l.length ≤ 62) {a : Nat → Nat → Int32} {p : Nat} (hp : p < l.length) (h : LN a l (p + 1)) (K : Option Value → mM → Prop) {x : Int32} (hx : x = nI p := by rfl) : go S 68 0 [.ref 22, .int x, .null, .null] [] (mk c (ml a r)) K = K (some (.int (nI (dep l p)))) (mk c (ml a r)) := by
  subst hx
  have g := x_deepL (S := S) (c := c) (r := r) hw hl hp (fun q hq => h q (by omega)) (.int (nI p)) (dep l p) 0 rfl K
  simp only [↓g68_0, ↓g68_1, ↓g68_2, ↓g68_3, ↓g68_4, ↓g68_5, ↓g68_7, ↓g68_10, ↓g68_13, ↓g68_14, ↓g68_15, ↓g68_16, ↓g68_17, ↓g68_20, ↓g68_21, ↓la_20, ↓ls_20, ↓la_21, ↓ls_21, ↓la_22, ↓ls_22, ↓la_23, ↓ls_23, ↓la_24, ↓ls_24, ↓la_25, ↓ls_25, ↓la_26, ↓ls_26, ↓la_27, ↓ls_27, ↓la_28, ↓ls_28, ↓bnd_some, ↓cond_true, ↓m_pv_none, ↓m_pv_some, m_b01_0, m_b01_1, true_and, and_true, ib (show p < 64 by omega), nI_clamp (show p < 2 ^ 31 by omega), h p (Nat.lt_succ_self _)]
  exact g
theorem x_countL (hw : WF l) (hl : l.length ≤ 62) {a : Nat → Nat → Int32} {p : Nat} (hp : p < l.length) (hk : kd l p = 0) (h : LT a l) (hN : LN a l l.length) : ∀ (n i : Nat), n + i = nu l p → ∀ (K : Option Value → mM → Prop), go S 69 7 [.ref 21, .ref 22, .int (nI p), .int (nI i), .int (nbm (bch l p i))] [] (mk c (ml a r)) K = K (some (.int (nI (nu l p)))) (mk c (ml a r))
  | 0, i, hi, K => by
    have e : i = nu l p := by omega
    subst e
    have e2 : bch l p (nu l p) = some (bn l p) := by rw [bch_ev]; exact (bn_env hw hp hk).1
    rw [g69_7]
    simp only [↓g69_0, ↓g69_1, ↓g69_2, ↓g69_3, ↓g69_4, ↓g69_5, ↓g69_9, ↓g69_10, ↓g69_11, ↓g69_12, ↓g69_15, ↓g69_18, ↓g69_19, ↓g69_21, ↓g69_22, ↓g69_24, ↓g69_27, ↓g69_28, ↓la_20, ↓ls_20, ↓la_21, ↓ls_21, ↓la_22, ↓ls_22, ↓la_23, ↓ls_23, ↓la_24, ↓ls_24, ↓la_25, ↓ls_25, ↓la_26, ↓ls_26, ↓la_27, ↓ls_27, ↓la_28, ↓ls_28, ↓bnd_some, ↓cond_true, ↓m_pv_none, ↓m_pv_some, m_b01_0, m_b01_1, true_and, and_true, e2, show nbm (some (bn l p)) = nI (bn l p) from rfl, ib (show p < 64 by omega), nI_clamp (show p < 2 ^ 31 by omega), h.2 p hp, ↓reduceIte]
  | n + 1, i, hi, K => by
    have hnu := nu_env hw hp hk
    rw [← dep_ev] at hnu
    obtain ⟨x, x1, x2, x3, x4⟩ := bch_at hw hp i (by omega)
    obtain ⟨y, y1, y2, y3, y4⟩ := bch_at hw hp (nu l p) hnu
    have e2 : bch l p (nu l p) = some (bn l p) := by rw [bch_ev]; exact (bn_env hw hp hk).1
    rw [e2] at y1
    cases y1
    have ih := x_countL hw hl hp hk h hN n (i + 1) (by omega) K
    rw [nb_bch x1] at ih
    have hb := (bn_lt hw hp hk).1
    have e1 : (nI x = nI (bn l p)) = False := eq_false fun z => by
      have := (nI_eq (by omega) (by omega)).mp z
      subst this
      omega
    rw [g69_7]
    simp only [↓g69_0, ↓g69_1, ↓g69_2, ↓g69_3, ↓g69_4, ↓g69_5, ↓g69_9, ↓g69_10, ↓g69_11, ↓g69_12, ↓g69_15, ↓g69_18, ↓g69_19, ↓g69_21, ↓g69_22, ↓g69_24, ↓g69_27, ↓g69_28, ↓la_20, ↓ls_20, ↓la_21, ↓ls_21, ↓la_22, ↓ls_22, ↓la_23, ↓ls_23, ↓la_24, ↓ls_24, ↓la_25, ↓ls_25, ↓la_26, ↓ls_26, ↓la_27, ↓ls_27, ↓la_28, ↓ls_28, ↓bnd_some, ↓cond_true, ↓m_pv_none, ↓m_pv_some, m_b01_0, m_b01_1, true_and, and_true, x1, show nbm (some x) = nI x from rfl, e1, ib (show p < 64 by omega), nI_clamp (show p < 2 ^ 31 by omega), h.2 p hp, ib (show x < 64 by omega), nI_clamp (show x < 2 ^ 31 by omega), hN x (by omega), nI_1, ↓reduceIte]
    exact ih
theorem x_count (hw : WF l) (hl : l.length ≤ 62) {a : Nat → Nat → Int32} {p : Nat} (hp : p < l.length) (hk : kd l p = 0) (h : LT a l) (hN : LN a l l.length) (K : Option Value → mM → Prop) : go S 69 0 [.ref 21, .ref 22, .int (nI p), .null, .null] [] (mk c (ml a r)) K = K (some (.int (nI (nu l p)))) (mk c (ml a r)) := by
  have g := x_countL (S := S) (c := c) (r := r) hw hl hp hk h hN (nu l p) 0 rfl K
  simp only [↓g69_0, ↓g69_1, ↓g69_2, ↓g69_3, ↓g69_4, ↓g69_5, ↓g69_9, ↓g69_10, ↓g69_11, ↓g69_12, ↓g69_15, ↓g69_18, ↓g69_19, ↓g69_21, ↓g69_22, ↓g69_24, ↓g69_27, ↓g69_28, ↓la_20, ↓ls_20, ↓la_21, ↓ls_21, ↓la_22, ↓ls_22, ↓la_23, ↓ls_23, ↓la_24, ↓ls_24, ↓la_25, ↓ls_25, ↓la_26, ↓ls_26, ↓la_27, ↓ls_27, ↓la_28, ↓ls_28, ↓bnd_some, ↓cond_true, ↓m_pv_none, ↓m_pv_some, m_b01_0, m_b01_1, true_and, and_true, ib (show p < 64 by omega), nI_clamp (show p < 2 ^ 31 by omega), hN p hp]
  exact g
theorem x_low (M : mM) (v : Int32) {n : Nat} (h0 : 0 < n) (hn : n < 2 ^ 31) : ∃ i, i < n ∧ ∀ (K : Option Value → mM → Prop), go S 65 0 [.int v, .int (nI n)] [] M K = K (some (.int (nI i))) M := by
  have e1 := pk_and v (m := 2147483647) 31 (by decide)
  have hlt : v.toBitVec.toNat % 2 ^ 31 < 2 ^ 31 := Nat.mod_lt _ (by decide)
  refine ⟨v.toBitVec.toNat % 2 ^ 31 % n, Nat.mod_lt _ h0, fun K => ?_⟩
  simp only [↓g65_0, ↓g65_1, ↓g65_3, ↓g65_4, ↓g65_5, ↓g65_6, e1, pk_rem hlt h0 hn, nI_ne0 h0 hn, not_false_eq_true, true_and]
theorem x_cell (hS : S.1 < 2 ^ 31) (M : mM) (z : UInt32) {i : Nat} (hi : i < 2 ^ 31) : ∃ v, ∀ (K : Option Value → mM → Prop), go S 64 0 [.float z, .int (nI i)] [] M K = K (some (.int v)) M := by
  by_cases h : S.1 ≤ i
  · exact ⟨729683299 * (nI i + 1) + 1016749425, fun K => by simp only [↓g64_0, ↓g64_1, ↓g64_2, ↓g64_3, ↓g64_6, ↓g64_7, ↓g64_8, ↓g64_9, ↓g64_12, ↓g64_14, ↓g64_15, ↓g64_16, ↓g64_17, ↓g64_18, ↓g64_20, ↓g64_21, nI_le h hi, ↓reduceIte]⟩
  · exact ⟨S.2 (nI i).toNatClampNeg, fun K => by simp only [↓g64_0, ↓g64_1, ↓g64_2, ↓g64_3, ↓g64_6, ↓g64_7, ↓g64_8, ↓g64_9, ↓g64_12, ↓g64_14, ↓g64_15, ↓g64_16, ↓g64_17, ↓g64_18, ↓g64_20, ↓g64_21, nI_ge (show i < S.1 by omega) hS, ib (show i < S.1 by omega) hS, true_and, ↓reduceIte]⟩
end SCAN
