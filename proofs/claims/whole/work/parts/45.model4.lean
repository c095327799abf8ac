/-! the model: a step -/
/-- the parts that are given so far -/
def NX (d : Nat → Nat → Int32) (q : Tm) : Prop := d 0 11 = nI q.length ∧ ∀ p, p < q.length → d 8 p = nI (cm (pt q p))
theorem NX.mx {ks ns : List Nat} {d d' : Nat → Nat → Int32} {l : Tm} (h : NX d l) (hs : mx ks ns d d') (h1 : 8 ∉ ks) (h2 : 11 ∉ ns) : NX d' l := by
  refine ⟨by rw [hs.2 11 h2]; exact h.1, fun p hp => ?_⟩
  rw [hs.1 8 (by decide) h1]
  exact h.2 p hp
section MOD4
variable {S : mS} {c : Nat → Nat → Int32} {l : Tm}
theorem n_gives {d : Nat → Nat → Int32} {q : Tm} (h : NX d q) (hq : q.length < 200) (r : Nat × Nat) {v : Int32} (hv : v = nI (cm r) := by rfl) : ∃ d', NX d' (q ++ [r]) ∧ mx [8] [11] d d' ∧ ∀ (K : Option Value → mM → Prop), go S 97 0 [.ref 20, .int v] [] (mk c (md d)) K = K none (mk c (md d')) := by
  subst hv
  refine ⟨ca (ca d 8 (upd (d 8) q.length (nI (cm r)))) 0 (upd (d 0) 11 (nI (q.length + 1))), ⟨?_, fun p hp => ?_⟩, ?_, fun K => ?_⟩
  · rw [ca_eq, upd_eq, List.length_append, List.length_singleton]
  · rw [List.length_append, List.length_singleton] at hp
    rw [ca_ne (show (8 : Nat) ≠ 0 by decide), ca_eq, pt_app]
    by_cases e : p = q.length
    · subst e
      rw [upd_eq, if_neg (Nat.lt_irrefl _), Nat.sub_self]
      rfl
    · rw [upd_ne e, if_pos (by omega)]
      exact h.2 p (by omega)
  · exact mx_tr (mx_ca (by simp) (by decide)) (mx_u (a := 11) (d := ca d 8 (upd (d 8) q.length (nI (cm r)))) (by simp))
  · simp only [↓g97_0, ↓g97_1, ↓g97_4, ↓g97_5, ↓g97_8, ↓g97_9, ↓g97_10, ↓g97_11, ↓g97_12, ↓g97_15, ↓g97_16, ↓g97_17, ↓g97_20, ↓mo_20, ↓mf_20_0, ↓mf_20_1, ↓mp_20_2, ↓mf_20_2, ↓mf_20_3, ↓mf_20_4, ↓mf_20_5, ↓mp_20_6, ↓mf_20_6, ↓mf_20_7, ↓mp_20_8, ↓mf_20_8, ↓mf_20_9, ↓mf_20_10, ↓mp_20_11, ↓mf_20_11, ↓mf_20_12, ↓mf_20_13, ↓mp_20_14, ↓mf_20_14, ↓mf_20_15, ↓mp_20_16, ↓mf_20_16, ↓ma_21, ↓ms_21, ↓ma_22, ↓ms_22, ↓ma_23, ↓ms_23, ↓ma_24, ↓ms_24, ↓ma_25, ↓ms_25, ↓ma_26, ↓ms_26, ↓ma_27, ↓ms_27, ↓ma_28, ↓ms_28, ↓ma_29, ↓ms_29, ↓ma_30, ↓ms_30, ↓ma_31, ↓ms_31, ↓bnd_some, ↓cond_true, ↓m_pv_none, ↓m_pv_some, m_b01_0, m_b01_1, true_and, and_true, eq_self, h.1, ib hq, nI_clamp (show q.length < 2 ^ 31 by omega), cz_8, nI_1]
theorem n_gargL (hk : Tok l) {a w : Nat} (ha : a < l.length) (q : Tm) (hq : q.length + (en l a - a) ≤ 200) : ∀ (n k : Nat) (d : Nat → Nat → Int32), n + k = en l a - a → RW d l → DV d l → NX d (q ++ agm l a w k) → ∃ d', NX d' (q ++ agm l a w (en l a - a)) ∧ mx [8] [11] d d' ∧ ∀ (K : Option Value → mM → Prop) (j5 : Value), go S 98 3 [.ref 20, .int (nI a), .int (nI (en l a)), .int (nI w), .int (nI (a + k)), j5] [] (mk c (md d)) K = K none (mk c (md d'))
  | 0, k, d, hn, h, hv, hx => by
    have e : k = en l a - a := by omega
    subst e
    have hlt := en_lt ha
    refine ⟨d, hx, mx_rf, fun K j5 => ?_⟩
    rw [show a + (en l a - a) = en l a by omega, g98_3]
    simp only [↓g98_0, ↓g98_1, ↓g98_5, ↓g98_6, ↓g98_9, ↓g98_10, ↓g98_12, ↓g98_15, ↓g98_18, ↓g98_19, ↓g98_21, ↓g98_24, ↓g98_25, ↓g98_28, ↓g98_30, ↓g98_31, ↓g98_32, ↓g98_35, ↓g98_36, ↓g98_37, ↓g98_38, ↓g98_41, ↓g98_42, ↓g98_45, ↓g98_46, ↓g98_48, ↓g98_49, ↓g98_51, ↓g98_54, ↓g98_55, ↓g98_58, ↓g98_60, ↓g98_61, ↓g98_62, ↓g98_63, ↓g98_66, ↓g98_67, ↓g98_70, ↓g98_72, ↓g98_73, ↓g98_76, ↓g98_79, ↓g98_82, Int32.le_refl, ↓reduceIte]
  | n + 1, k, d, hn, h, hv, hx => by
    have hl := hk.2
    have hlt := en_lt ha
    have hle := en_le (l := l) (p := a) (by omega)
    have hkl : a + k < l.length := by omega
    have hkd := hk.1.kd hkl
    have hnu := nu_lt hk.1 hkl hl
    have hd1 := dep_lt hk.1 hkl hl
    have had := arg_dep hk.1 ha (i := a + k) (by omega) (by omega)
    have e1 : ¬ nI (en l a) ≤ nI (a + k) := nI_ge (by omega) (by omega)
    have g1 := fun K => n_kind (S := S) (c := c) h hk hkl K
    have g2 := fun K => n_number (S := S) (c := c) h hk hkl K
    have e2 : (nI (kd l (a + k)) = 0) ↔ kd l (a + k) = 0 := nI_eq (b := 0) (by omega) (by decide)
    have e3 : nI (dep l (a + k)) - nI (dep l a) = nI (dep l (a + k) - dep l a) := pk_sub had
    have e4 : (nI (nu l (a + k)) < nI (dep l (a + k) - dep l a)) ↔ nu l (a + k) < dep l (a + k) - dep l a := nI_ltI (by omega) (by omega)
    have i1 := ib (show a + k < 200 by omega)
    have i2 := nI_clamp (show a + k < 2 ^ 31 by omega)
    have i3 := ib (show a < 200 by omega)
    have i4 := nI_clamp (show a < 2 ^ 31 by omega)
    obtain ⟨d1, b1, b2, b3⟩ := n_gives (S := S) (c := c) hx (by rw [List.length_append, agm_len]; omega) (sh l a w (a + k))
    rw [List.append_assoc] at b1
    have b1' : NX d1 (q ++ agm l a w (k + 1)) := b1
    obtain ⟨d2, r1, r2, r3⟩ := n_gargL hk ha q hq n (k + 1) d1 (by omega) (h.mx b2 (by simp) (by simp)) (hv.mx b2 (by simp)) b1'
    refine ⟨d2, r1, mx_tr b2 r2, fun K j5 => ?_⟩
    rw [g98_3]
    by_cases z : kd l (a + k) = 0
    · by_cases z2 : nu l (a + k) < dep l (a + k) - dep l a
      · have b3' : ∀ K, go S 97 0 [.ref 20, .int (nI (cm (pt l (a + k))))] [] (mk c (md d)) K = K none (mk c (md d1)) := by
          have e : sh l a w (a + k) = pt l (a + k) := if_neg (by omega)
          rw [e] at b3
          exact b3
        simp only [↓g98_0, ↓g98_1, ↓g98_5, ↓g98_6, ↓g98_9, ↓g98_10, ↓g98_12, ↓g98_15, ↓g98_18, ↓g98_19, ↓g98_21, ↓g98_24, ↓g98_25, ↓g98_28, ↓g98_30, ↓g98_31, ↓g98_32, ↓g98_35, ↓g98_36, ↓g98_37, ↓g98_38, ↓g98_41, ↓g98_42, ↓g98_45, ↓g98_46, ↓g98_48, ↓g98_49, ↓g98_51, ↓g98_54, ↓g98_55, ↓g98_58, ↓g98_60, ↓g98_61, ↓g98_62, ↓g98_63, ↓g98_66, ↓g98_67, ↓g98_70, ↓g98_72, ↓g98_73, ↓g98_76, ↓g98_79, ↓g98_82, ↓mo_20, ↓mf_20_0, ↓mf_20_1, ↓mp_20_2, ↓mf_20_2, ↓mf_20_3, ↓mf_20_4, ↓mf_20_5, ↓mp_20_6, ↓mf_20_6, ↓mf_20_7, ↓mp_20_8, ↓mf_20_8, ↓mf_20_9, ↓mf_20_10, ↓mp_20_11, ↓mf_20_11, ↓mf_20_12, ↓mf_20_13, ↓mp_20_14, ↓mf_20_14, ↓mf_20_15, ↓mp_20_16, ↓mf_20_16, ↓ma_21, ↓ms_21, ↓ma_22, ↓ms_22, ↓ma_23, ↓ms_23, ↓ma_24, ↓ms_24, ↓ma_25, ↓ms_25, ↓ma_26, ↓ms_26, ↓ma_27, ↓ms_27, ↓ma_28, ↓ms_28, ↓ma_29, ↓ms_29, ↓ma_30, ↓ms_30, ↓ma_31, ↓ms_31, ↓bnd_some, ↓cond_true, ↓m_pv_none, ↓m_pv_some, m_b01_0, m_b01_1, true_and, and_true, eq_self, e1, ↓reduceIte, ↓g1, e2.mpr z, ↓g2, i1, i2, i3, i4, hv _ hkl, hv _ ha, e3, e4, z2, h.2 _ hkl, ↓b3', nI_1]
        exact r3 K _
      · have b3' : ∀ K, go S 97 0 [.ref 20, .int (nI (cm (pt l (a + k))) + nI w)] [] (mk c (md d)) K = K none (mk c (md d1)) := by
          have e : sh l a w (a + k) = (0, nu l (a + k) + w) := if_pos ⟨z, by omega⟩
          have e' : nI (cm (pt l (a + k))) + nI w = nI (cm (0, nu l (a + k) + w)) := by
            rw [nI_add]
            congr 1
            show 1000 * kd l (a + k) + nu l (a + k) + w = 1000 * 0 + (nu l (a + k) + w)
            omega
          rw [e] at b3
          rw [e']
          exact b3
        simp only [↓g98_0, ↓g98_1, ↓g98_5, ↓g98_6, ↓g98_9, ↓g98_10, ↓g98_12, ↓g98_15, ↓g98_18, ↓g98_19, ↓g98_21, ↓g98_24, ↓g98_25, ↓g98_28, ↓g98_30, ↓g98_31, ↓g98_32, ↓g98_35, ↓g98_36, ↓g98_37, ↓g98_38, ↓g98_41, ↓g98_42, ↓g98_45, ↓g98_46, ↓g98_48, ↓g98_49, ↓g98_51, ↓g98_54, ↓g98_55, ↓g98_58, ↓g98_60, ↓g98_61, ↓g98_62, ↓g98_63, ↓g98_66, ↓g98_67, ↓g98_70, ↓g98_72, ↓g98_73, ↓g98_76, ↓g98_79, ↓g98_82, ↓mo_20, ↓mf_20_0, ↓mf_20_1, ↓mp_20_2, ↓mf_20_2, ↓mf_20_3, ↓mf_20_4, ↓mf_20_5, ↓mp_20_6, ↓mf_20_6, ↓mf_20_7, ↓mp_20_8, ↓mf_20_8, ↓mf_20_9, ↓mf_20_10, ↓mp_20_11, ↓mf_20_11, ↓mf_20_12, ↓mf_20_13, ↓mp_20_14, ↓mf_20_14, ↓mf_20_15, ↓mp_20_16, ↓mf_20_16, ↓ma_21, ↓ms_21, ↓ma_22, ↓ms_22, ↓ma_23, ↓ms_23, ↓ma_24, ↓ms_24, ↓ma_25, ↓ms_25, ↓ma_26, ↓ms_26, ↓ma_27, ↓ms_27, ↓ma_28, ↓ms_28, ↓ma_29, ↓ms_29, ↓ma_30, ↓ms_30, ↓ma_31, ↓ms_31, ↓bnd_some, ↓cond_true, ↓m_pv_none, ↓m_pv_some, m_b01_0, m_b01_1, true_and, and_true, eq_self, e1, ↓reduceIte, ↓g1, e2.mpr z, ↓g2, i1, i2, i3, i4, hv _ hkl, hv _ ha, e3, e4, z2, i_10, h.2 _ hkl, ↓b3', nI_1]
        exact r3 K _
    · have b3' : ∀ K, go S 97 0 [.ref 20, .int (nI (cm (pt l (a + k))))] [] (mk c (md d)) K = K none (mk c (md d1)) := by
        have e : sh l a w (a + k) = pt l (a + k) := if_neg (fun y => z y.1)
        rw [e] at b3
        exact b3
      simp only [↓g98_0, ↓g98_1, ↓g98_5, ↓g98_6, ↓g98_9, ↓g98_10, ↓g98_12, ↓g98_15, ↓g98_18, ↓g98_19, ↓g98_21, ↓g98_24, ↓g98_25, ↓g98_28, ↓g98_30, ↓g98_31, ↓g98_32, ↓g98_35, ↓g98_36, ↓g98_37, ↓g98_38, ↓g98_41, ↓g98_42, ↓g98_45, ↓g98_46, ↓g98_48, ↓g98_49, ↓g98_51, ↓g98_54, ↓g98_55, ↓g98_58, ↓g98_60, ↓g98_61, ↓g98_62, ↓g98_63, ↓g98_66, ↓g98_67, ↓g98_70, ↓g98_72, ↓g98_73, ↓g98_76, ↓g98_79, ↓g98_82, ↓mo_20, ↓mf_20_0, ↓mf_20_1, ↓mp_20_2, ↓mf_20_2, ↓mf_20_3, ↓mf_20_4, ↓mf_20_5, ↓mp_20_6, ↓mf_20_6, ↓mf_20_7, ↓mp_20_8, ↓mf_20_8, ↓mf_20_9, ↓mf_20_10, ↓mp_20_11, ↓mf_20_11, ↓mf_20_12, ↓mf_20_13, ↓mp_20_14, ↓mf_20_14, ↓mf_20_15, ↓mp_20_16, ↓mf_20_16, ↓ma_21, ↓ms_21, ↓ma_22, ↓ms_22, ↓ma_23, ↓ms_23, ↓ma_24, ↓ms_24, ↓ma_25, ↓ms_25, ↓ma_26, ↓ms_26, ↓ma_27, ↓ms_27, ↓ma_28, ↓ms_28, ↓ma_29, ↓ms_29, ↓ma_30, ↓ms_30, ↓ma_31, ↓ms_31, ↓bnd_some, ↓cond_true, ↓m_pv_none, ↓m_pv_some, m_b01_0, m_b01_1, true_and, and_true, eq_self, e1, ↓reduceIte, ↓g1, e2, z, i1, i2, h.2 _ hkl, ↓b3', nI_1]
      exact r3 K _
theorem n_garg (hk : Tok l) {a w : Nat} (ha : a < l.length) (q : Tm) (hq : q.length + (en l a - a) ≤ 200) {d : Nat → Nat → Int32} (h : RW d l) (hv : DV d l) (hx : NX d q) : ∃ d', NX d' (q ++ agm l a w (en l a - a)) ∧ mx [8] [11] d d' ∧ ∀ (K : Option Value → mM → Prop), go S 98 0 [.ref 20, .int (nI a), .int (nI (en l a)), .int (nI w), .null, .null] [] (mk c (md d)) K = K none (mk c (md d')) := by
  obtain ⟨d', b1, b2, b3⟩ := n_gargL (S := S) (c := c) (w := w) hk ha q hq (en l a - a) 0 d rfl h hv (by show NX d (q ++ []); rw [List.append_nil]; exact hx)
  refine ⟨d', b1, b2, fun K => ?_⟩
  simp only [↓g98_0, ↓g98_1, ↓g98_5, ↓g98_6, ↓g98_9, ↓g98_10, ↓g98_12, ↓g98_15, ↓g98_18, ↓g98_19, ↓g98_21, ↓g98_24, ↓g98_25, ↓g98_28, ↓g98_30, ↓g98_31, ↓g98_32, ↓g98_35, ↓g98_36, ↓g98_37, ↓g98_38, ↓g98_41, ↓g98_42, ↓g98_45, ↓g98_46, ↓g98_48, ↓g98_49, ↓g98_51, ↓g98_54, ↓g98_55, ↓g98_58, ↓g98_60, ↓g98_61, ↓g98_62, ↓g98_63, ↓g98_66, ↓g98_67, ↓g98_70, ↓g98_72, ↓g98_73, ↓g98_76, ↓g98_79, ↓g98_82]
  exact b3 K .null
variable {d : Nat → Nat → Int32}
theorem n_usesL (h : RW d l) (hv : DV d l) (hk : Tok l) {p : Nat} (hp : p < l.length) (hr : red l p = true) : ∀ (n k : Nat), n + k = en l (p + 1) - (p + 2) → ∀ (K : Option Value → mM → Prop), go S 99 7 [.ref 20, .int (nI (p + 1)), .int (nI (en l (p + 1))), .int (nI (us l p k)), .int (nI (p + 2 + k))] [] (mk c (md d)) K = K (some (.int (nI (us l p (en l (p + 1) - (p + 2)))))) (mk c (md d))
  | 0, k, hn, K => by
    obtain ⟨r1, r2, r3, -⟩ := red_all hk.1 hp hr
    have e : k = en l (p + 1) - (p + 2) := by omega
    subst e
    rw [show p + 2 + (en l (p + 1) - (p + 2)) = en l (p + 1) by omega, g99_7]
    simp only [↓g99_0, ↓g99_1, ↓g99_2, ↓g99_3, ↓g99_4, ↓g99_5, ↓g99_9, ↓g99_10, ↓g99_13, ↓g99_14, ↓g99_15, ↓g99_17, ↓g99_20, ↓g99_23, ↓g99_24, ↓g99_26, ↓g99_29, ↓g99_30, ↓g99_33, ↓g99_35, ↓g99_36, ↓g99_37, ↓g99_40, ↓g99_41, ↓g99_42, ↓g99_43, ↓g99_44, ↓g99_45, ↓g99_48, ↓g99_49, ↓g99_52, ↓g99_53, ↓g99_54, ↓g99_55, ↓g99_58, ↓g99_61, ↓g99_62, Int32.le_refl, ↓reduceIte]
  | n + 1, k, hn, K => by
    obtain ⟨r1, r2, r3, -⟩ := red_all hk.1 hp hr
    have hl := hk.2
    have hkl : p + 2 + k < l.length := by omega
    have hkd := hk.1.kd hkl
    have hnu := nu_lt hk.1 hkl hl
    have hd1 := dep_lt hk.1 hkl hl
    have hbd := body_dep hk.1 hp hr (i := p + 2 + k) (by omega) (by omega)
    have hdp := (dep_3 hk.1 hp (red_of hr).1).1
    have e1 : ¬ nI (en l (p + 1)) ≤ nI (p + 2 + k) := nI_ge (by omega) (by omega)
    have g1 := fun K => n_kind (S := S) (c := c) h hk hkl K
    have g2 := fun K => n_number (S := S) (c := c) h hk hkl K
    have e2 : (nI (kd l (p + 2 + k)) = 0) ↔ kd l (p + 2 + k) = 0 := nI_eq (b := 0) (by omega) (by decide)
    have hv2 : d 7 (p + 1) = nI (dep l p) := by rw [hv (p + 1) (by omega), hdp]
    have e3 : nI (dep l (p + 2 + k)) - nI (dep l p) - 1 = nI (wi l p (p + 2 + k)) := by
      rw [pk_sub (by omega), l_1, pk_sub (by omega)]
      rfl
    have hwi : wi l p (p + 2 + k) < 200 := by unfold wi; omega
    have e4 : (nI (nu l (p + 2 + k)) = nI (wi l p (p + 2 + k))) ↔ nu l (p + 2 + k) = wi l p (p + 2 + k) := nI_eq (by omega) (by omega)
    have ih := n_usesL h hv hk hp hr n (k + 1) (by omega) K
    have e5 : us l p (k + 1) = us l p k + (if isU l p (p + 2 + k) = true then 1 else 0) := rfl
    have i1 := ib (show p + 2 + k < 200 by omega)
    have i2 := nI_clamp (show p + 2 + k < 2 ^ 31 by omega)
    have i3 := ib (show p + 1 < 200 by omega)
    have i4 := nI_clamp (show p + 1 < 2 ^ 31 by omega)
    rw [e5] at ih
    rw [g99_7]
    by_cases z : kd l (p + 2 + k) = 0
    · by_cases z2 : nu l (p + 2 + k) = wi l p (p + 2 + k)
      · rw [if_pos (show isU l p (p + 2 + k) = true from decide_eq_true ⟨z, z2⟩)] at ih
        simp only [↓g99_0, ↓g99_1, ↓g99_2, ↓g99_3, ↓g99_4, ↓g99_5, ↓g99_9, ↓g99_10, ↓g99_13, ↓g99_14, ↓g99_15, ↓g99_17, ↓g99_20, ↓g99_23, ↓g99_24, ↓g99_26, ↓g99_29, ↓g99_30, ↓g99_33, ↓g99_35, ↓g99_36, ↓g99_37, ↓g99_40, ↓g99_41, ↓g99_42, ↓g99_43, ↓g99_44, ↓g99_45, ↓g99_48, ↓g99_49, ↓g99_52, ↓g99_53, ↓g99_54, ↓g99_55, ↓g99_58, ↓g99_61, ↓g99_62, ↓mo_20, ↓mf_20_0, ↓mf_20_1, ↓mp_20_2, ↓mf_20_2, ↓mf_20_3, ↓mf_20_4, ↓mf_20_5, ↓mp_20_6, ↓mf_20_6, ↓mf_20_7, ↓mp_20_8, ↓mf_20_8, ↓mf_20_9, ↓mf_20_10, ↓mp_20_11, ↓mf_20_11, ↓mf_20_12, ↓mf_20_13, ↓mp_20_14, ↓mf_20_14, ↓mf_20_15, ↓mp_20_16, ↓mf_20_16, ↓ma_21, ↓ms_21, ↓ma_22, ↓ms_22, ↓ma_23, ↓ms_23, ↓ma_24, ↓ms_24, ↓ma_25, ↓ms_25, ↓ma_26, ↓ms_26, ↓ma_27, ↓ms_27, ↓ma_28, ↓ms_28, ↓ma_29, ↓ms_29, ↓ma_30, ↓ms_30, ↓ma_31, ↓ms_31, ↓bnd_some, ↓cond_true, ↓m_pv_none, ↓m_pv_some, m_b01_0, m_b01_1, true_and, and_true, eq_self, e1, ↓reduceIte, ↓g1, e2.mpr z, ↓g2, i1, i2, i3, i4, hv _ hkl, hv2, e3, e4.mpr z2, nI_1]
        exact ih
      · rw [if_neg (by rw [show isU l p (p + 2 + k) = false from decide_eq_false (fun y => z2 y.2)]; decide)] at ih
        simp only [↓g99_0, ↓g99_1, ↓g99_2, ↓g99_3, ↓g99_4, ↓g99_5, ↓g99_9, ↓g99_10, ↓g99_13, ↓g99_14, ↓g99_15, ↓g99_17, ↓g99_20, ↓g99_23, ↓g99_24, ↓g99_26, ↓g99_29, ↓g99_30, ↓g99_33, ↓g99_35, ↓g99_36, ↓g99_37, ↓g99_40, ↓g99_41, ↓g99_42, ↓g99_43, ↓g99_44, ↓g99_45, ↓g99_48, ↓g99_49, ↓g99_52, ↓g99_53, ↓g99_54, ↓g99_55, ↓g99_58, ↓g99_61, ↓g99_62, ↓mo_20, ↓mf_20_0, ↓mf_20_1, ↓mp_20_2, ↓mf_20_2, ↓mf_20_3, ↓mf_20_4, ↓mf_20_5, ↓mp_20_6, ↓mf_20_6, ↓mf_20_7, ↓mp_20_8, ↓mf_20_8, ↓mf_20_9, ↓mf_20_10, ↓mp_20_11, ↓mf_20_11, ↓mf_20_12, ↓mf_20_13, ↓mp_20_14, ↓mf_20_14, ↓mf_20_15, ↓mp_20_16, ↓mf_20_16, ↓ma_21, ↓ms_21, ↓ma_22, ↓ms_22, ↓ma_23, ↓ms_23, ↓ma_24, ↓ms_24, ↓ma_25, ↓ms_25, ↓ma_26, ↓ms_26, ↓ma_27, ↓ms_27, ↓ma_28, ↓ms_28, ↓ma_29, ↓ms_29, ↓ma_30, ↓ms_30, ↓ma_31, ↓ms_31, ↓bnd_some, ↓cond_true, ↓m_pv_none, ↓m_pv_some, m_b01_0, m_b01_1, true_and, and_true, eq_self, e1, ↓reduceIte, ↓g1, e2.mpr z, ↓g2, i1, i2, i3, i4, hv _ hkl, hv2, e3, e4, z2, nI_1, Int32.add_zero]
        exact ih
    · rw [if_neg (by rw [show isU l p (p + 2 + k) = false from decide_eq_false (fun y => z y.1)]; decide)] at ih
      simp only [↓g99_0, ↓g99_1, ↓g99_2, ↓g99_3, ↓g99_4, ↓g99_5, ↓g99_9, ↓g99_10, ↓g99_13, ↓g99_14, ↓g99_15, ↓g99_17, ↓g99_20, ↓g99_23, ↓g99_24, ↓g99_26, ↓g99_29, ↓g99_30, ↓g99_33, ↓g99_35, ↓g99_36, ↓g99_37, ↓g99_40, ↓g99_41, ↓g99_42, ↓g99_43, ↓g99_44, ↓g99_45, ↓g99_48, ↓g99_49, ↓g99_52, ↓g99_53, ↓g99_54, ↓g99_55, ↓g99_58, ↓g99_61, ↓g99_62, ↓mo_20, ↓mf_20_0, ↓mf_20_1, ↓mp_20_2, ↓mf_20_2, ↓mf_20_3, ↓mf_20_4, ↓mf_20_5, ↓mp_20_6, ↓mf_20_6, ↓mf_20_7, ↓mp_20_8, ↓mf_20_8, ↓mf_20_9, ↓mf_20_10, ↓mp_20_11, ↓mf_20_11, ↓mf_20_12, ↓mf_20_13, ↓mp_20_14, ↓mf_20_14, ↓mf_20_15, ↓mp_20_16, ↓mf_20_16, ↓ma_21, ↓ms_21, ↓ma_22, ↓ms_22, ↓ma_23, ↓ms_23, ↓ma_24, ↓ms_24, ↓ma_25, ↓ms_25, ↓ma_26, ↓ms_26, ↓ma_27, ↓ms_27, ↓ma_28, ↓ms_28, ↓ma_29, ↓ms_29, ↓ma_30, ↓ms_30, ↓ma_31, ↓ms_31, ↓bnd_some, ↓cond_true, ↓m_pv_none, ↓m_pv_some, m_b01_0, m_b01_1, true_and, and_true, eq_self, e1, ↓reduceIte, ↓g1, e2, z, nI_1, Int32.add_zero]
      exact ih
theorem n_uses (h : RW d l) (hv : DV d l) (hk : Tok l) {p : Nat} (hp : p < l.length) (hr : red l p = true) (K : Option Value → mM → Prop) : go S 99 0 [.ref 20, .int (nI (p + 1)), .int (nI (en l (p + 1))), .null, .null] [] (mk c (md d)) K = K (some (.int (nI (us l p (en l (p + 1) - (p + 2)))))) (mk c (md d)) := by
  have g := n_usesL (S := S) (c := c) h hv hk hp hr (en l (p + 1) - (p + 2)) 0 rfl K
  simp only [↓g99_0, ↓g99_1, ↓g99_2, ↓g99_3, ↓g99_4, ↓g99_5, ↓g99_9, ↓g99_10, ↓g99_13, ↓g99_14, ↓g99_15, ↓g99_17, ↓g99_20, ↓g99_23, ↓g99_24, ↓g99_26, ↓g99_29, ↓g99_30, ↓g99_33, ↓g99_35, ↓g99_36, ↓g99_37, ↓g99_40, ↓g99_41, ↓g99_42, ↓g99_43, ↓g99_44, ↓g99_45, ↓g99_48, ↓g99_49, ↓g99_52, ↓g99_53, ↓g99_54, ↓g99_55, ↓g99_58, ↓g99_61, ↓g99_62, nI_1]
  exact g
theorem n_bodyL (hk : Tok l) {p : Nat} (hp : p < l.length) (hr : red l p = true) (hn2 : (rwt l p).length ≤ 200) : ∀ (n k : Nat) (d : Nat → Nat → Int32), n + k = en l (p + 1) - (p + 2) → RW d l → DV d l → NX d (l.take p ++ bd l p k) → ∃ d', NX d' (l.take p ++ bd l p (en l (p + 1) - (p + 2))) ∧ mx [8] [11] d d' ∧ ∀ (K : Option Value → mM → Prop) (j5 j6 : Value), go S 100 5 [.ref 20, .int (nI (p + 1)), .int (nI (en l (p + 1))), .int (nI (en l p)), .int (nI (p + 2 + k)), j5, j6] [] (mk c (md d)) K = K none (mk c (md d'))
  | 0, k, d, hn, h, hv, hx => by
    obtain ⟨r1, r2, r3, -⟩ := red_all hk.1 hp hr
    have e : k = en l (p + 1) - (p + 2) := by omega
    subst e
    refine ⟨d, hx, mx_rf, fun K j5 j6 => ?_⟩
    rw [show p + 2 + (en l (p + 1) - (p + 2)) = en l (p + 1) by omega, g100_5]
    simp only [↓g100_0, ↓g100_1, ↓g100_2, ↓g100_3, ↓g100_7, ↓g100_8, ↓g100_11, ↓g100_12, ↓g100_15, ↓g100_17, ↓g100_18, ↓g100_19, ↓g100_22, ↓g100_23, ↓g100_24, ↓g100_25, ↓g100_26, ↓g100_27, ↓g100_29, ↓g100_30, ↓g100_32, ↓g100_35, ↓g100_37, ↓g100_38, ↓g100_40, ↓g100_43, ↓g100_46, ↓g100_48, ↓g100_50, ↓g100_53, ↓g100_54, ↓g100_55, ↓g100_56, ↓g100_58, ↓g100_61, ↓g100_64, ↓g100_65, ↓g100_66, ↓g100_68, ↓g100_71, ↓g100_74, ↓g100_76, ↓g100_78, ↓g100_81, ↓g100_82, ↓g100_85, ↓g100_87, ↓g100_88, ↓g100_89, ↓g100_90, ↓g100_93, ↓g100_94, ↓g100_97, ↓g100_99, ↓g100_100, ↓g100_103, ↓g100_106, ↓g100_109, Int32.le_refl, ↓reduceIte]
  | n + 1, k, d, hn, h, hv, hx => by
    obtain ⟨r1, r2, r3, r4, r5, -⟩ := red_all hk.1 hp hr
    have hl := hk.2
    have hkl : p + 2 + k < l.length := by omega
    have hkd := hk.1.kd hkl
    have hnu := nu_lt hk.1 hkl hl
    have hd1 := dep_lt hk.1 hkl hl
    have hbd := body_dep hk.1 hp hr (i := p + 2 + k) (by omega) (by omega)
    have hdp := (dep_3 hk.1 hp (red_of hr).1).1
    have e1 : ¬ nI (en l (p + 1)) ≤ nI (p + 2 + k) := nI_ge (by omega) (by omega)
    have g1 := fun K => n_kind (S := S) (c := c) h hk hkl K
    have g2 := fun K => n_number (S := S) (c := c) h hk hkl K
    have e2 : (nI (kd l (p + 2 + k)) = 0) ↔ kd l (p + 2 + k) = 0 := nI_eq (b := 0) (by omega) (by decide)
    have hv2 : d 7 (p + 1) = nI (dep l p) := by rw [hv (p + 1) (by omega), hdp]
    have e3 : nI (dep l (p + 2 + k)) - nI (dep l p) - 1 = nI (wi l p (p + 2 + k)) := by
      rw [pk_sub (by omega), l_1, pk_sub (by omega)]
      rfl
    have hwi : wi l p (p + 2 + k) < 200 := by unfold wi; omega
    have e4 : (nI (nu l (p + 2 + k)) = nI (wi l p (p + 2 + k))) ↔ nu l (p + 2 + k) = wi l p (p + 2 + k) := nI_eq (by omega) (by omega)
    have e5 : (nI (nu l (p + 2 + k)) ≤ nI (wi l p (p + 2 + k))) ↔ nu l (p + 2 + k) ≤ wi l p (p + 2 + k) := nI_leI (by omega) (by omega)
    have i1 := ib (show p + 2 + k < 200 by omega)
    have i2 := nI_clamp (show p + 2 + k < 2 ^ 31 by omega)
    have i3 := ib (show p + 1 < 200 by omega)
    have i4 := nI_clamp (show p + 1 < 2 ^ 31 by omega)
    have hlen := rwt_parts (l := l) (p := p) (by omega) hn2 (n := k + 1) (by omega)
    have hbs : bd l p (k + 1) = bd l p k ++ bp l p (p + 2 + k) := rfl
    rw [hbs, ← List.append_assoc, List.length_append] at hlen
    by_cases hu : isU l p (p + 2 + k) = true
    · obtain ⟨z, z2⟩ := of_decide_eq_true hu
      have hb : bp l p (p + 2 + k) = agm l (en l (p + 1)) (wi l p (p + 2 + k)) (en l (en l (p + 1)) - en l (p + 1)) := by
        unfold bp
        rw [if_pos hu, r5]
      rw [hb] at hlen hbs
      rw [agm_len] at hlen
      obtain ⟨d1, b1, b2, b3⟩ := n_garg (S := S) (c := c) (w := wi l p (p + 2 + k)) hk (show en l (p + 1) < l.length by omega) (l.take p ++ bd l p k) (by omega) h hv hx
      rw [List.append_assoc, ← hbs] at b1
      obtain ⟨d2, q1, q2, q3⟩ := n_bodyL hk hp hr hn2 n (k + 1) d1 (by omega) (h.mx b2 (by simp) (by simp)) (hv.mx b2 (by simp)) b1
      refine ⟨d2, q1, mx_tr b2 q2, fun K j5 j6 => ?_⟩
      rw [← r5] at b3
      rw [g100_5]
      rw [z2] at g2
      simp only [↓g100_0, ↓g100_1, ↓g100_2, ↓g100_3, ↓g100_7, ↓g100_8, ↓g100_11, ↓g100_12, ↓g100_15, ↓g100_17, ↓g100_18, ↓g100_19, ↓g100_22, ↓g100_23, ↓g100_24, ↓g100_25, ↓g100_26, ↓g100_27, ↓g100_29, ↓g100_30, ↓g100_32, ↓g100_35, ↓g100_37, ↓g100_38, ↓g100_40, ↓g100_43, ↓g100_46, ↓g100_48, ↓g100_50, ↓g100_53, ↓g100_54, ↓g100_55, ↓g100_56, ↓g100_58, ↓g100_61, ↓g100_64, ↓g100_65, ↓g100_66, ↓g100_68, ↓g100_71, ↓g100_74, ↓g100_76, ↓g100_78, ↓g100_81, ↓g100_82, ↓g100_85, ↓g100_87, ↓g100_88, ↓g100_89, ↓g100_90, ↓g100_93, ↓g100_94, ↓g100_97, ↓g100_99, ↓g100_100, ↓g100_103, ↓g100_106, ↓g100_109, ↓mo_20, ↓mf_20_0, ↓mf_20_1, ↓mp_20_2, ↓mf_20_2, ↓mf_20_3, ↓mf_20_4, ↓mf_20_5, ↓mp_20_6, ↓mf_20_6, ↓mf_20_7, ↓mp_20_8, ↓mf_20_8, ↓mf_20_9, ↓mf_20_10, ↓mp_20_11, ↓mf_20_11, ↓mf_20_12, ↓mf_20_13, ↓mp_20_14, ↓mf_20_14, ↓mf_20_15, ↓mp_20_16, ↓mf_20_16, ↓ma_21, ↓ms_21, ↓ma_22, ↓ms_22, ↓ma_23, ↓ms_23, ↓ma_24, ↓ms_24, ↓ma_25, ↓ms_25, ↓ma_26, ↓ms_26, ↓ma_27, ↓ms_27, ↓ma_28, ↓ms_28, ↓ma_29, ↓ms_29, ↓ma_30, ↓ms_30, ↓ma_31, ↓ms_31, ↓bnd_some, ↓cond_true, ↓m_pv_none, ↓m_pv_some, m_b01_0, m_b01_1, true_and, and_true, eq_self, e1, ↓reduceIte, i1, i2, i3, i4, hv _ hkl, hv2, e3, ↓g2, ↓g1, e2.mpr z, ↓b3, nI_1]
      exact q3 K _ _
    · have hu' : ¬ (kd l (p + 2 + k) = 0 ∧ nu l (p + 2 + k) = wi l p (p + 2 + k)) := fun y => hu (decide_eq_true y)
      by_cases hc : kd l (p + 2 + k) = 0 ∧ wi l p (p + 2 + k) < nu l (p + 2 + k)
      · have hb : bp l p (p + 2 + k) = [(0, nu l (p + 2 + k) - 1)] := by
          unfold bp
          rw [if_neg hu, if_pos hc]
        rw [hb] at hlen hbs
        rw [List.length_singleton] at hlen
        obtain ⟨d1, b1, b2, b3⟩ := n_gives (S := S) (c := c) hx (by omega) (0, nu l (p + 2 + k) - 1) (v := nI (cm (pt l (p + 2 + k))) - 1) (by
          rw [l_1, pk_sub (by show 1 ≤ 1000 * kd l (p + 2 + k) + nu l (p + 2 + k); omega)]
          congr 1
          show 1000 * kd l (p + 2 + k) + nu l (p + 2 + k) - 1 = 1000 * 0 + (nu l (p + 2 + k) - 1)
          omega)
        rw [List.append_assoc, ← hbs] at b1
        obtain ⟨d2, q1, q2, q3⟩ := n_bodyL hk hp hr hn2 n (k + 1) d1 (by omega) (h.mx b2 (by simp) (by simp)) (hv.mx b2 (by simp)) b1
        refine ⟨d2, q1, mx_tr b2 q2, fun K j5 j6 => ?_⟩
        have n1 : ¬ nu l (p + 2 + k) = wi l p (p + 2 + k) := by omega
        have n2 : ¬ nu l (p + 2 + k) ≤ wi l p (p + 2 + k) := by omega
        rw [g100_5]
        simp only [↓g100_0, ↓g100_1, ↓g100_2, ↓g100_3, ↓g100_7, ↓g100_8, ↓g100_11, ↓g100_12, ↓g100_15, ↓g100_17, ↓g100_18, ↓g100_19, ↓g100_22, ↓g100_23, ↓g100_24, ↓g100_25, ↓g100_26, ↓g100_27, ↓g100_29, ↓g100_30, ↓g100_32, ↓g100_35, ↓g100_37, ↓g100_38, ↓g100_40, ↓g100_43, ↓g100_46, ↓g100_48, ↓g100_50, ↓g100_53, ↓g100_54, ↓g100_55, ↓g100_56, ↓g100_58, ↓g100_61, ↓g100_64, ↓g100_65, ↓g100_66, ↓g100_68, ↓g100_71, ↓g100_74, ↓g100_76, ↓g100_78, ↓g100_81, ↓g100_82, ↓g100_85, ↓g100_87, ↓g100_88, ↓g100_89, ↓g100_90, ↓g100_93, ↓g100_94, ↓g100_97, ↓g100_99, ↓g100_100, ↓g100_103, ↓g100_106, ↓g100_109, ↓mo_20, ↓mf_20_0, ↓mf_20_1, ↓mp_20_2, ↓mf_20_2, ↓mf_20_3, ↓mf_20_4, ↓mf_20_5, ↓mp_20_6, ↓mf_20_6, ↓mf_20_7, ↓mp_20_8, ↓mf_20_8, ↓mf_20_9, ↓mf_20_10, ↓mp_20_11, ↓mf_20_11, ↓mf_20_12, ↓mf_20_13, ↓mp_20_14, ↓mf_20_14, ↓mf_20_15, ↓mp_20_16, ↓mf_20_16, ↓ma_21, ↓ms_21, ↓ma_22, ↓ms_22, ↓ma_23, ↓ms_23, ↓ma_24, ↓ms_24, ↓ma_25, ↓ms_25, ↓ma_26, ↓ms_26, ↓ma_27, ↓ms_27, ↓ma_28, ↓ms_28, ↓ma_29, ↓ms_29, ↓ma_30, ↓ms_30, ↓ma_31, ↓ms_31, ↓bnd_some, ↓cond_true, ↓m_pv_none, ↓m_pv_some, m_b01_0, m_b01_1, true_and, and_true, eq_self, e1, ↓reduceIte, i1, i2, i3, i4, hv _ hkl, hv2, e3, ↓g2, ↓g1, e2.mpr hc.1, e4, n1, e5, n2, h.2 _ hkl, ↓b3, nI_1]
        exact q3 K _ _
      · have hb : bp l p (p + 2 + k) = [pt l (p + 2 + k)] := by
          unfold bp
          rw [if_neg hu, if_neg hc]
        rw [hb] at hlen hbs
        rw [List.length_singleton] at hlen
        obtain ⟨d1, b1, b2, b3⟩ := n_gives (S := S) (c := c) hx (by omega) (pt l (p + 2 + k))
        rw [List.append_assoc, ← hbs] at b1
        obtain ⟨d2, q1, q2, q3⟩ := n_bodyL hk hp hr hn2 n (k + 1) d1 (by omega) (h.mx b2 (by simp) (by simp)) (hv.mx b2 (by simp)) b1
        refine ⟨d2, q1, mx_tr b2 q2, fun K j5 j6 => ?_⟩
        rw [g100_5]
        by_cases z : kd l (p + 2 + k) = 0
        · have n1 : ¬ nu l (p + 2 + k) = wi l p (p + 2 + k) := fun y => hu' ⟨z, y⟩
          have n2 : nu l (p + 2 + k) ≤ wi l p (p + 2 + k) := Nat.not_lt.mp fun y => hc ⟨z, y⟩
          simp only [↓g100_0, ↓g100_1, ↓g100_2, ↓g100_3, ↓g100_7, ↓g100_8, ↓g100_11, ↓g100_12, ↓g100_15, ↓g100_17, ↓g100_18, ↓g100_19, ↓g100_22, ↓g100_23, ↓g100_24, ↓g100_25, ↓g100_26, ↓g100_27, ↓g100_29, ↓g100_30, ↓g100_32, ↓g100_35, ↓g100_37, ↓g100_38, ↓g100_40, ↓g100_43, ↓g100_46, ↓g100_48, ↓g100_50, ↓g100_53, ↓g100_54, ↓g100_55, ↓g100_56, ↓g100_58, ↓g100_61, ↓g100_64, ↓g100_65, ↓g100_66, ↓g100_68, ↓g100_71, ↓g100_74, ↓g100_76, ↓g100_78, ↓g100_81, ↓g100_82, ↓g100_85, ↓g100_87, ↓g100_88, ↓g100_89, ↓g100_90, ↓g100_93, ↓g100_94, ↓g100_97, ↓g100_99, ↓g100_100, ↓g100_103, ↓g100_106, ↓g100_109, ↓mo_20, ↓mf_20_0, ↓mf_20_1, ↓mp_20_2, ↓mf_20_2, ↓mf_20_3, ↓mf_20_4, ↓mf_20_5, ↓mp_20_6, ↓mf_20_6, ↓mf_20_7, ↓mp_20_8, ↓mf_20_8, ↓mf_20_9, ↓mf_20_10, ↓mp_20_11, ↓mf_20_11, ↓mf_20_12, ↓mf_20_13, ↓mp_20_14, ↓mf_20_14, ↓mf_20_15, ↓mp_20_16, ↓mf_20_16, ↓ma_21, ↓ms_21, ↓ma_22, ↓ms_22, ↓ma_23, ↓ms_23, ↓ma_24, ↓ms_24, ↓ma_25, ↓ms_25, ↓ma_26, ↓ms_26, ↓ma_27, ↓ms_27, ↓ma_28, ↓ms_28, ↓ma_29, ↓ms_29, ↓ma_30, ↓ms_30, ↓ma_31, ↓ms_31, ↓bnd_some, ↓cond_true, ↓m_pv_none, ↓m_pv_some, m_b01_0, m_b01_1, true_and, and_true, eq_self, e1, ↓reduceIte, i1, i2, i3, i4, hv _ hkl, hv2, e3, ↓g2, ↓g1, e2.mpr z, e4, n1, e5, n2, h.2 _ hkl, ↓b3, nI_1]
          exact q3 K _ _
        · simp only [↓g100_0, ↓g100_1, ↓g100_2, ↓g100_3, ↓g100_7, ↓g100_8, ↓g100_11, ↓g100_12, ↓g100_15, ↓g100_17, ↓g100_18, ↓g100_19, ↓g100_22, ↓g100_23, ↓g100_24, ↓g100_25, ↓g100_26, ↓g100_27, ↓g100_29, ↓g100_30, ↓g100_32, ↓g100_35, ↓g100_37, ↓g100_38, ↓g100_40, ↓g100_43, ↓g100_46, ↓g100_48, ↓g100_50, ↓g100_53, ↓g100_54, ↓g100_55, ↓g100_56, ↓g100_58, ↓g100_61, ↓g100_64, ↓g100_65, ↓g100_66, ↓g100_68, ↓g100_71, ↓g100_74, ↓g100_76, ↓g100_78, ↓g100_81, ↓g100_82, ↓g100_85, ↓g100_87, ↓g100_88, ↓g100_89, ↓g100_90, ↓g100_93, ↓g100_94, ↓g100_97, ↓g100_99, ↓g100_100, ↓g100_103, ↓g100_106, ↓g100_109, ↓mo_20, ↓mf_20_0, ↓mf_20_1, ↓mp_20_2, ↓mf_20_2, ↓mf_20_3, ↓mf_20_4, ↓mf_20_5, ↓mp_20_6, ↓mf_20_6, ↓mf_20_7, ↓mp_20_8, ↓mf_20_8, ↓mf_20_9, ↓mf_20_10, ↓mp_20_11, ↓mf_20_11, ↓mf_20_12, ↓mf_20_13, ↓mp_20_14, ↓mf_20_14, ↓mf_20_15, ↓mp_20_16, ↓mf_20_16, ↓ma_21, ↓ms_21, ↓ma_22, ↓ms_22, ↓ma_23, ↓ms_23, ↓ma_24, ↓ms_24, ↓ma_25, ↓ms_25, ↓ma_26, ↓ms_26, ↓ma_27, ↓ms_27, ↓ma_28, ↓ms_28, ↓ma_29, ↓ms_29, ↓ma_30, ↓ms_30, ↓ma_31, ↓ms_31, ↓bnd_some, ↓cond_true, ↓m_pv_none, ↓m_pv_some, m_b01_0, m_b01_1, true_and, and_true, eq_self, e1, ↓reduceIte, i1, i2, i3, i4, hv _ hkl, hv2, e3, ↓g2, ↓g1, e2, z, h.2 _ hkl, ↓b3, nI_1]
          exact q3 K _ _
end MOD4
