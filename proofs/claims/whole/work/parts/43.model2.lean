/-! the model: depths, load, store, the history, the next place -/
/-- the term r of a row of states, which begins at o -/
def TL (f : Nat → Int32) (o r : Nat) (l : Tm) : Prop := f (o + r) = nI l.length ∧ ∀ p, p < l.length → f (o + 6 + 200 * r + p) = nI (cm (pt l p))
def SL (f : Nat → Int32) (o : Nat) (R : Nat → Tm) : Prop := ∀ r, r < 6 → TL f o r (R r)
def HI (d : Nat → Nat → Int32) (hs : List (Nat → Tm)) : Prop := d 0 2 = nI hs.length ∧ ∀ j, j < hs.length → SL (d 2) (1206 * (hs.length - 1 - j)) (hs.getD j (fun _ => []))
theorem ca_self (d : Nat → Nat → Int32) (k : Nat) : ca d k (d k) = d := by
  funext j
  by_cases e : j = k
  · subst e; exact ca_eq _ _ _
  · exact ca_ne e
theorem ca_ca (d : Nat → Nat → Int32) (k : Nat) (f g : Nat → Int32) : ca (ca d k f) k g = ca d k g := by
  funext j
  by_cases e : j = k
  · subst e; rw [ca_eq, ca_eq]
  · rw [ca_ne e, ca_ne e, ca_ne e]
theorem SL.mov {f g : Nat → Int32} {o o' : Nat} {R : Nat → Tm} (h : SL f o R) (hl : ∀ r, r < 6 → (R r).length ≤ 200) (hg : ∀ j, j < 1206 → g (o' + j) = f (o + j)) : SL g o' R := fun r hr => by
  obtain ⟨h1, h2⟩ := h r hr
  have hb := hl r hr
  refine ⟨by rw [hg r (by omega)]; exact h1, fun p hp => ?_⟩
  have e := hg (6 + 200 * r + p) (by omega)
  rw [show o' + (6 + 200 * r + p) = o' + 6 + 200 * r + p by omega, show o + (6 + 200 * r + p) = o + 6 + 200 * r + p by omega] at e
  rw [e]
  exact h2 p hp
section MOD2
variable {S : mS} {c : Nat → Nat → Int32} {l : Tm}
theorem n_reg7 (M : mM) (x : Int32) (K : Option Value → mM → Prop) : go S 86 0 [.int x] [] M K = K (some (.int (if (rgx x 6).isSome then 1 else 0))) M := by
  have e : (0 ≤ x ∧ x ≤ 5) ↔ (0 ≤ x ∧ x < nI 6) := by
    refine and_congr_right fun h0 => ?_
    rw [Int32.lt_iff_toInt_lt, Int32.le_iff_toInt_le]
    have e1 : (5 : Int32).toInt = 5 := by decide
    have e2 : (nI 6).toInt = 6 := by decide
    omega
  have g := fun K => n_within (S := S) M x 0 5 K
  unfold rgx
  by_cases h : 0 ≤ x ∧ x ≤ 5
  · rw [if_pos (e.mp h)]
    simp only [if_pos h] at g
    simp only [↓g86_0, ↓g86_1, ↓g86_2, ↓g86_3, ↓g86_6, ↓g, ↓m_pv_some, m_b01_1, true_and, Option.isSome, ↓reduceIte]
  · rw [if_neg (fun z => h (e.mpr z))]
    simp only [if_neg h] at g
    simp only [↓g86_0, ↓g86_1, ↓g86_2, ↓g86_3, ↓g86_6, ↓g, ↓m_pv_some, m_b01_0, true_and, Option.isSome, ↓reduceIte, Bool.false_eq_true]
theorem n_depsL (hk : Tok l) : ∀ (n k : Nat) (d : Nat → Nat → Int32), n + k = l.length → RW d l → (∀ p, p < k → d 7 p = nI (dep l p)) → AW (d 9) (dk l k) → ∃ d', DV d' l ∧ mx [7, 9] [] d d' ∧ ∀ (K : Option Value → mM → Prop) (j3 : Value), go S 91 11 [.ref 20, .int (nI (dk l k).length), .int (nI k), j3] [] (mk c (md d)) K = K none (mk c (md d'))
  | 0, k, d, hn, h, hd, ha => by
    have e : k = l.length := by omega
    subst e
    refine ⟨d, hd, mx_rf, fun K j3 => ?_⟩
    rw [g91_11]
    simp only [↓g91_0, ↓g91_1, ↓g91_2, ↓g91_3, ↓g91_6, ↓g91_7, ↓g91_8, ↓g91_9, ↓g91_10, ↓g91_12, ↓g91_13, ↓g91_16, ↓g91_19, ↓g91_22, ↓g91_23, ↓g91_26, ↓g91_27, ↓g91_28, ↓g91_29, ↓g91_30, ↓g91_33, ↓g91_34, ↓g91_35, ↓g91_36, ↓g91_37, ↓g91_38, ↓g91_41, ↓g91_42, ↓g91_45, ↓g91_46, ↓g91_49, ↓g91_50, ↓g91_51, ↓g91_52, ↓g91_53, ↓g91_56, ↓g91_57, ↓g91_58, ↓g91_59, ↓g91_60, ↓g91_61, ↓g91_64, ↓g91_67, ↓g91_68, ↓g91_69, ↓g91_72, ↓g91_73, ↓g91_76, ↓g91_77, ↓g91_80, ↓g91_81, ↓g91_82, ↓g91_83, ↓g91_84, ↓g91_85, ↓g91_88, ↓g91_91, ↓g91_94, ↓mo_20, ↓mf_20_0, ↓mf_20_1, ↓mp_20_2, ↓mf_20_2, ↓mf_20_3, ↓mf_20_4, ↓mf_20_5, ↓mp_20_6, ↓mf_20_6, ↓mf_20_7, ↓mp_20_8, ↓mf_20_8, ↓mf_20_9, ↓mf_20_10, ↓mp_20_11, ↓mf_20_11, ↓mf_20_12, ↓mf_20_13, ↓mp_20_14, ↓mf_20_14, ↓mf_20_15, ↓mp_20_16, ↓mf_20_16, ↓ma_21, ↓ms_21, ↓ma_22, ↓ms_22, ↓ma_23, ↓ms_23, ↓ma_24, ↓ms_24, ↓ma_25, ↓ms_25, ↓ma_26, ↓ms_26, ↓ma_27, ↓ms_27, ↓ma_28, ↓ms_28, ↓ma_29, ↓ms_29, ↓ma_30, ↓ms_30, ↓ma_31, ↓ms_31, ↓bnd_some, ↓cond_true, ↓m_pv_none, ↓m_pv_some, m_b01_0, m_b01_1, true_and, and_true, eq_self, h.1, Int32.le_refl, ↓reduceIte]
  | n + 1, k, d, hn, h, hd, ha => by
    have hl := hk.2
    have hkl : k < l.length := by omega
    obtain ⟨s, hs⟩ : ∃ s, dk l k = dep l k :: s := ⟨_, dk_head (hk.1.1 k hkl).1⟩
    have hlen := dk_len l k
    rw [hs, List.length_cons] at hlen
    rw [hs] at ha
    have hkd := hk.1.kd hkl
    have e1 : ¬ nI l.length ≤ nI k := nI_ge (by omega) (by omega)
    have e2 := ha.hd
    have hD : mx [7, 9] [] d (ca d 7 (upd (d 7) k (nI (dep l k)))) := mx_ca (by simp) (by decide)
    have g1 := fun K => n_kind (S := S) (c := c) (h.mx hD (by simp) (by simp)) hk hkl K
    have e3 : (nI (kd l k) = 3) ↔ kd l k = 3 := nI_eq (b := 3) (by omega) (by decide)
    have e4 : (nI (kd l k) = 2) ↔ kd l k = 2 := nI_eq (b := 2) (by omega) (by decide)
    have d7 : ∀ p, p < k + 1 → (ca d 7 (upd (d 7) k (nI (dep l k)))) 7 p = nI (dep l p) := fun p hp => by
      rw [ca_eq]
      by_cases e : p = k
      · subst e; rw [upd_eq]
      · rw [upd_ne e]; exact hd p (by omega)
    have d9 : (ca d 7 (upd (d 7) k (nI (dep l k)))) 9 = d 9 := ca_ne (by decide)
    have i1 := ib (show s.length < 204 by omega)
    have i2 := ib (show s.length + 1 < 204 by omega)
    have i3 := ib (show k < 200 by omega)
    have i4 := nI_clamp (show s.length < 2 ^ 31 by omega)
    have i5 := nI_clamp (show s.length + 1 < 2 ^ 31 by omega)
    have i6 := nI_clamp (show k < 2 ^ 31 by omega)
    have hst : dk l (k + 1) = stq (pt l k) (dep l k :: s) := by rw [dk_step, hs]
    rw [stq_cons] at hst
    by_cases h3 : kd l k = 3
    · have h3' : (pt l k).1 = 3 := h3
      rw [if_neg (by omega), if_pos h3'] at hst
      have a1 := ha.tl.put (d := dep l k)
      have a2 := a1.put (d := dep l k)
      obtain ⟨d', b1, b2, b3⟩ := n_depsL hk n (k + 1) (ca (ca (ca d 7 (upd (d 7) k (nI (dep l k)))) 9 (upd (d 9) s.length (nI (dep l k)))) 9 (upd (upd (d 9) s.length (nI (dep l k))) (s.length + 1) (nI (dep l k)))) (by omega) (h.mx (mx_tr hD (mx_tr (mx_ca (by simp) (by decide)) (mx_ca (by simp) (by decide)))) (by simp) (by simp)) (fun p hp => by rw [ca_ne (by decide), ca_ne (by decide)]; exact d7 p hp) (by rw [ca_eq, hst]; exact a2)
      refine ⟨d', b1, mx_tr (mx_tr hD (mx_tr (mx_ca (by simp) (by decide)) (mx_ca (by simp) (by decide)))) b2, fun K j3 => ?_⟩
      have b4 := b3 K (.int (nI (dep l k)))
      rw [hst, List.length_cons, List.length_cons] at b4
      rw [hs, g91_11]
      simp only [↓g91_0, ↓g91_1, ↓g91_2, ↓g91_3, ↓g91_6, ↓g91_7, ↓g91_8, ↓g91_9, ↓g91_10, ↓g91_12, ↓g91_13, ↓g91_16, ↓g91_19, ↓g91_22, ↓g91_23, ↓g91_26, ↓g91_27, ↓g91_28, ↓g91_29, ↓g91_30, ↓g91_33, ↓g91_34, ↓g91_35, ↓g91_36, ↓g91_37, ↓g91_38, ↓g91_41, ↓g91_42, ↓g91_45, ↓g91_46, ↓g91_49, ↓g91_50, ↓g91_51, ↓g91_52, ↓g91_53, ↓g91_56, ↓g91_57, ↓g91_58, ↓g91_59, ↓g91_60, ↓g91_61, ↓g91_64, ↓g91_67, ↓g91_68, ↓g91_69, ↓g91_72, ↓g91_73, ↓g91_76, ↓g91_77, ↓g91_80, ↓g91_81, ↓g91_82, ↓g91_83, ↓g91_84, ↓g91_85, ↓g91_88, ↓g91_91, ↓g91_94, ↓mo_20, ↓mf_20_0, ↓mf_20_1, ↓mp_20_2, ↓mf_20_2, ↓mf_20_3, ↓mf_20_4, ↓mf_20_5, ↓mp_20_6, ↓mf_20_6, ↓mf_20_7, ↓mp_20_8, ↓mf_20_8, ↓mf_20_9, ↓mf_20_10, ↓mp_20_11, ↓mf_20_11, ↓mf_20_12, ↓mf_20_13, ↓mp_20_14, ↓mf_20_14, ↓mf_20_15, ↓mp_20_16, ↓mf_20_16, ↓ma_21, ↓ms_21, ↓ma_22, ↓ms_22, ↓ma_23, ↓ms_23, ↓ma_24, ↓ms_24, ↓ma_25, ↓ms_25, ↓ma_26, ↓ms_26, ↓ma_27, ↓ms_27, ↓ma_28, ↓ms_28, ↓ma_29, ↓ms_29, ↓ma_30, ↓ms_30, ↓ma_31, ↓ms_31, ↓bnd_some, ↓cond_true, ↓m_pv_none, ↓m_pv_some, m_b01_0, m_b01_1, true_and, and_true, eq_self, h.1, e1, List.length_cons, pk_m1, i1, i3, i4, i6, e2, ↓g1, e3, h3, d9, nI_1, i2, i5, ca_eq, l_2, nI_add, ↓reduceIte]
      exact b4
    · have h3' : ¬ (pt l k).1 = 3 := h3
      by_cases h2 : kd l k = 2
      · have h2' : (pt l k).1 = 2 := h2
        rw [if_pos h2'] at hst
        have a1 := ha.tl.put (d := dep l k + 1)
        obtain ⟨d', b1, b2, b3⟩ := n_depsL hk n (k + 1) (ca (ca d 7 (upd (d 7) k (nI (dep l k)))) 9 (upd (d 9) s.length (nI (dep l k + 1)))) (by omega) (h.mx (mx_tr hD (mx_ca (by simp) (by decide))) (by simp) (by simp)) (fun p hp => by rw [ca_ne (by decide)]; exact d7 p hp) (by rw [ca_eq, hst]; exact a1)
        refine ⟨d', b1, mx_tr (mx_tr hD (mx_ca (by simp) (by decide))) b2, fun K j3 => ?_⟩
        have b4 := b3 K (.int (nI (dep l k)))
        rw [hst, List.length_cons] at b4
        rw [hs, g91_11]
        simp only [↓g91_0, ↓g91_1, ↓g91_2, ↓g91_3, ↓g91_6, ↓g91_7, ↓g91_8, ↓g91_9, ↓g91_10, ↓g91_12, ↓g91_13, ↓g91_16, ↓g91_19, ↓g91_22, ↓g91_23, ↓g91_26, ↓g91_27, ↓g91_28, ↓g91_29, ↓g91_30, ↓g91_33, ↓g91_34, ↓g91_35, ↓g91_36, ↓g91_37, ↓g91_38, ↓g91_41, ↓g91_42, ↓g91_45, ↓g91_46, ↓g91_49, ↓g91_50, ↓g91_51, ↓g91_52, ↓g91_53, ↓g91_56, ↓g91_57, ↓g91_58, ↓g91_59, ↓g91_60, ↓g91_61, ↓g91_64, ↓g91_67, ↓g91_68, ↓g91_69, ↓g91_72, ↓g91_73, ↓g91_76, ↓g91_77, ↓g91_80, ↓g91_81, ↓g91_82, ↓g91_83, ↓g91_84, ↓g91_85, ↓g91_88, ↓g91_91, ↓g91_94, ↓mo_20, ↓mf_20_0, ↓mf_20_1, ↓mp_20_2, ↓mf_20_2, ↓mf_20_3, ↓mf_20_4, ↓mf_20_5, ↓mp_20_6, ↓mf_20_6, ↓mf_20_7, ↓mp_20_8, ↓mf_20_8, ↓mf_20_9, ↓mf_20_10, ↓mp_20_11, ↓mf_20_11, ↓mf_20_12, ↓mf_20_13, ↓mp_20_14, ↓mf_20_14, ↓mf_20_15, ↓mp_20_16, ↓mf_20_16, ↓ma_21, ↓ms_21, ↓ma_22, ↓ms_22, ↓ma_23, ↓ms_23, ↓ma_24, ↓ms_24, ↓ma_25, ↓ms_25, ↓ma_26, ↓ms_26, ↓ma_27, ↓ms_27, ↓ma_28, ↓ms_28, ↓ma_29, ↓ms_29, ↓ma_30, ↓ms_30, ↓ma_31, ↓ms_31, ↓bnd_some, ↓cond_true, ↓m_pv_none, ↓m_pv_some, m_b01_0, m_b01_1, true_and, and_true, eq_self, h.1, e1, List.length_cons, pk_m1, i1, i3, i4, i6, e2, ↓g1, e3, h3, e4, h2, d9, nI_1, ↓reduceIte]
        exact b4
      · have h2' : ¬ (pt l k).1 = 2 := h2
        rw [if_neg h2', if_neg h3'] at hst
        obtain ⟨d', b1, b2, b3⟩ := n_depsL hk n (k + 1) (ca d 7 (upd (d 7) k (nI (dep l k)))) (by omega) (h.mx hD (by simp) (by simp)) d7 (by rw [d9, hst]; exact ha.tl)
        refine ⟨d', b1, mx_tr hD b2, fun K j3 => ?_⟩
        have b4 := b3 K (.int (nI (dep l k)))
        rw [hst] at b4
        rw [hs, g91_11]
        simp only [↓g91_0, ↓g91_1, ↓g91_2, ↓g91_3, ↓g91_6, ↓g91_7, ↓g91_8, ↓g91_9, ↓g91_10, ↓g91_12, ↓g91_13, ↓g91_16, ↓g91_19, ↓g91_22, ↓g91_23, ↓g91_26, ↓g91_27, ↓g91_28, ↓g91_29, ↓g91_30, ↓g91_33, ↓g91_34, ↓g91_35, ↓g91_36, ↓g91_37, ↓g91_38, ↓g91_41, ↓g91_42, ↓g91_45, ↓g91_46, ↓g91_49, ↓g91_50, ↓g91_51, ↓g91_52, ↓g91_53, ↓g91_56, ↓g91_57, ↓g91_58, ↓g91_59, ↓g91_60, ↓g91_61, ↓g91_64, ↓g91_67, ↓g91_68, ↓g91_69, ↓g91_72, ↓g91_73, ↓g91_76, ↓g91_77, ↓g91_80, ↓g91_81, ↓g91_82, ↓g91_83, ↓g91_84, ↓g91_85, ↓g91_88, ↓g91_91, ↓g91_94, ↓mo_20, ↓mf_20_0, ↓mf_20_1, ↓mp_20_2, ↓mf_20_2, ↓mf_20_3, ↓mf_20_4, ↓mf_20_5, ↓mp_20_6, ↓mf_20_6, ↓mf_20_7, ↓mp_20_8, ↓mf_20_8, ↓mf_20_9, ↓mf_20_10, ↓mp_20_11, ↓mf_20_11, ↓mf_20_12, ↓mf_20_13, ↓mp_20_14, ↓mf_20_14, ↓mf_20_15, ↓mp_20_16, ↓mf_20_16, ↓ma_21, ↓ms_21, ↓ma_22, ↓ms_22, ↓ma_23, ↓ms_23, ↓ma_24, ↓ms_24, ↓ma_25, ↓ms_25, ↓ma_26, ↓ms_26, ↓ma_27, ↓ms_27, ↓ma_28, ↓ms_28, ↓ma_29, ↓ms_29, ↓ma_30, ↓ms_30, ↓ma_31, ↓ms_31, ↓bnd_some, ↓cond_true, ↓m_pv_none, ↓m_pv_some, m_b01_0, m_b01_1, true_and, and_true, eq_self, h.1, e1, List.length_cons, pk_m1, i1, i3, i4, i6, e2, ↓g1, e3, h3, e4, h2, d9, nI_1, ↓reduceIte]
        exact b4
theorem n_deps (hk : Tok l) {d : Nat → Nat → Int32} (h : RW d l) : ∃ d', DV d' l ∧ mx [7, 9] [] d d' ∧ ∀ (K : Option Value → mM → Prop), go S 91 0 [.ref 20, .null, .null, .null] [] (mk c (md d)) K = K none (mk c (md d')) := by
  have h0 : mx [7, 9] [] d (ca d 9 (upd (d 9) 0 0)) := mx_ca (by simp) (by decide)
  obtain ⟨d', b1, b2, b3⟩ := n_depsL (S := S) (c := c) hk l.length 0 (ca d 9 (upd (d 9) 0 0)) rfl (h.mx h0 (by simp) (by simp)) (fun p hp => absurd hp (Nat.not_lt_zero p)) (by
    rw [ca_eq]
    intro i hi
    have hi : i < 1 := hi
    have e : i = 0 := by omega
    subst e
    exact upd_eq _ _ _)
  refine ⟨d', b1, mx_tr h0 b2, fun K => ?_⟩
  simp only [↓g91_0, ↓g91_1, ↓g91_2, ↓g91_3, ↓g91_6, ↓g91_7, ↓g91_8, ↓g91_9, ↓g91_10, ↓g91_12, ↓g91_13, ↓g91_16, ↓g91_19, ↓g91_22, ↓g91_23, ↓g91_26, ↓g91_27, ↓g91_28, ↓g91_29, ↓g91_30, ↓g91_33, ↓g91_34, ↓g91_35, ↓g91_36, ↓g91_37, ↓g91_38, ↓g91_41, ↓g91_42, ↓g91_45, ↓g91_46, ↓g91_49, ↓g91_50, ↓g91_51, ↓g91_52, ↓g91_53, ↓g91_56, ↓g91_57, ↓g91_58, ↓g91_59, ↓g91_60, ↓g91_61, ↓g91_64, ↓g91_67, ↓g91_68, ↓g91_69, ↓g91_72, ↓g91_73, ↓g91_76, ↓g91_77, ↓g91_80, ↓g91_81, ↓g91_82, ↓g91_83, ↓g91_84, ↓g91_85, ↓g91_88, ↓g91_91, ↓g91_94, ↓mo_20, ↓mf_20_0, ↓mf_20_1, ↓mp_20_2, ↓mf_20_2, ↓mf_20_3, ↓mf_20_4, ↓mf_20_5, ↓mp_20_6, ↓mf_20_6, ↓mf_20_7, ↓mp_20_8, ↓mf_20_8, ↓mf_20_9, ↓mf_20_10, ↓mp_20_11, ↓mf_20_11, ↓mf_20_12, ↓mf_20_13, ↓mp_20_14, ↓mf_20_14, ↓mf_20_15, ↓mp_20_16, ↓mf_20_16, ↓ma_21, ↓ms_21, ↓ma_22, ↓ms_22, ↓ma_23, ↓ms_23, ↓ma_24, ↓ms_24, ↓ma_25, ↓ms_25, ↓ma_26, ↓ms_26, ↓ma_27, ↓ms_27, ↓ma_28, ↓ms_28, ↓ma_29, ↓ms_29, ↓ma_30, ↓ms_30, ↓ma_31, ↓ms_31, ↓bnd_some, ↓cond_true, ↓m_pv_none, ↓m_pv_some, m_b01_0, m_b01_1, true_and, and_true, eq_self, show m_inb 0 204 = true from by decide, show (0 : Int32).toNatClampNeg = 0 from rfl]
  exact b3 K .null
theorem n_load {d : Nat → Nat → Int32} {R : Nat → Tm} (h : SL (d 1) 0 R) {i : Nat} (hi : i < 6) (hk : Tok (R i)) {x : Int32} (hx : x = nI i := by rfl) : ∃ d', RW d' (R i) ∧ DV d' (R i) ∧ mx [6, 7, 9] [8] d d' ∧ ∀ (K : Option Value → mM → Prop), go S 87 0 [.ref 20, .int x] [] (mk c (md d)) K = K none (mk c (md d')) := by
  subst hx
  have hl := hk.2
  obtain ⟨h1, h2⟩ := h i hi
  rw [Nat.zero_add] at h1
  have g0 : ∀ K, go S 83 0 [.ref 21, .int (6 + 200 * nI i), .ref 26, .int 0, .int (nI (R i).length), .null] [] (mk c (md (ca d 0 (upd (d 0) 8 (nI (R i).length))))) K = K none (mk c (md (ca (ca d 0 (upd (d 0) 8 (nI (R i).length))) 6 (va_cpy (d 1) (d 6) (6 + 200 * i) 0 (R i).length)))) := fun K => by
    have g := n_moves (S := S) (F := fun g => mk c (md (ca (ca d 0 (upd (d 0) 8 (nI (R i).length))) 6 g))) (a := 21) (b := 26) (f := d 1) (fun g => rfl) (fun g => rfl) (fun g g' => by
      show mk c (md (ca (ca (ca d 0 (upd (d 0) 8 (nI (R i).length))) 6 g) 6 g')) = _
      rw [ca_ca]) (by decide) (by decide) (p := 6 + 200 * i) (q := 0) (w := (R i).length) (by omega) (by omega) (d 6) K (x := 6 + 200 * nI i) (y := 0) (hx := by rw [l_6, l_200, pk_mul, nI_add])
    have e : ca (ca d 0 (upd (d 0) 8 (nI (R i).length))) 6 (d 6) = ca d 0 (upd (d 0) 8 (nI (R i).length)) := ca_self (ca d 0 (upd (d 0) 8 (nI (R i).length))) 6
    simp only [e] at g
    exact g
  have r1 : RW (ca (ca d 0 (upd (d 0) 8 (nI (R i).length))) 6 (va_cpy (d 1) (d 6) (6 + 200 * i) 0 (R i).length)) (R i) := by
    refine ⟨by rw [ca_ne (by decide), ca_eq, upd_eq], fun p hp => ?_⟩
    rw [ca_eq, pk_cpy_in (by omega) (by omega), Nat.sub_zero]
    have := h2 p hp
    rw [Nat.zero_add] at this
    exact this
  obtain ⟨d', b1, b2, b3⟩ := n_deps (S := S) (c := c) hk r1
  refine ⟨d', r1.mx b2 (by simp) (by simp), b1, mx_tr (mx_tr (mx_u (by simp)) (mx_ca (by simp) (by decide))) (mx_up b2 (by simp) (by simp)), fun K => ?_⟩
  simp only [↓g87_0, ↓g87_1, ↓g87_2, ↓g87_5, ↓g87_6, ↓g87_7, ↓g87_10, ↓g87_11, ↓g87_14, ↓g87_16, ↓g87_19, ↓g87_20, ↓g87_21, ↓g87_22, ↓g87_23, ↓g87_26, ↓g87_27, ↓g87_28, ↓g87_31, ↓g87_34, ↓g87_35, ↓g87_38, ↓mo_20, ↓mf_20_0, ↓mf_20_1, ↓mp_20_2, ↓mf_20_2, ↓mf_20_3, ↓mf_20_4, ↓mf_20_5, ↓mp_20_6, ↓mf_20_6, ↓mf_20_7, ↓mp_20_8, ↓mf_20_8, ↓mf_20_9, ↓mf_20_10, ↓mp_20_11, ↓mf_20_11, ↓mf_20_12, ↓mf_20_13, ↓mp_20_14, ↓mf_20_14, ↓mf_20_15, ↓mp_20_16, ↓mf_20_16, ↓ma_21, ↓ms_21, ↓ma_22, ↓ms_22, ↓ma_23, ↓ms_23, ↓ma_24, ↓ms_24, ↓ma_25, ↓ms_25, ↓ma_26, ↓ms_26, ↓ma_27, ↓ms_27, ↓ma_28, ↓ms_28, ↓ma_29, ↓ms_29, ↓ma_30, ↓ms_30, ↓ma_31, ↓ms_31, ↓bnd_some, ↓cond_true, ↓m_pv_none, ↓m_pv_some, m_b01_0, m_b01_1, true_and, and_true, eq_self, ib (show i < 1206 by omega), nI_clamp (show i < 2 ^ 31 by omega), h1, cz_1, cz_2, cz_3, cz_4, cz_5, cz_6, cz_7, cz_8, cz_9, cz_10, cz_11, cn_1, cn_2, cn_3, cn_4, cn_5, cn_6, cn_7, cn_8, cn_9, cn_10, cn_11, un_2_6, un_2_8, un_2_11, un_2_14, un_2_16, un_6_2, un_6_8, un_6_11, un_6_14, un_6_16, un_8_2, un_8_6, un_8_11, un_8_14, un_8_16, un_11_2, un_11_6, un_11_8, un_11_14, un_11_16, un_14_2, un_14_6, un_14_8, un_14_11, un_14_16, un_16_2, un_16_6, un_16_8, un_16_11, un_16_14, ca_eq, upd_eq, ↓g0, ↓b3]
/-- what store makes of the state's row -/
def stf (f row : Nat → Int32) (i m k : Nat) : Nat → Int32 := fun j => if 6 + 200 * i ≤ j ∧ j < 6 + 200 * i + k then (if j - (6 + 200 * i) < m then row (j - (6 + 200 * i)) else 0) else f j
theorem stf_in {f row : Nat → Int32} {i m k j : Nat} (h : j < k) : stf f row i m k (6 + 200 * i + j) = if j < m then row j else 0 := by
  unfold stf
  rw [if_pos ⟨Nat.le_add_right _ _, Nat.add_lt_add_left h _⟩, Nat.add_sub_cancel_left]
theorem stf_out {f row : Nat → Int32} {i m k j : Nat} (h : ¬ (6 + 200 * i ≤ j ∧ j < 6 + 200 * i + k)) : stf f row i m k j = f j := if_neg h
theorem n_storeL {i : Nat} (hi : i < 6) (hl : l.length ≤ 200) (f : Nat → Int32) {d : Nat → Nat → Int32} (h : RW d l) : ∀ (n k : Nat), n + k = 200 → ∀ (K : Option Value → mM → Prop), go S 88 12 [.ref 20, .int (nI i), .int (nI k)] [] (mk c (md (ca d 1 (stf f (d 6) i l.length k)))) K = K none (mk c (md (ca d 1 (stf f (d 6) i l.length 200))))
  | 0, k, hn, K => by
    have e : k = 200 := by omega
    subst e
    rw [g88_12]
    simp only [↓g88_0, ↓g88_1, ↓g88_4, ↓g88_5, ↓g88_6, ↓g88_9, ↓g88_10, ↓g88_11, ↓g88_13, ↓g88_16, ↓g88_19, ↓g88_20, ↓g88_23, ↓g88_25, ↓g88_28, ↓g88_29, ↓g88_30, ↓g88_31, ↓g88_32, ↓g88_33, ↓g88_34, ↓g88_35, ↓g88_38, ↓g88_41, ↓g88_42, ↓g88_45, ↓g88_46, ↓g88_47, ↓g88_50, ↓g88_51, ↓g88_52, ↓g88_55, ↓g88_58, show (200 : Int32) ≤ nI 200 from Int32.le_refl _, ↓reduceIte]
  | n + 1, k, hn, K => by
    have e1 : ¬ (200 : Int32) ≤ nI k := nI_ge (b := 200) (by omega) (by decide)
    have e2 : (6 : Int32) + 200 * nI i + nI k = nI (6 + 200 * i + k) := by rw [l_6, l_200, pk_mul, nI_add, nI_add]
    have e3 : (nI l.length ≤ nI k) ↔ l.length ≤ k := nI_leI (by omega) (by omega)
    have e6 : ∀ v, v = (if k < l.length then d 6 k else (0 : Int32)) → upd (stf f (d 6) i l.length k) (6 + 200 * i + k) v = stf f (d 6) i l.length (k + 1) := fun v hv => by
      subst hv
      funext j
      by_cases e : j = 6 + 200 * i + k
      · subst e
        rw [upd_eq, stf_in (Nat.lt_succ_self k)]
      · rw [upd_ne e]
        by_cases q : 6 + 200 * i ≤ j ∧ j < 6 + 200 * i + k
        · obtain ⟨u, rfl⟩ := Nat.exists_eq_add_of_le q.1
          rw [stf_in (by omega), stf_in (by omega)]
        · rw [stf_out q, stf_out (by omega)]
    have ih := n_storeL hi hl f h n (k + 1) (by omega) K
    have i1 := ib (show 6 + 200 * i + k < 1206 by omega)
    have i2 := nI_clamp (show 6 + 200 * i + k < 2 ^ 31 by omega)
    have i3 := ib (show k < 200 by omega)
    have i4 := nI_clamp (show k < 2 ^ 31 by omega)
    rw [g88_12]
    simp only [↓g88_0, ↓g88_1, ↓g88_4, ↓g88_5, ↓g88_6, ↓g88_9, ↓g88_10, ↓g88_11, ↓g88_13, ↓g88_16, ↓g88_19, ↓g88_20, ↓g88_23, ↓g88_25, ↓g88_28, ↓g88_29, ↓g88_30, ↓g88_31, ↓g88_32, ↓g88_33, ↓g88_34, ↓g88_35, ↓g88_38, ↓g88_41, ↓g88_42, ↓g88_45, ↓g88_46, ↓g88_47, ↓g88_50, ↓g88_51, ↓g88_52, ↓g88_55, ↓g88_58, ↓mo_20, ↓mf_20_0, ↓mf_20_1, ↓mp_20_2, ↓mf_20_2, ↓mf_20_3, ↓mf_20_4, ↓mf_20_5, ↓mp_20_6, ↓mf_20_6, ↓mf_20_7, ↓mp_20_8, ↓mf_20_8, ↓mf_20_9, ↓mf_20_10, ↓mp_20_11, ↓mf_20_11, ↓mf_20_12, ↓mf_20_13, ↓mp_20_14, ↓mf_20_14, ↓mf_20_15, ↓mp_20_16, ↓mf_20_16, ↓ma_21, ↓ms_21, ↓ma_22, ↓ms_22, ↓ma_23, ↓ms_23, ↓ma_24, ↓ms_24, ↓ma_25, ↓ms_25, ↓ma_26, ↓ms_26, ↓ma_27, ↓ms_27, ↓ma_28, ↓ms_28, ↓ma_29, ↓ms_29, ↓ma_30, ↓ms_30, ↓ma_31, ↓ms_31, ↓bnd_some, ↓cond_true, ↓m_pv_none, ↓m_pv_some, m_b01_0, m_b01_1, true_and, and_true, eq_self, cz_1, h.1, e1, e2, e3, ↓reduceIte]
    by_cases z : l.length ≤ k
    · rw [if_pos z]
      simp only [i1, i2, e6 0 (by rw [if_neg (by omega)]), true_and, nI_1, ca_ca, ca_eq]
      exact ih
    · rw [if_neg z]
      simp only [↓g88_0, ↓g88_1, ↓g88_4, ↓g88_5, ↓g88_6, ↓g88_9, ↓g88_10, ↓g88_11, ↓g88_13, ↓g88_16, ↓g88_19, ↓g88_20, ↓g88_23, ↓g88_25, ↓g88_28, ↓g88_29, ↓g88_30, ↓g88_31, ↓g88_32, ↓g88_33, ↓g88_34, ↓g88_35, ↓g88_38, ↓g88_41, ↓g88_42, ↓g88_45, ↓g88_46, ↓g88_47, ↓g88_50, ↓g88_51, ↓g88_52, ↓g88_55, ↓g88_58, ↓mo_20, ↓mf_20_0, ↓mf_20_1, ↓mp_20_2, ↓mf_20_2, ↓mf_20_3, ↓mf_20_4, ↓mf_20_5, ↓mp_20_6, ↓mf_20_6, ↓mf_20_7, ↓mp_20_8, ↓mf_20_8, ↓mf_20_9, ↓mf_20_10, ↓mp_20_11, ↓mf_20_11, ↓mf_20_12, ↓mf_20_13, ↓mp_20_14, ↓mf_20_14, ↓mf_20_15, ↓mp_20_16, ↓mf_20_16, ↓ma_21, ↓ms_21, ↓ma_22, ↓ms_22, ↓ma_23, ↓ms_23, ↓ma_24, ↓ms_24, ↓ma_25, ↓ms_25, ↓ma_26, ↓ms_26, ↓ma_27, ↓ms_27, ↓ma_28, ↓ms_28, ↓ma_29, ↓ms_29, ↓ma_30, ↓ms_30, ↓ma_31, ↓ms_31, ↓bnd_some, ↓cond_true, ↓m_pv_none, ↓m_pv_some, m_b01_0, m_b01_1, true_and, and_true, eq_self, i1, i2, i3, i4, ca_eq, ca_ne (show (6 : Nat) ≠ 1 by decide), e6 (d 6 k) (by rw [if_pos (by omega)]), nI_1, ca_ca]
      exact ih
end MOD2
