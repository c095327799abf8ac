/-! Rewriter: many steps -/
/-- a step by an order, if one can be done -/
def stp1 (l : Tm) (o : Nat) : Option Tm := match nxt l o with
  | none => none
  | some p => if (rwt l p).length ≤ 200 then some (rwt l p) else none
/-- what comes of at most n steps: how many were done, the most parts, the term -/
def rn (o : Nat) : Nat → Tm → Nat × Nat × Tm
  | 0, l => (0, l.length, l)
  | n + 1, l => match stp1 l o with
    | none => (0, l.length, l)
    | some l' => ((rn o n l').1 + 1, max l.length (rn o n l').2.1, (rn o n l').2.2)
theorem cnd_red {l : Tm} {o p : Nat} (h : cnd l o p = true) : red l p = true := by
  unfold cnd at h
  split at h
  · unfold inn at h
    simp only [decide_eq_true_eq] at h
    exact h.1
  · simp only [Bool.and_eq_true] at h
    exact h.1
theorem nxt_red {l : Tm} {o p : Nat} (h : nxt l o = some p) : p < l.length ∧ red l p = true := by
  obtain ⟨h1, h2, -⟩ := fst_lt h
  exact ⟨h1, cnd_red h2⟩
def Tok (l : Tm) : Prop := WF l ∧ l.length ≤ 200
theorem stp1_ok {l l' : Tm} {o : Nat} (h : Tok l) (hs : stp1 l o = some l') : Tok l' := by
  unfold stp1 at hs
  cases hn : nxt l o with
  | none => rw [hn] at hs; cases hs
  | some p =>
    rw [hn] at hs
    simp only at hs
    obtain ⟨h1, h2⟩ := nxt_red hn
    split at hs
    · rename_i h3
      cases hs
      exact ⟨rwt_ok h.1 h1 h2, h3⟩
    · cases hs
theorem rn_ok {o : Nat} : ∀ {n : Nat} {l : Tm}, Tok l → Tok (rn o n l).2.2 ∧ (rn o n l).1 ≤ n ∧ l.length ≤ (rn o n l).2.1 ∧ (rn o n l).2.1 ≤ 200
  | 0, l, h => ⟨h, Nat.le_refl _, Nat.le_refl _, h.2⟩
  | n + 1, l, h => by
    unfold rn
    cases hs : stp1 l o with
    | none => exact ⟨h, Nat.zero_le _, Nat.le_refl _, h.2⟩
    | some l' =>
      have h1 := stp1_ok h hs
      obtain ⟨i1, i2, i3, i4⟩ := rn_ok (o := o) (n := n) h1
      simp only
      have h3 := h.2
      refine ⟨i1, by omega, Nat.le_max_left _ _, ?_⟩
      exact Nat.max_le.mpr ⟨h3, i4⟩
theorem nbI_none {o : Option Nat} (h : ∀ x, o = some x → x < 200) : nbI o = -6 ↔ o = none := by
  cases o with
  | none => exact ⟨fun _ => rfl, fun _ => rfl⟩
  | some x =>
    have := h x rfl
    constructor
    · intro z
      have z2 := congrArg Int32.toInt (show nI x = -6 from z)
      rw [nI_toInt (by omega)] at z2
      have e6 : (-6 : Int32).toInt = -6 := by decide
      omega
    · intro z
      cases z
theorem nxt_lt {l : Tm} (h : l.length ≤ 200) {o : Nat} : ∀ x, nxt l o = some x → x < 200 := fun x hx => by
  have := (nxt_red hx).1
  omega
section ST
variable {S : mS} {t : mM} {v : Nat}
theorem w_end (hv : v < 56) {c : Nat → Nat → Int32} {T : Nat → Tm} {o : Nat} (ho : o < 3) (h : CS c T) (hs : SV c v (T v)) (hw : Tok (T v)) (K : Option Value → mM → Prop) (a1 a3 a4 a5 : Value) : go S 12 115 [.ref 13, a1, .int (nI o), a3, a4, a5] [] (mk c t) K = K (some (.int (if nxt (T v) o = none then 1 else 0))) (mk c t) := by
  have g1 := u_next (S := S) (t := t) h hs hw.1 ho
  have e1 := nbI_none (nxt_lt hw.2 (o := o))
  simp only [↓g12_0, ↓g12_1, ↓g12_2, ↓g12_5, ↓g12_6, ↓g12_7, ↓g12_10, ↓g12_11, ↓g12_14, ↓g12_17, ↓g12_18, ↓g12_21, ↓g12_22, ↓g12_25, ↓g12_26, ↓g12_30, ↓g12_31, ↓g12_34, ↓g12_35, ↓g12_38, ↓g12_39, ↓g12_42, ↓g12_44, ↓g12_46, ↓g12_48, ↓g12_51, ↓g12_52, ↓g12_54, ↓g12_57, ↓g12_60, ↓g12_63, ↓g12_66, ↓g12_67, ↓g12_69, ↓g12_72, ↓g12_73, ↓g12_76, ↓g12_77, ↓g12_80, ↓g12_81, ↓g12_82, ↓g12_85, ↓g12_86, ↓g12_87, ↓g12_90, ↓g12_91, ↓g12_92, ↓g12_95, ↓g12_96, ↓g12_99, ↓g12_100, ↓g12_103, ↓g12_106, ↓g12_109, ↓g12_112, ↓g12_115, ↓g12_116, ↓g12_119, ↓g12_120, ↓g12_123, ↓g12_125, ↓g12_128, ↓g12_129, ↓g12_132, ↓g12_133, ↓mo_0, ↓mf_0_0, ↓mf_0_1, ↓mf_0_2, ↓mf_0_3, ↓mf_0_4, ↓mo_1, ↓mf_1_0, ↓mf_1_1, ↓mo_2, ↓mf_2_0, ↓mo_4, ↓mf_4_0, ↓mo_6, ↓mf_6_0, ↓mf_6_1, ↓mf_6_2, ↓mf_6_3, ↓mp_6_4, ↓mf_6_4, ↓mp_6_5, ↓mf_6_5, ↓mo_7, ↓mf_7_0, ↓mo_9, ↓mf_9_0, ↓mo_11, ↓mf_11_0, ↓mo_13, ↓mf_13_0, ↓mf_13_1, ↓mp_13_2, ↓mf_13_2, ↓mp_13_3, ↓mf_13_3, ↓mo_14, ↓mf_14_0, ↓mp_14_1, ↓mf_14_1, ↓mp_14_2, ↓mf_14_2, ↓mo_15, ↓mf_15_0, ↓mf_15_1, ↓mp_15_2, ↓mf_15_2, ↓mo_16, ↓mf_16_0, ↓mo_18, ↓mf_18_0, ↓ma_3, ↓ms_3, ↓ma_5, ↓ms_5, ↓ma_8, ↓ms_8, ↓ma_10, ↓ms_10, ↓ma_12, ↓ms_12, ↓ma_17, ↓ms_17, ↓ma_19, ↓ms_19, ↓bnd_some, ↓cond_true, ↓m_pv_none, ↓m_pv_some, m_b01_0, m_b01_1, true_and, and_true, ↓g1, e1]
  split <;> simp only [↓g12_0, ↓g12_1, ↓g12_2, ↓g12_5, ↓g12_6, ↓g12_7, ↓g12_10, ↓g12_11, ↓g12_14, ↓g12_17, ↓g12_18, ↓g12_21, ↓g12_22, ↓g12_25, ↓g12_26, ↓g12_30, ↓g12_31, ↓g12_34, ↓g12_35, ↓g12_38, ↓g12_39, ↓g12_42, ↓g12_44, ↓g12_46, ↓g12_48, ↓g12_51, ↓g12_52, ↓g12_54, ↓g12_57, ↓g12_60, ↓g12_63, ↓g12_66, ↓g12_67, ↓g12_69, ↓g12_72, ↓g12_73, ↓g12_76, ↓g12_77, ↓g12_80, ↓g12_81, ↓g12_82, ↓g12_85, ↓g12_86, ↓g12_87, ↓g12_90, ↓g12_91, ↓g12_92, ↓g12_95, ↓g12_96, ↓g12_99, ↓g12_100, ↓g12_103, ↓g12_106, ↓g12_109, ↓g12_112, ↓g12_115, ↓g12_116, ↓g12_119, ↓g12_120, ↓g12_123, ↓g12_125, ↓g12_128, ↓g12_129, ↓g12_132, ↓g12_133, ↓mo_0, ↓mf_0_0, ↓mf_0_1, ↓mf_0_2, ↓mf_0_3, ↓mf_0_4, ↓mo_1, ↓mf_1_0, ↓mf_1_1, ↓mo_2, ↓mf_2_0, ↓mo_4, ↓mf_4_0, ↓mo_6, ↓mf_6_0, ↓mf_6_1, ↓mf_6_2, ↓mf_6_3, ↓mp_6_4, ↓mf_6_4, ↓mp_6_5, ↓mf_6_5, ↓mo_7, ↓mf_7_0, ↓mo_9, ↓mf_9_0, ↓mo_11, ↓mf_11_0, ↓mo_13, ↓mf_13_0, ↓mf_13_1, ↓mp_13_2, ↓mf_13_2, ↓mp_13_3, ↓mf_13_3, ↓mo_14, ↓mf_14_0, ↓mp_14_1, ↓mf_14_1, ↓mp_14_2, ↓mf_14_2, ↓mo_15, ↓mf_15_0, ↓mf_15_1, ↓mp_15_2, ↓mf_15_2, ↓mo_16, ↓mf_16_0, ↓mo_18, ↓mf_18_0, ↓ma_3, ↓ms_3, ↓ma_5, ↓ms_5, ↓ma_8, ↓ms_8, ↓ma_10, ↓ms_10, ↓ma_12, ↓ms_12, ↓ma_17, ↓ms_17, ↓ma_19, ↓ms_19, ↓bnd_some, ↓cond_true, ↓m_pv_none, ↓m_pv_some, m_b01_0, m_b01_1, true_and, and_true]
theorem w_stepsL (hv : v < 56) {o : Nat} (ho : o < 3) : ∀ (n k N s g : Nat) (c : Nat → Nat → Int32) (T : Nat → Tm), n + k = N → N ≤ 200 → (T v).length ≤ g → g ≤ 200 → CS c T → SV c v (T v) → Tok (T v) → c 13 2 = nI s → c 13 3 = nI g → ∃ c' T', CS c' T' ∧ te T' (tu T v (rn o n (T v)).2.2) ∧ SV c' v (rn o n (T v)).2.2 ∧ sx [3, 5, 6, 8, 10, 12, 13] c c' ∧ c' 13 2 = nI (s + (rn o n (T v)).1) ∧ c' 13 3 = nI (max g (rn o n (T v)).2.1) ∧ ∀ (K : Option Value → mM → Prop) (j5 : Value), go S 12 28 [.ref 13, .int (nI v), .int (nI o), .int (nI N), .int (nI k), j5] [] (mk c t) K = K (some (.int (if nxt (rn o n (T v)).2.2 o = none then 1 else 0))) (mk c' t)
  | 0, k, N, s, g, c, T, hk, hN, hg, hg200, h, hs, hw, h2, h3 => by
    have e : N = k := by omega
    subst e
    refine ⟨c, T, h, fun j hj => ?_, hs, sx_rf, ?_, ?_, fun K j5 => ?_⟩
    · show T j = tu T v (T v) j
      by_cases e : j = v
      · subst e; rw [tu_eq]
      · rw [tu_ne e]
    · exact h2
    · rw [h3]
      congr 1
      exact (Nat.max_eq_left hg).symm
    · have g1 := w_end (S := S) (t := t) hv ho h hs hw
      rw [g12_28]
      simp only [↓g12_0, ↓g12_1, ↓g12_2, ↓g12_5, ↓g12_6, ↓g12_7, ↓g12_10, ↓g12_11, ↓g12_14, ↓g12_17, ↓g12_18, ↓g12_21, ↓g12_22, ↓g12_25, ↓g12_26, ↓g12_30, ↓g12_31, ↓g12_34, ↓g12_35, ↓g12_38, ↓g12_39, ↓g12_42, ↓g12_44, ↓g12_46, ↓g12_48, ↓g12_51, ↓g12_52, ↓g12_54, ↓g12_57, ↓g12_60, ↓g12_63, ↓g12_66, ↓g12_67, ↓g12_69, ↓g12_72, ↓g12_73, ↓g12_76, ↓g12_77, ↓g12_80, ↓g12_81, ↓g12_82, ↓g12_85, ↓g12_86, ↓g12_87, ↓g12_90, ↓g12_91, ↓g12_92, ↓g12_95, ↓g12_96, ↓g12_99, ↓g12_100, ↓g12_103, ↓g12_106, ↓g12_109, ↓g12_112, ↓g12_116, ↓g12_119, ↓g12_120, ↓g12_123, ↓g12_125, ↓g12_128, ↓g12_129, ↓g12_132, ↓g12_133, ↓mo_0, ↓mf_0_0, ↓mf_0_1, ↓mf_0_2, ↓mf_0_3, ↓mf_0_4, ↓mo_1, ↓mf_1_0, ↓mf_1_1, ↓mo_2, ↓mf_2_0, ↓mo_4, ↓mf_4_0, ↓mo_6, ↓mf_6_0, ↓mf_6_1, ↓mf_6_2, ↓mf_6_3, ↓mp_6_4, ↓mf_6_4, ↓mp_6_5, ↓mf_6_5, ↓mo_7, ↓mf_7_0, ↓mo_9, ↓mf_9_0, ↓mo_11, ↓mf_11_0, ↓mo_13, ↓mf_13_0, ↓mf_13_1, ↓mp_13_2, ↓mf_13_2, ↓mp_13_3, ↓mf_13_3, ↓mo_14, ↓mf_14_0, ↓mp_14_1, ↓mf_14_1, ↓mp_14_2, ↓mf_14_2, ↓mo_15, ↓mf_15_0, ↓mf_15_1, ↓mp_15_2, ↓mf_15_2, ↓mo_16, ↓mf_16_0, ↓mo_18, ↓mf_18_0, ↓ma_3, ↓ms_3, ↓ma_5, ↓ms_5, ↓ma_8, ↓ms_8, ↓ma_10, ↓ms_10, ↓ma_12, ↓ms_12, ↓ma_17, ↓ms_17, ↓ma_19, ↓ms_19, ↓bnd_some, ↓cond_true, ↓m_pv_none, ↓m_pv_some, m_b01_0, m_b01_1, true_and, and_true, Int32.le_refl, if_true]
      exact g1 K _ _ _ _
  | n + 1, k, N, s, g, c, T, hk, hN, hg, hg200, h, hs, hw, h2, h3 => by
    have e1 : ¬ nI N ≤ nI k := nI_ge (by omega) (by omega)
    have g1 := u_next (S := S) (t := t) h hs hw.1 ho
    have e2 := nbI_none (nxt_lt hw.2 (o := o))
    have stop : ∀ (a4 a5 : Value), stp1 (T v) o = none → ∃ c' T', CS c' T' ∧ te T' (tu T v (rn o (n + 1) (T v)).2.2) ∧ SV c' v (rn o (n + 1) (T v)).2.2 ∧ sx [3, 5, 6, 8, 10, 12, 13] c c' ∧ c' 13 2 = nI (s + (rn o (n + 1) (T v)).1) ∧ c' 13 3 = nI (max g (rn o (n + 1) (T v)).2.1) ∧ ∀ (K : Option Value → mM → Prop) (a4 a5 : Value), go S 12 115 [.ref 13, .int (nI v), .int (nI o), .int (nI N), a4, a5] [] (mk c t) K = K (some (.int (if nxt (rn o (n + 1) (T v)).2.2 o = none then 1 else 0))) (mk c' t) := fun a4 a5 hst => by
      have er : rn o (n + 1) (T v) = (0, (T v).length, T v) := by unfold rn; rw [hst]
      rw [er]
      refine ⟨c, T, h, fun j hj => ?_, hs, sx_rf, h2, ?_, fun K a4 a5 => w_end (S := S) (t := t) hv ho h hs hw K _ _ _ _⟩
      · show T j = tu T v (T v) j
        by_cases e : j = v
        · subst e; rw [tu_eq]
        · rw [tu_ne e]
      · rw [h3]
        congr 1
        exact (Nat.max_eq_left hg).symm
    cases hn : nxt (T v) o with
    | none =>
      obtain ⟨c', T', z1, z2, z3, z4, z5, z6, z7⟩ := stop .null .null (by unfold stp1; rw [hn])
      refine ⟨c', T', z1, z2, z3, z4, z5, z6, fun K j5 => ?_⟩
      rw [g12_28]
      simp only [↓g12_0, ↓g12_1, ↓g12_2, ↓g12_5, ↓g12_6, ↓g12_7, ↓g12_10, ↓g12_11, ↓g12_14, ↓g12_17, ↓g12_18, ↓g12_21, ↓g12_22, ↓g12_25, ↓g12_26, ↓g12_30, ↓g12_31, ↓g12_34, ↓g12_35, ↓g12_38, ↓g12_39, ↓g12_42, ↓g12_44, ↓g12_46, ↓g12_48, ↓g12_51, ↓g12_52, ↓g12_54, ↓g12_57, ↓g12_60, ↓g12_63, ↓g12_66, ↓g12_67, ↓g12_69, ↓g12_72, ↓g12_73, ↓g12_76, ↓g12_77, ↓g12_80, ↓g12_81, ↓g12_82, ↓g12_85, ↓g12_86, ↓g12_87, ↓g12_90, ↓g12_91, ↓g12_92, ↓g12_95, ↓g12_96, ↓g12_99, ↓g12_100, ↓g12_103, ↓g12_106, ↓g12_109, ↓g12_112, ↓g12_116, ↓g12_119, ↓g12_120, ↓g12_123, ↓g12_125, ↓g12_128, ↓g12_129, ↓g12_132, ↓g12_133, ↓mo_0, ↓mf_0_0, ↓mf_0_1, ↓mf_0_2, ↓mf_0_3, ↓mf_0_4, ↓mo_1, ↓mf_1_0, ↓mf_1_1, ↓mo_2, ↓mf_2_0, ↓mo_4, ↓mf_4_0, ↓mo_6, ↓mf_6_0, ↓mf_6_1, ↓mf_6_2, ↓mf_6_3, ↓mp_6_4, ↓mf_6_4, ↓mp_6_5, ↓mf_6_5, ↓mo_7, ↓mf_7_0, ↓mo_9, ↓mf_9_0, ↓mo_11, ↓mf_11_0, ↓mo_13, ↓mf_13_0, ↓mf_13_1, ↓mp_13_2, ↓mf_13_2, ↓mp_13_3, ↓mf_13_3, ↓mo_14, ↓mf_14_0, ↓mp_14_1, ↓mf_14_1, ↓mp_14_2, ↓mf_14_2, ↓mo_15, ↓mf_15_0, ↓mf_15_1, ↓mp_15_2, ↓mf_15_2, ↓mo_16, ↓mf_16_0, ↓mo_18, ↓mf_18_0, ↓ma_3, ↓ms_3, ↓ma_5, ↓ms_5, ↓ma_8, ↓ms_8, ↓ma_10, ↓ms_10, ↓ma_12, ↓ms_12, ↓ma_17, ↓ms_17, ↓ma_19, ↓ms_19, ↓bnd_some, ↓cond_true, ↓m_pv_none, ↓m_pv_some, m_b01_0, m_b01_1, true_and, and_true, e1, if_false, ↓g1, hn, show nbI none = -6 from rfl, if_true]
      exact z7 K _ _
    | some p =>
      obtain ⟨hp, hr⟩ := nxt_red hn
      have g2 := w_len (S := S) (t := t) h hs hw.1 hp hr
      have hrl := rwt_len hw.1 hp hr
      have hub := us_le (T v) p (en (T v) (p + 1) - (p + 2))
      obtain ⟨r1, r2, r3, -⟩ := red_all hw.1 hp hr
      have hlw := hw.2
      have hbig : (rwt (T v) p).length < 2 ^ 31 := by
        have : us (T v) p (en (T v) (p + 1) - (p + 2)) * (en (T v) p - en (T v) (p + 1)) ≤ 200 * 200 := Nat.mul_le_mul (by omega) (by omega)
        omega
      have e3 : (nI (rwt (T v) p).length ≤ 200) ↔ (rwt (T v) p).length ≤ 200 := nI_leI (b := 200) hbig (by omega)
      have e4 : ¬ nI p = -6 := fun z => by
        have := e2.mp (by rw [hn]; exact z)
        rw [hn] at this
        cases this
      by_cases hst : (rwt (T v) p).length ≤ 200
      · have hs1 : stp1 (T v) o = some (rwt (T v) p) := by unfold stp1; rw [hn]; exact if_pos hst
        obtain ⟨c1, T1, h1, te1, s1, g3⟩ := w_rw (S := S) (t := t) hv hw.1 hp hr hst h hs
        have hT1 : T1 v = rwt (T v) p := by rw [te1 v (by omega), tu_eq]
        have hok1 : Tok (T1 v) := by rw [hT1]; exact stp1_ok hw hs1
        obtain ⟨c2, v2, h2', s2, g4⟩ := q_look (S := S) (t := t) (v := v) (by omega) hok1.1 h1
        have k13 : c2 13 = c 13 := by rw [s2 13 (by simp), s1 13 (by simp)]
        have hsx : sx [3, 5, 6, 8, 10, 12, 13] c c2 := sx_tr (fun k hk => s1 k (by simp at hk ⊢; omega)) (fun k hk => s2 k (by simp at hk ⊢; omega))
        have hcs := h2'.sx (c' := ca (ca c2 13 (upd (c2 13) 2 (nI (s + 1)))) 13 (upd (ca c2 13 (upd (c2 13) 2 (nI (s + 1))) 13) 3 (nI (max g (T1 v).length)))) (ks := [13]) (sx_tr (sx_ca (by simp)) (sx_ca (by simp))) (by simp) (by simp)
        have g5 := q_length (S := S) (t := t) (c := ca c2 13 (upd (c2 13) 2 (nI (s + 1)))) (T := T1) (h2'.sx (ks := [13]) (sx_ca (by simp)) (by simp) (by simp)) (i := v) (by omega)
        obtain ⟨c3, T3, z1, z2, z3, z4, z5, z6, z7⟩ := w_stepsL hv ho n (k + 1) N (s + 1) (max g (T1 v).length) (ca (ca c2 13 (upd (c2 13) 2 (nI (s + 1)))) 13 (upd (ca c2 13 (upd (c2 13) 2 (nI (s + 1))) 13) 3 (nI (max g (T1 v).length)))) T1 (by omega) hN (Nat.le_max_right _ _) (Nat.max_le.mpr ⟨hg200, hok1.2⟩) hcs (v2.sx (ks := [13]) (sx_tr (sx_ca (by simp)) (sx_ca (by simp))) (by simp) (by simp) (by simp) (by simp)) hok1 (by rw [ca_eq, upd_ne (by decide), ca_eq, upd_eq]) (by rw [ca_eq, upd_eq])
        rw [hT1] at z2 z3 z5 z6 z7
        have er : rn o (n + 1) (T v) = ((rn o n (rwt (T v) p)).1 + 1, max (T v).length (rn o n (rwt (T v) p)).2.1, (rn o n (rwt (T v) p)).2.2) := by
          conv => lhs; unfold rn
          rw [hs1]
        rw [er]
        refine ⟨c3, T3, z1, te_tr z2 (fun j hj => ?_), z3, sx_tr hsx (sx_tr (sx_tr (sx_ca (by simp)) (sx_ca (by simp))) z4), ?_, ?_, fun K j5 => ?_⟩
        · by_cases e : j = v
          · subst e; rw [tu_eq, tu_eq]
          · rw [tu_ne e, tu_ne e, te1 j hj, tu_ne e]
        · rw [z5]
          congr 1
          omega
        · rw [z6]
          congr 1
          have hm := (rn_ok (o := o) (n := n) (hT1 ▸ hok1)).2.2.1
          show max (max g (rwt (T v) p).length) _ = max g (max (T v).length _)
          omega
        · have e5 : c2 13 2 + 1 = nI (s + 1) := by rw [k13, h2, nI_1]
          have e6 : c2 13 3 = nI g := by rw [k13, h3]
          have e7 : (if nI g < nI (T1 v).length then nI (T1 v).length else nI g) = nI (max g (T1 v).length) := by
            have h9 := hok1.2
            have e8 := nI_ltI (a := g) (b := (T1 v).length) (by omega) (by omega)
            by_cases hh : g < (T1 v).length
            · rw [if_pos (e8.mpr hh), Nat.max_eq_right (by omega)]
            · rw [if_neg (fun z => hh (e8.mp z)), Nat.max_eq_left (by omega)]
          have e10 : ca c2 13 (upd (c2 13) 2 (nI (s + 1))) 13 3 = nI g := by rw [ca_eq, upd_ne (by decide)]; exact e6
          rw [g12_28]
          simp only [↓g12_0, ↓g12_1, ↓g12_2, ↓g12_5, ↓g12_6, ↓g12_7, ↓g12_10, ↓g12_11, ↓g12_14, ↓g12_17, ↓g12_18, ↓g12_21, ↓g12_22, ↓g12_25, ↓g12_26, ↓g12_30, ↓g12_31, ↓g12_34, ↓g12_35, ↓g12_38, ↓g12_39, ↓g12_42, ↓g12_44, ↓g12_46, ↓g12_48, ↓g12_51, ↓g12_52, ↓g12_54, ↓g12_57, ↓g12_60, ↓g12_63, ↓g12_66, ↓g12_67, ↓g12_69, ↓g12_72, ↓g12_73, ↓g12_76, ↓g12_77, ↓g12_80, ↓g12_81, ↓g12_82, ↓g12_85, ↓g12_86, ↓g12_87, ↓g12_90, ↓g12_91, ↓g12_92, ↓g12_95, ↓g12_96, ↓g12_99, ↓g12_100, ↓g12_103, ↓g12_106, ↓g12_109, ↓g12_112, ↓g12_116, ↓g12_119, ↓g12_120, ↓g12_123, ↓g12_125, ↓g12_128, ↓g12_129, ↓g12_132, ↓g12_133, ↓mo_0, ↓mf_0_0, ↓mf_0_1, ↓mf_0_2, ↓mf_0_3, ↓mf_0_4, ↓mo_1, ↓mf_1_0, ↓mf_1_1, ↓mo_2, ↓mf_2_0, ↓mo_4, ↓mf_4_0, ↓mo_6, ↓mf_6_0, ↓mf_6_1, ↓mf_6_2, ↓mf_6_3, ↓mp_6_4, ↓mf_6_4, ↓mp_6_5, ↓mf_6_5, ↓mo_7, ↓mf_7_0, ↓mo_9, ↓mf_9_0, ↓mo_11, ↓mf_11_0, ↓mo_13, ↓mf_13_0, ↓mf_13_1, ↓mp_13_2, ↓mf_13_2, ↓mp_13_3, ↓mf_13_3, ↓mo_14, ↓mf_14_0, ↓mp_14_1, ↓mf_14_1, ↓mp_14_2, ↓mf_14_2, ↓mo_15, ↓mf_15_0, ↓mf_15_1, ↓mp_15_2, ↓mf_15_2, ↓mo_16, ↓mf_16_0, ↓mo_18, ↓mf_18_0, ↓ma_3, ↓ms_3, ↓ma_5, ↓ms_5, ↓ma_8, ↓ms_8, ↓ma_10, ↓ms_10, ↓ma_12, ↓ms_12, ↓ma_17, ↓ms_17, ↓ma_19, ↓ms_19, ↓bnd_some, ↓cond_true, ↓m_pv_none, ↓m_pv_some, m_b01_0, m_b01_1, true_and, and_true, e1, if_false, ↓g1, hn, show nbI (some p) = nI p from rfl, e4, ↓g2, e3, hst, if_true, ↓g3, ↓g4, e5, ↓g5, e10, e7, nI_1]
          rw [hT1]
          exact z7 K _
      · obtain ⟨c', T', z1, z2, z3, z4, z5, z6, z7⟩ := stop .null .null (by unfold stp1; rw [hn]; exact if_neg hst)
        refine ⟨c', T', z1, z2, z3, z4, z5, z6, fun K j5 => ?_⟩
        rw [g12_28]
        simp only [↓g12_0, ↓g12_1, ↓g12_2, ↓g12_5, ↓g12_6, ↓g12_7, ↓g12_10, ↓g12_11, ↓g12_14, ↓g12_17, ↓g12_18, ↓g12_21, ↓g12_22, ↓g12_25, ↓g12_26, ↓g12_30, ↓g12_31, ↓g12_34, ↓g12_35, ↓g12_38, ↓g12_39, ↓g12_42, ↓g12_44, ↓g12_46, ↓g12_48, ↓g12_51, ↓g12_52, ↓g12_54, ↓g12_57, ↓g12_60, ↓g12_63, ↓g12_66, ↓g12_67, ↓g12_69, ↓g12_72, ↓g12_73, ↓g12_76, ↓g12_77, ↓g12_80, ↓g12_81, ↓g12_82, ↓g12_85, ↓g12_86, ↓g12_87, ↓g12_90, ↓g12_91, ↓g12_92, ↓g12_95, ↓g12_96, ↓g12_99, ↓g12_100, ↓g12_103, ↓g12_106, ↓g12_109, ↓g12_112, ↓g12_116, ↓g12_119, ↓g12_120, ↓g12_123, ↓g12_125, ↓g12_128, ↓g12_129, ↓g12_132, ↓g12_133, ↓mo_0, ↓mf_0_0, ↓mf_0_1, ↓mf_0_2, ↓mf_0_3, ↓mf_0_4, ↓mo_1, ↓mf_1_0, ↓mf_1_1, ↓mo_2, ↓mf_2_0, ↓mo_4, ↓mf_4_0, ↓mo_6, ↓mf_6_0, ↓mf_6_1, ↓mf_6_2, ↓mf_6_3, ↓mp_6_4, ↓mf_6_4, ↓mp_6_5, ↓mf_6_5, ↓mo_7, ↓mf_7_0, ↓mo_9, ↓mf_9_0, ↓mo_11, ↓mf_11_0, ↓mo_13, ↓mf_13_0, ↓mf_13_1, ↓mp_13_2, ↓mf_13_2, ↓mp_13_3, ↓mf_13_3, ↓mo_14, ↓mf_14_0, ↓mp_14_1, ↓mf_14_1, ↓mp_14_2, ↓mf_14_2, ↓mo_15, ↓mf_15_0, ↓mf_15_1, ↓mp_15_2, ↓mf_15_2, ↓mo_16, ↓mf_16_0, ↓mo_18, ↓mf_18_0, ↓ma_3, ↓ms_3, ↓ma_5, ↓ms_5, ↓ma_8, ↓ms_8, ↓ma_10, ↓ms_10, ↓ma_12, ↓ms_12, ↓ma_17, ↓ms_17, ↓ma_19, ↓ms_19, ↓bnd_some, ↓cond_true, ↓m_pv_none, ↓m_pv_some, m_b01_0, m_b01_1, true_and, and_true, e1, if_false, ↓g1, hn, show nbI (some p) = nI p from rfl, e4, ↓g2, e3, hst]
        exact z7 K _ _
theorem w_steps (hv : v < 56) {o : Nat} (ho : o < 3) {n : Nat} (hn : n ≤ 200) {c : Nat → Nat → Int32} {T : Nat → Tm} (h : CS c T) (hw : Tok (T v)) {x y z : Int32} (hx : x = nI v := by rfl) (hy : y = nI o := by rfl) (hz : z = nI n := by rfl) : ∃ c' T', CS c' T' ∧ te T' (tu T v (rn o n (T v)).2.2) ∧ sx [3, 5, 6, 8, 10, 12, 13] c c' ∧ c' 13 2 = nI (rn o n (T v)).1 ∧ c' 13 3 = nI (rn o n (T v)).2.1 ∧ ∀ (K : Option Value → mM → Prop), go S 12 0 [.ref 13, .int x, .int y, .int z, .null, .null] [] (mk c t) K = K (some (.int (if nxt (rn o n (T v)).2.2 o = none then 1 else 0))) (mk c' t) := by
  subst hx; subst hy; subst hz
  have hs13 : sx [13] c (ca (ca c 13 (upd (c 13) 2 0)) 13 (upd (ca c 13 (upd (c 13) 2 0) 13) 3 (nI (T v).length))) := sx_tr (sx_ca (by simp)) (sx_ca (by simp))
  have g0 := q_length (S := S) (t := t) (c := ca c 13 (upd (c 13) 2 0)) (T := T) (h.sx (ks := [13]) (sx_ca (by simp)) (by simp) (by simp)) (i := v) (by omega)
  obtain ⟨c2, v2, h2, s2, g2⟩ := q_look (S := S) (t := t) (v := v) (by omega) hw.1 (h.sx hs13 (by simp) (by simp))
  have k13 : c2 13 = (ca (ca c 13 (upd (c 13) 2 0)) 13 (upd (ca c 13 (upd (c 13) 2 0) 13) 3 (nI (T v).length))) 13 := s2 13 (by simp)
  obtain ⟨c3, T3, z1, z2, z3, z4, z5, z6, z7⟩ := w_stepsL (S := S) (t := t) hv ho n 0 n 0 (T v).length c2 T rfl hn (Nat.le_refl _) hw.2 h2 v2 hw (by rw [k13, ca_eq, upd_ne (by decide), ca_eq, upd_eq]; rfl) (by rw [k13, ca_eq, upd_eq])
  refine ⟨c3, T3, z1, z2, sx_tr (fun k hk => hs13 k (by simp at hk ⊢; omega)) (sx_tr (fun k hk => s2 k (by simp at hk ⊢; omega)) z4), by rw [z5, Nat.zero_add], by rw [z6, Nat.max_eq_right (rn_ok (o := o) (n := n) hw).2.2.1], fun K => ?_⟩
  have e0 : (0 : Int32) = nI 0 := rfl
  simp only [↓g12_0, ↓g12_1, ↓g12_2, ↓g12_5, ↓g12_6, ↓g12_7, ↓g12_10, ↓g12_11, ↓g12_14, ↓g12_17, ↓g12_18, ↓g12_21, ↓g12_22, ↓g12_25, ↓g12_26, ↓g12_30, ↓g12_31, ↓g12_34, ↓g12_35, ↓g12_38, ↓g12_39, ↓g12_42, ↓g12_44, ↓g12_46, ↓g12_48, ↓g12_51, ↓g12_52, ↓g12_54, ↓g12_57, ↓g12_60, ↓g12_63, ↓g12_66, ↓g12_67, ↓g12_69, ↓g12_72, ↓g12_73, ↓g12_76, ↓g12_77, ↓g12_80, ↓g12_81, ↓g12_82, ↓g12_85, ↓g12_86, ↓g12_87, ↓g12_90, ↓g12_91, ↓g12_92, ↓g12_95, ↓g12_96, ↓g12_99, ↓g12_100, ↓g12_103, ↓g12_106, ↓g12_109, ↓g12_112, ↓g12_115, ↓g12_116, ↓g12_119, ↓g12_120, ↓g12_123, ↓g12_125, ↓g12_128, ↓g12_129, ↓g12_132, ↓g12_133, ↓mo_0, ↓mf_0_0, ↓mf_0_1, ↓mf_0_2, ↓mf_0_3, ↓mf_0_4, ↓mo_1, ↓mf_1_0, ↓mf_1_1, ↓mo_2, ↓mf_2_0, ↓mo_4, ↓mf_4_0, ↓mo_6, ↓mf_6_0, ↓mf_6_1, ↓mf_6_2, ↓mf_6_3, ↓mp_6_4, ↓mf_6_4, ↓mp_6_5, ↓mf_6_5, ↓mo_7, ↓mf_7_0, ↓mo_9, ↓mf_9_0, ↓mo_11, ↓mf_11_0, ↓mo_13, ↓mf_13_0, ↓mf_13_1, ↓mp_13_2, ↓mf_13_2, ↓mp_13_3, ↓mf_13_3, ↓mo_14, ↓mf_14_0, ↓mp_14_1, ↓mf_14_1, ↓mp_14_2, ↓mf_14_2, ↓mo_15, ↓mf_15_0, ↓mf_15_1, ↓mp_15_2, ↓mf_15_2, ↓mo_16, ↓mf_16_0, ↓mo_18, ↓mf_18_0, ↓ma_3, ↓ms_3, ↓ma_5, ↓ms_5, ↓ma_8, ↓ms_8, ↓ma_10, ↓ms_10, ↓ma_12, ↓ms_12, ↓ma_17, ↓ms_17, ↓ma_19, ↓ms_19, ↓bnd_some, ↓cond_true, ↓m_pv_none, ↓m_pv_some, m_b01_0, m_b01_1, true_and, and_true, ↓g0, ↓g2]
  exact z7 K _
end ST

