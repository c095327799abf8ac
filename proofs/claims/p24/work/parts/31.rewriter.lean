/-! Rewriter: one place -/
theorem us_le (l : Tm) (p n : Nat) : us l p n ≤ n := cnt_le _ _
theorem mem_bd {l : Tm} {p : Nat} {q : Nat × Nat} : ∀ {N n : Nat}, n < N → q ∈ bp l p (p + 2 + n) → q ∈ bd l p N
  | 0, n, h, _ => absurd h (Nat.not_lt_zero n)
  | N + 1, n, h, hq => by
    rw [bd, List.mem_append]
    by_cases e : n = N
    · subst e
      exact Or.inr hq
    · exact Or.inl (mem_bd (by omega) hq)
theorem mem_agm {l : Tm} {a w : Nat} : ∀ {N n : Nat}, n < N → sh l a w (a + n) ∈ agm l a w N
  | 0, n, h => absurd h (Nat.not_lt_zero n)
  | N + 1, n, h => by
    rw [agm, List.mem_append]
    by_cases e : n = N
    · subst e
      exact Or.inr (List.mem_singleton.mpr rfl)
    · exact Or.inl (mem_agm (by omega))
theorem bd_mono (l : Tm) (p : Nat) : ∀ {N n : Nat}, n ≤ N → (bd l p n).length ≤ (bd l p N).length
  | 0, n, h => by
    have e : n = 0 := by omega
    subst e
    exact Nat.le_refl _
  | N + 1, n, h => by
    by_cases e : n = N + 1
    · subst e
      exact Nat.le_refl _
    · have := bd_mono l p (N := N) (n := n) (by omega)
      rw [bd, List.length_append]
      omega
theorem mem_pt {l : Tm} {q : Nat × Nat} (h : q ∈ l) : ∃ p, p < l.length ∧ pt l p = q := by
  obtain ⟨p, hp, e⟩ := List.mem_iff_getElem.mp h
  refine ⟨p, hp, ?_⟩
  unfold pt
  simp [List.getD_eq_getElem?_getD, hp, e]
theorem wf_small {l : Tm} (h : WF l) (hl : l.length ≤ 200) {q : Nat × Nat} (hq : q ∈ l) : q.1 ≤ 3 ∧ q.2 < 200 := by
  obtain ⟨p, hp, rfl⟩ := mem_pt hq
  have h1 := h.kd hp
  exact ⟨by show kd l p ≤ 3; omega, (nu_lt h hp hl).1⟩
theorem body_dep {l : Tm} (hw : WF l) {p : Nat} (hp : p < l.length) (hr : red l p = true) {i : Nat} (h1 : p + 2 ≤ i) (h2 : i < en l (p + 1)) : dep l p + 1 ≤ dep l i := by
  obtain ⟨r1, r2, r3, r4, r5, r6, r7, r8, r9, r10⟩ := red_all hw hp hr
  obtain ⟨X, s1, s2, s3⟩ := sk_seg hw r7 (i - (p + 2)) i (by omega) (by omega)
  obtain ⟨e, X', rfl⟩ := seg_end s3 (by omega)
  rw [seg_hd s1, ← r8]
  exact s2 e List.mem_cons_self
theorem arg_dep {l : Tm} (hw : WF l) {a : Nat} (ha : a < l.length) {i : Nat} (h1 : a ≤ i) (h2 : i < en l a) : dep l a ≤ dep l i := by
  obtain ⟨X, s1, s2, s3⟩ := sk_seg hw ha (i - a) i (by omega) (by omega)
  obtain ⟨e, X', rfl⟩ := seg_end s3 (by omega)
  rw [seg_hd s1]
  exact s2 e List.mem_cons_self
theorem rwt_len {l : Tm} (hw : WF l) {p : Nat} (hp : p < l.length) (hr : red l p = true) : (rwt l p).length + (en l p - en l (p + 1)) + 2 + us l p (en l (p + 1) - (p + 2)) = l.length + us l p (en l (p + 1) - (p + 2)) * (en l p - en l (p + 1)) := by
  obtain ⟨r1, r2, r3, r4, r5, r6, r7, r8, r9, r10⟩ := red_all hw hp hr
  have h1 := bd_len l p (en l (p + 1) - (p + 2))
  unfold rwt
  rw [List.length_append, List.length_append, List.length_take, List.length_drop]
  omega
section RWR
variable {S : mS} {t : mM} {T : Nat → Tm} {v : Nat} {c : Nat → Nat → Int32}
theorem w_fw (c : Nat → Nat → Int32) (i j : Int32) (K : Option Value → mM → Prop) : go S 16 0 [.ref 13, .int i, .int j] [] (mk c t) K = K (some (.int (rg 200 (c 10) j - rg 200 (c 10) i - 1))) (mk c t) := by
  simp only [↓g16_0, ↓g16_1, ↓g16_4, ↓g16_5, ↓g16_8, ↓g16_9, ↓g16_12, ↓g16_13, ↓g16_16, ↓g16_17, ↓g16_18, ↓g16_19, ↓mo_0, ↓mf_0_0, ↓mf_0_1, ↓mf_0_2, ↓mf_0_3, ↓mf_0_4, ↓mo_1, ↓mf_1_0, ↓mf_1_1, ↓mo_2, ↓mf_2_0, ↓mo_4, ↓mf_4_0, ↓mo_6, ↓mf_6_0, ↓mf_6_1, ↓mf_6_2, ↓mf_6_3, ↓mp_6_4, ↓mf_6_4, ↓mp_6_5, ↓mf_6_5, ↓mo_7, ↓mf_7_0, ↓mo_9, ↓mf_9_0, ↓mo_11, ↓mf_11_0, ↓mo_13, ↓mf_13_0, ↓mf_13_1, ↓mp_13_2, ↓mf_13_2, ↓mp_13_3, ↓mf_13_3, ↓mo_14, ↓mf_14_0, ↓mp_14_1, ↓mf_14_1, ↓mp_14_2, ↓mf_14_2, ↓mo_15, ↓mf_15_0, ↓mf_15_1, ↓mp_15_2, ↓mf_15_2, ↓mo_16, ↓mf_16_0, ↓mo_18, ↓mf_18_0, ↓ma_3, ↓ms_3, ↓ma_5, ↓ms_5, ↓ma_8, ↓ms_8, ↓ma_10, ↓ms_10, ↓ma_12, ↓ms_12, ↓ma_17, ↓ms_17, ↓ma_19, ↓ms_19, ↓bnd_some, ↓cond_true, ↓m_pv_none, ↓m_pv_some, m_b01_0, m_b01_1, true_and, and_true, ↓u_around]
theorem SV.around (hs : SV c v (T v)) (hl : (T v).length ≤ 200) {i : Nat} (hi : i < (T v).length) : rg 200 (c 10) (nI i) = nI (dep (T v) i) := by
  rw [rg_in (by omega) (by decide)]
  exact (hs.2.2.2.2 i hi).1
theorem SV.behind (hs : SV c v (T v)) (hl : (T v).length ≤ 200) {i : Nat} (hi : i < (T v).length) : rg 200 (c 8) (nI i) = nI (en (T v) i) := by
  rw [rg_in (by omega) (by decide)]
  exact hs.2.2.2.1 i hi
theorem wi_eq (hs : SV c v (T v)) (hl : (T v).length ≤ 200) (hw : WF (T v)) {p : Nat} (hp : p < (T v).length) (hr : red (T v) p = true) {i : Nat} (h1 : p + 2 ≤ i) (h2 : i < en (T v) (p + 1)) (h3 : i < (T v).length) : rg 200 (c 10) (nI i) - rg 200 (c 10) (nI p) - 1 = nI (wi (T v) p i) := by
  have hd := body_dep hw hp hr h1 h2
  rw [hs.around hl h3, hs.around hl hp, l_1, pk_sub (by omega), pk_sub (by omega)]
  rfl
theorem w_lenL (h : CS c T) (hs : SV c v (T v)) (hw : WF (T v)) {p : Nat} (hp : p < (T v).length) (hr : red (T v) p = true) : ∀ (n k : Nat), n + k = en (T v) (p + 1) - (p + 2) → ∀ (K : Option Value → mM → Prop) (j4 : Value), go S 13 39 [.ref 13, .int (nI p), .int (nI v), .int (nI (en (T v) (p + 1))), .int (nI (en (T v) p - en (T v) (p + 1))), .int (nI (us (T v) p k)), .int (nI (p + 2 + k))] [] (mk c t) K = K (some (.int (nI (rwt (T v) p).length))) (mk c t)
  | 0, k, hk, K, j4 => by
    obtain ⟨r1, r2, r3, r4, r5, r6, r7, r8, r9, r10⟩ := red_all hw hp hr
    have e : k = en (T v) (p + 1) - (p + 2) := by omega
    have e1 : nI (en (T v) (p + 1)) ≤ nI (p + 2 + k) := by rw [e, show p + 2 + (en (T v) (p + 1) - (p + 2)) = en (T v) (p + 1) by omega]; exact Int32.le_refl _
    have g1 := q_length (S := S) (t := t) h hs.1
    have hl := (h v hs.1).1
    have hR := rwt_len hw hp hr
    rw [← e] at hR
    have hu := us_le (T v) p k
    have e2 : nI (T v).length - 2 - nI (en (T v) p - en (T v) (p + 1)) + nI (us (T v) p k) * (nI (en (T v) p - en (T v) (p + 1)) - 1) = nI (rwt (T v) p).length := by
      have hm : us (T v) p k * (en (T v) p - en (T v) (p + 1) - 1) + us (T v) p k = us (T v) p k * (en (T v) p - en (T v) (p + 1)) := by
        rw [← Nat.mul_succ]
        congr 1
        omega
      rw [l_2, l_1, pk_sub (by omega), pk_sub (by omega), pk_sub (by omega), pk_mul, nI_add]
      congr 1
      omega
    rw [g13_39]
    simp only [↓g13_0, ↓g13_1, ↓g13_4, ↓g13_7, ↓g13_8, ↓g13_9, ↓g13_12, ↓g13_13, ↓g13_14, ↓g13_15, ↓g13_18, ↓g13_19, ↓g13_20, ↓g13_23, ↓g13_24, ↓g13_27, ↓g13_28, ↓g13_29, ↓g13_31, ↓g13_32, ↓g13_34, ↓g13_35, ↓g13_36, ↓g13_37, ↓g13_41, ↓g13_42, ↓g13_45, ↓g13_46, ↓g13_49, ↓g13_50, ↓g13_52, ↓g13_55, ↓g13_58, ↓g13_59, ↓g13_62, ↓g13_63, ↓g13_65, ↓g13_68, ↓g13_69, ↓g13_70, ↓g13_72, ↓g13_75, ↓g13_78, ↓g13_81, ↓g13_84, ↓g13_87, ↓g13_88, ↓g13_91, ↓g13_92, ↓g13_95, ↓g13_96, ↓g13_97, ↓g13_99, ↓g13_100, ↓g13_102, ↓g13_104, ↓g13_105, ↓g13_106, ↓g13_107, ↓g13_108, ↓mo_0, ↓mf_0_0, ↓mf_0_1, ↓mf_0_2, ↓mf_0_3, ↓mf_0_4, ↓mo_1, ↓mf_1_0, ↓mf_1_1, ↓mo_2, ↓mf_2_0, ↓mo_4, ↓mf_4_0, ↓mo_6, ↓mf_6_0, ↓mf_6_1, ↓mf_6_2, ↓mf_6_3, ↓mp_6_4, ↓mf_6_4, ↓mp_6_5, ↓mf_6_5, ↓mo_7, ↓mf_7_0, ↓mo_9, ↓mf_9_0, ↓mo_11, ↓mf_11_0, ↓mo_13, ↓mf_13_0, ↓mf_13_1, ↓mp_13_2, ↓mf_13_2, ↓mp_13_3, ↓mf_13_3, ↓mo_14, ↓mf_14_0, ↓mp_14_1, ↓mf_14_1, ↓mp_14_2, ↓mf_14_2, ↓mo_15, ↓mf_15_0, ↓mf_15_1, ↓mp_15_2, ↓mf_15_2, ↓mo_16, ↓mf_16_0, ↓mo_18, ↓mf_18_0, ↓ma_3, ↓ms_3, ↓ma_5, ↓ms_5, ↓ma_8, ↓ms_8, ↓ma_10, ↓ms_10, ↓ma_12, ↓ms_12, ↓ma_17, ↓ms_17, ↓ma_19, ↓ms_19, ↓bnd_some, ↓cond_true, ↓m_pv_none, ↓m_pv_some, m_b01_0, m_b01_1, true_and, and_true, e1, if_true, ↓g1, e2]
  | n + 1, k, hk, K, j4 => by
    obtain ⟨r1, r2, r3, r4, r5, r6, r7, r8, r9, r10⟩ := red_all hw hp hr
    have hl := (h v hs.1).1
    have hkl : p + 2 + k < (T v).length := by omega
    have e1 : ¬ nI (en (T v) (p + 1)) ≤ nI (p + 2 + k) := nI_ge (by omega) (by omega)
    have g1 := q_kind (S := S) (t := t) h hs.1 hkl
    have g2 := q_number (S := S) (t := t) h hs.1 hkl
    have e2 := wi_eq hs hl hw hp hr (i := p + 2 + k) (by omega) (by omega) hkl
    have hkd := hw.kd hkl
    have e0 : (nI (kd (T v) (p + 2 + k)) = 0) ↔ kd (T v) (p + 2 + k) = 0 := nI_eq (b := 0) (by omega) (by omega)
    have hnu := nu_lt hw hkl hl
    have hd := dep_lt hw hkl hl
    have e3 : (nI (nu (T v) (p + 2 + k)) = nI (wi (T v) p (p + 2 + k))) ↔ nu (T v) (p + 2 + k) = wi (T v) p (p + 2 + k) := nI_eq (by omega) (by unfold wi; omega)
    have ih := w_lenL h hs hw hp hr n (k + 1) (by omega) K j4
    have e5 : us (T v) p (k + 1) = us (T v) p k + (if isU (T v) p (p + 2 + k) = true then 1 else 0) := rfl
    rw [e5] at ih
    rw [g13_39]
    simp only [↓g13_0, ↓g13_1, ↓g13_4, ↓g13_7, ↓g13_8, ↓g13_9, ↓g13_12, ↓g13_13, ↓g13_14, ↓g13_15, ↓g13_18, ↓g13_19, ↓g13_20, ↓g13_23, ↓g13_24, ↓g13_27, ↓g13_28, ↓g13_29, ↓g13_31, ↓g13_32, ↓g13_34, ↓g13_35, ↓g13_36, ↓g13_37, ↓g13_41, ↓g13_42, ↓g13_45, ↓g13_46, ↓g13_49, ↓g13_50, ↓g13_52, ↓g13_55, ↓g13_58, ↓g13_59, ↓g13_62, ↓g13_63, ↓g13_65, ↓g13_68, ↓g13_69, ↓g13_70, ↓g13_72, ↓g13_75, ↓g13_78, ↓g13_81, ↓g13_84, ↓g13_87, ↓g13_88, ↓g13_91, ↓g13_92, ↓g13_95, ↓g13_96, ↓g13_97, ↓g13_99, ↓g13_100, ↓g13_102, ↓g13_104, ↓g13_105, ↓g13_106, ↓g13_107, ↓g13_108, ↓mo_0, ↓mf_0_0, ↓mf_0_1, ↓mf_0_2, ↓mf_0_3, ↓mf_0_4, ↓mo_1, ↓mf_1_0, ↓mf_1_1, ↓mo_2, ↓mf_2_0, ↓mo_4, ↓mf_4_0, ↓mo_6, ↓mf_6_0, ↓mf_6_1, ↓mf_6_2, ↓mf_6_3, ↓mp_6_4, ↓mf_6_4, ↓mp_6_5, ↓mf_6_5, ↓mo_7, ↓mf_7_0, ↓mo_9, ↓mf_9_0, ↓mo_11, ↓mf_11_0, ↓mo_13, ↓mf_13_0, ↓mf_13_1, ↓mp_13_2, ↓mf_13_2, ↓mp_13_3, ↓mf_13_3, ↓mo_14, ↓mf_14_0, ↓mp_14_1, ↓mf_14_1, ↓mp_14_2, ↓mf_14_2, ↓mo_15, ↓mf_15_0, ↓mf_15_1, ↓mp_15_2, ↓mf_15_2, ↓mo_16, ↓mf_16_0, ↓mo_18, ↓mf_18_0, ↓ma_3, ↓ms_3, ↓ma_5, ↓ms_5, ↓ma_8, ↓ms_8, ↓ma_10, ↓ms_10, ↓ma_12, ↓ms_12, ↓ma_17, ↓ms_17, ↓ma_19, ↓ms_19, ↓bnd_some, ↓cond_true, ↓m_pv_none, ↓m_pv_some, m_b01_0, m_b01_1, true_and, and_true, e1, if_false, ↓g1, ↓g2, e0, ↓w_fw, e2, e3, nI_1]
    by_cases h0 : kd (T v) (p + 2 + k) = 0
    · rw [if_pos h0]
      by_cases h1 : nu (T v) (p + 2 + k) = wi (T v) p (p + 2 + k)
      · have hu : isU (T v) p (p + 2 + k) = true := by simp [isU, h0, h1]
        rw [if_pos hu] at ih
        rw [if_pos h1]
        exact ih
      · have hu : ¬ isU (T v) p (p + 2 + k) = true := by simp [isU, h1]
        rw [if_neg hu] at ih
        rw [if_neg h1]
        exact ih
    · have hu : ¬ isU (T v) p (p + 2 + k) = true := by simp [isU, h0]
      rw [if_neg hu] at ih
      rw [if_neg h0]
      exact ih
theorem w_len (h : CS c T) (hs : SV c v (T v)) (hw : WF (T v)) {p : Nat} (hp : p < (T v).length) (hr : red (T v) p = true) (K : Option Value → mM → Prop) : go S 13 0 [.ref 13, .int (nI p), .null, .null, .null, .null, .null] [] (mk c t) K = K (some (.int (nI (rwt (T v) p).length))) (mk c t) := by
  obtain ⟨r1, r2, r3, r4, r5, r6, r7, r8, r9, r10⟩ := red_all hw hp hr
  have hl := (h v hs.1).1
  have g := w_lenL (S := S) (t := t) h hs hw hp hr (en (T v) (p + 1) - (p + 2)) 0 rfl K .null
  have e1 : rg 200 (c 8) (nI p + 1) = nI (en (T v) (p + 1)) := by rw [nI_1]; exact hs.behind hl (by omega)
  have e2 : rg 200 (c 8) (nI p) = nI (en (T v) p) := hs.behind hl hp
  have e3 : nI (en (T v) p) - nI (en (T v) (p + 1)) = nI (en (T v) p - en (T v) (p + 1)) := pk_sub (by omega)
  have e4 : nI p + 2 = nI (p + 2) := by rw [l_2, nI_add]
  simp only [↓g13_0, ↓g13_1, ↓g13_4, ↓g13_7, ↓g13_8, ↓g13_9, ↓g13_12, ↓g13_13, ↓g13_14, ↓g13_15, ↓g13_18, ↓g13_19, ↓g13_20, ↓g13_23, ↓g13_24, ↓g13_27, ↓g13_28, ↓g13_29, ↓g13_31, ↓g13_32, ↓g13_34, ↓g13_35, ↓g13_36, ↓g13_37, ↓g13_41, ↓g13_42, ↓g13_45, ↓g13_46, ↓g13_49, ↓g13_50, ↓g13_52, ↓g13_55, ↓g13_58, ↓g13_59, ↓g13_62, ↓g13_63, ↓g13_65, ↓g13_68, ↓g13_69, ↓g13_70, ↓g13_72, ↓g13_75, ↓g13_78, ↓g13_81, ↓g13_84, ↓g13_87, ↓g13_88, ↓g13_91, ↓g13_92, ↓g13_95, ↓g13_96, ↓g13_97, ↓g13_99, ↓g13_100, ↓g13_102, ↓g13_104, ↓g13_105, ↓g13_106, ↓g13_107, ↓g13_108, ↓mo_0, ↓mf_0_0, ↓mf_0_1, ↓mf_0_2, ↓mf_0_3, ↓mf_0_4, ↓mo_1, ↓mf_1_0, ↓mf_1_1, ↓mo_2, ↓mf_2_0, ↓mo_4, ↓mf_4_0, ↓mo_6, ↓mf_6_0, ↓mf_6_1, ↓mf_6_2, ↓mf_6_3, ↓mp_6_4, ↓mf_6_4, ↓mp_6_5, ↓mf_6_5, ↓mo_7, ↓mf_7_0, ↓mo_9, ↓mf_9_0, ↓mo_11, ↓mf_11_0, ↓mo_13, ↓mf_13_0, ↓mf_13_1, ↓mp_13_2, ↓mf_13_2, ↓mp_13_3, ↓mf_13_3, ↓mo_14, ↓mf_14_0, ↓mp_14_1, ↓mf_14_1, ↓mp_14_2, ↓mf_14_2, ↓mo_15, ↓mf_15_0, ↓mf_15_1, ↓mp_15_2, ↓mf_15_2, ↓mo_16, ↓mf_16_0, ↓mo_18, ↓mf_18_0, ↓ma_3, ↓ms_3, ↓ma_5, ↓ms_5, ↓ma_8, ↓ms_8, ↓ma_10, ↓ms_10, ↓ma_12, ↓ms_12, ↓ma_17, ↓ms_17, ↓ma_19, ↓ms_19, ↓bnd_some, ↓cond_true, ↓m_pv_none, ↓m_pv_some, m_b01_0, m_b01_1, true_and, and_true, ↓u_term, ↓u_behind, hs.2.1, e1, e2, e3, e4, l_0]
  exact g
theorem SV.sx {c' : Nat → Nat → Int32} {l : Tm} {ks : List Nat} (h : SV c v l) (hs : sx ks c c') (h6 : 6 ∉ ks) (h8 : 8 ∉ ks) (h10 : 10 ∉ ks) (h12 : 12 ∉ ks) : SV c' v l := by
  refine ⟨h.1, by rw [hs 6 h6]; exact h.2.1, by rw [hs 6 h6]; exact h.2.2.1, fun p hp => by rw [hs 8 h8]; exact h.2.2.2.1 p hp, fun p hp => ?_⟩
  rw [hs 10 h10, hs 12 h12]
  exact h.2.2.2.2 p hp
theorem w_argL (hv : v < 56) (hw : WF (T v)) {p w : Nat} (hp : p < (T v).length) (hr : red (T v) p = true) (hwl : w < 200) (Y : Tm) (hY : Y.length + (en (T v) p - en (T v) (p + 1)) ≤ 200) (hq : ∀ n, n < en (T v) p - en (T v) (p + 1) → (sh (T v) (en (T v) (p + 1)) w (en (T v) (p + 1) + n)).1 ≤ 3 ∧ (sh (T v) (en (T v) (p + 1)) w (en (T v) (p + 1) + n)).2 < 256) : ∀ (n k : Nat) (c : Nat → Nat → Int32), n + k = en (T v) p - en (T v) (p + 1) → CS c (tu T 56 (Y ++ agm (T v) (en (T v) (p + 1)) w k)) → SV c v (T v) → ∃ c', CS c' (tu T 56 (Y ++ agm (T v) (en (T v) (p + 1)) w (en (T v) p - en (T v) (p + 1)))) ∧ sx [3, 5] c c' ∧ ∀ (K : Option Value → mM → Prop) (j6 j7 j8 : Value), go S 15 30 [.ref 13, .int (nI p), .int (nI w), .int (nI v), .int (nI (en (T v) p)), .int (nI (en (T v) (p + 1) + k)), j6, j7, j8] [] (mk c t) K = K none (mk c' t)
  | 0, k, c, hk, h, hs => by
    obtain ⟨r1, r2, r3, r4, r5, r6, r7, r8, r9, r10⟩ := red_all hw hp hr
    have e : k = en (T v) p - en (T v) (p + 1) := by omega
    have e1 : nI (en (T v) p) ≤ nI (en (T v) (p + 1) + k) := by rw [e, show en (T v) (p + 1) + (en (T v) p - en (T v) (p + 1)) = en (T v) p by omega]; exact Int32.le_refl _
    refine ⟨c, by rw [← e]; exact h, sx_rf, fun K j6 j7 j8 => ?_⟩
    rw [g15_30]
    simp only [↓g15_0, ↓g15_1, ↓g15_4, ↓g15_7, ↓g15_8, ↓g15_9, ↓g15_12, ↓g15_13, ↓g15_16, ↓g15_18, ↓g15_19, ↓g15_22, ↓g15_23, ↓g15_24, ↓g15_25, ↓g15_28, ↓g15_32, ↓g15_34, ↓g15_37, ↓g15_38, ↓g15_41, ↓g15_42, ↓g15_44, ↓g15_47, ↓g15_49, ↓g15_50, ↓g15_53, ↓g15_54, ↓g15_56, ↓g15_59, ↓g15_61, ↓g15_62, ↓g15_65, ↓g15_67, ↓g15_70, ↓g15_71, ↓g15_74, ↓g15_75, ↓g15_78, ↓g15_79, ↓g15_81, ↓g15_83, ↓g15_86, ↓g15_88, ↓g15_90, ↓g15_93, ↓g15_95, ↓g15_96, ↓g15_97, ↓g15_99, ↓g15_100, ↓g15_103, ↓g15_105, ↓g15_107, ↓g15_109, ↓g15_112, ↓g15_115, ↓g15_118, ↓mo_0, ↓mf_0_0, ↓mf_0_1, ↓mf_0_2, ↓mf_0_3, ↓mf_0_4, ↓mo_1, ↓mf_1_0, ↓mf_1_1, ↓mo_2, ↓mf_2_0, ↓mo_4, ↓mf_4_0, ↓mo_6, ↓mf_6_0, ↓mf_6_1, ↓mf_6_2, ↓mf_6_3, ↓mp_6_4, ↓mf_6_4, ↓mp_6_5, ↓mf_6_5, ↓mo_7, ↓mf_7_0, ↓mo_9, ↓mf_9_0, ↓mo_11, ↓mf_11_0, ↓mo_13, ↓mf_13_0, ↓mf_13_1, ↓mp_13_2, ↓mf_13_2, ↓mp_13_3, ↓mf_13_3, ↓mo_14, ↓mf_14_0, ↓mp_14_1, ↓mf_14_1, ↓mp_14_2, ↓mf_14_2, ↓mo_15, ↓mf_15_0, ↓mf_15_1, ↓mp_15_2, ↓mf_15_2, ↓mo_16, ↓mf_16_0, ↓mo_18, ↓mf_18_0, ↓ma_3, ↓ms_3, ↓ma_5, ↓ms_5, ↓ma_8, ↓ms_8, ↓ma_10, ↓ms_10, ↓ma_12, ↓ms_12, ↓ma_17, ↓ms_17, ↓ma_19, ↓ms_19, ↓bnd_some, ↓cond_true, ↓m_pv_none, ↓m_pv_some, m_b01_0, m_b01_1, true_and, and_true, e1, if_true]
  | n + 1, k, c, hk, h, hs => by
    obtain ⟨r1, r2, r3, r4, r5, r6, r7, r8, r9, r10⟩ := red_all hw hp hr
    have hv2 : v ≠ 56 := by omega
    have hTv : tu T 56 (Y ++ agm (T v) (en (T v) (p + 1)) w k) v = T v := tu_ne hv2
    have hl : (T v).length ≤ 200 := by have := (h v hs.1).1; rw [hTv] at this; exact this
    have hkl : en (T v) (p + 1) + k < (T v).length := by omega
    have e1 : ¬ nI (en (T v) p) ≤ nI (en (T v) (p + 1) + k) := nI_ge (by omega) (by omega)
    have g1 := q_kind (S := S) (t := t) (i := v) (p := en (T v) (p + 1) + k) h hs.1 (by rw [hTv]; exact hkl)
    have g2 := q_number (S := S) (t := t) (i := v) (p := en (T v) (p + 1) + k) h hs.1 (by rw [hTv]; exact hkl)
    rw [hTv] at g1 g2
    have hkd := hw.kd hkl
    have hnu := nu_lt hw hkl hl
    have hd := dep_lt hw hkl hl
    have hae := arg_dep hw (show en (T v) (p + 1) < (T v).length by omega) (show en (T v) (p + 1) ≤ en (T v) (p + 1) + k by omega) (by omega)
    rw [r6] at hae
    have e0 : (nI (kd (T v) (en (T v) (p + 1) + k)) = 0) ↔ kd (T v) (en (T v) (p + 1) + k) = 0 := nI_eq (b := 0) (by omega) (by omega)
    have e2 : rg 200 (c 10) (nI (en (T v) (p + 1) + k)) - rg 200 (c 10) (nI p) = nI (dep (T v) (en (T v) (p + 1) + k) - dep (T v) p) := by
      rw [hs.around hl hkl, hs.around hl hp, pk_sub hae]
    have e3 : (nI (nu (T v) (en (T v) (p + 1) + k)) < nI (dep (T v) (en (T v) (p + 1) + k) - dep (T v) p)) ↔ nu (T v) (en (T v) (p + 1) + k) < dep (T v) (en (T v) (p + 1) + k) - dep (T v) p := nI_ltI (by omega) (by omega)
    have e4 : nI (nu (T v) (en (T v) (p + 1) + k)) + nI w = nI (nu (T v) (en (T v) (p + 1) + k) + w) := nI_add _ _
    have hqk := hq k (by omega)
    obtain ⟨c1, h1, s1, g3⟩ := q_append (S := S) (t := t) (i := 56) (k := (sh (T v) (en (T v) (p + 1)) w (en (T v) (p + 1) + k)).1) (n := (sh (T v) (en (T v) (p + 1)) w (en (T v) (p + 1) + k)).2) h (by omega) (by rw [tu_eq, List.length_append, agm_len]; omega) hqk.1 hqk.2
    obtain ⟨c2, h2, s2, g4⟩ := w_argL hv hw hp hr hwl Y hY hq n (k + 1) c1 (by omega) (h1.congr fun j hj => by
      by_cases e : j = 56
      · subst e
        rw [tu_eq, tu_eq, tu_eq, agm, List.append_assoc]
      · rw [tu_ne e, tu_ne e, tu_ne e]) (hs.sx s1 (by simp) (by simp) (by simp) (by simp))
    refine ⟨c2, h2, sx_tr s1 s2, fun K j6 j7 j8 => ?_⟩
    rw [g15_30]
    simp only [↓g15_0, ↓g15_1, ↓g15_4, ↓g15_7, ↓g15_8, ↓g15_9, ↓g15_12, ↓g15_13, ↓g15_16, ↓g15_18, ↓g15_19, ↓g15_22, ↓g15_23, ↓g15_24, ↓g15_25, ↓g15_28, ↓g15_32, ↓g15_34, ↓g15_37, ↓g15_38, ↓g15_41, ↓g15_42, ↓g15_44, ↓g15_47, ↓g15_49, ↓g15_50, ↓g15_53, ↓g15_54, ↓g15_56, ↓g15_59, ↓g15_61, ↓g15_62, ↓g15_65, ↓g15_67, ↓g15_70, ↓g15_71, ↓g15_74, ↓g15_75, ↓g15_78, ↓g15_79, ↓g15_81, ↓g15_83, ↓g15_86, ↓g15_88, ↓g15_90, ↓g15_93, ↓g15_95, ↓g15_96, ↓g15_97, ↓g15_99, ↓g15_100, ↓g15_103, ↓g15_105, ↓g15_107, ↓g15_109, ↓g15_112, ↓g15_115, ↓g15_118, ↓mo_0, ↓mf_0_0, ↓mf_0_1, ↓mf_0_2, ↓mf_0_3, ↓mf_0_4, ↓mo_1, ↓mf_1_0, ↓mf_1_1, ↓mo_2, ↓mf_2_0, ↓mo_4, ↓mf_4_0, ↓mo_6, ↓mf_6_0, ↓mf_6_1, ↓mf_6_2, ↓mf_6_3, ↓mp_6_4, ↓mf_6_4, ↓mp_6_5, ↓mf_6_5, ↓mo_7, ↓mf_7_0, ↓mo_9, ↓mf_9_0, ↓mo_11, ↓mf_11_0, ↓mo_13, ↓mf_13_0, ↓mf_13_1, ↓mp_13_2, ↓mf_13_2, ↓mp_13_3, ↓mf_13_3, ↓mo_14, ↓mf_14_0, ↓mp_14_1, ↓mf_14_1, ↓mp_14_2, ↓mf_14_2, ↓mo_15, ↓mf_15_0, ↓mf_15_1, ↓mp_15_2, ↓mf_15_2, ↓mo_16, ↓mf_16_0, ↓mo_18, ↓mf_18_0, ↓ma_3, ↓ms_3, ↓ma_5, ↓ms_5, ↓ma_8, ↓ms_8, ↓ma_10, ↓ms_10, ↓ma_12, ↓ms_12, ↓ma_17, ↓ms_17, ↓ma_19, ↓ms_19, ↓bnd_some, ↓cond_true, ↓m_pv_none, ↓m_pv_some, m_b01_0, m_b01_1, true_and, and_true, e1, if_false, ↓g1, ↓g2, e0, ↓u_around, e2, e3, e4]
    have g3' : ∀ (K : Option Value → mM → Prop) (x y : Int32), x = nI (sh (T v) (en (T v) (p + 1)) w (en (T v) (p + 1) + k)).1 → y = nI (sh (T v) (en (T v) (p + 1)) w (en (T v) (p + 1) + k)).2 → go S 26 0 [.ref 1, .int 56, .int x, .int y, .null] [] (mk c t) K = K none (mk c1 t) := fun K x y hx hy => by
      rw [hx, hy]
      exact g3 K
    have fin : ∀ (x : Value), go S 15 30 [.ref 13, .int (nI p), .int (nI w), .int (nI v), .int (nI (en (T v) p)), .int (nI (en (T v) (p + 1) + k) + 1), .int (nI (kd (T v) (en (T v) (p + 1) + k))), x, .int (nI (dep (T v) (en (T v) (p + 1) + k) - dep (T v) p))] [] (mk c1 t) K = K none (mk c2 t) := fun x => by
      rw [nI_1]
      exact g4 K _ _ _
    by_cases h0 : kd (T v) (en (T v) (p + 1) + k) = 0
    · rw [if_pos h0]
      by_cases h3 : nu (T v) (en (T v) (p + 1) + k) < dep (T v) (en (T v) (p + 1) + k) - dep (T v) p
      · have hsh : sh (T v) (en (T v) (p + 1)) w (en (T v) (p + 1) + k) = pt (T v) (en (T v) (p + 1) + k) := by
          unfold sh
          rw [if_neg (by rw [r6]; omega)]
        rw [if_pos h3, g3' _ _ _ (by rw [hsh]; rfl) (by rw [hsh]; rfl)]
        simp only [↓g15_0, ↓g15_1, ↓g15_4, ↓g15_7, ↓g15_8, ↓g15_9, ↓g15_12, ↓g15_13, ↓g15_16, ↓g15_18, ↓g15_19, ↓g15_22, ↓g15_23, ↓g15_24, ↓g15_25, ↓g15_28, ↓g15_32, ↓g15_34, ↓g15_37, ↓g15_38, ↓g15_41, ↓g15_42, ↓g15_44, ↓g15_47, ↓g15_49, ↓g15_50, ↓g15_53, ↓g15_54, ↓g15_56, ↓g15_59, ↓g15_61, ↓g15_62, ↓g15_65, ↓g15_67, ↓g15_70, ↓g15_71, ↓g15_74, ↓g15_75, ↓g15_78, ↓g15_79, ↓g15_81, ↓g15_83, ↓g15_86, ↓g15_88, ↓g15_90, ↓g15_93, ↓g15_95, ↓g15_96, ↓g15_97, ↓g15_99, ↓g15_100, ↓g15_103, ↓g15_105, ↓g15_107, ↓g15_109, ↓g15_112, ↓g15_115, ↓g15_118, ↓mo_0, ↓mf_0_0, ↓mf_0_1, ↓mf_0_2, ↓mf_0_3, ↓mf_0_4, ↓mo_1, ↓mf_1_0, ↓mf_1_1, ↓mo_2, ↓mf_2_0, ↓mo_4, ↓mf_4_0, ↓mo_6, ↓mf_6_0, ↓mf_6_1, ↓mf_6_2, ↓mf_6_3, ↓mp_6_4, ↓mf_6_4, ↓mp_6_5, ↓mf_6_5, ↓mo_7, ↓mf_7_0, ↓mo_9, ↓mf_9_0, ↓mo_11, ↓mf_11_0, ↓mo_13, ↓mf_13_0, ↓mf_13_1, ↓mp_13_2, ↓mf_13_2, ↓mp_13_3, ↓mf_13_3, ↓mo_14, ↓mf_14_0, ↓mp_14_1, ↓mf_14_1, ↓mp_14_2, ↓mf_14_2, ↓mo_15, ↓mf_15_0, ↓mf_15_1, ↓mp_15_2, ↓mf_15_2, ↓mo_16, ↓mf_16_0, ↓mo_18, ↓mf_18_0, ↓ma_3, ↓ms_3, ↓ma_5, ↓ms_5, ↓ma_8, ↓ms_8, ↓ma_10, ↓ms_10, ↓ma_12, ↓ms_12, ↓ma_17, ↓ms_17, ↓ma_19, ↓ms_19, ↓bnd_some, ↓cond_true, ↓m_pv_none, ↓m_pv_some, m_b01_0, m_b01_1, true_and, and_true]
        exact fin _
      · have hsh : sh (T v) (en (T v) (p + 1)) w (en (T v) (p + 1) + k) = (0, nu (T v) (en (T v) (p + 1) + k) + w) := by
          unfold sh
          rw [if_pos (by rw [r6]; omega)]
        rw [if_neg h3, g3' _ _ _ (by rw [hsh, h0]) (by rw [hsh])]
        simp only [↓g15_0, ↓g15_1, ↓g15_4, ↓g15_7, ↓g15_8, ↓g15_9, ↓g15_12, ↓g15_13, ↓g15_16, ↓g15_18, ↓g15_19, ↓g15_22, ↓g15_23, ↓g15_24, ↓g15_25, ↓g15_28, ↓g15_32, ↓g15_34, ↓g15_37, ↓g15_38, ↓g15_41, ↓g15_42, ↓g15_44, ↓g15_47, ↓g15_49, ↓g15_50, ↓g15_53, ↓g15_54, ↓g15_56, ↓g15_59, ↓g15_61, ↓g15_62, ↓g15_65, ↓g15_67, ↓g15_70, ↓g15_71, ↓g15_74, ↓g15_75, ↓g15_78, ↓g15_79, ↓g15_81, ↓g15_83, ↓g15_86, ↓g15_88, ↓g15_90, ↓g15_93, ↓g15_95, ↓g15_96, ↓g15_97, ↓g15_99, ↓g15_100, ↓g15_103, ↓g15_105, ↓g15_107, ↓g15_109, ↓g15_112, ↓g15_115, ↓g15_118, ↓mo_0, ↓mf_0_0, ↓mf_0_1, ↓mf_0_2, ↓mf_0_3, ↓mf_0_4, ↓mo_1, ↓mf_1_0, ↓mf_1_1, ↓mo_2, ↓mf_2_0, ↓mo_4, ↓mf_4_0, ↓mo_6, ↓mf_6_0, ↓mf_6_1, ↓mf_6_2, ↓mf_6_3, ↓mp_6_4, ↓mf_6_4, ↓mp_6_5, ↓mf_6_5, ↓mo_7, ↓mf_7_0, ↓mo_9, ↓mf_9_0, ↓mo_11, ↓mf_11_0, ↓mo_13, ↓mf_13_0, ↓mf_13_1, ↓mp_13_2, ↓mf_13_2, ↓mp_13_3, ↓mf_13_3, ↓mo_14, ↓mf_14_0, ↓mp_14_1, ↓mf_14_1, ↓mp_14_2, ↓mf_14_2, ↓mo_15, ↓mf_15_0, ↓mf_15_1, ↓mp_15_2, ↓mf_15_2, ↓mo_16, ↓mf_16_0, ↓mo_18, ↓mf_18_0, ↓ma_3, ↓ms_3, ↓ma_5, ↓ms_5, ↓ma_8, ↓ms_8, ↓ma_10, ↓ms_10, ↓ma_12, ↓ms_12, ↓ma_17, ↓ms_17, ↓ma_19, ↓ms_19, ↓bnd_some, ↓cond_true, ↓m_pv_none, ↓m_pv_some, m_b01_0, m_b01_1, true_and, and_true]
        exact fin _
    · have hsh : sh (T v) (en (T v) (p + 1)) w (en (T v) (p + 1) + k) = pt (T v) (en (T v) (p + 1) + k) := by
        unfold sh
        rw [if_neg (by omega)]
      rw [if_neg h0, g3' _ _ _ (by rw [hsh]; rfl) (by rw [hsh]; rfl)]
      simp only [↓g15_0, ↓g15_1, ↓g15_4, ↓g15_7, ↓g15_8, ↓g15_9, ↓g15_12, ↓g15_13, ↓g15_16, ↓g15_18, ↓g15_19, ↓g15_22, ↓g15_23, ↓g15_24, ↓g15_25, ↓g15_28, ↓g15_32, ↓g15_34, ↓g15_37, ↓g15_38, ↓g15_41, ↓g15_42, ↓g15_44, ↓g15_47, ↓g15_49, ↓g15_50, ↓g15_53, ↓g15_54, ↓g15_56, ↓g15_59, ↓g15_61, ↓g15_62, ↓g15_65, ↓g15_67, ↓g15_70, ↓g15_71, ↓g15_74, ↓g15_75, ↓g15_78, ↓g15_79, ↓g15_81, ↓g15_83, ↓g15_86, ↓g15_88, ↓g15_90, ↓g15_93, ↓g15_95, ↓g15_96, ↓g15_97, ↓g15_99, ↓g15_100, ↓g15_103, ↓g15_105, ↓g15_107, ↓g15_109, ↓g15_112, ↓g15_115, ↓g15_118, ↓mo_0, ↓mf_0_0, ↓mf_0_1, ↓mf_0_2, ↓mf_0_3, ↓mf_0_4, ↓mo_1, ↓mf_1_0, ↓mf_1_1, ↓mo_2, ↓mf_2_0, ↓mo_4, ↓mf_4_0, ↓mo_6, ↓mf_6_0, ↓mf_6_1, ↓mf_6_2, ↓mf_6_3, ↓mp_6_4, ↓mf_6_4, ↓mp_6_5, ↓mf_6_5, ↓mo_7, ↓mf_7_0, ↓mo_9, ↓mf_9_0, ↓mo_11, ↓mf_11_0, ↓mo_13, ↓mf_13_0, ↓mf_13_1, ↓mp_13_2, ↓mf_13_2, ↓mp_13_3, ↓mf_13_3, ↓mo_14, ↓mf_14_0, ↓mp_14_1, ↓mf_14_1, ↓mp_14_2, ↓mf_14_2, ↓mo_15, ↓mf_15_0, ↓mf_15_1, ↓mp_15_2, ↓mf_15_2, ↓mo_16, ↓mf_16_0, ↓mo_18, ↓mf_18_0, ↓ma_3, ↓ms_3, ↓ma_5, ↓ms_5, ↓ma_8, ↓ms_8, ↓ma_10, ↓ms_10, ↓ma_12, ↓ms_12, ↓ma_17, ↓ms_17, ↓ma_19, ↓ms_19, ↓bnd_some, ↓cond_true, ↓m_pv_none, ↓m_pv_some, m_b01_0, m_b01_1, true_and, and_true]
      exact fin _
theorem w_arg (hv : v < 56) (hw : WF (T v)) {p w : Nat} (hp : p < (T v).length) (hr : red (T v) p = true) (hwl : w < 200) (Y : Tm) (hY : Y.length + (en (T v) p - en (T v) (p + 1)) ≤ 200) (hq : ∀ n, n < en (T v) p - en (T v) (p + 1) → (sh (T v) (en (T v) (p + 1)) w (en (T v) (p + 1) + n)).1 ≤ 3 ∧ (sh (T v) (en (T v) (p + 1)) w (en (T v) (p + 1) + n)).2 < 256) (h : CS c (tu T 56 Y)) (hs : SV c v (T v)) : ∃ c', CS c' (tu T 56 (Y ++ agm (T v) (en (T v) (p + 1)) w (en (T v) p - en (T v) (p + 1)))) ∧ sx [3, 5] c c' ∧ ∀ (K : Option Value → mM → Prop), go S 15 0 [.ref 13, .int (nI p), .int (nI w), .null, .null, .null, .null, .null, .null] [] (mk c t) K = K none (mk c' t) := by
  obtain ⟨r1, r2, r3, r4, r5, r6, r7, r8, r9, r10⟩ := red_all hw hp hr
  have hTv : tu T 56 Y v = T v := tu_ne (by omega)
  have hl : (T v).length ≤ 200 := by have := (h v hs.1).1; rw [hTv] at this; exact this
  obtain ⟨c', h1, s1, g1⟩ := w_argL (S := S) (t := t) hv hw hp hr hwl Y hY hq (en (T v) p - en (T v) (p + 1)) 0 c rfl (by rw [show agm (T v) (en (T v) (p + 1)) w 0 = [] from rfl, List.append_nil]; exact h) hs
  refine ⟨c', h1, s1, fun K => ?_⟩
  have e1 : rg 200 (c 8) (nI p + 1) = nI (en (T v) (p + 1)) := by rw [nI_1]; exact hs.behind hl (by omega)
  have e2 : rg 200 (c 8) (nI p) = nI (en (T v) p) := hs.behind hl hp
  simp only [↓g15_0, ↓g15_1, ↓g15_4, ↓g15_7, ↓g15_8, ↓g15_9, ↓g15_12, ↓g15_13, ↓g15_16, ↓g15_18, ↓g15_19, ↓g15_22, ↓g15_23, ↓g15_24, ↓g15_25, ↓g15_28, ↓g15_32, ↓g15_34, ↓g15_37, ↓g15_38, ↓g15_41, ↓g15_42, ↓g15_44, ↓g15_47, ↓g15_49, ↓g15_50, ↓g15_53, ↓g15_54, ↓g15_56, ↓g15_59, ↓g15_61, ↓g15_62, ↓g15_65, ↓g15_67, ↓g15_70, ↓g15_71, ↓g15_74, ↓g15_75, ↓g15_78, ↓g15_79, ↓g15_81, ↓g15_83, ↓g15_86, ↓g15_88, ↓g15_90, ↓g15_93, ↓g15_95, ↓g15_96, ↓g15_97, ↓g15_99, ↓g15_100, ↓g15_103, ↓g15_105, ↓g15_107, ↓g15_109, ↓g15_112, ↓g15_115, ↓g15_118, ↓mo_0, ↓mf_0_0, ↓mf_0_1, ↓mf_0_2, ↓mf_0_3, ↓mf_0_4, ↓mo_1, ↓mf_1_0, ↓mf_1_1, ↓mo_2, ↓mf_2_0, ↓mo_4, ↓mf_4_0, ↓mo_6, ↓mf_6_0, ↓mf_6_1, ↓mf_6_2, ↓mf_6_3, ↓mp_6_4, ↓mf_6_4, ↓mp_6_5, ↓mf_6_5, ↓mo_7, ↓mf_7_0, ↓mo_9, ↓mf_9_0, ↓mo_11, ↓mf_11_0, ↓mo_13, ↓mf_13_0, ↓mf_13_1, ↓mp_13_2, ↓mf_13_2, ↓mp_13_3, ↓mf_13_3, ↓mo_14, ↓mf_14_0, ↓mp_14_1, ↓mf_14_1, ↓mp_14_2, ↓mf_14_2, ↓mo_15, ↓mf_15_0, ↓mf_15_1, ↓mp_15_2, ↓mf_15_2, ↓mo_16, ↓mf_16_0, ↓mo_18, ↓mf_18_0, ↓ma_3, ↓ms_3, ↓ma_5, ↓ms_5, ↓ma_8, ↓ms_8, ↓ma_10, ↓ms_10, ↓ma_12, ↓ms_12, ↓ma_17, ↓ms_17, ↓ma_19, ↓ms_19, ↓bnd_some, ↓cond_true, ↓m_pv_none, ↓m_pv_some, m_b01_0, m_b01_1, true_and, and_true, ↓u_term, ↓u_behind, hs.2.1, e1, e2]
  exact g1 K _ _ _
end RWR

