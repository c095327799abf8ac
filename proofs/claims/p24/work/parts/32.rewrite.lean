/-! Rewriter: a rewritten term; many steps -/
/-- all terms but the draft are these -/
def te (T' T : Nat → Tm) : Prop := ∀ j, j ≠ 56 → T' j = T j
theorem te_rf {T : Nat → Tm} : te T T := fun _ _ => rfl
theorem te_tr {T T' T'' : Nat → Tm} (h : te T'' T') (h' : te T' T) : te T'' T := fun j hj => (h j hj).trans (h' j hj)
theorem te_tu {T T' : Nat → Tm} {i : Nat} {l : Tm} (h : te T' T) : te (tu T' i l) (tu T i l) := fun j hj => by
  by_cases e : j = i
  · subst e
    rw [tu_eq, tu_eq]
  · rw [tu_ne e, tu_ne e]
    exact h j hj
section RW2
variable {S : mS} {t : mM} {T : Nat → Tm} {v : Nat} {c : Nat → Nat → Int32}
theorem rwt_parts {l : Tm} {p : Nat} (hp : p ≤ l.length) (hn : (rwt l p).length ≤ 200) {n : Nat} (hnn : n ≤ en l (p + 1) - (p + 2)) : (l.take p ++ bd l p n).length ≤ 200 := by
  have h1 := bd_mono l p hnn
  unfold rwt at hn
  rw [List.length_append, List.length_append] at hn
  rw [List.length_append]
  omega
theorem w_rwL (hv : v < 56) (hw : WF (T v)) {p : Nat} (hp : p < (T v).length) (hr : red (T v) p = true) (hn : (rwt (T v) p).length ≤ 200) : ∀ (n k : Nat) (c : Nat → Nat → Int32), n + k = en (T v) (p + 1) - (p + 2) → CS c (tu T 56 ((T v).take p ++ bd (T v) p k)) → SV c v (T v) → ∃ c', CS c' (tu T v (rwt (T v) p) |> fun U => tu U 56 (rwt (T v) p)) ∧ sx [3, 5] c c' ∧ ∀ (K : Option Value → mM → Prop) (j5 j6 j7 : Value), go S 14 45 [.ref 13, .int (nI p), .int (nI v), .int (nI (en (T v) (p + 1))), .int (nI (p + 2 + k)), j5, j6, j7] [] (mk c t) K = K none (mk c' t)
  | 0, k, c, hk, h, hs => by
    obtain ⟨r1, r2, r3, r4, r5, r6, r7, r8, r9, r10⟩ := red_all hw hp hr
    have e : k = en (T v) (p + 1) - (p + 2) := by omega
    have hTv : tu T 56 ((T v).take p ++ bd (T v) p k) v = T v := tu_ne (by omega)
    have hl : (T v).length ≤ 200 := by have := (h v hs.1).1; rw [hTv] at this; exact this
    have e1 : nI (en (T v) (p + 1)) ≤ nI (p + 2 + k) := by rw [e, show p + 2 + (en (T v) (p + 1) - (p + 2)) = en (T v) (p + 1) by omega]; exact Int32.le_refl _
    have g0 := q_length (S := S) (t := t) h hs.1
    rw [hTv] at g0
    have hlen : ((T v).take p ++ bd (T v) p k).length + ((T v).length - en (T v) p) ≤ 200 := by
      unfold rwt at hn
      rw [← e, List.length_append, List.length_drop] at hn
      exact hn
    obtain ⟨c1, h1, s1, g1⟩ := q_appendParts (S := S) (t := t) (i := 56) (j := v) (a := en (T v) p) (b := (T v).length) (x := 56) h (by omega) hs.1 (by omega) r3 (by rw [hTv]; exact Nat.le_refl _) (by rw [tu_eq]; exact hlen)
    have hseg : ∀ l : Tm, ∀ a, seg l a l.length = l.drop a := fun l a => by
      unfold seg
      rw [List.take_of_length_le (by rw [List.length_drop]; exact Nat.le_refl _)]
    rw [tu_eq, hTv, hseg] at h1
    have hrw : (T v).take p ++ bd (T v) p k ++ (T v).drop (en (T v) p) = rwt (T v) p := by rw [e]; rfl
    rw [hrw] at h1
    obtain ⟨c2, h2, s2, g2⟩ := q_duplicate (S := S) (t := t) (i := 56) (j := v) (x := 56) h1 (by omega) hs.1
    rw [tu_eq] at h2
    refine ⟨c2, h2.congr fun j hj => ?_, sx_tr s1 s2, fun K j5 j6 j7 => ?_⟩
    · show tu (tu T v (rwt (T v) p)) 56 (rwt (T v) p) j = _
      by_cases z1 : j = v
      · subst z1
        rw [tu_eq, tu_ne (by omega), tu_eq]
      · rw [tu_ne z1]
        by_cases z2 : j = 56
        · subst z2
          rw [tu_eq, tu_eq]
        · rw [tu_ne z2, tu_ne z2, tu_ne z1, tu_ne z2]
    · have e3 : rg 200 (c 8) (nI p) = nI (en (T v) p) := hs.behind hl hp
      rw [g14_45]
      simp only [↓g14_0, ↓g14_1, ↓g14_4, ↓g14_7, ↓g14_8, ↓g14_9, ↓g14_12, ↓g14_13, ↓g14_14, ↓g14_15, ↓g14_18, ↓g14_19, ↓g14_20, ↓g14_23, ↓g14_25, ↓g14_28, ↓g14_29, ↓g14_32, ↓g14_34, ↓g14_35, ↓g14_36, ↓g14_37, ↓g14_40, ↓g14_41, ↓g14_42, ↓g14_43, ↓g14_47, ↓g14_48, ↓g14_51, ↓g14_52, ↓g14_55, ↓g14_56, ↓g14_58, ↓g14_61, ↓g14_63, ↓g14_64, ↓g14_67, ↓g14_68, ↓g14_70, ↓g14_73, ↓g14_75, ↓g14_76, ↓g14_77, ↓g14_79, ↓g14_82, ↓g14_84, ↓g14_86, ↓g14_89, ↓g14_91, ↓g14_93, ↓g14_96, ↓g14_97, ↓g14_100, ↓g14_102, ↓g14_104, ↓g14_106, ↓g14_109, ↓g14_112, ↓g14_114, ↓g14_116, ↓g14_119, ↓g14_120, ↓g14_121, ↓g14_123, ↓g14_126, ↓g14_129, ↓g14_130, ↓g14_133, ↓g14_135, ↓g14_136, ↓g14_138, ↓g14_139, ↓g14_140, ↓g14_143, ↓g14_146, ↓g14_149, ↓g14_150, ↓g14_153, ↓g14_155, ↓g14_156, ↓g14_157, ↓g14_160, ↓g14_161, ↓g14_164, ↓g14_165, ↓g14_168, ↓g14_169, ↓g14_172, ↓g14_175, ↓g14_176, ↓g14_179, ↓g14_181, ↓g14_182, ↓g14_185, ↓mo_0, ↓mf_0_0, ↓mf_0_1, ↓mf_0_2, ↓mf_0_3, ↓mf_0_4, ↓mo_1, ↓mf_1_0, ↓mf_1_1, ↓mo_2, ↓mf_2_0, ↓mo_4, ↓mf_4_0, ↓mo_6, ↓mf_6_0, ↓mf_6_1, ↓mf_6_2, ↓mf_6_3, ↓mp_6_4, ↓mf_6_4, ↓mp_6_5, ↓mf_6_5, ↓mo_7, ↓mf_7_0, ↓mo_9, ↓mf_9_0, ↓mo_11, ↓mf_11_0, ↓mo_13, ↓mf_13_0, ↓mf_13_1, ↓mp_13_2, ↓mf_13_2, ↓mp_13_3, ↓mf_13_3, ↓mo_14, ↓mf_14_0, ↓mp_14_1, ↓mf_14_1, ↓mp_14_2, ↓mf_14_2, ↓mo_15, ↓mf_15_0, ↓mf_15_1, ↓mp_15_2, ↓mf_15_2, ↓mo_16, ↓mf_16_0, ↓mo_18, ↓mf_18_0, ↓ma_3, ↓ms_3, ↓ma_5, ↓ms_5, ↓ma_8, ↓ms_8, ↓ma_10, ↓ms_10, ↓ma_12, ↓ms_12, ↓ma_17, ↓ms_17, ↓ma_19, ↓ms_19, ↓bnd_some, ↓cond_true, ↓m_pv_none, ↓m_pv_some, m_b01_0, m_b01_1, true_and, and_true, e1, if_true, ↓u_behind, e3, ↓g0, ↓g1, ↓g2]
  | n + 1, k, c, hk, h, hs => by
    obtain ⟨r1, r2, r3, r4, r5, r6, r7, r8, r9, r10⟩ := red_all hw hp hr
    have hTv : tu T 56 ((T v).take p ++ bd (T v) p k) v = T v := tu_ne (by omega)
    have hl : (T v).length ≤ 200 := by have := (h v hs.1).1; rw [hTv] at this; exact this
    have hkl : p + 2 + k < (T v).length := by omega
    have e1 : ¬ nI (en (T v) (p + 1)) ≤ nI (p + 2 + k) := nI_ge (by omega) (by omega)
    have g1 := q_kind (S := S) (t := t) (i := v) (p := p + 2 + k) h hs.1 (by rw [hTv]; exact hkl)
    have g2 := q_number (S := S) (t := t) (i := v) (p := p + 2 + k) h hs.1 (by rw [hTv]; exact hkl)
    rw [hTv] at g1 g2
    have hkd := hw.kd hkl
    have hnu := nu_lt hw hkl hl
    have hd := dep_lt hw hkl hl
    have hwd : wi (T v) p (p + 2 + k) < 200 := by unfold wi; omega
    have e2 := wi_eq hs hl hw hp hr (i := p + 2 + k) (by omega) (by omega) hkl
    have e0 : (nI (kd (T v) (p + 2 + k)) = 0) ↔ kd (T v) (p + 2 + k) = 0 := nI_eq (b := 0) (by omega) (by omega)
    have e3 : (nI (wi (T v) p (p + 2 + k)) ≤ nI (nu (T v) (p + 2 + k))) ↔ wi (T v) p (p + 2 + k) ≤ nu (T v) (p + 2 + k) := nI_leI (by omega) (by omega)
    have e4 : (nI (nu (T v) (p + 2 + k)) = nI (wi (T v) p (p + 2 + k))) ↔ nu (T v) (p + 2 + k) = wi (T v) p (p + 2 + k) := nI_eq (by omega) (by omega)
    have hwr := rwt_ok hw hp hr
    have hsm : ∀ q, q ∈ bp (T v) p (p + 2 + k) → q.1 ≤ 3 ∧ q.2 < 256 := fun q hq => by
      have := wf_small hwr hn (q := q) (by
        unfold rwt
        exact List.mem_append_left _ (List.mem_append_right _ (mem_bd (by omega) hq)))
      omega
    have hpl := rwt_parts (l := T v) (p := p) (Nat.le_of_lt hp) hn (n := k + 1) (by omega)
    rw [bd, List.length_append, List.length_append] at hpl
    have e5 : (T v).take p ++ bd (T v) p (k + 1) = (T v).take p ++ bd (T v) p k ++ bp (T v) p (p + 2 + k) := by rw [bd, List.append_assoc]
    have ih : ∀ c1, CS c1 (tu T 56 ((T v).take p ++ bd (T v) p k ++ bp (T v) p (p + 2 + k))) → sx [3, 5] c c1 → ∃ c', CS c' (tu T v (rwt (T v) p) |> fun U => tu U 56 (rwt (T v) p)) ∧ sx [3, 5] c c' ∧ ∀ (K : Option Value → mM → Prop) (j5 j6 j7 : Value), go S 14 45 [.ref 13, .int (nI p), .int (nI v), .int (nI (en (T v) (p + 1))), .int (nI (p + 2 + k) + 1), j5, j6, j7] [] (mk c1 t) K = K none (mk c' t) := fun c1 z1 z2 => by
      obtain ⟨c2, y1, y2, y3⟩ := w_rwL hv hw hp hr hn n (k + 1) c1 (by omega) (by rw [e5]; exact z1) (hs.sx z2 (by simp) (by simp) (by simp) (by simp))
      refine ⟨c2, y1, sx_tr z2 y2, fun K j5 j6 j7 => ?_⟩
      rw [nI_1]
      exact y3 K j5 j6 j7
    have one : ∀ q, bp (T v) p (p + 2 + k) = [q] → ∃ c1, CS c1 (tu T 56 ((T v).take p ++ bd (T v) p k ++ bp (T v) p (p + 2 + k))) ∧ sx [3, 5] c c1 ∧ ∀ (K : Option Value → mM → Prop) (x y : Int32), x = nI q.1 → y = nI q.2 → go S 26 0 [.ref 1, .int 56, .int x, .int y, .null] [] (mk c t) K = K none (mk c1 t) := fun q hq => by
      have hq2 := hsm q (by rw [hq]; exact List.mem_singleton.mpr rfl)
      obtain ⟨c1, h1, s1, g3⟩ := q_append (S := S) (t := t) (i := 56) (k := q.1) (n := q.2) h (by omega) (by rw [tu_eq, List.length_append]; rw [hq] at hpl; simp only [List.length_singleton] at hpl; omega) hq2.1 hq2.2
      refine ⟨c1, h1.congr fun j hj => ?_, s1, fun K x y hx hy => by rw [hx, hy]; exact g3 K⟩
      by_cases e : j = 56
      · subst e
        rw [tu_eq, tu_eq, tu_eq, hq]
      · rw [tu_ne e, tu_ne e, tu_ne e]
    by_cases hk0 : kd (T v) (p + 2 + k) = 0 ∧ wi (T v) p (p + 2 + k) ≤ nu (T v) (p + 2 + k)
    · by_cases hu : nu (T v) (p + 2 + k) = wi (T v) p (p + 2 + k)
      · have hiu : isU (T v) p (p + 2 + k) = true := by simp [isU, hk0.1, hu]
        have hbp : bp (T v) p (p + 2 + k) = agm (T v) (en (T v) (p + 1)) (wi (T v) p (p + 2 + k)) (en (T v) p - en (T v) (p + 1)) := by unfold bp; rw [if_pos hiu]
        obtain ⟨c1, h1, s1, g3⟩ := w_arg (S := S) (t := t) (w := wi (T v) p (p + 2 + k)) hv hw hp hr hwd ((T v).take p ++ bd (T v) p k) (by rw [hbp, agm_len] at hpl; rw [List.length_append]; omega) (fun i hi => hsm _ (by rw [hbp]; exact mem_agm hi)) h hs
        rw [← hbp] at h1
        obtain ⟨c2, h2, s2, g4⟩ := ih c1 h1 s1
        refine ⟨c2, h2, s2, fun K j5 j6 j7 => ?_⟩
        rw [g14_45]
        simp only [↓g14_0, ↓g14_1, ↓g14_4, ↓g14_7, ↓g14_8, ↓g14_9, ↓g14_12, ↓g14_13, ↓g14_14, ↓g14_15, ↓g14_18, ↓g14_19, ↓g14_20, ↓g14_23, ↓g14_25, ↓g14_28, ↓g14_29, ↓g14_32, ↓g14_34, ↓g14_35, ↓g14_36, ↓g14_37, ↓g14_40, ↓g14_41, ↓g14_42, ↓g14_43, ↓g14_47, ↓g14_48, ↓g14_51, ↓g14_52, ↓g14_55, ↓g14_56, ↓g14_58, ↓g14_61, ↓g14_63, ↓g14_64, ↓g14_67, ↓g14_68, ↓g14_70, ↓g14_73, ↓g14_75, ↓g14_76, ↓g14_77, ↓g14_79, ↓g14_82, ↓g14_84, ↓g14_86, ↓g14_89, ↓g14_91, ↓g14_93, ↓g14_96, ↓g14_97, ↓g14_100, ↓g14_102, ↓g14_104, ↓g14_106, ↓g14_109, ↓g14_112, ↓g14_114, ↓g14_116, ↓g14_119, ↓g14_120, ↓g14_121, ↓g14_123, ↓g14_126, ↓g14_129, ↓g14_130, ↓g14_133, ↓g14_135, ↓g14_136, ↓g14_138, ↓g14_139, ↓g14_140, ↓g14_143, ↓g14_146, ↓g14_149, ↓g14_150, ↓g14_153, ↓g14_155, ↓g14_156, ↓g14_157, ↓g14_160, ↓g14_161, ↓g14_164, ↓g14_165, ↓g14_168, ↓g14_169, ↓g14_172, ↓g14_175, ↓g14_176, ↓g14_179, ↓g14_181, ↓g14_182, ↓g14_185, ↓mo_0, ↓mf_0_0, ↓mf_0_1, ↓mf_0_2, ↓mf_0_3, ↓mf_0_4, ↓mo_1, ↓mf_1_0, ↓mf_1_1, ↓mo_2, ↓mf_2_0, ↓mo_4, ↓mf_4_0, ↓mo_6, ↓mf_6_0, ↓mf_6_1, ↓mf_6_2, ↓mf_6_3, ↓mp_6_4, ↓mf_6_4, ↓mp_6_5, ↓mf_6_5, ↓mo_7, ↓mf_7_0, ↓mo_9, ↓mf_9_0, ↓mo_11, ↓mf_11_0, ↓mo_13, ↓mf_13_0, ↓mf_13_1, ↓mp_13_2, ↓mf_13_2, ↓mp_13_3, ↓mf_13_3, ↓mo_14, ↓mf_14_0, ↓mp_14_1, ↓mf_14_1, ↓mp_14_2, ↓mf_14_2, ↓mo_15, ↓mf_15_0, ↓mf_15_1, ↓mp_15_2, ↓mf_15_2, ↓mo_16, ↓mf_16_0, ↓mo_18, ↓mf_18_0, ↓ma_3, ↓ms_3, ↓ma_5, ↓ms_5, ↓ma_8, ↓ms_8, ↓ma_10, ↓ms_10, ↓ma_12, ↓ms_12, ↓ma_17, ↓ms_17, ↓ma_19, ↓ms_19, ↓bnd_some, ↓cond_true, ↓m_pv_none, ↓m_pv_some, m_b01_0, m_b01_1, true_and, and_true, e1, if_false, ↓g1, ↓g2, ↓w_fw, e2, e0, e3, e4]
        rw [if_pos hk0.1, if_pos hk0.2, if_pos hu, g3]
        simp only [↓g14_0, ↓g14_1, ↓g14_4, ↓g14_7, ↓g14_8, ↓g14_9, ↓g14_12, ↓g14_13, ↓g14_14, ↓g14_15, ↓g14_18, ↓g14_19, ↓g14_20, ↓g14_23, ↓g14_25, ↓g14_28, ↓g14_29, ↓g14_32, ↓g14_34, ↓g14_35, ↓g14_36, ↓g14_37, ↓g14_40, ↓g14_41, ↓g14_42, ↓g14_43, ↓g14_47, ↓g14_48, ↓g14_51, ↓g14_52, ↓g14_55, ↓g14_56, ↓g14_58, ↓g14_61, ↓g14_63, ↓g14_64, ↓g14_67, ↓g14_68, ↓g14_70, ↓g14_73, ↓g14_75, ↓g14_76, ↓g14_77, ↓g14_79, ↓g14_82, ↓g14_84, ↓g14_86, ↓g14_89, ↓g14_91, ↓g14_93, ↓g14_96, ↓g14_97, ↓g14_100, ↓g14_102, ↓g14_104, ↓g14_106, ↓g14_109, ↓g14_112, ↓g14_114, ↓g14_116, ↓g14_119, ↓g14_120, ↓g14_121, ↓g14_123, ↓g14_126, ↓g14_129, ↓g14_130, ↓g14_133, ↓g14_135, ↓g14_136, ↓g14_138, ↓g14_139, ↓g14_140, ↓g14_143, ↓g14_146, ↓g14_149, ↓g14_150, ↓g14_153, ↓g14_155, ↓g14_156, ↓g14_157, ↓g14_160, ↓g14_161, ↓g14_164, ↓g14_165, ↓g14_168, ↓g14_169, ↓g14_172, ↓g14_175, ↓g14_176, ↓g14_179, ↓g14_181, ↓g14_182, ↓g14_185, ↓mo_0, ↓mf_0_0, ↓mf_0_1, ↓mf_0_2, ↓mf_0_3, ↓mf_0_4, ↓mo_1, ↓mf_1_0, ↓mf_1_1, ↓mo_2, ↓mf_2_0, ↓mo_4, ↓mf_4_0, ↓mo_6, ↓mf_6_0, ↓mf_6_1, ↓mf_6_2, ↓mf_6_3, ↓mp_6_4, ↓mf_6_4, ↓mp_6_5, ↓mf_6_5, ↓mo_7, ↓mf_7_0, ↓mo_9, ↓mf_9_0, ↓mo_11, ↓mf_11_0, ↓mo_13, ↓mf_13_0, ↓mf_13_1, ↓mp_13_2, ↓mf_13_2, ↓mp_13_3, ↓mf_13_3, ↓mo_14, ↓mf_14_0, ↓mp_14_1, ↓mf_14_1, ↓mp_14_2, ↓mf_14_2, ↓mo_15, ↓mf_15_0, ↓mf_15_1, ↓mp_15_2, ↓mf_15_2, ↓mo_16, ↓mf_16_0, ↓mo_18, ↓mf_18_0, ↓ma_3, ↓ms_3, ↓ma_5, ↓ms_5, ↓ma_8, ↓ms_8, ↓ma_10, ↓ms_10, ↓ma_12, ↓ms_12, ↓ma_17, ↓ms_17, ↓ma_19, ↓ms_19, ↓bnd_some, ↓cond_true, ↓m_pv_none, ↓m_pv_some, m_b01_0, m_b01_1, true_and, and_true]
        exact g4 K _ _ _
      · have hiu : ¬ isU (T v) p (p + 2 + k) = true := by simp [isU, hu]
        have hbp : bp (T v) p (p + 2 + k) = [(0, nu (T v) (p + 2 + k) - 1)] := by unfold bp; rw [if_neg hiu, if_pos (by omega)]
        obtain ⟨c1, h1, s1, g3⟩ := one _ hbp
        obtain ⟨c2, h2, s2, g4⟩ := ih c1 h1 s1
        refine ⟨c2, h2, s2, fun K j5 j6 j7 => ?_⟩
        have e6 : nI (nu (T v) (p + 2 + k)) - 1 = nI (nu (T v) (p + 2 + k) - 1) := by rw [l_1, pk_sub (by omega)]
        rw [g14_45]
        simp only [↓g14_0, ↓g14_1, ↓g14_4, ↓g14_7, ↓g14_8, ↓g14_9, ↓g14_12, ↓g14_13, ↓g14_14, ↓g14_15, ↓g14_18, ↓g14_19, ↓g14_20, ↓g14_23, ↓g14_25, ↓g14_28, ↓g14_29, ↓g14_32, ↓g14_34, ↓g14_35, ↓g14_36, ↓g14_37, ↓g14_40, ↓g14_41, ↓g14_42, ↓g14_43, ↓g14_47, ↓g14_48, ↓g14_51, ↓g14_52, ↓g14_55, ↓g14_56, ↓g14_58, ↓g14_61, ↓g14_63, ↓g14_64, ↓g14_67, ↓g14_68, ↓g14_70, ↓g14_73, ↓g14_75, ↓g14_76, ↓g14_77, ↓g14_79, ↓g14_82, ↓g14_84, ↓g14_86, ↓g14_89, ↓g14_91, ↓g14_93, ↓g14_96, ↓g14_97, ↓g14_100, ↓g14_102, ↓g14_104, ↓g14_106, ↓g14_109, ↓g14_112, ↓g14_114, ↓g14_116, ↓g14_119, ↓g14_120, ↓g14_121, ↓g14_123, ↓g14_126, ↓g14_129, ↓g14_130, ↓g14_133, ↓g14_135, ↓g14_136, ↓g14_138, ↓g14_139, ↓g14_140, ↓g14_143, ↓g14_146, ↓g14_149, ↓g14_150, ↓g14_153, ↓g14_155, ↓g14_156, ↓g14_157, ↓g14_160, ↓g14_161, ↓g14_164, ↓g14_165, ↓g14_168, ↓g14_169, ↓g14_172, ↓g14_175, ↓g14_176, ↓g14_179, ↓g14_181, ↓g14_182, ↓g14_185, ↓mo_0, ↓mf_0_0, ↓mf_0_1, ↓mf_0_2, ↓mf_0_3, ↓mf_0_4, ↓mo_1, ↓mf_1_0, ↓mf_1_1, ↓mo_2, ↓mf_2_0, ↓mo_4, ↓mf_4_0, ↓mo_6, ↓mf_6_0, ↓mf_6_1, ↓mf_6_2, ↓mf_6_3, ↓mp_6_4, ↓mf_6_4, ↓mp_6_5, ↓mf_6_5, ↓mo_7, ↓mf_7_0, ↓mo_9, ↓mf_9_0, ↓mo_11, ↓mf_11_0, ↓mo_13, ↓mf_13_0, ↓mf_13_1, ↓mp_13_2, ↓mf_13_2, ↓mp_13_3, ↓mf_13_3, ↓mo_14, ↓mf_14_0, ↓mp_14_1, ↓mf_14_1, ↓mp_14_2, ↓mf_14_2, ↓mo_15, ↓mf_15_0, ↓mf_15_1, ↓mp_15_2, ↓mf_15_2, ↓mo_16, ↓mf_16_0, ↓mo_18, ↓mf_18_0, ↓ma_3, ↓ms_3, ↓ma_5, ↓ms_5, ↓ma_8, ↓ms_8, ↓ma_10, ↓ms_10, ↓ma_12, ↓ms_12, ↓ma_17, ↓ms_17, ↓ma_19, ↓ms_19, ↓bnd_some, ↓cond_true, ↓m_pv_none, ↓m_pv_some, m_b01_0, m_b01_1, true_and, and_true, e1, if_false, ↓g1, ↓g2, ↓w_fw, e2, e0, e3, e4]
        rw [if_pos hk0.1, if_pos hk0.2, if_neg hu, g3 _ 0 (nI (nu (T v) (p + 2 + k)) - 1) rfl e6]
        simp only [↓g14_0, ↓g14_1, ↓g14_4, ↓g14_7, ↓g14_8, ↓g14_9, ↓g14_12, ↓g14_13, ↓g14_14, ↓g14_15, ↓g14_18, ↓g14_19, ↓g14_20, ↓g14_23, ↓g14_25, ↓g14_28, ↓g14_29, ↓g14_32, ↓g14_34, ↓g14_35, ↓g14_36, ↓g14_37, ↓g14_40, ↓g14_41, ↓g14_42, ↓g14_43, ↓g14_47, ↓g14_48, ↓g14_51, ↓g14_52, ↓g14_55, ↓g14_56, ↓g14_58, ↓g14_61, ↓g14_63, ↓g14_64, ↓g14_67, ↓g14_68, ↓g14_70, ↓g14_73, ↓g14_75, ↓g14_76, ↓g14_77, ↓g14_79, ↓g14_82, ↓g14_84, ↓g14_86, ↓g14_89, ↓g14_91, ↓g14_93, ↓g14_96, ↓g14_97, ↓g14_100, ↓g14_102, ↓g14_104, ↓g14_106, ↓g14_109, ↓g14_112, ↓g14_114, ↓g14_116, ↓g14_119, ↓g14_120, ↓g14_121, ↓g14_123, ↓g14_126, ↓g14_129, ↓g14_130, ↓g14_133, ↓g14_135, ↓g14_136, ↓g14_138, ↓g14_139, ↓g14_140, ↓g14_143, ↓g14_146, ↓g14_149, ↓g14_150, ↓g14_153, ↓g14_155, ↓g14_156, ↓g14_157, ↓g14_160, ↓g14_161, ↓g14_164, ↓g14_165, ↓g14_168, ↓g14_169, ↓g14_172, ↓g14_175, ↓g14_176, ↓g14_179, ↓g14_181, ↓g14_182, ↓g14_185, ↓mo_0, ↓mf_0_0, ↓mf_0_1, ↓mf_0_2, ↓mf_0_3, ↓mf_0_4, ↓mo_1, ↓mf_1_0, ↓mf_1_1, ↓mo_2, ↓mf_2_0, ↓mo_4, ↓mf_4_0, ↓mo_6, ↓mf_6_0, ↓mf_6_1, ↓mf_6_2, ↓mf_6_3, ↓mp_6_4, ↓mf_6_4, ↓mp_6_5, ↓mf_6_5, ↓mo_7, ↓mf_7_0, ↓mo_9, ↓mf_9_0, ↓mo_11, ↓mf_11_0, ↓mo_13, ↓mf_13_0, ↓mf_13_1, ↓mp_13_2, ↓mf_13_2, ↓mp_13_3, ↓mf_13_3, ↓mo_14, ↓mf_14_0, ↓mp_14_1, ↓mf_14_1, ↓mp_14_2, ↓mf_14_2, ↓mo_15, ↓mf_15_0, ↓mf_15_1, ↓mp_15_2, ↓mf_15_2, ↓mo_16, ↓mf_16_0, ↓mo_18, ↓mf_18_0, ↓ma_3, ↓ms_3, ↓ma_5, ↓ms_5, ↓ma_8, ↓ms_8, ↓ma_10, ↓ms_10, ↓ma_12, ↓ms_12, ↓ma_17, ↓ms_17, ↓ma_19, ↓ms_19, ↓bnd_some, ↓cond_true, ↓m_pv_none, ↓m_pv_some, m_b01_0, m_b01_1, true_and, and_true]
        exact g4 K _ _ _
    · have hiu : ¬ isU (T v) p (p + 2 + k) = true := by
        simp only [isU, decide_eq_true_eq]
        rintro ⟨z1, z2⟩
        exact hk0 ⟨z1, by omega⟩
      have hbp : bp (T v) p (p + 2 + k) = [pt (T v) (p + 2 + k)] := by
        unfold bp
        rw [if_neg hiu, if_neg (fun z => hk0 ⟨z.1, by omega⟩)]
      obtain ⟨c1, h1, s1, g3⟩ := one _ hbp
      obtain ⟨c2, h2, s2, g4⟩ := ih c1 h1 s1
      refine ⟨c2, h2, s2, fun K j5 j6 j7 => ?_⟩
      rw [g14_45]
      simp only [↓g14_0, ↓g14_1, ↓g14_4, ↓g14_7, ↓g14_8, ↓g14_9, ↓g14_12, ↓g14_13, ↓g14_14, ↓g14_15, ↓g14_18, ↓g14_19, ↓g14_20, ↓g14_23, ↓g14_25, ↓g14_28, ↓g14_29, ↓g14_32, ↓g14_34, ↓g14_35, ↓g14_36, ↓g14_37, ↓g14_40, ↓g14_41, ↓g14_42, ↓g14_43, ↓g14_47, ↓g14_48, ↓g14_51, ↓g14_52, ↓g14_55, ↓g14_56, ↓g14_58, ↓g14_61, ↓g14_63, ↓g14_64, ↓g14_67, ↓g14_68, ↓g14_70, ↓g14_73, ↓g14_75, ↓g14_76, ↓g14_77, ↓g14_79, ↓g14_82, ↓g14_84, ↓g14_86, ↓g14_89, ↓g14_91, ↓g14_93, ↓g14_96, ↓g14_97, ↓g14_100, ↓g14_102, ↓g14_104, ↓g14_106, ↓g14_109, ↓g14_112, ↓g14_114, ↓g14_116, ↓g14_119, ↓g14_120, ↓g14_121, ↓g14_123, ↓g14_126, ↓g14_129, ↓g14_130, ↓g14_133, ↓g14_135, ↓g14_136, ↓g14_138, ↓g14_139, ↓g14_140, ↓g14_143, ↓g14_146, ↓g14_149, ↓g14_150, ↓g14_153, ↓g14_155, ↓g14_156, ↓g14_157, ↓g14_160, ↓g14_161, ↓g14_164, ↓g14_165, ↓g14_168, ↓g14_169, ↓g14_172, ↓g14_175, ↓g14_176, ↓g14_179, ↓g14_181, ↓g14_182, ↓g14_185, ↓mo_0, ↓mf_0_0, ↓mf_0_1, ↓mf_0_2, ↓mf_0_3, ↓mf_0_4, ↓mo_1, ↓mf_1_0, ↓mf_1_1, ↓mo_2, ↓mf_2_0, ↓mo_4, ↓mf_4_0, ↓mo_6, ↓mf_6_0, ↓mf_6_1, ↓mf_6_2, ↓mf_6_3, ↓mp_6_4, ↓mf_6_4, ↓mp_6_5, ↓mf_6_5, ↓mo_7, ↓mf_7_0, ↓mo_9, ↓mf_9_0, ↓mo_11, ↓mf_11_0, ↓mo_13, ↓mf_13_0, ↓mf_13_1, ↓mp_13_2, ↓mf_13_2, ↓mp_13_3, ↓mf_13_3, ↓mo_14, ↓mf_14_0, ↓mp_14_1, ↓mf_14_1, ↓mp_14_2, ↓mf_14_2, ↓mo_15, ↓mf_15_0, ↓mf_15_1, ↓mp_15_2, ↓mf_15_2, ↓mo_16, ↓mf_16_0, ↓mo_18, ↓mf_18_0, ↓ma_3, ↓ms_3, ↓ma_5, ↓ms_5, ↓ma_8, ↓ms_8, ↓ma_10, ↓ms_10, ↓ma_12, ↓ms_12, ↓ma_17, ↓ms_17, ↓ma_19, ↓ms_19, ↓bnd_some, ↓cond_true, ↓m_pv_none, ↓m_pv_some, m_b01_0, m_b01_1, true_and, and_true, e1, if_false, ↓g1, ↓g2, ↓w_fw, e2, e0, e3, e4]
      by_cases h0 : kd (T v) (p + 2 + k) = 0
      · rw [if_pos h0, if_neg (fun z => hk0 ⟨h0, z⟩), g3 _ (nI (kd (T v) (p + 2 + k))) (nI (nu (T v) (p + 2 + k))) rfl rfl]
        simp only [↓g14_0, ↓g14_1, ↓g14_4, ↓g14_7, ↓g14_8, ↓g14_9, ↓g14_12, ↓g14_13, ↓g14_14, ↓g14_15, ↓g14_18, ↓g14_19, ↓g14_20, ↓g14_23, ↓g14_25, ↓g14_28, ↓g14_29, ↓g14_32, ↓g14_34, ↓g14_35, ↓g14_36, ↓g14_37, ↓g14_40, ↓g14_41, ↓g14_42, ↓g14_43, ↓g14_47, ↓g14_48, ↓g14_51, ↓g14_52, ↓g14_55, ↓g14_56, ↓g14_58, ↓g14_61, ↓g14_63, ↓g14_64, ↓g14_67, ↓g14_68, ↓g14_70, ↓g14_73, ↓g14_75, ↓g14_76, ↓g14_77, ↓g14_79, ↓g14_82, ↓g14_84, ↓g14_86, ↓g14_89, ↓g14_91, ↓g14_93, ↓g14_96, ↓g14_97, ↓g14_100, ↓g14_102, ↓g14_104, ↓g14_106, ↓g14_109, ↓g14_112, ↓g14_114, ↓g14_116, ↓g14_119, ↓g14_120, ↓g14_121, ↓g14_123, ↓g14_126, ↓g14_129, ↓g14_130, ↓g14_133, ↓g14_135, ↓g14_136, ↓g14_138, ↓g14_139, ↓g14_140, ↓g14_143, ↓g14_146, ↓g14_149, ↓g14_150, ↓g14_153, ↓g14_155, ↓g14_156, ↓g14_157, ↓g14_160, ↓g14_161, ↓g14_164, ↓g14_165, ↓g14_168, ↓g14_169, ↓g14_172, ↓g14_175, ↓g14_176, ↓g14_179, ↓g14_181, ↓g14_182, ↓g14_185, ↓mo_0, ↓mf_0_0, ↓mf_0_1, ↓mf_0_2, ↓mf_0_3, ↓mf_0_4, ↓mo_1, ↓mf_1_0, ↓mf_1_1, ↓mo_2, ↓mf_2_0, ↓mo_4, ↓mf_4_0, ↓mo_6, ↓mf_6_0, ↓mf_6_1, ↓mf_6_2, ↓mf_6_3, ↓mp_6_4, ↓mf_6_4, ↓mp_6_5, ↓mf_6_5, ↓mo_7, ↓mf_7_0, ↓mo_9, ↓mf_9_0, ↓mo_11, ↓mf_11_0, ↓mo_13, ↓mf_13_0, ↓mf_13_1, ↓mp_13_2, ↓mf_13_2, ↓mp_13_3, ↓mf_13_3, ↓mo_14, ↓mf_14_0, ↓mp_14_1, ↓mf_14_1, ↓mp_14_2, ↓mf_14_2, ↓mo_15, ↓mf_15_0, ↓mf_15_1, ↓mp_15_2, ↓mf_15_2, ↓mo_16, ↓mf_16_0, ↓mo_18, ↓mf_18_0, ↓ma_3, ↓ms_3, ↓ma_5, ↓ms_5, ↓ma_8, ↓ms_8, ↓ma_10, ↓ms_10, ↓ma_12, ↓ms_12, ↓ma_17, ↓ms_17, ↓ma_19, ↓ms_19, ↓bnd_some, ↓cond_true, ↓m_pv_none, ↓m_pv_some, m_b01_0, m_b01_1, true_and, and_true]
        exact g4 K _ _ _
      · rw [if_neg h0, g3 _ (nI (kd (T v) (p + 2 + k))) (nI (nu (T v) (p + 2 + k))) rfl rfl]
        simp only [↓g14_0, ↓g14_1, ↓g14_4, ↓g14_7, ↓g14_8, ↓g14_9, ↓g14_12, ↓g14_13, ↓g14_14, ↓g14_15, ↓g14_18, ↓g14_19, ↓g14_20, ↓g14_23, ↓g14_25, ↓g14_28, ↓g14_29, ↓g14_32, ↓g14_34, ↓g14_35, ↓g14_36, ↓g14_37, ↓g14_40, ↓g14_41, ↓g14_42, ↓g14_43, ↓g14_47, ↓g14_48, ↓g14_51, ↓g14_52, ↓g14_55, ↓g14_56, ↓g14_58, ↓g14_61, ↓g14_63, ↓g14_64, ↓g14_67, ↓g14_68, ↓g14_70, ↓g14_73, ↓g14_75, ↓g14_76, ↓g14_77, ↓g14_79, ↓g14_82, ↓g14_84, ↓g14_86, ↓g14_89, ↓g14_91, ↓g14_93, ↓g14_96, ↓g14_97, ↓g14_100, ↓g14_102, ↓g14_104, ↓g14_106, ↓g14_109, ↓g14_112, ↓g14_114, ↓g14_116, ↓g14_119, ↓g14_120, ↓g14_121, ↓g14_123, ↓g14_126, ↓g14_129, ↓g14_130, ↓g14_133, ↓g14_135, ↓g14_136, ↓g14_138, ↓g14_139, ↓g14_140, ↓g14_143, ↓g14_146, ↓g14_149, ↓g14_150, ↓g14_153, ↓g14_155, ↓g14_156, ↓g14_157, ↓g14_160, ↓g14_161, ↓g14_164, ↓g14_165, ↓g14_168, ↓g14_169, ↓g14_172, ↓g14_175, ↓g14_176, ↓g14_179, ↓g14_181, ↓g14_182, ↓g14_185, ↓mo_0, ↓mf_0_0, ↓mf_0_1, ↓mf_0_2, ↓mf_0_3, ↓mf_0_4, ↓mo_1, ↓mf_1_0, ↓mf_1_1, ↓mo_2, ↓mf_2_0, ↓mo_4, ↓mf_4_0, ↓mo_6, ↓mf_6_0, ↓mf_6_1, ↓mf_6_2, ↓mf_6_3, ↓mp_6_4, ↓mf_6_4, ↓mp_6_5, ↓mf_6_5, ↓mo_7, ↓mf_7_0, ↓mo_9, ↓mf_9_0, ↓mo_11, ↓mf_11_0, ↓mo_13, ↓mf_13_0, ↓mf_13_1, ↓mp_13_2, ↓mf_13_2, ↓mp_13_3, ↓mf_13_3, ↓mo_14, ↓mf_14_0, ↓mp_14_1, ↓mf_14_1, ↓mp_14_2, ↓mf_14_2, ↓mo_15, ↓mf_15_0, ↓mf_15_1, ↓mp_15_2, ↓mf_15_2, ↓mo_16, ↓mf_16_0, ↓mo_18, ↓mf_18_0, ↓ma_3, ↓ms_3, ↓ma_5, ↓ms_5, ↓ma_8, ↓ms_8, ↓ma_10, ↓ms_10, ↓ma_12, ↓ms_12, ↓ma_17, ↓ms_17, ↓ma_19, ↓ms_19, ↓bnd_some, ↓cond_true, ↓m_pv_none, ↓m_pv_some, m_b01_0, m_b01_1, true_and, and_true]
        exact g4 K _ _ _
theorem w_rw (hv : v < 56) (hw : WF (T v)) {p : Nat} (hp : p < (T v).length) (hr : red (T v) p = true) (hn : (rwt (T v) p).length ≤ 200) (h : CS c T) (hs : SV c v (T v)) : ∃ c' T', CS c' T' ∧ te T' (tu T v (rwt (T v) p)) ∧ sx [3, 5] c c' ∧ ∀ (K : Option Value → mM → Prop), go S 14 0 [.ref 13, .int (nI p), .null, .null, .null, .null, .null, .null] [] (mk c t) K = K none (mk c' t) := by
  obtain ⟨r1, r2, r3, r4, r5, r6, r7, r8, r9, r10⟩ := red_all hw hp hr
  have hl := (h v hs.1).1
  obtain ⟨c1, h1, s1, g1⟩ := q_clear (S := S) (t := t) (i := 56) h (by omega)
  have hTv : tu T 56 [] v = T v := tu_ne (by omega)
  obtain ⟨c2, h2, s2, g2⟩ := q_appendParts (S := S) (t := t) (i := 56) (j := v) (a := 0) (b := p) (x := 56) (z := 0) h1 (by omega) hs.1 (by omega) (Nat.zero_le _) (by rw [hTv]; omega) (by rw [tu_eq]; simp; omega)
  have hseg : seg (T v) 0 p = (T v).take p := by
    unfold seg
    rw [List.drop_zero, Nat.sub_zero]
  obtain ⟨c3, h3, s3, g3⟩ := w_rwL (S := S) (t := t) hv hw hp hr hn (en (T v) (p + 1) - (p + 2)) 0 c2 rfl (h2.congr fun j hj => by
    by_cases e : j = 56
    · subst e
      rw [tu_eq, tu_eq, tu_eq, hTv, hseg, List.nil_append]
      show (T v).take p ++ [] = _
      rw [List.append_nil]
    · rw [tu_ne e, tu_ne e, tu_ne e]) (hs.sx (sx_tr s1 s2) (by simp) (by simp) (by simp) (by simp))
  refine ⟨c3, _, h3, fun j hj => tu_ne hj, sx_tr (sx_tr s1 s2) s3, fun K => ?_⟩
  have e1 : rg 200 (c 8) (nI p + 1) = nI (en (T v) (p + 1)) := by rw [nI_1]; exact hs.behind hl (by omega)
  have e4 : nI p + 2 = nI (p + 2) := by rw [l_2, nI_add]
  have g1' : ∀ (K : Option Value → mM → Prop), go S 25 0 [.ref 1, .int 56] [] (mk c t) K = K none (mk c1 t) := g1
  simp only [↓g14_0, ↓g14_1, ↓g14_4, ↓g14_7, ↓g14_8, ↓g14_9, ↓g14_12, ↓g14_13, ↓g14_14, ↓g14_15, ↓g14_18, ↓g14_19, ↓g14_20, ↓g14_23, ↓g14_25, ↓g14_28, ↓g14_29, ↓g14_32, ↓g14_34, ↓g14_35, ↓g14_36, ↓g14_37, ↓g14_40, ↓g14_41, ↓g14_42, ↓g14_43, ↓g14_47, ↓g14_48, ↓g14_51, ↓g14_52, ↓g14_55, ↓g14_56, ↓g14_58, ↓g14_61, ↓g14_63, ↓g14_64, ↓g14_67, ↓g14_68, ↓g14_70, ↓g14_73, ↓g14_75, ↓g14_76, ↓g14_77, ↓g14_79, ↓g14_82, ↓g14_84, ↓g14_86, ↓g14_89, ↓g14_91, ↓g14_93, ↓g14_96, ↓g14_97, ↓g14_100, ↓g14_102, ↓g14_104, ↓g14_106, ↓g14_109, ↓g14_112, ↓g14_114, ↓g14_116, ↓g14_119, ↓g14_120, ↓g14_121, ↓g14_123, ↓g14_126, ↓g14_129, ↓g14_130, ↓g14_133, ↓g14_135, ↓g14_136, ↓g14_138, ↓g14_139, ↓g14_140, ↓g14_143, ↓g14_146, ↓g14_149, ↓g14_150, ↓g14_153, ↓g14_155, ↓g14_156, ↓g14_157, ↓g14_160, ↓g14_161, ↓g14_164, ↓g14_165, ↓g14_168, ↓g14_169, ↓g14_172, ↓g14_175, ↓g14_176, ↓g14_179, ↓g14_181, ↓g14_182, ↓g14_185, ↓mo_0, ↓mf_0_0, ↓mf_0_1, ↓mf_0_2, ↓mf_0_3, ↓mf_0_4, ↓mo_1, ↓mf_1_0, ↓mf_1_1, ↓mo_2, ↓mf_2_0, ↓mo_4, ↓mf_4_0, ↓mo_6, ↓mf_6_0, ↓mf_6_1, ↓mf_6_2, ↓mf_6_3, ↓mp_6_4, ↓mf_6_4, ↓mp_6_5, ↓mf_6_5, ↓mo_7, ↓mf_7_0, ↓mo_9, ↓mf_9_0, ↓mo_11, ↓mf_11_0, ↓mo_13, ↓mf_13_0, ↓mf_13_1, ↓mp_13_2, ↓mf_13_2, ↓mp_13_3, ↓mf_13_3, ↓mo_14, ↓mf_14_0, ↓mp_14_1, ↓mf_14_1, ↓mp_14_2, ↓mf_14_2, ↓mo_15, ↓mf_15_0, ↓mf_15_1, ↓mp_15_2, ↓mf_15_2, ↓mo_16, ↓mf_16_0, ↓mo_18, ↓mf_18_0, ↓ma_3, ↓ms_3, ↓ma_5, ↓ms_5, ↓ma_8, ↓ms_8, ↓ma_10, ↓ms_10, ↓ma_12, ↓ms_12, ↓ma_17, ↓ms_17, ↓ma_19, ↓ms_19, ↓bnd_some, ↓cond_true, ↓m_pv_none, ↓m_pv_some, m_b01_0, m_b01_1, true_and, and_true, ↓u_term, ↓u_behind, hs.2.1, e1, ↓g1', ↓g2, e4]
  exact g3 K _ _ _
end RW2

