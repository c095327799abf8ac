/-! the law's rewriting, by the places of the L that bind -/
section LRW
variable {l : Tm} {p : Nat}
def reg (l : Tm) (p y : Nat) : Prop := y < p ∨ (p + 2 ≤ y ∧ y < en l (p + 1)) ∨ en l p ≤ y
theorem ps_len (hw : WF l) (hp : p < l.length) (hr : red l p = true) : ps l p l.length = (rwt l p).length := by
  obtain ⟨r1, r2, r3, r4, r5, r6, r7, r8, r9, r10⟩ := red_all hw hp hr
  rw [ps_C (by omega) (by omega) (by omega), rwt_length hp]
theorem ps_le (hw : WF l) (hp : p < l.length) (hr : red l p = true) {k : Nat} (hk : k ≤ l.length) : ps l p k ≤ (rwt l p).length := by
  obtain ⟨r1, r2, r3, r4, r5, r6, r7, r8, r9, r10⟩ := red_all hw hp hr
  rw [rwt_length hp]
  by_cases h1 : k ≤ p
  · rw [ps_A h1]
    omega
  · by_cases h2 : k ≤ en l (p + 1)
    · have h3 := bd_mono l p (show k - (p + 2) ≤ en l (p + 1) - (p + 2) by omega)
      rw [ps_B (by omega) h2]
      omega
    · rw [ps_C (by omega) (by omega) (by omega)]
      omega
/-- a part that comes over as it is -/
theorem rw_F (hw : WF l) (hp : p < l.length) (hr : red l p = true) {k : Nat} (hk : k < l.length) (hg : reg l p k) (hu : p + 2 ≤ k → k < en l (p + 1) → ¬ isU l p k = true) : ps l p (k + 1) = ps l p k + 1 ∧ kd (rwt l p) (ps l p k) = kd l k ∧ bn (rwt l p) (ps l p k) = (if kd l k = 0 then ps l p (bn l k) else bn l k) ∧ (kd l k = 0 → bn l k ≠ p + 1 ∧ bn l k < k ∧ reg l p (bn l k)) := by
  obtain ⟨r1, r2, r3, r4, r5, r6, r7, r8, r9, r10⟩ := red_all hw hp hr
  have hbn : ¬ kd l k = 0 → bn l k = nu l k := fun z => by unfold bn; rw [if_neg z]
  rcases hg with h | ⟨h1, h2⟩ | h
  · obtain ⟨f1, f2⟩ := rw_fA (l := l) hp h
    have e1 : ps l p (k + 1) = ps l p k + 1 := by rw [ps_A (by omega), ps_A (by omega)]
    have e2 : ps l p k = k := ps_A (by omega)
    refine ⟨e1, by rw [e2]; exact congrArg Prod.fst f1, ?_, fun z => ?_⟩
    · rw [e2, f2]
      by_cases z : kd l k = 0
      · have := bn_lt hw hk z
        rw [if_pos z, ps_A (by omega)]
      · rw [if_neg z]
    · have := bn_lt hw hk z
      exact ⟨by omega, by omega, Or.inl (by omega)⟩
  · obtain ⟨f1, f2, f3, f4⟩ := rw_fB hw hp hr h1 h2 (hu h1 h2)
    refine ⟨f1, f2, ?_, fun z => ?_⟩
    · rw [f3]
      by_cases z : kd l k = 0
      · rw [if_pos z, if_pos z]
      · rw [if_neg z, if_neg z, hbn z]
    · obtain ⟨g1, g2⟩ := f4 z
      exact ⟨g1, by omega, by unfold reg; omega⟩
  · obtain ⟨f1, f2, f3, f4⟩ := rw_fC hw hp hr h hk
    refine ⟨f1, f2, ?_, fun z => ?_⟩
    · rw [f3]
      by_cases z : kd l k = 0
      · rw [if_pos z, if_pos z]
      · rw [if_neg z, if_neg z, hbn z]
    · have := f4 z
      exact ⟨by omega, by omega, by unfold reg; omega⟩
def RI (a : Nat → Nat → Int32) (l' : Tm) (x : Nat) : Prop := ∀ y, y < x → a 4 y = nI (kd l' y) ∧ a 5 y = nI (bn l' y)
def RT (a : Nat → Nat → Int32) (l : Tm) (p k : Nat) : Prop := ∀ y, y < k → kd l y = 2 → reg l p y → a 6 y = nI (ps l p y)
theorem RI.put {a : Nat → Nat → Int32} {l' : Tm} {x : Nat} (h : RI a l' x) : RI (ca (ca a 4 (upd (a 4) x (nI (kd l' x)))) 5 (upd (a 5) x (nI (bn l' x)))) l' (x + 1) := fun y hy => by
  rw [ca_eq, cx_5_4, ca_eq]
  by_cases e : y = x
  · subst e
    rw [upd_eq, upd_eq]
    exact ⟨rfl, rfl⟩
  · rw [upd_ne e, upd_ne e]
    exact h y (by omega)
theorem RI.sx {ks : List Nat} {a a' : Nat → Nat → Int32} {l' : Tm} {x : Nat} (h : RI a l' x) (hs : sx ks a a') (h4 : 4 ∉ ks) (h5 : 5 ∉ ks) : RI a' l' x := fun y hy => by
  rw [hs 4 h4, hs 5 h5]
  exact h y hy
theorem RT.sx {ks : List Nat} {a a' : Nat → Nat → Int32} {k : Nat} (h : RT a l p k) (hs : sx ks a a') (h6 : 6 ∉ ks) : RT a' l p k := fun y hy h2 h3 => by
  rw [hs 6 h6]
  exact h y hy h2 h3
variable {S : mS} {c : Nat → Nat → Int32} {r : mM}
theorem x_rwC {l' : Tm} (hl' : l'.length ≤ 62) (j0 j8 j9 j12 : Value) (n : Nat) : ∀ (k : Nat) (a : Nat → Nat → Int32), n + k = l'.length → RI a l' l'.length → a 8 0 = nI l'.length → (∀ y, y < k → a 0 y = nI (kd l' y) ∧ a 1 y = nI (bn l' y)) → ∃ a', LT a' l' ∧ ∀ (K : Option Value → mM → Prop), go S 72 222 [j0, .ref 20, .ref 21, .ref 28, .ref 24, .ref 25, .ref 26, .ref 27, j8, j9, .int (nI l'.length), .int (nI k), j12] [] (mk c (ml a r)) K = K none (mk c (ml a' r)) := by
  induction n with
  | zero =>
    intro k a hn h h8 h0
    have e : k = l'.length := by omega
    subst e
    refine ⟨a, ⟨h8, h0⟩, fun K => ?_⟩
    rw [g72_222]
    simp only [↓g72_0, ↓g72_1, ↓g72_2, ↓g72_3, ↓g72_4, ↓g72_7, ↓g72_9, ↓g72_10, ↓g72_12, ↓g72_15, ↓g72_17, ↓g72_18, ↓g72_20, ↓g72_21, ↓g72_25, ↓g72_26, ↓g72_27, ↓g72_28, ↓g72_31, ↓g72_33, ↓g72_34, ↓g72_37, ↓g72_39, ↓g72_40, ↓g72_41, ↓g72_42, ↓g72_45, ↓g72_47, ↓g72_49, ↓g72_52, ↓g72_54, ↓g72_56, ↓g72_59, ↓g72_62, ↓g72_63, ↓g72_65, ↓g72_66, ↓g72_69, ↓g72_70, ↓g72_72, ↓g72_73, ↓g72_74, ↓g72_75, ↓g72_76, ↓g72_79, ↓g72_81, ↓g72_85, ↓g72_87, ↓g72_90, ↓g72_92, ↓g72_94, ↓g72_96, ↓g72_97, ↓g72_99, ↓g72_101, ↓g72_102, ↓g72_104, ↓g72_105, ↓g72_106, ↓g72_108, ↓g72_110, ↓g72_113, ↓g72_114, ↓g72_116, ↓g72_117, ↓g72_120, ↓g72_121, ↓g72_123, ↓g72_124, ↓g72_127, ↓g72_128, ↓g72_130, ↓g72_131, ↓g72_133, ↓g72_136, ↓g72_138, ↓g72_139, ↓g72_141, ↓g72_142, ↓g72_143, ↓g72_146, ↓g72_148, ↓g72_149, ↓g72_151, ↓g72_152, ↓g72_153, ↓g72_154, ↓g72_157, ↓g72_160, ↓g72_163, ↓g72_165, ↓g72_167, ↓g72_169, ↓g72_170, ↓g72_172, ↓g72_174, ↓g72_175, ↓g72_177, ↓g72_178, ↓g72_179, ↓g72_181, ↓g72_183, ↓g72_186, ↓g72_187, ↓g72_189, ↓g72_190, ↓g72_193, ↓g72_195, ↓g72_196, ↓g72_198, ↓g72_199, ↓g72_200, ↓g72_203, ↓g72_204, ↓g72_206, ↓g72_207, ↓g72_208, ↓g72_211, ↓g72_214, ↓g72_215, ↓g72_216, ↓g72_218, ↓g72_219, ↓g72_220, ↓g72_224, ↓g72_226, ↓g72_229, ↓g72_230, ↓g72_232, ↓g72_234, ↓g72_236, ↓g72_237, ↓g72_238, ↓g72_239, ↓g72_241, ↓g72_243, ↓g72_245, ↓g72_246, ↓g72_247, ↓g72_250, ↓g72_253, Int32.le_refl, ↓reduceIte]
  | succ n ih =>
    intro k a hn h h8 h0
    have hk : k < l'.length := by omega
    have e1 : ¬ nI l'.length ≤ nI k := nI_ge hk (by omega)
    have hs : sx [0, 1] a (ca (ca a 0 (upd (a 0) k (nI (kd l' k)))) 1 (upd (a 1) k (nI (bn l' k)))) := sx_tr (sx_ca (by simp)) (sx_ca (by simp))
    obtain ⟨a', z1, z2⟩ := ih (k + 1) (ca (ca a 0 (upd (a 0) k (nI (kd l' k)))) 1 (upd (a 1) k (nI (bn l' k)))) (by omega) (h.sx hs (by simp) (by simp)) (by rw [hs 8 (by simp)]; exact h8) (fun y hy => by
      rw [cx_1_0, ca_eq, ca_eq]
      by_cases e : y = k
      · subst e
        rw [upd_eq, upd_eq]
        exact ⟨rfl, rfl⟩
      · rw [upd_ne e, upd_ne e]
        exact h0 y (by omega))
    refine ⟨a', z1, fun K => ?_⟩
    rw [g72_222]
    simp only [↓g72_0, ↓g72_1, ↓g72_2, ↓g72_3, ↓g72_4, ↓g72_7, ↓g72_9, ↓g72_10, ↓g72_12, ↓g72_15, ↓g72_17, ↓g72_18, ↓g72_20, ↓g72_21, ↓g72_25, ↓g72_26, ↓g72_27, ↓g72_28, ↓g72_31, ↓g72_33, ↓g72_34, ↓g72_37, ↓g72_39, ↓g72_40, ↓g72_41, ↓g72_42, ↓g72_45, ↓g72_47, ↓g72_49, ↓g72_52, ↓g72_54, ↓g72_56, ↓g72_59, ↓g72_62, ↓g72_63, ↓g72_65, ↓g72_66, ↓g72_69, ↓g72_70, ↓g72_72, ↓g72_73, ↓g72_74, ↓g72_75, ↓g72_76, ↓g72_79, ↓g72_81, ↓g72_85, ↓g72_87, ↓g72_90, ↓g72_92, ↓g72_94, ↓g72_96, ↓g72_97, ↓g72_99, ↓g72_101, ↓g72_102, ↓g72_104, ↓g72_105, ↓g72_106, ↓g72_108, ↓g72_110, ↓g72_113, ↓g72_114, ↓g72_116, ↓g72_117, ↓g72_120, ↓g72_121, ↓g72_123, ↓g72_124, ↓g72_127, ↓g72_128, ↓g72_130, ↓g72_131, ↓g72_133, ↓g72_136, ↓g72_138, ↓g72_139, ↓g72_141, ↓g72_142, ↓g72_143, ↓g72_146, ↓g72_148, ↓g72_149, ↓g72_151, ↓g72_152, ↓g72_153, ↓g72_154, ↓g72_157, ↓g72_160, ↓g72_163, ↓g72_165, ↓g72_167, ↓g72_169, ↓g72_170, ↓g72_172, ↓g72_174, ↓g72_175, ↓g72_177, ↓g72_178, ↓g72_179, ↓g72_181, ↓g72_183, ↓g72_186, ↓g72_187, ↓g72_189, ↓g72_190, ↓g72_193, ↓g72_195, ↓g72_196, ↓g72_198, ↓g72_199, ↓g72_200, ↓g72_203, ↓g72_204, ↓g72_206, ↓g72_207, ↓g72_208, ↓g72_211, ↓g72_214, ↓g72_215, ↓g72_216, ↓g72_218, ↓g72_219, ↓g72_220, ↓g72_224, ↓g72_226, ↓g72_229, ↓g72_230, ↓g72_232, ↓g72_234, ↓g72_236, ↓g72_237, ↓g72_238, ↓g72_239, ↓g72_241, ↓g72_243, ↓g72_245, ↓g72_246, ↓g72_247, ↓g72_250, ↓g72_253, ↓la_20, ↓ls_20, ↓la_21, ↓ls_21, ↓la_22, ↓ls_22, ↓la_23, ↓ls_23, ↓la_24, ↓ls_24, ↓la_25, ↓ls_25, ↓la_26, ↓ls_26, ↓la_27, ↓ls_27, ↓la_28, ↓ls_28, ↓bnd_some, ↓cond_true, ↓m_pv_none, ↓m_pv_some, m_b01_0, m_b01_1, true_and, and_true, ca_eq, ca_ca, cx_0_1, cx_0_2, cx_0_3, cx_0_4, cx_0_5, cx_0_6, cx_0_7, cx_0_8, cx_1_0, cx_1_2, cx_1_3, cx_1_4, cx_1_5, cx_1_6, cx_1_7, cx_1_8, cx_2_0, cx_2_1, cx_2_3, cx_2_4, cx_2_5, cx_2_6, cx_2_7, cx_2_8, cx_3_0, cx_3_1, cx_3_2, cx_3_4, cx_3_5, cx_3_6, cx_3_7, cx_3_8, cx_4_0, cx_4_1, cx_4_2, cx_4_3, cx_4_5, cx_4_6, cx_4_7, cx_4_8, cx_5_0, cx_5_1, cx_5_2, cx_5_3, cx_5_4, cx_5_6, cx_5_7, cx_5_8, cx_6_0, cx_6_1, cx_6_2, cx_6_3, cx_6_4, cx_6_5, cx_6_7, cx_6_8, cx_7_0, cx_7_1, cx_7_2, cx_7_3, cx_7_4, cx_7_5, cx_7_6, cx_7_8, cx_8_0, cx_8_1, cx_8_2, cx_8_3, cx_8_4, cx_8_5, cx_8_6, cx_8_7, e1, ib (show k < 64 by omega), nI_clamp (show k < 2 ^ 31 by omega), (h k hk).1, (h k hk).2, nI_1, ↓reduceIte]
    exact z2 K
/-- the argument's copy -/
theorem x_rwI (hw : WF l) (hl : l.length ≤ 62) (hp : p < l.length) (hr : red l p = true) (hl' : (rwt l p).length ≤ 62) {k : Nat} (h1 : p + 2 ≤ k) (h2 : k < en l (p + 1)) (hu : isU l p k = true) (n : Nat) : ∀ (j : Nat) (a : Nat → Nat → Int32), n + j = en l p - en l (p + 1) → LT a l → RI a (rwt l p) (ps l p k + j) → RT a l p k → (∀ y, y < j → a 7 (en l (p + 1) + y) = nI (ps l p k + y)) → ∃ a', LT a' l ∧ RI a' (rwt l p) (ps l p (k + 1)) ∧ RT a' l p k ∧ ∀ (K : Option Value → mM → Prop), go S 72 83 [.int (nI p), .ref 20, .ref 21, .ref 28, .ref 24, .ref 25, .ref 26, .ref 27, .int (nI (en l (p + 1))), .int (nI (en l p)), .int (nI (ps l p k + j)), .int (nI k), .int (nI (en l (p + 1) + j))] [] (mk c (ml a r)) K = go S 72 23 [.int (nI p), .ref 20, .ref 21, .ref 28, .ref 24, .ref 25, .ref 26, .ref 27, .int (nI (en l (p + 1))), .int (nI (en l p)), .int (nI (ps l p (k + 1))), .int (nI (k + 1)), .int (nI (en l p))] [] (mk c (ml a' r)) K := by
  obtain ⟨r1, r2, r3, r4, r5, r6, r7, r8, r9, r10⟩ := red_all hw hp hr
  obtain ⟨u1, u2⟩ := rw_fU hw hp hr h1 h2 hu
  induction n with
  | zero =>
    intro j a hn h hI hT h7
    have e : j = en l p - en l (p + 1) := by omega
    subst e
    refine ⟨a, h, by rw [u1]; exact hI, hT, fun K => ?_⟩
    rw [show en l (p + 1) + (en l p - en l (p + 1)) = en l p by omega, ← u1, g72_83]
    simp only [↓g72_0, ↓g72_1, ↓g72_2, ↓g72_3, ↓g72_4, ↓g72_7, ↓g72_9, ↓g72_10, ↓g72_12, ↓g72_15, ↓g72_17, ↓g72_18, ↓g72_20, ↓g72_21, ↓g72_25, ↓g72_26, ↓g72_27, ↓g72_28, ↓g72_31, ↓g72_33, ↓g72_34, ↓g72_37, ↓g72_39, ↓g72_40, ↓g72_41, ↓g72_42, ↓g72_45, ↓g72_47, ↓g72_49, ↓g72_52, ↓g72_54, ↓g72_56, ↓g72_59, ↓g72_62, ↓g72_63, ↓g72_65, ↓g72_66, ↓g72_69, ↓g72_70, ↓g72_72, ↓g72_73, ↓g72_74, ↓g72_75, ↓g72_76, ↓g72_79, ↓g72_81, ↓g72_85, ↓g72_87, ↓g72_90, ↓g72_92, ↓g72_94, ↓g72_96, ↓g72_97, ↓g72_99, ↓g72_101, ↓g72_102, ↓g72_104, ↓g72_105, ↓g72_106, ↓g72_108, ↓g72_110, ↓g72_113, ↓g72_114, ↓g72_116, ↓g72_117, ↓g72_120, ↓g72_121, ↓g72_123, ↓g72_124, ↓g72_127, ↓g72_128, ↓g72_130, ↓g72_131, ↓g72_133, ↓g72_136, ↓g72_138, ↓g72_139, ↓g72_141, ↓g72_142, ↓g72_143, ↓g72_146, ↓g72_148, ↓g72_149, ↓g72_151, ↓g72_152, ↓g72_153, ↓g72_154, ↓g72_157, ↓g72_160, ↓g72_163, ↓g72_165, ↓g72_167, ↓g72_169, ↓g72_170, ↓g72_172, ↓g72_174, ↓g72_175, ↓g72_177, ↓g72_178, ↓g72_179, ↓g72_181, ↓g72_183, ↓g72_186, ↓g72_187, ↓g72_189, ↓g72_190, ↓g72_193, ↓g72_195, ↓g72_196, ↓g72_198, ↓g72_199, ↓g72_200, ↓g72_203, ↓g72_204, ↓g72_206, ↓g72_207, ↓g72_208, ↓g72_211, ↓g72_214, ↓g72_215, ↓g72_216, ↓g72_218, ↓g72_219, ↓g72_220, ↓g72_224, ↓g72_226, ↓g72_229, ↓g72_230, ↓g72_232, ↓g72_234, ↓g72_236, ↓g72_237, ↓g72_238, ↓g72_239, ↓g72_241, ↓g72_243, ↓g72_245, ↓g72_246, ↓g72_247, ↓g72_250, ↓g72_253, Int32.le_refl, nI_1, ↓reduceIte]
  | succ n ih =>
    intro j a hn h hI hT h7
    have hj : j < en l p - en l (p + 1) := by omega
    obtain ⟨v1, v2, v3⟩ := u2 j hj
    have hil : en l (p + 1) + j < l.length := by omega
    have hps := ps_le hw hp hr (show k + 1 ≤ l.length by omega)
    have e1 : ¬ nI (en l p) ≤ nI (en l (p + 1) + j) := nI_ge (by omega) (by omega)
    have hkd := hw.kd hil
    have e4 : (nI (kd l (en l (p + 1) + j)) = 0) = (kd l (en l (p + 1) + j) = 0) := propext (nI_z (by omega))
    have hs7 : sx [7] a (ca a 7 (upd (a 7) (en l (p + 1) + j) (nI (ps l p k + j)))) := sx_ca (by simp)
    have hI2 := (hI.sx hs7 (by simp) (by simp)).put
    have hs : sx [4, 5, 7] a (ca (ca (ca a 7 (upd (a 7) (en l (p + 1) + j) (nI (ps l p k + j)))) 4 (upd (a 4) (ps l p k + j) (nI (kd (rwt l p) (ps l p k + j))))) 5 (upd (a 5) (ps l p k + j) (nI (bn (rwt l p) (ps l p k + j))))) := sx_tr (sx_ca (by simp)) (sx_tr (sx_ca (by simp)) (sx_ca (by simp)))
    obtain ⟨a', z0, z1, z2, z3⟩ := ih (j + 1) _ (by omega) (h.sx hs (by simp) (by simp) (by simp)) hI2 (hT.sx hs (by simp)) (fun y hy => by
      rw [cx_5_7, cx_4_7, ca_eq]
      by_cases e : y = j
      · subst e
        rw [upd_eq]
      · rw [upd_ne (by omega)]
        exact h7 y (by omega))
    refine ⟨a', z0, z1, z2, fun K => ?_⟩
    rw [← z3 K, g72_83]
    by_cases h0 : kd l (en l (p + 1) + j) = 0
    · have hb := bn_lt hw hil h0
      rw [if_pos h0] at v2
      by_cases hge : en l (p + 1) ≤ bn l (en l (p + 1) + j)
      · rw [if_pos hge] at v2
        have e5 : ¬ nI (bn l (en l (p + 1) + j)) < nI (en l (p + 1)) := nI_nlt hge (by omega)
        have e6 : a 7 (bn l (en l (p + 1) + j)) = nI (ps l p k + (bn l (en l (p + 1) + j) - en l (p + 1))) := by
          have := h7 (bn l (en l (p + 1) + j) - en l (p + 1)) (by omega)
          rw [show en l (p + 1) + (bn l (en l (p + 1) + j) - en l (p + 1)) = bn l (en l (p + 1) + j) by omega] at this
          exact this
        simp only [↓g72_0, ↓g72_1, ↓g72_2, ↓g72_3, ↓g72_4, ↓g72_7, ↓g72_9, ↓g72_10, ↓g72_12, ↓g72_15, ↓g72_17, ↓g72_18, ↓g72_20, ↓g72_21, ↓g72_25, ↓g72_26, ↓g72_27, ↓g72_28, ↓g72_31, ↓g72_33, ↓g72_34, ↓g72_37, ↓g72_39, ↓g72_40, ↓g72_41, ↓g72_42, ↓g72_45, ↓g72_47, ↓g72_49, ↓g72_52, ↓g72_54, ↓g72_56, ↓g72_59, ↓g72_62, ↓g72_63, ↓g72_65, ↓g72_66, ↓g72_69, ↓g72_70, ↓g72_72, ↓g72_73, ↓g72_74, ↓g72_75, ↓g72_76, ↓g72_79, ↓g72_81, ↓g72_85, ↓g72_87, ↓g72_90, ↓g72_92, ↓g72_94, ↓g72_96, ↓g72_97, ↓g72_99, ↓g72_101, ↓g72_102, ↓g72_104, ↓g72_105, ↓g72_106, ↓g72_108, ↓g72_110, ↓g72_113, ↓g72_114, ↓g72_116, ↓g72_117, ↓g72_120, ↓g72_121, ↓g72_123, ↓g72_124, ↓g72_127, ↓g72_128, ↓g72_130, ↓g72_131, ↓g72_133, ↓g72_136, ↓g72_138, ↓g72_139, ↓g72_141, ↓g72_142, ↓g72_143, ↓g72_146, ↓g72_148, ↓g72_149, ↓g72_151, ↓g72_152, ↓g72_153, ↓g72_154, ↓g72_157, ↓g72_160, ↓g72_163, ↓g72_165, ↓g72_167, ↓g72_169, ↓g72_170, ↓g72_172, ↓g72_174, ↓g72_175, ↓g72_177, ↓g72_178, ↓g72_179, ↓g72_181, ↓g72_183, ↓g72_186, ↓g72_187, ↓g72_189, ↓g72_190, ↓g72_193, ↓g72_195, ↓g72_196, ↓g72_198, ↓g72_199, ↓g72_200, ↓g72_203, ↓g72_204, ↓g72_206, ↓g72_207, ↓g72_208, ↓g72_211, ↓g72_214, ↓g72_215, ↓g72_216, ↓g72_218, ↓g72_219, ↓g72_220, ↓g72_224, ↓g72_226, ↓g72_229, ↓g72_230, ↓g72_232, ↓g72_234, ↓g72_236, ↓g72_237, ↓g72_238, ↓g72_239, ↓g72_241, ↓g72_243, ↓g72_245, ↓g72_246, ↓g72_247, ↓g72_250, ↓g72_253, ↓la_20, ↓ls_20, ↓la_21, ↓ls_21, ↓la_22, ↓ls_22, ↓la_23, ↓ls_23, ↓la_24, ↓ls_24, ↓la_25, ↓ls_25, ↓la_26, ↓ls_26, ↓la_27, ↓ls_27, ↓la_28, ↓ls_28, ↓bnd_some, ↓cond_true, ↓m_pv_none, ↓m_pv_some, m_b01_0, m_b01_1, true_and, and_true, ca_eq, ca_ca, cx_0_1, cx_0_2, cx_0_3, cx_0_4, cx_0_5, cx_0_6, cx_0_7, cx_0_8, cx_1_0, cx_1_2, cx_1_3, cx_1_4, cx_1_5, cx_1_6, cx_1_7, cx_1_8, cx_2_0, cx_2_1, cx_2_3, cx_2_4, cx_2_5, cx_2_6, cx_2_7, cx_2_8, cx_3_0, cx_3_1, cx_3_2, cx_3_4, cx_3_5, cx_3_6, cx_3_7, cx_3_8, cx_4_0, cx_4_1, cx_4_2, cx_4_3, cx_4_5, cx_4_6, cx_4_7, cx_4_8, cx_5_0, cx_5_1, cx_5_2, cx_5_3, cx_5_4, cx_5_6, cx_5_7, cx_5_8, cx_6_0, cx_6_1, cx_6_2, cx_6_3, cx_6_4, cx_6_5, cx_6_7, cx_6_8, cx_7_0, cx_7_1, cx_7_2, cx_7_3, cx_7_4, cx_7_5, cx_7_6, cx_7_8, cx_8_0, cx_8_1, cx_8_2, cx_8_3, cx_8_4, cx_8_5, cx_8_6, cx_8_7, e1, (h.2 _ hil).1, (h.2 _ hil).2, ib (show en l (p + 1) + j < 64 by omega), nI_clamp (show en l (p + 1) + j < 2 ^ 31 by omega), ib (show ps l p k + j < 64 by omega), nI_clamp (show ps l p k + j < 2 ^ 31 by omega), e4, h0, e5, ib (show bn l (en l (p + 1) + j) < 64 by omega), nI_clamp (show bn l (en l (p + 1) + j) < 2 ^ 31 by omega), upd_ne (show bn l (en l (p + 1) + j) ≠ en l (p + 1) + j by omega), e6, nI_1, v1, v2, ↓reduceIte]
        rfl
      · rw [if_neg hge] at v2
        have e5 : nI (bn l (en l (p + 1) + j)) < nI (en l (p + 1)) := nI_lt (by omega) (by omega)
        have hlo : bn l (en l (p + 1) + j) < p := by
          have := v3 h0
          omega
        have e6 : a 6 (bn l (en l (p + 1) + j)) = nI (bn l (en l (p + 1) + j)) := by
          have := hT _ (by omega) hb.2 (Or.inl hlo)
          rw [ps_A (by omega)] at this
          exact this
        simp only [↓g72_0, ↓g72_1, ↓g72_2, ↓g72_3, ↓g72_4, ↓g72_7, ↓g72_9, ↓g72_10, ↓g72_12, ↓g72_15, ↓g72_17, ↓g72_18, ↓g72_20, ↓g72_21, ↓g72_25, ↓g72_26, ↓g72_27, ↓g72_28, ↓g72_31, ↓g72_33, ↓g72_34, ↓g72_37, ↓g72_39, ↓g72_40, ↓g72_41, ↓g72_42, ↓g72_45, ↓g72_47, ↓g72_49, ↓g72_52, ↓g72_54, ↓g72_56, ↓g72_59, ↓g72_62, ↓g72_63, ↓g72_65, ↓g72_66, ↓g72_69, ↓g72_70, ↓g72_72, ↓g72_73, ↓g72_74, ↓g72_75, ↓g72_76, ↓g72_79, ↓g72_81, ↓g72_85, ↓g72_87, ↓g72_90, ↓g72_92, ↓g72_94, ↓g72_96, ↓g72_97, ↓g72_99, ↓g72_101, ↓g72_102, ↓g72_104, ↓g72_105, ↓g72_106, ↓g72_108, ↓g72_110, ↓g72_113, ↓g72_114, ↓g72_116, ↓g72_117, ↓g72_120, ↓g72_121, ↓g72_123, ↓g72_124, ↓g72_127, ↓g72_128, ↓g72_130, ↓g72_131, ↓g72_133, ↓g72_136, ↓g72_138, ↓g72_139, ↓g72_141, ↓g72_142, ↓g72_143, ↓g72_146, ↓g72_148, ↓g72_149, ↓g72_151, ↓g72_152, ↓g72_153, ↓g72_154, ↓g72_157, ↓g72_160, ↓g72_163, ↓g72_165, ↓g72_167, ↓g72_169, ↓g72_170, ↓g72_172, ↓g72_174, ↓g72_175, ↓g72_177, ↓g72_178, ↓g72_179, ↓g72_181, ↓g72_183, ↓g72_186, ↓g72_187, ↓g72_189, ↓g72_190, ↓g72_193, ↓g72_195, ↓g72_196, ↓g72_198, ↓g72_199, ↓g72_200, ↓g72_203, ↓g72_204, ↓g72_206, ↓g72_207, ↓g72_208, ↓g72_211, ↓g72_214, ↓g72_215, ↓g72_216, ↓g72_218, ↓g72_219, ↓g72_220, ↓g72_224, ↓g72_226, ↓g72_229, ↓g72_230, ↓g72_232, ↓g72_234, ↓g72_236, ↓g72_237, ↓g72_238, ↓g72_239, ↓g72_241, ↓g72_243, ↓g72_245, ↓g72_246, ↓g72_247, ↓g72_250, ↓g72_253, ↓la_20, ↓ls_20, ↓la_21, ↓ls_21, ↓la_22, ↓ls_22, ↓la_23, ↓ls_23, ↓la_24, ↓ls_24, ↓la_25, ↓ls_25, ↓la_26, ↓ls_26, ↓la_27, ↓ls_27, ↓la_28, ↓ls_28, ↓bnd_some, ↓cond_true, ↓m_pv_none, ↓m_pv_some, m_b01_0, m_b01_1, true_and, and_true, ca_eq, ca_ca, cx_0_1, cx_0_2, cx_0_3, cx_0_4, cx_0_5, cx_0_6, cx_0_7, cx_0_8, cx_1_0, cx_1_2, cx_1_3, cx_1_4, cx_1_5, cx_1_6, cx_1_7, cx_1_8, cx_2_0, cx_2_1, cx_2_3, cx_2_4, cx_2_5, cx_2_6, cx_2_7, cx_2_8, cx_3_0, cx_3_1, cx_3_2, cx_3_4, cx_3_5, cx_3_6, cx_3_7, cx_3_8, cx_4_0, cx_4_1, cx_4_2, cx_4_3, cx_4_5, cx_4_6, cx_4_7, cx_4_8, cx_5_0, cx_5_1, cx_5_2, cx_5_3, cx_5_4, cx_5_6, cx_5_7, cx_5_8, cx_6_0, cx_6_1, cx_6_2, cx_6_3, cx_6_4, cx_6_5, cx_6_7, cx_6_8, cx_7_0, cx_7_1, cx_7_2, cx_7_3, cx_7_4, cx_7_5, cx_7_6, cx_7_8, cx_8_0, cx_8_1, cx_8_2, cx_8_3, cx_8_4, cx_8_5, cx_8_6, cx_8_7, e1, (h.2 _ hil).1, (h.2 _ hil).2, ib (show en l (p + 1) + j < 64 by omega), nI_clamp (show en l (p + 1) + j < 2 ^ 31 by omega), ib (show ps l p k + j < 64 by omega), nI_clamp (show ps l p k + j < 2 ^ 31 by omega), e4, h0, e5, ib (show bn l (en l (p + 1) + j) < 64 by omega), nI_clamp (show bn l (en l (p + 1) + j) < 2 ^ 31 by omega), e6, nI_1, v1, v2, ↓reduceIte]
        rfl
    · rw [if_neg h0] at v2
      have e7 : bn l (en l (p + 1) + j) = nu l (en l (p + 1) + j) := by unfold bn; rw [if_neg h0]
      rw [← e7] at v2
      simp only [↓g72_0, ↓g72_1, ↓g72_2, ↓g72_3, ↓g72_4, ↓g72_7, ↓g72_9, ↓g72_10, ↓g72_12, ↓g72_15, ↓g72_17, ↓g72_18, ↓g72_20, ↓g72_21, ↓g72_25, ↓g72_26, ↓g72_27, ↓g72_28, ↓g72_31, ↓g72_33, ↓g72_34, ↓g72_37, ↓g72_39, ↓g72_40, ↓g72_41, ↓g72_42, ↓g72_45, ↓g72_47, ↓g72_49, ↓g72_52, ↓g72_54, ↓g72_56, ↓g72_59, ↓g72_62, ↓g72_63, ↓g72_65, ↓g72_66, ↓g72_69, ↓g72_70, ↓g72_72, ↓g72_73, ↓g72_74, ↓g72_75, ↓g72_76, ↓g72_79, ↓g72_81, ↓g72_85, ↓g72_87, ↓g72_90, ↓g72_92, ↓g72_94, ↓g72_96, ↓g72_97, ↓g72_99, ↓g72_101, ↓g72_102, ↓g72_104, ↓g72_105, ↓g72_106, ↓g72_108, ↓g72_110, ↓g72_113, ↓g72_114, ↓g72_116, ↓g72_117, ↓g72_120, ↓g72_121, ↓g72_123, ↓g72_124, ↓g72_127, ↓g72_128, ↓g72_130, ↓g72_131, ↓g72_133, ↓g72_136, ↓g72_138, ↓g72_139, ↓g72_141, ↓g72_142, ↓g72_143, ↓g72_146, ↓g72_148, ↓g72_149, ↓g72_151, ↓g72_152, ↓g72_153, ↓g72_154, ↓g72_157, ↓g72_160, ↓g72_163, ↓g72_165, ↓g72_167, ↓g72_169, ↓g72_170, ↓g72_172, ↓g72_174, ↓g72_175, ↓g72_177, ↓g72_178, ↓g72_179, ↓g72_181, ↓g72_183, ↓g72_186, ↓g72_187, ↓g72_189, ↓g72_190, ↓g72_193, ↓g72_195, ↓g72_196, ↓g72_198, ↓g72_199, ↓g72_200, ↓g72_203, ↓g72_204, ↓g72_206, ↓g72_207, ↓g72_208, ↓g72_211, ↓g72_214, ↓g72_215, ↓g72_216, ↓g72_218, ↓g72_219, ↓g72_220, ↓g72_224, ↓g72_226, ↓g72_229, ↓g72_230, ↓g72_232, ↓g72_234, ↓g72_236, ↓g72_237, ↓g72_238, ↓g72_239, ↓g72_241, ↓g72_243, ↓g72_245, ↓g72_246, ↓g72_247, ↓g72_250, ↓g72_253, ↓la_20, ↓ls_20, ↓la_21, ↓ls_21, ↓la_22, ↓ls_22, ↓la_23, ↓ls_23, ↓la_24, ↓ls_24, ↓la_25, ↓ls_25, ↓la_26, ↓ls_26, ↓la_27, ↓ls_27, ↓la_28, ↓ls_28, ↓bnd_some, ↓cond_true, ↓m_pv_none, ↓m_pv_some, m_b01_0, m_b01_1, true_and, and_true, ca_eq, ca_ca, cx_0_1, cx_0_2, cx_0_3, cx_0_4, cx_0_5, cx_0_6, cx_0_7, cx_0_8, cx_1_0, cx_1_2, cx_1_3, cx_1_4, cx_1_5, cx_1_6, cx_1_7, cx_1_8, cx_2_0, cx_2_1, cx_2_3, cx_2_4, cx_2_5, cx_2_6, cx_2_7, cx_2_8, cx_3_0, cx_3_1, cx_3_2, cx_3_4, cx_3_5, cx_3_6, cx_3_7, cx_3_8, cx_4_0, cx_4_1, cx_4_2, cx_4_3, cx_4_5, cx_4_6, cx_4_7, cx_4_8, cx_5_0, cx_5_1, cx_5_2, cx_5_3, cx_5_4, cx_5_6, cx_5_7, cx_5_8, cx_6_0, cx_6_1, cx_6_2, cx_6_3, cx_6_4, cx_6_5, cx_6_7, cx_6_8, cx_7_0, cx_7_1, cx_7_2, cx_7_3, cx_7_4, cx_7_5, cx_7_6, cx_7_8, cx_8_0, cx_8_1, cx_8_2, cx_8_3, cx_8_4, cx_8_5, cx_8_6, cx_8_7, e1, (h.2 _ hil).1, (h.2 _ hil).2, ib (show en l (p + 1) + j < 64 by omega), nI_clamp (show en l (p + 1) + j < 2 ^ 31 by omega), ib (show ps l p k + j < 64 by omega), nI_clamp (show ps l p k + j < 2 ^ 31 by omega), e4, h0, nI_1, v1, v2, ↓reduceIte]
      rfl
end LRW
