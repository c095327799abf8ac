/-! the law's next place, and the size behind a step -/
/-- no reducible place among the n places from i on -/
def alr (l : Tm) : Nat → Nat → Bool
  | 0, _ => true
  | n + 1, i => !red l i && alr l n (i + 1)
theorem alr_iff {l : Tm} : ∀ {n i : Nat}, alr l n i = true ↔ ∀ j, i ≤ j → j < i + n → red l j = false
  | 0, i => ⟨fun _ j h1 h2 => by omega, fun _ => rfl⟩
  | n + 1, i => by
    unfold alr
    rw [Bool.and_eq_true, alr_iff, Bool.not_eq_true']
    constructor
    · rintro ⟨h1, h2⟩ j h3 h4
      by_cases e : j = i
      · subst e
        exact h1
      · exact h2 j (by omega) (by omega)
    · intro h
      exact ⟨h i (Nat.le_refl _) (by omega), fun j h1 h2 => h j (by omega) (by omega)⟩
theorem inn_alr {l : Tm} {k : Nat} (hr : red l k = true) (hk : k < en l k) : inn l k = alr l (en l k - (k + 1)) (k + 1) := by
  cases h : alr l (en l k - (k + 1)) (k + 1) with
  | true =>
    have h1 := alr_iff.mp h
    exact inn_of hr fun j z1 z2 => h1 j (by omega) (by omega)
  | false =>
    unfold inn
    rw [decide_eq_false_iff_not]
    rintro ⟨-, h2⟩
    have h3 : alr l (en l k - (k + 1)) (k + 1) = true := alr_iff.mpr fun j z1 z2 => h2 j (by omega) (by omega)
    rw [h] at h3
    cases h3
def bI (b : Bool) : Int32 := if b = true then 1 else 0
theorem bI_t : bI true = 1 := rfl
theorem bI_f : bI false = 0 := rfl
theorem i10 : ((1 : Int32) = 0) = False := eq_false (by decide)
section NEXT
variable {S : mS} {c : Nat → Nat → Int32} {r : mM} {l : Tm}
theorem x_nextI (hw : WF l) (hl : l.length ≤ 62) {a : Nat → Nat → Int32} (h : ∀ p, p < l.length → a 0 p = nI (kd l p)) {k : Nat} (hk : k < l.length) (n : Nat) : ∀ (i : Nat) (b : Bool), n + i = en l k → ∀ (K : Option Value → mM → Prop), go S 70 53 [.int 1, .ref 20, .ref 28, .ref 22, .int (nI k), .int (bI b), .int (nI i)] [] (mk c (ml a r)) K = go S 70 105 [.int 1, .ref 20, .ref 28, .ref 22, .int (nI k), .int (bI (b && alr l n i)), .int (nI (en l k))] [] (mk c (ml a r)) K := by
  have hel := en_le (l := l) (Nat.le_of_lt hk)
  have g1 := fun K => x_end (S := S) (c := c) (r := r) hw hl h hk K
  induction n with
  | zero =>
    intro i b hn K
    have e : i = en l k := by omega
    subst e
    rw [g70_53]
    simp only [↓g70_0, ↓g70_1, ↓g70_5, ↓g70_6, ↓g70_7, ↓g70_8, ↓g70_11, ↓g70_12, ↓g70_14, ↓g70_15, ↓g70_16, ↓g70_19, ↓g70_20, ↓g70_22, ↓g70_23, ↓g70_24, ↓g70_25, ↓g70_26, ↓g70_29, ↓g70_30, ↓g70_31, ↓g70_34, ↓g70_35, ↓g70_37, ↓g70_38, ↓g70_41, ↓g70_44, ↓g70_45, ↓g70_47, ↓g70_49, ↓g70_50, ↓g70_51, ↓g70_54, ↓g70_55, ↓g70_58, ↓g70_60, ↓g70_61, ↓g70_63, ↓g70_66, ↓g70_69, ↓g70_71, ↓g70_74, ↓g70_75, ↓g70_77, ↓g70_78, ↓g70_79, ↓g70_82, ↓g70_83, ↓g70_85, ↓g70_86, ↓g70_87, ↓g70_88, ↓g70_89, ↓g70_92, ↓g70_93, ↓g70_96, ↓g70_97, ↓g70_99, ↓g70_102, ↓g70_107, ↓g70_110, ↓g70_112, ↓g70_113, ↓g70_116, ↓g70_119, ↓g70_121, ↓la_20, ↓ls_20, ↓la_21, ↓ls_21, ↓la_22, ↓ls_22, ↓la_23, ↓ls_23, ↓la_24, ↓ls_24, ↓la_25, ↓ls_25, ↓la_26, ↓ls_26, ↓la_27, ↓ls_27, ↓la_28, ↓ls_28, ↓bnd_some, ↓cond_true, ↓m_pv_none, ↓m_pv_some, m_b01_0, m_b01_1, true_and, and_true, ↓g1, Int32.le_refl, ↓reduceIte, alr, Bool.and_true]
  | succ n ih =>
    intro i b hn K
    have hil : i < l.length := by omega
    have e1 : ¬ nI (en l k) ≤ nI i := nI_ge (by omega) (by omega)
    have hkd := hw.kd hil
    have e4 : (nI (kd l i) = 3) = (kd l i = 3) := propext (nI_eq (b := 3) (by omega) (by decide))
    cases b with
    | false =>
      have g2 := ih (i + 1) false (by omega) K
      rw [g70_53]
      simp only [↓g70_0, ↓g70_1, ↓g70_5, ↓g70_6, ↓g70_7, ↓g70_8, ↓g70_11, ↓g70_12, ↓g70_14, ↓g70_15, ↓g70_16, ↓g70_19, ↓g70_20, ↓g70_22, ↓g70_23, ↓g70_24, ↓g70_25, ↓g70_26, ↓g70_29, ↓g70_30, ↓g70_31, ↓g70_34, ↓g70_35, ↓g70_37, ↓g70_38, ↓g70_41, ↓g70_44, ↓g70_45, ↓g70_47, ↓g70_49, ↓g70_50, ↓g70_51, ↓g70_54, ↓g70_55, ↓g70_58, ↓g70_60, ↓g70_61, ↓g70_63, ↓g70_66, ↓g70_69, ↓g70_71, ↓g70_74, ↓g70_75, ↓g70_77, ↓g70_78, ↓g70_79, ↓g70_82, ↓g70_83, ↓g70_85, ↓g70_86, ↓g70_87, ↓g70_88, ↓g70_89, ↓g70_92, ↓g70_93, ↓g70_96, ↓g70_97, ↓g70_99, ↓g70_102, ↓g70_107, ↓g70_110, ↓g70_112, ↓g70_113, ↓g70_116, ↓g70_119, ↓g70_121, ↓la_20, ↓ls_20, ↓la_21, ↓ls_21, ↓la_22, ↓ls_22, ↓la_23, ↓ls_23, ↓la_24, ↓ls_24, ↓la_25, ↓ls_25, ↓la_26, ↓ls_26, ↓la_27, ↓ls_27, ↓la_28, ↓ls_28, ↓bnd_some, ↓cond_true, ↓m_pv_none, ↓m_pv_some, m_b01_0, m_b01_1, true_and, and_true, ↓g1, e1, bI_f, ↓reduceIte, nI_1]
      exact g2
    | true =>
      by_cases h3 : kd l i = 3
      · have hc := child_3 hw hil h3
        have hkd2 := hw.kd hc
        have e5 : (nI (kd l (i + 1)) = 2) = (kd l (i + 1) = 2) := propext (nI_eq (b := 2) (by omega) (by decide))
        by_cases h2 : kd l (i + 1) = 2
        · have hr : red l i = true := by unfold red; exact decide_eq_true ⟨h3, h2⟩
          have g2 := ih (i + 1) false (by omega) K
          rw [g70_53]
          simp only [↓g70_0, ↓g70_1, ↓g70_5, ↓g70_6, ↓g70_7, ↓g70_8, ↓g70_11, ↓g70_12, ↓g70_14, ↓g70_15, ↓g70_16, ↓g70_19, ↓g70_20, ↓g70_22, ↓g70_23, ↓g70_24, ↓g70_25, ↓g70_26, ↓g70_29, ↓g70_30, ↓g70_31, ↓g70_34, ↓g70_35, ↓g70_37, ↓g70_38, ↓g70_41, ↓g70_44, ↓g70_45, ↓g70_47, ↓g70_49, ↓g70_50, ↓g70_51, ↓g70_54, ↓g70_55, ↓g70_58, ↓g70_60, ↓g70_61, ↓g70_63, ↓g70_66, ↓g70_69, ↓g70_71, ↓g70_74, ↓g70_75, ↓g70_77, ↓g70_78, ↓g70_79, ↓g70_82, ↓g70_83, ↓g70_85, ↓g70_86, ↓g70_87, ↓g70_88, ↓g70_89, ↓g70_92, ↓g70_93, ↓g70_96, ↓g70_97, ↓g70_99, ↓g70_102, ↓g70_107, ↓g70_110, ↓g70_112, ↓g70_113, ↓g70_116, ↓g70_119, ↓g70_121, ↓la_20, ↓ls_20, ↓la_21, ↓ls_21, ↓la_22, ↓ls_22, ↓la_23, ↓ls_23, ↓la_24, ↓ls_24, ↓la_25, ↓ls_25, ↓la_26, ↓ls_26, ↓la_27, ↓ls_27, ↓la_28, ↓ls_28, ↓bnd_some, ↓cond_true, ↓m_pv_none, ↓m_pv_some, m_b01_0, m_b01_1, true_and, and_true, ↓g1, e1, bI_t, i10, h i hil, ib (show i < 64 by omega), nI_clamp (show i < 2 ^ 31 by omega), e4, h3, nI_1, h (i + 1) hc, ib (show i + 1 < 64 by omega), nI_clamp (show i + 1 < 2 ^ 31 by omega), e5, h2, ↓reduceIte]
          rw [alr, hr]
          exact g2
        · have hr : red l i = false := by unfold red; exact decide_eq_false (fun z => h2 z.2)
          have g2 := ih (i + 1) true (by omega) K
          rw [g70_53]
          simp only [↓g70_0, ↓g70_1, ↓g70_5, ↓g70_6, ↓g70_7, ↓g70_8, ↓g70_11, ↓g70_12, ↓g70_14, ↓g70_15, ↓g70_16, ↓g70_19, ↓g70_20, ↓g70_22, ↓g70_23, ↓g70_24, ↓g70_25, ↓g70_26, ↓g70_29, ↓g70_30, ↓g70_31, ↓g70_34, ↓g70_35, ↓g70_37, ↓g70_38, ↓g70_41, ↓g70_44, ↓g70_45, ↓g70_47, ↓g70_49, ↓g70_50, ↓g70_51, ↓g70_54, ↓g70_55, ↓g70_58, ↓g70_60, ↓g70_61, ↓g70_63, ↓g70_66, ↓g70_69, ↓g70_71, ↓g70_74, ↓g70_75, ↓g70_77, ↓g70_78, ↓g70_79, ↓g70_82, ↓g70_83, ↓g70_85, ↓g70_86, ↓g70_87, ↓g70_88, ↓g70_89, ↓g70_92, ↓g70_93, ↓g70_96, ↓g70_97, ↓g70_99, ↓g70_102, ↓g70_107, ↓g70_110, ↓g70_112, ↓g70_113, ↓g70_116, ↓g70_119, ↓g70_121, ↓la_20, ↓ls_20, ↓la_21, ↓ls_21, ↓la_22, ↓ls_22, ↓la_23, ↓ls_23, ↓la_24, ↓ls_24, ↓la_25, ↓ls_25, ↓la_26, ↓ls_26, ↓la_27, ↓ls_27, ↓la_28, ↓ls_28, ↓bnd_some, ↓cond_true, ↓m_pv_none, ↓m_pv_some, m_b01_0, m_b01_1, true_and, and_true, ↓g1, e1, bI_t, i10, h i hil, ib (show i < 64 by omega), nI_clamp (show i < 2 ^ 31 by omega), e4, h3, nI_1, h (i + 1) hc, ib (show i + 1 < 64 by omega), nI_clamp (show i + 1 < 2 ^ 31 by omega), e5, h2, ↓reduceIte]
          rw [alr, hr]
          exact g2
      · have hr : red l i = false := by unfold red; exact decide_eq_false (fun z => h3 z.1)
        have g2 := ih (i + 1) true (by omega) K
        rw [g70_53]
        simp only [↓g70_0, ↓g70_1, ↓g70_5, ↓g70_6, ↓g70_7, ↓g70_8, ↓g70_11, ↓g70_12, ↓g70_14, ↓g70_15, ↓g70_16, ↓g70_19, ↓g70_20, ↓g70_22, ↓g70_23, ↓g70_24, ↓g70_25, ↓g70_26, ↓g70_29, ↓g70_30, ↓g70_31, ↓g70_34, ↓g70_35, ↓g70_37, ↓g70_38, ↓g70_41, ↓g70_44, ↓g70_45, ↓g70_47, ↓g70_49, ↓g70_50, ↓g70_51, ↓g70_54, ↓g70_55, ↓g70_58, ↓g70_60, ↓g70_61, ↓g70_63, ↓g70_66, ↓g70_69, ↓g70_71, ↓g70_74, ↓g70_75, ↓g70_77, ↓g70_78, ↓g70_79, ↓g70_82, ↓g70_83, ↓g70_85, ↓g70_86, ↓g70_87, ↓g70_88, ↓g70_89, ↓g70_92, ↓g70_93, ↓g70_96, ↓g70_97, ↓g70_99, ↓g70_102, ↓g70_107, ↓g70_110, ↓g70_112, ↓g70_113, ↓g70_116, ↓g70_119, ↓g70_121, ↓la_20, ↓ls_20, ↓la_21, ↓ls_21, ↓la_22, ↓ls_22, ↓la_23, ↓ls_23, ↓la_24, ↓ls_24, ↓la_25, ↓ls_25, ↓la_26, ↓ls_26, ↓la_27, ↓ls_27, ↓la_28, ↓ls_28, ↓bnd_some, ↓cond_true, ↓m_pv_none, ↓m_pv_some, m_b01_0, m_b01_1, true_and, and_true, ↓g1, e1, bI_t, i10, h i hil, ib (show i < 64 by omega), nI_clamp (show i < 2 ^ 31 by omega), e4, h3, nI_1, ↓reduceIte]
        rw [alr, hr]
        exact g2
theorem x_nextL (hw : WF l) (hl : l.length ≤ 62) {a : Nat → Nat → Int32} (h : LT a l) (hN : LN a l l.length) {o : Nat} (ho : o < 3) (n : Nat) : ∀ (k : Nat) (j5 j6 : Value), n + k = l.length → (∀ j, j < k → cnd l o j = false) → ∀ (K : Option Value → mM → Prop), go S 70 3 [.int (nI o), .ref 20, .ref 28, .ref 22, .int (nI k), j5, j6] [] (mk c (ml a r)) K = K (some (.int (nbI (nxt l o)))) (mk c (ml a r)) := by
  induction n with
  | zero =>
    intro k j5 j6 hn hq K
    have e : k = l.length := by omega
    subst e
    have e2 : nxt l o = none := fst_none hq
    rw [g70_3]
    simp only [↓g70_0, ↓g70_1, ↓g70_5, ↓g70_6, ↓g70_7, ↓g70_8, ↓g70_11, ↓g70_12, ↓g70_14, ↓g70_15, ↓g70_16, ↓g70_19, ↓g70_20, ↓g70_22, ↓g70_23, ↓g70_24, ↓g70_25, ↓g70_26, ↓g70_29, ↓g70_30, ↓g70_31, ↓g70_34, ↓g70_35, ↓g70_37, ↓g70_38, ↓g70_41, ↓g70_44, ↓g70_45, ↓g70_47, ↓g70_49, ↓g70_50, ↓g70_51, ↓g70_54, ↓g70_55, ↓g70_58, ↓g70_60, ↓g70_61, ↓g70_63, ↓g70_66, ↓g70_69, ↓g70_71, ↓g70_74, ↓g70_75, ↓g70_77, ↓g70_78, ↓g70_79, ↓g70_82, ↓g70_83, ↓g70_85, ↓g70_86, ↓g70_87, ↓g70_88, ↓g70_89, ↓g70_92, ↓g70_93, ↓g70_96, ↓g70_97, ↓g70_99, ↓g70_102, ↓g70_105, ↓g70_107, ↓g70_110, ↓g70_112, ↓g70_113, ↓g70_116, ↓g70_119, ↓g70_121, ↓la_20, ↓ls_20, ↓la_21, ↓ls_21, ↓la_22, ↓ls_22, ↓la_23, ↓ls_23, ↓la_24, ↓ls_24, ↓la_25, ↓ls_25, ↓la_26, ↓ls_26, ↓la_27, ↓ls_27, ↓la_28, ↓ls_28, ↓bnd_some, ↓cond_true, ↓m_pv_none, ↓m_pv_some, m_b01_0, m_b01_1, true_and, and_true, ib_0, ic_0, h.1, Int32.le_refl, ↓reduceIte, e2]
    rfl
  | succ n ih =>
    intro k j5 j6 hn hq K
    have hkl : k < l.length := by omega
    have e1 : ¬ nI l.length ≤ nI k := nI_ge (by omega) (by omega)
    have hkd := hw.kd hkl
    have e4 : (nI (kd l k) = 3) = (kd l k = 3) := propext (nI_eq (b := 3) (by omega) (by decide))
    have no : cnd l o k = false → ∀ j, j < k + 1 → cnd l o j = false := fun z j hj => by
      by_cases e : j = k
      · subst e; exact z
      · exact hq j (by omega)
    have yes : cnd l o k = true → nxt l o = some k := fun z => fst_some z hq hkl
    have cndf : red l k = false → cnd l o k = false := fun z => by
      cases hc : cnd l o k with
      | false => rfl
      | true => rw [cnd_red hc] at z; cases z
    rw [g70_3]
    by_cases h3 : kd l k = 3
    · have hc := child_3 hw hkl h3
      have hkd2 := hw.kd hc
      have e5 : (nI (kd l (k + 1)) = 2) = (kd l (k + 1) = 2) := propext (nI_eq (b := 2) (by omega) (by decide))
      by_cases h2 : kd l (k + 1) = 2
      · have hr : red l k = true := by unfold red; exact decide_eq_true ⟨h3, h2⟩
        have hen := en_lt hkl
        rcases (by omega : o = 0 ∨ o = 1 ∨ o = 2) with e | e | e
        · subst e
          have hy := yes (by rw [cnd_0]; exact hr)
          simp only [↓g70_0, ↓g70_1, ↓g70_5, ↓g70_6, ↓g70_7, ↓g70_8, ↓g70_11, ↓g70_12, ↓g70_14, ↓g70_15, ↓g70_16, ↓g70_19, ↓g70_20, ↓g70_22, ↓g70_23, ↓g70_24, ↓g70_25, ↓g70_26, ↓g70_29, ↓g70_30, ↓g70_31, ↓g70_34, ↓g70_35, ↓g70_37, ↓g70_38, ↓g70_41, ↓g70_44, ↓g70_45, ↓g70_47, ↓g70_49, ↓g70_50, ↓g70_51, ↓g70_54, ↓g70_55, ↓g70_58, ↓g70_60, ↓g70_61, ↓g70_63, ↓g70_66, ↓g70_69, ↓g70_71, ↓g70_74, ↓g70_75, ↓g70_77, ↓g70_78, ↓g70_79, ↓g70_82, ↓g70_83, ↓g70_85, ↓g70_86, ↓g70_87, ↓g70_88, ↓g70_89, ↓g70_92, ↓g70_93, ↓g70_96, ↓g70_97, ↓g70_99, ↓g70_102, ↓g70_105, ↓g70_107, ↓g70_110, ↓g70_112, ↓g70_113, ↓g70_116, ↓g70_119, ↓g70_121, ↓la_20, ↓ls_20, ↓la_21, ↓ls_21, ↓la_22, ↓ls_22, ↓la_23, ↓ls_23, ↓la_24, ↓ls_24, ↓la_25, ↓ls_25, ↓la_26, ↓ls_26, ↓la_27, ↓ls_27, ↓la_28, ↓ls_28, ↓bnd_some, ↓cond_true, ↓m_pv_none, ↓m_pv_some, m_b01_0, m_b01_1, true_and, and_true, ib_0, ic_0, h.1, e1, (h.2 k hkl).1, ib (show k < 64 by omega), nI_clamp (show k < 2 ^ 31 by omega), e4, h3, nI_1, (h.2 (k + 1) hc).1, ib (show k + 1 < 64 by omega), nI_clamp (show k + 1 < 2 ^ 31 by omega), e5, h2, ↓reduceIte, show (nI 0 = 2) = False from eq_false (by decide)]
          rw [g70_53]
          simp only [↓g70_0, ↓g70_1, ↓g70_5, ↓g70_6, ↓g70_7, ↓g70_8, ↓g70_11, ↓g70_12, ↓g70_14, ↓g70_15, ↓g70_16, ↓g70_19, ↓g70_20, ↓g70_22, ↓g70_23, ↓g70_24, ↓g70_25, ↓g70_26, ↓g70_29, ↓g70_30, ↓g70_31, ↓g70_34, ↓g70_35, ↓g70_37, ↓g70_38, ↓g70_41, ↓g70_44, ↓g70_45, ↓g70_47, ↓g70_49, ↓g70_50, ↓g70_51, ↓g70_54, ↓g70_55, ↓g70_58, ↓g70_60, ↓g70_61, ↓g70_63, ↓g70_66, ↓g70_69, ↓g70_71, ↓g70_74, ↓g70_75, ↓g70_77, ↓g70_78, ↓g70_79, ↓g70_82, ↓g70_83, ↓g70_85, ↓g70_86, ↓g70_87, ↓g70_88, ↓g70_89, ↓g70_92, ↓g70_93, ↓g70_96, ↓g70_97, ↓g70_99, ↓g70_102, ↓g70_105, ↓g70_107, ↓g70_110, ↓g70_112, ↓g70_113, ↓g70_116, ↓g70_119, ↓g70_121, show (nI 0 = 1) = False from eq_false (by decide), ↓reduceIte, i10, hy]
          rfl
        · subst e
          have g2 := x_nextI (S := S) (c := c) (r := r) hw hl (fun p hp => (h.2 p hp).1) hkl (en l k - (k + 1)) (k + 1) true (by omega) K
          rw [bI_t, Bool.true_and, ← inn_alr hr hen] at g2
          simp only [↓g70_0, ↓g70_1, ↓g70_5, ↓g70_6, ↓g70_7, ↓g70_8, ↓g70_11, ↓g70_12, ↓g70_14, ↓g70_15, ↓g70_16, ↓g70_19, ↓g70_20, ↓g70_22, ↓g70_23, ↓g70_24, ↓g70_25, ↓g70_26, ↓g70_29, ↓g70_30, ↓g70_31, ↓g70_34, ↓g70_35, ↓g70_37, ↓g70_38, ↓g70_41, ↓g70_44, ↓g70_45, ↓g70_47, ↓g70_49, ↓g70_50, ↓g70_51, ↓g70_54, ↓g70_55, ↓g70_58, ↓g70_60, ↓g70_61, ↓g70_63, ↓g70_66, ↓g70_69, ↓g70_71, ↓g70_74, ↓g70_75, ↓g70_77, ↓g70_78, ↓g70_79, ↓g70_82, ↓g70_83, ↓g70_85, ↓g70_86, ↓g70_87, ↓g70_88, ↓g70_89, ↓g70_92, ↓g70_93, ↓g70_96, ↓g70_97, ↓g70_99, ↓g70_102, ↓g70_107, ↓g70_110, ↓g70_112, ↓g70_113, ↓g70_116, ↓g70_119, ↓g70_121, ↓la_20, ↓ls_20, ↓la_21, ↓ls_21, ↓la_22, ↓ls_22, ↓la_23, ↓ls_23, ↓la_24, ↓ls_24, ↓la_25, ↓ls_25, ↓la_26, ↓ls_26, ↓la_27, ↓ls_27, ↓la_28, ↓ls_28, ↓bnd_some, ↓cond_true, ↓m_pv_none, ↓m_pv_some, m_b01_0, m_b01_1, true_and, and_true, ib_0, ic_0, h.1, e1, (h.2 k hkl).1, ib (show k < 64 by omega), nI_clamp (show k < 2 ^ 31 by omega), e4, h3, nI_1, (h.2 (k + 1) hc).1, ib (show k + 1 < 64 by omega), nI_clamp (show k + 1 < 2 ^ 31 by omega), e5, h2, ↓reduceIte, show (nI 1 = 2) = False from eq_false (by decide)]
          rw [show nI 1 = 1 from rfl, g2]
          cases hi : inn l k with
          | true =>
            have hy := yes (by rw [cnd_1]; exact hi)
            simp only [↓g70_0, ↓g70_1, ↓g70_5, ↓g70_6, ↓g70_7, ↓g70_8, ↓g70_11, ↓g70_12, ↓g70_14, ↓g70_15, ↓g70_16, ↓g70_19, ↓g70_20, ↓g70_22, ↓g70_23, ↓g70_24, ↓g70_25, ↓g70_26, ↓g70_29, ↓g70_30, ↓g70_31, ↓g70_34, ↓g70_35, ↓g70_37, ↓g70_38, ↓g70_41, ↓g70_44, ↓g70_45, ↓g70_47, ↓g70_49, ↓g70_50, ↓g70_51, ↓g70_54, ↓g70_55, ↓g70_58, ↓g70_60, ↓g70_61, ↓g70_63, ↓g70_66, ↓g70_69, ↓g70_71, ↓g70_74, ↓g70_75, ↓g70_77, ↓g70_78, ↓g70_79, ↓g70_82, ↓g70_83, ↓g70_85, ↓g70_86, ↓g70_87, ↓g70_88, ↓g70_89, ↓g70_92, ↓g70_93, ↓g70_96, ↓g70_97, ↓g70_99, ↓g70_102, ↓g70_105, ↓g70_107, ↓g70_110, ↓g70_112, ↓g70_113, ↓g70_116, ↓g70_119, ↓g70_121, bI_t, i10, ↓reduceIte, hy]
            rfl
          | false =>
            have g3 := ih (k + 1) (.int 0) (.int (nI (en l k))) (by omega) (no (by rw [cnd_1]; exact hi)) K
            simp only [↓g70_0, ↓g70_1, ↓g70_5, ↓g70_6, ↓g70_7, ↓g70_8, ↓g70_11, ↓g70_12, ↓g70_14, ↓g70_15, ↓g70_16, ↓g70_19, ↓g70_20, ↓g70_22, ↓g70_23, ↓g70_24, ↓g70_25, ↓g70_26, ↓g70_29, ↓g70_30, ↓g70_31, ↓g70_34, ↓g70_35, ↓g70_37, ↓g70_38, ↓g70_41, ↓g70_44, ↓g70_45, ↓g70_47, ↓g70_49, ↓g70_50, ↓g70_51, ↓g70_54, ↓g70_55, ↓g70_58, ↓g70_60, ↓g70_61, ↓g70_63, ↓g70_66, ↓g70_69, ↓g70_71, ↓g70_74, ↓g70_75, ↓g70_77, ↓g70_78, ↓g70_79, ↓g70_82, ↓g70_83, ↓g70_85, ↓g70_86, ↓g70_87, ↓g70_88, ↓g70_89, ↓g70_92, ↓g70_93, ↓g70_96, ↓g70_97, ↓g70_99, ↓g70_102, ↓g70_105, ↓g70_107, ↓g70_110, ↓g70_112, ↓g70_113, ↓g70_116, ↓g70_119, ↓g70_121, bI_f, ↓reduceIte, nI_1]
            exact g3
        · subst e
          have hnb := nb_dep hw k k (Nat.le_refl _) hkl
          have hb : ∀ x, nb l k = some x → x < 2 ^ 31 := fun x hx => by
            rcases hnb with ⟨z1, -⟩ | ⟨y, z1, z2, -⟩
            · rw [z1] at hx; cases hx
            · rw [z1] at hx; cases hx; omega
          have e6 : (nbm (nb l k) < 0) = (nb l k = none) := propext (nbm_neg hb)
          rcases hnb with ⟨z1, z2⟩ | ⟨y, z1, z2, z3, z4⟩
          · have hy := yes (by rw [cnd_2, hr]; exact decide_eq_true z2)
            simp only [↓g70_0, ↓g70_1, ↓g70_5, ↓g70_6, ↓g70_7, ↓g70_8, ↓g70_11, ↓g70_12, ↓g70_14, ↓g70_15, ↓g70_16, ↓g70_19, ↓g70_20, ↓g70_22, ↓g70_23, ↓g70_24, ↓g70_25, ↓g70_26, ↓g70_29, ↓g70_30, ↓g70_31, ↓g70_34, ↓g70_35, ↓g70_37, ↓g70_38, ↓g70_41, ↓g70_44, ↓g70_45, ↓g70_47, ↓g70_49, ↓g70_50, ↓g70_51, ↓g70_54, ↓g70_55, ↓g70_58, ↓g70_60, ↓g70_61, ↓g70_63, ↓g70_66, ↓g70_69, ↓g70_71, ↓g70_74, ↓g70_75, ↓g70_77, ↓g70_78, ↓g70_79, ↓g70_82, ↓g70_83, ↓g70_85, ↓g70_86, ↓g70_87, ↓g70_88, ↓g70_89, ↓g70_92, ↓g70_93, ↓g70_96, ↓g70_97, ↓g70_99, ↓g70_102, ↓g70_105, ↓g70_107, ↓g70_110, ↓g70_112, ↓g70_113, ↓g70_116, ↓g70_119, ↓g70_121, ↓la_20, ↓ls_20, ↓la_21, ↓ls_21, ↓la_22, ↓ls_22, ↓la_23, ↓ls_23, ↓la_24, ↓ls_24, ↓la_25, ↓ls_25, ↓la_26, ↓ls_26, ↓la_27, ↓ls_27, ↓la_28, ↓ls_28, ↓bnd_some, ↓cond_true, ↓m_pv_none, ↓m_pv_some, m_b01_0, m_b01_1, true_and, and_true, ib_0, ic_0, h.1, e1, (h.2 k hkl).1, ib (show k < 64 by omega), nI_clamp (show k < 2 ^ 31 by omega), e4, h3, nI_1, (h.2 (k + 1) hc).1, ib (show k + 1 < 64 by omega), nI_clamp (show k + 1 < 2 ^ 31 by omega), e5, h2, ↓reduceIte, show (nI 2 = 2) = True from eq_true rfl, hN k hkl, e6, z1]
            rw [g70_53]
            simp only [↓g70_0, ↓g70_1, ↓g70_5, ↓g70_6, ↓g70_7, ↓g70_8, ↓g70_11, ↓g70_12, ↓g70_14, ↓g70_15, ↓g70_16, ↓g70_19, ↓g70_20, ↓g70_22, ↓g70_23, ↓g70_24, ↓g70_25, ↓g70_26, ↓g70_29, ↓g70_30, ↓g70_31, ↓g70_34, ↓g70_35, ↓g70_37, ↓g70_38, ↓g70_41, ↓g70_44, ↓g70_45, ↓g70_47, ↓g70_49, ↓g70_50, ↓g70_51, ↓g70_54, ↓g70_55, ↓g70_58, ↓g70_60, ↓g70_61, ↓g70_63, ↓g70_66, ↓g70_69, ↓g70_71, ↓g70_74, ↓g70_75, ↓g70_77, ↓g70_78, ↓g70_79, ↓g70_82, ↓g70_83, ↓g70_85, ↓g70_86, ↓g70_87, ↓g70_88, ↓g70_89, ↓g70_92, ↓g70_93, ↓g70_96, ↓g70_97, ↓g70_99, ↓g70_102, ↓g70_105, ↓g70_107, ↓g70_110, ↓g70_112, ↓g70_113, ↓g70_116, ↓g70_119, ↓g70_121, show (nI 2 = 1) = False from eq_false (by decide), ↓reduceIte, i10, hy]
            rfl
          · have g3 := ih (k + 1) j5 j6 (by omega) (no (by rw [cnd_2, hr, z4]; rfl)) K
            simp only [↓g70_0, ↓g70_1, ↓g70_5, ↓g70_6, ↓g70_7, ↓g70_8, ↓g70_11, ↓g70_12, ↓g70_14, ↓g70_15, ↓g70_16, ↓g70_19, ↓g70_20, ↓g70_22, ↓g70_23, ↓g70_24, ↓g70_25, ↓g70_26, ↓g70_29, ↓g70_30, ↓g70_31, ↓g70_34, ↓g70_35, ↓g70_37, ↓g70_38, ↓g70_41, ↓g70_44, ↓g70_45, ↓g70_47, ↓g70_49, ↓g70_50, ↓g70_51, ↓g70_54, ↓g70_55, ↓g70_58, ↓g70_60, ↓g70_61, ↓g70_63, ↓g70_66, ↓g70_69, ↓g70_71, ↓g70_74, ↓g70_75, ↓g70_77, ↓g70_78, ↓g70_79, ↓g70_82, ↓g70_83, ↓g70_85, ↓g70_86, ↓g70_87, ↓g70_88, ↓g70_89, ↓g70_92, ↓g70_93, ↓g70_96, ↓g70_97, ↓g70_99, ↓g70_102, ↓g70_105, ↓g70_107, ↓g70_110, ↓g70_112, ↓g70_113, ↓g70_116, ↓g70_119, ↓g70_121, ↓la_20, ↓ls_20, ↓la_21, ↓ls_21, ↓la_22, ↓ls_22, ↓la_23, ↓ls_23, ↓la_24, ↓ls_24, ↓la_25, ↓ls_25, ↓la_26, ↓ls_26, ↓la_27, ↓ls_27, ↓la_28, ↓ls_28, ↓bnd_some, ↓cond_true, ↓m_pv_none, ↓m_pv_some, m_b01_0, m_b01_1, true_and, and_true, ib_0, ic_0, h.1, e1, (h.2 k hkl).1, ib (show k < 64 by omega), nI_clamp (show k < 2 ^ 31 by omega), e4, h3, nI_1, (h.2 (k + 1) hc).1, ib (show k + 1 < 64 by omega), nI_clamp (show k + 1 < 2 ^ 31 by omega), e5, h2, ↓reduceIte, show (nI 2 = 2) = True from eq_true rfl, hN k hkl, z1, show (nbm (some y) < 0) = False from eq_false (nI_pos (by omega)), show (nI 3 = 3) = True from eq_true rfl]
            exact g3
      · have hr : red l k = false := by unfold red; exact decide_eq_false (fun z => h2 z.2)
        have g3 := ih (k + 1) j5 j6 (by omega) (no (cndf hr)) K
        simp only [↓g70_0, ↓g70_1, ↓g70_5, ↓g70_6, ↓g70_7, ↓g70_8, ↓g70_11, ↓g70_12, ↓g70_14, ↓g70_15, ↓g70_16, ↓g70_19, ↓g70_20, ↓g70_22, ↓g70_23, ↓g70_24, ↓g70_25, ↓g70_26, ↓g70_29, ↓g70_30, ↓g70_31, ↓g70_34, ↓g70_35, ↓g70_37, ↓g70_38, ↓g70_41, ↓g70_44, ↓g70_45, ↓g70_47, ↓g70_49, ↓g70_50, ↓g70_51, ↓g70_54, ↓g70_55, ↓g70_58, ↓g70_60, ↓g70_61, ↓g70_63, ↓g70_66, ↓g70_69, ↓g70_71, ↓g70_74, ↓g70_75, ↓g70_77, ↓g70_78, ↓g70_79, ↓g70_82, ↓g70_83, ↓g70_85, ↓g70_86, ↓g70_87, ↓g70_88, ↓g70_89, ↓g70_92, ↓g70_93, ↓g70_96, ↓g70_97, ↓g70_99, ↓g70_102, ↓g70_105, ↓g70_107, ↓g70_110, ↓g70_112, ↓g70_113, ↓g70_116, ↓g70_119, ↓g70_121, ↓la_20, ↓ls_20, ↓la_21, ↓ls_21, ↓la_22, ↓ls_22, ↓la_23, ↓ls_23, ↓la_24, ↓ls_24, ↓la_25, ↓ls_25, ↓la_26, ↓ls_26, ↓la_27, ↓ls_27, ↓la_28, ↓ls_28, ↓bnd_some, ↓cond_true, ↓m_pv_none, ↓m_pv_some, m_b01_0, m_b01_1, true_and, and_true, ib_0, ic_0, h.1, e1, (h.2 k hkl).1, ib (show k < 64 by omega), nI_clamp (show k < 2 ^ 31 by omega), e4, h3, nI_1, (h.2 (k + 1) hc).1, ib (show k + 1 < 64 by omega), nI_clamp (show k + 1 < 2 ^ 31 by omega), e5, h2, ↓reduceIte]
        exact g3
    · have hr : red l k = false := by unfold red; exact decide_eq_false (fun z => h3 z.1)
      have g3 := ih (k + 1) j5 j6 (by omega) (no (cndf hr)) K
      simp only [↓g70_0, ↓g70_1, ↓g70_5, ↓g70_6, ↓g70_7, ↓g70_8, ↓g70_11, ↓g70_12, ↓g70_14, ↓g70_15, ↓g70_16, ↓g70_19, ↓g70_20, ↓g70_22, ↓g70_23, ↓g70_24, ↓g70_25, ↓g70_26, ↓g70_29, ↓g70_30, ↓g70_31, ↓g70_34, ↓g70_35, ↓g70_37, ↓g70_38, ↓g70_41, ↓g70_44, ↓g70_45, ↓g70_47, ↓g70_49, ↓g70_50, ↓g70_51, ↓g70_54, ↓g70_55, ↓g70_58, ↓g70_60, ↓g70_61, ↓g70_63, ↓g70_66, ↓g70_69, ↓g70_71, ↓g70_74, ↓g70_75, ↓g70_77, ↓g70_78, ↓g70_79, ↓g70_82, ↓g70_83, ↓g70_85, ↓g70_86, ↓g70_87, ↓g70_88, ↓g70_89, ↓g70_92, ↓g70_93, ↓g70_96, ↓g70_97, ↓g70_99, ↓g70_102, ↓g70_105, ↓g70_107, ↓g70_110, ↓g70_112, ↓g70_113, ↓g70_116, ↓g70_119, ↓g70_121, ↓la_20, ↓ls_20, ↓la_21, ↓ls_21, ↓la_22, ↓ls_22, ↓la_23, ↓ls_23, ↓la_24, ↓ls_24, ↓la_25, ↓ls_25, ↓la_26, ↓ls_26, ↓la_27, ↓ls_27, ↓la_28, ↓ls_28, ↓bnd_some, ↓cond_true, ↓m_pv_none, ↓m_pv_some, m_b01_0, m_b01_1, true_and, and_true, ib_0, ic_0, h.1, e1, (h.2 k hkl).1, ib (show k < 64 by omega), nI_clamp (show k < 2 ^ 31 by omega), e4, h3, nI_1, ↓reduceIte]
      exact g3
theorem x_next (hw : WF l) (hl : l.length ≤ 62) {a : Nat → Nat → Int32} (h : LT a l) (hN : LN a l l.length) {o : Nat} (ho : o < 3) (K : Option Value → mM → Prop) {x : Int32} (hx : x = nI o := by rfl) : go S 70 0 [.int x, .ref 20, .ref 28, .ref 22, .null, .null, .null] [] (mk c (ml a r)) K = K (some (.int (nbI (nxt l o)))) (mk c (ml a r)) := by
  subst hx
  have g := x_nextL (S := S) (c := c) (r := r) hw hl h hN ho l.length 0 .null .null rfl (fun j hj => absurd hj (Nat.not_lt_zero j)) K
  simp only [↓g70_0, ↓g70_1, ↓g70_5, ↓g70_6, ↓g70_7, ↓g70_8, ↓g70_11, ↓g70_12, ↓g70_14, ↓g70_15, ↓g70_16, ↓g70_19, ↓g70_20, ↓g70_22, ↓g70_23, ↓g70_24, ↓g70_25, ↓g70_26, ↓g70_29, ↓g70_30, ↓g70_31, ↓g70_34, ↓g70_35, ↓g70_37, ↓g70_38, ↓g70_41, ↓g70_44, ↓g70_45, ↓g70_47, ↓g70_49, ↓g70_50, ↓g70_51, ↓g70_54, ↓g70_55, ↓g70_58, ↓g70_60, ↓g70_61, ↓g70_63, ↓g70_66, ↓g70_69, ↓g70_71, ↓g70_74, ↓g70_75, ↓g70_77, ↓g70_78, ↓g70_79, ↓g70_82, ↓g70_83, ↓g70_85, ↓g70_86, ↓g70_87, ↓g70_88, ↓g70_89, ↓g70_92, ↓g70_93, ↓g70_96, ↓g70_97, ↓g70_99, ↓g70_102, ↓g70_105, ↓g70_107, ↓g70_110, ↓g70_112, ↓g70_113, ↓g70_116, ↓g70_119, ↓g70_121]
  exact g
theorem x_sizeL (hw : WF l) (hl : l.length ≤ 62) {a : Nat → Nat → Int32} (h : LT a l) {p : Nat} (hp : p < l.length) (hr : red l p = true) (n : Nat) : ∀ (k : Nat), n + k = en l (p + 1) - (p + 2) → ∀ (K : Option Value → mM → Prop), go S 71 25 [.int (nI p), .ref 20, .ref 21, .ref 28, .int (nI (en l (p + 1))), .int (nI (en l p)), .int (nI (us l p k)), .int (nI (p + 2 + k))] [] (mk c (ml a r)) K = K (some (.int (nI (rwt l p).length))) (mk c (ml a r)) := by
  obtain ⟨r1, r2, r3, r4, r5, r6, r7, r8, r9, r10⟩ := red_all hw hp hr
  induction n with
  | zero =>
    intro k hk K
    have e : k = en l (p + 1) - (p + 2) := by omega
    have e1 : nI (en l (p + 1)) ≤ nI (p + 2 + k) := by rw [e, show p + 2 + (en l (p + 1) - (p + 2)) = en l (p + 1) by omega]; exact Int32.le_refl _
    have hR := rwt_len hw hp hr
    rw [← e] at hR
    have e2 : nI l.length - 2 - nI (us l p k) + (nI (us l p k) - 1) * (nI (en l p) - nI (en l (p + 1))) = nI (rwt l p).length := by
      have h1 := congrArg nI hR
      rw [← nI_add, ← nI_add, ← nI_add, ← nI_add, ← pk_mul] at h1
      rw [pk_sub (show en l (p + 1) ≤ en l p by omega), Int32.sub_mul, Int32.one_mul]
      have h2 : nI 2 = 2 := rfl
      rw [h2] at h1
      generalize nI (us l p k) * nI (en l p - en l (p + 1)) = X at h1 ⊢
      generalize nI (en l p - en l (p + 1)) = m at h1 ⊢
      generalize nI (us l p k) = u at h1 ⊢
      generalize nI l.length = L at h1 ⊢
      generalize nI (rwt l p).length = R at h1 ⊢
      grind
    rw [g71_25]
    simp only [↓g71_0, ↓g71_1, ↓g71_2, ↓g71_3, ↓g71_4, ↓g71_7, ↓g71_9, ↓g71_10, ↓g71_12, ↓g71_15, ↓g71_17, ↓g71_18, ↓g71_20, ↓g71_21, ↓g71_22, ↓g71_23, ↓g71_27, ↓g71_29, ↓g71_32, ↓g71_34, ↓g71_35, ↓g71_37, ↓g71_38, ↓g71_41, ↓g71_42, ↓g71_44, ↓g71_45, ↓g71_46, ↓g71_47, ↓g71_48, ↓g71_51, ↓g71_52, ↓g71_55, ↓g71_56, ↓g71_57, ↓g71_59, ↓g71_62, ↓g71_65, ↓g71_66, ↓g71_67, ↓g71_68, ↓g71_69, ↓g71_70, ↓g71_72, ↓g71_73, ↓g71_75, ↓g71_76, ↓g71_77, ↓g71_79, ↓g71_81, ↓g71_82, ↓g71_83, ↓g71_84, ↓la_20, ↓ls_20, ↓la_21, ↓ls_21, ↓la_22, ↓ls_22, ↓la_23, ↓ls_23, ↓la_24, ↓ls_24, ↓la_25, ↓ls_25, ↓la_26, ↓ls_26, ↓la_27, ↓ls_27, ↓la_28, ↓ls_28, ↓bnd_some, ↓cond_true, ↓m_pv_none, ↓m_pv_some, m_b01_0, m_b01_1, true_and, and_true, e1, ib_0, ic_0, h.1, ↓reduceIte, e2]
  | succ n ih =>
    intro k hk K
    have hil : p + 2 + k < l.length := by omega
    have e1 : ¬ nI (en l (p + 1)) ≤ nI (p + 2 + k) := nI_ge (by omega) (by omega)
    have hkd := hw.kd hil
    have e4 : (nI (kd l (p + 2 + k)) = 0) = (kd l (p + 2 + k) = 0) := propext (nI_z (by omega))
    have hus := us_le l p k
    have g3 := ih (k + 1) (by omega) K
    have hu : us l p (k + 1) = us l p k + (if isU l p (p + 2 + k) = true then 1 else 0) := rfl
    rw [g71_25]
    by_cases h0 : kd l (p + 2 + k) = 0
    · have hb := bn_lt hw hil h0
      have e5 : (nI (bn l (p + 2 + k)) = nI (p + 1)) = (isU l p (p + 2 + k) = true) := propext ((nI_eq (by omega) (by omega)).trans (wi_bn hw hp hr (by omega) (by omega) h0).symm)
      by_cases hU : isU l p (p + 2 + k) = true
      · rw [hu, if_pos hU] at g3
        simp only [↓g71_0, ↓g71_1, ↓g71_2, ↓g71_3, ↓g71_4, ↓g71_7, ↓g71_9, ↓g71_10, ↓g71_12, ↓g71_15, ↓g71_17, ↓g71_18, ↓g71_20, ↓g71_21, ↓g71_22, ↓g71_23, ↓g71_27, ↓g71_29, ↓g71_32, ↓g71_34, ↓g71_35, ↓g71_37, ↓g71_38, ↓g71_41, ↓g71_42, ↓g71_44, ↓g71_45, ↓g71_46, ↓g71_47, ↓g71_48, ↓g71_51, ↓g71_52, ↓g71_55, ↓g71_56, ↓g71_57, ↓g71_59, ↓g71_62, ↓g71_65, ↓g71_66, ↓g71_67, ↓g71_68, ↓g71_69, ↓g71_70, ↓g71_72, ↓g71_73, ↓g71_75, ↓g71_76, ↓g71_77, ↓g71_79, ↓g71_81, ↓g71_82, ↓g71_83, ↓g71_84, ↓la_20, ↓ls_20, ↓la_21, ↓ls_21, ↓la_22, ↓ls_22, ↓la_23, ↓ls_23, ↓la_24, ↓ls_24, ↓la_25, ↓ls_25, ↓la_26, ↓ls_26, ↓la_27, ↓ls_27, ↓la_28, ↓ls_28, ↓bnd_some, ↓cond_true, ↓m_pv_none, ↓m_pv_some, m_b01_0, m_b01_1, true_and, and_true, e1, (h.2 _ hil).1, (h.2 _ hil).2, ib (show p + 2 + k < 64 by omega), nI_clamp (show p + 2 + k < 2 ^ 31 by omega), e4, h0, nI_1, e5, hU, ↓reduceIte]
        exact g3
      · rw [hu, if_neg hU] at g3
        simp only [↓g71_0, ↓g71_1, ↓g71_2, ↓g71_3, ↓g71_4, ↓g71_7, ↓g71_9, ↓g71_10, ↓g71_12, ↓g71_15, ↓g71_17, ↓g71_18, ↓g71_20, ↓g71_21, ↓g71_22, ↓g71_23, ↓g71_27, ↓g71_29, ↓g71_32, ↓g71_34, ↓g71_35, ↓g71_37, ↓g71_38, ↓g71_41, ↓g71_42, ↓g71_44, ↓g71_45, ↓g71_46, ↓g71_47, ↓g71_48, ↓g71_51, ↓g71_52, ↓g71_55, ↓g71_56, ↓g71_57, ↓g71_59, ↓g71_62, ↓g71_65, ↓g71_66, ↓g71_67, ↓g71_68, ↓g71_69, ↓g71_70, ↓g71_72, ↓g71_73, ↓g71_75, ↓g71_76, ↓g71_77, ↓g71_79, ↓g71_81, ↓g71_82, ↓g71_83, ↓g71_84, ↓la_20, ↓ls_20, ↓la_21, ↓ls_21, ↓la_22, ↓ls_22, ↓la_23, ↓ls_23, ↓la_24, ↓ls_24, ↓la_25, ↓ls_25, ↓la_26, ↓ls_26, ↓la_27, ↓ls_27, ↓la_28, ↓ls_28, ↓bnd_some, ↓cond_true, ↓m_pv_none, ↓m_pv_some, m_b01_0, m_b01_1, true_and, and_true, e1, (h.2 _ hil).1, (h.2 _ hil).2, ib (show p + 2 + k < 64 by omega), nI_clamp (show p + 2 + k < 2 ^ 31 by omega), e4, h0, nI_1, e5, hU, ↓reduceIte, Int32.add_zero, Bool.false_eq_true]
        exact g3
    · have hU : ¬ isU l p (p + 2 + k) = true := fun z => by
        unfold isU at z
        simp only [decide_eq_true_eq] at z
        exact h0 z.1
      rw [hu, if_neg hU] at g3
      simp only [↓g71_0, ↓g71_1, ↓g71_2, ↓g71_3, ↓g71_4, ↓g71_7, ↓g71_9, ↓g71_10, ↓g71_12, ↓g71_15, ↓g71_17, ↓g71_18, ↓g71_20, ↓g71_21, ↓g71_22, ↓g71_23, ↓g71_27, ↓g71_29, ↓g71_32, ↓g71_34, ↓g71_35, ↓g71_37, ↓g71_38, ↓g71_41, ↓g71_42, ↓g71_44, ↓g71_45, ↓g71_46, ↓g71_47, ↓g71_48, ↓g71_51, ↓g71_52, ↓g71_55, ↓g71_56, ↓g71_57, ↓g71_59, ↓g71_62, ↓g71_65, ↓g71_66, ↓g71_67, ↓g71_68, ↓g71_69, ↓g71_70, ↓g71_72, ↓g71_73, ↓g71_75, ↓g71_76, ↓g71_77, ↓g71_79, ↓g71_81, ↓g71_82, ↓g71_83, ↓g71_84, ↓la_20, ↓ls_20, ↓la_21, ↓ls_21, ↓la_22, ↓ls_22, ↓la_23, ↓ls_23, ↓la_24, ↓ls_24, ↓la_25, ↓ls_25, ↓la_26, ↓ls_26, ↓la_27, ↓ls_27, ↓la_28, ↓ls_28, ↓bnd_some, ↓cond_true, ↓m_pv_none, ↓m_pv_some, m_b01_0, m_b01_1, true_and, and_true, e1, (h.2 _ hil).1, (h.2 _ hil).2, ib (show p + 2 + k < 64 by omega), nI_clamp (show p + 2 + k < 2 ^ 31 by omega), e4, h0, nI_1, ↓reduceIte, Int32.add_zero]
      exact g3
theorem x_size (hw : WF l) (hl : l.length ≤ 62) {a : Nat → Nat → Int32} (h : LT a l) {p : Nat} (hp : p < l.length) (hr : red l p = true) (K : Option Value → mM → Prop) : go S 71 0 [.int (nI p), .ref 20, .ref 21, .ref 28, .null, .null, .null, .null] [] (mk c (ml a r)) K = K (some (.int (nI (rwt l p).length))) (mk c (ml a r)) := by
  obtain ⟨r1, r2, r3, r4, r5, r6, r7, r8, r9, r10⟩ := red_all hw hp hr
  have g := x_sizeL (S := S) (c := c) (r := r) hw hl h hp hr (en l (p + 1) - (p + 2)) 0 rfl K
  have g1 := fun K => x_end (S := S) (c := c) (r := r) hw hl (fun p hp => (h.2 p hp).1) (show p + 1 < l.length by omega) K (x := nI p + 1) (hx := nI_1 p)
  have g2 := fun K => x_end (S := S) (c := c) (r := r) hw hl (fun p hp => (h.2 p hp).1) (show en l (p + 1) < l.length by omega) K
  rw [← r5] at g2
  have e2 : nI p + 2 = nI (p + 2) := nI_add p 2
  simp only [↓g71_0, ↓g71_1, ↓g71_2, ↓g71_3, ↓g71_4, ↓g71_7, ↓g71_9, ↓g71_10, ↓g71_12, ↓g71_15, ↓g71_17, ↓g71_18, ↓g71_20, ↓g71_21, ↓g71_22, ↓g71_23, ↓g71_27, ↓g71_29, ↓g71_32, ↓g71_34, ↓g71_35, ↓g71_37, ↓g71_38, ↓g71_41, ↓g71_42, ↓g71_44, ↓g71_45, ↓g71_46, ↓g71_47, ↓g71_48, ↓g71_51, ↓g71_52, ↓g71_55, ↓g71_56, ↓g71_57, ↓g71_59, ↓g71_62, ↓g71_65, ↓g71_66, ↓g71_67, ↓g71_68, ↓g71_69, ↓g71_70, ↓g71_72, ↓g71_73, ↓g71_75, ↓g71_76, ↓g71_77, ↓g71_79, ↓g71_81, ↓g71_82, ↓g71_83, ↓g71_84, ↓la_20, ↓ls_20, ↓la_21, ↓ls_21, ↓la_22, ↓ls_22, ↓la_23, ↓ls_23, ↓la_24, ↓ls_24, ↓la_25, ↓ls_25, ↓la_26, ↓ls_26, ↓la_27, ↓ls_27, ↓la_28, ↓ls_28, ↓bnd_some, ↓cond_true, ↓m_pv_none, ↓m_pv_some, m_b01_0, m_b01_1, true_and, and_true, ↓g1, ↓g2, e2]
  exact g
end NEXT
