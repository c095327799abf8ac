/-! the model: the L that binds; the text with names -/
theorem bch_sh {l : Tm} {p x : Nat} (h : nb l p = some x) : ∀ i, bch l p (i + 1) = bch l x i
  | 0 => by
    show (nb l p).bind (nb l) = nb l x
    rw [h]
    rfl
  | i + 1 => by
    show (bch l p (i + 1)).bind (nb l) = (bch l x i).bind (nb l)
    rw [bch_sh h i]
theorem bch_no {l : Tm} {p : Nat} (h : nb l p = none) : ∀ i, bch l p i = none
  | 0 => h
  | i + 1 => by
    show (bch l p i).bind (nb l) = none
    rw [bch_no h i]
    rfl
theorem encl_bch {l : Tm} (hw : WF l) : ∀ (n p : Nat), p ≤ n → p < l.length → ∀ k, encl l k p ↔ ∃ i, bch l p i = some k
  | n, p, hpn, hp, k => by
    rw [encl_nb hw p p (Nat.le_refl _) hp k]
    rcases nb_dep hw p p (Nat.le_refl _) hp with ⟨h1, -⟩ | ⟨x, h1, h2, h3, h4⟩
    · rw [h1]
      constructor
      · rintro (h | ⟨x, h, -⟩) <;> cases h
      · rintro ⟨i, h⟩
        rw [bch_no h1] at h
        cases h
    · constructor
      · rintro (h | ⟨y, h, h5⟩)
        · exact ⟨0, h⟩
        · rw [h1] at h
          cases h
          cases n with
          | zero => omega
          | succ n =>
            obtain ⟨i, hi⟩ := (encl_bch hw n x (by omega) (by omega) k).mp h5
            exact ⟨i + 1, by rw [bch_sh h1]; exact hi⟩
      · rintro ⟨i, h⟩
        cases i with
        | zero => exact Or.inl h
        | succ i =>
          rw [bch_sh h1] at h
          cases n with
          | zero => omega
          | succ n => exact Or.inr ⟨x, h1, (encl_bch hw n x (by omega) (by omega) k).mpr ⟨i, h⟩⟩
theorem bch_lt {l : Tm} (hw : WF l) {p : Nat} (hp : p < l.length) {i x y : Nat} (h1 : bch l p i = some x) (h2 : bch l p (i + 1) = some y) : y < x := by
  have h3 : (bch l p i).bind (nb l) = some y := h2
  rw [h1] at h3
  have h4 : nb l x = some y := h3
  have hx : x < l.length := by
    have := (encl_bch hw p p (Nat.le_refl _) hp x).mpr ⟨i, h1⟩
    have h5 := this.2.1
    omega
  rcases nb_dep hw x x (Nat.le_refl _) hx with ⟨h5, -⟩ | ⟨z, h5, h6, -⟩
  · rw [h5] at h4; cases h4
  · rw [h5] at h4
    cases h4
    exact h6
theorem bch_mono {l : Tm} (hw : WF l) {p : Nat} (hp : p < l.length) {i : Nat} : ∀ {j x y : Nat}, bch l p i = some x → bch l p (i + j + 1) = some y → y < x
  | 0, x, y, h1, h2 => bch_lt hw hp h1 h2
  | j + 1, x, y, h1, h2 => by
    have h3 : (bch l p (i + j + 1)).bind (nb l) = some y := h2
    cases h4 : bch l p (i + j + 1) with
    | none => rw [h4] at h3; cases h3
    | some z =>
      have h5 := bch_mono hw hp (j := j) h1 h4
      have h6 := bch_lt hw hp h4 h2
      omega
def TX (d : Nat → Nat → Int32) (q : List Int32) : Prop := d 0 16 = nI q.length ∧ ∀ i, i < q.length → d 11 i = q.getD i 0
section MOD7
variable {S : mS} {c : Nat → Nat → Int32} {d : Nat → Nat → Int32} {l : Tm}
theorem n_bindL (h : RW d l) (hk : Tok l) {p : Nat} (hp : p < l.length) (h0 : kd l p = 0) : ∀ (n i : Nat), n ≤ p → i ≤ nu l p → (∃ x, bch l p i = some x ∧ x < n) → (∀ i' y, i' < i → bch l p i' = some y → n ≤ y) → ∀ (K : Option Value → mM → Prop), go S 115 10 [.ref 20, .int (nI p), .int (nI i), .int (-6), .int (nI n - 1)] [] (mk c (md d)) K = K (some (.int (nbI (bch l p (nu l p))))) (mk c (md d))
  | 0, i, hn, hi, hx, hy, K => by
    obtain ⟨x, -, hx⟩ := hx
    exact absurd hx (Nat.not_lt_zero x)
  | n + 1, i, hn, hi, hx, hy, K => by
    obtain ⟨x, hx1, hx2⟩ := hx
    have hl := hk.2
    have hnl : n < l.length := by omega
    have hkd := hk.1.kd hnl
    have hnu := nu_lt hk.1 hp hl
    have hdp := dep_lt hk.1 hp hl
    have e0 : nI (n + 1) - 1 = nI n := nI_pred n
    have e1 : ¬ nI n < 0 := nI_pos (by omega)
    have g1 := fun K => n_kind (S := S) (c := c) h hk hnl K
    have g2 := fun K => n_end (S := S) (c := c) h hk hnl K
    have g3 := fun K => n_number (S := S) (c := c) h hk hp K
    have e2 : (nI (kd l n) = 2) ↔ kd l n = 2 := nI_eq (b := 2) (by omega) (by decide)
    have hen := en_le (l := l) (p := n) (by omega)
    have e3 : (nI (en l n) ≤ nI p) ↔ en l n ≤ p := nI_leI (by omega) (by omega)
    have e4 : (nI i = nI (nu l p)) ↔ i = nu l p := nI_eq (by omega) (by omega)
    have e5 : nI n + -1 = nI n - 1 := by rw [Int32.sub_eq_add_neg]
    have henc := encl_bch hk.1 p p (Nat.le_refl _) hp n
    rw [e0, g115_10]
    by_cases hxn : x = n
    · subst hxn
      obtain ⟨c1, c2, c3⟩ := henc.mpr ⟨i, hx1⟩
      have c4 : ¬ en l x ≤ p := by omega
      by_cases him : i = nu l p
      · have e6 : ¬ nI x = -6 := nI_m6 (by omega)
        simp only [↓g115_0, ↓g115_1, ↓g115_2, ↓g115_4, ↓g115_5, ↓g115_6, ↓g115_7, ↓g115_8, ↓g115_12, ↓g115_15, ↓g115_16, ↓g115_18, ↓g115_21, ↓g115_22, ↓g115_24, ↓g115_27, ↓g115_28, ↓g115_31, ↓g115_32, ↓g115_34, ↓g115_37, ↓g115_38, ↓g115_41, ↓g115_42, ↓g115_43, ↓g115_44, ↓g115_47, ↓g115_50, ↓g115_52, ↓g115_55, ↓g115_57, ↓g115_58, ↓g115_61, ↓g115_64, ↓g115_67, ↓g115_68, ↓mo_20, ↓mf_20_0, ↓mf_20_1, ↓mp_20_2, ↓mf_20_2, ↓mf_20_3, ↓mf_20_4, ↓mf_20_5, ↓mp_20_6, ↓mf_20_6, ↓mf_20_7, ↓mp_20_8, ↓mf_20_8, ↓mf_20_9, ↓mf_20_10, ↓mp_20_11, ↓mf_20_11, ↓mf_20_12, ↓mf_20_13, ↓mp_20_14, ↓mf_20_14, ↓mf_20_15, ↓mp_20_16, ↓mf_20_16, ↓ma_21, ↓ms_21, ↓ma_22, ↓ms_22, ↓ma_23, ↓ms_23, ↓ma_24, ↓ms_24, ↓ma_25, ↓ms_25, ↓ma_26, ↓ms_26, ↓ma_27, ↓ms_27, ↓ma_28, ↓ms_28, ↓ma_29, ↓ms_29, ↓ma_30, ↓ms_30, ↓ma_31, ↓ms_31, ↓bnd_some, ↓cond_true, ↓m_pv_none, ↓m_pv_some, m_b01_0, m_b01_1, true_and, and_true, eq_self, e1, ↓reduceIte, ↓g1, e2.mpr c1, ↓g2, e3, c4, ↓g3, e4.mpr him, e5]
        rw [g115_10, ← him, hx1]
        by_cases e7 : nI x - 1 < 0
        · simp only [↓g115_0, ↓g115_1, ↓g115_2, ↓g115_4, ↓g115_5, ↓g115_6, ↓g115_7, ↓g115_8, ↓g115_12, ↓g115_15, ↓g115_16, ↓g115_18, ↓g115_21, ↓g115_22, ↓g115_24, ↓g115_27, ↓g115_28, ↓g115_31, ↓g115_32, ↓g115_34, ↓g115_37, ↓g115_38, ↓g115_41, ↓g115_42, ↓g115_43, ↓g115_44, ↓g115_47, ↓g115_50, ↓g115_52, ↓g115_55, ↓g115_57, ↓g115_58, ↓g115_61, ↓g115_64, ↓g115_67, ↓g115_68, ↓mo_20, ↓mf_20_0, ↓mf_20_1, ↓mp_20_2, ↓mf_20_2, ↓mf_20_3, ↓mf_20_4, ↓mf_20_5, ↓mp_20_6, ↓mf_20_6, ↓mf_20_7, ↓mp_20_8, ↓mf_20_8, ↓mf_20_9, ↓mf_20_10, ↓mp_20_11, ↓mf_20_11, ↓mf_20_12, ↓mf_20_13, ↓mp_20_14, ↓mf_20_14, ↓mf_20_15, ↓mp_20_16, ↓mf_20_16, ↓ma_21, ↓ms_21, ↓ma_22, ↓ms_22, ↓ma_23, ↓ms_23, ↓ma_24, ↓ms_24, ↓ma_25, ↓ms_25, ↓ma_26, ↓ms_26, ↓ma_27, ↓ms_27, ↓ma_28, ↓ms_28, ↓ma_29, ↓ms_29, ↓ma_30, ↓ms_30, ↓ma_31, ↓ms_31, ↓bnd_some, ↓cond_true, ↓m_pv_none, ↓m_pv_some, m_b01_0, m_b01_1, true_and, and_true, eq_self, e7, ↓reduceIte]
          rfl
        · simp only [↓g115_0, ↓g115_1, ↓g115_2, ↓g115_4, ↓g115_5, ↓g115_6, ↓g115_7, ↓g115_8, ↓g115_12, ↓g115_15, ↓g115_16, ↓g115_18, ↓g115_21, ↓g115_22, ↓g115_24, ↓g115_27, ↓g115_28, ↓g115_31, ↓g115_32, ↓g115_34, ↓g115_37, ↓g115_38, ↓g115_41, ↓g115_42, ↓g115_43, ↓g115_44, ↓g115_47, ↓g115_50, ↓g115_52, ↓g115_55, ↓g115_57, ↓g115_58, ↓g115_61, ↓g115_64, ↓g115_67, ↓g115_68, ↓mo_20, ↓mf_20_0, ↓mf_20_1, ↓mp_20_2, ↓mf_20_2, ↓mf_20_3, ↓mf_20_4, ↓mf_20_5, ↓mp_20_6, ↓mf_20_6, ↓mf_20_7, ↓mp_20_8, ↓mf_20_8, ↓mf_20_9, ↓mf_20_10, ↓mp_20_11, ↓mf_20_11, ↓mf_20_12, ↓mf_20_13, ↓mp_20_14, ↓mf_20_14, ↓mf_20_15, ↓mp_20_16, ↓mf_20_16, ↓ma_21, ↓ms_21, ↓ma_22, ↓ms_22, ↓ma_23, ↓ms_23, ↓ma_24, ↓ms_24, ↓ma_25, ↓ms_25, ↓ma_26, ↓ms_26, ↓ma_27, ↓ms_27, ↓ma_28, ↓ms_28, ↓ma_29, ↓ms_29, ↓ma_30, ↓ms_30, ↓ma_31, ↓ms_31, ↓bnd_some, ↓cond_true, ↓m_pv_none, ↓m_pv_some, m_b01_0, m_b01_1, true_and, and_true, eq_self, e7, e6, ↓reduceIte]
          rfl
      · have hlt := hnu.2 h0
        obtain ⟨y, hy1, -⟩ := bch_at hk.1 hp (i + 1) (by omega)
        have hyx := bch_lt hk.1 hp hx1 hy1
        simp only [↓g115_0, ↓g115_1, ↓g115_2, ↓g115_4, ↓g115_5, ↓g115_6, ↓g115_7, ↓g115_8, ↓g115_12, ↓g115_15, ↓g115_16, ↓g115_18, ↓g115_21, ↓g115_22, ↓g115_24, ↓g115_27, ↓g115_28, ↓g115_31, ↓g115_32, ↓g115_34, ↓g115_37, ↓g115_38, ↓g115_41, ↓g115_42, ↓g115_43, ↓g115_44, ↓g115_47, ↓g115_50, ↓g115_52, ↓g115_55, ↓g115_57, ↓g115_58, ↓g115_61, ↓g115_64, ↓g115_67, ↓g115_68, ↓mo_20, ↓mf_20_0, ↓mf_20_1, ↓mp_20_2, ↓mf_20_2, ↓mf_20_3, ↓mf_20_4, ↓mf_20_5, ↓mp_20_6, ↓mf_20_6, ↓mf_20_7, ↓mp_20_8, ↓mf_20_8, ↓mf_20_9, ↓mf_20_10, ↓mp_20_11, ↓mf_20_11, ↓mf_20_12, ↓mf_20_13, ↓mp_20_14, ↓mf_20_14, ↓mf_20_15, ↓mp_20_16, ↓mf_20_16, ↓ma_21, ↓ms_21, ↓ma_22, ↓ms_22, ↓ma_23, ↓ms_23, ↓ma_24, ↓ms_24, ↓ma_25, ↓ms_25, ↓ma_26, ↓ms_26, ↓ma_27, ↓ms_27, ↓ma_28, ↓ms_28, ↓ma_29, ↓ms_29, ↓ma_30, ↓ms_30, ↓ma_31, ↓ms_31, ↓bnd_some, ↓cond_true, ↓m_pv_none, ↓m_pv_some, m_b01_0, m_b01_1, true_and, and_true, eq_self, e1, ↓reduceIte, ↓g1, e2.mpr c1, ↓g2, e3, c4, ↓g3, e4, him, e5, nI_1]
        exact n_bindL h hk hp h0 x (i + 1) (by omega) (by omega) ⟨y, hy1, hyx⟩ (fun i' y' hi' hy' => by
          by_cases e : i' = i
          · subst e
            rw [hx1] at hy'
            cases hy'
            exact Nat.le_refl _
          · have := hy i' y' (by omega) hy'
            omega) K
    · have hne : ¬ encl l n p := fun z => by
        obtain ⟨i', hi'⟩ := henc.mp z
        rcases Nat.lt_trichotomy i' i with h5 | h5 | h5
        · have := hy i' n h5 hi'
          omega
        · subst h5
          rw [hx1] at hi'
          cases hi'
          exact hxn rfl
        · obtain ⟨j, rfl⟩ := Nat.exists_eq_add_of_lt h5
          have := bch_mono hk.1 hp hx1 hi'
          omega
      have fin : go S 115 10 [.ref 20, .int (nI p), .int (nI i), .int (-6), .int (nI n - 1)] [] (mk c (md d)) K = K (some (.int (nbI (bch l p (nu l p))))) (mk c (md d)) := n_bindL h hk hp h0 n i (by omega) hi ⟨x, hx1, by omega⟩ (fun i' y hi' hy' => by have := hy i' y hi' hy'; omega) K
      by_cases c1 : kd l n = 2
      · have c4 : en l n ≤ p := by
          have : ¬ (n < p ∧ p < en l n) := fun z => hne ⟨c1, z⟩
          omega
        simp only [↓g115_0, ↓g115_1, ↓g115_2, ↓g115_4, ↓g115_5, ↓g115_6, ↓g115_7, ↓g115_8, ↓g115_12, ↓g115_15, ↓g115_16, ↓g115_18, ↓g115_21, ↓g115_22, ↓g115_24, ↓g115_27, ↓g115_28, ↓g115_31, ↓g115_32, ↓g115_34, ↓g115_37, ↓g115_38, ↓g115_41, ↓g115_42, ↓g115_43, ↓g115_44, ↓g115_47, ↓g115_50, ↓g115_52, ↓g115_55, ↓g115_57, ↓g115_58, ↓g115_61, ↓g115_64, ↓g115_67, ↓g115_68, ↓mo_20, ↓mf_20_0, ↓mf_20_1, ↓mp_20_2, ↓mf_20_2, ↓mf_20_3, ↓mf_20_4, ↓mf_20_5, ↓mp_20_6, ↓mf_20_6, ↓mf_20_7, ↓mp_20_8, ↓mf_20_8, ↓mf_20_9, ↓mf_20_10, ↓mp_20_11, ↓mf_20_11, ↓mf_20_12, ↓mf_20_13, ↓mp_20_14, ↓mf_20_14, ↓mf_20_15, ↓mp_20_16, ↓mf_20_16, ↓ma_21, ↓ms_21, ↓ma_22, ↓ms_22, ↓ma_23, ↓ms_23, ↓ma_24, ↓ms_24, ↓ma_25, ↓ms_25, ↓ma_26, ↓ms_26, ↓ma_27, ↓ms_27, ↓ma_28, ↓ms_28, ↓ma_29, ↓ms_29, ↓ma_30, ↓ms_30, ↓ma_31, ↓ms_31, ↓bnd_some, ↓cond_true, ↓m_pv_none, ↓m_pv_some, m_b01_0, m_b01_1, true_and, and_true, eq_self, e1, ↓reduceIte, ↓g1, e2.mpr c1, ↓g2, e3, c4, e5]
        exact fin
      · simp only [↓g115_0, ↓g115_1, ↓g115_2, ↓g115_4, ↓g115_5, ↓g115_6, ↓g115_7, ↓g115_8, ↓g115_12, ↓g115_15, ↓g115_16, ↓g115_18, ↓g115_21, ↓g115_22, ↓g115_24, ↓g115_27, ↓g115_28, ↓g115_31, ↓g115_32, ↓g115_34, ↓g115_37, ↓g115_38, ↓g115_41, ↓g115_42, ↓g115_43, ↓g115_44, ↓g115_47, ↓g115_50, ↓g115_52, ↓g115_55, ↓g115_57, ↓g115_58, ↓g115_61, ↓g115_64, ↓g115_67, ↓g115_68, ↓mo_20, ↓mf_20_0, ↓mf_20_1, ↓mp_20_2, ↓mf_20_2, ↓mf_20_3, ↓mf_20_4, ↓mf_20_5, ↓mp_20_6, ↓mf_20_6, ↓mf_20_7, ↓mp_20_8, ↓mf_20_8, ↓mf_20_9, ↓mf_20_10, ↓mp_20_11, ↓mf_20_11, ↓mf_20_12, ↓mf_20_13, ↓mp_20_14, ↓mf_20_14, ↓mf_20_15, ↓mp_20_16, ↓mf_20_16, ↓ma_21, ↓ms_21, ↓ma_22, ↓ms_22, ↓ma_23, ↓ms_23, ↓ma_24, ↓ms_24, ↓ma_25, ↓ms_25, ↓ma_26, ↓ms_26, ↓ma_27, ↓ms_27, ↓ma_28, ↓ms_28, ↓ma_29, ↓ms_29, ↓ma_30, ↓ms_30, ↓ma_31, ↓ms_31, ↓bnd_some, ↓cond_true, ↓m_pv_none, ↓m_pv_some, m_b01_0, m_b01_1, true_and, and_true, eq_self, e1, ↓reduceIte, ↓g1, e2, c1, e5]
        exact fin
theorem n_bind (h : RW d l) (hk : Tok l) {p : Nat} (hp : p < l.length) (h0 : kd l p = 0) (K : Option Value → mM → Prop) : go S 115 0 [.ref 20, .int (nI p), .null, .null, .null] [] (mk c (md d)) K = K (some (.int (bndr l p))) (mk c (md d)) := by
  have hl := hk.2
  have hlt := (nu_lt hk.1 hp hl).2 h0
  obtain ⟨x, hx1, hx2, -⟩ := bch_at hk.1 hp 0 (by omega)
  have g := n_bindL (S := S) (c := c) h hk hp h0 p 0 (Nat.le_refl _) (Nat.zero_le _) ⟨x, hx1, hx2⟩ (fun i' y hi' => absurd hi' (Nat.not_lt_zero i')) K
  unfold bndr
  rw [if_pos h0]
  simp only [↓g115_0, ↓g115_1, ↓g115_2, ↓g115_4, ↓g115_5, ↓g115_6, ↓g115_7, ↓g115_8, ↓g115_12, ↓g115_15, ↓g115_16, ↓g115_18, ↓g115_21, ↓g115_22, ↓g115_24, ↓g115_27, ↓g115_28, ↓g115_31, ↓g115_32, ↓g115_34, ↓g115_37, ↓g115_38, ↓g115_41, ↓g115_42, ↓g115_43, ↓g115_44, ↓g115_47, ↓g115_50, ↓g115_52, ↓g115_55, ↓g115_57, ↓g115_58, ↓g115_61, ↓g115_64, ↓g115_67, ↓g115_68]
  exact g
theorem n_says {q : List Int32} (h : TX d q) (hq : q.length < 400) (v : Int32) : ∃ d', TX d' (q ++ [v]) ∧ mx [11] [16] d d' ∧ ∀ (K : Option Value → mM → Prop), go S 117 0 [.ref 20, .int v] [] (mk c (md d)) K = K none (mk c (md d')) := by
  refine ⟨ca (ca d 11 (upd (d 11) q.length v)) 0 (upd (d 0) 16 (nI (q.length + 1))), ⟨?_, fun p hp => ?_⟩, ?_, fun K => ?_⟩
  · rw [ca_eq, upd_eq, List.length_append, List.length_singleton]
  · rw [List.length_append, List.length_singleton] at hp
    rw [ca_ne (show (11 : Nat) ≠ 0 by decide), ca_eq, List.getD_eq_getElem?_getD]
    by_cases e : p = q.length
    · subst e
      rw [upd_eq]
      simp
    · rw [upd_ne e, List.getElem?_append_left (by omega), h.2 p (by omega), List.getD_eq_getElem?_getD]
  · exact mx_tr (mx_ca (by simp) (by decide)) (mx_u (a := 16) (d := ca d 11 (upd (d 11) q.length v)) (by simp))
  · simp only [↓g117_0, ↓g117_1, ↓g117_4, ↓g117_5, ↓g117_8, ↓g117_9, ↓g117_10, ↓g117_11, ↓g117_12, ↓g117_15, ↓g117_16, ↓g117_17, ↓g117_20, ↓mo_20, ↓mf_20_0, ↓mf_20_1, ↓mp_20_2, ↓mf_20_2, ↓mf_20_3, ↓mf_20_4, ↓mf_20_5, ↓mp_20_6, ↓mf_20_6, ↓mf_20_7, ↓mp_20_8, ↓mf_20_8, ↓mf_20_9, ↓mf_20_10, ↓mp_20_11, ↓mf_20_11, ↓mf_20_12, ↓mf_20_13, ↓mp_20_14, ↓mf_20_14, ↓mf_20_15, ↓mp_20_16, ↓mf_20_16, ↓ma_21, ↓ms_21, ↓ma_22, ↓ms_22, ↓ma_23, ↓ms_23, ↓ma_24, ↓ms_24, ↓ma_25, ↓ms_25, ↓ma_26, ↓ms_26, ↓ma_27, ↓ms_27, ↓ma_28, ↓ms_28, ↓ma_29, ↓ms_29, ↓ma_30, ↓ms_30, ↓ma_31, ↓ms_31, ↓bnd_some, ↓cond_true, ↓m_pv_none, ↓m_pv_some, m_b01_0, m_b01_1, true_and, and_true, eq_self, h.1, ib hq, nI_clamp (show q.length < 2 ^ 31 by omega), cz_11, nI_1]
theorem n_nameBy (M : mM) {n : Nat} (h : n < 2 ^ 30) (K : Option Value → mM → Prop) : go S 118 0 [.int (nI n)] [] M K = K (some (.int (nI (103 + n % 20)))) M := by
  simp only [↓g118_0, ↓g118_2, ↓g118_3, ↓g118_5, ↓g118_6, ↓g118_7, l_mod h]
theorem n_printL (hk : Tok l) : ∀ (n k : Nat) (d : Nat → Nat → Int32), n + k = l.length → RW d l → DV d l → TX d (txt l k) → ∃ d', TX d' (txt l l.length) ∧ mx [11] [16] d d' ∧ ∀ (K : Option Value → mM → Prop), go S 119 7 [.ref 20, .int (nI k)] [] (mk c (md d)) K = K none (mk c (md d'))
  | 0, k, d, hn, h, hv, hx => by
    have e : k = l.length := by omega
    subst e
    refine ⟨d, hx, mx_rf, fun K => ?_⟩
    rw [g119_7]
    simp only [↓g119_0, ↓g119_1, ↓g119_2, ↓g119_5, ↓g119_6, ↓g119_8, ↓g119_9, ↓g119_12, ↓g119_15, ↓g119_16, ↓g119_17, ↓g119_20, ↓g119_48, ↓g119_49, ↓g119_50, ↓g119_53, ↓g119_54, ↓g119_55, ↓g119_56, ↓g119_57, ↓g119_58, ↓g119_59, ↓g119_62, ↓g119_63, ↓g119_66, ↓g119_69, ↓g119_72, ↓g119_73, ↓g119_75, ↓g119_76, ↓g119_77, ↓g119_80, ↓g119_81, ↓g119_84, ↓g119_87, ↓g119_88, ↓g119_90, ↓g119_93, ↓g119_94, ↓g119_95, ↓g119_98, ↓g119_99, ↓g119_100, ↓g119_103, ↓g119_106, ↓g119_109, ↓g119_110, ↓g119_112, ↓g119_115, ↓g119_118, ↓g119_121, ↓mo_20, ↓mf_20_0, ↓mf_20_1, ↓mp_20_2, ↓mf_20_2, ↓mf_20_3, ↓mf_20_4, ↓mf_20_5, ↓mp_20_6, ↓mf_20_6, ↓mf_20_7, ↓mp_20_8, ↓mf_20_8, ↓mf_20_9, ↓mf_20_10, ↓mp_20_11, ↓mf_20_11, ↓mf_20_12, ↓mf_20_13, ↓mp_20_14, ↓mf_20_14, ↓mf_20_15, ↓mp_20_16, ↓mf_20_16, ↓ma_21, ↓ms_21, ↓ma_22, ↓ms_22, ↓ma_23, ↓ms_23, ↓ma_24, ↓ms_24, ↓ma_25, ↓ms_25, ↓ma_26, ↓ms_26, ↓ma_27, ↓ms_27, ↓ma_28, ↓ms_28, ↓ma_29, ↓ms_29, ↓ma_30, ↓ms_30, ↓ma_31, ↓ms_31, ↓bnd_some, ↓cond_true, ↓m_pv_none, ↓m_pv_some, m_b01_0, m_b01_1, true_and, and_true, eq_self, h.1, Int32.le_refl, ↓reduceIte]
  | n + 1, k, d, hn, h, hv, hx => by
    have hl := hk.2
    have hkl : k < l.length := by omega
    have hkd := hk.1.kd hkl
    have hnu := nu_lt hk.1 hkl hl
    have hdp := dep_lt hk.1 hkl hl
    have e1 : ¬ nI l.length ≤ nI k := nI_ge (by omega) (by omega)
    have g1 := fun K => n_kind (S := S) (c := c) h hk hkl K
    have g2 := fun K => n_number (S := S) (c := c) h hk hkl K
    have e2 : (nI (kd l k) = 0) ↔ kd l k = 0 := nI_eq (b := 0) (by omega) (by decide)
    have e3 : (nI (kd l k) = 1) ↔ kd l k = 1 := nI_eq (b := 1) (by omega) (by decide)
    have e4 : (nI (kd l k) = 2) ↔ kd l k = 2 := nI_eq (b := 2) (by omega) (by decide)
    have i1 := ib (show k < 200 by omega)
    have i2 := nI_clamp (show k < 2 ^ 31 by omega)
    have htl := txt_len l k
    have hts : txt l (k + 1) = txt l k ++ tch l k := rfl
    have hvk := hv k hkl
    by_cases z0 : kd l k = 0
    · have ht : tch l k = [nI (103 + (dep l k - 1 - nu l k) % 20)] := if_pos z0
      obtain ⟨d1, b1, b2, b3⟩ := n_says (S := S) (c := c) hx (by omega) (nI (103 + (dep l k - 1 - nu l k) % 20))
      rw [← ht, ← hts] at b1
      obtain ⟨d2, q1, q2, q3⟩ := n_printL hk n (k + 1) d1 (by omega) (h.mx b2 (by simp) (by simp)) (hv.mx b2 (by simp)) b1
      refine ⟨d2, q1, mx_tr b2 q2, fun K => ?_⟩
      have hlt := hnu.2 z0
      have e5 : nI (dep l k) - 1 - nI (nu l k) = nI (dep l k - 1 - nu l k) := by rw [l_1, pk_sub (by omega), pk_sub (by omega)]
      have g3 := fun M K => n_nameBy (S := S) M (n := dep l k - 1 - nu l k) (by omega) K
      rw [g119_7]
      simp only [↓g119_0, ↓g119_1, ↓g119_2, ↓g119_5, ↓g119_6, ↓g119_8, ↓g119_9, ↓g119_12, ↓g119_15, ↓g119_16, ↓g119_17, ↓g119_20, ↓g119_48, ↓g119_49, ↓g119_50, ↓g119_53, ↓g119_54, ↓g119_55, ↓g119_56, ↓g119_57, ↓g119_58, ↓g119_59, ↓g119_62, ↓g119_63, ↓g119_66, ↓g119_69, ↓g119_72, ↓g119_73, ↓g119_75, ↓g119_76, ↓g119_77, ↓g119_80, ↓g119_81, ↓g119_84, ↓g119_87, ↓g119_88, ↓g119_90, ↓g119_93, ↓g119_94, ↓g119_95, ↓g119_98, ↓g119_99, ↓g119_100, ↓g119_103, ↓g119_106, ↓g119_109, ↓g119_110, ↓g119_112, ↓g119_115, ↓g119_118, ↓g119_121, ↓mo_20, ↓mf_20_0, ↓mf_20_1, ↓mp_20_2, ↓mf_20_2, ↓mf_20_3, ↓mf_20_4, ↓mf_20_5, ↓mp_20_6, ↓mf_20_6, ↓mf_20_7, ↓mp_20_8, ↓mf_20_8, ↓mf_20_9, ↓mf_20_10, ↓mp_20_11, ↓mf_20_11, ↓mf_20_12, ↓mf_20_13, ↓mp_20_14, ↓mf_20_14, ↓mf_20_15, ↓mp_20_16, ↓mf_20_16, ↓ma_21, ↓ms_21, ↓ma_22, ↓ms_22, ↓ma_23, ↓ms_23, ↓ma_24, ↓ms_24, ↓ma_25, ↓ms_25, ↓ma_26, ↓ms_26, ↓ma_27, ↓ms_27, ↓ma_28, ↓ms_28, ↓ma_29, ↓ms_29, ↓ma_30, ↓ms_30, ↓ma_31, ↓ms_31, ↓bnd_some, ↓cond_true, ↓m_pv_none, ↓m_pv_some, m_b01_0, m_b01_1, true_and, and_true, eq_self, h.1, e1, ↓reduceIte, ↓g1, e2.mpr z0, i1, i2, hvk, ↓g2, e5, ↓g3, ↓b3, nI_1]
      exact q3 K
    · by_cases z1 : kd l k = 1
      · have ht : tch l k = [nI (97 + nu l k)] := by unfold tch; rw [if_neg z0, if_pos z1]
        obtain ⟨d1, b1, b2, b3⟩ := n_says (S := S) (c := c) hx (by omega) (nI (97 + nu l k))
        rw [← ht, ← hts] at b1
        obtain ⟨d2, q1, q2, q3⟩ := n_printL hk n (k + 1) d1 (by omega) (h.mx b2 (by simp) (by simp)) (hv.mx b2 (by simp)) b1
        refine ⟨d2, q1, mx_tr b2 q2, fun K => ?_⟩
        have e5 : (97 : Int32) + nI (nu l k) = nI (97 + nu l k) := by rw [show (97 : Int32) = nI 97 from rfl, nI_add]
        rw [g119_7]
        simp only [↓g119_0, ↓g119_1, ↓g119_2, ↓g119_5, ↓g119_6, ↓g119_8, ↓g119_9, ↓g119_12, ↓g119_15, ↓g119_16, ↓g119_17, ↓g119_20, ↓g119_48, ↓g119_49, ↓g119_50, ↓g119_53, ↓g119_54, ↓g119_55, ↓g119_56, ↓g119_57, ↓g119_58, ↓g119_59, ↓g119_62, ↓g119_63, ↓g119_66, ↓g119_69, ↓g119_72, ↓g119_73, ↓g119_75, ↓g119_76, ↓g119_77, ↓g119_80, ↓g119_81, ↓g119_84, ↓g119_87, ↓g119_88, ↓g119_90, ↓g119_93, ↓g119_94, ↓g119_95, ↓g119_98, ↓g119_99, ↓g119_100, ↓g119_103, ↓g119_106, ↓g119_109, ↓g119_110, ↓g119_112, ↓g119_115, ↓g119_118, ↓g119_121, ↓mo_20, ↓mf_20_0, ↓mf_20_1, ↓mp_20_2, ↓mf_20_2, ↓mf_20_3, ↓mf_20_4, ↓mf_20_5, ↓mp_20_6, ↓mf_20_6, ↓mf_20_7, ↓mp_20_8, ↓mf_20_8, ↓mf_20_9, ↓mf_20_10, ↓mp_20_11, ↓mf_20_11, ↓mf_20_12, ↓mf_20_13, ↓mp_20_14, ↓mf_20_14, ↓mf_20_15, ↓mp_20_16, ↓mf_20_16, ↓ma_21, ↓ms_21, ↓ma_22, ↓ms_22, ↓ma_23, ↓ms_23, ↓ma_24, ↓ms_24, ↓ma_25, ↓ms_25, ↓ma_26, ↓ms_26, ↓ma_27, ↓ms_27, ↓ma_28, ↓ms_28, ↓ma_29, ↓ms_29, ↓ma_30, ↓ms_30, ↓ma_31, ↓ms_31, ↓bnd_some, ↓cond_true, ↓m_pv_none, ↓m_pv_some, m_b01_0, m_b01_1, true_and, and_true, eq_self, h.1, e1, ↓reduceIte, ↓g1, e3.mpr z1, i_10, ↓g2, e5, ↓b3, nI_1]
        exact q3 K
      · by_cases z2 : kd l k = 2
        · have ht : tch l k = [76, nI (103 + dep l k % 20)] := tch_2 z2
          obtain ⟨d0, b4, b5, b6⟩ := n_says (S := S) (c := c) hx (by omega) 76
          obtain ⟨d1, b1, b2, b3⟩ := n_says (S := S) (c := c) b4 (by rw [List.length_append, List.length_singleton]; omega) (nI (103 + dep l k % 20))
          rw [List.append_assoc] at b1
          have b1' : TX d1 (txt l k ++ tch l k) := by rw [ht]; exact b1
          rw [← hts] at b1'
          have b25 := mx_tr b5 b2
          obtain ⟨d2, q1, q2, q3⟩ := n_printL hk n (k + 1) d1 (by omega) (h.mx b25 (by simp) (by simp)) (hv.mx b25 (by simp)) b1'
          refine ⟨d2, q1, mx_tr b25 q2, fun K => ?_⟩
          have g3 := fun M K => n_nameBy (S := S) M (n := dep l k) (by omega) K
          have hvk' := (hv.mx b5 (by simp)) k hkl
          rw [g119_7]
          simp only [↓g119_0, ↓g119_1, ↓g119_2, ↓g119_5, ↓g119_6, ↓g119_8, ↓g119_9, ↓g119_12, ↓g119_15, ↓g119_16, ↓g119_17, ↓g119_20, ↓g119_48, ↓g119_49, ↓g119_50, ↓g119_53, ↓g119_54, ↓g119_55, ↓g119_56, ↓g119_57, ↓g119_58, ↓g119_59, ↓g119_62, ↓g119_63, ↓g119_66, ↓g119_69, ↓g119_72, ↓g119_73, ↓g119_75, ↓g119_76, ↓g119_77, ↓g119_80, ↓g119_81, ↓g119_84, ↓g119_87, ↓g119_88, ↓g119_90, ↓g119_93, ↓g119_94, ↓g119_95, ↓g119_98, ↓g119_99, ↓g119_100, ↓g119_103, ↓g119_106, ↓g119_109, ↓g119_110, ↓g119_112, ↓g119_115, ↓g119_118, ↓g119_121, ↓mo_20, ↓mf_20_0, ↓mf_20_1, ↓mp_20_2, ↓mf_20_2, ↓mf_20_3, ↓mf_20_4, ↓mf_20_5, ↓mp_20_6, ↓mf_20_6, ↓mf_20_7, ↓mp_20_8, ↓mf_20_8, ↓mf_20_9, ↓mf_20_10, ↓mp_20_11, ↓mf_20_11, ↓mf_20_12, ↓mf_20_13, ↓mp_20_14, ↓mf_20_14, ↓mf_20_15, ↓mp_20_16, ↓mf_20_16, ↓ma_21, ↓ms_21, ↓ma_22, ↓ms_22, ↓ma_23, ↓ms_23, ↓ma_24, ↓ms_24, ↓ma_25, ↓ms_25, ↓ma_26, ↓ms_26, ↓ma_27, ↓ms_27, ↓ma_28, ↓ms_28, ↓ma_29, ↓ms_29, ↓ma_30, ↓ms_30, ↓ma_31, ↓ms_31, ↓bnd_some, ↓cond_true, ↓m_pv_none, ↓m_pv_some, m_b01_0, m_b01_1, true_and, and_true, eq_self, h.1, e1, ↓reduceIte, ↓g1, e4.mpr z2, show ((2 : Int32) = 0) = False from eq_false (by decide), show ((2 : Int32) = 1) = False from eq_false (by decide), ↓b6, i1, i2, hvk', ↓g3, ↓b3, nI_1]
          exact q3 K
        · have ht : tch l k = [64] := by unfold tch; rw [if_neg z0, if_neg z1, if_neg z2]
          obtain ⟨d1, b1, b2, b3⟩ := n_says (S := S) (c := c) hx (by omega) 64
          rw [← ht, ← hts] at b1
          obtain ⟨d2, q1, q2, q3⟩ := n_printL hk n (k + 1) d1 (by omega) (h.mx b2 (by simp) (by simp)) (hv.mx b2 (by simp)) b1
          refine ⟨d2, q1, mx_tr b2 q2, fun K => ?_⟩
          rw [g119_7]
          simp only [↓g119_0, ↓g119_1, ↓g119_2, ↓g119_5, ↓g119_6, ↓g119_8, ↓g119_9, ↓g119_12, ↓g119_15, ↓g119_16, ↓g119_17, ↓g119_20, ↓g119_48, ↓g119_49, ↓g119_50, ↓g119_53, ↓g119_54, ↓g119_55, ↓g119_56, ↓g119_57, ↓g119_58, ↓g119_59, ↓g119_62, ↓g119_63, ↓g119_66, ↓g119_69, ↓g119_72, ↓g119_73, ↓g119_75, ↓g119_76, ↓g119_77, ↓g119_80, ↓g119_81, ↓g119_84, ↓g119_87, ↓g119_88, ↓g119_90, ↓g119_93, ↓g119_94, ↓g119_95, ↓g119_98, ↓g119_99, ↓g119_100, ↓g119_103, ↓g119_106, ↓g119_109, ↓g119_110, ↓g119_112, ↓g119_115, ↓g119_118, ↓g119_121, ↓mo_20, ↓mf_20_0, ↓mf_20_1, ↓mp_20_2, ↓mf_20_2, ↓mf_20_3, ↓mf_20_4, ↓mf_20_5, ↓mp_20_6, ↓mf_20_6, ↓mf_20_7, ↓mp_20_8, ↓mf_20_8, ↓mf_20_9, ↓mf_20_10, ↓mp_20_11, ↓mf_20_11, ↓mf_20_12, ↓mf_20_13, ↓mp_20_14, ↓mf_20_14, ↓mf_20_15, ↓mp_20_16, ↓mf_20_16, ↓ma_21, ↓ms_21, ↓ma_22, ↓ms_22, ↓ma_23, ↓ms_23, ↓ma_24, ↓ms_24, ↓ma_25, ↓ms_25, ↓ma_26, ↓ms_26, ↓ma_27, ↓ms_27, ↓ma_28, ↓ms_28, ↓ma_29, ↓ms_29, ↓ma_30, ↓ms_30, ↓ma_31, ↓ms_31, ↓bnd_some, ↓cond_true, ↓m_pv_none, ↓m_pv_some, m_b01_0, m_b01_1, true_and, and_true, eq_self, h.1, e1, ↓reduceIte, ↓g1, e2, e3, e4, z0, z1, z2, ↓b3, nI_1]
          exact q3 K
theorem n_print (hk : Tok l) (h : RW d l) (hv : DV d l) : ∃ d', TX d' (txt l l.length) ∧ mx [11] [16] d d' ∧ ∀ (K : Option Value → mM → Prop), go S 119 0 [.ref 20, .null] [] (mk c (md d)) K = K none (mk c (md d')) := by
  have hD : mx [11] [16] d (ca d 0 (upd (d 0) 16 0)) := mx_u (by simp)
  obtain ⟨d', b1, b2, b3⟩ := n_printL (S := S) (c := c) hk l.length 0 (ca d 0 (upd (d 0) 16 0)) rfl (h.mx hD (by simp) (by simp)) (hv.mx hD (by simp)) ⟨by rw [ca_eq, upd_eq]; rfl, fun i hi => absurd hi (Nat.not_lt_zero i)⟩
  refine ⟨d', b1, mx_tr hD b2, fun K => ?_⟩
  simp only [↓g119_0, ↓g119_1, ↓g119_2, ↓g119_5, ↓g119_6, ↓g119_8, ↓g119_9, ↓g119_12, ↓g119_15, ↓g119_16, ↓g119_17, ↓g119_20, ↓g119_48, ↓g119_49, ↓g119_50, ↓g119_53, ↓g119_54, ↓g119_55, ↓g119_56, ↓g119_57, ↓g119_58, ↓g119_59, ↓g119_62, ↓g119_63, ↓g119_66, ↓g119_69, ↓g119_72, ↓g119_73, ↓g119_75, ↓g119_76, ↓g119_77, ↓g119_80, ↓g119_81, ↓g119_84, ↓g119_87, ↓g119_88, ↓g119_90, ↓g119_93, ↓g119_94, ↓g119_95, ↓g119_98, ↓g119_99, ↓g119_100, ↓g119_103, ↓g119_106, ↓g119_109, ↓g119_110, ↓g119_112, ↓g119_115, ↓g119_118, ↓g119_121, ↓mo_20, ↓mf_20_0, ↓mf_20_1, ↓mp_20_2, ↓mf_20_2, ↓mf_20_3, ↓mf_20_4, ↓mf_20_5, ↓mp_20_6, ↓mf_20_6, ↓mf_20_7, ↓mp_20_8, ↓mf_20_8, ↓mf_20_9, ↓mf_20_10, ↓mp_20_11, ↓mf_20_11, ↓mf_20_12, ↓mf_20_13, ↓mp_20_14, ↓mf_20_14, ↓mf_20_15, ↓mp_20_16, ↓mf_20_16, ↓ma_21, ↓ms_21, ↓ma_22, ↓ms_22, ↓ma_23, ↓ms_23, ↓ma_24, ↓ms_24, ↓ma_25, ↓ms_25, ↓ma_26, ↓ms_26, ↓ma_27, ↓ms_27, ↓ma_28, ↓ms_28, ↓ma_29, ↓ms_29, ↓ma_30, ↓ms_30, ↓ma_31, ↓ms_31, ↓bnd_some, ↓cond_true, ↓m_pv_none, ↓m_pv_some, m_b01_0, m_b01_1, true_and, and_true, eq_self]
  exact b3 K
end MOD7
