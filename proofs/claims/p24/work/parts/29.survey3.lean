/-! Survey: what comes next, names, what binds -/
theorem nx_step {q : Nat → Bool} {n k : Nat} (h : ∀ j, j < k → q j = false) (hk : k < n) (hq : q k = true) : fst q n = some k := fst_some hq h hk
section SURV4
variable {S : mS} {t : mM} {T : Nat → Tm} {v : Nat} {c : Nat → Nat → Int32}
theorem cnd_0 (l : Tm) (p : Nat) : cnd l 0 p = red l p := by
  unfold cnd
  rw [if_neg (by decide)]
  simp
theorem cnd_2 (l : Tm) (p : Nat) : cnd l 2 p = (red l p && decide (dep l p = 0)) := by
  unfold cnd
  rw [if_neg (by decide)]
  simp
theorem u_nextL (h : CS c T) (hs : SV c v (T v)) (hw : WF (T v)) {o : Nat} (ho : o = 0 ∨ o = 2) : ∀ (n k : Nat), n + k = (T v).length → (∀ j, j < k → cnd (T v) o j = false) → ∀ (K : Option Value → mM → Prop), go S 40 12 [.ref 6, .int (nI o), .int (nI k)] [] (mk c t) K = K (some (.int (nbI (nxt (T v) o)))) (mk c t)
  | 0, k, hk, hq, K => by
    have e : k = (T v).length := by omega
    subst e
    have e2 : nxt (T v) o = none := fst_none hq
    rw [g40_12]
    simp only [↓g40_0, ↓g40_1, ↓g40_2, ↓g40_5, ↓g40_6, ↓g40_9, ↓g40_10, ↓g40_11, ↓g40_13, ↓g40_14, ↓g40_17, ↓g40_20, ↓g40_21, ↓g40_22, ↓g40_25, ↓g40_28, ↓g40_29, ↓g40_32, ↓g40_33, ↓g40_34, ↓g40_37, ↓g40_40, ↓g40_41, ↓g40_42, ↓g40_45, ↓g40_48, ↓g40_50, ↓mo_0, ↓mf_0_0, ↓mf_0_1, ↓mf_0_2, ↓mf_0_3, ↓mf_0_4, ↓mo_1, ↓mf_1_0, ↓mf_1_1, ↓mo_2, ↓mf_2_0, ↓mo_4, ↓mf_4_0, ↓mo_6, ↓mf_6_0, ↓mf_6_1, ↓mf_6_2, ↓mf_6_3, ↓mp_6_4, ↓mf_6_4, ↓mp_6_5, ↓mf_6_5, ↓mo_7, ↓mf_7_0, ↓mo_9, ↓mf_9_0, ↓mo_11, ↓mf_11_0, ↓mo_13, ↓mf_13_0, ↓mf_13_1, ↓mp_13_2, ↓mf_13_2, ↓mp_13_3, ↓mf_13_3, ↓mo_14, ↓mf_14_0, ↓mp_14_1, ↓mf_14_1, ↓mp_14_2, ↓mf_14_2, ↓mo_15, ↓mf_15_0, ↓mf_15_1, ↓mp_15_2, ↓mf_15_2, ↓mo_16, ↓mf_16_0, ↓mo_18, ↓mf_18_0, ↓ma_3, ↓ms_3, ↓ma_5, ↓ms_5, ↓ma_8, ↓ms_8, ↓ma_10, ↓ms_10, ↓ma_12, ↓ms_12, ↓ma_17, ↓ms_17, ↓ma_19, ↓ms_19, ↓bnd_some, ↓cond_true, ↓m_pv_none, ↓m_pv_some, m_b01_0, m_b01_1, true_and, and_true, hs.len, Int32.le_refl, if_true, e2]
    rfl
  | n + 1, k, hk, hq, K => by
    have hkl : k < (T v).length := by omega
    have hl := (h v hs.1).1
    have e1 : ¬ nI (T v).length ≤ nI k := nI_ge (by omega) (by omega)
    have g1 := u_red (S := S) (t := t) h hw hs hkl
    have hd := dep_lt hw hkl hl
    have e3 : (nI (dep (T v) k) = 0) ↔ dep (T v) k = 0 := nI_eq (b := 0) (by omega) (by omega)
    have e4 : (nI o = 0) ↔ o = 0 := nI_eq (b := 0) (by omega) (by omega)
    have e5 : rg 200 (c 10) (nI k) = nI (dep (T v) k) := by
      rw [rg_in (by omega) (by decide)]
      exact (hs.2.2.2.2 k hkl).1
    have ih : cnd (T v) o k = false → go S 40 12 [.ref 6, .int (nI o), .int (nI (k + 1))] [] (mk c t) K = K (some (.int (nbI (nxt (T v) o)))) (mk c t) := fun z => u_nextL h hs hw ho n (k + 1) (by omega) (fun j hj => by
      by_cases e : j = k
      · rw [e]; exact z
      · exact hq j (by omega)) K
    have hyes : cnd (T v) o k = true → nxt (T v) o = some k := fun z => fst_some z hq hkl
    rw [g40_12]
    simp only [↓g40_0, ↓g40_1, ↓g40_2, ↓g40_5, ↓g40_6, ↓g40_9, ↓g40_10, ↓g40_11, ↓g40_13, ↓g40_14, ↓g40_17, ↓g40_20, ↓g40_21, ↓g40_22, ↓g40_25, ↓g40_28, ↓g40_29, ↓g40_32, ↓g40_33, ↓g40_34, ↓g40_37, ↓g40_40, ↓g40_41, ↓g40_42, ↓g40_45, ↓g40_48, ↓g40_50, ↓mo_0, ↓mf_0_0, ↓mf_0_1, ↓mf_0_2, ↓mf_0_3, ↓mf_0_4, ↓mo_1, ↓mf_1_0, ↓mf_1_1, ↓mo_2, ↓mf_2_0, ↓mo_4, ↓mf_4_0, ↓mo_6, ↓mf_6_0, ↓mf_6_1, ↓mf_6_2, ↓mf_6_3, ↓mp_6_4, ↓mf_6_4, ↓mp_6_5, ↓mf_6_5, ↓mo_7, ↓mf_7_0, ↓mo_9, ↓mf_9_0, ↓mo_11, ↓mf_11_0, ↓mo_13, ↓mf_13_0, ↓mf_13_1, ↓mp_13_2, ↓mf_13_2, ↓mp_13_3, ↓mf_13_3, ↓mo_14, ↓mf_14_0, ↓mp_14_1, ↓mf_14_1, ↓mp_14_2, ↓mf_14_2, ↓mo_15, ↓mf_15_0, ↓mf_15_1, ↓mp_15_2, ↓mf_15_2, ↓mo_16, ↓mf_16_0, ↓mo_18, ↓mf_18_0, ↓ma_3, ↓ms_3, ↓ma_5, ↓ms_5, ↓ma_8, ↓ms_8, ↓ma_10, ↓ms_10, ↓ma_12, ↓ms_12, ↓ma_17, ↓ms_17, ↓ma_19, ↓ms_19, ↓bnd_some, ↓cond_true, ↓m_pv_none, ↓m_pv_some, m_b01_0, m_b01_1, true_and, and_true, hs.len, e1, if_false, ↓g1, e4, ↓u_around, e5, e3, nI_1]
    by_cases hr : red (T v) k = true
    · simp only [hr, if_true]
      rw [if_neg (by decide)]
      by_cases h0 : o = 0
      · subst h0
        rw [if_pos rfl, hyes (by rw [cnd_0]; exact hr)]
        rfl
      · have h2 : o = 2 := by omega
        subst h2
        rw [if_neg h0]
        by_cases hz : dep (T v) k = 0
        · rw [if_pos hz, hyes (by rw [cnd_2, hr]; simp [hz])]
          rfl
        · rw [if_neg hz]
          exact ih (by rw [cnd_2]; simp [hz])
    · simp only [hr]
      rw [if_pos (by decide)]
      refine ih ?_
      rcases ho with rfl | rfl
      · rw [cnd_0]; simpa using hr
      · rw [cnd_2]; simp [hr]
theorem u_next (h : CS c T) (hs : SV c v (T v)) (hw : WF (T v)) {o : Nat} (ho : o < 3) (K : Option Value → mM → Prop) {x : Int32} (hx : x = nI o := by rfl) : go S 40 0 [.ref 6, .int x, .null] [] (mk c t) K = K (some (.int (nbI (nxt (T v) o)))) (mk c t) := by
  subst hx
  have e4 : (nI o = 1) ↔ o = 1 := nI_eq (b := 1) (by omega) (by omega)
  have g2 := u_inner (S := S) (t := t) h hs hw
  by_cases h1 : o = 1
  · subst h1
    simp only [↓g40_0, ↓g40_1, ↓g40_2, ↓g40_5, ↓g40_6, ↓g40_9, ↓g40_10, ↓g40_11, ↓g40_13, ↓g40_14, ↓g40_17, ↓g40_20, ↓g40_21, ↓g40_22, ↓g40_25, ↓g40_28, ↓g40_29, ↓g40_32, ↓g40_33, ↓g40_34, ↓g40_37, ↓g40_40, ↓g40_41, ↓g40_42, ↓g40_45, ↓g40_48, ↓g40_50, show nI 1 = 1 from rfl, if_true, ↓g2, ↓mo_0, ↓mf_0_0, ↓mf_0_1, ↓mf_0_2, ↓mf_0_3, ↓mf_0_4, ↓mo_1, ↓mf_1_0, ↓mf_1_1, ↓mo_2, ↓mf_2_0, ↓mo_4, ↓mf_4_0, ↓mo_6, ↓mf_6_0, ↓mf_6_1, ↓mf_6_2, ↓mf_6_3, ↓mp_6_4, ↓mf_6_4, ↓mp_6_5, ↓mf_6_5, ↓mo_7, ↓mf_7_0, ↓mo_9, ↓mf_9_0, ↓mo_11, ↓mf_11_0, ↓mo_13, ↓mf_13_0, ↓mf_13_1, ↓mp_13_2, ↓mf_13_2, ↓mp_13_3, ↓mf_13_3, ↓mo_14, ↓mf_14_0, ↓mp_14_1, ↓mf_14_1, ↓mp_14_2, ↓mf_14_2, ↓mo_15, ↓mf_15_0, ↓mf_15_1, ↓mp_15_2, ↓mf_15_2, ↓mo_16, ↓mf_16_0, ↓mo_18, ↓mf_18_0, ↓ma_3, ↓ms_3, ↓ma_5, ↓ms_5, ↓ma_8, ↓ms_8, ↓ma_10, ↓ms_10, ↓ma_12, ↓ms_12, ↓ma_17, ↓ms_17, ↓ma_19, ↓ms_19, ↓bnd_some, ↓cond_true, ↓m_pv_none, ↓m_pv_some, m_b01_0, m_b01_1, true_and, and_true]
  · have g := u_nextL (S := S) (t := t) h hs hw (o := o) (by omega) (T v).length 0 rfl (fun j hj => by omega) K
    simp only [↓g40_0, ↓g40_1, ↓g40_2, ↓g40_5, ↓g40_6, ↓g40_9, ↓g40_10, ↓g40_11, ↓g40_13, ↓g40_14, ↓g40_17, ↓g40_20, ↓g40_21, ↓g40_22, ↓g40_25, ↓g40_28, ↓g40_29, ↓g40_32, ↓g40_33, ↓g40_34, ↓g40_37, ↓g40_40, ↓g40_41, ↓g40_42, ↓g40_45, ↓g40_48, ↓g40_50, e4, h1, if_false]
    exact g
theorem l_20 : (20 : Int32) = nI 20 := rfl
theorem l_mod {n : Nat} (h : n < 2 ^ 30) : 103 + (nI n - nI n / 20 * 20) = nI (103 + n % 20) := by
  rw [l_20, pk_rem (by omega) (by omega) (by omega), show (103 : Int32) = nI 103 from rfl, nI_add]
theorem u_sign (h : CS c T) (hs : SV c v (T v)) (hw : WF (T v)) {k : Nat} (hk : k < (T v).length) (K : Option Value → mM → Prop) : go S 47 0 [.ref 6, .int (nI k), .null] [] (mk c t) K = K (some (.int ((tch (T v) k).getD 0 0))) (mk c t) := by
  have hl := (h v hs.1).1
  have g1 := q_kind (S := S) (t := t) h hs.1 hk
  have g2 := q_number (S := S) (t := t) h hs.1 hk
  rw [← hs.2.1] at g1 g2
  have hkd := hw.kd hk
  have hnu := nu_lt hw hk hl
  have hd := dep_lt hw hk hl
  have e5 : rg 200 (c 10) (nI k) = nI (dep (T v) k) := by
    rw [rg_in (by omega) (by decide)]
    exact (hs.2.2.2.2 k hk).1
  have e0 : (nI (kd (T v) k) = 0) ↔ kd (T v) k = 0 := nI_eq (b := 0) (by omega) (by omega)
  have e1 : (nI (kd (T v) k) = 1) ↔ kd (T v) k = 1 := nI_eq (b := 1) (by omega) (by omega)
  have e2 : (nI (kd (T v) k) = 2) ↔ kd (T v) k = 2 := nI_eq (b := 2) (by omega) (by omega)
  simp only [↓g47_0, ↓g47_1, ↓g47_4, ↓g47_5, ↓g47_8, ↓g47_9, ↓g47_12, ↓g47_13, ↓g47_14, ↓g47_17, ↓g47_18, ↓g47_21, ↓g47_22, ↓g47_25, ↓g47_52, ↓g47_53, ↓g47_54, ↓g47_57, ↓g47_58, ↓g47_59, ↓g47_60, ↓g47_61, ↓g47_64, ↓g47_65, ↓g47_67, ↓g47_68, ↓g47_69, ↓g47_70, ↓g47_72, ↓g47_73, ↓g47_75, ↓mo_0, ↓mf_0_0, ↓mf_0_1, ↓mf_0_2, ↓mf_0_3, ↓mf_0_4, ↓mo_1, ↓mf_1_0, ↓mf_1_1, ↓mo_2, ↓mf_2_0, ↓mo_4, ↓mf_4_0, ↓mo_6, ↓mf_6_0, ↓mf_6_1, ↓mf_6_2, ↓mf_6_3, ↓mp_6_4, ↓mf_6_4, ↓mp_6_5, ↓mf_6_5, ↓mo_7, ↓mf_7_0, ↓mo_9, ↓mf_9_0, ↓mo_11, ↓mf_11_0, ↓mo_13, ↓mf_13_0, ↓mf_13_1, ↓mp_13_2, ↓mf_13_2, ↓mp_13_3, ↓mf_13_3, ↓mo_14, ↓mf_14_0, ↓mp_14_1, ↓mf_14_1, ↓mp_14_2, ↓mf_14_2, ↓mo_15, ↓mf_15_0, ↓mf_15_1, ↓mp_15_2, ↓mf_15_2, ↓mo_16, ↓mf_16_0, ↓mo_18, ↓mf_18_0, ↓ma_3, ↓ms_3, ↓ma_5, ↓ms_5, ↓ma_8, ↓ms_8, ↓ma_10, ↓ms_10, ↓ma_12, ↓ms_12, ↓ma_17, ↓ms_17, ↓ma_19, ↓ms_19, ↓bnd_some, ↓cond_true, ↓m_pv_none, ↓m_pv_some, m_b01_0, m_b01_1, true_and, and_true, ↓g1, ↓g2, e0, e1, e2, ↓u_around, e5, ↓u_letter]
  unfold tch
  by_cases h0 : kd (T v) k = 0
  · have hlt := hnu.2 h0
    have e6 : nI (dep (T v) k) - 1 - nI (nu (T v) k) = nI (dep (T v) k - 1 - nu (T v) k) := by
      rw [l_1, pk_sub (by omega), pk_sub (by omega)]
    rw [if_pos h0, if_pos h0, e6, l_mod (by omega)]
    rfl
  · rw [if_neg h0, if_neg h0]
    by_cases h1 : kd (T v) k = 1
    · rw [if_pos h1, if_pos h1, show (97 : Int32) = nI 97 from rfl, nI_add]
      rfl
    · rw [if_neg h1, if_neg h1]
      by_cases h2 : kd (T v) k = 2
      · rw [if_pos h2, if_pos h2]
        rfl
      · rw [if_neg h2, if_neg h2]
        rfl
theorem tch_2 {l : Tm} {k : Nat} (h : kd l k = 2) : tch l k = [76, nI (103 + dep l k % 20)] := by
  unfold tch
  rw [if_neg (by omega), if_neg (by omega), if_pos h]
theorem tch_n {l : Tm} {k : Nat} (h : kd l k ≠ 2) : ∃ x, tch l k = [x] := by
  unfold tch
  split
  · exact ⟨_, rfl⟩
  · split
    · exact ⟨_, rfl⟩
    · exact ⟨_, rfl⟩
theorem chr_pre {a b : List Int32} {i : Nat} (h : i < a.length) (hl : (a ++ b).length < 2 ^ 31) : chr (a ++ b) (nI i) = a.getD i 0 := by
  rw [chr_at (by rw [List.length_append]; omega) hl]
  simp only [List.getD_eq_getElem?_getD, List.getElem?_append_left h]
theorem txt_ex (l : Tm) (k : Nat) : ∀ n, ∃ b, txt l (k + n) = txt l k ++ b
  | 0 => ⟨[], by rw [List.append_nil]; rfl⟩
  | n + 1 => by
    obtain ⟨b, hb⟩ := txt_ex l k n
    exact ⟨b ++ tch l (k + n), by rw [← Nat.add_assoc, txt, hb, List.append_assoc]⟩
/-- the character at a place of a part -/
theorem chr_in {l : Tm} {n k i : Nat} (hk : k < n) (hn : n ≤ 200) (hi : i < (tch l k).length) : chr (txt l n) (nI ((txt l k).length + i)) = (tch l k).getD i 0 := by
  obtain ⟨b, hb⟩ := txt_ex l (k + 1) (n - (k + 1))
  rw [show k + 1 + (n - (k + 1)) = n by omega] at hb
  have h1 := txt_len l n
  rw [hb] at h1 ⊢
  rw [chr_pre (by rw [txt, List.length_append]; omega) (by omega), txt]
  simp only [List.getD_eq_getElem?_getD]
  rw [List.getElem?_append_right (by omega)]
  congr 2
  omega
theorem u_printedL (h : CS c T) (hs : SV c v (T v)) (hw : WF (T v)) (i : Int32) : ∀ (n k : Nat), n + k = (T v).length → (∀ j, j < (txt (T v) k).length → i ≠ nI j) → ∀ (K : Option Value → mM → Prop), go S 41 4 [.ref 6, .int i, .int (nI (txt (T v) k).length), .int (nI k)] [] (mk c t) K = K (some (.int (chr (txt (T v) (T v).length) i))) (mk c t)
  | 0, k, hk, hi, K => by
    have e : k = (T v).length := by omega
    subst e
    have hl := (h v hs.1).1
    have h2 := txt_len (T v) (T v).length
    rw [g41_4]
    simp only [↓g41_0, ↓g41_1, ↓g41_2, ↓g41_3, ↓g41_5, ↓g41_6, ↓g41_9, ↓g41_12, ↓g41_13, ↓g41_14, ↓g41_17, ↓g41_18, ↓g41_19, ↓g41_22, ↓g41_23, ↓g41_26, ↓g41_27, ↓g41_30, ↓g41_31, ↓g41_34, ↓g41_35, ↓g41_38, ↓g41_39, ↓g41_42, ↓g41_43, ↓g41_44, ↓g41_47, ↓g41_48, ↓g41_49, ↓g41_52, ↓g41_55, ↓g41_56, ↓g41_59, ↓g41_62, ↓g41_65, ↓g41_66, ↓mo_0, ↓mf_0_0, ↓mf_0_1, ↓mf_0_2, ↓mf_0_3, ↓mf_0_4, ↓mo_1, ↓mf_1_0, ↓mf_1_1, ↓mo_2, ↓mf_2_0, ↓mo_4, ↓mf_4_0, ↓mo_6, ↓mf_6_0, ↓mf_6_1, ↓mf_6_2, ↓mf_6_3, ↓mp_6_4, ↓mf_6_4, ↓mp_6_5, ↓mf_6_5, ↓mo_7, ↓mf_7_0, ↓mo_9, ↓mf_9_0, ↓mo_11, ↓mf_11_0, ↓mo_13, ↓mf_13_0, ↓mf_13_1, ↓mp_13_2, ↓mf_13_2, ↓mp_13_3, ↓mf_13_3, ↓mo_14, ↓mf_14_0, ↓mp_14_1, ↓mf_14_1, ↓mp_14_2, ↓mf_14_2, ↓mo_15, ↓mf_15_0, ↓mf_15_1, ↓mp_15_2, ↓mf_15_2, ↓mo_16, ↓mf_16_0, ↓mo_18, ↓mf_18_0, ↓ma_3, ↓ms_3, ↓ma_5, ↓ms_5, ↓ma_8, ↓ms_8, ↓ma_10, ↓ms_10, ↓ma_12, ↓ms_12, ↓ma_17, ↓ms_17, ↓ma_19, ↓ms_19, ↓bnd_some, ↓cond_true, ↓m_pv_none, ↓m_pv_some, m_b01_0, m_b01_1, true_and, and_true, hs.len, Int32.le_refl, if_true, chr_out hi (by omega)]
  | n + 1, k, hk, hi, K => by
    have hkl : k < (T v).length := by omega
    have hl := (h v hs.1).1
    have h2 := txt_len (T v) k
    have e1 : ¬ nI (T v).length ≤ nI k := nI_ge (by omega) (by omega)
    have g1 := u_sign (S := S) (t := t) h hs hw hkl
    have g2 := q_kind (S := S) (t := t) h hs.1 hkl
    rw [← hs.2.1] at g2
    have hkd := hw.kd hkl
    have e2 : (nI (kd (T v) k) = 2) ↔ kd (T v) k = 2 := nI_eq (b := 2) (by omega) (by omega)
    have hd := dep_lt hw hkl hl
    have e5 : rg 200 (c 10) (nI k) = nI (dep (T v) k) := by
      rw [rg_in (by omega) (by decide)]
      exact (hs.2.2.2.2 k hkl).1
    have ih := fun z => u_printedL h hs hw i n (k + 1) (by omega) z K
    rw [g41_4]
    simp only [↓g41_0, ↓g41_1, ↓g41_2, ↓g41_3, ↓g41_5, ↓g41_6, ↓g41_9, ↓g41_12, ↓g41_13, ↓g41_14, ↓g41_17, ↓g41_18, ↓g41_19, ↓g41_22, ↓g41_23, ↓g41_26, ↓g41_27, ↓g41_30, ↓g41_31, ↓g41_34, ↓g41_35, ↓g41_38, ↓g41_39, ↓g41_42, ↓g41_43, ↓g41_44, ↓g41_47, ↓g41_48, ↓g41_49, ↓g41_52, ↓g41_55, ↓g41_56, ↓g41_59, ↓g41_62, ↓g41_65, ↓g41_66, ↓mo_0, ↓mf_0_0, ↓mf_0_1, ↓mf_0_2, ↓mf_0_3, ↓mf_0_4, ↓mo_1, ↓mf_1_0, ↓mf_1_1, ↓mo_2, ↓mf_2_0, ↓mo_4, ↓mf_4_0, ↓mo_6, ↓mf_6_0, ↓mf_6_1, ↓mf_6_2, ↓mf_6_3, ↓mp_6_4, ↓mf_6_4, ↓mp_6_5, ↓mf_6_5, ↓mo_7, ↓mf_7_0, ↓mo_9, ↓mf_9_0, ↓mo_11, ↓mf_11_0, ↓mo_13, ↓mf_13_0, ↓mf_13_1, ↓mp_13_2, ↓mf_13_2, ↓mp_13_3, ↓mf_13_3, ↓mo_14, ↓mf_14_0, ↓mp_14_1, ↓mf_14_1, ↓mp_14_2, ↓mf_14_2, ↓mo_15, ↓mf_15_0, ↓mf_15_1, ↓mp_15_2, ↓mf_15_2, ↓mo_16, ↓mf_16_0, ↓mo_18, ↓mf_18_0, ↓ma_3, ↓ms_3, ↓ma_5, ↓ms_5, ↓ma_8, ↓ms_8, ↓ma_10, ↓ms_10, ↓ma_12, ↓ms_12, ↓ma_17, ↓ms_17, ↓ma_19, ↓ms_19, ↓bnd_some, ↓cond_true, ↓m_pv_none, ↓m_pv_some, m_b01_0, m_b01_1, true_and, and_true, hs.len, e1, if_false, ↓g1, ↓g2, e2, ↓u_around, e5, ↓u_letter, l_mod (show dep (T v) k < 2 ^ 30 by omega), nI_1]
    by_cases ei : nI (txt (T v) k).length = i
    · rw [if_pos ei, ← ei, ← Nat.add_zero (txt (T v) k).length, chr_in hkl hl (by unfold tch; split <;> (try split) <;> (try split) <;> simp)]
    · rw [if_neg ei]
      by_cases hk2 : kd (T v) k = 2
      · rw [if_pos hk2]
        have htx : (txt (T v) (k + 1)).length = (txt (T v) k).length + 1 + 1 := by rw [txt, List.length_append, tch_2 hk2]; rfl
        by_cases ei2 : nI ((txt (T v) k).length + 1) = i
        · rw [if_pos ei2, ← ei2, chr_in hkl hl (by rw [tch_2 hk2]; simp), tch_2 hk2]
          rfl
        · rw [if_neg ei2]
          rw [htx] at ih
          exact ih fun j hj => by
            by_cases z1 : j = (txt (T v) k).length
            · rw [z1]; exact fun z => ei z.symm
            · by_cases z2 : j = (txt (T v) k).length + 1
              · rw [z2]; exact fun z => ei2 z.symm
              · exact hi j (by omega)
      · rw [if_neg hk2]
        obtain ⟨x, hx⟩ := tch_n hk2
        have htx : (txt (T v) (k + 1)).length = (txt (T v) k).length + 1 := by rw [txt, List.length_append, hx]; rfl
        rw [htx] at ih
        exact ih fun j hj => by
          by_cases z1 : j = (txt (T v) k).length
          · rw [z1]; exact fun z => ei z.symm
          · exact hi j (by omega)
theorem u_printed (h : CS c T) (hs : SV c v (T v)) (hw : WF (T v)) (i : Int32) (K : Option Value → mM → Prop) : go S 41 0 [.ref 6, .int i, .null, .null] [] (mk c t) K = K (some (.int (chr (txt (T v) (T v).length) i))) (mk c t) := by
  have g := u_printedL (S := S) (t := t) h hs hw i (T v).length 0 rfl (fun j hj => absurd hj (Nat.not_lt_zero j)) K
  simp only [↓g41_0, ↓g41_1, ↓g41_2, ↓g41_3, ↓g41_5, ↓g41_6, ↓g41_9, ↓g41_12, ↓g41_13, ↓g41_14, ↓g41_17, ↓g41_18, ↓g41_19, ↓g41_22, ↓g41_23, ↓g41_26, ↓g41_27, ↓g41_30, ↓g41_31, ↓g41_34, ↓g41_35, ↓g41_38, ↓g41_39, ↓g41_42, ↓g41_43, ↓g41_44, ↓g41_47, ↓g41_48, ↓g41_49, ↓g41_52, ↓g41_55, ↓g41_56, ↓g41_59, ↓g41_62, ↓g41_65, ↓g41_66, l_0]
  exact g
/-- what binds a variable at a place -/
def bndr (l : Tm) (p : Nat) : Int32 := if kd l p = 0 then nbI (bch l p (nu l p)) else -6
theorem u_binderL (hs : SV c v (T v)) (hl : (T v).length ≤ 200) (hw : WF (T v)) {p : Nat} (hp : p < (T v).length) {m : Nat} (hm : m < dep (T v) p) : ∀ (n i : Nat), n + i = m → ∀ (K : Option Value → mM → Prop), go S 37 43 [.ref 6, .int (nI p), .int (nbI (bch (T v) p i)), .int (nI m), .int (nI i)] [] (mk c t) K = K (some (.int (nbI (bch (T v) p m)))) (mk c t)
  | 0, i, hi, K => by
    have e : i = m := by omega
    subst e
    rw [g37_43]
    simp only [↓g37_0, ↓g37_1, ↓g37_4, ↓g37_5, ↓g37_8, ↓g37_9, ↓g37_12, ↓g37_15, ↓g37_17, ↓g37_18, ↓g37_19, ↓g37_22, ↓g37_23, ↓g37_26, ↓g37_27, ↓g37_28, ↓g37_31, ↓g37_32, ↓g37_35, ↓g37_36, ↓g37_39, ↓g37_40, ↓g37_41, ↓g37_45, ↓g37_46, ↓g37_49, ↓g37_50, ↓g37_53, ↓g37_54, ↓g37_57, ↓g37_58, ↓g37_61, ↓g37_64, ↓g37_65, ↓mo_0, ↓mf_0_0, ↓mf_0_1, ↓mf_0_2, ↓mf_0_3, ↓mf_0_4, ↓mo_1, ↓mf_1_0, ↓mf_1_1, ↓mo_2, ↓mf_2_0, ↓mo_4, ↓mf_4_0, ↓mo_6, ↓mf_6_0, ↓mf_6_1, ↓mf_6_2, ↓mf_6_3, ↓mp_6_4, ↓mf_6_4, ↓mp_6_5, ↓mf_6_5, ↓mo_7, ↓mf_7_0, ↓mo_9, ↓mf_9_0, ↓mo_11, ↓mf_11_0, ↓mo_13, ↓mf_13_0, ↓mf_13_1, ↓mp_13_2, ↓mf_13_2, ↓mp_13_3, ↓mf_13_3, ↓mo_14, ↓mf_14_0, ↓mp_14_1, ↓mf_14_1, ↓mp_14_2, ↓mf_14_2, ↓mo_15, ↓mf_15_0, ↓mf_15_1, ↓mp_15_2, ↓mf_15_2, ↓mo_16, ↓mf_16_0, ↓mo_18, ↓mf_18_0, ↓ma_3, ↓ms_3, ↓ma_5, ↓ms_5, ↓ma_8, ↓ms_8, ↓ma_10, ↓ms_10, ↓ma_12, ↓ms_12, ↓ma_17, ↓ms_17, ↓ma_19, ↓ms_19, ↓bnd_some, ↓cond_true, ↓m_pv_none, ↓m_pv_some, m_b01_0, m_b01_1, true_and, and_true, Int32.le_refl, if_true]
  | n + 1, i, hi, K => by
    have hdl := dep_lt hw hp hl
    have e1 : ¬ nI m ≤ nI i := nI_ge (by omega) (by omega)
    obtain ⟨x, h1, h2, -, h4⟩ := bch_at hw hp i (by omega)
    have e2 : rg 200 (c 12) (nbI (bch (T v) p i)) = nbI (bch (T v) p (i + 1)) := by
      rw [h1]
      show rg 200 (c 12) (nI x) = _
      rw [rg_in (by omega) (by decide), (hs.2.2.2.2 x (by omega)).2]
      conv => rhs; unfold bch
      rw [h1]
      rfl
    rw [g37_43]
    simp only [↓g37_0, ↓g37_1, ↓g37_4, ↓g37_5, ↓g37_8, ↓g37_9, ↓g37_12, ↓g37_15, ↓g37_17, ↓g37_18, ↓g37_19, ↓g37_22, ↓g37_23, ↓g37_26, ↓g37_27, ↓g37_28, ↓g37_31, ↓g37_32, ↓g37_35, ↓g37_36, ↓g37_39, ↓g37_40, ↓g37_41, ↓g37_45, ↓g37_46, ↓g37_49, ↓g37_50, ↓g37_53, ↓g37_54, ↓g37_57, ↓g37_58, ↓g37_61, ↓g37_64, ↓g37_65, ↓mo_0, ↓mf_0_0, ↓mf_0_1, ↓mf_0_2, ↓mf_0_3, ↓mf_0_4, ↓mo_1, ↓mf_1_0, ↓mf_1_1, ↓mo_2, ↓mf_2_0, ↓mo_4, ↓mf_4_0, ↓mo_6, ↓mf_6_0, ↓mf_6_1, ↓mf_6_2, ↓mf_6_3, ↓mp_6_4, ↓mf_6_4, ↓mp_6_5, ↓mf_6_5, ↓mo_7, ↓mf_7_0, ↓mo_9, ↓mf_9_0, ↓mo_11, ↓mf_11_0, ↓mo_13, ↓mf_13_0, ↓mf_13_1, ↓mp_13_2, ↓mf_13_2, ↓mp_13_3, ↓mf_13_3, ↓mo_14, ↓mf_14_0, ↓mp_14_1, ↓mf_14_1, ↓mp_14_2, ↓mf_14_2, ↓mo_15, ↓mf_15_0, ↓mf_15_1, ↓mp_15_2, ↓mf_15_2, ↓mo_16, ↓mf_16_0, ↓mo_18, ↓mf_18_0, ↓ma_3, ↓ms_3, ↓ma_5, ↓ms_5, ↓ma_8, ↓ms_8, ↓ma_10, ↓ms_10, ↓ma_12, ↓ms_12, ↓ma_17, ↓ms_17, ↓ma_19, ↓ms_19, ↓bnd_some, ↓cond_true, ↓m_pv_none, ↓m_pv_some, m_b01_0, m_b01_1, true_and, and_true, ↓r_get_2, ↓r_get_4, ↓r_get_7, ↓r_get_9, ↓r_get_11, ↓r_get_16, ↓r_get_18, ↓r_set_2, ↓r_set_4, ↓r_set_7, ↓r_set_9, ↓r_set_11, ↓r_set_16, ↓r_set_18, e1, if_false, e2, nI_1]
    exact u_binderL hs hl hw hp hm n (i + 1) (by omega) K
theorem u_binder (h : CS c T) (hs : SV c v (T v)) (hw : WF (T v)) {p : Nat} (hp : p < (T v).length) (K : Option Value → mM → Prop) : go S 37 0 [.ref 6, .int (nI p), .null, .null, .null] [] (mk c t) K = K (some (.int (bndr (T v) p))) (mk c t) := by
  have hl := (h v hs.1).1
  have g1 := q_kind (S := S) (t := t) h hs.1 hp
  have g2 := q_number (S := S) (t := t) h hs.1 hp
  rw [← hs.2.1] at g1 g2
  have hkd := hw.kd hp
  have hnu := nu_lt hw hp hl
  have e0 : (nI (kd (T v) p) = 0) ↔ kd (T v) p = 0 := nI_eq (b := 0) (by omega) (by omega)
  have e5 : rg 200 (c 12) (nI p) = nbI (nb (T v) p) := by
    rw [rg_in (by omega) (by decide)]
    exact (hs.2.2.2.2 p hp).2
  simp only [↓g37_0, ↓g37_1, ↓g37_4, ↓g37_5, ↓g37_8, ↓g37_9, ↓g37_12, ↓g37_15, ↓g37_17, ↓g37_18, ↓g37_19, ↓g37_22, ↓g37_23, ↓g37_26, ↓g37_27, ↓g37_28, ↓g37_31, ↓g37_32, ↓g37_35, ↓g37_36, ↓g37_39, ↓g37_40, ↓g37_41, ↓g37_45, ↓g37_46, ↓g37_49, ↓g37_50, ↓g37_53, ↓g37_54, ↓g37_57, ↓g37_58, ↓g37_61, ↓g37_64, ↓g37_65, ↓mo_0, ↓mf_0_0, ↓mf_0_1, ↓mf_0_2, ↓mf_0_3, ↓mf_0_4, ↓mo_1, ↓mf_1_0, ↓mf_1_1, ↓mo_2, ↓mf_2_0, ↓mo_4, ↓mf_4_0, ↓mo_6, ↓mf_6_0, ↓mf_6_1, ↓mf_6_2, ↓mf_6_3, ↓mp_6_4, ↓mf_6_4, ↓mp_6_5, ↓mf_6_5, ↓mo_7, ↓mf_7_0, ↓mo_9, ↓mf_9_0, ↓mo_11, ↓mf_11_0, ↓mo_13, ↓mf_13_0, ↓mf_13_1, ↓mp_13_2, ↓mf_13_2, ↓mp_13_3, ↓mf_13_3, ↓mo_14, ↓mf_14_0, ↓mp_14_1, ↓mf_14_1, ↓mp_14_2, ↓mf_14_2, ↓mo_15, ↓mf_15_0, ↓mf_15_1, ↓mp_15_2, ↓mf_15_2, ↓mo_16, ↓mf_16_0, ↓mo_18, ↓mf_18_0, ↓ma_3, ↓ms_3, ↓ma_5, ↓ms_5, ↓ma_8, ↓ms_8, ↓ma_10, ↓ms_10, ↓ma_12, ↓ms_12, ↓ma_17, ↓ms_17, ↓ma_19, ↓ms_19, ↓bnd_some, ↓cond_true, ↓m_pv_none, ↓m_pv_some, m_b01_0, m_b01_1, true_and, and_true, ↓r_get_2, ↓r_get_4, ↓r_get_7, ↓r_get_9, ↓r_get_11, ↓r_get_16, ↓r_get_18, ↓r_set_2, ↓r_set_4, ↓r_set_7, ↓r_set_9, ↓r_set_11, ↓r_set_16, ↓r_set_18, ↓g1, ↓g2, e0, e5]
  unfold bndr
  by_cases h0 : kd (T v) p = 0
  · rw [if_pos h0, if_pos h0]
    exact u_binderL (S := S) (t := t) hs hl hw hp (hnu.2 h0) (nu (T v) p) 0 rfl K
  · rw [if_neg h0, if_neg h0]
end SURV4

