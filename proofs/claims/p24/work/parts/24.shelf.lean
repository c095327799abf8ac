/-! Shelf -/
section SHELF
variable {S : mS} {K : Option Value → mM → Prop} (c : Nat → Nat → Int32) (t : mM)
theorem l_length (i : Int32) : go S 22 0 [.ref 1, .int i] [] (mk c t) K = K (some (.int (rg 57 (c 3) i))) (mk c t) := by
  simp only [↓g22_0, ↓g22_1, ↓g22_4, ↓g22_5, ↓g22_8, ↓mo_0, ↓mf_0_0, ↓mf_0_1, ↓mf_0_2, ↓mf_0_3, ↓mf_0_4, ↓mo_1, ↓mf_1_0, ↓mf_1_1, ↓mo_2, ↓mf_2_0, ↓mo_4, ↓mf_4_0, ↓mo_6, ↓mf_6_0, ↓mf_6_1, ↓mf_6_2, ↓mf_6_3, ↓mp_6_4, ↓mf_6_4, ↓mp_6_5, ↓mf_6_5, ↓mo_7, ↓mf_7_0, ↓mo_9, ↓mf_9_0, ↓mo_11, ↓mf_11_0, ↓mo_13, ↓mf_13_0, ↓mf_13_1, ↓mp_13_2, ↓mf_13_2, ↓mp_13_3, ↓mf_13_3, ↓mo_14, ↓mf_14_0, ↓mp_14_1, ↓mf_14_1, ↓mp_14_2, ↓mf_14_2, ↓mo_15, ↓mf_15_0, ↓mf_15_1, ↓mp_15_2, ↓mf_15_2, ↓mo_16, ↓mf_16_0, ↓mo_18, ↓mf_18_0, ↓ma_3, ↓ms_3, ↓ma_5, ↓ms_5, ↓ma_8, ↓ms_8, ↓ma_10, ↓ms_10, ↓ma_12, ↓ms_12, ↓ma_17, ↓ms_17, ↓ma_19, ↓ms_19, ↓bnd_some, ↓cond_true, ↓m_pv_none, ↓m_pv_some, m_b01_0, m_b01_1, true_and, and_true, ↓r_get_2, ↓r_get_4, ↓r_get_7, ↓r_get_9, ↓r_get_11, ↓r_get_16, ↓r_get_18, ↓r_set_2, ↓r_set_4, ↓r_set_7, ↓r_set_9, ↓r_set_11, ↓r_set_16, ↓r_set_18]
theorem l_kind (i j : Int32) : go S 23 0 [.ref 1, .int i, .int j] [] (mk c t) K = K (some (.int (rg 11400 (c 5) (i * 200 + j) / 256))) (mk c t) := by
  simp only [↓g23_0, ↓g23_1, ↓g23_4, ↓g23_5, ↓g23_8, ↓g23_9, ↓g23_10, ↓g23_11, ↓g23_14, ↓g23_17, ↓g23_18, ↓mo_0, ↓mf_0_0, ↓mf_0_1, ↓mf_0_2, ↓mf_0_3, ↓mf_0_4, ↓mo_1, ↓mf_1_0, ↓mf_1_1, ↓mo_2, ↓mf_2_0, ↓mo_4, ↓mf_4_0, ↓mo_6, ↓mf_6_0, ↓mf_6_1, ↓mf_6_2, ↓mf_6_3, ↓mp_6_4, ↓mf_6_4, ↓mp_6_5, ↓mf_6_5, ↓mo_7, ↓mf_7_0, ↓mo_9, ↓mf_9_0, ↓mo_11, ↓mf_11_0, ↓mo_13, ↓mf_13_0, ↓mf_13_1, ↓mp_13_2, ↓mf_13_2, ↓mp_13_3, ↓mf_13_3, ↓mo_14, ↓mf_14_0, ↓mp_14_1, ↓mf_14_1, ↓mp_14_2, ↓mf_14_2, ↓mo_15, ↓mf_15_0, ↓mf_15_1, ↓mp_15_2, ↓mf_15_2, ↓mo_16, ↓mf_16_0, ↓mo_18, ↓mf_18_0, ↓ma_3, ↓ms_3, ↓ma_5, ↓ms_5, ↓ma_8, ↓ms_8, ↓ma_10, ↓ms_10, ↓ma_12, ↓ms_12, ↓ma_17, ↓ms_17, ↓ma_19, ↓ms_19, ↓bnd_some, ↓cond_true, ↓m_pv_none, ↓m_pv_some, m_b01_0, m_b01_1, true_and, and_true, ↓r_get_2, ↓r_get_4, ↓r_get_7, ↓r_get_9, ↓r_get_11, ↓r_get_16, ↓r_get_18, ↓r_set_2, ↓r_set_4, ↓r_set_7, ↓r_set_9, ↓r_set_11, ↓r_set_16, ↓r_set_18]
theorem l_number (i j : Int32) : go S 24 0 [.ref 1, .int i, .int j] [] (mk c t) K = K (some (.int (rg 11400 (c 5) (i * 200 + j) - rg 11400 (c 5) (i * 200 + j) / 256 * 256))) (mk c t) := by
  simp only [↓g24_0, ↓g24_1, ↓g24_4, ↓g24_5, ↓g24_8, ↓g24_9, ↓g24_10, ↓g24_11, ↓g24_14, ↓g24_17, ↓g24_18, ↓mo_0, ↓mf_0_0, ↓mf_0_1, ↓mf_0_2, ↓mf_0_3, ↓mf_0_4, ↓mo_1, ↓mf_1_0, ↓mf_1_1, ↓mo_2, ↓mf_2_0, ↓mo_4, ↓mf_4_0, ↓mo_6, ↓mf_6_0, ↓mf_6_1, ↓mf_6_2, ↓mf_6_3, ↓mp_6_4, ↓mf_6_4, ↓mp_6_5, ↓mf_6_5, ↓mo_7, ↓mf_7_0, ↓mo_9, ↓mf_9_0, ↓mo_11, ↓mf_11_0, ↓mo_13, ↓mf_13_0, ↓mf_13_1, ↓mp_13_2, ↓mf_13_2, ↓mp_13_3, ↓mf_13_3, ↓mo_14, ↓mf_14_0, ↓mp_14_1, ↓mf_14_1, ↓mp_14_2, ↓mf_14_2, ↓mo_15, ↓mf_15_0, ↓mf_15_1, ↓mp_15_2, ↓mf_15_2, ↓mo_16, ↓mf_16_0, ↓mo_18, ↓mf_18_0, ↓ma_3, ↓ms_3, ↓ma_5, ↓ms_5, ↓ma_8, ↓ms_8, ↓ma_10, ↓ms_10, ↓ma_12, ↓ms_12, ↓ma_17, ↓ms_17, ↓ma_19, ↓ms_19, ↓bnd_some, ↓cond_true, ↓m_pv_none, ↓m_pv_some, m_b01_0, m_b01_1, true_and, and_true, ↓r_get_2, ↓r_get_4, ↓r_get_7, ↓r_get_9, ↓r_get_11, ↓r_get_16, ↓r_get_18, ↓r_set_2, ↓r_set_4, ↓r_set_7, ↓r_set_9, ↓r_set_11, ↓r_set_16, ↓r_set_18]
theorem l_clear (i : Int32) : go S 25 0 [.ref 1, .int i] [] (mk c t) K = K none (mk (rs c 3 57 i 0) t) := by
  simp only [↓g25_0, ↓g25_1, ↓g25_4, ↓g25_5, ↓g25_6, ↓g25_9, ↓mo_0, ↓mf_0_0, ↓mf_0_1, ↓mf_0_2, ↓mf_0_3, ↓mf_0_4, ↓mo_1, ↓mf_1_0, ↓mf_1_1, ↓mo_2, ↓mf_2_0, ↓mo_4, ↓mf_4_0, ↓mo_6, ↓mf_6_0, ↓mf_6_1, ↓mf_6_2, ↓mf_6_3, ↓mp_6_4, ↓mf_6_4, ↓mp_6_5, ↓mf_6_5, ↓mo_7, ↓mf_7_0, ↓mo_9, ↓mf_9_0, ↓mo_11, ↓mf_11_0, ↓mo_13, ↓mf_13_0, ↓mf_13_1, ↓mp_13_2, ↓mf_13_2, ↓mp_13_3, ↓mf_13_3, ↓mo_14, ↓mf_14_0, ↓mp_14_1, ↓mf_14_1, ↓mp_14_2, ↓mf_14_2, ↓mo_15, ↓mf_15_0, ↓mf_15_1, ↓mp_15_2, ↓mf_15_2, ↓mo_16, ↓mf_16_0, ↓mo_18, ↓mf_18_0, ↓ma_3, ↓ms_3, ↓ma_5, ↓ms_5, ↓ma_8, ↓ms_8, ↓ma_10, ↓ms_10, ↓ma_12, ↓ms_12, ↓ma_17, ↓ms_17, ↓ma_19, ↓ms_19, ↓bnd_some, ↓cond_true, ↓m_pv_none, ↓m_pv_some, m_b01_0, m_b01_1, true_and, and_true, ↓r_get_2, ↓r_get_4, ↓r_get_7, ↓r_get_9, ↓r_get_11, ↓r_get_16, ↓r_get_18, ↓r_set_2, ↓r_set_4, ↓r_set_7, ↓r_set_9, ↓r_set_11, ↓r_set_16, ↓r_set_18]
end SHELF
/-- the code of a part in the class -/
def cc1 (q : Nat × Nat) : Nat := 256 * q.1 + q.2
/-- the class's shelf holds the terms T -/
def CT (c : Nat → Nat → Int32) (i : Nat) (l : Tm) : Prop := l.length ≤ 200 ∧ c 3 i = nI l.length ∧ ∀ p, p < l.length → c 5 (200 * i + p) = nI (cc1 (pt l p)) ∧ kd l p ≤ 3 ∧ nu l p < 256
def CS (c : Nat → Nat → Int32) (T : Nat → Tm) : Prop := ∀ i, i < 57 → CT c i (T i)
def tu (T : Nat → Tm) (i : Nat) (l : Tm) : Nat → Tm := fun j => if j = i then l else T j
theorem tu_eq (T : Nat → Tm) (i : Nat) (l : Tm) : tu T i l i = l := if_pos rfl
theorem tu_ne {T : Nat → Tm} {i : Nat} {l : Tm} {j : Nat} (h : j ≠ i) : tu T i l j = T j := if_neg h
/-- all cells but these are as they were -/
def sx (ks : List Nat) (c c' : Nat → Nat → Int32) : Prop := ∀ k, k ∉ ks → c' k = c k
theorem sx_rf {ks : List Nat} {c : Nat → Nat → Int32} : sx ks c c := fun _ _ => rfl
theorem sx_tr {ks : List Nat} {c c' c'' : Nat → Nat → Int32} (h : sx ks c c') (h' : sx ks c' c'') : sx ks c c'' := fun k hk => (h' k hk).trans (h k hk)
theorem sx_ca {ks : List Nat} {c : Nat → Nat → Int32} {a : Nat} {f : Nat → Int32} (h : a ∈ ks) : sx ks c (ca c a f) := fun k hk => ca_ne fun e => hk (e ▸ h)
theorem CT.sx {ks : List Nat} {c c' : Nat → Nat → Int32} {i : Nat} {l : Tm} (h : CT c i l) (hs : sx ks c c') (h3 : 3 ∉ ks) (h5 : 5 ∉ ks) : CT c' i l := by
  refine ⟨h.1, by rw [hs 3 h3]; exact h.2.1, fun p hp => ?_⟩
  rw [hs 5 h5]
  exact h.2.2 p hp
theorem CS.sx {ks : List Nat} {c c' : Nat → Nat → Int32} {T : Nat → Tm} (h : CS c T) (hs : sx ks c c') (h3 : 3 ∉ ks) (h5 : 5 ∉ ks) : CS c' T := fun i hi => (h i hi).sx hs h3 h5
theorem CT.len {c : Nat → Nat → Int32} {i : Nat} {l : Tm} (h : CT c i l) (hi : i < 57) : rg 57 (c 3) (nI i) = nI l.length := by
  rw [rg_in hi (by decide)]
  exact h.2.1
theorem l_200 : (200 : Int32) = nI 200 := rfl
theorem l_256 : (256 : Int32) = nI 256 := rfl
theorem CT.code {c : Nat → Nat → Int32} {i p : Nat} {l : Tm} (h : CT c i l) (hi : i < 57) (hp : p < l.length) : rg 11400 (c 5) (nI i * 200 + nI p) = nI (cc1 (pt l p)) := by
  have h1 := h.1
  rw [l_200, pk_mul, nI_add, rg_in (by omega) (by decide), Nat.mul_comm i 200]
  exact (h.2.2 p hp).1
theorem CT.kind {c : Nat → Nat → Int32} {i p : Nat} {l : Tm} (h : CT c i l) (hi : i < 57) (hp : p < l.length) : rg 11400 (c 5) (nI i * 200 + nI p) / 256 = nI (kd l p) := by
  have h2 := (h.2.2 p hp).2
  rw [h.code hi hp, l_256]
  unfold kd nu cc1 at *
  rw [pk_div (by omega) (by omega) (by omega)]
  congr 1
  omega
theorem CT.number {c : Nat → Nat → Int32} {i p : Nat} {l : Tm} (h : CT c i l) (hi : i < 57) (hp : p < l.length) : rg 11400 (c 5) (nI i * 200 + nI p) - rg 11400 (c 5) (nI i * 200 + nI p) / 256 * 256 = nI (nu l p) := by
  have h2 := (h.2.2 p hp).2
  rw [h.code hi hp, l_256]
  unfold kd nu cc1 at *
  rw [pk_rem (by omega) (by omega) (by omega)]
  congr 1
  omega
section SHELF2
variable {S : mS} {c : Nat → Nat → Int32} {t : mM} {T : Nat → Tm}
theorem q_length (h : CS c T) {i : Nat} (hi : i < 57) (K : Option Value → mM → Prop) : go S 22 0 [.ref 1, .int (nI i)] [] (mk c t) K = K (some (.int (nI (T i).length))) (mk c t) := by
  rw [l_length, (h i hi).len hi]
theorem q_kind (h : CS c T) {i p : Nat} (hi : i < 57) (hp : p < (T i).length) (K : Option Value → mM → Prop) : go S 23 0 [.ref 1, .int (nI i), .int (nI p)] [] (mk c t) K = K (some (.int (nI (kd (T i) p)))) (mk c t) := by
  rw [l_kind, (h i hi).kind hi hp]
theorem q_number (h : CS c T) {i p : Nat} (hi : i < 57) (hp : p < (T i).length) (K : Option Value → mM → Prop) : go S 24 0 [.ref 1, .int (nI i), .int (nI p)] [] (mk c t) K = K (some (.int (nI (nu (T i) p)))) (mk c t) := by
  rw [l_number, (h i hi).number hi hp]
/-- a shelf's call that changes terms alone -/
def CH (S : mS) (m : Nat) (ls : List Value) (r : Option Value) (ks : List Nat) (c : Nat → Nat → Int32) (t : mM) (T' : Nat → Tm) : Prop := ∃ c', CS c' T' ∧ sx ks c c' ∧ ∀ K : Option Value → mM → Prop, go S m 0 ls [] (mk c t) K = K r (mk c' t)
theorem q_clear (h : CS c T) {i : Nat} (hi : i < 57) : CH S 25 [.ref 1, .int (nI i)] none [3, 5] c t (tu T i []) := by
  refine ⟨_, ?_, ?_, fun K => (l_clear (S := S) c t (nI i)).trans (by rw [rs_in hi (by decide)])⟩
  · intro j hj
    by_cases e : j = i
    · subst e
      rw [tu_eq]
      refine ⟨by simp, ?_, fun p hp => absurd hp (Nat.not_lt_zero p)⟩
      rw [ca_eq, upd_eq]
      rfl
    · rw [tu_ne e]
      refine ⟨(h j hj).1, ?_, fun p hp => ?_⟩
      · rw [ca_eq, upd_ne e]
        exact (h j hj).2.1
      · rw [ca_ne (by decide)]
        exact (h j hj).2.2 p hp
  · exact sx_ca (by simp)
theorem pt_app {l l' : Tm} {p : Nat} : pt (l ++ l') p = if p < l.length then pt l p else pt l' (p - l.length) := by
  unfold pt
  simp only [List.getD_eq_getElem?_getD, List.getElem?_append]
  split <;> rfl
theorem q_append (h : CS c T) {i k n : Nat} (hi : i < 57) (hl : (T i).length < 200) (hk : k ≤ 3) (hn : n < 256) : CH S 26 [.ref 1, .int (nI i), .int (nI k), .int (nI n), .null] none [3, 5] c t (tu T i (T i ++ [(k, n)])) := by
  refine ⟨ca (ca c 5 (upd (c 5) (200 * i + (T i).length) (nI (256 * k + n)))) 3 (upd (c 3) i (nI ((T i).length + 1))), ?_, ?_, fun K => ?_⟩
  · intro j hj
    by_cases e : j = i
    · subst e
      rw [tu_eq]
      refine ⟨by simp; omega, ?_, fun p hp => ?_⟩
      · rw [ca_eq, upd_eq]
        simp
      · rw [ca_ne (by decide), ca_eq]
        unfold kd nu
        rw [pt_app]
        simp only [List.length_append, List.length_singleton] at hp
        by_cases h1 : p < (T j).length
        · rw [if_pos h1, upd_ne (by omega)]
          exact (h j hj).2.2 p h1
        · have e : p = (T j).length := by omega
          subst e
          rw [if_neg h1, upd_eq, Nat.sub_self]
          exact ⟨rfl, hk, hn⟩
    · rw [tu_ne e]
      have hj1 := (h j hj).1
      refine ⟨hj1, ?_, fun p hp => ?_⟩
      · rw [ca_eq, upd_ne e]
        exact (h j hj).2.1
      · rw [ca_ne (by decide), ca_eq, upd_ne (by omega)]
        exact (h j hj).2.2 p hp
  · exact sx_tr (sx_ca (by simp)) (sx_ca (by simp))
  · have h1 : ¬ (200 : Int32) ≤ nI (T i).length := nI_ge hl (by decide)
    have h2 : nI i * 200 + nI (T i).length = nI (200 * i + (T i).length) := by rw [l_200, pk_mul, nI_add, Nat.mul_comm]
    have h3 : nI k * 256 + nI n = nI (256 * k + n) := by rw [l_256, pk_mul, nI_add, Nat.mul_comm]
    simp only [↓g26_0, ↓g26_1, ↓g26_4, ↓g26_5, ↓g26_8, ↓g26_10, ↓g26_12, ↓g26_15, ↓g26_18, ↓g26_19, ↓g26_22, ↓g26_23, ↓g26_26, ↓g26_27, ↓g26_29, ↓g26_30, ↓g26_31, ↓g26_34, ↓g26_35, ↓g26_36, ↓g26_37, ↓g26_40, ↓g26_41, ↓g26_44, ↓g26_45, ↓g26_47, ↓g26_48, ↓g26_49, ↓g26_52, ↓mo_0, ↓mf_0_0, ↓mf_0_1, ↓mf_0_2, ↓mf_0_3, ↓mf_0_4, ↓mo_1, ↓mf_1_0, ↓mf_1_1, ↓mo_2, ↓mf_2_0, ↓mo_4, ↓mf_4_0, ↓mo_6, ↓mf_6_0, ↓mf_6_1, ↓mf_6_2, ↓mf_6_3, ↓mp_6_4, ↓mf_6_4, ↓mp_6_5, ↓mf_6_5, ↓mo_7, ↓mf_7_0, ↓mo_9, ↓mf_9_0, ↓mo_11, ↓mf_11_0, ↓mo_13, ↓mf_13_0, ↓mf_13_1, ↓mp_13_2, ↓mf_13_2, ↓mp_13_3, ↓mf_13_3, ↓mo_14, ↓mf_14_0, ↓mp_14_1, ↓mf_14_1, ↓mp_14_2, ↓mf_14_2, ↓mo_15, ↓mf_15_0, ↓mf_15_1, ↓mp_15_2, ↓mf_15_2, ↓mo_16, ↓mf_16_0, ↓mo_18, ↓mf_18_0, ↓ma_3, ↓ms_3, ↓ma_5, ↓ms_5, ↓ma_8, ↓ms_8, ↓ma_10, ↓ms_10, ↓ma_12, ↓ms_12, ↓ma_17, ↓ms_17, ↓ma_19, ↓ms_19, ↓bnd_some, ↓cond_true, ↓m_pv_none, ↓m_pv_some, m_b01_0, m_b01_1, true_and, and_true, ↓r_get_2, ↓r_get_4, ↓r_get_7, ↓r_get_9, ↓r_get_11, ↓r_get_16, ↓r_get_18, ↓r_set_2, ↓r_set_4, ↓r_set_7, ↓r_set_9, ↓r_set_11, ↓r_set_16, ↓r_set_18, (h i hi).len hi, h1, if_false, h2, h3, nI_1, rs_in (show 200 * i + (T i).length < 11400 by omega) (by decide : 11400 < 2 ^ 31), rs_in hi (by decide : 57 < 2 ^ 31)]
    rw [ca_ne (by decide)]
end SHELF2

