/-! Shelf: copies, states, questions -/
theorem seg_all (l : Tm) : seg l 0 l.length = l := by
  unfold seg
  rw [List.drop_zero, Nat.sub_zero, List.take_length]
theorem CS.congr {c : Nat → Nat → Int32} {T T' : Nat → Tm} (h : CS c T) (e : ∀ i, i < 57 → T' i = T i) : CS c T' := fun i hi => by rw [e i hi]; exact h i hi
/-- the terms behind a copy of k registers of state s to state u -/
def tdk (T : Nat → Tm) (s u k : Nat) : Nat → Tm := fun j => if 6 * u ≤ j ∧ j < 6 * u + k then T (6 * s + (j - 6 * u)) else T j
theorem pt_inj {q r : Nat × Nat} (h1 : q.1 ≤ 3) (h2 : q.2 < 256) (h3 : r.1 ≤ 3) (h4 : r.2 < 256) : nI (cc1 q) = nI (cc1 r) ↔ q = r := by
  unfold cc1
  rw [nI_eq (by omega) (by omega)]
  constructor
  · intro h
    apply Prod.ext <;> omega
  · rintro rfl
    rfl
def cnt (p : Nat → Bool) : Nat → Nat
  | 0 => 0
  | n + 1 => cnt p n + (if p n then 1 else 0)
theorem cnt_le (p : Nat → Bool) : ∀ n, cnt p n ≤ n
  | 0 => Nat.le_refl _
  | n + 1 => by
    have := cnt_le p n
    unfold cnt
    split <;> omega
def sumF (f : Nat → Nat) : Nat → Nat
  | 0 => 0
  | n + 1 => sumF f n + f n
theorem sumF_le (f : Nat → Nat) (b : Nat) : ∀ n, (∀ k, k < n → f k ≤ b) → sumF f n ≤ n * b
  | 0, _ => by unfold sumF; omega
  | n + 1, h => by
    have h1 := sumF_le f b n (fun k hk => h k (by omega))
    have h2 := h n (by omega)
    unfold sumF
    rw [Nat.succ_mul]
    omega
/-- the greatest of f over the places of a kind, none where there is none -/
def mxv (l : Tm) : Nat → Int32
  | 0 => -6
  | n + 1 => if kd l n = 0 then (if mxv l n < nI (nu l n) then nI (nu l n) else mxv l n) else mxv l n
section SHELF4
variable {S : mS} {c : Nat → Nat → Int32} {t : mM} {T : Nat → Tm}
theorem q_duplicate (h : CS c T) {i j : Nat} (hi : i < 57) (hj : j < 57) {x y : Int32} (hx : x = nI i := by rfl) (hy : y = nI j := by rfl) : CH S 28 [.ref 1, .int x, .int y] none [3, 5] c t (tu T j (T i)) := by
  subst hx; subst hy
  by_cases e : i = j
  · subst e
    refine ⟨c, h.tu_same rfl, sx_rf, fun K => ?_⟩
    simp only [↓g28_0, ↓g28_1, ↓g28_2, ↓g28_5, ↓g28_6, ↓g28_7, ↓g28_8, ↓g28_11, ↓g28_12, ↓g28_13, ↓g28_14, ↓g28_15, ↓g28_16, ↓g28_17, ↓g28_20, ↓g28_23, if_true]
  · have e1 : ¬ nI i = nI j := fun z => e ((nI_eq (by omega) (by omega)).mp z)
    obtain ⟨c1, h1, s1, g1⟩ := q_clear (S := S) (t := t) h hj
    obtain ⟨c2, h2, s2, g2⟩ := q_appendParts (S := S) (t := t) (i := j) (j := i) (a := 0) (b := (T i).length) (z := 0) h1 hj hi (fun z => e z.symm) (Nat.zero_le _) (by rw [tu_ne e]; exact Nat.le_refl _) (by rw [tu_eq]; have := (h i hi).1; simp; omega)
    refine ⟨c2, h2.congr fun k hk => ?_, sx_tr s1 s2, fun K => ?_⟩
    · by_cases ek : k = j
      · subst ek
        rw [tu_eq, tu_eq, tu_eq, tu_ne e, seg_all, List.nil_append]
      · rw [tu_ne ek, tu_ne ek, tu_ne ek]
    · have g3 := q_length (S := S) (t := t) h1 hi
      rw [tu_ne e] at g3
      simp only [↓g28_0, ↓g28_1, ↓g28_2, ↓g28_5, ↓g28_6, ↓g28_7, ↓g28_8, ↓g28_11, ↓g28_12, ↓g28_13, ↓g28_14, ↓g28_15, ↓g28_16, ↓g28_17, ↓g28_20, ↓g28_23, ↓mo_0, ↓mf_0_0, ↓mf_0_1, ↓mf_0_2, ↓mf_0_3, ↓mf_0_4, ↓mo_1, ↓mf_1_0, ↓mf_1_1, ↓mo_2, ↓mf_2_0, ↓mo_4, ↓mf_4_0, ↓mo_6, ↓mf_6_0, ↓mf_6_1, ↓mf_6_2, ↓mf_6_3, ↓mp_6_4, ↓mf_6_4, ↓mp_6_5, ↓mf_6_5, ↓mo_7, ↓mf_7_0, ↓mo_9, ↓mf_9_0, ↓mo_11, ↓mf_11_0, ↓mo_13, ↓mf_13_0, ↓mf_13_1, ↓mp_13_2, ↓mf_13_2, ↓mp_13_3, ↓mf_13_3, ↓mo_14, ↓mf_14_0, ↓mp_14_1, ↓mf_14_1, ↓mp_14_2, ↓mf_14_2, ↓mo_15, ↓mf_15_0, ↓mf_15_1, ↓mp_15_2, ↓mf_15_2, ↓mo_16, ↓mf_16_0, ↓mo_18, ↓mf_18_0, ↓ma_3, ↓ms_3, ↓ma_5, ↓ms_5, ↓ma_8, ↓ms_8, ↓ma_10, ↓ms_10, ↓ma_12, ↓ms_12, ↓ma_17, ↓ms_17, ↓ma_19, ↓ms_19, ↓bnd_some, ↓cond_true, ↓m_pv_none, ↓m_pv_some, m_b01_0, m_b01_1, true_and, and_true, e1, if_false, ↓g1, ↓g2, ↓g3]
theorem q_dupStateL : ∀ (n k : Nat) (c : Nat → Nat → Int32) (s u : Nat), n + k = 6 → s < 9 → u < 9 → s ≠ u → CS c (tdk T s u k) → ∃ c', CS c' (tdk T s u 6) ∧ sx [3, 5] c c' ∧ ∀ K : Option Value → mM → Prop, go S 29 2 [.ref 1, .int (nI s), .int (nI u), .int (nI k)] [] (mk c t) K = K none (mk c' t)
  | 0, k, c, s, u, hk, hs, hu, hsu, h => by
    have e : k = 6 := by omega
    subst e
    refine ⟨c, h, sx_rf, fun K => ?_⟩
    rw [g29_2]
    simp only [↓g29_0, ↓g29_1, ↓g29_3, ↓g29_5, ↓g29_8, ↓g29_9, ↓g29_10, ↓g29_12, ↓g29_13, ↓g29_14, ↓g29_15, ↓g29_16, ↓g29_18, ↓g29_19, ↓g29_20, ↓g29_21, ↓g29_24, ↓g29_27, ↓g29_30, l_6, Int32.le_refl, if_true]
  | n + 1, k, c, s, u, hk, hs, hu, hsu, h => by
    have e1 : nI s * 6 + nI k = nI (6 * s + k) := by rw [l_6, pk_mul, nI_add, Nat.mul_comm]
    have e2 : nI u * 6 + nI k = nI (6 * u + k) := by rw [l_6, pk_mul, nI_add, Nat.mul_comm]
    obtain ⟨c1, h1, s1, g1⟩ := q_duplicate (S := S) (t := t) (i := 6 * s + k) (j := 6 * u + k) h (by omega) (by omega) e1 e2
    obtain ⟨c2, h2, s2, g2⟩ := q_dupStateL n (k + 1) c1 s u (by omega) hs hu hsu (h1.congr fun j hj => by
      by_cases e : j = 6 * u + k
      · subst e
        rw [tu_eq]
        unfold tdk
        rw [if_pos (by omega), if_neg (by omega)]
        congr 1
        omega
      · rw [tu_ne e]
        unfold tdk
        by_cases e3 : 6 * u ≤ j ∧ j < 6 * u + k
        · rw [if_pos e3, if_pos (by omega)]
        · rw [if_neg e3, if_neg (by omega)])
    refine ⟨c2, h2, sx_tr s1 s2, fun K => ?_⟩
    have e4 : ¬ (6 : Int32) ≤ nI k := nI_ge (a := k) (b := 6) (by omega) (by decide)
    rw [g29_2]
    simp only [↓g29_0, ↓g29_1, ↓g29_3, ↓g29_5, ↓g29_8, ↓g29_9, ↓g29_10, ↓g29_12, ↓g29_13, ↓g29_14, ↓g29_15, ↓g29_16, ↓g29_18, ↓g29_19, ↓g29_20, ↓g29_21, ↓g29_24, ↓g29_27, ↓g29_30, ↓mo_0, ↓mf_0_0, ↓mf_0_1, ↓mf_0_2, ↓mf_0_3, ↓mf_0_4, ↓mo_1, ↓mf_1_0, ↓mf_1_1, ↓mo_2, ↓mf_2_0, ↓mo_4, ↓mf_4_0, ↓mo_6, ↓mf_6_0, ↓mf_6_1, ↓mf_6_2, ↓mf_6_3, ↓mp_6_4, ↓mf_6_4, ↓mp_6_5, ↓mf_6_5, ↓mo_7, ↓mf_7_0, ↓mo_9, ↓mf_9_0, ↓mo_11, ↓mf_11_0, ↓mo_13, ↓mf_13_0, ↓mf_13_1, ↓mp_13_2, ↓mf_13_2, ↓mp_13_3, ↓mf_13_3, ↓mo_14, ↓mf_14_0, ↓mp_14_1, ↓mf_14_1, ↓mp_14_2, ↓mf_14_2, ↓mo_15, ↓mf_15_0, ↓mf_15_1, ↓mp_15_2, ↓mf_15_2, ↓mo_16, ↓mf_16_0, ↓mo_18, ↓mf_18_0, ↓ma_3, ↓ms_3, ↓ma_5, ↓ms_5, ↓ma_8, ↓ms_8, ↓ma_10, ↓ms_10, ↓ma_12, ↓ms_12, ↓ma_17, ↓ms_17, ↓ma_19, ↓ms_19, ↓bnd_some, ↓cond_true, ↓m_pv_none, ↓m_pv_some, m_b01_0, m_b01_1, true_and, and_true, e4, if_false, ↓g1, nI_1, ↓g2]
theorem q_dupState (h : CS c T) {s u : Nat} (hs : s < 9) (hu : u < 9) (hsu : s ≠ u) {x y : Int32} (hx : x = nI s := by rfl) (hy : y = nI u := by rfl) : CH S 29 [.ref 1, .int x, .int y, .null] none [3, 5] c t (tdk T s u 6) := by
  subst hx; subst hy
  obtain ⟨c1, h1, s1, g1⟩ := q_dupStateL (S := S) (t := t) (T := T) 6 0 c s u rfl hs hu hsu (h.congr fun j hj => if_neg (by omega))
  refine ⟨c1, h1, s1, fun K => ?_⟩
  simp only [↓g29_0, ↓g29_1, ↓g29_3, ↓g29_5, ↓g29_8, ↓g29_9, ↓g29_10, ↓g29_12, ↓g29_13, ↓g29_14, ↓g29_15, ↓g29_16, ↓g29_18, ↓g29_19, ↓g29_20, ↓g29_21, ↓g29_24, ↓g29_27, ↓g29_30, l_0, ↓g1]
theorem q_ofKindL (h : CS c T) {i k : Nat} (hi : i < 57) (hk : k ≤ 3) : ∀ (n p : Nat), n + p = (T i).length → ∀ (K : Option Value → mM → Prop), go S 30 5 [.ref 1, .int (nI i), .int (nI k), .int (nI (cnt (fun q => decide (kd (T i) q = k)) p)), .int (nI p)] [] (mk c t) K = K (some (.int (nI (cnt (fun q => decide (kd (T i) q = k)) (T i).length)))) (mk c t)
  | 0, p, hp, K => by
    have e : p = (T i).length := by omega
    subst e
    have g1 := q_length (S := S) (t := t) h hi
    rw [g30_5]
    simp only [↓g30_0, ↓g30_1, ↓g30_2, ↓g30_3, ↓g30_7, ↓g30_8, ↓g30_9, ↓g30_12, ↓g30_15, ↓g30_16, ↓g30_17, ↓g30_19, ↓g30_22, ↓g30_23, ↓g30_26, ↓g30_29, ↓g30_32, ↓g30_35, ↓g30_36, ↓mo_0, ↓mf_0_0, ↓mf_0_1, ↓mf_0_2, ↓mf_0_3, ↓mf_0_4, ↓mo_1, ↓mf_1_0, ↓mf_1_1, ↓mo_2, ↓mf_2_0, ↓mo_4, ↓mf_4_0, ↓mo_6, ↓mf_6_0, ↓mf_6_1, ↓mf_6_2, ↓mf_6_3, ↓mp_6_4, ↓mf_6_4, ↓mp_6_5, ↓mf_6_5, ↓mo_7, ↓mf_7_0, ↓mo_9, ↓mf_9_0, ↓mo_11, ↓mf_11_0, ↓mo_13, ↓mf_13_0, ↓mf_13_1, ↓mp_13_2, ↓mf_13_2, ↓mp_13_3, ↓mf_13_3, ↓mo_14, ↓mf_14_0, ↓mp_14_1, ↓mf_14_1, ↓mp_14_2, ↓mf_14_2, ↓mo_15, ↓mf_15_0, ↓mf_15_1, ↓mp_15_2, ↓mf_15_2, ↓mo_16, ↓mf_16_0, ↓mo_18, ↓mf_18_0, ↓ma_3, ↓ms_3, ↓ma_5, ↓ms_5, ↓ma_8, ↓ms_8, ↓ma_10, ↓ms_10, ↓ma_12, ↓ms_12, ↓ma_17, ↓ms_17, ↓ma_19, ↓ms_19, ↓bnd_some, ↓cond_true, ↓m_pv_none, ↓m_pv_some, m_b01_0, m_b01_1, true_and, and_true, ↓g1, Int32.le_refl, if_true]
  | n + 1, p, hp, K => by
    have hl1 := (h i hi).1
    have hpl : p < (T i).length := by omega
    have g1 := q_length (S := S) (t := t) h hi
    have g2 := q_kind (S := S) (t := t) h hi hpl
    have e4 : ¬ nI (T i).length ≤ nI p := nI_ge (by omega) (by omega)
    have b1 := ((h i hi).2.2 p hpl).2.1
    have e5 : (nI (kd (T i) p) = nI k) ↔ kd (T i) p = k := nI_eq (by omega) (by omega)
    rw [g30_5]
    simp only [↓g30_0, ↓g30_1, ↓g30_2, ↓g30_3, ↓g30_7, ↓g30_8, ↓g30_9, ↓g30_12, ↓g30_15, ↓g30_16, ↓g30_17, ↓g30_19, ↓g30_22, ↓g30_23, ↓g30_26, ↓g30_29, ↓g30_32, ↓g30_35, ↓g30_36, ↓mo_0, ↓mf_0_0, ↓mf_0_1, ↓mf_0_2, ↓mf_0_3, ↓mf_0_4, ↓mo_1, ↓mf_1_0, ↓mf_1_1, ↓mo_2, ↓mf_2_0, ↓mo_4, ↓mf_4_0, ↓mo_6, ↓mf_6_0, ↓mf_6_1, ↓mf_6_2, ↓mf_6_3, ↓mp_6_4, ↓mf_6_4, ↓mp_6_5, ↓mf_6_5, ↓mo_7, ↓mf_7_0, ↓mo_9, ↓mf_9_0, ↓mo_11, ↓mf_11_0, ↓mo_13, ↓mf_13_0, ↓mf_13_1, ↓mp_13_2, ↓mf_13_2, ↓mp_13_3, ↓mf_13_3, ↓mo_14, ↓mf_14_0, ↓mp_14_1, ↓mf_14_1, ↓mp_14_2, ↓mf_14_2, ↓mo_15, ↓mf_15_0, ↓mf_15_1, ↓mp_15_2, ↓mf_15_2, ↓mo_16, ↓mf_16_0, ↓mo_18, ↓mf_18_0, ↓ma_3, ↓ms_3, ↓ma_5, ↓ms_5, ↓ma_8, ↓ms_8, ↓ma_10, ↓ms_10, ↓ma_12, ↓ms_12, ↓ma_17, ↓ms_17, ↓ma_19, ↓ms_19, ↓bnd_some, ↓cond_true, ↓m_pv_none, ↓m_pv_some, m_b01_0, m_b01_1, true_and, and_true, ↓g1, ↓g2, e4, if_false, e5, nI_1]
    have ih := q_ofKindL h hi hk n (p + 1) (by omega) K
    by_cases e6 : kd (T i) p = k
    · rw [if_pos e6]
      have e7 : cnt (fun q => decide (kd (T i) q = k)) (p + 1) = cnt (fun q => decide (kd (T i) q = k)) p + 1 := by simp [cnt, e6]
      rw [e7] at ih
      exact ih
    · rw [if_neg e6]
      have e7 : cnt (fun q => decide (kd (T i) q = k)) (p + 1) = cnt (fun q => decide (kd (T i) q = k)) p := by simp [cnt, e6]
      rw [e7] at ih
      exact ih
theorem q_ofKind (h : CS c T) {i k : Nat} (hi : i < 57) (hk : k ≤ 3) (K : Option Value → mM → Prop) {x y : Int32} (hx : x = nI i := by rfl) (hy : y = nI k := by rfl) : go S 30 0 [.ref 1, .int x, .int y, .null, .null] [] (mk c t) K = K (some (.int (nI (cnt (fun q => decide (kd (T i) q = k)) (T i).length)))) (mk c t) := by
  subst hx; subst hy
  have ih := q_ofKindL (S := S) (t := t) h hi hk (T i).length 0 rfl K
  simp only [↓g30_0, ↓g30_1, ↓g30_2, ↓g30_3, ↓g30_7, ↓g30_8, ↓g30_9, ↓g30_12, ↓g30_15, ↓g30_16, ↓g30_17, ↓g30_19, ↓g30_22, ↓g30_23, ↓g30_26, ↓g30_29, ↓g30_32, ↓g30_35, ↓g30_36, l_0]
  exact ih
theorem q_greatestL (h : CS c T) {i : Nat} (hi : i < 57) : ∀ (n p : Nat), n + p = (T i).length → ∀ (K : Option Value → mM → Prop), go S 31 5 [.ref 1, .int (nI i), .int (mxv (T i) p), .int (nI p)] [] (mk c t) K = K (some (.int (mxv (T i) (T i).length))) (mk c t)
  | 0, p, hp, K => by
    have e : p = (T i).length := by omega
    subst e
    have g1 := q_length (S := S) (t := t) h hi
    rw [g31_5]
    simp only [↓g31_0, ↓g31_2, ↓g31_3, ↓g31_4, ↓g31_6, ↓g31_7, ↓g31_8, ↓g31_11, ↓g31_14, ↓g31_15, ↓g31_16, ↓g31_17, ↓g31_20, ↓g31_23, ↓g31_24, ↓g31_25, ↓g31_26, ↓g31_27, ↓g31_30, ↓g31_33, ↓g31_34, ↓g31_37, ↓g31_40, ↓g31_41, ↓mo_0, ↓mf_0_0, ↓mf_0_1, ↓mf_0_2, ↓mf_0_3, ↓mf_0_4, ↓mo_1, ↓mf_1_0, ↓mf_1_1, ↓mo_2, ↓mf_2_0, ↓mo_4, ↓mf_4_0, ↓mo_6, ↓mf_6_0, ↓mf_6_1, ↓mf_6_2, ↓mf_6_3, ↓mp_6_4, ↓mf_6_4, ↓mp_6_5, ↓mf_6_5, ↓mo_7, ↓mf_7_0, ↓mo_9, ↓mf_9_0, ↓mo_11, ↓mf_11_0, ↓mo_13, ↓mf_13_0, ↓mf_13_1, ↓mp_13_2, ↓mf_13_2, ↓mp_13_3, ↓mf_13_3, ↓mo_14, ↓mf_14_0, ↓mp_14_1, ↓mf_14_1, ↓mp_14_2, ↓mf_14_2, ↓mo_15, ↓mf_15_0, ↓mf_15_1, ↓mp_15_2, ↓mf_15_2, ↓mo_16, ↓mf_16_0, ↓mo_18, ↓mf_18_0, ↓ma_3, ↓ms_3, ↓ma_5, ↓ms_5, ↓ma_8, ↓ms_8, ↓ma_10, ↓ms_10, ↓ma_12, ↓ms_12, ↓ma_17, ↓ms_17, ↓ma_19, ↓ms_19, ↓bnd_some, ↓cond_true, ↓m_pv_none, ↓m_pv_some, m_b01_0, m_b01_1, true_and, and_true, ↓g1, Int32.le_refl, if_true]
  | n + 1, p, hp, K => by
    have hl1 := (h i hi).1
    have hpl : p < (T i).length := by omega
    have g1 := q_length (S := S) (t := t) h hi
    have g2 := q_kind (S := S) (t := t) h hi hpl
    have g3 := q_number (S := S) (t := t) h hi hpl
    have e4 : ¬ nI (T i).length ≤ nI p := nI_ge (by omega) (by omega)
    have b1 := ((h i hi).2.2 p hpl).2.1
    have e5 : (nI (kd (T i) p) = 0) ↔ kd (T i) p = 0 := nI_eq (b := 0) (by omega) (by omega)
    rw [g31_5]
    simp only [↓g31_0, ↓g31_2, ↓g31_3, ↓g31_4, ↓g31_6, ↓g31_7, ↓g31_8, ↓g31_11, ↓g31_14, ↓g31_15, ↓g31_16, ↓g31_17, ↓g31_20, ↓g31_23, ↓g31_24, ↓g31_25, ↓g31_26, ↓g31_27, ↓g31_30, ↓g31_33, ↓g31_34, ↓g31_37, ↓g31_40, ↓g31_41, ↓mo_0, ↓mf_0_0, ↓mf_0_1, ↓mf_0_2, ↓mf_0_3, ↓mf_0_4, ↓mo_1, ↓mf_1_0, ↓mf_1_1, ↓mo_2, ↓mf_2_0, ↓mo_4, ↓mf_4_0, ↓mo_6, ↓mf_6_0, ↓mf_6_1, ↓mf_6_2, ↓mf_6_3, ↓mp_6_4, ↓mf_6_4, ↓mp_6_5, ↓mf_6_5, ↓mo_7, ↓mf_7_0, ↓mo_9, ↓mf_9_0, ↓mo_11, ↓mf_11_0, ↓mo_13, ↓mf_13_0, ↓mf_13_1, ↓mp_13_2, ↓mf_13_2, ↓mp_13_3, ↓mf_13_3, ↓mo_14, ↓mf_14_0, ↓mp_14_1, ↓mf_14_1, ↓mp_14_2, ↓mf_14_2, ↓mo_15, ↓mf_15_0, ↓mf_15_1, ↓mp_15_2, ↓mf_15_2, ↓mo_16, ↓mf_16_0, ↓mo_18, ↓mf_18_0, ↓ma_3, ↓ms_3, ↓ma_5, ↓ms_5, ↓ma_8, ↓ms_8, ↓ma_10, ↓ms_10, ↓ma_12, ↓ms_12, ↓ma_17, ↓ms_17, ↓ma_19, ↓ms_19, ↓bnd_some, ↓cond_true, ↓m_pv_none, ↓m_pv_some, m_b01_0, m_b01_1, true_and, and_true, ↓g1, ↓g2, ↓g3, e4, if_false, e5, nI_1]
    have ih := q_greatestL h hi n (p + 1) (by omega) K
    rw [mxv] at ih
    by_cases e6 : kd (T i) p = 0
    · rw [if_pos e6] at ih ⊢
      exact ih
    · rw [if_neg e6] at ih ⊢
      exact ih
theorem q_greatest (h : CS c T) {i : Nat} (hi : i < 57) (K : Option Value → mM → Prop) : go S 31 0 [.ref 1, .int (nI i), .null, .null] [] (mk c t) K = K (some (.int (mxv (T i) (T i).length))) (mk c t) := by
  have ih := q_greatestL (S := S) (t := t) h hi (T i).length 0 rfl K
  simp only [↓g31_0, ↓g31_2, ↓g31_3, ↓g31_4, ↓g31_6, ↓g31_7, ↓g31_8, ↓g31_11, ↓g31_14, ↓g31_15, ↓g31_16, ↓g31_17, ↓g31_20, ↓g31_23, ↓g31_24, ↓g31_25, ↓g31_26, ↓g31_27, ↓g31_30, ↓g31_33, ↓g31_34, ↓g31_37, ↓g31_40, ↓g31_41, l_0]
  exact ih
end SHELF4

