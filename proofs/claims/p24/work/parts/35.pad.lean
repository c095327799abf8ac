/-! Pad -/
def kOf (ch : Nat) : Option Nat := if ch = 76 then some 2 else if ch = 64 then some 3 else if 48 ≤ ch ∧ ch ≤ 57 then some 0 else if 97 ≤ ch ∧ ch < 103 then some 1 else none
/-- the part that a character tells -/
def tm1 (ch : Nat) : Nat × Nat := match kOf ch with
  | some 0 => (0, ch - 48)
  | some 1 => (1, ch - 97)
  | some k => (k, 0)
  | none => (0, 0)
/-- the fault of a text, by the depths that are awaited -/
def flt : List Nat → List Nat → Nat → Int32
  | [], s, k => if s = [] then -6 else nI k
  | ch :: P, s, k => match s with
    | [] => nI k
    | d :: s' => match kOf ch with
      | none => nI k
      | some q => if q = 0 ∧ d ≤ ch - 48 then nI k else flt P (stq (q, 0) (d :: s')) (k + 1)
/-- the pad holds the text P -/
def PR (c : Nat → Nat → Int32) (P : List Nat) : Prop := P.length ≤ 60 ∧ c 15 2 = nI P.length ∧ ∀ j, j < P.length → c 17 j = nI (P.getD j 0)
def Pok (P : List Nat) : Prop := P.length ≤ 60 ∧ ∀ ch ∈ P, 33 ≤ ch ∧ ch ≤ 126
theorem PR.sx {c c' : Nat → Nat → Int32} {P : List Nat} {ks : List Nat} (h : PR c P) (hs : sx ks c c') (h1 : 15 ∉ ks) (h2 : 17 ∉ ks) : PR c' P := by
  refine ⟨h.1, by rw [hs 15 h1]; exact h.2.1, fun j hj => ?_⟩
  rw [hs 17 h2]
  exact h.2.2 j hj
theorem nI_z {n : Nat} (h : n < 2 ^ 31) : (nI n = 0) ↔ n = 0 := nI_eq (b := 0) h (by decide)
theorem kOf_le {ch k : Nat} (h : kOf ch = some k) : k ≤ 3 := by
  unfold kOf at h
  split at h
  · cases h; omega
  · split at h
    · cases h; omega
    · split at h
      · cases h; omega
      · split at h
        · cases h; omega
        · cases h
section PAD
variable {S : mS} {t : mM} {c : Nat → Nat → Int32}
theorem p_kindOf (M : mM) {ch : Nat} (h : ch < 1000) (K : Option Value → mM → Prop) : go S 9 0 [.int (nI ch)] [] M K = K (some (.int (nbI (kOf ch)))) M := by
  have e1 : (nI ch = 76) ↔ ch = 76 := nI_eq (b := 76) (by omega) (by decide)
  have e2 : (nI ch = 64) ↔ ch = 64 := nI_eq (b := 64) (by omega) (by decide)
  have e3 : (nI ch < 48) ↔ ch < 48 := nI_ltI (b := 48) (by omega) (by decide)
  have e4 : ((57 : Int32) < nI ch) ↔ 57 < ch := nI_ltI (a := 57) (by decide) (by omega)
  have e5 : (nI ch < 97) ↔ ch < 97 := nI_ltI (b := 97) (by omega) (by decide)
  have e6 : ((103 : Int32) ≤ nI ch) ↔ 103 ≤ ch := nI_leI (a := 103) (by decide) (by omega)
  simp only [↓g9_0, ↓g9_1, ↓g9_3, ↓g9_6, ↓g9_7, ↓g9_8, ↓g9_9, ↓g9_11, ↓g9_14, ↓g9_15, ↓g9_16, ↓g9_17, ↓g9_19, ↓g9_22, ↓g9_23, ↓g9_25, ↓g9_28, ↓g9_29, ↓g9_30, ↓g9_31, ↓g9_33, ↓g9_36, ↓g9_37, ↓g9_39, ↓g9_42, ↓g9_43, ↓g9_46, ↓g9_48, e1, e2, e3, e4, e5, e6]
  unfold kOf
  by_cases h1 : ch = 76
  · rw [if_pos h1, if_pos h1]; rfl
  · rw [if_neg h1, if_neg h1]
    by_cases h2 : ch = 64
    · rw [if_pos h2, if_pos h2]; rfl
    · rw [if_neg h2, if_neg h2]
      by_cases h3 : ch < 48
      · rw [if_pos h3, if_pos (by omega), if_neg (by omega), if_neg (by omega)]; rfl
      · rw [if_neg h3]
        by_cases h4 : 57 < ch
        · rw [if_pos h4, if_neg (show ¬ (48 ≤ ch ∧ ch ≤ 57) by omega)]
          by_cases h5 : ch < 97
          · rw [if_pos h5, if_neg (by omega)]; rfl
          · rw [if_neg h5]
            by_cases h6 : 103 ≤ ch
            · rw [if_pos h6, if_neg (by omega)]; rfl
            · rw [if_neg h6, if_pos (by omega)]; rfl
        · rw [if_neg h4, if_pos (by omega)]; rfl
theorem p_charsL (M : mM) (a : Int64) : ∀ (n f r : Nat), n + f = 8 → r < 2 ^ 64 → ∀ (K : Option Value → mM → Prop) (j5 j6 : Value), go S 3 5 [.long a, .null, .long (lN r), .null, .int (nI f), j5, j6] [] M K = K (some (.int (match bys n r with
    | some l => nI (f + l.length)
    | none => 0))) M
  | 0, f, r, hf, hr, K, j5, j6 => by
    have e : f = 8 := by omega
    subst e
    rw [g3_5]
    simp only [↓g3_0, ↓g3_1, ↓g3_2, ↓g3_3, ↓g3_7, ↓g3_9, ↓g3_12, ↓g3_13, ↓g3_16, ↓g3_17, ↓g3_18, ↓g3_19, ↓g3_22, ↓g3_23, ↓g3_26, ↓g3_27, ↓g3_29, ↓g3_31, ↓g3_34, ↓g3_35, ↓g3_38, ↓g3_40, ↓g3_43, ↓g3_44, ↓g3_47, ↓g3_48, ↓g3_49, ↓g3_50, ↓g3_52, ↓g3_53, ↓g3_54, ↓g3_57, ↓g3_60, ↓g3_61, ↓g3_62, ↓g3_63, ↓g3_66, ↓g3_68, ↓g3_71, ↓g3_72, show (8 : Int32) ≤ nI 8 from Int32.le_refl _, if_true, lg_cmp_eq, show (0 : Int64) = lN 0 from rfl]
    unfold bys
    have e0 := lN_0 hr
    by_cases h : r = 0
    · subst h
      simp
    · have h2 : ¬ lN r = lN 0 := fun z => h (e0.mp z)
      simp only [h, h2, if_false]
  | n + 1, f, r, hf, hr, K, j5, j6 => by
    have e1 : ¬ (8 : Int32) ≤ nI f := nI_ge (b := 8) (by omega) (by decide)
    have e2 : lN r &&& 255 = lN (r % 256) := by rw [l_255, wb_mask hr (by decide)]
    have hm : r % 256 < 256 := Nat.mod_lt _ (by decide)
    have e3 : (lN (r % 256) = (0 : Int64)) ↔ r % 256 = 0 := lN_0 (by omega)
    have e4 : ((lN r).toUInt64 >>> ((8 : Int32).toInt64.toUInt64 &&& Int64.toUInt64 63)).toInt64 = lN (r / 256) := wb_shr (k := 8) hr (by decide)
    have e5 : (lg_cmp (lN (r % 256)) 33 < 0) ↔ r % 256 < 33 := by
      have h1 := lg_cmp_ge (lN (r % 256)) 33
      have h2 := pk_lLE (a := 33) (b := r % 256) (by decide) (by omega)
      rw [← Int32.not_le, h1]
      constructor
      · intro z
        exact Nat.not_le.mp fun y => z (h2.mpr y)
      · intro z y
        have := h2.mp y
        omega
    have e6 : (lg_cmp (lN (r % 256)) 126 ≤ 0) ↔ r % 256 ≤ 126 := by
      rw [lg_cmp_le]
      exact pk_lLE (b := 126) (by omega) (by decide)
    have e7 : (lN r = (0 : Int64)) ↔ r = 0 := lN_0 hr
    rw [g3_5]
    simp only [↓g3_0, ↓g3_1, ↓g3_2, ↓g3_3, ↓g3_7, ↓g3_9, ↓g3_12, ↓g3_13, ↓g3_16, ↓g3_17, ↓g3_18, ↓g3_19, ↓g3_22, ↓g3_23, ↓g3_26, ↓g3_27, ↓g3_29, ↓g3_31, ↓g3_34, ↓g3_35, ↓g3_38, ↓g3_40, ↓g3_43, ↓g3_44, ↓g3_47, ↓g3_48, ↓g3_49, ↓g3_50, ↓g3_52, ↓g3_53, ↓g3_54, ↓g3_57, ↓g3_60, ↓g3_61, ↓g3_62, ↓g3_63, ↓g3_66, ↓g3_68, ↓g3_71, ↓g3_72, e1, if_false, e2, lg_cmp_eq, e3, e4, e5, e6, e7, nI_1]
    conv => rhs; unfold bys
    by_cases h0 : r % 256 = 0
    · rw [if_pos h0, if_pos h0]
      by_cases hr0 : r = 0
      · rw [if_pos hr0, if_pos hr0]
        rfl
      · rw [if_neg hr0, if_neg hr0]
    · rw [if_neg h0, if_neg h0]
      by_cases h1 : r % 256 < 33
      · rw [if_pos h1, if_neg (by omega)]
      · rw [if_neg h1]
        by_cases h2 : r % 256 ≤ 126
        · rw [if_pos h2, if_pos (by omega), p_charsL M a n (f + 1) (r / 256) (by omega) (Nat.lt_of_le_of_lt (Nat.div_le_self _ _) hr)]
          cases bys n (r / 256) with
          | none => rfl
          | some l =>
            simp only [List.length_cons]
            rw [show f + 1 + l.length = f + (l.length + 1) by omega]
        · rw [if_neg h2, if_neg (by omega)]
theorem p_chars (M : mM) {r : Nat} (hr : r < 2 ^ 64) (K : Option Value → mM → Prop) : go S 3 0 [.long (lN r), .null, .null, .null, .null, .null, .null] [] M K = K (some (.int (match bys 8 r with
    | some l => nI l.length
    | none => 0))) M := by
  have g := p_charsL (S := S) M (lN r) 8 0 r rfl hr K .null .null
  simp only [Nat.zero_add] at g
  simp only [↓g3_0, ↓g3_1, ↓g3_2, ↓g3_3, ↓g3_7, ↓g3_9, ↓g3_12, ↓g3_13, ↓g3_16, ↓g3_17, ↓g3_18, ↓g3_19, ↓g3_22, ↓g3_23, ↓g3_26, ↓g3_27, ↓g3_29, ↓g3_31, ↓g3_34, ↓g3_35, ↓g3_38, ↓g3_40, ↓g3_43, ↓g3_44, ↓g3_47, ↓g3_48, ↓g3_49, ↓g3_50, ↓g3_52, ↓g3_53, ↓g3_54, ↓g3_57, ↓g3_60, ↓g3_61, ↓g3_62, ↓g3_63, ↓g3_66, ↓g3_68, ↓g3_71, ↓g3_72]
  exact g
theorem p_appendL {r : Nat} (hr : r < 2 ^ 64) (m : Int32) : ∀ (k : Nat) (c : Nat → Nat → Int32) (P : List Nat), k ≤ 8 → P.length + k ≤ 60 → PR c P → ∃ c', PR c' (P ++ ((List.range k).map (fun i => r / 2 ^ (8 * i) % 256)).reverse) ∧ sx [15, 17] c c' ∧ ∀ (K : Option Value → mM → Prop), go S 6 5 [.ref 15, .long (lN r), .null, .int m, .int (nI k - 1)] [] (mk c t) K = K none (mk c' t)
  | 0, c, P, hk, hP, h => by
    refine ⟨c, by simpa using h, sx_rf, fun K => ?_⟩
    rw [g6_5]
    simp only [↓g6_0, ↓g6_1, ↓g6_2, ↓g6_3, ↓g6_7, ↓g6_10, ↓g6_11, ↓g6_14, ↓g6_16, ↓g6_19, ↓g6_20, ↓g6_23, ↓g6_24, ↓g6_27, ↓g6_28, ↓g6_30, ↓g6_32, ↓g6_33, ↓g6_34, ↓g6_37, ↓g6_38, ↓g6_39, ↓g6_42, ↓g6_43, ↓g6_44, ↓g6_47, ↓g6_48, ↓g6_49, ↓g6_52, ↓g6_55, ↓g6_58, ↓mo_0, ↓mf_0_0, ↓mf_0_1, ↓mf_0_2, ↓mf_0_3, ↓mf_0_4, ↓mo_1, ↓mf_1_0, ↓mf_1_1, ↓mo_2, ↓mf_2_0, ↓mo_4, ↓mf_4_0, ↓mo_6, ↓mf_6_0, ↓mf_6_1, ↓mf_6_2, ↓mf_6_3, ↓mp_6_4, ↓mf_6_4, ↓mp_6_5, ↓mf_6_5, ↓mo_7, ↓mf_7_0, ↓mo_9, ↓mf_9_0, ↓mo_11, ↓mf_11_0, ↓mo_13, ↓mf_13_0, ↓mf_13_1, ↓mp_13_2, ↓mf_13_2, ↓mp_13_3, ↓mf_13_3, ↓mo_14, ↓mf_14_0, ↓mp_14_1, ↓mf_14_1, ↓mp_14_2, ↓mf_14_2, ↓mo_15, ↓mf_15_0, ↓mf_15_1, ↓mp_15_2, ↓mf_15_2, ↓mo_16, ↓mf_16_0, ↓mo_18, ↓mf_18_0, ↓ma_3, ↓ms_3, ↓ma_5, ↓ms_5, ↓ma_8, ↓ms_8, ↓ma_10, ↓ms_10, ↓ma_12, ↓ms_12, ↓ma_17, ↓ms_17, ↓ma_19, ↓ms_19, ↓bnd_some, ↓cond_true, ↓m_pv_none, ↓m_pv_some, m_b01_0, m_b01_1, true_and, and_true, show nI 0 - 1 < 0 by decide, if_true]
  | k + 1, c, P, hk, hP, h => by
    have e0 : nI (k + 1) - 1 = nI k := nI_pred k
    have e1 : ¬ nI k < 0 := nI_pos (by omega)
    have e2 : ¬ (60 : Int32) ≤ nI P.length := nI_ge (b := 60) (by omega) (by decide)
    have e3 : nI k * 8 = nI (8 * k) := by rw [show (8 : Int32) = nI 8 from rfl, pk_mul, Nat.mul_comm]
    have e4 : ((lN r).toUInt64 >>> ((nI (8 * k)).toInt64.toUInt64 &&& Int64.toUInt64 63)).toInt64 = lN (r / 2 ^ (8 * k)) := wb_shr hr (by omega)
    have e5 : lN (r / 2 ^ (8 * k)) &&& 255 = lN (r / 2 ^ (8 * k) % 256) := by rw [l_255, wb_mask (Nat.lt_of_le_of_lt (Nat.div_le_self _ _) hr) (by decide)]
    have e6 : nI k + -1 = nI k - 1 := by rw [Int32.sub_eq_add_neg]
    obtain ⟨c', h1, h2, h3⟩ := p_appendL hr m k (ca (ca c 17 (upd (c 17) P.length (nI (r / 2 ^ (8 * k) % 256)))) 15 (upd (c 15) 2 (nI (P.length + 1)))) (P ++ [r / 2 ^ (8 * k) % 256]) (by omega) (by rw [List.length_append, List.length_singleton]; omega) (by
      refine ⟨by rw [List.length_append, List.length_singleton]; omega, by rw [ca_eq, upd_eq, List.length_append, List.length_singleton], fun j hj => ?_⟩
      rw [ca_ne (by decide), ca_eq]
      rw [List.length_append, List.length_singleton] at hj
      simp only [List.getD_eq_getElem?_getD]
      by_cases e : j = P.length
      · subst e
        rw [upd_eq]
        simp
      · rw [upd_ne e, List.getElem?_append_left (by omega), h.2.2 j (by omega), List.getD_eq_getElem?_getD])
    have e8 : P ++ ((List.range (k + 1)).map (fun i => r / 2 ^ (8 * i) % 256)).reverse = P ++ [r / 2 ^ (8 * k) % 256] ++ ((List.range k).map (fun i => r / 2 ^ (8 * i) % 256)).reverse := by
      rw [List.range_succ, List.map_append, List.reverse_append, List.append_assoc]
      rfl
    rw [e8]
    refine ⟨c', h1, sx_tr (sx_tr (sx_ca (by simp)) (sx_ca (by simp))) h2, fun K => ?_⟩
    rw [e0, g6_5]
    simp only [↓g6_0, ↓g6_1, ↓g6_2, ↓g6_3, ↓g6_7, ↓g6_10, ↓g6_11, ↓g6_14, ↓g6_16, ↓g6_19, ↓g6_20, ↓g6_23, ↓g6_24, ↓g6_27, ↓g6_28, ↓g6_30, ↓g6_32, ↓g6_33, ↓g6_34, ↓g6_37, ↓g6_38, ↓g6_39, ↓g6_42, ↓g6_43, ↓g6_44, ↓g6_47, ↓g6_48, ↓g6_49, ↓g6_52, ↓g6_55, ↓g6_58, ↓mo_0, ↓mf_0_0, ↓mf_0_1, ↓mf_0_2, ↓mf_0_3, ↓mf_0_4, ↓mo_1, ↓mf_1_0, ↓mf_1_1, ↓mo_2, ↓mf_2_0, ↓mo_4, ↓mf_4_0, ↓mo_6, ↓mf_6_0, ↓mf_6_1, ↓mf_6_2, ↓mf_6_3, ↓mp_6_4, ↓mf_6_4, ↓mp_6_5, ↓mf_6_5, ↓mo_7, ↓mf_7_0, ↓mo_9, ↓mf_9_0, ↓mo_11, ↓mf_11_0, ↓mo_13, ↓mf_13_0, ↓mf_13_1, ↓mp_13_2, ↓mf_13_2, ↓mp_13_3, ↓mf_13_3, ↓mo_14, ↓mf_14_0, ↓mp_14_1, ↓mf_14_1, ↓mp_14_2, ↓mf_14_2, ↓mo_15, ↓mf_15_0, ↓mf_15_1, ↓mp_15_2, ↓mf_15_2, ↓mo_16, ↓mf_16_0, ↓mo_18, ↓mf_18_0, ↓ma_3, ↓ms_3, ↓ma_5, ↓ms_5, ↓ma_8, ↓ms_8, ↓ma_10, ↓ms_10, ↓ma_12, ↓ms_12, ↓ma_17, ↓ms_17, ↓ma_19, ↓ms_19, ↓bnd_some, ↓cond_true, ↓m_pv_none, ↓m_pv_some, m_b01_0, m_b01_1, true_and, and_true, ↓r_get_2, ↓r_get_4, ↓r_get_7, ↓r_get_9, ↓r_get_11, ↓r_get_16, ↓r_get_18, ↓r_set_2, ↓r_set_4, ↓r_set_7, ↓r_set_9, ↓r_set_11, ↓r_set_16, ↓r_set_18, e1, if_false, h.2.1, e2, e3, e4, e5, lN_i, rs_in (show P.length < 60 by omega) (by decide : 60 < 2 ^ 31), ca_ne (show (15 : Nat) ≠ 17 by decide), nI_1, e6]
    exact h3 K
theorem p_append {r : Nat} (hr : r < 2 ^ 64) {l : List Nat} (hl : bys 8 r = some l) {P : List Nat} (hP : P.length + l.length ≤ 60) (h : PR c P) : ∃ c', PR c' (P ++ l.reverse) ∧ sx [15, 17] c c' ∧ ∀ (K : Option Value → mM → Prop), go S 6 0 [.ref 15, .long (lN r), .null, .int (nI l.length), .null] [] (mk c t) K = K none (mk c' t) := by
  obtain ⟨b1, b2, b3⟩ := bys_all hl
  obtain ⟨c', h1, h2, h3⟩ := p_appendL (S := S) (t := t) hr (nI l.length) l.length c P b1 hP h
  have e : (List.range l.length).map (fun i => r / 2 ^ (8 * i) % 256) = l := by
    apply List.ext_getElem?
    intro i
    by_cases hi : i < l.length
    · have := b3 i hi
      rw [List.getD_eq_getElem?_getD, List.getElem?_eq_getElem hi, Option.getD_some] at this
      rw [List.getElem?_map, List.getElem?_range hi, Option.map_some, List.getElem?_eq_getElem hi, this]
    · rw [List.getElem?_eq_none (by simp; omega), List.getElem?_eq_none (by omega)]
  rw [e] at h1
  refine ⟨c', h1, h2, fun K => ?_⟩
  simp only [↓g6_0, ↓g6_1, ↓g6_2, ↓g6_3, ↓g6_7, ↓g6_10, ↓g6_11, ↓g6_14, ↓g6_16, ↓g6_19, ↓g6_20, ↓g6_23, ↓g6_24, ↓g6_27, ↓g6_28, ↓g6_30, ↓g6_32, ↓g6_33, ↓g6_34, ↓g6_37, ↓g6_38, ↓g6_39, ↓g6_42, ↓g6_43, ↓g6_44, ↓g6_47, ↓g6_48, ↓g6_49, ↓g6_52, ↓g6_55, ↓g6_58]
  exact h3 K
theorem p_length {P : List Nat} (h : PR c P) (K : Option Value → mM → Prop) : go S 4 0 [.ref 15] [] (mk c t) K = K (some (.int (nI P.length))) (mk c t) := by
  simp only [↓g4_0, ↓g4_1, ↓g4_4, ↓mo_0, ↓mf_0_0, ↓mf_0_1, ↓mf_0_2, ↓mf_0_3, ↓mf_0_4, ↓mo_1, ↓mf_1_0, ↓mf_1_1, ↓mo_2, ↓mf_2_0, ↓mo_4, ↓mf_4_0, ↓mo_6, ↓mf_6_0, ↓mf_6_1, ↓mf_6_2, ↓mf_6_3, ↓mp_6_4, ↓mf_6_4, ↓mp_6_5, ↓mf_6_5, ↓mo_7, ↓mf_7_0, ↓mo_9, ↓mf_9_0, ↓mo_11, ↓mf_11_0, ↓mo_13, ↓mf_13_0, ↓mf_13_1, ↓mp_13_2, ↓mf_13_2, ↓mp_13_3, ↓mf_13_3, ↓mo_14, ↓mf_14_0, ↓mp_14_1, ↓mf_14_1, ↓mp_14_2, ↓mf_14_2, ↓mo_15, ↓mf_15_0, ↓mf_15_1, ↓mp_15_2, ↓mf_15_2, ↓mo_16, ↓mf_16_0, ↓mo_18, ↓mf_18_0, ↓ma_3, ↓ms_3, ↓ma_5, ↓ms_5, ↓ma_8, ↓ms_8, ↓ma_10, ↓ms_10, ↓ma_12, ↓ms_12, ↓ma_17, ↓ms_17, ↓ma_19, ↓ms_19, ↓bnd_some, ↓cond_true, ↓m_pv_none, ↓m_pv_some, m_b01_0, m_b01_1, true_and, and_true, h.2.1]
theorem p_empty {P : List Nat} (h : PR c P) : ∃ c', PR c' [] ∧ sx [15] c c' ∧ ∀ (K : Option Value → mM → Prop), go S 5 0 [.ref 15] [] (mk c t) K = K none (mk c' t) := by
  refine ⟨ca c 15 (upd (c 15) 2 0), ⟨by simp, by rw [ca_eq, upd_eq]; rfl, fun j hj => absurd hj (Nat.not_lt_zero j)⟩, sx_ca (by simp), fun K => ?_⟩
  simp only [↓g5_0, ↓g5_1, ↓g5_2, ↓g5_5, ↓mo_0, ↓mf_0_0, ↓mf_0_1, ↓mf_0_2, ↓mf_0_3, ↓mf_0_4, ↓mo_1, ↓mf_1_0, ↓mf_1_1, ↓mo_2, ↓mf_2_0, ↓mo_4, ↓mf_4_0, ↓mo_6, ↓mf_6_0, ↓mf_6_1, ↓mf_6_2, ↓mf_6_3, ↓mp_6_4, ↓mf_6_4, ↓mp_6_5, ↓mf_6_5, ↓mo_7, ↓mf_7_0, ↓mo_9, ↓mf_9_0, ↓mo_11, ↓mf_11_0, ↓mo_13, ↓mf_13_0, ↓mf_13_1, ↓mp_13_2, ↓mf_13_2, ↓mp_13_3, ↓mf_13_3, ↓mo_14, ↓mf_14_0, ↓mp_14_1, ↓mf_14_1, ↓mp_14_2, ↓mf_14_2, ↓mo_15, ↓mf_15_0, ↓mf_15_1, ↓mp_15_2, ↓mf_15_2, ↓mo_16, ↓mf_16_0, ↓mo_18, ↓mf_18_0, ↓ma_3, ↓ms_3, ↓ma_5, ↓ms_5, ↓ma_8, ↓ms_8, ↓ma_10, ↓ms_10, ↓ma_12, ↓ms_12, ↓ma_17, ↓ms_17, ↓ma_19, ↓ms_19, ↓bnd_some, ↓cond_true, ↓m_pv_none, ↓m_pv_some, m_b01_0, m_b01_1, true_and, and_true]
end PAD

