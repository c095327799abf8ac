/-! the model: store, record, what comes next -/
def shf (f : Nat → Int32) (k : Nat) : Nat → Int32 := fun j => if j < k then f (j + 1206) else f j
theorem HI.push {d d' : Nat → Nat → Int32} {hs : List (Nat → Tm)} {R : Nat → Tm} (h : HI d hs) (hR : ST6 R) (hH : ∀ st ∈ hs, ST6 st) (h1 : SL (d 1) 0 R) (e0 : d' 0 2 = nI (hs.length + 1)) (e1 : ∀ j, j < 1206 * hs.length → d' 2 j = d 2 j) (e2 : ∀ j, j < 1206 → d' 2 (1206 * hs.length + j) = d 1 j) : HI d' (R :: hs) := by
  refine ⟨by rw [List.length_cons]; exact e0, fun j hj => ?_⟩
  rw [List.length_cons] at hj ⊢
  cases j with
  | zero =>
    show SL (d' 2) _ R
    rw [show hs.length + 1 - 1 - 0 = hs.length by omega]
    exact h1.mov (fun r hr => (hR r hr).2) (fun j hj => by rw [e2 j hj, Nat.zero_add])
  | succ j =>
    show SL (d' 2) _ (hs.getD j (fun _ => []))
    rw [show hs.length + 1 - 1 - (j + 1) = hs.length - 1 - j by omega]
    have hm : hs.getD j (fun _ => []) ∈ hs := by
      rw [List.getD_eq_getElem?_getD, List.getElem?_eq_getElem (by omega), Option.getD_some]
      exact List.getElem_mem _
    refine (h.2 j (by omega)).mov (fun r hr => (hH _ hm r hr).2) (fun i hi => e1 _ ?_)
    have : 1206 * (hs.length - 1 - j) + 1206 ≤ 1206 * hs.length := by
      rw [← Nat.mul_succ]
      exact Nat.mul_le_mul_left _ (by omega)
    omega
theorem HI.old {d d' : Nat → Nat → Int32} {hs : List (Nat → Tm)} (h : HI d hs) (h6 : hs.length = 6) (hH : ∀ st ∈ hs, ST6 st) (e0 : d' 0 2 = nI 5) (e1 : d' 2 = shf (d 2) 6030) : HI d' (hs.take 5) := by
  have hl : (hs.take 5).length = 5 := by rw [List.length_take]; omega
  refine ⟨by rw [hl]; exact e0, fun j hj => ?_⟩
  rw [hl] at hj ⊢
  have e2 : (hs.take 5).getD j (fun _ => []) = hs.getD j (fun _ => []) := by
    rw [List.getD_eq_getElem?_getD, List.getD_eq_getElem?_getD, List.getElem?_take, if_pos hj]
  rw [e2, e1]
  have hm : hs.getD j (fun _ => []) ∈ hs := by
    rw [List.getD_eq_getElem?_getD, List.getElem?_eq_getElem (by omega), Option.getD_some]
    exact List.getElem_mem _
  have h3 := h.2 j (by omega)
  rw [h6] at h3
  refine h3.mov (fun r hr => (hH _ hm r hr).2) (fun i hi => ?_)
  unfold shf
  rw [if_pos (by omega), show 1206 * (5 - 1 - j) + i + 1206 = 1206 * (6 - 1 - j) + i by omega]
def hrd (l : Tm) : Nat → Nat → Bool
  | 0, _ => false
  | n + 1, k => red l k || hrd l n (k + 1)
theorem hrd_all {l : Tm} : ∀ {n k : Nat}, hrd l n k = false ↔ ∀ j, j < n → red l (k + j) = false
  | 0, k => ⟨fun _ j hj => absurd hj (Nat.not_lt_zero j), fun _ => rfl⟩
  | n + 1, k => by
    rw [hrd, Bool.or_eq_false_iff, hrd_all]
    constructor
    · rintro ⟨h1, h2⟩ j hj
      cases j with
      | zero => exact h1
      | succ j => rw [show k + (j + 1) = k + 1 + j by omega]; exact h2 j (by omega)
    · intro h
      refine ⟨h 0 (by omega), fun j hj => ?_⟩
      rw [show k + 1 + j = k + (j + 1) by omega]
      exact h (j + 1) (by omega)
section MOD3
variable {S : mS} {c : Nat → Nat → Int32} {l : Tm}
theorem n_store {d : Nat → Nat → Int32} (h : RW d l) {i : Nat} (hi : i < 6) (hl : l.length ≤ 200) : ∃ d', mx [1] [] d d' ∧ (∀ R, (∀ r, r < 6 → (R r).length ≤ 200) → SL (d 1) 0 R → SL (d' 1) 0 (tu R i l)) ∧ ∀ (K : Option Value → mM → Prop), go S 88 0 [.ref 20, .int (nI i), .null] [] (mk c (md d)) K = K none (mk c (md d')) := by
  refine ⟨ca d 1 (stf (upd (d 1) i (nI l.length)) (d 6) i l.length 200), mx_ca (by simp) (by decide), fun R hR hS r hr => ?_, fun K => ?_⟩
  · rw [ca_eq]
    obtain ⟨s1, s2⟩ := hS r hr
    by_cases e : r = i
    · subst e
      rw [tu_eq]
      refine ⟨by rw [Nat.zero_add, stf_out (by omega), upd_eq], fun p hp => ?_⟩
      rw [show 0 + 6 + 200 * r + p = 6 + 200 * r + p by omega, stf_in (by omega), if_pos hp]
      exact h.2 p hp
    · rw [tu_ne e]
      have hRr := hR r hr
      refine ⟨by rw [stf_out (by omega), upd_ne (by omega)]; exact s1, fun p hp => ?_⟩
      rw [stf_out (by omega), upd_ne (by omega)]
      exact s2 p hp
  · have h2 : RW (ca d 1 (upd (d 1) i (nI l.length))) l := h.mx (mx_ca (ks := [1]) (ns := []) (by simp) (by decide)) (by simp) (by simp)
    have g := n_storeL (S := S) (c := c) (l := l) hi hl (upd (d 1) i (nI l.length)) h2 200 0 rfl K
    have e : ∀ k, k = 0 → stf (upd (d 1) i (nI l.length)) (ca d 1 (upd (d 1) i (nI l.length)) 6) i l.length k = upd (d 1) i (nI l.length) := fun k hk => by
      funext j
      exact stf_out (by omega)
    rw [ca_ca, e 0 rfl, ca_ca, ca_ne (show (6 : Nat) ≠ 1 by decide)] at g
    simp only [↓g88_0, ↓g88_1, ↓g88_4, ↓g88_5, ↓g88_6, ↓g88_9, ↓g88_10, ↓g88_11, ↓g88_13, ↓g88_16, ↓g88_19, ↓g88_20, ↓g88_23, ↓g88_25, ↓g88_28, ↓g88_29, ↓g88_30, ↓g88_31, ↓g88_32, ↓g88_33, ↓g88_34, ↓g88_35, ↓g88_38, ↓g88_41, ↓g88_42, ↓g88_45, ↓g88_46, ↓g88_47, ↓g88_50, ↓g88_51, ↓g88_52, ↓g88_55, ↓g88_58, ↓mo_20, ↓mf_20_0, ↓mf_20_1, ↓mp_20_2, ↓mf_20_2, ↓mf_20_3, ↓mf_20_4, ↓mf_20_5, ↓mp_20_6, ↓mf_20_6, ↓mf_20_7, ↓mp_20_8, ↓mf_20_8, ↓mf_20_9, ↓mf_20_10, ↓mp_20_11, ↓mf_20_11, ↓mf_20_12, ↓mf_20_13, ↓mp_20_14, ↓mf_20_14, ↓mf_20_15, ↓mp_20_16, ↓mf_20_16, ↓ma_21, ↓ms_21, ↓ma_22, ↓ms_22, ↓ma_23, ↓ms_23, ↓ma_24, ↓ms_24, ↓ma_25, ↓ms_25, ↓ma_26, ↓ms_26, ↓ma_27, ↓ms_27, ↓ma_28, ↓ms_28, ↓ma_29, ↓ms_29, ↓ma_30, ↓ms_30, ↓ma_31, ↓ms_31, ↓bnd_some, ↓cond_true, ↓m_pv_none, ↓m_pv_some, m_b01_0, m_b01_1, true_and, and_true, eq_self, h.1, ib (show i < 1206 by omega), nI_clamp (show i < 2 ^ 31 by omega)]
    exact g
theorem n_shiftL {d : Nat → Nat → Int32} (f : Nat → Int32) : ∀ (n k : Nat), n + k = 6030 → ∀ (K : Option Value → mM → Prop), go S 85 11 [.ref 20, .int (nI k)] [] (mk c (md (ca d 2 (shf f k)))) K = go S 85 40 [.ref 20, .int (nI 6030)] [] (mk c (md (ca d 2 (shf f 6030)))) K
  | 0, k, hn, K => by
    have e : k = 6030 := by omega
    subst e
    rw [g85_11]
    simp only [↓g85_0, ↓g85_1, ↓g85_4, ↓g85_6, ↓g85_9, ↓g85_10, ↓g85_12, ↓g85_15, ↓g85_18, ↓g85_19, ↓g85_22, ↓g85_23, ↓g85_24, ↓g85_27, ↓g85_28, ↓g85_31, ↓g85_32, ↓g85_33, ↓g85_34, ↓g85_37, ↓g85_41, ↓g85_42, ↓g85_45, ↓g85_46, ↓g85_47, ↓g85_50, ↓g85_51, ↓g85_54, ↓g85_55, ↓g85_56, ↓g85_59, ↓g85_60, ↓g85_63, ↓g85_66, ↓g85_67, ↓g85_70, ↓g85_73, ↓g85_74, ↓g85_75, ↓g85_78, ↓g85_79, ↓g85_80, ↓g85_83, show (6030 : Int32) ≤ nI 6030 from Int32.le_refl _, ↓reduceIte]
  | n + 1, k, hn, K => by
    have e1 : ¬ (6030 : Int32) ≤ nI k := nI_ge (b := 6030) (by omega) (by decide)
    have e2 : nI k + 1206 = nI (k + 1206) := by rw [show (1206 : Int32) = nI 1206 from rfl, nI_add]
    have e3 : shf f k (k + 1206) = f (k + 1206) := by
      unfold shf
      rw [if_neg (by omega)]
    have e4 : upd (shf f k) k (f (k + 1206)) = shf f (k + 1) := by
      funext j
      unfold shf
      by_cases e : j = k
      · subst e
        rw [upd_eq, if_pos (by omega)]
      · rw [upd_ne e]
        by_cases q : j < k
        · rw [if_pos q, if_pos (by omega)]
        · rw [if_neg q, if_neg (by omega)]
    have ih := n_shiftL (d := d) f n (k + 1) (by omega) K
    rw [g85_11]
    simp only [↓g85_0, ↓g85_1, ↓g85_4, ↓g85_6, ↓g85_9, ↓g85_10, ↓g85_12, ↓g85_15, ↓g85_18, ↓g85_19, ↓g85_22, ↓g85_23, ↓g85_24, ↓g85_27, ↓g85_28, ↓g85_31, ↓g85_32, ↓g85_33, ↓g85_34, ↓g85_37, ↓g85_41, ↓g85_42, ↓g85_45, ↓g85_46, ↓g85_47, ↓g85_50, ↓g85_51, ↓g85_54, ↓g85_55, ↓g85_56, ↓g85_59, ↓g85_60, ↓g85_63, ↓g85_66, ↓g85_67, ↓g85_70, ↓g85_73, ↓g85_74, ↓g85_75, ↓g85_78, ↓g85_79, ↓g85_80, ↓g85_83, ↓mo_20, ↓mf_20_0, ↓mf_20_1, ↓mp_20_2, ↓mf_20_2, ↓mf_20_3, ↓mf_20_4, ↓mf_20_5, ↓mp_20_6, ↓mf_20_6, ↓mf_20_7, ↓mp_20_8, ↓mf_20_8, ↓mf_20_9, ↓mf_20_10, ↓mp_20_11, ↓mf_20_11, ↓mf_20_12, ↓mf_20_13, ↓mp_20_14, ↓mf_20_14, ↓mf_20_15, ↓mp_20_16, ↓mf_20_16, ↓ma_21, ↓ms_21, ↓ma_22, ↓ms_22, ↓ma_23, ↓ms_23, ↓ma_24, ↓ms_24, ↓ma_25, ↓ms_25, ↓ma_26, ↓ms_26, ↓ma_27, ↓ms_27, ↓ma_28, ↓ms_28, ↓ma_29, ↓ms_29, ↓ma_30, ↓ms_30, ↓ma_31, ↓ms_31, ↓bnd_some, ↓cond_true, ↓m_pv_none, ↓m_pv_some, m_b01_0, m_b01_1, true_and, and_true, eq_self, e1, ↓reduceIte, e2, ib (show k + 1206 < 7236 by omega), ib (show k < 7236 by omega), nI_clamp (show k + 1206 < 2 ^ 31 by omega), nI_clamp (show k < 2 ^ 31 by omega), ca_eq, e3, e4, nI_1, ca_ca]
    exact ih
theorem n_rec50 {d : Nat → Nat → Int32} {m : Nat} (hm : m < 6) (h : d 0 2 = nI m) (K : Option Value → mM → Prop) (a1 : Value) : go S 85 50 [.ref 20, a1] [] (mk c (md d)) K = K none (mk c (md (ca (ca d 2 (va_cpy (d 1) (d 2) 0 (1206 * m) 1206)) 0 (upd (d 0) 2 (nI (m + 1)))))) := by
  have g0 : ∀ K, go S 83 0 [.ref 21, .int 0, .ref 22, .int (nI m * 1206), .int 1206, .null] [] (mk c (md d)) K = K none (mk c (md (ca d 2 (va_cpy (d 1) (d 2) 0 (1206 * m) 1206)))) := fun K => by
    have g := n_moves (S := S) (F := fun g => mk c (md (ca d 2 g))) (a := 21) (b := 22) (f := d 1) (fun g => rfl) (fun g => rfl) (fun g g' => by
      show mk c (md (ca (ca d 2 g) 2 g')) = _
      rw [ca_ca]) (by decide) (by decide) (p := 0) (q := 1206 * m) (w := 1206) (by omega) (by omega) (d 2) K (x := 0) (y := nI m * 1206) (z := 1206) (hy := by rw [show (1206 : Int32) = nI 1206 from rfl, pk_mul, Nat.mul_comm])
    simp only [ca_self] at g
    exact g
  simp only [↓g85_0, ↓g85_1, ↓g85_4, ↓g85_6, ↓g85_9, ↓g85_10, ↓g85_12, ↓g85_15, ↓g85_18, ↓g85_19, ↓g85_22, ↓g85_23, ↓g85_24, ↓g85_27, ↓g85_28, ↓g85_31, ↓g85_32, ↓g85_33, ↓g85_34, ↓g85_37, ↓g85_40, ↓g85_41, ↓g85_42, ↓g85_45, ↓g85_46, ↓g85_47, ↓g85_50, ↓g85_51, ↓g85_54, ↓g85_55, ↓g85_56, ↓g85_59, ↓g85_60, ↓g85_63, ↓g85_66, ↓g85_67, ↓g85_70, ↓g85_73, ↓g85_74, ↓g85_75, ↓g85_78, ↓g85_79, ↓g85_80, ↓g85_83, ↓mo_20, ↓mf_20_0, ↓mf_20_1, ↓mp_20_2, ↓mf_20_2, ↓mf_20_3, ↓mf_20_4, ↓mf_20_5, ↓mp_20_6, ↓mf_20_6, ↓mf_20_7, ↓mp_20_8, ↓mf_20_8, ↓mf_20_9, ↓mf_20_10, ↓mp_20_11, ↓mf_20_11, ↓mf_20_12, ↓mf_20_13, ↓mp_20_14, ↓mf_20_14, ↓mf_20_15, ↓mp_20_16, ↓mf_20_16, ↓ma_21, ↓ms_21, ↓ma_22, ↓ms_22, ↓ma_23, ↓ms_23, ↓ma_24, ↓ms_24, ↓ma_25, ↓ms_25, ↓ma_26, ↓ms_26, ↓ma_27, ↓ms_27, ↓ma_28, ↓ms_28, ↓ma_29, ↓ms_29, ↓ma_30, ↓ms_30, ↓ma_31, ↓ms_31, ↓bnd_some, ↓cond_true, ↓m_pv_none, ↓m_pv_some, m_b01_0, m_b01_1, true_and, and_true, eq_self, h, ↓g0, cz_2, nI_1]
theorem n_record {d : Nat → Nat → Int32} {hs : List (Nat → Tm)} {R : Nat → Tm} (h : HI d hs) (h6 : hs.length ≤ 6) (hR : ST6 R) (hH : ∀ st ∈ hs, ST6 st) (h1 : SL (d 1) 0 R) : ∃ d', HI d' ((R :: hs).take 6) ∧ mx [2] [2] d d' ∧ ∀ (K : Option Value → mM → Prop), go S 85 0 [.ref 20, .null] [] (mk c (md d)) K = K none (mk c (md d')) := by
  by_cases e6 : hs.length = 6
  · have k1 : nI (6 : Nat) - 1 = nI 5 := rfl
    have hO : HI (ca (ca d 2 (shf (d 2) 6030)) 0 (upd (d 0) 2 (nI 5))) (hs.take 5) := h.old e6 hH (by rw [ca_eq, upd_eq]) (by rw [ca_ne (by decide), ca_eq])
    have hl : (hs.take 5).length = 5 := by rw [List.length_take]; omega
    have et : (R :: hs).take 6 = R :: hs.take 5 := rfl
    refine ⟨ca (ca (ca (ca d 2 (shf (d 2) 6030)) 0 (upd (d 0) 2 (nI 5))) 2 (va_cpy ((ca (ca d 2 (shf (d 2) 6030)) 0 (upd (d 0) 2 (nI 5))) 1) ((ca (ca d 2 (shf (d 2) 6030)) 0 (upd (d 0) 2 (nI 5))) 2) 0 (1206 * 5) 1206)) 0 (upd ((ca (ca d 2 (shf (d 2) 6030)) 0 (upd (d 0) 2 (nI 5))) 0) 2 (nI (5 + 1))), ?_, ?_, fun K => ?_⟩
    · rw [et]
      refine hO.push hR (fun st hst => hH st (List.mem_of_mem_take hst)) (by rw [ca_ne (by decide), ca_ne (by decide)]; exact h1) (by rw [ca_eq, upd_eq, hl]) (fun j hj => ?_) (fun j hj => ?_)
      · rw [hl] at hj
        rw [ca_ne (show (2 : Nat) ≠ 0 by decide), ca_eq, pk_cpy_out (by omega)]
      · rw [hl, ca_ne (show (2 : Nat) ≠ 0 by decide), ca_eq, pk_cpy_in (by omega) (by omega), show 0 + (1206 * 5 + j - 1206 * 5) = j by omega]
    · exact mx_tr (mx_tr (mx_ca (by simp) (by decide)) (mx_u (a := 2) (d := ca d 2 (shf (d 2) 6030)) (by simp))) (mx_tr (mx_ca (by simp) (by decide)) (mx_u (a := 2) (d := ca (ca (ca d 2 (shf (d 2) 6030)) 0 (upd (d 0) 2 (nI 5))) 2 (va_cpy ((ca (ca d 2 (shf (d 2) 6030)) 0 (upd (d 0) 2 (nI 5))) 1) ((ca (ca d 2 (shf (d 2) 6030)) 0 (upd (d 0) 2 (nI 5))) 2) 0 (1206 * 5) 1206)) (by simp)))
    · have g1 : go S 85 11 [.ref 20, .int 0] [] (mk c (md d)) K = go S 85 40 [.ref 20, .int (nI 6030)] [] (mk c (md (ca d 2 (shf (d 2) 6030)))) K := by
        have g := n_shiftL (S := S) (c := c) (d := d) (d 2) 6030 0 rfl K
        have e : shf (d 2) 0 = d 2 := by
          funext j
          unfold shf
          rw [if_neg (Nat.not_lt_zero j)]
        rw [e, ca_self] at g
        exact g
      have g2 := n_rec50 (S := S) (c := c) (d := ca (ca d 2 (shf (d 2) 6030)) 0 (upd (d 0) 2 (nI 5))) (m := 5) (by decide) (by rw [ca_eq, upd_eq]) K (.int (nI 6030))
      have e2 : d 0 2 = 6 := by rw [h.1, e6]; rfl
      simp only [↓g85_0, ↓g85_1, ↓g85_4, ↓g85_6, ↓g85_9, ↓g85_10, ↓g85_12, ↓g85_15, ↓g85_18, ↓g85_19, ↓g85_22, ↓g85_23, ↓g85_24, ↓g85_27, ↓g85_28, ↓g85_31, ↓g85_32, ↓g85_33, ↓g85_34, ↓g85_37, ↓g85_41, ↓g85_42, ↓g85_45, ↓g85_46, ↓g85_47, ↓g85_51, ↓g85_54, ↓g85_55, ↓g85_56, ↓g85_59, ↓g85_60, ↓g85_63, ↓g85_66, ↓g85_67, ↓g85_70, ↓g85_73, ↓g85_74, ↓g85_75, ↓g85_78, ↓g85_79, ↓g85_80, ↓g85_83, ↓mo_20, ↓mf_20_0, ↓mf_20_1, ↓mp_20_2, ↓mf_20_2, ↓mf_20_3, ↓mf_20_4, ↓mf_20_5, ↓mp_20_6, ↓mf_20_6, ↓mf_20_7, ↓mp_20_8, ↓mf_20_8, ↓mf_20_9, ↓mf_20_10, ↓mp_20_11, ↓mf_20_11, ↓mf_20_12, ↓mf_20_13, ↓mp_20_14, ↓mf_20_14, ↓mf_20_15, ↓mp_20_16, ↓mf_20_16, ↓ma_21, ↓ms_21, ↓ma_22, ↓ms_22, ↓ma_23, ↓ms_23, ↓ma_24, ↓ms_24, ↓ma_25, ↓ms_25, ↓ma_26, ↓ms_26, ↓ma_27, ↓ms_27, ↓ma_28, ↓ms_28, ↓ma_29, ↓ms_29, ↓ma_30, ↓ms_30, ↓ma_31, ↓ms_31, ↓bnd_some, ↓cond_true, ↓m_pv_none, ↓m_pv_some, m_b01_0, m_b01_1, true_and, and_true, eq_self, e2, ↓reduceIte, ↓g1]
      simp only [↓g85_0, ↓g85_1, ↓g85_4, ↓g85_6, ↓g85_9, ↓g85_10, ↓g85_12, ↓g85_15, ↓g85_18, ↓g85_19, ↓g85_22, ↓g85_23, ↓g85_24, ↓g85_27, ↓g85_28, ↓g85_31, ↓g85_32, ↓g85_33, ↓g85_34, ↓g85_37, ↓g85_40, ↓g85_41, ↓g85_42, ↓g85_45, ↓g85_46, ↓g85_47, ↓g85_51, ↓g85_54, ↓g85_55, ↓g85_56, ↓g85_59, ↓g85_60, ↓g85_63, ↓g85_66, ↓g85_67, ↓g85_70, ↓g85_73, ↓g85_74, ↓g85_75, ↓g85_78, ↓g85_79, ↓g85_80, ↓g85_83, ↓mo_20, ↓mf_20_0, ↓mf_20_1, ↓mp_20_2, ↓mf_20_2, ↓mf_20_3, ↓mf_20_4, ↓mf_20_5, ↓mp_20_6, ↓mf_20_6, ↓mf_20_7, ↓mp_20_8, ↓mf_20_8, ↓mf_20_9, ↓mf_20_10, ↓mp_20_11, ↓mf_20_11, ↓mf_20_12, ↓mf_20_13, ↓mp_20_14, ↓mf_20_14, ↓mf_20_15, ↓mp_20_16, ↓mf_20_16, ↓ma_21, ↓ms_21, ↓ma_22, ↓ms_22, ↓ma_23, ↓ms_23, ↓ma_24, ↓ms_24, ↓ma_25, ↓ms_25, ↓ma_26, ↓ms_26, ↓ma_27, ↓ms_27, ↓ma_28, ↓ms_28, ↓ma_29, ↓ms_29, ↓ma_30, ↓ms_30, ↓ma_31, ↓ms_31, ↓bnd_some, ↓cond_true, ↓m_pv_none, ↓m_pv_some, m_b01_0, m_b01_1, true_and, and_true, eq_self, cz_2, e2, show (6 : Int32) - 1 = nI 5 from rfl]
      exact g2
  · have e2 : ¬ d 0 2 = 6 := by
      rw [h.1]
      intro z
      exact e6 ((nI_eq (b := 6) (by omega) (by decide)).mp z)
    have et : (R :: hs).take 6 = R :: hs := List.take_of_length_le (by rw [List.length_cons]; omega)
    refine ⟨ca (ca d 2 (va_cpy (d 1) (d 2) 0 (1206 * hs.length) 1206)) 0 (upd (d 0) 2 (nI (hs.length + 1))), ?_, ?_, fun K => ?_⟩
    · rw [et]
      refine h.push hR hH h1 (by rw [ca_eq, upd_eq]) (fun j hj => ?_) (fun j hj => ?_)
      · rw [ca_ne (show (2 : Nat) ≠ 0 by decide), ca_eq, pk_cpy_out (by omega)]
      · rw [ca_ne (show (2 : Nat) ≠ 0 by decide), ca_eq, pk_cpy_in (by omega) (by omega), show 0 + (1206 * hs.length + j - 1206 * hs.length) = j by omega]
    · exact mx_tr (mx_ca (by simp) (by decide)) (mx_u (a := 2) (d := ca d 2 (va_cpy (d 1) (d 2) 0 (1206 * hs.length) 1206)) (by simp))
    · have g2 := n_rec50 (S := S) (c := c) (d := d) (m := hs.length) (by omega) h.1 K .null
      simp only [↓g85_0, ↓g85_1, ↓g85_4, ↓g85_6, ↓g85_9, ↓g85_10, ↓g85_12, ↓g85_15, ↓g85_18, ↓g85_19, ↓g85_22, ↓g85_23, ↓g85_24, ↓g85_27, ↓g85_28, ↓g85_31, ↓g85_32, ↓g85_33, ↓g85_34, ↓g85_37, ↓g85_40, ↓g85_41, ↓g85_42, ↓g85_45, ↓g85_46, ↓g85_47, ↓g85_51, ↓g85_54, ↓g85_55, ↓g85_56, ↓g85_59, ↓g85_60, ↓g85_63, ↓g85_66, ↓g85_67, ↓g85_70, ↓g85_73, ↓g85_74, ↓g85_75, ↓g85_78, ↓g85_79, ↓g85_80, ↓g85_83, ↓mo_20, ↓mf_20_0, ↓mf_20_1, ↓mp_20_2, ↓mf_20_2, ↓mf_20_3, ↓mf_20_4, ↓mf_20_5, ↓mp_20_6, ↓mf_20_6, ↓mf_20_7, ↓mp_20_8, ↓mf_20_8, ↓mf_20_9, ↓mf_20_10, ↓mp_20_11, ↓mf_20_11, ↓mf_20_12, ↓mf_20_13, ↓mp_20_14, ↓mf_20_14, ↓mf_20_15, ↓mp_20_16, ↓mf_20_16, ↓ma_21, ↓ms_21, ↓ma_22, ↓ms_22, ↓ma_23, ↓ms_23, ↓ma_24, ↓ms_24, ↓ma_25, ↓ms_25, ↓ma_26, ↓ms_26, ↓ma_27, ↓ms_27, ↓ma_28, ↓ms_28, ↓ma_29, ↓ms_29, ↓ma_30, ↓ms_30, ↓ma_31, ↓ms_31, ↓bnd_some, ↓cond_true, ↓m_pv_none, ↓m_pv_some, m_b01_0, m_b01_1, true_and, and_true, eq_self, e2, ↓reduceIte]
      exact g2
variable {d : Nat → Nat → Int32}
theorem n_hasL (h : RW d l) (hk : Tok l) {e : Nat} (he : e ≤ l.length) : ∀ (n k : Nat), n + k = e → ∀ (K : Option Value → mM → Prop) (j1 : Value), go S 94 5 [.ref 20, j1, .int (nI e), .int 0, .int (nI k)] [] (mk c (md d)) K = K (some (.int (if hrd l n k = true then 1 else 0))) (mk c (md d))
  | 0, k, hn, K, j1 => by
    have e1 : k = e := by omega
    subst e1
    rw [g94_5]
    simp only [↓g94_0, ↓g94_1, ↓g94_2, ↓g94_3, ↓g94_7, ↓g94_8, ↓g94_11, ↓g94_12, ↓g94_15, ↓g94_16, ↓g94_18, ↓g94_21, ↓g94_22, ↓g94_25, ↓g94_28, ↓g94_29, ↓mo_20, ↓mf_20_0, ↓mf_20_1, ↓mp_20_2, ↓mf_20_2, ↓mf_20_3, ↓mf_20_4, ↓mf_20_5, ↓mp_20_6, ↓mf_20_6, ↓mf_20_7, ↓mp_20_8, ↓mf_20_8, ↓mf_20_9, ↓mf_20_10, ↓mp_20_11, ↓mf_20_11, ↓mf_20_12, ↓mf_20_13, ↓mp_20_14, ↓mf_20_14, ↓mf_20_15, ↓mp_20_16, ↓mf_20_16, ↓ma_21, ↓ms_21, ↓ma_22, ↓ms_22, ↓ma_23, ↓ms_23, ↓ma_24, ↓ms_24, ↓ma_25, ↓ms_25, ↓ma_26, ↓ms_26, ↓ma_27, ↓ms_27, ↓ma_28, ↓ms_28, ↓ma_29, ↓ms_29, ↓ma_30, ↓ms_30, ↓ma_31, ↓ms_31, ↓bnd_some, ↓cond_true, ↓m_pv_none, ↓m_pv_some, m_b01_0, m_b01_1, true_and, and_true, eq_self, Int32.le_refl, ↓reduceIte, hrd, Bool.false_eq_true]
  | n + 1, k, hn, K, j1 => by
    have hl := hk.2
    have e1 : ¬ nI e ≤ nI k := nI_ge (by omega) (by omega)
    have g1 := fun K => n_red (S := S) (c := c) h hk (p := k) (by omega) K
    rw [g94_5, hrd]
    by_cases hr : red l k = true
    · simp only [if_pos hr] at g1
      simp only [↓g94_0, ↓g94_1, ↓g94_2, ↓g94_3, ↓g94_7, ↓g94_8, ↓g94_11, ↓g94_12, ↓g94_15, ↓g94_16, ↓g94_18, ↓g94_21, ↓g94_22, ↓g94_25, ↓g94_28, ↓g94_29, ↓mo_20, ↓mf_20_0, ↓mf_20_1, ↓mp_20_2, ↓mf_20_2, ↓mf_20_3, ↓mf_20_4, ↓mf_20_5, ↓mp_20_6, ↓mf_20_6, ↓mf_20_7, ↓mp_20_8, ↓mf_20_8, ↓mf_20_9, ↓mf_20_10, ↓mp_20_11, ↓mf_20_11, ↓mf_20_12, ↓mf_20_13, ↓mp_20_14, ↓mf_20_14, ↓mf_20_15, ↓mp_20_16, ↓mf_20_16, ↓ma_21, ↓ms_21, ↓ma_22, ↓ms_22, ↓ma_23, ↓ms_23, ↓ma_24, ↓ms_24, ↓ma_25, ↓ms_25, ↓ma_26, ↓ms_26, ↓ma_27, ↓ms_27, ↓ma_28, ↓ms_28, ↓ma_29, ↓ms_29, ↓ma_30, ↓ms_30, ↓ma_31, ↓ms_31, ↓bnd_some, ↓cond_true, ↓m_pv_none, ↓m_pv_some, m_b01_0, m_b01_1, true_and, and_true, eq_self, e1, ↓reduceIte, ↓g1, nI_1, hr, Bool.true_or]
      rw [g94_5]
      by_cases e2 : nI e ≤ nI (k + 1)
      · simp only [↓g94_0, ↓g94_1, ↓g94_2, ↓g94_3, ↓g94_7, ↓g94_8, ↓g94_11, ↓g94_12, ↓g94_15, ↓g94_16, ↓g94_18, ↓g94_21, ↓g94_22, ↓g94_25, ↓g94_28, ↓g94_29, ↓mo_20, ↓mf_20_0, ↓mf_20_1, ↓mp_20_2, ↓mf_20_2, ↓mf_20_3, ↓mf_20_4, ↓mf_20_5, ↓mp_20_6, ↓mf_20_6, ↓mf_20_7, ↓mp_20_8, ↓mf_20_8, ↓mf_20_9, ↓mf_20_10, ↓mp_20_11, ↓mf_20_11, ↓mf_20_12, ↓mf_20_13, ↓mp_20_14, ↓mf_20_14, ↓mf_20_15, ↓mp_20_16, ↓mf_20_16, ↓ma_21, ↓ms_21, ↓ma_22, ↓ms_22, ↓ma_23, ↓ms_23, ↓ma_24, ↓ms_24, ↓ma_25, ↓ms_25, ↓ma_26, ↓ms_26, ↓ma_27, ↓ms_27, ↓ma_28, ↓ms_28, ↓ma_29, ↓ms_29, ↓ma_30, ↓ms_30, ↓ma_31, ↓ms_31, ↓bnd_some, ↓cond_true, ↓m_pv_none, ↓m_pv_some, m_b01_0, m_b01_1, true_and, and_true, eq_self, e2, ↓reduceIte]
      · simp only [↓g94_0, ↓g94_1, ↓g94_2, ↓g94_3, ↓g94_7, ↓g94_8, ↓g94_11, ↓g94_12, ↓g94_15, ↓g94_16, ↓g94_18, ↓g94_21, ↓g94_22, ↓g94_25, ↓g94_28, ↓g94_29, ↓mo_20, ↓mf_20_0, ↓mf_20_1, ↓mp_20_2, ↓mf_20_2, ↓mf_20_3, ↓mf_20_4, ↓mf_20_5, ↓mp_20_6, ↓mf_20_6, ↓mf_20_7, ↓mp_20_8, ↓mf_20_8, ↓mf_20_9, ↓mf_20_10, ↓mp_20_11, ↓mf_20_11, ↓mf_20_12, ↓mf_20_13, ↓mp_20_14, ↓mf_20_14, ↓mf_20_15, ↓mp_20_16, ↓mf_20_16, ↓ma_21, ↓ms_21, ↓ma_22, ↓ms_22, ↓ma_23, ↓ms_23, ↓ma_24, ↓ms_24, ↓ma_25, ↓ms_25, ↓ma_26, ↓ms_26, ↓ma_27, ↓ms_27, ↓ma_28, ↓ms_28, ↓ma_29, ↓ms_29, ↓ma_30, ↓ms_30, ↓ma_31, ↓ms_31, ↓bnd_some, ↓cond_true, ↓m_pv_none, ↓m_pv_some, m_b01_0, m_b01_1, true_and, and_true, eq_self, e2, ↓reduceIte, i_10]
    · have hf : red l k = false := Bool.eq_false_iff.mpr hr
      simp only [if_neg hr] at g1
      simp only [↓g94_0, ↓g94_1, ↓g94_2, ↓g94_3, ↓g94_7, ↓g94_8, ↓g94_11, ↓g94_12, ↓g94_15, ↓g94_16, ↓g94_18, ↓g94_21, ↓g94_22, ↓g94_25, ↓g94_28, ↓g94_29, ↓mo_20, ↓mf_20_0, ↓mf_20_1, ↓mp_20_2, ↓mf_20_2, ↓mf_20_3, ↓mf_20_4, ↓mf_20_5, ↓mp_20_6, ↓mf_20_6, ↓mf_20_7, ↓mp_20_8, ↓mf_20_8, ↓mf_20_9, ↓mf_20_10, ↓mp_20_11, ↓mf_20_11, ↓mf_20_12, ↓mf_20_13, ↓mp_20_14, ↓mf_20_14, ↓mf_20_15, ↓mp_20_16, ↓mf_20_16, ↓ma_21, ↓ms_21, ↓ma_22, ↓ms_22, ↓ma_23, ↓ms_23, ↓ma_24, ↓ms_24, ↓ma_25, ↓ms_25, ↓ma_26, ↓ms_26, ↓ma_27, ↓ms_27, ↓ma_28, ↓ms_28, ↓ma_29, ↓ms_29, ↓ma_30, ↓ms_30, ↓ma_31, ↓ms_31, ↓bnd_some, ↓cond_true, ↓m_pv_none, ↓m_pv_some, m_b01_0, m_b01_1, true_and, and_true, eq_self, e1, ↓reduceIte, ↓g1, nI_1, hf, Bool.false_or]
      exact n_hasL h hk he n (k + 1) (by omega) K j1
theorem inn_hrd {p : Nat} (hp : p < en l p) : (inn l p = true) ↔ (red l p = true ∧ hrd l (en l p - (p + 1)) (p + 1) = false) := by
  unfold inn
  rw [decide_eq_true_iff, hrd_all]
  refine and_congr_right fun _ => ?_
  constructor
  · intro h j hj
    exact h _ (by omega) (by omega)
  · intro h j h1 h2
    have := h (j - (p + 1)) (by omega)
    rw [show p + 1 + (j - (p + 1)) = j by omega] at this
    exact this
theorem n_come (h : RW d l) (hv : DV d l) (hk : Tok l) {p o : Nat} (hp : p < l.length) (ho : o < 3) (K : Option Value → mM → Prop) : go S 95 0 [.ref 20, .int (nI p), .int (nI o)] [] (mk c (md d)) K = K (some (.int (if cnd l o p = true then 1 else 0))) (mk c (md d)) := by
  have hl := hk.2
  have g1 := fun K => n_red (S := S) (c := c) h hk (p := p) hp K
  have g2 := fun K => n_end (S := S) (c := c) h hk (p := p) hp K
  have hen := en_le (l := l) (p := p) (by omega)
  have hep := en_lt hp
  have g3 := fun K => n_hasL (S := S) (c := c) h hk hen (en l p - (p + 1)) (p + 1) (by omega) K (.int (nI (p + 1)))
  have f0 : (nI o = 0) ↔ o = 0 := nI_eq (b := 0) (by omega) (by decide)
  have f1 : (nI o = 1) ↔ o = 1 := nI_eq (b := 1) (by omega) (by decide)
  have f2 : (nI o = 2) ↔ o = 2 := nI_eq (b := 2) (by omega) (by decide)
  have i1 := ib (show p < 200 by omega)
  have i2 := nI_clamp (show p < 2 ^ 31 by omega)
  have hd := dep_lt hk.1 hp hl
  have fd : (nI (dep l p) = 0) ↔ dep l p = 0 := nI_eq (b := 0) (by omega) (by decide)
  by_cases hr : red l p = true
  · simp only [if_pos hr] at g1
    by_cases o0 : o = 0
    · have e : cnd l o p = true := by subst o0; rw [cnd_0]; exact hr
      rw [if_pos e]
      simp only [↓g95_0, ↓g95_1, ↓g95_2, ↓g95_5, ↓g95_8, ↓g95_9, ↓g95_12, ↓g95_13, ↓g95_14, ↓g95_17, ↓g95_18, ↓g95_21, ↓g95_22, ↓g95_23, ↓g95_26, ↓g95_27, ↓g95_28, ↓g95_31, ↓g95_32, ↓g95_33, ↓g95_34, ↓g95_35, ↓g95_36, ↓g95_37, ↓g95_40, ↓g95_43, ↓g95_46, ↓g95_47, ↓g95_50, ↓g95_51, ↓mo_20, ↓mf_20_0, ↓mf_20_1, ↓mp_20_2, ↓mf_20_2, ↓mf_20_3, ↓mf_20_4, ↓mf_20_5, ↓mp_20_6, ↓mf_20_6, ↓mf_20_7, ↓mp_20_8, ↓mf_20_8, ↓mf_20_9, ↓mf_20_10, ↓mp_20_11, ↓mf_20_11, ↓mf_20_12, ↓mf_20_13, ↓mp_20_14, ↓mf_20_14, ↓mf_20_15, ↓mp_20_16, ↓mf_20_16, ↓ma_21, ↓ms_21, ↓ma_22, ↓ms_22, ↓ma_23, ↓ms_23, ↓ma_24, ↓ms_24, ↓ma_25, ↓ms_25, ↓ma_26, ↓ms_26, ↓ma_27, ↓ms_27, ↓ma_28, ↓ms_28, ↓ma_29, ↓ms_29, ↓ma_30, ↓ms_30, ↓ma_31, ↓ms_31, ↓bnd_some, ↓cond_true, ↓m_pv_none, ↓m_pv_some, m_b01_0, m_b01_1, true_and, and_true, eq_self, ↓g1, i_10, f0.mpr o0, ↓reduceIte]
    · by_cases o2 : o = 2
      · subst o2
        rw [cnd_2, hr, Bool.true_and]
        by_cases hz : dep l p = 0
        · simp only [↓g95_0, ↓g95_1, ↓g95_2, ↓g95_5, ↓g95_8, ↓g95_9, ↓g95_12, ↓g95_13, ↓g95_14, ↓g95_17, ↓g95_18, ↓g95_21, ↓g95_22, ↓g95_23, ↓g95_26, ↓g95_27, ↓g95_28, ↓g95_31, ↓g95_32, ↓g95_33, ↓g95_34, ↓g95_35, ↓g95_36, ↓g95_37, ↓g95_40, ↓g95_43, ↓g95_46, ↓g95_47, ↓g95_50, ↓g95_51, ↓mo_20, ↓mf_20_0, ↓mf_20_1, ↓mp_20_2, ↓mf_20_2, ↓mf_20_3, ↓mf_20_4, ↓mf_20_5, ↓mp_20_6, ↓mf_20_6, ↓mf_20_7, ↓mp_20_8, ↓mf_20_8, ↓mf_20_9, ↓mf_20_10, ↓mp_20_11, ↓mf_20_11, ↓mf_20_12, ↓mf_20_13, ↓mp_20_14, ↓mf_20_14, ↓mf_20_15, ↓mp_20_16, ↓mf_20_16, ↓ma_21, ↓ms_21, ↓ma_22, ↓ms_22, ↓ma_23, ↓ms_23, ↓ma_24, ↓ms_24, ↓ma_25, ↓ms_25, ↓ma_26, ↓ms_26, ↓ma_27, ↓ms_27, ↓ma_28, ↓ms_28, ↓ma_29, ↓ms_29, ↓ma_30, ↓ms_30, ↓ma_31, ↓ms_31, ↓bnd_some, ↓cond_true, ↓m_pv_none, ↓m_pv_some, m_b01_0, m_b01_1, true_and, and_true, eq_self, ↓g1, i_10, f0, f1, f2, ↓reduceIte, i1, i2, hv p hp, fd, hz, decide_true, show (2 = 0) = False from eq_false (by decide), show (2 = 1) = False from eq_false (by decide), show nI 0 = 0 from rfl]
        · simp only [↓g95_0, ↓g95_1, ↓g95_2, ↓g95_5, ↓g95_8, ↓g95_9, ↓g95_12, ↓g95_13, ↓g95_14, ↓g95_17, ↓g95_18, ↓g95_21, ↓g95_22, ↓g95_23, ↓g95_26, ↓g95_27, ↓g95_28, ↓g95_31, ↓g95_32, ↓g95_33, ↓g95_34, ↓g95_35, ↓g95_36, ↓g95_37, ↓g95_40, ↓g95_43, ↓g95_46, ↓g95_47, ↓g95_50, ↓g95_51, ↓mo_20, ↓mf_20_0, ↓mf_20_1, ↓mp_20_2, ↓mf_20_2, ↓mf_20_3, ↓mf_20_4, ↓mf_20_5, ↓mp_20_6, ↓mf_20_6, ↓mf_20_7, ↓mp_20_8, ↓mf_20_8, ↓mf_20_9, ↓mf_20_10, ↓mp_20_11, ↓mf_20_11, ↓mf_20_12, ↓mf_20_13, ↓mp_20_14, ↓mf_20_14, ↓mf_20_15, ↓mp_20_16, ↓mf_20_16, ↓ma_21, ↓ms_21, ↓ma_22, ↓ms_22, ↓ma_23, ↓ms_23, ↓ma_24, ↓ms_24, ↓ma_25, ↓ms_25, ↓ma_26, ↓ms_26, ↓ma_27, ↓ms_27, ↓ma_28, ↓ms_28, ↓ma_29, ↓ms_29, ↓ma_30, ↓ms_30, ↓ma_31, ↓ms_31, ↓bnd_some, ↓cond_true, ↓m_pv_none, ↓m_pv_some, m_b01_0, m_b01_1, true_and, and_true, eq_self, ↓g1, i_10, f0, f1, f2, ↓reduceIte, i1, i2, hv p hp, fd, hz, decide_false, Bool.false_eq_true, show (2 = 0) = False from eq_false (by decide), show (2 = 1) = False from eq_false (by decide)]
      · have o1 : o = 1 := by omega
        subst o1
        rw [cnd_1]
        have hi := inn_hrd hep
        by_cases hz : hrd l (en l p - (p + 1)) (p + 1) = true
        · have e : ¬ inn l p = true := fun z => by rw [(hi.mp z).2] at hz; cases hz
          simp only [if_pos hz] at g3
          rw [if_neg e]
          simp only [↓g95_0, ↓g95_1, ↓g95_2, ↓g95_5, ↓g95_8, ↓g95_9, ↓g95_12, ↓g95_13, ↓g95_14, ↓g95_17, ↓g95_18, ↓g95_21, ↓g95_22, ↓g95_23, ↓g95_26, ↓g95_27, ↓g95_28, ↓g95_31, ↓g95_32, ↓g95_33, ↓g95_34, ↓g95_35, ↓g95_36, ↓g95_37, ↓g95_40, ↓g95_43, ↓g95_46, ↓g95_47, ↓g95_50, ↓g95_51, ↓g94_0, ↓g94_1, ↓g94_2, ↓g94_3, ↓g94_7, ↓g94_8, ↓g94_11, ↓g94_12, ↓g94_15, ↓g94_16, ↓g94_18, ↓g94_21, ↓g94_22, ↓g94_25, ↓g94_28, ↓g94_29, ↓mo_20, ↓mf_20_0, ↓mf_20_1, ↓mp_20_2, ↓mf_20_2, ↓mf_20_3, ↓mf_20_4, ↓mf_20_5, ↓mp_20_6, ↓mf_20_6, ↓mf_20_7, ↓mp_20_8, ↓mf_20_8, ↓mf_20_9, ↓mf_20_10, ↓mp_20_11, ↓mf_20_11, ↓mf_20_12, ↓mf_20_13, ↓mp_20_14, ↓mf_20_14, ↓mf_20_15, ↓mp_20_16, ↓mf_20_16, ↓ma_21, ↓ms_21, ↓ma_22, ↓ms_22, ↓ma_23, ↓ms_23, ↓ma_24, ↓ms_24, ↓ma_25, ↓ms_25, ↓ma_26, ↓ms_26, ↓ma_27, ↓ms_27, ↓ma_28, ↓ms_28, ↓ma_29, ↓ms_29, ↓ma_30, ↓ms_30, ↓ma_31, ↓ms_31, ↓bnd_some, ↓cond_true, ↓m_pv_none, ↓m_pv_some, m_b01_0, m_b01_1, true_and, and_true, eq_self, ↓g1, ↓g2, ↓g3, i_10, f0, f1, f2, ↓reduceIte, nI_1, show (1 = 0) = False from eq_false (by decide), show (1 = 2) = False from eq_false (by decide)]
        · have e : inn l p = true := hi.mpr ⟨hr, Bool.eq_false_iff.mpr hz⟩
          simp only [if_neg hz] at g3
          simp only [↓g95_0, ↓g95_1, ↓g95_2, ↓g95_5, ↓g95_8, ↓g95_9, ↓g95_12, ↓g95_13, ↓g95_14, ↓g95_17, ↓g95_18, ↓g95_21, ↓g95_22, ↓g95_23, ↓g95_26, ↓g95_27, ↓g95_28, ↓g95_31, ↓g95_32, ↓g95_33, ↓g95_34, ↓g95_35, ↓g95_36, ↓g95_37, ↓g95_40, ↓g95_43, ↓g95_46, ↓g95_47, ↓g95_50, ↓g95_51, ↓g94_0, ↓g94_1, ↓g94_2, ↓g94_3, ↓g94_7, ↓g94_8, ↓g94_11, ↓g94_12, ↓g94_15, ↓g94_16, ↓g94_18, ↓g94_21, ↓g94_22, ↓g94_25, ↓g94_28, ↓g94_29, ↓mo_20, ↓mf_20_0, ↓mf_20_1, ↓mp_20_2, ↓mf_20_2, ↓mf_20_3, ↓mf_20_4, ↓mf_20_5, ↓mp_20_6, ↓mf_20_6, ↓mf_20_7, ↓mp_20_8, ↓mf_20_8, ↓mf_20_9, ↓mf_20_10, ↓mp_20_11, ↓mf_20_11, ↓mf_20_12, ↓mf_20_13, ↓mp_20_14, ↓mf_20_14, ↓mf_20_15, ↓mp_20_16, ↓mf_20_16, ↓ma_21, ↓ms_21, ↓ma_22, ↓ms_22, ↓ma_23, ↓ms_23, ↓ma_24, ↓ms_24, ↓ma_25, ↓ms_25, ↓ma_26, ↓ms_26, ↓ma_27, ↓ms_27, ↓ma_28, ↓ms_28, ↓ma_29, ↓ms_29, ↓ma_30, ↓ms_30, ↓ma_31, ↓ms_31, ↓bnd_some, ↓cond_true, ↓m_pv_none, ↓m_pv_some, m_b01_0, m_b01_1, true_and, and_true, eq_self, ↓g1, ↓g2, ↓g3, i_10, f0, f1, f2, ↓reduceIte, nI_1, e, show (1 = 0) = False from eq_false (by decide), show (1 = 2) = False from eq_false (by decide)]
  · have e : ¬ cnd l o p = true := fun z => hr (cnd_red z)
    simp only [if_neg hr] at g1
    rw [if_neg e]
    simp only [↓g95_0, ↓g95_1, ↓g95_2, ↓g95_5, ↓g95_8, ↓g95_9, ↓g95_12, ↓g95_13, ↓g95_14, ↓g95_17, ↓g95_18, ↓g95_21, ↓g95_22, ↓g95_23, ↓g95_26, ↓g95_27, ↓g95_28, ↓g95_31, ↓g95_32, ↓g95_33, ↓g95_34, ↓g95_35, ↓g95_36, ↓g95_37, ↓g95_40, ↓g95_43, ↓g95_46, ↓g95_47, ↓g95_50, ↓g95_51, ↓mo_20, ↓mf_20_0, ↓mf_20_1, ↓mp_20_2, ↓mf_20_2, ↓mf_20_3, ↓mf_20_4, ↓mf_20_5, ↓mp_20_6, ↓mf_20_6, ↓mf_20_7, ↓mp_20_8, ↓mf_20_8, ↓mf_20_9, ↓mf_20_10, ↓mp_20_11, ↓mf_20_11, ↓mf_20_12, ↓mf_20_13, ↓mp_20_14, ↓mf_20_14, ↓mf_20_15, ↓mp_20_16, ↓mf_20_16, ↓ma_21, ↓ms_21, ↓ma_22, ↓ms_22, ↓ma_23, ↓ms_23, ↓ma_24, ↓ms_24, ↓ma_25, ↓ms_25, ↓ma_26, ↓ms_26, ↓ma_27, ↓ms_27, ↓ma_28, ↓ms_28, ↓ma_29, ↓ms_29, ↓ma_30, ↓ms_30, ↓ma_31, ↓ms_31, ↓bnd_some, ↓cond_true, ↓m_pv_none, ↓m_pv_some, m_b01_0, m_b01_1, true_and, and_true, eq_self, ↓g1, ↓reduceIte]
theorem n_nextL (h : RW d l) (hv : DV d l) (hk : Tok l) {o : Nat} (ho : o < 3) : ∀ (n k : Nat), n + k = l.length → (∀ j, j < k → cnd l o j = false) → ∀ (K : Option Value → mM → Prop), go S 96 2 [.ref 20, .int (nI o), .int (nI k)] [] (mk c (md d)) K = K (some (.int (nbI (nxt l o)))) (mk c (md d))
  | 0, k, hn, hq, K => by
    have e : k = l.length := by omega
    subst e
    have e2 : nxt l o = none := fst_none hq
    rw [g96_2]
    simp only [↓g96_0, ↓g96_1, ↓g96_3, ↓g96_4, ↓g96_7, ↓g96_10, ↓g96_11, ↓g96_12, ↓g96_13, ↓g96_16, ↓g96_19, ↓g96_20, ↓g96_21, ↓g96_24, ↓g96_27, ↓g96_29, ↓mo_20, ↓mf_20_0, ↓mf_20_1, ↓mp_20_2, ↓mf_20_2, ↓mf_20_3, ↓mf_20_4, ↓mf_20_5, ↓mp_20_6, ↓mf_20_6, ↓mf_20_7, ↓mp_20_8, ↓mf_20_8, ↓mf_20_9, ↓mf_20_10, ↓mp_20_11, ↓mf_20_11, ↓mf_20_12, ↓mf_20_13, ↓mp_20_14, ↓mf_20_14, ↓mf_20_15, ↓mp_20_16, ↓mf_20_16, ↓ma_21, ↓ms_21, ↓ma_22, ↓ms_22, ↓ma_23, ↓ms_23, ↓ma_24, ↓ms_24, ↓ma_25, ↓ms_25, ↓ma_26, ↓ms_26, ↓ma_27, ↓ms_27, ↓ma_28, ↓ms_28, ↓ma_29, ↓ms_29, ↓ma_30, ↓ms_30, ↓ma_31, ↓ms_31, ↓bnd_some, ↓cond_true, ↓m_pv_none, ↓m_pv_some, m_b01_0, m_b01_1, true_and, and_true, eq_self, h.1, Int32.le_refl, ↓reduceIte, e2]
    rfl
  | n + 1, k, hn, hq, K => by
    have hl := hk.2
    have e1 : ¬ nI l.length ≤ nI k := nI_ge (by omega) (by omega)
    have g1 := fun K => n_come (S := S) (c := c) h hv hk (p := k) (by omega) ho K
    rw [g96_2]
    by_cases hc : cnd l o k = true
    · have e2 : nxt l o = some k := fst_some hc hq (by omega)
      simp only [if_pos hc] at g1
      simp only [↓g96_0, ↓g96_1, ↓g96_3, ↓g96_4, ↓g96_7, ↓g96_10, ↓g96_11, ↓g96_12, ↓g96_13, ↓g96_16, ↓g96_19, ↓g96_20, ↓g96_21, ↓g96_24, ↓g96_27, ↓g96_29, ↓mo_20, ↓mf_20_0, ↓mf_20_1, ↓mp_20_2, ↓mf_20_2, ↓mf_20_3, ↓mf_20_4, ↓mf_20_5, ↓mp_20_6, ↓mf_20_6, ↓mf_20_7, ↓mp_20_8, ↓mf_20_8, ↓mf_20_9, ↓mf_20_10, ↓mp_20_11, ↓mf_20_11, ↓mf_20_12, ↓mf_20_13, ↓mp_20_14, ↓mf_20_14, ↓mf_20_15, ↓mp_20_16, ↓mf_20_16, ↓ma_21, ↓ms_21, ↓ma_22, ↓ms_22, ↓ma_23, ↓ms_23, ↓ma_24, ↓ms_24, ↓ma_25, ↓ms_25, ↓ma_26, ↓ms_26, ↓ma_27, ↓ms_27, ↓ma_28, ↓ms_28, ↓ma_29, ↓ms_29, ↓ma_30, ↓ms_30, ↓ma_31, ↓ms_31, ↓bnd_some, ↓cond_true, ↓m_pv_none, ↓m_pv_some, m_b01_0, m_b01_1, true_and, and_true, eq_self, h.1, e1, ↓reduceIte, ↓g1, i_10, e2]
      rfl
    · simp only [if_neg hc] at g1
      simp only [↓g96_0, ↓g96_1, ↓g96_3, ↓g96_4, ↓g96_7, ↓g96_10, ↓g96_11, ↓g96_12, ↓g96_13, ↓g96_16, ↓g96_19, ↓g96_20, ↓g96_21, ↓g96_24, ↓g96_27, ↓g96_29, ↓mo_20, ↓mf_20_0, ↓mf_20_1, ↓mp_20_2, ↓mf_20_2, ↓mf_20_3, ↓mf_20_4, ↓mf_20_5, ↓mp_20_6, ↓mf_20_6, ↓mf_20_7, ↓mp_20_8, ↓mf_20_8, ↓mf_20_9, ↓mf_20_10, ↓mp_20_11, ↓mf_20_11, ↓mf_20_12, ↓mf_20_13, ↓mp_20_14, ↓mf_20_14, ↓mf_20_15, ↓mp_20_16, ↓mf_20_16, ↓ma_21, ↓ms_21, ↓ma_22, ↓ms_22, ↓ma_23, ↓ms_23, ↓ma_24, ↓ms_24, ↓ma_25, ↓ms_25, ↓ma_26, ↓ms_26, ↓ma_27, ↓ms_27, ↓ma_28, ↓ms_28, ↓ma_29, ↓ms_29, ↓ma_30, ↓ms_30, ↓ma_31, ↓ms_31, ↓bnd_some, ↓cond_true, ↓m_pv_none, ↓m_pv_some, m_b01_0, m_b01_1, true_and, and_true, eq_self, h.1, e1, ↓reduceIte, ↓g1, nI_1]
      exact n_nextL h hv hk ho n (k + 1) (by omega) (fun j hj => by
        by_cases e : j = k
        · subst e; exact Bool.eq_false_iff.mpr hc
        · exact hq j (by omega)) K
theorem n_next (h : RW d l) (hv : DV d l) (hk : Tok l) {o : Nat} (ho : o < 3) (K : Option Value → mM → Prop) {x : Int32} (hx : x = nI o := by rfl) : go S 96 0 [.ref 20, .int x, .null] [] (mk c (md d)) K = K (some (.int (nbI (nxt l o)))) (mk c (md d)) := by
  subst hx
  have g := n_nextL (S := S) (c := c) h hv hk ho l.length 0 rfl (fun j hj => absurd hj (Nat.not_lt_zero j)) K
  simp only [↓g96_0, ↓g96_1, ↓g96_3, ↓g96_4, ↓g96_7, ↓g96_10, ↓g96_11, ↓g96_12, ↓g96_13, ↓g96_16, ↓g96_19, ↓g96_20, ↓g96_21, ↓g96_24, ↓g96_27, ↓g96_29]
  exact g
end MOD3
