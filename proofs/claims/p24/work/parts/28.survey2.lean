/-! Survey: questions -/
def red (l : Tm) (p : Nat) : Bool := decide (kd l p = 3 ∧ kd l (p + 1) = 2)
def inn (l : Tm) (p : Nat) : Bool := decide (red l p = true ∧ ∀ j, j < en l p → p < j → red l j = false)
/-- the first of the places before n with q -/
def fst (q : Nat → Bool) : Nat → Option Nat
  | 0 => none
  | n + 1 => match fst q n with
    | some x => some x
    | none => if q n = true then some n else none
theorem fst_none {q : Nat → Bool} : ∀ {n : Nat}, (∀ j, j < n → q j = false) → fst q n = none
  | 0, _ => rfl
  | n + 1, h => by
    unfold fst
    rw [fst_none fun j hj => h j (by omega)]
    simp [h n (by omega)]
theorem fst_some {q : Nat → Bool} {x : Nat} (hq : q x = true) (hb : ∀ j, j < x → q j = false) : ∀ {n : Nat}, x < n → fst q n = some x
  | 0, h => absurd h (Nat.not_lt_zero x)
  | n + 1, h => by
    unfold fst
    by_cases e : x = n
    · subst e
      rw [fst_none hb]
      simp [hq]
    · rw [fst_some hq hb (by omega)]
theorem fst_lt {q : Nat → Bool} : ∀ {n x : Nat}, fst q n = some x → x < n ∧ q x = true ∧ ∀ j, j < x → q j = false
  | 0, x, h => by cases h
  | n + 1, x, h => by
    unfold fst at h
    cases hf : fst q n with
    | some y =>
      rw [hf] at h
      cases h
      obtain ⟨h1, h2, h3⟩ := fst_lt hf
      exact ⟨by omega, h2, h3⟩
    | none =>
      rw [hf] at h
      simp only at h
      by_cases hq : q n = true
      · rw [if_pos hq] at h
        cases h
        refine ⟨by omega, hq, fun j hj => ?_⟩
        cases hqj : q j with
        | false => rfl
        | true =>
          exfalso
          have : ∀ m, j < m → fst q m ≠ none := by
            intro m
            induction m with
            | zero => intro z; omega
            | succ m ih =>
              intro z
              unfold fst
              cases hm : fst q m with
              | some y => simp
              | none =>
                by_cases ejm : j = m
                · subst ejm
                  simp [hqj]
                · exact absurd hm (ih (by omega))
          exact this n hj hf
      · rw [if_neg hq] at h
        cases h
def cnd (l : Tm) (o : Nat) (p : Nat) : Bool := if o = 1 then inn l p else red l p && (decide (o = 0) || decide (dep l p = 0))
/-- the place that comes next by an order -/
def nxt (l : Tm) (o : Nat) : Option Nat := fst (cnd l o) l.length
def mxd (f : Nat → Nat) : Nat → Nat
  | 0 => 0
  | n + 1 => if mxd f n < f n then f n else mxd f n
theorem mxd_le (f : Nat → Nat) (b : Nat) : ∀ n, (∀ k, k < n → f k ≤ b) → mxd f n ≤ b
  | 0, _ => Nat.zero_le _
  | n + 1, h => by
    have h1 := mxd_le f b n (fun k hk => h k (by omega))
    have h2 := h n (by omega)
    unfold mxd
    split <;> omega
/-- the L of those around a place, from the inside out -/
def bch (l : Tm) (p : Nat) : Nat → Option Nat
  | 0 => nb l p
  | i + 1 => (bch l p i).bind (nb l)
theorem bch_at {l : Tm} (h : WF l) {p : Nat} (hp : p < l.length) : ∀ i, i < dep l p → ∃ x, bch l p i = some x ∧ x < p ∧ kd l x = 2 ∧ dep l x + i + 1 = dep l p
  | 0, hi => by
    rcases nb_dep h p p (Nat.le_refl _) hp with ⟨-, h1⟩ | ⟨x, h1, h2, h3, h4⟩
    · omega
    · exact ⟨x, h1, h2, h3, by omega⟩
  | i + 1, hi => by
    obtain ⟨x, h1, h2, h3, h4⟩ := bch_at h hp i (by omega)
    rcases nb_dep h x x (Nat.le_refl _) (by omega) with ⟨-, h5⟩ | ⟨y, h5, h6, h7, h8⟩
    · omega
    · exact ⟨y, by unfold bch; rw [h1]; exact h5, by omega, h7, by omega⟩
/-- the characters of a part of a term with names -/
def tch (l : Tm) (p : Nat) : List Int32 := if kd l p = 0 then [nI (103 + (dep l p - 1 - nu l p) % 20)] else if kd l p = 1 then [nI (97 + nu l p)] else if kd l p = 2 then [76, nI (103 + dep l p % 20)] else [64]
def txt (l : Tm) : Nat → List Int32
  | 0 => []
  | n + 1 => txt l n ++ tch l n
theorem tch_len (l : Tm) (p : Nat) : (tch l p).length ≤ 2 := by
  unfold tch
  split
  · simp
  · split
    · simp
    · split <;> simp
theorem txt_len (l : Tm) : ∀ n, (txt l n).length ≤ 2 * n
  | 0 => Nat.le_refl _
  | n + 1 => by
    have h1 := txt_len l n
    have h2 := tch_len l n
    unfold txt
    rw [List.length_append]
    omega
/-- the character at a place, as named() answers -/
def chr (l : List Int32) (i : Int32) : Int32 := if 0 ≤ i ∧ i < nI l.length then l.getD i.toNatClampNeg 0 else -1
theorem chr_at {l : List Int32} {i : Nat} (h : i < l.length) (hl : l.length < 2 ^ 31) : chr l (nI i) = l.getD i 0 := by
  unfold chr
  rw [if_pos ⟨nI_pos' (by omega), nI_lt h hl⟩, nI_clamp (by omega)]
theorem chr_out {l : List Int32} {i : Int32} (h : ∀ j, j < l.length → i ≠ nI j) (hl : l.length < 2 ^ 31) : chr l i = -1 := by
  unfold chr
  refine if_neg fun z => ?_
  obtain ⟨j, hj, e⟩ := nI_of (Int32.not_lt.mpr z.1)
  subst e
  exact h j ((nI_ltI (by omega) hl).mp z.2) rfl
section SURV3
variable {S : mS} {t : mM} {T : Nat → Tm} {v : Nat} {c : Nat → Nat → Int32}
theorem SV.len {l : Tm} (h : SV c v l) : c 6 5 = nI l.length := h.2.2.1
theorem u_red (h : CS c T) (hw : WF (T v)) (hs : SV c v (T v)) {p : Nat} (hp : p < (T v).length) (K : Option Value → mM → Prop) {x : Int32} (hx : x = nI p := by rfl) : go S 45 0 [.ref 6, .int x] [] (mk c t) K = K (some (.int (if red (T v) p = true then 1 else 0))) (mk c t) := by
  subst hx
  have g1 := q_kind (S := S) (t := t) h hs.1 hp
  rw [← hs.2.1] at g1
  have hkd := hw.kd hp
  have e4 : (nI (kd (T v) p) = 3) ↔ kd (T v) p = 3 := nI_eq (b := 3) (by omega) (by omega)
  have hl1 := (h v hs.1).1
  by_cases hk3 : kd (T v) p = 3
  · have hc := child_3 hw hp hk3
    have hkc := hw.kd hc
    have g2 := q_kind (S := S) (t := t) h hs.1 hc
    rw [← hs.2.1, ← nI_1] at g2
    have e5 : (nI (kd (T v) (p + 1)) = 2) ↔ kd (T v) (p + 1) = 2 := nI_eq (b := 2) (by omega) (by omega)
    simp only [↓g45_0, ↓g45_1, ↓g45_4, ↓g45_5, ↓g45_8, ↓g45_9, ↓g45_12, ↓g45_13, ↓g45_16, ↓g45_17, ↓g45_20, ↓g45_21, ↓g45_24, ↓g45_25, ↓g45_26, ↓g45_27, ↓g45_30, ↓g45_31, ↓g45_34, ↓g45_35, ↓g45_38, ↓g45_39, ↓mo_0, ↓mf_0_0, ↓mf_0_1, ↓mf_0_2, ↓mf_0_3, ↓mf_0_4, ↓mo_1, ↓mf_1_0, ↓mf_1_1, ↓mo_2, ↓mf_2_0, ↓mo_4, ↓mf_4_0, ↓mo_6, ↓mf_6_0, ↓mf_6_1, ↓mf_6_2, ↓mf_6_3, ↓mp_6_4, ↓mf_6_4, ↓mp_6_5, ↓mf_6_5, ↓mo_7, ↓mf_7_0, ↓mo_9, ↓mf_9_0, ↓mo_11, ↓mf_11_0, ↓mo_13, ↓mf_13_0, ↓mf_13_1, ↓mp_13_2, ↓mf_13_2, ↓mp_13_3, ↓mf_13_3, ↓mo_14, ↓mf_14_0, ↓mp_14_1, ↓mf_14_1, ↓mp_14_2, ↓mf_14_2, ↓mo_15, ↓mf_15_0, ↓mf_15_1, ↓mp_15_2, ↓mf_15_2, ↓mo_16, ↓mf_16_0, ↓mo_18, ↓mf_18_0, ↓ma_3, ↓ms_3, ↓ma_5, ↓ms_5, ↓ma_8, ↓ms_8, ↓ma_10, ↓ms_10, ↓ma_12, ↓ms_12, ↓ma_17, ↓ms_17, ↓ma_19, ↓ms_19, ↓bnd_some, ↓cond_true, ↓m_pv_none, ↓m_pv_some, m_b01_0, m_b01_1, true_and, and_true, ↓g1, ↓g2, e4, e5]
    rw [if_pos hk3]
    by_cases hk2 : kd (T v) (p + 1) = 2
    · have hr : red (T v) p = true := by simp [red, hk2, hk3]
      rw [if_pos hk2, if_pos hr]
    · have hr : ¬ red (T v) p = true := by simp [red, hk2]
      rw [if_neg hk2, if_neg hr]
  · simp only [↓g45_0, ↓g45_1, ↓g45_4, ↓g45_5, ↓g45_8, ↓g45_9, ↓g45_12, ↓g45_13, ↓g45_16, ↓g45_17, ↓g45_20, ↓g45_21, ↓g45_24, ↓g45_25, ↓g45_26, ↓g45_27, ↓g45_30, ↓g45_31, ↓g45_34, ↓g45_35, ↓g45_38, ↓g45_39, ↓mo_0, ↓mf_0_0, ↓mf_0_1, ↓mf_0_2, ↓mf_0_3, ↓mf_0_4, ↓mo_1, ↓mf_1_0, ↓mf_1_1, ↓mo_2, ↓mf_2_0, ↓mo_4, ↓mf_4_0, ↓mo_6, ↓mf_6_0, ↓mf_6_1, ↓mf_6_2, ↓mf_6_3, ↓mp_6_4, ↓mf_6_4, ↓mp_6_5, ↓mf_6_5, ↓mo_7, ↓mf_7_0, ↓mo_9, ↓mf_9_0, ↓mo_11, ↓mf_11_0, ↓mo_13, ↓mf_13_0, ↓mf_13_1, ↓mp_13_2, ↓mf_13_2, ↓mp_13_3, ↓mf_13_3, ↓mo_14, ↓mf_14_0, ↓mp_14_1, ↓mf_14_1, ↓mp_14_2, ↓mf_14_2, ↓mo_15, ↓mf_15_0, ↓mf_15_1, ↓mp_15_2, ↓mf_15_2, ↓mo_16, ↓mf_16_0, ↓mo_18, ↓mf_18_0, ↓ma_3, ↓ms_3, ↓ma_5, ↓ms_5, ↓ma_8, ↓ms_8, ↓ma_10, ↓ms_10, ↓ma_12, ↓ms_12, ↓ma_17, ↓ms_17, ↓ma_19, ↓ms_19, ↓bnd_some, ↓cond_true, ↓m_pv_none, ↓m_pv_some, m_b01_0, m_b01_1, true_and, and_true, ↓g1, e4]
    have hr : ¬ red (T v) p = true := by simp [red, hk3]
    rw [if_neg hk3, if_neg hr]
theorem u_mostL (hs : SV c v (T v)) (hl : (T v).length ≤ 200) (hw : WF (T v)) : ∀ (n k : Nat), n + k = (T v).length → ∀ (K : Option Value → mM → Prop), go S 38 4 [.ref 6, .int (nI (mxd (dep (T v)) k)), .int (nI k)] [] (mk c t) K = K (some (.int (nI (mxd (dep (T v)) (T v).length)))) (mk c t)
  | 0, k, hk, K => by
    have e : k = (T v).length := by omega
    subst e
    rw [g38_4]
    simp only [↓g38_0, ↓g38_1, ↓g38_2, ↓g38_3, ↓g38_5, ↓g38_6, ↓g38_9, ↓g38_12, ↓g38_13, ↓g38_14, ↓g38_15, ↓g38_18, ↓g38_21, ↓g38_22, ↓g38_25, ↓g38_28, ↓g38_29, ↓mo_0, ↓mf_0_0, ↓mf_0_1, ↓mf_0_2, ↓mf_0_3, ↓mf_0_4, ↓mo_1, ↓mf_1_0, ↓mf_1_1, ↓mo_2, ↓mf_2_0, ↓mo_4, ↓mf_4_0, ↓mo_6, ↓mf_6_0, ↓mf_6_1, ↓mf_6_2, ↓mf_6_3, ↓mp_6_4, ↓mf_6_4, ↓mp_6_5, ↓mf_6_5, ↓mo_7, ↓mf_7_0, ↓mo_9, ↓mf_9_0, ↓mo_11, ↓mf_11_0, ↓mo_13, ↓mf_13_0, ↓mf_13_1, ↓mp_13_2, ↓mf_13_2, ↓mp_13_3, ↓mf_13_3, ↓mo_14, ↓mf_14_0, ↓mp_14_1, ↓mf_14_1, ↓mp_14_2, ↓mf_14_2, ↓mo_15, ↓mf_15_0, ↓mf_15_1, ↓mp_15_2, ↓mf_15_2, ↓mo_16, ↓mf_16_0, ↓mo_18, ↓mf_18_0, ↓ma_3, ↓ms_3, ↓ma_5, ↓ms_5, ↓ma_8, ↓ms_8, ↓ma_10, ↓ms_10, ↓ma_12, ↓ms_12, ↓ma_17, ↓ms_17, ↓ma_19, ↓ms_19, ↓bnd_some, ↓cond_true, ↓m_pv_none, ↓m_pv_some, m_b01_0, m_b01_1, true_and, and_true, hs.len, Int32.le_refl, if_true]
  | n + 1, k, hk, K => by
    have hkl : k < (T v).length := by omega
    have e1 : ¬ nI (T v).length ≤ nI k := nI_ge (by omega) (by omega)
    have hd := dep_lt hw hkl hl
    have hm := mxd_le (dep (T v)) 200 k (fun j hj => by have := dep_lt hw (show j < (T v).length by omega) hl; omega)
    have e2 : (if nI (mxd (dep (T v)) k) < nI (dep (T v) k) then nI (dep (T v) k) else nI (mxd (dep (T v)) k)) = nI (mxd (dep (T v)) (k + 1)) := by
      have e3 := nI_ltI (a := mxd (dep (T v)) k) (b := dep (T v) k) (by omega) (by omega)
      conv => rhs; unfold mxd
      by_cases hh : mxd (dep (T v)) k < dep (T v) k
      · rw [if_pos (e3.mpr hh), if_pos hh]
      · rw [if_neg (fun z => hh (e3.mp z)), if_neg hh]
    rw [g38_4]
    simp only [↓g38_0, ↓g38_1, ↓g38_2, ↓g38_3, ↓g38_5, ↓g38_6, ↓g38_9, ↓g38_12, ↓g38_13, ↓g38_14, ↓g38_15, ↓g38_18, ↓g38_21, ↓g38_22, ↓g38_25, ↓g38_28, ↓g38_29, ↓mo_0, ↓mf_0_0, ↓mf_0_1, ↓mf_0_2, ↓mf_0_3, ↓mf_0_4, ↓mo_1, ↓mf_1_0, ↓mf_1_1, ↓mo_2, ↓mf_2_0, ↓mo_4, ↓mf_4_0, ↓mo_6, ↓mf_6_0, ↓mf_6_1, ↓mf_6_2, ↓mf_6_3, ↓mp_6_4, ↓mf_6_4, ↓mp_6_5, ↓mf_6_5, ↓mo_7, ↓mf_7_0, ↓mo_9, ↓mf_9_0, ↓mo_11, ↓mf_11_0, ↓mo_13, ↓mf_13_0, ↓mf_13_1, ↓mp_13_2, ↓mf_13_2, ↓mp_13_3, ↓mf_13_3, ↓mo_14, ↓mf_14_0, ↓mp_14_1, ↓mf_14_1, ↓mp_14_2, ↓mf_14_2, ↓mo_15, ↓mf_15_0, ↓mf_15_1, ↓mp_15_2, ↓mf_15_2, ↓mo_16, ↓mf_16_0, ↓mo_18, ↓mf_18_0, ↓ma_3, ↓ms_3, ↓ma_5, ↓ms_5, ↓ma_8, ↓ms_8, ↓ma_10, ↓ms_10, ↓ma_12, ↓ms_12, ↓ma_17, ↓ms_17, ↓ma_19, ↓ms_19, ↓bnd_some, ↓cond_true, ↓m_pv_none, ↓m_pv_some, m_b01_0, m_b01_1, true_and, and_true, ↓r_get_2, ↓r_get_4, ↓r_get_7, ↓r_get_9, ↓r_get_11, ↓r_get_16, ↓r_get_18, ↓r_set_2, ↓r_set_4, ↓r_set_7, ↓r_set_9, ↓r_set_11, ↓r_set_16, ↓r_set_18, hs.len, e1, if_false, ↓u_around, rg_in (show k < 200 by omega) (by decide : 200 < 2 ^ 31), (hs.2.2.2.2 k hkl).1, e2, nI_1]
    exact u_mostL hs hl hw n (k + 1) (by omega) K
theorem u_most (hs : SV c v (T v)) (hl : (T v).length ≤ 200) (hw : WF (T v)) (K : Option Value → mM → Prop) : go S 38 0 [.ref 6, .null, .null] [] (mk c t) K = K (some (.int (nI (mxd (dep (T v)) (T v).length)))) (mk c t) := by
  have g := u_mostL (S := S) (t := t) hs hl hw (T v).length 0 rfl K
  simp only [↓g38_0, ↓g38_1, ↓g38_2, ↓g38_3, ↓g38_5, ↓g38_6, ↓g38_9, ↓g38_12, ↓g38_13, ↓g38_14, ↓g38_15, ↓g38_18, ↓g38_21, ↓g38_22, ↓g38_25, ↓g38_28, ↓g38_29, l_0]
  exact g
theorem u_redsL (h : CS c T) (hs : SV c v (T v)) (hw : WF (T v)) : ∀ (n k : Nat), n + k = (T v).length → ∀ (K : Option Value → mM → Prop), go S 39 4 [.ref 6, .int (nI (cnt (red (T v)) k)), .int (nI k)] [] (mk c t) K = K (some (.int (nI (cnt (red (T v)) (T v).length)))) (mk c t)
  | 0, k, hk, K => by
    have e : k = (T v).length := by omega
    subst e
    rw [g39_4]
    simp only [↓g39_0, ↓g39_1, ↓g39_2, ↓g39_3, ↓g39_5, ↓g39_6, ↓g39_9, ↓g39_12, ↓g39_13, ↓g39_14, ↓g39_17, ↓g39_20, ↓g39_23, ↓g39_26, ↓g39_29, ↓g39_30, ↓mo_0, ↓mf_0_0, ↓mf_0_1, ↓mf_0_2, ↓mf_0_3, ↓mf_0_4, ↓mo_1, ↓mf_1_0, ↓mf_1_1, ↓mo_2, ↓mf_2_0, ↓mo_4, ↓mf_4_0, ↓mo_6, ↓mf_6_0, ↓mf_6_1, ↓mf_6_2, ↓mf_6_3, ↓mp_6_4, ↓mf_6_4, ↓mp_6_5, ↓mf_6_5, ↓mo_7, ↓mf_7_0, ↓mo_9, ↓mf_9_0, ↓mo_11, ↓mf_11_0, ↓mo_13, ↓mf_13_0, ↓mf_13_1, ↓mp_13_2, ↓mf_13_2, ↓mp_13_3, ↓mf_13_3, ↓mo_14, ↓mf_14_0, ↓mp_14_1, ↓mf_14_1, ↓mp_14_2, ↓mf_14_2, ↓mo_15, ↓mf_15_0, ↓mf_15_1, ↓mp_15_2, ↓mf_15_2, ↓mo_16, ↓mf_16_0, ↓mo_18, ↓mf_18_0, ↓ma_3, ↓ms_3, ↓ma_5, ↓ms_5, ↓ma_8, ↓ms_8, ↓ma_10, ↓ms_10, ↓ma_12, ↓ms_12, ↓ma_17, ↓ms_17, ↓ma_19, ↓ms_19, ↓bnd_some, ↓cond_true, ↓m_pv_none, ↓m_pv_some, m_b01_0, m_b01_1, true_and, and_true, hs.len, Int32.le_refl, if_true]
  | n + 1, k, hk, K => by
    have hkl : k < (T v).length := by omega
    have hl := (h v hs.1).1
    have e1 : ¬ nI (T v).length ≤ nI k := nI_ge (by omega) (by omega)
    have g1 := u_red (S := S) (t := t) h hw hs hkl
    have ih := u_redsL h hs hw n (k + 1) (by omega) K
    rw [g39_4]
    simp only [↓g39_0, ↓g39_1, ↓g39_2, ↓g39_3, ↓g39_5, ↓g39_6, ↓g39_9, ↓g39_12, ↓g39_13, ↓g39_14, ↓g39_17, ↓g39_20, ↓g39_23, ↓g39_26, ↓g39_29, ↓g39_30, ↓mo_0, ↓mf_0_0, ↓mf_0_1, ↓mf_0_2, ↓mf_0_3, ↓mf_0_4, ↓mo_1, ↓mf_1_0, ↓mf_1_1, ↓mo_2, ↓mf_2_0, ↓mo_4, ↓mf_4_0, ↓mo_6, ↓mf_6_0, ↓mf_6_1, ↓mf_6_2, ↓mf_6_3, ↓mp_6_4, ↓mf_6_4, ↓mp_6_5, ↓mf_6_5, ↓mo_7, ↓mf_7_0, ↓mo_9, ↓mf_9_0, ↓mo_11, ↓mf_11_0, ↓mo_13, ↓mf_13_0, ↓mf_13_1, ↓mp_13_2, ↓mf_13_2, ↓mp_13_3, ↓mf_13_3, ↓mo_14, ↓mf_14_0, ↓mp_14_1, ↓mf_14_1, ↓mp_14_2, ↓mf_14_2, ↓mo_15, ↓mf_15_0, ↓mf_15_1, ↓mp_15_2, ↓mf_15_2, ↓mo_16, ↓mf_16_0, ↓mo_18, ↓mf_18_0, ↓ma_3, ↓ms_3, ↓ma_5, ↓ms_5, ↓ma_8, ↓ms_8, ↓ma_10, ↓ms_10, ↓ma_12, ↓ms_12, ↓ma_17, ↓ms_17, ↓ma_19, ↓ms_19, ↓bnd_some, ↓cond_true, ↓m_pv_none, ↓m_pv_some, m_b01_0, m_b01_1, true_and, and_true, hs.len, e1, if_false, ↓g1, nI_1]
    rw [cnt] at ih
    by_cases hr : red (T v) k = true
    · simp only [hr, if_true] at ih ⊢
      rw [if_neg (by decide)]
      exact ih
    · simp only [hr] at ih ⊢
      rw [if_pos (by decide)]
      exact ih
theorem u_reds (h : CS c T) (hs : SV c v (T v)) (hw : WF (T v)) (K : Option Value → mM → Prop) : go S 39 0 [.ref 6, .null, .null] [] (mk c t) K = K (some (.int (nI (cnt (red (T v)) (T v).length)))) (mk c t) := by
  have g := u_redsL (S := S) (t := t) h hs hw (T v).length 0 rfl K
  simp only [↓g39_0, ↓g39_1, ↓g39_2, ↓g39_3, ↓g39_5, ↓g39_6, ↓g39_9, ↓g39_12, ↓g39_13, ↓g39_14, ↓g39_17, ↓g39_20, ↓g39_23, ↓g39_26, ↓g39_29, ↓g39_30, l_0]
  exact g
/-- the first inner place: f is the last reducible one that was seen -/
def FI (l : Tm) (k : Nat) (f : Option Nat) : Prop := match f with
  | none => ∀ j, j < k → red l j = false
  | some x => x < k ∧ red l x = true ∧ (∀ j, x < j → j < k → red l j = false) ∧ ∀ j, j < x → red l j = true → ∃ i, j < i ∧ i < en l j ∧ red l i = true
theorem inn_of {l : Tm} {x : Nat} (h1 : red l x = true) (h2 : ∀ j, x < j → j < en l x → red l j = false) : inn l x = true := by
  unfold inn
  simp only [h1, true_and, decide_eq_true_eq]
  exact fun j z1 z2 => h2 j z2 z1
theorem inn_not {l : Tm} {x : Nat} (h : red l x = true → ∃ i, x < i ∧ i < en l x ∧ red l i = true) : inn l x = false := by
  unfold inn
  rw [decide_eq_false_iff_not]
  rintro ⟨h1, h2⟩
  obtain ⟨i, h3, h4, h5⟩ := h h1
  rw [h2 i h4 h3] at h5
  cases h5
theorem cnd_1 (l : Tm) : cnd l 1 = inn l := rfl
theorem FI.res {l : Tm} {x k : Nat} (h : FI l k (some x)) (hx : x < l.length) (hk : en l x ≤ k) : nxt l 1 = some x := by
  unfold nxt
  rw [cnd_1]
  obtain ⟨h1, h2, h3, h4⟩ := h
  exact fst_some (inn_of h2 fun j z1 z2 => h3 j z1 (by omega)) (fun j hj => inn_not fun z => h4 j hj z) hx
theorem u_innerL (h : CS c T) (hs : SV c v (T v)) (hw : WF (T v)) : ∀ (n k : Nat) (f : Option Nat), n + k = (T v).length → FI (T v) k f → ∀ (K : Option Value → mM → Prop), go S 46 5 [.ref 6, .int (nbI f), .int (nI k)] [] (mk c t) K = K (some (.int (nbI (nxt (T v) 1)))) (mk c t)
  | 0, k, f, hk, hf, K => by
    have e : k = (T v).length := by omega
    subst e
    have e2 : nxt (T v) 1 = f := by
      cases f with
      | none =>
        unfold nxt
        rw [cnd_1]
        exact fst_none fun j hj => inn_not fun z => by rw [hf j hj] at z; cases z
      | some x => exact hf.res hf.1 (en_le (Nat.le_of_lt hf.1))
    rw [g46_5]
    simp only [↓g46_0, ↓g46_2, ↓g46_3, ↓g46_4, ↓g46_6, ↓g46_7, ↓g46_10, ↓g46_13, ↓g46_14, ↓g46_15, ↓g46_18, ↓g46_21, ↓g46_22, ↓g46_24, ↓g46_27, ↓g46_28, ↓g46_29, ↓g46_30, ↓g46_33, ↓g46_36, ↓g46_37, ↓g46_38, ↓g46_39, ↓g46_40, ↓g46_43, ↓g46_46, ↓g46_47, ↓mo_0, ↓mf_0_0, ↓mf_0_1, ↓mf_0_2, ↓mf_0_3, ↓mf_0_4, ↓mo_1, ↓mf_1_0, ↓mf_1_1, ↓mo_2, ↓mf_2_0, ↓mo_4, ↓mf_4_0, ↓mo_6, ↓mf_6_0, ↓mf_6_1, ↓mf_6_2, ↓mf_6_3, ↓mp_6_4, ↓mf_6_4, ↓mp_6_5, ↓mf_6_5, ↓mo_7, ↓mf_7_0, ↓mo_9, ↓mf_9_0, ↓mo_11, ↓mf_11_0, ↓mo_13, ↓mf_13_0, ↓mf_13_1, ↓mp_13_2, ↓mf_13_2, ↓mp_13_3, ↓mf_13_3, ↓mo_14, ↓mf_14_0, ↓mp_14_1, ↓mf_14_1, ↓mp_14_2, ↓mf_14_2, ↓mo_15, ↓mf_15_0, ↓mf_15_1, ↓mp_15_2, ↓mf_15_2, ↓mo_16, ↓mf_16_0, ↓mo_18, ↓mf_18_0, ↓ma_3, ↓ms_3, ↓ma_5, ↓ms_5, ↓ma_8, ↓ms_8, ↓ma_10, ↓ms_10, ↓ma_12, ↓ms_12, ↓ma_17, ↓ms_17, ↓ma_19, ↓ms_19, ↓bnd_some, ↓cond_true, ↓m_pv_none, ↓m_pv_some, m_b01_0, m_b01_1, true_and, and_true, hs.len, Int32.le_refl, if_true, e2]
  | n + 1, k, f, hk, hf, K => by
    have hkl : k < (T v).length := by omega
    have hl := (h v hs.1).1
    have e1 : ¬ nI (T v).length ≤ nI k := nI_ge (by omega) (by omega)
    have g1 := u_red (S := S) (t := t) h hw hs hkl
    rw [g46_5]
    simp only [↓g46_0, ↓g46_2, ↓g46_3, ↓g46_4, ↓g46_6, ↓g46_7, ↓g46_10, ↓g46_13, ↓g46_14, ↓g46_15, ↓g46_18, ↓g46_21, ↓g46_22, ↓g46_24, ↓g46_27, ↓g46_28, ↓g46_29, ↓g46_30, ↓g46_33, ↓g46_36, ↓g46_37, ↓g46_38, ↓g46_39, ↓g46_40, ↓g46_43, ↓g46_46, ↓g46_47, ↓mo_0, ↓mf_0_0, ↓mf_0_1, ↓mf_0_2, ↓mf_0_3, ↓mf_0_4, ↓mo_1, ↓mf_1_0, ↓mf_1_1, ↓mo_2, ↓mf_2_0, ↓mo_4, ↓mf_4_0, ↓mo_6, ↓mf_6_0, ↓mf_6_1, ↓mf_6_2, ↓mf_6_3, ↓mp_6_4, ↓mf_6_4, ↓mp_6_5, ↓mf_6_5, ↓mo_7, ↓mf_7_0, ↓mo_9, ↓mf_9_0, ↓mo_11, ↓mf_11_0, ↓mo_13, ↓mf_13_0, ↓mf_13_1, ↓mp_13_2, ↓mf_13_2, ↓mp_13_3, ↓mf_13_3, ↓mo_14, ↓mf_14_0, ↓mp_14_1, ↓mf_14_1, ↓mp_14_2, ↓mf_14_2, ↓mo_15, ↓mf_15_0, ↓mf_15_1, ↓mp_15_2, ↓mf_15_2, ↓mo_16, ↓mf_16_0, ↓mo_18, ↓mf_18_0, ↓ma_3, ↓ms_3, ↓ma_5, ↓ms_5, ↓ma_8, ↓ms_8, ↓ma_10, ↓ms_10, ↓ma_12, ↓ms_12, ↓ma_17, ↓ms_17, ↓ma_19, ↓ms_19, ↓bnd_some, ↓cond_true, ↓m_pv_none, ↓m_pv_some, m_b01_0, m_b01_1, true_and, and_true, hs.len, e1, if_false, ↓g1, nI_1]
    by_cases hr : red (T v) k = true
    · simp only [hr, if_true]
      rw [if_neg (by decide)]
      cases f with
      | none =>
        rw [if_pos (show nbI none = -6 from rfl)]
        exact u_innerL h hs hw n (k + 1) (some k) (by omega) ⟨by omega, hr, fun j z1 z2 => by omega, fun j z1 z2 => by rw [hf j z1] at z2; cases z2⟩ K
      | some x =>
        obtain ⟨f1, f2, f3, f4⟩ := id hf
        have hxl : x < (T v).length := by omega
        have hex := en_le (Nat.le_of_lt hxl)
        have e5 : ¬ nI x = -6 := by
          intro z
          have := congrArg Int32.toInt z
          rw [nI_toInt (by omega)] at this
          have e6 : (-6 : Int32).toInt = -6 := by decide
          omega
        have e6 : rg 200 (c 8) (nI x) = nI (en (T v) x) := by
          rw [rg_in (by omega) (by decide)]
          exact hs.2.2.2.1 x hxl
        simp only [show nbI (some x) = nI x from rfl, e5, if_false, ↓u_behind, e6, ↓mo_0, ↓mf_0_0, ↓mf_0_1, ↓mf_0_2, ↓mf_0_3, ↓mf_0_4, ↓mo_1, ↓mf_1_0, ↓mf_1_1, ↓mo_2, ↓mf_2_0, ↓mo_4, ↓mf_4_0, ↓mo_6, ↓mf_6_0, ↓mf_6_1, ↓mf_6_2, ↓mf_6_3, ↓mp_6_4, ↓mf_6_4, ↓mp_6_5, ↓mf_6_5, ↓mo_7, ↓mf_7_0, ↓mo_9, ↓mf_9_0, ↓mo_11, ↓mf_11_0, ↓mo_13, ↓mf_13_0, ↓mf_13_1, ↓mp_13_2, ↓mf_13_2, ↓mp_13_3, ↓mf_13_3, ↓mo_14, ↓mf_14_0, ↓mp_14_1, ↓mf_14_1, ↓mp_14_2, ↓mf_14_2, ↓mo_15, ↓mf_15_0, ↓mf_15_1, ↓mp_15_2, ↓mf_15_2, ↓mo_16, ↓mf_16_0, ↓mo_18, ↓mf_18_0, ↓ma_3, ↓ms_3, ↓ma_5, ↓ms_5, ↓ma_8, ↓ms_8, ↓ma_10, ↓ms_10, ↓ma_12, ↓ms_12, ↓ma_17, ↓ms_17, ↓ma_19, ↓ms_19, ↓bnd_some, ↓cond_true, ↓m_pv_none, ↓m_pv_some, m_b01_0, m_b01_1, true_and, and_true, ↓g46_0, ↓g46_2, ↓g46_3, ↓g46_4, ↓g46_6, ↓g46_7, ↓g46_10, ↓g46_13, ↓g46_14, ↓g46_15, ↓g46_18, ↓g46_21, ↓g46_22, ↓g46_24, ↓g46_27, ↓g46_28, ↓g46_29, ↓g46_30, ↓g46_33, ↓g46_36, ↓g46_37, ↓g46_38, ↓g46_39, ↓g46_40, ↓g46_43, ↓g46_46, ↓g46_47, nI_1]
        by_cases h7 : k < en (T v) x
        · rw [if_pos (nI_lt h7 (by omega))]
          exact u_innerL h hs hw n (k + 1) (some k) (by omega) ⟨by omega, hr, fun j z1 z2 => by omega, fun j z1 z2 => by
            rcases Nat.lt_trichotomy j x with z | z | z
            · exact f4 j z z2
            · subst z
              exact ⟨k, f1, h7, hr⟩
            · rw [f3 j z z1] at z2
              cases z2⟩ K
        · rw [if_neg (nI_nlt (by omega) (by omega)), hf.res hxl (by omega)]
          rfl
    · simp only [hr]
      rw [if_pos (by decide)]
      refine u_innerL h hs hw n (k + 1) f (by omega) ?_ K
      have hr2 : red (T v) k = false := by simpa using hr
      cases f with
      | none =>
        intro j hj
        by_cases e : j = k
        · rw [e]; exact hr2
        · exact hf j (by omega)
      | some x =>
        obtain ⟨f1, f2, f3, f4⟩ := hf
        refine ⟨by omega, f2, fun j z1 z2 => ?_, f4⟩
        by_cases e : j = k
        · rw [e]; exact hr2
        · exact f3 j z1 (by omega)
theorem u_inner (h : CS c T) (hs : SV c v (T v)) (hw : WF (T v)) (K : Option Value → mM → Prop) : go S 46 0 [.ref 6, .null, .null] [] (mk c t) K = K (some (.int (nbI (nxt (T v) 1)))) (mk c t) := by
  have g := u_innerL (S := S) (t := t) h hs hw (T v).length 0 none rfl (fun j hj => by omega) K
  simp only [↓g46_0, ↓g46_2, ↓g46_3, ↓g46_4, ↓g46_6, ↓g46_7, ↓g46_10, ↓g46_13, ↓g46_14, ↓g46_15, ↓g46_18, ↓g46_21, ↓g46_22, ↓g46_24, ↓g46_27, ↓g46_28, ↓g46_29, ↓g46_30, ↓g46_33, ↓g46_36, ↓g46_37, ↓g46_38, ↓g46_39, ↓g46_40, ↓g46_43, ↓g46_46, ↓g46_47, l_0]
  exact g
end SURV3

