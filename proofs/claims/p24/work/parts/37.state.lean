/-! the whole state: registers, history (the latest first), slots, pad -/
abbrev Sg : Type := (Nat → Tm) × List (Nat → Tm) × (Nat → Option (Nat → Tm)) × List Nat
def ST6 (st : Nat → Tm) : Prop := ∀ r, r < 6 → Tok (st r)
/-- a sound state -/
def SOk (σ : Sg) : Prop := ST6 σ.1 ∧ (∀ st ∈ σ.2.1, ST6 st) ∧ (∀ s, s < 2 → ∀ st, σ.2.2.1 s = some st → ST6 st) ∧ σ.2.1.length ≤ 6 ∧ Pok σ.2.2.2
def slT (o : Option (Nat → Tm)) (r : Nat) : Tm := match o with
  | some st => st r
  | none => []
def hsT (hs : List (Nat → Tm)) (j r : Nat) : Tm := hs.getD j (fun _ => []) r
/-- the object holds the state -/
def CIT (c : Nat → Nat → Int32) (T : Nat → Tm) (nx : Nat) (σ : Sg) : Prop := CS c T ∧ (∀ r, r < 6 → T r = σ.1 r) ∧ nx < 6 ∧ c 14 1 = nI nx ∧ c 14 2 = nI σ.2.1.length ∧ (∀ j, j < σ.2.1.length → ∀ r, r < 6 → T (6 * (1 + (nx + 5 - j) % 6) + r) = hsT σ.2.1 j r) ∧ (∀ s, s < 2 → ∀ r, r < 6 → T (6 * (7 + s) + r) = slT (σ.2.2.1 s) r) ∧ PR c σ.2.2.2
def CI (c : Nat → Nat → Int32) (σ : Sg) : Prop := ∃ T nx, CIT c T nx σ
def kp (σ : Sg) : Sg := (σ.1, (σ.1 :: σ.2.1).take 6, σ.2.2.1, σ.2.2.2)
def setR (σ : Sg) (i : Nat) (l : Tm) : Sg := (tu σ.1 i l, σ.2.1, σ.2.2.1, σ.2.2.2)
theorem CIT.reg {c c' : Nat → Nat → Int32} {T T' : Nat → Tm} {nx : Nat} {σ : Sg} {ks : List Nat} (h : CIT c T nx σ) {i : Nat} {l : Tm} (hi : i < 6) (h' : CS c' T') (hT : ∀ j, j < 54 → T' j = tu T i l j) (hs : sx ks c c') (k1 : 14 ∉ ks) (k2 : 15 ∉ ks) (k3 : 17 ∉ ks) : CIT c' T' nx (setR σ i l) := by
  obtain ⟨a1, a2, a3, a4, a5, a6, a7, a8⟩ := h
  refine ⟨h', fun r hr => ?_, a3, by rw [hs 14 k1]; exact a4, by rw [hs 14 k1]; exact a5, fun j hj r hr => ?_, fun s hs2 r hr => ?_, a8.sx hs k2 k3⟩
  · rw [hT r (by omega)]
    show _ = tu σ.1 i l r
    by_cases e : r = i
    · subst e
      rw [tu_eq, tu_eq]
    · rw [tu_ne e, tu_ne e, a2 r hr]
  · rw [hT _ (by omega), tu_ne (by omega)]
    exact a6 j hj r hr
  · rw [hT _ (by omega), tu_ne (by omega)]
    exact a7 s hs2 r hr
theorem CIT.same {c c' : Nat → Nat → Int32} {T T' : Nat → Tm} {nx : Nat} {σ : Sg} {ks : List Nat} (h : CIT c T nx σ) (h' : CS c' T') (hT : ∀ j, j < 54 → T' j = T j) (hs : sx ks c c') (k1 : 14 ∉ ks) (k2 : 15 ∉ ks) (k3 : 17 ∉ ks) : CIT c' T' nx σ := by
  obtain ⟨a1, a2, a3, a4, a5, a6, a7, a8⟩ := h
  refine ⟨h', fun r hr => ?_, a3, by rw [hs 14 k1]; exact a4, by rw [hs 14 k1]; exact a5, fun j hj r hr => ?_, fun s hs2 r hr => ?_, a8.sx hs k2 k3⟩
  · rw [hT r (by omega)]
    exact a2 r hr
  · rw [hT _ (by omega)]
    exact a6 j hj r hr
  · rw [hT _ (by omega)]
    exact a7 s hs2 r hr
theorem kp_ok {σ : Sg} (h : SOk σ) : SOk (kp σ) := by
  obtain ⟨h1, h2, h3, h4, h5⟩ := h
  refine ⟨h1, fun st hst => ?_, h3, by show ((σ.1 :: σ.2.1).take 6).length ≤ 6; rw [List.length_take]; omega, h5⟩
  rcases List.mem_cons.mp (List.mem_of_mem_take hst) with e | e
  · rw [e]; exact h1
  · exact h2 st e
theorem setR_ok {σ : Sg} (h : SOk σ) {i : Nat} {l : Tm} (hl : Tok l) : SOk (setR σ i l) := by
  obtain ⟨h1, h2, h3, h4, h5⟩ := h
  refine ⟨fun r hr => ?_, h2, h3, h4, h5⟩
  show Tok (tu σ.1 i l r)
  by_cases e : r = i
  · subst e
    rw [tu_eq]
    exact hl
  · rw [tu_ne e]
    exact h1 r hr
theorem CIT.at {c : Nat → Nat → Int32} {T : Nat → Tm} {nx : Nat} {σ : Sg} (h : CIT c T nx σ) {i : Nat} (hi : i < 6) : T i = σ.1 i := h.2.1 i hi
theorem Tok.pos {l : Tm} (h : Tok l) : 0 < l.length := by
  cases l with
  | nil =>
    exfalso
    have := h.1.2
    cases this
  | cons q l => rw [List.length_cons]; omega
section HIST
variable {S : mS} {t : mM} {T : Nat → Tm} {nx : Nat} {c : Nat → Nat → Int32} {σ : Sg}
theorem l_5 : (5 : Int32) = nI 5 := rfl
theorem h_keep (h : CIT c T nx σ) (ho : SOk σ) : ∃ c' T' nx', CIT c' T' nx' (kp σ) ∧ sx [3, 5, 14] c c' ∧ ∀ (K : Option Value → mM → Prop), go S 1 0 [.ref 14] [] (mk c t) K = K none (mk c' t) := by
  obtain ⟨a1, a2, a3, a4, a5, a6, a7, a8⟩ := id h
  have hlen := ho.2.2.2.1
  have e1 : (1 : Int32) + c 14 1 = nI (1 + nx) := by rw [a4, l_1, nI_add]
  obtain ⟨c1, b1, b2, b3⟩ := q_dupState (S := S) (t := t) (s := 0) (u := 1 + nx) (x := 0) (y := 1 + c 14 1) a1 (by omega) (by omega) (by omega) rfl e1
  have k1 : c1 14 1 = nI nx := by rw [b2 14 (by simp)]; exact a4
  have k2 : c1 14 2 = nI σ.2.1.length := by rw [b2 14 (by simp)]; exact a5
  refine ⟨ca (ca c1 14 (upd (c1 14) 1 (nI ((nx + 1) % 6)))) 14 (upd (ca c1 14 (upd (c1 14) 1 (nI ((nx + 1) % 6))) 14) 2 (nI ((σ.1 :: σ.2.1).take 6).length)), tdk T 0 (1 + nx) 6, (nx + 1) % 6, ⟨b1.sx (ks := [14]) (sx_tr (sx_ca (by simp)) (sx_ca (by simp))) (by simp) (by simp), fun r hr => ?_, Nat.mod_lt _ (by decide), by rw [ca_eq, upd_ne (by decide), ca_eq, upd_eq], by rw [ca_eq, upd_eq]; rfl, fun j hj r hr => ?_, fun s hs r hr => ?_, ?_⟩, sx_tr (fun k hk => b2 k (by simp at hk ⊢; omega)) (sx_tr (sx_ca (by simp)) (sx_ca (by simp))), fun K => ?_⟩
  · unfold tdk
    rw [if_neg (by omega)]
    exact a2 r hr
  · have hj : j < ((σ.1 :: σ.2.1).take 6).length := hj
    rw [List.length_take, List.length_cons] at hj
    have hj6 : j < 6 := by omega
    unfold hsT
    show _ = ((σ.1 :: σ.2.1).take 6).getD j (fun _ => []) r
    rw [List.getD_eq_getElem?_getD, List.getElem?_take, if_pos hj6]
    cases j with
    | zero =>
      have e : ((nx + 1) % 6 + 5 - 0) % 6 = nx := by omega
      rw [e]
      unfold tdk
      rw [if_pos (by omega)]
      simp only [List.getElem?_cons_zero, Option.getD_some]
      rw [← a2 r hr]
      congr 1
      omega
    | succ j =>
      have e : ((nx + 1) % 6 + 5 - (j + 1)) % 6 = (nx + 5 - j) % 6 := by omega
      rw [e]
      have hne : (nx + 5 - j) % 6 ≠ nx := by omega
      unfold tdk
      rw [if_neg (by omega)]
      rw [a6 j (by omega) r hr]
      unfold hsT
      rw [List.getElem?_cons_succ, List.getD_eq_getElem?_getD]
  · unfold tdk
    rw [if_neg (by omega)]
    exact a7 s hs r hr
  · exact (a8.sx b2 (by simp) (by simp)).sx (ks := [14]) (sx_tr (sx_ca (by simp)) (sx_ca (by simp))) (by simp) (by simp)
  · have e2 : (nI nx = 5) ↔ nx = 5 := nI_eq (b := 5) (by omega) (by decide)
    have e3 : (if (6 : Int32) < nI (σ.2.1.length + 1) then (6 : Int32) else nI (σ.2.1.length + 1)) = nI ((σ.1 :: σ.2.1).take 6).length := by
      rw [List.length_take, List.length_cons]
      have e4 : ((6 : Int32) < nI (σ.2.1.length + 1)) ↔ 6 < σ.2.1.length + 1 := nI_ltI (a := 6) (by decide) (by omega)
      by_cases z : 6 < σ.2.1.length + 1
      · rw [if_pos (e4.mpr z), Nat.min_eq_left (by omega)]
        rfl
      · rw [if_neg (fun y => z (e4.mp y)), Nat.min_eq_right (by omega)]
    have fin : ∀ w, w = nI ((nx + 1) % 6) → go S 1 33 [.ref 14] [.int w, .ref 14] (mk c1 t) K = K none (mk (ca (ca c1 14 (upd (c1 14) 1 (nI ((nx + 1) % 6)))) 14 (upd (ca c1 14 (upd (c1 14) 1 (nI ((nx + 1) % 6))) 14) 2 (nI ((σ.1 :: σ.2.1).take 6).length))) t) := fun w hw => by
      have e5 : ca c1 14 (upd (c1 14) 1 (nI ((nx + 1) % 6))) 14 2 = nI σ.2.1.length := by rw [ca_eq, upd_ne (by decide)]; exact k2
      rw [hw]
      simp only [↓g1_0, ↓g1_1, ↓g1_4, ↓g1_5, ↓g1_6, ↓g1_7, ↓g1_10, ↓g1_11, ↓g1_14, ↓g1_15, ↓g1_16, ↓g1_19, ↓g1_20, ↓g1_23, ↓g1_24, ↓g1_27, ↓g1_28, ↓g1_31, ↓g1_32, ↓g1_33, ↓g1_36, ↓g1_37, ↓g1_38, ↓g1_41, ↓g1_42, ↓g1_43, ↓g1_45, ↓g1_48, ↓g1_51, ↓mo_0, ↓mf_0_0, ↓mf_0_1, ↓mf_0_2, ↓mf_0_3, ↓mf_0_4, ↓mo_1, ↓mf_1_0, ↓mf_1_1, ↓mo_2, ↓mf_2_0, ↓mo_4, ↓mf_4_0, ↓mo_6, ↓mf_6_0, ↓mf_6_1, ↓mf_6_2, ↓mf_6_3, ↓mp_6_4, ↓mf_6_4, ↓mp_6_5, ↓mf_6_5, ↓mo_7, ↓mf_7_0, ↓mo_9, ↓mf_9_0, ↓mo_11, ↓mf_11_0, ↓mo_13, ↓mf_13_0, ↓mf_13_1, ↓mp_13_2, ↓mf_13_2, ↓mp_13_3, ↓mf_13_3, ↓mo_14, ↓mf_14_0, ↓mp_14_1, ↓mf_14_1, ↓mp_14_2, ↓mf_14_2, ↓mo_15, ↓mf_15_0, ↓mf_15_1, ↓mp_15_2, ↓mf_15_2, ↓mo_16, ↓mf_16_0, ↓mo_18, ↓mf_18_0, ↓ma_3, ↓ms_3, ↓ma_5, ↓ms_5, ↓ma_8, ↓ms_8, ↓ma_10, ↓ms_10, ↓ma_12, ↓ms_12, ↓ma_17, ↓ms_17, ↓ma_19, ↓ms_19, ↓bnd_some, ↓cond_true, ↓m_pv_none, ↓m_pv_some, m_b01_0, m_b01_1, true_and, and_true, e5, nI_1, e3]
    simp only [↓g1_0, ↓g1_1, ↓g1_4, ↓g1_5, ↓g1_6, ↓g1_7, ↓g1_10, ↓g1_11, ↓g1_14, ↓g1_15, ↓g1_16, ↓g1_19, ↓g1_20, ↓g1_23, ↓g1_24, ↓g1_27, ↓g1_28, ↓g1_31, ↓g1_32, ↓g1_36, ↓g1_37, ↓g1_38, ↓g1_41, ↓g1_42, ↓g1_43, ↓g1_45, ↓g1_48, ↓g1_51, ↓mo_0, ↓mf_0_0, ↓mf_0_1, ↓mf_0_2, ↓mf_0_3, ↓mf_0_4, ↓mo_1, ↓mf_1_0, ↓mf_1_1, ↓mo_2, ↓mf_2_0, ↓mo_4, ↓mf_4_0, ↓mo_6, ↓mf_6_0, ↓mf_6_1, ↓mf_6_2, ↓mf_6_3, ↓mp_6_4, ↓mf_6_4, ↓mp_6_5, ↓mf_6_5, ↓mo_7, ↓mf_7_0, ↓mo_9, ↓mf_9_0, ↓mo_11, ↓mf_11_0, ↓mo_13, ↓mf_13_0, ↓mf_13_1, ↓mp_13_2, ↓mf_13_2, ↓mp_13_3, ↓mf_13_3, ↓mo_14, ↓mf_14_0, ↓mp_14_1, ↓mf_14_1, ↓mp_14_2, ↓mf_14_2, ↓mo_15, ↓mf_15_0, ↓mf_15_1, ↓mp_15_2, ↓mf_15_2, ↓mo_16, ↓mf_16_0, ↓mo_18, ↓mf_18_0, ↓ma_3, ↓ms_3, ↓ma_5, ↓ms_5, ↓ma_8, ↓ms_8, ↓ma_10, ↓ms_10, ↓ma_12, ↓ms_12, ↓ma_17, ↓ms_17, ↓ma_19, ↓ms_19, ↓bnd_some, ↓cond_true, ↓m_pv_none, ↓m_pv_some, m_b01_0, m_b01_1, true_and, and_true, ↓b3, k1, e2, nI_1]
    by_cases z : nx = 5
    · rw [if_pos z]
      exact fin 0 (by rw [z]; rfl)
    · rw [if_neg z]
      exact fin _ (by rw [Nat.mod_eq_of_lt (by omega)])
end HIST
/-! ranges -/
def inR (x : Int32) (n : Nat) : Prop := 0 ≤ x ∧ x < nI n
theorem inR_of {x : Int32} {n : Nat} (h : inR x n) (hn : n < 2 ^ 31) : ∃ i, i < n ∧ x = nI i := by
  obtain ⟨i, hi, e⟩ := nI_of (Int32.not_lt.mpr h.1)
  subst e
  exact ⟨i, (nI_ltI hi hn).mp h.2, rfl⟩
theorem inR_nI {i n : Nat} (h : i < n) (hn : n < 2 ^ 31) : inR (nI i) n := ⟨nI_pos' (by omega), nI_lt h hn⟩
section RNG
variable {S : mS} {M : mM} {x : Int32}
theorem y_reg (h : inR x 6) (K : Option Value → mM → Prop) : go S 60 0 [.int x] [] M K = K (some (.int 1)) M := by
  simp only [↓g60_0, ↓g60_1, ↓g60_4, ↓g60_5, ↓g60_7, ↓g60_10, ↓g60_11, ↓g60_14, ↓g60_15, Int32.not_lt.mpr h.1, if_false, show ¬ (6 : Int32) ≤ x from Int32.not_le.mpr h.2, m_b01_1, true_and]
theorem n_reg (h : ¬ inR x 6) (K : Option Value → mM → Prop) : go S 60 0 [.int x] [] M K = K (some (.int 0)) M := by
  by_cases h1 : x < 0
  · simp only [↓g60_0, ↓g60_1, ↓g60_4, ↓g60_5, ↓g60_7, ↓g60_10, ↓g60_11, ↓g60_14, ↓g60_15, h1, if_true, m_b01_0, true_and]
  · have h2 : (6 : Int32) ≤ x := Int32.not_lt.mp fun z => h ⟨Int32.not_lt.mp h1, z⟩
    simp only [↓g60_0, ↓g60_1, ↓g60_4, ↓g60_5, ↓g60_7, ↓g60_10, ↓g60_11, ↓g60_14, ↓g60_15, h1, h2, if_true, if_false, m_b01_0, true_and]
theorem y_ord (h : inR x 3) (K : Option Value → mM → Prop) : go S 61 0 [.int x] [] M K = K (some (.int 1)) M := by
  obtain ⟨i, hi, rfl⟩ := inR_of h (by decide)
  simp only [↓g61_0, ↓g61_1, ↓g61_4, ↓g61_5, ↓g61_6, ↓g61_9, ↓g61_10, ↓g61_13, ↓g61_14, Int32.not_lt.mpr h.1, if_false, show ¬ (2 : Int32) < nI i from nI_nlt (a := 2) (by omega) (by decide), m_b01_1, true_and]
theorem n_ord (h : ¬ inR x 3) (K : Option Value → mM → Prop) : go S 61 0 [.int x] [] M K = K (some (.int 0)) M := by
  by_cases h1 : x < 0
  · simp only [↓g61_0, ↓g61_1, ↓g61_4, ↓g61_5, ↓g61_6, ↓g61_9, ↓g61_10, ↓g61_13, ↓g61_14, h1, if_true, m_b01_0, true_and]
  · have h2 : (2 : Int32) < x := Int32.not_le.mp fun z => h ⟨Int32.not_lt.mp h1, by
      rw [Int32.lt_iff_toInt_lt]
      rw [Int32.le_iff_toInt_le] at z
      have e1 : (2 : Int32).toInt = 2 := by decide
      have e2 : (nI 3).toInt = 3 := by decide
      omega⟩
    simp only [↓g61_0, ↓g61_1, ↓g61_4, ↓g61_5, ↓g61_6, ↓g61_9, ↓g61_10, ↓g61_13, ↓g61_14, h1, h2, if_true, if_false, m_b01_0, true_and]
def inF (x : Int32) : Prop := 1 ≤ x ∧ x ≤ 200
theorem inF_of (h : inF x) : ∃ i, 1 ≤ i ∧ i ≤ 200 ∧ x = nI i := by
  have h0 : ¬ x < 0 := fun z => by
    have h1 := h.1
    rw [Int32.le_iff_toInt_le] at h1
    rw [Int32.lt_iff_toInt_lt] at z
    have e1 : (1 : Int32).toInt = 1 := by decide
    have e2 : (0 : Int32).toInt = 0 := by decide
    omega
  obtain ⟨i, hi, e⟩ := nI_of h0
  subst e
  exact ⟨i, (nI_leI (a := 1) (by decide) hi).mp h.1, (nI_leI (b := 200) hi (by decide)).mp h.2, rfl⟩
theorem y_fuel (h : inF x) (K : Option Value → mM → Prop) : go S 62 0 [.int x] [] M K = K (some (.int 1)) M := by
  simp only [↓g62_0, ↓g62_1, ↓g62_2, ↓g62_5, ↓g62_6, ↓g62_9, ↓g62_12, ↓g62_13, ↓g62_16, ↓g62_17, Int32.not_lt.mpr h.1, Int32.not_lt.mpr h.2, if_false, m_b01_1, true_and]
theorem n_fuel (h : ¬ inF x) (K : Option Value → mM → Prop) : go S 62 0 [.int x] [] M K = K (some (.int 0)) M := by
  by_cases h1 : x < 1
  · simp only [↓g62_0, ↓g62_1, ↓g62_2, ↓g62_5, ↓g62_6, ↓g62_9, ↓g62_12, ↓g62_13, ↓g62_16, ↓g62_17, h1, if_true, m_b01_0, true_and]
  · have h2 : (200 : Int32) < x := Int32.not_le.mp fun z => h ⟨Int32.not_lt.mp h1, z⟩
    simp only [↓g62_0, ↓g62_1, ↓g62_2, ↓g62_5, ↓g62_6, ↓g62_9, ↓g62_12, ↓g62_13, ↓g62_16, ↓g62_17, h1, h2, if_true, if_false, m_b01_0, true_and]
end RNG
/-! a constant becomes bound -/
def bnp (l : Tm) (k p : Nat) : Nat × Nat := if pt l p = (1, k) then (0, dep l p) else pt l p
def bnl (l : Tm) (k : Nat) : Nat → Tm
  | 0 => [(2, 0)]
  | n + 1 => bnl l k n ++ [bnp l k n]
def bnc (l : Tm) (k n : Nat) : Nat := cnt (fun p => decide (pt l p = (1, k))) n
theorem bnl_len (l : Tm) (k : Nat) : ∀ n, (bnl l k n).length = n + 1
  | 0 => rfl
  | n + 1 => by rw [bnl, List.length_append, bnl_len l k n]; rfl
theorem skL_one (q : Nat × Nat) (s : List Nat) : skL [q] s = stq q s := rfl
theorem bnl_ok {l : Tm} (hw : WF l) (k : Nat) : ∀ n, n ≤ l.length → okL (bnl l k n) [0] ∧ skL (bnl l k n) [0] = (dk l n).map (· + 1)
  | 0, _ => ⟨⟨⟨0, [], rfl, Or.inr (Or.inr (Or.inl ⟨rfl, rfl⟩))⟩, trivial⟩, rfl⟩
  | n + 1, hn => by
    have hl : n < l.length := hn
    obtain ⟨h1, h2⟩ := bnl_ok hw k n (by omega)
    have hd := dk_head (hw.1 n hl).1
    have hq := okq_of hw hl
    rw [bnl, okL_app, skL_app, h2, hd]
    refine ⟨⟨h1, ⟨dep l n + 1, _, rfl, ?_⟩, trivial⟩, ?_⟩
    · unfold bnp
      split
      · exact Or.inl ⟨rfl, Nat.lt_succ_self _⟩
      · unfold okq at hq ⊢
        omega
    · rw [dk_step, hd]
      rw [skL_one, List.map_cons, stq_cons, stq_cons]
      unfold bnp
      by_cases hc : pt l n = (1, k)
      · rw [if_pos hc, hc]
        rfl
      · rw [if_neg hc]
        split
        · rfl
        · split <;> rfl
theorem bnl_WF {l : Tm} (hw : WF l) (k : Nat) : WF (bnl l k l.length) := by
  obtain ⟨h1, h2⟩ := bnl_ok hw k l.length (Nat.le_refl _)
  refine WF_of h1 ?_
  rw [h2]
  unfold dk
  rw [hw.2]
  rfl
def msk (R : Nat → Tm) : Nat → Int32
  | 0 => 0
  | n + 1 => if nxt (R n) 0 = none then msk R n ||| ((1 : Int32) <<< (nI n &&& 31)) else msk R n
section DRAFT
variable {S : mS} {t : mM} {T : Nat → Tm}
theorem d_draftL {v : Nat} (hv : v < 56) (hw : WF (T v)) (hl : 1 + (T v).length ≤ 200) {k : Nat} (hk : k < 6) : ∀ (n p : Nat) (c : Nat → Nat → Int32), n + p = (T v).length → CS c (tu T 56 (bnl (T v) k p)) → SV c v (T v) → ∃ c', CS c' (tu T 56 (bnl (T v) k (T v).length)) ∧ sx [3, 5] c c' ∧ ∀ (K : Option Value → mM → Prop) (j5 j6 : Value), go S 63 43 [.ref 0, .int (nI v), .int (nI k), .int (nI (T v).length), .int (nI (bnc (T v) k p)), .int (nI p), j5, j6] [] (mk c t) K = K (some (.int (nI (bnc (T v) k (T v).length)))) (mk c' t)
  | 0, p, c, hp, h, hs => by
    have e : p = (T v).length := by omega
    subst e
    refine ⟨c, h, sx_rf, fun K j5 j6 => ?_⟩
    rw [g63_43]
    simp only [↓g63_0, ↓g63_1, ↓g63_4, ↓g63_5, ↓g63_8, ↓g63_9, ↓g63_12, ↓g63_14, ↓g63_17, ↓g63_18, ↓g63_21, ↓g63_23, ↓g63_24, ↓g63_25, ↓g63_28, ↓g63_29, ↓g63_32, ↓g63_33, ↓g63_36, ↓g63_37, ↓g63_38, ↓g63_40, ↓g63_41, ↓g63_45, ↓g63_46, ↓g63_49, ↓g63_50, ↓g63_53, ↓g63_54, ↓g63_56, ↓g63_59, ↓g63_61, ↓g63_62, ↓g63_65, ↓g63_66, ↓g63_68, ↓g63_71, ↓g63_73, ↓g63_75, ↓g63_76, ↓g63_79, ↓g63_81, ↓g63_82, ↓g63_85, ↓g63_86, ↓g63_89, ↓g63_91, ↓g63_92, ↓g63_93, ↓g63_96, ↓g63_98, ↓g63_101, ↓g63_104, ↓g63_107, ↓g63_110, ↓g63_111, ↓g63_114, ↓g63_116, ↓g63_118, ↓g63_120, ↓g63_123, ↓g63_126, ↓g63_129, ↓g63_131, ↓mo_0, ↓mf_0_0, ↓mf_0_1, ↓mf_0_2, ↓mf_0_3, ↓mf_0_4, ↓mo_1, ↓mf_1_0, ↓mf_1_1, ↓mo_2, ↓mf_2_0, ↓mo_4, ↓mf_4_0, ↓mo_6, ↓mf_6_0, ↓mf_6_1, ↓mf_6_2, ↓mf_6_3, ↓mp_6_4, ↓mf_6_4, ↓mp_6_5, ↓mf_6_5, ↓mo_7, ↓mf_7_0, ↓mo_9, ↓mf_9_0, ↓mo_11, ↓mf_11_0, ↓mo_13, ↓mf_13_0, ↓mf_13_1, ↓mp_13_2, ↓mf_13_2, ↓mp_13_3, ↓mf_13_3, ↓mo_14, ↓mf_14_0, ↓mp_14_1, ↓mf_14_1, ↓mp_14_2, ↓mf_14_2, ↓mo_15, ↓mf_15_0, ↓mf_15_1, ↓mp_15_2, ↓mf_15_2, ↓mo_16, ↓mf_16_0, ↓mo_18, ↓mf_18_0, ↓ma_3, ↓ms_3, ↓ma_5, ↓ms_5, ↓ma_8, ↓ms_8, ↓ma_10, ↓ms_10, ↓ma_12, ↓ms_12, ↓ma_17, ↓ms_17, ↓ma_19, ↓ms_19, ↓bnd_some, ↓cond_true, ↓m_pv_none, ↓m_pv_some, m_b01_0, m_b01_1, true_and, and_true, Int32.le_refl, if_true]
  | n + 1, p, c, hp, h, hs => by
    have hTv : tu T 56 (bnl (T v) k p) v = T v := tu_ne (by omega)
    have hpl : p < (T v).length := by omega
    have g1 := q_kind (S := S) (t := t) (i := v) (p := p) h (by omega) (by rw [hTv]; exact hpl)
    have g2 := q_number (S := S) (t := t) (i := v) (p := p) h (by omega) (by rw [hTv]; exact hpl)
    rw [hTv] at g1 g2
    have hkd := hw.kd hpl
    have hnu := nu_lt hw hpl (by omega)
    have hd := dep_lt hw hpl (by omega)
    have e1 : ¬ nI (T v).length ≤ nI p := nI_ge (by omega) (by omega)
    have e2 : (nI (kd (T v) p) = 1) ↔ kd (T v) p = 1 := nI_eq (b := 1) (by omega) (by decide)
    have e3 : (nI (nu (T v) p) = nI k) ↔ nu (T v) p = k := nI_eq (by omega) (by omega)
    have e4 : rg 200 (c 10) (nI p) = nI (dep (T v) p) := hs.around (by omega) hpl
    have hb1 : (bnp (T v) k p).1 ≤ 3 ∧ (bnp (T v) k p).2 < 256 := by
      unfold bnp
      split
      · exact ⟨Nat.zero_le _, by show dep (T v) p < 256; omega⟩
      · exact ⟨by show kd (T v) p ≤ 3; omega, by show nu (T v) p < 256; omega⟩
    obtain ⟨c1, h1, s1, g3⟩ := q_append (S := S) (t := t) (i := 56) (k := (bnp (T v) k p).1) (n := (bnp (T v) k p).2) h (by omega) (by rw [tu_eq, bnl_len]; omega) hb1.1 hb1.2
    obtain ⟨c2, h2, s2, g4⟩ := d_draftL hv hw hl hk n (p + 1) c1 (by omega) (h1.congr fun j hj => by
      by_cases e : j = 56
      · subst e
        rw [tu_eq, tu_eq, tu_eq, bnl]
      · rw [tu_ne e, tu_ne e, tu_ne e]) (hs.sx s1 (by simp) (by simp) (by simp) (by simp))
    have e5 : bnc (T v) k (p + 1) = bnc (T v) k p + (if pt (T v) p = (1, k) then 1 else 0) := by
      unfold bnc
      rw [cnt]
      simp
    rw [e5] at g4
    refine ⟨c2, h2, sx_tr s1 s2, fun K j5 j6 => ?_⟩
    rw [g63_43]
    simp only [↓g63_0, ↓g63_1, ↓g63_4, ↓g63_5, ↓g63_8, ↓g63_9, ↓g63_12, ↓g63_14, ↓g63_17, ↓g63_18, ↓g63_21, ↓g63_23, ↓g63_24, ↓g63_25, ↓g63_28, ↓g63_29, ↓g63_32, ↓g63_33, ↓g63_36, ↓g63_37, ↓g63_38, ↓g63_40, ↓g63_41, ↓g63_45, ↓g63_46, ↓g63_49, ↓g63_50, ↓g63_53, ↓g63_54, ↓g63_56, ↓g63_59, ↓g63_61, ↓g63_62, ↓g63_65, ↓g63_66, ↓g63_68, ↓g63_71, ↓g63_73, ↓g63_75, ↓g63_76, ↓g63_79, ↓g63_81, ↓g63_82, ↓g63_85, ↓g63_86, ↓g63_89, ↓g63_91, ↓g63_92, ↓g63_93, ↓g63_96, ↓g63_98, ↓g63_101, ↓g63_104, ↓g63_107, ↓g63_110, ↓g63_111, ↓g63_114, ↓g63_116, ↓g63_118, ↓g63_120, ↓g63_123, ↓g63_126, ↓g63_129, ↓g63_131, ↓mo_0, ↓mf_0_0, ↓mf_0_1, ↓mf_0_2, ↓mf_0_3, ↓mf_0_4, ↓mo_1, ↓mf_1_0, ↓mf_1_1, ↓mo_2, ↓mf_2_0, ↓mo_4, ↓mf_4_0, ↓mo_6, ↓mf_6_0, ↓mf_6_1, ↓mf_6_2, ↓mf_6_3, ↓mp_6_4, ↓mf_6_4, ↓mp_6_5, ↓mf_6_5, ↓mo_7, ↓mf_7_0, ↓mo_9, ↓mf_9_0, ↓mo_11, ↓mf_11_0, ↓mo_13, ↓mf_13_0, ↓mf_13_1, ↓mp_13_2, ↓mf_13_2, ↓mp_13_3, ↓mf_13_3, ↓mo_14, ↓mf_14_0, ↓mp_14_1, ↓mf_14_1, ↓mp_14_2, ↓mf_14_2, ↓mo_15, ↓mf_15_0, ↓mf_15_1, ↓mp_15_2, ↓mf_15_2, ↓mo_16, ↓mf_16_0, ↓mo_18, ↓mf_18_0, ↓ma_3, ↓ms_3, ↓ma_5, ↓ms_5, ↓ma_8, ↓ms_8, ↓ma_10, ↓ms_10, ↓ma_12, ↓ms_12, ↓ma_17, ↓ms_17, ↓ma_19, ↓ms_19, ↓bnd_some, ↓cond_true, ↓m_pv_none, ↓m_pv_some, m_b01_0, m_b01_1, true_and, and_true, e1, if_false, ↓g1, ↓g2, e2, e3, ↓u_around, e4, nI_1]
    by_cases hc : pt (T v) p = (1, k)
    · have z1 : kd (T v) p = 1 := by unfold kd; rw [hc]
      have z2 : nu (T v) p = k := by unfold nu; rw [hc]
      have g3' : ∀ K : Option Value → mM → Prop, go S 26 0 [.ref 1, .int 56, .int 0, .int (nI (dep (T v) p)), .null] [] (mk c t) K = K none (mk c1 t) := by
        have e6 : bnp (T v) k p = (0, dep (T v) p) := if_pos hc
        rw [e6] at g3
        exact g3
      rw [if_pos hc] at g4
      rw [if_pos z1, if_pos z2, g3']
      simp only [↓g63_0, ↓g63_1, ↓g63_4, ↓g63_5, ↓g63_8, ↓g63_9, ↓g63_12, ↓g63_14, ↓g63_17, ↓g63_18, ↓g63_21, ↓g63_23, ↓g63_24, ↓g63_25, ↓g63_28, ↓g63_29, ↓g63_32, ↓g63_33, ↓g63_36, ↓g63_37, ↓g63_38, ↓g63_40, ↓g63_41, ↓g63_45, ↓g63_46, ↓g63_49, ↓g63_50, ↓g63_53, ↓g63_54, ↓g63_56, ↓g63_59, ↓g63_61, ↓g63_62, ↓g63_65, ↓g63_66, ↓g63_68, ↓g63_71, ↓g63_73, ↓g63_75, ↓g63_76, ↓g63_79, ↓g63_81, ↓g63_82, ↓g63_85, ↓g63_86, ↓g63_89, ↓g63_91, ↓g63_92, ↓g63_93, ↓g63_96, ↓g63_98, ↓g63_101, ↓g63_104, ↓g63_107, ↓g63_110, ↓g63_111, ↓g63_114, ↓g63_116, ↓g63_118, ↓g63_120, ↓g63_123, ↓g63_126, ↓g63_129, ↓g63_131, ↓mo_0, ↓mf_0_0, ↓mf_0_1, ↓mf_0_2, ↓mf_0_3, ↓mf_0_4, ↓mo_1, ↓mf_1_0, ↓mf_1_1, ↓mo_2, ↓mf_2_0, ↓mo_4, ↓mf_4_0, ↓mo_6, ↓mf_6_0, ↓mf_6_1, ↓mf_6_2, ↓mf_6_3, ↓mp_6_4, ↓mf_6_4, ↓mp_6_5, ↓mf_6_5, ↓mo_7, ↓mf_7_0, ↓mo_9, ↓mf_9_0, ↓mo_11, ↓mf_11_0, ↓mo_13, ↓mf_13_0, ↓mf_13_1, ↓mp_13_2, ↓mf_13_2, ↓mp_13_3, ↓mf_13_3, ↓mo_14, ↓mf_14_0, ↓mp_14_1, ↓mf_14_1, ↓mp_14_2, ↓mf_14_2, ↓mo_15, ↓mf_15_0, ↓mf_15_1, ↓mp_15_2, ↓mf_15_2, ↓mo_16, ↓mf_16_0, ↓mo_18, ↓mf_18_0, ↓ma_3, ↓ms_3, ↓ma_5, ↓ms_5, ↓ma_8, ↓ms_8, ↓ma_10, ↓ms_10, ↓ma_12, ↓ms_12, ↓ma_17, ↓ms_17, ↓ma_19, ↓ms_19, ↓bnd_some, ↓cond_true, ↓m_pv_none, ↓m_pv_some, m_b01_0, m_b01_1, true_and, and_true, nI_1]
      exact g4 K _ _
    · have g3' : ∀ K : Option Value → mM → Prop, go S 26 0 [.ref 1, .int 56, .int (nI (kd (T v) p)), .int (nI (nu (T v) p)), .null] [] (mk c t) K = K none (mk c1 t) := by
        have e6 : bnp (T v) k p = pt (T v) p := if_neg hc
        rw [e6] at g3
        exact g3
      rw [if_neg hc] at g4
      by_cases z1 : kd (T v) p = 1
      · rw [if_pos z1, if_neg (fun z2 : nu (T v) p = k => hc (Prod.ext (show (pt (T v) p).1 = 1 from z1) (show (pt (T v) p).2 = k from z2))), g3']
        simp only [↓g63_0, ↓g63_1, ↓g63_4, ↓g63_5, ↓g63_8, ↓g63_9, ↓g63_12, ↓g63_14, ↓g63_17, ↓g63_18, ↓g63_21, ↓g63_23, ↓g63_24, ↓g63_25, ↓g63_28, ↓g63_29, ↓g63_32, ↓g63_33, ↓g63_36, ↓g63_37, ↓g63_38, ↓g63_40, ↓g63_41, ↓g63_45, ↓g63_46, ↓g63_49, ↓g63_50, ↓g63_53, ↓g63_54, ↓g63_56, ↓g63_59, ↓g63_61, ↓g63_62, ↓g63_65, ↓g63_66, ↓g63_68, ↓g63_71, ↓g63_73, ↓g63_75, ↓g63_76, ↓g63_79, ↓g63_81, ↓g63_82, ↓g63_85, ↓g63_86, ↓g63_89, ↓g63_91, ↓g63_92, ↓g63_93, ↓g63_96, ↓g63_98, ↓g63_101, ↓g63_104, ↓g63_107, ↓g63_110, ↓g63_111, ↓g63_114, ↓g63_116, ↓g63_118, ↓g63_120, ↓g63_123, ↓g63_126, ↓g63_129, ↓g63_131, ↓mo_0, ↓mf_0_0, ↓mf_0_1, ↓mf_0_2, ↓mf_0_3, ↓mf_0_4, ↓mo_1, ↓mf_1_0, ↓mf_1_1, ↓mo_2, ↓mf_2_0, ↓mo_4, ↓mf_4_0, ↓mo_6, ↓mf_6_0, ↓mf_6_1, ↓mf_6_2, ↓mf_6_3, ↓mp_6_4, ↓mf_6_4, ↓mp_6_5, ↓mf_6_5, ↓mo_7, ↓mf_7_0, ↓mo_9, ↓mf_9_0, ↓mo_11, ↓mf_11_0, ↓mo_13, ↓mf_13_0, ↓mf_13_1, ↓mp_13_2, ↓mf_13_2, ↓mp_13_3, ↓mf_13_3, ↓mo_14, ↓mf_14_0, ↓mp_14_1, ↓mf_14_1, ↓mp_14_2, ↓mf_14_2, ↓mo_15, ↓mf_15_0, ↓mf_15_1, ↓mp_15_2, ↓mf_15_2, ↓mo_16, ↓mf_16_0, ↓mo_18, ↓mf_18_0, ↓ma_3, ↓ms_3, ↓ma_5, ↓ms_5, ↓ma_8, ↓ms_8, ↓ma_10, ↓ms_10, ↓ma_12, ↓ms_12, ↓ma_17, ↓ms_17, ↓ma_19, ↓ms_19, ↓bnd_some, ↓cond_true, ↓m_pv_none, ↓m_pv_some, m_b01_0, m_b01_1, true_and, and_true, nI_1]
        exact g4 K _ _
      · rw [if_neg z1, g3']
        simp only [↓g63_0, ↓g63_1, ↓g63_4, ↓g63_5, ↓g63_8, ↓g63_9, ↓g63_12, ↓g63_14, ↓g63_17, ↓g63_18, ↓g63_21, ↓g63_23, ↓g63_24, ↓g63_25, ↓g63_28, ↓g63_29, ↓g63_32, ↓g63_33, ↓g63_36, ↓g63_37, ↓g63_38, ↓g63_40, ↓g63_41, ↓g63_45, ↓g63_46, ↓g63_49, ↓g63_50, ↓g63_53, ↓g63_54, ↓g63_56, ↓g63_59, ↓g63_61, ↓g63_62, ↓g63_65, ↓g63_66, ↓g63_68, ↓g63_71, ↓g63_73, ↓g63_75, ↓g63_76, ↓g63_79, ↓g63_81, ↓g63_82, ↓g63_85, ↓g63_86, ↓g63_89, ↓g63_91, ↓g63_92, ↓g63_93, ↓g63_96, ↓g63_98, ↓g63_101, ↓g63_104, ↓g63_107, ↓g63_110, ↓g63_111, ↓g63_114, ↓g63_116, ↓g63_118, ↓g63_120, ↓g63_123, ↓g63_126, ↓g63_129, ↓g63_131, ↓mo_0, ↓mf_0_0, ↓mf_0_1, ↓mf_0_2, ↓mf_0_3, ↓mf_0_4, ↓mo_1, ↓mf_1_0, ↓mf_1_1, ↓mo_2, ↓mf_2_0, ↓mo_4, ↓mf_4_0, ↓mo_6, ↓mf_6_0, ↓mf_6_1, ↓mf_6_2, ↓mf_6_3, ↓mp_6_4, ↓mf_6_4, ↓mp_6_5, ↓mf_6_5, ↓mo_7, ↓mf_7_0, ↓mo_9, ↓mf_9_0, ↓mo_11, ↓mf_11_0, ↓mo_13, ↓mf_13_0, ↓mf_13_1, ↓mp_13_2, ↓mf_13_2, ↓mp_13_3, ↓mf_13_3, ↓mo_14, ↓mf_14_0, ↓mp_14_1, ↓mf_14_1, ↓mp_14_2, ↓mf_14_2, ↓mo_15, ↓mf_15_0, ↓mf_15_1, ↓mp_15_2, ↓mf_15_2, ↓mo_16, ↓mf_16_0, ↓mo_18, ↓mf_18_0, ↓ma_3, ↓ms_3, ↓ma_5, ↓ms_5, ↓ma_8, ↓ms_8, ↓ma_10, ↓ms_10, ↓ma_12, ↓ms_12, ↓ma_17, ↓ms_17, ↓ma_19, ↓ms_19, ↓bnd_some, ↓cond_true, ↓m_pv_none, ↓m_pv_some, m_b01_0, m_b01_1, true_and, and_true, nI_1]
        exact g4 K _ _
theorem d_draft {v : Nat} (hv : v < 56) (hw : WF (T v)) (hl : 1 + (T v).length ≤ 200) {k : Nat} (hk : k < 6) {c : Nat → Nat → Int32} (h : CS c T) : ∃ c', CS c' (tu T 56 (bnl (T v) k (T v).length)) ∧ sx [3, 5, 6, 8, 10, 12] c c' ∧ ∀ (K : Option Value → mM → Prop), go S 63 0 [.ref 0, .int (nI v), .int (nI k), .null, .null, .null, .null, .null] [] (mk c t) K = K (some (.int (nI (bnc (T v) k (T v).length)))) (mk c' t) := by
  obtain ⟨c1, v1, h1, s1, g1⟩ := q_look (S := S) (t := t) (v := v) (by omega) hw h
  obtain ⟨c2, h2, s2, g2⟩ := q_clear (S := S) (t := t) (i := 56) h1 (by omega)
  obtain ⟨c3, h3, s3, g3⟩ := q_append (S := S) (t := t) (i := 56) (k := 2) (n := 0) h2 (by omega) (by rw [tu_eq]; simp) (by omega) (by omega)
  obtain ⟨c4, h4, s4, g4⟩ := d_draftL (S := S) (t := t) hv hw hl hk (T v).length 0 c3 rfl (h3.congr fun j hj => by
    by_cases e : j = 56
    · subst e
      rw [tu_eq, tu_eq, tu_eq]
      rfl
    · rw [tu_ne e, tu_ne e, tu_ne e]) (v1.sx (sx_tr s2 s3) (by simp) (by simp) (by simp) (by simp))
  refine ⟨c4, h4, sx_tr (fun k hk => s1 k (by simp at hk ⊢; omega)) (sx_tr (fun k hk => (sx_tr s2 s3) k (by simp at hk ⊢; omega)) (fun k hk => s4 k (by simp at hk ⊢; omega))), fun K => ?_⟩
  have g2' : ∀ K : Option Value → mM → Prop, go S 25 0 [.ref 1, .int 56] [] (mk c1 t) K = K none (mk c2 t) := g2
  have g3' : ∀ K : Option Value → mM → Prop, go S 26 0 [.ref 1, .int 56, .int 2, .int 0, .null] [] (mk c2 t) K = K none (mk c3 t) := g3
  have g5 := q_length (S := S) (t := t) h3 (i := v) (by omega)
  rw [tu_ne (by omega), tu_ne (by omega)] at g5
  simp only [↓g63_0, ↓g63_1, ↓g63_4, ↓g63_5, ↓g63_8, ↓g63_9, ↓g63_12, ↓g63_14, ↓g63_17, ↓g63_18, ↓g63_21, ↓g63_23, ↓g63_24, ↓g63_25, ↓g63_28, ↓g63_29, ↓g63_32, ↓g63_33, ↓g63_36, ↓g63_37, ↓g63_38, ↓g63_40, ↓g63_41, ↓g63_45, ↓g63_46, ↓g63_49, ↓g63_50, ↓g63_53, ↓g63_54, ↓g63_56, ↓g63_59, ↓g63_61, ↓g63_62, ↓g63_65, ↓g63_66, ↓g63_68, ↓g63_71, ↓g63_73, ↓g63_75, ↓g63_76, ↓g63_79, ↓g63_81, ↓g63_82, ↓g63_85, ↓g63_86, ↓g63_89, ↓g63_91, ↓g63_92, ↓g63_93, ↓g63_96, ↓g63_98, ↓g63_101, ↓g63_104, ↓g63_107, ↓g63_110, ↓g63_111, ↓g63_114, ↓g63_116, ↓g63_118, ↓g63_120, ↓g63_123, ↓g63_126, ↓g63_129, ↓g63_131, ↓mo_0, ↓mf_0_0, ↓mf_0_1, ↓mf_0_2, ↓mf_0_3, ↓mf_0_4, ↓mo_1, ↓mf_1_0, ↓mf_1_1, ↓mo_2, ↓mf_2_0, ↓mo_4, ↓mf_4_0, ↓mo_6, ↓mf_6_0, ↓mf_6_1, ↓mf_6_2, ↓mf_6_3, ↓mp_6_4, ↓mf_6_4, ↓mp_6_5, ↓mf_6_5, ↓mo_7, ↓mf_7_0, ↓mo_9, ↓mf_9_0, ↓mo_11, ↓mf_11_0, ↓mo_13, ↓mf_13_0, ↓mf_13_1, ↓mp_13_2, ↓mf_13_2, ↓mp_13_3, ↓mf_13_3, ↓mo_14, ↓mf_14_0, ↓mp_14_1, ↓mf_14_1, ↓mp_14_2, ↓mf_14_2, ↓mo_15, ↓mf_15_0, ↓mf_15_1, ↓mp_15_2, ↓mf_15_2, ↓mo_16, ↓mf_16_0, ↓mo_18, ↓mf_18_0, ↓ma_3, ↓ms_3, ↓ma_5, ↓ms_5, ↓ma_8, ↓ms_8, ↓ma_10, ↓ms_10, ↓ma_12, ↓ms_12, ↓ma_17, ↓ms_17, ↓ma_19, ↓ms_19, ↓bnd_some, ↓cond_true, ↓m_pv_none, ↓m_pv_some, m_b01_0, m_b01_1, true_and, and_true, ↓g1, ↓g2', ↓g3', ↓g5]
  exact g4 K _ _
end DRAFT

