/-! Row: numbers at places -/
def rg (n : Nat) (f : Nat → Int32) (i : Int32) : Int32 := if 0 ≤ i ∧ i < nI n then f i.toNatClampNeg else 0
theorem rg_in {n : Nat} {f : Nat → Int32} {i : Nat} (h : i < n) (hn : n < 2 ^ 31) : rg n f (nI i) = f i := by
  unfold rg
  rw [if_pos ⟨nI_pos' (by omega), nI_lt h hn⟩, nI_clamp (by omega)]
theorem inb_iff {i : Int32} {n : Nat} (hn : n < 2 ^ 31) : m_inb i n = true ↔ 0 ≤ i ∧ i < nI n := by
  simp only [m_inb, Bool.and_eq_true, decide_eq_true_eq]
  refine and_congr_right fun h => ?_
  rw [Int32.lt_iff_toInt_lt, nI_toInt hn]
  have h0 : 0 ≤ i.toInt := by simpa using Int32.le_iff_toInt_le.mp h
  show i.toInt.toNat < n ↔ _
  omega
theorem rg_out {n : Nat} {f : Nat → Int32} {i : Int32} (h : ¬ (0 ≤ i ∧ i < nI n)) : rg n f i = 0 := if_neg h
theorem s_get {S : mS} {M : mM} {K : Option Value → mM → Prop} {k a n : Nat} {f : Nat → Int32} (i : Int32) (h1 : m_fld M k 3 0 = some (.ref a)) (h2 : m_arr M a = some (n, f)) (hn : n < 2 ^ 31) : go S 18 0 [.ref k, .int i] [] M K = K (some (.int (rg n f i))) M := by
  simp only [↓g18_0, ↓g18_1, ↓g18_4, ↓g18_5, ↓g18_6, ↓g18_9, ↓g18_10, ↓g18_13, ↓g18_14, ↓g18_17, ↓g18_18, ↓g18_19, ↓g18_22, ↓g18_23, h1, h2, ↓bnd_some, inb_iff hn]
  by_cases h : 0 ≤ i ∧ i < nI n
  · unfold rg
    simp only [h, Int32.not_lt.mpr h.1, Int32.not_le.mpr h.2, and_self, if_true, if_false, true_and]
  · rw [rg_out h]
    by_cases h3 : i < 0
    · simp only [h3, if_true]
    · have h4 : nI n ≤ i := Int32.not_lt.mp fun z => h ⟨Int32.not_lt.mp h3, z⟩
      simp only [h3, h4, if_true, if_false]
/-- a place of a row is written, if it is there -/
def rs (c : Nat → Nat → Int32) (a n : Nat) (i v : Int32) : Nat → Nat → Int32 := if 0 ≤ i ∧ i < nI n then ca c a (upd (c a) i.toNatClampNeg v) else c
theorem rs_in {c : Nat → Nat → Int32} {a n i : Nat} {v : Int32} (h : i < n) (hn : n < 2 ^ 31) : rs c a n (nI i) v = ca c a (upd (c a) i v) := by
  unfold rs
  rw [if_pos ⟨nI_pos' (by omega), nI_lt h hn⟩, nI_clamp (by omega)]
theorem s_set {S : mS} {M M1 : mM} {K : Option Value → mM → Prop} {k a n : Nat} {f : Nat → Int32} (i v : Int32) (h1 : m_fld M k 3 0 = some (.ref a)) (h2 : m_arr M a = some (n, f)) (hn : n < 2 ^ 31) (h3 : (if 0 ≤ i ∧ i < nI n then M.set a (.inl (n, upd f i.toNatClampNeg v)) else M) = M1) : go S 19 0 [.ref k, .int i, .int v] [] M K = K none M1 := by
  subst h3
  simp only [↓g19_0, ↓g19_1, ↓g19_4, ↓g19_5, ↓g19_6, ↓g19_9, ↓g19_10, ↓g19_13, ↓g19_14, ↓g19_17, ↓g19_18, ↓g19_19, ↓g19_20, h1, h2, ↓bnd_some, inb_iff hn]
  by_cases h : 0 ≤ i ∧ i < nI n
  · simp only [h, Int32.not_lt.mpr h.1, Int32.not_le.mpr h.2, and_self, if_true, if_false, true_and]
  · by_cases h3 : i < 0
    · simp only [h, h3, if_true, if_false]
    · have h4 : nI n ≤ i := Int32.not_lt.mp fun z => h ⟨Int32.not_lt.mp h3, z⟩
      simp only [h, h3, h4, if_true, if_false]
/-- a stretch of a row is copied within it, if all its places are there -/
def rmOk (n : Nat) (p q w : Int32) : Prop := 0 < w ∧ 0 ≤ p ∧ p ≤ nI n - w ∧ 0 ≤ q ∧ q ≤ nI n - w
theorem s_move {S : mS} {M M1 : mM} {K : Option Value → mM → Prop} {k a n : Nat} {f : Nat → Int32} (p q w : Nat) (h1 : m_fld M k 3 0 = some (.ref a)) (h2 : m_arr M a = some (n, f)) (hn : n < 2 ^ 30) (hw : 0 < w) (hp : p + w ≤ n) (hq : q + w ≤ n) (h3 : M.set a (.inl (n, va_cpy f f p q w)) = M1) : go S 20 0 [.ref k, .int (nI p), .int (nI q), .int (nI w), .null] [] M K = K none M1 := by
  subst h3
  have e1 : m_cpy M a (nI p) a (nI q) (nI w) = some (M.set a (.inl (n, va_cpy f f p q w))) := by
    have h4 := m_arr_of h2
    unfold m_cpy
    simp only [h4, nI_clamp (show p < 2 ^ 31 by omega), nI_clamp (show q < 2 ^ 31 by omega), nI_clamp (show w < 2 ^ 31 by omega), nI_pos' (show p < 2 ^ 31 by omega), nI_pos' (show q < 2 ^ 31 by omega), nI_pos' (show w < 2 ^ 31 by omega), hp, hq, decide_true, Bool.and_self, cond_true]
  have e2 : nI n - nI w = nI (n - w) := pk_sub (by omega)
  simp only [↓g20_0, ↓g20_1, ↓g20_4, ↓g20_5, ↓g20_6, ↓g20_7, ↓g20_9, ↓g20_10, ↓g20_13, ↓g20_14, ↓g20_17, ↓g20_18, ↓g20_20, ↓g20_23, ↓g20_24, ↓g20_27, ↓g20_28, ↓g20_30, ↓g20_33, ↓g20_34, ↓g20_37, ↓g20_38, ↓g20_39, ↓g20_42, ↓g20_43, ↓g20_44, ↓g20_47, h1, h2, ↓bnd_some, e1, e2, nI_nle hw (show w < 2 ^ 31 by omega), nI_pos (show p < 2 ^ 31 by omega), nI_pos (show q < 2 ^ 31 by omega), nI_nlt (show p ≤ n - w by omega) (show n - w < 2 ^ 31 by omega), nI_nlt (show q ≤ n - w by omega) (show n - w < 2 ^ 31 by omega), if_false]
section ROWS
variable {S : mS} {K : Option Value → mM → Prop} (c : Nat → Nat → Int32) (t : mM)
theorem r_get_2 (i : Int32) : go S 18 0 [.ref 2, .int i] [] (mk c t) K = K (some (.int (rg 57 (c 3) i))) (mk c t) := s_get i (mf_2_0 c t) (ma_3 c t) (by decide)
theorem r_set_2 (i v : Int32) : go S 19 0 [.ref 2, .int i, .int v] [] (mk c t) K = K none (mk (rs c 3 57 i v) t) := s_set i v (mf_2_0 c t) (ma_3 c t) (by decide) (by unfold rs; split <;> rfl)
theorem r_get_4 (i : Int32) : go S 18 0 [.ref 4, .int i] [] (mk c t) K = K (some (.int (rg 11400 (c 5) i))) (mk c t) := s_get i (mf_4_0 c t) (ma_5 c t) (by decide)
theorem r_set_4 (i v : Int32) : go S 19 0 [.ref 4, .int i, .int v] [] (mk c t) K = K none (mk (rs c 5 11400 i v) t) := s_set i v (mf_4_0 c t) (ma_5 c t) (by decide) (by unfold rs; split <;> rfl)
theorem r_get_7 (i : Int32) : go S 18 0 [.ref 7, .int i] [] (mk c t) K = K (some (.int (rg 200 (c 8) i))) (mk c t) := s_get i (mf_7_0 c t) (ma_8 c t) (by decide)
theorem r_set_7 (i v : Int32) : go S 19 0 [.ref 7, .int i, .int v] [] (mk c t) K = K none (mk (rs c 8 200 i v) t) := s_set i v (mf_7_0 c t) (ma_8 c t) (by decide) (by unfold rs; split <;> rfl)
theorem r_get_9 (i : Int32) : go S 18 0 [.ref 9, .int i] [] (mk c t) K = K (some (.int (rg 200 (c 10) i))) (mk c t) := s_get i (mf_9_0 c t) (ma_10 c t) (by decide)
theorem r_set_9 (i v : Int32) : go S 19 0 [.ref 9, .int i, .int v] [] (mk c t) K = K none (mk (rs c 10 200 i v) t) := s_set i v (mf_9_0 c t) (ma_10 c t) (by decide) (by unfold rs; split <;> rfl)
theorem r_get_11 (i : Int32) : go S 18 0 [.ref 11, .int i] [] (mk c t) K = K (some (.int (rg 200 (c 12) i))) (mk c t) := s_get i (mf_11_0 c t) (ma_12 c t) (by decide)
theorem r_set_11 (i v : Int32) : go S 19 0 [.ref 11, .int i, .int v] [] (mk c t) K = K none (mk (rs c 12 200 i v) t) := s_set i v (mf_11_0 c t) (ma_12 c t) (by decide) (by unfold rs; split <;> rfl)
theorem r_get_16 (i : Int32) : go S 18 0 [.ref 16, .int i] [] (mk c t) K = K (some (.int (rg 60 (c 17) i))) (mk c t) := s_get i (mf_16_0 c t) (ma_17 c t) (by decide)
theorem r_set_16 (i v : Int32) : go S 19 0 [.ref 16, .int i, .int v] [] (mk c t) K = K none (mk (rs c 17 60 i v) t) := s_set i v (mf_16_0 c t) (ma_17 c t) (by decide) (by unfold rs; split <;> rfl)
theorem r_get_18 (i : Int32) : go S 18 0 [.ref 18, .int i] [] (mk c t) K = K (some (.int (rg 61 (c 19) i))) (mk c t) := s_get i (mf_18_0 c t) (ma_19 c t) (by decide)
theorem r_set_18 (i v : Int32) : go S 19 0 [.ref 18, .int i, .int v] [] (mk c t) K = K none (mk (rs c 19 61 i v) t) := s_set i v (mf_18_0 c t) (ma_19 c t) (by decide) (by unfold rs; split <;> rfl)
theorem r_move_4 {p q w : Nat} (hw : 0 < w) (hp : p + w ≤ 11400) (hq : q + w ≤ 11400) : go S 20 0 [.ref 4, .int (nI p), .int (nI q), .int (nI w), .null] [] (mk c t) K = K none (mk (ca c 5 (va_cpy (c 5) (c 5) p q w)) t) := s_move p q w (mf_4_0 c t) (ma_5 c t) (by decide) hw hp hq rfl
end ROWS

