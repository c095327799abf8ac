/-! the law holds, in the small machine -/
theorem lw_cond {L i : Nat} (hL : L < 2 ^ 31) (hi : i ≤ L) : (nI L - 4 < nI i) ↔ L < i + 4 := by
  rw [show (4 : Int32) = nI 4 from rfl]
  by_cases h4 : 4 ≤ L
  · rw [pk_sub h4, nI_ltI (by omega) (by omega)]
    omega
  · rw [Int32.lt_iff_toInt_lt, pk_sub_toInt (by omega) (by decide), nI_toInt (by omega)]
    omega
theorem lw_loop {S : mS} (hS : S.1 < 2 ^ 31) {z : UInt32} {K : Option Value → mM → Prop} (hK : ∀ c d, K (some (.int 1)) (mk c (md d))) : ∀ (n i : Nat) (c d : Nat → Nat → Int32) (σ : Sg), S.1 ≤ i + n → i ≤ S.1 → CI c σ → MI d σ → SOk σ → go S 138 18 [.float z, .ref 0, .ref 20, .int (nI i)] [] (mk c (md d)) K
  | 0, i, c, d, σ, hn, hi, h, hm, ho => by
    have e1 : nI S.1 - 4 < nI i := (lw_cond hS hi).mpr (by omega)
    simp only [↓g138_18, ↓g138_19, ↓g138_20, ↓g138_21, ↓g138_22, ↓g138_23, ↓g138_26, ↓g138_27, ↓g138_28, ↓g138_29, ↓g138_31, ↓g138_32, ↓g138_821, ↓g138_822, e1, ↓reduceIte, m_b01_1, true_and]
    exact hK c d
  | n + 1, i, c, d, σ, hn, hi, h, hm, ho => by
    by_cases hc : S.1 < i + 4
    · have e1 : nI S.1 - 4 < nI i := (lw_cond hS hi).mpr hc
      simp only [↓g138_18, ↓g138_19, ↓g138_20, ↓g138_21, ↓g138_22, ↓g138_23, ↓g138_26, ↓g138_27, ↓g138_28, ↓g138_29, ↓g138_31, ↓g138_32, ↓g138_821, ↓g138_822, e1, ↓reduceIte, m_b01_1, true_and]
      exact hK c d
    · have e1 : ¬ nI S.1 - 4 < nI i := fun y => hc ((lw_cond hS hi).mp y)
      have hi4 : i + 4 ≤ S.1 := by omega
      have next : ∀ c' d' σ', CI c' σ' → MI d' σ' → SOk σ' → go S 138 815 [.float z, .ref 0, .ref 20, .int (nI i)] [] (mk c' (md d')) K := fun c' d' σ' y1 y2 y3 => by
        rw [g138_815, g138_818, show nI i + 4 = nI (i + 4) from nI_add i 4]
        exact lw_loop hS hK n (i + 4) c' d' σ' (by omega) hi4 y1 y2 y3
      simp only [↓g138_18, ↓g138_19, ↓g138_20, ↓g138_21, ↓g138_22, ↓g138_23, ↓g138_26, ↓g138_27, ↓g138_28, ↓g138_29, ↓g138_31, ↓g138_32, ↓g138_821, ↓g138_822, e1, ↓reduceIte, ib (show i < S.1 by omega) hS, nI_clamp (show i < 2 ^ 31 by omega), true_and]
      generalize S.2 i &&& 31 = x
      by_cases q0 : x = 0
      · rw [if_pos q0]
        obtain ⟨c1, d1, σ1, y1, y2, y3, y4⟩ := lw_read (S := S) (z := z) hi4 hS h hm ho
        rw [y4]
        exact next c1 d1 σ1 y1 y2 y3
      rw [if_neg q0]
      by_cases q1 : x = 1
      · rw [if_pos q1]
        obtain ⟨c1, d1, σ1, y1, y2, y3, y4⟩ := lw_copy (S := S) (z := z) hi4 hS h hm ho
        rw [y4]
        exact next c1 d1 σ1 y1 y2 y3
      rw [if_neg q1]
      by_cases q2 : x = 2
      · rw [if_pos q2]
        obtain ⟨c1, d1, σ1, y1, y2, y3, y4⟩ := lw_apply (S := S) (z := z) hi4 hS h hm ho
        rw [y4]
        exact next c1 d1 σ1 y1 y2 y3
      rw [if_neg q2]
      by_cases q3 : x = 3
      · rw [if_pos q3]
        obtain ⟨c1, d1, σ1, y1, y2, y3, y4⟩ := lw_bind (S := S) (z := z) hi4 hS h hm ho
        rw [y4]
        exact next c1 d1 σ1 y1 y2 y3
      rw [if_neg q3]
      by_cases q4 : x = 4
      · rw [if_pos q4]
        obtain ⟨c1, d1, σ1, y1, y2, y3, y4⟩ := lw_step (S := S) (z := z) hi4 hS h hm ho
        rw [y4]
        exact next c1 d1 σ1 y1 y2 y3
      rw [if_neg q4]
      by_cases q5 : x = 5
      · rw [if_pos q5]
        obtain ⟨c1, d1, σ1, y1, y2, y3, y4⟩ := lw_run (S := S) (z := z) hi4 hS h hm ho
        rw [y4]
        exact next c1 d1 σ1 y1 y2 y3
      rw [if_neg q5]
      by_cases q6 : x = 6
      · rw [if_pos q6]
        obtain ⟨c1, d1, σ1, y1, y2, y3, y4⟩ := lw_of (S := S) (z := z) hi4 hS h hm ho
        rw [y4]
        exact next c1 d1 σ1 y1 y2 y3
      rw [if_neg q6]
      by_cases q7 : x = 7
      · rw [if_pos q7]
        obtain ⟨c1, d1, σ1, y1, y2, y3, y4⟩ := lw_part (S := S) (z := z) hi4 hS h hm ho
        rw [y4]
        exact next c1 d1 σ1 y1 y2 y3
      rw [if_neg q7]
      by_cases q8 : x = 8
      · rw [if_pos q8]
        obtain ⟨c1, d1, σ1, y1, y2, y3, y4⟩ := lw_named (S := S) (z := z) hi4 hS h hm ho
        rw [y4]
        exact next c1 d1 σ1 y1 y2 y3
      rw [if_neg q8]
      by_cases q9 : x = 9
      · rw [if_pos q9]
        obtain ⟨c1, d1, σ1, y1, y2, y3, y4⟩ := lw_same (S := S) (z := z) hi4 hS h hm ho
        rw [y4]
        exact next c1 d1 σ1 y1 y2 y3
      rw [if_neg q9]
      by_cases q10 : x = 10
      · rw [if_pos q10]
        obtain ⟨c1, d1, σ1, y1, y2, y3, y4⟩ := lw_count (S := S) (z := z) hi4 hS h hm ho
        rw [y4]
        exact next c1 d1 σ1 y1 y2 y3
      rw [if_neg q10]
      by_cases q11 : x = 11
      · rw [if_pos q11]
        obtain ⟨c1, d1, σ1, y1, y2, y3, y4⟩ := lw_ends (S := S) (z := z) hi4 hS h hm ho
        rw [y4]
        exact next c1 d1 σ1 y1 y2 y3
      rw [if_neg q11]
      by_cases q12 : x = 12
      · rw [if_pos q12]
        obtain ⟨c1, d1, σ1, y1, y2, y3, y4⟩ := lw_agree (S := S) (z := z) hi4 hS h hm ho
        rw [y4]
        exact next c1 d1 σ1 y1 y2 y3
      rw [if_neg q12]
      by_cases q13 : x = 13
      · rw [if_pos q13]
        obtain ⟨c1, d1, σ1, y1, y2, y3, y4⟩ := lw_most (S := S) (z := z) hi4 hS h hm ho
        rw [y4]
        exact next c1 d1 σ1 y1 y2 y3
      rw [if_neg q13]
      by_cases q14 : x = 14
      · rw [if_pos q14]
        obtain ⟨c1, d1, σ1, y1, y2, y3, y4⟩ := lw_alike (S := S) (z := z) hi4 hS h hm ho
        rw [y4]
        exact next c1 d1 σ1 y1 y2 y3
      rw [if_neg q14]
      by_cases q15 : x = 15
      · rw [if_pos q15]
        obtain ⟨c1, d1, σ1, y1, y2, y3, y4⟩ := lw_put (S := S) (z := z) hi4 hS h hm ho
        rw [y4]
        exact next c1 d1 σ1 y1 y2 y3
      rw [if_neg q15]
      by_cases q16 : x = 16
      · rw [if_pos q16]
        obtain ⟨c1, d1, σ1, y1, y2, y3, y4⟩ := lw_wipe (S := S) (z := z) hi4 hS h hm ho
        rw [y4]
        exact next c1 d1 σ1 y1 y2 y3
      rw [if_neg q16]
      by_cases q17 : x = 17
      · rw [if_pos q17]
        obtain ⟨c1, d1, σ1, y1, y2, y3, y4⟩ := lw_fault (S := S) (z := z) hi4 hS h hm ho
        rw [y4]
        exact next c1 d1 σ1 y1 y2 y3
      rw [if_neg q17]
      by_cases q18 : x = 18
      · rw [if_pos q18]
        obtain ⟨c1, d1, σ1, y1, y2, y3, y4⟩ := lw_undo (S := S) (z := z) hi4 hS h hm ho
        rw [y4]
        exact next c1 d1 σ1 y1 y2 y3
      rw [if_neg q18]
      by_cases q19 : x = 19
      · rw [if_pos q19]
        obtain ⟨c1, d1, σ1, y1, y2, y3, y4⟩ := lw_save (S := S) (z := z) hi4 hS h hm ho
        rw [y4]
        exact next c1 d1 σ1 y1 y2 y3
      rw [if_neg q19]
      by_cases q20 : x = 20
      · rw [if_pos q20]
        obtain ⟨c1, d1, σ1, y1, y2, y3, y4⟩ := lw_restore (S := S) (z := z) hi4 hS h hm ho
        rw [y4]
        exact next c1 d1 σ1 y1 y2 y3
      rw [if_neg q20]
      exact next c d σ h hm ho
theorem lw_all {S : mS} (hS : S.1 < 2 ^ 31) {z : UInt32} {K : Option Value → mM → Prop} (hK : ∀ c d, K (some (.int 1)) (mk c (md d))) : go S 138 0 [.float z, .null, .null, .null] [] [] K := by
  obtain ⟨c, h1, g1⟩ := z_C (S := S)
  obtain ⟨d, h2, g2⟩ := z_M (S := S) (c := c)
  rw [z_new, g1, m_pv_none, g138_7, z_newM, g2, m_pv_none, g138_15, g138_16, g138_17]
  exact lw_loop hS hK S.1 0 c d σ0 (by omega) (Nat.zero_le _) h1 h2 σ0_ok
