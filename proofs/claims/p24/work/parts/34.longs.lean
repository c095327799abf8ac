/-! longs (rows of the kit's laws/BITS, as they are given for pasting) -/
theorem wb_tb (n : Nat) : (lN n).toBitVec = BitVec.ofNat 64 n := rfl
theorem wb_inj {a b : Int64} (h : a.toBitVec = b.toBitVec) : a = b := Int64.toBitVec_inj.mp h
theorem wb_tn {n : Nat} (h : n < 2 ^ 64) : (lN n).toBitVec.toNat = n := by rw [wb_tb, BitVec.toNat_ofNat, Nat.mod_eq_of_lt h]
theorem wb_of (x : Int64) : ∃ n, n < 2 ^ 64 ∧ x = lN n := ⟨x.toBitVec.toNat, x.toBitVec.isLt, wb_inj (by rw [wb_tb]; simp)⟩
theorem wb_c : ∀ k, k < 64 → ((nI k).toInt64 &&& 63) = lN k := by decide +kernel
theorem wb_cu : ∀ k, k < 64 → ((nI k).toInt64.toUInt64 &&& Int64.toUInt64 63) = UInt64.ofNat k := by decide +kernel
theorem wb_sm : ∀ k, k < 64 → (BitVec.ofNat 64 k).smod 64 = BitVec.ofNat 64 k := by decide +kernel
theorem wb_pw {a b : Nat} (h : a ≤ b) : 2 ^ b = 2 ^ a * 2 ^ (b - a) := by rw [← Nat.pow_add]; congr 1; omega
theorem wb_lt2 {a b : Nat} (h : a < b) : 2 ^ a < 2 ^ b := Nat.pow_lt_pow_right (by decide) h
theorem wb_mod (n : Nat) : lN n = lN (n % 2 ^ 64) := wb_inj (by rw [wb_tb, wb_tb]; apply BitVec.eq_of_toNat_eq; rw [BitVec.toNat_ofNat, BitVec.toNat_ofNat, Nat.mod_mod])
theorem wb_shr {n k : Nat} (hn : n < 2 ^ 64) (hk : k < 64) : ((lN n).toUInt64 >>> ((nI k).toInt64.toUInt64 &&& Int64.toUInt64 63)).toInt64 = lN (n / 2 ^ k) := by
  rw [wb_cu k hk]
  apply wb_inj
  apply BitVec.eq_of_toNat_eq
  show ((lN n).toUInt64 >>> UInt64.ofNat k).toNat = (BitVec.ofNat 64 _).toNat
  have h1 : (UInt64.ofNat k).toNat = k := by
    show (BitVec.ofNat 64 k).toNat = k
    rw [BitVec.toNat_ofNat, Nat.mod_eq_of_lt (by omega)]
  have h2 : (lN n).toUInt64.toNat = n := wb_tn hn
  rw [UInt64.toNat_shiftRight, h1, h2, Nat.mod_eq_of_lt hk, Nat.shiftRight_eq_div_pow, BitVec.toNat_ofNat, Nat.mod_eq_of_lt (Nat.lt_of_le_of_lt (Nat.div_le_self _ _) hn)]
theorem wb_and {a b : Nat} (ha : a < 2 ^ 64) (hb : b < 2 ^ 64) : lN a &&& lN b = lN (a &&& b) := by
  apply wb_inj
  rw [Int64.toBitVec_and, wb_tb, wb_tb, wb_tb]
  apply BitVec.eq_of_toNat_eq
  rw [BitVec.toNat_and, BitVec.toNat_ofNat, BitVec.toNat_ofNat, BitVec.toNat_ofNat, Nat.mod_eq_of_lt ha, Nat.mod_eq_of_lt hb, Nat.mod_eq_of_lt (Nat.and_lt_two_pow _ hb)]
theorem wb_mask {n k : Nat} (hn : n < 2 ^ 64) (hk : k < 64) : lN n &&& lN (2 ^ k - 1) = lN (n % 2 ^ k) := by
  rw [wb_and hn (by have := wb_lt2 hk; omega), Nat.and_two_pow_sub_one_eq_mod]
theorem lN_0 {r : Nat} (h : r < 2 ^ 64) : lN r = 0 ↔ r = 0 := by
  constructor
  · intro z
    have h1 := wb_tn h
    rw [z] at h1
    have h2 : (0 : Int64).toBitVec.toNat = 0 := by decide
    omega
  · rintro rfl
    rfl
theorem l_255 : (255 : Int64) = lN (2 ^ 8 - 1) := rfl
/-- the characters that a number gives, the last first -/
def bys : Nat → Nat → Option (List Nat)
  | 0, r => if r = 0 then some [] else none
  | n + 1, r => if r % 256 = 0 then (if r = 0 then some [] else none) else if 33 ≤ r % 256 ∧ r % 256 ≤ 126 then (match bys n (r / 256) with
    | some l => some (r % 256 :: l)
    | none => none) else none
theorem bys_all : ∀ {n r : Nat} {l : List Nat}, bys n r = some l → l.length ≤ n ∧ (∀ c ∈ l, 33 ≤ c ∧ c ≤ 126) ∧ ∀ i, i < l.length → l.getD i 0 = r / 2 ^ (8 * i) % 256
  | 0, r, l, h => by
    unfold bys at h
    split at h
    · cases h
      exact ⟨Nat.le_refl _, fun c hc => (by cases hc), fun i hi => absurd hi (Nat.not_lt_zero i)⟩
    · cases h
  | n + 1, r, l, h => by
    unfold bys at h
    split at h
    · split at h
      · cases h
        exact ⟨Nat.zero_le _, fun c hc => (by cases hc), fun i hi => absurd hi (Nat.not_lt_zero i)⟩
      · cases h
    · split at h
      · rename_i hc
        cases hb : bys n (r / 256) with
        | none => rw [hb] at h; cases h
        | some l' =>
          rw [hb] at h
          cases h
          obtain ⟨i1, i2, i3⟩ := bys_all hb
          refine ⟨by rw [List.length_cons]; omega, fun c hcm => ?_, fun i hi => ?_⟩
          · rcases List.mem_cons.mp hcm with e | e
            · rw [e]; exact hc
            · exact i2 c e
          · cases i with
            | zero => simp
            | succ i =>
              have := i3 i (by rw [List.length_cons] at hi; omega)
              rw [List.getD_cons_succ, this, Nat.div_div_eq_div_mul]
              congr 2
              rw [show 8 * (i + 1) = 8 + 8 * i by omega, Nat.pow_add]
      · cases h

