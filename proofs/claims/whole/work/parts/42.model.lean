/-! the model: what is read and written, the row in view, its depths and ends -/
theorem cz_1 (d : Nat → Nat → Int32) (f : Nat → Int32) : ca d 1 f 0 = d 0 := rfl
theorem cz_2 (d : Nat → Nat → Int32) (f : Nat → Int32) : ca d 2 f 0 = d 0 := rfl
theorem cz_3 (d : Nat → Nat → Int32) (f : Nat → Int32) : ca d 3 f 0 = d 0 := rfl
theorem cz_4 (d : Nat → Nat → Int32) (f : Nat → Int32) : ca d 4 f 0 = d 0 := rfl
theorem cz_5 (d : Nat → Nat → Int32) (f : Nat → Int32) : ca d 5 f 0 = d 0 := rfl
theorem cz_6 (d : Nat → Nat → Int32) (f : Nat → Int32) : ca d 6 f 0 = d 0 := rfl
theorem cz_7 (d : Nat → Nat → Int32) (f : Nat → Int32) : ca d 7 f 0 = d 0 := rfl
theorem cz_8 (d : Nat → Nat → Int32) (f : Nat → Int32) : ca d 8 f 0 = d 0 := rfl
theorem cz_9 (d : Nat → Nat → Int32) (f : Nat → Int32) : ca d 9 f 0 = d 0 := rfl
theorem cz_10 (d : Nat → Nat → Int32) (f : Nat → Int32) : ca d 10 f 0 = d 0 := rfl
theorem cz_11 (d : Nat → Nat → Int32) (f : Nat → Int32) : ca d 11 f 0 = d 0 := rfl
theorem cn_1 (d : Nat → Nat → Int32) (f : Nat → Int32) : ca d 0 f 1 = d 1 := rfl
theorem cn_2 (d : Nat → Nat → Int32) (f : Nat → Int32) : ca d 0 f 2 = d 2 := rfl
theorem cn_3 (d : Nat → Nat → Int32) (f : Nat → Int32) : ca d 0 f 3 = d 3 := rfl
theorem cn_4 (d : Nat → Nat → Int32) (f : Nat → Int32) : ca d 0 f 4 = d 4 := rfl
theorem cn_5 (d : Nat → Nat → Int32) (f : Nat → Int32) : ca d 0 f 5 = d 5 := rfl
theorem cn_6 (d : Nat → Nat → Int32) (f : Nat → Int32) : ca d 0 f 6 = d 6 := rfl
theorem cn_7 (d : Nat → Nat → Int32) (f : Nat → Int32) : ca d 0 f 7 = d 7 := rfl
theorem cn_8 (d : Nat → Nat → Int32) (f : Nat → Int32) : ca d 0 f 8 = d 8 := rfl
theorem cn_9 (d : Nat → Nat → Int32) (f : Nat → Int32) : ca d 0 f 9 = d 9 := rfl
theorem cn_10 (d : Nat → Nat → Int32) (f : Nat → Int32) : ca d 0 f 10 = d 10 := rfl
theorem cn_11 (d : Nat → Nat → Int32) (f : Nat → Int32) : ca d 0 f 11 = d 11 := rfl
theorem un_2_6 (f : Nat → Int32) (v : Int32) : upd f 2 v 6 = f 6 := rfl
theorem un_2_8 (f : Nat → Int32) (v : Int32) : upd f 2 v 8 = f 8 := rfl
theorem un_2_11 (f : Nat → Int32) (v : Int32) : upd f 2 v 11 = f 11 := rfl
theorem un_2_14 (f : Nat → Int32) (v : Int32) : upd f 2 v 14 = f 14 := rfl
theorem un_2_16 (f : Nat → Int32) (v : Int32) : upd f 2 v 16 = f 16 := rfl
theorem un_6_2 (f : Nat → Int32) (v : Int32) : upd f 6 v 2 = f 2 := rfl
theorem un_6_8 (f : Nat → Int32) (v : Int32) : upd f 6 v 8 = f 8 := rfl
theorem un_6_11 (f : Nat → Int32) (v : Int32) : upd f 6 v 11 = f 11 := rfl
theorem un_6_14 (f : Nat → Int32) (v : Int32) : upd f 6 v 14 = f 14 := rfl
theorem un_6_16 (f : Nat → Int32) (v : Int32) : upd f 6 v 16 = f 16 := rfl
theorem un_8_2 (f : Nat → Int32) (v : Int32) : upd f 8 v 2 = f 2 := rfl
theorem un_8_6 (f : Nat → Int32) (v : Int32) : upd f 8 v 6 = f 6 := rfl
theorem un_8_11 (f : Nat → Int32) (v : Int32) : upd f 8 v 11 = f 11 := rfl
theorem un_8_14 (f : Nat → Int32) (v : Int32) : upd f 8 v 14 = f 14 := rfl
theorem un_8_16 (f : Nat → Int32) (v : Int32) : upd f 8 v 16 = f 16 := rfl
theorem un_11_2 (f : Nat → Int32) (v : Int32) : upd f 11 v 2 = f 2 := rfl
theorem un_11_6 (f : Nat → Int32) (v : Int32) : upd f 11 v 6 = f 6 := rfl
theorem un_11_8 (f : Nat → Int32) (v : Int32) : upd f 11 v 8 = f 8 := rfl
theorem un_11_14 (f : Nat → Int32) (v : Int32) : upd f 11 v 14 = f 14 := rfl
theorem un_11_16 (f : Nat → Int32) (v : Int32) : upd f 11 v 16 = f 16 := rfl
theorem un_14_2 (f : Nat → Int32) (v : Int32) : upd f 14 v 2 = f 2 := rfl
theorem un_14_6 (f : Nat → Int32) (v : Int32) : upd f 14 v 6 = f 6 := rfl
theorem un_14_8 (f : Nat → Int32) (v : Int32) : upd f 14 v 8 = f 8 := rfl
theorem un_14_11 (f : Nat → Int32) (v : Int32) : upd f 14 v 11 = f 11 := rfl
theorem un_14_16 (f : Nat → Int32) (v : Int32) : upd f 14 v 16 = f 16 := rfl
theorem un_16_2 (f : Nat → Int32) (v : Int32) : upd f 16 v 2 = f 2 := rfl
theorem un_16_6 (f : Nat → Int32) (v : Int32) : upd f 16 v 6 = f 6 := rfl
theorem un_16_8 (f : Nat → Int32) (v : Int32) : upd f 16 v 8 = f 8 := rfl
theorem un_16_11 (f : Nat → Int32) (v : Int32) : upd f 16 v 11 = f 11 := rfl
theorem un_16_14 (f : Nat → Int32) (v : Int32) : upd f 16 v 14 = f 14 := rfl
def cm (q : Nat × Nat) : Nat := 1000 * q.1 + q.2
/-- the row in view holds the term -/
def RW (d : Nat → Nat → Int32) (l : Tm) : Prop := d 0 8 = nI l.length ∧ ∀ p, p < l.length → d 6 p = nI (cm (pt l p))
def DV (d : Nat → Nat → Int32) (l : Tm) : Prop := ∀ p, p < l.length → d 7 p = nI (dep l p)
/-- only these rows and these numbers have changed -/
def mx (ks ns : List Nat) (d d' : Nat → Nat → Int32) : Prop := (∀ k, k ≠ 0 → k ∉ ks → d' k = d k) ∧ ∀ i, i ∉ ns → d' 0 i = d 0 i
theorem mx_rf {ks ns : List Nat} {d : Nat → Nat → Int32} : mx ks ns d d := ⟨fun _ _ _ => rfl, fun _ _ => rfl⟩
theorem mx_tr {ks ns : List Nat} {d d' d'' : Nat → Nat → Int32} (h : mx ks ns d d') (h' : mx ks ns d' d'') : mx ks ns d d'' := ⟨fun k h0 hk => (h'.1 k h0 hk).trans (h.1 k h0 hk), fun i hi => (h'.2 i hi).trans (h.2 i hi)⟩
theorem mx_ca {ks ns : List Nat} {d : Nat → Nat → Int32} {a : Nat} {f : Nat → Int32} (h : a ∈ ks) (h0 : a ≠ 0) : mx ks ns d (ca d a f) := ⟨fun k _ hk => ca_ne fun e => hk (e ▸ h), fun i _ => by rw [ca_ne (fun e => h0 e.symm)]⟩
theorem mx_u {ks ns : List Nat} {d : Nat → Nat → Int32} {a : Nat} {v : Int32} (h : a ∈ ns) : mx ks ns d (ca d 0 (upd (d 0) a v)) := ⟨fun k h0 _ => ca_ne h0, fun i hi => by
  rw [ca_eq, upd_ne]
  rintro rfl
  exact hi h⟩
theorem mx_up {ks ns ks' ns' : List Nat} {d d' : Nat → Nat → Int32} (h : mx ks ns d d') (h1 : ∀ k ∈ ks, k ∈ ks') (h2 : ∀ k ∈ ns, k ∈ ns') : mx ks' ns' d d' := ⟨fun k h0 hk => h.1 k h0 fun z => hk (h1 k z), fun i hi => h.2 i fun z => hi (h2 i z)⟩
theorem RW.mx {ks ns : List Nat} {d d' : Nat → Nat → Int32} {l : Tm} (h : RW d l) (hs : mx ks ns d d') (h1 : 6 ∉ ks) (h2 : 8 ∉ ns) : RW d' l := by
  refine ⟨by rw [hs.2 8 h2]; exact h.1, fun p hp => ?_⟩
  rw [hs.1 6 (by decide) h1]
  exact h.2 p hp
theorem DV.mx {ks ns : List Nat} {d d' : Nat → Nat → Int32} {l : Tm} (h : DV d l) (hs : mx ks ns d d') (h1 : 7 ∉ ks) : DV d' l := fun p hp => by
  rw [hs.1 7 (by decide) h1]
  exact h p hp
theorem ib {p n : Nat} (h : p < n) (hn : n < 2 ^ 31 := by decide) : m_inb (nI p) n = true := (inb_iff hn).mpr ⟨nI_pos' (by omega), nI_lt h hn⟩
theorem dk_len (l : Tm) : ∀ p, (dk l p).length ≤ p + 1
  | 0 => by
    show ((sk l 0).map (·.1)).length ≤ 1
    exact Nat.le_refl _
  | p + 1 => by
    have ih := dk_len l p
    rw [dk_step]
    cases hd : dk l p with
    | nil => exact Nat.zero_le _
    | cons e s =>
      rw [hd, List.length_cons] at ih
      rw [stq_cons]
      split
      · rw [List.length_cons]; omega
      · split
        · rw [List.length_cons, List.length_cons]; omega
        · omega
section MOD
variable {S : mS} {c : Nat → Nat → Int32}
theorem n_movesL {F : (Nat → Int32) → mM} {a b n n' : Nat} {f : Nat → Int32} (h1 : ∀ g, m_arr (F g) a = some (n, f)) (h2 : ∀ g, m_arr (F g) b = some (n', g)) (h3 : ∀ g g', (F g).set b (.inl (n', g')) = F g') (hn : n < 2 ^ 30) (hn' : n' < 2 ^ 30) {p q w : Nat} (hp : p + w ≤ n) (hq : q + w ≤ n') (g0 : Nat → Int32) : ∀ (i k : Nat), i + k = w → ∀ (K : Option Value → mM → Prop), go S 83 3 [.ref a, .int (nI p), .ref b, .int (nI q), .int (nI w), .int (nI k)] [] (F (va_cpy f g0 p q k)) K = K none (F (va_cpy f g0 p q w))
  | 0, k, hk, K => by
    have e : k = w := by omega
    subst e
    rw [g83_3]
    simp only [↓g83_0, ↓g83_1, ↓g83_5, ↓g83_7, ↓g83_10, ↓g83_11, ↓g83_12, ↓g83_14, ↓g83_15, ↓g83_16, ↓g83_17, ↓g83_19, ↓g83_20, ↓g83_21, ↓g83_22, ↓g83_25, ↓g83_28, Int32.le_refl, ↓reduceIte]
  | i + 1, k, hk, K => by
    have e1 : ¬ nI w ≤ nI k := nI_ge (by omega) (by omega)
    have ih := n_movesL h1 h2 h3 hn hn' hp hq g0 i (k + 1) (by omega) K
    have e2 : upd (va_cpy f g0 p q k) (q + k) (f (p + k)) = va_cpy f g0 p q (k + 1) := by
      funext j
      by_cases e : j = q + k
      · subst e
        rw [upd_eq, pk_cpy_in (by omega) (by omega), show q + k - q = k by omega]
      · rw [upd_ne e]
        by_cases e5 : q ≤ j ∧ j < q + k
        · rw [pk_cpy_in e5.1 e5.2, pk_cpy_in e5.1 (by omega)]
        · rw [pk_cpy_out (by omega), pk_cpy_out (by omega)]
    rw [g83_3]
    simp only [↓g83_0, ↓g83_1, ↓g83_5, ↓g83_7, ↓g83_10, ↓g83_11, ↓g83_12, ↓g83_14, ↓g83_15, ↓g83_16, ↓g83_17, ↓g83_19, ↓g83_20, ↓g83_21, ↓g83_22, ↓g83_25, ↓g83_28, e1, ↓reduceIte, nI_add, h1, h2, ↓bnd_some, ib (show p + k < n by omega) (by omega), ib (show q + k < n' by omega) (by omega), nI_clamp (show p + k < 2 ^ 31 by omega), nI_clamp (show q + k < 2 ^ 31 by omega), h3, e2, true_and, nI_1]
    exact ih
theorem va_cpy_0 (f g : Nat → Int32) (p q : Nat) : va_cpy f g p q 0 = g := by
  funext j
  exact pk_cpy_out (by omega)
theorem n_moves {F : (Nat → Int32) → mM} {a b n n' : Nat} {f : Nat → Int32} (h1 : ∀ g, m_arr (F g) a = some (n, f)) (h2 : ∀ g, m_arr (F g) b = some (n', g)) (h3 : ∀ g g', (F g).set b (.inl (n', g')) = F g') (hn : n < 2 ^ 30) (hn' : n' < 2 ^ 30) {p q w : Nat} (hp : p + w ≤ n) (hq : q + w ≤ n') (g0 : Nat → Int32) (K : Option Value → mM → Prop) {x y z : Int32} (hx : x = nI p := by rfl) (hy : y = nI q := by rfl) (hz : z = nI w := by rfl) : go S 83 0 [.ref a, .int x, .ref b, .int y, .int z, .null] [] (F g0) K = K none (F (va_cpy f g0 p q w)) := by
  subst hx; subst hy; subst hz
  have g := n_movesL (S := S) h1 h2 h3 hn hn' hp hq g0 w 0 rfl K
  rw [va_cpy_0] at g
  simp only [↓g83_0, ↓g83_1, ↓g83_5, ↓g83_7, ↓g83_10, ↓g83_11, ↓g83_12, ↓g83_14, ↓g83_15, ↓g83_16, ↓g83_17, ↓g83_19, ↓g83_20, ↓g83_21, ↓g83_22, ↓g83_25, ↓g83_28]
  exact g
variable {d : Nat → Nat → Int32} {l : Tm}
theorem n_within (M : mM) (x y z : Int32) (K : Option Value → mM → Prop) : go S 84 0 [.int x, .int y, .int z] [] M K = K (some (.int (if y ≤ x ∧ x ≤ z then 1 else 0))) M := by
  by_cases h1 : x < y
  · rw [if_neg (fun q => Int32.not_le.mpr h1 q.1)]
    simp only [↓g84_0, ↓g84_1, ↓g84_2, ↓g84_5, ↓g84_6, ↓g84_7, ↓g84_10, ↓g84_11, ↓g84_14, ↓g84_15, h1, ↓reduceIte, m_b01_0, true_and]
  · by_cases h2 : z < x
    · rw [if_neg (fun q => Int32.not_le.mpr h2 q.2)]
      simp only [↓g84_0, ↓g84_1, ↓g84_2, ↓g84_5, ↓g84_6, ↓g84_7, ↓g84_10, ↓g84_11, ↓g84_14, ↓g84_15, h1, Int32.not_le.mpr h2, h2, ↓reduceIte, m_b01_0, true_and]
    · rw [if_pos ⟨Int32.not_lt.mp h1, Int32.not_lt.mp h2⟩]
      simp only [↓g84_0, ↓g84_1, ↓g84_2, ↓g84_5, ↓g84_6, ↓g84_7, ↓g84_10, ↓g84_11, ↓g84_14, ↓g84_15, h1, Int32.not_lt.mp h2, h2, ↓reduceIte, m_b01_1, true_and]
theorem n_kind (h : RW d l) (hk : Tok l) {p : Nat} (hp : p < l.length) (K : Option Value → mM → Prop) {x : Int32} (hx : x = nI p := by rfl) : go S 89 0 [.ref 20, .int x] [] (mk c (md d)) K = K (some (.int (nI (kd l p)))) (mk c (md d)) := by
  subst hx
  have hl := hk.2
  have e0 := hk.1.kd hp
  have e1 := nu_lt hk.1 hp hl
  have e2 : nI (cm (pt l p)) / 1000 = nI (kd l p) := by
    rw [show (1000 : Int32) = nI 1000 from rfl, pk_div (by unfold cm; show 1000 * kd l p + nu l p < _; omega) (by decide) (by decide)]
    congr 1
    show (1000 * kd l p + nu l p) / 1000 = _
    omega
  simp only [↓g89_0, ↓g89_1, ↓g89_4, ↓g89_5, ↓g89_6, ↓g89_9, ↓g89_10, ↓mo_20, ↓mf_20_0, ↓mf_20_1, ↓mp_20_2, ↓mf_20_2, ↓mf_20_3, ↓mf_20_4, ↓mf_20_5, ↓mp_20_6, ↓mf_20_6, ↓mf_20_7, ↓mp_20_8, ↓mf_20_8, ↓mf_20_9, ↓mf_20_10, ↓mp_20_11, ↓mf_20_11, ↓mf_20_12, ↓mf_20_13, ↓mp_20_14, ↓mf_20_14, ↓mf_20_15, ↓mp_20_16, ↓mf_20_16, ↓ma_21, ↓ms_21, ↓ma_22, ↓ms_22, ↓ma_23, ↓ms_23, ↓ma_24, ↓ms_24, ↓ma_25, ↓ms_25, ↓ma_26, ↓ms_26, ↓ma_27, ↓ms_27, ↓ma_28, ↓ms_28, ↓ma_29, ↓ms_29, ↓ma_30, ↓ms_30, ↓ma_31, ↓ms_31, ↓bnd_some, ↓cond_true, ↓m_pv_none, ↓m_pv_some, m_b01_0, m_b01_1, true_and, and_true, eq_self, ib (show p < 200 by omega), nI_clamp (show p < 2 ^ 31 by omega), h.2 p hp, e2]
theorem n_number (h : RW d l) (hk : Tok l) {p : Nat} (hp : p < l.length) (K : Option Value → mM → Prop) {x : Int32} (hx : x = nI p := by rfl) : go S 90 0 [.ref 20, .int x] [] (mk c (md d)) K = K (some (.int (nI (nu l p)))) (mk c (md d)) := by
  subst hx
  have hl := hk.2
  have e0 := hk.1.kd hp
  have e1 := nu_lt hk.1 hp hl
  have e2 : nI (cm (pt l p)) - nI (cm (pt l p)) / 1000 * 1000 = nI (nu l p) := by
    rw [show (1000 : Int32) = nI 1000 from rfl, pk_rem (by unfold cm; show 1000 * kd l p + nu l p < _; omega) (by decide) (by decide)]
    congr 1
    show (1000 * kd l p + nu l p) % 1000 = _
    omega
  simp only [↓g90_0, ↓g90_1, ↓g90_4, ↓g90_5, ↓g90_6, ↓g90_9, ↓g90_10, ↓mo_20, ↓mf_20_0, ↓mf_20_1, ↓mp_20_2, ↓mf_20_2, ↓mf_20_3, ↓mf_20_4, ↓mf_20_5, ↓mp_20_6, ↓mf_20_6, ↓mf_20_7, ↓mp_20_8, ↓mf_20_8, ↓mf_20_9, ↓mf_20_10, ↓mp_20_11, ↓mf_20_11, ↓mf_20_12, ↓mf_20_13, ↓mp_20_14, ↓mf_20_14, ↓mf_20_15, ↓mp_20_16, ↓mf_20_16, ↓ma_21, ↓ms_21, ↓ma_22, ↓ms_22, ↓ma_23, ↓ms_23, ↓ma_24, ↓ms_24, ↓ma_25, ↓ms_25, ↓ma_26, ↓ms_26, ↓ma_27, ↓ms_27, ↓ma_28, ↓ms_28, ↓ma_29, ↓ms_29, ↓ma_30, ↓ms_30, ↓ma_31, ↓ms_31, ↓bnd_some, ↓cond_true, ↓m_pv_none, ↓m_pv_some, m_b01_0, m_b01_1, true_and, and_true, eq_self, ib (show p < 200 by omega), nI_clamp (show p < 2 ^ 31 by omega), h.2 p hp, e2]
theorem sk_step {p : Nat} (h : sk l p ≠ []) : (sk l (p + 1)).length + 1 = (sk l p).length + ar (kd l p) := by
  obtain ⟨s, hs⟩ := sk_cons h
  show (stp p (pt l p) (sk l p)).length + 1 = _
  rw [hs, stp_len, List.length_cons]
  show s.length + ar (kd l p) + 1 = _
  omega
theorem n_endL (h : RW d l) (hk : Tok l) : ∀ (n k w : Nat), n + k = l.length → w ≤ (sk l k).length → ∀ (K : Option Value → mM → Prop) (j1 : Value), go S 92 4 [.ref 20, j1, .int (nI w), .int (nI k)] [] (mk c (md d)) K = K (some (.int (nI (k + skp (l.drop k) w)))) (mk c (md d))
  | n, k, 0, hn, hw, K, j1 => by
    rw [g92_4]
    simp only [↓g92_0, ↓g92_1, ↓g92_2, ↓g92_3, ↓g92_5, ↓g92_8, ↓g92_9, ↓g92_10, ↓g92_11, ↓g92_14, ↓g92_15, ↓g92_18, ↓g92_19, ↓g92_22, ↓g92_23, ↓g92_24, ↓g92_27, ↓g92_28, ↓g92_31, ↓g92_32, ↓g92_35, ↓g92_36, ↓g92_37, ↓g92_38, ↓g92_41, ↓g92_44, ↓g92_45, show nI 0 ≤ 0 from Int32.le_refl _, ↓reduceIte, skp_0, Nat.add_zero]
  | 0, k, w + 1, hn, hw, K, j1 => by
    have e : k = l.length := by omega
    rw [e, hk.1.2] at hw
    cases hw
  | n + 1, k, w + 1, hn, hw, K, j1 => by
    have hl := hk.2
    have hkl : k < l.length := by omega
    have hne : sk l k ≠ [] := (hk.1.1 k hkl).1
    have hs := sk_step hne
    have hlen : (sk l k).length ≤ k + 1 := by
      have := dk_len l k
      unfold dk at this
      rw [List.length_map] at this
      exact this
    have hkd := hk.1.kd hkl
    have e1 : ¬ nI (w + 1) ≤ 0 := nI_nle (by omega) (by omega)
    have g1 := fun K => n_kind (S := S) (c := c) h hk hkl K
    have e2 : (nI (kd l k) = 3) ↔ kd l k = 3 := nI_eq (b := 3) (by omega) (by decide)
    have e3 : (nI (kd l k) = 2) ↔ kd l k = 2 := nI_eq (b := 2) (by omega) (by decide)
    have e4 : ∀ u, u = w + ar (kd l k) → go S 92 4 [.ref 20, j1, .int (nI u), .int (nI (k + 1))] [] (mk c (md d)) K = K (some (.int (nI (k + skp (l.drop k) (w + 1))))) (mk c (md d)) := fun u hu => by
      subst hu
      rw [n_endL h hk n (k + 1) (w + ar (kd l k)) (by omega) (by omega) K j1, skp_at hkl, show k + 1 + skp (l.drop (k + 1)) (w + ar (kd l k)) = k + (1 + skp (l.drop (k + 1)) (w + ar (kd l k))) by omega]
    rw [g92_4]
    simp only [↓g92_0, ↓g92_1, ↓g92_2, ↓g92_3, ↓g92_5, ↓g92_8, ↓g92_9, ↓g92_10, ↓g92_11, ↓g92_14, ↓g92_15, ↓g92_18, ↓g92_19, ↓g92_22, ↓g92_23, ↓g92_24, ↓g92_27, ↓g92_28, ↓g92_31, ↓g92_32, ↓g92_35, ↓g92_36, ↓g92_37, ↓g92_38, ↓g92_41, ↓g92_44, ↓g92_45, ↓mo_20, ↓mf_20_0, ↓mf_20_1, ↓mp_20_2, ↓mf_20_2, ↓mf_20_3, ↓mf_20_4, ↓mf_20_5, ↓mp_20_6, ↓mf_20_6, ↓mf_20_7, ↓mp_20_8, ↓mf_20_8, ↓mf_20_9, ↓mf_20_10, ↓mp_20_11, ↓mf_20_11, ↓mf_20_12, ↓mf_20_13, ↓mp_20_14, ↓mf_20_14, ↓mf_20_15, ↓mp_20_16, ↓mf_20_16, ↓ma_21, ↓ms_21, ↓ma_22, ↓ms_22, ↓ma_23, ↓ms_23, ↓ma_24, ↓ms_24, ↓ma_25, ↓ms_25, ↓ma_26, ↓ms_26, ↓ma_27, ↓ms_27, ↓ma_28, ↓ms_28, ↓ma_29, ↓ms_29, ↓ma_30, ↓ms_30, ↓ma_31, ↓ms_31, ↓bnd_some, ↓cond_true, ↓m_pv_none, ↓m_pv_some, m_b01_0, m_b01_1, true_and, and_true, eq_self, e1, ↓reduceIte, ↓g1, e2, e3, nI_1, pk_m1, Int32.add_zero]
    by_cases h3 : kd l k = 3
    · rw [if_pos h3]
      exact e4 _ (by rw [h3]; rfl)
    · rw [if_neg h3]
      by_cases h2 : kd l k = 2
      · rw [if_pos h2]
        exact e4 _ (by rw [h2]; rfl)
      · rw [if_neg h2]
        exact e4 _ (by unfold ar; rw [if_neg h2, if_neg h3]; rfl)
theorem n_end (h : RW d l) (hk : Tok l) {p : Nat} (hp : p < l.length) (K : Option Value → mM → Prop) {x : Int32} (hx : x = nI p := by rfl) : go S 92 0 [.ref 20, .int x, .null, .null] [] (mk c (md d)) K = K (some (.int (nI (en l p)))) (mk c (md d)) := by
  subst hx
  have hne : sk l p ≠ [] := (hk.1.1 p hp).1
  have g := n_endL (S := S) (c := c) h hk (l.length - p) p 1 (by omega) (by
    cases hs : sk l p with
    | nil => exact absurd hs hne
    | cons e s => rw [List.length_cons]; omega) K (.int (nI p))
  simp only [↓g92_0, ↓g92_1, ↓g92_2, ↓g92_3, ↓g92_5, ↓g92_8, ↓g92_9, ↓g92_10, ↓g92_11, ↓g92_14, ↓g92_15, ↓g92_18, ↓g92_19, ↓g92_22, ↓g92_23, ↓g92_24, ↓g92_27, ↓g92_28, ↓g92_31, ↓g92_32, ↓g92_35, ↓g92_36, ↓g92_37, ↓g92_38, ↓g92_41, ↓g92_44, ↓g92_45]
  exact g
theorem n_red (h : RW d l) (hk : Tok l) {p : Nat} (hp : p < l.length) (K : Option Value → mM → Prop) {x : Int32} (hx : x = nI p := by rfl) : go S 93 0 [.ref 20, .int x] [] (mk c (md d)) K = K (some (.int (if red l p = true then 1 else 0))) (mk c (md d)) := by
  subst hx
  have hl := hk.2
  have g1 := fun K => n_kind (S := S) (c := c) h hk hp K
  have hkd := hk.1.kd hp
  have e2 : (nI (kd l p) = 3) ↔ kd l p = 3 := nI_eq (b := 3) (by omega) (by decide)
  by_cases h3 : kd l p = 3
  · have hc := child_3 hk.1 hp h3
    have g2 := fun K => n_kind (S := S) (c := c) h hk hc K
    have hkd2 := hk.1.kd hc
    have e3 : (nI (kd l (p + 1)) = 2) ↔ kd l (p + 1) = 2 := nI_eq (b := 2) (by omega) (by decide)
    by_cases h2 : kd l (p + 1) = 2
    · have hr : red l p = true := decide_eq_true ⟨h3, h2⟩
      simp only [↓g93_0, ↓g93_1, ↓g93_2, ↓g93_5, ↓g93_6, ↓g93_9, ↓g93_10, ↓g93_11, ↓g93_12, ↓g93_13, ↓g93_16, ↓g93_17, ↓g93_20, ↓g93_21, ↓g93_24, ↓g93_25, ↓mo_20, ↓mf_20_0, ↓mf_20_1, ↓mp_20_2, ↓mf_20_2, ↓mf_20_3, ↓mf_20_4, ↓mf_20_5, ↓mp_20_6, ↓mf_20_6, ↓mf_20_7, ↓mp_20_8, ↓mf_20_8, ↓mf_20_9, ↓mf_20_10, ↓mp_20_11, ↓mf_20_11, ↓mf_20_12, ↓mf_20_13, ↓mp_20_14, ↓mf_20_14, ↓mf_20_15, ↓mp_20_16, ↓mf_20_16, ↓ma_21, ↓ms_21, ↓ma_22, ↓ms_22, ↓ma_23, ↓ms_23, ↓ma_24, ↓ms_24, ↓ma_25, ↓ms_25, ↓ma_26, ↓ms_26, ↓ma_27, ↓ms_27, ↓ma_28, ↓ms_28, ↓ma_29, ↓ms_29, ↓ma_30, ↓ms_30, ↓ma_31, ↓ms_31, ↓bnd_some, ↓cond_true, ↓m_pv_none, ↓m_pv_some, m_b01_0, m_b01_1, true_and, and_true, eq_self, ↓g1, e2.mpr h3, nI_1, ↓g2, e3.mpr h2, hr, ↓reduceIte]
    · have hr : red l p = false := decide_eq_false (fun z => h2 z.2)
      simp only [↓g93_0, ↓g93_1, ↓g93_2, ↓g93_5, ↓g93_6, ↓g93_9, ↓g93_10, ↓g93_11, ↓g93_12, ↓g93_13, ↓g93_16, ↓g93_17, ↓g93_20, ↓g93_21, ↓g93_24, ↓g93_25, ↓mo_20, ↓mf_20_0, ↓mf_20_1, ↓mp_20_2, ↓mf_20_2, ↓mf_20_3, ↓mf_20_4, ↓mf_20_5, ↓mp_20_6, ↓mf_20_6, ↓mf_20_7, ↓mp_20_8, ↓mf_20_8, ↓mf_20_9, ↓mf_20_10, ↓mp_20_11, ↓mf_20_11, ↓mf_20_12, ↓mf_20_13, ↓mp_20_14, ↓mf_20_14, ↓mf_20_15, ↓mp_20_16, ↓mf_20_16, ↓ma_21, ↓ms_21, ↓ma_22, ↓ms_22, ↓ma_23, ↓ms_23, ↓ma_24, ↓ms_24, ↓ma_25, ↓ms_25, ↓ma_26, ↓ms_26, ↓ma_27, ↓ms_27, ↓ma_28, ↓ms_28, ↓ma_29, ↓ms_29, ↓ma_30, ↓ms_30, ↓ma_31, ↓ms_31, ↓bnd_some, ↓cond_true, ↓m_pv_none, ↓m_pv_some, m_b01_0, m_b01_1, true_and, and_true, eq_self, ↓g1, e2.mpr h3, nI_1, ↓g2, e3, h2, hr, ↓reduceIte, Bool.false_eq_true]
  · have hr : red l p = false := decide_eq_false (fun z => h3 z.1)
    simp only [↓g93_0, ↓g93_1, ↓g93_2, ↓g93_5, ↓g93_6, ↓g93_9, ↓g93_10, ↓g93_11, ↓g93_12, ↓g93_13, ↓g93_16, ↓g93_17, ↓g93_20, ↓g93_21, ↓g93_24, ↓g93_25, ↓mo_20, ↓mf_20_0, ↓mf_20_1, ↓mp_20_2, ↓mf_20_2, ↓mf_20_3, ↓mf_20_4, ↓mf_20_5, ↓mp_20_6, ↓mf_20_6, ↓mf_20_7, ↓mp_20_8, ↓mf_20_8, ↓mf_20_9, ↓mf_20_10, ↓mp_20_11, ↓mf_20_11, ↓mf_20_12, ↓mf_20_13, ↓mp_20_14, ↓mf_20_14, ↓mf_20_15, ↓mp_20_16, ↓mf_20_16, ↓ma_21, ↓ms_21, ↓ma_22, ↓ms_22, ↓ma_23, ↓ms_23, ↓ma_24, ↓ms_24, ↓ma_25, ↓ms_25, ↓ma_26, ↓ms_26, ↓ma_27, ↓ms_27, ↓ma_28, ↓ms_28, ↓ma_29, ↓ms_29, ↓ma_30, ↓ms_30, ↓ma_31, ↓ms_31, ↓bnd_some, ↓cond_true, ↓m_pv_none, ↓m_pv_some, m_b01_0, m_b01_1, true_and, and_true, eq_self, ↓g1, e2, h3, hr, ↓reduceIte, Bool.false_eq_true]
end MOD
