/-! the model's calls -/
def MS (d : Nat → Nat → Int32) (o : Option (Nat → Tm)) (s : Nat) : Prop := match o with
  | none => d 4 s = 0
  | some st => d 4 s = 1 ∧ SL (d 3) (1206 * s) st
def MI (d : Nat → Nat → Int32) (σ : Sg) : Prop := SL (d 1) 0 σ.1 ∧ HI d σ.2.1 ∧ (∀ s, s < 2 → MS d (σ.2.2.1 s) s) ∧ PM d σ.2.2.2
theorem MS.mx {d d' : Nat → Nat → Int32} {o : Option (Nat → Tm)} {s : Nat} (h : MS d o s) (h3 : d' 3 = d 3) (h4 : d' 4 = d 4) : MS d' o s := by
  cases o with
  | none => exact (congrFun h4 s).trans h
  | some st => exact ⟨(congrFun h4 s).trans h.1, by rw [h3]; exact h.2⟩
theorem MI.mx {ks ns : List Nat} {d d' : Nat → Nat → Int32} {σ : Sg} (h : MI d σ) (hs : mx ks ns d d') (h1 : 1 ∉ ks) (h2 : 2 ∉ ks) (h3 : 3 ∉ ks) (h4 : 4 ∉ ks) (h5 : 5 ∉ ks) (n2 : 2 ∉ ns) (n6 : 6 ∉ ns) : MI d' σ := by
  obtain ⟨a1, a2, a3, a4⟩ := h
  refine ⟨by rw [hs.1 1 (by decide) h1]; exact a1, ⟨by rw [hs.2 2 n2]; exact a2.1, fun j hj => by rw [hs.1 2 (by decide) h2]; exact a2.2 j hj⟩, fun s hs2 => (a3 s hs2).mx (hs.1 3 (by decide) h3) (hs.1 4 (by decide) h4), a4.mx hs h5 n6⟩
def MC (S : mS) (m : Nat) (ls : List Value) (d c : Nat → Nat → Int32) (r : RS) : Prop := ∃ d', MI d' r.2 ∧ ∀ (K : Option Value → mM → Prop), go S m 0 ls [] (mk c (md d)) K = K (some (.int r.1)) (mk c (md d'))
section MC1
variable {S : mS} {c d : Nat → Nat → Int32} {σ : Sg}
theorem z_reg (M : mM) {x : Int32} (h : rgx x 6 = none) (K : Option Value → mM → Prop) : go S 86 0 [.int x] [] M K = K (some (.int 0)) M := by
  rw [n_reg7, h]
  rfl
theorem o_reg (M : mM) {i : Nat} (h : i < 6) (K : Option Value → mM → Prop) : go S 86 0 [.int (nI i)] [] M K = K (some (.int 1)) M := by
  rw [n_reg7, rgx_nI h (by decide)]
  rfl
theorem z_ord (M : mM) {x : Int32} (h : rgx x 3 = none) (K : Option Value → mM → Prop) : go S 84 0 [.int x, .int 0, .int 2] [] M K = K (some (.int 0)) M := by
  rw [n_within, if_neg]
  rintro ⟨h0, h2⟩
  obtain ⟨j, hj, rfl⟩ := nI_of (Int32.not_lt.mpr h0)
  have := (nI_leI (b := 2) hj (by decide)).mp h2
  exact rgx_ne (i := j) h (by omega) (by decide) rfl
theorem o_ord (M : mM) {i : Nat} (h : i < 3) (K : Option Value → mM → Prop) : go S 84 0 [.int (nI i), .int 0, .int 2] [] M K = K (some (.int 1)) M := by
  rw [n_within, if_pos ⟨nI_pos' (by omega), nI_le (b := 2) (by omega) (by decide)⟩]
theorem z_five (M : mM) {x : Int32} (h : rgx x 6 = none) (K : Option Value → mM → Prop) : go S 84 0 [.int x, .int 0, .int 5] [] M K = K (some (.int 0)) M := by
  rw [n_within, if_neg]
  rintro ⟨h0, h2⟩
  obtain ⟨j, hj, rfl⟩ := nI_of (Int32.not_lt.mpr h0)
  have := (nI_leI (b := 5) hj (by decide)).mp h2
  exact rgx_ne (i := j) h (by omega) (by decide) rfl
theorem o_five (M : mM) {i : Nat} (h : i < 6) (K : Option Value → mM → Prop) : go S 84 0 [.int (nI i), .int 0, .int 5] [] M K = K (some (.int 1)) M := by
  rw [n_within, if_pos ⟨nI_pos' (by omega), nI_le (b := 5) (by omega) (by decide)⟩]
theorem z_fuel (M : mM) {x : Int32} (h : fux x = none) (K : Option Value → mM → Prop) : go S 84 0 [.int x, .int 1, .int 200] [] M K = K (some (.int 0)) M := by
  rw [n_within, if_neg (show ¬ (1 ≤ x ∧ x ≤ 200) from fux_no h)]
theorem o_fuel (M : mM) {i : Nat} (h1 : 1 ≤ i) (h2 : i ≤ 200) (K : Option Value → mM → Prop) : go S 84 0 [.int (nI i), .int 1, .int 200] [] M K = K (some (.int 1)) M := by
  rw [n_within, if_pos ⟨nI_le (a := 1) h1 (by omega), nI_le (b := 200) h2 (by decide)⟩]
theorem mi_kp {d' : Nat → Nat → Int32} (h : MI d σ) (hH : HI d' ((σ.1 :: σ.2.1).take 6)) (hs : mx [2] [2] d d') : MI d' (kp σ) := by
  obtain ⟨a1, a2, a3, a4⟩ := h
  exact ⟨by rw [hs.1 1 (by decide) (by decide)]; exact a1, hH, fun s hs2 => (a3 s hs2).mx (hs.1 3 (by decide) (by decide)) (hs.1 4 (by decide) (by decide)), a4.mx hs (by decide) (by decide)⟩
theorem mi_setR {d' : Nat → Nat → Int32} (h : MI d σ) (ho : SOk σ) {i : Nat} {l : Tm} (hS : ∀ R, (∀ r, r < 6 → (R r).length ≤ 200) → SL (d 1) 0 R → SL (d' 1) 0 (tu R i l)) (hs : mx [1] [] d d') : MI d' (setR σ i l) := by
  obtain ⟨a1, a2, a3, a4⟩ := h
  exact ⟨hS _ (fun r hr => (ho.1 r hr).2) a1, ⟨by rw [hs.2 2 (by decide)]; exact a2.1, fun j hj => by rw [hs.1 2 (by decide) (by decide)]; exact a2.2 j hj⟩, fun s hs2 => (a3 s hs2).mx (hs.1 3 (by decide) (by decide)) (hs.1 4 (by decide) (by decide)), a4.mx hs (by decide) (by decide)⟩
theorem mi_rec (h : MI d σ) (ho : SOk σ) : ∃ d', MI d' (kp σ) ∧ mx [2] [2] d d' ∧ ∀ (K : Option Value → mM → Prop), go S 85 0 [.ref 20, .null] [] (mk c (md d)) K = K none (mk c (md d')) := by
  obtain ⟨d', b1, b2, b3⟩ := n_record (S := S) (c := c) h.2.1 ho.2.2.2.1 ho.1 ho.2.1 h.1
  exact ⟨d', mi_kp h b1 b2, b2, b3⟩
theorem n_readL {P : List Nat} (hPo : Pok P) (hq : ∀ ch ∈ P, ∃ q, kOf ch = some q) : ∀ (n k : Nat) (d : Nat → Nat → Int32), n + k = P.length → PM d P → (∀ p, p < k → d 6 p = nI (cm (tm1 (P.getD p 0)))) → ∃ d', (∀ p, p < P.length → d' 6 p = nI (cm (tm1 (P.getD p 0)))) ∧ mx [6] [] d d' ∧ ∀ (K : Option Value → mM → Prop) (a1 : Value), go S 103 35 [.ref 20, a1, .int (nI k)] [] (mk c (md d)) K = go S 103 64 [.ref 20, a1, .int (nI P.length)] [] (mk c (md d')) K
  | 0, k, d, hn, h, hr => by
    have e : k = P.length := by omega
    subst e
    refine ⟨d, hr, mx_rf, fun K a1 => ?_⟩
    rw [g103_35]
    simp only [↓g103_0, ↓g103_1, ↓g103_4, ↓g103_7, ↓g103_8, ↓g103_9, ↓g103_10, ↓g103_13, ↓g103_15, ↓g103_18, ↓g103_20, ↓g103_21, ↓g103_22, ↓g103_25, ↓g103_26, ↓g103_27, ↓g103_30, ↓g103_33, ↓g103_34, ↓g103_36, ↓g103_37, ↓g103_40, ↓g103_43, ↓g103_44, ↓g103_47, ↓g103_48, ↓g103_49, ↓g103_52, ↓g103_53, ↓g103_54, ↓g103_57, ↓g103_58, ↓g103_61, ↓g103_65, ↓g103_66, ↓g103_69, ↓g103_70, ↓g103_71, ↓g103_74, ↓g103_75, ↓g103_78, ↓mo_20, ↓mf_20_0, ↓mf_20_1, ↓mp_20_2, ↓mf_20_2, ↓mf_20_3, ↓mf_20_4, ↓mf_20_5, ↓mp_20_6, ↓mf_20_6, ↓mf_20_7, ↓mp_20_8, ↓mf_20_8, ↓mf_20_9, ↓mf_20_10, ↓mp_20_11, ↓mf_20_11, ↓mf_20_12, ↓mf_20_13, ↓mp_20_14, ↓mf_20_14, ↓mf_20_15, ↓mp_20_16, ↓mf_20_16, ↓ma_21, ↓ms_21, ↓ma_22, ↓ms_22, ↓ma_23, ↓ms_23, ↓ma_24, ↓ms_24, ↓ma_25, ↓ms_25, ↓ma_26, ↓ms_26, ↓ma_27, ↓ms_27, ↓ma_28, ↓ms_28, ↓ma_29, ↓ms_29, ↓ma_30, ↓ms_30, ↓ma_31, ↓ms_31, ↓bnd_some, ↓cond_true, ↓m_pv_none, ↓m_pv_some, m_b01_0, m_b01_1, true_and, and_true, eq_self, h.1, Int32.le_refl, ↓reduceIte]
  | n + 1, k, d, hn, h, hr => by
    have hP := hPo.1
    have hkP : k < P.length := by omega
    have hch := hPo.at hkP
    have e0 : ¬ nI P.length ≤ nI k := nI_ge (by omega) (by omega)
    have g1 := fun M K => n_partBy (S := S) M (ch := P.getD k 0) (by omega) K
    have hm : P.getD k 0 ∈ P := by
      rw [List.getD_eq_getElem?_getD, List.getElem?_eq_getElem hkP, Option.getD_some]
      exact List.getElem_mem _
    obtain ⟨q, hq1⟩ := hq _ hm
    have hv : pbv (P.getD k 0) = nI (cm (tm1 (P.getD k 0))) := by unfold pbv; rw [hq1]
    have hD : mx [6] [] d (ca d 6 (upd (d 6) k (nI (cm (tm1 (P.getD k 0)))))) := mx_ca (by simp) (by decide)
    obtain ⟨d', b1, b2, b3⟩ := n_readL hPo hq n (k + 1) (ca d 6 (upd (d 6) k (nI (cm (tm1 (P.getD k 0)))))) (by omega) (h.mx hD (by simp) (by simp)) (fun p hp => by
      rw [ca_eq]
      by_cases e : p = k
      · subst e; rw [upd_eq]
      · rw [upd_ne e]; exact hr p (by omega))
    refine ⟨d', b1, mx_tr hD b2, fun K a1 => ?_⟩
    rw [g103_35]
    simp only [↓g103_0, ↓g103_1, ↓g103_4, ↓g103_7, ↓g103_8, ↓g103_9, ↓g103_10, ↓g103_13, ↓g103_15, ↓g103_18, ↓g103_20, ↓g103_21, ↓g103_22, ↓g103_25, ↓g103_26, ↓g103_27, ↓g103_30, ↓g103_33, ↓g103_34, ↓g103_36, ↓g103_37, ↓g103_40, ↓g103_43, ↓g103_44, ↓g103_47, ↓g103_48, ↓g103_49, ↓g103_52, ↓g103_53, ↓g103_54, ↓g103_57, ↓g103_58, ↓g103_61, ↓g103_65, ↓g103_66, ↓g103_69, ↓g103_70, ↓g103_71, ↓g103_74, ↓g103_75, ↓g103_78, ↓mo_20, ↓mf_20_0, ↓mf_20_1, ↓mp_20_2, ↓mf_20_2, ↓mf_20_3, ↓mf_20_4, ↓mf_20_5, ↓mp_20_6, ↓mf_20_6, ↓mf_20_7, ↓mp_20_8, ↓mf_20_8, ↓mf_20_9, ↓mf_20_10, ↓mp_20_11, ↓mf_20_11, ↓mf_20_12, ↓mf_20_13, ↓mp_20_14, ↓mf_20_14, ↓mf_20_15, ↓mp_20_16, ↓mf_20_16, ↓ma_21, ↓ms_21, ↓ma_22, ↓ms_22, ↓ma_23, ↓ms_23, ↓ma_24, ↓ms_24, ↓ma_25, ↓ms_25, ↓ma_26, ↓ms_26, ↓ma_27, ↓ms_27, ↓ma_28, ↓ms_28, ↓ma_29, ↓ms_29, ↓ma_30, ↓ms_30, ↓ma_31, ↓ms_31, ↓bnd_some, ↓cond_true, ↓m_pv_none, ↓m_pv_some, m_b01_0, m_b01_1, true_and, and_true, eq_self, h.1, e0, ↓reduceIte, ib (show k < 60 by omega), ib (show k < 200 by omega), nI_clamp (show k < 2 ^ 31 by omega), h.2 k hkP, ↓g1, hv, nI_1]
    exact b3 K a1
theorem M_read (h : MI d σ) (ho : SOk σ) (x : Int32) : MC S 103 [.ref 20, .int x, .null] d c (F_read σ x) := by
  unfold F_read
  cases hx : rgx x 6 with
  | none => exact ⟨d, h, fun K => by simp only [↓g103_0, ↓g103_1, ↓g103_4, ↓g103_7, ↓g103_8, ↓g103_9, ↓g103_10, ↓g103_13, ↓g103_15, ↓g103_18, ↓g103_20, ↓g103_21, ↓g103_22, ↓g103_25, ↓g103_26, ↓g103_27, ↓g103_30, ↓g103_33, ↓g103_34, ↓g103_36, ↓g103_37, ↓g103_40, ↓g103_43, ↓g103_44, ↓g103_47, ↓g103_48, ↓g103_49, ↓g103_52, ↓g103_53, ↓g103_54, ↓g103_57, ↓g103_58, ↓g103_61, ↓g103_64, ↓g103_65, ↓g103_66, ↓g103_69, ↓g103_70, ↓g103_71, ↓g103_74, ↓g103_75, ↓g103_78, ↓mo_20, ↓mf_20_0, ↓mf_20_1, ↓mp_20_2, ↓mf_20_2, ↓mf_20_3, ↓mf_20_4, ↓mf_20_5, ↓mp_20_6, ↓mf_20_6, ↓mf_20_7, ↓mp_20_8, ↓mf_20_8, ↓mf_20_9, ↓mf_20_10, ↓mp_20_11, ↓mf_20_11, ↓mf_20_12, ↓mf_20_13, ↓mp_20_14, ↓mf_20_14, ↓mf_20_15, ↓mp_20_16, ↓mf_20_16, ↓ma_21, ↓ms_21, ↓ma_22, ↓ms_22, ↓ma_23, ↓ms_23, ↓ma_24, ↓ms_24, ↓ma_25, ↓ms_25, ↓ma_26, ↓ms_26, ↓ma_27, ↓ms_27, ↓ma_28, ↓ms_28, ↓ma_29, ↓ms_29, ↓ma_30, ↓ms_30, ↓ma_31, ↓ms_31, ↓bnd_some, ↓cond_true, ↓m_pv_none, ↓m_pv_some, m_b01_0, m_b01_1, true_and, and_true, eq_self, ↓z_reg _ hx, ↓reduceIte]⟩
  | some i =>
    obtain ⟨hi, rfl⟩ := rgx_some hx (by decide)
    obtain ⟨d1, m1, g1⟩ := n_fault (S := S) (c := c) ho.pad h.2.2.2
    have h1 := h.mx m1 (by simp) (by simp) (by simp) (by simp) (by simp) (by simp) (by simp)
    dsimp only
    by_cases hf : flt σ.2.2.2 [0] 0 = -6
    · rw [if_pos hf]
      rw [hf] at g1
      have hP := ho.pad.1
      obtain ⟨d2, h2, mr, g2⟩ := mi_rec (S := S) (c := c) h1 ho
      have hok := flt_ok (by omega) hf
      have hD : mx [] [8] d2 (ca d2 0 (upd (d2 0) 8 (nI σ.2.2.2.length))) := mx_u (by simp)
      have h3 := h2.mx hD (by simp) (by simp) (by simp) (by simp) (by simp) (by simp) (by simp)
      obtain ⟨d3, r3, m3, g3⟩ := n_readL (S := S) (c := c) ho.pad hok.2.2 σ.2.2.2.length 0 _ rfl h3.2.2.2 (fun p hp => absurd hp (Nat.not_lt_zero p))
      have h4 := h3.mx m3 (by simp) (by simp) (by simp) (by simp) (by simp) (by simp) (by simp)
      have e8 : d3 0 8 = nI σ.2.2.2.length := by rw [m3.2 8 (by simp), ca_eq, upd_eq]
      have hD2 : mx [] [6] d3 (ca d3 0 (upd (d3 0) 6 0)) := mx_u (by simp)
      have h5 : MI (ca d3 0 (upd (d3 0) 6 0)) (σ.1, (kp σ).2.1, σ.2.2.1, []) := by
        obtain ⟨a1, a2, a3, a4⟩ := h4
        exact ⟨a1, ⟨by rw [hD2.2 2 (by simp)]; exact a2.1, a2.2⟩, fun s hs => (a3 s hs).mx rfl rfl, ⟨by rw [ca_eq, upd_eq]; rfl, fun j hj => absurd hj (Nat.not_lt_zero j)⟩⟩
      have ho5 : SOk (σ.1, (kp σ).2.1, σ.2.2.1, []) := ⟨(kp_ok ho).1, (kp_ok ho).2.1, (kp_ok ho).2.2.1, (kp_ok ho).2.2.2.1, Nat.zero_le _, fun ch hc => by cases hc⟩
      have rw5 : RW (ca d3 0 (upd (d3 0) 6 0)) (σ.2.2.2.map tm1) := by
        refine ⟨by rw [hD2.2 8 (by simp), e8, List.length_map], fun p hp => ?_⟩
        rw [List.length_map] at hp
        rw [ca_ne (by decide), r3 p hp]
        congr 2
        unfold pt
        rw [List.getD_eq_getElem?_getD, List.getD_eq_getElem?_getD, List.getElem?_map, List.getElem?_eq_getElem hp]
        rfl
      obtain ⟨d6, m6, s6, g6⟩ := n_store (S := S) (c := c) rw5 hi (by rw [List.length_map]; omega)
      have h7 := mi_setR h5 ho5 s6 m6
      have e6 : d2 0 6 = nI σ.2.2.2.length := h2.2.2.2.1
      have e9 : d6 0 8 = nI σ.2.2.2.length := by rw [m6.2 8 (by simp), hD2.2 8 (by simp), e8]
      have g3' : ∀ K a1, go S 103 35 [.ref 20, a1, .int 0] [] (mk c (md (ca d2 0 (upd (d2 0) 8 (nI σ.2.2.2.length))))) K = go S 103 64 [.ref 20, a1, .int (nI σ.2.2.2.length)] [] (mk c (md d3)) K := g3
      refine ⟨d6, h7, fun K => ?_⟩
      simp only [↓g103_0, ↓g103_1, ↓g103_4, ↓g103_7, ↓g103_8, ↓g103_9, ↓g103_10, ↓g103_13, ↓g103_15, ↓g103_18, ↓g103_20, ↓g103_21, ↓g103_22, ↓g103_25, ↓g103_26, ↓g103_27, ↓g103_30, ↓g103_33, ↓g103_34, ↓g103_36, ↓g103_37, ↓g103_40, ↓g103_43, ↓g103_44, ↓g103_47, ↓g103_48, ↓g103_49, ↓g103_52, ↓g103_53, ↓g103_54, ↓g103_57, ↓g103_58, ↓g103_61, ↓g103_65, ↓g103_66, ↓g103_69, ↓g103_70, ↓g103_71, ↓g103_74, ↓g103_75, ↓g103_78, ↓mo_20, ↓mf_20_0, ↓mf_20_1, ↓mp_20_2, ↓mf_20_2, ↓mf_20_3, ↓mf_20_4, ↓mf_20_5, ↓mp_20_6, ↓mf_20_6, ↓mf_20_7, ↓mp_20_8, ↓mf_20_8, ↓mf_20_9, ↓mf_20_10, ↓mp_20_11, ↓mf_20_11, ↓mf_20_12, ↓mf_20_13, ↓mp_20_14, ↓mf_20_14, ↓mf_20_15, ↓mp_20_16, ↓mf_20_16, ↓ma_21, ↓ms_21, ↓ma_22, ↓ms_22, ↓ma_23, ↓ms_23, ↓ma_24, ↓ms_24, ↓ma_25, ↓ms_25, ↓ma_26, ↓ms_26, ↓ma_27, ↓ms_27, ↓ma_28, ↓ms_28, ↓ma_29, ↓ms_29, ↓ma_30, ↓ms_30, ↓ma_31, ↓ms_31, ↓bnd_some, ↓cond_true, ↓m_pv_none, ↓m_pv_some, m_b01_0, m_b01_1, true_and, and_true, eq_self, ↓o_reg _ hi, i_10, ↓reduceIte, ↓g1, ↓g2, e6, ↓g3']
      simp only [↓g103_0, ↓g103_1, ↓g103_4, ↓g103_7, ↓g103_8, ↓g103_9, ↓g103_10, ↓g103_13, ↓g103_15, ↓g103_18, ↓g103_20, ↓g103_21, ↓g103_22, ↓g103_25, ↓g103_26, ↓g103_27, ↓g103_30, ↓g103_33, ↓g103_34, ↓g103_36, ↓g103_37, ↓g103_40, ↓g103_43, ↓g103_44, ↓g103_47, ↓g103_48, ↓g103_49, ↓g103_52, ↓g103_53, ↓g103_54, ↓g103_57, ↓g103_58, ↓g103_61, ↓g103_64, ↓g103_65, ↓g103_66, ↓g103_69, ↓g103_70, ↓g103_71, ↓g103_74, ↓g103_75, ↓g103_78, ↓mo_20, ↓mf_20_0, ↓mf_20_1, ↓mp_20_2, ↓mf_20_2, ↓mf_20_3, ↓mf_20_4, ↓mf_20_5, ↓mp_20_6, ↓mf_20_6, ↓mf_20_7, ↓mp_20_8, ↓mf_20_8, ↓mf_20_9, ↓mf_20_10, ↓mp_20_11, ↓mf_20_11, ↓mf_20_12, ↓mf_20_13, ↓mp_20_14, ↓mf_20_14, ↓mf_20_15, ↓mp_20_16, ↓mf_20_16, ↓ma_21, ↓ms_21, ↓ma_22, ↓ms_22, ↓ma_23, ↓ms_23, ↓ma_24, ↓ms_24, ↓ma_25, ↓ms_25, ↓ma_26, ↓ms_26, ↓ma_27, ↓ms_27, ↓ma_28, ↓ms_28, ↓ma_29, ↓ms_29, ↓ma_30, ↓ms_30, ↓ma_31, ↓ms_31, ↓bnd_some, ↓cond_true, ↓m_pv_none, ↓m_pv_some, m_b01_0, m_b01_1, true_and, and_true, eq_self, ↓g6, e9]
    · rw [if_neg hf]
      refine ⟨d1, h1, fun K => ?_⟩
      simp only [↓g103_0, ↓g103_1, ↓g103_4, ↓g103_7, ↓g103_8, ↓g103_9, ↓g103_10, ↓g103_13, ↓g103_15, ↓g103_18, ↓g103_20, ↓g103_21, ↓g103_22, ↓g103_25, ↓g103_26, ↓g103_27, ↓g103_30, ↓g103_33, ↓g103_34, ↓g103_36, ↓g103_37, ↓g103_40, ↓g103_43, ↓g103_44, ↓g103_47, ↓g103_48, ↓g103_49, ↓g103_52, ↓g103_53, ↓g103_54, ↓g103_57, ↓g103_58, ↓g103_61, ↓g103_64, ↓g103_65, ↓g103_66, ↓g103_69, ↓g103_70, ↓g103_71, ↓g103_74, ↓g103_75, ↓g103_78, ↓mo_20, ↓mf_20_0, ↓mf_20_1, ↓mp_20_2, ↓mf_20_2, ↓mf_20_3, ↓mf_20_4, ↓mf_20_5, ↓mp_20_6, ↓mf_20_6, ↓mf_20_7, ↓mp_20_8, ↓mf_20_8, ↓mf_20_9, ↓mf_20_10, ↓mp_20_11, ↓mf_20_11, ↓mf_20_12, ↓mf_20_13, ↓mp_20_14, ↓mf_20_14, ↓mf_20_15, ↓mp_20_16, ↓mf_20_16, ↓ma_21, ↓ms_21, ↓ma_22, ↓ms_22, ↓ma_23, ↓ms_23, ↓ma_24, ↓ms_24, ↓ma_25, ↓ms_25, ↓ma_26, ↓ms_26, ↓ma_27, ↓ms_27, ↓ma_28, ↓ms_28, ↓ma_29, ↓ms_29, ↓ma_30, ↓ms_30, ↓ma_31, ↓ms_31, ↓bnd_some, ↓cond_true, ↓m_pv_none, ↓m_pv_some, m_b01_0, m_b01_1, true_and, and_true, eq_self, ↓o_reg _ hi, i_10, ↓reduceIte, ↓g1, hf]
theorem M_copy (h : MI d σ) (ho : SOk σ) (x y : Int32) : MC S 104 [.ref 20, .int x, .int y] d c (F_copy σ x y) := by
  unfold F_copy
  cases hx : rgx x 6 with
  | none => exact ⟨d, h, fun K => by simp only [↓g104_0, ↓g104_1, ↓g104_4, ↓g104_7, ↓g104_8, ↓g104_11, ↓g104_14, ↓g104_15, ↓g104_16, ↓g104_17, ↓g104_20, ↓g104_21, ↓g104_22, ↓g104_25, ↓g104_26, ↓g104_27, ↓g104_30, ↓g104_31, ↓g104_34, ↓mo_20, ↓mf_20_0, ↓mf_20_1, ↓mp_20_2, ↓mf_20_2, ↓mf_20_3, ↓mf_20_4, ↓mf_20_5, ↓mp_20_6, ↓mf_20_6, ↓mf_20_7, ↓mp_20_8, ↓mf_20_8, ↓mf_20_9, ↓mf_20_10, ↓mp_20_11, ↓mf_20_11, ↓mf_20_12, ↓mf_20_13, ↓mp_20_14, ↓mf_20_14, ↓mf_20_15, ↓mp_20_16, ↓mf_20_16, ↓ma_21, ↓ms_21, ↓ma_22, ↓ms_22, ↓ma_23, ↓ms_23, ↓ma_24, ↓ms_24, ↓ma_25, ↓ms_25, ↓ma_26, ↓ms_26, ↓ma_27, ↓ms_27, ↓ma_28, ↓ms_28, ↓ma_29, ↓ms_29, ↓ma_30, ↓ms_30, ↓ma_31, ↓ms_31, ↓bnd_some, ↓cond_true, ↓m_pv_none, ↓m_pv_some, m_b01_0, m_b01_1, true_and, and_true, eq_self, ↓z_reg _ hx, ↓reduceIte]⟩
  | some i =>
    obtain ⟨hi, rfl⟩ := rgx_some hx (by decide)
    cases hy : rgx y 6 with
    | none => exact ⟨d, h, fun K => by simp only [↓g104_0, ↓g104_1, ↓g104_4, ↓g104_7, ↓g104_8, ↓g104_11, ↓g104_14, ↓g104_15, ↓g104_16, ↓g104_17, ↓g104_20, ↓g104_21, ↓g104_22, ↓g104_25, ↓g104_26, ↓g104_27, ↓g104_30, ↓g104_31, ↓g104_34, ↓mo_20, ↓mf_20_0, ↓mf_20_1, ↓mp_20_2, ↓mf_20_2, ↓mf_20_3, ↓mf_20_4, ↓mf_20_5, ↓mp_20_6, ↓mf_20_6, ↓mf_20_7, ↓mp_20_8, ↓mf_20_8, ↓mf_20_9, ↓mf_20_10, ↓mp_20_11, ↓mf_20_11, ↓mf_20_12, ↓mf_20_13, ↓mp_20_14, ↓mf_20_14, ↓mf_20_15, ↓mp_20_16, ↓mf_20_16, ↓ma_21, ↓ms_21, ↓ma_22, ↓ms_22, ↓ma_23, ↓ms_23, ↓ma_24, ↓ms_24, ↓ma_25, ↓ms_25, ↓ma_26, ↓ms_26, ↓ma_27, ↓ms_27, ↓ma_28, ↓ms_28, ↓ma_29, ↓ms_29, ↓ma_30, ↓ms_30, ↓ma_31, ↓ms_31, ↓bnd_some, ↓cond_true, ↓m_pv_none, ↓m_pv_some, m_b01_0, m_b01_1, true_and, and_true, eq_self, ↓o_reg _ hi, ↓z_reg _ hy, i_10, ↓reduceIte]⟩
    | some j =>
      obtain ⟨hj, rfl⟩ := rgx_some hy (by decide)
      obtain ⟨d2, h2, mr, g2⟩ := mi_rec (S := S) (c := c) h ho
      obtain ⟨d3, r3, v3, m3, g3⟩ := n_load (S := S) (c := c) h2.1 hi (ho.reg hi)
      have h3 := h2.mx m3 (by simp) (by simp) (by simp) (by simp) (by simp) (by simp) (by simp)
      obtain ⟨d4, m4, s4, g4⟩ := n_store (S := S) (c := c) r3 hj (ho.reg hi).2
      have h4 := mi_setR h3 (kp_ok ho) s4 m4
      have e9 : d4 0 8 = nI (σ.1 i).length := by rw [m4.2 8 (by simp)]; exact r3.1
      refine ⟨d4, h4, fun K => ?_⟩
      simp only [↓g104_0, ↓g104_1, ↓g104_4, ↓g104_7, ↓g104_8, ↓g104_11, ↓g104_14, ↓g104_15, ↓g104_16, ↓g104_17, ↓g104_20, ↓g104_21, ↓g104_22, ↓g104_25, ↓g104_26, ↓g104_27, ↓g104_30, ↓g104_31, ↓g104_34, ↓mo_20, ↓mf_20_0, ↓mf_20_1, ↓mp_20_2, ↓mf_20_2, ↓mf_20_3, ↓mf_20_4, ↓mf_20_5, ↓mp_20_6, ↓mf_20_6, ↓mf_20_7, ↓mp_20_8, ↓mf_20_8, ↓mf_20_9, ↓mf_20_10, ↓mp_20_11, ↓mf_20_11, ↓mf_20_12, ↓mf_20_13, ↓mp_20_14, ↓mf_20_14, ↓mf_20_15, ↓mp_20_16, ↓mf_20_16, ↓ma_21, ↓ms_21, ↓ma_22, ↓ms_22, ↓ma_23, ↓ms_23, ↓ma_24, ↓ms_24, ↓ma_25, ↓ms_25, ↓ma_26, ↓ms_26, ↓ma_27, ↓ms_27, ↓ma_28, ↓ms_28, ↓ma_29, ↓ms_29, ↓ma_30, ↓ms_30, ↓ma_31, ↓ms_31, ↓bnd_some, ↓cond_true, ↓m_pv_none, ↓m_pv_some, m_b01_0, m_b01_1, true_and, and_true, eq_self, ↓o_reg _ hi, ↓o_reg _ hj, i_10, ↓reduceIte, ↓g2, ↓g3, ↓g4, e9]
end MC1
