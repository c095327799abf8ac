/-! the heap -/
def m_fld (M : mM) (o ci k : Nat) : Option Value := match M[o]? with
  | some (.inr (c, fs)) => cond (Nat.beq c ci) fs[k]? none
  | _ => none
def m_put (M : mM) (o ci k : Nat) (v : Value) : Option mM := match M[o]? with
  | some (.inr (c, fs)) => cond (Nat.beq c ci && Nat.blt k fs.length) (some (M.set o (.inr (c, fs.set k v)))) none
  | _ => none
def m_arr (M : mM) (o : Nat) : Option (Nat × (Nat → Int32)) := match M[o]? with
  | some (.inl a) => some a
  | _ => none
def m_inb (i : Int32) (n : Nat) : Bool := decide (0 ≤ i) && decide (i.toNatClampNeg < n)
theorem m_inb_of {i : Int32} {n : Nat} (h : m_inb i n = true) : vp_in i n := by
  simp only [m_inb, Bool.and_eq_true, decide_eq_true_eq] at h
  rintro (h1 | h1)
  · exact absurd h1 (Int32.not_lt.mpr h.1)
  · omega
def m_ast (M : mM) (o : Nat) (i x : Int32) : Option mM := match M[o]? with
  | some (.inl (n, f)) => cond (m_inb i n) (some (M.set o (.inl (n, upd f i.toNatClampNeg x)))) none
  | _ => none
theorem m_fld_of {M : mM} {o ci k : Nat} {v : Value} (h : m_fld M o ci k = some v) : ∃ fs, M[o]? = some (.inr (ci, fs)) ∧ fs[k]? = some v := by
  unfold m_fld at h
  split at h
  · rename_i c fs hc
    cases hb : Nat.beq c ci with
    | false => rw [hb] at h; cases h
    | true =>
      rw [hb] at h
      have e := Nat.eq_of_beq_eq_true hb
      subst e
      exact ⟨fs, hc, h⟩
  · cases h
theorem m_put_of {M M' : mM} {o ci k : Nat} {v : Value} (h : m_put M o ci k v = some M') : ∃ fs, M[o]? = some (.inr (ci, fs)) ∧ k < fs.length ∧ M' = M.set o (.inr (ci, fs.set k v)) := by
  unfold m_put at h
  split at h
  · rename_i c fs hc
    cases hb : (Nat.beq c ci && Nat.blt k fs.length) with
    | false => rw [hb] at h; cases h
    | true =>
      rw [hb] at h
      simp only [Bool.and_eq_true] at hb
      have e := Nat.eq_of_beq_eq_true hb.1
      subst e
      cases h
      exact ⟨fs, hc, by have := Nat.le_of_ble_eq_true (show Nat.ble (k + 1) fs.length = true from hb.2); omega, rfl⟩
  · cases h
theorem m_arr_of {M : mM} {o : Nat} {a : Nat × (Nat → Int32)} (h : m_arr M o = some a) : M[o]? = some (.inl a) := by
  unfold m_arr at h
  split at h
  · rename_i a' ha
    cases h
    exact ha
  · cases h
theorem m_ast_of {M M' : mM} {o : Nat} {i x : Int32} (h : m_ast M o i x = some M') : ∃ n f, M[o]? = some (.inl (n, f)) ∧ vp_in i n ∧ M' = M.set o (.inl (n, upd f i.toNatClampNeg x)) := by
  unfold m_ast at h
  split at h
  · rename_i n f hc
    cases hb : m_inb i n with
    | false => rw [hb] at h; cases h
    | true => rw [hb] at h; cases h; exact ⟨n, f, hc, m_inb_of hb, rfl⟩
  · cases h
theorem m_sz_set {M : mM} {o : Nat} {c c' : mC} (h : M[o]? = some c) (hc : m_sc c' = m_sc c) : m_sz (M.set o c') = m_sz M := by
  unfold m_sz
  rw [List.map_set, hc]
  have e : (M.map m_sc).set o (m_sc c) = M.map m_sc := by
    apply List.ext_getElem?
    intro j
    by_cases hj : j = o
    · subst hj
      have hl := (List.getElem?_eq_some_iff.mp h).1
      rw [List.getElem?_set_self (by rw [List.length_map]; exact hl), List.getElem?_map, h]
      rfl
    · rw [List.getElem?_set_ne (Ne.symm hj)]
  rw [e]
theorem m_okM_set {M : mM} {o : Nat} {c' : mC} (h : m_okM M) (hc : m_okC M.length c') : m_okM (M.set o c') := by
  intro c hm
  rw [List.length_set]
  rcases List.mem_or_eq_of_mem_set hm with h1 | h1
  · exact h c h1
  · exact h1 ▸ hc
theorem m_okV_len {M M' : mM} {vs : List Value} (h : m_okV M vs) (e : M'.length = M.length) : m_okV M' vs := fun v hv => by rw [e]; exact h v hv
def a_get (ci k pc' : Nat) : mA := fun ls st M => match st with
  | .ref o :: r => match m_fld M o ci k with
    | some v => m_nx pc' ls (v :: r) M
    | none => none
  | _ => none
theorem k_get {L : Nat} {xs : Nat → Int32} {m pc ci k index N : Nat} {C : String} {T : u_T} (hd : decode (mcc m) pc = .ok (.getfield index, 3)) (hc : vwCl[ci]? = some (C, T, N)) (hk : k < N) (hin : ∀ w ∈ u_ws C T N, w ∈ lw_gd) (hw : Cond.fieldLink (mY m).cls index (T k).1 (T k).2.1 (T k).2.2.1 ∈ lw_gd) : m_Ok L xs m pc (a_get ci k (pc + 3)) := by
  refine m_okP fun ls st M => ?_
  unfold a_get
  split
  · trivial
  · rename_i heq
    split at heq
    · rename_i o r
      split at heq
      · rename_i v hv
        cases heq
        obtain ⟨fs, hM, hfs⟩ := m_fld_of hv
        refine ⟨rfl, fun h3 h1 h2 => ⟨h1, m_okV_cons.mpr ⟨h3 _ (List.mem_of_getElem? hM) v (List.mem_of_getElem? hfs), (m_okV_cons.mp h2).2⟩⟩, fun X hX H lsA ad locs cells slots hRL hLR _ _ kk => ?_⟩
        exact va_get hX.1 hX.2.1 hX.2.2.2.2.1 hin hX.2.2.2.1 hX.2.2.2.2.2.1 hRL.1 o (m_ws_at hM) hc k hk (hX.2.2.2.2.1 _ hw) (fun _ h => h) (by rw [List.getElem?_map, hfs]; rfl) hd (kk lsA hLR)
      · cases heq
    · cases heq
  · rename_i heq
    split at heq
    · split at heq <;> cases heq
    · cases heq
def a_iald (pc' : Nat) : mA := fun ls st M => match st with
  | .int i :: .ref o :: r => match m_arr M o with
    | some a => cond (m_inb i a.1) (m_nx pc' ls (.int (a.2 i.toNatClampNeg) :: r) M) none
    | none => none
  | _ => none
theorem k_iald {L : Nat} {xs : Nat → Int32} {m pc : Nat} (hd : decode (mcc m) pc = .ok (.iaload, 1)) : m_Ok L xs m pc (a_iald (pc + 1)) := by
  refine m_okP fun ls st M => ?_
  unfold a_iald
  split
  · trivial
  · rename_i heq
    split at heq
    · rename_i i o r
      split at heq
      · rename_i a ha
        cases hb : m_inb i a.1 with
        | false => rw [hb] at heq; cases heq
        | true =>
          rw [hb] at heq
          cases heq
          obtain ⟨n, f⟩ := a
          exact ⟨rfl, fun _ h1 h2 => ⟨h1, m_okV_cons.mpr ⟨trivial, (m_okV_cons.mp (m_okV_cons.mp h2).2).2⟩⟩, fun X hX H lsA ad locs cells slots hRL hLR _ _ kk => va_iald hX.1 hX.2.1 hX.2.2.2.2.2.1 hRL.1 o 0 (m_ws_at (m_arr_of ha)) rfl (m_inb_of hb) hd (kk lsA hLR)⟩
      · cases heq
    · cases heq
  · rename_i heq
    split at heq
    · rename_i i o r
      split at heq
      · rename_i a ha
        cases hb : m_inb i a.1 <;> rw [hb] at heq <;> cases heq
      · cases heq
    · cases heq
def a_alen (pc' : Nat) : mA := fun ls st M => match st with
  | .ref o :: r => match m_arr M o with
    | some a => m_nx pc' ls (.int (nI a.1) :: r) M
    | none => none
  | _ => none
theorem k_alen {L : Nat} {xs : Nat → Int32} {m pc : Nat} (hd : decode (mcc m) pc = .ok (.arraylength, 1)) : m_Ok L xs m pc (a_alen (pc + 1)) := by
  refine m_okP fun ls st M => ?_
  unfold a_alen
  split
  · trivial
  · rename_i heq
    split at heq
    · rename_i o r
      split at heq
      · rename_i a ha
        cases heq
        obtain ⟨n, f⟩ := a
        exact ⟨rfl, fun _ h1 h2 => ⟨h1, m_okV_cons.mpr ⟨trivial, (m_okV_cons.mp h2).2⟩⟩, fun X hX H lsA ad locs cells slots hRL hLR _ _ kk => va_alen hX.1 hX.2.1 hX.2.2.2.2.2.1 hRL.1 o 0 (m_ws_at (m_arr_of ha)) rfl rfl hd (kk lsA hLR)⟩
      · cases heq
    · cases heq
  · rename_i heq
    split at heq
    · split at heq <;> cases heq
    · cases heq
/-! the script -/
def a_sld (L : Nat) (xs : Nat → Int32) (pc' : Nat) : mA := fun ls st M => match st with
  | .int i :: .float _ :: r => cond (m_inb i L) (m_nx pc' ls (.int (xs i.toNatClampNeg) :: r) M) none
  | _ => none
theorem k_sld {L : Nat} {xs : Nat → Int32} {m pc : Nat} (hd : decode (mcc m) pc = .ok (.iaload, 1)) : m_Ok L xs m pc (a_sld L xs (pc + 1)) := by
  refine m_okP fun ls st M => ?_
  unfold a_sld
  split
  · trivial
  · rename_i heq
    split at heq
    · rename_i i _ r
      cases hb : m_inb i L with
      | false => rw [hb] at heq; cases heq
      | true =>
        rw [hb] at heq
        cases heq
        exact ⟨rfl, fun _ h1 h2 => ⟨h1, m_okV_cons.mpr ⟨trivial, (m_okV_cons.mp (m_okV_cons.mp h2).2).2⟩⟩, fun X hX H lsA ad locs cells slots hRL hLR _ _ kk => va_sld hX.1 hX.2.1 hX.2.2.2.2.2.2.2.2.2.2.2.2.1 hX.2.2.2.2.2.2.2.2.2.2.2.2.2.1 hX.2.2.2.2.2.2.2.2.2.2.2.2.2.2 hRL.2.2 (m_inb_of hb) hd (kk lsA hLR)⟩
    · cases heq
  · rename_i heq
    split at heq
    · rename_i i _ r
      cases hb : m_inb i L <;> rw [hb] at heq <;> cases heq
    · cases heq
def a_slen (L : Nat) (pc' : Nat) : mA := fun ls st M => match st with
  | .float _ :: r => m_nx pc' ls (.int (nI L) :: r) M
  | _ => none
theorem k_slen {L : Nat} {xs : Nat → Int32} {m pc : Nat} (hd : decode (mcc m) pc = .ok (.arraylength, 1)) : m_Ok L xs m pc (a_slen L (pc + 1)) := by
  refine m_okP fun ls st M => ?_
  unfold a_slen
  split
  · trivial
  · rename_i heq
    split at heq
    · rename_i _ r
      cases heq
      exact ⟨rfl, fun _ h1 h2 => ⟨h1, m_okV_cons.mpr ⟨trivial, (m_okV_cons.mp h2).2⟩⟩, fun X hX H lsA ad locs cells slots hRL hLR _ _ kk => va_slen hX.1 hX.2.1 hX.2.2.2.2.2.2.2.2.2.2.2.2.1 hX.2.2.2.2.2.2.2.2.2.2.2.2.2.1 hX.2.2.2.2.2.2.2.2.2.2.2.2.2.2 hRL.2.2 hd (kk lsA hLR)⟩
    · cases heq
  · rename_i heq
    split at heq <;> cases heq
/-! writes -/
theorem m_okW {L : Nat} {xs : Nat → Int32} {m pc pc' : Nat} {a : mA} (h : ∀ ls st M, match a ls st M with
    | none => True
    | some (.inl (p', ls', st', M')) => p' = pc' ∧ ls' = ls ∧ (m_okV M st → m_okV M st') ∧ (m_okM M → m_okV M st → m_okM M') ∧ M'.length = M.length ∧ m_sz M' = m_sz M ∧ ∀ (X : m_X), m_CX L xs m X → ∀ (H : Heap) (lsA : Array Slot) (ad : Nat → Nat) (locs : List Loc) (cells slots : Nat), lsA.size = mml m → m_RL X ad M H locs → (∀ H1 locs1, m_RL X ad M' H1 locs1 → m_W X H1 locs1 cells slots pc' lsA (st'.map (m_cv (x_b X) ad))) → m_W X H locs cells slots pc lsA (st.map (m_cv (x_b X) ad))
    | some (.inr _) => False) : m_Ok L xs m pc a := by
  intro ls st M h1 h2 h3
  have h0 := h ls st M
  cases ha : a ls st M with
  | none => trivial
  | some r =>
    rw [ha] at h0
    match r, h0 with
    | .inl (p', ls', st', M'), h0 =>
      simp only at h0 ⊢
      obtain ⟨rfl, rfl, g1, g2, g3, g4, g5⟩ := h0
      refine ⟨⟨m_okV_len h1 g3, m_okV_len (g1 h2) g3, g2 h3 h2, by omega, by omega⟩, fun X hX n0 z0 ad0 hn hcl hsl hJ H lsA ad locs cells slots had hc hz hRL hLR => ?_⟩
      exact g5 X hX H lsA ad locs cells slots hLR.2.1 hRL (fun H1 locs1 hRL1 => hJ H1 lsA ad locs1 cells slots had (by omega) (by omega) hRL1 hLR)
def a_put (q : Value → Bool) (ci k pc' : Nat) : mA := fun ls st M => match st with
  | v :: .ref o :: r => cond (q v) (match m_put M o ci k v with
    | some M' => m_nx pc' ls r M'
    | none => none) none
  | _ => none
theorem a_put_of {q : Value → Bool} {ci k pc' : Nat} {ls st : List Value} {M : mM} {r : mR} (h : a_put q ci k pc' ls st M = some r) : ∃ v o rest M', st = v :: .ref o :: rest ∧ q v = true ∧ m_put M o ci k v = some M' ∧ r = .inl (pc', ls, rest, M') := by
  unfold a_put at h
  split at h
  · rename_i v o rest
    cases hq : q v with
    | false => rw [hq] at h; cases h
    | true =>
      rw [hq] at h
      simp only [cond_true] at h
      split at h
      · rename_i M' hM'
        cases h
        exact ⟨v, o, rest, M', rfl, hq, hM', rfl⟩
      · cases h
  · cases h
theorem k_putW {L : Nat} {xs : Nat → Int32} {m pc ci k : Nat} {q : Value → Bool} (hW : ∀ (X : m_X), m_CX L xs m X → ∀ (H : Heap) (lsA : Array Slot) (ad : Nat → Nat) (locs : List Loc) (cells slots : Nat) (v : Value) (o : Nat) (r : List Value) (M : mM) (fs : List Value), q v = true → m_RL X ad M H locs → M[o]? = some (.inr (ci, fs)) → k < fs.length →
      (∀ (H1 : Heap) (locs1 : List Loc), va_P (x_D X) vwCl ((m_ws (x_b X) ad (x_cA X) M).set o (ad o, .inr (ci, (fs.map (m_cv (x_b X) ad)).set k (m_cv (x_b X) ad v)))) H1 → va_D (x_A X) ((m_ws (x_b X) ad (x_cA X) M).set o (ad o, .inr (ci, (fs.map (m_cv (x_b X) ad)).set k (m_cv (x_b X) ad v)))) → va_S (x_A X) (x_s X).heap H1 locs1 → m_W X H1 locs1 cells slots (pc + 3) lsA r) → m_W X H locs cells slots pc lsA (m_cv (x_b X) ad v :: .ref (ad o) :: r)) : m_Ok L xs m pc (a_put q ci k (pc + 3)) := by
  refine m_okW (pc' := pc + 3) fun ls st M => ?_
  cases ha : a_put q ci k (pc + 3) ls st M with
  | none => trivial
  | some r =>
    obtain ⟨v, o, rest, M', rfl, hq, hM', rfl⟩ := a_put_of ha
    obtain ⟨fs, hM, hk, rfl⟩ := m_put_of hM'
    refine ⟨rfl, rfl, fun h2 => (m_okV_cons.mp (m_okV_cons.mp h2).2).2, fun h3 h2 => m_okM_set h3 ?_, by rw [List.length_set], m_sz_set hM (by simp [m_sc]), fun X hX H lsA ad locs cells slots _ hRL kk => ?_⟩
    · intro w hw
      rcases List.mem_or_eq_of_mem_set hw with h1 | h1
      · exact h3 _ (List.mem_of_getElem? hM) w h1
      · exact h1 ▸ (m_okV_cons.mp h2).1
    · refine hW X hX H lsA ad locs cells slots v o _ M fs hq hRL hM hk fun H1 locs1 hP hD hS => kk H1 locs1 ?_
      have e : m_ws (x_b X) ad (x_cA X) (M.set o (.inr (ci, fs.set k v))) = (m_ws (x_b X) ad (x_cA X) M).set o (ad o, .inr (ci, (fs.map (m_cv (x_b X) ad)).set k (m_cv (x_b X) ad v))) := by
        rw [m_ws_set]
        simp only [m_ce, List.map_set]
      unfold m_RL
      rw [e]
      exact ⟨hP, hD, hS⟩
section KPUT
variable {L : Nat} {xs : Nat → Int32} {m pc ci k index N : Nat} {C : String} {T : u_T} {ty0 : Nat → FieldType}
theorem k_putI (hd : decode (mcc m) pc = .ok (.putfield index, 3)) (hc : vwCl[ci]? = some (C, T, N)) (hk : k < N) (hin : ∀ w ∈ u_ws C T N, w ∈ lw_gd) (hw : Cond.fieldLink (mY m).cls index (T k).1 (T k).2.1 (T k).2.2.1 ∈ lw_gd) (hty : ∀ k, k < N → parseFieldDescriptor (T k).2.2.1 = some (ty0 k)) (hnm : ∀ a, a < N → ∀ b, b < N → a ≠ b → (T a).2.1 ≠ (T b).2.1) (hfin : (T k).2.2.2 = false) (ht : ty0 k = .int) : m_Ok L xs m pc (a_put q_int ci k (pc + 3)) :=
  k_putW fun X hX H lsA ad locs cells slots v o r M fs hv hRL hM hkl kk => by
    obtain ⟨x, rfl⟩ := q_int_of hv
    exact va_put hX.1 hX.2.1 hX.2.2.2.2.1 hin ty0 hty hnm hX.2.2.2.1 hX.2.2.2.2.2.1 hRL.1 hRL.2.1 hRL.2.2 o (m_ws_at hM) hc k hk (hX.2.2.2.2.1 _ hw) (fun _ h => h) hfin (hty k hk) (by rw [ht]; rfl) (by rw [ht]; rfl) (by rw [List.length_map]; exact hkl) hd kk
theorem k_putR (hd : decode (mcc m) pc = .ok (.putfield index, 3)) (hc : vwCl[ci]? = some (C, T, N)) (hk : k < N) (hin : ∀ w ∈ u_ws C T N, w ∈ lw_gd) (hw : Cond.fieldLink (mY m).cls index (T k).1 (T k).2.1 (T k).2.2.1 ∈ lw_gd) (hty : ∀ k, k < N → parseFieldDescriptor (T k).2.2.1 = some (ty0 k)) (hnm : ∀ a, a < N → ∀ b, b < N → a ≠ b → (T a).2.1 ≠ (T b).2.1) (hfin : (T k).2.2.2 = true) (hi : (mY m).name = "<init>") (hdc : (T k).1 = (mY m).cls) (hrt : (∃ s, ty0 k = .object s) ∨ ∃ t, ty0 k = .array t) : m_Ok L xs m pc (a_put q_ref ci k (pc + 3)) :=
  k_putW fun X hX H lsA ad locs cells slots v o r M fs hv hRL hM hkl kk => by
    obtain ⟨x, hx⟩ := q_ref_of hv (x_b X) ad
    rw [hx] at kk ⊢
    exact va_putF hX.1 hX.2.1 hX.2.2.2.2.1 hin ty0 hty hnm hX.2.2.2.1 hX.2.2.2.2.2.1 hRL.1 hRL.2.1 hRL.2.2 o (m_ws_at hM) hc k hk (hX.2.2.2.2.1 _ hw) (fun _ h => h) hfin (hX.2.2.2.2.2.2.2.2.2.1.trans hi) hdc (hty k hk) (by rcases hrt with ⟨s, e⟩ | ⟨t, e⟩ <;> rw [e] <;> rfl) (by rcases hrt with ⟨s, e⟩ | ⟨t, e⟩ <;> rw [e] <;> rfl) (by rw [List.length_map]; exact hkl) hd kk
end KPUT
def a_iast (pc' : Nat) : mA := fun ls st M => match st with
  | .int x :: .int i :: .ref o :: r => match m_ast M o i x with
    | some M' => m_nx pc' ls r M'
    | none => none
  | _ => none
theorem k_iast {L : Nat} {xs : Nat → Int32} {m pc : Nat} (hd : decode (mcc m) pc = .ok (.iastore, 1)) : m_Ok L xs m pc (a_iast (pc + 1)) := by
  refine m_okW (pc' := pc + 1) fun ls st M => ?_
  unfold a_iast
  split
  · trivial
  · rename_i heq
    split at heq
    · rename_i x i o r
      split at heq
      · rename_i M' hM'
        cases heq
        obtain ⟨n, f, hM, hin, rfl⟩ := m_ast_of hM'
        refine ⟨rfl, rfl, fun h2 => (m_okV_cons.mp (m_okV_cons.mp (m_okV_cons.mp h2).2).2).2, fun h3 _ => m_okM_set h3 trivial, by rw [List.length_set], m_sz_set hM rfl, fun X hX H lsA ad locs cells slots _ hRL kk => ?_⟩
        refine va_iast hX.1 hX.2.1 hX.2.2.2.2.2.1 hRL.1 hRL.2.1 hRL.2.2 o 0 (m_ws_at hM) rfl hin hd fun H1 locs1 hP hD hS => kk H1 locs1 ?_
        unfold m_RL
        rw [m_ws_set]
        exact ⟨hP, hD, hS⟩
      · cases heq
    · cases heq
  · rename_i heq
    split at heq
    · split at heq <;> cases heq
    · cases heq
