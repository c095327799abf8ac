/-! making -/
theorem m_okV_push {M : mM} {vs : List Value} {c : mC} (h : m_okV M vs) : m_okV (M ++ [c]) vs := h.mono (by rw [List.length_append]; omega)
theorem m_okM_push {M : mM} {c : mC} (h : m_okM M) (hc : m_okC (M.length + 1) c) : m_okM (M ++ [c]) := by
  intro c' hm
  rw [List.length_append]
  rcases List.mem_append.mp hm with h1 | h1
  · have h2 := h c' h1
    cases c' with
    | inl a => trivial
    | inr o => exact fun v hv => (h2 v hv).mono (by simp)
  · rw [List.mem_singleton.mp h1]
    exact hc
theorem m_sz_push (M : mM) (c : mC) : m_sz (M ++ [c]) = m_sz M + m_sc c := by simp [m_sz]
theorem m_RL_push {X : m_X} {ad : Nat → Nat} {M : mM} {H1 : Heap} {locs : List Loc} {q : Nat} {c : mC} {e : va_E} (hM : m_okM M) (he : ∀ ad', m_ce (x_b X) ad' (x_cA X) c = e) (hP : va_P (x_D X) vwCl (m_ws (x_b X) ad (x_cA X) M ++ [(q, e)]) H1) (hD : va_D (x_A X) (m_ws (x_b X) ad (x_cA X) M ++ [(q, e)])) (hS : va_S (x_A X) (x_s X).heap H1 locs) : m_RL X (va_up ad M.length q) (M ++ [c]) H1 locs := by
  have e1 : m_ws (x_b X) (va_up ad M.length q) (x_cA X) (M ++ [c]) = m_ws (x_b X) ad (x_cA X) M ++ [(q, e)] := by
    rw [m_ws_push, m_ws_congr (ad := ad) (ad' := va_up ad M.length q) (fun k hk => if_neg (Nat.ne_of_lt hk)) hM, he]
    simp [va_up]
  unfold m_RL
  rw [e1]
  exact ⟨hP, hD, hS⟩
def a_new (ci : Nat) (fs : List Value) (pc' : Nat) : mA := fun ls st M => m_nx pc' ls (.ref M.length :: st) (M ++ [.inr (ci, fs)])
theorem k_new {L : Nat} {xs : Nat → Int32} {m pc ci index N : Nat} {C : String} {T : u_T} {ty0 : Nat → FieldType} {fs : List Value} (hd : decode (mcc m) pc = .ok (.new index, 3)) (hc : vwCl[ci]? = some (C, T, N)) (hin : ∀ w ∈ u_ws C T N, w ∈ lw_gd) (hty : ∀ k, k < N → parseFieldDescriptor (T k).2.2.1 = some (ty0 k)) (hw1 : Cond.classLink (mY m).cls index C ∈ lw_gd) (hw2 : Cond.instantiable C N ∈ lw_gd) (hw3 : Cond.initialized C ∈ lw_gd) (hfs : ∀ j, j < N → defaultValue (ty0 j) = vp_V fs j) (hfl : fs.length = N) (hok : ∀ v ∈ fs, ∀ n, m_ok n v) (hcv : ∀ b ad, fs.map (m_cv b ad) = fs) : m_Ok L xs m pc (a_new ci fs (pc + 3)) := by
  intro ls st M h1 h2 h3
  refine ⟨⟨m_okV_push h1, m_okV_cons.mpr ⟨by show M.length < (M ++ [Sum.inr (ci, fs)]).length; simp, m_okV_push h2⟩, m_okM_push h3 (fun v hv => hok v hv _), by simp, by rw [m_sz_push]; omega⟩, fun X hX n0 z0 ad0 hn hcl hsl hJ H lsA ad locs cells slots had hcc hz hRL hLR => ?_⟩
  rw [m_sz_push] at hsl
  simp only [List.length_append, List.length_singleton, m_sc] at hcl hsl
  refine va_new hX.1 hX.2.1 hX.2.2.2.2.1 hin ty0 hty hX.2.2.2.1 (hX.2.2.2.2.1 _ hw1) (hX.2.2.2.2.1 _ hw2) (hX.2.2.2.2.1 _ hw3) hX.2.2.2.2.2.1 hRL.1 hRL.2.1 hRL.2.2 hX.2.2.2.2.2.2.1 hc hfs (by omega) (by omega) hd fun q H1 hP hD hS => ?_
  have hup : ∀ k, k < M.length → va_up ad M.length q k = ad k := fun k hk => if_neg (Nat.ne_of_lt hk)
  have hW := hJ H1 lsA (va_up ad M.length q) locs (cells + 1) (slots + N) (fun k hk => (hup k (by omega)).trans (had k hk)) (by simp; omega) (by rw [m_sz_push]; simp only [m_sc]; omega) (m_RL_push h3 (fun ad' => by simp [m_ce, hcv]) hP hD hS) (hLR.congr hup h1)
  rw [List.map_cons, m_cv_map hup h2] at hW
  have e : m_cv (x_b X) (va_up ad M.length q) (.ref M.length) = .ref q := by simp [m_cv, va_up]
  rw [e] at hW
  exact hW
def a_newa (pc' : Nat) : mA := fun ls st M => match st with
  | .int n :: r => cond (decide (0 ≤ n) && decide (n.toNatClampNeg ≤ 1000000)) (m_nx pc' ls (.ref M.length :: r) (M ++ [.inl (n.toNatClampNeg, fun _ => 0)])) none
  | _ => none
theorem a_newa_of {pc' : Nat} {ls st : List Value} {M : mM} {z : mR} (h : a_newa pc' ls st M = some z) : ∃ n r, st = .int n :: r ∧ 0 ≤ n ∧ n.toNatClampNeg ≤ 1000000 ∧ z = .inl (pc', ls, .ref M.length :: r, M ++ [.inl (n.toNatClampNeg, fun _ => 0)]) := by
  unfold a_newa at h
  split at h
  · rename_i n r
    cases hb : (decide (0 ≤ n) && decide (n.toNatClampNeg ≤ 1000000)) with
    | false => rw [hb] at h; cases h
    | true =>
      rw [hb] at h
      simp only [Bool.and_eq_true, decide_eq_true_eq] at hb
      cases h
      exact ⟨n, r, rfl, hb.1, hb.2, rfl⟩
  · cases h
theorem k_newa {L : Nat} {xs : Nat → Int32} {m pc : Nat} (hd : decode (mcc m) pc = .ok (.newarray .int, 2)) (hw : Cond.arrayClass .int ∈ lw_gd) : m_Ok L xs m pc (a_newa (pc + 2)) := by
  intro ls st M h1 h2 h3
  cases ha : a_newa (pc + 2) ls st M with
  | none => trivial
  | some z =>
    obtain ⟨n, r, rfl, hn0, hnb, rfl⟩ := a_newa_of ha
    have hr := (m_okV_cons.mp h2).2
    refine ⟨⟨m_okV_push h1, m_okV_cons.mpr ⟨by show M.length < (M ++ [Sum.inl (n.toNatClampNeg, fun _ => (0 : Int32))]).length; simp, m_okV_push hr⟩, m_okM_push h3 trivial, by simp, by rw [m_sz_push]; omega⟩, fun X hX n0 z0 ad0 hn hcl hsl hJ H lsA ad locs cells slots had hcc hz hRL hLR => ?_⟩
    rw [m_sz_push] at hsl
    simp only [List.length_append, List.length_singleton, m_sc] at hcl hsl
    refine va_newa (ty := .int) (a0 := (n.toNatClampNeg, .inl fun _ => 0)) hX.1 hX.2.1 (atype := .int) (hX.2.2.2.2.1 _ hw) rfl hX.2.2.2.2.2.1 hRL.1 hRL.2.1 hRL.2.2 hX.2.2.2.2.2.2.1 (fun cA => rfl) (Int32.not_lt.mpr hn0) rfl (by show n.toNatClampNeg * 4 ≤ 536870912; omega) (by omega) (by omega) hd fun q cA' H1 hK' hP hD hS => ?_
    have e1 := (hX.2.2.2.2.2.1.2 0 _ rfl).2
    have e2 := (hK'.2 1 _ rfl).2
    have e3 : cA' = x_cA X := Option.some.inj (Eq.trans (Eq.symm e2) e1)
    subst e3
    have hup : ∀ k, k < M.length → va_up ad M.length q k = ad k := fun k hk => if_neg (Nat.ne_of_lt hk)
    have hW := hJ H1 lsA (va_up ad M.length q) locs (cells + 1) (slots + n.toNatClampNeg) (fun k hk => (hup k (by omega)).trans (had k hk)) (by simp; omega) (by rw [m_sz_push]; simp only [m_sc]; omega) (m_RL_push h3 (fun ad' => rfl) hP hD hS) (hLR.congr hup h1)
    rw [List.map_cons, m_cv_map hup hr] at hW
    have e : m_cv (x_b X) (va_up ad M.length q) (.ref M.length) = .ref q := by simp [m_cv, va_up]
    rw [e] at hW
    exact hW
/-! returns -/
def a_retI : mA := fun _ st _ => match st with
  | [.int x] => m_rt (some (.int x))
  | _ => none
def m_b01 (x : Int32) : Prop := x = 0 ∨ x = 1
def a_retZ : mA := fun _ st _ => match st with
  | [.int x] => cond (decide (x = 0) || decide (x = 1)) (m_rt (some (.int x))) none
  | _ => none
def a_retV : mA := fun _ st _ => match st with
  | [] => m_rt none
  | _ => none
theorem k_retI {L : Nat} {xs : Nat → Int32} {m pc : Nat} (hd : decode (mcc m) pc = .ok (.ireturn, 1)) (hr : mret m = some .int) : m_Ok L xs m pc a_retI := by
  intro ls st M _ _ _
  unfold a_retI
  split
  · trivial
  · rename_i heq
    split at heq <;> cases heq
  · rename_i heq
    split at heq <;> cases heq
  · rename_i heq
    split at heq
    · cases heq
      exact ⟨rfl, Or.inl ⟨_, rfl, hd, Or.inl hr⟩⟩
    · cases heq
theorem a_retZ_of {ls st : List Value} {M : mM} {z : mR} (h : a_retZ ls st M = some z) : ∃ x, st = [.int x] ∧ (x = 0 ∨ x = 1) ∧ z = .inr (.inr (some (.int x))) := by
  unfold a_retZ at h
  split at h
  · rename_i x
    cases hb : (decide (x = 0) || decide (x = 1)) with
    | false => rw [hb] at h; cases h
    | true =>
      rw [hb] at h
      simp only [Bool.or_eq_true, decide_eq_true_eq] at hb
      cases h
      exact ⟨x, rfl, hb, rfl⟩
  · cases h
theorem k_retZ {L : Nat} {xs : Nat → Int32} {m pc : Nat} (hd : decode (mcc m) pc = .ok (.ireturn, 1)) (hr : mret m = some .boolean) : m_Ok L xs m pc a_retZ := by
  intro ls st M _ _ _
  cases ha : a_retZ ls st M with
  | none => trivial
  | some z =>
    obtain ⟨x, rfl, hx, rfl⟩ := a_retZ_of ha
    exact ⟨rfl, Or.inl ⟨_, rfl, hd, Or.inr ⟨hr, hx⟩⟩⟩
theorem k_retV {L : Nat} {xs : Nat → Int32} {m pc : Nat} (hd : decode (mcc m) pc = .ok (.return_, 1)) (hr : mret m = none) : m_Ok L xs m pc a_retV := by
  intro ls st M _ _ _
  unfold a_retV
  split
  · trivial
  · rename_i heq
    split at heq <;> cases heq
  · rename_i heq
    split at heq <;> cases heq
  · rename_i heq
    split at heq
    · cases heq
      exact ⟨rfl, Or.inr ⟨rfl, hd, hr⟩⟩
    · cases heq
/-! calls -/
def m_cs (st : List Value) : Nat := (st.map fun v => v.category).sum
theorem m_cs_cv (b : Nat) (ad : Nat → Nat) (st : List Value) : ((st.map (m_cv b ad)).map fun v => v.category).sum = m_cs st := by
  unfold m_cs
  rw [List.map_map]
  congr 1
  exact List.map_congr_left fun v _ => m_cv_cat b ad v
/-- what is static of a method that is called: n its parameters -/
def m_st (m' n : Nat) : Prop := ((mY m').cls ≠ "java/lang/invoke/MethodHandle" ∧ (mY m').cls ≠ "java/lang/invoke/VarHandle" ∧ (parseMethodDescriptor (mY m').desc).map (fun d => d.parameters.length) = some n) ∧ plainName (mY m').cls = true ∧ Cond.code (mY m') (mcc m') (mml m') (mret m') ∈ lw_gd
/-- the frames and locals of a callee fit its caller's -/
def m_rmOk (m m' : Nat) : Prop := mfr m' + 1 ≤ mfr m ∧ 8 + (mml m' + 11) + mlo m' ≤ mlo m
def m_gd : Prop := True
theorem m_good (hg : m_gd) {w : Cond} (h : w ∈ lw_gd) : (w.onTables && w.keeps) = true ∨ ∃ ty, w = .arrayClass ty := good_of_word (List.mem_filter.mp h).2
theorem m_goodW (hg : m_gd) {m' n : Nat} (h : m_st m' n) : GoodIn lw_gd (m_wsm m') := fun w hw => by
  have h1 : w ∈ lw_gd := by
    rcases List.mem_cons.mp hw with e | h2
    · rw [e]; exact h.2.2
    · exact h2
  exact ⟨h1, m_good hg h1⟩
theorem m_goodL (hg : m_gd) {big : List Cond} (h : ∀ w ∈ big, w ∈ lw_gd) : GoodIn lw_gd big := fun w hw => ⟨h w hw, m_good hg (h w hw)⟩
def m_isO (M : mM) (o ci : Nat) : Bool := match M[o]? with
  | some (.inr (c, _)) => Nat.beq c ci
  | _ => false
theorem m_isO_of {M : mM} {o ci : Nat} (h : m_isO M o ci = true) : ∃ fs, M[o]? = some (.inr (ci, fs)) := by
  unfold m_isO at h
  split at h
  · rename_i c fs hc
    rw [Nat.eq_of_beq_eq_true h] at hc
    exact ⟨fs, hc⟩
  · cases h
def a_callV (m' ci n pc' : Nat) : mA := fun ls st M => match (st.take (n + 1)).reverse with
  | .ref o :: as => cond (m_isO M o ci) (cond (Nat.beq as.length n && (Nat.ble (m_entL (.ref o :: as)).length (mml m') && Nat.ble (m_cs (st.drop (n + 1))) 8)) (m_cl m' (.ref o :: as) pc' ls (st.drop (n + 1))) none) none
  | _ => none
theorem a_callV_of {m' ci n pc' : Nat} {ls st : List Value} {M : mM} {z : mR} (h : a_callV m' ci n pc' ls st M = some z) : ∃ o as st', st = as.reverse ++ .ref o :: st' ∧ as.length = n ∧ m_isO M o ci = true ∧ (m_entL (.ref o :: as)).length ≤ mml m' ∧ m_cs st' ≤ 8 ∧ z = .inr (.inl (m', .ref o :: as, pc', ls, st')) := by
  unfold a_callV at h
  split at h
  · rename_i o as he
    cases ho : m_isO M o ci with
    | false => rw [ho] at h; cases h
    | true =>
      rw [ho] at h
      cases hb : (Nat.beq as.length n && (Nat.ble (m_entL (.ref o :: as)).length (mml m') && Nat.ble (m_cs (st.drop (n + 1))) 8)) with
      | false => rw [hb] at h; cases h
      | true =>
        rw [hb] at h
        simp only [Bool.and_eq_true] at hb
        cases h
        refine ⟨o, as, st.drop (n + 1), ?_, Nat.eq_of_beq_eq_true hb.1, ho, Nat.le_of_ble_eq_true hb.2.1, Nat.le_of_ble_eq_true hb.2.2, rfl⟩
        have e : st.take (n + 1) = as.reverse ++ [.ref o] := by rw [← List.reverse_reverse (st.take (n + 1)), he, List.reverse_cons]
        exact (List.take_append_drop (n + 1) st).symm.trans (by rw [e, List.append_assoc]; rfl)
  · cases h
theorem k_callV {L : Nat} {xs : Nat → Int32} {m pc m' ci n index N : Nat} {T : u_T} (hg : m_gd) (hd : decode (mcc m) pc = .ok (.invokevirtual index, 3)) (hc : vwCl[ci]? = some ((mY m').cls, T, N)) (hs : m_st m' n) (hr : m_rmOk m m') (hw1 : Cond.methodLink (mY m).cls index (mY m') ∈ lw_gd) (hw2 : Cond.instanceMethod (mY m') ∈ lw_gd) (hw3 : Cond.selects (mY m').cls (mY m') (mY m') ∈ lw_gd) (hw4 : Cond.initialized (mY m').cls ∈ lw_gd) : m_Ok L xs m pc (a_callV m' ci n (pc + 3)) := by
  intro ls st M h1 h2 h3
  cases ha : a_callV m' ci n (pc + 3) ls st M with
  | none => trivial
  | some z =>
    obtain ⟨o, as, st', rfl, hn, ho, hlen, hcs, rfl⟩ := a_callV_of ha
    obtain ⟨fs, hM⟩ := m_isO_of ho
    refine ⟨rfl, rfl, by simp, hlen, hs.2.1, fun X hX H lsA ad locs cells slots hRL hLR Pc Qc mc ms free hMet hbl hPc hcc hss => ?_⟩
    have hG : GoodIn lw_gd (wsV (mY m).cls index (mY m').cls (mY m') (m_wsm m')) := m_goodL hg fun w hw => by
      simp only [wsV, List.cons_append, List.nil_append, List.mem_cons] at hw
      rcases hw with e | e | e | e | hw
      · rw [e]; exact hw1
      · rw [e]; exact hw2
      · rw [e]; exact hw3
      · rw [e]; exact hw4
      · exact (m_goodW hg hs w hw).1
    exact va_runV (As := as.map (m_cv (x_b X) ad)) (rest := st'.map (m_cv (x_b X) ad)) ⟨hX.1, hX.2.1, hX.2.2.1, hX.2.2.2.1, hX.2.2.2.2.1⟩ hMet (cwV n hX.2.2.2.2.1 hG rfl rfl rfl ⟨rfl, hs.1⟩ ⟨Nat.le_trans hr.1 hX.2.2.2.2.2.2.2.1, Nat.le_trans hr.2 hX.2.2.2.2.2.2.2.2.1⟩) ⟨hbl, va_recv hX.2.2.2.2.2.1 hRL.1 hc (m_ws_at hM), hPc⟩ rfl (by rw [List.length_map]; exact hn) hLR.2.1 (by simp [m_cv]) (lv_room (by rw [m_cs_cv]; exact hcs)) hd ⟨hcc, hss⟩
def a_callS (m' n pc' : Nat) : mA := fun ls st _ => cond (Nat.beq (st.take n).length n && (Nat.ble (m_entL (st.take n).reverse).length (mml m') && Nat.ble (m_cs (st.drop n)) 8)) (m_cl m' (st.take n).reverse pc' ls (st.drop n)) none
theorem k_callS {L : Nat} {xs : Nat → Int32} {m pc m' n index : Nat} (hg : m_gd) (hd : decode (mcc m) pc = .ok (.invokestatic index, 3)) (hs : m_st m' n) (hr : m_rmOk m m') (hw1 : Cond.methodLink (mY m).cls index (mY m') ∈ lw_gd) (hw2 : Cond.static (mY m') ∈ lw_gd) (hw4 : Cond.initialized (mY m').cls ∈ lw_gd) : m_Ok L xs m pc (a_callS m' n (pc + 3)) := by
  intro ls st M h1 h2 h3
  cases ha : a_callS m' n (pc + 3) ls st M with
  | none => trivial
  | some z =>
    unfold a_callS at ha
    cases hb : (Nat.beq (st.take n).length n && (Nat.ble (m_entL (st.take n).reverse).length (mml m') && Nat.ble (m_cs (st.drop n)) 8)) with
    | false => rw [hb] at ha; cases ha
    | true =>
      rw [hb] at ha
      simp only [Bool.and_eq_true] at hb
      cases ha
      refine ⟨rfl, rfl, by simp, Nat.le_of_ble_eq_true hb.2.1, hs.2.1, fun X hX H lsA ad locs cells slots hRL hLR Pc Qc mc ms free hMet hbl hPc hcc hss => ?_⟩
      have hG : GoodIn lw_gd (va_wsS (mY m).cls index (mY m') (m_wsm m')) := m_goodL hg fun w hw => by
        simp only [va_wsS, List.cons_append, List.nil_append, List.mem_cons] at hw
        rcases hw with e | e | e | hw
        · rw [e]; exact hw1
        · rw [e]; exact hw2
        · rw [e]; exact hw4
        · exact (m_goodW hg hs w hw).1
      exact va_runS (As := ((st.take n).reverse).map (m_cv (x_b X) ad)) (rest := (st.drop n).map (m_cv (x_b X) ad)) ⟨hX.1, hX.2.1, hX.2.2.1, hX.2.2.2.1, hX.2.2.2.2.1⟩ hMet (va_cwS n hX.2.2.2.2.1 hG rfl rfl rfl hs.1 ⟨Nat.le_trans hr.1 hX.2.2.2.2.2.2.2.1, Nat.le_trans hr.2 hX.2.2.2.2.2.2.2.2.1⟩) ⟨hbl, hPc⟩ rfl (by rw [List.length_map, List.length_reverse]; exact Nat.eq_of_beq_eq_true hb.1) hLR.2.1 (by
        show st.map (m_cv (x_b X) ad) = _
        rw [← List.map_reverse, List.reverse_reverse, ← List.map_append, List.take_append_drop]) (lv_room (by rw [m_cs_cv]; exact Nat.le_of_ble_eq_true hb.2.2)) hd ⟨hcc, hss⟩
def a_callI (m' n pc' : Nat) : mA := fun ls st _ => match (st.take (n + 1)).reverse with
  | .ref o :: as => cond (Nat.beq as.length n && (Nat.ble (m_entL (.ref o :: as)).length (mml m') && Nat.ble (m_cs (st.drop (n + 1))) 8)) (m_cl m' (.ref o :: as) pc' ls (st.drop (n + 1))) none
  | _ => none
theorem a_callI_of {m' n pc' : Nat} {ls st : List Value} {M : mM} {z : mR} (h : a_callI m' n pc' ls st M = some z) : ∃ o as st', st = as.reverse ++ .ref o :: st' ∧ as.length = n ∧ (m_entL (.ref o :: as)).length ≤ mml m' ∧ m_cs st' ≤ 8 ∧ z = .inr (.inl (m', .ref o :: as, pc', ls, st')) := by
  unfold a_callI at h
  split at h
  · rename_i o as he
    cases hb : (Nat.beq as.length n && (Nat.ble (m_entL (.ref o :: as)).length (mml m') && Nat.ble (m_cs (st.drop (n + 1))) 8)) with
    | false => rw [hb] at h; cases h
    | true =>
      rw [hb] at h
      simp only [Bool.and_eq_true] at hb
      cases h
      refine ⟨o, as, st.drop (n + 1), ?_, Nat.eq_of_beq_eq_true hb.1, Nat.le_of_ble_eq_true hb.2.1, Nat.le_of_ble_eq_true hb.2.2, rfl⟩
      have e : st.take (n + 1) = as.reverse ++ [.ref o] := by rw [← List.reverse_reverse (st.take (n + 1)), he, List.reverse_cons]
      exact (List.take_append_drop (n + 1) st).symm.trans (by rw [e, List.append_assoc]; rfl)
  · cases h
theorem k_callI {L : Nat} {xs : Nat → Int32} {m pc m' n index : Nat} (hg : m_gd) (hd : decode (mcc m) pc = .ok (.invokespecial index, 3)) (hs : m_st m' n) (hr : m_rmOk m m') (hi : (mY m').name = "<init>") (hret : mret m' = none) (hw1 : Cond.methodLink (mY m).cls index (mY m') ∈ lw_gd) (hw2 : Cond.instanceMethod (mY m') ∈ lw_gd) (hw4 : Cond.initialized (mY m').cls ∈ lw_gd) : m_Ok L xs m pc (a_callI m' n (pc + 3)) := by
  intro ls st M h1 h2 h3
  cases ha : a_callI m' n (pc + 3) ls st M with
  | none => trivial
  | some z =>
    obtain ⟨o, as, st', rfl, hn, hlen, hcs, rfl⟩ := a_callI_of ha
    refine ⟨rfl, rfl, by simp, hlen, hs.2.1, fun X hX H lsA ad locs cells slots hRL hLR Pc Qc mc ms free hMet hbl hPc hcc hss => ?_⟩
    exact va_runI (As := as.map (m_cv (x_b X) ad)) (rest := st'.map (m_cv (x_b X) ad)) (bytes := mcc m') (maxL := mml m') ⟨hX.1, hX.2.1, hX.2.2.1, hX.2.2.2.1, hX.2.2.2.2.1⟩ hMet (cwI n hX.2.2.2.2.1 (m_goodW hg hs) (by unfold m_wsm; rw [hret]) rfl rfl (hX.2.2.2.2.1 _ hw4) (hX.2.2.2.2.1 _ hw1) (hX.2.2.2.2.1 _ hw2) hi hs.1 ⟨Nat.le_trans hr.1 hX.2.2.2.2.2.2.2.1, Nat.le_trans hr.2 hX.2.2.2.2.2.2.2.2.1⟩) ⟨hbl, hPc⟩ rfl (by rw [List.length_map]; exact hn) hLR.2.1 (by simp [m_cv]) (lv_room (by rw [m_cs_cv]; exact hcs)) hd ⟨hcc, hss⟩
/-! the JDK's own -/
def a_objI (pc' : Nat) : mA := fun ls st M => match st with
  | .ref _ :: r => cond (Nat.ble (m_cs r) 8) (m_nx pc' ls r M) none
  | _ => none
theorem k_objI {L : Nat} {xs : Nat → Int32} {m pc index : Nat} (hd : decode (mcc m) pc = .ok (.invokespecial index, 3)) (hf : 1 ≤ mfr m) (hlo : 20 ≤ mlo m) (hw1 : Cond.methodLink (mY m).cls index Lib.objectInit ∈ lw_gd) (hw2 : Cond.instanceMethod Lib.objectInit ∈ lw_gd) (hw3 : Cond.code Lib.objectInit ⟨#[0xb1]⟩ 1 none ∈ lw_gd) : m_Ok L xs m pc (a_objI (pc + 3)) := by
  refine m_okP fun ls st M => ?_
  unfold a_objI
  split
  · trivial
  · rename_i heq
    split at heq
    · rename_i o r
      cases hb : Nat.ble (m_cs r) 8 with
      | false => rw [hb] at heq; cases heq
      | true =>
        rw [hb] at heq
        have hcs := Nat.le_of_ble_eq_true hb
        have hsum : ∀ b ad, ((r.map (m_cv b ad)).map fun v => v.category).sum ≤ 8 := fun b ad => by rw [m_cs_cv]; exact hcs
        cases heq
        refine ⟨rfl, fun _ h1 h2 => ⟨h1, (m_okV_cons.mp h2).2⟩, fun X hX H lsA ad locs cells slots hRL hLR _ _ kk => ?_⟩
        refine W.objInit hX.1 hX.2.1 hX.2.2.2.1 (hX.2.2.2.2.1 _ hw1) (hX.2.2.2.2.1 _ hw2) (hX.2.2.2.2.1 _ hw3) rfl (hLR.2.1.trans hX.2.2.1.symm) rfl hd (Nat.le_trans hf hX.2.2.2.2.2.2.2.1) ?_ (kk lsA hLR)
        have := hsum (x_b X) ad
        have h20 := Nat.le_trans hlo hX.2.2.2.2.2.2.2.2.1
        show 2 * 0 + _ + 12 ≤ _
        omega
    · cases heq
  · rename_i heq
    split at heq
    · rename_i o r
      cases hb : Nat.ble (m_cs r) 8 <;> rw [hb] at heq <;> cases heq
    · cases heq
def f_mm (g : Int32 → Int32 → Int32) (st : List Value) : Option (List Value) := match st with
  | .int y :: .int x :: r => cond (Nat.ble (m_cs r) 8) (some (.int (g x y) :: r)) none
  | _ => none
theorem f_mm_of {g : Int32 → Int32 → Int32} {st st' : List Value} (h : f_mm g st = some st') : ∃ x y r, st = .int y :: .int x :: r ∧ st' = .int (g x y) :: r ∧ m_cs r ≤ 8 := by
  unfold f_mm at h
  split at h
  · rename_i y x r
    cases hb : Nat.ble (m_cs r) 8 with
    | false => rw [hb] at h; cases h
    | true => rw [hb] at h; cases h; exact ⟨_, _, _, rfl, rfl, Nat.le_of_ble_eq_true hb⟩
  · cases h
section KM
variable {L : Nat} {xs : Nat → Int32} {m pc index : Nat}
theorem k_mm {g : Int32 → Int32 → Int32} (hW : ∀ (X : m_X) (lsA : Array Slot), m_CX L xs m X → lsA.size = mml m → ∀ (H : Heap) (locs : List Loc) (cells slots : Nat) (x y : Int32) (r : List Value), (r.map fun v => v.category).sum ≤ 8 → cells ≤ (x_R X).cells → slots ≤ (x_R X).slots → m_W X H locs cells slots (pc + 3) lsA (.int (g x y) :: r) → m_W X H locs cells slots pc lsA (.int y :: .int x :: r)) : m_Ok L xs m pc (a_stk (f_mm g) (pc + 3)) := by
  refine m_okP fun ls st M => ?_
  unfold a_stk
  cases hf : f_mm g st with
  | none => trivial
  | some st' =>
    obtain ⟨x, y, r, rfl, rfl, hcs⟩ := f_mm_of hf
    exact ⟨rfl, fun _ h1 h2 => ⟨h1, m_okV_cons.mpr ⟨trivial, (m_okV_cons.mp (m_okV_cons.mp h2).2).2⟩⟩, fun X hX H lsA ad locs cells slots _ hLR c1 c2 k => hW X lsA hX hLR.2.1 H locs cells slots x y _ (by rw [m_cs_cv]; exact hcs) c1 c2 (k lsA hLR)⟩
theorem k_mmax (hd : decode (mcc m) pc = .ok (.invokestatic index, 3)) (hf : 1 ≤ mfr m) (hlo : 21 ≤ mlo m) (hw1 : Cond.methodLink (mY m).cls index Lib.Math.max.name ∈ lw_gd) (hw2 : Cond.static Lib.Math.max.name ∈ lw_gd) (hw3 : Cond.initialized "java/lang/Math" ∈ lw_gd) (hw4 : Cond.code Lib.Math.max.name Lib.Math.max.code 2 (some .int) ∈ lw_gd) : m_Ok L xs m pc (a_stk (f_mm fun x y => if x < y then y else x) (pc + 3)) :=
  k_mm fun X lsA hX hsz H locs cells slots x y r hcs c1 c2 k => va_mmax hX.1 hX.2.1 (hX.2.2.1.trans hsz.symm) hX.2.2.2.1 (hX.2.2.2.2.1 _ hw1) (hX.2.2.2.2.1 _ hw2) (hX.2.2.2.2.1 _ hw3) (hX.2.2.2.2.1 _ hw4) (Nat.le_trans hf hX.2.2.2.2.2.2.2.1) (by have := Nat.le_trans hlo hX.2.2.2.2.2.2.2.2.1; omega) c1 c2 hd k
theorem k_mmin (hd : decode (mcc m) pc = .ok (.invokestatic index, 3)) (hf : 1 ≤ mfr m) (hlo : 21 ≤ mlo m) (hw1 : Cond.methodLink (mY m).cls index Lib.Math.min.name ∈ lw_gd) (hw2 : Cond.static Lib.Math.min.name ∈ lw_gd) (hw3 : Cond.initialized "java/lang/Math" ∈ lw_gd) (hw4 : Cond.code Lib.Math.min.name Lib.Math.min.code 2 (some .int) ∈ lw_gd) : m_Ok L xs m pc (a_stk (f_mm fun x y => if y < x then y else x) (pc + 3)) :=
  k_mm fun X lsA hX hsz H locs cells slots x y r hcs c1 c2 k => va_mmin hX.1 hX.2.1 (hX.2.2.1.trans hsz.symm) hX.2.2.2.1 (hX.2.2.2.2.1 _ hw1) (hX.2.2.2.2.1 _ hw2) (hX.2.2.2.2.1 _ hw3) (hX.2.2.2.2.1 _ hw4) (Nat.le_trans hf hX.2.2.2.2.2.2.2.1) (by have := Nat.le_trans hlo hX.2.2.2.2.2.2.2.2.1; omega) c1 c2 hd k
end KM
def m_cpy (M : mM) (a0 : Nat) (sp : Int32) (a : Nat) (dp n : Int32) : Option mM := match M[a0]?, M[a]? with
  | some (.inl (n0, f)), some (.inl (n1, g)) => cond (decide (0 ≤ sp) && (decide (0 ≤ dp) && (decide (0 ≤ n) && (decide (sp.toNatClampNeg + n.toNatClampNeg ≤ n0) && decide (dp.toNatClampNeg + n.toNatClampNeg ≤ n1))))) (some (M.set a (.inl (n1, va_cpy f g sp.toNatClampNeg dp.toNatClampNeg n.toNatClampNeg)))) none
  | _, _ => none
theorem m_cpy_of {M M' : mM} {a0 a : Nat} {sp dp n : Int32} (h : m_cpy M a0 sp a dp n = some M') : ∃ n0 f n1 g, M[a0]? = some (.inl (n0, f)) ∧ M[a]? = some (.inl (n1, g)) ∧ 0 ≤ sp ∧ 0 ≤ dp ∧ 0 ≤ n ∧ sp.toNatClampNeg + n.toNatClampNeg ≤ n0 ∧ dp.toNatClampNeg + n.toNatClampNeg ≤ n1 ∧ M' = M.set a (.inl (n1, va_cpy f g sp.toNatClampNeg dp.toNatClampNeg n.toNatClampNeg)) := by
  unfold m_cpy at h
  split at h
  · rename_i n0 f n1 g e1 e2
    cases hb : (decide (0 ≤ sp) && (decide (0 ≤ dp) && (decide (0 ≤ n) && (decide (sp.toNatClampNeg + n.toNatClampNeg ≤ n0) && decide (dp.toNatClampNeg + n.toNatClampNeg ≤ n1))))) with
    | false => rw [hb] at h; cases h
    | true =>
      rw [hb] at h
      simp only [Bool.and_eq_true, decide_eq_true_eq] at hb
      cases h
      exact ⟨n0, f, n1, g, e1, e2, hb.1, hb.2.1, hb.2.2.1, hb.2.2.2.1, hb.2.2.2.2, rfl⟩
  · cases h
def a_acopy (pc' : Nat) : mA := fun ls st M => match st with
  | .int n :: .int dp :: .ref a :: .int sp :: .ref a0 :: r => match m_cpy M a0 sp a dp n with
    | some M' => cond (Nat.ble (m_cs r) 8) (m_nx pc' ls r M') none
    | none => none
  | _ => none
theorem a_acopy_of {pc' : Nat} {ls st : List Value} {M : mM} {z : mR} (h : a_acopy pc' ls st M = some z) : ∃ n dp a sp a0 r M', st = .int n :: .int dp :: .ref a :: .int sp :: .ref a0 :: r ∧ m_cpy M a0 sp a dp n = some M' ∧ m_cs r ≤ 8 ∧ z = .inl (pc', ls, r, M') := by
  unfold a_acopy at h
  split at h
  · rename_i n dp a sp a0 r
    split at h
    · rename_i M' hM'
      cases hb : Nat.ble (m_cs r) 8 with
      | false => rw [hb] at h; cases h
      | true => rw [hb] at h; cases h; exact ⟨_, _, _, _, _, _, _, rfl, hM', Nat.le_of_ble_eq_true hb, rfl⟩
    · cases h
  · cases h
theorem k_acopy {L : Nat} {xs : Nat → Int32} {m pc index : Nat} (hd : decode (mcc m) pc = .ok (.invokestatic index, 3)) (hf : 1 ≤ mfr m) (hlo : 26 ≤ mlo m) (hw1 : Cond.methodLink (mY m).cls index arraycopyName ∈ lw_gd) (hw2 : Cond.native arraycopyName ∈ lw_gd) (hw3 : Cond.static arraycopyName ∈ lw_gd) (hw4 : Cond.initialized "java/lang/System" ∈ lw_gd) : m_Ok L xs m pc (a_acopy (pc + 3)) := by
  refine m_okW (pc' := pc + 3) fun ls st M => ?_
  cases ha : a_acopy (pc + 3) ls st M with
  | none => trivial
  | some z =>
    obtain ⟨n, dp, a, sp, a0, r, M', rfl, hcp, hcs, rfl⟩ := a_acopy_of ha
    obtain ⟨n0, f, n1, g, e1, e2, p1, p2, p3, p4, p5, rfl⟩ := m_cpy_of hcp
    refine ⟨rfl, rfl, fun h2 => (m_okV_cons.mp (m_okV_cons.mp (m_okV_cons.mp (m_okV_cons.mp (m_okV_cons.mp h2).2).2).2).2).2, fun h3 _ => m_okM_set h3 trivial, by rw [List.length_set], m_sz_set e2 rfl, fun X hX H lsA ad locs cells slots hsz hRL kk => ?_⟩
    refine va_copyi hX.1 hX.2.1 (hX.2.2.1.trans hsz.symm) hX.2.2.2.1 (hX.2.2.2.2.1 _ hw1) (hX.2.2.2.2.1 _ hw2) (hX.2.2.2.2.1 _ hw3) (hX.2.2.2.2.1 _ hw4) hX.2.2.2.2.2.1 hRL.1 hRL.2.1 hRL.2.2 a0 a 0 0 (m_ws_at e1) (m_ws_at e2) rfl rfl rfl (Int32.not_lt.mpr p1) (Int32.not_lt.mpr p2) (Int32.not_lt.mpr p3) p4 p5 (fun i _ => rfl) (Nat.le_trans hf hX.2.2.2.2.2.2.2.1) ?_ hd fun H1 locs1 hP hD hS => kk H1 locs1 ?_
    · have h1 := m_cs_cv (x_b X) ad r
      have h2 := Nat.le_trans hlo hX.2.2.2.2.2.2.2.2.1
      have h3 : nativeFrameWords "java/lang/System" "arraycopy" 5 = 7 := by decide +kernel
      omega
    · unfold m_RL
      rw [m_ws_set]
      exact ⟨hP, hD, hS⟩
/-! dup2 and dup_x2, of ints and references -/
def f_dupx2 (st : List Value) : Option (List Value) := match st with
  | .int y :: .int i :: .ref x :: r => some (.int y :: .int i :: .ref x :: .int y :: r)
  | _ => none
theorem f_dup2_of {st st' : List Value} (h : f_dup2 st = some st') : ∃ y x r, st = .int y :: .ref x :: r ∧ st' = .int y :: .ref x :: .int y :: .ref x :: r := by
  unfold f_dup2 at h; split at h <;> cases h; exact ⟨_, _, _, rfl, rfl⟩
theorem f_dupx2_of {st st' : List Value} (h : f_dupx2 st = some st') : ∃ y i x r, st = .int y :: .int i :: .ref x :: r ∧ st' = .int y :: .int i :: .ref x :: .int y :: r := by
  unfold f_dupx2 at h; split at h <;> cases h; exact ⟨_, _, _, _, rfl, rfl⟩
section KD2
variable {L : Nat} {xs : Nat → Int32} {m pc : Nat}
theorem k_dup2 (hd : decode (mcc m) pc = .ok (.dup2, 1)) : m_Ok L xs m pc (a_stk f_dup2 (pc + 1)) :=
  k_stk (fun M st st' h h2 => by obtain ⟨y, x, r, rfl, rfl⟩ := f_dup2_of h; exact m_okV_cons.mpr ⟨trivial, m_okV_cons.mpr ⟨(m_okV_cons.mp (m_okV_cons.mp h2).2).1, h2⟩⟩) fun X lsA ad hx hb H locs cells slots st st' h k => by obtain ⟨y, x, r, rfl, rfl⟩ := f_dup2_of h; exact lv_dup2_11 hx hb hd rfl rfl k
theorem k_dupx2 (hd : decode (mcc m) pc = .ok (.dup_x2, 1)) : m_Ok L xs m pc (a_stk f_dupx2 (pc + 1)) :=
  k_stk (fun M st st' h h2 => by
    obtain ⟨y, i, x, r, rfl, rfl⟩ := f_dupx2_of h
    have q := m_okV_cons.mp (m_okV_cons.mp (m_okV_cons.mp h2).2).2
    exact m_okV_cons.mpr ⟨trivial, m_okV_cons.mpr ⟨trivial, m_okV_cons.mpr ⟨q.1, m_okV_cons.mpr ⟨trivial, q.2⟩⟩⟩⟩) fun X lsA ad hx hb H locs cells slots st st' h k => by obtain ⟨y, i, x, r, rfl, rfl⟩ := f_dupx2_of h; exact lv_dup_x2 hx hb hd rfl rfl rfl k
end KD2
