/-! terms that are typed part by part -/
theorem pt_snoc (l : Tm) (q : Nat × Nat) : pt (l ++ [q]) l.length = q := by
  rw [pt_app, if_neg (Nat.lt_irrefl _), Nat.sub_self]
  rfl
theorem pt_snoc' {l : Tm} {q : Nat × Nat} {p : Nat} (h : p < l.length) : pt (l ++ [q]) p = pt l p := by rw [pt_app, if_pos h]
theorem sk_pre {l l' : Tm} : ∀ {p : Nat}, (∀ q, q < p → pt l' q = pt l q) → sk l' p = sk l p
  | 0, _ => rfl
  | p + 1, h => by
    show stp p (pt l' p) (sk l' p) = stp p (pt l p) (sk l p)
    rw [sk_pre (p := p) fun q hq => h q (by omega), h p (Nat.lt_succ_self _)]
theorem bn_pre {l l' : Tm} {p : Nat} (h : ∀ q, q ≤ p → pt l' q = pt l q) : bn l' p = bn l p := by
  unfold bn kd nu
  rw [h p (Nat.le_refl _), env_pre (l := l) (l' := l') fun q hq => congrArg Prod.fst (h q (by omega))]
/-- leaves for all that waits -/
theorem okL_rep : ∀ s : List Nat, okL (List.replicate s.length (1, 0)) s ∧ skL (List.replicate s.length (1, 0)) s = []
  | [] => ⟨trivial, rfl⟩
  | d :: s => by
    obtain ⟨h1, h2⟩ := okL_rep s
    exact ⟨⟨⟨d, s, rfl, Or.inr (Or.inl ⟨rfl, by decide⟩)⟩, h1⟩, h2⟩
def lc (l : Tm) : Tm := l ++ List.replicate (sk l l.length).length (1, 0)
theorem lc_pt {l : Tm} {p : Nat} (h : p < l.length) : pt (lc l) p = pt l p := by
  unfold lc
  rw [pt_app, if_pos h]
theorem lc_sk {l : Tm} {p : Nat} (h : p ≤ l.length) : sk (lc l) p = sk l p := sk_pre fun q hq => lc_pt (by omega)
theorem lc_len (l : Tm) : (lc l).length = l.length + (sk l l.length).length := by
  unfold lc
  rw [List.length_append, List.length_replicate]
theorem skL_dk (l : Tm) : skL l [0] = dk l l.length := by
  rw [dk_take l l.length (Nat.le_refl _), List.take_length]
theorem lc_WF {l : Tm} (h : okL l [0]) : WF (lc l) := by
  have e : (sk l l.length).length = (skL l [0]).length := by rw [skL_dk]; unfold dk; rw [List.length_map]
  obtain ⟨h1, h2⟩ := okL_rep (skL l [0])
  unfold lc
  rw [e]
  refine WF_of ?_ ?_
  · rw [okL_app]
    exact ⟨h, h1⟩
  · rw [skL_app]
    exact h2
theorem lc_dep {l : Tm} {p : Nat} (h : p ≤ l.length) : dep (lc l) p = dep l p ∧ nb (lc l) p = nb l p := by
  unfold dep nb
  rw [lc_sk h]
  exact ⟨rfl, rfl⟩
theorem flt_of : ∀ {P : List Nat} {s : List Nat} {k : Nat}, okL (P.map tm1) s → skL (P.map tm1) s = [] → (∀ ch ∈ P, ∃ q, kOf ch = some q) → flt P s k = -6
  | [], s, k, _, h2, _ => if_pos h2
  | ch :: P, s, k, h1, h2, h3 => by
    obtain ⟨⟨d, s', rfl, hq⟩, h4⟩ := h1
    obtain ⟨q, hk⟩ := h3 ch List.mem_cons_self
    have e1 := tm1_kd hk
    have e2 := tm1_nu hk
    unfold flt
    simp only [hk]
    have hne : ¬ (q = 0 ∧ d ≤ ch - 48) := by
      rintro ⟨z1, z2⟩
      rw [if_pos z1] at e2
      unfold okq at hq
      omega
    rw [if_neg hne]
    have e3 : stq (q, 0) (d :: s') = stq (tm1 ch) (d :: s') := by
      rw [stq_cons, stq_cons, e1]
    rw [e3]
    exact flt_of h4 h2 fun c hc => h3 c (List.mem_cons_of_mem _ hc)
/-- what holds at the head of the typing -/
def TI (a : Nat → Nat → Int32) (P : List Nat) : Prop := okL (P.map tm1) [0] ∧ (∀ ch ∈ P, ∃ q, kOf ch = some q) ∧ P.length + (sk (P.map tm1) P.length).length ≤ 21 ∧ a 8 0 = nI P.length ∧ (∀ p, p < P.length → a 0 p = nI (kd (P.map tm1) p) ∧ a 1 p = nI (bn (P.map tm1) p)) ∧ LN a (P.map tm1) P.length ∧ WT (a 3) (wl (P.map tm1) P.length)
/-- what holds when the kind has been chosen -/
def TJ (a : Nat → Nat → Int32) (P : List Nat) (κ : Nat) : Prop := a 8 0 = nI (P.length + 1) ∧ (∀ p, p < P.length → a 0 p = nI (kd (P.map tm1) p) ∧ a 1 p = nI (bn (P.map tm1) p)) ∧ a 0 P.length = nI κ ∧ LN a (P.map tm1) P.length ∧ a 2 P.length = nbm (nb (P.map tm1) P.length) ∧ WT (a 3) (((sk (P.map tm1) P.length).drop 1).map fun e => nbm e.2) ∧ a 1 P.length = nI 0
theorem TI.step {a0 a a' : Nat → Nat → Int32} {P : List Nat} {κ ch : Nat} (h0 : TI a0 P) (h : TJ a P κ) (hne : sk (P.map tm1) P.length ≠ []) (hk : kOf ch = some κ) (hq : okq (dep (P.map tm1) P.length) (tm1 ch)) (hb : 18 < P.length + ((sk (P.map tm1) P.length).length - 1) → κ ≤ 1) (h8 : a' 8 = a 8) (ha0 : a' 0 = a 0) (ha2 : a' 2 = a 2) (h1 : ∀ p, p < P.length → a' 1 p = a 1 p) (h1k : a' 1 P.length = nI (if κ = 0 then (env (P.map tm1) P.length).getD (tm1 ch).2 0 else (tm1 ch).2)) (h3 : WT (a' 3) (if κ = 2 then nI P.length :: ((sk (P.map tm1) P.length).drop 1).map (fun e => nbm e.2) else if κ = 3 then nbm (nb (P.map tm1) P.length) :: nbm (nb (P.map tm1) P.length) :: ((sk (P.map tm1) P.length).drop 1).map (fun e => nbm e.2) else ((sk (P.map tm1) P.length).drop 1).map (fun e => nbm e.2))) : TI a' (P ++ [ch]) := by
  obtain ⟨t1, t2, t3, t4, t5, t6, t7⟩ := h0
  obtain ⟨j1, j2, j3, j4, j5, j6, -⟩ := h
  have e1 := tm1_kd hk
  generalize hl : P.map tm1 = l at *
  have hll : l.length = P.length := by rw [← hl, List.length_map]
  have em : (P ++ [ch]).map tm1 = l ++ [tm1 ch] := by rw [List.map_append, hl]; rfl
  have el : (P ++ [ch]).length = P.length + 1 := by rw [List.length_append]; rfl
  obtain ⟨s, hs⟩ := sk_cons hne
  have epk : pt (l ++ [tm1 ch]) P.length = tm1 ch := by rw [← hll]; exact pt_snoc _ _
  have epp : ∀ p, p < P.length → pt (l ++ [tm1 ch]) p = pt l p := fun p hp => pt_snoc' (by omega)
  have esk : sk (l ++ [tm1 ch]) P.length = sk l P.length := sk_pre epp
  have esk1 : sk (l ++ [tm1 ch]) (P.length + 1) = stp P.length (tm1 ch) (sk l P.length) := by
    show stp P.length (pt (l ++ [tm1 ch]) P.length) (sk (l ++ [tm1 ch]) P.length) = _
    rw [epk, esk]
  have ed : (sk l P.length).drop 1 = s := by rw [hs]; rfl
  unfold TI
  rw [em, el]
  refine ⟨?_, fun c hc => ?_, ?_, by rw [h8]; exact j1, fun p hp => ?_, fun p hp => ?_, ?_⟩
  · rw [okL_app]
    refine ⟨t1, ⟨⟨dep l P.length, s.map (·.1), ?_, hq⟩, trivial⟩⟩
    rw [skL_dk, hll, dk_head hne, ed]
  · rcases List.mem_append.mp hc with r | r
    · exact t2 c r
    · rw [List.mem_singleton.mp r]
      exact ⟨κ, hk⟩
  · rw [esk1, hs, stp_len, e1]
    rw [hs, List.length_cons] at t3 hb
    have : ar κ ≤ 2 := by unfold ar; split <;> (try split) <;> omega
    by_cases z : 18 < P.length + (s.length + 1 - 1)
    · have z2 : ar κ = 0 := by
        have := hb z
        unfold ar
        rw [if_neg (by omega), if_neg (by omega)]
      omega
    · omega
  · rw [ha0]
    by_cases e : p = P.length
    · subst e
      refine ⟨?_, ?_⟩
      · unfold kd
        rw [epk, e1]
        exact j3
      · rw [h1k]
        unfold bn kd nu
        rw [epk, e1, env_pre (l := l) (l' := l ++ [tm1 ch]) fun q hq => congrArg Prod.fst (epp q hq)]
    · have hpl : p < P.length := by omega
      rw [h1 p hpl]
      have := j2 p hpl
      unfold kd at this ⊢
      rw [epp p hpl, bn_pre (l := l) fun q hq => epp q (by omega)]
      exact this
  · rw [ha2]
    by_cases e : p = P.length
    · subst e
      have : nb (l ++ [tm1 ch]) P.length = nb l P.length := by unfold nb; rw [esk]
      rw [this]
      exact j5
    · have : nb (l ++ [tm1 ch]) p = nb l p := by unfold nb; rw [sk_pre (l := l) fun q hq => epp q (by omega)]
      rw [this]
      exact j4 p (by omega)
  · unfold wl
    rw [esk1, hs, stp_cons, e1]
    rw [ed] at h3
    split
    · rename_i z
      rw [if_pos z] at h3
      exact h3
    · rename_i z
      rw [if_neg z] at h3
      split
      · rename_i z2
        rw [if_pos z2] at h3
        exact h3
      · rename_i z2
        rw [if_neg z2] at h3
        exact h3
theorem TI.LT {a : Nat → Nat → Int32} {P : List Nat} (h : TI a P) (hs : sk (P.map tm1) P.length = []) : WF (P.map tm1) ∧ LT a (P.map tm1) ∧ flt P [0] 0 = -6 := by
  obtain ⟨t1, t2, t3, t4, t5, t6, t7⟩ := h
  have e1 : skL (P.map tm1) [0] = [] := by
    rw [skL_dk, List.length_map]
    unfold dk
    rw [hs]
    rfl
  refine ⟨WF_of t1 e1, ⟨by rw [List.length_map]; exact t4, fun p hp => t5 p (by rw [List.length_map] at hp; exact hp)⟩, flt_of t1 e1 t2⟩
