/-! REWRITING, without a machine -/
def wi (l : Tm) (p i : Nat) : Nat := dep l i - dep l p - 1
def sh (l : Tm) (a w j : Nat) : Nat × Nat := if kd l j = 0 ∧ dep l j - dep l a ≤ nu l j then (0, nu l j + w) else pt l j
/-- n parts of the argument that begins at a, under w functions -/
def agm (l : Tm) (a w : Nat) : Nat → Tm
  | 0 => []
  | n + 1 => agm l a w n ++ [sh l a w (a + n)]
def isU (l : Tm) (p i : Nat) : Bool := decide (kd l i = 0 ∧ nu l i = wi l p i)
/-- what comes in the place of the part i of the body -/
def bp (l : Tm) (p i : Nat) : Tm := if isU l p i = true then agm l (en l (p + 1)) (wi l p i) (en l p - en l (p + 1)) else if kd l i = 0 ∧ wi l p i < nu l i then [(0, nu l i - 1)] else [pt l i]
def bd (l : Tm) (p : Nat) : Nat → Tm
  | 0 => []
  | n + 1 => bd l p n ++ bp l p (p + 2 + n)
def rwt (l : Tm) (p : Nat) : Tm := l.take p ++ bd l p (en l (p + 1) - (p + 2)) ++ l.drop (en l p)
def us (l : Tm) (p : Nat) (n : Nat) : Nat := cnt (fun q => isU l p (p + 2 + q)) n
theorem agm_len (l : Tm) (a w : Nat) : ∀ n, (agm l a w n).length = n
  | 0 => rfl
  | n + 1 => by rw [agm, List.length_append, agm_len l a w n]; rfl
theorem bd_len (l : Tm) (p : Nat) : ∀ n, (bd l p n).length + us l p n = n + us l p n * (en l p - en l (p + 1))
  | 0 => by unfold us cnt bd; simp
  | n + 1 => by
    have ih := bd_len l p n
    unfold us at ih ⊢
    rw [bd, List.length_append, cnt]
    unfold bp
    by_cases h : isU l p (p + 2 + n) = true
    · rw [if_pos h, if_pos h, agm_len, Nat.add_mul]
      omega
    · rw [if_neg h, if_neg h]
      simp only [Nat.add_zero]
      split <;> simp only [List.length_singleton] <;> omega
theorem red_of {l : Tm} {p : Nat} (h : red l p = true) : kd l p = 3 ∧ kd l (p + 1) = 2 := by
  unfold red at h
  simpa using h
/-- all about a reducible place -/
theorem red_all {l : Tm} (hw : WF l) {p : Nat} (hp : p < l.length) (h : red l p = true) : p + 2 < en l (p + 1) ∧ en l (p + 1) < en l p ∧ en l p ≤ l.length ∧ en l (p + 1) = en l (p + 2) ∧ en l p = en l (en l (p + 1)) ∧ dep l (en l (p + 1)) = dep l p ∧ p + 2 < l.length ∧ dep l (p + 2) = dep l p + 1 ∧ (sk l (p + 2)).drop 1 = sk l p ∧ sk l (en l (p + 1)) = sk l p := by
  obtain ⟨h3, h2⟩ := red_of h
  have c1 := child_3 hw hp h3
  have c2 := child_2 hw c1 h2
  have e1 : en l (p + 1) = en l (p + 2) := en_2 c1 h2
  have e3 := dep_3e hw hp h3
  have e4 := en_lt c2
  have e5 := en_lt e3.2.2
  have e6 := en_3 hp h3
  have d1 := dep_3 hw hp h3
  have d2 := dep_2 hw c1 h2
  refine ⟨by rw [e1]; exact e4, by rw [e6]; exact e5, en_le (Nat.le_of_lt hp), e1, e6, e3.1, c2, by rw [d2.1, d1.1], ?_, sk_3e hw hp h3⟩
  have s1 := sk_3 hw hp h3
  have s2 : sk l (p + 2) = stp (p + 1) (pt l (p + 1)) (sk l (p + 1)) := rfl
  rw [s2, s1, stp_cons, if_pos (show (pt l (p + 1)).1 = 2 from h2)]
  rfl
/-- within a term: the stack is that from before it, and more on it -/
theorem sk_seg {l : Tm} (hw : WF l) {a : Nat} (ha : a < l.length) : ∀ (n k : Nat), k = a + n → k ≤ en l a → ∃ X, sk l k = X ++ (sk l a).drop 1 ∧ (∀ e ∈ X, dep l a ≤ e.1) ∧ en l a = k + skp (l.drop k) X.length
  | 0, k, hk, hke => by
    rw [Nat.add_zero] at hk
    subst hk
    obtain ⟨s, hs⟩ := sk_cons (hw.1 k ha).1
    exact ⟨[(dep l k, nb l k)], by rw [hs]; rfl, fun e he => by rw [List.mem_singleton.mp he]; exact Nat.le_refl _, rfl⟩
  | n + 1, k, hk, hke => by
    obtain ⟨X, h1, h2, h3⟩ := sk_seg hw ha n (k - 1) (by omega) (by omega)
    have hl : k - 1 < l.length := by have := en_le (l := l) (Nat.le_of_lt ha); omega
    cases X with
    | nil =>
      rw [List.length_nil, skp_0] at h3
      omega
    | cons e X' =>
      have e1 : sk l k = stp (k - 1) (pt l (k - 1)) (sk l (k - 1)) := by
        conv => lhs; rw [show k = k - 1 + 1 by omega]
        rfl
      refine ⟨stp (k - 1) (pt l (k - 1)) (e :: X'), ?_, ?_, ?_⟩
      · rw [e1, h1, List.cons_append, stp_cons, stp_cons]
        split
        · rfl
        · split <;> rfl
      · have he := h2 e List.mem_cons_self
        have hX : ∀ z ∈ X', dep l a ≤ z.1 := fun z hz => h2 z (List.mem_cons_of_mem _ hz)
        rw [stp_cons]
        intro z hz
        split at hz
        · rcases List.mem_cons.mp hz with r | r
          · rw [r]
            show dep l a ≤ e.1 + 1
            omega
          · exact hX z r
        · split at hz
          · rcases List.mem_cons.mp hz with r | r
            · rw [r]; exact he
            · exact h2 z r
          · exact hX z hz
      · rw [h3, stp_len, List.length_cons, skp_at hl, show k - 1 + 1 = k by omega]
        show _ = k + skp (l.drop k) (X'.length + ar (kd l (k - 1)))
        omega
/-! scanning a row of parts by the depths that are awaited -/
def stq (q : Nat × Nat) (s : List Nat) : List Nat := match s with
  | [] => []
  | d :: s => if q.1 = 2 then (d + 1) :: s else if q.1 = 3 then d :: d :: s else s
def skL : Tm → List Nat → List Nat
  | [], s => s
  | q :: l, s => skL l (stq q s)
def okL : Tm → List Nat → Prop
  | [], _ => True
  | q :: l, s => (∃ d s', s = d :: s' ∧ okq d q) ∧ okL l (stq q s)
theorem skL_app : ∀ (a b : Tm) (s : List Nat), skL (a ++ b) s = skL b (skL a s)
  | [], b, s => rfl
  | q :: a, b, s => skL_app a b (stq q s)
theorem okL_app : ∀ (a b : Tm) (s : List Nat), okL (a ++ b) s ↔ okL a s ∧ okL b (skL a s)
  | [], b, s => ⟨fun h => ⟨trivial, h⟩, fun h => h.2⟩
  | q :: a, b, s => by
    show (_ ∧ okL (a ++ b) (stq q s)) ↔ (_ ∧ okL a (stq q s)) ∧ okL b (skL a (stq q s))
    rw [okL_app a b, and_assoc]
def dk (l : Tm) (p : Nat) : List Nat := (sk l p).map (·.1)
theorem dk_step {l : Tm} {p : Nat} : dk l (p + 1) = stq (pt l p) (dk l p) := by
  unfold dk
  show (stp p (pt l p) (sk l p)).map (·.1) = _
  cases sk l p with
  | nil => rfl
  | cons e s =>
    rw [stp_cons]
    unfold stq
    simp only [List.map_cons]
    split
    · rfl
    · split <;> rfl
theorem dk_head {l : Tm} {p : Nat} (h : sk l p ≠ []) : dk l p = dep l p :: ((sk l p).drop 1).map (·.1) := by
  obtain ⟨s, hs⟩ := sk_cons h
  unfold dk
  rw [hs]
  rfl
theorem WF.drop {l : Tm} (h : WF l) : ∀ (k a : Nat), l.length - a = k → a ≤ l.length → okL (l.drop a) (dk l a) ∧ skL (l.drop a) (dk l a) = []
  | 0, a, hk, ha => by
    have e : a = l.length := by omega
    subst e
    rw [List.drop_length]
    refine ⟨trivial, ?_⟩
    show dk l l.length = []
    unfold dk
    rw [h.2]
    rfl
  | k + 1, a, hk, ha => by
    have hl : a < l.length := by omega
    rw [drop_pt hl]
    have ih := WF.drop h k (a + 1) (by omega) (by omega)
    rw [dk_step] at ih
    exact ⟨⟨⟨_, _, dk_head (h.1 a hl).1, (h.1 a hl).2⟩, ih.1⟩, ih.2⟩
theorem WF.take {l : Tm} (h : WF l) : ∀ p, p ≤ l.length → okL (l.take p) [0] ∧ skL (l.take p) [0] = dk l p
  | 0, _ => by rw [List.take_zero]; exact ⟨trivial, rfl⟩
  | p + 1, hp => by
    have hl : p < l.length := hp
    obtain ⟨h1, h2⟩ := WF.take h p (by omega)
    have e : l.take (p + 1) = l.take p ++ [pt l p] := by
      rw [List.take_succ]
      congr 1
      unfold pt
      simp [List.getD_eq_getElem?_getD, hl]
    rw [e, okL_app, skL_app, h2]
    exact ⟨⟨h1, ⟨_, _, dk_head (h.1 p hl).1, (h.1 p hl).2⟩, trivial⟩, dk_step.symm⟩
theorem dk_take : ∀ (l : Tm) (p : Nat), p ≤ l.length → dk l p = skL (l.take p) [0]
  | l, 0, _ => rfl
  | l, p + 1, hp => by
    have hl : p < l.length := hp
    have e : l.take (p + 1) = l.take p ++ [pt l p] := by
      rw [List.take_succ]
      congr 1
      unfold pt
      simp [List.getD_eq_getElem?_getD, hl]
    rw [e, skL_app, dk_step, dk_take l p (by omega)]
    rfl
theorem WF_of {l : Tm} (h1 : okL l [0]) (h2 : skL l [0] = []) : WF l := by
  constructor
  · intro p hp
    have e : l = l.take p ++ (pt l p :: l.drop (p + 1)) := by rw [← drop_pt hp, List.take_append_drop]
    rw [e, okL_app, ← dk_take l p (Nat.le_of_lt hp)] at h1
    obtain ⟨-, ⟨d, s, hs, hq⟩, -⟩ := h1
    have hne : sk l p ≠ [] := fun z => by
      unfold dk at hs
      rw [z] at hs
      cases hs
    have h3 := dk_head hne
    rw [hs] at h3
    injection h3 with h4 h5
    exact ⟨hne, h4 ▸ hq⟩
  · have h3 := dk_take l l.length (Nat.le_refl _)
    rw [List.take_length, h2] at h3
    unfold dk at h3
    exact List.map_eq_nil_iff.mp h3
theorem okq_of {l : Tm} (h : WF l) {p : Nat} (hp : p < l.length) : okq (dep l p) (pt l p) := (h.1 p hp).2
theorem seg_end {l : Tm} {a k : Nat} {X : List (Nat × Option Nat)} (h : en l a = k + skp (l.drop k) X.length) (hk : k < en l a) : ∃ e X', X = e :: X' := by
  cases X with
  | nil =>
    rw [List.length_nil, skp_0] at h
    omega
  | cons e X' => exact ⟨e, X', rfl⟩
theorem seg_fin {l : Tm} {a : Nat} {X : List (Nat × Option Nat)} (hw : WF l) (ha : a < l.length) (h : sk l (en l a) = X ++ (sk l a).drop 1) : X = [] := by
  rw [sk_en hw ha] at h
  have := congrArg List.length h
  rw [List.length_append] at this
  exact List.length_eq_zero_iff.mp (by omega)
theorem seg_hd {l : Tm} {k : Nat} {e : Nat × Option Nat} {X R : List (Nat × Option Nat)} (h : sk l k = e :: X ++ R) : dep l k = e.1 := by
  unfold dep
  rw [h]
  rfl
theorem seg_nx {l : Tm} {k : Nat} {e : Nat × Option Nat} {X R : List (Nat × Option Nat)} (h : sk l k = e :: X ++ R) : sk l (k + 1) = stp k (pt l k) (e :: X) ++ R := by
  show stp k (pt l k) (sk l k) = _
  rw [h, List.cons_append, stp_cons, stp_cons]
  split
  · rfl
  · split <;> rfl
/-- the argument, under w functions more, is a term there -/
theorem agm_ok {l : Tm} (hw : WF l) {a : Nat} (ha : a < l.length) (w : Nat) (R : List Nat) : ∀ (n : Nat), a + n ≤ en l a → ∀ X, sk l (a + n) = X ++ (sk l a).drop 1 → okL (agm l a w n) ((dep l a + w) :: R) ∧ skL (agm l a w n) ((dep l a + w) :: R) = X.map (fun e => e.1 + w) ++ R
  | 0, _, X, hX => by
    obtain ⟨s, hs⟩ := sk_cons (hw.1 a ha).1
    have e : X = [(dep l a, nb l a)] := by
      rw [Nat.add_zero, hs] at hX
      exact (List.append_cancel_right (show [(dep l a, nb l a)] ++ s = X ++ s from hX)).symm
    subst e
    exact ⟨trivial, rfl⟩
  | n + 1, hn, X, hX => by
    have hal := en_le (l := l) (Nat.le_of_lt ha)
    have hkl : a + n < l.length := by omega
    obtain ⟨Y, h1, h2, h3⟩ := sk_seg hw ha n (a + n) rfl (by omega)
    obtain ⟨e, Y', rfl⟩ := seg_end h3 (by omega)
    obtain ⟨i1, i2⟩ := agm_ok hw ha w R n (by omega) _ h1
    have hd := seg_hd h1
    have hX2 : X = stp (a + n) (pt l (a + n)) (e :: Y') := List.append_cancel_right (hX.symm.trans (seg_nx h1))
    have hok := okq_of hw hkl
    rw [hd] at hok
    have hge := h2 e List.mem_cons_self
    rw [agm, okL_app, skL_app, i2, hX2]
    have hk : kd l (a + n) = (pt l (a + n)).1 := rfl
    have hn2 : nu l (a + n) = (pt l (a + n)).2 := rfl
    refine ⟨⟨i1, ⟨e.1 + w, Y'.map (fun e => e.1 + w) ++ R, rfl, ?_⟩, trivial⟩, ?_⟩
    · unfold sh
      rw [hd]
      unfold okq at hok ⊢
      split
      · rename_i hc
        refine Or.inl ⟨rfl, ?_⟩
        show nu l (a + n) + w < e.1 + w
        omega
      · rename_i hc
        omega
    · show stq (sh l a w (a + n)) ((e.1 + w) :: (Y'.map (fun e => e.1 + w) ++ R)) = _
      rw [stp_cons]
      have hs1 : (sh l a w (a + n)).1 = (pt l (a + n)).1 := by
        unfold sh
        split
        · rename_i hc
          exact hc.1.symm
        · rfl
      unfold stq
      simp only [hs1]
      split
      · simp only [List.map_cons, List.cons_append]
        congr 1
        omega
      · split
        · simp
        · simp
/-- the body, with the argument in it, is a term there -/
theorem bd_ok {l : Tm} (hw : WF l) {p : Nat} (hp : p < l.length) (hr : red l p = true) (R : List Nat) : ∀ (n : Nat), p + 2 + n ≤ en l (p + 1) → ∀ X, sk l (p + 2 + n) = X ++ sk l p → okL (bd l p n) (dep l p :: R) ∧ skL (bd l p n) (dep l p :: R) = X.map (fun e => e.1 - 1) ++ R
  | 0, _, X, hX => by
    obtain ⟨r1, r2, r3, r4, r5, r6, r7, r8, r9, r10⟩ := red_all hw hp hr
    obtain ⟨s, hs⟩ := sk_cons (hw.1 (p + 2) r7).1
    have e : X = [(dep l (p + 2), nb l (p + 2))] := by
      rw [hs] at r9
      rw [Nat.add_zero, hs, ← r9] at hX
      exact (List.append_cancel_right (show [(dep l (p + 2), nb l (p + 2))] ++ s = X ++ s from hX)).symm
    subst e
    refine ⟨trivial, ?_⟩
    show dep l p :: R = [dep l (p + 2) - 1] ++ R
    rw [r8]
    rfl
  | n + 1, hn, X, hX => by
    obtain ⟨r1, r2, r3, r4, r5, r6, r7, r8, r9, r10⟩ := red_all hw hp hr
    have hkl : p + 2 + n < l.length := by omega
    have hael : en l (p + 1) < l.length := by omega
    obtain ⟨Y, h1, h2, h3⟩ := sk_seg hw r7 n (p + 2 + n) rfl (by omega)
    rw [r9] at h1
    obtain ⟨e, Y', rfl⟩ := seg_end h3 (by omega)
    obtain ⟨i1, i2⟩ := bd_ok hw hp hr R n (by omega) _ h1
    have hd := seg_hd h1
    have hX2 : X = stp (p + 2 + n) (pt l (p + 2 + n)) (e :: Y') := List.append_cancel_right (hX.symm.trans (seg_nx h1))
    have hok := okq_of hw hkl
    rw [hd] at hok
    have hge := h2 e List.mem_cons_self
    rw [r8] at hge
    have hY : ∀ z ∈ Y', dep l p + 1 ≤ z.1 := fun z hz => by have := h2 z (List.mem_cons_of_mem _ hz); omega
    have hk : kd l (p + 2 + n) = (pt l (p + 2 + n)).1 := rfl
    have hn2 : nu l (p + 2 + n) = (pt l (p + 2 + n)).2 := rfl
    have hwi : wi l p (p + 2 + n) = e.1 - dep l p - 1 := by unfold wi; rw [hd]
    rw [bd, okL_app, skL_app, i2, hX2]
    have e0 : (e :: Y').map (fun e => e.1 - 1) ++ R = (e.1 - 1) :: (Y'.map (fun e => e.1 - 1) ++ R) := rfl
    rw [e0]
    unfold bp
    by_cases hu : isU l p (p + 2 + n) = true
    · rw [if_pos hu]
      unfold isU at hu
      simp only [decide_eq_true_eq] at hu
      have h4 : e.1 - 1 = dep l (en l (p + 1)) + wi l p (p + 2 + n) := by rw [r6, hwi]; omega
      obtain ⟨j1, j2⟩ := agm_ok hw hael (wi l p (p + 2 + n)) (Y'.map (fun e => e.1 - 1) ++ R) (en l p - en l (p + 1)) (by omega) [] (by
        rw [show en l (p + 1) + (en l p - en l (p + 1)) = en l (en l (p + 1)) by omega, sk_en hw hael]
        rfl)
      rw [h4]
      refine ⟨⟨i1, j1⟩, ?_⟩
      rw [j2, stp_cons, if_neg (by omega), if_neg (by omega)]
      rfl
    · rw [if_neg hu]
      unfold isU at hu
      simp only [decide_eq_true_eq] at hu
      by_cases hc : kd l (p + 2 + n) = 0 ∧ wi l p (p + 2 + n) < nu l (p + 2 + n)
      · rw [if_pos hc]
        refine ⟨⟨i1, ⟨_, _, rfl, Or.inl ⟨rfl, ?_⟩⟩, trivial⟩, ?_⟩
        · show nu l (p + 2 + n) - 1 < e.1 - 1
          unfold okq at hok
          omega
        · rw [stp_cons, if_neg (by omega), if_neg (by omega)]
          rfl
      · rw [if_neg hc]
        refine ⟨⟨i1, ⟨_, _, rfl, ?_⟩, trivial⟩, ?_⟩
        · unfold okq at hok ⊢
          omega
        · show stq (pt l (p + 2 + n)) ((e.1 - 1) :: (Y'.map (fun e => e.1 - 1) ++ R)) = _
          rw [stp_cons]
          unfold stq
          simp only
          split
          · simp only [List.map_cons, List.cons_append]
            congr 1
            omega
          · split
            · simp
            · simp
theorem rwt_ok {l : Tm} (hw : WF l) {p : Nat} (hp : p < l.length) (hr : red l p = true) : WF (rwt l p) := by
  obtain ⟨r1, r2, r3, r4, r5, r6, r7, r8, r9, r10⟩ := red_all hw hp hr
  obtain ⟨t1, t2⟩ := hw.take p (Nat.le_of_lt hp)
  have hd := dk_head (hw.1 p hp).1
  obtain ⟨b1, b2⟩ := bd_ok hw hp hr (((sk l p).drop 1).map (·.1)) (en l (p + 1) - (p + 2)) (by omega) [] (by
    rw [show p + 2 + (en l (p + 1) - (p + 2)) = en l (p + 1) by omega, r10]
    rfl)
  obtain ⟨d1, d2⟩ := hw.drop _ (en l p) rfl r3
  have e : dk l (en l p) = ((sk l p).drop 1).map (·.1) := by unfold dk; rw [sk_en hw hp]
  rw [e] at d1 d2
  rw [hd] at t2
  refine WF_of ?_ ?_
  · unfold rwt
    rw [okL_app, okL_app, skL_app, t2, b2]
    exact ⟨⟨t1, b1⟩, d1⟩
  · unfold rwt
    rw [skL_app, skL_app, t2, b2]
    exact d2

