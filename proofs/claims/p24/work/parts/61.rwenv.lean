/-! REWRITING, by what binds -/
/-- where a part comes to -/
def ps (l : Tm) (p k : Nat) : Nat := if k ≤ p then k else if k ≤ en l (p + 1) then p + (bd l p (k - (p + 2))).length else p + (bd l p (en l (p + 1) - (p + 2))).length + (k - en l p)
theorem ps_A {l : Tm} {p k : Nat} (h : k ≤ p) : ps l p k = k := if_pos h
theorem ps_B {l : Tm} {p k : Nat} (h1 : p ≤ k) (h2 : k ≤ en l (p + 1)) : ps l p k = p + (bd l p (k - (p + 2))).length := by
  unfold ps
  by_cases h : k ≤ p
  · have e : k = p := by omega
    subst e
    rw [if_pos (Nat.le_refl _), show k - (k + 2) = 0 by omega]
    rfl
  · rw [if_neg h, if_pos h2]
theorem ps_C {l : Tm} {p k : Nat} (h1 : p < en l (p + 1)) (h2 : en l (p + 1) ≤ k) (h3 : en l (p + 1) ≤ en l p) : ps l p k = p + (bd l p (en l (p + 1) - (p + 2))).length + (k - en l p) := by
  unfold ps
  rw [if_neg (by omega)]
  by_cases h : k ≤ en l (p + 1)
  · have e : k = en l (p + 1) := by omega
    rw [if_pos h, ← e, show k - en l p = 0 by omega]
    rfl
  · rw [if_neg h]
theorem bd_pt {l : Tm} {p : Nat} : ∀ {N n j : Nat}, n < N → j < (bp l p (p + 2 + n)).length → pt (bd l p N) ((bd l p n).length + j) = pt (bp l p (p + 2 + n)) j
  | 0, n, j, h, _ => absurd h (Nat.not_lt_zero n)
  | N + 1, n, j, h, hj => by
    rw [bd, pt_app]
    by_cases e : n = N
    · subst e
      rw [if_neg (by omega), Nat.add_sub_cancel_left]
    · have h1 := bd_mono l p (show n + 1 ≤ N by omega)
      rw [bd, List.length_append] at h1
      rw [if_pos (by omega)]
      exact bd_pt (by omega) hj
theorem agm_pt {l : Tm} {a w : Nat} : ∀ {n j : Nat}, j < n → pt (agm l a w n) j = sh l a w (a + j)
  | 0, j, h => absurd h (Nat.not_lt_zero j)
  | n + 1, j, h => by
    rw [agm, pt_app, agm_len]
    by_cases e : j = n
    · subst e
      rw [if_neg (by omega), Nat.sub_self]
      rfl
    · rw [if_pos (by omega)]
      exact agm_pt (by omega)
section RWE
variable {l : Tm} {p : Nat}
theorem rwt_ptA (hp : p < l.length) {k : Nat} (h : k < p) : pt (rwt l p) k = pt l k := by
  unfold rwt
  rw [List.append_assoc, pt_app, if_pos (by rw [List.length_take]; omega), pt_take h]
theorem rwt_ptB (hp : p < l.length) {n j : Nat} (hn : n < en l (p + 1) - (p + 2)) (hj : j < (bp l p (p + 2 + n)).length) : pt (rwt l p) (p + (bd l p n).length + j) = pt (bp l p (p + 2 + n)) j := by
  have h1 := bd_mono l p (show n + 1 ≤ en l (p + 1) - (p + 2) by omega)
  rw [bd, List.length_append] at h1
  have h2 : (l.take p).length = p := by rw [List.length_take]; omega
  unfold rwt
  rw [pt_app, if_pos (by rw [List.length_append, h2]; omega), pt_app, h2, if_neg (by omega), show p + (bd l p n).length + j - p = (bd l p n).length + j by omega]
  exact bd_pt hn hj
theorem rwt_ptC (hp : p < l.length) (j : Nat) : pt (rwt l p) (p + (bd l p (en l (p + 1) - (p + 2))).length + j) = pt l (en l p + j) := by
  have h2 : (l.take p).length = p := by rw [List.length_take]; omega
  unfold rwt
  rw [pt_app, List.length_append, h2, if_neg (by omega), Nat.add_sub_cancel_left, pt_drop]
theorem rwt_length (hp : p < l.length) : (rwt l p).length = p + (bd l p (en l (p + 1) - (p + 2))).length + (l.length - en l p) := by
  unfold rwt
  rw [List.length_append, List.length_append, List.length_take, List.length_drop]
  omega
def ren (l : Tm) (p : Nat) (e : List Nat) : List Nat := (e.filter fun y => decide (y ≠ p + 1)).map (ps l p)
theorem map_low {e : List Nat} (h : ∀ y ∈ e, y < p) : e.map (ps l p) = e := by
  have h2 : e.map (ps l p) = e.map id := List.map_congr_left fun y hy => ps_A (Nat.le_of_lt (h y hy))
  rw [h2, List.map_id]
theorem ren_low {e : List Nat} (h : ∀ y ∈ e, y < p) : ren l p e = e := by
  unfold ren
  rw [List.filter_eq_self.mpr fun y hy => decide_eq_true (by have := h y hy; omega), map_low h]
theorem env_low {y : Nat} (h : y ∈ env l p) : y < p := (env_lt l p p (Nat.le_refl _) y h).1
theorem ren_split {Z : List Nat} (h : ∀ y ∈ Z, p + 2 ≤ y) : ren l p (Z ++ (p + 1) :: env l p) = Z.map (ps l p) ++ env l p := by
  have e1 := ren_low (l := l) (p := p) (e := env l p) (fun y hy => env_low hy)
  unfold ren at e1 ⊢
  rw [List.filter_append, List.filter_cons_of_neg (by simp), List.map_append, e1, List.filter_eq_self.mpr fun y hy => decide_eq_true (by have := h y hy; omega)]
theorem ren_cons {k : Nat} (e : List Nat) (h : k ≠ p + 1) : ren l p (k :: e) = ps l p k :: ren l p e := by
  unfold ren
  rw [List.filter_cons_of_pos (by simp [h])]
  rfl
def cpy (b c : Nat) (E v : List Nat) : List Nat := (v.filter fun y => decide (b ≤ y)).map (fun y => c + (y - b)) ++ E
theorem cpy_cons {b c k : Nat} (E v : List Nat) (h : b ≤ k) : cpy b c E (k :: v) = (c + (k - b)) :: cpy b c E v := by
  unfold cpy
  rw [List.filter_cons_of_pos (by simp [h])]
  rfl
theorem cpy_split {b c : Nat} {E Z e0 : List Nat} (h : ∀ y ∈ Z, b ≤ y) (h0 : ∀ y ∈ e0, y < b) : cpy b c E (Z ++ e0) = Z.map (fun y => c + (y - b)) ++ E := by
  unfold cpy
  rw [List.filter_append, List.filter_eq_self.mpr (fun y hy => decide_eq_true (h y hy)), List.filter_eq_nil_iff.mpr (fun y hy => by have := h0 y hy; simp; omega), List.append_nil]
/-- the argument's copy -/
theorem rw_I (hw : WF l) (hp : p < l.length) (hr : red l p = true) {l' : Tm} {c0 : Nat} {E : List Nat} {Rest : List (List Nat)} (h0 : evs l' c0 = E :: Rest) (hk : ∀ j, j < en l p - en l (p + 1) → kd l' (c0 + j) = kd l (en l (p + 1) + j)) : ∀ (j : Nat), j ≤ en l p - en l (p + 1) → ∀ V, evs l (en l (p + 1) + j) = V ++ (evs l p).tail → evs l' (c0 + j) = V.map (cpy (en l (p + 1)) c0 E) ++ Rest
  | 0, _, V, hV => by
    obtain ⟨r1, r2, r3, r4, r5, r6, r7, r8, r9, r10⟩ := red_all hw hp hr
    obtain ⟨e1, e2, e3, s, hs⟩ := ev_red hw hp hr
    rw [Nat.add_zero, e2, hs] at hV
    have e4 : V = [env l p] := (List.append_cancel_right (show [env l p] ++ s = V ++ s from hV)).symm
    subst e4
    rw [Nat.add_zero, h0, List.map_singleton]
    have e5 := cpy_split (b := en l (p + 1)) (c := c0) (E := E) (Z := []) (e0 := env l p) (fun y hy => by cases hy) (fun y hy => by have := env_low hy; omega)
    rw [List.nil_append] at e5
    rw [e5]
    rfl
  | j + 1, hj, V, hV => by
    obtain ⟨r1, r2, r3, r4, r5, r6, r7, r8, r9, r10⟩ := red_all hw hp hr
    obtain ⟨e1, e2, e3, s, hs⟩ := ev_red hw hp hr
    have hb : en l (p + 1) < l.length := by omega
    obtain ⟨X, x1, x2⟩ := ev_seg hw hb j (en l (p + 1) + j) rfl (by omega)
    obtain ⟨e, X', rfl⟩ := (seg_ne hw hb (by omega) (by omega) x1).1 (by omega)
    rw [e2] at x1
    have ih := rw_I hw hp hr h0 hk j (by omega) _ x1
    have hV2 : V = stv (en l (p + 1) + j) (pt l (en l (p + 1) + j)) (e :: X') := by
      have h2 : evs l (en l (p + 1) + (j + 1)) = stv (en l (p + 1) + j) (pt l (en l (p + 1) + j)) (evs l (en l (p + 1) + j)) := rfl
      rw [h2, x1, stv_app] at hV
      exact (List.append_cancel_right hV).symm
    show stv (c0 + j) (pt l' (c0 + j)) (evs l' (c0 + j)) = _
    rw [ih, List.map_cons, stv_app, hV2, ← List.map_cons, stv_map (k := en l (p + 1) + j) (q := pt l (en l (p + 1) + j)) (hk j (by omega)) (by rw [cpy_cons _ _ (by omega), show en l (p + 1) + j - en l (p + 1) = j by omega])]
theorem bp_U {i : Nat} (h : isU l p i = true) : bp l p i = agm l (en l (p + 1)) (wi l p i) (en l p - en l (p + 1)) := if_pos h
theorem bp_N {i : Nat} (h : ¬ isU l p i = true) : bp l p i = [if kd l i = 0 ∧ wi l p i < nu l i then (0, nu l i - 1) else pt l i] := by
  unfold bp
  rw [if_neg h]
  split <;> rfl
theorem sh_kd (l : Tm) (a w j : Nat) : (sh l a w j).1 = kd l j := by
  unfold sh
  split
  · rename_i h
    exact h.1.symm
  · rfl
theorem ps_N {k : Nat} (h1 : p + 2 ≤ k) (h2 : k < en l (p + 1)) : ps l p (k + 1) = ps l p k + (bp l p k).length := by
  rw [ps_B (by omega) (by omega), ps_B (by omega) (by omega), show k + 1 - (p + 2) = k - (p + 2) + 1 by omega, bd, List.length_append, show p + 2 + (k - (p + 2)) = k by omega]
  omega
theorem rwt_B (hp : p < l.length) {k j : Nat} (h1 : p + 2 ≤ k) (h2 : k < en l (p + 1)) (hj : j < (bp l p k).length) : pt (rwt l p) (ps l p k + j) = pt (bp l p k) j := by
  have h3 := rwt_ptB (l := l) hp (n := k - (p + 2)) (j := j) (by omega) (by rw [show p + 2 + (k - (p + 2)) = k by omega]; exact hj)
  rw [show p + 2 + (k - (p + 2)) = k by omega] at h3
  rw [ps_B (by omega) (by omega)]
  exact h3
/-- the body -/
theorem rw_B (hw : WF l) (hp : p < l.length) (hr : red l p = true) : ∀ (n : Nat), p + 2 + n ≤ en l (p + 1) → ∀ X, evs l (p + 2 + n) = X ++ evs l p → evs (rwt l p) (ps l p (p + 2 + n)) = X.map (ren l p) ++ (evs l p).tail
  | 0, _, X, hX => by
    obtain ⟨r1, r2, r3, r4, r5, r6, r7, r8, r9, r10⟩ := red_all hw hp hr
    obtain ⟨e1, e2, e3, s, hs⟩ := ev_red hw hp hr
    rw [Nat.add_zero, e1] at hX
    have e4 : X = [(p + 1) :: env l p] := (List.append_cancel_right (show [(p + 1) :: env l p] ++ evs l p = X ++ evs l p from hX)).symm
    subst e4
    have e5 := ren_split (l := l) (p := p) (Z := []) (fun y hy => by cases hy)
    rw [List.nil_append, List.map_nil, List.nil_append] at e5
    have e6 : ps l p (p + 2 + 0) = p := by
      rw [ps_B (by omega) (by omega), show p + 2 + 0 - (p + 2) = 0 by omega]
      rfl
    rw [e6, evs_pre (l := l) (l' := rwt l p) (fun q hq => congrArg Prod.fst (rwt_ptA hp hq)), List.map_singleton, e5, hs]
    rfl
  | n + 1, hn, X, hX => by
    obtain ⟨r1, r2, r3, r4, r5, r6, r7, r8, r9, r10⟩ := red_all hw hp hr
    obtain ⟨e1, e2, e3, s, hs⟩ := ev_red hw hp hr
    obtain ⟨X0, x1, x2⟩ := ev_seg hw r7 n (p + 2 + n) rfl (by omega)
    obtain ⟨e, X', rfl⟩ := (seg_ne hw r7 (by omega) (by omega) x1).1 (by omega)
    have e4 : (evs l (p + 2)).tail = evs l p := by rw [e1]; rfl
    rw [e4] at x1
    have ih := rw_B hw hp hr n (by omega) _ x1
    have hX2 : X = stv (p + 2 + n) (pt l (p + 2 + n)) (e :: X') := by
      have h2 : evs l (p + 2 + (n + 1)) = stv (p + 2 + n) (pt l (p + 2 + n)) (evs l (p + 2 + n)) := rfl
      rw [h2, x1, stv_app] at hX
      exact (List.append_cancel_right hX).symm
    have hps : ps l p (p + 2 + (n + 1)) = ps l p (p + 2 + n) + (bp l p (p + 2 + n)).length := ps_N (k := p + 2 + n) (by omega) (by omega)
    rw [hps]
    by_cases hu : isU l p (p + 2 + n) = true
    · have hk0 : (pt l (p + 2 + n)).1 = 0 := by
        unfold isU at hu
        simp only [decide_eq_true_eq] at hu
        exact hu.1
      have hXX : X = X' := by rw [hX2, stv_cons, if_neg (by omega), if_neg (by omega)]
      rw [hXX, bp_U hu, agm_len]
      have h3 := rw_I hw hp hr (l' := rwt l p) (c0 := ps l p (p + 2 + n)) (E := ren l p e) (Rest := X'.map (ren l p) ++ (evs l p).tail) ih (fun j hj => by
        show (pt (rwt l p) _).1 = _
        rw [rwt_B hp (by omega) (by omega) (by rw [bp_U hu, agm_len]; exact hj), bp_U hu, agm_pt hj]
        exact sh_kd _ _ _ _) (en l p - en l (p + 1)) (Nat.le_refl _) [] (by
          rw [show en l (p + 1) + (en l p - en l (p + 1)) = en l p by omega, e3]
          rfl)
      rw [h3]
      rfl
    · have hb1 : (bp l p (p + 2 + n)).length = 1 := by rw [bp_N hu]; rfl
      have hq : (pt (rwt l p) (ps l p (p + 2 + n))).1 = (pt l (p + 2 + n)).1 := by
        have h4 := rwt_B (l := l) hp (k := p + 2 + n) (j := 0) (by omega) (by omega) (by omega)
        rw [Nat.add_zero] at h4
        rw [h4, bp_N hu]
        show (if kd l (p + 2 + n) = 0 ∧ wi l p (p + 2 + n) < nu l (p + 2 + n) then (0, nu l (p + 2 + n) - 1) else pt l (p + 2 + n)).1 = _
        split
        · rename_i hc
          exact hc.1.symm
        · rfl
      rw [hb1]
      show stv (ps l p (p + 2 + n)) (pt (rwt l p) (ps l p (p + 2 + n))) (evs (rwt l p) (ps l p (p + 2 + n))) = _
      rw [ih, List.map_cons, stv_app, hX2, ← List.map_cons, stv_map (k := p + 2 + n) (q := pt l (p + 2 + n)) hq (ren_cons e (by omega))]
/-- what is behind -/
theorem rw_C (hw : WF l) (hp : p < l.length) (hr : red l p = true) : ∀ (j : Nat), en l p + j ≤ l.length → evs (rwt l p) (p + (bd l p (en l (p + 1) - (p + 2))).length + j) = (evs l (en l p + j)).map (List.map (ps l p)) ∧ ∀ e ∈ evs l (en l p + j), ∀ y ∈ e, y < p ∨ (en l p ≤ y ∧ y < en l p + j)
  | 0, _ => by
    obtain ⟨r1, r2, r3, r4, r5, r6, r7, r8, r9, r10⟩ := red_all hw hp hr
    obtain ⟨e1, e2, e3, s, hs⟩ := ev_red hw hp hr
    have h1 := rw_B hw hp hr (en l (p + 1) - (p + 2)) (by omega) [] (by rw [show p + 2 + (en l (p + 1) - (p + 2)) = en l (p + 1) by omega, e2]; rfl)
    have h2 : ps l p (p + 2 + (en l (p + 1) - (p + 2))) = p + (bd l p (en l (p + 1) - (p + 2))).length := by
      rw [show p + 2 + (en l (p + 1) - (p + 2)) = en l (p + 1) by omega, ps_B (by omega) (Nat.le_refl _)]
    have h3 : ∀ e ∈ (evs l p).tail, ∀ y ∈ e, y < p := fun e he y hy => (ev_lt (List.mem_of_mem_tail he) hy).1
    rw [h2] at h1
    simp only [Nat.add_zero]
    rw [h1, e3]
    refine ⟨?_, fun e he y hy => Or.inl (h3 e he y hy)⟩
    have h4 : ((evs l p).tail).map (List.map (ps l p)) = ((evs l p).tail).map id := List.map_congr_left fun e he => map_low (h3 e he)
    rw [h4, List.map_id]
    rfl
  | j + 1, hj => by
    obtain ⟨r1, r2, r3, r4, r5, r6, r7, r8, r9, r10⟩ := red_all hw hp hr
    obtain ⟨h1, h2⟩ := rw_C hw hp hr j (by omega)
    obtain ⟨s, hs⟩ := ev_ne (hw.1 (en l p + j) (by omega)).1
    have e1 : evs l (en l p + (j + 1)) = stv (en l p + j) (pt l (en l p + j)) (evs l (en l p + j)) := rfl
    constructor
    · show stv (p + (bd l p (en l (p + 1) - (p + 2))).length + j) (pt (rwt l p) (p + (bd l p (en l (p + 1) - (p + 2))).length + j)) (evs (rwt l p) (p + (bd l p (en l (p + 1) - (p + 2))).length + j)) = _
      rw [h1, e1, hs, stv_map (k := en l p + j) (q := pt l (en l p + j)) (congrArg Prod.fst (rwt_ptC hp j)) (by rw [List.map_cons, ps_C (by omega) (by omega) (by omega), show en l p + j - en l p = j by omega])]
    · intro e he y hy
      rw [e1, hs] at he
      rcases stv_mem he with r | r
      · rw [r] at hy
        rcases List.mem_cons.mp hy with q | q
        · omega
        · have := h2 (env l (en l p + j)) (by rw [hs]; exact List.mem_cons_self) y q
          omega
      · have := h2 e (by rw [hs]; exact r) y hy
        omega
theorem getD_of {e : List Nat} {i x : Nat} (h : e[i]? = some x) : e.getD i 0 = x := by rw [List.getD_eq_getElem?_getD, h]; rfl
/-- before the place -/
theorem rw_fA (hp : p < l.length) {k : Nat} (h : k < p) : pt (rwt l p) k = pt l k ∧ bn (rwt l p) k = bn l k := by
  have h1 := rwt_ptA (l := l) hp h
  refine ⟨h1, ?_⟩
  unfold bn kd nu
  rw [h1, env_pre (l := l) (l' := rwt l p) fun q hq => congrArg Prod.fst (rwt_ptA hp (by omega))]
/-- within the body: its environment -/
theorem rw_eB (hw : WF l) (hp : p < l.length) (hr : red l p = true) {k : Nat} (h1 : p + 2 ≤ k) (h2 : k < en l (p + 1)) : ∃ Z, env l k = Z ++ (p + 1) :: env l p ∧ (∀ y ∈ Z, p + 2 ≤ y ∧ y < k) ∧ Z.length = wi l p k ∧ env (rwt l p) (ps l p k) = Z.map (ps l p) ++ env l p ∧ ∃ R, evs (rwt l p) (ps l p k) = (Z.map (ps l p) ++ env l p) :: R := by
  obtain ⟨r1, r2, r3, r4, r5, r6, r7, r8, r9, r10⟩ := red_all hw hp hr
  obtain ⟨e1, e2, e3, s, hs⟩ := ev_red hw hp hr
  obtain ⟨X0, x1, x2⟩ := ev_seg hw r7 (k - (p + 2)) k (by omega) (by omega)
  obtain ⟨e, X', rfl⟩ := (seg_ne hw r7 (by omega) (by omega) x1).1 (by omega)
  have e4 : (evs l (p + 2)).tail = evs l p := by rw [e1]; rfl
  rw [e4] at x1
  have h3 := rw_B hw hp hr (k - (p + 2)) (by omega) (e :: X') (by rw [show p + 2 + (k - (p + 2)) = k by omega]; exact x1)
  rw [show p + 2 + (k - (p + 2)) = k by omega] at h3
  obtain ⟨Z, z1, z2⟩ := x2 e List.mem_cons_self
  rw [env_hd e1] at z1
  have h4 : env l k = e := env_hd x1
  have h5 := ren_split (l := l) (p := p) (Z := Z) (fun y hy => (z2 y hy).1)
  rw [z1] at h4 h3
  rw [List.map_cons, h5] at h3
  refine ⟨Z, h4, z2, ?_, env_hd h3, _, h3⟩
  unfold wi
  rw [dep_ev, dep_ev, h4, List.length_append, List.length_cons]
  omega
theorem wi_bn (hw : WF l) (hp : p < l.length) (hr : red l p = true) {k : Nat} (h1 : p + 2 ≤ k) (h2 : k < en l (p + 1)) (hk : kd l k = 0) : (isU l p k = true ↔ bn l k = p + 1) := by
  obtain ⟨r1, r2, r3, r4, r5, r6, r7, r8, r9, r10⟩ := red_all hw hp hr
  obtain ⟨Z, z1, z2, z3, -⟩ := rw_eB hw hp hr h1 h2
  obtain ⟨b1, b2, -⟩ := bn_env hw (show k < l.length by omega) hk
  rw [z1, List.getElem?_append] at b1
  unfold isU
  simp only [decide_eq_true_eq]
  constructor
  · rintro ⟨-, h⟩
    rw [if_neg (by omega), show nu l k - Z.length = 0 by omega] at b1
    exact (Option.some.inj b1).symm
  · intro h
    refine ⟨hk, ?_⟩
    by_cases hlt : nu l k < Z.length
    · rw [if_pos hlt] at b1
      have := z2 _ (List.mem_of_getElem? b1)
      omega
    · rw [if_neg hlt] at b1
      cases hd : nu l k - Z.length with
      | zero => omega
      | succ m =>
        rw [hd] at b1
        have := env_low (List.mem_of_getElem? (show (env l p)[m]? = some (bn l k) from b1))
        omega
/-- a part of the body that stays -/
theorem rw_fB (hw : WF l) (hp : p < l.length) (hr : red l p = true) {k : Nat} (h1 : p + 2 ≤ k) (h2 : k < en l (p + 1)) (hu : ¬ isU l p k = true) : ps l p (k + 1) = ps l p k + 1 ∧ kd (rwt l p) (ps l p k) = kd l k ∧ bn (rwt l p) (ps l p k) = (if kd l k = 0 then ps l p (bn l k) else nu l k) ∧ (kd l k = 0 → bn l k ≠ p + 1 ∧ (bn l k < p ∨ (p + 2 ≤ bn l k ∧ bn l k < k))) := by
  obtain ⟨r1, r2, r3, r4, r5, r6, r7, r8, r9, r10⟩ := red_all hw hp hr
  obtain ⟨Z, z1, z2, z3, z4, -⟩ := rw_eB hw hp hr h1 h2
  have hb1 : (bp l p k).length = 1 := by rw [bp_N hu]; rfl
  have h4 := rwt_B (l := l) hp (k := k) (j := 0) h1 h2 (by omega)
  rw [Nat.add_zero, bp_N hu] at h4
  have h4 : pt (rwt l p) (ps l p k) = if kd l k = 0 ∧ wi l p k < nu l k then (0, nu l k - 1) else pt l k := h4
  have h5 : kd (rwt l p) (ps l p k) = kd l k := by
    show (pt (rwt l p) (ps l p k)).1 = _
    rw [h4]
    split
    · rename_i hc
      exact hc.1.symm
    · rfl
  refine ⟨by rw [ps_N h1 h2, hb1], h5, ?_, fun hk => ?_⟩
  · unfold bn
    rw [h5]
    by_cases hk : kd l k = 0
    · rw [if_pos hk, if_pos hk, if_pos hk]
      obtain ⟨b1, b2, -⟩ := bn_env hw (show k < l.length by omega) hk
      have b3 : (env l k).getD (nu l k) 0 = bn l k := by unfold bn; rw [if_pos hk]
      rw [b3]
      have hne : nu l k ≠ wi l p k := fun h => hu (by unfold isU; exact decide_eq_true ⟨hk, h⟩)
      apply getD_of
      rw [z4, List.getElem?_append, List.length_map, List.getElem?_map]
      rw [z1, List.getElem?_append] at b1
      show (if (pt (rwt l p) (ps l p k)).2 < _ then Option.map (ps l p) Z[(pt (rwt l p) (ps l p k)).2]? else (env l p)[(pt (rwt l p) (ps l p k)).2 - Z.length]?) = _
      rw [h4]
      by_cases hlt : nu l k < Z.length
      · rw [if_pos hlt] at b1
        rw [if_neg (show ¬ (kd l k = 0 ∧ wi l p k < nu l k) by omega)]
        show (if nu l k < _ then Option.map (ps l p) Z[nu l k]? else _) = _
        rw [if_pos hlt, b1]
        rfl
      · rw [if_neg hlt] at b1
        rw [if_pos (show kd l k = 0 ∧ wi l p k < nu l k by omega)]
        show (if nu l k - 1 < _ then _ else (env l p)[nu l k - 1 - Z.length]?) = _
        rw [if_neg (by omega)]
        have e : nu l k - Z.length = (nu l k - 1 - Z.length) + 1 := by omega
        rw [e, List.getElem?_cons_succ] at b1
        rw [b1, ps_A (Nat.le_of_lt (env_low (List.mem_of_getElem? b1)))]
    · rw [if_neg hk, if_neg hk]
      show (pt (rwt l p) (ps l p k)).2 = _
      rw [h4, if_neg (fun z => hk z.1)]
      rfl
  · obtain ⟨b1, b2, -⟩ := bn_env hw (show k < l.length by omega) hk
    have hne : bn l k ≠ p + 1 := fun h => hu ((wi_bn hw hp hr h1 h2 hk).mpr h)
    refine ⟨hne, ?_⟩
    rw [z1] at b2
    rcases List.mem_append.mp b2 with r | r
    · exact Or.inr (z2 _ r)
    · rcases List.mem_cons.mp r with q | q
      · exact absurd q hne
      · exact Or.inl (env_low q)
/-- a variable of the body that is replaced -/
theorem rw_fU (hw : WF l) (hp : p < l.length) (hr : red l p = true) {k : Nat} (h1 : p + 2 ≤ k) (h2 : k < en l (p + 1)) (hu : isU l p k = true) : ps l p (k + 1) = ps l p k + (en l p - en l (p + 1)) ∧ ∀ j, j < en l p - en l (p + 1) → kd (rwt l p) (ps l p k + j) = kd l (en l (p + 1) + j) ∧ bn (rwt l p) (ps l p k + j) = (if kd l (en l (p + 1) + j) = 0 then (if en l (p + 1) ≤ bn l (en l (p + 1) + j) then ps l p k + (bn l (en l (p + 1) + j) - en l (p + 1)) else bn l (en l (p + 1) + j)) else nu l (en l (p + 1) + j)) ∧ (kd l (en l (p + 1) + j) = 0 → bn l (en l (p + 1) + j) < p ∨ (en l (p + 1) ≤ bn l (en l (p + 1) + j) ∧ bn l (en l (p + 1) + j) < en l (p + 1) + j)) := by
  obtain ⟨r1, r2, r3, r4, r5, r6, r7, r8, r9, r10⟩ := red_all hw hp hr
  obtain ⟨e1, e2, e3, s, hs⟩ := ev_red hw hp hr
  obtain ⟨Z, z1, z2, z3, z4, R, z5⟩ := rw_eB hw hp hr h1 h2
  have hb1 : (bp l p k).length = en l p - en l (p + 1) := by rw [bp_U hu, agm_len]
  have hpt : ∀ j, j < en l p - en l (p + 1) → pt (rwt l p) (ps l p k + j) = sh l (en l (p + 1)) (wi l p k) (en l (p + 1) + j) := fun j hj => by
    rw [rwt_B hp h1 h2 (by omega), bp_U hu, agm_pt hj]
  have hkd : ∀ j, j < en l p - en l (p + 1) → kd (rwt l p) (ps l p k + j) = kd l (en l (p + 1) + j) := fun j hj => by
    show (pt _ _).1 = _
    rw [hpt j hj]
    exact sh_kd _ _ _ _
  refine ⟨by rw [ps_N h1 h2, hb1], fun j hj => ?_⟩
  have hb : en l (p + 1) < l.length := by omega
  obtain ⟨X, x1, x2⟩ := ev_seg hw hb j (en l (p + 1) + j) rfl (by omega)
  obtain ⟨e, X', rfl⟩ := (seg_ne hw hb (by omega) (by omega) x1).1 (by omega)
  rw [e2] at x1
  have h6 := rw_I hw hp hr z5 hkd j (by omega) _ x1
  obtain ⟨Y, y1, y2⟩ := x2 e List.mem_cons_self
  have e5 : env l (en l (p + 1)) = env l p := by unfold env; rw [e2]
  rw [e5] at y1
  have h7 : env l (en l (p + 1) + j) = e := env_hd x1
  have h8 := cpy_split (b := en l (p + 1)) (c := ps l p k) (E := Z.map (ps l p) ++ env l p) (Z := Y) (e0 := env l p) (fun y hy => (y2 y hy).1) (fun y hy => by have := env_low hy; omega)
  rw [y1] at h7 h6
  rw [List.map_cons, h8] at h6
  have h9 := env_hd h6
  have hdep : dep l (en l (p + 1) + j) - dep l (en l (p + 1)) = Y.length := by
    rw [dep_ev, dep_ev, h7, e5, List.length_append]
    omega
  have hi : en l (p + 1) + j < l.length := by omega
  refine ⟨hkd j hj, ?_, fun hk => ?_⟩
  · unfold bn
    rw [hkd j hj]
    by_cases hk : kd l (en l (p + 1) + j) = 0
    · rw [if_pos hk, if_pos hk, if_pos hk]
      obtain ⟨b1, b2, -⟩ := bn_env hw hi hk
      have b3 : (env l (en l (p + 1) + j)).getD (nu l (en l (p + 1) + j)) 0 = bn l (en l (p + 1) + j) := by unfold bn; rw [if_pos hk]
      rw [b3]
      apply getD_of
      rw [h9]
      rw [h7, List.getElem?_append] at b1
      have hn : nu (rwt l p) (ps l p k + j) = if Y.length ≤ nu l (en l (p + 1) + j) then nu l (en l (p + 1) + j) + Z.length else nu l (en l (p + 1) + j) := by
        show (pt _ _).2 = _
        rw [hpt j hj]
        unfold sh
        rw [hdep]
        by_cases hc : Y.length ≤ nu l (en l (p + 1) + j)
        · rw [if_pos ⟨hk, hc⟩, if_pos hc, z3]
        · rw [if_neg (fun z => hc z.2), if_neg hc]
          rfl
      rw [hn]
      by_cases hlt : nu l (en l (p + 1) + j) < Y.length
      · rw [if_pos hlt] at b1
        have hge := (y2 _ (List.mem_of_getElem? b1)).1
        rw [if_neg (by omega), if_pos hge, List.getElem?_append, List.length_map, if_pos hlt, List.getElem?_map, b1]
        rfl
      · rw [if_neg hlt] at b1
        have hlo := env_low (List.mem_of_getElem? b1)
        rw [if_pos (by omega), if_neg (by omega), List.getElem?_append, List.length_map, if_neg (by omega), List.getElem?_append, List.length_map, if_neg (by omega), show nu l (en l (p + 1) + j) + Z.length - Y.length - Z.length = nu l (en l (p + 1) + j) - Y.length by omega]
        exact b1
    · rw [if_neg hk, if_neg hk]
      show (pt _ _).2 = _
      rw [hpt j hj]
      unfold sh
      rw [if_neg (fun z => hk z.1)]
      rfl
  · obtain ⟨b1, b2, -⟩ := bn_env hw hi hk
    rw [h7] at b2
    rcases List.mem_append.mp b2 with r | r
    · exact Or.inr (y2 _ r)
    · exact Or.inl (env_low r)
/-- behind the argument -/
theorem rw_fC (hw : WF l) (hp : p < l.length) (hr : red l p = true) {k : Nat} (h1 : en l p ≤ k) (h2 : k < l.length) : ps l p (k + 1) = ps l p k + 1 ∧ kd (rwt l p) (ps l p k) = kd l k ∧ bn (rwt l p) (ps l p k) = (if kd l k = 0 then ps l p (bn l k) else nu l k) ∧ (kd l k = 0 → bn l k < p ∨ (en l p ≤ bn l k ∧ bn l k < k)) := by
  obtain ⟨r1, r2, r3, r4, r5, r6, r7, r8, r9, r10⟩ := red_all hw hp hr
  obtain ⟨c1, c2⟩ := rw_C hw hp hr (k - en l p) (by omega)
  have hpt := rwt_ptC (l := l) hp (k - en l p)
  have e0 : ps l p k = p + (bd l p (en l (p + 1) - (p + 2))).length + (k - en l p) := ps_C (by omega) (by omega) (by omega)
  rw [show en l p + (k - en l p) = k by omega, ← e0] at c1
  rw [show en l p + (k - en l p) = k by omega, ← e0] at hpt
  rw [show en l p + (k - en l p) = k by omega] at c2
  obtain ⟨s, hs⟩ := ev_ne (hw.1 k h2).1
  have h3 : env (rwt l p) (ps l p k) = (env l k).map (ps l p) := by
    rw [hs] at c1
    exact env_hd c1
  have h5 : kd (rwt l p) (ps l p k) = kd l k := congrArg Prod.fst hpt
  have h6 : nu (rwt l p) (ps l p k) = nu l k := congrArg Prod.snd hpt
  refine ⟨?_, h5, ?_, fun hk => ?_⟩
  · rw [e0, ps_C (by omega) (by omega) (by omega)]
    omega
  · unfold bn
    rw [h5, h6]
    by_cases hk : kd l k = 0
    · rw [if_pos hk, if_pos hk, if_pos hk]
      obtain ⟨b1, -⟩ := bn_env hw h2 hk
      rw [getD_of b1]
      apply getD_of
      rw [h3, List.getElem?_map, b1]
      rfl
    · rw [if_neg hk, if_neg hk]
  · obtain ⟨-, b2, -⟩ := bn_env hw h2 hk
    exact c2 _ (by rw [hs]; exact List.mem_cons_self) _ b2
end RWE
