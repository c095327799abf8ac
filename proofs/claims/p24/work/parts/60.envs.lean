/-! ENVIRONMENTS: the L around the terms that are awaited, from the inside out -/
def stv (p : Nat) (q : Nat × Nat) (s : List (List Nat)) : List (List Nat) := match s with
  | [] => []
  | e :: s => if q.1 = 2 then (p :: e) :: s else if q.1 = 3 then e :: e :: s else s
theorem stv_cons (p : Nat) (q : Nat × Nat) (e : List Nat) (s : List (List Nat)) : stv p q (e :: s) = if q.1 = 2 then (p :: e) :: s else if q.1 = 3 then e :: e :: s else s := rfl
theorem stv_app (p : Nat) (q : Nat × Nat) (e : List Nat) (X R : List (List Nat)) : stv p q (e :: X ++ R) = stv p q (e :: X) ++ R := by
  rw [List.cons_append, stv_cons, stv_cons]
  split
  · rfl
  · split <;> rfl
theorem stv_kd {p : Nat} {q q' : Nat × Nat} (h : q'.1 = q.1) (s : List (List Nat)) : stv p q' s = stv p q s := by
  cases s with
  | nil => rfl
  | cons e s => rw [stv_cons, stv_cons, h]
theorem stv_mem {p : Nat} {q : Nat × Nat} {e v : List Nat} {X : List (List Nat)} (h : v ∈ stv p q (e :: X)) : v = p :: e ∨ v ∈ e :: X := by
  rw [stv_cons] at h
  split at h
  · rcases List.mem_cons.mp h with r | r
    · exact Or.inl r
    · exact Or.inr (List.mem_cons_of_mem _ r)
  · split at h
    · rcases List.mem_cons.mp h with r | r
      · exact Or.inr (r ▸ List.mem_cons_self)
      · exact Or.inr r
    · exact Or.inr (List.mem_cons_of_mem _ h)
theorem stv_map {f : List Nat → List Nat} {k c : Nat} {q q' : Nat × Nat} {e : List Nat} {X : List (List Nat)} (hq : q'.1 = q.1) (hf : f (k :: e) = c :: f e) : stv c q' ((e :: X).map f) = (stv k q (e :: X)).map f := by
  rw [List.map_cons, stv_cons, stv_cons, hq]
  split
  · rw [List.map_cons, hf]
  · split <;> rfl
def evs (l : Tm) : Nat → List (List Nat)
  | 0 => [[]]
  | p + 1 => stv p (pt l p) (evs l p)
def env (l : Tm) (p : Nat) : List Nat := (evs l p).headD []
def e2s (e : List Nat) : Nat × Option Nat := (e.length, e.head?)
theorem sk_ev (l : Tm) : ∀ p, sk l p = (evs l p).map e2s
  | 0 => rfl
  | p + 1 => by
    show stp p (pt l p) (sk l p) = (stv p (pt l p) (evs l p)).map e2s
    rw [sk_ev l p]
    cases evs l p with
    | nil => rfl
    | cons e s =>
      rw [List.map_cons, stp_cons, stv_cons]
      split
      · rfl
      · split <;> rfl
theorem dep_ev (l : Tm) (p : Nat) : dep l p = (env l p).length := by
  unfold dep env
  rw [sk_ev]
  cases evs l p <;> rfl
theorem nb_ev (l : Tm) (p : Nat) : nb l p = (env l p).head? := by
  unfold nb env
  rw [sk_ev]
  cases evs l p <;> rfl
theorem ev_ne {l : Tm} {p : Nat} (h : sk l p ≠ []) : ∃ s, evs l p = env l p :: s := by
  rw [sk_ev] at h
  unfold env
  cases he : evs l p with
  | nil => rw [he] at h; exact absurd rfl h
  | cons e s => exact ⟨s, rfl⟩
theorem env_hd {l : Tm} {p : Nat} {e : List Nat} {s : List (List Nat)} (h : evs l p = e :: s) : env l p = e := by
  unfold env
  rw [h]
  rfl
theorem ev_chain (l : Tm) : ∀ (p : Nat), ∀ e ∈ evs l p, ∀ x e', e = x :: e' → x < p ∧ kd l x = 2 ∧ env l x = e'
  | 0, e, he, x, e', h => by
    rw [List.mem_singleton.mp (show e ∈ [[]] from he)] at h
    cases h
  | p + 1, e, he, x, e', h => by
    have ih := ev_chain l p
    have he : e ∈ stv p (pt l p) (evs l p) := he
    cases hs : evs l p with
    | nil => rw [hs] at he; cases he
    | cons a s =>
      rw [hs] at he ih
      have up : e ∈ a :: s → x < p + 1 ∧ kd l x = 2 ∧ env l x = e' := fun z => by
        obtain ⟨h1, h2⟩ := ih e z x e' h
        exact ⟨by omega, h2⟩
      rw [stv_cons] at he
      split at he
      · rename_i h2
        rcases List.mem_cons.mp he with r | r
        · rw [r] at h
          injection h with h3 h4
          rw [← h3]
          exact ⟨Nat.lt_succ_self _, h2, by rw [env_hd hs]; exact h4⟩
        · exact up (List.mem_cons_of_mem _ r)
      · split at he
        · rcases List.mem_cons.mp he with r | r
          · exact up (r ▸ List.mem_cons_self)
          · exact up r
        · exact up (List.mem_cons_of_mem _ he)
theorem env_chain {l : Tm} {p x : Nat} {e' : List Nat} (h : env l p = x :: e') : x < p ∧ kd l x = 2 ∧ env l x = e' := by
  cases hs : evs l p with
  | nil =>
    unfold env at h
    rw [hs] at h
    cases h
  | cons a s =>
    rw [env_hd hs] at h
    exact ev_chain l p a (by rw [hs]; exact List.mem_cons_self) x e' h
theorem env_lt (l : Tm) : ∀ (n p : Nat), p ≤ n → ∀ y ∈ env l p, y < p ∧ kd l y = 2
  | 0, p, hn, y, hy => by
    have e : p = 0 := by omega
    subst e
    cases hy
  | n + 1, p, hn, y, hy => by
    cases he : env l p with
    | nil => rw [he] at hy; cases hy
    | cons x e' =>
      obtain ⟨h1, h2, h3⟩ := env_chain he
      rw [he] at hy
      rcases List.mem_cons.mp hy with r | r
      · subst r
        exact ⟨h1, h2⟩
      · obtain ⟨h4, h5⟩ := env_lt l n x (by omega) y (by rw [h3]; exact r)
        exact ⟨by omega, h5⟩
theorem ev_lt {l : Tm} {p : Nat} {e : List Nat} (he : e ∈ evs l p) {y : Nat} (hy : y ∈ e) : y < p ∧ kd l y = 2 := by
  cases e with
  | nil => cases hy
  | cons x e' =>
    obtain ⟨h1, h2, h3⟩ := ev_chain l p _ he x e' rfl
    rcases List.mem_cons.mp hy with r | r
    · subst r
      exact ⟨h1, h2⟩
    · obtain ⟨h4, h5⟩ := env_lt l x x (Nat.le_refl _) y (by rw [h3]; exact r)
      exact ⟨by omega, h5⟩
theorem bch_succ (l : Tm) (p : Nat) : ∀ i, bch l p (i + 1) = (nb l p).bind fun x => bch l x i
  | 0 => rfl
  | i + 1 => by
    show (bch l p (i + 1)).bind (nb l) = _
    rw [bch_succ l p i]
    cases nb l p <;> rfl
theorem bch_ev (l : Tm) : ∀ (i p : Nat), bch l p i = (env l p)[i]?
  | 0, p => by
    show nb l p = _
    rw [nb_ev]
    cases env l p <;> rfl
  | i + 1, p => by
    rw [bch_succ, nb_ev]
    cases he : env l p with
    | nil => rfl
    | cons x e' =>
      show bch l x i = _
      rw [bch_ev l i x, (env_chain he).2.2]
      rfl
/-- what binds a variable; a constant's number -/
def bn (l : Tm) (p : Nat) : Nat := if kd l p = 0 then (env l p).getD (nu l p) 0 else nu l p
theorem nu_env {l : Tm} (h : WF l) {p : Nat} (hp : p < l.length) (hk : kd l p = 0) : nu l p < (env l p).length := by
  have h1 := (h.1 p hp).2
  rw [← dep_ev]
  unfold okq at h1
  unfold kd at hk
  show (pt l p).2 < dep l p
  omega
theorem bn_env {l : Tm} (h : WF l) {p : Nat} (hp : p < l.length) (hk : kd l p = 0) : (env l p)[nu l p]? = some (bn l p) ∧ bn l p ∈ env l p ∧ bndr l p = nI (bn l p) := by
  have h1 := nu_env h hp hk
  have h2 : (env l p)[nu l p]? = some (bn l p) := by
    unfold bn
    rw [if_pos hk, List.getD_eq_getElem?_getD, List.getElem?_eq_getElem h1]
    rfl
  refine ⟨h2, List.mem_of_getElem? h2, ?_⟩
  unfold bndr
  rw [if_pos hk, bch_ev, h2]
  rfl
theorem bn_lt {l : Tm} (h : WF l) {p : Nat} (hp : p < l.length) (hk : kd l p = 0) : bn l p < p ∧ kd l (bn l p) = 2 := env_lt l p p (Nat.le_refl _) _ (bn_env h hp hk).2.1
theorem evs_pre {l l' : Tm} : ∀ {p : Nat}, (∀ q, q < p → kd l' q = kd l q) → evs l' p = evs l p
  | 0, _ => rfl
  | p + 1, h => by
    show stv p (pt l' p) (evs l' p) = stv p (pt l p) (evs l p)
    rw [evs_pre (p := p) fun q hq => h q (by omega)]
    exact stv_kd (h p (Nat.lt_succ_self _)) _
theorem env_pre {l l' : Tm} {p : Nat} (h : ∀ q, q < p → kd l' q = kd l q) : env l' p = env l p := by
  unfold env
  rw [evs_pre h]
/-! segments -/
theorem seg_ne {l : Tm} (hw : WF l) {a : Nat} (ha : a < l.length) {k : Nat} (h1 : a ≤ k) (h2 : k ≤ en l a) {X : List (List Nat)} (hX : evs l k = X ++ (evs l a).tail) : (k < en l a → ∃ e X', X = e :: X') ∧ (k = en l a → X = []) := by
  obtain ⟨Y, g1, -, g3⟩ := sk_seg hw ha (k - a) k (by omega) h2
  have e1 : X.length = Y.length := by
    have e2 := congrArg List.length g1
    simp only [sk_ev, List.length_map, hX, List.length_append, List.length_drop, List.length_tail] at e2
    omega
  constructor
  · intro hk
    obtain ⟨e, Y', rfl⟩ := seg_end g3 hk
    cases X with
    | nil => simp at e1
    | cons e X' => exact ⟨e, X', rfl⟩
  · intro hk
    subst hk
    have := seg_fin hw ha g1
    subst this
    exact List.length_eq_zero_iff.mp e1
theorem ev_seg {l : Tm} (hw : WF l) {a : Nat} (ha : a < l.length) : ∀ (n k : Nat), k = a + n → k ≤ en l a → ∃ X, evs l k = X ++ (evs l a).tail ∧ (∀ e ∈ X, ∃ Z, e = Z ++ env l a ∧ ∀ y ∈ Z, a ≤ y ∧ y < k)
  | 0, k, hk, hke => by
    rw [Nat.add_zero] at hk
    subst hk
    obtain ⟨s, hs⟩ := ev_ne (hw.1 k ha).1
    exact ⟨[env l k], by rw [hs]; rfl, fun e he => ⟨[], by rw [List.mem_singleton.mp he]; rfl, fun y hy => by cases hy⟩⟩
  | n + 1, k, hk, hke => by
    obtain ⟨X, h1, h2⟩ := ev_seg hw ha n (k - 1) (by omega) (by omega)
    obtain ⟨e, X', rfl⟩ := (seg_ne hw ha (by omega) (by omega) h1).1 (by omega)
    refine ⟨stv (k - 1) (pt l (k - 1)) (e :: X'), ?_, fun v hv => ?_⟩
    · conv => lhs; rw [show k = k - 1 + 1 by omega]
      show stv (k - 1) (pt l (k - 1)) (evs l (k - 1)) = _
      rw [h1, stv_app]
    · rcases stv_mem hv with r | r
      · obtain ⟨Z, z1, z2⟩ := h2 e List.mem_cons_self
        refine ⟨(k - 1) :: Z, by rw [r, z1]; rfl, fun y hy => ?_⟩
        rcases List.mem_cons.mp hy with q | q
        · omega
        · have := z2 y q
          omega
      · obtain ⟨Z, z1, z2⟩ := h2 v r
        exact ⟨Z, z1, fun y hy => by have := z2 y hy; omega⟩
/-- around a reducible place -/
theorem ev_red {l : Tm} (hw : WF l) {p : Nat} (hp : p < l.length) (hr : red l p = true) : evs l (p + 2) = ((p + 1) :: env l p) :: evs l p ∧ evs l (en l (p + 1)) = evs l p ∧ evs l (en l p) = (evs l p).tail ∧ ∃ s, evs l p = env l p :: s := by
  obtain ⟨h3, h2⟩ := red_of hr
  obtain ⟨r1, r2, r3, r4, r5, r6, r7, r8, r9, r10⟩ := red_all hw hp hr
  obtain ⟨s, hs⟩ := ev_ne (hw.1 p hp).1
  have n2 : ¬ (pt l p).1 = 2 := by
    have : (pt l p).1 = 3 := h3
    omega
  have e1 : evs l (p + 1) = env l p :: evs l p := by
    show stv p (pt l p) (evs l p) = _
    conv => lhs; rw [hs]
    rw [hs, stv_cons, if_neg n2, if_pos (show (pt l p).1 = 3 from h3)]
  have e2 : evs l (p + 2) = ((p + 1) :: env l p) :: evs l p := by
    show stv (p + 1) (pt l (p + 1)) (evs l (p + 1)) = _
    rw [e1, stv_cons, if_pos (show (pt l (p + 1)).1 = 2 from h2)]
  have e3 : evs l (en l (p + 1)) = evs l p := by
    obtain ⟨X, g1, -⟩ := ev_seg hw r7 (en l (p + 1) - (p + 2)) (en l (p + 1)) (by omega) (by omega)
    have g2 := (seg_ne hw r7 (by omega) (by omega) g1).2 r4
    subst g2
    rw [g1, e2]
    rfl
  refine ⟨e2, e3, ?_, s, hs⟩
  obtain ⟨X, g1, -⟩ := ev_seg hw (show en l (p + 1) < l.length by omega) (en l p - en l (p + 1)) (en l p) (by omega) (by omega)
  have g2 := (seg_ne hw (show en l (p + 1) < l.length by omega) (by omega) (by omega) g1).2 r5
  subst g2
  rw [g1, e3]
  rfl
