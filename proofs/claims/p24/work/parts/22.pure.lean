/-! TERMS as lists of parts (kind, number); all that is said of them without a machine -/
abbrev Tm : Type := List (Nat × Nat)
def pt (l : Tm) (p : Nat) : Nat × Nat := l.getD p (0, 0)
def kd (l : Tm) (p : Nat) : Nat := (pt l p).1
def nu (l : Tm) (p : Nat) : Nat := (pt l p).2
def ar (k : Nat) : Nat := if k = 2 then 1 else if k = 3 then 2 else 0
/-- how many parts n terms take that stand at the row's start -/
def skp : Tm → Nat → Nat
  | [], _ => 0
  | q :: l, n => match n with
    | 0 => 0
    | n + 1 => 1 + skp l (n + ar q.1)
theorem skp_0 (l : Tm) : skp l 0 = 0 := by cases l <;> rfl
theorem skp_cons (q : Nat × Nat) (l : Tm) (n : Nat) : skp (q :: l) (n + 1) = 1 + skp l (n + ar q.1) := rfl
theorem skp_add : ∀ (l : Tm) (a b : Nat), skp l (a + b) = skp l a + skp (l.drop (skp l a)) b
  | [], a, b => rfl
  | q :: l, 0, b => by rw [Nat.zero_add, skp_0, List.drop_zero, Nat.zero_add]
  | q :: l, a + 1, b => by
    rw [Nat.add_right_comm, skp_cons, skp_cons, Nat.add_right_comm, skp_add l (a + ar q.1) b]
    rw [show 1 + skp l (a + ar q.1) = skp l (a + ar q.1) + 1 by omega, List.drop_succ_cons]
    omega
theorem skp_le : ∀ (l : Tm) (n : Nat), skp l n ≤ l.length
  | [], _ => Nat.le_refl _
  | q :: l, 0 => Nat.zero_le _
  | q :: l, n + 1 => by
    have := skp_le l (n + ar q.1)
    rw [skp_cons, List.length_cons]
    omega
theorem skp_mid : ∀ (l : Tm) (n i : Nat), i < skp l n → ∃ m, 1 ≤ m ∧ skp l n = i + skp (l.drop i) m
  | [], n, i, h => absurd h (Nat.not_lt_zero i)
  | q :: l, 0, i, h => absurd h (Nat.not_lt_zero i)
  | q :: l, n + 1, 0, h => ⟨n + 1, by omega, by rw [List.drop_zero]; omega⟩
  | q :: l, n + 1, i + 1, h => by
    rw [skp_cons] at h ⊢
    obtain ⟨m, h1, h2⟩ := skp_mid l (n + ar q.1) i (by omega)
    exact ⟨m, h1, by rw [List.drop_succ_cons]; omega⟩
/-- the place behind the term that begins at a place -/
def en (l : Tm) (p : Nat) : Nat := p + skp (l.drop p) 1
theorem drop_pt {l : Tm} {p : Nat} (h : p < l.length) : l.drop p = pt l p :: l.drop (p + 1) := by
  rw [List.drop_eq_getElem_cons h]
  simp [pt, List.getD_eq_getElem?_getD, h]
theorem skp_at {l : Tm} {p : Nat} (h : p < l.length) (n : Nat) : skp (l.drop p) (n + 1) = 1 + skp (l.drop (p + 1)) (n + ar (kd l p)) := by
  rw [drop_pt h, skp_cons]
  rfl
theorem en_lt {l : Tm} {p : Nat} (h : p < l.length) : p < en l p := by
  unfold en
  rw [show (1 : Nat) = 0 + 1 from rfl, skp_at h]
  omega
theorem en_le {l : Tm} {p : Nat} (h : p ≤ l.length) : en l p ≤ l.length := by
  have := skp_le (l.drop p) 1
  rw [List.length_drop] at this
  unfold en
  omega
theorem en_0 {l : Tm} {p : Nat} (h : p < l.length) (hk : ar (kd l p) = 0) : en l p = p + 1 := by
  unfold en
  rw [show (1 : Nat) = 0 + 1 from rfl, skp_at h, hk, skp_0]
theorem en_2 {l : Tm} {p : Nat} (h : p < l.length) (hk : kd l p = 2) : en l p = en l (p + 1) := by
  unfold en
  rw [show skp (l.drop p) 1 = skp (l.drop p) (0 + 1) from rfl, skp_at h, hk, show 0 + ar 2 = 1 from rfl]
  omega
theorem en_3 {l : Tm} {p : Nat} (h : p < l.length) (hk : kd l p = 3) : en l p = en l (en l (p + 1)) := by
  unfold en
  rw [show skp (l.drop p) 1 = skp (l.drop p) (0 + 1) from rfl, skp_at h, hk, show 0 + ar 3 = 1 + 1 from rfl, skp_add, List.drop_drop]
  omega
theorem en_nest {l : Tm} {k p : Nat} (h1 : k ≤ p) (h2 : p < en l k) : en l p ≤ en l k := by
  unfold en at h2 ⊢
  obtain ⟨m, h3, h4⟩ := skp_mid (l.drop k) 1 (p - k) (by omega)
  rw [List.drop_drop, show k + (p - k) = p by omega] at h4
  obtain ⟨m', rfl⟩ : ∃ m', m = 1 + m' := ⟨m - 1, by omega⟩
  rw [skp_add] at h4
  omega
/-! what is around the places: depths of the terms that are awaited, and the nearest L -/
def stp (p : Nat) (q : Nat × Nat) (s : List (Nat × Option Nat)) : List (Nat × Option Nat) := match s with
  | [] => []
  | e :: s => if q.1 = 2 then (e.1 + 1, some p) :: s else if q.1 = 3 then e :: e :: s else s
def sk (l : Tm) : Nat → List (Nat × Option Nat)
  | 0 => [(0, none)]
  | p + 1 => stp p (pt l p) (sk l p)
def dep (l : Tm) (p : Nat) : Nat := ((sk l p).headD (0, none)).1
def nb (l : Tm) (p : Nat) : Option Nat := ((sk l p).headD (0, none)).2
def okq (d : Nat) (q : Nat × Nat) : Prop := (q.1 = 0 ∧ q.2 < d) ∨ (q.1 = 1 ∧ q.2 < 6) ∨ (q.1 = 2 ∧ q.2 = 0) ∨ (q.1 = 3 ∧ q.2 = 0)
/-- a term: at each place something is awaited, at the end nothing; each variable is bound -/
def WF (l : Tm) : Prop := (∀ p, p < l.length → sk l p ≠ [] ∧ okq (dep l p) (pt l p)) ∧ sk l l.length = []
theorem sk_cons {l : Tm} {p : Nat} (h : sk l p ≠ []) : ∃ s, sk l p = (dep l p, nb l p) :: s := by
  unfold dep nb
  cases hs : sk l p with
  | nil => exact absurd hs h
  | cons e s => exact ⟨s, rfl⟩
theorem okq_kd {d : Nat} {q : Nat × Nat} (h : okq d q) : q.1 = 0 ∨ q.1 = 1 ∨ q.1 = 2 ∨ q.1 = 3 := by
  unfold okq at h
  omega
theorem WF.kd {l : Tm} (h : WF l) {p : Nat} (hp : p < l.length) : kd l p = 0 ∨ kd l p = 1 ∨ kd l p = 2 ∨ kd l p = 3 := okq_kd (h.1 p hp).2
theorem stp_cons (p : Nat) (q : Nat × Nat) (e : Nat × Option Nat) (s : List (Nat × Option Nat)) : stp p q (e :: s) = if q.1 = 2 then (e.1 + 1, some p) :: s else if q.1 = 3 then e :: e :: s else s := rfl
theorem stp_len (p : Nat) (q : Nat × Nat) (e : Nat × Option Nat) (s : List (Nat × Option Nat)) : (stp p q (e :: s)).length = s.length + ar q.1 := by
  rw [stp_cons]
  unfold ar
  split
  · rfl
  · split <;> rfl
theorem stp_drop (p : Nat) (q : Nat × Nat) (e : Nat × Option Nat) (s : List (Nat × Option Nat)) (n : Nat) : (stp p q (e :: s)).drop (n + ar q.1) = s.drop n := by
  rw [stp_cons]
  unfold ar
  split
  · rw [List.drop_succ_cons]
  · split
    · rw [List.drop_succ_cons, List.drop_succ_cons]
    · rfl
theorem sk_skip {l : Tm} (h : WF l) : ∀ (k p n : Nat), l.length - p = k → p ≤ l.length → n ≤ (sk l p).length → sk l (p + skp (l.drop p) n) = (sk l p).drop n
  | _, p, 0, _, _, _ => by rw [skp_0, List.drop_zero, Nat.add_zero]
  | 0, p, n + 1, hk, hp, hn => by
    have e : p = l.length := by omega
    rw [e, h.2] at hn
    exact absurd hn (Nat.not_succ_le_zero n)
  | k + 1, p, n + 1, hk, hp, hn => by
    have hl : p < l.length := by omega
    obtain ⟨s, hs⟩ := sk_cons (h.1 p hl).1
    have e : sk l (p + 1) = stp p (pt l p) (sk l p) := rfl
    rw [skp_at hl, ← Nat.add_assoc]
    have hlen : n + ar (kd l p) ≤ (sk l (p + 1)).length := by
      rw [e, hs, stp_len]
      rw [hs, List.length_cons] at hn
      show n + ar (pt l p).1 ≤ _
      omega
    rw [sk_skip h k (p + 1) _ (by omega) (by omega) hlen, e, hs]
    show (stp p (pt l p) _).drop (n + ar (pt l p).1) = _
    rw [stp_drop, List.drop_succ_cons]
theorem sk_en {l : Tm} (h : WF l) {p : Nat} (hp : p < l.length) : sk l (en l p) = (sk l p).drop 1 := by
  obtain ⟨s, hs⟩ := sk_cons (h.1 p hp).1
  exact sk_skip h _ p 1 rfl (by omega) (by rw [hs, List.length_cons]; omega)
theorem dep_2 {l : Tm} (h : WF l) {p : Nat} (hp : p < l.length) (hk : kd l p = 2) : dep l (p + 1) = dep l p + 1 ∧ nb l (p + 1) = some p ∧ sk l (p + 1) ≠ [] := by
  obtain ⟨s, hs⟩ := sk_cons (h.1 p hp).1
  have e : sk l (p + 1) = (dep l p + 1, some p) :: s := by
    show stp p (pt l p) (sk l p) = _
    rw [hs]
    exact if_pos hk
  unfold dep nb at *
  rw [e]
  exact ⟨rfl, rfl, by simp⟩
theorem sk_3 {l : Tm} (h : WF l) {p : Nat} (hp : p < l.length) (hk : kd l p = 3) : sk l (p + 1) = (dep l p, nb l p) :: sk l p := by
  obtain ⟨s, hs⟩ := sk_cons (h.1 p hp).1
  show stp p (pt l p) (sk l p) = _
  conv => lhs; rw [hs]
  rw [hs]
  have h2 : ¬ (pt l p).1 = 2 := by
    have : (pt l p).1 = 3 := hk
    omega
  rw [stp_cons, if_neg h2, if_pos (show (pt l p).1 = 3 from hk)]
theorem dep_3 {l : Tm} (h : WF l) {p : Nat} (hp : p < l.length) (hk : kd l p = 3) : dep l (p + 1) = dep l p ∧ nb l (p + 1) = nb l p ∧ sk l (p + 1) ≠ [] := by
  have e := sk_3 h hp hk
  unfold dep nb at *
  rw [e]
  exact ⟨rfl, rfl, by simp⟩
theorem nil_end {l : Tm} (h : WF l) {p : Nat} (hp : p ≤ l.length) (hs : sk l p ≠ []) : p < l.length := by
  rcases Nat.lt_or_eq_of_le hp with h1 | h1
  · exact h1
  · rw [h1] at hs
    exact absurd h.2 hs
theorem child_2 {l : Tm} (h : WF l) {p : Nat} (hp : p < l.length) (hk : kd l p = 2) : p + 1 < l.length := nil_end h hp (dep_2 h hp hk).2.2
theorem child_3 {l : Tm} (h : WF l) {p : Nat} (hp : p < l.length) (hk : kd l p = 3) : p + 1 < l.length := nil_end h hp (dep_3 h hp hk).2.2
theorem sk_3e {l : Tm} (h : WF l) {p : Nat} (hp : p < l.length) (hk : kd l p = 3) : sk l (en l (p + 1)) = sk l p := by
  rw [sk_en h (child_3 h hp hk), sk_3 h hp hk]
  rfl
theorem dep_3e {l : Tm} (h : WF l) {p : Nat} (hp : p < l.length) (hk : kd l p = 3) : dep l (en l (p + 1)) = dep l p ∧ nb l (en l (p + 1)) = nb l p ∧ en l (p + 1) < l.length := by
  have e := sk_3e h hp hk
  refine ⟨by unfold dep; rw [e], by unfold nb; rw [e], nil_end h (en_le (child_3 h hp hk |> Nat.le_of_lt)) (by rw [e]; exact (h.1 p hp).1)⟩
/-- each place but the first has a parent before it -/
def par (l : Tm) (p j : Nat) : Prop := (kd l p = 2 ∧ j = p + 1) ∨ (kd l p = 3 ∧ (j = p + 1 ∨ j = en l (p + 1)))
theorem par_at {l : Tm} (h : WF l) : ∀ (j : Nat), j ≤ l.length → ∀ i, i < (sk l j).length → (j + skp (l.drop j) i = 0) ∨ ∃ p, p < j ∧ par l p (j + skp (l.drop j) i)
  | 0, _, i, hi => by
    have e : i = 0 := by
      have : i < 1 := hi
      omega
    subst e
    exact Or.inl (by rw [skp_0])
  | j + 1, hj, i, hi => by
    have hl : j < l.length := hj
    obtain ⟨s, hs⟩ := sk_cons (h.1 j hl).1
    have e : sk l (j + 1) = stp j (pt l j) (sk l j) := rfl
    rw [e, hs, stp_len] at hi
    have hi : i < s.length + ar (kd l j) := hi
    by_cases hc : i < ar (kd l j)
    · right
      refine ⟨j, by omega, ?_⟩
      unfold ar at hc
      split at hc
      · rename_i h2
        have e0 : i = 0 := by omega
        subst e0
        exact Or.inl ⟨h2, by rw [skp_0]⟩
      · split at hc
        · rename_i h3
          rcases (by omega : i = 0 ∨ i = 1) with e0 | e0
          · subst e0
            exact Or.inr ⟨h3, Or.inl (by rw [skp_0])⟩
          · subst e0
            exact Or.inr ⟨h3, Or.inr rfl⟩
        · omega
    · obtain ⟨i', rfl⟩ : ∃ i', i = i' + ar (kd l j) := ⟨i - ar (kd l j), by omega⟩
      have e2 : j + 1 + skp (l.drop (j + 1)) (i' + ar (kd l j)) = j + skp (l.drop j) (i' + 1) := by rw [skp_at hl]; omega
      rw [e2]
      rcases par_at h j (by omega) (i' + 1) (by rw [hs, List.length_cons]; omega) with h1 | ⟨p, h1, h2⟩
      · exact Or.inl h1
      · exact Or.inr ⟨p, by omega, h2⟩
theorem has_par {l : Tm} (h : WF l) {j : Nat} (hj : j < l.length) (h0 : 0 < j) : ∃ p, p < j ∧ par l p j := by
  obtain ⟨s, hs⟩ := sk_cons (h.1 j hj).1
  have h1 := par_at h j (by omega) 0 (by rw [hs, List.length_cons]; omega)
  rw [skp_0, Nat.add_zero] at h1
  rcases h1 with h1 | h1
  · omega
  · exact h1
theorem par_dep {l : Tm} (h : WF l) {p j : Nat} (hp : p < l.length) (hpar : par l p j) : p < j ∧ j < l.length ∧ dep l j = (if kd l p = 2 then dep l p + 1 else dep l p) ∧ nb l j = (if kd l p = 2 then some p else nb l p) := by
  rcases hpar with ⟨h2, rfl⟩ | ⟨h3, rfl | rfl⟩
  · rw [if_pos h2, if_pos h2]
    exact ⟨by omega, child_2 h hp h2, (dep_2 h hp h2).1, (dep_2 h hp h2).2.1⟩
  · rw [if_neg (by omega), if_neg (by omega)]
    exact ⟨by omega, child_3 h hp h3, (dep_3 h hp h3).1, (dep_3 h hp h3).2.1⟩
  · rw [if_neg (by omega), if_neg (by omega)]
    have := en_lt (child_3 h hp h3)
    exact ⟨by omega, (dep_3e h hp h3).2.2, (dep_3e h hp h3).1, (dep_3e h hp h3).2.1⟩
/-! which L bind what -/
def encl (l : Tm) (k p : Nat) : Prop := kd l k = 2 ∧ k < p ∧ p < en l k
theorem par_in {l : Tm} (h : WF l) {p j : Nat} (hp : p < l.length) (hpar : par l p j) : j < en l p := by
  rcases hpar with ⟨h2, rfl⟩ | ⟨h3, rfl | rfl⟩
  · rw [en_2 hp h2]
    exact en_lt (child_2 h hp h2)
  · rw [en_3 hp h3]
    have h1 := en_lt (child_3 h hp h3)
    have h2 := en_lt (dep_3e h hp h3).2.2
    omega
  · rw [en_3 hp h3]
    exact en_lt (dep_3e h hp h3).2.2
theorem encl_par {l : Tm} (h : WF l) {p j k : Nat} (hp : p < l.length) (hpar : par l p j) : encl l k j ↔ (k = p ∧ kd l p = 2) ∨ encl l k p := by
  have hj := par_in h hp hpar
  have hpj := (par_dep h hp hpar).1
  constructor
  · rintro ⟨h1, h2, h3⟩
    rcases Nat.lt_trichotomy k p with hk | hk | hk
    · exact Or.inr ⟨h1, hk, by omega⟩
    · subst hk
      exact Or.inl ⟨rfl, h1⟩
    · rcases hpar with ⟨-, rfl⟩ | ⟨h4, rfl | rfl⟩
      · omega
      · omega
      · have := en_nest (l := l) (k := p + 1) (p := k) (by omega) h2
        omega
  · rintro (⟨rfl, h1⟩ | ⟨h1, h2, h3⟩)
    · exact ⟨h1, hpj, hj⟩
    · exact ⟨h1, by omega, by have := en_nest (Nat.le_of_lt h2) h3; omega⟩
theorem nb_0 (l : Tm) : nb l 0 = none := rfl
theorem dep_0 (l : Tm) : dep l 0 = 0 := rfl
theorem encl_nb {l : Tm} (h : WF l) : ∀ (n p : Nat), p ≤ n → p < l.length → ∀ k, encl l k p ↔ nb l p = some k ∨ ∃ x, nb l p = some x ∧ encl l k x
  | n, 0, _, _, k => by
    rw [nb_0]
    constructor
    · rintro ⟨-, h1, -⟩
      omega
    · rintro (h1 | ⟨x, h1, -⟩) <;> cases h1
  | 0, p + 1, hn, _, _ => by omega
  | n + 1, p + 1, hn, hl, k => by
    obtain ⟨q, h1, h2⟩ := has_par h hl (by omega)
    have hq : q < l.length := by omega
    have hpd := par_dep h hq h2
    rw [encl_par h hq h2, hpd.2.2.2]
    by_cases hk : kd l q = 2
    · rw [if_pos hk]
      constructor
      · rintro (⟨rfl, -⟩ | h3)
        · exact Or.inl rfl
        · exact Or.inr ⟨q, rfl, h3⟩
      · rintro (h3 | ⟨x, h3, h4⟩)
        · exact Or.inl ⟨(Option.some.inj h3).symm, hk⟩
        · cases h3
          exact Or.inr h4
    · rw [if_neg hk, ← encl_nb h n q (by omega) hq k]
      constructor
      · rintro (⟨-, h3⟩ | h3)
        · exact absurd h3 hk
        · exact h3
      · exact Or.inr
theorem nb_dep {l : Tm} (h : WF l) : ∀ (n p : Nat), p ≤ n → p < l.length → (nb l p = none ∧ dep l p = 0) ∨ ∃ x, nb l p = some x ∧ x < p ∧ kd l x = 2 ∧ dep l p = dep l x + 1
  | n, 0, _, _ => Or.inl ⟨nb_0 l, dep_0 l⟩
  | 0, p + 1, hn, _ => by omega
  | n + 1, p + 1, hn, hl => by
    obtain ⟨q, h1, h2⟩ := has_par h hl (by omega)
    have hq : q < l.length := by omega
    have hpd := par_dep h hq h2
    by_cases hk : kd l q = 2
    · rw [if_pos hk, if_pos hk] at hpd
      exact Or.inr ⟨q, hpd.2.2.2, h1, hk, hpd.2.2.1⟩
    · rw [if_neg hk, if_neg hk] at hpd
      rcases nb_dep h n q (by omega) hq with ⟨h3, h4⟩ | ⟨x, h3, h4, h5, h6⟩
      · exact Or.inl ⟨hpd.2.2.2.trans h3, hpd.2.2.1.trans h4⟩
      · exact Or.inr ⟨x, hpd.2.2.2.trans h3, by omega, h5, hpd.2.2.1.trans h6⟩
theorem dep_le {l : Tm} (h : WF l) : ∀ (n p : Nat), p ≤ n → p < l.length → dep l p ≤ p
  | n, 0, _, _ => Nat.le_of_eq (dep_0 l)
  | 0, p + 1, hn, _ => by omega
  | n + 1, p + 1, hn, hl => by
    rcases nb_dep h (p + 1) (p + 1) (Nat.le_refl _) hl with ⟨-, h1⟩ | ⟨x, -, h2, -, h3⟩
    · omega
    · have := dep_le h n x (by omega) (by omega)
      omega
theorem nu_lt {l : Tm} (h : WF l) {p : Nat} (hp : p < l.length) (hn : l.length ≤ 200) : nu l p < 200 ∧ (kd l p = 0 → nu l p < dep l p) := by
  have h1 := (h.1 p hp).2
  have h2 := dep_le h p p (Nat.le_refl _) hp
  unfold okq at h1
  show (pt l p).2 < 200 ∧ ((pt l p).1 = 0 → (pt l p).2 < dep l p)
  omega
theorem dep_lt {l : Tm} (h : WF l) {p : Nat} (hp : p < l.length) (hn : l.length ≤ 200) : dep l p < 200 := by
  have := dep_le h p p (Nat.le_refl _) hp
  omega

