/-! THE SMALL MACHINE: a memory is a list of cells, a reference is a cell's place in it; m_run runs a method; m_sound: what m_run does, the machine does -/
def lw_gd : List Cond := lw_tbl.filter goodWord
theorem tb_in {w : Cond} (h : w ∈ lw_tbl) (g : goodWord w = true) : w ∈ lw_gd := List.mem_filter.mpr ⟨h, g⟩
abbrev mC : Type := (Nat × (Nat → Int32)) ⊕ (Nat × List Value)
abbrev mM : Type := List mC
abbrev mR : Type := (Nat × List Value × List Value × mM) ⊕ ((Nat × List Value × Nat × List Value × List Value) ⊕ Option Value)
abbrev mA : Type := List Value → List Value → mM → Option mR
abbrev m_nx (pc : Nat) (ls st : List Value) (M : mM) : Option mR := some (.inl (pc, ls, st, M))
abbrev m_cl (m : Nat) (as : List Value) (pc : Nat) (ls st : List Value) : Option mR := some (.inr (.inl (m, as, pc, ls, st)))
abbrev m_rt (v : Option Value) : Option mR := some (.inr (.inr v))
def m_entL : List Value → List Value
  | [] => []
  | v :: vs => if v.category = 2 then v :: .null :: m_entL vs else v :: m_entL vs
def m_ent (as : List Value) (n : Nat) : List Value := m_entL as ++ List.replicate (n - (m_entL as).length) .null
def m_run (act : Nat → Nat → mA) : Nat → Nat → Nat → List Value → List Value → mM → Option (Option Value × mM)
  | 0, _, _, _, _, _ => none
  | n + 1, m, pc, ls, st, M => match act m pc ls st M with
    | none => none
    | some (.inl (pc', ls', st', M')) => m_run act n m pc' ls' st' M'
    | some (.inr (.inl (m', as, pc', ls', st'))) => match m_run act n m' 0 (m_ent as (mml m')) [] M with
      | none => none
      | some (v, M1) => m_run act n m pc' ls' (v.toList ++ st') M1
    | some (.inr (.inr v)) => some (v, M)
def m_sc (c : mC) : Nat := match c with
  | .inl a => a.1
  | .inr o => o.2.length
def m_sz (M : mM) : Nat := (M.map m_sc).sum
def m_ok (n : Nat) (v : Value) : Prop := match v with
  | .ref k => k < n
  | _ => True
def m_okC (n : Nat) (c : mC) : Prop := match c with
  | .inl _ => True
  | .inr o => ∀ v ∈ o.2, m_ok n v
def m_okM (M : mM) : Prop := ∀ c ∈ M, m_okC M.length c
def m_okV (M : mM) (vs : List Value) : Prop := ∀ v ∈ vs, m_ok M.length v
theorem m_ok.mono {n n' : Nat} {v : Value} (h : m_ok n v) (hn : n ≤ n') : m_ok n' v := by
  cases v <;> first | trivial | exact Nat.lt_of_lt_of_le h hn
theorem m_okV.mono {M M' : mM} {vs : List Value} (h : m_okV M vs) (hn : M.length ≤ M'.length) : m_okV M' vs := fun v hv => (h v hv).mono hn
def m_cv (b : Nat) (ad : Nat → Nat) (v : Value) : Value := match v with
  | .ref k => .ref (ad k)
  | .float _ => .ref b
  | v => v
theorem m_cv_cat (b : Nat) (ad : Nat → Nat) (v : Value) : (m_cv b ad v).category = v.category := by cases v <;> rfl
theorem m_cv_congr {b : Nat} {ad ad' : Nat → Nat} {n : Nat} (h : ∀ k, k < n → ad' k = ad k) {v : Value} (hv : m_ok n v) : m_cv b ad' v = m_cv b ad v := by
  cases v <;> first | rfl | exact congrArg Value.ref (h _ hv)
theorem m_cv_map {b : Nat} {ad ad' : Nat → Nat} {n : Nat} (h : ∀ k, k < n → ad' k = ad k) {vs : List Value} (hv : ∀ v ∈ vs, m_ok n v) : vs.map (m_cv b ad') = vs.map (m_cv b ad) :=
  List.map_congr_left fun v hm => m_cv_congr h (hv v hm)
def m_ce (b : Nat) (ad : Nat → Nat) (cA : ClassId) (c : mC) : va_E := match c with
  | .inl a => .inl (cA, a.1, .inl a.2)
  | .inr o => .inr (o.1, o.2.map (m_cv b ad))
def m_ws (b : Nat) (ad : Nat → Nat) (cA : ClassId) (M : mM) : va_W := M.mapIdx fun k c => (ad k, m_ce b ad cA c)
theorem m_ws_at {b : Nat} {ad : Nat → Nat} {cA : ClassId} {M : mM} {k : Nat} {c : mC} (h : M[k]? = some c) : (m_ws b ad cA M)[k]? = some (ad k, m_ce b ad cA c) := by
  simp [m_ws, List.getElem?_mapIdx, h]
theorem m_ws_of {b : Nat} {ad : Nat → Nat} {cA : ClassId} {M : mM} {k : Nat} {q : Nat × va_E} (h : (m_ws b ad cA M)[k]? = some q) : ∃ c, M[k]? = some c ∧ q = (ad k, m_ce b ad cA c) := by
  simp only [m_ws, List.getElem?_mapIdx] at h
  cases hc : M[k]? with
  | none => rw [hc] at h; cases h
  | some c => rw [hc] at h; exact ⟨c, rfl, (Option.some.inj h).symm⟩
theorem m_ws_set (b : Nat) (ad : Nat → Nat) (cA : ClassId) (M : mM) (k : Nat) (c : mC) : m_ws b ad cA (M.set k c) = (m_ws b ad cA M).set k (ad k, m_ce b ad cA c) := by
  simp [m_ws, List.mapIdx_set]
theorem m_ws_push (b : Nat) (ad : Nat → Nat) (cA : ClassId) (M : mM) (c : mC) : m_ws b ad cA (M ++ [c]) = m_ws b ad cA M ++ [(ad M.length, m_ce b ad cA c)] := by
  simp [m_ws, List.mapIdx_append]
theorem m_ce_congr {b : Nat} {ad ad' : Nat → Nat} {cA : ClassId} {n : Nat} (h : ∀ k, k < n → ad' k = ad k) {c : mC} (hc : m_okC n c) : m_ce b ad' cA c = m_ce b ad cA c := by
  cases c with
  | inl a => rfl
  | inr o => exact congrArg (fun z => (Sum.inr (o.1, z) : va_E)) (m_cv_map h hc)
theorem m_ws_congr {b : Nat} {ad ad' : Nat → Nat} {cA : ClassId} {M : mM} (h : ∀ k, k < M.length → ad' k = ad k) (hM : m_okM M) : m_ws b ad' cA M = m_ws b ad cA M := by
  apply List.ext_getElem?
  intro k
  simp only [m_ws, List.getElem?_mapIdx]
  cases hc : M[k]? with
  | none => rfl
  | some c =>
    have hl := (List.getElem?_eq_some_iff.mp hc).1
    simp only [Option.map_some]
    rw [h k hl, m_ce_congr h (hM c (List.mem_of_getElem? hc))]
def m_prs (b : Nat) (ad : Nat → Nat) (ls : List Value) : List (Nat × Value) := ls.zipIdx.filterMap fun q => if q.1 = .null ∨ (q.1.category = 2 ∧ ls[q.2 + 1]? ≠ some .null) then none else some (q.2, m_cv b ad q.1)
theorem m_prs_mem {b : Nat} {ad : Nat → Nat} {ls : List Value} {q : Nat × Value} : q ∈ m_prs b ad ls ↔ ∃ v, ls[q.1]? = some v ∧ v ≠ .null ∧ (v.category = 2 → ls[q.1 + 1]? = some .null) ∧ q.2 = m_cv b ad v := by
  unfold m_prs
  rw [List.mem_filterMap]
  constructor
  · rintro ⟨⟨v, k⟩, h1, h2⟩
    have h3 := List.mk_mem_zipIdx_iff_getElem?.mp h1
    by_cases hv : v = .null ∨ (v.category = 2 ∧ ls[k + 1]? ≠ some .null)
    · rw [if_pos hv] at h2
      cases h2
    · rw [if_neg hv] at h2
      cases h2
      exact ⟨v, h3, fun e => hv (Or.inl e), fun e => Classical.byContradiction fun z => hv (Or.inr ⟨e, z⟩), rfl⟩
  · rintro ⟨v, h1, h2, h3, h4⟩
    obtain ⟨k, w⟩ := q
    refine ⟨(v, k), List.mk_mem_zipIdx_iff_getElem?.mpr h1, ?_⟩
    rw [if_neg (fun z => z.elim h2 fun z => z.2 (h3 z.1))]
    exact congrArg some (Prod.ext rfl h4.symm)
def m_LR (b : Nat) (ad : Nat → Nat) (lsA : Array Slot) (nL : Nat) (ls : List Value) : Prop := ls.length = nL ∧ lv_has lsA nL (m_prs b ad ls)
theorem m_LR.get {b : Nat} {ad : Nat → Nat} {lsA : Array Slot} {nL : Nat} {ls : List Value} (h : m_LR b ad lsA nL ls) {k : Nat} {v : Value} (hk : ls[k]? = some v) (hv : v ≠ .null) (hc : v.category = 2 → ls[k + 1]? = some .null) : lsA[k]? = some (.val (m_cv b ad v)) :=
  h.2.2.2 (k, m_cv b ad v) (m_prs_mem.mpr ⟨v, hk, hv, hc, rfl⟩)
theorem m_LR.congr {b : Nat} {ad ad' : Nat → Nat} {lsA : Array Slot} {nL n : Nat} {ls : List Value} (h : m_LR b ad lsA nL ls) (ha : ∀ k, k < n → ad' k = ad k) (hl : ∀ v ∈ ls, m_ok n v) : m_LR b ad' lsA nL ls := by
  refine ⟨h.1, h.2.1, h.2.2.1, fun q hq => ?_⟩
  obtain ⟨v, h1, h2, h3, h4⟩ := m_prs_mem.mp hq
  refine h.2.2.2 q (m_prs_mem.mpr ⟨v, h1, h2, h3, ?_⟩)
  rw [h4, m_cv_congr ha (hl v (List.mem_of_getElem? h1))]
theorem m_set_lt {α : Type} {ls : List α} {k i : Nat} {v w : α} (h : (ls.set k v)[i]? = some w) : i < ls.length := by
  have := (List.getElem?_eq_some_iff.mp h).1
  rwa [List.length_set] at this
theorem m_LR.set1 {b : Nat} {ad : Nat → Nat} {lsA : Array Slot} {nL k : Nat} {ls : List Value} {v : Value} (h : m_LR b ad lsA nL ls) (hn : v ≠ .null) {ls' : Array Slot} (h' : lv_has ls' nL ((k, m_cv b ad v) :: (m_prs b ad ls).filter (fun q => !(q.1 == k) && !(q.1 + 1 == k && q.2.category == 2)))) : m_LR b ad ls' nL (ls.set k v) := by
  refine ⟨by rw [List.length_set]; exact h.1, h'.1, h'.2.1, fun q hq => ?_⟩
  obtain ⟨w, h1, h2, h5, h3⟩ := m_prs_mem.mp hq
  refine h'.2.2 q ?_
  by_cases hk : q.1 = k
  · have hl := m_set_lt h1
    rw [hk] at hl
    rw [hk, List.getElem?_set_self hl] at h1
    cases h1
    exact List.mem_cons.mpr (Or.inl (Prod.ext hk h3))
  · rw [List.getElem?_set_ne (Ne.symm hk)] at h1
    have h4 : (q.1 == k) = false := by simpa using hk
    have h6 : w.category = 2 → ls[q.1 + 1]? = some .null ∧ ¬ q.1 + 1 = k := fun z => by
      have z1 := h5 z
      by_cases z2 : q.1 + 1 = k
      · have hl := m_set_lt z1
        rw [z2] at hl z1
        rw [List.getElem?_set_self hl] at z1
        exact absurd (Option.some.inj z1) hn
      · rw [List.getElem?_set_ne (Ne.symm z2)] at z1
        exact ⟨z1, z2⟩
    refine List.mem_cons.mpr (Or.inr (List.mem_filter.mpr ⟨m_prs_mem.mpr ⟨w, h1, h2, fun z => (h6 z).1, h3⟩, ?_⟩))
    by_cases h7 : w.category = 2
    · have h8 : (q.1 + 1 == k) = false := by simpa using (h6 h7).2
      simp [h4, h8]
    · have h8 : (q.2.category == 2) = false := by rw [h3, m_cv_cat]; simpa using h7
      simp [h4, h8]
theorem m_LR.set2 {b : Nat} {ad : Nat → Nat} {lsA : Array Slot} {nL k : Nat} {ls : List Value} {v : Value} (h : m_LR b ad lsA nL ls) (hn : v ≠ .null) {ls' : Array Slot} (h' : lv_has ls' nL ((k, m_cv b ad v) :: (m_prs b ad ls).filter (fun q => !(q.1 == k) && (!(q.1 == k + 1) && !(q.1 + 1 == k && q.2.category == 2))))) : m_LR b ad ls' nL ((ls.set k v).set (k + 1) .null) := by
  refine ⟨by rw [List.length_set, List.length_set]; exact h.1, h'.1, h'.2.1, fun q hq => ?_⟩
  obtain ⟨w, h1, h2, h5, h3⟩ := m_prs_mem.mp hq
  refine h'.2.2 q ?_
  have h9 : ¬ q.1 = k + 1 := by
    intro e
    have hl := m_set_lt h1
    rw [e] at hl
    rw [e, List.getElem?_set_self hl] at h1
    cases h1
    exact h2 rfl
  rw [List.getElem?_set_ne (Ne.symm h9)] at h1
  by_cases hk : q.1 = k
  · have hl := m_set_lt h1
    rw [hk] at hl
    rw [hk, List.getElem?_set_self hl] at h1
    cases h1
    exact List.mem_cons.mpr (Or.inl (Prod.ext hk h3))
  · rw [List.getElem?_set_ne (Ne.symm hk)] at h1
    have h4 : (q.1 == k) = false := by simpa using hk
    have h10 : (q.1 == k + 1) = false := by simpa using h9
    have h6 : w.category = 2 → ls[q.1 + 1]? = some .null ∧ ¬ q.1 + 1 = k := fun z => by
      have z1 := h5 z
      rw [List.getElem?_set_ne (fun e => hk (by omega))] at z1
      by_cases z2 : q.1 + 1 = k
      · have hl := m_set_lt z1
        rw [z2] at hl z1
        rw [List.getElem?_set_self hl] at z1
        exact absurd (Option.some.inj z1) hn
      · rw [List.getElem?_set_ne (Ne.symm z2)] at z1
        exact ⟨z1, z2⟩
    refine List.mem_cons.mpr (Or.inr (List.mem_filter.mpr ⟨m_prs_mem.mpr ⟨w, h1, h2, fun z => (h6 z).1, h3⟩, ?_⟩))
    by_cases h7 : w.category = 2
    · have h8 : (q.1 + 1 == k) = false := by simpa using (h6 h7).2
      simp [h4, h10, h8]
    · have h8 : (q.2.category == 2) = false := by rw [h3, m_cv_cat]; simpa using h7
      simp [h4, h10, h8]
/-! the entry's locals -/
theorem m_entL_len (b : Nat) (ad : Nat → Nat) : ∀ as : List Value, (lg_sl (as.map (m_cv b ad))).length = (m_entL as).length
  | [] => rfl
  | v :: vs => by
    have ih := m_entL_len b ad vs
    rw [List.map_cons]
    unfold lg_sl at ih ⊢
    rw [List.flatMap_cons, List.length_append, ih]
    simp only [m_cv_cat, m_entL]
    by_cases h : v.category = 2
    · simp [h]; omega
    · simp [h]; omega
theorem m_args_mem (b : Nat) (ad : Nat → Nat) : ∀ (as : List Value) (i k : Nat) (v : Value), (m_entL as)[k]? = some v → v ≠ .null → (i + k, m_cv b ad v) ∈ lv_args i (as.map (m_cv b ad))
  | [], i, k, v, h, _ => by simp [m_entL] at h
  | a :: as, i, k, v, h, hv => by
    rw [List.map_cons, lv_args]
    simp only [m_cv_cat]
    unfold m_entL at h
    by_cases hc : a.category = 2
    · rw [if_pos hc] at h
      rw [if_pos hc]
      match k, h with
      | 0, h =>
        simp at h
        subst h
        exact List.mem_cons.mpr (Or.inl rfl)
      | 1, h =>
        simp at h
        exact absurd h.symm hv
      | k + 2, h =>
        simp at h
        have h1 := m_args_mem b ad as (i + 2) k v h hv
        rw [show i + 2 + k = i + (k + 2) by omega] at h1
        exact List.mem_cons_of_mem _ h1
    · rw [if_neg hc] at h
      rw [if_neg hc]
      match k, h with
      | 0, h =>
        simp at h
        subst h
        exact List.mem_cons.mpr (Or.inl rfl)
      | k + 1, h =>
        simp at h
        have h1 := m_args_mem b ad as (i + 1) k v h hv
        rw [show i + 1 + k = i + (k + 1) by omega] at h1
        exact List.mem_cons_of_mem _ h1
theorem m_LR_entry {b : Nat} {ad : Nat → Nat} {as : List Value} {n : Nat} {lsA : Array Slot} (hn : (m_entL as).length ≤ n) (h : lv_has lsA n (lv_args 0 (as.map (m_cv b ad)))) : m_LR b ad lsA n (m_ent as n) := by
  refine ⟨by unfold m_ent; rw [List.length_append, List.length_replicate]; omega, h.1, h.2.1, fun q hq => ?_⟩
  obtain ⟨v, h1, h2, -, h3⟩ := m_prs_mem.mp hq
  unfold m_ent at h1
  have hl : q.1 < (m_entL as).length := by
    refine Nat.not_le.mp fun hge => ?_
    rw [List.getElem?_append_right hge] at h1
    exact h2 (List.eq_of_mem_replicate (List.mem_of_getElem? h1))
  rw [List.getElem?_append_left hl] at h1
  have h4 := m_args_mem b ad as 0 q.1 v h1 h2
  rw [Nat.zero_add, ← h3] at h4
  exact h.2.2 q h4
theorem m_ent_ok {n k : Nat} : ∀ {as : List Value}, (∀ v ∈ as, m_ok n v) → ∀ v ∈ m_ent as k, m_ok n v := by
  have key : ∀ (as : List Value), (∀ v ∈ as, m_ok n v) → ∀ v ∈ m_entL as, m_ok n v := by
    intro as
    induction as with
    | nil => intro _ v h; cases h
    | cons a as ih =>
      intro h v hv
      unfold m_entL at hv
      have ha := h a List.mem_cons_self
      have has := ih fun w hw => h w (List.mem_cons_of_mem _ hw)
      by_cases hc : a.category = 2
      · rw [if_pos hc] at hv
        rcases List.mem_cons.mp hv with e | hv
        · exact e ▸ ha
        · rcases List.mem_cons.mp hv with e | hv
          · exact e ▸ trivial
          · exact has v hv
      · rw [if_neg hc] at hv
        rcases List.mem_cons.mp hv with e | hv
        · exact e ▸ ha
        · exact has v hv
  intro as h v hv
  unfold m_ent at hv
  rcases List.mem_append.mp hv with hv | hv
  · exact key as h v hv
  · rw [List.eq_of_mem_replicate hv]; trivial
/-! the machine around a walk: all that stays the same within one method's frame -/
abbrev m_X : Type := Launch × Program × Env × Room × State × MethodId × Array Value × List Frame × Method × Code × va_G × ClassId × (Nat → Prop) × Nat × (State → Prop)
abbrev x_l (X : m_X) : Launch := X.1
abbrev x_p (X : m_X) : Program := X.2.1
abbrev x_e (X : m_X) : Env := X.2.2.1
abbrev x_R (X : m_X) : Room := X.2.2.2.1
abbrev x_s (X : m_X) : State := X.2.2.2.2.1
abbrev x_m (X : m_X) : MethodId := X.2.2.2.2.2.1
abbrev x_args (X : m_X) : Array Value := X.2.2.2.2.2.2.1
abbrev x_below (X : m_X) : List Frame := X.2.2.2.2.2.2.2.1
abbrev x_meth (X : m_X) : Method := X.2.2.2.2.2.2.2.2.1
abbrev x_c (X : m_X) : Code := X.2.2.2.2.2.2.2.2.2.1
abbrev x_D (X : m_X) : va_G := X.2.2.2.2.2.2.2.2.2.2.1
abbrev x_cA (X : m_X) : ClassId := X.2.2.2.2.2.2.2.2.2.2.2.1
abbrev x_A (X : m_X) : Nat → Prop := X.2.2.2.2.2.2.2.2.2.2.2.2.1
abbrev x_b (X : m_X) : Nat := X.2.2.2.2.2.2.2.2.2.2.2.2.2.1
abbrev x_Q (X : m_X) : State → Prop := X.2.2.2.2.2.2.2.2.2.2.2.2.2.2
abbrev m_W (X : m_X) (H : Heap) (locs : List Loc) (cells slots pc : Nat) (lsA : Array Slot) (st : List Value) : Prop := W (x_p X) (x_l X) (x_e X) (x_R X) (x_s X) (x_m X) (x_args X) (x_below X) (x_meth X) (x_c X) H locs cells slots (x_Q X) (F0 (x_m X) pc lsA st)
def m_CX (L : Nat) (xs : Nat → Int32) (m : Nat) (X : m_X) : Prop :=
  (x_p X).tables.exec = Jvm.exec ∧ (x_c X).code = mcc m ∧ (x_c X).maxLocals = mml m ∧ (x_s X).vm.findClass (mY m).cls = some (x_m X).cls ∧ (∀ w ∈ lw_gd, w.before (x_args X) (x_s X) = true) ∧ va_K (x_D X) vwCl [(x_cA X, .int)] (x_s X) ∧ (∀ q, (x_s X).heap.size ≤ q → x_A X q) ∧ mfr m ≤ (x_R X).frames ∧ mlo m ≤ (x_R X).locals ∧ (x_meth X).name = (mY m).name ∧ (x_meth X).sig.returnType = mret m ∧ (x_meth X).locks = false ∧ va_X (x_b X) L xs (x_s X) (x_s X).heap ∧ x_b X < (x_s X).heap.size ∧ ¬ x_A X (x_b X)
def m_RL (X : m_X) (ad : Nat → Nat) (M : mM) (H : Heap) (locs : List Loc) : Prop :=
  va_P (x_D X) vwCl (m_ws (x_b X) ad (x_cA X) M) H ∧ va_D (x_A X) (m_ws (x_b X) ad (x_cA X) M) ∧ va_S (x_A X) (x_s X).heap H locs
def m_J (X : m_X) (m n0 z0 : Nat) (ad0 : Nat → Nat) (pc : Nat) (ls st : List Value) (M : mM) : Prop :=
  ∀ (H : Heap) (lsA : Array Slot) (ad : Nat → Nat) (locs : List Loc) (cells slots : Nat), (∀ k, k < n0 → ad k = ad0 k) → cells + n0 = M.length → slots + z0 = m_sz M → m_RL X ad M H locs → m_LR (x_b X) ad lsA (mml m) ls → m_W X H locs cells slots pc lsA (st.map (m_cv (x_b X) ad))
def m_wsm (m : Nat) : List Cond := Cond.code (mY m) (mcc m) (mml m) (mret m) :: lw_gd
def m_rm (m mc ms : Nat) : Room := { frames := mfr m, cells := mc, slots := ms, locals := mlo m }
def m_retOk (m pc : Nat) (v : Option Value) (st : List Value) : Prop :=
  st = v.toList ∧ ((∃ x, v = some (.int x) ∧ decode (mcc m) pc = .ok (.ireturn, 1) ∧ (mret m = some .int ∨ (mret m = some .boolean ∧ (x = 0 ∨ x = 1)))) ∨ (v = none ∧ decode (mcc m) pc = .ok (.return_, 1) ∧ mret m = none))
/-- a call's place: the caller's stack; and, where the callee meets a contract, the machine makes the call -/
def m_callOk (L : Nat) (xs : Nat → Int32) (m pc m' : Nat) (as : List Value) (pc' : Nat) (ls' st' ls st : List Value) (M : mM) : Prop :=
  pc' = pc + 3 ∧ ls' = ls ∧ st = as.reverse ++ st' ∧ (m_entL as).length ≤ mml m' ∧ plainName (mY m').cls = true ∧
  ∀ (X : m_X), m_CX L xs m X → ∀ (H : Heap) (lsA : Array Slot) (ad : Nat → Nat) (locs : List Loc) (cells slots : Nat), m_RL X ad M H locs → m_LR (x_b X) ad lsA (mml m) ls →
    ∀ (Pc : Array Value → State → Prop) (Qc : Array Value → State → Outcome → State → Prop) (mc ms : Nat) (free : Addr → Prop), Met (x_l X) (mY m') (m_wsm m') (m_rm m' mc ms) Pc Qc mc ms free → FrameBlind Pc →
      (∀ U : State, U.heap = H → (x_s X).WarmedH U.vm → Pc (as.map (m_cv (x_b X) ad)).toArray U) → cells + mc ≤ (x_R X).cells → slots + ms ≤ (x_R X).slots →
      va_Run (x_p X) (x_l X) (x_e X) (x_R X) (x_s X) (x_m X) (x_args X) (x_below X) (x_meth X) (x_c X) H locs cells slots mc ms (F0 (x_m X) pc lsA (st.map (m_cv (x_b X) ad))) (st'.map (m_cv (x_b X) ad)) (Qc (as.map (m_cv (x_b X) ad)).toArray) free
/-- what is asked of an action at a place of a method's code -/
def m_Ok (L : Nat) (xs : Nat → Int32) (m pc : Nat) (a : mA) : Prop := ∀ (ls st : List Value) (M : mM), m_okV M ls → m_okV M st → m_okM M →
  match a ls st M with
  | none => True
  | some (.inl (pc', ls', st', M')) => (m_okV M' ls' ∧ m_okV M' st' ∧ m_okM M' ∧ M.length ≤ M'.length ∧ m_sz M ≤ m_sz M') ∧
      ∀ (X : m_X), m_CX L xs m X → ∀ (n0 z0 : Nat) (ad0 : Nat → Nat), n0 ≤ M.length → M'.length ≤ n0 + (x_R X).cells → m_sz M' ≤ z0 + (x_R X).slots → m_J X m n0 z0 ad0 pc' ls' st' M' → m_J X m n0 z0 ad0 pc ls st M
  | some (.inr (.inl (m', as, pc', ls', st'))) => m_callOk L xs m pc m' as pc' ls' st' ls st M
  | some (.inr (.inr v)) => m_retOk m pc v st
theorem m_Ok_none {L : Nat} {xs : Nat → Int32} {m pc : Nat} : m_Ok L xs m pc (fun _ _ _ => none) := fun _ _ _ _ _ _ => trivial
/-- what the callee's contract says -/
def m_Pcx (L : Nat) (xs : Nat → Int32) (X : m_X) (ad : Nat → Nat) (as : List Value) (M : mM) (sz : Nat) : Array Value → State → Prop := fun v U =>
  v = (as.map (m_cv (x_b X) ad)).toArray ∧ U.heap.size = sz ∧ va_P (x_D X) vwCl (m_ws (x_b X) ad (x_cA X) M) U.heap ∧ va_K (x_D X) vwCl [(x_cA X, .int)] U ∧ va_D (fun _ => True) (m_ws (x_b X) ad (x_cA X) M) ∧ va_X (x_b X) L xs U U.heap
def m_Qcx (X : m_X) (ad : Nat → Nat) (M M1 : mM) (v : Option Value) (A : Nat → Prop) : Array Value → State → Outcome → State → Prop := fun _ st oc t =>
  (∃ u : Nat → Nat, (∀ k, k < M.length → u k = ad k) ∧ oc = .returned (v.map (m_cv (x_b X) u)) ∧ va_P (x_D X) vwCl (m_ws (x_b X) u (x_cA X) M1) t.heap ∧ va_D A (m_ws (x_b X) u (x_cA X) M1)) ∧ va_F A st t
theorem m_blind (L : Nat) (xs : Nat → Int32) (X : m_X) (ad : Nat → Nat) (as : List Value) (M : mM) (sz : Nat) : FrameBlind (m_Pcx L xs X ad as M sz) := fun a U g mk q => by
  obtain ⟨q0, q1, qP, qK, qD, qX⟩ := q
  exact ⟨q0, q1, qP, va_K.moved (u := U) (U := U.calling g mk a) (Vm.Alike.refl U.vm) qK, qD, va_X.moved (u := U) (U := U.calling g mk a) (Vm.Alike.refl U.vm) qX⟩
/-- m_run has a sound end: nothing shrinks, references point to cells -/
def m_Fine (M : mM) (v : Option Value) (M' : mM) : Prop := m_okV M' v.toList ∧ m_okM M' ∧ M.length ≤ M'.length ∧ m_sz M ≤ m_sz M'
theorem m_fine {L : Nat} {xs : Nat → Int32} {act : Nat → Nat → mA} (hok : ∀ m pc, m_Ok L xs m pc (act m pc)) : ∀ (n m pc : Nat) (ls st : List Value) (M : mM) (v : Option Value) (M' : mM), m_run act n m pc ls st M = some (v, M') → m_okV M ls → m_okV M st → m_okM M → m_Fine M v M'
  | 0, _, _, _, _, _, _, _, h, _, _, _ => by simp [m_run] at h
  | n + 1, m, pc, ls, st, M, v, M', h, h1, h2, h3 => by
    have ok := hok m pc ls st M h1 h2 h3
    unfold m_run at h
    cases ha : act m pc ls st M with
    | none => rw [ha] at h; simp at h
    | some r =>
      rw [ha] at h ok
      match r, h, ok with
      | .inl (pc', ls', st', M1), h, ok =>
        simp only at h ok
        obtain ⟨⟨g1, g2, g3, g4, g5⟩, -⟩ := ok
        obtain ⟨f1, f2, f3, f4⟩ := m_fine hok n m pc' ls' st' M1 v M' h g1 g2 g3
        exact ⟨f1, f2, Nat.le_trans g4 f3, Nat.le_trans g5 f4⟩
      | .inr (.inl (m', as, pc', ls', st')), h, ok =>
        simp only at h ok
        obtain ⟨-, e2, e3, -⟩ := ok
        subst e2
        have has : m_okV M as := fun w hw => h2 w (by rw [e3]; exact List.mem_append_left _ (List.mem_reverse.mpr hw))
        have hst : m_okV M st' := fun w hw => h2 w (by rw [e3]; exact List.mem_append_right _ hw)
        cases hr : m_run act n m' 0 (m_ent as (mml m')) [] M with
        | none => rw [hr] at h; simp at h
        | some q =>
          obtain ⟨v1, M1⟩ := q
          rw [hr] at h
          simp only at h
          obtain ⟨f1, f2, f3, f4⟩ := m_fine hok n m' 0 _ [] M v1 M1 hr (m_ent_ok has) (fun w hw => by cases hw) h3
          have hst2 : m_okV M1 (v1.toList ++ st') := fun w hw => by
            rcases List.mem_append.mp hw with hw | hw
            · exact f1 w hw
            · exact (hst w hw).mono f3
          obtain ⟨g1, g2, g3, g4⟩ := m_fine hok n m pc' ls' _ M1 v M' h (h1.mono f3) hst2 f2
          exact ⟨g1, g2, Nat.le_trans f3 g3, Nat.le_trans f4 g4⟩
      | .inr (.inr w), h, ok =>
        simp only at h ok
        cases h
        exact ⟨fun z hz => h2 z (by rw [ok.1]; exact hz), h3, Nat.le_refl _, Nat.le_refl _⟩
set_option maxHeartbeats 4000000 in
/-- the callee's contract, out of the walk from its entry -/
theorem m_met {L : Nat} {xs : Nat → Int32} {m' : Nat} {X : m_X} {as : List Value} {M M1 : mM} {v1 : Option Value} (ad : Nat → Nat) (sz : Nat) (hbl : x_b X < sz) (hbA : ¬ va_A (m_ws (x_b X) ad (x_cA X) M) sz (x_b X)) (hpl : plainName (mY m').cls = true) (hlen : (m_entL as).length ≤ mml m') (hle : M.length ≤ M1.length) (hlz : m_sz M ≤ m_sz M1)
    (ih : ∀ (Z : m_X), m_CX L xs m' Z → M1.length ≤ M.length + (x_R Z).cells → m_sz M1 ≤ m_sz M + (x_R Z).slots → (∀ pcr lsr, m_retOk m' pcr v1 v1.toList → m_J Z m' M.length (m_sz M) ad pcr lsr v1.toList M1) → m_J Z m' M.length (m_sz M) ad 0 (m_ent as (mml m')) [] M) :
    Met (x_l X) (mY m') (m_wsm m') (m_rm m' (M1.length - M.length) (m_sz M1 - m_sz M)) (m_Pcx L xs X ad as M sz) (m_Qcx X ad M M1 v1 (va_A (m_ws (x_b X) ad (x_cA X) M) sz)) (M1.length - M.length) (m_sz M1 - m_sz M) (va_A (m_ws (x_b X) ad (x_cA X) M) sz) := by
  refine Met.ofW (cc := mcc m') (maxL := mml m') (ret := mret m') hpl rfl ?_
  intro p e s m args below meth c s₁ B hml hPc
  obtain ⟨rfl, hsz, hP, hK, hD, hXs⟩ := hPc
  subst hsz
  have hl := lv_entry (as.map (m_cv (x_b X) ad)) (n := mml m') (by rw [m_entL_len]; exact hlen)
  rw [lg_entry_eq]
  generalize (lg_sl (as.map (m_cv (x_b X) ad)) ++ List.replicate (mml m' - (lg_sl (as.map (m_cv (x_b X) ad))).length) Slot.unset).toArray = lsA at hl ⊢
  have hts := atoms_spec (ws := m_wsm m') B.pre
  have hJ := ih (x_l X, p, e, (headSpec (m_wsm m') (m_rm m' (M1.length - M.length) (m_sz M1 - m_sz M))).room, s, m, (as.map (m_cv (x_b X) ad)).toArray, below, meth, c, x_D X, x_cA X, va_A (m_ws (x_b X) ad (x_cA X) M) s.heap.size, x_b X, MQ below (m_Qcx X ad M M1 v1 (va_A (m_ws (x_b X) ad (x_cA X) M) s.heap.size)) (as.map (m_cv (x_b X) ad)).toArray s (M1.length - M.length) (m_sz M1 - m_sz M) (va_A (m_ws (x_b X) ad (x_cA X) M) s.heap.size))
    ⟨B.exec, B.bytes, hml, findClass_of_methodNamed B.named, fun w hw => hts w (List.mem_cons_of_mem _ hw), hK, fun q hq => Or.inr hq, Nat.le_refl _, Nat.le_refl _, (name_of_methodNamed B.named B.method).1, B.returns, B.notSynchronized, hXs, hbl, hbA⟩
    (by show M1.length ≤ M.length + (M1.length - M.length); omega) (by show m_sz M1 ≤ m_sz M + (m_sz M1 - m_sz M); omega) ?_
  · exact hJ s.heap lsA ad [] 0 0 (fun _ _ => rfl) (Nat.zero_add _) (Nat.zero_add _) ⟨hP, hD.self, va_S.rf⟩ (m_LR_entry hlen hl)
  · intro pcr lsr hret H lsB ad2 locs cells slots had hc hz hRL hLR
    obtain ⟨hP2, hD2, hS2⟩ := hRL
    have e1 : cells = M1.length - M.length := by omega
    have e2 : slots = m_sz M1 - m_sz M := by omega
    subst e1; subst e2
    have hq : ∀ t : State, t.heap = H → s.WarmedH t.vm → m_Qcx X ad M M1 v1 (va_A (m_ws (x_b X) ad (x_cA X) M) s.heap.size) (as.map (m_cv (x_b X) ad)).toArray s (.returned (v1.map (m_cv (x_b X) ad2))) t := fun t ht hW =>
      ⟨⟨ad2, had, rfl, by rw [ht]; exact hP2, hD2⟩, hS2.F ht⟩
    rcases hret.2 with ⟨x, rfl, hd, hr⟩ | ⟨rfl, hd, hr⟩
    · rcases hr with hr | ⟨hr, hx⟩
      · exact W.iret B.exec B.bytes (B.returns.trans hr) hq hS2.2.2 hd B.notSynchronized
      · exact W.zret (ty := .boolean) B.exec B.bytes (B.returns.trans hr) (by rcases hx with rfl | rfl <;> rfl) hq hS2.2.2 hd B.notSynchronized
    · exact W.vret B.exec B.bytes (B.returns.trans hr) hq hS2.2.2 hd B.notSynchronized
set_option maxHeartbeats 4000000 in
/-- WHAT m_run DOES, THE MACHINE DOES -/
theorem m_sound {L : Nat} {xs : Nat → Int32} {act : Nat → Nat → mA} (hok : ∀ m pc, m_Ok L xs m pc (act m pc)) : ∀ (n m pc : Nat) (ls st : List Value) (M : mM) (v : Option Value) (M' : mM), m_run act n m pc ls st M = some (v, M') → m_okV M ls → m_okV M st → m_okM M →
    ∀ (X : m_X), m_CX L xs m X → ∀ (n0 z0 : Nat) (ad0 : Nat → Nat), n0 ≤ M.length → M'.length ≤ n0 + (x_R X).cells → m_sz M' ≤ z0 + (x_R X).slots → (∀ pcr lsr, m_retOk m pcr v v.toList → m_J X m n0 z0 ad0 pcr lsr v.toList M') → m_J X m n0 z0 ad0 pc ls st M
  | 0, _, _, _, _, _, _, _, h, _, _, _ => by simp [m_run] at h
  | n + 1, m, pc, ls, st, M, v, M', h, h1, h2, h3 => by
    intro X hX n0 z0 ad0 hn0 hcl hsl hret
    have ok := hok m pc ls st M h1 h2 h3
    unfold m_run at h
    cases ha : act m pc ls st M with
    | none => rw [ha] at h; simp at h
    | some r =>
      rw [ha] at h ok
      match r, h, ok with
      | .inl (pc', ls', st', M1), h, ok =>
        simp only at h ok
        obtain ⟨⟨g1, g2, g3, g4, g5⟩, hstep⟩ := ok
        obtain ⟨f1, f2, f3, f4⟩ := m_fine hok n m pc' ls' st' M1 v M' h g1 g2 g3
        exact hstep X hX n0 z0 ad0 hn0 (Nat.le_trans f3 hcl) (Nat.le_trans f4 hsl) (m_sound hok n m pc' ls' st' M1 v M' h g1 g2 g3 X hX n0 z0 ad0 (Nat.le_trans hn0 g4) hcl hsl hret)
      | .inr (.inr w), h, ok =>
        simp only at h ok
        cases h
        have e := ok.1
        subst e
        exact hret pc ls ok
      | .inr (.inl (m', as, pc', ls', st')), h, ok =>
        simp only at h ok
        obtain ⟨e1, e2, e3, hlen, hpl, hrun⟩ := ok
        subst e2
        have has : m_okV M as := fun w hw => h2 w (by rw [e3]; exact List.mem_append_left _ (List.mem_reverse.mpr hw))
        have hst : m_okV M st' := fun w hw => h2 w (by rw [e3]; exact List.mem_append_right _ hw)
        cases hr : m_run act n m' 0 (m_ent as (mml m')) [] M with
        | none => rw [hr] at h; simp at h
        | some q =>
          obtain ⟨v1, M1⟩ := q
          rw [hr] at h
          simp only at h
          obtain ⟨f1, f2, f3, f4⟩ := m_fine hok n m' 0 _ [] M v1 M1 hr (m_ent_ok has) (fun w hw => by cases hw) h3
          have hst2 : m_okV M1 (v1.toList ++ st') := fun w hw => by
            rcases List.mem_append.mp hw with hw | hw
            · exact f1 w hw
            · exact (hst w hw).mono f3
          obtain ⟨g1, g2, g3, g4⟩ := m_fine hok n m pc' ls' _ M1 v M' h (h1.mono f3) hst2 f2
          have hJ2 := m_sound hok n m pc' ls' (v1.toList ++ st') M1 v M' h (h1.mono f3) hst2 f2 X hX n0 z0 ad0 (Nat.le_trans hn0 f3) hcl hsl hret
          intro H lsA ad locs cells slots had hc hz hRL hLR
          obtain ⟨hP, hD, hS⟩ := id hRL
          obtain ⟨-, -, -, -, -, hK, hA, -, -, -, -, -, hXs, hbl, hbA⟩ := id hX
          have hAA : ∀ q, va_A (m_ws (x_b X) ad (x_cA X) M) H.size q → x_A X q := by
            rintro q (⟨k, w, hk⟩ | hq)
            · exact hD.2 k _ hk
            · exact hA q (Nat.le_trans hS.1 hq)
          have hMet := m_met (L := L) (xs := xs) (X := X) (v1 := v1) (as := as) ad H.size (Nat.lt_of_lt_of_le hbl hS.1) (fun z => hbA (hAA _ z)) hpl hlen f3 f4 (fun Z hZ hz1 hz2 hz3 => m_sound hok n m' 0 _ [] M v1 M1 hr (m_ent_ok has) (fun w hw => by cases hw) h3 Z hZ M.length (m_sz M) ad (Nat.le_refl _) hz1 hz2 hz3)
          have hR := hrun X hX H lsA ad locs cells slots hRL hLR _ _ _ _ _ hMet (m_blind L xs X ad as M H.size) (fun U hU hW => ⟨rfl, by rw [hU], by rw [hU]; exact hP, va_K.moved hW.alike hK, hD.weaken (fun _ _ _ _ => trivial), by rw [hU]; exact (hXs.moved hW.alike).kept (hS.2.1 _ hbl hbA)⟩) (by omega) (by omega)
          intro T hT XT
          obtain ⟨w, st₀, t, T', Lc, h0, X', hL, k1, k2, ⟨⟨u, hu, hv, hP1, hD1⟩, hF⟩, hgo⟩ := hR T hT XT
          cases hv
          have hH : H.size ≤ T'.heap.size := by rw [k1, ← h0]; exact hF.1
          have hS1 : va_S (x_A X) (x_s X).heap T'.heap (locs ++ Lc) := ⟨Nat.le_trans hS.1 hH, fun q z1 z2 => by
              have z3 := hF.2 q (by rw [h0]; exact Nat.lt_of_lt_of_le z1 hS.1) (fun z => z2 (hAA q z))
              rw [k1, z3, h0]
              exact hS.2.1 q z1 z2, fun q hq => by
              rcases List.mem_append.mp hq with z | z
              · exact hS.2.2 q z
              · exact hAA _ (hL q z)⟩
          have hW := hJ2 T'.heap lsA u (locs ++ Lc) (cells + (M1.length - M.length)) (slots + (m_sz M1 - m_sz M)) (fun k hk => (hu k (Nat.lt_of_lt_of_le hk hn0)).trans (had k hk)) (by omega) (by omega) ⟨by rw [k1]; exact hP1, hD1.weaken (fun _ q _ z => hAA q.1 z), hS1⟩ (hLR.congr hu h1)
          obtain ⟨t2, a1, b1⟩ := hW T' rfl X'
          refine ⟨t2, hgo t2 ?_, b1⟩
          have e5 : (v1.map (m_cv (x_b X) u)).toList ++ st'.map (m_cv (x_b X) ad) = (v1.toList ++ st').map (m_cv (x_b X) u) := by
            rw [List.map_append, m_cv_map (vs := st') hu hst]
            cases v1 <;> rfl
          rw [e5, ← e1]
          exact a1
