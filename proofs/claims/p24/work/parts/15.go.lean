/-! RUNS: go S m pc ls st M K says that the small machine, from there, comes to its method's end, and K holds there; it is rewritten instruction by instruction -/
abbrev mS : Type := Nat × (Nat → Int32)
def go (S : mS) (m pc : Nat) (ls st : List Value) (M : mM) (K : Option Value → mM → Prop) : Prop := ∃ n v M', m_run (act S.1 S.2) n m pc ls st M = some (v, M') ∧ K v M'
theorem m_run_up (f : Nat → Nat → mA) : ∀ (n m pc : Nat) (ls st : List Value) (M : mM) (r : Option Value × mM), m_run f n m pc ls st M = some r → m_run f (n + 1) m pc ls st M = some r
  | 0, _, _, _, _, _, _, h => by simp [m_run] at h
  | n + 1, m, pc, ls, st, M, r, h => by
    unfold m_run at h ⊢
    cases ha : f m pc ls st M with
    | none => rw [ha] at h; cases h
    | some z =>
      rw [ha] at h
      match z, h with
      | .inl (pc', ls', st', M'), h => exact m_run_up f n m pc' ls' st' M' r h
      | .inr (.inr v), h => exact h
      | .inr (.inl (m', as, pc', ls', st')), h =>
        simp only at h ⊢
        cases hc : m_run f n m' 0 (m_ent as (mml m')) [] M with
        | none => rw [hc] at h; cases h
        | some q =>
          obtain ⟨v, M1⟩ := q
          rw [hc] at h
          rw [m_run_up f n m' 0 _ [] M (v, M1) hc]
          exact m_run_up f n m pc' ls' _ M1 r h
theorem m_run_add (f : Nat → Nat → mA) (k : Nat) {n m pc : Nat} {ls st : List Value} {M : mM} {r : Option Value × mM} (h : m_run f n m pc ls st M = some r) : m_run f (n + k) m pc ls st M = some r := by
  induction k with
  | zero => exact h
  | succ k ih => exact m_run_up f (n + k) m pc ls st M r ih
theorem m_run_one (f : Nat → Nat → mA) {n n' m pc : Nat} {ls st : List Value} {M : mM} {r r' : Option Value × mM} (h : m_run f n m pc ls st M = some r) (h' : m_run f n' m pc ls st M = some r') : r = r' := by
  have h1 := m_run_add f n' h
  have h2 := m_run_add f n h'
  rw [Nat.add_comm n' n, h1] at h2
  exact Option.some.inj h2
section GO
variable {S : mS} {m pc : Nat} {ls st : List Value} {M : mM} {K : Option Value → mM → Prop}
theorem go_nx {pc' : Nat} {ls' st' : List Value} {M' : mM} (h : act S.1 S.2 m pc ls st M = some (.inl (pc', ls', st', M'))) : go S m pc ls st M K = go S m pc' ls' st' M' K := by
  apply propext
  constructor
  · rintro ⟨n, v, M2, h1, h2⟩
    cases n with
    | zero => simp [m_run] at h1
    | succ n =>
      unfold m_run at h1
      rw [h] at h1
      exact ⟨n, v, M2, h1, h2⟩
  · rintro ⟨n, v, M2, h1, h2⟩
    refine ⟨n + 1, v, M2, ?_, h2⟩
    unfold m_run
    rw [h]
    exact h1
theorem go_rt {v : Option Value} (h : act S.1 S.2 m pc ls st M = some (.inr (.inr v))) : go S m pc ls st M K = K v M := by
  apply propext
  constructor
  · rintro ⟨n, w, M2, h1, h2⟩
    cases n with
    | zero => simp [m_run] at h1
    | succ n =>
      unfold m_run at h1
      rw [h] at h1
      cases h1
      exact h2
  · intro h2
    refine ⟨1, v, M, ?_, h2⟩
    unfold m_run
    rw [h]
theorem go_no (h : act S.1 S.2 m pc ls st M = none) : go S m pc ls st M K = False := by
  apply propext
  constructor
  · rintro ⟨n, w, M2, h1, h2⟩
    cases n with
    | zero => simp [m_run] at h1
    | succ n =>
      unfold m_run at h1
      rw [h] at h1
      cases h1
  · exact False.elim
def m_pv (v : Option Value) (st : List Value) (f : List Value → Prop) : Prop := match v with
  | some w => f (w :: st)
  | none => f st
theorem m_pv_none (st : List Value) (f : List Value → Prop) : m_pv none st f = f st := rfl
theorem m_pv_some (w : Value) (st : List Value) (f : List Value → Prop) : m_pv (some w) st f = f (w :: st) := rfl
theorem go_cl {m' pc' : Nat} {as ls' st' : List Value} (h : act S.1 S.2 m pc ls st M = some (.inr (.inl (m', as, pc', ls', st')))) : go S m pc ls st M K = go S m' 0 (m_ent as (mml m')) [] M (fun v M1 => m_pv v st' fun st2 => go S m pc' ls' st2 M1 K) := by
  apply propext
  constructor
  · rintro ⟨n, v, M2, h1, h2⟩
    cases n with
    | zero => simp [m_run] at h1
    | succ n =>
      unfold m_run at h1
      rw [h] at h1
      simp only at h1
      cases hc : m_run (act S.1 S.2) n m' 0 (m_ent as (mml m')) [] M with
      | none => rw [hc] at h1; cases h1
      | some q =>
        obtain ⟨w, M1⟩ := q
        rw [hc] at h1
        refine ⟨n, w, M1, hc, ?_⟩
        cases w with
        | none => exact ⟨n, v, M2, h1, h2⟩
        | some w => exact ⟨n, v, M2, h1, h2⟩
  · rintro ⟨n, w, M1, hc, h3⟩
    have h4 : go S m pc' ls' (w.toList ++ st') M1 K := by cases w <;> exact h3
    obtain ⟨n2, v, M2, h1, h2⟩ := h4
    refine ⟨n + n2 + 1, v, M2, ?_, h2⟩
    unfold m_run
    rw [h]
    simp only
    rw [m_run_add _ n2 hc]
    simp only
    rw [Nat.add_comm n n2]
    exact m_run_add _ n h1
/-- one end, one answer -/
theorem go_is {v : Option Value} {M' : mM} (h : go S m pc ls st M (fun w M1 => w = v ∧ M1 = M')) : go S m pc ls st M K = K v M' := by
  obtain ⟨n, w, M1, h1, rfl, rfl⟩ := h
  apply propext
  constructor
  · rintro ⟨n2, w2, M2, h2, h3⟩
    have e := m_run_one _ h1 h2
    cases e
    exact h3
  · intro h3
    exact ⟨n, w, M1, h1, h3⟩
theorem go_mono {K' : Option Value → mM → Prop} (h : go S m pc ls st M K) (hk : ∀ v M1, K v M1 → K' v M1) : go S m pc ls st M K' := by
  obtain ⟨n, v, M1, h1, h2⟩ := h
  exact ⟨n, v, M1, h1, hk v M1 h2⟩
def bnd {α : Type} (o : Option α) (f : α → Prop) : Prop := match o with
  | some a => f a
  | none => False
theorem bnd_some {α : Type} (a : α) (f : α → Prop) : bnd (some a) f = f a := rfl
theorem m_b01_0 : m_b01 0 = True := eq_true (Or.inl rfl)
theorem m_b01_1 : m_b01 1 = True := eq_true (Or.inr rfl)
variable {pc' k : Nat} {r : List Value}
theorem go_push {v : Value} (h : act S.1 S.2 m pc = a_push v pc') : go S m pc ls st M K = go S m pc' ls (v :: st) M K := go_nx (by rw [h]; rfl)
theorem go_load {q : Value → Bool} {v : Value} (h : act S.1 S.2 m pc = a_load q k pc') (hl : ls[k]? = some v) (hq : q v = true) : go S m pc ls st M K = go S m pc' ls (v :: st) M K := go_nx (by rw [h]; unfold a_load; rw [hl]; simp only [hq]; rfl)
theorem go_loadL {v : Int64} (h : act S.1 S.2 m pc = a_loadL k pc') (hl : ls[k]? = some (.long v)) (hq : ls[k + 1]? = some .null) : go S m pc ls st M K = go S m pc' ls (.long v :: st) M K := go_nx (by rw [h]; unfold a_loadL; rw [hl, hq])
theorem go_store {q : Value → Bool} {v : Value} (h : act S.1 S.2 m pc = a_store q k pc') (hq : q v = true) : go S m pc ls (v :: r) M K = go S m pc' (ls.set k v) r M K := go_nx (by rw [h]; unfold a_store; simp only [hq]; rfl)
theorem go_storeL {v : Int64} (h : act S.1 S.2 m pc = a_storeL k pc') : go S m pc ls (.long v :: r) M K = go S m pc' ((ls.set k (.long v)).set (k + 1) .null) r M K := go_nx (by rw [h]; rfl)
theorem go_iinc {x v : Int32} (h : act S.1 S.2 m pc = a_iinc k v pc') (hl : ls[k]? = some (.int x)) : go S m pc ls st M K = go S m pc' (ls.set k (.int (x + v))) st M K := go_nx (by rw [h]; unfold a_iinc; rw [hl])
theorem go_stk {f : List Value → Option (List Value)} {st' : List Value} (h : act S.1 S.2 m pc = a_stk f pc') (hf : f st = some st') : go S m pc ls st M K = go S m pc' ls st' M K := go_nx (by rw [h]; unfold a_stk; rw [hf])
theorem go_div {g : Int32 → Int32 → Int32} {x y : Int32} (h : act S.1 S.2 m pc = a_stk (f_iz g) pc') : go S m pc ls (.int y :: .int x :: r) M K = (¬ y = 0 ∧ go S m pc' ls (.int (g x y) :: r) M K) := by
  by_cases hy : y = 0
  · rw [go_no (by rw [h]; unfold a_stk f_iz; simp [hy])]
    simp [hy]
  · rw [go_nx (pc' := pc') (ls' := ls) (st' := .int (g x y) :: r) (M' := M) (by rw [h]; unfold a_stk f_iz; simp [hy])]
    simp [hy]
theorem go_if {c : Int32 → Bool} {P : Prop} [Decidable P] {t f : Nat} {x : Int32} (h : act S.1 S.2 m pc = a_if c t f) (hc : c x = decide P) : go S m pc ls (.int x :: r) M K = if P then go S m t ls r M K else go S m f ls r M K := by
  by_cases hP : P
  · rw [if_pos hP]
    exact go_nx (by rw [h]; unfold a_if; simp only [hc]; simp [hP])
  · rw [if_neg hP]
    exact go_nx (by rw [h]; unfold a_if; simp only [hc]; simp [hP])
theorem go_ic {c : Int32 → Int32 → Bool} {P : Prop} [Decidable P] {t f : Nat} {x y : Int32} (h : act S.1 S.2 m pc = a_ic c t f) (hc : c x y = decide P) : go S m pc ls (.int y :: .int x :: r) M K = if P then go S m t ls r M K else go S m f ls r M K := by
  by_cases hP : P
  · rw [if_pos hP]
    exact go_nx (by rw [h]; unfold a_ic; simp only [hc]; simp [hP])
  · rw [if_neg hP]
    exact go_nx (by rw [h]; unfold a_ic; simp only [hc]; simp [hP])
theorem go_ifN {c : Int32 → Bool} {P : Prop} [Decidable P] {t f : Nat} {x : Int32} (h : act S.1 S.2 m pc = a_if c t f) (hc : c x = !decide P) : go S m pc ls (.int x :: r) M K = if P then go S m f ls r M K else go S m t ls r M K := by
  by_cases hP : P
  · rw [if_pos hP]
    exact go_nx (by rw [h]; unfold a_if; simp only [hc]; simp [hP])
  · rw [if_neg hP]
    exact go_nx (by rw [h]; unfold a_if; simp only [hc]; simp [hP])
theorem go_icN {c : Int32 → Int32 → Bool} {P : Prop} [Decidable P] {t f : Nat} {x y : Int32} (h : act S.1 S.2 m pc = a_ic c t f) (hc : c x y = !decide P) : go S m pc ls (.int y :: .int x :: r) M K = if P then go S m f ls r M K else go S m t ls r M K := by
  by_cases hP : P
  · rw [if_pos hP]
    exact go_nx (by rw [h]; unfold a_ic; simp only [hc]; simp [hP])
  · rw [if_neg hP]
    exact go_nx (by rw [h]; unfold a_ic; simp only [hc]; simp [hP])
theorem go_goto {t : Nat} (h : act S.1 S.2 m pc = a_goto t) : go S m pc ls st M K = go S m t ls st M K := go_nx (by rw [h]; rfl)
theorem go_tsw {cs : List (Int32 × Nat)} {d : Nat} {x : Int32} (h : act S.1 S.2 m pc = a_tsw cs d) : go S m pc ls (.int x :: r) M K = go S m (m_swi cs d x) ls r M K := go_nx (by rw [h]; rfl)
theorem go_swi_cons {c : Int32} {t d : Nat} {cs : List (Int32 × Nat)} {x : Int32} : go S m (m_swi ((c, t) :: cs) d x) ls r M K = if x = c then go S m t ls r M K else go S m (m_swi cs d x) ls r M K := by
  show go S m (if x = c then t else m_swi cs d x) ls r M K = _
  split <;> rfl
theorem go_swi_nil {d : Nat} {x : Int32} : go S m (m_swi [] d x) ls r M K = go S m d ls r M K := rfl
theorem go_get {o ci : Nat} (h : act S.1 S.2 m pc = a_get ci k pc') : go S m pc ls (.ref o :: r) M K = bnd (m_fld M o ci k) fun v => go S m pc' ls (v :: r) M K := by
  cases hf : m_fld M o ci k with
  | none => exact go_no (by rw [h]; unfold a_get; simp only [hf])
  | some v => exact go_nx (by rw [h]; unfold a_get; simp only [hf])
theorem go_put {q : Value → Bool} {v : Value} {o ci : Nat} (h : act S.1 S.2 m pc = a_put q ci k pc') (hq : q v = true) : go S m pc ls (v :: .ref o :: r) M K = bnd (m_put M o ci k v) fun M' => go S m pc' ls r M' K := by
  cases hf : m_put M o ci k v with
  | none => exact go_no (by rw [h]; unfold a_put; simp only [hq, hf]; rfl)
  | some v => exact go_nx (by rw [h]; unfold a_put; simp only [hq, hf]; rfl)
theorem go_iald {i : Int32} {o : Nat} (h : act S.1 S.2 m pc = a_iald pc') : go S m pc ls (.int i :: .ref o :: r) M K = bnd (m_arr M o) fun a => m_inb i a.1 = true ∧ go S m pc' ls (.int (a.2 i.toNatClampNeg) :: r) M K := by
  cases hf : m_arr M o with
  | none => exact go_no (by rw [h]; unfold a_iald; simp only [hf])
  | some a =>
    cases hb : m_inb i a.1 with
    | false =>
      rw [go_no (by rw [h]; unfold a_iald; simp only [hf, hb]; rfl)]
      simp [bnd, hb]
    | true =>
      rw [go_nx (by rw [h]; unfold a_iald; simp only [hf, hb]; rfl)]
      simp [bnd, hb]
theorem go_iast {i x : Int32} {o : Nat} (h : act S.1 S.2 m pc = a_iast pc') : go S m pc ls (.int x :: .int i :: .ref o :: r) M K = bnd (m_arr M o) fun a => m_inb i a.1 = true ∧ go S m pc' ls r (M.set o (.inl (a.1, upd a.2 i.toNatClampNeg x))) K := by
  cases hM : M[o]? with
  | none =>
    rw [go_no (by rw [h]; unfold a_iast m_ast; simp only [hM])]
    simp [bnd, m_arr, hM]
  | some c =>
    cases c with
    | inr q =>
      rw [go_no (by rw [h]; unfold a_iast m_ast; simp only [hM])]
      simp [bnd, m_arr, hM]
    | inl a =>
      obtain ⟨n, f⟩ := a
      cases hb : m_inb i n with
      | false =>
        rw [go_no (by rw [h]; unfold a_iast m_ast; simp only [hM, hb]; rfl)]
        simp [bnd, m_arr, hM, hb]
      | true =>
        rw [go_nx (by rw [h]; unfold a_iast m_ast; simp only [hM, hb]; rfl)]
        simp [bnd, m_arr, hM, hb]
theorem go_alen {o : Nat} (h : act S.1 S.2 m pc = a_alen pc') : go S m pc ls (.ref o :: r) M K = bnd (m_arr M o) fun a => go S m pc' ls (.int (nI a.1) :: r) M K := by
  cases hf : m_arr M o with
  | none => exact go_no (by rw [h]; unfold a_alen; simp only [hf])
  | some a => exact go_nx (by rw [h]; unfold a_alen; simp only [hf])
theorem go_sld {i : Int32} {z : UInt32} (h : act S.1 S.2 m pc = a_sld S.1 S.2 pc') : go S m pc ls (.int i :: .float z :: r) M K = (m_inb i S.1 = true ∧ go S m pc' ls (.int (S.2 i.toNatClampNeg) :: r) M K) := by
  cases hb : m_inb i S.1 with
  | false =>
    rw [go_no (by rw [h]; unfold a_sld; simp only [hb]; rfl)]
    simp
  | true =>
    rw [go_nx (by rw [h]; unfold a_sld; simp only [hb]; rfl)]
    simp
theorem go_slen {z : UInt32} (h : act S.1 S.2 m pc = a_slen S.1 pc') : go S m pc ls (.float z :: r) M K = go S m pc' ls (.int (nI S.1) :: r) M K := go_nx (by rw [h]; rfl)
theorem go_new {ci : Nat} {fs : List Value} (h : act S.1 S.2 m pc = a_new ci fs pc') : go S m pc ls st M K = go S m pc' ls (.ref M.length :: st) (M ++ [.inr (ci, fs)]) K := go_nx (by rw [h]; rfl)
theorem go_newa {n : Int32} (h : act S.1 S.2 m pc = a_newa pc') : go S m pc ls (.int n :: r) M K = ((0 ≤ n ∧ n.toNatClampNeg ≤ 1000000) ∧ go S m pc' ls (.ref M.length :: r) (M ++ [.inl (n.toNatClampNeg, fun _ => 0)]) K) := by
  by_cases hn : 0 ≤ n ∧ n.toNatClampNeg ≤ 1000000
  · rw [go_nx (by rw [h]; unfold a_newa; simp only [hn.1, hn.2]; rfl)]
    simp [hn]
  · have hb : (decide (0 ≤ n) && decide (n.toNatClampNeg ≤ 1000000)) = false := by simpa using hn
    rw [go_no (by rw [h]; unfold a_newa; simp only [hb]; rfl)]
    simp [hn]
theorem go_retI {x : Int32} (h : act S.1 S.2 m pc = a_retI) : go S m pc ls [.int x] M K = K (some (.int x)) M := go_rt (by rw [h]; rfl)
theorem go_retZ {x : Int32} (h : act S.1 S.2 m pc = a_retZ) : go S m pc ls [.int x] M K = (m_b01 x ∧ K (some (.int x)) M) := by
  by_cases hx : m_b01 x
  · have hb : (decide (x = 0) || decide (x = 1)) = true := by simpa [m_b01] using hx
    rw [go_rt (by rw [h]; unfold a_retZ; simp only [hb]; rfl)]
    simp [hx]
  · have hb : (decide (x = 0) || decide (x = 1)) = false := by
      rw [← Bool.not_eq_true]
      simpa [m_b01] using hx
    rw [go_no (by rw [h]; unfold a_retZ; simp only [hb]; rfl)]
    simp [hx]
theorem go_retV (h : act S.1 S.2 m pc = a_retV) : go S m pc ls [] M K = K none M := go_rt (by rw [h]; rfl)
theorem go_callV {m' ci n o : Nat} {as st' en : List Value} (h : act S.1 S.2 m pc = a_callV m' ci n pc') (h1 : (st.take (n + 1)).reverse = .ref o :: as) (h2 : (Nat.beq as.length n && (Nat.ble (m_entL (.ref o :: as)).length (mml m') && Nat.ble (m_cs (st.drop (n + 1))) 8)) = true) (h3 : st.drop (n + 1) = st') (h4 : m_ent (.ref o :: as) (mml m') = en) : go S m pc ls st M K = cond (m_isO M o ci) (go S m' 0 en [] M (fun v M1 => m_pv v st' fun st2 => go S m pc' ls st2 M1 K)) False := by
  subst h3
  subst h4
  cases ho : m_isO M o ci with
  | false => exact go_no (by rw [h]; unfold a_callV; simp only [h1, ho]; rfl)
  | true => exact go_cl (by rw [h]; unfold a_callV; simp only [h1, ho, h2]; rfl)
theorem go_callS {m' n : Nat} {as st' en : List Value} (h : act S.1 S.2 m pc = a_callS m' n pc') (h1 : (st.take n).reverse = as) (h2 : (Nat.beq (st.take n).length n && (Nat.ble (m_entL as).length (mml m') && Nat.ble (m_cs (st.drop n)) 8)) = true) (h3 : st.drop n = st') (h4 : m_ent as (mml m') = en) : go S m pc ls st M K = go S m' 0 en [] M (fun v M1 => m_pv v st' fun st2 => go S m pc' ls st2 M1 K) := by
  subst h3
  subst h4
  subst h1
  exact go_cl (by rw [h]; unfold a_callS; simp only [h2]; rfl)
theorem go_callI {m' n o : Nat} {as st' en : List Value} (h : act S.1 S.2 m pc = a_callI m' n pc') (h1 : (st.take (n + 1)).reverse = .ref o :: as) (h2 : (Nat.beq as.length n && (Nat.ble (m_entL (.ref o :: as)).length (mml m') && Nat.ble (m_cs (st.drop (n + 1))) 8)) = true) (h3 : st.drop (n + 1) = st') (h4 : m_ent (.ref o :: as) (mml m') = en) : go S m pc ls st M K = go S m' 0 en [] M (fun v M1 => m_pv v st' fun st2 => go S m pc' ls st2 M1 K) := by
  subst h3
  subst h4
  exact go_cl (by rw [h]; unfold a_callI; simp only [h1, h2]; rfl)
theorem go_objI {o : Nat} (h : act S.1 S.2 m pc = a_objI pc') (h2 : Nat.ble (m_cs r) 8 = true) : go S m pc ls (.ref o :: r) M K = go S m pc' ls r M K := go_nx (by rw [h]; unfold a_objI; simp only [h2]; rfl)
theorem go_acopy {sp dp n : Int32} {a0 a : Nat} (h : act S.1 S.2 m pc = a_acopy pc') (h2 : Nat.ble (m_cs r) 8 = true) : go S m pc ls (.int n :: .int dp :: .ref a :: .int sp :: .ref a0 :: r) M K = bnd (m_cpy M a0 sp a dp n) fun M' => go S m pc' ls r M' K := by
  cases hf : m_cpy M a0 sp a dp n with
  | none => exact go_no (by rw [h]; unfold a_acopy; simp only [hf])
  | some v => exact go_nx (by rw [h]; unfold a_acopy; simp only [hf, h2]; rfl)
end GO
