/-! ACTIONS of the small machine, an instruction each, and that the machine does them -/
theorem m_okP {L : Nat} {xs : Nat → Int32} {m pc : Nat} {a : mA} (h : ∀ ls st M, match a ls st M with
    | none => True
    | some (.inl (pc', ls', st', M')) => M' = M ∧ (m_okM M → m_okV M ls → m_okV M st → m_okV M ls' ∧ m_okV M st') ∧ ∀ (X : m_X), m_CX L xs m X → ∀ (H : Heap) (lsA : Array Slot) (ad : Nat → Nat) (locs : List Loc) (cells slots : Nat), m_RL X ad M H locs → m_LR (x_b X) ad lsA (mml m) ls → cells ≤ (x_R X).cells → slots ≤ (x_R X).slots → (∀ lsB, m_LR (x_b X) ad lsB (mml m) ls' → m_W X H locs cells slots pc' lsB (st'.map (m_cv (x_b X) ad))) → m_W X H locs cells slots pc lsA (st.map (m_cv (x_b X) ad))
    | some (.inr _) => False) : m_Ok L xs m pc a := by
  intro ls st M h1 h2 h3
  have h0 := h ls st M
  cases ha : a ls st M with
  | none => trivial
  | some r =>
    rw [ha] at h0
    match r, h0 with
    | .inl (pc', ls', st', M'), h0 =>
      simp only at h0 ⊢
      obtain ⟨rfl, hv, hs⟩ := h0
      obtain ⟨v1, v2⟩ := hv h3 h1 h2
      refine ⟨⟨v1, v2, h3, Nat.le_refl _, Nat.le_refl _⟩, fun X hX n0 z0 ad0 hn hcl hsl hJ H lsA ad locs cells slots had hc hz hRL hLR => ?_⟩
      exact hs X hX H lsA ad locs cells slots hRL hLR (by omega) (by omega) (fun lsB hB => hJ H lsB ad locs cells slots had hc hz hRL hB)
theorem m_okV_cons {M : mM} {v : Value} {st : List Value} : m_okV M (v :: st) ↔ m_ok M.length v ∧ m_okV M st := List.forall_mem_cons
theorem m_okV_nil {M : mM} : m_okV M [] := fun _ h => by cases h
def q_int (v : Value) : Bool := match v with
  | .int _ => true
  | _ => false
def q_long (v : Value) : Bool := match v with
  | .long _ => true
  | _ => false
def q_ref (v : Value) : Bool := match v with
  | .ref _ => true
  | .float _ => true
  | _ => false
/-! constants and locals -/
def a_push (v : Value) (pc' : Nat) : mA := fun ls st M => m_nx pc' ls (v :: st) M
theorem k_push {L : Nat} {xs : Nat → Int32} {m pc pc' : Nat} {v : Value} (hv : ∀ n, m_ok n v) (hW : ∀ (X : m_X) (lsA : Array Slot) (ad : Nat → Nat), m_CX L xs m X → ∀ (H : Heap) (locs : List Loc) (cells slots : Nat) (r : List Value), m_W X H locs cells slots pc' lsA (m_cv (x_b X) ad v :: r) → m_W X H locs cells slots pc lsA r) : m_Ok L xs m pc (a_push v pc') :=
  m_okP fun ls st M => ⟨rfl, fun _ h1 h2 => ⟨h1, m_okV_cons.mpr ⟨hv _, h2⟩⟩, fun X hX H lsA ad locs cells slots _ hLR _ _ k => hW X lsA ad hX H locs cells slots _ (k lsA hLR)⟩
section KP
variable {L : Nat} {xs : Nat → Int32} {m pc : Nat}
theorem k_iconst {n : Int} {v : Int32} (hd : decode (mcc m) pc = .ok (.iconst n, 1)) (hv : Int32.ofInt n = v) : m_Ok L xs m pc (a_push (.int v) (pc + 1)) :=
  k_push (fun _ => trivial) fun X lsA ad hX H locs cells slots r k => lv_iconst hX.1 hX.2.1 hd hv k
theorem k_bipush {n : Int} {v : Int32} (hd : decode (mcc m) pc = .ok (.bipush n, 2)) (hv : (Int8.ofInt n).toInt32 = v) : m_Ok L xs m pc (a_push (.int v) (pc + 2)) :=
  k_push (fun _ => trivial) fun X lsA ad hX H locs cells slots r k => lv_bipush hX.1 hX.2.1 hd hv k
theorem k_sipush {n : Int} {v : Int32} (hd : decode (mcc m) pc = .ok (.sipush n, 3)) (hv : (Int16.ofInt n).toInt32 = v) : m_Ok L xs m pc (a_push (.int v) (pc + 3)) :=
  k_push (fun _ => trivial) fun X lsA ad hX H locs cells slots r k => lv_sipush hX.1 hX.2.1 hd hv k
theorem k_lconst {n : Fin 2} {v : Int64} (hd : decode (mcc m) pc = .ok (.lconst n, 1)) (hv : Int64.ofNat (n : Nat) = v) : m_Ok L xs m pc (a_push (.long v) (pc + 1)) :=
  k_push (fun _ => trivial) fun X lsA ad hX H locs cells slots r k => lv_lconst hX.1 hX.2.1 hd hv k
theorem k_ldc {index : Nat} {v : Int32} (hd : decode (mcc m) pc = .ok (.ldc index, 2)) (hw : Cond.constant (mY m).cls index v ∈ lw_gd) : m_Ok L xs m pc (a_push (.int v) (pc + 2)) :=
  k_push (fun _ => trivial) fun X lsA ad hX H locs cells slots r k => lv_ldc hX.1 hX.2.1 hX.2.2.2.1 (hX.2.2.2.2.1 _ hw) hd k
theorem k_ldc2 {index : Nat} {v : Int64} (hd : decode (mcc m) pc = .ok (.ldc2_w index, 3)) (hw : Cond.constantLong (mY m).cls index v ∈ lw_gd) : m_Ok L xs m pc (a_push (.long v) (pc + 3)) :=
  k_push (fun _ => trivial) fun X lsA ad hX H locs cells slots r k => lv_ldc2 hX.1 hX.2.1 hX.2.2.2.1 (hX.2.2.2.2.1 _ hw) hd k
end KP
def a_load (q : Value → Bool) (k pc' : Nat) : mA := fun ls st M => match ls[k]? with
  | some v => cond (q v) (m_nx pc' ls (v :: st) M) none
  | none => none
theorem k_load {L : Nat} {xs : Nat → Int32} {m pc pc' k : Nat} {q : Value → Bool} (hq : ∀ v, q v = true → v ≠ .null ∧ v.category = 1) (hW : ∀ (X : m_X) (lsA : Array Slot) (ad : Nat → Nat), m_CX L xs m X → ∀ (H : Heap) (locs : List Loc) (cells slots : Nat) (r : List Value) (v : Value), q v = true → lsA[k]? = some (.val (m_cv (x_b X) ad v)) → m_W X H locs cells slots pc' lsA (m_cv (x_b X) ad v :: r) → m_W X H locs cells slots pc lsA r) : m_Ok L xs m pc (a_load q k pc') := by
  refine m_okP fun ls st M => ?_
  unfold a_load
  cases hk : ls[k]? with
  | none => trivial
  | some v =>
    cases hv : q v with
    | false => simp only [hv]; trivial
    | true =>
      simp only [hv]
      exact ⟨rfl, fun _ h1 h2 => ⟨h1, m_okV_cons.mpr ⟨h1 v (List.mem_of_getElem? hk), h2⟩⟩, fun X hX H lsA ad locs cells slots _ hLR _ _ kk => hW X lsA ad hX H locs cells slots _ v hv (hLR.get hk (hq v hv).1 (fun e => absurd e (by rw [(hq v hv).2]; decide))) (kk lsA hLR)⟩
def a_loadL (k pc' : Nat) : mA := fun ls st M => match ls[k]?, ls[k + 1]? with
  | some (.long v), some .null => m_nx pc' ls (.long v :: st) M
  | _, _ => none
theorem k_loadL {L : Nat} {xs : Nat → Int32} {m pc pc' k : Nat} (hW : ∀ (X : m_X) (lsA : Array Slot), m_CX L xs m X → ∀ (H : Heap) (locs : List Loc) (cells slots : Nat) (r : List Value) (v : Int64), lsA[k]? = some (.val (.long v)) → m_W X H locs cells slots pc' lsA (.long v :: r) → m_W X H locs cells slots pc lsA r) : m_Ok L xs m pc (a_loadL k pc') := by
  refine m_okP fun ls st M => ?_
  unfold a_loadL
  split
  · trivial
  · rename_i heq
    split at heq
    · rename_i v h1 h2
      cases heq
      refine ⟨rfl, fun _ g1 g2 => ⟨g1, m_okV_cons.mpr ⟨trivial, g2⟩⟩, fun X hX H lsA ad locs cells slots _ hLR _ _ kk => hW X lsA hX H locs cells slots _ v (hLR.get h1 (by simp) (fun _ => h2)) (kk lsA hLR)⟩
    · cases heq
  · rename_i heq
    split at heq <;> cases heq
theorem q_int_of {v : Value} (h : q_int v = true) : ∃ x, v = .int x := by cases v <;> first | exact ⟨_, rfl⟩ | cases h
theorem q_ref_of {v : Value} (h : q_ref v = true) (b : Nat) (ad : Nat → Nat) : ∃ x, m_cv b ad v = .ref x := by cases v <;> first | exact ⟨_, rfl⟩ | cases h
theorem q_int_nn : ∀ v, q_int v = true → v ≠ .null ∧ v.category = 1 := by intro v h; cases v <;> first | (cases h; done) | exact ⟨by simp, rfl⟩
theorem q_ref_nn : ∀ v, q_ref v = true → v ≠ .null ∧ v.category = 1 := by intro v h; cases v <;> first | (cases h; done) | exact ⟨by simp, rfl⟩
section KL
variable {L : Nat} {xs : Nat → Int32} {m pc : Nat}
theorem k_iload {k : Nat} (hd : decode (mcc m) pc = .ok (.iload k, 2)) : m_Ok L xs m pc (a_load q_int k (pc + 2)) :=
  k_load q_int_nn fun X lsA ad hX H locs cells slots r v hv hl k => by obtain ⟨x, rfl⟩ := q_int_of hv; exact lv_iload hX.1 hX.2.1 hd hl k
theorem k_iload_n {k : Nat} {j : Fin 4} (hd : decode (mcc m) pc = .ok (.iload_n j, 1)) (hj : (j : Nat) = k) : m_Ok L xs m pc (a_load q_int k (pc + 1)) :=
  k_load q_int_nn fun X lsA ad hX H locs cells slots r v hv hl k => by obtain ⟨x, rfl⟩ := q_int_of hv; exact lv_iload_n hX.1 hX.2.1 hd hj hl k
theorem k_aload {k : Nat} (hd : decode (mcc m) pc = .ok (.aload k, 2)) : m_Ok L xs m pc (a_load q_ref k (pc + 2)) :=
  k_load q_ref_nn fun X lsA ad hX H locs cells slots r v hv hl k => by obtain ⟨x, hx⟩ := q_ref_of hv (x_b X) ad; rw [hx] at hl k; exact lv_aload hX.1 hX.2.1 hd hl k
theorem k_aload_n {k : Nat} {j : Fin 4} (hd : decode (mcc m) pc = .ok (.aload_n j, 1)) (hj : (j : Nat) = k) : m_Ok L xs m pc (a_load q_ref k (pc + 1)) :=
  k_load q_ref_nn fun X lsA ad hX H locs cells slots r v hv hl k => by obtain ⟨x, hx⟩ := q_ref_of hv (x_b X) ad; rw [hx] at hl k; exact lv_aload_n hX.1 hX.2.1 hd hj hl k
theorem k_lload {k : Nat} (hd : decode (mcc m) pc = .ok (.lload k, 2)) : m_Ok L xs m pc (a_loadL k (pc + 2)) :=
  k_loadL fun X lsA hX H locs cells slots r v hl k => lv_lload hX.1 hX.2.1 hd hl k
theorem k_lload_n {k : Nat} {j : Fin 4} (hd : decode (mcc m) pc = .ok (.lload_n j, 1)) (hj : (j : Nat) = k) : m_Ok L xs m pc (a_loadL k (pc + 1)) :=
  k_loadL fun X lsA hX H locs cells slots r v hl k => lv_lload_n hX.1 hX.2.1 hd hj hl k
end KL
def a_store (q : Value → Bool) (k pc' : Nat) : mA := fun ls st M => match st with
  | v :: r => cond (q v) (m_nx pc' (ls.set k v) r M) none
  | [] => none
theorem m_okV_set {M : mM} {ls : List Value} {k : Nat} {v : Value} (h : m_okV M ls) (hv : m_ok M.length v) : m_okV M (ls.set k v) := fun w hw => by
  rcases List.mem_or_eq_of_mem_set hw with h1 | h1
  · exact h w h1
  · exact h1 ▸ hv
theorem k_store {L : Nat} {xs : Nat → Int32} {m pc pc' k : Nat} {q : Value → Bool} (hq : ∀ v, q v = true → v ≠ .null ∧ v.category = 1) (hW : ∀ (X : m_X) (lsA : Array Slot) (ad : Nat → Nat), m_CX L xs m X → ∀ (H : Heap) (locs : List Loc) (cells slots : Nat) (r : List Value) (v : Value) (lv : List (Nat × Value)), q v = true → lv_has lsA (mml m) lv → (∀ lsB, lv_has lsB (mml m) ((k, m_cv (x_b X) ad v) :: lv.filter (fun q => !(q.1 == k) && !(q.1 + 1 == k && q.2.category == 2))) → m_W X H locs cells slots pc' lsB r) → m_W X H locs cells slots pc lsA (m_cv (x_b X) ad v :: r)) : m_Ok L xs m pc (a_store q k pc') := by
  refine m_okP fun ls st M => ?_
  unfold a_store
  cases st with
  | nil => trivial
  | cons v r =>
    cases hv : q v with
    | false => simp only [hv]; trivial
    | true =>
      simp only [hv]
      refine ⟨rfl, fun _ h1 h2 => ⟨m_okV_set h1 (m_okV_cons.mp h2).1, (m_okV_cons.mp h2).2⟩, fun X hX H lsA ad locs cells slots _ hLR _ _ kk => ?_⟩
      exact hW X lsA ad hX H locs cells slots _ v _ hv hLR.2 fun lsB hB => kk lsB (hLR.set1 (hq v hv).1 hB)
def a_storeL (k pc' : Nat) : mA := fun ls st M => match st with
  | .long v :: r => m_nx pc' ((ls.set k (.long v)).set (k + 1) .null) r M
  | _ => none
theorem k_storeL {L : Nat} {xs : Nat → Int32} {m pc pc' k : Nat} (hW : ∀ (X : m_X) (lsA : Array Slot), m_CX L xs m X → ∀ (H : Heap) (locs : List Loc) (cells slots : Nat) (r : List Value) (v : Int64) (lv : List (Nat × Value)), lv_has lsA (mml m) lv → (∀ lsB, lv_has lsB (mml m) ((k, .long v) :: lv.filter (fun q => !(q.1 == k) && (!(q.1 == k + 1) && !(q.1 + 1 == k && q.2.category == 2)))) → m_W X H locs cells slots pc' lsB r) → m_W X H locs cells slots pc lsA (.long v :: r)) : m_Ok L xs m pc (a_storeL k pc') := by
  refine m_okP fun ls st M => ?_
  unfold a_storeL
  split
  · trivial
  · rename_i heq
    split at heq
    · rename_i v r
      cases heq
      refine ⟨rfl, fun _ h1 h2 => ⟨m_okV_set (m_okV_set h1 trivial) trivial, (m_okV_cons.mp h2).2⟩, fun X hX H lsA ad locs cells slots _ hLR _ _ kk => ?_⟩
      exact hW X lsA hX H locs cells slots _ v _ hLR.2 fun lsB hB => kk lsB (hLR.set2 (v := .long v) (by simp) hB)
    · cases heq
  · rename_i heq
    split at heq <;> cases heq
section KS
variable {L : Nat} {xs : Nat → Int32} {m pc : Nat}
theorem k_istore {k : Nat} (hd : decode (mcc m) pc = .ok (.istore k, 2)) (hk : k < mml m) : m_Ok L xs m pc (a_store q_int k (pc + 2)) :=
  k_store q_int_nn fun X lsA ad hX H locs cells slots r v lv hv hl kk => by obtain ⟨x, rfl⟩ := q_int_of hv; exact lv_istore hX.1 hX.2.1 hd hl hk rfl kk
theorem k_istore_n {k : Nat} {j : Fin 4} (hd : decode (mcc m) pc = .ok (.istore_n j, 1)) (hj : (j : Nat) = k) (hk : k < mml m) : m_Ok L xs m pc (a_store q_int k (pc + 1)) :=
  k_store q_int_nn fun X lsA ad hX H locs cells slots r v lv hv hl kk => by obtain ⟨x, rfl⟩ := q_int_of hv; exact lv_istore_n hX.1 hX.2.1 hd hj hl hk rfl kk
theorem k_astore {k : Nat} (hd : decode (mcc m) pc = .ok (.astore k, 2)) (hk : k < mml m) : m_Ok L xs m pc (a_store q_ref k (pc + 2)) :=
  k_store q_ref_nn fun X lsA ad hX H locs cells slots r v lv hv hl kk => by obtain ⟨x, hx⟩ := q_ref_of hv (x_b X) ad; rw [hx] at kk ⊢; exact lv_astore hX.1 hX.2.1 hd hl hk rfl kk
theorem k_astore_n {k : Nat} {j : Fin 4} (hd : decode (mcc m) pc = .ok (.astore_n j, 1)) (hj : (j : Nat) = k) (hk : k < mml m) : m_Ok L xs m pc (a_store q_ref k (pc + 1)) :=
  k_store q_ref_nn fun X lsA ad hX H locs cells slots r v lv hv hl kk => by obtain ⟨x, hx⟩ := q_ref_of hv (x_b X) ad; rw [hx] at kk ⊢; exact lv_astore_n hX.1 hX.2.1 hd hj hl hk rfl kk
theorem k_lstore {k : Nat} (hd : decode (mcc m) pc = .ok (.lstore k, 2)) (hk : k + 1 < mml m) : m_Ok L xs m pc (a_storeL k (pc + 2)) :=
  k_storeL fun X lsA hX H locs cells slots r v lv hl kk => lv_lstore hX.1 hX.2.1 hd hl hk rfl kk
theorem k_lstore_n {k : Nat} {j : Fin 4} (hd : decode (mcc m) pc = .ok (.lstore_n j, 1)) (hj : (j : Nat) = k) (hk : k + 1 < mml m) : m_Ok L xs m pc (a_storeL k (pc + 1)) :=
  k_storeL fun X lsA hX H locs cells slots r v lv hl kk => lv_lstore_n hX.1 hX.2.1 hd hj hl hk rfl kk
end KS
def a_iinc (k : Nat) (v : Int32) (pc' : Nat) : mA := fun ls st M => match ls[k]? with
  | some (.int x) => m_nx pc' (ls.set k (.int (x + v))) st M
  | _ => none
theorem k_iinc {L : Nat} {xs : Nat → Int32} {m pc k : Nat} {n : Int} {v : Int32} (hd : decode (mcc m) pc = .ok (.iinc k n, 3)) (hv : Int32.ofInt n = v) (hk : k < mml m) : m_Ok L xs m pc (a_iinc k v (pc + 3)) := by
  refine m_okP fun ls st M => ?_
  unfold a_iinc
  split
  · trivial
  · rename_i heq
    split at heq
    · rename_i x hx
      cases heq
      refine ⟨rfl, fun _ h1 h2 => ⟨m_okV_set h1 trivial, h2⟩, fun X hX H lsA ad locs cells slots _ hLR _ _ kk => ?_⟩
      obtain ⟨i, hi⟩ := List.getElem?_of_mem (m_prs_mem (b := x_b X) (ad := ad) (q := (k, .int x)).mpr ⟨.int x, hx, by simp, fun e => (by cases e), rfl⟩)
      exact lv_iinc hX.1 hX.2.1 hd hLR.2 hi (by rw [hv]) hk rfl fun lsB hB => kk lsB (hLR.set1 (v := .int (x + v)) (by simp) hB)
    · cases heq
  · rename_i heq
    split at heq <;> cases heq
