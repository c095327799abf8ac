/-! arithmetic: the stack's top into another -/
def a_stk (f : List Value → Option (List Value)) (pc' : Nat) : mA := fun ls st M => match f st with
  | some st' => m_nx pc' ls st' M
  | none => none
theorem k_stk {L : Nat} {xs : Nat → Int32} {m pc pc' : Nat} {f : List Value → Option (List Value)} (hv : ∀ (M : mM) (st st' : List Value), f st = some st' → m_okV M st → m_okV M st') (hW : ∀ (X : m_X) (lsA : Array Slot) (ad : Nat → Nat), (x_p X).tables.exec = Jvm.exec → (x_c X).code = mcc m → ∀ (H : Heap) (locs : List Loc) (cells slots : Nat) (st st' : List Value), f st = some st' → m_W X H locs cells slots pc' lsA (st'.map (m_cv (x_b X) ad)) → m_W X H locs cells slots pc lsA (st.map (m_cv (x_b X) ad))) : m_Ok L xs m pc (a_stk f pc') := by
  refine m_okP fun ls st M => ?_
  unfold a_stk
  cases hf : f st with
  | none => trivial
  | some st' => exact ⟨rfl, fun _ h1 h2 => ⟨h1, hv M st st' hf h2⟩, fun X hX H lsA ad locs cells slots _ hLR _ _ k => hW X lsA ad hX.1 hX.2.1 H locs cells slots st st' hf (k lsA hLR)⟩
def f_ii (g : Int32 → Int32 → Int32) (st : List Value) : Option (List Value) := match st with
  | .int y :: .int x :: r => some (.int (g x y) :: r)
  | _ => none
def f_iz (g : Int32 → Int32 → Int32) (st : List Value) : Option (List Value) := match st with
  | .int y :: .int x :: r => cond (decide (y = 0)) none (some (.int (g x y) :: r))
  | _ => none
def f_ll (g : Int64 → Int64 → Int64) (st : List Value) : Option (List Value) := match st with
  | .long y :: .long x :: r => some (.long (g x y) :: r)
  | _ => none
def f_li (g : Int64 → Int32 → Int64) (st : List Value) : Option (List Value) := match st with
  | .int y :: .long x :: r => some (.long (g x y) :: r)
  | _ => none
def f_cmp (st : List Value) : Option (List Value) := match st with
  | .long y :: .long x :: r => some (.int (lg_cmp x y) :: r)
  | _ => none
def f_i2l (st : List Value) : Option (List Value) := match st with
  | .int x :: r => some (.long x.toInt64 :: r)
  | _ => none
def f_l2i (st : List Value) : Option (List Value) := match st with
  | .long x :: r => some (.int x.toInt32 :: r)
  | _ => none
def f_dup (st : List Value) : Option (List Value) := match st with
  | .int x :: r => some (.int x :: .int x :: r)
  | .ref x :: r => some (.ref x :: .ref x :: r)
  | _ => none
def f_dup2 (st : List Value) : Option (List Value) := match st with
  | .int y :: .ref x :: r => some (.int y :: .ref x :: .int y :: .ref x :: r)
  | _ => none
def f_dupx1 (st : List Value) : Option (List Value) := match st with
  | .int y :: .ref x :: r => some (.int y :: .ref x :: .int y :: r)
  | _ => none
def f_pop (st : List Value) : Option (List Value) := match st with
  | .int _ :: r => some r
  | _ => none
def f_ineg (st : List Value) : Option (List Value) := match st with
  | .int x :: r => some (.int (-x) :: r)
  | _ => none
theorem f_ii_of {g : Int32 → Int32 → Int32} {st st' : List Value} (h : f_ii g st = some st') : ∃ x y r, st = .int y :: .int x :: r ∧ st' = .int (g x y) :: r := by
  unfold f_ii at h; split at h <;> cases h; exact ⟨_, _, _, rfl, rfl⟩
theorem f_iz_of {g : Int32 → Int32 → Int32} {st st' : List Value} (h : f_iz g st = some st') : ∃ x y r, ¬ y = 0 ∧ st = .int y :: .int x :: r ∧ st' = .int (g x y) :: r := by
  unfold f_iz at h
  split at h
  · rename_i y x r
    by_cases hy : y = 0
    · simp [hy] at h
    · simp [hy] at h
      exact ⟨_, _, _, hy, rfl, h.symm⟩
  · cases h
theorem f_ll_of {g : Int64 → Int64 → Int64} {st st' : List Value} (h : f_ll g st = some st') : ∃ x y r, st = .long y :: .long x :: r ∧ st' = .long (g x y) :: r := by
  unfold f_ll at h; split at h <;> cases h; exact ⟨_, _, _, rfl, rfl⟩
theorem f_li_of {g : Int64 → Int32 → Int64} {st st' : List Value} (h : f_li g st = some st') : ∃ x y r, st = .int y :: .long x :: r ∧ st' = .long (g x y) :: r := by
  unfold f_li at h; split at h <;> cases h; exact ⟨_, _, _, rfl, rfl⟩
theorem f_cmp_of {st st' : List Value} (h : f_cmp st = some st') : ∃ x y r, st = .long y :: .long x :: r ∧ st' = .int (lg_cmp x y) :: r := by
  unfold f_cmp at h; split at h <;> cases h; exact ⟨_, _, _, rfl, rfl⟩
theorem f_i2l_of {st st' : List Value} (h : f_i2l st = some st') : ∃ x r, st = .int x :: r ∧ st' = .long x.toInt64 :: r := by
  unfold f_i2l at h; split at h <;> cases h; exact ⟨_, _, rfl, rfl⟩
theorem f_l2i_of {st st' : List Value} (h : f_l2i st = some st') : ∃ x r, st = .long x :: r ∧ st' = .int x.toInt32 :: r := by
  unfold f_l2i at h; split at h <;> cases h; exact ⟨_, _, rfl, rfl⟩
theorem f_pop_of {st st' : List Value} (h : f_pop st = some st') : ∃ x r, st = .int x :: r ∧ st' = r := by
  unfold f_pop at h; split at h <;> cases h; exact ⟨_, _, rfl, rfl⟩
theorem f_ineg_of {st st' : List Value} (h : f_ineg st = some st') : ∃ x r, st = .int x :: r ∧ st' = .int (-x) :: r := by
  unfold f_ineg at h; split at h <;> cases h; exact ⟨_, _, rfl, rfl⟩
theorem f_dup_of {st st' : List Value} (h : f_dup st = some st') : ∃ v r, (v.category = 1 ∧ ∀ b ad, (m_cv b ad v).category = 1) ∧ st = v :: r ∧ st' = v :: v :: r := by
  unfold f_dup at h; split at h <;> cases h <;> exact ⟨_, _, ⟨rfl, fun _ _ => rfl⟩, rfl, rfl⟩
section KA
variable {L : Nat} {xs : Nat → Int32} {m pc : Nat}
theorem k_ii {g : Int32 → Int32 → Int32} (hW : ∀ (X : m_X) (lsA : Array Slot), (x_p X).tables.exec = Jvm.exec → (x_c X).code = mcc m → ∀ (H : Heap) (locs : List Loc) (cells slots : Nat) (x y : Int32) (r : List Value), m_W X H locs cells slots (pc + 1) lsA (.int (g x y) :: r) → m_W X H locs cells slots pc lsA (.int y :: .int x :: r)) : m_Ok L xs m pc (a_stk (f_ii g) (pc + 1)) :=
  k_stk (fun M st st' h h2 => by obtain ⟨x, y, r, rfl, rfl⟩ := f_ii_of h; exact m_okV_cons.mpr ⟨trivial, (m_okV_cons.mp (m_okV_cons.mp h2).2).2⟩) fun X lsA ad hx hb H locs cells slots st st' h k => by obtain ⟨x, y, r, rfl, rfl⟩ := f_ii_of h; exact hW X lsA hx hb H locs cells slots x y _ k
theorem k_iadd (hd : decode (mcc m) pc = .ok (.iadd, 1)) : m_Ok L xs m pc (a_stk (f_ii fun x y => x + y) (pc + 1)) := k_ii fun X lsA hx hb H locs cells slots x y r k => lv_iadd hx hb hd k
theorem k_isub (hd : decode (mcc m) pc = .ok (.isub, 1)) : m_Ok L xs m pc (a_stk (f_ii fun x y => x - y) (pc + 1)) := k_ii fun X lsA hx hb H locs cells slots x y r k => lv_isub hx hb hd k
theorem k_imul (hd : decode (mcc m) pc = .ok (.imul, 1)) : m_Ok L xs m pc (a_stk (f_ii fun x y => x * y) (pc + 1)) := k_ii fun X lsA hx hb H locs cells slots x y r k => lv_imul hx hb hd k
theorem k_iand (hd : decode (mcc m) pc = .ok (.iand, 1)) : m_Ok L xs m pc (a_stk (f_ii fun x y => x &&& y) (pc + 1)) := k_ii fun X lsA hx hb H locs cells slots x y r k => lv_iand hx hb hd k
theorem k_ior (hd : decode (mcc m) pc = .ok (.ior, 1)) : m_Ok L xs m pc (a_stk (f_ii fun x y => x ||| y) (pc + 1)) := k_ii fun X lsA hx hb H locs cells slots x y r k => lv_ior hx hb hd k
theorem k_ishl (hd : decode (mcc m) pc = .ok (.ishl, 1)) : m_Ok L xs m pc (a_stk (f_ii fun x y => x <<< (y &&& 31)) (pc + 1)) := k_ii fun X lsA hx hb H locs cells slots x y r k => lv_ishl hx hb hd k
theorem k_ishr (hd : decode (mcc m) pc = .ok (.ishr, 1)) : m_Ok L xs m pc (a_stk (f_ii fun x y => x >>> (y &&& 31)) (pc + 1)) := k_ii fun X lsA hx hb H locs cells slots x y r k => lv_ishr hx hb hd k
theorem k_iz {g : Int32 → Int32 → Int32} (hW : ∀ (X : m_X) (lsA : Array Slot), (x_p X).tables.exec = Jvm.exec → (x_c X).code = mcc m → ∀ (H : Heap) (locs : List Loc) (cells slots : Nat) (x y : Int32) (r : List Value), ¬ y = 0 → m_W X H locs cells slots (pc + 1) lsA (.int (g x y) :: r) → m_W X H locs cells slots pc lsA (.int y :: .int x :: r)) : m_Ok L xs m pc (a_stk (f_iz g) (pc + 1)) :=
  k_stk (fun M st st' h h2 => by obtain ⟨x, y, r, -, rfl, rfl⟩ := f_iz_of h; exact m_okV_cons.mpr ⟨trivial, (m_okV_cons.mp (m_okV_cons.mp h2).2).2⟩) fun X lsA ad hx hb H locs cells slots st st' h k => by obtain ⟨x, y, r, hy, rfl, rfl⟩ := f_iz_of h; exact hW X lsA hx hb H locs cells slots x y _ hy k
theorem k_idiv (hd : decode (mcc m) pc = .ok (.idiv, 1)) : m_Ok L xs m pc (a_stk (f_iz fun x y => x / y) (pc + 1)) := k_iz fun X lsA hx hb H locs cells slots x y r hy k => lv_idiv hx hb hd hy k
theorem k_irem (hd : decode (mcc m) pc = .ok (.irem, 1)) : m_Ok L xs m pc (a_stk (f_iz fun x y => x - x / y * y) (pc + 1)) := k_iz fun X lsA hx hb H locs cells slots x y r hy k => lv_irem hx hb hd hy k
theorem k_ll {g : Int64 → Int64 → Int64} (hW : ∀ (X : m_X) (lsA : Array Slot), (x_p X).tables.exec = Jvm.exec → (x_c X).code = mcc m → ∀ (H : Heap) (locs : List Loc) (cells slots : Nat) (x y : Int64) (r : List Value), m_W X H locs cells slots (pc + 1) lsA (.long (g x y) :: r) → m_W X H locs cells slots pc lsA (.long y :: .long x :: r)) : m_Ok L xs m pc (a_stk (f_ll g) (pc + 1)) :=
  k_stk (fun M st st' h h2 => by obtain ⟨x, y, r, rfl, rfl⟩ := f_ll_of h; exact m_okV_cons.mpr ⟨trivial, (m_okV_cons.mp (m_okV_cons.mp h2).2).2⟩) fun X lsA ad hx hb H locs cells slots st st' h k => by obtain ⟨x, y, r, rfl, rfl⟩ := f_ll_of h; exact hW X lsA hx hb H locs cells slots x y _ k
theorem k_land (hd : decode (mcc m) pc = .ok (.land, 1)) : m_Ok L xs m pc (a_stk (f_ll fun x y => x &&& y) (pc + 1)) := k_ll fun X lsA hx hb H locs cells slots x y r k => lv_land hx hb hd k
theorem k_lor (hd : decode (mcc m) pc = .ok (.lor, 1)) : m_Ok L xs m pc (a_stk (f_ll fun x y => x ||| y) (pc + 1)) := k_ll fun X lsA hx hb H locs cells slots x y r k => lv_lor hx hb hd k
theorem k_li {g : Int64 → Int32 → Int64} (hW : ∀ (X : m_X) (lsA : Array Slot), (x_p X).tables.exec = Jvm.exec → (x_c X).code = mcc m → ∀ (H : Heap) (locs : List Loc) (cells slots : Nat) (x : Int64) (y : Int32) (r : List Value), m_W X H locs cells slots (pc + 1) lsA (.long (g x y) :: r) → m_W X H locs cells slots pc lsA (.int y :: .long x :: r)) : m_Ok L xs m pc (a_stk (f_li g) (pc + 1)) :=
  k_stk (fun M st st' h h2 => by obtain ⟨x, y, r, rfl, rfl⟩ := f_li_of h; exact m_okV_cons.mpr ⟨trivial, (m_okV_cons.mp (m_okV_cons.mp h2).2).2⟩) fun X lsA ad hx hb H locs cells slots st st' h k => by obtain ⟨x, y, r, rfl, rfl⟩ := f_li_of h; exact hW X lsA hx hb H locs cells slots x y _ k
theorem k_lushr (hd : decode (mcc m) pc = .ok (.lushr, 1)) : m_Ok L xs m pc (a_stk (f_li fun x y => (x.toUInt64 >>> (y.toInt64.toUInt64 &&& Int64.toUInt64 63)).toInt64) (pc + 1)) := k_li fun X lsA hx hb H locs cells slots x y r k => lv_lushr hx hb hd rfl k
theorem k_lshl (hd : decode (mcc m) pc = .ok (.lshl, 1)) : m_Ok L xs m pc (a_stk (f_li fun x y => x <<< (y.toInt64 &&& 63)) (pc + 1)) := k_li fun X lsA hx hb H locs cells slots x y r k => lv_lshl hx hb hd rfl k
theorem k_lcmp (hd : decode (mcc m) pc = .ok (.lcmp, 1)) : m_Ok L xs m pc (a_stk f_cmp (pc + 1)) :=
  k_stk (fun M st st' h h2 => by obtain ⟨x, y, r, rfl, rfl⟩ := f_cmp_of h; exact m_okV_cons.mpr ⟨trivial, (m_okV_cons.mp (m_okV_cons.mp h2).2).2⟩) fun X lsA ad hx hb H locs cells slots st st' h k => by obtain ⟨x, y, r, rfl, rfl⟩ := f_cmp_of h; exact W.lcmp hx hb hd k
theorem k_i2l (hd : decode (mcc m) pc = .ok (.i2l, 1)) : m_Ok L xs m pc (a_stk f_i2l (pc + 1)) :=
  k_stk (fun M st st' h h2 => by obtain ⟨x, r, rfl, rfl⟩ := f_i2l_of h; exact m_okV_cons.mpr ⟨trivial, (m_okV_cons.mp h2).2⟩) fun X lsA ad hx hb H locs cells slots st st' h k => by obtain ⟨x, r, rfl, rfl⟩ := f_i2l_of h; exact lv_i2l hx hb hd rfl k
theorem k_l2i (hd : decode (mcc m) pc = .ok (.l2i, 1)) : m_Ok L xs m pc (a_stk f_l2i (pc + 1)) :=
  k_stk (fun M st st' h h2 => by obtain ⟨x, r, rfl, rfl⟩ := f_l2i_of h; exact m_okV_cons.mpr ⟨trivial, (m_okV_cons.mp h2).2⟩) fun X lsA ad hx hb H locs cells slots st st' h k => by obtain ⟨x, r, rfl, rfl⟩ := f_l2i_of h; exact lv_l2i hx hb hd rfl k
theorem k_pop (hd : decode (mcc m) pc = .ok (.pop, 1)) : m_Ok L xs m pc (a_stk f_pop (pc + 1)) :=
  k_stk (fun M st st' h h2 => by obtain ⟨x, r, rfl, rfl⟩ := f_pop_of h; exact (m_okV_cons.mp h2).2) fun X lsA ad hx hb H locs cells slots st st' h k => by obtain ⟨x, r, rfl, rfl⟩ := f_pop_of h; exact lv_pop hx hb hd rfl k
theorem k_ineg (hd : decode (mcc m) pc = .ok (.ineg, 1)) : m_Ok L xs m pc (a_stk f_ineg (pc + 1)) :=
  k_stk (fun M st st' h h2 => by obtain ⟨x, r, rfl, rfl⟩ := f_ineg_of h; exact m_okV_cons.mpr ⟨trivial, (m_okV_cons.mp h2).2⟩) fun X lsA ad hx hb H locs cells slots st st' h k => by obtain ⟨x, r, rfl, rfl⟩ := f_ineg_of h; exact lv_ineg hx hb hd k
theorem k_dup (hd : decode (mcc m) pc = .ok (.dup, 1)) : m_Ok L xs m pc (a_stk f_dup (pc + 1)) :=
  k_stk (fun M st st' h h2 => by obtain ⟨v, r, -, rfl, rfl⟩ := f_dup_of h; exact m_okV_cons.mpr ⟨(m_okV_cons.mp h2).1, h2⟩) fun X lsA ad hx hb H locs cells slots st st' h k => by obtain ⟨v, r, hc, rfl, rfl⟩ := f_dup_of h; exact lv_dup hx hb hd (hc.2 _ _) k
end KA
/-! branches -/
def a_if (c : Int32 → Bool) (t f : Nat) : mA := fun ls st M => match st with
  | .int x :: r => cond (c x) (m_nx t ls r M) (m_nx f ls r M)
  | _ => none
def a_ic (c : Int32 → Int32 → Bool) (t f : Nat) : mA := fun ls st M => match st with
  | .int y :: .int x :: r => cond (c x y) (m_nx t ls r M) (m_nx f ls r M)
  | _ => none
section KB
variable {L : Nat} {xs : Nat → Int32} {m pc t : Nat}
theorem k_if {f : Nat} {c : Int32 → Bool} (hW : ∀ (X : m_X) (lsA : Array Slot), (x_p X).tables.exec = Jvm.exec → (x_c X).code = mcc m → ∀ (H : Heap) (locs : List Loc) (cells slots : Nat) (x : Int32) (r : List Value), (c x = true → m_W X H locs cells slots t lsA r) → (c x = false → m_W X H locs cells slots f lsA r) → m_W X H locs cells slots pc lsA (.int x :: r)) : m_Ok L xs m pc (a_if c t f) := by
  refine m_okP fun ls st M => ?_
  match st with
  | [] => trivial
  | .int x :: r =>
    show match cond (c x) (m_nx t ls r M) (m_nx f ls r M) with
      | none => True
      | some (.inl (pc', ls', st', M')) => _
      | some (.inr _) => False
    cases hc : c x with
    | true => exact ⟨rfl, fun _ h1 h2 => ⟨h1, (m_okV_cons.mp h2).2⟩, fun X hX H lsA ad locs cells slots _ hLR _ _ k => hW X lsA hX.1 hX.2.1 H locs cells slots x _ (fun _ => k lsA hLR) (fun e => by rw [hc] at e; cases e)⟩
    | false => exact ⟨rfl, fun _ h1 h2 => ⟨h1, (m_okV_cons.mp h2).2⟩, fun X hX H lsA ad locs cells slots _ hLR _ _ k => hW X lsA hX.1 hX.2.1 H locs cells slots x _ (fun e => by rw [hc] at e; cases e) (fun _ => k lsA hLR)⟩
  | .long _ :: _ => trivial
  | .float _ :: _ => trivial
  | .double _ :: _ => trivial
  | .null :: _ => trivial
  | .ref _ :: _ => trivial
  | .retAddr _ :: _ => trivial
theorem k_ic {f : Nat} {c : Int32 → Int32 → Bool} (hW : ∀ (X : m_X) (lsA : Array Slot), (x_p X).tables.exec = Jvm.exec → (x_c X).code = mcc m → ∀ (H : Heap) (locs : List Loc) (cells slots : Nat) (x y : Int32) (r : List Value), (c x y = true → m_W X H locs cells slots t lsA r) → (c x y = false → m_W X H locs cells slots f lsA r) → m_W X H locs cells slots pc lsA (.int y :: .int x :: r)) : m_Ok L xs m pc (a_ic c t f) := by
  refine m_okP fun ls st M => ?_
  unfold a_ic
  split
  · trivial
  · rename_i heq
    split at heq
    · rename_i y x r
      cases hc : c x y with
      | true =>
        rw [hc] at heq
        cases heq
        exact ⟨rfl, fun _ h1 h2 => ⟨h1, (m_okV_cons.mp (m_okV_cons.mp h2).2).2⟩, fun X hX H lsA ad locs cells slots _ hLR _ _ k => hW X lsA hX.1 hX.2.1 H locs cells slots x y _ (fun _ => k lsA hLR) (fun e => by rw [hc] at e; cases e)⟩
      | false =>
        rw [hc] at heq
        cases heq
        exact ⟨rfl, fun _ h1 h2 => ⟨h1, (m_okV_cons.mp (m_okV_cons.mp h2).2).2⟩, fun X hX H lsA ad locs cells slots _ hLR _ _ k => hW X lsA hX.1 hX.2.1 H locs cells slots x y _ (fun e => by rw [hc] at e; cases e) (fun _ => k lsA hLR)⟩
    · cases heq
  · rename_i heq
    split at heq
    · rename_i y x r
      cases hc : c x y <;> rw [hc] at heq <;> cases heq
    · cases heq
def c_eq0 (x : Int32) : Bool := decide (x = 0)
def c_ne0 (x : Int32) : Bool := !decide (x = 0)
def c_lt0 (x : Int32) : Bool := decide (x < 0)
def c_ge0 (x : Int32) : Bool := decide (0 ≤ x)
def c_gt0 (x : Int32) : Bool := decide (0 < x)
def c_le0 (x : Int32) : Bool := decide (x ≤ 0)
def c_eq (x y : Int32) : Bool := decide (x = y)
def c_ne (x y : Int32) : Bool := !decide (x = y)
def c_lt (x y : Int32) : Bool := decide (x < y)
def c_ge (x y : Int32) : Bool := decide (y ≤ x)
def c_gt (x y : Int32) : Bool := decide (y < x)
def c_le (x y : Int32) : Bool := decide (x ≤ y)
theorem k_if_eq {off : Int} (hd : decode (mcc m) pc = .ok (.ifCond .eq off, 3)) (ht : (pc : Int) + off = (t : Int)) : m_Ok L xs m pc (a_if c_eq0 t (pc + 3)) := k_if fun X lsA hx hb H locs cells slots x r k1 k2 => lv_if_eq hx hb hd ht (fun h => k1 (by simp [c_eq0, h])) (fun h => k2 (by simp [c_eq0, h]))
theorem k_if_ne {off : Int} (hd : decode (mcc m) pc = .ok (.ifCond .ne off, 3)) (ht : (pc : Int) + off = (t : Int)) : m_Ok L xs m pc (a_if c_ne0 t (pc + 3)) := k_if fun X lsA hx hb H locs cells slots x r k1 k2 => lv_if_ne hx hb hd ht (fun h => k1 (by simp [c_ne0, h])) (fun h => k2 (by simp [c_ne0, h]))
theorem k_if_lt {off : Int} (hd : decode (mcc m) pc = .ok (.ifCond .lt off, 3)) (ht : (pc : Int) + off = (t : Int)) : m_Ok L xs m pc (a_if c_lt0 t (pc + 3)) := k_if fun X lsA hx hb H locs cells slots x r k1 k2 => lv_if_lt hx hb hd ht (fun h => k1 (decide_eq_true h)) (fun h => k2 (decide_eq_false h))
theorem k_if_ge {off : Int} (hd : decode (mcc m) pc = .ok (.ifCond .ge off, 3)) (ht : (pc : Int) + off = (t : Int)) : m_Ok L xs m pc (a_if c_ge0 t (pc + 3)) := k_if fun X lsA hx hb H locs cells slots x r k1 k2 => lv_if_ge hx hb hd ht (fun h => k1 (decide_eq_true h)) (fun h => k2 (decide_eq_false h))
theorem k_if_gt {off : Int} (hd : decode (mcc m) pc = .ok (.ifCond .gt off, 3)) (ht : (pc : Int) + off = (t : Int)) : m_Ok L xs m pc (a_if c_gt0 t (pc + 3)) := k_if fun X lsA hx hb H locs cells slots x r k1 k2 => lv_if_gt hx hb hd ht (fun h => k1 (decide_eq_true h)) (fun h => k2 (decide_eq_false h))
theorem k_if_le {off : Int} (hd : decode (mcc m) pc = .ok (.ifCond .le off, 3)) (ht : (pc : Int) + off = (t : Int)) : m_Ok L xs m pc (a_if c_le0 t (pc + 3)) := k_if fun X lsA hx hb H locs cells slots x r k1 k2 => lv_if_le hx hb hd ht (fun h => k1 (decide_eq_true h)) (fun h => k2 (decide_eq_false h))
theorem k_ic_eq {off : Int} (hd : decode (mcc m) pc = .ok (.if_icmp .eq off, 3)) (ht : (pc : Int) + off = (t : Int)) : m_Ok L xs m pc (a_ic c_eq t (pc + 3)) := k_ic fun X lsA hx hb H locs cells slots x y r k1 k2 => lv_icmp_eq hx hb hd ht (fun h => k1 (decide_eq_true h)) (fun h => k2 (decide_eq_false h))
theorem k_ic_ne {off : Int} (hd : decode (mcc m) pc = .ok (.if_icmp .ne off, 3)) (ht : (pc : Int) + off = (t : Int)) : m_Ok L xs m pc (a_ic c_ne t (pc + 3)) := k_ic fun X lsA hx hb H locs cells slots x y r k1 k2 => lv_icmp_ne hx hb hd ht (fun h => k1 (by simp [c_ne, h])) (fun h => k2 (by simp [c_ne, h]))
theorem k_ic_lt {off : Int} (hd : decode (mcc m) pc = .ok (.if_icmp .lt off, 3)) (ht : (pc : Int) + off = (t : Int)) : m_Ok L xs m pc (a_ic c_lt t (pc + 3)) := k_ic fun X lsA hx hb H locs cells slots x y r k1 k2 => lv_icmp_lt hx hb hd ht (fun h => k1 (decide_eq_true h)) (fun h => k2 (decide_eq_false h))
theorem k_ic_ge {off : Int} (hd : decode (mcc m) pc = .ok (.if_icmp .ge off, 3)) (ht : (pc : Int) + off = (t : Int)) : m_Ok L xs m pc (a_ic c_ge t (pc + 3)) := k_ic fun X lsA hx hb H locs cells slots x y r k1 k2 => lv_icmp_ge hx hb hd ht (fun h => k1 (decide_eq_true h)) (fun h => k2 (decide_eq_false h))
theorem k_ic_gt {off : Int} (hd : decode (mcc m) pc = .ok (.if_icmp .gt off, 3)) (ht : (pc : Int) + off = (t : Int)) : m_Ok L xs m pc (a_ic c_gt t (pc + 3)) := k_ic fun X lsA hx hb H locs cells slots x y r k1 k2 => lv_icmp_gt hx hb hd ht (fun h => k1 (decide_eq_true h)) (fun h => k2 (decide_eq_false h))
theorem k_ic_le {off : Int} (hd : decode (mcc m) pc = .ok (.if_icmp .le off, 3)) (ht : (pc : Int) + off = (t : Int)) : m_Ok L xs m pc (a_ic c_le t (pc + 3)) := k_ic fun X lsA hx hb H locs cells slots x y r k1 k2 => lv_icmp_le hx hb hd ht (fun h => k1 (decide_eq_true h)) (fun h => k2 (decide_eq_false h))
end KB
def a_goto (t : Nat) : mA := fun ls st M => m_nx t ls st M
theorem k_goto {L : Nat} {xs : Nat → Int32} {m pc t : Nat} {off : Int} (hd : decode (mcc m) pc = .ok (.goto off, 3)) (ht : (pc : Int) + off = (t : Int)) : m_Ok L xs m pc (a_goto t) :=
  m_okP fun ls st M => ⟨rfl, fun _ h1 h2 => ⟨h1, h2⟩, fun X hX H lsA ad locs cells slots _ hLR _ _ k => lv_goto hX.1 hX.2.1 hd ht (k lsA hLR)⟩
/-- a switch over 0, 1 ..: the place to go to -/
def m_swi : List (Int32 × Nat) → Nat → Int32 → Nat
  | [], d, _ => d
  | c :: cs, d, x => if x = c.1 then c.2 else m_swi cs d x
def a_tsw (cs : List (Int32 × Nat)) (d : Nat) : mA := fun ls st M => match st with
  | .int x :: r => m_nx (m_swi cs d x) ls r M
  | _ => none
theorem m_swi_at : ∀ (cs : List (Int32 × Nat)) (d : Nat) (x : Int32) (i j : Nat), (∀ k c, cs[k]? = some c → c.1 = nI (j + k)) → x = nI (j + i) → j + i < 2 ^ 31 → ∀ c, cs[i]? = some c → m_swi cs d x = c.2
  | [], _, _, _, _, _, _, _, _, hi => by simp at hi
  | c0 :: cs, d, x, 0, j, h, hx, hlt, c, hi => by
    simp at hi
    subst hi
    unfold m_swi
    rw [if_pos (hx.trans (h 0 c0 rfl).symm)]
  | c0 :: cs, d, x, i + 1, j, h, hx, hlt, c, hi => by
    unfold m_swi
    have h0 := h 0 c0 rfl
    rw [if_neg (fun e => by
      have e2 : nI (j + (i + 1)) = nI (j + 0) := by rw [← hx, e, h0]
      have := (nI_eq hlt (by omega)).mp e2
      omega)]
    exact m_swi_at cs d x i (j + 1) (fun k c hk => by rw [h (k + 1) c (by simpa using hk)]; congr 1; omega) (by rw [hx]; congr 1; omega) (by omega) c (by simpa using hi)
theorem m_swi_out : ∀ (cs : List (Int32 × Nat)) (d : Nat) (x : Int32), (∀ (k : Nat) (c : Int32 × Nat), cs[k]? = some c → x ≠ c.1) → m_swi cs d x = d
  | [], _, _, _ => rfl
  | c0 :: cs, d, x, h => by
    unfold m_swi
    rw [if_neg (h 0 c0 rfl)]
    exact m_swi_out cs d x (fun k c hk => h (k + 1) c (by simpa using hk))
theorem k_tsw {L : Nat} {xs : Nat → Int32} {m pc d len : Nat} {dflt : Int} {hi : Nat} {offs : Array Int} {cs : List (Int32 × Nat)} (hd : decode (mcc m) pc = .ok (.tableswitch dflt 0 (hi : Int) offs, len)) (hdf : (pc : Int) + dflt = (d : Int)) (hn : cs.length = hi + 1) (hhi : hi < 1000)
    (hcs : ∀ k, k < hi + 1 → ∀ c, cs[k]? = some c → c.1 = nI k ∧ ∃ o, offs[k]? = some o ∧ (pc : Int) + o = (c.2 : Int)) : m_Ok L xs m pc (a_tsw cs d) := by
  refine m_okP fun ls st M => ?_
  unfold a_tsw
  split
  · trivial
  · rename_i heq
    split at heq
    · rename_i x r
      cases heq
      refine ⟨rfl, fun _ h1 h2 => ⟨h1, (m_okV_cons.mp h2).2⟩, fun X hX H lsA ad locs cells slots _ hLR _ _ k => ?_⟩
      have kk := k lsA hLR
      have hc1 : ∀ k c, cs[k]? = some c → c.1 = nI (0 + k) := fun k c hk => by rw [Nat.zero_add]; exact (hcs k (by have := (List.getElem?_eq_some_iff.mp hk).1; omega) c hk).1
      by_cases hin : x.toInt < 0 ∨ (hi : Int) < x.toInt
      · rw [m_swi_out cs d x (fun k c hk e => by
          have hkl := (List.getElem?_eq_some_iff.mp hk).1
          rw [hc1 k c hk, Nat.zero_add] at e
          rw [e, nI_toInt (by omega)] at hin
          omega)] at kk
        exact lv_tableOut hX.1 hX.2.1 hd hin hdf kk
      · have h1 : ¬ x.toInt < 0 := fun z => hin (Or.inl z)
        have h2 : ¬ (hi : Int) < x.toInt := fun z => hin (Or.inr z)
        have hxn : x = nI x.toInt.toNat := by
          apply Int32.toInt_inj.mp
          rw [nI_toInt (by omega)]
          omega
        have hkl : x.toInt.toNat < hi + 1 := by omega
        obtain ⟨c, hc⟩ : ∃ c, cs[x.toInt.toNat]? = some c := ⟨cs[x.toInt.toNat]'(by omega), List.getElem?_eq_getElem (by omega)⟩
        obtain ⟨-, o, ho, hto⟩ := hcs _ hkl c hc
        rw [m_swi_at cs d x x.toInt.toNat 0 hc1 (by rw [Nat.zero_add]; exact hxn) (by omega) c hc] at kk
        exact lv_tableIn hX.1 hX.2.1 hd h1 h2 (by rw [Int.sub_zero]; exact ho) hto kk
    · cases heq
  · rename_i heq
    split at heq <;> cases heq
