/-! THE LAW'S MEMORY: behind the class's cells nine rows (kd, nu, in, wait, m, w, to, too, n), then what is made by the way -/
def ml (a : Nat → Nat → Int32) (r : mM) : mM := [.inl (64, a 0), .inl (64, a 1), .inl (64, a 2), .inl (64, a 3), .inl (64, a 4), .inl (64, a 5), .inl (64, a 6), .inl (64, a 7), .inl (1, a 8)] ++ r
section LMEM
variable (c a : Nat → Nat → Int32) (r : mM)
theorem la_20 : m_arr (mk c (ml a r)) 20 = some (64, a 0) := id rfl
theorem ls_20 (f : Nat → Int32) : (mk c (ml a r)).set 20 (.inl (64, f)) = mk c (ml (ca a 0 f) r) := id rfl
theorem la_21 : m_arr (mk c (ml a r)) 21 = some (64, a 1) := id rfl
theorem ls_21 (f : Nat → Int32) : (mk c (ml a r)).set 21 (.inl (64, f)) = mk c (ml (ca a 1 f) r) := id rfl
theorem la_22 : m_arr (mk c (ml a r)) 22 = some (64, a 2) := id rfl
theorem ls_22 (f : Nat → Int32) : (mk c (ml a r)).set 22 (.inl (64, f)) = mk c (ml (ca a 2 f) r) := id rfl
theorem la_23 : m_arr (mk c (ml a r)) 23 = some (64, a 3) := id rfl
theorem ls_23 (f : Nat → Int32) : (mk c (ml a r)).set 23 (.inl (64, f)) = mk c (ml (ca a 3 f) r) := id rfl
theorem la_24 : m_arr (mk c (ml a r)) 24 = some (64, a 4) := id rfl
theorem ls_24 (f : Nat → Int32) : (mk c (ml a r)).set 24 (.inl (64, f)) = mk c (ml (ca a 4 f) r) := id rfl
theorem la_25 : m_arr (mk c (ml a r)) 25 = some (64, a 5) := id rfl
theorem ls_25 (f : Nat → Int32) : (mk c (ml a r)).set 25 (.inl (64, f)) = mk c (ml (ca a 5 f) r) := id rfl
theorem la_26 : m_arr (mk c (ml a r)) 26 = some (64, a 6) := id rfl
theorem ls_26 (f : Nat → Int32) : (mk c (ml a r)).set 26 (.inl (64, f)) = mk c (ml (ca a 6 f) r) := id rfl
theorem la_27 : m_arr (mk c (ml a r)) 27 = some (64, a 7) := id rfl
theorem ls_27 (f : Nat → Int32) : (mk c (ml a r)).set 27 (.inl (64, f)) = mk c (ml (ca a 7 f) r) := id rfl
theorem la_28 : m_arr (mk c (ml a r)) 28 = some (1, a 8) := id rfl
theorem ls_28 (f : Nat → Int32) : (mk c (ml a r)).set 28 (.inl (1, f)) = mk c (ml (ca a 8 f) r) := id rfl
end LMEM
theorem cx_0_1 (a : Nat → Nat → Int32) (f : Nat → Int32) : ca a 0 f 1 = a 1 := id rfl
theorem cx_0_2 (a : Nat → Nat → Int32) (f : Nat → Int32) : ca a 0 f 2 = a 2 := id rfl
theorem cx_0_3 (a : Nat → Nat → Int32) (f : Nat → Int32) : ca a 0 f 3 = a 3 := id rfl
theorem cx_0_4 (a : Nat → Nat → Int32) (f : Nat → Int32) : ca a 0 f 4 = a 4 := id rfl
theorem cx_0_5 (a : Nat → Nat → Int32) (f : Nat → Int32) : ca a 0 f 5 = a 5 := id rfl
theorem cx_0_6 (a : Nat → Nat → Int32) (f : Nat → Int32) : ca a 0 f 6 = a 6 := id rfl
theorem cx_0_7 (a : Nat → Nat → Int32) (f : Nat → Int32) : ca a 0 f 7 = a 7 := id rfl
theorem cx_0_8 (a : Nat → Nat → Int32) (f : Nat → Int32) : ca a 0 f 8 = a 8 := id rfl
theorem cx_1_0 (a : Nat → Nat → Int32) (f : Nat → Int32) : ca a 1 f 0 = a 0 := id rfl
theorem cx_1_2 (a : Nat → Nat → Int32) (f : Nat → Int32) : ca a 1 f 2 = a 2 := id rfl
theorem cx_1_3 (a : Nat → Nat → Int32) (f : Nat → Int32) : ca a 1 f 3 = a 3 := id rfl
theorem cx_1_4 (a : Nat → Nat → Int32) (f : Nat → Int32) : ca a 1 f 4 = a 4 := id rfl
theorem cx_1_5 (a : Nat → Nat → Int32) (f : Nat → Int32) : ca a 1 f 5 = a 5 := id rfl
theorem cx_1_6 (a : Nat → Nat → Int32) (f : Nat → Int32) : ca a 1 f 6 = a 6 := id rfl
theorem cx_1_7 (a : Nat → Nat → Int32) (f : Nat → Int32) : ca a 1 f 7 = a 7 := id rfl
theorem cx_1_8 (a : Nat → Nat → Int32) (f : Nat → Int32) : ca a 1 f 8 = a 8 := id rfl
theorem cx_2_0 (a : Nat → Nat → Int32) (f : Nat → Int32) : ca a 2 f 0 = a 0 := id rfl
theorem cx_2_1 (a : Nat → Nat → Int32) (f : Nat → Int32) : ca a 2 f 1 = a 1 := id rfl
theorem cx_2_3 (a : Nat → Nat → Int32) (f : Nat → Int32) : ca a 2 f 3 = a 3 := id rfl
theorem cx_2_4 (a : Nat → Nat → Int32) (f : Nat → Int32) : ca a 2 f 4 = a 4 := id rfl
theorem cx_2_5 (a : Nat → Nat → Int32) (f : Nat → Int32) : ca a 2 f 5 = a 5 := id rfl
theorem cx_2_6 (a : Nat → Nat → Int32) (f : Nat → Int32) : ca a 2 f 6 = a 6 := id rfl
theorem cx_2_7 (a : Nat → Nat → Int32) (f : Nat → Int32) : ca a 2 f 7 = a 7 := id rfl
theorem cx_2_8 (a : Nat → Nat → Int32) (f : Nat → Int32) : ca a 2 f 8 = a 8 := id rfl
theorem cx_3_0 (a : Nat → Nat → Int32) (f : Nat → Int32) : ca a 3 f 0 = a 0 := id rfl
theorem cx_3_1 (a : Nat → Nat → Int32) (f : Nat → Int32) : ca a 3 f 1 = a 1 := id rfl
theorem cx_3_2 (a : Nat → Nat → Int32) (f : Nat → Int32) : ca a 3 f 2 = a 2 := id rfl
theorem cx_3_4 (a : Nat → Nat → Int32) (f : Nat → Int32) : ca a 3 f 4 = a 4 := id rfl
theorem cx_3_5 (a : Nat → Nat → Int32) (f : Nat → Int32) : ca a 3 f 5 = a 5 := id rfl
theorem cx_3_6 (a : Nat → Nat → Int32) (f : Nat → Int32) : ca a 3 f 6 = a 6 := id rfl
theorem cx_3_7 (a : Nat → Nat → Int32) (f : Nat → Int32) : ca a 3 f 7 = a 7 := id rfl
theorem cx_3_8 (a : Nat → Nat → Int32) (f : Nat → Int32) : ca a 3 f 8 = a 8 := id rfl
theorem cx_4_0 (a : Nat → Nat → Int32) (f : Nat → Int32) : ca a 4 f 0 = a 0 := id rfl
theorem cx_4_1 (a : Nat → Nat → Int32) (f : Nat → Int32) : ca a 4 f 1 = a 1 := id rfl
theorem cx_4_2 (a : Nat → Nat → Int32) (f : Nat → Int32) : ca a 4 f 2 = a 2 := id rfl
theorem cx_4_3 (a : Nat → Nat → Int32) (f : Nat → Int32) : ca a 4 f 3 = a 3 := id rfl
theorem cx_4_5 (a : Nat → Nat → Int32) (f : Nat → Int32) : ca a 4 f 5 = a 5 := id rfl
theorem cx_4_6 (a : Nat → Nat → Int32) (f : Nat → Int32) : ca a 4 f 6 = a 6 := id rfl
theorem cx_4_7 (a : Nat → Nat → Int32) (f : Nat → Int32) : ca a 4 f 7 = a 7 := id rfl
theorem cx_4_8 (a : Nat → Nat → Int32) (f : Nat → Int32) : ca a 4 f 8 = a 8 := id rfl
theorem cx_5_0 (a : Nat → Nat → Int32) (f : Nat → Int32) : ca a 5 f 0 = a 0 := id rfl
theorem cx_5_1 (a : Nat → Nat → Int32) (f : Nat → Int32) : ca a 5 f 1 = a 1 := id rfl
theorem cx_5_2 (a : Nat → Nat → Int32) (f : Nat → Int32) : ca a 5 f 2 = a 2 := id rfl
theorem cx_5_3 (a : Nat → Nat → Int32) (f : Nat → Int32) : ca a 5 f 3 = a 3 := id rfl
theorem cx_5_4 (a : Nat → Nat → Int32) (f : Nat → Int32) : ca a 5 f 4 = a 4 := id rfl
theorem cx_5_6 (a : Nat → Nat → Int32) (f : Nat → Int32) : ca a 5 f 6 = a 6 := id rfl
theorem cx_5_7 (a : Nat → Nat → Int32) (f : Nat → Int32) : ca a 5 f 7 = a 7 := id rfl
theorem cx_5_8 (a : Nat → Nat → Int32) (f : Nat → Int32) : ca a 5 f 8 = a 8 := id rfl
theorem cx_6_0 (a : Nat → Nat → Int32) (f : Nat → Int32) : ca a 6 f 0 = a 0 := id rfl
theorem cx_6_1 (a : Nat → Nat → Int32) (f : Nat → Int32) : ca a 6 f 1 = a 1 := id rfl
theorem cx_6_2 (a : Nat → Nat → Int32) (f : Nat → Int32) : ca a 6 f 2 = a 2 := id rfl
theorem cx_6_3 (a : Nat → Nat → Int32) (f : Nat → Int32) : ca a 6 f 3 = a 3 := id rfl
theorem cx_6_4 (a : Nat → Nat → Int32) (f : Nat → Int32) : ca a 6 f 4 = a 4 := id rfl
theorem cx_6_5 (a : Nat → Nat → Int32) (f : Nat → Int32) : ca a 6 f 5 = a 5 := id rfl
theorem cx_6_7 (a : Nat → Nat → Int32) (f : Nat → Int32) : ca a 6 f 7 = a 7 := id rfl
theorem cx_6_8 (a : Nat → Nat → Int32) (f : Nat → Int32) : ca a 6 f 8 = a 8 := id rfl
theorem cx_7_0 (a : Nat → Nat → Int32) (f : Nat → Int32) : ca a 7 f 0 = a 0 := id rfl
theorem cx_7_1 (a : Nat → Nat → Int32) (f : Nat → Int32) : ca a 7 f 1 = a 1 := id rfl
theorem cx_7_2 (a : Nat → Nat → Int32) (f : Nat → Int32) : ca a 7 f 2 = a 2 := id rfl
theorem cx_7_3 (a : Nat → Nat → Int32) (f : Nat → Int32) : ca a 7 f 3 = a 3 := id rfl
theorem cx_7_4 (a : Nat → Nat → Int32) (f : Nat → Int32) : ca a 7 f 4 = a 4 := id rfl
theorem cx_7_5 (a : Nat → Nat → Int32) (f : Nat → Int32) : ca a 7 f 5 = a 5 := id rfl
theorem cx_7_6 (a : Nat → Nat → Int32) (f : Nat → Int32) : ca a 7 f 6 = a 6 := id rfl
theorem cx_7_8 (a : Nat → Nat → Int32) (f : Nat → Int32) : ca a 7 f 8 = a 8 := id rfl
theorem cx_8_0 (a : Nat → Nat → Int32) (f : Nat → Int32) : ca a 8 f 0 = a 0 := id rfl
theorem cx_8_1 (a : Nat → Nat → Int32) (f : Nat → Int32) : ca a 8 f 1 = a 1 := id rfl
theorem cx_8_2 (a : Nat → Nat → Int32) (f : Nat → Int32) : ca a 8 f 2 = a 2 := id rfl
theorem cx_8_3 (a : Nat → Nat → Int32) (f : Nat → Int32) : ca a 8 f 3 = a 3 := id rfl
theorem cx_8_4 (a : Nat → Nat → Int32) (f : Nat → Int32) : ca a 8 f 4 = a 4 := id rfl
theorem cx_8_5 (a : Nat → Nat → Int32) (f : Nat → Int32) : ca a 8 f 5 = a 5 := id rfl
theorem cx_8_6 (a : Nat → Nat → Int32) (f : Nat → Int32) : ca a 8 f 6 = a 6 := id rfl
theorem cx_8_7 (a : Nat → Nat → Int32) (f : Nat → Int32) : ca a 8 f 7 = a 7 := id rfl
theorem ca_self (d : Nat → Nat → Int32) (k : Nat) : ca d k (d k) = d := by
  funext j
  by_cases e : j = k
  · subst e; exact ca_eq _ _ _
  · exact ca_ne e
theorem ca_ca (d : Nat → Nat → Int32) (k : Nat) (f g : Nat → Int32) : ca (ca d k f) k g = ca d k g := by
  funext j
  by_cases e : j = k
  · subst e; rw [ca_eq, ca_eq]
  · rw [ca_ne e, ca_ne e, ca_ne e]
theorem ib {p n : Nat} (h : p < n) (hn : n < 2 ^ 31 := by decide) : m_inb (nI p) n = true := (inb_iff hn).mpr ⟨nI_pos' (by omega), nI_lt h hn⟩
theorem ib_0 : m_inb 0 1 = true := by decide
theorem ib_1 : m_inb 0 64 = true := by decide
theorem ic_0 : (0 : Int32).toNatClampNeg = 0 := rfl
theorem kr_len (c a : Nat → Nat → Int32) (r : mM) : (mk c (ml a r)).length = r.length + 29 := rfl
theorem kr_app (c a : Nat → Nat → Int32) (r : mM) (x : mC) : mk c (ml a r) ++ [x] = mk c (ml a (r ++ [x])) := rfl
theorem kr_get (c a : Nat → Nat → Int32) (r : mM) (n : Nat) (f : Nat → Int32) : m_arr (mk c (ml a (r ++ [.inl (n, f)]))) (r.length + 29) = some (n, f) := by
  have h : (mk c (ml a (r ++ [.inl (n, f)])))[r.length + 29]? = (r ++ [.inl (n, f)])[r.length]? := rfl
  unfold m_arr
  rw [h, List.getElem?_append_right (Nat.le_refl _), Nat.sub_self]
  rfl
theorem kr_set (c a : Nat → Nat → Int32) (r : mM) (x y : mC) : (mk c (ml a (r ++ [x]))).set (r.length + 29) y = mk c (ml a (r ++ [y])) := by
  have h : (mk c (ml a (r ++ [x]))).set (r.length + 29) y = mk c (ml a ((r ++ [x]).set r.length y)) := rfl
  rw [h, List.set_append_right _ _ (Nat.le_refl _), Nat.sub_self]
  rfl
theorem nI_dec (n : Nat) : nI (n + 1) + -1 = nI n := by rw [← Int32.sub_eq_add_neg, nI_pred]
/-- the nearest L's place, -1 for none -/
def nbm (o : Option Nat) : Int32 := match o with
  | none => -1
  | some x => nI x
theorem nbm_neg {o : Option Nat} (h : ∀ x, o = some x → x < 2 ^ 31) : (nbm o < 0) ↔ o = none := by
  cases o with
  | none => exact ⟨fun _ => rfl, fun _ => by decide⟩
  | some x => exact ⟨fun z => absurd z (nI_pos (h x rfl)), fun z => by cases z⟩
theorem nbm_pos {o : Option Nat} (h : ∀ x, o = some x → x < 2 ^ 31) : (0 ≤ nbm o) ↔ o ≠ none := by
  rw [← Int32.not_lt, nbm_neg h]
/-- the law's rows hold the term -/
def LT (a : Nat → Nat → Int32) (l : Tm) : Prop := a 8 0 = nI l.length ∧ ∀ p, p < l.length → a 0 p = nI (kd l p) ∧ a 1 p = nI (bn l p)
def LN (a : Nat → Nat → Int32) (l : Tm) (k : Nat) : Prop := ∀ p, p < k → a 2 p = nbm (nb l p)
theorem LT.sx {ks : List Nat} {a a' : Nat → Nat → Int32} {l : Tm} (h : LT a l) (hs : sx ks a a') (h0 : 0 ∉ ks) (h1 : 1 ∉ ks) (h8 : 8 ∉ ks) : LT a' l := by
  refine ⟨by rw [hs 8 h8]; exact h.1, fun p hp => ?_⟩
  rw [hs 0 h0, hs 1 h1]
  exact h.2 p hp
theorem LN.sx {ks : List Nat} {a a' : Nat → Nat → Int32} {l : Tm} {k : Nat} (h : LN a l k) (hs : sx ks a a') (h2 : 2 ∉ ks) : LN a' l k := fun p hp => by
  rw [hs 2 h2]
  exact h p hp
/-- the stack of what waits -/
def WT (f : Nat → Int32) (s : List Int32) : Prop := ∀ i, i < s.length → f i = s.getD (s.length - 1 - i) 0
theorem WT.hd {f : Nat → Int32} {d : Int32} {s : List Int32} (h : WT f (d :: s)) : f s.length = d := by
  rw [h s.length (by rw [List.length_cons]; omega), List.length_cons, show s.length + 1 - 1 - s.length = 0 by omega]
  rfl
theorem WT.tl {f : Nat → Int32} {d : Int32} {s : List Int32} (h : WT f (d :: s)) : WT f s := fun i hi => by
  rw [h i (by rw [List.length_cons]; omega), List.length_cons, show s.length + 1 - 1 - i = (s.length - 1 - i) + 1 by omega]
  rfl
theorem WT.put {f : Nat → Int32} {d : Int32} {s : List Int32} (h : WT f s) : WT (upd f s.length d) (d :: s) := fun i hi => by
  rw [List.length_cons] at hi ⊢
  by_cases e : i = s.length
  · subst e
    rw [upd_eq, show s.length + 1 - 1 - s.length = 0 by omega]
    rfl
  · rw [upd_ne e, h i (by omega), show s.length + 1 - 1 - i = (s.length - 1 - i) + 1 by omega]
    rfl
def wl (l : Tm) (k : Nat) : List Int32 := (sk l k).map fun e => nbm e.2
theorem wl_len (l : Tm) (k : Nat) : (wl l k).length = (sk l k).length := List.length_map _
theorem sk_bound (l : Tm) : ∀ p, (sk l p).length ≤ p + 1
  | 0 => Nat.le_refl _
  | p + 1 => by
    have ih := sk_bound l p
    show (stp p (pt l p) (sk l p)).length ≤ _
    cases hs : sk l p with
    | nil => exact Nat.zero_le _
    | cons e s =>
      rw [hs, List.length_cons] at ih
      rw [stp_len]
      unfold ar
      split
      · omega
      · split <;> omega
theorem wl_step {l : Tm} {k : Nat} {s : List (Nat × Option Nat)} (hs : sk l k = (dep l k, nb l k) :: s) : wl l k = nbm (nb l k) :: s.map (fun e => nbm e.2) ∧ wl l (k + 1) = (if kd l k = 2 then nI k :: s.map (fun e => nbm e.2) else if kd l k = 3 then nbm (nb l k) :: nbm (nb l k) :: s.map (fun e => nbm e.2) else s.map (fun e => nbm e.2)) := by
  refine ⟨by unfold wl; rw [hs]; rfl, ?_⟩
  unfold wl
  show (stp k (pt l k) (sk l k)).map _ = _
  rw [hs, stp_cons]
  show _ = if (pt l k).1 = 2 then _ else if (pt l k).1 = 3 then _ else _
  split
  · rfl
  · split <;> rfl
