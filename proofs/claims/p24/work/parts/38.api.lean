/-! what each call answers and what state it leaves, the object's and the model's alike -/
def rgx (x : Int32) (n : Nat) : Option Nat := if 0 ≤ x ∧ x < nI n then some x.toNatClampNeg else none
def fux (x : Int32) : Option Nat := if 1 ≤ x ∧ x ≤ 200 then some x.toNatClampNeg else none
theorem rgx_some {x : Int32} {n i : Nat} (h : rgx x n = some i) (hn : n < 2 ^ 31) : i < n ∧ x = nI i := by
  unfold rgx at h
  split at h
  · rename_i hc
    obtain ⟨j, hj, rfl⟩ := inR_of hc hn
    have e : (nI j).toNatClampNeg = j := nI_clamp (by omega)
    rw [e] at h
    cases h
    exact ⟨hj, rfl⟩
  · cases h
theorem rgx_no {x : Int32} {n : Nat} (h : rgx x n = none) : ¬ inR x n := by
  unfold rgx at h
  split at h
  · cases h
  · rename_i hc
    exact hc
theorem rgx_nI {n i : Nat} (h : i < n) (hn : n < 2 ^ 31) : rgx (nI i) n = some i := by
  unfold rgx
  rw [if_pos (show 0 ≤ nI i ∧ nI i < nI n from inR_nI h hn), nI_clamp (by omega)]
theorem fux_some {x : Int32} {i : Nat} (h : fux x = some i) : 1 ≤ i ∧ i ≤ 200 ∧ x = nI i := by
  unfold fux at h
  split at h
  · rename_i hc
    obtain ⟨j, h1, h2, rfl⟩ := inF_of hc
    have e : (nI j).toNatClampNeg = j := nI_clamp (by omega)
    rw [e] at h
    cases h
    exact ⟨h1, h2, rfl⟩
  · cases h
theorem fux_no {x : Int32} (h : fux x = none) : ¬ inF x := by
  unfold fux at h
  split at h
  · cases h
  · rename_i hc
    exact hc
theorem fux_nI {i : Nat} (h1 : 1 ≤ i) (h2 : i ≤ 200) : fux (nI i) = some i := by
  unfold fux
  rw [if_pos ⟨nI_le (a := 1) h1 (by omega), nI_le (b := 200) h2 (by decide)⟩, nI_clamp (by omega)]
abbrev RS : Type := Int32 × Sg
def F_read (σ : Sg) (x : Int32) : RS := match rgx x 6 with
  | none => (-1, σ)
  | some i => if flt σ.2.2.2 [0] 0 = -6 then (nI σ.2.2.2.length, (tu σ.1 i (σ.2.2.2.map tm1), (σ.1 :: σ.2.1).take 6, σ.2.2.1, [])) else (-3, σ)
def F_copy (σ : Sg) (x y : Int32) : RS := match rgx x 6 with
  | none => (-1, σ)
  | some i => match rgx y 6 with
    | none => (-1, σ)
    | some j => (nI (σ.1 i).length, setR (kp σ) j (σ.1 i))
def F_apply (σ : Sg) (x y z : Int32) : RS := match rgx x 6 with
  | none => (-1, σ)
  | some i => match rgx y 6 with
    | none => (-1, σ)
    | some j => match rgx z 6 with
      | none => (-1, σ)
      | some k => if 1 + (σ.1 i).length + (σ.1 j).length ≤ 200 then (nI (1 + (σ.1 i).length + (σ.1 j).length), setR (kp σ) k ((3, 0) :: (σ.1 i ++ σ.1 j))) else (-4, σ)
def F_bind (σ : Sg) (x k z : Int32) : RS := match rgx x 6 with
  | none => (-1, σ)
  | some i => match rgx z 6 with
    | none => (-1, σ)
    | some j => match rgx k 6 with
      | none => (-2, σ)
      | some k => if 1 + (σ.1 i).length ≤ 200 then (nI (bnc (σ.1 i) k (σ.1 i).length), setR (kp σ) j (bnl (σ.1 i) k (σ.1 i).length)) else (-4, σ)
def F_step (σ : Sg) (x o : Int32) : RS := match rgx x 6 with
  | none => (-1, σ)
  | some i => match rgx o 3 with
    | none => (-2, σ)
    | some o => match nxt (σ.1 i) o with
      | none => (-5, σ)
      | some p => if (rwt (σ.1 i) p).length ≤ 200 then (nI (rwt (σ.1 i) p).length, setR (kp σ) i (rwt (σ.1 i) p)) else (-4, σ)
def F_run (σ : Sg) (x o f : Int32) : RS := match rgx x 6 with
  | none => (-1, σ)
  | some i => match rgx o 3 with
    | none => (-2, σ)
    | some o => match fux f with
      | none => (-2, σ)
      | some n => (nI (rn o n (σ.1 i)).1, setR (kp σ) i (rn o n (σ.1 i)).2.2)
def ofv (l : Tm) : Nat → Int32
  | 0 => nI l.length
  | 1 => nI (cnt (fun q => decide (kd l q = 2)) l.length)
  | 2 => nI (cnt (fun q => decide (kd l q = 3)) l.length)
  | 3 => nI (cnt (fun q => decide (kd l q = 0)) l.length)
  | 4 => nI (cnt (fun q => decide (kd l q = 1)) l.length)
  | 5 => nI (mxd (dep l) l.length)
  | 6 => nI (cnt (red l) l.length)
  | 7 => nbI (nxt l 0)
  | 8 => nbI (nxt l 1)
  | 9 => nbI (nxt l 2)
  | _ => mxv l l.length
def F_of (σ : Sg) (x w : Int32) : RS := match rgx x 6 with
  | none => (-1, σ)
  | some i => match rgx w 11 with
    | none => (-2, σ)
    | some k => (ofv (σ.1 i) k, σ)
def prv (l : Tm) (p : Nat) : Nat → Int32
  | 0 => nI (kd l p)
  | 1 => nI (nu l p)
  | 2 => nI (dep l p)
  | 3 => nI (en l p)
  | _ => bndr l p
def F_part (σ : Sg) (x p w : Int32) : RS := match rgx x 6 with
  | none => (-1, σ)
  | some i => match rgx p (σ.1 i).length with
    | none => (-1, σ)
    | some p => match rgx w 5 with
      | none => (-2, σ)
      | some k => (prv (σ.1 i) p k, σ)
def F_named (σ : Sg) (x p : Int32) : RS := match rgx x 6 with
  | none => (-1, σ)
  | some i => (chr (txt (σ.1 i) (σ.1 i).length) p, σ)
def F_same (σ : Sg) (x y : Int32) : RS := match rgx x 6 with
  | none => (-1, σ)
  | some i => match rgx y 6 with
    | none => (-1, σ)
    | some j => (if σ.1 i = σ.1 j then 1 else 0, σ)
def prs (R : Nat → Tm) : Int32 := nI (sumF (fun r => (R r).length) 6)
def F_count (σ : Sg) (w : Int32) : RS := match rgx w 4 with
  | none => (-2, σ)
  | some 0 => (prs σ.1, σ)
  | some 1 => (msk σ.1 6, σ)
  | some 2 => (nI σ.2.2.2.length, σ)
  | some _ => (nI σ.2.1.length, σ)
def F_ends (σ : Sg) (x o f : Int32) : RS := match rgx x 6 with
  | none => (-1, σ)
  | some i => match rgx o 3 with
    | none => (-2, σ)
    | some o => match fux f with
      | none => (-2, σ)
      | some n => (if nxt (rn o n (σ.1 i)).2.2 o = none then nI (rn o n (σ.1 i)).1 else -6, σ)
def mtv (l l' : Tm) (o o' n : Nat) : Int32 := if nxt (rn o n l).2.2 o = none then (if nxt (rn o' n l').2.2 o' = none then (if (rn o n l).2.2 = (rn o' n l').2.2 then 1 else 0) else -6) else -6
def F_agree (σ : Sg) (x f : Int32) : RS := match rgx x 6 with
  | none => (-1, σ)
  | some i => match fux f with
    | none => (-2, σ)
    | some n => (mtv (σ.1 i) (σ.1 i) 0 1 n, σ)
def F_most (σ : Sg) (x o f : Int32) : RS := match rgx x 6 with
  | none => (-1, σ)
  | some i => match rgx o 3 with
    | none => (-2, σ)
    | some o => match fux f with
      | none => (-2, σ)
      | some n => (nI (rn o n (σ.1 i)).2.1, σ)
def F_alike (σ : Sg) (x y f : Int32) : RS := match rgx x 6 with
  | none => (-1, σ)
  | some i => match rgx y 6 with
    | none => (-1, σ)
    | some j => match fux f with
      | none => (-2, σ)
      | some n => (mtv (σ.1 i) (σ.1 j) 0 0 n, σ)
def F_put (σ : Sg) (r : Nat) : RS := match bys 8 r with
  | none => (-2, σ)
  | some [] => (-2, σ)
  | some (b :: l) => if σ.2.2.2.length + (b :: l).length ≤ 60 then (nI (σ.2.2.2.length + (b :: l).length), (σ.1, σ.2.1, σ.2.2.1, σ.2.2.2 ++ (b :: l).reverse)) else (-4, σ)
def F_wipe (σ : Sg) : RS := (nI σ.2.2.2.length, (σ.1, σ.2.1, σ.2.2.1, []))
def F_fault (σ : Sg) : RS := (flt σ.2.2.2 [0] 0, σ)
def F_undo (σ : Sg) : RS := match σ.2.1 with
  | [] => (-5, σ)
  | st :: hs => (nI hs.length, (st, hs, σ.2.2.1, σ.2.2.2))
def F_save (σ : Sg) (s : Int32) : RS := match rgx s 2 with
  | none => (-2, σ)
  | some s => (prs σ.1, (σ.1, σ.2.1, (fun j => if j = s then some σ.1 else σ.2.2.1 j), σ.2.2.2))
def F_restore (σ : Sg) (s : Int32) : RS := match rgx s 2 with
  | none => (-2, σ)
  | some s => match σ.2.2.1 s with
    | none => (-5, σ)
    | some st => (prs st, (st, (σ.1 :: σ.2.1).take 6, σ.2.2.1, σ.2.2.2))
/-! each leaves a sound state -/
theorem stq_fr (q : Nat × Nat) (d : Nat) (s R : List Nat) : stq q (d :: s) ++ R = stq q ((d :: s) ++ R) := by
  rw [List.cons_append, stq_cons, stq_cons]
  split
  · rfl
  · split <;> rfl
theorem okL_fr (R : List Nat) : ∀ (l : Tm) (s : List Nat), okL l s → okL l (s ++ R) ∧ skL l (s ++ R) = skL l s ++ R
  | [], s, _ => ⟨trivial, rfl⟩
  | q :: l, s, h => by
    obtain ⟨⟨d, s', rfl, h1⟩, h2⟩ := h
    obtain ⟨h3, h4⟩ := okL_fr R l (stq q (d :: s')) h2
    rw [stq_fr] at h3 h4
    exact ⟨⟨⟨d, s' ++ R, rfl, h1⟩, h3⟩, h4⟩
theorem WF.okL {l : Tm} (h : WF l) : okL l [0] ∧ skL l [0] = [] := by
  have h1 := WF.take h l.length (Nat.le_refl _)
  rw [List.take_length] at h1
  refine ⟨h1.1, h1.2.trans ?_⟩
  unfold dk
  rw [h.2]
  rfl
theorem app_WF {f a : Tm} (hf : WF f) (ha : WF a) : WF ((3, 0) :: (f ++ a)) := by
  obtain ⟨f1, f2⟩ := hf.okL
  obtain ⟨a1, a2⟩ := ha.okL
  obtain ⟨f3, f4⟩ := okL_fr [0] f [0] f1
  rw [f2] at f4
  refine WF_of ⟨⟨0, [], rfl, Or.inr (Or.inr (Or.inr ⟨rfl, rfl⟩))⟩, ?_⟩ ?_
  · show okL (f ++ a) ([0] ++ [0])
    rw [okL_app, f4]
    exact ⟨f3, a1⟩
  · show skL (f ++ a) ([0] ++ [0]) = []
    rw [skL_app, f4]
    exact a2
section OKS
variable {σ : Sg}
theorem SOk.reg (ho : SOk σ) {i : Nat} (hi : i < 6) : Tok (σ.1 i) := ho.1 i hi
theorem SOk.pad (ho : SOk σ) : Pok σ.2.2.2 := ho.2.2.2.2
theorem O_read (ho : SOk σ) (x : Int32) : SOk (F_read σ x).2 := by
  unfold F_read
  cases hx : rgx x 6 with
  | none => exact ho
  | some i =>
    show SOk (if _ then _ else _ : RS).2
    split
    · rename_i hf
      obtain ⟨h1, h2, h3, h4, h5⟩ := kp_ok ho
      obtain ⟨z1, -⟩ := setR_ok (i := i) (kp_ok ho) (flt_WF ho.pad hf)
      exact ⟨z1, h2, h3, h4, ⟨Nat.zero_le _, fun ch hc => by cases hc⟩⟩
    · exact ho
theorem O_copy (ho : SOk σ) (x y : Int32) : SOk (F_copy σ x y).2 := by
  unfold F_copy
  cases hx : rgx x 6 with
  | none => exact ho
  | some i =>
    cases hy : rgx y 6 with
    | none => exact ho
    | some j => exact setR_ok (kp_ok ho) (ho.reg (rgx_some hx (by decide)).1)
theorem O_apply (ho : SOk σ) (x y z : Int32) : SOk (F_apply σ x y z).2 := by
  unfold F_apply
  cases hx : rgx x 6 with
  | none => exact ho
  | some i =>
    cases hy : rgx y 6 with
    | none => exact ho
    | some j =>
      cases hz : rgx z 6 with
      | none => exact ho
      | some k =>
        show SOk (if _ then _ else _ : RS).2
        split
        · rename_i hf
          refine setR_ok (kp_ok ho) ⟨app_WF (ho.reg (rgx_some hx (by decide)).1).1 (ho.reg (rgx_some hy (by decide)).1).1, ?_⟩
          rw [List.length_cons, List.length_append]
          omega
        · exact ho
theorem O_bind (ho : SOk σ) (x k z : Int32) : SOk (F_bind σ x k z).2 := by
  unfold F_bind
  cases hx : rgx x 6 with
  | none => exact ho
  | some i =>
    cases hy : rgx z 6 with
    | none => exact ho
    | some j =>
      cases hz : rgx k 6 with
      | none => exact ho
      | some k =>
        show SOk (if _ then _ else _ : RS).2
        split
        · rename_i hf
          refine setR_ok (kp_ok ho) ⟨bnl_WF (ho.reg (rgx_some hx (by decide)).1).1 k, ?_⟩
          rw [bnl_len]
          omega
        · exact ho
theorem O_step (ho : SOk σ) (x o : Int32) : SOk (F_step σ x o).2 := by
  unfold F_step
  cases hx : rgx x 6 with
  | none => exact ho
  | some i =>
    cases hy : rgx o 3 with
    | none => exact ho
    | some o =>
      have hk := ho.reg (rgx_some hx (by decide)).1
      dsimp only
      cases hz : nxt (σ.1 i) o with
      | none => exact ho
      | some p =>
        show SOk (if _ then _ else _ : RS).2
        split
        · rename_i hf
          obtain ⟨n1, n2⟩ := nxt_red hz
          exact setR_ok (kp_ok ho) ⟨rwt_ok hk.1 n1 n2, hf⟩
        · exact ho
theorem O_run (ho : SOk σ) (x o f : Int32) : SOk (F_run σ x o f).2 := by
  unfold F_run
  cases hx : rgx x 6 with
  | none => exact ho
  | some i =>
    cases hy : rgx o 3 with
    | none => exact ho
    | some o =>
      cases hz : fux f with
      | none => exact ho
      | some n => exact setR_ok (kp_ok ho) (rn_ok (ho.reg (rgx_some hx (by decide)).1)).1
theorem O_of (ho : SOk σ) (x w : Int32) : SOk (F_of σ x w).2 := by
  unfold F_of
  cases hx : rgx x 6 with
  | none => exact ho
  | some i => cases hy : rgx w 11 with
    | none => exact ho
    | some k => exact ho
theorem O_part (ho : SOk σ) (x p w : Int32) : SOk (F_part σ x p w).2 := by
  unfold F_part
  cases hx : rgx x 6 with
  | none => exact ho
  | some i => dsimp only; cases hy : rgx p (σ.1 i).length with
    | none => exact ho
    | some k => cases hw : rgx w 5 with
      | none => exact ho
      | some k => exact ho
theorem O_named (ho : SOk σ) (x p : Int32) : SOk (F_named σ x p).2 := by
  unfold F_named
  cases hx : rgx x 6 with
  | none => exact ho
  | some i => exact ho
theorem O_same (ho : SOk σ) (x y : Int32) : SOk (F_same σ x y).2 := by
  unfold F_same
  cases hx : rgx x 6 with
  | none => exact ho
  | some i => cases hy : rgx y 6 with
    | none => exact ho
    | some k => exact ho
theorem O_count (ho : SOk σ) (w : Int32) : SOk (F_count σ w).2 := by
  unfold F_count
  split <;> exact ho
theorem O_ends (ho : SOk σ) (x o f : Int32) : SOk (F_ends σ x o f).2 := by
  unfold F_ends
  cases hx : rgx x 6 with
  | none => exact ho
  | some i => cases hy : rgx o 3 with
    | none => exact ho
    | some o => cases hz : fux f with
      | none => exact ho
      | some n => exact ho
theorem O_agree (ho : SOk σ) (x f : Int32) : SOk (F_agree σ x f).2 := by
  unfold F_agree
  cases hx : rgx x 6 with
  | none => exact ho
  | some i => cases hz : fux f with
    | none => exact ho
    | some n => exact ho
theorem O_most (ho : SOk σ) (x o f : Int32) : SOk (F_most σ x o f).2 := by
  unfold F_most
  cases hx : rgx x 6 with
  | none => exact ho
  | some i => cases hy : rgx o 3 with
    | none => exact ho
    | some o => cases hz : fux f with
      | none => exact ho
      | some n => exact ho
theorem O_alike (ho : SOk σ) (x y f : Int32) : SOk (F_alike σ x y f).2 := by
  unfold F_alike
  cases hx : rgx x 6 with
  | none => exact ho
  | some i => cases hy : rgx y 6 with
    | none => exact ho
    | some o => cases hz : fux f with
      | none => exact ho
      | some n => exact ho
theorem O_put (ho : SOk σ) (r : Nat) : SOk (F_put σ r).2 := by
  unfold F_put
  match hb : bys 8 r with
  | none => exact ho
  | some [] => exact ho
  | some (b :: l) =>
    show SOk (if _ then _ else _ : RS).2
    split
    · rename_i hf
      obtain ⟨b1, b2, b3⟩ := bys_all hb
      refine ⟨ho.1, ho.2.1, ho.2.2.1, ho.2.2.2.1, ?_, fun ch hc => ?_⟩
      · show (σ.2.2.2 ++ (b :: l).reverse).length ≤ 60
        rw [List.length_append, List.length_reverse]
        exact hf
      · rcases List.mem_append.mp hc with h | h
        · exact ho.pad.2 ch h
        · exact b2 ch (List.mem_reverse.mp h)
    · exact ho
theorem O_wipe (ho : SOk σ) : SOk (F_wipe σ).2 := ⟨ho.1, ho.2.1, ho.2.2.1, ho.2.2.2.1, Nat.zero_le _, fun ch hc => by cases hc⟩
theorem O_fault (ho : SOk σ) : SOk (F_fault σ).2 := ho
theorem O_undo (ho : SOk σ) : SOk (F_undo σ).2 := by
  obtain ⟨R, hs, sl, P⟩ := σ
  obtain ⟨h1, h2, h3, h4, h5⟩ := ho
  cases hs with
  | nil => exact ⟨h1, h2, h3, h4, h5⟩
  | cons st hs => exact ⟨h2 st List.mem_cons_self, fun u hu => h2 u (List.mem_cons_of_mem _ hu), h3, Nat.le_of_succ_le h4, h5⟩
theorem O_save (ho : SOk σ) (s : Int32) : SOk (F_save σ s).2 := by
  unfold F_save
  cases hx : rgx s 2 with
  | none => exact ho
  | some i =>
    refine ⟨ho.1, ho.2.1, fun s hs st hst => ?_, ho.2.2.2⟩
    have hst : (if s = i then some σ.1 else σ.2.2.1 s) = some st := hst
    split at hst
    · cases hst
      exact ho.1
    · exact ho.2.2.1 s hs st hst
theorem O_restore (ho : SOk σ) (s : Int32) : SOk (F_restore σ s).2 := by
  unfold F_restore
  cases hx : rgx s 2 with
  | none => exact ho
  | some i =>
    cases hz : σ.2.2.1 i with
    | none => simp only [hz]; exact ho
    | some st =>
      simp only [hz]
      exact ⟨ho.2.2.1 i (rgx_some hx (by decide)).1 st hz, (kp_ok ho).2⟩
end OKS

