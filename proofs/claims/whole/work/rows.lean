section
-- ===== PART A: goes FIRST, ahead of the names: the tables' words, and 'selects' of the private methods out of them =====
/-- a private method of a class that the tables say can be made, by its rows of tables_1 -/
def lw_okq (q : MethodName × Nat) : Prop := (q.1.cls ≠ "java/lang/invoke/MethodHandle" ∧ q.1.cls ≠ "java/lang/invoke/VarHandle") ∧ Cond.instantiable q.1.cls q.2 ∈ tables_1 ∧ Cond.privateMethod q.1 ∈ tables_1 ∧ Cond.instanceMethod q.1 ∈ tables_1
theorem lw_p0 : lw_okq (⟨"CountedTerms", "draftFunction", "(II)I"⟩, 5) := ⟨⟨by decide +kernel, by decide +kernel⟩, List.mem_of_getElem? (i := 12) (by decide +kernel), List.mem_of_getElem? (i := 231) (by decide +kernel), List.mem_of_getElem? (i := 232) (by decide +kernel)⟩
theorem lw_p1 : lw_okq (⟨"CountedTerms$Survey", "findEnds", "()V"⟩, 6) := ⟨⟨by decide +kernel, by decide +kernel⟩, List.mem_of_getElem? (i := 47) (by decide +kernel), List.mem_of_getElem? (i := 240) (by decide +kernel), List.mem_of_getElem? (i := 241) (by decide +kernel)⟩
theorem lw_p2 : lw_okq (⟨"CountedTerms$Survey", "findSurroundings", "()V"⟩, 6) := ⟨⟨by decide +kernel, by decide +kernel⟩, List.mem_of_getElem? (i := 47) (by decide +kernel), List.mem_of_getElem? (i := 254) (by decide +kernel), List.mem_of_getElem? (i := 255) (by decide +kernel)⟩
theorem lw_p3 : lw_okq (⟨"CountedTerms$Survey", "surroundAs", "(II)V"⟩, 6) := ⟨⟨by decide +kernel, by decide +kernel⟩, List.mem_of_getElem? (i := 47) (by decide +kernel), List.mem_of_getElem? (i := 262) (by decide +kernel), List.mem_of_getElem? (i := 263) (by decide +kernel)⟩
theorem lw_p4 : lw_okq (⟨"CountedTerms$Survey", "firstInner", "()I"⟩, 6) := ⟨⟨by decide +kernel, by decide +kernel⟩, List.mem_of_getElem? (i := 47) (by decide +kernel), List.mem_of_getElem? (i := 283) (by decide +kernel), List.mem_of_getElem? (i := 284) (by decide +kernel)⟩
theorem lw_p5 : lw_okq (⟨"CountedTerms$Survey", "isReducible", "(I)Z"⟩, 6) := ⟨⟨by decide +kernel, by decide +kernel⟩, List.mem_of_getElem? (i := 47) (by decide +kernel), List.mem_of_getElem? (i := 287) (by decide +kernel), List.mem_of_getElem? (i := 288) (by decide +kernel)⟩
theorem lw_p6 : lw_okq (⟨"CountedTerms$Rewriter", "functionsWithin", "(II)I"⟩, 4) := ⟨⟨by decide +kernel, by decide +kernel⟩, List.mem_of_getElem? (i := 74) (by decide +kernel), List.mem_of_getElem? (i := 302) (by decide +kernel), List.mem_of_getElem? (i := 303) (by decide +kernel)⟩
theorem lw_p7 : lw_okq (⟨"CountedTerms$Rewriter", "draftArgument", "(II)V"⟩, 4) := ⟨⟨by decide +kernel, by decide +kernel⟩, List.mem_of_getElem? (i := 74) (by decide +kernel), List.mem_of_getElem? (i := 315) (by decide +kernel), List.mem_of_getElem? (i := 316) (by decide +kernel)⟩
theorem lw_p8 : lw_okq (⟨"CountedTerms$Survey", "sign", "(I)I"⟩, 6) := ⟨⟨by decide +kernel, by decide +kernel⟩, List.mem_of_getElem? (i := 47) (by decide +kernel), List.mem_of_getElem? (i := 382) (by decide +kernel), List.mem_of_getElem? (i := 383) (by decide +kernel)⟩
theorem lw_p9 : lw_okq (⟨"CountedTerms", "registersAtRest", "()I"⟩, 5) := ⟨⟨by decide +kernel, by decide +kernel⟩, List.mem_of_getElem? (i := 12) (by decide +kernel), List.mem_of_getElem? (i := 405) (by decide +kernel), List.mem_of_getElem? (i := 406) (by decide +kernel)⟩
theorem lw_p10 : lw_okq (⟨"CountedTermsModel", "findFault", "()I"⟩, 17) := ⟨⟨by decide +kernel, by decide +kernel⟩, List.mem_of_getElem? (i := 480) (by decide +kernel), List.mem_of_getElem? (i := 548) (by decide +kernel), List.mem_of_getElem? (i := 549) (by decide +kernel)⟩
theorem lw_p11 : lw_okq (⟨"CountedTermsModel", "record", "()V"⟩, 17) := ⟨⟨by decide +kernel, by decide +kernel⟩, List.mem_of_getElem? (i := 480) (by decide +kernel), List.mem_of_getElem? (i := 555) (by decide +kernel), List.mem_of_getElem? (i := 556) (by decide +kernel)⟩
theorem lw_p12 : lw_okq (⟨"CountedTermsModel", "store", "(I)V"⟩, 17) := ⟨⟨by decide +kernel, by decide +kernel⟩, List.mem_of_getElem? (i := 480) (by decide +kernel), List.mem_of_getElem? (i := 562) (by decide +kernel), List.mem_of_getElem? (i := 563) (by decide +kernel)⟩
theorem lw_p13 : lw_okq (⟨"CountedTermsModel", "load", "(I)V"⟩, 17) := ⟨⟨by decide +kernel, by decide +kernel⟩, List.mem_of_getElem? (i := 480) (by decide +kernel), List.mem_of_getElem? (i := 570) (by decide +kernel), List.mem_of_getElem? (i := 571) (by decide +kernel)⟩
theorem lw_p14 : lw_okq (⟨"CountedTermsModel", "findDepths", "()V"⟩, 17) := ⟨⟨by decide +kernel, by decide +kernel⟩, List.mem_of_getElem? (i := 480) (by decide +kernel), List.mem_of_getElem? (i := 574) (by decide +kernel), List.mem_of_getElem? (i := 575) (by decide +kernel)⟩
theorem lw_p15 : lw_okq (⟨"CountedTermsModel", "kindAt", "(I)I"⟩, 17) := ⟨⟨by decide +kernel, by decide +kernel⟩, List.mem_of_getElem? (i := 480) (by decide +kernel), List.mem_of_getElem? (i := 578) (by decide +kernel), List.mem_of_getElem? (i := 579) (by decide +kernel)⟩
def lw_privs_1 : List (MethodName × Nat) := [(⟨"CountedTerms", "draftFunction", "(II)I"⟩, 5), (⟨"CountedTerms$Survey", "findEnds", "()V"⟩, 6), (⟨"CountedTerms$Survey", "findSurroundings", "()V"⟩, 6), (⟨"CountedTerms$Survey", "surroundAs", "(II)V"⟩, 6), (⟨"CountedTerms$Survey", "firstInner", "()I"⟩, 6), (⟨"CountedTerms$Survey", "isReducible", "(I)Z"⟩, 6), (⟨"CountedTerms$Rewriter", "functionsWithin", "(II)I"⟩, 4), (⟨"CountedTerms$Rewriter", "draftArgument", "(II)V"⟩, 4), (⟨"CountedTerms$Survey", "sign", "(I)I"⟩, 6), (⟨"CountedTerms", "registersAtRest", "()I"⟩, 5), (⟨"CountedTermsModel", "findFault", "()I"⟩, 17), (⟨"CountedTermsModel", "record", "()V"⟩, 17), (⟨"CountedTermsModel", "store", "(I)V"⟩, 17), (⟨"CountedTermsModel", "load", "(I)V"⟩, 17), (⟨"CountedTermsModel", "findDepths", "()V"⟩, 17), (⟨"CountedTermsModel", "kindAt", "(I)I"⟩, 17)]
theorem lw_r1 : ∀ q ∈ lw_privs_1, lw_okq q := List.forall_mem_cons.mpr ⟨lw_p0, List.forall_mem_cons.mpr ⟨lw_p1, List.forall_mem_cons.mpr ⟨lw_p2, List.forall_mem_cons.mpr ⟨lw_p3, List.forall_mem_cons.mpr ⟨lw_p4, List.forall_mem_cons.mpr ⟨lw_p5, List.forall_mem_cons.mpr ⟨lw_p6, List.forall_mem_cons.mpr ⟨lw_p7, List.forall_mem_cons.mpr ⟨lw_p8, List.forall_mem_cons.mpr ⟨lw_p9, List.forall_mem_cons.mpr ⟨lw_p10, List.forall_mem_cons.mpr ⟨lw_p11, List.forall_mem_cons.mpr ⟨lw_p12, List.forall_mem_cons.mpr ⟨lw_p13, List.forall_mem_cons.mpr ⟨lw_p14, List.forall_mem_cons.mpr ⟨lw_p15, fun _ h => absurd h List.not_mem_nil⟩⟩⟩⟩⟩⟩⟩⟩⟩⟩⟩⟩⟩⟩⟩⟩
theorem lw_p16 : lw_okq (⟨"CountedTermsModel", "gives", "(I)V"⟩, 17) := ⟨⟨by decide +kernel, by decide +kernel⟩, List.mem_of_getElem? (i := 480) (by decide +kernel), List.mem_of_getElem? (i := 590) (by decide +kernel), List.mem_of_getElem? (i := 591) (by decide +kernel)⟩
theorem lw_p17 : lw_okq (⟨"CountedTermsModel", "goes", "(I)I"⟩, 17) := ⟨⟨by decide +kernel, by decide +kernel⟩, List.mem_of_getElem? (i := 480) (by decide +kernel), List.mem_of_getElem? (i := 598) (by decide +kernel), List.mem_of_getElem? (i := 599) (by decide +kernel)⟩
theorem lw_p18 : lw_okq (⟨"CountedTermsModel", "nextBy", "(I)I"⟩, 17) := ⟨⟨by decide +kernel, by decide +kernel⟩, List.mem_of_getElem? (i := 480) (by decide +kernel), List.mem_of_getElem? (i := 602) (by decide +kernel), List.mem_of_getElem? (i := 603) (by decide +kernel)⟩
theorem lw_p19 : lw_okq (⟨"CountedTermsModel", "canCome", "(II)Z"⟩, 17) := ⟨⟨by decide +kernel, by decide +kernel⟩, List.mem_of_getElem? (i := 480) (by decide +kernel), List.mem_of_getElem? (i := 606) (by decide +kernel), List.mem_of_getElem? (i := 607) (by decide +kernel)⟩
theorem lw_p20 : lw_okq (⟨"CountedTermsModel", "isReducible", "(I)Z"⟩, 17) := ⟨⟨by decide +kernel, by decide +kernel⟩, List.mem_of_getElem? (i := 480) (by decide +kernel), List.mem_of_getElem? (i := 610) (by decide +kernel), List.mem_of_getElem? (i := 611) (by decide +kernel)⟩
theorem lw_p21 : lw_okq (⟨"CountedTermsModel", "endOf", "(I)I"⟩, 17) := ⟨⟨by decide +kernel, by decide +kernel⟩, List.mem_of_getElem? (i := 480) (by decide +kernel), List.mem_of_getElem? (i := 614) (by decide +kernel), List.mem_of_getElem? (i := 615) (by decide +kernel)⟩
theorem lw_p22 : lw_okq (⟨"CountedTermsModel", "hasReducible", "(II)Z"⟩, 17) := ⟨⟨by decide +kernel, by decide +kernel⟩, List.mem_of_getElem? (i := 480) (by decide +kernel), List.mem_of_getElem? (i := 618) (by decide +kernel), List.mem_of_getElem? (i := 619) (by decide +kernel)⟩
theorem lw_p23 : lw_okq (⟨"CountedTermsModel", "usesOf", "(II)I"⟩, 17) := ⟨⟨by decide +kernel, by decide +kernel⟩, List.mem_of_getElem? (i := 480) (by decide +kernel), List.mem_of_getElem? (i := 622) (by decide +kernel), List.mem_of_getElem? (i := 623) (by decide +kernel)⟩
theorem lw_p24 : lw_okq (⟨"CountedTermsModel", "numberAt", "(I)I"⟩, 17) := ⟨⟨by decide +kernel, by decide +kernel⟩, List.mem_of_getElem? (i := 480) (by decide +kernel), List.mem_of_getElem? (i := 626) (by decide +kernel), List.mem_of_getElem? (i := 627) (by decide +kernel)⟩
theorem lw_p25 : lw_okq (⟨"CountedTermsModel", "givesBody", "(III)V"⟩, 17) := ⟨⟨by decide +kernel, by decide +kernel⟩, List.mem_of_getElem? (i := 480) (by decide +kernel), List.mem_of_getElem? (i := 630) (by decide +kernel), List.mem_of_getElem? (i := 631) (by decide +kernel)⟩
theorem lw_p26 : lw_okq (⟨"CountedTermsModel", "givesArgument", "(III)V"⟩, 17) := ⟨⟨by decide +kernel, by decide +kernel⟩, List.mem_of_getElem? (i := 480) (by decide +kernel), List.mem_of_getElem? (i := 634) (by decide +kernel), List.mem_of_getElem? (i := 635) (by decide +kernel)⟩
theorem lw_p27 : lw_okq (⟨"CountedTermsModel", "goesOn", "(II)I"⟩, 17) := ⟨⟨by decide +kernel, by decide +kernel⟩, List.mem_of_getElem? (i := 480) (by decide +kernel), List.mem_of_getElem? (i := 645) (by decide +kernel), List.mem_of_getElem? (i := 646) (by decide +kernel)⟩
theorem lw_p28 : lw_okq (⟨"CountedTermsModel", "ofKind", "(I)I"⟩, 17) := ⟨⟨by decide +kernel, by decide +kernel⟩, List.mem_of_getElem? (i := 480) (by decide +kernel), List.mem_of_getElem? (i := 653) (by decide +kernel), List.mem_of_getElem? (i := 654) (by decide +kernel)⟩
theorem lw_p29 : lw_okq (⟨"CountedTermsModel", "deepest", "()I"⟩, 17) := ⟨⟨by decide +kernel, by decide +kernel⟩, List.mem_of_getElem? (i := 480) (by decide +kernel), List.mem_of_getElem? (i := 657) (by decide +kernel), List.mem_of_getElem? (i := 658) (by decide +kernel)⟩
theorem lw_p30 : lw_okq (⟨"CountedTermsModel", "reducibleMany", "()I"⟩, 17) := ⟨⟨by decide +kernel, by decide +kernel⟩, List.mem_of_getElem? (i := 480) (by decide +kernel), List.mem_of_getElem? (i := 661) (by decide +kernel), List.mem_of_getElem? (i := 662) (by decide +kernel)⟩
theorem lw_p31 : lw_okq (⟨"CountedTermsModel", "greatest", "()I"⟩, 17) := ⟨⟨by decide +kernel, by decide +kernel⟩, List.mem_of_getElem? (i := 480) (by decide +kernel), List.mem_of_getElem? (i := 665) (by decide +kernel), List.mem_of_getElem? (i := 666) (by decide +kernel)⟩
def lw_privs_2 : List (MethodName × Nat) := [(⟨"CountedTermsModel", "gives", "(I)V"⟩, 17), (⟨"CountedTermsModel", "goes", "(I)I"⟩, 17), (⟨"CountedTermsModel", "nextBy", "(I)I"⟩, 17), (⟨"CountedTermsModel", "canCome", "(II)Z"⟩, 17), (⟨"CountedTermsModel", "isReducible", "(I)Z"⟩, 17), (⟨"CountedTermsModel", "endOf", "(I)I"⟩, 17), (⟨"CountedTermsModel", "hasReducible", "(II)Z"⟩, 17), (⟨"CountedTermsModel", "usesOf", "(II)I"⟩, 17), (⟨"CountedTermsModel", "numberAt", "(I)I"⟩, 17), (⟨"CountedTermsModel", "givesBody", "(III)V"⟩, 17), (⟨"CountedTermsModel", "givesArgument", "(III)V"⟩, 17), (⟨"CountedTermsModel", "goesOn", "(II)I"⟩, 17), (⟨"CountedTermsModel", "ofKind", "(I)I"⟩, 17), (⟨"CountedTermsModel", "deepest", "()I"⟩, 17), (⟨"CountedTermsModel", "reducibleMany", "()I"⟩, 17), (⟨"CountedTermsModel", "greatest", "()I"⟩, 17)]
theorem lw_r2 : ∀ q ∈ lw_privs_2, lw_okq q := List.forall_mem_cons.mpr ⟨lw_p16, List.forall_mem_cons.mpr ⟨lw_p17, List.forall_mem_cons.mpr ⟨lw_p18, List.forall_mem_cons.mpr ⟨lw_p19, List.forall_mem_cons.mpr ⟨lw_p20, List.forall_mem_cons.mpr ⟨lw_p21, List.forall_mem_cons.mpr ⟨lw_p22, List.forall_mem_cons.mpr ⟨lw_p23, List.forall_mem_cons.mpr ⟨lw_p24, List.forall_mem_cons.mpr ⟨lw_p25, List.forall_mem_cons.mpr ⟨lw_p26, List.forall_mem_cons.mpr ⟨lw_p27, List.forall_mem_cons.mpr ⟨lw_p28, List.forall_mem_cons.mpr ⟨lw_p29, List.forall_mem_cons.mpr ⟨lw_p30, List.forall_mem_cons.mpr ⟨lw_p31, fun _ h => absurd h List.not_mem_nil⟩⟩⟩⟩⟩⟩⟩⟩⟩⟩⟩⟩⟩⟩⟩⟩
theorem lw_p32 : lw_okq (⟨"CountedTermsModel", "binderOf", "(I)I"⟩, 17) := ⟨⟨by decide +kernel, by decide +kernel⟩, List.mem_of_getElem? (i := 480) (by decide +kernel), List.mem_of_getElem? (i := 673) (by decide +kernel), List.mem_of_getElem? (i := 674) (by decide +kernel)⟩
theorem lw_p33 : lw_okq (⟨"CountedTermsModel", "print", "()V"⟩, 17) := ⟨⟨by decide +kernel, by decide +kernel⟩, List.mem_of_getElem? (i := 480) (by decide +kernel), List.mem_of_getElem? (i := 681) (by decide +kernel), List.mem_of_getElem? (i := 682) (by decide +kernel)⟩
theorem lw_p34 : lw_okq (⟨"CountedTermsModel", "says", "(I)V"⟩, 17) := ⟨⟨by decide +kernel, by decide +kernel⟩, List.mem_of_getElem? (i := 480) (by decide +kernel), List.mem_of_getElem? (i := 688) (by decide +kernel), List.mem_of_getElem? (i := 689) (by decide +kernel)⟩
theorem lw_p35 : lw_okq (⟨"CountedTermsModel", "allParts", "()I"⟩, 17) := ⟨⟨by decide +kernel, by decide +kernel⟩, List.mem_of_getElem? (i := 480) (by decide +kernel), List.mem_of_getElem? (i := 700) (by decide +kernel), List.mem_of_getElem? (i := 701) (by decide +kernel)⟩
theorem lw_p36 : lw_okq (⟨"CountedTermsModel", "atRest", "()I"⟩, 17) := ⟨⟨by decide +kernel, by decide +kernel⟩, List.mem_of_getElem? (i := 480) (by decide +kernel), List.mem_of_getElem? (i := 704) (by decide +kernel), List.mem_of_getElem? (i := 705) (by decide +kernel)⟩
theorem lw_p37 : lw_okq (⟨"CountedTermsModel", "meet", "(IIIII)I"⟩, 17) := ⟨⟨by decide +kernel, by decide +kernel⟩, List.mem_of_getElem? (i := 480) (by decide +kernel), List.mem_of_getElem? (i := 716) (by decide +kernel), List.mem_of_getElem? (i := 717) (by decide +kernel)⟩
def lw_privs_3 : List (MethodName × Nat) := [(⟨"CountedTermsModel", "binderOf", "(I)I"⟩, 17), (⟨"CountedTermsModel", "print", "()V"⟩, 17), (⟨"CountedTermsModel", "says", "(I)V"⟩, 17), (⟨"CountedTermsModel", "allParts", "()I"⟩, 17), (⟨"CountedTermsModel", "atRest", "()I"⟩, 17), (⟨"CountedTermsModel", "meet", "(IIIII)I"⟩, 17)]
theorem lw_r3 : ∀ q ∈ lw_privs_3, lw_okq q := List.forall_mem_cons.mpr ⟨lw_p32, List.forall_mem_cons.mpr ⟨lw_p33, List.forall_mem_cons.mpr ⟨lw_p34, List.forall_mem_cons.mpr ⟨lw_p35, List.forall_mem_cons.mpr ⟨lw_p36, List.forall_mem_cons.mpr ⟨lw_p37, fun _ h => absurd h List.not_mem_nil⟩⟩⟩⟩⟩⟩
def lw_privs : List (MethodName × Nat) := lw_privs_1 ++ (lw_privs_2 ++ (lw_privs_3))
def lw_tbl : List Cond := k2_sels lw_privs ++ tables_1
theorem lw_privs_ok : ∀ q ∈ lw_privs, lw_okq q := by
  show ∀ q ∈ lw_privs_1 ++ (lw_privs_2 ++ (lw_privs_3)), lw_okq q
  exact List.forall_mem_append.mpr ⟨lw_r1, List.forall_mem_append.mpr ⟨lw_r2, lw_r3⟩⟩
end
section
def RX0 : String := "CountedTerms$History"
def TX0 : u_T := fun k => match k with
  | 0 => ("CountedTerms$History", "shelf", "LCountedTerms$Shelf;", true)
  | 1 => ("CountedTerms$History", "next", "I", false)
  | _ => ("CountedTerms$History", "length", "I", false)
def tyX0 : Nat → FieldType := fun k => match k with
  | 0 => .object "CountedTerms$Shelf"
  | 1 => .int
  | _ => .int
abbrev wsX00 : List Cond := u_ws RX0 TX0 3
theorem nmX0 : ∀ a, a < 3 → ∀ b, b < 3 → a ≠ b → (TX0 a).2.1 ≠ (TX0 b).2.1 := by decide +kernel
theorem tyX0_ok : ∀ k, k < 3 → parseFieldDescriptor (TX0 k).2.2.1 = some (tyX0 k) := by decide +kernel
abbrev cX0_init : ByteArray := prog_2_method_1_code
def yX0_init : MethodName := ⟨RX0, "<init>", "(LCountedTerms$Shelf;)V"⟩
abbrev cX0_length : ByteArray := prog_2_method_2_code
def yX0_length : MethodName := ⟨RX0, "length", "()I"⟩
abbrev cX0_keepState : ByteArray := prog_2_method_3_code
def yX0_keepState : MethodName := ⟨RX0, "keepState", "()V"⟩
abbrev cX0_takeBack : ByteArray := prog_2_method_4_code
def yX0_takeBack : MethodName := ⟨RX0, "takeBack", "()V"⟩
def RX1 : String := "CountedTerms$Pad"
def TX1 : u_T := fun k => match k with
  | 0 => ("CountedTerms$Pad", "characters", "LCountedTerms$Row;", true)
  | 1 => ("CountedTerms$Pad", "awaited", "LCountedTerms$Row;", true)
  | _ => ("CountedTerms$Pad", "length", "I", false)
def tyX1 : Nat → FieldType := fun k => match k with
  | 0 => .object "CountedTerms$Row"
  | 1 => .object "CountedTerms$Row"
  | _ => .int
abbrev wsX10 : List Cond := u_ws RX1 TX1 3
theorem nmX1 : ∀ a, a < 3 → ∀ b, b < 3 → a ≠ b → (TX1 a).2.1 ≠ (TX1 b).2.1 := by decide +kernel
theorem tyX1_ok : ∀ k, k < 3 → parseFieldDescriptor (TX1 k).2.2.1 = some (tyX1 k) := by decide +kernel
abbrev cX1_init : ByteArray := prog_3_method_1_code
def yX1_init : MethodName := ⟨RX1, "<init>", "()V"⟩
abbrev cX1_charactersIn : ByteArray := prog_3_method_2_code
def yX1_charactersIn : MethodName := ⟨RX1, "charactersIn", "(J)I"⟩
abbrev cX1_length : ByteArray := prog_3_method_3_code
def yX1_length : MethodName := ⟨RX1, "length", "()I"⟩
abbrev cX1_empty : ByteArray := prog_3_method_4_code
def yX1_empty : MethodName := ⟨RX1, "empty", "()V"⟩
abbrev cX1_append : ByteArray := prog_3_method_5_code
def yX1_append : MethodName := ⟨RX1, "append", "(JI)V"⟩
abbrev cX1_firstWrong : ByteArray := prog_3_method_6_code
def yX1_firstWrong : MethodName := ⟨RX1, "firstWrong", "()I"⟩
abbrev cX1_writeTo : ByteArray := prog_3_method_7_code
def yX1_writeTo : MethodName := ⟨RX1, "writeTo", "(LCountedTerms$Shelf;I)V"⟩
abbrev cX1_kindOf : ByteArray := prog_3_method_8_code
def yX1_kindOf : MethodName := ⟨RX1, "kindOf", "(I)I"⟩
def RX2 : String := "CountedTerms$Rewriter"
def TX2 : u_T := fun k => match k with
  | 0 => ("CountedTerms$Rewriter", "shelf", "LCountedTerms$Shelf;", true)
  | 1 => ("CountedTerms$Rewriter", "survey", "LCountedTerms$Survey;", true)
  | 2 => ("CountedTerms$Rewriter", "steps", "I", false)
  | _ => ("CountedTerms$Rewriter", "greatest", "I", false)
def tyX2 : Nat → FieldType := fun k => match k with
  | 0 => .object "CountedTerms$Shelf"
  | 1 => .object "CountedTerms$Survey"
  | 2 => .int
  | _ => .int
abbrev wsX20 : List Cond := u_ws RX2 TX2 4
theorem nmX2 : ∀ a, a < 4 → ∀ b, b < 4 → a ≠ b → (TX2 a).2.1 ≠ (TX2 b).2.1 := by decide +kernel
theorem tyX2_ok : ∀ k, k < 4 → parseFieldDescriptor (TX2 k).2.2.1 = some (tyX2 k) := by decide +kernel
abbrev cX2_init : ByteArray := prog_4_method_1_code
def yX2_init : MethodName := ⟨RX2, "<init>", "(LCountedTerms$Shelf;LCountedTerms$Survey;)V"⟩
abbrev cX2_stepsDone : ByteArray := prog_4_method_2_code
def yX2_stepsDone : MethodName := ⟨RX2, "stepsDone", "()I"⟩
abbrev cX2_greatestLength : ByteArray := prog_4_method_3_code
def yX2_greatestLength : MethodName := ⟨RX2, "greatestLength", "()I"⟩
abbrev cX2_doSteps : ByteArray := prog_4_method_4_code
def yX2_doSteps : MethodName := ⟨RX2, "doSteps", "(III)Z"⟩
abbrev cX2_lengthBehind : ByteArray := prog_4_method_5_code
def yX2_lengthBehind : MethodName := ⟨RX2, "lengthBehind", "(I)I"⟩
abbrev cX2_rewrite : ByteArray := prog_4_method_6_code
def yX2_rewrite : MethodName := ⟨RX2, "rewrite", "(I)V"⟩
abbrev cX2_draftArgument : ByteArray := prog_4_method_7_code
def yX2_draftArgument : MethodName := ⟨RX2, "draftArgument", "(II)V"⟩
abbrev cX2_functionsWithin : ByteArray := prog_4_method_8_code
def yX2_functionsWithin : MethodName := ⟨RX2, "functionsWithin", "(II)I"⟩
def RX3 : String := "CountedTerms$Row"
def TX3 : u_T := fun k => match k with
  | _ => ("CountedTerms$Row", "numbers", "[I", true)
def tyX3 : Nat → FieldType := fun k => match k with
  | _ => .array .int
abbrev wsX30 : List Cond := u_ws RX3 TX3 1
theorem nmX3 : ∀ a, a < 1 → ∀ b, b < 1 → a ≠ b → (TX3 a).2.1 ≠ (TX3 b).2.1 := by decide +kernel
theorem tyX3_ok : ∀ k, k < 1 → parseFieldDescriptor (TX3 k).2.2.1 = some (tyX3 k) := by decide +kernel
abbrev cX3_init : ByteArray := prog_5_method_1_code
def yX3_init : MethodName := ⟨RX3, "<init>", "(I)V"⟩
abbrev cX3_get : ByteArray := prog_5_method_2_code
def yX3_get : MethodName := ⟨RX3, "get", "(I)I"⟩
abbrev cX3_set : ByteArray := prog_5_method_3_code
def yX3_set : MethodName := ⟨RX3, "set", "(II)V"⟩
abbrev cX3_move : ByteArray := prog_5_method_4_code
def yX3_move : MethodName := ⟨RX3, "move", "(III)V"⟩
def RX4 : String := "CountedTerms$Shelf"
def TX4 : u_T := fun k => match k with
  | 0 => ("CountedTerms$Shelf", "lengths", "LCountedTerms$Row;", true)
  | _ => ("CountedTerms$Shelf", "parts", "LCountedTerms$Row;", true)
def tyX4 : Nat → FieldType := fun k => match k with
  | 0 => .object "CountedTerms$Row"
  | _ => .object "CountedTerms$Row"
abbrev wsX40 : List Cond := u_ws RX4 TX4 2
theorem nmX4 : ∀ a, a < 2 → ∀ b, b < 2 → a ≠ b → (TX4 a).2.1 ≠ (TX4 b).2.1 := by decide +kernel
theorem tyX4_ok : ∀ k, k < 2 → parseFieldDescriptor (TX4 k).2.2.1 = some (tyX4 k) := by decide +kernel
abbrev cX4_init : ByteArray := prog_6_method_1_code
def yX4_init : MethodName := ⟨RX4, "<init>", "()V"⟩
abbrev cX4_length : ByteArray := prog_6_method_2_code
def yX4_length : MethodName := ⟨RX4, "length", "(I)I"⟩
abbrev cX4_kind : ByteArray := prog_6_method_3_code
def yX4_kind : MethodName := ⟨RX4, "kind", "(II)I"⟩
abbrev cX4_number : ByteArray := prog_6_method_4_code
def yX4_number : MethodName := ⟨RX4, "number", "(II)I"⟩
abbrev cX4_clear : ByteArray := prog_6_method_5_code
def yX4_clear : MethodName := ⟨RX4, "clear", "(I)V"⟩
abbrev cX4_append : ByteArray := prog_6_method_6_code
def yX4_append : MethodName := ⟨RX4, "append", "(III)V"⟩
abbrev cX4_appendParts : ByteArray := prog_6_method_7_code
def yX4_appendParts : MethodName := ⟨RX4, "appendParts", "(IIII)V"⟩
abbrev cX4_duplicate : ByteArray := prog_6_method_8_code
def yX4_duplicate : MethodName := ⟨RX4, "duplicate", "(II)V"⟩
abbrev cX4_duplicateState : ByteArray := prog_6_method_9_code
def yX4_duplicateState : MethodName := ⟨RX4, "duplicateState", "(II)V"⟩
abbrev cX4_alikePartByPart : ByteArray := prog_6_method_10_code
def yX4_alikePartByPart : MethodName := ⟨RX4, "alikePartByPart", "(II)Z"⟩
abbrev cX4_partsOfKind : ByteArray := prog_6_method_11_code
def yX4_partsOfKind : MethodName := ⟨RX4, "partsOfKind", "(II)I"⟩
abbrev cX4_greatestVariable : ByteArray := prog_6_method_12_code
def yX4_greatestVariable : MethodName := ⟨RX4, "greatestVariable", "(I)I"⟩
abbrev cX4_partsOfState : ByteArray := prog_6_method_13_code
def yX4_partsOfState : MethodName := ⟨RX4, "partsOfState", "(I)I"⟩
def RX5 : String := "CountedTerms$Survey"
def TX5 : u_T := fun k => match k with
  | 0 => ("CountedTerms$Survey", "shelf", "LCountedTerms$Shelf;", true)
  | 1 => ("CountedTerms$Survey", "behind", "LCountedTerms$Row;", true)
  | 2 => ("CountedTerms$Survey", "around", "LCountedTerms$Row;", true)
  | 3 => ("CountedTerms$Survey", "nearest", "LCountedTerms$Row;", true)
  | 4 => ("CountedTerms$Survey", "term", "I", false)
  | _ => ("CountedTerms$Survey", "length", "I", false)
def tyX5 : Nat → FieldType := fun k => match k with
  | 0 => .object "CountedTerms$Shelf"
  | 1 => .object "CountedTerms$Row"
  | 2 => .object "CountedTerms$Row"
  | 3 => .object "CountedTerms$Row"
  | 4 => .int
  | _ => .int
abbrev wsX50 : List Cond := u_ws RX5 TX5 6
theorem nmX5 : ∀ a, a < 6 → ∀ b, b < 6 → a ≠ b → (TX5 a).2.1 ≠ (TX5 b).2.1 := by decide +kernel
theorem tyX5_ok : ∀ k, k < 6 → parseFieldDescriptor (TX5 k).2.2.1 = some (tyX5 k) := by decide +kernel
abbrev cX5_init : ByteArray := prog_7_method_1_code
def yX5_init : MethodName := ⟨RX5, "<init>", "(LCountedTerms$Shelf;)V"⟩
abbrev cX5_look : ByteArray := prog_7_method_2_code
def yX5_look : MethodName := ⟨RX5, "look", "(I)V"⟩
abbrev cX5_term : ByteArray := prog_7_method_3_code
def yX5_term : MethodName := ⟨RX5, "term", "()I"⟩
abbrev cX5_behind : ByteArray := prog_7_method_4_code
def yX5_behind : MethodName := ⟨RX5, "behind", "(I)I"⟩
abbrev cX5_around : ByteArray := prog_7_method_5_code
def yX5_around : MethodName := ⟨RX5, "around", "(I)I"⟩
abbrev cX5_binder : ByteArray := prog_7_method_6_code
def yX5_binder : MethodName := ⟨RX5, "binder", "(I)I"⟩
abbrev cX5_mostAround : ByteArray := prog_7_method_7_code
def yX5_mostAround : MethodName := ⟨RX5, "mostAround", "()I"⟩
abbrev cX5_reduciblePlaces : ByteArray := prog_7_method_8_code
def yX5_reduciblePlaces : MethodName := ⟨RX5, "reduciblePlaces", "()I"⟩
abbrev cX5_next : ByteArray := prog_7_method_9_code
def yX5_next : MethodName := ⟨RX5, "next", "(I)I"⟩
abbrev cX5_printed : ByteArray := prog_7_method_10_code
def yX5_printed : MethodName := ⟨RX5, "printed", "(I)I"⟩
abbrev cX5_findEnds : ByteArray := prog_7_method_11_code
def yX5_findEnds : MethodName := ⟨RX5, "findEnds", "()V"⟩
abbrev cX5_findSurroundings : ByteArray := prog_7_method_12_code
def yX5_findSurroundings : MethodName := ⟨RX5, "findSurroundings", "()V"⟩
abbrev cX5_surroundAs : ByteArray := prog_7_method_13_code
def yX5_surroundAs : MethodName := ⟨RX5, "surroundAs", "(II)V"⟩
abbrev cX5_isReducible : ByteArray := prog_7_method_14_code
def yX5_isReducible : MethodName := ⟨RX5, "isReducible", "(I)Z"⟩
abbrev cX5_firstInner : ByteArray := prog_7_method_15_code
def yX5_firstInner : MethodName := ⟨RX5, "firstInner", "()I"⟩
abbrev cX5_sign : ByteArray := prog_7_method_16_code
def yX5_sign : MethodName := ⟨RX5, "sign", "(I)I"⟩
abbrev cX5_letter : ByteArray := prog_7_method_17_code
def yX5_letter : MethodName := ⟨RX5, "letter", "(I)I"⟩
def RX6 : String := "CountedTerms"
def TX6 : u_T := fun k => match k with
  | 0 => ("CountedTerms", "shelf", "LCountedTerms$Shelf;", true)
  | 1 => ("CountedTerms", "survey", "LCountedTerms$Survey;", true)
  | 2 => ("CountedTerms", "rewriter", "LCountedTerms$Rewriter;", true)
  | 3 => ("CountedTerms", "history", "LCountedTerms$History;", true)
  | _ => ("CountedTerms", "pad", "LCountedTerms$Pad;", true)
def tyX6 : Nat → FieldType := fun k => match k with
  | 0 => .object "CountedTerms$Shelf"
  | 1 => .object "CountedTerms$Survey"
  | 2 => .object "CountedTerms$Rewriter"
  | 3 => .object "CountedTerms$History"
  | _ => .object "CountedTerms$Pad"
abbrev wsX60 : List Cond := u_ws RX6 TX6 5
theorem nmX6 : ∀ a, a < 5 → ∀ b, b < 5 → a ≠ b → (TX6 a).2.1 ≠ (TX6 b).2.1 := by decide +kernel
theorem tyX6_ok : ∀ k, k < 5 → parseFieldDescriptor (TX6 k).2.2.1 = some (tyX6 k) := by decide +kernel
abbrev cX6_init : ByteArray := prog_1_method_1_code
def yX6_init : MethodName := ⟨RX6, "<init>", "()V"⟩
abbrev cX6_read : ByteArray := prog_1_method_2_code
def yX6_read : MethodName := ⟨RX6, "read", "(I)I"⟩
abbrev cX6_copy : ByteArray := prog_1_method_3_code
def yX6_copy : MethodName := ⟨RX6, "copy", "(II)I"⟩
abbrev cX6_apply : ByteArray := prog_1_method_4_code
def yX6_apply : MethodName := ⟨RX6, "apply", "(III)I"⟩
abbrev cX6_bind : ByteArray := prog_1_method_5_code
def yX6_bind : MethodName := ⟨RX6, "bind", "(III)I"⟩
abbrev cX6_step : ByteArray := prog_1_method_6_code
def yX6_step : MethodName := ⟨RX6, "step", "(II)I"⟩
abbrev cX6_run : ByteArray := prog_1_method_7_code
def yX6_run : MethodName := ⟨RX6, "run", "(III)I"⟩
abbrev cX6_of : ByteArray := prog_1_method_8_code
def yX6_of : MethodName := ⟨RX6, "of", "(II)I"⟩
abbrev cX6_part : ByteArray := prog_1_method_9_code
def yX6_part : MethodName := ⟨RX6, "part", "(III)I"⟩
abbrev cX6_named : ByteArray := prog_1_method_10_code
def yX6_named : MethodName := ⟨RX6, "named", "(II)I"⟩
abbrev cX6_same : ByteArray := prog_1_method_11_code
def yX6_same : MethodName := ⟨RX6, "same", "(II)I"⟩
abbrev cX6_count : ByteArray := prog_1_method_12_code
def yX6_count : MethodName := ⟨RX6, "count", "(I)I"⟩
abbrev cX6_ends : ByteArray := prog_1_method_13_code
def yX6_ends : MethodName := ⟨RX6, "ends", "(III)I"⟩
abbrev cX6_agree : ByteArray := prog_1_method_14_code
def yX6_agree : MethodName := ⟨RX6, "agree", "(II)I"⟩
abbrev cX6_most : ByteArray := prog_1_method_15_code
def yX6_most : MethodName := ⟨RX6, "most", "(III)I"⟩
abbrev cX6_alike : ByteArray := prog_1_method_16_code
def yX6_alike : MethodName := ⟨RX6, "alike", "(III)I"⟩
abbrev cX6_put : ByteArray := prog_1_method_17_code
def yX6_put : MethodName := ⟨RX6, "put", "(J)I"⟩
abbrev cX6_wipe : ByteArray := prog_1_method_18_code
def yX6_wipe : MethodName := ⟨RX6, "wipe", "()I"⟩
abbrev cX6_fault : ByteArray := prog_1_method_19_code
def yX6_fault : MethodName := ⟨RX6, "fault", "()I"⟩
abbrev cX6_undo : ByteArray := prog_1_method_20_code
def yX6_undo : MethodName := ⟨RX6, "undo", "()I"⟩
abbrev cX6_save : ByteArray := prog_1_method_21_code
def yX6_save : MethodName := ⟨RX6, "save", "(I)I"⟩
abbrev cX6_restore : ByteArray := prog_1_method_22_code
def yX6_restore : MethodName := ⟨RX6, "restore", "(I)I"⟩
abbrev cX6_isRegister : ByteArray := prog_1_method_23_code
def yX6_isRegister : MethodName := ⟨RX6, "isRegister", "(I)Z"⟩
abbrev cX6_isOrder : ByteArray := prog_1_method_24_code
def yX6_isOrder : MethodName := ⟨RX6, "isOrder", "(I)Z"⟩
abbrev cX6_isFuel : ByteArray := prog_1_method_25_code
def yX6_isFuel : MethodName := ⟨RX6, "isFuel", "(I)Z"⟩
abbrev cX6_isSlot : ByteArray := prog_1_method_26_code
def yX6_isSlot : MethodName := ⟨RX6, "isSlot", "(I)Z"⟩
abbrev cX6_draftFunction : ByteArray := prog_1_method_27_code
def yX6_draftFunction : MethodName := ⟨RX6, "draftFunction", "(II)I"⟩
abbrev cX6_registersAtRest : ByteArray := prog_1_method_28_code
def yX6_registersAtRest : MethodName := ⟨RX6, "registersAtRest", "()I"⟩
def RX7 : String := "CountedTermsModel"
def TX7 : u_T := fun k => match k with
  | 0 => ("CountedTermsModel", "state", "[I", true)
  | 1 => ("CountedTermsModel", "history", "[I", true)
  | 2 => ("CountedTermsModel", "recorded", "I", false)
  | 3 => ("CountedTermsModel", "slots", "[I", true)
  | 4 => ("CountedTermsModel", "isSaved", "[I", true)
  | 5 => ("CountedTermsModel", "pad", "[I", true)
  | 6 => ("CountedTermsModel", "padLength", "I", false)
  | 7 => ("CountedTermsModel", "row", "[I", true)
  | 8 => ("CountedTermsModel", "many", "I", false)
  | 9 => ("CountedTermsModel", "depths", "[I", true)
  | 10 => ("CountedTermsModel", "next", "[I", true)
  | 11 => ("CountedTermsModel", "nextMany", "I", false)
  | 12 => ("CountedTermsModel", "pending", "[I", true)
  | 13 => ("CountedTermsModel", "other", "[I", true)
  | 14 => ("CountedTermsModel", "otherMany", "I", false)
  | 15 => ("CountedTermsModel", "text", "[I", true)
  | _ => ("CountedTermsModel", "textLength", "I", false)
def tyX7 : Nat → FieldType := fun k => match k with
  | 0 => .array .int
  | 1 => .array .int
  | 2 => .int
  | 3 => .array .int
  | 4 => .array .int
  | 5 => .array .int
  | 6 => .int
  | 7 => .array .int
  | 8 => .int
  | 9 => .array .int
  | 10 => .array .int
  | 11 => .int
  | 12 => .array .int
  | 13 => .array .int
  | 14 => .int
  | 15 => .array .int
  | _ => .int
abbrev wsX70 : List Cond := u_ws RX7 TX7 17
theorem nmX7 : ∀ a, a < 17 → ∀ b, b < 17 → a ≠ b → (TX7 a).2.1 ≠ (TX7 b).2.1 := by decide +kernel
theorem tyX7_ok : ∀ k, k < 17 → parseFieldDescriptor (TX7 k).2.2.1 = some (tyX7 k) := by decide +kernel
abbrev cX7_init : ByteArray := prog_9_method_1_code
def yX7_init : MethodName := ⟨RX7, "<init>", "()V"⟩
abbrev cX7_moves : ByteArray := prog_9_method_3_code
def yX7_moves : MethodName := ⟨RX7, "moves", "([II[III)V"⟩
abbrev cX7_within : ByteArray := prog_9_method_4_code
def yX7_within : MethodName := ⟨RX7, "within", "(III)Z"⟩
abbrev cX7_record : ByteArray := prog_9_method_5_code
def yX7_record : MethodName := ⟨RX7, "record", "()V"⟩
abbrev cX7_isRegister : ByteArray := prog_9_method_6_code
def yX7_isRegister : MethodName := ⟨RX7, "isRegister", "(I)Z"⟩
abbrev cX7_load : ByteArray := prog_9_method_7_code
def yX7_load : MethodName := ⟨RX7, "load", "(I)V"⟩
abbrev cX7_store : ByteArray := prog_9_method_8_code
def yX7_store : MethodName := ⟨RX7, "store", "(I)V"⟩
abbrev cX7_kindAt : ByteArray := prog_9_method_9_code
def yX7_kindAt : MethodName := ⟨RX7, "kindAt", "(I)I"⟩
abbrev cX7_numberAt : ByteArray := prog_9_method_10_code
def yX7_numberAt : MethodName := ⟨RX7, "numberAt", "(I)I"⟩
abbrev cX7_findDepths : ByteArray := prog_9_method_11_code
def yX7_findDepths : MethodName := ⟨RX7, "findDepths", "()V"⟩
abbrev cX7_endOf : ByteArray := prog_9_method_12_code
def yX7_endOf : MethodName := ⟨RX7, "endOf", "(I)I"⟩
abbrev cX7_isReducible : ByteArray := prog_9_method_13_code
def yX7_isReducible : MethodName := ⟨RX7, "isReducible", "(I)Z"⟩
abbrev cX7_hasReducible : ByteArray := prog_9_method_14_code
def yX7_hasReducible : MethodName := ⟨RX7, "hasReducible", "(II)Z"⟩
abbrev cX7_canCome : ByteArray := prog_9_method_15_code
def yX7_canCome : MethodName := ⟨RX7, "canCome", "(II)Z"⟩
abbrev cX7_nextBy : ByteArray := prog_9_method_16_code
def yX7_nextBy : MethodName := ⟨RX7, "nextBy", "(I)I"⟩
abbrev cX7_gives : ByteArray := prog_9_method_17_code
def yX7_gives : MethodName := ⟨RX7, "gives", "(I)V"⟩
abbrev cX7_givesArgument : ByteArray := prog_9_method_18_code
def yX7_givesArgument : MethodName := ⟨RX7, "givesArgument", "(III)V"⟩
abbrev cX7_usesOf : ByteArray := prog_9_method_19_code
def yX7_usesOf : MethodName := ⟨RX7, "usesOf", "(II)I"⟩
abbrev cX7_givesBody : ByteArray := prog_9_method_20_code
def yX7_givesBody : MethodName := ⟨RX7, "givesBody", "(III)V"⟩
abbrev cX7_goes : ByteArray := prog_9_method_21_code
def yX7_goes : MethodName := ⟨RX7, "goes", "(I)I"⟩
abbrev cX7_goesOn : ByteArray := prog_9_method_22_code
def yX7_goesOn : MethodName := ⟨RX7, "goesOn", "(II)I"⟩
abbrev cX7_read : ByteArray := prog_9_method_23_code
def yX7_read : MethodName := ⟨RX7, "read", "(I)I"⟩
abbrev cX7_copy : ByteArray := prog_9_method_24_code
def yX7_copy : MethodName := ⟨RX7, "copy", "(II)I"⟩
abbrev cX7_apply : ByteArray := prog_9_method_25_code
def yX7_apply : MethodName := ⟨RX7, "apply", "(III)I"⟩
abbrev cX7_bind : ByteArray := prog_9_method_26_code
def yX7_bind : MethodName := ⟨RX7, "bind", "(III)I"⟩
abbrev cX7_step : ByteArray := prog_9_method_27_code
def yX7_step : MethodName := ⟨RX7, "step", "(II)I"⟩
abbrev cX7_isRun : ByteArray := prog_9_method_28_code
def yX7_isRun : MethodName := ⟨RX7, "isRun", "(II)Z"⟩
abbrev cX7_run : ByteArray := prog_9_method_29_code
def yX7_run : MethodName := ⟨RX7, "run", "(III)I"⟩
abbrev cX7_ofKind : ByteArray := prog_9_method_30_code
def yX7_ofKind : MethodName := ⟨RX7, "ofKind", "(I)I"⟩
abbrev cX7_deepest : ByteArray := prog_9_method_31_code
def yX7_deepest : MethodName := ⟨RX7, "deepest", "()I"⟩
abbrev cX7_reducibleMany : ByteArray := prog_9_method_32_code
def yX7_reducibleMany : MethodName := ⟨RX7, "reducibleMany", "()I"⟩
abbrev cX7_greatest : ByteArray := prog_9_method_33_code
def yX7_greatest : MethodName := ⟨RX7, "greatest", "()I"⟩
abbrev cX7_of : ByteArray := prog_9_method_34_code
def yX7_of : MethodName := ⟨RX7, "of", "(II)I"⟩
abbrev cX7_binderOf : ByteArray := prog_9_method_35_code
def yX7_binderOf : MethodName := ⟨RX7, "binderOf", "(I)I"⟩
abbrev cX7_part : ByteArray := prog_9_method_36_code
def yX7_part : MethodName := ⟨RX7, "part", "(III)I"⟩
abbrev cX7_says : ByteArray := prog_9_method_37_code
def yX7_says : MethodName := ⟨RX7, "says", "(I)V"⟩
abbrev cX7_nameBy : ByteArray := prog_9_method_38_code
def yX7_nameBy : MethodName := ⟨RX7, "nameBy", "(I)I"⟩
abbrev cX7_print : ByteArray := prog_9_method_39_code
def yX7_print : MethodName := ⟨RX7, "print", "()V"⟩
abbrev cX7_named : ByteArray := prog_9_method_40_code
def yX7_named : MethodName := ⟨RX7, "named", "(II)I"⟩
abbrev cX7_same : ByteArray := prog_9_method_41_code
def yX7_same : MethodName := ⟨RX7, "same", "(II)I"⟩
abbrev cX7_allParts : ByteArray := prog_9_method_42_code
def yX7_allParts : MethodName := ⟨RX7, "allParts", "()I"⟩
abbrev cX7_atRest : ByteArray := prog_9_method_43_code
def yX7_atRest : MethodName := ⟨RX7, "atRest", "()I"⟩
abbrev cX7_count : ByteArray := prog_9_method_44_code
def yX7_count : MethodName := ⟨RX7, "count", "(I)I"⟩
abbrev cX7_ends : ByteArray := prog_9_method_45_code
def yX7_ends : MethodName := ⟨RX7, "ends", "(III)I"⟩
abbrev cX7_meet : ByteArray := prog_9_method_46_code
def yX7_meet : MethodName := ⟨RX7, "meet", "(IIIII)I"⟩
abbrev cX7_agree : ByteArray := prog_9_method_47_code
def yX7_agree : MethodName := ⟨RX7, "agree", "(II)I"⟩
abbrev cX7_most : ByteArray := prog_9_method_48_code
def yX7_most : MethodName := ⟨RX7, "most", "(III)I"⟩
abbrev cX7_alike : ByteArray := prog_9_method_49_code
def yX7_alike : MethodName := ⟨RX7, "alike", "(III)I"⟩
abbrev cX7_put : ByteArray := prog_9_method_50_code
def yX7_put : MethodName := ⟨RX7, "put", "(J)I"⟩
abbrev cX7_wipe : ByteArray := prog_9_method_51_code
def yX7_wipe : MethodName := ⟨RX7, "wipe", "()I"⟩
abbrev cX7_partBy : ByteArray := prog_9_method_52_code
def yX7_partBy : MethodName := ⟨RX7, "partBy", "(I)I"⟩
abbrev cX7_findFault : ByteArray := prog_9_method_53_code
def yX7_findFault : MethodName := ⟨RX7, "findFault", "()I"⟩
abbrev cX7_fault : ByteArray := prog_9_method_54_code
def yX7_fault : MethodName := ⟨RX7, "fault", "()I"⟩
abbrev cX7_undo : ByteArray := prog_9_method_55_code
def yX7_undo : MethodName := ⟨RX7, "undo", "()I"⟩
abbrev cX7_save : ByteArray := prog_9_method_56_code
def yX7_save : MethodName := ⟨RX7, "save", "(I)I"⟩
abbrev cX7_restore : ByteArray := prog_9_method_57_code
def yX7_restore : MethodName := ⟨RX7, "restore", "(I)I"⟩
def RJ9 : String := "java/lang/Math"
def TJ9 : u_T := fun k => match k with
  | _ => ("", "", "", false)
def tyJ9 : Nat → FieldType := fun k => match k with
  | _ => .int
abbrev wsJ90 : List Cond := u_ws RJ9 TJ9 0
theorem nmJ9 : ∀ a, a < 0 → ∀ b, b < 0 → a ≠ b → (TJ9 a).2.1 ≠ (TJ9 b).2.1 := by decide +kernel
theorem tyJ9_ok : ∀ k, k < 0 → parseFieldDescriptor (TJ9 k).2.2.1 = some (tyJ9 k) := by decide +kernel
abbrev cJ9_max_7cf53 : ByteArray := prog_10_method_65_code
def yJ9_max_7cf53 : MethodName := ⟨RJ9, "max", "(II)I"⟩
abbrev cJ9_min_7cf53 : ByteArray := prog_10_method_69_code
def yJ9_min_7cf53 : MethodName := ⟨RJ9, "min", "(II)I"⟩
def RJ10 : String := "java/lang/System"
def TJ10 : u_T := fun k => match k with
  | _ => ("", "", "", false)
def tyJ10 : Nat → FieldType := fun k => match k with
  | _ => .int
abbrev wsJ100 : List Cond := u_ws RJ10 TJ10 0
theorem nmJ10 : ∀ a, a < 0 → ∀ b, b < 0 → a ≠ b → (TJ10 a).2.1 ≠ (TJ10 b).2.1 := by decide +kernel
theorem tyJ10_ok : ∀ k, k < 0 → parseFieldDescriptor (TJ10 k).2.2.1 = some (tyJ10 k) := by decide +kernel
def RL : String := "CountedTermsLaw"
abbrev cL_law : ByteArray := code
def yL_law : MethodName := ⟨RL, "law", "([I)Z"⟩
abbrev vwCl : List vw_C := [(RX0, TX0, 3), (RX1, TX1, 3), (RX2, TX2, 4), (RX3, TX3, 1), (RX4, TX4, 2), (RX5, TX5, 6), (RX6, TX6, 5), (RX7, TX7, 17)]
theorem inX0 : ∀ w ∈ wsX00, w ∈ lw_tbl := by decide +kernel
theorem inX1 : ∀ w ∈ wsX10, w ∈ lw_tbl := by decide +kernel
theorem inX2 : ∀ w ∈ wsX20, w ∈ lw_tbl := by decide +kernel
theorem inX3 : ∀ w ∈ wsX30, w ∈ lw_tbl := by decide +kernel
theorem inX4 : ∀ w ∈ wsX40, w ∈ lw_tbl := by decide +kernel
theorem inX5 : ∀ w ∈ wsX50, w ∈ lw_tbl := by decide +kernel
theorem inX6 : ∀ w ∈ wsX60, w ∈ lw_tbl := by decide +kernel
theorem inX7 : ∀ w ∈ wsX70, w ∈ lw_tbl := by decide +kernel
end
section
theorem dX0_init_0 : decode cX0_init 0 = .ok (.aload_n 0, 1) := by decide +kernel
theorem dX0_init_1 : decode cX0_init 1 = .ok (.invokespecial 3, 3) := by decide +kernel
theorem dX0_init_4 : decode cX0_init 4 = .ok (.aload_n 0, 1) := by decide +kernel
theorem dX0_init_5 : decode cX0_init 5 = .ok (.aload_n 1, 1) := by decide +kernel
theorem dX0_init_6 : decode cX0_init 6 = .ok (.putfield 9, 3) := by decide +kernel
theorem dX0_init_9 : decode cX0_init 9 = .ok (.return_, 1) := by decide +kernel
theorem dX0_length_0 : decode cX0_length 0 = .ok (.aload_n 0, 1) := by decide +kernel
theorem dX0_length_1 : decode cX0_length 1 = .ok (.getfield 15, 3) := by decide +kernel
theorem dX0_length_4 : decode cX0_length 4 = .ok (.ireturn, 1) := by decide +kernel
theorem dX0_keepState_0 : decode cX0_keepState 0 = .ok (.aload_n 0, 1) := by decide +kernel
theorem dX0_keepState_1 : decode cX0_keepState 1 = .ok (.getfield 9, 3) := by decide +kernel
theorem dX0_keepState_4 : decode cX0_keepState 4 = .ok (.iconst 0, 1) := by decide +kernel
theorem dX0_keepState_5 : decode cX0_keepState 5 = .ok (.iconst 1, 1) := by decide +kernel
theorem dX0_keepState_6 : decode cX0_keepState 6 = .ok (.aload_n 0, 1) := by decide +kernel
theorem dX0_keepState_7 : decode cX0_keepState 7 = .ok (.getfield 19, 3) := by decide +kernel
theorem dX0_keepState_10 : decode cX0_keepState 10 = .ok (.iadd, 1) := by decide +kernel
theorem dX0_keepState_11 : decode cX0_keepState 11 = .ok (.invokevirtual 22, 3) := by decide +kernel
theorem dX0_keepState_14 : decode cX0_keepState 14 = .ok (.aload_n 0, 1) := by decide +kernel
theorem dX0_keepState_15 : decode cX0_keepState 15 = .ok (.aload_n 0, 1) := by decide +kernel
theorem dX0_keepState_16 : decode cX0_keepState 16 = .ok (.getfield 19, 3) := by decide +kernel
theorem dX0_keepState_19 : decode cX0_keepState 19 = .ok (.iconst 5, 1) := by decide +kernel
theorem dX0_keepState_20 : decode cX0_keepState 20 = .ok (.if_icmp .ne 7, 3) := by decide +kernel
theorem dX0_keepState_23 : decode cX0_keepState 23 = .ok (.iconst 0, 1) := by decide +kernel
theorem dX0_keepState_24 : decode cX0_keepState 24 = .ok (.goto 9, 3) := by decide +kernel
theorem dX0_keepState_27 : decode cX0_keepState 27 = .ok (.aload_n 0, 1) := by decide +kernel
theorem dX0_keepState_28 : decode cX0_keepState 28 = .ok (.getfield 19, 3) := by decide +kernel
theorem dX0_keepState_31 : decode cX0_keepState 31 = .ok (.iconst 1, 1) := by decide +kernel
theorem dX0_keepState_32 : decode cX0_keepState 32 = .ok (.iadd, 1) := by decide +kernel
theorem dX0_keepState_33 : decode cX0_keepState 33 = .ok (.putfield 19, 3) := by decide +kernel
theorem dX0_keepState_36 : decode cX0_keepState 36 = .ok (.aload_n 0, 1) := by decide +kernel
theorem dX0_keepState_37 : decode cX0_keepState 37 = .ok (.aload_n 0, 1) := by decide +kernel
theorem dX0_keepState_38 : decode cX0_keepState 38 = .ok (.getfield 15, 3) := by decide +kernel
theorem dX0_keepState_41 : decode cX0_keepState 41 = .ok (.iconst 1, 1) := by decide +kernel
theorem dX0_keepState_42 : decode cX0_keepState 42 = .ok (.iadd, 1) := by decide +kernel
theorem dX0_keepState_43 : decode cX0_keepState 43 = .ok (.bipush 6, 2) := by decide +kernel
theorem dX0_keepState_45 : decode cX0_keepState 45 = .ok (.invokestatic 28, 3) := by decide +kernel
theorem dX0_keepState_48 : decode cX0_keepState 48 = .ok (.putfield 15, 3) := by decide +kernel
theorem dX0_keepState_51 : decode cX0_keepState 51 = .ok (.return_, 1) := by decide +kernel
theorem dX0_takeBack_0 : decode cX0_takeBack 0 = .ok (.aload_n 0, 1) := by decide +kernel
theorem dX0_takeBack_1 : decode cX0_takeBack 1 = .ok (.aload_n 0, 1) := by decide +kernel
theorem dX0_takeBack_2 : decode cX0_takeBack 2 = .ok (.getfield 19, 3) := by decide +kernel
theorem dX0_takeBack_5 : decode cX0_takeBack 5 = .ok (.ifCond .ne 7, 3) := by decide +kernel
theorem dX0_takeBack_8 : decode cX0_takeBack 8 = .ok (.iconst 5, 1) := by decide +kernel
theorem dX0_takeBack_9 : decode cX0_takeBack 9 = .ok (.goto 9, 3) := by decide +kernel
theorem dX0_takeBack_12 : decode cX0_takeBack 12 = .ok (.aload_n 0, 1) := by decide +kernel
theorem dX0_takeBack_13 : decode cX0_takeBack 13 = .ok (.getfield 19, 3) := by decide +kernel
theorem dX0_takeBack_16 : decode cX0_takeBack 16 = .ok (.iconst 1, 1) := by decide +kernel
theorem dX0_takeBack_17 : decode cX0_takeBack 17 = .ok (.isub, 1) := by decide +kernel
theorem dX0_takeBack_18 : decode cX0_takeBack 18 = .ok (.putfield 19, 3) := by decide +kernel
theorem dX0_takeBack_21 : decode cX0_takeBack 21 = .ok (.aload_n 0, 1) := by decide +kernel
theorem dX0_takeBack_22 : decode cX0_takeBack 22 = .ok (.aload_n 0, 1) := by decide +kernel
theorem dX0_takeBack_23 : decode cX0_takeBack 23 = .ok (.getfield 15, 3) := by decide +kernel
theorem dX0_takeBack_26 : decode cX0_takeBack 26 = .ok (.iconst 1, 1) := by decide +kernel
theorem dX0_takeBack_27 : decode cX0_takeBack 27 = .ok (.isub, 1) := by decide +kernel
theorem dX0_takeBack_28 : decode cX0_takeBack 28 = .ok (.iconst 0, 1) := by decide +kernel
theorem dX0_takeBack_29 : decode cX0_takeBack 29 = .ok (.invokestatic 34, 3) := by decide +kernel
theorem dX0_takeBack_32 : decode cX0_takeBack 32 = .ok (.putfield 15, 3) := by decide +kernel
theorem dX0_takeBack_35 : decode cX0_takeBack 35 = .ok (.aload_n 0, 1) := by decide +kernel
theorem dX0_takeBack_36 : decode cX0_takeBack 36 = .ok (.getfield 9, 3) := by decide +kernel
theorem dX0_takeBack_39 : decode cX0_takeBack 39 = .ok (.iconst 1, 1) := by decide +kernel
theorem dX0_takeBack_40 : decode cX0_takeBack 40 = .ok (.aload_n 0, 1) := by decide +kernel
theorem dX0_takeBack_41 : decode cX0_takeBack 41 = .ok (.getfield 19, 3) := by decide +kernel
theorem dX0_takeBack_44 : decode cX0_takeBack 44 = .ok (.iadd, 1) := by decide +kernel
theorem dX0_takeBack_45 : decode cX0_takeBack 45 = .ok (.iconst 0, 1) := by decide +kernel
theorem dX0_takeBack_46 : decode cX0_takeBack 46 = .ok (.invokevirtual 22, 3) := by decide +kernel
theorem dX0_takeBack_49 : decode cX0_takeBack 49 = .ok (.return_, 1) := by decide +kernel
theorem dX1_init_0 : decode cX1_init 0 = .ok (.aload_n 0, 1) := by decide +kernel
theorem dX1_init_1 : decode cX1_init 1 = .ok (.invokespecial 3, 3) := by decide +kernel
theorem dX1_init_4 : decode cX1_init 4 = .ok (.aload_n 0, 1) := by decide +kernel
theorem dX1_init_5 : decode cX1_init 5 = .ok (.new 9, 3) := by decide +kernel
theorem dX1_init_8 : decode cX1_init 8 = .ok (.dup, 1) := by decide +kernel
theorem dX1_init_9 : decode cX1_init 9 = .ok (.bipush 60, 2) := by decide +kernel
theorem dX1_init_11 : decode cX1_init 11 = .ok (.invokespecial 11, 3) := by decide +kernel
theorem dX1_init_14 : decode cX1_init 14 = .ok (.putfield 14, 3) := by decide +kernel
theorem dX1_init_17 : decode cX1_init 17 = .ok (.aload_n 0, 1) := by decide +kernel
theorem dX1_init_18 : decode cX1_init 18 = .ok (.new 9, 3) := by decide +kernel
theorem dX1_init_21 : decode cX1_init 21 = .ok (.dup, 1) := by decide +kernel
theorem dX1_init_22 : decode cX1_init 22 = .ok (.bipush 61, 2) := by decide +kernel
theorem dX1_init_24 : decode cX1_init 24 = .ok (.invokespecial 11, 3) := by decide +kernel
theorem dX1_init_27 : decode cX1_init 27 = .ok (.putfield 20, 3) := by decide +kernel
theorem dX1_init_30 : decode cX1_init 30 = .ok (.return_, 1) := by decide +kernel
theorem dX1_charactersIn_0 : decode cX1_charactersIn 0 = .ok (.lload_n 0, 1) := by decide +kernel
theorem dX1_charactersIn_1 : decode cX1_charactersIn 1 = .ok (.lstore_n 2, 1) := by decide +kernel
theorem dX1_charactersIn_2 : decode cX1_charactersIn 2 = .ok (.iconst 0, 1) := by decide +kernel
theorem dX1_charactersIn_3 : decode cX1_charactersIn 3 = .ok (.istore 4, 2) := by decide +kernel
theorem dX1_charactersIn_5 : decode cX1_charactersIn 5 = .ok (.iload 4, 2) := by decide +kernel
theorem dX1_charactersIn_7 : decode cX1_charactersIn 7 = .ok (.bipush 8, 2) := by decide +kernel
theorem dX1_charactersIn_9 : decode cX1_charactersIn 9 = .ok (.if_icmp .ge 51, 3) := by decide +kernel
theorem dX1_charactersIn_12 : decode cX1_charactersIn 12 = .ok (.lload_n 2, 1) := by decide +kernel
theorem dX1_charactersIn_13 : decode cX1_charactersIn 13 = .ok (.ldc2_w 23, 3) := by decide +kernel
theorem dX1_charactersIn_16 : decode cX1_charactersIn 16 = .ok (.land, 1) := by decide +kernel
theorem dX1_charactersIn_17 : decode cX1_charactersIn 17 = .ok (.lconst 0, 1) := by decide +kernel
theorem dX1_charactersIn_18 : decode cX1_charactersIn 18 = .ok (.lcmp, 1) := by decide +kernel
theorem dX1_charactersIn_19 : decode cX1_charactersIn 19 = .ok (.ifCond .eq 41, 3) := by decide +kernel
theorem dX1_charactersIn_22 : decode cX1_charactersIn 22 = .ok (.lload_n 2, 1) := by decide +kernel
theorem dX1_charactersIn_23 : decode cX1_charactersIn 23 = .ok (.ldc2_w 23, 3) := by decide +kernel
theorem dX1_charactersIn_26 : decode cX1_charactersIn 26 = .ok (.land, 1) := by decide +kernel
theorem dX1_charactersIn_27 : decode cX1_charactersIn 27 = .ok (.lstore 5, 2) := by decide +kernel
theorem dX1_charactersIn_29 : decode cX1_charactersIn 29 = .ok (.lload 5, 2) := by decide +kernel
theorem dX1_charactersIn_31 : decode cX1_charactersIn 31 = .ok (.ldc2_w 25, 3) := by decide +kernel
theorem dX1_charactersIn_34 : decode cX1_charactersIn 34 = .ok (.lcmp, 1) := by decide +kernel
theorem dX1_charactersIn_35 : decode cX1_charactersIn 35 = .ok (.ifCond .lt 12, 3) := by decide +kernel
theorem dX1_charactersIn_38 : decode cX1_charactersIn 38 = .ok (.lload 5, 2) := by decide +kernel
theorem dX1_charactersIn_40 : decode cX1_charactersIn 40 = .ok (.ldc2_w 27, 3) := by decide +kernel
theorem dX1_charactersIn_43 : decode cX1_charactersIn 43 = .ok (.lcmp, 1) := by decide +kernel
theorem dX1_charactersIn_44 : decode cX1_charactersIn 44 = .ok (.ifCond .le 5, 3) := by decide +kernel
theorem dX1_charactersIn_47 : decode cX1_charactersIn 47 = .ok (.iconst 0, 1) := by decide +kernel
theorem dX1_charactersIn_48 : decode cX1_charactersIn 48 = .ok (.ireturn, 1) := by decide +kernel
theorem dX1_charactersIn_49 : decode cX1_charactersIn 49 = .ok (.lload_n 2, 1) := by decide +kernel
theorem dX1_charactersIn_50 : decode cX1_charactersIn 50 = .ok (.bipush 8, 2) := by decide +kernel
theorem dX1_charactersIn_52 : decode cX1_charactersIn 52 = .ok (.lushr, 1) := by decide +kernel
theorem dX1_charactersIn_53 : decode cX1_charactersIn 53 = .ok (.lstore_n 2, 1) := by decide +kernel
theorem dX1_charactersIn_54 : decode cX1_charactersIn 54 = .ok (.iinc 4 1, 3) := by decide +kernel
theorem dX1_charactersIn_57 : decode cX1_charactersIn 57 = .ok (.goto (-52), 3) := by decide +kernel
theorem dX1_charactersIn_60 : decode cX1_charactersIn 60 = .ok (.lload_n 2, 1) := by decide +kernel
theorem dX1_charactersIn_61 : decode cX1_charactersIn 61 = .ok (.lconst 0, 1) := by decide +kernel
theorem dX1_charactersIn_62 : decode cX1_charactersIn 62 = .ok (.lcmp, 1) := by decide +kernel
theorem dX1_charactersIn_63 : decode cX1_charactersIn 63 = .ok (.ifCond .ne 8, 3) := by decide +kernel
theorem dX1_charactersIn_66 : decode cX1_charactersIn 66 = .ok (.iload 4, 2) := by decide +kernel
theorem dX1_charactersIn_68 : decode cX1_charactersIn 68 = .ok (.goto 4, 3) := by decide +kernel
theorem dX1_charactersIn_71 : decode cX1_charactersIn 71 = .ok (.iconst 0, 1) := by decide +kernel
theorem dX1_charactersIn_72 : decode cX1_charactersIn 72 = .ok (.ireturn, 1) := by decide +kernel
theorem dX1_length_0 : decode cX1_length 0 = .ok (.aload_n 0, 1) := by decide +kernel
theorem dX1_length_1 : decode cX1_length 1 = .ok (.getfield 29, 3) := by decide +kernel
theorem dX1_length_4 : decode cX1_length 4 = .ok (.ireturn, 1) := by decide +kernel
theorem dX1_empty_0 : decode cX1_empty 0 = .ok (.aload_n 0, 1) := by decide +kernel
theorem dX1_empty_1 : decode cX1_empty 1 = .ok (.iconst 0, 1) := by decide +kernel
theorem dX1_empty_2 : decode cX1_empty 2 = .ok (.putfield 29, 3) := by decide +kernel
theorem dX1_empty_5 : decode cX1_empty 5 = .ok (.return_, 1) := by decide +kernel
theorem dX1_append_0 : decode cX1_append 0 = .ok (.iload_n 3, 1) := by decide +kernel
theorem dX1_append_1 : decode cX1_append 1 = .ok (.iconst 1, 1) := by decide +kernel
theorem dX1_append_2 : decode cX1_append 2 = .ok (.isub, 1) := by decide +kernel
theorem dX1_append_3 : decode cX1_append 3 = .ok (.istore 4, 2) := by decide +kernel
theorem dX1_append_5 : decode cX1_append 5 = .ok (.iload 4, 2) := by decide +kernel
theorem dX1_append_7 : decode cX1_append 7 = .ok (.ifCond .lt 51, 3) := by decide +kernel
theorem dX1_append_10 : decode cX1_append 10 = .ok (.aload_n 0, 1) := by decide +kernel
theorem dX1_append_11 : decode cX1_append 11 = .ok (.getfield 29, 3) := by decide +kernel
theorem dX1_append_14 : decode cX1_append 14 = .ok (.bipush 60, 2) := by decide +kernel
theorem dX1_append_16 : decode cX1_append 16 = .ok (.if_icmp .ge 42, 3) := by decide +kernel
theorem dX1_append_19 : decode cX1_append 19 = .ok (.aload_n 0, 1) := by decide +kernel
theorem dX1_append_20 : decode cX1_append 20 = .ok (.getfield 14, 3) := by decide +kernel
theorem dX1_append_23 : decode cX1_append 23 = .ok (.aload_n 0, 1) := by decide +kernel
theorem dX1_append_24 : decode cX1_append 24 = .ok (.getfield 29, 3) := by decide +kernel
theorem dX1_append_27 : decode cX1_append 27 = .ok (.lload_n 1, 1) := by decide +kernel
theorem dX1_append_28 : decode cX1_append 28 = .ok (.iload 4, 2) := by decide +kernel
theorem dX1_append_30 : decode cX1_append 30 = .ok (.bipush 8, 2) := by decide +kernel
theorem dX1_append_32 : decode cX1_append 32 = .ok (.imul, 1) := by decide +kernel
theorem dX1_append_33 : decode cX1_append 33 = .ok (.lushr, 1) := by decide +kernel
theorem dX1_append_34 : decode cX1_append 34 = .ok (.ldc2_w 23, 3) := by decide +kernel
theorem dX1_append_37 : decode cX1_append 37 = .ok (.land, 1) := by decide +kernel
theorem dX1_append_38 : decode cX1_append 38 = .ok (.l2i, 1) := by decide +kernel
theorem dX1_append_39 : decode cX1_append 39 = .ok (.invokevirtual 33, 3) := by decide +kernel
theorem dX1_append_42 : decode cX1_append 42 = .ok (.aload_n 0, 1) := by decide +kernel
theorem dX1_append_43 : decode cX1_append 43 = .ok (.dup, 1) := by decide +kernel
theorem dX1_append_44 : decode cX1_append 44 = .ok (.getfield 29, 3) := by decide +kernel
theorem dX1_append_47 : decode cX1_append 47 = .ok (.iconst 1, 1) := by decide +kernel
theorem dX1_append_48 : decode cX1_append 48 = .ok (.iadd, 1) := by decide +kernel
theorem dX1_append_49 : decode cX1_append 49 = .ok (.putfield 29, 3) := by decide +kernel
theorem dX1_append_52 : decode cX1_append 52 = .ok (.iinc 4 (-1), 3) := by decide +kernel
theorem dX1_append_55 : decode cX1_append 55 = .ok (.goto (-50), 3) := by decide +kernel
theorem dX1_append_58 : decode cX1_append 58 = .ok (.return_, 1) := by decide +kernel
theorem dX1_firstWrong_0 : decode cX1_firstWrong 0 = .ok (.iconst 1, 1) := by decide +kernel
theorem dX1_firstWrong_1 : decode cX1_firstWrong 1 = .ok (.istore_n 1, 1) := by decide +kernel
theorem dX1_firstWrong_2 : decode cX1_firstWrong 2 = .ok (.aload_n 0, 1) := by decide +kernel
theorem dX1_firstWrong_3 : decode cX1_firstWrong 3 = .ok (.getfield 20, 3) := by decide +kernel
theorem dX1_firstWrong_6 : decode cX1_firstWrong 6 = .ok (.iconst 0, 1) := by decide +kernel
theorem dX1_firstWrong_7 : decode cX1_firstWrong 7 = .ok (.iconst 0, 1) := by decide +kernel
theorem dX1_firstWrong_8 : decode cX1_firstWrong 8 = .ok (.invokevirtual 33, 3) := by decide +kernel
theorem dX1_firstWrong_11 : decode cX1_firstWrong 11 = .ok (.iconst 0, 1) := by decide +kernel
theorem dX1_firstWrong_12 : decode cX1_firstWrong 12 = .ok (.istore_n 2, 1) := by decide +kernel
theorem dX1_firstWrong_13 : decode cX1_firstWrong 13 = .ok (.iload_n 2, 1) := by decide +kernel
theorem dX1_firstWrong_14 : decode cX1_firstWrong 14 = .ok (.aload_n 0, 1) := by decide +kernel
theorem dX1_firstWrong_15 : decode cX1_firstWrong 15 = .ok (.getfield 29, 3) := by decide +kernel
theorem dX1_firstWrong_18 : decode cX1_firstWrong 18 = .ok (.if_icmp .ge 112, 3) := by decide +kernel
theorem dX1_firstWrong_21 : decode cX1_firstWrong 21 = .ok (.iload_n 1, 1) := by decide +kernel
theorem dX1_firstWrong_22 : decode cX1_firstWrong 22 = .ok (.ifCond .ne 5, 3) := by decide +kernel
theorem dX1_firstWrong_25 : decode cX1_firstWrong 25 = .ok (.iload_n 2, 1) := by decide +kernel
theorem dX1_firstWrong_26 : decode cX1_firstWrong 26 = .ok (.ireturn, 1) := by decide +kernel
theorem dX1_firstWrong_27 : decode cX1_firstWrong 27 = .ok (.aload_n 0, 1) := by decide +kernel
theorem dX1_firstWrong_28 : decode cX1_firstWrong 28 = .ok (.getfield 20, 3) := by decide +kernel
theorem dX1_firstWrong_31 : decode cX1_firstWrong 31 = .ok (.iload_n 1, 1) := by decide +kernel
theorem dX1_firstWrong_32 : decode cX1_firstWrong 32 = .ok (.iconst 1, 1) := by decide +kernel
theorem dX1_firstWrong_33 : decode cX1_firstWrong 33 = .ok (.isub, 1) := by decide +kernel
theorem dX1_firstWrong_34 : decode cX1_firstWrong 34 = .ok (.invokevirtual 37, 3) := by decide +kernel
theorem dX1_firstWrong_37 : decode cX1_firstWrong 37 = .ok (.istore_n 3, 1) := by decide +kernel
theorem dX1_firstWrong_38 : decode cX1_firstWrong 38 = .ok (.aload_n 0, 1) := by decide +kernel
theorem dX1_firstWrong_39 : decode cX1_firstWrong 39 = .ok (.getfield 14, 3) := by decide +kernel
theorem dX1_firstWrong_42 : decode cX1_firstWrong 42 = .ok (.iload_n 2, 1) := by decide +kernel
theorem dX1_firstWrong_43 : decode cX1_firstWrong 43 = .ok (.invokevirtual 37, 3) := by decide +kernel
theorem dX1_firstWrong_46 : decode cX1_firstWrong 46 = .ok (.istore 4, 2) := by decide +kernel
theorem dX1_firstWrong_48 : decode cX1_firstWrong 48 = .ok (.iload 4, 2) := by decide +kernel
theorem dX1_firstWrong_50 : decode cX1_firstWrong 50 = .ok (.invokestatic 41, 3) := by decide +kernel
theorem dX1_firstWrong_53 : decode cX1_firstWrong 53 = .ok (.istore 5, 2) := by decide +kernel
theorem dX1_firstWrong_55 : decode cX1_firstWrong 55 = .ok (.iload 5, 2) := by decide +kernel
theorem dX1_firstWrong_57 : decode cX1_firstWrong 57 = .ok (.bipush (-6), 2) := by decide +kernel
theorem dX1_firstWrong_59 : decode cX1_firstWrong 59 = .ok (.if_icmp .eq 17, 3) := by decide +kernel
theorem dX1_firstWrong_62 : decode cX1_firstWrong 62 = .ok (.iload 5, 2) := by decide +kernel
theorem dX1_firstWrong_64 : decode cX1_firstWrong 64 = .ok (.ifCond .ne 14, 3) := by decide +kernel
theorem dX1_firstWrong_67 : decode cX1_firstWrong 67 = .ok (.iload 4, 2) := by decide +kernel
theorem dX1_firstWrong_69 : decode cX1_firstWrong 69 = .ok (.bipush 48, 2) := by decide +kernel
theorem dX1_firstWrong_71 : decode cX1_firstWrong 71 = .ok (.isub, 1) := by decide +kernel
theorem dX1_firstWrong_72 : decode cX1_firstWrong 72 = .ok (.iload_n 3, 1) := by decide +kernel
theorem dX1_firstWrong_73 : decode cX1_firstWrong 73 = .ok (.if_icmp .lt 5, 3) := by decide +kernel
theorem dX1_firstWrong_76 : decode cX1_firstWrong 76 = .ok (.iload_n 2, 1) := by decide +kernel
theorem dX1_firstWrong_77 : decode cX1_firstWrong 77 = .ok (.ireturn, 1) := by decide +kernel
theorem dX1_firstWrong_78 : decode cX1_firstWrong 78 = .ok (.iload 5, 2) := by decide +kernel
theorem dX1_firstWrong_80 : decode cX1_firstWrong 80 = .ok (.iconst 2, 1) := by decide +kernel
theorem dX1_firstWrong_81 : decode cX1_firstWrong 81 = .ok (.if_icmp .ne 19, 3) := by decide +kernel
theorem dX1_firstWrong_84 : decode cX1_firstWrong 84 = .ok (.aload_n 0, 1) := by decide +kernel
theorem dX1_firstWrong_85 : decode cX1_firstWrong 85 = .ok (.getfield 20, 3) := by decide +kernel
theorem dX1_firstWrong_88 : decode cX1_firstWrong 88 = .ok (.iload_n 1, 1) := by decide +kernel
theorem dX1_firstWrong_89 : decode cX1_firstWrong 89 = .ok (.iconst 1, 1) := by decide +kernel
theorem dX1_firstWrong_90 : decode cX1_firstWrong 90 = .ok (.isub, 1) := by decide +kernel
theorem dX1_firstWrong_91 : decode cX1_firstWrong 91 = .ok (.iload_n 3, 1) := by decide +kernel
theorem dX1_firstWrong_92 : decode cX1_firstWrong 92 = .ok (.iconst 1, 1) := by decide +kernel
theorem dX1_firstWrong_93 : decode cX1_firstWrong 93 = .ok (.iadd, 1) := by decide +kernel
theorem dX1_firstWrong_94 : decode cX1_firstWrong 94 = .ok (.invokevirtual 33, 3) := by decide +kernel
theorem dX1_firstWrong_97 : decode cX1_firstWrong 97 = .ok (.goto 27, 3) := by decide +kernel
theorem dX1_firstWrong_100 : decode cX1_firstWrong 100 = .ok (.iload 5, 2) := by decide +kernel
theorem dX1_firstWrong_102 : decode cX1_firstWrong 102 = .ok (.iconst 3, 1) := by decide +kernel
theorem dX1_firstWrong_103 : decode cX1_firstWrong 103 = .ok (.if_icmp .ne 18, 3) := by decide +kernel
theorem dX1_firstWrong_106 : decode cX1_firstWrong 106 = .ok (.aload_n 0, 1) := by decide +kernel
theorem dX1_firstWrong_107 : decode cX1_firstWrong 107 = .ok (.getfield 20, 3) := by decide +kernel
theorem dX1_firstWrong_110 : decode cX1_firstWrong 110 = .ok (.iload_n 1, 1) := by decide +kernel
theorem dX1_firstWrong_111 : decode cX1_firstWrong 111 = .ok (.iload_n 3, 1) := by decide +kernel
theorem dX1_firstWrong_112 : decode cX1_firstWrong 112 = .ok (.invokevirtual 33, 3) := by decide +kernel
theorem dX1_firstWrong_115 : decode cX1_firstWrong 115 = .ok (.iinc 1 1, 3) := by decide +kernel
theorem dX1_firstWrong_118 : decode cX1_firstWrong 118 = .ok (.goto 6, 3) := by decide +kernel
theorem dX1_firstWrong_121 : decode cX1_firstWrong 121 = .ok (.iinc 1 (-1), 3) := by decide +kernel
theorem dX1_firstWrong_124 : decode cX1_firstWrong 124 = .ok (.iinc 2 1, 3) := by decide +kernel
theorem dX1_firstWrong_127 : decode cX1_firstWrong 127 = .ok (.goto (-114), 3) := by decide +kernel
theorem dX1_firstWrong_130 : decode cX1_firstWrong 130 = .ok (.iload_n 1, 1) := by decide +kernel
theorem dX1_firstWrong_131 : decode cX1_firstWrong 131 = .ok (.ifCond .ne 8, 3) := by decide +kernel
theorem dX1_firstWrong_134 : decode cX1_firstWrong 134 = .ok (.bipush (-6), 2) := by decide +kernel
theorem dX1_firstWrong_136 : decode cX1_firstWrong 136 = .ok (.goto 7, 3) := by decide +kernel
theorem dX1_firstWrong_139 : decode cX1_firstWrong 139 = .ok (.aload_n 0, 1) := by decide +kernel
theorem dX1_firstWrong_140 : decode cX1_firstWrong 140 = .ok (.getfield 29, 3) := by decide +kernel
theorem dX1_firstWrong_143 : decode cX1_firstWrong 143 = .ok (.ireturn, 1) := by decide +kernel
theorem dX1_writeTo_0 : decode cX1_writeTo 0 = .ok (.aload_n 1, 1) := by decide +kernel
theorem dX1_writeTo_1 : decode cX1_writeTo 1 = .ok (.iload_n 2, 1) := by decide +kernel
theorem dX1_writeTo_2 : decode cX1_writeTo 2 = .ok (.invokevirtual 44, 3) := by decide +kernel
theorem dX1_writeTo_5 : decode cX1_writeTo 5 = .ok (.iconst 0, 1) := by decide +kernel
theorem dX1_writeTo_6 : decode cX1_writeTo 6 = .ok (.istore_n 3, 1) := by decide +kernel
theorem dX1_writeTo_7 : decode cX1_writeTo 7 = .ok (.iload_n 3, 1) := by decide +kernel
theorem dX1_writeTo_8 : decode cX1_writeTo 8 = .ok (.aload_n 0, 1) := by decide +kernel
theorem dX1_writeTo_9 : decode cX1_writeTo 9 = .ok (.getfield 29, 3) := by decide +kernel
theorem dX1_writeTo_12 : decode cX1_writeTo 12 = .ok (.if_icmp .ge 66, 3) := by decide +kernel
theorem dX1_writeTo_15 : decode cX1_writeTo 15 = .ok (.aload_n 0, 1) := by decide +kernel
theorem dX1_writeTo_16 : decode cX1_writeTo 16 = .ok (.getfield 14, 3) := by decide +kernel
theorem dX1_writeTo_19 : decode cX1_writeTo 19 = .ok (.iload_n 3, 1) := by decide +kernel
theorem dX1_writeTo_20 : decode cX1_writeTo 20 = .ok (.invokevirtual 37, 3) := by decide +kernel
theorem dX1_writeTo_23 : decode cX1_writeTo 23 = .ok (.istore 4, 2) := by decide +kernel
theorem dX1_writeTo_25 : decode cX1_writeTo 25 = .ok (.iload 4, 2) := by decide +kernel
theorem dX1_writeTo_27 : decode cX1_writeTo 27 = .ok (.invokestatic 41, 3) := by decide +kernel
theorem dX1_writeTo_30 : decode cX1_writeTo 30 = .ok (.istore 5, 2) := by decide +kernel
theorem dX1_writeTo_32 : decode cX1_writeTo 32 = .ok (.iconst 0, 1) := by decide +kernel
theorem dX1_writeTo_33 : decode cX1_writeTo 33 = .ok (.istore 6, 2) := by decide +kernel
theorem dX1_writeTo_35 : decode cX1_writeTo 35 = .ok (.iload 5, 2) := by decide +kernel
theorem dX1_writeTo_37 : decode cX1_writeTo 37 = .ok (.ifCond .ne 13, 3) := by decide +kernel
theorem dX1_writeTo_40 : decode cX1_writeTo 40 = .ok (.iload 4, 2) := by decide +kernel
theorem dX1_writeTo_42 : decode cX1_writeTo 42 = .ok (.bipush 48, 2) := by decide +kernel
theorem dX1_writeTo_44 : decode cX1_writeTo 44 = .ok (.isub, 1) := by decide +kernel
theorem dX1_writeTo_45 : decode cX1_writeTo 45 = .ok (.istore 6, 2) := by decide +kernel
theorem dX1_writeTo_47 : decode cX1_writeTo 47 = .ok (.goto 16, 3) := by decide +kernel
theorem dX1_writeTo_50 : decode cX1_writeTo 50 = .ok (.iload 5, 2) := by decide +kernel
theorem dX1_writeTo_52 : decode cX1_writeTo 52 = .ok (.iconst 1, 1) := by decide +kernel
theorem dX1_writeTo_53 : decode cX1_writeTo 53 = .ok (.if_icmp .ne 10, 3) := by decide +kernel
theorem dX1_writeTo_56 : decode cX1_writeTo 56 = .ok (.iload 4, 2) := by decide +kernel
theorem dX1_writeTo_58 : decode cX1_writeTo 58 = .ok (.bipush 97, 2) := by decide +kernel
theorem dX1_writeTo_60 : decode cX1_writeTo 60 = .ok (.isub, 1) := by decide +kernel
theorem dX1_writeTo_61 : decode cX1_writeTo 61 = .ok (.istore 6, 2) := by decide +kernel
theorem dX1_writeTo_63 : decode cX1_writeTo 63 = .ok (.aload_n 1, 1) := by decide +kernel
theorem dX1_writeTo_64 : decode cX1_writeTo 64 = .ok (.iload_n 2, 1) := by decide +kernel
theorem dX1_writeTo_65 : decode cX1_writeTo 65 = .ok (.iload 5, 2) := by decide +kernel
theorem dX1_writeTo_67 : decode cX1_writeTo 67 = .ok (.iload 6, 2) := by decide +kernel
theorem dX1_writeTo_69 : decode cX1_writeTo 69 = .ok (.invokevirtual 49, 3) := by decide +kernel
theorem dX1_writeTo_72 : decode cX1_writeTo 72 = .ok (.iinc 3 1, 3) := by decide +kernel
theorem dX1_writeTo_75 : decode cX1_writeTo 75 = .ok (.goto (-68), 3) := by decide +kernel
theorem dX1_writeTo_78 : decode cX1_writeTo 78 = .ok (.return_, 1) := by decide +kernel
theorem dX1_kindOf_0 : decode cX1_kindOf 0 = .ok (.iload_n 0, 1) := by decide +kernel
theorem dX1_kindOf_1 : decode cX1_kindOf 1 = .ok (.bipush 76, 2) := by decide +kernel
theorem dX1_kindOf_3 : decode cX1_kindOf 3 = .ok (.if_icmp .ne 5, 3) := by decide +kernel
theorem dX1_kindOf_6 : decode cX1_kindOf 6 = .ok (.iconst 2, 1) := by decide +kernel
theorem dX1_kindOf_7 : decode cX1_kindOf 7 = .ok (.ireturn, 1) := by decide +kernel
theorem dX1_kindOf_8 : decode cX1_kindOf 8 = .ok (.iload_n 0, 1) := by decide +kernel
theorem dX1_kindOf_9 : decode cX1_kindOf 9 = .ok (.bipush 64, 2) := by decide +kernel
theorem dX1_kindOf_11 : decode cX1_kindOf 11 = .ok (.if_icmp .ne 5, 3) := by decide +kernel
theorem dX1_kindOf_14 : decode cX1_kindOf 14 = .ok (.iconst 3, 1) := by decide +kernel
theorem dX1_kindOf_15 : decode cX1_kindOf 15 = .ok (.ireturn, 1) := by decide +kernel
theorem dX1_kindOf_16 : decode cX1_kindOf 16 = .ok (.iload_n 0, 1) := by decide +kernel
theorem dX1_kindOf_17 : decode cX1_kindOf 17 = .ok (.bipush 48, 2) := by decide +kernel
theorem dX1_kindOf_19 : decode cX1_kindOf 19 = .ok (.if_icmp .lt 11, 3) := by decide +kernel
theorem dX1_kindOf_22 : decode cX1_kindOf 22 = .ok (.iload_n 0, 1) := by decide +kernel
theorem dX1_kindOf_23 : decode cX1_kindOf 23 = .ok (.bipush 57, 2) := by decide +kernel
theorem dX1_kindOf_25 : decode cX1_kindOf 25 = .ok (.if_icmp .gt 5, 3) := by decide +kernel
theorem dX1_kindOf_28 : decode cX1_kindOf 28 = .ok (.iconst 0, 1) := by decide +kernel
theorem dX1_kindOf_29 : decode cX1_kindOf 29 = .ok (.ireturn, 1) := by decide +kernel
theorem dX1_kindOf_30 : decode cX1_kindOf 30 = .ok (.iload_n 0, 1) := by decide +kernel
theorem dX1_kindOf_31 : decode cX1_kindOf 31 = .ok (.bipush 97, 2) := by decide +kernel
theorem dX1_kindOf_33 : decode cX1_kindOf 33 = .ok (.if_icmp .lt 13, 3) := by decide +kernel
theorem dX1_kindOf_36 : decode cX1_kindOf 36 = .ok (.iload_n 0, 1) := by decide +kernel
theorem dX1_kindOf_37 : decode cX1_kindOf 37 = .ok (.bipush 103, 2) := by decide +kernel
theorem dX1_kindOf_39 : decode cX1_kindOf 39 = .ok (.if_icmp .ge 7, 3) := by decide +kernel
theorem dX1_kindOf_42 : decode cX1_kindOf 42 = .ok (.iconst 1, 1) := by decide +kernel
theorem dX1_kindOf_43 : decode cX1_kindOf 43 = .ok (.goto 5, 3) := by decide +kernel
theorem dX1_kindOf_46 : decode cX1_kindOf 46 = .ok (.bipush (-6), 2) := by decide +kernel
theorem dX1_kindOf_48 : decode cX1_kindOf 48 = .ok (.ireturn, 1) := by decide +kernel
theorem dX2_init_0 : decode cX2_init 0 = .ok (.aload_n 0, 1) := by decide +kernel
theorem dX2_init_1 : decode cX2_init 1 = .ok (.invokespecial 3, 3) := by decide +kernel
theorem dX2_init_4 : decode cX2_init 4 = .ok (.aload_n 0, 1) := by decide +kernel
theorem dX2_init_5 : decode cX2_init 5 = .ok (.aload_n 1, 1) := by decide +kernel
theorem dX2_init_6 : decode cX2_init 6 = .ok (.putfield 9, 3) := by decide +kernel
theorem dX2_init_9 : decode cX2_init 9 = .ok (.aload_n 0, 1) := by decide +kernel
theorem dX2_init_10 : decode cX2_init 10 = .ok (.aload_n 2, 1) := by decide +kernel
theorem dX2_init_11 : decode cX2_init 11 = .ok (.putfield 15, 3) := by decide +kernel
theorem dX2_init_14 : decode cX2_init 14 = .ok (.return_, 1) := by decide +kernel
theorem dX2_stepsDone_0 : decode cX2_stepsDone 0 = .ok (.aload_n 0, 1) := by decide +kernel
theorem dX2_stepsDone_1 : decode cX2_stepsDone 1 = .ok (.getfield 19, 3) := by decide +kernel
theorem dX2_stepsDone_4 : decode cX2_stepsDone 4 = .ok (.ireturn, 1) := by decide +kernel
theorem dX2_greatestLength_0 : decode cX2_greatestLength 0 = .ok (.aload_n 0, 1) := by decide +kernel
theorem dX2_greatestLength_1 : decode cX2_greatestLength 1 = .ok (.getfield 23, 3) := by decide +kernel
theorem dX2_greatestLength_4 : decode cX2_greatestLength 4 = .ok (.ireturn, 1) := by decide +kernel
theorem dX2_doSteps_0 : decode cX2_doSteps 0 = .ok (.aload_n 0, 1) := by decide +kernel
theorem dX2_doSteps_1 : decode cX2_doSteps 1 = .ok (.iconst 0, 1) := by decide +kernel
theorem dX2_doSteps_2 : decode cX2_doSteps 2 = .ok (.putfield 19, 3) := by decide +kernel
theorem dX2_doSteps_5 : decode cX2_doSteps 5 = .ok (.aload_n 0, 1) := by decide +kernel
theorem dX2_doSteps_6 : decode cX2_doSteps 6 = .ok (.aload_n 0, 1) := by decide +kernel
theorem dX2_doSteps_7 : decode cX2_doSteps 7 = .ok (.getfield 9, 3) := by decide +kernel
theorem dX2_doSteps_10 : decode cX2_doSteps 10 = .ok (.iload_n 1, 1) := by decide +kernel
theorem dX2_doSteps_11 : decode cX2_doSteps 11 = .ok (.invokevirtual 26, 3) := by decide +kernel
theorem dX2_doSteps_14 : decode cX2_doSteps 14 = .ok (.putfield 23, 3) := by decide +kernel
theorem dX2_doSteps_17 : decode cX2_doSteps 17 = .ok (.aload_n 0, 1) := by decide +kernel
theorem dX2_doSteps_18 : decode cX2_doSteps 18 = .ok (.getfield 15, 3) := by decide +kernel
theorem dX2_doSteps_21 : decode cX2_doSteps 21 = .ok (.iload_n 1, 1) := by decide +kernel
theorem dX2_doSteps_22 : decode cX2_doSteps 22 = .ok (.invokevirtual 32, 3) := by decide +kernel
theorem dX2_doSteps_25 : decode cX2_doSteps 25 = .ok (.iconst 0, 1) := by decide +kernel
theorem dX2_doSteps_26 : decode cX2_doSteps 26 = .ok (.istore 4, 2) := by decide +kernel
theorem dX2_doSteps_28 : decode cX2_doSteps 28 = .ok (.iload 4, 2) := by decide +kernel
theorem dX2_doSteps_30 : decode cX2_doSteps 30 = .ok (.iload_n 3, 1) := by decide +kernel
theorem dX2_doSteps_31 : decode cX2_doSteps 31 = .ok (.if_icmp .ge 84, 3) := by decide +kernel
theorem dX2_doSteps_34 : decode cX2_doSteps 34 = .ok (.aload_n 0, 1) := by decide +kernel
theorem dX2_doSteps_35 : decode cX2_doSteps 35 = .ok (.getfield 15, 3) := by decide +kernel
theorem dX2_doSteps_38 : decode cX2_doSteps 38 = .ok (.iload_n 2, 1) := by decide +kernel
theorem dX2_doSteps_39 : decode cX2_doSteps 39 = .ok (.invokevirtual 38, 3) := by decide +kernel
theorem dX2_doSteps_42 : decode cX2_doSteps 42 = .ok (.istore 5, 2) := by decide +kernel
theorem dX2_doSteps_44 : decode cX2_doSteps 44 = .ok (.iload 5, 2) := by decide +kernel
theorem dX2_doSteps_46 : decode cX2_doSteps 46 = .ok (.bipush (-6), 2) := by decide +kernel
theorem dX2_doSteps_48 : decode cX2_doSteps 48 = .ok (.if_icmp .eq 67, 3) := by decide +kernel
theorem dX2_doSteps_51 : decode cX2_doSteps 51 = .ok (.aload_n 0, 1) := by decide +kernel
theorem dX2_doSteps_52 : decode cX2_doSteps 52 = .ok (.iload 5, 2) := by decide +kernel
theorem dX2_doSteps_54 : decode cX2_doSteps 54 = .ok (.invokevirtual 41, 3) := by decide +kernel
theorem dX2_doSteps_57 : decode cX2_doSteps 57 = .ok (.sipush 200, 3) := by decide +kernel
theorem dX2_doSteps_60 : decode cX2_doSteps 60 = .ok (.if_icmp .le 6, 3) := by decide +kernel
theorem dX2_doSteps_63 : decode cX2_doSteps 63 = .ok (.goto 52, 3) := by decide +kernel
theorem dX2_doSteps_66 : decode cX2_doSteps 66 = .ok (.aload_n 0, 1) := by decide +kernel
theorem dX2_doSteps_67 : decode cX2_doSteps 67 = .ok (.iload 5, 2) := by decide +kernel
theorem dX2_doSteps_69 : decode cX2_doSteps 69 = .ok (.invokevirtual 44, 3) := by decide +kernel
theorem dX2_doSteps_72 : decode cX2_doSteps 72 = .ok (.aload_n 0, 1) := by decide +kernel
theorem dX2_doSteps_73 : decode cX2_doSteps 73 = .ok (.getfield 15, 3) := by decide +kernel
theorem dX2_doSteps_76 : decode cX2_doSteps 76 = .ok (.iload_n 1, 1) := by decide +kernel
theorem dX2_doSteps_77 : decode cX2_doSteps 77 = .ok (.invokevirtual 32, 3) := by decide +kernel
theorem dX2_doSteps_80 : decode cX2_doSteps 80 = .ok (.aload_n 0, 1) := by decide +kernel
theorem dX2_doSteps_81 : decode cX2_doSteps 81 = .ok (.dup, 1) := by decide +kernel
theorem dX2_doSteps_82 : decode cX2_doSteps 82 = .ok (.getfield 19, 3) := by decide +kernel
theorem dX2_doSteps_85 : decode cX2_doSteps 85 = .ok (.iconst 1, 1) := by decide +kernel
theorem dX2_doSteps_86 : decode cX2_doSteps 86 = .ok (.iadd, 1) := by decide +kernel
theorem dX2_doSteps_87 : decode cX2_doSteps 87 = .ok (.putfield 19, 3) := by decide +kernel
theorem dX2_doSteps_90 : decode cX2_doSteps 90 = .ok (.aload_n 0, 1) := by decide +kernel
theorem dX2_doSteps_91 : decode cX2_doSteps 91 = .ok (.aload_n 0, 1) := by decide +kernel
theorem dX2_doSteps_92 : decode cX2_doSteps 92 = .ok (.getfield 23, 3) := by decide +kernel
theorem dX2_doSteps_95 : decode cX2_doSteps 95 = .ok (.aload_n 0, 1) := by decide +kernel
theorem dX2_doSteps_96 : decode cX2_doSteps 96 = .ok (.getfield 9, 3) := by decide +kernel
theorem dX2_doSteps_99 : decode cX2_doSteps 99 = .ok (.iload_n 1, 1) := by decide +kernel
theorem dX2_doSteps_100 : decode cX2_doSteps 100 = .ok (.invokevirtual 26, 3) := by decide +kernel
theorem dX2_doSteps_103 : decode cX2_doSteps 103 = .ok (.invokestatic 47, 3) := by decide +kernel
theorem dX2_doSteps_106 : decode cX2_doSteps 106 = .ok (.putfield 23, 3) := by decide +kernel
theorem dX2_doSteps_109 : decode cX2_doSteps 109 = .ok (.iinc 4 1, 3) := by decide +kernel
theorem dX2_doSteps_112 : decode cX2_doSteps 112 = .ok (.goto (-84), 3) := by decide +kernel
theorem dX2_doSteps_115 : decode cX2_doSteps 115 = .ok (.aload_n 0, 1) := by decide +kernel
theorem dX2_doSteps_116 : decode cX2_doSteps 116 = .ok (.getfield 15, 3) := by decide +kernel
theorem dX2_doSteps_119 : decode cX2_doSteps 119 = .ok (.iload_n 2, 1) := by decide +kernel
theorem dX2_doSteps_120 : decode cX2_doSteps 120 = .ok (.invokevirtual 38, 3) := by decide +kernel
theorem dX2_doSteps_123 : decode cX2_doSteps 123 = .ok (.bipush (-6), 2) := by decide +kernel
theorem dX2_doSteps_125 : decode cX2_doSteps 125 = .ok (.if_icmp .ne 7, 3) := by decide +kernel
theorem dX2_doSteps_128 : decode cX2_doSteps 128 = .ok (.iconst 1, 1) := by decide +kernel
theorem dX2_doSteps_129 : decode cX2_doSteps 129 = .ok (.goto 4, 3) := by decide +kernel
theorem dX2_doSteps_132 : decode cX2_doSteps 132 = .ok (.iconst 0, 1) := by decide +kernel
theorem dX2_doSteps_133 : decode cX2_doSteps 133 = .ok (.ireturn, 1) := by decide +kernel
theorem dX2_lengthBehind_0 : decode cX2_lengthBehind 0 = .ok (.aload_n 0, 1) := by decide +kernel
theorem dX2_lengthBehind_1 : decode cX2_lengthBehind 1 = .ok (.getfield 15, 3) := by decide +kernel
theorem dX2_lengthBehind_4 : decode cX2_lengthBehind 4 = .ok (.invokevirtual 53, 3) := by decide +kernel
theorem dX2_lengthBehind_7 : decode cX2_lengthBehind 7 = .ok (.istore_n 2, 1) := by decide +kernel
theorem dX2_lengthBehind_8 : decode cX2_lengthBehind 8 = .ok (.aload_n 0, 1) := by decide +kernel
theorem dX2_lengthBehind_9 : decode cX2_lengthBehind 9 = .ok (.getfield 15, 3) := by decide +kernel
theorem dX2_lengthBehind_12 : decode cX2_lengthBehind 12 = .ok (.iload_n 1, 1) := by decide +kernel
theorem dX2_lengthBehind_13 : decode cX2_lengthBehind 13 = .ok (.iconst 1, 1) := by decide +kernel
theorem dX2_lengthBehind_14 : decode cX2_lengthBehind 14 = .ok (.iadd, 1) := by decide +kernel
theorem dX2_lengthBehind_15 : decode cX2_lengthBehind 15 = .ok (.invokevirtual 57, 3) := by decide +kernel
theorem dX2_lengthBehind_18 : decode cX2_lengthBehind 18 = .ok (.istore_n 3, 1) := by decide +kernel
theorem dX2_lengthBehind_19 : decode cX2_lengthBehind 19 = .ok (.aload_n 0, 1) := by decide +kernel
theorem dX2_lengthBehind_20 : decode cX2_lengthBehind 20 = .ok (.getfield 15, 3) := by decide +kernel
theorem dX2_lengthBehind_23 : decode cX2_lengthBehind 23 = .ok (.iload_n 1, 1) := by decide +kernel
theorem dX2_lengthBehind_24 : decode cX2_lengthBehind 24 = .ok (.invokevirtual 57, 3) := by decide +kernel
theorem dX2_lengthBehind_27 : decode cX2_lengthBehind 27 = .ok (.iload_n 3, 1) := by decide +kernel
theorem dX2_lengthBehind_28 : decode cX2_lengthBehind 28 = .ok (.isub, 1) := by decide +kernel
theorem dX2_lengthBehind_29 : decode cX2_lengthBehind 29 = .ok (.istore 4, 2) := by decide +kernel
theorem dX2_lengthBehind_31 : decode cX2_lengthBehind 31 = .ok (.iconst 0, 1) := by decide +kernel
theorem dX2_lengthBehind_32 : decode cX2_lengthBehind 32 = .ok (.istore 5, 2) := by decide +kernel
theorem dX2_lengthBehind_34 : decode cX2_lengthBehind 34 = .ok (.iload_n 1, 1) := by decide +kernel
theorem dX2_lengthBehind_35 : decode cX2_lengthBehind 35 = .ok (.iconst 2, 1) := by decide +kernel
theorem dX2_lengthBehind_36 : decode cX2_lengthBehind 36 = .ok (.iadd, 1) := by decide +kernel
theorem dX2_lengthBehind_37 : decode cX2_lengthBehind 37 = .ok (.istore 6, 2) := by decide +kernel
theorem dX2_lengthBehind_39 : decode cX2_lengthBehind 39 = .ok (.iload 6, 2) := by decide +kernel
theorem dX2_lengthBehind_41 : decode cX2_lengthBehind 41 = .ok (.iload_n 3, 1) := by decide +kernel
theorem dX2_lengthBehind_42 : decode cX2_lengthBehind 42 = .ok (.if_icmp .ge 45, 3) := by decide +kernel
theorem dX2_lengthBehind_45 : decode cX2_lengthBehind 45 = .ok (.aload_n 0, 1) := by decide +kernel
theorem dX2_lengthBehind_46 : decode cX2_lengthBehind 46 = .ok (.getfield 9, 3) := by decide +kernel
theorem dX2_lengthBehind_49 : decode cX2_lengthBehind 49 = .ok (.iload_n 2, 1) := by decide +kernel
theorem dX2_lengthBehind_50 : decode cX2_lengthBehind 50 = .ok (.iload 6, 2) := by decide +kernel
theorem dX2_lengthBehind_52 : decode cX2_lengthBehind 52 = .ok (.invokevirtual 60, 3) := by decide +kernel
theorem dX2_lengthBehind_55 : decode cX2_lengthBehind 55 = .ok (.ifCond .ne 26, 3) := by decide +kernel
theorem dX2_lengthBehind_58 : decode cX2_lengthBehind 58 = .ok (.aload_n 0, 1) := by decide +kernel
theorem dX2_lengthBehind_59 : decode cX2_lengthBehind 59 = .ok (.getfield 9, 3) := by decide +kernel
theorem dX2_lengthBehind_62 : decode cX2_lengthBehind 62 = .ok (.iload_n 2, 1) := by decide +kernel
theorem dX2_lengthBehind_63 : decode cX2_lengthBehind 63 = .ok (.iload 6, 2) := by decide +kernel
theorem dX2_lengthBehind_65 : decode cX2_lengthBehind 65 = .ok (.invokevirtual 63, 3) := by decide +kernel
theorem dX2_lengthBehind_68 : decode cX2_lengthBehind 68 = .ok (.aload_n 0, 1) := by decide +kernel
theorem dX2_lengthBehind_69 : decode cX2_lengthBehind 69 = .ok (.iload_n 1, 1) := by decide +kernel
theorem dX2_lengthBehind_70 : decode cX2_lengthBehind 70 = .ok (.iload 6, 2) := by decide +kernel
theorem dX2_lengthBehind_72 : decode cX2_lengthBehind 72 = .ok (.invokevirtual 66, 3) := by decide +kernel
theorem dX2_lengthBehind_75 : decode cX2_lengthBehind 75 = .ok (.if_icmp .ne 6, 3) := by decide +kernel
theorem dX2_lengthBehind_78 : decode cX2_lengthBehind 78 = .ok (.iinc 5 1, 3) := by decide +kernel
theorem dX2_lengthBehind_81 : decode cX2_lengthBehind 81 = .ok (.iinc 6 1, 3) := by decide +kernel
theorem dX2_lengthBehind_84 : decode cX2_lengthBehind 84 = .ok (.goto (-45), 3) := by decide +kernel
theorem dX2_lengthBehind_87 : decode cX2_lengthBehind 87 = .ok (.aload_n 0, 1) := by decide +kernel
theorem dX2_lengthBehind_88 : decode cX2_lengthBehind 88 = .ok (.getfield 9, 3) := by decide +kernel
theorem dX2_lengthBehind_91 : decode cX2_lengthBehind 91 = .ok (.iload_n 2, 1) := by decide +kernel
theorem dX2_lengthBehind_92 : decode cX2_lengthBehind 92 = .ok (.invokevirtual 26, 3) := by decide +kernel
theorem dX2_lengthBehind_95 : decode cX2_lengthBehind 95 = .ok (.iconst 2, 1) := by decide +kernel
theorem dX2_lengthBehind_96 : decode cX2_lengthBehind 96 = .ok (.isub, 1) := by decide +kernel
theorem dX2_lengthBehind_97 : decode cX2_lengthBehind 97 = .ok (.iload 4, 2) := by decide +kernel
theorem dX2_lengthBehind_99 : decode cX2_lengthBehind 99 = .ok (.isub, 1) := by decide +kernel
theorem dX2_lengthBehind_100 : decode cX2_lengthBehind 100 = .ok (.iload 5, 2) := by decide +kernel
theorem dX2_lengthBehind_102 : decode cX2_lengthBehind 102 = .ok (.iload 4, 2) := by decide +kernel
theorem dX2_lengthBehind_104 : decode cX2_lengthBehind 104 = .ok (.iconst 1, 1) := by decide +kernel
theorem dX2_lengthBehind_105 : decode cX2_lengthBehind 105 = .ok (.isub, 1) := by decide +kernel
theorem dX2_lengthBehind_106 : decode cX2_lengthBehind 106 = .ok (.imul, 1) := by decide +kernel
theorem dX2_lengthBehind_107 : decode cX2_lengthBehind 107 = .ok (.iadd, 1) := by decide +kernel
theorem dX2_lengthBehind_108 : decode cX2_lengthBehind 108 = .ok (.ireturn, 1) := by decide +kernel
theorem dX2_rewrite_0 : decode cX2_rewrite 0 = .ok (.aload_n 0, 1) := by decide +kernel
theorem dX2_rewrite_1 : decode cX2_rewrite 1 = .ok (.getfield 15, 3) := by decide +kernel
theorem dX2_rewrite_4 : decode cX2_rewrite 4 = .ok (.invokevirtual 53, 3) := by decide +kernel
theorem dX2_rewrite_7 : decode cX2_rewrite 7 = .ok (.istore_n 2, 1) := by decide +kernel
theorem dX2_rewrite_8 : decode cX2_rewrite 8 = .ok (.aload_n 0, 1) := by decide +kernel
theorem dX2_rewrite_9 : decode cX2_rewrite 9 = .ok (.getfield 15, 3) := by decide +kernel
theorem dX2_rewrite_12 : decode cX2_rewrite 12 = .ok (.iload_n 1, 1) := by decide +kernel
theorem dX2_rewrite_13 : decode cX2_rewrite 13 = .ok (.iconst 1, 1) := by decide +kernel
theorem dX2_rewrite_14 : decode cX2_rewrite 14 = .ok (.iadd, 1) := by decide +kernel
theorem dX2_rewrite_15 : decode cX2_rewrite 15 = .ok (.invokevirtual 57, 3) := by decide +kernel
theorem dX2_rewrite_18 : decode cX2_rewrite 18 = .ok (.istore_n 3, 1) := by decide +kernel
theorem dX2_rewrite_19 : decode cX2_rewrite 19 = .ok (.aload_n 0, 1) := by decide +kernel
theorem dX2_rewrite_20 : decode cX2_rewrite 20 = .ok (.getfield 9, 3) := by decide +kernel
theorem dX2_rewrite_23 : decode cX2_rewrite 23 = .ok (.bipush 56, 2) := by decide +kernel
theorem dX2_rewrite_25 : decode cX2_rewrite 25 = .ok (.invokevirtual 69, 3) := by decide +kernel
theorem dX2_rewrite_28 : decode cX2_rewrite 28 = .ok (.aload_n 0, 1) := by decide +kernel
theorem dX2_rewrite_29 : decode cX2_rewrite 29 = .ok (.getfield 9, 3) := by decide +kernel
theorem dX2_rewrite_32 : decode cX2_rewrite 32 = .ok (.bipush 56, 2) := by decide +kernel
theorem dX2_rewrite_34 : decode cX2_rewrite 34 = .ok (.iload_n 2, 1) := by decide +kernel
theorem dX2_rewrite_35 : decode cX2_rewrite 35 = .ok (.iconst 0, 1) := by decide +kernel
theorem dX2_rewrite_36 : decode cX2_rewrite 36 = .ok (.iload_n 1, 1) := by decide +kernel
theorem dX2_rewrite_37 : decode cX2_rewrite 37 = .ok (.invokevirtual 72, 3) := by decide +kernel
theorem dX2_rewrite_40 : decode cX2_rewrite 40 = .ok (.iload_n 1, 1) := by decide +kernel
theorem dX2_rewrite_41 : decode cX2_rewrite 41 = .ok (.iconst 2, 1) := by decide +kernel
theorem dX2_rewrite_42 : decode cX2_rewrite 42 = .ok (.iadd, 1) := by decide +kernel
theorem dX2_rewrite_43 : decode cX2_rewrite 43 = .ok (.istore 4, 2) := by decide +kernel
theorem dX2_rewrite_45 : decode cX2_rewrite 45 = .ok (.iload 4, 2) := by decide +kernel
theorem dX2_rewrite_47 : decode cX2_rewrite 47 = .ok (.iload_n 3, 1) := by decide +kernel
theorem dX2_rewrite_48 : decode cX2_rewrite 48 = .ok (.if_icmp .ge 101, 3) := by decide +kernel
theorem dX2_rewrite_51 : decode cX2_rewrite 51 = .ok (.aload_n 0, 1) := by decide +kernel
theorem dX2_rewrite_52 : decode cX2_rewrite 52 = .ok (.getfield 9, 3) := by decide +kernel
theorem dX2_rewrite_55 : decode cX2_rewrite 55 = .ok (.iload_n 2, 1) := by decide +kernel
theorem dX2_rewrite_56 : decode cX2_rewrite 56 = .ok (.iload 4, 2) := by decide +kernel
theorem dX2_rewrite_58 : decode cX2_rewrite 58 = .ok (.invokevirtual 60, 3) := by decide +kernel
theorem dX2_rewrite_61 : decode cX2_rewrite 61 = .ok (.istore 5, 2) := by decide +kernel
theorem dX2_rewrite_63 : decode cX2_rewrite 63 = .ok (.aload_n 0, 1) := by decide +kernel
theorem dX2_rewrite_64 : decode cX2_rewrite 64 = .ok (.getfield 9, 3) := by decide +kernel
theorem dX2_rewrite_67 : decode cX2_rewrite 67 = .ok (.iload_n 2, 1) := by decide +kernel
theorem dX2_rewrite_68 : decode cX2_rewrite 68 = .ok (.iload 4, 2) := by decide +kernel
theorem dX2_rewrite_70 : decode cX2_rewrite 70 = .ok (.invokevirtual 63, 3) := by decide +kernel
theorem dX2_rewrite_73 : decode cX2_rewrite 73 = .ok (.istore 6, 2) := by decide +kernel
theorem dX2_rewrite_75 : decode cX2_rewrite 75 = .ok (.aload_n 0, 1) := by decide +kernel
theorem dX2_rewrite_76 : decode cX2_rewrite 76 = .ok (.iload_n 1, 1) := by decide +kernel
theorem dX2_rewrite_77 : decode cX2_rewrite 77 = .ok (.iload 4, 2) := by decide +kernel
theorem dX2_rewrite_79 : decode cX2_rewrite 79 = .ok (.invokevirtual 66, 3) := by decide +kernel
theorem dX2_rewrite_82 : decode cX2_rewrite 82 = .ok (.istore 7, 2) := by decide +kernel
theorem dX2_rewrite_84 : decode cX2_rewrite 84 = .ok (.iload 5, 2) := by decide +kernel
theorem dX2_rewrite_86 : decode cX2_rewrite 86 = .ok (.ifCond .ne 10, 3) := by decide +kernel
theorem dX2_rewrite_89 : decode cX2_rewrite 89 = .ok (.iload 6, 2) := by decide +kernel
theorem dX2_rewrite_91 : decode cX2_rewrite 91 = .ok (.iload 7, 2) := by decide +kernel
theorem dX2_rewrite_93 : decode cX2_rewrite 93 = .ok (.if_icmp .ge 19, 3) := by decide +kernel
theorem dX2_rewrite_96 : decode cX2_rewrite 96 = .ok (.aload_n 0, 1) := by decide +kernel
theorem dX2_rewrite_97 : decode cX2_rewrite 97 = .ok (.getfield 9, 3) := by decide +kernel
theorem dX2_rewrite_100 : decode cX2_rewrite 100 = .ok (.bipush 56, 2) := by decide +kernel
theorem dX2_rewrite_102 : decode cX2_rewrite 102 = .ok (.iload 5, 2) := by decide +kernel
theorem dX2_rewrite_104 : decode cX2_rewrite 104 = .ok (.iload 6, 2) := by decide +kernel
theorem dX2_rewrite_106 : decode cX2_rewrite 106 = .ok (.invokevirtual 76, 3) := by decide +kernel
theorem dX2_rewrite_109 : decode cX2_rewrite 109 = .ok (.goto 34, 3) := by decide +kernel
theorem dX2_rewrite_112 : decode cX2_rewrite 112 = .ok (.iload 6, 2) := by decide +kernel
theorem dX2_rewrite_114 : decode cX2_rewrite 114 = .ok (.iload 7, 2) := by decide +kernel
theorem dX2_rewrite_116 : decode cX2_rewrite 116 = .ok (.if_icmp .ne 13, 3) := by decide +kernel
theorem dX2_rewrite_119 : decode cX2_rewrite 119 = .ok (.aload_n 0, 1) := by decide +kernel
theorem dX2_rewrite_120 : decode cX2_rewrite 120 = .ok (.iload_n 1, 1) := by decide +kernel
theorem dX2_rewrite_121 : decode cX2_rewrite 121 = .ok (.iload 7, 2) := by decide +kernel
theorem dX2_rewrite_123 : decode cX2_rewrite 123 = .ok (.invokevirtual 80, 3) := by decide +kernel
theorem dX2_rewrite_126 : decode cX2_rewrite 126 = .ok (.goto 17, 3) := by decide +kernel
theorem dX2_rewrite_129 : decode cX2_rewrite 129 = .ok (.aload_n 0, 1) := by decide +kernel
theorem dX2_rewrite_130 : decode cX2_rewrite 130 = .ok (.getfield 9, 3) := by decide +kernel
theorem dX2_rewrite_133 : decode cX2_rewrite 133 = .ok (.bipush 56, 2) := by decide +kernel
theorem dX2_rewrite_135 : decode cX2_rewrite 135 = .ok (.iconst 0, 1) := by decide +kernel
theorem dX2_rewrite_136 : decode cX2_rewrite 136 = .ok (.iload 6, 2) := by decide +kernel
theorem dX2_rewrite_138 : decode cX2_rewrite 138 = .ok (.iconst 1, 1) := by decide +kernel
theorem dX2_rewrite_139 : decode cX2_rewrite 139 = .ok (.isub, 1) := by decide +kernel
theorem dX2_rewrite_140 : decode cX2_rewrite 140 = .ok (.invokevirtual 76, 3) := by decide +kernel
theorem dX2_rewrite_143 : decode cX2_rewrite 143 = .ok (.iinc 4 1, 3) := by decide +kernel
theorem dX2_rewrite_146 : decode cX2_rewrite 146 = .ok (.goto (-101), 3) := by decide +kernel
theorem dX2_rewrite_149 : decode cX2_rewrite 149 = .ok (.aload_n 0, 1) := by decide +kernel
theorem dX2_rewrite_150 : decode cX2_rewrite 150 = .ok (.getfield 9, 3) := by decide +kernel
theorem dX2_rewrite_153 : decode cX2_rewrite 153 = .ok (.bipush 56, 2) := by decide +kernel
theorem dX2_rewrite_155 : decode cX2_rewrite 155 = .ok (.iload_n 2, 1) := by decide +kernel
theorem dX2_rewrite_156 : decode cX2_rewrite 156 = .ok (.aload_n 0, 1) := by decide +kernel
theorem dX2_rewrite_157 : decode cX2_rewrite 157 = .ok (.getfield 15, 3) := by decide +kernel
theorem dX2_rewrite_160 : decode cX2_rewrite 160 = .ok (.iload_n 1, 1) := by decide +kernel
theorem dX2_rewrite_161 : decode cX2_rewrite 161 = .ok (.invokevirtual 57, 3) := by decide +kernel
theorem dX2_rewrite_164 : decode cX2_rewrite 164 = .ok (.aload_n 0, 1) := by decide +kernel
theorem dX2_rewrite_165 : decode cX2_rewrite 165 = .ok (.getfield 9, 3) := by decide +kernel
theorem dX2_rewrite_168 : decode cX2_rewrite 168 = .ok (.iload_n 2, 1) := by decide +kernel
theorem dX2_rewrite_169 : decode cX2_rewrite 169 = .ok (.invokevirtual 26, 3) := by decide +kernel
theorem dX2_rewrite_172 : decode cX2_rewrite 172 = .ok (.invokevirtual 72, 3) := by decide +kernel
theorem dX2_rewrite_175 : decode cX2_rewrite 175 = .ok (.aload_n 0, 1) := by decide +kernel
theorem dX2_rewrite_176 : decode cX2_rewrite 176 = .ok (.getfield 9, 3) := by decide +kernel
theorem dX2_rewrite_179 : decode cX2_rewrite 179 = .ok (.bipush 56, 2) := by decide +kernel
theorem dX2_rewrite_181 : decode cX2_rewrite 181 = .ok (.iload_n 2, 1) := by decide +kernel
theorem dX2_rewrite_182 : decode cX2_rewrite 182 = .ok (.invokevirtual 84, 3) := by decide +kernel
theorem dX2_rewrite_185 : decode cX2_rewrite 185 = .ok (.return_, 1) := by decide +kernel
theorem dX2_draftArgument_0 : decode cX2_draftArgument 0 = .ok (.aload_n 0, 1) := by decide +kernel
theorem dX2_draftArgument_1 : decode cX2_draftArgument 1 = .ok (.getfield 15, 3) := by decide +kernel
theorem dX2_draftArgument_4 : decode cX2_draftArgument 4 = .ok (.invokevirtual 53, 3) := by decide +kernel
theorem dX2_draftArgument_7 : decode cX2_draftArgument 7 = .ok (.istore_n 3, 1) := by decide +kernel
theorem dX2_draftArgument_8 : decode cX2_draftArgument 8 = .ok (.aload_n 0, 1) := by decide +kernel
theorem dX2_draftArgument_9 : decode cX2_draftArgument 9 = .ok (.getfield 15, 3) := by decide +kernel
theorem dX2_draftArgument_12 : decode cX2_draftArgument 12 = .ok (.iload_n 1, 1) := by decide +kernel
theorem dX2_draftArgument_13 : decode cX2_draftArgument 13 = .ok (.invokevirtual 57, 3) := by decide +kernel
theorem dX2_draftArgument_16 : decode cX2_draftArgument 16 = .ok (.istore 4, 2) := by decide +kernel
theorem dX2_draftArgument_18 : decode cX2_draftArgument 18 = .ok (.aload_n 0, 1) := by decide +kernel
theorem dX2_draftArgument_19 : decode cX2_draftArgument 19 = .ok (.getfield 15, 3) := by decide +kernel
theorem dX2_draftArgument_22 : decode cX2_draftArgument 22 = .ok (.iload_n 1, 1) := by decide +kernel
theorem dX2_draftArgument_23 : decode cX2_draftArgument 23 = .ok (.iconst 1, 1) := by decide +kernel
theorem dX2_draftArgument_24 : decode cX2_draftArgument 24 = .ok (.iadd, 1) := by decide +kernel
theorem dX2_draftArgument_25 : decode cX2_draftArgument 25 = .ok (.invokevirtual 57, 3) := by decide +kernel
theorem dX2_draftArgument_28 : decode cX2_draftArgument 28 = .ok (.istore 5, 2) := by decide +kernel
theorem dX2_draftArgument_30 : decode cX2_draftArgument 30 = .ok (.iload 5, 2) := by decide +kernel
theorem dX2_draftArgument_32 : decode cX2_draftArgument 32 = .ok (.iload 4, 2) := by decide +kernel
theorem dX2_draftArgument_34 : decode cX2_draftArgument 34 = .ok (.if_icmp .ge 84, 3) := by decide +kernel
theorem dX2_draftArgument_37 : decode cX2_draftArgument 37 = .ok (.aload_n 0, 1) := by decide +kernel
theorem dX2_draftArgument_38 : decode cX2_draftArgument 38 = .ok (.getfield 9, 3) := by decide +kernel
theorem dX2_draftArgument_41 : decode cX2_draftArgument 41 = .ok (.iload_n 3, 1) := by decide +kernel
theorem dX2_draftArgument_42 : decode cX2_draftArgument 42 = .ok (.iload 5, 2) := by decide +kernel
theorem dX2_draftArgument_44 : decode cX2_draftArgument 44 = .ok (.invokevirtual 60, 3) := by decide +kernel
theorem dX2_draftArgument_47 : decode cX2_draftArgument 47 = .ok (.istore 6, 2) := by decide +kernel
theorem dX2_draftArgument_49 : decode cX2_draftArgument 49 = .ok (.aload_n 0, 1) := by decide +kernel
theorem dX2_draftArgument_50 : decode cX2_draftArgument 50 = .ok (.getfield 9, 3) := by decide +kernel
theorem dX2_draftArgument_53 : decode cX2_draftArgument 53 = .ok (.iload_n 3, 1) := by decide +kernel
theorem dX2_draftArgument_54 : decode cX2_draftArgument 54 = .ok (.iload 5, 2) := by decide +kernel
theorem dX2_draftArgument_56 : decode cX2_draftArgument 56 = .ok (.invokevirtual 63, 3) := by decide +kernel
theorem dX2_draftArgument_59 : decode cX2_draftArgument 59 = .ok (.istore 7, 2) := by decide +kernel
theorem dX2_draftArgument_61 : decode cX2_draftArgument 61 = .ok (.aload_n 0, 1) := by decide +kernel
theorem dX2_draftArgument_62 : decode cX2_draftArgument 62 = .ok (.getfield 15, 3) := by decide +kernel
theorem dX2_draftArgument_65 : decode cX2_draftArgument 65 = .ok (.iload 5, 2) := by decide +kernel
theorem dX2_draftArgument_67 : decode cX2_draftArgument 67 = .ok (.invokevirtual 87, 3) := by decide +kernel
theorem dX2_draftArgument_70 : decode cX2_draftArgument 70 = .ok (.aload_n 0, 1) := by decide +kernel
theorem dX2_draftArgument_71 : decode cX2_draftArgument 71 = .ok (.getfield 15, 3) := by decide +kernel
theorem dX2_draftArgument_74 : decode cX2_draftArgument 74 = .ok (.iload_n 1, 1) := by decide +kernel
theorem dX2_draftArgument_75 : decode cX2_draftArgument 75 = .ok (.invokevirtual 87, 3) := by decide +kernel
theorem dX2_draftArgument_78 : decode cX2_draftArgument 78 = .ok (.isub, 1) := by decide +kernel
theorem dX2_draftArgument_79 : decode cX2_draftArgument 79 = .ok (.istore 8, 2) := by decide +kernel
theorem dX2_draftArgument_81 : decode cX2_draftArgument 81 = .ok (.iload 6, 2) := by decide +kernel
theorem dX2_draftArgument_83 : decode cX2_draftArgument 83 = .ok (.ifCond .ne 16, 3) := by decide +kernel
theorem dX2_draftArgument_86 : decode cX2_draftArgument 86 = .ok (.iload 7, 2) := by decide +kernel
theorem dX2_draftArgument_88 : decode cX2_draftArgument 88 = .ok (.iload 8, 2) := by decide +kernel
theorem dX2_draftArgument_90 : decode cX2_draftArgument 90 = .ok (.if_icmp .lt 9, 3) := by decide +kernel
theorem dX2_draftArgument_93 : decode cX2_draftArgument 93 = .ok (.iload 7, 2) := by decide +kernel
theorem dX2_draftArgument_95 : decode cX2_draftArgument 95 = .ok (.iload_n 2, 1) := by decide +kernel
theorem dX2_draftArgument_96 : decode cX2_draftArgument 96 = .ok (.iadd, 1) := by decide +kernel
theorem dX2_draftArgument_97 : decode cX2_draftArgument 97 = .ok (.istore 7, 2) := by decide +kernel
theorem dX2_draftArgument_99 : decode cX2_draftArgument 99 = .ok (.aload_n 0, 1) := by decide +kernel
theorem dX2_draftArgument_100 : decode cX2_draftArgument 100 = .ok (.getfield 9, 3) := by decide +kernel
theorem dX2_draftArgument_103 : decode cX2_draftArgument 103 = .ok (.bipush 56, 2) := by decide +kernel
theorem dX2_draftArgument_105 : decode cX2_draftArgument 105 = .ok (.iload 6, 2) := by decide +kernel
theorem dX2_draftArgument_107 : decode cX2_draftArgument 107 = .ok (.iload 7, 2) := by decide +kernel
theorem dX2_draftArgument_109 : decode cX2_draftArgument 109 = .ok (.invokevirtual 76, 3) := by decide +kernel
theorem dX2_draftArgument_112 : decode cX2_draftArgument 112 = .ok (.iinc 5 1, 3) := by decide +kernel
theorem dX2_draftArgument_115 : decode cX2_draftArgument 115 = .ok (.goto (-85), 3) := by decide +kernel
theorem dX2_draftArgument_118 : decode cX2_draftArgument 118 = .ok (.return_, 1) := by decide +kernel
theorem dX2_functionsWithin_0 : decode cX2_functionsWithin 0 = .ok (.aload_n 0, 1) := by decide +kernel
theorem dX2_functionsWithin_1 : decode cX2_functionsWithin 1 = .ok (.getfield 15, 3) := by decide +kernel
theorem dX2_functionsWithin_4 : decode cX2_functionsWithin 4 = .ok (.iload_n 2, 1) := by decide +kernel
theorem dX2_functionsWithin_5 : decode cX2_functionsWithin 5 = .ok (.invokevirtual 87, 3) := by decide +kernel
theorem dX2_functionsWithin_8 : decode cX2_functionsWithin 8 = .ok (.aload_n 0, 1) := by decide +kernel
theorem dX2_functionsWithin_9 : decode cX2_functionsWithin 9 = .ok (.getfield 15, 3) := by decide +kernel
theorem dX2_functionsWithin_12 : decode cX2_functionsWithin 12 = .ok (.iload_n 1, 1) := by decide +kernel
theorem dX2_functionsWithin_13 : decode cX2_functionsWithin 13 = .ok (.invokevirtual 87, 3) := by decide +kernel
theorem dX2_functionsWithin_16 : decode cX2_functionsWithin 16 = .ok (.isub, 1) := by decide +kernel
theorem dX2_functionsWithin_17 : decode cX2_functionsWithin 17 = .ok (.iconst 1, 1) := by decide +kernel
theorem dX2_functionsWithin_18 : decode cX2_functionsWithin 18 = .ok (.isub, 1) := by decide +kernel
theorem dX2_functionsWithin_19 : decode cX2_functionsWithin 19 = .ok (.ireturn, 1) := by decide +kernel
theorem dX3_init_0 : decode cX3_init 0 = .ok (.aload_n 0, 1) := by decide +kernel
theorem dX3_init_1 : decode cX3_init 1 = .ok (.invokespecial 1, 3) := by decide +kernel
theorem dX3_init_4 : decode cX3_init 4 = .ok (.aload_n 0, 1) := by decide +kernel
theorem dX3_init_5 : decode cX3_init 5 = .ok (.iload_n 1, 1) := by decide +kernel
theorem dX3_init_6 : decode cX3_init 6 = .ok (.iconst 0, 1) := by decide +kernel
theorem dX3_init_7 : decode cX3_init 7 = .ok (.invokestatic 7, 3) := by decide +kernel
theorem dX3_init_10 : decode cX3_init 10 = .ok (.newarray .int, 2) := by decide +kernel
theorem dX3_init_12 : decode cX3_init 12 = .ok (.putfield 13, 3) := by decide +kernel
theorem dX3_init_15 : decode cX3_init 15 = .ok (.return_, 1) := by decide +kernel
theorem dX3_get_0 : decode cX3_get 0 = .ok (.iload_n 1, 1) := by decide +kernel
theorem dX3_get_1 : decode cX3_get 1 = .ok (.ifCond .lt 21, 3) := by decide +kernel
theorem dX3_get_4 : decode cX3_get 4 = .ok (.iload_n 1, 1) := by decide +kernel
theorem dX3_get_5 : decode cX3_get 5 = .ok (.aload_n 0, 1) := by decide +kernel
theorem dX3_get_6 : decode cX3_get 6 = .ok (.getfield 13, 3) := by decide +kernel
theorem dX3_get_9 : decode cX3_get 9 = .ok (.arraylength, 1) := by decide +kernel
theorem dX3_get_10 : decode cX3_get 10 = .ok (.if_icmp .ge 12, 3) := by decide +kernel
theorem dX3_get_13 : decode cX3_get 13 = .ok (.aload_n 0, 1) := by decide +kernel
theorem dX3_get_14 : decode cX3_get 14 = .ok (.getfield 13, 3) := by decide +kernel
theorem dX3_get_17 : decode cX3_get 17 = .ok (.iload_n 1, 1) := by decide +kernel
theorem dX3_get_18 : decode cX3_get 18 = .ok (.iaload, 1) := by decide +kernel
theorem dX3_get_19 : decode cX3_get 19 = .ok (.goto 4, 3) := by decide +kernel
theorem dX3_get_22 : decode cX3_get 22 = .ok (.iconst 0, 1) := by decide +kernel
theorem dX3_get_23 : decode cX3_get 23 = .ok (.ireturn, 1) := by decide +kernel
theorem dX3_set_0 : decode cX3_set 0 = .ok (.iload_n 1, 1) := by decide +kernel
theorem dX3_set_1 : decode cX3_set 1 = .ok (.ifCond .lt 19, 3) := by decide +kernel
theorem dX3_set_4 : decode cX3_set 4 = .ok (.iload_n 1, 1) := by decide +kernel
theorem dX3_set_5 : decode cX3_set 5 = .ok (.aload_n 0, 1) := by decide +kernel
theorem dX3_set_6 : decode cX3_set 6 = .ok (.getfield 13, 3) := by decide +kernel
theorem dX3_set_9 : decode cX3_set 9 = .ok (.arraylength, 1) := by decide +kernel
theorem dX3_set_10 : decode cX3_set 10 = .ok (.if_icmp .ge 10, 3) := by decide +kernel
theorem dX3_set_13 : decode cX3_set 13 = .ok (.aload_n 0, 1) := by decide +kernel
theorem dX3_set_14 : decode cX3_set 14 = .ok (.getfield 13, 3) := by decide +kernel
theorem dX3_set_17 : decode cX3_set 17 = .ok (.iload_n 1, 1) := by decide +kernel
theorem dX3_set_18 : decode cX3_set 18 = .ok (.iload_n 2, 1) := by decide +kernel
theorem dX3_set_19 : decode cX3_set 19 = .ok (.iastore, 1) := by decide +kernel
theorem dX3_set_20 : decode cX3_set 20 = .ok (.return_, 1) := by decide +kernel
theorem dX3_move_0 : decode cX3_move 0 = .ok (.aload_n 0, 1) := by decide +kernel
theorem dX3_move_1 : decode cX3_move 1 = .ok (.getfield 13, 3) := by decide +kernel
theorem dX3_move_4 : decode cX3_move 4 = .ok (.arraylength, 1) := by decide +kernel
theorem dX3_move_5 : decode cX3_move 5 = .ok (.iload_n 3, 1) := by decide +kernel
theorem dX3_move_6 : decode cX3_move 6 = .ok (.isub, 1) := by decide +kernel
theorem dX3_move_7 : decode cX3_move 7 = .ok (.istore 4, 2) := by decide +kernel
theorem dX3_move_9 : decode cX3_move 9 = .ok (.iload_n 3, 1) := by decide +kernel
theorem dX3_move_10 : decode cX3_move 10 = .ok (.ifCond .le 37, 3) := by decide +kernel
theorem dX3_move_13 : decode cX3_move 13 = .ok (.iload_n 1, 1) := by decide +kernel
theorem dX3_move_14 : decode cX3_move 14 = .ok (.ifCond .lt 33, 3) := by decide +kernel
theorem dX3_move_17 : decode cX3_move 17 = .ok (.iload_n 1, 1) := by decide +kernel
theorem dX3_move_18 : decode cX3_move 18 = .ok (.iload 4, 2) := by decide +kernel
theorem dX3_move_20 : decode cX3_move 20 = .ok (.if_icmp .gt 27, 3) := by decide +kernel
theorem dX3_move_23 : decode cX3_move 23 = .ok (.iload_n 2, 1) := by decide +kernel
theorem dX3_move_24 : decode cX3_move 24 = .ok (.ifCond .lt 23, 3) := by decide +kernel
theorem dX3_move_27 : decode cX3_move 27 = .ok (.iload_n 2, 1) := by decide +kernel
theorem dX3_move_28 : decode cX3_move 28 = .ok (.iload 4, 2) := by decide +kernel
theorem dX3_move_30 : decode cX3_move 30 = .ok (.if_icmp .gt 17, 3) := by decide +kernel
theorem dX3_move_33 : decode cX3_move 33 = .ok (.aload_n 0, 1) := by decide +kernel
theorem dX3_move_34 : decode cX3_move 34 = .ok (.getfield 13, 3) := by decide +kernel
theorem dX3_move_37 : decode cX3_move 37 = .ok (.iload_n 1, 1) := by decide +kernel
theorem dX3_move_38 : decode cX3_move 38 = .ok (.aload_n 0, 1) := by decide +kernel
theorem dX3_move_39 : decode cX3_move 39 = .ok (.getfield 13, 3) := by decide +kernel
theorem dX3_move_42 : decode cX3_move 42 = .ok (.iload_n 2, 1) := by decide +kernel
theorem dX3_move_43 : decode cX3_move 43 = .ok (.iload_n 3, 1) := by decide +kernel
theorem dX3_move_44 : decode cX3_move 44 = .ok (.invokestatic 19, 3) := by decide +kernel
theorem dX3_move_47 : decode cX3_move 47 = .ok (.return_, 1) := by decide +kernel
theorem dX4_init_0 : decode cX4_init 0 = .ok (.aload_n 0, 1) := by decide +kernel
theorem dX4_init_1 : decode cX4_init 1 = .ok (.invokespecial 3, 3) := by decide +kernel
theorem dX4_init_4 : decode cX4_init 4 = .ok (.aload_n 0, 1) := by decide +kernel
theorem dX4_init_5 : decode cX4_init 5 = .ok (.new 9, 3) := by decide +kernel
theorem dX4_init_8 : decode cX4_init 8 = .ok (.dup, 1) := by decide +kernel
theorem dX4_init_9 : decode cX4_init 9 = .ok (.bipush 57, 2) := by decide +kernel
theorem dX4_init_11 : decode cX4_init 11 = .ok (.invokespecial 11, 3) := by decide +kernel
theorem dX4_init_14 : decode cX4_init 14 = .ok (.putfield 14, 3) := by decide +kernel
theorem dX4_init_17 : decode cX4_init 17 = .ok (.aload_n 0, 1) := by decide +kernel
theorem dX4_init_18 : decode cX4_init 18 = .ok (.new 9, 3) := by decide +kernel
theorem dX4_init_21 : decode cX4_init 21 = .ok (.dup, 1) := by decide +kernel
theorem dX4_init_22 : decode cX4_init 22 = .ok (.sipush 11400, 3) := by decide +kernel
theorem dX4_init_25 : decode cX4_init 25 = .ok (.invokespecial 11, 3) := by decide +kernel
theorem dX4_init_28 : decode cX4_init 28 = .ok (.putfield 20, 3) := by decide +kernel
theorem dX4_init_31 : decode cX4_init 31 = .ok (.return_, 1) := by decide +kernel
theorem dX4_length_0 : decode cX4_length 0 = .ok (.aload_n 0, 1) := by decide +kernel
theorem dX4_length_1 : decode cX4_length 1 = .ok (.getfield 14, 3) := by decide +kernel
theorem dX4_length_4 : decode cX4_length 4 = .ok (.iload_n 1, 1) := by decide +kernel
theorem dX4_length_5 : decode cX4_length 5 = .ok (.invokevirtual 23, 3) := by decide +kernel
theorem dX4_length_8 : decode cX4_length 8 = .ok (.ireturn, 1) := by decide +kernel
theorem dX4_kind_0 : decode cX4_kind 0 = .ok (.aload_n 0, 1) := by decide +kernel
theorem dX4_kind_1 : decode cX4_kind 1 = .ok (.getfield 20, 3) := by decide +kernel
theorem dX4_kind_4 : decode cX4_kind 4 = .ok (.iload_n 1, 1) := by decide +kernel
theorem dX4_kind_5 : decode cX4_kind 5 = .ok (.sipush 200, 3) := by decide +kernel
theorem dX4_kind_8 : decode cX4_kind 8 = .ok (.imul, 1) := by decide +kernel
theorem dX4_kind_9 : decode cX4_kind 9 = .ok (.iload_n 2, 1) := by decide +kernel
theorem dX4_kind_10 : decode cX4_kind 10 = .ok (.iadd, 1) := by decide +kernel
theorem dX4_kind_11 : decode cX4_kind 11 = .ok (.invokevirtual 23, 3) := by decide +kernel
theorem dX4_kind_14 : decode cX4_kind 14 = .ok (.sipush 256, 3) := by decide +kernel
theorem dX4_kind_17 : decode cX4_kind 17 = .ok (.idiv, 1) := by decide +kernel
theorem dX4_kind_18 : decode cX4_kind 18 = .ok (.ireturn, 1) := by decide +kernel
theorem dX4_number_0 : decode cX4_number 0 = .ok (.aload_n 0, 1) := by decide +kernel
theorem dX4_number_1 : decode cX4_number 1 = .ok (.getfield 20, 3) := by decide +kernel
theorem dX4_number_4 : decode cX4_number 4 = .ok (.iload_n 1, 1) := by decide +kernel
theorem dX4_number_5 : decode cX4_number 5 = .ok (.sipush 200, 3) := by decide +kernel
theorem dX4_number_8 : decode cX4_number 8 = .ok (.imul, 1) := by decide +kernel
theorem dX4_number_9 : decode cX4_number 9 = .ok (.iload_n 2, 1) := by decide +kernel
theorem dX4_number_10 : decode cX4_number 10 = .ok (.iadd, 1) := by decide +kernel
theorem dX4_number_11 : decode cX4_number 11 = .ok (.invokevirtual 23, 3) := by decide +kernel
theorem dX4_number_14 : decode cX4_number 14 = .ok (.sipush 256, 3) := by decide +kernel
theorem dX4_number_17 : decode cX4_number 17 = .ok (.irem, 1) := by decide +kernel
theorem dX4_number_18 : decode cX4_number 18 = .ok (.ireturn, 1) := by decide +kernel
theorem dX4_clear_0 : decode cX4_clear 0 = .ok (.aload_n 0, 1) := by decide +kernel
theorem dX4_clear_1 : decode cX4_clear 1 = .ok (.getfield 14, 3) := by decide +kernel
theorem dX4_clear_4 : decode cX4_clear 4 = .ok (.iload_n 1, 1) := by decide +kernel
theorem dX4_clear_5 : decode cX4_clear 5 = .ok (.iconst 0, 1) := by decide +kernel
theorem dX4_clear_6 : decode cX4_clear 6 = .ok (.invokevirtual 27, 3) := by decide +kernel
theorem dX4_clear_9 : decode cX4_clear 9 = .ok (.return_, 1) := by decide +kernel
theorem dX4_append_0 : decode cX4_append 0 = .ok (.aload_n 0, 1) := by decide +kernel
theorem dX4_append_1 : decode cX4_append 1 = .ok (.getfield 14, 3) := by decide +kernel
theorem dX4_append_4 : decode cX4_append 4 = .ok (.iload_n 1, 1) := by decide +kernel
theorem dX4_append_5 : decode cX4_append 5 = .ok (.invokevirtual 23, 3) := by decide +kernel
theorem dX4_append_8 : decode cX4_append 8 = .ok (.istore 4, 2) := by decide +kernel
theorem dX4_append_10 : decode cX4_append 10 = .ok (.iload 4, 2) := by decide +kernel
theorem dX4_append_12 : decode cX4_append 12 = .ok (.sipush 200, 3) := by decide +kernel
theorem dX4_append_15 : decode cX4_append 15 = .ok (.if_icmp .ge 37, 3) := by decide +kernel
theorem dX4_append_18 : decode cX4_append 18 = .ok (.aload_n 0, 1) := by decide +kernel
theorem dX4_append_19 : decode cX4_append 19 = .ok (.getfield 20, 3) := by decide +kernel
theorem dX4_append_22 : decode cX4_append 22 = .ok (.iload_n 1, 1) := by decide +kernel
theorem dX4_append_23 : decode cX4_append 23 = .ok (.sipush 200, 3) := by decide +kernel
theorem dX4_append_26 : decode cX4_append 26 = .ok (.imul, 1) := by decide +kernel
theorem dX4_append_27 : decode cX4_append 27 = .ok (.iload 4, 2) := by decide +kernel
theorem dX4_append_29 : decode cX4_append 29 = .ok (.iadd, 1) := by decide +kernel
theorem dX4_append_30 : decode cX4_append 30 = .ok (.iload_n 2, 1) := by decide +kernel
theorem dX4_append_31 : decode cX4_append 31 = .ok (.sipush 256, 3) := by decide +kernel
theorem dX4_append_34 : decode cX4_append 34 = .ok (.imul, 1) := by decide +kernel
theorem dX4_append_35 : decode cX4_append 35 = .ok (.iload_n 3, 1) := by decide +kernel
theorem dX4_append_36 : decode cX4_append 36 = .ok (.iadd, 1) := by decide +kernel
theorem dX4_append_37 : decode cX4_append 37 = .ok (.invokevirtual 27, 3) := by decide +kernel
theorem dX4_append_40 : decode cX4_append 40 = .ok (.aload_n 0, 1) := by decide +kernel
theorem dX4_append_41 : decode cX4_append 41 = .ok (.getfield 14, 3) := by decide +kernel
theorem dX4_append_44 : decode cX4_append 44 = .ok (.iload_n 1, 1) := by decide +kernel
theorem dX4_append_45 : decode cX4_append 45 = .ok (.iload 4, 2) := by decide +kernel
theorem dX4_append_47 : decode cX4_append 47 = .ok (.iconst 1, 1) := by decide +kernel
theorem dX4_append_48 : decode cX4_append 48 = .ok (.iadd, 1) := by decide +kernel
theorem dX4_append_49 : decode cX4_append 49 = .ok (.invokevirtual 27, 3) := by decide +kernel
theorem dX4_append_52 : decode cX4_append 52 = .ok (.return_, 1) := by decide +kernel
theorem dX4_appendParts_0 : decode cX4_appendParts 0 = .ok (.aload_n 0, 1) := by decide +kernel
theorem dX4_appendParts_1 : decode cX4_appendParts 1 = .ok (.getfield 14, 3) := by decide +kernel
theorem dX4_appendParts_4 : decode cX4_appendParts 4 = .ok (.iload_n 1, 1) := by decide +kernel
theorem dX4_appendParts_5 : decode cX4_appendParts 5 = .ok (.invokevirtual 23, 3) := by decide +kernel
theorem dX4_appendParts_8 : decode cX4_appendParts 8 = .ok (.istore 5, 2) := by decide +kernel
theorem dX4_appendParts_10 : decode cX4_appendParts 10 = .ok (.iload 4, 2) := by decide +kernel
theorem dX4_appendParts_12 : decode cX4_appendParts 12 = .ok (.iload_n 3, 1) := by decide +kernel
theorem dX4_appendParts_13 : decode cX4_appendParts 13 = .ok (.isub, 1) := by decide +kernel
theorem dX4_appendParts_14 : decode cX4_appendParts 14 = .ok (.istore 6, 2) := by decide +kernel
theorem dX4_appendParts_16 : decode cX4_appendParts 16 = .ok (.iload 6, 2) := by decide +kernel
theorem dX4_appendParts_18 : decode cX4_appendParts 18 = .ok (.ifCond .le 51, 3) := by decide +kernel
theorem dX4_appendParts_21 : decode cX4_appendParts 21 = .ok (.iload 5, 2) := by decide +kernel
theorem dX4_appendParts_23 : decode cX4_appendParts 23 = .ok (.iload 6, 2) := by decide +kernel
theorem dX4_appendParts_25 : decode cX4_appendParts 25 = .ok (.iadd, 1) := by decide +kernel
theorem dX4_appendParts_26 : decode cX4_appendParts 26 = .ok (.sipush 200, 3) := by decide +kernel
theorem dX4_appendParts_29 : decode cX4_appendParts 29 = .ok (.if_icmp .gt 40, 3) := by decide +kernel
theorem dX4_appendParts_32 : decode cX4_appendParts 32 = .ok (.aload_n 0, 1) := by decide +kernel
theorem dX4_appendParts_33 : decode cX4_appendParts 33 = .ok (.getfield 20, 3) := by decide +kernel
theorem dX4_appendParts_36 : decode cX4_appendParts 36 = .ok (.iload_n 2, 1) := by decide +kernel
theorem dX4_appendParts_37 : decode cX4_appendParts 37 = .ok (.sipush 200, 3) := by decide +kernel
theorem dX4_appendParts_40 : decode cX4_appendParts 40 = .ok (.imul, 1) := by decide +kernel
theorem dX4_appendParts_41 : decode cX4_appendParts 41 = .ok (.iload_n 3, 1) := by decide +kernel
theorem dX4_appendParts_42 : decode cX4_appendParts 42 = .ok (.iadd, 1) := by decide +kernel
theorem dX4_appendParts_43 : decode cX4_appendParts 43 = .ok (.iload_n 1, 1) := by decide +kernel
theorem dX4_appendParts_44 : decode cX4_appendParts 44 = .ok (.sipush 200, 3) := by decide +kernel
theorem dX4_appendParts_47 : decode cX4_appendParts 47 = .ok (.imul, 1) := by decide +kernel
theorem dX4_appendParts_48 : decode cX4_appendParts 48 = .ok (.iload 5, 2) := by decide +kernel
theorem dX4_appendParts_50 : decode cX4_appendParts 50 = .ok (.iadd, 1) := by decide +kernel
theorem dX4_appendParts_51 : decode cX4_appendParts 51 = .ok (.iload 6, 2) := by decide +kernel
theorem dX4_appendParts_53 : decode cX4_appendParts 53 = .ok (.invokevirtual 31, 3) := by decide +kernel
theorem dX4_appendParts_56 : decode cX4_appendParts 56 = .ok (.aload_n 0, 1) := by decide +kernel
theorem dX4_appendParts_57 : decode cX4_appendParts 57 = .ok (.getfield 14, 3) := by decide +kernel
theorem dX4_appendParts_60 : decode cX4_appendParts 60 = .ok (.iload_n 1, 1) := by decide +kernel
theorem dX4_appendParts_61 : decode cX4_appendParts 61 = .ok (.iload 5, 2) := by decide +kernel
theorem dX4_appendParts_63 : decode cX4_appendParts 63 = .ok (.iload 6, 2) := by decide +kernel
theorem dX4_appendParts_65 : decode cX4_appendParts 65 = .ok (.iadd, 1) := by decide +kernel
theorem dX4_appendParts_66 : decode cX4_appendParts 66 = .ok (.invokevirtual 27, 3) := by decide +kernel
theorem dX4_appendParts_69 : decode cX4_appendParts 69 = .ok (.return_, 1) := by decide +kernel
theorem dX4_duplicate_0 : decode cX4_duplicate 0 = .ok (.iload_n 1, 1) := by decide +kernel
theorem dX4_duplicate_1 : decode cX4_duplicate 1 = .ok (.iload_n 2, 1) := by decide +kernel
theorem dX4_duplicate_2 : decode cX4_duplicate 2 = .ok (.if_icmp .ne 4, 3) := by decide +kernel
theorem dX4_duplicate_5 : decode cX4_duplicate 5 = .ok (.return_, 1) := by decide +kernel
theorem dX4_duplicate_6 : decode cX4_duplicate 6 = .ok (.aload_n 0, 1) := by decide +kernel
theorem dX4_duplicate_7 : decode cX4_duplicate 7 = .ok (.iload_n 2, 1) := by decide +kernel
theorem dX4_duplicate_8 : decode cX4_duplicate 8 = .ok (.invokevirtual 35, 3) := by decide +kernel
theorem dX4_duplicate_11 : decode cX4_duplicate 11 = .ok (.aload_n 0, 1) := by decide +kernel
theorem dX4_duplicate_12 : decode cX4_duplicate 12 = .ok (.iload_n 2, 1) := by decide +kernel
theorem dX4_duplicate_13 : decode cX4_duplicate 13 = .ok (.iload_n 1, 1) := by decide +kernel
theorem dX4_duplicate_14 : decode cX4_duplicate 14 = .ok (.iconst 0, 1) := by decide +kernel
theorem dX4_duplicate_15 : decode cX4_duplicate 15 = .ok (.aload_n 0, 1) := by decide +kernel
theorem dX4_duplicate_16 : decode cX4_duplicate 16 = .ok (.iload_n 1, 1) := by decide +kernel
theorem dX4_duplicate_17 : decode cX4_duplicate 17 = .ok (.invokevirtual 38, 3) := by decide +kernel
theorem dX4_duplicate_20 : decode cX4_duplicate 20 = .ok (.invokevirtual 41, 3) := by decide +kernel
theorem dX4_duplicate_23 : decode cX4_duplicate 23 = .ok (.return_, 1) := by decide +kernel
theorem dX4_duplicateState_0 : decode cX4_duplicateState 0 = .ok (.iconst 0, 1) := by decide +kernel
theorem dX4_duplicateState_1 : decode cX4_duplicateState 1 = .ok (.istore_n 3, 1) := by decide +kernel
theorem dX4_duplicateState_2 : decode cX4_duplicateState 2 = .ok (.iload_n 3, 1) := by decide +kernel
theorem dX4_duplicateState_3 : decode cX4_duplicateState 3 = .ok (.bipush 6, 2) := by decide +kernel
theorem dX4_duplicateState_5 : decode cX4_duplicateState 5 = .ok (.if_icmp .ge 25, 3) := by decide +kernel
theorem dX4_duplicateState_8 : decode cX4_duplicateState 8 = .ok (.aload_n 0, 1) := by decide +kernel
theorem dX4_duplicateState_9 : decode cX4_duplicateState 9 = .ok (.iload_n 1, 1) := by decide +kernel
theorem dX4_duplicateState_10 : decode cX4_duplicateState 10 = .ok (.bipush 6, 2) := by decide +kernel
theorem dX4_duplicateState_12 : decode cX4_duplicateState 12 = .ok (.imul, 1) := by decide +kernel
theorem dX4_duplicateState_13 : decode cX4_duplicateState 13 = .ok (.iload_n 3, 1) := by decide +kernel
theorem dX4_duplicateState_14 : decode cX4_duplicateState 14 = .ok (.iadd, 1) := by decide +kernel
theorem dX4_duplicateState_15 : decode cX4_duplicateState 15 = .ok (.iload_n 2, 1) := by decide +kernel
theorem dX4_duplicateState_16 : decode cX4_duplicateState 16 = .ok (.bipush 6, 2) := by decide +kernel
theorem dX4_duplicateState_18 : decode cX4_duplicateState 18 = .ok (.imul, 1) := by decide +kernel
theorem dX4_duplicateState_19 : decode cX4_duplicateState 19 = .ok (.iload_n 3, 1) := by decide +kernel
theorem dX4_duplicateState_20 : decode cX4_duplicateState 20 = .ok (.iadd, 1) := by decide +kernel
theorem dX4_duplicateState_21 : decode cX4_duplicateState 21 = .ok (.invokevirtual 45, 3) := by decide +kernel
theorem dX4_duplicateState_24 : decode cX4_duplicateState 24 = .ok (.iinc 3 1, 3) := by decide +kernel
theorem dX4_duplicateState_27 : decode cX4_duplicateState 27 = .ok (.goto (-25), 3) := by decide +kernel
theorem dX4_duplicateState_30 : decode cX4_duplicateState 30 = .ok (.return_, 1) := by decide +kernel
theorem dX4_alikePartByPart_0 : decode cX4_alikePartByPart 0 = .ok (.aload_n 0, 1) := by decide +kernel
theorem dX4_alikePartByPart_1 : decode cX4_alikePartByPart 1 = .ok (.iload_n 1, 1) := by decide +kernel
theorem dX4_alikePartByPart_2 : decode cX4_alikePartByPart 2 = .ok (.invokevirtual 38, 3) := by decide +kernel
theorem dX4_alikePartByPart_5 : decode cX4_alikePartByPart 5 = .ok (.aload_n 0, 1) := by decide +kernel
theorem dX4_alikePartByPart_6 : decode cX4_alikePartByPart 6 = .ok (.iload_n 2, 1) := by decide +kernel
theorem dX4_alikePartByPart_7 : decode cX4_alikePartByPart 7 = .ok (.invokevirtual 38, 3) := by decide +kernel
theorem dX4_alikePartByPart_10 : decode cX4_alikePartByPart 10 = .ok (.if_icmp .eq 5, 3) := by decide +kernel
theorem dX4_alikePartByPart_13 : decode cX4_alikePartByPart 13 = .ok (.iconst 0, 1) := by decide +kernel
theorem dX4_alikePartByPart_14 : decode cX4_alikePartByPart 14 = .ok (.ireturn, 1) := by decide +kernel
theorem dX4_alikePartByPart_15 : decode cX4_alikePartByPart 15 = .ok (.iconst 0, 1) := by decide +kernel
theorem dX4_alikePartByPart_16 : decode cX4_alikePartByPart 16 = .ok (.istore_n 3, 1) := by decide +kernel
theorem dX4_alikePartByPart_17 : decode cX4_alikePartByPart 17 = .ok (.iload_n 3, 1) := by decide +kernel
theorem dX4_alikePartByPart_18 : decode cX4_alikePartByPart 18 = .ok (.aload_n 0, 1) := by decide +kernel
theorem dX4_alikePartByPart_19 : decode cX4_alikePartByPart 19 = .ok (.iload_n 1, 1) := by decide +kernel
theorem dX4_alikePartByPart_20 : decode cX4_alikePartByPart 20 = .ok (.invokevirtual 38, 3) := by decide +kernel
theorem dX4_alikePartByPart_23 : decode cX4_alikePartByPart 23 = .ok (.if_icmp .ge 42, 3) := by decide +kernel
theorem dX4_alikePartByPart_26 : decode cX4_alikePartByPart 26 = .ok (.aload_n 0, 1) := by decide +kernel
theorem dX4_alikePartByPart_27 : decode cX4_alikePartByPart 27 = .ok (.getfield 20, 3) := by decide +kernel
theorem dX4_alikePartByPart_30 : decode cX4_alikePartByPart 30 = .ok (.iload_n 1, 1) := by decide +kernel
theorem dX4_alikePartByPart_31 : decode cX4_alikePartByPart 31 = .ok (.sipush 200, 3) := by decide +kernel
theorem dX4_alikePartByPart_34 : decode cX4_alikePartByPart 34 = .ok (.imul, 1) := by decide +kernel
theorem dX4_alikePartByPart_35 : decode cX4_alikePartByPart 35 = .ok (.iload_n 3, 1) := by decide +kernel
theorem dX4_alikePartByPart_36 : decode cX4_alikePartByPart 36 = .ok (.iadd, 1) := by decide +kernel
theorem dX4_alikePartByPart_37 : decode cX4_alikePartByPart 37 = .ok (.invokevirtual 23, 3) := by decide +kernel
theorem dX4_alikePartByPart_40 : decode cX4_alikePartByPart 40 = .ok (.aload_n 0, 1) := by decide +kernel
theorem dX4_alikePartByPart_41 : decode cX4_alikePartByPart 41 = .ok (.getfield 20, 3) := by decide +kernel
theorem dX4_alikePartByPart_44 : decode cX4_alikePartByPart 44 = .ok (.iload_n 2, 1) := by decide +kernel
theorem dX4_alikePartByPart_45 : decode cX4_alikePartByPart 45 = .ok (.sipush 200, 3) := by decide +kernel
theorem dX4_alikePartByPart_48 : decode cX4_alikePartByPart 48 = .ok (.imul, 1) := by decide +kernel
theorem dX4_alikePartByPart_49 : decode cX4_alikePartByPart 49 = .ok (.iload_n 3, 1) := by decide +kernel
theorem dX4_alikePartByPart_50 : decode cX4_alikePartByPart 50 = .ok (.iadd, 1) := by decide +kernel
theorem dX4_alikePartByPart_51 : decode cX4_alikePartByPart 51 = .ok (.invokevirtual 23, 3) := by decide +kernel
theorem dX4_alikePartByPart_54 : decode cX4_alikePartByPart 54 = .ok (.if_icmp .eq 5, 3) := by decide +kernel
theorem dX4_alikePartByPart_57 : decode cX4_alikePartByPart 57 = .ok (.iconst 0, 1) := by decide +kernel
theorem dX4_alikePartByPart_58 : decode cX4_alikePartByPart 58 = .ok (.ireturn, 1) := by decide +kernel
theorem dX4_alikePartByPart_59 : decode cX4_alikePartByPart 59 = .ok (.iinc 3 1, 3) := by decide +kernel
theorem dX4_alikePartByPart_62 : decode cX4_alikePartByPart 62 = .ok (.goto (-45), 3) := by decide +kernel
theorem dX4_alikePartByPart_65 : decode cX4_alikePartByPart 65 = .ok (.iconst 1, 1) := by decide +kernel
theorem dX4_alikePartByPart_66 : decode cX4_alikePartByPart 66 = .ok (.ireturn, 1) := by decide +kernel
theorem dX4_partsOfKind_0 : decode cX4_partsOfKind 0 = .ok (.iconst 0, 1) := by decide +kernel
theorem dX4_partsOfKind_1 : decode cX4_partsOfKind 1 = .ok (.istore_n 3, 1) := by decide +kernel
theorem dX4_partsOfKind_2 : decode cX4_partsOfKind 2 = .ok (.iconst 0, 1) := by decide +kernel
theorem dX4_partsOfKind_3 : decode cX4_partsOfKind 3 = .ok (.istore 4, 2) := by decide +kernel
theorem dX4_partsOfKind_5 : decode cX4_partsOfKind 5 = .ok (.iload 4, 2) := by decide +kernel
theorem dX4_partsOfKind_7 : decode cX4_partsOfKind 7 = .ok (.aload_n 0, 1) := by decide +kernel
theorem dX4_partsOfKind_8 : decode cX4_partsOfKind 8 = .ok (.iload_n 1, 1) := by decide +kernel
theorem dX4_partsOfKind_9 : decode cX4_partsOfKind 9 = .ok (.invokevirtual 38, 3) := by decide +kernel
theorem dX4_partsOfKind_12 : decode cX4_partsOfKind 12 = .ok (.if_icmp .ge 23, 3) := by decide +kernel
theorem dX4_partsOfKind_15 : decode cX4_partsOfKind 15 = .ok (.aload_n 0, 1) := by decide +kernel
theorem dX4_partsOfKind_16 : decode cX4_partsOfKind 16 = .ok (.iload_n 1, 1) := by decide +kernel
theorem dX4_partsOfKind_17 : decode cX4_partsOfKind 17 = .ok (.iload 4, 2) := by decide +kernel
theorem dX4_partsOfKind_19 : decode cX4_partsOfKind 19 = .ok (.invokevirtual 48, 3) := by decide +kernel
theorem dX4_partsOfKind_22 : decode cX4_partsOfKind 22 = .ok (.iload_n 2, 1) := by decide +kernel
theorem dX4_partsOfKind_23 : decode cX4_partsOfKind 23 = .ok (.if_icmp .ne 6, 3) := by decide +kernel
theorem dX4_partsOfKind_26 : decode cX4_partsOfKind 26 = .ok (.iinc 3 1, 3) := by decide +kernel
theorem dX4_partsOfKind_29 : decode cX4_partsOfKind 29 = .ok (.iinc 4 1, 3) := by decide +kernel
theorem dX4_partsOfKind_32 : decode cX4_partsOfKind 32 = .ok (.goto (-27), 3) := by decide +kernel
theorem dX4_partsOfKind_35 : decode cX4_partsOfKind 35 = .ok (.iload_n 3, 1) := by decide +kernel
theorem dX4_partsOfKind_36 : decode cX4_partsOfKind 36 = .ok (.ireturn, 1) := by decide +kernel
theorem dX4_greatestVariable_0 : decode cX4_greatestVariable 0 = .ok (.bipush (-6), 2) := by decide +kernel
theorem dX4_greatestVariable_2 : decode cX4_greatestVariable 2 = .ok (.istore_n 2, 1) := by decide +kernel
theorem dX4_greatestVariable_3 : decode cX4_greatestVariable 3 = .ok (.iconst 0, 1) := by decide +kernel
theorem dX4_greatestVariable_4 : decode cX4_greatestVariable 4 = .ok (.istore_n 3, 1) := by decide +kernel
theorem dX4_greatestVariable_5 : decode cX4_greatestVariable 5 = .ok (.iload_n 3, 1) := by decide +kernel
theorem dX4_greatestVariable_6 : decode cX4_greatestVariable 6 = .ok (.aload_n 0, 1) := by decide +kernel
theorem dX4_greatestVariable_7 : decode cX4_greatestVariable 7 = .ok (.iload_n 1, 1) := by decide +kernel
theorem dX4_greatestVariable_8 : decode cX4_greatestVariable 8 = .ok (.invokevirtual 38, 3) := by decide +kernel
theorem dX4_greatestVariable_11 : decode cX4_greatestVariable 11 = .ok (.if_icmp .ge 29, 3) := by decide +kernel
theorem dX4_greatestVariable_14 : decode cX4_greatestVariable 14 = .ok (.aload_n 0, 1) := by decide +kernel
theorem dX4_greatestVariable_15 : decode cX4_greatestVariable 15 = .ok (.iload_n 1, 1) := by decide +kernel
theorem dX4_greatestVariable_16 : decode cX4_greatestVariable 16 = .ok (.iload_n 3, 1) := by decide +kernel
theorem dX4_greatestVariable_17 : decode cX4_greatestVariable 17 = .ok (.invokevirtual 48, 3) := by decide +kernel
theorem dX4_greatestVariable_20 : decode cX4_greatestVariable 20 = .ok (.ifCond .ne 14, 3) := by decide +kernel
theorem dX4_greatestVariable_23 : decode cX4_greatestVariable 23 = .ok (.iload_n 2, 1) := by decide +kernel
theorem dX4_greatestVariable_24 : decode cX4_greatestVariable 24 = .ok (.aload_n 0, 1) := by decide +kernel
theorem dX4_greatestVariable_25 : decode cX4_greatestVariable 25 = .ok (.iload_n 1, 1) := by decide +kernel
theorem dX4_greatestVariable_26 : decode cX4_greatestVariable 26 = .ok (.iload_n 3, 1) := by decide +kernel
theorem dX4_greatestVariable_27 : decode cX4_greatestVariable 27 = .ok (.invokevirtual 52, 3) := by decide +kernel
theorem dX4_greatestVariable_30 : decode cX4_greatestVariable 30 = .ok (.invokestatic 55, 3) := by decide +kernel
theorem dX4_greatestVariable_33 : decode cX4_greatestVariable 33 = .ok (.istore_n 2, 1) := by decide +kernel
theorem dX4_greatestVariable_34 : decode cX4_greatestVariable 34 = .ok (.iinc 3 1, 3) := by decide +kernel
theorem dX4_greatestVariable_37 : decode cX4_greatestVariable 37 = .ok (.goto (-32), 3) := by decide +kernel
theorem dX4_greatestVariable_40 : decode cX4_greatestVariable 40 = .ok (.iload_n 2, 1) := by decide +kernel
theorem dX4_greatestVariable_41 : decode cX4_greatestVariable 41 = .ok (.ireturn, 1) := by decide +kernel
theorem dX4_partsOfState_0 : decode cX4_partsOfState 0 = .ok (.iconst 0, 1) := by decide +kernel
theorem dX4_partsOfState_1 : decode cX4_partsOfState 1 = .ok (.istore_n 2, 1) := by decide +kernel
theorem dX4_partsOfState_2 : decode cX4_partsOfState 2 = .ok (.iconst 0, 1) := by decide +kernel
theorem dX4_partsOfState_3 : decode cX4_partsOfState 3 = .ok (.istore_n 3, 1) := by decide +kernel
theorem dX4_partsOfState_4 : decode cX4_partsOfState 4 = .ok (.iload_n 3, 1) := by decide +kernel
theorem dX4_partsOfState_5 : decode cX4_partsOfState 5 = .ok (.bipush 6, 2) := by decide +kernel
theorem dX4_partsOfState_7 : decode cX4_partsOfState 7 = .ok (.if_icmp .ge 22, 3) := by decide +kernel
theorem dX4_partsOfState_10 : decode cX4_partsOfState 10 = .ok (.iload_n 2, 1) := by decide +kernel
theorem dX4_partsOfState_11 : decode cX4_partsOfState 11 = .ok (.aload_n 0, 1) := by decide +kernel
theorem dX4_partsOfState_12 : decode cX4_partsOfState 12 = .ok (.iload_n 1, 1) := by decide +kernel
theorem dX4_partsOfState_13 : decode cX4_partsOfState 13 = .ok (.bipush 6, 2) := by decide +kernel
theorem dX4_partsOfState_15 : decode cX4_partsOfState 15 = .ok (.imul, 1) := by decide +kernel
theorem dX4_partsOfState_16 : decode cX4_partsOfState 16 = .ok (.iload_n 3, 1) := by decide +kernel
theorem dX4_partsOfState_17 : decode cX4_partsOfState 17 = .ok (.iadd, 1) := by decide +kernel
theorem dX4_partsOfState_18 : decode cX4_partsOfState 18 = .ok (.invokevirtual 38, 3) := by decide +kernel
theorem dX4_partsOfState_21 : decode cX4_partsOfState 21 = .ok (.iadd, 1) := by decide +kernel
theorem dX4_partsOfState_22 : decode cX4_partsOfState 22 = .ok (.istore_n 2, 1) := by decide +kernel
theorem dX4_partsOfState_23 : decode cX4_partsOfState 23 = .ok (.iinc 3 1, 3) := by decide +kernel
theorem dX4_partsOfState_26 : decode cX4_partsOfState 26 = .ok (.goto (-22), 3) := by decide +kernel
theorem dX4_partsOfState_29 : decode cX4_partsOfState 29 = .ok (.iload_n 2, 1) := by decide +kernel
theorem dX4_partsOfState_30 : decode cX4_partsOfState 30 = .ok (.ireturn, 1) := by decide +kernel
theorem dX5_init_0 : decode cX5_init 0 = .ok (.aload_n 0, 1) := by decide +kernel
theorem dX5_init_1 : decode cX5_init 1 = .ok (.invokespecial 3, 3) := by decide +kernel
theorem dX5_init_4 : decode cX5_init 4 = .ok (.aload_n 0, 1) := by decide +kernel
theorem dX5_init_5 : decode cX5_init 5 = .ok (.aload_n 1, 1) := by decide +kernel
theorem dX5_init_6 : decode cX5_init 6 = .ok (.putfield 9, 3) := by decide +kernel
theorem dX5_init_9 : decode cX5_init 9 = .ok (.aload_n 0, 1) := by decide +kernel
theorem dX5_init_10 : decode cX5_init 10 = .ok (.new 15, 3) := by decide +kernel
theorem dX5_init_13 : decode cX5_init 13 = .ok (.dup, 1) := by decide +kernel
theorem dX5_init_14 : decode cX5_init 14 = .ok (.sipush 200, 3) := by decide +kernel
theorem dX5_init_17 : decode cX5_init 17 = .ok (.invokespecial 17, 3) := by decide +kernel
theorem dX5_init_20 : decode cX5_init 20 = .ok (.putfield 20, 3) := by decide +kernel
theorem dX5_init_23 : decode cX5_init 23 = .ok (.aload_n 0, 1) := by decide +kernel
theorem dX5_init_24 : decode cX5_init 24 = .ok (.new 15, 3) := by decide +kernel
theorem dX5_init_27 : decode cX5_init 27 = .ok (.dup, 1) := by decide +kernel
theorem dX5_init_28 : decode cX5_init 28 = .ok (.sipush 200, 3) := by decide +kernel
theorem dX5_init_31 : decode cX5_init 31 = .ok (.invokespecial 17, 3) := by decide +kernel
theorem dX5_init_34 : decode cX5_init 34 = .ok (.putfield 24, 3) := by decide +kernel
theorem dX5_init_37 : decode cX5_init 37 = .ok (.aload_n 0, 1) := by decide +kernel
theorem dX5_init_38 : decode cX5_init 38 = .ok (.new 15, 3) := by decide +kernel
theorem dX5_init_41 : decode cX5_init 41 = .ok (.dup, 1) := by decide +kernel
theorem dX5_init_42 : decode cX5_init 42 = .ok (.sipush 200, 3) := by decide +kernel
theorem dX5_init_45 : decode cX5_init 45 = .ok (.invokespecial 17, 3) := by decide +kernel
theorem dX5_init_48 : decode cX5_init 48 = .ok (.putfield 27, 3) := by decide +kernel
theorem dX5_init_51 : decode cX5_init 51 = .ok (.return_, 1) := by decide +kernel
theorem dX5_look_0 : decode cX5_look 0 = .ok (.aload_n 0, 1) := by decide +kernel
theorem dX5_look_1 : decode cX5_look 1 = .ok (.iload_n 1, 1) := by decide +kernel
theorem dX5_look_2 : decode cX5_look 2 = .ok (.putfield 30, 3) := by decide +kernel
theorem dX5_look_5 : decode cX5_look 5 = .ok (.aload_n 0, 1) := by decide +kernel
theorem dX5_look_6 : decode cX5_look 6 = .ok (.aload_n 0, 1) := by decide +kernel
theorem dX5_look_7 : decode cX5_look 7 = .ok (.getfield 9, 3) := by decide +kernel
theorem dX5_look_10 : decode cX5_look 10 = .ok (.iload_n 1, 1) := by decide +kernel
theorem dX5_look_11 : decode cX5_look 11 = .ok (.invokevirtual 34, 3) := by decide +kernel
theorem dX5_look_14 : decode cX5_look 14 = .ok (.putfield 40, 3) := by decide +kernel
theorem dX5_look_17 : decode cX5_look 17 = .ok (.aload_n 0, 1) := by decide +kernel
theorem dX5_look_18 : decode cX5_look 18 = .ok (.invokevirtual 42, 3) := by decide +kernel
theorem dX5_look_21 : decode cX5_look 21 = .ok (.aload_n 0, 1) := by decide +kernel
theorem dX5_look_22 : decode cX5_look 22 = .ok (.invokevirtual 45, 3) := by decide +kernel
theorem dX5_look_25 : decode cX5_look 25 = .ok (.return_, 1) := by decide +kernel
theorem dX5_term_0 : decode cX5_term 0 = .ok (.aload_n 0, 1) := by decide +kernel
theorem dX5_term_1 : decode cX5_term 1 = .ok (.getfield 30, 3) := by decide +kernel
theorem dX5_term_4 : decode cX5_term 4 = .ok (.ireturn, 1) := by decide +kernel
theorem dX5_behind_0 : decode cX5_behind 0 = .ok (.aload_n 0, 1) := by decide +kernel
theorem dX5_behind_1 : decode cX5_behind 1 = .ok (.getfield 20, 3) := by decide +kernel
theorem dX5_behind_4 : decode cX5_behind 4 = .ok (.iload_n 1, 1) := by decide +kernel
theorem dX5_behind_5 : decode cX5_behind 5 = .ok (.invokevirtual 48, 3) := by decide +kernel
theorem dX5_behind_8 : decode cX5_behind 8 = .ok (.ireturn, 1) := by decide +kernel
theorem dX5_around_0 : decode cX5_around 0 = .ok (.aload_n 0, 1) := by decide +kernel
theorem dX5_around_1 : decode cX5_around 1 = .ok (.getfield 24, 3) := by decide +kernel
theorem dX5_around_4 : decode cX5_around 4 = .ok (.iload_n 1, 1) := by decide +kernel
theorem dX5_around_5 : decode cX5_around 5 = .ok (.invokevirtual 48, 3) := by decide +kernel
theorem dX5_around_8 : decode cX5_around 8 = .ok (.ireturn, 1) := by decide +kernel
theorem dX5_binder_0 : decode cX5_binder 0 = .ok (.aload_n 0, 1) := by decide +kernel
theorem dX5_binder_1 : decode cX5_binder 1 = .ok (.getfield 9, 3) := by decide +kernel
theorem dX5_binder_4 : decode cX5_binder 4 = .ok (.aload_n 0, 1) := by decide +kernel
theorem dX5_binder_5 : decode cX5_binder 5 = .ok (.getfield 30, 3) := by decide +kernel
theorem dX5_binder_8 : decode cX5_binder 8 = .ok (.iload_n 1, 1) := by decide +kernel
theorem dX5_binder_9 : decode cX5_binder 9 = .ok (.invokevirtual 51, 3) := by decide +kernel
theorem dX5_binder_12 : decode cX5_binder 12 = .ok (.ifCond .eq 6, 3) := by decide +kernel
theorem dX5_binder_15 : decode cX5_binder 15 = .ok (.bipush (-6), 2) := by decide +kernel
theorem dX5_binder_17 : decode cX5_binder 17 = .ok (.ireturn, 1) := by decide +kernel
theorem dX5_binder_18 : decode cX5_binder 18 = .ok (.aload_n 0, 1) := by decide +kernel
theorem dX5_binder_19 : decode cX5_binder 19 = .ok (.getfield 27, 3) := by decide +kernel
theorem dX5_binder_22 : decode cX5_binder 22 = .ok (.iload_n 1, 1) := by decide +kernel
theorem dX5_binder_23 : decode cX5_binder 23 = .ok (.invokevirtual 48, 3) := by decide +kernel
theorem dX5_binder_26 : decode cX5_binder 26 = .ok (.istore_n 2, 1) := by decide +kernel
theorem dX5_binder_27 : decode cX5_binder 27 = .ok (.aload_n 0, 1) := by decide +kernel
theorem dX5_binder_28 : decode cX5_binder 28 = .ok (.getfield 9, 3) := by decide +kernel
theorem dX5_binder_31 : decode cX5_binder 31 = .ok (.aload_n 0, 1) := by decide +kernel
theorem dX5_binder_32 : decode cX5_binder 32 = .ok (.getfield 30, 3) := by decide +kernel
theorem dX5_binder_35 : decode cX5_binder 35 = .ok (.iload_n 1, 1) := by decide +kernel
theorem dX5_binder_36 : decode cX5_binder 36 = .ok (.invokevirtual 55, 3) := by decide +kernel
theorem dX5_binder_39 : decode cX5_binder 39 = .ok (.istore_n 3, 1) := by decide +kernel
theorem dX5_binder_40 : decode cX5_binder 40 = .ok (.iconst 0, 1) := by decide +kernel
theorem dX5_binder_41 : decode cX5_binder 41 = .ok (.istore 4, 2) := by decide +kernel
theorem dX5_binder_43 : decode cX5_binder 43 = .ok (.iload 4, 2) := by decide +kernel
theorem dX5_binder_45 : decode cX5_binder 45 = .ok (.iload_n 3, 1) := by decide +kernel
theorem dX5_binder_46 : decode cX5_binder 46 = .ok (.if_icmp .ge 18, 3) := by decide +kernel
theorem dX5_binder_49 : decode cX5_binder 49 = .ok (.aload_n 0, 1) := by decide +kernel
theorem dX5_binder_50 : decode cX5_binder 50 = .ok (.getfield 27, 3) := by decide +kernel
theorem dX5_binder_53 : decode cX5_binder 53 = .ok (.iload_n 2, 1) := by decide +kernel
theorem dX5_binder_54 : decode cX5_binder 54 = .ok (.invokevirtual 48, 3) := by decide +kernel
theorem dX5_binder_57 : decode cX5_binder 57 = .ok (.istore_n 2, 1) := by decide +kernel
theorem dX5_binder_58 : decode cX5_binder 58 = .ok (.iinc 4 1, 3) := by decide +kernel
theorem dX5_binder_61 : decode cX5_binder 61 = .ok (.goto (-18), 3) := by decide +kernel
theorem dX5_binder_64 : decode cX5_binder 64 = .ok (.iload_n 2, 1) := by decide +kernel
theorem dX5_binder_65 : decode cX5_binder 65 = .ok (.ireturn, 1) := by decide +kernel
theorem dX5_mostAround_0 : decode cX5_mostAround 0 = .ok (.iconst 0, 1) := by decide +kernel
theorem dX5_mostAround_1 : decode cX5_mostAround 1 = .ok (.istore_n 1, 1) := by decide +kernel
theorem dX5_mostAround_2 : decode cX5_mostAround 2 = .ok (.iconst 0, 1) := by decide +kernel
theorem dX5_mostAround_3 : decode cX5_mostAround 3 = .ok (.istore_n 2, 1) := by decide +kernel
theorem dX5_mostAround_4 : decode cX5_mostAround 4 = .ok (.iload_n 2, 1) := by decide +kernel
theorem dX5_mostAround_5 : decode cX5_mostAround 5 = .ok (.aload_n 0, 1) := by decide +kernel
theorem dX5_mostAround_6 : decode cX5_mostAround 6 = .ok (.getfield 40, 3) := by decide +kernel
theorem dX5_mostAround_9 : decode cX5_mostAround 9 = .ok (.if_icmp .ge 19, 3) := by decide +kernel
theorem dX5_mostAround_12 : decode cX5_mostAround 12 = .ok (.iload_n 1, 1) := by decide +kernel
theorem dX5_mostAround_13 : decode cX5_mostAround 13 = .ok (.aload_n 0, 1) := by decide +kernel
theorem dX5_mostAround_14 : decode cX5_mostAround 14 = .ok (.iload_n 2, 1) := by decide +kernel
theorem dX5_mostAround_15 : decode cX5_mostAround 15 = .ok (.invokevirtual 58, 3) := by decide +kernel
theorem dX5_mostAround_18 : decode cX5_mostAround 18 = .ok (.invokestatic 60, 3) := by decide +kernel
theorem dX5_mostAround_21 : decode cX5_mostAround 21 = .ok (.istore_n 1, 1) := by decide +kernel
theorem dX5_mostAround_22 : decode cX5_mostAround 22 = .ok (.iinc 2 1, 3) := by decide +kernel
theorem dX5_mostAround_25 : decode cX5_mostAround 25 = .ok (.goto (-21), 3) := by decide +kernel
theorem dX5_mostAround_28 : decode cX5_mostAround 28 = .ok (.iload_n 1, 1) := by decide +kernel
theorem dX5_mostAround_29 : decode cX5_mostAround 29 = .ok (.ireturn, 1) := by decide +kernel
theorem dX5_reduciblePlaces_0 : decode cX5_reduciblePlaces 0 = .ok (.iconst 0, 1) := by decide +kernel
theorem dX5_reduciblePlaces_1 : decode cX5_reduciblePlaces 1 = .ok (.istore_n 1, 1) := by decide +kernel
theorem dX5_reduciblePlaces_2 : decode cX5_reduciblePlaces 2 = .ok (.iconst 0, 1) := by decide +kernel
theorem dX5_reduciblePlaces_3 : decode cX5_reduciblePlaces 3 = .ok (.istore_n 2, 1) := by decide +kernel
theorem dX5_reduciblePlaces_4 : decode cX5_reduciblePlaces 4 = .ok (.iload_n 2, 1) := by decide +kernel
theorem dX5_reduciblePlaces_5 : decode cX5_reduciblePlaces 5 = .ok (.aload_n 0, 1) := by decide +kernel
theorem dX5_reduciblePlaces_6 : decode cX5_reduciblePlaces 6 = .ok (.getfield 40, 3) := by decide +kernel
theorem dX5_reduciblePlaces_9 : decode cX5_reduciblePlaces 9 = .ok (.if_icmp .ge 20, 3) := by decide +kernel
theorem dX5_reduciblePlaces_12 : decode cX5_reduciblePlaces 12 = .ok (.aload_n 0, 1) := by decide +kernel
theorem dX5_reduciblePlaces_13 : decode cX5_reduciblePlaces 13 = .ok (.iload_n 2, 1) := by decide +kernel
theorem dX5_reduciblePlaces_14 : decode cX5_reduciblePlaces 14 = .ok (.invokevirtual 65, 3) := by decide +kernel
theorem dX5_reduciblePlaces_17 : decode cX5_reduciblePlaces 17 = .ok (.ifCond .eq 6, 3) := by decide +kernel
theorem dX5_reduciblePlaces_20 : decode cX5_reduciblePlaces 20 = .ok (.iinc 1 1, 3) := by decide +kernel
theorem dX5_reduciblePlaces_23 : decode cX5_reduciblePlaces 23 = .ok (.iinc 2 1, 3) := by decide +kernel
theorem dX5_reduciblePlaces_26 : decode cX5_reduciblePlaces 26 = .ok (.goto (-22), 3) := by decide +kernel
theorem dX5_reduciblePlaces_29 : decode cX5_reduciblePlaces 29 = .ok (.iload_n 1, 1) := by decide +kernel
theorem dX5_reduciblePlaces_30 : decode cX5_reduciblePlaces 30 = .ok (.ireturn, 1) := by decide +kernel
theorem dX5_next_0 : decode cX5_next 0 = .ok (.iload_n 1, 1) := by decide +kernel
theorem dX5_next_1 : decode cX5_next 1 = .ok (.iconst 1, 1) := by decide +kernel
theorem dX5_next_2 : decode cX5_next 2 = .ok (.if_icmp .ne 8, 3) := by decide +kernel
theorem dX5_next_5 : decode cX5_next 5 = .ok (.aload_n 0, 1) := by decide +kernel
theorem dX5_next_6 : decode cX5_next 6 = .ok (.invokevirtual 69, 3) := by decide +kernel
theorem dX5_next_9 : decode cX5_next 9 = .ok (.ireturn, 1) := by decide +kernel
theorem dX5_next_10 : decode cX5_next 10 = .ok (.iconst 0, 1) := by decide +kernel
theorem dX5_next_11 : decode cX5_next 11 = .ok (.istore_n 2, 1) := by decide +kernel
theorem dX5_next_12 : decode cX5_next 12 = .ok (.iload_n 2, 1) := by decide +kernel
theorem dX5_next_13 : decode cX5_next 13 = .ok (.aload_n 0, 1) := by decide +kernel
theorem dX5_next_14 : decode cX5_next 14 = .ok (.getfield 40, 3) := by decide +kernel
theorem dX5_next_17 : decode cX5_next 17 = .ok (.if_icmp .ge 31, 3) := by decide +kernel
theorem dX5_next_20 : decode cX5_next 20 = .ok (.aload_n 0, 1) := by decide +kernel
theorem dX5_next_21 : decode cX5_next 21 = .ok (.iload_n 2, 1) := by decide +kernel
theorem dX5_next_22 : decode cX5_next 22 = .ok (.invokevirtual 65, 3) := by decide +kernel
theorem dX5_next_25 : decode cX5_next 25 = .ok (.ifCond .eq 17, 3) := by decide +kernel
theorem dX5_next_28 : decode cX5_next 28 = .ok (.iload_n 1, 1) := by decide +kernel
theorem dX5_next_29 : decode cX5_next 29 = .ok (.ifCond .eq 11, 3) := by decide +kernel
theorem dX5_next_32 : decode cX5_next 32 = .ok (.aload_n 0, 1) := by decide +kernel
theorem dX5_next_33 : decode cX5_next 33 = .ok (.iload_n 2, 1) := by decide +kernel
theorem dX5_next_34 : decode cX5_next 34 = .ok (.invokevirtual 58, 3) := by decide +kernel
theorem dX5_next_37 : decode cX5_next 37 = .ok (.ifCond .ne 5, 3) := by decide +kernel
theorem dX5_next_40 : decode cX5_next 40 = .ok (.iload_n 2, 1) := by decide +kernel
theorem dX5_next_41 : decode cX5_next 41 = .ok (.ireturn, 1) := by decide +kernel
theorem dX5_next_42 : decode cX5_next 42 = .ok (.iinc 2 1, 3) := by decide +kernel
theorem dX5_next_45 : decode cX5_next 45 = .ok (.goto (-33), 3) := by decide +kernel
theorem dX5_next_48 : decode cX5_next 48 = .ok (.bipush (-6), 2) := by decide +kernel
theorem dX5_next_50 : decode cX5_next 50 = .ok (.ireturn, 1) := by decide +kernel
theorem dX5_printed_0 : decode cX5_printed 0 = .ok (.iconst 0, 1) := by decide +kernel
theorem dX5_printed_1 : decode cX5_printed 1 = .ok (.istore_n 2, 1) := by decide +kernel
theorem dX5_printed_2 : decode cX5_printed 2 = .ok (.iconst 0, 1) := by decide +kernel
theorem dX5_printed_3 : decode cX5_printed 3 = .ok (.istore_n 3, 1) := by decide +kernel
theorem dX5_printed_4 : decode cX5_printed 4 = .ok (.iload_n 3, 1) := by decide +kernel
theorem dX5_printed_5 : decode cX5_printed 5 = .ok (.aload_n 0, 1) := by decide +kernel
theorem dX5_printed_6 : decode cX5_printed 6 = .ok (.getfield 40, 3) := by decide +kernel
theorem dX5_printed_9 : decode cX5_printed 9 = .ok (.if_icmp .ge 56, 3) := by decide +kernel
theorem dX5_printed_12 : decode cX5_printed 12 = .ok (.iload_n 2, 1) := by decide +kernel
theorem dX5_printed_13 : decode cX5_printed 13 = .ok (.iload_n 1, 1) := by decide +kernel
theorem dX5_printed_14 : decode cX5_printed 14 = .ok (.if_icmp .ne 9, 3) := by decide +kernel
theorem dX5_printed_17 : decode cX5_printed 17 = .ok (.aload_n 0, 1) := by decide +kernel
theorem dX5_printed_18 : decode cX5_printed 18 = .ok (.iload_n 3, 1) := by decide +kernel
theorem dX5_printed_19 : decode cX5_printed 19 = .ok (.invokevirtual 73, 3) := by decide +kernel
theorem dX5_printed_22 : decode cX5_printed 22 = .ok (.ireturn, 1) := by decide +kernel
theorem dX5_printed_23 : decode cX5_printed 23 = .ok (.iinc 2 1, 3) := by decide +kernel
theorem dX5_printed_26 : decode cX5_printed 26 = .ok (.aload_n 0, 1) := by decide +kernel
theorem dX5_printed_27 : decode cX5_printed 27 = .ok (.getfield 9, 3) := by decide +kernel
theorem dX5_printed_30 : decode cX5_printed 30 = .ok (.aload_n 0, 1) := by decide +kernel
theorem dX5_printed_31 : decode cX5_printed 31 = .ok (.getfield 30, 3) := by decide +kernel
theorem dX5_printed_34 : decode cX5_printed 34 = .ok (.iload_n 3, 1) := by decide +kernel
theorem dX5_printed_35 : decode cX5_printed 35 = .ok (.invokevirtual 51, 3) := by decide +kernel
theorem dX5_printed_38 : decode cX5_printed 38 = .ok (.iconst 2, 1) := by decide +kernel
theorem dX5_printed_39 : decode cX5_printed 39 = .ok (.if_icmp .ne 20, 3) := by decide +kernel
theorem dX5_printed_42 : decode cX5_printed 42 = .ok (.iload_n 2, 1) := by decide +kernel
theorem dX5_printed_43 : decode cX5_printed 43 = .ok (.iload_n 1, 1) := by decide +kernel
theorem dX5_printed_44 : decode cX5_printed 44 = .ok (.if_icmp .ne 12, 3) := by decide +kernel
theorem dX5_printed_47 : decode cX5_printed 47 = .ok (.aload_n 0, 1) := by decide +kernel
theorem dX5_printed_48 : decode cX5_printed 48 = .ok (.iload_n 3, 1) := by decide +kernel
theorem dX5_printed_49 : decode cX5_printed 49 = .ok (.invokevirtual 58, 3) := by decide +kernel
theorem dX5_printed_52 : decode cX5_printed 52 = .ok (.invokestatic 76, 3) := by decide +kernel
theorem dX5_printed_55 : decode cX5_printed 55 = .ok (.ireturn, 1) := by decide +kernel
theorem dX5_printed_56 : decode cX5_printed 56 = .ok (.iinc 2 1, 3) := by decide +kernel
theorem dX5_printed_59 : decode cX5_printed 59 = .ok (.iinc 3 1, 3) := by decide +kernel
theorem dX5_printed_62 : decode cX5_printed 62 = .ok (.goto (-58), 3) := by decide +kernel
theorem dX5_printed_65 : decode cX5_printed 65 = .ok (.iconst (-1), 1) := by decide +kernel
theorem dX5_printed_66 : decode cX5_printed 66 = .ok (.ireturn, 1) := by decide +kernel
theorem dX5_findEnds_0 : decode cX5_findEnds 0 = .ok (.aload_n 0, 1) := by decide +kernel
theorem dX5_findEnds_1 : decode cX5_findEnds 1 = .ok (.getfield 40, 3) := by decide +kernel
theorem dX5_findEnds_4 : decode cX5_findEnds 4 = .ok (.iconst 1, 1) := by decide +kernel
theorem dX5_findEnds_5 : decode cX5_findEnds 5 = .ok (.isub, 1) := by decide +kernel
theorem dX5_findEnds_6 : decode cX5_findEnds 6 = .ok (.istore_n 1, 1) := by decide +kernel
theorem dX5_findEnds_7 : decode cX5_findEnds 7 = .ok (.iload_n 1, 1) := by decide +kernel
theorem dX5_findEnds_8 : decode cX5_findEnds 8 = .ok (.ifCond .lt 68, 3) := by decide +kernel
theorem dX5_findEnds_11 : decode cX5_findEnds 11 = .ok (.aload_n 0, 1) := by decide +kernel
theorem dX5_findEnds_12 : decode cX5_findEnds 12 = .ok (.getfield 9, 3) := by decide +kernel
theorem dX5_findEnds_15 : decode cX5_findEnds 15 = .ok (.aload_n 0, 1) := by decide +kernel
theorem dX5_findEnds_16 : decode cX5_findEnds 16 = .ok (.getfield 30, 3) := by decide +kernel
theorem dX5_findEnds_19 : decode cX5_findEnds 19 = .ok (.iload_n 1, 1) := by decide +kernel
theorem dX5_findEnds_20 : decode cX5_findEnds 20 = .ok (.invokevirtual 51, 3) := by decide +kernel
theorem dX5_findEnds_23 : decode cX5_findEnds 23 = .ok (.istore_n 2, 1) := by decide +kernel
theorem dX5_findEnds_24 : decode cX5_findEnds 24 = .ok (.iload_n 1, 1) := by decide +kernel
theorem dX5_findEnds_25 : decode cX5_findEnds 25 = .ok (.iconst 1, 1) := by decide +kernel
theorem dX5_findEnds_26 : decode cX5_findEnds 26 = .ok (.iadd, 1) := by decide +kernel
theorem dX5_findEnds_27 : decode cX5_findEnds 27 = .ok (.istore_n 3, 1) := by decide +kernel
theorem dX5_findEnds_28 : decode cX5_findEnds 28 = .ok (.iload_n 2, 1) := by decide +kernel
theorem dX5_findEnds_29 : decode cX5_findEnds 29 = .ok (.iconst 2, 1) := by decide +kernel
theorem dX5_findEnds_30 : decode cX5_findEnds 30 = .ok (.if_icmp .ne 14, 3) := by decide +kernel
theorem dX5_findEnds_33 : decode cX5_findEnds 33 = .ok (.aload_n 0, 1) := by decide +kernel
theorem dX5_findEnds_34 : decode cX5_findEnds 34 = .ok (.iload_n 1, 1) := by decide +kernel
theorem dX5_findEnds_35 : decode cX5_findEnds 35 = .ok (.iconst 1, 1) := by decide +kernel
theorem dX5_findEnds_36 : decode cX5_findEnds 36 = .ok (.iadd, 1) := by decide +kernel
theorem dX5_findEnds_37 : decode cX5_findEnds 37 = .ok (.invokevirtual 79, 3) := by decide +kernel
theorem dX5_findEnds_40 : decode cX5_findEnds 40 = .ok (.istore_n 3, 1) := by decide +kernel
theorem dX5_findEnds_41 : decode cX5_findEnds 41 = .ok (.goto 20, 3) := by decide +kernel
theorem dX5_findEnds_44 : decode cX5_findEnds 44 = .ok (.iload_n 2, 1) := by decide +kernel
theorem dX5_findEnds_45 : decode cX5_findEnds 45 = .ok (.iconst 3, 1) := by decide +kernel
theorem dX5_findEnds_46 : decode cX5_findEnds 46 = .ok (.if_icmp .ne 15, 3) := by decide +kernel
theorem dX5_findEnds_49 : decode cX5_findEnds 49 = .ok (.aload_n 0, 1) := by decide +kernel
theorem dX5_findEnds_50 : decode cX5_findEnds 50 = .ok (.aload_n 0, 1) := by decide +kernel
theorem dX5_findEnds_51 : decode cX5_findEnds 51 = .ok (.iload_n 1, 1) := by decide +kernel
theorem dX5_findEnds_52 : decode cX5_findEnds 52 = .ok (.iconst 1, 1) := by decide +kernel
theorem dX5_findEnds_53 : decode cX5_findEnds 53 = .ok (.iadd, 1) := by decide +kernel
theorem dX5_findEnds_54 : decode cX5_findEnds 54 = .ok (.invokevirtual 79, 3) := by decide +kernel
theorem dX5_findEnds_57 : decode cX5_findEnds 57 = .ok (.invokevirtual 79, 3) := by decide +kernel
theorem dX5_findEnds_60 : decode cX5_findEnds 60 = .ok (.istore_n 3, 1) := by decide +kernel
theorem dX5_findEnds_61 : decode cX5_findEnds 61 = .ok (.aload_n 0, 1) := by decide +kernel
theorem dX5_findEnds_62 : decode cX5_findEnds 62 = .ok (.getfield 20, 3) := by decide +kernel
theorem dX5_findEnds_65 : decode cX5_findEnds 65 = .ok (.iload_n 1, 1) := by decide +kernel
theorem dX5_findEnds_66 : decode cX5_findEnds 66 = .ok (.iload_n 3, 1) := by decide +kernel
theorem dX5_findEnds_67 : decode cX5_findEnds 67 = .ok (.invokevirtual 81, 3) := by decide +kernel
theorem dX5_findEnds_70 : decode cX5_findEnds 70 = .ok (.iinc 1 (-1), 3) := by decide +kernel
theorem dX5_findEnds_73 : decode cX5_findEnds 73 = .ok (.goto (-66), 3) := by decide +kernel
theorem dX5_findEnds_76 : decode cX5_findEnds 76 = .ok (.return_, 1) := by decide +kernel
theorem dX5_findSurroundings_0 : decode cX5_findSurroundings 0 = .ok (.aload_n 0, 1) := by decide +kernel
theorem dX5_findSurroundings_1 : decode cX5_findSurroundings 1 = .ok (.getfield 24, 3) := by decide +kernel
theorem dX5_findSurroundings_4 : decode cX5_findSurroundings 4 = .ok (.iconst 0, 1) := by decide +kernel
theorem dX5_findSurroundings_5 : decode cX5_findSurroundings 5 = .ok (.iconst 0, 1) := by decide +kernel
theorem dX5_findSurroundings_6 : decode cX5_findSurroundings 6 = .ok (.invokevirtual 81, 3) := by decide +kernel
theorem dX5_findSurroundings_9 : decode cX5_findSurroundings 9 = .ok (.aload_n 0, 1) := by decide +kernel
theorem dX5_findSurroundings_10 : decode cX5_findSurroundings 10 = .ok (.getfield 27, 3) := by decide +kernel
theorem dX5_findSurroundings_13 : decode cX5_findSurroundings 13 = .ok (.iconst 0, 1) := by decide +kernel
theorem dX5_findSurroundings_14 : decode cX5_findSurroundings 14 = .ok (.bipush (-6), 2) := by decide +kernel
theorem dX5_findSurroundings_16 : decode cX5_findSurroundings 16 = .ok (.invokevirtual 81, 3) := by decide +kernel
theorem dX5_findSurroundings_19 : decode cX5_findSurroundings 19 = .ok (.iconst 0, 1) := by decide +kernel
theorem dX5_findSurroundings_20 : decode cX5_findSurroundings 20 = .ok (.istore_n 1, 1) := by decide +kernel
theorem dX5_findSurroundings_21 : decode cX5_findSurroundings 21 = .ok (.iload_n 1, 1) := by decide +kernel
theorem dX5_findSurroundings_22 : decode cX5_findSurroundings 22 = .ok (.aload_n 0, 1) := by decide +kernel
theorem dX5_findSurroundings_23 : decode cX5_findSurroundings 23 = .ok (.getfield 40, 3) := by decide +kernel
theorem dX5_findSurroundings_26 : decode cX5_findSurroundings 26 = .ok (.if_icmp .ge 83, 3) := by decide +kernel
theorem dX5_findSurroundings_29 : decode cX5_findSurroundings 29 = .ok (.aload_n 0, 1) := by decide +kernel
theorem dX5_findSurroundings_30 : decode cX5_findSurroundings 30 = .ok (.getfield 9, 3) := by decide +kernel
theorem dX5_findSurroundings_33 : decode cX5_findSurroundings 33 = .ok (.aload_n 0, 1) := by decide +kernel
theorem dX5_findSurroundings_34 : decode cX5_findSurroundings 34 = .ok (.getfield 30, 3) := by decide +kernel
theorem dX5_findSurroundings_37 : decode cX5_findSurroundings 37 = .ok (.iload_n 1, 1) := by decide +kernel
theorem dX5_findSurroundings_38 : decode cX5_findSurroundings 38 = .ok (.invokevirtual 51, 3) := by decide +kernel
theorem dX5_findSurroundings_41 : decode cX5_findSurroundings 41 = .ok (.istore_n 2, 1) := by decide +kernel
theorem dX5_findSurroundings_42 : decode cX5_findSurroundings 42 = .ok (.iload_n 2, 1) := by decide +kernel
theorem dX5_findSurroundings_43 : decode cX5_findSurroundings 43 = .ok (.iconst 2, 1) := by decide +kernel
theorem dX5_findSurroundings_44 : decode cX5_findSurroundings 44 = .ok (.if_icmp .ne 34, 3) := by decide +kernel
theorem dX5_findSurroundings_47 : decode cX5_findSurroundings 47 = .ok (.aload_n 0, 1) := by decide +kernel
theorem dX5_findSurroundings_48 : decode cX5_findSurroundings 48 = .ok (.getfield 24, 3) := by decide +kernel
theorem dX5_findSurroundings_51 : decode cX5_findSurroundings 51 = .ok (.iload_n 1, 1) := by decide +kernel
theorem dX5_findSurroundings_52 : decode cX5_findSurroundings 52 = .ok (.iconst 1, 1) := by decide +kernel
theorem dX5_findSurroundings_53 : decode cX5_findSurroundings 53 = .ok (.iadd, 1) := by decide +kernel
theorem dX5_findSurroundings_54 : decode cX5_findSurroundings 54 = .ok (.aload_n 0, 1) := by decide +kernel
theorem dX5_findSurroundings_55 : decode cX5_findSurroundings 55 = .ok (.iload_n 1, 1) := by decide +kernel
theorem dX5_findSurroundings_56 : decode cX5_findSurroundings 56 = .ok (.invokevirtual 58, 3) := by decide +kernel
theorem dX5_findSurroundings_59 : decode cX5_findSurroundings 59 = .ok (.iconst 1, 1) := by decide +kernel
theorem dX5_findSurroundings_60 : decode cX5_findSurroundings 60 = .ok (.iadd, 1) := by decide +kernel
theorem dX5_findSurroundings_61 : decode cX5_findSurroundings 61 = .ok (.invokevirtual 81, 3) := by decide +kernel
theorem dX5_findSurroundings_64 : decode cX5_findSurroundings 64 = .ok (.aload_n 0, 1) := by decide +kernel
theorem dX5_findSurroundings_65 : decode cX5_findSurroundings 65 = .ok (.getfield 27, 3) := by decide +kernel
theorem dX5_findSurroundings_68 : decode cX5_findSurroundings 68 = .ok (.iload_n 1, 1) := by decide +kernel
theorem dX5_findSurroundings_69 : decode cX5_findSurroundings 69 = .ok (.iconst 1, 1) := by decide +kernel
theorem dX5_findSurroundings_70 : decode cX5_findSurroundings 70 = .ok (.iadd, 1) := by decide +kernel
theorem dX5_findSurroundings_71 : decode cX5_findSurroundings 71 = .ok (.iload_n 1, 1) := by decide +kernel
theorem dX5_findSurroundings_72 : decode cX5_findSurroundings 72 = .ok (.invokevirtual 81, 3) := by decide +kernel
theorem dX5_findSurroundings_75 : decode cX5_findSurroundings 75 = .ok (.goto 28, 3) := by decide +kernel
theorem dX5_findSurroundings_78 : decode cX5_findSurroundings 78 = .ok (.iload_n 2, 1) := by decide +kernel
theorem dX5_findSurroundings_79 : decode cX5_findSurroundings 79 = .ok (.iconst 3, 1) := by decide +kernel
theorem dX5_findSurroundings_80 : decode cX5_findSurroundings 80 = .ok (.if_icmp .ne 23, 3) := by decide +kernel
theorem dX5_findSurroundings_83 : decode cX5_findSurroundings 83 = .ok (.aload_n 0, 1) := by decide +kernel
theorem dX5_findSurroundings_84 : decode cX5_findSurroundings 84 = .ok (.iload_n 1, 1) := by decide +kernel
theorem dX5_findSurroundings_85 : decode cX5_findSurroundings 85 = .ok (.iload_n 1, 1) := by decide +kernel
theorem dX5_findSurroundings_86 : decode cX5_findSurroundings 86 = .ok (.iconst 1, 1) := by decide +kernel
theorem dX5_findSurroundings_87 : decode cX5_findSurroundings 87 = .ok (.iadd, 1) := by decide +kernel
theorem dX5_findSurroundings_88 : decode cX5_findSurroundings 88 = .ok (.invokevirtual 85, 3) := by decide +kernel
theorem dX5_findSurroundings_91 : decode cX5_findSurroundings 91 = .ok (.aload_n 0, 1) := by decide +kernel
theorem dX5_findSurroundings_92 : decode cX5_findSurroundings 92 = .ok (.iload_n 1, 1) := by decide +kernel
theorem dX5_findSurroundings_93 : decode cX5_findSurroundings 93 = .ok (.aload_n 0, 1) := by decide +kernel
theorem dX5_findSurroundings_94 : decode cX5_findSurroundings 94 = .ok (.iload_n 1, 1) := by decide +kernel
theorem dX5_findSurroundings_95 : decode cX5_findSurroundings 95 = .ok (.iconst 1, 1) := by decide +kernel
theorem dX5_findSurroundings_96 : decode cX5_findSurroundings 96 = .ok (.iadd, 1) := by decide +kernel
theorem dX5_findSurroundings_97 : decode cX5_findSurroundings 97 = .ok (.invokevirtual 79, 3) := by decide +kernel
theorem dX5_findSurroundings_100 : decode cX5_findSurroundings 100 = .ok (.invokevirtual 85, 3) := by decide +kernel
theorem dX5_findSurroundings_103 : decode cX5_findSurroundings 103 = .ok (.iinc 1 1, 3) := by decide +kernel
theorem dX5_findSurroundings_106 : decode cX5_findSurroundings 106 = .ok (.goto (-85), 3) := by decide +kernel
theorem dX5_findSurroundings_109 : decode cX5_findSurroundings 109 = .ok (.return_, 1) := by decide +kernel
theorem dX5_surroundAs_0 : decode cX5_surroundAs 0 = .ok (.aload_n 0, 1) := by decide +kernel
theorem dX5_surroundAs_1 : decode cX5_surroundAs 1 = .ok (.getfield 24, 3) := by decide +kernel
theorem dX5_surroundAs_4 : decode cX5_surroundAs 4 = .ok (.iload_n 2, 1) := by decide +kernel
theorem dX5_surroundAs_5 : decode cX5_surroundAs 5 = .ok (.aload_n 0, 1) := by decide +kernel
theorem dX5_surroundAs_6 : decode cX5_surroundAs 6 = .ok (.getfield 24, 3) := by decide +kernel
theorem dX5_surroundAs_9 : decode cX5_surroundAs 9 = .ok (.iload_n 1, 1) := by decide +kernel
theorem dX5_surroundAs_10 : decode cX5_surroundAs 10 = .ok (.invokevirtual 48, 3) := by decide +kernel
theorem dX5_surroundAs_13 : decode cX5_surroundAs 13 = .ok (.invokevirtual 81, 3) := by decide +kernel
theorem dX5_surroundAs_16 : decode cX5_surroundAs 16 = .ok (.aload_n 0, 1) := by decide +kernel
theorem dX5_surroundAs_17 : decode cX5_surroundAs 17 = .ok (.getfield 27, 3) := by decide +kernel
theorem dX5_surroundAs_20 : decode cX5_surroundAs 20 = .ok (.iload_n 2, 1) := by decide +kernel
theorem dX5_surroundAs_21 : decode cX5_surroundAs 21 = .ok (.aload_n 0, 1) := by decide +kernel
theorem dX5_surroundAs_22 : decode cX5_surroundAs 22 = .ok (.getfield 27, 3) := by decide +kernel
theorem dX5_surroundAs_25 : decode cX5_surroundAs 25 = .ok (.iload_n 1, 1) := by decide +kernel
theorem dX5_surroundAs_26 : decode cX5_surroundAs 26 = .ok (.invokevirtual 48, 3) := by decide +kernel
theorem dX5_surroundAs_29 : decode cX5_surroundAs 29 = .ok (.invokevirtual 81, 3) := by decide +kernel
theorem dX5_surroundAs_32 : decode cX5_surroundAs 32 = .ok (.return_, 1) := by decide +kernel
theorem dX5_isReducible_0 : decode cX5_isReducible 0 = .ok (.aload_n 0, 1) := by decide +kernel
theorem dX5_isReducible_1 : decode cX5_isReducible 1 = .ok (.getfield 9, 3) := by decide +kernel
theorem dX5_isReducible_4 : decode cX5_isReducible 4 = .ok (.aload_n 0, 1) := by decide +kernel
theorem dX5_isReducible_5 : decode cX5_isReducible 5 = .ok (.getfield 30, 3) := by decide +kernel
theorem dX5_isReducible_8 : decode cX5_isReducible 8 = .ok (.iload_n 1, 1) := by decide +kernel
theorem dX5_isReducible_9 : decode cX5_isReducible 9 = .ok (.invokevirtual 51, 3) := by decide +kernel
theorem dX5_isReducible_12 : decode cX5_isReducible 12 = .ok (.iconst 3, 1) := by decide +kernel
theorem dX5_isReducible_13 : decode cX5_isReducible 13 = .ok (.if_icmp .ne 25, 3) := by decide +kernel
theorem dX5_isReducible_16 : decode cX5_isReducible 16 = .ok (.aload_n 0, 1) := by decide +kernel
theorem dX5_isReducible_17 : decode cX5_isReducible 17 = .ok (.getfield 9, 3) := by decide +kernel
theorem dX5_isReducible_20 : decode cX5_isReducible 20 = .ok (.aload_n 0, 1) := by decide +kernel
theorem dX5_isReducible_21 : decode cX5_isReducible 21 = .ok (.getfield 30, 3) := by decide +kernel
theorem dX5_isReducible_24 : decode cX5_isReducible 24 = .ok (.iload_n 1, 1) := by decide +kernel
theorem dX5_isReducible_25 : decode cX5_isReducible 25 = .ok (.iconst 1, 1) := by decide +kernel
theorem dX5_isReducible_26 : decode cX5_isReducible 26 = .ok (.iadd, 1) := by decide +kernel
theorem dX5_isReducible_27 : decode cX5_isReducible 27 = .ok (.invokevirtual 51, 3) := by decide +kernel
theorem dX5_isReducible_30 : decode cX5_isReducible 30 = .ok (.iconst 2, 1) := by decide +kernel
theorem dX5_isReducible_31 : decode cX5_isReducible 31 = .ok (.if_icmp .ne 7, 3) := by decide +kernel
theorem dX5_isReducible_34 : decode cX5_isReducible 34 = .ok (.iconst 1, 1) := by decide +kernel
theorem dX5_isReducible_35 : decode cX5_isReducible 35 = .ok (.goto 4, 3) := by decide +kernel
theorem dX5_isReducible_38 : decode cX5_isReducible 38 = .ok (.iconst 0, 1) := by decide +kernel
theorem dX5_isReducible_39 : decode cX5_isReducible 39 = .ok (.ireturn, 1) := by decide +kernel
theorem dX5_firstInner_0 : decode cX5_firstInner 0 = .ok (.bipush (-6), 2) := by decide +kernel
theorem dX5_firstInner_2 : decode cX5_firstInner 2 = .ok (.istore_n 1, 1) := by decide +kernel
theorem dX5_firstInner_3 : decode cX5_firstInner 3 = .ok (.iconst 0, 1) := by decide +kernel
theorem dX5_firstInner_4 : decode cX5_firstInner 4 = .ok (.istore_n 2, 1) := by decide +kernel
theorem dX5_firstInner_5 : decode cX5_firstInner 5 = .ok (.iload_n 2, 1) := by decide +kernel
theorem dX5_firstInner_6 : decode cX5_firstInner 6 = .ok (.aload_n 0, 1) := by decide +kernel
theorem dX5_firstInner_7 : decode cX5_firstInner 7 = .ok (.getfield 40, 3) := by decide +kernel
theorem dX5_firstInner_10 : decode cX5_firstInner 10 = .ok (.if_icmp .ge 36, 3) := by decide +kernel
theorem dX5_firstInner_13 : decode cX5_firstInner 13 = .ok (.aload_n 0, 1) := by decide +kernel
theorem dX5_firstInner_14 : decode cX5_firstInner 14 = .ok (.iload_n 2, 1) := by decide +kernel
theorem dX5_firstInner_15 : decode cX5_firstInner 15 = .ok (.invokevirtual 65, 3) := by decide +kernel
theorem dX5_firstInner_18 : decode cX5_firstInner 18 = .ok (.ifCond .eq 22, 3) := by decide +kernel
theorem dX5_firstInner_21 : decode cX5_firstInner 21 = .ok (.iload_n 1, 1) := by decide +kernel
theorem dX5_firstInner_22 : decode cX5_firstInner 22 = .ok (.bipush (-6), 2) := by decide +kernel
theorem dX5_firstInner_24 : decode cX5_firstInner 24 = .ok (.if_icmp .eq 14, 3) := by decide +kernel
theorem dX5_firstInner_27 : decode cX5_firstInner 27 = .ok (.iload_n 2, 1) := by decide +kernel
theorem dX5_firstInner_28 : decode cX5_firstInner 28 = .ok (.aload_n 0, 1) := by decide +kernel
theorem dX5_firstInner_29 : decode cX5_firstInner 29 = .ok (.iload_n 1, 1) := by decide +kernel
theorem dX5_firstInner_30 : decode cX5_firstInner 30 = .ok (.invokevirtual 79, 3) := by decide +kernel
theorem dX5_firstInner_33 : decode cX5_firstInner 33 = .ok (.if_icmp .lt 5, 3) := by decide +kernel
theorem dX5_firstInner_36 : decode cX5_firstInner 36 = .ok (.iload_n 1, 1) := by decide +kernel
theorem dX5_firstInner_37 : decode cX5_firstInner 37 = .ok (.ireturn, 1) := by decide +kernel
theorem dX5_firstInner_38 : decode cX5_firstInner 38 = .ok (.iload_n 2, 1) := by decide +kernel
theorem dX5_firstInner_39 : decode cX5_firstInner 39 = .ok (.istore_n 1, 1) := by decide +kernel
theorem dX5_firstInner_40 : decode cX5_firstInner 40 = .ok (.iinc 2 1, 3) := by decide +kernel
theorem dX5_firstInner_43 : decode cX5_firstInner 43 = .ok (.goto (-38), 3) := by decide +kernel
theorem dX5_firstInner_46 : decode cX5_firstInner 46 = .ok (.iload_n 1, 1) := by decide +kernel
theorem dX5_firstInner_47 : decode cX5_firstInner 47 = .ok (.ireturn, 1) := by decide +kernel
theorem dX5_sign_0 : decode cX5_sign 0 = .ok (.aload_n 0, 1) := by decide +kernel
theorem dX5_sign_1 : decode cX5_sign 1 = .ok (.getfield 9, 3) := by decide +kernel
theorem dX5_sign_4 : decode cX5_sign 4 = .ok (.aload_n 0, 1) := by decide +kernel
theorem dX5_sign_5 : decode cX5_sign 5 = .ok (.getfield 30, 3) := by decide +kernel
theorem dX5_sign_8 : decode cX5_sign 8 = .ok (.iload_n 1, 1) := by decide +kernel
theorem dX5_sign_9 : decode cX5_sign 9 = .ok (.invokevirtual 55, 3) := by decide +kernel
theorem dX5_sign_12 : decode cX5_sign 12 = .ok (.istore_n 2, 1) := by decide +kernel
theorem dX5_sign_13 : decode cX5_sign 13 = .ok (.aload_n 0, 1) := by decide +kernel
theorem dX5_sign_14 : decode cX5_sign 14 = .ok (.getfield 9, 3) := by decide +kernel
theorem dX5_sign_17 : decode cX5_sign 17 = .ok (.aload_n 0, 1) := by decide +kernel
theorem dX5_sign_18 : decode cX5_sign 18 = .ok (.getfield 30, 3) := by decide +kernel
theorem dX5_sign_21 : decode cX5_sign 21 = .ok (.iload_n 1, 1) := by decide +kernel
theorem dX5_sign_22 : decode cX5_sign 22 = .ok (.invokevirtual 51, 3) := by decide +kernel
theorem dX5_sign_25 : decode cX5_sign 25 = .ok (.tableswitch 48 0 2 #[27, 40, 45], 27) := by decide +kernel
theorem dX5_sign_52 : decode cX5_sign 52 = .ok (.aload_n 0, 1) := by decide +kernel
theorem dX5_sign_53 : decode cX5_sign 53 = .ok (.iload_n 1, 1) := by decide +kernel
theorem dX5_sign_54 : decode cX5_sign 54 = .ok (.invokevirtual 58, 3) := by decide +kernel
theorem dX5_sign_57 : decode cX5_sign 57 = .ok (.iconst 1, 1) := by decide +kernel
theorem dX5_sign_58 : decode cX5_sign 58 = .ok (.isub, 1) := by decide +kernel
theorem dX5_sign_59 : decode cX5_sign 59 = .ok (.iload_n 2, 1) := by decide +kernel
theorem dX5_sign_60 : decode cX5_sign 60 = .ok (.isub, 1) := by decide +kernel
theorem dX5_sign_61 : decode cX5_sign 61 = .ok (.invokestatic 76, 3) := by decide +kernel
theorem dX5_sign_64 : decode cX5_sign 64 = .ok (.ireturn, 1) := by decide +kernel
theorem dX5_sign_65 : decode cX5_sign 65 = .ok (.bipush 97, 2) := by decide +kernel
theorem dX5_sign_67 : decode cX5_sign 67 = .ok (.iload_n 2, 1) := by decide +kernel
theorem dX5_sign_68 : decode cX5_sign 68 = .ok (.iadd, 1) := by decide +kernel
theorem dX5_sign_69 : decode cX5_sign 69 = .ok (.ireturn, 1) := by decide +kernel
theorem dX5_sign_70 : decode cX5_sign 70 = .ok (.bipush 76, 2) := by decide +kernel
theorem dX5_sign_72 : decode cX5_sign 72 = .ok (.ireturn, 1) := by decide +kernel
theorem dX5_sign_73 : decode cX5_sign 73 = .ok (.bipush 64, 2) := by decide +kernel
theorem dX5_sign_75 : decode cX5_sign 75 = .ok (.ireturn, 1) := by decide +kernel
theorem dX5_letter_0 : decode cX5_letter 0 = .ok (.bipush 103, 2) := by decide +kernel
theorem dX5_letter_2 : decode cX5_letter 2 = .ok (.iload_n 0, 1) := by decide +kernel
theorem dX5_letter_3 : decode cX5_letter 3 = .ok (.bipush 20, 2) := by decide +kernel
theorem dX5_letter_5 : decode cX5_letter 5 = .ok (.irem, 1) := by decide +kernel
theorem dX5_letter_6 : decode cX5_letter 6 = .ok (.iadd, 1) := by decide +kernel
theorem dX5_letter_7 : decode cX5_letter 7 = .ok (.ireturn, 1) := by decide +kernel
theorem dX6_init_0 : decode cX6_init 0 = .ok (.aload_n 0, 1) := by decide +kernel
theorem dX6_init_1 : decode cX6_init 1 = .ok (.invokespecial 3, 3) := by decide +kernel
theorem dX6_init_4 : decode cX6_init 4 = .ok (.aload_n 0, 1) := by decide +kernel
theorem dX6_init_5 : decode cX6_init 5 = .ok (.new 9, 3) := by decide +kernel
theorem dX6_init_8 : decode cX6_init 8 = .ok (.dup, 1) := by decide +kernel
theorem dX6_init_9 : decode cX6_init 9 = .ok (.invokespecial 11, 3) := by decide +kernel
theorem dX6_init_12 : decode cX6_init 12 = .ok (.putfield 12, 3) := by decide +kernel
theorem dX6_init_15 : decode cX6_init 15 = .ok (.aload_n 0, 1) := by decide +kernel
theorem dX6_init_16 : decode cX6_init 16 = .ok (.new 16, 3) := by decide +kernel
theorem dX6_init_19 : decode cX6_init 19 = .ok (.dup, 1) := by decide +kernel
theorem dX6_init_20 : decode cX6_init 20 = .ok (.aload_n 0, 1) := by decide +kernel
theorem dX6_init_21 : decode cX6_init 21 = .ok (.getfield 12, 3) := by decide +kernel
theorem dX6_init_24 : decode cX6_init 24 = .ok (.invokespecial 18, 3) := by decide +kernel
theorem dX6_init_27 : decode cX6_init 27 = .ok (.putfield 21, 3) := by decide +kernel
theorem dX6_init_30 : decode cX6_init 30 = .ok (.aload_n 0, 1) := by decide +kernel
theorem dX6_init_31 : decode cX6_init 31 = .ok (.new 25, 3) := by decide +kernel
theorem dX6_init_34 : decode cX6_init 34 = .ok (.dup, 1) := by decide +kernel
theorem dX6_init_35 : decode cX6_init 35 = .ok (.aload_n 0, 1) := by decide +kernel
theorem dX6_init_36 : decode cX6_init 36 = .ok (.getfield 12, 3) := by decide +kernel
theorem dX6_init_39 : decode cX6_init 39 = .ok (.aload_n 0, 1) := by decide +kernel
theorem dX6_init_40 : decode cX6_init 40 = .ok (.getfield 21, 3) := by decide +kernel
theorem dX6_init_43 : decode cX6_init 43 = .ok (.invokespecial 27, 3) := by decide +kernel
theorem dX6_init_46 : decode cX6_init 46 = .ok (.putfield 30, 3) := by decide +kernel
theorem dX6_init_49 : decode cX6_init 49 = .ok (.aload_n 0, 1) := by decide +kernel
theorem dX6_init_50 : decode cX6_init 50 = .ok (.new 34, 3) := by decide +kernel
theorem dX6_init_53 : decode cX6_init 53 = .ok (.dup, 1) := by decide +kernel
theorem dX6_init_54 : decode cX6_init 54 = .ok (.aload_n 0, 1) := by decide +kernel
theorem dX6_init_55 : decode cX6_init 55 = .ok (.getfield 12, 3) := by decide +kernel
theorem dX6_init_58 : decode cX6_init 58 = .ok (.invokespecial 36, 3) := by decide +kernel
theorem dX6_init_61 : decode cX6_init 61 = .ok (.putfield 37, 3) := by decide +kernel
theorem dX6_init_64 : decode cX6_init 64 = .ok (.aload_n 0, 1) := by decide +kernel
theorem dX6_init_65 : decode cX6_init 65 = .ok (.new 41, 3) := by decide +kernel
theorem dX6_init_68 : decode cX6_init 68 = .ok (.dup, 1) := by decide +kernel
theorem dX6_init_69 : decode cX6_init 69 = .ok (.invokespecial 43, 3) := by decide +kernel
theorem dX6_init_72 : decode cX6_init 72 = .ok (.putfield 44, 3) := by decide +kernel
theorem dX6_init_75 : decode cX6_init 75 = .ok (.iconst 0, 1) := by decide +kernel
theorem dX6_init_76 : decode cX6_init 76 = .ok (.istore_n 1, 1) := by decide +kernel
theorem dX6_init_77 : decode cX6_init 77 = .ok (.iload_n 1, 1) := by decide +kernel
theorem dX6_init_78 : decode cX6_init 78 = .ok (.bipush 6, 2) := by decide +kernel
theorem dX6_init_80 : decode cX6_init 80 = .ok (.if_icmp .ge 19, 3) := by decide +kernel
theorem dX6_init_83 : decode cX6_init 83 = .ok (.aload_n 0, 1) := by decide +kernel
theorem dX6_init_84 : decode cX6_init 84 = .ok (.getfield 12, 3) := by decide +kernel
theorem dX6_init_87 : decode cX6_init 87 = .ok (.iload_n 1, 1) := by decide +kernel
theorem dX6_init_88 : decode cX6_init 88 = .ok (.iconst 1, 1) := by decide +kernel
theorem dX6_init_89 : decode cX6_init 89 = .ok (.iconst 0, 1) := by decide +kernel
theorem dX6_init_90 : decode cX6_init 90 = .ok (.invokevirtual 48, 3) := by decide +kernel
theorem dX6_init_93 : decode cX6_init 93 = .ok (.iinc 1 1, 3) := by decide +kernel
theorem dX6_init_96 : decode cX6_init 96 = .ok (.goto (-19), 3) := by decide +kernel
theorem dX6_init_99 : decode cX6_init 99 = .ok (.return_, 1) := by decide +kernel
theorem dX6_read_0 : decode cX6_read 0 = .ok (.iload_n 1, 1) := by decide +kernel
theorem dX6_read_1 : decode cX6_read 1 = .ok (.invokestatic 52, 3) := by decide +kernel
theorem dX6_read_4 : decode cX6_read 4 = .ok (.ifCond .ne 5, 3) := by decide +kernel
theorem dX6_read_7 : decode cX6_read 7 = .ok (.iconst (-1), 1) := by decide +kernel
theorem dX6_read_8 : decode cX6_read 8 = .ok (.ireturn, 1) := by decide +kernel
theorem dX6_read_9 : decode cX6_read 9 = .ok (.aload_n 0, 1) := by decide +kernel
theorem dX6_read_10 : decode cX6_read 10 = .ok (.getfield 44, 3) := by decide +kernel
theorem dX6_read_13 : decode cX6_read 13 = .ok (.invokevirtual 56, 3) := by decide +kernel
theorem dX6_read_16 : decode cX6_read 16 = .ok (.bipush (-6), 2) := by decide +kernel
theorem dX6_read_18 : decode cX6_read 18 = .ok (.if_icmp .eq 6, 3) := by decide +kernel
theorem dX6_read_21 : decode cX6_read 21 = .ok (.bipush (-3), 2) := by decide +kernel
theorem dX6_read_23 : decode cX6_read 23 = .ok (.ireturn, 1) := by decide +kernel
theorem dX6_read_24 : decode cX6_read 24 = .ok (.aload_n 0, 1) := by decide +kernel
theorem dX6_read_25 : decode cX6_read 25 = .ok (.getfield 37, 3) := by decide +kernel
theorem dX6_read_28 : decode cX6_read 28 = .ok (.invokevirtual 60, 3) := by decide +kernel
theorem dX6_read_31 : decode cX6_read 31 = .ok (.aload_n 0, 1) := by decide +kernel
theorem dX6_read_32 : decode cX6_read 32 = .ok (.getfield 44, 3) := by decide +kernel
theorem dX6_read_35 : decode cX6_read 35 = .ok (.aload_n 0, 1) := by decide +kernel
theorem dX6_read_36 : decode cX6_read 36 = .ok (.getfield 12, 3) := by decide +kernel
theorem dX6_read_39 : decode cX6_read 39 = .ok (.iload_n 1, 1) := by decide +kernel
theorem dX6_read_40 : decode cX6_read 40 = .ok (.invokevirtual 63, 3) := by decide +kernel
theorem dX6_read_43 : decode cX6_read 43 = .ok (.aload_n 0, 1) := by decide +kernel
theorem dX6_read_44 : decode cX6_read 44 = .ok (.getfield 44, 3) := by decide +kernel
theorem dX6_read_47 : decode cX6_read 47 = .ok (.invokevirtual 67, 3) := by decide +kernel
theorem dX6_read_50 : decode cX6_read 50 = .ok (.aload_n 0, 1) := by decide +kernel
theorem dX6_read_51 : decode cX6_read 51 = .ok (.getfield 12, 3) := by decide +kernel
theorem dX6_read_54 : decode cX6_read 54 = .ok (.iload_n 1, 1) := by decide +kernel
theorem dX6_read_55 : decode cX6_read 55 = .ok (.invokevirtual 70, 3) := by decide +kernel
theorem dX6_read_58 : decode cX6_read 58 = .ok (.ireturn, 1) := by decide +kernel
theorem dX6_copy_0 : decode cX6_copy 0 = .ok (.iload_n 1, 1) := by decide +kernel
theorem dX6_copy_1 : decode cX6_copy 1 = .ok (.invokestatic 52, 3) := by decide +kernel
theorem dX6_copy_4 : decode cX6_copy 4 = .ok (.ifCond .eq 10, 3) := by decide +kernel
theorem dX6_copy_7 : decode cX6_copy 7 = .ok (.iload_n 2, 1) := by decide +kernel
theorem dX6_copy_8 : decode cX6_copy 8 = .ok (.invokestatic 52, 3) := by decide +kernel
theorem dX6_copy_11 : decode cX6_copy 11 = .ok (.ifCond .ne 5, 3) := by decide +kernel
theorem dX6_copy_14 : decode cX6_copy 14 = .ok (.iconst (-1), 1) := by decide +kernel
theorem dX6_copy_15 : decode cX6_copy 15 = .ok (.ireturn, 1) := by decide +kernel
theorem dX6_copy_16 : decode cX6_copy 16 = .ok (.aload_n 0, 1) := by decide +kernel
theorem dX6_copy_17 : decode cX6_copy 17 = .ok (.getfield 37, 3) := by decide +kernel
theorem dX6_copy_20 : decode cX6_copy 20 = .ok (.invokevirtual 60, 3) := by decide +kernel
theorem dX6_copy_23 : decode cX6_copy 23 = .ok (.aload_n 0, 1) := by decide +kernel
theorem dX6_copy_24 : decode cX6_copy 24 = .ok (.getfield 12, 3) := by decide +kernel
theorem dX6_copy_27 : decode cX6_copy 27 = .ok (.iload_n 1, 1) := by decide +kernel
theorem dX6_copy_28 : decode cX6_copy 28 = .ok (.iload_n 2, 1) := by decide +kernel
theorem dX6_copy_29 : decode cX6_copy 29 = .ok (.invokevirtual 74, 3) := by decide +kernel
theorem dX6_copy_32 : decode cX6_copy 32 = .ok (.aload_n 0, 1) := by decide +kernel
theorem dX6_copy_33 : decode cX6_copy 33 = .ok (.getfield 12, 3) := by decide +kernel
theorem dX6_copy_36 : decode cX6_copy 36 = .ok (.iload_n 2, 1) := by decide +kernel
theorem dX6_copy_37 : decode cX6_copy 37 = .ok (.invokevirtual 70, 3) := by decide +kernel
theorem dX6_copy_40 : decode cX6_copy 40 = .ok (.ireturn, 1) := by decide +kernel
theorem dX6_apply_0 : decode cX6_apply 0 = .ok (.iload_n 1, 1) := by decide +kernel
theorem dX6_apply_1 : decode cX6_apply 1 = .ok (.invokestatic 52, 3) := by decide +kernel
theorem dX6_apply_4 : decode cX6_apply 4 = .ok (.ifCond .eq 17, 3) := by decide +kernel
theorem dX6_apply_7 : decode cX6_apply 7 = .ok (.iload_n 2, 1) := by decide +kernel
theorem dX6_apply_8 : decode cX6_apply 8 = .ok (.invokestatic 52, 3) := by decide +kernel
theorem dX6_apply_11 : decode cX6_apply 11 = .ok (.ifCond .eq 10, 3) := by decide +kernel
theorem dX6_apply_14 : decode cX6_apply 14 = .ok (.iload_n 3, 1) := by decide +kernel
theorem dX6_apply_15 : decode cX6_apply 15 = .ok (.invokestatic 52, 3) := by decide +kernel
theorem dX6_apply_18 : decode cX6_apply 18 = .ok (.ifCond .ne 5, 3) := by decide +kernel
theorem dX6_apply_21 : decode cX6_apply 21 = .ok (.iconst (-1), 1) := by decide +kernel
theorem dX6_apply_22 : decode cX6_apply 22 = .ok (.ireturn, 1) := by decide +kernel
theorem dX6_apply_23 : decode cX6_apply 23 = .ok (.iconst 1, 1) := by decide +kernel
theorem dX6_apply_24 : decode cX6_apply 24 = .ok (.aload_n 0, 1) := by decide +kernel
theorem dX6_apply_25 : decode cX6_apply 25 = .ok (.getfield 12, 3) := by decide +kernel
theorem dX6_apply_28 : decode cX6_apply 28 = .ok (.iload_n 1, 1) := by decide +kernel
theorem dX6_apply_29 : decode cX6_apply 29 = .ok (.invokevirtual 70, 3) := by decide +kernel
theorem dX6_apply_32 : decode cX6_apply 32 = .ok (.iadd, 1) := by decide +kernel
theorem dX6_apply_33 : decode cX6_apply 33 = .ok (.aload_n 0, 1) := by decide +kernel
theorem dX6_apply_34 : decode cX6_apply 34 = .ok (.getfield 12, 3) := by decide +kernel
theorem dX6_apply_37 : decode cX6_apply 37 = .ok (.iload_n 2, 1) := by decide +kernel
theorem dX6_apply_38 : decode cX6_apply 38 = .ok (.invokevirtual 70, 3) := by decide +kernel
theorem dX6_apply_41 : decode cX6_apply 41 = .ok (.iadd, 1) := by decide +kernel
theorem dX6_apply_42 : decode cX6_apply 42 = .ok (.sipush 200, 3) := by decide +kernel
theorem dX6_apply_45 : decode cX6_apply 45 = .ok (.if_icmp .le 6, 3) := by decide +kernel
theorem dX6_apply_48 : decode cX6_apply 48 = .ok (.bipush (-4), 2) := by decide +kernel
theorem dX6_apply_50 : decode cX6_apply 50 = .ok (.ireturn, 1) := by decide +kernel
theorem dX6_apply_51 : decode cX6_apply 51 = .ok (.aload_n 0, 1) := by decide +kernel
theorem dX6_apply_52 : decode cX6_apply 52 = .ok (.getfield 37, 3) := by decide +kernel
theorem dX6_apply_55 : decode cX6_apply 55 = .ok (.invokevirtual 60, 3) := by decide +kernel
theorem dX6_apply_58 : decode cX6_apply 58 = .ok (.aload_n 0, 1) := by decide +kernel
theorem dX6_apply_59 : decode cX6_apply 59 = .ok (.getfield 12, 3) := by decide +kernel
theorem dX6_apply_62 : decode cX6_apply 62 = .ok (.bipush 56, 2) := by decide +kernel
theorem dX6_apply_64 : decode cX6_apply 64 = .ok (.invokevirtual 78, 3) := by decide +kernel
theorem dX6_apply_67 : decode cX6_apply 67 = .ok (.aload_n 0, 1) := by decide +kernel
theorem dX6_apply_68 : decode cX6_apply 68 = .ok (.getfield 12, 3) := by decide +kernel
theorem dX6_apply_71 : decode cX6_apply 71 = .ok (.bipush 56, 2) := by decide +kernel
theorem dX6_apply_73 : decode cX6_apply 73 = .ok (.iconst 3, 1) := by decide +kernel
theorem dX6_apply_74 : decode cX6_apply 74 = .ok (.iconst 0, 1) := by decide +kernel
theorem dX6_apply_75 : decode cX6_apply 75 = .ok (.invokevirtual 48, 3) := by decide +kernel
theorem dX6_apply_78 : decode cX6_apply 78 = .ok (.aload_n 0, 1) := by decide +kernel
theorem dX6_apply_79 : decode cX6_apply 79 = .ok (.getfield 12, 3) := by decide +kernel
theorem dX6_apply_82 : decode cX6_apply 82 = .ok (.bipush 56, 2) := by decide +kernel
theorem dX6_apply_84 : decode cX6_apply 84 = .ok (.iload_n 1, 1) := by decide +kernel
theorem dX6_apply_85 : decode cX6_apply 85 = .ok (.iconst 0, 1) := by decide +kernel
theorem dX6_apply_86 : decode cX6_apply 86 = .ok (.aload_n 0, 1) := by decide +kernel
theorem dX6_apply_87 : decode cX6_apply 87 = .ok (.getfield 12, 3) := by decide +kernel
theorem dX6_apply_90 : decode cX6_apply 90 = .ok (.iload_n 1, 1) := by decide +kernel
theorem dX6_apply_91 : decode cX6_apply 91 = .ok (.invokevirtual 70, 3) := by decide +kernel
theorem dX6_apply_94 : decode cX6_apply 94 = .ok (.invokevirtual 82, 3) := by decide +kernel
theorem dX6_apply_97 : decode cX6_apply 97 = .ok (.aload_n 0, 1) := by decide +kernel
theorem dX6_apply_98 : decode cX6_apply 98 = .ok (.getfield 12, 3) := by decide +kernel
theorem dX6_apply_101 : decode cX6_apply 101 = .ok (.bipush 56, 2) := by decide +kernel
theorem dX6_apply_103 : decode cX6_apply 103 = .ok (.iload_n 2, 1) := by decide +kernel
theorem dX6_apply_104 : decode cX6_apply 104 = .ok (.iconst 0, 1) := by decide +kernel
theorem dX6_apply_105 : decode cX6_apply 105 = .ok (.aload_n 0, 1) := by decide +kernel
theorem dX6_apply_106 : decode cX6_apply 106 = .ok (.getfield 12, 3) := by decide +kernel
theorem dX6_apply_109 : decode cX6_apply 109 = .ok (.iload_n 2, 1) := by decide +kernel
theorem dX6_apply_110 : decode cX6_apply 110 = .ok (.invokevirtual 70, 3) := by decide +kernel
theorem dX6_apply_113 : decode cX6_apply 113 = .ok (.invokevirtual 82, 3) := by decide +kernel
theorem dX6_apply_116 : decode cX6_apply 116 = .ok (.aload_n 0, 1) := by decide +kernel
theorem dX6_apply_117 : decode cX6_apply 117 = .ok (.getfield 12, 3) := by decide +kernel
theorem dX6_apply_120 : decode cX6_apply 120 = .ok (.bipush 56, 2) := by decide +kernel
theorem dX6_apply_122 : decode cX6_apply 122 = .ok (.iload_n 3, 1) := by decide +kernel
theorem dX6_apply_123 : decode cX6_apply 123 = .ok (.invokevirtual 74, 3) := by decide +kernel
theorem dX6_apply_126 : decode cX6_apply 126 = .ok (.aload_n 0, 1) := by decide +kernel
theorem dX6_apply_127 : decode cX6_apply 127 = .ok (.getfield 12, 3) := by decide +kernel
theorem dX6_apply_130 : decode cX6_apply 130 = .ok (.iload_n 3, 1) := by decide +kernel
theorem dX6_apply_131 : decode cX6_apply 131 = .ok (.invokevirtual 70, 3) := by decide +kernel
theorem dX6_apply_134 : decode cX6_apply 134 = .ok (.ireturn, 1) := by decide +kernel
theorem dX6_bind_0 : decode cX6_bind 0 = .ok (.iload_n 1, 1) := by decide +kernel
theorem dX6_bind_1 : decode cX6_bind 1 = .ok (.invokestatic 52, 3) := by decide +kernel
theorem dX6_bind_4 : decode cX6_bind 4 = .ok (.ifCond .eq 10, 3) := by decide +kernel
theorem dX6_bind_7 : decode cX6_bind 7 = .ok (.iload_n 3, 1) := by decide +kernel
theorem dX6_bind_8 : decode cX6_bind 8 = .ok (.invokestatic 52, 3) := by decide +kernel
theorem dX6_bind_11 : decode cX6_bind 11 = .ok (.ifCond .ne 5, 3) := by decide +kernel
theorem dX6_bind_14 : decode cX6_bind 14 = .ok (.iconst (-1), 1) := by decide +kernel
theorem dX6_bind_15 : decode cX6_bind 15 = .ok (.ireturn, 1) := by decide +kernel
theorem dX6_bind_16 : decode cX6_bind 16 = .ok (.iload_n 2, 1) := by decide +kernel
theorem dX6_bind_17 : decode cX6_bind 17 = .ok (.ifCond .lt 9, 3) := by decide +kernel
theorem dX6_bind_20 : decode cX6_bind 20 = .ok (.iload_n 2, 1) := by decide +kernel
theorem dX6_bind_21 : decode cX6_bind 21 = .ok (.bipush 6, 2) := by decide +kernel
theorem dX6_bind_23 : decode cX6_bind 23 = .ok (.if_icmp .lt 6, 3) := by decide +kernel
theorem dX6_bind_26 : decode cX6_bind 26 = .ok (.bipush (-2), 2) := by decide +kernel
theorem dX6_bind_28 : decode cX6_bind 28 = .ok (.ireturn, 1) := by decide +kernel
theorem dX6_bind_29 : decode cX6_bind 29 = .ok (.iconst 1, 1) := by decide +kernel
theorem dX6_bind_30 : decode cX6_bind 30 = .ok (.aload_n 0, 1) := by decide +kernel
theorem dX6_bind_31 : decode cX6_bind 31 = .ok (.getfield 12, 3) := by decide +kernel
theorem dX6_bind_34 : decode cX6_bind 34 = .ok (.iload_n 1, 1) := by decide +kernel
theorem dX6_bind_35 : decode cX6_bind 35 = .ok (.invokevirtual 70, 3) := by decide +kernel
theorem dX6_bind_38 : decode cX6_bind 38 = .ok (.iadd, 1) := by decide +kernel
theorem dX6_bind_39 : decode cX6_bind 39 = .ok (.sipush 200, 3) := by decide +kernel
theorem dX6_bind_42 : decode cX6_bind 42 = .ok (.if_icmp .le 6, 3) := by decide +kernel
theorem dX6_bind_45 : decode cX6_bind 45 = .ok (.bipush (-4), 2) := by decide +kernel
theorem dX6_bind_47 : decode cX6_bind 47 = .ok (.ireturn, 1) := by decide +kernel
theorem dX6_bind_48 : decode cX6_bind 48 = .ok (.aload_n 0, 1) := by decide +kernel
theorem dX6_bind_49 : decode cX6_bind 49 = .ok (.getfield 37, 3) := by decide +kernel
theorem dX6_bind_52 : decode cX6_bind 52 = .ok (.invokevirtual 60, 3) := by decide +kernel
theorem dX6_bind_55 : decode cX6_bind 55 = .ok (.aload_n 0, 1) := by decide +kernel
theorem dX6_bind_56 : decode cX6_bind 56 = .ok (.iload_n 1, 1) := by decide +kernel
theorem dX6_bind_57 : decode cX6_bind 57 = .ok (.iload_n 2, 1) := by decide +kernel
theorem dX6_bind_58 : decode cX6_bind 58 = .ok (.invokevirtual 86, 3) := by decide +kernel
theorem dX6_bind_61 : decode cX6_bind 61 = .ok (.istore 4, 2) := by decide +kernel
theorem dX6_bind_63 : decode cX6_bind 63 = .ok (.aload_n 0, 1) := by decide +kernel
theorem dX6_bind_64 : decode cX6_bind 64 = .ok (.getfield 12, 3) := by decide +kernel
theorem dX6_bind_67 : decode cX6_bind 67 = .ok (.bipush 56, 2) := by decide +kernel
theorem dX6_bind_69 : decode cX6_bind 69 = .ok (.iload_n 3, 1) := by decide +kernel
theorem dX6_bind_70 : decode cX6_bind 70 = .ok (.invokevirtual 74, 3) := by decide +kernel
theorem dX6_bind_73 : decode cX6_bind 73 = .ok (.iload 4, 2) := by decide +kernel
theorem dX6_bind_75 : decode cX6_bind 75 = .ok (.ireturn, 1) := by decide +kernel
theorem dX6_step_0 : decode cX6_step 0 = .ok (.iload_n 1, 1) := by decide +kernel
theorem dX6_step_1 : decode cX6_step 1 = .ok (.invokestatic 52, 3) := by decide +kernel
theorem dX6_step_4 : decode cX6_step 4 = .ok (.ifCond .ne 5, 3) := by decide +kernel
theorem dX6_step_7 : decode cX6_step 7 = .ok (.iconst (-1), 1) := by decide +kernel
theorem dX6_step_8 : decode cX6_step 8 = .ok (.ireturn, 1) := by decide +kernel
theorem dX6_step_9 : decode cX6_step 9 = .ok (.iload_n 2, 1) := by decide +kernel
theorem dX6_step_10 : decode cX6_step 10 = .ok (.invokestatic 90, 3) := by decide +kernel
theorem dX6_step_13 : decode cX6_step 13 = .ok (.ifCond .ne 6, 3) := by decide +kernel
theorem dX6_step_16 : decode cX6_step 16 = .ok (.bipush (-2), 2) := by decide +kernel
theorem dX6_step_18 : decode cX6_step 18 = .ok (.ireturn, 1) := by decide +kernel
theorem dX6_step_19 : decode cX6_step 19 = .ok (.aload_n 0, 1) := by decide +kernel
theorem dX6_step_20 : decode cX6_step 20 = .ok (.getfield 21, 3) := by decide +kernel
theorem dX6_step_23 : decode cX6_step 23 = .ok (.iload_n 1, 1) := by decide +kernel
theorem dX6_step_24 : decode cX6_step 24 = .ok (.invokevirtual 93, 3) := by decide +kernel
theorem dX6_step_27 : decode cX6_step 27 = .ok (.aload_n 0, 1) := by decide +kernel
theorem dX6_step_28 : decode cX6_step 28 = .ok (.getfield 21, 3) := by decide +kernel
theorem dX6_step_31 : decode cX6_step 31 = .ok (.iload_n 2, 1) := by decide +kernel
theorem dX6_step_32 : decode cX6_step 32 = .ok (.invokevirtual 96, 3) := by decide +kernel
theorem dX6_step_35 : decode cX6_step 35 = .ok (.istore_n 3, 1) := by decide +kernel
theorem dX6_step_36 : decode cX6_step 36 = .ok (.iload_n 3, 1) := by decide +kernel
theorem dX6_step_37 : decode cX6_step 37 = .ok (.bipush (-6), 2) := by decide +kernel
theorem dX6_step_39 : decode cX6_step 39 = .ok (.if_icmp .ne 6, 3) := by decide +kernel
theorem dX6_step_42 : decode cX6_step 42 = .ok (.bipush (-5), 2) := by decide +kernel
theorem dX6_step_44 : decode cX6_step 44 = .ok (.ireturn, 1) := by decide +kernel
end
section
theorem dX6_step_45 : decode cX6_step 45 = .ok (.aload_n 0, 1) := by decide +kernel
theorem dX6_step_46 : decode cX6_step 46 = .ok (.getfield 30, 3) := by decide +kernel
theorem dX6_step_49 : decode cX6_step 49 = .ok (.iload_n 3, 1) := by decide +kernel
theorem dX6_step_50 : decode cX6_step 50 = .ok (.invokevirtual 99, 3) := by decide +kernel
theorem dX6_step_53 : decode cX6_step 53 = .ok (.sipush 200, 3) := by decide +kernel
theorem dX6_step_56 : decode cX6_step 56 = .ok (.if_icmp .le 6, 3) := by decide +kernel
theorem dX6_step_59 : decode cX6_step 59 = .ok (.bipush (-4), 2) := by decide +kernel
theorem dX6_step_61 : decode cX6_step 61 = .ok (.ireturn, 1) := by decide +kernel
theorem dX6_step_62 : decode cX6_step 62 = .ok (.aload_n 0, 1) := by decide +kernel
theorem dX6_step_63 : decode cX6_step 63 = .ok (.getfield 37, 3) := by decide +kernel
theorem dX6_step_66 : decode cX6_step 66 = .ok (.invokevirtual 60, 3) := by decide +kernel
theorem dX6_step_69 : decode cX6_step 69 = .ok (.aload_n 0, 1) := by decide +kernel
theorem dX6_step_70 : decode cX6_step 70 = .ok (.getfield 30, 3) := by decide +kernel
theorem dX6_step_73 : decode cX6_step 73 = .ok (.iload_n 3, 1) := by decide +kernel
theorem dX6_step_74 : decode cX6_step 74 = .ok (.invokevirtual 102, 3) := by decide +kernel
theorem dX6_step_77 : decode cX6_step 77 = .ok (.aload_n 0, 1) := by decide +kernel
theorem dX6_step_78 : decode cX6_step 78 = .ok (.getfield 12, 3) := by decide +kernel
theorem dX6_step_81 : decode cX6_step 81 = .ok (.iload_n 1, 1) := by decide +kernel
theorem dX6_step_82 : decode cX6_step 82 = .ok (.invokevirtual 70, 3) := by decide +kernel
theorem dX6_step_85 : decode cX6_step 85 = .ok (.ireturn, 1) := by decide +kernel
theorem dX6_run_0 : decode cX6_run 0 = .ok (.iload_n 1, 1) := by decide +kernel
theorem dX6_run_1 : decode cX6_run 1 = .ok (.invokestatic 52, 3) := by decide +kernel
theorem dX6_run_4 : decode cX6_run 4 = .ok (.ifCond .ne 5, 3) := by decide +kernel
theorem dX6_run_7 : decode cX6_run 7 = .ok (.iconst (-1), 1) := by decide +kernel
theorem dX6_run_8 : decode cX6_run 8 = .ok (.ireturn, 1) := by decide +kernel
theorem dX6_run_9 : decode cX6_run 9 = .ok (.iload_n 2, 1) := by decide +kernel
theorem dX6_run_10 : decode cX6_run 10 = .ok (.invokestatic 90, 3) := by decide +kernel
theorem dX6_run_13 : decode cX6_run 13 = .ok (.ifCond .eq 10, 3) := by decide +kernel
theorem dX6_run_16 : decode cX6_run 16 = .ok (.iload_n 3, 1) := by decide +kernel
theorem dX6_run_17 : decode cX6_run 17 = .ok (.invokestatic 105, 3) := by decide +kernel
theorem dX6_run_20 : decode cX6_run 20 = .ok (.ifCond .ne 6, 3) := by decide +kernel
theorem dX6_run_23 : decode cX6_run 23 = .ok (.bipush (-2), 2) := by decide +kernel
theorem dX6_run_25 : decode cX6_run 25 = .ok (.ireturn, 1) := by decide +kernel
theorem dX6_run_26 : decode cX6_run 26 = .ok (.aload_n 0, 1) := by decide +kernel
theorem dX6_run_27 : decode cX6_run 27 = .ok (.getfield 37, 3) := by decide +kernel
theorem dX6_run_30 : decode cX6_run 30 = .ok (.invokevirtual 60, 3) := by decide +kernel
theorem dX6_run_33 : decode cX6_run 33 = .ok (.aload_n 0, 1) := by decide +kernel
theorem dX6_run_34 : decode cX6_run 34 = .ok (.getfield 30, 3) := by decide +kernel
theorem dX6_run_37 : decode cX6_run 37 = .ok (.iload_n 1, 1) := by decide +kernel
theorem dX6_run_38 : decode cX6_run 38 = .ok (.iload_n 2, 1) := by decide +kernel
theorem dX6_run_39 : decode cX6_run 39 = .ok (.iload_n 3, 1) := by decide +kernel
theorem dX6_run_40 : decode cX6_run 40 = .ok (.invokevirtual 108, 3) := by decide +kernel
theorem dX6_run_43 : decode cX6_run 43 = .ok (.pop, 1) := by decide +kernel
theorem dX6_run_44 : decode cX6_run 44 = .ok (.aload_n 0, 1) := by decide +kernel
theorem dX6_run_45 : decode cX6_run 45 = .ok (.getfield 30, 3) := by decide +kernel
theorem dX6_run_48 : decode cX6_run 48 = .ok (.invokevirtual 112, 3) := by decide +kernel
theorem dX6_run_51 : decode cX6_run 51 = .ok (.ireturn, 1) := by decide +kernel
theorem dX6_of_0 : decode cX6_of 0 = .ok (.iload_n 1, 1) := by decide +kernel
theorem dX6_of_1 : decode cX6_of 1 = .ok (.invokestatic 52, 3) := by decide +kernel
theorem dX6_of_4 : decode cX6_of 4 = .ok (.ifCond .ne 5, 3) := by decide +kernel
theorem dX6_of_7 : decode cX6_of 7 = .ok (.iconst (-1), 1) := by decide +kernel
theorem dX6_of_8 : decode cX6_of 8 = .ok (.ireturn, 1) := by decide +kernel
theorem dX6_of_9 : decode cX6_of 9 = .ok (.iload_n 2, 1) := by decide +kernel
theorem dX6_of_10 : decode cX6_of 10 = .ok (.ifCond .lt 9, 3) := by decide +kernel
theorem dX6_of_13 : decode cX6_of 13 = .ok (.iload_n 2, 1) := by decide +kernel
theorem dX6_of_14 : decode cX6_of 14 = .ok (.bipush 10, 2) := by decide +kernel
theorem dX6_of_16 : decode cX6_of 16 = .ok (.if_icmp .le 6, 3) := by decide +kernel
theorem dX6_of_19 : decode cX6_of 19 = .ok (.bipush (-2), 2) := by decide +kernel
theorem dX6_of_21 : decode cX6_of 21 = .ok (.ireturn, 1) := by decide +kernel
theorem dX6_of_22 : decode cX6_of 22 = .ok (.aload_n 0, 1) := by decide +kernel
theorem dX6_of_23 : decode cX6_of 23 = .ok (.getfield 21, 3) := by decide +kernel
theorem dX6_of_26 : decode cX6_of 26 = .ok (.iload_n 1, 1) := by decide +kernel
theorem dX6_of_27 : decode cX6_of 27 = .ok (.invokevirtual 93, 3) := by decide +kernel
theorem dX6_of_30 : decode cX6_of 30 = .ok (.iload_n 2, 1) := by decide +kernel
theorem dX6_of_31 : decode cX6_of 31 = .ok (.tableswitch 145 0 9 #[53, 62, 72, 82, 92, 102, 110, 118, 127, 136], 53) := by decide +kernel
theorem dX6_of_84 : decode cX6_of 84 = .ok (.aload_n 0, 1) := by decide +kernel
theorem dX6_of_85 : decode cX6_of 85 = .ok (.getfield 12, 3) := by decide +kernel
theorem dX6_of_88 : decode cX6_of 88 = .ok (.iload_n 1, 1) := by decide +kernel
theorem dX6_of_89 : decode cX6_of 89 = .ok (.invokevirtual 70, 3) := by decide +kernel
theorem dX6_of_92 : decode cX6_of 92 = .ok (.ireturn, 1) := by decide +kernel
theorem dX6_of_93 : decode cX6_of 93 = .ok (.aload_n 0, 1) := by decide +kernel
theorem dX6_of_94 : decode cX6_of 94 = .ok (.getfield 12, 3) := by decide +kernel
theorem dX6_of_97 : decode cX6_of 97 = .ok (.iload_n 1, 1) := by decide +kernel
theorem dX6_of_98 : decode cX6_of 98 = .ok (.iconst 2, 1) := by decide +kernel
theorem dX6_of_99 : decode cX6_of 99 = .ok (.invokevirtual 115, 3) := by decide +kernel
theorem dX6_of_102 : decode cX6_of 102 = .ok (.ireturn, 1) := by decide +kernel
theorem dX6_of_103 : decode cX6_of 103 = .ok (.aload_n 0, 1) := by decide +kernel
theorem dX6_of_104 : decode cX6_of 104 = .ok (.getfield 12, 3) := by decide +kernel
theorem dX6_of_107 : decode cX6_of 107 = .ok (.iload_n 1, 1) := by decide +kernel
theorem dX6_of_108 : decode cX6_of 108 = .ok (.iconst 3, 1) := by decide +kernel
theorem dX6_of_109 : decode cX6_of 109 = .ok (.invokevirtual 115, 3) := by decide +kernel
theorem dX6_of_112 : decode cX6_of 112 = .ok (.ireturn, 1) := by decide +kernel
theorem dX6_of_113 : decode cX6_of 113 = .ok (.aload_n 0, 1) := by decide +kernel
theorem dX6_of_114 : decode cX6_of 114 = .ok (.getfield 12, 3) := by decide +kernel
theorem dX6_of_117 : decode cX6_of 117 = .ok (.iload_n 1, 1) := by decide +kernel
theorem dX6_of_118 : decode cX6_of 118 = .ok (.iconst 0, 1) := by decide +kernel
theorem dX6_of_119 : decode cX6_of 119 = .ok (.invokevirtual 115, 3) := by decide +kernel
theorem dX6_of_122 : decode cX6_of 122 = .ok (.ireturn, 1) := by decide +kernel
theorem dX6_of_123 : decode cX6_of 123 = .ok (.aload_n 0, 1) := by decide +kernel
theorem dX6_of_124 : decode cX6_of 124 = .ok (.getfield 12, 3) := by decide +kernel
theorem dX6_of_127 : decode cX6_of 127 = .ok (.iload_n 1, 1) := by decide +kernel
theorem dX6_of_128 : decode cX6_of 128 = .ok (.iconst 1, 1) := by decide +kernel
theorem dX6_of_129 : decode cX6_of 129 = .ok (.invokevirtual 115, 3) := by decide +kernel
theorem dX6_of_132 : decode cX6_of 132 = .ok (.ireturn, 1) := by decide +kernel
theorem dX6_of_133 : decode cX6_of 133 = .ok (.aload_n 0, 1) := by decide +kernel
theorem dX6_of_134 : decode cX6_of 134 = .ok (.getfield 21, 3) := by decide +kernel
theorem dX6_of_137 : decode cX6_of 137 = .ok (.invokevirtual 118, 3) := by decide +kernel
theorem dX6_of_140 : decode cX6_of 140 = .ok (.ireturn, 1) := by decide +kernel
theorem dX6_of_141 : decode cX6_of 141 = .ok (.aload_n 0, 1) := by decide +kernel
theorem dX6_of_142 : decode cX6_of 142 = .ok (.getfield 21, 3) := by decide +kernel
theorem dX6_of_145 : decode cX6_of 145 = .ok (.invokevirtual 121, 3) := by decide +kernel
theorem dX6_of_148 : decode cX6_of 148 = .ok (.ireturn, 1) := by decide +kernel
theorem dX6_of_149 : decode cX6_of 149 = .ok (.aload_n 0, 1) := by decide +kernel
theorem dX6_of_150 : decode cX6_of 150 = .ok (.getfield 21, 3) := by decide +kernel
theorem dX6_of_153 : decode cX6_of 153 = .ok (.iconst 0, 1) := by decide +kernel
theorem dX6_of_154 : decode cX6_of 154 = .ok (.invokevirtual 96, 3) := by decide +kernel
theorem dX6_of_157 : decode cX6_of 157 = .ok (.ireturn, 1) := by decide +kernel
theorem dX6_of_158 : decode cX6_of 158 = .ok (.aload_n 0, 1) := by decide +kernel
theorem dX6_of_159 : decode cX6_of 159 = .ok (.getfield 21, 3) := by decide +kernel
theorem dX6_of_162 : decode cX6_of 162 = .ok (.iconst 1, 1) := by decide +kernel
theorem dX6_of_163 : decode cX6_of 163 = .ok (.invokevirtual 96, 3) := by decide +kernel
theorem dX6_of_166 : decode cX6_of 166 = .ok (.ireturn, 1) := by decide +kernel
theorem dX6_of_167 : decode cX6_of 167 = .ok (.aload_n 0, 1) := by decide +kernel
theorem dX6_of_168 : decode cX6_of 168 = .ok (.getfield 21, 3) := by decide +kernel
theorem dX6_of_171 : decode cX6_of 171 = .ok (.iconst 2, 1) := by decide +kernel
theorem dX6_of_172 : decode cX6_of 172 = .ok (.invokevirtual 96, 3) := by decide +kernel
theorem dX6_of_175 : decode cX6_of 175 = .ok (.ireturn, 1) := by decide +kernel
theorem dX6_of_176 : decode cX6_of 176 = .ok (.aload_n 0, 1) := by decide +kernel
theorem dX6_of_177 : decode cX6_of 177 = .ok (.getfield 12, 3) := by decide +kernel
theorem dX6_of_180 : decode cX6_of 180 = .ok (.iload_n 1, 1) := by decide +kernel
theorem dX6_of_181 : decode cX6_of 181 = .ok (.invokevirtual 124, 3) := by decide +kernel
theorem dX6_of_184 : decode cX6_of 184 = .ok (.ireturn, 1) := by decide +kernel
theorem dX6_part_0 : decode cX6_part 0 = .ok (.iload_n 1, 1) := by decide +kernel
theorem dX6_part_1 : decode cX6_part 1 = .ok (.invokestatic 52, 3) := by decide +kernel
theorem dX6_part_4 : decode cX6_part 4 = .ok (.ifCond .eq 19, 3) := by decide +kernel
theorem dX6_part_7 : decode cX6_part 7 = .ok (.iload_n 2, 1) := by decide +kernel
theorem dX6_part_8 : decode cX6_part 8 = .ok (.ifCond .lt 15, 3) := by decide +kernel
theorem dX6_part_11 : decode cX6_part 11 = .ok (.iload_n 2, 1) := by decide +kernel
theorem dX6_part_12 : decode cX6_part 12 = .ok (.aload_n 0, 1) := by decide +kernel
theorem dX6_part_13 : decode cX6_part 13 = .ok (.getfield 12, 3) := by decide +kernel
theorem dX6_part_16 : decode cX6_part 16 = .ok (.iload_n 1, 1) := by decide +kernel
theorem dX6_part_17 : decode cX6_part 17 = .ok (.invokevirtual 70, 3) := by decide +kernel
theorem dX6_part_20 : decode cX6_part 20 = .ok (.if_icmp .lt 5, 3) := by decide +kernel
theorem dX6_part_23 : decode cX6_part 23 = .ok (.iconst (-1), 1) := by decide +kernel
theorem dX6_part_24 : decode cX6_part 24 = .ok (.ireturn, 1) := by decide +kernel
theorem dX6_part_25 : decode cX6_part 25 = .ok (.iload_n 3, 1) := by decide +kernel
theorem dX6_part_26 : decode cX6_part 26 = .ok (.ifCond .lt 8, 3) := by decide +kernel
theorem dX6_part_29 : decode cX6_part 29 = .ok (.iload_n 3, 1) := by decide +kernel
theorem dX6_part_30 : decode cX6_part 30 = .ok (.iconst 4, 1) := by decide +kernel
theorem dX6_part_31 : decode cX6_part 31 = .ok (.if_icmp .le 6, 3) := by decide +kernel
theorem dX6_part_34 : decode cX6_part 34 = .ok (.bipush (-2), 2) := by decide +kernel
theorem dX6_part_36 : decode cX6_part 36 = .ok (.ireturn, 1) := by decide +kernel
theorem dX6_part_37 : decode cX6_part 37 = .ok (.aload_n 0, 1) := by decide +kernel
theorem dX6_part_38 : decode cX6_part 38 = .ok (.getfield 21, 3) := by decide +kernel
theorem dX6_part_41 : decode cX6_part 41 = .ok (.iload_n 1, 1) := by decide +kernel
theorem dX6_part_42 : decode cX6_part 42 = .ok (.invokevirtual 93, 3) := by decide +kernel
theorem dX6_part_45 : decode cX6_part 45 = .ok (.iload_n 3, 1) := by decide +kernel
theorem dX6_part_46 : decode cX6_part 46 = .ok (.tableswitch 68 0 3 #[30, 40, 50, 59], 30) := by decide +kernel
theorem dX6_part_76 : decode cX6_part 76 = .ok (.aload_n 0, 1) := by decide +kernel
theorem dX6_part_77 : decode cX6_part 77 = .ok (.getfield 12, 3) := by decide +kernel
theorem dX6_part_80 : decode cX6_part 80 = .ok (.iload_n 1, 1) := by decide +kernel
theorem dX6_part_81 : decode cX6_part 81 = .ok (.iload_n 2, 1) := by decide +kernel
theorem dX6_part_82 : decode cX6_part 82 = .ok (.invokevirtual 127, 3) := by decide +kernel
theorem dX6_part_85 : decode cX6_part 85 = .ok (.ireturn, 1) := by decide +kernel
theorem dX6_part_86 : decode cX6_part 86 = .ok (.aload_n 0, 1) := by decide +kernel
theorem dX6_part_87 : decode cX6_part 87 = .ok (.getfield 12, 3) := by decide +kernel
theorem dX6_part_90 : decode cX6_part 90 = .ok (.iload_n 1, 1) := by decide +kernel
theorem dX6_part_91 : decode cX6_part 91 = .ok (.iload_n 2, 1) := by decide +kernel
theorem dX6_part_92 : decode cX6_part 92 = .ok (.invokevirtual 130, 3) := by decide +kernel
theorem dX6_part_95 : decode cX6_part 95 = .ok (.ireturn, 1) := by decide +kernel
theorem dX6_part_96 : decode cX6_part 96 = .ok (.aload_n 0, 1) := by decide +kernel
theorem dX6_part_97 : decode cX6_part 97 = .ok (.getfield 21, 3) := by decide +kernel
theorem dX6_part_100 : decode cX6_part 100 = .ok (.iload_n 2, 1) := by decide +kernel
theorem dX6_part_101 : decode cX6_part 101 = .ok (.invokevirtual 133, 3) := by decide +kernel
theorem dX6_part_104 : decode cX6_part 104 = .ok (.ireturn, 1) := by decide +kernel
theorem dX6_part_105 : decode cX6_part 105 = .ok (.aload_n 0, 1) := by decide +kernel
theorem dX6_part_106 : decode cX6_part 106 = .ok (.getfield 21, 3) := by decide +kernel
theorem dX6_part_109 : decode cX6_part 109 = .ok (.iload_n 2, 1) := by decide +kernel
theorem dX6_part_110 : decode cX6_part 110 = .ok (.invokevirtual 136, 3) := by decide +kernel
theorem dX6_part_113 : decode cX6_part 113 = .ok (.ireturn, 1) := by decide +kernel
theorem dX6_part_114 : decode cX6_part 114 = .ok (.aload_n 0, 1) := by decide +kernel
theorem dX6_part_115 : decode cX6_part 115 = .ok (.getfield 21, 3) := by decide +kernel
theorem dX6_part_118 : decode cX6_part 118 = .ok (.iload_n 2, 1) := by decide +kernel
theorem dX6_part_119 : decode cX6_part 119 = .ok (.invokevirtual 139, 3) := by decide +kernel
theorem dX6_part_122 : decode cX6_part 122 = .ok (.ireturn, 1) := by decide +kernel
theorem dX6_named_0 : decode cX6_named 0 = .ok (.iload_n 1, 1) := by decide +kernel
theorem dX6_named_1 : decode cX6_named 1 = .ok (.invokestatic 52, 3) := by decide +kernel
theorem dX6_named_4 : decode cX6_named 4 = .ok (.ifCond .ne 5, 3) := by decide +kernel
theorem dX6_named_7 : decode cX6_named 7 = .ok (.iconst (-1), 1) := by decide +kernel
theorem dX6_named_8 : decode cX6_named 8 = .ok (.ireturn, 1) := by decide +kernel
theorem dX6_named_9 : decode cX6_named 9 = .ok (.aload_n 0, 1) := by decide +kernel
theorem dX6_named_10 : decode cX6_named 10 = .ok (.getfield 21, 3) := by decide +kernel
theorem dX6_named_13 : decode cX6_named 13 = .ok (.iload_n 1, 1) := by decide +kernel
theorem dX6_named_14 : decode cX6_named 14 = .ok (.invokevirtual 93, 3) := by decide +kernel
theorem dX6_named_17 : decode cX6_named 17 = .ok (.aload_n 0, 1) := by decide +kernel
theorem dX6_named_18 : decode cX6_named 18 = .ok (.getfield 21, 3) := by decide +kernel
theorem dX6_named_21 : decode cX6_named 21 = .ok (.iload_n 2, 1) := by decide +kernel
theorem dX6_named_22 : decode cX6_named 22 = .ok (.invokevirtual 142, 3) := by decide +kernel
theorem dX6_named_25 : decode cX6_named 25 = .ok (.ireturn, 1) := by decide +kernel
theorem dX6_same_0 : decode cX6_same 0 = .ok (.iload_n 1, 1) := by decide +kernel
theorem dX6_same_1 : decode cX6_same 1 = .ok (.invokestatic 52, 3) := by decide +kernel
theorem dX6_same_4 : decode cX6_same 4 = .ok (.ifCond .eq 10, 3) := by decide +kernel
theorem dX6_same_7 : decode cX6_same 7 = .ok (.iload_n 2, 1) := by decide +kernel
theorem dX6_same_8 : decode cX6_same 8 = .ok (.invokestatic 52, 3) := by decide +kernel
theorem dX6_same_11 : decode cX6_same 11 = .ok (.ifCond .ne 5, 3) := by decide +kernel
theorem dX6_same_14 : decode cX6_same 14 = .ok (.iconst (-1), 1) := by decide +kernel
theorem dX6_same_15 : decode cX6_same 15 = .ok (.ireturn, 1) := by decide +kernel
theorem dX6_same_16 : decode cX6_same 16 = .ok (.aload_n 0, 1) := by decide +kernel
theorem dX6_same_17 : decode cX6_same 17 = .ok (.getfield 12, 3) := by decide +kernel
theorem dX6_same_20 : decode cX6_same 20 = .ok (.iload_n 1, 1) := by decide +kernel
theorem dX6_same_21 : decode cX6_same 21 = .ok (.iload_n 2, 1) := by decide +kernel
theorem dX6_same_22 : decode cX6_same 22 = .ok (.invokevirtual 145, 3) := by decide +kernel
theorem dX6_same_25 : decode cX6_same 25 = .ok (.ifCond .eq 7, 3) := by decide +kernel
theorem dX6_same_28 : decode cX6_same 28 = .ok (.iconst 1, 1) := by decide +kernel
theorem dX6_same_29 : decode cX6_same 29 = .ok (.goto 4, 3) := by decide +kernel
theorem dX6_same_32 : decode cX6_same 32 = .ok (.iconst 0, 1) := by decide +kernel
theorem dX6_same_33 : decode cX6_same 33 = .ok (.ireturn, 1) := by decide +kernel
theorem dX6_count_0 : decode cX6_count 0 = .ok (.iload_n 1, 1) := by decide +kernel
theorem dX6_count_1 : decode cX6_count 1 = .ok (.tableswitch 61 0 3 #[31, 40, 45, 53], 31) := by decide +kernel
theorem dX6_count_32 : decode cX6_count 32 = .ok (.aload_n 0, 1) := by decide +kernel
theorem dX6_count_33 : decode cX6_count 33 = .ok (.getfield 12, 3) := by decide +kernel
theorem dX6_count_36 : decode cX6_count 36 = .ok (.iconst 0, 1) := by decide +kernel
theorem dX6_count_37 : decode cX6_count 37 = .ok (.invokevirtual 149, 3) := by decide +kernel
theorem dX6_count_40 : decode cX6_count 40 = .ok (.ireturn, 1) := by decide +kernel
theorem dX6_count_41 : decode cX6_count 41 = .ok (.aload_n 0, 1) := by decide +kernel
theorem dX6_count_42 : decode cX6_count 42 = .ok (.invokevirtual 152, 3) := by decide +kernel
theorem dX6_count_45 : decode cX6_count 45 = .ok (.ireturn, 1) := by decide +kernel
theorem dX6_count_46 : decode cX6_count 46 = .ok (.aload_n 0, 1) := by decide +kernel
theorem dX6_count_47 : decode cX6_count 47 = .ok (.getfield 44, 3) := by decide +kernel
theorem dX6_count_50 : decode cX6_count 50 = .ok (.invokevirtual 155, 3) := by decide +kernel
theorem dX6_count_53 : decode cX6_count 53 = .ok (.ireturn, 1) := by decide +kernel
theorem dX6_count_54 : decode cX6_count 54 = .ok (.aload_n 0, 1) := by decide +kernel
theorem dX6_count_55 : decode cX6_count 55 = .ok (.getfield 37, 3) := by decide +kernel
theorem dX6_count_58 : decode cX6_count 58 = .ok (.invokevirtual 157, 3) := by decide +kernel
theorem dX6_count_61 : decode cX6_count 61 = .ok (.ireturn, 1) := by decide +kernel
theorem dX6_count_62 : decode cX6_count 62 = .ok (.bipush (-2), 2) := by decide +kernel
theorem dX6_count_64 : decode cX6_count 64 = .ok (.ireturn, 1) := by decide +kernel
theorem dX6_ends_0 : decode cX6_ends 0 = .ok (.iload_n 1, 1) := by decide +kernel
theorem dX6_ends_1 : decode cX6_ends 1 = .ok (.invokestatic 52, 3) := by decide +kernel
theorem dX6_ends_4 : decode cX6_ends 4 = .ok (.ifCond .ne 5, 3) := by decide +kernel
theorem dX6_ends_7 : decode cX6_ends 7 = .ok (.iconst (-1), 1) := by decide +kernel
theorem dX6_ends_8 : decode cX6_ends 8 = .ok (.ireturn, 1) := by decide +kernel
theorem dX6_ends_9 : decode cX6_ends 9 = .ok (.iload_n 2, 1) := by decide +kernel
theorem dX6_ends_10 : decode cX6_ends 10 = .ok (.invokestatic 90, 3) := by decide +kernel
theorem dX6_ends_13 : decode cX6_ends 13 = .ok (.ifCond .eq 10, 3) := by decide +kernel
theorem dX6_ends_16 : decode cX6_ends 16 = .ok (.iload_n 3, 1) := by decide +kernel
theorem dX6_ends_17 : decode cX6_ends 17 = .ok (.invokestatic 105, 3) := by decide +kernel
theorem dX6_ends_20 : decode cX6_ends 20 = .ok (.ifCond .ne 6, 3) := by decide +kernel
theorem dX6_ends_23 : decode cX6_ends 23 = .ok (.bipush (-2), 2) := by decide +kernel
theorem dX6_ends_25 : decode cX6_ends 25 = .ok (.ireturn, 1) := by decide +kernel
theorem dX6_ends_26 : decode cX6_ends 26 = .ok (.aload_n 0, 1) := by decide +kernel
theorem dX6_ends_27 : decode cX6_ends 27 = .ok (.getfield 12, 3) := by decide +kernel
theorem dX6_ends_30 : decode cX6_ends 30 = .ok (.iload_n 1, 1) := by decide +kernel
theorem dX6_ends_31 : decode cX6_ends 31 = .ok (.bipush 54, 2) := by decide +kernel
theorem dX6_ends_33 : decode cX6_ends 33 = .ok (.invokevirtual 74, 3) := by decide +kernel
theorem dX6_ends_36 : decode cX6_ends 36 = .ok (.aload_n 0, 1) := by decide +kernel
theorem dX6_ends_37 : decode cX6_ends 37 = .ok (.getfield 30, 3) := by decide +kernel
theorem dX6_ends_40 : decode cX6_ends 40 = .ok (.bipush 54, 2) := by decide +kernel
theorem dX6_ends_42 : decode cX6_ends 42 = .ok (.iload_n 2, 1) := by decide +kernel
theorem dX6_ends_43 : decode cX6_ends 43 = .ok (.iload_n 3, 1) := by decide +kernel
theorem dX6_ends_44 : decode cX6_ends 44 = .ok (.invokevirtual 108, 3) := by decide +kernel
theorem dX6_ends_47 : decode cX6_ends 47 = .ok (.ifCond .eq 13, 3) := by decide +kernel
theorem dX6_ends_50 : decode cX6_ends 50 = .ok (.aload_n 0, 1) := by decide +kernel
theorem dX6_ends_51 : decode cX6_ends 51 = .ok (.getfield 30, 3) := by decide +kernel
theorem dX6_ends_54 : decode cX6_ends 54 = .ok (.invokevirtual 112, 3) := by decide +kernel
theorem dX6_ends_57 : decode cX6_ends 57 = .ok (.goto 5, 3) := by decide +kernel
theorem dX6_ends_60 : decode cX6_ends 60 = .ok (.bipush (-6), 2) := by decide +kernel
theorem dX6_ends_62 : decode cX6_ends 62 = .ok (.ireturn, 1) := by decide +kernel
theorem dX6_agree_0 : decode cX6_agree 0 = .ok (.iload_n 1, 1) := by decide +kernel
theorem dX6_agree_1 : decode cX6_agree 1 = .ok (.invokestatic 52, 3) := by decide +kernel
theorem dX6_agree_4 : decode cX6_agree 4 = .ok (.ifCond .ne 5, 3) := by decide +kernel
theorem dX6_agree_7 : decode cX6_agree 7 = .ok (.iconst (-1), 1) := by decide +kernel
theorem dX6_agree_8 : decode cX6_agree 8 = .ok (.ireturn, 1) := by decide +kernel
theorem dX6_agree_9 : decode cX6_agree 9 = .ok (.iload_n 2, 1) := by decide +kernel
theorem dX6_agree_10 : decode cX6_agree 10 = .ok (.invokestatic 105, 3) := by decide +kernel
theorem dX6_agree_13 : decode cX6_agree 13 = .ok (.ifCond .ne 6, 3) := by decide +kernel
theorem dX6_agree_16 : decode cX6_agree 16 = .ok (.bipush (-2), 2) := by decide +kernel
theorem dX6_agree_18 : decode cX6_agree 18 = .ok (.ireturn, 1) := by decide +kernel
theorem dX6_agree_19 : decode cX6_agree 19 = .ok (.aload_n 0, 1) := by decide +kernel
theorem dX6_agree_20 : decode cX6_agree 20 = .ok (.getfield 12, 3) := by decide +kernel
theorem dX6_agree_23 : decode cX6_agree 23 = .ok (.iload_n 1, 1) := by decide +kernel
theorem dX6_agree_24 : decode cX6_agree 24 = .ok (.bipush 54, 2) := by decide +kernel
theorem dX6_agree_26 : decode cX6_agree 26 = .ok (.invokevirtual 74, 3) := by decide +kernel
theorem dX6_agree_29 : decode cX6_agree 29 = .ok (.aload_n 0, 1) := by decide +kernel
theorem dX6_agree_30 : decode cX6_agree 30 = .ok (.getfield 12, 3) := by decide +kernel
theorem dX6_agree_33 : decode cX6_agree 33 = .ok (.iload_n 1, 1) := by decide +kernel
theorem dX6_agree_34 : decode cX6_agree 34 = .ok (.bipush 55, 2) := by decide +kernel
theorem dX6_agree_36 : decode cX6_agree 36 = .ok (.invokevirtual 74, 3) := by decide +kernel
theorem dX6_agree_39 : decode cX6_agree 39 = .ok (.aload_n 0, 1) := by decide +kernel
theorem dX6_agree_40 : decode cX6_agree 40 = .ok (.getfield 30, 3) := by decide +kernel
theorem dX6_agree_43 : decode cX6_agree 43 = .ok (.bipush 54, 2) := by decide +kernel
theorem dX6_agree_45 : decode cX6_agree 45 = .ok (.iconst 0, 1) := by decide +kernel
theorem dX6_agree_46 : decode cX6_agree 46 = .ok (.iload_n 2, 1) := by decide +kernel
theorem dX6_agree_47 : decode cX6_agree 47 = .ok (.invokevirtual 108, 3) := by decide +kernel
theorem dX6_agree_50 : decode cX6_agree 50 = .ok (.ifCond .eq 17, 3) := by decide +kernel
theorem dX6_agree_53 : decode cX6_agree 53 = .ok (.aload_n 0, 1) := by decide +kernel
theorem dX6_agree_54 : decode cX6_agree 54 = .ok (.getfield 30, 3) := by decide +kernel
theorem dX6_agree_57 : decode cX6_agree 57 = .ok (.bipush 55, 2) := by decide +kernel
theorem dX6_agree_59 : decode cX6_agree 59 = .ok (.iconst 1, 1) := by decide +kernel
theorem dX6_agree_60 : decode cX6_agree 60 = .ok (.iload_n 2, 1) := by decide +kernel
theorem dX6_agree_61 : decode cX6_agree 61 = .ok (.invokevirtual 108, 3) := by decide +kernel
theorem dX6_agree_64 : decode cX6_agree 64 = .ok (.ifCond .ne 6, 3) := by decide +kernel
theorem dX6_agree_67 : decode cX6_agree 67 = .ok (.bipush (-6), 2) := by decide +kernel
theorem dX6_agree_69 : decode cX6_agree 69 = .ok (.ireturn, 1) := by decide +kernel
theorem dX6_agree_70 : decode cX6_agree 70 = .ok (.aload_n 0, 1) := by decide +kernel
theorem dX6_agree_71 : decode cX6_agree 71 = .ok (.getfield 12, 3) := by decide +kernel
theorem dX6_agree_74 : decode cX6_agree 74 = .ok (.bipush 54, 2) := by decide +kernel
theorem dX6_agree_76 : decode cX6_agree 76 = .ok (.bipush 55, 2) := by decide +kernel
theorem dX6_agree_78 : decode cX6_agree 78 = .ok (.invokevirtual 145, 3) := by decide +kernel
theorem dX6_agree_81 : decode cX6_agree 81 = .ok (.ifCond .eq 7, 3) := by decide +kernel
theorem dX6_agree_84 : decode cX6_agree 84 = .ok (.iconst 1, 1) := by decide +kernel
theorem dX6_agree_85 : decode cX6_agree 85 = .ok (.goto 4, 3) := by decide +kernel
theorem dX6_agree_88 : decode cX6_agree 88 = .ok (.iconst 0, 1) := by decide +kernel
theorem dX6_agree_89 : decode cX6_agree 89 = .ok (.ireturn, 1) := by decide +kernel
theorem dX6_most_0 : decode cX6_most 0 = .ok (.iload_n 1, 1) := by decide +kernel
theorem dX6_most_1 : decode cX6_most 1 = .ok (.invokestatic 52, 3) := by decide +kernel
theorem dX6_most_4 : decode cX6_most 4 = .ok (.ifCond .ne 5, 3) := by decide +kernel
theorem dX6_most_7 : decode cX6_most 7 = .ok (.iconst (-1), 1) := by decide +kernel
theorem dX6_most_8 : decode cX6_most 8 = .ok (.ireturn, 1) := by decide +kernel
theorem dX6_most_9 : decode cX6_most 9 = .ok (.iload_n 2, 1) := by decide +kernel
theorem dX6_most_10 : decode cX6_most 10 = .ok (.invokestatic 90, 3) := by decide +kernel
theorem dX6_most_13 : decode cX6_most 13 = .ok (.ifCond .eq 10, 3) := by decide +kernel
theorem dX6_most_16 : decode cX6_most 16 = .ok (.iload_n 3, 1) := by decide +kernel
theorem dX6_most_17 : decode cX6_most 17 = .ok (.invokestatic 105, 3) := by decide +kernel
theorem dX6_most_20 : decode cX6_most 20 = .ok (.ifCond .ne 6, 3) := by decide +kernel
theorem dX6_most_23 : decode cX6_most 23 = .ok (.bipush (-2), 2) := by decide +kernel
theorem dX6_most_25 : decode cX6_most 25 = .ok (.ireturn, 1) := by decide +kernel
theorem dX6_most_26 : decode cX6_most 26 = .ok (.aload_n 0, 1) := by decide +kernel
theorem dX6_most_27 : decode cX6_most 27 = .ok (.getfield 12, 3) := by decide +kernel
theorem dX6_most_30 : decode cX6_most 30 = .ok (.iload_n 1, 1) := by decide +kernel
theorem dX6_most_31 : decode cX6_most 31 = .ok (.bipush 54, 2) := by decide +kernel
theorem dX6_most_33 : decode cX6_most 33 = .ok (.invokevirtual 74, 3) := by decide +kernel
theorem dX6_most_36 : decode cX6_most 36 = .ok (.aload_n 0, 1) := by decide +kernel
theorem dX6_most_37 : decode cX6_most 37 = .ok (.getfield 30, 3) := by decide +kernel
theorem dX6_most_40 : decode cX6_most 40 = .ok (.bipush 54, 2) := by decide +kernel
theorem dX6_most_42 : decode cX6_most 42 = .ok (.iload_n 2, 1) := by decide +kernel
theorem dX6_most_43 : decode cX6_most 43 = .ok (.iload_n 3, 1) := by decide +kernel
theorem dX6_most_44 : decode cX6_most 44 = .ok (.invokevirtual 108, 3) := by decide +kernel
theorem dX6_most_47 : decode cX6_most 47 = .ok (.pop, 1) := by decide +kernel
theorem dX6_most_48 : decode cX6_most 48 = .ok (.aload_n 0, 1) := by decide +kernel
theorem dX6_most_49 : decode cX6_most 49 = .ok (.getfield 30, 3) := by decide +kernel
theorem dX6_most_52 : decode cX6_most 52 = .ok (.invokevirtual 158, 3) := by decide +kernel
theorem dX6_most_55 : decode cX6_most 55 = .ok (.ireturn, 1) := by decide +kernel
theorem dX6_alike_0 : decode cX6_alike 0 = .ok (.iload_n 1, 1) := by decide +kernel
theorem dX6_alike_1 : decode cX6_alike 1 = .ok (.invokestatic 52, 3) := by decide +kernel
theorem dX6_alike_4 : decode cX6_alike 4 = .ok (.ifCond .eq 10, 3) := by decide +kernel
theorem dX6_alike_7 : decode cX6_alike 7 = .ok (.iload_n 2, 1) := by decide +kernel
theorem dX6_alike_8 : decode cX6_alike 8 = .ok (.invokestatic 52, 3) := by decide +kernel
theorem dX6_alike_11 : decode cX6_alike 11 = .ok (.ifCond .ne 5, 3) := by decide +kernel
theorem dX6_alike_14 : decode cX6_alike 14 = .ok (.iconst (-1), 1) := by decide +kernel
theorem dX6_alike_15 : decode cX6_alike 15 = .ok (.ireturn, 1) := by decide +kernel
theorem dX6_alike_16 : decode cX6_alike 16 = .ok (.iload_n 3, 1) := by decide +kernel
theorem dX6_alike_17 : decode cX6_alike 17 = .ok (.invokestatic 105, 3) := by decide +kernel
theorem dX6_alike_20 : decode cX6_alike 20 = .ok (.ifCond .ne 6, 3) := by decide +kernel
theorem dX6_alike_23 : decode cX6_alike 23 = .ok (.bipush (-2), 2) := by decide +kernel
theorem dX6_alike_25 : decode cX6_alike 25 = .ok (.ireturn, 1) := by decide +kernel
theorem dX6_alike_26 : decode cX6_alike 26 = .ok (.aload_n 0, 1) := by decide +kernel
theorem dX6_alike_27 : decode cX6_alike 27 = .ok (.getfield 12, 3) := by decide +kernel
theorem dX6_alike_30 : decode cX6_alike 30 = .ok (.iload_n 1, 1) := by decide +kernel
theorem dX6_alike_31 : decode cX6_alike 31 = .ok (.bipush 54, 2) := by decide +kernel
theorem dX6_alike_33 : decode cX6_alike 33 = .ok (.invokevirtual 74, 3) := by decide +kernel
theorem dX6_alike_36 : decode cX6_alike 36 = .ok (.aload_n 0, 1) := by decide +kernel
theorem dX6_alike_37 : decode cX6_alike 37 = .ok (.getfield 12, 3) := by decide +kernel
theorem dX6_alike_40 : decode cX6_alike 40 = .ok (.iload_n 2, 1) := by decide +kernel
theorem dX6_alike_41 : decode cX6_alike 41 = .ok (.bipush 55, 2) := by decide +kernel
theorem dX6_alike_43 : decode cX6_alike 43 = .ok (.invokevirtual 74, 3) := by decide +kernel
theorem dX6_alike_46 : decode cX6_alike 46 = .ok (.aload_n 0, 1) := by decide +kernel
theorem dX6_alike_47 : decode cX6_alike 47 = .ok (.getfield 30, 3) := by decide +kernel
theorem dX6_alike_50 : decode cX6_alike 50 = .ok (.bipush 54, 2) := by decide +kernel
theorem dX6_alike_52 : decode cX6_alike 52 = .ok (.iconst 0, 1) := by decide +kernel
theorem dX6_alike_53 : decode cX6_alike 53 = .ok (.iload_n 3, 1) := by decide +kernel
theorem dX6_alike_54 : decode cX6_alike 54 = .ok (.invokevirtual 108, 3) := by decide +kernel
theorem dX6_alike_57 : decode cX6_alike 57 = .ok (.ifCond .eq 17, 3) := by decide +kernel
theorem dX6_alike_60 : decode cX6_alike 60 = .ok (.aload_n 0, 1) := by decide +kernel
theorem dX6_alike_61 : decode cX6_alike 61 = .ok (.getfield 30, 3) := by decide +kernel
theorem dX6_alike_64 : decode cX6_alike 64 = .ok (.bipush 55, 2) := by decide +kernel
theorem dX6_alike_66 : decode cX6_alike 66 = .ok (.iconst 0, 1) := by decide +kernel
theorem dX6_alike_67 : decode cX6_alike 67 = .ok (.iload_n 3, 1) := by decide +kernel
theorem dX6_alike_68 : decode cX6_alike 68 = .ok (.invokevirtual 108, 3) := by decide +kernel
theorem dX6_alike_71 : decode cX6_alike 71 = .ok (.ifCond .ne 6, 3) := by decide +kernel
theorem dX6_alike_74 : decode cX6_alike 74 = .ok (.bipush (-6), 2) := by decide +kernel
theorem dX6_alike_76 : decode cX6_alike 76 = .ok (.ireturn, 1) := by decide +kernel
theorem dX6_alike_77 : decode cX6_alike 77 = .ok (.aload_n 0, 1) := by decide +kernel
theorem dX6_alike_78 : decode cX6_alike 78 = .ok (.getfield 12, 3) := by decide +kernel
theorem dX6_alike_81 : decode cX6_alike 81 = .ok (.bipush 54, 2) := by decide +kernel
theorem dX6_alike_83 : decode cX6_alike 83 = .ok (.bipush 55, 2) := by decide +kernel
theorem dX6_alike_85 : decode cX6_alike 85 = .ok (.invokevirtual 145, 3) := by decide +kernel
theorem dX6_alike_88 : decode cX6_alike 88 = .ok (.ifCond .eq 7, 3) := by decide +kernel
theorem dX6_alike_91 : decode cX6_alike 91 = .ok (.iconst 1, 1) := by decide +kernel
theorem dX6_alike_92 : decode cX6_alike 92 = .ok (.goto 4, 3) := by decide +kernel
theorem dX6_alike_95 : decode cX6_alike 95 = .ok (.iconst 0, 1) := by decide +kernel
theorem dX6_alike_96 : decode cX6_alike 96 = .ok (.ireturn, 1) := by decide +kernel
theorem dX6_put_0 : decode cX6_put 0 = .ok (.lload_n 1, 1) := by decide +kernel
theorem dX6_put_1 : decode cX6_put 1 = .ok (.invokestatic 161, 3) := by decide +kernel
theorem dX6_put_4 : decode cX6_put 4 = .ok (.istore_n 3, 1) := by decide +kernel
theorem dX6_put_5 : decode cX6_put 5 = .ok (.iload_n 3, 1) := by decide +kernel
theorem dX6_put_6 : decode cX6_put 6 = .ok (.ifCond .ne 6, 3) := by decide +kernel
theorem dX6_put_9 : decode cX6_put 9 = .ok (.bipush (-2), 2) := by decide +kernel
theorem dX6_put_11 : decode cX6_put 11 = .ok (.ireturn, 1) := by decide +kernel
theorem dX6_put_12 : decode cX6_put 12 = .ok (.aload_n 0, 1) := by decide +kernel
theorem dX6_put_13 : decode cX6_put 13 = .ok (.getfield 44, 3) := by decide +kernel
theorem dX6_put_16 : decode cX6_put 16 = .ok (.invokevirtual 155, 3) := by decide +kernel
theorem dX6_put_19 : decode cX6_put 19 = .ok (.iload_n 3, 1) := by decide +kernel
theorem dX6_put_20 : decode cX6_put 20 = .ok (.iadd, 1) := by decide +kernel
theorem dX6_put_21 : decode cX6_put 21 = .ok (.bipush 60, 2) := by decide +kernel
theorem dX6_put_23 : decode cX6_put 23 = .ok (.if_icmp .le 6, 3) := by decide +kernel
theorem dX6_put_26 : decode cX6_put 26 = .ok (.bipush (-4), 2) := by decide +kernel
theorem dX6_put_28 : decode cX6_put 28 = .ok (.ireturn, 1) := by decide +kernel
theorem dX6_put_29 : decode cX6_put 29 = .ok (.aload_n 0, 1) := by decide +kernel
theorem dX6_put_30 : decode cX6_put 30 = .ok (.getfield 44, 3) := by decide +kernel
theorem dX6_put_33 : decode cX6_put 33 = .ok (.lload_n 1, 1) := by decide +kernel
theorem dX6_put_34 : decode cX6_put 34 = .ok (.iload_n 3, 1) := by decide +kernel
theorem dX6_put_35 : decode cX6_put 35 = .ok (.invokevirtual 165, 3) := by decide +kernel
theorem dX6_put_38 : decode cX6_put 38 = .ok (.aload_n 0, 1) := by decide +kernel
theorem dX6_put_39 : decode cX6_put 39 = .ok (.getfield 44, 3) := by decide +kernel
theorem dX6_put_42 : decode cX6_put 42 = .ok (.invokevirtual 155, 3) := by decide +kernel
theorem dX6_put_45 : decode cX6_put 45 = .ok (.ireturn, 1) := by decide +kernel
theorem dX6_wipe_0 : decode cX6_wipe 0 = .ok (.aload_n 0, 1) := by decide +kernel
theorem dX6_wipe_1 : decode cX6_wipe 1 = .ok (.getfield 44, 3) := by decide +kernel
theorem dX6_wipe_4 : decode cX6_wipe 4 = .ok (.invokevirtual 155, 3) := by decide +kernel
theorem dX6_wipe_7 : decode cX6_wipe 7 = .ok (.istore_n 1, 1) := by decide +kernel
theorem dX6_wipe_8 : decode cX6_wipe 8 = .ok (.aload_n 0, 1) := by decide +kernel
theorem dX6_wipe_9 : decode cX6_wipe 9 = .ok (.getfield 44, 3) := by decide +kernel
theorem dX6_wipe_12 : decode cX6_wipe 12 = .ok (.invokevirtual 67, 3) := by decide +kernel
theorem dX6_wipe_15 : decode cX6_wipe 15 = .ok (.iload_n 1, 1) := by decide +kernel
theorem dX6_wipe_16 : decode cX6_wipe 16 = .ok (.ireturn, 1) := by decide +kernel
theorem dX6_fault_0 : decode cX6_fault 0 = .ok (.aload_n 0, 1) := by decide +kernel
theorem dX6_fault_1 : decode cX6_fault 1 = .ok (.getfield 44, 3) := by decide +kernel
theorem dX6_fault_4 : decode cX6_fault 4 = .ok (.invokevirtual 56, 3) := by decide +kernel
theorem dX6_fault_7 : decode cX6_fault 7 = .ok (.ireturn, 1) := by decide +kernel
theorem dX6_undo_0 : decode cX6_undo 0 = .ok (.aload_n 0, 1) := by decide +kernel
theorem dX6_undo_1 : decode cX6_undo 1 = .ok (.getfield 37, 3) := by decide +kernel
theorem dX6_undo_4 : decode cX6_undo 4 = .ok (.invokevirtual 157, 3) := by decide +kernel
theorem dX6_undo_7 : decode cX6_undo 7 = .ok (.ifCond .ne 6, 3) := by decide +kernel
theorem dX6_undo_10 : decode cX6_undo 10 = .ok (.bipush (-5), 2) := by decide +kernel
theorem dX6_undo_12 : decode cX6_undo 12 = .ok (.ireturn, 1) := by decide +kernel
theorem dX6_undo_13 : decode cX6_undo 13 = .ok (.aload_n 0, 1) := by decide +kernel
theorem dX6_undo_14 : decode cX6_undo 14 = .ok (.getfield 37, 3) := by decide +kernel
theorem dX6_undo_17 : decode cX6_undo 17 = .ok (.invokevirtual 168, 3) := by decide +kernel
theorem dX6_undo_20 : decode cX6_undo 20 = .ok (.aload_n 0, 1) := by decide +kernel
theorem dX6_undo_21 : decode cX6_undo 21 = .ok (.getfield 37, 3) := by decide +kernel
theorem dX6_undo_24 : decode cX6_undo 24 = .ok (.invokevirtual 157, 3) := by decide +kernel
theorem dX6_undo_27 : decode cX6_undo 27 = .ok (.ireturn, 1) := by decide +kernel
theorem dX6_save_0 : decode cX6_save 0 = .ok (.iload_n 1, 1) := by decide +kernel
theorem dX6_save_1 : decode cX6_save 1 = .ok (.invokestatic 171, 3) := by decide +kernel
theorem dX6_save_4 : decode cX6_save 4 = .ok (.ifCond .ne 6, 3) := by decide +kernel
theorem dX6_save_7 : decode cX6_save 7 = .ok (.bipush (-2), 2) := by decide +kernel
theorem dX6_save_9 : decode cX6_save 9 = .ok (.ireturn, 1) := by decide +kernel
theorem dX6_save_10 : decode cX6_save 10 = .ok (.aload_n 0, 1) := by decide +kernel
theorem dX6_save_11 : decode cX6_save 11 = .ok (.getfield 12, 3) := by decide +kernel
theorem dX6_save_14 : decode cX6_save 14 = .ok (.iconst 0, 1) := by decide +kernel
theorem dX6_save_15 : decode cX6_save 15 = .ok (.bipush 7, 2) := by decide +kernel
theorem dX6_save_17 : decode cX6_save 17 = .ok (.iload_n 1, 1) := by decide +kernel
theorem dX6_save_18 : decode cX6_save 18 = .ok (.iadd, 1) := by decide +kernel
theorem dX6_save_19 : decode cX6_save 19 = .ok (.invokevirtual 174, 3) := by decide +kernel
theorem dX6_save_22 : decode cX6_save 22 = .ok (.aload_n 0, 1) := by decide +kernel
theorem dX6_save_23 : decode cX6_save 23 = .ok (.getfield 12, 3) := by decide +kernel
theorem dX6_save_26 : decode cX6_save 26 = .ok (.iconst 0, 1) := by decide +kernel
theorem dX6_save_27 : decode cX6_save 27 = .ok (.invokevirtual 149, 3) := by decide +kernel
theorem dX6_save_30 : decode cX6_save 30 = .ok (.ireturn, 1) := by decide +kernel
theorem dX6_restore_0 : decode cX6_restore 0 = .ok (.iload_n 1, 1) := by decide +kernel
theorem dX6_restore_1 : decode cX6_restore 1 = .ok (.invokestatic 171, 3) := by decide +kernel
theorem dX6_restore_4 : decode cX6_restore 4 = .ok (.ifCond .ne 6, 3) := by decide +kernel
theorem dX6_restore_7 : decode cX6_restore 7 = .ok (.bipush (-2), 2) := by decide +kernel
theorem dX6_restore_9 : decode cX6_restore 9 = .ok (.ireturn, 1) := by decide +kernel
theorem dX6_restore_10 : decode cX6_restore 10 = .ok (.aload_n 0, 1) := by decide +kernel
theorem dX6_restore_11 : decode cX6_restore 11 = .ok (.getfield 12, 3) := by decide +kernel
theorem dX6_restore_14 : decode cX6_restore 14 = .ok (.bipush 7, 2) := by decide +kernel
theorem dX6_restore_16 : decode cX6_restore 16 = .ok (.iload_n 1, 1) := by decide +kernel
theorem dX6_restore_17 : decode cX6_restore 17 = .ok (.iadd, 1) := by decide +kernel
theorem dX6_restore_18 : decode cX6_restore 18 = .ok (.invokevirtual 149, 3) := by decide +kernel
theorem dX6_restore_21 : decode cX6_restore 21 = .ok (.ifCond .ne 6, 3) := by decide +kernel
theorem dX6_restore_24 : decode cX6_restore 24 = .ok (.bipush (-5), 2) := by decide +kernel
theorem dX6_restore_26 : decode cX6_restore 26 = .ok (.ireturn, 1) := by decide +kernel
theorem dX6_restore_27 : decode cX6_restore 27 = .ok (.aload_n 0, 1) := by decide +kernel
theorem dX6_restore_28 : decode cX6_restore 28 = .ok (.getfield 37, 3) := by decide +kernel
theorem dX6_restore_31 : decode cX6_restore 31 = .ok (.invokevirtual 60, 3) := by decide +kernel
theorem dX6_restore_34 : decode cX6_restore 34 = .ok (.aload_n 0, 1) := by decide +kernel
theorem dX6_restore_35 : decode cX6_restore 35 = .ok (.getfield 12, 3) := by decide +kernel
theorem dX6_restore_38 : decode cX6_restore 38 = .ok (.bipush 7, 2) := by decide +kernel
theorem dX6_restore_40 : decode cX6_restore 40 = .ok (.iload_n 1, 1) := by decide +kernel
theorem dX6_restore_41 : decode cX6_restore 41 = .ok (.iadd, 1) := by decide +kernel
theorem dX6_restore_42 : decode cX6_restore 42 = .ok (.iconst 0, 1) := by decide +kernel
theorem dX6_restore_43 : decode cX6_restore 43 = .ok (.invokevirtual 174, 3) := by decide +kernel
theorem dX6_restore_46 : decode cX6_restore 46 = .ok (.aload_n 0, 1) := by decide +kernel
theorem dX6_restore_47 : decode cX6_restore 47 = .ok (.getfield 12, 3) := by decide +kernel
theorem dX6_restore_50 : decode cX6_restore 50 = .ok (.iconst 0, 1) := by decide +kernel
theorem dX6_restore_51 : decode cX6_restore 51 = .ok (.invokevirtual 149, 3) := by decide +kernel
theorem dX6_restore_54 : decode cX6_restore 54 = .ok (.ireturn, 1) := by decide +kernel
theorem dX6_isRegister_0 : decode cX6_isRegister 0 = .ok (.iload_n 0, 1) := by decide +kernel
theorem dX6_isRegister_1 : decode cX6_isRegister 1 = .ok (.ifCond .lt 13, 3) := by decide +kernel
theorem dX6_isRegister_4 : decode cX6_isRegister 4 = .ok (.iload_n 0, 1) := by decide +kernel
theorem dX6_isRegister_5 : decode cX6_isRegister 5 = .ok (.bipush 6, 2) := by decide +kernel
theorem dX6_isRegister_7 : decode cX6_isRegister 7 = .ok (.if_icmp .ge 7, 3) := by decide +kernel
theorem dX6_isRegister_10 : decode cX6_isRegister 10 = .ok (.iconst 1, 1) := by decide +kernel
theorem dX6_isRegister_11 : decode cX6_isRegister 11 = .ok (.goto 4, 3) := by decide +kernel
theorem dX6_isRegister_14 : decode cX6_isRegister 14 = .ok (.iconst 0, 1) := by decide +kernel
theorem dX6_isRegister_15 : decode cX6_isRegister 15 = .ok (.ireturn, 1) := by decide +kernel
theorem dX6_isOrder_0 : decode cX6_isOrder 0 = .ok (.iload_n 0, 1) := by decide +kernel
theorem dX6_isOrder_1 : decode cX6_isOrder 1 = .ok (.ifCond .lt 12, 3) := by decide +kernel
theorem dX6_isOrder_4 : decode cX6_isOrder 4 = .ok (.iload_n 0, 1) := by decide +kernel
theorem dX6_isOrder_5 : decode cX6_isOrder 5 = .ok (.iconst 2, 1) := by decide +kernel
theorem dX6_isOrder_6 : decode cX6_isOrder 6 = .ok (.if_icmp .gt 7, 3) := by decide +kernel
theorem dX6_isOrder_9 : decode cX6_isOrder 9 = .ok (.iconst 1, 1) := by decide +kernel
theorem dX6_isOrder_10 : decode cX6_isOrder 10 = .ok (.goto 4, 3) := by decide +kernel
theorem dX6_isOrder_13 : decode cX6_isOrder 13 = .ok (.iconst 0, 1) := by decide +kernel
theorem dX6_isOrder_14 : decode cX6_isOrder 14 = .ok (.ireturn, 1) := by decide +kernel
theorem dX6_isFuel_0 : decode cX6_isFuel 0 = .ok (.iload_n 0, 1) := by decide +kernel
theorem dX6_isFuel_1 : decode cX6_isFuel 1 = .ok (.iconst 1, 1) := by decide +kernel
theorem dX6_isFuel_2 : decode cX6_isFuel 2 = .ok (.if_icmp .lt 14, 3) := by decide +kernel
theorem dX6_isFuel_5 : decode cX6_isFuel 5 = .ok (.iload_n 0, 1) := by decide +kernel
theorem dX6_isFuel_6 : decode cX6_isFuel 6 = .ok (.sipush 200, 3) := by decide +kernel
theorem dX6_isFuel_9 : decode cX6_isFuel 9 = .ok (.if_icmp .gt 7, 3) := by decide +kernel
theorem dX6_isFuel_12 : decode cX6_isFuel 12 = .ok (.iconst 1, 1) := by decide +kernel
theorem dX6_isFuel_13 : decode cX6_isFuel 13 = .ok (.goto 4, 3) := by decide +kernel
theorem dX6_isFuel_16 : decode cX6_isFuel 16 = .ok (.iconst 0, 1) := by decide +kernel
theorem dX6_isFuel_17 : decode cX6_isFuel 17 = .ok (.ireturn, 1) := by decide +kernel
theorem dX6_isSlot_0 : decode cX6_isSlot 0 = .ok (.iload_n 0, 1) := by decide +kernel
theorem dX6_isSlot_1 : decode cX6_isSlot 1 = .ok (.ifCond .lt 12, 3) := by decide +kernel
theorem dX6_isSlot_4 : decode cX6_isSlot 4 = .ok (.iload_n 0, 1) := by decide +kernel
theorem dX6_isSlot_5 : decode cX6_isSlot 5 = .ok (.iconst 2, 1) := by decide +kernel
theorem dX6_isSlot_6 : decode cX6_isSlot 6 = .ok (.if_icmp .ge 7, 3) := by decide +kernel
theorem dX6_isSlot_9 : decode cX6_isSlot 9 = .ok (.iconst 1, 1) := by decide +kernel
theorem dX6_isSlot_10 : decode cX6_isSlot 10 = .ok (.goto 4, 3) := by decide +kernel
theorem dX6_isSlot_13 : decode cX6_isSlot 13 = .ok (.iconst 0, 1) := by decide +kernel
theorem dX6_isSlot_14 : decode cX6_isSlot 14 = .ok (.ireturn, 1) := by decide +kernel
theorem dX6_draftFunction_0 : decode cX6_draftFunction 0 = .ok (.aload_n 0, 1) := by decide +kernel
theorem dX6_draftFunction_1 : decode cX6_draftFunction 1 = .ok (.getfield 21, 3) := by decide +kernel
theorem dX6_draftFunction_4 : decode cX6_draftFunction 4 = .ok (.iload_n 1, 1) := by decide +kernel
theorem dX6_draftFunction_5 : decode cX6_draftFunction 5 = .ok (.invokevirtual 93, 3) := by decide +kernel
theorem dX6_draftFunction_8 : decode cX6_draftFunction 8 = .ok (.aload_n 0, 1) := by decide +kernel
theorem dX6_draftFunction_9 : decode cX6_draftFunction 9 = .ok (.getfield 12, 3) := by decide +kernel
theorem dX6_draftFunction_12 : decode cX6_draftFunction 12 = .ok (.bipush 56, 2) := by decide +kernel
theorem dX6_draftFunction_14 : decode cX6_draftFunction 14 = .ok (.invokevirtual 78, 3) := by decide +kernel
theorem dX6_draftFunction_17 : decode cX6_draftFunction 17 = .ok (.aload_n 0, 1) := by decide +kernel
theorem dX6_draftFunction_18 : decode cX6_draftFunction 18 = .ok (.getfield 12, 3) := by decide +kernel
theorem dX6_draftFunction_21 : decode cX6_draftFunction 21 = .ok (.bipush 56, 2) := by decide +kernel
theorem dX6_draftFunction_23 : decode cX6_draftFunction 23 = .ok (.iconst 2, 1) := by decide +kernel
theorem dX6_draftFunction_24 : decode cX6_draftFunction 24 = .ok (.iconst 0, 1) := by decide +kernel
theorem dX6_draftFunction_25 : decode cX6_draftFunction 25 = .ok (.invokevirtual 48, 3) := by decide +kernel
theorem dX6_draftFunction_28 : decode cX6_draftFunction 28 = .ok (.iconst 0, 1) := by decide +kernel
theorem dX6_draftFunction_29 : decode cX6_draftFunction 29 = .ok (.istore_n 3, 1) := by decide +kernel
theorem dX6_draftFunction_30 : decode cX6_draftFunction 30 = .ok (.iconst 0, 1) := by decide +kernel
theorem dX6_draftFunction_31 : decode cX6_draftFunction 31 = .ok (.istore 4, 2) := by decide +kernel
theorem dX6_draftFunction_33 : decode cX6_draftFunction 33 = .ok (.iload 4, 2) := by decide +kernel
theorem dX6_draftFunction_35 : decode cX6_draftFunction 35 = .ok (.aload_n 0, 1) := by decide +kernel
theorem dX6_draftFunction_36 : decode cX6_draftFunction 36 = .ok (.getfield 12, 3) := by decide +kernel
theorem dX6_draftFunction_39 : decode cX6_draftFunction 39 = .ok (.iload_n 1, 1) := by decide +kernel
theorem dX6_draftFunction_40 : decode cX6_draftFunction 40 = .ok (.invokevirtual 70, 3) := by decide +kernel
theorem dX6_draftFunction_43 : decode cX6_draftFunction 43 = .ok (.if_icmp .ge 83, 3) := by decide +kernel
theorem dX6_draftFunction_46 : decode cX6_draftFunction 46 = .ok (.aload_n 0, 1) := by decide +kernel
theorem dX6_draftFunction_47 : decode cX6_draftFunction 47 = .ok (.getfield 12, 3) := by decide +kernel
theorem dX6_draftFunction_50 : decode cX6_draftFunction 50 = .ok (.iload_n 1, 1) := by decide +kernel
theorem dX6_draftFunction_51 : decode cX6_draftFunction 51 = .ok (.iload 4, 2) := by decide +kernel
theorem dX6_draftFunction_53 : decode cX6_draftFunction 53 = .ok (.invokevirtual 127, 3) := by decide +kernel
theorem dX6_draftFunction_56 : decode cX6_draftFunction 56 = .ok (.istore 5, 2) := by decide +kernel
theorem dX6_draftFunction_58 : decode cX6_draftFunction 58 = .ok (.aload_n 0, 1) := by decide +kernel
theorem dX6_draftFunction_59 : decode cX6_draftFunction 59 = .ok (.getfield 12, 3) := by decide +kernel
theorem dX6_draftFunction_62 : decode cX6_draftFunction 62 = .ok (.iload_n 1, 1) := by decide +kernel
theorem dX6_draftFunction_63 : decode cX6_draftFunction 63 = .ok (.iload 4, 2) := by decide +kernel
theorem dX6_draftFunction_65 : decode cX6_draftFunction 65 = .ok (.invokevirtual 130, 3) := by decide +kernel
theorem dX6_draftFunction_68 : decode cX6_draftFunction 68 = .ok (.istore 6, 2) := by decide +kernel
theorem dX6_draftFunction_70 : decode cX6_draftFunction 70 = .ok (.iload 5, 2) := by decide +kernel
theorem dX6_draftFunction_72 : decode cX6_draftFunction 72 = .ok (.iconst 1, 1) := by decide +kernel
theorem dX6_draftFunction_73 : decode cX6_draftFunction 73 = .ok (.if_icmp .ne 34, 3) := by decide +kernel
theorem dX6_draftFunction_76 : decode cX6_draftFunction 76 = .ok (.iload 6, 2) := by decide +kernel
theorem dX6_draftFunction_78 : decode cX6_draftFunction 78 = .ok (.iload_n 2, 1) := by decide +kernel
theorem dX6_draftFunction_79 : decode cX6_draftFunction 79 = .ok (.if_icmp .ne 28, 3) := by decide +kernel
theorem dX6_draftFunction_82 : decode cX6_draftFunction 82 = .ok (.aload_n 0, 1) := by decide +kernel
theorem dX6_draftFunction_83 : decode cX6_draftFunction 83 = .ok (.getfield 12, 3) := by decide +kernel
theorem dX6_draftFunction_86 : decode cX6_draftFunction 86 = .ok (.bipush 56, 2) := by decide +kernel
theorem dX6_draftFunction_88 : decode cX6_draftFunction 88 = .ok (.iconst 0, 1) := by decide +kernel
theorem dX6_draftFunction_89 : decode cX6_draftFunction 89 = .ok (.aload_n 0, 1) := by decide +kernel
theorem dX6_draftFunction_90 : decode cX6_draftFunction 90 = .ok (.getfield 21, 3) := by decide +kernel
theorem dX6_draftFunction_93 : decode cX6_draftFunction 93 = .ok (.iload 4, 2) := by decide +kernel
theorem dX6_draftFunction_95 : decode cX6_draftFunction 95 = .ok (.invokevirtual 133, 3) := by decide +kernel
theorem dX6_draftFunction_98 : decode cX6_draftFunction 98 = .ok (.invokevirtual 48, 3) := by decide +kernel
theorem dX6_draftFunction_101 : decode cX6_draftFunction 101 = .ok (.iinc 3 1, 3) := by decide +kernel
theorem dX6_draftFunction_104 : decode cX6_draftFunction 104 = .ok (.goto 16, 3) := by decide +kernel
theorem dX6_draftFunction_107 : decode cX6_draftFunction 107 = .ok (.aload_n 0, 1) := by decide +kernel
theorem dX6_draftFunction_108 : decode cX6_draftFunction 108 = .ok (.getfield 12, 3) := by decide +kernel
theorem dX6_draftFunction_111 : decode cX6_draftFunction 111 = .ok (.bipush 56, 2) := by decide +kernel
theorem dX6_draftFunction_113 : decode cX6_draftFunction 113 = .ok (.iload 5, 2) := by decide +kernel
theorem dX6_draftFunction_115 : decode cX6_draftFunction 115 = .ok (.iload 6, 2) := by decide +kernel
theorem dX6_draftFunction_117 : decode cX6_draftFunction 117 = .ok (.invokevirtual 48, 3) := by decide +kernel
theorem dX6_draftFunction_120 : decode cX6_draftFunction 120 = .ok (.iinc 4 1, 3) := by decide +kernel
theorem dX6_draftFunction_123 : decode cX6_draftFunction 123 = .ok (.goto (-90), 3) := by decide +kernel
theorem dX6_draftFunction_126 : decode cX6_draftFunction 126 = .ok (.iload_n 3, 1) := by decide +kernel
theorem dX6_draftFunction_127 : decode cX6_draftFunction 127 = .ok (.ireturn, 1) := by decide +kernel
theorem dX6_registersAtRest_0 : decode cX6_registersAtRest 0 = .ok (.iconst 0, 1) := by decide +kernel
theorem dX6_registersAtRest_1 : decode cX6_registersAtRest 1 = .ok (.istore_n 1, 1) := by decide +kernel
theorem dX6_registersAtRest_2 : decode cX6_registersAtRest 2 = .ok (.iconst 0, 1) := by decide +kernel
theorem dX6_registersAtRest_3 : decode cX6_registersAtRest 3 = .ok (.istore_n 2, 1) := by decide +kernel
theorem dX6_registersAtRest_4 : decode cX6_registersAtRest 4 = .ok (.iload_n 2, 1) := by decide +kernel
theorem dX6_registersAtRest_5 : decode cX6_registersAtRest 5 = .ok (.bipush 6, 2) := by decide +kernel
theorem dX6_registersAtRest_7 : decode cX6_registersAtRest 7 = .ok (.if_icmp .ge 36, 3) := by decide +kernel
theorem dX6_registersAtRest_10 : decode cX6_registersAtRest 10 = .ok (.aload_n 0, 1) := by decide +kernel
theorem dX6_registersAtRest_11 : decode cX6_registersAtRest 11 = .ok (.getfield 21, 3) := by decide +kernel
theorem dX6_registersAtRest_14 : decode cX6_registersAtRest 14 = .ok (.iload_n 2, 1) := by decide +kernel
theorem dX6_registersAtRest_15 : decode cX6_registersAtRest 15 = .ok (.invokevirtual 93, 3) := by decide +kernel
theorem dX6_registersAtRest_18 : decode cX6_registersAtRest 18 = .ok (.aload_n 0, 1) := by decide +kernel
theorem dX6_registersAtRest_19 : decode cX6_registersAtRest 19 = .ok (.getfield 21, 3) := by decide +kernel
theorem dX6_registersAtRest_22 : decode cX6_registersAtRest 22 = .ok (.iconst 0, 1) := by decide +kernel
theorem dX6_registersAtRest_23 : decode cX6_registersAtRest 23 = .ok (.invokevirtual 96, 3) := by decide +kernel
theorem dX6_registersAtRest_26 : decode cX6_registersAtRest 26 = .ok (.bipush (-6), 2) := by decide +kernel
theorem dX6_registersAtRest_28 : decode cX6_registersAtRest 28 = .ok (.if_icmp .ne 9, 3) := by decide +kernel
theorem dX6_registersAtRest_31 : decode cX6_registersAtRest 31 = .ok (.iload_n 1, 1) := by decide +kernel
theorem dX6_registersAtRest_32 : decode cX6_registersAtRest 32 = .ok (.iconst 1, 1) := by decide +kernel
theorem dX6_registersAtRest_33 : decode cX6_registersAtRest 33 = .ok (.iload_n 2, 1) := by decide +kernel
theorem dX6_registersAtRest_34 : decode cX6_registersAtRest 34 = .ok (.ishl, 1) := by decide +kernel
theorem dX6_registersAtRest_35 : decode cX6_registersAtRest 35 = .ok (.ior, 1) := by decide +kernel
theorem dX6_registersAtRest_36 : decode cX6_registersAtRest 36 = .ok (.istore_n 1, 1) := by decide +kernel
theorem dX6_registersAtRest_37 : decode cX6_registersAtRest 37 = .ok (.iinc 2 1, 3) := by decide +kernel
theorem dX6_registersAtRest_40 : decode cX6_registersAtRest 40 = .ok (.goto (-36), 3) := by decide +kernel
theorem dX6_registersAtRest_43 : decode cX6_registersAtRest 43 = .ok (.iload_n 1, 1) := by decide +kernel
theorem dX6_registersAtRest_44 : decode cX6_registersAtRest 44 = .ok (.ireturn, 1) := by decide +kernel
theorem dX7_init_0 : decode cX7_init 0 = .ok (.aload_n 0, 1) := by decide +kernel
theorem dX7_init_1 : decode cX7_init 1 = .ok (.invokespecial 1, 3) := by decide +kernel
theorem dX7_init_4 : decode cX7_init 4 = .ok (.aload_n 0, 1) := by decide +kernel
theorem dX7_init_5 : decode cX7_init 5 = .ok (.sipush 1206, 3) := by decide +kernel
theorem dX7_init_8 : decode cX7_init 8 = .ok (.newarray .int, 2) := by decide +kernel
theorem dX7_init_10 : decode cX7_init 10 = .ok (.putfield 7, 3) := by decide +kernel
theorem dX7_init_13 : decode cX7_init 13 = .ok (.aload_n 0, 1) := by decide +kernel
theorem dX7_init_14 : decode cX7_init 14 = .ok (.sipush 7236, 3) := by decide +kernel
theorem dX7_init_17 : decode cX7_init 17 = .ok (.newarray .int, 2) := by decide +kernel
theorem dX7_init_19 : decode cX7_init 19 = .ok (.putfield 13, 3) := by decide +kernel
theorem dX7_init_22 : decode cX7_init 22 = .ok (.aload_n 0, 1) := by decide +kernel
theorem dX7_init_23 : decode cX7_init 23 = .ok (.sipush 2412, 3) := by decide +kernel
theorem dX7_init_26 : decode cX7_init 26 = .ok (.newarray .int, 2) := by decide +kernel
theorem dX7_init_28 : decode cX7_init 28 = .ok (.putfield 16, 3) := by decide +kernel
theorem dX7_init_31 : decode cX7_init 31 = .ok (.aload_n 0, 1) := by decide +kernel
theorem dX7_init_32 : decode cX7_init 32 = .ok (.iconst 2, 1) := by decide +kernel
theorem dX7_init_33 : decode cX7_init 33 = .ok (.newarray .int, 2) := by decide +kernel
theorem dX7_init_35 : decode cX7_init 35 = .ok (.putfield 19, 3) := by decide +kernel
theorem dX7_init_38 : decode cX7_init 38 = .ok (.aload_n 0, 1) := by decide +kernel
theorem dX7_init_39 : decode cX7_init 39 = .ok (.bipush 60, 2) := by decide +kernel
theorem dX7_init_41 : decode cX7_init 41 = .ok (.newarray .int, 2) := by decide +kernel
theorem dX7_init_43 : decode cX7_init 43 = .ok (.putfield 22, 3) := by decide +kernel
theorem dX7_init_46 : decode cX7_init 46 = .ok (.aload_n 0, 1) := by decide +kernel
theorem dX7_init_47 : decode cX7_init 47 = .ok (.sipush 200, 3) := by decide +kernel
theorem dX7_init_50 : decode cX7_init 50 = .ok (.newarray .int, 2) := by decide +kernel
theorem dX7_init_52 : decode cX7_init 52 = .ok (.putfield 25, 3) := by decide +kernel
theorem dX7_init_55 : decode cX7_init 55 = .ok (.aload_n 0, 1) := by decide +kernel
theorem dX7_init_56 : decode cX7_init 56 = .ok (.sipush 200, 3) := by decide +kernel
theorem dX7_init_59 : decode cX7_init 59 = .ok (.newarray .int, 2) := by decide +kernel
theorem dX7_init_61 : decode cX7_init 61 = .ok (.putfield 28, 3) := by decide +kernel
theorem dX7_init_64 : decode cX7_init 64 = .ok (.aload_n 0, 1) := by decide +kernel
theorem dX7_init_65 : decode cX7_init 65 = .ok (.sipush 200, 3) := by decide +kernel
theorem dX7_init_68 : decode cX7_init 68 = .ok (.newarray .int, 2) := by decide +kernel
theorem dX7_init_70 : decode cX7_init 70 = .ok (.putfield 31, 3) := by decide +kernel
theorem dX7_init_73 : decode cX7_init 73 = .ok (.aload_n 0, 1) := by decide +kernel
theorem dX7_init_74 : decode cX7_init 74 = .ok (.sipush 204, 3) := by decide +kernel
theorem dX7_init_77 : decode cX7_init 77 = .ok (.newarray .int, 2) := by decide +kernel
theorem dX7_init_79 : decode cX7_init 79 = .ok (.putfield 34, 3) := by decide +kernel
theorem dX7_init_82 : decode cX7_init 82 = .ok (.aload_n 0, 1) := by decide +kernel
theorem dX7_init_83 : decode cX7_init 83 = .ok (.sipush 200, 3) := by decide +kernel
theorem dX7_init_86 : decode cX7_init 86 = .ok (.newarray .int, 2) := by decide +kernel
theorem dX7_init_88 : decode cX7_init 88 = .ok (.putfield 37, 3) := by decide +kernel
theorem dX7_init_91 : decode cX7_init 91 = .ok (.aload_n 0, 1) := by decide +kernel
theorem dX7_init_92 : decode cX7_init 92 = .ok (.sipush 400, 3) := by decide +kernel
theorem dX7_init_95 : decode cX7_init 95 = .ok (.newarray .int, 2) := by decide +kernel
theorem dX7_init_97 : decode cX7_init 97 = .ok (.putfield 40, 3) := by decide +kernel
theorem dX7_init_100 : decode cX7_init 100 = .ok (.iconst 0, 1) := by decide +kernel
theorem dX7_init_101 : decode cX7_init 101 = .ok (.istore_n 1, 1) := by decide +kernel
theorem dX7_init_102 : decode cX7_init 102 = .ok (.iload_n 1, 1) := by decide +kernel
theorem dX7_init_103 : decode cX7_init 103 = .ok (.bipush 6, 2) := by decide +kernel
theorem dX7_init_105 : decode cX7_init 105 = .ok (.if_icmp .ge 32, 3) := by decide +kernel
theorem dX7_init_108 : decode cX7_init 108 = .ok (.aload_n 0, 1) := by decide +kernel
theorem dX7_init_109 : decode cX7_init 109 = .ok (.getfield 7, 3) := by decide +kernel
theorem dX7_init_112 : decode cX7_init 112 = .ok (.iload_n 1, 1) := by decide +kernel
theorem dX7_init_113 : decode cX7_init 113 = .ok (.iconst 1, 1) := by decide +kernel
theorem dX7_init_114 : decode cX7_init 114 = .ok (.iastore, 1) := by decide +kernel
theorem dX7_init_115 : decode cX7_init 115 = .ok (.aload_n 0, 1) := by decide +kernel
theorem dX7_init_116 : decode cX7_init 116 = .ok (.getfield 7, 3) := by decide +kernel
theorem dX7_init_119 : decode cX7_init 119 = .ok (.bipush 6, 2) := by decide +kernel
theorem dX7_init_121 : decode cX7_init 121 = .ok (.sipush 200, 3) := by decide +kernel
theorem dX7_init_124 : decode cX7_init 124 = .ok (.iload_n 1, 1) := by decide +kernel
theorem dX7_init_125 : decode cX7_init 125 = .ok (.imul, 1) := by decide +kernel
theorem dX7_init_126 : decode cX7_init 126 = .ok (.iadd, 1) := by decide +kernel
theorem dX7_init_127 : decode cX7_init 127 = .ok (.sipush 1000, 3) := by decide +kernel
theorem dX7_init_130 : decode cX7_init 130 = .ok (.iastore, 1) := by decide +kernel
theorem dX7_init_131 : decode cX7_init 131 = .ok (.iinc 1 1, 3) := by decide +kernel
theorem dX7_init_134 : decode cX7_init 134 = .ok (.goto (-32), 3) := by decide +kernel
theorem dX7_init_137 : decode cX7_init 137 = .ok (.return_, 1) := by decide +kernel
theorem dX7_moves_0 : decode cX7_moves 0 = .ok (.iconst 0, 1) := by decide +kernel
theorem dX7_moves_1 : decode cX7_moves 1 = .ok (.istore 5, 2) := by decide +kernel
theorem dX7_moves_3 : decode cX7_moves 3 = .ok (.iload 5, 2) := by decide +kernel
theorem dX7_moves_5 : decode cX7_moves 5 = .ok (.iload 4, 2) := by decide +kernel
theorem dX7_moves_7 : decode cX7_moves 7 = .ok (.if_icmp .ge 21, 3) := by decide +kernel
theorem dX7_moves_10 : decode cX7_moves 10 = .ok (.aload_n 2, 1) := by decide +kernel
theorem dX7_moves_11 : decode cX7_moves 11 = .ok (.iload_n 3, 1) := by decide +kernel
theorem dX7_moves_12 : decode cX7_moves 12 = .ok (.iload 5, 2) := by decide +kernel
theorem dX7_moves_14 : decode cX7_moves 14 = .ok (.iadd, 1) := by decide +kernel
theorem dX7_moves_15 : decode cX7_moves 15 = .ok (.aload_n 0, 1) := by decide +kernel
theorem dX7_moves_16 : decode cX7_moves 16 = .ok (.iload_n 1, 1) := by decide +kernel
theorem dX7_moves_17 : decode cX7_moves 17 = .ok (.iload 5, 2) := by decide +kernel
theorem dX7_moves_19 : decode cX7_moves 19 = .ok (.iadd, 1) := by decide +kernel
theorem dX7_moves_20 : decode cX7_moves 20 = .ok (.iaload, 1) := by decide +kernel
theorem dX7_moves_21 : decode cX7_moves 21 = .ok (.iastore, 1) := by decide +kernel
theorem dX7_moves_22 : decode cX7_moves 22 = .ok (.iinc 5 1, 3) := by decide +kernel
theorem dX7_moves_25 : decode cX7_moves 25 = .ok (.goto (-22), 3) := by decide +kernel
theorem dX7_moves_28 : decode cX7_moves 28 = .ok (.return_, 1) := by decide +kernel
theorem dX7_within_0 : decode cX7_within 0 = .ok (.iload_n 0, 1) := by decide +kernel
theorem dX7_within_1 : decode cX7_within 1 = .ok (.iload_n 1, 1) := by decide +kernel
theorem dX7_within_2 : decode cX7_within 2 = .ok (.if_icmp .lt 12, 3) := by decide +kernel
theorem dX7_within_5 : decode cX7_within 5 = .ok (.iload_n 0, 1) := by decide +kernel
theorem dX7_within_6 : decode cX7_within 6 = .ok (.iload_n 2, 1) := by decide +kernel
theorem dX7_within_7 : decode cX7_within 7 = .ok (.if_icmp .gt 7, 3) := by decide +kernel
theorem dX7_within_10 : decode cX7_within 10 = .ok (.iconst 1, 1) := by decide +kernel
theorem dX7_within_11 : decode cX7_within 11 = .ok (.goto 4, 3) := by decide +kernel
theorem dX7_within_14 : decode cX7_within 14 = .ok (.iconst 0, 1) := by decide +kernel
theorem dX7_within_15 : decode cX7_within 15 = .ok (.ireturn, 1) := by decide +kernel
theorem dX7_record_0 : decode cX7_record 0 = .ok (.aload_n 0, 1) := by decide +kernel
theorem dX7_record_1 : decode cX7_record 1 = .ok (.getfield 43, 3) := by decide +kernel
theorem dX7_record_4 : decode cX7_record 4 = .ok (.bipush 6, 2) := by decide +kernel
theorem dX7_record_6 : decode cX7_record 6 = .ok (.if_icmp .ne 44, 3) := by decide +kernel
theorem dX7_record_9 : decode cX7_record 9 = .ok (.iconst 0, 1) := by decide +kernel
theorem dX7_record_10 : decode cX7_record 10 = .ok (.istore_n 1, 1) := by decide +kernel
theorem dX7_record_11 : decode cX7_record 11 = .ok (.iload_n 1, 1) := by decide +kernel
theorem dX7_record_12 : decode cX7_record 12 = .ok (.sipush 6030, 3) := by decide +kernel
theorem dX7_record_15 : decode cX7_record 15 = .ok (.if_icmp .ge 25, 3) := by decide +kernel
theorem dX7_record_18 : decode cX7_record 18 = .ok (.aload_n 0, 1) := by decide +kernel
theorem dX7_record_19 : decode cX7_record 19 = .ok (.getfield 13, 3) := by decide +kernel
theorem dX7_record_22 : decode cX7_record 22 = .ok (.iload_n 1, 1) := by decide +kernel
theorem dX7_record_23 : decode cX7_record 23 = .ok (.aload_n 0, 1) := by decide +kernel
theorem dX7_record_24 : decode cX7_record 24 = .ok (.getfield 13, 3) := by decide +kernel
theorem dX7_record_27 : decode cX7_record 27 = .ok (.iload_n 1, 1) := by decide +kernel
theorem dX7_record_28 : decode cX7_record 28 = .ok (.sipush 1206, 3) := by decide +kernel
theorem dX7_record_31 : decode cX7_record 31 = .ok (.iadd, 1) := by decide +kernel
theorem dX7_record_32 : decode cX7_record 32 = .ok (.iaload, 1) := by decide +kernel
theorem dX7_record_33 : decode cX7_record 33 = .ok (.iastore, 1) := by decide +kernel
theorem dX7_record_34 : decode cX7_record 34 = .ok (.iinc 1 1, 3) := by decide +kernel
theorem dX7_record_37 : decode cX7_record 37 = .ok (.goto (-26), 3) := by decide +kernel
theorem dX7_record_40 : decode cX7_record 40 = .ok (.aload_n 0, 1) := by decide +kernel
theorem dX7_record_41 : decode cX7_record 41 = .ok (.dup, 1) := by decide +kernel
theorem dX7_record_42 : decode cX7_record 42 = .ok (.getfield 43, 3) := by decide +kernel
theorem dX7_record_45 : decode cX7_record 45 = .ok (.iconst 1, 1) := by decide +kernel
theorem dX7_record_46 : decode cX7_record 46 = .ok (.isub, 1) := by decide +kernel
theorem dX7_record_47 : decode cX7_record 47 = .ok (.putfield 43, 3) := by decide +kernel
theorem dX7_record_50 : decode cX7_record 50 = .ok (.aload_n 0, 1) := by decide +kernel
theorem dX7_record_51 : decode cX7_record 51 = .ok (.getfield 7, 3) := by decide +kernel
theorem dX7_record_54 : decode cX7_record 54 = .ok (.iconst 0, 1) := by decide +kernel
theorem dX7_record_55 : decode cX7_record 55 = .ok (.aload_n 0, 1) := by decide +kernel
theorem dX7_record_56 : decode cX7_record 56 = .ok (.getfield 13, 3) := by decide +kernel
theorem dX7_record_59 : decode cX7_record 59 = .ok (.aload_n 0, 1) := by decide +kernel
theorem dX7_record_60 : decode cX7_record 60 = .ok (.getfield 43, 3) := by decide +kernel
theorem dX7_record_63 : decode cX7_record 63 = .ok (.sipush 1206, 3) := by decide +kernel
theorem dX7_record_66 : decode cX7_record 66 = .ok (.imul, 1) := by decide +kernel
theorem dX7_record_67 : decode cX7_record 67 = .ok (.sipush 1206, 3) := by decide +kernel
theorem dX7_record_70 : decode cX7_record 70 = .ok (.invokestatic 47, 3) := by decide +kernel
theorem dX7_record_73 : decode cX7_record 73 = .ok (.aload_n 0, 1) := by decide +kernel
theorem dX7_record_74 : decode cX7_record 74 = .ok (.dup, 1) := by decide +kernel
theorem dX7_record_75 : decode cX7_record 75 = .ok (.getfield 43, 3) := by decide +kernel
theorem dX7_record_78 : decode cX7_record 78 = .ok (.iconst 1, 1) := by decide +kernel
theorem dX7_record_79 : decode cX7_record 79 = .ok (.iadd, 1) := by decide +kernel
theorem dX7_record_80 : decode cX7_record 80 = .ok (.putfield 43, 3) := by decide +kernel
theorem dX7_record_83 : decode cX7_record 83 = .ok (.return_, 1) := by decide +kernel
theorem dX7_isRegister_0 : decode cX7_isRegister 0 = .ok (.iload_n 0, 1) := by decide +kernel
theorem dX7_isRegister_1 : decode cX7_isRegister 1 = .ok (.iconst 0, 1) := by decide +kernel
theorem dX7_isRegister_2 : decode cX7_isRegister 2 = .ok (.iconst 5, 1) := by decide +kernel
theorem dX7_isRegister_3 : decode cX7_isRegister 3 = .ok (.invokestatic 51, 3) := by decide +kernel
theorem dX7_isRegister_6 : decode cX7_isRegister 6 = .ok (.ireturn, 1) := by decide +kernel
theorem dX7_load_0 : decode cX7_load 0 = .ok (.aload_n 0, 1) := by decide +kernel
theorem dX7_load_1 : decode cX7_load 1 = .ok (.aload_n 0, 1) := by decide +kernel
theorem dX7_load_2 : decode cX7_load 2 = .ok (.getfield 7, 3) := by decide +kernel
theorem dX7_load_5 : decode cX7_load 5 = .ok (.iload_n 1, 1) := by decide +kernel
theorem dX7_load_6 : decode cX7_load 6 = .ok (.iaload, 1) := by decide +kernel
theorem dX7_load_7 : decode cX7_load 7 = .ok (.putfield 55, 3) := by decide +kernel
theorem dX7_load_10 : decode cX7_load 10 = .ok (.aload_n 0, 1) := by decide +kernel
theorem dX7_load_11 : decode cX7_load 11 = .ok (.getfield 7, 3) := by decide +kernel
theorem dX7_load_14 : decode cX7_load 14 = .ok (.bipush 6, 2) := by decide +kernel
theorem dX7_load_16 : decode cX7_load 16 = .ok (.sipush 200, 3) := by decide +kernel
theorem dX7_load_19 : decode cX7_load 19 = .ok (.iload_n 1, 1) := by decide +kernel
theorem dX7_load_20 : decode cX7_load 20 = .ok (.imul, 1) := by decide +kernel
theorem dX7_load_21 : decode cX7_load 21 = .ok (.iadd, 1) := by decide +kernel
theorem dX7_load_22 : decode cX7_load 22 = .ok (.aload_n 0, 1) := by decide +kernel
theorem dX7_load_23 : decode cX7_load 23 = .ok (.getfield 25, 3) := by decide +kernel
theorem dX7_load_26 : decode cX7_load 26 = .ok (.iconst 0, 1) := by decide +kernel
theorem dX7_load_27 : decode cX7_load 27 = .ok (.aload_n 0, 1) := by decide +kernel
theorem dX7_load_28 : decode cX7_load 28 = .ok (.getfield 55, 3) := by decide +kernel
theorem dX7_load_31 : decode cX7_load 31 = .ok (.invokestatic 47, 3) := by decide +kernel
theorem dX7_load_34 : decode cX7_load 34 = .ok (.aload_n 0, 1) := by decide +kernel
theorem dX7_load_35 : decode cX7_load 35 = .ok (.invokevirtual 58, 3) := by decide +kernel
theorem dX7_load_38 : decode cX7_load 38 = .ok (.return_, 1) := by decide +kernel
theorem dX7_store_0 : decode cX7_store 0 = .ok (.aload_n 0, 1) := by decide +kernel
theorem dX7_store_1 : decode cX7_store 1 = .ok (.getfield 7, 3) := by decide +kernel
theorem dX7_store_4 : decode cX7_store 4 = .ok (.iload_n 1, 1) := by decide +kernel
theorem dX7_store_5 : decode cX7_store 5 = .ok (.aload_n 0, 1) := by decide +kernel
theorem dX7_store_6 : decode cX7_store 6 = .ok (.getfield 55, 3) := by decide +kernel
theorem dX7_store_9 : decode cX7_store 9 = .ok (.iastore, 1) := by decide +kernel
theorem dX7_store_10 : decode cX7_store 10 = .ok (.iconst 0, 1) := by decide +kernel
theorem dX7_store_11 : decode cX7_store 11 = .ok (.istore_n 2, 1) := by decide +kernel
theorem dX7_store_12 : decode cX7_store 12 = .ok (.iload_n 2, 1) := by decide +kernel
theorem dX7_store_13 : decode cX7_store 13 = .ok (.sipush 200, 3) := by decide +kernel
theorem dX7_store_16 : decode cX7_store 16 = .ok (.if_icmp .ge 42, 3) := by decide +kernel
theorem dX7_store_19 : decode cX7_store 19 = .ok (.aload_n 0, 1) := by decide +kernel
theorem dX7_store_20 : decode cX7_store 20 = .ok (.getfield 7, 3) := by decide +kernel
theorem dX7_store_23 : decode cX7_store 23 = .ok (.bipush 6, 2) := by decide +kernel
theorem dX7_store_25 : decode cX7_store 25 = .ok (.sipush 200, 3) := by decide +kernel
theorem dX7_store_28 : decode cX7_store 28 = .ok (.iload_n 1, 1) := by decide +kernel
theorem dX7_store_29 : decode cX7_store 29 = .ok (.imul, 1) := by decide +kernel
theorem dX7_store_30 : decode cX7_store 30 = .ok (.iadd, 1) := by decide +kernel
theorem dX7_store_31 : decode cX7_store 31 = .ok (.iload_n 2, 1) := by decide +kernel
theorem dX7_store_32 : decode cX7_store 32 = .ok (.iadd, 1) := by decide +kernel
theorem dX7_store_33 : decode cX7_store 33 = .ok (.iload_n 2, 1) := by decide +kernel
theorem dX7_store_34 : decode cX7_store 34 = .ok (.aload_n 0, 1) := by decide +kernel
theorem dX7_store_35 : decode cX7_store 35 = .ok (.getfield 55, 3) := by decide +kernel
theorem dX7_store_38 : decode cX7_store 38 = .ok (.if_icmp .ge 12, 3) := by decide +kernel
theorem dX7_store_41 : decode cX7_store 41 = .ok (.aload_n 0, 1) := by decide +kernel
theorem dX7_store_42 : decode cX7_store 42 = .ok (.getfield 25, 3) := by decide +kernel
theorem dX7_store_45 : decode cX7_store 45 = .ok (.iload_n 2, 1) := by decide +kernel
theorem dX7_store_46 : decode cX7_store 46 = .ok (.iaload, 1) := by decide +kernel
theorem dX7_store_47 : decode cX7_store 47 = .ok (.goto 4, 3) := by decide +kernel
theorem dX7_store_50 : decode cX7_store 50 = .ok (.iconst 0, 1) := by decide +kernel
theorem dX7_store_51 : decode cX7_store 51 = .ok (.iastore, 1) := by decide +kernel
theorem dX7_store_52 : decode cX7_store 52 = .ok (.iinc 2 1, 3) := by decide +kernel
theorem dX7_store_55 : decode cX7_store 55 = .ok (.goto (-43), 3) := by decide +kernel
theorem dX7_store_58 : decode cX7_store 58 = .ok (.return_, 1) := by decide +kernel
theorem dX7_kindAt_0 : decode cX7_kindAt 0 = .ok (.aload_n 0, 1) := by decide +kernel
theorem dX7_kindAt_1 : decode cX7_kindAt 1 = .ok (.getfield 25, 3) := by decide +kernel
theorem dX7_kindAt_4 : decode cX7_kindAt 4 = .ok (.iload_n 1, 1) := by decide +kernel
theorem dX7_kindAt_5 : decode cX7_kindAt 5 = .ok (.iaload, 1) := by decide +kernel
theorem dX7_kindAt_6 : decode cX7_kindAt 6 = .ok (.sipush 1000, 3) := by decide +kernel
theorem dX7_kindAt_9 : decode cX7_kindAt 9 = .ok (.idiv, 1) := by decide +kernel
theorem dX7_kindAt_10 : decode cX7_kindAt 10 = .ok (.ireturn, 1) := by decide +kernel
theorem dX7_numberAt_0 : decode cX7_numberAt 0 = .ok (.aload_n 0, 1) := by decide +kernel
theorem dX7_numberAt_1 : decode cX7_numberAt 1 = .ok (.getfield 25, 3) := by decide +kernel
theorem dX7_numberAt_4 : decode cX7_numberAt 4 = .ok (.iload_n 1, 1) := by decide +kernel
theorem dX7_numberAt_5 : decode cX7_numberAt 5 = .ok (.iaload, 1) := by decide +kernel
theorem dX7_numberAt_6 : decode cX7_numberAt 6 = .ok (.sipush 1000, 3) := by decide +kernel
theorem dX7_numberAt_9 : decode cX7_numberAt 9 = .ok (.irem, 1) := by decide +kernel
theorem dX7_numberAt_10 : decode cX7_numberAt 10 = .ok (.ireturn, 1) := by decide +kernel
theorem dX7_findDepths_0 : decode cX7_findDepths 0 = .ok (.iconst 1, 1) := by decide +kernel
theorem dX7_findDepths_1 : decode cX7_findDepths 1 = .ok (.istore_n 1, 1) := by decide +kernel
theorem dX7_findDepths_2 : decode cX7_findDepths 2 = .ok (.aload_n 0, 1) := by decide +kernel
theorem dX7_findDepths_3 : decode cX7_findDepths 3 = .ok (.getfield 34, 3) := by decide +kernel
theorem dX7_findDepths_6 : decode cX7_findDepths 6 = .ok (.iconst 0, 1) := by decide +kernel
theorem dX7_findDepths_7 : decode cX7_findDepths 7 = .ok (.iconst 0, 1) := by decide +kernel
theorem dX7_findDepths_8 : decode cX7_findDepths 8 = .ok (.iastore, 1) := by decide +kernel
theorem dX7_findDepths_9 : decode cX7_findDepths 9 = .ok (.iconst 0, 1) := by decide +kernel
theorem dX7_findDepths_10 : decode cX7_findDepths 10 = .ok (.istore_n 2, 1) := by decide +kernel
theorem dX7_findDepths_11 : decode cX7_findDepths 11 = .ok (.iload_n 2, 1) := by decide +kernel
theorem dX7_findDepths_12 : decode cX7_findDepths 12 = .ok (.aload_n 0, 1) := by decide +kernel
theorem dX7_findDepths_13 : decode cX7_findDepths 13 = .ok (.getfield 55, 3) := by decide +kernel
theorem dX7_findDepths_16 : decode cX7_findDepths 16 = .ok (.if_icmp .ge 78, 3) := by decide +kernel
theorem dX7_findDepths_19 : decode cX7_findDepths 19 = .ok (.iinc 1 (-1), 3) := by decide +kernel
theorem dX7_findDepths_22 : decode cX7_findDepths 22 = .ok (.aload_n 0, 1) := by decide +kernel
theorem dX7_findDepths_23 : decode cX7_findDepths 23 = .ok (.getfield 34, 3) := by decide +kernel
theorem dX7_findDepths_26 : decode cX7_findDepths 26 = .ok (.iload_n 1, 1) := by decide +kernel
theorem dX7_findDepths_27 : decode cX7_findDepths 27 = .ok (.iaload, 1) := by decide +kernel
theorem dX7_findDepths_28 : decode cX7_findDepths 28 = .ok (.istore_n 3, 1) := by decide +kernel
theorem dX7_findDepths_29 : decode cX7_findDepths 29 = .ok (.aload_n 0, 1) := by decide +kernel
theorem dX7_findDepths_30 : decode cX7_findDepths 30 = .ok (.getfield 28, 3) := by decide +kernel
theorem dX7_findDepths_33 : decode cX7_findDepths 33 = .ok (.iload_n 2, 1) := by decide +kernel
theorem dX7_findDepths_34 : decode cX7_findDepths 34 = .ok (.iload_n 3, 1) := by decide +kernel
theorem dX7_findDepths_35 : decode cX7_findDepths 35 = .ok (.iastore, 1) := by decide +kernel
theorem dX7_findDepths_36 : decode cX7_findDepths 36 = .ok (.aload_n 0, 1) := by decide +kernel
theorem dX7_findDepths_37 : decode cX7_findDepths 37 = .ok (.iload_n 2, 1) := by decide +kernel
theorem dX7_findDepths_38 : decode cX7_findDepths 38 = .ok (.invokevirtual 61, 3) := by decide +kernel
theorem dX7_findDepths_41 : decode cX7_findDepths 41 = .ok (.iconst 3, 1) := by decide +kernel
theorem dX7_findDepths_42 : decode cX7_findDepths 42 = .ok (.if_icmp .ne 25, 3) := by decide +kernel
theorem dX7_findDepths_45 : decode cX7_findDepths 45 = .ok (.aload_n 0, 1) := by decide +kernel
theorem dX7_findDepths_46 : decode cX7_findDepths 46 = .ok (.getfield 34, 3) := by decide +kernel
theorem dX7_findDepths_49 : decode cX7_findDepths 49 = .ok (.iload_n 1, 1) := by decide +kernel
theorem dX7_findDepths_50 : decode cX7_findDepths 50 = .ok (.iload_n 3, 1) := by decide +kernel
theorem dX7_findDepths_51 : decode cX7_findDepths 51 = .ok (.iastore, 1) := by decide +kernel
theorem dX7_findDepths_52 : decode cX7_findDepths 52 = .ok (.aload_n 0, 1) := by decide +kernel
theorem dX7_findDepths_53 : decode cX7_findDepths 53 = .ok (.getfield 34, 3) := by decide +kernel
theorem dX7_findDepths_56 : decode cX7_findDepths 56 = .ok (.iload_n 1, 1) := by decide +kernel
theorem dX7_findDepths_57 : decode cX7_findDepths 57 = .ok (.iconst 1, 1) := by decide +kernel
theorem dX7_findDepths_58 : decode cX7_findDepths 58 = .ok (.iadd, 1) := by decide +kernel
theorem dX7_findDepths_59 : decode cX7_findDepths 59 = .ok (.iload_n 3, 1) := by decide +kernel
theorem dX7_findDepths_60 : decode cX7_findDepths 60 = .ok (.iastore, 1) := by decide +kernel
theorem dX7_findDepths_61 : decode cX7_findDepths 61 = .ok (.iinc 1 2, 3) := by decide +kernel
theorem dX7_findDepths_64 : decode cX7_findDepths 64 = .ok (.goto 24, 3) := by decide +kernel
theorem dX7_findDepths_67 : decode cX7_findDepths 67 = .ok (.aload_n 0, 1) := by decide +kernel
theorem dX7_findDepths_68 : decode cX7_findDepths 68 = .ok (.iload_n 2, 1) := by decide +kernel
theorem dX7_findDepths_69 : decode cX7_findDepths 69 = .ok (.invokevirtual 61, 3) := by decide +kernel
theorem dX7_findDepths_72 : decode cX7_findDepths 72 = .ok (.iconst 2, 1) := by decide +kernel
theorem dX7_findDepths_73 : decode cX7_findDepths 73 = .ok (.if_icmp .ne 15, 3) := by decide +kernel
theorem dX7_findDepths_76 : decode cX7_findDepths 76 = .ok (.aload_n 0, 1) := by decide +kernel
theorem dX7_findDepths_77 : decode cX7_findDepths 77 = .ok (.getfield 34, 3) := by decide +kernel
theorem dX7_findDepths_80 : decode cX7_findDepths 80 = .ok (.iload_n 1, 1) := by decide +kernel
theorem dX7_findDepths_81 : decode cX7_findDepths 81 = .ok (.iload_n 3, 1) := by decide +kernel
theorem dX7_findDepths_82 : decode cX7_findDepths 82 = .ok (.iconst 1, 1) := by decide +kernel
theorem dX7_findDepths_83 : decode cX7_findDepths 83 = .ok (.iadd, 1) := by decide +kernel
theorem dX7_findDepths_84 : decode cX7_findDepths 84 = .ok (.iastore, 1) := by decide +kernel
theorem dX7_findDepths_85 : decode cX7_findDepths 85 = .ok (.iinc 1 1, 3) := by decide +kernel
theorem dX7_findDepths_88 : decode cX7_findDepths 88 = .ok (.iinc 2 1, 3) := by decide +kernel
theorem dX7_findDepths_91 : decode cX7_findDepths 91 = .ok (.goto (-80), 3) := by decide +kernel
theorem dX7_findDepths_94 : decode cX7_findDepths 94 = .ok (.return_, 1) := by decide +kernel
theorem dX7_endOf_0 : decode cX7_endOf 0 = .ok (.iconst 1, 1) := by decide +kernel
theorem dX7_endOf_1 : decode cX7_endOf 1 = .ok (.istore_n 2, 1) := by decide +kernel
theorem dX7_endOf_2 : decode cX7_endOf 2 = .ok (.iload_n 1, 1) := by decide +kernel
theorem dX7_endOf_3 : decode cX7_endOf 3 = .ok (.istore_n 3, 1) := by decide +kernel
theorem dX7_endOf_4 : decode cX7_endOf 4 = .ok (.iload_n 2, 1) := by decide +kernel
theorem dX7_endOf_5 : decode cX7_endOf 5 = .ok (.ifCond .le 39, 3) := by decide +kernel
theorem dX7_endOf_8 : decode cX7_endOf 8 = .ok (.iload_n 2, 1) := by decide +kernel
theorem dX7_endOf_9 : decode cX7_endOf 9 = .ok (.aload_n 0, 1) := by decide +kernel
theorem dX7_endOf_10 : decode cX7_endOf 10 = .ok (.iload_n 3, 1) := by decide +kernel
theorem dX7_endOf_11 : decode cX7_endOf 11 = .ok (.invokevirtual 61, 3) := by decide +kernel
theorem dX7_endOf_14 : decode cX7_endOf 14 = .ok (.iconst 3, 1) := by decide +kernel
theorem dX7_endOf_15 : decode cX7_endOf 15 = .ok (.if_icmp .ne 7, 3) := by decide +kernel
theorem dX7_endOf_18 : decode cX7_endOf 18 = .ok (.iconst 1, 1) := by decide +kernel
theorem dX7_endOf_19 : decode cX7_endOf 19 = .ok (.goto 17, 3) := by decide +kernel
theorem dX7_endOf_22 : decode cX7_endOf 22 = .ok (.aload_n 0, 1) := by decide +kernel
theorem dX7_endOf_23 : decode cX7_endOf 23 = .ok (.iload_n 3, 1) := by decide +kernel
theorem dX7_endOf_24 : decode cX7_endOf 24 = .ok (.invokevirtual 61, 3) := by decide +kernel
theorem dX7_endOf_27 : decode cX7_endOf 27 = .ok (.iconst 2, 1) := by decide +kernel
theorem dX7_endOf_28 : decode cX7_endOf 28 = .ok (.if_icmp .ne 7, 3) := by decide +kernel
theorem dX7_endOf_31 : decode cX7_endOf 31 = .ok (.iconst 0, 1) := by decide +kernel
theorem dX7_endOf_32 : decode cX7_endOf 32 = .ok (.goto 4, 3) := by decide +kernel
theorem dX7_endOf_35 : decode cX7_endOf 35 = .ok (.iconst (-1), 1) := by decide +kernel
theorem dX7_endOf_36 : decode cX7_endOf 36 = .ok (.iadd, 1) := by decide +kernel
theorem dX7_endOf_37 : decode cX7_endOf 37 = .ok (.istore_n 2, 1) := by decide +kernel
theorem dX7_endOf_38 : decode cX7_endOf 38 = .ok (.iinc 3 1, 3) := by decide +kernel
theorem dX7_endOf_41 : decode cX7_endOf 41 = .ok (.goto (-37), 3) := by decide +kernel
theorem dX7_endOf_44 : decode cX7_endOf 44 = .ok (.iload_n 3, 1) := by decide +kernel
theorem dX7_endOf_45 : decode cX7_endOf 45 = .ok (.ireturn, 1) := by decide +kernel
theorem dX7_isReducible_0 : decode cX7_isReducible 0 = .ok (.aload_n 0, 1) := by decide +kernel
theorem dX7_isReducible_1 : decode cX7_isReducible 1 = .ok (.iload_n 1, 1) := by decide +kernel
theorem dX7_isReducible_2 : decode cX7_isReducible 2 = .ok (.invokevirtual 61, 3) := by decide +kernel
theorem dX7_isReducible_5 : decode cX7_isReducible 5 = .ok (.iconst 3, 1) := by decide +kernel
theorem dX7_isReducible_6 : decode cX7_isReducible 6 = .ok (.if_icmp .ne 18, 3) := by decide +kernel
theorem dX7_isReducible_9 : decode cX7_isReducible 9 = .ok (.aload_n 0, 1) := by decide +kernel
theorem dX7_isReducible_10 : decode cX7_isReducible 10 = .ok (.iload_n 1, 1) := by decide +kernel
theorem dX7_isReducible_11 : decode cX7_isReducible 11 = .ok (.iconst 1, 1) := by decide +kernel
theorem dX7_isReducible_12 : decode cX7_isReducible 12 = .ok (.iadd, 1) := by decide +kernel
theorem dX7_isReducible_13 : decode cX7_isReducible 13 = .ok (.invokevirtual 61, 3) := by decide +kernel
theorem dX7_isReducible_16 : decode cX7_isReducible 16 = .ok (.iconst 2, 1) := by decide +kernel
theorem dX7_isReducible_17 : decode cX7_isReducible 17 = .ok (.if_icmp .ne 7, 3) := by decide +kernel
theorem dX7_isReducible_20 : decode cX7_isReducible 20 = .ok (.iconst 1, 1) := by decide +kernel
theorem dX7_isReducible_21 : decode cX7_isReducible 21 = .ok (.goto 4, 3) := by decide +kernel
theorem dX7_isReducible_24 : decode cX7_isReducible 24 = .ok (.iconst 0, 1) := by decide +kernel
theorem dX7_isReducible_25 : decode cX7_isReducible 25 = .ok (.ireturn, 1) := by decide +kernel
theorem dX7_hasReducible_0 : decode cX7_hasReducible 0 = .ok (.iconst 0, 1) := by decide +kernel
theorem dX7_hasReducible_1 : decode cX7_hasReducible 1 = .ok (.istore_n 3, 1) := by decide +kernel
theorem dX7_hasReducible_2 : decode cX7_hasReducible 2 = .ok (.iload_n 1, 1) := by decide +kernel
theorem dX7_hasReducible_3 : decode cX7_hasReducible 3 = .ok (.istore 4, 2) := by decide +kernel
theorem dX7_hasReducible_5 : decode cX7_hasReducible 5 = .ok (.iload 4, 2) := by decide +kernel
theorem dX7_hasReducible_7 : decode cX7_hasReducible 7 = .ok (.iload_n 2, 1) := by decide +kernel
theorem dX7_hasReducible_8 : decode cX7_hasReducible 8 = .ok (.if_icmp .ge 20, 3) := by decide +kernel
theorem dX7_hasReducible_11 : decode cX7_hasReducible 11 = .ok (.iload_n 3, 1) := by decide +kernel
theorem dX7_hasReducible_12 : decode cX7_hasReducible 12 = .ok (.ifCond .ne 16, 3) := by decide +kernel
theorem dX7_hasReducible_15 : decode cX7_hasReducible 15 = .ok (.aload_n 0, 1) := by decide +kernel
theorem dX7_hasReducible_16 : decode cX7_hasReducible 16 = .ok (.iload 4, 2) := by decide +kernel
theorem dX7_hasReducible_18 : decode cX7_hasReducible 18 = .ok (.invokevirtual 65, 3) := by decide +kernel
theorem dX7_hasReducible_21 : decode cX7_hasReducible 21 = .ok (.istore_n 3, 1) := by decide +kernel
theorem dX7_hasReducible_22 : decode cX7_hasReducible 22 = .ok (.iinc 4 1, 3) := by decide +kernel
theorem dX7_hasReducible_25 : decode cX7_hasReducible 25 = .ok (.goto (-20), 3) := by decide +kernel
theorem dX7_hasReducible_28 : decode cX7_hasReducible 28 = .ok (.iload_n 3, 1) := by decide +kernel
theorem dX7_hasReducible_29 : decode cX7_hasReducible 29 = .ok (.ireturn, 1) := by decide +kernel
theorem dX7_canCome_0 : decode cX7_canCome 0 = .ok (.aload_n 0, 1) := by decide +kernel
theorem dX7_canCome_1 : decode cX7_canCome 1 = .ok (.iload_n 1, 1) := by decide +kernel
theorem dX7_canCome_2 : decode cX7_canCome 2 = .ok (.invokevirtual 65, 3) := by decide +kernel
theorem dX7_canCome_5 : decode cX7_canCome 5 = .ok (.ifCond .eq 45, 3) := by decide +kernel
theorem dX7_canCome_8 : decode cX7_canCome 8 = .ok (.iload_n 2, 1) := by decide +kernel
theorem dX7_canCome_9 : decode cX7_canCome 9 = .ok (.ifCond .eq 37, 3) := by decide +kernel
theorem dX7_canCome_12 : decode cX7_canCome 12 = .ok (.iload_n 2, 1) := by decide +kernel
theorem dX7_canCome_13 : decode cX7_canCome 13 = .ok (.iconst 2, 1) := by decide +kernel
theorem dX7_canCome_14 : decode cX7_canCome 14 = .ok (.if_icmp .ne 12, 3) := by decide +kernel
theorem dX7_canCome_17 : decode cX7_canCome 17 = .ok (.aload_n 0, 1) := by decide +kernel
theorem dX7_canCome_18 : decode cX7_canCome 18 = .ok (.getfield 28, 3) := by decide +kernel
theorem dX7_canCome_21 : decode cX7_canCome 21 = .ok (.iload_n 1, 1) := by decide +kernel
theorem dX7_canCome_22 : decode cX7_canCome 22 = .ok (.iaload, 1) := by decide +kernel
theorem dX7_canCome_23 : decode cX7_canCome 23 = .ok (.ifCond .eq 23, 3) := by decide +kernel
theorem dX7_canCome_26 : decode cX7_canCome 26 = .ok (.iload_n 2, 1) := by decide +kernel
theorem dX7_canCome_27 : decode cX7_canCome 27 = .ok (.iconst 1, 1) := by decide +kernel
theorem dX7_canCome_28 : decode cX7_canCome 28 = .ok (.if_icmp .ne 22, 3) := by decide +kernel
theorem dX7_canCome_31 : decode cX7_canCome 31 = .ok (.aload_n 0, 1) := by decide +kernel
theorem dX7_canCome_32 : decode cX7_canCome 32 = .ok (.iload_n 1, 1) := by decide +kernel
theorem dX7_canCome_33 : decode cX7_canCome 33 = .ok (.iconst 1, 1) := by decide +kernel
theorem dX7_canCome_34 : decode cX7_canCome 34 = .ok (.iadd, 1) := by decide +kernel
theorem dX7_canCome_35 : decode cX7_canCome 35 = .ok (.aload_n 0, 1) := by decide +kernel
theorem dX7_canCome_36 : decode cX7_canCome 36 = .ok (.iload_n 1, 1) := by decide +kernel
theorem dX7_canCome_37 : decode cX7_canCome 37 = .ok (.invokevirtual 69, 3) := by decide +kernel
theorem dX7_canCome_40 : decode cX7_canCome 40 = .ok (.invokevirtual 72, 3) := by decide +kernel
theorem dX7_canCome_43 : decode cX7_canCome 43 = .ok (.ifCond .ne 7, 3) := by decide +kernel
theorem dX7_canCome_46 : decode cX7_canCome 46 = .ok (.iconst 1, 1) := by decide +kernel
theorem dX7_canCome_47 : decode cX7_canCome 47 = .ok (.goto 4, 3) := by decide +kernel
theorem dX7_canCome_50 : decode cX7_canCome 50 = .ok (.iconst 0, 1) := by decide +kernel
theorem dX7_canCome_51 : decode cX7_canCome 51 = .ok (.ireturn, 1) := by decide +kernel
theorem dX7_nextBy_0 : decode cX7_nextBy 0 = .ok (.iconst 0, 1) := by decide +kernel
theorem dX7_nextBy_1 : decode cX7_nextBy 1 = .ok (.istore_n 2, 1) := by decide +kernel
theorem dX7_nextBy_2 : decode cX7_nextBy 2 = .ok (.iload_n 2, 1) := by decide +kernel
theorem dX7_nextBy_3 : decode cX7_nextBy 3 = .ok (.aload_n 0, 1) := by decide +kernel
theorem dX7_nextBy_4 : decode cX7_nextBy 4 = .ok (.getfield 55, 3) := by decide +kernel
theorem dX7_nextBy_7 : decode cX7_nextBy 7 = .ok (.if_icmp .ge 20, 3) := by decide +kernel
theorem dX7_nextBy_10 : decode cX7_nextBy 10 = .ok (.aload_n 0, 1) := by decide +kernel
theorem dX7_nextBy_11 : decode cX7_nextBy 11 = .ok (.iload_n 2, 1) := by decide +kernel
theorem dX7_nextBy_12 : decode cX7_nextBy 12 = .ok (.iload_n 1, 1) := by decide +kernel
theorem dX7_nextBy_13 : decode cX7_nextBy 13 = .ok (.invokevirtual 76, 3) := by decide +kernel
theorem dX7_nextBy_16 : decode cX7_nextBy 16 = .ok (.ifCond .eq 5, 3) := by decide +kernel
theorem dX7_nextBy_19 : decode cX7_nextBy 19 = .ok (.iload_n 2, 1) := by decide +kernel
theorem dX7_nextBy_20 : decode cX7_nextBy 20 = .ok (.ireturn, 1) := by decide +kernel
theorem dX7_nextBy_21 : decode cX7_nextBy 21 = .ok (.iinc 2 1, 3) := by decide +kernel
theorem dX7_nextBy_24 : decode cX7_nextBy 24 = .ok (.goto (-22), 3) := by decide +kernel
theorem dX7_nextBy_27 : decode cX7_nextBy 27 = .ok (.bipush (-6), 2) := by decide +kernel
theorem dX7_nextBy_29 : decode cX7_nextBy 29 = .ok (.ireturn, 1) := by decide +kernel
theorem dX7_gives_0 : decode cX7_gives 0 = .ok (.aload_n 0, 1) := by decide +kernel
theorem dX7_gives_1 : decode cX7_gives 1 = .ok (.getfield 31, 3) := by decide +kernel
theorem dX7_gives_4 : decode cX7_gives 4 = .ok (.aload_n 0, 1) := by decide +kernel
theorem dX7_gives_5 : decode cX7_gives 5 = .ok (.getfield 79, 3) := by decide +kernel
theorem dX7_gives_8 : decode cX7_gives 8 = .ok (.iload_n 1, 1) := by decide +kernel
theorem dX7_gives_9 : decode cX7_gives 9 = .ok (.iastore, 1) := by decide +kernel
theorem dX7_gives_10 : decode cX7_gives 10 = .ok (.aload_n 0, 1) := by decide +kernel
theorem dX7_gives_11 : decode cX7_gives 11 = .ok (.dup, 1) := by decide +kernel
theorem dX7_gives_12 : decode cX7_gives 12 = .ok (.getfield 79, 3) := by decide +kernel
theorem dX7_gives_15 : decode cX7_gives 15 = .ok (.iconst 1, 1) := by decide +kernel
theorem dX7_gives_16 : decode cX7_gives 16 = .ok (.iadd, 1) := by decide +kernel
theorem dX7_gives_17 : decode cX7_gives 17 = .ok (.putfield 79, 3) := by decide +kernel
theorem dX7_gives_20 : decode cX7_gives 20 = .ok (.return_, 1) := by decide +kernel
theorem dX7_givesArgument_0 : decode cX7_givesArgument 0 = .ok (.iload_n 1, 1) := by decide +kernel
theorem dX7_givesArgument_1 : decode cX7_givesArgument 1 = .ok (.istore 4, 2) := by decide +kernel
theorem dX7_givesArgument_3 : decode cX7_givesArgument 3 = .ok (.iload 4, 2) := by decide +kernel
theorem dX7_givesArgument_5 : decode cX7_givesArgument 5 = .ok (.iload_n 2, 1) := by decide +kernel
theorem dX7_givesArgument_6 : decode cX7_givesArgument 6 = .ok (.if_icmp .ge 76, 3) := by decide +kernel
theorem dX7_givesArgument_9 : decode cX7_givesArgument 9 = .ok (.aload_n 0, 1) := by decide +kernel
theorem dX7_givesArgument_10 : decode cX7_givesArgument 10 = .ok (.iload 4, 2) := by decide +kernel
theorem dX7_givesArgument_12 : decode cX7_givesArgument 12 = .ok (.invokevirtual 61, 3) := by decide +kernel
theorem dX7_givesArgument_15 : decode cX7_givesArgument 15 = .ok (.ifCond .ne 30, 3) := by decide +kernel
theorem dX7_givesArgument_18 : decode cX7_givesArgument 18 = .ok (.aload_n 0, 1) := by decide +kernel
theorem dX7_givesArgument_19 : decode cX7_givesArgument 19 = .ok (.iload 4, 2) := by decide +kernel
theorem dX7_givesArgument_21 : decode cX7_givesArgument 21 = .ok (.invokevirtual 82, 3) := by decide +kernel
theorem dX7_givesArgument_24 : decode cX7_givesArgument 24 = .ok (.aload_n 0, 1) := by decide +kernel
theorem dX7_givesArgument_25 : decode cX7_givesArgument 25 = .ok (.getfield 28, 3) := by decide +kernel
theorem dX7_givesArgument_28 : decode cX7_givesArgument 28 = .ok (.iload 4, 2) := by decide +kernel
theorem dX7_givesArgument_30 : decode cX7_givesArgument 30 = .ok (.iaload, 1) := by decide +kernel
theorem dX7_givesArgument_31 : decode cX7_givesArgument 31 = .ok (.aload_n 0, 1) := by decide +kernel
theorem dX7_givesArgument_32 : decode cX7_givesArgument 32 = .ok (.getfield 28, 3) := by decide +kernel
theorem dX7_givesArgument_35 : decode cX7_givesArgument 35 = .ok (.iload_n 1, 1) := by decide +kernel
theorem dX7_givesArgument_36 : decode cX7_givesArgument 36 = .ok (.iaload, 1) := by decide +kernel
theorem dX7_givesArgument_37 : decode cX7_givesArgument 37 = .ok (.isub, 1) := by decide +kernel
theorem dX7_givesArgument_38 : decode cX7_givesArgument 38 = .ok (.if_icmp .lt 7, 3) := by decide +kernel
theorem dX7_givesArgument_41 : decode cX7_givesArgument 41 = .ok (.iconst 1, 1) := by decide +kernel
theorem dX7_givesArgument_42 : decode cX7_givesArgument 42 = .ok (.goto 4, 3) := by decide +kernel
theorem dX7_givesArgument_45 : decode cX7_givesArgument 45 = .ok (.iconst 0, 1) := by decide +kernel
theorem dX7_givesArgument_46 : decode cX7_givesArgument 46 = .ok (.istore 5, 2) := by decide +kernel
theorem dX7_givesArgument_48 : decode cX7_givesArgument 48 = .ok (.aload_n 0, 1) := by decide +kernel
theorem dX7_givesArgument_49 : decode cX7_givesArgument 49 = .ok (.iload 5, 2) := by decide +kernel
theorem dX7_givesArgument_51 : decode cX7_givesArgument 51 = .ok (.ifCond .eq 15, 3) := by decide +kernel
theorem dX7_givesArgument_54 : decode cX7_givesArgument 54 = .ok (.aload_n 0, 1) := by decide +kernel
theorem dX7_givesArgument_55 : decode cX7_givesArgument 55 = .ok (.getfield 25, 3) := by decide +kernel
theorem dX7_givesArgument_58 : decode cX7_givesArgument 58 = .ok (.iload 4, 2) := by decide +kernel
theorem dX7_givesArgument_60 : decode cX7_givesArgument 60 = .ok (.iaload, 1) := by decide +kernel
theorem dX7_givesArgument_61 : decode cX7_givesArgument 61 = .ok (.iload_n 3, 1) := by decide +kernel
theorem dX7_givesArgument_62 : decode cX7_givesArgument 62 = .ok (.iadd, 1) := by decide +kernel
theorem dX7_givesArgument_63 : decode cX7_givesArgument 63 = .ok (.goto 10, 3) := by decide +kernel
theorem dX7_givesArgument_66 : decode cX7_givesArgument 66 = .ok (.aload_n 0, 1) := by decide +kernel
theorem dX7_givesArgument_67 : decode cX7_givesArgument 67 = .ok (.getfield 25, 3) := by decide +kernel
theorem dX7_givesArgument_70 : decode cX7_givesArgument 70 = .ok (.iload 4, 2) := by decide +kernel
theorem dX7_givesArgument_72 : decode cX7_givesArgument 72 = .ok (.iaload, 1) := by decide +kernel
theorem dX7_givesArgument_73 : decode cX7_givesArgument 73 = .ok (.invokevirtual 85, 3) := by decide +kernel
theorem dX7_givesArgument_76 : decode cX7_givesArgument 76 = .ok (.iinc 4 1, 3) := by decide +kernel
theorem dX7_givesArgument_79 : decode cX7_givesArgument 79 = .ok (.goto (-76), 3) := by decide +kernel
theorem dX7_givesArgument_82 : decode cX7_givesArgument 82 = .ok (.return_, 1) := by decide +kernel
theorem dX7_usesOf_0 : decode cX7_usesOf 0 = .ok (.iconst 0, 1) := by decide +kernel
theorem dX7_usesOf_1 : decode cX7_usesOf 1 = .ok (.istore_n 3, 1) := by decide +kernel
theorem dX7_usesOf_2 : decode cX7_usesOf 2 = .ok (.iload_n 1, 1) := by decide +kernel
theorem dX7_usesOf_3 : decode cX7_usesOf 3 = .ok (.iconst 1, 1) := by decide +kernel
theorem dX7_usesOf_4 : decode cX7_usesOf 4 = .ok (.iadd, 1) := by decide +kernel
theorem dX7_usesOf_5 : decode cX7_usesOf 5 = .ok (.istore 4, 2) := by decide +kernel
theorem dX7_usesOf_7 : decode cX7_usesOf 7 = .ok (.iload 4, 2) := by decide +kernel
theorem dX7_usesOf_9 : decode cX7_usesOf 9 = .ok (.iload_n 2, 1) := by decide +kernel
theorem dX7_usesOf_10 : decode cX7_usesOf 10 = .ok (.if_icmp .ge 51, 3) := by decide +kernel
theorem dX7_usesOf_13 : decode cX7_usesOf 13 = .ok (.iload_n 3, 1) := by decide +kernel
theorem dX7_usesOf_14 : decode cX7_usesOf 14 = .ok (.aload_n 0, 1) := by decide +kernel
theorem dX7_usesOf_15 : decode cX7_usesOf 15 = .ok (.iload 4, 2) := by decide +kernel
theorem dX7_usesOf_17 : decode cX7_usesOf 17 = .ok (.invokevirtual 61, 3) := by decide +kernel
theorem dX7_usesOf_20 : decode cX7_usesOf 20 = .ok (.ifCond .ne 32, 3) := by decide +kernel
theorem dX7_usesOf_23 : decode cX7_usesOf 23 = .ok (.aload_n 0, 1) := by decide +kernel
theorem dX7_usesOf_24 : decode cX7_usesOf 24 = .ok (.iload 4, 2) := by decide +kernel
theorem dX7_usesOf_26 : decode cX7_usesOf 26 = .ok (.invokevirtual 82, 3) := by decide +kernel
theorem dX7_usesOf_29 : decode cX7_usesOf 29 = .ok (.aload_n 0, 1) := by decide +kernel
theorem dX7_usesOf_30 : decode cX7_usesOf 30 = .ok (.getfield 28, 3) := by decide +kernel
theorem dX7_usesOf_33 : decode cX7_usesOf 33 = .ok (.iload 4, 2) := by decide +kernel
theorem dX7_usesOf_35 : decode cX7_usesOf 35 = .ok (.iaload, 1) := by decide +kernel
theorem dX7_usesOf_36 : decode cX7_usesOf 36 = .ok (.aload_n 0, 1) := by decide +kernel
theorem dX7_usesOf_37 : decode cX7_usesOf 37 = .ok (.getfield 28, 3) := by decide +kernel
theorem dX7_usesOf_40 : decode cX7_usesOf 40 = .ok (.iload_n 1, 1) := by decide +kernel
theorem dX7_usesOf_41 : decode cX7_usesOf 41 = .ok (.iaload, 1) := by decide +kernel
theorem dX7_usesOf_42 : decode cX7_usesOf 42 = .ok (.isub, 1) := by decide +kernel
theorem dX7_usesOf_43 : decode cX7_usesOf 43 = .ok (.iconst 1, 1) := by decide +kernel
theorem dX7_usesOf_44 : decode cX7_usesOf 44 = .ok (.isub, 1) := by decide +kernel
theorem dX7_usesOf_45 : decode cX7_usesOf 45 = .ok (.if_icmp .ne 7, 3) := by decide +kernel
theorem dX7_usesOf_48 : decode cX7_usesOf 48 = .ok (.iconst 1, 1) := by decide +kernel
theorem dX7_usesOf_49 : decode cX7_usesOf 49 = .ok (.goto 4, 3) := by decide +kernel
theorem dX7_usesOf_52 : decode cX7_usesOf 52 = .ok (.iconst 0, 1) := by decide +kernel
theorem dX7_usesOf_53 : decode cX7_usesOf 53 = .ok (.iadd, 1) := by decide +kernel
theorem dX7_usesOf_54 : decode cX7_usesOf 54 = .ok (.istore_n 3, 1) := by decide +kernel
theorem dX7_usesOf_55 : decode cX7_usesOf 55 = .ok (.iinc 4 1, 3) := by decide +kernel
theorem dX7_usesOf_58 : decode cX7_usesOf 58 = .ok (.goto (-51), 3) := by decide +kernel
theorem dX7_usesOf_61 : decode cX7_usesOf 61 = .ok (.iload_n 3, 1) := by decide +kernel
theorem dX7_usesOf_62 : decode cX7_usesOf 62 = .ok (.ireturn, 1) := by decide +kernel
theorem dX7_givesBody_0 : decode cX7_givesBody 0 = .ok (.iload_n 1, 1) := by decide +kernel
theorem dX7_givesBody_1 : decode cX7_givesBody 1 = .ok (.iconst 1, 1) := by decide +kernel
theorem dX7_givesBody_2 : decode cX7_givesBody 2 = .ok (.iadd, 1) := by decide +kernel
theorem dX7_givesBody_3 : decode cX7_givesBody 3 = .ok (.istore 4, 2) := by decide +kernel
theorem dX7_givesBody_5 : decode cX7_givesBody 5 = .ok (.iload 4, 2) := by decide +kernel
theorem dX7_givesBody_7 : decode cX7_givesBody 7 = .ok (.iload_n 2, 1) := by decide +kernel
theorem dX7_givesBody_8 : decode cX7_givesBody 8 = .ok (.if_icmp .ge 101, 3) := by decide +kernel
theorem dX7_givesBody_11 : decode cX7_givesBody 11 = .ok (.aload_n 0, 1) := by decide +kernel
theorem dX7_givesBody_12 : decode cX7_givesBody 12 = .ok (.getfield 28, 3) := by decide +kernel
theorem dX7_givesBody_15 : decode cX7_givesBody 15 = .ok (.iload 4, 2) := by decide +kernel
theorem dX7_givesBody_17 : decode cX7_givesBody 17 = .ok (.iaload, 1) := by decide +kernel
theorem dX7_givesBody_18 : decode cX7_givesBody 18 = .ok (.aload_n 0, 1) := by decide +kernel
theorem dX7_givesBody_19 : decode cX7_givesBody 19 = .ok (.getfield 28, 3) := by decide +kernel
theorem dX7_givesBody_22 : decode cX7_givesBody 22 = .ok (.iload_n 1, 1) := by decide +kernel
theorem dX7_givesBody_23 : decode cX7_givesBody 23 = .ok (.iaload, 1) := by decide +kernel
theorem dX7_givesBody_24 : decode cX7_givesBody 24 = .ok (.isub, 1) := by decide +kernel
theorem dX7_givesBody_25 : decode cX7_givesBody 25 = .ok (.iconst 1, 1) := by decide +kernel
theorem dX7_givesBody_26 : decode cX7_givesBody 26 = .ok (.isub, 1) := by decide +kernel
theorem dX7_givesBody_27 : decode cX7_givesBody 27 = .ok (.istore 5, 2) := by decide +kernel
theorem dX7_givesBody_29 : decode cX7_givesBody 29 = .ok (.aload_n 0, 1) := by decide +kernel
theorem dX7_givesBody_30 : decode cX7_givesBody 30 = .ok (.iload 4, 2) := by decide +kernel
theorem dX7_givesBody_32 : decode cX7_givesBody 32 = .ok (.invokevirtual 82, 3) := by decide +kernel
theorem dX7_givesBody_35 : decode cX7_givesBody 35 = .ok (.istore 6, 2) := by decide +kernel
theorem dX7_givesBody_37 : decode cX7_givesBody 37 = .ok (.aload_n 0, 1) := by decide +kernel
theorem dX7_givesBody_38 : decode cX7_givesBody 38 = .ok (.iload 4, 2) := by decide +kernel
theorem dX7_givesBody_40 : decode cX7_givesBody 40 = .ok (.invokevirtual 61, 3) := by decide +kernel
theorem dX7_givesBody_43 : decode cX7_givesBody 43 = .ok (.ifCond .ne 21, 3) := by decide +kernel
theorem dX7_givesBody_46 : decode cX7_givesBody 46 = .ok (.iload 6, 2) := by decide +kernel
theorem dX7_givesBody_48 : decode cX7_givesBody 48 = .ok (.iload 5, 2) := by decide +kernel
theorem dX7_givesBody_50 : decode cX7_givesBody 50 = .ok (.if_icmp .ne 14, 3) := by decide +kernel
theorem dX7_givesBody_53 : decode cX7_givesBody 53 = .ok (.aload_n 0, 1) := by decide +kernel
theorem dX7_givesBody_54 : decode cX7_givesBody 54 = .ok (.iload_n 2, 1) := by decide +kernel
theorem dX7_givesBody_55 : decode cX7_givesBody 55 = .ok (.iload_n 3, 1) := by decide +kernel
theorem dX7_givesBody_56 : decode cX7_givesBody 56 = .ok (.iload 5, 2) := by decide +kernel
theorem dX7_givesBody_58 : decode cX7_givesBody 58 = .ok (.invokevirtual 89, 3) := by decide +kernel
theorem dX7_givesBody_61 : decode cX7_givesBody 61 = .ok (.goto 42, 3) := by decide +kernel
theorem dX7_givesBody_64 : decode cX7_givesBody 64 = .ok (.aload_n 0, 1) := by decide +kernel
theorem dX7_givesBody_65 : decode cX7_givesBody 65 = .ok (.aload_n 0, 1) := by decide +kernel
theorem dX7_givesBody_66 : decode cX7_givesBody 66 = .ok (.iload 4, 2) := by decide +kernel
theorem dX7_givesBody_68 : decode cX7_givesBody 68 = .ok (.invokevirtual 61, 3) := by decide +kernel
theorem dX7_givesBody_71 : decode cX7_givesBody 71 = .ok (.ifCond .ne 22, 3) := by decide +kernel
theorem dX7_givesBody_74 : decode cX7_givesBody 74 = .ok (.iload 6, 2) := by decide +kernel
theorem dX7_givesBody_76 : decode cX7_givesBody 76 = .ok (.iload 5, 2) := by decide +kernel
theorem dX7_givesBody_78 : decode cX7_givesBody 78 = .ok (.if_icmp .le 15, 3) := by decide +kernel
theorem dX7_givesBody_81 : decode cX7_givesBody 81 = .ok (.aload_n 0, 1) := by decide +kernel
theorem dX7_givesBody_82 : decode cX7_givesBody 82 = .ok (.getfield 25, 3) := by decide +kernel
theorem dX7_givesBody_85 : decode cX7_givesBody 85 = .ok (.iload 4, 2) := by decide +kernel
theorem dX7_givesBody_87 : decode cX7_givesBody 87 = .ok (.iaload, 1) := by decide +kernel
theorem dX7_givesBody_88 : decode cX7_givesBody 88 = .ok (.iconst 1, 1) := by decide +kernel
theorem dX7_givesBody_89 : decode cX7_givesBody 89 = .ok (.isub, 1) := by decide +kernel
theorem dX7_givesBody_90 : decode cX7_givesBody 90 = .ok (.goto 10, 3) := by decide +kernel
theorem dX7_givesBody_93 : decode cX7_givesBody 93 = .ok (.aload_n 0, 1) := by decide +kernel
theorem dX7_givesBody_94 : decode cX7_givesBody 94 = .ok (.getfield 25, 3) := by decide +kernel
theorem dX7_givesBody_97 : decode cX7_givesBody 97 = .ok (.iload 4, 2) := by decide +kernel
theorem dX7_givesBody_99 : decode cX7_givesBody 99 = .ok (.iaload, 1) := by decide +kernel
theorem dX7_givesBody_100 : decode cX7_givesBody 100 = .ok (.invokevirtual 85, 3) := by decide +kernel
theorem dX7_givesBody_103 : decode cX7_givesBody 103 = .ok (.iinc 4 1, 3) := by decide +kernel
theorem dX7_givesBody_106 : decode cX7_givesBody 106 = .ok (.goto (-101), 3) := by decide +kernel
theorem dX7_givesBody_109 : decode cX7_givesBody 109 = .ok (.return_, 1) := by decide +kernel
theorem dX7_goes_0 : decode cX7_goes 0 = .ok (.aload_n 0, 1) := by decide +kernel
theorem dX7_goes_1 : decode cX7_goes 1 = .ok (.iload_n 1, 1) := by decide +kernel
theorem dX7_goes_2 : decode cX7_goes 2 = .ok (.invokevirtual 93, 3) := by decide +kernel
theorem dX7_goes_5 : decode cX7_goes 5 = .ok (.istore_n 2, 1) := by decide +kernel
theorem dX7_goes_6 : decode cX7_goes 6 = .ok (.iload_n 2, 1) := by decide +kernel
theorem dX7_goes_7 : decode cX7_goes 7 = .ok (.bipush (-6), 2) := by decide +kernel
theorem dX7_goes_9 : decode cX7_goes 9 = .ok (.if_icmp .ne 5, 3) := by decide +kernel
theorem dX7_goes_12 : decode cX7_goes 12 = .ok (.iconst 1, 1) := by decide +kernel
theorem dX7_goes_13 : decode cX7_goes 13 = .ok (.ireturn, 1) := by decide +kernel
theorem dX7_goes_14 : decode cX7_goes 14 = .ok (.aload_n 0, 1) := by decide +kernel
theorem dX7_goes_15 : decode cX7_goes 15 = .ok (.iload_n 2, 1) := by decide +kernel
theorem dX7_goes_16 : decode cX7_goes 16 = .ok (.iconst 1, 1) := by decide +kernel
theorem dX7_goes_17 : decode cX7_goes 17 = .ok (.iadd, 1) := by decide +kernel
theorem dX7_goes_18 : decode cX7_goes 18 = .ok (.invokevirtual 69, 3) := by decide +kernel
theorem dX7_goes_21 : decode cX7_goes 21 = .ok (.istore_n 3, 1) := by decide +kernel
theorem dX7_goes_22 : decode cX7_goes 22 = .ok (.aload_n 0, 1) := by decide +kernel
theorem dX7_goes_23 : decode cX7_goes 23 = .ok (.iload_n 3, 1) := by decide +kernel
theorem dX7_goes_24 : decode cX7_goes 24 = .ok (.invokevirtual 69, 3) := by decide +kernel
theorem dX7_goes_27 : decode cX7_goes 27 = .ok (.istore 4, 2) := by decide +kernel
theorem dX7_goes_29 : decode cX7_goes 29 = .ok (.aload_n 0, 1) := by decide +kernel
theorem dX7_goes_30 : decode cX7_goes 30 = .ok (.iload_n 2, 1) := by decide +kernel
theorem dX7_goes_31 : decode cX7_goes 31 = .ok (.iconst 1, 1) := by decide +kernel
theorem dX7_goes_32 : decode cX7_goes 32 = .ok (.iadd, 1) := by decide +kernel
theorem dX7_goes_33 : decode cX7_goes 33 = .ok (.iload_n 3, 1) := by decide +kernel
theorem dX7_goes_34 : decode cX7_goes 34 = .ok (.invokevirtual 96, 3) := by decide +kernel
theorem dX7_goes_37 : decode cX7_goes 37 = .ok (.istore 5, 2) := by decide +kernel
theorem dX7_goes_39 : decode cX7_goes 39 = .ok (.aload_n 0, 1) := by decide +kernel
theorem dX7_goes_40 : decode cX7_goes 40 = .ok (.getfield 55, 3) := by decide +kernel
theorem dX7_goes_43 : decode cX7_goes 43 = .ok (.iload 4, 2) := by decide +kernel
theorem dX7_goes_45 : decode cX7_goes 45 = .ok (.iload_n 2, 1) := by decide +kernel
theorem dX7_goes_46 : decode cX7_goes 46 = .ok (.isub, 1) := by decide +kernel
theorem dX7_goes_47 : decode cX7_goes 47 = .ok (.isub, 1) := by decide +kernel
theorem dX7_goes_48 : decode cX7_goes 48 = .ok (.iload_n 3, 1) := by decide +kernel
theorem dX7_goes_49 : decode cX7_goes 49 = .ok (.iload_n 2, 1) := by decide +kernel
theorem dX7_goes_50 : decode cX7_goes 50 = .ok (.isub, 1) := by decide +kernel
theorem dX7_goes_51 : decode cX7_goes 51 = .ok (.iconst 2, 1) := by decide +kernel
theorem dX7_goes_52 : decode cX7_goes 52 = .ok (.isub, 1) := by decide +kernel
theorem dX7_goes_53 : decode cX7_goes 53 = .ok (.iload 5, 2) := by decide +kernel
theorem dX7_goes_55 : decode cX7_goes 55 = .ok (.isub, 1) := by decide +kernel
theorem dX7_goes_56 : decode cX7_goes 56 = .ok (.iadd, 1) := by decide +kernel
theorem dX7_goes_57 : decode cX7_goes 57 = .ok (.iload 5, 2) := by decide +kernel
theorem dX7_goes_59 : decode cX7_goes 59 = .ok (.iload 4, 2) := by decide +kernel
theorem dX7_goes_61 : decode cX7_goes 61 = .ok (.iload_n 3, 1) := by decide +kernel
theorem dX7_goes_62 : decode cX7_goes 62 = .ok (.isub, 1) := by decide +kernel
theorem dX7_goes_63 : decode cX7_goes 63 = .ok (.imul, 1) := by decide +kernel
theorem dX7_goes_64 : decode cX7_goes 64 = .ok (.iadd, 1) := by decide +kernel
theorem dX7_goes_65 : decode cX7_goes 65 = .ok (.istore 6, 2) := by decide +kernel
theorem dX7_goes_67 : decode cX7_goes 67 = .ok (.iload 6, 2) := by decide +kernel
theorem dX7_goes_69 : decode cX7_goes 69 = .ok (.sipush 200, 3) := by decide +kernel
theorem dX7_goes_72 : decode cX7_goes 72 = .ok (.if_icmp .le 5, 3) := by decide +kernel
theorem dX7_goes_75 : decode cX7_goes 75 = .ok (.iconst 2, 1) := by decide +kernel
theorem dX7_goes_76 : decode cX7_goes 76 = .ok (.ireturn, 1) := by decide +kernel
theorem dX7_goes_77 : decode cX7_goes 77 = .ok (.aload_n 0, 1) := by decide +kernel
theorem dX7_goes_78 : decode cX7_goes 78 = .ok (.iconst 0, 1) := by decide +kernel
theorem dX7_goes_79 : decode cX7_goes 79 = .ok (.putfield 79, 3) := by decide +kernel
theorem dX7_goes_82 : decode cX7_goes 82 = .ok (.iconst 0, 1) := by decide +kernel
theorem dX7_goes_83 : decode cX7_goes 83 = .ok (.istore 7, 2) := by decide +kernel
theorem dX7_goes_85 : decode cX7_goes 85 = .ok (.iload 7, 2) := by decide +kernel
theorem dX7_goes_87 : decode cX7_goes 87 = .ok (.iload_n 2, 1) := by decide +kernel
theorem dX7_goes_88 : decode cX7_goes 88 = .ok (.if_icmp .ge 20, 3) := by decide +kernel
theorem dX7_goes_91 : decode cX7_goes 91 = .ok (.aload_n 0, 1) := by decide +kernel
theorem dX7_goes_92 : decode cX7_goes 92 = .ok (.aload_n 0, 1) := by decide +kernel
theorem dX7_goes_93 : decode cX7_goes 93 = .ok (.getfield 25, 3) := by decide +kernel
theorem dX7_goes_96 : decode cX7_goes 96 = .ok (.iload 7, 2) := by decide +kernel
theorem dX7_goes_98 : decode cX7_goes 98 = .ok (.iaload, 1) := by decide +kernel
theorem dX7_goes_99 : decode cX7_goes 99 = .ok (.invokevirtual 85, 3) := by decide +kernel
theorem dX7_goes_102 : decode cX7_goes 102 = .ok (.iinc 7 1, 3) := by decide +kernel
theorem dX7_goes_105 : decode cX7_goes 105 = .ok (.goto (-20), 3) := by decide +kernel
theorem dX7_goes_108 : decode cX7_goes 108 = .ok (.aload_n 0, 1) := by decide +kernel
theorem dX7_goes_109 : decode cX7_goes 109 = .ok (.iload_n 2, 1) := by decide +kernel
theorem dX7_goes_110 : decode cX7_goes 110 = .ok (.iconst 1, 1) := by decide +kernel
theorem dX7_goes_111 : decode cX7_goes 111 = .ok (.iadd, 1) := by decide +kernel
theorem dX7_goes_112 : decode cX7_goes 112 = .ok (.iload_n 3, 1) := by decide +kernel
theorem dX7_goes_113 : decode cX7_goes 113 = .ok (.iload 4, 2) := by decide +kernel
theorem dX7_goes_115 : decode cX7_goes 115 = .ok (.invokevirtual 100, 3) := by decide +kernel
theorem dX7_goes_118 : decode cX7_goes 118 = .ok (.iload 4, 2) := by decide +kernel
theorem dX7_goes_120 : decode cX7_goes 120 = .ok (.istore 7, 2) := by decide +kernel
theorem dX7_goes_122 : decode cX7_goes 122 = .ok (.iload 7, 2) := by decide +kernel
theorem dX7_goes_124 : decode cX7_goes 124 = .ok (.aload_n 0, 1) := by decide +kernel
theorem dX7_goes_125 : decode cX7_goes 125 = .ok (.getfield 55, 3) := by decide +kernel
theorem dX7_goes_128 : decode cX7_goes 128 = .ok (.if_icmp .ge 20, 3) := by decide +kernel
theorem dX7_goes_131 : decode cX7_goes 131 = .ok (.aload_n 0, 1) := by decide +kernel
theorem dX7_goes_132 : decode cX7_goes 132 = .ok (.aload_n 0, 1) := by decide +kernel
theorem dX7_goes_133 : decode cX7_goes 133 = .ok (.getfield 25, 3) := by decide +kernel
theorem dX7_goes_136 : decode cX7_goes 136 = .ok (.iload 7, 2) := by decide +kernel
theorem dX7_goes_138 : decode cX7_goes 138 = .ok (.iaload, 1) := by decide +kernel
theorem dX7_goes_139 : decode cX7_goes 139 = .ok (.invokevirtual 85, 3) := by decide +kernel
theorem dX7_goes_142 : decode cX7_goes 142 = .ok (.iinc 7 1, 3) := by decide +kernel
theorem dX7_goes_145 : decode cX7_goes 145 = .ok (.goto (-23), 3) := by decide +kernel
theorem dX7_goes_148 : decode cX7_goes 148 = .ok (.aload_n 0, 1) := by decide +kernel
theorem dX7_goes_149 : decode cX7_goes 149 = .ok (.aload_n 0, 1) := by decide +kernel
theorem dX7_goes_150 : decode cX7_goes 150 = .ok (.getfield 79, 3) := by decide +kernel
theorem dX7_goes_153 : decode cX7_goes 153 = .ok (.putfield 55, 3) := by decide +kernel
theorem dX7_goes_156 : decode cX7_goes 156 = .ok (.aload_n 0, 1) := by decide +kernel
theorem dX7_goes_157 : decode cX7_goes 157 = .ok (.getfield 31, 3) := by decide +kernel
theorem dX7_goes_160 : decode cX7_goes 160 = .ok (.iconst 0, 1) := by decide +kernel
theorem dX7_goes_161 : decode cX7_goes 161 = .ok (.aload_n 0, 1) := by decide +kernel
theorem dX7_goes_162 : decode cX7_goes 162 = .ok (.getfield 25, 3) := by decide +kernel
theorem dX7_goes_165 : decode cX7_goes 165 = .ok (.iconst 0, 1) := by decide +kernel
theorem dX7_goes_166 : decode cX7_goes 166 = .ok (.aload_n 0, 1) := by decide +kernel
theorem dX7_goes_167 : decode cX7_goes 167 = .ok (.getfield 55, 3) := by decide +kernel
theorem dX7_goes_170 : decode cX7_goes 170 = .ok (.invokestatic 47, 3) := by decide +kernel
theorem dX7_goes_173 : decode cX7_goes 173 = .ok (.aload_n 0, 1) := by decide +kernel
theorem dX7_goes_174 : decode cX7_goes 174 = .ok (.invokevirtual 58, 3) := by decide +kernel
theorem dX7_goes_177 : decode cX7_goes 177 = .ok (.iconst 0, 1) := by decide +kernel
theorem dX7_goes_178 : decode cX7_goes 178 = .ok (.ireturn, 1) := by decide +kernel
theorem dX7_goesOn_0 : decode cX7_goesOn 0 = .ok (.iconst 0, 1) := by decide +kernel
theorem dX7_goesOn_1 : decode cX7_goesOn 1 = .ok (.istore_n 3, 1) := by decide +kernel
theorem dX7_goesOn_2 : decode cX7_goesOn 2 = .ok (.iconst 0, 1) := by decide +kernel
theorem dX7_goesOn_3 : decode cX7_goesOn 3 = .ok (.istore 4, 2) := by decide +kernel
theorem dX7_goesOn_5 : decode cX7_goesOn 5 = .ok (.iload 4, 2) := by decide +kernel
theorem dX7_goesOn_7 : decode cX7_goesOn 7 = .ok (.ifCond .ne 31, 3) := by decide +kernel
theorem dX7_goesOn_10 : decode cX7_goesOn 10 = .ok (.iload_n 3, 1) := by decide +kernel
theorem dX7_goesOn_11 : decode cX7_goesOn 11 = .ok (.iload_n 2, 1) := by decide +kernel
theorem dX7_goesOn_12 : decode cX7_goesOn 12 = .ok (.if_icmp .ge 26, 3) := by decide +kernel
theorem dX7_goesOn_15 : decode cX7_goesOn 15 = .ok (.aload_n 0, 1) := by decide +kernel
theorem dX7_goesOn_16 : decode cX7_goesOn 16 = .ok (.iload_n 1, 1) := by decide +kernel
theorem dX7_goesOn_17 : decode cX7_goesOn 17 = .ok (.invokevirtual 103, 3) := by decide +kernel
theorem dX7_goesOn_20 : decode cX7_goesOn 20 = .ok (.istore 4, 2) := by decide +kernel
theorem dX7_goesOn_22 : decode cX7_goesOn 22 = .ok (.iload_n 3, 1) := by decide +kernel
theorem dX7_goesOn_23 : decode cX7_goesOn 23 = .ok (.iload 4, 2) := by decide +kernel
theorem dX7_goesOn_25 : decode cX7_goesOn 25 = .ok (.ifCond .ne 7, 3) := by decide +kernel
theorem dX7_goesOn_28 : decode cX7_goesOn 28 = .ok (.iconst 1, 1) := by decide +kernel
theorem dX7_goesOn_29 : decode cX7_goesOn 29 = .ok (.goto 4, 3) := by decide +kernel
theorem dX7_goesOn_32 : decode cX7_goesOn 32 = .ok (.iconst 0, 1) := by decide +kernel
theorem dX7_goesOn_33 : decode cX7_goesOn 33 = .ok (.iadd, 1) := by decide +kernel
theorem dX7_goesOn_34 : decode cX7_goesOn 34 = .ok (.istore_n 3, 1) := by decide +kernel
theorem dX7_goesOn_35 : decode cX7_goesOn 35 = .ok (.goto (-30), 3) := by decide +kernel
theorem dX7_goesOn_38 : decode cX7_goesOn 38 = .ok (.iload 4, 2) := by decide +kernel
theorem dX7_goesOn_40 : decode cX7_goesOn 40 = .ok (.iconst 1, 1) := by decide +kernel
theorem dX7_goesOn_41 : decode cX7_goesOn 41 = .ok (.if_icmp .eq 18, 3) := by decide +kernel
theorem dX7_goesOn_44 : decode cX7_goesOn 44 = .ok (.iload 4, 2) := by decide +kernel
theorem dX7_goesOn_46 : decode cX7_goesOn 46 = .ok (.ifCond .ne 17, 3) := by decide +kernel
theorem dX7_goesOn_49 : decode cX7_goesOn 49 = .ok (.aload_n 0, 1) := by decide +kernel
theorem dX7_goesOn_50 : decode cX7_goesOn 50 = .ok (.iload_n 1, 1) := by decide +kernel
theorem dX7_goesOn_51 : decode cX7_goesOn 51 = .ok (.invokevirtual 93, 3) := by decide +kernel
theorem dX7_goesOn_54 : decode cX7_goesOn 54 = .ok (.bipush (-6), 2) := by decide +kernel
theorem dX7_goesOn_56 : decode cX7_goesOn 56 = .ok (.if_icmp .ne 7, 3) := by decide +kernel
theorem dX7_goesOn_59 : decode cX7_goesOn 59 = .ok (.iconst 1, 1) := by decide +kernel
theorem dX7_goesOn_60 : decode cX7_goesOn 60 = .ok (.goto 4, 3) := by decide +kernel
theorem dX7_goesOn_63 : decode cX7_goesOn 63 = .ok (.iconst 0, 1) := by decide +kernel
theorem dX7_goesOn_64 : decode cX7_goesOn 64 = .ok (.istore 5, 2) := by decide +kernel
theorem dX7_goesOn_66 : decode cX7_goesOn 66 = .ok (.iload 5, 2) := by decide +kernel
theorem dX7_goesOn_68 : decode cX7_goesOn 68 = .ok (.ifCond .eq 7, 3) := by decide +kernel
theorem dX7_goesOn_71 : decode cX7_goesOn 71 = .ok (.iload_n 3, 1) := by decide +kernel
theorem dX7_goesOn_72 : decode cX7_goesOn 72 = .ok (.goto 6, 3) := by decide +kernel
theorem dX7_goesOn_75 : decode cX7_goesOn 75 = .ok (.iconst (-1), 1) := by decide +kernel
theorem dX7_goesOn_76 : decode cX7_goesOn 76 = .ok (.iload_n 3, 1) := by decide +kernel
theorem dX7_goesOn_77 : decode cX7_goesOn 77 = .ok (.isub, 1) := by decide +kernel
theorem dX7_goesOn_78 : decode cX7_goesOn 78 = .ok (.ireturn, 1) := by decide +kernel
theorem dX7_read_0 : decode cX7_read 0 = .ok (.iload_n 1, 1) := by decide +kernel
theorem dX7_read_1 : decode cX7_read 1 = .ok (.invokestatic 106, 3) := by decide +kernel
theorem dX7_read_4 : decode cX7_read 4 = .ok (.ifCond .ne 5, 3) := by decide +kernel
theorem dX7_read_7 : decode cX7_read 7 = .ok (.iconst (-1), 1) := by decide +kernel
theorem dX7_read_8 : decode cX7_read 8 = .ok (.ireturn, 1) := by decide +kernel
theorem dX7_read_9 : decode cX7_read 9 = .ok (.aload_n 0, 1) := by decide +kernel
theorem dX7_read_10 : decode cX7_read 10 = .ok (.invokevirtual 109, 3) := by decide +kernel
theorem dX7_read_13 : decode cX7_read 13 = .ok (.bipush (-6), 2) := by decide +kernel
theorem dX7_read_15 : decode cX7_read 15 = .ok (.if_icmp .eq 6, 3) := by decide +kernel
theorem dX7_read_18 : decode cX7_read 18 = .ok (.bipush (-3), 2) := by decide +kernel
theorem dX7_read_20 : decode cX7_read 20 = .ok (.ireturn, 1) := by decide +kernel
theorem dX7_read_21 : decode cX7_read 21 = .ok (.aload_n 0, 1) := by decide +kernel
theorem dX7_read_22 : decode cX7_read 22 = .ok (.invokevirtual 113, 3) := by decide +kernel
theorem dX7_read_25 : decode cX7_read 25 = .ok (.aload_n 0, 1) := by decide +kernel
theorem dX7_read_26 : decode cX7_read 26 = .ok (.aload_n 0, 1) := by decide +kernel
theorem dX7_read_27 : decode cX7_read 27 = .ok (.getfield 116, 3) := by decide +kernel
theorem dX7_read_30 : decode cX7_read 30 = .ok (.putfield 55, 3) := by decide +kernel
theorem dX7_read_33 : decode cX7_read 33 = .ok (.iconst 0, 1) := by decide +kernel
theorem dX7_read_34 : decode cX7_read 34 = .ok (.istore_n 2, 1) := by decide +kernel
theorem dX7_read_35 : decode cX7_read 35 = .ok (.iload_n 2, 1) := by decide +kernel
theorem dX7_read_36 : decode cX7_read 36 = .ok (.aload_n 0, 1) := by decide +kernel
theorem dX7_read_37 : decode cX7_read 37 = .ok (.getfield 116, 3) := by decide +kernel
theorem dX7_read_40 : decode cX7_read 40 = .ok (.if_icmp .ge 24, 3) := by decide +kernel
theorem dX7_read_43 : decode cX7_read 43 = .ok (.aload_n 0, 1) := by decide +kernel
theorem dX7_read_44 : decode cX7_read 44 = .ok (.getfield 25, 3) := by decide +kernel
theorem dX7_read_47 : decode cX7_read 47 = .ok (.iload_n 2, 1) := by decide +kernel
theorem dX7_read_48 : decode cX7_read 48 = .ok (.aload_n 0, 1) := by decide +kernel
theorem dX7_read_49 : decode cX7_read 49 = .ok (.getfield 22, 3) := by decide +kernel
theorem dX7_read_52 : decode cX7_read 52 = .ok (.iload_n 2, 1) := by decide +kernel
theorem dX7_read_53 : decode cX7_read 53 = .ok (.iaload, 1) := by decide +kernel
theorem dX7_read_54 : decode cX7_read 54 = .ok (.invokestatic 119, 3) := by decide +kernel
theorem dX7_read_57 : decode cX7_read 57 = .ok (.iastore, 1) := by decide +kernel
theorem dX7_read_58 : decode cX7_read 58 = .ok (.iinc 2 1, 3) := by decide +kernel
theorem dX7_read_61 : decode cX7_read 61 = .ok (.goto (-26), 3) := by decide +kernel
theorem dX7_read_64 : decode cX7_read 64 = .ok (.aload_n 0, 1) := by decide +kernel
theorem dX7_read_65 : decode cX7_read 65 = .ok (.iconst 0, 1) := by decide +kernel
theorem dX7_read_66 : decode cX7_read 66 = .ok (.putfield 116, 3) := by decide +kernel
theorem dX7_read_69 : decode cX7_read 69 = .ok (.aload_n 0, 1) := by decide +kernel
theorem dX7_read_70 : decode cX7_read 70 = .ok (.iload_n 1, 1) := by decide +kernel
theorem dX7_read_71 : decode cX7_read 71 = .ok (.invokevirtual 122, 3) := by decide +kernel
theorem dX7_read_74 : decode cX7_read 74 = .ok (.aload_n 0, 1) := by decide +kernel
theorem dX7_read_75 : decode cX7_read 75 = .ok (.getfield 55, 3) := by decide +kernel
theorem dX7_read_78 : decode cX7_read 78 = .ok (.ireturn, 1) := by decide +kernel
theorem dX7_copy_0 : decode cX7_copy 0 = .ok (.iload_n 1, 1) := by decide +kernel
theorem dX7_copy_1 : decode cX7_copy 1 = .ok (.invokestatic 106, 3) := by decide +kernel
theorem dX7_copy_4 : decode cX7_copy 4 = .ok (.ifCond .eq 10, 3) := by decide +kernel
theorem dX7_copy_7 : decode cX7_copy 7 = .ok (.iload_n 2, 1) := by decide +kernel
theorem dX7_copy_8 : decode cX7_copy 8 = .ok (.invokestatic 106, 3) := by decide +kernel
theorem dX7_copy_11 : decode cX7_copy 11 = .ok (.ifCond .ne 5, 3) := by decide +kernel
theorem dX7_copy_14 : decode cX7_copy 14 = .ok (.iconst (-1), 1) := by decide +kernel
theorem dX7_copy_15 : decode cX7_copy 15 = .ok (.ireturn, 1) := by decide +kernel
theorem dX7_copy_16 : decode cX7_copy 16 = .ok (.aload_n 0, 1) := by decide +kernel
theorem dX7_copy_17 : decode cX7_copy 17 = .ok (.invokevirtual 113, 3) := by decide +kernel
theorem dX7_copy_20 : decode cX7_copy 20 = .ok (.aload_n 0, 1) := by decide +kernel
theorem dX7_copy_21 : decode cX7_copy 21 = .ok (.iload_n 1, 1) := by decide +kernel
theorem dX7_copy_22 : decode cX7_copy 22 = .ok (.invokevirtual 125, 3) := by decide +kernel
theorem dX7_copy_25 : decode cX7_copy 25 = .ok (.aload_n 0, 1) := by decide +kernel
theorem dX7_copy_26 : decode cX7_copy 26 = .ok (.iload_n 2, 1) := by decide +kernel
theorem dX7_copy_27 : decode cX7_copy 27 = .ok (.invokevirtual 122, 3) := by decide +kernel
theorem dX7_copy_30 : decode cX7_copy 30 = .ok (.aload_n 0, 1) := by decide +kernel
theorem dX7_copy_31 : decode cX7_copy 31 = .ok (.getfield 55, 3) := by decide +kernel
theorem dX7_copy_34 : decode cX7_copy 34 = .ok (.ireturn, 1) := by decide +kernel
theorem dX7_apply_0 : decode cX7_apply 0 = .ok (.iload_n 1, 1) := by decide +kernel
theorem dX7_apply_1 : decode cX7_apply 1 = .ok (.invokestatic 106, 3) := by decide +kernel
theorem dX7_apply_4 : decode cX7_apply 4 = .ok (.ifCond .eq 17, 3) := by decide +kernel
theorem dX7_apply_7 : decode cX7_apply 7 = .ok (.iload_n 2, 1) := by decide +kernel
theorem dX7_apply_8 : decode cX7_apply 8 = .ok (.invokestatic 106, 3) := by decide +kernel
theorem dX7_apply_11 : decode cX7_apply 11 = .ok (.ifCond .eq 10, 3) := by decide +kernel
theorem dX7_apply_14 : decode cX7_apply 14 = .ok (.iload_n 3, 1) := by decide +kernel
theorem dX7_apply_15 : decode cX7_apply 15 = .ok (.invokestatic 106, 3) := by decide +kernel
theorem dX7_apply_18 : decode cX7_apply 18 = .ok (.ifCond .ne 5, 3) := by decide +kernel
theorem dX7_apply_21 : decode cX7_apply 21 = .ok (.iconst (-1), 1) := by decide +kernel
theorem dX7_apply_22 : decode cX7_apply 22 = .ok (.ireturn, 1) := by decide +kernel
theorem dX7_apply_23 : decode cX7_apply 23 = .ok (.iconst 1, 1) := by decide +kernel
theorem dX7_apply_24 : decode cX7_apply 24 = .ok (.aload_n 0, 1) := by decide +kernel
theorem dX7_apply_25 : decode cX7_apply 25 = .ok (.getfield 7, 3) := by decide +kernel
theorem dX7_apply_28 : decode cX7_apply 28 = .ok (.iload_n 1, 1) := by decide +kernel
theorem dX7_apply_29 : decode cX7_apply 29 = .ok (.iaload, 1) := by decide +kernel
theorem dX7_apply_30 : decode cX7_apply 30 = .ok (.iadd, 1) := by decide +kernel
theorem dX7_apply_31 : decode cX7_apply 31 = .ok (.aload_n 0, 1) := by decide +kernel
theorem dX7_apply_32 : decode cX7_apply 32 = .ok (.getfield 7, 3) := by decide +kernel
theorem dX7_apply_35 : decode cX7_apply 35 = .ok (.iload_n 2, 1) := by decide +kernel
theorem dX7_apply_36 : decode cX7_apply 36 = .ok (.iaload, 1) := by decide +kernel
theorem dX7_apply_37 : decode cX7_apply 37 = .ok (.iadd, 1) := by decide +kernel
theorem dX7_apply_38 : decode cX7_apply 38 = .ok (.istore 4, 2) := by decide +kernel
theorem dX7_apply_40 : decode cX7_apply 40 = .ok (.iload 4, 2) := by decide +kernel
theorem dX7_apply_42 : decode cX7_apply 42 = .ok (.sipush 200, 3) := by decide +kernel
theorem dX7_apply_45 : decode cX7_apply 45 = .ok (.if_icmp .le 6, 3) := by decide +kernel
theorem dX7_apply_48 : decode cX7_apply 48 = .ok (.bipush (-4), 2) := by decide +kernel
theorem dX7_apply_50 : decode cX7_apply 50 = .ok (.ireturn, 1) := by decide +kernel
theorem dX7_apply_51 : decode cX7_apply 51 = .ok (.aload_n 0, 1) := by decide +kernel
theorem dX7_apply_52 : decode cX7_apply 52 = .ok (.invokevirtual 113, 3) := by decide +kernel
theorem dX7_apply_55 : decode cX7_apply 55 = .ok (.aload_n 0, 1) := by decide +kernel
theorem dX7_apply_56 : decode cX7_apply 56 = .ok (.getfield 25, 3) := by decide +kernel
theorem dX7_apply_59 : decode cX7_apply 59 = .ok (.iconst 0, 1) := by decide +kernel
theorem dX7_apply_60 : decode cX7_apply 60 = .ok (.sipush 3000, 3) := by decide +kernel
theorem dX7_apply_63 : decode cX7_apply 63 = .ok (.iastore, 1) := by decide +kernel
theorem dX7_apply_64 : decode cX7_apply 64 = .ok (.aload_n 0, 1) := by decide +kernel
theorem dX7_apply_65 : decode cX7_apply 65 = .ok (.getfield 7, 3) := by decide +kernel
theorem dX7_apply_68 : decode cX7_apply 68 = .ok (.bipush 6, 2) := by decide +kernel
theorem dX7_apply_70 : decode cX7_apply 70 = .ok (.sipush 200, 3) := by decide +kernel
theorem dX7_apply_73 : decode cX7_apply 73 = .ok (.iload_n 1, 1) := by decide +kernel
theorem dX7_apply_74 : decode cX7_apply 74 = .ok (.imul, 1) := by decide +kernel
theorem dX7_apply_75 : decode cX7_apply 75 = .ok (.iadd, 1) := by decide +kernel
theorem dX7_apply_76 : decode cX7_apply 76 = .ok (.aload_n 0, 1) := by decide +kernel
theorem dX7_apply_77 : decode cX7_apply 77 = .ok (.getfield 25, 3) := by decide +kernel
theorem dX7_apply_80 : decode cX7_apply 80 = .ok (.iconst 1, 1) := by decide +kernel
theorem dX7_apply_81 : decode cX7_apply 81 = .ok (.aload_n 0, 1) := by decide +kernel
theorem dX7_apply_82 : decode cX7_apply 82 = .ok (.getfield 7, 3) := by decide +kernel
theorem dX7_apply_85 : decode cX7_apply 85 = .ok (.iload_n 1, 1) := by decide +kernel
theorem dX7_apply_86 : decode cX7_apply 86 = .ok (.iaload, 1) := by decide +kernel
theorem dX7_apply_87 : decode cX7_apply 87 = .ok (.invokestatic 47, 3) := by decide +kernel
theorem dX7_apply_90 : decode cX7_apply 90 = .ok (.aload_n 0, 1) := by decide +kernel
theorem dX7_apply_91 : decode cX7_apply 91 = .ok (.getfield 7, 3) := by decide +kernel
theorem dX7_apply_94 : decode cX7_apply 94 = .ok (.bipush 6, 2) := by decide +kernel
theorem dX7_apply_96 : decode cX7_apply 96 = .ok (.sipush 200, 3) := by decide +kernel
theorem dX7_apply_99 : decode cX7_apply 99 = .ok (.iload_n 2, 1) := by decide +kernel
theorem dX7_apply_100 : decode cX7_apply 100 = .ok (.imul, 1) := by decide +kernel
theorem dX7_apply_101 : decode cX7_apply 101 = .ok (.iadd, 1) := by decide +kernel
theorem dX7_apply_102 : decode cX7_apply 102 = .ok (.aload_n 0, 1) := by decide +kernel
theorem dX7_apply_103 : decode cX7_apply 103 = .ok (.getfield 25, 3) := by decide +kernel
theorem dX7_apply_106 : decode cX7_apply 106 = .ok (.iconst 1, 1) := by decide +kernel
theorem dX7_apply_107 : decode cX7_apply 107 = .ok (.aload_n 0, 1) := by decide +kernel
theorem dX7_apply_108 : decode cX7_apply 108 = .ok (.getfield 7, 3) := by decide +kernel
theorem dX7_apply_111 : decode cX7_apply 111 = .ok (.iload_n 1, 1) := by decide +kernel
theorem dX7_apply_112 : decode cX7_apply 112 = .ok (.iaload, 1) := by decide +kernel
theorem dX7_apply_113 : decode cX7_apply 113 = .ok (.iadd, 1) := by decide +kernel
theorem dX7_apply_114 : decode cX7_apply 114 = .ok (.aload_n 0, 1) := by decide +kernel
theorem dX7_apply_115 : decode cX7_apply 115 = .ok (.getfield 7, 3) := by decide +kernel
theorem dX7_apply_118 : decode cX7_apply 118 = .ok (.iload_n 2, 1) := by decide +kernel
theorem dX7_apply_119 : decode cX7_apply 119 = .ok (.iaload, 1) := by decide +kernel
theorem dX7_apply_120 : decode cX7_apply 120 = .ok (.invokestatic 47, 3) := by decide +kernel
theorem dX7_apply_123 : decode cX7_apply 123 = .ok (.aload_n 0, 1) := by decide +kernel
theorem dX7_apply_124 : decode cX7_apply 124 = .ok (.iload 4, 2) := by decide +kernel
theorem dX7_apply_126 : decode cX7_apply 126 = .ok (.putfield 55, 3) := by decide +kernel
theorem dX7_apply_129 : decode cX7_apply 129 = .ok (.aload_n 0, 1) := by decide +kernel
theorem dX7_apply_130 : decode cX7_apply 130 = .ok (.iload_n 3, 1) := by decide +kernel
theorem dX7_apply_131 : decode cX7_apply 131 = .ok (.invokevirtual 122, 3) := by decide +kernel
theorem dX7_apply_134 : decode cX7_apply 134 = .ok (.aload_n 0, 1) := by decide +kernel
theorem dX7_apply_135 : decode cX7_apply 135 = .ok (.getfield 55, 3) := by decide +kernel
theorem dX7_apply_138 : decode cX7_apply 138 = .ok (.ireturn, 1) := by decide +kernel
theorem dX7_bind_0 : decode cX7_bind 0 = .ok (.iload_n 1, 1) := by decide +kernel
theorem dX7_bind_1 : decode cX7_bind 1 = .ok (.invokestatic 106, 3) := by decide +kernel
theorem dX7_bind_4 : decode cX7_bind 4 = .ok (.ifCond .eq 10, 3) := by decide +kernel
theorem dX7_bind_7 : decode cX7_bind 7 = .ok (.iload_n 3, 1) := by decide +kernel
theorem dX7_bind_8 : decode cX7_bind 8 = .ok (.invokestatic 106, 3) := by decide +kernel
theorem dX7_bind_11 : decode cX7_bind 11 = .ok (.ifCond .ne 5, 3) := by decide +kernel
theorem dX7_bind_14 : decode cX7_bind 14 = .ok (.iconst (-1), 1) := by decide +kernel
theorem dX7_bind_15 : decode cX7_bind 15 = .ok (.ireturn, 1) := by decide +kernel
theorem dX7_bind_16 : decode cX7_bind 16 = .ok (.iload_n 2, 1) := by decide +kernel
theorem dX7_bind_17 : decode cX7_bind 17 = .ok (.iconst 0, 1) := by decide +kernel
theorem dX7_bind_18 : decode cX7_bind 18 = .ok (.iconst 5, 1) := by decide +kernel
theorem dX7_bind_19 : decode cX7_bind 19 = .ok (.invokestatic 51, 3) := by decide +kernel
theorem dX7_bind_22 : decode cX7_bind 22 = .ok (.ifCond .ne 6, 3) := by decide +kernel
theorem dX7_bind_25 : decode cX7_bind 25 = .ok (.bipush (-2), 2) := by decide +kernel
theorem dX7_bind_27 : decode cX7_bind 27 = .ok (.ireturn, 1) := by decide +kernel
theorem dX7_bind_28 : decode cX7_bind 28 = .ok (.aload_n 0, 1) := by decide +kernel
theorem dX7_bind_29 : decode cX7_bind 29 = .ok (.getfield 7, 3) := by decide +kernel
theorem dX7_bind_32 : decode cX7_bind 32 = .ok (.iload_n 1, 1) := by decide +kernel
theorem dX7_bind_33 : decode cX7_bind 33 = .ok (.iaload, 1) := by decide +kernel
theorem dX7_bind_34 : decode cX7_bind 34 = .ok (.sipush 200, 3) := by decide +kernel
theorem dX7_bind_37 : decode cX7_bind 37 = .ok (.if_icmp .ne 6, 3) := by decide +kernel
theorem dX7_bind_40 : decode cX7_bind 40 = .ok (.bipush (-4), 2) := by decide +kernel
theorem dX7_bind_42 : decode cX7_bind 42 = .ok (.ireturn, 1) := by decide +kernel
theorem dX7_bind_43 : decode cX7_bind 43 = .ok (.aload_n 0, 1) := by decide +kernel
theorem dX7_bind_44 : decode cX7_bind 44 = .ok (.invokevirtual 113, 3) := by decide +kernel
theorem dX7_bind_47 : decode cX7_bind 47 = .ok (.aload_n 0, 1) := by decide +kernel
theorem dX7_bind_48 : decode cX7_bind 48 = .ok (.iload_n 1, 1) := by decide +kernel
theorem dX7_bind_49 : decode cX7_bind 49 = .ok (.invokevirtual 125, 3) := by decide +kernel
theorem dX7_bind_52 : decode cX7_bind 52 = .ok (.iconst 0, 1) := by decide +kernel
theorem dX7_bind_53 : decode cX7_bind 53 = .ok (.istore 4, 2) := by decide +kernel
theorem dX7_bind_55 : decode cX7_bind 55 = .ok (.aload_n 0, 1) := by decide +kernel
theorem dX7_bind_56 : decode cX7_bind 56 = .ok (.iconst 0, 1) := by decide +kernel
theorem dX7_bind_57 : decode cX7_bind 57 = .ok (.putfield 79, 3) := by decide +kernel
theorem dX7_bind_60 : decode cX7_bind 60 = .ok (.aload_n 0, 1) := by decide +kernel
theorem dX7_bind_61 : decode cX7_bind 61 = .ok (.sipush 2000, 3) := by decide +kernel
theorem dX7_bind_64 : decode cX7_bind 64 = .ok (.invokevirtual 85, 3) := by decide +kernel
theorem dX7_bind_67 : decode cX7_bind 67 = .ok (.iconst 0, 1) := by decide +kernel
theorem dX7_bind_68 : decode cX7_bind 68 = .ok (.istore 5, 2) := by decide +kernel
theorem dX7_bind_70 : decode cX7_bind 70 = .ok (.iload 5, 2) := by decide +kernel
theorem dX7_bind_72 : decode cX7_bind 72 = .ok (.aload_n 0, 1) := by decide +kernel
theorem dX7_bind_73 : decode cX7_bind 73 = .ok (.getfield 55, 3) := by decide +kernel
theorem dX7_bind_76 : decode cX7_bind 76 = .ok (.if_icmp .ge 74, 3) := by decide +kernel
theorem dX7_bind_79 : decode cX7_bind 79 = .ok (.aload_n 0, 1) := by decide +kernel
theorem dX7_bind_80 : decode cX7_bind 80 = .ok (.getfield 25, 3) := by decide +kernel
theorem dX7_bind_83 : decode cX7_bind 83 = .ok (.iload 5, 2) := by decide +kernel
theorem dX7_bind_85 : decode cX7_bind 85 = .ok (.iaload, 1) := by decide +kernel
theorem dX7_bind_86 : decode cX7_bind 86 = .ok (.sipush 1000, 3) := by decide +kernel
theorem dX7_bind_89 : decode cX7_bind 89 = .ok (.iload_n 2, 1) := by decide +kernel
theorem dX7_bind_90 : decode cX7_bind 90 = .ok (.iadd, 1) := by decide +kernel
theorem dX7_bind_91 : decode cX7_bind 91 = .ok (.if_icmp .ne 7, 3) := by decide +kernel
theorem dX7_bind_94 : decode cX7_bind 94 = .ok (.iconst 1, 1) := by decide +kernel
theorem dX7_bind_95 : decode cX7_bind 95 = .ok (.goto 4, 3) := by decide +kernel
theorem dX7_bind_98 : decode cX7_bind 98 = .ok (.iconst 0, 1) := by decide +kernel
theorem dX7_bind_99 : decode cX7_bind 99 = .ok (.istore 6, 2) := by decide +kernel
theorem dX7_bind_101 : decode cX7_bind 101 = .ok (.iload 4, 2) := by decide +kernel
theorem dX7_bind_103 : decode cX7_bind 103 = .ok (.iload 6, 2) := by decide +kernel
theorem dX7_bind_105 : decode cX7_bind 105 = .ok (.ifCond .eq 7, 3) := by decide +kernel
theorem dX7_bind_108 : decode cX7_bind 108 = .ok (.iconst 1, 1) := by decide +kernel
theorem dX7_bind_109 : decode cX7_bind 109 = .ok (.goto 4, 3) := by decide +kernel
theorem dX7_bind_112 : decode cX7_bind 112 = .ok (.iconst 0, 1) := by decide +kernel
theorem dX7_bind_113 : decode cX7_bind 113 = .ok (.iadd, 1) := by decide +kernel
theorem dX7_bind_114 : decode cX7_bind 114 = .ok (.istore 4, 2) := by decide +kernel
theorem dX7_bind_116 : decode cX7_bind 116 = .ok (.aload_n 0, 1) := by decide +kernel
theorem dX7_bind_117 : decode cX7_bind 117 = .ok (.iload 6, 2) := by decide +kernel
theorem dX7_bind_119 : decode cX7_bind 119 = .ok (.ifCond .eq 15, 3) := by decide +kernel
theorem dX7_bind_122 : decode cX7_bind 122 = .ok (.iconst 0, 1) := by decide +kernel
theorem dX7_bind_123 : decode cX7_bind 123 = .ok (.aload_n 0, 1) := by decide +kernel
theorem dX7_bind_124 : decode cX7_bind 124 = .ok (.getfield 28, 3) := by decide +kernel
theorem dX7_bind_127 : decode cX7_bind 127 = .ok (.iload 5, 2) := by decide +kernel
theorem dX7_bind_129 : decode cX7_bind 129 = .ok (.iaload, 1) := by decide +kernel
theorem dX7_bind_130 : decode cX7_bind 130 = .ok (.iadd, 1) := by decide +kernel
theorem dX7_bind_131 : decode cX7_bind 131 = .ok (.goto 10, 3) := by decide +kernel
theorem dX7_bind_134 : decode cX7_bind 134 = .ok (.aload_n 0, 1) := by decide +kernel
theorem dX7_bind_135 : decode cX7_bind 135 = .ok (.getfield 25, 3) := by decide +kernel
theorem dX7_bind_138 : decode cX7_bind 138 = .ok (.iload 5, 2) := by decide +kernel
theorem dX7_bind_140 : decode cX7_bind 140 = .ok (.iaload, 1) := by decide +kernel
theorem dX7_bind_141 : decode cX7_bind 141 = .ok (.invokevirtual 85, 3) := by decide +kernel
theorem dX7_bind_144 : decode cX7_bind 144 = .ok (.iinc 5 1, 3) := by decide +kernel
theorem dX7_bind_147 : decode cX7_bind 147 = .ok (.goto (-77), 3) := by decide +kernel
theorem dX7_bind_150 : decode cX7_bind 150 = .ok (.aload_n 0, 1) := by decide +kernel
theorem dX7_bind_151 : decode cX7_bind 151 = .ok (.aload_n 0, 1) := by decide +kernel
theorem dX7_bind_152 : decode cX7_bind 152 = .ok (.getfield 79, 3) := by decide +kernel
theorem dX7_bind_155 : decode cX7_bind 155 = .ok (.putfield 55, 3) := by decide +kernel
theorem dX7_bind_158 : decode cX7_bind 158 = .ok (.aload_n 0, 1) := by decide +kernel
theorem dX7_bind_159 : decode cX7_bind 159 = .ok (.getfield 31, 3) := by decide +kernel
theorem dX7_bind_162 : decode cX7_bind 162 = .ok (.iconst 0, 1) := by decide +kernel
theorem dX7_bind_163 : decode cX7_bind 163 = .ok (.aload_n 0, 1) := by decide +kernel
theorem dX7_bind_164 : decode cX7_bind 164 = .ok (.getfield 25, 3) := by decide +kernel
theorem dX7_bind_167 : decode cX7_bind 167 = .ok (.iconst 0, 1) := by decide +kernel
theorem dX7_bind_168 : decode cX7_bind 168 = .ok (.aload_n 0, 1) := by decide +kernel
theorem dX7_bind_169 : decode cX7_bind 169 = .ok (.getfield 55, 3) := by decide +kernel
theorem dX7_bind_172 : decode cX7_bind 172 = .ok (.invokestatic 47, 3) := by decide +kernel
theorem dX7_bind_175 : decode cX7_bind 175 = .ok (.aload_n 0, 1) := by decide +kernel
theorem dX7_bind_176 : decode cX7_bind 176 = .ok (.iload_n 3, 1) := by decide +kernel
theorem dX7_bind_177 : decode cX7_bind 177 = .ok (.invokevirtual 122, 3) := by decide +kernel
theorem dX7_bind_180 : decode cX7_bind 180 = .ok (.iload 4, 2) := by decide +kernel
theorem dX7_bind_182 : decode cX7_bind 182 = .ok (.ireturn, 1) := by decide +kernel
theorem dX7_step_0 : decode cX7_step 0 = .ok (.iload_n 1, 1) := by decide +kernel
theorem dX7_step_1 : decode cX7_step 1 = .ok (.invokestatic 106, 3) := by decide +kernel
theorem dX7_step_4 : decode cX7_step 4 = .ok (.ifCond .eq 12, 3) := by decide +kernel
theorem dX7_step_7 : decode cX7_step 7 = .ok (.iload_n 2, 1) := by decide +kernel
theorem dX7_step_8 : decode cX7_step 8 = .ok (.iconst 0, 1) := by decide +kernel
theorem dX7_step_9 : decode cX7_step 9 = .ok (.iconst 2, 1) := by decide +kernel
theorem dX7_step_10 : decode cX7_step 10 = .ok (.invokestatic 51, 3) := by decide +kernel
theorem dX7_step_13 : decode cX7_step 13 = .ok (.ifCond .ne 17, 3) := by decide +kernel
theorem dX7_step_16 : decode cX7_step 16 = .ok (.iload_n 1, 1) := by decide +kernel
theorem dX7_step_17 : decode cX7_step 17 = .ok (.invokestatic 106, 3) := by decide +kernel
theorem dX7_step_20 : decode cX7_step 20 = .ok (.ifCond .eq 8, 3) := by decide +kernel
theorem dX7_step_23 : decode cX7_step 23 = .ok (.bipush (-2), 2) := by decide +kernel
theorem dX7_step_25 : decode cX7_step 25 = .ok (.goto 4, 3) := by decide +kernel
theorem dX7_step_28 : decode cX7_step 28 = .ok (.iconst (-1), 1) := by decide +kernel
theorem dX7_step_29 : decode cX7_step 29 = .ok (.ireturn, 1) := by decide +kernel
theorem dX7_step_30 : decode cX7_step 30 = .ok (.aload_n 0, 1) := by decide +kernel
theorem dX7_step_31 : decode cX7_step 31 = .ok (.iload_n 1, 1) := by decide +kernel
theorem dX7_step_32 : decode cX7_step 32 = .ok (.invokevirtual 125, 3) := by decide +kernel
theorem dX7_step_35 : decode cX7_step 35 = .ok (.aload_n 0, 1) := by decide +kernel
theorem dX7_step_36 : decode cX7_step 36 = .ok (.iload_n 2, 1) := by decide +kernel
theorem dX7_step_37 : decode cX7_step 37 = .ok (.invokevirtual 103, 3) := by decide +kernel
theorem dX7_step_40 : decode cX7_step 40 = .ok (.istore_n 3, 1) := by decide +kernel
theorem dX7_step_41 : decode cX7_step 41 = .ok (.iload_n 3, 1) := by decide +kernel
theorem dX7_step_42 : decode cX7_step 42 = .ok (.ifCond .eq 16, 3) := by decide +kernel
theorem dX7_step_45 : decode cX7_step 45 = .ok (.iload_n 3, 1) := by decide +kernel
theorem dX7_step_46 : decode cX7_step 46 = .ok (.iconst 1, 1) := by decide +kernel
theorem dX7_step_47 : decode cX7_step 47 = .ok (.if_icmp .ne 8, 3) := by decide +kernel
theorem dX7_step_50 : decode cX7_step 50 = .ok (.bipush (-5), 2) := by decide +kernel
theorem dX7_step_52 : decode cX7_step 52 = .ok (.goto 5, 3) := by decide +kernel
theorem dX7_step_55 : decode cX7_step 55 = .ok (.bipush (-4), 2) := by decide +kernel
theorem dX7_step_57 : decode cX7_step 57 = .ok (.ireturn, 1) := by decide +kernel
theorem dX7_step_58 : decode cX7_step 58 = .ok (.aload_n 0, 1) := by decide +kernel
theorem dX7_step_59 : decode cX7_step 59 = .ok (.invokevirtual 113, 3) := by decide +kernel
theorem dX7_step_62 : decode cX7_step 62 = .ok (.aload_n 0, 1) := by decide +kernel
theorem dX7_step_63 : decode cX7_step 63 = .ok (.iload_n 1, 1) := by decide +kernel
theorem dX7_step_64 : decode cX7_step 64 = .ok (.invokevirtual 122, 3) := by decide +kernel
theorem dX7_step_67 : decode cX7_step 67 = .ok (.aload_n 0, 1) := by decide +kernel
end
section
theorem dX7_step_68 : decode cX7_step 68 = .ok (.getfield 55, 3) := by decide +kernel
theorem dX7_step_71 : decode cX7_step 71 = .ok (.ireturn, 1) := by decide +kernel
theorem dX7_isRun_0 : decode cX7_isRun 0 = .ok (.iload_n 0, 1) := by decide +kernel
theorem dX7_isRun_1 : decode cX7_isRun 1 = .ok (.iconst 0, 1) := by decide +kernel
theorem dX7_isRun_2 : decode cX7_isRun 2 = .ok (.iconst 2, 1) := by decide +kernel
theorem dX7_isRun_3 : decode cX7_isRun 3 = .ok (.invokestatic 51, 3) := by decide +kernel
theorem dX7_isRun_6 : decode cX7_isRun 6 = .ok (.ifCond .eq 18, 3) := by decide +kernel
theorem dX7_isRun_9 : decode cX7_isRun 9 = .ok (.iload_n 1, 1) := by decide +kernel
theorem dX7_isRun_10 : decode cX7_isRun 10 = .ok (.iconst 1, 1) := by decide +kernel
theorem dX7_isRun_11 : decode cX7_isRun 11 = .ok (.sipush 200, 3) := by decide +kernel
theorem dX7_isRun_14 : decode cX7_isRun 14 = .ok (.invokestatic 51, 3) := by decide +kernel
theorem dX7_isRun_17 : decode cX7_isRun 17 = .ok (.ifCond .eq 7, 3) := by decide +kernel
theorem dX7_isRun_20 : decode cX7_isRun 20 = .ok (.iconst 1, 1) := by decide +kernel
theorem dX7_isRun_21 : decode cX7_isRun 21 = .ok (.goto 4, 3) := by decide +kernel
theorem dX7_isRun_24 : decode cX7_isRun 24 = .ok (.iconst 0, 1) := by decide +kernel
theorem dX7_isRun_25 : decode cX7_isRun 25 = .ok (.ireturn, 1) := by decide +kernel
theorem dX7_run_0 : decode cX7_run 0 = .ok (.iload_n 1, 1) := by decide +kernel
theorem dX7_run_1 : decode cX7_run 1 = .ok (.invokestatic 106, 3) := by decide +kernel
theorem dX7_run_4 : decode cX7_run 4 = .ok (.ifCond .eq 11, 3) := by decide +kernel
theorem dX7_run_7 : decode cX7_run 7 = .ok (.iload_n 2, 1) := by decide +kernel
theorem dX7_run_8 : decode cX7_run 8 = .ok (.iload_n 3, 1) := by decide +kernel
theorem dX7_run_9 : decode cX7_run 9 = .ok (.invokestatic 128, 3) := by decide +kernel
theorem dX7_run_12 : decode cX7_run 12 = .ok (.ifCond .ne 17, 3) := by decide +kernel
theorem dX7_run_15 : decode cX7_run 15 = .ok (.iload_n 1, 1) := by decide +kernel
theorem dX7_run_16 : decode cX7_run 16 = .ok (.invokestatic 106, 3) := by decide +kernel
theorem dX7_run_19 : decode cX7_run 19 = .ok (.ifCond .eq 8, 3) := by decide +kernel
theorem dX7_run_22 : decode cX7_run 22 = .ok (.bipush (-2), 2) := by decide +kernel
theorem dX7_run_24 : decode cX7_run 24 = .ok (.goto 4, 3) := by decide +kernel
theorem dX7_run_27 : decode cX7_run 27 = .ok (.iconst (-1), 1) := by decide +kernel
theorem dX7_run_28 : decode cX7_run 28 = .ok (.ireturn, 1) := by decide +kernel
theorem dX7_run_29 : decode cX7_run 29 = .ok (.aload_n 0, 1) := by decide +kernel
theorem dX7_run_30 : decode cX7_run 30 = .ok (.invokevirtual 113, 3) := by decide +kernel
theorem dX7_run_33 : decode cX7_run 33 = .ok (.aload_n 0, 1) := by decide +kernel
theorem dX7_run_34 : decode cX7_run 34 = .ok (.iload_n 1, 1) := by decide +kernel
theorem dX7_run_35 : decode cX7_run 35 = .ok (.invokevirtual 125, 3) := by decide +kernel
theorem dX7_run_38 : decode cX7_run 38 = .ok (.aload_n 0, 1) := by decide +kernel
theorem dX7_run_39 : decode cX7_run 39 = .ok (.iload_n 2, 1) := by decide +kernel
theorem dX7_run_40 : decode cX7_run 40 = .ok (.iload_n 3, 1) := by decide +kernel
theorem dX7_run_41 : decode cX7_run 41 = .ok (.invokevirtual 131, 3) := by decide +kernel
theorem dX7_run_44 : decode cX7_run 44 = .ok (.istore 4, 2) := by decide +kernel
theorem dX7_run_46 : decode cX7_run 46 = .ok (.aload_n 0, 1) := by decide +kernel
theorem dX7_run_47 : decode cX7_run 47 = .ok (.iload_n 1, 1) := by decide +kernel
theorem dX7_run_48 : decode cX7_run 48 = .ok (.invokevirtual 122, 3) := by decide +kernel
theorem dX7_run_51 : decode cX7_run 51 = .ok (.iload 4, 2) := by decide +kernel
theorem dX7_run_53 : decode cX7_run 53 = .ok (.ifCond .ge 10, 3) := by decide +kernel
theorem dX7_run_56 : decode cX7_run 56 = .ok (.iconst (-1), 1) := by decide +kernel
theorem dX7_run_57 : decode cX7_run 57 = .ok (.iload 4, 2) := by decide +kernel
theorem dX7_run_59 : decode cX7_run 59 = .ok (.isub, 1) := by decide +kernel
theorem dX7_run_60 : decode cX7_run 60 = .ok (.goto 5, 3) := by decide +kernel
theorem dX7_run_63 : decode cX7_run 63 = .ok (.iload 4, 2) := by decide +kernel
theorem dX7_run_65 : decode cX7_run 65 = .ok (.ireturn, 1) := by decide +kernel
theorem dX7_ofKind_0 : decode cX7_ofKind 0 = .ok (.iconst 0, 1) := by decide +kernel
theorem dX7_ofKind_1 : decode cX7_ofKind 1 = .ok (.istore_n 2, 1) := by decide +kernel
theorem dX7_ofKind_2 : decode cX7_ofKind 2 = .ok (.iconst 0, 1) := by decide +kernel
theorem dX7_ofKind_3 : decode cX7_ofKind 3 = .ok (.istore_n 3, 1) := by decide +kernel
theorem dX7_ofKind_4 : decode cX7_ofKind 4 = .ok (.iload_n 3, 1) := by decide +kernel
theorem dX7_ofKind_5 : decode cX7_ofKind 5 = .ok (.aload_n 0, 1) := by decide +kernel
theorem dX7_ofKind_6 : decode cX7_ofKind 6 = .ok (.getfield 55, 3) := by decide +kernel
theorem dX7_ofKind_9 : decode cX7_ofKind 9 = .ok (.if_icmp .ge 26, 3) := by decide +kernel
theorem dX7_ofKind_12 : decode cX7_ofKind 12 = .ok (.iload_n 2, 1) := by decide +kernel
theorem dX7_ofKind_13 : decode cX7_ofKind 13 = .ok (.aload_n 0, 1) := by decide +kernel
theorem dX7_ofKind_14 : decode cX7_ofKind 14 = .ok (.iload_n 3, 1) := by decide +kernel
theorem dX7_ofKind_15 : decode cX7_ofKind 15 = .ok (.invokevirtual 61, 3) := by decide +kernel
theorem dX7_ofKind_18 : decode cX7_ofKind 18 = .ok (.iload_n 1, 1) := by decide +kernel
theorem dX7_ofKind_19 : decode cX7_ofKind 19 = .ok (.if_icmp .ne 7, 3) := by decide +kernel
theorem dX7_ofKind_22 : decode cX7_ofKind 22 = .ok (.iconst 1, 1) := by decide +kernel
theorem dX7_ofKind_23 : decode cX7_ofKind 23 = .ok (.goto 4, 3) := by decide +kernel
theorem dX7_ofKind_26 : decode cX7_ofKind 26 = .ok (.iconst 0, 1) := by decide +kernel
theorem dX7_ofKind_27 : decode cX7_ofKind 27 = .ok (.iadd, 1) := by decide +kernel
theorem dX7_ofKind_28 : decode cX7_ofKind 28 = .ok (.istore_n 2, 1) := by decide +kernel
theorem dX7_ofKind_29 : decode cX7_ofKind 29 = .ok (.iinc 3 1, 3) := by decide +kernel
theorem dX7_ofKind_32 : decode cX7_ofKind 32 = .ok (.goto (-28), 3) := by decide +kernel
theorem dX7_ofKind_35 : decode cX7_ofKind 35 = .ok (.iload_n 2, 1) := by decide +kernel
theorem dX7_ofKind_36 : decode cX7_ofKind 36 = .ok (.ireturn, 1) := by decide +kernel
theorem dX7_deepest_0 : decode cX7_deepest 0 = .ok (.iconst 0, 1) := by decide +kernel
theorem dX7_deepest_1 : decode cX7_deepest 1 = .ok (.istore_n 1, 1) := by decide +kernel
theorem dX7_deepest_2 : decode cX7_deepest 2 = .ok (.iconst 0, 1) := by decide +kernel
theorem dX7_deepest_3 : decode cX7_deepest 3 = .ok (.istore_n 2, 1) := by decide +kernel
theorem dX7_deepest_4 : decode cX7_deepest 4 = .ok (.iload_n 2, 1) := by decide +kernel
theorem dX7_deepest_5 : decode cX7_deepest 5 = .ok (.aload_n 0, 1) := by decide +kernel
theorem dX7_deepest_6 : decode cX7_deepest 6 = .ok (.getfield 55, 3) := by decide +kernel
theorem dX7_deepest_9 : decode cX7_deepest 9 = .ok (.if_icmp .ge 30, 3) := by decide +kernel
theorem dX7_deepest_12 : decode cX7_deepest 12 = .ok (.aload_n 0, 1) := by decide +kernel
theorem dX7_deepest_13 : decode cX7_deepest 13 = .ok (.getfield 28, 3) := by decide +kernel
theorem dX7_deepest_16 : decode cX7_deepest 16 = .ok (.iload_n 2, 1) := by decide +kernel
theorem dX7_deepest_17 : decode cX7_deepest 17 = .ok (.iaload, 1) := by decide +kernel
theorem dX7_deepest_18 : decode cX7_deepest 18 = .ok (.iload_n 1, 1) := by decide +kernel
theorem dX7_deepest_19 : decode cX7_deepest 19 = .ok (.if_icmp .le 12, 3) := by decide +kernel
theorem dX7_deepest_22 : decode cX7_deepest 22 = .ok (.aload_n 0, 1) := by decide +kernel
theorem dX7_deepest_23 : decode cX7_deepest 23 = .ok (.getfield 28, 3) := by decide +kernel
theorem dX7_deepest_26 : decode cX7_deepest 26 = .ok (.iload_n 2, 1) := by decide +kernel
theorem dX7_deepest_27 : decode cX7_deepest 27 = .ok (.iaload, 1) := by decide +kernel
theorem dX7_deepest_28 : decode cX7_deepest 28 = .ok (.goto 4, 3) := by decide +kernel
theorem dX7_deepest_31 : decode cX7_deepest 31 = .ok (.iload_n 1, 1) := by decide +kernel
theorem dX7_deepest_32 : decode cX7_deepest 32 = .ok (.istore_n 1, 1) := by decide +kernel
theorem dX7_deepest_33 : decode cX7_deepest 33 = .ok (.iinc 2 1, 3) := by decide +kernel
theorem dX7_deepest_36 : decode cX7_deepest 36 = .ok (.goto (-32), 3) := by decide +kernel
theorem dX7_deepest_39 : decode cX7_deepest 39 = .ok (.iload_n 1, 1) := by decide +kernel
theorem dX7_deepest_40 : decode cX7_deepest 40 = .ok (.ireturn, 1) := by decide +kernel
theorem dX7_reducibleMany_0 : decode cX7_reducibleMany 0 = .ok (.iconst 0, 1) := by decide +kernel
theorem dX7_reducibleMany_1 : decode cX7_reducibleMany 1 = .ok (.istore_n 1, 1) := by decide +kernel
theorem dX7_reducibleMany_2 : decode cX7_reducibleMany 2 = .ok (.iconst 0, 1) := by decide +kernel
theorem dX7_reducibleMany_3 : decode cX7_reducibleMany 3 = .ok (.istore_n 2, 1) := by decide +kernel
theorem dX7_reducibleMany_4 : decode cX7_reducibleMany 4 = .ok (.iload_n 2, 1) := by decide +kernel
theorem dX7_reducibleMany_5 : decode cX7_reducibleMany 5 = .ok (.aload_n 0, 1) := by decide +kernel
theorem dX7_reducibleMany_6 : decode cX7_reducibleMany 6 = .ok (.getfield 55, 3) := by decide +kernel
theorem dX7_reducibleMany_9 : decode cX7_reducibleMany 9 = .ok (.if_icmp .ge 25, 3) := by decide +kernel
theorem dX7_reducibleMany_12 : decode cX7_reducibleMany 12 = .ok (.iload_n 1, 1) := by decide +kernel
theorem dX7_reducibleMany_13 : decode cX7_reducibleMany 13 = .ok (.aload_n 0, 1) := by decide +kernel
theorem dX7_reducibleMany_14 : decode cX7_reducibleMany 14 = .ok (.iload_n 2, 1) := by decide +kernel
theorem dX7_reducibleMany_15 : decode cX7_reducibleMany 15 = .ok (.invokevirtual 65, 3) := by decide +kernel
theorem dX7_reducibleMany_18 : decode cX7_reducibleMany 18 = .ok (.ifCond .eq 7, 3) := by decide +kernel
theorem dX7_reducibleMany_21 : decode cX7_reducibleMany 21 = .ok (.iconst 1, 1) := by decide +kernel
theorem dX7_reducibleMany_22 : decode cX7_reducibleMany 22 = .ok (.goto 4, 3) := by decide +kernel
theorem dX7_reducibleMany_25 : decode cX7_reducibleMany 25 = .ok (.iconst 0, 1) := by decide +kernel
theorem dX7_reducibleMany_26 : decode cX7_reducibleMany 26 = .ok (.iadd, 1) := by decide +kernel
theorem dX7_reducibleMany_27 : decode cX7_reducibleMany 27 = .ok (.istore_n 1, 1) := by decide +kernel
theorem dX7_reducibleMany_28 : decode cX7_reducibleMany 28 = .ok (.iinc 2 1, 3) := by decide +kernel
theorem dX7_reducibleMany_31 : decode cX7_reducibleMany 31 = .ok (.goto (-27), 3) := by decide +kernel
theorem dX7_reducibleMany_34 : decode cX7_reducibleMany 34 = .ok (.iload_n 1, 1) := by decide +kernel
theorem dX7_reducibleMany_35 : decode cX7_reducibleMany 35 = .ok (.ireturn, 1) := by decide +kernel
theorem dX7_greatest_0 : decode cX7_greatest 0 = .ok (.bipush (-6), 2) := by decide +kernel
theorem dX7_greatest_2 : decode cX7_greatest 2 = .ok (.istore_n 1, 1) := by decide +kernel
theorem dX7_greatest_3 : decode cX7_greatest 3 = .ok (.iconst 0, 1) := by decide +kernel
theorem dX7_greatest_4 : decode cX7_greatest 4 = .ok (.istore_n 2, 1) := by decide +kernel
theorem dX7_greatest_5 : decode cX7_greatest 5 = .ok (.iload_n 2, 1) := by decide +kernel
theorem dX7_greatest_6 : decode cX7_greatest 6 = .ok (.aload_n 0, 1) := by decide +kernel
theorem dX7_greatest_7 : decode cX7_greatest 7 = .ok (.getfield 55, 3) := by decide +kernel
theorem dX7_greatest_10 : decode cX7_greatest 10 = .ok (.if_icmp .ge 36, 3) := by decide +kernel
theorem dX7_greatest_13 : decode cX7_greatest 13 = .ok (.aload_n 0, 1) := by decide +kernel
theorem dX7_greatest_14 : decode cX7_greatest 14 = .ok (.iload_n 2, 1) := by decide +kernel
theorem dX7_greatest_15 : decode cX7_greatest 15 = .ok (.invokevirtual 61, 3) := by decide +kernel
theorem dX7_greatest_18 : decode cX7_greatest 18 = .ok (.ifCond .ne 20, 3) := by decide +kernel
theorem dX7_greatest_21 : decode cX7_greatest 21 = .ok (.aload_n 0, 1) := by decide +kernel
theorem dX7_greatest_22 : decode cX7_greatest 22 = .ok (.iload_n 2, 1) := by decide +kernel
theorem dX7_greatest_23 : decode cX7_greatest 23 = .ok (.invokevirtual 82, 3) := by decide +kernel
theorem dX7_greatest_26 : decode cX7_greatest 26 = .ok (.iload_n 1, 1) := by decide +kernel
theorem dX7_greatest_27 : decode cX7_greatest 27 = .ok (.if_icmp .le 11, 3) := by decide +kernel
theorem dX7_greatest_30 : decode cX7_greatest 30 = .ok (.aload_n 0, 1) := by decide +kernel
theorem dX7_greatest_31 : decode cX7_greatest 31 = .ok (.iload_n 2, 1) := by decide +kernel
theorem dX7_greatest_32 : decode cX7_greatest 32 = .ok (.invokevirtual 82, 3) := by decide +kernel
theorem dX7_greatest_35 : decode cX7_greatest 35 = .ok (.goto 4, 3) := by decide +kernel
theorem dX7_greatest_38 : decode cX7_greatest 38 = .ok (.iload_n 1, 1) := by decide +kernel
theorem dX7_greatest_39 : decode cX7_greatest 39 = .ok (.istore_n 1, 1) := by decide +kernel
theorem dX7_greatest_40 : decode cX7_greatest 40 = .ok (.iinc 2 1, 3) := by decide +kernel
theorem dX7_greatest_43 : decode cX7_greatest 43 = .ok (.goto (-38), 3) := by decide +kernel
theorem dX7_greatest_46 : decode cX7_greatest 46 = .ok (.iload_n 1, 1) := by decide +kernel
theorem dX7_greatest_47 : decode cX7_greatest 47 = .ok (.ireturn, 1) := by decide +kernel
theorem dX7_of_0 : decode cX7_of 0 = .ok (.iload_n 1, 1) := by decide +kernel
theorem dX7_of_1 : decode cX7_of 1 = .ok (.invokestatic 106, 3) := by decide +kernel
theorem dX7_of_4 : decode cX7_of 4 = .ok (.ifCond .ne 5, 3) := by decide +kernel
theorem dX7_of_7 : decode cX7_of 7 = .ok (.iconst (-1), 1) := by decide +kernel
theorem dX7_of_8 : decode cX7_of 8 = .ok (.ireturn, 1) := by decide +kernel
theorem dX7_of_9 : decode cX7_of 9 = .ok (.aload_n 0, 1) := by decide +kernel
theorem dX7_of_10 : decode cX7_of 10 = .ok (.iload_n 1, 1) := by decide +kernel
theorem dX7_of_11 : decode cX7_of 11 = .ok (.invokevirtual 125, 3) := by decide +kernel
theorem dX7_of_14 : decode cX7_of 14 = .ok (.iload_n 2, 1) := by decide +kernel
theorem dX7_of_15 : decode cX7_of 15 = .ok (.tableswitch 110 0 10 #[57, 62, 68, 74, 80, 86, 91, 96, 96, 96, 105], 57) := by decide +kernel
theorem dX7_of_72 : decode cX7_of 72 = .ok (.aload_n 0, 1) := by decide +kernel
theorem dX7_of_73 : decode cX7_of 73 = .ok (.getfield 55, 3) := by decide +kernel
theorem dX7_of_76 : decode cX7_of 76 = .ok (.ireturn, 1) := by decide +kernel
theorem dX7_of_77 : decode cX7_of 77 = .ok (.aload_n 0, 1) := by decide +kernel
theorem dX7_of_78 : decode cX7_of 78 = .ok (.iconst 2, 1) := by decide +kernel
theorem dX7_of_79 : decode cX7_of 79 = .ok (.invokevirtual 134, 3) := by decide +kernel
theorem dX7_of_82 : decode cX7_of 82 = .ok (.ireturn, 1) := by decide +kernel
theorem dX7_of_83 : decode cX7_of 83 = .ok (.aload_n 0, 1) := by decide +kernel
theorem dX7_of_84 : decode cX7_of 84 = .ok (.iconst 3, 1) := by decide +kernel
theorem dX7_of_85 : decode cX7_of 85 = .ok (.invokevirtual 134, 3) := by decide +kernel
theorem dX7_of_88 : decode cX7_of 88 = .ok (.ireturn, 1) := by decide +kernel
theorem dX7_of_89 : decode cX7_of 89 = .ok (.aload_n 0, 1) := by decide +kernel
theorem dX7_of_90 : decode cX7_of 90 = .ok (.iconst 0, 1) := by decide +kernel
theorem dX7_of_91 : decode cX7_of 91 = .ok (.invokevirtual 134, 3) := by decide +kernel
theorem dX7_of_94 : decode cX7_of 94 = .ok (.ireturn, 1) := by decide +kernel
theorem dX7_of_95 : decode cX7_of 95 = .ok (.aload_n 0, 1) := by decide +kernel
theorem dX7_of_96 : decode cX7_of 96 = .ok (.iconst 1, 1) := by decide +kernel
theorem dX7_of_97 : decode cX7_of 97 = .ok (.invokevirtual 134, 3) := by decide +kernel
theorem dX7_of_100 : decode cX7_of 100 = .ok (.ireturn, 1) := by decide +kernel
theorem dX7_of_101 : decode cX7_of 101 = .ok (.aload_n 0, 1) := by decide +kernel
theorem dX7_of_102 : decode cX7_of 102 = .ok (.invokevirtual 137, 3) := by decide +kernel
theorem dX7_of_105 : decode cX7_of 105 = .ok (.ireturn, 1) := by decide +kernel
theorem dX7_of_106 : decode cX7_of 106 = .ok (.aload_n 0, 1) := by decide +kernel
theorem dX7_of_107 : decode cX7_of 107 = .ok (.invokevirtual 140, 3) := by decide +kernel
theorem dX7_of_110 : decode cX7_of 110 = .ok (.ireturn, 1) := by decide +kernel
theorem dX7_of_111 : decode cX7_of 111 = .ok (.aload_n 0, 1) := by decide +kernel
theorem dX7_of_112 : decode cX7_of 112 = .ok (.iload_n 2, 1) := by decide +kernel
theorem dX7_of_113 : decode cX7_of 113 = .ok (.bipush 7, 2) := by decide +kernel
theorem dX7_of_115 : decode cX7_of 115 = .ok (.isub, 1) := by decide +kernel
theorem dX7_of_116 : decode cX7_of 116 = .ok (.invokevirtual 93, 3) := by decide +kernel
theorem dX7_of_119 : decode cX7_of 119 = .ok (.ireturn, 1) := by decide +kernel
theorem dX7_of_120 : decode cX7_of 120 = .ok (.aload_n 0, 1) := by decide +kernel
theorem dX7_of_121 : decode cX7_of 121 = .ok (.invokevirtual 143, 3) := by decide +kernel
theorem dX7_of_124 : decode cX7_of 124 = .ok (.ireturn, 1) := by decide +kernel
theorem dX7_of_125 : decode cX7_of 125 = .ok (.bipush (-2), 2) := by decide +kernel
theorem dX7_of_127 : decode cX7_of 127 = .ok (.ireturn, 1) := by decide +kernel
theorem dX7_binderOf_0 : decode cX7_binderOf 0 = .ok (.iconst 0, 1) := by decide +kernel
theorem dX7_binderOf_1 : decode cX7_binderOf 1 = .ok (.istore_n 2, 1) := by decide +kernel
theorem dX7_binderOf_2 : decode cX7_binderOf 2 = .ok (.bipush (-6), 2) := by decide +kernel
theorem dX7_binderOf_4 : decode cX7_binderOf 4 = .ok (.istore_n 3, 1) := by decide +kernel
theorem dX7_binderOf_5 : decode cX7_binderOf 5 = .ok (.iload_n 1, 1) := by decide +kernel
theorem dX7_binderOf_6 : decode cX7_binderOf 6 = .ok (.iconst 1, 1) := by decide +kernel
theorem dX7_binderOf_7 : decode cX7_binderOf 7 = .ok (.isub, 1) := by decide +kernel
theorem dX7_binderOf_8 : decode cX7_binderOf 8 = .ok (.istore 4, 2) := by decide +kernel
theorem dX7_binderOf_10 : decode cX7_binderOf 10 = .ok (.iload 4, 2) := by decide +kernel
theorem dX7_binderOf_12 : decode cX7_binderOf 12 = .ok (.ifCond .lt 55, 3) := by decide +kernel
theorem dX7_binderOf_15 : decode cX7_binderOf 15 = .ok (.iload_n 3, 1) := by decide +kernel
theorem dX7_binderOf_16 : decode cX7_binderOf 16 = .ok (.bipush (-6), 2) := by decide +kernel
theorem dX7_binderOf_18 : decode cX7_binderOf 18 = .ok (.if_icmp .ne 49, 3) := by decide +kernel
theorem dX7_binderOf_21 : decode cX7_binderOf 21 = .ok (.aload_n 0, 1) := by decide +kernel
theorem dX7_binderOf_22 : decode cX7_binderOf 22 = .ok (.iload 4, 2) := by decide +kernel
theorem dX7_binderOf_24 : decode cX7_binderOf 24 = .ok (.invokevirtual 61, 3) := by decide +kernel
theorem dX7_binderOf_27 : decode cX7_binderOf 27 = .ok (.iconst 2, 1) := by decide +kernel
theorem dX7_binderOf_28 : decode cX7_binderOf 28 = .ok (.if_icmp .ne 33, 3) := by decide +kernel
theorem dX7_binderOf_31 : decode cX7_binderOf 31 = .ok (.aload_n 0, 1) := by decide +kernel
theorem dX7_binderOf_32 : decode cX7_binderOf 32 = .ok (.iload 4, 2) := by decide +kernel
theorem dX7_binderOf_34 : decode cX7_binderOf 34 = .ok (.invokevirtual 69, 3) := by decide +kernel
theorem dX7_binderOf_37 : decode cX7_binderOf 37 = .ok (.iload_n 1, 1) := by decide +kernel
theorem dX7_binderOf_38 : decode cX7_binderOf 38 = .ok (.if_icmp .le 23, 3) := by decide +kernel
theorem dX7_binderOf_41 : decode cX7_binderOf 41 = .ok (.iload_n 2, 1) := by decide +kernel
theorem dX7_binderOf_42 : decode cX7_binderOf 42 = .ok (.aload_n 0, 1) := by decide +kernel
theorem dX7_binderOf_43 : decode cX7_binderOf 43 = .ok (.iload_n 1, 1) := by decide +kernel
theorem dX7_binderOf_44 : decode cX7_binderOf 44 = .ok (.invokevirtual 82, 3) := by decide +kernel
theorem dX7_binderOf_47 : decode cX7_binderOf 47 = .ok (.if_icmp .ne 8, 3) := by decide +kernel
theorem dX7_binderOf_50 : decode cX7_binderOf 50 = .ok (.iload 4, 2) := by decide +kernel
theorem dX7_binderOf_52 : decode cX7_binderOf 52 = .ok (.goto 5, 3) := by decide +kernel
theorem dX7_binderOf_55 : decode cX7_binderOf 55 = .ok (.bipush (-6), 2) := by decide +kernel
theorem dX7_binderOf_57 : decode cX7_binderOf 57 = .ok (.istore_n 3, 1) := by decide +kernel
theorem dX7_binderOf_58 : decode cX7_binderOf 58 = .ok (.iinc 2 1, 3) := by decide +kernel
theorem dX7_binderOf_61 : decode cX7_binderOf 61 = .ok (.iinc 4 (-1), 3) := by decide +kernel
theorem dX7_binderOf_64 : decode cX7_binderOf 64 = .ok (.goto (-54), 3) := by decide +kernel
theorem dX7_binderOf_67 : decode cX7_binderOf 67 = .ok (.iload_n 3, 1) := by decide +kernel
theorem dX7_binderOf_68 : decode cX7_binderOf 68 = .ok (.ireturn, 1) := by decide +kernel
theorem dX7_part_0 : decode cX7_part 0 = .ok (.iload_n 1, 1) := by decide +kernel
theorem dX7_part_1 : decode cX7_part 1 = .ok (.invokestatic 106, 3) := by decide +kernel
theorem dX7_part_4 : decode cX7_part 4 = .ok (.ifCond .eq 19, 3) := by decide +kernel
theorem dX7_part_7 : decode cX7_part 7 = .ok (.iload_n 2, 1) := by decide +kernel
theorem dX7_part_8 : decode cX7_part 8 = .ok (.iconst 0, 1) := by decide +kernel
theorem dX7_part_9 : decode cX7_part 9 = .ok (.aload_n 0, 1) := by decide +kernel
theorem dX7_part_10 : decode cX7_part 10 = .ok (.getfield 7, 3) := by decide +kernel
theorem dX7_part_13 : decode cX7_part 13 = .ok (.iload_n 1, 1) := by decide +kernel
theorem dX7_part_14 : decode cX7_part 14 = .ok (.iaload, 1) := by decide +kernel
theorem dX7_part_15 : decode cX7_part 15 = .ok (.iconst 1, 1) := by decide +kernel
theorem dX7_part_16 : decode cX7_part 16 = .ok (.isub, 1) := by decide +kernel
theorem dX7_part_17 : decode cX7_part 17 = .ok (.invokestatic 51, 3) := by decide +kernel
theorem dX7_part_20 : decode cX7_part 20 = .ok (.ifCond .ne 5, 3) := by decide +kernel
theorem dX7_part_23 : decode cX7_part 23 = .ok (.iconst (-1), 1) := by decide +kernel
theorem dX7_part_24 : decode cX7_part 24 = .ok (.ireturn, 1) := by decide +kernel
theorem dX7_part_25 : decode cX7_part 25 = .ok (.aload_n 0, 1) := by decide +kernel
theorem dX7_part_26 : decode cX7_part 26 = .ok (.iload_n 1, 1) := by decide +kernel
theorem dX7_part_27 : decode cX7_part 27 = .ok (.invokevirtual 125, 3) := by decide +kernel
theorem dX7_part_30 : decode cX7_part 30 = .ok (.iload_n 3, 1) := by decide +kernel
theorem dX7_part_31 : decode cX7_part 31 = .ok (.tableswitch 77 0 4 #[33, 39, 45, 52, 58], 33) := by decide +kernel
theorem dX7_part_64 : decode cX7_part 64 = .ok (.aload_n 0, 1) := by decide +kernel
theorem dX7_part_65 : decode cX7_part 65 = .ok (.iload_n 2, 1) := by decide +kernel
theorem dX7_part_66 : decode cX7_part 66 = .ok (.invokevirtual 61, 3) := by decide +kernel
theorem dX7_part_69 : decode cX7_part 69 = .ok (.ireturn, 1) := by decide +kernel
theorem dX7_part_70 : decode cX7_part 70 = .ok (.aload_n 0, 1) := by decide +kernel
theorem dX7_part_71 : decode cX7_part 71 = .ok (.iload_n 2, 1) := by decide +kernel
theorem dX7_part_72 : decode cX7_part 72 = .ok (.invokevirtual 82, 3) := by decide +kernel
theorem dX7_part_75 : decode cX7_part 75 = .ok (.ireturn, 1) := by decide +kernel
theorem dX7_part_76 : decode cX7_part 76 = .ok (.aload_n 0, 1) := by decide +kernel
theorem dX7_part_77 : decode cX7_part 77 = .ok (.getfield 28, 3) := by decide +kernel
theorem dX7_part_80 : decode cX7_part 80 = .ok (.iload_n 2, 1) := by decide +kernel
theorem dX7_part_81 : decode cX7_part 81 = .ok (.iaload, 1) := by decide +kernel
theorem dX7_part_82 : decode cX7_part 82 = .ok (.ireturn, 1) := by decide +kernel
theorem dX7_part_83 : decode cX7_part 83 = .ok (.aload_n 0, 1) := by decide +kernel
theorem dX7_part_84 : decode cX7_part 84 = .ok (.iload_n 2, 1) := by decide +kernel
theorem dX7_part_85 : decode cX7_part 85 = .ok (.invokevirtual 69, 3) := by decide +kernel
theorem dX7_part_88 : decode cX7_part 88 = .ok (.ireturn, 1) := by decide +kernel
theorem dX7_part_89 : decode cX7_part 89 = .ok (.aload_n 0, 1) := by decide +kernel
theorem dX7_part_90 : decode cX7_part 90 = .ok (.iload_n 2, 1) := by decide +kernel
theorem dX7_part_91 : decode cX7_part 91 = .ok (.invokevirtual 61, 3) := by decide +kernel
theorem dX7_part_94 : decode cX7_part 94 = .ok (.ifCond .ne 11, 3) := by decide +kernel
theorem dX7_part_97 : decode cX7_part 97 = .ok (.aload_n 0, 1) := by decide +kernel
theorem dX7_part_98 : decode cX7_part 98 = .ok (.iload_n 2, 1) := by decide +kernel
theorem dX7_part_99 : decode cX7_part 99 = .ok (.invokevirtual 146, 3) := by decide +kernel
theorem dX7_part_102 : decode cX7_part 102 = .ok (.goto 5, 3) := by decide +kernel
theorem dX7_part_105 : decode cX7_part 105 = .ok (.bipush (-6), 2) := by decide +kernel
theorem dX7_part_107 : decode cX7_part 107 = .ok (.ireturn, 1) := by decide +kernel
theorem dX7_part_108 : decode cX7_part 108 = .ok (.bipush (-2), 2) := by decide +kernel
theorem dX7_part_110 : decode cX7_part 110 = .ok (.ireturn, 1) := by decide +kernel
theorem dX7_says_0 : decode cX7_says 0 = .ok (.aload_n 0, 1) := by decide +kernel
theorem dX7_says_1 : decode cX7_says 1 = .ok (.getfield 40, 3) := by decide +kernel
theorem dX7_says_4 : decode cX7_says 4 = .ok (.aload_n 0, 1) := by decide +kernel
theorem dX7_says_5 : decode cX7_says 5 = .ok (.getfield 149, 3) := by decide +kernel
theorem dX7_says_8 : decode cX7_says 8 = .ok (.iload_n 1, 1) := by decide +kernel
theorem dX7_says_9 : decode cX7_says 9 = .ok (.iastore, 1) := by decide +kernel
theorem dX7_says_10 : decode cX7_says 10 = .ok (.aload_n 0, 1) := by decide +kernel
theorem dX7_says_11 : decode cX7_says 11 = .ok (.dup, 1) := by decide +kernel
theorem dX7_says_12 : decode cX7_says 12 = .ok (.getfield 149, 3) := by decide +kernel
theorem dX7_says_15 : decode cX7_says 15 = .ok (.iconst 1, 1) := by decide +kernel
theorem dX7_says_16 : decode cX7_says 16 = .ok (.iadd, 1) := by decide +kernel
theorem dX7_says_17 : decode cX7_says 17 = .ok (.putfield 149, 3) := by decide +kernel
theorem dX7_says_20 : decode cX7_says 20 = .ok (.return_, 1) := by decide +kernel
theorem dX7_nameBy_0 : decode cX7_nameBy 0 = .ok (.bipush 103, 2) := by decide +kernel
theorem dX7_nameBy_2 : decode cX7_nameBy 2 = .ok (.iload_n 0, 1) := by decide +kernel
theorem dX7_nameBy_3 : decode cX7_nameBy 3 = .ok (.bipush 20, 2) := by decide +kernel
theorem dX7_nameBy_5 : decode cX7_nameBy 5 = .ok (.irem, 1) := by decide +kernel
theorem dX7_nameBy_6 : decode cX7_nameBy 6 = .ok (.iadd, 1) := by decide +kernel
theorem dX7_nameBy_7 : decode cX7_nameBy 7 = .ok (.ireturn, 1) := by decide +kernel
theorem dX7_print_0 : decode cX7_print 0 = .ok (.aload_n 0, 1) := by decide +kernel
theorem dX7_print_1 : decode cX7_print 1 = .ok (.iconst 0, 1) := by decide +kernel
theorem dX7_print_2 : decode cX7_print 2 = .ok (.putfield 149, 3) := by decide +kernel
theorem dX7_print_5 : decode cX7_print 5 = .ok (.iconst 0, 1) := by decide +kernel
theorem dX7_print_6 : decode cX7_print 6 = .ok (.istore_n 1, 1) := by decide +kernel
theorem dX7_print_7 : decode cX7_print 7 = .ok (.iload_n 1, 1) := by decide +kernel
theorem dX7_print_8 : decode cX7_print 8 = .ok (.aload_n 0, 1) := by decide +kernel
theorem dX7_print_9 : decode cX7_print 9 = .ok (.getfield 55, 3) := by decide +kernel
theorem dX7_print_12 : decode cX7_print 12 = .ok (.if_icmp .ge 109, 3) := by decide +kernel
theorem dX7_print_15 : decode cX7_print 15 = .ok (.aload_n 0, 1) := by decide +kernel
theorem dX7_print_16 : decode cX7_print 16 = .ok (.iload_n 1, 1) := by decide +kernel
theorem dX7_print_17 : decode cX7_print 17 = .ok (.invokevirtual 61, 3) := by decide +kernel
theorem dX7_print_20 : decode cX7_print 20 = .ok (.tableswitch 89 0 2 #[28, 52, 67], 28) := by decide +kernel
theorem dX7_print_48 : decode cX7_print 48 = .ok (.aload_n 0, 1) := by decide +kernel
theorem dX7_print_49 : decode cX7_print 49 = .ok (.aload_n 0, 1) := by decide +kernel
theorem dX7_print_50 : decode cX7_print 50 = .ok (.getfield 28, 3) := by decide +kernel
theorem dX7_print_53 : decode cX7_print 53 = .ok (.iload_n 1, 1) := by decide +kernel
theorem dX7_print_54 : decode cX7_print 54 = .ok (.iaload, 1) := by decide +kernel
theorem dX7_print_55 : decode cX7_print 55 = .ok (.iconst 1, 1) := by decide +kernel
theorem dX7_print_56 : decode cX7_print 56 = .ok (.isub, 1) := by decide +kernel
theorem dX7_print_57 : decode cX7_print 57 = .ok (.aload_n 0, 1) := by decide +kernel
theorem dX7_print_58 : decode cX7_print 58 = .ok (.iload_n 1, 1) := by decide +kernel
theorem dX7_print_59 : decode cX7_print 59 = .ok (.invokevirtual 82, 3) := by decide +kernel
theorem dX7_print_62 : decode cX7_print 62 = .ok (.isub, 1) := by decide +kernel
theorem dX7_print_63 : decode cX7_print 63 = .ok (.invokestatic 152, 3) := by decide +kernel
theorem dX7_print_66 : decode cX7_print 66 = .ok (.invokevirtual 155, 3) := by decide +kernel
theorem dX7_print_69 : decode cX7_print 69 = .ok (.goto 46, 3) := by decide +kernel
theorem dX7_print_72 : decode cX7_print 72 = .ok (.aload_n 0, 1) := by decide +kernel
theorem dX7_print_73 : decode cX7_print 73 = .ok (.bipush 97, 2) := by decide +kernel
theorem dX7_print_75 : decode cX7_print 75 = .ok (.aload_n 0, 1) := by decide +kernel
theorem dX7_print_76 : decode cX7_print 76 = .ok (.iload_n 1, 1) := by decide +kernel
theorem dX7_print_77 : decode cX7_print 77 = .ok (.invokevirtual 82, 3) := by decide +kernel
theorem dX7_print_80 : decode cX7_print 80 = .ok (.iadd, 1) := by decide +kernel
theorem dX7_print_81 : decode cX7_print 81 = .ok (.invokevirtual 155, 3) := by decide +kernel
theorem dX7_print_84 : decode cX7_print 84 = .ok (.goto 31, 3) := by decide +kernel
theorem dX7_print_87 : decode cX7_print 87 = .ok (.aload_n 0, 1) := by decide +kernel
theorem dX7_print_88 : decode cX7_print 88 = .ok (.bipush 76, 2) := by decide +kernel
theorem dX7_print_90 : decode cX7_print 90 = .ok (.invokevirtual 155, 3) := by decide +kernel
theorem dX7_print_93 : decode cX7_print 93 = .ok (.aload_n 0, 1) := by decide +kernel
theorem dX7_print_94 : decode cX7_print 94 = .ok (.aload_n 0, 1) := by decide +kernel
theorem dX7_print_95 : decode cX7_print 95 = .ok (.getfield 28, 3) := by decide +kernel
theorem dX7_print_98 : decode cX7_print 98 = .ok (.iload_n 1, 1) := by decide +kernel
theorem dX7_print_99 : decode cX7_print 99 = .ok (.iaload, 1) := by decide +kernel
theorem dX7_print_100 : decode cX7_print 100 = .ok (.invokestatic 152, 3) := by decide +kernel
theorem dX7_print_103 : decode cX7_print 103 = .ok (.invokevirtual 155, 3) := by decide +kernel
theorem dX7_print_106 : decode cX7_print 106 = .ok (.goto 9, 3) := by decide +kernel
theorem dX7_print_109 : decode cX7_print 109 = .ok (.aload_n 0, 1) := by decide +kernel
theorem dX7_print_110 : decode cX7_print 110 = .ok (.bipush 64, 2) := by decide +kernel
theorem dX7_print_112 : decode cX7_print 112 = .ok (.invokevirtual 155, 3) := by decide +kernel
theorem dX7_print_115 : decode cX7_print 115 = .ok (.iinc 1 1, 3) := by decide +kernel
theorem dX7_print_118 : decode cX7_print 118 = .ok (.goto (-111), 3) := by decide +kernel
theorem dX7_print_121 : decode cX7_print 121 = .ok (.return_, 1) := by decide +kernel
theorem dX7_named_0 : decode cX7_named 0 = .ok (.iload_n 1, 1) := by decide +kernel
theorem dX7_named_1 : decode cX7_named 1 = .ok (.invokestatic 106, 3) := by decide +kernel
theorem dX7_named_4 : decode cX7_named 4 = .ok (.ifCond .ne 5, 3) := by decide +kernel
theorem dX7_named_7 : decode cX7_named 7 = .ok (.iconst (-1), 1) := by decide +kernel
theorem dX7_named_8 : decode cX7_named 8 = .ok (.ireturn, 1) := by decide +kernel
theorem dX7_named_9 : decode cX7_named 9 = .ok (.aload_n 0, 1) := by decide +kernel
theorem dX7_named_10 : decode cX7_named 10 = .ok (.iload_n 1, 1) := by decide +kernel
theorem dX7_named_11 : decode cX7_named 11 = .ok (.invokevirtual 125, 3) := by decide +kernel
theorem dX7_named_14 : decode cX7_named 14 = .ok (.aload_n 0, 1) := by decide +kernel
theorem dX7_named_15 : decode cX7_named 15 = .ok (.invokevirtual 158, 3) := by decide +kernel
theorem dX7_named_18 : decode cX7_named 18 = .ok (.iload_n 2, 1) := by decide +kernel
theorem dX7_named_19 : decode cX7_named 19 = .ok (.iconst 0, 1) := by decide +kernel
theorem dX7_named_20 : decode cX7_named 20 = .ok (.aload_n 0, 1) := by decide +kernel
theorem dX7_named_21 : decode cX7_named 21 = .ok (.getfield 149, 3) := by decide +kernel
theorem dX7_named_24 : decode cX7_named 24 = .ok (.iconst 1, 1) := by decide +kernel
theorem dX7_named_25 : decode cX7_named 25 = .ok (.isub, 1) := by decide +kernel
theorem dX7_named_26 : decode cX7_named 26 = .ok (.invokestatic 51, 3) := by decide +kernel
theorem dX7_named_29 : decode cX7_named 29 = .ok (.ifCond .eq 12, 3) := by decide +kernel
theorem dX7_named_32 : decode cX7_named 32 = .ok (.aload_n 0, 1) := by decide +kernel
theorem dX7_named_33 : decode cX7_named 33 = .ok (.getfield 40, 3) := by decide +kernel
theorem dX7_named_36 : decode cX7_named 36 = .ok (.iload_n 2, 1) := by decide +kernel
theorem dX7_named_37 : decode cX7_named 37 = .ok (.iaload, 1) := by decide +kernel
theorem dX7_named_38 : decode cX7_named 38 = .ok (.goto 4, 3) := by decide +kernel
theorem dX7_named_41 : decode cX7_named 41 = .ok (.iconst (-1), 1) := by decide +kernel
theorem dX7_named_42 : decode cX7_named 42 = .ok (.ireturn, 1) := by decide +kernel
theorem dX7_same_0 : decode cX7_same 0 = .ok (.iload_n 1, 1) := by decide +kernel
theorem dX7_same_1 : decode cX7_same 1 = .ok (.invokestatic 106, 3) := by decide +kernel
theorem dX7_same_4 : decode cX7_same 4 = .ok (.ifCond .eq 10, 3) := by decide +kernel
theorem dX7_same_7 : decode cX7_same 7 = .ok (.iload_n 2, 1) := by decide +kernel
theorem dX7_same_8 : decode cX7_same 8 = .ok (.invokestatic 106, 3) := by decide +kernel
theorem dX7_same_11 : decode cX7_same 11 = .ok (.ifCond .ne 5, 3) := by decide +kernel
theorem dX7_same_14 : decode cX7_same 14 = .ok (.iconst (-1), 1) := by decide +kernel
theorem dX7_same_15 : decode cX7_same 15 = .ok (.ireturn, 1) := by decide +kernel
theorem dX7_same_16 : decode cX7_same 16 = .ok (.aload_n 0, 1) := by decide +kernel
theorem dX7_same_17 : decode cX7_same 17 = .ok (.getfield 7, 3) := by decide +kernel
theorem dX7_same_20 : decode cX7_same 20 = .ok (.iload_n 1, 1) := by decide +kernel
theorem dX7_same_21 : decode cX7_same 21 = .ok (.iaload, 1) := by decide +kernel
theorem dX7_same_22 : decode cX7_same 22 = .ok (.aload_n 0, 1) := by decide +kernel
theorem dX7_same_23 : decode cX7_same 23 = .ok (.getfield 7, 3) := by decide +kernel
theorem dX7_same_26 : decode cX7_same 26 = .ok (.iload_n 2, 1) := by decide +kernel
theorem dX7_same_27 : decode cX7_same 27 = .ok (.iaload, 1) := by decide +kernel
theorem dX7_same_28 : decode cX7_same 28 = .ok (.if_icmp .ne 7, 3) := by decide +kernel
theorem dX7_same_31 : decode cX7_same 31 = .ok (.iconst 1, 1) := by decide +kernel
theorem dX7_same_32 : decode cX7_same 32 = .ok (.goto 4, 3) := by decide +kernel
theorem dX7_same_35 : decode cX7_same 35 = .ok (.iconst 0, 1) := by decide +kernel
theorem dX7_same_36 : decode cX7_same 36 = .ok (.istore_n 3, 1) := by decide +kernel
theorem dX7_same_37 : decode cX7_same 37 = .ok (.iconst 0, 1) := by decide +kernel
theorem dX7_same_38 : decode cX7_same 38 = .ok (.istore 4, 2) := by decide +kernel
theorem dX7_same_40 : decode cX7_same 40 = .ok (.iload 4, 2) := by decide +kernel
theorem dX7_same_42 : decode cX7_same 42 = .ok (.aload_n 0, 1) := by decide +kernel
theorem dX7_same_43 : decode cX7_same 43 = .ok (.getfield 7, 3) := by decide +kernel
theorem dX7_same_46 : decode cX7_same 46 = .ok (.iload_n 1, 1) := by decide +kernel
theorem dX7_same_47 : decode cX7_same 47 = .ok (.iaload, 1) := by decide +kernel
theorem dX7_same_48 : decode cX7_same 48 = .ok (.if_icmp .ge 54, 3) := by decide +kernel
theorem dX7_same_51 : decode cX7_same 51 = .ok (.iload_n 3, 1) := by decide +kernel
theorem dX7_same_52 : decode cX7_same 52 = .ok (.ifCond .eq 50, 3) := by decide +kernel
theorem dX7_same_55 : decode cX7_same 55 = .ok (.aload_n 0, 1) := by decide +kernel
theorem dX7_same_56 : decode cX7_same 56 = .ok (.getfield 7, 3) := by decide +kernel
theorem dX7_same_59 : decode cX7_same 59 = .ok (.bipush 6, 2) := by decide +kernel
theorem dX7_same_61 : decode cX7_same 61 = .ok (.sipush 200, 3) := by decide +kernel
theorem dX7_same_64 : decode cX7_same 64 = .ok (.iload_n 1, 1) := by decide +kernel
theorem dX7_same_65 : decode cX7_same 65 = .ok (.imul, 1) := by decide +kernel
theorem dX7_same_66 : decode cX7_same 66 = .ok (.iadd, 1) := by decide +kernel
theorem dX7_same_67 : decode cX7_same 67 = .ok (.iload 4, 2) := by decide +kernel
theorem dX7_same_69 : decode cX7_same 69 = .ok (.iadd, 1) := by decide +kernel
theorem dX7_same_70 : decode cX7_same 70 = .ok (.iaload, 1) := by decide +kernel
theorem dX7_same_71 : decode cX7_same 71 = .ok (.aload_n 0, 1) := by decide +kernel
theorem dX7_same_72 : decode cX7_same 72 = .ok (.getfield 7, 3) := by decide +kernel
theorem dX7_same_75 : decode cX7_same 75 = .ok (.bipush 6, 2) := by decide +kernel
theorem dX7_same_77 : decode cX7_same 77 = .ok (.sipush 200, 3) := by decide +kernel
theorem dX7_same_80 : decode cX7_same 80 = .ok (.iload_n 2, 1) := by decide +kernel
theorem dX7_same_81 : decode cX7_same 81 = .ok (.imul, 1) := by decide +kernel
theorem dX7_same_82 : decode cX7_same 82 = .ok (.iadd, 1) := by decide +kernel
theorem dX7_same_83 : decode cX7_same 83 = .ok (.iload 4, 2) := by decide +kernel
theorem dX7_same_85 : decode cX7_same 85 = .ok (.iadd, 1) := by decide +kernel
theorem dX7_same_86 : decode cX7_same 86 = .ok (.iaload, 1) := by decide +kernel
theorem dX7_same_87 : decode cX7_same 87 = .ok (.if_icmp .ne 7, 3) := by decide +kernel
theorem dX7_same_90 : decode cX7_same 90 = .ok (.iconst 1, 1) := by decide +kernel
theorem dX7_same_91 : decode cX7_same 91 = .ok (.goto 4, 3) := by decide +kernel
theorem dX7_same_94 : decode cX7_same 94 = .ok (.iconst 0, 1) := by decide +kernel
theorem dX7_same_95 : decode cX7_same 95 = .ok (.istore_n 3, 1) := by decide +kernel
theorem dX7_same_96 : decode cX7_same 96 = .ok (.iinc 4 1, 3) := by decide +kernel
theorem dX7_same_99 : decode cX7_same 99 = .ok (.goto (-59), 3) := by decide +kernel
theorem dX7_same_102 : decode cX7_same 102 = .ok (.iload_n 3, 1) := by decide +kernel
theorem dX7_same_103 : decode cX7_same 103 = .ok (.ifCond .eq 7, 3) := by decide +kernel
theorem dX7_same_106 : decode cX7_same 106 = .ok (.iconst 1, 1) := by decide +kernel
theorem dX7_same_107 : decode cX7_same 107 = .ok (.goto 4, 3) := by decide +kernel
theorem dX7_same_110 : decode cX7_same 110 = .ok (.iconst 0, 1) := by decide +kernel
theorem dX7_same_111 : decode cX7_same 111 = .ok (.ireturn, 1) := by decide +kernel
theorem dX7_allParts_0 : decode cX7_allParts 0 = .ok (.iconst 0, 1) := by decide +kernel
theorem dX7_allParts_1 : decode cX7_allParts 1 = .ok (.istore_n 1, 1) := by decide +kernel
theorem dX7_allParts_2 : decode cX7_allParts 2 = .ok (.iconst 0, 1) := by decide +kernel
theorem dX7_allParts_3 : decode cX7_allParts 3 = .ok (.istore_n 2, 1) := by decide +kernel
theorem dX7_allParts_4 : decode cX7_allParts 4 = .ok (.iload_n 2, 1) := by decide +kernel
theorem dX7_allParts_5 : decode cX7_allParts 5 = .ok (.bipush 6, 2) := by decide +kernel
theorem dX7_allParts_7 : decode cX7_allParts 7 = .ok (.if_icmp .ge 18, 3) := by decide +kernel
theorem dX7_allParts_10 : decode cX7_allParts 10 = .ok (.iload_n 1, 1) := by decide +kernel
theorem dX7_allParts_11 : decode cX7_allParts 11 = .ok (.aload_n 0, 1) := by decide +kernel
theorem dX7_allParts_12 : decode cX7_allParts 12 = .ok (.getfield 7, 3) := by decide +kernel
theorem dX7_allParts_15 : decode cX7_allParts 15 = .ok (.iload_n 2, 1) := by decide +kernel
theorem dX7_allParts_16 : decode cX7_allParts 16 = .ok (.iaload, 1) := by decide +kernel
theorem dX7_allParts_17 : decode cX7_allParts 17 = .ok (.iadd, 1) := by decide +kernel
theorem dX7_allParts_18 : decode cX7_allParts 18 = .ok (.istore_n 1, 1) := by decide +kernel
theorem dX7_allParts_19 : decode cX7_allParts 19 = .ok (.iinc 2 1, 3) := by decide +kernel
theorem dX7_allParts_22 : decode cX7_allParts 22 = .ok (.goto (-18), 3) := by decide +kernel
theorem dX7_allParts_25 : decode cX7_allParts 25 = .ok (.iload_n 1, 1) := by decide +kernel
theorem dX7_allParts_26 : decode cX7_allParts 26 = .ok (.ireturn, 1) := by decide +kernel
theorem dX7_atRest_0 : decode cX7_atRest 0 = .ok (.iconst 0, 1) := by decide +kernel
theorem dX7_atRest_1 : decode cX7_atRest 1 = .ok (.istore_n 1, 1) := by decide +kernel
theorem dX7_atRest_2 : decode cX7_atRest 2 = .ok (.iconst 0, 1) := by decide +kernel
theorem dX7_atRest_3 : decode cX7_atRest 3 = .ok (.istore_n 2, 1) := by decide +kernel
theorem dX7_atRest_4 : decode cX7_atRest 4 = .ok (.iload_n 2, 1) := by decide +kernel
theorem dX7_atRest_5 : decode cX7_atRest 5 = .ok (.bipush 6, 2) := by decide +kernel
theorem dX7_atRest_7 : decode cX7_atRest 7 = .ok (.if_icmp .ge 34, 3) := by decide +kernel
theorem dX7_atRest_10 : decode cX7_atRest 10 = .ok (.aload_n 0, 1) := by decide +kernel
theorem dX7_atRest_11 : decode cX7_atRest 11 = .ok (.iload_n 2, 1) := by decide +kernel
theorem dX7_atRest_12 : decode cX7_atRest 12 = .ok (.invokevirtual 125, 3) := by decide +kernel
theorem dX7_atRest_15 : decode cX7_atRest 15 = .ok (.iload_n 1, 1) := by decide +kernel
theorem dX7_atRest_16 : decode cX7_atRest 16 = .ok (.aload_n 0, 1) := by decide +kernel
theorem dX7_atRest_17 : decode cX7_atRest 17 = .ok (.iconst 0, 1) := by decide +kernel
theorem dX7_atRest_18 : decode cX7_atRest 18 = .ok (.invokevirtual 93, 3) := by decide +kernel
theorem dX7_atRest_21 : decode cX7_atRest 21 = .ok (.bipush (-6), 2) := by decide +kernel
theorem dX7_atRest_23 : decode cX7_atRest 23 = .ok (.if_icmp .ne 9, 3) := by decide +kernel
theorem dX7_atRest_26 : decode cX7_atRest 26 = .ok (.iconst 1, 1) := by decide +kernel
theorem dX7_atRest_27 : decode cX7_atRest 27 = .ok (.iload_n 2, 1) := by decide +kernel
theorem dX7_atRest_28 : decode cX7_atRest 28 = .ok (.ishl, 1) := by decide +kernel
theorem dX7_atRest_29 : decode cX7_atRest 29 = .ok (.goto 4, 3) := by decide +kernel
theorem dX7_atRest_32 : decode cX7_atRest 32 = .ok (.iconst 0, 1) := by decide +kernel
theorem dX7_atRest_33 : decode cX7_atRest 33 = .ok (.ior, 1) := by decide +kernel
theorem dX7_atRest_34 : decode cX7_atRest 34 = .ok (.istore_n 1, 1) := by decide +kernel
theorem dX7_atRest_35 : decode cX7_atRest 35 = .ok (.iinc 2 1, 3) := by decide +kernel
theorem dX7_atRest_38 : decode cX7_atRest 38 = .ok (.goto (-34), 3) := by decide +kernel
theorem dX7_atRest_41 : decode cX7_atRest 41 = .ok (.iload_n 1, 1) := by decide +kernel
theorem dX7_atRest_42 : decode cX7_atRest 42 = .ok (.ireturn, 1) := by decide +kernel
theorem dX7_count_0 : decode cX7_count 0 = .ok (.iload_n 1, 1) := by decide +kernel
theorem dX7_count_1 : decode cX7_count 1 = .ok (.tableswitch 51 0 3 #[31, 36, 41, 46], 31) := by decide +kernel
theorem dX7_count_32 : decode cX7_count 32 = .ok (.aload_n 0, 1) := by decide +kernel
theorem dX7_count_33 : decode cX7_count 33 = .ok (.invokevirtual 161, 3) := by decide +kernel
theorem dX7_count_36 : decode cX7_count 36 = .ok (.ireturn, 1) := by decide +kernel
theorem dX7_count_37 : decode cX7_count 37 = .ok (.aload_n 0, 1) := by decide +kernel
theorem dX7_count_38 : decode cX7_count 38 = .ok (.invokevirtual 164, 3) := by decide +kernel
theorem dX7_count_41 : decode cX7_count 41 = .ok (.ireturn, 1) := by decide +kernel
theorem dX7_count_42 : decode cX7_count 42 = .ok (.aload_n 0, 1) := by decide +kernel
theorem dX7_count_43 : decode cX7_count 43 = .ok (.getfield 116, 3) := by decide +kernel
theorem dX7_count_46 : decode cX7_count 46 = .ok (.ireturn, 1) := by decide +kernel
theorem dX7_count_47 : decode cX7_count 47 = .ok (.aload_n 0, 1) := by decide +kernel
theorem dX7_count_48 : decode cX7_count 48 = .ok (.getfield 43, 3) := by decide +kernel
theorem dX7_count_51 : decode cX7_count 51 = .ok (.ireturn, 1) := by decide +kernel
theorem dX7_count_52 : decode cX7_count 52 = .ok (.bipush (-2), 2) := by decide +kernel
theorem dX7_count_54 : decode cX7_count 54 = .ok (.ireturn, 1) := by decide +kernel
theorem dX7_ends_0 : decode cX7_ends 0 = .ok (.iload_n 1, 1) := by decide +kernel
theorem dX7_ends_1 : decode cX7_ends 1 = .ok (.invokestatic 106, 3) := by decide +kernel
theorem dX7_ends_4 : decode cX7_ends 4 = .ok (.ifCond .eq 11, 3) := by decide +kernel
theorem dX7_ends_7 : decode cX7_ends 7 = .ok (.iload_n 2, 1) := by decide +kernel
theorem dX7_ends_8 : decode cX7_ends 8 = .ok (.iload_n 3, 1) := by decide +kernel
theorem dX7_ends_9 : decode cX7_ends 9 = .ok (.invokestatic 128, 3) := by decide +kernel
theorem dX7_ends_12 : decode cX7_ends 12 = .ok (.ifCond .ne 17, 3) := by decide +kernel
theorem dX7_ends_15 : decode cX7_ends 15 = .ok (.iload_n 1, 1) := by decide +kernel
theorem dX7_ends_16 : decode cX7_ends 16 = .ok (.invokestatic 106, 3) := by decide +kernel
theorem dX7_ends_19 : decode cX7_ends 19 = .ok (.ifCond .eq 8, 3) := by decide +kernel
theorem dX7_ends_22 : decode cX7_ends 22 = .ok (.bipush (-2), 2) := by decide +kernel
theorem dX7_ends_24 : decode cX7_ends 24 = .ok (.goto 4, 3) := by decide +kernel
theorem dX7_ends_27 : decode cX7_ends 27 = .ok (.iconst (-1), 1) := by decide +kernel
theorem dX7_ends_28 : decode cX7_ends 28 = .ok (.ireturn, 1) := by decide +kernel
theorem dX7_ends_29 : decode cX7_ends 29 = .ok (.aload_n 0, 1) := by decide +kernel
theorem dX7_ends_30 : decode cX7_ends 30 = .ok (.iload_n 1, 1) := by decide +kernel
theorem dX7_ends_31 : decode cX7_ends 31 = .ok (.invokevirtual 125, 3) := by decide +kernel
theorem dX7_ends_34 : decode cX7_ends 34 = .ok (.aload_n 0, 1) := by decide +kernel
theorem dX7_ends_35 : decode cX7_ends 35 = .ok (.iload_n 2, 1) := by decide +kernel
theorem dX7_ends_36 : decode cX7_ends 36 = .ok (.iload_n 3, 1) := by decide +kernel
theorem dX7_ends_37 : decode cX7_ends 37 = .ok (.invokevirtual 131, 3) := by decide +kernel
theorem dX7_ends_40 : decode cX7_ends 40 = .ok (.istore 4, 2) := by decide +kernel
theorem dX7_ends_42 : decode cX7_ends 42 = .ok (.iload 4, 2) := by decide +kernel
theorem dX7_ends_44 : decode cX7_ends 44 = .ok (.ifCond .ge 8, 3) := by decide +kernel
theorem dX7_ends_47 : decode cX7_ends 47 = .ok (.bipush (-6), 2) := by decide +kernel
theorem dX7_ends_49 : decode cX7_ends 49 = .ok (.goto 5, 3) := by decide +kernel
theorem dX7_ends_52 : decode cX7_ends 52 = .ok (.iload 4, 2) := by decide +kernel
theorem dX7_ends_54 : decode cX7_ends 54 = .ok (.ireturn, 1) := by decide +kernel
theorem dX7_meet_0 : decode cX7_meet 0 = .ok (.aload_n 0, 1) := by decide +kernel
theorem dX7_meet_1 : decode cX7_meet 1 = .ok (.iload_n 3, 1) := by decide +kernel
theorem dX7_meet_2 : decode cX7_meet 2 = .ok (.invokevirtual 125, 3) := by decide +kernel
theorem dX7_meet_5 : decode cX7_meet 5 = .ok (.aload_n 0, 1) := by decide +kernel
theorem dX7_meet_6 : decode cX7_meet 6 = .ok (.iload 4, 2) := by decide +kernel
theorem dX7_meet_8 : decode cX7_meet 8 = .ok (.iload 5, 2) := by decide +kernel
theorem dX7_meet_10 : decode cX7_meet 10 = .ok (.invokevirtual 131, 3) := by decide +kernel
theorem dX7_meet_13 : decode cX7_meet 13 = .ok (.ifCond .ge 6, 3) := by decide +kernel
theorem dX7_meet_16 : decode cX7_meet 16 = .ok (.bipush (-6), 2) := by decide +kernel
theorem dX7_meet_18 : decode cX7_meet 18 = .ok (.ireturn, 1) := by decide +kernel
theorem dX7_meet_19 : decode cX7_meet 19 = .ok (.aload_n 0, 1) := by decide +kernel
theorem dX7_meet_20 : decode cX7_meet 20 = .ok (.aload_n 0, 1) := by decide +kernel
theorem dX7_meet_21 : decode cX7_meet 21 = .ok (.getfield 55, 3) := by decide +kernel
theorem dX7_meet_24 : decode cX7_meet 24 = .ok (.putfield 167, 3) := by decide +kernel
theorem dX7_meet_27 : decode cX7_meet 27 = .ok (.aload_n 0, 1) := by decide +kernel
theorem dX7_meet_28 : decode cX7_meet 28 = .ok (.getfield 25, 3) := by decide +kernel
theorem dX7_meet_31 : decode cX7_meet 31 = .ok (.iconst 0, 1) := by decide +kernel
theorem dX7_meet_32 : decode cX7_meet 32 = .ok (.aload_n 0, 1) := by decide +kernel
theorem dX7_meet_33 : decode cX7_meet 33 = .ok (.getfield 37, 3) := by decide +kernel
theorem dX7_meet_36 : decode cX7_meet 36 = .ok (.iconst 0, 1) := by decide +kernel
theorem dX7_meet_37 : decode cX7_meet 37 = .ok (.aload_n 0, 1) := by decide +kernel
theorem dX7_meet_38 : decode cX7_meet 38 = .ok (.getfield 55, 3) := by decide +kernel
theorem dX7_meet_41 : decode cX7_meet 41 = .ok (.invokestatic 47, 3) := by decide +kernel
theorem dX7_meet_44 : decode cX7_meet 44 = .ok (.aload_n 0, 1) := by decide +kernel
theorem dX7_meet_45 : decode cX7_meet 45 = .ok (.iload_n 1, 1) := by decide +kernel
theorem dX7_meet_46 : decode cX7_meet 46 = .ok (.invokevirtual 125, 3) := by decide +kernel
theorem dX7_meet_49 : decode cX7_meet 49 = .ok (.aload_n 0, 1) := by decide +kernel
theorem dX7_meet_50 : decode cX7_meet 50 = .ok (.iload_n 2, 1) := by decide +kernel
theorem dX7_meet_51 : decode cX7_meet 51 = .ok (.iload 5, 2) := by decide +kernel
theorem dX7_meet_53 : decode cX7_meet 53 = .ok (.invokevirtual 131, 3) := by decide +kernel
theorem dX7_meet_56 : decode cX7_meet 56 = .ok (.ifCond .ge 6, 3) := by decide +kernel
theorem dX7_meet_59 : decode cX7_meet 59 = .ok (.bipush (-6), 2) := by decide +kernel
theorem dX7_meet_61 : decode cX7_meet 61 = .ok (.ireturn, 1) := by decide +kernel
theorem dX7_meet_62 : decode cX7_meet 62 = .ok (.aload_n 0, 1) := by decide +kernel
theorem dX7_meet_63 : decode cX7_meet 63 = .ok (.getfield 55, 3) := by decide +kernel
theorem dX7_meet_66 : decode cX7_meet 66 = .ok (.aload_n 0, 1) := by decide +kernel
theorem dX7_meet_67 : decode cX7_meet 67 = .ok (.getfield 167, 3) := by decide +kernel
theorem dX7_meet_70 : decode cX7_meet 70 = .ok (.if_icmp .ne 7, 3) := by decide +kernel
theorem dX7_meet_73 : decode cX7_meet 73 = .ok (.iconst 1, 1) := by decide +kernel
theorem dX7_meet_74 : decode cX7_meet 74 = .ok (.goto 4, 3) := by decide +kernel
theorem dX7_meet_77 : decode cX7_meet 77 = .ok (.iconst 0, 1) := by decide +kernel
theorem dX7_meet_78 : decode cX7_meet 78 = .ok (.istore 6, 2) := by decide +kernel
theorem dX7_meet_80 : decode cX7_meet 80 = .ok (.iconst 0, 1) := by decide +kernel
theorem dX7_meet_81 : decode cX7_meet 81 = .ok (.istore 7, 2) := by decide +kernel
theorem dX7_meet_83 : decode cX7_meet 83 = .ok (.iload 7, 2) := by decide +kernel
theorem dX7_meet_85 : decode cX7_meet 85 = .ok (.aload_n 0, 1) := by decide +kernel
theorem dX7_meet_86 : decode cX7_meet 86 = .ok (.getfield 55, 3) := by decide +kernel
theorem dX7_meet_89 : decode cX7_meet 89 = .ok (.if_icmp .ge 38, 3) := by decide +kernel
theorem dX7_meet_92 : decode cX7_meet 92 = .ok (.iload 6, 2) := by decide +kernel
theorem dX7_meet_94 : decode cX7_meet 94 = .ok (.ifCond .eq 33, 3) := by decide +kernel
theorem dX7_meet_97 : decode cX7_meet 97 = .ok (.aload_n 0, 1) := by decide +kernel
theorem dX7_meet_98 : decode cX7_meet 98 = .ok (.getfield 25, 3) := by decide +kernel
theorem dX7_meet_101 : decode cX7_meet 101 = .ok (.iload 7, 2) := by decide +kernel
theorem dX7_meet_103 : decode cX7_meet 103 = .ok (.iaload, 1) := by decide +kernel
theorem dX7_meet_104 : decode cX7_meet 104 = .ok (.aload_n 0, 1) := by decide +kernel
theorem dX7_meet_105 : decode cX7_meet 105 = .ok (.getfield 37, 3) := by decide +kernel
theorem dX7_meet_108 : decode cX7_meet 108 = .ok (.iload 7, 2) := by decide +kernel
theorem dX7_meet_110 : decode cX7_meet 110 = .ok (.iaload, 1) := by decide +kernel
theorem dX7_meet_111 : decode cX7_meet 111 = .ok (.if_icmp .ne 7, 3) := by decide +kernel
theorem dX7_meet_114 : decode cX7_meet 114 = .ok (.iconst 1, 1) := by decide +kernel
theorem dX7_meet_115 : decode cX7_meet 115 = .ok (.goto 4, 3) := by decide +kernel
theorem dX7_meet_118 : decode cX7_meet 118 = .ok (.iconst 0, 1) := by decide +kernel
theorem dX7_meet_119 : decode cX7_meet 119 = .ok (.istore 6, 2) := by decide +kernel
theorem dX7_meet_121 : decode cX7_meet 121 = .ok (.iinc 7 1, 3) := by decide +kernel
theorem dX7_meet_124 : decode cX7_meet 124 = .ok (.goto (-41), 3) := by decide +kernel
theorem dX7_meet_127 : decode cX7_meet 127 = .ok (.iload 6, 2) := by decide +kernel
theorem dX7_meet_129 : decode cX7_meet 129 = .ok (.ifCond .eq 7, 3) := by decide +kernel
theorem dX7_meet_132 : decode cX7_meet 132 = .ok (.iconst 1, 1) := by decide +kernel
theorem dX7_meet_133 : decode cX7_meet 133 = .ok (.goto 4, 3) := by decide +kernel
theorem dX7_meet_136 : decode cX7_meet 136 = .ok (.iconst 0, 1) := by decide +kernel
theorem dX7_meet_137 : decode cX7_meet 137 = .ok (.ireturn, 1) := by decide +kernel
theorem dX7_agree_0 : decode cX7_agree 0 = .ok (.iload_n 1, 1) := by decide +kernel
theorem dX7_agree_1 : decode cX7_agree 1 = .ok (.invokestatic 106, 3) := by decide +kernel
theorem dX7_agree_4 : decode cX7_agree 4 = .ok (.ifCond .eq 11, 3) := by decide +kernel
theorem dX7_agree_7 : decode cX7_agree 7 = .ok (.iconst 0, 1) := by decide +kernel
theorem dX7_agree_8 : decode cX7_agree 8 = .ok (.iload_n 2, 1) := by decide +kernel
theorem dX7_agree_9 : decode cX7_agree 9 = .ok (.invokestatic 128, 3) := by decide +kernel
theorem dX7_agree_12 : decode cX7_agree 12 = .ok (.ifCond .ne 17, 3) := by decide +kernel
theorem dX7_agree_15 : decode cX7_agree 15 = .ok (.iload_n 1, 1) := by decide +kernel
theorem dX7_agree_16 : decode cX7_agree 16 = .ok (.invokestatic 106, 3) := by decide +kernel
theorem dX7_agree_19 : decode cX7_agree 19 = .ok (.ifCond .eq 8, 3) := by decide +kernel
theorem dX7_agree_22 : decode cX7_agree 22 = .ok (.bipush (-2), 2) := by decide +kernel
theorem dX7_agree_24 : decode cX7_agree 24 = .ok (.goto 4, 3) := by decide +kernel
theorem dX7_agree_27 : decode cX7_agree 27 = .ok (.iconst (-1), 1) := by decide +kernel
theorem dX7_agree_28 : decode cX7_agree 28 = .ok (.ireturn, 1) := by decide +kernel
theorem dX7_agree_29 : decode cX7_agree 29 = .ok (.aload_n 0, 1) := by decide +kernel
theorem dX7_agree_30 : decode cX7_agree 30 = .ok (.iload_n 1, 1) := by decide +kernel
theorem dX7_agree_31 : decode cX7_agree 31 = .ok (.iconst 0, 1) := by decide +kernel
theorem dX7_agree_32 : decode cX7_agree 32 = .ok (.iload_n 1, 1) := by decide +kernel
theorem dX7_agree_33 : decode cX7_agree 33 = .ok (.iconst 1, 1) := by decide +kernel
theorem dX7_agree_34 : decode cX7_agree 34 = .ok (.iload_n 2, 1) := by decide +kernel
theorem dX7_agree_35 : decode cX7_agree 35 = .ok (.invokevirtual 170, 3) := by decide +kernel
theorem dX7_agree_38 : decode cX7_agree 38 = .ok (.ireturn, 1) := by decide +kernel
theorem dX7_most_0 : decode cX7_most 0 = .ok (.iload_n 1, 1) := by decide +kernel
theorem dX7_most_1 : decode cX7_most 1 = .ok (.invokestatic 106, 3) := by decide +kernel
theorem dX7_most_4 : decode cX7_most 4 = .ok (.ifCond .eq 11, 3) := by decide +kernel
theorem dX7_most_7 : decode cX7_most 7 = .ok (.iload_n 2, 1) := by decide +kernel
theorem dX7_most_8 : decode cX7_most 8 = .ok (.iload_n 3, 1) := by decide +kernel
theorem dX7_most_9 : decode cX7_most 9 = .ok (.invokestatic 128, 3) := by decide +kernel
theorem dX7_most_12 : decode cX7_most 12 = .ok (.ifCond .ne 17, 3) := by decide +kernel
theorem dX7_most_15 : decode cX7_most 15 = .ok (.iload_n 1, 1) := by decide +kernel
theorem dX7_most_16 : decode cX7_most 16 = .ok (.invokestatic 106, 3) := by decide +kernel
theorem dX7_most_19 : decode cX7_most 19 = .ok (.ifCond .eq 8, 3) := by decide +kernel
theorem dX7_most_22 : decode cX7_most 22 = .ok (.bipush (-2), 2) := by decide +kernel
theorem dX7_most_24 : decode cX7_most 24 = .ok (.goto 4, 3) := by decide +kernel
theorem dX7_most_27 : decode cX7_most 27 = .ok (.iconst (-1), 1) := by decide +kernel
theorem dX7_most_28 : decode cX7_most 28 = .ok (.ireturn, 1) := by decide +kernel
theorem dX7_most_29 : decode cX7_most 29 = .ok (.aload_n 0, 1) := by decide +kernel
theorem dX7_most_30 : decode cX7_most 30 = .ok (.iload_n 1, 1) := by decide +kernel
theorem dX7_most_31 : decode cX7_most 31 = .ok (.invokevirtual 125, 3) := by decide +kernel
theorem dX7_most_34 : decode cX7_most 34 = .ok (.aload_n 0, 1) := by decide +kernel
theorem dX7_most_35 : decode cX7_most 35 = .ok (.getfield 55, 3) := by decide +kernel
theorem dX7_most_38 : decode cX7_most 38 = .ok (.istore 4, 2) := by decide +kernel
theorem dX7_most_40 : decode cX7_most 40 = .ok (.iconst 0, 1) := by decide +kernel
theorem dX7_most_41 : decode cX7_most 41 = .ok (.istore 5, 2) := by decide +kernel
theorem dX7_most_43 : decode cX7_most 43 = .ok (.iconst 0, 1) := by decide +kernel
theorem dX7_most_44 : decode cX7_most 44 = .ok (.istore 6, 2) := by decide +kernel
theorem dX7_most_46 : decode cX7_most 46 = .ok (.iload 6, 2) := by decide +kernel
theorem dX7_most_48 : decode cX7_most 48 = .ok (.iload_n 3, 1) := by decide +kernel
theorem dX7_most_49 : decode cX7_most 49 = .ok (.if_icmp .ge 41, 3) := by decide +kernel
theorem dX7_most_52 : decode cX7_most 52 = .ok (.iload 5, 2) := by decide +kernel
theorem dX7_most_54 : decode cX7_most 54 = .ok (.ifCond .ne 36, 3) := by decide +kernel
theorem dX7_most_57 : decode cX7_most 57 = .ok (.aload_n 0, 1) := by decide +kernel
theorem dX7_most_58 : decode cX7_most 58 = .ok (.iload_n 2, 1) := by decide +kernel
theorem dX7_most_59 : decode cX7_most 59 = .ok (.invokevirtual 103, 3) := by decide +kernel
theorem dX7_most_62 : decode cX7_most 62 = .ok (.istore 5, 2) := by decide +kernel
theorem dX7_most_64 : decode cX7_most 64 = .ok (.aload_n 0, 1) := by decide +kernel
theorem dX7_most_65 : decode cX7_most 65 = .ok (.getfield 55, 3) := by decide +kernel
theorem dX7_most_68 : decode cX7_most 68 = .ok (.iload 4, 2) := by decide +kernel
theorem dX7_most_70 : decode cX7_most 70 = .ok (.if_icmp .le 10, 3) := by decide +kernel
theorem dX7_most_73 : decode cX7_most 73 = .ok (.aload_n 0, 1) := by decide +kernel
theorem dX7_most_74 : decode cX7_most 74 = .ok (.getfield 55, 3) := by decide +kernel
theorem dX7_most_77 : decode cX7_most 77 = .ok (.goto 5, 3) := by decide +kernel
theorem dX7_most_80 : decode cX7_most 80 = .ok (.iload 4, 2) := by decide +kernel
theorem dX7_most_82 : decode cX7_most 82 = .ok (.istore 4, 2) := by decide +kernel
theorem dX7_most_84 : decode cX7_most 84 = .ok (.iinc 6 1, 3) := by decide +kernel
theorem dX7_most_87 : decode cX7_most 87 = .ok (.goto (-41), 3) := by decide +kernel
theorem dX7_most_90 : decode cX7_most 90 = .ok (.iload 4, 2) := by decide +kernel
theorem dX7_most_92 : decode cX7_most 92 = .ok (.ireturn, 1) := by decide +kernel
theorem dX7_alike_0 : decode cX7_alike 0 = .ok (.iload_n 1, 1) := by decide +kernel
theorem dX7_alike_1 : decode cX7_alike 1 = .ok (.invokestatic 106, 3) := by decide +kernel
theorem dX7_alike_4 : decode cX7_alike 4 = .ok (.ifCond .eq 10, 3) := by decide +kernel
theorem dX7_alike_7 : decode cX7_alike 7 = .ok (.iload_n 2, 1) := by decide +kernel
theorem dX7_alike_8 : decode cX7_alike 8 = .ok (.invokestatic 106, 3) := by decide +kernel
theorem dX7_alike_11 : decode cX7_alike 11 = .ok (.ifCond .ne 5, 3) := by decide +kernel
theorem dX7_alike_14 : decode cX7_alike 14 = .ok (.iconst (-1), 1) := by decide +kernel
theorem dX7_alike_15 : decode cX7_alike 15 = .ok (.ireturn, 1) := by decide +kernel
theorem dX7_alike_16 : decode cX7_alike 16 = .ok (.iconst 0, 1) := by decide +kernel
theorem dX7_alike_17 : decode cX7_alike 17 = .ok (.iload_n 3, 1) := by decide +kernel
theorem dX7_alike_18 : decode cX7_alike 18 = .ok (.invokestatic 128, 3) := by decide +kernel
theorem dX7_alike_21 : decode cX7_alike 21 = .ok (.ifCond .eq 15, 3) := by decide +kernel
theorem dX7_alike_24 : decode cX7_alike 24 = .ok (.aload_n 0, 1) := by decide +kernel
theorem dX7_alike_25 : decode cX7_alike 25 = .ok (.iload_n 1, 1) := by decide +kernel
theorem dX7_alike_26 : decode cX7_alike 26 = .ok (.iconst 0, 1) := by decide +kernel
theorem dX7_alike_27 : decode cX7_alike 27 = .ok (.iload_n 2, 1) := by decide +kernel
theorem dX7_alike_28 : decode cX7_alike 28 = .ok (.iconst 0, 1) := by decide +kernel
theorem dX7_alike_29 : decode cX7_alike 29 = .ok (.iload_n 3, 1) := by decide +kernel
theorem dX7_alike_30 : decode cX7_alike 30 = .ok (.invokevirtual 170, 3) := by decide +kernel
theorem dX7_alike_33 : decode cX7_alike 33 = .ok (.goto 5, 3) := by decide +kernel
theorem dX7_alike_36 : decode cX7_alike 36 = .ok (.bipush (-2), 2) := by decide +kernel
theorem dX7_alike_38 : decode cX7_alike 38 = .ok (.ireturn, 1) := by decide +kernel
theorem dX7_put_0 : decode cX7_put 0 = .ok (.iconst 0, 1) := by decide +kernel
theorem dX7_put_1 : decode cX7_put 1 = .ok (.istore_n 3, 1) := by decide +kernel
theorem dX7_put_2 : decode cX7_put 2 = .ok (.lload_n 1, 1) := by decide +kernel
theorem dX7_put_3 : decode cX7_put 3 = .ok (.lstore 4, 2) := by decide +kernel
theorem dX7_put_5 : decode cX7_put 5 = .ok (.iconst 1, 1) := by decide +kernel
theorem dX7_put_6 : decode cX7_put 6 = .ok (.istore 6, 2) := by decide +kernel
theorem dX7_put_8 : decode cX7_put 8 = .ok (.iload_n 3, 1) := by decide +kernel
theorem dX7_put_9 : decode cX7_put 9 = .ok (.bipush 8, 2) := by decide +kernel
theorem dX7_put_11 : decode cX7_put 11 = .ok (.if_icmp .ge 56, 3) := by decide +kernel
theorem dX7_put_14 : decode cX7_put 14 = .ok (.lload 4, 2) := by decide +kernel
theorem dX7_put_16 : decode cX7_put 16 = .ok (.ldc2_w 174, 3) := by decide +kernel
theorem dX7_put_19 : decode cX7_put 19 = .ok (.land, 1) := by decide +kernel
theorem dX7_put_20 : decode cX7_put 20 = .ok (.lconst 0, 1) := by decide +kernel
theorem dX7_put_21 : decode cX7_put 21 = .ok (.lcmp, 1) := by decide +kernel
theorem dX7_put_22 : decode cX7_put 22 = .ok (.ifCond .eq 45, 3) := by decide +kernel
theorem dX7_put_25 : decode cX7_put 25 = .ok (.iload 6, 2) := by decide +kernel
theorem dX7_put_27 : decode cX7_put 27 = .ok (.ifCond .eq 24, 3) := by decide +kernel
theorem dX7_put_30 : decode cX7_put 30 = .ok (.lload 4, 2) := by decide +kernel
theorem dX7_put_32 : decode cX7_put 32 = .ok (.ldc2_w 174, 3) := by decide +kernel
theorem dX7_put_35 : decode cX7_put 35 = .ok (.land, 1) := by decide +kernel
theorem dX7_put_36 : decode cX7_put 36 = .ok (.l2i, 1) := by decide +kernel
theorem dX7_put_37 : decode cX7_put 37 = .ok (.bipush 33, 2) := by decide +kernel
theorem dX7_put_39 : decode cX7_put 39 = .ok (.bipush 126, 2) := by decide +kernel
theorem dX7_put_41 : decode cX7_put 41 = .ok (.invokestatic 51, 3) := by decide +kernel
theorem dX7_put_44 : decode cX7_put 44 = .ok (.ifCond .eq 7, 3) := by decide +kernel
theorem dX7_put_47 : decode cX7_put 47 = .ok (.iconst 1, 1) := by decide +kernel
theorem dX7_put_48 : decode cX7_put 48 = .ok (.goto 4, 3) := by decide +kernel
theorem dX7_put_51 : decode cX7_put 51 = .ok (.iconst 0, 1) := by decide +kernel
theorem dX7_put_52 : decode cX7_put 52 = .ok (.istore 6, 2) := by decide +kernel
theorem dX7_put_54 : decode cX7_put 54 = .ok (.lload 4, 2) := by decide +kernel
theorem dX7_put_56 : decode cX7_put 56 = .ok (.bipush 8, 2) := by decide +kernel
theorem dX7_put_58 : decode cX7_put 58 = .ok (.lushr, 1) := by decide +kernel
theorem dX7_put_59 : decode cX7_put 59 = .ok (.lstore 4, 2) := by decide +kernel
theorem dX7_put_61 : decode cX7_put 61 = .ok (.iinc 3 1, 3) := by decide +kernel
theorem dX7_put_64 : decode cX7_put 64 = .ok (.goto (-56), 3) := by decide +kernel
theorem dX7_put_67 : decode cX7_put 67 = .ok (.iload_n 3, 1) := by decide +kernel
theorem dX7_put_68 : decode cX7_put 68 = .ok (.ifCond .eq 15, 3) := by decide +kernel
theorem dX7_put_71 : decode cX7_put 71 = .ok (.iload 6, 2) := by decide +kernel
theorem dX7_put_73 : decode cX7_put 73 = .ok (.ifCond .eq 10, 3) := by decide +kernel
theorem dX7_put_76 : decode cX7_put 76 = .ok (.lload 4, 2) := by decide +kernel
theorem dX7_put_78 : decode cX7_put 78 = .ok (.lconst 0, 1) := by decide +kernel
theorem dX7_put_79 : decode cX7_put 79 = .ok (.lcmp, 1) := by decide +kernel
theorem dX7_put_80 : decode cX7_put 80 = .ok (.ifCond .eq 6, 3) := by decide +kernel
theorem dX7_put_83 : decode cX7_put 83 = .ok (.bipush (-2), 2) := by decide +kernel
theorem dX7_put_85 : decode cX7_put 85 = .ok (.ireturn, 1) := by decide +kernel
theorem dX7_put_86 : decode cX7_put 86 = .ok (.aload_n 0, 1) := by decide +kernel
theorem dX7_put_87 : decode cX7_put 87 = .ok (.getfield 116, 3) := by decide +kernel
theorem dX7_put_90 : decode cX7_put 90 = .ok (.iload_n 3, 1) := by decide +kernel
theorem dX7_put_91 : decode cX7_put 91 = .ok (.iadd, 1) := by decide +kernel
theorem dX7_put_92 : decode cX7_put 92 = .ok (.bipush 60, 2) := by decide +kernel
theorem dX7_put_94 : decode cX7_put 94 = .ok (.if_icmp .le 6, 3) := by decide +kernel
theorem dX7_put_97 : decode cX7_put 97 = .ok (.bipush (-4), 2) := by decide +kernel
theorem dX7_put_99 : decode cX7_put 99 = .ok (.ireturn, 1) := by decide +kernel
theorem dX7_put_100 : decode cX7_put 100 = .ok (.iload_n 3, 1) := by decide +kernel
theorem dX7_put_101 : decode cX7_put 101 = .ok (.iconst 1, 1) := by decide +kernel
theorem dX7_put_102 : decode cX7_put 102 = .ok (.isub, 1) := by decide +kernel
theorem dX7_put_103 : decode cX7_put 103 = .ok (.istore 7, 2) := by decide +kernel
theorem dX7_put_105 : decode cX7_put 105 = .ok (.iload 7, 2) := by decide +kernel
theorem dX7_put_107 : decode cX7_put 107 = .ok (.ifCond .lt 40, 3) := by decide +kernel
theorem dX7_put_110 : decode cX7_put 110 = .ok (.aload_n 0, 1) := by decide +kernel
theorem dX7_put_111 : decode cX7_put 111 = .ok (.getfield 22, 3) := by decide +kernel
theorem dX7_put_114 : decode cX7_put 114 = .ok (.aload_n 0, 1) := by decide +kernel
theorem dX7_put_115 : decode cX7_put 115 = .ok (.getfield 116, 3) := by decide +kernel
theorem dX7_put_118 : decode cX7_put 118 = .ok (.lload_n 1, 1) := by decide +kernel
theorem dX7_put_119 : decode cX7_put 119 = .ok (.bipush 8, 2) := by decide +kernel
theorem dX7_put_121 : decode cX7_put 121 = .ok (.iload 7, 2) := by decide +kernel
theorem dX7_put_123 : decode cX7_put 123 = .ok (.imul, 1) := by decide +kernel
theorem dX7_put_124 : decode cX7_put 124 = .ok (.lushr, 1) := by decide +kernel
theorem dX7_put_125 : decode cX7_put 125 = .ok (.ldc2_w 174, 3) := by decide +kernel
theorem dX7_put_128 : decode cX7_put 128 = .ok (.land, 1) := by decide +kernel
theorem dX7_put_129 : decode cX7_put 129 = .ok (.l2i, 1) := by decide +kernel
theorem dX7_put_130 : decode cX7_put 130 = .ok (.iastore, 1) := by decide +kernel
theorem dX7_put_131 : decode cX7_put 131 = .ok (.aload_n 0, 1) := by decide +kernel
theorem dX7_put_132 : decode cX7_put 132 = .ok (.dup, 1) := by decide +kernel
theorem dX7_put_133 : decode cX7_put 133 = .ok (.getfield 116, 3) := by decide +kernel
theorem dX7_put_136 : decode cX7_put 136 = .ok (.iconst 1, 1) := by decide +kernel
theorem dX7_put_137 : decode cX7_put 137 = .ok (.iadd, 1) := by decide +kernel
theorem dX7_put_138 : decode cX7_put 138 = .ok (.putfield 116, 3) := by decide +kernel
theorem dX7_put_141 : decode cX7_put 141 = .ok (.iinc 7 (-1), 3) := by decide +kernel
theorem dX7_put_144 : decode cX7_put 144 = .ok (.goto (-39), 3) := by decide +kernel
theorem dX7_put_147 : decode cX7_put 147 = .ok (.aload_n 0, 1) := by decide +kernel
theorem dX7_put_148 : decode cX7_put 148 = .ok (.getfield 116, 3) := by decide +kernel
theorem dX7_put_151 : decode cX7_put 151 = .ok (.ireturn, 1) := by decide +kernel
theorem dX7_wipe_0 : decode cX7_wipe 0 = .ok (.aload_n 0, 1) := by decide +kernel
theorem dX7_wipe_1 : decode cX7_wipe 1 = .ok (.getfield 116, 3) := by decide +kernel
theorem dX7_wipe_4 : decode cX7_wipe 4 = .ok (.istore_n 1, 1) := by decide +kernel
theorem dX7_wipe_5 : decode cX7_wipe 5 = .ok (.aload_n 0, 1) := by decide +kernel
theorem dX7_wipe_6 : decode cX7_wipe 6 = .ok (.iconst 0, 1) := by decide +kernel
theorem dX7_wipe_7 : decode cX7_wipe 7 = .ok (.putfield 116, 3) := by decide +kernel
theorem dX7_wipe_10 : decode cX7_wipe 10 = .ok (.iload_n 1, 1) := by decide +kernel
theorem dX7_wipe_11 : decode cX7_wipe 11 = .ok (.ireturn, 1) := by decide +kernel
theorem dX7_partBy_0 : decode cX7_partBy 0 = .ok (.iload_n 0, 1) := by decide +kernel
theorem dX7_partBy_1 : decode cX7_partBy 1 = .ok (.bipush 48, 2) := by decide +kernel
theorem dX7_partBy_3 : decode cX7_partBy 3 = .ok (.bipush 57, 2) := by decide +kernel
theorem dX7_partBy_5 : decode cX7_partBy 5 = .ok (.invokestatic 51, 3) := by decide +kernel
theorem dX7_partBy_8 : decode cX7_partBy 8 = .ok (.ifCond .eq 10, 3) := by decide +kernel
theorem dX7_partBy_11 : decode cX7_partBy 11 = .ok (.iconst 0, 1) := by decide +kernel
theorem dX7_partBy_12 : decode cX7_partBy 12 = .ok (.iload_n 0, 1) := by decide +kernel
theorem dX7_partBy_13 : decode cX7_partBy 13 = .ok (.iadd, 1) := by decide +kernel
theorem dX7_partBy_14 : decode cX7_partBy 14 = .ok (.bipush 48, 2) := by decide +kernel
theorem dX7_partBy_16 : decode cX7_partBy 16 = .ok (.isub, 1) := by decide +kernel
theorem dX7_partBy_17 : decode cX7_partBy 17 = .ok (.ireturn, 1) := by decide +kernel
theorem dX7_partBy_18 : decode cX7_partBy 18 = .ok (.iload_n 0, 1) := by decide +kernel
theorem dX7_partBy_19 : decode cX7_partBy 19 = .ok (.bipush 97, 2) := by decide +kernel
theorem dX7_partBy_21 : decode cX7_partBy 21 = .ok (.bipush 102, 2) := by decide +kernel
theorem dX7_partBy_23 : decode cX7_partBy 23 = .ok (.invokestatic 51, 3) := by decide +kernel
theorem dX7_partBy_26 : decode cX7_partBy 26 = .ok (.ifCond .eq 12, 3) := by decide +kernel
theorem dX7_partBy_29 : decode cX7_partBy 29 = .ok (.sipush 1000, 3) := by decide +kernel
theorem dX7_partBy_32 : decode cX7_partBy 32 = .ok (.iload_n 0, 1) := by decide +kernel
theorem dX7_partBy_33 : decode cX7_partBy 33 = .ok (.iadd, 1) := by decide +kernel
theorem dX7_partBy_34 : decode cX7_partBy 34 = .ok (.bipush 97, 2) := by decide +kernel
theorem dX7_partBy_36 : decode cX7_partBy 36 = .ok (.isub, 1) := by decide +kernel
theorem dX7_partBy_37 : decode cX7_partBy 37 = .ok (.ireturn, 1) := by decide +kernel
theorem dX7_partBy_38 : decode cX7_partBy 38 = .ok (.iload_n 0, 1) := by decide +kernel
theorem dX7_partBy_39 : decode cX7_partBy 39 = .ok (.bipush 76, 2) := by decide +kernel
theorem dX7_partBy_41 : decode cX7_partBy 41 = .ok (.if_icmp .ne 9, 3) := by decide +kernel
theorem dX7_partBy_44 : decode cX7_partBy 44 = .ok (.sipush 2000, 3) := by decide +kernel
theorem dX7_partBy_47 : decode cX7_partBy 47 = .ok (.goto 16, 3) := by decide +kernel
theorem dX7_partBy_50 : decode cX7_partBy 50 = .ok (.iload_n 0, 1) := by decide +kernel
theorem dX7_partBy_51 : decode cX7_partBy 51 = .ok (.bipush 64, 2) := by decide +kernel
theorem dX7_partBy_53 : decode cX7_partBy 53 = .ok (.if_icmp .ne 9, 3) := by decide +kernel
theorem dX7_partBy_56 : decode cX7_partBy 56 = .ok (.sipush 3000, 3) := by decide +kernel
theorem dX7_partBy_59 : decode cX7_partBy 59 = .ok (.goto 4, 3) := by decide +kernel
theorem dX7_partBy_62 : decode cX7_partBy 62 = .ok (.iconst (-1), 1) := by decide +kernel
theorem dX7_partBy_63 : decode cX7_partBy 63 = .ok (.ireturn, 1) := by decide +kernel
theorem dX7_findFault_0 : decode cX7_findFault 0 = .ok (.iconst 1, 1) := by decide +kernel
theorem dX7_findFault_1 : decode cX7_findFault 1 = .ok (.istore_n 1, 1) := by decide +kernel
theorem dX7_findFault_2 : decode cX7_findFault 2 = .ok (.aload_n 0, 1) := by decide +kernel
theorem dX7_findFault_3 : decode cX7_findFault 3 = .ok (.getfield 34, 3) := by decide +kernel
theorem dX7_findFault_6 : decode cX7_findFault 6 = .ok (.iconst 0, 1) := by decide +kernel
theorem dX7_findFault_7 : decode cX7_findFault 7 = .ok (.iconst 0, 1) := by decide +kernel
theorem dX7_findFault_8 : decode cX7_findFault 8 = .ok (.iastore, 1) := by decide +kernel
theorem dX7_findFault_9 : decode cX7_findFault 9 = .ok (.iconst 0, 1) := by decide +kernel
theorem dX7_findFault_10 : decode cX7_findFault 10 = .ok (.istore_n 2, 1) := by decide +kernel
theorem dX7_findFault_11 : decode cX7_findFault 11 = .ok (.iload_n 2, 1) := by decide +kernel
theorem dX7_findFault_12 : decode cX7_findFault 12 = .ok (.aload_n 0, 1) := by decide +kernel
theorem dX7_findFault_13 : decode cX7_findFault 13 = .ok (.getfield 116, 3) := by decide +kernel
theorem dX7_findFault_16 : decode cX7_findFault 16 = .ok (.if_icmp .ge 111, 3) := by decide +kernel
theorem dX7_findFault_19 : decode cX7_findFault 19 = .ok (.aload_n 0, 1) := by decide +kernel
theorem dX7_findFault_20 : decode cX7_findFault 20 = .ok (.getfield 22, 3) := by decide +kernel
theorem dX7_findFault_23 : decode cX7_findFault 23 = .ok (.iload_n 2, 1) := by decide +kernel
theorem dX7_findFault_24 : decode cX7_findFault 24 = .ok (.iaload, 1) := by decide +kernel
theorem dX7_findFault_25 : decode cX7_findFault 25 = .ok (.invokestatic 119, 3) := by decide +kernel
theorem dX7_findFault_28 : decode cX7_findFault 28 = .ok (.istore_n 3, 1) := by decide +kernel
theorem dX7_findFault_29 : decode cX7_findFault 29 = .ok (.iload_n 1, 1) := by decide +kernel
theorem dX7_findFault_30 : decode cX7_findFault 30 = .ok (.ifCond .ne 7, 3) := by decide +kernel
theorem dX7_findFault_33 : decode cX7_findFault 33 = .ok (.iconst 0, 1) := by decide +kernel
theorem dX7_findFault_34 : decode cX7_findFault 34 = .ok (.goto 11, 3) := by decide +kernel
theorem dX7_findFault_37 : decode cX7_findFault 37 = .ok (.aload_n 0, 1) := by decide +kernel
theorem dX7_findFault_38 : decode cX7_findFault 38 = .ok (.getfield 34, 3) := by decide +kernel
theorem dX7_findFault_41 : decode cX7_findFault 41 = .ok (.iload_n 1, 1) := by decide +kernel
theorem dX7_findFault_42 : decode cX7_findFault 42 = .ok (.iconst 1, 1) := by decide +kernel
theorem dX7_findFault_43 : decode cX7_findFault 43 = .ok (.isub, 1) := by decide +kernel
theorem dX7_findFault_44 : decode cX7_findFault 44 = .ok (.iaload, 1) := by decide +kernel
theorem dX7_findFault_45 : decode cX7_findFault 45 = .ok (.istore 4, 2) := by decide +kernel
theorem dX7_findFault_47 : decode cX7_findFault 47 = .ok (.iload_n 1, 1) := by decide +kernel
theorem dX7_findFault_48 : decode cX7_findFault 48 = .ok (.ifCond .eq 21, 3) := by decide +kernel
theorem dX7_findFault_51 : decode cX7_findFault 51 = .ok (.iload_n 3, 1) := by decide +kernel
theorem dX7_findFault_52 : decode cX7_findFault 52 = .ok (.ifCond .lt 17, 3) := by decide +kernel
theorem dX7_findFault_55 : decode cX7_findFault 55 = .ok (.iload_n 3, 1) := by decide +kernel
theorem dX7_findFault_56 : decode cX7_findFault 56 = .ok (.sipush 1000, 3) := by decide +kernel
theorem dX7_findFault_59 : decode cX7_findFault 59 = .ok (.idiv, 1) := by decide +kernel
theorem dX7_findFault_60 : decode cX7_findFault 60 = .ok (.ifCond .ne 11, 3) := by decide +kernel
theorem dX7_findFault_63 : decode cX7_findFault 63 = .ok (.iload_n 3, 1) := by decide +kernel
theorem dX7_findFault_64 : decode cX7_findFault 64 = .ok (.iload 4, 2) := by decide +kernel
theorem dX7_findFault_66 : decode cX7_findFault 66 = .ok (.if_icmp .lt 5, 3) := by decide +kernel
theorem dX7_findFault_69 : decode cX7_findFault 69 = .ok (.iload_n 2, 1) := by decide +kernel
theorem dX7_findFault_70 : decode cX7_findFault 70 = .ok (.ireturn, 1) := by decide +kernel
theorem dX7_findFault_71 : decode cX7_findFault 71 = .ok (.iload_n 3, 1) := by decide +kernel
theorem dX7_findFault_72 : decode cX7_findFault 72 = .ok (.sipush 1000, 3) := by decide +kernel
theorem dX7_findFault_75 : decode cX7_findFault 75 = .ok (.idiv, 1) := by decide +kernel
theorem dX7_findFault_76 : decode cX7_findFault 76 = .ok (.iconst 3, 1) := by decide +kernel
theorem dX7_findFault_77 : decode cX7_findFault 77 = .ok (.if_icmp .ne 17, 3) := by decide +kernel
theorem dX7_findFault_80 : decode cX7_findFault 80 = .ok (.aload_n 0, 1) := by decide +kernel
theorem dX7_findFault_81 : decode cX7_findFault 81 = .ok (.getfield 34, 3) := by decide +kernel
theorem dX7_findFault_84 : decode cX7_findFault 84 = .ok (.iload_n 1, 1) := by decide +kernel
theorem dX7_findFault_85 : decode cX7_findFault 85 = .ok (.iload 4, 2) := by decide +kernel
theorem dX7_findFault_87 : decode cX7_findFault 87 = .ok (.iastore, 1) := by decide +kernel
theorem dX7_findFault_88 : decode cX7_findFault 88 = .ok (.iinc 1 1, 3) := by decide +kernel
theorem dX7_findFault_91 : decode cX7_findFault 91 = .ok (.goto 30, 3) := by decide +kernel
theorem dX7_findFault_94 : decode cX7_findFault 94 = .ok (.iload_n 3, 1) := by decide +kernel
theorem dX7_findFault_95 : decode cX7_findFault 95 = .ok (.sipush 1000, 3) := by decide +kernel
theorem dX7_findFault_98 : decode cX7_findFault 98 = .ok (.idiv, 1) := by decide +kernel
theorem dX7_findFault_99 : decode cX7_findFault 99 = .ok (.iconst 2, 1) := by decide +kernel
theorem dX7_findFault_100 : decode cX7_findFault 100 = .ok (.if_icmp .ne 18, 3) := by decide +kernel
theorem dX7_findFault_103 : decode cX7_findFault 103 = .ok (.aload_n 0, 1) := by decide +kernel
theorem dX7_findFault_104 : decode cX7_findFault 104 = .ok (.getfield 34, 3) := by decide +kernel
theorem dX7_findFault_107 : decode cX7_findFault 107 = .ok (.iload_n 1, 1) := by decide +kernel
theorem dX7_findFault_108 : decode cX7_findFault 108 = .ok (.iconst 1, 1) := by decide +kernel
theorem dX7_findFault_109 : decode cX7_findFault 109 = .ok (.isub, 1) := by decide +kernel
theorem dX7_findFault_110 : decode cX7_findFault 110 = .ok (.iload 4, 2) := by decide +kernel
theorem dX7_findFault_112 : decode cX7_findFault 112 = .ok (.iconst 1, 1) := by decide +kernel
theorem dX7_findFault_113 : decode cX7_findFault 113 = .ok (.iadd, 1) := by decide +kernel
theorem dX7_findFault_114 : decode cX7_findFault 114 = .ok (.iastore, 1) := by decide +kernel
theorem dX7_findFault_115 : decode cX7_findFault 115 = .ok (.goto 6, 3) := by decide +kernel
theorem dX7_findFault_118 : decode cX7_findFault 118 = .ok (.iinc 1 (-1), 3) := by decide +kernel
theorem dX7_findFault_121 : decode cX7_findFault 121 = .ok (.iinc 2 1, 3) := by decide +kernel
theorem dX7_findFault_124 : decode cX7_findFault 124 = .ok (.goto (-113), 3) := by decide +kernel
theorem dX7_findFault_127 : decode cX7_findFault 127 = .ok (.iload_n 1, 1) := by decide +kernel
theorem dX7_findFault_128 : decode cX7_findFault 128 = .ok (.ifCond .ne 8, 3) := by decide +kernel
theorem dX7_findFault_131 : decode cX7_findFault 131 = .ok (.bipush (-6), 2) := by decide +kernel
theorem dX7_findFault_133 : decode cX7_findFault 133 = .ok (.goto 7, 3) := by decide +kernel
theorem dX7_findFault_136 : decode cX7_findFault 136 = .ok (.aload_n 0, 1) := by decide +kernel
theorem dX7_findFault_137 : decode cX7_findFault 137 = .ok (.getfield 116, 3) := by decide +kernel
theorem dX7_findFault_140 : decode cX7_findFault 140 = .ok (.ireturn, 1) := by decide +kernel
theorem dX7_fault_0 : decode cX7_fault 0 = .ok (.aload_n 0, 1) := by decide +kernel
theorem dX7_fault_1 : decode cX7_fault 1 = .ok (.invokevirtual 109, 3) := by decide +kernel
theorem dX7_fault_4 : decode cX7_fault 4 = .ok (.ireturn, 1) := by decide +kernel
theorem dX7_undo_0 : decode cX7_undo 0 = .ok (.aload_n 0, 1) := by decide +kernel
theorem dX7_undo_1 : decode cX7_undo 1 = .ok (.getfield 43, 3) := by decide +kernel
theorem dX7_undo_4 : decode cX7_undo 4 = .ok (.ifCond .ne 6, 3) := by decide +kernel
theorem dX7_undo_7 : decode cX7_undo 7 = .ok (.bipush (-5), 2) := by decide +kernel
theorem dX7_undo_9 : decode cX7_undo 9 = .ok (.ireturn, 1) := by decide +kernel
theorem dX7_undo_10 : decode cX7_undo 10 = .ok (.aload_n 0, 1) := by decide +kernel
theorem dX7_undo_11 : decode cX7_undo 11 = .ok (.dup, 1) := by decide +kernel
theorem dX7_undo_12 : decode cX7_undo 12 = .ok (.getfield 43, 3) := by decide +kernel
theorem dX7_undo_15 : decode cX7_undo 15 = .ok (.iconst 1, 1) := by decide +kernel
theorem dX7_undo_16 : decode cX7_undo 16 = .ok (.isub, 1) := by decide +kernel
theorem dX7_undo_17 : decode cX7_undo 17 = .ok (.putfield 43, 3) := by decide +kernel
theorem dX7_undo_20 : decode cX7_undo 20 = .ok (.aload_n 0, 1) := by decide +kernel
theorem dX7_undo_21 : decode cX7_undo 21 = .ok (.getfield 13, 3) := by decide +kernel
theorem dX7_undo_24 : decode cX7_undo 24 = .ok (.aload_n 0, 1) := by decide +kernel
theorem dX7_undo_25 : decode cX7_undo 25 = .ok (.getfield 43, 3) := by decide +kernel
theorem dX7_undo_28 : decode cX7_undo 28 = .ok (.sipush 1206, 3) := by decide +kernel
theorem dX7_undo_31 : decode cX7_undo 31 = .ok (.imul, 1) := by decide +kernel
theorem dX7_undo_32 : decode cX7_undo 32 = .ok (.aload_n 0, 1) := by decide +kernel
theorem dX7_undo_33 : decode cX7_undo 33 = .ok (.getfield 7, 3) := by decide +kernel
theorem dX7_undo_36 : decode cX7_undo 36 = .ok (.iconst 0, 1) := by decide +kernel
theorem dX7_undo_37 : decode cX7_undo 37 = .ok (.sipush 1206, 3) := by decide +kernel
theorem dX7_undo_40 : decode cX7_undo 40 = .ok (.invokestatic 47, 3) := by decide +kernel
theorem dX7_undo_43 : decode cX7_undo 43 = .ok (.aload_n 0, 1) := by decide +kernel
theorem dX7_undo_44 : decode cX7_undo 44 = .ok (.getfield 43, 3) := by decide +kernel
theorem dX7_undo_47 : decode cX7_undo 47 = .ok (.ireturn, 1) := by decide +kernel
theorem dX7_save_0 : decode cX7_save 0 = .ok (.iload_n 1, 1) := by decide +kernel
theorem dX7_save_1 : decode cX7_save 1 = .ok (.iconst 0, 1) := by decide +kernel
theorem dX7_save_2 : decode cX7_save 2 = .ok (.iconst 1, 1) := by decide +kernel
theorem dX7_save_3 : decode cX7_save 3 = .ok (.invokestatic 51, 3) := by decide +kernel
theorem dX7_save_6 : decode cX7_save 6 = .ok (.ifCond .ne 6, 3) := by decide +kernel
theorem dX7_save_9 : decode cX7_save 9 = .ok (.bipush (-2), 2) := by decide +kernel
theorem dX7_save_11 : decode cX7_save 11 = .ok (.ireturn, 1) := by decide +kernel
theorem dX7_save_12 : decode cX7_save 12 = .ok (.aload_n 0, 1) := by decide +kernel
theorem dX7_save_13 : decode cX7_save 13 = .ok (.getfield 7, 3) := by decide +kernel
theorem dX7_save_16 : decode cX7_save 16 = .ok (.iconst 0, 1) := by decide +kernel
theorem dX7_save_17 : decode cX7_save 17 = .ok (.aload_n 0, 1) := by decide +kernel
theorem dX7_save_18 : decode cX7_save 18 = .ok (.getfield 16, 3) := by decide +kernel
theorem dX7_save_21 : decode cX7_save 21 = .ok (.sipush 1206, 3) := by decide +kernel
theorem dX7_save_24 : decode cX7_save 24 = .ok (.iload_n 1, 1) := by decide +kernel
theorem dX7_save_25 : decode cX7_save 25 = .ok (.imul, 1) := by decide +kernel
theorem dX7_save_26 : decode cX7_save 26 = .ok (.sipush 1206, 3) := by decide +kernel
theorem dX7_save_29 : decode cX7_save 29 = .ok (.invokestatic 47, 3) := by decide +kernel
theorem dX7_save_32 : decode cX7_save 32 = .ok (.aload_n 0, 1) := by decide +kernel
theorem dX7_save_33 : decode cX7_save 33 = .ok (.getfield 19, 3) := by decide +kernel
theorem dX7_save_36 : decode cX7_save 36 = .ok (.iload_n 1, 1) := by decide +kernel
theorem dX7_save_37 : decode cX7_save 37 = .ok (.iconst 1, 1) := by decide +kernel
theorem dX7_save_38 : decode cX7_save 38 = .ok (.iastore, 1) := by decide +kernel
theorem dX7_save_39 : decode cX7_save 39 = .ok (.aload_n 0, 1) := by decide +kernel
theorem dX7_save_40 : decode cX7_save 40 = .ok (.invokevirtual 161, 3) := by decide +kernel
theorem dX7_save_43 : decode cX7_save 43 = .ok (.ireturn, 1) := by decide +kernel
theorem dX7_restore_0 : decode cX7_restore 0 = .ok (.iload_n 1, 1) := by decide +kernel
theorem dX7_restore_1 : decode cX7_restore 1 = .ok (.iconst 0, 1) := by decide +kernel
theorem dX7_restore_2 : decode cX7_restore 2 = .ok (.iconst 1, 1) := by decide +kernel
theorem dX7_restore_3 : decode cX7_restore 3 = .ok (.invokestatic 51, 3) := by decide +kernel
theorem dX7_restore_6 : decode cX7_restore 6 = .ok (.ifCond .ne 6, 3) := by decide +kernel
theorem dX7_restore_9 : decode cX7_restore 9 = .ok (.bipush (-2), 2) := by decide +kernel
theorem dX7_restore_11 : decode cX7_restore 11 = .ok (.ireturn, 1) := by decide +kernel
theorem dX7_restore_12 : decode cX7_restore 12 = .ok (.aload_n 0, 1) := by decide +kernel
theorem dX7_restore_13 : decode cX7_restore 13 = .ok (.getfield 19, 3) := by decide +kernel
theorem dX7_restore_16 : decode cX7_restore 16 = .ok (.iload_n 1, 1) := by decide +kernel
theorem dX7_restore_17 : decode cX7_restore 17 = .ok (.iaload, 1) := by decide +kernel
theorem dX7_restore_18 : decode cX7_restore 18 = .ok (.ifCond .ne 6, 3) := by decide +kernel
theorem dX7_restore_21 : decode cX7_restore 21 = .ok (.bipush (-5), 2) := by decide +kernel
theorem dX7_restore_23 : decode cX7_restore 23 = .ok (.ireturn, 1) := by decide +kernel
theorem dX7_restore_24 : decode cX7_restore 24 = .ok (.aload_n 0, 1) := by decide +kernel
theorem dX7_restore_25 : decode cX7_restore 25 = .ok (.invokevirtual 113, 3) := by decide +kernel
theorem dX7_restore_28 : decode cX7_restore 28 = .ok (.aload_n 0, 1) := by decide +kernel
theorem dX7_restore_29 : decode cX7_restore 29 = .ok (.getfield 16, 3) := by decide +kernel
theorem dX7_restore_32 : decode cX7_restore 32 = .ok (.sipush 1206, 3) := by decide +kernel
theorem dX7_restore_35 : decode cX7_restore 35 = .ok (.iload_n 1, 1) := by decide +kernel
theorem dX7_restore_36 : decode cX7_restore 36 = .ok (.imul, 1) := by decide +kernel
theorem dX7_restore_37 : decode cX7_restore 37 = .ok (.aload_n 0, 1) := by decide +kernel
theorem dX7_restore_38 : decode cX7_restore 38 = .ok (.getfield 7, 3) := by decide +kernel
theorem dX7_restore_41 : decode cX7_restore 41 = .ok (.iconst 0, 1) := by decide +kernel
theorem dX7_restore_42 : decode cX7_restore 42 = .ok (.sipush 1206, 3) := by decide +kernel
theorem dX7_restore_45 : decode cX7_restore 45 = .ok (.invokestatic 47, 3) := by decide +kernel
theorem dX7_restore_48 : decode cX7_restore 48 = .ok (.aload_n 0, 1) := by decide +kernel
theorem dX7_restore_49 : decode cX7_restore 49 = .ok (.invokevirtual 161, 3) := by decide +kernel
theorem dX7_restore_52 : decode cX7_restore 52 = .ok (.ireturn, 1) := by decide +kernel
theorem dJ9_max_7cf53_0 : decode cJ9_max_7cf53 0 = .ok (.iload_n 0, 1) := by decide +kernel
theorem dJ9_max_7cf53_1 : decode cJ9_max_7cf53 1 = .ok (.iload_n 1, 1) := by decide +kernel
theorem dJ9_max_7cf53_2 : decode cJ9_max_7cf53 2 = .ok (.if_icmp .lt 7, 3) := by decide +kernel
theorem dJ9_max_7cf53_5 : decode cJ9_max_7cf53 5 = .ok (.iload_n 0, 1) := by decide +kernel
theorem dJ9_max_7cf53_6 : decode cJ9_max_7cf53 6 = .ok (.goto 4, 3) := by decide +kernel
theorem dJ9_max_7cf53_9 : decode cJ9_max_7cf53 9 = .ok (.iload_n 1, 1) := by decide +kernel
theorem dJ9_max_7cf53_10 : decode cJ9_max_7cf53 10 = .ok (.ireturn, 1) := by decide +kernel
theorem dJ9_min_7cf53_0 : decode cJ9_min_7cf53 0 = .ok (.iload_n 0, 1) := by decide +kernel
theorem dJ9_min_7cf53_1 : decode cJ9_min_7cf53 1 = .ok (.iload_n 1, 1) := by decide +kernel
theorem dJ9_min_7cf53_2 : decode cJ9_min_7cf53 2 = .ok (.if_icmp .gt 7, 3) := by decide +kernel
theorem dJ9_min_7cf53_5 : decode cJ9_min_7cf53 5 = .ok (.iload_n 0, 1) := by decide +kernel
theorem dJ9_min_7cf53_6 : decode cJ9_min_7cf53 6 = .ok (.goto 4, 3) := by decide +kernel
theorem dJ9_min_7cf53_9 : decode cJ9_min_7cf53 9 = .ok (.iload_n 1, 1) := by decide +kernel
theorem dJ9_min_7cf53_10 : decode cJ9_min_7cf53 10 = .ok (.ireturn, 1) := by decide +kernel
theorem dL_law_0 : decode cL_law 0 = .ok (.new 7, 3) := by decide +kernel
theorem dL_law_3 : decode cL_law 3 = .ok (.dup, 1) := by decide +kernel
theorem dL_law_4 : decode cL_law 4 = .ok (.invokespecial 9, 3) := by decide +kernel
theorem dL_law_7 : decode cL_law 7 = .ok (.astore_n 1, 1) := by decide +kernel
theorem dL_law_8 : decode cL_law 8 = .ok (.new 10, 3) := by decide +kernel
theorem dL_law_11 : decode cL_law 11 = .ok (.dup, 1) := by decide +kernel
theorem dL_law_12 : decode cL_law 12 = .ok (.invokespecial 12, 3) := by decide +kernel
theorem dL_law_15 : decode cL_law 15 = .ok (.astore_n 2, 1) := by decide +kernel
theorem dL_law_16 : decode cL_law 16 = .ok (.iconst 0, 1) := by decide +kernel
theorem dL_law_17 : decode cL_law 17 = .ok (.istore_n 3, 1) := by decide +kernel
theorem dL_law_18 : decode cL_law 18 = .ok (.iload_n 3, 1) := by decide +kernel
theorem dL_law_19 : decode cL_law 19 = .ok (.aload_n 0, 1) := by decide +kernel
theorem dL_law_20 : decode cL_law 20 = .ok (.arraylength, 1) := by decide +kernel
theorem dL_law_21 : decode cL_law 21 = .ok (.iconst 4, 1) := by decide +kernel
theorem dL_law_22 : decode cL_law 22 = .ok (.isub, 1) := by decide +kernel
theorem dL_law_23 : decode cL_law 23 = .ok (.if_icmp .gt 798, 3) := by decide +kernel
theorem dL_law_26 : decode cL_law 26 = .ok (.aload_n 0, 1) := by decide +kernel
theorem dL_law_27 : decode cL_law 27 = .ok (.iload_n 3, 1) := by decide +kernel
theorem dL_law_28 : decode cL_law 28 = .ok (.iaload, 1) := by decide +kernel
theorem dL_law_29 : decode cL_law 29 = .ok (.bipush 31, 2) := by decide +kernel
theorem dL_law_31 : decode cL_law 31 = .ok (.iand, 1) := by decide +kernel
theorem dL_law_32 : decode cL_law 32 = .ok (.tableswitch 783 0 20 #[100, 123, 156, 199, 242, 275, 318, 351, 394, 427, 460, 483, 526, 559, 602, 645, 698, 711, 724, 737, 760], 100) := by decide +kernel
theorem dL_law_132 : decode cL_law 132 = .ok (.aload_n 1, 1) := by decide +kernel
theorem dL_law_133 : decode cL_law 133 = .ok (.aload_n 0, 1) := by decide +kernel
theorem dL_law_134 : decode cL_law 134 = .ok (.iload_n 3, 1) := by decide +kernel
theorem dL_law_135 : decode cL_law 135 = .ok (.iconst 1, 1) := by decide +kernel
theorem dL_law_136 : decode cL_law 136 = .ok (.iadd, 1) := by decide +kernel
theorem dL_law_137 : decode cL_law 137 = .ok (.iaload, 1) := by decide +kernel
theorem dL_law_138 : decode cL_law 138 = .ok (.invokevirtual 13, 3) := by decide +kernel
theorem dL_law_141 : decode cL_law 141 = .ok (.aload_n 2, 1) := by decide +kernel
theorem dL_law_142 : decode cL_law 142 = .ok (.aload_n 0, 1) := by decide +kernel
theorem dL_law_143 : decode cL_law 143 = .ok (.iload_n 3, 1) := by decide +kernel
theorem dL_law_144 : decode cL_law 144 = .ok (.iconst 1, 1) := by decide +kernel
theorem dL_law_145 : decode cL_law 145 = .ok (.iadd, 1) := by decide +kernel
theorem dL_law_146 : decode cL_law 146 = .ok (.iaload, 1) := by decide +kernel
theorem dL_law_147 : decode cL_law 147 = .ok (.invokevirtual 17, 3) := by decide +kernel
theorem dL_law_150 : decode cL_law 150 = .ok (.if_icmp .eq 665, 3) := by decide +kernel
theorem dL_law_153 : decode cL_law 153 = .ok (.iconst 0, 1) := by decide +kernel
theorem dL_law_154 : decode cL_law 154 = .ok (.ireturn, 1) := by decide +kernel
theorem dL_law_155 : decode cL_law 155 = .ok (.aload_n 1, 1) := by decide +kernel
theorem dL_law_156 : decode cL_law 156 = .ok (.aload_n 0, 1) := by decide +kernel
theorem dL_law_157 : decode cL_law 157 = .ok (.iload_n 3, 1) := by decide +kernel
theorem dL_law_158 : decode cL_law 158 = .ok (.iconst 1, 1) := by decide +kernel
theorem dL_law_159 : decode cL_law 159 = .ok (.iadd, 1) := by decide +kernel
theorem dL_law_160 : decode cL_law 160 = .ok (.iaload, 1) := by decide +kernel
theorem dL_law_161 : decode cL_law 161 = .ok (.aload_n 0, 1) := by decide +kernel
theorem dL_law_162 : decode cL_law 162 = .ok (.iload_n 3, 1) := by decide +kernel
theorem dL_law_163 : decode cL_law 163 = .ok (.iconst 2, 1) := by decide +kernel
theorem dL_law_164 : decode cL_law 164 = .ok (.iadd, 1) := by decide +kernel
theorem dL_law_165 : decode cL_law 165 = .ok (.iaload, 1) := by decide +kernel
theorem dL_law_166 : decode cL_law 166 = .ok (.invokevirtual 18, 3) := by decide +kernel
theorem dL_law_169 : decode cL_law 169 = .ok (.aload_n 2, 1) := by decide +kernel
theorem dL_law_170 : decode cL_law 170 = .ok (.aload_n 0, 1) := by decide +kernel
theorem dL_law_171 : decode cL_law 171 = .ok (.iload_n 3, 1) := by decide +kernel
theorem dL_law_172 : decode cL_law 172 = .ok (.iconst 1, 1) := by decide +kernel
theorem dL_law_173 : decode cL_law 173 = .ok (.iadd, 1) := by decide +kernel
theorem dL_law_174 : decode cL_law 174 = .ok (.iaload, 1) := by decide +kernel
theorem dL_law_175 : decode cL_law 175 = .ok (.aload_n 0, 1) := by decide +kernel
theorem dL_law_176 : decode cL_law 176 = .ok (.iload_n 3, 1) := by decide +kernel
theorem dL_law_177 : decode cL_law 177 = .ok (.iconst 2, 1) := by decide +kernel
theorem dL_law_178 : decode cL_law 178 = .ok (.iadd, 1) := by decide +kernel
theorem dL_law_179 : decode cL_law 179 = .ok (.iaload, 1) := by decide +kernel
theorem dL_law_180 : decode cL_law 180 = .ok (.invokevirtual 22, 3) := by decide +kernel
theorem dL_law_183 : decode cL_law 183 = .ok (.if_icmp .eq 632, 3) := by decide +kernel
theorem dL_law_186 : decode cL_law 186 = .ok (.iconst 0, 1) := by decide +kernel
theorem dL_law_187 : decode cL_law 187 = .ok (.ireturn, 1) := by decide +kernel
theorem dL_law_188 : decode cL_law 188 = .ok (.aload_n 1, 1) := by decide +kernel
theorem dL_law_189 : decode cL_law 189 = .ok (.aload_n 0, 1) := by decide +kernel
theorem dL_law_190 : decode cL_law 190 = .ok (.iload_n 3, 1) := by decide +kernel
theorem dL_law_191 : decode cL_law 191 = .ok (.iconst 1, 1) := by decide +kernel
theorem dL_law_192 : decode cL_law 192 = .ok (.iadd, 1) := by decide +kernel
theorem dL_law_193 : decode cL_law 193 = .ok (.iaload, 1) := by decide +kernel
theorem dL_law_194 : decode cL_law 194 = .ok (.aload_n 0, 1) := by decide +kernel
theorem dL_law_195 : decode cL_law 195 = .ok (.iload_n 3, 1) := by decide +kernel
theorem dL_law_196 : decode cL_law 196 = .ok (.iconst 2, 1) := by decide +kernel
theorem dL_law_197 : decode cL_law 197 = .ok (.iadd, 1) := by decide +kernel
theorem dL_law_198 : decode cL_law 198 = .ok (.iaload, 1) := by decide +kernel
theorem dL_law_199 : decode cL_law 199 = .ok (.aload_n 0, 1) := by decide +kernel
theorem dL_law_200 : decode cL_law 200 = .ok (.iload_n 3, 1) := by decide +kernel
theorem dL_law_201 : decode cL_law 201 = .ok (.iconst 3, 1) := by decide +kernel
theorem dL_law_202 : decode cL_law 202 = .ok (.iadd, 1) := by decide +kernel
theorem dL_law_203 : decode cL_law 203 = .ok (.iaload, 1) := by decide +kernel
theorem dL_law_204 : decode cL_law 204 = .ok (.invokevirtual 23, 3) := by decide +kernel
theorem dL_law_207 : decode cL_law 207 = .ok (.aload_n 2, 1) := by decide +kernel
theorem dL_law_208 : decode cL_law 208 = .ok (.aload_n 0, 1) := by decide +kernel
theorem dL_law_209 : decode cL_law 209 = .ok (.iload_n 3, 1) := by decide +kernel
theorem dL_law_210 : decode cL_law 210 = .ok (.iconst 1, 1) := by decide +kernel
theorem dL_law_211 : decode cL_law 211 = .ok (.iadd, 1) := by decide +kernel
theorem dL_law_212 : decode cL_law 212 = .ok (.iaload, 1) := by decide +kernel
theorem dL_law_213 : decode cL_law 213 = .ok (.aload_n 0, 1) := by decide +kernel
theorem dL_law_214 : decode cL_law 214 = .ok (.iload_n 3, 1) := by decide +kernel
theorem dL_law_215 : decode cL_law 215 = .ok (.iconst 2, 1) := by decide +kernel
theorem dL_law_216 : decode cL_law 216 = .ok (.iadd, 1) := by decide +kernel
theorem dL_law_217 : decode cL_law 217 = .ok (.iaload, 1) := by decide +kernel
theorem dL_law_218 : decode cL_law 218 = .ok (.aload_n 0, 1) := by decide +kernel
theorem dL_law_219 : decode cL_law 219 = .ok (.iload_n 3, 1) := by decide +kernel
theorem dL_law_220 : decode cL_law 220 = .ok (.iconst 3, 1) := by decide +kernel
theorem dL_law_221 : decode cL_law 221 = .ok (.iadd, 1) := by decide +kernel
theorem dL_law_222 : decode cL_law 222 = .ok (.iaload, 1) := by decide +kernel
theorem dL_law_223 : decode cL_law 223 = .ok (.invokevirtual 27, 3) := by decide +kernel
theorem dL_law_226 : decode cL_law 226 = .ok (.if_icmp .eq 589, 3) := by decide +kernel
theorem dL_law_229 : decode cL_law 229 = .ok (.iconst 0, 1) := by decide +kernel
theorem dL_law_230 : decode cL_law 230 = .ok (.ireturn, 1) := by decide +kernel
theorem dL_law_231 : decode cL_law 231 = .ok (.aload_n 1, 1) := by decide +kernel
theorem dL_law_232 : decode cL_law 232 = .ok (.aload_n 0, 1) := by decide +kernel
theorem dL_law_233 : decode cL_law 233 = .ok (.iload_n 3, 1) := by decide +kernel
theorem dL_law_234 : decode cL_law 234 = .ok (.iconst 1, 1) := by decide +kernel
theorem dL_law_235 : decode cL_law 235 = .ok (.iadd, 1) := by decide +kernel
theorem dL_law_236 : decode cL_law 236 = .ok (.iaload, 1) := by decide +kernel
theorem dL_law_237 : decode cL_law 237 = .ok (.aload_n 0, 1) := by decide +kernel
theorem dL_law_238 : decode cL_law 238 = .ok (.iload_n 3, 1) := by decide +kernel
theorem dL_law_239 : decode cL_law 239 = .ok (.iconst 2, 1) := by decide +kernel
theorem dL_law_240 : decode cL_law 240 = .ok (.iadd, 1) := by decide +kernel
theorem dL_law_241 : decode cL_law 241 = .ok (.iaload, 1) := by decide +kernel
theorem dL_law_242 : decode cL_law 242 = .ok (.aload_n 0, 1) := by decide +kernel
theorem dL_law_243 : decode cL_law 243 = .ok (.iload_n 3, 1) := by decide +kernel
theorem dL_law_244 : decode cL_law 244 = .ok (.iconst 3, 1) := by decide +kernel
theorem dL_law_245 : decode cL_law 245 = .ok (.iadd, 1) := by decide +kernel
theorem dL_law_246 : decode cL_law 246 = .ok (.iaload, 1) := by decide +kernel
theorem dL_law_247 : decode cL_law 247 = .ok (.invokevirtual 28, 3) := by decide +kernel
theorem dL_law_250 : decode cL_law 250 = .ok (.aload_n 2, 1) := by decide +kernel
theorem dL_law_251 : decode cL_law 251 = .ok (.aload_n 0, 1) := by decide +kernel
theorem dL_law_252 : decode cL_law 252 = .ok (.iload_n 3, 1) := by decide +kernel
theorem dL_law_253 : decode cL_law 253 = .ok (.iconst 1, 1) := by decide +kernel
theorem dL_law_254 : decode cL_law 254 = .ok (.iadd, 1) := by decide +kernel
theorem dL_law_255 : decode cL_law 255 = .ok (.iaload, 1) := by decide +kernel
theorem dL_law_256 : decode cL_law 256 = .ok (.aload_n 0, 1) := by decide +kernel
theorem dL_law_257 : decode cL_law 257 = .ok (.iload_n 3, 1) := by decide +kernel
theorem dL_law_258 : decode cL_law 258 = .ok (.iconst 2, 1) := by decide +kernel
theorem dL_law_259 : decode cL_law 259 = .ok (.iadd, 1) := by decide +kernel
theorem dL_law_260 : decode cL_law 260 = .ok (.iaload, 1) := by decide +kernel
theorem dL_law_261 : decode cL_law 261 = .ok (.aload_n 0, 1) := by decide +kernel
theorem dL_law_262 : decode cL_law 262 = .ok (.iload_n 3, 1) := by decide +kernel
theorem dL_law_263 : decode cL_law 263 = .ok (.iconst 3, 1) := by decide +kernel
theorem dL_law_264 : decode cL_law 264 = .ok (.iadd, 1) := by decide +kernel
theorem dL_law_265 : decode cL_law 265 = .ok (.iaload, 1) := by decide +kernel
theorem dL_law_266 : decode cL_law 266 = .ok (.invokevirtual 31, 3) := by decide +kernel
theorem dL_law_269 : decode cL_law 269 = .ok (.if_icmp .eq 546, 3) := by decide +kernel
theorem dL_law_272 : decode cL_law 272 = .ok (.iconst 0, 1) := by decide +kernel
theorem dL_law_273 : decode cL_law 273 = .ok (.ireturn, 1) := by decide +kernel
theorem dL_law_274 : decode cL_law 274 = .ok (.aload_n 1, 1) := by decide +kernel
theorem dL_law_275 : decode cL_law 275 = .ok (.aload_n 0, 1) := by decide +kernel
theorem dL_law_276 : decode cL_law 276 = .ok (.iload_n 3, 1) := by decide +kernel
theorem dL_law_277 : decode cL_law 277 = .ok (.iconst 1, 1) := by decide +kernel
theorem dL_law_278 : decode cL_law 278 = .ok (.iadd, 1) := by decide +kernel
theorem dL_law_279 : decode cL_law 279 = .ok (.iaload, 1) := by decide +kernel
theorem dL_law_280 : decode cL_law 280 = .ok (.aload_n 0, 1) := by decide +kernel
theorem dL_law_281 : decode cL_law 281 = .ok (.iload_n 3, 1) := by decide +kernel
theorem dL_law_282 : decode cL_law 282 = .ok (.iconst 2, 1) := by decide +kernel
theorem dL_law_283 : decode cL_law 283 = .ok (.iadd, 1) := by decide +kernel
theorem dL_law_284 : decode cL_law 284 = .ok (.iaload, 1) := by decide +kernel
theorem dL_law_285 : decode cL_law 285 = .ok (.invokevirtual 32, 3) := by decide +kernel
theorem dL_law_288 : decode cL_law 288 = .ok (.aload_n 2, 1) := by decide +kernel
theorem dL_law_289 : decode cL_law 289 = .ok (.aload_n 0, 1) := by decide +kernel
theorem dL_law_290 : decode cL_law 290 = .ok (.iload_n 3, 1) := by decide +kernel
theorem dL_law_291 : decode cL_law 291 = .ok (.iconst 1, 1) := by decide +kernel
theorem dL_law_292 : decode cL_law 292 = .ok (.iadd, 1) := by decide +kernel
theorem dL_law_293 : decode cL_law 293 = .ok (.iaload, 1) := by decide +kernel
theorem dL_law_294 : decode cL_law 294 = .ok (.aload_n 0, 1) := by decide +kernel
theorem dL_law_295 : decode cL_law 295 = .ok (.iload_n 3, 1) := by decide +kernel
theorem dL_law_296 : decode cL_law 296 = .ok (.iconst 2, 1) := by decide +kernel
theorem dL_law_297 : decode cL_law 297 = .ok (.iadd, 1) := by decide +kernel
theorem dL_law_298 : decode cL_law 298 = .ok (.iaload, 1) := by decide +kernel
theorem dL_law_299 : decode cL_law 299 = .ok (.invokevirtual 35, 3) := by decide +kernel
theorem dL_law_302 : decode cL_law 302 = .ok (.if_icmp .eq 513, 3) := by decide +kernel
theorem dL_law_305 : decode cL_law 305 = .ok (.iconst 0, 1) := by decide +kernel
theorem dL_law_306 : decode cL_law 306 = .ok (.ireturn, 1) := by decide +kernel
theorem dL_law_307 : decode cL_law 307 = .ok (.aload_n 1, 1) := by decide +kernel
theorem dL_law_308 : decode cL_law 308 = .ok (.aload_n 0, 1) := by decide +kernel
theorem dL_law_309 : decode cL_law 309 = .ok (.iload_n 3, 1) := by decide +kernel
theorem dL_law_310 : decode cL_law 310 = .ok (.iconst 1, 1) := by decide +kernel
theorem dL_law_311 : decode cL_law 311 = .ok (.iadd, 1) := by decide +kernel
theorem dL_law_312 : decode cL_law 312 = .ok (.iaload, 1) := by decide +kernel
theorem dL_law_313 : decode cL_law 313 = .ok (.aload_n 0, 1) := by decide +kernel
theorem dL_law_314 : decode cL_law 314 = .ok (.iload_n 3, 1) := by decide +kernel
theorem dL_law_315 : decode cL_law 315 = .ok (.iconst 2, 1) := by decide +kernel
theorem dL_law_316 : decode cL_law 316 = .ok (.iadd, 1) := by decide +kernel
theorem dL_law_317 : decode cL_law 317 = .ok (.iaload, 1) := by decide +kernel
theorem dL_law_318 : decode cL_law 318 = .ok (.aload_n 0, 1) := by decide +kernel
theorem dL_law_319 : decode cL_law 319 = .ok (.iload_n 3, 1) := by decide +kernel
theorem dL_law_320 : decode cL_law 320 = .ok (.iconst 3, 1) := by decide +kernel
theorem dL_law_321 : decode cL_law 321 = .ok (.iadd, 1) := by decide +kernel
theorem dL_law_322 : decode cL_law 322 = .ok (.iaload, 1) := by decide +kernel
theorem dL_law_323 : decode cL_law 323 = .ok (.invokevirtual 36, 3) := by decide +kernel
theorem dL_law_326 : decode cL_law 326 = .ok (.aload_n 2, 1) := by decide +kernel
theorem dL_law_327 : decode cL_law 327 = .ok (.aload_n 0, 1) := by decide +kernel
theorem dL_law_328 : decode cL_law 328 = .ok (.iload_n 3, 1) := by decide +kernel
theorem dL_law_329 : decode cL_law 329 = .ok (.iconst 1, 1) := by decide +kernel
theorem dL_law_330 : decode cL_law 330 = .ok (.iadd, 1) := by decide +kernel
theorem dL_law_331 : decode cL_law 331 = .ok (.iaload, 1) := by decide +kernel
theorem dL_law_332 : decode cL_law 332 = .ok (.aload_n 0, 1) := by decide +kernel
theorem dL_law_333 : decode cL_law 333 = .ok (.iload_n 3, 1) := by decide +kernel
theorem dL_law_334 : decode cL_law 334 = .ok (.iconst 2, 1) := by decide +kernel
theorem dL_law_335 : decode cL_law 335 = .ok (.iadd, 1) := by decide +kernel
theorem dL_law_336 : decode cL_law 336 = .ok (.iaload, 1) := by decide +kernel
theorem dL_law_337 : decode cL_law 337 = .ok (.aload_n 0, 1) := by decide +kernel
theorem dL_law_338 : decode cL_law 338 = .ok (.iload_n 3, 1) := by decide +kernel
theorem dL_law_339 : decode cL_law 339 = .ok (.iconst 3, 1) := by decide +kernel
theorem dL_law_340 : decode cL_law 340 = .ok (.iadd, 1) := by decide +kernel
theorem dL_law_341 : decode cL_law 341 = .ok (.iaload, 1) := by decide +kernel
theorem dL_law_342 : decode cL_law 342 = .ok (.invokevirtual 39, 3) := by decide +kernel
theorem dL_law_345 : decode cL_law 345 = .ok (.if_icmp .eq 470, 3) := by decide +kernel
theorem dL_law_348 : decode cL_law 348 = .ok (.iconst 0, 1) := by decide +kernel
theorem dL_law_349 : decode cL_law 349 = .ok (.ireturn, 1) := by decide +kernel
theorem dL_law_350 : decode cL_law 350 = .ok (.aload_n 1, 1) := by decide +kernel
theorem dL_law_351 : decode cL_law 351 = .ok (.aload_n 0, 1) := by decide +kernel
theorem dL_law_352 : decode cL_law 352 = .ok (.iload_n 3, 1) := by decide +kernel
theorem dL_law_353 : decode cL_law 353 = .ok (.iconst 1, 1) := by decide +kernel
theorem dL_law_354 : decode cL_law 354 = .ok (.iadd, 1) := by decide +kernel
theorem dL_law_355 : decode cL_law 355 = .ok (.iaload, 1) := by decide +kernel
theorem dL_law_356 : decode cL_law 356 = .ok (.aload_n 0, 1) := by decide +kernel
theorem dL_law_357 : decode cL_law 357 = .ok (.iload_n 3, 1) := by decide +kernel
theorem dL_law_358 : decode cL_law 358 = .ok (.iconst 2, 1) := by decide +kernel
theorem dL_law_359 : decode cL_law 359 = .ok (.iadd, 1) := by decide +kernel
theorem dL_law_360 : decode cL_law 360 = .ok (.iaload, 1) := by decide +kernel
theorem dL_law_361 : decode cL_law 361 = .ok (.invokevirtual 40, 3) := by decide +kernel
theorem dL_law_364 : decode cL_law 364 = .ok (.aload_n 2, 1) := by decide +kernel
theorem dL_law_365 : decode cL_law 365 = .ok (.aload_n 0, 1) := by decide +kernel
theorem dL_law_366 : decode cL_law 366 = .ok (.iload_n 3, 1) := by decide +kernel
theorem dL_law_367 : decode cL_law 367 = .ok (.iconst 1, 1) := by decide +kernel
theorem dL_law_368 : decode cL_law 368 = .ok (.iadd, 1) := by decide +kernel
theorem dL_law_369 : decode cL_law 369 = .ok (.iaload, 1) := by decide +kernel
theorem dL_law_370 : decode cL_law 370 = .ok (.aload_n 0, 1) := by decide +kernel
theorem dL_law_371 : decode cL_law 371 = .ok (.iload_n 3, 1) := by decide +kernel
theorem dL_law_372 : decode cL_law 372 = .ok (.iconst 2, 1) := by decide +kernel
theorem dL_law_373 : decode cL_law 373 = .ok (.iadd, 1) := by decide +kernel
theorem dL_law_374 : decode cL_law 374 = .ok (.iaload, 1) := by decide +kernel
theorem dL_law_375 : decode cL_law 375 = .ok (.invokevirtual 43, 3) := by decide +kernel
theorem dL_law_378 : decode cL_law 378 = .ok (.if_icmp .eq 437, 3) := by decide +kernel
theorem dL_law_381 : decode cL_law 381 = .ok (.iconst 0, 1) := by decide +kernel
theorem dL_law_382 : decode cL_law 382 = .ok (.ireturn, 1) := by decide +kernel
theorem dL_law_383 : decode cL_law 383 = .ok (.aload_n 1, 1) := by decide +kernel
theorem dL_law_384 : decode cL_law 384 = .ok (.aload_n 0, 1) := by decide +kernel
theorem dL_law_385 : decode cL_law 385 = .ok (.iload_n 3, 1) := by decide +kernel
theorem dL_law_386 : decode cL_law 386 = .ok (.iconst 1, 1) := by decide +kernel
theorem dL_law_387 : decode cL_law 387 = .ok (.iadd, 1) := by decide +kernel
theorem dL_law_388 : decode cL_law 388 = .ok (.iaload, 1) := by decide +kernel
theorem dL_law_389 : decode cL_law 389 = .ok (.aload_n 0, 1) := by decide +kernel
theorem dL_law_390 : decode cL_law 390 = .ok (.iload_n 3, 1) := by decide +kernel
theorem dL_law_391 : decode cL_law 391 = .ok (.iconst 2, 1) := by decide +kernel
theorem dL_law_392 : decode cL_law 392 = .ok (.iadd, 1) := by decide +kernel
theorem dL_law_393 : decode cL_law 393 = .ok (.iaload, 1) := by decide +kernel
theorem dL_law_394 : decode cL_law 394 = .ok (.aload_n 0, 1) := by decide +kernel
theorem dL_law_395 : decode cL_law 395 = .ok (.iload_n 3, 1) := by decide +kernel
theorem dL_law_396 : decode cL_law 396 = .ok (.iconst 3, 1) := by decide +kernel
theorem dL_law_397 : decode cL_law 397 = .ok (.iadd, 1) := by decide +kernel
theorem dL_law_398 : decode cL_law 398 = .ok (.iaload, 1) := by decide +kernel
theorem dL_law_399 : decode cL_law 399 = .ok (.invokevirtual 44, 3) := by decide +kernel
theorem dL_law_402 : decode cL_law 402 = .ok (.aload_n 2, 1) := by decide +kernel
theorem dL_law_403 : decode cL_law 403 = .ok (.aload_n 0, 1) := by decide +kernel
theorem dL_law_404 : decode cL_law 404 = .ok (.iload_n 3, 1) := by decide +kernel
theorem dL_law_405 : decode cL_law 405 = .ok (.iconst 1, 1) := by decide +kernel
theorem dL_law_406 : decode cL_law 406 = .ok (.iadd, 1) := by decide +kernel
theorem dL_law_407 : decode cL_law 407 = .ok (.iaload, 1) := by decide +kernel
theorem dL_law_408 : decode cL_law 408 = .ok (.aload_n 0, 1) := by decide +kernel
theorem dL_law_409 : decode cL_law 409 = .ok (.iload_n 3, 1) := by decide +kernel
theorem dL_law_410 : decode cL_law 410 = .ok (.iconst 2, 1) := by decide +kernel
theorem dL_law_411 : decode cL_law 411 = .ok (.iadd, 1) := by decide +kernel
theorem dL_law_412 : decode cL_law 412 = .ok (.iaload, 1) := by decide +kernel
theorem dL_law_413 : decode cL_law 413 = .ok (.aload_n 0, 1) := by decide +kernel
theorem dL_law_414 : decode cL_law 414 = .ok (.iload_n 3, 1) := by decide +kernel
theorem dL_law_415 : decode cL_law 415 = .ok (.iconst 3, 1) := by decide +kernel
theorem dL_law_416 : decode cL_law 416 = .ok (.iadd, 1) := by decide +kernel
theorem dL_law_417 : decode cL_law 417 = .ok (.iaload, 1) := by decide +kernel
theorem dL_law_418 : decode cL_law 418 = .ok (.invokevirtual 47, 3) := by decide +kernel
theorem dL_law_421 : decode cL_law 421 = .ok (.if_icmp .eq 394, 3) := by decide +kernel
theorem dL_law_424 : decode cL_law 424 = .ok (.iconst 0, 1) := by decide +kernel
theorem dL_law_425 : decode cL_law 425 = .ok (.ireturn, 1) := by decide +kernel
theorem dL_law_426 : decode cL_law 426 = .ok (.aload_n 1, 1) := by decide +kernel
theorem dL_law_427 : decode cL_law 427 = .ok (.aload_n 0, 1) := by decide +kernel
theorem dL_law_428 : decode cL_law 428 = .ok (.iload_n 3, 1) := by decide +kernel
theorem dL_law_429 : decode cL_law 429 = .ok (.iconst 1, 1) := by decide +kernel
theorem dL_law_430 : decode cL_law 430 = .ok (.iadd, 1) := by decide +kernel
theorem dL_law_431 : decode cL_law 431 = .ok (.iaload, 1) := by decide +kernel
theorem dL_law_432 : decode cL_law 432 = .ok (.aload_n 0, 1) := by decide +kernel
theorem dL_law_433 : decode cL_law 433 = .ok (.iload_n 3, 1) := by decide +kernel
theorem dL_law_434 : decode cL_law 434 = .ok (.iconst 2, 1) := by decide +kernel
theorem dL_law_435 : decode cL_law 435 = .ok (.iadd, 1) := by decide +kernel
theorem dL_law_436 : decode cL_law 436 = .ok (.iaload, 1) := by decide +kernel
theorem dL_law_437 : decode cL_law 437 = .ok (.invokevirtual 48, 3) := by decide +kernel
theorem dL_law_440 : decode cL_law 440 = .ok (.aload_n 2, 1) := by decide +kernel
theorem dL_law_441 : decode cL_law 441 = .ok (.aload_n 0, 1) := by decide +kernel
theorem dL_law_442 : decode cL_law 442 = .ok (.iload_n 3, 1) := by decide +kernel
theorem dL_law_443 : decode cL_law 443 = .ok (.iconst 1, 1) := by decide +kernel
theorem dL_law_444 : decode cL_law 444 = .ok (.iadd, 1) := by decide +kernel
theorem dL_law_445 : decode cL_law 445 = .ok (.iaload, 1) := by decide +kernel
theorem dL_law_446 : decode cL_law 446 = .ok (.aload_n 0, 1) := by decide +kernel
theorem dL_law_447 : decode cL_law 447 = .ok (.iload_n 3, 1) := by decide +kernel
theorem dL_law_448 : decode cL_law 448 = .ok (.iconst 2, 1) := by decide +kernel
theorem dL_law_449 : decode cL_law 449 = .ok (.iadd, 1) := by decide +kernel
theorem dL_law_450 : decode cL_law 450 = .ok (.iaload, 1) := by decide +kernel
theorem dL_law_451 : decode cL_law 451 = .ok (.invokevirtual 51, 3) := by decide +kernel
theorem dL_law_454 : decode cL_law 454 = .ok (.if_icmp .eq 361, 3) := by decide +kernel
theorem dL_law_457 : decode cL_law 457 = .ok (.iconst 0, 1) := by decide +kernel
theorem dL_law_458 : decode cL_law 458 = .ok (.ireturn, 1) := by decide +kernel
theorem dL_law_459 : decode cL_law 459 = .ok (.aload_n 1, 1) := by decide +kernel
theorem dL_law_460 : decode cL_law 460 = .ok (.aload_n 0, 1) := by decide +kernel
theorem dL_law_461 : decode cL_law 461 = .ok (.iload_n 3, 1) := by decide +kernel
theorem dL_law_462 : decode cL_law 462 = .ok (.iconst 1, 1) := by decide +kernel
theorem dL_law_463 : decode cL_law 463 = .ok (.iadd, 1) := by decide +kernel
theorem dL_law_464 : decode cL_law 464 = .ok (.iaload, 1) := by decide +kernel
theorem dL_law_465 : decode cL_law 465 = .ok (.aload_n 0, 1) := by decide +kernel
theorem dL_law_466 : decode cL_law 466 = .ok (.iload_n 3, 1) := by decide +kernel
theorem dL_law_467 : decode cL_law 467 = .ok (.iconst 2, 1) := by decide +kernel
theorem dL_law_468 : decode cL_law 468 = .ok (.iadd, 1) := by decide +kernel
theorem dL_law_469 : decode cL_law 469 = .ok (.iaload, 1) := by decide +kernel
theorem dL_law_470 : decode cL_law 470 = .ok (.invokevirtual 52, 3) := by decide +kernel
theorem dL_law_473 : decode cL_law 473 = .ok (.aload_n 2, 1) := by decide +kernel
theorem dL_law_474 : decode cL_law 474 = .ok (.aload_n 0, 1) := by decide +kernel
theorem dL_law_475 : decode cL_law 475 = .ok (.iload_n 3, 1) := by decide +kernel
theorem dL_law_476 : decode cL_law 476 = .ok (.iconst 1, 1) := by decide +kernel
theorem dL_law_477 : decode cL_law 477 = .ok (.iadd, 1) := by decide +kernel
theorem dL_law_478 : decode cL_law 478 = .ok (.iaload, 1) := by decide +kernel
theorem dL_law_479 : decode cL_law 479 = .ok (.aload_n 0, 1) := by decide +kernel
theorem dL_law_480 : decode cL_law 480 = .ok (.iload_n 3, 1) := by decide +kernel
theorem dL_law_481 : decode cL_law 481 = .ok (.iconst 2, 1) := by decide +kernel
theorem dL_law_482 : decode cL_law 482 = .ok (.iadd, 1) := by decide +kernel
theorem dL_law_483 : decode cL_law 483 = .ok (.iaload, 1) := by decide +kernel
theorem dL_law_484 : decode cL_law 484 = .ok (.invokevirtual 55, 3) := by decide +kernel
theorem dL_law_487 : decode cL_law 487 = .ok (.if_icmp .eq 328, 3) := by decide +kernel
theorem dL_law_490 : decode cL_law 490 = .ok (.iconst 0, 1) := by decide +kernel
theorem dL_law_491 : decode cL_law 491 = .ok (.ireturn, 1) := by decide +kernel
theorem dL_law_492 : decode cL_law 492 = .ok (.aload_n 1, 1) := by decide +kernel
theorem dL_law_493 : decode cL_law 493 = .ok (.aload_n 0, 1) := by decide +kernel
theorem dL_law_494 : decode cL_law 494 = .ok (.iload_n 3, 1) := by decide +kernel
theorem dL_law_495 : decode cL_law 495 = .ok (.iconst 1, 1) := by decide +kernel
theorem dL_law_496 : decode cL_law 496 = .ok (.iadd, 1) := by decide +kernel
theorem dL_law_497 : decode cL_law 497 = .ok (.iaload, 1) := by decide +kernel
theorem dL_law_498 : decode cL_law 498 = .ok (.invokevirtual 56, 3) := by decide +kernel
theorem dL_law_501 : decode cL_law 501 = .ok (.aload_n 2, 1) := by decide +kernel
theorem dL_law_502 : decode cL_law 502 = .ok (.aload_n 0, 1) := by decide +kernel
theorem dL_law_503 : decode cL_law 503 = .ok (.iload_n 3, 1) := by decide +kernel
theorem dL_law_504 : decode cL_law 504 = .ok (.iconst 1, 1) := by decide +kernel
theorem dL_law_505 : decode cL_law 505 = .ok (.iadd, 1) := by decide +kernel
theorem dL_law_506 : decode cL_law 506 = .ok (.iaload, 1) := by decide +kernel
theorem dL_law_507 : decode cL_law 507 = .ok (.invokevirtual 59, 3) := by decide +kernel
theorem dL_law_510 : decode cL_law 510 = .ok (.if_icmp .eq 305, 3) := by decide +kernel
theorem dL_law_513 : decode cL_law 513 = .ok (.iconst 0, 1) := by decide +kernel
theorem dL_law_514 : decode cL_law 514 = .ok (.ireturn, 1) := by decide +kernel
theorem dL_law_515 : decode cL_law 515 = .ok (.aload_n 1, 1) := by decide +kernel
theorem dL_law_516 : decode cL_law 516 = .ok (.aload_n 0, 1) := by decide +kernel
theorem dL_law_517 : decode cL_law 517 = .ok (.iload_n 3, 1) := by decide +kernel
theorem dL_law_518 : decode cL_law 518 = .ok (.iconst 1, 1) := by decide +kernel
theorem dL_law_519 : decode cL_law 519 = .ok (.iadd, 1) := by decide +kernel
theorem dL_law_520 : decode cL_law 520 = .ok (.iaload, 1) := by decide +kernel
theorem dL_law_521 : decode cL_law 521 = .ok (.aload_n 0, 1) := by decide +kernel
theorem dL_law_522 : decode cL_law 522 = .ok (.iload_n 3, 1) := by decide +kernel
theorem dL_law_523 : decode cL_law 523 = .ok (.iconst 2, 1) := by decide +kernel
theorem dL_law_524 : decode cL_law 524 = .ok (.iadd, 1) := by decide +kernel
theorem dL_law_525 : decode cL_law 525 = .ok (.iaload, 1) := by decide +kernel
theorem dL_law_526 : decode cL_law 526 = .ok (.aload_n 0, 1) := by decide +kernel
theorem dL_law_527 : decode cL_law 527 = .ok (.iload_n 3, 1) := by decide +kernel
theorem dL_law_528 : decode cL_law 528 = .ok (.iconst 3, 1) := by decide +kernel
theorem dL_law_529 : decode cL_law 529 = .ok (.iadd, 1) := by decide +kernel
theorem dL_law_530 : decode cL_law 530 = .ok (.iaload, 1) := by decide +kernel
theorem dL_law_531 : decode cL_law 531 = .ok (.invokevirtual 60, 3) := by decide +kernel
theorem dL_law_534 : decode cL_law 534 = .ok (.aload_n 2, 1) := by decide +kernel
theorem dL_law_535 : decode cL_law 535 = .ok (.aload_n 0, 1) := by decide +kernel
theorem dL_law_536 : decode cL_law 536 = .ok (.iload_n 3, 1) := by decide +kernel
theorem dL_law_537 : decode cL_law 537 = .ok (.iconst 1, 1) := by decide +kernel
theorem dL_law_538 : decode cL_law 538 = .ok (.iadd, 1) := by decide +kernel
theorem dL_law_539 : decode cL_law 539 = .ok (.iaload, 1) := by decide +kernel
theorem dL_law_540 : decode cL_law 540 = .ok (.aload_n 0, 1) := by decide +kernel
theorem dL_law_541 : decode cL_law 541 = .ok (.iload_n 3, 1) := by decide +kernel
theorem dL_law_542 : decode cL_law 542 = .ok (.iconst 2, 1) := by decide +kernel
theorem dL_law_543 : decode cL_law 543 = .ok (.iadd, 1) := by decide +kernel
theorem dL_law_544 : decode cL_law 544 = .ok (.iaload, 1) := by decide +kernel
theorem dL_law_545 : decode cL_law 545 = .ok (.aload_n 0, 1) := by decide +kernel
theorem dL_law_546 : decode cL_law 546 = .ok (.iload_n 3, 1) := by decide +kernel
theorem dL_law_547 : decode cL_law 547 = .ok (.iconst 3, 1) := by decide +kernel
theorem dL_law_548 : decode cL_law 548 = .ok (.iadd, 1) := by decide +kernel
theorem dL_law_549 : decode cL_law 549 = .ok (.iaload, 1) := by decide +kernel
theorem dL_law_550 : decode cL_law 550 = .ok (.invokevirtual 63, 3) := by decide +kernel
theorem dL_law_553 : decode cL_law 553 = .ok (.if_icmp .eq 262, 3) := by decide +kernel
theorem dL_law_556 : decode cL_law 556 = .ok (.iconst 0, 1) := by decide +kernel
theorem dL_law_557 : decode cL_law 557 = .ok (.ireturn, 1) := by decide +kernel
theorem dL_law_558 : decode cL_law 558 = .ok (.aload_n 1, 1) := by decide +kernel
theorem dL_law_559 : decode cL_law 559 = .ok (.aload_n 0, 1) := by decide +kernel
theorem dL_law_560 : decode cL_law 560 = .ok (.iload_n 3, 1) := by decide +kernel
theorem dL_law_561 : decode cL_law 561 = .ok (.iconst 1, 1) := by decide +kernel
theorem dL_law_562 : decode cL_law 562 = .ok (.iadd, 1) := by decide +kernel
theorem dL_law_563 : decode cL_law 563 = .ok (.iaload, 1) := by decide +kernel
theorem dL_law_564 : decode cL_law 564 = .ok (.aload_n 0, 1) := by decide +kernel
theorem dL_law_565 : decode cL_law 565 = .ok (.iload_n 3, 1) := by decide +kernel
theorem dL_law_566 : decode cL_law 566 = .ok (.iconst 2, 1) := by decide +kernel
theorem dL_law_567 : decode cL_law 567 = .ok (.iadd, 1) := by decide +kernel
theorem dL_law_568 : decode cL_law 568 = .ok (.iaload, 1) := by decide +kernel
theorem dL_law_569 : decode cL_law 569 = .ok (.invokevirtual 64, 3) := by decide +kernel
theorem dL_law_572 : decode cL_law 572 = .ok (.aload_n 2, 1) := by decide +kernel
theorem dL_law_573 : decode cL_law 573 = .ok (.aload_n 0, 1) := by decide +kernel
theorem dL_law_574 : decode cL_law 574 = .ok (.iload_n 3, 1) := by decide +kernel
theorem dL_law_575 : decode cL_law 575 = .ok (.iconst 1, 1) := by decide +kernel
theorem dL_law_576 : decode cL_law 576 = .ok (.iadd, 1) := by decide +kernel
theorem dL_law_577 : decode cL_law 577 = .ok (.iaload, 1) := by decide +kernel
theorem dL_law_578 : decode cL_law 578 = .ok (.aload_n 0, 1) := by decide +kernel
theorem dL_law_579 : decode cL_law 579 = .ok (.iload_n 3, 1) := by decide +kernel
theorem dL_law_580 : decode cL_law 580 = .ok (.iconst 2, 1) := by decide +kernel
theorem dL_law_581 : decode cL_law 581 = .ok (.iadd, 1) := by decide +kernel
theorem dL_law_582 : decode cL_law 582 = .ok (.iaload, 1) := by decide +kernel
theorem dL_law_583 : decode cL_law 583 = .ok (.invokevirtual 67, 3) := by decide +kernel
theorem dL_law_586 : decode cL_law 586 = .ok (.if_icmp .eq 229, 3) := by decide +kernel
theorem dL_law_589 : decode cL_law 589 = .ok (.iconst 0, 1) := by decide +kernel
theorem dL_law_590 : decode cL_law 590 = .ok (.ireturn, 1) := by decide +kernel
theorem dL_law_591 : decode cL_law 591 = .ok (.aload_n 1, 1) := by decide +kernel
theorem dL_law_592 : decode cL_law 592 = .ok (.aload_n 0, 1) := by decide +kernel
theorem dL_law_593 : decode cL_law 593 = .ok (.iload_n 3, 1) := by decide +kernel
theorem dL_law_594 : decode cL_law 594 = .ok (.iconst 1, 1) := by decide +kernel
theorem dL_law_595 : decode cL_law 595 = .ok (.iadd, 1) := by decide +kernel
theorem dL_law_596 : decode cL_law 596 = .ok (.iaload, 1) := by decide +kernel
theorem dL_law_597 : decode cL_law 597 = .ok (.aload_n 0, 1) := by decide +kernel
theorem dL_law_598 : decode cL_law 598 = .ok (.iload_n 3, 1) := by decide +kernel
theorem dL_law_599 : decode cL_law 599 = .ok (.iconst 2, 1) := by decide +kernel
theorem dL_law_600 : decode cL_law 600 = .ok (.iadd, 1) := by decide +kernel
theorem dL_law_601 : decode cL_law 601 = .ok (.iaload, 1) := by decide +kernel
theorem dL_law_602 : decode cL_law 602 = .ok (.aload_n 0, 1) := by decide +kernel
theorem dL_law_603 : decode cL_law 603 = .ok (.iload_n 3, 1) := by decide +kernel
theorem dL_law_604 : decode cL_law 604 = .ok (.iconst 3, 1) := by decide +kernel
theorem dL_law_605 : decode cL_law 605 = .ok (.iadd, 1) := by decide +kernel
theorem dL_law_606 : decode cL_law 606 = .ok (.iaload, 1) := by decide +kernel
theorem dL_law_607 : decode cL_law 607 = .ok (.invokevirtual 68, 3) := by decide +kernel
theorem dL_law_610 : decode cL_law 610 = .ok (.aload_n 2, 1) := by decide +kernel
theorem dL_law_611 : decode cL_law 611 = .ok (.aload_n 0, 1) := by decide +kernel
theorem dL_law_612 : decode cL_law 612 = .ok (.iload_n 3, 1) := by decide +kernel
theorem dL_law_613 : decode cL_law 613 = .ok (.iconst 1, 1) := by decide +kernel
theorem dL_law_614 : decode cL_law 614 = .ok (.iadd, 1) := by decide +kernel
theorem dL_law_615 : decode cL_law 615 = .ok (.iaload, 1) := by decide +kernel
theorem dL_law_616 : decode cL_law 616 = .ok (.aload_n 0, 1) := by decide +kernel
theorem dL_law_617 : decode cL_law 617 = .ok (.iload_n 3, 1) := by decide +kernel
theorem dL_law_618 : decode cL_law 618 = .ok (.iconst 2, 1) := by decide +kernel
theorem dL_law_619 : decode cL_law 619 = .ok (.iadd, 1) := by decide +kernel
theorem dL_law_620 : decode cL_law 620 = .ok (.iaload, 1) := by decide +kernel
theorem dL_law_621 : decode cL_law 621 = .ok (.aload_n 0, 1) := by decide +kernel
theorem dL_law_622 : decode cL_law 622 = .ok (.iload_n 3, 1) := by decide +kernel
theorem dL_law_623 : decode cL_law 623 = .ok (.iconst 3, 1) := by decide +kernel
theorem dL_law_624 : decode cL_law 624 = .ok (.iadd, 1) := by decide +kernel
theorem dL_law_625 : decode cL_law 625 = .ok (.iaload, 1) := by decide +kernel
theorem dL_law_626 : decode cL_law 626 = .ok (.invokevirtual 71, 3) := by decide +kernel
theorem dL_law_629 : decode cL_law 629 = .ok (.if_icmp .eq 186, 3) := by decide +kernel
theorem dL_law_632 : decode cL_law 632 = .ok (.iconst 0, 1) := by decide +kernel
theorem dL_law_633 : decode cL_law 633 = .ok (.ireturn, 1) := by decide +kernel
theorem dL_law_634 : decode cL_law 634 = .ok (.aload_n 1, 1) := by decide +kernel
theorem dL_law_635 : decode cL_law 635 = .ok (.aload_n 0, 1) := by decide +kernel
theorem dL_law_636 : decode cL_law 636 = .ok (.iload_n 3, 1) := by decide +kernel
theorem dL_law_637 : decode cL_law 637 = .ok (.iconst 1, 1) := by decide +kernel
theorem dL_law_638 : decode cL_law 638 = .ok (.iadd, 1) := by decide +kernel
theorem dL_law_639 : decode cL_law 639 = .ok (.iaload, 1) := by decide +kernel
theorem dL_law_640 : decode cL_law 640 = .ok (.aload_n 0, 1) := by decide +kernel
theorem dL_law_641 : decode cL_law 641 = .ok (.iload_n 3, 1) := by decide +kernel
theorem dL_law_642 : decode cL_law 642 = .ok (.iconst 2, 1) := by decide +kernel
theorem dL_law_643 : decode cL_law 643 = .ok (.iadd, 1) := by decide +kernel
theorem dL_law_644 : decode cL_law 644 = .ok (.iaload, 1) := by decide +kernel
theorem dL_law_645 : decode cL_law 645 = .ok (.aload_n 0, 1) := by decide +kernel
theorem dL_law_646 : decode cL_law 646 = .ok (.iload_n 3, 1) := by decide +kernel
theorem dL_law_647 : decode cL_law 647 = .ok (.iconst 3, 1) := by decide +kernel
theorem dL_law_648 : decode cL_law 648 = .ok (.iadd, 1) := by decide +kernel
theorem dL_law_649 : decode cL_law 649 = .ok (.iaload, 1) := by decide +kernel
theorem dL_law_650 : decode cL_law 650 = .ok (.invokevirtual 72, 3) := by decide +kernel
theorem dL_law_653 : decode cL_law 653 = .ok (.aload_n 2, 1) := by decide +kernel
theorem dL_law_654 : decode cL_law 654 = .ok (.aload_n 0, 1) := by decide +kernel
theorem dL_law_655 : decode cL_law 655 = .ok (.iload_n 3, 1) := by decide +kernel
theorem dL_law_656 : decode cL_law 656 = .ok (.iconst 1, 1) := by decide +kernel
theorem dL_law_657 : decode cL_law 657 = .ok (.iadd, 1) := by decide +kernel
theorem dL_law_658 : decode cL_law 658 = .ok (.iaload, 1) := by decide +kernel
theorem dL_law_659 : decode cL_law 659 = .ok (.aload_n 0, 1) := by decide +kernel
theorem dL_law_660 : decode cL_law 660 = .ok (.iload_n 3, 1) := by decide +kernel
theorem dL_law_661 : decode cL_law 661 = .ok (.iconst 2, 1) := by decide +kernel
theorem dL_law_662 : decode cL_law 662 = .ok (.iadd, 1) := by decide +kernel
theorem dL_law_663 : decode cL_law 663 = .ok (.iaload, 1) := by decide +kernel
theorem dL_law_664 : decode cL_law 664 = .ok (.aload_n 0, 1) := by decide +kernel
theorem dL_law_665 : decode cL_law 665 = .ok (.iload_n 3, 1) := by decide +kernel
theorem dL_law_666 : decode cL_law 666 = .ok (.iconst 3, 1) := by decide +kernel
theorem dL_law_667 : decode cL_law 667 = .ok (.iadd, 1) := by decide +kernel
theorem dL_law_668 : decode cL_law 668 = .ok (.iaload, 1) := by decide +kernel
theorem dL_law_669 : decode cL_law 669 = .ok (.invokevirtual 75, 3) := by decide +kernel
theorem dL_law_672 : decode cL_law 672 = .ok (.if_icmp .eq 143, 3) := by decide +kernel
theorem dL_law_675 : decode cL_law 675 = .ok (.iconst 0, 1) := by decide +kernel
theorem dL_law_676 : decode cL_law 676 = .ok (.ireturn, 1) := by decide +kernel
theorem dL_law_677 : decode cL_law 677 = .ok (.aload_n 1, 1) := by decide +kernel
theorem dL_law_678 : decode cL_law 678 = .ok (.aload_n 0, 1) := by decide +kernel
theorem dL_law_679 : decode cL_law 679 = .ok (.iload_n 3, 1) := by decide +kernel
theorem dL_law_680 : decode cL_law 680 = .ok (.iconst 1, 1) := by decide +kernel
theorem dL_law_681 : decode cL_law 681 = .ok (.iadd, 1) := by decide +kernel
theorem dL_law_682 : decode cL_law 682 = .ok (.iaload, 1) := by decide +kernel
theorem dL_law_683 : decode cL_law 683 = .ok (.i2l, 1) := by decide +kernel
theorem dL_law_684 : decode cL_law 684 = .ok (.bipush 32, 2) := by decide +kernel
theorem dL_law_686 : decode cL_law 686 = .ok (.lshl, 1) := by decide +kernel
theorem dL_law_687 : decode cL_law 687 = .ok (.aload_n 0, 1) := by decide +kernel
theorem dL_law_688 : decode cL_law 688 = .ok (.iload_n 3, 1) := by decide +kernel
theorem dL_law_689 : decode cL_law 689 = .ok (.iconst 2, 1) := by decide +kernel
theorem dL_law_690 : decode cL_law 690 = .ok (.iadd, 1) := by decide +kernel
theorem dL_law_691 : decode cL_law 691 = .ok (.iaload, 1) := by decide +kernel
theorem dL_law_692 : decode cL_law 692 = .ok (.i2l, 1) := by decide +kernel
theorem dL_law_693 : decode cL_law 693 = .ok (.ldc2_w 76, 3) := by decide +kernel
theorem dL_law_696 : decode cL_law 696 = .ok (.land, 1) := by decide +kernel
theorem dL_law_697 : decode cL_law 697 = .ok (.lor, 1) := by decide +kernel
theorem dL_law_698 : decode cL_law 698 = .ok (.invokevirtual 78, 3) := by decide +kernel
theorem dL_law_701 : decode cL_law 701 = .ok (.aload_n 2, 1) := by decide +kernel
theorem dL_law_702 : decode cL_law 702 = .ok (.aload_n 0, 1) := by decide +kernel
theorem dL_law_703 : decode cL_law 703 = .ok (.iload_n 3, 1) := by decide +kernel
theorem dL_law_704 : decode cL_law 704 = .ok (.iconst 1, 1) := by decide +kernel
theorem dL_law_705 : decode cL_law 705 = .ok (.iadd, 1) := by decide +kernel
theorem dL_law_706 : decode cL_law 706 = .ok (.iaload, 1) := by decide +kernel
theorem dL_law_707 : decode cL_law 707 = .ok (.i2l, 1) := by decide +kernel
theorem dL_law_708 : decode cL_law 708 = .ok (.bipush 32, 2) := by decide +kernel
theorem dL_law_710 : decode cL_law 710 = .ok (.lshl, 1) := by decide +kernel
theorem dL_law_711 : decode cL_law 711 = .ok (.aload_n 0, 1) := by decide +kernel
theorem dL_law_712 : decode cL_law 712 = .ok (.iload_n 3, 1) := by decide +kernel
theorem dL_law_713 : decode cL_law 713 = .ok (.iconst 2, 1) := by decide +kernel
theorem dL_law_714 : decode cL_law 714 = .ok (.iadd, 1) := by decide +kernel
theorem dL_law_715 : decode cL_law 715 = .ok (.iaload, 1) := by decide +kernel
theorem dL_law_716 : decode cL_law 716 = .ok (.i2l, 1) := by decide +kernel
theorem dL_law_717 : decode cL_law 717 = .ok (.ldc2_w 76, 3) := by decide +kernel
theorem dL_law_720 : decode cL_law 720 = .ok (.land, 1) := by decide +kernel
theorem dL_law_721 : decode cL_law 721 = .ok (.lor, 1) := by decide +kernel
theorem dL_law_722 : decode cL_law 722 = .ok (.invokevirtual 82, 3) := by decide +kernel
theorem dL_law_725 : decode cL_law 725 = .ok (.if_icmp .eq 90, 3) := by decide +kernel
theorem dL_law_728 : decode cL_law 728 = .ok (.iconst 0, 1) := by decide +kernel
theorem dL_law_729 : decode cL_law 729 = .ok (.ireturn, 1) := by decide +kernel
theorem dL_law_730 : decode cL_law 730 = .ok (.aload_n 1, 1) := by decide +kernel
theorem dL_law_731 : decode cL_law 731 = .ok (.invokevirtual 83, 3) := by decide +kernel
theorem dL_law_734 : decode cL_law 734 = .ok (.aload_n 2, 1) := by decide +kernel
theorem dL_law_735 : decode cL_law 735 = .ok (.invokevirtual 87, 3) := by decide +kernel
theorem dL_law_738 : decode cL_law 738 = .ok (.if_icmp .eq 77, 3) := by decide +kernel
theorem dL_law_741 : decode cL_law 741 = .ok (.iconst 0, 1) := by decide +kernel
theorem dL_law_742 : decode cL_law 742 = .ok (.ireturn, 1) := by decide +kernel
theorem dL_law_743 : decode cL_law 743 = .ok (.aload_n 1, 1) := by decide +kernel
theorem dL_law_744 : decode cL_law 744 = .ok (.invokevirtual 88, 3) := by decide +kernel
theorem dL_law_747 : decode cL_law 747 = .ok (.aload_n 2, 1) := by decide +kernel
theorem dL_law_748 : decode cL_law 748 = .ok (.invokevirtual 91, 3) := by decide +kernel
theorem dL_law_751 : decode cL_law 751 = .ok (.if_icmp .eq 64, 3) := by decide +kernel
theorem dL_law_754 : decode cL_law 754 = .ok (.iconst 0, 1) := by decide +kernel
theorem dL_law_755 : decode cL_law 755 = .ok (.ireturn, 1) := by decide +kernel
theorem dL_law_756 : decode cL_law 756 = .ok (.aload_n 1, 1) := by decide +kernel
theorem dL_law_757 : decode cL_law 757 = .ok (.invokevirtual 92, 3) := by decide +kernel
theorem dL_law_760 : decode cL_law 760 = .ok (.aload_n 2, 1) := by decide +kernel
theorem dL_law_761 : decode cL_law 761 = .ok (.invokevirtual 95, 3) := by decide +kernel
theorem dL_law_764 : decode cL_law 764 = .ok (.if_icmp .eq 51, 3) := by decide +kernel
theorem dL_law_767 : decode cL_law 767 = .ok (.iconst 0, 1) := by decide +kernel
theorem dL_law_768 : decode cL_law 768 = .ok (.ireturn, 1) := by decide +kernel
theorem dL_law_769 : decode cL_law 769 = .ok (.aload_n 1, 1) := by decide +kernel
theorem dL_law_770 : decode cL_law 770 = .ok (.aload_n 0, 1) := by decide +kernel
theorem dL_law_771 : decode cL_law 771 = .ok (.iload_n 3, 1) := by decide +kernel
theorem dL_law_772 : decode cL_law 772 = .ok (.iconst 1, 1) := by decide +kernel
theorem dL_law_773 : decode cL_law 773 = .ok (.iadd, 1) := by decide +kernel
theorem dL_law_774 : decode cL_law 774 = .ok (.iaload, 1) := by decide +kernel
theorem dL_law_775 : decode cL_law 775 = .ok (.invokevirtual 96, 3) := by decide +kernel
theorem dL_law_778 : decode cL_law 778 = .ok (.aload_n 2, 1) := by decide +kernel
theorem dL_law_779 : decode cL_law 779 = .ok (.aload_n 0, 1) := by decide +kernel
theorem dL_law_780 : decode cL_law 780 = .ok (.iload_n 3, 1) := by decide +kernel
theorem dL_law_781 : decode cL_law 781 = .ok (.iconst 1, 1) := by decide +kernel
theorem dL_law_782 : decode cL_law 782 = .ok (.iadd, 1) := by decide +kernel
theorem dL_law_783 : decode cL_law 783 = .ok (.iaload, 1) := by decide +kernel
theorem dL_law_784 : decode cL_law 784 = .ok (.invokevirtual 99, 3) := by decide +kernel
theorem dL_law_787 : decode cL_law 787 = .ok (.if_icmp .eq 28, 3) := by decide +kernel
theorem dL_law_790 : decode cL_law 790 = .ok (.iconst 0, 1) := by decide +kernel
theorem dL_law_791 : decode cL_law 791 = .ok (.ireturn, 1) := by decide +kernel
theorem dL_law_792 : decode cL_law 792 = .ok (.aload_n 1, 1) := by decide +kernel
theorem dL_law_793 : decode cL_law 793 = .ok (.aload_n 0, 1) := by decide +kernel
theorem dL_law_794 : decode cL_law 794 = .ok (.iload_n 3, 1) := by decide +kernel
theorem dL_law_795 : decode cL_law 795 = .ok (.iconst 1, 1) := by decide +kernel
theorem dL_law_796 : decode cL_law 796 = .ok (.iadd, 1) := by decide +kernel
theorem dL_law_797 : decode cL_law 797 = .ok (.iaload, 1) := by decide +kernel
theorem dL_law_798 : decode cL_law 798 = .ok (.invokevirtual 100, 3) := by decide +kernel
theorem dL_law_801 : decode cL_law 801 = .ok (.aload_n 2, 1) := by decide +kernel
theorem dL_law_802 : decode cL_law 802 = .ok (.aload_n 0, 1) := by decide +kernel
theorem dL_law_803 : decode cL_law 803 = .ok (.iload_n 3, 1) := by decide +kernel
theorem dL_law_804 : decode cL_law 804 = .ok (.iconst 1, 1) := by decide +kernel
theorem dL_law_805 : decode cL_law 805 = .ok (.iadd, 1) := by decide +kernel
theorem dL_law_806 : decode cL_law 806 = .ok (.iaload, 1) := by decide +kernel
theorem dL_law_807 : decode cL_law 807 = .ok (.invokevirtual 103, 3) := by decide +kernel
theorem dL_law_810 : decode cL_law 810 = .ok (.if_icmp .eq 5, 3) := by decide +kernel
theorem dL_law_813 : decode cL_law 813 = .ok (.iconst 0, 1) := by decide +kernel
theorem dL_law_814 : decode cL_law 814 = .ok (.ireturn, 1) := by decide +kernel
theorem dL_law_815 : decode cL_law 815 = .ok (.iinc 3 4, 3) := by decide +kernel
theorem dL_law_818 : decode cL_law 818 = .ok (.goto (-800), 3) := by decide +kernel
theorem dL_law_821 : decode cL_law 821 = .ok (.iconst 1, 1) := by decide +kernel
theorem dL_law_822 : decode cL_law 822 = .ok (.ireturn, 1) := by decide +kernel
end
section
def mY (m : Nat) : MethodName := (cond (Nat.blt m 69) (cond (Nat.blt m 34) (cond (Nat.blt m 17) (cond (Nat.blt m 8) (cond (Nat.blt m 4) (cond (Nat.blt m 2) (cond (Nat.blt m 1) yX0_init yX0_length) (cond (Nat.blt m 3) yX0_keepState yX0_takeBack)) (cond (Nat.blt m 6) (cond (Nat.blt m 5) yX1_init yX1_charactersIn) (cond (Nat.blt m 7) yX1_length yX1_empty))) (cond (Nat.blt m 12) (cond (Nat.blt m 10) (cond (Nat.blt m 9) yX1_append yX1_firstWrong) (cond (Nat.blt m 11) yX1_writeTo yX1_kindOf)) (cond (Nat.blt m 14) (cond (Nat.blt m 13) yX2_init yX2_stepsDone) (cond (Nat.blt m 15) yX2_greatestLength (cond (Nat.blt m 16) yX2_doSteps yX2_lengthBehind))))) (cond (Nat.blt m 25) (cond (Nat.blt m 21) (cond (Nat.blt m 19) (cond (Nat.blt m 18) yX2_rewrite yX2_draftArgument) (cond (Nat.blt m 20) yX2_functionsWithin yX3_init)) (cond (Nat.blt m 23) (cond (Nat.blt m 22) yX3_get yX3_set) (cond (Nat.blt m 24) yX3_move yX4_init))) (cond (Nat.blt m 29) (cond (Nat.blt m 27) (cond (Nat.blt m 26) yX4_length yX4_kind) (cond (Nat.blt m 28) yX4_number yX4_clear)) (cond (Nat.blt m 31) (cond (Nat.blt m 30) yX4_append yX4_appendParts) (cond (Nat.blt m 32) yX4_duplicate (cond (Nat.blt m 33) yX4_duplicateState yX4_alikePartByPart)))))) (cond (Nat.blt m 51) (cond (Nat.blt m 42) (cond (Nat.blt m 38) (cond (Nat.blt m 36) (cond (Nat.blt m 35) yX4_partsOfKind yX4_greatestVariable) (cond (Nat.blt m 37) yX4_partsOfState yX5_init)) (cond (Nat.blt m 40) (cond (Nat.blt m 39) yX5_look yX5_term) (cond (Nat.blt m 41) yX5_behind yX5_around))) (cond (Nat.blt m 46) (cond (Nat.blt m 44) (cond (Nat.blt m 43) yX5_binder yX5_mostAround) (cond (Nat.blt m 45) yX5_reduciblePlaces yX5_next)) (cond (Nat.blt m 48) (cond (Nat.blt m 47) yX5_printed yX5_findEnds) (cond (Nat.blt m 49) yX5_findSurroundings (cond (Nat.blt m 50) yX5_surroundAs yX5_isReducible))))) (cond (Nat.blt m 60) (cond (Nat.blt m 55) (cond (Nat.blt m 53) (cond (Nat.blt m 52) yX5_firstInner yX5_sign) (cond (Nat.blt m 54) yX5_letter yX6_init)) (cond (Nat.blt m 57) (cond (Nat.blt m 56) yX6_read yX6_copy) (cond (Nat.blt m 58) yX6_apply (cond (Nat.blt m 59) yX6_bind yX6_step)))) (cond (Nat.blt m 64) (cond (Nat.blt m 62) (cond (Nat.blt m 61) yX6_run yX6_of) (cond (Nat.blt m 63) yX6_part yX6_named)) (cond (Nat.blt m 66) (cond (Nat.blt m 65) yX6_same yX6_count) (cond (Nat.blt m 67) yX6_ends (cond (Nat.blt m 68) yX6_agree yX6_most))))))) (cond (Nat.blt m 104) (cond (Nat.blt m 86) (cond (Nat.blt m 77) (cond (Nat.blt m 73) (cond (Nat.blt m 71) (cond (Nat.blt m 70) yX6_alike yX6_put) (cond (Nat.blt m 72) yX6_wipe yX6_fault)) (cond (Nat.blt m 75) (cond (Nat.blt m 74) yX6_undo yX6_save) (cond (Nat.blt m 76) yX6_restore yX6_isRegister))) (cond (Nat.blt m 81) (cond (Nat.blt m 79) (cond (Nat.blt m 78) yX6_isOrder yX6_isFuel) (cond (Nat.blt m 80) yX6_isSlot yX6_draftFunction)) (cond (Nat.blt m 83) (cond (Nat.blt m 82) yX6_registersAtRest yX7_init) (cond (Nat.blt m 84) yX7_moves (cond (Nat.blt m 85) yX7_within yX7_record))))) (cond (Nat.blt m 95) (cond (Nat.blt m 90) (cond (Nat.blt m 88) (cond (Nat.blt m 87) yX7_isRegister yX7_load) (cond (Nat.blt m 89) yX7_store yX7_kindAt)) (cond (Nat.blt m 92) (cond (Nat.blt m 91) yX7_numberAt yX7_findDepths) (cond (Nat.blt m 93) yX7_endOf (cond (Nat.blt m 94) yX7_isReducible yX7_hasReducible)))) (cond (Nat.blt m 99) (cond (Nat.blt m 97) (cond (Nat.blt m 96) yX7_canCome yX7_nextBy) (cond (Nat.blt m 98) yX7_gives yX7_givesArgument)) (cond (Nat.blt m 101) (cond (Nat.blt m 100) yX7_usesOf yX7_givesBody) (cond (Nat.blt m 102) yX7_goes (cond (Nat.blt m 103) yX7_goesOn yX7_read)))))) (cond (Nat.blt m 121) (cond (Nat.blt m 112) (cond (Nat.blt m 108) (cond (Nat.blt m 106) (cond (Nat.blt m 105) yX7_copy yX7_apply) (cond (Nat.blt m 107) yX7_bind yX7_step)) (cond (Nat.blt m 110) (cond (Nat.blt m 109) yX7_isRun yX7_run) (cond (Nat.blt m 111) yX7_ofKind yX7_deepest))) (cond (Nat.blt m 116) (cond (Nat.blt m 114) (cond (Nat.blt m 113) yX7_reducibleMany yX7_greatest) (cond (Nat.blt m 115) yX7_of yX7_binderOf)) (cond (Nat.blt m 118) (cond (Nat.blt m 117) yX7_part yX7_says) (cond (Nat.blt m 119) yX7_nameBy (cond (Nat.blt m 120) yX7_print yX7_named))))) (cond (Nat.blt m 130) (cond (Nat.blt m 125) (cond (Nat.blt m 123) (cond (Nat.blt m 122) yX7_same yX7_allParts) (cond (Nat.blt m 124) yX7_atRest yX7_count)) (cond (Nat.blt m 127) (cond (Nat.blt m 126) yX7_ends yX7_meet) (cond (Nat.blt m 128) yX7_agree (cond (Nat.blt m 129) yX7_most yX7_alike)))) (cond (Nat.blt m 134) (cond (Nat.blt m 132) (cond (Nat.blt m 131) yX7_put yX7_wipe) (cond (Nat.blt m 133) yX7_partBy yX7_findFault)) (cond (Nat.blt m 136) (cond (Nat.blt m 135) yX7_fault yX7_undo) (cond (Nat.blt m 137) yX7_save (cond (Nat.blt m 138) yX7_restore yL_law))))))))
def mcc (m : Nat) : ByteArray := (cond (Nat.blt m 69) (cond (Nat.blt m 34) (cond (Nat.blt m 17) (cond (Nat.blt m 8) (cond (Nat.blt m 4) (cond (Nat.blt m 2) (cond (Nat.blt m 1) cX0_init cX0_length) (cond (Nat.blt m 3) cX0_keepState cX0_takeBack)) (cond (Nat.blt m 6) (cond (Nat.blt m 5) cX1_init cX1_charactersIn) (cond (Nat.blt m 7) cX1_length cX1_empty))) (cond (Nat.blt m 12) (cond (Nat.blt m 10) (cond (Nat.blt m 9) cX1_append cX1_firstWrong) (cond (Nat.blt m 11) cX1_writeTo cX1_kindOf)) (cond (Nat.blt m 14) (cond (Nat.blt m 13) cX2_init cX2_stepsDone) (cond (Nat.blt m 15) cX2_greatestLength (cond (Nat.blt m 16) cX2_doSteps cX2_lengthBehind))))) (cond (Nat.blt m 25) (cond (Nat.blt m 21) (cond (Nat.blt m 19) (cond (Nat.blt m 18) cX2_rewrite cX2_draftArgument) (cond (Nat.blt m 20) cX2_functionsWithin cX3_init)) (cond (Nat.blt m 23) (cond (Nat.blt m 22) cX3_get cX3_set) (cond (Nat.blt m 24) cX3_move cX4_init))) (cond (Nat.blt m 29) (cond (Nat.blt m 27) (cond (Nat.blt m 26) cX4_length cX4_kind) (cond (Nat.blt m 28) cX4_number cX4_clear)) (cond (Nat.blt m 31) (cond (Nat.blt m 30) cX4_append cX4_appendParts) (cond (Nat.blt m 32) cX4_duplicate (cond (Nat.blt m 33) cX4_duplicateState cX4_alikePartByPart)))))) (cond (Nat.blt m 51) (cond (Nat.blt m 42) (cond (Nat.blt m 38) (cond (Nat.blt m 36) (cond (Nat.blt m 35) cX4_partsOfKind cX4_greatestVariable) (cond (Nat.blt m 37) cX4_partsOfState cX5_init)) (cond (Nat.blt m 40) (cond (Nat.blt m 39) cX5_look cX5_term) (cond (Nat.blt m 41) cX5_behind cX5_around))) (cond (Nat.blt m 46) (cond (Nat.blt m 44) (cond (Nat.blt m 43) cX5_binder cX5_mostAround) (cond (Nat.blt m 45) cX5_reduciblePlaces cX5_next)) (cond (Nat.blt m 48) (cond (Nat.blt m 47) cX5_printed cX5_findEnds) (cond (Nat.blt m 49) cX5_findSurroundings (cond (Nat.blt m 50) cX5_surroundAs cX5_isReducible))))) (cond (Nat.blt m 60) (cond (Nat.blt m 55) (cond (Nat.blt m 53) (cond (Nat.blt m 52) cX5_firstInner cX5_sign) (cond (Nat.blt m 54) cX5_letter cX6_init)) (cond (Nat.blt m 57) (cond (Nat.blt m 56) cX6_read cX6_copy) (cond (Nat.blt m 58) cX6_apply (cond (Nat.blt m 59) cX6_bind cX6_step)))) (cond (Nat.blt m 64) (cond (Nat.blt m 62) (cond (Nat.blt m 61) cX6_run cX6_of) (cond (Nat.blt m 63) cX6_part cX6_named)) (cond (Nat.blt m 66) (cond (Nat.blt m 65) cX6_same cX6_count) (cond (Nat.blt m 67) cX6_ends (cond (Nat.blt m 68) cX6_agree cX6_most))))))) (cond (Nat.blt m 104) (cond (Nat.blt m 86) (cond (Nat.blt m 77) (cond (Nat.blt m 73) (cond (Nat.blt m 71) (cond (Nat.blt m 70) cX6_alike cX6_put) (cond (Nat.blt m 72) cX6_wipe cX6_fault)) (cond (Nat.blt m 75) (cond (Nat.blt m 74) cX6_undo cX6_save) (cond (Nat.blt m 76) cX6_restore cX6_isRegister))) (cond (Nat.blt m 81) (cond (Nat.blt m 79) (cond (Nat.blt m 78) cX6_isOrder cX6_isFuel) (cond (Nat.blt m 80) cX6_isSlot cX6_draftFunction)) (cond (Nat.blt m 83) (cond (Nat.blt m 82) cX6_registersAtRest cX7_init) (cond (Nat.blt m 84) cX7_moves (cond (Nat.blt m 85) cX7_within cX7_record))))) (cond (Nat.blt m 95) (cond (Nat.blt m 90) (cond (Nat.blt m 88) (cond (Nat.blt m 87) cX7_isRegister cX7_load) (cond (Nat.blt m 89) cX7_store cX7_kindAt)) (cond (Nat.blt m 92) (cond (Nat.blt m 91) cX7_numberAt cX7_findDepths) (cond (Nat.blt m 93) cX7_endOf (cond (Nat.blt m 94) cX7_isReducible cX7_hasReducible)))) (cond (Nat.blt m 99) (cond (Nat.blt m 97) (cond (Nat.blt m 96) cX7_canCome cX7_nextBy) (cond (Nat.blt m 98) cX7_gives cX7_givesArgument)) (cond (Nat.blt m 101) (cond (Nat.blt m 100) cX7_usesOf cX7_givesBody) (cond (Nat.blt m 102) cX7_goes (cond (Nat.blt m 103) cX7_goesOn cX7_read)))))) (cond (Nat.blt m 121) (cond (Nat.blt m 112) (cond (Nat.blt m 108) (cond (Nat.blt m 106) (cond (Nat.blt m 105) cX7_copy cX7_apply) (cond (Nat.blt m 107) cX7_bind cX7_step)) (cond (Nat.blt m 110) (cond (Nat.blt m 109) cX7_isRun cX7_run) (cond (Nat.blt m 111) cX7_ofKind cX7_deepest))) (cond (Nat.blt m 116) (cond (Nat.blt m 114) (cond (Nat.blt m 113) cX7_reducibleMany cX7_greatest) (cond (Nat.blt m 115) cX7_of cX7_binderOf)) (cond (Nat.blt m 118) (cond (Nat.blt m 117) cX7_part cX7_says) (cond (Nat.blt m 119) cX7_nameBy (cond (Nat.blt m 120) cX7_print cX7_named))))) (cond (Nat.blt m 130) (cond (Nat.blt m 125) (cond (Nat.blt m 123) (cond (Nat.blt m 122) cX7_same cX7_allParts) (cond (Nat.blt m 124) cX7_atRest cX7_count)) (cond (Nat.blt m 127) (cond (Nat.blt m 126) cX7_ends cX7_meet) (cond (Nat.blt m 128) cX7_agree (cond (Nat.blt m 129) cX7_most cX7_alike)))) (cond (Nat.blt m 134) (cond (Nat.blt m 132) (cond (Nat.blt m 131) cX7_put cX7_wipe) (cond (Nat.blt m 133) cX7_partBy cX7_findFault)) (cond (Nat.blt m 136) (cond (Nat.blt m 135) cX7_fault cX7_undo) (cond (Nat.blt m 137) cX7_save (cond (Nat.blt m 138) cX7_restore cL_law))))))))
def mml (m : Nat) : Nat := (cond (Nat.blt m 69) (cond (Nat.blt m 34) (cond (Nat.blt m 17) (cond (Nat.blt m 8) (cond (Nat.blt m 4) (cond (Nat.blt m 2) (cond (Nat.blt m 1) 2 1) (cond (Nat.blt m 3) 1 1)) (cond (Nat.blt m 6) (cond (Nat.blt m 5) 1 7) (cond (Nat.blt m 7) 1 1))) (cond (Nat.blt m 12) (cond (Nat.blt m 10) (cond (Nat.blt m 9) 5 6) (cond (Nat.blt m 11) 7 1)) (cond (Nat.blt m 14) (cond (Nat.blt m 13) 3 1) (cond (Nat.blt m 15) 1 (cond (Nat.blt m 16) 6 7))))) (cond (Nat.blt m 25) (cond (Nat.blt m 21) (cond (Nat.blt m 19) (cond (Nat.blt m 18) 8 9) (cond (Nat.blt m 20) 3 2)) (cond (Nat.blt m 23) (cond (Nat.blt m 22) 2 3) (cond (Nat.blt m 24) 5 1))) (cond (Nat.blt m 29) (cond (Nat.blt m 27) (cond (Nat.blt m 26) 2 3) (cond (Nat.blt m 28) 3 2)) (cond (Nat.blt m 31) (cond (Nat.blt m 30) 5 7) (cond (Nat.blt m 32) 3 (cond (Nat.blt m 33) 4 4)))))) (cond (Nat.blt m 51) (cond (Nat.blt m 42) (cond (Nat.blt m 38) (cond (Nat.blt m 36) (cond (Nat.blt m 35) 5 4) (cond (Nat.blt m 37) 4 2)) (cond (Nat.blt m 40) (cond (Nat.blt m 39) 2 1) (cond (Nat.blt m 41) 2 2))) (cond (Nat.blt m 46) (cond (Nat.blt m 44) (cond (Nat.blt m 43) 5 3) (cond (Nat.blt m 45) 3 3)) (cond (Nat.blt m 48) (cond (Nat.blt m 47) 4 4) (cond (Nat.blt m 49) 3 (cond (Nat.blt m 50) 3 2))))) (cond (Nat.blt m 60) (cond (Nat.blt m 55) (cond (Nat.blt m 53) (cond (Nat.blt m 52) 3 3) (cond (Nat.blt m 54) 1 2)) (cond (Nat.blt m 57) (cond (Nat.blt m 56) 2 3) (cond (Nat.blt m 58) 4 (cond (Nat.blt m 59) 5 4)))) (cond (Nat.blt m 64) (cond (Nat.blt m 62) (cond (Nat.blt m 61) 4 3) (cond (Nat.blt m 63) 4 3)) (cond (Nat.blt m 66) (cond (Nat.blt m 65) 3 2) (cond (Nat.blt m 67) 4 (cond (Nat.blt m 68) 3 4))))))) (cond (Nat.blt m 104) (cond (Nat.blt m 86) (cond (Nat.blt m 77) (cond (Nat.blt m 73) (cond (Nat.blt m 71) (cond (Nat.blt m 70) 4 4) (cond (Nat.blt m 72) 2 1)) (cond (Nat.blt m 75) (cond (Nat.blt m 74) 1 2) (cond (Nat.blt m 76) 2 1))) (cond (Nat.blt m 81) (cond (Nat.blt m 79) (cond (Nat.blt m 78) 1 1) (cond (Nat.blt m 80) 1 7)) (cond (Nat.blt m 83) (cond (Nat.blt m 82) 3 2) (cond (Nat.blt m 84) 6 (cond (Nat.blt m 85) 3 2))))) (cond (Nat.blt m 95) (cond (Nat.blt m 90) (cond (Nat.blt m 88) (cond (Nat.blt m 87) 1 2) (cond (Nat.blt m 89) 3 2)) (cond (Nat.blt m 92) (cond (Nat.blt m 91) 2 4) (cond (Nat.blt m 93) 4 (cond (Nat.blt m 94) 2 5)))) (cond (Nat.blt m 99) (cond (Nat.blt m 97) (cond (Nat.blt m 96) 3 3) (cond (Nat.blt m 98) 2 6)) (cond (Nat.blt m 101) (cond (Nat.blt m 100) 5 7) (cond (Nat.blt m 102) 8 (cond (Nat.blt m 103) 6 3)))))) (cond (Nat.blt m 121) (cond (Nat.blt m 112) (cond (Nat.blt m 108) (cond (Nat.blt m 106) (cond (Nat.blt m 105) 3 5) (cond (Nat.blt m 107) 7 4)) (cond (Nat.blt m 110) (cond (Nat.blt m 109) 2 5) (cond (Nat.blt m 111) 4 3))) (cond (Nat.blt m 116) (cond (Nat.blt m 114) (cond (Nat.blt m 113) 3 3) (cond (Nat.blt m 115) 3 5)) (cond (Nat.blt m 118) (cond (Nat.blt m 117) 4 2) (cond (Nat.blt m 119) 1 (cond (Nat.blt m 120) 2 3))))) (cond (Nat.blt m 130) (cond (Nat.blt m 125) (cond (Nat.blt m 123) (cond (Nat.blt m 122) 5 3) (cond (Nat.blt m 124) 3 2)) (cond (Nat.blt m 127) (cond (Nat.blt m 126) 5 8) (cond (Nat.blt m 128) 3 (cond (Nat.blt m 129) 7 4)))) (cond (Nat.blt m 134) (cond (Nat.blt m 132) (cond (Nat.blt m 131) 8 2) (cond (Nat.blt m 133) 1 5)) (cond (Nat.blt m 136) (cond (Nat.blt m 135) 1 1) (cond (Nat.blt m 137) 2 (cond (Nat.blt m 138) 2 4))))))))
def mret (m : Nat) : Option FieldType := (cond (Nat.blt m 69) (cond (Nat.blt m 34) (cond (Nat.blt m 17) (cond (Nat.blt m 8) (cond (Nat.blt m 4) (cond (Nat.blt m 2) (cond (Nat.blt m 1) none (some .int)) (cond (Nat.blt m 3) none none)) (cond (Nat.blt m 6) (cond (Nat.blt m 5) none (some .int)) (cond (Nat.blt m 7) (some .int) none))) (cond (Nat.blt m 12) (cond (Nat.blt m 10) (cond (Nat.blt m 9) none (some .int)) (cond (Nat.blt m 11) none (some .int))) (cond (Nat.blt m 14) (cond (Nat.blt m 13) none (some .int)) (cond (Nat.blt m 15) (some .int) (cond (Nat.blt m 16) (some .boolean) (some .int)))))) (cond (Nat.blt m 25) (cond (Nat.blt m 21) (cond (Nat.blt m 19) (cond (Nat.blt m 18) none none) (cond (Nat.blt m 20) (some .int) none)) (cond (Nat.blt m 23) (cond (Nat.blt m 22) (some .int) none) (cond (Nat.blt m 24) none none))) (cond (Nat.blt m 29) (cond (Nat.blt m 27) (cond (Nat.blt m 26) (some .int) (some .int)) (cond (Nat.blt m 28) (some .int) none)) (cond (Nat.blt m 31) (cond (Nat.blt m 30) none none) (cond (Nat.blt m 32) none (cond (Nat.blt m 33) none (some .boolean))))))) (cond (Nat.blt m 51) (cond (Nat.blt m 42) (cond (Nat.blt m 38) (cond (Nat.blt m 36) (cond (Nat.blt m 35) (some .int) (some .int)) (cond (Nat.blt m 37) (some .int) none)) (cond (Nat.blt m 40) (cond (Nat.blt m 39) none (some .int)) (cond (Nat.blt m 41) (some .int) (some .int)))) (cond (Nat.blt m 46) (cond (Nat.blt m 44) (cond (Nat.blt m 43) (some .int) (some .int)) (cond (Nat.blt m 45) (some .int) (some .int))) (cond (Nat.blt m 48) (cond (Nat.blt m 47) (some .int) none) (cond (Nat.blt m 49) none (cond (Nat.blt m 50) none (some .boolean)))))) (cond (Nat.blt m 60) (cond (Nat.blt m 55) (cond (Nat.blt m 53) (cond (Nat.blt m 52) (some .int) (some .int)) (cond (Nat.blt m 54) (some .int) none)) (cond (Nat.blt m 57) (cond (Nat.blt m 56) (some .int) (some .int)) (cond (Nat.blt m 58) (some .int) (cond (Nat.blt m 59) (some .int) (some .int))))) (cond (Nat.blt m 64) (cond (Nat.blt m 62) (cond (Nat.blt m 61) (some .int) (some .int)) (cond (Nat.blt m 63) (some .int) (some .int))) (cond (Nat.blt m 66) (cond (Nat.blt m 65) (some .int) (some .int)) (cond (Nat.blt m 67) (some .int) (cond (Nat.blt m 68) (some .int) (some .int)))))))) (cond (Nat.blt m 104) (cond (Nat.blt m 86) (cond (Nat.blt m 77) (cond (Nat.blt m 73) (cond (Nat.blt m 71) (cond (Nat.blt m 70) (some .int) (some .int)) (cond (Nat.blt m 72) (some .int) (some .int))) (cond (Nat.blt m 75) (cond (Nat.blt m 74) (some .int) (some .int)) (cond (Nat.blt m 76) (some .int) (some .boolean)))) (cond (Nat.blt m 81) (cond (Nat.blt m 79) (cond (Nat.blt m 78) (some .boolean) (some .boolean)) (cond (Nat.blt m 80) (some .boolean) (some .int))) (cond (Nat.blt m 83) (cond (Nat.blt m 82) (some .int) none) (cond (Nat.blt m 84) none (cond (Nat.blt m 85) (some .boolean) none))))) (cond (Nat.blt m 95) (cond (Nat.blt m 90) (cond (Nat.blt m 88) (cond (Nat.blt m 87) (some .boolean) none) (cond (Nat.blt m 89) none (some .int))) (cond (Nat.blt m 92) (cond (Nat.blt m 91) (some .int) none) (cond (Nat.blt m 93) (some .int) (cond (Nat.blt m 94) (some .boolean) (some .boolean))))) (cond (Nat.blt m 99) (cond (Nat.blt m 97) (cond (Nat.blt m 96) (some .boolean) (some .int)) (cond (Nat.blt m 98) none none)) (cond (Nat.blt m 101) (cond (Nat.blt m 100) (some .int) none) (cond (Nat.blt m 102) (some .int) (cond (Nat.blt m 103) (some .int) (some .int))))))) (cond (Nat.blt m 121) (cond (Nat.blt m 112) (cond (Nat.blt m 108) (cond (Nat.blt m 106) (cond (Nat.blt m 105) (some .int) (some .int)) (cond (Nat.blt m 107) (some .int) (some .int))) (cond (Nat.blt m 110) (cond (Nat.blt m 109) (some .boolean) (some .int)) (cond (Nat.blt m 111) (some .int) (some .int)))) (cond (Nat.blt m 116) (cond (Nat.blt m 114) (cond (Nat.blt m 113) (some .int) (some .int)) (cond (Nat.blt m 115) (some .int) (some .int))) (cond (Nat.blt m 118) (cond (Nat.blt m 117) (some .int) none) (cond (Nat.blt m 119) (some .int) (cond (Nat.blt m 120) none (some .int)))))) (cond (Nat.blt m 130) (cond (Nat.blt m 125) (cond (Nat.blt m 123) (cond (Nat.blt m 122) (some .int) (some .int)) (cond (Nat.blt m 124) (some .int) (some .int))) (cond (Nat.blt m 127) (cond (Nat.blt m 126) (some .int) (some .int)) (cond (Nat.blt m 128) (some .int) (cond (Nat.blt m 129) (some .int) (some .int))))) (cond (Nat.blt m 134) (cond (Nat.blt m 132) (cond (Nat.blt m 131) (some .int) (some .int)) (cond (Nat.blt m 133) (some .int) (some .int))) (cond (Nat.blt m 136) (cond (Nat.blt m 135) (some .int) (some .int)) (cond (Nat.blt m 137) (some .int) (cond (Nat.blt m 138) (some .int) ret))))))))
def mfr (m : Nat) : Nat := (cond (Nat.blt m 69) (cond (Nat.blt m 34) (cond (Nat.blt m 17) (cond (Nat.blt m 8) (cond (Nat.blt m 4) (cond (Nat.blt m 2) (cond (Nat.blt m 1) 1 0) (cond (Nat.blt m 3) 5 5)) (cond (Nat.blt m 6) (cond (Nat.blt m 5) 2 0) (cond (Nat.blt m 7) 0 0))) (cond (Nat.blt m 12) (cond (Nat.blt m 10) (cond (Nat.blt m 9) 1 1) (cond (Nat.blt m 11) 2 0)) (cond (Nat.blt m 14) (cond (Nat.blt m 13) 1 0) (cond (Nat.blt m 15) 0 (cond (Nat.blt m 16) 5 3))))) (cond (Nat.blt m 25) (cond (Nat.blt m 21) (cond (Nat.blt m 19) (cond (Nat.blt m 18) 4 2) (cond (Nat.blt m 20) 2 1)) (cond (Nat.blt m 23) (cond (Nat.blt m 22) 0 0) (cond (Nat.blt m 24) 1 2))) (cond (Nat.blt m 29) (cond (Nat.blt m 27) (cond (Nat.blt m 26) 1 1) (cond (Nat.blt m 28) 1 1)) (cond (Nat.blt m 31) (cond (Nat.blt m 30) 1 2) (cond (Nat.blt m 32) 3 (cond (Nat.blt m 33) 4 2)))))) (cond (Nat.blt m 51) (cond (Nat.blt m 42) (cond (Nat.blt m 38) (cond (Nat.blt m 36) (cond (Nat.blt m 35) 2 2) (cond (Nat.blt m 37) 2 2)) (cond (Nat.blt m 40) (cond (Nat.blt m 39) 3 0) (cond (Nat.blt m 41) 1 1))) (cond (Nat.blt m 46) (cond (Nat.blt m 44) (cond (Nat.blt m 43) 2 2) (cond (Nat.blt m 45) 3 4)) (cond (Nat.blt m 48) (cond (Nat.blt m 47) 3 2) (cond (Nat.blt m 49) 2 (cond (Nat.blt m 50) 1 2))))) (cond (Nat.blt m 60) (cond (Nat.blt m 55) (cond (Nat.blt m 53) (cond (Nat.blt m 52) 3 2) (cond (Nat.blt m 54) 0 3)) (cond (Nat.blt m 57) (cond (Nat.blt m 56) 6 6) (cond (Nat.blt m 58) 6 (cond (Nat.blt m 59) 6 6)))) (cond (Nat.blt m 64) (cond (Nat.blt m 62) (cond (Nat.blt m 61) 6 5) (cond (Nat.blt m 63) 4 4)) (cond (Nat.blt m 66) (cond (Nat.blt m 65) 3 6) (cond (Nat.blt m 67) 6 (cond (Nat.blt m 68) 6 6))))))) (cond (Nat.blt m 104) (cond (Nat.blt m 86) (cond (Nat.blt m 77) (cond (Nat.blt m 73) (cond (Nat.blt m 71) (cond (Nat.blt m 70) 6 2) (cond (Nat.blt m 72) 1 2)) (cond (Nat.blt m 75) (cond (Nat.blt m 74) 6 5) (cond (Nat.blt m 76) 6 0))) (cond (Nat.blt m 81) (cond (Nat.blt m 79) (cond (Nat.blt m 78) 0 0) (cond (Nat.blt m 80) 0 4)) (cond (Nat.blt m 83) (cond (Nat.blt m 82) 5 1) (cond (Nat.blt m 84) 0 (cond (Nat.blt m 85) 0 1))))) (cond (Nat.blt m 95) (cond (Nat.blt m 90) (cond (Nat.blt m 88) (cond (Nat.blt m 87) 1 2) (cond (Nat.blt m 89) 0 0)) (cond (Nat.blt m 92) (cond (Nat.blt m 91) 0 1) (cond (Nat.blt m 93) 1 (cond (Nat.blt m 94) 1 2)))) (cond (Nat.blt m 99) (cond (Nat.blt m 97) (cond (Nat.blt m 96) 3 4) (cond (Nat.blt m 98) 0 1)) (cond (Nat.blt m 101) (cond (Nat.blt m 100) 1 2) (cond (Nat.blt m 102) 5 (cond (Nat.blt m 103) 6 3)))))) (cond (Nat.blt m 121) (cond (Nat.blt m 112) (cond (Nat.blt m 108) (cond (Nat.blt m 106) (cond (Nat.blt m 105) 3 2) (cond (Nat.blt m 107) 3 6)) (cond (Nat.blt m 110) (cond (Nat.blt m 109) 1 7) (cond (Nat.blt m 111) 1 0))) (cond (Nat.blt m 116) (cond (Nat.blt m 114) (cond (Nat.blt m 113) 2 1) (cond (Nat.blt m 115) 5 2)) (cond (Nat.blt m 118) (cond (Nat.blt m 117) 3 0) (cond (Nat.blt m 119) 0 (cond (Nat.blt m 120) 1 3))))) (cond (Nat.blt m 130) (cond (Nat.blt m 125) (cond (Nat.blt m 123) (cond (Nat.blt m 122) 2 0) (cond (Nat.blt m 124) 5 6)) (cond (Nat.blt m 127) (cond (Nat.blt m 126) 7 7) (cond (Nat.blt m 128) 8 (cond (Nat.blt m 129) 6 8)))) (cond (Nat.blt m 134) (cond (Nat.blt m 132) (cond (Nat.blt m 131) 1 0) (cond (Nat.blt m 133) 1 2)) (cond (Nat.blt m 136) (cond (Nat.blt m 135) 3 1) (cond (Nat.blt m 137) 1 (cond (Nat.blt m 138) 2 9))))))))
def mlo (m : Nat) : Nat := (cond (Nat.blt m 69) (cond (Nat.blt m 34) (cond (Nat.blt m 17) (cond (Nat.blt m 8) (cond (Nat.blt m 4) (cond (Nat.blt m 2) (cond (Nat.blt m 1) 20 0) (cond (Nat.blt m 3) 121 121)) (cond (Nat.blt m 6) (cond (Nat.blt m 5) 42 0) (cond (Nat.blt m 7) 0 0))) (cond (Nat.blt m 12) (cond (Nat.blt m 10) (cond (Nat.blt m 9) 22 22) (cond (Nat.blt m 11) 46 0)) (cond (Nat.blt m 14) (cond (Nat.blt m 13) 20 0) (cond (Nat.blt m 15) 0 (cond (Nat.blt m 16) 125 64))))) (cond (Nat.blt m 25) (cond (Nat.blt m 21) (cond (Nat.blt m 19) (cond (Nat.blt m 18) 98 46) (cond (Nat.blt m 20) 42 21)) (cond (Nat.blt m 23) (cond (Nat.blt m 22) 0 0) (cond (Nat.blt m 24) 26 42))) (cond (Nat.blt m 29) (cond (Nat.blt m 27) (cond (Nat.blt m 26) 21 21) (cond (Nat.blt m 28) 21 22)) (cond (Nat.blt m 31) (cond (Nat.blt m 30) 22 50) (cond (Nat.blt m 32) 76 (cond (Nat.blt m 33) 98 42)))))) (cond (Nat.blt m 51) (cond (Nat.blt m 42) (cond (Nat.blt m 38) (cond (Nat.blt m 36) (cond (Nat.blt m 35) 43 43) (cond (Nat.blt m 37) 42 42)) (cond (Nat.blt m 40) (cond (Nat.blt m 39) 66 0) (cond (Nat.blt m 41) 21 21))) (cond (Nat.blt m 46) (cond (Nat.blt m 44) (cond (Nat.blt m 43) 43 42) (cond (Nat.blt m 45) 64 86)) (cond (Nat.blt m 48) (cond (Nat.blt m 47) 65 43) (cond (Nat.blt m 49) 44 (cond (Nat.blt m 50) 22 43))))) (cond (Nat.blt m 60) (cond (Nat.blt m 55) (cond (Nat.blt m 53) (cond (Nat.blt m 52) 64 43) (cond (Nat.blt m 54) 0 63)) (cond (Nat.blt m 57) (cond (Nat.blt m 56) 141 141) (cond (Nat.blt m 58) 141 (cond (Nat.blt m 59) 141 141)))) (cond (Nat.blt m 64) (cond (Nat.blt m 62) (cond (Nat.blt m 61) 150 108) (cond (Nat.blt m 63) 87 88)) (cond (Nat.blt m 66) (cond (Nat.blt m 65) 65 130) (cond (Nat.blt m 67) 150 (cond (Nat.blt m 68) 150 150))))))) (cond (Nat.blt m 104) (cond (Nat.blt m 86) (cond (Nat.blt m 77) (cond (Nat.blt m 73) (cond (Nat.blt m 71) (cond (Nat.blt m 70) 150 46) (cond (Nat.blt m 72) 20 47)) (cond (Nat.blt m 75) (cond (Nat.blt m 74) 141 121) (cond (Nat.blt m 76) 141 0))) (cond (Nat.blt m 81) (cond (Nat.blt m 79) (cond (Nat.blt m 78) 0 0) (cond (Nat.blt m 80) 0 87)) (cond (Nat.blt m 83) (cond (Nat.blt m 82) 108 20) (cond (Nat.blt m 84) 0 (cond (Nat.blt m 85) 0 25))))) (cond (Nat.blt m 95) (cond (Nat.blt m 90) (cond (Nat.blt m 88) (cond (Nat.blt m 87) 22 44) (cond (Nat.blt m 89) 0 0)) (cond (Nat.blt m 92) (cond (Nat.blt m 91) 0 21) (cond (Nat.blt m 93) 21 (cond (Nat.blt m 94) 21 42)))) (cond (Nat.blt m 99) (cond (Nat.blt m 97) (cond (Nat.blt m 96) 66 88) (cond (Nat.blt m 98) 0 21)) (cond (Nat.blt m 101) (cond (Nat.blt m 100) 21 46) (cond (Nat.blt m 102) 110 (cond (Nat.blt m 103) 137 66)))))) (cond (Nat.blt m 121) (cond (Nat.blt m 112) (cond (Nat.blt m 108) (cond (Nat.blt m 106) (cond (Nat.blt m 105) 65 46) (cond (Nat.blt m 107) 65 137)) (cond (Nat.blt m 110) (cond (Nat.blt m 109) 22 162) (cond (Nat.blt m 111) 21 0))) (cond (Nat.blt m 116) (cond (Nat.blt m 114) (cond (Nat.blt m 113) 42 21) (cond (Nat.blt m 115) 110 44)) (cond (Nat.blt m 118) (cond (Nat.blt m 117) 68 0) (cond (Nat.blt m 119) 0 (cond (Nat.blt m 120) 21 65))))) (cond (Nat.blt m 130) (cond (Nat.blt m 125) (cond (Nat.blt m 123) (cond (Nat.blt m 122) 42 0) (cond (Nat.blt m 124) 110 132)) (cond (Nat.blt m 127) (cond (Nat.blt m 126) 162 162) (cond (Nat.blt m 128) 189 (cond (Nat.blt m 129) 137 189)))) (cond (Nat.blt m 134) (cond (Nat.blt m 132) (cond (Nat.blt m 131) 22 0) (cond (Nat.blt m 133) 22 42)) (cond (Nat.blt m 136) (cond (Nat.blt m 135) 66 25) (cond (Nat.blt m 137) 25 (cond (Nat.blt m 138) 46 212))))))))
abbrev mL : Nat := 138
end
section
/-! THE SMALL MACHINE: a memory is a list of cells, a reference is a cell's place in it; m_run runs a method; m_sound: what m_run does, the machine does -/
abbrev mC : Type := (Nat × (Nat → Int32)) ⊕ (Nat × List Value)
abbrev mM : Type := List mC
abbrev mR : Type := (Nat × List Value × List Value × mM) ⊕ ((Nat × List Value × Nat × List Value × List Value) ⊕ Option Value)
abbrev mA : Type := List Value → List Value → mM → Option mR
abbrev m_nx (pc : Nat) (ls st : List Value) (M : mM) : Option mR := some (.inl (pc, ls, st, M))
abbrev m_cl (m : Nat) (as : List Value) (pc : Nat) (ls st : List Value) : Option mR := some (.inr (.inl (m, as, pc, ls, st)))
abbrev m_rt (v : Option Value) : Option mR := some (.inr (.inr v))
def m_entL : List Value → List Value
  | [] => []
  | v :: vs => if v.category = 2 then v :: .null :: m_entL vs else v :: m_entL vs
def m_ent (as : List Value) (n : Nat) : List Value := m_entL as ++ List.replicate (n - (m_entL as).length) .null
def m_run (act : Nat → Nat → mA) : Nat → Nat → Nat → List Value → List Value → mM → Option (Option Value × mM)
  | 0, _, _, _, _, _ => none
  | n + 1, m, pc, ls, st, M => match act m pc ls st M with
    | none => none
    | some (.inl (pc', ls', st', M')) => m_run act n m pc' ls' st' M'
    | some (.inr (.inl (m', as, pc', ls', st'))) => match m_run act n m' 0 (m_ent as (mml m')) [] M with
      | none => none
      | some (v, M1) => m_run act n m pc' ls' (v.toList ++ st') M1
    | some (.inr (.inr v)) => some (v, M)
def m_sc (c : mC) : Nat := match c with
  | .inl a => a.1
  | .inr o => o.2.length
def m_sz (M : mM) : Nat := (M.map m_sc).sum
def m_ok (n : Nat) (v : Value) : Prop := match v with
  | .ref k => k < n
  | _ => True
def m_okC (n : Nat) (c : mC) : Prop := match c with
  | .inl _ => True
  | .inr o => ∀ v ∈ o.2, m_ok n v
def m_okM (M : mM) : Prop := ∀ c ∈ M, m_okC M.length c
def m_okV (M : mM) (vs : List Value) : Prop := ∀ v ∈ vs, m_ok M.length v
theorem m_ok.mono {n n' : Nat} {v : Value} (h : m_ok n v) (hn : n ≤ n') : m_ok n' v := by
  cases v <;> first | trivial | exact Nat.lt_of_lt_of_le h hn
theorem m_okV.mono {M M' : mM} {vs : List Value} (h : m_okV M vs) (hn : M.length ≤ M'.length) : m_okV M' vs := fun v hv => (h v hv).mono hn
def m_cv (b : Nat) (ad : Nat → Nat) (v : Value) : Value := match v with
  | .ref k => .ref (ad k)
  | .float _ => .ref b
  | v => v
theorem m_cv_cat (b : Nat) (ad : Nat → Nat) (v : Value) : (m_cv b ad v).category = v.category := by cases v <;> rfl
theorem m_cv_congr {b : Nat} {ad ad' : Nat → Nat} {n : Nat} (h : ∀ k, k < n → ad' k = ad k) {v : Value} (hv : m_ok n v) : m_cv b ad' v = m_cv b ad v := by
  cases v <;> first | rfl | exact congrArg Value.ref (h _ hv)
theorem m_cv_map {b : Nat} {ad ad' : Nat → Nat} {n : Nat} (h : ∀ k, k < n → ad' k = ad k) {vs : List Value} (hv : ∀ v ∈ vs, m_ok n v) : vs.map (m_cv b ad') = vs.map (m_cv b ad) :=
  List.map_congr_left fun v hm => m_cv_congr h (hv v hm)
def m_ce (b : Nat) (ad : Nat → Nat) (cA : ClassId) (c : mC) : va_E := match c with
  | .inl a => .inl (cA, a.1, .inl a.2)
  | .inr o => .inr (o.1, o.2.map (m_cv b ad))
def m_ws (b : Nat) (ad : Nat → Nat) (cA : ClassId) (M : mM) : va_W := M.mapIdx fun k c => (ad k, m_ce b ad cA c)
theorem m_ws_at {b : Nat} {ad : Nat → Nat} {cA : ClassId} {M : mM} {k : Nat} {c : mC} (h : M[k]? = some c) : (m_ws b ad cA M)[k]? = some (ad k, m_ce b ad cA c) := by
  simp [m_ws, List.getElem?_mapIdx, h]
theorem m_ws_of {b : Nat} {ad : Nat → Nat} {cA : ClassId} {M : mM} {k : Nat} {q : Nat × va_E} (h : (m_ws b ad cA M)[k]? = some q) : ∃ c, M[k]? = some c ∧ q = (ad k, m_ce b ad cA c) := by
  simp only [m_ws, List.getElem?_mapIdx] at h
  cases hc : M[k]? with
  | none => rw [hc] at h; cases h
  | some c => rw [hc] at h; exact ⟨c, rfl, (Option.some.inj h).symm⟩
theorem m_ws_set (b : Nat) (ad : Nat → Nat) (cA : ClassId) (M : mM) (k : Nat) (c : mC) : m_ws b ad cA (M.set k c) = (m_ws b ad cA M).set k (ad k, m_ce b ad cA c) := by
  simp [m_ws, List.mapIdx_set]
theorem m_ws_push (b : Nat) (ad : Nat → Nat) (cA : ClassId) (M : mM) (c : mC) : m_ws b ad cA (M ++ [c]) = m_ws b ad cA M ++ [(ad M.length, m_ce b ad cA c)] := by
  simp [m_ws, List.mapIdx_append]
theorem m_ce_congr {b : Nat} {ad ad' : Nat → Nat} {cA : ClassId} {n : Nat} (h : ∀ k, k < n → ad' k = ad k) {c : mC} (hc : m_okC n c) : m_ce b ad' cA c = m_ce b ad cA c := by
  cases c with
  | inl a => rfl
  | inr o => exact congrArg (fun z => (Sum.inr (o.1, z) : va_E)) (m_cv_map h hc)
theorem m_ws_congr {b : Nat} {ad ad' : Nat → Nat} {cA : ClassId} {M : mM} (h : ∀ k, k < M.length → ad' k = ad k) (hM : m_okM M) : m_ws b ad' cA M = m_ws b ad cA M := by
  apply List.ext_getElem?
  intro k
  simp only [m_ws, List.getElem?_mapIdx]
  cases hc : M[k]? with
  | none => rfl
  | some c =>
    have hl := (List.getElem?_eq_some_iff.mp hc).1
    simp only [Option.map_some]
    rw [h k hl, m_ce_congr h (hM c (List.mem_of_getElem? hc))]
def m_prs (b : Nat) (ad : Nat → Nat) (ls : List Value) : List (Nat × Value) := ls.zipIdx.filterMap fun q => if q.1 = .null ∨ (q.1.category = 2 ∧ ls[q.2 + 1]? ≠ some .null) then none else some (q.2, m_cv b ad q.1)
theorem m_prs_mem {b : Nat} {ad : Nat → Nat} {ls : List Value} {q : Nat × Value} : q ∈ m_prs b ad ls ↔ ∃ v, ls[q.1]? = some v ∧ v ≠ .null ∧ (v.category = 2 → ls[q.1 + 1]? = some .null) ∧ q.2 = m_cv b ad v := by
  unfold m_prs
  rw [List.mem_filterMap]
  constructor
  · rintro ⟨⟨v, k⟩, h1, h2⟩
    have h3 := List.mk_mem_zipIdx_iff_getElem?.mp h1
    by_cases hv : v = .null ∨ (v.category = 2 ∧ ls[k + 1]? ≠ some .null)
    · rw [if_pos hv] at h2
      cases h2
    · rw [if_neg hv] at h2
      cases h2
      exact ⟨v, h3, fun e => hv (Or.inl e), fun e => Classical.byContradiction fun z => hv (Or.inr ⟨e, z⟩), rfl⟩
  · rintro ⟨v, h1, h2, h3, h4⟩
    obtain ⟨k, w⟩ := q
    refine ⟨(v, k), List.mk_mem_zipIdx_iff_getElem?.mpr h1, ?_⟩
    rw [if_neg (fun z => z.elim h2 fun z => z.2 (h3 z.1))]
    exact congrArg some (Prod.ext rfl h4.symm)
def m_LR (b : Nat) (ad : Nat → Nat) (lsA : Array Slot) (nL : Nat) (ls : List Value) : Prop := ls.length = nL ∧ lv_has lsA nL (m_prs b ad ls)
theorem m_LR.get {b : Nat} {ad : Nat → Nat} {lsA : Array Slot} {nL : Nat} {ls : List Value} (h : m_LR b ad lsA nL ls) {k : Nat} {v : Value} (hk : ls[k]? = some v) (hv : v ≠ .null) (hc : v.category = 2 → ls[k + 1]? = some .null) : lsA[k]? = some (.val (m_cv b ad v)) :=
  h.2.2.2 (k, m_cv b ad v) (m_prs_mem.mpr ⟨v, hk, hv, hc, rfl⟩)
theorem m_LR.congr {b : Nat} {ad ad' : Nat → Nat} {lsA : Array Slot} {nL n : Nat} {ls : List Value} (h : m_LR b ad lsA nL ls) (ha : ∀ k, k < n → ad' k = ad k) (hl : ∀ v ∈ ls, m_ok n v) : m_LR b ad' lsA nL ls := by
  refine ⟨h.1, h.2.1, h.2.2.1, fun q hq => ?_⟩
  obtain ⟨v, h1, h2, h3, h4⟩ := m_prs_mem.mp hq
  refine h.2.2.2 q (m_prs_mem.mpr ⟨v, h1, h2, h3, ?_⟩)
  rw [h4, m_cv_congr ha (hl v (List.mem_of_getElem? h1))]
theorem m_set_lt {α : Type} {ls : List α} {k i : Nat} {v w : α} (h : (ls.set k v)[i]? = some w) : i < ls.length := by
  have := (List.getElem?_eq_some_iff.mp h).1
  rwa [List.length_set] at this
theorem m_LR.set1 {b : Nat} {ad : Nat → Nat} {lsA : Array Slot} {nL k : Nat} {ls : List Value} {v : Value} (h : m_LR b ad lsA nL ls) (hn : v ≠ .null) {ls' : Array Slot} (h' : lv_has ls' nL ((k, m_cv b ad v) :: (m_prs b ad ls).filter (fun q => !(q.1 == k) && !(q.1 + 1 == k && q.2.category == 2)))) : m_LR b ad ls' nL (ls.set k v) := by
  refine ⟨by rw [List.length_set]; exact h.1, h'.1, h'.2.1, fun q hq => ?_⟩
  obtain ⟨w, h1, h2, h5, h3⟩ := m_prs_mem.mp hq
  refine h'.2.2 q ?_
  by_cases hk : q.1 = k
  · have hl := m_set_lt h1
    rw [hk] at hl
    rw [hk, List.getElem?_set_self hl] at h1
    cases h1
    exact List.mem_cons.mpr (Or.inl (Prod.ext hk h3))
  · rw [List.getElem?_set_ne (Ne.symm hk)] at h1
    have h4 : (q.1 == k) = false := by simpa using hk
    have h6 : w.category = 2 → ls[q.1 + 1]? = some .null ∧ ¬ q.1 + 1 = k := fun z => by
      have z1 := h5 z
      by_cases z2 : q.1 + 1 = k
      · have hl := m_set_lt z1
        rw [z2] at hl z1
        rw [List.getElem?_set_self hl] at z1
        exact absurd (Option.some.inj z1) hn
      · rw [List.getElem?_set_ne (Ne.symm z2)] at z1
        exact ⟨z1, z2⟩
    refine List.mem_cons.mpr (Or.inr (List.mem_filter.mpr ⟨m_prs_mem.mpr ⟨w, h1, h2, fun z => (h6 z).1, h3⟩, ?_⟩))
    by_cases h7 : w.category = 2
    · have h8 : (q.1 + 1 == k) = false := by simpa using (h6 h7).2
      simp [h4, h8]
    · have h8 : (q.2.category == 2) = false := by rw [h3, m_cv_cat]; simpa using h7
      simp [h4, h8]
theorem m_LR.set2 {b : Nat} {ad : Nat → Nat} {lsA : Array Slot} {nL k : Nat} {ls : List Value} {v : Value} (h : m_LR b ad lsA nL ls) (hn : v ≠ .null) {ls' : Array Slot} (h' : lv_has ls' nL ((k, m_cv b ad v) :: (m_prs b ad ls).filter (fun q => !(q.1 == k) && (!(q.1 == k + 1) && !(q.1 + 1 == k && q.2.category == 2))))) : m_LR b ad ls' nL ((ls.set k v).set (k + 1) .null) := by
  refine ⟨by rw [List.length_set, List.length_set]; exact h.1, h'.1, h'.2.1, fun q hq => ?_⟩
  obtain ⟨w, h1, h2, h5, h3⟩ := m_prs_mem.mp hq
  refine h'.2.2 q ?_
  have h9 : ¬ q.1 = k + 1 := by
    intro e
    have hl := m_set_lt h1
    rw [e] at hl
    rw [e, List.getElem?_set_self hl] at h1
    cases h1
    exact h2 rfl
  rw [List.getElem?_set_ne (Ne.symm h9)] at h1
  by_cases hk : q.1 = k
  · have hl := m_set_lt h1
    rw [hk] at hl
    rw [hk, List.getElem?_set_self hl] at h1
    cases h1
    exact List.mem_cons.mpr (Or.inl (Prod.ext hk h3))
  · rw [List.getElem?_set_ne (Ne.symm hk)] at h1
    have h4 : (q.1 == k) = false := by simpa using hk
    have h10 : (q.1 == k + 1) = false := by simpa using h9
    have h6 : w.category = 2 → ls[q.1 + 1]? = some .null ∧ ¬ q.1 + 1 = k := fun z => by
      have z1 := h5 z
      rw [List.getElem?_set_ne (fun e => hk (by omega))] at z1
      by_cases z2 : q.1 + 1 = k
      · have hl := m_set_lt z1
        rw [z2] at hl z1
        rw [List.getElem?_set_self hl] at z1
        exact absurd (Option.some.inj z1) hn
      · rw [List.getElem?_set_ne (Ne.symm z2)] at z1
        exact ⟨z1, z2⟩
    refine List.mem_cons.mpr (Or.inr (List.mem_filter.mpr ⟨m_prs_mem.mpr ⟨w, h1, h2, fun z => (h6 z).1, h3⟩, ?_⟩))
    by_cases h7 : w.category = 2
    · have h8 : (q.1 + 1 == k) = false := by simpa using (h6 h7).2
      simp [h4, h10, h8]
    · have h8 : (q.2.category == 2) = false := by rw [h3, m_cv_cat]; simpa using h7
      simp [h4, h10, h8]
/-! the entry's locals -/
theorem m_entL_len (b : Nat) (ad : Nat → Nat) : ∀ as : List Value, (lg_sl (as.map (m_cv b ad))).length = (m_entL as).length
  | [] => rfl
  | v :: vs => by
    have ih := m_entL_len b ad vs
    rw [List.map_cons]
    unfold lg_sl at ih ⊢
    rw [List.flatMap_cons, List.length_append, ih]
    simp only [m_cv_cat, m_entL]
    by_cases h : v.category = 2
    · simp [h]; omega
    · simp [h]; omega
theorem m_args_mem (b : Nat) (ad : Nat → Nat) : ∀ (as : List Value) (i k : Nat) (v : Value), (m_entL as)[k]? = some v → v ≠ .null → (i + k, m_cv b ad v) ∈ lv_args i (as.map (m_cv b ad))
  | [], i, k, v, h, _ => by simp [m_entL] at h
  | a :: as, i, k, v, h, hv => by
    rw [List.map_cons, lv_args]
    simp only [m_cv_cat]
    unfold m_entL at h
    by_cases hc : a.category = 2
    · rw [if_pos hc] at h
      rw [if_pos hc]
      match k, h with
      | 0, h =>
        simp at h
        subst h
        exact List.mem_cons.mpr (Or.inl rfl)
      | 1, h =>
        simp at h
        exact absurd h.symm hv
      | k + 2, h =>
        simp at h
        have h1 := m_args_mem b ad as (i + 2) k v h hv
        rw [show i + 2 + k = i + (k + 2) by omega] at h1
        exact List.mem_cons_of_mem _ h1
    · rw [if_neg hc] at h
      rw [if_neg hc]
      match k, h with
      | 0, h =>
        simp at h
        subst h
        exact List.mem_cons.mpr (Or.inl rfl)
      | k + 1, h =>
        simp at h
        have h1 := m_args_mem b ad as (i + 1) k v h hv
        rw [show i + 1 + k = i + (k + 1) by omega] at h1
        exact List.mem_cons_of_mem _ h1
theorem m_LR_entry {b : Nat} {ad : Nat → Nat} {as : List Value} {n : Nat} {lsA : Array Slot} (hn : (m_entL as).length ≤ n) (h : lv_has lsA n (lv_args 0 (as.map (m_cv b ad)))) : m_LR b ad lsA n (m_ent as n) := by
  refine ⟨by unfold m_ent; rw [List.length_append, List.length_replicate]; omega, h.1, h.2.1, fun q hq => ?_⟩
  obtain ⟨v, h1, h2, -, h3⟩ := m_prs_mem.mp hq
  unfold m_ent at h1
  have hl : q.1 < (m_entL as).length := by
    refine Nat.not_le.mp fun hge => ?_
    rw [List.getElem?_append_right hge] at h1
    exact h2 (List.eq_of_mem_replicate (List.mem_of_getElem? h1))
  rw [List.getElem?_append_left hl] at h1
  have h4 := m_args_mem b ad as 0 q.1 v h1 h2
  rw [Nat.zero_add, ← h3] at h4
  exact h.2.2 q h4
theorem m_ent_ok {n k : Nat} : ∀ {as : List Value}, (∀ v ∈ as, m_ok n v) → ∀ v ∈ m_ent as k, m_ok n v := by
  have key : ∀ (as : List Value), (∀ v ∈ as, m_ok n v) → ∀ v ∈ m_entL as, m_ok n v := by
    intro as
    induction as with
    | nil => intro _ v h; cases h
    | cons a as ih =>
      intro h v hv
      unfold m_entL at hv
      have ha := h a List.mem_cons_self
      have has := ih fun w hw => h w (List.mem_cons_of_mem _ hw)
      by_cases hc : a.category = 2
      · rw [if_pos hc] at hv
        rcases List.mem_cons.mp hv with e | hv
        · exact e ▸ ha
        · rcases List.mem_cons.mp hv with e | hv
          · exact e ▸ trivial
          · exact has v hv
      · rw [if_neg hc] at hv
        rcases List.mem_cons.mp hv with e | hv
        · exact e ▸ ha
        · exact has v hv
  intro as h v hv
  unfold m_ent at hv
  rcases List.mem_append.mp hv with hv | hv
  · exact key as h v hv
  · rw [List.eq_of_mem_replicate hv]; trivial
/-! the machine around a walk: all that stays the same within one method's frame -/
abbrev m_X : Type := Launch × Program × Env × Room × State × MethodId × Array Value × List Frame × Method × Code × va_G × ClassId × (Nat → Prop) × Nat × (State → Prop)
abbrev x_l (X : m_X) : Launch := X.1
abbrev x_p (X : m_X) : Program := X.2.1
abbrev x_e (X : m_X) : Env := X.2.2.1
abbrev x_R (X : m_X) : Room := X.2.2.2.1
abbrev x_s (X : m_X) : State := X.2.2.2.2.1
abbrev x_m (X : m_X) : MethodId := X.2.2.2.2.2.1
abbrev x_args (X : m_X) : Array Value := X.2.2.2.2.2.2.1
abbrev x_below (X : m_X) : List Frame := X.2.2.2.2.2.2.2.1
abbrev x_meth (X : m_X) : Method := X.2.2.2.2.2.2.2.2.1
abbrev x_c (X : m_X) : Code := X.2.2.2.2.2.2.2.2.2.1
abbrev x_D (X : m_X) : va_G := X.2.2.2.2.2.2.2.2.2.2.1
abbrev x_cA (X : m_X) : ClassId := X.2.2.2.2.2.2.2.2.2.2.2.1
abbrev x_A (X : m_X) : Nat → Prop := X.2.2.2.2.2.2.2.2.2.2.2.2.1
abbrev x_b (X : m_X) : Nat := X.2.2.2.2.2.2.2.2.2.2.2.2.2.1
abbrev x_Q (X : m_X) : State → Prop := X.2.2.2.2.2.2.2.2.2.2.2.2.2.2
abbrev m_W (X : m_X) (H : Heap) (locs : List Loc) (cells slots pc : Nat) (lsA : Array Slot) (st : List Value) : Prop := W (x_p X) (x_l X) (x_e X) (x_R X) (x_s X) (x_m X) (x_args X) (x_below X) (x_meth X) (x_c X) H locs cells slots (x_Q X) (F0 (x_m X) pc lsA st)
def m_CX (L : Nat) (xs : Nat → Int32) (m : Nat) (X : m_X) : Prop :=
  (x_p X).tables.exec = Jvm.exec ∧ (x_c X).code = mcc m ∧ (x_c X).maxLocals = mml m ∧ (x_s X).vm.findClass (mY m).cls = some (x_m X).cls ∧ (∀ w ∈ lw_tbl, w.before (x_args X) (x_s X) = true) ∧ va_K (x_D X) vwCl [(x_cA X, .int)] (x_s X) ∧ (∀ q, (x_s X).heap.size ≤ q → x_A X q) ∧ mfr m ≤ (x_R X).frames ∧ mlo m ≤ (x_R X).locals ∧ (x_meth X).name = (mY m).name ∧ (x_meth X).sig.returnType = mret m ∧ (x_meth X).locks = false ∧ va_X (x_b X) L xs (x_s X) (x_s X).heap ∧ x_b X < (x_s X).heap.size ∧ ¬ x_A X (x_b X)
def m_RL (X : m_X) (ad : Nat → Nat) (M : mM) (H : Heap) (locs : List Loc) : Prop :=
  va_P (x_D X) vwCl (m_ws (x_b X) ad (x_cA X) M) H ∧ va_D (x_A X) (m_ws (x_b X) ad (x_cA X) M) ∧ va_S (x_A X) (x_s X).heap H locs
def m_J (X : m_X) (m n0 z0 : Nat) (ad0 : Nat → Nat) (pc : Nat) (ls st : List Value) (M : mM) : Prop :=
  ∀ (H : Heap) (lsA : Array Slot) (ad : Nat → Nat) (locs : List Loc) (cells slots : Nat), (∀ k, k < n0 → ad k = ad0 k) → cells + n0 = M.length → slots + z0 = m_sz M → m_RL X ad M H locs → m_LR (x_b X) ad lsA (mml m) ls → m_W X H locs cells slots pc lsA (st.map (m_cv (x_b X) ad))
def m_wsm (m : Nat) : List Cond := Cond.code (mY m) (mcc m) (mml m) (mret m) :: lw_tbl
def m_rm (m mc ms : Nat) : Room := { frames := mfr m, cells := mc, slots := ms, locals := mlo m }
def m_retOk (m pc : Nat) (v : Option Value) (st : List Value) : Prop :=
  st = v.toList ∧ ((∃ x, v = some (.int x) ∧ decode (mcc m) pc = .ok (.ireturn, 1) ∧ (mret m = some .int ∨ (mret m = some .boolean ∧ (x = 0 ∨ x = 1)))) ∨ (v = none ∧ decode (mcc m) pc = .ok (.return_, 1) ∧ mret m = none))
/-- a call's place: the caller's stack; and, where the callee meets a contract, the machine makes the call -/
def m_callOk (L : Nat) (xs : Nat → Int32) (m pc m' : Nat) (as : List Value) (pc' : Nat) (ls' st' ls st : List Value) (M : mM) : Prop :=
  pc' = pc + 3 ∧ ls' = ls ∧ st = as.reverse ++ st' ∧ (m_entL as).length ≤ mml m' ∧ plainName (mY m').cls = true ∧
  ∀ (X : m_X), m_CX L xs m X → ∀ (H : Heap) (lsA : Array Slot) (ad : Nat → Nat) (locs : List Loc) (cells slots : Nat), m_RL X ad M H locs → m_LR (x_b X) ad lsA (mml m) ls →
    ∀ (Pc : Array Value → State → Prop) (Qc : Array Value → State → Outcome → State → Prop) (mc ms : Nat) (free : Addr → Prop), Met (x_l X) (mY m') (m_wsm m') (m_rm m' mc ms) Pc Qc mc ms free → FrameBlind Pc →
      (∀ U : State, U.heap = H → (x_s X).WarmedH U.vm → Pc (as.map (m_cv (x_b X) ad)).toArray U) → cells + mc ≤ (x_R X).cells → slots + ms ≤ (x_R X).slots →
      va_Run (x_p X) (x_l X) (x_e X) (x_R X) (x_s X) (x_m X) (x_args X) (x_below X) (x_meth X) (x_c X) H locs cells slots mc ms (F0 (x_m X) pc lsA (st.map (m_cv (x_b X) ad))) (st'.map (m_cv (x_b X) ad)) (Qc (as.map (m_cv (x_b X) ad)).toArray) free
/-- what is asked of an action at a place of a method's code -/
def m_Ok (L : Nat) (xs : Nat → Int32) (m pc : Nat) (a : mA) : Prop := ∀ (ls st : List Value) (M : mM), m_okV M ls → m_okV M st → m_okM M →
  match a ls st M with
  | none => True
  | some (.inl (pc', ls', st', M')) => (m_okV M' ls' ∧ m_okV M' st' ∧ m_okM M' ∧ M.length ≤ M'.length ∧ m_sz M ≤ m_sz M') ∧
      ∀ (X : m_X), m_CX L xs m X → ∀ (n0 z0 : Nat) (ad0 : Nat → Nat), n0 ≤ M.length → M'.length ≤ n0 + (x_R X).cells → m_sz M' ≤ z0 + (x_R X).slots → m_J X m n0 z0 ad0 pc' ls' st' M' → m_J X m n0 z0 ad0 pc ls st M
  | some (.inr (.inl (m', as, pc', ls', st'))) => m_callOk L xs m pc m' as pc' ls' st' ls st M
  | some (.inr (.inr v)) => m_retOk m pc v st
theorem m_Ok_none {L : Nat} {xs : Nat → Int32} {m pc : Nat} : m_Ok L xs m pc (fun _ _ _ => none) := fun _ _ _ _ _ _ => trivial
/-- what the callee's contract says -/
def m_Pcx (L : Nat) (xs : Nat → Int32) (X : m_X) (ad : Nat → Nat) (as : List Value) (M : mM) (sz : Nat) : Array Value → State → Prop := fun v U =>
  v = (as.map (m_cv (x_b X) ad)).toArray ∧ U.heap.size = sz ∧ va_P (x_D X) vwCl (m_ws (x_b X) ad (x_cA X) M) U.heap ∧ va_K (x_D X) vwCl [(x_cA X, .int)] U ∧ va_D (fun _ => True) (m_ws (x_b X) ad (x_cA X) M) ∧ va_X (x_b X) L xs U U.heap
def m_Qcx (X : m_X) (ad : Nat → Nat) (M M1 : mM) (v : Option Value) (A : Nat → Prop) : Array Value → State → Outcome → State → Prop := fun _ st oc t =>
  (∃ u : Nat → Nat, (∀ k, k < M.length → u k = ad k) ∧ oc = .returned (v.map (m_cv (x_b X) u)) ∧ va_P (x_D X) vwCl (m_ws (x_b X) u (x_cA X) M1) t.heap ∧ va_D A (m_ws (x_b X) u (x_cA X) M1)) ∧ va_F A st t
theorem m_blind (L : Nat) (xs : Nat → Int32) (X : m_X) (ad : Nat → Nat) (as : List Value) (M : mM) (sz : Nat) : FrameBlind (m_Pcx L xs X ad as M sz) := fun a U g mk q => by
  obtain ⟨q0, q1, qP, qK, qD, qX⟩ := q
  exact ⟨q0, q1, qP, va_K.moved (u := U) (U := U.calling g mk a) (Vm.Alike.refl U.vm) qK, qD, va_X.moved (u := U) (U := U.calling g mk a) (Vm.Alike.refl U.vm) qX⟩
/-- m_run has a sound end: nothing shrinks, references point to cells -/
def m_Fine (M : mM) (v : Option Value) (M' : mM) : Prop := m_okV M' v.toList ∧ m_okM M' ∧ M.length ≤ M'.length ∧ m_sz M ≤ m_sz M'
theorem m_fine {L : Nat} {xs : Nat → Int32} {act : Nat → Nat → mA} (hok : ∀ m pc, m_Ok L xs m pc (act m pc)) : ∀ (n m pc : Nat) (ls st : List Value) (M : mM) (v : Option Value) (M' : mM), m_run act n m pc ls st M = some (v, M') → m_okV M ls → m_okV M st → m_okM M → m_Fine M v M'
  | 0, _, _, _, _, _, _, _, h, _, _, _ => by simp [m_run] at h
  | n + 1, m, pc, ls, st, M, v, M', h, h1, h2, h3 => by
    have ok := hok m pc ls st M h1 h2 h3
    unfold m_run at h
    cases ha : act m pc ls st M with
    | none => rw [ha] at h; simp at h
    | some r =>
      rw [ha] at h ok
      match r, h, ok with
      | .inl (pc', ls', st', M1), h, ok =>
        simp only at h ok
        obtain ⟨⟨g1, g2, g3, g4, g5⟩, -⟩ := ok
        obtain ⟨f1, f2, f3, f4⟩ := m_fine hok n m pc' ls' st' M1 v M' h g1 g2 g3
        exact ⟨f1, f2, Nat.le_trans g4 f3, Nat.le_trans g5 f4⟩
      | .inr (.inl (m', as, pc', ls', st')), h, ok =>
        simp only at h ok
        obtain ⟨-, e2, e3, -⟩ := ok
        subst e2
        have has : m_okV M as := fun w hw => h2 w (by rw [e3]; exact List.mem_append_left _ (List.mem_reverse.mpr hw))
        have hst : m_okV M st' := fun w hw => h2 w (by rw [e3]; exact List.mem_append_right _ hw)
        cases hr : m_run act n m' 0 (m_ent as (mml m')) [] M with
        | none => rw [hr] at h; simp at h
        | some q =>
          obtain ⟨v1, M1⟩ := q
          rw [hr] at h
          simp only at h
          obtain ⟨f1, f2, f3, f4⟩ := m_fine hok n m' 0 _ [] M v1 M1 hr (m_ent_ok has) (fun w hw => by cases hw) h3
          have hst2 : m_okV M1 (v1.toList ++ st') := fun w hw => by
            rcases List.mem_append.mp hw with hw | hw
            · exact f1 w hw
            · exact (hst w hw).mono f3
          obtain ⟨g1, g2, g3, g4⟩ := m_fine hok n m pc' ls' _ M1 v M' h (h1.mono f3) hst2 f2
          exact ⟨g1, g2, Nat.le_trans f3 g3, Nat.le_trans f4 g4⟩
      | .inr (.inr w), h, ok =>
        simp only at h ok
        cases h
        exact ⟨fun z hz => h2 z (by rw [ok.1]; exact hz), h3, Nat.le_refl _, Nat.le_refl _⟩
set_option maxHeartbeats 4000000 in
/-- the callee's contract, out of the walk from its entry -/
theorem m_met {L : Nat} {xs : Nat → Int32} {m' : Nat} {X : m_X} {as : List Value} {M M1 : mM} {v1 : Option Value} (ad : Nat → Nat) (sz : Nat) (hbl : x_b X < sz) (hbA : ¬ va_A (m_ws (x_b X) ad (x_cA X) M) sz (x_b X)) (hpl : plainName (mY m').cls = true) (hlen : (m_entL as).length ≤ mml m') (hle : M.length ≤ M1.length) (hlz : m_sz M ≤ m_sz M1)
    (ih : ∀ (Z : m_X), m_CX L xs m' Z → M1.length ≤ M.length + (x_R Z).cells → m_sz M1 ≤ m_sz M + (x_R Z).slots → (∀ pcr lsr, m_retOk m' pcr v1 v1.toList → m_J Z m' M.length (m_sz M) ad pcr lsr v1.toList M1) → m_J Z m' M.length (m_sz M) ad 0 (m_ent as (mml m')) [] M) :
    Met (x_l X) (mY m') (m_wsm m') (m_rm m' (M1.length - M.length) (m_sz M1 - m_sz M)) (m_Pcx L xs X ad as M sz) (m_Qcx X ad M M1 v1 (va_A (m_ws (x_b X) ad (x_cA X) M) sz)) (M1.length - M.length) (m_sz M1 - m_sz M) (va_A (m_ws (x_b X) ad (x_cA X) M) sz) := by
  refine Met.ofW (cc := mcc m') (maxL := mml m') (ret := mret m') hpl rfl ?_
  intro p e s m args below meth c s₁ B hml hPc
  obtain ⟨rfl, hsz, hP, hK, hD, hXs⟩ := hPc
  subst hsz
  have hl := lv_entry (as.map (m_cv (x_b X) ad)) (n := mml m') (by rw [m_entL_len]; exact hlen)
  rw [lg_entry_eq]
  generalize (lg_sl (as.map (m_cv (x_b X) ad)) ++ List.replicate (mml m' - (lg_sl (as.map (m_cv (x_b X) ad))).length) Slot.unset).toArray = lsA at hl ⊢
  have hts := atoms_spec (ws := m_wsm m') B.pre
  have hJ := ih (x_l X, p, e, (headSpec (m_wsm m') (m_rm m' (M1.length - M.length) (m_sz M1 - m_sz M))).room, s, m, (as.map (m_cv (x_b X) ad)).toArray, below, meth, c, x_D X, x_cA X, va_A (m_ws (x_b X) ad (x_cA X) M) s.heap.size, x_b X, MQ below (m_Qcx X ad M M1 v1 (va_A (m_ws (x_b X) ad (x_cA X) M) s.heap.size)) (as.map (m_cv (x_b X) ad)).toArray s (M1.length - M.length) (m_sz M1 - m_sz M) (va_A (m_ws (x_b X) ad (x_cA X) M) s.heap.size))
    ⟨B.exec, B.bytes, hml, findClass_of_methodNamed B.named, fun w hw => hts w (List.mem_cons_of_mem _ hw), hK, fun q hq => Or.inr hq, Nat.le_refl _, Nat.le_refl _, (name_of_methodNamed B.named B.method).1, B.returns, B.notSynchronized, hXs, hbl, hbA⟩
    (by show M1.length ≤ M.length + (M1.length - M.length); omega) (by show m_sz M1 ≤ m_sz M + (m_sz M1 - m_sz M); omega) ?_
  · exact hJ s.heap lsA ad [] 0 0 (fun _ _ => rfl) (Nat.zero_add _) (Nat.zero_add _) ⟨hP, hD.self, va_S.rf⟩ (m_LR_entry hlen hl)
  · intro pcr lsr hret H lsB ad2 locs cells slots had hc hz hRL hLR
    obtain ⟨hP2, hD2, hS2⟩ := hRL
    have e1 : cells = M1.length - M.length := by omega
    have e2 : slots = m_sz M1 - m_sz M := by omega
    subst e1; subst e2
    have hq : ∀ t : State, t.heap = H → s.WarmedH t.vm → m_Qcx X ad M M1 v1 (va_A (m_ws (x_b X) ad (x_cA X) M) s.heap.size) (as.map (m_cv (x_b X) ad)).toArray s (.returned (v1.map (m_cv (x_b X) ad2))) t := fun t ht hW =>
      ⟨⟨ad2, had, rfl, by rw [ht]; exact hP2, hD2⟩, hS2.F ht⟩
    rcases hret.2 with ⟨x, rfl, hd, hr⟩ | ⟨rfl, hd, hr⟩
    · rcases hr with hr | ⟨hr, hx⟩
      · exact W.iret B.exec B.bytes (B.returns.trans hr) hq hS2.2.2 hd B.notSynchronized
      · exact W.zret (ty := .boolean) B.exec B.bytes (B.returns.trans hr) (by rcases hx with rfl | rfl <;> rfl) hq hS2.2.2 hd B.notSynchronized
    · exact W.vret B.exec B.bytes (B.returns.trans hr) hq hS2.2.2 hd B.notSynchronized
set_option maxHeartbeats 4000000 in
/-- WHAT m_run DOES, THE MACHINE DOES -/
theorem m_sound {L : Nat} {xs : Nat → Int32} {act : Nat → Nat → mA} (hok : ∀ m pc, m_Ok L xs m pc (act m pc)) : ∀ (n m pc : Nat) (ls st : List Value) (M : mM) (v : Option Value) (M' : mM), m_run act n m pc ls st M = some (v, M') → m_okV M ls → m_okV M st → m_okM M →
    ∀ (X : m_X), m_CX L xs m X → ∀ (n0 z0 : Nat) (ad0 : Nat → Nat), n0 ≤ M.length → M'.length ≤ n0 + (x_R X).cells → m_sz M' ≤ z0 + (x_R X).slots → (∀ pcr lsr, m_retOk m pcr v v.toList → m_J X m n0 z0 ad0 pcr lsr v.toList M') → m_J X m n0 z0 ad0 pc ls st M
  | 0, _, _, _, _, _, _, _, h, _, _, _ => by simp [m_run] at h
  | n + 1, m, pc, ls, st, M, v, M', h, h1, h2, h3 => by
    intro X hX n0 z0 ad0 hn0 hcl hsl hret
    have ok := hok m pc ls st M h1 h2 h3
    unfold m_run at h
    cases ha : act m pc ls st M with
    | none => rw [ha] at h; simp at h
    | some r =>
      rw [ha] at h ok
      match r, h, ok with
      | .inl (pc', ls', st', M1), h, ok =>
        simp only at h ok
        obtain ⟨⟨g1, g2, g3, g4, g5⟩, hstep⟩ := ok
        obtain ⟨f1, f2, f3, f4⟩ := m_fine hok n m pc' ls' st' M1 v M' h g1 g2 g3
        exact hstep X hX n0 z0 ad0 hn0 (Nat.le_trans f3 hcl) (Nat.le_trans f4 hsl) (m_sound hok n m pc' ls' st' M1 v M' h g1 g2 g3 X hX n0 z0 ad0 (Nat.le_trans hn0 g4) hcl hsl hret)
      | .inr (.inr w), h, ok =>
        simp only at h ok
        cases h
        have e := ok.1
        subst e
        exact hret pc ls ok
      | .inr (.inl (m', as, pc', ls', st')), h, ok =>
        simp only at h ok
        obtain ⟨e1, e2, e3, hlen, hpl, hrun⟩ := ok
        subst e2
        have has : m_okV M as := fun w hw => h2 w (by rw [e3]; exact List.mem_append_left _ (List.mem_reverse.mpr hw))
        have hst : m_okV M st' := fun w hw => h2 w (by rw [e3]; exact List.mem_append_right _ hw)
        cases hr : m_run act n m' 0 (m_ent as (mml m')) [] M with
        | none => rw [hr] at h; simp at h
        | some q =>
          obtain ⟨v1, M1⟩ := q
          rw [hr] at h
          simp only at h
          obtain ⟨f1, f2, f3, f4⟩ := m_fine hok n m' 0 _ [] M v1 M1 hr (m_ent_ok has) (fun w hw => by cases hw) h3
          have hst2 : m_okV M1 (v1.toList ++ st') := fun w hw => by
            rcases List.mem_append.mp hw with hw | hw
            · exact f1 w hw
            · exact (hst w hw).mono f3
          obtain ⟨g1, g2, g3, g4⟩ := m_fine hok n m pc' ls' _ M1 v M' h (h1.mono f3) hst2 f2
          have hJ2 := m_sound hok n m pc' ls' (v1.toList ++ st') M1 v M' h (h1.mono f3) hst2 f2 X hX n0 z0 ad0 (Nat.le_trans hn0 f3) hcl hsl hret
          intro H lsA ad locs cells slots had hc hz hRL hLR
          obtain ⟨hP, hD, hS⟩ := id hRL
          obtain ⟨-, -, -, -, -, hK, hA, -, -, -, -, -, hXs, hbl, hbA⟩ := id hX
          have hAA : ∀ q, va_A (m_ws (x_b X) ad (x_cA X) M) H.size q → x_A X q := by
            rintro q (⟨k, w, hk⟩ | hq)
            · exact hD.2 k _ hk
            · exact hA q (Nat.le_trans hS.1 hq)
          have hMet := m_met (L := L) (xs := xs) (X := X) (v1 := v1) (as := as) ad H.size (Nat.lt_of_lt_of_le hbl hS.1) (fun z => hbA (hAA _ z)) hpl hlen f3 f4 (fun Z hZ hz1 hz2 hz3 => m_sound hok n m' 0 _ [] M v1 M1 hr (m_ent_ok has) (fun w hw => by cases hw) h3 Z hZ M.length (m_sz M) ad (Nat.le_refl _) hz1 hz2 hz3)
          have hR := hrun X hX H lsA ad locs cells slots hRL hLR _ _ _ _ _ hMet (m_blind L xs X ad as M H.size) (fun U hU hW => ⟨rfl, by rw [hU], by rw [hU]; exact hP, va_K.moved hW.alike hK, hD.weaken (fun _ _ _ _ => trivial), by rw [hU]; exact (hXs.moved hW.alike).kept (hS.2.1 _ hbl hbA)⟩) (by omega) (by omega)
          intro T hT XT
          obtain ⟨w, st₀, t, T', Lc, h0, X', hL, k1, k2, ⟨⟨u, hu, hv, hP1, hD1⟩, hF⟩, hgo⟩ := hR T hT XT
          cases hv
          have hH : H.size ≤ T'.heap.size := by rw [k1, ← h0]; exact hF.1
          have hS1 : va_S (x_A X) (x_s X).heap T'.heap (locs ++ Lc) := ⟨Nat.le_trans hS.1 hH, fun q z1 z2 => by
              have z3 := hF.2 q (by rw [h0]; exact Nat.lt_of_lt_of_le z1 hS.1) (fun z => z2 (hAA q z))
              rw [k1, z3, h0]
              exact hS.2.1 q z1 z2, fun q hq => by
              rcases List.mem_append.mp hq with z | z
              · exact hS.2.2 q z
              · exact hAA _ (hL q z)⟩
          have hW := hJ2 T'.heap lsA u (locs ++ Lc) (cells + (M1.length - M.length)) (slots + (m_sz M1 - m_sz M)) (fun k hk => (hu k (Nat.lt_of_lt_of_le hk hn0)).trans (had k hk)) (by omega) (by omega) ⟨by rw [k1]; exact hP1, hD1.weaken (fun _ q _ z => hAA q.1 z), hS1⟩ (hLR.congr hu h1)
          obtain ⟨t2, a1, b1⟩ := hW T' rfl X'
          refine ⟨t2, hgo t2 ?_, b1⟩
          have e5 : (v1.map (m_cv (x_b X) u)).toList ++ st'.map (m_cv (x_b X) ad) = (v1.toList ++ st').map (m_cv (x_b X) u) := by
            rw [List.map_append, m_cv_map (vs := st') hu hst]
            cases v1 <;> rfl
          rw [e5, ← e1]
          exact a1
end
section
/-! ACTIONS of the small machine, an instruction each, and that the machine does them -/
theorem m_okP {L : Nat} {xs : Nat → Int32} {m pc : Nat} {a : mA} (h : ∀ ls st M, match a ls st M with
    | none => True
    | some (.inl (pc', ls', st', M')) => M' = M ∧ (m_okM M → m_okV M ls → m_okV M st → m_okV M ls' ∧ m_okV M st') ∧ ∀ (X : m_X), m_CX L xs m X → ∀ (H : Heap) (lsA : Array Slot) (ad : Nat → Nat) (locs : List Loc) (cells slots : Nat), m_RL X ad M H locs → m_LR (x_b X) ad lsA (mml m) ls → cells ≤ (x_R X).cells → slots ≤ (x_R X).slots → (∀ lsB, m_LR (x_b X) ad lsB (mml m) ls' → m_W X H locs cells slots pc' lsB (st'.map (m_cv (x_b X) ad))) → m_W X H locs cells slots pc lsA (st.map (m_cv (x_b X) ad))
    | some (.inr _) => False) : m_Ok L xs m pc a := by
  intro ls st M h1 h2 h3
  have h0 := h ls st M
  cases ha : a ls st M with
  | none => trivial
  | some r =>
    rw [ha] at h0
    match r, h0 with
    | .inl (pc', ls', st', M'), h0 =>
      simp only at h0 ⊢
      obtain ⟨rfl, hv, hs⟩ := h0
      obtain ⟨v1, v2⟩ := hv h3 h1 h2
      refine ⟨⟨v1, v2, h3, Nat.le_refl _, Nat.le_refl _⟩, fun X hX n0 z0 ad0 hn hcl hsl hJ H lsA ad locs cells slots had hc hz hRL hLR => ?_⟩
      exact hs X hX H lsA ad locs cells slots hRL hLR (by omega) (by omega) (fun lsB hB => hJ H lsB ad locs cells slots had hc hz hRL hB)
theorem m_okV_cons {M : mM} {v : Value} {st : List Value} : m_okV M (v :: st) ↔ m_ok M.length v ∧ m_okV M st := List.forall_mem_cons
theorem m_okV_nil {M : mM} : m_okV M [] := fun _ h => by cases h
def q_int (v : Value) : Bool := match v with
  | .int _ => true
  | _ => false
def q_long (v : Value) : Bool := match v with
  | .long _ => true
  | _ => false
def q_ref (v : Value) : Bool := match v with
  | .ref _ => true
  | .float _ => true
  | _ => false
/-! constants and locals -/
def a_push (v : Value) (pc' : Nat) : mA := fun ls st M => m_nx pc' ls (v :: st) M
theorem k_push {L : Nat} {xs : Nat → Int32} {m pc pc' : Nat} {v : Value} (hv : ∀ n, m_ok n v) (hW : ∀ (X : m_X) (lsA : Array Slot) (ad : Nat → Nat), m_CX L xs m X → ∀ (H : Heap) (locs : List Loc) (cells slots : Nat) (r : List Value), m_W X H locs cells slots pc' lsA (m_cv (x_b X) ad v :: r) → m_W X H locs cells slots pc lsA r) : m_Ok L xs m pc (a_push v pc') :=
  m_okP fun ls st M => ⟨rfl, fun _ h1 h2 => ⟨h1, m_okV_cons.mpr ⟨hv _, h2⟩⟩, fun X hX H lsA ad locs cells slots _ hLR _ _ k => hW X lsA ad hX H locs cells slots _ (k lsA hLR)⟩
section KP
variable {L : Nat} {xs : Nat → Int32} {m pc : Nat}
theorem k_iconst {n : Int} {v : Int32} (hd : decode (mcc m) pc = .ok (.iconst n, 1)) (hv : Int32.ofInt n = v) : m_Ok L xs m pc (a_push (.int v) (pc + 1)) :=
  k_push (fun _ => trivial) fun X lsA ad hX H locs cells slots r k => lv_iconst hX.1 hX.2.1 hd hv k
theorem k_bipush {n : Int} {v : Int32} (hd : decode (mcc m) pc = .ok (.bipush n, 2)) (hv : (Int8.ofInt n).toInt32 = v) : m_Ok L xs m pc (a_push (.int v) (pc + 2)) :=
  k_push (fun _ => trivial) fun X lsA ad hX H locs cells slots r k => lv_bipush hX.1 hX.2.1 hd hv k
theorem k_sipush {n : Int} {v : Int32} (hd : decode (mcc m) pc = .ok (.sipush n, 3)) (hv : (Int16.ofInt n).toInt32 = v) : m_Ok L xs m pc (a_push (.int v) (pc + 3)) :=
  k_push (fun _ => trivial) fun X lsA ad hX H locs cells slots r k => lv_sipush hX.1 hX.2.1 hd hv k
theorem k_lconst {n : Fin 2} {v : Int64} (hd : decode (mcc m) pc = .ok (.lconst n, 1)) (hv : Int64.ofNat (n : Nat) = v) : m_Ok L xs m pc (a_push (.long v) (pc + 1)) :=
  k_push (fun _ => trivial) fun X lsA ad hX H locs cells slots r k => lv_lconst hX.1 hX.2.1 hd hv k
theorem k_ldc {index : Nat} {v : Int32} (hd : decode (mcc m) pc = .ok (.ldc index, 2)) (hw : Cond.constant (mY m).cls index v ∈ lw_tbl) : m_Ok L xs m pc (a_push (.int v) (pc + 2)) :=
  k_push (fun _ => trivial) fun X lsA ad hX H locs cells slots r k => lv_ldc hX.1 hX.2.1 hX.2.2.2.1 (hX.2.2.2.2.1 _ hw) hd k
theorem k_ldc2 {index : Nat} {v : Int64} (hd : decode (mcc m) pc = .ok (.ldc2_w index, 3)) (hw : Cond.constantLong (mY m).cls index v ∈ lw_tbl) : m_Ok L xs m pc (a_push (.long v) (pc + 3)) :=
  k_push (fun _ => trivial) fun X lsA ad hX H locs cells slots r k => lv_ldc2 hX.1 hX.2.1 hX.2.2.2.1 (hX.2.2.2.2.1 _ hw) hd k
end KP
def a_load (q : Value → Bool) (k pc' : Nat) : mA := fun ls st M => match ls[k]? with
  | some v => cond (q v) (m_nx pc' ls (v :: st) M) none
  | none => none
theorem k_load {L : Nat} {xs : Nat → Int32} {m pc pc' k : Nat} {q : Value → Bool} (hq : ∀ v, q v = true → v ≠ .null ∧ v.category = 1) (hW : ∀ (X : m_X) (lsA : Array Slot) (ad : Nat → Nat), m_CX L xs m X → ∀ (H : Heap) (locs : List Loc) (cells slots : Nat) (r : List Value) (v : Value), q v = true → lsA[k]? = some (.val (m_cv (x_b X) ad v)) → m_W X H locs cells slots pc' lsA (m_cv (x_b X) ad v :: r) → m_W X H locs cells slots pc lsA r) : m_Ok L xs m pc (a_load q k pc') := by
  refine m_okP fun ls st M => ?_
  unfold a_load
  cases hk : ls[k]? with
  | none => trivial
  | some v =>
    cases hv : q v with
    | false => simp only [hv]; trivial
    | true =>
      simp only [hv]
      exact ⟨rfl, fun _ h1 h2 => ⟨h1, m_okV_cons.mpr ⟨h1 v (List.mem_of_getElem? hk), h2⟩⟩, fun X hX H lsA ad locs cells slots _ hLR _ _ kk => hW X lsA ad hX H locs cells slots _ v hv (hLR.get hk (hq v hv).1 (fun e => absurd e (by rw [(hq v hv).2]; decide))) (kk lsA hLR)⟩
def a_loadL (k pc' : Nat) : mA := fun ls st M => match ls[k]?, ls[k + 1]? with
  | some (.long v), some .null => m_nx pc' ls (.long v :: st) M
  | _, _ => none
theorem k_loadL {L : Nat} {xs : Nat → Int32} {m pc pc' k : Nat} (hW : ∀ (X : m_X) (lsA : Array Slot), m_CX L xs m X → ∀ (H : Heap) (locs : List Loc) (cells slots : Nat) (r : List Value) (v : Int64), lsA[k]? = some (.val (.long v)) → m_W X H locs cells slots pc' lsA (.long v :: r) → m_W X H locs cells slots pc lsA r) : m_Ok L xs m pc (a_loadL k pc') := by
  refine m_okP fun ls st M => ?_
  unfold a_loadL
  split
  · trivial
  · rename_i heq
    split at heq
    · rename_i v h1 h2
      cases heq
      refine ⟨rfl, fun _ g1 g2 => ⟨g1, m_okV_cons.mpr ⟨trivial, g2⟩⟩, fun X hX H lsA ad locs cells slots _ hLR _ _ kk => hW X lsA hX H locs cells slots _ v (hLR.get h1 (by simp) (fun _ => h2)) (kk lsA hLR)⟩
    · cases heq
  · rename_i heq
    split at heq <;> cases heq
theorem q_int_of {v : Value} (h : q_int v = true) : ∃ x, v = .int x := by cases v <;> first | exact ⟨_, rfl⟩ | cases h
theorem q_ref_of {v : Value} (h : q_ref v = true) (b : Nat) (ad : Nat → Nat) : ∃ x, m_cv b ad v = .ref x := by cases v <;> first | exact ⟨_, rfl⟩ | cases h
theorem q_int_nn : ∀ v, q_int v = true → v ≠ .null ∧ v.category = 1 := by intro v h; cases v <;> first | (cases h; done) | exact ⟨by simp, rfl⟩
theorem q_ref_nn : ∀ v, q_ref v = true → v ≠ .null ∧ v.category = 1 := by intro v h; cases v <;> first | (cases h; done) | exact ⟨by simp, rfl⟩
section KL
variable {L : Nat} {xs : Nat → Int32} {m pc : Nat}
theorem k_iload {k : Nat} (hd : decode (mcc m) pc = .ok (.iload k, 2)) : m_Ok L xs m pc (a_load q_int k (pc + 2)) :=
  k_load q_int_nn fun X lsA ad hX H locs cells slots r v hv hl k => by obtain ⟨x, rfl⟩ := q_int_of hv; exact lv_iload hX.1 hX.2.1 hd hl k
theorem k_iload_n {k : Nat} {j : Fin 4} (hd : decode (mcc m) pc = .ok (.iload_n j, 1)) (hj : (j : Nat) = k) : m_Ok L xs m pc (a_load q_int k (pc + 1)) :=
  k_load q_int_nn fun X lsA ad hX H locs cells slots r v hv hl k => by obtain ⟨x, rfl⟩ := q_int_of hv; exact lv_iload_n hX.1 hX.2.1 hd hj hl k
theorem k_aload {k : Nat} (hd : decode (mcc m) pc = .ok (.aload k, 2)) : m_Ok L xs m pc (a_load q_ref k (pc + 2)) :=
  k_load q_ref_nn fun X lsA ad hX H locs cells slots r v hv hl k => by obtain ⟨x, hx⟩ := q_ref_of hv (x_b X) ad; rw [hx] at hl k; exact lv_aload hX.1 hX.2.1 hd hl k
theorem k_aload_n {k : Nat} {j : Fin 4} (hd : decode (mcc m) pc = .ok (.aload_n j, 1)) (hj : (j : Nat) = k) : m_Ok L xs m pc (a_load q_ref k (pc + 1)) :=
  k_load q_ref_nn fun X lsA ad hX H locs cells slots r v hv hl k => by obtain ⟨x, hx⟩ := q_ref_of hv (x_b X) ad; rw [hx] at hl k; exact lv_aload_n hX.1 hX.2.1 hd hj hl k
theorem k_lload {k : Nat} (hd : decode (mcc m) pc = .ok (.lload k, 2)) : m_Ok L xs m pc (a_loadL k (pc + 2)) :=
  k_loadL fun X lsA hX H locs cells slots r v hl k => lv_lload hX.1 hX.2.1 hd hl k
theorem k_lload_n {k : Nat} {j : Fin 4} (hd : decode (mcc m) pc = .ok (.lload_n j, 1)) (hj : (j : Nat) = k) : m_Ok L xs m pc (a_loadL k (pc + 1)) :=
  k_loadL fun X lsA hX H locs cells slots r v hl k => lv_lload_n hX.1 hX.2.1 hd hj hl k
end KL
def a_store (q : Value → Bool) (k pc' : Nat) : mA := fun ls st M => match st with
  | v :: r => cond (q v) (m_nx pc' (ls.set k v) r M) none
  | [] => none
theorem m_okV_set {M : mM} {ls : List Value} {k : Nat} {v : Value} (h : m_okV M ls) (hv : m_ok M.length v) : m_okV M (ls.set k v) := fun w hw => by
  rcases List.mem_or_eq_of_mem_set hw with h1 | h1
  · exact h w h1
  · exact h1 ▸ hv
theorem k_store {L : Nat} {xs : Nat → Int32} {m pc pc' k : Nat} {q : Value → Bool} (hq : ∀ v, q v = true → v ≠ .null ∧ v.category = 1) (hW : ∀ (X : m_X) (lsA : Array Slot) (ad : Nat → Nat), m_CX L xs m X → ∀ (H : Heap) (locs : List Loc) (cells slots : Nat) (r : List Value) (v : Value) (lv : List (Nat × Value)), q v = true → lv_has lsA (mml m) lv → (∀ lsB, lv_has lsB (mml m) ((k, m_cv (x_b X) ad v) :: lv.filter (fun q => !(q.1 == k) && !(q.1 + 1 == k && q.2.category == 2))) → m_W X H locs cells slots pc' lsB r) → m_W X H locs cells slots pc lsA (m_cv (x_b X) ad v :: r)) : m_Ok L xs m pc (a_store q k pc') := by
  refine m_okP fun ls st M => ?_
  unfold a_store
  cases st with
  | nil => trivial
  | cons v r =>
    cases hv : q v with
    | false => simp only [hv]; trivial
    | true =>
      simp only [hv]
      refine ⟨rfl, fun _ h1 h2 => ⟨m_okV_set h1 (m_okV_cons.mp h2).1, (m_okV_cons.mp h2).2⟩, fun X hX H lsA ad locs cells slots _ hLR _ _ kk => ?_⟩
      exact hW X lsA ad hX H locs cells slots _ v _ hv hLR.2 fun lsB hB => kk lsB (hLR.set1 (hq v hv).1 hB)
def a_storeL (k pc' : Nat) : mA := fun ls st M => match st with
  | .long v :: r => m_nx pc' ((ls.set k (.long v)).set (k + 1) .null) r M
  | _ => none
theorem k_storeL {L : Nat} {xs : Nat → Int32} {m pc pc' k : Nat} (hW : ∀ (X : m_X) (lsA : Array Slot), m_CX L xs m X → ∀ (H : Heap) (locs : List Loc) (cells slots : Nat) (r : List Value) (v : Int64) (lv : List (Nat × Value)), lv_has lsA (mml m) lv → (∀ lsB, lv_has lsB (mml m) ((k, .long v) :: lv.filter (fun q => !(q.1 == k) && (!(q.1 == k + 1) && !(q.1 + 1 == k && q.2.category == 2)))) → m_W X H locs cells slots pc' lsB r) → m_W X H locs cells slots pc lsA (.long v :: r)) : m_Ok L xs m pc (a_storeL k pc') := by
  refine m_okP fun ls st M => ?_
  unfold a_storeL
  split
  · trivial
  · rename_i heq
    split at heq
    · rename_i v r
      cases heq
      refine ⟨rfl, fun _ h1 h2 => ⟨m_okV_set (m_okV_set h1 trivial) trivial, (m_okV_cons.mp h2).2⟩, fun X hX H lsA ad locs cells slots _ hLR _ _ kk => ?_⟩
      exact hW X lsA hX H locs cells slots _ v _ hLR.2 fun lsB hB => kk lsB (hLR.set2 (v := .long v) (by simp) hB)
    · cases heq
  · rename_i heq
    split at heq <;> cases heq
section KS
variable {L : Nat} {xs : Nat → Int32} {m pc : Nat}
theorem k_istore {k : Nat} (hd : decode (mcc m) pc = .ok (.istore k, 2)) (hk : k < mml m) : m_Ok L xs m pc (a_store q_int k (pc + 2)) :=
  k_store q_int_nn fun X lsA ad hX H locs cells slots r v lv hv hl kk => by obtain ⟨x, rfl⟩ := q_int_of hv; exact lv_istore hX.1 hX.2.1 hd hl hk rfl kk
theorem k_istore_n {k : Nat} {j : Fin 4} (hd : decode (mcc m) pc = .ok (.istore_n j, 1)) (hj : (j : Nat) = k) (hk : k < mml m) : m_Ok L xs m pc (a_store q_int k (pc + 1)) :=
  k_store q_int_nn fun X lsA ad hX H locs cells slots r v lv hv hl kk => by obtain ⟨x, rfl⟩ := q_int_of hv; exact lv_istore_n hX.1 hX.2.1 hd hj hl hk rfl kk
theorem k_astore {k : Nat} (hd : decode (mcc m) pc = .ok (.astore k, 2)) (hk : k < mml m) : m_Ok L xs m pc (a_store q_ref k (pc + 2)) :=
  k_store q_ref_nn fun X lsA ad hX H locs cells slots r v lv hv hl kk => by obtain ⟨x, hx⟩ := q_ref_of hv (x_b X) ad; rw [hx] at kk ⊢; exact lv_astore hX.1 hX.2.1 hd hl hk rfl kk
theorem k_astore_n {k : Nat} {j : Fin 4} (hd : decode (mcc m) pc = .ok (.astore_n j, 1)) (hj : (j : Nat) = k) (hk : k < mml m) : m_Ok L xs m pc (a_store q_ref k (pc + 1)) :=
  k_store q_ref_nn fun X lsA ad hX H locs cells slots r v lv hv hl kk => by obtain ⟨x, hx⟩ := q_ref_of hv (x_b X) ad; rw [hx] at kk ⊢; exact lv_astore_n hX.1 hX.2.1 hd hj hl hk rfl kk
theorem k_lstore {k : Nat} (hd : decode (mcc m) pc = .ok (.lstore k, 2)) (hk : k + 1 < mml m) : m_Ok L xs m pc (a_storeL k (pc + 2)) :=
  k_storeL fun X lsA hX H locs cells slots r v lv hl kk => lv_lstore hX.1 hX.2.1 hd hl hk rfl kk
theorem k_lstore_n {k : Nat} {j : Fin 4} (hd : decode (mcc m) pc = .ok (.lstore_n j, 1)) (hj : (j : Nat) = k) (hk : k + 1 < mml m) : m_Ok L xs m pc (a_storeL k (pc + 1)) :=
  k_storeL fun X lsA hX H locs cells slots r v lv hl kk => lv_lstore_n hX.1 hX.2.1 hd hj hl hk rfl kk
end KS
def a_iinc (k : Nat) (v : Int32) (pc' : Nat) : mA := fun ls st M => match ls[k]? with
  | some (.int x) => m_nx pc' (ls.set k (.int (x + v))) st M
  | _ => none
theorem k_iinc {L : Nat} {xs : Nat → Int32} {m pc k : Nat} {n : Int} {v : Int32} (hd : decode (mcc m) pc = .ok (.iinc k n, 3)) (hv : Int32.ofInt n = v) (hk : k < mml m) : m_Ok L xs m pc (a_iinc k v (pc + 3)) := by
  refine m_okP fun ls st M => ?_
  unfold a_iinc
  split
  · trivial
  · rename_i heq
    split at heq
    · rename_i x hx
      cases heq
      refine ⟨rfl, fun _ h1 h2 => ⟨m_okV_set h1 trivial, h2⟩, fun X hX H lsA ad locs cells slots _ hLR _ _ kk => ?_⟩
      obtain ⟨i, hi⟩ := List.getElem?_of_mem (m_prs_mem (b := x_b X) (ad := ad) (q := (k, .int x)).mpr ⟨.int x, hx, by simp, fun e => (by cases e), rfl⟩)
      exact lv_iinc hX.1 hX.2.1 hd hLR.2 hi (by rw [hv]) hk rfl fun lsB hB => kk lsB (hLR.set1 (v := .int (x + v)) (by simp) hB)
    · cases heq
  · rename_i heq
    split at heq <;> cases heq
end
section
/-! arithmetic: the stack's top into another -/
def a_stk (f : List Value → Option (List Value)) (pc' : Nat) : mA := fun ls st M => match f st with
  | some st' => m_nx pc' ls st' M
  | none => none
theorem k_stk {L : Nat} {xs : Nat → Int32} {m pc pc' : Nat} {f : List Value → Option (List Value)} (hv : ∀ (M : mM) (st st' : List Value), f st = some st' → m_okV M st → m_okV M st') (hW : ∀ (X : m_X) (lsA : Array Slot) (ad : Nat → Nat), (x_p X).tables.exec = Jvm.exec → (x_c X).code = mcc m → ∀ (H : Heap) (locs : List Loc) (cells slots : Nat) (st st' : List Value), f st = some st' → m_W X H locs cells slots pc' lsA (st'.map (m_cv (x_b X) ad)) → m_W X H locs cells slots pc lsA (st.map (m_cv (x_b X) ad))) : m_Ok L xs m pc (a_stk f pc') := by
  refine m_okP fun ls st M => ?_
  unfold a_stk
  cases hf : f st with
  | none => trivial
  | some st' => exact ⟨rfl, fun _ h1 h2 => ⟨h1, hv M st st' hf h2⟩, fun X hX H lsA ad locs cells slots _ hLR _ _ k => hW X lsA ad hX.1 hX.2.1 H locs cells slots st st' hf (k lsA hLR)⟩
def f_ii (g : Int32 → Int32 → Int32) (st : List Value) : Option (List Value) := match st with
  | .int y :: .int x :: r => some (.int (g x y) :: r)
  | _ => none
def f_iz (g : Int32 → Int32 → Int32) (st : List Value) : Option (List Value) := match st with
  | .int y :: .int x :: r => cond (decide (y = 0)) none (some (.int (g x y) :: r))
  | _ => none
def f_ll (g : Int64 → Int64 → Int64) (st : List Value) : Option (List Value) := match st with
  | .long y :: .long x :: r => some (.long (g x y) :: r)
  | _ => none
def f_li (g : Int64 → Int32 → Int64) (st : List Value) : Option (List Value) := match st with
  | .int y :: .long x :: r => some (.long (g x y) :: r)
  | _ => none
def f_cmp (st : List Value) : Option (List Value) := match st with
  | .long y :: .long x :: r => some (.int (lg_cmp x y) :: r)
  | _ => none
def f_i2l (st : List Value) : Option (List Value) := match st with
  | .int x :: r => some (.long x.toInt64 :: r)
  | _ => none
def f_l2i (st : List Value) : Option (List Value) := match st with
  | .long x :: r => some (.int x.toInt32 :: r)
  | _ => none
def f_dup (st : List Value) : Option (List Value) := match st with
  | .int x :: r => some (.int x :: .int x :: r)
  | .ref x :: r => some (.ref x :: .ref x :: r)
  | _ => none
def f_dup2 (st : List Value) : Option (List Value) := match st with
  | .int y :: .ref x :: r => some (.int y :: .ref x :: .int y :: .ref x :: r)
  | _ => none
def f_dupx1 (st : List Value) : Option (List Value) := match st with
  | .int y :: .ref x :: r => some (.int y :: .ref x :: .int y :: r)
  | _ => none
def f_pop (st : List Value) : Option (List Value) := match st with
  | .int _ :: r => some r
  | _ => none
def f_ineg (st : List Value) : Option (List Value) := match st with
  | .int x :: r => some (.int (-x) :: r)
  | _ => none
theorem f_ii_of {g : Int32 → Int32 → Int32} {st st' : List Value} (h : f_ii g st = some st') : ∃ x y r, st = .int y :: .int x :: r ∧ st' = .int (g x y) :: r := by
  unfold f_ii at h; split at h <;> cases h; exact ⟨_, _, _, rfl, rfl⟩
theorem f_iz_of {g : Int32 → Int32 → Int32} {st st' : List Value} (h : f_iz g st = some st') : ∃ x y r, ¬ y = 0 ∧ st = .int y :: .int x :: r ∧ st' = .int (g x y) :: r := by
  unfold f_iz at h
  split at h
  · rename_i y x r
    by_cases hy : y = 0
    · simp [hy] at h
    · simp [hy] at h
      exact ⟨_, _, _, hy, rfl, h.symm⟩
  · cases h
theorem f_ll_of {g : Int64 → Int64 → Int64} {st st' : List Value} (h : f_ll g st = some st') : ∃ x y r, st = .long y :: .long x :: r ∧ st' = .long (g x y) :: r := by
  unfold f_ll at h; split at h <;> cases h; exact ⟨_, _, _, rfl, rfl⟩
theorem f_li_of {g : Int64 → Int32 → Int64} {st st' : List Value} (h : f_li g st = some st') : ∃ x y r, st = .int y :: .long x :: r ∧ st' = .long (g x y) :: r := by
  unfold f_li at h; split at h <;> cases h; exact ⟨_, _, _, rfl, rfl⟩
theorem f_cmp_of {st st' : List Value} (h : f_cmp st = some st') : ∃ x y r, st = .long y :: .long x :: r ∧ st' = .int (lg_cmp x y) :: r := by
  unfold f_cmp at h; split at h <;> cases h; exact ⟨_, _, _, rfl, rfl⟩
theorem f_i2l_of {st st' : List Value} (h : f_i2l st = some st') : ∃ x r, st = .int x :: r ∧ st' = .long x.toInt64 :: r := by
  unfold f_i2l at h; split at h <;> cases h; exact ⟨_, _, rfl, rfl⟩
theorem f_l2i_of {st st' : List Value} (h : f_l2i st = some st') : ∃ x r, st = .long x :: r ∧ st' = .int x.toInt32 :: r := by
  unfold f_l2i at h; split at h <;> cases h; exact ⟨_, _, rfl, rfl⟩
theorem f_pop_of {st st' : List Value} (h : f_pop st = some st') : ∃ x r, st = .int x :: r ∧ st' = r := by
  unfold f_pop at h; split at h <;> cases h; exact ⟨_, _, rfl, rfl⟩
theorem f_ineg_of {st st' : List Value} (h : f_ineg st = some st') : ∃ x r, st = .int x :: r ∧ st' = .int (-x) :: r := by
  unfold f_ineg at h; split at h <;> cases h; exact ⟨_, _, rfl, rfl⟩
theorem f_dup_of {st st' : List Value} (h : f_dup st = some st') : ∃ v r, (v.category = 1 ∧ ∀ b ad, (m_cv b ad v).category = 1) ∧ st = v :: r ∧ st' = v :: v :: r := by
  unfold f_dup at h; split at h <;> cases h <;> exact ⟨_, _, ⟨rfl, fun _ _ => rfl⟩, rfl, rfl⟩
section KA
variable {L : Nat} {xs : Nat → Int32} {m pc : Nat}
theorem k_ii {g : Int32 → Int32 → Int32} (hW : ∀ (X : m_X) (lsA : Array Slot), (x_p X).tables.exec = Jvm.exec → (x_c X).code = mcc m → ∀ (H : Heap) (locs : List Loc) (cells slots : Nat) (x y : Int32) (r : List Value), m_W X H locs cells slots (pc + 1) lsA (.int (g x y) :: r) → m_W X H locs cells slots pc lsA (.int y :: .int x :: r)) : m_Ok L xs m pc (a_stk (f_ii g) (pc + 1)) :=
  k_stk (fun M st st' h h2 => by obtain ⟨x, y, r, rfl, rfl⟩ := f_ii_of h; exact m_okV_cons.mpr ⟨trivial, (m_okV_cons.mp (m_okV_cons.mp h2).2).2⟩) fun X lsA ad hx hb H locs cells slots st st' h k => by obtain ⟨x, y, r, rfl, rfl⟩ := f_ii_of h; exact hW X lsA hx hb H locs cells slots x y _ k
theorem k_iadd (hd : decode (mcc m) pc = .ok (.iadd, 1)) : m_Ok L xs m pc (a_stk (f_ii fun x y => x + y) (pc + 1)) := k_ii fun X lsA hx hb H locs cells slots x y r k => lv_iadd hx hb hd k
theorem k_isub (hd : decode (mcc m) pc = .ok (.isub, 1)) : m_Ok L xs m pc (a_stk (f_ii fun x y => x - y) (pc + 1)) := k_ii fun X lsA hx hb H locs cells slots x y r k => lv_isub hx hb hd k
theorem k_imul (hd : decode (mcc m) pc = .ok (.imul, 1)) : m_Ok L xs m pc (a_stk (f_ii fun x y => x * y) (pc + 1)) := k_ii fun X lsA hx hb H locs cells slots x y r k => lv_imul hx hb hd k
theorem k_iand (hd : decode (mcc m) pc = .ok (.iand, 1)) : m_Ok L xs m pc (a_stk (f_ii fun x y => x &&& y) (pc + 1)) := k_ii fun X lsA hx hb H locs cells slots x y r k => lv_iand hx hb hd k
theorem k_ior (hd : decode (mcc m) pc = .ok (.ior, 1)) : m_Ok L xs m pc (a_stk (f_ii fun x y => x ||| y) (pc + 1)) := k_ii fun X lsA hx hb H locs cells slots x y r k => lv_ior hx hb hd k
theorem k_ishl (hd : decode (mcc m) pc = .ok (.ishl, 1)) : m_Ok L xs m pc (a_stk (f_ii fun x y => x <<< (y &&& 31)) (pc + 1)) := k_ii fun X lsA hx hb H locs cells slots x y r k => lv_ishl hx hb hd k
theorem k_ishr (hd : decode (mcc m) pc = .ok (.ishr, 1)) : m_Ok L xs m pc (a_stk (f_ii fun x y => x >>> (y &&& 31)) (pc + 1)) := k_ii fun X lsA hx hb H locs cells slots x y r k => lv_ishr hx hb hd k
theorem k_iz {g : Int32 → Int32 → Int32} (hW : ∀ (X : m_X) (lsA : Array Slot), (x_p X).tables.exec = Jvm.exec → (x_c X).code = mcc m → ∀ (H : Heap) (locs : List Loc) (cells slots : Nat) (x y : Int32) (r : List Value), ¬ y = 0 → m_W X H locs cells slots (pc + 1) lsA (.int (g x y) :: r) → m_W X H locs cells slots pc lsA (.int y :: .int x :: r)) : m_Ok L xs m pc (a_stk (f_iz g) (pc + 1)) :=
  k_stk (fun M st st' h h2 => by obtain ⟨x, y, r, -, rfl, rfl⟩ := f_iz_of h; exact m_okV_cons.mpr ⟨trivial, (m_okV_cons.mp (m_okV_cons.mp h2).2).2⟩) fun X lsA ad hx hb H locs cells slots st st' h k => by obtain ⟨x, y, r, hy, rfl, rfl⟩ := f_iz_of h; exact hW X lsA hx hb H locs cells slots x y _ hy k
theorem k_idiv (hd : decode (mcc m) pc = .ok (.idiv, 1)) : m_Ok L xs m pc (a_stk (f_iz fun x y => x / y) (pc + 1)) := k_iz fun X lsA hx hb H locs cells slots x y r hy k => lv_idiv hx hb hd hy k
theorem k_irem (hd : decode (mcc m) pc = .ok (.irem, 1)) : m_Ok L xs m pc (a_stk (f_iz fun x y => x - x / y * y) (pc + 1)) := k_iz fun X lsA hx hb H locs cells slots x y r hy k => lv_irem hx hb hd hy k
theorem k_ll {g : Int64 → Int64 → Int64} (hW : ∀ (X : m_X) (lsA : Array Slot), (x_p X).tables.exec = Jvm.exec → (x_c X).code = mcc m → ∀ (H : Heap) (locs : List Loc) (cells slots : Nat) (x y : Int64) (r : List Value), m_W X H locs cells slots (pc + 1) lsA (.long (g x y) :: r) → m_W X H locs cells slots pc lsA (.long y :: .long x :: r)) : m_Ok L xs m pc (a_stk (f_ll g) (pc + 1)) :=
  k_stk (fun M st st' h h2 => by obtain ⟨x, y, r, rfl, rfl⟩ := f_ll_of h; exact m_okV_cons.mpr ⟨trivial, (m_okV_cons.mp (m_okV_cons.mp h2).2).2⟩) fun X lsA ad hx hb H locs cells slots st st' h k => by obtain ⟨x, y, r, rfl, rfl⟩ := f_ll_of h; exact hW X lsA hx hb H locs cells slots x y _ k
theorem k_land (hd : decode (mcc m) pc = .ok (.land, 1)) : m_Ok L xs m pc (a_stk (f_ll fun x y => x &&& y) (pc + 1)) := k_ll fun X lsA hx hb H locs cells slots x y r k => lv_land hx hb hd k
theorem k_lor (hd : decode (mcc m) pc = .ok (.lor, 1)) : m_Ok L xs m pc (a_stk (f_ll fun x y => x ||| y) (pc + 1)) := k_ll fun X lsA hx hb H locs cells slots x y r k => lv_lor hx hb hd k
theorem k_li {g : Int64 → Int32 → Int64} (hW : ∀ (X : m_X) (lsA : Array Slot), (x_p X).tables.exec = Jvm.exec → (x_c X).code = mcc m → ∀ (H : Heap) (locs : List Loc) (cells slots : Nat) (x : Int64) (y : Int32) (r : List Value), m_W X H locs cells slots (pc + 1) lsA (.long (g x y) :: r) → m_W X H locs cells slots pc lsA (.int y :: .long x :: r)) : m_Ok L xs m pc (a_stk (f_li g) (pc + 1)) :=
  k_stk (fun M st st' h h2 => by obtain ⟨x, y, r, rfl, rfl⟩ := f_li_of h; exact m_okV_cons.mpr ⟨trivial, (m_okV_cons.mp (m_okV_cons.mp h2).2).2⟩) fun X lsA ad hx hb H locs cells slots st st' h k => by obtain ⟨x, y, r, rfl, rfl⟩ := f_li_of h; exact hW X lsA hx hb H locs cells slots x y _ k
theorem k_lushr (hd : decode (mcc m) pc = .ok (.lushr, 1)) : m_Ok L xs m pc (a_stk (f_li fun x y => (x.toUInt64 >>> (y.toInt64.toUInt64 &&& Int64.toUInt64 63)).toInt64) (pc + 1)) := k_li fun X lsA hx hb H locs cells slots x y r k => lv_lushr hx hb hd rfl k
theorem k_lshl (hd : decode (mcc m) pc = .ok (.lshl, 1)) : m_Ok L xs m pc (a_stk (f_li fun x y => x <<< (y.toInt64 &&& 63)) (pc + 1)) := k_li fun X lsA hx hb H locs cells slots x y r k => lv_lshl hx hb hd rfl k
theorem k_lcmp (hd : decode (mcc m) pc = .ok (.lcmp, 1)) : m_Ok L xs m pc (a_stk f_cmp (pc + 1)) :=
  k_stk (fun M st st' h h2 => by obtain ⟨x, y, r, rfl, rfl⟩ := f_cmp_of h; exact m_okV_cons.mpr ⟨trivial, (m_okV_cons.mp (m_okV_cons.mp h2).2).2⟩) fun X lsA ad hx hb H locs cells slots st st' h k => by obtain ⟨x, y, r, rfl, rfl⟩ := f_cmp_of h; exact W.lcmp hx hb hd k
theorem k_i2l (hd : decode (mcc m) pc = .ok (.i2l, 1)) : m_Ok L xs m pc (a_stk f_i2l (pc + 1)) :=
  k_stk (fun M st st' h h2 => by obtain ⟨x, r, rfl, rfl⟩ := f_i2l_of h; exact m_okV_cons.mpr ⟨trivial, (m_okV_cons.mp h2).2⟩) fun X lsA ad hx hb H locs cells slots st st' h k => by obtain ⟨x, r, rfl, rfl⟩ := f_i2l_of h; exact lv_i2l hx hb hd rfl k
theorem k_l2i (hd : decode (mcc m) pc = .ok (.l2i, 1)) : m_Ok L xs m pc (a_stk f_l2i (pc + 1)) :=
  k_stk (fun M st st' h h2 => by obtain ⟨x, r, rfl, rfl⟩ := f_l2i_of h; exact m_okV_cons.mpr ⟨trivial, (m_okV_cons.mp h2).2⟩) fun X lsA ad hx hb H locs cells slots st st' h k => by obtain ⟨x, r, rfl, rfl⟩ := f_l2i_of h; exact lv_l2i hx hb hd rfl k
theorem k_pop (hd : decode (mcc m) pc = .ok (.pop, 1)) : m_Ok L xs m pc (a_stk f_pop (pc + 1)) :=
  k_stk (fun M st st' h h2 => by obtain ⟨x, r, rfl, rfl⟩ := f_pop_of h; exact (m_okV_cons.mp h2).2) fun X lsA ad hx hb H locs cells slots st st' h k => by obtain ⟨x, r, rfl, rfl⟩ := f_pop_of h; exact lv_pop hx hb hd rfl k
theorem k_ineg (hd : decode (mcc m) pc = .ok (.ineg, 1)) : m_Ok L xs m pc (a_stk f_ineg (pc + 1)) :=
  k_stk (fun M st st' h h2 => by obtain ⟨x, r, rfl, rfl⟩ := f_ineg_of h; exact m_okV_cons.mpr ⟨trivial, (m_okV_cons.mp h2).2⟩) fun X lsA ad hx hb H locs cells slots st st' h k => by obtain ⟨x, r, rfl, rfl⟩ := f_ineg_of h; exact lv_ineg hx hb hd k
theorem k_dup (hd : decode (mcc m) pc = .ok (.dup, 1)) : m_Ok L xs m pc (a_stk f_dup (pc + 1)) :=
  k_stk (fun M st st' h h2 => by obtain ⟨v, r, -, rfl, rfl⟩ := f_dup_of h; exact m_okV_cons.mpr ⟨(m_okV_cons.mp h2).1, h2⟩) fun X lsA ad hx hb H locs cells slots st st' h k => by obtain ⟨v, r, hc, rfl, rfl⟩ := f_dup_of h; exact lv_dup hx hb hd (hc.2 _ _) k
end KA
/-! branches -/
def a_if (c : Int32 → Bool) (t f : Nat) : mA := fun ls st M => match st with
  | .int x :: r => cond (c x) (m_nx t ls r M) (m_nx f ls r M)
  | _ => none
def a_ic (c : Int32 → Int32 → Bool) (t f : Nat) : mA := fun ls st M => match st with
  | .int y :: .int x :: r => cond (c x y) (m_nx t ls r M) (m_nx f ls r M)
  | _ => none
section KB
variable {L : Nat} {xs : Nat → Int32} {m pc t : Nat}
theorem k_if {f : Nat} {c : Int32 → Bool} (hW : ∀ (X : m_X) (lsA : Array Slot), (x_p X).tables.exec = Jvm.exec → (x_c X).code = mcc m → ∀ (H : Heap) (locs : List Loc) (cells slots : Nat) (x : Int32) (r : List Value), (c x = true → m_W X H locs cells slots t lsA r) → (c x = false → m_W X H locs cells slots f lsA r) → m_W X H locs cells slots pc lsA (.int x :: r)) : m_Ok L xs m pc (a_if c t f) := by
  refine m_okP fun ls st M => ?_
  match st with
  | [] => trivial
  | .int x :: r =>
    show match cond (c x) (m_nx t ls r M) (m_nx f ls r M) with
      | none => True
      | some (.inl (pc', ls', st', M')) => _
      | some (.inr _) => False
    cases hc : c x with
    | true => exact ⟨rfl, fun _ h1 h2 => ⟨h1, (m_okV_cons.mp h2).2⟩, fun X hX H lsA ad locs cells slots _ hLR _ _ k => hW X lsA hX.1 hX.2.1 H locs cells slots x _ (fun _ => k lsA hLR) (fun e => by rw [hc] at e; cases e)⟩
    | false => exact ⟨rfl, fun _ h1 h2 => ⟨h1, (m_okV_cons.mp h2).2⟩, fun X hX H lsA ad locs cells slots _ hLR _ _ k => hW X lsA hX.1 hX.2.1 H locs cells slots x _ (fun e => by rw [hc] at e; cases e) (fun _ => k lsA hLR)⟩
  | .long _ :: _ => trivial
  | .float _ :: _ => trivial
  | .double _ :: _ => trivial
  | .null :: _ => trivial
  | .ref _ :: _ => trivial
  | .retAddr _ :: _ => trivial
theorem k_ic {f : Nat} {c : Int32 → Int32 → Bool} (hW : ∀ (X : m_X) (lsA : Array Slot), (x_p X).tables.exec = Jvm.exec → (x_c X).code = mcc m → ∀ (H : Heap) (locs : List Loc) (cells slots : Nat) (x y : Int32) (r : List Value), (c x y = true → m_W X H locs cells slots t lsA r) → (c x y = false → m_W X H locs cells slots f lsA r) → m_W X H locs cells slots pc lsA (.int y :: .int x :: r)) : m_Ok L xs m pc (a_ic c t f) := by
  refine m_okP fun ls st M => ?_
  unfold a_ic
  split
  · trivial
  · rename_i heq
    split at heq
    · rename_i y x r
      cases hc : c x y with
      | true =>
        rw [hc] at heq
        cases heq
        exact ⟨rfl, fun _ h1 h2 => ⟨h1, (m_okV_cons.mp (m_okV_cons.mp h2).2).2⟩, fun X hX H lsA ad locs cells slots _ hLR _ _ k => hW X lsA hX.1 hX.2.1 H locs cells slots x y _ (fun _ => k lsA hLR) (fun e => by rw [hc] at e; cases e)⟩
      | false =>
        rw [hc] at heq
        cases heq
        exact ⟨rfl, fun _ h1 h2 => ⟨h1, (m_okV_cons.mp (m_okV_cons.mp h2).2).2⟩, fun X hX H lsA ad locs cells slots _ hLR _ _ k => hW X lsA hX.1 hX.2.1 H locs cells slots x y _ (fun e => by rw [hc] at e; cases e) (fun _ => k lsA hLR)⟩
    · cases heq
  · rename_i heq
    split at heq
    · rename_i y x r
      cases hc : c x y <;> rw [hc] at heq <;> cases heq
    · cases heq
def c_eq0 (x : Int32) : Bool := decide (x = 0)
def c_ne0 (x : Int32) : Bool := !decide (x = 0)
def c_lt0 (x : Int32) : Bool := decide (x < 0)
def c_ge0 (x : Int32) : Bool := decide (0 ≤ x)
def c_gt0 (x : Int32) : Bool := decide (0 < x)
def c_le0 (x : Int32) : Bool := decide (x ≤ 0)
def c_eq (x y : Int32) : Bool := decide (x = y)
def c_ne (x y : Int32) : Bool := !decide (x = y)
def c_lt (x y : Int32) : Bool := decide (x < y)
def c_ge (x y : Int32) : Bool := decide (y ≤ x)
def c_gt (x y : Int32) : Bool := decide (y < x)
def c_le (x y : Int32) : Bool := decide (x ≤ y)
theorem k_if_eq {off : Int} (hd : decode (mcc m) pc = .ok (.ifCond .eq off, 3)) (ht : (pc : Int) + off = (t : Int)) : m_Ok L xs m pc (a_if c_eq0 t (pc + 3)) := k_if fun X lsA hx hb H locs cells slots x r k1 k2 => lv_if_eq hx hb hd ht (fun h => k1 (by simp [c_eq0, h])) (fun h => k2 (by simp [c_eq0, h]))
theorem k_if_ne {off : Int} (hd : decode (mcc m) pc = .ok (.ifCond .ne off, 3)) (ht : (pc : Int) + off = (t : Int)) : m_Ok L xs m pc (a_if c_ne0 t (pc + 3)) := k_if fun X lsA hx hb H locs cells slots x r k1 k2 => lv_if_ne hx hb hd ht (fun h => k1 (by simp [c_ne0, h])) (fun h => k2 (by simp [c_ne0, h]))
theorem k_if_lt {off : Int} (hd : decode (mcc m) pc = .ok (.ifCond .lt off, 3)) (ht : (pc : Int) + off = (t : Int)) : m_Ok L xs m pc (a_if c_lt0 t (pc + 3)) := k_if fun X lsA hx hb H locs cells slots x r k1 k2 => lv_if_lt hx hb hd ht (fun h => k1 (decide_eq_true h)) (fun h => k2 (decide_eq_false h))
theorem k_if_ge {off : Int} (hd : decode (mcc m) pc = .ok (.ifCond .ge off, 3)) (ht : (pc : Int) + off = (t : Int)) : m_Ok L xs m pc (a_if c_ge0 t (pc + 3)) := k_if fun X lsA hx hb H locs cells slots x r k1 k2 => lv_if_ge hx hb hd ht (fun h => k1 (decide_eq_true h)) (fun h => k2 (decide_eq_false h))
theorem k_if_gt {off : Int} (hd : decode (mcc m) pc = .ok (.ifCond .gt off, 3)) (ht : (pc : Int) + off = (t : Int)) : m_Ok L xs m pc (a_if c_gt0 t (pc + 3)) := k_if fun X lsA hx hb H locs cells slots x r k1 k2 => lv_if_gt hx hb hd ht (fun h => k1 (decide_eq_true h)) (fun h => k2 (decide_eq_false h))
theorem k_if_le {off : Int} (hd : decode (mcc m) pc = .ok (.ifCond .le off, 3)) (ht : (pc : Int) + off = (t : Int)) : m_Ok L xs m pc (a_if c_le0 t (pc + 3)) := k_if fun X lsA hx hb H locs cells slots x r k1 k2 => lv_if_le hx hb hd ht (fun h => k1 (decide_eq_true h)) (fun h => k2 (decide_eq_false h))
theorem k_ic_eq {off : Int} (hd : decode (mcc m) pc = .ok (.if_icmp .eq off, 3)) (ht : (pc : Int) + off = (t : Int)) : m_Ok L xs m pc (a_ic c_eq t (pc + 3)) := k_ic fun X lsA hx hb H locs cells slots x y r k1 k2 => lv_icmp_eq hx hb hd ht (fun h => k1 (decide_eq_true h)) (fun h => k2 (decide_eq_false h))
theorem k_ic_ne {off : Int} (hd : decode (mcc m) pc = .ok (.if_icmp .ne off, 3)) (ht : (pc : Int) + off = (t : Int)) : m_Ok L xs m pc (a_ic c_ne t (pc + 3)) := k_ic fun X lsA hx hb H locs cells slots x y r k1 k2 => lv_icmp_ne hx hb hd ht (fun h => k1 (by simp [c_ne, h])) (fun h => k2 (by simp [c_ne, h]))
theorem k_ic_lt {off : Int} (hd : decode (mcc m) pc = .ok (.if_icmp .lt off, 3)) (ht : (pc : Int) + off = (t : Int)) : m_Ok L xs m pc (a_ic c_lt t (pc + 3)) := k_ic fun X lsA hx hb H locs cells slots x y r k1 k2 => lv_icmp_lt hx hb hd ht (fun h => k1 (decide_eq_true h)) (fun h => k2 (decide_eq_false h))
theorem k_ic_ge {off : Int} (hd : decode (mcc m) pc = .ok (.if_icmp .ge off, 3)) (ht : (pc : Int) + off = (t : Int)) : m_Ok L xs m pc (a_ic c_ge t (pc + 3)) := k_ic fun X lsA hx hb H locs cells slots x y r k1 k2 => lv_icmp_ge hx hb hd ht (fun h => k1 (decide_eq_true h)) (fun h => k2 (decide_eq_false h))
theorem k_ic_gt {off : Int} (hd : decode (mcc m) pc = .ok (.if_icmp .gt off, 3)) (ht : (pc : Int) + off = (t : Int)) : m_Ok L xs m pc (a_ic c_gt t (pc + 3)) := k_ic fun X lsA hx hb H locs cells slots x y r k1 k2 => lv_icmp_gt hx hb hd ht (fun h => k1 (decide_eq_true h)) (fun h => k2 (decide_eq_false h))
theorem k_ic_le {off : Int} (hd : decode (mcc m) pc = .ok (.if_icmp .le off, 3)) (ht : (pc : Int) + off = (t : Int)) : m_Ok L xs m pc (a_ic c_le t (pc + 3)) := k_ic fun X lsA hx hb H locs cells slots x y r k1 k2 => lv_icmp_le hx hb hd ht (fun h => k1 (decide_eq_true h)) (fun h => k2 (decide_eq_false h))
end KB
def a_goto (t : Nat) : mA := fun ls st M => m_nx t ls st M
theorem k_goto {L : Nat} {xs : Nat → Int32} {m pc t : Nat} {off : Int} (hd : decode (mcc m) pc = .ok (.goto off, 3)) (ht : (pc : Int) + off = (t : Int)) : m_Ok L xs m pc (a_goto t) :=
  m_okP fun ls st M => ⟨rfl, fun _ h1 h2 => ⟨h1, h2⟩, fun X hX H lsA ad locs cells slots _ hLR _ _ k => lv_goto hX.1 hX.2.1 hd ht (k lsA hLR)⟩
/-- a switch over 0, 1 ..: the place to go to -/
def m_swi : List (Int32 × Nat) → Nat → Int32 → Nat
  | [], d, _ => d
  | c :: cs, d, x => if x = c.1 then c.2 else m_swi cs d x
def a_tsw (cs : List (Int32 × Nat)) (d : Nat) : mA := fun ls st M => match st with
  | .int x :: r => m_nx (m_swi cs d x) ls r M
  | _ => none
theorem m_swi_at : ∀ (cs : List (Int32 × Nat)) (d : Nat) (x : Int32) (i j : Nat), (∀ k c, cs[k]? = some c → c.1 = nI (j + k)) → x = nI (j + i) → j + i < 2 ^ 31 → ∀ c, cs[i]? = some c → m_swi cs d x = c.2
  | [], _, _, _, _, _, _, _, _, hi => by simp at hi
  | c0 :: cs, d, x, 0, j, h, hx, hlt, c, hi => by
    simp at hi
    subst hi
    unfold m_swi
    rw [if_pos (hx.trans (h 0 c0 rfl).symm)]
  | c0 :: cs, d, x, i + 1, j, h, hx, hlt, c, hi => by
    unfold m_swi
    have h0 := h 0 c0 rfl
    rw [if_neg (fun e => by
      have e2 : nI (j + (i + 1)) = nI (j + 0) := by rw [← hx, e, h0]
      have := (nI_eq hlt (by omega)).mp e2
      omega)]
    exact m_swi_at cs d x i (j + 1) (fun k c hk => by rw [h (k + 1) c (by simpa using hk)]; congr 1; omega) (by rw [hx]; congr 1; omega) (by omega) c (by simpa using hi)
theorem m_swi_out : ∀ (cs : List (Int32 × Nat)) (d : Nat) (x : Int32), (∀ (k : Nat) (c : Int32 × Nat), cs[k]? = some c → x ≠ c.1) → m_swi cs d x = d
  | [], _, _, _ => rfl
  | c0 :: cs, d, x, h => by
    unfold m_swi
    rw [if_neg (h 0 c0 rfl)]
    exact m_swi_out cs d x (fun k c hk => h (k + 1) c (by simpa using hk))
theorem k_tsw {L : Nat} {xs : Nat → Int32} {m pc d len : Nat} {dflt : Int} {hi : Nat} {offs : Array Int} {cs : List (Int32 × Nat)} (hd : decode (mcc m) pc = .ok (.tableswitch dflt 0 (hi : Int) offs, len)) (hdf : (pc : Int) + dflt = (d : Int)) (hn : cs.length = hi + 1) (hhi : hi < 1000)
    (hcs : ∀ k, k < hi + 1 → ∀ c, cs[k]? = some c → c.1 = nI k ∧ ∃ o, offs[k]? = some o ∧ (pc : Int) + o = (c.2 : Int)) : m_Ok L xs m pc (a_tsw cs d) := by
  refine m_okP fun ls st M => ?_
  unfold a_tsw
  split
  · trivial
  · rename_i heq
    split at heq
    · rename_i x r
      cases heq
      refine ⟨rfl, fun _ h1 h2 => ⟨h1, (m_okV_cons.mp h2).2⟩, fun X hX H lsA ad locs cells slots _ hLR _ _ k => ?_⟩
      have kk := k lsA hLR
      have hc1 : ∀ k c, cs[k]? = some c → c.1 = nI (0 + k) := fun k c hk => by rw [Nat.zero_add]; exact (hcs k (by have := (List.getElem?_eq_some_iff.mp hk).1; omega) c hk).1
      by_cases hin : x.toInt < 0 ∨ (hi : Int) < x.toInt
      · rw [m_swi_out cs d x (fun k c hk e => by
          have hkl := (List.getElem?_eq_some_iff.mp hk).1
          rw [hc1 k c hk, Nat.zero_add] at e
          rw [e, nI_toInt (by omega)] at hin
          omega)] at kk
        exact lv_tableOut hX.1 hX.2.1 hd hin hdf kk
      · have h1 : ¬ x.toInt < 0 := fun z => hin (Or.inl z)
        have h2 : ¬ (hi : Int) < x.toInt := fun z => hin (Or.inr z)
        have hxn : x = nI x.toInt.toNat := by
          apply Int32.toInt_inj.mp
          rw [nI_toInt (by omega)]
          omega
        have hkl : x.toInt.toNat < hi + 1 := by omega
        obtain ⟨c, hc⟩ : ∃ c, cs[x.toInt.toNat]? = some c := ⟨cs[x.toInt.toNat]'(by omega), List.getElem?_eq_getElem (by omega)⟩
        obtain ⟨-, o, ho, hto⟩ := hcs _ hkl c hc
        rw [m_swi_at cs d x x.toInt.toNat 0 hc1 (by rw [Nat.zero_add]; exact hxn) (by omega) c hc] at kk
        exact lv_tableIn hX.1 hX.2.1 hd h1 h2 (by rw [Int.sub_zero]; exact ho) hto kk
    · cases heq
  · rename_i heq
    split at heq <;> cases heq
end
section
/-! the heap -/
def m_fld (M : mM) (o ci k : Nat) : Option Value := match M[o]? with
  | some (.inr (c, fs)) => cond (Nat.beq c ci) fs[k]? none
  | _ => none
def m_put (M : mM) (o ci k : Nat) (v : Value) : Option mM := match M[o]? with
  | some (.inr (c, fs)) => cond (Nat.beq c ci && Nat.blt k fs.length) (some (M.set o (.inr (c, fs.set k v)))) none
  | _ => none
def m_arr (M : mM) (o : Nat) : Option (Nat × (Nat → Int32)) := match M[o]? with
  | some (.inl a) => some a
  | _ => none
def m_inb (i : Int32) (n : Nat) : Bool := decide (0 ≤ i) && decide (i.toNatClampNeg < n)
theorem m_inb_of {i : Int32} {n : Nat} (h : m_inb i n = true) : vp_in i n := by
  simp only [m_inb, Bool.and_eq_true, decide_eq_true_eq] at h
  rintro (h1 | h1)
  · exact absurd h1 (Int32.not_lt.mpr h.1)
  · omega
def m_ast (M : mM) (o : Nat) (i x : Int32) : Option mM := match M[o]? with
  | some (.inl (n, f)) => cond (m_inb i n) (some (M.set o (.inl (n, upd f i.toNatClampNeg x)))) none
  | _ => none
theorem m_fld_of {M : mM} {o ci k : Nat} {v : Value} (h : m_fld M o ci k = some v) : ∃ fs, M[o]? = some (.inr (ci, fs)) ∧ fs[k]? = some v := by
  unfold m_fld at h
  split at h
  · rename_i c fs hc
    cases hb : Nat.beq c ci with
    | false => rw [hb] at h; cases h
    | true =>
      rw [hb] at h
      have e := Nat.eq_of_beq_eq_true hb
      subst e
      exact ⟨fs, hc, h⟩
  · cases h
theorem m_put_of {M M' : mM} {o ci k : Nat} {v : Value} (h : m_put M o ci k v = some M') : ∃ fs, M[o]? = some (.inr (ci, fs)) ∧ k < fs.length ∧ M' = M.set o (.inr (ci, fs.set k v)) := by
  unfold m_put at h
  split at h
  · rename_i c fs hc
    cases hb : (Nat.beq c ci && Nat.blt k fs.length) with
    | false => rw [hb] at h; cases h
    | true =>
      rw [hb] at h
      simp only [Bool.and_eq_true] at hb
      have e := Nat.eq_of_beq_eq_true hb.1
      subst e
      cases h
      exact ⟨fs, hc, by have := Nat.le_of_ble_eq_true (show Nat.ble (k + 1) fs.length = true from hb.2); omega, rfl⟩
  · cases h
theorem m_arr_of {M : mM} {o : Nat} {a : Nat × (Nat → Int32)} (h : m_arr M o = some a) : M[o]? = some (.inl a) := by
  unfold m_arr at h
  split at h
  · rename_i a' ha
    cases h
    exact ha
  · cases h
theorem m_ast_of {M M' : mM} {o : Nat} {i x : Int32} (h : m_ast M o i x = some M') : ∃ n f, M[o]? = some (.inl (n, f)) ∧ vp_in i n ∧ M' = M.set o (.inl (n, upd f i.toNatClampNeg x)) := by
  unfold m_ast at h
  split at h
  · rename_i n f hc
    cases hb : m_inb i n with
    | false => rw [hb] at h; cases h
    | true => rw [hb] at h; cases h; exact ⟨n, f, hc, m_inb_of hb, rfl⟩
  · cases h
theorem m_sz_set {M : mM} {o : Nat} {c c' : mC} (h : M[o]? = some c) (hc : m_sc c' = m_sc c) : m_sz (M.set o c') = m_sz M := by
  unfold m_sz
  rw [List.map_set, hc]
  have e : (M.map m_sc).set o (m_sc c) = M.map m_sc := by
    apply List.ext_getElem?
    intro j
    by_cases hj : j = o
    · subst hj
      have hl := (List.getElem?_eq_some_iff.mp h).1
      rw [List.getElem?_set_self (by rw [List.length_map]; exact hl), List.getElem?_map, h]
      rfl
    · rw [List.getElem?_set_ne (Ne.symm hj)]
  rw [e]
theorem m_okM_set {M : mM} {o : Nat} {c' : mC} (h : m_okM M) (hc : m_okC M.length c') : m_okM (M.set o c') := by
  intro c hm
  rw [List.length_set]
  rcases List.mem_or_eq_of_mem_set hm with h1 | h1
  · exact h c h1
  · exact h1 ▸ hc
theorem m_okV_len {M M' : mM} {vs : List Value} (h : m_okV M vs) (e : M'.length = M.length) : m_okV M' vs := fun v hv => by rw [e]; exact h v hv
def a_get (ci k pc' : Nat) : mA := fun ls st M => match st with
  | .ref o :: r => match m_fld M o ci k with
    | some v => m_nx pc' ls (v :: r) M
    | none => none
  | _ => none
theorem k_get {L : Nat} {xs : Nat → Int32} {m pc ci k index N : Nat} {C : String} {T : u_T} (hd : decode (mcc m) pc = .ok (.getfield index, 3)) (hc : vwCl[ci]? = some (C, T, N)) (hk : k < N) (hin : ∀ w ∈ u_ws C T N, w ∈ lw_tbl) (hw : Cond.fieldLink (mY m).cls index (T k).1 (T k).2.1 (T k).2.2.1 ∈ lw_tbl) : m_Ok L xs m pc (a_get ci k (pc + 3)) := by
  refine m_okP fun ls st M => ?_
  unfold a_get
  split
  · trivial
  · rename_i heq
    split at heq
    · rename_i o r
      split at heq
      · rename_i v hv
        cases heq
        obtain ⟨fs, hM, hfs⟩ := m_fld_of hv
        refine ⟨rfl, fun h3 h1 h2 => ⟨h1, m_okV_cons.mpr ⟨h3 _ (List.mem_of_getElem? hM) v (List.mem_of_getElem? hfs), (m_okV_cons.mp h2).2⟩⟩, fun X hX H lsA ad locs cells slots hRL hLR _ _ kk => ?_⟩
        exact va_get hX.1 hX.2.1 hX.2.2.2.2.1 hin hX.2.2.2.1 hX.2.2.2.2.2.1 hRL.1 o (m_ws_at hM) hc k hk (hX.2.2.2.2.1 _ hw) (fun _ h => h) (by rw [List.getElem?_map, hfs]; rfl) hd (kk lsA hLR)
      · cases heq
    · cases heq
  · rename_i heq
    split at heq
    · split at heq <;> cases heq
    · cases heq
def a_iald (pc' : Nat) : mA := fun ls st M => match st with
  | .int i :: .ref o :: r => match m_arr M o with
    | some a => cond (m_inb i a.1) (m_nx pc' ls (.int (a.2 i.toNatClampNeg) :: r) M) none
    | none => none
  | _ => none
theorem k_iald {L : Nat} {xs : Nat → Int32} {m pc : Nat} (hd : decode (mcc m) pc = .ok (.iaload, 1)) : m_Ok L xs m pc (a_iald (pc + 1)) := by
  refine m_okP fun ls st M => ?_
  unfold a_iald
  split
  · trivial
  · rename_i heq
    split at heq
    · rename_i i o r
      split at heq
      · rename_i a ha
        cases hb : m_inb i a.1 with
        | false => rw [hb] at heq; cases heq
        | true =>
          rw [hb] at heq
          cases heq
          obtain ⟨n, f⟩ := a
          exact ⟨rfl, fun _ h1 h2 => ⟨h1, m_okV_cons.mpr ⟨trivial, (m_okV_cons.mp (m_okV_cons.mp h2).2).2⟩⟩, fun X hX H lsA ad locs cells slots hRL hLR _ _ kk => va_iald hX.1 hX.2.1 hX.2.2.2.2.2.1 hRL.1 o 0 (m_ws_at (m_arr_of ha)) rfl (m_inb_of hb) hd (kk lsA hLR)⟩
      · cases heq
    · cases heq
  · rename_i heq
    split at heq
    · rename_i i o r
      split at heq
      · rename_i a ha
        cases hb : m_inb i a.1 <;> rw [hb] at heq <;> cases heq
      · cases heq
    · cases heq
def a_alen (pc' : Nat) : mA := fun ls st M => match st with
  | .ref o :: r => match m_arr M o with
    | some a => m_nx pc' ls (.int (nI a.1) :: r) M
    | none => none
  | _ => none
theorem k_alen {L : Nat} {xs : Nat → Int32} {m pc : Nat} (hd : decode (mcc m) pc = .ok (.arraylength, 1)) : m_Ok L xs m pc (a_alen (pc + 1)) := by
  refine m_okP fun ls st M => ?_
  unfold a_alen
  split
  · trivial
  · rename_i heq
    split at heq
    · rename_i o r
      split at heq
      · rename_i a ha
        cases heq
        obtain ⟨n, f⟩ := a
        exact ⟨rfl, fun _ h1 h2 => ⟨h1, m_okV_cons.mpr ⟨trivial, (m_okV_cons.mp h2).2⟩⟩, fun X hX H lsA ad locs cells slots hRL hLR _ _ kk => va_alen hX.1 hX.2.1 hX.2.2.2.2.2.1 hRL.1 o 0 (m_ws_at (m_arr_of ha)) rfl rfl hd (kk lsA hLR)⟩
      · cases heq
    · cases heq
  · rename_i heq
    split at heq
    · split at heq <;> cases heq
    · cases heq
/-! the script -/
def a_sld (L : Nat) (xs : Nat → Int32) (pc' : Nat) : mA := fun ls st M => match st with
  | .int i :: .float _ :: r => cond (m_inb i L) (m_nx pc' ls (.int (xs i.toNatClampNeg) :: r) M) none
  | _ => none
theorem k_sld {L : Nat} {xs : Nat → Int32} {m pc : Nat} (hd : decode (mcc m) pc = .ok (.iaload, 1)) : m_Ok L xs m pc (a_sld L xs (pc + 1)) := by
  refine m_okP fun ls st M => ?_
  unfold a_sld
  split
  · trivial
  · rename_i heq
    split at heq
    · rename_i i _ r
      cases hb : m_inb i L with
      | false => rw [hb] at heq; cases heq
      | true =>
        rw [hb] at heq
        cases heq
        exact ⟨rfl, fun _ h1 h2 => ⟨h1, m_okV_cons.mpr ⟨trivial, (m_okV_cons.mp (m_okV_cons.mp h2).2).2⟩⟩, fun X hX H lsA ad locs cells slots hRL hLR _ _ kk => va_sld hX.1 hX.2.1 hX.2.2.2.2.2.2.2.2.2.2.2.2.1 hX.2.2.2.2.2.2.2.2.2.2.2.2.2.1 hX.2.2.2.2.2.2.2.2.2.2.2.2.2.2 hRL.2.2 (m_inb_of hb) hd (kk lsA hLR)⟩
    · cases heq
  · rename_i heq
    split at heq
    · rename_i i _ r
      cases hb : m_inb i L <;> rw [hb] at heq <;> cases heq
    · cases heq
def a_slen (L : Nat) (pc' : Nat) : mA := fun ls st M => match st with
  | .float _ :: r => m_nx pc' ls (.int (nI L) :: r) M
  | _ => none
theorem k_slen {L : Nat} {xs : Nat → Int32} {m pc : Nat} (hd : decode (mcc m) pc = .ok (.arraylength, 1)) : m_Ok L xs m pc (a_slen L (pc + 1)) := by
  refine m_okP fun ls st M => ?_
  unfold a_slen
  split
  · trivial
  · rename_i heq
    split at heq
    · rename_i _ r
      cases heq
      exact ⟨rfl, fun _ h1 h2 => ⟨h1, m_okV_cons.mpr ⟨trivial, (m_okV_cons.mp h2).2⟩⟩, fun X hX H lsA ad locs cells slots hRL hLR _ _ kk => va_slen hX.1 hX.2.1 hX.2.2.2.2.2.2.2.2.2.2.2.2.1 hX.2.2.2.2.2.2.2.2.2.2.2.2.2.1 hX.2.2.2.2.2.2.2.2.2.2.2.2.2.2 hRL.2.2 hd (kk lsA hLR)⟩
    · cases heq
  · rename_i heq
    split at heq <;> cases heq
/-! writes -/
theorem m_okW {L : Nat} {xs : Nat → Int32} {m pc pc' : Nat} {a : mA} (h : ∀ ls st M, match a ls st M with
    | none => True
    | some (.inl (p', ls', st', M')) => p' = pc' ∧ ls' = ls ∧ (m_okV M st → m_okV M st') ∧ (m_okM M → m_okV M st → m_okM M') ∧ M'.length = M.length ∧ m_sz M' = m_sz M ∧ ∀ (X : m_X), m_CX L xs m X → ∀ (H : Heap) (lsA : Array Slot) (ad : Nat → Nat) (locs : List Loc) (cells slots : Nat), lsA.size = mml m → m_RL X ad M H locs → (∀ H1 locs1, m_RL X ad M' H1 locs1 → m_W X H1 locs1 cells slots pc' lsA (st'.map (m_cv (x_b X) ad))) → m_W X H locs cells slots pc lsA (st.map (m_cv (x_b X) ad))
    | some (.inr _) => False) : m_Ok L xs m pc a := by
  intro ls st M h1 h2 h3
  have h0 := h ls st M
  cases ha : a ls st M with
  | none => trivial
  | some r =>
    rw [ha] at h0
    match r, h0 with
    | .inl (p', ls', st', M'), h0 =>
      simp only at h0 ⊢
      obtain ⟨rfl, rfl, g1, g2, g3, g4, g5⟩ := h0
      refine ⟨⟨m_okV_len h1 g3, m_okV_len (g1 h2) g3, g2 h3 h2, by omega, by omega⟩, fun X hX n0 z0 ad0 hn hcl hsl hJ H lsA ad locs cells slots had hc hz hRL hLR => ?_⟩
      exact g5 X hX H lsA ad locs cells slots hLR.2.1 hRL (fun H1 locs1 hRL1 => hJ H1 lsA ad locs1 cells slots had (by omega) (by omega) hRL1 hLR)
def a_put (q : Value → Bool) (ci k pc' : Nat) : mA := fun ls st M => match st with
  | v :: .ref o :: r => cond (q v) (match m_put M o ci k v with
    | some M' => m_nx pc' ls r M'
    | none => none) none
  | _ => none
theorem a_put_of {q : Value → Bool} {ci k pc' : Nat} {ls st : List Value} {M : mM} {r : mR} (h : a_put q ci k pc' ls st M = some r) : ∃ v o rest M', st = v :: .ref o :: rest ∧ q v = true ∧ m_put M o ci k v = some M' ∧ r = .inl (pc', ls, rest, M') := by
  unfold a_put at h
  split at h
  · rename_i v o rest
    cases hq : q v with
    | false => rw [hq] at h; cases h
    | true =>
      rw [hq] at h
      simp only [cond_true] at h
      split at h
      · rename_i M' hM'
        cases h
        exact ⟨v, o, rest, M', rfl, hq, hM', rfl⟩
      · cases h
  · cases h
theorem k_putW {L : Nat} {xs : Nat → Int32} {m pc ci k : Nat} {q : Value → Bool} (hW : ∀ (X : m_X), m_CX L xs m X → ∀ (H : Heap) (lsA : Array Slot) (ad : Nat → Nat) (locs : List Loc) (cells slots : Nat) (v : Value) (o : Nat) (r : List Value) (M : mM) (fs : List Value), q v = true → m_RL X ad M H locs → M[o]? = some (.inr (ci, fs)) → k < fs.length →
      (∀ (H1 : Heap) (locs1 : List Loc), va_P (x_D X) vwCl ((m_ws (x_b X) ad (x_cA X) M).set o (ad o, .inr (ci, (fs.map (m_cv (x_b X) ad)).set k (m_cv (x_b X) ad v)))) H1 → va_D (x_A X) ((m_ws (x_b X) ad (x_cA X) M).set o (ad o, .inr (ci, (fs.map (m_cv (x_b X) ad)).set k (m_cv (x_b X) ad v)))) → va_S (x_A X) (x_s X).heap H1 locs1 → m_W X H1 locs1 cells slots (pc + 3) lsA r) → m_W X H locs cells slots pc lsA (m_cv (x_b X) ad v :: .ref (ad o) :: r)) : m_Ok L xs m pc (a_put q ci k (pc + 3)) := by
  refine m_okW (pc' := pc + 3) fun ls st M => ?_
  cases ha : a_put q ci k (pc + 3) ls st M with
  | none => trivial
  | some r =>
    obtain ⟨v, o, rest, M', rfl, hq, hM', rfl⟩ := a_put_of ha
    obtain ⟨fs, hM, hk, rfl⟩ := m_put_of hM'
    refine ⟨rfl, rfl, fun h2 => (m_okV_cons.mp (m_okV_cons.mp h2).2).2, fun h3 h2 => m_okM_set h3 ?_, by rw [List.length_set], m_sz_set hM (by simp [m_sc]), fun X hX H lsA ad locs cells slots _ hRL kk => ?_⟩
    · intro w hw
      rcases List.mem_or_eq_of_mem_set hw with h1 | h1
      · exact h3 _ (List.mem_of_getElem? hM) w h1
      · exact h1 ▸ (m_okV_cons.mp h2).1
    · refine hW X hX H lsA ad locs cells slots v o _ M fs hq hRL hM hk fun H1 locs1 hP hD hS => kk H1 locs1 ?_
      have e : m_ws (x_b X) ad (x_cA X) (M.set o (.inr (ci, fs.set k v))) = (m_ws (x_b X) ad (x_cA X) M).set o (ad o, .inr (ci, (fs.map (m_cv (x_b X) ad)).set k (m_cv (x_b X) ad v))) := by
        rw [m_ws_set]
        simp only [m_ce, List.map_set]
      unfold m_RL
      rw [e]
      exact ⟨hP, hD, hS⟩
section KPUT
variable {L : Nat} {xs : Nat → Int32} {m pc ci k index N : Nat} {C : String} {T : u_T} {ty0 : Nat → FieldType}
theorem k_putI (hd : decode (mcc m) pc = .ok (.putfield index, 3)) (hc : vwCl[ci]? = some (C, T, N)) (hk : k < N) (hin : ∀ w ∈ u_ws C T N, w ∈ lw_tbl) (hw : Cond.fieldLink (mY m).cls index (T k).1 (T k).2.1 (T k).2.2.1 ∈ lw_tbl) (hty : ∀ k, k < N → parseFieldDescriptor (T k).2.2.1 = some (ty0 k)) (hnm : ∀ a, a < N → ∀ b, b < N → a ≠ b → (T a).2.1 ≠ (T b).2.1) (hfin : (T k).2.2.2 = false) (ht : ty0 k = .int) : m_Ok L xs m pc (a_put q_int ci k (pc + 3)) :=
  k_putW fun X hX H lsA ad locs cells slots v o r M fs hv hRL hM hkl kk => by
    obtain ⟨x, rfl⟩ := q_int_of hv
    exact va_put hX.1 hX.2.1 hX.2.2.2.2.1 hin ty0 hty hnm hX.2.2.2.1 hX.2.2.2.2.2.1 hRL.1 hRL.2.1 hRL.2.2 o (m_ws_at hM) hc k hk (hX.2.2.2.2.1 _ hw) (fun _ h => h) hfin (hty k hk) (by rw [ht]; rfl) (by rw [ht]; rfl) (by rw [List.length_map]; exact hkl) hd kk
theorem k_putR (hd : decode (mcc m) pc = .ok (.putfield index, 3)) (hc : vwCl[ci]? = some (C, T, N)) (hk : k < N) (hin : ∀ w ∈ u_ws C T N, w ∈ lw_tbl) (hw : Cond.fieldLink (mY m).cls index (T k).1 (T k).2.1 (T k).2.2.1 ∈ lw_tbl) (hty : ∀ k, k < N → parseFieldDescriptor (T k).2.2.1 = some (ty0 k)) (hnm : ∀ a, a < N → ∀ b, b < N → a ≠ b → (T a).2.1 ≠ (T b).2.1) (hfin : (T k).2.2.2 = true) (hi : (mY m).name = "<init>") (hdc : (T k).1 = (mY m).cls) (hrt : (∃ s, ty0 k = .object s) ∨ ∃ t, ty0 k = .array t) : m_Ok L xs m pc (a_put q_ref ci k (pc + 3)) :=
  k_putW fun X hX H lsA ad locs cells slots v o r M fs hv hRL hM hkl kk => by
    obtain ⟨x, hx⟩ := q_ref_of hv (x_b X) ad
    rw [hx] at kk ⊢
    exact va_putF hX.1 hX.2.1 hX.2.2.2.2.1 hin ty0 hty hnm hX.2.2.2.1 hX.2.2.2.2.2.1 hRL.1 hRL.2.1 hRL.2.2 o (m_ws_at hM) hc k hk (hX.2.2.2.2.1 _ hw) (fun _ h => h) hfin (hX.2.2.2.2.2.2.2.2.2.1.trans hi) hdc (hty k hk) (by rcases hrt with ⟨s, e⟩ | ⟨t, e⟩ <;> rw [e] <;> rfl) (by rcases hrt with ⟨s, e⟩ | ⟨t, e⟩ <;> rw [e] <;> rfl) (by rw [List.length_map]; exact hkl) hd kk
end KPUT
def a_iast (pc' : Nat) : mA := fun ls st M => match st with
  | .int x :: .int i :: .ref o :: r => match m_ast M o i x with
    | some M' => m_nx pc' ls r M'
    | none => none
  | _ => none
theorem k_iast {L : Nat} {xs : Nat → Int32} {m pc : Nat} (hd : decode (mcc m) pc = .ok (.iastore, 1)) : m_Ok L xs m pc (a_iast (pc + 1)) := by
  refine m_okW (pc' := pc + 1) fun ls st M => ?_
  unfold a_iast
  split
  · trivial
  · rename_i heq
    split at heq
    · rename_i x i o r
      split at heq
      · rename_i M' hM'
        cases heq
        obtain ⟨n, f, hM, hin, rfl⟩ := m_ast_of hM'
        refine ⟨rfl, rfl, fun h2 => (m_okV_cons.mp (m_okV_cons.mp (m_okV_cons.mp h2).2).2).2, fun h3 _ => m_okM_set h3 trivial, by rw [List.length_set], m_sz_set hM rfl, fun X hX H lsA ad locs cells slots _ hRL kk => ?_⟩
        refine va_iast hX.1 hX.2.1 hX.2.2.2.2.2.1 hRL.1 hRL.2.1 hRL.2.2 o 0 (m_ws_at hM) rfl hin hd fun H1 locs1 hP hD hS => kk H1 locs1 ?_
        unfold m_RL
        rw [m_ws_set]
        exact ⟨hP, hD, hS⟩
      · cases heq
    · cases heq
  · rename_i heq
    split at heq
    · split at heq <;> cases heq
    · cases heq
end
section
/-! making -/
theorem m_okV_push {M : mM} {vs : List Value} {c : mC} (h : m_okV M vs) : m_okV (M ++ [c]) vs := h.mono (by rw [List.length_append]; omega)
theorem m_okM_push {M : mM} {c : mC} (h : m_okM M) (hc : m_okC (M.length + 1) c) : m_okM (M ++ [c]) := by
  intro c' hm
  rw [List.length_append]
  rcases List.mem_append.mp hm with h1 | h1
  · have h2 := h c' h1
    cases c' with
    | inl a => trivial
    | inr o => exact fun v hv => (h2 v hv).mono (by simp)
  · rw [List.mem_singleton.mp h1]
    exact hc
theorem m_sz_push (M : mM) (c : mC) : m_sz (M ++ [c]) = m_sz M + m_sc c := by simp [m_sz]
theorem m_RL_push {X : m_X} {ad : Nat → Nat} {M : mM} {H1 : Heap} {locs : List Loc} {q : Nat} {c : mC} {e : va_E} (hM : m_okM M) (he : ∀ ad', m_ce (x_b X) ad' (x_cA X) c = e) (hP : va_P (x_D X) vwCl (m_ws (x_b X) ad (x_cA X) M ++ [(q, e)]) H1) (hD : va_D (x_A X) (m_ws (x_b X) ad (x_cA X) M ++ [(q, e)])) (hS : va_S (x_A X) (x_s X).heap H1 locs) : m_RL X (va_up ad M.length q) (M ++ [c]) H1 locs := by
  have e1 : m_ws (x_b X) (va_up ad M.length q) (x_cA X) (M ++ [c]) = m_ws (x_b X) ad (x_cA X) M ++ [(q, e)] := by
    rw [m_ws_push, m_ws_congr (ad := ad) (ad' := va_up ad M.length q) (fun k hk => if_neg (Nat.ne_of_lt hk)) hM, he]
    simp [va_up]
  unfold m_RL
  rw [e1]
  exact ⟨hP, hD, hS⟩
def a_new (ci : Nat) (fs : List Value) (pc' : Nat) : mA := fun ls st M => m_nx pc' ls (.ref M.length :: st) (M ++ [.inr (ci, fs)])
theorem k_new {L : Nat} {xs : Nat → Int32} {m pc ci index N : Nat} {C : String} {T : u_T} {ty0 : Nat → FieldType} {fs : List Value} (hd : decode (mcc m) pc = .ok (.new index, 3)) (hc : vwCl[ci]? = some (C, T, N)) (hin : ∀ w ∈ u_ws C T N, w ∈ lw_tbl) (hty : ∀ k, k < N → parseFieldDescriptor (T k).2.2.1 = some (ty0 k)) (hw1 : Cond.classLink (mY m).cls index C ∈ lw_tbl) (hw2 : Cond.instantiable C N ∈ lw_tbl) (hw3 : Cond.initialized C ∈ lw_tbl) (hfs : ∀ j, j < N → defaultValue (ty0 j) = vp_V fs j) (hfl : fs.length = N) (hok : ∀ v ∈ fs, ∀ n, m_ok n v) (hcv : ∀ b ad, fs.map (m_cv b ad) = fs) : m_Ok L xs m pc (a_new ci fs (pc + 3)) := by
  intro ls st M h1 h2 h3
  refine ⟨⟨m_okV_push h1, m_okV_cons.mpr ⟨by show M.length < (M ++ [Sum.inr (ci, fs)]).length; simp, m_okV_push h2⟩, m_okM_push h3 (fun v hv => hok v hv _), by simp, by rw [m_sz_push]; omega⟩, fun X hX n0 z0 ad0 hn hcl hsl hJ H lsA ad locs cells slots had hcc hz hRL hLR => ?_⟩
  rw [m_sz_push] at hsl
  simp only [List.length_append, List.length_singleton, m_sc] at hcl hsl
  refine va_new hX.1 hX.2.1 hX.2.2.2.2.1 hin ty0 hty hX.2.2.2.1 (hX.2.2.2.2.1 _ hw1) (hX.2.2.2.2.1 _ hw2) (hX.2.2.2.2.1 _ hw3) hX.2.2.2.2.2.1 hRL.1 hRL.2.1 hRL.2.2 hX.2.2.2.2.2.2.1 hc hfs (by omega) (by omega) hd fun q H1 hP hD hS => ?_
  have hup : ∀ k, k < M.length → va_up ad M.length q k = ad k := fun k hk => if_neg (Nat.ne_of_lt hk)
  have hW := hJ H1 lsA (va_up ad M.length q) locs (cells + 1) (slots + N) (fun k hk => (hup k (by omega)).trans (had k hk)) (by simp; omega) (by rw [m_sz_push]; simp only [m_sc]; omega) (m_RL_push h3 (fun ad' => by simp [m_ce, hcv]) hP hD hS) (hLR.congr hup h1)
  rw [List.map_cons, m_cv_map hup h2] at hW
  have e : m_cv (x_b X) (va_up ad M.length q) (.ref M.length) = .ref q := by simp [m_cv, va_up]
  rw [e] at hW
  exact hW
def a_newa (pc' : Nat) : mA := fun ls st M => match st with
  | .int n :: r => cond (decide (0 ≤ n) && decide (n.toNatClampNeg ≤ 1000000)) (m_nx pc' ls (.ref M.length :: r) (M ++ [.inl (n.toNatClampNeg, fun _ => 0)])) none
  | _ => none
theorem a_newa_of {pc' : Nat} {ls st : List Value} {M : mM} {z : mR} (h : a_newa pc' ls st M = some z) : ∃ n r, st = .int n :: r ∧ 0 ≤ n ∧ n.toNatClampNeg ≤ 1000000 ∧ z = .inl (pc', ls, .ref M.length :: r, M ++ [.inl (n.toNatClampNeg, fun _ => 0)]) := by
  unfold a_newa at h
  split at h
  · rename_i n r
    cases hb : (decide (0 ≤ n) && decide (n.toNatClampNeg ≤ 1000000)) with
    | false => rw [hb] at h; cases h
    | true =>
      rw [hb] at h
      simp only [Bool.and_eq_true, decide_eq_true_eq] at hb
      cases h
      exact ⟨n, r, rfl, hb.1, hb.2, rfl⟩
  · cases h
theorem k_newa {L : Nat} {xs : Nat → Int32} {m pc : Nat} (hd : decode (mcc m) pc = .ok (.newarray .int, 2)) (hw : Cond.arrayClass .int ∈ lw_tbl) : m_Ok L xs m pc (a_newa (pc + 2)) := by
  intro ls st M h1 h2 h3
  cases ha : a_newa (pc + 2) ls st M with
  | none => trivial
  | some z =>
    obtain ⟨n, r, rfl, hn0, hnb, rfl⟩ := a_newa_of ha
    have hr := (m_okV_cons.mp h2).2
    refine ⟨⟨m_okV_push h1, m_okV_cons.mpr ⟨by show M.length < (M ++ [Sum.inl (n.toNatClampNeg, fun _ => (0 : Int32))]).length; simp, m_okV_push hr⟩, m_okM_push h3 trivial, by simp, by rw [m_sz_push]; omega⟩, fun X hX n0 z0 ad0 hn hcl hsl hJ H lsA ad locs cells slots had hcc hz hRL hLR => ?_⟩
    rw [m_sz_push] at hsl
    simp only [List.length_append, List.length_singleton, m_sc] at hcl hsl
    refine va_newa (ty := .int) (a0 := (n.toNatClampNeg, .inl fun _ => 0)) hX.1 hX.2.1 (atype := .int) (hX.2.2.2.2.1 _ hw) rfl hX.2.2.2.2.2.1 hRL.1 hRL.2.1 hRL.2.2 hX.2.2.2.2.2.2.1 (fun cA => rfl) (Int32.not_lt.mpr hn0) rfl (by show n.toNatClampNeg * 4 ≤ 536870912; omega) (by omega) (by omega) hd fun q cA' H1 hK' hP hD hS => ?_
    have e1 := (hX.2.2.2.2.2.1.2 0 _ rfl).2
    have e2 := (hK'.2 1 _ rfl).2
    have e3 : cA' = x_cA X := Option.some.inj (Eq.trans (Eq.symm e2) e1)
    subst e3
    have hup : ∀ k, k < M.length → va_up ad M.length q k = ad k := fun k hk => if_neg (Nat.ne_of_lt hk)
    have hW := hJ H1 lsA (va_up ad M.length q) locs (cells + 1) (slots + n.toNatClampNeg) (fun k hk => (hup k (by omega)).trans (had k hk)) (by simp; omega) (by rw [m_sz_push]; simp only [m_sc]; omega) (m_RL_push h3 (fun ad' => rfl) hP hD hS) (hLR.congr hup h1)
    rw [List.map_cons, m_cv_map hup hr] at hW
    have e : m_cv (x_b X) (va_up ad M.length q) (.ref M.length) = .ref q := by simp [m_cv, va_up]
    rw [e] at hW
    exact hW
/-! returns -/
def a_retI : mA := fun _ st _ => match st with
  | [.int x] => m_rt (some (.int x))
  | _ => none
def m_b01 (x : Int32) : Prop := x = 0 ∨ x = 1
def a_retZ : mA := fun _ st _ => match st with
  | [.int x] => cond (decide (x = 0) || decide (x = 1)) (m_rt (some (.int x))) none
  | _ => none
def a_retV : mA := fun _ st _ => match st with
  | [] => m_rt none
  | _ => none
theorem k_retI {L : Nat} {xs : Nat → Int32} {m pc : Nat} (hd : decode (mcc m) pc = .ok (.ireturn, 1)) (hr : mret m = some .int) : m_Ok L xs m pc a_retI := by
  intro ls st M _ _ _
  unfold a_retI
  split
  · trivial
  · rename_i heq
    split at heq <;> cases heq
  · rename_i heq
    split at heq <;> cases heq
  · rename_i heq
    split at heq
    · cases heq
      exact ⟨rfl, Or.inl ⟨_, rfl, hd, Or.inl hr⟩⟩
    · cases heq
theorem a_retZ_of {ls st : List Value} {M : mM} {z : mR} (h : a_retZ ls st M = some z) : ∃ x, st = [.int x] ∧ (x = 0 ∨ x = 1) ∧ z = .inr (.inr (some (.int x))) := by
  unfold a_retZ at h
  split at h
  · rename_i x
    cases hb : (decide (x = 0) || decide (x = 1)) with
    | false => rw [hb] at h; cases h
    | true =>
      rw [hb] at h
      simp only [Bool.or_eq_true, decide_eq_true_eq] at hb
      cases h
      exact ⟨x, rfl, hb, rfl⟩
  · cases h
theorem k_retZ {L : Nat} {xs : Nat → Int32} {m pc : Nat} (hd : decode (mcc m) pc = .ok (.ireturn, 1)) (hr : mret m = some .boolean) : m_Ok L xs m pc a_retZ := by
  intro ls st M _ _ _
  cases ha : a_retZ ls st M with
  | none => trivial
  | some z =>
    obtain ⟨x, rfl, hx, rfl⟩ := a_retZ_of ha
    exact ⟨rfl, Or.inl ⟨_, rfl, hd, Or.inr ⟨hr, hx⟩⟩⟩
theorem k_retV {L : Nat} {xs : Nat → Int32} {m pc : Nat} (hd : decode (mcc m) pc = .ok (.return_, 1)) (hr : mret m = none) : m_Ok L xs m pc a_retV := by
  intro ls st M _ _ _
  unfold a_retV
  split
  · trivial
  · rename_i heq
    split at heq <;> cases heq
  · rename_i heq
    split at heq <;> cases heq
  · rename_i heq
    split at heq
    · cases heq
      exact ⟨rfl, Or.inr ⟨rfl, hd, hr⟩⟩
    · cases heq
/-! calls -/
def m_cs (st : List Value) : Nat := (st.map fun v => v.category).sum
theorem m_cs_cv (b : Nat) (ad : Nat → Nat) (st : List Value) : ((st.map (m_cv b ad)).map fun v => v.category).sum = m_cs st := by
  unfold m_cs
  rw [List.map_map]
  congr 1
  exact List.map_congr_left fun v _ => m_cv_cat b ad v
/-- what is static of a method that is called: n its parameters -/
def m_st (m' n : Nat) : Prop := ((mY m').cls ≠ "java/lang/invoke/MethodHandle" ∧ (mY m').cls ≠ "java/lang/invoke/VarHandle" ∧ (parseMethodDescriptor (mY m').desc).map (fun d => d.parameters.length) = some n) ∧ plainName (mY m').cls = true ∧ Cond.code (mY m') (mcc m') (mml m') (mret m') ∈ lw_tbl
/-- the frames and locals of a callee fit its caller's -/
def m_rmOk (m m' : Nat) : Prop := mfr m' + 1 ≤ mfr m ∧ 8 + (mml m' + 11) + mlo m' ≤ mlo m
def m_gd : Prop := lw_tbl.all goodWord = true
theorem m_good (hg : m_gd) {w : Cond} (h : w ∈ lw_tbl) : (w.onTables && w.keeps) = true ∨ ∃ ty, w = .arrayClass ty := good_of_word (List.all_eq_true.mp hg w h)
theorem m_goodW (hg : m_gd) {m' n : Nat} (h : m_st m' n) : GoodIn lw_tbl (m_wsm m') := fun w hw => by
  have h1 : w ∈ lw_tbl := by
    rcases List.mem_cons.mp hw with e | h2
    · rw [e]; exact h.2.2
    · exact h2
  exact ⟨h1, m_good hg h1⟩
theorem m_goodL (hg : m_gd) {big : List Cond} (h : ∀ w ∈ big, w ∈ lw_tbl) : GoodIn lw_tbl big := fun w hw => ⟨h w hw, m_good hg (h w hw)⟩
def m_isO (M : mM) (o ci : Nat) : Bool := match M[o]? with
  | some (.inr (c, _)) => Nat.beq c ci
  | _ => false
theorem m_isO_of {M : mM} {o ci : Nat} (h : m_isO M o ci = true) : ∃ fs, M[o]? = some (.inr (ci, fs)) := by
  unfold m_isO at h
  split at h
  · rename_i c fs hc
    rw [Nat.eq_of_beq_eq_true h] at hc
    exact ⟨fs, hc⟩
  · cases h
def a_callV (m' ci n pc' : Nat) : mA := fun ls st M => match (st.take (n + 1)).reverse with
  | .ref o :: as => cond (m_isO M o ci) (cond (Nat.beq as.length n && (Nat.ble (m_entL (.ref o :: as)).length (mml m') && Nat.ble (m_cs (st.drop (n + 1))) 8)) (m_cl m' (.ref o :: as) pc' ls (st.drop (n + 1))) none) none
  | _ => none
theorem a_callV_of {m' ci n pc' : Nat} {ls st : List Value} {M : mM} {z : mR} (h : a_callV m' ci n pc' ls st M = some z) : ∃ o as st', st = as.reverse ++ .ref o :: st' ∧ as.length = n ∧ m_isO M o ci = true ∧ (m_entL (.ref o :: as)).length ≤ mml m' ∧ m_cs st' ≤ 8 ∧ z = .inr (.inl (m', .ref o :: as, pc', ls, st')) := by
  unfold a_callV at h
  split at h
  · rename_i o as he
    cases ho : m_isO M o ci with
    | false => rw [ho] at h; cases h
    | true =>
      rw [ho] at h
      cases hb : (Nat.beq as.length n && (Nat.ble (m_entL (.ref o :: as)).length (mml m') && Nat.ble (m_cs (st.drop (n + 1))) 8)) with
      | false => rw [hb] at h; cases h
      | true =>
        rw [hb] at h
        simp only [Bool.and_eq_true] at hb
        cases h
        refine ⟨o, as, st.drop (n + 1), ?_, Nat.eq_of_beq_eq_true hb.1, ho, Nat.le_of_ble_eq_true hb.2.1, Nat.le_of_ble_eq_true hb.2.2, rfl⟩
        have e : st.take (n + 1) = as.reverse ++ [.ref o] := by rw [← List.reverse_reverse (st.take (n + 1)), he, List.reverse_cons]
        exact (List.take_append_drop (n + 1) st).symm.trans (by rw [e, List.append_assoc]; rfl)
  · cases h
theorem k_callV {L : Nat} {xs : Nat → Int32} {m pc m' ci n index N : Nat} {T : u_T} (hg : m_gd) (hd : decode (mcc m) pc = .ok (.invokevirtual index, 3)) (hc : vwCl[ci]? = some ((mY m').cls, T, N)) (hs : m_st m' n) (hr : m_rmOk m m') (hw1 : Cond.methodLink (mY m).cls index (mY m') ∈ lw_tbl) (hw2 : Cond.instanceMethod (mY m') ∈ lw_tbl) (hw3 : Cond.selects (mY m').cls (mY m') (mY m') ∈ lw_tbl) (hw4 : Cond.initialized (mY m').cls ∈ lw_tbl) : m_Ok L xs m pc (a_callV m' ci n (pc + 3)) := by
  intro ls st M h1 h2 h3
  cases ha : a_callV m' ci n (pc + 3) ls st M with
  | none => trivial
  | some z =>
    obtain ⟨o, as, st', rfl, hn, ho, hlen, hcs, rfl⟩ := a_callV_of ha
    obtain ⟨fs, hM⟩ := m_isO_of ho
    refine ⟨rfl, rfl, by simp, hlen, hs.2.1, fun X hX H lsA ad locs cells slots hRL hLR Pc Qc mc ms free hMet hbl hPc hcc hss => ?_⟩
    have hG : GoodIn lw_tbl (wsV (mY m).cls index (mY m').cls (mY m') (m_wsm m')) := m_goodL hg fun w hw => by
      simp only [wsV, List.cons_append, List.nil_append, List.mem_cons] at hw
      rcases hw with e | e | e | e | hw
      · rw [e]; exact hw1
      · rw [e]; exact hw2
      · rw [e]; exact hw3
      · rw [e]; exact hw4
      · exact (m_goodW hg hs w hw).1
    exact va_runV (As := as.map (m_cv (x_b X) ad)) (rest := st'.map (m_cv (x_b X) ad)) ⟨hX.1, hX.2.1, hX.2.2.1, hX.2.2.2.1, hX.2.2.2.2.1⟩ hMet (cwV n hX.2.2.2.2.1 hG rfl rfl rfl ⟨rfl, hs.1⟩ ⟨Nat.le_trans hr.1 hX.2.2.2.2.2.2.2.1, Nat.le_trans hr.2 hX.2.2.2.2.2.2.2.2.1⟩) ⟨hbl, va_recv hX.2.2.2.2.2.1 hRL.1 hc (m_ws_at hM), hPc⟩ rfl (by rw [List.length_map]; exact hn) hLR.2.1 (by simp [m_cv]) (lv_room (by rw [m_cs_cv]; exact hcs)) hd ⟨hcc, hss⟩
def a_callS (m' n pc' : Nat) : mA := fun ls st _ => cond (Nat.beq (st.take n).length n && (Nat.ble (m_entL (st.take n).reverse).length (mml m') && Nat.ble (m_cs (st.drop n)) 8)) (m_cl m' (st.take n).reverse pc' ls (st.drop n)) none
theorem k_callS {L : Nat} {xs : Nat → Int32} {m pc m' n index : Nat} (hg : m_gd) (hd : decode (mcc m) pc = .ok (.invokestatic index, 3)) (hs : m_st m' n) (hr : m_rmOk m m') (hw1 : Cond.methodLink (mY m).cls index (mY m') ∈ lw_tbl) (hw2 : Cond.static (mY m') ∈ lw_tbl) (hw4 : Cond.initialized (mY m').cls ∈ lw_tbl) : m_Ok L xs m pc (a_callS m' n (pc + 3)) := by
  intro ls st M h1 h2 h3
  cases ha : a_callS m' n (pc + 3) ls st M with
  | none => trivial
  | some z =>
    unfold a_callS at ha
    cases hb : (Nat.beq (st.take n).length n && (Nat.ble (m_entL (st.take n).reverse).length (mml m') && Nat.ble (m_cs (st.drop n)) 8)) with
    | false => rw [hb] at ha; cases ha
    | true =>
      rw [hb] at ha
      simp only [Bool.and_eq_true] at hb
      cases ha
      refine ⟨rfl, rfl, by simp, Nat.le_of_ble_eq_true hb.2.1, hs.2.1, fun X hX H lsA ad locs cells slots hRL hLR Pc Qc mc ms free hMet hbl hPc hcc hss => ?_⟩
      have hG : GoodIn lw_tbl (va_wsS (mY m).cls index (mY m') (m_wsm m')) := m_goodL hg fun w hw => by
        simp only [va_wsS, List.cons_append, List.nil_append, List.mem_cons] at hw
        rcases hw with e | e | e | hw
        · rw [e]; exact hw1
        · rw [e]; exact hw2
        · rw [e]; exact hw4
        · exact (m_goodW hg hs w hw).1
      exact va_runS (As := ((st.take n).reverse).map (m_cv (x_b X) ad)) (rest := (st.drop n).map (m_cv (x_b X) ad)) ⟨hX.1, hX.2.1, hX.2.2.1, hX.2.2.2.1, hX.2.2.2.2.1⟩ hMet (va_cwS n hX.2.2.2.2.1 hG rfl rfl rfl hs.1 ⟨Nat.le_trans hr.1 hX.2.2.2.2.2.2.2.1, Nat.le_trans hr.2 hX.2.2.2.2.2.2.2.2.1⟩) ⟨hbl, hPc⟩ rfl (by rw [List.length_map, List.length_reverse]; exact Nat.eq_of_beq_eq_true hb.1) hLR.2.1 (by
        show st.map (m_cv (x_b X) ad) = _
        rw [← List.map_reverse, List.reverse_reverse, ← List.map_append, List.take_append_drop]) (lv_room (by rw [m_cs_cv]; exact Nat.le_of_ble_eq_true hb.2.2)) hd ⟨hcc, hss⟩
def a_callI (m' n pc' : Nat) : mA := fun ls st _ => match (st.take (n + 1)).reverse with
  | .ref o :: as => cond (Nat.beq as.length n && (Nat.ble (m_entL (.ref o :: as)).length (mml m') && Nat.ble (m_cs (st.drop (n + 1))) 8)) (m_cl m' (.ref o :: as) pc' ls (st.drop (n + 1))) none
  | _ => none
theorem a_callI_of {m' n pc' : Nat} {ls st : List Value} {M : mM} {z : mR} (h : a_callI m' n pc' ls st M = some z) : ∃ o as st', st = as.reverse ++ .ref o :: st' ∧ as.length = n ∧ (m_entL (.ref o :: as)).length ≤ mml m' ∧ m_cs st' ≤ 8 ∧ z = .inr (.inl (m', .ref o :: as, pc', ls, st')) := by
  unfold a_callI at h
  split at h
  · rename_i o as he
    cases hb : (Nat.beq as.length n && (Nat.ble (m_entL (.ref o :: as)).length (mml m') && Nat.ble (m_cs (st.drop (n + 1))) 8)) with
    | false => rw [hb] at h; cases h
    | true =>
      rw [hb] at h
      simp only [Bool.and_eq_true] at hb
      cases h
      refine ⟨o, as, st.drop (n + 1), ?_, Nat.eq_of_beq_eq_true hb.1, Nat.le_of_ble_eq_true hb.2.1, Nat.le_of_ble_eq_true hb.2.2, rfl⟩
      have e : st.take (n + 1) = as.reverse ++ [.ref o] := by rw [← List.reverse_reverse (st.take (n + 1)), he, List.reverse_cons]
      exact (List.take_append_drop (n + 1) st).symm.trans (by rw [e, List.append_assoc]; rfl)
  · cases h
theorem k_callI {L : Nat} {xs : Nat → Int32} {m pc m' n index : Nat} (hg : m_gd) (hd : decode (mcc m) pc = .ok (.invokespecial index, 3)) (hs : m_st m' n) (hr : m_rmOk m m') (hi : (mY m').name = "<init>") (hret : mret m' = none) (hw1 : Cond.methodLink (mY m).cls index (mY m') ∈ lw_tbl) (hw2 : Cond.instanceMethod (mY m') ∈ lw_tbl) (hw4 : Cond.initialized (mY m').cls ∈ lw_tbl) : m_Ok L xs m pc (a_callI m' n (pc + 3)) := by
  intro ls st M h1 h2 h3
  cases ha : a_callI m' n (pc + 3) ls st M with
  | none => trivial
  | some z =>
    obtain ⟨o, as, st', rfl, hn, hlen, hcs, rfl⟩ := a_callI_of ha
    refine ⟨rfl, rfl, by simp, hlen, hs.2.1, fun X hX H lsA ad locs cells slots hRL hLR Pc Qc mc ms free hMet hbl hPc hcc hss => ?_⟩
    exact va_runI (As := as.map (m_cv (x_b X) ad)) (rest := st'.map (m_cv (x_b X) ad)) (bytes := mcc m') (maxL := mml m') ⟨hX.1, hX.2.1, hX.2.2.1, hX.2.2.2.1, hX.2.2.2.2.1⟩ hMet (cwI n hX.2.2.2.2.1 (m_goodW hg hs) (by unfold m_wsm; rw [hret]) rfl rfl (hX.2.2.2.2.1 _ hw4) (hX.2.2.2.2.1 _ hw1) (hX.2.2.2.2.1 _ hw2) hi hs.1 ⟨Nat.le_trans hr.1 hX.2.2.2.2.2.2.2.1, Nat.le_trans hr.2 hX.2.2.2.2.2.2.2.2.1⟩) ⟨hbl, hPc⟩ rfl (by rw [List.length_map]; exact hn) hLR.2.1 (by simp [m_cv]) (lv_room (by rw [m_cs_cv]; exact hcs)) hd ⟨hcc, hss⟩
/-! the JDK's own -/
def a_objI (pc' : Nat) : mA := fun ls st M => match st with
  | .ref _ :: r => cond (Nat.ble (m_cs r) 8) (m_nx pc' ls r M) none
  | _ => none
theorem k_objI {L : Nat} {xs : Nat → Int32} {m pc index : Nat} (hd : decode (mcc m) pc = .ok (.invokespecial index, 3)) (hf : 1 ≤ mfr m) (hlo : 20 ≤ mlo m) (hw1 : Cond.methodLink (mY m).cls index Lib.objectInit ∈ lw_tbl) (hw2 : Cond.instanceMethod Lib.objectInit ∈ lw_tbl) (hw3 : Cond.code Lib.objectInit ⟨#[0xb1]⟩ 1 none ∈ lw_tbl) : m_Ok L xs m pc (a_objI (pc + 3)) := by
  refine m_okP fun ls st M => ?_
  unfold a_objI
  split
  · trivial
  · rename_i heq
    split at heq
    · rename_i o r
      cases hb : Nat.ble (m_cs r) 8 with
      | false => rw [hb] at heq; cases heq
      | true =>
        rw [hb] at heq
        have hcs := Nat.le_of_ble_eq_true hb
        have hsum : ∀ b ad, ((r.map (m_cv b ad)).map fun v => v.category).sum ≤ 8 := fun b ad => by rw [m_cs_cv]; exact hcs
        cases heq
        refine ⟨rfl, fun _ h1 h2 => ⟨h1, (m_okV_cons.mp h2).2⟩, fun X hX H lsA ad locs cells slots hRL hLR _ _ kk => ?_⟩
        refine W.objInit hX.1 hX.2.1 hX.2.2.2.1 (hX.2.2.2.2.1 _ hw1) (hX.2.2.2.2.1 _ hw2) (hX.2.2.2.2.1 _ hw3) rfl (hLR.2.1.trans hX.2.2.1.symm) rfl hd (Nat.le_trans hf hX.2.2.2.2.2.2.2.1) ?_ (kk lsA hLR)
        have := hsum (x_b X) ad
        have h20 := Nat.le_trans hlo hX.2.2.2.2.2.2.2.2.1
        show 2 * 0 + _ + 12 ≤ _
        omega
    · cases heq
  · rename_i heq
    split at heq
    · rename_i o r
      cases hb : Nat.ble (m_cs r) 8 <;> rw [hb] at heq <;> cases heq
    · cases heq
def f_mm (g : Int32 → Int32 → Int32) (st : List Value) : Option (List Value) := match st with
  | .int y :: .int x :: r => cond (Nat.ble (m_cs r) 8) (some (.int (g x y) :: r)) none
  | _ => none
theorem f_mm_of {g : Int32 → Int32 → Int32} {st st' : List Value} (h : f_mm g st = some st') : ∃ x y r, st = .int y :: .int x :: r ∧ st' = .int (g x y) :: r ∧ m_cs r ≤ 8 := by
  unfold f_mm at h
  split at h
  · rename_i y x r
    cases hb : Nat.ble (m_cs r) 8 with
    | false => rw [hb] at h; cases h
    | true => rw [hb] at h; cases h; exact ⟨_, _, _, rfl, rfl, Nat.le_of_ble_eq_true hb⟩
  · cases h
section KM
variable {L : Nat} {xs : Nat → Int32} {m pc index : Nat}
theorem k_mm {g : Int32 → Int32 → Int32} (hW : ∀ (X : m_X) (lsA : Array Slot), m_CX L xs m X → lsA.size = mml m → ∀ (H : Heap) (locs : List Loc) (cells slots : Nat) (x y : Int32) (r : List Value), (r.map fun v => v.category).sum ≤ 8 → cells ≤ (x_R X).cells → slots ≤ (x_R X).slots → m_W X H locs cells slots (pc + 3) lsA (.int (g x y) :: r) → m_W X H locs cells slots pc lsA (.int y :: .int x :: r)) : m_Ok L xs m pc (a_stk (f_mm g) (pc + 3)) := by
  refine m_okP fun ls st M => ?_
  unfold a_stk
  cases hf : f_mm g st with
  | none => trivial
  | some st' =>
    obtain ⟨x, y, r, rfl, rfl, hcs⟩ := f_mm_of hf
    exact ⟨rfl, fun _ h1 h2 => ⟨h1, m_okV_cons.mpr ⟨trivial, (m_okV_cons.mp (m_okV_cons.mp h2).2).2⟩⟩, fun X hX H lsA ad locs cells slots _ hLR c1 c2 k => hW X lsA hX hLR.2.1 H locs cells slots x y _ (by rw [m_cs_cv]; exact hcs) c1 c2 (k lsA hLR)⟩
theorem k_mmax (hd : decode (mcc m) pc = .ok (.invokestatic index, 3)) (hf : 1 ≤ mfr m) (hlo : 21 ≤ mlo m) (hw1 : Cond.methodLink (mY m).cls index Lib.Math.max.name ∈ lw_tbl) (hw2 : Cond.static Lib.Math.max.name ∈ lw_tbl) (hw3 : Cond.initialized "java/lang/Math" ∈ lw_tbl) (hw4 : Cond.code Lib.Math.max.name Lib.Math.max.code 2 (some .int) ∈ lw_tbl) : m_Ok L xs m pc (a_stk (f_mm fun x y => if x < y then y else x) (pc + 3)) :=
  k_mm fun X lsA hX hsz H locs cells slots x y r hcs c1 c2 k => va_mmax hX.1 hX.2.1 (hX.2.2.1.trans hsz.symm) hX.2.2.2.1 (hX.2.2.2.2.1 _ hw1) (hX.2.2.2.2.1 _ hw2) (hX.2.2.2.2.1 _ hw3) (hX.2.2.2.2.1 _ hw4) (Nat.le_trans hf hX.2.2.2.2.2.2.2.1) (by have := Nat.le_trans hlo hX.2.2.2.2.2.2.2.2.1; omega) c1 c2 hd k
theorem k_mmin (hd : decode (mcc m) pc = .ok (.invokestatic index, 3)) (hf : 1 ≤ mfr m) (hlo : 21 ≤ mlo m) (hw1 : Cond.methodLink (mY m).cls index Lib.Math.min.name ∈ lw_tbl) (hw2 : Cond.static Lib.Math.min.name ∈ lw_tbl) (hw3 : Cond.initialized "java/lang/Math" ∈ lw_tbl) (hw4 : Cond.code Lib.Math.min.name Lib.Math.min.code 2 (some .int) ∈ lw_tbl) : m_Ok L xs m pc (a_stk (f_mm fun x y => if y < x then y else x) (pc + 3)) :=
  k_mm fun X lsA hX hsz H locs cells slots x y r hcs c1 c2 k => va_mmin hX.1 hX.2.1 (hX.2.2.1.trans hsz.symm) hX.2.2.2.1 (hX.2.2.2.2.1 _ hw1) (hX.2.2.2.2.1 _ hw2) (hX.2.2.2.2.1 _ hw3) (hX.2.2.2.2.1 _ hw4) (Nat.le_trans hf hX.2.2.2.2.2.2.2.1) (by have := Nat.le_trans hlo hX.2.2.2.2.2.2.2.2.1; omega) c1 c2 hd k
end KM
def m_cpy (M : mM) (a0 : Nat) (sp : Int32) (a : Nat) (dp n : Int32) : Option mM := match M[a0]?, M[a]? with
  | some (.inl (n0, f)), some (.inl (n1, g)) => cond (decide (0 ≤ sp) && (decide (0 ≤ dp) && (decide (0 ≤ n) && (decide (sp.toNatClampNeg + n.toNatClampNeg ≤ n0) && decide (dp.toNatClampNeg + n.toNatClampNeg ≤ n1))))) (some (M.set a (.inl (n1, va_cpy f g sp.toNatClampNeg dp.toNatClampNeg n.toNatClampNeg)))) none
  | _, _ => none
theorem m_cpy_of {M M' : mM} {a0 a : Nat} {sp dp n : Int32} (h : m_cpy M a0 sp a dp n = some M') : ∃ n0 f n1 g, M[a0]? = some (.inl (n0, f)) ∧ M[a]? = some (.inl (n1, g)) ∧ 0 ≤ sp ∧ 0 ≤ dp ∧ 0 ≤ n ∧ sp.toNatClampNeg + n.toNatClampNeg ≤ n0 ∧ dp.toNatClampNeg + n.toNatClampNeg ≤ n1 ∧ M' = M.set a (.inl (n1, va_cpy f g sp.toNatClampNeg dp.toNatClampNeg n.toNatClampNeg)) := by
  unfold m_cpy at h
  split at h
  · rename_i n0 f n1 g e1 e2
    cases hb : (decide (0 ≤ sp) && (decide (0 ≤ dp) && (decide (0 ≤ n) && (decide (sp.toNatClampNeg + n.toNatClampNeg ≤ n0) && decide (dp.toNatClampNeg + n.toNatClampNeg ≤ n1))))) with
    | false => rw [hb] at h; cases h
    | true =>
      rw [hb] at h
      simp only [Bool.and_eq_true, decide_eq_true_eq] at hb
      cases h
      exact ⟨n0, f, n1, g, e1, e2, hb.1, hb.2.1, hb.2.2.1, hb.2.2.2.1, hb.2.2.2.2, rfl⟩
  · cases h
def a_acopy (pc' : Nat) : mA := fun ls st M => match st with
  | .int n :: .int dp :: .ref a :: .int sp :: .ref a0 :: r => match m_cpy M a0 sp a dp n with
    | some M' => cond (Nat.ble (m_cs r) 8) (m_nx pc' ls r M') none
    | none => none
  | _ => none
theorem a_acopy_of {pc' : Nat} {ls st : List Value} {M : mM} {z : mR} (h : a_acopy pc' ls st M = some z) : ∃ n dp a sp a0 r M', st = .int n :: .int dp :: .ref a :: .int sp :: .ref a0 :: r ∧ m_cpy M a0 sp a dp n = some M' ∧ m_cs r ≤ 8 ∧ z = .inl (pc', ls, r, M') := by
  unfold a_acopy at h
  split at h
  · rename_i n dp a sp a0 r
    split at h
    · rename_i M' hM'
      cases hb : Nat.ble (m_cs r) 8 with
      | false => rw [hb] at h; cases h
      | true => rw [hb] at h; cases h; exact ⟨_, _, _, _, _, _, _, rfl, hM', Nat.le_of_ble_eq_true hb, rfl⟩
    · cases h
  · cases h
theorem k_acopy {L : Nat} {xs : Nat → Int32} {m pc index : Nat} (hd : decode (mcc m) pc = .ok (.invokestatic index, 3)) (hf : 1 ≤ mfr m) (hlo : 26 ≤ mlo m) (hw1 : Cond.methodLink (mY m).cls index arraycopyName ∈ lw_tbl) (hw2 : Cond.native arraycopyName ∈ lw_tbl) (hw3 : Cond.static arraycopyName ∈ lw_tbl) (hw4 : Cond.initialized "java/lang/System" ∈ lw_tbl) : m_Ok L xs m pc (a_acopy (pc + 3)) := by
  refine m_okW (pc' := pc + 3) fun ls st M => ?_
  cases ha : a_acopy (pc + 3) ls st M with
  | none => trivial
  | some z =>
    obtain ⟨n, dp, a, sp, a0, r, M', rfl, hcp, hcs, rfl⟩ := a_acopy_of ha
    obtain ⟨n0, f, n1, g, e1, e2, p1, p2, p3, p4, p5, rfl⟩ := m_cpy_of hcp
    refine ⟨rfl, rfl, fun h2 => (m_okV_cons.mp (m_okV_cons.mp (m_okV_cons.mp (m_okV_cons.mp (m_okV_cons.mp h2).2).2).2).2).2, fun h3 _ => m_okM_set h3 trivial, by rw [List.length_set], m_sz_set e2 rfl, fun X hX H lsA ad locs cells slots hsz hRL kk => ?_⟩
    refine va_copyi hX.1 hX.2.1 (hX.2.2.1.trans hsz.symm) hX.2.2.2.1 (hX.2.2.2.2.1 _ hw1) (hX.2.2.2.2.1 _ hw2) (hX.2.2.2.2.1 _ hw3) (hX.2.2.2.2.1 _ hw4) hX.2.2.2.2.2.1 hRL.1 hRL.2.1 hRL.2.2 a0 a 0 0 (m_ws_at e1) (m_ws_at e2) rfl rfl rfl (Int32.not_lt.mpr p1) (Int32.not_lt.mpr p2) (Int32.not_lt.mpr p3) p4 p5 (fun i _ => rfl) (Nat.le_trans hf hX.2.2.2.2.2.2.2.1) ?_ hd fun H1 locs1 hP hD hS => kk H1 locs1 ?_
    · have h1 := m_cs_cv (x_b X) ad r
      have h2 := Nat.le_trans hlo hX.2.2.2.2.2.2.2.2.1
      have h3 : nativeFrameWords "java/lang/System" "arraycopy" 5 = 7 := by decide +kernel
      omega
    · unfold m_RL
      rw [m_ws_set]
      exact ⟨hP, hD, hS⟩
end
