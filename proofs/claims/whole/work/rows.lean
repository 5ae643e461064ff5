section
-- ===== PART A: goes FIRST, ahead of the names: the tables' words, and 'selects' of the private methods out of them =====
/-- a private method of a class that the tables say can be made, by its rows of tables_1 -/
def lw_okq (q : MethodName × Nat) : Prop := (q.1.cls ≠ "java/lang/invoke/MethodHandle" ∧ q.1.cls ≠ "java/lang/invoke/VarHandle") ∧ Cond.instantiable q.1.cls q.2 ∈ tables_1 ∧ Cond.privateMethod q.1 ∈ tables_1 ∧ Cond.instanceMethod q.1 ∈ tables_1
theorem lw_p0 : lw_okq (⟨"ClassStarts", "find", "(I)LClassStarts$Kind;"⟩, 4) := ⟨⟨by decide +kernel, by decide +kernel⟩, List.mem_of_getElem? (i := 11) (by decide +kernel), List.mem_of_getElem? (i := 115) (by decide +kernel), List.mem_of_getElem? (i := 116) (by decide +kernel)⟩
theorem lw_p1 : lw_okq (⟨"ClassStarts", "keep", "(ZZLClassStarts$Kind;)I"⟩, 4) := ⟨⟨by decide +kernel, by decide +kernel⟩, List.mem_of_getElem? (i := 11) (by decide +kernel), List.mem_of_getElem? (i := 119) (by decide +kernel), List.mem_of_getElem? (i := 120) (by decide +kernel)⟩
theorem lw_p2 : lw_okq (⟨"ClassStarts", "named", "(LClassStarts$Kind;III)LClassStarts$Kind;"⟩, 4) := ⟨⟨by decide +kernel, by decide +kernel⟩, List.mem_of_getElem? (i := 11) (by decide +kernel), List.mem_of_getElem? (i := 248) (by decide +kernel), List.mem_of_getElem? (i := 249) (by decide +kernel)⟩
theorem lw_p3 : lw_okq (⟨"ClassStarts$Method", "lastGuarded", "(I)I"⟩, 3) := ⟨⟨by decide +kernel, by decide +kernel⟩, List.mem_of_getElem? (i := 129) (by decide +kernel), List.mem_of_getElem? (i := 266) (by decide +kernel), List.mem_of_getElem? (i := 267) (by decide +kernel)⟩
theorem lw_p4 : lw_okq (⟨"ClassStarts$Machine", "want", "(LClassStarts$Kind;I)I"⟩, 1) := ⟨⟨by decide +kernel, by decide +kernel⟩, List.mem_of_getElem? (i := 21) (by decide +kernel), List.mem_of_getElem? (i := 323) (by decide +kernel), List.mem_of_getElem? (i := 324) (by decide +kernel)⟩
theorem lw_p5 : lw_okq (⟨"ClassStarts$Machine", "raise", "(I)I"⟩, 1) := ⟨⟨by decide +kernel, by decide +kernel⟩, List.mem_of_getElem? (i := 21) (by decide +kernel), List.mem_of_getElem? (i := 327) (by decide +kernel), List.mem_of_getElem? (i := 328) (by decide +kernel)⟩
theorem lw_p6 : lw_okq (⟨"ClassStarts$Machine", "start", "(LClassStarts$Kind;I)I"⟩, 1) := ⟨⟨by decide +kernel, by decide +kernel⟩, List.mem_of_getElem? (i := 21) (by decide +kernel), List.mem_of_getElem? (i := 335) (by decide +kernel), List.mem_of_getElem? (i := 336) (by decide +kernel)⟩
theorem lw_p7 : lw_okq (⟨"ClassStarts$Machine", "lookThrough", "(LClassStarts$Kind;II)I"⟩, 1) := ⟨⟨by decide +kernel, by decide +kernel⟩, List.mem_of_getElem? (i := 21) (by decide +kernel), List.mem_of_getElem? (i := 339) (by decide +kernel), List.mem_of_getElem? (i := 340) (by decide +kernel)⟩
theorem lw_p8 : lw_okq (⟨"ClassStarts$Machine", "work", "(LClassStarts$Kind;II)I"⟩, 1) := ⟨⟨by decide +kernel, by decide +kernel⟩, List.mem_of_getElem? (i := 21) (by decide +kernel), List.mem_of_getElem? (i := 343) (by decide +kernel), List.mem_of_getElem? (i := 344) (by decide +kernel)⟩
theorem lw_p9 : lw_okq (⟨"ClassStarts$Machine", "begin", "(LClassStarts$Kind;LClassStarts$Act;I)I"⟩, 1) := ⟨⟨by decide +kernel, by decide +kernel⟩, List.mem_of_getElem? (i := 21) (by decide +kernel), List.mem_of_getElem? (i := 347) (by decide +kernel), List.mem_of_getElem? (i := 348) (by decide +kernel)⟩
theorem lw_p10 : lw_okq (⟨"ClassStarts$Machine", "perform", "(LClassStarts$Kind;LClassStarts$Act;I)I"⟩, 1) := ⟨⟨by decide +kernel, by decide +kernel⟩, List.mem_of_getElem? (i := 21) (by decide +kernel), List.mem_of_getElem? (i := 356) (by decide +kernel), List.mem_of_getElem? (i := 357) (by decide +kernel)⟩
theorem lw_p11 : lw_okq (⟨"ClassStarts$Machine", "readOther", "(LClassStarts$Kind;LClassStarts$Act;)I"⟩, 1) := ⟨⟨by decide +kernel, by decide +kernel⟩, List.mem_of_getElem? (i := 21) (by decide +kernel), List.mem_of_getElem? (i := 368) (by decide +kernel), List.mem_of_getElem? (i := 369) (by decide +kernel)⟩
theorem lw_p12 : lw_okq (⟨"ClassStarts$Machine", "divide", "(LClassStarts$Kind;II)I"⟩, 1) := ⟨⟨by decide +kernel, by decide +kernel⟩, List.mem_of_getElem? (i := 21) (by decide +kernel), List.mem_of_getElem? (i := 373) (by decide +kernel), List.mem_of_getElem? (i := 374) (by decide +kernel)⟩
theorem lw_p13 : lw_okq (⟨"ClassStarts$Machine", "makeRow", "(LClassStarts$Kind;I)I"⟩, 1) := ⟨⟨by decide +kernel, by decide +kernel⟩, List.mem_of_getElem? (i := 21) (by decide +kernel), List.mem_of_getElem? (i := 377) (by decide +kernel), List.mem_of_getElem? (i := 378) (by decide +kernel)⟩
theorem lw_p14 : lw_okq (⟨"ClassStarts$Machine", "putItem", "(LClassStarts$Kind;II)I"⟩, 1) := ⟨⟨by decide +kernel, by decide +kernel⟩, List.mem_of_getElem? (i := 21) (by decide +kernel), List.mem_of_getElem? (i := 389) (by decide +kernel), List.mem_of_getElem? (i := 390) (by decide +kernel)⟩
theorem lw_p15 : lw_okq (⟨"ClassStarts$Machine", "takeItem", "(LClassStarts$Kind;II)I"⟩, 1) := ⟨⟨by decide +kernel, by decide +kernel⟩, List.mem_of_getElem? (i := 21) (by decide +kernel), List.mem_of_getElem? (i := 397) (by decide +kernel), List.mem_of_getElem? (i := 398) (by decide +kernel)⟩
def lw_privs_1 : List (MethodName × Nat) := [(⟨"ClassStarts", "find", "(I)LClassStarts$Kind;"⟩, 4), (⟨"ClassStarts", "keep", "(ZZLClassStarts$Kind;)I"⟩, 4), (⟨"ClassStarts", "named", "(LClassStarts$Kind;III)LClassStarts$Kind;"⟩, 4), (⟨"ClassStarts$Method", "lastGuarded", "(I)I"⟩, 3), (⟨"ClassStarts$Machine", "want", "(LClassStarts$Kind;I)I"⟩, 1), (⟨"ClassStarts$Machine", "raise", "(I)I"⟩, 1), (⟨"ClassStarts$Machine", "start", "(LClassStarts$Kind;I)I"⟩, 1), (⟨"ClassStarts$Machine", "lookThrough", "(LClassStarts$Kind;II)I"⟩, 1), (⟨"ClassStarts$Machine", "work", "(LClassStarts$Kind;II)I"⟩, 1), (⟨"ClassStarts$Machine", "begin", "(LClassStarts$Kind;LClassStarts$Act;I)I"⟩, 1), (⟨"ClassStarts$Machine", "perform", "(LClassStarts$Kind;LClassStarts$Act;I)I"⟩, 1), (⟨"ClassStarts$Machine", "readOther", "(LClassStarts$Kind;LClassStarts$Act;)I"⟩, 1), (⟨"ClassStarts$Machine", "divide", "(LClassStarts$Kind;II)I"⟩, 1), (⟨"ClassStarts$Machine", "makeRow", "(LClassStarts$Kind;I)I"⟩, 1), (⟨"ClassStarts$Machine", "putItem", "(LClassStarts$Kind;II)I"⟩, 1), (⟨"ClassStarts$Machine", "takeItem", "(LClassStarts$Kind;II)I"⟩, 1)]
theorem lw_r1 : ∀ q ∈ lw_privs_1, lw_okq q := List.forall_mem_cons.mpr ⟨lw_p0, List.forall_mem_cons.mpr ⟨lw_p1, List.forall_mem_cons.mpr ⟨lw_p2, List.forall_mem_cons.mpr ⟨lw_p3, List.forall_mem_cons.mpr ⟨lw_p4, List.forall_mem_cons.mpr ⟨lw_p5, List.forall_mem_cons.mpr ⟨lw_p6, List.forall_mem_cons.mpr ⟨lw_p7, List.forall_mem_cons.mpr ⟨lw_p8, List.forall_mem_cons.mpr ⟨lw_p9, List.forall_mem_cons.mpr ⟨lw_p10, List.forall_mem_cons.mpr ⟨lw_p11, List.forall_mem_cons.mpr ⟨lw_p12, List.forall_mem_cons.mpr ⟨lw_p13, List.forall_mem_cons.mpr ⟨lw_p14, List.forall_mem_cons.mpr ⟨lw_p15, fun _ h => absurd h List.not_mem_nil⟩⟩⟩⟩⟩⟩⟩⟩⟩⟩⟩⟩⟩⟩⟩⟩
theorem lw_p16 : lw_okq (⟨"ClassStarts$Machine", "enter", "(LClassStarts$Kind;II)I"⟩, 1) := ⟨⟨by decide +kernel, by decide +kernel⟩, List.mem_of_getElem? (i := 21) (by decide +kernel), List.mem_of_getElem? (i := 401) (by decide +kernel), List.mem_of_getElem? (i := 402) (by decide +kernel)⟩
theorem lw_p17 : lw_okq (⟨"ClassStarts$Machine", "afterStart", "(I)I"⟩, 1) := ⟨⟨by decide +kernel, by decide +kernel⟩, List.mem_of_getElem? (i := 21) (by decide +kernel), List.mem_of_getElem? (i := 417) (by decide +kernel), List.mem_of_getElem? (i := 418) (by decide +kernel)⟩
theorem lw_p18 : lw_okq (⟨"ClassStarts$Reach", "clear", "()V"⟩, 4) := ⟨⟨by decide +kernel, by decide +kernel⟩, List.mem_of_getElem? (i := 77) (by decide +kernel), List.mem_of_getElem? (i := 469) (by decide +kernel), List.mem_of_getElem? (i := 470) (by decide +kernel)⟩
theorem lw_p19 : lw_okq (⟨"ClassStarts$Reach", "want", "(LClassStarts$Kind;)V"⟩, 4) := ⟨⟨by decide +kernel, by decide +kernel⟩, List.mem_of_getElem? (i := 77) (by decide +kernel), List.mem_of_getElem? (i := 473) (by decide +kernel), List.mem_of_getElem? (i := 474) (by decide +kernel)⟩
theorem lw_p20 : lw_okq (⟨"ClassStarts$Reach", "isWanted", "(LClassStarts$Kind;)Z"⟩, 4) := ⟨⟨by decide +kernel, by decide +kernel⟩, List.mem_of_getElem? (i := 77) (by decide +kernel), List.mem_of_getElem? (i := 477) (by decide +kernel), List.mem_of_getElem? (i := 478) (by decide +kernel)⟩
theorem lw_p21 : lw_okq (⟨"ClassStarts$Reach", "add", "(LClassStarts$Kind;)V"⟩, 4) := ⟨⟨by decide +kernel, by decide +kernel⟩, List.mem_of_getElem? (i := 77) (by decide +kernel), List.mem_of_getElem? (i := 485) (by decide +kernel), List.mem_of_getElem? (i := 486) (by decide +kernel)⟩
theorem lw_p22 : lw_okq (⟨"ClassStarts$Reach", "list", "(LClassStarts$Method;)V"⟩, 4) := ⟨⟨by decide +kernel, by decide +kernel⟩, List.mem_of_getElem? (i := 77) (by decide +kernel), List.mem_of_getElem? (i := 489) (by decide +kernel), List.mem_of_getElem? (i := 490) (by decide +kernel)⟩
theorem lw_p23 : lw_okq (⟨"ClassStarts$Reach", "lookThrough", "(LClassStarts$Kind;I)V"⟩, 4) := ⟨⟨by decide +kernel, by decide +kernel⟩, List.mem_of_getElem? (i := 77) (by decide +kernel), List.mem_of_getElem? (i := 493) (by decide +kernel), List.mem_of_getElem? (i := 494) (by decide +kernel)⟩
theorem lw_p24 : lw_okq (⟨"ClassStarts$Reach", "follow", "(LClassStarts$Method;)V"⟩, 4) := ⟨⟨by decide +kernel, by decide +kernel⟩, List.mem_of_getElem? (i := 77) (by decide +kernel), List.mem_of_getElem? (i := 497) (by decide +kernel), List.mem_of_getElem? (i := 498) (by decide +kernel)⟩
theorem lw_p25 : lw_okq (⟨"ClassStartsModel", "has", "(I)Z"⟩, 34) := ⟨⟨by decide +kernel, by decide +kernel⟩, List.mem_of_getElem? (i := 511) (by decide +kernel), List.mem_of_getElem? (i := 624) (by decide +kernel), List.mem_of_getElem? (i := 625) (by decide +kernel)⟩
theorem lw_p26 : lw_okq (⟨"ClassStartsModel", "make", "(ZZI)I"⟩, 34) := ⟨⟨by decide +kernel, by decide +kernel⟩, List.mem_of_getElem? (i := 511) (by decide +kernel), List.mem_of_getElem? (i := 628) (by decide +kernel), List.mem_of_getElem? (i := 629) (by decide +kernel)⟩
theorem lw_p27 : lw_okq (⟨"ClassStartsModel", "push", "(III)V"⟩, 34) := ⟨⟨by decide +kernel, by decide +kernel⟩, List.mem_of_getElem? (i := 511) (by decide +kernel), List.mem_of_getElem? (i := 658) (by decide +kernel), List.mem_of_getElem? (i := 659) (by decide +kernel)⟩
theorem lw_p28 : lw_okq (⟨"ClassStartsModel", "step", "()V"⟩, 34) := ⟨⟨by decide +kernel, by decide +kernel⟩, List.mem_of_getElem? (i := 511) (by decide +kernel), List.mem_of_getElem? (i := 662) (by decide +kernel), List.mem_of_getElem? (i := 663) (by decide +kernel)⟩
theorem lw_p29 : lw_okq (⟨"ClassStartsModel", "goOn", "(I)V"⟩, 34) := ⟨⟨by decide +kernel, by decide +kernel⟩, List.mem_of_getElem? (i := 511) (by decide +kernel), List.mem_of_getElem? (i := 666) (by decide +kernel), List.mem_of_getElem? (i := 667) (by decide +kernel)⟩
theorem lw_p30 : lw_okq (⟨"ClassStartsModel", "arise", "(I)I"⟩, 34) := ⟨⟨by decide +kernel, by decide +kernel⟩, List.mem_of_getElem? (i := 511) (by decide +kernel), List.mem_of_getElem? (i := 670) (by decide +kernel), List.mem_of_getElem? (i := 671) (by decide +kernel)⟩
theorem lw_p31 : lw_okq (⟨"ClassStartsModel", "wants", "(IIII)I"⟩, 34) := ⟨⟨by decide +kernel, by decide +kernel⟩, List.mem_of_getElem? (i := 511) (by decide +kernel), List.mem_of_getElem? (i := 674) (by decide +kernel), List.mem_of_getElem? (i := 675) (by decide +kernel)⟩
def lw_privs_2 : List (MethodName × Nat) := [(⟨"ClassStarts$Machine", "enter", "(LClassStarts$Kind;II)I"⟩, 1), (⟨"ClassStarts$Machine", "afterStart", "(I)I"⟩, 1), (⟨"ClassStarts$Reach", "clear", "()V"⟩, 4), (⟨"ClassStarts$Reach", "want", "(LClassStarts$Kind;)V"⟩, 4), (⟨"ClassStarts$Reach", "isWanted", "(LClassStarts$Kind;)Z"⟩, 4), (⟨"ClassStarts$Reach", "add", "(LClassStarts$Kind;)V"⟩, 4), (⟨"ClassStarts$Reach", "list", "(LClassStarts$Method;)V"⟩, 4), (⟨"ClassStarts$Reach", "lookThrough", "(LClassStarts$Kind;I)V"⟩, 4), (⟨"ClassStarts$Reach", "follow", "(LClassStarts$Method;)V"⟩, 4), (⟨"ClassStartsModel", "has", "(I)Z"⟩, 34), (⟨"ClassStartsModel", "make", "(ZZI)I"⟩, 34), (⟨"ClassStartsModel", "push", "(III)V"⟩, 34), (⟨"ClassStartsModel", "step", "()V"⟩, 34), (⟨"ClassStartsModel", "goOn", "(I)V"⟩, 34), (⟨"ClassStartsModel", "arise", "(I)I"⟩, 34), (⟨"ClassStartsModel", "wants", "(IIII)I"⟩, 34)]
theorem lw_r2 : ∀ q ∈ lw_privs_2, lw_okq q := List.forall_mem_cons.mpr ⟨lw_p16, List.forall_mem_cons.mpr ⟨lw_p17, List.forall_mem_cons.mpr ⟨lw_p18, List.forall_mem_cons.mpr ⟨lw_p19, List.forall_mem_cons.mpr ⟨lw_p20, List.forall_mem_cons.mpr ⟨lw_p21, List.forall_mem_cons.mpr ⟨lw_p22, List.forall_mem_cons.mpr ⟨lw_p23, List.forall_mem_cons.mpr ⟨lw_p24, List.forall_mem_cons.mpr ⟨lw_p25, List.forall_mem_cons.mpr ⟨lw_p26, List.forall_mem_cons.mpr ⟨lw_p27, List.forall_mem_cons.mpr ⟨lw_p28, List.forall_mem_cons.mpr ⟨lw_p29, List.forall_mem_cons.mpr ⟨lw_p30, List.forall_mem_cons.mpr ⟨lw_p31, fun _ h => absurd h List.not_mem_nil⟩⟩⟩⟩⟩⟩⟩⟩⟩⟩⟩⟩⟩⟩⟩⟩
theorem lw_p32 : lw_okq (⟨"ClassStartsModel", "want", "(I)V"⟩, 34) := ⟨⟨by decide +kernel, by decide +kernel⟩, List.mem_of_getElem? (i := 511) (by decide +kernel), List.mem_of_getElem? (i := 678) (by decide +kernel), List.mem_of_getElem? (i := 679) (by decide +kernel)⟩
theorem lw_p33 : lw_okq (⟨"ClassStartsModel", "tell", "(II)V"⟩, 34) := ⟨⟨by decide +kernel, by decide +kernel⟩, List.mem_of_getElem? (i := 511) (by decide +kernel), List.mem_of_getElem? (i := 682) (by decide +kernel), List.mem_of_getElem? (i := 683) (by decide +kernel)⟩
theorem lw_p34 : lw_okq (⟨"ClassStartsModel", "enter", "(II)V"⟩, 34) := ⟨⟨by decide +kernel, by decide +kernel⟩, List.mem_of_getElem? (i := 511) (by decide +kernel), List.mem_of_getElem? (i := 686) (by decide +kernel), List.mem_of_getElem? (i := 687) (by decide +kernel)⟩
theorem lw_p35 : lw_okq (⟨"ClassStartsModel", "doOne", "(IIIII)I"⟩, 34) := ⟨⟨by decide +kernel, by decide +kernel⟩, List.mem_of_getElem? (i := 511) (by decide +kernel), List.mem_of_getElem? (i := 690) (by decide +kernel), List.mem_of_getElem? (i := 691) (by decide +kernel)⟩
theorem lw_p36 : lw_okq (⟨"ClassStartsModel", "set", "(III)V"⟩, 34) := ⟨⟨by decide +kernel, by decide +kernel⟩, List.mem_of_getElem? (i := 511) (by decide +kernel), List.mem_of_getElem? (i := 694) (by decide +kernel), List.mem_of_getElem? (i := 695) (by decide +kernel)⟩
theorem lw_p37 : lw_okq (⟨"ClassStartsModel", "other", "(IIIII)I"⟩, 34) := ⟨⟨by decide +kernel, by decide +kernel⟩, List.mem_of_getElem? (i := 511) (by decide +kernel), List.mem_of_getElem? (i := 698) (by decide +kernel), List.mem_of_getElem? (i := 699) (by decide +kernel)⟩
theorem lw_p38 : lw_okq (⟨"ClassStartsModel", "get", "(II)I"⟩, 34) := ⟨⟨by decide +kernel, by decide +kernel⟩, List.mem_of_getElem? (i := 511) (by decide +kernel), List.mem_of_getElem? (i := 702) (by decide +kernel), List.mem_of_getElem? (i := 703) (by decide +kernel)⟩
theorem lw_p39 : lw_okq (⟨"ClassStartsModel", "newRow", "(II)I"⟩, 34) := ⟨⟨by decide +kernel, by decide +kernel⟩, List.mem_of_getElem? (i := 511) (by decide +kernel), List.mem_of_getElem? (i := 706) (by decide +kernel), List.mem_of_getElem? (i := 707) (by decide +kernel)⟩
theorem lw_p40 : lw_okq (⟨"ClassStartsModel", "inOut", "(IZII)I"⟩, 34) := ⟨⟨by decide +kernel, by decide +kernel⟩, List.mem_of_getElem? (i := 511) (by decide +kernel), List.mem_of_getElem? (i := 710) (by decide +kernel), List.mem_of_getElem? (i := 711) (by decide +kernel)⟩
theorem lw_p41 : lw_okq (⟨"ClassStartsModel", "look", "(II)V"⟩, 34) := ⟨⟨by decide +kernel, by decide +kernel⟩, List.mem_of_getElem? (i := 511) (by decide +kernel), List.mem_of_getElem? (i := 714) (by decide +kernel), List.mem_of_getElem? (i := 715) (by decide +kernel)⟩
theorem lw_p42 : lw_okq (⟨"ClassStartsModel", "fly", "()V"⟩, 34) := ⟨⟨by decide +kernel, by decide +kernel⟩, List.mem_of_getElem? (i := 511) (by decide +kernel), List.mem_of_getElem? (i := 718) (by decide +kernel), List.mem_of_getElem? (i := 719) (by decide +kernel)⟩
theorem lw_p43 : lw_okq (⟨"ClassStartsModel", "mayWant", "(I)V"⟩, 34) := ⟨⟨by decide +kernel, by decide +kernel⟩, List.mem_of_getElem? (i := 511) (by decide +kernel), List.mem_of_getElem? (i := 758) (by decide +kernel), List.mem_of_getElem? (i := 759) (by decide +kernel)⟩
theorem lw_p44 : lw_okq (⟨"ClassStartsModel", "mayLook", "(I)V"⟩, 34) := ⟨⟨by decide +kernel, by decide +kernel⟩, List.mem_of_getElem? (i := 511) (by decide +kernel), List.mem_of_getElem? (i := 762) (by decide +kernel), List.mem_of_getElem? (i := 763) (by decide +kernel)⟩
theorem lw_p45 : lw_okq (⟨"ClassStartsModel", "mayActs", "(I)V"⟩, 34) := ⟨⟨by decide +kernel, by decide +kernel⟩, List.mem_of_getElem? (i := 511) (by decide +kernel), List.mem_of_getElem? (i := 766) (by decide +kernel), List.mem_of_getElem? (i := 767) (by decide +kernel)⟩
def lw_privs_3 : List (MethodName × Nat) := [(⟨"ClassStartsModel", "want", "(I)V"⟩, 34), (⟨"ClassStartsModel", "tell", "(II)V"⟩, 34), (⟨"ClassStartsModel", "enter", "(II)V"⟩, 34), (⟨"ClassStartsModel", "doOne", "(IIIII)I"⟩, 34), (⟨"ClassStartsModel", "set", "(III)V"⟩, 34), (⟨"ClassStartsModel", "other", "(IIIII)I"⟩, 34), (⟨"ClassStartsModel", "get", "(II)I"⟩, 34), (⟨"ClassStartsModel", "newRow", "(II)I"⟩, 34), (⟨"ClassStartsModel", "inOut", "(IZII)I"⟩, 34), (⟨"ClassStartsModel", "look", "(II)V"⟩, 34), (⟨"ClassStartsModel", "fly", "()V"⟩, 34), (⟨"ClassStartsModel", "mayWant", "(I)V"⟩, 34), (⟨"ClassStartsModel", "mayLook", "(I)V"⟩, 34), (⟨"ClassStartsModel", "mayActs", "(I)V"⟩, 34)]
theorem lw_r3 : ∀ q ∈ lw_privs_3, lw_okq q := List.forall_mem_cons.mpr ⟨lw_p32, List.forall_mem_cons.mpr ⟨lw_p33, List.forall_mem_cons.mpr ⟨lw_p34, List.forall_mem_cons.mpr ⟨lw_p35, List.forall_mem_cons.mpr ⟨lw_p36, List.forall_mem_cons.mpr ⟨lw_p37, List.forall_mem_cons.mpr ⟨lw_p38, List.forall_mem_cons.mpr ⟨lw_p39, List.forall_mem_cons.mpr ⟨lw_p40, List.forall_mem_cons.mpr ⟨lw_p41, List.forall_mem_cons.mpr ⟨lw_p42, List.forall_mem_cons.mpr ⟨lw_p43, List.forall_mem_cons.mpr ⟨lw_p44, List.forall_mem_cons.mpr ⟨lw_p45, fun _ h => absurd h List.not_mem_nil⟩⟩⟩⟩⟩⟩⟩⟩⟩⟩⟩⟩⟩⟩
def lw_privs : List (MethodName × Nat) := lw_privs_1 ++ (lw_privs_2 ++ (lw_privs_3))
def lw_tbl : List Cond := k2_sels lw_privs ++ tables_1
theorem lw_privs_ok : ∀ q ∈ lw_privs, lw_okq q := by
  show ∀ q ∈ lw_privs_1 ++ (lw_privs_2 ++ (lw_privs_3)), lw_okq q
  exact List.forall_mem_append.mpr ⟨lw_r1, List.forall_mem_append.mpr ⟨lw_r2, lw_r3⟩⟩
end
section
/-! ===== BEGIN words of one list among another's, by their places ===== -/
theorem goodIn_r {big : List Cond} (ws : List Cond) (ps : List Nat) (hp : ws = ps.filterMap (fun i => big[i]?)) (h : ws.all goodWord = true) : GoodIn big ws := by
  intro w hw
  have h1 := List.all_eq_true.mp h w hw
  rw [hp] at hw
  obtain ⟨i, -, hi⟩ := List.mem_filterMap.mp hw
  have hm : w ∈ big := by first | exact List.mem_of_getElem? hi | exact List.getElem?_mem hi
  exact ⟨hm, good_of_word h1⟩
theorem goodIn_app {big a b : List Cond} (ha : GoodIn big a) (hb : GoodIn big b) : GoodIn big (a ++ b) := fun w h => (List.mem_append.mp h).elim (ha w) (hb w)
theorem goodIn_ca {big a b : List Cond} {c : Cond} (ha : GoodIn big (c :: a)) (hb : GoodIn big b) : GoodIn big (c :: (a ++ b)) := fun w h => (List.mem_cons.mp h).elim (fun e => ha w (List.mem_cons.mpr (Or.inl e))) (fun h => (List.mem_append.mp h).elim (fun h => ha w (List.mem_cons.mpr (Or.inr h))) (hb w))
theorem goodIn_sub {big ws : List Cond} (hm : ∀ w ∈ ws, w ∈ big) (h : ws.all goodWord = true) : GoodIn big ws := fun w hw => ⟨hm w hw, good_of_word (List.all_eq_true.mp h w hw)⟩
/-! ===== END ===== -/

/-! ===== BEGIN printed: names, fields, word lists, decode rows ===== -/
def RX0 : String := "ClassStarts$Act"
def TX0 : u_T := fun k => match k with
  | 0 => ("ClassStarts$Act", "sort", "I", true)
  | 1 => ("ClassStarts$Act", "other", "LClassStarts$Kind;", true)
  | 2 => ("ClassStarts$Act", "a", "I", true)
  | 3 => ("ClassStarts$Act", "b", "I", true)
  | 4 => ("ClassStarts$Act", "c", "I", true)
  | _ => ("ClassStarts$Act", "lastGuarded", "I", true)
def tyX0 : Nat → FieldType := fun k => match k with
  | 0 => .int
  | 1 => .object "ClassStarts$Kind"
  | 2 => .int
  | 3 => .int
  | 4 => .int
  | _ => .int
abbrev wsX00 : List Cond := u_ws RX0 TX0 6
theorem nmX0 : ∀ a, a < 6 → ∀ b, b < 6 → a ≠ b → (TX0 a).2.1 ≠ (TX0 b).2.1 := by decide +kernel
theorem tyX0_ok : ∀ k, k < 6 → parseFieldDescriptor (TX0 k).2.2.1 = some (tyX0 k) := by decide +kernel
abbrev cX0_init : ByteArray := prog_2_method_1_code
def yX0_init : MethodName := ⟨RX0, "<init>", "(ILClassStarts$Kind;IIII)V"⟩
abbrev cX0_numbersFit : ByteArray := prog_2_method_2_code
def yX0_numbersFit : MethodName := ⟨RX0, "numbersFit", "(IIII)Z"⟩
abbrev cX0_guards : ByteArray := prog_2_method_3_code
def yX0_guards : MethodName := ⟨RX0, "guards", "(I)Z"⟩
abbrev cX0_catches : ByteArray := prog_2_method_4_code
def yX0_catches : MethodName := ⟨RX0, "catches", "(I)Z"⟩
abbrev cX0_wants : ByteArray := prog_2_method_5_code
def yX0_wants : MethodName := ⟨RX0, "wants", "()Z"⟩
def RX1 : String := "ClassStarts$Journal"
def TX1 : u_T := fun k => match k with
  | 0 => ("ClassStarts$Journal", "sorts", "[I", true)
  | 1 => ("ClassStarts$Journal", "values", "[I", true)
  | 2 => ("ClassStarts$Journal", "events", "I", false)
  | 3 => ("ClassStarts$Journal", "halfSeen", "I", false)
  | 4 => ("ClassStarts$Journal", "acts", "I", false)
  | 5 => ("ClassStarts$Journal", "raised", "I", false)
  | 6 => ("ClassStarts$Journal", "ended", "I", false)
  | _ => ("ClassStarts$Journal", "startCause", "I", false)
def tyX1 : Nat → FieldType := fun k => match k with
  | 0 => .array .int
  | 1 => .array .int
  | 2 => .int
  | 3 => .int
  | 4 => .int
  | 5 => .int
  | 6 => .int
  | _ => .int
abbrev wsX10 : List Cond := u_ws RX1 TX1 8
theorem nmX1 : ∀ a, a < 8 → ∀ b, b < 8 → a ≠ b → (TX1 a).2.1 ≠ (TX1 b).2.1 := by decide +kernel
theorem tyX1_ok : ∀ k, k < 8 → parseFieldDescriptor (TX1 k).2.2.1 = some (tyX1 k) := by decide +kernel
abbrev cX1_init : ByteArray := prog_3_method_1_code
def yX1_init : MethodName := ⟨RX1, "<init>", "()V"⟩
abbrev cX1_clear : ByteArray := prog_3_method_2_code
def yX1_clear : MethodName := ⟨RX1, "clear", "()V"⟩
abbrev cX1_note : ByteArray := prog_3_method_3_code
def yX1_note : MethodName := ⟨RX1, "note", "(II)V"⟩
def RX2 : String := "ClassStarts$Kind"
def TX2 : u_T := fun k => match k with
  | 0 => ("ClassStarts$Kind", "number", "I", true)
  | 1 => ("ClassStarts$Kind", "isFace", "Z", true)
  | 2 => ("ClassStarts$Kind", "hasDefaults", "Z", true)
  | 3 => ("ClassStarts$Kind", "parent", "LClassStarts$Kind;", true)
  | 4 => ("ClassStarts$Kind", "faces", "[LClassStarts$Kind;", true)
  | 5 => ("ClassStarts$Kind", "faceCount", "I", false)
  | 6 => ("ClassStarts$Kind", "fields", "[I", true)
  | 7 => ("ClassStarts$Kind", "constants", "[Z", true)
  | 8 => ("ClassStarts$Kind", "row", "[I", true)
  | 9 => ("ClassStarts$Kind", "items", "I", false)
  | 10 => ("ClassStarts$Kind", "methods", "[LClassStarts$Method;", true)
  | _ => ("ClassStarts$Kind", "state", "I", false)
def tyX2 : Nat → FieldType := fun k => match k with
  | 0 => .int
  | 1 => .boolean
  | 2 => .boolean
  | 3 => .object "ClassStarts$Kind"
  | 4 => .array (.object "ClassStarts$Kind")
  | 5 => .int
  | 6 => .array .int
  | 7 => .array .boolean
  | 8 => .array .int
  | 9 => .int
  | 10 => .array (.object "ClassStarts$Method")
  | _ => .int
abbrev wsX20 : List Cond := u_ws RX2 TX2 12
theorem nmX2 : ∀ a, a < 12 → ∀ b, b < 12 → a ≠ b → (TX2 a).2.1 ≠ (TX2 b).2.1 := by decide +kernel
theorem tyX2_ok : ∀ k, k < 12 → parseFieldDescriptor (TX2 k).2.2.1 = some (tyX2 k) := by decide +kernel
abbrev cX2_init : ByteArray := prog_4_method_1_code
def yX2_init : MethodName := ⟨RX2, "<init>", "(IZZLClassStarts$Kind;)V"⟩
abbrev cX2_isField : ByteArray := prog_4_method_2_code
def yX2_isField : MethodName := ⟨RX2, "isField", "(I)Z"⟩
abbrev cX2_isMethod : ByteArray := prog_4_method_3_code
def yX2_isMethod : MethodName := ⟨RX2, "isMethod", "(I)Z"⟩
abbrev cX2_isCallable : ByteArray := prog_4_method_4_code
def yX2_isCallable : MethodName := ⟨RX2, "isCallable", "(I)Z"⟩
abbrev cX2_bit : ByteArray := prog_4_method_5_code
def yX2_bit : MethodName := ⟨RX2, "bit", "()I"⟩
abbrev cX2_hasFace : ByteArray := prog_4_method_6_code
def yX2_hasFace : MethodName := ⟨RX2, "hasFace", "(I)Z"⟩
abbrev cX2_addFace : ByteArray := prog_4_method_7_code
def yX2_addFace : MethodName := ⟨RX2, "addFace", "(LClassStarts$Kind;)I"⟩
abbrev cX2_isConstant : ByteArray := prog_4_method_8_code
def yX2_isConstant : MethodName := ⟨RX2, "isConstant", "(I)Z"⟩
abbrev cX2_fix : ByteArray := prog_4_method_9_code
def yX2_fix : MethodName := ⟨RX2, "fix", "(II)V"⟩
abbrev cX2_valueOf : ByteArray := prog_4_method_10_code
def yX2_valueOf : MethodName := ⟨RX2, "valueOf", "(I)I"⟩
abbrev cX2_change : ByteArray := prog_4_method_11_code
def yX2_change : MethodName := ⟨RX2, "change", "(II)V"⟩
abbrev cX2_makeRow : ByteArray := prog_4_method_12_code
def yX2_makeRow : MethodName := ⟨RX2, "makeRow", "(I)V"⟩
abbrev cX2_dropRow : ByteArray := prog_4_method_13_code
def yX2_dropRow : MethodName := ⟨RX2, "dropRow", "()V"⟩
abbrev cX2_hasItem : ByteArray := prog_4_method_14_code
def yX2_hasItem : MethodName := ⟨RX2, "hasItem", "(I)Z"⟩
abbrev cX2_reset : ByteArray := prog_4_method_15_code
def yX2_reset : MethodName := ⟨RX2, "reset", "()V"⟩
def RX3 : String := "ClassStarts$Machine"
def TX3 : u_T := fun k => match k with
  | _ => ("ClassStarts$Machine", "journal", "LClassStarts$Journal;", true)
def tyX3 : Nat → FieldType := fun k => match k with
  | _ => .object "ClassStarts$Journal"
abbrev wsX30 : List Cond := u_ws RX3 TX3 1
theorem nmX3 : ∀ a, a < 1 → ∀ b, b < 1 → a ≠ b → (TX3 a).2.1 ≠ (TX3 b).2.1 := by decide +kernel
theorem tyX3_ok : ∀ k, k < 1 → parseFieldDescriptor (TX3 k).2.2.1 = some (tyX3 k) := by decide +kernel
abbrev cX3_init : ByteArray := prog_5_method_1_code
def yX3_init : MethodName := ⟨RX3, "<init>", "()V"⟩
abbrev cX3_execute : ByteArray := prog_5_method_2_code
def yX3_execute : MethodName := ⟨RX3, "execute", "(LClassStarts$Kind;I)I"⟩
abbrev cX3_raise : ByteArray := prog_5_method_3_code
def yX3_raise : MethodName := ⟨RX3, "raise", "(I)I"⟩
abbrev cX3_want : ByteArray := prog_5_method_4_code
def yX3_want : MethodName := ⟨RX3, "want", "(LClassStarts$Kind;I)I"⟩
abbrev cX3_start : ByteArray := prog_5_method_5_code
def yX3_start : MethodName := ⟨RX3, "start", "(LClassStarts$Kind;I)I"⟩
abbrev cX3_afterStart : ByteArray := prog_5_method_6_code
def yX3_afterStart : MethodName := ⟨RX3, "afterStart", "(I)I"⟩
abbrev cX3_lookThrough : ByteArray := prog_5_method_7_code
def yX3_lookThrough : MethodName := ⟨RX3, "lookThrough", "(LClassStarts$Kind;II)I"⟩
abbrev cX3_work : ByteArray := prog_5_method_8_code
def yX3_work : MethodName := ⟨RX3, "work", "(LClassStarts$Kind;II)I"⟩
abbrev cX3_begin : ByteArray := prog_5_method_9_code
def yX3_begin : MethodName := ⟨RX3, "begin", "(LClassStarts$Kind;LClassStarts$Act;I)I"⟩
abbrev cX3_perform : ByteArray := prog_5_method_10_code
def yX3_perform : MethodName := ⟨RX3, "perform", "(LClassStarts$Kind;LClassStarts$Act;I)I"⟩
abbrev cX3_readOther : ByteArray := prog_5_method_11_code
def yX3_readOther : MethodName := ⟨RX3, "readOther", "(LClassStarts$Kind;LClassStarts$Act;)I"⟩
abbrev cX3_divide : ByteArray := prog_5_method_12_code
def yX3_divide : MethodName := ⟨RX3, "divide", "(LClassStarts$Kind;II)I"⟩
abbrev cX3_makeRow : ByteArray := prog_5_method_13_code
def yX3_makeRow : MethodName := ⟨RX3, "makeRow", "(LClassStarts$Kind;I)I"⟩
abbrev cX3_putItem : ByteArray := prog_5_method_14_code
def yX3_putItem : MethodName := ⟨RX3, "putItem", "(LClassStarts$Kind;II)I"⟩
abbrev cX3_takeItem : ByteArray := prog_5_method_15_code
def yX3_takeItem : MethodName := ⟨RX3, "takeItem", "(LClassStarts$Kind;II)I"⟩
abbrev cX3_enter : ByteArray := prog_5_method_16_code
def yX3_enter : MethodName := ⟨RX3, "enter", "(LClassStarts$Kind;II)I"⟩
def RX4 : String := "ClassStarts$Method"
def TX4 : u_T := fun k => match k with
  | 0 => ("ClassStarts$Method", "number", "I", true)
  | 1 => ("ClassStarts$Method", "acts", "[LClassStarts$Act;", true)
  | _ => ("ClassStarts$Method", "size", "I", false)
def tyX4 : Nat → FieldType := fun k => match k with
  | 0 => .int
  | 1 => .array (.object "ClassStarts$Act")
  | _ => .int
abbrev wsX40 : List Cond := u_ws RX4 TX4 3
theorem nmX4 : ∀ a, a < 3 → ∀ b, b < 3 → a ≠ b → (TX4 a).2.1 ≠ (TX4 b).2.1 := by decide +kernel
theorem tyX4_ok : ∀ k, k < 3 → parseFieldDescriptor (TX4 k).2.2.1 = some (tyX4 k) := by decide +kernel
abbrev cX4_init : ByteArray := prog_6_method_1_code
def yX4_init : MethodName := ⟨RX4, "<init>", "(I)V"⟩
abbrev cX4_append : ByteArray := prog_6_method_2_code
def yX4_append : MethodName := ⟨RX4, "append", "(ILClassStarts$Kind;III)I"⟩
abbrev cX4_lastGuarded : ByteArray := prog_6_method_3_code
def yX4_lastGuarded : MethodName := ⟨RX4, "lastGuarded", "(I)I"⟩
abbrev cX4_endOfCatch : ByteArray := prog_6_method_4_code
def yX4_endOfCatch : MethodName := ⟨RX4, "endOfCatch", "(II)I"⟩
def RX5 : String := "ClassStarts$Reach"
def TX5 : u_T := fun k => match k with
  | 0 => ("ClassStarts$Reach", "wanted", "I", false)
  | 1 => ("ClassStarts$Reach", "listed", "J", false)
  | 2 => ("ClassStarts$Reach", "methods", "[LClassStarts$Method;", true)
  | _ => ("ClassStarts$Reach", "size", "I", false)
def tyX5 : Nat → FieldType := fun k => match k with
  | 0 => .int
  | 1 => .long
  | 2 => .array (.object "ClassStarts$Method")
  | _ => .int
abbrev wsX50 : List Cond := u_ws RX5 TX5 4
theorem nmX5 : ∀ a, a < 4 → ∀ b, b < 4 → a ≠ b → (TX5 a).2.1 ≠ (TX5 b).2.1 := by decide +kernel
theorem tyX5_ok : ∀ k, k < 4 → parseFieldDescriptor (TX5 k).2.2.1 = some (tyX5 k) := by decide +kernel
abbrev cX5_init : ByteArray := prog_7_method_1_code
def yX5_init : MethodName := ⟨RX5, "<init>", "()V"⟩
abbrev cX5_ofMethod : ByteArray := prog_7_method_2_code
def yX5_ofMethod : MethodName := ⟨RX5, "ofMethod", "(LClassStarts$Kind;I)I"⟩
abbrev cX5_ofStart : ByteArray := prog_7_method_3_code
def yX5_ofStart : MethodName := ⟨RX5, "ofStart", "(LClassStarts$Kind;)I"⟩
abbrev cX5_clear : ByteArray := prog_7_method_4_code
def yX5_clear : MethodName := ⟨RX5, "clear", "()V"⟩
abbrev cX5_follow : ByteArray := prog_7_method_5_code
def yX5_follow : MethodName := ⟨RX5, "follow", "(LClassStarts$Method;)V"⟩
abbrev cX5_want : ByteArray := prog_7_method_6_code
def yX5_want : MethodName := ⟨RX5, "want", "(LClassStarts$Kind;)V"⟩
abbrev cX5_lookThrough : ByteArray := prog_7_method_7_code
def yX5_lookThrough : MethodName := ⟨RX5, "lookThrough", "(LClassStarts$Kind;I)V"⟩
abbrev cX5_isWanted : ByteArray := prog_7_method_8_code
def yX5_isWanted : MethodName := ⟨RX5, "isWanted", "(LClassStarts$Kind;)Z"⟩
abbrev cX5_add : ByteArray := prog_7_method_9_code
def yX5_add : MethodName := ⟨RX5, "add", "(LClassStarts$Kind;)V"⟩
abbrev cX5_list : ByteArray := prog_7_method_10_code
def yX5_list : MethodName := ⟨RX5, "list", "(LClassStarts$Method;)V"⟩
def RX6 : String := "ClassStarts"
def TX6 : u_T := fun k => match k with
  | 0 => ("ClassStarts", "kinds", "[LClassStarts$Kind;", true)
  | 1 => ("ClassStarts", "size", "I", false)
  | 2 => ("ClassStarts", "machine", "LClassStarts$Machine;", true)
  | _ => ("ClassStarts", "reach", "LClassStarts$Reach;", true)
def tyX6 : Nat → FieldType := fun k => match k with
  | 0 => .array (.object "ClassStarts$Kind")
  | 1 => .int
  | 2 => .object "ClassStarts$Machine"
  | _ => .object "ClassStarts$Reach"
abbrev wsX60 : List Cond := u_ws RX6 TX6 4
theorem nmX6 : ∀ a, a < 4 → ∀ b, b < 4 → a ≠ b → (TX6 a).2.1 ≠ (TX6 b).2.1 := by decide +kernel
theorem tyX6_ok : ∀ k, k < 4 → parseFieldDescriptor (TX6 k).2.2.1 = some (tyX6 k) := by decide +kernel
abbrev cX6_init : ByteArray := prog_1_method_1_code
def yX6_init : MethodName := ⟨RX6, "<init>", "()V"⟩
abbrev cX6_made : ByteArray := prog_1_method_2_code
def yX6_made : MethodName := ⟨RX6, "made", "(I)I"⟩
abbrev cX6_face : ByteArray := prog_1_method_3_code
def yX6_face : MethodName := ⟨RX6, "face", "(Z)I"⟩
abbrev cX6_bears : ByteArray := prog_1_method_4_code
def yX6_bears : MethodName := ⟨RX6, "bears", "(II)I"⟩
abbrev cX6_constant : ByteArray := prog_1_method_5_code
def yX6_constant : MethodName := ⟨RX6, "constant", "(III)I"⟩
abbrev cX6_act : ByteArray := prog_1_method_6_code
def yX6_act : MethodName := ⟨RX6, "act", "(IIIIII)I"⟩
abbrev cX6_run : ByteArray := prog_1_method_7_code
def yX6_run : MethodName := ⟨RX6, "run", "(II)I"⟩
abbrev cX6_cause : ByteArray := prog_1_method_8_code
def yX6_cause : MethodName := ⟨RX6, "cause", "()I"⟩
abbrev cX6_count : ByteArray := prog_1_method_9_code
def yX6_count : MethodName := ⟨RX6, "count", "(I)I"⟩
abbrev cX6_event : ByteArray := prog_1_method_10_code
def yX6_event : MethodName := ⟨RX6, "event", "(II)I"⟩
abbrev cX6_state : ByteArray := prog_1_method_11_code
def yX6_state : MethodName := ⟨RX6, "state", "(I)I"⟩
abbrev cX6_field : ByteArray := prog_1_method_12_code
def yX6_field : MethodName := ⟨RX6, "field", "(II)I"⟩
abbrev cX6_row : ByteArray := prog_1_method_13_code
def yX6_row : MethodName := ⟨RX6, "row", "(I)I"⟩
abbrev cX6_item : ByteArray := prog_1_method_14_code
def yX6_item : MethodName := ⟨RX6, "item", "(II)I"⟩
abbrev cX6_again : ByteArray := prog_1_method_15_code
def yX6_again : MethodName := ⟨RX6, "again", "()I"⟩
abbrev cX6_may : ByteArray := prog_1_method_16_code
def yX6_may : MethodName := ⟨RX6, "may", "(II)I"⟩
abbrev cX6_ahead : ByteArray := prog_1_method_17_code
def yX6_ahead : MethodName := ⟨RX6, "ahead", "(II)I"⟩
abbrev cX6_find : ByteArray := prog_1_method_18_code
def yX6_find : MethodName := ⟨RX6, "find", "(I)LClassStarts$Kind;"⟩
abbrev cX6_keep : ByteArray := prog_1_method_19_code
def yX6_keep : MethodName := ⟨RX6, "keep", "(ZZLClassStarts$Kind;)I"⟩
abbrev cX6_named : ByteArray := prog_1_method_20_code
def yX6_named : MethodName := ⟨RX6, "named", "(LClassStarts$Kind;III)LClassStarts$Kind;"⟩
def RX7 : String := "ClassStartsModel"
def TX7 : u_T := fun k => match k with
  | 0 => ("ClassStartsModel", "many", "I", false)
  | 1 => ("ClassStartsModel", "isFace", "[Z", true)
  | 2 => ("ClassStartsModel", "hasDefaults", "[Z", true)
  | 3 => ("ClassStartsModel", "parent", "[I", true)
  | 4 => ("ClassStartsModel", "faces", "[I", true)
  | 5 => ("ClassStartsModel", "faceOf", "[I", true)
  | 6 => ("ClassStartsModel", "value", "[I", true)
  | 7 => ("ClassStartsModel", "isConstant", "[Z", true)
  | 8 => ("ClassStartsModel", "rowSize", "[I", true)
  | 9 => ("ClassStartsModel", "rowItem", "[I", true)
  | 10 => ("ClassStartsModel", "acts", "[I", true)
  | 11 => ("ClassStartsModel", "actOf", "[I", true)
  | 12 => ("ClassStartsModel", "state", "[I", true)
  | 13 => ("ClassStartsModel", "events", "I", false)
  | 14 => ("ClassStartsModel", "eventSort", "[I", true)
  | 15 => ("ClassStartsModel", "eventOf", "[I", true)
  | 16 => ("ClassStartsModel", "half", "I", false)
  | 17 => ("ClassStartsModel", "worked", "I", false)
  | 18 => ("ClassStartsModel", "thrown", "I", false)
  | 19 => ("ClassStartsModel", "causeNow", "I", false)
  | 20 => ("ClassStartsModel", "causeTold", "I", false)
  | 21 => ("ClassStartsModel", "within", "I", false)
  | 22 => ("ClassStartsModel", "frames", "I", false)
  | 23 => ("ClassStartsModel", "sort", "[I", true)
  | 24 => ("ClassStartsModel", "one", "[I", true)
  | 25 => ("ClassStartsModel", "two", "[I", true)
  | 26 => ("ClassStartsModel", "three", "[I", true)
  | 27 => ("ClassStartsModel", "stage", "[I", true)
  | 28 => ("ClassStartsModel", "guards", "[I", true)
  | 29 => ("ClassStartsModel", "guardEnd", "[I", true)
  | 30 => ("ClassStartsModel", "guardBy", "[I", true)
  | 31 => ("ClassStartsModel", "flying", "I", false)
  | 32 => ("ClassStartsModel", "wanted", "I", false)
  | _ => ("ClassStartsModel", "mayWork", "[Z", true)
def tyX7 : Nat → FieldType := fun k => match k with
  | 0 => .int
  | 1 => .array .boolean
  | 2 => .array .boolean
  | 3 => .array .int
  | 4 => .array .int
  | 5 => .array .int
  | 6 => .array .int
  | 7 => .array .boolean
  | 8 => .array .int
  | 9 => .array .int
  | 10 => .array .int
  | 11 => .array .int
  | 12 => .array .int
  | 13 => .int
  | 14 => .array .int
  | 15 => .array .int
  | 16 => .int
  | 17 => .int
  | 18 => .int
  | 19 => .int
  | 20 => .int
  | 21 => .int
  | 22 => .int
  | 23 => .array .int
  | 24 => .array .int
  | 25 => .array .int
  | 26 => .array .int
  | 27 => .array .int
  | 28 => .array .int
  | 29 => .array .int
  | 30 => .array .int
  | 31 => .int
  | 32 => .int
  | _ => .array .boolean
abbrev wsX70 : List Cond := u_ws RX7 TX7 34
theorem nmX7 : ∀ a, a < 34 → ∀ b, b < 34 → a ≠ b → (TX7 a).2.1 ≠ (TX7 b).2.1 := by decide +kernel
theorem tyX7_ok : ∀ k, k < 34 → parseFieldDescriptor (TX7 k).2.2.1 = some (tyX7 k) := by decide +kernel
abbrev cX7_init : ByteArray := prog_9_method_1_code
def yX7_init : MethodName := ⟨RX7, "<init>", "()V"⟩
abbrev cX7_has : ByteArray := prog_9_method_3_code
def yX7_has : MethodName := ⟨RX7, "has", "(I)Z"⟩
abbrev cX7_make : ByteArray := prog_9_method_4_code
def yX7_make : MethodName := ⟨RX7, "make", "(ZZI)I"⟩
abbrev cX7_made : ByteArray := prog_9_method_5_code
def yX7_made : MethodName := ⟨RX7, "made", "(I)I"⟩
abbrev cX7_face : ByteArray := prog_9_method_6_code
def yX7_face : MethodName := ⟨RX7, "face", "(Z)I"⟩
abbrev cX7_bears : ByteArray := prog_9_method_7_code
def yX7_bears : MethodName := ⟨RX7, "bears", "(II)I"⟩
abbrev cX7_isField : ByteArray := prog_9_method_8_code
def yX7_isField : MethodName := ⟨RX7, "isField", "(I)Z"⟩
abbrev cX7_constant : ByteArray := prog_9_method_9_code
def yX7_constant : MethodName := ⟨RX7, "constant", "(III)I"⟩
abbrev cX7_areIn : ByteArray := prog_9_method_10_code
def yX7_areIn : MethodName := ⟨RX7, "areIn", "(IIII)Z"⟩
abbrev cX7_act : ByteArray := prog_9_method_11_code
def yX7_act : MethodName := ⟨RX7, "act", "(IIIIII)I"⟩
abbrev cX7_tell : ByteArray := prog_9_method_12_code
def yX7_tell : MethodName := ⟨RX7, "tell", "(II)V"⟩
abbrev cX7_arise : ByteArray := prog_9_method_13_code
def yX7_arise : MethodName := ⟨RX7, "arise", "(I)I"⟩
abbrev cX7_push : ByteArray := prog_9_method_14_code
def yX7_push : MethodName := ⟨RX7, "push", "(III)V"⟩
abbrev cX7_want : ByteArray := prog_9_method_15_code
def yX7_want : MethodName := ⟨RX7, "want", "(I)V"⟩
abbrev cX7_enter : ByteArray := prog_9_method_16_code
def yX7_enter : MethodName := ⟨RX7, "enter", "(II)V"⟩
abbrev cX7_step : ByteArray := prog_9_method_17_code
def yX7_step : MethodName := ⟨RX7, "step", "()V"⟩
abbrev cX7_look : ByteArray := prog_9_method_18_code
def yX7_look : MethodName := ⟨RX7, "look", "(II)V"⟩
abbrev cX7_fly : ByteArray := prog_9_method_19_code
def yX7_fly : MethodName := ⟨RX7, "fly", "()V"⟩
abbrev cX7_goOn : ByteArray := prog_9_method_20_code
def yX7_goOn : MethodName := ⟨RX7, "goOn", "(I)V"⟩
abbrev cX7_wants : ByteArray := prog_9_method_21_code
def yX7_wants : MethodName := ⟨RX7, "wants", "(IIII)I"⟩
abbrev cX7_set : ByteArray := prog_9_method_22_code
def yX7_set : MethodName := ⟨RX7, "set", "(III)V"⟩
abbrev cX7_get : ByteArray := prog_9_method_23_code
def yX7_get : MethodName := ⟨RX7, "get", "(II)I"⟩
abbrev cX7_doOne : ByteArray := prog_9_method_24_code
def yX7_doOne : MethodName := ⟨RX7, "doOne", "(IIIII)I"⟩
abbrev cX7_other : ByteArray := prog_9_method_25_code
def yX7_other : MethodName := ⟨RX7, "other", "(IIIII)I"⟩
abbrev cX7_newRow : ByteArray := prog_9_method_26_code
def yX7_newRow : MethodName := ⟨RX7, "newRow", "(II)I"⟩
abbrev cX7_inOut : ByteArray := prog_9_method_27_code
def yX7_inOut : MethodName := ⟨RX7, "inOut", "(IZII)I"⟩
abbrev cX7_run : ByteArray := prog_9_method_28_code
def yX7_run : MethodName := ⟨RX7, "run", "(II)I"⟩
abbrev cX7_cause : ByteArray := prog_9_method_29_code
def yX7_cause : MethodName := ⟨RX7, "cause", "()I"⟩
abbrev cX7_count : ByteArray := prog_9_method_30_code
def yX7_count : MethodName := ⟨RX7, "count", "(I)I"⟩
abbrev cX7_event : ByteArray := prog_9_method_31_code
def yX7_event : MethodName := ⟨RX7, "event", "(II)I"⟩
abbrev cX7_state : ByteArray := prog_9_method_32_code
def yX7_state : MethodName := ⟨RX7, "state", "(I)I"⟩
abbrev cX7_field : ByteArray := prog_9_method_33_code
def yX7_field : MethodName := ⟨RX7, "field", "(II)I"⟩
abbrev cX7_row : ByteArray := prog_9_method_34_code
def yX7_row : MethodName := ⟨RX7, "row", "(I)I"⟩
abbrev cX7_item : ByteArray := prog_9_method_35_code
def yX7_item : MethodName := ⟨RX7, "item", "(II)I"⟩
abbrev cX7_again : ByteArray := prog_9_method_36_code
def yX7_again : MethodName := ⟨RX7, "again", "()I"⟩
abbrev cX7_mayWant : ByteArray := prog_9_method_37_code
def yX7_mayWant : MethodName := ⟨RX7, "mayWant", "(I)V"⟩
abbrev cX7_mayLook : ByteArray := prog_9_method_38_code
def yX7_mayLook : MethodName := ⟨RX7, "mayLook", "(I)V"⟩
abbrev cX7_may : ByteArray := prog_9_method_39_code
def yX7_may : MethodName := ⟨RX7, "may", "(II)I"⟩
abbrev cX7_mayActs : ByteArray := prog_9_method_40_code
def yX7_mayActs : MethodName := ⟨RX7, "mayActs", "(I)V"⟩
abbrev cX7_ahead : ByteArray := prog_9_method_41_code
def yX7_ahead : MethodName := ⟨RX7, "ahead", "(II)I"⟩
def RJ9 : String := "java/lang/Math"
def TJ9 : u_T := fun k => match k with
  | _ => ("", "", "", false)
def tyJ9 : Nat → FieldType := fun k => match k with
  | _ => .int
abbrev wsJ90 : List Cond := u_ws RJ9 TJ9 0
theorem nmJ9 : ∀ a, a < 0 → ∀ b, b < 0 → a ≠ b → (TJ9 a).2.1 ≠ (TJ9 b).2.1 := by decide +kernel
theorem tyJ9_ok : ∀ k, k < 0 → parseFieldDescriptor (TJ9 k).2.2.1 = some (tyJ9 k) := by decide +kernel
abbrev cJ9_max_7cf53 : ByteArray := prog_10_method_65_code
def yJ9_max_7cf53 : MethodName := ⟨RJ9, "max", "(II)I"⟩
abbrev cJ9_min_7cf53 : ByteArray := prog_10_method_69_code
def yJ9_min_7cf53 : MethodName := ⟨RJ9, "min", "(II)I"⟩
def RL : String := "ClassStartsLaw"
abbrev cL_law : ByteArray := code
def yL_law : MethodName := ⟨RL, "law", "([I)Z"⟩
abbrev vwCl : List vw_C := [(RX0, TX0, 6), (RX1, TX1, 8), (RX2, TX2, 12), (RX3, TX3, 1), (RX4, TX4, 3), (RX5, TX5, 4), (RX6, TX6, 4), (RX7, TX7, 34)]
end
section
/-! the words that are kept over calls, out of the tables, by name -/
def gwA : List Cond := lw_tbl.filter goodWord
theorem gWA : GoodIn gwA gwA := fun w h => ⟨h, good_of_word (List.mem_filter.mp h).2⟩
theorem gWL : ∀ w ∈ gwA, w ∈ lw_tbl := fun _ h => (List.mem_filter.mp h).1
theorem gw_in {w : Cond} (h : w ∈ lw_tbl) (g : goodWord w = true) : w ∈ gwA := List.mem_filter.mpr ⟨h, g⟩
theorem mt_1 : ∀ w ∈ tables_1_1, w ∈ lw_tbl := fun _ h => List.mem_append_right _ (List.mem_append_left _ h)
theorem mt_2 : ∀ w ∈ tables_1_2, w ∈ lw_tbl := fun _ h => List.mem_append_right _ (List.mem_append_right _ (List.mem_append_left _ h))
theorem mt_3 : ∀ w ∈ tables_1_3, w ∈ lw_tbl := fun _ h => List.mem_append_right _ (List.mem_append_right _ (List.mem_append_right _ (List.mem_append_left _ h)))
theorem mt_4 : ∀ w ∈ tables_1_4, w ∈ lw_tbl := fun _ h => List.mem_append_right _ (List.mem_append_right _ (List.mem_append_right _ (List.mem_append_right _ h)))
theorem mp_1 : ∀ q ∈ lw_privs_1, Cond.selects q.1.cls q.1 q.1 ∈ lw_tbl := fun _ h => List.mem_append_left _ (List.mem_map.mpr ⟨_, (List.mem_append_left _ h), rfl⟩)
theorem mp_2 : ∀ q ∈ lw_privs_2, Cond.selects q.1.cls q.1 q.1 ∈ lw_tbl := fun _ h => List.mem_append_left _ (List.mem_map.mpr ⟨_, (List.mem_append_right _ (List.mem_append_left _ h)), rfl⟩)
theorem mp_3 : ∀ q ∈ lw_privs_3, Cond.selects q.1.cls q.1 q.1 ∈ lw_tbl := fun _ h => List.mem_append_left _ (List.mem_map.mpr ⟨_, (List.mem_append_right _ (List.mem_append_right _ h)), rfl⟩)
theorem kl_L_7 : Cond.classLink RL 7 RX6 ∈ gwA := gw_in (mt_1 _ (List.mem_of_getElem? (i := 10) rfl)) rfl
theorem ia_X6 : Cond.instantiable RX6 4 ∈ gwA := gw_in (mt_1 _ (List.mem_of_getElem? (i := 11) rfl)) rfl
theorem in_X6 : Cond.initialized RX6 ∈ gwA := gw_in (mt_1 _ (List.mem_of_getElem? (i := 1) rfl)) rfl
theorem kl_L_10 : Cond.classLink RL 10 RX7 ∈ gwA := gw_in (mt_3 _ (List.mem_of_getElem? (i := 30) rfl)) rfl
theorem ia_X7 : Cond.instantiable RX7 34 ∈ gwA := gw_in (mt_3 _ (List.mem_of_getElem? (i := 31) rfl)) rfl
theorem in_X7 : Cond.initialized RX7 ∈ gwA := gw_in (mt_1 _ (List.mem_of_getElem? (i := 5) rfl)) rfl
theorem ml_L_9 : Cond.methodLink RL 9 yX6_init ∈ gwA := gw_in (mt_1 _ (List.mem_of_getElem? (i := 12) rfl)) rfl
theorem im_X6_init : Cond.instanceMethod yX6_init ∈ gwA := gw_in (mt_1 _ (List.mem_of_getElem? (i := 13) rfl)) rfl
theorem co_X6_init : Cond.code yX6_init cX6_init 1 none ∈ gwA := gw_in (mt_1 _ (List.mem_of_getElem? (i := 14) rfl)) rfl
theorem ml_X6_1 : Cond.methodLink RX6 1 objectInit ∈ gwA := gw_in (mt_1 _ (List.mem_of_getElem? (i := 15) rfl)) rfl
theorem im_objectInit : Cond.instanceMethod objectInit ∈ gwA := gw_in (mt_1 _ (List.mem_of_getElem? (i := 16) rfl)) rfl
theorem co_objectInit : Cond.code objectInit ⟨#[0xb1]⟩ 1 none ∈ gwA := gw_in (mt_1 _ (List.mem_of_getElem? (i := 17) rfl)) rfl
theorem kl_X6_9 : Cond.classLink RX6 9 RX2 ∈ gwA := gw_in (mt_1 _ (List.mem_of_getElem? (i := 18) rfl)) rfl
theorem fl_X6_11 : Cond.fieldLink RX6 11 "ClassStarts" "kinds" "[LClassStarts$Kind;" ∈ gwA := gw_in (mt_1 _ (List.mem_of_getElem? (i := 97) rfl)) rfl
theorem fl_X6_15 : Cond.fieldLink RX6 15 "ClassStarts" "size" "I" ∈ gwA := gw_in (mt_1 _ (List.mem_of_getElem? (i := 98) rfl)) rfl
theorem kl_X6_19 : Cond.classLink RX6 19 RX3 ∈ gwA := gw_in (mt_1 _ (List.mem_of_getElem? (i := 20) rfl)) rfl
theorem ia_X3 : Cond.instantiable RX3 1 ∈ gwA := gw_in (mt_1 _ (List.mem_of_getElem? (i := 21) rfl)) rfl
theorem in_X3 : Cond.initialized RX3 ∈ gwA := gw_in (mt_1 _ (List.mem_of_getElem? (i := 2) rfl)) rfl
theorem fl_X6_22 : Cond.fieldLink RX6 22 "ClassStarts" "machine" "LClassStarts$Machine;" ∈ gwA := gw_in (mt_1 _ (List.mem_of_getElem? (i := 99) rfl)) rfl
theorem kl_X6_26 : Cond.classLink RX6 26 RX5 ∈ gwA := gw_in (mt_1 _ (List.mem_of_getElem? (i := 76) rfl)) rfl
theorem ia_X5 : Cond.instantiable RX5 4 ∈ gwA := gw_in (mt_1 _ (List.mem_of_getElem? (i := 77) rfl)) rfl
theorem in_X5 : Cond.initialized RX5 ∈ gwA := gw_in (mt_1 _ (List.mem_of_getElem? (i := 4) rfl)) rfl
theorem fl_X6_29 : Cond.fieldLink RX6 29 "ClassStarts" "reach" "LClassStarts$Reach;" ∈ gwA := gw_in (mt_1 _ (List.mem_of_getElem? (i := 100) rfl)) rfl
theorem im_X3_init : Cond.instanceMethod yX3_init ∈ gwA := gw_in (mt_1 _ (List.mem_of_getElem? (i := 23) rfl)) rfl
theorem co_X3_init : Cond.code yX3_init cX3_init 1 none ∈ gwA := gw_in (mt_1 _ (List.mem_of_getElem? (i := 24) rfl)) rfl
theorem ml_X3_3 : Cond.methodLink RX3 3 objectInit ∈ gwA := gw_in (mt_1 _ (List.mem_of_getElem? (i := 25) rfl)) rfl
theorem kl_X3_9 : Cond.classLink RX3 9 RX1 ∈ gwA := gw_in (mt_1 _ (List.mem_of_getElem? (i := 26) rfl)) rfl
theorem ia_X1 : Cond.instantiable RX1 8 ∈ gwA := gw_in (mt_1 _ (List.mem_of_getElem? (i := 27) rfl)) rfl
theorem in_X1 : Cond.initialized RX1 ∈ gwA := gw_in (mt_1 _ (List.mem_of_getElem? (i := 3) rfl)) rfl
theorem fl_X3_12 : Cond.fieldLink RX3 12 "ClassStarts$Machine" "journal" "LClassStarts$Journal;" ∈ gwA := gw_in (mt_1 _ (List.mem_of_getElem? (i := 71) rfl)) rfl
theorem im_X1_init : Cond.instanceMethod yX1_init ∈ gwA := gw_in (mt_1 _ (List.mem_of_getElem? (i := 29) rfl)) rfl
theorem co_X1_init : Cond.code yX1_init cX1_init 1 none ∈ gwA := gw_in (mt_1 _ (List.mem_of_getElem? (i := 30) rfl)) rfl
theorem ml_X1_3 : Cond.methodLink RX1 3 objectInit ∈ gwA := gw_in (mt_1 _ (List.mem_of_getElem? (i := 31) rfl)) rfl
theorem ac_int : Cond.arrayClass .int ∈ gwA := gw_in (mt_1 _ (List.mem_of_getElem? (i := 70) rfl)) rfl
theorem fl_X1_11 : Cond.fieldLink RX1 11 "ClassStarts$Journal" "sorts" "[I" ∈ gwA := gw_in (mt_1 _ (List.mem_of_getElem? (i := 32) rfl)) rfl
theorem fl_X1_15 : Cond.fieldLink RX1 15 "ClassStarts$Journal" "values" "[I" ∈ gwA := gw_in (mt_1 _ (List.mem_of_getElem? (i := 34) rfl)) rfl
theorem fl_X1_18 : Cond.fieldLink RX1 18 "ClassStarts$Journal" "events" "I" ∈ gwA := gw_in (mt_1 _ (List.mem_of_getElem? (i := 36) rfl)) rfl
theorem fl_X1_22 : Cond.fieldLink RX1 22 "ClassStarts$Journal" "halfSeen" "I" ∈ gwA := gw_in (mt_1 _ (List.mem_of_getElem? (i := 38) rfl)) rfl
theorem fl_X1_25 : Cond.fieldLink RX1 25 "ClassStarts$Journal" "acts" "I" ∈ gwA := gw_in (mt_1 _ (List.mem_of_getElem? (i := 41) rfl)) rfl
theorem fl_X1_28 : Cond.fieldLink RX1 28 "ClassStarts$Journal" "raised" "I" ∈ gwA := gw_in (mt_1 _ (List.mem_of_getElem? (i := 44) rfl)) rfl
theorem fl_X1_31 : Cond.fieldLink RX1 31 "ClassStarts$Journal" "ended" "I" ∈ gwA := gw_in (mt_1 _ (List.mem_of_getElem? (i := 47) rfl)) rfl
theorem fl_X1_34 : Cond.fieldLink RX1 34 "ClassStarts$Journal" "startCause" "I" ∈ gwA := gw_in (mt_1 _ (List.mem_of_getElem? (i := 50) rfl)) rfl
theorem im_X5_init : Cond.instanceMethod yX5_init ∈ gwA := gw_in (mt_1 _ (List.mem_of_getElem? (i := 79) rfl)) rfl
theorem co_X5_init : Cond.code yX5_init cX5_init 1 none ∈ gwA := gw_in (mt_1 _ (List.mem_of_getElem? (i := 80) rfl)) rfl
theorem ml_X5_5 : Cond.methodLink RX5 5 objectInit ∈ gwA := gw_in (mt_1 _ (List.mem_of_getElem? (i := 81) rfl)) rfl
theorem fl_X5_11 : Cond.fieldLink RX5 11 "ClassStarts$Reach" "wanted" "I" ∈ gwA := gw_in (mt_1 _ (List.mem_of_getElem? (i := 84) rfl)) rfl
theorem fl_X5_17 : Cond.fieldLink RX5 17 "ClassStarts$Reach" "listed" "J" ∈ gwA := gw_in (mt_1 _ (List.mem_of_getElem? (i := 85) rfl)) rfl
theorem kl_X5_21 : Cond.classLink RX5 21 RX4 ∈ gwA := gw_in (mt_1 _ (List.mem_of_getElem? (i := 82) rfl)) rfl
theorem fl_X5_23 : Cond.fieldLink RX5 23 "ClassStarts$Reach" "methods" "[LClassStarts$Method;" ∈ gwA := gw_in (mt_1 _ (List.mem_of_getElem? (i := 86) rfl)) rfl
theorem fl_X5_27 : Cond.fieldLink RX5 27 "ClassStarts$Reach" "size" "I" ∈ gwA := gw_in (mt_1 _ (List.mem_of_getElem? (i := 87) rfl)) rfl
theorem ml_L_12 : Cond.methodLink RL 12 yX7_init ∈ gwA := gw_in (mt_3 _ (List.mem_of_getElem? (i := 32) rfl)) rfl
theorem im_X7_init : Cond.instanceMethod yX7_init ∈ gwA := gw_in (mt_3 _ (List.mem_of_getElem? (i := 33) rfl)) rfl
theorem co_X7_init : Cond.code yX7_init cX7_init 1 none ∈ gwA := gw_in (mt_3 _ (List.mem_of_getElem? (i := 34) rfl)) rfl
theorem ml_X7_1 : Cond.methodLink RX7 1 objectInit ∈ gwA := gw_in (mt_3 _ (List.mem_of_getElem? (i := 35) rfl)) rfl
theorem ac_boolean : Cond.arrayClass .boolean ∈ gwA := gw_in (mt_1 _ (List.mem_of_getElem? (i := 151) rfl)) rfl
theorem fl_X7_7 : Cond.fieldLink RX7 7 "ClassStartsModel" "isFace" "[Z" ∈ gwA := gw_in (mt_3 _ (List.mem_of_getElem? (i := 37) rfl)) rfl
theorem fl_X7_13 : Cond.fieldLink RX7 13 "ClassStartsModel" "hasDefaults" "[Z" ∈ gwA := gw_in (mt_3 _ (List.mem_of_getElem? (i := 38) rfl)) rfl
theorem fl_X7_16 : Cond.fieldLink RX7 16 "ClassStartsModel" "parent" "[I" ∈ gwA := gw_in (mt_3 _ (List.mem_of_getElem? (i := 39) rfl)) rfl
theorem fl_X7_20 : Cond.fieldLink RX7 20 "ClassStartsModel" "faces" "[I" ∈ gwA := gw_in (mt_3 _ (List.mem_of_getElem? (i := 40) rfl)) rfl
theorem fl_X7_23 : Cond.fieldLink RX7 23 "ClassStartsModel" "faceOf" "[I" ∈ gwA := gw_in (mt_3 _ (List.mem_of_getElem? (i := 41) rfl)) rfl
theorem fl_X7_26 : Cond.fieldLink RX7 26 "ClassStartsModel" "value" "[I" ∈ gwA := gw_in (mt_3 _ (List.mem_of_getElem? (i := 42) rfl)) rfl
theorem fl_X7_29 : Cond.fieldLink RX7 29 "ClassStartsModel" "isConstant" "[Z" ∈ gwA := gw_in (mt_3 _ (List.mem_of_getElem? (i := 43) rfl)) rfl
theorem fl_X7_32 : Cond.fieldLink RX7 32 "ClassStartsModel" "rowSize" "[I" ∈ gwA := gw_in (mt_3 _ (List.mem_of_getElem? (i := 44) rfl)) rfl
theorem fl_X7_35 : Cond.fieldLink RX7 35 "ClassStartsModel" "rowItem" "[I" ∈ gwA := gw_in (mt_3 _ (List.mem_of_getElem? (i := 45) rfl)) rfl
theorem fl_X7_38 : Cond.fieldLink RX7 38 "ClassStartsModel" "acts" "[I" ∈ gwA := gw_in (mt_3 _ (List.mem_of_getElem? (i := 46) rfl)) rfl
theorem fl_X7_41 : Cond.fieldLink RX7 41 "ClassStartsModel" "actOf" "[I" ∈ gwA := gw_in (mt_3 _ (List.mem_of_getElem? (i := 47) rfl)) rfl
theorem fl_X7_44 : Cond.fieldLink RX7 44 "ClassStartsModel" "state" "[I" ∈ gwA := gw_in (mt_3 _ (List.mem_of_getElem? (i := 48) rfl)) rfl
theorem fl_X7_47 : Cond.fieldLink RX7 47 "ClassStartsModel" "eventSort" "[I" ∈ gwA := gw_in (mt_3 _ (List.mem_of_getElem? (i := 50) rfl)) rfl
theorem fl_X7_50 : Cond.fieldLink RX7 50 "ClassStartsModel" "eventOf" "[I" ∈ gwA := gw_in (mt_3 _ (List.mem_of_getElem? (i := 51) rfl)) rfl
theorem fl_X7_53 : Cond.fieldLink RX7 53 "ClassStartsModel" "causeTold" "I" ∈ gwA := gw_in (mt_3 _ (List.mem_of_getElem? (i := 56) rfl)) rfl
theorem fl_X7_57 : Cond.fieldLink RX7 57 "ClassStartsModel" "sort" "[I" ∈ gwA := gw_in (mt_3 _ (List.mem_of_getElem? (i := 59) rfl)) rfl
theorem fl_X7_60 : Cond.fieldLink RX7 60 "ClassStartsModel" "one" "[I" ∈ gwA := gw_in (mt_3 _ (List.mem_of_getElem? (i := 60) rfl)) rfl
theorem fl_X7_63 : Cond.fieldLink RX7 63 "ClassStartsModel" "two" "[I" ∈ gwA := gw_in (mt_3 _ (List.mem_of_getElem? (i := 61) rfl)) rfl
theorem fl_X7_66 : Cond.fieldLink RX7 66 "ClassStartsModel" "three" "[I" ∈ gwA := gw_in (mt_3 _ (List.mem_of_getElem? (i := 62) rfl)) rfl
theorem fl_X7_69 : Cond.fieldLink RX7 69 "ClassStartsModel" "stage" "[I" ∈ gwA := gw_in (mt_3 _ (List.mem_of_getElem? (i := 63) rfl)) rfl
theorem fl_X7_72 : Cond.fieldLink RX7 72 "ClassStartsModel" "guards" "[I" ∈ gwA := gw_in (mt_3 _ (List.mem_of_getElem? (i := 64) rfl)) rfl
theorem fl_X7_75 : Cond.fieldLink RX7 75 "ClassStartsModel" "guardEnd" "[I" ∈ gwA := gw_in (mt_3 _ (List.mem_of_getElem? (i := 65) rfl)) rfl
theorem fl_X7_78 : Cond.fieldLink RX7 78 "ClassStartsModel" "guardBy" "[I" ∈ gwA := gw_in (mt_3 _ (List.mem_of_getElem? (i := 66) rfl)) rfl
theorem fl_X7_81 : Cond.fieldLink RX7 81 "ClassStartsModel" "mayWork" "[Z" ∈ gwA := gw_in (mt_3 _ (List.mem_of_getElem? (i := 69) rfl)) rfl
theorem ml_L_13 : Cond.methodLink RL 13 yX6_made ∈ gwA := gw_in (mt_1 _ (List.mem_of_getElem? (i := 110) rfl)) rfl
theorem im_X6_made : Cond.instanceMethod yX6_made ∈ gwA := gw_in (mt_1 _ (List.mem_of_getElem? (i := 111) rfl)) rfl
theorem se_X6_made : Cond.selects RX6 yX6_made yX6_made ∈ gwA := gw_in (mt_1 _ (List.mem_of_getElem? (i := 112) rfl)) rfl
theorem co_X6_made : Cond.code yX6_made cX6_made 3 (some .int) ∈ gwA := gw_in (mt_1 _ (List.mem_of_getElem? (i := 113) rfl)) rfl
theorem fl_X6_37 : Cond.fieldLink RX6 37 "ClassStarts$Kind" "isFace" "Z" ∈ gwA := gw_in (mt_1 _ (List.mem_of_getElem? (i := 156) rfl)) rfl
theorem ml_X6_33 : Cond.methodLink RX6 33 yX6_find ∈ gwA := gw_in (mt_1 _ (List.mem_of_getElem? (i := 114) rfl)) rfl
theorem im_X6_find : Cond.instanceMethod yX6_find ∈ gwA := gw_in (mt_1 _ (List.mem_of_getElem? (i := 116) rfl)) rfl
theorem se_X6_find : Cond.selects RX6 yX6_find yX6_find ∈ gwA := gw_in (mp_1 (yX6_find, 4) (List.mem_of_getElem? (i := 0) rfl)) rfl
theorem co_X6_find : Cond.code yX6_find cX6_find 2 (some (.object "ClassStarts$Kind")) ∈ gwA := gw_in (mt_1 _ (List.mem_of_getElem? (i := 117) rfl)) rfl
theorem ml_X6_41 : Cond.methodLink RX6 41 yX6_keep ∈ gwA := gw_in (mt_1 _ (List.mem_of_getElem? (i := 118) rfl)) rfl
theorem im_X6_keep : Cond.instanceMethod yX6_keep ∈ gwA := gw_in (mt_1 _ (List.mem_of_getElem? (i := 120) rfl)) rfl
theorem se_X6_keep : Cond.selects RX6 yX6_keep yX6_keep ∈ gwA := gw_in (mp_1 (yX6_keep, 4) (List.mem_of_getElem? (i := 1) rfl)) rfl
theorem co_X6_keep : Cond.code yX6_keep cX6_keep 4 (some .int) ∈ gwA := gw_in (mt_1 _ (List.mem_of_getElem? (i := 121) rfl)) rfl
theorem ia_X2 : Cond.instantiable RX2 12 ∈ gwA := gw_in (mt_1 _ (List.mem_of_getElem? (i := 122) rfl)) rfl
theorem in_X2 : Cond.initialized RX2 ∈ gwA := gw_in (mt_1 _ (List.mem_of_getElem? (i := 6) rfl)) rfl
theorem ml_X6_156 : Cond.methodLink RX6 156 yX2_init ∈ gwA := gw_in (mt_1 _ (List.mem_of_getElem? (i := 123) rfl)) rfl
theorem im_X2_init : Cond.instanceMethod yX2_init ∈ gwA := gw_in (mt_1 _ (List.mem_of_getElem? (i := 124) rfl)) rfl
theorem co_X2_init : Cond.code yX2_init cX2_init 6 none ∈ gwA := gw_in (mt_1 _ (List.mem_of_getElem? (i := 125) rfl)) rfl
theorem ml_X2_3 : Cond.methodLink RX2 3 objectInit ∈ gwA := gw_in (mt_1 _ (List.mem_of_getElem? (i := 126) rfl)) rfl
theorem kl_X2_9 : Cond.classLink RX2 9 RX2 ∈ gwA := gw_in (mt_1 _ (List.mem_of_getElem? (i := 127) rfl)) rfl
theorem fl_X2_11 : Cond.fieldLink RX2 11 "ClassStarts$Kind" "faces" "[LClassStarts$Kind;" ∈ gwA := gw_in (mt_1 _ (List.mem_of_getElem? (i := 165) rfl)) rfl
theorem fl_X2_15 : Cond.fieldLink RX2 15 "ClassStarts$Kind" "faceCount" "I" ∈ gwA := gw_in (mt_1 _ (List.mem_of_getElem? (i := 168) rfl)) rfl
theorem fl_X2_19 : Cond.fieldLink RX2 19 "ClassStarts$Kind" "fields" "[I" ∈ gwA := gw_in (mt_1 _ (List.mem_of_getElem? (i := 171) rfl)) rfl
theorem fl_X2_23 : Cond.fieldLink RX2 23 "ClassStarts$Kind" "constants" "[Z" ∈ gwA := gw_in (mt_1 _ (List.mem_of_getElem? (i := 172) rfl)) rfl
theorem fl_X2_27 : Cond.fieldLink RX2 27 "ClassStarts$Kind" "row" "[I" ∈ gwA := gw_in (mt_1 _ (List.mem_of_getElem? (i := 173) rfl)) rfl
theorem fl_X2_30 : Cond.fieldLink RX2 30 "ClassStarts$Kind" "items" "I" ∈ gwA := gw_in (mt_1 _ (List.mem_of_getElem? (i := 176) rfl)) rfl
theorem kl_X2_33 : Cond.classLink RX2 33 RX4 ∈ gwA := gw_in (mt_1 _ (List.mem_of_getElem? (i := 128) rfl)) rfl
theorem fl_X2_35 : Cond.fieldLink RX2 35 "ClassStarts$Kind" "methods" "[LClassStarts$Method;" ∈ gwA := gw_in (mt_1 _ (List.mem_of_getElem? (i := 179) rfl)) rfl
theorem fl_X2_39 : Cond.fieldLink RX2 39 "ClassStarts$Kind" "state" "I" ∈ gwA := gw_in (mt_1 _ (List.mem_of_getElem? (i := 183) rfl)) rfl
theorem fl_X2_42 : Cond.fieldLink RX2 42 "ClassStarts$Kind" "number" "I" ∈ gwA := gw_in (mt_1 _ (List.mem_of_getElem? (i := 152) rfl)) rfl
theorem fl_X2_45 : Cond.fieldLink RX2 45 "ClassStarts$Kind" "isFace" "Z" ∈ gwA := gw_in (mt_1 _ (List.mem_of_getElem? (i := 155) rfl)) rfl
theorem fl_X2_49 : Cond.fieldLink RX2 49 "ClassStarts$Kind" "hasDefaults" "Z" ∈ gwA := gw_in (mt_1 _ (List.mem_of_getElem? (i := 159) rfl)) rfl
theorem fl_X2_52 : Cond.fieldLink RX2 52 "ClassStarts$Kind" "parent" "LClassStarts$Kind;" ∈ gwA := gw_in (mt_1 _ (List.mem_of_getElem? (i := 162) rfl)) rfl
theorem ia_X4 : Cond.instantiable RX4 3 ∈ gwA := gw_in (mt_1 _ (List.mem_of_getElem? (i := 129) rfl)) rfl
theorem in_X4 : Cond.initialized RX4 ∈ gwA := gw_in (mt_1 _ (List.mem_of_getElem? (i := 7) rfl)) rfl
theorem ml_X2_56 : Cond.methodLink RX2 56 yX4_init ∈ gwA := gw_in (mt_1 _ (List.mem_of_getElem? (i := 130) rfl)) rfl
theorem im_X4_init : Cond.instanceMethod yX4_init ∈ gwA := gw_in (mt_1 _ (List.mem_of_getElem? (i := 131) rfl)) rfl
theorem co_X4_init : Cond.code yX4_init cX4_init 2 none ∈ gwA := gw_in (mt_1 _ (List.mem_of_getElem? (i := 132) rfl)) rfl
theorem ml_X4_3 : Cond.methodLink RX4 3 objectInit ∈ gwA := gw_in (mt_1 _ (List.mem_of_getElem? (i := 133) rfl)) rfl
theorem kl_X4_11 : Cond.classLink RX4 11 RX0 ∈ gwA := gw_in (mt_1 _ (List.mem_of_getElem? (i := 134) rfl)) rfl
theorem fl_X4_13 : Cond.fieldLink RX4 13 "ClassStarts$Method" "acts" "[LClassStarts$Act;" ∈ gwA := gw_in (mt_1 _ (List.mem_of_getElem? (i := 138) rfl)) rfl
theorem fl_X4_17 : Cond.fieldLink RX4 17 "ClassStarts$Method" "size" "I" ∈ gwA := gw_in (mt_1 _ (List.mem_of_getElem? (i := 141) rfl)) rfl
theorem fl_X4_21 : Cond.fieldLink RX4 21 "ClassStarts$Method" "number" "I" ∈ gwA := gw_in (mt_1 _ (List.mem_of_getElem? (i := 136) rfl)) rfl
theorem ml_L_17 : Cond.methodLink RL 17 yX7_made ∈ gwA := gw_in (mt_3 _ (List.mem_of_getElem? (i := 139) rfl)) rfl
theorem im_X7_made : Cond.instanceMethod yX7_made ∈ gwA := gw_in (mt_3 _ (List.mem_of_getElem? (i := 140) rfl)) rfl
theorem se_X7_made : Cond.selects RX7 yX7_made yX7_made ∈ gwA := gw_in (mt_3 _ (List.mem_of_getElem? (i := 141) rfl)) rfl
theorem co_X7_made : Cond.code yX7_made cX7_made 2 (some .int) ∈ gwA := gw_in (mt_3 _ (List.mem_of_getElem? (i := 142) rfl)) rfl
theorem ml_X7_87 : Cond.methodLink RX7 87 yX7_has ∈ gwA := gw_in (mt_3 _ (List.mem_of_getElem? (i := 143) rfl)) rfl
theorem im_X7_has : Cond.instanceMethod yX7_has ∈ gwA := gw_in (mt_3 _ (List.mem_of_getElem? (i := 145) rfl)) rfl
theorem se_X7_has : Cond.selects RX7 yX7_has yX7_has ∈ gwA := gw_in (mp_2 (yX7_has, 34) (List.mem_of_getElem? (i := 9) rfl)) rfl
theorem co_X7_has : Cond.code yX7_has cX7_has 2 (some .boolean) ∈ gwA := gw_in (mt_3 _ (List.mem_of_getElem? (i := 146) rfl)) rfl
theorem fl_X7_84 : Cond.fieldLink RX7 84 "ClassStartsModel" "many" "I" ∈ gwA := gw_in (mt_3 _ (List.mem_of_getElem? (i := 36) rfl)) rfl
theorem ml_X7_91 : Cond.methodLink RX7 91 yX7_make ∈ gwA := gw_in (mt_3 _ (List.mem_of_getElem? (i := 147) rfl)) rfl
theorem im_X7_make : Cond.instanceMethod yX7_make ∈ gwA := gw_in (mt_3 _ (List.mem_of_getElem? (i := 149) rfl)) rfl
theorem se_X7_make : Cond.selects RX7 yX7_make yX7_make ∈ gwA := gw_in (mp_2 (yX7_make, 34) (List.mem_of_getElem? (i := 10) rfl)) rfl
theorem co_X7_make : Cond.code yX7_make cX7_make 4 (some .int) ∈ gwA := gw_in (mt_3 _ (List.mem_of_getElem? (i := 150) rfl)) rfl
theorem ml_L_18 : Cond.methodLink RL 18 yX6_face ∈ gwA := gw_in (mt_1 _ (List.mem_of_getElem? (i := 211) rfl)) rfl
theorem im_X6_face : Cond.instanceMethod yX6_face ∈ gwA := gw_in (mt_1 _ (List.mem_of_getElem? (i := 212) rfl)) rfl
theorem se_X6_face : Cond.selects RX6 yX6_face yX6_face ∈ gwA := gw_in (mt_1 _ (List.mem_of_getElem? (i := 213) rfl)) rfl
theorem co_X6_face : Cond.code yX6_face cX6_face 2 (some .int) ∈ gwA := gw_in (mt_1 _ (List.mem_of_getElem? (i := 214) rfl)) rfl
theorem ml_L_22 : Cond.methodLink RL 22 yX7_face ∈ gwA := gw_in (mt_3 _ (List.mem_of_getElem? (i := 151) rfl)) rfl
theorem im_X7_face : Cond.instanceMethod yX7_face ∈ gwA := gw_in (mt_3 _ (List.mem_of_getElem? (i := 152) rfl)) rfl
theorem se_X7_face : Cond.selects RX7 yX7_face yX7_face ∈ gwA := gw_in (mt_3 _ (List.mem_of_getElem? (i := 153) rfl)) rfl
theorem co_X7_face : Cond.code yX7_face cX7_face 2 (some .int) ∈ gwA := gw_in (mt_3 _ (List.mem_of_getElem? (i := 154) rfl)) rfl
theorem ml_L_23 : Cond.methodLink RL 23 yX6_bears ∈ gwA := gw_in (mt_1 _ (List.mem_of_getElem? (i := 215) rfl)) rfl
theorem im_X6_bears : Cond.instanceMethod yX6_bears ∈ gwA := gw_in (mt_1 _ (List.mem_of_getElem? (i := 216) rfl)) rfl
theorem se_X6_bears : Cond.selects RX6 yX6_bears yX6_bears ∈ gwA := gw_in (mt_1 _ (List.mem_of_getElem? (i := 217) rfl)) rfl
theorem co_X6_bears : Cond.code yX6_bears cX6_bears 5 (some .int) ∈ gwA := gw_in (mt_1 _ (List.mem_of_getElem? (i := 218) rfl)) rfl
theorem fl_X6_45 : Cond.fieldLink RX6 45 "ClassStarts$Kind" "number" "I" ∈ gwA := gw_in (mt_1 _ (List.mem_of_getElem? (i := 153) rfl)) rfl
theorem fl_X6_52 : Cond.fieldLink RX6 52 "ClassStarts$Kind" "state" "I" ∈ gwA := gw_in (mt_1 _ (List.mem_of_getElem? (i := 185) rfl)) rfl
theorem ml_X6_48 : Cond.methodLink RX6 48 yX2_hasFace ∈ gwA := gw_in (mt_1 _ (List.mem_of_getElem? (i := 219) rfl)) rfl
theorem im_X2_hasFace : Cond.instanceMethod yX2_hasFace ∈ gwA := gw_in (mt_1 _ (List.mem_of_getElem? (i := 220) rfl)) rfl
theorem se_X2_hasFace : Cond.selects RX2 yX2_hasFace yX2_hasFace ∈ gwA := gw_in (mt_1 _ (List.mem_of_getElem? (i := 221) rfl)) rfl
theorem co_X2_hasFace : Cond.code yX2_hasFace cX2_hasFace 3 (some .boolean) ∈ gwA := gw_in (mt_1 _ (List.mem_of_getElem? (i := 222) rfl)) rfl
theorem ml_X6_55 : Cond.methodLink RX6 55 yX2_addFace ∈ gwA := gw_in (mt_1 _ (List.mem_of_getElem? (i := 223) rfl)) rfl
theorem im_X2_addFace : Cond.instanceMethod yX2_addFace ∈ gwA := gw_in (mt_1 _ (List.mem_of_getElem? (i := 224) rfl)) rfl
theorem se_X2_addFace : Cond.selects RX2 yX2_addFace yX2_addFace ∈ gwA := gw_in (mt_1 _ (List.mem_of_getElem? (i := 225) rfl)) rfl
theorem co_X2_addFace : Cond.code yX2_addFace cX2_addFace 2 (some .int) ∈ gwA := gw_in (mt_1 _ (List.mem_of_getElem? (i := 226) rfl)) rfl
theorem ml_L_27 : Cond.methodLink RL 27 yX7_bears ∈ gwA := gw_in (mt_3 _ (List.mem_of_getElem? (i := 155) rfl)) rfl
theorem im_X7_bears : Cond.instanceMethod yX7_bears ∈ gwA := gw_in (mt_3 _ (List.mem_of_getElem? (i := 156) rfl)) rfl
theorem se_X7_bears : Cond.selects RX7 yX7_bears yX7_bears ∈ gwA := gw_in (mt_3 _ (List.mem_of_getElem? (i := 157) rfl)) rfl
theorem co_X7_bears : Cond.code yX7_bears cX7_bears 5 (some .int) ∈ gwA := gw_in (mt_3 _ (List.mem_of_getElem? (i := 158) rfl)) rfl
theorem ml_L_28 : Cond.methodLink RL 28 yX6_constant ∈ gwA := gw_in (mt_1 _ (List.mem_of_getElem? (i := 227) rfl)) rfl
theorem im_X6_constant : Cond.instanceMethod yX6_constant ∈ gwA := gw_in (mt_1 _ (List.mem_of_getElem? (i := 228) rfl)) rfl
theorem se_X6_constant : Cond.selects RX6 yX6_constant yX6_constant ∈ gwA := gw_in (mt_1 _ (List.mem_of_getElem? (i := 229) rfl)) rfl
theorem co_X6_constant : Cond.code yX6_constant cX6_constant 5 (some .int) ∈ gwA := gw_in (mt_1 _ (List.mem_of_getElem? (i := 230) rfl)) rfl
theorem ml_X6_59 : Cond.methodLink RX6 59 yX2_isField ∈ gwA := gw_in (mt_1 _ (List.mem_of_getElem? (i := 231) rfl)) rfl
theorem st_X2_isField : Cond.static yX2_isField ∈ gwA := gw_in (mt_1 _ (List.mem_of_getElem? (i := 232) rfl)) rfl
theorem co_X2_isField : Cond.code yX2_isField cX2_isField 1 (some .boolean) ∈ gwA := gw_in (mt_1 _ (List.mem_of_getElem? (i := 233) rfl)) rfl
theorem ml_X6_62 : Cond.methodLink RX6 62 yX2_isConstant ∈ gwA := gw_in (mt_1 _ (List.mem_of_getElem? (i := 234) rfl)) rfl
theorem im_X2_isConstant : Cond.instanceMethod yX2_isConstant ∈ gwA := gw_in (mt_1 _ (List.mem_of_getElem? (i := 235) rfl)) rfl
theorem se_X2_isConstant : Cond.selects RX2 yX2_isConstant yX2_isConstant ∈ gwA := gw_in (mt_1 _ (List.mem_of_getElem? (i := 236) rfl)) rfl
theorem co_X2_isConstant : Cond.code yX2_isConstant cX2_isConstant 2 (some .boolean) ∈ gwA := gw_in (mt_1 _ (List.mem_of_getElem? (i := 237) rfl)) rfl
theorem ml_X2_59 : Cond.methodLink RX2 59 yX2_isField ∈ gwA := gw_in (mt_1 _ (List.mem_of_getElem? (i := 238) rfl)) rfl
theorem ml_X6_65 : Cond.methodLink RX6 65 yX2_fix ∈ gwA := gw_in (mt_1 _ (List.mem_of_getElem? (i := 239) rfl)) rfl
theorem im_X2_fix : Cond.instanceMethod yX2_fix ∈ gwA := gw_in (mt_2 _ (List.mem_of_getElem? (i := 0) rfl)) rfl
theorem se_X2_fix : Cond.selects RX2 yX2_fix yX2_fix ∈ gwA := gw_in (mt_2 _ (List.mem_of_getElem? (i := 1) rfl)) rfl
theorem co_X2_fix : Cond.code yX2_fix cX2_fix 3 none ∈ gwA := gw_in (mt_2 _ (List.mem_of_getElem? (i := 2) rfl)) rfl
theorem ml_L_32 : Cond.methodLink RL 32 yX7_constant ∈ gwA := gw_in (mt_3 _ (List.mem_of_getElem? (i := 159) rfl)) rfl
theorem im_X7_constant : Cond.instanceMethod yX7_constant ∈ gwA := gw_in (mt_3 _ (List.mem_of_getElem? (i := 160) rfl)) rfl
theorem se_X7_constant : Cond.selects RX7 yX7_constant yX7_constant ∈ gwA := gw_in (mt_3 _ (List.mem_of_getElem? (i := 161) rfl)) rfl
theorem co_X7_constant : Cond.code yX7_constant cX7_constant 4 (some .int) ∈ gwA := gw_in (mt_3 _ (List.mem_of_getElem? (i := 162) rfl)) rfl
theorem ml_X7_95 : Cond.methodLink RX7 95 yX7_isField ∈ gwA := gw_in (mt_3 _ (List.mem_of_getElem? (i := 163) rfl)) rfl
theorem st_X7_isField : Cond.static yX7_isField ∈ gwA := gw_in (mt_3 _ (List.mem_of_getElem? (i := 164) rfl)) rfl
theorem co_X7_isField : Cond.code yX7_isField cX7_isField 1 (some .boolean) ∈ gwA := gw_in (mt_3 _ (List.mem_of_getElem? (i := 165) rfl)) rfl
theorem ml_L_33 : Cond.methodLink RL 33 yX6_act ∈ gwA := gw_in (mt_2 _ (List.mem_of_getElem? (i := 3) rfl)) rfl
theorem im_X6_act : Cond.instanceMethod yX6_act ∈ gwA := gw_in (mt_2 _ (List.mem_of_getElem? (i := 4) rfl)) rfl
theorem se_X6_act : Cond.selects RX6 yX6_act yX6_act ∈ gwA := gw_in (mt_2 _ (List.mem_of_getElem? (i := 5) rfl)) rfl
theorem co_X6_act : Cond.code yX6_act cX6_act 9 (some .int) ∈ gwA := gw_in (mt_2 _ (List.mem_of_getElem? (i := 6) rfl)) rfl
theorem fl_X6_82 : Cond.fieldLink RX6 82 "ClassStarts$Kind" "methods" "[LClassStarts$Method;" ∈ gwA := gw_in (mt_1 _ (List.mem_of_getElem? (i := 181) rfl)) rfl
theorem ml_X6_69 : Cond.methodLink RX6 69 yX6_named ∈ gwA := gw_in (mt_2 _ (List.mem_of_getElem? (i := 7) rfl)) rfl
theorem im_X6_named : Cond.instanceMethod yX6_named ∈ gwA := gw_in (mt_2 _ (List.mem_of_getElem? (i := 9) rfl)) rfl
theorem se_X6_named : Cond.selects RX6 yX6_named yX6_named ∈ gwA := gw_in (mp_1 (yX6_named, 4) (List.mem_of_getElem? (i := 2) rfl)) rfl
theorem co_X6_named : Cond.code yX6_named cX6_named 5 (some (.object "ClassStarts$Kind")) ∈ gwA := gw_in (mt_2 _ (List.mem_of_getElem? (i := 10) rfl)) rfl
theorem ml_X6_73 : Cond.methodLink RX6 73 yX2_isMethod ∈ gwA := gw_in (mt_2 _ (List.mem_of_getElem? (i := 11) rfl)) rfl
theorem st_X2_isMethod : Cond.static yX2_isMethod ∈ gwA := gw_in (mt_2 _ (List.mem_of_getElem? (i := 12) rfl)) rfl
theorem co_X2_isMethod : Cond.code yX2_isMethod cX2_isMethod 1 (some .boolean) ∈ gwA := gw_in (mt_2 _ (List.mem_of_getElem? (i := 13) rfl)) rfl
theorem ml_X6_76 : Cond.methodLink RX6 76 yX0_numbersFit ∈ gwA := gw_in (mt_2 _ (List.mem_of_getElem? (i := 14) rfl)) rfl
theorem st_X0_numbersFit : Cond.static yX0_numbersFit ∈ gwA := gw_in (mt_2 _ (List.mem_of_getElem? (i := 15) rfl)) rfl
theorem in_X0 : Cond.initialized RX0 ∈ gwA := gw_in (mt_1 _ (List.mem_of_getElem? (i := 8) rfl)) rfl
theorem co_X0_numbersFit : Cond.code yX0_numbersFit cX0_numbersFit 4 (some .boolean) ∈ gwA := gw_in (mt_2 _ (List.mem_of_getElem? (i := 16) rfl)) rfl
theorem ml_X0_31 : Cond.methodLink RX0 31 yX2_isField ∈ gwA := gw_in (mt_2 _ (List.mem_of_getElem? (i := 17) rfl)) rfl
theorem ml_X0_37 : Cond.methodLink RX0 37 yX2_isCallable ∈ gwA := gw_in (mt_2 _ (List.mem_of_getElem? (i := 18) rfl)) rfl
theorem st_X2_isCallable : Cond.static yX2_isCallable ∈ gwA := gw_in (mt_2 _ (List.mem_of_getElem? (i := 19) rfl)) rfl
theorem co_X2_isCallable : Cond.code yX2_isCallable cX2_isCallable 1 (some .boolean) ∈ gwA := gw_in (mt_2 _ (List.mem_of_getElem? (i := 20) rfl)) rfl
theorem ml_X6_86 : Cond.methodLink RX6 86 yX4_append ∈ gwA := gw_in (mt_2 _ (List.mem_of_getElem? (i := 21) rfl)) rfl
theorem im_X4_append : Cond.instanceMethod yX4_append ∈ gwA := gw_in (mt_2 _ (List.mem_of_getElem? (i := 22) rfl)) rfl
theorem se_X4_append : Cond.selects RX4 yX4_append yX4_append ∈ gwA := gw_in (mt_2 _ (List.mem_of_getElem? (i := 23) rfl)) rfl
theorem co_X4_append : Cond.code yX4_append cX4_append 7 (some .int) ∈ gwA := gw_in (mt_2 _ (List.mem_of_getElem? (i := 24) rfl)) rfl
theorem ia_X0 : Cond.instantiable RX0 6 ∈ gwA := gw_in (mt_2 _ (List.mem_of_getElem? (i := 36) rfl)) rfl
theorem ml_X4_24 : Cond.methodLink RX4 24 yX4_lastGuarded ∈ gwA := gw_in (mt_2 _ (List.mem_of_getElem? (i := 25) rfl)) rfl
theorem im_X4_lastGuarded : Cond.instanceMethod yX4_lastGuarded ∈ gwA := gw_in (mt_2 _ (List.mem_of_getElem? (i := 27) rfl)) rfl
theorem se_X4_lastGuarded : Cond.selects RX4 yX4_lastGuarded yX4_lastGuarded ∈ gwA := gw_in (mp_1 (yX4_lastGuarded, 3) (List.mem_of_getElem? (i := 3) rfl)) rfl
theorem co_X4_lastGuarded : Cond.code yX4_lastGuarded cX4_lastGuarded 4 (some .int) ∈ gwA := gw_in (mt_2 _ (List.mem_of_getElem? (i := 28) rfl)) rfl
theorem fl_X4_35 : Cond.fieldLink RX4 35 "ClassStarts$Act" "lastGuarded" "I" ∈ gwA := gw_in (mt_2 _ (List.mem_of_getElem? (i := 55) rfl)) rfl
theorem ml_X4_37 : Cond.methodLink RX4 37 Lib.Math.min.name ∈ gwA := gw_in (mt_2 _ (List.mem_of_getElem? (i := 33) rfl)) rfl
theorem st_Lib_Math_min_name : Cond.static Lib.Math.min.name ∈ gwA := gw_in (mt_2 _ (List.mem_of_getElem? (i := 34) rfl)) rfl
theorem in_Math : Cond.initialized "java/lang/Math" ∈ gwA := gw_in (mt_1 _ (List.mem_of_getElem? (i := 9) rfl)) rfl
theorem co_Lib_Math_min_name : Cond.code Lib.Math.min.name Lib.Math.min.code 2 (some .int) ∈ gwA := gw_in (mt_2 _ (List.mem_of_getElem? (i := 35) rfl)) rfl
theorem ml_X4_31 : Cond.methodLink RX4 31 yX0_guards ∈ gwA := gw_in (mt_2 _ (List.mem_of_getElem? (i := 29) rfl)) rfl
theorem im_X0_guards : Cond.instanceMethod yX0_guards ∈ gwA := gw_in (mt_2 _ (List.mem_of_getElem? (i := 30) rfl)) rfl
theorem se_X0_guards : Cond.selects RX0 yX0_guards yX0_guards ∈ gwA := gw_in (mt_2 _ (List.mem_of_getElem? (i := 31) rfl)) rfl
theorem co_X0_guards : Cond.code yX0_guards cX0_guards 2 (some .boolean) ∈ gwA := gw_in (mt_2 _ (List.mem_of_getElem? (i := 32) rfl)) rfl
theorem fl_X0_9 : Cond.fieldLink RX0 9 "ClassStarts$Act" "sort" "I" ∈ gwA := gw_in (mt_2 _ (List.mem_of_getElem? (i := 41) rfl)) rfl
theorem fl_X0_28 : Cond.fieldLink RX0 28 "ClassStarts$Act" "lastGuarded" "I" ∈ gwA := gw_in (mt_2 _ (List.mem_of_getElem? (i := 54) rfl)) rfl
theorem ml_X4_28 : Cond.methodLink RX4 28 yX0_init ∈ gwA := gw_in (mt_2 _ (List.mem_of_getElem? (i := 37) rfl)) rfl
theorem im_X0_init : Cond.instanceMethod yX0_init ∈ gwA := gw_in (mt_2 _ (List.mem_of_getElem? (i := 38) rfl)) rfl
theorem co_X0_init : Cond.code yX0_init cX0_init 7 none ∈ gwA := gw_in (mt_2 _ (List.mem_of_getElem? (i := 39) rfl)) rfl
theorem ml_X0_3 : Cond.methodLink RX0 3 objectInit ∈ gwA := gw_in (mt_2 _ (List.mem_of_getElem? (i := 40) rfl)) rfl
theorem fl_X0_15 : Cond.fieldLink RX0 15 "ClassStarts$Act" "other" "LClassStarts$Kind;" ∈ gwA := gw_in (mt_2 _ (List.mem_of_getElem? (i := 44) rfl)) rfl
theorem fl_X0_19 : Cond.fieldLink RX0 19 "ClassStarts$Act" "a" "I" ∈ gwA := gw_in (mt_2 _ (List.mem_of_getElem? (i := 47) rfl)) rfl
theorem fl_X0_22 : Cond.fieldLink RX0 22 "ClassStarts$Act" "b" "I" ∈ gwA := gw_in (mt_2 _ (List.mem_of_getElem? (i := 49) rfl)) rfl
theorem fl_X0_25 : Cond.fieldLink RX0 25 "ClassStarts$Act" "c" "I" ∈ gwA := gw_in (mt_2 _ (List.mem_of_getElem? (i := 52) rfl)) rfl
theorem ml_L_37 : Cond.methodLink RL 37 yX7_act ∈ gwA := gw_in (mt_3 _ (List.mem_of_getElem? (i := 166) rfl)) rfl
theorem im_X7_act : Cond.instanceMethod yX7_act ∈ gwA := gw_in (mt_3 _ (List.mem_of_getElem? (i := 167) rfl)) rfl
theorem se_X7_act : Cond.selects RX7 yX7_act yX7_act ∈ gwA := gw_in (mt_3 _ (List.mem_of_getElem? (i := 168) rfl)) rfl
theorem co_X7_act : Cond.code yX7_act cX7_act 10 (some .int) ∈ gwA := gw_in (mt_3 _ (List.mem_of_getElem? (i := 169) rfl)) rfl
theorem ml_X7_98 : Cond.methodLink RX7 98 yX7_areIn ∈ gwA := gw_in (mt_3 _ (List.mem_of_getElem? (i := 170) rfl)) rfl
theorem st_X7_areIn : Cond.static yX7_areIn ∈ gwA := gw_in (mt_3 _ (List.mem_of_getElem? (i := 171) rfl)) rfl
theorem co_X7_areIn : Cond.code yX7_areIn cX7_areIn 4 (some .boolean) ∈ gwA := gw_in (mt_3 _ (List.mem_of_getElem? (i := 172) rfl)) rfl
theorem ml_L_38 : Cond.methodLink RL 38 yX6_run ∈ gwA := gw_in (mt_2 _ (List.mem_of_getElem? (i := 69) rfl)) rfl
theorem im_X6_run : Cond.instanceMethod yX6_run ∈ gwA := gw_in (mt_2 _ (List.mem_of_getElem? (i := 70) rfl)) rfl
theorem se_X6_run : Cond.selects RX6 yX6_run yX6_run ∈ gwA := gw_in (mt_2 _ (List.mem_of_getElem? (i := 71) rfl)) rfl
theorem co_X6_run : Cond.code yX6_run cX6_run 4 (some .int) ∈ gwA := gw_in (mt_2 _ (List.mem_of_getElem? (i := 72) rfl)) rfl
theorem ml_X6_92 : Cond.methodLink RX6 92 yX2_isCallable ∈ gwA := gw_in (mt_2 _ (List.mem_of_getElem? (i := 73) rfl)) rfl
theorem ml_X6_95 : Cond.methodLink RX6 95 yX3_execute ∈ gwA := gw_in (mt_2 _ (List.mem_of_getElem? (i := 74) rfl)) rfl
theorem im_X3_execute : Cond.instanceMethod yX3_execute ∈ gwA := gw_in (mt_2 _ (List.mem_of_getElem? (i := 75) rfl)) rfl
theorem se_X3_execute : Cond.selects RX3 yX3_execute yX3_execute ∈ gwA := gw_in (mt_2 _ (List.mem_of_getElem? (i := 76) rfl)) rfl
theorem co_X3_execute : Cond.code yX3_execute cX3_execute 4 (some .int) ∈ gwA := gw_in (mt_2 _ (List.mem_of_getElem? (i := 77) rfl)) rfl
theorem fl_X3_29 : Cond.fieldLink RX3 29 "ClassStarts$Journal" "ended" "I" ∈ gwA := gw_in (mt_1 _ (List.mem_of_getElem? (i := 48) rfl)) rfl
theorem ml_X3_18 : Cond.methodLink RX3 18 yX1_clear ∈ gwA := gw_in (mt_2 _ (List.mem_of_getElem? (i := 78) rfl)) rfl
theorem im_X1_clear : Cond.instanceMethod yX1_clear ∈ gwA := gw_in (mt_2 _ (List.mem_of_getElem? (i := 79) rfl)) rfl
theorem se_X1_clear : Cond.selects RX1 yX1_clear yX1_clear ∈ gwA := gw_in (mt_2 _ (List.mem_of_getElem? (i := 80) rfl)) rfl
theorem co_X1_clear : Cond.code yX1_clear cX1_clear 1 none ∈ gwA := gw_in (mt_2 _ (List.mem_of_getElem? (i := 81) rfl)) rfl
theorem ml_X3_21 : Cond.methodLink RX3 21 yX3_want ∈ gwA := gw_in (mt_2 _ (List.mem_of_getElem? (i := 82) rfl)) rfl
theorem im_X3_want : Cond.instanceMethod yX3_want ∈ gwA := gw_in (mt_2 _ (List.mem_of_getElem? (i := 84) rfl)) rfl
theorem se_X3_want : Cond.selects RX3 yX3_want yX3_want ∈ gwA := gw_in (mp_1 (yX3_want, 1) (List.mem_of_getElem? (i := 4) rfl)) rfl
theorem co_X3_want : Cond.code yX3_want cX3_want 4 (some .int) ∈ gwA := gw_in (mt_2 _ (List.mem_of_getElem? (i := 85) rfl)) rfl
theorem fl_X3_36 : Cond.fieldLink RX3 36 "ClassStarts$Kind" "state" "I" ∈ gwA := gw_in (mt_1 _ (List.mem_of_getElem? (i := 184) rfl)) rfl
theorem fl_X3_45 : Cond.fieldLink RX3 45 "ClassStarts$Kind" "number" "I" ∈ gwA := gw_in (mt_1 _ (List.mem_of_getElem? (i := 154) rfl)) rfl
theorem ml_X3_41 : Cond.methodLink RX3 41 yX3_raise ∈ gwA := gw_in (mt_2 _ (List.mem_of_getElem? (i := 86) rfl)) rfl
theorem im_X3_raise : Cond.instanceMethod yX3_raise ∈ gwA := gw_in (mt_2 _ (List.mem_of_getElem? (i := 88) rfl)) rfl
theorem se_X3_raise : Cond.selects RX3 yX3_raise yX3_raise ∈ gwA := gw_in (mp_1 (yX3_raise, 1) (List.mem_of_getElem? (i := 5) rfl)) rfl
theorem co_X3_raise : Cond.code yX3_raise cX3_raise 2 (some .int) ∈ gwA := gw_in (mt_2 _ (List.mem_of_getElem? (i := 89) rfl)) rfl
theorem fl_X3_33 : Cond.fieldLink RX3 33 "ClassStarts$Journal" "raised" "I" ∈ gwA := gw_in (mt_1 _ (List.mem_of_getElem? (i := 45) rfl)) rfl
theorem ml_X3_48 : Cond.methodLink RX3 48 yX1_note ∈ gwA := gw_in (mt_2 _ (List.mem_of_getElem? (i := 90) rfl)) rfl
theorem im_X1_note : Cond.instanceMethod yX1_note ∈ gwA := gw_in (mt_2 _ (List.mem_of_getElem? (i := 91) rfl)) rfl
theorem se_X1_note : Cond.selects RX1 yX1_note yX1_note ∈ gwA := gw_in (mt_2 _ (List.mem_of_getElem? (i := 92) rfl)) rfl
theorem co_X1_note : Cond.code yX1_note cX1_note 3 none ∈ gwA := gw_in (mt_2 _ (List.mem_of_getElem? (i := 93) rfl)) rfl
theorem ml_X3_52 : Cond.methodLink RX3 52 yX3_start ∈ gwA := gw_in (mt_2 _ (List.mem_of_getElem? (i := 94) rfl)) rfl
theorem im_X3_start : Cond.instanceMethod yX3_start ∈ gwA := gw_in (mt_2 _ (List.mem_of_getElem? (i := 96) rfl)) rfl
theorem se_X3_start : Cond.selects RX3 yX3_start yX3_start ∈ gwA := gw_in (mp_1 (yX3_start, 1) (List.mem_of_getElem? (i := 6) rfl)) rfl
theorem ml_X3_55 : Cond.methodLink RX3 55 yX3_afterStart ∈ gwA := gw_in (mt_2 _ (List.mem_of_getElem? (i := 176) rfl)) rfl
theorem im_X3_afterStart : Cond.instanceMethod yX3_afterStart ∈ gwA := gw_in (mt_2 _ (List.mem_of_getElem? (i := 178) rfl)) rfl
theorem se_X3_afterStart : Cond.selects RX3 yX3_afterStart yX3_afterStart ∈ gwA := gw_in (mp_2 (yX3_afterStart, 1) (List.mem_of_getElem? (i := 1) rfl)) rfl
theorem co_X3_afterStart : Cond.code yX3_afterStart cX3_afterStart 2 (some .int) ∈ gwA := gw_in (mt_2 _ (List.mem_of_getElem? (i := 179) rfl)) rfl
theorem fl_X3_69 : Cond.fieldLink RX3 69 "ClassStarts$Journal" "startCause" "I" ∈ gwA := gw_in (mt_1 _ (List.mem_of_getElem? (i := 51) rfl)) rfl
theorem co_X3_begin : Cond.code yX3_begin cX3_begin 5 (some .int) ∈ gwA := gw_in (mt_2 _ (List.mem_of_getElem? (i := 109) rfl)) rfl
theorem fl_X3_103 : Cond.fieldLink RX3 103 "ClassStarts$Journal" "acts" "I" ∈ gwA := gw_in (mt_1 _ (List.mem_of_getElem? (i := 42) rfl)) rfl
theorem fl_X3_111 : Cond.fieldLink RX3 111 "ClassStarts$Act" "other" "LClassStarts$Kind;" ∈ gwA := gw_in (mt_2 _ (List.mem_of_getElem? (i := 46) rfl)) rfl
theorem ml_X3_105 : Cond.methodLink RX3 105 yX0_wants ∈ gwA := gw_in (mt_2 _ (List.mem_of_getElem? (i := 110) rfl)) rfl
theorem im_X0_wants : Cond.instanceMethod yX0_wants ∈ gwA := gw_in (mt_2 _ (List.mem_of_getElem? (i := 111) rfl)) rfl
theorem se_X0_wants : Cond.selects RX0 yX0_wants yX0_wants ∈ gwA := gw_in (mt_2 _ (List.mem_of_getElem? (i := 112) rfl)) rfl
theorem co_X0_wants : Cond.code yX0_wants cX0_wants 1 (some .boolean) ∈ gwA := gw_in (mt_2 _ (List.mem_of_getElem? (i := 113) rfl)) rfl
theorem ml_X0_42 : Cond.methodLink RX0 42 yX2_isConstant ∈ gwA := gw_in (mt_2 _ (List.mem_of_getElem? (i := 114) rfl)) rfl
theorem ml_X3_114 : Cond.methodLink RX3 114 yX3_perform ∈ gwA := gw_in (mt_2 _ (List.mem_of_getElem? (i := 115) rfl)) rfl
theorem im_X3_perform : Cond.instanceMethod yX3_perform ∈ gwA := gw_in (mt_2 _ (List.mem_of_getElem? (i := 117) rfl)) rfl
theorem se_X3_perform : Cond.selects RX3 yX3_perform yX3_perform ∈ gwA := gw_in (mp_1 (yX3_perform, 1) (List.mem_of_getElem? (i := 10) rfl)) rfl
theorem co_X3_enter : Cond.code yX3_enter cX3_enter 4 (some .int) ∈ gwA := gw_in (mt_2 _ (List.mem_of_getElem? (i := 163) rfl)) rfl
theorem ml_X3_25 : Cond.methodLink RX3 25 yX3_work ∈ gwA := gw_in (mt_2 _ (List.mem_of_getElem? (i := 102) rfl)) rfl
theorem im_X3_work : Cond.instanceMethod yX3_work ∈ gwA := gw_in (mt_2 _ (List.mem_of_getElem? (i := 104) rfl)) rfl
theorem se_X3_work : Cond.selects RX3 yX3_work yX3_work ∈ gwA := gw_in (mp_1 (yX3_work, 1) (List.mem_of_getElem? (i := 8) rfl)) rfl
theorem co_X3_lookThrough : Cond.code yX3_lookThrough cX3_lookThrough 7 (some .int) ∈ gwA := gw_in (mt_2 _ (List.mem_of_getElem? (i := 101) rfl)) rfl
theorem fl_X3_72 : Cond.fieldLink RX3 72 "ClassStarts$Kind" "faceCount" "I" ∈ gwA := gw_in (mt_1 _ (List.mem_of_getElem? (i := 170) rfl)) rfl
theorem fl_X3_75 : Cond.fieldLink RX3 75 "ClassStarts$Kind" "faces" "[LClassStarts$Kind;" ∈ gwA := gw_in (mt_1 _ (List.mem_of_getElem? (i := 167) rfl)) rfl
theorem fl_X3_79 : Cond.fieldLink RX3 79 "ClassStarts$Kind" "hasDefaults" "Z" ∈ gwA := gw_in (mt_1 _ (List.mem_of_getElem? (i := 161) rfl)) rfl
theorem ml_X3_66 : Cond.methodLink RX3 66 yX3_lookThrough ∈ gwA := gw_in (mt_2 _ (List.mem_of_getElem? (i := 98) rfl)) rfl
theorem im_X3_lookThrough : Cond.instanceMethod yX3_lookThrough ∈ gwA := gw_in (mt_2 _ (List.mem_of_getElem? (i := 100) rfl)) rfl
theorem se_X3_lookThrough : Cond.selects RX3 yX3_lookThrough yX3_lookThrough ∈ gwA := gw_in (mp_1 (yX3_lookThrough, 1) (List.mem_of_getElem? (i := 7) rfl)) rfl
theorem co_X3_perform : Cond.code yX3_perform cX3_perform 4 (some .int) ∈ gwA := gw_in (mt_2 _ (List.mem_of_getElem? (i := 118) rfl)) rfl
theorem fl_X3_117 : Cond.fieldLink RX3 117 "ClassStarts$Act" "sort" "I" ∈ gwA := gw_in (mt_2 _ (List.mem_of_getElem? (i := 43) rfl)) rfl
theorem fl_X3_120 : Cond.fieldLink RX3 120 "ClassStarts$Act" "a" "I" ∈ gwA := gw_in (mt_2 _ (List.mem_of_getElem? (i := 48) rfl)) rfl
theorem fl_X3_123 : Cond.fieldLink RX3 123 "ClassStarts$Act" "b" "I" ∈ gwA := gw_in (mt_2 _ (List.mem_of_getElem? (i := 51) rfl)) rfl
theorem fl_X3_136 : Cond.fieldLink RX3 136 "ClassStarts$Act" "c" "I" ∈ gwA := gw_in (mt_2 _ (List.mem_of_getElem? (i := 53) rfl)) rfl
theorem ml_X3_126 : Cond.methodLink RX3 126 yX2_change ∈ gwA := gw_in (mt_2 _ (List.mem_of_getElem? (i := 119) rfl)) rfl
theorem im_X2_change : Cond.instanceMethod yX2_change ∈ gwA := gw_in (mt_2 _ (List.mem_of_getElem? (i := 120) rfl)) rfl
theorem se_X2_change : Cond.selects RX2 yX2_change yX2_change ∈ gwA := gw_in (mt_2 _ (List.mem_of_getElem? (i := 121) rfl)) rfl
theorem co_X2_change : Cond.code yX2_change cX2_change 3 none ∈ gwA := gw_in (mt_2 _ (List.mem_of_getElem? (i := 122) rfl)) rfl
theorem ml_X3_129 : Cond.methodLink RX3 129 yX2_valueOf ∈ gwA := gw_in (mt_2 _ (List.mem_of_getElem? (i := 123) rfl)) rfl
theorem im_X2_valueOf : Cond.instanceMethod yX2_valueOf ∈ gwA := gw_in (mt_2 _ (List.mem_of_getElem? (i := 124) rfl)) rfl
theorem se_X2_valueOf : Cond.selects RX2 yX2_valueOf yX2_valueOf ∈ gwA := gw_in (mt_2 _ (List.mem_of_getElem? (i := 125) rfl)) rfl
theorem co_X2_valueOf : Cond.code yX2_valueOf cX2_valueOf 2 (some .int) ∈ gwA := gw_in (mt_2 _ (List.mem_of_getElem? (i := 126) rfl)) rfl
theorem ml_X3_132 : Cond.methodLink RX3 132 yX3_readOther ∈ gwA := gw_in (mt_2 _ (List.mem_of_getElem? (i := 127) rfl)) rfl
theorem im_X3_readOther : Cond.instanceMethod yX3_readOther ∈ gwA := gw_in (mt_2 _ (List.mem_of_getElem? (i := 129) rfl)) rfl
theorem se_X3_readOther : Cond.selects RX3 yX3_readOther yX3_readOther ∈ gwA := gw_in (mp_1 (yX3_readOther, 1) (List.mem_of_getElem? (i := 11) rfl)) rfl
theorem co_X3_readOther : Cond.code yX3_readOther cX3_readOther 4 (some .int) ∈ gwA := gw_in (mt_2 _ (List.mem_of_getElem? (i := 130) rfl)) rfl
theorem fl_X3_161 : Cond.fieldLink RX3 161 "ClassStarts$Journal" "halfSeen" "I" ∈ gwA := gw_in (mt_1 _ (List.mem_of_getElem? (i := 40) rfl)) rfl
theorem ml_X3_157 : Cond.methodLink RX3 157 yX2_isConstant ∈ gwA := gw_in (mt_2 _ (List.mem_of_getElem? (i := 131) rfl)) rfl
theorem ml_X3_139 : Cond.methodLink RX3 139 yX3_divide ∈ gwA := gw_in (mt_2 _ (List.mem_of_getElem? (i := 132) rfl)) rfl
theorem im_X3_divide : Cond.instanceMethod yX3_divide ∈ gwA := gw_in (mt_2 _ (List.mem_of_getElem? (i := 134) rfl)) rfl
theorem se_X3_divide : Cond.selects RX3 yX3_divide yX3_divide ∈ gwA := gw_in (mp_1 (yX3_divide, 1) (List.mem_of_getElem? (i := 12) rfl)) rfl
theorem co_X3_divide : Cond.code yX3_divide cX3_divide 4 (some .int) ∈ gwA := gw_in (mt_2 _ (List.mem_of_getElem? (i := 135) rfl)) rfl
theorem ml_X3_142 : Cond.methodLink RX3 142 yX3_makeRow ∈ gwA := gw_in (mt_2 _ (List.mem_of_getElem? (i := 136) rfl)) rfl
theorem im_X3_makeRow : Cond.instanceMethod yX3_makeRow ∈ gwA := gw_in (mt_2 _ (List.mem_of_getElem? (i := 138) rfl)) rfl
theorem se_X3_makeRow : Cond.selects RX3 yX3_makeRow yX3_makeRow ∈ gwA := gw_in (mp_1 (yX3_makeRow, 1) (List.mem_of_getElem? (i := 13) rfl)) rfl
theorem co_X3_makeRow : Cond.code yX3_makeRow cX3_makeRow 3 (some .int) ∈ gwA := gw_in (mt_2 _ (List.mem_of_getElem? (i := 139) rfl)) rfl
theorem ml_X3_164 : Cond.methodLink RX3 164 yX2_makeRow ∈ gwA := gw_in (mt_2 _ (List.mem_of_getElem? (i := 140) rfl)) rfl
theorem im_X2_makeRow : Cond.instanceMethod yX2_makeRow ∈ gwA := gw_in (mt_2 _ (List.mem_of_getElem? (i := 141) rfl)) rfl
theorem se_X2_makeRow : Cond.selects RX2 yX2_makeRow yX2_makeRow ∈ gwA := gw_in (mt_2 _ (List.mem_of_getElem? (i := 142) rfl)) rfl
theorem co_X2_makeRow : Cond.code yX2_makeRow cX2_makeRow 3 none ∈ gwA := gw_in (mt_2 _ (List.mem_of_getElem? (i := 143) rfl)) rfl
theorem ml_X2_63 : Cond.methodLink RX2 63 Lib.Math.min.name ∈ gwA := gw_in (mt_2 _ (List.mem_of_getElem? (i := 144) rfl)) rfl
theorem ml_X2_69 : Cond.methodLink RX2 69 Lib.Math.max.name ∈ gwA := gw_in (mt_2 _ (List.mem_of_getElem? (i := 145) rfl)) rfl
theorem st_Lib_Math_max_name : Cond.static Lib.Math.max.name ∈ gwA := gw_in (mt_2 _ (List.mem_of_getElem? (i := 146) rfl)) rfl
theorem co_Lib_Math_max_name : Cond.code Lib.Math.max.name Lib.Math.max.code 2 (some .int) ∈ gwA := gw_in (mt_2 _ (List.mem_of_getElem? (i := 147) rfl)) rfl
theorem ml_X3_145 : Cond.methodLink RX3 145 yX3_putItem ∈ gwA := gw_in (mt_2 _ (List.mem_of_getElem? (i := 148) rfl)) rfl
theorem im_X3_putItem : Cond.instanceMethod yX3_putItem ∈ gwA := gw_in (mt_2 _ (List.mem_of_getElem? (i := 150) rfl)) rfl
theorem se_X3_putItem : Cond.selects RX3 yX3_putItem yX3_putItem ∈ gwA := gw_in (mp_1 (yX3_putItem, 1) (List.mem_of_getElem? (i := 14) rfl)) rfl
theorem co_X3_putItem : Cond.code yX3_putItem cX3_putItem 4 (some .int) ∈ gwA := gw_in (mt_2 _ (List.mem_of_getElem? (i := 151) rfl)) rfl
theorem fl_X3_170 : Cond.fieldLink RX3 170 "ClassStarts$Kind" "items" "I" ∈ gwA := gw_in (mt_1 _ (List.mem_of_getElem? (i := 178) rfl)) rfl
theorem fl_X3_173 : Cond.fieldLink RX3 173 "ClassStarts$Kind" "row" "[I" ∈ gwA := gw_in (mt_1 _ (List.mem_of_getElem? (i := 175) rfl)) rfl
theorem ml_X3_167 : Cond.methodLink RX3 167 yX2_hasItem ∈ gwA := gw_in (mt_2 _ (List.mem_of_getElem? (i := 152) rfl)) rfl
theorem im_X2_hasItem : Cond.instanceMethod yX2_hasItem ∈ gwA := gw_in (mt_2 _ (List.mem_of_getElem? (i := 153) rfl)) rfl
theorem se_X2_hasItem : Cond.selects RX2 yX2_hasItem yX2_hasItem ∈ gwA := gw_in (mt_2 _ (List.mem_of_getElem? (i := 154) rfl)) rfl
theorem co_X2_hasItem : Cond.code yX2_hasItem cX2_hasItem 2 (some .boolean) ∈ gwA := gw_in (mt_2 _ (List.mem_of_getElem? (i := 155) rfl)) rfl
theorem ml_X3_148 : Cond.methodLink RX3 148 yX3_takeItem ∈ gwA := gw_in (mt_2 _ (List.mem_of_getElem? (i := 156) rfl)) rfl
theorem im_X3_takeItem : Cond.instanceMethod yX3_takeItem ∈ gwA := gw_in (mt_2 _ (List.mem_of_getElem? (i := 158) rfl)) rfl
theorem se_X3_takeItem : Cond.selects RX3 yX3_takeItem yX3_takeItem ∈ gwA := gw_in (mp_1 (yX3_takeItem, 1) (List.mem_of_getElem? (i := 15) rfl)) rfl
theorem co_X3_takeItem : Cond.code yX3_takeItem cX3_takeItem 4 (some .int) ∈ gwA := gw_in (mt_2 _ (List.mem_of_getElem? (i := 159) rfl)) rfl
theorem ml_X3_151 : Cond.methodLink RX3 151 yX3_enter ∈ gwA := gw_in (mt_2 _ (List.mem_of_getElem? (i := 160) rfl)) rfl
theorem im_X3_enter : Cond.instanceMethod yX3_enter ∈ gwA := gw_in (mt_2 _ (List.mem_of_getElem? (i := 162) rfl)) rfl
theorem se_X3_enter : Cond.selects RX3 yX3_enter yX3_enter ∈ gwA := gw_in (mp_2 (yX3_enter, 1) (List.mem_of_getElem? (i := 0) rfl)) rfl
theorem ml_X3_154 : Cond.methodLink RX3 154 yX2_dropRow ∈ gwA := gw_in (mt_2 _ (List.mem_of_getElem? (i := 164) rfl)) rfl
theorem im_X2_dropRow : Cond.instanceMethod yX2_dropRow ∈ gwA := gw_in (mt_2 _ (List.mem_of_getElem? (i := 165) rfl)) rfl
theorem se_X2_dropRow : Cond.selects RX2 yX2_dropRow yX2_dropRow ∈ gwA := gw_in (mt_2 _ (List.mem_of_getElem? (i := 166) rfl)) rfl
theorem co_X2_dropRow : Cond.code yX2_dropRow cX2_dropRow 1 none ∈ gwA := gw_in (mt_2 _ (List.mem_of_getElem? (i := 167) rfl)) rfl
theorem co_X3_start : Cond.code yX3_start cX3_start 4 (some .int) ∈ gwA := gw_in (mt_2 _ (List.mem_of_getElem? (i := 97) rfl)) rfl
theorem fl_X3_58 : Cond.fieldLink RX3 58 "ClassStarts$Kind" "parent" "LClassStarts$Kind;" ∈ gwA := gw_in (mt_1 _ (List.mem_of_getElem? (i := 163) rfl)) rfl
theorem fl_X3_62 : Cond.fieldLink RX3 62 "ClassStarts$Kind" "isFace" "Z" ∈ gwA := gw_in (mt_1 _ (List.mem_of_getElem? (i := 157) rfl)) rfl
theorem co_X3_work : Cond.code yX3_work cX3_work 9 (some .int) ∈ gwA := gw_in (mt_2 _ (List.mem_of_getElem? (i := 105) rfl)) rfl
theorem fl_X3_82 : Cond.fieldLink RX3 82 "ClassStarts$Kind" "methods" "[LClassStarts$Method;" ∈ gwA := gw_in (mt_1 _ (List.mem_of_getElem? (i := 182) rfl)) rfl
theorem fl_X3_86 : Cond.fieldLink RX3 86 "ClassStarts$Method" "size" "I" ∈ gwA := gw_in (mt_1 _ (List.mem_of_getElem? (i := 143) rfl)) rfl
theorem fl_X3_91 : Cond.fieldLink RX3 91 "ClassStarts$Method" "acts" "[LClassStarts$Act;" ∈ gwA := gw_in (mt_1 _ (List.mem_of_getElem? (i := 140) rfl)) rfl
theorem ml_X3_95 : Cond.methodLink RX3 95 yX3_begin ∈ gwA := gw_in (mt_2 _ (List.mem_of_getElem? (i := 106) rfl)) rfl
theorem im_X3_begin : Cond.instanceMethod yX3_begin ∈ gwA := gw_in (mt_2 _ (List.mem_of_getElem? (i := 108) rfl)) rfl
theorem se_X3_begin : Cond.selects RX3 yX3_begin yX3_begin ∈ gwA := gw_in (mp_1 (yX3_begin, 1) (List.mem_of_getElem? (i := 9) rfl)) rfl
theorem ml_X3_99 : Cond.methodLink RX3 99 yX4_endOfCatch ∈ gwA := gw_in (mt_2 _ (List.mem_of_getElem? (i := 168) rfl)) rfl
theorem im_X4_endOfCatch : Cond.instanceMethod yX4_endOfCatch ∈ gwA := gw_in (mt_2 _ (List.mem_of_getElem? (i := 169) rfl)) rfl
theorem se_X4_endOfCatch : Cond.selects RX4 yX4_endOfCatch yX4_endOfCatch ∈ gwA := gw_in (mt_2 _ (List.mem_of_getElem? (i := 170) rfl)) rfl
theorem co_X4_endOfCatch : Cond.code yX4_endOfCatch cX4_endOfCatch 4 (some .int) ∈ gwA := gw_in (mt_2 _ (List.mem_of_getElem? (i := 171) rfl)) rfl
theorem ml_X4_43 : Cond.methodLink RX4 43 yX0_catches ∈ gwA := gw_in (mt_2 _ (List.mem_of_getElem? (i := 172) rfl)) rfl
theorem im_X0_catches : Cond.instanceMethod yX0_catches ∈ gwA := gw_in (mt_2 _ (List.mem_of_getElem? (i := 173) rfl)) rfl
theorem se_X0_catches : Cond.selects RX0 yX0_catches yX0_catches ∈ gwA := gw_in (mt_2 _ (List.mem_of_getElem? (i := 174) rfl)) rfl
theorem co_X0_catches : Cond.code yX0_catches cX0_catches 2 (some .boolean) ∈ gwA := gw_in (mt_2 _ (List.mem_of_getElem? (i := 175) rfl)) rfl
theorem ml_L_41 : Cond.methodLink RL 41 yX7_run ∈ gwA := gw_in (mt_3 _ (List.mem_of_getElem? (i := 173) rfl)) rfl
theorem im_X7_run : Cond.instanceMethod yX7_run ∈ gwA := gw_in (mt_3 _ (List.mem_of_getElem? (i := 174) rfl)) rfl
theorem se_X7_run : Cond.selects RX7 yX7_run yX7_run ∈ gwA := gw_in (mt_3 _ (List.mem_of_getElem? (i := 175) rfl)) rfl
theorem co_X7_run : Cond.code yX7_run cX7_run 3 (some .int) ∈ gwA := gw_in (mt_3 _ (List.mem_of_getElem? (i := 176) rfl)) rfl
theorem fl_X7_102 : Cond.fieldLink RX7 102 "ClassStartsModel" "events" "I" ∈ gwA := gw_in (mt_3 _ (List.mem_of_getElem? (i := 49) rfl)) rfl
theorem fl_X7_173 : Cond.fieldLink RX7 173 "ClassStartsModel" "half" "I" ∈ gwA := gw_in (mt_3 _ (List.mem_of_getElem? (i := 52) rfl)) rfl
theorem fl_X7_145 : Cond.fieldLink RX7 145 "ClassStartsModel" "worked" "I" ∈ gwA := gw_in (mt_3 _ (List.mem_of_getElem? (i := 53) rfl)) rfl
theorem fl_X7_105 : Cond.fieldLink RX7 105 "ClassStartsModel" "thrown" "I" ∈ gwA := gw_in (mt_3 _ (List.mem_of_getElem? (i := 54) rfl)) rfl
theorem fl_X7_126 : Cond.fieldLink RX7 126 "ClassStartsModel" "within" "I" ∈ gwA := gw_in (mt_3 _ (List.mem_of_getElem? (i := 57) rfl)) rfl
theorem fl_X7_108 : Cond.fieldLink RX7 108 "ClassStartsModel" "frames" "I" ∈ gwA := gw_in (mt_3 _ (List.mem_of_getElem? (i := 58) rfl)) rfl
theorem fl_X7_115 : Cond.fieldLink RX7 115 "ClassStartsModel" "flying" "I" ∈ gwA := gw_in (mt_3 _ (List.mem_of_getElem? (i := 67) rfl)) rfl
theorem fl_X7_142 : Cond.fieldLink RX7 142 "ClassStartsModel" "causeNow" "I" ∈ gwA := gw_in (mt_3 _ (List.mem_of_getElem? (i := 55) rfl)) rfl
theorem ml_X7_122 : Cond.methodLink RX7 122 yX7_push ∈ gwA := gw_in (mt_3 _ (List.mem_of_getElem? (i := 177) rfl)) rfl
theorem im_X7_push : Cond.instanceMethod yX7_push ∈ gwA := gw_in (mt_3 _ (List.mem_of_getElem? (i := 179) rfl)) rfl
theorem se_X7_push : Cond.selects RX7 yX7_push yX7_push ∈ gwA := gw_in (mp_2 (yX7_push, 34) (List.mem_of_getElem? (i := 11) rfl)) rfl
theorem co_X7_push : Cond.code yX7_push cX7_push 4 none ∈ gwA := gw_in (mt_3 _ (List.mem_of_getElem? (i := 180) rfl)) rfl
theorem ml_X7_176 : Cond.methodLink RX7 176 yX7_step ∈ gwA := gw_in (mt_3 _ (List.mem_of_getElem? (i := 181) rfl)) rfl
theorem im_X7_step : Cond.instanceMethod yX7_step ∈ gwA := gw_in (mt_3 _ (List.mem_of_getElem? (i := 183) rfl)) rfl
theorem se_X7_step : Cond.selects RX7 yX7_step yX7_step ∈ gwA := gw_in (mp_2 (yX7_step, 34) (List.mem_of_getElem? (i := 12) rfl)) rfl
theorem co_X7_step : Cond.code yX7_step cX7_step 3 none ∈ gwA := gw_in (mt_3 _ (List.mem_of_getElem? (i := 184) rfl)) rfl
theorem ml_X7_129 : Cond.methodLink RX7 129 yX7_goOn ∈ gwA := gw_in (mt_3 _ (List.mem_of_getElem? (i := 185) rfl)) rfl
theorem im_X7_goOn : Cond.instanceMethod yX7_goOn ∈ gwA := gw_in (mt_3 _ (List.mem_of_getElem? (i := 187) rfl)) rfl
theorem se_X7_goOn : Cond.selects RX7 yX7_goOn yX7_goOn ∈ gwA := gw_in (mp_2 (yX7_goOn, 34) (List.mem_of_getElem? (i := 13) rfl)) rfl
theorem co_X7_goOn : Cond.code yX7_goOn cX7_goOn 6 none ∈ gwA := gw_in (mt_3 _ (List.mem_of_getElem? (i := 188) rfl)) rfl
theorem ml_X7_111 : Cond.methodLink RX7 111 yX7_arise ∈ gwA := gw_in (mt_3 _ (List.mem_of_getElem? (i := 189) rfl)) rfl
theorem im_X7_arise : Cond.instanceMethod yX7_arise ∈ gwA := gw_in (mt_3 _ (List.mem_of_getElem? (i := 191) rfl)) rfl
theorem se_X7_arise : Cond.selects RX7 yX7_arise yX7_arise ∈ gwA := gw_in (mp_2 (yX7_arise, 34) (List.mem_of_getElem? (i := 14) rfl)) rfl
theorem co_X7_arise : Cond.code yX7_arise cX7_arise 2 (some .int) ∈ gwA := gw_in (mt_3 _ (List.mem_of_getElem? (i := 192) rfl)) rfl
theorem ml_X7_148 : Cond.methodLink RX7 148 yX7_wants ∈ gwA := gw_in (mt_3 _ (List.mem_of_getElem? (i := 193) rfl)) rfl
theorem im_X7_wants : Cond.instanceMethod yX7_wants ∈ gwA := gw_in (mt_3 _ (List.mem_of_getElem? (i := 195) rfl)) rfl
theorem se_X7_wants : Cond.selects RX7 yX7_wants yX7_wants ∈ gwA := gw_in (mp_2 (yX7_wants, 34) (List.mem_of_getElem? (i := 15) rfl)) rfl
theorem co_X7_wants : Cond.code yX7_wants cX7_wants 5 (some .int) ∈ gwA := gw_in (mt_3 _ (List.mem_of_getElem? (i := 196) rfl)) rfl
theorem ml_X7_133 : Cond.methodLink RX7 133 yX7_want ∈ gwA := gw_in (mt_3 _ (List.mem_of_getElem? (i := 197) rfl)) rfl
theorem im_X7_want : Cond.instanceMethod yX7_want ∈ gwA := gw_in (mt_3 _ (List.mem_of_getElem? (i := 199) rfl)) rfl
theorem se_X7_want : Cond.selects RX7 yX7_want yX7_want ∈ gwA := gw_in (mp_3 (yX7_want, 34) (List.mem_of_getElem? (i := 0) rfl)) rfl
theorem co_X7_want : Cond.code yX7_want cX7_want 2 none ∈ gwA := gw_in (mt_3 _ (List.mem_of_getElem? (i := 200) rfl)) rfl
theorem ml_X7_118 : Cond.methodLink RX7 118 yX7_tell ∈ gwA := gw_in (mt_3 _ (List.mem_of_getElem? (i := 201) rfl)) rfl
theorem im_X7_tell : Cond.instanceMethod yX7_tell ∈ gwA := gw_in (mt_3 _ (List.mem_of_getElem? (i := 203) rfl)) rfl
theorem se_X7_tell : Cond.selects RX7 yX7_tell yX7_tell ∈ gwA := gw_in (mp_3 (yX7_tell, 34) (List.mem_of_getElem? (i := 1) rfl)) rfl
theorem co_X7_tell : Cond.code yX7_tell cX7_tell 3 none ∈ gwA := gw_in (mt_3 _ (List.mem_of_getElem? (i := 204) rfl)) rfl
theorem ml_X7_136 : Cond.methodLink RX7 136 yX7_enter ∈ gwA := gw_in (mt_3 _ (List.mem_of_getElem? (i := 205) rfl)) rfl
theorem im_X7_enter : Cond.instanceMethod yX7_enter ∈ gwA := gw_in (mt_3 _ (List.mem_of_getElem? (i := 207) rfl)) rfl
theorem se_X7_enter : Cond.selects RX7 yX7_enter yX7_enter ∈ gwA := gw_in (mp_3 (yX7_enter, 34) (List.mem_of_getElem? (i := 2) rfl)) rfl
theorem co_X7_enter : Cond.code yX7_enter cX7_enter 3 none ∈ gwA := gw_in (mt_3 _ (List.mem_of_getElem? (i := 208) rfl)) rfl
theorem ml_X7_152 : Cond.methodLink RX7 152 yX7_doOne ∈ gwA := gw_in (mt_3 _ (List.mem_of_getElem? (i := 209) rfl)) rfl
theorem im_X7_doOne : Cond.instanceMethod yX7_doOne ∈ gwA := gw_in (mt_3 _ (List.mem_of_getElem? (i := 211) rfl)) rfl
theorem se_X7_doOne : Cond.selects RX7 yX7_doOne yX7_doOne ∈ gwA := gw_in (mp_3 (yX7_doOne, 34) (List.mem_of_getElem? (i := 3) rfl)) rfl
theorem co_X7_doOne : Cond.code yX7_doOne cX7_doOne 6 (some .int) ∈ gwA := gw_in (mt_3 _ (List.mem_of_getElem? (i := 212) rfl)) rfl
theorem ml_X7_156 : Cond.methodLink RX7 156 yX7_set ∈ gwA := gw_in (mt_3 _ (List.mem_of_getElem? (i := 213) rfl)) rfl
theorem im_X7_set : Cond.instanceMethod yX7_set ∈ gwA := gw_in (mt_3 _ (List.mem_of_getElem? (i := 215) rfl)) rfl
theorem se_X7_set : Cond.selects RX7 yX7_set yX7_set ∈ gwA := gw_in (mp_3 (yX7_set, 34) (List.mem_of_getElem? (i := 4) rfl)) rfl
theorem co_X7_set : Cond.code yX7_set cX7_set 4 none ∈ gwA := gw_in (mt_3 _ (List.mem_of_getElem? (i := 216) rfl)) rfl
theorem ml_X7_159 : Cond.methodLink RX7 159 yX7_other ∈ gwA := gw_in (mt_3 _ (List.mem_of_getElem? (i := 217) rfl)) rfl
theorem im_X7_other : Cond.instanceMethod yX7_other ∈ gwA := gw_in (mt_3 _ (List.mem_of_getElem? (i := 219) rfl)) rfl
theorem se_X7_other : Cond.selects RX7 yX7_other yX7_other ∈ gwA := gw_in (mp_3 (yX7_other, 34) (List.mem_of_getElem? (i := 5) rfl)) rfl
theorem co_X7_other : Cond.code yX7_other cX7_other 8 (some .int) ∈ gwA := gw_in (mt_3 _ (List.mem_of_getElem? (i := 220) rfl)) rfl
theorem ml_X7_162 : Cond.methodLink RX7 162 yX7_get ∈ gwA := gw_in (mt_3 _ (List.mem_of_getElem? (i := 221) rfl)) rfl
theorem im_X7_get : Cond.instanceMethod yX7_get ∈ gwA := gw_in (mt_3 _ (List.mem_of_getElem? (i := 223) rfl)) rfl
theorem se_X7_get : Cond.selects RX7 yX7_get yX7_get ∈ gwA := gw_in (mp_3 (yX7_get, 34) (List.mem_of_getElem? (i := 6) rfl)) rfl
theorem co_X7_get : Cond.code yX7_get cX7_get 3 (some .int) ∈ gwA := gw_in (mt_3 _ (List.mem_of_getElem? (i := 224) rfl)) rfl
theorem ml_X7_166 : Cond.methodLink RX7 166 yX7_newRow ∈ gwA := gw_in (mt_3 _ (List.mem_of_getElem? (i := 225) rfl)) rfl
theorem im_X7_newRow : Cond.instanceMethod yX7_newRow ∈ gwA := gw_in (mt_3 _ (List.mem_of_getElem? (i := 227) rfl)) rfl
theorem se_X7_newRow : Cond.selects RX7 yX7_newRow yX7_newRow ∈ gwA := gw_in (mp_3 (yX7_newRow, 34) (List.mem_of_getElem? (i := 7) rfl)) rfl
theorem co_X7_newRow : Cond.code yX7_newRow cX7_newRow 5 (some .int) ∈ gwA := gw_in (mt_3 _ (List.mem_of_getElem? (i := 228) rfl)) rfl
theorem ml_X7_169 : Cond.methodLink RX7 169 yX7_inOut ∈ gwA := gw_in (mt_3 _ (List.mem_of_getElem? (i := 229) rfl)) rfl
theorem im_X7_inOut : Cond.instanceMethod yX7_inOut ∈ gwA := gw_in (mt_3 _ (List.mem_of_getElem? (i := 231) rfl)) rfl
theorem se_X7_inOut : Cond.selects RX7 yX7_inOut yX7_inOut ∈ gwA := gw_in (mp_3 (yX7_inOut, 34) (List.mem_of_getElem? (i := 8) rfl)) rfl
theorem co_X7_inOut : Cond.code yX7_inOut cX7_inOut 6 (some .int) ∈ gwA := gw_in (mt_3 _ (List.mem_of_getElem? (i := 232) rfl)) rfl
theorem ml_X7_139 : Cond.methodLink RX7 139 yX7_look ∈ gwA := gw_in (mt_3 _ (List.mem_of_getElem? (i := 233) rfl)) rfl
theorem im_X7_look : Cond.instanceMethod yX7_look ∈ gwA := gw_in (mt_3 _ (List.mem_of_getElem? (i := 235) rfl)) rfl
theorem se_X7_look : Cond.selects RX7 yX7_look yX7_look ∈ gwA := gw_in (mp_3 (yX7_look, 34) (List.mem_of_getElem? (i := 9) rfl)) rfl
theorem co_X7_look : Cond.code yX7_look cX7_look 4 none ∈ gwA := gw_in (mt_3 _ (List.mem_of_getElem? (i := 236) rfl)) rfl
theorem ml_X7_179 : Cond.methodLink RX7 179 yX7_fly ∈ gwA := gw_in (mt_3 _ (List.mem_of_getElem? (i := 237) rfl)) rfl
theorem im_X7_fly : Cond.instanceMethod yX7_fly ∈ gwA := gw_in (mt_3 _ (List.mem_of_getElem? (i := 239) rfl)) rfl
theorem se_X7_fly : Cond.selects RX7 yX7_fly yX7_fly ∈ gwA := gw_in (mp_3 (yX7_fly, 34) (List.mem_of_getElem? (i := 10) rfl)) rfl
theorem co_X7_fly : Cond.code yX7_fly cX7_fly 4 none ∈ gwA := gw_in (mt_4 _ (List.mem_of_getElem? (i := 0) rfl)) rfl
theorem ml_L_42 : Cond.methodLink RL 42 yX6_cause ∈ gwA := gw_in (mt_2 _ (List.mem_of_getElem? (i := 180) rfl)) rfl
theorem im_X6_cause : Cond.instanceMethod yX6_cause ∈ gwA := gw_in (mt_2 _ (List.mem_of_getElem? (i := 181) rfl)) rfl
theorem se_X6_cause : Cond.selects RX6 yX6_cause yX6_cause ∈ gwA := gw_in (mt_2 _ (List.mem_of_getElem? (i := 182) rfl)) rfl
theorem co_X6_cause : Cond.code yX6_cause cX6_cause 2 (some .int) ∈ gwA := gw_in (mt_2 _ (List.mem_of_getElem? (i := 183) rfl)) rfl
theorem fl_X6_99 : Cond.fieldLink RX6 99 "ClassStarts$Machine" "journal" "LClassStarts$Journal;" ∈ gwA := gw_in (mt_1 _ (List.mem_of_getElem? (i := 72) rfl)) rfl
theorem fl_X6_103 : Cond.fieldLink RX6 103 "ClassStarts$Journal" "ended" "I" ∈ gwA := gw_in (mt_1 _ (List.mem_of_getElem? (i := 49) rfl)) rfl
theorem fl_X6_108 : Cond.fieldLink RX6 108 "ClassStarts$Journal" "startCause" "I" ∈ gwA := gw_in (mt_1 _ (List.mem_of_getElem? (i := 52) rfl)) rfl
theorem ml_L_46 : Cond.methodLink RL 46 yX7_cause ∈ gwA := gw_in (mt_4 _ (List.mem_of_getElem? (i := 1) rfl)) rfl
theorem im_X7_cause : Cond.instanceMethod yX7_cause ∈ gwA := gw_in (mt_4 _ (List.mem_of_getElem? (i := 2) rfl)) rfl
theorem se_X7_cause : Cond.selects RX7 yX7_cause yX7_cause ∈ gwA := gw_in (mt_4 _ (List.mem_of_getElem? (i := 3) rfl)) rfl
theorem co_X7_cause : Cond.code yX7_cause cX7_cause 1 (some .int) ∈ gwA := gw_in (mt_4 _ (List.mem_of_getElem? (i := 4) rfl)) rfl
theorem ml_L_47 : Cond.methodLink RL 47 yX6_count ∈ gwA := gw_in (mt_2 _ (List.mem_of_getElem? (i := 184) rfl)) rfl
theorem im_X6_count : Cond.instanceMethod yX6_count ∈ gwA := gw_in (mt_2 _ (List.mem_of_getElem? (i := 185) rfl)) rfl
theorem se_X6_count : Cond.selects RX6 yX6_count yX6_count ∈ gwA := gw_in (mt_2 _ (List.mem_of_getElem? (i := 186) rfl)) rfl
theorem co_X6_count : Cond.code yX6_count cX6_count 3 (some .int) ∈ gwA := gw_in (mt_2 _ (List.mem_of_getElem? (i := 187) rfl)) rfl
theorem fl_X6_111 : Cond.fieldLink RX6 111 "ClassStarts$Journal" "events" "I" ∈ gwA := gw_in (mt_1 _ (List.mem_of_getElem? (i := 37) rfl)) rfl
theorem fl_X6_114 : Cond.fieldLink RX6 114 "ClassStarts$Journal" "halfSeen" "I" ∈ gwA := gw_in (mt_1 _ (List.mem_of_getElem? (i := 39) rfl)) rfl
theorem fl_X6_117 : Cond.fieldLink RX6 117 "ClassStarts$Journal" "acts" "I" ∈ gwA := gw_in (mt_1 _ (List.mem_of_getElem? (i := 43) rfl)) rfl
theorem fl_X6_120 : Cond.fieldLink RX6 120 "ClassStarts$Journal" "raised" "I" ∈ gwA := gw_in (mt_1 _ (List.mem_of_getElem? (i := 46) rfl)) rfl
theorem ml_L_50 : Cond.methodLink RL 50 yX7_count ∈ gwA := gw_in (mt_4 _ (List.mem_of_getElem? (i := 5) rfl)) rfl
theorem im_X7_count : Cond.instanceMethod yX7_count ∈ gwA := gw_in (mt_4 _ (List.mem_of_getElem? (i := 6) rfl)) rfl
theorem se_X7_count : Cond.selects RX7 yX7_count yX7_count ∈ gwA := gw_in (mt_4 _ (List.mem_of_getElem? (i := 7) rfl)) rfl
theorem co_X7_count : Cond.code yX7_count cX7_count 2 (some .int) ∈ gwA := gw_in (mt_4 _ (List.mem_of_getElem? (i := 8) rfl)) rfl
theorem ml_L_51 : Cond.methodLink RL 51 yX6_event ∈ gwA := gw_in (mt_2 _ (List.mem_of_getElem? (i := 188) rfl)) rfl
theorem im_X6_event : Cond.instanceMethod yX6_event ∈ gwA := gw_in (mt_2 _ (List.mem_of_getElem? (i := 189) rfl)) rfl
theorem se_X6_event : Cond.selects RX6 yX6_event yX6_event ∈ gwA := gw_in (mt_2 _ (List.mem_of_getElem? (i := 190) rfl)) rfl
theorem co_X6_event : Cond.code yX6_event cX6_event 4 (some .int) ∈ gwA := gw_in (mt_2 _ (List.mem_of_getElem? (i := 191) rfl)) rfl
theorem fl_X6_123 : Cond.fieldLink RX6 123 "ClassStarts$Journal" "sorts" "[I" ∈ gwA := gw_in (mt_1 _ (List.mem_of_getElem? (i := 33) rfl)) rfl
theorem fl_X6_127 : Cond.fieldLink RX6 127 "ClassStarts$Journal" "values" "[I" ∈ gwA := gw_in (mt_1 _ (List.mem_of_getElem? (i := 35) rfl)) rfl
theorem ml_L_54 : Cond.methodLink RL 54 yX7_event ∈ gwA := gw_in (mt_4 _ (List.mem_of_getElem? (i := 9) rfl)) rfl
theorem im_X7_event : Cond.instanceMethod yX7_event ∈ gwA := gw_in (mt_4 _ (List.mem_of_getElem? (i := 10) rfl)) rfl
theorem se_X7_event : Cond.selects RX7 yX7_event yX7_event ∈ gwA := gw_in (mt_4 _ (List.mem_of_getElem? (i := 11) rfl)) rfl
theorem co_X7_event : Cond.code yX7_event cX7_event 3 (some .int) ∈ gwA := gw_in (mt_4 _ (List.mem_of_getElem? (i := 12) rfl)) rfl
theorem ml_L_55 : Cond.methodLink RL 55 yX6_state ∈ gwA := gw_in (mt_2 _ (List.mem_of_getElem? (i := 192) rfl)) rfl
theorem im_X6_state : Cond.instanceMethod yX6_state ∈ gwA := gw_in (mt_2 _ (List.mem_of_getElem? (i := 193) rfl)) rfl
theorem se_X6_state : Cond.selects RX6 yX6_state yX6_state ∈ gwA := gw_in (mt_2 _ (List.mem_of_getElem? (i := 194) rfl)) rfl
theorem co_X6_state : Cond.code yX6_state cX6_state 3 (some .int) ∈ gwA := gw_in (mt_2 _ (List.mem_of_getElem? (i := 195) rfl)) rfl
theorem ml_L_58 : Cond.methodLink RL 58 yX7_state ∈ gwA := gw_in (mt_4 _ (List.mem_of_getElem? (i := 13) rfl)) rfl
theorem im_X7_state : Cond.instanceMethod yX7_state ∈ gwA := gw_in (mt_4 _ (List.mem_of_getElem? (i := 14) rfl)) rfl
theorem se_X7_state : Cond.selects RX7 yX7_state yX7_state ∈ gwA := gw_in (mt_4 _ (List.mem_of_getElem? (i := 15) rfl)) rfl
theorem co_X7_state : Cond.code yX7_state cX7_state 2 (some .int) ∈ gwA := gw_in (mt_4 _ (List.mem_of_getElem? (i := 16) rfl)) rfl
theorem ml_L_59 : Cond.methodLink RL 59 yX6_field ∈ gwA := gw_in (mt_2 _ (List.mem_of_getElem? (i := 196) rfl)) rfl
theorem im_X6_field : Cond.instanceMethod yX6_field ∈ gwA := gw_in (mt_2 _ (List.mem_of_getElem? (i := 197) rfl)) rfl
theorem se_X6_field : Cond.selects RX6 yX6_field yX6_field ∈ gwA := gw_in (mt_2 _ (List.mem_of_getElem? (i := 198) rfl)) rfl
theorem co_X6_field : Cond.code yX6_field cX6_field 4 (some .int) ∈ gwA := gw_in (mt_2 _ (List.mem_of_getElem? (i := 199) rfl)) rfl
theorem ml_X6_130 : Cond.methodLink RX6 130 yX2_valueOf ∈ gwA := gw_in (mt_2 _ (List.mem_of_getElem? (i := 200) rfl)) rfl
theorem ml_L_62 : Cond.methodLink RL 62 yX7_field ∈ gwA := gw_in (mt_4 _ (List.mem_of_getElem? (i := 17) rfl)) rfl
theorem im_X7_field : Cond.instanceMethod yX7_field ∈ gwA := gw_in (mt_4 _ (List.mem_of_getElem? (i := 18) rfl)) rfl
theorem se_X7_field : Cond.selects RX7 yX7_field yX7_field ∈ gwA := gw_in (mt_4 _ (List.mem_of_getElem? (i := 19) rfl)) rfl
theorem co_X7_field : Cond.code yX7_field cX7_field 3 (some .int) ∈ gwA := gw_in (mt_4 _ (List.mem_of_getElem? (i := 20) rfl)) rfl
theorem ml_L_63 : Cond.methodLink RL 63 yX6_row ∈ gwA := gw_in (mt_2 _ (List.mem_of_getElem? (i := 201) rfl)) rfl
theorem im_X6_row : Cond.instanceMethod yX6_row ∈ gwA := gw_in (mt_2 _ (List.mem_of_getElem? (i := 202) rfl)) rfl
theorem se_X6_row : Cond.selects RX6 yX6_row yX6_row ∈ gwA := gw_in (mt_2 _ (List.mem_of_getElem? (i := 203) rfl)) rfl
theorem co_X6_row : Cond.code yX6_row cX6_row 3 (some .int) ∈ gwA := gw_in (mt_2 _ (List.mem_of_getElem? (i := 204) rfl)) rfl
theorem fl_X6_134 : Cond.fieldLink RX6 134 "ClassStarts$Kind" "items" "I" ∈ gwA := gw_in (mt_1 _ (List.mem_of_getElem? (i := 177) rfl)) rfl
theorem ml_L_66 : Cond.methodLink RL 66 yX7_row ∈ gwA := gw_in (mt_4 _ (List.mem_of_getElem? (i := 21) rfl)) rfl
theorem im_X7_row : Cond.instanceMethod yX7_row ∈ gwA := gw_in (mt_4 _ (List.mem_of_getElem? (i := 22) rfl)) rfl
theorem se_X7_row : Cond.selects RX7 yX7_row yX7_row ∈ gwA := gw_in (mt_4 _ (List.mem_of_getElem? (i := 23) rfl)) rfl
theorem co_X7_row : Cond.code yX7_row cX7_row 2 (some .int) ∈ gwA := gw_in (mt_4 _ (List.mem_of_getElem? (i := 24) rfl)) rfl
theorem ml_L_67 : Cond.methodLink RL 67 yX6_item ∈ gwA := gw_in (mt_2 _ (List.mem_of_getElem? (i := 205) rfl)) rfl
theorem im_X6_item : Cond.instanceMethod yX6_item ∈ gwA := gw_in (mt_2 _ (List.mem_of_getElem? (i := 206) rfl)) rfl
theorem se_X6_item : Cond.selects RX6 yX6_item yX6_item ∈ gwA := gw_in (mt_2 _ (List.mem_of_getElem? (i := 207) rfl)) rfl
theorem co_X6_item : Cond.code yX6_item cX6_item 4 (some .int) ∈ gwA := gw_in (mt_2 _ (List.mem_of_getElem? (i := 208) rfl)) rfl
theorem fl_X6_140 : Cond.fieldLink RX6 140 "ClassStarts$Kind" "row" "[I" ∈ gwA := gw_in (mt_1 _ (List.mem_of_getElem? (i := 174) rfl)) rfl
theorem ml_X6_137 : Cond.methodLink RX6 137 yX2_hasItem ∈ gwA := gw_in (mt_2 _ (List.mem_of_getElem? (i := 209) rfl)) rfl
theorem ml_L_70 : Cond.methodLink RL 70 yX7_item ∈ gwA := gw_in (mt_4 _ (List.mem_of_getElem? (i := 25) rfl)) rfl
theorem im_X7_item : Cond.instanceMethod yX7_item ∈ gwA := gw_in (mt_4 _ (List.mem_of_getElem? (i := 26) rfl)) rfl
theorem se_X7_item : Cond.selects RX7 yX7_item yX7_item ∈ gwA := gw_in (mt_4 _ (List.mem_of_getElem? (i := 27) rfl)) rfl
theorem co_X7_item : Cond.code yX7_item cX7_item 3 (some .int) ∈ gwA := gw_in (mt_4 _ (List.mem_of_getElem? (i := 28) rfl)) rfl
theorem ml_L_71 : Cond.methodLink RL 71 yX6_again ∈ gwA := gw_in (mt_2 _ (List.mem_of_getElem? (i := 210) rfl)) rfl
theorem im_X6_again : Cond.instanceMethod yX6_again ∈ gwA := gw_in (mt_2 _ (List.mem_of_getElem? (i := 211) rfl)) rfl
theorem se_X6_again : Cond.selects RX6 yX6_again yX6_again ∈ gwA := gw_in (mt_2 _ (List.mem_of_getElem? (i := 212) rfl)) rfl
theorem co_X6_again : Cond.code yX6_again cX6_again 3 (some .int) ∈ gwA := gw_in (mt_2 _ (List.mem_of_getElem? (i := 213) rfl)) rfl
theorem ml_X6_143 : Cond.methodLink RX6 143 yX2_reset ∈ gwA := gw_in (mt_2 _ (List.mem_of_getElem? (i := 214) rfl)) rfl
theorem im_X2_reset : Cond.instanceMethod yX2_reset ∈ gwA := gw_in (mt_2 _ (List.mem_of_getElem? (i := 215) rfl)) rfl
theorem se_X2_reset : Cond.selects RX2 yX2_reset yX2_reset ∈ gwA := gw_in (mt_2 _ (List.mem_of_getElem? (i := 216) rfl)) rfl
theorem co_X2_reset : Cond.code yX2_reset cX2_reset 2 none ∈ gwA := gw_in (mt_2 _ (List.mem_of_getElem? (i := 217) rfl)) rfl
theorem ml_X2_72 : Cond.methodLink RX2 72 yX2_dropRow ∈ gwA := gw_in (mt_2 _ (List.mem_of_getElem? (i := 218) rfl)) rfl
theorem ml_X2_75 : Cond.methodLink RX2 75 yX2_change ∈ gwA := gw_in (mt_2 _ (List.mem_of_getElem? (i := 219) rfl)) rfl
theorem ml_L_74 : Cond.methodLink RL 74 yX7_again ∈ gwA := gw_in (mt_4 _ (List.mem_of_getElem? (i := 29) rfl)) rfl
theorem im_X7_again : Cond.instanceMethod yX7_again ∈ gwA := gw_in (mt_4 _ (List.mem_of_getElem? (i := 30) rfl)) rfl
theorem se_X7_again : Cond.selects RX7 yX7_again yX7_again ∈ gwA := gw_in (mt_4 _ (List.mem_of_getElem? (i := 31) rfl)) rfl
theorem co_X7_again : Cond.code yX7_again cX7_again 4 (some .int) ∈ gwA := gw_in (mt_4 _ (List.mem_of_getElem? (i := 32) rfl)) rfl
theorem ml_L_75 : Cond.methodLink RL 75 yX6_may ∈ gwA := gw_in (mt_2 _ (List.mem_of_getElem? (i := 220) rfl)) rfl
theorem im_X6_may : Cond.instanceMethod yX6_may ∈ gwA := gw_in (mt_2 _ (List.mem_of_getElem? (i := 221) rfl)) rfl
theorem se_X6_may : Cond.selects RX6 yX6_may yX6_may ∈ gwA := gw_in (mt_2 _ (List.mem_of_getElem? (i := 222) rfl)) rfl
theorem co_X6_may : Cond.code yX6_may cX6_may 4 (some .int) ∈ gwA := gw_in (mt_2 _ (List.mem_of_getElem? (i := 223) rfl)) rfl
theorem ml_X6_146 : Cond.methodLink RX6 146 yX5_ofMethod ∈ gwA := gw_in (mt_2 _ (List.mem_of_getElem? (i := 224) rfl)) rfl
theorem im_X5_ofMethod : Cond.instanceMethod yX5_ofMethod ∈ gwA := gw_in (mt_2 _ (List.mem_of_getElem? (i := 225) rfl)) rfl
theorem se_X5_ofMethod : Cond.selects RX5 yX5_ofMethod yX5_ofMethod ∈ gwA := gw_in (mt_2 _ (List.mem_of_getElem? (i := 226) rfl)) rfl
theorem co_X5_ofMethod : Cond.code yX5_ofMethod cX5_ofMethod 4 (some .int) ∈ gwA := gw_in (mt_2 _ (List.mem_of_getElem? (i := 227) rfl)) rfl
theorem fl_X5_37 : Cond.fieldLink RX5 37 "ClassStarts$Kind" "methods" "[LClassStarts$Method;" ∈ gwA := gw_in (mt_1 _ (List.mem_of_getElem? (i := 180) rfl)) rfl
theorem ml_X5_30 : Cond.methodLink RX5 30 yX5_clear ∈ gwA := gw_in (mt_2 _ (List.mem_of_getElem? (i := 228) rfl)) rfl
theorem im_X5_clear : Cond.instanceMethod yX5_clear ∈ gwA := gw_in (mt_2 _ (List.mem_of_getElem? (i := 230) rfl)) rfl
theorem se_X5_clear : Cond.selects RX5 yX5_clear yX5_clear ∈ gwA := gw_in (mp_2 (yX5_clear, 4) (List.mem_of_getElem? (i := 2) rfl)) rfl
theorem co_X5_clear : Cond.code yX5_clear cX5_clear 1 none ∈ gwA := gw_in (mt_2 _ (List.mem_of_getElem? (i := 231) rfl)) rfl
theorem ml_X5_33 : Cond.methodLink RX5 33 yX5_want ∈ gwA := gw_in (mt_2 _ (List.mem_of_getElem? (i := 232) rfl)) rfl
theorem im_X5_want : Cond.instanceMethod yX5_want ∈ gwA := gw_in (mt_2 _ (List.mem_of_getElem? (i := 234) rfl)) rfl
theorem se_X5_want : Cond.selects RX5 yX5_want yX5_want ∈ gwA := gw_in (mp_2 (yX5_want, 4) (List.mem_of_getElem? (i := 3) rfl)) rfl
theorem co_X5_want : Cond.code yX5_want cX5_want 4 none ∈ gwA := gw_in (mt_2 _ (List.mem_of_getElem? (i := 235) rfl)) rfl
theorem fl_X5_73 : Cond.fieldLink RX5 73 "ClassStarts$Kind" "isFace" "Z" ∈ gwA := gw_in (mt_1 _ (List.mem_of_getElem? (i := 158) rfl)) rfl
theorem fl_X5_81 : Cond.fieldLink RX5 81 "ClassStarts$Kind" "parent" "LClassStarts$Kind;" ∈ gwA := gw_in (mt_1 _ (List.mem_of_getElem? (i := 164) rfl)) rfl
theorem ml_X5_66 : Cond.methodLink RX5 66 yX5_isWanted ∈ gwA := gw_in (mt_2 _ (List.mem_of_getElem? (i := 236) rfl)) rfl
theorem im_X5_isWanted : Cond.instanceMethod yX5_isWanted ∈ gwA := gw_in (mt_2 _ (List.mem_of_getElem? (i := 238) rfl)) rfl
theorem se_X5_isWanted : Cond.selects RX5 yX5_isWanted yX5_isWanted ∈ gwA := gw_in (mp_2 (yX5_isWanted, 4) (List.mem_of_getElem? (i := 4) rfl)) rfl
theorem co_X5_isWanted : Cond.code yX5_isWanted cX5_isWanted 2 (some .boolean) ∈ gwA := gw_in (mt_2 _ (List.mem_of_getElem? (i := 239) rfl)) rfl
theorem ml_X5_94 : Cond.methodLink RX5 94 yX2_bit ∈ gwA := gw_in (mt_3 _ (List.mem_of_getElem? (i := 0) rfl)) rfl
theorem im_X2_bit : Cond.instanceMethod yX2_bit ∈ gwA := gw_in (mt_3 _ (List.mem_of_getElem? (i := 1) rfl)) rfl
theorem se_X2_bit : Cond.selects RX2 yX2_bit yX2_bit ∈ gwA := gw_in (mt_3 _ (List.mem_of_getElem? (i := 2) rfl)) rfl
theorem co_X2_bit : Cond.code yX2_bit cX2_bit 1 (some .int) ∈ gwA := gw_in (mt_3 _ (List.mem_of_getElem? (i := 3) rfl)) rfl
theorem ml_X5_70 : Cond.methodLink RX5 70 yX5_add ∈ gwA := gw_in (mt_3 _ (List.mem_of_getElem? (i := 4) rfl)) rfl
theorem im_X5_add : Cond.instanceMethod yX5_add ∈ gwA := gw_in (mt_3 _ (List.mem_of_getElem? (i := 6) rfl)) rfl
theorem se_X5_add : Cond.selects RX5 yX5_add yX5_add ∈ gwA := gw_in (mp_2 (yX5_add, 4) (List.mem_of_getElem? (i := 5) rfl)) rfl
theorem co_X5_add : Cond.code yX5_add cX5_add 2 none ∈ gwA := gw_in (mt_3 _ (List.mem_of_getElem? (i := 7) rfl)) rfl
theorem ml_X5_38 : Cond.methodLink RX5 38 yX5_list ∈ gwA := gw_in (mt_3 _ (List.mem_of_getElem? (i := 8) rfl)) rfl
theorem im_X5_list : Cond.instanceMethod yX5_list ∈ gwA := gw_in (mt_3 _ (List.mem_of_getElem? (i := 10) rfl)) rfl
theorem se_X5_list : Cond.selects RX5 yX5_list yX5_list ∈ gwA := gw_in (mp_2 (yX5_list, 4) (List.mem_of_getElem? (i := 6) rfl)) rfl
theorem co_X5_list : Cond.code yX5_list cX5_list 4 none ∈ gwA := gw_in (mt_3 _ (List.mem_of_getElem? (i := 11) rfl)) rfl
theorem fl_X5_98 : Cond.fieldLink RX5 98 "ClassStarts$Method" "number" "I" ∈ gwA := gw_in (mt_1 _ (List.mem_of_getElem? (i := 137) rfl)) rfl
theorem ml_X5_77 : Cond.methodLink RX5 77 yX5_lookThrough ∈ gwA := gw_in (mt_3 _ (List.mem_of_getElem? (i := 12) rfl)) rfl
theorem im_X5_lookThrough : Cond.instanceMethod yX5_lookThrough ∈ gwA := gw_in (mt_3 _ (List.mem_of_getElem? (i := 14) rfl)) rfl
theorem se_X5_lookThrough : Cond.selects RX5 yX5_lookThrough yX5_lookThrough ∈ gwA := gw_in (mp_2 (yX5_lookThrough, 4) (List.mem_of_getElem? (i := 7) rfl)) rfl
theorem co_X5_lookThrough : Cond.code yX5_lookThrough cX5_lookThrough 5 none ∈ gwA := gw_in (mt_3 _ (List.mem_of_getElem? (i := 15) rfl)) rfl
theorem fl_X5_84 : Cond.fieldLink RX5 84 "ClassStarts$Kind" "faceCount" "I" ∈ gwA := gw_in (mt_1 _ (List.mem_of_getElem? (i := 169) rfl)) rfl
theorem fl_X5_87 : Cond.fieldLink RX5 87 "ClassStarts$Kind" "faces" "[LClassStarts$Kind;" ∈ gwA := gw_in (mt_1 _ (List.mem_of_getElem? (i := 166) rfl)) rfl
theorem fl_X5_91 : Cond.fieldLink RX5 91 "ClassStarts$Kind" "hasDefaults" "Z" ∈ gwA := gw_in (mt_1 _ (List.mem_of_getElem? (i := 160) rfl)) rfl
theorem ml_X5_42 : Cond.methodLink RX5 42 yX5_follow ∈ gwA := gw_in (mt_3 _ (List.mem_of_getElem? (i := 16) rfl)) rfl
theorem im_X5_follow : Cond.instanceMethod yX5_follow ∈ gwA := gw_in (mt_3 _ (List.mem_of_getElem? (i := 18) rfl)) rfl
theorem se_X5_follow : Cond.selects RX5 yX5_follow yX5_follow ∈ gwA := gw_in (mp_2 (yX5_follow, 4) (List.mem_of_getElem? (i := 8) rfl)) rfl
theorem co_X5_follow : Cond.code yX5_follow cX5_follow 4 none ∈ gwA := gw_in (mt_3 _ (List.mem_of_getElem? (i := 19) rfl)) rfl
theorem fl_X5_45 : Cond.fieldLink RX5 45 "ClassStarts$Method" "size" "I" ∈ gwA := gw_in (mt_1 _ (List.mem_of_getElem? (i := 142) rfl)) rfl
theorem fl_X5_46 : Cond.fieldLink RX5 46 "ClassStarts$Method" "acts" "[LClassStarts$Act;" ∈ gwA := gw_in (mt_1 _ (List.mem_of_getElem? (i := 139) rfl)) rfl
theorem fl_X5_56 : Cond.fieldLink RX5 56 "ClassStarts$Act" "other" "LClassStarts$Kind;" ∈ gwA := gw_in (mt_2 _ (List.mem_of_getElem? (i := 45) rfl)) rfl
theorem fl_X5_60 : Cond.fieldLink RX5 60 "ClassStarts$Act" "sort" "I" ∈ gwA := gw_in (mt_2 _ (List.mem_of_getElem? (i := 42) rfl)) rfl
theorem fl_X5_63 : Cond.fieldLink RX5 63 "ClassStarts$Act" "b" "I" ∈ gwA := gw_in (mt_2 _ (List.mem_of_getElem? (i := 50) rfl)) rfl
theorem ml_X5_50 : Cond.methodLink RX5 50 yX0_wants ∈ gwA := gw_in (mt_3 _ (List.mem_of_getElem? (i := 20) rfl)) rfl
theorem ml_L_78 : Cond.methodLink RL 78 yX7_may ∈ gwA := gw_in (mt_4 _ (List.mem_of_getElem? (i := 33) rfl)) rfl
theorem im_X7_may : Cond.instanceMethod yX7_may ∈ gwA := gw_in (mt_4 _ (List.mem_of_getElem? (i := 34) rfl)) rfl
theorem se_X7_may : Cond.selects RX7 yX7_may yX7_may ∈ gwA := gw_in (mt_4 _ (List.mem_of_getElem? (i := 35) rfl)) rfl
theorem co_X7_may : Cond.code yX7_may cX7_may 5 (some .int) ∈ gwA := gw_in (mt_4 _ (List.mem_of_getElem? (i := 36) rfl)) rfl
theorem fl_X7_182 : Cond.fieldLink RX7 182 "ClassStartsModel" "wanted" "I" ∈ gwA := gw_in (mt_3 _ (List.mem_of_getElem? (i := 68) rfl)) rfl
theorem ml_X7_188 : Cond.methodLink RX7 188 yX7_mayWant ∈ gwA := gw_in (mt_4 _ (List.mem_of_getElem? (i := 37) rfl)) rfl
theorem im_X7_mayWant : Cond.instanceMethod yX7_mayWant ∈ gwA := gw_in (mt_4 _ (List.mem_of_getElem? (i := 39) rfl)) rfl
theorem se_X7_mayWant : Cond.selects RX7 yX7_mayWant yX7_mayWant ∈ gwA := gw_in (mp_3 (yX7_mayWant, 34) (List.mem_of_getElem? (i := 11) rfl)) rfl
theorem co_X7_mayWant : Cond.code yX7_mayWant cX7_mayWant 2 none ∈ gwA := gw_in (mt_4 _ (List.mem_of_getElem? (i := 40) rfl)) rfl
theorem ml_X7_185 : Cond.methodLink RX7 185 yX7_mayLook ∈ gwA := gw_in (mt_4 _ (List.mem_of_getElem? (i := 41) rfl)) rfl
theorem im_X7_mayLook : Cond.instanceMethod yX7_mayLook ∈ gwA := gw_in (mt_4 _ (List.mem_of_getElem? (i := 43) rfl)) rfl
theorem se_X7_mayLook : Cond.selects RX7 yX7_mayLook yX7_mayLook ∈ gwA := gw_in (mp_3 (yX7_mayLook, 34) (List.mem_of_getElem? (i := 12) rfl)) rfl
theorem co_X7_mayLook : Cond.code yX7_mayLook cX7_mayLook 5 none ∈ gwA := gw_in (mt_4 _ (List.mem_of_getElem? (i := 44) rfl)) rfl
theorem ml_X7_191 : Cond.methodLink RX7 191 yX7_mayActs ∈ gwA := gw_in (mt_4 _ (List.mem_of_getElem? (i := 45) rfl)) rfl
theorem im_X7_mayActs : Cond.instanceMethod yX7_mayActs ∈ gwA := gw_in (mt_4 _ (List.mem_of_getElem? (i := 47) rfl)) rfl
theorem se_X7_mayActs : Cond.selects RX7 yX7_mayActs yX7_mayActs ∈ gwA := gw_in (mp_3 (yX7_mayActs, 34) (List.mem_of_getElem? (i := 13) rfl)) rfl
theorem co_X7_mayActs : Cond.code yX7_mayActs cX7_mayActs 7 none ∈ gwA := gw_in (mt_4 _ (List.mem_of_getElem? (i := 48) rfl)) rfl
theorem ml_L_79 : Cond.methodLink RL 79 yX6_ahead ∈ gwA := gw_in (mt_3 _ (List.mem_of_getElem? (i := 21) rfl)) rfl
theorem im_X6_ahead : Cond.instanceMethod yX6_ahead ∈ gwA := gw_in (mt_3 _ (List.mem_of_getElem? (i := 22) rfl)) rfl
theorem se_X6_ahead : Cond.selects RX6 yX6_ahead yX6_ahead ∈ gwA := gw_in (mt_3 _ (List.mem_of_getElem? (i := 23) rfl)) rfl
theorem co_X6_ahead : Cond.code yX6_ahead cX6_ahead 5 (some .int) ∈ gwA := gw_in (mt_3 _ (List.mem_of_getElem? (i := 24) rfl)) rfl
theorem ml_X6_149 : Cond.methodLink RX6 149 yX5_ofStart ∈ gwA := gw_in (mt_3 _ (List.mem_of_getElem? (i := 25) rfl)) rfl
theorem im_X5_ofStart : Cond.instanceMethod yX5_ofStart ∈ gwA := gw_in (mt_3 _ (List.mem_of_getElem? (i := 26) rfl)) rfl
theorem se_X5_ofStart : Cond.selects RX5 yX5_ofStart yX5_ofStart ∈ gwA := gw_in (mt_3 _ (List.mem_of_getElem? (i := 27) rfl)) rfl
theorem co_X5_ofStart : Cond.code yX5_ofStart cX5_ofStart 2 (some .int) ∈ gwA := gw_in (mt_3 _ (List.mem_of_getElem? (i := 28) rfl)) rfl
theorem ml_X6_152 : Cond.methodLink RX6 152 yX2_bit ∈ gwA := gw_in (mt_3 _ (List.mem_of_getElem? (i := 29) rfl)) rfl
theorem ml_L_82 : Cond.methodLink RL 82 yX7_ahead ∈ gwA := gw_in (mt_4 _ (List.mem_of_getElem? (i := 49) rfl)) rfl
theorem im_X7_ahead : Cond.instanceMethod yX7_ahead ∈ gwA := gw_in (mt_4 _ (List.mem_of_getElem? (i := 50) rfl)) rfl
theorem se_X7_ahead : Cond.selects RX7 yX7_ahead yX7_ahead ∈ gwA := gw_in (mt_4 _ (List.mem_of_getElem? (i := 51) rfl)) rfl
theorem co_X7_ahead : Cond.code yX7_ahead cX7_ahead 5 (some .int) ∈ gwA := gw_in (mt_4 _ (List.mem_of_getElem? (i := 52) rfl)) rfl
theorem inX0 : ∀ w ∈ u_ws RX0 TX0 6, w ∈ gwA := List.forall_mem_cons.mpr ⟨gw_in (mt_2 _ (List.mem_of_getElem? (i := 56) rfl)) rfl, List.forall_mem_cons.mpr ⟨gw_in (mt_2 _ (List.mem_of_getElem? (i := 58) rfl)) rfl, List.forall_mem_cons.mpr ⟨gw_in (mt_2 _ (List.mem_of_getElem? (i := 60) rfl)) rfl, List.forall_mem_cons.mpr ⟨gw_in (mt_2 _ (List.mem_of_getElem? (i := 62) rfl)) rfl, List.forall_mem_cons.mpr ⟨gw_in (mt_2 _ (List.mem_of_getElem? (i := 64) rfl)) rfl, List.forall_mem_cons.mpr ⟨gw_in (mt_2 _ (List.mem_of_getElem? (i := 66) rfl)) rfl, fun _ h => absurd h List.not_mem_nil⟩⟩⟩⟩⟩⟩
theorem inX1 : ∀ w ∈ u_ws RX1 TX1 8, w ∈ gwA := List.forall_mem_cons.mpr ⟨gw_in (mt_1 _ (List.mem_of_getElem? (i := 53) rfl)) rfl, List.forall_mem_cons.mpr ⟨gw_in (mt_1 _ (List.mem_of_getElem? (i := 55) rfl)) rfl, List.forall_mem_cons.mpr ⟨gw_in (mt_1 _ (List.mem_of_getElem? (i := 57) rfl)) rfl, List.forall_mem_cons.mpr ⟨gw_in (mt_1 _ (List.mem_of_getElem? (i := 59) rfl)) rfl, List.forall_mem_cons.mpr ⟨gw_in (mt_1 _ (List.mem_of_getElem? (i := 61) rfl)) rfl, List.forall_mem_cons.mpr ⟨gw_in (mt_1 _ (List.mem_of_getElem? (i := 63) rfl)) rfl, List.forall_mem_cons.mpr ⟨gw_in (mt_1 _ (List.mem_of_getElem? (i := 65) rfl)) rfl, List.forall_mem_cons.mpr ⟨gw_in (mt_1 _ (List.mem_of_getElem? (i := 67) rfl)) rfl, fun _ h => absurd h List.not_mem_nil⟩⟩⟩⟩⟩⟩⟩⟩
theorem inX2 : ∀ w ∈ u_ws RX2 TX2 12, w ∈ gwA := List.forall_mem_cons.mpr ⟨gw_in (mt_1 _ (List.mem_of_getElem? (i := 186) rfl)) rfl, List.forall_mem_cons.mpr ⟨gw_in (mt_1 _ (List.mem_of_getElem? (i := 188) rfl)) rfl, List.forall_mem_cons.mpr ⟨gw_in (mt_1 _ (List.mem_of_getElem? (i := 190) rfl)) rfl, List.forall_mem_cons.mpr ⟨gw_in (mt_1 _ (List.mem_of_getElem? (i := 192) rfl)) rfl, List.forall_mem_cons.mpr ⟨gw_in (mt_1 _ (List.mem_of_getElem? (i := 194) rfl)) rfl, List.forall_mem_cons.mpr ⟨gw_in (mt_1 _ (List.mem_of_getElem? (i := 196) rfl)) rfl, List.forall_mem_cons.mpr ⟨gw_in (mt_1 _ (List.mem_of_getElem? (i := 198) rfl)) rfl, List.forall_mem_cons.mpr ⟨gw_in (mt_1 _ (List.mem_of_getElem? (i := 200) rfl)) rfl, List.forall_mem_cons.mpr ⟨gw_in (mt_1 _ (List.mem_of_getElem? (i := 202) rfl)) rfl, List.forall_mem_cons.mpr ⟨gw_in (mt_1 _ (List.mem_of_getElem? (i := 204) rfl)) rfl, List.forall_mem_cons.mpr ⟨gw_in (mt_1 _ (List.mem_of_getElem? (i := 206) rfl)) rfl, List.forall_mem_cons.mpr ⟨gw_in (mt_1 _ (List.mem_of_getElem? (i := 208) rfl)) rfl, fun _ h => absurd h List.not_mem_nil⟩⟩⟩⟩⟩⟩⟩⟩⟩⟩⟩⟩
theorem inX3 : ∀ w ∈ u_ws RX3 TX3 1, w ∈ gwA := List.forall_mem_cons.mpr ⟨gw_in (mt_1 _ (List.mem_of_getElem? (i := 73) rfl)) rfl, fun _ h => absurd h List.not_mem_nil⟩
theorem inX4 : ∀ w ∈ u_ws RX4 TX4 3, w ∈ gwA := List.forall_mem_cons.mpr ⟨gw_in (mt_1 _ (List.mem_of_getElem? (i := 144) rfl)) rfl, List.forall_mem_cons.mpr ⟨gw_in (mt_1 _ (List.mem_of_getElem? (i := 146) rfl)) rfl, List.forall_mem_cons.mpr ⟨gw_in (mt_1 _ (List.mem_of_getElem? (i := 148) rfl)) rfl, fun _ h => absurd h List.not_mem_nil⟩⟩⟩
theorem inX5 : ∀ w ∈ u_ws RX5 TX5 4, w ∈ gwA := List.forall_mem_cons.mpr ⟨gw_in (mt_1 _ (List.mem_of_getElem? (i := 88) rfl)) rfl, List.forall_mem_cons.mpr ⟨gw_in (mt_1 _ (List.mem_of_getElem? (i := 90) rfl)) rfl, List.forall_mem_cons.mpr ⟨gw_in (mt_1 _ (List.mem_of_getElem? (i := 92) rfl)) rfl, List.forall_mem_cons.mpr ⟨gw_in (mt_1 _ (List.mem_of_getElem? (i := 94) rfl)) rfl, fun _ h => absurd h List.not_mem_nil⟩⟩⟩⟩
theorem inX6 : ∀ w ∈ u_ws RX6 TX6 4, w ∈ gwA := List.forall_mem_cons.mpr ⟨gw_in (mt_1 _ (List.mem_of_getElem? (i := 101) rfl)) rfl, List.forall_mem_cons.mpr ⟨gw_in (mt_1 _ (List.mem_of_getElem? (i := 103) rfl)) rfl, List.forall_mem_cons.mpr ⟨gw_in (mt_1 _ (List.mem_of_getElem? (i := 105) rfl)) rfl, List.forall_mem_cons.mpr ⟨gw_in (mt_1 _ (List.mem_of_getElem? (i := 107) rfl)) rfl, fun _ h => absurd h List.not_mem_nil⟩⟩⟩⟩
theorem inX7 : ∀ w ∈ u_ws RX7 TX7 34, w ∈ gwA := List.forall_mem_cons.mpr ⟨gw_in (mt_3 _ (List.mem_of_getElem? (i := 70) rfl)) rfl, List.forall_mem_cons.mpr ⟨gw_in (mt_3 _ (List.mem_of_getElem? (i := 72) rfl)) rfl, List.forall_mem_cons.mpr ⟨gw_in (mt_3 _ (List.mem_of_getElem? (i := 74) rfl)) rfl, List.forall_mem_cons.mpr ⟨gw_in (mt_3 _ (List.mem_of_getElem? (i := 76) rfl)) rfl, List.forall_mem_cons.mpr ⟨gw_in (mt_3 _ (List.mem_of_getElem? (i := 78) rfl)) rfl, List.forall_mem_cons.mpr ⟨gw_in (mt_3 _ (List.mem_of_getElem? (i := 80) rfl)) rfl, List.forall_mem_cons.mpr ⟨gw_in (mt_3 _ (List.mem_of_getElem? (i := 82) rfl)) rfl, List.forall_mem_cons.mpr ⟨gw_in (mt_3 _ (List.mem_of_getElem? (i := 84) rfl)) rfl, List.forall_mem_cons.mpr ⟨gw_in (mt_3 _ (List.mem_of_getElem? (i := 86) rfl)) rfl, List.forall_mem_cons.mpr ⟨gw_in (mt_3 _ (List.mem_of_getElem? (i := 88) rfl)) rfl, List.forall_mem_cons.mpr ⟨gw_in (mt_3 _ (List.mem_of_getElem? (i := 90) rfl)) rfl, List.forall_mem_cons.mpr ⟨gw_in (mt_3 _ (List.mem_of_getElem? (i := 92) rfl)) rfl, List.forall_mem_cons.mpr ⟨gw_in (mt_3 _ (List.mem_of_getElem? (i := 94) rfl)) rfl, List.forall_mem_cons.mpr ⟨gw_in (mt_3 _ (List.mem_of_getElem? (i := 96) rfl)) rfl, List.forall_mem_cons.mpr ⟨gw_in (mt_3 _ (List.mem_of_getElem? (i := 98) rfl)) rfl, List.forall_mem_cons.mpr ⟨gw_in (mt_3 _ (List.mem_of_getElem? (i := 100) rfl)) rfl, List.forall_mem_cons.mpr ⟨gw_in (mt_3 _ (List.mem_of_getElem? (i := 102) rfl)) rfl, List.forall_mem_cons.mpr ⟨gw_in (mt_3 _ (List.mem_of_getElem? (i := 104) rfl)) rfl, List.forall_mem_cons.mpr ⟨gw_in (mt_3 _ (List.mem_of_getElem? (i := 106) rfl)) rfl, List.forall_mem_cons.mpr ⟨gw_in (mt_3 _ (List.mem_of_getElem? (i := 108) rfl)) rfl, List.forall_mem_cons.mpr ⟨gw_in (mt_3 _ (List.mem_of_getElem? (i := 110) rfl)) rfl, List.forall_mem_cons.mpr ⟨gw_in (mt_3 _ (List.mem_of_getElem? (i := 112) rfl)) rfl, List.forall_mem_cons.mpr ⟨gw_in (mt_3 _ (List.mem_of_getElem? (i := 114) rfl)) rfl, List.forall_mem_cons.mpr ⟨gw_in (mt_3 _ (List.mem_of_getElem? (i := 116) rfl)) rfl, List.forall_mem_cons.mpr ⟨gw_in (mt_3 _ (List.mem_of_getElem? (i := 118) rfl)) rfl, List.forall_mem_cons.mpr ⟨gw_in (mt_3 _ (List.mem_of_getElem? (i := 120) rfl)) rfl, List.forall_mem_cons.mpr ⟨gw_in (mt_3 _ (List.mem_of_getElem? (i := 122) rfl)) rfl, List.forall_mem_cons.mpr ⟨gw_in (mt_3 _ (List.mem_of_getElem? (i := 124) rfl)) rfl, List.forall_mem_cons.mpr ⟨gw_in (mt_3 _ (List.mem_of_getElem? (i := 126) rfl)) rfl, List.forall_mem_cons.mpr ⟨gw_in (mt_3 _ (List.mem_of_getElem? (i := 128) rfl)) rfl, List.forall_mem_cons.mpr ⟨gw_in (mt_3 _ (List.mem_of_getElem? (i := 130) rfl)) rfl, List.forall_mem_cons.mpr ⟨gw_in (mt_3 _ (List.mem_of_getElem? (i := 132) rfl)) rfl, List.forall_mem_cons.mpr ⟨gw_in (mt_3 _ (List.mem_of_getElem? (i := 134) rfl)) rfl, List.forall_mem_cons.mpr ⟨gw_in (mt_3 _ (List.mem_of_getElem? (i := 136) rfl)) rfl, fun _ h => absurd h List.not_mem_nil⟩⟩⟩⟩⟩⟩⟩⟩⟩⟩⟩⟩⟩⟩⟩⟩⟩⟩⟩⟩⟩⟩⟩⟩⟩⟩⟩⟩⟩⟩⟩⟩⟩⟩
end
section
/-! THE WORLD BY NAMES: adr gives each name its place, cel what lies there -/
abbrev gw_G : Type := va_G × (Nat → ClassId)
def gw_tys (G : gw_G) : List (ClassId × FieldType) := [(G.2 0, .int), (G.2 1, .boolean), (G.2 2, .object RX0), (G.2 3, .object RX2), (G.2 4, .object RX4)]
def gw_K (G : gw_G) (U : State) : Prop := va_K G.1 vwCl (gw_tys G) U ∧ va_AO RX0 U ∧ va_AO RX2 U ∧ va_AO RX4 U
theorem gw_K.moved {G : gw_G} {u U : State} (hvm : u.vm.Alike U.vm) (h : gw_K G u) : gw_K G U := ⟨va_K.moved hvm h.1, va_AO.moved hvm h.2.1, va_AO.moved hvm h.2.2.1, va_AO.moved hvm h.2.2.2⟩
def gw_P (D : va_G) (adr : Nat → Nat) (cel : Nat → Option va_E) (H : Heap) : Prop := ∀ (n : Nat) (e : va_E), cel n = some e → va_at D vwCl (adr n, e) H
def gw_D (A : Nat → Prop) (adr : Nat → Nat) (cel : Nat → Option va_E) : Prop := (∀ n, cel n ≠ none → A (adr n)) ∧ ∀ n k, cel n ≠ none → cel k ≠ none → adr n = adr k → n = k
def gw_B (G : gw_G) (A : Nat → Prop) (adr : Nat → Nat) (cel : Nat → Option va_E) (H0 H : Heap) (locs : List Loc) : Prop := gw_P G.1 adr cel H ∧ gw_D A adr cel ∧ va_S A H0 H locs
def gw_F (p : Program) (m : MethodId) (c : Code) (cc : ByteArray) (s : State) (args : Array Value) (own : String) : Prop := p.tables.exec = Jvm.exec ∧ c.code = cc ∧ s.vm.findClass own = some m.cls ∧ ∀ w ∈ gwA, w.before args s = true
theorem gw_one {D : va_G} {adr : Nat → Nat} {cel : Nat → Option va_E} {H : Heap} (hP : gw_P D adr cel H) {n : Nat} {e : va_E} (he : cel n = some e) : va_P D vwCl [(adr n, e)] H := by
  intro k q hk
  have hz : k < 1 := (List.getElem?_eq_some_iff.mp hk).1
  rw [show k = 0 by omega] at hk
  cases hk
  exact hP n e he
theorem gw_P.set {D : va_G} {A : Nat → Prop} {adr : Nat → Nat} {cel : Nat → Option va_E} {H H1 : Heap} (hP : gw_P D adr cel H) (hD : gw_D A adr cel) {n : Nat} {e0 e : va_E} (hn : cel n = some e0) (he : va_at D vwCl (adr n, e) H1) (oq : ∀ q : Nat, q ≠ adr n → H1[q]? = H[q]?) : gw_P D adr (va_up cel n (some e)) H1 := by
  intro k x hk
  by_cases hkn : k = n
  · subst hkn
    simp only [va_up, if_pos] at hk
    cases hk
    exact he
  · simp only [va_up, if_neg hkn] at hk
    exact (hP k x hk).kept (oq _ (fun z => hkn (hD.2 k n (by rw [hk]; exact fun h => by cases h) (by rw [hn]; exact fun h => by cases h) z)))
theorem gw_D.set {A : Nat → Prop} {adr : Nat → Nat} {cel : Nat → Option va_E} (hD : gw_D A adr cel) {n : Nat} {e0 e : va_E} (hn : cel n = some e0) : gw_D A adr (va_up cel n (some e)) := by
  have key : ∀ k, va_up cel n (some e) k ≠ none → cel k ≠ none := by
    intro k hk
    by_cases hkn : k = n
    · subst hkn
      rw [hn]
      exact fun h => by cases h
    · simp only [va_up, if_neg hkn] at hk
      exact hk
  exact ⟨fun k hk => hD.1 k (key k hk), fun a b ha hb h => hD.2 a b (key a ha) (key b hb) h⟩
theorem gw_B.set {G : gw_G} {A : Nat → Prop} {adr : Nat → Nat} {cel : Nat → Option va_E} {H0 H H1 : Heap} {locs : List Loc} (hB : gw_B G A adr cel H0 H locs) {n j : Nat} {e0 e : va_E} (hn : cel n = some e0) (he : va_at G.1 vwCl (adr n, e) H1) (z : H1.size = H.size) (oq : ∀ q : Nat, q ≠ adr n → H1[q]? = H[q]?) : gw_B G A adr (va_up cel n (some e)) H0 H1 (locs ++ [⟨adr n, j⟩]) :=
  ⟨hB.1.set hB.2.1 hn he oq, hB.2.1.set hn, hB.2.2.put z oq (hB.2.1.1 n (by rw [hn]; exact fun h => by cases h))⟩
theorem gw_B.to {G : gw_G} {A : Nat → Prop} {adr : Nat → Nat} {cel cel' : Nat → Option va_E} {H0 H : Heap} {locs : List Loc} (hB : gw_B G A adr cel H0 H locs) (h : cel = cel') : gw_B G A adr cel' H0 H locs := h ▸ hB
/-- a new cell, under a name that had none -/
theorem gw_B.push {G : gw_G} {A : Nat → Prop} {adr : Nat → Nat} {cel : Nat → Option va_E} {H0 H H1 : Heap} {locs : List Loc} (hB : gw_B G A adr cel H0 H locs) (hA : ∀ q, H0.size ≤ q → A q) {n : Nat} {e : va_E} (hn : cel n = none) (he : va_at G.1 vwCl (H.size, e) H1) (z : H1.size = H.size + 1) (oq : ∀ q : Nat, q < H.size → H1[q]? = H[q]?) : gw_B G A (va_up adr n H.size) (va_up cel n (some e)) H0 H1 locs := by
  obtain ⟨hP, hD, hS⟩ := hB
  have hne : ∀ k, cel k ≠ none → k ≠ n := fun k hk q => hk (by rw [q]; exact hn)
  have hlt : ∀ k, cel k ≠ none → adr k < H.size := by
    intro k hk
    cases hc : cel k with
    | none => exact absurd hc hk
    | some x => exact (hP k x hc).lt
  have key : ∀ k, va_up cel n (some e) k ≠ none → k = n ∨ (k ≠ n ∧ cel k ≠ none) := by
    intro k hk
    by_cases hkn : k = n
    · exact Or.inl hkn
    · simp only [va_up, if_neg hkn] at hk
      exact Or.inr ⟨hkn, hk⟩
  refine ⟨fun k x hk => ?_, ⟨fun k hk => ?_, fun a b ha hb h => ?_⟩, ⟨Nat.le_trans hS.1 (by omega), fun q h1 h2 => (oq q (Nat.lt_of_lt_of_le h1 hS.1)).trans (hS.2.1 q h1 h2), hS.2.2⟩⟩
  · by_cases hkn : k = n
    · subst hkn
      simp only [va_up, if_pos] at hk
      cases hk
      simp only [va_up, if_pos]
      exact he
    · simp only [va_up, if_neg hkn] at hk ⊢
      exact (hP k x hk).kept (oq _ (hlt k (by rw [hk]; exact fun h => by cases h)))
  · rcases key k hk with h | ⟨h, h2⟩
    · subst h
      simp only [va_up, if_pos]
      exact hA _ hS.1
    · simp only [va_up, if_neg h]
      exact hD.1 k h2
  · rcases key a ha with h1 | ⟨h1, g1⟩ <;> rcases key b hb with h2 | ⟨h2, g2⟩
    · rw [h1, h2]
    · exfalso
      subst h1
      simp only [va_up, if_pos, if_neg h2] at h
      exact absurd (hlt b g2) (by omega)
    · exfalso
      subst h2
      simp only [va_up, if_pos, if_neg h1] at h
      exact absurd (hlt a g1) (by omega)
    · simp only [va_up, if_neg h1, if_neg h2] at h
      exact hD.2 a b g1 g2 h
section GW
variable {p : Program} {l : Launch} {e : Env} {R : Room} {s : State} {m : MethodId} {args : Array Value} {below : List Frame} {meth : Method} {c : Code} {H : Heap} {locs : List Loc} {cells slots : Nat} {Q : State → Prop}
variable {cc : ByteArray} {pc : Nat} {ls : Array Slot} {rest : List Value} {G : gw_G} {A : Nat → Prop} {H0 : Heap} {adr : Nat → Nat} {cel : Nat → Option va_E} {own : String}
theorem gw_get (F : gw_F p m c cc s args own) (hK : gw_K G s) (hP : gw_P G.1 adr cel H) (n : Nat) {ci : Nat} {fs : List Value} (he : cel n = some (.inr (ci, fs))) {C : String} {T : u_T} {N index : Nat} (hc : vwCl[ci]? = some (C, T, N)) (hin : ∀ w ∈ u_ws C T N, w ∈ gwA) (k : Nat) (hk : k < N) (hlink : Cond.fieldLink own index (T k).1 (T k).2.1 (T k).2.2.1 ∈ gwA) {v : Value} (hv : fs[k]? = some v) (hdg : decode cc pc = .ok (.getfield index, 3))
    (kk : W p l e R s m args below meth c H locs cells slots Q (F0 m (pc + 3) ls (v :: rest))) : W p l e R s m args below meth c H locs cells slots Q (F0 m pc ls (.ref (adr n) :: rest)) :=
  va_get (ws := [(adr n, .inr (ci, fs))]) F.1 F.2.1 F.2.2.2 hin F.2.2.1 hK.1 (gw_one hP he) 0 rfl hc k hk (F.2.2.2 _ hlink) (fun _ h => h) hv hdg kk
theorem gw_put (F : gw_F p m c cc s args own) (hK : gw_K G s) (hB : gw_B G A adr cel H0 H locs) (n : Nat) {ci : Nat} {fs : List Value} (he : cel n = some (.inr (ci, fs))) {C : String} {T : u_T} {N index : Nat} (hc : vwCl[ci]? = some (C, T, N)) (hin : ∀ w ∈ u_ws C T N, w ∈ gwA) (ty0 : Nat → FieldType) (hty : ∀ k, k < N → parseFieldDescriptor (T k).2.2.1 = some (ty0 k)) (hnm : ∀ a, a < N → ∀ b, b < N → a ≠ b → (T a).2.1 ≠ (T b).2.1) (k : Nat) (hk : k < N) (hlink : Cond.fieldLink own index (T k).1 (T k).2.1 (T k).2.2.1 ∈ gwA) (hfin : (T k).2.2.2 = false) {ty : FieldType} {v : Value} (hd : ty0 k = ty) (hn : narrow ty v = v) (hfit : fits ty v = true) (hl : k < fs.length)
    (hdg : decode cc pc = .ok (.putfield index, 3)) (kk : ∀ (H1 : Heap) (locs1 : List Loc), gw_B G A adr (va_up cel n (some (.inr (ci, fs.set k v)))) H0 H1 locs1 → W p l e R s m args below meth c H1 locs1 cells slots Q (F0 m (pc + 3) ls rest)) : W p l e R s m args below meth c H locs cells slots Q (F0 m pc ls (v :: .ref (adr n) :: rest)) := by
  obtain ⟨hexec, hb, hown, hts⟩ := F
  have hap := va_apart (own := own) hts hin ty0 hty hnm hK.1 hc
  obtain ⟨r, h1, cell, q1, q2, q3, q4⟩ := hB.1 n _ he
  have hr : r = (C, T, N) := Option.some.inj (h1.symm.trans hc)
  subst hr
  obtain ⟨hS, hfc, kC, hkC, hkind⟩ := hK.1.1 ci _ hc
  obtain ⟨cf, kf, fi, f, hi, hsl⟩ := hS k hk
  have hlay := hts _ (hin _ (u_in_lay hk))
  unfold u_lay at hlay
  rw [if_neg (by rw [hfin]; decide)] at hlay
  have hst := (u_facts hfc hkC (u_lays hts hin hk) hi).1
  have h6 := u_store hfc hkC hkind hlay hi (hd ▸ hty k hk) hn hfit
  refine W.putK hexec hb (f := f) ⟨hown, hts _ hlink, ⟨_, _, _, hi⟩, hst⟩ (by rw [q2]; exact h6) q1 q3 (by rw [hsl]; exact k2_hasslot (q4 k hk)) rfl rfl hdg fun H' e1 e2 e3 => ?_
  rw [hsl] at e1 ⊢
  exact kk H' _ (hB.set he ⟨_, hc, t_OB.to (V := updV (vp_V fs) k v) ⟨_, e1, q2, q3, t_set q4 hap hk v⟩ (fun j _ => vp_updV_set hl v j)⟩ e2 e3)
theorem gw_putF (F : gw_F p m c cc s args own) (hK : gw_K G s) (hB : gw_B G A adr cel H0 H locs) (n : Nat) {ci : Nat} {fs : List Value} (he : cel n = some (.inr (ci, fs))) {C : String} {T : u_T} {N index : Nat} (hc : vwCl[ci]? = some (C, T, N)) (hin : ∀ w ∈ u_ws C T N, w ∈ gwA) (ty0 : Nat → FieldType) (hty : ∀ k, k < N → parseFieldDescriptor (T k).2.2.1 = some (ty0 k)) (hnm : ∀ a, a < N → ∀ b, b < N → a ≠ b → (T a).2.1 ≠ (T b).2.1) (k : Nat) (hk : k < N) (hlink : Cond.fieldLink own index (T k).1 (T k).2.1 (T k).2.2.1 ∈ gwA) (hfin : (T k).2.2.2 = true) (hin2 : meth.name = "<init>") (hdecl : (T k).1 = own) {ty : FieldType} {v : Value} (hd : ty0 k = ty) (hn : narrow ty v = v) (hfit : fits ty v = true) (hl : k < fs.length)
    (hdg : decode cc pc = .ok (.putfield index, 3)) (kk : ∀ (H1 : Heap) (locs1 : List Loc), gw_B G A adr (va_up cel n (some (.inr (ci, fs.set k v)))) H0 H1 locs1 → W p l e R s m args below meth c H1 locs1 cells slots Q (F0 m (pc + 3) ls rest)) : W p l e R s m args below meth c H locs cells slots Q (F0 m pc ls (v :: .ref (adr n) :: rest)) := by
  obtain ⟨hexec, hb, hown, hts⟩ := F
  have hap := va_apart (own := own) hts hin ty0 hty hnm hK.1 hc
  obtain ⟨r, h1, cell, q1, q2, q3, q4⟩ := hB.1 n _ he
  have hr : r = (C, T, N) := Option.some.inj (h1.symm.trans hc)
  subst hr
  obtain ⟨hS, hfc, kC, hkC, hkind⟩ := hK.1.1 ci _ hc
  obtain ⟨cf, kf, fi, f, hi, hsl⟩ := hS k hk
  have hlay := hts _ (hin _ (u_in_lay hk))
  unfold u_lay at hlay
  rw [if_pos hfin] at hlay
  have hst := (u_facts hfc hkC (u_lays hts hin hk) hi).1
  have hcf : m.cls = cf := by
    obtain ⟨_, _, c', _, _, _, -, -, hf', -, -, -, hown2, -⟩ := Cond.laysFinal_spec hlay
    have e1 : c' = cf := by have := hi.symm.trans hf'; simp at this; exact this.1.symm
    rw [hdecl] at hown2
    rw [← e1]; exact Option.some.inj (hown.symm.trans hown2)
  have h6 := u_fits hfc hkC hkind (Or.inr hlay) hi (hd ▸ hty k hk) hn hfit
  refine W.putFinK hexec hb hown (hts _ hlink) hi hst hcf hin2 (by rw [q2]; exact h6) q1 q3 (by rw [hsl]; exact k2_hasslot (q4 k hk)) rfl rfl hdg fun H' e1 e2 e3 => ?_
  rw [hsl] at e1 ⊢
  exact kk H' _ (hB.set he ⟨_, hc, t_OB.to (V := updV (vp_V fs) k v) ⟨_, e1, q2, q3, t_set q4 hap hk v⟩ (fun j _ => vp_updV_set hl v j)⟩ e2 e3)
theorem gw_iald (F : gw_F p m c cc s args own) (hK : gw_K G s) (hP : gw_P G.1 adr cel H) (n : Nat) {N : Nat} {f : Nat → Int32} (he : cel n = some (.inl (G.2 0, N, .inl f))) {i : Int32} (hin : vp_in i N) (hdg : decode cc pc = .ok (.iaload, 1))
    (kk : W p l e R s m args below meth c H locs cells slots Q (F0 m (pc + 1) ls (.int (f i.toNatClampNeg) :: rest))) : W p l e R s m args below meth c H locs cells slots Q (F0 m pc ls (.int i :: .ref (adr n) :: rest)) :=
  va_iald (ws := [(adr n, .inl (G.2 0, N, .inl f))]) F.1 F.2.1 hK.1 (gw_one hP he) 0 0 rfl rfl hin hdg kk
theorem gw_zald (F : gw_F p m c cc s args own) (hK : gw_K G s) (hP : gw_P G.1 adr cel H) (n : Nat) {N : Nat} {f : Nat → Int32} (he : cel n = some (.inl (G.2 1, N, .inl f))) {i : Int32} (hin : vp_in i N) (hdg : decode cc pc = .ok (.baload, 1))
    (kk : W p l e R s m args below meth c H locs cells slots Q (F0 m (pc + 1) ls (.int (f i.toNatClampNeg) :: rest))) : W p l e R s m args below meth c H locs cells slots Q (F0 m pc ls (.int i :: .ref (adr n) :: rest)) :=
  va_zald (ws := [(adr n, .inl (G.2 1, N, .inl f))]) F.1 F.2.1 hK.1 (gw_one hP he) 0 1 rfl rfl hin hdg kk
theorem gw_aald (F : gw_F p m c cc s args own) (hK : gw_K G s) (hP : gw_P G.1 adr cel H) (n t : Nat) {C : String} (ht : (gw_tys G)[t]? = some (G.2 t, .object C)) {N : Nat} {f : Nat → Option Nat} (he : cel n = some (.inl (G.2 t, N, .inr (.inr (.inr (.inr f)))))) {i : Int32} (hin : vp_in i N) (hdg : decode cc pc = .ok (.aaload, 1))
    (kk : W p l e R s m args below meth c H locs cells slots Q (F0 m (pc + 1) ls (va_rf (f i.toNatClampNeg) :: rest))) : W p l e R s m args below meth c H locs cells slots Q (F0 m pc ls (.int i :: .ref (adr n) :: rest)) :=
  va_aldq (ws := [(adr n, .inl (G.2 t, N, .inr (.inr (.inr (.inr f)))))]) F.1 F.2.1 hK.1 (gw_one hP he) 0 t rfl ht hin hdg kk
theorem gw_iast (F : gw_F p m c cc s args own) (hK : gw_K G s) (hB : gw_B G A adr cel H0 H locs) (n : Nat) {N : Nat} {f : Nat → Int32} (he : cel n = some (.inl (G.2 0, N, .inl f))) {i x : Int32} (hin : vp_in i N) (hdg : decode cc pc = .ok (.iastore, 1))
    (kk : ∀ (H1 : Heap) (locs1 : List Loc), gw_B G A adr (va_up cel n (some (.inl (G.2 0, N, .inl (va_up f i.toNatClampNeg x))))) H0 H1 locs1 → W p l e R s m args below meth c H1 locs1 cells slots Q (F0 m (pc + 1) ls rest)) : W p l e R s m args below meth c H locs cells slots Q (F0 m pc ls (.int x :: .int i :: .ref (adr n) :: rest)) := by
  refine W.iast F.1 F.2.1 (hB.1 n _ he) ((hK.1.2 0 _ rfl).1 N (fun j => .int (f j))) (fun q => by cases q) (by show ¬ (i < 0 ∨ (arrV _ _ _).slots.size ≤ _); rw [arrV_size]; exact hin) rfl rfl hdg fun H1 e z oq => ?_
  refine kk H1 _ (hB.set he ?_ z oq)
  show H1[adr n]? = some (vp_cell _ _)
  rw [e]
  rw [vp_cell_i, vp_cell_i, arrV_store]
  congr 2
  funext q
  by_cases hq : q = i.toNatClampNeg
  · subst hq
    simp [updV, va_up]
  · simp [updV, va_up, hq]
theorem gw_zast (F : gw_F p m c cc s args own) (hK : gw_K G s) (hB : gw_B G A adr cel H0 H locs) (n : Nat) {N : Nat} {f : Nat → Int32} (he : cel n = some (.inl (G.2 1, N, .inl f))) {i x : Int32} (hin : vp_in i N) (hdg : decode cc pc = .ok (.bastore, 1))
    (kk : ∀ (H1 : Heap) (locs1 : List Loc), gw_B G A adr (va_up cel n (some (.inl (G.2 1, N, .inl (va_up f i.toNatClampNeg (vp_nar .boolean x)))))) H0 H1 locs1 → W p l e R s m args below meth c H1 locs1 cells slots Q (F0 m (pc + 1) ls rest)) : W p l e R s m args below meth c H locs cells slots Q (F0 m pc ls (.int x :: .int i :: .ref (adr n) :: rest)) := by
  refine W.zast F.1 F.2.1 (hB.1 n _ he) ((hK.1.2 1 _ rfl).1 N (fun j => .int (f j))) (fun q => by cases q) (by show ¬ (i < 0 ∨ (arrV _ _ _).slots.size ≤ _); rw [arrV_size]; exact hin) rfl rfl hdg fun H1 e z oq => ?_
  refine kk H1 _ (hB.set he ?_ z oq)
  show H1[adr n]? = some (vp_cell _ _)
  rw [e]
  rw [vp_cell_i, vp_cell_i, arrV_store]
  congr 2
  funext q
  by_cases hq : q = i.toNatClampNeg
  · subst hq
    simp [updV, va_up, vp_nar]
    try rfl
  · simp [updV, va_up, hq]
/-- a reference into a row of references: v is an object of the row's class -/
theorem gw_aast (F : gw_F p m c cc s args own) (hK : gw_K G s) (hB : gw_B G A adr cel H0 H locs) (n t : Nat) {r : vw_C} (ht : (gw_tys G)[t]? = some (G.2 t, .object r.1)) {N : Nat} {f : Nat → Option Nat} (he : cel n = some (.inl (G.2 t, N, .inr (.inr (.inr (.inr f)))))) (v ci : Nat) {vs : List Value} (hv : cel v = some (.inr (ci, vs))) (hc : vwCl[ci]? = some r) {i : Int32} (hin : vp_in i N) (hdg : decode cc pc = .ok (.aastore, 1))
    (kk : ∀ (H1 : Heap) (locs1 : List Loc), gw_B G A adr (va_up cel n (some (.inl (G.2 t, N, .inr (.inr (.inr (.inr (va_up f i.toNatClampNeg (some (adr v)))))))))) H0 H1 locs1 → W p l e R s m args below meth c H1 locs1 cells slots Q (F0 m (pc + 1) ls rest)) : W p l e R s m args below meth c H locs cells slots Q (F0 m pc ls (.ref (adr v) :: .int i :: .ref (adr n) :: rest)) := by
  have hlt : i.toNatClampNeg < N := Nat.not_le.mp fun q => hin (Or.inr q)
  have h0 : ¬ i < 0 := fun q => hin (Or.inl q)
  obtain ⟨r', hr', cellV, g1, g2, g3, -⟩ := hB.1 v _ hv
  have hcls := (hK.1.1 ci r hc).2
  obtain ⟨kA, comp, k1, k2, k3, -⟩ := (hK.1.2 t _ ht).2
  have hcomp : comp = G.1.1 ci := Option.some.inj (k3.symm.trans hcls.1)
  subst hcomp
  obtain ⟨kC, hkC, -⟩ := hcls.2
  refine W.aast F.1 F.2.1 (hB.1 n _ he) (fun q h => by cases h) (fun h => by cases h) k1 k2 rfl hkC ⟨h0, by show _ < (arrV _ _ _).slots.size; rw [arrV_size]; exact hlt⟩ g1 (fun q h => by rw [g3] at h; cases h) (by rw [g2]; exact hkC) (by rw [g2]; exact va_assign hcls) rfl rfl hdg fun H1 e z oq => ?_
  refine kk H1 _ (hB.set he ?_ z oq)
  show H1[adr n]? = some (vp_cell _ _)
  rw [e]
  rw [vp_cell_q, vp_cell_q, arrV_store]
  congr 2
  funext q
  by_cases hq : q = i.toNatClampNeg
  · subst hq
    simp [updV, va_up, va_rf]
  · simp [updV, va_up, hq]
theorem gw_new (F : gw_F p m c cc s args own) (hK : gw_K G s) (hB : gw_B G A adr cel H0 H locs) (hA : ∀ q, H0.size ≤ q → A q) (n ci : Nat) (hn : cel n = none) {C : String} {T : u_T} {N index : Nat} (hc : vwCl[ci]? = some (C, T, N)) (hin : ∀ w ∈ u_ws C T N, w ∈ gwA) (ty : Nat → FieldType) (hty : ∀ k, k < N → parseFieldDescriptor (T k).2.2.1 = some (ty k)) (hcl : Cond.classLink own index C ∈ gwA) (hinst : Cond.instantiable C N ∈ gwA) (hini : Cond.initialized C ∈ gwA) {fs : List Value} (hfs : ∀ j, j < N → defaultValue (ty j) = vp_V fs j) (hcells : cells + 1 ≤ R.cells) (hslots : slots + N ≤ R.slots) (hdg : decode cc pc = .ok (.new index, 3))
    (kk : ∀ (q : Nat) (H1 : Heap), q = H.size → gw_B G A (va_up adr n q) (va_up cel n (some (.inr (ci, fs)))) H0 H1 locs → W p l e R s m args below meth c H1 locs (cells + 1) (slots + N) Q (F0 m (pc + 3) ls (.ref q :: rest))) : W p l e R s m args below meth c H locs cells slots Q (F0 m pc ls rest) := by
  obtain ⟨hexec, hb, hown, hts⟩ := F
  have hKn := hK.1.1 ci _ hc
  refine W.newcK hexec hb hown (hts _ hcl) (hts _ hinst) (hts _ hini) rfl hdg hcells hslots hKn.2.1 rfl fun H1 kC hkC e1 z1 o1 => ?_
  exact kk H.size H1 rfl (hB.push hA hn ⟨_, hc, (u_born ty hts hin hKn hkC e1 hty).to hfs⟩ z1 o1)
theorem gw_newa (F : gw_F p m c cc s args own) (hK : gw_K G s) (hB : gw_B G A adr cel H0 H locs) (hA : ∀ q, H0.size ≤ q → A q) (n t : Nat) (hn : cel n = none) {atype : ArrayType} (harr : Cond.arrayClass (newarray.typeOf atype) ∈ gwA) (ht : (gw_tys G)[t]? = some (G.2 t, newarray.typeOf atype)) (hnot : va_RA s (G.2 t) (newarray.typeOf atype) → s.vm.findClass ("[" ++ (newarray.typeOf atype).toString) = some (G.2 t)) {k : Int32} {N : Nat} {f : Nat → Int32} (hf : ∀ cA : ClassId, vp_cell cA (N, .inl f) = arrV cA N (fun _ => defaultValue (newarray.typeOf atype))) (hk : ¬ k < 0) (hN : k.toNatClampNeg = N) (hbytes : N * componentBytes (newarray.typeOf atype) ≤ 536870912) (hcells : cells + 1 ≤ R.cells) (hslots : slots + N ≤ R.slots) (hdg : decode cc pc = .ok (.newarray atype, 2))
    (kk : ∀ (q : Nat) (H1 : Heap), q = H.size → gw_B G A (va_up adr n q) (va_up cel n (some (.inl (G.2 t, N, .inl f)))) H0 H1 locs → W p l e R s m args below meth c H1 locs (cells + 1) (slots + N) Q (F0 m (pc + 2) ls (.ref q :: rest))) : W p l e R s m args below meth c H locs cells slots Q (F0 m pc ls (.int k :: rest)) := by
  obtain ⟨hexec, hb, hown, hts⟩ := F
  refine va_newaK hexec hb (hts _ harr) rfl hdg rfl hk hN hbytes hcells hslots rfl fun H1 cA e1 z1 o1 hAr hNm => ?_
  have hcA : cA = G.2 t := Option.some.inj (hNm.symm.trans (hnot (hK.1.2 t _ ht).2))
  subst hcA
  refine kk H.size H1 rfl (hB.push hA hn ?_ z1 o1)
  show H1[H.size]? = some (vp_cell _ _)
  rw [hf]
  exact e1
theorem gw_newq (F : gw_F p m c cc s args own) (hK : gw_K G s) (hB : gw_B G A adr cel H0 H locs) (hA : ∀ q, H0.size ≤ q → A q) (n t : Nat) (hn : cel n = none) {C : String} {index : Nat} (hcl : Cond.classLink own index C ∈ gwA) (hover : va_AO C s) (ht : (gw_tys G)[t]? = some (G.2 t, .object C)) {k : Int32} {N : Nat} (hk : ¬ k < 0) (hN : k.toNatClampNeg = N) (hbytes : N * 4 ≤ 536870912) (hcells : cells + 1 ≤ R.cells) (hslots : slots + N ≤ R.slots) (hdg : decode cc pc = .ok (.anewarray index, 3))
    (kk : ∀ (q : Nat) (H1 : Heap), q = H.size → gw_B G A (va_up adr n q) (va_up cel n (some (.inl (G.2 t, N, .inr (.inr (.inr (.inr (fun _ => none)))))))) H0 H1 locs → W p l e R s m args below meth c H1 locs (cells + 1) (slots + N) Q (F0 m (pc + 3) ls (.ref q :: rest))) : W p l e R s m args below meth c H locs cells slots Q (F0 m pc ls (.int k :: rest)) := by
  subst hN
  obtain ⟨hexec, hb, hown, hts⟩ := F
  refine W.anew hexec hb hown (hts _ hcl) (va_AO.use hover) rfl hdg rfl hk hbytes hcells hslots fun cA kA comp f1 f2 f3 f4 => ?_
  obtain ⟨kA', comp', -, -, -, f5⟩ := (hK.1.2 t _ ht).2
  have hcA : cA = G.2 t := Option.some.inj (f1.symm.trans f5)
  subst hcA
  generalize hH1 : H.push ({ cls := G.2 t, slots := Array.replicate k.toNatClampNeg .null, vm := .none } : Cell) = H1
  refine kk H.size H1 rfl (hB.push hA hn ?_ (by rw [← hH1, Array.size_push]) (fun q hq => by rw [← hH1, Array.getElem?_push, if_neg (Nat.ne_of_lt hq)]))
  show H1[H.size]? = some (vp_cell _ _)
  rw [vp_cell_q, ← hH1, Array.getElem?_push_size, ← arrV_new]
  rfl
theorem gw_recv (hK : gw_K G s) (hP : gw_P G.1 adr cel H) {n ci : Nat} {fs : List Value} {q : vw_C} (he : cel n = some (.inr (ci, fs))) (hc : vwCl[ci]? = some q) : ∃ cell : Cell, H[adr n]? = some cell ∧ cell.vm.isStatics = false ∧ s.vm.findClass q.1 = some cell.cls :=
  va_recv hK.1 (gw_one hP he) (ws := [(adr n, .inr (ci, fs))]) (q0 := 0) hc rfl
end GW
/-- every method's words: its code, then all the law's words -/
abbrev gw_w (y : MethodName) (b : ByteArray) (n : Nat) (r : Option FieldType) : List Cond := Cond.code y b n r :: gwA
theorem gw_good {y : MethodName} {b : ByteArray} {n : Nat} {r : Option FieldType} (h : Cond.code y b n r ∈ gwA) : GoodIn gwA (gw_w y b n r) := fun w hw => (List.mem_cons.mp hw).elim (fun q => by rw [q]; exact gWA _ h) (gWA w)
section GC
variable {s : State} {args : Array Value} {R : Room} {own C : String} {index maxL mc ms : Nat} {y : MethodName} {bytes : ByteArray} {ret : Option FieldType} {rm : Room}
theorem gw_cwV (n : Nat) (ht : ∀ w ∈ gwA, w.before args s = true) (h1 : Cond.methodLink own index y ∈ gwA) (h2 : Cond.instanceMethod y ∈ gwA) (h3 : Cond.selects C y y ∈ gwA) (h4 : Cond.initialized C ∈ gwA) (h5 : Cond.code y bytes maxL ret ∈ gwA) (hrc : rm.cells = mc) (hrs : rm.slots = ms)
    (hd : y.cls = C ∧ y.cls ≠ "java/lang/invoke/MethodHandle" ∧ y.cls ≠ "java/lang/invoke/VarHandle" ∧ (parseMethodDescriptor y.desc).map (fun d => d.parameters.length) = some n) (hR : rm.frames + 1 ≤ R.frames ∧ 8 + (maxL + 11) + rm.locals ≤ R.locals) : CallW R s args own C index y bytes maxL ret (gw_w y bytes maxL ret) rm mc ms n :=
  cwV n ht (goodIn_app (List.forall_mem_cons.mpr ⟨gWA _ h1, List.forall_mem_cons.mpr ⟨gWA _ h2, List.forall_mem_cons.mpr ⟨gWA _ h3, List.forall_mem_cons.mpr ⟨gWA _ h4, fun _ h => absurd h List.not_mem_nil⟩⟩⟩⟩) (gw_good h5)) rfl hrc hrs hd hR
theorem gw_cwI (n : Nat) (ht : ∀ w ∈ gwA, w.before args s = true) (h1 : Cond.methodLink own index y ∈ gwA) (h2 : Cond.instanceMethod y ∈ gwA) (h4 : Cond.initialized y.cls ∈ gwA) (h5 : Cond.code y bytes maxL none ∈ gwA) (hrc : rm.cells = mc) (hrs : rm.slots = ms) (hy1 : y.name = "<init>")
    (hd : y.cls ≠ "java/lang/invoke/MethodHandle" ∧ y.cls ≠ "java/lang/invoke/VarHandle" ∧ (parseMethodDescriptor y.desc).map (fun d => d.parameters.length) = some n) (hR : rm.frames + 1 ≤ R.frames ∧ 8 + (maxL + 11) + rm.locals ≤ R.locals) : CallB R s args own index y bytes maxL none (gw_w y bytes maxL none) rm mc ms n ∧ y.name = "<init>" ∧ (Cond.instanceMethod y).before args s = true :=
  cwI n ht (gw_good h5) rfl hrc hrs (ht _ h4) (ht _ h1) (ht _ h2) hy1 hd hR
theorem gw_cwS (n : Nat) (ht : ∀ w ∈ gwA, w.before args s = true) (h1 : Cond.methodLink own index y ∈ gwA) (h2 : Cond.static y ∈ gwA) (h4 : Cond.initialized y.cls ∈ gwA) (h5 : Cond.code y bytes maxL ret ∈ gwA) (hrc : rm.cells = mc) (hrs : rm.slots = ms)
    (hd : y.cls ≠ "java/lang/invoke/MethodHandle" ∧ y.cls ≠ "java/lang/invoke/VarHandle" ∧ (parseMethodDescriptor y.desc).map (fun d => d.parameters.length) = some n) (hR : rm.frames + 1 ≤ R.frames ∧ 8 + (maxL + 11) + rm.locals ≤ R.locals) : CallB R s args own index y bytes maxL ret (gw_w y bytes maxL ret) rm mc ms n ∧ (Cond.static y).before args s = true :=
  ⟨callB_of n ht (gw_good h5) rfl hrc hrs (ht _ h4) (ht _ h1) hd hR, ht _ h2⟩
end GC
end
