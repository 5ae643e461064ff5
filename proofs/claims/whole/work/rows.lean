section
-- ===== PART A: goes FIRST, ahead of the names: the tables' words, and 'selects' of the private methods out of them =====
/-- a private method of a class that the tables say can be made, by its rows of tables_1 -/
def lw_okq (q : MethodName × Nat) : Prop := (q.1.cls ≠ "java/lang/invoke/MethodHandle" ∧ q.1.cls ≠ "java/lang/invoke/VarHandle") ∧ Cond.instantiable q.1.cls q.2 ∈ tables_1 ∧ Cond.privateMethod q.1 ∈ tables_1 ∧ Cond.instanceMethod q.1 ∈ tables_1
theorem lw_p0 : lw_okq (⟨"ClassStarts", "find", "(I)LClassStarts$Kind;"⟩, 4) := ⟨⟨by decide +kernel, by decide +kernel⟩, List.mem_of_getElem? (i := 11) (by decide +kernel), List.mem_of_getElem? (i := 115) (by decide +kernel), List.mem_of_getElem? (i := 116) (by decide +kernel)⟩
theorem lw_p1 : lw_okq (⟨"ClassStarts", "keep", "(ZZLClassStarts$Kind;)I"⟩, 4) := ⟨⟨by decide +kernel, by decide +kernel⟩, List.mem_of_getElem? (i := 11) (by decide +kernel), List.mem_of_getElem? (i := 119) (by decide +kernel), List.mem_of_getElem? (i := 120) (by decide +kernel)⟩
theorem lw_p2 : lw_okq (⟨"ClassStarts", "named", "(LClassStarts$Kind;III)LClassStarts$Kind;"⟩, 4) := ⟨⟨by decide +kernel, by decide +kernel⟩, List.mem_of_getElem? (i := 11) (by decide +kernel), List.mem_of_getElem? (i := 248) (by decide +kernel), List.mem_of_getElem? (i := 249) (by decide +kernel)⟩
theorem lw_p3 : lw_okq (⟨"ClassStarts$Method", "lastGuarded", "(I)I"⟩, 3) := ⟨⟨by decide +kernel, by decide +kernel⟩, List.mem_of_getElem? (i := 129) (by decide +kernel), List.mem_of_getElem? (i := 266) (by decide +kernel), List.mem_of_getElem? (i := 267) (by decide +kernel)⟩
theorem lw_p4 : lw_okq (⟨"ClassStarts$Machine", "want", "(LClassStarts$Kind;I)I"⟩, 1) := ⟨⟨by decide +kernel, by decide +kernel⟩, List.mem_of_getElem? (i := 21) (by decide +kernel), List.mem_of_getElem? (i := 323) (by decide +kernel), List.mem_of_getElem? (i := 324) (by decide +kernel)⟩
theorem lw_p5 : lw_okq (⟨"ClassStarts$Machine", "raise", "(I)I"⟩, 1) := ⟨⟨by decide +kernel, by decide +kernel⟩, List.mem_of_getElem? (i := 21) (by decide +kernel), List.mem_of_getElem? (i := 327) (by decide +kernel), List.mem_of_getElem? (i := 328) (by decide +kernel)⟩
theorem lw_p6 : lw_okq (⟨"ClassStarts$Machine", "start", "(LClassStarts$Kind;I)I"⟩, 1) := ⟨⟨by decide +kernel, by decide +kernel⟩, List.mem_of_getElem? (i := 21) (by decide +kernel), List.mem_of_getElem? (i := 335) (by decide +kernel), List.mem_of_getElem? (i := 336) (by decide +kernel)⟩
theorem lw_p7 : lw_okq (⟨"ClassStarts$Machine", "lookThrough", "(LClassStarts$Kind;II)I"⟩, 1) := ⟨⟨by decide +kernel, by decide +kernel⟩, List.mem_of_getElem? (i := 21) (by decide +kernel), List.mem_of_getElem? (i := 339) (by decide +kernel), List.mem_of_getElem? (i := 340) (by decide +kernel)⟩
theorem lw_p8 : lw_okq (⟨"ClassStarts$Machine", "work", "(LClassStarts$Kind;II)I"⟩, 1) := ⟨⟨by decide +kernel, by decide +kernel⟩, List.mem_of_getElem? (i := 21) (by decide +kernel), List.mem_of_getElem? (i := 343) (by decide +kernel), List.mem_of_getElem? (i := 344) (by decide +kernel)⟩
theorem lw_p9 : lw_okq (⟨"ClassStarts$Machine", "begin", "(LClassStarts$Kind;LClassStarts$Act;I)I"⟩, 1) := ⟨⟨by decide +kernel, by decide +kernel⟩, List.mem_of_getElem? (i := 21) (by decide +kernel), List.mem_of_getElem? (i := 347) (by decide +kernel), List.mem_of_getElem? (i := 348) (by decide +kernel)⟩
theorem lw_p10 : lw_okq (⟨"ClassStarts$Machine", "perform", "(LClassStarts$Kind;LClassStarts$Act;I)I"⟩, 1) := ⟨⟨by decide +kernel, by decide +kernel⟩, List.mem_of_getElem? (i := 21) (by decide +kernel), List.mem_of_getElem? (i := 356) (by decide +kernel), List.mem_of_getElem? (i := 357) (by decide +kernel)⟩
theorem lw_p11 : lw_okq (⟨"ClassStarts$Machine", "readOther", "(LClassStarts$Kind;LClassStarts$Act;)I"⟩, 1) := ⟨⟨by decide +kernel, by decide +kernel⟩, List.mem_of_getElem? (i := 21) (by decide +kernel), List.mem_of_getElem? (i := 368) (by decide +kernel), List.mem_of_getElem? (i := 369) (by decide +kernel)⟩
theorem lw_p12 : lw_okq (⟨"ClassStarts$Machine", "divide", "(LClassStarts$Kind;II)I"⟩, 1) := ⟨⟨by decide +kernel, by decide +kernel⟩, List.mem_of_getElem? (i := 21) (by decide +kernel), List.mem_of_getElem? (i := 373) (by decide +kernel), List.mem_of_getElem? (i := 374) (by decide +kernel)⟩
theorem lw_p13 : lw_okq (⟨"ClassStarts$Machine", "makeRow", "(LClassStarts$Kind;I)I"⟩, 1) := ⟨⟨by decide +kernel, by decide +kernel⟩, List.mem_of_getElem? (i := 21) (by decide +kernel), List.mem_of_getElem? (i := 377) (by decide +kernel), List.mem_of_getElem? (i := 378) (by decide +kernel)⟩
theorem lw_p14 : lw_okq (⟨"ClassStarts$Machine", "putItem", "(LClassStarts$Kind;II)I"⟩, 1) := ⟨⟨by decide +kernel, by decide +kernel⟩, List.mem_of_getElem? (i := 21) (by decide +kernel), List.mem_of_getElem? (i := 389) (by decide +kernel), List.mem_of_getElem? (i := 390) (by decide +kernel)⟩
theorem lw_p15 : lw_okq (⟨"ClassStarts$Machine", "takeItem", "(LClassStarts$Kind;II)I"⟩, 1) := ⟨⟨by decide +kernel, by decide +kernel⟩, List.mem_of_getElem? (i := 21) (by decide +kernel), List.mem_of_getElem? (i := 397) (by decide +kernel), List.mem_of_getElem? (i := 398) (by decide +kernel)⟩
def lw_privs_1 : List (MethodName × Nat) := [(⟨"ClassStarts", "find", "(I)LClassStarts$Kind;"⟩, 4), (⟨"ClassStarts", "keep", "(ZZLClassStarts$Kind;)I"⟩, 4), (⟨"ClassStarts", "named", "(LClassStarts$Kind;III)LClassStarts$Kind;"⟩, 4), (⟨"ClassStarts$Method", "lastGuarded", "(I)I"⟩, 3), (⟨"ClassStarts$Machine", "want", "(LClassStarts$Kind;I)I"⟩, 1), (⟨"ClassStarts$Machine", "raise", "(I)I"⟩, 1), (⟨"ClassStarts$Machine", "start", "(LClassStarts$Kind;I)I"⟩, 1), (⟨"ClassStarts$Machine", "lookThrough", "(LClassStarts$Kind;II)I"⟩, 1), (⟨"ClassStarts$Machine", "work", "(LClassStarts$Kind;II)I"⟩, 1), (⟨"ClassStarts$Machine", "begin", "(LClassStarts$Kind;LClassStarts$Act;I)I"⟩, 1), (⟨"ClassStarts$Machine", "perform", "(LClassStarts$Kind;LClassStarts$Act;I)I"⟩, 1), (⟨"ClassStarts$Machine", "readOther", "(LClassStarts$Kind;LClassStarts$Act;)I"⟩, 1), (⟨"ClassStarts$Machine", "divide", "(LClassStarts$Kind;II)I"⟩, 1), (⟨"ClassStarts$Machine", "makeRow", "(LClassStarts$Kind;I)I"⟩, 1), (⟨"ClassStarts$Machine", "putItem", "(LClassStarts$Kind;II)I"⟩, 1), (⟨"ClassStarts$Machine", "takeItem", "(LClassStarts$Kind;II)I"⟩, 1)]
theorem lw_r1 : ∀ q ∈ lw_privs_1, lw_okq q := List.forall_mem_cons.mpr ⟨lw_p0, List.forall_mem_cons.mpr ⟨lw_p1, List.forall_mem_cons.mpr ⟨lw_p2, List.forall_mem_cons.mpr ⟨lw_p3, List.forall_mem_cons.mpr ⟨lw_p4, List.forall_mem_cons.mpr ⟨lw_p5, List.forall_mem_cons.mpr ⟨lw_p6, List.forall_mem_cons.mpr ⟨lw_p7, List.forall_mem_cons.mpr ⟨lw_p8, List.forall_mem_cons.mpr ⟨lw_p9, List.forall_mem_cons.mpr ⟨lw_p10, List.forall_mem_cons.mpr ⟨lw_p11, List.forall_mem_cons.mpr ⟨lw_p12, List.forall_mem_cons.mpr ⟨lw_p13, List.forall_mem_cons.mpr ⟨lw_p14, List.forall_mem_cons.mpr ⟨lw_p15, fun _ h => absurd h List.not_mem_nil⟩⟩⟩⟩⟩⟩⟩⟩⟩⟩⟩⟩⟩⟩⟩⟩
theorem lw_p16 : lw_okq (⟨"ClassStarts$Machine", "enter", "(LClassStarts$Kind;II)I"⟩, 1) := ⟨⟨by decide +kernel, by decide +kernel⟩, List.mem_of_getElem? (i := 21) (by decide +kernel), List.mem_of_getElem? (i := 401) (by decide +kernel), List.mem_of_getElem? (i := 402) (by decide +kernel)⟩
theorem lw_p17 : lw_okq (⟨"ClassStarts$Machine", "afterStart", "(I)I"⟩, 1) := ⟨⟨by decide +kernel, by decide +kernel⟩, List.mem_of_getElem? (i := 21) (by decide +kernel), List.mem_of_getElem? (i := 417) (by decide +kernel), List.mem_of_getElem? (i := 418) (by decide +kernel)⟩
theorem lw_p18 : lw_okq (⟨"ClassStarts$Reach", "clear", "()V"⟩, 4) := ⟨⟨by decide +kernel, by decide +kernel⟩, List.mem_of_getElem? (i := 77) (by decide +kernel), List.mem_of_getElem? (i := 469) (by decide +kernel), List.mem_of_getElem? (i := 470) (by decide +kernel)⟩
theorem lw_p19 : lw_okq (⟨"ClassStarts$Reach", "want", "(LClassStarts$Kind;)V"⟩, 4) := ⟨⟨by decide +kernel, by decide +kernel⟩, List.mem_of_getElem? (i := 77) (by decide +kernel), List.mem_of_getElem? (i := 473) (by decide +kernel), List.mem_of_getElem? (i := 474) (by decide +kernel)⟩
theorem lw_p20 : lw_okq (⟨"ClassStarts$Reach", "isWanted", "(LClassStarts$Kind;)Z"⟩, 4) := ⟨⟨by decide +kernel, by decide +kernel⟩, List.mem_of_getElem? (i := 77) (by decide +kernel), List.mem_of_getElem? (i := 477) (by decide +kernel), List.mem_of_getElem? (i := 478) (by decide +kernel)⟩
theorem lw_p21 : lw_okq (⟨"ClassStarts$Reach", "add", "(LClassStarts$Kind;)V"⟩, 4) := ⟨⟨by decide +kernel, by decide +kernel⟩, List.mem_of_getElem? (i := 77) (by decide +kernel), List.mem_of_getElem? (i := 485) (by decide +kernel), List.mem_of_getElem? (i := 486) (by decide +kernel)⟩
theorem lw_p22 : lw_okq (⟨"ClassStarts$Reach", "list", "(LClassStarts$Method;)V"⟩, 4) := ⟨⟨by decide +kernel, by decide +kernel⟩, List.mem_of_getElem? (i := 77) (by decide +kernel), List.mem_of_getElem? (i := 489) (by decide +kernel), List.mem_of_getElem? (i := 490) (by decide +kernel)⟩
theorem lw_p23 : lw_okq (⟨"ClassStarts$Reach", "lookThrough", "(LClassStarts$Kind;I)V"⟩, 4) := ⟨⟨by decide +kernel, by decide +kernel⟩, List.mem_of_getElem? (i := 77) (by decide +kernel), List.mem_of_getElem? (i := 493) (by decide +kernel), List.mem_of_getElem? (i := 494) (by decide +kernel)⟩
theorem lw_p24 : lw_okq (⟨"ClassStarts$Reach", "follow", "(LClassStarts$Method;)V"⟩, 4) := ⟨⟨by decide +kernel, by decide +kernel⟩, List.mem_of_getElem? (i := 77) (by decide +kernel), List.mem_of_getElem? (i := 497) (by decide +kernel), List.mem_of_getElem? (i := 498) (by decide +kernel)⟩
theorem lw_p25 : lw_okq (⟨"ClassStartsModel", "has", "(I)Z"⟩, 34) := ⟨⟨by decide +kernel, by decide +kernel⟩, List.mem_of_getElem? (i := 511) (by decide +kernel), List.mem_of_getElem? (i := 624) (by decide +kernel), List.mem_of_getElem? (i := 625) (by decide +kernel)⟩
theorem lw_p26 : lw_okq (⟨"ClassStartsModel", "make", "(ZZI)I"⟩, 34) := ⟨⟨by decide +kernel, by decide +kernel⟩, List.mem_of_getElem? (i := 511) (by decide +kernel), List.mem_of_getElem? (i := 628) (by decide +kernel), List.mem_of_getElem? (i := 629) (by decide +kernel)⟩
theorem lw_p27 : lw_okq (⟨"ClassStartsModel", "push", "(III)V"⟩, 34) := ⟨⟨by decide +kernel, by decide +kernel⟩, List.mem_of_getElem? (i := 511) (by decide +kernel), List.mem_of_getElem? (i := 658) (by decide +kernel), List.mem_of_getElem? (i := 659) (by decide +kernel)⟩
theorem lw_p28 : lw_okq (⟨"ClassStartsModel", "step", "()V"⟩, 34) := ⟨⟨by decide +kernel, by decide +kernel⟩, List.mem_of_getElem? (i := 511) (by decide +kernel), List.mem_of_getElem? (i := 662) (by decide +kernel), List.mem_of_getElem? (i := 663) (by decide +kernel)⟩
theorem lw_p29 : lw_okq (⟨"ClassStartsModel", "goOn", "(I)V"⟩, 34) := ⟨⟨by decide +kernel, by decide +kernel⟩, List.mem_of_getElem? (i := 511) (by decide +kernel), List.mem_of_getElem? (i := 666) (by decide +kernel), List.mem_of_getElem? (i := 667) (by decide +kernel)⟩
theorem lw_p30 : lw_okq (⟨"ClassStartsModel", "arise", "(I)I"⟩, 34) := ⟨⟨by decide +kernel, by decide +kernel⟩, List.mem_of_getElem? (i := 511) (by decide +kernel), List.mem_of_getElem? (i := 670) (by decide +kernel), List.mem_of_getElem? (i := 671) (by decide +kernel)⟩
theorem lw_p31 : lw_okq (⟨"ClassStartsModel", "wants", "(IIII)I"⟩, 34) := ⟨⟨by decide +kernel, by decide +kernel⟩, List.mem_of_getElem? (i := 511) (by decide +kernel), List.mem_of_getElem? (i := 674) (by decide +kernel), List.mem_of_getElem? (i := 675) (by decide +kernel)⟩
def lw_privs_2 : List (MethodName × Nat) := [(⟨"ClassStarts$Machine", "enter", "(LClassStarts$Kind;II)I"⟩, 1), (⟨"ClassStarts$Machine", "afterStart", "(I)I"⟩, 1), (⟨"ClassStarts$Reach", "clear", "()V"⟩, 4), (⟨"ClassStarts$Reach", "want", "(LClassStarts$Kind;)V"⟩, 4), (⟨"ClassStarts$Reach", "isWanted", "(LClassStarts$Kind;)Z"⟩, 4), (⟨"ClassStarts$Reach", "add", "(LClassStarts$Kind;)V"⟩, 4), (⟨"ClassStarts$Reach", "list", "(LClassStarts$Method;)V"⟩, 4), (⟨"ClassStarts$Reach", "lookThrough", "(LClassStarts$Kind;I)V"⟩, 4), (⟨"ClassStarts$Reach", "follow", "(LClassStarts$Method;)V"⟩, 4), (⟨"ClassStartsModel", "has", "(I)Z"⟩, 34), (⟨"ClassStartsModel", "make", "(ZZI)I"⟩, 34), (⟨"ClassStartsModel", "push", "(III)V"⟩, 34), (⟨"ClassStartsModel", "step", "()V"⟩, 34), (⟨"ClassStartsModel", "goOn", "(I)V"⟩, 34), (⟨"ClassStartsModel", "arise", "(I)I"⟩, 34), (⟨"ClassStartsModel", "wants", "(IIII)I"⟩, 34)]
theorem lw_r2 : ∀ q ∈ lw_privs_2, lw_okq q := List.forall_mem_cons.mpr ⟨lw_p16, List.forall_mem_cons.mpr ⟨lw_p17, List.forall_mem_cons.mpr ⟨lw_p18, List.forall_mem_cons.mpr ⟨lw_p19, List.forall_mem_cons.mpr ⟨lw_p20, List.forall_mem_cons.mpr ⟨lw_p21, List.forall_mem_cons.mpr ⟨lw_p22, List.forall_mem_cons.mpr ⟨lw_p23, List.forall_mem_cons.mpr ⟨lw_p24, List.forall_mem_cons.mpr ⟨lw_p25, List.forall_mem_cons.mpr ⟨lw_p26, List.forall_mem_cons.mpr ⟨lw_p27, List.forall_mem_cons.mpr ⟨lw_p28, List.forall_mem_cons.mpr ⟨lw_p29, List.forall_mem_cons.mpr ⟨lw_p30, List.forall_mem_cons.mpr ⟨lw_p31, fun _ h => absurd h List.not_mem_nil⟩⟩⟩⟩⟩⟩⟩⟩⟩⟩⟩⟩⟩⟩⟩⟩
theorem lw_p32 : lw_okq (⟨"ClassStartsModel", "want", "(I)V"⟩, 34) := ⟨⟨by decide +kernel, by decide +kernel⟩, List.mem_of_getElem? (i := 511) (by decide +kernel), List.mem_of_getElem? (i := 678) (by decide +kernel), List.mem_of_getElem? (i := 679) (by decide +kernel)⟩
theorem lw_p33 : lw_okq (⟨"ClassStartsModel", "tell", "(II)V"⟩, 34) := ⟨⟨by decide +kernel, by decide +kernel⟩, List.mem_of_getElem? (i := 511) (by decide +kernel), List.mem_of_getElem? (i := 682) (by decide +kernel), List.mem_of_getElem? (i := 683) (by decide +kernel)⟩
theorem lw_p34 : lw_okq (⟨"ClassStartsModel", "enter", "(II)V"⟩, 34) := ⟨⟨by decide +kernel, by decide +kernel⟩, List.mem_of_getElem? (i := 511) (by decide +kernel), List.mem_of_getElem? (i := 686) (by decide +kernel), List.mem_of_getElem? (i := 687) (by decide +kernel)⟩
theorem lw_p35 : lw_okq (⟨"ClassStartsModel", "doOne", "(IIIII)I"⟩, 34) := ⟨⟨by decide +kernel, by decide +kernel⟩, List.mem_of_getElem? (i := 511) (by decide +kernel), List.mem_of_getElem? (i := 690) (by decide +kernel), List.mem_of_getElem? (i := 691) (by decide +kernel)⟩
theorem lw_p36 : lw_okq (⟨"ClassStartsModel", "set", "(III)V"⟩, 34) := ⟨⟨by decide +kernel, by decide +kernel⟩, List.mem_of_getElem? (i := 511) (by decide +kernel), List.mem_of_getElem? (i := 694) (by decide +kernel), List.mem_of_getElem? (i := 695) (by decide +kernel)⟩
theorem lw_p37 : lw_okq (⟨"ClassStartsModel", "other", "(IIIII)I"⟩, 34) := ⟨⟨by decide +kernel, by decide +kernel⟩, List.mem_of_getElem? (i := 511) (by decide +kernel), List.mem_of_getElem? (i := 698) (by decide +kernel), List.mem_of_getElem? (i := 699) (by decide +kernel)⟩
theorem lw_p38 : lw_okq (⟨"ClassStartsModel", "get", "(II)I"⟩, 34) := ⟨⟨by decide +kernel, by decide +kernel⟩, List.mem_of_getElem? (i := 511) (by decide +kernel), List.mem_of_getElem? (i := 702) (by decide +kernel), List.mem_of_getElem? (i := 703) (by decide +kernel)⟩
theorem lw_p39 : lw_okq (⟨"ClassStartsModel", "newRow", "(II)I"⟩, 34) := ⟨⟨by decide +kernel, by decide +kernel⟩, List.mem_of_getElem? (i := 511) (by decide +kernel), List.mem_of_getElem? (i := 706) (by decide +kernel), List.mem_of_getElem? (i := 707) (by decide +kernel)⟩
theorem lw_p40 : lw_okq (⟨"ClassStartsModel", "inOut", "(IZII)I"⟩, 34) := ⟨⟨by decide +kernel, by decide +kernel⟩, List.mem_of_getElem? (i := 511) (by decide +kernel), List.mem_of_getElem? (i := 710) (by decide +kernel), List.mem_of_getElem? (i := 711) (by decide +kernel)⟩
theorem lw_p41 : lw_okq (⟨"ClassStartsModel", "look", "(II)V"⟩, 34) := ⟨⟨by decide +kernel, by decide +kernel⟩, List.mem_of_getElem? (i := 511) (by decide +kernel), List.mem_of_getElem? (i := 714) (by decide +kernel), List.mem_of_getElem? (i := 715) (by decide +kernel)⟩
theorem lw_p42 : lw_okq (⟨"ClassStartsModel", "fly", "()V"⟩, 34) := ⟨⟨by decide +kernel, by decide +kernel⟩, List.mem_of_getElem? (i := 511) (by decide +kernel), List.mem_of_getElem? (i := 718) (by decide +kernel), List.mem_of_getElem? (i := 719) (by decide +kernel)⟩
theorem lw_p43 : lw_okq (⟨"ClassStartsModel", "mayWant", "(I)V"⟩, 34) := ⟨⟨by decide +kernel, by decide +kernel⟩, List.mem_of_getElem? (i := 511) (by decide +kernel), List.mem_of_getElem? (i := 758) (by decide +kernel), List.mem_of_getElem? (i := 759) (by decide +kernel)⟩
theorem lw_p44 : lw_okq (⟨"ClassStartsModel", "mayLook", "(I)V"⟩, 34) := ⟨⟨by decide +kernel, by decide +kernel⟩, List.mem_of_getElem? (i := 511) (by decide +kernel), List.mem_of_getElem? (i := 762) (by decide +kernel), List.mem_of_getElem? (i := 763) (by decide +kernel)⟩
theorem lw_p45 : lw_okq (⟨"ClassStartsModel", "mayActs", "(I)V"⟩, 34) := ⟨⟨by decide +kernel, by decide +kernel⟩, List.mem_of_getElem? (i := 511) (by decide +kernel), List.mem_of_getElem? (i := 766) (by decide +kernel), List.mem_of_getElem? (i := 767) (by decide +kernel)⟩
def lw_privs_3 : List (MethodName × Nat) := [(⟨"ClassStartsModel", "want", "(I)V"⟩, 34), (⟨"ClassStartsModel", "tell", "(II)V"⟩, 34), (⟨"ClassStartsModel", "enter", "(II)V"⟩, 34), (⟨"ClassStartsModel", "doOne", "(IIIII)I"⟩, 34), (⟨"ClassStartsModel", "set", "(III)V"⟩, 34), (⟨"ClassStartsModel", "other", "(IIIII)I"⟩, 34), (⟨"ClassStartsModel", "get", "(II)I"⟩, 34), (⟨"ClassStartsModel", "newRow", "(II)I"⟩, 34), (⟨"ClassStartsModel", "inOut", "(IZII)I"⟩, 34), (⟨"ClassStartsModel", "look", "(II)V"⟩, 34), (⟨"ClassStartsModel", "fly", "()V"⟩, 34), (⟨"ClassStartsModel", "mayWant", "(I)V"⟩, 34), (⟨"ClassStartsModel", "mayLook", "(I)V"⟩, 34), (⟨"ClassStartsModel", "mayActs", "(I)V"⟩, 34)]
theorem lw_r3 : ∀ q ∈ lw_privs_3, lw_okq q := List.forall_mem_cons.mpr ⟨lw_p32, List.forall_mem_cons.mpr ⟨lw_p33, List.forall_mem_cons.mpr ⟨lw_p34, List.forall_mem_cons.mpr ⟨lw_p35, List.forall_mem_cons.mpr ⟨lw_p36, List.forall_mem_cons.mpr ⟨lw_p37, List.forall_mem_cons.mpr ⟨lw_p38, List.forall_mem_cons.mpr ⟨lw_p39, List.forall_mem_cons.mpr ⟨lw_p40, List.forall_mem_cons.mpr ⟨lw_p41, List.forall_mem_cons.mpr ⟨lw_p42, List.forall_mem_cons.mpr ⟨lw_p43, List.forall_mem_cons.mpr ⟨lw_p44, List.forall_mem_cons.mpr ⟨lw_p45, fun _ h => absurd h List.not_mem_nil⟩⟩⟩⟩⟩⟩⟩⟩⟩⟩⟩⟩⟩⟩
def lw_privs : List (MethodName × Nat) := lw_privs_1 ++ (lw_privs_2 ++ (lw_privs_3))
def lw_tbl : List Cond := k2_sels lw_privs ++ tables_1
theorem lw_privs_ok : ∀ q ∈ lw_privs, lw_okq q := by
  show ∀ q ∈ lw_privs_1 ++ (lw_privs_2 ++ (lw_privs_3)), lw_okq q
  exact List.forall_mem_append.mpr ⟨lw_r1, List.forall_mem_append.mpr ⟨lw_r2, lw_r3⟩⟩
end
section
/-! ===== BEGIN words of one list among another's, by their places ===== -/
theorem goodIn_r {big : List Cond} (ws : List Cond) (ps : List Nat) (hp : ws = ps.filterMap (fun i => big[i]?)) (h : ws.all goodWord = true) : GoodIn big ws := by
  intro w hw
  have h1 := List.all_eq_true.mp h w hw
  rw [hp] at hw
  obtain ⟨i, -, hi⟩ := List.mem_filterMap.mp hw
  have hm : w ∈ big := by first | exact List.mem_of_getElem? hi | exact List.getElem?_mem hi
  exact ⟨hm, good_of_word h1⟩
theorem goodIn_app {big a b : List Cond} (ha : GoodIn big a) (hb : GoodIn big b) : GoodIn big (a ++ b) := fun w h => (List.mem_append.mp h).elim (ha w) (hb w)
theorem goodIn_ca {big a b : List Cond} {c : Cond} (ha : GoodIn big (c :: a)) (hb : GoodIn big b) : GoodIn big (c :: (a ++ b)) := fun w h => (List.mem_cons.mp h).elim (fun e => ha w (List.mem_cons.mpr (Or.inl e))) (fun h => (List.mem_append.mp h).elim (fun h => ha w (List.mem_cons.mpr (Or.inr h))) (hb w))
theorem goodIn_sub {big ws : List Cond} (hm : ∀ w ∈ ws, w ∈ big) (h : ws.all goodWord = true) : GoodIn big ws := fun w hw => ⟨hm w hw, good_of_word (List.all_eq_true.mp h w hw)⟩
/-! ===== END ===== -/

/-! ===== BEGIN printed: names, fields, word lists, decode rows ===== -/
def RX0 : String := "ClassStarts$Act"
def TX0 : u_T := fun k => match k with
  | 0 => ("ClassStarts$Act", "sort", "I", true)
  | 1 => ("ClassStarts$Act", "other", "LClassStarts$Kind;", true)
  | 2 => ("ClassStarts$Act", "a", "I", true)
  | 3 => ("ClassStarts$Act", "b", "I", true)
  | 4 => ("ClassStarts$Act", "c", "I", true)
  | _ => ("ClassStarts$Act", "lastGuarded", "I", true)
def tyX0 : Nat → FieldType := fun k => match k with
  | 0 => .int
  | 1 => .object "ClassStarts$Kind"
  | 2 => .int
  | 3 => .int
  | 4 => .int
  | _ => .int
abbrev wsX00 : List Cond := u_ws RX0 TX0 6
theorem nmX0 : ∀ a, a < 6 → ∀ b, b < 6 → a ≠ b → (TX0 a).2.1 ≠ (TX0 b).2.1 := by decide +kernel
theorem tyX0_ok : ∀ k, k < 6 → parseFieldDescriptor (TX0 k).2.2.1 = some (tyX0 k) := by decide +kernel
abbrev cX0_init : ByteArray := prog_2_method_1_code
def yX0_init : MethodName := ⟨RX0, "<init>", "(ILClassStarts$Kind;IIII)V"⟩
abbrev cX0_numbersFit : ByteArray := prog_2_method_2_code
def yX0_numbersFit : MethodName := ⟨RX0, "numbersFit", "(IIII)Z"⟩
abbrev cX0_guards : ByteArray := prog_2_method_3_code
def yX0_guards : MethodName := ⟨RX0, "guards", "(I)Z"⟩
abbrev cX0_catches : ByteArray := prog_2_method_4_code
def yX0_catches : MethodName := ⟨RX0, "catches", "(I)Z"⟩
abbrev cX0_wants : ByteArray := prog_2_method_5_code
def yX0_wants : MethodName := ⟨RX0, "wants", "()Z"⟩
def RX1 : String := "ClassStarts$Journal"
def TX1 : u_T := fun k => match k with
  | 0 => ("ClassStarts$Journal", "sorts", "[I", true)
  | 1 => ("ClassStarts$Journal", "values", "[I", true)
  | 2 => ("ClassStarts$Journal", "events", "I", false)
  | 3 => ("ClassStarts$Journal", "halfSeen", "I", false)
  | 4 => ("ClassStarts$Journal", "acts", "I", false)
  | 5 => ("ClassStarts$Journal", "raised", "I", false)
  | 6 => ("ClassStarts$Journal", "ended", "I", false)
  | _ => ("ClassStarts$Journal", "startCause", "I", false)
def tyX1 : Nat → FieldType := fun k => match k with
  | 0 => .array .int
  | 1 => .array .int
  | 2 => .int
  | 3 => .int
  | 4 => .int
  | 5 => .int
  | 6 => .int
  | _ => .int
abbrev wsX10 : List Cond := u_ws RX1 TX1 8
theorem nmX1 : ∀ a, a < 8 → ∀ b, b < 8 → a ≠ b → (TX1 a).2.1 ≠ (TX1 b).2.1 := by decide +kernel
theorem tyX1_ok : ∀ k, k < 8 → parseFieldDescriptor (TX1 k).2.2.1 = some (tyX1 k) := by decide +kernel
abbrev cX1_init : ByteArray := prog_3_method_1_code
def yX1_init : MethodName := ⟨RX1, "<init>", "()V"⟩
abbrev cX1_clear : ByteArray := prog_3_method_2_code
def yX1_clear : MethodName := ⟨RX1, "clear", "()V"⟩
abbrev cX1_note : ByteArray := prog_3_method_3_code
def yX1_note : MethodName := ⟨RX1, "note", "(II)V"⟩
def RX2 : String := "ClassStarts$Kind"
def TX2 : u_T := fun k => match k with
  | 0 => ("ClassStarts$Kind", "number", "I", true)
  | 1 => ("ClassStarts$Kind", "isFace", "Z", true)
  | 2 => ("ClassStarts$Kind", "hasDefaults", "Z", true)
  | 3 => ("ClassStarts$Kind", "parent", "LClassStarts$Kind;", true)
  | 4 => ("ClassStarts$Kind", "faces", "[LClassStarts$Kind;", true)
  | 5 => ("ClassStarts$Kind", "faceCount", "I", false)
  | 6 => ("ClassStarts$Kind", "fields", "[I", true)
  | 7 => ("ClassStarts$Kind", "constants", "[Z", true)
  | 8 => ("ClassStarts$Kind", "row", "[I", true)
  | 9 => ("ClassStarts$Kind", "items", "I", false)
  | 10 => ("ClassStarts$Kind", "methods", "[LClassStarts$Method;", true)
  | _ => ("ClassStarts$Kind", "state", "I", false)
def tyX2 : Nat → FieldType := fun k => match k with
  | 0 => .int
  | 1 => .boolean
  | 2 => .boolean
  | 3 => .object "ClassStarts$Kind"
  | 4 => .array (.object "ClassStarts$Kind")
  | 5 => .int
  | 6 => .array .int
  | 7 => .array .boolean
  | 8 => .array .int
  | 9 => .int
  | 10 => .array (.object "ClassStarts$Method")
  | _ => .int
abbrev wsX20 : List Cond := u_ws RX2 TX2 12
theorem nmX2 : ∀ a, a < 12 → ∀ b, b < 12 → a ≠ b → (TX2 a).2.1 ≠ (TX2 b).2.1 := by decide +kernel
theorem tyX2_ok : ∀ k, k < 12 → parseFieldDescriptor (TX2 k).2.2.1 = some (tyX2 k) := by decide +kernel
abbrev cX2_init : ByteArray := prog_4_method_1_code
def yX2_init : MethodName := ⟨RX2, "<init>", "(IZZLClassStarts$Kind;)V"⟩
abbrev cX2_isField : ByteArray := prog_4_method_2_code
def yX2_isField : MethodName := ⟨RX2, "isField", "(I)Z"⟩
abbrev cX2_isMethod : ByteArray := prog_4_method_3_code
def yX2_isMethod : MethodName := ⟨RX2, "isMethod", "(I)Z"⟩
abbrev cX2_isCallable : ByteArray := prog_4_method_4_code
def yX2_isCallable : MethodName := ⟨RX2, "isCallable", "(I)Z"⟩
abbrev cX2_bit : ByteArray := prog_4_method_5_code
def yX2_bit : MethodName := ⟨RX2, "bit", "()I"⟩
abbrev cX2_hasFace : ByteArray := prog_4_method_6_code
def yX2_hasFace : MethodName := ⟨RX2, "hasFace", "(I)Z"⟩
abbrev cX2_addFace : ByteArray := prog_4_method_7_code
def yX2_addFace : MethodName := ⟨RX2, "addFace", "(LClassStarts$Kind;)I"⟩
abbrev cX2_isConstant : ByteArray := prog_4_method_8_code
def yX2_isConstant : MethodName := ⟨RX2, "isConstant", "(I)Z"⟩
abbrev cX2_fix : ByteArray := prog_4_method_9_code
def yX2_fix : MethodName := ⟨RX2, "fix", "(II)V"⟩
abbrev cX2_valueOf : ByteArray := prog_4_method_10_code
def yX2_valueOf : MethodName := ⟨RX2, "valueOf", "(I)I"⟩
abbrev cX2_change : ByteArray := prog_4_method_11_code
def yX2_change : MethodName := ⟨RX2, "change", "(II)V"⟩
abbrev cX2_makeRow : ByteArray := prog_4_method_12_code
def yX2_makeRow : MethodName := ⟨RX2, "makeRow", "(I)V"⟩
abbrev cX2_dropRow : ByteArray := prog_4_method_13_code
def yX2_dropRow : MethodName := ⟨RX2, "dropRow", "()V"⟩
abbrev cX2_hasItem : ByteArray := prog_4_method_14_code
def yX2_hasItem : MethodName := ⟨RX2, "hasItem", "(I)Z"⟩
abbrev cX2_reset : ByteArray := prog_4_method_15_code
def yX2_reset : MethodName := ⟨RX2, "reset", "()V"⟩
def RX3 : String := "ClassStarts$Machine"
def TX3 : u_T := fun k => match k with
  | _ => ("ClassStarts$Machine", "journal", "LClassStarts$Journal;", true)
def tyX3 : Nat → FieldType := fun k => match k with
  | _ => .object "ClassStarts$Journal"
abbrev wsX30 : List Cond := u_ws RX3 TX3 1
theorem nmX3 : ∀ a, a < 1 → ∀ b, b < 1 → a ≠ b → (TX3 a).2.1 ≠ (TX3 b).2.1 := by decide +kernel
theorem tyX3_ok : ∀ k, k < 1 → parseFieldDescriptor (TX3 k).2.2.1 = some (tyX3 k) := by decide +kernel
abbrev cX3_init : ByteArray := prog_5_method_1_code
def yX3_init : MethodName := ⟨RX3, "<init>", "()V"⟩
abbrev cX3_execute : ByteArray := prog_5_method_2_code
def yX3_execute : MethodName := ⟨RX3, "execute", "(LClassStarts$Kind;I)I"⟩
abbrev cX3_raise : ByteArray := prog_5_method_3_code
def yX3_raise : MethodName := ⟨RX3, "raise", "(I)I"⟩
abbrev cX3_want : ByteArray := prog_5_method_4_code
def yX3_want : MethodName := ⟨RX3, "want", "(LClassStarts$Kind;I)I"⟩
abbrev cX3_start : ByteArray := prog_5_method_5_code
def yX3_start : MethodName := ⟨RX3, "start", "(LClassStarts$Kind;I)I"⟩
abbrev cX3_afterStart : ByteArray := prog_5_method_6_code
def yX3_afterStart : MethodName := ⟨RX3, "afterStart", "(I)I"⟩
abbrev cX3_lookThrough : ByteArray := prog_5_method_7_code
def yX3_lookThrough : MethodName := ⟨RX3, "lookThrough", "(LClassStarts$Kind;II)I"⟩
abbrev cX3_work : ByteArray := prog_5_method_8_code
def yX3_work : MethodName := ⟨RX3, "work", "(LClassStarts$Kind;II)I"⟩
abbrev cX3_begin : ByteArray := prog_5_method_9_code
def yX3_begin : MethodName := ⟨RX3, "begin", "(LClassStarts$Kind;LClassStarts$Act;I)I"⟩
abbrev cX3_perform : ByteArray := prog_5_method_10_code
def yX3_perform : MethodName := ⟨RX3, "perform", "(LClassStarts$Kind;LClassStarts$Act;I)I"⟩
abbrev cX3_readOther : ByteArray := prog_5_method_11_code
def yX3_readOther : MethodName := ⟨RX3, "readOther", "(LClassStarts$Kind;LClassStarts$Act;)I"⟩
abbrev cX3_divide : ByteArray := prog_5_method_12_code
def yX3_divide : MethodName := ⟨RX3, "divide", "(LClassStarts$Kind;II)I"⟩
abbrev cX3_makeRow : ByteArray := prog_5_method_13_code
def yX3_makeRow : MethodName := ⟨RX3, "makeRow", "(LClassStarts$Kind;I)I"⟩
abbrev cX3_putItem : ByteArray := prog_5_method_14_code
def yX3_putItem : MethodName := ⟨RX3, "putItem", "(LClassStarts$Kind;II)I"⟩
abbrev cX3_takeItem : ByteArray := prog_5_method_15_code
def yX3_takeItem : MethodName := ⟨RX3, "takeItem", "(LClassStarts$Kind;II)I"⟩
abbrev cX3_enter : ByteArray := prog_5_method_16_code
def yX3_enter : MethodName := ⟨RX3, "enter", "(LClassStarts$Kind;II)I"⟩
def RX4 : String := "ClassStarts$Method"
def TX4 : u_T := fun k => match k with
  | 0 => ("ClassStarts$Method", "number", "I", true)
  | 1 => ("ClassStarts$Method", "acts", "[LClassStarts$Act;", true)
  | _ => ("ClassStarts$Method", "size", "I", false)
def tyX4 : Nat → FieldType := fun k => match k with
  | 0 => .int
  | 1 => .array (.object "ClassStarts$Act")
  | _ => .int
abbrev wsX40 : List Cond := u_ws RX4 TX4 3
theorem nmX4 : ∀ a, a < 3 → ∀ b, b < 3 → a ≠ b → (TX4 a).2.1 ≠ (TX4 b).2.1 := by decide +kernel
theorem tyX4_ok : ∀ k, k < 3 → parseFieldDescriptor (TX4 k).2.2.1 = some (tyX4 k) := by decide +kernel
abbrev cX4_init : ByteArray := prog_6_method_1_code
def yX4_init : MethodName := ⟨RX4, "<init>", "(I)V"⟩
abbrev cX4_append : ByteArray := prog_6_method_2_code
def yX4_append : MethodName := ⟨RX4, "append", "(ILClassStarts$Kind;III)I"⟩
abbrev cX4_lastGuarded : ByteArray := prog_6_method_3_code
def yX4_lastGuarded : MethodName := ⟨RX4, "lastGuarded", "(I)I"⟩
abbrev cX4_endOfCatch : ByteArray := prog_6_method_4_code
def yX4_endOfCatch : MethodName := ⟨RX4, "endOfCatch", "(II)I"⟩
def RX5 : String := "ClassStarts$Reach"
def TX5 : u_T := fun k => match k with
  | 0 => ("ClassStarts$Reach", "wanted", "I", false)
  | 1 => ("ClassStarts$Reach", "listed", "J", false)
  | 2 => ("ClassStarts$Reach", "methods", "[LClassStarts$Method;", true)
  | _ => ("ClassStarts$Reach", "size", "I", false)
def tyX5 : Nat → FieldType := fun k => match k with
  | 0 => .int
  | 1 => .long
  | 2 => .array (.object "ClassStarts$Method")
  | _ => .int
abbrev wsX50 : List Cond := u_ws RX5 TX5 4
theorem nmX5 : ∀ a, a < 4 → ∀ b, b < 4 → a ≠ b → (TX5 a).2.1 ≠ (TX5 b).2.1 := by decide +kernel
theorem tyX5_ok : ∀ k, k < 4 → parseFieldDescriptor (TX5 k).2.2.1 = some (tyX5 k) := by decide +kernel
abbrev cX5_init : ByteArray := prog_7_method_1_code
def yX5_init : MethodName := ⟨RX5, "<init>", "()V"⟩
abbrev cX5_ofMethod : ByteArray := prog_7_method_2_code
def yX5_ofMethod : MethodName := ⟨RX5, "ofMethod", "(LClassStarts$Kind;I)I"⟩
abbrev cX5_ofStart : ByteArray := prog_7_method_3_code
def yX5_ofStart : MethodName := ⟨RX5, "ofStart", "(LClassStarts$Kind;)I"⟩
abbrev cX5_clear : ByteArray := prog_7_method_4_code
def yX5_clear : MethodName := ⟨RX5, "clear", "()V"⟩
abbrev cX5_follow : ByteArray := prog_7_method_5_code
def yX5_follow : MethodName := ⟨RX5, "follow", "(LClassStarts$Method;)V"⟩
abbrev cX5_want : ByteArray := prog_7_method_6_code
def yX5_want : MethodName := ⟨RX5, "want", "(LClassStarts$Kind;)V"⟩
abbrev cX5_lookThrough : ByteArray := prog_7_method_7_code
def yX5_lookThrough : MethodName := ⟨RX5, "lookThrough", "(LClassStarts$Kind;I)V"⟩
abbrev cX5_isWanted : ByteArray := prog_7_method_8_code
def yX5_isWanted : MethodName := ⟨RX5, "isWanted", "(LClassStarts$Kind;)Z"⟩
abbrev cX5_add : ByteArray := prog_7_method_9_code
def yX5_add : MethodName := ⟨RX5, "add", "(LClassStarts$Kind;)V"⟩
abbrev cX5_list : ByteArray := prog_7_method_10_code
def yX5_list : MethodName := ⟨RX5, "list", "(LClassStarts$Method;)V"⟩
def RX6 : String := "ClassStarts"
def TX6 : u_T := fun k => match k with
  | 0 => ("ClassStarts", "kinds", "[LClassStarts$Kind;", true)
  | 1 => ("ClassStarts", "size", "I", false)
  | 2 => ("ClassStarts", "machine", "LClassStarts$Machine;", true)
  | _ => ("ClassStarts", "reach", "LClassStarts$Reach;", true)
def tyX6 : Nat → FieldType := fun k => match k with
  | 0 => .array (.object "ClassStarts$Kind")
  | 1 => .int
  | 2 => .object "ClassStarts$Machine"
  | _ => .object "ClassStarts$Reach"
abbrev wsX60 : List Cond := u_ws RX6 TX6 4
theorem nmX6 : ∀ a, a < 4 → ∀ b, b < 4 → a ≠ b → (TX6 a).2.1 ≠ (TX6 b).2.1 := by decide +kernel
theorem tyX6_ok : ∀ k, k < 4 → parseFieldDescriptor (TX6 k).2.2.1 = some (tyX6 k) := by decide +kernel
abbrev cX6_init : ByteArray := prog_1_method_1_code
def yX6_init : MethodName := ⟨RX6, "<init>", "()V"⟩
abbrev cX6_made : ByteArray := prog_1_method_2_code
def yX6_made : MethodName := ⟨RX6, "made", "(I)I"⟩
abbrev cX6_face : ByteArray := prog_1_method_3_code
def yX6_face : MethodName := ⟨RX6, "face", "(Z)I"⟩
abbrev cX6_bears : ByteArray := prog_1_method_4_code
def yX6_bears : MethodName := ⟨RX6, "bears", "(II)I"⟩
abbrev cX6_constant : ByteArray := prog_1_method_5_code
def yX6_constant : MethodName := ⟨RX6, "constant", "(III)I"⟩
abbrev cX6_act : ByteArray := prog_1_method_6_code
def yX6_act : MethodName := ⟨RX6, "act", "(IIIIII)I"⟩
abbrev cX6_run : ByteArray := prog_1_method_7_code
def yX6_run : MethodName := ⟨RX6, "run", "(II)I"⟩
abbrev cX6_cause : ByteArray := prog_1_method_8_code
def yX6_cause : MethodName := ⟨RX6, "cause", "()I"⟩
abbrev cX6_count : ByteArray := prog_1_method_9_code
def yX6_count : MethodName := ⟨RX6, "count", "(I)I"⟩
abbrev cX6_event : ByteArray := prog_1_method_10_code
def yX6_event : MethodName := ⟨RX6, "event", "(II)I"⟩
abbrev cX6_state : ByteArray := prog_1_method_11_code
def yX6_state : MethodName := ⟨RX6, "state", "(I)I"⟩
abbrev cX6_field : ByteArray := prog_1_method_12_code
def yX6_field : MethodName := ⟨RX6, "field", "(II)I"⟩
abbrev cX6_row : ByteArray := prog_1_method_13_code
def yX6_row : MethodName := ⟨RX6, "row", "(I)I"⟩
abbrev cX6_item : ByteArray := prog_1_method_14_code
def yX6_item : MethodName := ⟨RX6, "item", "(II)I"⟩
abbrev cX6_again : ByteArray := prog_1_method_15_code
def yX6_again : MethodName := ⟨RX6, "again", "()I"⟩
abbrev cX6_may : ByteArray := prog_1_method_16_code
def yX6_may : MethodName := ⟨RX6, "may", "(II)I"⟩
abbrev cX6_ahead : ByteArray := prog_1_method_17_code
def yX6_ahead : MethodName := ⟨RX6, "ahead", "(II)I"⟩
abbrev cX6_find : ByteArray := prog_1_method_18_code
def yX6_find : MethodName := ⟨RX6, "find", "(I)LClassStarts$Kind;"⟩
abbrev cX6_keep : ByteArray := prog_1_method_19_code
def yX6_keep : MethodName := ⟨RX6, "keep", "(ZZLClassStarts$Kind;)I"⟩
abbrev cX6_named : ByteArray := prog_1_method_20_code
def yX6_named : MethodName := ⟨RX6, "named", "(LClassStarts$Kind;III)LClassStarts$Kind;"⟩
def RX7 : String := "ClassStartsModel"
def TX7 : u_T := fun k => match k with
  | 0 => ("ClassStartsModel", "many", "I", false)
  | 1 => ("ClassStartsModel", "isFace", "[Z", true)
  | 2 => ("ClassStartsModel", "hasDefaults", "[Z", true)
  | 3 => ("ClassStartsModel", "parent", "[I", true)
  | 4 => ("ClassStartsModel", "faces", "[I", true)
  | 5 => ("ClassStartsModel", "faceOf", "[I", true)
  | 6 => ("ClassStartsModel", "value", "[I", true)
  | 7 => ("ClassStartsModel", "isConstant", "[Z", true)
  | 8 => ("ClassStartsModel", "rowSize", "[I", true)
  | 9 => ("ClassStartsModel", "rowItem", "[I", true)
  | 10 => ("ClassStartsModel", "acts", "[I", true)
  | 11 => ("ClassStartsModel", "actOf", "[I", true)
  | 12 => ("ClassStartsModel", "state", "[I", true)
  | 13 => ("ClassStartsModel", "events", "I", false)
  | 14 => ("ClassStartsModel", "eventSort", "[I", true)
  | 15 => ("ClassStartsModel", "eventOf", "[I", true)
  | 16 => ("ClassStartsModel", "half", "I", false)
  | 17 => ("ClassStartsModel", "worked", "I", false)
  | 18 => ("ClassStartsModel", "thrown", "I", false)
  | 19 => ("ClassStartsModel", "causeNow", "I", false)
  | 20 => ("ClassStartsModel", "causeTold", "I", false)
  | 21 => ("ClassStartsModel", "within", "I", false)
  | 22 => ("ClassStartsModel", "frames", "I", false)
  | 23 => ("ClassStartsModel", "sort", "[I", true)
  | 24 => ("ClassStartsModel", "one", "[I", true)
  | 25 => ("ClassStartsModel", "two", "[I", true)
  | 26 => ("ClassStartsModel", "three", "[I", true)
  | 27 => ("ClassStartsModel", "stage", "[I", true)
  | 28 => ("ClassStartsModel", "guards", "[I", true)
  | 29 => ("ClassStartsModel", "guardEnd", "[I", true)
  | 30 => ("ClassStartsModel", "guardBy", "[I", true)
  | 31 => ("ClassStartsModel", "flying", "I", false)
  | 32 => ("ClassStartsModel", "wanted", "I", false)
  | _ => ("ClassStartsModel", "mayWork", "[Z", true)
def tyX7 : Nat → FieldType := fun k => match k with
  | 0 => .int
  | 1 => .array .boolean
  | 2 => .array .boolean
  | 3 => .array .int
  | 4 => .array .int
  | 5 => .array .int
  | 6 => .array .int
  | 7 => .array .boolean
  | 8 => .array .int
  | 9 => .array .int
  | 10 => .array .int
  | 11 => .array .int
  | 12 => .array .int
  | 13 => .int
  | 14 => .array .int
  | 15 => .array .int
  | 16 => .int
  | 17 => .int
  | 18 => .int
  | 19 => .int
  | 20 => .int
  | 21 => .int
  | 22 => .int
  | 23 => .array .int
  | 24 => .array .int
  | 25 => .array .int
  | 26 => .array .int
  | 27 => .array .int
  | 28 => .array .int
  | 29 => .array .int
  | 30 => .array .int
  | 31 => .int
  | 32 => .int
  | _ => .array .boolean
abbrev wsX70 : List Cond := u_ws RX7 TX7 34
theorem nmX7 : ∀ a, a < 34 → ∀ b, b < 34 → a ≠ b → (TX7 a).2.1 ≠ (TX7 b).2.1 := by decide +kernel
theorem tyX7_ok : ∀ k, k < 34 → parseFieldDescriptor (TX7 k).2.2.1 = some (tyX7 k) := by decide +kernel
abbrev cX7_init : ByteArray := prog_9_method_1_code
def yX7_init : MethodName := ⟨RX7, "<init>", "()V"⟩
abbrev cX7_has : ByteArray := prog_9_method_3_code
def yX7_has : MethodName := ⟨RX7, "has", "(I)Z"⟩
abbrev cX7_make : ByteArray := prog_9_method_4_code
def yX7_make : MethodName := ⟨RX7, "make", "(ZZI)I"⟩
abbrev cX7_made : ByteArray := prog_9_method_5_code
def yX7_made : MethodName := ⟨RX7, "made", "(I)I"⟩
abbrev cX7_face : ByteArray := prog_9_method_6_code
def yX7_face : MethodName := ⟨RX7, "face", "(Z)I"⟩
abbrev cX7_bears : ByteArray := prog_9_method_7_code
def yX7_bears : MethodName := ⟨RX7, "bears", "(II)I"⟩
abbrev cX7_isField : ByteArray := prog_9_method_8_code
def yX7_isField : MethodName := ⟨RX7, "isField", "(I)Z"⟩
abbrev cX7_constant : ByteArray := prog_9_method_9_code
def yX7_constant : MethodName := ⟨RX7, "constant", "(III)I"⟩
abbrev cX7_areIn : ByteArray := prog_9_method_10_code
def yX7_areIn : MethodName := ⟨RX7, "areIn", "(IIII)Z"⟩
abbrev cX7_act : ByteArray := prog_9_method_11_code
def yX7_act : MethodName := ⟨RX7, "act", "(IIIIII)I"⟩
abbrev cX7_tell : ByteArray := prog_9_method_12_code
def yX7_tell : MethodName := ⟨RX7, "tell", "(II)V"⟩
abbrev cX7_arise : ByteArray := prog_9_method_13_code
def yX7_arise : MethodName := ⟨RX7, "arise", "(I)I"⟩
abbrev cX7_push : ByteArray := prog_9_method_14_code
def yX7_push : MethodName := ⟨RX7, "push", "(III)V"⟩
abbrev cX7_want : ByteArray := prog_9_method_15_code
def yX7_want : MethodName := ⟨RX7, "want", "(I)V"⟩
abbrev cX7_enter : ByteArray := prog_9_method_16_code
def yX7_enter : MethodName := ⟨RX7, "enter", "(II)V"⟩
abbrev cX7_step : ByteArray := prog_9_method_17_code
def yX7_step : MethodName := ⟨RX7, "step", "()V"⟩
abbrev cX7_look : ByteArray := prog_9_method_18_code
def yX7_look : MethodName := ⟨RX7, "look", "(II)V"⟩
abbrev cX7_fly : ByteArray := prog_9_method_19_code
def yX7_fly : MethodName := ⟨RX7, "fly", "()V"⟩
abbrev cX7_goOn : ByteArray := prog_9_method_20_code
def yX7_goOn : MethodName := ⟨RX7, "goOn", "(I)V"⟩
abbrev cX7_wants : ByteArray := prog_9_method_21_code
def yX7_wants : MethodName := ⟨RX7, "wants", "(IIII)I"⟩
abbrev cX7_set : ByteArray := prog_9_method_22_code
def yX7_set : MethodName := ⟨RX7, "set", "(III)V"⟩
abbrev cX7_get : ByteArray := prog_9_method_23_code
def yX7_get : MethodName := ⟨RX7, "get", "(II)I"⟩
abbrev cX7_doOne : ByteArray := prog_9_method_24_code
def yX7_doOne : MethodName := ⟨RX7, "doOne", "(IIIII)I"⟩
abbrev cX7_other : ByteArray := prog_9_method_25_code
def yX7_other : MethodName := ⟨RX7, "other", "(IIIII)I"⟩
abbrev cX7_newRow : ByteArray := prog_9_method_26_code
def yX7_newRow : MethodName := ⟨RX7, "newRow", "(II)I"⟩
abbrev cX7_inOut : ByteArray := prog_9_method_27_code
def yX7_inOut : MethodName := ⟨RX7, "inOut", "(IZII)I"⟩
abbrev cX7_run : ByteArray := prog_9_method_28_code
def yX7_run : MethodName := ⟨RX7, "run", "(II)I"⟩
abbrev cX7_cause : ByteArray := prog_9_method_29_code
def yX7_cause : MethodName := ⟨RX7, "cause", "()I"⟩
abbrev cX7_count : ByteArray := prog_9_method_30_code
def yX7_count : MethodName := ⟨RX7, "count", "(I)I"⟩
abbrev cX7_event : ByteArray := prog_9_method_31_code
def yX7_event : MethodName := ⟨RX7, "event", "(II)I"⟩
abbrev cX7_state : ByteArray := prog_9_method_32_code
def yX7_state : MethodName := ⟨RX7, "state", "(I)I"⟩
abbrev cX7_field : ByteArray := prog_9_method_33_code
def yX7_field : MethodName := ⟨RX7, "field", "(II)I"⟩
abbrev cX7_row : ByteArray := prog_9_method_34_code
def yX7_row : MethodName := ⟨RX7, "row", "(I)I"⟩
abbrev cX7_item : ByteArray := prog_9_method_35_code
def yX7_item : MethodName := ⟨RX7, "item", "(II)I"⟩
abbrev cX7_again : ByteArray := prog_9_method_36_code
def yX7_again : MethodName := ⟨RX7, "again", "()I"⟩
abbrev cX7_mayWant : ByteArray := prog_9_method_37_code
def yX7_mayWant : MethodName := ⟨RX7, "mayWant", "(I)V"⟩
abbrev cX7_mayLook : ByteArray := prog_9_method_38_code
def yX7_mayLook : MethodName := ⟨RX7, "mayLook", "(I)V"⟩
abbrev cX7_may : ByteArray := prog_9_method_39_code
def yX7_may : MethodName := ⟨RX7, "may", "(II)I"⟩
abbrev cX7_mayActs : ByteArray := prog_9_method_40_code
def yX7_mayActs : MethodName := ⟨RX7, "mayActs", "(I)V"⟩
abbrev cX7_ahead : ByteArray := prog_9_method_41_code
def yX7_ahead : MethodName := ⟨RX7, "ahead", "(II)I"⟩
def RJ9 : String := "java/lang/Math"
def TJ9 : u_T := fun k => match k with
  | _ => ("", "", "", false)
def tyJ9 : Nat → FieldType := fun k => match k with
  | _ => .int
abbrev wsJ90 : List Cond := u_ws RJ9 TJ9 0
theorem nmJ9 : ∀ a, a < 0 → ∀ b, b < 0 → a ≠ b → (TJ9 a).2.1 ≠ (TJ9 b).2.1 := by decide +kernel
theorem tyJ9_ok : ∀ k, k < 0 → parseFieldDescriptor (TJ9 k).2.2.1 = some (tyJ9 k) := by decide +kernel
abbrev cJ9_max_7cf53 : ByteArray := prog_10_method_65_code
def yJ9_max_7cf53 : MethodName := ⟨RJ9, "max", "(II)I"⟩
abbrev cJ9_min_7cf53 : ByteArray := prog_10_method_69_code
def yJ9_min_7cf53 : MethodName := ⟨RJ9, "min", "(II)I"⟩
def RL : String := "ClassStartsLaw"
abbrev cL_law : ByteArray := code
def yL_law : MethodName := ⟨RL, "law", "([I)Z"⟩
abbrev vwCl : List vw_C := [(RX0, TX0, 6), (RX1, TX1, 8), (RX2, TX2, 12), (RX3, TX3, 1), (RX4, TX4, 3), (RX5, TX5, 4), (RX6, TX6, 4), (RX7, TX7, 34)]
end
section
/-! the words that are kept over calls, out of the tables, by name -/
def gwA : List Cond := lw_tbl.filter goodWord
theorem gWA : GoodIn gwA gwA := fun w h => ⟨h, good_of_word (List.mem_filter.mp h).2⟩
theorem gWL : ∀ w ∈ gwA, w ∈ lw_tbl := fun _ h => (List.mem_filter.mp h).1
theorem gw_in {w : Cond} (h : w ∈ lw_tbl) (g : goodWord w = true) : w ∈ gwA := List.mem_filter.mpr ⟨h, g⟩
theorem mt_1 : ∀ w ∈ tables_1_1, w ∈ lw_tbl := fun _ h => List.mem_append_right _ (List.mem_append_left _ h)
theorem mt_2 : ∀ w ∈ tables_1_2, w ∈ lw_tbl := fun _ h => List.mem_append_right _ (List.mem_append_right _ (List.mem_append_left _ h))
theorem mt_3 : ∀ w ∈ tables_1_3, w ∈ lw_tbl := fun _ h => List.mem_append_right _ (List.mem_append_right _ (List.mem_append_right _ (List.mem_append_left _ h)))
theorem mt_4 : ∀ w ∈ tables_1_4, w ∈ lw_tbl := fun _ h => List.mem_append_right _ (List.mem_append_right _ (List.mem_append_right _ (List.mem_append_right _ h)))
theorem mp_1 : ∀ q ∈ lw_privs_1, Cond.selects q.1.cls q.1 q.1 ∈ lw_tbl := fun _ h => List.mem_append_left _ (List.mem_map.mpr ⟨_, (List.mem_append_left _ h), rfl⟩)
theorem mp_2 : ∀ q ∈ lw_privs_2, Cond.selects q.1.cls q.1 q.1 ∈ lw_tbl := fun _ h => List.mem_append_left _ (List.mem_map.mpr ⟨_, (List.mem_append_right _ (List.mem_append_left _ h)), rfl⟩)
theorem mp_3 : ∀ q ∈ lw_privs_3, Cond.selects q.1.cls q.1 q.1 ∈ lw_tbl := fun _ h => List.mem_append_left _ (List.mem_map.mpr ⟨_, (List.mem_append_right _ (List.mem_append_right _ h)), rfl⟩)
theorem kl_L_7 : Cond.classLink RL 7 RX6 ∈ gwA := gw_in (mt_1 _ (List.mem_of_getElem? (i := 10) rfl)) rfl
theorem ia_X6 : Cond.instantiable RX6 4 ∈ gwA := gw_in (mt_1 _ (List.mem_of_getElem? (i := 11) rfl)) rfl
theorem in_X6 : Cond.initialized RX6 ∈ gwA := gw_in (mt_1 _ (List.mem_of_getElem? (i := 1) rfl)) rfl
theorem kl_L_10 : Cond.classLink RL 10 RX7 ∈ gwA := gw_in (mt_3 _ (List.mem_of_getElem? (i := 30) rfl)) rfl
theorem ia_X7 : Cond.instantiable RX7 34 ∈ gwA := gw_in (mt_3 _ (List.mem_of_getElem? (i := 31) rfl)) rfl
theorem in_X7 : Cond.initialized RX7 ∈ gwA := gw_in (mt_1 _ (List.mem_of_getElem? (i := 5) rfl)) rfl
theorem ml_L_9 : Cond.methodLink RL 9 yX6_init ∈ gwA := gw_in (mt_1 _ (List.mem_of_getElem? (i := 12) rfl)) rfl
theorem im_X6_init : Cond.instanceMethod yX6_init ∈ gwA := gw_in (mt_1 _ (List.mem_of_getElem? (i := 13) rfl)) rfl
theorem co_X6_init : Cond.code yX6_init cX6_init 1 none ∈ gwA := gw_in (mt_1 _ (List.mem_of_getElem? (i := 14) rfl)) rfl
theorem ml_X6_1 : Cond.methodLink RX6 1 objectInit ∈ gwA := gw_in (mt_1 _ (List.mem_of_getElem? (i := 15) rfl)) rfl
theorem im_objectInit : Cond.instanceMethod objectInit ∈ gwA := gw_in (mt_1 _ (List.mem_of_getElem? (i := 16) rfl)) rfl
theorem co_objectInit : Cond.code objectInit ⟨#[0xb1]⟩ 1 none ∈ gwA := gw_in (mt_1 _ (List.mem_of_getElem? (i := 17) rfl)) rfl
theorem kl_X6_9 : Cond.classLink RX6 9 RX2 ∈ gwA := gw_in (mt_1 _ (List.mem_of_getElem? (i := 18) rfl)) rfl
theorem fl_X6_11 : Cond.fieldLink RX6 11 "ClassStarts" "kinds" "[LClassStarts$Kind;" ∈ gwA := gw_in (mt_1 _ (List.mem_of_getElem? (i := 97) rfl)) rfl
theorem fl_X6_15 : Cond.fieldLink RX6 15 "ClassStarts" "size" "I" ∈ gwA := gw_in (mt_1 _ (List.mem_of_getElem? (i := 98) rfl)) rfl
theorem kl_X6_19 : Cond.classLink RX6 19 RX3 ∈ gwA := gw_in (mt_1 _ (List.mem_of_getElem? (i := 20) rfl)) rfl
theorem ia_X3 : Cond.instantiable RX3 1 ∈ gwA := gw_in (mt_1 _ (List.mem_of_getElem? (i := 21) rfl)) rfl
theorem in_X3 : Cond.initialized RX3 ∈ gwA := gw_in (mt_1 _ (List.mem_of_getElem? (i := 2) rfl)) rfl
theorem fl_X6_22 : Cond.fieldLink RX6 22 "ClassStarts" "machine" "LClassStarts$Machine;" ∈ gwA := gw_in (mt_1 _ (List.mem_of_getElem? (i := 99) rfl)) rfl
theorem kl_X6_26 : Cond.classLink RX6 26 RX5 ∈ gwA := gw_in (mt_1 _ (List.mem_of_getElem? (i := 76) rfl)) rfl
theorem ia_X5 : Cond.instantiable RX5 4 ∈ gwA := gw_in (mt_1 _ (List.mem_of_getElem? (i := 77) rfl)) rfl
theorem in_X5 : Cond.initialized RX5 ∈ gwA := gw_in (mt_1 _ (List.mem_of_getElem? (i := 4) rfl)) rfl
theorem fl_X6_29 : Cond.fieldLink RX6 29 "ClassStarts" "reach" "LClassStarts$Reach;" ∈ gwA := gw_in (mt_1 _ (List.mem_of_getElem? (i := 100) rfl)) rfl
theorem im_X3_init : Cond.instanceMethod yX3_init ∈ gwA := gw_in (mt_1 _ (List.mem_of_getElem? (i := 23) rfl)) rfl
theorem co_X3_init : Cond.code yX3_init cX3_init 1 none ∈ gwA := gw_in (mt_1 _ (List.mem_of_getElem? (i := 24) rfl)) rfl
theorem ml_X3_3 : Cond.methodLink RX3 3 objectInit ∈ gwA := gw_in (mt_1 _ (List.mem_of_getElem? (i := 25) rfl)) rfl
theorem kl_X3_9 : Cond.classLink RX3 9 RX1 ∈ gwA := gw_in (mt_1 _ (List.mem_of_getElem? (i := 26) rfl)) rfl
theorem ia_X1 : Cond.instantiable RX1 8 ∈ gwA := gw_in (mt_1 _ (List.mem_of_getElem? (i := 27) rfl)) rfl
theorem in_X1 : Cond.initialized RX1 ∈ gwA := gw_in (mt_1 _ (List.mem_of_getElem? (i := 3) rfl)) rfl
theorem fl_X3_12 : Cond.fieldLink RX3 12 "ClassStarts$Machine" "journal" "LClassStarts$Journal;" ∈ gwA := gw_in (mt_1 _ (List.mem_of_getElem? (i := 71) rfl)) rfl
theorem im_X1_init : Cond.instanceMethod yX1_init ∈ gwA := gw_in (mt_1 _ (List.mem_of_getElem? (i := 29) rfl)) rfl
theorem co_X1_init : Cond.code yX1_init cX1_init 1 none ∈ gwA := gw_in (mt_1 _ (List.mem_of_getElem? (i := 30) rfl)) rfl
theorem ml_X1_3 : Cond.methodLink RX1 3 objectInit ∈ gwA := gw_in (mt_1 _ (List.mem_of_getElem? (i := 31) rfl)) rfl
theorem ac_int : Cond.arrayClass .int ∈ gwA := gw_in (mt_1 _ (List.mem_of_getElem? (i := 70) rfl)) rfl
theorem fl_X1_11 : Cond.fieldLink RX1 11 "ClassStarts$Journal" "sorts" "[I" ∈ gwA := gw_in (mt_1 _ (List.mem_of_getElem? (i := 32) rfl)) rfl
theorem fl_X1_15 : Cond.fieldLink RX1 15 "ClassStarts$Journal" "values" "[I" ∈ gwA := gw_in (mt_1 _ (List.mem_of_getElem? (i := 34) rfl)) rfl
theorem fl_X1_18 : Cond.fieldLink RX1 18 "ClassStarts$Journal" "events" "I" ∈ gwA := gw_in (mt_1 _ (List.mem_of_getElem? (i := 36) rfl)) rfl
theorem fl_X1_22 : Cond.fieldLink RX1 22 "ClassStarts$Journal" "halfSeen" "I" ∈ gwA := gw_in (mt_1 _ (List.mem_of_getElem? (i := 38) rfl)) rfl
theorem fl_X1_25 : Cond.fieldLink RX1 25 "ClassStarts$Journal" "acts" "I" ∈ gwA := gw_in (mt_1 _ (List.mem_of_getElem? (i := 41) rfl)) rfl
theorem fl_X1_28 : Cond.fieldLink RX1 28 "ClassStarts$Journal" "raised" "I" ∈ gwA := gw_in (mt_1 _ (List.mem_of_getElem? (i := 44) rfl)) rfl
theorem fl_X1_31 : Cond.fieldLink RX1 31 "ClassStarts$Journal" "ended" "I" ∈ gwA := gw_in (mt_1 _ (List.mem_of_getElem? (i := 47) rfl)) rfl
theorem fl_X1_34 : Cond.fieldLink RX1 34 "ClassStarts$Journal" "startCause" "I" ∈ gwA := gw_in (mt_1 _ (List.mem_of_getElem? (i := 50) rfl)) rfl
theorem im_X5_init : Cond.instanceMethod yX5_init ∈ gwA := gw_in (mt_1 _ (List.mem_of_getElem? (i := 79) rfl)) rfl
theorem co_X5_init : Cond.code yX5_init cX5_init 1 none ∈ gwA := gw_in (mt_1 _ (List.mem_of_getElem? (i := 80) rfl)) rfl
theorem ml_X5_5 : Cond.methodLink RX5 5 objectInit ∈ gwA := gw_in (mt_1 _ (List.mem_of_getElem? (i := 81) rfl)) rfl
theorem fl_X5_11 : Cond.fieldLink RX5 11 "ClassStarts$Reach" "wanted" "I" ∈ gwA := gw_in (mt_1 _ (List.mem_of_getElem? (i := 84) rfl)) rfl
theorem fl_X5_17 : Cond.fieldLink RX5 17 "ClassStarts$Reach" "listed" "J" ∈ gwA := gw_in (mt_1 _ (List.mem_of_getElem? (i := 85) rfl)) rfl
theorem kl_X5_21 : Cond.classLink RX5 21 RX4 ∈ gwA := gw_in (mt_1 _ (List.mem_of_getElem? (i := 82) rfl)) rfl
theorem fl_X5_23 : Cond.fieldLink RX5 23 "ClassStarts$Reach" "methods" "[LClassStarts$Method;" ∈ gwA := gw_in (mt_1 _ (List.mem_of_getElem? (i := 86) rfl)) rfl
theorem fl_X5_27 : Cond.fieldLink RX5 27 "ClassStarts$Reach" "size" "I" ∈ gwA := gw_in (mt_1 _ (List.mem_of_getElem? (i := 87) rfl)) rfl
theorem ml_L_12 : Cond.methodLink RL 12 yX7_init ∈ gwA := gw_in (mt_3 _ (List.mem_of_getElem? (i := 32) rfl)) rfl
theorem im_X7_init : Cond.instanceMethod yX7_init ∈ gwA := gw_in (mt_3 _ (List.mem_of_getElem? (i := 33) rfl)) rfl
theorem co_X7_init : Cond.code yX7_init cX7_init 1 none ∈ gwA := gw_in (mt_3 _ (List.mem_of_getElem? (i := 34) rfl)) rfl
theorem ml_X7_1 : Cond.methodLink RX7 1 objectInit ∈ gwA := gw_in (mt_3 _ (List.mem_of_getElem? (i := 35) rfl)) rfl
theorem ac_boolean : Cond.arrayClass .boolean ∈ gwA := gw_in (mt_1 _ (List.mem_of_getElem? (i := 151) rfl)) rfl
theorem fl_X7_7 : Cond.fieldLink RX7 7 "ClassStartsModel" "isFace" "[Z" ∈ gwA := gw_in (mt_3 _ (List.mem_of_getElem? (i := 37) rfl)) rfl
theorem fl_X7_13 : Cond.fieldLink RX7 13 "ClassStartsModel" "hasDefaults" "[Z" ∈ gwA := gw_in (mt_3 _ (List.mem_of_getElem? (i := 38) rfl)) rfl
theorem fl_X7_16 : Cond.fieldLink RX7 16 "ClassStartsModel" "parent" "[I" ∈ gwA := gw_in (mt_3 _ (List.mem_of_getElem? (i := 39) rfl)) rfl
theorem fl_X7_20 : Cond.fieldLink RX7 20 "ClassStartsModel" "faces" "[I" ∈ gwA := gw_in (mt_3 _ (List.mem_of_getElem? (i := 40) rfl)) rfl
theorem fl_X7_23 : Cond.fieldLink RX7 23 "ClassStartsModel" "faceOf" "[I" ∈ gwA := gw_in (mt_3 _ (List.mem_of_getElem? (i := 41) rfl)) rfl
theorem fl_X7_26 : Cond.fieldLink RX7 26 "ClassStartsModel" "value" "[I" ∈ gwA := gw_in (mt_3 _ (List.mem_of_getElem? (i := 42) rfl)) rfl
theorem fl_X7_29 : Cond.fieldLink RX7 29 "ClassStartsModel" "isConstant" "[Z" ∈ gwA := gw_in (mt_3 _ (List.mem_of_getElem? (i := 43) rfl)) rfl
theorem fl_X7_32 : Cond.fieldLink RX7 32 "ClassStartsModel" "rowSize" "[I" ∈ gwA := gw_in (mt_3 _ (List.mem_of_getElem? (i := 44) rfl)) rfl
theorem fl_X7_35 : Cond.fieldLink RX7 35 "ClassStartsModel" "rowItem" "[I" ∈ gwA := gw_in (mt_3 _ (List.mem_of_getElem? (i := 45) rfl)) rfl
theorem fl_X7_38 : Cond.fieldLink RX7 38 "ClassStartsModel" "acts" "[I" ∈ gwA := gw_in (mt_3 _ (List.mem_of_getElem? (i := 46) rfl)) rfl
theorem fl_X7_41 : Cond.fieldLink RX7 41 "ClassStartsModel" "actOf" "[I" ∈ gwA := gw_in (mt_3 _ (List.mem_of_getElem? (i := 47) rfl)) rfl
theorem fl_X7_44 : Cond.fieldLink RX7 44 "ClassStartsModel" "state" "[I" ∈ gwA := gw_in (mt_3 _ (List.mem_of_getElem? (i := 48) rfl)) rfl
theorem fl_X7_47 : Cond.fieldLink RX7 47 "ClassStartsModel" "eventSort" "[I" ∈ gwA := gw_in (mt_3 _ (List.mem_of_getElem? (i := 50) rfl)) rfl
theorem fl_X7_50 : Cond.fieldLink RX7 50 "ClassStartsModel" "eventOf" "[I" ∈ gwA := gw_in (mt_3 _ (List.mem_of_getElem? (i := 51) rfl)) rfl
theorem fl_X7_53 : Cond.fieldLink RX7 53 "ClassStartsModel" "causeTold" "I" ∈ gwA := gw_in (mt_3 _ (List.mem_of_getElem? (i := 56) rfl)) rfl
theorem fl_X7_57 : Cond.fieldLink RX7 57 "ClassStartsModel" "sort" "[I" ∈ gwA := gw_in (mt_3 _ (List.mem_of_getElem? (i := 59) rfl)) rfl
theorem fl_X7_60 : Cond.fieldLink RX7 60 "ClassStartsModel" "one" "[I" ∈ gwA := gw_in (mt_3 _ (List.mem_of_getElem? (i := 60) rfl)) rfl
theorem fl_X7_63 : Cond.fieldLink RX7 63 "ClassStartsModel" "two" "[I" ∈ gwA := gw_in (mt_3 _ (List.mem_of_getElem? (i := 61) rfl)) rfl
theorem fl_X7_66 : Cond.fieldLink RX7 66 "ClassStartsModel" "three" "[I" ∈ gwA := gw_in (mt_3 _ (List.mem_of_getElem? (i := 62) rfl)) rfl
theorem fl_X7_69 : Cond.fieldLink RX7 69 "ClassStartsModel" "stage" "[I" ∈ gwA := gw_in (mt_3 _ (List.mem_of_getElem? (i := 63) rfl)) rfl
theorem fl_X7_72 : Cond.fieldLink RX7 72 "ClassStartsModel" "guards" "[I" ∈ gwA := gw_in (mt_3 _ (List.mem_of_getElem? (i := 64) rfl)) rfl
theorem fl_X7_75 : Cond.fieldLink RX7 75 "ClassStartsModel" "guardEnd" "[I" ∈ gwA := gw_in (mt_3 _ (List.mem_of_getElem? (i := 65) rfl)) rfl
theorem fl_X7_78 : Cond.fieldLink RX7 78 "ClassStartsModel" "guardBy" "[I" ∈ gwA := gw_in (mt_3 _ (List.mem_of_getElem? (i := 66) rfl)) rfl
theorem fl_X7_81 : Cond.fieldLink RX7 81 "ClassStartsModel" "mayWork" "[Z" ∈ gwA := gw_in (mt_3 _ (List.mem_of_getElem? (i := 69) rfl)) rfl
theorem ml_L_13 : Cond.methodLink RL 13 yX6_made ∈ gwA := gw_in (mt_1 _ (List.mem_of_getElem? (i := 110) rfl)) rfl
theorem im_X6_made : Cond.instanceMethod yX6_made ∈ gwA := gw_in (mt_1 _ (List.mem_of_getElem? (i := 111) rfl)) rfl
theorem se_X6_made : Cond.selects RX6 yX6_made yX6_made ∈ gwA := gw_in (mt_1 _ (List.mem_of_getElem? (i := 112) rfl)) rfl
theorem co_X6_made : Cond.code yX6_made cX6_made 3 (some .int) ∈ gwA := gw_in (mt_1 _ (List.mem_of_getElem? (i := 113) rfl)) rfl
theorem fl_X6_37 : Cond.fieldLink RX6 37 "ClassStarts$Kind" "isFace" "Z" ∈ gwA := gw_in (mt_1 _ (List.mem_of_getElem? (i := 156) rfl)) rfl
theorem ml_X6_33 : Cond.methodLink RX6 33 yX6_find ∈ gwA := gw_in (mt_1 _ (List.mem_of_getElem? (i := 114) rfl)) rfl
theorem im_X6_find : Cond.instanceMethod yX6_find ∈ gwA := gw_in (mt_1 _ (List.mem_of_getElem? (i := 116) rfl)) rfl
theorem se_X6_find : Cond.selects RX6 yX6_find yX6_find ∈ gwA := gw_in (mp_1 (yX6_find, 4) (List.mem_of_getElem? (i := 0) rfl)) rfl
theorem co_X6_find : Cond.code yX6_find cX6_find 2 (some (.object "ClassStarts$Kind")) ∈ gwA := gw_in (mt_1 _ (List.mem_of_getElem? (i := 117) rfl)) rfl
theorem ml_X6_41 : Cond.methodLink RX6 41 yX6_keep ∈ gwA := gw_in (mt_1 _ (List.mem_of_getElem? (i := 118) rfl)) rfl
theorem im_X6_keep : Cond.instanceMethod yX6_keep ∈ gwA := gw_in (mt_1 _ (List.mem_of_getElem? (i := 120) rfl)) rfl
theorem se_X6_keep : Cond.selects RX6 yX6_keep yX6_keep ∈ gwA := gw_in (mp_1 (yX6_keep, 4) (List.mem_of_getElem? (i := 1) rfl)) rfl
theorem co_X6_keep : Cond.code yX6_keep cX6_keep 4 (some .int) ∈ gwA := gw_in (mt_1 _ (List.mem_of_getElem? (i := 121) rfl)) rfl
theorem ia_X2 : Cond.instantiable RX2 12 ∈ gwA := gw_in (mt_1 _ (List.mem_of_getElem? (i := 122) rfl)) rfl
theorem in_X2 : Cond.initialized RX2 ∈ gwA := gw_in (mt_1 _ (List.mem_of_getElem? (i := 6) rfl)) rfl
theorem ml_X6_156 : Cond.methodLink RX6 156 yX2_init ∈ gwA := gw_in (mt_1 _ (List.mem_of_getElem? (i := 123) rfl)) rfl
theorem im_X2_init : Cond.instanceMethod yX2_init ∈ gwA := gw_in (mt_1 _ (List.mem_of_getElem? (i := 124) rfl)) rfl
theorem co_X2_init : Cond.code yX2_init cX2_init 6 none ∈ gwA := gw_in (mt_1 _ (List.mem_of_getElem? (i := 125) rfl)) rfl
theorem ml_X2_3 : Cond.methodLink RX2 3 objectInit ∈ gwA := gw_in (mt_1 _ (List.mem_of_getElem? (i := 126) rfl)) rfl
theorem kl_X2_9 : Cond.classLink RX2 9 RX2 ∈ gwA := gw_in (mt_1 _ (List.mem_of_getElem? (i := 127) rfl)) rfl
theorem fl_X2_11 : Cond.fieldLink RX2 11 "ClassStarts$Kind" "faces" "[LClassStarts$Kind;" ∈ gwA := gw_in (mt_1 _ (List.mem_of_getElem? (i := 165) rfl)) rfl
theorem fl_X2_15 : Cond.fieldLink RX2 15 "ClassStarts$Kind" "faceCount" "I" ∈ gwA := gw_in (mt_1 _ (List.mem_of_getElem? (i := 168) rfl)) rfl
theorem fl_X2_19 : Cond.fieldLink RX2 19 "ClassStarts$Kind" "fields" "[I" ∈ gwA := gw_in (mt_1 _ (List.mem_of_getElem? (i := 171) rfl)) rfl
theorem fl_X2_23 : Cond.fieldLink RX2 23 "ClassStarts$Kind" "constants" "[Z" ∈ gwA := gw_in (mt_1 _ (List.mem_of_getElem? (i := 172) rfl)) rfl
theorem fl_X2_27 : Cond.fieldLink RX2 27 "ClassStarts$Kind" "row" "[I" ∈ gwA := gw_in (mt_1 _ (List.mem_of_getElem? (i := 173) rfl)) rfl
theorem fl_X2_30 : Cond.fieldLink RX2 30 "ClassStarts$Kind" "items" "I" ∈ gwA := gw_in (mt_1 _ (List.mem_of_getElem? (i := 176) rfl)) rfl
theorem kl_X2_33 : Cond.classLink RX2 33 RX4 ∈ gwA := gw_in (mt_1 _ (List.mem_of_getElem? (i := 128) rfl)) rfl
theorem fl_X2_35 : Cond.fieldLink RX2 35 "ClassStarts$Kind" "methods" "[LClassStarts$Method;" ∈ gwA := gw_in (mt_1 _ (List.mem_of_getElem? (i := 179) rfl)) rfl
theorem fl_X2_39 : Cond.fieldLink RX2 39 "ClassStarts$Kind" "state" "I" ∈ gwA := gw_in (mt_1 _ (List.mem_of_getElem? (i := 183) rfl)) rfl
theorem fl_X2_42 : Cond.fieldLink RX2 42 "ClassStarts$Kind" "number" "I" ∈ gwA := gw_in (mt_1 _ (List.mem_of_getElem? (i := 152) rfl)) rfl
theorem fl_X2_45 : Cond.fieldLink RX2 45 "ClassStarts$Kind" "isFace" "Z" ∈ gwA := gw_in (mt_1 _ (List.mem_of_getElem? (i := 155) rfl)) rfl
theorem fl_X2_49 : Cond.fieldLink RX2 49 "ClassStarts$Kind" "hasDefaults" "Z" ∈ gwA := gw_in (mt_1 _ (List.mem_of_getElem? (i := 159) rfl)) rfl
theorem fl_X2_52 : Cond.fieldLink RX2 52 "ClassStarts$Kind" "parent" "LClassStarts$Kind;" ∈ gwA := gw_in (mt_1 _ (List.mem_of_getElem? (i := 162) rfl)) rfl
theorem ia_X4 : Cond.instantiable RX4 3 ∈ gwA := gw_in (mt_1 _ (List.mem_of_getElem? (i := 129) rfl)) rfl
theorem in_X4 : Cond.initialized RX4 ∈ gwA := gw_in (mt_1 _ (List.mem_of_getElem? (i := 7) rfl)) rfl
theorem ml_X2_56 : Cond.methodLink RX2 56 yX4_init ∈ gwA := gw_in (mt_1 _ (List.mem_of_getElem? (i := 130) rfl)) rfl
theorem im_X4_init : Cond.instanceMethod yX4_init ∈ gwA := gw_in (mt_1 _ (List.mem_of_getElem? (i := 131) rfl)) rfl
theorem co_X4_init : Cond.code yX4_init cX4_init 2 none ∈ gwA := gw_in (mt_1 _ (List.mem_of_getElem? (i := 132) rfl)) rfl
theorem ml_X4_3 : Cond.methodLink RX4 3 objectInit ∈ gwA := gw_in (mt_1 _ (List.mem_of_getElem? (i := 133) rfl)) rfl
theorem kl_X4_11 : Cond.classLink RX4 11 RX0 ∈ gwA := gw_in (mt_1 _ (List.mem_of_getElem? (i := 134) rfl)) rfl
theorem fl_X4_13 : Cond.fieldLink RX4 13 "ClassStarts$Method" "acts" "[LClassStarts$Act;" ∈ gwA := gw_in (mt_1 _ (List.mem_of_getElem? (i := 138) rfl)) rfl
theorem fl_X4_17 : Cond.fieldLink RX4 17 "ClassStarts$Method" "size" "I" ∈ gwA := gw_in (mt_1 _ (List.mem_of_getElem? (i := 141) rfl)) rfl
theorem fl_X4_21 : Cond.fieldLink RX4 21 "ClassStarts$Method" "number" "I" ∈ gwA := gw_in (mt_1 _ (List.mem_of_getElem? (i := 136) rfl)) rfl
theorem ml_L_17 : Cond.methodLink RL 17 yX7_made ∈ gwA := gw_in (mt_3 _ (List.mem_of_getElem? (i := 139) rfl)) rfl
theorem im_X7_made : Cond.instanceMethod yX7_made ∈ gwA := gw_in (mt_3 _ (List.mem_of_getElem? (i := 140) rfl)) rfl
theorem se_X7_made : Cond.selects RX7 yX7_made yX7_made ∈ gwA := gw_in (mt_3 _ (List.mem_of_getElem? (i := 141) rfl)) rfl
theorem co_X7_made : Cond.code yX7_made cX7_made 2 (some .int) ∈ gwA := gw_in (mt_3 _ (List.mem_of_getElem? (i := 142) rfl)) rfl
theorem ml_X7_87 : Cond.methodLink RX7 87 yX7_has ∈ gwA := gw_in (mt_3 _ (List.mem_of_getElem? (i := 143) rfl)) rfl
theorem im_X7_has : Cond.instanceMethod yX7_has ∈ gwA := gw_in (mt_3 _ (List.mem_of_getElem? (i := 145) rfl)) rfl
theorem se_X7_has : Cond.selects RX7 yX7_has yX7_has ∈ gwA := gw_in (mp_2 (yX7_has, 34) (List.mem_of_getElem? (i := 9) rfl)) rfl
theorem co_X7_has : Cond.code yX7_has cX7_has 2 (some .boolean) ∈ gwA := gw_in (mt_3 _ (List.mem_of_getElem? (i := 146) rfl)) rfl
theorem fl_X7_84 : Cond.fieldLink RX7 84 "ClassStartsModel" "many" "I" ∈ gwA := gw_in (mt_3 _ (List.mem_of_getElem? (i := 36) rfl)) rfl
theorem ml_X7_91 : Cond.methodLink RX7 91 yX7_make ∈ gwA := gw_in (mt_3 _ (List.mem_of_getElem? (i := 147) rfl)) rfl
theorem im_X7_make : Cond.instanceMethod yX7_make ∈ gwA := gw_in (mt_3 _ (List.mem_of_getElem? (i := 149) rfl)) rfl
theorem se_X7_make : Cond.selects RX7 yX7_make yX7_make ∈ gwA := gw_in (mp_2 (yX7_make, 34) (List.mem_of_getElem? (i := 10) rfl)) rfl
theorem co_X7_make : Cond.code yX7_make cX7_make 4 (some .int) ∈ gwA := gw_in (mt_3 _ (List.mem_of_getElem? (i := 150) rfl)) rfl
theorem ml_L_18 : Cond.methodLink RL 18 yX6_face ∈ gwA := gw_in (mt_1 _ (List.mem_of_getElem? (i := 211) rfl)) rfl
theorem im_X6_face : Cond.instanceMethod yX6_face ∈ gwA := gw_in (mt_1 _ (List.mem_of_getElem? (i := 212) rfl)) rfl
theorem se_X6_face : Cond.selects RX6 yX6_face yX6_face ∈ gwA := gw_in (mt_1 _ (List.mem_of_getElem? (i := 213) rfl)) rfl
theorem co_X6_face : Cond.code yX6_face cX6_face 2 (some .int) ∈ gwA := gw_in (mt_1 _ (List.mem_of_getElem? (i := 214) rfl)) rfl
theorem ml_L_22 : Cond.methodLink RL 22 yX7_face ∈ gwA := gw_in (mt_3 _ (List.mem_of_getElem? (i := 151) rfl)) rfl
theorem im_X7_face : Cond.instanceMethod yX7_face ∈ gwA := gw_in (mt_3 _ (List.mem_of_getElem? (i := 152) rfl)) rfl
theorem se_X7_face : Cond.selects RX7 yX7_face yX7_face ∈ gwA := gw_in (mt_3 _ (List.mem_of_getElem? (i := 153) rfl)) rfl
theorem co_X7_face : Cond.code yX7_face cX7_face 2 (some .int) ∈ gwA := gw_in (mt_3 _ (List.mem_of_getElem? (i := 154) rfl)) rfl
theorem ml_L_23 : Cond.methodLink RL 23 yX6_bears ∈ gwA := gw_in (mt_1 _ (List.mem_of_getElem? (i := 215) rfl)) rfl
theorem im_X6_bears : Cond.instanceMethod yX6_bears ∈ gwA := gw_in (mt_1 _ (List.mem_of_getElem? (i := 216) rfl)) rfl
theorem se_X6_bears : Cond.selects RX6 yX6_bears yX6_bears ∈ gwA := gw_in (mt_1 _ (List.mem_of_getElem? (i := 217) rfl)) rfl
theorem co_X6_bears : Cond.code yX6_bears cX6_bears 5 (some .int) ∈ gwA := gw_in (mt_1 _ (List.mem_of_getElem? (i := 218) rfl)) rfl
theorem fl_X6_45 : Cond.fieldLink RX6 45 "ClassStarts$Kind" "number" "I" ∈ gwA := gw_in (mt_1 _ (List.mem_of_getElem? (i := 153) rfl)) rfl
theorem fl_X6_52 : Cond.fieldLink RX6 52 "ClassStarts$Kind" "state" "I" ∈ gwA := gw_in (mt_1 _ (List.mem_of_getElem? (i := 185) rfl)) rfl
theorem ml_X6_48 : Cond.methodLink RX6 48 yX2_hasFace ∈ gwA := gw_in (mt_1 _ (List.mem_of_getElem? (i := 219) rfl)) rfl
theorem im_X2_hasFace : Cond.instanceMethod yX2_hasFace ∈ gwA := gw_in (mt_1 _ (List.mem_of_getElem? (i := 220) rfl)) rfl
theorem se_X2_hasFace : Cond.selects RX2 yX2_hasFace yX2_hasFace ∈ gwA := gw_in (mt_1 _ (List.mem_of_getElem? (i := 221) rfl)) rfl
theorem co_X2_hasFace : Cond.code yX2_hasFace cX2_hasFace 3 (some .boolean) ∈ gwA := gw_in (mt_1 _ (List.mem_of_getElem? (i := 222) rfl)) rfl
theorem ml_X6_55 : Cond.methodLink RX6 55 yX2_addFace ∈ gwA := gw_in (mt_1 _ (List.mem_of_getElem? (i := 223) rfl)) rfl
theorem im_X2_addFace : Cond.instanceMethod yX2_addFace ∈ gwA := gw_in (mt_1 _ (List.mem_of_getElem? (i := 224) rfl)) rfl
theorem se_X2_addFace : Cond.selects RX2 yX2_addFace yX2_addFace ∈ gwA := gw_in (mt_1 _ (List.mem_of_getElem? (i := 225) rfl)) rfl
theorem co_X2_addFace : Cond.code yX2_addFace cX2_addFace 2 (some .int) ∈ gwA := gw_in (mt_1 _ (List.mem_of_getElem? (i := 226) rfl)) rfl
theorem ml_L_27 : Cond.methodLink RL 27 yX7_bears ∈ gwA := gw_in (mt_3 _ (List.mem_of_getElem? (i := 155) rfl)) rfl
theorem im_X7_bears : Cond.instanceMethod yX7_bears ∈ gwA := gw_in (mt_3 _ (List.mem_of_getElem? (i := 156) rfl)) rfl
theorem se_X7_bears : Cond.selects RX7 yX7_bears yX7_bears ∈ gwA := gw_in (mt_3 _ (List.mem_of_getElem? (i := 157) rfl)) rfl
theorem co_X7_bears : Cond.code yX7_bears cX7_bears 5 (some .int) ∈ gwA := gw_in (mt_3 _ (List.mem_of_getElem? (i := 158) rfl)) rfl
theorem ml_L_28 : Cond.methodLink RL 28 yX6_constant ∈ gwA := gw_in (mt_1 _ (List.mem_of_getElem? (i := 227) rfl)) rfl
theorem im_X6_constant : Cond.instanceMethod yX6_constant ∈ gwA := gw_in (mt_1 _ (List.mem_of_getElem? (i := 228) rfl)) rfl
theorem se_X6_constant : Cond.selects RX6 yX6_constant yX6_constant ∈ gwA := gw_in (mt_1 _ (List.mem_of_getElem? (i := 229) rfl)) rfl
theorem co_X6_constant : Cond.code yX6_constant cX6_constant 5 (some .int) ∈ gwA := gw_in (mt_1 _ (List.mem_of_getElem? (i := 230) rfl)) rfl
theorem ml_X6_59 : Cond.methodLink RX6 59 yX2_isField ∈ gwA := gw_in (mt_1 _ (List.mem_of_getElem? (i := 231) rfl)) rfl
theorem st_X2_isField : Cond.static yX2_isField ∈ gwA := gw_in (mt_1 _ (List.mem_of_getElem? (i := 232) rfl)) rfl
theorem co_X2_isField : Cond.code yX2_isField cX2_isField 1 (some .boolean) ∈ gwA := gw_in (mt_1 _ (List.mem_of_getElem? (i := 233) rfl)) rfl
theorem ml_X6_62 : Cond.methodLink RX6 62 yX2_isConstant ∈ gwA := gw_in (mt_1 _ (List.mem_of_getElem? (i := 234) rfl)) rfl
theorem im_X2_isConstant : Cond.instanceMethod yX2_isConstant ∈ gwA := gw_in (mt_1 _ (List.mem_of_getElem? (i := 235) rfl)) rfl
theorem se_X2_isConstant : Cond.selects RX2 yX2_isConstant yX2_isConstant ∈ gwA := gw_in (mt_1 _ (List.mem_of_getElem? (i := 236) rfl)) rfl
theorem co_X2_isConstant : Cond.code yX2_isConstant cX2_isConstant 2 (some .boolean) ∈ gwA := gw_in (mt_1 _ (List.mem_of_getElem? (i := 237) rfl)) rfl
theorem ml_X2_59 : Cond.methodLink RX2 59 yX2_isField ∈ gwA := gw_in (mt_1 _ (List.mem_of_getElem? (i := 238) rfl)) rfl
theorem ml_X6_65 : Cond.methodLink RX6 65 yX2_fix ∈ gwA := gw_in (mt_1 _ (List.mem_of_getElem? (i := 239) rfl)) rfl
theorem im_X2_fix : Cond.instanceMethod yX2_fix ∈ gwA := gw_in (mt_2 _ (List.mem_of_getElem? (i := 0) rfl)) rfl
theorem se_X2_fix : Cond.selects RX2 yX2_fix yX2_fix ∈ gwA := gw_in (mt_2 _ (List.mem_of_getElem? (i := 1) rfl)) rfl
theorem co_X2_fix : Cond.code yX2_fix cX2_fix 3 none ∈ gwA := gw_in (mt_2 _ (List.mem_of_getElem? (i := 2) rfl)) rfl
theorem ml_L_32 : Cond.methodLink RL 32 yX7_constant ∈ gwA := gw_in (mt_3 _ (List.mem_of_getElem? (i := 159) rfl)) rfl
theorem im_X7_constant : Cond.instanceMethod yX7_constant ∈ gwA := gw_in (mt_3 _ (List.mem_of_getElem? (i := 160) rfl)) rfl
theorem se_X7_constant : Cond.selects RX7 yX7_constant yX7_constant ∈ gwA := gw_in (mt_3 _ (List.mem_of_getElem? (i := 161) rfl)) rfl
theorem co_X7_constant : Cond.code yX7_constant cX7_constant 4 (some .int) ∈ gwA := gw_in (mt_3 _ (List.mem_of_getElem? (i := 162) rfl)) rfl
theorem ml_X7_95 : Cond.methodLink RX7 95 yX7_isField ∈ gwA := gw_in (mt_3 _ (List.mem_of_getElem? (i := 163) rfl)) rfl
theorem st_X7_isField : Cond.static yX7_isField ∈ gwA := gw_in (mt_3 _ (List.mem_of_getElem? (i := 164) rfl)) rfl
theorem co_X7_isField : Cond.code yX7_isField cX7_isField 1 (some .boolean) ∈ gwA := gw_in (mt_3 _ (List.mem_of_getElem? (i := 165) rfl)) rfl
theorem ml_L_33 : Cond.methodLink RL 33 yX6_act ∈ gwA := gw_in (mt_2 _ (List.mem_of_getElem? (i := 3) rfl)) rfl
theorem im_X6_act : Cond.instanceMethod yX6_act ∈ gwA := gw_in (mt_2 _ (List.mem_of_getElem? (i := 4) rfl)) rfl
theorem se_X6_act : Cond.selects RX6 yX6_act yX6_act ∈ gwA := gw_in (mt_2 _ (List.mem_of_getElem? (i := 5) rfl)) rfl
theorem co_X6_act : Cond.code yX6_act cX6_act 9 (some .int) ∈ gwA := gw_in (mt_2 _ (List.mem_of_getElem? (i := 6) rfl)) rfl
theorem fl_X6_82 : Cond.fieldLink RX6 82 "ClassStarts$Kind" "methods" "[LClassStarts$Method;" ∈ gwA := gw_in (mt_1 _ (List.mem_of_getElem? (i := 181) rfl)) rfl
theorem ml_X6_69 : Cond.methodLink RX6 69 yX6_named ∈ gwA := gw_in (mt_2 _ (List.mem_of_getElem? (i := 7) rfl)) rfl
theorem im_X6_named : Cond.instanceMethod yX6_named ∈ gwA := gw_in (mt_2 _ (List.mem_of_getElem? (i := 9) rfl)) rfl
theorem se_X6_named : Cond.selects RX6 yX6_named yX6_named ∈ gwA := gw_in (mp_1 (yX6_named, 4) (List.mem_of_getElem? (i := 2) rfl)) rfl
theorem co_X6_named : Cond.code yX6_named cX6_named 5 (some (.object "ClassStarts$Kind")) ∈ gwA := gw_in (mt_2 _ (List.mem_of_getElem? (i := 10) rfl)) rfl
theorem ml_X6_73 : Cond.methodLink RX6 73 yX2_isMethod ∈ gwA := gw_in (mt_2 _ (List.mem_of_getElem? (i := 11) rfl)) rfl
theorem st_X2_isMethod : Cond.static yX2_isMethod ∈ gwA := gw_in (mt_2 _ (List.mem_of_getElem? (i := 12) rfl)) rfl
theorem co_X2_isMethod : Cond.code yX2_isMethod cX2_isMethod 1 (some .boolean) ∈ gwA := gw_in (mt_2 _ (List.mem_of_getElem? (i := 13) rfl)) rfl
theorem ml_X6_76 : Cond.methodLink RX6 76 yX0_numbersFit ∈ gwA := gw_in (mt_2 _ (List.mem_of_getElem? (i := 14) rfl)) rfl
theorem st_X0_numbersFit : Cond.static yX0_numbersFit ∈ gwA := gw_in (mt_2 _ (List.mem_of_getElem? (i := 15) rfl)) rfl
theorem in_X0 : Cond.initialized RX0 ∈ gwA := gw_in (mt_1 _ (List.mem_of_getElem? (i := 8) rfl)) rfl
theorem co_X0_numbersFit : Cond.code yX0_numbersFit cX0_numbersFit 4 (some .boolean) ∈ gwA := gw_in (mt_2 _ (List.mem_of_getElem? (i := 16) rfl)) rfl
theorem ml_X0_31 : Cond.methodLink RX0 31 yX2_isField ∈ gwA := gw_in (mt_2 _ (List.mem_of_getElem? (i := 17) rfl)) rfl
theorem ml_X0_37 : Cond.methodLink RX0 37 yX2_isCallable ∈ gwA := gw_in (mt_2 _ (List.mem_of_getElem? (i := 18) rfl)) rfl
theorem st_X2_isCallable : Cond.static yX2_isCallable ∈ gwA := gw_in (mt_2 _ (List.mem_of_getElem? (i := 19) rfl)) rfl
theorem co_X2_isCallable : Cond.code yX2_isCallable cX2_isCallable 1 (some .boolean) ∈ gwA := gw_in (mt_2 _ (List.mem_of_getElem? (i := 20) rfl)) rfl
theorem ml_X6_86 : Cond.methodLink RX6 86 yX4_append ∈ gwA := gw_in (mt_2 _ (List.mem_of_getElem? (i := 21) rfl)) rfl
theorem im_X4_append : Cond.instanceMethod yX4_append ∈ gwA := gw_in (mt_2 _ (List.mem_of_getElem? (i := 22) rfl)) rfl
theorem se_X4_append : Cond.selects RX4 yX4_append yX4_append ∈ gwA := gw_in (mt_2 _ (List.mem_of_getElem? (i := 23) rfl)) rfl
theorem co_X4_append : Cond.code yX4_append cX4_append 7 (some .int) ∈ gwA := gw_in (mt_2 _ (List.mem_of_getElem? (i := 24) rfl)) rfl
theorem ia_X0 : Cond.instantiable RX0 6 ∈ gwA := gw_in (mt_2 _ (List.mem_of_getElem? (i := 36) rfl)) rfl
theorem ml_X4_24 : Cond.methodLink RX4 24 yX4_lastGuarded ∈ gwA := gw_in (mt_2 _ (List.mem_of_getElem? (i := 25) rfl)) rfl
theorem im_X4_lastGuarded : Cond.instanceMethod yX4_lastGuarded ∈ gwA := gw_in (mt_2 _ (List.mem_of_getElem? (i := 27) rfl)) rfl
theorem se_X4_lastGuarded : Cond.selects RX4 yX4_lastGuarded yX4_lastGuarded ∈ gwA := gw_in (mp_1 (yX4_lastGuarded, 3) (List.mem_of_getElem? (i := 3) rfl)) rfl
theorem co_X4_lastGuarded : Cond.code yX4_lastGuarded cX4_lastGuarded 4 (some .int) ∈ gwA := gw_in (mt_2 _ (List.mem_of_getElem? (i := 28) rfl)) rfl
theorem fl_X4_35 : Cond.fieldLink RX4 35 "ClassStarts$Act" "lastGuarded" "I" ∈ gwA := gw_in (mt_2 _ (List.mem_of_getElem? (i := 55) rfl)) rfl
theorem ml_X4_37 : Cond.methodLink RX4 37 Lib.Math.min.name ∈ gwA := gw_in (mt_2 _ (List.mem_of_getElem? (i := 33) rfl)) rfl
theorem st_Lib_Math_min_name : Cond.static Lib.Math.min.name ∈ gwA := gw_in (mt_2 _ (List.mem_of_getElem? (i := 34) rfl)) rfl
theorem in_Math : Cond.initialized "java/lang/Math" ∈ gwA := gw_in (mt_1 _ (List.mem_of_getElem? (i := 9) rfl)) rfl
theorem co_Lib_Math_min_name : Cond.code Lib.Math.min.name Lib.Math.min.code 2 (some .int) ∈ gwA := gw_in (mt_2 _ (List.mem_of_getElem? (i := 35) rfl)) rfl
theorem ml_X4_31 : Cond.methodLink RX4 31 yX0_guards ∈ gwA := gw_in (mt_2 _ (List.mem_of_getElem? (i := 29) rfl)) rfl
theorem im_X0_guards : Cond.instanceMethod yX0_guards ∈ gwA := gw_in (mt_2 _ (List.mem_of_getElem? (i := 30) rfl)) rfl
theorem se_X0_guards : Cond.selects RX0 yX0_guards yX0_guards ∈ gwA := gw_in (mt_2 _ (List.mem_of_getElem? (i := 31) rfl)) rfl
theorem co_X0_guards : Cond.code yX0_guards cX0_guards 2 (some .boolean) ∈ gwA := gw_in (mt_2 _ (List.mem_of_getElem? (i := 32) rfl)) rfl
theorem fl_X0_9 : Cond.fieldLink RX0 9 "ClassStarts$Act" "sort" "I" ∈ gwA := gw_in (mt_2 _ (List.mem_of_getElem? (i := 41) rfl)) rfl
theorem fl_X0_28 : Cond.fieldLink RX0 28 "ClassStarts$Act" "lastGuarded" "I" ∈ gwA := gw_in (mt_2 _ (List.mem_of_getElem? (i := 54) rfl)) rfl
theorem ml_X4_28 : Cond.methodLink RX4 28 yX0_init ∈ gwA := gw_in (mt_2 _ (List.mem_of_getElem? (i := 37) rfl)) rfl
theorem im_X0_init : Cond.instanceMethod yX0_init ∈ gwA := gw_in (mt_2 _ (List.mem_of_getElem? (i := 38) rfl)) rfl
theorem co_X0_init : Cond.code yX0_init cX0_init 7 none ∈ gwA := gw_in (mt_2 _ (List.mem_of_getElem? (i := 39) rfl)) rfl
theorem ml_X0_3 : Cond.methodLink RX0 3 objectInit ∈ gwA := gw_in (mt_2 _ (List.mem_of_getElem? (i := 40) rfl)) rfl
theorem fl_X0_15 : Cond.fieldLink RX0 15 "ClassStarts$Act" "other" "LClassStarts$Kind;" ∈ gwA := gw_in (mt_2 _ (List.mem_of_getElem? (i := 44) rfl)) rfl
theorem fl_X0_19 : Cond.fieldLink RX0 19 "ClassStarts$Act" "a" "I" ∈ gwA := gw_in (mt_2 _ (List.mem_of_getElem? (i := 47) rfl)) rfl
theorem fl_X0_22 : Cond.fieldLink RX0 22 "ClassStarts$Act" "b" "I" ∈ gwA := gw_in (mt_2 _ (List.mem_of_getElem? (i := 49) rfl)) rfl
theorem fl_X0_25 : Cond.fieldLink RX0 25 "ClassStarts$Act" "c" "I" ∈ gwA := gw_in (mt_2 _ (List.mem_of_getElem? (i := 52) rfl)) rfl
theorem ml_L_37 : Cond.methodLink RL 37 yX7_act ∈ gwA := gw_in (mt_3 _ (List.mem_of_getElem? (i := 166) rfl)) rfl
theorem im_X7_act : Cond.instanceMethod yX7_act ∈ gwA := gw_in (mt_3 _ (List.mem_of_getElem? (i := 167) rfl)) rfl
theorem se_X7_act : Cond.selects RX7 yX7_act yX7_act ∈ gwA := gw_in (mt_3 _ (List.mem_of_getElem? (i := 168) rfl)) rfl
theorem co_X7_act : Cond.code yX7_act cX7_act 10 (some .int) ∈ gwA := gw_in (mt_3 _ (List.mem_of_getElem? (i := 169) rfl)) rfl
theorem ml_X7_98 : Cond.methodLink RX7 98 yX7_areIn ∈ gwA := gw_in (mt_3 _ (List.mem_of_getElem? (i := 170) rfl)) rfl
theorem st_X7_areIn : Cond.static yX7_areIn ∈ gwA := gw_in (mt_3 _ (List.mem_of_getElem? (i := 171) rfl)) rfl
theorem co_X7_areIn : Cond.code yX7_areIn cX7_areIn 4 (some .boolean) ∈ gwA := gw_in (mt_3 _ (List.mem_of_getElem? (i := 172) rfl)) rfl
theorem ml_L_38 : Cond.methodLink RL 38 yX6_run ∈ gwA := gw_in (mt_2 _ (List.mem_of_getElem? (i := 69) rfl)) rfl
theorem im_X6_run : Cond.instanceMethod yX6_run ∈ gwA := gw_in (mt_2 _ (List.mem_of_getElem? (i := 70) rfl)) rfl
theorem se_X6_run : Cond.selects RX6 yX6_run yX6_run ∈ gwA := gw_in (mt_2 _ (List.mem_of_getElem? (i := 71) rfl)) rfl
theorem co_X6_run : Cond.code yX6_run cX6_run 4 (some .int) ∈ gwA := gw_in (mt_2 _ (List.mem_of_getElem? (i := 72) rfl)) rfl
theorem ml_X6_92 : Cond.methodLink RX6 92 yX2_isCallable ∈ gwA := gw_in (mt_2 _ (List.mem_of_getElem? (i := 73) rfl)) rfl
theorem ml_X6_95 : Cond.methodLink RX6 95 yX3_execute ∈ gwA := gw_in (mt_2 _ (List.mem_of_getElem? (i := 74) rfl)) rfl
theorem im_X3_execute : Cond.instanceMethod yX3_execute ∈ gwA := gw_in (mt_2 _ (List.mem_of_getElem? (i := 75) rfl)) rfl
theorem se_X3_execute : Cond.selects RX3 yX3_execute yX3_execute ∈ gwA := gw_in (mt_2 _ (List.mem_of_getElem? (i := 76) rfl)) rfl
theorem co_X3_execute : Cond.code yX3_execute cX3_execute 4 (some .int) ∈ gwA := gw_in (mt_2 _ (List.mem_of_getElem? (i := 77) rfl)) rfl
theorem fl_X3_29 : Cond.fieldLink RX3 29 "ClassStarts$Journal" "ended" "I" ∈ gwA := gw_in (mt_1 _ (List.mem_of_getElem? (i := 48) rfl)) rfl
theorem ml_X3_18 : Cond.methodLink RX3 18 yX1_clear ∈ gwA := gw_in (mt_2 _ (List.mem_of_getElem? (i := 78) rfl)) rfl
theorem im_X1_clear : Cond.instanceMethod yX1_clear ∈ gwA := gw_in (mt_2 _ (List.mem_of_getElem? (i := 79) rfl)) rfl
theorem se_X1_clear : Cond.selects RX1 yX1_clear yX1_clear ∈ gwA := gw_in (mt_2 _ (List.mem_of_getElem? (i := 80) rfl)) rfl
theorem co_X1_clear : Cond.code yX1_clear cX1_clear 1 none ∈ gwA := gw_in (mt_2 _ (List.mem_of_getElem? (i := 81) rfl)) rfl
theorem ml_X3_21 : Cond.methodLink RX3 21 yX3_want ∈ gwA := gw_in (mt_2 _ (List.mem_of_getElem? (i := 82) rfl)) rfl
theorem im_X3_want : Cond.instanceMethod yX3_want ∈ gwA := gw_in (mt_2 _ (List.mem_of_getElem? (i := 84) rfl)) rfl
theorem se_X3_want : Cond.selects RX3 yX3_want yX3_want ∈ gwA := gw_in (mp_1 (yX3_want, 1) (List.mem_of_getElem? (i := 4) rfl)) rfl
theorem co_X3_want : Cond.code yX3_want cX3_want 4 (some .int) ∈ gwA := gw_in (mt_2 _ (List.mem_of_getElem? (i := 85) rfl)) rfl
theorem fl_X3_36 : Cond.fieldLink RX3 36 "ClassStarts$Kind" "state" "I" ∈ gwA := gw_in (mt_1 _ (List.mem_of_getElem? (i := 184) rfl)) rfl
theorem fl_X3_45 : Cond.fieldLink RX3 45 "ClassStarts$Kind" "number" "I" ∈ gwA := gw_in (mt_1 _ (List.mem_of_getElem? (i := 154) rfl)) rfl
theorem ml_X3_41 : Cond.methodLink RX3 41 yX3_raise ∈ gwA := gw_in (mt_2 _ (List.mem_of_getElem? (i := 86) rfl)) rfl
theorem im_X3_raise : Cond.instanceMethod yX3_raise ∈ gwA := gw_in (mt_2 _ (List.mem_of_getElem? (i := 88) rfl)) rfl
theorem se_X3_raise : Cond.selects RX3 yX3_raise yX3_raise ∈ gwA := gw_in (mp_1 (yX3_raise, 1) (List.mem_of_getElem? (i := 5) rfl)) rfl
theorem co_X3_raise : Cond.code yX3_raise cX3_raise 2 (some .int) ∈ gwA := gw_in (mt_2 _ (List.mem_of_getElem? (i := 89) rfl)) rfl
theorem fl_X3_33 : Cond.fieldLink RX3 33 "ClassStarts$Journal" "raised" "I" ∈ gwA := gw_in (mt_1 _ (List.mem_of_getElem? (i := 45) rfl)) rfl
theorem ml_X3_48 : Cond.methodLink RX3 48 yX1_note ∈ gwA := gw_in (mt_2 _ (List.mem_of_getElem? (i := 90) rfl)) rfl
theorem im_X1_note : Cond.instanceMethod yX1_note ∈ gwA := gw_in (mt_2 _ (List.mem_of_getElem? (i := 91) rfl)) rfl
theorem se_X1_note : Cond.selects RX1 yX1_note yX1_note ∈ gwA := gw_in (mt_2 _ (List.mem_of_getElem? (i := 92) rfl)) rfl
theorem co_X1_note : Cond.code yX1_note cX1_note 3 none ∈ gwA := gw_in (mt_2 _ (List.mem_of_getElem? (i := 93) rfl)) rfl
theorem ml_X3_52 : Cond.methodLink RX3 52 yX3_start ∈ gwA := gw_in (mt_2 _ (List.mem_of_getElem? (i := 94) rfl)) rfl
theorem im_X3_start : Cond.instanceMethod yX3_start ∈ gwA := gw_in (mt_2 _ (List.mem_of_getElem? (i := 96) rfl)) rfl
theorem se_X3_start : Cond.selects RX3 yX3_start yX3_start ∈ gwA := gw_in (mp_1 (yX3_start, 1) (List.mem_of_getElem? (i := 6) rfl)) rfl
theorem ml_X3_55 : Cond.methodLink RX3 55 yX3_afterStart ∈ gwA := gw_in (mt_2 _ (List.mem_of_getElem? (i := 176) rfl)) rfl
theorem im_X3_afterStart : Cond.instanceMethod yX3_afterStart ∈ gwA := gw_in (mt_2 _ (List.mem_of_getElem? (i := 178) rfl)) rfl
theorem se_X3_afterStart : Cond.selects RX3 yX3_afterStart yX3_afterStart ∈ gwA := gw_in (mp_2 (yX3_afterStart, 1) (List.mem_of_getElem? (i := 1) rfl)) rfl
theorem co_X3_afterStart : Cond.code yX3_afterStart cX3_afterStart 2 (some .int) ∈ gwA := gw_in (mt_2 _ (List.mem_of_getElem? (i := 179) rfl)) rfl
theorem fl_X3_69 : Cond.fieldLink RX3 69 "ClassStarts$Journal" "startCause" "I" ∈ gwA := gw_in (mt_1 _ (List.mem_of_getElem? (i := 51) rfl)) rfl
theorem co_X3_begin : Cond.code yX3_begin cX3_begin 5 (some .int) ∈ gwA := gw_in (mt_2 _ (List.mem_of_getElem? (i := 109) rfl)) rfl
theorem fl_X3_103 : Cond.fieldLink RX3 103 "ClassStarts$Journal" "acts" "I" ∈ gwA := gw_in (mt_1 _ (List.mem_of_getElem? (i := 42) rfl)) rfl
theorem fl_X3_111 : Cond.fieldLink RX3 111 "ClassStarts$Act" "other" "LClassStarts$Kind;" ∈ gwA := gw_in (mt_2 _ (List.mem_of_getElem? (i := 46) rfl)) rfl
theorem ml_X3_105 : Cond.methodLink RX3 105 yX0_wants ∈ gwA := gw_in (mt_2 _ (List.mem_of_getElem? (i := 110) rfl)) rfl
theorem im_X0_wants : Cond.instanceMethod yX0_wants ∈ gwA := gw_in (mt_2 _ (List.mem_of_getElem? (i := 111) rfl)) rfl
theorem se_X0_wants : Cond.selects RX0 yX0_wants yX0_wants ∈ gwA := gw_in (mt_2 _ (List.mem_of_getElem? (i := 112) rfl)) rfl
theorem co_X0_wants : Cond.code yX0_wants cX0_wants 1 (some .boolean) ∈ gwA := gw_in (mt_2 _ (List.mem_of_getElem? (i := 113) rfl)) rfl
theorem ml_X0_42 : Cond.methodLink RX0 42 yX2_isConstant ∈ gwA := gw_in (mt_2 _ (List.mem_of_getElem? (i := 114) rfl)) rfl
theorem ml_X3_114 : Cond.methodLink RX3 114 yX3_perform ∈ gwA := gw_in (mt_2 _ (List.mem_of_getElem? (i := 115) rfl)) rfl
theorem im_X3_perform : Cond.instanceMethod yX3_perform ∈ gwA := gw_in (mt_2 _ (List.mem_of_getElem? (i := 117) rfl)) rfl
theorem se_X3_perform : Cond.selects RX3 yX3_perform yX3_perform ∈ gwA := gw_in (mp_1 (yX3_perform, 1) (List.mem_of_getElem? (i := 10) rfl)) rfl
theorem co_X3_enter : Cond.code yX3_enter cX3_enter 4 (some .int) ∈ gwA := gw_in (mt_2 _ (List.mem_of_getElem? (i := 163) rfl)) rfl
theorem ml_X3_25 : Cond.methodLink RX3 25 yX3_work ∈ gwA := gw_in (mt_2 _ (List.mem_of_getElem? (i := 102) rfl)) rfl
theorem im_X3_work : Cond.instanceMethod yX3_work ∈ gwA := gw_in (mt_2 _ (List.mem_of_getElem? (i := 104) rfl)) rfl
theorem se_X3_work : Cond.selects RX3 yX3_work yX3_work ∈ gwA := gw_in (mp_1 (yX3_work, 1) (List.mem_of_getElem? (i := 8) rfl)) rfl
theorem co_X3_lookThrough : Cond.code yX3_lookThrough cX3_lookThrough 7 (some .int) ∈ gwA := gw_in (mt_2 _ (List.mem_of_getElem? (i := 101) rfl)) rfl
theorem fl_X3_72 : Cond.fieldLink RX3 72 "ClassStarts$Kind" "faceCount" "I" ∈ gwA := gw_in (mt_1 _ (List.mem_of_getElem? (i := 170) rfl)) rfl
theorem fl_X3_75 : Cond.fieldLink RX3 75 "ClassStarts$Kind" "faces" "[LClassStarts$Kind;" ∈ gwA := gw_in (mt_1 _ (List.mem_of_getElem? (i := 167) rfl)) rfl
theorem fl_X3_79 : Cond.fieldLink RX3 79 "ClassStarts$Kind" "hasDefaults" "Z" ∈ gwA := gw_in (mt_1 _ (List.mem_of_getElem? (i := 161) rfl)) rfl
theorem ml_X3_66 : Cond.methodLink RX3 66 yX3_lookThrough ∈ gwA := gw_in (mt_2 _ (List.mem_of_getElem? (i := 98) rfl)) rfl
theorem im_X3_lookThrough : Cond.instanceMethod yX3_lookThrough ∈ gwA := gw_in (mt_2 _ (List.mem_of_getElem? (i := 100) rfl)) rfl
theorem se_X3_lookThrough : Cond.selects RX3 yX3_lookThrough yX3_lookThrough ∈ gwA := gw_in (mp_1 (yX3_lookThrough, 1) (List.mem_of_getElem? (i := 7) rfl)) rfl
theorem co_X3_perform : Cond.code yX3_perform cX3_perform 4 (some .int) ∈ gwA := gw_in (mt_2 _ (List.mem_of_getElem? (i := 118) rfl)) rfl
theorem fl_X3_117 : Cond.fieldLink RX3 117 "ClassStarts$Act" "sort" "I" ∈ gwA := gw_in (mt_2 _ (List.mem_of_getElem? (i := 43) rfl)) rfl
theorem fl_X3_120 : Cond.fieldLink RX3 120 "ClassStarts$Act" "a" "I" ∈ gwA := gw_in (mt_2 _ (List.mem_of_getElem? (i := 48) rfl)) rfl
theorem fl_X3_123 : Cond.fieldLink RX3 123 "ClassStarts$Act" "b" "I" ∈ gwA := gw_in (mt_2 _ (List.mem_of_getElem? (i := 51) rfl)) rfl
theorem fl_X3_136 : Cond.fieldLink RX3 136 "ClassStarts$Act" "c" "I" ∈ gwA := gw_in (mt_2 _ (List.mem_of_getElem? (i := 53) rfl)) rfl
theorem ml_X3_126 : Cond.methodLink RX3 126 yX2_change ∈ gwA := gw_in (mt_2 _ (List.mem_of_getElem? (i := 119) rfl)) rfl
theorem im_X2_change : Cond.instanceMethod yX2_change ∈ gwA := gw_in (mt_2 _ (List.mem_of_getElem? (i := 120) rfl)) rfl
theorem se_X2_change : Cond.selects RX2 yX2_change yX2_change ∈ gwA := gw_in (mt_2 _ (List.mem_of_getElem? (i := 121) rfl)) rfl
theorem co_X2_change : Cond.code yX2_change cX2_change 3 none ∈ gwA := gw_in (mt_2 _ (List.mem_of_getElem? (i := 122) rfl)) rfl
theorem ml_X3_129 : Cond.methodLink RX3 129 yX2_valueOf ∈ gwA := gw_in (mt_2 _ (List.mem_of_getElem? (i := 123) rfl)) rfl
theorem im_X2_valueOf : Cond.instanceMethod yX2_valueOf ∈ gwA := gw_in (mt_2 _ (List.mem_of_getElem? (i := 124) rfl)) rfl
theorem se_X2_valueOf : Cond.selects RX2 yX2_valueOf yX2_valueOf ∈ gwA := gw_in (mt_2 _ (List.mem_of_getElem? (i := 125) rfl)) rfl
theorem co_X2_valueOf : Cond.code yX2_valueOf cX2_valueOf 2 (some .int) ∈ gwA := gw_in (mt_2 _ (List.mem_of_getElem? (i := 126) rfl)) rfl
theorem ml_X3_132 : Cond.methodLink RX3 132 yX3_readOther ∈ gwA := gw_in (mt_2 _ (List.mem_of_getElem? (i := 127) rfl)) rfl
theorem im_X3_readOther : Cond.instanceMethod yX3_readOther ∈ gwA := gw_in (mt_2 _ (List.mem_of_getElem? (i := 129) rfl)) rfl
theorem se_X3_readOther : Cond.selects RX3 yX3_readOther yX3_readOther ∈ gwA := gw_in (mp_1 (yX3_readOther, 1) (List.mem_of_getElem? (i := 11) rfl)) rfl
theorem co_X3_readOther : Cond.code yX3_readOther cX3_readOther 4 (some .int) ∈ gwA := gw_in (mt_2 _ (List.mem_of_getElem? (i := 130) rfl)) rfl
theorem fl_X3_161 : Cond.fieldLink RX3 161 "ClassStarts$Journal" "halfSeen" "I" ∈ gwA := gw_in (mt_1 _ (List.mem_of_getElem? (i := 40) rfl)) rfl
theorem ml_X3_157 : Cond.methodLink RX3 157 yX2_isConstant ∈ gwA := gw_in (mt_2 _ (List.mem_of_getElem? (i := 131) rfl)) rfl
theorem ml_X3_139 : Cond.methodLink RX3 139 yX3_divide ∈ gwA := gw_in (mt_2 _ (List.mem_of_getElem? (i := 132) rfl)) rfl
theorem im_X3_divide : Cond.instanceMethod yX3_divide ∈ gwA := gw_in (mt_2 _ (List.mem_of_getElem? (i := 134) rfl)) rfl
theorem se_X3_divide : Cond.selects RX3 yX3_divide yX3_divide ∈ gwA := gw_in (mp_1 (yX3_divide, 1) (List.mem_of_getElem? (i := 12) rfl)) rfl
theorem co_X3_divide : Cond.code yX3_divide cX3_divide 4 (some .int) ∈ gwA := gw_in (mt_2 _ (List.mem_of_getElem? (i := 135) rfl)) rfl
theorem ml_X3_142 : Cond.methodLink RX3 142 yX3_makeRow ∈ gwA := gw_in (mt_2 _ (List.mem_of_getElem? (i := 136) rfl)) rfl
theorem im_X3_makeRow : Cond.instanceMethod yX3_makeRow ∈ gwA := gw_in (mt_2 _ (List.mem_of_getElem? (i := 138) rfl)) rfl
theorem se_X3_makeRow : Cond.selects RX3 yX3_makeRow yX3_makeRow ∈ gwA := gw_in (mp_1 (yX3_makeRow, 1) (List.mem_of_getElem? (i := 13) rfl)) rfl
theorem co_X3_makeRow : Cond.code yX3_makeRow cX3_makeRow 3 (some .int) ∈ gwA := gw_in (mt_2 _ (List.mem_of_getElem? (i := 139) rfl)) rfl
theorem ml_X3_164 : Cond.methodLink RX3 164 yX2_makeRow ∈ gwA := gw_in (mt_2 _ (List.mem_of_getElem? (i := 140) rfl)) rfl
theorem im_X2_makeRow : Cond.instanceMethod yX2_makeRow ∈ gwA := gw_in (mt_2 _ (List.mem_of_getElem? (i := 141) rfl)) rfl
theorem se_X2_makeRow : Cond.selects RX2 yX2_makeRow yX2_makeRow ∈ gwA := gw_in (mt_2 _ (List.mem_of_getElem? (i := 142) rfl)) rfl
theorem co_X2_makeRow : Cond.code yX2_makeRow cX2_makeRow 3 none ∈ gwA := gw_in (mt_2 _ (List.mem_of_getElem? (i := 143) rfl)) rfl
theorem ml_X2_63 : Cond.methodLink RX2 63 Lib.Math.min.name ∈ gwA := gw_in (mt_2 _ (List.mem_of_getElem? (i := 144) rfl)) rfl
theorem ml_X2_69 : Cond.methodLink RX2 69 Lib.Math.max.name ∈ gwA := gw_in (mt_2 _ (List.mem_of_getElem? (i := 145) rfl)) rfl
theorem st_Lib_Math_max_name : Cond.static Lib.Math.max.name ∈ gwA := gw_in (mt_2 _ (List.mem_of_getElem? (i := 146) rfl)) rfl
theorem co_Lib_Math_max_name : Cond.code Lib.Math.max.name Lib.Math.max.code 2 (some .int) ∈ gwA := gw_in (mt_2 _ (List.mem_of_getElem? (i := 147) rfl)) rfl
theorem ml_X3_145 : Cond.methodLink RX3 145 yX3_putItem ∈ gwA := gw_in (mt_2 _ (List.mem_of_getElem? (i := 148) rfl)) rfl
theorem im_X3_putItem : Cond.instanceMethod yX3_putItem ∈ gwA := gw_in (mt_2 _ (List.mem_of_getElem? (i := 150) rfl)) rfl
theorem se_X3_putItem : Cond.selects RX3 yX3_putItem yX3_putItem ∈ gwA := gw_in (mp_1 (yX3_putItem, 1) (List.mem_of_getElem? (i := 14) rfl)) rfl
theorem co_X3_putItem : Cond.code yX3_putItem cX3_putItem 4 (some .int) ∈ gwA := gw_in (mt_2 _ (List.mem_of_getElem? (i := 151) rfl)) rfl
theorem fl_X3_170 : Cond.fieldLink RX3 170 "ClassStarts$Kind" "items" "I" ∈ gwA := gw_in (mt_1 _ (List.mem_of_getElem? (i := 178) rfl)) rfl
theorem fl_X3_173 : Cond.fieldLink RX3 173 "ClassStarts$Kind" "row" "[I" ∈ gwA := gw_in (mt_1 _ (List.mem_of_getElem? (i := 175) rfl)) rfl
theorem ml_X3_167 : Cond.methodLink RX3 167 yX2_hasItem ∈ gwA := gw_in (mt_2 _ (List.mem_of_getElem? (i := 152) rfl)) rfl
theorem im_X2_hasItem : Cond.instanceMethod yX2_hasItem ∈ gwA := gw_in (mt_2 _ (List.mem_of_getElem? (i := 153) rfl)) rfl
theorem se_X2_hasItem : Cond.selects RX2 yX2_hasItem yX2_hasItem ∈ gwA := gw_in (mt_2 _ (List.mem_of_getElem? (i := 154) rfl)) rfl
theorem co_X2_hasItem : Cond.code yX2_hasItem cX2_hasItem 2 (some .boolean) ∈ gwA := gw_in (mt_2 _ (List.mem_of_getElem? (i := 155) rfl)) rfl
theorem ml_X3_148 : Cond.methodLink RX3 148 yX3_takeItem ∈ gwA := gw_in (mt_2 _ (List.mem_of_getElem? (i := 156) rfl)) rfl
theorem im_X3_takeItem : Cond.instanceMethod yX3_takeItem ∈ gwA := gw_in (mt_2 _ (List.mem_of_getElem? (i := 158) rfl)) rfl
theorem se_X3_takeItem : Cond.selects RX3 yX3_takeItem yX3_takeItem ∈ gwA := gw_in (mp_1 (yX3_takeItem, 1) (List.mem_of_getElem? (i := 15) rfl)) rfl
theorem co_X3_takeItem : Cond.code yX3_takeItem cX3_takeItem 4 (some .int) ∈ gwA := gw_in (mt_2 _ (List.mem_of_getElem? (i := 159) rfl)) rfl
theorem ml_X3_151 : Cond.methodLink RX3 151 yX3_enter ∈ gwA := gw_in (mt_2 _ (List.mem_of_getElem? (i := 160) rfl)) rfl
theorem im_X3_enter : Cond.instanceMethod yX3_enter ∈ gwA := gw_in (mt_2 _ (List.mem_of_getElem? (i := 162) rfl)) rfl
theorem se_X3_enter : Cond.selects RX3 yX3_enter yX3_enter ∈ gwA := gw_in (mp_2 (yX3_enter, 1) (List.mem_of_getElem? (i := 0) rfl)) rfl
theorem ml_X3_154 : Cond.methodLink RX3 154 yX2_dropRow ∈ gwA := gw_in (mt_2 _ (List.mem_of_getElem? (i := 164) rfl)) rfl
theorem im_X2_dropRow : Cond.instanceMethod yX2_dropRow ∈ gwA := gw_in (mt_2 _ (List.mem_of_getElem? (i := 165) rfl)) rfl
theorem se_X2_dropRow : Cond.selects RX2 yX2_dropRow yX2_dropRow ∈ gwA := gw_in (mt_2 _ (List.mem_of_getElem? (i := 166) rfl)) rfl
theorem co_X2_dropRow : Cond.code yX2_dropRow cX2_dropRow 1 none ∈ gwA := gw_in (mt_2 _ (List.mem_of_getElem? (i := 167) rfl)) rfl
theorem co_X3_start : Cond.code yX3_start cX3_start 4 (some .int) ∈ gwA := gw_in (mt_2 _ (List.mem_of_getElem? (i := 97) rfl)) rfl
theorem fl_X3_58 : Cond.fieldLink RX3 58 "ClassStarts$Kind" "parent" "LClassStarts$Kind;" ∈ gwA := gw_in (mt_1 _ (List.mem_of_getElem? (i := 163) rfl)) rfl
theorem fl_X3_62 : Cond.fieldLink RX3 62 "ClassStarts$Kind" "isFace" "Z" ∈ gwA := gw_in (mt_1 _ (List.mem_of_getElem? (i := 157) rfl)) rfl
theorem co_X3_work : Cond.code yX3_work cX3_work 9 (some .int) ∈ gwA := gw_in (mt_2 _ (List.mem_of_getElem? (i := 105) rfl)) rfl
theorem fl_X3_82 : Cond.fieldLink RX3 82 "ClassStarts$Kind" "methods" "[LClassStarts$Method;" ∈ gwA := gw_in (mt_1 _ (List.mem_of_getElem? (i := 182) rfl)) rfl
theorem fl_X3_86 : Cond.fieldLink RX3 86 "ClassStarts$Method" "size" "I" ∈ gwA := gw_in (mt_1 _ (List.mem_of_getElem? (i := 143) rfl)) rfl
theorem fl_X3_91 : Cond.fieldLink RX3 91 "ClassStarts$Method" "acts" "[LClassStarts$Act;" ∈ gwA := gw_in (mt_1 _ (List.mem_of_getElem? (i := 140) rfl)) rfl
theorem ml_X3_95 : Cond.methodLink RX3 95 yX3_begin ∈ gwA := gw_in (mt_2 _ (List.mem_of_getElem? (i := 106) rfl)) rfl
theorem im_X3_begin : Cond.instanceMethod yX3_begin ∈ gwA := gw_in (mt_2 _ (List.mem_of_getElem? (i := 108) rfl)) rfl
theorem se_X3_begin : Cond.selects RX3 yX3_begin yX3_begin ∈ gwA := gw_in (mp_1 (yX3_begin, 1) (List.mem_of_getElem? (i := 9) rfl)) rfl
theorem ml_X3_99 : Cond.methodLink RX3 99 yX4_endOfCatch ∈ gwA := gw_in (mt_2 _ (List.mem_of_getElem? (i := 168) rfl)) rfl
theorem im_X4_endOfCatch : Cond.instanceMethod yX4_endOfCatch ∈ gwA := gw_in (mt_2 _ (List.mem_of_getElem? (i := 169) rfl)) rfl
theorem se_X4_endOfCatch : Cond.selects RX4 yX4_endOfCatch yX4_endOfCatch ∈ gwA := gw_in (mt_2 _ (List.mem_of_getElem? (i := 170) rfl)) rfl
theorem co_X4_endOfCatch : Cond.code yX4_endOfCatch cX4_endOfCatch 4 (some .int) ∈ gwA := gw_in (mt_2 _ (List.mem_of_getElem? (i := 171) rfl)) rfl
theorem ml_X4_43 : Cond.methodLink RX4 43 yX0_catches ∈ gwA := gw_in (mt_2 _ (List.mem_of_getElem? (i := 172) rfl)) rfl
theorem im_X0_catches : Cond.instanceMethod yX0_catches ∈ gwA := gw_in (mt_2 _ (List.mem_of_getElem? (i := 173) rfl)) rfl
theorem se_X0_catches : Cond.selects RX0 yX0_catches yX0_catches ∈ gwA := gw_in (mt_2 _ (List.mem_of_getElem? (i := 174) rfl)) rfl
theorem co_X0_catches : Cond.code yX0_catches cX0_catches 2 (some .boolean) ∈ gwA := gw_in (mt_2 _ (List.mem_of_getElem? (i := 175) rfl)) rfl
theorem ml_L_41 : Cond.methodLink RL 41 yX7_run ∈ gwA := gw_in (mt_3 _ (List.mem_of_getElem? (i := 173) rfl)) rfl
theorem im_X7_run : Cond.instanceMethod yX7_run ∈ gwA := gw_in (mt_3 _ (List.mem_of_getElem? (i := 174) rfl)) rfl
theorem se_X7_run : Cond.selects RX7 yX7_run yX7_run ∈ gwA := gw_in (mt_3 _ (List.mem_of_getElem? (i := 175) rfl)) rfl
theorem co_X7_run : Cond.code yX7_run cX7_run 3 (some .int) ∈ gwA := gw_in (mt_3 _ (List.mem_of_getElem? (i := 176) rfl)) rfl
theorem fl_X7_102 : Cond.fieldLink RX7 102 "ClassStartsModel" "events" "I" ∈ gwA := gw_in (mt_3 _ (List.mem_of_getElem? (i := 49) rfl)) rfl
theorem fl_X7_173 : Cond.fieldLink RX7 173 "ClassStartsModel" "half" "I" ∈ gwA := gw_in (mt_3 _ (List.mem_of_getElem? (i := 52) rfl)) rfl
theorem fl_X7_145 : Cond.fieldLink RX7 145 "ClassStartsModel" "worked" "I" ∈ gwA := gw_in (mt_3 _ (List.mem_of_getElem? (i := 53) rfl)) rfl
theorem fl_X7_105 : Cond.fieldLink RX7 105 "ClassStartsModel" "thrown" "I" ∈ gwA := gw_in (mt_3 _ (List.mem_of_getElem? (i := 54) rfl)) rfl
theorem fl_X7_126 : Cond.fieldLink RX7 126 "ClassStartsModel" "within" "I" ∈ gwA := gw_in (mt_3 _ (List.mem_of_getElem? (i := 57) rfl)) rfl
theorem fl_X7_108 : Cond.fieldLink RX7 108 "ClassStartsModel" "frames" "I" ∈ gwA := gw_in (mt_3 _ (List.mem_of_getElem? (i := 58) rfl)) rfl
theorem fl_X7_115 : Cond.fieldLink RX7 115 "ClassStartsModel" "flying" "I" ∈ gwA := gw_in (mt_3 _ (List.mem_of_getElem? (i := 67) rfl)) rfl
theorem fl_X7_142 : Cond.fieldLink RX7 142 "ClassStartsModel" "causeNow" "I" ∈ gwA := gw_in (mt_3 _ (List.mem_of_getElem? (i := 55) rfl)) rfl
theorem ml_X7_122 : Cond.methodLink RX7 122 yX7_push ∈ gwA := gw_in (mt_3 _ (List.mem_of_getElem? (i := 177) rfl)) rfl
theorem im_X7_push : Cond.instanceMethod yX7_push ∈ gwA := gw_in (mt_3 _ (List.mem_of_getElem? (i := 179) rfl)) rfl
theorem se_X7_push : Cond.selects RX7 yX7_push yX7_push ∈ gwA := gw_in (mp_2 (yX7_push, 34) (List.mem_of_getElem? (i := 11) rfl)) rfl
theorem co_X7_push : Cond.code yX7_push cX7_push 4 none ∈ gwA := gw_in (mt_3 _ (List.mem_of_getElem? (i := 180) rfl)) rfl
theorem ml_X7_176 : Cond.methodLink RX7 176 yX7_step ∈ gwA := gw_in (mt_3 _ (List.mem_of_getElem? (i := 181) rfl)) rfl
theorem im_X7_step : Cond.instanceMethod yX7_step ∈ gwA := gw_in (mt_3 _ (List.mem_of_getElem? (i := 183) rfl)) rfl
theorem se_X7_step : Cond.selects RX7 yX7_step yX7_step ∈ gwA := gw_in (mp_2 (yX7_step, 34) (List.mem_of_getElem? (i := 12) rfl)) rfl
theorem co_X7_step : Cond.code yX7_step cX7_step 3 none ∈ gwA := gw_in (mt_3 _ (List.mem_of_getElem? (i := 184) rfl)) rfl
theorem ml_X7_129 : Cond.methodLink RX7 129 yX7_goOn ∈ gwA := gw_in (mt_3 _ (List.mem_of_getElem? (i := 185) rfl)) rfl
theorem im_X7_goOn : Cond.instanceMethod yX7_goOn ∈ gwA := gw_in (mt_3 _ (List.mem_of_getElem? (i := 187) rfl)) rfl
theorem se_X7_goOn : Cond.selects RX7 yX7_goOn yX7_goOn ∈ gwA := gw_in (mp_2 (yX7_goOn, 34) (List.mem_of_getElem? (i := 13) rfl)) rfl
theorem co_X7_goOn : Cond.code yX7_goOn cX7_goOn 6 none ∈ gwA := gw_in (mt_3 _ (List.mem_of_getElem? (i := 188) rfl)) rfl
theorem ml_X7_111 : Cond.methodLink RX7 111 yX7_arise ∈ gwA := gw_in (mt_3 _ (List.mem_of_getElem? (i := 189) rfl)) rfl
theorem im_X7_arise : Cond.instanceMethod yX7_arise ∈ gwA := gw_in (mt_3 _ (List.mem_of_getElem? (i := 191) rfl)) rfl
theorem se_X7_arise : Cond.selects RX7 yX7_arise yX7_arise ∈ gwA := gw_in (mp_2 (yX7_arise, 34) (List.mem_of_getElem? (i := 14) rfl)) rfl
theorem co_X7_arise : Cond.code yX7_arise cX7_arise 2 (some .int) ∈ gwA := gw_in (mt_3 _ (List.mem_of_getElem? (i := 192) rfl)) rfl
theorem ml_X7_148 : Cond.methodLink RX7 148 yX7_wants ∈ gwA := gw_in (mt_3 _ (List.mem_of_getElem? (i := 193) rfl)) rfl
theorem im_X7_wants : Cond.instanceMethod yX7_wants ∈ gwA := gw_in (mt_3 _ (List.mem_of_getElem? (i := 195) rfl)) rfl
theorem se_X7_wants : Cond.selects RX7 yX7_wants yX7_wants ∈ gwA := gw_in (mp_2 (yX7_wants, 34) (List.mem_of_getElem? (i := 15) rfl)) rfl
theorem co_X7_wants : Cond.code yX7_wants cX7_wants 5 (some .int) ∈ gwA := gw_in (mt_3 _ (List.mem_of_getElem? (i := 196) rfl)) rfl
theorem ml_X7_133 : Cond.methodLink RX7 133 yX7_want ∈ gwA := gw_in (mt_3 _ (List.mem_of_getElem? (i := 197) rfl)) rfl
theorem im_X7_want : Cond.instanceMethod yX7_want ∈ gwA := gw_in (mt_3 _ (List.mem_of_getElem? (i := 199) rfl)) rfl
theorem se_X7_want : Cond.selects RX7 yX7_want yX7_want ∈ gwA := gw_in (mp_3 (yX7_want, 34) (List.mem_of_getElem? (i := 0) rfl)) rfl
theorem co_X7_want : Cond.code yX7_want cX7_want 2 none ∈ gwA := gw_in (mt_3 _ (List.mem_of_getElem? (i := 200) rfl)) rfl
theorem ml_X7_118 : Cond.methodLink RX7 118 yX7_tell ∈ gwA := gw_in (mt_3 _ (List.mem_of_getElem? (i := 201) rfl)) rfl
theorem im_X7_tell : Cond.instanceMethod yX7_tell ∈ gwA := gw_in (mt_3 _ (List.mem_of_getElem? (i := 203) rfl)) rfl
theorem se_X7_tell : Cond.selects RX7 yX7_tell yX7_tell ∈ gwA := gw_in (mp_3 (yX7_tell, 34) (List.mem_of_getElem? (i := 1) rfl)) rfl
theorem co_X7_tell : Cond.code yX7_tell cX7_tell 3 none ∈ gwA := gw_in (mt_3 _ (List.mem_of_getElem? (i := 204) rfl)) rfl
theorem ml_X7_136 : Cond.methodLink RX7 136 yX7_enter ∈ gwA := gw_in (mt_3 _ (List.mem_of_getElem? (i := 205) rfl)) rfl
theorem im_X7_enter : Cond.instanceMethod yX7_enter ∈ gwA := gw_in (mt_3 _ (List.mem_of_getElem? (i := 207) rfl)) rfl
theorem se_X7_enter : Cond.selects RX7 yX7_enter yX7_enter ∈ gwA := gw_in (mp_3 (yX7_enter, 34) (List.mem_of_getElem? (i := 2) rfl)) rfl
theorem co_X7_enter : Cond.code yX7_enter cX7_enter 3 none ∈ gwA := gw_in (mt_3 _ (List.mem_of_getElem? (i := 208) rfl)) rfl
theorem ml_X7_152 : Cond.methodLink RX7 152 yX7_doOne ∈ gwA := gw_in (mt_3 _ (List.mem_of_getElem? (i := 209) rfl)) rfl
theorem im_X7_doOne : Cond.instanceMethod yX7_doOne ∈ gwA := gw_in (mt_3 _ (List.mem_of_getElem? (i := 211) rfl)) rfl
theorem se_X7_doOne : Cond.selects RX7 yX7_doOne yX7_doOne ∈ gwA := gw_in (mp_3 (yX7_doOne, 34) (List.mem_of_getElem? (i := 3) rfl)) rfl
theorem co_X7_doOne : Cond.code yX7_doOne cX7_doOne 6 (some .int) ∈ gwA := gw_in (mt_3 _ (List.mem_of_getElem? (i := 212) rfl)) rfl
theorem ml_X7_156 : Cond.methodLink RX7 156 yX7_set ∈ gwA := gw_in (mt_3 _ (List.mem_of_getElem? (i := 213) rfl)) rfl
theorem im_X7_set : Cond.instanceMethod yX7_set ∈ gwA := gw_in (mt_3 _ (List.mem_of_getElem? (i := 215) rfl)) rfl
theorem se_X7_set : Cond.selects RX7 yX7_set yX7_set ∈ gwA := gw_in (mp_3 (yX7_set, 34) (List.mem_of_getElem? (i := 4) rfl)) rfl
theorem co_X7_set : Cond.code yX7_set cX7_set 4 none ∈ gwA := gw_in (mt_3 _ (List.mem_of_getElem? (i := 216) rfl)) rfl
theorem ml_X7_159 : Cond.methodLink RX7 159 yX7_other ∈ gwA := gw_in (mt_3 _ (List.mem_of_getElem? (i := 217) rfl)) rfl
theorem im_X7_other : Cond.instanceMethod yX7_other ∈ gwA := gw_in (mt_3 _ (List.mem_of_getElem? (i := 219) rfl)) rfl
theorem se_X7_other : Cond.selects RX7 yX7_other yX7_other ∈ gwA := gw_in (mp_3 (yX7_other, 34) (List.mem_of_getElem? (i := 5) rfl)) rfl
theorem co_X7_other : Cond.code yX7_other cX7_other 8 (some .int) ∈ gwA := gw_in (mt_3 _ (List.mem_of_getElem? (i := 220) rfl)) rfl
theorem ml_X7_162 : Cond.methodLink RX7 162 yX7_get ∈ gwA := gw_in (mt_3 _ (List.mem_of_getElem? (i := 221) rfl)) rfl
theorem im_X7_get : Cond.instanceMethod yX7_get ∈ gwA := gw_in (mt_3 _ (List.mem_of_getElem? (i := 223) rfl)) rfl
theorem se_X7_get : Cond.selects RX7 yX7_get yX7_get ∈ gwA := gw_in (mp_3 (yX7_get, 34) (List.mem_of_getElem? (i := 6) rfl)) rfl
theorem co_X7_get : Cond.code yX7_get cX7_get 3 (some .int) ∈ gwA := gw_in (mt_3 _ (List.mem_of_getElem? (i := 224) rfl)) rfl
theorem ml_X7_166 : Cond.methodLink RX7 166 yX7_newRow ∈ gwA := gw_in (mt_3 _ (List.mem_of_getElem? (i := 225) rfl)) rfl
theorem im_X7_newRow : Cond.instanceMethod yX7_newRow ∈ gwA := gw_in (mt_3 _ (List.mem_of_getElem? (i := 227) rfl)) rfl
theorem se_X7_newRow : Cond.selects RX7 yX7_newRow yX7_newRow ∈ gwA := gw_in (mp_3 (yX7_newRow, 34) (List.mem_of_getElem? (i := 7) rfl)) rfl
theorem co_X7_newRow : Cond.code yX7_newRow cX7_newRow 5 (some .int) ∈ gwA := gw_in (mt_3 _ (List.mem_of_getElem? (i := 228) rfl)) rfl
theorem ml_X7_169 : Cond.methodLink RX7 169 yX7_inOut ∈ gwA := gw_in (mt_3 _ (List.mem_of_getElem? (i := 229) rfl)) rfl
theorem im_X7_inOut : Cond.instanceMethod yX7_inOut ∈ gwA := gw_in (mt_3 _ (List.mem_of_getElem? (i := 231) rfl)) rfl
theorem se_X7_inOut : Cond.selects RX7 yX7_inOut yX7_inOut ∈ gwA := gw_in (mp_3 (yX7_inOut, 34) (List.mem_of_getElem? (i := 8) rfl)) rfl
theorem co_X7_inOut : Cond.code yX7_inOut cX7_inOut 6 (some .int) ∈ gwA := gw_in (mt_3 _ (List.mem_of_getElem? (i := 232) rfl)) rfl
theorem ml_X7_139 : Cond.methodLink RX7 139 yX7_look ∈ gwA := gw_in (mt_3 _ (List.mem_of_getElem? (i := 233) rfl)) rfl
theorem im_X7_look : Cond.instanceMethod yX7_look ∈ gwA := gw_in (mt_3 _ (List.mem_of_getElem? (i := 235) rfl)) rfl
theorem se_X7_look : Cond.selects RX7 yX7_look yX7_look ∈ gwA := gw_in (mp_3 (yX7_look, 34) (List.mem_of_getElem? (i := 9) rfl)) rfl
theorem co_X7_look : Cond.code yX7_look cX7_look 4 none ∈ gwA := gw_in (mt_3 _ (List.mem_of_getElem? (i := 236) rfl)) rfl
theorem ml_X7_179 : Cond.methodLink RX7 179 yX7_fly ∈ gwA := gw_in (mt_3 _ (List.mem_of_getElem? (i := 237) rfl)) rfl
theorem im_X7_fly : Cond.instanceMethod yX7_fly ∈ gwA := gw_in (mt_3 _ (List.mem_of_getElem? (i := 239) rfl)) rfl
theorem se_X7_fly : Cond.selects RX7 yX7_fly yX7_fly ∈ gwA := gw_in (mp_3 (yX7_fly, 34) (List.mem_of_getElem? (i := 10) rfl)) rfl
theorem co_X7_fly : Cond.code yX7_fly cX7_fly 4 none ∈ gwA := gw_in (mt_4 _ (List.mem_of_getElem? (i := 0) rfl)) rfl
theorem ml_L_42 : Cond.methodLink RL 42 yX6_cause ∈ gwA := gw_in (mt_2 _ (List.mem_of_getElem? (i := 180) rfl)) rfl
theorem im_X6_cause : Cond.instanceMethod yX6_cause ∈ gwA := gw_in (mt_2 _ (List.mem_of_getElem? (i := 181) rfl)) rfl
theorem se_X6_cause : Cond.selects RX6 yX6_cause yX6_cause ∈ gwA := gw_in (mt_2 _ (List.mem_of_getElem? (i := 182) rfl)) rfl
theorem co_X6_cause : Cond.code yX6_cause cX6_cause 2 (some .int) ∈ gwA := gw_in (mt_2 _ (List.mem_of_getElem? (i := 183) rfl)) rfl
theorem fl_X6_99 : Cond.fieldLink RX6 99 "ClassStarts$Machine" "journal" "LClassStarts$Journal;" ∈ gwA := gw_in (mt_1 _ (List.mem_of_getElem? (i := 72) rfl)) rfl
theorem fl_X6_103 : Cond.fieldLink RX6 103 "ClassStarts$Journal" "ended" "I" ∈ gwA := gw_in (mt_1 _ (List.mem_of_getElem? (i := 49) rfl)) rfl
theorem fl_X6_108 : Cond.fieldLink RX6 108 "ClassStarts$Journal" "startCause" "I" ∈ gwA := gw_in (mt_1 _ (List.mem_of_getElem? (i := 52) rfl)) rfl
theorem ml_L_46 : Cond.methodLink RL 46 yX7_cause ∈ gwA := gw_in (mt_4 _ (List.mem_of_getElem? (i := 1) rfl)) rfl
theorem im_X7_cause : Cond.instanceMethod yX7_cause ∈ gwA := gw_in (mt_4 _ (List.mem_of_getElem? (i := 2) rfl)) rfl
theorem se_X7_cause : Cond.selects RX7 yX7_cause yX7_cause ∈ gwA := gw_in (mt_4 _ (List.mem_of_getElem? (i := 3) rfl)) rfl
theorem co_X7_cause : Cond.code yX7_cause cX7_cause 1 (some .int) ∈ gwA := gw_in (mt_4 _ (List.mem_of_getElem? (i := 4) rfl)) rfl
theorem ml_L_47 : Cond.methodLink RL 47 yX6_count ∈ gwA := gw_in (mt_2 _ (List.mem_of_getElem? (i := 184) rfl)) rfl
theorem im_X6_count : Cond.instanceMethod yX6_count ∈ gwA := gw_in (mt_2 _ (List.mem_of_getElem? (i := 185) rfl)) rfl
theorem se_X6_count : Cond.selects RX6 yX6_count yX6_count ∈ gwA := gw_in (mt_2 _ (List.mem_of_getElem? (i := 186) rfl)) rfl
theorem co_X6_count : Cond.code yX6_count cX6_count 3 (some .int) ∈ gwA := gw_in (mt_2 _ (List.mem_of_getElem? (i := 187) rfl)) rfl
theorem fl_X6_111 : Cond.fieldLink RX6 111 "ClassStarts$Journal" "events" "I" ∈ gwA := gw_in (mt_1 _ (List.mem_of_getElem? (i := 37) rfl)) rfl
theorem fl_X6_114 : Cond.fieldLink RX6 114 "ClassStarts$Journal" "halfSeen" "I" ∈ gwA := gw_in (mt_1 _ (List.mem_of_getElem? (i := 39) rfl)) rfl
theorem fl_X6_117 : Cond.fieldLink RX6 117 "ClassStarts$Journal" "acts" "I" ∈ gwA := gw_in (mt_1 _ (List.mem_of_getElem? (i := 43) rfl)) rfl
theorem fl_X6_120 : Cond.fieldLink RX6 120 "ClassStarts$Journal" "raised" "I" ∈ gwA := gw_in (mt_1 _ (List.mem_of_getElem? (i := 46) rfl)) rfl
theorem ml_L_50 : Cond.methodLink RL 50 yX7_count ∈ gwA := gw_in (mt_4 _ (List.mem_of_getElem? (i := 5) rfl)) rfl
theorem im_X7_count : Cond.instanceMethod yX7_count ∈ gwA := gw_in (mt_4 _ (List.mem_of_getElem? (i := 6) rfl)) rfl
theorem se_X7_count : Cond.selects RX7 yX7_count yX7_count ∈ gwA := gw_in (mt_4 _ (List.mem_of_getElem? (i := 7) rfl)) rfl
theorem co_X7_count : Cond.code yX7_count cX7_count 2 (some .int) ∈ gwA := gw_in (mt_4 _ (List.mem_of_getElem? (i := 8) rfl)) rfl
theorem ml_L_51 : Cond.methodLink RL 51 yX6_event ∈ gwA := gw_in (mt_2 _ (List.mem_of_getElem? (i := 188) rfl)) rfl
theorem im_X6_event : Cond.instanceMethod yX6_event ∈ gwA := gw_in (mt_2 _ (List.mem_of_getElem? (i := 189) rfl)) rfl
theorem se_X6_event : Cond.selects RX6 yX6_event yX6_event ∈ gwA := gw_in (mt_2 _ (List.mem_of_getElem? (i := 190) rfl)) rfl
theorem co_X6_event : Cond.code yX6_event cX6_event 4 (some .int) ∈ gwA := gw_in (mt_2 _ (List.mem_of_getElem? (i := 191) rfl)) rfl
theorem fl_X6_123 : Cond.fieldLink RX6 123 "ClassStarts$Journal" "sorts" "[I" ∈ gwA := gw_in (mt_1 _ (List.mem_of_getElem? (i := 33) rfl)) rfl
theorem fl_X6_127 : Cond.fieldLink RX6 127 "ClassStarts$Journal" "values" "[I" ∈ gwA := gw_in (mt_1 _ (List.mem_of_getElem? (i := 35) rfl)) rfl
theorem ml_L_54 : Cond.methodLink RL 54 yX7_event ∈ gwA := gw_in (mt_4 _ (List.mem_of_getElem? (i := 9) rfl)) rfl
theorem im_X7_event : Cond.instanceMethod yX7_event ∈ gwA := gw_in (mt_4 _ (List.mem_of_getElem? (i := 10) rfl)) rfl
theorem se_X7_event : Cond.selects RX7 yX7_event yX7_event ∈ gwA := gw_in (mt_4 _ (List.mem_of_getElem? (i := 11) rfl)) rfl
theorem co_X7_event : Cond.code yX7_event cX7_event 3 (some .int) ∈ gwA := gw_in (mt_4 _ (List.mem_of_getElem? (i := 12) rfl)) rfl
theorem ml_L_55 : Cond.methodLink RL 55 yX6_state ∈ gwA := gw_in (mt_2 _ (List.mem_of_getElem? (i := 192) rfl)) rfl
theorem im_X6_state : Cond.instanceMethod yX6_state ∈ gwA := gw_in (mt_2 _ (List.mem_of_getElem? (i := 193) rfl)) rfl
theorem se_X6_state : Cond.selects RX6 yX6_state yX6_state ∈ gwA := gw_in (mt_2 _ (List.mem_of_getElem? (i := 194) rfl)) rfl
theorem co_X6_state : Cond.code yX6_state cX6_state 3 (some .int) ∈ gwA := gw_in (mt_2 _ (List.mem_of_getElem? (i := 195) rfl)) rfl
theorem ml_L_58 : Cond.methodLink RL 58 yX7_state ∈ gwA := gw_in (mt_4 _ (List.mem_of_getElem? (i := 13) rfl)) rfl
theorem im_X7_state : Cond.instanceMethod yX7_state ∈ gwA := gw_in (mt_4 _ (List.mem_of_getElem? (i := 14) rfl)) rfl
theorem se_X7_state : Cond.selects RX7 yX7_state yX7_state ∈ gwA := gw_in (mt_4 _ (List.mem_of_getElem? (i := 15) rfl)) rfl
theorem co_X7_state : Cond.code yX7_state cX7_state 2 (some .int) ∈ gwA := gw_in (mt_4 _ (List.mem_of_getElem? (i := 16) rfl)) rfl
theorem ml_L_59 : Cond.methodLink RL 59 yX6_field ∈ gwA := gw_in (mt_2 _ (List.mem_of_getElem? (i := 196) rfl)) rfl
theorem im_X6_field : Cond.instanceMethod yX6_field ∈ gwA := gw_in (mt_2 _ (List.mem_of_getElem? (i := 197) rfl)) rfl
theorem se_X6_field : Cond.selects RX6 yX6_field yX6_field ∈ gwA := gw_in (mt_2 _ (List.mem_of_getElem? (i := 198) rfl)) rfl
theorem co_X6_field : Cond.code yX6_field cX6_field 4 (some .int) ∈ gwA := gw_in (mt_2 _ (List.mem_of_getElem? (i := 199) rfl)) rfl
theorem ml_X6_130 : Cond.methodLink RX6 130 yX2_valueOf ∈ gwA := gw_in (mt_2 _ (List.mem_of_getElem? (i := 200) rfl)) rfl
theorem ml_L_62 : Cond.methodLink RL 62 yX7_field ∈ gwA := gw_in (mt_4 _ (List.mem_of_getElem? (i := 17) rfl)) rfl
theorem im_X7_field : Cond.instanceMethod yX7_field ∈ gwA := gw_in (mt_4 _ (List.mem_of_getElem? (i := 18) rfl)) rfl
theorem se_X7_field : Cond.selects RX7 yX7_field yX7_field ∈ gwA := gw_in (mt_4 _ (List.mem_of_getElem? (i := 19) rfl)) rfl
theorem co_X7_field : Cond.code yX7_field cX7_field 3 (some .int) ∈ gwA := gw_in (mt_4 _ (List.mem_of_getElem? (i := 20) rfl)) rfl
theorem ml_L_63 : Cond.methodLink RL 63 yX6_row ∈ gwA := gw_in (mt_2 _ (List.mem_of_getElem? (i := 201) rfl)) rfl
theorem im_X6_row : Cond.instanceMethod yX6_row ∈ gwA := gw_in (mt_2 _ (List.mem_of_getElem? (i := 202) rfl)) rfl
theorem se_X6_row : Cond.selects RX6 yX6_row yX6_row ∈ gwA := gw_in (mt_2 _ (List.mem_of_getElem? (i := 203) rfl)) rfl
theorem co_X6_row : Cond.code yX6_row cX6_row 3 (some .int) ∈ gwA := gw_in (mt_2 _ (List.mem_of_getElem? (i := 204) rfl)) rfl
theorem fl_X6_134 : Cond.fieldLink RX6 134 "ClassStarts$Kind" "items" "I" ∈ gwA := gw_in (mt_1 _ (List.mem_of_getElem? (i := 177) rfl)) rfl
theorem ml_L_66 : Cond.methodLink RL 66 yX7_row ∈ gwA := gw_in (mt_4 _ (List.mem_of_getElem? (i := 21) rfl)) rfl
theorem im_X7_row : Cond.instanceMethod yX7_row ∈ gwA := gw_in (mt_4 _ (List.mem_of_getElem? (i := 22) rfl)) rfl
theorem se_X7_row : Cond.selects RX7 yX7_row yX7_row ∈ gwA := gw_in (mt_4 _ (List.mem_of_getElem? (i := 23) rfl)) rfl
theorem co_X7_row : Cond.code yX7_row cX7_row 2 (some .int) ∈ gwA := gw_in (mt_4 _ (List.mem_of_getElem? (i := 24) rfl)) rfl
theorem ml_L_67 : Cond.methodLink RL 67 yX6_item ∈ gwA := gw_in (mt_2 _ (List.mem_of_getElem? (i := 205) rfl)) rfl
theorem im_X6_item : Cond.instanceMethod yX6_item ∈ gwA := gw_in (mt_2 _ (List.mem_of_getElem? (i := 206) rfl)) rfl
theorem se_X6_item : Cond.selects RX6 yX6_item yX6_item ∈ gwA := gw_in (mt_2 _ (List.mem_of_getElem? (i := 207) rfl)) rfl
theorem co_X6_item : Cond.code yX6_item cX6_item 4 (some .int) ∈ gwA := gw_in (mt_2 _ (List.mem_of_getElem? (i := 208) rfl)) rfl
theorem fl_X6_140 : Cond.fieldLink RX6 140 "ClassStarts$Kind" "row" "[I" ∈ gwA := gw_in (mt_1 _ (List.mem_of_getElem? (i := 174) rfl)) rfl
theorem ml_X6_137 : Cond.methodLink RX6 137 yX2_hasItem ∈ gwA := gw_in (mt_2 _ (List.mem_of_getElem? (i := 209) rfl)) rfl
theorem ml_L_70 : Cond.methodLink RL 70 yX7_item ∈ gwA := gw_in (mt_4 _ (List.mem_of_getElem? (i := 25) rfl)) rfl
theorem im_X7_item : Cond.instanceMethod yX7_item ∈ gwA := gw_in (mt_4 _ (List.mem_of_getElem? (i := 26) rfl)) rfl
theorem se_X7_item : Cond.selects RX7 yX7_item yX7_item ∈ gwA := gw_in (mt_4 _ (List.mem_of_getElem? (i := 27) rfl)) rfl
theorem co_X7_item : Cond.code yX7_item cX7_item 3 (some .int) ∈ gwA := gw_in (mt_4 _ (List.mem_of_getElem? (i := 28) rfl)) rfl
theorem ml_L_71 : Cond.methodLink RL 71 yX6_again ∈ gwA := gw_in (mt_2 _ (List.mem_of_getElem? (i := 210) rfl)) rfl
theorem im_X6_again : Cond.instanceMethod yX6_again ∈ gwA := gw_in (mt_2 _ (List.mem_of_getElem? (i := 211) rfl)) rfl
theorem se_X6_again : Cond.selects RX6 yX6_again yX6_again ∈ gwA := gw_in (mt_2 _ (List.mem_of_getElem? (i := 212) rfl)) rfl
theorem co_X6_again : Cond.code yX6_again cX6_again 3 (some .int) ∈ gwA := gw_in (mt_2 _ (List.mem_of_getElem? (i := 213) rfl)) rfl
theorem ml_X6_143 : Cond.methodLink RX6 143 yX2_reset ∈ gwA := gw_in (mt_2 _ (List.mem_of_getElem? (i := 214) rfl)) rfl
theorem im_X2_reset : Cond.instanceMethod yX2_reset ∈ gwA := gw_in (mt_2 _ (List.mem_of_getElem? (i := 215) rfl)) rfl
theorem se_X2_reset : Cond.selects RX2 yX2_reset yX2_reset ∈ gwA := gw_in (mt_2 _ (List.mem_of_getElem? (i := 216) rfl)) rfl
theorem co_X2_reset : Cond.code yX2_reset cX2_reset 2 none ∈ gwA := gw_in (mt_2 _ (List.mem_of_getElem? (i := 217) rfl)) rfl
theorem ml_X2_72 : Cond.methodLink RX2 72 yX2_dropRow ∈ gwA := gw_in (mt_2 _ (List.mem_of_getElem? (i := 218) rfl)) rfl
theorem ml_X2_75 : Cond.methodLink RX2 75 yX2_change ∈ gwA := gw_in (mt_2 _ (List.mem_of_getElem? (i := 219) rfl)) rfl
theorem ml_L_74 : Cond.methodLink RL 74 yX7_again ∈ gwA := gw_in (mt_4 _ (List.mem_of_getElem? (i := 29) rfl)) rfl
theorem im_X7_again : Cond.instanceMethod yX7_again ∈ gwA := gw_in (mt_4 _ (List.mem_of_getElem? (i := 30) rfl)) rfl
theorem se_X7_again : Cond.selects RX7 yX7_again yX7_again ∈ gwA := gw_in (mt_4 _ (List.mem_of_getElem? (i := 31) rfl)) rfl
theorem co_X7_again : Cond.code yX7_again cX7_again 4 (some .int) ∈ gwA := gw_in (mt_4 _ (List.mem_of_getElem? (i := 32) rfl)) rfl
theorem ml_L_75 : Cond.methodLink RL 75 yX6_may ∈ gwA := gw_in (mt_2 _ (List.mem_of_getElem? (i := 220) rfl)) rfl
theorem im_X6_may : Cond.instanceMethod yX6_may ∈ gwA := gw_in (mt_2 _ (List.mem_of_getElem? (i := 221) rfl)) rfl
theorem se_X6_may : Cond.selects RX6 yX6_may yX6_may ∈ gwA := gw_in (mt_2 _ (List.mem_of_getElem? (i := 222) rfl)) rfl
theorem co_X6_may : Cond.code yX6_may cX6_may 4 (some .int) ∈ gwA := gw_in (mt_2 _ (List.mem_of_getElem? (i := 223) rfl)) rfl
theorem ml_X6_146 : Cond.methodLink RX6 146 yX5_ofMethod ∈ gwA := gw_in (mt_2 _ (List.mem_of_getElem? (i := 224) rfl)) rfl
theorem im_X5_ofMethod : Cond.instanceMethod yX5_ofMethod ∈ gwA := gw_in (mt_2 _ (List.mem_of_getElem? (i := 225) rfl)) rfl
theorem se_X5_ofMethod : Cond.selects RX5 yX5_ofMethod yX5_ofMethod ∈ gwA := gw_in (mt_2 _ (List.mem_of_getElem? (i := 226) rfl)) rfl
theorem co_X5_ofMethod : Cond.code yX5_ofMethod cX5_ofMethod 4 (some .int) ∈ gwA := gw_in (mt_2 _ (List.mem_of_getElem? (i := 227) rfl)) rfl
theorem fl_X5_37 : Cond.fieldLink RX5 37 "ClassStarts$Kind" "methods" "[LClassStarts$Method;" ∈ gwA := gw_in (mt_1 _ (List.mem_of_getElem? (i := 180) rfl)) rfl
theorem ml_X5_30 : Cond.methodLink RX5 30 yX5_clear ∈ gwA := gw_in (mt_2 _ (List.mem_of_getElem? (i := 228) rfl)) rfl
theorem im_X5_clear : Cond.instanceMethod yX5_clear ∈ gwA := gw_in (mt_2 _ (List.mem_of_getElem? (i := 230) rfl)) rfl
theorem se_X5_clear : Cond.selects RX5 yX5_clear yX5_clear ∈ gwA := gw_in (mp_2 (yX5_clear, 4) (List.mem_of_getElem? (i := 2) rfl)) rfl
theorem co_X5_clear : Cond.code yX5_clear cX5_clear 1 none ∈ gwA := gw_in (mt_2 _ (List.mem_of_getElem? (i := 231) rfl)) rfl
theorem ml_X5_33 : Cond.methodLink RX5 33 yX5_want ∈ gwA := gw_in (mt_2 _ (List.mem_of_getElem? (i := 232) rfl)) rfl
theorem im_X5_want : Cond.instanceMethod yX5_want ∈ gwA := gw_in (mt_2 _ (List.mem_of_getElem? (i := 234) rfl)) rfl
theorem se_X5_want : Cond.selects RX5 yX5_want yX5_want ∈ gwA := gw_in (mp_2 (yX5_want, 4) (List.mem_of_getElem? (i := 3) rfl)) rfl
theorem co_X5_want : Cond.code yX5_want cX5_want 4 none ∈ gwA := gw_in (mt_2 _ (List.mem_of_getElem? (i := 235) rfl)) rfl
theorem fl_X5_73 : Cond.fieldLink RX5 73 "ClassStarts$Kind" "isFace" "Z" ∈ gwA := gw_in (mt_1 _ (List.mem_of_getElem? (i := 158) rfl)) rfl
theorem fl_X5_81 : Cond.fieldLink RX5 81 "ClassStarts$Kind" "parent" "LClassStarts$Kind;" ∈ gwA := gw_in (mt_1 _ (List.mem_of_getElem? (i := 164) rfl)) rfl
theorem ml_X5_66 : Cond.methodLink RX5 66 yX5_isWanted ∈ gwA := gw_in (mt_2 _ (List.mem_of_getElem? (i := 236) rfl)) rfl
theorem im_X5_isWanted : Cond.instanceMethod yX5_isWanted ∈ gwA := gw_in (mt_2 _ (List.mem_of_getElem? (i := 238) rfl)) rfl
theorem se_X5_isWanted : Cond.selects RX5 yX5_isWanted yX5_isWanted ∈ gwA := gw_in (mp_2 (yX5_isWanted, 4) (List.mem_of_getElem? (i := 4) rfl)) rfl
theorem co_X5_isWanted : Cond.code yX5_isWanted cX5_isWanted 2 (some .boolean) ∈ gwA := gw_in (mt_2 _ (List.mem_of_getElem? (i := 239) rfl)) rfl
theorem ml_X5_94 : Cond.methodLink RX5 94 yX2_bit ∈ gwA := gw_in (mt_3 _ (List.mem_of_getElem? (i := 0) rfl)) rfl
theorem im_X2_bit : Cond.instanceMethod yX2_bit ∈ gwA := gw_in (mt_3 _ (List.mem_of_getElem? (i := 1) rfl)) rfl
theorem se_X2_bit : Cond.selects RX2 yX2_bit yX2_bit ∈ gwA := gw_in (mt_3 _ (List.mem_of_getElem? (i := 2) rfl)) rfl
theorem co_X2_bit : Cond.code yX2_bit cX2_bit 1 (some .int) ∈ gwA := gw_in (mt_3 _ (List.mem_of_getElem? (i := 3) rfl)) rfl
theorem ml_X5_70 : Cond.methodLink RX5 70 yX5_add ∈ gwA := gw_in (mt_3 _ (List.mem_of_getElem? (i := 4) rfl)) rfl
theorem im_X5_add : Cond.instanceMethod yX5_add ∈ gwA := gw_in (mt_3 _ (List.mem_of_getElem? (i := 6) rfl)) rfl
theorem se_X5_add : Cond.selects RX5 yX5_add yX5_add ∈ gwA := gw_in (mp_2 (yX5_add, 4) (List.mem_of_getElem? (i := 5) rfl)) rfl
theorem co_X5_add : Cond.code yX5_add cX5_add 2 none ∈ gwA := gw_in (mt_3 _ (List.mem_of_getElem? (i := 7) rfl)) rfl
theorem ml_X5_38 : Cond.methodLink RX5 38 yX5_list ∈ gwA := gw_in (mt_3 _ (List.mem_of_getElem? (i := 8) rfl)) rfl
theorem im_X5_list : Cond.instanceMethod yX5_list ∈ gwA := gw_in (mt_3 _ (List.mem_of_getElem? (i := 10) rfl)) rfl
theorem se_X5_list : Cond.selects RX5 yX5_list yX5_list ∈ gwA := gw_in (mp_2 (yX5_list, 4) (List.mem_of_getElem? (i := 6) rfl)) rfl
theorem co_X5_list : Cond.code yX5_list cX5_list 4 none ∈ gwA := gw_in (mt_3 _ (List.mem_of_getElem? (i := 11) rfl)) rfl
theorem fl_X5_98 : Cond.fieldLink RX5 98 "ClassStarts$Method" "number" "I" ∈ gwA := gw_in (mt_1 _ (List.mem_of_getElem? (i := 137) rfl)) rfl
theorem ml_X5_77 : Cond.methodLink RX5 77 yX5_lookThrough ∈ gwA := gw_in (mt_3 _ (List.mem_of_getElem? (i := 12) rfl)) rfl
theorem im_X5_lookThrough : Cond.instanceMethod yX5_lookThrough ∈ gwA := gw_in (mt_3 _ (List.mem_of_getElem? (i := 14) rfl)) rfl
theorem se_X5_lookThrough : Cond.selects RX5 yX5_lookThrough yX5_lookThrough ∈ gwA := gw_in (mp_2 (yX5_lookThrough, 4) (List.mem_of_getElem? (i := 7) rfl)) rfl
theorem co_X5_lookThrough : Cond.code yX5_lookThrough cX5_lookThrough 5 none ∈ gwA := gw_in (mt_3 _ (List.mem_of_getElem? (i := 15) rfl)) rfl
theorem fl_X5_84 : Cond.fieldLink RX5 84 "ClassStarts$Kind" "faceCount" "I" ∈ gwA := gw_in (mt_1 _ (List.mem_of_getElem? (i := 169) rfl)) rfl
theorem fl_X5_87 : Cond.fieldLink RX5 87 "ClassStarts$Kind" "faces" "[LClassStarts$Kind;" ∈ gwA := gw_in (mt_1 _ (List.mem_of_getElem? (i := 166) rfl)) rfl
theorem fl_X5_91 : Cond.fieldLink RX5 91 "ClassStarts$Kind" "hasDefaults" "Z" ∈ gwA := gw_in (mt_1 _ (List.mem_of_getElem? (i := 160) rfl)) rfl
theorem ml_X5_42 : Cond.methodLink RX5 42 yX5_follow ∈ gwA := gw_in (mt_3 _ (List.mem_of_getElem? (i := 16) rfl)) rfl
theorem im_X5_follow : Cond.instanceMethod yX5_follow ∈ gwA := gw_in (mt_3 _ (List.mem_of_getElem? (i := 18) rfl)) rfl
theorem se_X5_follow : Cond.selects RX5 yX5_follow yX5_follow ∈ gwA := gw_in (mp_2 (yX5_follow, 4) (List.mem_of_getElem? (i := 8) rfl)) rfl
theorem co_X5_follow : Cond.code yX5_follow cX5_follow 4 none ∈ gwA := gw_in (mt_3 _ (List.mem_of_getElem? (i := 19) rfl)) rfl
theorem fl_X5_45 : Cond.fieldLink RX5 45 "ClassStarts$Method" "size" "I" ∈ gwA := gw_in (mt_1 _ (List.mem_of_getElem? (i := 142) rfl)) rfl
theorem fl_X5_46 : Cond.fieldLink RX5 46 "ClassStarts$Method" "acts" "[LClassStarts$Act;" ∈ gwA := gw_in (mt_1 _ (List.mem_of_getElem? (i := 139) rfl)) rfl
theorem fl_X5_56 : Cond.fieldLink RX5 56 "ClassStarts$Act" "other" "LClassStarts$Kind;" ∈ gwA := gw_in (mt_2 _ (List.mem_of_getElem? (i := 45) rfl)) rfl
theorem fl_X5_60 : Cond.fieldLink RX5 60 "ClassStarts$Act" "sort" "I" ∈ gwA := gw_in (mt_2 _ (List.mem_of_getElem? (i := 42) rfl)) rfl
theorem fl_X5_63 : Cond.fieldLink RX5 63 "ClassStarts$Act" "b" "I" ∈ gwA := gw_in (mt_2 _ (List.mem_of_getElem? (i := 50) rfl)) rfl
theorem ml_X5_50 : Cond.methodLink RX5 50 yX0_wants ∈ gwA := gw_in (mt_3 _ (List.mem_of_getElem? (i := 20) rfl)) rfl
theorem ml_L_78 : Cond.methodLink RL 78 yX7_may ∈ gwA := gw_in (mt_4 _ (List.mem_of_getElem? (i := 33) rfl)) rfl
theorem im_X7_may : Cond.instanceMethod yX7_may ∈ gwA := gw_in (mt_4 _ (List.mem_of_getElem? (i := 34) rfl)) rfl
theorem se_X7_may : Cond.selects RX7 yX7_may yX7_may ∈ gwA := gw_in (mt_4 _ (List.mem_of_getElem? (i := 35) rfl)) rfl
theorem co_X7_may : Cond.code yX7_may cX7_may 5 (some .int) ∈ gwA := gw_in (mt_4 _ (List.mem_of_getElem? (i := 36) rfl)) rfl
theorem fl_X7_182 : Cond.fieldLink RX7 182 "ClassStartsModel" "wanted" "I" ∈ gwA := gw_in (mt_3 _ (List.mem_of_getElem? (i := 68) rfl)) rfl
theorem ml_X7_188 : Cond.methodLink RX7 188 yX7_mayWant ∈ gwA := gw_in (mt_4 _ (List.mem_of_getElem? (i := 37) rfl)) rfl
theorem im_X7_mayWant : Cond.instanceMethod yX7_mayWant ∈ gwA := gw_in (mt_4 _ (List.mem_of_getElem? (i := 39) rfl)) rfl
theorem se_X7_mayWant : Cond.selects RX7 yX7_mayWant yX7_mayWant ∈ gwA := gw_in (mp_3 (yX7_mayWant, 34) (List.mem_of_getElem? (i := 11) rfl)) rfl
theorem co_X7_mayWant : Cond.code yX7_mayWant cX7_mayWant 2 none ∈ gwA := gw_in (mt_4 _ (List.mem_of_getElem? (i := 40) rfl)) rfl
theorem ml_X7_185 : Cond.methodLink RX7 185 yX7_mayLook ∈ gwA := gw_in (mt_4 _ (List.mem_of_getElem? (i := 41) rfl)) rfl
theorem im_X7_mayLook : Cond.instanceMethod yX7_mayLook ∈ gwA := gw_in (mt_4 _ (List.mem_of_getElem? (i := 43) rfl)) rfl
theorem se_X7_mayLook : Cond.selects RX7 yX7_mayLook yX7_mayLook ∈ gwA := gw_in (mp_3 (yX7_mayLook, 34) (List.mem_of_getElem? (i := 12) rfl)) rfl
theorem co_X7_mayLook : Cond.code yX7_mayLook cX7_mayLook 5 none ∈ gwA := gw_in (mt_4 _ (List.mem_of_getElem? (i := 44) rfl)) rfl
theorem ml_X7_191 : Cond.methodLink RX7 191 yX7_mayActs ∈ gwA := gw_in (mt_4 _ (List.mem_of_getElem? (i := 45) rfl)) rfl
theorem im_X7_mayActs : Cond.instanceMethod yX7_mayActs ∈ gwA := gw_in (mt_4 _ (List.mem_of_getElem? (i := 47) rfl)) rfl
theorem se_X7_mayActs : Cond.selects RX7 yX7_mayActs yX7_mayActs ∈ gwA := gw_in (mp_3 (yX7_mayActs, 34) (List.mem_of_getElem? (i := 13) rfl)) rfl
theorem co_X7_mayActs : Cond.code yX7_mayActs cX7_mayActs 7 none ∈ gwA := gw_in (mt_4 _ (List.mem_of_getElem? (i := 48) rfl)) rfl
theorem ml_L_79 : Cond.methodLink RL 79 yX6_ahead ∈ gwA := gw_in (mt_3 _ (List.mem_of_getElem? (i := 21) rfl)) rfl
theorem im_X6_ahead : Cond.instanceMethod yX6_ahead ∈ gwA := gw_in (mt_3 _ (List.mem_of_getElem? (i := 22) rfl)) rfl
theorem se_X6_ahead : Cond.selects RX6 yX6_ahead yX6_ahead ∈ gwA := gw_in (mt_3 _ (List.mem_of_getElem? (i := 23) rfl)) rfl
theorem co_X6_ahead : Cond.code yX6_ahead cX6_ahead 5 (some .int) ∈ gwA := gw_in (mt_3 _ (List.mem_of_getElem? (i := 24) rfl)) rfl
theorem ml_X6_149 : Cond.methodLink RX6 149 yX5_ofStart ∈ gwA := gw_in (mt_3 _ (List.mem_of_getElem? (i := 25) rfl)) rfl
theorem im_X5_ofStart : Cond.instanceMethod yX5_ofStart ∈ gwA := gw_in (mt_3 _ (List.mem_of_getElem? (i := 26) rfl)) rfl
theorem se_X5_ofStart : Cond.selects RX5 yX5_ofStart yX5_ofStart ∈ gwA := gw_in (mt_3 _ (List.mem_of_getElem? (i := 27) rfl)) rfl
theorem co_X5_ofStart : Cond.code yX5_ofStart cX5_ofStart 2 (some .int) ∈ gwA := gw_in (mt_3 _ (List.mem_of_getElem? (i := 28) rfl)) rfl
theorem ml_X6_152 : Cond.methodLink RX6 152 yX2_bit ∈ gwA := gw_in (mt_3 _ (List.mem_of_getElem? (i := 29) rfl)) rfl
theorem ml_L_82 : Cond.methodLink RL 82 yX7_ahead ∈ gwA := gw_in (mt_4 _ (List.mem_of_getElem? (i := 49) rfl)) rfl
theorem im_X7_ahead : Cond.instanceMethod yX7_ahead ∈ gwA := gw_in (mt_4 _ (List.mem_of_getElem? (i := 50) rfl)) rfl
theorem se_X7_ahead : Cond.selects RX7 yX7_ahead yX7_ahead ∈ gwA := gw_in (mt_4 _ (List.mem_of_getElem? (i := 51) rfl)) rfl
theorem co_X7_ahead : Cond.code yX7_ahead cX7_ahead 5 (some .int) ∈ gwA := gw_in (mt_4 _ (List.mem_of_getElem? (i := 52) rfl)) rfl
theorem inX0 : ∀ w ∈ u_ws RX0 TX0 6, w ∈ gwA := List.forall_mem_cons.mpr ⟨gw_in (mt_2 _ (List.mem_of_getElem? (i := 56) rfl)) rfl, List.forall_mem_cons.mpr ⟨gw_in (mt_2 _ (List.mem_of_getElem? (i := 58) rfl)) rfl, List.forall_mem_cons.mpr ⟨gw_in (mt_2 _ (List.mem_of_getElem? (i := 60) rfl)) rfl, List.forall_mem_cons.mpr ⟨gw_in (mt_2 _ (List.mem_of_getElem? (i := 62) rfl)) rfl, List.forall_mem_cons.mpr ⟨gw_in (mt_2 _ (List.mem_of_getElem? (i := 64) rfl)) rfl, List.forall_mem_cons.mpr ⟨gw_in (mt_2 _ (List.mem_of_getElem? (i := 66) rfl)) rfl, fun _ h => absurd h List.not_mem_nil⟩⟩⟩⟩⟩⟩
theorem inX1 : ∀ w ∈ u_ws RX1 TX1 8, w ∈ gwA := List.forall_mem_cons.mpr ⟨gw_in (mt_1 _ (List.mem_of_getElem? (i := 53) rfl)) rfl, List.forall_mem_cons.mpr ⟨gw_in (mt_1 _ (List.mem_of_getElem? (i := 55) rfl)) rfl, List.forall_mem_cons.mpr ⟨gw_in (mt_1 _ (List.mem_of_getElem? (i := 57) rfl)) rfl, List.forall_mem_cons.mpr ⟨gw_in (mt_1 _ (List.mem_of_getElem? (i := 59) rfl)) rfl, List.forall_mem_cons.mpr ⟨gw_in (mt_1 _ (List.mem_of_getElem? (i := 61) rfl)) rfl, List.forall_mem_cons.mpr ⟨gw_in (mt_1 _ (List.mem_of_getElem? (i := 63) rfl)) rfl, List.forall_mem_cons.mpr ⟨gw_in (mt_1 _ (List.mem_of_getElem? (i := 65) rfl)) rfl, List.forall_mem_cons.mpr ⟨gw_in (mt_1 _ (List.mem_of_getElem? (i := 67) rfl)) rfl, fun _ h => absurd h List.not_mem_nil⟩⟩⟩⟩⟩⟩⟩⟩
theorem inX2 : ∀ w ∈ u_ws RX2 TX2 12, w ∈ gwA := List.forall_mem_cons.mpr ⟨gw_in (mt_1 _ (List.mem_of_getElem? (i := 186) rfl)) rfl, List.forall_mem_cons.mpr ⟨gw_in (mt_1 _ (List.mem_of_getElem? (i := 188) rfl)) rfl, List.forall_mem_cons.mpr ⟨gw_in (mt_1 _ (List.mem_of_getElem? (i := 190) rfl)) rfl, List.forall_mem_cons.mpr ⟨gw_in (mt_1 _ (List.mem_of_getElem? (i := 192) rfl)) rfl, List.forall_mem_cons.mpr ⟨gw_in (mt_1 _ (List.mem_of_getElem? (i := 194) rfl)) rfl, List.forall_mem_cons.mpr ⟨gw_in (mt_1 _ (List.mem_of_getElem? (i := 196) rfl)) rfl, List.forall_mem_cons.mpr ⟨gw_in (mt_1 _ (List.mem_of_getElem? (i := 198) rfl)) rfl, List.forall_mem_cons.mpr ⟨gw_in (mt_1 _ (List.mem_of_getElem? (i := 200) rfl)) rfl, List.forall_mem_cons.mpr ⟨gw_in (mt_1 _ (List.mem_of_getElem? (i := 202) rfl)) rfl, List.forall_mem_cons.mpr ⟨gw_in (mt_1 _ (List.mem_of_getElem? (i := 204) rfl)) rfl, List.forall_mem_cons.mpr ⟨gw_in (mt_1 _ (List.mem_of_getElem? (i := 206) rfl)) rfl, List.forall_mem_cons.mpr ⟨gw_in (mt_1 _ (List.mem_of_getElem? (i := 208) rfl)) rfl, fun _ h => absurd h List.not_mem_nil⟩⟩⟩⟩⟩⟩⟩⟩⟩⟩⟩⟩
theorem inX3 : ∀ w ∈ u_ws RX3 TX3 1, w ∈ gwA := List.forall_mem_cons.mpr ⟨gw_in (mt_1 _ (List.mem_of_getElem? (i := 73) rfl)) rfl, fun _ h => absurd h List.not_mem_nil⟩
theorem inX4 : ∀ w ∈ u_ws RX4 TX4 3, w ∈ gwA := List.forall_mem_cons.mpr ⟨gw_in (mt_1 _ (List.mem_of_getElem? (i := 144) rfl)) rfl, List.forall_mem_cons.mpr ⟨gw_in (mt_1 _ (List.mem_of_getElem? (i := 146) rfl)) rfl, List.forall_mem_cons.mpr ⟨gw_in (mt_1 _ (List.mem_of_getElem? (i := 148) rfl)) rfl, fun _ h => absurd h List.not_mem_nil⟩⟩⟩
theorem inX5 : ∀ w ∈ u_ws RX5 TX5 4, w ∈ gwA := List.forall_mem_cons.mpr ⟨gw_in (mt_1 _ (List.mem_of_getElem? (i := 88) rfl)) rfl, List.forall_mem_cons.mpr ⟨gw_in (mt_1 _ (List.mem_of_getElem? (i := 90) rfl)) rfl, List.forall_mem_cons.mpr ⟨gw_in (mt_1 _ (List.mem_of_getElem? (i := 92) rfl)) rfl, List.forall_mem_cons.mpr ⟨gw_in (mt_1 _ (List.mem_of_getElem? (i := 94) rfl)) rfl, fun _ h => absurd h List.not_mem_nil⟩⟩⟩⟩
theorem inX6 : ∀ w ∈ u_ws RX6 TX6 4, w ∈ gwA := List.forall_mem_cons.mpr ⟨gw_in (mt_1 _ (List.mem_of_getElem? (i := 101) rfl)) rfl, List.forall_mem_cons.mpr ⟨gw_in (mt_1 _ (List.mem_of_getElem? (i := 103) rfl)) rfl, List.forall_mem_cons.mpr ⟨gw_in (mt_1 _ (List.mem_of_getElem? (i := 105) rfl)) rfl, List.forall_mem_cons.mpr ⟨gw_in (mt_1 _ (List.mem_of_getElem? (i := 107) rfl)) rfl, fun _ h => absurd h List.not_mem_nil⟩⟩⟩⟩
theorem inX7 : ∀ w ∈ u_ws RX7 TX7 34, w ∈ gwA := List.forall_mem_cons.mpr ⟨gw_in (mt_3 _ (List.mem_of_getElem? (i := 70) rfl)) rfl, List.forall_mem_cons.mpr ⟨gw_in (mt_3 _ (List.mem_of_getElem? (i := 72) rfl)) rfl, List.forall_mem_cons.mpr ⟨gw_in (mt_3 _ (List.mem_of_getElem? (i := 74) rfl)) rfl, List.forall_mem_cons.mpr ⟨gw_in (mt_3 _ (List.mem_of_getElem? (i := 76) rfl)) rfl, List.forall_mem_cons.mpr ⟨gw_in (mt_3 _ (List.mem_of_getElem? (i := 78) rfl)) rfl, List.forall_mem_cons.mpr ⟨gw_in (mt_3 _ (List.mem_of_getElem? (i := 80) rfl)) rfl, List.forall_mem_cons.mpr ⟨gw_in (mt_3 _ (List.mem_of_getElem? (i := 82) rfl)) rfl, List.forall_mem_cons.mpr ⟨gw_in (mt_3 _ (List.mem_of_getElem? (i := 84) rfl)) rfl, List.forall_mem_cons.mpr ⟨gw_in (mt_3 _ (List.mem_of_getElem? (i := 86) rfl)) rfl, List.forall_mem_cons.mpr ⟨gw_in (mt_3 _ (List.mem_of_getElem? (i := 88) rfl)) rfl, List.forall_mem_cons.mpr ⟨gw_in (mt_3 _ (List.mem_of_getElem? (i := 90) rfl)) rfl, List.forall_mem_cons.mpr ⟨gw_in (mt_3 _ (List.mem_of_getElem? (i := 92) rfl)) rfl, List.forall_mem_cons.mpr ⟨gw_in (mt_3 _ (List.mem_of_getElem? (i := 94) rfl)) rfl, List.forall_mem_cons.mpr ⟨gw_in (mt_3 _ (List.mem_of_getElem? (i := 96) rfl)) rfl, List.forall_mem_cons.mpr ⟨gw_in (mt_3 _ (List.mem_of_getElem? (i := 98) rfl)) rfl, List.forall_mem_cons.mpr ⟨gw_in (mt_3 _ (List.mem_of_getElem? (i := 100) rfl)) rfl, List.forall_mem_cons.mpr ⟨gw_in (mt_3 _ (List.mem_of_getElem? (i := 102) rfl)) rfl, List.forall_mem_cons.mpr ⟨gw_in (mt_3 _ (List.mem_of_getElem? (i := 104) rfl)) rfl, List.forall_mem_cons.mpr ⟨gw_in (mt_3 _ (List.mem_of_getElem? (i := 106) rfl)) rfl, List.forall_mem_cons.mpr ⟨gw_in (mt_3 _ (List.mem_of_getElem? (i := 108) rfl)) rfl, List.forall_mem_cons.mpr ⟨gw_in (mt_3 _ (List.mem_of_getElem? (i := 110) rfl)) rfl, List.forall_mem_cons.mpr ⟨gw_in (mt_3 _ (List.mem_of_getElem? (i := 112) rfl)) rfl, List.forall_mem_cons.mpr ⟨gw_in (mt_3 _ (List.mem_of_getElem? (i := 114) rfl)) rfl, List.forall_mem_cons.mpr ⟨gw_in (mt_3 _ (List.mem_of_getElem? (i := 116) rfl)) rfl, List.forall_mem_cons.mpr ⟨gw_in (mt_3 _ (List.mem_of_getElem? (i := 118) rfl)) rfl, List.forall_mem_cons.mpr ⟨gw_in (mt_3 _ (List.mem_of_getElem? (i := 120) rfl)) rfl, List.forall_mem_cons.mpr ⟨gw_in (mt_3 _ (List.mem_of_getElem? (i := 122) rfl)) rfl, List.forall_mem_cons.mpr ⟨gw_in (mt_3 _ (List.mem_of_getElem? (i := 124) rfl)) rfl, List.forall_mem_cons.mpr ⟨gw_in (mt_3 _ (List.mem_of_getElem? (i := 126) rfl)) rfl, List.forall_mem_cons.mpr ⟨gw_in (mt_3 _ (List.mem_of_getElem? (i := 128) rfl)) rfl, List.forall_mem_cons.mpr ⟨gw_in (mt_3 _ (List.mem_of_getElem? (i := 130) rfl)) rfl, List.forall_mem_cons.mpr ⟨gw_in (mt_3 _ (List.mem_of_getElem? (i := 132) rfl)) rfl, List.forall_mem_cons.mpr ⟨gw_in (mt_3 _ (List.mem_of_getElem? (i := 134) rfl)) rfl, List.forall_mem_cons.mpr ⟨gw_in (mt_3 _ (List.mem_of_getElem? (i := 136) rfl)) rfl, fun _ h => absurd h List.not_mem_nil⟩⟩⟩⟩⟩⟩⟩⟩⟩⟩⟩⟩⟩⟩⟩⟩⟩⟩⟩⟩⟩⟩⟩⟩⟩⟩⟩⟩⟩⟩⟩⟩⟩⟩
end
section
theorem dX0_init_0 : decode cX0_init 0 = .ok (.aload_n 0, 1) := by decide +kernel
theorem dX0_init_1 : decode cX0_init 1 = .ok (.invokespecial 3, 3) := by decide +kernel
theorem dX0_init_4 : decode cX0_init 4 = .ok (.aload_n 0, 1) := by decide +kernel
theorem dX0_init_5 : decode cX0_init 5 = .ok (.iload_n 1, 1) := by decide +kernel
theorem dX0_init_6 : decode cX0_init 6 = .ok (.putfield 9, 3) := by decide +kernel
theorem dX0_init_9 : decode cX0_init 9 = .ok (.aload_n 0, 1) := by decide +kernel
theorem dX0_init_10 : decode cX0_init 10 = .ok (.aload_n 2, 1) := by decide +kernel
theorem dX0_init_11 : decode cX0_init 11 = .ok (.putfield 15, 3) := by decide +kernel
theorem dX0_init_14 : decode cX0_init 14 = .ok (.aload_n 0, 1) := by decide +kernel
theorem dX0_init_15 : decode cX0_init 15 = .ok (.iload_n 3, 1) := by decide +kernel
theorem dX0_init_16 : decode cX0_init 16 = .ok (.putfield 19, 3) := by decide +kernel
theorem dX0_init_19 : decode cX0_init 19 = .ok (.aload_n 0, 1) := by decide +kernel
theorem dX0_init_20 : decode cX0_init 20 = .ok (.iload 4, 2) := by decide +kernel
theorem dX0_init_22 : decode cX0_init 22 = .ok (.putfield 22, 3) := by decide +kernel
theorem dX0_init_25 : decode cX0_init 25 = .ok (.aload_n 0, 1) := by decide +kernel
theorem dX0_init_26 : decode cX0_init 26 = .ok (.iload 5, 2) := by decide +kernel
theorem dX0_init_28 : decode cX0_init 28 = .ok (.putfield 25, 3) := by decide +kernel
theorem dX0_init_31 : decode cX0_init 31 = .ok (.aload_n 0, 1) := by decide +kernel
theorem dX0_init_32 : decode cX0_init 32 = .ok (.iload 6, 2) := by decide +kernel
theorem dX0_init_34 : decode cX0_init 34 = .ok (.putfield 28, 3) := by decide +kernel
theorem dX0_init_37 : decode cX0_init 37 = .ok (.return_, 1) := by decide +kernel
theorem dX0_numbersFit_0 : decode cX0_numbersFit 0 = .ok (.iload_n 0, 1) := by decide +kernel
theorem dX0_numbersFit_1 : decode cX0_numbersFit 1 = .ok (.tableswitch 162 0 12 #[67, 72, 72, 72, 67, 92, 92, 112, 160, 117, 160, 132, 160], 67) := by decide +kernel
theorem dX0_numbersFit_68 : decode cX0_numbersFit 68 = .ok (.iload_n 1, 1) := by decide +kernel
theorem dX0_numbersFit_69 : decode cX0_numbersFit 69 = .ok (.invokestatic 31, 3) := by decide +kernel
theorem dX0_numbersFit_72 : decode cX0_numbersFit 72 = .ok (.ireturn, 1) := by decide +kernel
theorem dX0_numbersFit_73 : decode cX0_numbersFit 73 = .ok (.iload_n 1, 1) := by decide +kernel
theorem dX0_numbersFit_74 : decode cX0_numbersFit 74 = .ok (.invokestatic 31, 3) := by decide +kernel
theorem dX0_numbersFit_77 : decode cX0_numbersFit 77 = .ok (.ifCond .eq 14, 3) := by decide +kernel
theorem dX0_numbersFit_80 : decode cX0_numbersFit 80 = .ok (.iload_n 3, 1) := by decide +kernel
theorem dX0_numbersFit_81 : decode cX0_numbersFit 81 = .ok (.invokestatic 31, 3) := by decide +kernel
theorem dX0_numbersFit_84 : decode cX0_numbersFit 84 = .ok (.ifCond .eq 7, 3) := by decide +kernel
theorem dX0_numbersFit_87 : decode cX0_numbersFit 87 = .ok (.iconst 1, 1) := by decide +kernel
theorem dX0_numbersFit_88 : decode cX0_numbersFit 88 = .ok (.goto 4, 3) := by decide +kernel
theorem dX0_numbersFit_91 : decode cX0_numbersFit 91 = .ok (.iconst 0, 1) := by decide +kernel
theorem dX0_numbersFit_92 : decode cX0_numbersFit 92 = .ok (.ireturn, 1) := by decide +kernel
theorem dX0_numbersFit_93 : decode cX0_numbersFit 93 = .ok (.iload_n 1, 1) := by decide +kernel
theorem dX0_numbersFit_94 : decode cX0_numbersFit 94 = .ok (.invokestatic 31, 3) := by decide +kernel
theorem dX0_numbersFit_97 : decode cX0_numbersFit 97 = .ok (.ifCond .eq 14, 3) := by decide +kernel
theorem dX0_numbersFit_100 : decode cX0_numbersFit 100 = .ok (.iload_n 2, 1) := by decide +kernel
theorem dX0_numbersFit_101 : decode cX0_numbersFit 101 = .ok (.invokestatic 31, 3) := by decide +kernel
theorem dX0_numbersFit_104 : decode cX0_numbersFit 104 = .ok (.ifCond .eq 7, 3) := by decide +kernel
theorem dX0_numbersFit_107 : decode cX0_numbersFit 107 = .ok (.iconst 1, 1) := by decide +kernel
theorem dX0_numbersFit_108 : decode cX0_numbersFit 108 = .ok (.goto 4, 3) := by decide +kernel
theorem dX0_numbersFit_111 : decode cX0_numbersFit 111 = .ok (.iconst 0, 1) := by decide +kernel
theorem dX0_numbersFit_112 : decode cX0_numbersFit 112 = .ok (.ireturn, 1) := by decide +kernel
theorem dX0_numbersFit_113 : decode cX0_numbersFit 113 = .ok (.iload_n 2, 1) := by decide +kernel
theorem dX0_numbersFit_114 : decode cX0_numbersFit 114 = .ok (.invokestatic 37, 3) := by decide +kernel
theorem dX0_numbersFit_117 : decode cX0_numbersFit 117 = .ok (.ireturn, 1) := by decide +kernel
theorem dX0_numbersFit_118 : decode cX0_numbersFit 118 = .ok (.iload_n 1, 1) := by decide +kernel
theorem dX0_numbersFit_119 : decode cX0_numbersFit 119 = .ok (.ifCond .lt 12, 3) := by decide +kernel
theorem dX0_numbersFit_122 : decode cX0_numbersFit 122 = .ok (.iload_n 1, 1) := by decide +kernel
theorem dX0_numbersFit_123 : decode cX0_numbersFit 123 = .ok (.iconst 2, 1) := by decide +kernel
theorem dX0_numbersFit_124 : decode cX0_numbersFit 124 = .ok (.if_icmp .gt 7, 3) := by decide +kernel
theorem dX0_numbersFit_127 : decode cX0_numbersFit 127 = .ok (.iconst 1, 1) := by decide +kernel
theorem dX0_numbersFit_128 : decode cX0_numbersFit 128 = .ok (.goto 4, 3) := by decide +kernel
theorem dX0_numbersFit_131 : decode cX0_numbersFit 131 = .ok (.iconst 0, 1) := by decide +kernel
theorem dX0_numbersFit_132 : decode cX0_numbersFit 132 = .ok (.ireturn, 1) := by decide +kernel
theorem dX0_numbersFit_133 : decode cX0_numbersFit 133 = .ok (.iload_n 1, 1) := by decide +kernel
theorem dX0_numbersFit_134 : decode cX0_numbersFit 134 = .ok (.iconst 1, 1) := by decide +kernel
theorem dX0_numbersFit_135 : decode cX0_numbersFit 135 = .ok (.if_icmp .lt 24, 3) := by decide +kernel
theorem dX0_numbersFit_138 : decode cX0_numbersFit 138 = .ok (.iload_n 1, 1) := by decide +kernel
theorem dX0_numbersFit_139 : decode cX0_numbersFit 139 = .ok (.bipush 9, 2) := by decide +kernel
theorem dX0_numbersFit_141 : decode cX0_numbersFit 141 = .ok (.if_icmp .gt 18, 3) := by decide +kernel
theorem dX0_numbersFit_144 : decode cX0_numbersFit 144 = .ok (.iload_n 2, 1) := by decide +kernel
theorem dX0_numbersFit_145 : decode cX0_numbersFit 145 = .ok (.iconst (-1), 1) := by decide +kernel
theorem dX0_numbersFit_146 : decode cX0_numbersFit 146 = .ok (.if_icmp .lt 13, 3) := by decide +kernel
theorem dX0_numbersFit_149 : decode cX0_numbersFit 149 = .ok (.iload_n 2, 1) := by decide +kernel
theorem dX0_numbersFit_150 : decode cX0_numbersFit 150 = .ok (.bipush 9, 2) := by decide +kernel
theorem dX0_numbersFit_152 : decode cX0_numbersFit 152 = .ok (.if_icmp .gt 7, 3) := by decide +kernel
theorem dX0_numbersFit_155 : decode cX0_numbersFit 155 = .ok (.iconst 1, 1) := by decide +kernel
theorem dX0_numbersFit_156 : decode cX0_numbersFit 156 = .ok (.goto 4, 3) := by decide +kernel
theorem dX0_numbersFit_159 : decode cX0_numbersFit 159 = .ok (.iconst 0, 1) := by decide +kernel
theorem dX0_numbersFit_160 : decode cX0_numbersFit 160 = .ok (.ireturn, 1) := by decide +kernel
theorem dX0_numbersFit_161 : decode cX0_numbersFit 161 = .ok (.iconst 1, 1) := by decide +kernel
theorem dX0_numbersFit_162 : decode cX0_numbersFit 162 = .ok (.ireturn, 1) := by decide +kernel
theorem dX0_numbersFit_163 : decode cX0_numbersFit 163 = .ok (.iconst 0, 1) := by decide +kernel
theorem dX0_numbersFit_164 : decode cX0_numbersFit 164 = .ok (.ireturn, 1) := by decide +kernel
theorem dX0_guards_0 : decode cX0_guards 0 = .ok (.aload_n 0, 1) := by decide +kernel
theorem dX0_guards_1 : decode cX0_guards 1 = .ok (.getfield 9, 3) := by decide +kernel
theorem dX0_guards_4 : decode cX0_guards 4 = .ok (.bipush 11, 2) := by decide +kernel
theorem dX0_guards_6 : decode cX0_guards 6 = .ok (.if_icmp .ne 15, 3) := by decide +kernel
theorem dX0_guards_9 : decode cX0_guards 9 = .ok (.iload_n 1, 1) := by decide +kernel
theorem dX0_guards_10 : decode cX0_guards 10 = .ok (.aload_n 0, 1) := by decide +kernel
theorem dX0_guards_11 : decode cX0_guards 11 = .ok (.getfield 28, 3) := by decide +kernel
theorem dX0_guards_14 : decode cX0_guards 14 = .ok (.if_icmp .gt 7, 3) := by decide +kernel
theorem dX0_guards_17 : decode cX0_guards 17 = .ok (.iconst 1, 1) := by decide +kernel
theorem dX0_guards_18 : decode cX0_guards 18 = .ok (.goto 4, 3) := by decide +kernel
theorem dX0_guards_21 : decode cX0_guards 21 = .ok (.iconst 0, 1) := by decide +kernel
theorem dX0_guards_22 : decode cX0_guards 22 = .ok (.ireturn, 1) := by decide +kernel
theorem dX0_catches_0 : decode cX0_catches 0 = .ok (.aload_n 0, 1) := by decide +kernel
theorem dX0_catches_1 : decode cX0_catches 1 = .ok (.getfield 22, 3) := by decide +kernel
theorem dX0_catches_4 : decode cX0_catches 4 = .ok (.iconst (-1), 1) := by decide +kernel
theorem dX0_catches_5 : decode cX0_catches 5 = .ok (.if_icmp .ne 17, 3) := by decide +kernel
theorem dX0_catches_8 : decode cX0_catches 8 = .ok (.iload_n 1, 1) := by decide +kernel
theorem dX0_catches_9 : decode cX0_catches 9 = .ok (.bipush 10, 2) := by decide +kernel
theorem dX0_catches_11 : decode cX0_catches 11 = .ok (.if_icmp .eq 7, 3) := by decide +kernel
theorem dX0_catches_14 : decode cX0_catches 14 = .ok (.iconst 1, 1) := by decide +kernel
theorem dX0_catches_15 : decode cX0_catches 15 = .ok (.goto 20, 3) := by decide +kernel
theorem dX0_catches_18 : decode cX0_catches 18 = .ok (.iconst 0, 1) := by decide +kernel
theorem dX0_catches_19 : decode cX0_catches 19 = .ok (.goto 16, 3) := by decide +kernel
theorem dX0_catches_22 : decode cX0_catches 22 = .ok (.iload_n 1, 1) := by decide +kernel
theorem dX0_catches_23 : decode cX0_catches 23 = .ok (.aload_n 0, 1) := by decide +kernel
theorem dX0_catches_24 : decode cX0_catches 24 = .ok (.getfield 22, 3) := by decide +kernel
theorem dX0_catches_27 : decode cX0_catches 27 = .ok (.if_icmp .ne 7, 3) := by decide +kernel
theorem dX0_catches_30 : decode cX0_catches 30 = .ok (.iconst 1, 1) := by decide +kernel
theorem dX0_catches_31 : decode cX0_catches 31 = .ok (.goto 4, 3) := by decide +kernel
theorem dX0_catches_34 : decode cX0_catches 34 = .ok (.iconst 0, 1) := by decide +kernel
theorem dX0_catches_35 : decode cX0_catches 35 = .ok (.ireturn, 1) := by decide +kernel
theorem dX0_wants_0 : decode cX0_wants 0 = .ok (.aload_n 0, 1) := by decide +kernel
theorem dX0_wants_1 : decode cX0_wants 1 = .ok (.getfield 9, 3) := by decide +kernel
theorem dX0_wants_4 : decode cX0_wants 4 = .ok (.tableswitch 70 1 8 #[48, 48, 48, 70, 70, 70, 68, 68], 48) := by decide +kernel
theorem dX0_wants_52 : decode cX0_wants 52 = .ok (.aload_n 0, 1) := by decide +kernel
theorem dX0_wants_53 : decode cX0_wants 53 = .ok (.getfield 15, 3) := by decide +kernel
theorem dX0_wants_56 : decode cX0_wants 56 = .ok (.aload_n 0, 1) := by decide +kernel
theorem dX0_wants_57 : decode cX0_wants 57 = .ok (.getfield 25, 3) := by decide +kernel
theorem dX0_wants_60 : decode cX0_wants 60 = .ok (.invokevirtual 42, 3) := by decide +kernel
theorem dX0_wants_63 : decode cX0_wants 63 = .ok (.ifCond .ne 7, 3) := by decide +kernel
theorem dX0_wants_66 : decode cX0_wants 66 = .ok (.iconst 1, 1) := by decide +kernel
theorem dX0_wants_67 : decode cX0_wants 67 = .ok (.goto 4, 3) := by decide +kernel
theorem dX0_wants_70 : decode cX0_wants 70 = .ok (.iconst 0, 1) := by decide +kernel
theorem dX0_wants_71 : decode cX0_wants 71 = .ok (.ireturn, 1) := by decide +kernel
theorem dX0_wants_72 : decode cX0_wants 72 = .ok (.iconst 1, 1) := by decide +kernel
theorem dX0_wants_73 : decode cX0_wants 73 = .ok (.ireturn, 1) := by decide +kernel
theorem dX0_wants_74 : decode cX0_wants 74 = .ok (.iconst 0, 1) := by decide +kernel
theorem dX0_wants_75 : decode cX0_wants 75 = .ok (.ireturn, 1) := by decide +kernel
theorem dX1_init_0 : decode cX1_init 0 = .ok (.aload_n 0, 1) := by decide +kernel
theorem dX1_init_1 : decode cX1_init 1 = .ok (.invokespecial 3, 3) := by decide +kernel
theorem dX1_init_4 : decode cX1_init 4 = .ok (.aload_n 0, 1) := by decide +kernel
theorem dX1_init_5 : decode cX1_init 5 = .ok (.bipush 60, 2) := by decide +kernel
theorem dX1_init_7 : decode cX1_init 7 = .ok (.newarray .int, 2) := by decide +kernel
theorem dX1_init_9 : decode cX1_init 9 = .ok (.putfield 11, 3) := by decide +kernel
theorem dX1_init_12 : decode cX1_init 12 = .ok (.aload_n 0, 1) := by decide +kernel
theorem dX1_init_13 : decode cX1_init 13 = .ok (.bipush 60, 2) := by decide +kernel
theorem dX1_init_15 : decode cX1_init 15 = .ok (.newarray .int, 2) := by decide +kernel
theorem dX1_init_17 : decode cX1_init 17 = .ok (.putfield 15, 3) := by decide +kernel
theorem dX1_init_20 : decode cX1_init 20 = .ok (.aload_n 0, 1) := by decide +kernel
theorem dX1_init_21 : decode cX1_init 21 = .ok (.iconst 0, 1) := by decide +kernel
theorem dX1_init_22 : decode cX1_init 22 = .ok (.putfield 18, 3) := by decide +kernel
theorem dX1_init_25 : decode cX1_init 25 = .ok (.aload_n 0, 1) := by decide +kernel
theorem dX1_init_26 : decode cX1_init 26 = .ok (.iconst 0, 1) := by decide +kernel
theorem dX1_init_27 : decode cX1_init 27 = .ok (.putfield 22, 3) := by decide +kernel
theorem dX1_init_30 : decode cX1_init 30 = .ok (.aload_n 0, 1) := by decide +kernel
theorem dX1_init_31 : decode cX1_init 31 = .ok (.iconst 0, 1) := by decide +kernel
theorem dX1_init_32 : decode cX1_init 32 = .ok (.putfield 25, 3) := by decide +kernel
theorem dX1_init_35 : decode cX1_init 35 = .ok (.aload_n 0, 1) := by decide +kernel
theorem dX1_init_36 : decode cX1_init 36 = .ok (.iconst 0, 1) := by decide +kernel
theorem dX1_init_37 : decode cX1_init 37 = .ok (.putfield 28, 3) := by decide +kernel
theorem dX1_init_40 : decode cX1_init 40 = .ok (.aload_n 0, 1) := by decide +kernel
theorem dX1_init_41 : decode cX1_init 41 = .ok (.iconst (-1), 1) := by decide +kernel
theorem dX1_init_42 : decode cX1_init 42 = .ok (.putfield 31, 3) := by decide +kernel
theorem dX1_init_45 : decode cX1_init 45 = .ok (.aload_n 0, 1) := by decide +kernel
theorem dX1_init_46 : decode cX1_init 46 = .ok (.iconst (-1), 1) := by decide +kernel
theorem dX1_init_47 : decode cX1_init 47 = .ok (.putfield 34, 3) := by decide +kernel
theorem dX1_init_50 : decode cX1_init 50 = .ok (.return_, 1) := by decide +kernel
theorem dX1_clear_0 : decode cX1_clear 0 = .ok (.aload_n 0, 1) := by decide +kernel
theorem dX1_clear_1 : decode cX1_clear 1 = .ok (.iconst 0, 1) := by decide +kernel
theorem dX1_clear_2 : decode cX1_clear 2 = .ok (.putfield 18, 3) := by decide +kernel
theorem dX1_clear_5 : decode cX1_clear 5 = .ok (.aload_n 0, 1) := by decide +kernel
theorem dX1_clear_6 : decode cX1_clear 6 = .ok (.iconst 0, 1) := by decide +kernel
theorem dX1_clear_7 : decode cX1_clear 7 = .ok (.putfield 22, 3) := by decide +kernel
theorem dX1_clear_10 : decode cX1_clear 10 = .ok (.aload_n 0, 1) := by decide +kernel
theorem dX1_clear_11 : decode cX1_clear 11 = .ok (.iconst 0, 1) := by decide +kernel
theorem dX1_clear_12 : decode cX1_clear 12 = .ok (.putfield 25, 3) := by decide +kernel
theorem dX1_clear_15 : decode cX1_clear 15 = .ok (.aload_n 0, 1) := by decide +kernel
theorem dX1_clear_16 : decode cX1_clear 16 = .ok (.iconst 0, 1) := by decide +kernel
theorem dX1_clear_17 : decode cX1_clear 17 = .ok (.putfield 28, 3) := by decide +kernel
theorem dX1_clear_20 : decode cX1_clear 20 = .ok (.aload_n 0, 1) := by decide +kernel
theorem dX1_clear_21 : decode cX1_clear 21 = .ok (.iconst (-1), 1) := by decide +kernel
theorem dX1_clear_22 : decode cX1_clear 22 = .ok (.putfield 31, 3) := by decide +kernel
theorem dX1_clear_25 : decode cX1_clear 25 = .ok (.aload_n 0, 1) := by decide +kernel
theorem dX1_clear_26 : decode cX1_clear 26 = .ok (.iconst (-1), 1) := by decide +kernel
theorem dX1_clear_27 : decode cX1_clear 27 = .ok (.putfield 34, 3) := by decide +kernel
theorem dX1_clear_30 : decode cX1_clear 30 = .ok (.return_, 1) := by decide +kernel
theorem dX1_note_0 : decode cX1_note 0 = .ok (.aload_n 0, 1) := by decide +kernel
theorem dX1_note_1 : decode cX1_note 1 = .ok (.getfield 18, 3) := by decide +kernel
theorem dX1_note_4 : decode cX1_note 4 = .ok (.bipush 60, 2) := by decide +kernel
theorem dX1_note_6 : decode cX1_note 6 = .ok (.if_icmp .ge 33, 3) := by decide +kernel
theorem dX1_note_9 : decode cX1_note 9 = .ok (.aload_n 0, 1) := by decide +kernel
theorem dX1_note_10 : decode cX1_note 10 = .ok (.getfield 11, 3) := by decide +kernel
theorem dX1_note_13 : decode cX1_note 13 = .ok (.aload_n 0, 1) := by decide +kernel
theorem dX1_note_14 : decode cX1_note 14 = .ok (.getfield 18, 3) := by decide +kernel
theorem dX1_note_17 : decode cX1_note 17 = .ok (.iload_n 1, 1) := by decide +kernel
theorem dX1_note_18 : decode cX1_note 18 = .ok (.iastore, 1) := by decide +kernel
theorem dX1_note_19 : decode cX1_note 19 = .ok (.aload_n 0, 1) := by decide +kernel
theorem dX1_note_20 : decode cX1_note 20 = .ok (.getfield 15, 3) := by decide +kernel
theorem dX1_note_23 : decode cX1_note 23 = .ok (.aload_n 0, 1) := by decide +kernel
theorem dX1_note_24 : decode cX1_note 24 = .ok (.getfield 18, 3) := by decide +kernel
theorem dX1_note_27 : decode cX1_note 27 = .ok (.iload_n 2, 1) := by decide +kernel
theorem dX1_note_28 : decode cX1_note 28 = .ok (.iastore, 1) := by decide +kernel
theorem dX1_note_29 : decode cX1_note 29 = .ok (.aload_n 0, 1) := by decide +kernel
theorem dX1_note_30 : decode cX1_note 30 = .ok (.dup, 1) := by decide +kernel
theorem dX1_note_31 : decode cX1_note 31 = .ok (.getfield 18, 3) := by decide +kernel
theorem dX1_note_34 : decode cX1_note 34 = .ok (.iconst 1, 1) := by decide +kernel
theorem dX1_note_35 : decode cX1_note 35 = .ok (.iadd, 1) := by decide +kernel
theorem dX1_note_36 : decode cX1_note 36 = .ok (.putfield 18, 3) := by decide +kernel
theorem dX1_note_39 : decode cX1_note 39 = .ok (.return_, 1) := by decide +kernel
theorem dX2_init_0 : decode cX2_init 0 = .ok (.aload_n 0, 1) := by decide +kernel
theorem dX2_init_1 : decode cX2_init 1 = .ok (.invokespecial 3, 3) := by decide +kernel
theorem dX2_init_4 : decode cX2_init 4 = .ok (.aload_n 0, 1) := by decide +kernel
theorem dX2_init_5 : decode cX2_init 5 = .ok (.iconst 3, 1) := by decide +kernel
theorem dX2_init_6 : decode cX2_init 6 = .ok (.anewarray 9, 3) := by decide +kernel
theorem dX2_init_9 : decode cX2_init 9 = .ok (.putfield 11, 3) := by decide +kernel
theorem dX2_init_12 : decode cX2_init 12 = .ok (.aload_n 0, 1) := by decide +kernel
theorem dX2_init_13 : decode cX2_init 13 = .ok (.iconst 0, 1) := by decide +kernel
theorem dX2_init_14 : decode cX2_init 14 = .ok (.putfield 15, 3) := by decide +kernel
theorem dX2_init_17 : decode cX2_init 17 = .ok (.aload_n 0, 1) := by decide +kernel
theorem dX2_init_18 : decode cX2_init 18 = .ok (.iconst 4, 1) := by decide +kernel
theorem dX2_init_19 : decode cX2_init 19 = .ok (.newarray .int, 2) := by decide +kernel
theorem dX2_init_21 : decode cX2_init 21 = .ok (.putfield 19, 3) := by decide +kernel
theorem dX2_init_24 : decode cX2_init 24 = .ok (.aload_n 0, 1) := by decide +kernel
theorem dX2_init_25 : decode cX2_init 25 = .ok (.iconst 4, 1) := by decide +kernel
theorem dX2_init_26 : decode cX2_init 26 = .ok (.newarray .boolean, 2) := by decide +kernel
theorem dX2_init_28 : decode cX2_init 28 = .ok (.putfield 23, 3) := by decide +kernel
theorem dX2_init_31 : decode cX2_init 31 = .ok (.aload_n 0, 1) := by decide +kernel
theorem dX2_init_32 : decode cX2_init 32 = .ok (.bipush 20, 2) := by decide +kernel
theorem dX2_init_34 : decode cX2_init 34 = .ok (.newarray .int, 2) := by decide +kernel
theorem dX2_init_36 : decode cX2_init 36 = .ok (.putfield 27, 3) := by decide +kernel
theorem dX2_init_39 : decode cX2_init 39 = .ok (.aload_n 0, 1) := by decide +kernel
theorem dX2_init_40 : decode cX2_init 40 = .ok (.iconst (-1), 1) := by decide +kernel
theorem dX2_init_41 : decode cX2_init 41 = .ok (.putfield 30, 3) := by decide +kernel
theorem dX2_init_44 : decode cX2_init 44 = .ok (.aload_n 0, 1) := by decide +kernel
theorem dX2_init_45 : decode cX2_init 45 = .ok (.iconst 4, 1) := by decide +kernel
theorem dX2_init_46 : decode cX2_init 46 = .ok (.anewarray 33, 3) := by decide +kernel
theorem dX2_init_49 : decode cX2_init 49 = .ok (.putfield 35, 3) := by decide +kernel
theorem dX2_init_52 : decode cX2_init 52 = .ok (.aload_n 0, 1) := by decide +kernel
theorem dX2_init_53 : decode cX2_init 53 = .ok (.iconst 0, 1) := by decide +kernel
theorem dX2_init_54 : decode cX2_init 54 = .ok (.putfield 39, 3) := by decide +kernel
theorem dX2_init_57 : decode cX2_init 57 = .ok (.aload_n 0, 1) := by decide +kernel
theorem dX2_init_58 : decode cX2_init 58 = .ok (.iload_n 1, 1) := by decide +kernel
theorem dX2_init_59 : decode cX2_init 59 = .ok (.putfield 42, 3) := by decide +kernel
theorem dX2_init_62 : decode cX2_init 62 = .ok (.aload_n 0, 1) := by decide +kernel
theorem dX2_init_63 : decode cX2_init 63 = .ok (.iload_n 2, 1) := by decide +kernel
theorem dX2_init_64 : decode cX2_init 64 = .ok (.putfield 45, 3) := by decide +kernel
theorem dX2_init_67 : decode cX2_init 67 = .ok (.aload_n 0, 1) := by decide +kernel
theorem dX2_init_68 : decode cX2_init 68 = .ok (.iload_n 3, 1) := by decide +kernel
theorem dX2_init_69 : decode cX2_init 69 = .ok (.putfield 49, 3) := by decide +kernel
theorem dX2_init_72 : decode cX2_init 72 = .ok (.aload_n 0, 1) := by decide +kernel
theorem dX2_init_73 : decode cX2_init 73 = .ok (.aload 4, 2) := by decide +kernel
theorem dX2_init_75 : decode cX2_init 75 = .ok (.putfield 52, 3) := by decide +kernel
theorem dX2_init_78 : decode cX2_init 78 = .ok (.iconst 0, 1) := by decide +kernel
theorem dX2_init_79 : decode cX2_init 79 = .ok (.istore 5, 2) := by decide +kernel
theorem dX2_init_81 : decode cX2_init 81 = .ok (.iload 5, 2) := by decide +kernel
theorem dX2_init_83 : decode cX2_init 83 = .ok (.iconst 4, 1) := by decide +kernel
theorem dX2_init_84 : decode cX2_init 84 = .ok (.if_icmp .ge 29, 3) := by decide +kernel
theorem dX2_init_87 : decode cX2_init 87 = .ok (.aload_n 0, 1) := by decide +kernel
theorem dX2_init_88 : decode cX2_init 88 = .ok (.getfield 35, 3) := by decide +kernel
theorem dX2_init_91 : decode cX2_init 91 = .ok (.iload 5, 2) := by decide +kernel
theorem dX2_init_93 : decode cX2_init 93 = .ok (.new 33, 3) := by decide +kernel
theorem dX2_init_96 : decode cX2_init 96 = .ok (.dup, 1) := by decide +kernel
theorem dX2_init_97 : decode cX2_init 97 = .ok (.iload_n 1, 1) := by decide +kernel
theorem dX2_init_98 : decode cX2_init 98 = .ok (.iconst 4, 1) := by decide +kernel
theorem dX2_init_99 : decode cX2_init 99 = .ok (.imul, 1) := by decide +kernel
theorem dX2_init_100 : decode cX2_init 100 = .ok (.iload 5, 2) := by decide +kernel
theorem dX2_init_102 : decode cX2_init 102 = .ok (.iadd, 1) := by decide +kernel
theorem dX2_init_103 : decode cX2_init 103 = .ok (.invokespecial 56, 3) := by decide +kernel
theorem dX2_init_106 : decode cX2_init 106 = .ok (.aastore, 1) := by decide +kernel
theorem dX2_init_107 : decode cX2_init 107 = .ok (.iinc 5 1, 3) := by decide +kernel
theorem dX2_init_110 : decode cX2_init 110 = .ok (.goto (-29), 3) := by decide +kernel
theorem dX2_init_113 : decode cX2_init 113 = .ok (.return_, 1) := by decide +kernel
theorem dX2_isField_0 : decode cX2_isField 0 = .ok (.iload_n 0, 1) := by decide +kernel
theorem dX2_isField_1 : decode cX2_isField 1 = .ok (.ifCond .lt 12, 3) := by decide +kernel
theorem dX2_isField_4 : decode cX2_isField 4 = .ok (.iload_n 0, 1) := by decide +kernel
theorem dX2_isField_5 : decode cX2_isField 5 = .ok (.iconst 4, 1) := by decide +kernel
theorem dX2_isField_6 : decode cX2_isField 6 = .ok (.if_icmp .ge 7, 3) := by decide +kernel
theorem dX2_isField_9 : decode cX2_isField 9 = .ok (.iconst 1, 1) := by decide +kernel
theorem dX2_isField_10 : decode cX2_isField 10 = .ok (.goto 4, 3) := by decide +kernel
theorem dX2_isField_13 : decode cX2_isField 13 = .ok (.iconst 0, 1) := by decide +kernel
theorem dX2_isField_14 : decode cX2_isField 14 = .ok (.ireturn, 1) := by decide +kernel
theorem dX2_isMethod_0 : decode cX2_isMethod 0 = .ok (.iload_n 0, 1) := by decide +kernel
theorem dX2_isMethod_1 : decode cX2_isMethod 1 = .ok (.ifCond .lt 12, 3) := by decide +kernel
theorem dX2_isMethod_4 : decode cX2_isMethod 4 = .ok (.iload_n 0, 1) := by decide +kernel
theorem dX2_isMethod_5 : decode cX2_isMethod 5 = .ok (.iconst 4, 1) := by decide +kernel
theorem dX2_isMethod_6 : decode cX2_isMethod 6 = .ok (.if_icmp .ge 7, 3) := by decide +kernel
theorem dX2_isMethod_9 : decode cX2_isMethod 9 = .ok (.iconst 1, 1) := by decide +kernel
theorem dX2_isMethod_10 : decode cX2_isMethod 10 = .ok (.goto 4, 3) := by decide +kernel
theorem dX2_isMethod_13 : decode cX2_isMethod 13 = .ok (.iconst 0, 1) := by decide +kernel
theorem dX2_isMethod_14 : decode cX2_isMethod 14 = .ok (.ireturn, 1) := by decide +kernel
theorem dX2_isCallable_0 : decode cX2_isCallable 0 = .ok (.iload_n 0, 1) := by decide +kernel
theorem dX2_isCallable_1 : decode cX2_isCallable 1 = .ok (.iconst 1, 1) := by decide +kernel
theorem dX2_isCallable_2 : decode cX2_isCallable 2 = .ok (.if_icmp .lt 12, 3) := by decide +kernel
theorem dX2_isCallable_5 : decode cX2_isCallable 5 = .ok (.iload_n 0, 1) := by decide +kernel
theorem dX2_isCallable_6 : decode cX2_isCallable 6 = .ok (.iconst 4, 1) := by decide +kernel
theorem dX2_isCallable_7 : decode cX2_isCallable 7 = .ok (.if_icmp .ge 7, 3) := by decide +kernel
theorem dX2_isCallable_10 : decode cX2_isCallable 10 = .ok (.iconst 1, 1) := by decide +kernel
theorem dX2_isCallable_11 : decode cX2_isCallable 11 = .ok (.goto 4, 3) := by decide +kernel
theorem dX2_isCallable_14 : decode cX2_isCallable 14 = .ok (.iconst 0, 1) := by decide +kernel
theorem dX2_isCallable_15 : decode cX2_isCallable 15 = .ok (.ireturn, 1) := by decide +kernel
theorem dX2_bit_0 : decode cX2_bit 0 = .ok (.iconst 1, 1) := by decide +kernel
theorem dX2_bit_1 : decode cX2_bit 1 = .ok (.aload_n 0, 1) := by decide +kernel
theorem dX2_bit_2 : decode cX2_bit 2 = .ok (.getfield 42, 3) := by decide +kernel
theorem dX2_bit_5 : decode cX2_bit 5 = .ok (.ishl, 1) := by decide +kernel
theorem dX2_bit_6 : decode cX2_bit 6 = .ok (.ireturn, 1) := by decide +kernel
theorem dX2_hasFace_0 : decode cX2_hasFace 0 = .ok (.iconst 0, 1) := by decide +kernel
theorem dX2_hasFace_1 : decode cX2_hasFace 1 = .ok (.istore_n 2, 1) := by decide +kernel
theorem dX2_hasFace_2 : decode cX2_hasFace 2 = .ok (.iload_n 2, 1) := by decide +kernel
theorem dX2_hasFace_3 : decode cX2_hasFace 3 = .ok (.aload_n 0, 1) := by decide +kernel
theorem dX2_hasFace_4 : decode cX2_hasFace 4 = .ok (.getfield 15, 3) := by decide +kernel
theorem dX2_hasFace_7 : decode cX2_hasFace 7 = .ok (.if_icmp .ge 24, 3) := by decide +kernel
theorem dX2_hasFace_10 : decode cX2_hasFace 10 = .ok (.aload_n 0, 1) := by decide +kernel
theorem dX2_hasFace_11 : decode cX2_hasFace 11 = .ok (.getfield 11, 3) := by decide +kernel
theorem dX2_hasFace_14 : decode cX2_hasFace 14 = .ok (.iload_n 2, 1) := by decide +kernel
theorem dX2_hasFace_15 : decode cX2_hasFace 15 = .ok (.aaload, 1) := by decide +kernel
theorem dX2_hasFace_16 : decode cX2_hasFace 16 = .ok (.getfield 42, 3) := by decide +kernel
theorem dX2_hasFace_19 : decode cX2_hasFace 19 = .ok (.iload_n 1, 1) := by decide +kernel
theorem dX2_hasFace_20 : decode cX2_hasFace 20 = .ok (.if_icmp .ne 5, 3) := by decide +kernel
theorem dX2_hasFace_23 : decode cX2_hasFace 23 = .ok (.iconst 1, 1) := by decide +kernel
theorem dX2_hasFace_24 : decode cX2_hasFace 24 = .ok (.ireturn, 1) := by decide +kernel
theorem dX2_hasFace_25 : decode cX2_hasFace 25 = .ok (.iinc 2 1, 3) := by decide +kernel
theorem dX2_hasFace_28 : decode cX2_hasFace 28 = .ok (.goto (-26), 3) := by decide +kernel
theorem dX2_hasFace_31 : decode cX2_hasFace 31 = .ok (.iconst 0, 1) := by decide +kernel
theorem dX2_hasFace_32 : decode cX2_hasFace 32 = .ok (.ireturn, 1) := by decide +kernel
theorem dX2_addFace_0 : decode cX2_addFace 0 = .ok (.aload_n 0, 1) := by decide +kernel
theorem dX2_addFace_1 : decode cX2_addFace 1 = .ok (.getfield 15, 3) := by decide +kernel
theorem dX2_addFace_4 : decode cX2_addFace 4 = .ok (.iconst 3, 1) := by decide +kernel
theorem dX2_addFace_5 : decode cX2_addFace 5 = .ok (.if_icmp .lt 6, 3) := by decide +kernel
theorem dX2_addFace_8 : decode cX2_addFace 8 = .ok (.bipush (-5), 2) := by decide +kernel
theorem dX2_addFace_10 : decode cX2_addFace 10 = .ok (.ireturn, 1) := by decide +kernel
theorem dX2_addFace_11 : decode cX2_addFace 11 = .ok (.aload_n 0, 1) := by decide +kernel
theorem dX2_addFace_12 : decode cX2_addFace 12 = .ok (.getfield 11, 3) := by decide +kernel
theorem dX2_addFace_15 : decode cX2_addFace 15 = .ok (.aload_n 0, 1) := by decide +kernel
theorem dX2_addFace_16 : decode cX2_addFace 16 = .ok (.getfield 15, 3) := by decide +kernel
theorem dX2_addFace_19 : decode cX2_addFace 19 = .ok (.aload_n 1, 1) := by decide +kernel
theorem dX2_addFace_20 : decode cX2_addFace 20 = .ok (.aastore, 1) := by decide +kernel
theorem dX2_addFace_21 : decode cX2_addFace 21 = .ok (.aload_n 0, 1) := by decide +kernel
theorem dX2_addFace_22 : decode cX2_addFace 22 = .ok (.dup, 1) := by decide +kernel
theorem dX2_addFace_23 : decode cX2_addFace 23 = .ok (.getfield 15, 3) := by decide +kernel
theorem dX2_addFace_26 : decode cX2_addFace 26 = .ok (.iconst 1, 1) := by decide +kernel
theorem dX2_addFace_27 : decode cX2_addFace 27 = .ok (.iadd, 1) := by decide +kernel
theorem dX2_addFace_28 : decode cX2_addFace 28 = .ok (.putfield 15, 3) := by decide +kernel
theorem dX2_addFace_31 : decode cX2_addFace 31 = .ok (.aload_n 0, 1) := by decide +kernel
theorem dX2_addFace_32 : decode cX2_addFace 32 = .ok (.getfield 15, 3) := by decide +kernel
theorem dX2_addFace_35 : decode cX2_addFace 35 = .ok (.ireturn, 1) := by decide +kernel
theorem dX2_isConstant_0 : decode cX2_isConstant 0 = .ok (.iload_n 1, 1) := by decide +kernel
theorem dX2_isConstant_1 : decode cX2_isConstant 1 = .ok (.invokestatic 59, 3) := by decide +kernel
theorem dX2_isConstant_4 : decode cX2_isConstant 4 = .ok (.ifCond .eq 16, 3) := by decide +kernel
theorem dX2_isConstant_7 : decode cX2_isConstant 7 = .ok (.aload_n 0, 1) := by decide +kernel
theorem dX2_isConstant_8 : decode cX2_isConstant 8 = .ok (.getfield 23, 3) := by decide +kernel
theorem dX2_isConstant_11 : decode cX2_isConstant 11 = .ok (.iload_n 1, 1) := by decide +kernel
theorem dX2_isConstant_12 : decode cX2_isConstant 12 = .ok (.baload, 1) := by decide +kernel
theorem dX2_isConstant_13 : decode cX2_isConstant 13 = .ok (.ifCond .eq 7, 3) := by decide +kernel
theorem dX2_isConstant_16 : decode cX2_isConstant 16 = .ok (.iconst 1, 1) := by decide +kernel
theorem dX2_isConstant_17 : decode cX2_isConstant 17 = .ok (.goto 4, 3) := by decide +kernel
theorem dX2_isConstant_20 : decode cX2_isConstant 20 = .ok (.iconst 0, 1) := by decide +kernel
theorem dX2_isConstant_21 : decode cX2_isConstant 21 = .ok (.ireturn, 1) := by decide +kernel
theorem dX2_fix_0 : decode cX2_fix 0 = .ok (.iload_n 1, 1) := by decide +kernel
theorem dX2_fix_1 : decode cX2_fix 1 = .ok (.invokestatic 59, 3) := by decide +kernel
theorem dX2_fix_4 : decode cX2_fix 4 = .ok (.ifCond .eq 17, 3) := by decide +kernel
theorem dX2_fix_7 : decode cX2_fix 7 = .ok (.aload_n 0, 1) := by decide +kernel
theorem dX2_fix_8 : decode cX2_fix 8 = .ok (.getfield 19, 3) := by decide +kernel
theorem dX2_fix_11 : decode cX2_fix 11 = .ok (.iload_n 1, 1) := by decide +kernel
theorem dX2_fix_12 : decode cX2_fix 12 = .ok (.iload_n 2, 1) := by decide +kernel
theorem dX2_fix_13 : decode cX2_fix 13 = .ok (.iastore, 1) := by decide +kernel
theorem dX2_fix_14 : decode cX2_fix 14 = .ok (.aload_n 0, 1) := by decide +kernel
theorem dX2_fix_15 : decode cX2_fix 15 = .ok (.getfield 23, 3) := by decide +kernel
theorem dX2_fix_18 : decode cX2_fix 18 = .ok (.iload_n 1, 1) := by decide +kernel
theorem dX2_fix_19 : decode cX2_fix 19 = .ok (.iconst 1, 1) := by decide +kernel
theorem dX2_fix_20 : decode cX2_fix 20 = .ok (.bastore, 1) := by decide +kernel
theorem dX2_fix_21 : decode cX2_fix 21 = .ok (.return_, 1) := by decide +kernel
theorem dX2_valueOf_0 : decode cX2_valueOf 0 = .ok (.iload_n 1, 1) := by decide +kernel
theorem dX2_valueOf_1 : decode cX2_valueOf 1 = .ok (.invokestatic 59, 3) := by decide +kernel
theorem dX2_valueOf_4 : decode cX2_valueOf 4 = .ok (.ifCond .eq 12, 3) := by decide +kernel
theorem dX2_valueOf_7 : decode cX2_valueOf 7 = .ok (.aload_n 0, 1) := by decide +kernel
theorem dX2_valueOf_8 : decode cX2_valueOf 8 = .ok (.getfield 19, 3) := by decide +kernel
theorem dX2_valueOf_11 : decode cX2_valueOf 11 = .ok (.iload_n 1, 1) := by decide +kernel
theorem dX2_valueOf_12 : decode cX2_valueOf 12 = .ok (.iaload, 1) := by decide +kernel
theorem dX2_valueOf_13 : decode cX2_valueOf 13 = .ok (.goto 4, 3) := by decide +kernel
theorem dX2_valueOf_16 : decode cX2_valueOf 16 = .ok (.iconst 0, 1) := by decide +kernel
theorem dX2_valueOf_17 : decode cX2_valueOf 17 = .ok (.ireturn, 1) := by decide +kernel
theorem dX2_change_0 : decode cX2_change 0 = .ok (.iload_n 1, 1) := by decide +kernel
theorem dX2_change_1 : decode cX2_change 1 = .ok (.invokestatic 59, 3) := by decide +kernel
theorem dX2_change_4 : decode cX2_change 4 = .ok (.ifCond .eq 19, 3) := by decide +kernel
theorem dX2_change_7 : decode cX2_change 7 = .ok (.aload_n 0, 1) := by decide +kernel
theorem dX2_change_8 : decode cX2_change 8 = .ok (.getfield 23, 3) := by decide +kernel
theorem dX2_change_11 : decode cX2_change 11 = .ok (.iload_n 1, 1) := by decide +kernel
theorem dX2_change_12 : decode cX2_change 12 = .ok (.baload, 1) := by decide +kernel
theorem dX2_change_13 : decode cX2_change 13 = .ok (.ifCond .ne 10, 3) := by decide +kernel
theorem dX2_change_16 : decode cX2_change 16 = .ok (.aload_n 0, 1) := by decide +kernel
theorem dX2_change_17 : decode cX2_change 17 = .ok (.getfield 19, 3) := by decide +kernel
theorem dX2_change_20 : decode cX2_change 20 = .ok (.iload_n 1, 1) := by decide +kernel
theorem dX2_change_21 : decode cX2_change 21 = .ok (.iload_n 2, 1) := by decide +kernel
theorem dX2_change_22 : decode cX2_change 22 = .ok (.iastore, 1) := by decide +kernel
theorem dX2_change_23 : decode cX2_change 23 = .ok (.return_, 1) := by decide +kernel
theorem dX2_makeRow_0 : decode cX2_makeRow 0 = .ok (.aload_n 0, 1) := by decide +kernel
theorem dX2_makeRow_1 : decode cX2_makeRow 1 = .ok (.iconst 0, 1) := by decide +kernel
theorem dX2_makeRow_2 : decode cX2_makeRow 2 = .ok (.iload_n 1, 1) := by decide +kernel
theorem dX2_makeRow_3 : decode cX2_makeRow 3 = .ok (.bipush 20, 2) := by decide +kernel
theorem dX2_makeRow_5 : decode cX2_makeRow 5 = .ok (.invokestatic 63, 3) := by decide +kernel
theorem dX2_makeRow_8 : decode cX2_makeRow 8 = .ok (.invokestatic 69, 3) := by decide +kernel
theorem dX2_makeRow_11 : decode cX2_makeRow 11 = .ok (.putfield 30, 3) := by decide +kernel
theorem dX2_makeRow_14 : decode cX2_makeRow 14 = .ok (.iconst 0, 1) := by decide +kernel
theorem dX2_makeRow_15 : decode cX2_makeRow 15 = .ok (.istore_n 2, 1) := by decide +kernel
theorem dX2_makeRow_16 : decode cX2_makeRow 16 = .ok (.iload_n 2, 1) := by decide +kernel
theorem dX2_makeRow_17 : decode cX2_makeRow 17 = .ok (.aload_n 0, 1) := by decide +kernel
theorem dX2_makeRow_18 : decode cX2_makeRow 18 = .ok (.getfield 30, 3) := by decide +kernel
theorem dX2_makeRow_21 : decode cX2_makeRow 21 = .ok (.if_icmp .ge 16, 3) := by decide +kernel
theorem dX2_makeRow_24 : decode cX2_makeRow 24 = .ok (.aload_n 0, 1) := by decide +kernel
theorem dX2_makeRow_25 : decode cX2_makeRow 25 = .ok (.getfield 27, 3) := by decide +kernel
theorem dX2_makeRow_28 : decode cX2_makeRow 28 = .ok (.iload_n 2, 1) := by decide +kernel
theorem dX2_makeRow_29 : decode cX2_makeRow 29 = .ok (.iconst 0, 1) := by decide +kernel
theorem dX2_makeRow_30 : decode cX2_makeRow 30 = .ok (.iastore, 1) := by decide +kernel
theorem dX2_makeRow_31 : decode cX2_makeRow 31 = .ok (.iinc 2 1, 3) := by decide +kernel
theorem dX2_makeRow_34 : decode cX2_makeRow 34 = .ok (.goto (-18), 3) := by decide +kernel
theorem dX2_makeRow_37 : decode cX2_makeRow 37 = .ok (.return_, 1) := by decide +kernel
theorem dX2_dropRow_0 : decode cX2_dropRow 0 = .ok (.aload_n 0, 1) := by decide +kernel
theorem dX2_dropRow_1 : decode cX2_dropRow 1 = .ok (.iconst (-1), 1) := by decide +kernel
theorem dX2_dropRow_2 : decode cX2_dropRow 2 = .ok (.putfield 30, 3) := by decide +kernel
theorem dX2_dropRow_5 : decode cX2_dropRow 5 = .ok (.return_, 1) := by decide +kernel
theorem dX2_hasItem_0 : decode cX2_hasItem 0 = .ok (.iload_n 1, 1) := by decide +kernel
theorem dX2_hasItem_1 : decode cX2_hasItem 1 = .ok (.ifCond .lt 15, 3) := by decide +kernel
theorem dX2_hasItem_4 : decode cX2_hasItem 4 = .ok (.iload_n 1, 1) := by decide +kernel
theorem dX2_hasItem_5 : decode cX2_hasItem 5 = .ok (.aload_n 0, 1) := by decide +kernel
theorem dX2_hasItem_6 : decode cX2_hasItem 6 = .ok (.getfield 30, 3) := by decide +kernel
theorem dX2_hasItem_9 : decode cX2_hasItem 9 = .ok (.if_icmp .ge 7, 3) := by decide +kernel
theorem dX2_hasItem_12 : decode cX2_hasItem 12 = .ok (.iconst 1, 1) := by decide +kernel
theorem dX2_hasItem_13 : decode cX2_hasItem 13 = .ok (.goto 4, 3) := by decide +kernel
theorem dX2_hasItem_16 : decode cX2_hasItem 16 = .ok (.iconst 0, 1) := by decide +kernel
theorem dX2_hasItem_17 : decode cX2_hasItem 17 = .ok (.ireturn, 1) := by decide +kernel
theorem dX2_reset_0 : decode cX2_reset 0 = .ok (.aload_n 0, 1) := by decide +kernel
theorem dX2_reset_1 : decode cX2_reset 1 = .ok (.iconst 0, 1) := by decide +kernel
theorem dX2_reset_2 : decode cX2_reset 2 = .ok (.putfield 39, 3) := by decide +kernel
theorem dX2_reset_5 : decode cX2_reset 5 = .ok (.aload_n 0, 1) := by decide +kernel
theorem dX2_reset_6 : decode cX2_reset 6 = .ok (.invokevirtual 72, 3) := by decide +kernel
theorem dX2_reset_9 : decode cX2_reset 9 = .ok (.iconst 0, 1) := by decide +kernel
theorem dX2_reset_10 : decode cX2_reset 10 = .ok (.istore_n 1, 1) := by decide +kernel
theorem dX2_reset_11 : decode cX2_reset 11 = .ok (.iload_n 1, 1) := by decide +kernel
theorem dX2_reset_12 : decode cX2_reset 12 = .ok (.iconst 4, 1) := by decide +kernel
theorem dX2_reset_13 : decode cX2_reset 13 = .ok (.if_icmp .ge 15, 3) := by decide +kernel
theorem dX2_reset_16 : decode cX2_reset 16 = .ok (.aload_n 0, 1) := by decide +kernel
theorem dX2_reset_17 : decode cX2_reset 17 = .ok (.iload_n 1, 1) := by decide +kernel
theorem dX2_reset_18 : decode cX2_reset 18 = .ok (.iconst 0, 1) := by decide +kernel
theorem dX2_reset_19 : decode cX2_reset 19 = .ok (.invokevirtual 75, 3) := by decide +kernel
theorem dX2_reset_22 : decode cX2_reset 22 = .ok (.iinc 1 1, 3) := by decide +kernel
theorem dX2_reset_25 : decode cX2_reset 25 = .ok (.goto (-14), 3) := by decide +kernel
theorem dX2_reset_28 : decode cX2_reset 28 = .ok (.return_, 1) := by decide +kernel
theorem dX4_init_0 : decode cX4_init 0 = .ok (.aload_n 0, 1) := by decide +kernel
theorem dX4_init_1 : decode cX4_init 1 = .ok (.invokespecial 3, 3) := by decide +kernel
theorem dX4_init_4 : decode cX4_init 4 = .ok (.aload_n 0, 1) := by decide +kernel
theorem dX4_init_5 : decode cX4_init 5 = .ok (.bipush 10, 2) := by decide +kernel
theorem dX4_init_7 : decode cX4_init 7 = .ok (.anewarray 11, 3) := by decide +kernel
theorem dX4_init_10 : decode cX4_init 10 = .ok (.putfield 13, 3) := by decide +kernel
theorem dX4_init_13 : decode cX4_init 13 = .ok (.aload_n 0, 1) := by decide +kernel
theorem dX4_init_14 : decode cX4_init 14 = .ok (.iconst 0, 1) := by decide +kernel
theorem dX4_init_15 : decode cX4_init 15 = .ok (.putfield 17, 3) := by decide +kernel
theorem dX4_init_18 : decode cX4_init 18 = .ok (.aload_n 0, 1) := by decide +kernel
theorem dX4_init_19 : decode cX4_init 19 = .ok (.iload_n 1, 1) := by decide +kernel
theorem dX4_init_20 : decode cX4_init 20 = .ok (.putfield 21, 3) := by decide +kernel
theorem dX4_init_23 : decode cX4_init 23 = .ok (.return_, 1) := by decide +kernel
theorem dX4_append_0 : decode cX4_append 0 = .ok (.aload_n 0, 1) := by decide +kernel
theorem dX4_append_1 : decode cX4_append 1 = .ok (.getfield 17, 3) := by decide +kernel
theorem dX4_append_4 : decode cX4_append 4 = .ok (.bipush 10, 2) := by decide +kernel
theorem dX4_append_6 : decode cX4_append 6 = .ok (.if_icmp .lt 6, 3) := by decide +kernel
theorem dX4_append_9 : decode cX4_append 9 = .ok (.bipush (-5), 2) := by decide +kernel
theorem dX4_append_11 : decode cX4_append 11 = .ok (.ireturn, 1) := by decide +kernel
theorem dX4_append_12 : decode cX4_append 12 = .ok (.iload_n 1, 1) := by decide +kernel
theorem dX4_append_13 : decode cX4_append 13 = .ok (.bipush 11, 2) := by decide +kernel
theorem dX4_append_15 : decode cX4_append 15 = .ok (.if_icmp .ne 11, 3) := by decide +kernel
theorem dX4_append_18 : decode cX4_append 18 = .ok (.aload_n 0, 1) := by decide +kernel
theorem dX4_append_19 : decode cX4_append 19 = .ok (.iload_n 3, 1) := by decide +kernel
theorem dX4_append_20 : decode cX4_append 20 = .ok (.invokevirtual 24, 3) := by decide +kernel
theorem dX4_append_23 : decode cX4_append 23 = .ok (.goto 4, 3) := by decide +kernel
theorem dX4_append_26 : decode cX4_append 26 = .ok (.iconst (-1), 1) := by decide +kernel
theorem dX4_append_27 : decode cX4_append 27 = .ok (.istore 6, 2) := by decide +kernel
theorem dX4_append_29 : decode cX4_append 29 = .ok (.aload_n 0, 1) := by decide +kernel
theorem dX4_append_30 : decode cX4_append 30 = .ok (.getfield 13, 3) := by decide +kernel
theorem dX4_append_33 : decode cX4_append 33 = .ok (.aload_n 0, 1) := by decide +kernel
theorem dX4_append_34 : decode cX4_append 34 = .ok (.getfield 17, 3) := by decide +kernel
theorem dX4_append_37 : decode cX4_append 37 = .ok (.new 11, 3) := by decide +kernel
theorem dX4_append_40 : decode cX4_append 40 = .ok (.dup, 1) := by decide +kernel
theorem dX4_append_41 : decode cX4_append 41 = .ok (.iload_n 1, 1) := by decide +kernel
theorem dX4_append_42 : decode cX4_append 42 = .ok (.aload_n 2, 1) := by decide +kernel
theorem dX4_append_43 : decode cX4_append 43 = .ok (.iload_n 3, 1) := by decide +kernel
theorem dX4_append_44 : decode cX4_append 44 = .ok (.iload 4, 2) := by decide +kernel
theorem dX4_append_46 : decode cX4_append 46 = .ok (.iload 5, 2) := by decide +kernel
theorem dX4_append_48 : decode cX4_append 48 = .ok (.iload 6, 2) := by decide +kernel
theorem dX4_append_50 : decode cX4_append 50 = .ok (.invokespecial 28, 3) := by decide +kernel
theorem dX4_append_53 : decode cX4_append 53 = .ok (.aastore, 1) := by decide +kernel
theorem dX4_append_54 : decode cX4_append 54 = .ok (.aload_n 0, 1) := by decide +kernel
theorem dX4_append_55 : decode cX4_append 55 = .ok (.dup, 1) := by decide +kernel
theorem dX4_append_56 : decode cX4_append 56 = .ok (.getfield 17, 3) := by decide +kernel
theorem dX4_append_59 : decode cX4_append 59 = .ok (.iconst 1, 1) := by decide +kernel
theorem dX4_append_60 : decode cX4_append 60 = .ok (.iadd, 1) := by decide +kernel
theorem dX4_append_61 : decode cX4_append 61 = .ok (.putfield 17, 3) := by decide +kernel
theorem dX4_append_64 : decode cX4_append 64 = .ok (.aload_n 0, 1) := by decide +kernel
theorem dX4_append_65 : decode cX4_append 65 = .ok (.getfield 17, 3) := by decide +kernel
theorem dX4_append_68 : decode cX4_append 68 = .ok (.ireturn, 1) := by decide +kernel
theorem dX4_lastGuarded_0 : decode cX4_lastGuarded 0 = .ok (.aload_n 0, 1) := by decide +kernel
theorem dX4_lastGuarded_1 : decode cX4_lastGuarded 1 = .ok (.getfield 17, 3) := by decide +kernel
theorem dX4_lastGuarded_4 : decode cX4_lastGuarded 4 = .ok (.iload_n 1, 1) := by decide +kernel
theorem dX4_lastGuarded_5 : decode cX4_lastGuarded 5 = .ok (.iadd, 1) := by decide +kernel
theorem dX4_lastGuarded_6 : decode cX4_lastGuarded 6 = .ok (.istore_n 2, 1) := by decide +kernel
theorem dX4_lastGuarded_7 : decode cX4_lastGuarded 7 = .ok (.iconst 0, 1) := by decide +kernel
theorem dX4_lastGuarded_8 : decode cX4_lastGuarded 8 = .ok (.istore_n 3, 1) := by decide +kernel
theorem dX4_lastGuarded_9 : decode cX4_lastGuarded 9 = .ok (.iload_n 3, 1) := by decide +kernel
theorem dX4_lastGuarded_10 : decode cX4_lastGuarded 10 = .ok (.aload_n 0, 1) := by decide +kernel
theorem dX4_lastGuarded_11 : decode cX4_lastGuarded 11 = .ok (.getfield 17, 3) := by decide +kernel
theorem dX4_lastGuarded_14 : decode cX4_lastGuarded 14 = .ok (.if_icmp .ge 39, 3) := by decide +kernel
theorem dX4_lastGuarded_17 : decode cX4_lastGuarded 17 = .ok (.aload_n 0, 1) := by decide +kernel
theorem dX4_lastGuarded_18 : decode cX4_lastGuarded 18 = .ok (.getfield 13, 3) := by decide +kernel
theorem dX4_lastGuarded_21 : decode cX4_lastGuarded 21 = .ok (.iload_n 3, 1) := by decide +kernel
theorem dX4_lastGuarded_22 : decode cX4_lastGuarded 22 = .ok (.aaload, 1) := by decide +kernel
theorem dX4_lastGuarded_23 : decode cX4_lastGuarded 23 = .ok (.aload_n 0, 1) := by decide +kernel
theorem dX4_lastGuarded_24 : decode cX4_lastGuarded 24 = .ok (.getfield 17, 3) := by decide +kernel
theorem dX4_lastGuarded_27 : decode cX4_lastGuarded 27 = .ok (.invokevirtual 31, 3) := by decide +kernel
theorem dX4_lastGuarded_30 : decode cX4_lastGuarded 30 = .ok (.ifCond .eq 17, 3) := by decide +kernel
theorem dX4_lastGuarded_33 : decode cX4_lastGuarded 33 = .ok (.iload_n 2, 1) := by decide +kernel
theorem dX4_lastGuarded_34 : decode cX4_lastGuarded 34 = .ok (.aload_n 0, 1) := by decide +kernel
theorem dX4_lastGuarded_35 : decode cX4_lastGuarded 35 = .ok (.getfield 13, 3) := by decide +kernel
theorem dX4_lastGuarded_38 : decode cX4_lastGuarded 38 = .ok (.iload_n 3, 1) := by decide +kernel
theorem dX4_lastGuarded_39 : decode cX4_lastGuarded 39 = .ok (.aaload, 1) := by decide +kernel
theorem dX4_lastGuarded_40 : decode cX4_lastGuarded 40 = .ok (.getfield 35, 3) := by decide +kernel
theorem dX4_lastGuarded_43 : decode cX4_lastGuarded 43 = .ok (.invokestatic 37, 3) := by decide +kernel
theorem dX4_lastGuarded_46 : decode cX4_lastGuarded 46 = .ok (.istore_n 2, 1) := by decide +kernel
theorem dX4_lastGuarded_47 : decode cX4_lastGuarded 47 = .ok (.iinc 3 1, 3) := by decide +kernel
theorem dX4_lastGuarded_50 : decode cX4_lastGuarded 50 = .ok (.goto (-41), 3) := by decide +kernel
theorem dX4_lastGuarded_53 : decode cX4_lastGuarded 53 = .ok (.iload_n 2, 1) := by decide +kernel
theorem dX4_lastGuarded_54 : decode cX4_lastGuarded 54 = .ok (.ireturn, 1) := by decide +kernel
theorem dX4_endOfCatch_0 : decode cX4_endOfCatch 0 = .ok (.iload_n 1, 1) := by decide +kernel
theorem dX4_endOfCatch_1 : decode cX4_endOfCatch 1 = .ok (.aload_n 0, 1) := by decide +kernel
theorem dX4_endOfCatch_2 : decode cX4_endOfCatch 2 = .ok (.getfield 17, 3) := by decide +kernel
theorem dX4_endOfCatch_5 : decode cX4_endOfCatch 5 = .ok (.invokestatic 37, 3) := by decide +kernel
theorem dX4_endOfCatch_8 : decode cX4_endOfCatch 8 = .ok (.iconst 1, 1) := by decide +kernel
theorem dX4_endOfCatch_9 : decode cX4_endOfCatch 9 = .ok (.isub, 1) := by decide +kernel
theorem dX4_endOfCatch_10 : decode cX4_endOfCatch 10 = .ok (.istore_n 3, 1) := by decide +kernel
theorem dX4_endOfCatch_11 : decode cX4_endOfCatch 11 = .ok (.iload_n 3, 1) := by decide +kernel
theorem dX4_endOfCatch_12 : decode cX4_endOfCatch 12 = .ok (.ifCond .lt 45, 3) := by decide +kernel
theorem dX4_endOfCatch_15 : decode cX4_endOfCatch 15 = .ok (.aload_n 0, 1) := by decide +kernel
theorem dX4_endOfCatch_16 : decode cX4_endOfCatch 16 = .ok (.getfield 13, 3) := by decide +kernel
theorem dX4_endOfCatch_19 : decode cX4_endOfCatch 19 = .ok (.iload_n 3, 1) := by decide +kernel
theorem dX4_endOfCatch_20 : decode cX4_endOfCatch 20 = .ok (.aaload, 1) := by decide +kernel
theorem dX4_endOfCatch_21 : decode cX4_endOfCatch 21 = .ok (.iload_n 1, 1) := by decide +kernel
theorem dX4_endOfCatch_22 : decode cX4_endOfCatch 22 = .ok (.invokevirtual 31, 3) := by decide +kernel
theorem dX4_endOfCatch_25 : decode cX4_endOfCatch 25 = .ok (.ifCond .eq 26, 3) := by decide +kernel
theorem dX4_endOfCatch_28 : decode cX4_endOfCatch 28 = .ok (.aload_n 0, 1) := by decide +kernel
theorem dX4_endOfCatch_29 : decode cX4_endOfCatch 29 = .ok (.getfield 13, 3) := by decide +kernel
theorem dX4_endOfCatch_32 : decode cX4_endOfCatch 32 = .ok (.iload_n 3, 1) := by decide +kernel
theorem dX4_endOfCatch_33 : decode cX4_endOfCatch 33 = .ok (.aaload, 1) := by decide +kernel
theorem dX4_endOfCatch_34 : decode cX4_endOfCatch 34 = .ok (.iload_n 2, 1) := by decide +kernel
theorem dX4_endOfCatch_35 : decode cX4_endOfCatch 35 = .ok (.invokevirtual 43, 3) := by decide +kernel
theorem dX4_endOfCatch_38 : decode cX4_endOfCatch 38 = .ok (.ifCond .eq 13, 3) := by decide +kernel
theorem dX4_endOfCatch_41 : decode cX4_endOfCatch 41 = .ok (.aload_n 0, 1) := by decide +kernel
theorem dX4_endOfCatch_42 : decode cX4_endOfCatch 42 = .ok (.getfield 13, 3) := by decide +kernel
theorem dX4_endOfCatch_45 : decode cX4_endOfCatch 45 = .ok (.iload_n 3, 1) := by decide +kernel
theorem dX4_endOfCatch_46 : decode cX4_endOfCatch 46 = .ok (.aaload, 1) := by decide +kernel
theorem dX4_endOfCatch_47 : decode cX4_endOfCatch 47 = .ok (.getfield 35, 3) := by decide +kernel
theorem dX4_endOfCatch_50 : decode cX4_endOfCatch 50 = .ok (.ireturn, 1) := by decide +kernel
theorem dX4_endOfCatch_51 : decode cX4_endOfCatch 51 = .ok (.iinc 3 (-1), 3) := by decide +kernel
theorem dX4_endOfCatch_54 : decode cX4_endOfCatch 54 = .ok (.goto (-43), 3) := by decide +kernel
theorem dX4_endOfCatch_57 : decode cX4_endOfCatch 57 = .ok (.iconst (-1), 1) := by decide +kernel
theorem dX4_endOfCatch_58 : decode cX4_endOfCatch 58 = .ok (.ireturn, 1) := by decide +kernel
theorem dJ9_max_7cf53_0 : decode cJ9_max_7cf53 0 = .ok (.iload_n 0, 1) := by decide +kernel
theorem dJ9_max_7cf53_1 : decode cJ9_max_7cf53 1 = .ok (.iload_n 1, 1) := by decide +kernel
theorem dJ9_max_7cf53_2 : decode cJ9_max_7cf53 2 = .ok (.if_icmp .lt 7, 3) := by decide +kernel
theorem dJ9_max_7cf53_5 : decode cJ9_max_7cf53 5 = .ok (.iload_n 0, 1) := by decide +kernel
theorem dJ9_max_7cf53_6 : decode cJ9_max_7cf53 6 = .ok (.goto 4, 3) := by decide +kernel
theorem dJ9_max_7cf53_9 : decode cJ9_max_7cf53 9 = .ok (.iload_n 1, 1) := by decide +kernel
theorem dJ9_max_7cf53_10 : decode cJ9_max_7cf53 10 = .ok (.ireturn, 1) := by decide +kernel
theorem dJ9_min_7cf53_0 : decode cJ9_min_7cf53 0 = .ok (.iload_n 0, 1) := by decide +kernel
theorem dJ9_min_7cf53_1 : decode cJ9_min_7cf53 1 = .ok (.iload_n 1, 1) := by decide +kernel
theorem dJ9_min_7cf53_2 : decode cJ9_min_7cf53 2 = .ok (.if_icmp .gt 7, 3) := by decide +kernel
theorem dJ9_min_7cf53_5 : decode cJ9_min_7cf53 5 = .ok (.iload_n 0, 1) := by decide +kernel
theorem dJ9_min_7cf53_6 : decode cJ9_min_7cf53 6 = .ok (.goto 4, 3) := by decide +kernel
theorem dJ9_min_7cf53_9 : decode cJ9_min_7cf53 9 = .ok (.iload_n 1, 1) := by decide +kernel
theorem dJ9_min_7cf53_10 : decode cJ9_min_7cf53 10 = .ok (.ireturn, 1) := by decide +kernel
end
section
theorem dX3_init_0 : decode cX3_init 0 = .ok (.aload_n 0, 1) := by decide +kernel
theorem dX3_init_1 : decode cX3_init 1 = .ok (.invokespecial 3, 3) := by decide +kernel
theorem dX3_init_4 : decode cX3_init 4 = .ok (.aload_n 0, 1) := by decide +kernel
theorem dX3_init_5 : decode cX3_init 5 = .ok (.new 9, 3) := by decide +kernel
theorem dX3_init_8 : decode cX3_init 8 = .ok (.dup, 1) := by decide +kernel
theorem dX3_init_9 : decode cX3_init 9 = .ok (.invokespecial 11, 3) := by decide +kernel
theorem dX3_init_12 : decode cX3_init 12 = .ok (.putfield 12, 3) := by decide +kernel
theorem dX3_init_15 : decode cX3_init 15 = .ok (.return_, 1) := by decide +kernel
theorem dX3_execute_0 : decode cX3_execute 0 = .ok (.aload_n 0, 1) := by decide +kernel
theorem dX3_execute_1 : decode cX3_execute 1 = .ok (.getfield 12, 3) := by decide +kernel
theorem dX3_execute_4 : decode cX3_execute 4 = .ok (.invokevirtual 18, 3) := by decide +kernel
theorem dX3_execute_7 : decode cX3_execute 7 = .ok (.aload_n 0, 1) := by decide +kernel
theorem dX3_execute_8 : decode cX3_execute 8 = .ok (.aload_n 1, 1) := by decide +kernel
theorem dX3_execute_9 : decode cX3_execute 9 = .ok (.iconst 0, 1) := by decide +kernel
theorem dX3_execute_10 : decode cX3_execute 10 = .ok (.invokevirtual 21, 3) := by decide +kernel
theorem dX3_execute_13 : decode cX3_execute 13 = .ok (.istore_n 3, 1) := by decide +kernel
theorem dX3_execute_14 : decode cX3_execute 14 = .ok (.iload_n 3, 1) := by decide +kernel
theorem dX3_execute_15 : decode cX3_execute 15 = .ok (.iconst (-1), 1) := by decide +kernel
theorem dX3_execute_16 : decode cX3_execute 16 = .ok (.if_icmp .ne 11, 3) := by decide +kernel
theorem dX3_execute_19 : decode cX3_execute 19 = .ok (.aload_n 0, 1) := by decide +kernel
theorem dX3_execute_20 : decode cX3_execute 20 = .ok (.aload_n 1, 1) := by decide +kernel
theorem dX3_execute_21 : decode cX3_execute 21 = .ok (.iload_n 2, 1) := by decide +kernel
theorem dX3_execute_22 : decode cX3_execute 22 = .ok (.iconst 0, 1) := by decide +kernel
theorem dX3_execute_23 : decode cX3_execute 23 = .ok (.invokevirtual 25, 3) := by decide +kernel
theorem dX3_execute_26 : decode cX3_execute 26 = .ok (.istore_n 3, 1) := by decide +kernel
theorem dX3_execute_27 : decode cX3_execute 27 = .ok (.aload_n 0, 1) := by decide +kernel
theorem dX3_execute_28 : decode cX3_execute 28 = .ok (.getfield 12, 3) := by decide +kernel
theorem dX3_execute_31 : decode cX3_execute 31 = .ok (.iload_n 3, 1) := by decide +kernel
theorem dX3_execute_32 : decode cX3_execute 32 = .ok (.putfield 29, 3) := by decide +kernel
theorem dX3_execute_35 : decode cX3_execute 35 = .ok (.iload_n 3, 1) := by decide +kernel
theorem dX3_execute_36 : decode cX3_execute 36 = .ok (.ireturn, 1) := by decide +kernel
theorem dX3_raise_0 : decode cX3_raise 0 = .ok (.aload_n 0, 1) := by decide +kernel
theorem dX3_raise_1 : decode cX3_raise 1 = .ok (.getfield 12, 3) := by decide +kernel
theorem dX3_raise_4 : decode cX3_raise 4 = .ok (.dup, 1) := by decide +kernel
theorem dX3_raise_5 : decode cX3_raise 5 = .ok (.getfield 33, 3) := by decide +kernel
theorem dX3_raise_8 : decode cX3_raise 8 = .ok (.iconst 1, 1) := by decide +kernel
theorem dX3_raise_9 : decode cX3_raise 9 = .ok (.iadd, 1) := by decide +kernel
theorem dX3_raise_10 : decode cX3_raise 10 = .ok (.putfield 33, 3) := by decide +kernel
theorem dX3_raise_13 : decode cX3_raise 13 = .ok (.iload_n 1, 1) := by decide +kernel
theorem dX3_raise_14 : decode cX3_raise 14 = .ok (.ireturn, 1) := by decide +kernel
theorem dX3_want_0 : decode cX3_want 0 = .ok (.aload_n 1, 1) := by decide +kernel
theorem dX3_want_1 : decode cX3_want 1 = .ok (.getfield 36, 3) := by decide +kernel
theorem dX3_want_4 : decode cX3_want 4 = .ok (.iconst 3, 1) := by decide +kernel
theorem dX3_want_5 : decode cX3_want 5 = .ok (.if_icmp .ne 10, 3) := by decide +kernel
theorem dX3_want_8 : decode cX3_want 8 = .ok (.aload_n 0, 1) := by decide +kernel
theorem dX3_want_9 : decode cX3_want 9 = .ok (.bipush 8, 2) := by decide +kernel
theorem dX3_want_11 : decode cX3_want 11 = .ok (.invokevirtual 41, 3) := by decide +kernel
theorem dX3_want_14 : decode cX3_want 14 = .ok (.ireturn, 1) := by decide +kernel
theorem dX3_want_15 : decode cX3_want 15 = .ok (.aload_n 1, 1) := by decide +kernel
theorem dX3_want_16 : decode cX3_want 16 = .ok (.getfield 36, 3) := by decide +kernel
theorem dX3_want_19 : decode cX3_want 19 = .ok (.ifCond .eq 5, 3) := by decide +kernel
theorem dX3_want_22 : decode cX3_want 22 = .ok (.iconst (-1), 1) := by decide +kernel
theorem dX3_want_23 : decode cX3_want 23 = .ok (.ireturn, 1) := by decide +kernel
theorem dX3_want_24 : decode cX3_want 24 = .ok (.aload_n 1, 1) := by decide +kernel
theorem dX3_want_25 : decode cX3_want 25 = .ok (.iconst 1, 1) := by decide +kernel
theorem dX3_want_26 : decode cX3_want 26 = .ok (.putfield 36, 3) := by decide +kernel
theorem dX3_want_29 : decode cX3_want 29 = .ok (.aload_n 0, 1) := by decide +kernel
theorem dX3_want_30 : decode cX3_want 30 = .ok (.getfield 12, 3) := by decide +kernel
theorem dX3_want_33 : decode cX3_want 33 = .ok (.iconst 0, 1) := by decide +kernel
theorem dX3_want_34 : decode cX3_want 34 = .ok (.aload_n 1, 1) := by decide +kernel
theorem dX3_want_35 : decode cX3_want 35 = .ok (.getfield 45, 3) := by decide +kernel
theorem dX3_want_38 : decode cX3_want 38 = .ok (.invokevirtual 48, 3) := by decide +kernel
theorem dX3_want_41 : decode cX3_want 41 = .ok (.aload_n 0, 1) := by decide +kernel
theorem dX3_want_42 : decode cX3_want 42 = .ok (.aload_n 1, 1) := by decide +kernel
theorem dX3_want_43 : decode cX3_want 43 = .ok (.iload_n 2, 1) := by decide +kernel
theorem dX3_want_44 : decode cX3_want 44 = .ok (.invokevirtual 52, 3) := by decide +kernel
theorem dX3_want_47 : decode cX3_want 47 = .ok (.istore_n 3, 1) := by decide +kernel
theorem dX3_want_48 : decode cX3_want 48 = .ok (.iload_n 3, 1) := by decide +kernel
theorem dX3_want_49 : decode cX3_want 49 = .ok (.iconst (-1), 1) := by decide +kernel
theorem dX3_want_50 : decode cX3_want 50 = .ok (.if_icmp .ne 22, 3) := by decide +kernel
theorem dX3_want_53 : decode cX3_want 53 = .ok (.aload_n 1, 1) := by decide +kernel
theorem dX3_want_54 : decode cX3_want 54 = .ok (.iconst 2, 1) := by decide +kernel
theorem dX3_want_55 : decode cX3_want 55 = .ok (.putfield 36, 3) := by decide +kernel
theorem dX3_want_58 : decode cX3_want 58 = .ok (.aload_n 0, 1) := by decide +kernel
theorem dX3_want_59 : decode cX3_want 59 = .ok (.getfield 12, 3) := by decide +kernel
theorem dX3_want_62 : decode cX3_want 62 = .ok (.iconst 1, 1) := by decide +kernel
theorem dX3_want_63 : decode cX3_want 63 = .ok (.aload_n 1, 1) := by decide +kernel
theorem dX3_want_64 : decode cX3_want 64 = .ok (.getfield 45, 3) := by decide +kernel
theorem dX3_want_67 : decode cX3_want 67 = .ok (.invokevirtual 48, 3) := by decide +kernel
theorem dX3_want_70 : decode cX3_want 70 = .ok (.iconst (-1), 1) := by decide +kernel
theorem dX3_want_71 : decode cX3_want 71 = .ok (.ireturn, 1) := by decide +kernel
theorem dX3_want_72 : decode cX3_want 72 = .ok (.aload_n 1, 1) := by decide +kernel
theorem dX3_want_73 : decode cX3_want 73 = .ok (.iconst 3, 1) := by decide +kernel
theorem dX3_want_74 : decode cX3_want 74 = .ok (.putfield 36, 3) := by decide +kernel
theorem dX3_want_77 : decode cX3_want 77 = .ok (.aload_n 0, 1) := by decide +kernel
theorem dX3_want_78 : decode cX3_want 78 = .ok (.getfield 12, 3) := by decide +kernel
theorem dX3_want_81 : decode cX3_want 81 = .ok (.iconst 2, 1) := by decide +kernel
theorem dX3_want_82 : decode cX3_want 82 = .ok (.aload_n 1, 1) := by decide +kernel
theorem dX3_want_83 : decode cX3_want 83 = .ok (.getfield 45, 3) := by decide +kernel
theorem dX3_want_86 : decode cX3_want 86 = .ok (.invokevirtual 48, 3) := by decide +kernel
theorem dX3_want_89 : decode cX3_want 89 = .ok (.aload_n 0, 1) := by decide +kernel
theorem dX3_want_90 : decode cX3_want 90 = .ok (.iload_n 3, 1) := by decide +kernel
theorem dX3_want_91 : decode cX3_want 91 = .ok (.invokevirtual 55, 3) := by decide +kernel
theorem dX3_want_94 : decode cX3_want 94 = .ok (.ireturn, 1) := by decide +kernel
theorem dX3_start_0 : decode cX3_start 0 = .ok (.iconst (-1), 1) := by decide +kernel
theorem dX3_start_1 : decode cX3_start 1 = .ok (.istore_n 3, 1) := by decide +kernel
theorem dX3_start_2 : decode cX3_start 2 = .ok (.aload_n 1, 1) := by decide +kernel
theorem dX3_start_3 : decode cX3_start 3 = .ok (.getfield 58, 3) := by decide +kernel
theorem dX3_start_6 : decode cX3_start 6 = .ok (.ifnull 13, 3) := by decide +kernel
theorem dX3_start_9 : decode cX3_start 9 = .ok (.aload_n 0, 1) := by decide +kernel
theorem dX3_start_10 : decode cX3_start 10 = .ok (.aload_n 1, 1) := by decide +kernel
theorem dX3_start_11 : decode cX3_start 11 = .ok (.getfield 58, 3) := by decide +kernel
theorem dX3_start_14 : decode cX3_start 14 = .ok (.iload_n 2, 1) := by decide +kernel
theorem dX3_start_15 : decode cX3_start 15 = .ok (.invokevirtual 21, 3) := by decide +kernel
theorem dX3_start_18 : decode cX3_start 18 = .ok (.istore_n 3, 1) := by decide +kernel
theorem dX3_start_19 : decode cX3_start 19 = .ok (.iload_n 3, 1) := by decide +kernel
theorem dX3_start_20 : decode cX3_start 20 = .ok (.iconst (-1), 1) := by decide +kernel
theorem dX3_start_21 : decode cX3_start 21 = .ok (.if_icmp .ne 19, 3) := by decide +kernel
theorem dX3_start_24 : decode cX3_start 24 = .ok (.aload_n 1, 1) := by decide +kernel
theorem dX3_start_25 : decode cX3_start 25 = .ok (.getfield 62, 3) := by decide +kernel
theorem dX3_start_28 : decode cX3_start 28 = .ok (.ifCond .ne 12, 3) := by decide +kernel
theorem dX3_start_31 : decode cX3_start 31 = .ok (.aload_n 0, 1) := by decide +kernel
theorem dX3_start_32 : decode cX3_start 32 = .ok (.aload_n 1, 1) := by decide +kernel
theorem dX3_start_33 : decode cX3_start 33 = .ok (.iload_n 2, 1) := by decide +kernel
theorem dX3_start_34 : decode cX3_start 34 = .ok (.bipush 12, 2) := by decide +kernel
theorem dX3_start_36 : decode cX3_start 36 = .ok (.invokevirtual 66, 3) := by decide +kernel
theorem dX3_start_39 : decode cX3_start 39 = .ok (.istore_n 3, 1) := by decide +kernel
theorem dX3_start_40 : decode cX3_start 40 = .ok (.iload_n 3, 1) := by decide +kernel
theorem dX3_start_41 : decode cX3_start 41 = .ok (.iconst (-1), 1) := by decide +kernel
theorem dX3_start_42 : decode cX3_start 42 = .ok (.if_icmp .eq 5, 3) := by decide +kernel
theorem dX3_start_45 : decode cX3_start 45 = .ok (.iload_n 3, 1) := by decide +kernel
theorem dX3_start_46 : decode cX3_start 46 = .ok (.ireturn, 1) := by decide +kernel
theorem dX3_start_47 : decode cX3_start 47 = .ok (.iload_n 2, 1) := by decide +kernel
theorem dX3_start_48 : decode cX3_start 48 = .ok (.bipush 8, 2) := by decide +kernel
theorem dX3_start_50 : decode cX3_start 50 = .ok (.if_icmp .ge 13, 3) := by decide +kernel
theorem dX3_start_53 : decode cX3_start 53 = .ok (.aload_n 0, 1) := by decide +kernel
theorem dX3_start_54 : decode cX3_start 54 = .ok (.aload_n 1, 1) := by decide +kernel
theorem dX3_start_55 : decode cX3_start 55 = .ok (.iconst 0, 1) := by decide +kernel
theorem dX3_start_56 : decode cX3_start 56 = .ok (.iload_n 2, 1) := by decide +kernel
theorem dX3_start_57 : decode cX3_start 57 = .ok (.invokevirtual 25, 3) := by decide +kernel
theorem dX3_start_60 : decode cX3_start 60 = .ok (.goto 9, 3) := by decide +kernel
theorem dX3_start_63 : decode cX3_start 63 = .ok (.aload_n 0, 1) := by decide +kernel
theorem dX3_start_64 : decode cX3_start 64 = .ok (.bipush 9, 2) := by decide +kernel
theorem dX3_start_66 : decode cX3_start 66 = .ok (.invokevirtual 41, 3) := by decide +kernel
theorem dX3_start_69 : decode cX3_start 69 = .ok (.ireturn, 1) := by decide +kernel
theorem dX3_afterStart_0 : decode cX3_afterStart 0 = .ok (.iload_n 1, 1) := by decide +kernel
theorem dX3_afterStart_1 : decode cX3_afterStart 1 = .ok (.bipush 7, 2) := by decide +kernel
theorem dX3_afterStart_3 : decode cX3_afterStart 3 = .ok (.if_icmp .lt 5, 3) := by decide +kernel
theorem dX3_afterStart_6 : decode cX3_afterStart 6 = .ok (.iload_n 1, 1) := by decide +kernel
theorem dX3_afterStart_7 : decode cX3_afterStart 7 = .ok (.ireturn, 1) := by decide +kernel
theorem dX3_afterStart_8 : decode cX3_afterStart 8 = .ok (.aload_n 0, 1) := by decide +kernel
theorem dX3_afterStart_9 : decode cX3_afterStart 9 = .ok (.getfield 12, 3) := by decide +kernel
theorem dX3_afterStart_12 : decode cX3_afterStart 12 = .ok (.iload_n 1, 1) := by decide +kernel
theorem dX3_afterStart_13 : decode cX3_afterStart 13 = .ok (.putfield 69, 3) := by decide +kernel
theorem dX3_afterStart_16 : decode cX3_afterStart 16 = .ok (.aload_n 0, 1) := by decide +kernel
theorem dX3_afterStart_17 : decode cX3_afterStart 17 = .ok (.bipush 7, 2) := by decide +kernel
theorem dX3_afterStart_19 : decode cX3_afterStart 19 = .ok (.invokevirtual 41, 3) := by decide +kernel
theorem dX3_afterStart_22 : decode cX3_afterStart 22 = .ok (.ireturn, 1) := by decide +kernel
theorem dX3_lookThrough_0 : decode cX3_lookThrough 0 = .ok (.iconst (-1), 1) := by decide +kernel
theorem dX3_lookThrough_1 : decode cX3_lookThrough 1 = .ok (.istore 4, 2) := by decide +kernel
theorem dX3_lookThrough_3 : decode cX3_lookThrough 3 = .ok (.iconst 0, 1) := by decide +kernel
theorem dX3_lookThrough_4 : decode cX3_lookThrough 4 = .ok (.istore 5, 2) := by decide +kernel
theorem dX3_lookThrough_6 : decode cX3_lookThrough 6 = .ok (.iload 5, 2) := by decide +kernel
theorem dX3_lookThrough_8 : decode cX3_lookThrough 8 = .ok (.aload_n 1, 1) := by decide +kernel
theorem dX3_lookThrough_9 : decode cX3_lookThrough 9 = .ok (.getfield 72, 3) := by decide +kernel
theorem dX3_lookThrough_12 : decode cX3_lookThrough 12 = .ok (.if_icmp .ge 63, 3) := by decide +kernel
theorem dX3_lookThrough_15 : decode cX3_lookThrough 15 = .ok (.iload 4, 2) := by decide +kernel
theorem dX3_lookThrough_17 : decode cX3_lookThrough 17 = .ok (.iconst (-1), 1) := by decide +kernel
theorem dX3_lookThrough_18 : decode cX3_lookThrough 18 = .ok (.if_icmp .ne 57, 3) := by decide +kernel
theorem dX3_lookThrough_21 : decode cX3_lookThrough 21 = .ok (.iload_n 3, 1) := by decide +kernel
theorem dX3_lookThrough_22 : decode cX3_lookThrough 22 = .ok (.ifCond .le 53, 3) := by decide +kernel
theorem dX3_lookThrough_25 : decode cX3_lookThrough 25 = .ok (.aload_n 1, 1) := by decide +kernel
theorem dX3_lookThrough_26 : decode cX3_lookThrough 26 = .ok (.getfield 75, 3) := by decide +kernel
theorem dX3_lookThrough_29 : decode cX3_lookThrough 29 = .ok (.iload 5, 2) := by decide +kernel
theorem dX3_lookThrough_31 : decode cX3_lookThrough 31 = .ok (.aaload, 1) := by decide +kernel
theorem dX3_lookThrough_32 : decode cX3_lookThrough 32 = .ok (.astore 6, 2) := by decide +kernel
theorem dX3_lookThrough_34 : decode cX3_lookThrough 34 = .ok (.aload_n 0, 1) := by decide +kernel
theorem dX3_lookThrough_35 : decode cX3_lookThrough 35 = .ok (.aload 6, 2) := by decide +kernel
theorem dX3_lookThrough_37 : decode cX3_lookThrough 37 = .ok (.iload_n 2, 1) := by decide +kernel
theorem dX3_lookThrough_38 : decode cX3_lookThrough 38 = .ok (.iload_n 3, 1) := by decide +kernel
theorem dX3_lookThrough_39 : decode cX3_lookThrough 39 = .ok (.iconst 1, 1) := by decide +kernel
theorem dX3_lookThrough_40 : decode cX3_lookThrough 40 = .ok (.isub, 1) := by decide +kernel
theorem dX3_lookThrough_41 : decode cX3_lookThrough 41 = .ok (.invokevirtual 66, 3) := by decide +kernel
theorem dX3_lookThrough_44 : decode cX3_lookThrough 44 = .ok (.istore 4, 2) := by decide +kernel
theorem dX3_lookThrough_46 : decode cX3_lookThrough 46 = .ok (.iload 4, 2) := by decide +kernel
theorem dX3_lookThrough_48 : decode cX3_lookThrough 48 = .ok (.iconst (-1), 1) := by decide +kernel
theorem dX3_lookThrough_49 : decode cX3_lookThrough 49 = .ok (.if_icmp .ne 20, 3) := by decide +kernel
theorem dX3_lookThrough_52 : decode cX3_lookThrough 52 = .ok (.aload 6, 2) := by decide +kernel
theorem dX3_lookThrough_54 : decode cX3_lookThrough 54 = .ok (.getfield 79, 3) := by decide +kernel
theorem dX3_lookThrough_57 : decode cX3_lookThrough 57 = .ok (.ifCond .eq 12, 3) := by decide +kernel
theorem dX3_lookThrough_60 : decode cX3_lookThrough 60 = .ok (.aload_n 0, 1) := by decide +kernel
theorem dX3_lookThrough_61 : decode cX3_lookThrough 61 = .ok (.aload 6, 2) := by decide +kernel
theorem dX3_lookThrough_63 : decode cX3_lookThrough 63 = .ok (.iload_n 2, 1) := by decide +kernel
theorem dX3_lookThrough_64 : decode cX3_lookThrough 64 = .ok (.invokevirtual 21, 3) := by decide +kernel
theorem dX3_lookThrough_67 : decode cX3_lookThrough 67 = .ok (.istore 4, 2) := by decide +kernel
theorem dX3_lookThrough_69 : decode cX3_lookThrough 69 = .ok (.iinc 5 1, 3) := by decide +kernel
theorem dX3_lookThrough_72 : decode cX3_lookThrough 72 = .ok (.goto (-66), 3) := by decide +kernel
theorem dX3_lookThrough_75 : decode cX3_lookThrough 75 = .ok (.iload 4, 2) := by decide +kernel
theorem dX3_lookThrough_77 : decode cX3_lookThrough 77 = .ok (.ireturn, 1) := by decide +kernel
theorem dX3_work_0 : decode cX3_work 0 = .ok (.aload_n 1, 1) := by decide +kernel
theorem dX3_work_1 : decode cX3_work 1 = .ok (.getfield 82, 3) := by decide +kernel
theorem dX3_work_4 : decode cX3_work 4 = .ok (.iload_n 2, 1) := by decide +kernel
theorem dX3_work_5 : decode cX3_work 5 = .ok (.aaload, 1) := by decide +kernel
theorem dX3_work_6 : decode cX3_work 6 = .ok (.astore 4, 2) := by decide +kernel
theorem dX3_work_8 : decode cX3_work 8 = .ok (.iconst 0, 1) := by decide +kernel
theorem dX3_work_9 : decode cX3_work 9 = .ok (.istore 5, 2) := by decide +kernel
theorem dX3_work_11 : decode cX3_work 11 = .ok (.iconst 0, 1) := by decide +kernel
theorem dX3_work_12 : decode cX3_work 12 = .ok (.istore 6, 2) := by decide +kernel
theorem dX3_work_14 : decode cX3_work 14 = .ok (.iload 6, 2) := by decide +kernel
theorem dX3_work_16 : decode cX3_work 16 = .ok (.aload 4, 2) := by decide +kernel
theorem dX3_work_18 : decode cX3_work 18 = .ok (.getfield 86, 3) := by decide +kernel
theorem dX3_work_21 : decode cX3_work 21 = .ok (.if_icmp .ge 69, 3) := by decide +kernel
theorem dX3_work_24 : decode cX3_work 24 = .ok (.iload 6, 2) := by decide +kernel
theorem dX3_work_26 : decode cX3_work 26 = .ok (.iload 5, 2) := by decide +kernel
theorem dX3_work_28 : decode cX3_work 28 = .ok (.if_icmp .ge 6, 3) := by decide +kernel
theorem dX3_work_31 : decode cX3_work 31 = .ok (.goto 53, 3) := by decide +kernel
theorem dX3_work_34 : decode cX3_work 34 = .ok (.aload_n 0, 1) := by decide +kernel
theorem dX3_work_35 : decode cX3_work 35 = .ok (.aload_n 1, 1) := by decide +kernel
theorem dX3_work_36 : decode cX3_work 36 = .ok (.aload 4, 2) := by decide +kernel
theorem dX3_work_38 : decode cX3_work 38 = .ok (.getfield 91, 3) := by decide +kernel
theorem dX3_work_41 : decode cX3_work 41 = .ok (.iload 6, 2) := by decide +kernel
theorem dX3_work_43 : decode cX3_work 43 = .ok (.aaload, 1) := by decide +kernel
theorem dX3_work_44 : decode cX3_work 44 = .ok (.iload_n 3, 1) := by decide +kernel
theorem dX3_work_45 : decode cX3_work 45 = .ok (.iconst 1, 1) := by decide +kernel
theorem dX3_work_46 : decode cX3_work 46 = .ok (.iadd, 1) := by decide +kernel
theorem dX3_work_47 : decode cX3_work 47 = .ok (.invokevirtual 95, 3) := by decide +kernel
theorem dX3_work_50 : decode cX3_work 50 = .ok (.istore 7, 2) := by decide +kernel
theorem dX3_work_52 : decode cX3_work 52 = .ok (.iload 7, 2) := by decide +kernel
theorem dX3_work_54 : decode cX3_work 54 = .ok (.iconst (-1), 1) := by decide +kernel
theorem dX3_work_55 : decode cX3_work 55 = .ok (.if_icmp .eq 29, 3) := by decide +kernel
theorem dX3_work_58 : decode cX3_work 58 = .ok (.aload 4, 2) := by decide +kernel
theorem dX3_work_60 : decode cX3_work 60 = .ok (.iload 6, 2) := by decide +kernel
theorem dX3_work_62 : decode cX3_work 62 = .ok (.iload 7, 2) := by decide +kernel
theorem dX3_work_64 : decode cX3_work 64 = .ok (.invokevirtual 99, 3) := by decide +kernel
theorem dX3_work_67 : decode cX3_work 67 = .ok (.istore 8, 2) := by decide +kernel
theorem dX3_work_69 : decode cX3_work 69 = .ok (.iload 8, 2) := by decide +kernel
theorem dX3_work_71 : decode cX3_work 71 = .ok (.iconst (-1), 1) := by decide +kernel
theorem dX3_work_72 : decode cX3_work 72 = .ok (.if_icmp .ne 6, 3) := by decide +kernel
theorem dX3_work_75 : decode cX3_work 75 = .ok (.iload 7, 2) := by decide +kernel
theorem dX3_work_77 : decode cX3_work 77 = .ok (.ireturn, 1) := by decide +kernel
theorem dX3_work_78 : decode cX3_work 78 = .ok (.iload 8, 2) := by decide +kernel
theorem dX3_work_80 : decode cX3_work 80 = .ok (.iconst 1, 1) := by decide +kernel
theorem dX3_work_81 : decode cX3_work 81 = .ok (.iadd, 1) := by decide +kernel
theorem dX3_work_82 : decode cX3_work 82 = .ok (.istore 5, 2) := by decide +kernel
theorem dX3_work_84 : decode cX3_work 84 = .ok (.iinc 6 1, 3) := by decide +kernel
theorem dX3_work_87 : decode cX3_work 87 = .ok (.goto (-73), 3) := by decide +kernel
theorem dX3_work_90 : decode cX3_work 90 = .ok (.iconst (-1), 1) := by decide +kernel
theorem dX3_work_91 : decode cX3_work 91 = .ok (.ireturn, 1) := by decide +kernel
theorem dX3_begin_0 : decode cX3_begin 0 = .ok (.aload_n 0, 1) := by decide +kernel
theorem dX3_begin_1 : decode cX3_begin 1 = .ok (.getfield 12, 3) := by decide +kernel
theorem dX3_begin_4 : decode cX3_begin 4 = .ok (.getfield 103, 3) := by decide +kernel
theorem dX3_begin_7 : decode cX3_begin 7 = .ok (.bipush 80, 2) := by decide +kernel
theorem dX3_begin_9 : decode cX3_begin 9 = .ok (.if_icmp .lt 6, 3) := by decide +kernel
theorem dX3_begin_12 : decode cX3_begin 12 = .ok (.bipush 10, 2) := by decide +kernel
theorem dX3_begin_14 : decode cX3_begin 14 = .ok (.ireturn, 1) := by decide +kernel
theorem dX3_begin_15 : decode cX3_begin 15 = .ok (.aload_n 0, 1) := by decide +kernel
theorem dX3_begin_16 : decode cX3_begin 16 = .ok (.getfield 12, 3) := by decide +kernel
theorem dX3_begin_19 : decode cX3_begin 19 = .ok (.dup, 1) := by decide +kernel
theorem dX3_begin_20 : decode cX3_begin 20 = .ok (.getfield 103, 3) := by decide +kernel
theorem dX3_begin_23 : decode cX3_begin 23 = .ok (.iconst 1, 1) := by decide +kernel
theorem dX3_begin_24 : decode cX3_begin 24 = .ok (.iadd, 1) := by decide +kernel
theorem dX3_begin_25 : decode cX3_begin 25 = .ok (.putfield 103, 3) := by decide +kernel
theorem dX3_begin_28 : decode cX3_begin 28 = .ok (.aload_n 2, 1) := by decide +kernel
theorem dX3_begin_29 : decode cX3_begin 29 = .ok (.invokevirtual 105, 3) := by decide +kernel
theorem dX3_begin_32 : decode cX3_begin 32 = .ok (.ifCond .eq 23, 3) := by decide +kernel
theorem dX3_begin_35 : decode cX3_begin 35 = .ok (.aload_n 0, 1) := by decide +kernel
theorem dX3_begin_36 : decode cX3_begin 36 = .ok (.aload_n 2, 1) := by decide +kernel
theorem dX3_begin_37 : decode cX3_begin 37 = .ok (.getfield 111, 3) := by decide +kernel
theorem dX3_begin_40 : decode cX3_begin 40 = .ok (.iload_n 3, 1) := by decide +kernel
theorem dX3_begin_41 : decode cX3_begin 41 = .ok (.invokevirtual 21, 3) := by decide +kernel
theorem dX3_begin_44 : decode cX3_begin 44 = .ok (.istore 4, 2) := by decide +kernel
theorem dX3_begin_46 : decode cX3_begin 46 = .ok (.iload 4, 2) := by decide +kernel
theorem dX3_begin_48 : decode cX3_begin 48 = .ok (.iconst (-1), 1) := by decide +kernel
theorem dX3_begin_49 : decode cX3_begin 49 = .ok (.if_icmp .eq 6, 3) := by decide +kernel
theorem dX3_begin_52 : decode cX3_begin 52 = .ok (.iload 4, 2) := by decide +kernel
theorem dX3_begin_54 : decode cX3_begin 54 = .ok (.ireturn, 1) := by decide +kernel
theorem dX3_begin_55 : decode cX3_begin 55 = .ok (.aload_n 0, 1) := by decide +kernel
theorem dX3_begin_56 : decode cX3_begin 56 = .ok (.aload_n 1, 1) := by decide +kernel
theorem dX3_begin_57 : decode cX3_begin 57 = .ok (.aload_n 2, 1) := by decide +kernel
theorem dX3_begin_58 : decode cX3_begin 58 = .ok (.iload_n 3, 1) := by decide +kernel
theorem dX3_begin_59 : decode cX3_begin 59 = .ok (.invokevirtual 114, 3) := by decide +kernel
theorem dX3_begin_62 : decode cX3_begin 62 = .ok (.ireturn, 1) := by decide +kernel
theorem dX3_perform_0 : decode cX3_perform 0 = .ok (.aload_n 2, 1) := by decide +kernel
theorem dX3_perform_1 : decode cX3_perform 1 = .ok (.getfield 117, 3) := by decide +kernel
theorem dX3_perform_4 : decode cX3_perform 4 = .ok (.tableswitch 241 0 12 #[68, 82, 107, 128, 144, 158, 180, 198, 241, 212, 221, 241, 235], 68) := by decide +kernel
theorem dX3_perform_72 : decode cX3_perform 72 = .ok (.aload_n 1, 1) := by decide +kernel
theorem dX3_perform_73 : decode cX3_perform 73 = .ok (.aload_n 2, 1) := by decide +kernel
theorem dX3_perform_74 : decode cX3_perform 74 = .ok (.getfield 120, 3) := by decide +kernel
theorem dX3_perform_77 : decode cX3_perform 77 = .ok (.aload_n 2, 1) := by decide +kernel
theorem dX3_perform_78 : decode cX3_perform 78 = .ok (.getfield 123, 3) := by decide +kernel
theorem dX3_perform_81 : decode cX3_perform 81 = .ok (.invokevirtual 126, 3) := by decide +kernel
theorem dX3_perform_84 : decode cX3_perform 84 = .ok (.iconst (-1), 1) := by decide +kernel
theorem dX3_perform_85 : decode cX3_perform 85 = .ok (.ireturn, 1) := by decide +kernel
theorem dX3_perform_86 : decode cX3_perform 86 = .ok (.aload_n 1, 1) := by decide +kernel
theorem dX3_perform_87 : decode cX3_perform 87 = .ok (.aload_n 2, 1) := by decide +kernel
theorem dX3_perform_88 : decode cX3_perform 88 = .ok (.getfield 120, 3) := by decide +kernel
theorem dX3_perform_91 : decode cX3_perform 91 = .ok (.aload_n 1, 1) := by decide +kernel
theorem dX3_perform_92 : decode cX3_perform 92 = .ok (.aload_n 2, 1) := by decide +kernel
theorem dX3_perform_93 : decode cX3_perform 93 = .ok (.getfield 120, 3) := by decide +kernel
theorem dX3_perform_96 : decode cX3_perform 96 = .ok (.invokevirtual 129, 3) := by decide +kernel
theorem dX3_perform_99 : decode cX3_perform 99 = .ok (.aload_n 0, 1) := by decide +kernel
theorem dX3_perform_100 : decode cX3_perform 100 = .ok (.aload_n 1, 1) := by decide +kernel
theorem dX3_perform_101 : decode cX3_perform 101 = .ok (.aload_n 2, 1) := by decide +kernel
theorem dX3_perform_102 : decode cX3_perform 102 = .ok (.invokevirtual 132, 3) := by decide +kernel
theorem dX3_perform_105 : decode cX3_perform 105 = .ok (.iadd, 1) := by decide +kernel
theorem dX3_perform_106 : decode cX3_perform 106 = .ok (.invokevirtual 126, 3) := by decide +kernel
theorem dX3_perform_109 : decode cX3_perform 109 = .ok (.iconst (-1), 1) := by decide +kernel
theorem dX3_perform_110 : decode cX3_perform 110 = .ok (.ireturn, 1) := by decide +kernel
theorem dX3_perform_111 : decode cX3_perform 111 = .ok (.aload_n 2, 1) := by decide +kernel
theorem dX3_perform_112 : decode cX3_perform 112 = .ok (.getfield 111, 3) := by decide +kernel
theorem dX3_perform_115 : decode cX3_perform 115 = .ok (.aload_n 2, 1) := by decide +kernel
theorem dX3_perform_116 : decode cX3_perform 116 = .ok (.getfield 136, 3) := by decide +kernel
theorem dX3_perform_119 : decode cX3_perform 119 = .ok (.aload_n 1, 1) := by decide +kernel
theorem dX3_perform_120 : decode cX3_perform 120 = .ok (.aload_n 2, 1) := by decide +kernel
theorem dX3_perform_121 : decode cX3_perform 121 = .ok (.getfield 120, 3) := by decide +kernel
theorem dX3_perform_124 : decode cX3_perform 124 = .ok (.invokevirtual 129, 3) := by decide +kernel
theorem dX3_perform_127 : decode cX3_perform 127 = .ok (.invokevirtual 126, 3) := by decide +kernel
theorem dX3_perform_130 : decode cX3_perform 130 = .ok (.iconst (-1), 1) := by decide +kernel
theorem dX3_perform_131 : decode cX3_perform 131 = .ok (.ireturn, 1) := by decide +kernel
theorem dX3_perform_132 : decode cX3_perform 132 = .ok (.aload_n 0, 1) := by decide +kernel
theorem dX3_perform_133 : decode cX3_perform 133 = .ok (.aload_n 1, 1) := by decide +kernel
theorem dX3_perform_134 : decode cX3_perform 134 = .ok (.aload_n 2, 1) := by decide +kernel
theorem dX3_perform_135 : decode cX3_perform 135 = .ok (.getfield 120, 3) := by decide +kernel
theorem dX3_perform_138 : decode cX3_perform 138 = .ok (.aload_n 0, 1) := by decide +kernel
theorem dX3_perform_139 : decode cX3_perform 139 = .ok (.aload_n 1, 1) := by decide +kernel
theorem dX3_perform_140 : decode cX3_perform 140 = .ok (.aload_n 2, 1) := by decide +kernel
theorem dX3_perform_141 : decode cX3_perform 141 = .ok (.invokevirtual 132, 3) := by decide +kernel
theorem dX3_perform_144 : decode cX3_perform 144 = .ok (.invokevirtual 139, 3) := by decide +kernel
theorem dX3_perform_147 : decode cX3_perform 147 = .ok (.ireturn, 1) := by decide +kernel
theorem dX3_perform_148 : decode cX3_perform 148 = .ok (.aload_n 0, 1) := by decide +kernel
theorem dX3_perform_149 : decode cX3_perform 149 = .ok (.aload_n 1, 1) := by decide +kernel
theorem dX3_perform_150 : decode cX3_perform 150 = .ok (.aload_n 1, 1) := by decide +kernel
theorem dX3_perform_151 : decode cX3_perform 151 = .ok (.aload_n 2, 1) := by decide +kernel
theorem dX3_perform_152 : decode cX3_perform 152 = .ok (.getfield 120, 3) := by decide +kernel
theorem dX3_perform_155 : decode cX3_perform 155 = .ok (.invokevirtual 129, 3) := by decide +kernel
theorem dX3_perform_158 : decode cX3_perform 158 = .ok (.invokevirtual 142, 3) := by decide +kernel
theorem dX3_perform_161 : decode cX3_perform 161 = .ok (.ireturn, 1) := by decide +kernel
theorem dX3_perform_162 : decode cX3_perform 162 = .ok (.aload_n 0, 1) := by decide +kernel
theorem dX3_perform_163 : decode cX3_perform 163 = .ok (.aload_n 1, 1) := by decide +kernel
theorem dX3_perform_164 : decode cX3_perform 164 = .ok (.aload_n 1, 1) := by decide +kernel
theorem dX3_perform_165 : decode cX3_perform 165 = .ok (.aload_n 2, 1) := by decide +kernel
theorem dX3_perform_166 : decode cX3_perform 166 = .ok (.getfield 120, 3) := by decide +kernel
theorem dX3_perform_169 : decode cX3_perform 169 = .ok (.invokevirtual 129, 3) := by decide +kernel
theorem dX3_perform_172 : decode cX3_perform 172 = .ok (.aload_n 1, 1) := by decide +kernel
theorem dX3_perform_173 : decode cX3_perform 173 = .ok (.aload_n 2, 1) := by decide +kernel
theorem dX3_perform_174 : decode cX3_perform 174 = .ok (.getfield 123, 3) := by decide +kernel
theorem dX3_perform_177 : decode cX3_perform 177 = .ok (.invokevirtual 129, 3) := by decide +kernel
theorem dX3_perform_180 : decode cX3_perform 180 = .ok (.invokevirtual 145, 3) := by decide +kernel
theorem dX3_perform_183 : decode cX3_perform 183 = .ok (.ireturn, 1) := by decide +kernel
theorem dX3_perform_184 : decode cX3_perform 184 = .ok (.aload_n 0, 1) := by decide +kernel
theorem dX3_perform_185 : decode cX3_perform 185 = .ok (.aload_n 1, 1) := by decide +kernel
theorem dX3_perform_186 : decode cX3_perform 186 = .ok (.aload_n 2, 1) := by decide +kernel
theorem dX3_perform_187 : decode cX3_perform 187 = .ok (.getfield 120, 3) := by decide +kernel
theorem dX3_perform_190 : decode cX3_perform 190 = .ok (.aload_n 1, 1) := by decide +kernel
theorem dX3_perform_191 : decode cX3_perform 191 = .ok (.aload_n 2, 1) := by decide +kernel
theorem dX3_perform_192 : decode cX3_perform 192 = .ok (.getfield 123, 3) := by decide +kernel
theorem dX3_perform_195 : decode cX3_perform 195 = .ok (.invokevirtual 129, 3) := by decide +kernel
theorem dX3_perform_198 : decode cX3_perform 198 = .ok (.invokevirtual 148, 3) := by decide +kernel
theorem dX3_perform_201 : decode cX3_perform 201 = .ok (.ireturn, 1) := by decide +kernel
theorem dX3_perform_202 : decode cX3_perform 202 = .ok (.aload_n 0, 1) := by decide +kernel
theorem dX3_perform_203 : decode cX3_perform 203 = .ok (.aload_n 2, 1) := by decide +kernel
theorem dX3_perform_204 : decode cX3_perform 204 = .ok (.getfield 111, 3) := by decide +kernel
theorem dX3_perform_207 : decode cX3_perform 207 = .ok (.aload_n 2, 1) := by decide +kernel
theorem dX3_perform_208 : decode cX3_perform 208 = .ok (.getfield 123, 3) := by decide +kernel
theorem dX3_perform_211 : decode cX3_perform 211 = .ok (.iload_n 3, 1) := by decide +kernel
theorem dX3_perform_212 : decode cX3_perform 212 = .ok (.invokevirtual 151, 3) := by decide +kernel
theorem dX3_perform_215 : decode cX3_perform 215 = .ok (.ireturn, 1) := by decide +kernel
theorem dX3_perform_216 : decode cX3_perform 216 = .ok (.aload_n 0, 1) := by decide +kernel
theorem dX3_perform_217 : decode cX3_perform 217 = .ok (.aload_n 2, 1) := by decide +kernel
theorem dX3_perform_218 : decode cX3_perform 218 = .ok (.getfield 120, 3) := by decide +kernel
theorem dX3_perform_221 : decode cX3_perform 221 = .ok (.invokevirtual 41, 3) := by decide +kernel
theorem dX3_perform_224 : decode cX3_perform 224 = .ok (.ireturn, 1) := by decide +kernel
theorem dX3_perform_225 : decode cX3_perform 225 = .ok (.aload_n 0, 1) := by decide +kernel
theorem dX3_perform_226 : decode cX3_perform 226 = .ok (.getfield 12, 3) := by decide +kernel
theorem dX3_perform_229 : decode cX3_perform 229 = .ok (.iconst 3, 1) := by decide +kernel
theorem dX3_perform_230 : decode cX3_perform 230 = .ok (.aload_n 2, 1) := by decide +kernel
theorem dX3_perform_231 : decode cX3_perform 231 = .ok (.getfield 120, 3) := by decide +kernel
theorem dX3_perform_234 : decode cX3_perform 234 = .ok (.invokevirtual 48, 3) := by decide +kernel
theorem dX3_perform_237 : decode cX3_perform 237 = .ok (.iconst (-1), 1) := by decide +kernel
theorem dX3_perform_238 : decode cX3_perform 238 = .ok (.ireturn, 1) := by decide +kernel
theorem dX3_perform_239 : decode cX3_perform 239 = .ok (.aload_n 1, 1) := by decide +kernel
theorem dX3_perform_240 : decode cX3_perform 240 = .ok (.invokevirtual 154, 3) := by decide +kernel
theorem dX3_perform_243 : decode cX3_perform 243 = .ok (.iconst (-1), 1) := by decide +kernel
theorem dX3_perform_244 : decode cX3_perform 244 = .ok (.ireturn, 1) := by decide +kernel
theorem dX3_perform_245 : decode cX3_perform 245 = .ok (.iconst (-1), 1) := by decide +kernel
theorem dX3_perform_246 : decode cX3_perform 246 = .ok (.ireturn, 1) := by decide +kernel
theorem dX3_readOther_0 : decode cX3_readOther 0 = .ok (.aload_n 2, 1) := by decide +kernel
theorem dX3_readOther_1 : decode cX3_readOther 1 = .ok (.getfield 111, 3) := by decide +kernel
theorem dX3_readOther_4 : decode cX3_readOther 4 = .ok (.astore_n 3, 1) := by decide +kernel
theorem dX3_readOther_5 : decode cX3_readOther 5 = .ok (.aload_n 3, 1) := by decide +kernel
theorem dX3_readOther_6 : decode cX3_readOther 6 = .ok (.aload_n 1, 1) := by decide +kernel
theorem dX3_readOther_7 : decode cX3_readOther 7 = .ok (.if_acmp .eq 35, 3) := by decide +kernel
theorem dX3_readOther_10 : decode cX3_readOther 10 = .ok (.aload_n 3, 1) := by decide +kernel
theorem dX3_readOther_11 : decode cX3_readOther 11 = .ok (.getfield 36, 3) := by decide +kernel
theorem dX3_readOther_14 : decode cX3_readOther 14 = .ok (.iconst 1, 1) := by decide +kernel
theorem dX3_readOther_15 : decode cX3_readOther 15 = .ok (.if_icmp .ne 27, 3) := by decide +kernel
theorem dX3_readOther_18 : decode cX3_readOther 18 = .ok (.aload_n 3, 1) := by decide +kernel
theorem dX3_readOther_19 : decode cX3_readOther 19 = .ok (.aload_n 2, 1) := by decide +kernel
theorem dX3_readOther_20 : decode cX3_readOther 20 = .ok (.getfield 136, 3) := by decide +kernel
theorem dX3_readOther_23 : decode cX3_readOther 23 = .ok (.invokevirtual 157, 3) := by decide +kernel
theorem dX3_readOther_26 : decode cX3_readOther 26 = .ok (.ifCond .ne 16, 3) := by decide +kernel
theorem dX3_readOther_29 : decode cX3_readOther 29 = .ok (.aload_n 0, 1) := by decide +kernel
theorem dX3_readOther_30 : decode cX3_readOther 30 = .ok (.getfield 12, 3) := by decide +kernel
theorem dX3_readOther_33 : decode cX3_readOther 33 = .ok (.dup, 1) := by decide +kernel
theorem dX3_readOther_34 : decode cX3_readOther 34 = .ok (.getfield 161, 3) := by decide +kernel
theorem dX3_readOther_37 : decode cX3_readOther 37 = .ok (.iconst 1, 1) := by decide +kernel
theorem dX3_readOther_38 : decode cX3_readOther 38 = .ok (.iadd, 1) := by decide +kernel
theorem dX3_readOther_39 : decode cX3_readOther 39 = .ok (.putfield 161, 3) := by decide +kernel
theorem dX3_readOther_42 : decode cX3_readOther 42 = .ok (.aload_n 3, 1) := by decide +kernel
theorem dX3_readOther_43 : decode cX3_readOther 43 = .ok (.aload_n 2, 1) := by decide +kernel
theorem dX3_readOther_44 : decode cX3_readOther 44 = .ok (.getfield 136, 3) := by decide +kernel
theorem dX3_readOther_47 : decode cX3_readOther 47 = .ok (.invokevirtual 129, 3) := by decide +kernel
theorem dX3_readOther_50 : decode cX3_readOther 50 = .ok (.ireturn, 1) := by decide +kernel
theorem dX3_divide_0 : decode cX3_divide 0 = .ok (.iload_n 3, 1) := by decide +kernel
theorem dX3_divide_1 : decode cX3_divide 1 = .ok (.ifCond .ne 9, 3) := by decide +kernel
theorem dX3_divide_4 : decode cX3_divide 4 = .ok (.aload_n 0, 1) := by decide +kernel
theorem dX3_divide_5 : decode cX3_divide 5 = .ok (.iconst 3, 1) := by decide +kernel
theorem dX3_divide_6 : decode cX3_divide 6 = .ok (.invokevirtual 41, 3) := by decide +kernel
theorem dX3_divide_9 : decode cX3_divide 9 = .ok (.ireturn, 1) := by decide +kernel
theorem dX3_divide_10 : decode cX3_divide 10 = .ok (.aload_n 1, 1) := by decide +kernel
theorem dX3_divide_11 : decode cX3_divide 11 = .ok (.iload_n 2, 1) := by decide +kernel
theorem dX3_divide_12 : decode cX3_divide 12 = .ok (.aload_n 1, 1) := by decide +kernel
theorem dX3_divide_13 : decode cX3_divide 13 = .ok (.iload_n 2, 1) := by decide +kernel
theorem dX3_divide_14 : decode cX3_divide 14 = .ok (.invokevirtual 129, 3) := by decide +kernel
theorem dX3_divide_17 : decode cX3_divide 17 = .ok (.iload_n 3, 1) := by decide +kernel
theorem dX3_divide_18 : decode cX3_divide 18 = .ok (.idiv, 1) := by decide +kernel
theorem dX3_divide_19 : decode cX3_divide 19 = .ok (.invokevirtual 126, 3) := by decide +kernel
theorem dX3_divide_22 : decode cX3_divide 22 = .ok (.iconst (-1), 1) := by decide +kernel
theorem dX3_divide_23 : decode cX3_divide 23 = .ok (.ireturn, 1) := by decide +kernel
theorem dX3_makeRow_0 : decode cX3_makeRow 0 = .ok (.iload_n 2, 1) := by decide +kernel
theorem dX3_makeRow_1 : decode cX3_makeRow 1 = .ok (.ifCond .ge 10, 3) := by decide +kernel
theorem dX3_makeRow_4 : decode cX3_makeRow 4 = .ok (.aload_n 0, 1) := by decide +kernel
theorem dX3_makeRow_5 : decode cX3_makeRow 5 = .ok (.bipush 6, 2) := by decide +kernel
theorem dX3_makeRow_7 : decode cX3_makeRow 7 = .ok (.invokevirtual 41, 3) := by decide +kernel
theorem dX3_makeRow_10 : decode cX3_makeRow 10 = .ok (.ireturn, 1) := by decide +kernel
theorem dX3_makeRow_11 : decode cX3_makeRow 11 = .ok (.aload_n 1, 1) := by decide +kernel
theorem dX3_makeRow_12 : decode cX3_makeRow 12 = .ok (.iload_n 2, 1) := by decide +kernel
theorem dX3_makeRow_13 : decode cX3_makeRow 13 = .ok (.invokevirtual 164, 3) := by decide +kernel
theorem dX3_makeRow_16 : decode cX3_makeRow 16 = .ok (.iconst (-1), 1) := by decide +kernel
theorem dX3_makeRow_17 : decode cX3_makeRow 17 = .ok (.ireturn, 1) := by decide +kernel
theorem dX3_putItem_0 : decode cX3_putItem 0 = .ok (.aload_n 1, 1) := by decide +kernel
theorem dX3_putItem_1 : decode cX3_putItem 1 = .ok (.iload_n 2, 1) := by decide +kernel
theorem dX3_putItem_2 : decode cX3_putItem 2 = .ok (.invokevirtual 167, 3) := by decide +kernel
theorem dX3_putItem_5 : decode cX3_putItem 5 = .ok (.ifCond .ne 21, 3) := by decide +kernel
theorem dX3_putItem_8 : decode cX3_putItem 8 = .ok (.aload_n 0, 1) := by decide +kernel
theorem dX3_putItem_9 : decode cX3_putItem 9 = .ok (.aload_n 1, 1) := by decide +kernel
theorem dX3_putItem_10 : decode cX3_putItem 10 = .ok (.getfield 170, 3) := by decide +kernel
theorem dX3_putItem_13 : decode cX3_putItem 13 = .ok (.iconst (-1), 1) := by decide +kernel
theorem dX3_putItem_14 : decode cX3_putItem 14 = .ok (.if_icmp .ne 7, 3) := by decide +kernel
theorem dX3_putItem_17 : decode cX3_putItem 17 = .ok (.iconst 4, 1) := by decide +kernel
theorem dX3_putItem_18 : decode cX3_putItem 18 = .ok (.goto 4, 3) := by decide +kernel
theorem dX3_putItem_21 : decode cX3_putItem 21 = .ok (.iconst 5, 1) := by decide +kernel
theorem dX3_putItem_22 : decode cX3_putItem 22 = .ok (.invokevirtual 41, 3) := by decide +kernel
theorem dX3_putItem_25 : decode cX3_putItem 25 = .ok (.ireturn, 1) := by decide +kernel
theorem dX3_putItem_26 : decode cX3_putItem 26 = .ok (.aload_n 1, 1) := by decide +kernel
theorem dX3_putItem_27 : decode cX3_putItem 27 = .ok (.getfield 173, 3) := by decide +kernel
theorem dX3_putItem_30 : decode cX3_putItem 30 = .ok (.iload_n 2, 1) := by decide +kernel
theorem dX3_putItem_31 : decode cX3_putItem 31 = .ok (.iload_n 3, 1) := by decide +kernel
theorem dX3_putItem_32 : decode cX3_putItem 32 = .ok (.iastore, 1) := by decide +kernel
theorem dX3_putItem_33 : decode cX3_putItem 33 = .ok (.iconst (-1), 1) := by decide +kernel
theorem dX3_putItem_34 : decode cX3_putItem 34 = .ok (.ireturn, 1) := by decide +kernel
theorem dX3_takeItem_0 : decode cX3_takeItem 0 = .ok (.aload_n 1, 1) := by decide +kernel
theorem dX3_takeItem_1 : decode cX3_takeItem 1 = .ok (.iload_n 3, 1) := by decide +kernel
theorem dX3_takeItem_2 : decode cX3_takeItem 2 = .ok (.invokevirtual 167, 3) := by decide +kernel
theorem dX3_takeItem_5 : decode cX3_takeItem 5 = .ok (.ifCond .ne 21, 3) := by decide +kernel
theorem dX3_takeItem_8 : decode cX3_takeItem 8 = .ok (.aload_n 0, 1) := by decide +kernel
theorem dX3_takeItem_9 : decode cX3_takeItem 9 = .ok (.aload_n 1, 1) := by decide +kernel
theorem dX3_takeItem_10 : decode cX3_takeItem 10 = .ok (.getfield 170, 3) := by decide +kernel
theorem dX3_takeItem_13 : decode cX3_takeItem 13 = .ok (.iconst (-1), 1) := by decide +kernel
theorem dX3_takeItem_14 : decode cX3_takeItem 14 = .ok (.if_icmp .ne 7, 3) := by decide +kernel
theorem dX3_takeItem_17 : decode cX3_takeItem 17 = .ok (.iconst 4, 1) := by decide +kernel
theorem dX3_takeItem_18 : decode cX3_takeItem 18 = .ok (.goto 4, 3) := by decide +kernel
theorem dX3_takeItem_21 : decode cX3_takeItem 21 = .ok (.iconst 5, 1) := by decide +kernel
theorem dX3_takeItem_22 : decode cX3_takeItem 22 = .ok (.invokevirtual 41, 3) := by decide +kernel
theorem dX3_takeItem_25 : decode cX3_takeItem 25 = .ok (.ireturn, 1) := by decide +kernel
theorem dX3_takeItem_26 : decode cX3_takeItem 26 = .ok (.aload_n 1, 1) := by decide +kernel
theorem dX3_takeItem_27 : decode cX3_takeItem 27 = .ok (.iload_n 2, 1) := by decide +kernel
theorem dX3_takeItem_28 : decode cX3_takeItem 28 = .ok (.aload_n 1, 1) := by decide +kernel
theorem dX3_takeItem_29 : decode cX3_takeItem 29 = .ok (.getfield 173, 3) := by decide +kernel
theorem dX3_takeItem_32 : decode cX3_takeItem 32 = .ok (.iload_n 3, 1) := by decide +kernel
theorem dX3_takeItem_33 : decode cX3_takeItem 33 = .ok (.iaload, 1) := by decide +kernel
theorem dX3_takeItem_34 : decode cX3_takeItem 34 = .ok (.invokevirtual 126, 3) := by decide +kernel
theorem dX3_takeItem_37 : decode cX3_takeItem 37 = .ok (.iconst (-1), 1) := by decide +kernel
theorem dX3_takeItem_38 : decode cX3_takeItem 38 = .ok (.ireturn, 1) := by decide +kernel
theorem dX3_enter_0 : decode cX3_enter 0 = .ok (.iload_n 3, 1) := by decide +kernel
theorem dX3_enter_1 : decode cX3_enter 1 = .ok (.bipush 8, 2) := by decide +kernel
theorem dX3_enter_3 : decode cX3_enter 3 = .ok (.if_icmp .lt 10, 3) := by decide +kernel
theorem dX3_enter_6 : decode cX3_enter 6 = .ok (.aload_n 0, 1) := by decide +kernel
theorem dX3_enter_7 : decode cX3_enter 7 = .ok (.bipush 9, 2) := by decide +kernel
theorem dX3_enter_9 : decode cX3_enter 9 = .ok (.invokevirtual 41, 3) := by decide +kernel
theorem dX3_enter_12 : decode cX3_enter 12 = .ok (.ireturn, 1) := by decide +kernel
theorem dX3_enter_13 : decode cX3_enter 13 = .ok (.aload_n 0, 1) := by decide +kernel
theorem dX3_enter_14 : decode cX3_enter 14 = .ok (.getfield 12, 3) := by decide +kernel
theorem dX3_enter_17 : decode cX3_enter 17 = .ok (.iconst 4, 1) := by decide +kernel
theorem dX3_enter_18 : decode cX3_enter 18 = .ok (.bipush 10, 2) := by decide +kernel
theorem dX3_enter_20 : decode cX3_enter 20 = .ok (.aload_n 1, 1) := by decide +kernel
theorem dX3_enter_21 : decode cX3_enter 21 = .ok (.getfield 45, 3) := by decide +kernel
theorem dX3_enter_24 : decode cX3_enter 24 = .ok (.imul, 1) := by decide +kernel
theorem dX3_enter_25 : decode cX3_enter 25 = .ok (.iload_n 2, 1) := by decide +kernel
theorem dX3_enter_26 : decode cX3_enter 26 = .ok (.iadd, 1) := by decide +kernel
theorem dX3_enter_27 : decode cX3_enter 27 = .ok (.invokevirtual 48, 3) := by decide +kernel
theorem dX3_enter_30 : decode cX3_enter 30 = .ok (.aload_n 0, 1) := by decide +kernel
theorem dX3_enter_31 : decode cX3_enter 31 = .ok (.aload_n 1, 1) := by decide +kernel
theorem dX3_enter_32 : decode cX3_enter 32 = .ok (.iload_n 2, 1) := by decide +kernel
theorem dX3_enter_33 : decode cX3_enter 33 = .ok (.iload_n 3, 1) := by decide +kernel
theorem dX3_enter_34 : decode cX3_enter 34 = .ok (.invokevirtual 25, 3) := by decide +kernel
theorem dX3_enter_37 : decode cX3_enter 37 = .ok (.ireturn, 1) := by decide +kernel
theorem dX5_init_0 : decode cX5_init 0 = .ok (.aload_n 0, 1) := by decide +kernel
theorem dX5_init_1 : decode cX5_init 1 = .ok (.invokespecial 5, 3) := by decide +kernel
theorem dX5_init_4 : decode cX5_init 4 = .ok (.aload_n 0, 1) := by decide +kernel
theorem dX5_init_5 : decode cX5_init 5 = .ok (.iconst 0, 1) := by decide +kernel
theorem dX5_init_6 : decode cX5_init 6 = .ok (.putfield 11, 3) := by decide +kernel
theorem dX5_init_9 : decode cX5_init 9 = .ok (.aload_n 0, 1) := by decide +kernel
theorem dX5_init_10 : decode cX5_init 10 = .ok (.lconst 0, 1) := by decide +kernel
theorem dX5_init_11 : decode cX5_init 11 = .ok (.putfield 17, 3) := by decide +kernel
theorem dX5_init_14 : decode cX5_init 14 = .ok (.aload_n 0, 1) := by decide +kernel
theorem dX5_init_15 : decode cX5_init 15 = .ok (.bipush 48, 2) := by decide +kernel
theorem dX5_init_17 : decode cX5_init 17 = .ok (.anewarray 21, 3) := by decide +kernel
theorem dX5_init_20 : decode cX5_init 20 = .ok (.putfield 23, 3) := by decide +kernel
theorem dX5_init_23 : decode cX5_init 23 = .ok (.aload_n 0, 1) := by decide +kernel
theorem dX5_init_24 : decode cX5_init 24 = .ok (.iconst 0, 1) := by decide +kernel
theorem dX5_init_25 : decode cX5_init 25 = .ok (.putfield 27, 3) := by decide +kernel
theorem dX5_init_28 : decode cX5_init 28 = .ok (.return_, 1) := by decide +kernel
theorem dX5_ofMethod_0 : decode cX5_ofMethod 0 = .ok (.aload_n 0, 1) := by decide +kernel
theorem dX5_ofMethod_1 : decode cX5_ofMethod 1 = .ok (.invokevirtual 30, 3) := by decide +kernel
theorem dX5_ofMethod_4 : decode cX5_ofMethod 4 = .ok (.aload_n 0, 1) := by decide +kernel
theorem dX5_ofMethod_5 : decode cX5_ofMethod 5 = .ok (.aload_n 1, 1) := by decide +kernel
theorem dX5_ofMethod_6 : decode cX5_ofMethod 6 = .ok (.invokevirtual 33, 3) := by decide +kernel
theorem dX5_ofMethod_9 : decode cX5_ofMethod 9 = .ok (.aload_n 0, 1) := by decide +kernel
theorem dX5_ofMethod_10 : decode cX5_ofMethod 10 = .ok (.aload_n 1, 1) := by decide +kernel
theorem dX5_ofMethod_11 : decode cX5_ofMethod 11 = .ok (.getfield 37, 3) := by decide +kernel
theorem dX5_ofMethod_14 : decode cX5_ofMethod 14 = .ok (.iload_n 2, 1) := by decide +kernel
theorem dX5_ofMethod_15 : decode cX5_ofMethod 15 = .ok (.aaload, 1) := by decide +kernel
theorem dX5_ofMethod_16 : decode cX5_ofMethod 16 = .ok (.invokevirtual 38, 3) := by decide +kernel
theorem dX5_ofMethod_19 : decode cX5_ofMethod 19 = .ok (.iconst 0, 1) := by decide +kernel
theorem dX5_ofMethod_20 : decode cX5_ofMethod 20 = .ok (.istore_n 3, 1) := by decide +kernel
theorem dX5_ofMethod_21 : decode cX5_ofMethod 21 = .ok (.iload_n 3, 1) := by decide +kernel
theorem dX5_ofMethod_22 : decode cX5_ofMethod 22 = .ok (.aload_n 0, 1) := by decide +kernel
theorem dX5_ofMethod_23 : decode cX5_ofMethod 23 = .ok (.getfield 27, 3) := by decide +kernel
theorem dX5_ofMethod_26 : decode cX5_ofMethod 26 = .ok (.if_icmp .ge 25, 3) := by decide +kernel
theorem dX5_ofMethod_29 : decode cX5_ofMethod 29 = .ok (.iload_n 3, 1) := by decide +kernel
theorem dX5_ofMethod_30 : decode cX5_ofMethod 30 = .ok (.bipush 48, 2) := by decide +kernel
theorem dX5_ofMethod_32 : decode cX5_ofMethod 32 = .ok (.if_icmp .ge 19, 3) := by decide +kernel
theorem dX5_ofMethod_35 : decode cX5_ofMethod 35 = .ok (.aload_n 0, 1) := by decide +kernel
theorem dX5_ofMethod_36 : decode cX5_ofMethod 36 = .ok (.aload_n 0, 1) := by decide +kernel
theorem dX5_ofMethod_37 : decode cX5_ofMethod 37 = .ok (.getfield 23, 3) := by decide +kernel
theorem dX5_ofMethod_40 : decode cX5_ofMethod 40 = .ok (.iload_n 3, 1) := by decide +kernel
theorem dX5_ofMethod_41 : decode cX5_ofMethod 41 = .ok (.aaload, 1) := by decide +kernel
theorem dX5_ofMethod_42 : decode cX5_ofMethod 42 = .ok (.invokevirtual 42, 3) := by decide +kernel
theorem dX5_ofMethod_45 : decode cX5_ofMethod 45 = .ok (.iinc 3 1, 3) := by decide +kernel
theorem dX5_ofMethod_48 : decode cX5_ofMethod 48 = .ok (.goto (-27), 3) := by decide +kernel
theorem dX5_ofMethod_51 : decode cX5_ofMethod 51 = .ok (.aload_n 0, 1) := by decide +kernel
theorem dX5_ofMethod_52 : decode cX5_ofMethod 52 = .ok (.getfield 11, 3) := by decide +kernel
theorem dX5_ofMethod_55 : decode cX5_ofMethod 55 = .ok (.ireturn, 1) := by decide +kernel
theorem dX5_ofStart_0 : decode cX5_ofStart 0 = .ok (.aload_n 0, 1) := by decide +kernel
theorem dX5_ofStart_1 : decode cX5_ofStart 1 = .ok (.invokevirtual 30, 3) := by decide +kernel
theorem dX5_ofStart_4 : decode cX5_ofStart 4 = .ok (.aload_n 0, 1) := by decide +kernel
theorem dX5_ofStart_5 : decode cX5_ofStart 5 = .ok (.aload_n 1, 1) := by decide +kernel
theorem dX5_ofStart_6 : decode cX5_ofStart 6 = .ok (.invokevirtual 33, 3) := by decide +kernel
theorem dX5_ofStart_9 : decode cX5_ofStart 9 = .ok (.aload_n 0, 1) := by decide +kernel
theorem dX5_ofStart_10 : decode cX5_ofStart 10 = .ok (.getfield 11, 3) := by decide +kernel
theorem dX5_ofStart_13 : decode cX5_ofStart 13 = .ok (.ireturn, 1) := by decide +kernel
theorem dX5_clear_0 : decode cX5_clear 0 = .ok (.aload_n 0, 1) := by decide +kernel
theorem dX5_clear_1 : decode cX5_clear 1 = .ok (.iconst 0, 1) := by decide +kernel
theorem dX5_clear_2 : decode cX5_clear 2 = .ok (.putfield 11, 3) := by decide +kernel
theorem dX5_clear_5 : decode cX5_clear 5 = .ok (.aload_n 0, 1) := by decide +kernel
theorem dX5_clear_6 : decode cX5_clear 6 = .ok (.lconst 0, 1) := by decide +kernel
theorem dX5_clear_7 : decode cX5_clear 7 = .ok (.putfield 17, 3) := by decide +kernel
theorem dX5_clear_10 : decode cX5_clear 10 = .ok (.aload_n 0, 1) := by decide +kernel
theorem dX5_clear_11 : decode cX5_clear 11 = .ok (.iconst 0, 1) := by decide +kernel
theorem dX5_clear_12 : decode cX5_clear 12 = .ok (.putfield 27, 3) := by decide +kernel
theorem dX5_clear_15 : decode cX5_clear 15 = .ok (.return_, 1) := by decide +kernel
theorem dX5_follow_0 : decode cX5_follow 0 = .ok (.iconst 0, 1) := by decide +kernel
theorem dX5_follow_1 : decode cX5_follow 1 = .ok (.istore_n 2, 1) := by decide +kernel
theorem dX5_follow_2 : decode cX5_follow 2 = .ok (.iload_n 2, 1) := by decide +kernel
theorem dX5_follow_3 : decode cX5_follow 3 = .ok (.aload_n 1, 1) := by decide +kernel
theorem dX5_follow_4 : decode cX5_follow 4 = .ok (.getfield 45, 3) := by decide +kernel
theorem dX5_follow_7 : decode cX5_follow 7 = .ok (.if_icmp .ge 56, 3) := by decide +kernel
theorem dX5_follow_10 : decode cX5_follow 10 = .ok (.aload_n 1, 1) := by decide +kernel
theorem dX5_follow_11 : decode cX5_follow 11 = .ok (.getfield 46, 3) := by decide +kernel
theorem dX5_follow_14 : decode cX5_follow 14 = .ok (.iload_n 2, 1) := by decide +kernel
theorem dX5_follow_15 : decode cX5_follow 15 = .ok (.aaload, 1) := by decide +kernel
theorem dX5_follow_16 : decode cX5_follow 16 = .ok (.astore_n 3, 1) := by decide +kernel
theorem dX5_follow_17 : decode cX5_follow 17 = .ok (.aload_n 3, 1) := by decide +kernel
theorem dX5_follow_18 : decode cX5_follow 18 = .ok (.invokevirtual 50, 3) := by decide +kernel
theorem dX5_follow_21 : decode cX5_follow 21 = .ok (.ifCond .eq 11, 3) := by decide +kernel
theorem dX5_follow_24 : decode cX5_follow 24 = .ok (.aload_n 0, 1) := by decide +kernel
theorem dX5_follow_25 : decode cX5_follow 25 = .ok (.aload_n 3, 1) := by decide +kernel
theorem dX5_follow_26 : decode cX5_follow 26 = .ok (.getfield 56, 3) := by decide +kernel
theorem dX5_follow_29 : decode cX5_follow 29 = .ok (.invokevirtual 33, 3) := by decide +kernel
theorem dX5_follow_32 : decode cX5_follow 32 = .ok (.aload_n 3, 1) := by decide +kernel
theorem dX5_follow_33 : decode cX5_follow 33 = .ok (.getfield 60, 3) := by decide +kernel
theorem dX5_follow_36 : decode cX5_follow 36 = .ok (.bipush 7, 2) := by decide +kernel
theorem dX5_follow_38 : decode cX5_follow 38 = .ok (.if_icmp .ne 19, 3) := by decide +kernel
theorem dX5_follow_41 : decode cX5_follow 41 = .ok (.aload_n 0, 1) := by decide +kernel
theorem dX5_follow_42 : decode cX5_follow 42 = .ok (.aload_n 3, 1) := by decide +kernel
theorem dX5_follow_43 : decode cX5_follow 43 = .ok (.getfield 56, 3) := by decide +kernel
theorem dX5_follow_46 : decode cX5_follow 46 = .ok (.getfield 37, 3) := by decide +kernel
theorem dX5_follow_49 : decode cX5_follow 49 = .ok (.aload_n 3, 1) := by decide +kernel
theorem dX5_follow_50 : decode cX5_follow 50 = .ok (.getfield 63, 3) := by decide +kernel
theorem dX5_follow_53 : decode cX5_follow 53 = .ok (.aaload, 1) := by decide +kernel
theorem dX5_follow_54 : decode cX5_follow 54 = .ok (.invokevirtual 38, 3) := by decide +kernel
theorem dX5_follow_57 : decode cX5_follow 57 = .ok (.iinc 2 1, 3) := by decide +kernel
theorem dX5_follow_60 : decode cX5_follow 60 = .ok (.goto (-58), 3) := by decide +kernel
theorem dX5_follow_63 : decode cX5_follow 63 = .ok (.return_, 1) := by decide +kernel
theorem dX5_want_0 : decode cX5_want 0 = .ok (.aload_n 1, 1) := by decide +kernel
theorem dX5_want_1 : decode cX5_want 1 = .ok (.astore_n 2, 1) := by decide +kernel
theorem dX5_want_2 : decode cX5_want 2 = .ok (.iconst 0, 1) := by decide +kernel
theorem dX5_want_3 : decode cX5_want 3 = .ok (.istore_n 3, 1) := by decide +kernel
theorem dX5_want_4 : decode cX5_want 4 = .ok (.iload_n 3, 1) := by decide +kernel
theorem dX5_want_5 : decode cX5_want 5 = .ok (.bipush 12, 2) := by decide +kernel
theorem dX5_want_7 : decode cX5_want 7 = .ok (.if_icmp .ge 45, 3) := by decide +kernel
theorem dX5_want_10 : decode cX5_want 10 = .ok (.aload_n 2, 1) := by decide +kernel
theorem dX5_want_11 : decode cX5_want 11 = .ok (.ifnull 41, 3) := by decide +kernel
theorem dX5_want_14 : decode cX5_want 14 = .ok (.aload_n 0, 1) := by decide +kernel
theorem dX5_want_15 : decode cX5_want 15 = .ok (.aload_n 2, 1) := by decide +kernel
theorem dX5_want_16 : decode cX5_want 16 = .ok (.invokevirtual 66, 3) := by decide +kernel
theorem dX5_want_19 : decode cX5_want 19 = .ok (.ifCond .ne 33, 3) := by decide +kernel
theorem dX5_want_22 : decode cX5_want 22 = .ok (.aload_n 0, 1) := by decide +kernel
theorem dX5_want_23 : decode cX5_want 23 = .ok (.aload_n 2, 1) := by decide +kernel
theorem dX5_want_24 : decode cX5_want 24 = .ok (.invokevirtual 70, 3) := by decide +kernel
theorem dX5_want_27 : decode cX5_want 27 = .ok (.aload_n 2, 1) := by decide +kernel
theorem dX5_want_28 : decode cX5_want 28 = .ok (.getfield 73, 3) := by decide +kernel
theorem dX5_want_31 : decode cX5_want 31 = .ok (.ifCond .ne 10, 3) := by decide +kernel
theorem dX5_want_34 : decode cX5_want 34 = .ok (.aload_n 0, 1) := by decide +kernel
theorem dX5_want_35 : decode cX5_want 35 = .ok (.aload_n 2, 1) := by decide +kernel
theorem dX5_want_36 : decode cX5_want 36 = .ok (.bipush 12, 2) := by decide +kernel
theorem dX5_want_38 : decode cX5_want 38 = .ok (.invokevirtual 77, 3) := by decide +kernel
theorem dX5_want_41 : decode cX5_want 41 = .ok (.aload_n 2, 1) := by decide +kernel
theorem dX5_want_42 : decode cX5_want 42 = .ok (.getfield 81, 3) := by decide +kernel
theorem dX5_want_45 : decode cX5_want 45 = .ok (.astore_n 2, 1) := by decide +kernel
theorem dX5_want_46 : decode cX5_want 46 = .ok (.iinc 3 1, 3) := by decide +kernel
theorem dX5_want_49 : decode cX5_want 49 = .ok (.goto (-45), 3) := by decide +kernel
theorem dX5_want_52 : decode cX5_want 52 = .ok (.return_, 1) := by decide +kernel
theorem dX5_lookThrough_0 : decode cX5_lookThrough 0 = .ok (.iconst 0, 1) := by decide +kernel
theorem dX5_lookThrough_1 : decode cX5_lookThrough 1 = .ok (.istore_n 3, 1) := by decide +kernel
theorem dX5_lookThrough_2 : decode cX5_lookThrough 2 = .ok (.iload_n 3, 1) := by decide +kernel
theorem dX5_lookThrough_3 : decode cX5_lookThrough 3 = .ok (.aload_n 1, 1) := by decide +kernel
theorem dX5_lookThrough_4 : decode cX5_lookThrough 4 = .ok (.getfield 84, 3) := by decide +kernel
theorem dX5_lookThrough_7 : decode cX5_lookThrough 7 = .ok (.if_icmp .ge 44, 3) := by decide +kernel
theorem dX5_lookThrough_10 : decode cX5_lookThrough 10 = .ok (.iload_n 2, 1) := by decide +kernel
theorem dX5_lookThrough_11 : decode cX5_lookThrough 11 = .ok (.ifCond .le 40, 3) := by decide +kernel
theorem dX5_lookThrough_14 : decode cX5_lookThrough 14 = .ok (.aload_n 1, 1) := by decide +kernel
theorem dX5_lookThrough_15 : decode cX5_lookThrough 15 = .ok (.getfield 87, 3) := by decide +kernel
theorem dX5_lookThrough_18 : decode cX5_lookThrough 18 = .ok (.iload_n 3, 1) := by decide +kernel
theorem dX5_lookThrough_19 : decode cX5_lookThrough 19 = .ok (.aaload, 1) := by decide +kernel
theorem dX5_lookThrough_20 : decode cX5_lookThrough 20 = .ok (.astore 4, 2) := by decide +kernel
theorem dX5_lookThrough_22 : decode cX5_lookThrough 22 = .ok (.aload_n 0, 1) := by decide +kernel
theorem dX5_lookThrough_23 : decode cX5_lookThrough 23 = .ok (.aload 4, 2) := by decide +kernel
theorem dX5_lookThrough_25 : decode cX5_lookThrough 25 = .ok (.iload_n 2, 1) := by decide +kernel
theorem dX5_lookThrough_26 : decode cX5_lookThrough 26 = .ok (.iconst 1, 1) := by decide +kernel
theorem dX5_lookThrough_27 : decode cX5_lookThrough 27 = .ok (.isub, 1) := by decide +kernel
theorem dX5_lookThrough_28 : decode cX5_lookThrough 28 = .ok (.invokevirtual 77, 3) := by decide +kernel
theorem dX5_lookThrough_31 : decode cX5_lookThrough 31 = .ok (.aload 4, 2) := by decide +kernel
theorem dX5_lookThrough_33 : decode cX5_lookThrough 33 = .ok (.getfield 91, 3) := by decide +kernel
theorem dX5_lookThrough_36 : decode cX5_lookThrough 36 = .ok (.ifCond .eq 9, 3) := by decide +kernel
theorem dX5_lookThrough_39 : decode cX5_lookThrough 39 = .ok (.aload_n 0, 1) := by decide +kernel
theorem dX5_lookThrough_40 : decode cX5_lookThrough 40 = .ok (.aload 4, 2) := by decide +kernel
theorem dX5_lookThrough_42 : decode cX5_lookThrough 42 = .ok (.invokevirtual 70, 3) := by decide +kernel
theorem dX5_lookThrough_45 : decode cX5_lookThrough 45 = .ok (.iinc 3 1, 3) := by decide +kernel
theorem dX5_lookThrough_48 : decode cX5_lookThrough 48 = .ok (.goto (-46), 3) := by decide +kernel
theorem dX5_lookThrough_51 : decode cX5_lookThrough 51 = .ok (.return_, 1) := by decide +kernel
theorem dX5_isWanted_0 : decode cX5_isWanted 0 = .ok (.aload_n 0, 1) := by decide +kernel
theorem dX5_isWanted_1 : decode cX5_isWanted 1 = .ok (.getfield 11, 3) := by decide +kernel
theorem dX5_isWanted_4 : decode cX5_isWanted 4 = .ok (.aload_n 1, 1) := by decide +kernel
theorem dX5_isWanted_5 : decode cX5_isWanted 5 = .ok (.invokevirtual 94, 3) := by decide +kernel
theorem dX5_isWanted_8 : decode cX5_isWanted 8 = .ok (.iand, 1) := by decide +kernel
theorem dX5_isWanted_9 : decode cX5_isWanted 9 = .ok (.ifCond .eq 7, 3) := by decide +kernel
theorem dX5_isWanted_12 : decode cX5_isWanted 12 = .ok (.iconst 1, 1) := by decide +kernel
theorem dX5_isWanted_13 : decode cX5_isWanted 13 = .ok (.goto 4, 3) := by decide +kernel
theorem dX5_isWanted_16 : decode cX5_isWanted 16 = .ok (.iconst 0, 1) := by decide +kernel
theorem dX5_isWanted_17 : decode cX5_isWanted 17 = .ok (.ireturn, 1) := by decide +kernel
theorem dX5_add_0 : decode cX5_add 0 = .ok (.aload_n 0, 1) := by decide +kernel
theorem dX5_add_1 : decode cX5_add 1 = .ok (.dup, 1) := by decide +kernel
theorem dX5_add_2 : decode cX5_add 2 = .ok (.getfield 11, 3) := by decide +kernel
theorem dX5_add_5 : decode cX5_add 5 = .ok (.aload_n 1, 1) := by decide +kernel
theorem dX5_add_6 : decode cX5_add 6 = .ok (.invokevirtual 94, 3) := by decide +kernel
theorem dX5_add_9 : decode cX5_add 9 = .ok (.ior, 1) := by decide +kernel
theorem dX5_add_10 : decode cX5_add 10 = .ok (.putfield 11, 3) := by decide +kernel
theorem dX5_add_13 : decode cX5_add 13 = .ok (.aload_n 0, 1) := by decide +kernel
theorem dX5_add_14 : decode cX5_add 14 = .ok (.aload_n 1, 1) := by decide +kernel
theorem dX5_add_15 : decode cX5_add 15 = .ok (.getfield 37, 3) := by decide +kernel
theorem dX5_add_18 : decode cX5_add 18 = .ok (.iconst 0, 1) := by decide +kernel
theorem dX5_add_19 : decode cX5_add 19 = .ok (.aaload, 1) := by decide +kernel
theorem dX5_add_20 : decode cX5_add 20 = .ok (.invokevirtual 38, 3) := by decide +kernel
theorem dX5_add_23 : decode cX5_add 23 = .ok (.return_, 1) := by decide +kernel
theorem dX5_list_0 : decode cX5_list 0 = .ok (.lconst 1, 1) := by decide +kernel
theorem dX5_list_1 : decode cX5_list 1 = .ok (.aload_n 1, 1) := by decide +kernel
theorem dX5_list_2 : decode cX5_list 2 = .ok (.getfield 98, 3) := by decide +kernel
theorem dX5_list_5 : decode cX5_list 5 = .ok (.lshl, 1) := by decide +kernel
theorem dX5_list_6 : decode cX5_list 6 = .ok (.lstore_n 2, 1) := by decide +kernel
theorem dX5_list_7 : decode cX5_list 7 = .ok (.aload_n 0, 1) := by decide +kernel
theorem dX5_list_8 : decode cX5_list 8 = .ok (.getfield 17, 3) := by decide +kernel
theorem dX5_list_11 : decode cX5_list 11 = .ok (.lload_n 2, 1) := by decide +kernel
theorem dX5_list_12 : decode cX5_list 12 = .ok (.land, 1) := by decide +kernel
theorem dX5_list_13 : decode cX5_list 13 = .ok (.lconst 0, 1) := by decide +kernel
theorem dX5_list_14 : decode cX5_list 14 = .ok (.lcmp, 1) := by decide +kernel
theorem dX5_list_15 : decode cX5_list 15 = .ok (.ifCond .ne 42, 3) := by decide +kernel
theorem dX5_list_18 : decode cX5_list 18 = .ok (.aload_n 0, 1) := by decide +kernel
theorem dX5_list_19 : decode cX5_list 19 = .ok (.getfield 27, 3) := by decide +kernel
theorem dX5_list_22 : decode cX5_list 22 = .ok (.bipush 48, 2) := by decide +kernel
theorem dX5_list_24 : decode cX5_list 24 = .ok (.if_icmp .ge 33, 3) := by decide +kernel
theorem dX5_list_27 : decode cX5_list 27 = .ok (.aload_n 0, 1) := by decide +kernel
theorem dX5_list_28 : decode cX5_list 28 = .ok (.dup, 1) := by decide +kernel
theorem dX5_list_29 : decode cX5_list 29 = .ok (.getfield 17, 3) := by decide +kernel
theorem dX5_list_32 : decode cX5_list 32 = .ok (.lload_n 2, 1) := by decide +kernel
theorem dX5_list_33 : decode cX5_list 33 = .ok (.lor, 1) := by decide +kernel
theorem dX5_list_34 : decode cX5_list 34 = .ok (.putfield 17, 3) := by decide +kernel
theorem dX5_list_37 : decode cX5_list 37 = .ok (.aload_n 0, 1) := by decide +kernel
theorem dX5_list_38 : decode cX5_list 38 = .ok (.getfield 23, 3) := by decide +kernel
theorem dX5_list_41 : decode cX5_list 41 = .ok (.aload_n 0, 1) := by decide +kernel
theorem dX5_list_42 : decode cX5_list 42 = .ok (.getfield 27, 3) := by decide +kernel
theorem dX5_list_45 : decode cX5_list 45 = .ok (.aload_n 1, 1) := by decide +kernel
theorem dX5_list_46 : decode cX5_list 46 = .ok (.aastore, 1) := by decide +kernel
theorem dX5_list_47 : decode cX5_list 47 = .ok (.aload_n 0, 1) := by decide +kernel
theorem dX5_list_48 : decode cX5_list 48 = .ok (.dup, 1) := by decide +kernel
theorem dX5_list_49 : decode cX5_list 49 = .ok (.getfield 27, 3) := by decide +kernel
theorem dX5_list_52 : decode cX5_list 52 = .ok (.iconst 1, 1) := by decide +kernel
theorem dX5_list_53 : decode cX5_list 53 = .ok (.iadd, 1) := by decide +kernel
theorem dX5_list_54 : decode cX5_list 54 = .ok (.putfield 27, 3) := by decide +kernel
theorem dX5_list_57 : decode cX5_list 57 = .ok (.return_, 1) := by decide +kernel
end
section
theorem dX6_init_0 : decode cX6_init 0 = .ok (.aload_n 0, 1) := by decide +kernel
theorem dX6_init_1 : decode cX6_init 1 = .ok (.invokespecial 1, 3) := by decide +kernel
theorem dX6_init_4 : decode cX6_init 4 = .ok (.aload_n 0, 1) := by decide +kernel
theorem dX6_init_5 : decode cX6_init 5 = .ok (.bipush 12, 2) := by decide +kernel
theorem dX6_init_7 : decode cX6_init 7 = .ok (.anewarray 9, 3) := by decide +kernel
theorem dX6_init_10 : decode cX6_init 10 = .ok (.putfield 11, 3) := by decide +kernel
theorem dX6_init_13 : decode cX6_init 13 = .ok (.aload_n 0, 1) := by decide +kernel
theorem dX6_init_14 : decode cX6_init 14 = .ok (.iconst 0, 1) := by decide +kernel
theorem dX6_init_15 : decode cX6_init 15 = .ok (.putfield 15, 3) := by decide +kernel
theorem dX6_init_18 : decode cX6_init 18 = .ok (.aload_n 0, 1) := by decide +kernel
theorem dX6_init_19 : decode cX6_init 19 = .ok (.new 19, 3) := by decide +kernel
theorem dX6_init_22 : decode cX6_init 22 = .ok (.dup, 1) := by decide +kernel
theorem dX6_init_23 : decode cX6_init 23 = .ok (.invokespecial 21, 3) := by decide +kernel
theorem dX6_init_26 : decode cX6_init 26 = .ok (.putfield 22, 3) := by decide +kernel
theorem dX6_init_29 : decode cX6_init 29 = .ok (.aload_n 0, 1) := by decide +kernel
theorem dX6_init_30 : decode cX6_init 30 = .ok (.new 26, 3) := by decide +kernel
theorem dX6_init_33 : decode cX6_init 33 = .ok (.dup, 1) := by decide +kernel
theorem dX6_init_34 : decode cX6_init 34 = .ok (.invokespecial 28, 3) := by decide +kernel
theorem dX6_init_37 : decode cX6_init 37 = .ok (.putfield 29, 3) := by decide +kernel
theorem dX6_init_40 : decode cX6_init 40 = .ok (.return_, 1) := by decide +kernel
theorem dX6_made_0 : decode cX6_made 0 = .ok (.aload_n 0, 1) := by decide +kernel
theorem dX6_made_1 : decode cX6_made 1 = .ok (.iload_n 1, 1) := by decide +kernel
theorem dX6_made_2 : decode cX6_made 2 = .ok (.invokevirtual 33, 3) := by decide +kernel
theorem dX6_made_5 : decode cX6_made 5 = .ok (.astore_n 2, 1) := by decide +kernel
theorem dX6_made_6 : decode cX6_made 6 = .ok (.iload_n 1, 1) := by decide +kernel
theorem dX6_made_7 : decode cX6_made 7 = .ok (.iconst (-1), 1) := by decide +kernel
theorem dX6_made_8 : decode cX6_made 8 = .ok (.if_icmp .eq 10, 3) := by decide +kernel
theorem dX6_made_11 : decode cX6_made 11 = .ok (.aload_n 2, 1) := by decide +kernel
theorem dX6_made_12 : decode cX6_made 12 = .ok (.ifnonnull 6, 3) := by decide +kernel
theorem dX6_made_15 : decode cX6_made 15 = .ok (.bipush (-2), 2) := by decide +kernel
theorem dX6_made_17 : decode cX6_made 17 = .ok (.ireturn, 1) := by decide +kernel
theorem dX6_made_18 : decode cX6_made 18 = .ok (.aload_n 2, 1) := by decide +kernel
theorem dX6_made_19 : decode cX6_made 19 = .ok (.ifnull 13, 3) := by decide +kernel
theorem dX6_made_22 : decode cX6_made 22 = .ok (.aload_n 2, 1) := by decide +kernel
theorem dX6_made_23 : decode cX6_made 23 = .ok (.getfield 37, 3) := by decide +kernel
theorem dX6_made_26 : decode cX6_made 26 = .ok (.ifCond .eq 6, 3) := by decide +kernel
theorem dX6_made_29 : decode cX6_made 29 = .ok (.bipush (-4), 2) := by decide +kernel
theorem dX6_made_31 : decode cX6_made 31 = .ok (.ireturn, 1) := by decide +kernel
theorem dX6_made_32 : decode cX6_made 32 = .ok (.aload_n 0, 1) := by decide +kernel
theorem dX6_made_33 : decode cX6_made 33 = .ok (.iconst 0, 1) := by decide +kernel
theorem dX6_made_34 : decode cX6_made 34 = .ok (.iconst 0, 1) := by decide +kernel
theorem dX6_made_35 : decode cX6_made 35 = .ok (.aload_n 2, 1) := by decide +kernel
theorem dX6_made_36 : decode cX6_made 36 = .ok (.invokevirtual 41, 3) := by decide +kernel
theorem dX6_made_39 : decode cX6_made 39 = .ok (.ireturn, 1) := by decide +kernel
theorem dX6_face_0 : decode cX6_face 0 = .ok (.aload_n 0, 1) := by decide +kernel
theorem dX6_face_1 : decode cX6_face 1 = .ok (.iconst 1, 1) := by decide +kernel
theorem dX6_face_2 : decode cX6_face 2 = .ok (.iload_n 1, 1) := by decide +kernel
theorem dX6_face_3 : decode cX6_face 3 = .ok (.aconst_null, 1) := by decide +kernel
theorem dX6_face_4 : decode cX6_face 4 = .ok (.invokevirtual 41, 3) := by decide +kernel
theorem dX6_face_7 : decode cX6_face 7 = .ok (.ireturn, 1) := by decide +kernel
theorem dX6_bears_0 : decode cX6_bears 0 = .ok (.aload_n 0, 1) := by decide +kernel
theorem dX6_bears_1 : decode cX6_bears 1 = .ok (.iload_n 1, 1) := by decide +kernel
theorem dX6_bears_2 : decode cX6_bears 2 = .ok (.invokevirtual 33, 3) := by decide +kernel
theorem dX6_bears_5 : decode cX6_bears 5 = .ok (.astore_n 3, 1) := by decide +kernel
theorem dX6_bears_6 : decode cX6_bears 6 = .ok (.aload_n 0, 1) := by decide +kernel
theorem dX6_bears_7 : decode cX6_bears 7 = .ok (.iload_n 2, 1) := by decide +kernel
theorem dX6_bears_8 : decode cX6_bears 8 = .ok (.invokevirtual 33, 3) := by decide +kernel
theorem dX6_bears_11 : decode cX6_bears 11 = .ok (.astore 4, 2) := by decide +kernel
theorem dX6_bears_13 : decode cX6_bears 13 = .ok (.aload_n 3, 1) := by decide +kernel
theorem dX6_bears_14 : decode cX6_bears 14 = .ok (.ifnull 8, 3) := by decide +kernel
theorem dX6_bears_17 : decode cX6_bears 17 = .ok (.aload 4, 2) := by decide +kernel
theorem dX6_bears_19 : decode cX6_bears 19 = .ok (.ifnonnull 6, 3) := by decide +kernel
theorem dX6_bears_22 : decode cX6_bears 22 = .ok (.bipush (-2), 2) := by decide +kernel
theorem dX6_bears_24 : decode cX6_bears 24 = .ok (.ireturn, 1) := by decide +kernel
theorem dX6_bears_25 : decode cX6_bears 25 = .ok (.aload 4, 2) := by decide +kernel
theorem dX6_bears_27 : decode cX6_bears 27 = .ok (.getfield 37, 3) := by decide +kernel
theorem dX6_bears_30 : decode cX6_bears 30 = .ok (.ifCond .eq 34, 3) := by decide +kernel
theorem dX6_bears_33 : decode cX6_bears 33 = .ok (.aload 4, 2) := by decide +kernel
theorem dX6_bears_35 : decode cX6_bears 35 = .ok (.getfield 45, 3) := by decide +kernel
theorem dX6_bears_38 : decode cX6_bears 38 = .ok (.aload_n 3, 1) := by decide +kernel
theorem dX6_bears_39 : decode cX6_bears 39 = .ok (.getfield 45, 3) := by decide +kernel
theorem dX6_bears_42 : decode cX6_bears 42 = .ok (.if_icmp .ge 22, 3) := by decide +kernel
theorem dX6_bears_45 : decode cX6_bears 45 = .ok (.aload_n 3, 1) := by decide +kernel
theorem dX6_bears_46 : decode cX6_bears 46 = .ok (.aload 4, 2) := by decide +kernel
theorem dX6_bears_48 : decode cX6_bears 48 = .ok (.getfield 45, 3) := by decide +kernel
theorem dX6_bears_51 : decode cX6_bears 51 = .ok (.invokevirtual 48, 3) := by decide +kernel
theorem dX6_bears_54 : decode cX6_bears 54 = .ok (.ifCond .ne 10, 3) := by decide +kernel
theorem dX6_bears_57 : decode cX6_bears 57 = .ok (.aload_n 3, 1) := by decide +kernel
theorem dX6_bears_58 : decode cX6_bears 58 = .ok (.getfield 52, 3) := by decide +kernel
theorem dX6_bears_61 : decode cX6_bears 61 = .ok (.ifCond .eq 6, 3) := by decide +kernel
theorem dX6_bears_64 : decode cX6_bears 64 = .ok (.bipush (-4), 2) := by decide +kernel
theorem dX6_bears_66 : decode cX6_bears 66 = .ok (.ireturn, 1) := by decide +kernel
theorem dX6_bears_67 : decode cX6_bears 67 = .ok (.aload_n 3, 1) := by decide +kernel
theorem dX6_bears_68 : decode cX6_bears 68 = .ok (.aload 4, 2) := by decide +kernel
theorem dX6_bears_70 : decode cX6_bears 70 = .ok (.invokevirtual 55, 3) := by decide +kernel
theorem dX6_bears_73 : decode cX6_bears 73 = .ok (.ireturn, 1) := by decide +kernel
theorem dX6_constant_0 : decode cX6_constant 0 = .ok (.aload_n 0, 1) := by decide +kernel
theorem dX6_constant_1 : decode cX6_constant 1 = .ok (.iload_n 1, 1) := by decide +kernel
theorem dX6_constant_2 : decode cX6_constant 2 = .ok (.invokevirtual 33, 3) := by decide +kernel
theorem dX6_constant_5 : decode cX6_constant 5 = .ok (.astore 4, 2) := by decide +kernel
theorem dX6_constant_7 : decode cX6_constant 7 = .ok (.aload 4, 2) := by decide +kernel
theorem dX6_constant_9 : decode cX6_constant 9 = .ok (.ifnonnull 6, 3) := by decide +kernel
theorem dX6_constant_12 : decode cX6_constant 12 = .ok (.bipush (-2), 2) := by decide +kernel
theorem dX6_constant_14 : decode cX6_constant 14 = .ok (.ireturn, 1) := by decide +kernel
theorem dX6_constant_15 : decode cX6_constant 15 = .ok (.iload_n 2, 1) := by decide +kernel
theorem dX6_constant_16 : decode cX6_constant 16 = .ok (.invokestatic 59, 3) := by decide +kernel
theorem dX6_constant_19 : decode cX6_constant 19 = .ok (.ifCond .ne 6, 3) := by decide +kernel
theorem dX6_constant_22 : decode cX6_constant 22 = .ok (.bipush (-3), 2) := by decide +kernel
theorem dX6_constant_24 : decode cX6_constant 24 = .ok (.ireturn, 1) := by decide +kernel
theorem dX6_constant_25 : decode cX6_constant 25 = .ok (.aload 4, 2) := by decide +kernel
theorem dX6_constant_27 : decode cX6_constant 27 = .ok (.iload_n 2, 1) := by decide +kernel
theorem dX6_constant_28 : decode cX6_constant 28 = .ok (.invokevirtual 62, 3) := by decide +kernel
theorem dX6_constant_31 : decode cX6_constant 31 = .ok (.ifCond .ne 11, 3) := by decide +kernel
theorem dX6_constant_34 : decode cX6_constant 34 = .ok (.aload 4, 2) := by decide +kernel
theorem dX6_constant_36 : decode cX6_constant 36 = .ok (.getfield 52, 3) := by decide +kernel
theorem dX6_constant_39 : decode cX6_constant 39 = .ok (.ifCond .eq 6, 3) := by decide +kernel
theorem dX6_constant_42 : decode cX6_constant 42 = .ok (.bipush (-4), 2) := by decide +kernel
theorem dX6_constant_44 : decode cX6_constant 44 = .ok (.ireturn, 1) := by decide +kernel
theorem dX6_constant_45 : decode cX6_constant 45 = .ok (.aload 4, 2) := by decide +kernel
theorem dX6_constant_47 : decode cX6_constant 47 = .ok (.iload_n 2, 1) := by decide +kernel
theorem dX6_constant_48 : decode cX6_constant 48 = .ok (.iload_n 3, 1) := by decide +kernel
theorem dX6_constant_49 : decode cX6_constant 49 = .ok (.invokevirtual 65, 3) := by decide +kernel
theorem dX6_constant_52 : decode cX6_constant 52 = .ok (.iconst 1, 1) := by decide +kernel
theorem dX6_constant_53 : decode cX6_constant 53 = .ok (.ireturn, 1) := by decide +kernel
theorem dX6_act_0 : decode cX6_act 0 = .ok (.aload_n 0, 1) := by decide +kernel
theorem dX6_act_1 : decode cX6_act 1 = .ok (.iload_n 1, 1) := by decide +kernel
theorem dX6_act_2 : decode cX6_act 2 = .ok (.invokevirtual 33, 3) := by decide +kernel
theorem dX6_act_5 : decode cX6_act 5 = .ok (.astore 7, 2) := by decide +kernel
theorem dX6_act_7 : decode cX6_act 7 = .ok (.aload 7, 2) := by decide +kernel
theorem dX6_act_9 : decode cX6_act 9 = .ok (.ifnonnull 6, 3) := by decide +kernel
theorem dX6_act_12 : decode cX6_act 12 = .ok (.bipush (-2), 2) := by decide +kernel
theorem dX6_act_14 : decode cX6_act 14 = .ok (.ireturn, 1) := by decide +kernel
theorem dX6_act_15 : decode cX6_act 15 = .ok (.aload_n 0, 1) := by decide +kernel
theorem dX6_act_16 : decode cX6_act 16 = .ok (.aload 7, 2) := by decide +kernel
theorem dX6_act_18 : decode cX6_act 18 = .ok (.iload_n 3, 1) := by decide +kernel
theorem dX6_act_19 : decode cX6_act 19 = .ok (.iload 4, 2) := by decide +kernel
theorem dX6_act_21 : decode cX6_act 21 = .ok (.iload 5, 2) := by decide +kernel
theorem dX6_act_23 : decode cX6_act 23 = .ok (.invokevirtual 69, 3) := by decide +kernel
theorem dX6_act_26 : decode cX6_act 26 = .ok (.astore 8, 2) := by decide +kernel
theorem dX6_act_28 : decode cX6_act 28 = .ok (.aload 8, 2) := by decide +kernel
theorem dX6_act_30 : decode cX6_act 30 = .ok (.ifnonnull 6, 3) := by decide +kernel
theorem dX6_act_33 : decode cX6_act 33 = .ok (.bipush (-2), 2) := by decide +kernel
theorem dX6_act_35 : decode cX6_act 35 = .ok (.ireturn, 1) := by decide +kernel
theorem dX6_act_36 : decode cX6_act 36 = .ok (.iload_n 2, 1) := by decide +kernel
theorem dX6_act_37 : decode cX6_act 37 = .ok (.invokestatic 73, 3) := by decide +kernel
theorem dX6_act_40 : decode cX6_act 40 = .ok (.ifCond .eq 16, 3) := by decide +kernel
theorem dX6_act_43 : decode cX6_act 43 = .ok (.iload_n 3, 1) := by decide +kernel
theorem dX6_act_44 : decode cX6_act 44 = .ok (.iload 4, 2) := by decide +kernel
theorem dX6_act_46 : decode cX6_act 46 = .ok (.iload 5, 2) := by decide +kernel
theorem dX6_act_48 : decode cX6_act 48 = .ok (.iload 6, 2) := by decide +kernel
theorem dX6_act_50 : decode cX6_act 50 = .ok (.invokestatic 76, 3) := by decide +kernel
theorem dX6_act_53 : decode cX6_act 53 = .ok (.ifCond .ne 6, 3) := by decide +kernel
theorem dX6_act_56 : decode cX6_act 56 = .ok (.bipush (-3), 2) := by decide +kernel
theorem dX6_act_58 : decode cX6_act 58 = .ok (.ireturn, 1) := by decide +kernel
theorem dX6_act_59 : decode cX6_act 59 = .ok (.iload_n 3, 1) := by decide +kernel
theorem dX6_act_60 : decode cX6_act 60 = .ok (.bipush 8, 2) := by decide +kernel
theorem dX6_act_62 : decode cX6_act 62 = .ok (.if_icmp .ne 11, 3) := by decide +kernel
theorem dX6_act_65 : decode cX6_act 65 = .ok (.aload 8, 2) := by decide +kernel
theorem dX6_act_67 : decode cX6_act 67 = .ok (.getfield 37, 3) := by decide +kernel
theorem dX6_act_70 : decode cX6_act 70 = .ok (.ifCond .ne 11, 3) := by decide +kernel
theorem dX6_act_73 : decode cX6_act 73 = .ok (.aload 7, 2) := by decide +kernel
theorem dX6_act_75 : decode cX6_act 75 = .ok (.getfield 52, 3) := by decide +kernel
theorem dX6_act_78 : decode cX6_act 78 = .ok (.ifCond .eq 6, 3) := by decide +kernel
theorem dX6_act_81 : decode cX6_act 81 = .ok (.bipush (-4), 2) := by decide +kernel
theorem dX6_act_83 : decode cX6_act 83 = .ok (.ireturn, 1) := by decide +kernel
theorem dX6_act_84 : decode cX6_act 84 = .ok (.aload 7, 2) := by decide +kernel
theorem dX6_act_86 : decode cX6_act 86 = .ok (.getfield 82, 3) := by decide +kernel
theorem dX6_act_89 : decode cX6_act 89 = .ok (.iload_n 2, 1) := by decide +kernel
theorem dX6_act_90 : decode cX6_act 90 = .ok (.aaload, 1) := by decide +kernel
theorem dX6_act_91 : decode cX6_act 91 = .ok (.iload_n 3, 1) := by decide +kernel
theorem dX6_act_92 : decode cX6_act 92 = .ok (.aload 8, 2) := by decide +kernel
theorem dX6_act_94 : decode cX6_act 94 = .ok (.iload 4, 2) := by decide +kernel
theorem dX6_act_96 : decode cX6_act 96 = .ok (.iload 5, 2) := by decide +kernel
theorem dX6_act_98 : decode cX6_act 98 = .ok (.iload 6, 2) := by decide +kernel
theorem dX6_act_100 : decode cX6_act 100 = .ok (.invokevirtual 86, 3) := by decide +kernel
theorem dX6_act_103 : decode cX6_act 103 = .ok (.ireturn, 1) := by decide +kernel
theorem dX6_run_0 : decode cX6_run 0 = .ok (.aload_n 0, 1) := by decide +kernel
theorem dX6_run_1 : decode cX6_run 1 = .ok (.iload_n 1, 1) := by decide +kernel
theorem dX6_run_2 : decode cX6_run 2 = .ok (.invokevirtual 33, 3) := by decide +kernel
theorem dX6_run_5 : decode cX6_run 5 = .ok (.astore_n 3, 1) := by decide +kernel
theorem dX6_run_6 : decode cX6_run 6 = .ok (.aload_n 3, 1) := by decide +kernel
theorem dX6_run_7 : decode cX6_run 7 = .ok (.ifnonnull 6, 3) := by decide +kernel
theorem dX6_run_10 : decode cX6_run 10 = .ok (.bipush (-2), 2) := by decide +kernel
theorem dX6_run_12 : decode cX6_run 12 = .ok (.ireturn, 1) := by decide +kernel
theorem dX6_run_13 : decode cX6_run 13 = .ok (.iload_n 2, 1) := by decide +kernel
theorem dX6_run_14 : decode cX6_run 14 = .ok (.invokestatic 92, 3) := by decide +kernel
theorem dX6_run_17 : decode cX6_run 17 = .ok (.ifCond .ne 6, 3) := by decide +kernel
theorem dX6_run_20 : decode cX6_run 20 = .ok (.bipush (-3), 2) := by decide +kernel
theorem dX6_run_22 : decode cX6_run 22 = .ok (.ireturn, 1) := by decide +kernel
theorem dX6_run_23 : decode cX6_run 23 = .ok (.aload_n 0, 1) := by decide +kernel
theorem dX6_run_24 : decode cX6_run 24 = .ok (.getfield 22, 3) := by decide +kernel
theorem dX6_run_27 : decode cX6_run 27 = .ok (.aload_n 3, 1) := by decide +kernel
theorem dX6_run_28 : decode cX6_run 28 = .ok (.iload_n 2, 1) := by decide +kernel
theorem dX6_run_29 : decode cX6_run 29 = .ok (.invokevirtual 95, 3) := by decide +kernel
theorem dX6_run_32 : decode cX6_run 32 = .ok (.ireturn, 1) := by decide +kernel
theorem dX6_cause_0 : decode cX6_cause 0 = .ok (.aload_n 0, 1) := by decide +kernel
theorem dX6_cause_1 : decode cX6_cause 1 = .ok (.getfield 22, 3) := by decide +kernel
theorem dX6_cause_4 : decode cX6_cause 4 = .ok (.getfield 99, 3) := by decide +kernel
theorem dX6_cause_7 : decode cX6_cause 7 = .ok (.astore_n 1, 1) := by decide +kernel
theorem dX6_cause_8 : decode cX6_cause 8 = .ok (.aload_n 1, 1) := by decide +kernel
theorem dX6_cause_9 : decode cX6_cause 9 = .ok (.getfield 103, 3) := by decide +kernel
theorem dX6_cause_12 : decode cX6_cause 12 = .ok (.bipush 7, 2) := by decide +kernel
theorem dX6_cause_14 : decode cX6_cause 14 = .ok (.if_icmp .ne 10, 3) := by decide +kernel
theorem dX6_cause_17 : decode cX6_cause 17 = .ok (.aload_n 1, 1) := by decide +kernel
theorem dX6_cause_18 : decode cX6_cause 18 = .ok (.getfield 108, 3) := by decide +kernel
theorem dX6_cause_21 : decode cX6_cause 21 = .ok (.goto 4, 3) := by decide +kernel
theorem dX6_cause_24 : decode cX6_cause 24 = .ok (.iconst (-1), 1) := by decide +kernel
theorem dX6_cause_25 : decode cX6_cause 25 = .ok (.ireturn, 1) := by decide +kernel
theorem dX6_count_0 : decode cX6_count 0 = .ok (.aload_n 0, 1) := by decide +kernel
theorem dX6_count_1 : decode cX6_count 1 = .ok (.getfield 22, 3) := by decide +kernel
theorem dX6_count_4 : decode cX6_count 4 = .ok (.getfield 99, 3) := by decide +kernel
theorem dX6_count_7 : decode cX6_count 7 = .ok (.astore_n 2, 1) := by decide +kernel
theorem dX6_count_8 : decode cX6_count 8 = .ok (.iload_n 1, 1) := by decide +kernel
theorem dX6_count_9 : decode cX6_count 9 = .ok (.tableswitch 51 0 3 #[31, 36, 41, 46], 31) := by decide +kernel
theorem dX6_count_40 : decode cX6_count 40 = .ok (.aload_n 2, 1) := by decide +kernel
theorem dX6_count_41 : decode cX6_count 41 = .ok (.getfield 111, 3) := by decide +kernel
theorem dX6_count_44 : decode cX6_count 44 = .ok (.ireturn, 1) := by decide +kernel
theorem dX6_count_45 : decode cX6_count 45 = .ok (.aload_n 2, 1) := by decide +kernel
theorem dX6_count_46 : decode cX6_count 46 = .ok (.getfield 114, 3) := by decide +kernel
theorem dX6_count_49 : decode cX6_count 49 = .ok (.ireturn, 1) := by decide +kernel
theorem dX6_count_50 : decode cX6_count 50 = .ok (.aload_n 2, 1) := by decide +kernel
theorem dX6_count_51 : decode cX6_count 51 = .ok (.getfield 117, 3) := by decide +kernel
theorem dX6_count_54 : decode cX6_count 54 = .ok (.ireturn, 1) := by decide +kernel
theorem dX6_count_55 : decode cX6_count 55 = .ok (.aload_n 2, 1) := by decide +kernel
theorem dX6_count_56 : decode cX6_count 56 = .ok (.getfield 120, 3) := by decide +kernel
theorem dX6_count_59 : decode cX6_count 59 = .ok (.ireturn, 1) := by decide +kernel
theorem dX6_count_60 : decode cX6_count 60 = .ok (.bipush (-3), 2) := by decide +kernel
theorem dX6_count_62 : decode cX6_count 62 = .ok (.ireturn, 1) := by decide +kernel
theorem dX6_event_0 : decode cX6_event 0 = .ok (.aload_n 0, 1) := by decide +kernel
theorem dX6_event_1 : decode cX6_event 1 = .ok (.getfield 22, 3) := by decide +kernel
theorem dX6_event_4 : decode cX6_event 4 = .ok (.getfield 99, 3) := by decide +kernel
theorem dX6_event_7 : decode cX6_event 7 = .ok (.astore_n 3, 1) := by decide +kernel
theorem dX6_event_8 : decode cX6_event 8 = .ok (.iload_n 1, 1) := by decide +kernel
theorem dX6_event_9 : decode cX6_event 9 = .ok (.ifCond .lt 11, 3) := by decide +kernel
theorem dX6_event_12 : decode cX6_event 12 = .ok (.iload_n 1, 1) := by decide +kernel
theorem dX6_event_13 : decode cX6_event 13 = .ok (.aload_n 3, 1) := by decide +kernel
theorem dX6_event_14 : decode cX6_event 14 = .ok (.getfield 111, 3) := by decide +kernel
theorem dX6_event_17 : decode cX6_event 17 = .ok (.if_icmp .lt 5, 3) := by decide +kernel
theorem dX6_event_20 : decode cX6_event 20 = .ok (.iconst 0, 1) := by decide +kernel
theorem dX6_event_21 : decode cX6_event 21 = .ok (.ireturn, 1) := by decide +kernel
theorem dX6_event_22 : decode cX6_event 22 = .ok (.iload_n 2, 1) := by decide +kernel
theorem dX6_event_23 : decode cX6_event 23 = .ok (.lookupswitch 39 #[(0, 25), (1, 32)], 25) := by decide +kernel
theorem dX6_event_48 : decode cX6_event 48 = .ok (.aload_n 3, 1) := by decide +kernel
theorem dX6_event_49 : decode cX6_event 49 = .ok (.getfield 123, 3) := by decide +kernel
theorem dX6_event_52 : decode cX6_event 52 = .ok (.iload_n 1, 1) := by decide +kernel
theorem dX6_event_53 : decode cX6_event 53 = .ok (.iaload, 1) := by decide +kernel
theorem dX6_event_54 : decode cX6_event 54 = .ok (.ireturn, 1) := by decide +kernel
theorem dX6_event_55 : decode cX6_event 55 = .ok (.aload_n 3, 1) := by decide +kernel
theorem dX6_event_56 : decode cX6_event 56 = .ok (.getfield 127, 3) := by decide +kernel
theorem dX6_event_59 : decode cX6_event 59 = .ok (.iload_n 1, 1) := by decide +kernel
theorem dX6_event_60 : decode cX6_event 60 = .ok (.iaload, 1) := by decide +kernel
theorem dX6_event_61 : decode cX6_event 61 = .ok (.ireturn, 1) := by decide +kernel
theorem dX6_event_62 : decode cX6_event 62 = .ok (.iconst 0, 1) := by decide +kernel
theorem dX6_event_63 : decode cX6_event 63 = .ok (.ireturn, 1) := by decide +kernel
theorem dX6_state_0 : decode cX6_state 0 = .ok (.aload_n 0, 1) := by decide +kernel
theorem dX6_state_1 : decode cX6_state 1 = .ok (.iload_n 1, 1) := by decide +kernel
theorem dX6_state_2 : decode cX6_state 2 = .ok (.invokevirtual 33, 3) := by decide +kernel
theorem dX6_state_5 : decode cX6_state 5 = .ok (.astore_n 2, 1) := by decide +kernel
theorem dX6_state_6 : decode cX6_state 6 = .ok (.aload_n 2, 1) := by decide +kernel
theorem dX6_state_7 : decode cX6_state 7 = .ok (.ifnonnull 8, 3) := by decide +kernel
theorem dX6_state_10 : decode cX6_state 10 = .ok (.bipush (-2), 2) := by decide +kernel
theorem dX6_state_12 : decode cX6_state 12 = .ok (.goto 7, 3) := by decide +kernel
theorem dX6_state_15 : decode cX6_state 15 = .ok (.aload_n 2, 1) := by decide +kernel
theorem dX6_state_16 : decode cX6_state 16 = .ok (.getfield 52, 3) := by decide +kernel
theorem dX6_state_19 : decode cX6_state 19 = .ok (.ireturn, 1) := by decide +kernel
theorem dX6_field_0 : decode cX6_field 0 = .ok (.aload_n 0, 1) := by decide +kernel
theorem dX6_field_1 : decode cX6_field 1 = .ok (.iload_n 1, 1) := by decide +kernel
theorem dX6_field_2 : decode cX6_field 2 = .ok (.invokevirtual 33, 3) := by decide +kernel
theorem dX6_field_5 : decode cX6_field 5 = .ok (.astore_n 3, 1) := by decide +kernel
theorem dX6_field_6 : decode cX6_field 6 = .ok (.aload_n 3, 1) := by decide +kernel
theorem dX6_field_7 : decode cX6_field 7 = .ok (.ifnonnull 7, 3) := by decide +kernel
theorem dX6_field_10 : decode cX6_field 10 = .ok (.iconst 0, 1) := by decide +kernel
theorem dX6_field_11 : decode cX6_field 11 = .ok (.goto 8, 3) := by decide +kernel
theorem dX6_field_14 : decode cX6_field 14 = .ok (.aload_n 3, 1) := by decide +kernel
theorem dX6_field_15 : decode cX6_field 15 = .ok (.iload_n 2, 1) := by decide +kernel
theorem dX6_field_16 : decode cX6_field 16 = .ok (.invokevirtual 130, 3) := by decide +kernel
theorem dX6_field_19 : decode cX6_field 19 = .ok (.ireturn, 1) := by decide +kernel
theorem dX6_row_0 : decode cX6_row 0 = .ok (.aload_n 0, 1) := by decide +kernel
theorem dX6_row_1 : decode cX6_row 1 = .ok (.iload_n 1, 1) := by decide +kernel
theorem dX6_row_2 : decode cX6_row 2 = .ok (.invokevirtual 33, 3) := by decide +kernel
theorem dX6_row_5 : decode cX6_row 5 = .ok (.astore_n 2, 1) := by decide +kernel
theorem dX6_row_6 : decode cX6_row 6 = .ok (.aload_n 2, 1) := by decide +kernel
theorem dX6_row_7 : decode cX6_row 7 = .ok (.ifnonnull 8, 3) := by decide +kernel
theorem dX6_row_10 : decode cX6_row 10 = .ok (.bipush (-2), 2) := by decide +kernel
theorem dX6_row_12 : decode cX6_row 12 = .ok (.goto 7, 3) := by decide +kernel
theorem dX6_row_15 : decode cX6_row 15 = .ok (.aload_n 2, 1) := by decide +kernel
theorem dX6_row_16 : decode cX6_row 16 = .ok (.getfield 134, 3) := by decide +kernel
theorem dX6_row_19 : decode cX6_row 19 = .ok (.ireturn, 1) := by decide +kernel
theorem dX6_item_0 : decode cX6_item 0 = .ok (.aload_n 0, 1) := by decide +kernel
theorem dX6_item_1 : decode cX6_item 1 = .ok (.iload_n 1, 1) := by decide +kernel
theorem dX6_item_2 : decode cX6_item 2 = .ok (.invokevirtual 33, 3) := by decide +kernel
theorem dX6_item_5 : decode cX6_item 5 = .ok (.astore_n 3, 1) := by decide +kernel
theorem dX6_item_6 : decode cX6_item 6 = .ok (.aload_n 3, 1) := by decide +kernel
theorem dX6_item_7 : decode cX6_item 7 = .ok (.ifnull 11, 3) := by decide +kernel
theorem dX6_item_10 : decode cX6_item 10 = .ok (.aload_n 3, 1) := by decide +kernel
theorem dX6_item_11 : decode cX6_item 11 = .ok (.iload_n 2, 1) := by decide +kernel
theorem dX6_item_12 : decode cX6_item 12 = .ok (.invokevirtual 137, 3) := by decide +kernel
theorem dX6_item_15 : decode cX6_item 15 = .ok (.ifCond .ne 7, 3) := by decide +kernel
theorem dX6_item_18 : decode cX6_item 18 = .ok (.iconst 0, 1) := by decide +kernel
theorem dX6_item_19 : decode cX6_item 19 = .ok (.goto 9, 3) := by decide +kernel
theorem dX6_item_22 : decode cX6_item 22 = .ok (.aload_n 3, 1) := by decide +kernel
theorem dX6_item_23 : decode cX6_item 23 = .ok (.getfield 140, 3) := by decide +kernel
theorem dX6_item_26 : decode cX6_item 26 = .ok (.iload_n 2, 1) := by decide +kernel
theorem dX6_item_27 : decode cX6_item 27 = .ok (.iaload, 1) := by decide +kernel
theorem dX6_item_28 : decode cX6_item 28 = .ok (.ireturn, 1) := by decide +kernel
theorem dX6_again_0 : decode cX6_again 0 = .ok (.iconst 0, 1) := by decide +kernel
theorem dX6_again_1 : decode cX6_again 1 = .ok (.istore_n 1, 1) := by decide +kernel
theorem dX6_again_2 : decode cX6_again 2 = .ok (.iconst 0, 1) := by decide +kernel
theorem dX6_again_3 : decode cX6_again 3 = .ok (.istore_n 2, 1) := by decide +kernel
theorem dX6_again_4 : decode cX6_again 4 = .ok (.iload_n 2, 1) := by decide +kernel
theorem dX6_again_5 : decode cX6_again 5 = .ok (.aload_n 0, 1) := by decide +kernel
theorem dX6_again_6 : decode cX6_again 6 = .ok (.getfield 15, 3) := by decide +kernel
theorem dX6_again_9 : decode cX6_again 9 = .ok (.if_icmp .ge 33, 3) := by decide +kernel
theorem dX6_again_12 : decode cX6_again 12 = .ok (.aload_n 0, 1) := by decide +kernel
theorem dX6_again_13 : decode cX6_again 13 = .ok (.getfield 11, 3) := by decide +kernel
theorem dX6_again_16 : decode cX6_again 16 = .ok (.iload_n 2, 1) := by decide +kernel
theorem dX6_again_17 : decode cX6_again 17 = .ok (.aaload, 1) := by decide +kernel
theorem dX6_again_18 : decode cX6_again 18 = .ok (.getfield 52, 3) := by decide +kernel
theorem dX6_again_21 : decode cX6_again 21 = .ok (.ifCond .eq 6, 3) := by decide +kernel
theorem dX6_again_24 : decode cX6_again 24 = .ok (.iinc 1 1, 3) := by decide +kernel
theorem dX6_again_27 : decode cX6_again 27 = .ok (.aload_n 0, 1) := by decide +kernel
theorem dX6_again_28 : decode cX6_again 28 = .ok (.getfield 11, 3) := by decide +kernel
theorem dX6_again_31 : decode cX6_again 31 = .ok (.iload_n 2, 1) := by decide +kernel
theorem dX6_again_32 : decode cX6_again 32 = .ok (.aaload, 1) := by decide +kernel
theorem dX6_again_33 : decode cX6_again 33 = .ok (.invokevirtual 143, 3) := by decide +kernel
theorem dX6_again_36 : decode cX6_again 36 = .ok (.iinc 2 1, 3) := by decide +kernel
theorem dX6_again_39 : decode cX6_again 39 = .ok (.goto (-35), 3) := by decide +kernel
theorem dX6_again_42 : decode cX6_again 42 = .ok (.iload_n 1, 1) := by decide +kernel
theorem dX6_again_43 : decode cX6_again 43 = .ok (.ireturn, 1) := by decide +kernel
theorem dX6_may_0 : decode cX6_may 0 = .ok (.aload_n 0, 1) := by decide +kernel
theorem dX6_may_1 : decode cX6_may 1 = .ok (.iload_n 1, 1) := by decide +kernel
theorem dX6_may_2 : decode cX6_may 2 = .ok (.invokevirtual 33, 3) := by decide +kernel
theorem dX6_may_5 : decode cX6_may 5 = .ok (.astore_n 3, 1) := by decide +kernel
theorem dX6_may_6 : decode cX6_may 6 = .ok (.aload_n 3, 1) := by decide +kernel
theorem dX6_may_7 : decode cX6_may 7 = .ok (.ifnonnull 6, 3) := by decide +kernel
theorem dX6_may_10 : decode cX6_may 10 = .ok (.bipush (-2), 2) := by decide +kernel
theorem dX6_may_12 : decode cX6_may 12 = .ok (.ireturn, 1) := by decide +kernel
theorem dX6_may_13 : decode cX6_may 13 = .ok (.iload_n 2, 1) := by decide +kernel
theorem dX6_may_14 : decode cX6_may 14 = .ok (.invokestatic 73, 3) := by decide +kernel
theorem dX6_may_17 : decode cX6_may 17 = .ok (.ifCond .ne 6, 3) := by decide +kernel
theorem dX6_may_20 : decode cX6_may 20 = .ok (.bipush (-3), 2) := by decide +kernel
theorem dX6_may_22 : decode cX6_may 22 = .ok (.ireturn, 1) := by decide +kernel
theorem dX6_may_23 : decode cX6_may 23 = .ok (.aload_n 0, 1) := by decide +kernel
theorem dX6_may_24 : decode cX6_may 24 = .ok (.getfield 29, 3) := by decide +kernel
theorem dX6_may_27 : decode cX6_may 27 = .ok (.aload_n 3, 1) := by decide +kernel
theorem dX6_may_28 : decode cX6_may 28 = .ok (.iload_n 2, 1) := by decide +kernel
theorem dX6_may_29 : decode cX6_may 29 = .ok (.invokevirtual 146, 3) := by decide +kernel
theorem dX6_may_32 : decode cX6_may 32 = .ok (.ireturn, 1) := by decide +kernel
theorem dX6_ahead_0 : decode cX6_ahead 0 = .ok (.aload_n 0, 1) := by decide +kernel
theorem dX6_ahead_1 : decode cX6_ahead 1 = .ok (.iload_n 1, 1) := by decide +kernel
theorem dX6_ahead_2 : decode cX6_ahead 2 = .ok (.invokevirtual 33, 3) := by decide +kernel
theorem dX6_ahead_5 : decode cX6_ahead 5 = .ok (.astore_n 3, 1) := by decide +kernel
theorem dX6_ahead_6 : decode cX6_ahead 6 = .ok (.aload_n 0, 1) := by decide +kernel
theorem dX6_ahead_7 : decode cX6_ahead 7 = .ok (.iload_n 2, 1) := by decide +kernel
theorem dX6_ahead_8 : decode cX6_ahead 8 = .ok (.invokevirtual 33, 3) := by decide +kernel
theorem dX6_ahead_11 : decode cX6_ahead 11 = .ok (.astore 4, 2) := by decide +kernel
theorem dX6_ahead_13 : decode cX6_ahead 13 = .ok (.aload_n 3, 1) := by decide +kernel
theorem dX6_ahead_14 : decode cX6_ahead 14 = .ok (.ifnull 8, 3) := by decide +kernel
theorem dX6_ahead_17 : decode cX6_ahead 17 = .ok (.aload 4, 2) := by decide +kernel
theorem dX6_ahead_19 : decode cX6_ahead 19 = .ok (.ifnonnull 6, 3) := by decide +kernel
theorem dX6_ahead_22 : decode cX6_ahead 22 = .ok (.bipush (-2), 2) := by decide +kernel
theorem dX6_ahead_24 : decode cX6_ahead 24 = .ok (.ireturn, 1) := by decide +kernel
theorem dX6_ahead_25 : decode cX6_ahead 25 = .ok (.aload_n 3, 1) := by decide +kernel
theorem dX6_ahead_26 : decode cX6_ahead 26 = .ok (.aload 4, 2) := by decide +kernel
theorem dX6_ahead_28 : decode cX6_ahead 28 = .ok (.if_acmp .eq 24, 3) := by decide +kernel
theorem dX6_ahead_31 : decode cX6_ahead 31 = .ok (.aload_n 0, 1) := by decide +kernel
theorem dX6_ahead_32 : decode cX6_ahead 32 = .ok (.getfield 29, 3) := by decide +kernel
theorem dX6_ahead_35 : decode cX6_ahead 35 = .ok (.aload_n 3, 1) := by decide +kernel
theorem dX6_ahead_36 : decode cX6_ahead 36 = .ok (.invokevirtual 149, 3) := by decide +kernel
theorem dX6_ahead_39 : decode cX6_ahead 39 = .ok (.aload 4, 2) := by decide +kernel
theorem dX6_ahead_41 : decode cX6_ahead 41 = .ok (.invokevirtual 152, 3) := by decide +kernel
theorem dX6_ahead_44 : decode cX6_ahead 44 = .ok (.iand, 1) := by decide +kernel
theorem dX6_ahead_45 : decode cX6_ahead 45 = .ok (.ifCond .eq 7, 3) := by decide +kernel
theorem dX6_ahead_48 : decode cX6_ahead 48 = .ok (.iconst 1, 1) := by decide +kernel
theorem dX6_ahead_49 : decode cX6_ahead 49 = .ok (.goto 4, 3) := by decide +kernel
theorem dX6_ahead_52 : decode cX6_ahead 52 = .ok (.iconst 0, 1) := by decide +kernel
theorem dX6_ahead_53 : decode cX6_ahead 53 = .ok (.ireturn, 1) := by decide +kernel
theorem dX6_find_0 : decode cX6_find 0 = .ok (.iload_n 1, 1) := by decide +kernel
theorem dX6_find_1 : decode cX6_find 1 = .ok (.ifCond .lt 20, 3) := by decide +kernel
theorem dX6_find_4 : decode cX6_find 4 = .ok (.iload_n 1, 1) := by decide +kernel
theorem dX6_find_5 : decode cX6_find 5 = .ok (.aload_n 0, 1) := by decide +kernel
theorem dX6_find_6 : decode cX6_find 6 = .ok (.getfield 15, 3) := by decide +kernel
theorem dX6_find_9 : decode cX6_find 9 = .ok (.if_icmp .ge 12, 3) := by decide +kernel
theorem dX6_find_12 : decode cX6_find 12 = .ok (.aload_n 0, 1) := by decide +kernel
theorem dX6_find_13 : decode cX6_find 13 = .ok (.getfield 11, 3) := by decide +kernel
theorem dX6_find_16 : decode cX6_find 16 = .ok (.iload_n 1, 1) := by decide +kernel
theorem dX6_find_17 : decode cX6_find 17 = .ok (.aaload, 1) := by decide +kernel
theorem dX6_find_18 : decode cX6_find 18 = .ok (.goto 4, 3) := by decide +kernel
theorem dX6_find_21 : decode cX6_find 21 = .ok (.aconst_null, 1) := by decide +kernel
theorem dX6_find_22 : decode cX6_find 22 = .ok (.areturn, 1) := by decide +kernel
theorem dX6_keep_0 : decode cX6_keep 0 = .ok (.aload_n 0, 1) := by decide +kernel
theorem dX6_keep_1 : decode cX6_keep 1 = .ok (.getfield 15, 3) := by decide +kernel
theorem dX6_keep_4 : decode cX6_keep 4 = .ok (.bipush 12, 2) := by decide +kernel
theorem dX6_keep_6 : decode cX6_keep 6 = .ok (.if_icmp .lt 6, 3) := by decide +kernel
theorem dX6_keep_9 : decode cX6_keep 9 = .ok (.bipush (-5), 2) := by decide +kernel
theorem dX6_keep_11 : decode cX6_keep 11 = .ok (.ireturn, 1) := by decide +kernel
theorem dX6_keep_12 : decode cX6_keep 12 = .ok (.aload_n 0, 1) := by decide +kernel
theorem dX6_keep_13 : decode cX6_keep 13 = .ok (.getfield 11, 3) := by decide +kernel
theorem dX6_keep_16 : decode cX6_keep 16 = .ok (.aload_n 0, 1) := by decide +kernel
theorem dX6_keep_17 : decode cX6_keep 17 = .ok (.getfield 15, 3) := by decide +kernel
theorem dX6_keep_20 : decode cX6_keep 20 = .ok (.new 9, 3) := by decide +kernel
theorem dX6_keep_23 : decode cX6_keep 23 = .ok (.dup, 1) := by decide +kernel
theorem dX6_keep_24 : decode cX6_keep 24 = .ok (.aload_n 0, 1) := by decide +kernel
theorem dX6_keep_25 : decode cX6_keep 25 = .ok (.getfield 15, 3) := by decide +kernel
theorem dX6_keep_28 : decode cX6_keep 28 = .ok (.iload_n 1, 1) := by decide +kernel
theorem dX6_keep_29 : decode cX6_keep 29 = .ok (.iload_n 2, 1) := by decide +kernel
theorem dX6_keep_30 : decode cX6_keep 30 = .ok (.aload_n 3, 1) := by decide +kernel
theorem dX6_keep_31 : decode cX6_keep 31 = .ok (.invokespecial 156, 3) := by decide +kernel
theorem dX6_keep_34 : decode cX6_keep 34 = .ok (.aastore, 1) := by decide +kernel
theorem dX6_keep_35 : decode cX6_keep 35 = .ok (.aload_n 0, 1) := by decide +kernel
theorem dX6_keep_36 : decode cX6_keep 36 = .ok (.dup, 1) := by decide +kernel
theorem dX6_keep_37 : decode cX6_keep 37 = .ok (.getfield 15, 3) := by decide +kernel
theorem dX6_keep_40 : decode cX6_keep 40 = .ok (.iconst 1, 1) := by decide +kernel
theorem dX6_keep_41 : decode cX6_keep 41 = .ok (.iadd, 1) := by decide +kernel
theorem dX6_keep_42 : decode cX6_keep 42 = .ok (.putfield 15, 3) := by decide +kernel
theorem dX6_keep_45 : decode cX6_keep 45 = .ok (.aload_n 0, 1) := by decide +kernel
theorem dX6_keep_46 : decode cX6_keep 46 = .ok (.getfield 15, 3) := by decide +kernel
theorem dX6_keep_49 : decode cX6_keep 49 = .ok (.iconst 1, 1) := by decide +kernel
theorem dX6_keep_50 : decode cX6_keep 50 = .ok (.isub, 1) := by decide +kernel
theorem dX6_keep_51 : decode cX6_keep 51 = .ok (.ireturn, 1) := by decide +kernel
theorem dX6_named_0 : decode cX6_named 0 = .ok (.iload_n 2, 1) := by decide +kernel
theorem dX6_named_1 : decode cX6_named 1 = .ok (.tableswitch 60 1 8 #[47, 47, 47, 60, 60, 60, 54, 54], 47) := by decide +kernel
theorem dX6_named_48 : decode cX6_named 48 = .ok (.aload_n 0, 1) := by decide +kernel
theorem dX6_named_49 : decode cX6_named 49 = .ok (.iload 4, 2) := by decide +kernel
theorem dX6_named_51 : decode cX6_named 51 = .ok (.invokevirtual 33, 3) := by decide +kernel
theorem dX6_named_54 : decode cX6_named 54 = .ok (.areturn, 1) := by decide +kernel
theorem dX6_named_55 : decode cX6_named 55 = .ok (.aload_n 0, 1) := by decide +kernel
theorem dX6_named_56 : decode cX6_named 56 = .ok (.iload_n 3, 1) := by decide +kernel
theorem dX6_named_57 : decode cX6_named 57 = .ok (.invokevirtual 33, 3) := by decide +kernel
theorem dX6_named_60 : decode cX6_named 60 = .ok (.areturn, 1) := by decide +kernel
theorem dX6_named_61 : decode cX6_named 61 = .ok (.aload_n 1, 1) := by decide +kernel
theorem dX6_named_62 : decode cX6_named 62 = .ok (.areturn, 1) := by decide +kernel
end
section
theorem dX7_init_0 : decode cX7_init 0 = .ok (.aload_n 0, 1) := by decide +kernel
theorem dX7_init_1 : decode cX7_init 1 = .ok (.invokespecial 1, 3) := by decide +kernel
theorem dX7_init_4 : decode cX7_init 4 = .ok (.aload_n 0, 1) := by decide +kernel
theorem dX7_init_5 : decode cX7_init 5 = .ok (.bipush 12, 2) := by decide +kernel
theorem dX7_init_7 : decode cX7_init 7 = .ok (.newarray .boolean, 2) := by decide +kernel
theorem dX7_init_9 : decode cX7_init 9 = .ok (.putfield 7, 3) := by decide +kernel
theorem dX7_init_12 : decode cX7_init 12 = .ok (.aload_n 0, 1) := by decide +kernel
theorem dX7_init_13 : decode cX7_init 13 = .ok (.bipush 12, 2) := by decide +kernel
theorem dX7_init_15 : decode cX7_init 15 = .ok (.newarray .boolean, 2) := by decide +kernel
theorem dX7_init_17 : decode cX7_init 17 = .ok (.putfield 13, 3) := by decide +kernel
theorem dX7_init_20 : decode cX7_init 20 = .ok (.aload_n 0, 1) := by decide +kernel
theorem dX7_init_21 : decode cX7_init 21 = .ok (.bipush 12, 2) := by decide +kernel
theorem dX7_init_23 : decode cX7_init 23 = .ok (.newarray .int, 2) := by decide +kernel
theorem dX7_init_25 : decode cX7_init 25 = .ok (.putfield 16, 3) := by decide +kernel
theorem dX7_init_28 : decode cX7_init 28 = .ok (.aload_n 0, 1) := by decide +kernel
theorem dX7_init_29 : decode cX7_init 29 = .ok (.bipush 12, 2) := by decide +kernel
theorem dX7_init_31 : decode cX7_init 31 = .ok (.newarray .int, 2) := by decide +kernel
theorem dX7_init_33 : decode cX7_init 33 = .ok (.putfield 20, 3) := by decide +kernel
theorem dX7_init_36 : decode cX7_init 36 = .ok (.aload_n 0, 1) := by decide +kernel
theorem dX7_init_37 : decode cX7_init 37 = .ok (.bipush 36, 2) := by decide +kernel
theorem dX7_init_39 : decode cX7_init 39 = .ok (.newarray .int, 2) := by decide +kernel
theorem dX7_init_41 : decode cX7_init 41 = .ok (.putfield 23, 3) := by decide +kernel
theorem dX7_init_44 : decode cX7_init 44 = .ok (.aload_n 0, 1) := by decide +kernel
theorem dX7_init_45 : decode cX7_init 45 = .ok (.bipush 48, 2) := by decide +kernel
theorem dX7_init_47 : decode cX7_init 47 = .ok (.newarray .int, 2) := by decide +kernel
theorem dX7_init_49 : decode cX7_init 49 = .ok (.putfield 26, 3) := by decide +kernel
theorem dX7_init_52 : decode cX7_init 52 = .ok (.aload_n 0, 1) := by decide +kernel
theorem dX7_init_53 : decode cX7_init 53 = .ok (.bipush 48, 2) := by decide +kernel
theorem dX7_init_55 : decode cX7_init 55 = .ok (.newarray .boolean, 2) := by decide +kernel
theorem dX7_init_57 : decode cX7_init 57 = .ok (.putfield 29, 3) := by decide +kernel
theorem dX7_init_60 : decode cX7_init 60 = .ok (.aload_n 0, 1) := by decide +kernel
theorem dX7_init_61 : decode cX7_init 61 = .ok (.bipush 12, 2) := by decide +kernel
theorem dX7_init_63 : decode cX7_init 63 = .ok (.newarray .int, 2) := by decide +kernel
theorem dX7_init_65 : decode cX7_init 65 = .ok (.putfield 32, 3) := by decide +kernel
theorem dX7_init_68 : decode cX7_init 68 = .ok (.aload_n 0, 1) := by decide +kernel
theorem dX7_init_69 : decode cX7_init 69 = .ok (.sipush 240, 3) := by decide +kernel
theorem dX7_init_72 : decode cX7_init 72 = .ok (.newarray .int, 2) := by decide +kernel
theorem dX7_init_74 : decode cX7_init 74 = .ok (.putfield 35, 3) := by decide +kernel
theorem dX7_init_77 : decode cX7_init 77 = .ok (.aload_n 0, 1) := by decide +kernel
theorem dX7_init_78 : decode cX7_init 78 = .ok (.bipush 48, 2) := by decide +kernel
theorem dX7_init_80 : decode cX7_init 80 = .ok (.newarray .int, 2) := by decide +kernel
theorem dX7_init_82 : decode cX7_init 82 = .ok (.putfield 38, 3) := by decide +kernel
theorem dX7_init_85 : decode cX7_init 85 = .ok (.aload_n 0, 1) := by decide +kernel
theorem dX7_init_86 : decode cX7_init 86 = .ok (.sipush 1920, 3) := by decide +kernel
theorem dX7_init_89 : decode cX7_init 89 = .ok (.newarray .int, 2) := by decide +kernel
theorem dX7_init_91 : decode cX7_init 91 = .ok (.putfield 41, 3) := by decide +kernel
theorem dX7_init_94 : decode cX7_init 94 = .ok (.aload_n 0, 1) := by decide +kernel
theorem dX7_init_95 : decode cX7_init 95 = .ok (.bipush 12, 2) := by decide +kernel
theorem dX7_init_97 : decode cX7_init 97 = .ok (.newarray .int, 2) := by decide +kernel
theorem dX7_init_99 : decode cX7_init 99 = .ok (.putfield 44, 3) := by decide +kernel
theorem dX7_init_102 : decode cX7_init 102 = .ok (.aload_n 0, 1) := by decide +kernel
theorem dX7_init_103 : decode cX7_init 103 = .ok (.bipush 60, 2) := by decide +kernel
theorem dX7_init_105 : decode cX7_init 105 = .ok (.newarray .int, 2) := by decide +kernel
theorem dX7_init_107 : decode cX7_init 107 = .ok (.putfield 47, 3) := by decide +kernel
theorem dX7_init_110 : decode cX7_init 110 = .ok (.aload_n 0, 1) := by decide +kernel
theorem dX7_init_111 : decode cX7_init 111 = .ok (.bipush 60, 2) := by decide +kernel
theorem dX7_init_113 : decode cX7_init 113 = .ok (.newarray .int, 2) := by decide +kernel
theorem dX7_init_115 : decode cX7_init 115 = .ok (.putfield 50, 3) := by decide +kernel
theorem dX7_init_118 : decode cX7_init 118 = .ok (.aload_n 0, 1) := by decide +kernel
theorem dX7_init_119 : decode cX7_init 119 = .ok (.iconst (-1), 1) := by decide +kernel
theorem dX7_init_120 : decode cX7_init 120 = .ok (.putfield 53, 3) := by decide +kernel
theorem dX7_init_123 : decode cX7_init 123 = .ok (.aload_n 0, 1) := by decide +kernel
theorem dX7_init_124 : decode cX7_init 124 = .ok (.sipush 300, 3) := by decide +kernel
theorem dX7_init_127 : decode cX7_init 127 = .ok (.newarray .int, 2) := by decide +kernel
theorem dX7_init_129 : decode cX7_init 129 = .ok (.putfield 57, 3) := by decide +kernel
theorem dX7_init_132 : decode cX7_init 132 = .ok (.aload_n 0, 1) := by decide +kernel
theorem dX7_init_133 : decode cX7_init 133 = .ok (.sipush 300, 3) := by decide +kernel
theorem dX7_init_136 : decode cX7_init 136 = .ok (.newarray .int, 2) := by decide +kernel
theorem dX7_init_138 : decode cX7_init 138 = .ok (.putfield 60, 3) := by decide +kernel
theorem dX7_init_141 : decode cX7_init 141 = .ok (.aload_n 0, 1) := by decide +kernel
theorem dX7_init_142 : decode cX7_init 142 = .ok (.sipush 300, 3) := by decide +kernel
theorem dX7_init_145 : decode cX7_init 145 = .ok (.newarray .int, 2) := by decide +kernel
theorem dX7_init_147 : decode cX7_init 147 = .ok (.putfield 63, 3) := by decide +kernel
theorem dX7_init_150 : decode cX7_init 150 = .ok (.aload_n 0, 1) := by decide +kernel
theorem dX7_init_151 : decode cX7_init 151 = .ok (.sipush 300, 3) := by decide +kernel
theorem dX7_init_154 : decode cX7_init 154 = .ok (.newarray .int, 2) := by decide +kernel
theorem dX7_init_156 : decode cX7_init 156 = .ok (.putfield 66, 3) := by decide +kernel
theorem dX7_init_159 : decode cX7_init 159 = .ok (.aload_n 0, 1) := by decide +kernel
theorem dX7_init_160 : decode cX7_init 160 = .ok (.sipush 300, 3) := by decide +kernel
theorem dX7_init_163 : decode cX7_init 163 = .ok (.newarray .int, 2) := by decide +kernel
theorem dX7_init_165 : decode cX7_init 165 = .ok (.putfield 69, 3) := by decide +kernel
theorem dX7_init_168 : decode cX7_init 168 = .ok (.aload_n 0, 1) := by decide +kernel
theorem dX7_init_169 : decode cX7_init 169 = .ok (.sipush 300, 3) := by decide +kernel
theorem dX7_init_172 : decode cX7_init 172 = .ok (.newarray .int, 2) := by decide +kernel
theorem dX7_init_174 : decode cX7_init 174 = .ok (.putfield 72, 3) := by decide +kernel
theorem dX7_init_177 : decode cX7_init 177 = .ok (.aload_n 0, 1) := by decide +kernel
theorem dX7_init_178 : decode cX7_init 178 = .ok (.sipush 3000, 3) := by decide +kernel
theorem dX7_init_181 : decode cX7_init 181 = .ok (.newarray .int, 2) := by decide +kernel
theorem dX7_init_183 : decode cX7_init 183 = .ok (.putfield 75, 3) := by decide +kernel
theorem dX7_init_186 : decode cX7_init 186 = .ok (.aload_n 0, 1) := by decide +kernel
theorem dX7_init_187 : decode cX7_init 187 = .ok (.sipush 3000, 3) := by decide +kernel
theorem dX7_init_190 : decode cX7_init 190 = .ok (.newarray .int, 2) := by decide +kernel
theorem dX7_init_192 : decode cX7_init 192 = .ok (.putfield 78, 3) := by decide +kernel
theorem dX7_init_195 : decode cX7_init 195 = .ok (.aload_n 0, 1) := by decide +kernel
theorem dX7_init_196 : decode cX7_init 196 = .ok (.bipush 48, 2) := by decide +kernel
theorem dX7_init_198 : decode cX7_init 198 = .ok (.newarray .boolean, 2) := by decide +kernel
theorem dX7_init_200 : decode cX7_init 200 = .ok (.putfield 81, 3) := by decide +kernel
theorem dX7_init_203 : decode cX7_init 203 = .ok (.return_, 1) := by decide +kernel
theorem dX7_has_0 : decode cX7_has 0 = .ok (.iload_n 1, 1) := by decide +kernel
theorem dX7_has_1 : decode cX7_has 1 = .ok (.ifCond .lt 15, 3) := by decide +kernel
theorem dX7_has_4 : decode cX7_has 4 = .ok (.iload_n 1, 1) := by decide +kernel
theorem dX7_has_5 : decode cX7_has 5 = .ok (.aload_n 0, 1) := by decide +kernel
theorem dX7_has_6 : decode cX7_has 6 = .ok (.getfield 84, 3) := by decide +kernel
theorem dX7_has_9 : decode cX7_has 9 = .ok (.if_icmp .ge 7, 3) := by decide +kernel
theorem dX7_has_12 : decode cX7_has 12 = .ok (.iconst 1, 1) := by decide +kernel
theorem dX7_has_13 : decode cX7_has 13 = .ok (.goto 4, 3) := by decide +kernel
theorem dX7_has_16 : decode cX7_has 16 = .ok (.iconst 0, 1) := by decide +kernel
theorem dX7_has_17 : decode cX7_has 17 = .ok (.ireturn, 1) := by decide +kernel
theorem dX7_make_0 : decode cX7_make 0 = .ok (.aload_n 0, 1) := by decide +kernel
theorem dX7_make_1 : decode cX7_make 1 = .ok (.getfield 84, 3) := by decide +kernel
theorem dX7_make_4 : decode cX7_make 4 = .ok (.bipush 12, 2) := by decide +kernel
theorem dX7_make_6 : decode cX7_make 6 = .ok (.if_icmp .ne 6, 3) := by decide +kernel
theorem dX7_make_9 : decode cX7_make 9 = .ok (.bipush (-5), 2) := by decide +kernel
theorem dX7_make_11 : decode cX7_make 11 = .ok (.ireturn, 1) := by decide +kernel
theorem dX7_make_12 : decode cX7_make 12 = .ok (.aload_n 0, 1) := by decide +kernel
theorem dX7_make_13 : decode cX7_make 13 = .ok (.getfield 7, 3) := by decide +kernel
theorem dX7_make_16 : decode cX7_make 16 = .ok (.aload_n 0, 1) := by decide +kernel
theorem dX7_make_17 : decode cX7_make 17 = .ok (.getfield 84, 3) := by decide +kernel
theorem dX7_make_20 : decode cX7_make 20 = .ok (.iload_n 1, 1) := by decide +kernel
theorem dX7_make_21 : decode cX7_make 21 = .ok (.bastore, 1) := by decide +kernel
theorem dX7_make_22 : decode cX7_make 22 = .ok (.aload_n 0, 1) := by decide +kernel
theorem dX7_make_23 : decode cX7_make 23 = .ok (.getfield 13, 3) := by decide +kernel
theorem dX7_make_26 : decode cX7_make 26 = .ok (.aload_n 0, 1) := by decide +kernel
theorem dX7_make_27 : decode cX7_make 27 = .ok (.getfield 84, 3) := by decide +kernel
theorem dX7_make_30 : decode cX7_make 30 = .ok (.iload_n 2, 1) := by decide +kernel
theorem dX7_make_31 : decode cX7_make 31 = .ok (.bastore, 1) := by decide +kernel
theorem dX7_make_32 : decode cX7_make 32 = .ok (.aload_n 0, 1) := by decide +kernel
theorem dX7_make_33 : decode cX7_make 33 = .ok (.getfield 16, 3) := by decide +kernel
theorem dX7_make_36 : decode cX7_make 36 = .ok (.aload_n 0, 1) := by decide +kernel
theorem dX7_make_37 : decode cX7_make 37 = .ok (.getfield 84, 3) := by decide +kernel
theorem dX7_make_40 : decode cX7_make 40 = .ok (.iload_n 3, 1) := by decide +kernel
theorem dX7_make_41 : decode cX7_make 41 = .ok (.iastore, 1) := by decide +kernel
theorem dX7_make_42 : decode cX7_make 42 = .ok (.aload_n 0, 1) := by decide +kernel
theorem dX7_make_43 : decode cX7_make 43 = .ok (.dup, 1) := by decide +kernel
theorem dX7_make_44 : decode cX7_make 44 = .ok (.getfield 84, 3) := by decide +kernel
theorem dX7_make_47 : decode cX7_make 47 = .ok (.iconst 1, 1) := by decide +kernel
theorem dX7_make_48 : decode cX7_make 48 = .ok (.iadd, 1) := by decide +kernel
theorem dX7_make_49 : decode cX7_make 49 = .ok (.putfield 84, 3) := by decide +kernel
theorem dX7_make_52 : decode cX7_make 52 = .ok (.aload_n 0, 1) := by decide +kernel
theorem dX7_make_53 : decode cX7_make 53 = .ok (.getfield 84, 3) := by decide +kernel
theorem dX7_make_56 : decode cX7_make 56 = .ok (.iconst 1, 1) := by decide +kernel
theorem dX7_make_57 : decode cX7_make 57 = .ok (.isub, 1) := by decide +kernel
theorem dX7_make_58 : decode cX7_make 58 = .ok (.ireturn, 1) := by decide +kernel
theorem dX7_made_0 : decode cX7_made 0 = .ok (.iload_n 1, 1) := by decide +kernel
theorem dX7_made_1 : decode cX7_made 1 = .ok (.iconst (-1), 1) := by decide +kernel
theorem dX7_made_2 : decode cX7_made 2 = .ok (.if_icmp .eq 14, 3) := by decide +kernel
theorem dX7_made_5 : decode cX7_made 5 = .ok (.aload_n 0, 1) := by decide +kernel
theorem dX7_made_6 : decode cX7_made 6 = .ok (.iload_n 1, 1) := by decide +kernel
theorem dX7_made_7 : decode cX7_made 7 = .ok (.invokevirtual 87, 3) := by decide +kernel
theorem dX7_made_10 : decode cX7_made 10 = .ok (.ifCond .ne 6, 3) := by decide +kernel
theorem dX7_made_13 : decode cX7_made 13 = .ok (.bipush (-2), 2) := by decide +kernel
theorem dX7_made_15 : decode cX7_made 15 = .ok (.ireturn, 1) := by decide +kernel
theorem dX7_made_16 : decode cX7_made 16 = .ok (.iload_n 1, 1) := by decide +kernel
theorem dX7_made_17 : decode cX7_made 17 = .ok (.iconst (-1), 1) := by decide +kernel
theorem dX7_made_18 : decode cX7_made 18 = .ok (.if_icmp .eq 15, 3) := by decide +kernel
theorem dX7_made_21 : decode cX7_made 21 = .ok (.aload_n 0, 1) := by decide +kernel
theorem dX7_made_22 : decode cX7_made 22 = .ok (.getfield 7, 3) := by decide +kernel
theorem dX7_made_25 : decode cX7_made 25 = .ok (.iload_n 1, 1) := by decide +kernel
theorem dX7_made_26 : decode cX7_made 26 = .ok (.baload, 1) := by decide +kernel
theorem dX7_made_27 : decode cX7_made 27 = .ok (.ifCond .eq 6, 3) := by decide +kernel
theorem dX7_made_30 : decode cX7_made 30 = .ok (.bipush (-4), 2) := by decide +kernel
theorem dX7_made_32 : decode cX7_made 32 = .ok (.ireturn, 1) := by decide +kernel
theorem dX7_made_33 : decode cX7_made 33 = .ok (.aload_n 0, 1) := by decide +kernel
theorem dX7_made_34 : decode cX7_made 34 = .ok (.iconst 0, 1) := by decide +kernel
theorem dX7_made_35 : decode cX7_made 35 = .ok (.iconst 0, 1) := by decide +kernel
theorem dX7_made_36 : decode cX7_made 36 = .ok (.iload_n 1, 1) := by decide +kernel
theorem dX7_made_37 : decode cX7_made 37 = .ok (.invokevirtual 91, 3) := by decide +kernel
theorem dX7_made_40 : decode cX7_made 40 = .ok (.ireturn, 1) := by decide +kernel
theorem dX7_face_0 : decode cX7_face 0 = .ok (.aload_n 0, 1) := by decide +kernel
theorem dX7_face_1 : decode cX7_face 1 = .ok (.iconst 1, 1) := by decide +kernel
theorem dX7_face_2 : decode cX7_face 2 = .ok (.iload_n 1, 1) := by decide +kernel
theorem dX7_face_3 : decode cX7_face 3 = .ok (.iconst (-1), 1) := by decide +kernel
theorem dX7_face_4 : decode cX7_face 4 = .ok (.invokevirtual 91, 3) := by decide +kernel
theorem dX7_face_7 : decode cX7_face 7 = .ok (.ireturn, 1) := by decide +kernel
theorem dX7_bears_0 : decode cX7_bears 0 = .ok (.aload_n 0, 1) := by decide +kernel
theorem dX7_bears_1 : decode cX7_bears 1 = .ok (.iload_n 1, 1) := by decide +kernel
theorem dX7_bears_2 : decode cX7_bears 2 = .ok (.invokevirtual 87, 3) := by decide +kernel
theorem dX7_bears_5 : decode cX7_bears 5 = .ok (.ifCond .eq 11, 3) := by decide +kernel
theorem dX7_bears_8 : decode cX7_bears 8 = .ok (.aload_n 0, 1) := by decide +kernel
theorem dX7_bears_9 : decode cX7_bears 9 = .ok (.iload_n 2, 1) := by decide +kernel
theorem dX7_bears_10 : decode cX7_bears 10 = .ok (.invokevirtual 87, 3) := by decide +kernel
theorem dX7_bears_13 : decode cX7_bears 13 = .ok (.ifCond .ne 6, 3) := by decide +kernel
theorem dX7_bears_16 : decode cX7_bears 16 = .ok (.bipush (-2), 2) := by decide +kernel
theorem dX7_bears_18 : decode cX7_bears 18 = .ok (.ireturn, 1) := by decide +kernel
theorem dX7_bears_19 : decode cX7_bears 19 = .ok (.iconst 0, 1) := by decide +kernel
theorem dX7_bears_20 : decode cX7_bears 20 = .ok (.istore_n 3, 1) := by decide +kernel
theorem dX7_bears_21 : decode cX7_bears 21 = .ok (.iconst 0, 1) := by decide +kernel
theorem dX7_bears_22 : decode cX7_bears 22 = .ok (.istore 4, 2) := by decide +kernel
theorem dX7_bears_24 : decode cX7_bears 24 = .ok (.iload 4, 2) := by decide +kernel
theorem dX7_bears_26 : decode cX7_bears 26 = .ok (.aload_n 0, 1) := by decide +kernel
theorem dX7_bears_27 : decode cX7_bears 27 = .ok (.getfield 20, 3) := by decide +kernel
theorem dX7_bears_30 : decode cX7_bears 30 = .ok (.iload_n 1, 1) := by decide +kernel
theorem dX7_bears_31 : decode cX7_bears 31 = .ok (.iaload, 1) := by decide +kernel
theorem dX7_bears_32 : decode cX7_bears 32 = .ok (.if_icmp .ge 34, 3) := by decide +kernel
theorem dX7_bears_35 : decode cX7_bears 35 = .ok (.iload_n 3, 1) := by decide +kernel
theorem dX7_bears_36 : decode cX7_bears 36 = .ok (.ifCond .ne 18, 3) := by decide +kernel
theorem dX7_bears_39 : decode cX7_bears 39 = .ok (.aload_n 0, 1) := by decide +kernel
theorem dX7_bears_40 : decode cX7_bears 40 = .ok (.getfield 23, 3) := by decide +kernel
theorem dX7_bears_43 : decode cX7_bears 43 = .ok (.iconst 3, 1) := by decide +kernel
theorem dX7_bears_44 : decode cX7_bears 44 = .ok (.iload_n 1, 1) := by decide +kernel
theorem dX7_bears_45 : decode cX7_bears 45 = .ok (.imul, 1) := by decide +kernel
theorem dX7_bears_46 : decode cX7_bears 46 = .ok (.iload 4, 2) := by decide +kernel
theorem dX7_bears_48 : decode cX7_bears 48 = .ok (.iadd, 1) := by decide +kernel
theorem dX7_bears_49 : decode cX7_bears 49 = .ok (.iaload, 1) := by decide +kernel
theorem dX7_bears_50 : decode cX7_bears 50 = .ok (.iload_n 2, 1) := by decide +kernel
theorem dX7_bears_51 : decode cX7_bears 51 = .ok (.if_icmp .ne 7, 3) := by decide +kernel
theorem dX7_bears_54 : decode cX7_bears 54 = .ok (.iconst 1, 1) := by decide +kernel
theorem dX7_bears_55 : decode cX7_bears 55 = .ok (.goto 4, 3) := by decide +kernel
theorem dX7_bears_58 : decode cX7_bears 58 = .ok (.iconst 0, 1) := by decide +kernel
theorem dX7_bears_59 : decode cX7_bears 59 = .ok (.istore_n 3, 1) := by decide +kernel
theorem dX7_bears_60 : decode cX7_bears 60 = .ok (.iinc 4 1, 3) := by decide +kernel
theorem dX7_bears_63 : decode cX7_bears 63 = .ok (.goto (-39), 3) := by decide +kernel
theorem dX7_bears_66 : decode cX7_bears 66 = .ok (.aload_n 0, 1) := by decide +kernel
theorem dX7_bears_67 : decode cX7_bears 67 = .ok (.getfield 7, 3) := by decide +kernel
theorem dX7_bears_70 : decode cX7_bears 70 = .ok (.iload_n 2, 1) := by decide +kernel
theorem dX7_bears_71 : decode cX7_bears 71 = .ok (.baload, 1) := by decide +kernel
theorem dX7_bears_72 : decode cX7_bears 72 = .ok (.ifCond .eq 21, 3) := by decide +kernel
theorem dX7_bears_75 : decode cX7_bears 75 = .ok (.iload_n 2, 1) := by decide +kernel
theorem dX7_bears_76 : decode cX7_bears 76 = .ok (.iload_n 1, 1) := by decide +kernel
theorem dX7_bears_77 : decode cX7_bears 77 = .ok (.if_icmp .ge 16, 3) := by decide +kernel
theorem dX7_bears_80 : decode cX7_bears 80 = .ok (.iload_n 3, 1) := by decide +kernel
theorem dX7_bears_81 : decode cX7_bears 81 = .ok (.ifCond .ne 12, 3) := by decide +kernel
theorem dX7_bears_84 : decode cX7_bears 84 = .ok (.aload_n 0, 1) := by decide +kernel
theorem dX7_bears_85 : decode cX7_bears 85 = .ok (.getfield 44, 3) := by decide +kernel
theorem dX7_bears_88 : decode cX7_bears 88 = .ok (.iload_n 1, 1) := by decide +kernel
theorem dX7_bears_89 : decode cX7_bears 89 = .ok (.iaload, 1) := by decide +kernel
theorem dX7_bears_90 : decode cX7_bears 90 = .ok (.ifCond .eq 6, 3) := by decide +kernel
theorem dX7_bears_93 : decode cX7_bears 93 = .ok (.bipush (-4), 2) := by decide +kernel
theorem dX7_bears_95 : decode cX7_bears 95 = .ok (.ireturn, 1) := by decide +kernel
theorem dX7_bears_96 : decode cX7_bears 96 = .ok (.aload_n 0, 1) := by decide +kernel
theorem dX7_bears_97 : decode cX7_bears 97 = .ok (.getfield 20, 3) := by decide +kernel
theorem dX7_bears_100 : decode cX7_bears 100 = .ok (.iload_n 1, 1) := by decide +kernel
theorem dX7_bears_101 : decode cX7_bears 101 = .ok (.iaload, 1) := by decide +kernel
theorem dX7_bears_102 : decode cX7_bears 102 = .ok (.iconst 3, 1) := by decide +kernel
theorem dX7_bears_103 : decode cX7_bears 103 = .ok (.if_icmp .ne 6, 3) := by decide +kernel
theorem dX7_bears_106 : decode cX7_bears 106 = .ok (.bipush (-5), 2) := by decide +kernel
theorem dX7_bears_108 : decode cX7_bears 108 = .ok (.ireturn, 1) := by decide +kernel
theorem dX7_bears_109 : decode cX7_bears 109 = .ok (.aload_n 0, 1) := by decide +kernel
theorem dX7_bears_110 : decode cX7_bears 110 = .ok (.getfield 23, 3) := by decide +kernel
theorem dX7_bears_113 : decode cX7_bears 113 = .ok (.iconst 3, 1) := by decide +kernel
theorem dX7_bears_114 : decode cX7_bears 114 = .ok (.iload_n 1, 1) := by decide +kernel
theorem dX7_bears_115 : decode cX7_bears 115 = .ok (.imul, 1) := by decide +kernel
theorem dX7_bears_116 : decode cX7_bears 116 = .ok (.aload_n 0, 1) := by decide +kernel
theorem dX7_bears_117 : decode cX7_bears 117 = .ok (.getfield 20, 3) := by decide +kernel
theorem dX7_bears_120 : decode cX7_bears 120 = .ok (.iload_n 1, 1) := by decide +kernel
theorem dX7_bears_121 : decode cX7_bears 121 = .ok (.iaload, 1) := by decide +kernel
theorem dX7_bears_122 : decode cX7_bears 122 = .ok (.iadd, 1) := by decide +kernel
theorem dX7_bears_123 : decode cX7_bears 123 = .ok (.iload_n 2, 1) := by decide +kernel
theorem dX7_bears_124 : decode cX7_bears 124 = .ok (.iastore, 1) := by decide +kernel
theorem dX7_bears_125 : decode cX7_bears 125 = .ok (.aload_n 0, 1) := by decide +kernel
theorem dX7_bears_126 : decode cX7_bears 126 = .ok (.getfield 20, 3) := by decide +kernel
theorem dX7_bears_129 : decode cX7_bears 129 = .ok (.iload_n 1, 1) := by decide +kernel
theorem dX7_bears_130 : decode cX7_bears 130 = .ok (.dup2, 1) := by decide +kernel
theorem dX7_bears_131 : decode cX7_bears 131 = .ok (.iaload, 1) := by decide +kernel
theorem dX7_bears_132 : decode cX7_bears 132 = .ok (.iconst 1, 1) := by decide +kernel
theorem dX7_bears_133 : decode cX7_bears 133 = .ok (.iadd, 1) := by decide +kernel
theorem dX7_bears_134 : decode cX7_bears 134 = .ok (.iastore, 1) := by decide +kernel
theorem dX7_bears_135 : decode cX7_bears 135 = .ok (.aload_n 0, 1) := by decide +kernel
theorem dX7_bears_136 : decode cX7_bears 136 = .ok (.getfield 20, 3) := by decide +kernel
theorem dX7_bears_139 : decode cX7_bears 139 = .ok (.iload_n 1, 1) := by decide +kernel
theorem dX7_bears_140 : decode cX7_bears 140 = .ok (.iaload, 1) := by decide +kernel
theorem dX7_bears_141 : decode cX7_bears 141 = .ok (.ireturn, 1) := by decide +kernel
theorem dX7_isField_0 : decode cX7_isField 0 = .ok (.iload_n 0, 1) := by decide +kernel
theorem dX7_isField_1 : decode cX7_isField 1 = .ok (.ifCond .lt 12, 3) := by decide +kernel
theorem dX7_isField_4 : decode cX7_isField 4 = .ok (.iload_n 0, 1) := by decide +kernel
theorem dX7_isField_5 : decode cX7_isField 5 = .ok (.iconst 4, 1) := by decide +kernel
theorem dX7_isField_6 : decode cX7_isField 6 = .ok (.if_icmp .ge 7, 3) := by decide +kernel
theorem dX7_isField_9 : decode cX7_isField 9 = .ok (.iconst 1, 1) := by decide +kernel
theorem dX7_isField_10 : decode cX7_isField 10 = .ok (.goto 4, 3) := by decide +kernel
theorem dX7_isField_13 : decode cX7_isField 13 = .ok (.iconst 0, 1) := by decide +kernel
theorem dX7_isField_14 : decode cX7_isField 14 = .ok (.ireturn, 1) := by decide +kernel
theorem dX7_constant_0 : decode cX7_constant 0 = .ok (.aload_n 0, 1) := by decide +kernel
theorem dX7_constant_1 : decode cX7_constant 1 = .ok (.iload_n 1, 1) := by decide +kernel
theorem dX7_constant_2 : decode cX7_constant 2 = .ok (.invokevirtual 87, 3) := by decide +kernel
theorem dX7_constant_5 : decode cX7_constant 5 = .ok (.ifCond .ne 6, 3) := by decide +kernel
theorem dX7_constant_8 : decode cX7_constant 8 = .ok (.bipush (-2), 2) := by decide +kernel
theorem dX7_constant_10 : decode cX7_constant 10 = .ok (.ireturn, 1) := by decide +kernel
theorem dX7_constant_11 : decode cX7_constant 11 = .ok (.iload_n 2, 1) := by decide +kernel
theorem dX7_constant_12 : decode cX7_constant 12 = .ok (.invokestatic 95, 3) := by decide +kernel
theorem dX7_constant_15 : decode cX7_constant 15 = .ok (.ifCond .ne 6, 3) := by decide +kernel
theorem dX7_constant_18 : decode cX7_constant 18 = .ok (.bipush (-3), 2) := by decide +kernel
theorem dX7_constant_20 : decode cX7_constant 20 = .ok (.ireturn, 1) := by decide +kernel
theorem dX7_constant_21 : decode cX7_constant 21 = .ok (.aload_n 0, 1) := by decide +kernel
theorem dX7_constant_22 : decode cX7_constant 22 = .ok (.getfield 29, 3) := by decide +kernel
theorem dX7_constant_25 : decode cX7_constant 25 = .ok (.iconst 4, 1) := by decide +kernel
theorem dX7_constant_26 : decode cX7_constant 26 = .ok (.iload_n 1, 1) := by decide +kernel
theorem dX7_constant_27 : decode cX7_constant 27 = .ok (.imul, 1) := by decide +kernel
theorem dX7_constant_28 : decode cX7_constant 28 = .ok (.iload_n 2, 1) := by decide +kernel
theorem dX7_constant_29 : decode cX7_constant 29 = .ok (.iadd, 1) := by decide +kernel
theorem dX7_constant_30 : decode cX7_constant 30 = .ok (.baload, 1) := by decide +kernel
theorem dX7_constant_31 : decode cX7_constant 31 = .ok (.ifCond .ne 12, 3) := by decide +kernel
theorem dX7_constant_34 : decode cX7_constant 34 = .ok (.aload_n 0, 1) := by decide +kernel
theorem dX7_constant_35 : decode cX7_constant 35 = .ok (.getfield 44, 3) := by decide +kernel
theorem dX7_constant_38 : decode cX7_constant 38 = .ok (.iload_n 1, 1) := by decide +kernel
theorem dX7_constant_39 : decode cX7_constant 39 = .ok (.iaload, 1) := by decide +kernel
theorem dX7_constant_40 : decode cX7_constant 40 = .ok (.ifCond .eq 6, 3) := by decide +kernel
theorem dX7_constant_43 : decode cX7_constant 43 = .ok (.bipush (-4), 2) := by decide +kernel
theorem dX7_constant_45 : decode cX7_constant 45 = .ok (.ireturn, 1) := by decide +kernel
theorem dX7_constant_46 : decode cX7_constant 46 = .ok (.aload_n 0, 1) := by decide +kernel
theorem dX7_constant_47 : decode cX7_constant 47 = .ok (.getfield 29, 3) := by decide +kernel
theorem dX7_constant_50 : decode cX7_constant 50 = .ok (.iconst 4, 1) := by decide +kernel
theorem dX7_constant_51 : decode cX7_constant 51 = .ok (.iload_n 1, 1) := by decide +kernel
theorem dX7_constant_52 : decode cX7_constant 52 = .ok (.imul, 1) := by decide +kernel
theorem dX7_constant_53 : decode cX7_constant 53 = .ok (.iload_n 2, 1) := by decide +kernel
theorem dX7_constant_54 : decode cX7_constant 54 = .ok (.iadd, 1) := by decide +kernel
theorem dX7_constant_55 : decode cX7_constant 55 = .ok (.iconst 1, 1) := by decide +kernel
theorem dX7_constant_56 : decode cX7_constant 56 = .ok (.bastore, 1) := by decide +kernel
theorem dX7_constant_57 : decode cX7_constant 57 = .ok (.aload_n 0, 1) := by decide +kernel
theorem dX7_constant_58 : decode cX7_constant 58 = .ok (.getfield 26, 3) := by decide +kernel
theorem dX7_constant_61 : decode cX7_constant 61 = .ok (.iconst 4, 1) := by decide +kernel
theorem dX7_constant_62 : decode cX7_constant 62 = .ok (.iload_n 1, 1) := by decide +kernel
theorem dX7_constant_63 : decode cX7_constant 63 = .ok (.imul, 1) := by decide +kernel
theorem dX7_constant_64 : decode cX7_constant 64 = .ok (.iload_n 2, 1) := by decide +kernel
theorem dX7_constant_65 : decode cX7_constant 65 = .ok (.iadd, 1) := by decide +kernel
theorem dX7_constant_66 : decode cX7_constant 66 = .ok (.iload_n 3, 1) := by decide +kernel
theorem dX7_constant_67 : decode cX7_constant 67 = .ok (.iastore, 1) := by decide +kernel
theorem dX7_constant_68 : decode cX7_constant 68 = .ok (.iconst 1, 1) := by decide +kernel
theorem dX7_constant_69 : decode cX7_constant 69 = .ok (.ireturn, 1) := by decide +kernel
theorem dX7_areIn_0 : decode cX7_areIn 0 = .ok (.iload_n 0, 1) := by decide +kernel
theorem dX7_areIn_1 : decode cX7_areIn 1 = .ok (.tableswitch 167 0 11 #[63, 68, 68, 68, 63, 88, 88, 108, 167, 124, 167, 139], 63) := by decide +kernel
theorem dX7_areIn_64 : decode cX7_areIn 64 = .ok (.iload_n 1, 1) := by decide +kernel
theorem dX7_areIn_65 : decode cX7_areIn 65 = .ok (.invokestatic 95, 3) := by decide +kernel
theorem dX7_areIn_68 : decode cX7_areIn 68 = .ok (.ireturn, 1) := by decide +kernel
theorem dX7_areIn_69 : decode cX7_areIn 69 = .ok (.iload_n 1, 1) := by decide +kernel
theorem dX7_areIn_70 : decode cX7_areIn 70 = .ok (.invokestatic 95, 3) := by decide +kernel
theorem dX7_areIn_73 : decode cX7_areIn 73 = .ok (.ifCond .eq 14, 3) := by decide +kernel
theorem dX7_areIn_76 : decode cX7_areIn 76 = .ok (.iload_n 3, 1) := by decide +kernel
theorem dX7_areIn_77 : decode cX7_areIn 77 = .ok (.invokestatic 95, 3) := by decide +kernel
theorem dX7_areIn_80 : decode cX7_areIn 80 = .ok (.ifCond .eq 7, 3) := by decide +kernel
theorem dX7_areIn_83 : decode cX7_areIn 83 = .ok (.iconst 1, 1) := by decide +kernel
theorem dX7_areIn_84 : decode cX7_areIn 84 = .ok (.goto 4, 3) := by decide +kernel
theorem dX7_areIn_87 : decode cX7_areIn 87 = .ok (.iconst 0, 1) := by decide +kernel
theorem dX7_areIn_88 : decode cX7_areIn 88 = .ok (.ireturn, 1) := by decide +kernel
theorem dX7_areIn_89 : decode cX7_areIn 89 = .ok (.iload_n 1, 1) := by decide +kernel
theorem dX7_areIn_90 : decode cX7_areIn 90 = .ok (.invokestatic 95, 3) := by decide +kernel
theorem dX7_areIn_93 : decode cX7_areIn 93 = .ok (.ifCond .eq 14, 3) := by decide +kernel
theorem dX7_areIn_96 : decode cX7_areIn 96 = .ok (.iload_n 2, 1) := by decide +kernel
theorem dX7_areIn_97 : decode cX7_areIn 97 = .ok (.invokestatic 95, 3) := by decide +kernel
theorem dX7_areIn_100 : decode cX7_areIn 100 = .ok (.ifCond .eq 7, 3) := by decide +kernel
theorem dX7_areIn_103 : decode cX7_areIn 103 = .ok (.iconst 1, 1) := by decide +kernel
theorem dX7_areIn_104 : decode cX7_areIn 104 = .ok (.goto 4, 3) := by decide +kernel
theorem dX7_areIn_107 : decode cX7_areIn 107 = .ok (.iconst 0, 1) := by decide +kernel
theorem dX7_areIn_108 : decode cX7_areIn 108 = .ok (.ireturn, 1) := by decide +kernel
theorem dX7_areIn_109 : decode cX7_areIn 109 = .ok (.iload_n 2, 1) := by decide +kernel
theorem dX7_areIn_110 : decode cX7_areIn 110 = .ok (.iconst 1, 1) := by decide +kernel
theorem dX7_areIn_111 : decode cX7_areIn 111 = .ok (.if_icmp .lt 12, 3) := by decide +kernel
theorem dX7_areIn_114 : decode cX7_areIn 114 = .ok (.iload_n 2, 1) := by decide +kernel
theorem dX7_areIn_115 : decode cX7_areIn 115 = .ok (.iconst 3, 1) := by decide +kernel
theorem dX7_areIn_116 : decode cX7_areIn 116 = .ok (.if_icmp .gt 7, 3) := by decide +kernel
theorem dX7_areIn_119 : decode cX7_areIn 119 = .ok (.iconst 1, 1) := by decide +kernel
theorem dX7_areIn_120 : decode cX7_areIn 120 = .ok (.goto 4, 3) := by decide +kernel
theorem dX7_areIn_123 : decode cX7_areIn 123 = .ok (.iconst 0, 1) := by decide +kernel
theorem dX7_areIn_124 : decode cX7_areIn 124 = .ok (.ireturn, 1) := by decide +kernel
theorem dX7_areIn_125 : decode cX7_areIn 125 = .ok (.iload_n 1, 1) := by decide +kernel
theorem dX7_areIn_126 : decode cX7_areIn 126 = .ok (.ifCond .lt 12, 3) := by decide +kernel
theorem dX7_areIn_129 : decode cX7_areIn 129 = .ok (.iload_n 1, 1) := by decide +kernel
theorem dX7_areIn_130 : decode cX7_areIn 130 = .ok (.iconst 2, 1) := by decide +kernel
theorem dX7_areIn_131 : decode cX7_areIn 131 = .ok (.if_icmp .gt 7, 3) := by decide +kernel
theorem dX7_areIn_134 : decode cX7_areIn 134 = .ok (.iconst 1, 1) := by decide +kernel
theorem dX7_areIn_135 : decode cX7_areIn 135 = .ok (.goto 4, 3) := by decide +kernel
theorem dX7_areIn_138 : decode cX7_areIn 138 = .ok (.iconst 0, 1) := by decide +kernel
theorem dX7_areIn_139 : decode cX7_areIn 139 = .ok (.ireturn, 1) := by decide +kernel
theorem dX7_areIn_140 : decode cX7_areIn 140 = .ok (.iload_n 1, 1) := by decide +kernel
theorem dX7_areIn_141 : decode cX7_areIn 141 = .ok (.iconst 1, 1) := by decide +kernel
theorem dX7_areIn_142 : decode cX7_areIn 142 = .ok (.if_icmp .lt 24, 3) := by decide +kernel
theorem dX7_areIn_145 : decode cX7_areIn 145 = .ok (.iload_n 1, 1) := by decide +kernel
theorem dX7_areIn_146 : decode cX7_areIn 146 = .ok (.bipush 9, 2) := by decide +kernel
theorem dX7_areIn_148 : decode cX7_areIn 148 = .ok (.if_icmp .gt 18, 3) := by decide +kernel
theorem dX7_areIn_151 : decode cX7_areIn 151 = .ok (.iload_n 2, 1) := by decide +kernel
theorem dX7_areIn_152 : decode cX7_areIn 152 = .ok (.iconst (-1), 1) := by decide +kernel
theorem dX7_areIn_153 : decode cX7_areIn 153 = .ok (.if_icmp .lt 13, 3) := by decide +kernel
theorem dX7_areIn_156 : decode cX7_areIn 156 = .ok (.iload_n 2, 1) := by decide +kernel
theorem dX7_areIn_157 : decode cX7_areIn 157 = .ok (.bipush 9, 2) := by decide +kernel
theorem dX7_areIn_159 : decode cX7_areIn 159 = .ok (.if_icmp .gt 7, 3) := by decide +kernel
theorem dX7_areIn_162 : decode cX7_areIn 162 = .ok (.iconst 1, 1) := by decide +kernel
theorem dX7_areIn_163 : decode cX7_areIn 163 = .ok (.goto 4, 3) := by decide +kernel
theorem dX7_areIn_166 : decode cX7_areIn 166 = .ok (.iconst 0, 1) := by decide +kernel
theorem dX7_areIn_167 : decode cX7_areIn 167 = .ok (.ireturn, 1) := by decide +kernel
theorem dX7_areIn_168 : decode cX7_areIn 168 = .ok (.iconst 1, 1) := by decide +kernel
theorem dX7_areIn_169 : decode cX7_areIn 169 = .ok (.ireturn, 1) := by decide +kernel
theorem dX7_act_0 : decode cX7_act 0 = .ok (.iload_n 3, 1) := by decide +kernel
theorem dX7_act_1 : decode cX7_act 1 = .ok (.iconst 1, 1) := by decide +kernel
theorem dX7_act_2 : decode cX7_act 2 = .ok (.if_icmp .lt 17, 3) := by decide +kernel
theorem dX7_act_5 : decode cX7_act 5 = .ok (.iload_n 3, 1) := by decide +kernel
theorem dX7_act_6 : decode cX7_act 6 = .ok (.iconst 3, 1) := by decide +kernel
theorem dX7_act_7 : decode cX7_act 7 = .ok (.if_icmp .gt 12, 3) := by decide +kernel
theorem dX7_act_10 : decode cX7_act 10 = .ok (.aload_n 0, 1) := by decide +kernel
theorem dX7_act_11 : decode cX7_act 11 = .ok (.iload 5, 2) := by decide +kernel
theorem dX7_act_13 : decode cX7_act 13 = .ok (.invokevirtual 87, 3) := by decide +kernel
theorem dX7_act_16 : decode cX7_act 16 = .ok (.ifCond .eq 24, 3) := by decide +kernel
theorem dX7_act_19 : decode cX7_act 19 = .ok (.iload_n 3, 1) := by decide +kernel
theorem dX7_act_20 : decode cX7_act 20 = .ok (.bipush 7, 2) := by decide +kernel
theorem dX7_act_22 : decode cX7_act 22 = .ok (.if_icmp .eq 9, 3) := by decide +kernel
theorem dX7_act_25 : decode cX7_act 25 = .ok (.iload_n 3, 1) := by decide +kernel
theorem dX7_act_26 : decode cX7_act 26 = .ok (.bipush 8, 2) := by decide +kernel
theorem dX7_act_28 : decode cX7_act 28 = .ok (.if_icmp .ne 16, 3) := by decide +kernel
theorem dX7_act_31 : decode cX7_act 31 = .ok (.aload_n 0, 1) := by decide +kernel
theorem dX7_act_32 : decode cX7_act 32 = .ok (.iload 4, 2) := by decide +kernel
theorem dX7_act_34 : decode cX7_act 34 = .ok (.invokevirtual 87, 3) := by decide +kernel
theorem dX7_act_37 : decode cX7_act 37 = .ok (.ifCond .ne 7, 3) := by decide +kernel
theorem dX7_act_40 : decode cX7_act 40 = .ok (.iconst 1, 1) := by decide +kernel
theorem dX7_act_41 : decode cX7_act 41 = .ok (.goto 4, 3) := by decide +kernel
theorem dX7_act_44 : decode cX7_act 44 = .ok (.iconst 0, 1) := by decide +kernel
theorem dX7_act_45 : decode cX7_act 45 = .ok (.istore 7, 2) := by decide +kernel
theorem dX7_act_47 : decode cX7_act 47 = .ok (.aload_n 0, 1) := by decide +kernel
theorem dX7_act_48 : decode cX7_act 48 = .ok (.iload_n 1, 1) := by decide +kernel
theorem dX7_act_49 : decode cX7_act 49 = .ok (.invokevirtual 87, 3) := by decide +kernel
theorem dX7_act_52 : decode cX7_act 52 = .ok (.ifCond .eq 8, 3) := by decide +kernel
theorem dX7_act_55 : decode cX7_act 55 = .ok (.iload 7, 2) := by decide +kernel
theorem dX7_act_57 : decode cX7_act 57 = .ok (.ifCond .eq 6, 3) := by decide +kernel
theorem dX7_act_60 : decode cX7_act 60 = .ok (.bipush (-2), 2) := by decide +kernel
theorem dX7_act_62 : decode cX7_act 62 = .ok (.ireturn, 1) := by decide +kernel
theorem dX7_act_63 : decode cX7_act 63 = .ok (.iload_n 2, 1) := by decide +kernel
theorem dX7_act_64 : decode cX7_act 64 = .ok (.ifCond .lt 31, 3) := by decide +kernel
theorem dX7_act_67 : decode cX7_act 67 = .ok (.iload_n 2, 1) := by decide +kernel
theorem dX7_act_68 : decode cX7_act 68 = .ok (.iconst 3, 1) := by decide +kernel
theorem dX7_act_69 : decode cX7_act 69 = .ok (.if_icmp .gt 26, 3) := by decide +kernel
theorem dX7_act_72 : decode cX7_act 72 = .ok (.iload_n 3, 1) := by decide +kernel
theorem dX7_act_73 : decode cX7_act 73 = .ok (.ifCond .lt 22, 3) := by decide +kernel
theorem dX7_act_76 : decode cX7_act 76 = .ok (.iload_n 3, 1) := by decide +kernel
theorem dX7_act_77 : decode cX7_act 77 = .ok (.bipush 12, 2) := by decide +kernel
theorem dX7_act_79 : decode cX7_act 79 = .ok (.if_icmp .gt 16, 3) := by decide +kernel
theorem dX7_act_82 : decode cX7_act 82 = .ok (.iload_n 3, 1) := by decide +kernel
theorem dX7_act_83 : decode cX7_act 83 = .ok (.iload 4, 2) := by decide +kernel
theorem dX7_act_85 : decode cX7_act 85 = .ok (.iload 5, 2) := by decide +kernel
theorem dX7_act_87 : decode cX7_act 87 = .ok (.iload 6, 2) := by decide +kernel
theorem dX7_act_89 : decode cX7_act 89 = .ok (.invokestatic 98, 3) := by decide +kernel
theorem dX7_act_92 : decode cX7_act 92 = .ok (.ifCond .ne 6, 3) := by decide +kernel
theorem dX7_act_95 : decode cX7_act 95 = .ok (.bipush (-3), 2) := by decide +kernel
theorem dX7_act_97 : decode cX7_act 97 = .ok (.ireturn, 1) := by decide +kernel
theorem dX7_act_98 : decode cX7_act 98 = .ok (.iload_n 3, 1) := by decide +kernel
theorem dX7_act_99 : decode cX7_act 99 = .ok (.bipush 8, 2) := by decide +kernel
theorem dX7_act_101 : decode cX7_act 101 = .ok (.if_icmp .ne 13, 3) := by decide +kernel
theorem dX7_act_104 : decode cX7_act 104 = .ok (.aload_n 0, 1) := by decide +kernel
theorem dX7_act_105 : decode cX7_act 105 = .ok (.getfield 7, 3) := by decide +kernel
theorem dX7_act_108 : decode cX7_act 108 = .ok (.iload 4, 2) := by decide +kernel
theorem dX7_act_110 : decode cX7_act 110 = .ok (.baload, 1) := by decide +kernel
theorem dX7_act_111 : decode cX7_act 111 = .ok (.ifCond .ne 12, 3) := by decide +kernel
theorem dX7_act_114 : decode cX7_act 114 = .ok (.aload_n 0, 1) := by decide +kernel
theorem dX7_act_115 : decode cX7_act 115 = .ok (.getfield 44, 3) := by decide +kernel
theorem dX7_act_118 : decode cX7_act 118 = .ok (.iload_n 1, 1) := by decide +kernel
theorem dX7_act_119 : decode cX7_act 119 = .ok (.iaload, 1) := by decide +kernel
theorem dX7_act_120 : decode cX7_act 120 = .ok (.ifCond .eq 6, 3) := by decide +kernel
theorem dX7_act_123 : decode cX7_act 123 = .ok (.bipush (-4), 2) := by decide +kernel
theorem dX7_act_125 : decode cX7_act 125 = .ok (.ireturn, 1) := by decide +kernel
theorem dX7_act_126 : decode cX7_act 126 = .ok (.iconst 4, 1) := by decide +kernel
theorem dX7_act_127 : decode cX7_act 127 = .ok (.iload_n 1, 1) := by decide +kernel
theorem dX7_act_128 : decode cX7_act 128 = .ok (.imul, 1) := by decide +kernel
theorem dX7_act_129 : decode cX7_act 129 = .ok (.iload_n 2, 1) := by decide +kernel
theorem dX7_act_130 : decode cX7_act 130 = .ok (.iadd, 1) := by decide +kernel
theorem dX7_act_131 : decode cX7_act 131 = .ok (.istore 8, 2) := by decide +kernel
theorem dX7_act_133 : decode cX7_act 133 = .ok (.aload_n 0, 1) := by decide +kernel
theorem dX7_act_134 : decode cX7_act 134 = .ok (.getfield 38, 3) := by decide +kernel
theorem dX7_act_137 : decode cX7_act 137 = .ok (.iload 8, 2) := by decide +kernel
theorem dX7_act_139 : decode cX7_act 139 = .ok (.iaload, 1) := by decide +kernel
theorem dX7_act_140 : decode cX7_act 140 = .ok (.bipush 10, 2) := by decide +kernel
theorem dX7_act_142 : decode cX7_act 142 = .ok (.if_icmp .ne 6, 3) := by decide +kernel
theorem dX7_act_145 : decode cX7_act 145 = .ok (.bipush (-5), 2) := by decide +kernel
theorem dX7_act_147 : decode cX7_act 147 = .ok (.ireturn, 1) := by decide +kernel
theorem dX7_act_148 : decode cX7_act 148 = .ok (.bipush 40, 2) := by decide +kernel
theorem dX7_act_150 : decode cX7_act 150 = .ok (.iload 8, 2) := by decide +kernel
theorem dX7_act_152 : decode cX7_act 152 = .ok (.imul, 1) := by decide +kernel
theorem dX7_act_153 : decode cX7_act 153 = .ok (.iconst 4, 1) := by decide +kernel
theorem dX7_act_154 : decode cX7_act 154 = .ok (.aload_n 0, 1) := by decide +kernel
theorem dX7_act_155 : decode cX7_act 155 = .ok (.getfield 38, 3) := by decide +kernel
theorem dX7_act_158 : decode cX7_act 158 = .ok (.iload 8, 2) := by decide +kernel
theorem dX7_act_160 : decode cX7_act 160 = .ok (.iaload, 1) := by decide +kernel
theorem dX7_act_161 : decode cX7_act 161 = .ok (.imul, 1) := by decide +kernel
theorem dX7_act_162 : decode cX7_act 162 = .ok (.iadd, 1) := by decide +kernel
theorem dX7_act_163 : decode cX7_act 163 = .ok (.istore 9, 2) := by decide +kernel
theorem dX7_act_165 : decode cX7_act 165 = .ok (.aload_n 0, 1) := by decide +kernel
theorem dX7_act_166 : decode cX7_act 166 = .ok (.getfield 41, 3) := by decide +kernel
theorem dX7_act_169 : decode cX7_act 169 = .ok (.iload 9, 2) := by decide +kernel
theorem dX7_act_171 : decode cX7_act 171 = .ok (.iload_n 3, 1) := by decide +kernel
theorem dX7_act_172 : decode cX7_act 172 = .ok (.iastore, 1) := by decide +kernel
theorem dX7_act_173 : decode cX7_act 173 = .ok (.aload_n 0, 1) := by decide +kernel
theorem dX7_act_174 : decode cX7_act 174 = .ok (.getfield 41, 3) := by decide +kernel
theorem dX7_act_177 : decode cX7_act 177 = .ok (.iload 9, 2) := by decide +kernel
theorem dX7_act_179 : decode cX7_act 179 = .ok (.iconst 1, 1) := by decide +kernel
theorem dX7_act_180 : decode cX7_act 180 = .ok (.iadd, 1) := by decide +kernel
theorem dX7_act_181 : decode cX7_act 181 = .ok (.iload 4, 2) := by decide +kernel
theorem dX7_act_183 : decode cX7_act 183 = .ok (.iastore, 1) := by decide +kernel
theorem dX7_act_184 : decode cX7_act 184 = .ok (.aload_n 0, 1) := by decide +kernel
theorem dX7_act_185 : decode cX7_act 185 = .ok (.getfield 41, 3) := by decide +kernel
theorem dX7_act_188 : decode cX7_act 188 = .ok (.iload 9, 2) := by decide +kernel
theorem dX7_act_190 : decode cX7_act 190 = .ok (.iconst 2, 1) := by decide +kernel
theorem dX7_act_191 : decode cX7_act 191 = .ok (.iadd, 1) := by decide +kernel
theorem dX7_act_192 : decode cX7_act 192 = .ok (.iload 5, 2) := by decide +kernel
theorem dX7_act_194 : decode cX7_act 194 = .ok (.iastore, 1) := by decide +kernel
theorem dX7_act_195 : decode cX7_act 195 = .ok (.aload_n 0, 1) := by decide +kernel
theorem dX7_act_196 : decode cX7_act 196 = .ok (.getfield 41, 3) := by decide +kernel
theorem dX7_act_199 : decode cX7_act 199 = .ok (.iload 9, 2) := by decide +kernel
theorem dX7_act_201 : decode cX7_act 201 = .ok (.iconst 3, 1) := by decide +kernel
theorem dX7_act_202 : decode cX7_act 202 = .ok (.iadd, 1) := by decide +kernel
theorem dX7_act_203 : decode cX7_act 203 = .ok (.iload 6, 2) := by decide +kernel
theorem dX7_act_205 : decode cX7_act 205 = .ok (.iastore, 1) := by decide +kernel
theorem dX7_act_206 : decode cX7_act 206 = .ok (.aload_n 0, 1) := by decide +kernel
theorem dX7_act_207 : decode cX7_act 207 = .ok (.getfield 38, 3) := by decide +kernel
theorem dX7_act_210 : decode cX7_act 210 = .ok (.iload 8, 2) := by decide +kernel
theorem dX7_act_212 : decode cX7_act 212 = .ok (.dup2, 1) := by decide +kernel
theorem dX7_act_213 : decode cX7_act 213 = .ok (.iaload, 1) := by decide +kernel
theorem dX7_act_214 : decode cX7_act 214 = .ok (.iconst 1, 1) := by decide +kernel
theorem dX7_act_215 : decode cX7_act 215 = .ok (.iadd, 1) := by decide +kernel
theorem dX7_act_216 : decode cX7_act 216 = .ok (.iastore, 1) := by decide +kernel
theorem dX7_act_217 : decode cX7_act 217 = .ok (.aload_n 0, 1) := by decide +kernel
theorem dX7_act_218 : decode cX7_act 218 = .ok (.getfield 38, 3) := by decide +kernel
theorem dX7_act_221 : decode cX7_act 221 = .ok (.iload 8, 2) := by decide +kernel
theorem dX7_act_223 : decode cX7_act 223 = .ok (.iaload, 1) := by decide +kernel
theorem dX7_act_224 : decode cX7_act 224 = .ok (.ireturn, 1) := by decide +kernel
theorem dX7_tell_0 : decode cX7_tell 0 = .ok (.aload_n 0, 1) := by decide +kernel
theorem dX7_tell_1 : decode cX7_tell 1 = .ok (.getfield 102, 3) := by decide +kernel
theorem dX7_tell_4 : decode cX7_tell 4 = .ok (.bipush 60, 2) := by decide +kernel
theorem dX7_tell_6 : decode cX7_tell 6 = .ok (.if_icmp .ge 33, 3) := by decide +kernel
theorem dX7_tell_9 : decode cX7_tell 9 = .ok (.aload_n 0, 1) := by decide +kernel
theorem dX7_tell_10 : decode cX7_tell 10 = .ok (.getfield 47, 3) := by decide +kernel
theorem dX7_tell_13 : decode cX7_tell 13 = .ok (.aload_n 0, 1) := by decide +kernel
theorem dX7_tell_14 : decode cX7_tell 14 = .ok (.getfield 102, 3) := by decide +kernel
theorem dX7_tell_17 : decode cX7_tell 17 = .ok (.iload_n 1, 1) := by decide +kernel
theorem dX7_tell_18 : decode cX7_tell 18 = .ok (.iastore, 1) := by decide +kernel
theorem dX7_tell_19 : decode cX7_tell 19 = .ok (.aload_n 0, 1) := by decide +kernel
theorem dX7_tell_20 : decode cX7_tell 20 = .ok (.getfield 50, 3) := by decide +kernel
theorem dX7_tell_23 : decode cX7_tell 23 = .ok (.aload_n 0, 1) := by decide +kernel
theorem dX7_tell_24 : decode cX7_tell 24 = .ok (.getfield 102, 3) := by decide +kernel
theorem dX7_tell_27 : decode cX7_tell 27 = .ok (.iload_n 2, 1) := by decide +kernel
theorem dX7_tell_28 : decode cX7_tell 28 = .ok (.iastore, 1) := by decide +kernel
theorem dX7_tell_29 : decode cX7_tell 29 = .ok (.aload_n 0, 1) := by decide +kernel
theorem dX7_tell_30 : decode cX7_tell 30 = .ok (.dup, 1) := by decide +kernel
theorem dX7_tell_31 : decode cX7_tell 31 = .ok (.getfield 102, 3) := by decide +kernel
theorem dX7_tell_34 : decode cX7_tell 34 = .ok (.iconst 1, 1) := by decide +kernel
theorem dX7_tell_35 : decode cX7_tell 35 = .ok (.iadd, 1) := by decide +kernel
theorem dX7_tell_36 : decode cX7_tell 36 = .ok (.putfield 102, 3) := by decide +kernel
theorem dX7_tell_39 : decode cX7_tell 39 = .ok (.return_, 1) := by decide +kernel
theorem dX7_arise_0 : decode cX7_arise 0 = .ok (.aload_n 0, 1) := by decide +kernel
theorem dX7_arise_1 : decode cX7_arise 1 = .ok (.dup, 1) := by decide +kernel
theorem dX7_arise_2 : decode cX7_arise 2 = .ok (.getfield 105, 3) := by decide +kernel
theorem dX7_arise_5 : decode cX7_arise 5 = .ok (.iload_n 1, 1) := by decide +kernel
theorem dX7_arise_6 : decode cX7_arise 6 = .ok (.bipush 10, 2) := by decide +kernel
theorem dX7_arise_8 : decode cX7_arise 8 = .ok (.if_icmp .ge 7, 3) := by decide +kernel
theorem dX7_arise_11 : decode cX7_arise 11 = .ok (.iconst 1, 1) := by decide +kernel
theorem dX7_arise_12 : decode cX7_arise 12 = .ok (.goto 4, 3) := by decide +kernel
theorem dX7_arise_15 : decode cX7_arise 15 = .ok (.iconst 0, 1) := by decide +kernel
theorem dX7_arise_16 : decode cX7_arise 16 = .ok (.iadd, 1) := by decide +kernel
theorem dX7_arise_17 : decode cX7_arise 17 = .ok (.putfield 105, 3) := by decide +kernel
theorem dX7_arise_20 : decode cX7_arise 20 = .ok (.iload_n 1, 1) := by decide +kernel
theorem dX7_arise_21 : decode cX7_arise 21 = .ok (.ireturn, 1) := by decide +kernel
theorem dX7_push_0 : decode cX7_push 0 = .ok (.aload_n 0, 1) := by decide +kernel
theorem dX7_push_1 : decode cX7_push 1 = .ok (.getfield 57, 3) := by decide +kernel
theorem dX7_push_4 : decode cX7_push 4 = .ok (.aload_n 0, 1) := by decide +kernel
theorem dX7_push_5 : decode cX7_push 5 = .ok (.getfield 108, 3) := by decide +kernel
theorem dX7_push_8 : decode cX7_push 8 = .ok (.iload_n 1, 1) := by decide +kernel
theorem dX7_push_9 : decode cX7_push 9 = .ok (.iastore, 1) := by decide +kernel
theorem dX7_push_10 : decode cX7_push 10 = .ok (.aload_n 0, 1) := by decide +kernel
theorem dX7_push_11 : decode cX7_push 11 = .ok (.getfield 60, 3) := by decide +kernel
theorem dX7_push_14 : decode cX7_push 14 = .ok (.aload_n 0, 1) := by decide +kernel
theorem dX7_push_15 : decode cX7_push 15 = .ok (.getfield 108, 3) := by decide +kernel
theorem dX7_push_18 : decode cX7_push 18 = .ok (.iload_n 2, 1) := by decide +kernel
theorem dX7_push_19 : decode cX7_push 19 = .ok (.iastore, 1) := by decide +kernel
theorem dX7_push_20 : decode cX7_push 20 = .ok (.aload_n 0, 1) := by decide +kernel
theorem dX7_push_21 : decode cX7_push 21 = .ok (.getfield 63, 3) := by decide +kernel
theorem dX7_push_24 : decode cX7_push 24 = .ok (.aload_n 0, 1) := by decide +kernel
theorem dX7_push_25 : decode cX7_push 25 = .ok (.getfield 108, 3) := by decide +kernel
theorem dX7_push_28 : decode cX7_push 28 = .ok (.iload_n 3, 1) := by decide +kernel
theorem dX7_push_29 : decode cX7_push 29 = .ok (.iastore, 1) := by decide +kernel
theorem dX7_push_30 : decode cX7_push 30 = .ok (.aload_n 0, 1) := by decide +kernel
theorem dX7_push_31 : decode cX7_push 31 = .ok (.getfield 66, 3) := by decide +kernel
theorem dX7_push_34 : decode cX7_push 34 = .ok (.aload_n 0, 1) := by decide +kernel
theorem dX7_push_35 : decode cX7_push 35 = .ok (.getfield 108, 3) := by decide +kernel
theorem dX7_push_38 : decode cX7_push 38 = .ok (.iconst 0, 1) := by decide +kernel
theorem dX7_push_39 : decode cX7_push 39 = .ok (.iastore, 1) := by decide +kernel
theorem dX7_push_40 : decode cX7_push 40 = .ok (.aload_n 0, 1) := by decide +kernel
theorem dX7_push_41 : decode cX7_push 41 = .ok (.getfield 69, 3) := by decide +kernel
theorem dX7_push_44 : decode cX7_push 44 = .ok (.aload_n 0, 1) := by decide +kernel
theorem dX7_push_45 : decode cX7_push 45 = .ok (.getfield 108, 3) := by decide +kernel
theorem dX7_push_48 : decode cX7_push 48 = .ok (.iconst 0, 1) := by decide +kernel
theorem dX7_push_49 : decode cX7_push 49 = .ok (.iastore, 1) := by decide +kernel
theorem dX7_push_50 : decode cX7_push 50 = .ok (.aload_n 0, 1) := by decide +kernel
theorem dX7_push_51 : decode cX7_push 51 = .ok (.getfield 72, 3) := by decide +kernel
theorem dX7_push_54 : decode cX7_push 54 = .ok (.aload_n 0, 1) := by decide +kernel
theorem dX7_push_55 : decode cX7_push 55 = .ok (.getfield 108, 3) := by decide +kernel
theorem dX7_push_58 : decode cX7_push 58 = .ok (.iconst 0, 1) := by decide +kernel
theorem dX7_push_59 : decode cX7_push 59 = .ok (.iastore, 1) := by decide +kernel
theorem dX7_push_60 : decode cX7_push 60 = .ok (.aload_n 0, 1) := by decide +kernel
theorem dX7_push_61 : decode cX7_push 61 = .ok (.dup, 1) := by decide +kernel
theorem dX7_push_62 : decode cX7_push 62 = .ok (.getfield 108, 3) := by decide +kernel
theorem dX7_push_65 : decode cX7_push 65 = .ok (.iconst 1, 1) := by decide +kernel
theorem dX7_push_66 : decode cX7_push 66 = .ok (.iadd, 1) := by decide +kernel
theorem dX7_push_67 : decode cX7_push 67 = .ok (.putfield 108, 3) := by decide +kernel
theorem dX7_push_70 : decode cX7_push 70 = .ok (.return_, 1) := by decide +kernel
theorem dX7_want_0 : decode cX7_want 0 = .ok (.aload_n 0, 1) := by decide +kernel
theorem dX7_want_1 : decode cX7_want 1 = .ok (.getfield 44, 3) := by decide +kernel
theorem dX7_want_4 : decode cX7_want 4 = .ok (.iload_n 1, 1) := by decide +kernel
theorem dX7_want_5 : decode cX7_want 5 = .ok (.iaload, 1) := by decide +kernel
theorem dX7_want_6 : decode cX7_want 6 = .ok (.iconst 3, 1) := by decide +kernel
theorem dX7_want_7 : decode cX7_want 7 = .ok (.if_icmp .ne 16, 3) := by decide +kernel
theorem dX7_want_10 : decode cX7_want 10 = .ok (.aload_n 0, 1) := by decide +kernel
theorem dX7_want_11 : decode cX7_want 11 = .ok (.aload_n 0, 1) := by decide +kernel
theorem dX7_want_12 : decode cX7_want 12 = .ok (.bipush 8, 2) := by decide +kernel
theorem dX7_want_14 : decode cX7_want 14 = .ok (.invokevirtual 111, 3) := by decide +kernel
theorem dX7_want_17 : decode cX7_want 17 = .ok (.putfield 115, 3) := by decide +kernel
theorem dX7_want_20 : decode cX7_want 20 = .ok (.goto 32, 3) := by decide +kernel
theorem dX7_want_23 : decode cX7_want 23 = .ok (.aload_n 0, 1) := by decide +kernel
theorem dX7_want_24 : decode cX7_want 24 = .ok (.getfield 44, 3) := by decide +kernel
theorem dX7_want_27 : decode cX7_want 27 = .ok (.iload_n 1, 1) := by decide +kernel
theorem dX7_want_28 : decode cX7_want 28 = .ok (.iaload, 1) := by decide +kernel
theorem dX7_want_29 : decode cX7_want 29 = .ok (.ifCond .ne 23, 3) := by decide +kernel
theorem dX7_want_32 : decode cX7_want 32 = .ok (.aload_n 0, 1) := by decide +kernel
theorem dX7_want_33 : decode cX7_want 33 = .ok (.getfield 44, 3) := by decide +kernel
theorem dX7_want_36 : decode cX7_want 36 = .ok (.iload_n 1, 1) := by decide +kernel
theorem dX7_want_37 : decode cX7_want 37 = .ok (.iconst 1, 1) := by decide +kernel
theorem dX7_want_38 : decode cX7_want 38 = .ok (.iastore, 1) := by decide +kernel
theorem dX7_want_39 : decode cX7_want 39 = .ok (.aload_n 0, 1) := by decide +kernel
theorem dX7_want_40 : decode cX7_want 40 = .ok (.iconst 0, 1) := by decide +kernel
theorem dX7_want_41 : decode cX7_want 41 = .ok (.iload_n 1, 1) := by decide +kernel
theorem dX7_want_42 : decode cX7_want 42 = .ok (.invokevirtual 118, 3) := by decide +kernel
theorem dX7_want_45 : decode cX7_want 45 = .ok (.aload_n 0, 1) := by decide +kernel
theorem dX7_want_46 : decode cX7_want 46 = .ok (.iconst 1, 1) := by decide +kernel
theorem dX7_want_47 : decode cX7_want 47 = .ok (.iload_n 1, 1) := by decide +kernel
theorem dX7_want_48 : decode cX7_want 48 = .ok (.iconst 0, 1) := by decide +kernel
theorem dX7_want_49 : decode cX7_want 49 = .ok (.invokevirtual 122, 3) := by decide +kernel
theorem dX7_want_52 : decode cX7_want 52 = .ok (.return_, 1) := by decide +kernel
theorem dX7_enter_0 : decode cX7_enter 0 = .ok (.aload_n 0, 1) := by decide +kernel
theorem dX7_enter_1 : decode cX7_enter 1 = .ok (.getfield 126, 3) := by decide +kernel
theorem dX7_enter_4 : decode cX7_enter 4 = .ok (.bipush 8, 2) := by decide +kernel
theorem dX7_enter_6 : decode cX7_enter 6 = .ok (.if_icmp .ne 16, 3) := by decide +kernel
theorem dX7_enter_9 : decode cX7_enter 9 = .ok (.aload_n 0, 1) := by decide +kernel
theorem dX7_enter_10 : decode cX7_enter 10 = .ok (.aload_n 0, 1) := by decide +kernel
theorem dX7_enter_11 : decode cX7_enter 11 = .ok (.bipush 9, 2) := by decide +kernel
theorem dX7_enter_13 : decode cX7_enter 13 = .ok (.invokevirtual 111, 3) := by decide +kernel
theorem dX7_enter_16 : decode cX7_enter 16 = .ok (.putfield 115, 3) := by decide +kernel
theorem dX7_enter_19 : decode cX7_enter 19 = .ok (.goto 20, 3) := by decide +kernel
theorem dX7_enter_22 : decode cX7_enter 22 = .ok (.aload_n 0, 1) := by decide +kernel
theorem dX7_enter_23 : decode cX7_enter 23 = .ok (.dup, 1) := by decide +kernel
theorem dX7_enter_24 : decode cX7_enter 24 = .ok (.getfield 126, 3) := by decide +kernel
theorem dX7_enter_27 : decode cX7_enter 27 = .ok (.iconst 1, 1) := by decide +kernel
theorem dX7_enter_28 : decode cX7_enter 28 = .ok (.iadd, 1) := by decide +kernel
theorem dX7_enter_29 : decode cX7_enter 29 = .ok (.putfield 126, 3) := by decide +kernel
theorem dX7_enter_32 : decode cX7_enter 32 = .ok (.aload_n 0, 1) := by decide +kernel
theorem dX7_enter_33 : decode cX7_enter 33 = .ok (.iconst 0, 1) := by decide +kernel
theorem dX7_enter_34 : decode cX7_enter 34 = .ok (.iload_n 1, 1) := by decide +kernel
theorem dX7_enter_35 : decode cX7_enter 35 = .ok (.iload_n 2, 1) := by decide +kernel
theorem dX7_enter_36 : decode cX7_enter 36 = .ok (.invokevirtual 122, 3) := by decide +kernel
theorem dX7_enter_39 : decode cX7_enter 39 = .ok (.return_, 1) := by decide +kernel
theorem dX7_step_0 : decode cX7_step 0 = .ok (.aload_n 0, 1) := by decide +kernel
theorem dX7_step_1 : decode cX7_step 1 = .ok (.getfield 108, 3) := by decide +kernel
theorem dX7_step_4 : decode cX7_step 4 = .ok (.iconst 1, 1) := by decide +kernel
theorem dX7_step_5 : decode cX7_step 5 = .ok (.isub, 1) := by decide +kernel
theorem dX7_step_6 : decode cX7_step 6 = .ok (.istore_n 1, 1) := by decide +kernel
theorem dX7_step_7 : decode cX7_step 7 = .ok (.aload_n 0, 1) := by decide +kernel
theorem dX7_step_8 : decode cX7_step 8 = .ok (.getfield 60, 3) := by decide +kernel
theorem dX7_step_11 : decode cX7_step 11 = .ok (.iload_n 1, 1) := by decide +kernel
theorem dX7_step_12 : decode cX7_step 12 = .ok (.iaload, 1) := by decide +kernel
theorem dX7_step_13 : decode cX7_step 13 = .ok (.istore_n 2, 1) := by decide +kernel
theorem dX7_step_14 : decode cX7_step 14 = .ok (.aload_n 0, 1) := by decide +kernel
theorem dX7_step_15 : decode cX7_step 15 = .ok (.getfield 57, 3) := by decide +kernel
theorem dX7_step_18 : decode cX7_step 18 = .ok (.iload_n 1, 1) := by decide +kernel
theorem dX7_step_19 : decode cX7_step 19 = .ok (.iaload, 1) := by decide +kernel
theorem dX7_step_20 : decode cX7_step 20 = .ok (.tableswitch 172 0 2 #[28, 36, 163], 28) := by decide +kernel
theorem dX7_step_48 : decode cX7_step 48 = .ok (.aload_n 0, 1) := by decide +kernel
theorem dX7_step_49 : decode cX7_step 49 = .ok (.iload_n 1, 1) := by decide +kernel
theorem dX7_step_50 : decode cX7_step 50 = .ok (.invokevirtual 129, 3) := by decide +kernel
theorem dX7_step_53 : decode cX7_step 53 = .ok (.goto 201, 3) := by decide +kernel
theorem dX7_step_56 : decode cX7_step 56 = .ok (.aload_n 0, 1) := by decide +kernel
theorem dX7_step_57 : decode cX7_step 57 = .ok (.getfield 69, 3) := by decide +kernel
theorem dX7_step_60 : decode cX7_step 60 = .ok (.iload_n 1, 1) := by decide +kernel
theorem dX7_step_61 : decode cX7_step 61 = .ok (.dup2, 1) := by decide +kernel
theorem dX7_step_62 : decode cX7_step 62 = .ok (.iaload, 1) := by decide +kernel
theorem dX7_step_63 : decode cX7_step 63 = .ok (.iconst 1, 1) := by decide +kernel
theorem dX7_step_64 : decode cX7_step 64 = .ok (.iadd, 1) := by decide +kernel
theorem dX7_step_65 : decode cX7_step 65 = .ok (.iastore, 1) := by decide +kernel
theorem dX7_step_66 : decode cX7_step 66 = .ok (.aload_n 0, 1) := by decide +kernel
theorem dX7_step_67 : decode cX7_step 67 = .ok (.getfield 69, 3) := by decide +kernel
theorem dX7_step_70 : decode cX7_step 70 = .ok (.iload_n 1, 1) := by decide +kernel
theorem dX7_step_71 : decode cX7_step 71 = .ok (.iaload, 1) := by decide +kernel
theorem dX7_step_72 : decode cX7_step 72 = .ok (.iconst 1, 1) := by decide +kernel
theorem dX7_step_73 : decode cX7_step 73 = .ok (.if_icmp .ne 26, 3) := by decide +kernel
theorem dX7_step_76 : decode cX7_step 76 = .ok (.aload_n 0, 1) := by decide +kernel
theorem dX7_step_77 : decode cX7_step 77 = .ok (.getfield 16, 3) := by decide +kernel
theorem dX7_step_80 : decode cX7_step 80 = .ok (.iload_n 2, 1) := by decide +kernel
theorem dX7_step_81 : decode cX7_step 81 = .ok (.iaload, 1) := by decide +kernel
theorem dX7_step_82 : decode cX7_step 82 = .ok (.iconst (-1), 1) := by decide +kernel
theorem dX7_step_83 : decode cX7_step 83 = .ok (.if_icmp .eq 16, 3) := by decide +kernel
theorem dX7_step_86 : decode cX7_step 86 = .ok (.aload_n 0, 1) := by decide +kernel
theorem dX7_step_87 : decode cX7_step 87 = .ok (.aload_n 0, 1) := by decide +kernel
theorem dX7_step_88 : decode cX7_step 88 = .ok (.getfield 16, 3) := by decide +kernel
theorem dX7_step_91 : decode cX7_step 91 = .ok (.iload_n 2, 1) := by decide +kernel
theorem dX7_step_92 : decode cX7_step 92 = .ok (.iaload, 1) := by decide +kernel
theorem dX7_step_93 : decode cX7_step 93 = .ok (.invokevirtual 133, 3) := by decide +kernel
theorem dX7_step_96 : decode cX7_step 96 = .ok (.goto 158, 3) := by decide +kernel
theorem dX7_step_99 : decode cX7_step 99 = .ok (.aload_n 0, 1) := by decide +kernel
theorem dX7_step_100 : decode cX7_step 100 = .ok (.getfield 69, 3) := by decide +kernel
theorem dX7_step_103 : decode cX7_step 103 = .ok (.iload_n 1, 1) := by decide +kernel
theorem dX7_step_104 : decode cX7_step 104 = .ok (.iaload, 1) := by decide +kernel
theorem dX7_step_105 : decode cX7_step 105 = .ok (.iconst 2, 1) := by decide +kernel
theorem dX7_step_106 : decode cX7_step 106 = .ok (.if_icmp .ne 22, 3) := by decide +kernel
theorem dX7_step_109 : decode cX7_step 109 = .ok (.aload_n 0, 1) := by decide +kernel
theorem dX7_step_110 : decode cX7_step 110 = .ok (.getfield 7, 3) := by decide +kernel
theorem dX7_step_113 : decode cX7_step 113 = .ok (.iload_n 2, 1) := by decide +kernel
theorem dX7_step_114 : decode cX7_step 114 = .ok (.baload, 1) := by decide +kernel
theorem dX7_step_115 : decode cX7_step 115 = .ok (.ifCond .ne 13, 3) := by decide +kernel
theorem dX7_step_118 : decode cX7_step 118 = .ok (.aload_n 0, 1) := by decide +kernel
end
section
theorem dX7_step_119 : decode cX7_step 119 = .ok (.iconst 2, 1) := by decide +kernel
theorem dX7_step_120 : decode cX7_step 120 = .ok (.iload_n 2, 1) := by decide +kernel
theorem dX7_step_121 : decode cX7_step 121 = .ok (.iconst 0, 1) := by decide +kernel
theorem dX7_step_122 : decode cX7_step 122 = .ok (.invokevirtual 122, 3) := by decide +kernel
theorem dX7_step_125 : decode cX7_step 125 = .ok (.goto 129, 3) := by decide +kernel
theorem dX7_step_128 : decode cX7_step 128 = .ok (.aload_n 0, 1) := by decide +kernel
theorem dX7_step_129 : decode cX7_step 129 = .ok (.getfield 69, 3) := by decide +kernel
theorem dX7_step_132 : decode cX7_step 132 = .ok (.iload_n 1, 1) := by decide +kernel
theorem dX7_step_133 : decode cX7_step 133 = .ok (.iaload, 1) := by decide +kernel
theorem dX7_step_134 : decode cX7_step 134 = .ok (.iconst 3, 1) := by decide +kernel
theorem dX7_step_135 : decode cX7_step 135 = .ok (.if_icmp .ne 12, 3) := by decide +kernel
theorem dX7_step_138 : decode cX7_step 138 = .ok (.aload_n 0, 1) := by decide +kernel
theorem dX7_step_139 : decode cX7_step 139 = .ok (.iload_n 2, 1) := by decide +kernel
theorem dX7_step_140 : decode cX7_step 140 = .ok (.iconst 0, 1) := by decide +kernel
theorem dX7_step_141 : decode cX7_step 141 = .ok (.invokevirtual 136, 3) := by decide +kernel
theorem dX7_step_144 : decode cX7_step 144 = .ok (.goto 110, 3) := by decide +kernel
theorem dX7_step_147 : decode cX7_step 147 = .ok (.aload_n 0, 1) := by decide +kernel
theorem dX7_step_148 : decode cX7_step 148 = .ok (.getfield 69, 3) := by decide +kernel
theorem dX7_step_151 : decode cX7_step 151 = .ok (.iload_n 1, 1) := by decide +kernel
theorem dX7_step_152 : decode cX7_step 152 = .ok (.iaload, 1) := by decide +kernel
theorem dX7_step_153 : decode cX7_step 153 = .ok (.iconst 4, 1) := by decide +kernel
theorem dX7_step_154 : decode cX7_step 154 = .ok (.if_icmp .ne 100, 3) := by decide +kernel
theorem dX7_step_157 : decode cX7_step 157 = .ok (.aload_n 0, 1) := by decide +kernel
theorem dX7_step_158 : decode cX7_step 158 = .ok (.getfield 44, 3) := by decide +kernel
theorem dX7_step_161 : decode cX7_step 161 = .ok (.iload_n 2, 1) := by decide +kernel
theorem dX7_step_162 : decode cX7_step 162 = .ok (.iconst 2, 1) := by decide +kernel
theorem dX7_step_163 : decode cX7_step 163 = .ok (.iastore, 1) := by decide +kernel
theorem dX7_step_164 : decode cX7_step 164 = .ok (.aload_n 0, 1) := by decide +kernel
theorem dX7_step_165 : decode cX7_step 165 = .ok (.iconst 1, 1) := by decide +kernel
theorem dX7_step_166 : decode cX7_step 166 = .ok (.iload_n 2, 1) := by decide +kernel
theorem dX7_step_167 : decode cX7_step 167 = .ok (.invokevirtual 118, 3) := by decide +kernel
theorem dX7_step_170 : decode cX7_step 170 = .ok (.aload_n 0, 1) := by decide +kernel
theorem dX7_step_171 : decode cX7_step 171 = .ok (.dup, 1) := by decide +kernel
theorem dX7_step_172 : decode cX7_step 172 = .ok (.getfield 108, 3) := by decide +kernel
theorem dX7_step_175 : decode cX7_step 175 = .ok (.iconst 1, 1) := by decide +kernel
theorem dX7_step_176 : decode cX7_step 176 = .ok (.isub, 1) := by decide +kernel
theorem dX7_step_177 : decode cX7_step 177 = .ok (.putfield 108, 3) := by decide +kernel
theorem dX7_step_180 : decode cX7_step 180 = .ok (.goto 74, 3) := by decide +kernel
theorem dX7_step_183 : decode cX7_step 183 = .ok (.aload_n 0, 1) := by decide +kernel
theorem dX7_step_184 : decode cX7_step 184 = .ok (.iload_n 1, 1) := by decide +kernel
theorem dX7_step_185 : decode cX7_step 185 = .ok (.iload_n 2, 1) := by decide +kernel
theorem dX7_step_186 : decode cX7_step 186 = .ok (.invokevirtual 139, 3) := by decide +kernel
theorem dX7_step_189 : decode cX7_step 189 = .ok (.goto 65, 3) := by decide +kernel
theorem dX7_step_192 : decode cX7_step 192 = .ok (.aload_n 0, 1) := by decide +kernel
theorem dX7_step_193 : decode cX7_step 193 = .ok (.getfield 69, 3) := by decide +kernel
theorem dX7_step_196 : decode cX7_step 196 = .ok (.iload_n 1, 1) := by decide +kernel
theorem dX7_step_197 : decode cX7_step 197 = .ok (.dup2, 1) := by decide +kernel
theorem dX7_step_198 : decode cX7_step 198 = .ok (.iaload, 1) := by decide +kernel
theorem dX7_step_199 : decode cX7_step 199 = .ok (.iconst 1, 1) := by decide +kernel
theorem dX7_step_200 : decode cX7_step 200 = .ok (.iadd, 1) := by decide +kernel
theorem dX7_step_201 : decode cX7_step 201 = .ok (.iastore, 1) := by decide +kernel
theorem dX7_step_202 : decode cX7_step 202 = .ok (.aload_n 0, 1) := by decide +kernel
theorem dX7_step_203 : decode cX7_step 203 = .ok (.getfield 69, 3) := by decide +kernel
theorem dX7_step_206 : decode cX7_step 206 = .ok (.iload_n 1, 1) := by decide +kernel
theorem dX7_step_207 : decode cX7_step 207 = .ok (.iaload, 1) := by decide +kernel
theorem dX7_step_208 : decode cX7_step 208 = .ok (.iconst 1, 1) := by decide +kernel
theorem dX7_step_209 : decode cX7_step 209 = .ok (.if_icmp .ne 11, 3) := by decide +kernel
theorem dX7_step_212 : decode cX7_step 212 = .ok (.aload_n 0, 1) := by decide +kernel
theorem dX7_step_213 : decode cX7_step 213 = .ok (.iload_n 2, 1) := by decide +kernel
theorem dX7_step_214 : decode cX7_step 214 = .ok (.invokevirtual 133, 3) := by decide +kernel
theorem dX7_step_217 : decode cX7_step 217 = .ok (.goto 37, 3) := by decide +kernel
theorem dX7_step_220 : decode cX7_step 220 = .ok (.aload_n 0, 1) := by decide +kernel
theorem dX7_step_221 : decode cX7_step 221 = .ok (.getfield 69, 3) := by decide +kernel
theorem dX7_step_224 : decode cX7_step 224 = .ok (.iload_n 1, 1) := by decide +kernel
theorem dX7_step_225 : decode cX7_step 225 = .ok (.iaload, 1) := by decide +kernel
theorem dX7_step_226 : decode cX7_step 226 = .ok (.iconst 2, 1) := by decide +kernel
theorem dX7_step_227 : decode cX7_step 227 = .ok (.if_icmp .ne 17, 3) := by decide +kernel
theorem dX7_step_230 : decode cX7_step 230 = .ok (.aload_n 0, 1) := by decide +kernel
theorem dX7_step_231 : decode cX7_step 231 = .ok (.iload_n 2, 1) := by decide +kernel
theorem dX7_step_232 : decode cX7_step 232 = .ok (.aload_n 0, 1) := by decide +kernel
theorem dX7_step_233 : decode cX7_step 233 = .ok (.getfield 63, 3) := by decide +kernel
theorem dX7_step_236 : decode cX7_step 236 = .ok (.iload_n 1, 1) := by decide +kernel
theorem dX7_step_237 : decode cX7_step 237 = .ok (.iaload, 1) := by decide +kernel
theorem dX7_step_238 : decode cX7_step 238 = .ok (.invokevirtual 136, 3) := by decide +kernel
theorem dX7_step_241 : decode cX7_step 241 = .ok (.goto 13, 3) := by decide +kernel
theorem dX7_step_244 : decode cX7_step 244 = .ok (.aload_n 0, 1) := by decide +kernel
theorem dX7_step_245 : decode cX7_step 245 = .ok (.dup, 1) := by decide +kernel
theorem dX7_step_246 : decode cX7_step 246 = .ok (.getfield 108, 3) := by decide +kernel
theorem dX7_step_249 : decode cX7_step 249 = .ok (.iconst 1, 1) := by decide +kernel
theorem dX7_step_250 : decode cX7_step 250 = .ok (.isub, 1) := by decide +kernel
theorem dX7_step_251 : decode cX7_step 251 = .ok (.putfield 108, 3) := by decide +kernel
theorem dX7_step_254 : decode cX7_step 254 = .ok (.return_, 1) := by decide +kernel
theorem dX7_look_0 : decode cX7_look 0 = .ok (.aload_n 0, 1) := by decide +kernel
theorem dX7_look_1 : decode cX7_look 1 = .ok (.getfield 63, 3) := by decide +kernel
theorem dX7_look_4 : decode cX7_look 4 = .ok (.iload_n 1, 1) := by decide +kernel
theorem dX7_look_5 : decode cX7_look 5 = .ok (.iaload, 1) := by decide +kernel
theorem dX7_look_6 : decode cX7_look 6 = .ok (.aload_n 0, 1) := by decide +kernel
theorem dX7_look_7 : decode cX7_look 7 = .ok (.getfield 20, 3) := by decide +kernel
theorem dX7_look_10 : decode cX7_look 10 = .ok (.iload_n 2, 1) := by decide +kernel
theorem dX7_look_11 : decode cX7_look 11 = .ok (.iaload, 1) := by decide +kernel
theorem dX7_look_12 : decode cX7_look 12 = .ok (.if_icmp .ne 14, 3) := by decide +kernel
theorem dX7_look_15 : decode cX7_look 15 = .ok (.aload_n 0, 1) := by decide +kernel
theorem dX7_look_16 : decode cX7_look 16 = .ok (.dup, 1) := by decide +kernel
theorem dX7_look_17 : decode cX7_look 17 = .ok (.getfield 108, 3) := by decide +kernel
theorem dX7_look_20 : decode cX7_look 20 = .ok (.iconst 1, 1) := by decide +kernel
theorem dX7_look_21 : decode cX7_look 21 = .ok (.isub, 1) := by decide +kernel
theorem dX7_look_22 : decode cX7_look 22 = .ok (.putfield 108, 3) := by decide +kernel
theorem dX7_look_25 : decode cX7_look 25 = .ok (.return_, 1) := by decide +kernel
theorem dX7_look_26 : decode cX7_look 26 = .ok (.aload_n 0, 1) := by decide +kernel
theorem dX7_look_27 : decode cX7_look 27 = .ok (.getfield 23, 3) := by decide +kernel
theorem dX7_look_30 : decode cX7_look 30 = .ok (.iconst 3, 1) := by decide +kernel
theorem dX7_look_31 : decode cX7_look 31 = .ok (.iload_n 2, 1) := by decide +kernel
theorem dX7_look_32 : decode cX7_look 32 = .ok (.imul, 1) := by decide +kernel
theorem dX7_look_33 : decode cX7_look 33 = .ok (.aload_n 0, 1) := by decide +kernel
theorem dX7_look_34 : decode cX7_look 34 = .ok (.getfield 63, 3) := by decide +kernel
theorem dX7_look_37 : decode cX7_look 37 = .ok (.iload_n 1, 1) := by decide +kernel
theorem dX7_look_38 : decode cX7_look 38 = .ok (.iaload, 1) := by decide +kernel
theorem dX7_look_39 : decode cX7_look 39 = .ok (.iadd, 1) := by decide +kernel
theorem dX7_look_40 : decode cX7_look 40 = .ok (.iaload, 1) := by decide +kernel
theorem dX7_look_41 : decode cX7_look 41 = .ok (.istore_n 3, 1) := by decide +kernel
theorem dX7_look_42 : decode cX7_look 42 = .ok (.aload_n 0, 1) := by decide +kernel
theorem dX7_look_43 : decode cX7_look 43 = .ok (.getfield 69, 3) := by decide +kernel
theorem dX7_look_46 : decode cX7_look 46 = .ok (.iload_n 1, 1) := by decide +kernel
theorem dX7_look_47 : decode cX7_look 47 = .ok (.dup2, 1) := by decide +kernel
theorem dX7_look_48 : decode cX7_look 48 = .ok (.iaload, 1) := by decide +kernel
theorem dX7_look_49 : decode cX7_look 49 = .ok (.iconst 1, 1) := by decide +kernel
theorem dX7_look_50 : decode cX7_look 50 = .ok (.iadd, 1) := by decide +kernel
theorem dX7_look_51 : decode cX7_look 51 = .ok (.iastore, 1) := by decide +kernel
theorem dX7_look_52 : decode cX7_look 52 = .ok (.aload_n 0, 1) := by decide +kernel
theorem dX7_look_53 : decode cX7_look 53 = .ok (.getfield 69, 3) := by decide +kernel
theorem dX7_look_56 : decode cX7_look 56 = .ok (.iload_n 1, 1) := by decide +kernel
theorem dX7_look_57 : decode cX7_look 57 = .ok (.iaload, 1) := by decide +kernel
theorem dX7_look_58 : decode cX7_look 58 = .ok (.iconst 1, 1) := by decide +kernel
theorem dX7_look_59 : decode cX7_look 59 = .ok (.if_icmp .ne 13, 3) := by decide +kernel
theorem dX7_look_62 : decode cX7_look 62 = .ok (.aload_n 0, 1) := by decide +kernel
theorem dX7_look_63 : decode cX7_look 63 = .ok (.iconst 2, 1) := by decide +kernel
theorem dX7_look_64 : decode cX7_look 64 = .ok (.iload_n 3, 1) := by decide +kernel
theorem dX7_look_65 : decode cX7_look 65 = .ok (.iconst 0, 1) := by decide +kernel
theorem dX7_look_66 : decode cX7_look 66 = .ok (.invokevirtual 122, 3) := by decide +kernel
theorem dX7_look_69 : decode cX7_look 69 = .ok (.goto 34, 3) := by decide +kernel
theorem dX7_look_72 : decode cX7_look 72 = .ok (.aload_n 0, 1) := by decide +kernel
theorem dX7_look_73 : decode cX7_look 73 = .ok (.getfield 69, 3) := by decide +kernel
theorem dX7_look_76 : decode cX7_look 76 = .ok (.iload_n 1, 1) := by decide +kernel
theorem dX7_look_77 : decode cX7_look 77 = .ok (.iconst 0, 1) := by decide +kernel
theorem dX7_look_78 : decode cX7_look 78 = .ok (.iastore, 1) := by decide +kernel
theorem dX7_look_79 : decode cX7_look 79 = .ok (.aload_n 0, 1) := by decide +kernel
theorem dX7_look_80 : decode cX7_look 80 = .ok (.getfield 63, 3) := by decide +kernel
theorem dX7_look_83 : decode cX7_look 83 = .ok (.iload_n 1, 1) := by decide +kernel
theorem dX7_look_84 : decode cX7_look 84 = .ok (.dup2, 1) := by decide +kernel
theorem dX7_look_85 : decode cX7_look 85 = .ok (.iaload, 1) := by decide +kernel
theorem dX7_look_86 : decode cX7_look 86 = .ok (.iconst 1, 1) := by decide +kernel
theorem dX7_look_87 : decode cX7_look 87 = .ok (.iadd, 1) := by decide +kernel
theorem dX7_look_88 : decode cX7_look 88 = .ok (.iastore, 1) := by decide +kernel
theorem dX7_look_89 : decode cX7_look 89 = .ok (.aload_n 0, 1) := by decide +kernel
theorem dX7_look_90 : decode cX7_look 90 = .ok (.getfield 13, 3) := by decide +kernel
theorem dX7_look_93 : decode cX7_look 93 = .ok (.iload_n 3, 1) := by decide +kernel
theorem dX7_look_94 : decode cX7_look 94 = .ok (.baload, 1) := by decide +kernel
theorem dX7_look_95 : decode cX7_look 95 = .ok (.ifCond .eq 8, 3) := by decide +kernel
theorem dX7_look_98 : decode cX7_look 98 = .ok (.aload_n 0, 1) := by decide +kernel
theorem dX7_look_99 : decode cX7_look 99 = .ok (.iload_n 3, 1) := by decide +kernel
theorem dX7_look_100 : decode cX7_look 100 = .ok (.invokevirtual 133, 3) := by decide +kernel
theorem dX7_look_103 : decode cX7_look 103 = .ok (.return_, 1) := by decide +kernel
theorem dX7_fly_0 : decode cX7_fly 0 = .ok (.aload_n 0, 1) := by decide +kernel
theorem dX7_fly_1 : decode cX7_fly 1 = .ok (.getfield 108, 3) := by decide +kernel
theorem dX7_fly_4 : decode cX7_fly 4 = .ok (.iconst 1, 1) := by decide +kernel
theorem dX7_fly_5 : decode cX7_fly 5 = .ok (.isub, 1) := by decide +kernel
theorem dX7_fly_6 : decode cX7_fly 6 = .ok (.istore_n 1, 1) := by decide +kernel
theorem dX7_fly_7 : decode cX7_fly 7 = .ok (.aload_n 0, 1) := by decide +kernel
theorem dX7_fly_8 : decode cX7_fly 8 = .ok (.getfield 60, 3) := by decide +kernel
theorem dX7_fly_11 : decode cX7_fly 11 = .ok (.iload_n 1, 1) := by decide +kernel
theorem dX7_fly_12 : decode cX7_fly 12 = .ok (.iaload, 1) := by decide +kernel
theorem dX7_fly_13 : decode cX7_fly 13 = .ok (.istore_n 2, 1) := by decide +kernel
theorem dX7_fly_14 : decode cX7_fly 14 = .ok (.aload_n 0, 1) := by decide +kernel
theorem dX7_fly_15 : decode cX7_fly 15 = .ok (.getfield 57, 3) := by decide +kernel
theorem dX7_fly_18 : decode cX7_fly 18 = .ok (.iload_n 1, 1) := by decide +kernel
theorem dX7_fly_19 : decode cX7_fly 19 = .ok (.iaload, 1) := by decide +kernel
theorem dX7_fly_20 : decode cX7_fly 20 = .ok (.ifCond .ne 107, 3) := by decide +kernel
theorem dX7_fly_23 : decode cX7_fly 23 = .ok (.aload_n 0, 1) := by decide +kernel
theorem dX7_fly_24 : decode cX7_fly 24 = .ok (.getfield 72, 3) := by decide +kernel
theorem dX7_fly_27 : decode cX7_fly 27 = .ok (.iload_n 1, 1) := by decide +kernel
theorem dX7_fly_28 : decode cX7_fly 28 = .ok (.iaload, 1) := by decide +kernel
theorem dX7_fly_29 : decode cX7_fly 29 = .ok (.ifCond .le 85, 3) := by decide +kernel
theorem dX7_fly_32 : decode cX7_fly 32 = .ok (.aload_n 0, 1) := by decide +kernel
theorem dX7_fly_33 : decode cX7_fly 33 = .ok (.getfield 72, 3) := by decide +kernel
theorem dX7_fly_36 : decode cX7_fly 36 = .ok (.iload_n 1, 1) := by decide +kernel
theorem dX7_fly_37 : decode cX7_fly 37 = .ok (.dup2, 1) := by decide +kernel
theorem dX7_fly_38 : decode cX7_fly 38 = .ok (.iaload, 1) := by decide +kernel
theorem dX7_fly_39 : decode cX7_fly 39 = .ok (.iconst 1, 1) := by decide +kernel
theorem dX7_fly_40 : decode cX7_fly 40 = .ok (.isub, 1) := by decide +kernel
theorem dX7_fly_41 : decode cX7_fly 41 = .ok (.iastore, 1) := by decide +kernel
theorem dX7_fly_42 : decode cX7_fly 42 = .ok (.bipush 10, 2) := by decide +kernel
theorem dX7_fly_44 : decode cX7_fly 44 = .ok (.iload_n 1, 1) := by decide +kernel
theorem dX7_fly_45 : decode cX7_fly 45 = .ok (.imul, 1) := by decide +kernel
theorem dX7_fly_46 : decode cX7_fly 46 = .ok (.aload_n 0, 1) := by decide +kernel
theorem dX7_fly_47 : decode cX7_fly 47 = .ok (.getfield 72, 3) := by decide +kernel
theorem dX7_fly_50 : decode cX7_fly 50 = .ok (.iload_n 1, 1) := by decide +kernel
theorem dX7_fly_51 : decode cX7_fly 51 = .ok (.iaload, 1) := by decide +kernel
theorem dX7_fly_52 : decode cX7_fly 52 = .ok (.iadd, 1) := by decide +kernel
theorem dX7_fly_53 : decode cX7_fly 53 = .ok (.istore_n 3, 1) := by decide +kernel
theorem dX7_fly_54 : decode cX7_fly 54 = .ok (.aload_n 0, 1) := by decide +kernel
theorem dX7_fly_55 : decode cX7_fly 55 = .ok (.getfield 115, 3) := by decide +kernel
theorem dX7_fly_58 : decode cX7_fly 58 = .ok (.bipush 10, 2) := by decide +kernel
theorem dX7_fly_60 : decode cX7_fly 60 = .ok (.if_icmp .eq 51, 3) := by decide +kernel
theorem dX7_fly_63 : decode cX7_fly 63 = .ok (.aload_n 0, 1) := by decide +kernel
theorem dX7_fly_64 : decode cX7_fly 64 = .ok (.getfield 78, 3) := by decide +kernel
theorem dX7_fly_67 : decode cX7_fly 67 = .ok (.iload_n 3, 1) := by decide +kernel
theorem dX7_fly_68 : decode cX7_fly 68 = .ok (.iaload, 1) := by decide +kernel
theorem dX7_fly_69 : decode cX7_fly 69 = .ok (.iconst (-1), 1) := by decide +kernel
theorem dX7_fly_70 : decode cX7_fly 70 = .ok (.if_icmp .eq 16, 3) := by decide +kernel
theorem dX7_fly_73 : decode cX7_fly 73 = .ok (.aload_n 0, 1) := by decide +kernel
theorem dX7_fly_74 : decode cX7_fly 74 = .ok (.getfield 78, 3) := by decide +kernel
theorem dX7_fly_77 : decode cX7_fly 77 = .ok (.iload_n 3, 1) := by decide +kernel
theorem dX7_fly_78 : decode cX7_fly 78 = .ok (.iaload, 1) := by decide +kernel
theorem dX7_fly_79 : decode cX7_fly 79 = .ok (.aload_n 0, 1) := by decide +kernel
theorem dX7_fly_80 : decode cX7_fly 80 = .ok (.getfield 115, 3) := by decide +kernel
theorem dX7_fly_83 : decode cX7_fly 83 = .ok (.if_icmp .ne 28, 3) := by decide +kernel
theorem dX7_fly_86 : decode cX7_fly 86 = .ok (.aload_n 0, 1) := by decide +kernel
theorem dX7_fly_87 : decode cX7_fly 87 = .ok (.iconst (-1), 1) := by decide +kernel
theorem dX7_fly_88 : decode cX7_fly 88 = .ok (.putfield 115, 3) := by decide +kernel
theorem dX7_fly_91 : decode cX7_fly 91 = .ok (.aload_n 0, 1) := by decide +kernel
theorem dX7_fly_92 : decode cX7_fly 92 = .ok (.getfield 66, 3) := by decide +kernel
theorem dX7_fly_95 : decode cX7_fly 95 = .ok (.iload_n 1, 1) := by decide +kernel
theorem dX7_fly_96 : decode cX7_fly 96 = .ok (.aload_n 0, 1) := by decide +kernel
theorem dX7_fly_97 : decode cX7_fly 97 = .ok (.getfield 75, 3) := by decide +kernel
theorem dX7_fly_100 : decode cX7_fly 100 = .ok (.iload_n 3, 1) := by decide +kernel
theorem dX7_fly_101 : decode cX7_fly 101 = .ok (.iaload, 1) := by decide +kernel
theorem dX7_fly_102 : decode cX7_fly 102 = .ok (.iastore, 1) := by decide +kernel
theorem dX7_fly_103 : decode cX7_fly 103 = .ok (.aload_n 0, 1) := by decide +kernel
theorem dX7_fly_104 : decode cX7_fly 104 = .ok (.getfield 69, 3) := by decide +kernel
theorem dX7_fly_107 : decode cX7_fly 107 = .ok (.iload_n 1, 1) := by decide +kernel
theorem dX7_fly_108 : decode cX7_fly 108 = .ok (.iconst 0, 1) := by decide +kernel
theorem dX7_fly_109 : decode cX7_fly 109 = .ok (.iastore, 1) := by decide +kernel
theorem dX7_fly_110 : decode cX7_fly 110 = .ok (.return_, 1) := by decide +kernel
theorem dX7_fly_111 : decode cX7_fly 111 = .ok (.goto (-88), 3) := by decide +kernel
theorem dX7_fly_114 : decode cX7_fly 114 = .ok (.aload_n 0, 1) := by decide +kernel
theorem dX7_fly_115 : decode cX7_fly 115 = .ok (.dup, 1) := by decide +kernel
theorem dX7_fly_116 : decode cX7_fly 116 = .ok (.getfield 126, 3) := by decide +kernel
theorem dX7_fly_119 : decode cX7_fly 119 = .ok (.iconst 1, 1) := by decide +kernel
theorem dX7_fly_120 : decode cX7_fly 120 = .ok (.isub, 1) := by decide +kernel
theorem dX7_fly_121 : decode cX7_fly 121 = .ok (.putfield 126, 3) := by decide +kernel
theorem dX7_fly_124 : decode cX7_fly 124 = .ok (.goto 53, 3) := by decide +kernel
theorem dX7_fly_127 : decode cX7_fly 127 = .ok (.aload_n 0, 1) := by decide +kernel
theorem dX7_fly_128 : decode cX7_fly 128 = .ok (.getfield 57, 3) := by decide +kernel
theorem dX7_fly_131 : decode cX7_fly 131 = .ok (.iload_n 1, 1) := by decide +kernel
theorem dX7_fly_132 : decode cX7_fly 132 = .ok (.iaload, 1) := by decide +kernel
theorem dX7_fly_133 : decode cX7_fly 133 = .ok (.iconst 1, 1) := by decide +kernel
theorem dX7_fly_134 : decode cX7_fly 134 = .ok (.if_icmp .ne 43, 3) := by decide +kernel
theorem dX7_fly_137 : decode cX7_fly 137 = .ok (.aload_n 0, 1) := by decide +kernel
theorem dX7_fly_138 : decode cX7_fly 138 = .ok (.getfield 44, 3) := by decide +kernel
theorem dX7_fly_141 : decode cX7_fly 141 = .ok (.iload_n 2, 1) := by decide +kernel
theorem dX7_fly_142 : decode cX7_fly 142 = .ok (.iconst 3, 1) := by decide +kernel
theorem dX7_fly_143 : decode cX7_fly 143 = .ok (.iastore, 1) := by decide +kernel
theorem dX7_fly_144 : decode cX7_fly 144 = .ok (.aload_n 0, 1) := by decide +kernel
theorem dX7_fly_145 : decode cX7_fly 145 = .ok (.iconst 2, 1) := by decide +kernel
theorem dX7_fly_146 : decode cX7_fly 146 = .ok (.iload_n 2, 1) := by decide +kernel
theorem dX7_fly_147 : decode cX7_fly 147 = .ok (.invokevirtual 118, 3) := by decide +kernel
theorem dX7_fly_150 : decode cX7_fly 150 = .ok (.aload_n 0, 1) := by decide +kernel
theorem dX7_fly_151 : decode cX7_fly 151 = .ok (.getfield 115, 3) := by decide +kernel
theorem dX7_fly_154 : decode cX7_fly 154 = .ok (.bipush 6, 2) := by decide +kernel
theorem dX7_fly_156 : decode cX7_fly 156 = .ok (.if_icmp .gt 21, 3) := by decide +kernel
theorem dX7_fly_159 : decode cX7_fly 159 = .ok (.aload_n 0, 1) := by decide +kernel
theorem dX7_fly_160 : decode cX7_fly 160 = .ok (.aload_n 0, 1) := by decide +kernel
theorem dX7_fly_161 : decode cX7_fly 161 = .ok (.getfield 115, 3) := by decide +kernel
theorem dX7_fly_164 : decode cX7_fly 164 = .ok (.putfield 142, 3) := by decide +kernel
theorem dX7_fly_167 : decode cX7_fly 167 = .ok (.aload_n 0, 1) := by decide +kernel
theorem dX7_fly_168 : decode cX7_fly 168 = .ok (.aload_n 0, 1) := by decide +kernel
theorem dX7_fly_169 : decode cX7_fly 169 = .ok (.bipush 7, 2) := by decide +kernel
theorem dX7_fly_171 : decode cX7_fly 171 = .ok (.invokevirtual 111, 3) := by decide +kernel
theorem dX7_fly_174 : decode cX7_fly 174 = .ok (.putfield 115, 3) := by decide +kernel
theorem dX7_fly_177 : decode cX7_fly 177 = .ok (.aload_n 0, 1) := by decide +kernel
theorem dX7_fly_178 : decode cX7_fly 178 = .ok (.dup, 1) := by decide +kernel
theorem dX7_fly_179 : decode cX7_fly 179 = .ok (.getfield 108, 3) := by decide +kernel
theorem dX7_fly_182 : decode cX7_fly 182 = .ok (.iconst 1, 1) := by decide +kernel
theorem dX7_fly_183 : decode cX7_fly 183 = .ok (.isub, 1) := by decide +kernel
theorem dX7_fly_184 : decode cX7_fly 184 = .ok (.putfield 108, 3) := by decide +kernel
theorem dX7_fly_187 : decode cX7_fly 187 = .ok (.return_, 1) := by decide +kernel
theorem dX7_goOn_0 : decode cX7_goOn 0 = .ok (.iconst 4, 1) := by decide +kernel
theorem dX7_goOn_1 : decode cX7_goOn 1 = .ok (.aload_n 0, 1) := by decide +kernel
theorem dX7_goOn_2 : decode cX7_goOn 2 = .ok (.getfield 60, 3) := by decide +kernel
theorem dX7_goOn_5 : decode cX7_goOn 5 = .ok (.iload_n 1, 1) := by decide +kernel
theorem dX7_goOn_6 : decode cX7_goOn 6 = .ok (.iaload, 1) := by decide +kernel
theorem dX7_goOn_7 : decode cX7_goOn 7 = .ok (.imul, 1) := by decide +kernel
theorem dX7_goOn_8 : decode cX7_goOn 8 = .ok (.aload_n 0, 1) := by decide +kernel
theorem dX7_goOn_9 : decode cX7_goOn 9 = .ok (.getfield 63, 3) := by decide +kernel
theorem dX7_goOn_12 : decode cX7_goOn 12 = .ok (.iload_n 1, 1) := by decide +kernel
theorem dX7_goOn_13 : decode cX7_goOn 13 = .ok (.iaload, 1) := by decide +kernel
theorem dX7_goOn_14 : decode cX7_goOn 14 = .ok (.iadd, 1) := by decide +kernel
theorem dX7_goOn_15 : decode cX7_goOn 15 = .ok (.istore_n 2, 1) := by decide +kernel
theorem dX7_goOn_16 : decode cX7_goOn 16 = .ok (.aload_n 0, 1) := by decide +kernel
theorem dX7_goOn_17 : decode cX7_goOn 17 = .ok (.getfield 72, 3) := by decide +kernel
theorem dX7_goOn_20 : decode cX7_goOn 20 = .ok (.iload_n 1, 1) := by decide +kernel
theorem dX7_goOn_21 : decode cX7_goOn 21 = .ok (.iaload, 1) := by decide +kernel
theorem dX7_goOn_22 : decode cX7_goOn 22 = .ok (.ifCond .le 43, 3) := by decide +kernel
theorem dX7_goOn_25 : decode cX7_goOn 25 = .ok (.aload_n 0, 1) := by decide +kernel
theorem dX7_goOn_26 : decode cX7_goOn 26 = .ok (.getfield 75, 3) := by decide +kernel
theorem dX7_goOn_29 : decode cX7_goOn 29 = .ok (.bipush 10, 2) := by decide +kernel
theorem dX7_goOn_31 : decode cX7_goOn 31 = .ok (.iload_n 1, 1) := by decide +kernel
theorem dX7_goOn_32 : decode cX7_goOn 32 = .ok (.imul, 1) := by decide +kernel
theorem dX7_goOn_33 : decode cX7_goOn 33 = .ok (.aload_n 0, 1) := by decide +kernel
theorem dX7_goOn_34 : decode cX7_goOn 34 = .ok (.getfield 72, 3) := by decide +kernel
theorem dX7_goOn_37 : decode cX7_goOn 37 = .ok (.iload_n 1, 1) := by decide +kernel
theorem dX7_goOn_38 : decode cX7_goOn 38 = .ok (.iaload, 1) := by decide +kernel
theorem dX7_goOn_39 : decode cX7_goOn 39 = .ok (.iadd, 1) := by decide +kernel
theorem dX7_goOn_40 : decode cX7_goOn 40 = .ok (.iconst 1, 1) := by decide +kernel
theorem dX7_goOn_41 : decode cX7_goOn 41 = .ok (.isub, 1) := by decide +kernel
theorem dX7_goOn_42 : decode cX7_goOn 42 = .ok (.iaload, 1) := by decide +kernel
theorem dX7_goOn_43 : decode cX7_goOn 43 = .ok (.aload_n 0, 1) := by decide +kernel
theorem dX7_goOn_44 : decode cX7_goOn 44 = .ok (.getfield 66, 3) := by decide +kernel
theorem dX7_goOn_47 : decode cX7_goOn 47 = .ok (.iload_n 1, 1) := by decide +kernel
theorem dX7_goOn_48 : decode cX7_goOn 48 = .ok (.iaload, 1) := by decide +kernel
theorem dX7_goOn_49 : decode cX7_goOn 49 = .ok (.if_icmp .gt 16, 3) := by decide +kernel
theorem dX7_goOn_52 : decode cX7_goOn 52 = .ok (.aload_n 0, 1) := by decide +kernel
theorem dX7_goOn_53 : decode cX7_goOn 53 = .ok (.getfield 72, 3) := by decide +kernel
theorem dX7_goOn_56 : decode cX7_goOn 56 = .ok (.iload_n 1, 1) := by decide +kernel
theorem dX7_goOn_57 : decode cX7_goOn 57 = .ok (.dup2, 1) := by decide +kernel
theorem dX7_goOn_58 : decode cX7_goOn 58 = .ok (.iaload, 1) := by decide +kernel
theorem dX7_goOn_59 : decode cX7_goOn 59 = .ok (.iconst 1, 1) := by decide +kernel
theorem dX7_goOn_60 : decode cX7_goOn 60 = .ok (.isub, 1) := by decide +kernel
theorem dX7_goOn_61 : decode cX7_goOn 61 = .ok (.iastore, 1) := by decide +kernel
theorem dX7_goOn_62 : decode cX7_goOn 62 = .ok (.goto (-46), 3) := by decide +kernel
theorem dX7_goOn_65 : decode cX7_goOn 65 = .ok (.aload_n 0, 1) := by decide +kernel
theorem dX7_goOn_66 : decode cX7_goOn 66 = .ok (.getfield 66, 3) := by decide +kernel
theorem dX7_goOn_69 : decode cX7_goOn 69 = .ok (.iload_n 1, 1) := by decide +kernel
theorem dX7_goOn_70 : decode cX7_goOn 70 = .ok (.iaload, 1) := by decide +kernel
theorem dX7_goOn_71 : decode cX7_goOn 71 = .ok (.aload_n 0, 1) := by decide +kernel
theorem dX7_goOn_72 : decode cX7_goOn 72 = .ok (.getfield 38, 3) := by decide +kernel
theorem dX7_goOn_75 : decode cX7_goOn 75 = .ok (.iload_n 2, 1) := by decide +kernel
theorem dX7_goOn_76 : decode cX7_goOn 76 = .ok (.iaload, 1) := by decide +kernel
theorem dX7_goOn_77 : decode cX7_goOn 77 = .ok (.if_icmp .ne 24, 3) := by decide +kernel
theorem dX7_goOn_80 : decode cX7_goOn 80 = .ok (.aload_n 0, 1) := by decide +kernel
theorem dX7_goOn_81 : decode cX7_goOn 81 = .ok (.dup, 1) := by decide +kernel
theorem dX7_goOn_82 : decode cX7_goOn 82 = .ok (.getfield 126, 3) := by decide +kernel
theorem dX7_goOn_85 : decode cX7_goOn 85 = .ok (.iconst 1, 1) := by decide +kernel
theorem dX7_goOn_86 : decode cX7_goOn 86 = .ok (.isub, 1) := by decide +kernel
theorem dX7_goOn_87 : decode cX7_goOn 87 = .ok (.putfield 126, 3) := by decide +kernel
theorem dX7_goOn_90 : decode cX7_goOn 90 = .ok (.aload_n 0, 1) := by decide +kernel
theorem dX7_goOn_91 : decode cX7_goOn 91 = .ok (.dup, 1) := by decide +kernel
theorem dX7_goOn_92 : decode cX7_goOn 92 = .ok (.getfield 108, 3) := by decide +kernel
theorem dX7_goOn_95 : decode cX7_goOn 95 = .ok (.iconst 1, 1) := by decide +kernel
theorem dX7_goOn_96 : decode cX7_goOn 96 = .ok (.isub, 1) := by decide +kernel
theorem dX7_goOn_97 : decode cX7_goOn 97 = .ok (.putfield 108, 3) := by decide +kernel
theorem dX7_goOn_100 : decode cX7_goOn 100 = .ok (.return_, 1) := by decide +kernel
theorem dX7_goOn_101 : decode cX7_goOn 101 = .ok (.bipush 40, 2) := by decide +kernel
theorem dX7_goOn_103 : decode cX7_goOn 103 = .ok (.iload_n 2, 1) := by decide +kernel
theorem dX7_goOn_104 : decode cX7_goOn 104 = .ok (.imul, 1) := by decide +kernel
theorem dX7_goOn_105 : decode cX7_goOn 105 = .ok (.iconst 4, 1) := by decide +kernel
theorem dX7_goOn_106 : decode cX7_goOn 106 = .ok (.aload_n 0, 1) := by decide +kernel
theorem dX7_goOn_107 : decode cX7_goOn 107 = .ok (.getfield 66, 3) := by decide +kernel
theorem dX7_goOn_110 : decode cX7_goOn 110 = .ok (.iload_n 1, 1) := by decide +kernel
theorem dX7_goOn_111 : decode cX7_goOn 111 = .ok (.iaload, 1) := by decide +kernel
theorem dX7_goOn_112 : decode cX7_goOn 112 = .ok (.imul, 1) := by decide +kernel
theorem dX7_goOn_113 : decode cX7_goOn 113 = .ok (.iadd, 1) := by decide +kernel
theorem dX7_goOn_114 : decode cX7_goOn 114 = .ok (.istore_n 3, 1) := by decide +kernel
theorem dX7_goOn_115 : decode cX7_goOn 115 = .ok (.aload_n 0, 1) := by decide +kernel
theorem dX7_goOn_116 : decode cX7_goOn 116 = .ok (.getfield 69, 3) := by decide +kernel
theorem dX7_goOn_119 : decode cX7_goOn 119 = .ok (.iload_n 1, 1) := by decide +kernel
theorem dX7_goOn_120 : decode cX7_goOn 120 = .ok (.iaload, 1) := by decide +kernel
theorem dX7_goOn_121 : decode cX7_goOn 121 = .ok (.ifCond .ne 89, 3) := by decide +kernel
theorem dX7_goOn_124 : decode cX7_goOn 124 = .ok (.aload_n 0, 1) := by decide +kernel
theorem dX7_goOn_125 : decode cX7_goOn 125 = .ok (.getfield 145, 3) := by decide +kernel
theorem dX7_goOn_128 : decode cX7_goOn 128 = .ok (.bipush 80, 2) := by decide +kernel
theorem dX7_goOn_130 : decode cX7_goOn 130 = .ok (.if_icmp .ne 14, 3) := by decide +kernel
theorem dX7_goOn_133 : decode cX7_goOn 133 = .ok (.aload_n 0, 1) := by decide +kernel
theorem dX7_goOn_134 : decode cX7_goOn 134 = .ok (.aload_n 0, 1) := by decide +kernel
theorem dX7_goOn_135 : decode cX7_goOn 135 = .ok (.bipush 10, 2) := by decide +kernel
theorem dX7_goOn_137 : decode cX7_goOn 137 = .ok (.invokevirtual 111, 3) := by decide +kernel
theorem dX7_goOn_140 : decode cX7_goOn 140 = .ok (.putfield 115, 3) := by decide +kernel
theorem dX7_goOn_143 : decode cX7_goOn 143 = .ok (.return_, 1) := by decide +kernel
theorem dX7_goOn_144 : decode cX7_goOn 144 = .ok (.aload_n 0, 1) := by decide +kernel
theorem dX7_goOn_145 : decode cX7_goOn 145 = .ok (.dup, 1) := by decide +kernel
theorem dX7_goOn_146 : decode cX7_goOn 146 = .ok (.getfield 145, 3) := by decide +kernel
theorem dX7_goOn_149 : decode cX7_goOn 149 = .ok (.iconst 1, 1) := by decide +kernel
theorem dX7_goOn_150 : decode cX7_goOn 150 = .ok (.iadd, 1) := by decide +kernel
theorem dX7_goOn_151 : decode cX7_goOn 151 = .ok (.putfield 145, 3) := by decide +kernel
theorem dX7_goOn_154 : decode cX7_goOn 154 = .ok (.aload_n 0, 1) := by decide +kernel
theorem dX7_goOn_155 : decode cX7_goOn 155 = .ok (.aload_n 0, 1) := by decide +kernel
theorem dX7_goOn_156 : decode cX7_goOn 156 = .ok (.getfield 41, 3) := by decide +kernel
theorem dX7_goOn_159 : decode cX7_goOn 159 = .ok (.iload_n 3, 1) := by decide +kernel
theorem dX7_goOn_160 : decode cX7_goOn 160 = .ok (.iaload, 1) := by decide +kernel
theorem dX7_goOn_161 : decode cX7_goOn 161 = .ok (.aload_n 0, 1) := by decide +kernel
theorem dX7_goOn_162 : decode cX7_goOn 162 = .ok (.getfield 41, 3) := by decide +kernel
theorem dX7_goOn_165 : decode cX7_goOn 165 = .ok (.iload_n 3, 1) := by decide +kernel
theorem dX7_goOn_166 : decode cX7_goOn 166 = .ok (.iconst 1, 1) := by decide +kernel
theorem dX7_goOn_167 : decode cX7_goOn 167 = .ok (.iadd, 1) := by decide +kernel
theorem dX7_goOn_168 : decode cX7_goOn 168 = .ok (.iaload, 1) := by decide +kernel
theorem dX7_goOn_169 : decode cX7_goOn 169 = .ok (.aload_n 0, 1) := by decide +kernel
theorem dX7_goOn_170 : decode cX7_goOn 170 = .ok (.getfield 41, 3) := by decide +kernel
theorem dX7_goOn_173 : decode cX7_goOn 173 = .ok (.iload_n 3, 1) := by decide +kernel
theorem dX7_goOn_174 : decode cX7_goOn 174 = .ok (.iconst 2, 1) := by decide +kernel
theorem dX7_goOn_175 : decode cX7_goOn 175 = .ok (.iadd, 1) := by decide +kernel
theorem dX7_goOn_176 : decode cX7_goOn 176 = .ok (.iaload, 1) := by decide +kernel
theorem dX7_goOn_177 : decode cX7_goOn 177 = .ok (.aload_n 0, 1) := by decide +kernel
theorem dX7_goOn_178 : decode cX7_goOn 178 = .ok (.getfield 41, 3) := by decide +kernel
theorem dX7_goOn_181 : decode cX7_goOn 181 = .ok (.iload_n 3, 1) := by decide +kernel
theorem dX7_goOn_182 : decode cX7_goOn 182 = .ok (.iconst 3, 1) := by decide +kernel
theorem dX7_goOn_183 : decode cX7_goOn 183 = .ok (.iadd, 1) := by decide +kernel
theorem dX7_goOn_184 : decode cX7_goOn 184 = .ok (.iaload, 1) := by decide +kernel
theorem dX7_goOn_185 : decode cX7_goOn 185 = .ok (.invokevirtual 148, 3) := by decide +kernel
theorem dX7_goOn_188 : decode cX7_goOn 188 = .ok (.istore 4, 2) := by decide +kernel
theorem dX7_goOn_190 : decode cX7_goOn 190 = .ok (.aload_n 0, 1) := by decide +kernel
theorem dX7_goOn_191 : decode cX7_goOn 191 = .ok (.getfield 69, 3) := by decide +kernel
theorem dX7_goOn_194 : decode cX7_goOn 194 = .ok (.iload_n 1, 1) := by decide +kernel
theorem dX7_goOn_195 : decode cX7_goOn 195 = .ok (.iconst 1, 1) := by decide +kernel
theorem dX7_goOn_196 : decode cX7_goOn 196 = .ok (.iastore, 1) := by decide +kernel
theorem dX7_goOn_197 : decode cX7_goOn 197 = .ok (.iload 4, 2) := by decide +kernel
theorem dX7_goOn_199 : decode cX7_goOn 199 = .ok (.iconst (-1), 1) := by decide +kernel
theorem dX7_goOn_200 : decode cX7_goOn 200 = .ok (.if_icmp .eq 10, 3) := by decide +kernel
theorem dX7_goOn_203 : decode cX7_goOn 203 = .ok (.aload_n 0, 1) := by decide +kernel
theorem dX7_goOn_204 : decode cX7_goOn 204 = .ok (.iload 4, 2) := by decide +kernel
theorem dX7_goOn_206 : decode cX7_goOn 206 = .ok (.invokevirtual 133, 3) := by decide +kernel
theorem dX7_goOn_209 : decode cX7_goOn 209 = .ok (.return_, 1) := by decide +kernel
theorem dX7_goOn_210 : decode cX7_goOn 210 = .ok (.aload_n 0, 1) := by decide +kernel
theorem dX7_goOn_211 : decode cX7_goOn 211 = .ok (.getfield 69, 3) := by decide +kernel
theorem dX7_goOn_214 : decode cX7_goOn 214 = .ok (.iload_n 1, 1) := by decide +kernel
theorem dX7_goOn_215 : decode cX7_goOn 215 = .ok (.iconst 0, 1) := by decide +kernel
theorem dX7_goOn_216 : decode cX7_goOn 216 = .ok (.iastore, 1) := by decide +kernel
theorem dX7_goOn_217 : decode cX7_goOn 217 = .ok (.aload_n 0, 1) := by decide +kernel
theorem dX7_goOn_218 : decode cX7_goOn 218 = .ok (.getfield 66, 3) := by decide +kernel
theorem dX7_goOn_221 : decode cX7_goOn 221 = .ok (.iload_n 1, 1) := by decide +kernel
theorem dX7_goOn_222 : decode cX7_goOn 222 = .ok (.dup2, 1) := by decide +kernel
theorem dX7_goOn_223 : decode cX7_goOn 223 = .ok (.iaload, 1) := by decide +kernel
theorem dX7_goOn_224 : decode cX7_goOn 224 = .ok (.iconst 1, 1) := by decide +kernel
theorem dX7_goOn_225 : decode cX7_goOn 225 = .ok (.iadd, 1) := by decide +kernel
theorem dX7_goOn_226 : decode cX7_goOn 226 = .ok (.iastore, 1) := by decide +kernel
theorem dX7_goOn_227 : decode cX7_goOn 227 = .ok (.aload_n 0, 1) := by decide +kernel
theorem dX7_goOn_228 : decode cX7_goOn 228 = .ok (.getfield 41, 3) := by decide +kernel
theorem dX7_goOn_231 : decode cX7_goOn 231 = .ok (.iload_n 3, 1) := by decide +kernel
theorem dX7_goOn_232 : decode cX7_goOn 232 = .ok (.iaload, 1) := by decide +kernel
theorem dX7_goOn_233 : decode cX7_goOn 233 = .ok (.bipush 11, 2) := by decide +kernel
theorem dX7_goOn_235 : decode cX7_goOn 235 = .ok (.if_icmp .ne 125, 3) := by decide +kernel
theorem dX7_goOn_238 : decode cX7_goOn 238 = .ok (.aload_n 0, 1) := by decide +kernel
theorem dX7_goOn_239 : decode cX7_goOn 239 = .ok (.getfield 72, 3) := by decide +kernel
theorem dX7_goOn_242 : decode cX7_goOn 242 = .ok (.iload_n 1, 1) := by decide +kernel
theorem dX7_goOn_243 : decode cX7_goOn 243 = .ok (.iaload, 1) := by decide +kernel
theorem dX7_goOn_244 : decode cX7_goOn 244 = .ok (.ifCond .le 24, 3) := by decide +kernel
theorem dX7_goOn_247 : decode cX7_goOn 247 = .ok (.aload_n 0, 1) := by decide +kernel
theorem dX7_goOn_248 : decode cX7_goOn 248 = .ok (.getfield 75, 3) := by decide +kernel
theorem dX7_goOn_251 : decode cX7_goOn 251 = .ok (.bipush 10, 2) := by decide +kernel
theorem dX7_goOn_253 : decode cX7_goOn 253 = .ok (.iload_n 1, 1) := by decide +kernel
theorem dX7_goOn_254 : decode cX7_goOn 254 = .ok (.imul, 1) := by decide +kernel
theorem dX7_goOn_255 : decode cX7_goOn 255 = .ok (.aload_n 0, 1) := by decide +kernel
theorem dX7_goOn_256 : decode cX7_goOn 256 = .ok (.getfield 72, 3) := by decide +kernel
theorem dX7_goOn_259 : decode cX7_goOn 259 = .ok (.iload_n 1, 1) := by decide +kernel
theorem dX7_goOn_260 : decode cX7_goOn 260 = .ok (.iaload, 1) := by decide +kernel
theorem dX7_goOn_261 : decode cX7_goOn 261 = .ok (.iadd, 1) := by decide +kernel
theorem dX7_goOn_262 : decode cX7_goOn 262 = .ok (.iconst 1, 1) := by decide +kernel
theorem dX7_goOn_263 : decode cX7_goOn 263 = .ok (.isub, 1) := by decide +kernel
theorem dX7_goOn_264 : decode cX7_goOn 264 = .ok (.iaload, 1) := by decide +kernel
theorem dX7_goOn_265 : decode cX7_goOn 265 = .ok (.goto 9, 3) := by decide +kernel
theorem dX7_goOn_268 : decode cX7_goOn 268 = .ok (.aload_n 0, 1) := by decide +kernel
theorem dX7_goOn_269 : decode cX7_goOn 269 = .ok (.getfield 38, 3) := by decide +kernel
theorem dX7_goOn_272 : decode cX7_goOn 272 = .ok (.iload_n 2, 1) := by decide +kernel
theorem dX7_goOn_273 : decode cX7_goOn 273 = .ok (.iaload, 1) := by decide +kernel
theorem dX7_goOn_274 : decode cX7_goOn 274 = .ok (.istore 4, 2) := by decide +kernel
theorem dX7_goOn_276 : decode cX7_goOn 276 = .ok (.aload_n 0, 1) := by decide +kernel
theorem dX7_goOn_277 : decode cX7_goOn 277 = .ok (.getfield 66, 3) := by decide +kernel
theorem dX7_goOn_280 : decode cX7_goOn 280 = .ok (.iload_n 1, 1) := by decide +kernel
theorem dX7_goOn_281 : decode cX7_goOn 281 = .ok (.iaload, 1) := by decide +kernel
theorem dX7_goOn_282 : decode cX7_goOn 282 = .ok (.aload_n 0, 1) := by decide +kernel
theorem dX7_goOn_283 : decode cX7_goOn 283 = .ok (.getfield 41, 3) := by decide +kernel
theorem dX7_goOn_286 : decode cX7_goOn 286 = .ok (.iload_n 3, 1) := by decide +kernel
theorem dX7_goOn_287 : decode cX7_goOn 287 = .ok (.iconst 1, 1) := by decide +kernel
theorem dX7_goOn_288 : decode cX7_goOn 288 = .ok (.iadd, 1) := by decide +kernel
theorem dX7_goOn_289 : decode cX7_goOn 289 = .ok (.iaload, 1) := by decide +kernel
theorem dX7_goOn_290 : decode cX7_goOn 290 = .ok (.iadd, 1) := by decide +kernel
theorem dX7_goOn_291 : decode cX7_goOn 291 = .ok (.istore 5, 2) := by decide +kernel
theorem dX7_goOn_293 : decode cX7_goOn 293 = .ok (.aload_n 0, 1) := by decide +kernel
theorem dX7_goOn_294 : decode cX7_goOn 294 = .ok (.getfield 75, 3) := by decide +kernel
theorem dX7_goOn_297 : decode cX7_goOn 297 = .ok (.bipush 10, 2) := by decide +kernel
theorem dX7_goOn_299 : decode cX7_goOn 299 = .ok (.iload_n 1, 1) := by decide +kernel
theorem dX7_goOn_300 : decode cX7_goOn 300 = .ok (.imul, 1) := by decide +kernel
theorem dX7_goOn_301 : decode cX7_goOn 301 = .ok (.aload_n 0, 1) := by decide +kernel
theorem dX7_goOn_302 : decode cX7_goOn 302 = .ok (.getfield 72, 3) := by decide +kernel
theorem dX7_goOn_305 : decode cX7_goOn 305 = .ok (.iload_n 1, 1) := by decide +kernel
theorem dX7_goOn_306 : decode cX7_goOn 306 = .ok (.iaload, 1) := by decide +kernel
theorem dX7_goOn_307 : decode cX7_goOn 307 = .ok (.iadd, 1) := by decide +kernel
theorem dX7_goOn_308 : decode cX7_goOn 308 = .ok (.iload 5, 2) := by decide +kernel
theorem dX7_goOn_310 : decode cX7_goOn 310 = .ok (.iload 4, 2) := by decide +kernel
theorem dX7_goOn_312 : decode cX7_goOn 312 = .ok (.if_icmp .ge 8, 3) := by decide +kernel
theorem dX7_goOn_315 : decode cX7_goOn 315 = .ok (.iload 5, 2) := by decide +kernel
theorem dX7_goOn_317 : decode cX7_goOn 317 = .ok (.goto 5, 3) := by decide +kernel
theorem dX7_goOn_320 : decode cX7_goOn 320 = .ok (.iload 4, 2) := by decide +kernel
theorem dX7_goOn_322 : decode cX7_goOn 322 = .ok (.iastore, 1) := by decide +kernel
theorem dX7_goOn_323 : decode cX7_goOn 323 = .ok (.aload_n 0, 1) := by decide +kernel
theorem dX7_goOn_324 : decode cX7_goOn 324 = .ok (.getfield 78, 3) := by decide +kernel
theorem dX7_goOn_327 : decode cX7_goOn 327 = .ok (.bipush 10, 2) := by decide +kernel
theorem dX7_goOn_329 : decode cX7_goOn 329 = .ok (.iload_n 1, 1) := by decide +kernel
theorem dX7_goOn_330 : decode cX7_goOn 330 = .ok (.imul, 1) := by decide +kernel
theorem dX7_goOn_331 : decode cX7_goOn 331 = .ok (.aload_n 0, 1) := by decide +kernel
theorem dX7_goOn_332 : decode cX7_goOn 332 = .ok (.getfield 72, 3) := by decide +kernel
theorem dX7_goOn_335 : decode cX7_goOn 335 = .ok (.iload_n 1, 1) := by decide +kernel
theorem dX7_goOn_336 : decode cX7_goOn 336 = .ok (.iaload, 1) := by decide +kernel
theorem dX7_goOn_337 : decode cX7_goOn 337 = .ok (.iadd, 1) := by decide +kernel
theorem dX7_goOn_338 : decode cX7_goOn 338 = .ok (.aload_n 0, 1) := by decide +kernel
theorem dX7_goOn_339 : decode cX7_goOn 339 = .ok (.getfield 41, 3) := by decide +kernel
theorem dX7_goOn_342 : decode cX7_goOn 342 = .ok (.iload_n 3, 1) := by decide +kernel
theorem dX7_goOn_343 : decode cX7_goOn 343 = .ok (.iconst 2, 1) := by decide +kernel
theorem dX7_goOn_344 : decode cX7_goOn 344 = .ok (.iadd, 1) := by decide +kernel
theorem dX7_goOn_345 : decode cX7_goOn 345 = .ok (.iaload, 1) := by decide +kernel
theorem dX7_goOn_346 : decode cX7_goOn 346 = .ok (.iastore, 1) := by decide +kernel
theorem dX7_goOn_347 : decode cX7_goOn 347 = .ok (.aload_n 0, 1) := by decide +kernel
theorem dX7_goOn_348 : decode cX7_goOn 348 = .ok (.getfield 72, 3) := by decide +kernel
theorem dX7_goOn_351 : decode cX7_goOn 351 = .ok (.iload_n 1, 1) := by decide +kernel
theorem dX7_goOn_352 : decode cX7_goOn 352 = .ok (.dup2, 1) := by decide +kernel
theorem dX7_goOn_353 : decode cX7_goOn 353 = .ok (.iaload, 1) := by decide +kernel
theorem dX7_goOn_354 : decode cX7_goOn 354 = .ok (.iconst 1, 1) := by decide +kernel
theorem dX7_goOn_355 : decode cX7_goOn 355 = .ok (.iadd, 1) := by decide +kernel
theorem dX7_goOn_356 : decode cX7_goOn 356 = .ok (.iastore, 1) := by decide +kernel
theorem dX7_goOn_357 : decode cX7_goOn 357 = .ok (.goto 115, 3) := by decide +kernel
theorem dX7_goOn_360 : decode cX7_goOn 360 = .ok (.aload_n 0, 1) := by decide +kernel
theorem dX7_goOn_361 : decode cX7_goOn 361 = .ok (.getfield 41, 3) := by decide +kernel
theorem dX7_goOn_364 : decode cX7_goOn 364 = .ok (.iload_n 3, 1) := by decide +kernel
theorem dX7_goOn_365 : decode cX7_goOn 365 = .ok (.iaload, 1) := by decide +kernel
theorem dX7_goOn_366 : decode cX7_goOn 366 = .ok (.bipush 7, 2) := by decide +kernel
theorem dX7_goOn_368 : decode cX7_goOn 368 = .ok (.if_icmp .ne 60, 3) := by decide +kernel
theorem dX7_goOn_371 : decode cX7_goOn 371 = .ok (.aload_n 0, 1) := by decide +kernel
theorem dX7_goOn_372 : decode cX7_goOn 372 = .ok (.getfield 126, 3) := by decide +kernel
theorem dX7_goOn_375 : decode cX7_goOn 375 = .ok (.bipush 8, 2) := by decide +kernel
theorem dX7_goOn_377 : decode cX7_goOn 377 = .ok (.if_icmp .ge 28, 3) := by decide +kernel
theorem dX7_goOn_380 : decode cX7_goOn 380 = .ok (.aload_n 0, 1) := by decide +kernel
theorem dX7_goOn_381 : decode cX7_goOn 381 = .ok (.iconst 4, 1) := by decide +kernel
theorem dX7_goOn_382 : decode cX7_goOn 382 = .ok (.bipush 10, 2) := by decide +kernel
theorem dX7_goOn_384 : decode cX7_goOn 384 = .ok (.aload_n 0, 1) := by decide +kernel
theorem dX7_goOn_385 : decode cX7_goOn 385 = .ok (.getfield 41, 3) := by decide +kernel
theorem dX7_goOn_388 : decode cX7_goOn 388 = .ok (.iload_n 3, 1) := by decide +kernel
theorem dX7_goOn_389 : decode cX7_goOn 389 = .ok (.iconst 1, 1) := by decide +kernel
theorem dX7_goOn_390 : decode cX7_goOn 390 = .ok (.iadd, 1) := by decide +kernel
theorem dX7_goOn_391 : decode cX7_goOn 391 = .ok (.iaload, 1) := by decide +kernel
theorem dX7_goOn_392 : decode cX7_goOn 392 = .ok (.imul, 1) := by decide +kernel
theorem dX7_goOn_393 : decode cX7_goOn 393 = .ok (.aload_n 0, 1) := by decide +kernel
theorem dX7_goOn_394 : decode cX7_goOn 394 = .ok (.getfield 41, 3) := by decide +kernel
theorem dX7_goOn_397 : decode cX7_goOn 397 = .ok (.iload_n 3, 1) := by decide +kernel
theorem dX7_goOn_398 : decode cX7_goOn 398 = .ok (.iconst 2, 1) := by decide +kernel
theorem dX7_goOn_399 : decode cX7_goOn 399 = .ok (.iadd, 1) := by decide +kernel
theorem dX7_goOn_400 : decode cX7_goOn 400 = .ok (.iaload, 1) := by decide +kernel
theorem dX7_goOn_401 : decode cX7_goOn 401 = .ok (.iadd, 1) := by decide +kernel
theorem dX7_goOn_402 : decode cX7_goOn 402 = .ok (.invokevirtual 118, 3) := by decide +kernel
theorem dX7_goOn_405 : decode cX7_goOn 405 = .ok (.aload_n 0, 1) := by decide +kernel
theorem dX7_goOn_406 : decode cX7_goOn 406 = .ok (.aload_n 0, 1) := by decide +kernel
theorem dX7_goOn_407 : decode cX7_goOn 407 = .ok (.getfield 41, 3) := by decide +kernel
theorem dX7_goOn_410 : decode cX7_goOn 410 = .ok (.iload_n 3, 1) := by decide +kernel
theorem dX7_goOn_411 : decode cX7_goOn 411 = .ok (.iconst 1, 1) := by decide +kernel
theorem dX7_goOn_412 : decode cX7_goOn 412 = .ok (.iadd, 1) := by decide +kernel
theorem dX7_goOn_413 : decode cX7_goOn 413 = .ok (.iaload, 1) := by decide +kernel
theorem dX7_goOn_414 : decode cX7_goOn 414 = .ok (.aload_n 0, 1) := by decide +kernel
theorem dX7_goOn_415 : decode cX7_goOn 415 = .ok (.getfield 41, 3) := by decide +kernel
theorem dX7_goOn_418 : decode cX7_goOn 418 = .ok (.iload_n 3, 1) := by decide +kernel
theorem dX7_goOn_419 : decode cX7_goOn 419 = .ok (.iconst 2, 1) := by decide +kernel
theorem dX7_goOn_420 : decode cX7_goOn 420 = .ok (.iadd, 1) := by decide +kernel
theorem dX7_goOn_421 : decode cX7_goOn 421 = .ok (.iaload, 1) := by decide +kernel
theorem dX7_goOn_422 : decode cX7_goOn 422 = .ok (.invokevirtual 136, 3) := by decide +kernel
theorem dX7_goOn_425 : decode cX7_goOn 425 = .ok (.goto 47, 3) := by decide +kernel
theorem dX7_goOn_428 : decode cX7_goOn 428 = .ok (.aload_n 0, 1) := by decide +kernel
theorem dX7_goOn_429 : decode cX7_goOn 429 = .ok (.aload_n 0, 1) := by decide +kernel
theorem dX7_goOn_430 : decode cX7_goOn 430 = .ok (.aload_n 0, 1) := by decide +kernel
theorem dX7_goOn_431 : decode cX7_goOn 431 = .ok (.getfield 60, 3) := by decide +kernel
theorem dX7_goOn_434 : decode cX7_goOn 434 = .ok (.iload_n 1, 1) := by decide +kernel
theorem dX7_goOn_435 : decode cX7_goOn 435 = .ok (.iaload, 1) := by decide +kernel
theorem dX7_goOn_436 : decode cX7_goOn 436 = .ok (.aload_n 0, 1) := by decide +kernel
theorem dX7_goOn_437 : decode cX7_goOn 437 = .ok (.getfield 41, 3) := by decide +kernel
theorem dX7_goOn_440 : decode cX7_goOn 440 = .ok (.iload_n 3, 1) := by decide +kernel
theorem dX7_goOn_441 : decode cX7_goOn 441 = .ok (.iaload, 1) := by decide +kernel
theorem dX7_goOn_442 : decode cX7_goOn 442 = .ok (.aload_n 0, 1) := by decide +kernel
theorem dX7_goOn_443 : decode cX7_goOn 443 = .ok (.getfield 41, 3) := by decide +kernel
theorem dX7_goOn_446 : decode cX7_goOn 446 = .ok (.iload_n 3, 1) := by decide +kernel
theorem dX7_goOn_447 : decode cX7_goOn 447 = .ok (.iconst 1, 1) := by decide +kernel
theorem dX7_goOn_448 : decode cX7_goOn 448 = .ok (.iadd, 1) := by decide +kernel
theorem dX7_goOn_449 : decode cX7_goOn 449 = .ok (.iaload, 1) := by decide +kernel
theorem dX7_goOn_450 : decode cX7_goOn 450 = .ok (.aload_n 0, 1) := by decide +kernel
theorem dX7_goOn_451 : decode cX7_goOn 451 = .ok (.getfield 41, 3) := by decide +kernel
theorem dX7_goOn_454 : decode cX7_goOn 454 = .ok (.iload_n 3, 1) := by decide +kernel
theorem dX7_goOn_455 : decode cX7_goOn 455 = .ok (.iconst 2, 1) := by decide +kernel
theorem dX7_goOn_456 : decode cX7_goOn 456 = .ok (.iadd, 1) := by decide +kernel
theorem dX7_goOn_457 : decode cX7_goOn 457 = .ok (.iaload, 1) := by decide +kernel
theorem dX7_goOn_458 : decode cX7_goOn 458 = .ok (.aload_n 0, 1) := by decide +kernel
theorem dX7_goOn_459 : decode cX7_goOn 459 = .ok (.getfield 41, 3) := by decide +kernel
theorem dX7_goOn_462 : decode cX7_goOn 462 = .ok (.iload_n 3, 1) := by decide +kernel
theorem dX7_goOn_463 : decode cX7_goOn 463 = .ok (.iconst 3, 1) := by decide +kernel
theorem dX7_goOn_464 : decode cX7_goOn 464 = .ok (.iadd, 1) := by decide +kernel
theorem dX7_goOn_465 : decode cX7_goOn 465 = .ok (.iaload, 1) := by decide +kernel
theorem dX7_goOn_466 : decode cX7_goOn 466 = .ok (.invokevirtual 152, 3) := by decide +kernel
theorem dX7_goOn_469 : decode cX7_goOn 469 = .ok (.putfield 115, 3) := by decide +kernel
theorem dX7_goOn_472 : decode cX7_goOn 472 = .ok (.return_, 1) := by decide +kernel
theorem dX7_wants_0 : decode cX7_wants 0 = .ok (.iload_n 1, 1) := by decide +kernel
theorem dX7_wants_1 : decode cX7_wants 1 = .ok (.iconst 1, 1) := by decide +kernel
theorem dX7_wants_2 : decode cX7_wants 2 = .ok (.if_icmp .lt 28, 3) := by decide +kernel
theorem dX7_wants_5 : decode cX7_wants 5 = .ok (.iload_n 1, 1) := by decide +kernel
theorem dX7_wants_6 : decode cX7_wants 6 = .ok (.iconst 3, 1) := by decide +kernel
theorem dX7_wants_7 : decode cX7_wants 7 = .ok (.if_icmp .gt 23, 3) := by decide +kernel
theorem dX7_wants_10 : decode cX7_wants 10 = .ok (.aload_n 0, 1) := by decide +kernel
theorem dX7_wants_11 : decode cX7_wants 11 = .ok (.getfield 29, 3) := by decide +kernel
theorem dX7_wants_14 : decode cX7_wants 14 = .ok (.iconst 4, 1) := by decide +kernel
theorem dX7_wants_15 : decode cX7_wants 15 = .ok (.iload_n 3, 1) := by decide +kernel
theorem dX7_wants_16 : decode cX7_wants 16 = .ok (.imul, 1) := by decide +kernel
theorem dX7_wants_17 : decode cX7_wants 17 = .ok (.iload 4, 2) := by decide +kernel
theorem dX7_wants_19 : decode cX7_wants 19 = .ok (.iadd, 1) := by decide +kernel
theorem dX7_wants_20 : decode cX7_wants 20 = .ok (.baload, 1) := by decide +kernel
theorem dX7_wants_21 : decode cX7_wants 21 = .ok (.ifCond .eq 7, 3) := by decide +kernel
theorem dX7_wants_24 : decode cX7_wants 24 = .ok (.iconst (-1), 1) := by decide +kernel
theorem dX7_wants_25 : decode cX7_wants 25 = .ok (.goto 4, 3) := by decide +kernel
theorem dX7_wants_28 : decode cX7_wants 28 = .ok (.iload_n 3, 1) := by decide +kernel
theorem dX7_wants_29 : decode cX7_wants 29 = .ok (.ireturn, 1) := by decide +kernel
theorem dX7_wants_30 : decode cX7_wants 30 = .ok (.iload_n 1, 1) := by decide +kernel
theorem dX7_wants_31 : decode cX7_wants 31 = .ok (.bipush 7, 2) := by decide +kernel
theorem dX7_wants_33 : decode cX7_wants 33 = .ok (.if_icmp .eq 9, 3) := by decide +kernel
theorem dX7_wants_36 : decode cX7_wants 36 = .ok (.iload_n 1, 1) := by decide +kernel
theorem dX7_wants_37 : decode cX7_wants 37 = .ok (.bipush 8, 2) := by decide +kernel
theorem dX7_wants_39 : decode cX7_wants 39 = .ok (.if_icmp .ne 7, 3) := by decide +kernel
theorem dX7_wants_42 : decode cX7_wants 42 = .ok (.iload_n 2, 1) := by decide +kernel
theorem dX7_wants_43 : decode cX7_wants 43 = .ok (.goto 4, 3) := by decide +kernel
theorem dX7_wants_46 : decode cX7_wants 46 = .ok (.iconst (-1), 1) := by decide +kernel
theorem dX7_wants_47 : decode cX7_wants 47 = .ok (.ireturn, 1) := by decide +kernel
theorem dX7_set_0 : decode cX7_set 0 = .ok (.aload_n 0, 1) := by decide +kernel
theorem dX7_set_1 : decode cX7_set 1 = .ok (.getfield 29, 3) := by decide +kernel
theorem dX7_set_4 : decode cX7_set 4 = .ok (.iconst 4, 1) := by decide +kernel
theorem dX7_set_5 : decode cX7_set 5 = .ok (.iload_n 1, 1) := by decide +kernel
theorem dX7_set_6 : decode cX7_set 6 = .ok (.imul, 1) := by decide +kernel
theorem dX7_set_7 : decode cX7_set 7 = .ok (.iload_n 2, 1) := by decide +kernel
theorem dX7_set_8 : decode cX7_set 8 = .ok (.iadd, 1) := by decide +kernel
theorem dX7_set_9 : decode cX7_set 9 = .ok (.baload, 1) := by decide +kernel
theorem dX7_set_10 : decode cX7_set 10 = .ok (.ifCond .ne 14, 3) := by decide +kernel
theorem dX7_set_13 : decode cX7_set 13 = .ok (.aload_n 0, 1) := by decide +kernel
theorem dX7_set_14 : decode cX7_set 14 = .ok (.getfield 26, 3) := by decide +kernel
theorem dX7_set_17 : decode cX7_set 17 = .ok (.iconst 4, 1) := by decide +kernel
theorem dX7_set_18 : decode cX7_set 18 = .ok (.iload_n 1, 1) := by decide +kernel
theorem dX7_set_19 : decode cX7_set 19 = .ok (.imul, 1) := by decide +kernel
theorem dX7_set_20 : decode cX7_set 20 = .ok (.iload_n 2, 1) := by decide +kernel
theorem dX7_set_21 : decode cX7_set 21 = .ok (.iadd, 1) := by decide +kernel
theorem dX7_set_22 : decode cX7_set 22 = .ok (.iload_n 3, 1) := by decide +kernel
theorem dX7_set_23 : decode cX7_set 23 = .ok (.iastore, 1) := by decide +kernel
theorem dX7_set_24 : decode cX7_set 24 = .ok (.return_, 1) := by decide +kernel
theorem dX7_get_0 : decode cX7_get 0 = .ok (.aload_n 0, 1) := by decide +kernel
theorem dX7_get_1 : decode cX7_get 1 = .ok (.getfield 26, 3) := by decide +kernel
theorem dX7_get_4 : decode cX7_get 4 = .ok (.iconst 4, 1) := by decide +kernel
theorem dX7_get_5 : decode cX7_get 5 = .ok (.iload_n 1, 1) := by decide +kernel
theorem dX7_get_6 : decode cX7_get 6 = .ok (.imul, 1) := by decide +kernel
theorem dX7_get_7 : decode cX7_get 7 = .ok (.iload_n 2, 1) := by decide +kernel
theorem dX7_get_8 : decode cX7_get 8 = .ok (.iadd, 1) := by decide +kernel
theorem dX7_get_9 : decode cX7_get 9 = .ok (.iaload, 1) := by decide +kernel
theorem dX7_get_10 : decode cX7_get 10 = .ok (.ireturn, 1) := by decide +kernel
theorem dX7_doOne_0 : decode cX7_doOne 0 = .ok (.iload_n 2, 1) := by decide +kernel
theorem dX7_doOne_1 : decode cX7_doOne 1 = .ok (.tableswitch 128 0 10 #[59, 69, 69, 69, 81, 93, 93, 128, 112, 114, 120], 59) := by decide +kernel
theorem dX7_doOne_60 : decode cX7_doOne 60 = .ok (.aload_n 0, 1) := by decide +kernel
theorem dX7_doOne_61 : decode cX7_doOne 61 = .ok (.iload_n 1, 1) := by decide +kernel
theorem dX7_doOne_62 : decode cX7_doOne 62 = .ok (.iload_n 3, 1) := by decide +kernel
theorem dX7_doOne_63 : decode cX7_doOne 63 = .ok (.iload 4, 2) := by decide +kernel
theorem dX7_doOne_65 : decode cX7_doOne 65 = .ok (.invokevirtual 156, 3) := by decide +kernel
theorem dX7_doOne_68 : decode cX7_doOne 68 = .ok (.iconst (-1), 1) := by decide +kernel
theorem dX7_doOne_69 : decode cX7_doOne 69 = .ok (.ireturn, 1) := by decide +kernel
theorem dX7_doOne_70 : decode cX7_doOne 70 = .ok (.aload_n 0, 1) := by decide +kernel
theorem dX7_doOne_71 : decode cX7_doOne 71 = .ok (.iload_n 1, 1) := by decide +kernel
theorem dX7_doOne_72 : decode cX7_doOne 72 = .ok (.iload_n 2, 1) := by decide +kernel
theorem dX7_doOne_73 : decode cX7_doOne 73 = .ok (.iload_n 3, 1) := by decide +kernel
theorem dX7_doOne_74 : decode cX7_doOne 74 = .ok (.iload 4, 2) := by decide +kernel
theorem dX7_doOne_76 : decode cX7_doOne 76 = .ok (.iload 5, 2) := by decide +kernel
theorem dX7_doOne_78 : decode cX7_doOne 78 = .ok (.invokevirtual 159, 3) := by decide +kernel
theorem dX7_doOne_81 : decode cX7_doOne 81 = .ok (.ireturn, 1) := by decide +kernel
theorem dX7_doOne_82 : decode cX7_doOne 82 = .ok (.aload_n 0, 1) := by decide +kernel
theorem dX7_doOne_83 : decode cX7_doOne 83 = .ok (.iload_n 1, 1) := by decide +kernel
theorem dX7_doOne_84 : decode cX7_doOne 84 = .ok (.aload_n 0, 1) := by decide +kernel
theorem dX7_doOne_85 : decode cX7_doOne 85 = .ok (.iload_n 1, 1) := by decide +kernel
theorem dX7_doOne_86 : decode cX7_doOne 86 = .ok (.iload_n 3, 1) := by decide +kernel
theorem dX7_doOne_87 : decode cX7_doOne 87 = .ok (.invokevirtual 162, 3) := by decide +kernel
theorem dX7_doOne_90 : decode cX7_doOne 90 = .ok (.invokevirtual 166, 3) := by decide +kernel
theorem dX7_doOne_93 : decode cX7_doOne 93 = .ok (.ireturn, 1) := by decide +kernel
theorem dX7_doOne_94 : decode cX7_doOne 94 = .ok (.aload_n 0, 1) := by decide +kernel
theorem dX7_doOne_95 : decode cX7_doOne 95 = .ok (.iload_n 1, 1) := by decide +kernel
theorem dX7_doOne_96 : decode cX7_doOne 96 = .ok (.iload_n 2, 1) := by decide +kernel
theorem dX7_doOne_97 : decode cX7_doOne 97 = .ok (.iconst 5, 1) := by decide +kernel
theorem dX7_doOne_98 : decode cX7_doOne 98 = .ok (.if_icmp .ne 7, 3) := by decide +kernel
theorem dX7_doOne_101 : decode cX7_doOne 101 = .ok (.iconst 1, 1) := by decide +kernel
theorem dX7_doOne_102 : decode cX7_doOne 102 = .ok (.goto 4, 3) := by decide +kernel
theorem dX7_doOne_105 : decode cX7_doOne 105 = .ok (.iconst 0, 1) := by decide +kernel
theorem dX7_doOne_106 : decode cX7_doOne 106 = .ok (.iload_n 3, 1) := by decide +kernel
theorem dX7_doOne_107 : decode cX7_doOne 107 = .ok (.iload 4, 2) := by decide +kernel
theorem dX7_doOne_109 : decode cX7_doOne 109 = .ok (.invokevirtual 169, 3) := by decide +kernel
theorem dX7_doOne_112 : decode cX7_doOne 112 = .ok (.ireturn, 1) := by decide +kernel
theorem dX7_doOne_113 : decode cX7_doOne 113 = .ok (.iconst (-1), 1) := by decide +kernel
theorem dX7_doOne_114 : decode cX7_doOne 114 = .ok (.ireturn, 1) := by decide +kernel
theorem dX7_doOne_115 : decode cX7_doOne 115 = .ok (.aload_n 0, 1) := by decide +kernel
theorem dX7_doOne_116 : decode cX7_doOne 116 = .ok (.iload_n 3, 1) := by decide +kernel
theorem dX7_doOne_117 : decode cX7_doOne 117 = .ok (.invokevirtual 111, 3) := by decide +kernel
theorem dX7_doOne_120 : decode cX7_doOne 120 = .ok (.ireturn, 1) := by decide +kernel
theorem dX7_doOne_121 : decode cX7_doOne 121 = .ok (.aload_n 0, 1) := by decide +kernel
theorem dX7_doOne_122 : decode cX7_doOne 122 = .ok (.iconst 3, 1) := by decide +kernel
theorem dX7_doOne_123 : decode cX7_doOne 123 = .ok (.iload_n 3, 1) := by decide +kernel
theorem dX7_doOne_124 : decode cX7_doOne 124 = .ok (.invokevirtual 118, 3) := by decide +kernel
theorem dX7_doOne_127 : decode cX7_doOne 127 = .ok (.iconst (-1), 1) := by decide +kernel
theorem dX7_doOne_128 : decode cX7_doOne 128 = .ok (.ireturn, 1) := by decide +kernel
theorem dX7_doOne_129 : decode cX7_doOne 129 = .ok (.aload_n 0, 1) := by decide +kernel
theorem dX7_doOne_130 : decode cX7_doOne 130 = .ok (.getfield 32, 3) := by decide +kernel
theorem dX7_doOne_133 : decode cX7_doOne 133 = .ok (.iload_n 1, 1) := by decide +kernel
theorem dX7_doOne_134 : decode cX7_doOne 134 = .ok (.iconst 0, 1) := by decide +kernel
theorem dX7_doOne_135 : decode cX7_doOne 135 = .ok (.iastore, 1) := by decide +kernel
theorem dX7_doOne_136 : decode cX7_doOne 136 = .ok (.iconst (-1), 1) := by decide +kernel
theorem dX7_doOne_137 : decode cX7_doOne 137 = .ok (.ireturn, 1) := by decide +kernel
theorem dX7_other_0 : decode cX7_other 0 = .ok (.aload_n 0, 1) := by decide +kernel
theorem dX7_other_1 : decode cX7_other 1 = .ok (.getfield 29, 3) := by decide +kernel
theorem dX7_other_4 : decode cX7_other 4 = .ok (.iconst 4, 1) := by decide +kernel
theorem dX7_other_5 : decode cX7_other 5 = .ok (.iload 4, 2) := by decide +kernel
theorem dX7_other_7 : decode cX7_other 7 = .ok (.imul, 1) := by decide +kernel
theorem dX7_other_8 : decode cX7_other 8 = .ok (.iload 5, 2) := by decide +kernel
theorem dX7_other_10 : decode cX7_other 10 = .ok (.iadd, 1) := by decide +kernel
theorem dX7_other_11 : decode cX7_other 11 = .ok (.baload, 1) := by decide +kernel
theorem dX7_other_12 : decode cX7_other 12 = .ok (.ifCond .ne 7, 3) := by decide +kernel
theorem dX7_other_15 : decode cX7_other 15 = .ok (.iconst 1, 1) := by decide +kernel
theorem dX7_other_16 : decode cX7_other 16 = .ok (.goto 4, 3) := by decide +kernel
theorem dX7_other_19 : decode cX7_other 19 = .ok (.iconst 0, 1) := by decide +kernel
theorem dX7_other_20 : decode cX7_other 20 = .ok (.istore 6, 2) := by decide +kernel
theorem dX7_other_22 : decode cX7_other 22 = .ok (.iload_n 2, 1) := by decide +kernel
end
section
theorem dX7_other_23 : decode cX7_other 23 = .ok (.iconst 2, 1) := by decide +kernel
theorem dX7_other_24 : decode cX7_other 24 = .ok (.if_icmp .ne 19, 3) := by decide +kernel
theorem dX7_other_27 : decode cX7_other 27 = .ok (.aload_n 0, 1) := by decide +kernel
theorem dX7_other_28 : decode cX7_other 28 = .ok (.iload 4, 2) := by decide +kernel
theorem dX7_other_30 : decode cX7_other 30 = .ok (.iload 5, 2) := by decide +kernel
theorem dX7_other_32 : decode cX7_other 32 = .ok (.aload_n 0, 1) := by decide +kernel
theorem dX7_other_33 : decode cX7_other 33 = .ok (.iload_n 1, 1) := by decide +kernel
theorem dX7_other_34 : decode cX7_other 34 = .ok (.iload_n 3, 1) := by decide +kernel
theorem dX7_other_35 : decode cX7_other 35 = .ok (.invokevirtual 162, 3) := by decide +kernel
theorem dX7_other_38 : decode cX7_other 38 = .ok (.invokevirtual 156, 3) := by decide +kernel
theorem dX7_other_41 : decode cX7_other 41 = .ok (.iconst (-1), 1) := by decide +kernel
theorem dX7_other_42 : decode cX7_other 42 = .ok (.ireturn, 1) := by decide +kernel
theorem dX7_other_43 : decode cX7_other 43 = .ok (.aload_n 0, 1) := by decide +kernel
theorem dX7_other_44 : decode cX7_other 44 = .ok (.dup, 1) := by decide +kernel
theorem dX7_other_45 : decode cX7_other 45 = .ok (.getfield 173, 3) := by decide +kernel
theorem dX7_other_48 : decode cX7_other 48 = .ok (.iload 6, 2) := by decide +kernel
theorem dX7_other_50 : decode cX7_other 50 = .ok (.ifCond .eq 24, 3) := by decide +kernel
theorem dX7_other_53 : decode cX7_other 53 = .ok (.iload 4, 2) := by decide +kernel
theorem dX7_other_55 : decode cX7_other 55 = .ok (.iload_n 1, 1) := by decide +kernel
theorem dX7_other_56 : decode cX7_other 56 = .ok (.if_icmp .eq 18, 3) := by decide +kernel
theorem dX7_other_59 : decode cX7_other 59 = .ok (.aload_n 0, 1) := by decide +kernel
theorem dX7_other_60 : decode cX7_other 60 = .ok (.getfield 44, 3) := by decide +kernel
theorem dX7_other_63 : decode cX7_other 63 = .ok (.iload 4, 2) := by decide +kernel
theorem dX7_other_65 : decode cX7_other 65 = .ok (.iaload, 1) := by decide +kernel
theorem dX7_other_66 : decode cX7_other 66 = .ok (.iconst 1, 1) := by decide +kernel
theorem dX7_other_67 : decode cX7_other 67 = .ok (.if_icmp .ne 7, 3) := by decide +kernel
theorem dX7_other_70 : decode cX7_other 70 = .ok (.iconst 1, 1) := by decide +kernel
theorem dX7_other_71 : decode cX7_other 71 = .ok (.goto 4, 3) := by decide +kernel
theorem dX7_other_74 : decode cX7_other 74 = .ok (.iconst 0, 1) := by decide +kernel
theorem dX7_other_75 : decode cX7_other 75 = .ok (.iadd, 1) := by decide +kernel
theorem dX7_other_76 : decode cX7_other 76 = .ok (.putfield 173, 3) := by decide +kernel
theorem dX7_other_79 : decode cX7_other 79 = .ok (.aload_n 0, 1) := by decide +kernel
theorem dX7_other_80 : decode cX7_other 80 = .ok (.iload 4, 2) := by decide +kernel
theorem dX7_other_82 : decode cX7_other 82 = .ok (.iload 5, 2) := by decide +kernel
theorem dX7_other_84 : decode cX7_other 84 = .ok (.invokevirtual 162, 3) := by decide +kernel
theorem dX7_other_87 : decode cX7_other 87 = .ok (.istore 7, 2) := by decide +kernel
theorem dX7_other_89 : decode cX7_other 89 = .ok (.iload_n 2, 1) := by decide +kernel
theorem dX7_other_90 : decode cX7_other 90 = .ok (.iconst 1, 1) := by decide +kernel
theorem dX7_other_91 : decode cX7_other 91 = .ok (.if_icmp .ne 20, 3) := by decide +kernel
theorem dX7_other_94 : decode cX7_other 94 = .ok (.aload_n 0, 1) := by decide +kernel
theorem dX7_other_95 : decode cX7_other 95 = .ok (.iload_n 1, 1) := by decide +kernel
theorem dX7_other_96 : decode cX7_other 96 = .ok (.iload_n 3, 1) := by decide +kernel
theorem dX7_other_97 : decode cX7_other 97 = .ok (.aload_n 0, 1) := by decide +kernel
theorem dX7_other_98 : decode cX7_other 98 = .ok (.iload_n 1, 1) := by decide +kernel
theorem dX7_other_99 : decode cX7_other 99 = .ok (.iload_n 3, 1) := by decide +kernel
theorem dX7_other_100 : decode cX7_other 100 = .ok (.invokevirtual 162, 3) := by decide +kernel
theorem dX7_other_103 : decode cX7_other 103 = .ok (.iload 7, 2) := by decide +kernel
theorem dX7_other_105 : decode cX7_other 105 = .ok (.iadd, 1) := by decide +kernel
theorem dX7_other_106 : decode cX7_other 106 = .ok (.invokevirtual 156, 3) := by decide +kernel
theorem dX7_other_109 : decode cX7_other 109 = .ok (.iconst (-1), 1) := by decide +kernel
theorem dX7_other_110 : decode cX7_other 110 = .ok (.ireturn, 1) := by decide +kernel
theorem dX7_other_111 : decode cX7_other 111 = .ok (.iload 7, 2) := by decide +kernel
theorem dX7_other_113 : decode cX7_other 113 = .ok (.ifCond .ne 9, 3) := by decide +kernel
theorem dX7_other_116 : decode cX7_other 116 = .ok (.aload_n 0, 1) := by decide +kernel
theorem dX7_other_117 : decode cX7_other 117 = .ok (.iconst 3, 1) := by decide +kernel
theorem dX7_other_118 : decode cX7_other 118 = .ok (.invokevirtual 111, 3) := by decide +kernel
theorem dX7_other_121 : decode cX7_other 121 = .ok (.ireturn, 1) := by decide +kernel
theorem dX7_other_122 : decode cX7_other 122 = .ok (.aload_n 0, 1) := by decide +kernel
theorem dX7_other_123 : decode cX7_other 123 = .ok (.iload_n 1, 1) := by decide +kernel
theorem dX7_other_124 : decode cX7_other 124 = .ok (.iload_n 3, 1) := by decide +kernel
theorem dX7_other_125 : decode cX7_other 125 = .ok (.aload_n 0, 1) := by decide +kernel
theorem dX7_other_126 : decode cX7_other 126 = .ok (.iload_n 1, 1) := by decide +kernel
theorem dX7_other_127 : decode cX7_other 127 = .ok (.iload_n 3, 1) := by decide +kernel
theorem dX7_other_128 : decode cX7_other 128 = .ok (.invokevirtual 162, 3) := by decide +kernel
theorem dX7_other_131 : decode cX7_other 131 = .ok (.iload 7, 2) := by decide +kernel
theorem dX7_other_133 : decode cX7_other 133 = .ok (.idiv, 1) := by decide +kernel
theorem dX7_other_134 : decode cX7_other 134 = .ok (.invokevirtual 156, 3) := by decide +kernel
theorem dX7_other_137 : decode cX7_other 137 = .ok (.iconst (-1), 1) := by decide +kernel
theorem dX7_other_138 : decode cX7_other 138 = .ok (.ireturn, 1) := by decide +kernel
theorem dX7_newRow_0 : decode cX7_newRow 0 = .ok (.iload_n 2, 1) := by decide +kernel
theorem dX7_newRow_1 : decode cX7_newRow 1 = .ok (.ifCond .ge 10, 3) := by decide +kernel
theorem dX7_newRow_4 : decode cX7_newRow 4 = .ok (.aload_n 0, 1) := by decide +kernel
theorem dX7_newRow_5 : decode cX7_newRow 5 = .ok (.bipush 6, 2) := by decide +kernel
theorem dX7_newRow_7 : decode cX7_newRow 7 = .ok (.invokevirtual 111, 3) := by decide +kernel
theorem dX7_newRow_10 : decode cX7_newRow 10 = .ok (.ireturn, 1) := by decide +kernel
theorem dX7_newRow_11 : decode cX7_newRow 11 = .ok (.iload_n 2, 1) := by decide +kernel
theorem dX7_newRow_12 : decode cX7_newRow 12 = .ok (.bipush 20, 2) := by decide +kernel
theorem dX7_newRow_14 : decode cX7_newRow 14 = .ok (.if_icmp .le 8, 3) := by decide +kernel
theorem dX7_newRow_17 : decode cX7_newRow 17 = .ok (.bipush 20, 2) := by decide +kernel
theorem dX7_newRow_19 : decode cX7_newRow 19 = .ok (.goto 4, 3) := by decide +kernel
theorem dX7_newRow_22 : decode cX7_newRow 22 = .ok (.iload_n 2, 1) := by decide +kernel
theorem dX7_newRow_23 : decode cX7_newRow 23 = .ok (.istore_n 3, 1) := by decide +kernel
theorem dX7_newRow_24 : decode cX7_newRow 24 = .ok (.aload_n 0, 1) := by decide +kernel
theorem dX7_newRow_25 : decode cX7_newRow 25 = .ok (.getfield 32, 3) := by decide +kernel
theorem dX7_newRow_28 : decode cX7_newRow 28 = .ok (.iload_n 1, 1) := by decide +kernel
theorem dX7_newRow_29 : decode cX7_newRow 29 = .ok (.iload_n 3, 1) := by decide +kernel
theorem dX7_newRow_30 : decode cX7_newRow 30 = .ok (.iconst 1, 1) := by decide +kernel
theorem dX7_newRow_31 : decode cX7_newRow 31 = .ok (.iadd, 1) := by decide +kernel
theorem dX7_newRow_32 : decode cX7_newRow 32 = .ok (.iastore, 1) := by decide +kernel
theorem dX7_newRow_33 : decode cX7_newRow 33 = .ok (.iconst 0, 1) := by decide +kernel
theorem dX7_newRow_34 : decode cX7_newRow 34 = .ok (.istore 4, 2) := by decide +kernel
theorem dX7_newRow_36 : decode cX7_newRow 36 = .ok (.iload 4, 2) := by decide +kernel
theorem dX7_newRow_38 : decode cX7_newRow 38 = .ok (.iload_n 3, 1) := by decide +kernel
theorem dX7_newRow_39 : decode cX7_newRow 39 = .ok (.if_icmp .ge 22, 3) := by decide +kernel
theorem dX7_newRow_42 : decode cX7_newRow 42 = .ok (.aload_n 0, 1) := by decide +kernel
theorem dX7_newRow_43 : decode cX7_newRow 43 = .ok (.getfield 35, 3) := by decide +kernel
theorem dX7_newRow_46 : decode cX7_newRow 46 = .ok (.bipush 20, 2) := by decide +kernel
theorem dX7_newRow_48 : decode cX7_newRow 48 = .ok (.iload_n 1, 1) := by decide +kernel
theorem dX7_newRow_49 : decode cX7_newRow 49 = .ok (.imul, 1) := by decide +kernel
theorem dX7_newRow_50 : decode cX7_newRow 50 = .ok (.iload 4, 2) := by decide +kernel
theorem dX7_newRow_52 : decode cX7_newRow 52 = .ok (.iadd, 1) := by decide +kernel
theorem dX7_newRow_53 : decode cX7_newRow 53 = .ok (.iconst 0, 1) := by decide +kernel
theorem dX7_newRow_54 : decode cX7_newRow 54 = .ok (.iastore, 1) := by decide +kernel
theorem dX7_newRow_55 : decode cX7_newRow 55 = .ok (.iinc 4 1, 3) := by decide +kernel
theorem dX7_newRow_58 : decode cX7_newRow 58 = .ok (.goto (-22), 3) := by decide +kernel
theorem dX7_newRow_61 : decode cX7_newRow 61 = .ok (.iconst (-1), 1) := by decide +kernel
theorem dX7_newRow_62 : decode cX7_newRow 62 = .ok (.ireturn, 1) := by decide +kernel
theorem dX7_inOut_0 : decode cX7_inOut 0 = .ok (.aload_n 0, 1) := by decide +kernel
theorem dX7_inOut_1 : decode cX7_inOut 1 = .ok (.getfield 32, 3) := by decide +kernel
theorem dX7_inOut_4 : decode cX7_inOut 4 = .ok (.iload_n 1, 1) := by decide +kernel
theorem dX7_inOut_5 : decode cX7_inOut 5 = .ok (.iaload, 1) := by decide +kernel
theorem dX7_inOut_6 : decode cX7_inOut 6 = .ok (.ifCond .ne 9, 3) := by decide +kernel
theorem dX7_inOut_9 : decode cX7_inOut 9 = .ok (.aload_n 0, 1) := by decide +kernel
theorem dX7_inOut_10 : decode cX7_inOut 10 = .ok (.iconst 4, 1) := by decide +kernel
theorem dX7_inOut_11 : decode cX7_inOut 11 = .ok (.invokevirtual 111, 3) := by decide +kernel
theorem dX7_inOut_14 : decode cX7_inOut 14 = .ok (.ireturn, 1) := by decide +kernel
theorem dX7_inOut_15 : decode cX7_inOut 15 = .ok (.aload_n 0, 1) := by decide +kernel
theorem dX7_inOut_16 : decode cX7_inOut 16 = .ok (.iload_n 1, 1) := by decide +kernel
theorem dX7_inOut_17 : decode cX7_inOut 17 = .ok (.iload_n 2, 1) := by decide +kernel
theorem dX7_inOut_18 : decode cX7_inOut 18 = .ok (.ifCond .eq 7, 3) := by decide +kernel
theorem dX7_inOut_21 : decode cX7_inOut 21 = .ok (.iload_n 3, 1) := by decide +kernel
theorem dX7_inOut_22 : decode cX7_inOut 22 = .ok (.goto 5, 3) := by decide +kernel
theorem dX7_inOut_25 : decode cX7_inOut 25 = .ok (.iload 4, 2) := by decide +kernel
theorem dX7_inOut_27 : decode cX7_inOut 27 = .ok (.invokevirtual 162, 3) := by decide +kernel
theorem dX7_inOut_30 : decode cX7_inOut 30 = .ok (.istore 5, 2) := by decide +kernel
theorem dX7_inOut_32 : decode cX7_inOut 32 = .ok (.iload 5, 2) := by decide +kernel
theorem dX7_inOut_34 : decode cX7_inOut 34 = .ok (.ifCond .lt 16, 3) := by decide +kernel
theorem dX7_inOut_37 : decode cX7_inOut 37 = .ok (.iload 5, 2) := by decide +kernel
theorem dX7_inOut_39 : decode cX7_inOut 39 = .ok (.aload_n 0, 1) := by decide +kernel
theorem dX7_inOut_40 : decode cX7_inOut 40 = .ok (.getfield 32, 3) := by decide +kernel
theorem dX7_inOut_43 : decode cX7_inOut 43 = .ok (.iload_n 1, 1) := by decide +kernel
theorem dX7_inOut_44 : decode cX7_inOut 44 = .ok (.iaload, 1) := by decide +kernel
theorem dX7_inOut_45 : decode cX7_inOut 45 = .ok (.iconst 1, 1) := by decide +kernel
theorem dX7_inOut_46 : decode cX7_inOut 46 = .ok (.isub, 1) := by decide +kernel
theorem dX7_inOut_47 : decode cX7_inOut 47 = .ok (.if_icmp .lt 9, 3) := by decide +kernel
theorem dX7_inOut_50 : decode cX7_inOut 50 = .ok (.aload_n 0, 1) := by decide +kernel
theorem dX7_inOut_51 : decode cX7_inOut 51 = .ok (.iconst 5, 1) := by decide +kernel
theorem dX7_inOut_52 : decode cX7_inOut 52 = .ok (.invokevirtual 111, 3) := by decide +kernel
theorem dX7_inOut_55 : decode cX7_inOut 55 = .ok (.ireturn, 1) := by decide +kernel
theorem dX7_inOut_56 : decode cX7_inOut 56 = .ok (.iload_n 2, 1) := by decide +kernel
theorem dX7_inOut_57 : decode cX7_inOut 57 = .ok (.ifCond .eq 25, 3) := by decide +kernel
theorem dX7_inOut_60 : decode cX7_inOut 60 = .ok (.aload_n 0, 1) := by decide +kernel
theorem dX7_inOut_61 : decode cX7_inOut 61 = .ok (.getfield 35, 3) := by decide +kernel
theorem dX7_inOut_64 : decode cX7_inOut 64 = .ok (.bipush 20, 2) := by decide +kernel
theorem dX7_inOut_66 : decode cX7_inOut 66 = .ok (.iload_n 1, 1) := by decide +kernel
theorem dX7_inOut_67 : decode cX7_inOut 67 = .ok (.imul, 1) := by decide +kernel
theorem dX7_inOut_68 : decode cX7_inOut 68 = .ok (.iload 5, 2) := by decide +kernel
theorem dX7_inOut_70 : decode cX7_inOut 70 = .ok (.iadd, 1) := by decide +kernel
theorem dX7_inOut_71 : decode cX7_inOut 71 = .ok (.aload_n 0, 1) := by decide +kernel
theorem dX7_inOut_72 : decode cX7_inOut 72 = .ok (.iload_n 1, 1) := by decide +kernel
theorem dX7_inOut_73 : decode cX7_inOut 73 = .ok (.iload 4, 2) := by decide +kernel
theorem dX7_inOut_75 : decode cX7_inOut 75 = .ok (.invokevirtual 162, 3) := by decide +kernel
theorem dX7_inOut_78 : decode cX7_inOut 78 = .ok (.iastore, 1) := by decide +kernel
theorem dX7_inOut_79 : decode cX7_inOut 79 = .ok (.goto 21, 3) := by decide +kernel
theorem dX7_inOut_82 : decode cX7_inOut 82 = .ok (.aload_n 0, 1) := by decide +kernel
theorem dX7_inOut_83 : decode cX7_inOut 83 = .ok (.iload_n 1, 1) := by decide +kernel
theorem dX7_inOut_84 : decode cX7_inOut 84 = .ok (.iload_n 3, 1) := by decide +kernel
theorem dX7_inOut_85 : decode cX7_inOut 85 = .ok (.aload_n 0, 1) := by decide +kernel
theorem dX7_inOut_86 : decode cX7_inOut 86 = .ok (.getfield 35, 3) := by decide +kernel
theorem dX7_inOut_89 : decode cX7_inOut 89 = .ok (.bipush 20, 2) := by decide +kernel
theorem dX7_inOut_91 : decode cX7_inOut 91 = .ok (.iload_n 1, 1) := by decide +kernel
theorem dX7_inOut_92 : decode cX7_inOut 92 = .ok (.imul, 1) := by decide +kernel
theorem dX7_inOut_93 : decode cX7_inOut 93 = .ok (.iload 5, 2) := by decide +kernel
theorem dX7_inOut_95 : decode cX7_inOut 95 = .ok (.iadd, 1) := by decide +kernel
theorem dX7_inOut_96 : decode cX7_inOut 96 = .ok (.iaload, 1) := by decide +kernel
theorem dX7_inOut_97 : decode cX7_inOut 97 = .ok (.invokevirtual 156, 3) := by decide +kernel
theorem dX7_inOut_100 : decode cX7_inOut 100 = .ok (.iconst (-1), 1) := by decide +kernel
theorem dX7_inOut_101 : decode cX7_inOut 101 = .ok (.ireturn, 1) := by decide +kernel
theorem dX7_run_0 : decode cX7_run 0 = .ok (.aload_n 0, 1) := by decide +kernel
theorem dX7_run_1 : decode cX7_run 1 = .ok (.iload_n 1, 1) := by decide +kernel
theorem dX7_run_2 : decode cX7_run 2 = .ok (.invokevirtual 87, 3) := by decide +kernel
theorem dX7_run_5 : decode cX7_run 5 = .ok (.ifCond .ne 6, 3) := by decide +kernel
theorem dX7_run_8 : decode cX7_run 8 = .ok (.bipush (-2), 2) := by decide +kernel
theorem dX7_run_10 : decode cX7_run 10 = .ok (.ireturn, 1) := by decide +kernel
theorem dX7_run_11 : decode cX7_run 11 = .ok (.iload_n 2, 1) := by decide +kernel
theorem dX7_run_12 : decode cX7_run 12 = .ok (.iconst 1, 1) := by decide +kernel
theorem dX7_run_13 : decode cX7_run 13 = .ok (.if_icmp .lt 8, 3) := by decide +kernel
theorem dX7_run_16 : decode cX7_run 16 = .ok (.iload_n 2, 1) := by decide +kernel
theorem dX7_run_17 : decode cX7_run 17 = .ok (.iconst 3, 1) := by decide +kernel
theorem dX7_run_18 : decode cX7_run 18 = .ok (.if_icmp .le 6, 3) := by decide +kernel
theorem dX7_run_21 : decode cX7_run 21 = .ok (.bipush (-3), 2) := by decide +kernel
theorem dX7_run_23 : decode cX7_run 23 = .ok (.ireturn, 1) := by decide +kernel
theorem dX7_run_24 : decode cX7_run 24 = .ok (.aload_n 0, 1) := by decide +kernel
theorem dX7_run_25 : decode cX7_run 25 = .ok (.iconst 0, 1) := by decide +kernel
theorem dX7_run_26 : decode cX7_run 26 = .ok (.putfield 102, 3) := by decide +kernel
theorem dX7_run_29 : decode cX7_run 29 = .ok (.aload_n 0, 1) := by decide +kernel
theorem dX7_run_30 : decode cX7_run 30 = .ok (.iconst 0, 1) := by decide +kernel
theorem dX7_run_31 : decode cX7_run 31 = .ok (.putfield 173, 3) := by decide +kernel
theorem dX7_run_34 : decode cX7_run 34 = .ok (.aload_n 0, 1) := by decide +kernel
theorem dX7_run_35 : decode cX7_run 35 = .ok (.iconst 0, 1) := by decide +kernel
theorem dX7_run_36 : decode cX7_run 36 = .ok (.putfield 145, 3) := by decide +kernel
theorem dX7_run_39 : decode cX7_run 39 = .ok (.aload_n 0, 1) := by decide +kernel
theorem dX7_run_40 : decode cX7_run 40 = .ok (.iconst 0, 1) := by decide +kernel
theorem dX7_run_41 : decode cX7_run 41 = .ok (.putfield 105, 3) := by decide +kernel
theorem dX7_run_44 : decode cX7_run 44 = .ok (.aload_n 0, 1) := by decide +kernel
theorem dX7_run_45 : decode cX7_run 45 = .ok (.iconst 0, 1) := by decide +kernel
theorem dX7_run_46 : decode cX7_run 46 = .ok (.putfield 126, 3) := by decide +kernel
theorem dX7_run_49 : decode cX7_run 49 = .ok (.aload_n 0, 1) := by decide +kernel
theorem dX7_run_50 : decode cX7_run 50 = .ok (.iconst 0, 1) := by decide +kernel
theorem dX7_run_51 : decode cX7_run 51 = .ok (.putfield 108, 3) := by decide +kernel
theorem dX7_run_54 : decode cX7_run 54 = .ok (.aload_n 0, 1) := by decide +kernel
theorem dX7_run_55 : decode cX7_run 55 = .ok (.iconst (-1), 1) := by decide +kernel
theorem dX7_run_56 : decode cX7_run 56 = .ok (.putfield 115, 3) := by decide +kernel
theorem dX7_run_59 : decode cX7_run 59 = .ok (.aload_n 0, 1) := by decide +kernel
theorem dX7_run_60 : decode cX7_run 60 = .ok (.iconst 3, 1) := by decide +kernel
theorem dX7_run_61 : decode cX7_run 61 = .ok (.iload_n 1, 1) := by decide +kernel
theorem dX7_run_62 : decode cX7_run 62 = .ok (.iload_n 2, 1) := by decide +kernel
theorem dX7_run_63 : decode cX7_run 63 = .ok (.invokevirtual 122, 3) := by decide +kernel
theorem dX7_run_66 : decode cX7_run 66 = .ok (.aload_n 0, 1) := by decide +kernel
theorem dX7_run_67 : decode cX7_run 67 = .ok (.getfield 108, 3) := by decide +kernel
theorem dX7_run_70 : decode cX7_run 70 = .ok (.ifCond .le 25, 3) := by decide +kernel
theorem dX7_run_73 : decode cX7_run 73 = .ok (.aload_n 0, 1) := by decide +kernel
theorem dX7_run_74 : decode cX7_run 74 = .ok (.getfield 115, 3) := by decide +kernel
theorem dX7_run_77 : decode cX7_run 77 = .ok (.iconst (-1), 1) := by decide +kernel
theorem dX7_run_78 : decode cX7_run 78 = .ok (.if_icmp .ne 10, 3) := by decide +kernel
theorem dX7_run_81 : decode cX7_run 81 = .ok (.aload_n 0, 1) := by decide +kernel
theorem dX7_run_82 : decode cX7_run 82 = .ok (.invokevirtual 176, 3) := by decide +kernel
theorem dX7_run_85 : decode cX7_run 85 = .ok (.goto (-19), 3) := by decide +kernel
theorem dX7_run_88 : decode cX7_run 88 = .ok (.aload_n 0, 1) := by decide +kernel
theorem dX7_run_89 : decode cX7_run 89 = .ok (.invokevirtual 179, 3) := by decide +kernel
theorem dX7_run_92 : decode cX7_run 92 = .ok (.goto (-26), 3) := by decide +kernel
theorem dX7_run_95 : decode cX7_run 95 = .ok (.aload_n 0, 1) := by decide +kernel
theorem dX7_run_96 : decode cX7_run 96 = .ok (.aload_n 0, 1) := by decide +kernel
theorem dX7_run_97 : decode cX7_run 97 = .ok (.getfield 115, 3) := by decide +kernel
theorem dX7_run_100 : decode cX7_run 100 = .ok (.bipush 7, 2) := by decide +kernel
theorem dX7_run_102 : decode cX7_run 102 = .ok (.if_icmp .ne 10, 3) := by decide +kernel
theorem dX7_run_105 : decode cX7_run 105 = .ok (.aload_n 0, 1) := by decide +kernel
theorem dX7_run_106 : decode cX7_run 106 = .ok (.getfield 142, 3) := by decide +kernel
theorem dX7_run_109 : decode cX7_run 109 = .ok (.goto 4, 3) := by decide +kernel
theorem dX7_run_112 : decode cX7_run 112 = .ok (.iconst (-1), 1) := by decide +kernel
theorem dX7_run_113 : decode cX7_run 113 = .ok (.putfield 53, 3) := by decide +kernel
theorem dX7_run_116 : decode cX7_run 116 = .ok (.aload_n 0, 1) := by decide +kernel
theorem dX7_run_117 : decode cX7_run 117 = .ok (.getfield 115, 3) := by decide +kernel
theorem dX7_run_120 : decode cX7_run 120 = .ok (.ireturn, 1) := by decide +kernel
theorem dX7_cause_0 : decode cX7_cause 0 = .ok (.aload_n 0, 1) := by decide +kernel
theorem dX7_cause_1 : decode cX7_cause 1 = .ok (.getfield 53, 3) := by decide +kernel
theorem dX7_cause_4 : decode cX7_cause 4 = .ok (.ireturn, 1) := by decide +kernel
theorem dX7_count_0 : decode cX7_count 0 = .ok (.iload_n 1, 1) := by decide +kernel
theorem dX7_count_1 : decode cX7_count 1 = .ok (.ifCond .ne 10, 3) := by decide +kernel
theorem dX7_count_4 : decode cX7_count 4 = .ok (.aload_n 0, 1) := by decide +kernel
theorem dX7_count_5 : decode cX7_count 5 = .ok (.getfield 102, 3) := by decide +kernel
theorem dX7_count_8 : decode cX7_count 8 = .ok (.goto 41, 3) := by decide +kernel
theorem dX7_count_11 : decode cX7_count 11 = .ok (.iload_n 1, 1) := by decide +kernel
theorem dX7_count_12 : decode cX7_count 12 = .ok (.iconst 1, 1) := by decide +kernel
theorem dX7_count_13 : decode cX7_count 13 = .ok (.if_icmp .ne 10, 3) := by decide +kernel
theorem dX7_count_16 : decode cX7_count 16 = .ok (.aload_n 0, 1) := by decide +kernel
theorem dX7_count_17 : decode cX7_count 17 = .ok (.getfield 173, 3) := by decide +kernel
theorem dX7_count_20 : decode cX7_count 20 = .ok (.goto 29, 3) := by decide +kernel
theorem dX7_count_23 : decode cX7_count 23 = .ok (.iload_n 1, 1) := by decide +kernel
theorem dX7_count_24 : decode cX7_count 24 = .ok (.iconst 2, 1) := by decide +kernel
theorem dX7_count_25 : decode cX7_count 25 = .ok (.if_icmp .ne 10, 3) := by decide +kernel
theorem dX7_count_28 : decode cX7_count 28 = .ok (.aload_n 0, 1) := by decide +kernel
theorem dX7_count_29 : decode cX7_count 29 = .ok (.getfield 145, 3) := by decide +kernel
theorem dX7_count_32 : decode cX7_count 32 = .ok (.goto 17, 3) := by decide +kernel
theorem dX7_count_35 : decode cX7_count 35 = .ok (.iload_n 1, 1) := by decide +kernel
theorem dX7_count_36 : decode cX7_count 36 = .ok (.iconst 3, 1) := by decide +kernel
theorem dX7_count_37 : decode cX7_count 37 = .ok (.if_icmp .ne 10, 3) := by decide +kernel
theorem dX7_count_40 : decode cX7_count 40 = .ok (.aload_n 0, 1) := by decide +kernel
theorem dX7_count_41 : decode cX7_count 41 = .ok (.getfield 105, 3) := by decide +kernel
theorem dX7_count_44 : decode cX7_count 44 = .ok (.goto 5, 3) := by decide +kernel
theorem dX7_count_47 : decode cX7_count 47 = .ok (.bipush (-3), 2) := by decide +kernel
theorem dX7_count_49 : decode cX7_count 49 = .ok (.ireturn, 1) := by decide +kernel
theorem dX7_event_0 : decode cX7_event 0 = .ok (.iload_n 1, 1) := by decide +kernel
theorem dX7_event_1 : decode cX7_event 1 = .ok (.ifCond .lt 20, 3) := by decide +kernel
theorem dX7_event_4 : decode cX7_event 4 = .ok (.iload_n 1, 1) := by decide +kernel
theorem dX7_event_5 : decode cX7_event 5 = .ok (.aload_n 0, 1) := by decide +kernel
theorem dX7_event_6 : decode cX7_event 6 = .ok (.getfield 102, 3) := by decide +kernel
theorem dX7_event_9 : decode cX7_event 9 = .ok (.if_icmp .ge 12, 3) := by decide +kernel
theorem dX7_event_12 : decode cX7_event 12 = .ok (.iload_n 2, 1) := by decide +kernel
theorem dX7_event_13 : decode cX7_event 13 = .ok (.ifCond .lt 8, 3) := by decide +kernel
theorem dX7_event_16 : decode cX7_event 16 = .ok (.iload_n 2, 1) := by decide +kernel
theorem dX7_event_17 : decode cX7_event 17 = .ok (.iconst 1, 1) := by decide +kernel
theorem dX7_event_18 : decode cX7_event 18 = .ok (.if_icmp .le 5, 3) := by decide +kernel
theorem dX7_event_21 : decode cX7_event 21 = .ok (.iconst 0, 1) := by decide +kernel
theorem dX7_event_22 : decode cX7_event 22 = .ok (.ireturn, 1) := by decide +kernel
theorem dX7_event_23 : decode cX7_event 23 = .ok (.iload_n 2, 1) := by decide +kernel
theorem dX7_event_24 : decode cX7_event 24 = .ok (.ifCond .ne 12, 3) := by decide +kernel
theorem dX7_event_27 : decode cX7_event 27 = .ok (.aload_n 0, 1) := by decide +kernel
theorem dX7_event_28 : decode cX7_event 28 = .ok (.getfield 47, 3) := by decide +kernel
theorem dX7_event_31 : decode cX7_event 31 = .ok (.iload_n 1, 1) := by decide +kernel
theorem dX7_event_32 : decode cX7_event 32 = .ok (.iaload, 1) := by decide +kernel
theorem dX7_event_33 : decode cX7_event 33 = .ok (.goto 9, 3) := by decide +kernel
theorem dX7_event_36 : decode cX7_event 36 = .ok (.aload_n 0, 1) := by decide +kernel
theorem dX7_event_37 : decode cX7_event 37 = .ok (.getfield 50, 3) := by decide +kernel
theorem dX7_event_40 : decode cX7_event 40 = .ok (.iload_n 1, 1) := by decide +kernel
theorem dX7_event_41 : decode cX7_event 41 = .ok (.iaload, 1) := by decide +kernel
theorem dX7_event_42 : decode cX7_event 42 = .ok (.ireturn, 1) := by decide +kernel
theorem dX7_state_0 : decode cX7_state 0 = .ok (.aload_n 0, 1) := by decide +kernel
theorem dX7_state_1 : decode cX7_state 1 = .ok (.iload_n 1, 1) := by decide +kernel
theorem dX7_state_2 : decode cX7_state 2 = .ok (.invokevirtual 87, 3) := by decide +kernel
theorem dX7_state_5 : decode cX7_state 5 = .ok (.ifCond .eq 12, 3) := by decide +kernel
theorem dX7_state_8 : decode cX7_state 8 = .ok (.aload_n 0, 1) := by decide +kernel
theorem dX7_state_9 : decode cX7_state 9 = .ok (.getfield 44, 3) := by decide +kernel
theorem dX7_state_12 : decode cX7_state 12 = .ok (.iload_n 1, 1) := by decide +kernel
theorem dX7_state_13 : decode cX7_state 13 = .ok (.iaload, 1) := by decide +kernel
theorem dX7_state_14 : decode cX7_state 14 = .ok (.goto 5, 3) := by decide +kernel
theorem dX7_state_17 : decode cX7_state 17 = .ok (.bipush (-2), 2) := by decide +kernel
theorem dX7_state_19 : decode cX7_state 19 = .ok (.ireturn, 1) := by decide +kernel
theorem dX7_field_0 : decode cX7_field 0 = .ok (.aload_n 0, 1) := by decide +kernel
theorem dX7_field_1 : decode cX7_field 1 = .ok (.iload_n 1, 1) := by decide +kernel
theorem dX7_field_2 : decode cX7_field 2 = .ok (.invokevirtual 87, 3) := by decide +kernel
theorem dX7_field_5 : decode cX7_field 5 = .ok (.ifCond .eq 19, 3) := by decide +kernel
theorem dX7_field_8 : decode cX7_field 8 = .ok (.iload_n 2, 1) := by decide +kernel
theorem dX7_field_9 : decode cX7_field 9 = .ok (.invokestatic 95, 3) := by decide +kernel
theorem dX7_field_12 : decode cX7_field 12 = .ok (.ifCond .eq 12, 3) := by decide +kernel
theorem dX7_field_15 : decode cX7_field 15 = .ok (.aload_n 0, 1) := by decide +kernel
theorem dX7_field_16 : decode cX7_field 16 = .ok (.iload_n 1, 1) := by decide +kernel
theorem dX7_field_17 : decode cX7_field 17 = .ok (.iload_n 2, 1) := by decide +kernel
theorem dX7_field_18 : decode cX7_field 18 = .ok (.invokevirtual 162, 3) := by decide +kernel
theorem dX7_field_21 : decode cX7_field 21 = .ok (.goto 4, 3) := by decide +kernel
theorem dX7_field_24 : decode cX7_field 24 = .ok (.iconst 0, 1) := by decide +kernel
theorem dX7_field_25 : decode cX7_field 25 = .ok (.ireturn, 1) := by decide +kernel
theorem dX7_row_0 : decode cX7_row 0 = .ok (.aload_n 0, 1) := by decide +kernel
theorem dX7_row_1 : decode cX7_row 1 = .ok (.iload_n 1, 1) := by decide +kernel
theorem dX7_row_2 : decode cX7_row 2 = .ok (.invokevirtual 87, 3) := by decide +kernel
theorem dX7_row_5 : decode cX7_row 5 = .ok (.ifCond .eq 14, 3) := by decide +kernel
theorem dX7_row_8 : decode cX7_row 8 = .ok (.aload_n 0, 1) := by decide +kernel
theorem dX7_row_9 : decode cX7_row 9 = .ok (.getfield 32, 3) := by decide +kernel
theorem dX7_row_12 : decode cX7_row 12 = .ok (.iload_n 1, 1) := by decide +kernel
theorem dX7_row_13 : decode cX7_row 13 = .ok (.iaload, 1) := by decide +kernel
theorem dX7_row_14 : decode cX7_row 14 = .ok (.iconst 1, 1) := by decide +kernel
theorem dX7_row_15 : decode cX7_row 15 = .ok (.isub, 1) := by decide +kernel
theorem dX7_row_16 : decode cX7_row 16 = .ok (.goto 5, 3) := by decide +kernel
theorem dX7_row_19 : decode cX7_row 19 = .ok (.bipush (-2), 2) := by decide +kernel
theorem dX7_row_21 : decode cX7_row 21 = .ok (.ireturn, 1) := by decide +kernel
theorem dX7_item_0 : decode cX7_item 0 = .ok (.aload_n 0, 1) := by decide +kernel
theorem dX7_item_1 : decode cX7_item 1 = .ok (.iload_n 1, 1) := by decide +kernel
theorem dX7_item_2 : decode cX7_item 2 = .ok (.invokevirtual 87, 3) := by decide +kernel
theorem dX7_item_5 : decode cX7_item 5 = .ok (.ifCond .eq 19, 3) := by decide +kernel
theorem dX7_item_8 : decode cX7_item 8 = .ok (.iload_n 2, 1) := by decide +kernel
theorem dX7_item_9 : decode cX7_item 9 = .ok (.ifCond .lt 15, 3) := by decide +kernel
theorem dX7_item_12 : decode cX7_item 12 = .ok (.iload_n 2, 1) := by decide +kernel
theorem dX7_item_13 : decode cX7_item 13 = .ok (.aload_n 0, 1) := by decide +kernel
theorem dX7_item_14 : decode cX7_item 14 = .ok (.getfield 32, 3) := by decide +kernel
theorem dX7_item_17 : decode cX7_item 17 = .ok (.iload_n 1, 1) := by decide +kernel
theorem dX7_item_18 : decode cX7_item 18 = .ok (.iaload, 1) := by decide +kernel
theorem dX7_item_19 : decode cX7_item 19 = .ok (.iconst 1, 1) := by decide +kernel
theorem dX7_item_20 : decode cX7_item 20 = .ok (.isub, 1) := by decide +kernel
theorem dX7_item_21 : decode cX7_item 21 = .ok (.if_icmp .lt 7, 3) := by decide +kernel
theorem dX7_item_24 : decode cX7_item 24 = .ok (.iconst 0, 1) := by decide +kernel
theorem dX7_item_25 : decode cX7_item 25 = .ok (.goto 14, 3) := by decide +kernel
theorem dX7_item_28 : decode cX7_item 28 = .ok (.aload_n 0, 1) := by decide +kernel
theorem dX7_item_29 : decode cX7_item 29 = .ok (.getfield 35, 3) := by decide +kernel
theorem dX7_item_32 : decode cX7_item 32 = .ok (.bipush 20, 2) := by decide +kernel
theorem dX7_item_34 : decode cX7_item 34 = .ok (.iload_n 1, 1) := by decide +kernel
theorem dX7_item_35 : decode cX7_item 35 = .ok (.imul, 1) := by decide +kernel
theorem dX7_item_36 : decode cX7_item 36 = .ok (.iload_n 2, 1) := by decide +kernel
theorem dX7_item_37 : decode cX7_item 37 = .ok (.iadd, 1) := by decide +kernel
theorem dX7_item_38 : decode cX7_item 38 = .ok (.iaload, 1) := by decide +kernel
theorem dX7_item_39 : decode cX7_item 39 = .ok (.ireturn, 1) := by decide +kernel
theorem dX7_again_0 : decode cX7_again 0 = .ok (.iconst 0, 1) := by decide +kernel
theorem dX7_again_1 : decode cX7_again 1 = .ok (.istore_n 1, 1) := by decide +kernel
theorem dX7_again_2 : decode cX7_again 2 = .ok (.iconst 0, 1) := by decide +kernel
theorem dX7_again_3 : decode cX7_again 3 = .ok (.istore_n 2, 1) := by decide +kernel
theorem dX7_again_4 : decode cX7_again 4 = .ok (.iload_n 2, 1) := by decide +kernel
theorem dX7_again_5 : decode cX7_again 5 = .ok (.aload_n 0, 1) := by decide +kernel
theorem dX7_again_6 : decode cX7_again 6 = .ok (.getfield 84, 3) := by decide +kernel
theorem dX7_again_9 : decode cX7_again 9 = .ok (.if_icmp .ge 60, 3) := by decide +kernel
theorem dX7_again_12 : decode cX7_again 12 = .ok (.iload_n 1, 1) := by decide +kernel
theorem dX7_again_13 : decode cX7_again 13 = .ok (.aload_n 0, 1) := by decide +kernel
theorem dX7_again_14 : decode cX7_again 14 = .ok (.getfield 44, 3) := by decide +kernel
theorem dX7_again_17 : decode cX7_again 17 = .ok (.iload_n 2, 1) := by decide +kernel
theorem dX7_again_18 : decode cX7_again 18 = .ok (.iaload, 1) := by decide +kernel
theorem dX7_again_19 : decode cX7_again 19 = .ok (.ifCond .eq 7, 3) := by decide +kernel
theorem dX7_again_22 : decode cX7_again 22 = .ok (.iconst 1, 1) := by decide +kernel
theorem dX7_again_23 : decode cX7_again 23 = .ok (.goto 4, 3) := by decide +kernel
theorem dX7_again_26 : decode cX7_again 26 = .ok (.iconst 0, 1) := by decide +kernel
theorem dX7_again_27 : decode cX7_again 27 = .ok (.iadd, 1) := by decide +kernel
theorem dX7_again_28 : decode cX7_again 28 = .ok (.istore_n 1, 1) := by decide +kernel
theorem dX7_again_29 : decode cX7_again 29 = .ok (.aload_n 0, 1) := by decide +kernel
theorem dX7_again_30 : decode cX7_again 30 = .ok (.getfield 44, 3) := by decide +kernel
theorem dX7_again_33 : decode cX7_again 33 = .ok (.iload_n 2, 1) := by decide +kernel
theorem dX7_again_34 : decode cX7_again 34 = .ok (.iconst 0, 1) := by decide +kernel
theorem dX7_again_35 : decode cX7_again 35 = .ok (.iastore, 1) := by decide +kernel
theorem dX7_again_36 : decode cX7_again 36 = .ok (.aload_n 0, 1) := by decide +kernel
theorem dX7_again_37 : decode cX7_again 37 = .ok (.getfield 32, 3) := by decide +kernel
theorem dX7_again_40 : decode cX7_again 40 = .ok (.iload_n 2, 1) := by decide +kernel
theorem dX7_again_41 : decode cX7_again 41 = .ok (.iconst 0, 1) := by decide +kernel
theorem dX7_again_42 : decode cX7_again 42 = .ok (.iastore, 1) := by decide +kernel
theorem dX7_again_43 : decode cX7_again 43 = .ok (.iconst 0, 1) := by decide +kernel
theorem dX7_again_44 : decode cX7_again 44 = .ok (.istore_n 3, 1) := by decide +kernel
theorem dX7_again_45 : decode cX7_again 45 = .ok (.iload_n 3, 1) := by decide +kernel
theorem dX7_again_46 : decode cX7_again 46 = .ok (.iconst 4, 1) := by decide +kernel
theorem dX7_again_47 : decode cX7_again 47 = .ok (.if_icmp .ge 16, 3) := by decide +kernel
theorem dX7_again_50 : decode cX7_again 50 = .ok (.aload_n 0, 1) := by decide +kernel
theorem dX7_again_51 : decode cX7_again 51 = .ok (.iload_n 2, 1) := by decide +kernel
theorem dX7_again_52 : decode cX7_again 52 = .ok (.iload_n 3, 1) := by decide +kernel
theorem dX7_again_53 : decode cX7_again 53 = .ok (.iconst 0, 1) := by decide +kernel
theorem dX7_again_54 : decode cX7_again 54 = .ok (.invokevirtual 156, 3) := by decide +kernel
theorem dX7_again_57 : decode cX7_again 57 = .ok (.iinc 3 1, 3) := by decide +kernel
theorem dX7_again_60 : decode cX7_again 60 = .ok (.goto (-15), 3) := by decide +kernel
theorem dX7_again_63 : decode cX7_again 63 = .ok (.iinc 2 1, 3) := by decide +kernel
theorem dX7_again_66 : decode cX7_again 66 = .ok (.goto (-62), 3) := by decide +kernel
theorem dX7_again_69 : decode cX7_again 69 = .ok (.iload_n 1, 1) := by decide +kernel
theorem dX7_again_70 : decode cX7_again 70 = .ok (.ireturn, 1) := by decide +kernel
theorem dX7_mayWant_0 : decode cX7_mayWant 0 = .ok (.aload_n 0, 1) := by decide +kernel
theorem dX7_mayWant_1 : decode cX7_mayWant 1 = .ok (.dup, 1) := by decide +kernel
theorem dX7_mayWant_2 : decode cX7_mayWant 2 = .ok (.getfield 182, 3) := by decide +kernel
theorem dX7_mayWant_5 : decode cX7_mayWant 5 = .ok (.iconst 1, 1) := by decide +kernel
theorem dX7_mayWant_6 : decode cX7_mayWant 6 = .ok (.iload_n 1, 1) := by decide +kernel
theorem dX7_mayWant_7 : decode cX7_mayWant 7 = .ok (.ishl, 1) := by decide +kernel
theorem dX7_mayWant_8 : decode cX7_mayWant 8 = .ok (.ior, 1) := by decide +kernel
theorem dX7_mayWant_9 : decode cX7_mayWant 9 = .ok (.putfield 182, 3) := by decide +kernel
theorem dX7_mayWant_12 : decode cX7_mayWant 12 = .ok (.aload_n 0, 1) := by decide +kernel
theorem dX7_mayWant_13 : decode cX7_mayWant 13 = .ok (.getfield 81, 3) := by decide +kernel
theorem dX7_mayWant_16 : decode cX7_mayWant 16 = .ok (.iconst 4, 1) := by decide +kernel
theorem dX7_mayWant_17 : decode cX7_mayWant 17 = .ok (.iload_n 1, 1) := by decide +kernel
theorem dX7_mayWant_18 : decode cX7_mayWant 18 = .ok (.imul, 1) := by decide +kernel
theorem dX7_mayWant_19 : decode cX7_mayWant 19 = .ok (.iconst 1, 1) := by decide +kernel
theorem dX7_mayWant_20 : decode cX7_mayWant 20 = .ok (.bastore, 1) := by decide +kernel
theorem dX7_mayWant_21 : decode cX7_mayWant 21 = .ok (.aload_n 0, 1) := by decide +kernel
theorem dX7_mayWant_22 : decode cX7_mayWant 22 = .ok (.getfield 7, 3) := by decide +kernel
theorem dX7_mayWant_25 : decode cX7_mayWant 25 = .ok (.iload_n 1, 1) := by decide +kernel
theorem dX7_mayWant_26 : decode cX7_mayWant 26 = .ok (.baload, 1) := by decide +kernel
theorem dX7_mayWant_27 : decode cX7_mayWant 27 = .ok (.ifCond .ne 39, 3) := by decide +kernel
theorem dX7_mayWant_30 : decode cX7_mayWant 30 = .ok (.aload_n 0, 1) := by decide +kernel
theorem dX7_mayWant_31 : decode cX7_mayWant 31 = .ok (.dup, 1) := by decide +kernel
theorem dX7_mayWant_32 : decode cX7_mayWant 32 = .ok (.getfield 182, 3) := by decide +kernel
theorem dX7_mayWant_35 : decode cX7_mayWant 35 = .ok (.aload_n 0, 1) := by decide +kernel
theorem dX7_mayWant_36 : decode cX7_mayWant 36 = .ok (.getfield 16, 3) := by decide +kernel
theorem dX7_mayWant_39 : decode cX7_mayWant 39 = .ok (.iload_n 1, 1) := by decide +kernel
theorem dX7_mayWant_40 : decode cX7_mayWant 40 = .ok (.iaload, 1) := by decide +kernel
theorem dX7_mayWant_41 : decode cX7_mayWant 41 = .ok (.iconst (-1), 1) := by decide +kernel
theorem dX7_mayWant_42 : decode cX7_mayWant 42 = .ok (.if_icmp .ne 7, 3) := by decide +kernel
theorem dX7_mayWant_45 : decode cX7_mayWant 45 = .ok (.iconst 0, 1) := by decide +kernel
theorem dX7_mayWant_46 : decode cX7_mayWant 46 = .ok (.goto 11, 3) := by decide +kernel
theorem dX7_mayWant_49 : decode cX7_mayWant 49 = .ok (.iconst 1, 1) := by decide +kernel
theorem dX7_mayWant_50 : decode cX7_mayWant 50 = .ok (.aload_n 0, 1) := by decide +kernel
theorem dX7_mayWant_51 : decode cX7_mayWant 51 = .ok (.getfield 16, 3) := by decide +kernel
theorem dX7_mayWant_54 : decode cX7_mayWant 54 = .ok (.iload_n 1, 1) := by decide +kernel
theorem dX7_mayWant_55 : decode cX7_mayWant 55 = .ok (.iaload, 1) := by decide +kernel
theorem dX7_mayWant_56 : decode cX7_mayWant 56 = .ok (.ishl, 1) := by decide +kernel
theorem dX7_mayWant_57 : decode cX7_mayWant 57 = .ok (.ior, 1) := by decide +kernel
theorem dX7_mayWant_58 : decode cX7_mayWant 58 = .ok (.putfield 182, 3) := by decide +kernel
theorem dX7_mayWant_61 : decode cX7_mayWant 61 = .ok (.aload_n 0, 1) := by decide +kernel
theorem dX7_mayWant_62 : decode cX7_mayWant 62 = .ok (.iload_n 1, 1) := by decide +kernel
theorem dX7_mayWant_63 : decode cX7_mayWant 63 = .ok (.invokevirtual 185, 3) := by decide +kernel
theorem dX7_mayWant_66 : decode cX7_mayWant 66 = .ok (.return_, 1) := by decide +kernel
theorem dX7_mayLook_0 : decode cX7_mayLook 0 = .ok (.iconst 1, 1) := by decide +kernel
theorem dX7_mayLook_1 : decode cX7_mayLook 1 = .ok (.iload_n 1, 1) := by decide +kernel
theorem dX7_mayLook_2 : decode cX7_mayLook 2 = .ok (.ishl, 1) := by decide +kernel
theorem dX7_mayLook_3 : decode cX7_mayLook 3 = .ok (.istore_n 2, 1) := by decide +kernel
theorem dX7_mayLook_4 : decode cX7_mayLook 4 = .ok (.iload_n 1, 1) := by decide +kernel
theorem dX7_mayLook_5 : decode cX7_mayLook 5 = .ok (.istore_n 3, 1) := by decide +kernel
theorem dX7_mayLook_6 : decode cX7_mayLook 6 = .ok (.iload_n 3, 1) := by decide +kernel
theorem dX7_mayLook_7 : decode cX7_mayLook 7 = .ok (.ifCond .lt 84, 3) := by decide +kernel
theorem dX7_mayLook_10 : decode cX7_mayLook 10 = .ok (.iload_n 2, 1) := by decide +kernel
theorem dX7_mayLook_11 : decode cX7_mayLook 11 = .ok (.iload_n 3, 1) := by decide +kernel
theorem dX7_mayLook_12 : decode cX7_mayLook 12 = .ok (.ishr, 1) := by decide +kernel
theorem dX7_mayLook_13 : decode cX7_mayLook 13 = .ok (.iconst 1, 1) := by decide +kernel
theorem dX7_mayLook_14 : decode cX7_mayLook 14 = .ok (.iand, 1) := by decide +kernel
theorem dX7_mayLook_15 : decode cX7_mayLook 15 = .ok (.iconst 1, 1) := by decide +kernel
theorem dX7_mayLook_16 : decode cX7_mayLook 16 = .ok (.if_icmp .ne 69, 3) := by decide +kernel
theorem dX7_mayLook_19 : decode cX7_mayLook 19 = .ok (.aload_n 0, 1) := by decide +kernel
theorem dX7_mayLook_20 : decode cX7_mayLook 20 = .ok (.dup, 1) := by decide +kernel
theorem dX7_mayLook_21 : decode cX7_mayLook 21 = .ok (.getfield 182, 3) := by decide +kernel
theorem dX7_mayLook_24 : decode cX7_mayLook 24 = .ok (.iload_n 3, 1) := by decide +kernel
theorem dX7_mayLook_25 : decode cX7_mayLook 25 = .ok (.iload_n 1, 1) := by decide +kernel
theorem dX7_mayLook_26 : decode cX7_mayLook 26 = .ok (.if_icmp .eq 18, 3) := by decide +kernel
theorem dX7_mayLook_29 : decode cX7_mayLook 29 = .ok (.aload_n 0, 1) := by decide +kernel
theorem dX7_mayLook_30 : decode cX7_mayLook 30 = .ok (.getfield 13, 3) := by decide +kernel
theorem dX7_mayLook_33 : decode cX7_mayLook 33 = .ok (.iload_n 3, 1) := by decide +kernel
theorem dX7_mayLook_34 : decode cX7_mayLook 34 = .ok (.baload, 1) := by decide +kernel
theorem dX7_mayLook_35 : decode cX7_mayLook 35 = .ok (.ifCond .eq 9, 3) := by decide +kernel
theorem dX7_mayLook_38 : decode cX7_mayLook 38 = .ok (.iconst 1, 1) := by decide +kernel
theorem dX7_mayLook_39 : decode cX7_mayLook 39 = .ok (.iload_n 3, 1) := by decide +kernel
theorem dX7_mayLook_40 : decode cX7_mayLook 40 = .ok (.ishl, 1) := by decide +kernel
theorem dX7_mayLook_41 : decode cX7_mayLook 41 = .ok (.goto 4, 3) := by decide +kernel
theorem dX7_mayLook_44 : decode cX7_mayLook 44 = .ok (.iconst 0, 1) := by decide +kernel
theorem dX7_mayLook_45 : decode cX7_mayLook 45 = .ok (.ior, 1) := by decide +kernel
theorem dX7_mayLook_46 : decode cX7_mayLook 46 = .ok (.putfield 182, 3) := by decide +kernel
theorem dX7_mayLook_49 : decode cX7_mayLook 49 = .ok (.iconst 0, 1) := by decide +kernel
theorem dX7_mayLook_50 : decode cX7_mayLook 50 = .ok (.istore 4, 2) := by decide +kernel
theorem dX7_mayLook_52 : decode cX7_mayLook 52 = .ok (.iload 4, 2) := by decide +kernel
theorem dX7_mayLook_54 : decode cX7_mayLook 54 = .ok (.aload_n 0, 1) := by decide +kernel
theorem dX7_mayLook_55 : decode cX7_mayLook 55 = .ok (.getfield 20, 3) := by decide +kernel
theorem dX7_mayLook_58 : decode cX7_mayLook 58 = .ok (.iload_n 3, 1) := by decide +kernel
theorem dX7_mayLook_59 : decode cX7_mayLook 59 = .ok (.iaload, 1) := by decide +kernel
theorem dX7_mayLook_60 : decode cX7_mayLook 60 = .ok (.if_icmp .ge 25, 3) := by decide +kernel
theorem dX7_mayLook_63 : decode cX7_mayLook 63 = .ok (.iload_n 2, 1) := by decide +kernel
theorem dX7_mayLook_64 : decode cX7_mayLook 64 = .ok (.iconst 1, 1) := by decide +kernel
theorem dX7_mayLook_65 : decode cX7_mayLook 65 = .ok (.aload_n 0, 1) := by decide +kernel
theorem dX7_mayLook_66 : decode cX7_mayLook 66 = .ok (.getfield 23, 3) := by decide +kernel
theorem dX7_mayLook_69 : decode cX7_mayLook 69 = .ok (.iconst 3, 1) := by decide +kernel
theorem dX7_mayLook_70 : decode cX7_mayLook 70 = .ok (.iload_n 3, 1) := by decide +kernel
theorem dX7_mayLook_71 : decode cX7_mayLook 71 = .ok (.imul, 1) := by decide +kernel
theorem dX7_mayLook_72 : decode cX7_mayLook 72 = .ok (.iload 4, 2) := by decide +kernel
theorem dX7_mayLook_74 : decode cX7_mayLook 74 = .ok (.iadd, 1) := by decide +kernel
theorem dX7_mayLook_75 : decode cX7_mayLook 75 = .ok (.iaload, 1) := by decide +kernel
theorem dX7_mayLook_76 : decode cX7_mayLook 76 = .ok (.ishl, 1) := by decide +kernel
theorem dX7_mayLook_77 : decode cX7_mayLook 77 = .ok (.ior, 1) := by decide +kernel
theorem dX7_mayLook_78 : decode cX7_mayLook 78 = .ok (.istore_n 2, 1) := by decide +kernel
theorem dX7_mayLook_79 : decode cX7_mayLook 79 = .ok (.iinc 4 1, 3) := by decide +kernel
theorem dX7_mayLook_82 : decode cX7_mayLook 82 = .ok (.goto (-30), 3) := by decide +kernel
theorem dX7_mayLook_85 : decode cX7_mayLook 85 = .ok (.iinc 3 (-1), 3) := by decide +kernel
theorem dX7_mayLook_88 : decode cX7_mayLook 88 = .ok (.goto (-82), 3) := by decide +kernel
theorem dX7_mayLook_91 : decode cX7_mayLook 91 = .ok (.return_, 1) := by decide +kernel
theorem dX7_may_0 : decode cX7_may 0 = .ok (.aload_n 0, 1) := by decide +kernel
theorem dX7_may_1 : decode cX7_may 1 = .ok (.iload_n 1, 1) := by decide +kernel
theorem dX7_may_2 : decode cX7_may 2 = .ok (.invokevirtual 87, 3) := by decide +kernel
theorem dX7_may_5 : decode cX7_may 5 = .ok (.ifCond .ne 6, 3) := by decide +kernel
theorem dX7_may_8 : decode cX7_may 8 = .ok (.bipush (-2), 2) := by decide +kernel
theorem dX7_may_10 : decode cX7_may 10 = .ok (.ireturn, 1) := by decide +kernel
theorem dX7_may_11 : decode cX7_may 11 = .ok (.iload_n 2, 1) := by decide +kernel
theorem dX7_may_12 : decode cX7_may 12 = .ok (.ifCond .lt 8, 3) := by decide +kernel
theorem dX7_may_15 : decode cX7_may 15 = .ok (.iload_n 2, 1) := by decide +kernel
theorem dX7_may_16 : decode cX7_may 16 = .ok (.iconst 3, 1) := by decide +kernel
theorem dX7_may_17 : decode cX7_may 17 = .ok (.if_icmp .le 6, 3) := by decide +kernel
theorem dX7_may_20 : decode cX7_may 20 = .ok (.bipush (-3), 2) := by decide +kernel
theorem dX7_may_22 : decode cX7_may 22 = .ok (.ireturn, 1) := by decide +kernel
theorem dX7_may_23 : decode cX7_may 23 = .ok (.iconst 0, 1) := by decide +kernel
theorem dX7_may_24 : decode cX7_may 24 = .ok (.istore_n 3, 1) := by decide +kernel
theorem dX7_may_25 : decode cX7_may 25 = .ok (.iload_n 3, 1) := by decide +kernel
theorem dX7_may_26 : decode cX7_may 26 = .ok (.bipush 48, 2) := by decide +kernel
theorem dX7_may_28 : decode cX7_may 28 = .ok (.if_icmp .ge 16, 3) := by decide +kernel
theorem dX7_may_31 : decode cX7_may 31 = .ok (.aload_n 0, 1) := by decide +kernel
theorem dX7_may_32 : decode cX7_may 32 = .ok (.getfield 81, 3) := by decide +kernel
theorem dX7_may_35 : decode cX7_may 35 = .ok (.iload_n 3, 1) := by decide +kernel
theorem dX7_may_36 : decode cX7_may 36 = .ok (.iconst 0, 1) := by decide +kernel
theorem dX7_may_37 : decode cX7_may 37 = .ok (.bastore, 1) := by decide +kernel
theorem dX7_may_38 : decode cX7_may 38 = .ok (.iinc 3 1, 3) := by decide +kernel
theorem dX7_may_41 : decode cX7_may 41 = .ok (.goto (-16), 3) := by decide +kernel
theorem dX7_may_44 : decode cX7_may 44 = .ok (.aload_n 0, 1) := by decide +kernel
theorem dX7_may_45 : decode cX7_may 45 = .ok (.iconst 1, 1) := by decide +kernel
theorem dX7_may_46 : decode cX7_may 46 = .ok (.iload_n 1, 1) := by decide +kernel
theorem dX7_may_47 : decode cX7_may 47 = .ok (.ishl, 1) := by decide +kernel
theorem dX7_may_48 : decode cX7_may 48 = .ok (.putfield 182, 3) := by decide +kernel
theorem dX7_may_51 : decode cX7_may 51 = .ok (.aload_n 0, 1) := by decide +kernel
theorem dX7_may_52 : decode cX7_may 52 = .ok (.getfield 81, 3) := by decide +kernel
theorem dX7_may_55 : decode cX7_may 55 = .ok (.iconst 4, 1) := by decide +kernel
theorem dX7_may_56 : decode cX7_may 56 = .ok (.iload_n 1, 1) := by decide +kernel
theorem dX7_may_57 : decode cX7_may 57 = .ok (.imul, 1) := by decide +kernel
theorem dX7_may_58 : decode cX7_may 58 = .ok (.iload_n 2, 1) := by decide +kernel
theorem dX7_may_59 : decode cX7_may 59 = .ok (.iadd, 1) := by decide +kernel
theorem dX7_may_60 : decode cX7_may 60 = .ok (.iconst 1, 1) := by decide +kernel
theorem dX7_may_61 : decode cX7_may 61 = .ok (.bastore, 1) := by decide +kernel
theorem dX7_may_62 : decode cX7_may 62 = .ok (.iconst 0, 1) := by decide +kernel
theorem dX7_may_63 : decode cX7_may 63 = .ok (.istore_n 3, 1) := by decide +kernel
theorem dX7_may_64 : decode cX7_may 64 = .ok (.iload_n 3, 1) := by decide +kernel
theorem dX7_may_65 : decode cX7_may 65 = .ok (.bipush 60, 2) := by decide +kernel
theorem dX7_may_67 : decode cX7_may 67 = .ok (.if_icmp .ge 78, 3) := by decide +kernel
theorem dX7_may_70 : decode cX7_may 70 = .ok (.iconst 0, 1) := by decide +kernel
theorem dX7_may_71 : decode cX7_may 71 = .ok (.istore 4, 2) := by decide +kernel
theorem dX7_may_73 : decode cX7_may 73 = .ok (.iload 4, 2) := by decide +kernel
theorem dX7_may_75 : decode cX7_may 75 = .ok (.aload_n 0, 1) := by decide +kernel
theorem dX7_may_76 : decode cX7_may 76 = .ok (.getfield 84, 3) := by decide +kernel
theorem dX7_may_79 : decode cX7_may 79 = .ok (.if_icmp .ge 28, 3) := by decide +kernel
theorem dX7_may_82 : decode cX7_may 82 = .ok (.aload_n 0, 1) := by decide +kernel
theorem dX7_may_83 : decode cX7_may 83 = .ok (.getfield 182, 3) := by decide +kernel
theorem dX7_may_86 : decode cX7_may 86 = .ok (.iload 4, 2) := by decide +kernel
theorem dX7_may_88 : decode cX7_may 88 = .ok (.ishr, 1) := by decide +kernel
theorem dX7_may_89 : decode cX7_may 89 = .ok (.iconst 1, 1) := by decide +kernel
theorem dX7_may_90 : decode cX7_may 90 = .ok (.iand, 1) := by decide +kernel
theorem dX7_may_91 : decode cX7_may 91 = .ok (.iconst 1, 1) := by decide +kernel
theorem dX7_may_92 : decode cX7_may 92 = .ok (.if_icmp .ne 9, 3) := by decide +kernel
theorem dX7_may_95 : decode cX7_may 95 = .ok (.aload_n 0, 1) := by decide +kernel
theorem dX7_may_96 : decode cX7_may 96 = .ok (.iload 4, 2) := by decide +kernel
theorem dX7_may_98 : decode cX7_may 98 = .ok (.invokevirtual 188, 3) := by decide +kernel
theorem dX7_may_101 : decode cX7_may 101 = .ok (.iinc 4 1, 3) := by decide +kernel
theorem dX7_may_104 : decode cX7_may 104 = .ok (.goto (-31), 3) := by decide +kernel
theorem dX7_may_107 : decode cX7_may 107 = .ok (.iconst 0, 1) := by decide +kernel
theorem dX7_may_108 : decode cX7_may 108 = .ok (.istore 4, 2) := by decide +kernel
theorem dX7_may_110 : decode cX7_may 110 = .ok (.iload 4, 2) := by decide +kernel
theorem dX7_may_112 : decode cX7_may 112 = .ok (.bipush 48, 2) := by decide +kernel
theorem dX7_may_114 : decode cX7_may 114 = .ok (.if_icmp .ge 25, 3) := by decide +kernel
theorem dX7_may_117 : decode cX7_may 117 = .ok (.aload_n 0, 1) := by decide +kernel
theorem dX7_may_118 : decode cX7_may 118 = .ok (.getfield 81, 3) := by decide +kernel
theorem dX7_may_121 : decode cX7_may 121 = .ok (.iload 4, 2) := by decide +kernel
theorem dX7_may_123 : decode cX7_may 123 = .ok (.baload, 1) := by decide +kernel
theorem dX7_may_124 : decode cX7_may 124 = .ok (.ifCond .eq 9, 3) := by decide +kernel
theorem dX7_may_127 : decode cX7_may 127 = .ok (.aload_n 0, 1) := by decide +kernel
theorem dX7_may_128 : decode cX7_may 128 = .ok (.iload 4, 2) := by decide +kernel
theorem dX7_may_130 : decode cX7_may 130 = .ok (.invokevirtual 191, 3) := by decide +kernel
theorem dX7_may_133 : decode cX7_may 133 = .ok (.iinc 4 1, 3) := by decide +kernel
theorem dX7_may_136 : decode cX7_may 136 = .ok (.goto (-26), 3) := by decide +kernel
theorem dX7_may_139 : decode cX7_may 139 = .ok (.iinc 3 1, 3) := by decide +kernel
theorem dX7_may_142 : decode cX7_may 142 = .ok (.goto (-78), 3) := by decide +kernel
theorem dX7_may_145 : decode cX7_may 145 = .ok (.aload_n 0, 1) := by decide +kernel
theorem dX7_may_146 : decode cX7_may 146 = .ok (.getfield 182, 3) := by decide +kernel
theorem dX7_may_149 : decode cX7_may 149 = .ok (.ireturn, 1) := by decide +kernel
theorem dX7_mayActs_0 : decode cX7_mayActs 0 = .ok (.iconst 0, 1) := by decide +kernel
theorem dX7_mayActs_1 : decode cX7_mayActs 1 = .ok (.istore_n 2, 1) := by decide +kernel
theorem dX7_mayActs_2 : decode cX7_mayActs 2 = .ok (.iload_n 2, 1) := by decide +kernel
theorem dX7_mayActs_3 : decode cX7_mayActs 3 = .ok (.aload_n 0, 1) := by decide +kernel
theorem dX7_mayActs_4 : decode cX7_mayActs 4 = .ok (.getfield 38, 3) := by decide +kernel
theorem dX7_mayActs_7 : decode cX7_mayActs 7 = .ok (.iload_n 1, 1) := by decide +kernel
theorem dX7_mayActs_8 : decode cX7_mayActs 8 = .ok (.iaload, 1) := by decide +kernel
theorem dX7_mayActs_9 : decode cX7_mayActs 9 = .ok (.if_icmp .ge 151, 3) := by decide +kernel
theorem dX7_mayActs_12 : decode cX7_mayActs 12 = .ok (.bipush 40, 2) := by decide +kernel
theorem dX7_mayActs_14 : decode cX7_mayActs 14 = .ok (.iload_n 1, 1) := by decide +kernel
theorem dX7_mayActs_15 : decode cX7_mayActs 15 = .ok (.imul, 1) := by decide +kernel
theorem dX7_mayActs_16 : decode cX7_mayActs 16 = .ok (.iconst 4, 1) := by decide +kernel
theorem dX7_mayActs_17 : decode cX7_mayActs 17 = .ok (.iload_n 2, 1) := by decide +kernel
theorem dX7_mayActs_18 : decode cX7_mayActs 18 = .ok (.imul, 1) := by decide +kernel
theorem dX7_mayActs_19 : decode cX7_mayActs 19 = .ok (.iadd, 1) := by decide +kernel
theorem dX7_mayActs_20 : decode cX7_mayActs 20 = .ok (.istore_n 3, 1) := by decide +kernel
theorem dX7_mayActs_21 : decode cX7_mayActs 21 = .ok (.aload_n 0, 1) := by decide +kernel
theorem dX7_mayActs_22 : decode cX7_mayActs 22 = .ok (.getfield 41, 3) := by decide +kernel
theorem dX7_mayActs_25 : decode cX7_mayActs 25 = .ok (.iload_n 3, 1) := by decide +kernel
theorem dX7_mayActs_26 : decode cX7_mayActs 26 = .ok (.iaload, 1) := by decide +kernel
theorem dX7_mayActs_27 : decode cX7_mayActs 27 = .ok (.istore 4, 2) := by decide +kernel
theorem dX7_mayActs_29 : decode cX7_mayActs 29 = .ok (.aload_n 0, 1) := by decide +kernel
theorem dX7_mayActs_30 : decode cX7_mayActs 30 = .ok (.getfield 41, 3) := by decide +kernel
theorem dX7_mayActs_33 : decode cX7_mayActs 33 = .ok (.iload_n 3, 1) := by decide +kernel
theorem dX7_mayActs_34 : decode cX7_mayActs 34 = .ok (.iconst 1, 1) := by decide +kernel
theorem dX7_mayActs_35 : decode cX7_mayActs 35 = .ok (.iadd, 1) := by decide +kernel
theorem dX7_mayActs_36 : decode cX7_mayActs 36 = .ok (.iaload, 1) := by decide +kernel
theorem dX7_mayActs_37 : decode cX7_mayActs 37 = .ok (.istore 5, 2) := by decide +kernel
theorem dX7_mayActs_39 : decode cX7_mayActs 39 = .ok (.aload_n 0, 1) := by decide +kernel
theorem dX7_mayActs_40 : decode cX7_mayActs 40 = .ok (.getfield 41, 3) := by decide +kernel
theorem dX7_mayActs_43 : decode cX7_mayActs 43 = .ok (.iload_n 3, 1) := by decide +kernel
theorem dX7_mayActs_44 : decode cX7_mayActs 44 = .ok (.iconst 2, 1) := by decide +kernel
theorem dX7_mayActs_45 : decode cX7_mayActs 45 = .ok (.iadd, 1) := by decide +kernel
theorem dX7_mayActs_46 : decode cX7_mayActs 46 = .ok (.iaload, 1) := by decide +kernel
theorem dX7_mayActs_47 : decode cX7_mayActs 47 = .ok (.istore 6, 2) := by decide +kernel
theorem dX7_mayActs_49 : decode cX7_mayActs 49 = .ok (.iload 4, 2) := by decide +kernel
theorem dX7_mayActs_51 : decode cX7_mayActs 51 = .ok (.iconst 1, 1) := by decide +kernel
theorem dX7_mayActs_52 : decode cX7_mayActs 52 = .ok (.if_icmp .lt 46, 3) := by decide +kernel
theorem dX7_mayActs_55 : decode cX7_mayActs 55 = .ok (.iload 4, 2) := by decide +kernel
theorem dX7_mayActs_57 : decode cX7_mayActs 57 = .ok (.iconst 3, 1) := by decide +kernel
theorem dX7_mayActs_58 : decode cX7_mayActs 58 = .ok (.if_icmp .gt 40, 3) := by decide +kernel
theorem dX7_mayActs_61 : decode cX7_mayActs 61 = .ok (.aload_n 0, 1) := by decide +kernel
theorem dX7_mayActs_62 : decode cX7_mayActs 62 = .ok (.getfield 29, 3) := by decide +kernel
theorem dX7_mayActs_65 : decode cX7_mayActs 65 = .ok (.iconst 4, 1) := by decide +kernel
theorem dX7_mayActs_66 : decode cX7_mayActs 66 = .ok (.iload 6, 2) := by decide +kernel
theorem dX7_mayActs_68 : decode cX7_mayActs 68 = .ok (.imul, 1) := by decide +kernel
theorem dX7_mayActs_69 : decode cX7_mayActs 69 = .ok (.aload_n 0, 1) := by decide +kernel
theorem dX7_mayActs_70 : decode cX7_mayActs 70 = .ok (.getfield 41, 3) := by decide +kernel
theorem dX7_mayActs_73 : decode cX7_mayActs 73 = .ok (.iload_n 3, 1) := by decide +kernel
theorem dX7_mayActs_74 : decode cX7_mayActs 74 = .ok (.iconst 3, 1) := by decide +kernel
theorem dX7_mayActs_75 : decode cX7_mayActs 75 = .ok (.iadd, 1) := by decide +kernel
theorem dX7_mayActs_76 : decode cX7_mayActs 76 = .ok (.iaload, 1) := by decide +kernel
theorem dX7_mayActs_77 : decode cX7_mayActs 77 = .ok (.iadd, 1) := by decide +kernel
theorem dX7_mayActs_78 : decode cX7_mayActs 78 = .ok (.baload, 1) := by decide +kernel
theorem dX7_mayActs_79 : decode cX7_mayActs 79 = .ok (.ifCond .ne 19, 3) := by decide +kernel
theorem dX7_mayActs_82 : decode cX7_mayActs 82 = .ok (.aload_n 0, 1) := by decide +kernel
theorem dX7_mayActs_83 : decode cX7_mayActs 83 = .ok (.dup, 1) := by decide +kernel
theorem dX7_mayActs_84 : decode cX7_mayActs 84 = .ok (.getfield 182, 3) := by decide +kernel
theorem dX7_mayActs_87 : decode cX7_mayActs 87 = .ok (.iconst 1, 1) := by decide +kernel
theorem dX7_mayActs_88 : decode cX7_mayActs 88 = .ok (.iload 6, 2) := by decide +kernel
theorem dX7_mayActs_90 : decode cX7_mayActs 90 = .ok (.ishl, 1) := by decide +kernel
theorem dX7_mayActs_91 : decode cX7_mayActs 91 = .ok (.ior, 1) := by decide +kernel
theorem dX7_mayActs_92 : decode cX7_mayActs 92 = .ok (.putfield 182, 3) := by decide +kernel
theorem dX7_mayActs_95 : decode cX7_mayActs 95 = .ok (.goto 59, 3) := by decide +kernel
theorem dX7_mayActs_98 : decode cX7_mayActs 98 = .ok (.iload 4, 2) := by decide +kernel
theorem dX7_mayActs_100 : decode cX7_mayActs 100 = .ok (.bipush 7, 2) := by decide +kernel
theorem dX7_mayActs_102 : decode cX7_mayActs 102 = .ok (.if_icmp .ne 32, 3) := by decide +kernel
theorem dX7_mayActs_105 : decode cX7_mayActs 105 = .ok (.aload_n 0, 1) := by decide +kernel
theorem dX7_mayActs_106 : decode cX7_mayActs 106 = .ok (.dup, 1) := by decide +kernel
theorem dX7_mayActs_107 : decode cX7_mayActs 107 = .ok (.getfield 182, 3) := by decide +kernel
theorem dX7_mayActs_110 : decode cX7_mayActs 110 = .ok (.iconst 1, 1) := by decide +kernel
theorem dX7_mayActs_111 : decode cX7_mayActs 111 = .ok (.iload 5, 2) := by decide +kernel
theorem dX7_mayActs_113 : decode cX7_mayActs 113 = .ok (.ishl, 1) := by decide +kernel
theorem dX7_mayActs_114 : decode cX7_mayActs 114 = .ok (.ior, 1) := by decide +kernel
theorem dX7_mayActs_115 : decode cX7_mayActs 115 = .ok (.putfield 182, 3) := by decide +kernel
theorem dX7_mayActs_118 : decode cX7_mayActs 118 = .ok (.aload_n 0, 1) := by decide +kernel
theorem dX7_mayActs_119 : decode cX7_mayActs 119 = .ok (.getfield 81, 3) := by decide +kernel
theorem dX7_mayActs_122 : decode cX7_mayActs 122 = .ok (.iconst 4, 1) := by decide +kernel
theorem dX7_mayActs_123 : decode cX7_mayActs 123 = .ok (.iload 5, 2) := by decide +kernel
theorem dX7_mayActs_125 : decode cX7_mayActs 125 = .ok (.imul, 1) := by decide +kernel
theorem dX7_mayActs_126 : decode cX7_mayActs 126 = .ok (.iload 6, 2) := by decide +kernel
theorem dX7_mayActs_128 : decode cX7_mayActs 128 = .ok (.iadd, 1) := by decide +kernel
theorem dX7_mayActs_129 : decode cX7_mayActs 129 = .ok (.iconst 1, 1) := by decide +kernel
theorem dX7_mayActs_130 : decode cX7_mayActs 130 = .ok (.bastore, 1) := by decide +kernel
theorem dX7_mayActs_131 : decode cX7_mayActs 131 = .ok (.goto 23, 3) := by decide +kernel
theorem dX7_mayActs_134 : decode cX7_mayActs 134 = .ok (.iload 4, 2) := by decide +kernel
theorem dX7_mayActs_136 : decode cX7_mayActs 136 = .ok (.bipush 8, 2) := by decide +kernel
theorem dX7_mayActs_138 : decode cX7_mayActs 138 = .ok (.if_icmp .ne 16, 3) := by decide +kernel
theorem dX7_mayActs_141 : decode cX7_mayActs 141 = .ok (.aload_n 0, 1) := by decide +kernel
theorem dX7_mayActs_142 : decode cX7_mayActs 142 = .ok (.dup, 1) := by decide +kernel
theorem dX7_mayActs_143 : decode cX7_mayActs 143 = .ok (.getfield 182, 3) := by decide +kernel
theorem dX7_mayActs_146 : decode cX7_mayActs 146 = .ok (.iconst 1, 1) := by decide +kernel
theorem dX7_mayActs_147 : decode cX7_mayActs 147 = .ok (.iload 5, 2) := by decide +kernel
theorem dX7_mayActs_149 : decode cX7_mayActs 149 = .ok (.ishl, 1) := by decide +kernel
theorem dX7_mayActs_150 : decode cX7_mayActs 150 = .ok (.ior, 1) := by decide +kernel
theorem dX7_mayActs_151 : decode cX7_mayActs 151 = .ok (.putfield 182, 3) := by decide +kernel
theorem dX7_mayActs_154 : decode cX7_mayActs 154 = .ok (.iinc 2 1, 3) := by decide +kernel
theorem dX7_mayActs_157 : decode cX7_mayActs 157 = .ok (.goto (-155), 3) := by decide +kernel
theorem dX7_mayActs_160 : decode cX7_mayActs 160 = .ok (.return_, 1) := by decide +kernel
theorem dX7_ahead_0 : decode cX7_ahead 0 = .ok (.aload_n 0, 1) := by decide +kernel
theorem dX7_ahead_1 : decode cX7_ahead 1 = .ok (.iload_n 1, 1) := by decide +kernel
theorem dX7_ahead_2 : decode cX7_ahead 2 = .ok (.invokevirtual 87, 3) := by decide +kernel
theorem dX7_ahead_5 : decode cX7_ahead 5 = .ok (.ifCond .eq 11, 3) := by decide +kernel
theorem dX7_ahead_8 : decode cX7_ahead 8 = .ok (.aload_n 0, 1) := by decide +kernel
theorem dX7_ahead_9 : decode cX7_ahead 9 = .ok (.iload_n 2, 1) := by decide +kernel
theorem dX7_ahead_10 : decode cX7_ahead 10 = .ok (.invokevirtual 87, 3) := by decide +kernel
theorem dX7_ahead_13 : decode cX7_ahead 13 = .ok (.ifCond .ne 6, 3) := by decide +kernel
theorem dX7_ahead_16 : decode cX7_ahead 16 = .ok (.bipush (-2), 2) := by decide +kernel
theorem dX7_ahead_18 : decode cX7_ahead 18 = .ok (.ireturn, 1) := by decide +kernel
theorem dX7_ahead_19 : decode cX7_ahead 19 = .ok (.iconst 0, 1) := by decide +kernel
theorem dX7_ahead_20 : decode cX7_ahead 20 = .ok (.istore_n 3, 1) := by decide +kernel
theorem dX7_ahead_21 : decode cX7_ahead 21 = .ok (.iload_n 1, 1) := by decide +kernel
theorem dX7_ahead_22 : decode cX7_ahead 22 = .ok (.istore 4, 2) := by decide +kernel
theorem dX7_ahead_24 : decode cX7_ahead 24 = .ok (.iload 4, 2) := by decide +kernel
theorem dX7_ahead_26 : decode cX7_ahead 26 = .ok (.iconst (-1), 1) := by decide +kernel
theorem dX7_ahead_27 : decode cX7_ahead 27 = .ok (.if_icmp .eq 59, 3) := by decide +kernel
theorem dX7_ahead_30 : decode cX7_ahead 30 = .ok (.aload_n 0, 1) := by decide +kernel
theorem dX7_ahead_31 : decode cX7_ahead 31 = .ok (.getfield 7, 3) := by decide +kernel
theorem dX7_ahead_34 : decode cX7_ahead 34 = .ok (.iload_n 1, 1) := by decide +kernel
theorem dX7_ahead_35 : decode cX7_ahead 35 = .ok (.baload, 1) := by decide +kernel
theorem dX7_ahead_36 : decode cX7_ahead 36 = .ok (.ifCond .ne 50, 3) := by decide +kernel
theorem dX7_ahead_39 : decode cX7_ahead 39 = .ok (.aload_n 0, 1) := by decide +kernel
theorem dX7_ahead_40 : decode cX7_ahead 40 = .ok (.iconst 0, 1) := by decide +kernel
theorem dX7_ahead_41 : decode cX7_ahead 41 = .ok (.putfield 182, 3) := by decide +kernel
theorem dX7_ahead_44 : decode cX7_ahead 44 = .ok (.aload_n 0, 1) := by decide +kernel
theorem dX7_ahead_45 : decode cX7_ahead 45 = .ok (.iload 4, 2) := by decide +kernel
theorem dX7_ahead_47 : decode cX7_ahead 47 = .ok (.invokevirtual 185, 3) := by decide +kernel
theorem dX7_ahead_50 : decode cX7_ahead 50 = .ok (.iload_n 3, 1) := by decide +kernel
theorem dX7_ahead_51 : decode cX7_ahead 51 = .ok (.aload_n 0, 1) := by decide +kernel
theorem dX7_ahead_52 : decode cX7_ahead 52 = .ok (.getfield 182, 3) := by decide +kernel
theorem dX7_ahead_55 : decode cX7_ahead 55 = .ok (.ior, 1) := by decide +kernel
theorem dX7_ahead_56 : decode cX7_ahead 56 = .ok (.istore_n 3, 1) := by decide +kernel
theorem dX7_ahead_57 : decode cX7_ahead 57 = .ok (.aload_n 0, 1) := by decide +kernel
theorem dX7_ahead_58 : decode cX7_ahead 58 = .ok (.getfield 16, 3) := by decide +kernel
theorem dX7_ahead_61 : decode cX7_ahead 61 = .ok (.iload 4, 2) := by decide +kernel
theorem dX7_ahead_63 : decode cX7_ahead 63 = .ok (.iaload, 1) := by decide +kernel
theorem dX7_ahead_64 : decode cX7_ahead 64 = .ok (.istore 4, 2) := by decide +kernel
theorem dX7_ahead_66 : decode cX7_ahead 66 = .ok (.iload_n 3, 1) := by decide +kernel
theorem dX7_ahead_67 : decode cX7_ahead 67 = .ok (.iload 4, 2) := by decide +kernel
theorem dX7_ahead_69 : decode cX7_ahead 69 = .ok (.iconst (-1), 1) := by decide +kernel
theorem dX7_ahead_70 : decode cX7_ahead 70 = .ok (.if_icmp .ne 7, 3) := by decide +kernel
theorem dX7_ahead_73 : decode cX7_ahead 73 = .ok (.iconst 0, 1) := by decide +kernel
theorem dX7_ahead_74 : decode cX7_ahead 74 = .ok (.goto 7, 3) := by decide +kernel
theorem dX7_ahead_77 : decode cX7_ahead 77 = .ok (.iconst 1, 1) := by decide +kernel
theorem dX7_ahead_78 : decode cX7_ahead 78 = .ok (.iload 4, 2) := by decide +kernel
theorem dX7_ahead_80 : decode cX7_ahead 80 = .ok (.ishl, 1) := by decide +kernel
theorem dX7_ahead_81 : decode cX7_ahead 81 = .ok (.ior, 1) := by decide +kernel
theorem dX7_ahead_82 : decode cX7_ahead 82 = .ok (.istore_n 3, 1) := by decide +kernel
theorem dX7_ahead_83 : decode cX7_ahead 83 = .ok (.goto (-59), 3) := by decide +kernel
theorem dX7_ahead_86 : decode cX7_ahead 86 = .ok (.iload_n 3, 1) := by decide +kernel
theorem dX7_ahead_87 : decode cX7_ahead 87 = .ok (.iload_n 2, 1) := by decide +kernel
theorem dX7_ahead_88 : decode cX7_ahead 88 = .ok (.ishr, 1) := by decide +kernel
theorem dX7_ahead_89 : decode cX7_ahead 89 = .ok (.iconst 1, 1) := by decide +kernel
theorem dX7_ahead_90 : decode cX7_ahead 90 = .ok (.iand, 1) := by decide +kernel
theorem dX7_ahead_91 : decode cX7_ahead 91 = .ok (.ireturn, 1) := by decide +kernel
end
section
theorem dL_law_0 : decode cL_law 0 = .ok (.new 7, 3) := by decide +kernel
theorem dL_law_3 : decode cL_law 3 = .ok (.dup, 1) := by decide +kernel
theorem dL_law_4 : decode cL_law 4 = .ok (.invokespecial 9, 3) := by decide +kernel
theorem dL_law_7 : decode cL_law 7 = .ok (.astore_n 1, 1) := by decide +kernel
theorem dL_law_8 : decode cL_law 8 = .ok (.new 10, 3) := by decide +kernel
theorem dL_law_11 : decode cL_law 11 = .ok (.dup, 1) := by decide +kernel
theorem dL_law_12 : decode cL_law 12 = .ok (.invokespecial 12, 3) := by decide +kernel
theorem dL_law_15 : decode cL_law 15 = .ok (.astore_n 2, 1) := by decide +kernel
theorem dL_law_16 : decode cL_law 16 = .ok (.iconst 0, 1) := by decide +kernel
theorem dL_law_17 : decode cL_law 17 = .ok (.istore_n 3, 1) := by decide +kernel
theorem dL_law_18 : decode cL_law 18 = .ok (.iload_n 3, 1) := by decide +kernel
theorem dL_law_19 : decode cL_law 19 = .ok (.aload_n 0, 1) := by decide +kernel
theorem dL_law_20 : decode cL_law 20 = .ok (.arraylength, 1) := by decide +kernel
theorem dL_law_21 : decode cL_law 21 = .ok (.bipush 7, 2) := by decide +kernel
theorem dL_law_23 : decode cL_law 23 = .ok (.isub, 1) := by decide +kernel
theorem dL_law_24 : decode cL_law 24 = .ok (.if_icmp .gt 600, 3) := by decide +kernel
theorem dL_law_27 : decode cL_law 27 = .ok (.aload_n 0, 1) := by decide +kernel
theorem dL_law_28 : decode cL_law 28 = .ok (.iload_n 3, 1) := by decide +kernel
theorem dL_law_29 : decode cL_law 29 = .ok (.iaload, 1) := by decide +kernel
theorem dL_law_30 : decode cL_law 30 = .ok (.bipush 15, 2) := by decide +kernel
theorem dL_law_32 : decode cL_law 32 = .ok (.iand, 1) := by decide +kernel
theorem dL_law_33 : decode cL_law 33 = .ok (.tableswitch 585 0 15 #[79, 102, 141, 174, 217, 292, 325, 338, 361, 394, 417, 450, 473, 506, 519, 552], 79) := by decide +kernel
theorem dL_law_112 : decode cL_law 112 = .ok (.aload_n 1, 1) := by decide +kernel
theorem dL_law_113 : decode cL_law 113 = .ok (.aload_n 0, 1) := by decide +kernel
theorem dL_law_114 : decode cL_law 114 = .ok (.iload_n 3, 1) := by decide +kernel
theorem dL_law_115 : decode cL_law 115 = .ok (.iconst 1, 1) := by decide +kernel
theorem dL_law_116 : decode cL_law 116 = .ok (.iadd, 1) := by decide +kernel
theorem dL_law_117 : decode cL_law 117 = .ok (.iaload, 1) := by decide +kernel
theorem dL_law_118 : decode cL_law 118 = .ok (.invokevirtual 13, 3) := by decide +kernel
theorem dL_law_121 : decode cL_law 121 = .ok (.aload_n 2, 1) := by decide +kernel
theorem dL_law_122 : decode cL_law 122 = .ok (.aload_n 0, 1) := by decide +kernel
theorem dL_law_123 : decode cL_law 123 = .ok (.iload_n 3, 1) := by decide +kernel
theorem dL_law_124 : decode cL_law 124 = .ok (.iconst 1, 1) := by decide +kernel
theorem dL_law_125 : decode cL_law 125 = .ok (.iadd, 1) := by decide +kernel
theorem dL_law_126 : decode cL_law 126 = .ok (.iaload, 1) := by decide +kernel
theorem dL_law_127 : decode cL_law 127 = .ok (.invokevirtual 17, 3) := by decide +kernel
theorem dL_law_130 : decode cL_law 130 = .ok (.if_icmp .eq 488, 3) := by decide +kernel
theorem dL_law_133 : decode cL_law 133 = .ok (.iconst 0, 1) := by decide +kernel
theorem dL_law_134 : decode cL_law 134 = .ok (.ireturn, 1) := by decide +kernel
theorem dL_law_135 : decode cL_law 135 = .ok (.aload_n 1, 1) := by decide +kernel
theorem dL_law_136 : decode cL_law 136 = .ok (.aload_n 0, 1) := by decide +kernel
theorem dL_law_137 : decode cL_law 137 = .ok (.iload_n 3, 1) := by decide +kernel
theorem dL_law_138 : decode cL_law 138 = .ok (.iconst 1, 1) := by decide +kernel
theorem dL_law_139 : decode cL_law 139 = .ok (.iadd, 1) := by decide +kernel
theorem dL_law_140 : decode cL_law 140 = .ok (.iaload, 1) := by decide +kernel
theorem dL_law_141 : decode cL_law 141 = .ok (.ifCond .eq 7, 3) := by decide +kernel
theorem dL_law_144 : decode cL_law 144 = .ok (.iconst 1, 1) := by decide +kernel
theorem dL_law_145 : decode cL_law 145 = .ok (.goto 4, 3) := by decide +kernel
theorem dL_law_148 : decode cL_law 148 = .ok (.iconst 0, 1) := by decide +kernel
theorem dL_law_149 : decode cL_law 149 = .ok (.invokevirtual 18, 3) := by decide +kernel
theorem dL_law_152 : decode cL_law 152 = .ok (.aload_n 2, 1) := by decide +kernel
theorem dL_law_153 : decode cL_law 153 = .ok (.aload_n 0, 1) := by decide +kernel
theorem dL_law_154 : decode cL_law 154 = .ok (.iload_n 3, 1) := by decide +kernel
theorem dL_law_155 : decode cL_law 155 = .ok (.iconst 1, 1) := by decide +kernel
theorem dL_law_156 : decode cL_law 156 = .ok (.iadd, 1) := by decide +kernel
theorem dL_law_157 : decode cL_law 157 = .ok (.iaload, 1) := by decide +kernel
theorem dL_law_158 : decode cL_law 158 = .ok (.ifCond .eq 7, 3) := by decide +kernel
theorem dL_law_161 : decode cL_law 161 = .ok (.iconst 1, 1) := by decide +kernel
theorem dL_law_162 : decode cL_law 162 = .ok (.goto 4, 3) := by decide +kernel
theorem dL_law_165 : decode cL_law 165 = .ok (.iconst 0, 1) := by decide +kernel
theorem dL_law_166 : decode cL_law 166 = .ok (.invokevirtual 22, 3) := by decide +kernel
theorem dL_law_169 : decode cL_law 169 = .ok (.if_icmp .eq 449, 3) := by decide +kernel
theorem dL_law_172 : decode cL_law 172 = .ok (.iconst 0, 1) := by decide +kernel
theorem dL_law_173 : decode cL_law 173 = .ok (.ireturn, 1) := by decide +kernel
theorem dL_law_174 : decode cL_law 174 = .ok (.aload_n 1, 1) := by decide +kernel
theorem dL_law_175 : decode cL_law 175 = .ok (.aload_n 0, 1) := by decide +kernel
theorem dL_law_176 : decode cL_law 176 = .ok (.iload_n 3, 1) := by decide +kernel
theorem dL_law_177 : decode cL_law 177 = .ok (.iconst 1, 1) := by decide +kernel
theorem dL_law_178 : decode cL_law 178 = .ok (.iadd, 1) := by decide +kernel
theorem dL_law_179 : decode cL_law 179 = .ok (.iaload, 1) := by decide +kernel
theorem dL_law_180 : decode cL_law 180 = .ok (.aload_n 0, 1) := by decide +kernel
theorem dL_law_181 : decode cL_law 181 = .ok (.iload_n 3, 1) := by decide +kernel
theorem dL_law_182 : decode cL_law 182 = .ok (.iconst 2, 1) := by decide +kernel
theorem dL_law_183 : decode cL_law 183 = .ok (.iadd, 1) := by decide +kernel
theorem dL_law_184 : decode cL_law 184 = .ok (.iaload, 1) := by decide +kernel
theorem dL_law_185 : decode cL_law 185 = .ok (.invokevirtual 23, 3) := by decide +kernel
theorem dL_law_188 : decode cL_law 188 = .ok (.aload_n 2, 1) := by decide +kernel
theorem dL_law_189 : decode cL_law 189 = .ok (.aload_n 0, 1) := by decide +kernel
theorem dL_law_190 : decode cL_law 190 = .ok (.iload_n 3, 1) := by decide +kernel
theorem dL_law_191 : decode cL_law 191 = .ok (.iconst 1, 1) := by decide +kernel
theorem dL_law_192 : decode cL_law 192 = .ok (.iadd, 1) := by decide +kernel
theorem dL_law_193 : decode cL_law 193 = .ok (.iaload, 1) := by decide +kernel
theorem dL_law_194 : decode cL_law 194 = .ok (.aload_n 0, 1) := by decide +kernel
theorem dL_law_195 : decode cL_law 195 = .ok (.iload_n 3, 1) := by decide +kernel
theorem dL_law_196 : decode cL_law 196 = .ok (.iconst 2, 1) := by decide +kernel
theorem dL_law_197 : decode cL_law 197 = .ok (.iadd, 1) := by decide +kernel
theorem dL_law_198 : decode cL_law 198 = .ok (.iaload, 1) := by decide +kernel
theorem dL_law_199 : decode cL_law 199 = .ok (.invokevirtual 27, 3) := by decide +kernel
theorem dL_law_202 : decode cL_law 202 = .ok (.if_icmp .eq 416, 3) := by decide +kernel
theorem dL_law_205 : decode cL_law 205 = .ok (.iconst 0, 1) := by decide +kernel
theorem dL_law_206 : decode cL_law 206 = .ok (.ireturn, 1) := by decide +kernel
theorem dL_law_207 : decode cL_law 207 = .ok (.aload_n 1, 1) := by decide +kernel
theorem dL_law_208 : decode cL_law 208 = .ok (.aload_n 0, 1) := by decide +kernel
theorem dL_law_209 : decode cL_law 209 = .ok (.iload_n 3, 1) := by decide +kernel
theorem dL_law_210 : decode cL_law 210 = .ok (.iconst 1, 1) := by decide +kernel
theorem dL_law_211 : decode cL_law 211 = .ok (.iadd, 1) := by decide +kernel
theorem dL_law_212 : decode cL_law 212 = .ok (.iaload, 1) := by decide +kernel
theorem dL_law_213 : decode cL_law 213 = .ok (.aload_n 0, 1) := by decide +kernel
theorem dL_law_214 : decode cL_law 214 = .ok (.iload_n 3, 1) := by decide +kernel
theorem dL_law_215 : decode cL_law 215 = .ok (.iconst 2, 1) := by decide +kernel
theorem dL_law_216 : decode cL_law 216 = .ok (.iadd, 1) := by decide +kernel
theorem dL_law_217 : decode cL_law 217 = .ok (.iaload, 1) := by decide +kernel
theorem dL_law_218 : decode cL_law 218 = .ok (.aload_n 0, 1) := by decide +kernel
theorem dL_law_219 : decode cL_law 219 = .ok (.iload_n 3, 1) := by decide +kernel
theorem dL_law_220 : decode cL_law 220 = .ok (.iconst 3, 1) := by decide +kernel
theorem dL_law_221 : decode cL_law 221 = .ok (.iadd, 1) := by decide +kernel
theorem dL_law_222 : decode cL_law 222 = .ok (.iaload, 1) := by decide +kernel
theorem dL_law_223 : decode cL_law 223 = .ok (.invokevirtual 28, 3) := by decide +kernel
theorem dL_law_226 : decode cL_law 226 = .ok (.aload_n 2, 1) := by decide +kernel
theorem dL_law_227 : decode cL_law 227 = .ok (.aload_n 0, 1) := by decide +kernel
theorem dL_law_228 : decode cL_law 228 = .ok (.iload_n 3, 1) := by decide +kernel
theorem dL_law_229 : decode cL_law 229 = .ok (.iconst 1, 1) := by decide +kernel
theorem dL_law_230 : decode cL_law 230 = .ok (.iadd, 1) := by decide +kernel
theorem dL_law_231 : decode cL_law 231 = .ok (.iaload, 1) := by decide +kernel
theorem dL_law_232 : decode cL_law 232 = .ok (.aload_n 0, 1) := by decide +kernel
theorem dL_law_233 : decode cL_law 233 = .ok (.iload_n 3, 1) := by decide +kernel
theorem dL_law_234 : decode cL_law 234 = .ok (.iconst 2, 1) := by decide +kernel
theorem dL_law_235 : decode cL_law 235 = .ok (.iadd, 1) := by decide +kernel
theorem dL_law_236 : decode cL_law 236 = .ok (.iaload, 1) := by decide +kernel
theorem dL_law_237 : decode cL_law 237 = .ok (.aload_n 0, 1) := by decide +kernel
theorem dL_law_238 : decode cL_law 238 = .ok (.iload_n 3, 1) := by decide +kernel
theorem dL_law_239 : decode cL_law 239 = .ok (.iconst 3, 1) := by decide +kernel
theorem dL_law_240 : decode cL_law 240 = .ok (.iadd, 1) := by decide +kernel
theorem dL_law_241 : decode cL_law 241 = .ok (.iaload, 1) := by decide +kernel
theorem dL_law_242 : decode cL_law 242 = .ok (.invokevirtual 32, 3) := by decide +kernel
theorem dL_law_245 : decode cL_law 245 = .ok (.if_icmp .eq 373, 3) := by decide +kernel
theorem dL_law_248 : decode cL_law 248 = .ok (.iconst 0, 1) := by decide +kernel
theorem dL_law_249 : decode cL_law 249 = .ok (.ireturn, 1) := by decide +kernel
theorem dL_law_250 : decode cL_law 250 = .ok (.aload_n 1, 1) := by decide +kernel
theorem dL_law_251 : decode cL_law 251 = .ok (.aload_n 0, 1) := by decide +kernel
theorem dL_law_252 : decode cL_law 252 = .ok (.iload_n 3, 1) := by decide +kernel
theorem dL_law_253 : decode cL_law 253 = .ok (.iconst 1, 1) := by decide +kernel
theorem dL_law_254 : decode cL_law 254 = .ok (.iadd, 1) := by decide +kernel
theorem dL_law_255 : decode cL_law 255 = .ok (.iaload, 1) := by decide +kernel
theorem dL_law_256 : decode cL_law 256 = .ok (.aload_n 0, 1) := by decide +kernel
theorem dL_law_257 : decode cL_law 257 = .ok (.iload_n 3, 1) := by decide +kernel
theorem dL_law_258 : decode cL_law 258 = .ok (.iconst 2, 1) := by decide +kernel
theorem dL_law_259 : decode cL_law 259 = .ok (.iadd, 1) := by decide +kernel
theorem dL_law_260 : decode cL_law 260 = .ok (.iaload, 1) := by decide +kernel
theorem dL_law_261 : decode cL_law 261 = .ok (.aload_n 0, 1) := by decide +kernel
theorem dL_law_262 : decode cL_law 262 = .ok (.iload_n 3, 1) := by decide +kernel
theorem dL_law_263 : decode cL_law 263 = .ok (.iconst 3, 1) := by decide +kernel
theorem dL_law_264 : decode cL_law 264 = .ok (.iadd, 1) := by decide +kernel
theorem dL_law_265 : decode cL_law 265 = .ok (.iaload, 1) := by decide +kernel
theorem dL_law_266 : decode cL_law 266 = .ok (.aload_n 0, 1) := by decide +kernel
theorem dL_law_267 : decode cL_law 267 = .ok (.iload_n 3, 1) := by decide +kernel
theorem dL_law_268 : decode cL_law 268 = .ok (.iconst 4, 1) := by decide +kernel
theorem dL_law_269 : decode cL_law 269 = .ok (.iadd, 1) := by decide +kernel
theorem dL_law_270 : decode cL_law 270 = .ok (.iaload, 1) := by decide +kernel
theorem dL_law_271 : decode cL_law 271 = .ok (.aload_n 0, 1) := by decide +kernel
theorem dL_law_272 : decode cL_law 272 = .ok (.iload_n 3, 1) := by decide +kernel
theorem dL_law_273 : decode cL_law 273 = .ok (.iconst 5, 1) := by decide +kernel
theorem dL_law_274 : decode cL_law 274 = .ok (.iadd, 1) := by decide +kernel
theorem dL_law_275 : decode cL_law 275 = .ok (.iaload, 1) := by decide +kernel
theorem dL_law_276 : decode cL_law 276 = .ok (.aload_n 0, 1) := by decide +kernel
theorem dL_law_277 : decode cL_law 277 = .ok (.iload_n 3, 1) := by decide +kernel
theorem dL_law_278 : decode cL_law 278 = .ok (.bipush 6, 2) := by decide +kernel
theorem dL_law_280 : decode cL_law 280 = .ok (.iadd, 1) := by decide +kernel
theorem dL_law_281 : decode cL_law 281 = .ok (.iaload, 1) := by decide +kernel
theorem dL_law_282 : decode cL_law 282 = .ok (.invokevirtual 33, 3) := by decide +kernel
theorem dL_law_285 : decode cL_law 285 = .ok (.aload_n 2, 1) := by decide +kernel
theorem dL_law_286 : decode cL_law 286 = .ok (.aload_n 0, 1) := by decide +kernel
theorem dL_law_287 : decode cL_law 287 = .ok (.iload_n 3, 1) := by decide +kernel
theorem dL_law_288 : decode cL_law 288 = .ok (.iconst 1, 1) := by decide +kernel
theorem dL_law_289 : decode cL_law 289 = .ok (.iadd, 1) := by decide +kernel
theorem dL_law_290 : decode cL_law 290 = .ok (.iaload, 1) := by decide +kernel
theorem dL_law_291 : decode cL_law 291 = .ok (.aload_n 0, 1) := by decide +kernel
theorem dL_law_292 : decode cL_law 292 = .ok (.iload_n 3, 1) := by decide +kernel
theorem dL_law_293 : decode cL_law 293 = .ok (.iconst 2, 1) := by decide +kernel
theorem dL_law_294 : decode cL_law 294 = .ok (.iadd, 1) := by decide +kernel
theorem dL_law_295 : decode cL_law 295 = .ok (.iaload, 1) := by decide +kernel
theorem dL_law_296 : decode cL_law 296 = .ok (.aload_n 0, 1) := by decide +kernel
theorem dL_law_297 : decode cL_law 297 = .ok (.iload_n 3, 1) := by decide +kernel
theorem dL_law_298 : decode cL_law 298 = .ok (.iconst 3, 1) := by decide +kernel
theorem dL_law_299 : decode cL_law 299 = .ok (.iadd, 1) := by decide +kernel
theorem dL_law_300 : decode cL_law 300 = .ok (.iaload, 1) := by decide +kernel
theorem dL_law_301 : decode cL_law 301 = .ok (.aload_n 0, 1) := by decide +kernel
theorem dL_law_302 : decode cL_law 302 = .ok (.iload_n 3, 1) := by decide +kernel
theorem dL_law_303 : decode cL_law 303 = .ok (.iconst 4, 1) := by decide +kernel
theorem dL_law_304 : decode cL_law 304 = .ok (.iadd, 1) := by decide +kernel
theorem dL_law_305 : decode cL_law 305 = .ok (.iaload, 1) := by decide +kernel
theorem dL_law_306 : decode cL_law 306 = .ok (.aload_n 0, 1) := by decide +kernel
theorem dL_law_307 : decode cL_law 307 = .ok (.iload_n 3, 1) := by decide +kernel
theorem dL_law_308 : decode cL_law 308 = .ok (.iconst 5, 1) := by decide +kernel
theorem dL_law_309 : decode cL_law 309 = .ok (.iadd, 1) := by decide +kernel
theorem dL_law_310 : decode cL_law 310 = .ok (.iaload, 1) := by decide +kernel
theorem dL_law_311 : decode cL_law 311 = .ok (.aload_n 0, 1) := by decide +kernel
theorem dL_law_312 : decode cL_law 312 = .ok (.iload_n 3, 1) := by decide +kernel
theorem dL_law_313 : decode cL_law 313 = .ok (.bipush 6, 2) := by decide +kernel
theorem dL_law_315 : decode cL_law 315 = .ok (.iadd, 1) := by decide +kernel
theorem dL_law_316 : decode cL_law 316 = .ok (.iaload, 1) := by decide +kernel
theorem dL_law_317 : decode cL_law 317 = .ok (.invokevirtual 37, 3) := by decide +kernel
theorem dL_law_320 : decode cL_law 320 = .ok (.if_icmp .eq 298, 3) := by decide +kernel
theorem dL_law_323 : decode cL_law 323 = .ok (.iconst 0, 1) := by decide +kernel
theorem dL_law_324 : decode cL_law 324 = .ok (.ireturn, 1) := by decide +kernel
theorem dL_law_325 : decode cL_law 325 = .ok (.aload_n 1, 1) := by decide +kernel
theorem dL_law_326 : decode cL_law 326 = .ok (.aload_n 0, 1) := by decide +kernel
theorem dL_law_327 : decode cL_law 327 = .ok (.iload_n 3, 1) := by decide +kernel
theorem dL_law_328 : decode cL_law 328 = .ok (.iconst 1, 1) := by decide +kernel
theorem dL_law_329 : decode cL_law 329 = .ok (.iadd, 1) := by decide +kernel
theorem dL_law_330 : decode cL_law 330 = .ok (.iaload, 1) := by decide +kernel
theorem dL_law_331 : decode cL_law 331 = .ok (.aload_n 0, 1) := by decide +kernel
theorem dL_law_332 : decode cL_law 332 = .ok (.iload_n 3, 1) := by decide +kernel
theorem dL_law_333 : decode cL_law 333 = .ok (.iconst 2, 1) := by decide +kernel
theorem dL_law_334 : decode cL_law 334 = .ok (.iadd, 1) := by decide +kernel
theorem dL_law_335 : decode cL_law 335 = .ok (.iaload, 1) := by decide +kernel
theorem dL_law_336 : decode cL_law 336 = .ok (.invokevirtual 38, 3) := by decide +kernel
theorem dL_law_339 : decode cL_law 339 = .ok (.aload_n 2, 1) := by decide +kernel
theorem dL_law_340 : decode cL_law 340 = .ok (.aload_n 0, 1) := by decide +kernel
theorem dL_law_341 : decode cL_law 341 = .ok (.iload_n 3, 1) := by decide +kernel
theorem dL_law_342 : decode cL_law 342 = .ok (.iconst 1, 1) := by decide +kernel
theorem dL_law_343 : decode cL_law 343 = .ok (.iadd, 1) := by decide +kernel
theorem dL_law_344 : decode cL_law 344 = .ok (.iaload, 1) := by decide +kernel
theorem dL_law_345 : decode cL_law 345 = .ok (.aload_n 0, 1) := by decide +kernel
theorem dL_law_346 : decode cL_law 346 = .ok (.iload_n 3, 1) := by decide +kernel
theorem dL_law_347 : decode cL_law 347 = .ok (.iconst 2, 1) := by decide +kernel
theorem dL_law_348 : decode cL_law 348 = .ok (.iadd, 1) := by decide +kernel
theorem dL_law_349 : decode cL_law 349 = .ok (.iaload, 1) := by decide +kernel
theorem dL_law_350 : decode cL_law 350 = .ok (.invokevirtual 41, 3) := by decide +kernel
theorem dL_law_353 : decode cL_law 353 = .ok (.if_icmp .eq 265, 3) := by decide +kernel
theorem dL_law_356 : decode cL_law 356 = .ok (.iconst 0, 1) := by decide +kernel
theorem dL_law_357 : decode cL_law 357 = .ok (.ireturn, 1) := by decide +kernel
theorem dL_law_358 : decode cL_law 358 = .ok (.aload_n 1, 1) := by decide +kernel
theorem dL_law_359 : decode cL_law 359 = .ok (.invokevirtual 42, 3) := by decide +kernel
theorem dL_law_362 : decode cL_law 362 = .ok (.aload_n 2, 1) := by decide +kernel
theorem dL_law_363 : decode cL_law 363 = .ok (.invokevirtual 46, 3) := by decide +kernel
theorem dL_law_366 : decode cL_law 366 = .ok (.if_icmp .eq 252, 3) := by decide +kernel
theorem dL_law_369 : decode cL_law 369 = .ok (.iconst 0, 1) := by decide +kernel
theorem dL_law_370 : decode cL_law 370 = .ok (.ireturn, 1) := by decide +kernel
theorem dL_law_371 : decode cL_law 371 = .ok (.aload_n 1, 1) := by decide +kernel
theorem dL_law_372 : decode cL_law 372 = .ok (.aload_n 0, 1) := by decide +kernel
theorem dL_law_373 : decode cL_law 373 = .ok (.iload_n 3, 1) := by decide +kernel
theorem dL_law_374 : decode cL_law 374 = .ok (.iconst 1, 1) := by decide +kernel
theorem dL_law_375 : decode cL_law 375 = .ok (.iadd, 1) := by decide +kernel
theorem dL_law_376 : decode cL_law 376 = .ok (.iaload, 1) := by decide +kernel
theorem dL_law_377 : decode cL_law 377 = .ok (.invokevirtual 47, 3) := by decide +kernel
theorem dL_law_380 : decode cL_law 380 = .ok (.aload_n 2, 1) := by decide +kernel
theorem dL_law_381 : decode cL_law 381 = .ok (.aload_n 0, 1) := by decide +kernel
theorem dL_law_382 : decode cL_law 382 = .ok (.iload_n 3, 1) := by decide +kernel
theorem dL_law_383 : decode cL_law 383 = .ok (.iconst 1, 1) := by decide +kernel
theorem dL_law_384 : decode cL_law 384 = .ok (.iadd, 1) := by decide +kernel
theorem dL_law_385 : decode cL_law 385 = .ok (.iaload, 1) := by decide +kernel
theorem dL_law_386 : decode cL_law 386 = .ok (.invokevirtual 50, 3) := by decide +kernel
theorem dL_law_389 : decode cL_law 389 = .ok (.if_icmp .eq 229, 3) := by decide +kernel
theorem dL_law_392 : decode cL_law 392 = .ok (.iconst 0, 1) := by decide +kernel
theorem dL_law_393 : decode cL_law 393 = .ok (.ireturn, 1) := by decide +kernel
theorem dL_law_394 : decode cL_law 394 = .ok (.aload_n 1, 1) := by decide +kernel
theorem dL_law_395 : decode cL_law 395 = .ok (.aload_n 0, 1) := by decide +kernel
theorem dL_law_396 : decode cL_law 396 = .ok (.iload_n 3, 1) := by decide +kernel
theorem dL_law_397 : decode cL_law 397 = .ok (.iconst 1, 1) := by decide +kernel
theorem dL_law_398 : decode cL_law 398 = .ok (.iadd, 1) := by decide +kernel
theorem dL_law_399 : decode cL_law 399 = .ok (.iaload, 1) := by decide +kernel
theorem dL_law_400 : decode cL_law 400 = .ok (.aload_n 0, 1) := by decide +kernel
theorem dL_law_401 : decode cL_law 401 = .ok (.iload_n 3, 1) := by decide +kernel
theorem dL_law_402 : decode cL_law 402 = .ok (.iconst 2, 1) := by decide +kernel
theorem dL_law_403 : decode cL_law 403 = .ok (.iadd, 1) := by decide +kernel
theorem dL_law_404 : decode cL_law 404 = .ok (.iaload, 1) := by decide +kernel
theorem dL_law_405 : decode cL_law 405 = .ok (.invokevirtual 51, 3) := by decide +kernel
theorem dL_law_408 : decode cL_law 408 = .ok (.aload_n 2, 1) := by decide +kernel
theorem dL_law_409 : decode cL_law 409 = .ok (.aload_n 0, 1) := by decide +kernel
theorem dL_law_410 : decode cL_law 410 = .ok (.iload_n 3, 1) := by decide +kernel
theorem dL_law_411 : decode cL_law 411 = .ok (.iconst 1, 1) := by decide +kernel
theorem dL_law_412 : decode cL_law 412 = .ok (.iadd, 1) := by decide +kernel
theorem dL_law_413 : decode cL_law 413 = .ok (.iaload, 1) := by decide +kernel
theorem dL_law_414 : decode cL_law 414 = .ok (.aload_n 0, 1) := by decide +kernel
theorem dL_law_415 : decode cL_law 415 = .ok (.iload_n 3, 1) := by decide +kernel
theorem dL_law_416 : decode cL_law 416 = .ok (.iconst 2, 1) := by decide +kernel
theorem dL_law_417 : decode cL_law 417 = .ok (.iadd, 1) := by decide +kernel
theorem dL_law_418 : decode cL_law 418 = .ok (.iaload, 1) := by decide +kernel
theorem dL_law_419 : decode cL_law 419 = .ok (.invokevirtual 54, 3) := by decide +kernel
theorem dL_law_422 : decode cL_law 422 = .ok (.if_icmp .eq 196, 3) := by decide +kernel
theorem dL_law_425 : decode cL_law 425 = .ok (.iconst 0, 1) := by decide +kernel
theorem dL_law_426 : decode cL_law 426 = .ok (.ireturn, 1) := by decide +kernel
theorem dL_law_427 : decode cL_law 427 = .ok (.aload_n 1, 1) := by decide +kernel
theorem dL_law_428 : decode cL_law 428 = .ok (.aload_n 0, 1) := by decide +kernel
theorem dL_law_429 : decode cL_law 429 = .ok (.iload_n 3, 1) := by decide +kernel
theorem dL_law_430 : decode cL_law 430 = .ok (.iconst 1, 1) := by decide +kernel
theorem dL_law_431 : decode cL_law 431 = .ok (.iadd, 1) := by decide +kernel
theorem dL_law_432 : decode cL_law 432 = .ok (.iaload, 1) := by decide +kernel
theorem dL_law_433 : decode cL_law 433 = .ok (.invokevirtual 55, 3) := by decide +kernel
theorem dL_law_436 : decode cL_law 436 = .ok (.aload_n 2, 1) := by decide +kernel
theorem dL_law_437 : decode cL_law 437 = .ok (.aload_n 0, 1) := by decide +kernel
theorem dL_law_438 : decode cL_law 438 = .ok (.iload_n 3, 1) := by decide +kernel
theorem dL_law_439 : decode cL_law 439 = .ok (.iconst 1, 1) := by decide +kernel
theorem dL_law_440 : decode cL_law 440 = .ok (.iadd, 1) := by decide +kernel
theorem dL_law_441 : decode cL_law 441 = .ok (.iaload, 1) := by decide +kernel
theorem dL_law_442 : decode cL_law 442 = .ok (.invokevirtual 58, 3) := by decide +kernel
theorem dL_law_445 : decode cL_law 445 = .ok (.if_icmp .eq 173, 3) := by decide +kernel
theorem dL_law_448 : decode cL_law 448 = .ok (.iconst 0, 1) := by decide +kernel
theorem dL_law_449 : decode cL_law 449 = .ok (.ireturn, 1) := by decide +kernel
theorem dL_law_450 : decode cL_law 450 = .ok (.aload_n 1, 1) := by decide +kernel
theorem dL_law_451 : decode cL_law 451 = .ok (.aload_n 0, 1) := by decide +kernel
theorem dL_law_452 : decode cL_law 452 = .ok (.iload_n 3, 1) := by decide +kernel
theorem dL_law_453 : decode cL_law 453 = .ok (.iconst 1, 1) := by decide +kernel
theorem dL_law_454 : decode cL_law 454 = .ok (.iadd, 1) := by decide +kernel
theorem dL_law_455 : decode cL_law 455 = .ok (.iaload, 1) := by decide +kernel
theorem dL_law_456 : decode cL_law 456 = .ok (.aload_n 0, 1) := by decide +kernel
theorem dL_law_457 : decode cL_law 457 = .ok (.iload_n 3, 1) := by decide +kernel
theorem dL_law_458 : decode cL_law 458 = .ok (.iconst 2, 1) := by decide +kernel
theorem dL_law_459 : decode cL_law 459 = .ok (.iadd, 1) := by decide +kernel
theorem dL_law_460 : decode cL_law 460 = .ok (.iaload, 1) := by decide +kernel
theorem dL_law_461 : decode cL_law 461 = .ok (.invokevirtual 59, 3) := by decide +kernel
theorem dL_law_464 : decode cL_law 464 = .ok (.aload_n 2, 1) := by decide +kernel
theorem dL_law_465 : decode cL_law 465 = .ok (.aload_n 0, 1) := by decide +kernel
theorem dL_law_466 : decode cL_law 466 = .ok (.iload_n 3, 1) := by decide +kernel
theorem dL_law_467 : decode cL_law 467 = .ok (.iconst 1, 1) := by decide +kernel
theorem dL_law_468 : decode cL_law 468 = .ok (.iadd, 1) := by decide +kernel
theorem dL_law_469 : decode cL_law 469 = .ok (.iaload, 1) := by decide +kernel
theorem dL_law_470 : decode cL_law 470 = .ok (.aload_n 0, 1) := by decide +kernel
theorem dL_law_471 : decode cL_law 471 = .ok (.iload_n 3, 1) := by decide +kernel
theorem dL_law_472 : decode cL_law 472 = .ok (.iconst 2, 1) := by decide +kernel
theorem dL_law_473 : decode cL_law 473 = .ok (.iadd, 1) := by decide +kernel
theorem dL_law_474 : decode cL_law 474 = .ok (.iaload, 1) := by decide +kernel
theorem dL_law_475 : decode cL_law 475 = .ok (.invokevirtual 62, 3) := by decide +kernel
theorem dL_law_478 : decode cL_law 478 = .ok (.if_icmp .eq 140, 3) := by decide +kernel
theorem dL_law_481 : decode cL_law 481 = .ok (.iconst 0, 1) := by decide +kernel
theorem dL_law_482 : decode cL_law 482 = .ok (.ireturn, 1) := by decide +kernel
theorem dL_law_483 : decode cL_law 483 = .ok (.aload_n 1, 1) := by decide +kernel
theorem dL_law_484 : decode cL_law 484 = .ok (.aload_n 0, 1) := by decide +kernel
theorem dL_law_485 : decode cL_law 485 = .ok (.iload_n 3, 1) := by decide +kernel
theorem dL_law_486 : decode cL_law 486 = .ok (.iconst 1, 1) := by decide +kernel
theorem dL_law_487 : decode cL_law 487 = .ok (.iadd, 1) := by decide +kernel
theorem dL_law_488 : decode cL_law 488 = .ok (.iaload, 1) := by decide +kernel
theorem dL_law_489 : decode cL_law 489 = .ok (.invokevirtual 63, 3) := by decide +kernel
theorem dL_law_492 : decode cL_law 492 = .ok (.aload_n 2, 1) := by decide +kernel
theorem dL_law_493 : decode cL_law 493 = .ok (.aload_n 0, 1) := by decide +kernel
theorem dL_law_494 : decode cL_law 494 = .ok (.iload_n 3, 1) := by decide +kernel
theorem dL_law_495 : decode cL_law 495 = .ok (.iconst 1, 1) := by decide +kernel
theorem dL_law_496 : decode cL_law 496 = .ok (.iadd, 1) := by decide +kernel
theorem dL_law_497 : decode cL_law 497 = .ok (.iaload, 1) := by decide +kernel
theorem dL_law_498 : decode cL_law 498 = .ok (.invokevirtual 66, 3) := by decide +kernel
theorem dL_law_501 : decode cL_law 501 = .ok (.if_icmp .eq 117, 3) := by decide +kernel
theorem dL_law_504 : decode cL_law 504 = .ok (.iconst 0, 1) := by decide +kernel
theorem dL_law_505 : decode cL_law 505 = .ok (.ireturn, 1) := by decide +kernel
theorem dL_law_506 : decode cL_law 506 = .ok (.aload_n 1, 1) := by decide +kernel
theorem dL_law_507 : decode cL_law 507 = .ok (.aload_n 0, 1) := by decide +kernel
theorem dL_law_508 : decode cL_law 508 = .ok (.iload_n 3, 1) := by decide +kernel
theorem dL_law_509 : decode cL_law 509 = .ok (.iconst 1, 1) := by decide +kernel
theorem dL_law_510 : decode cL_law 510 = .ok (.iadd, 1) := by decide +kernel
theorem dL_law_511 : decode cL_law 511 = .ok (.iaload, 1) := by decide +kernel
theorem dL_law_512 : decode cL_law 512 = .ok (.aload_n 0, 1) := by decide +kernel
theorem dL_law_513 : decode cL_law 513 = .ok (.iload_n 3, 1) := by decide +kernel
theorem dL_law_514 : decode cL_law 514 = .ok (.iconst 2, 1) := by decide +kernel
theorem dL_law_515 : decode cL_law 515 = .ok (.iadd, 1) := by decide +kernel
theorem dL_law_516 : decode cL_law 516 = .ok (.iaload, 1) := by decide +kernel
theorem dL_law_517 : decode cL_law 517 = .ok (.invokevirtual 67, 3) := by decide +kernel
theorem dL_law_520 : decode cL_law 520 = .ok (.aload_n 2, 1) := by decide +kernel
theorem dL_law_521 : decode cL_law 521 = .ok (.aload_n 0, 1) := by decide +kernel
theorem dL_law_522 : decode cL_law 522 = .ok (.iload_n 3, 1) := by decide +kernel
theorem dL_law_523 : decode cL_law 523 = .ok (.iconst 1, 1) := by decide +kernel
theorem dL_law_524 : decode cL_law 524 = .ok (.iadd, 1) := by decide +kernel
theorem dL_law_525 : decode cL_law 525 = .ok (.iaload, 1) := by decide +kernel
theorem dL_law_526 : decode cL_law 526 = .ok (.aload_n 0, 1) := by decide +kernel
theorem dL_law_527 : decode cL_law 527 = .ok (.iload_n 3, 1) := by decide +kernel
theorem dL_law_528 : decode cL_law 528 = .ok (.iconst 2, 1) := by decide +kernel
theorem dL_law_529 : decode cL_law 529 = .ok (.iadd, 1) := by decide +kernel
theorem dL_law_530 : decode cL_law 530 = .ok (.iaload, 1) := by decide +kernel
theorem dL_law_531 : decode cL_law 531 = .ok (.invokevirtual 70, 3) := by decide +kernel
theorem dL_law_534 : decode cL_law 534 = .ok (.if_icmp .eq 84, 3) := by decide +kernel
theorem dL_law_537 : decode cL_law 537 = .ok (.iconst 0, 1) := by decide +kernel
theorem dL_law_538 : decode cL_law 538 = .ok (.ireturn, 1) := by decide +kernel
theorem dL_law_539 : decode cL_law 539 = .ok (.aload_n 1, 1) := by decide +kernel
theorem dL_law_540 : decode cL_law 540 = .ok (.invokevirtual 71, 3) := by decide +kernel
theorem dL_law_543 : decode cL_law 543 = .ok (.aload_n 2, 1) := by decide +kernel
theorem dL_law_544 : decode cL_law 544 = .ok (.invokevirtual 74, 3) := by decide +kernel
theorem dL_law_547 : decode cL_law 547 = .ok (.if_icmp .eq 71, 3) := by decide +kernel
theorem dL_law_550 : decode cL_law 550 = .ok (.iconst 0, 1) := by decide +kernel
theorem dL_law_551 : decode cL_law 551 = .ok (.ireturn, 1) := by decide +kernel
theorem dL_law_552 : decode cL_law 552 = .ok (.aload_n 1, 1) := by decide +kernel
theorem dL_law_553 : decode cL_law 553 = .ok (.aload_n 0, 1) := by decide +kernel
theorem dL_law_554 : decode cL_law 554 = .ok (.iload_n 3, 1) := by decide +kernel
theorem dL_law_555 : decode cL_law 555 = .ok (.iconst 1, 1) := by decide +kernel
theorem dL_law_556 : decode cL_law 556 = .ok (.iadd, 1) := by decide +kernel
theorem dL_law_557 : decode cL_law 557 = .ok (.iaload, 1) := by decide +kernel
theorem dL_law_558 : decode cL_law 558 = .ok (.aload_n 0, 1) := by decide +kernel
theorem dL_law_559 : decode cL_law 559 = .ok (.iload_n 3, 1) := by decide +kernel
theorem dL_law_560 : decode cL_law 560 = .ok (.iconst 2, 1) := by decide +kernel
theorem dL_law_561 : decode cL_law 561 = .ok (.iadd, 1) := by decide +kernel
theorem dL_law_562 : decode cL_law 562 = .ok (.iaload, 1) := by decide +kernel
theorem dL_law_563 : decode cL_law 563 = .ok (.invokevirtual 75, 3) := by decide +kernel
theorem dL_law_566 : decode cL_law 566 = .ok (.aload_n 2, 1) := by decide +kernel
theorem dL_law_567 : decode cL_law 567 = .ok (.aload_n 0, 1) := by decide +kernel
theorem dL_law_568 : decode cL_law 568 = .ok (.iload_n 3, 1) := by decide +kernel
theorem dL_law_569 : decode cL_law 569 = .ok (.iconst 1, 1) := by decide +kernel
theorem dL_law_570 : decode cL_law 570 = .ok (.iadd, 1) := by decide +kernel
theorem dL_law_571 : decode cL_law 571 = .ok (.iaload, 1) := by decide +kernel
theorem dL_law_572 : decode cL_law 572 = .ok (.aload_n 0, 1) := by decide +kernel
theorem dL_law_573 : decode cL_law 573 = .ok (.iload_n 3, 1) := by decide +kernel
theorem dL_law_574 : decode cL_law 574 = .ok (.iconst 2, 1) := by decide +kernel
theorem dL_law_575 : decode cL_law 575 = .ok (.iadd, 1) := by decide +kernel
theorem dL_law_576 : decode cL_law 576 = .ok (.iaload, 1) := by decide +kernel
theorem dL_law_577 : decode cL_law 577 = .ok (.invokevirtual 78, 3) := by decide +kernel
theorem dL_law_580 : decode cL_law 580 = .ok (.if_icmp .eq 38, 3) := by decide +kernel
theorem dL_law_583 : decode cL_law 583 = .ok (.iconst 0, 1) := by decide +kernel
theorem dL_law_584 : decode cL_law 584 = .ok (.ireturn, 1) := by decide +kernel
theorem dL_law_585 : decode cL_law 585 = .ok (.aload_n 1, 1) := by decide +kernel
theorem dL_law_586 : decode cL_law 586 = .ok (.aload_n 0, 1) := by decide +kernel
theorem dL_law_587 : decode cL_law 587 = .ok (.iload_n 3, 1) := by decide +kernel
theorem dL_law_588 : decode cL_law 588 = .ok (.iconst 1, 1) := by decide +kernel
theorem dL_law_589 : decode cL_law 589 = .ok (.iadd, 1) := by decide +kernel
theorem dL_law_590 : decode cL_law 590 = .ok (.iaload, 1) := by decide +kernel
theorem dL_law_591 : decode cL_law 591 = .ok (.aload_n 0, 1) := by decide +kernel
theorem dL_law_592 : decode cL_law 592 = .ok (.iload_n 3, 1) := by decide +kernel
theorem dL_law_593 : decode cL_law 593 = .ok (.iconst 2, 1) := by decide +kernel
theorem dL_law_594 : decode cL_law 594 = .ok (.iadd, 1) := by decide +kernel
theorem dL_law_595 : decode cL_law 595 = .ok (.iaload, 1) := by decide +kernel
theorem dL_law_596 : decode cL_law 596 = .ok (.invokevirtual 79, 3) := by decide +kernel
theorem dL_law_599 : decode cL_law 599 = .ok (.aload_n 2, 1) := by decide +kernel
theorem dL_law_600 : decode cL_law 600 = .ok (.aload_n 0, 1) := by decide +kernel
theorem dL_law_601 : decode cL_law 601 = .ok (.iload_n 3, 1) := by decide +kernel
theorem dL_law_602 : decode cL_law 602 = .ok (.iconst 1, 1) := by decide +kernel
theorem dL_law_603 : decode cL_law 603 = .ok (.iadd, 1) := by decide +kernel
theorem dL_law_604 : decode cL_law 604 = .ok (.iaload, 1) := by decide +kernel
theorem dL_law_605 : decode cL_law 605 = .ok (.aload_n 0, 1) := by decide +kernel
theorem dL_law_606 : decode cL_law 606 = .ok (.iload_n 3, 1) := by decide +kernel
theorem dL_law_607 : decode cL_law 607 = .ok (.iconst 2, 1) := by decide +kernel
theorem dL_law_608 : decode cL_law 608 = .ok (.iadd, 1) := by decide +kernel
theorem dL_law_609 : decode cL_law 609 = .ok (.iaload, 1) := by decide +kernel
theorem dL_law_610 : decode cL_law 610 = .ok (.invokevirtual 82, 3) := by decide +kernel
theorem dL_law_613 : decode cL_law 613 = .ok (.if_icmp .eq 5, 3) := by decide +kernel
theorem dL_law_616 : decode cL_law 616 = .ok (.iconst 0, 1) := by decide +kernel
theorem dL_law_617 : decode cL_law 617 = .ok (.ireturn, 1) := by decide +kernel
theorem dL_law_618 : decode cL_law 618 = .ok (.iinc 3 7, 3) := by decide +kernel
theorem dL_law_621 : decode cL_law 621 = .ok (.goto (-603), 3) := by decide +kernel
theorem dL_law_624 : decode cL_law 624 = .ok (.iconst 1, 1) := by decide +kernel
theorem dL_law_625 : decode cL_law 625 = .ok (.ireturn, 1) := by decide +kernel
end
section
/-! THE WORLD BY NAMES: adr gives each name its place, cel what lies there -/
abbrev gw_G : Type := va_G × (Nat → ClassId)
def gw_tys (G : gw_G) : List (ClassId × FieldType) := [(G.2 0, .int), (G.2 1, .boolean), (G.2 2, .object RX0), (G.2 3, .object RX2), (G.2 4, .object RX4)]
def gw_K (G : gw_G) (U : State) : Prop := va_K G.1 vwCl (gw_tys G) U ∧ va_AO RX0 U ∧ va_AO RX2 U ∧ va_AO RX4 U
theorem gw_K.moved {G : gw_G} {u U : State} (hvm : u.vm.Alike U.vm) (h : gw_K G u) : gw_K G U := ⟨va_K.moved hvm h.1, va_AO.moved hvm h.2.1, va_AO.moved hvm h.2.2.1, va_AO.moved hvm h.2.2.2⟩
def gw_P (D : va_G) (adr : Nat → Nat) (cel : Nat → Option va_E) (H : Heap) : Prop := ∀ (n : Nat) (e : va_E), cel n = some e → va_at D vwCl (adr n, e) H
def gw_D (A : Nat → Prop) (adr : Nat → Nat) (cel : Nat → Option va_E) : Prop := (∀ n, cel n ≠ none → A (adr n)) ∧ ∀ n k, cel n ≠ none → cel k ≠ none → adr n = adr k → n = k
def gw_B (G : gw_G) (A : Nat → Prop) (adr : Nat → Nat) (cel : Nat → Option va_E) (H0 H : Heap) (locs : List Loc) : Prop := gw_P G.1 adr cel H ∧ gw_D A adr cel ∧ va_S A H0 H locs
def gw_F (p : Program) (m : MethodId) (c : Code) (cc : ByteArray) (s : State) (args : Array Value) (own : String) : Prop := p.tables.exec = Jvm.exec ∧ c.code = cc ∧ s.vm.findClass own = some m.cls ∧ ∀ w ∈ gwA, w.before args s = true
theorem gw_one {D : va_G} {adr : Nat → Nat} {cel : Nat → Option va_E} {H : Heap} (hP : gw_P D adr cel H) {n : Nat} {e : va_E} (he : cel n = some e) : va_P D vwCl [(adr n, e)] H := by
  intro k q hk
  have hz : k < 1 := (List.getElem?_eq_some_iff.mp hk).1
  rw [show k = 0 by omega] at hk
  cases hk
  exact hP n e he
theorem gw_P.set {D : va_G} {A : Nat → Prop} {adr : Nat → Nat} {cel : Nat → Option va_E} {H H1 : Heap} (hP : gw_P D adr cel H) (hD : gw_D A adr cel) {n : Nat} {e0 e : va_E} (hn : cel n = some e0) (he : va_at D vwCl (adr n, e) H1) (oq : ∀ q : Nat, q ≠ adr n → H1[q]? = H[q]?) : gw_P D adr (va_up cel n (some e)) H1 := by
  intro k x hk
  by_cases hkn : k = n
  · subst hkn
    simp only [va_up, if_pos] at hk
    cases hk
    exact he
  · simp only [va_up, if_neg hkn] at hk
    exact (hP k x hk).kept (oq _ (fun z => hkn (hD.2 k n (by rw [hk]; exact fun h => by cases h) (by rw [hn]; exact fun h => by cases h) z)))
theorem gw_D.set {A : Nat → Prop} {adr : Nat → Nat} {cel : Nat → Option va_E} (hD : gw_D A adr cel) {n : Nat} {e0 e : va_E} (hn : cel n = some e0) : gw_D A adr (va_up cel n (some e)) := by
  have key : ∀ k, va_up cel n (some e) k ≠ none → cel k ≠ none := by
    intro k hk
    by_cases hkn : k = n
    · subst hkn
      rw [hn]
      exact fun h => by cases h
    · simp only [va_up, if_neg hkn] at hk
      exact hk
  exact ⟨fun k hk => hD.1 k (key k hk), fun a b ha hb h => hD.2 a b (key a ha) (key b hb) h⟩
theorem gw_B.set {G : gw_G} {A : Nat → Prop} {adr : Nat → Nat} {cel : Nat → Option va_E} {H0 H H1 : Heap} {locs : List Loc} (hB : gw_B G A adr cel H0 H locs) {n j : Nat} {e0 e : va_E} (hn : cel n = some e0) (he : va_at G.1 vwCl (adr n, e) H1) (z : H1.size = H.size) (oq : ∀ q : Nat, q ≠ adr n → H1[q]? = H[q]?) : gw_B G A adr (va_up cel n (some e)) H0 H1 (locs ++ [⟨adr n, j⟩]) :=
  ⟨hB.1.set hB.2.1 hn he oq, hB.2.1.set hn, hB.2.2.put z oq (hB.2.1.1 n (by rw [hn]; exact fun h => by cases h))⟩
theorem gw_B.to {G : gw_G} {A : Nat → Prop} {adr : Nat → Nat} {cel cel' : Nat → Option va_E} {H0 H : Heap} {locs : List Loc} (hB : gw_B G A adr cel H0 H locs) (h : cel = cel') : gw_B G A adr cel' H0 H locs := h ▸ hB
/-- a new cell, under a name that had none -/
theorem gw_B.push {G : gw_G} {A : Nat → Prop} {adr : Nat → Nat} {cel : Nat → Option va_E} {H0 H H1 : Heap} {locs : List Loc} (hB : gw_B G A adr cel H0 H locs) (hA : ∀ q, H0.size ≤ q → A q) {n : Nat} {e : va_E} (hn : cel n = none) (he : va_at G.1 vwCl (H.size, e) H1) (z : H1.size = H.size + 1) (oq : ∀ q : Nat, q < H.size → H1[q]? = H[q]?) : gw_B G A (va_up adr n H.size) (va_up cel n (some e)) H0 H1 locs := by
  obtain ⟨hP, hD, hS⟩ := hB
  have hne : ∀ k, cel k ≠ none → k ≠ n := fun k hk q => hk (by rw [q]; exact hn)
  have hlt : ∀ k, cel k ≠ none → adr k < H.size := by
    intro k hk
    cases hc : cel k with
    | none => exact absurd hc hk
    | some x => exact (hP k x hc).lt
  have key : ∀ k, va_up cel n (some e) k ≠ none → k = n ∨ (k ≠ n ∧ cel k ≠ none) := by
    intro k hk
    by_cases hkn : k = n
    · exact Or.inl hkn
    · simp only [va_up, if_neg hkn] at hk
      exact Or.inr ⟨hkn, hk⟩
  refine ⟨fun k x hk => ?_, ⟨fun k hk => ?_, fun a b ha hb h => ?_⟩, ⟨Nat.le_trans hS.1 (by omega), fun q h1 h2 => (oq q (Nat.lt_of_lt_of_le h1 hS.1)).trans (hS.2.1 q h1 h2), hS.2.2⟩⟩
  · by_cases hkn : k = n
    · subst hkn
      simp only [va_up, if_pos] at hk
      cases hk
      simp only [va_up, if_pos]
      exact he
    · simp only [va_up, if_neg hkn] at hk ⊢
      exact (hP k x hk).kept (oq _ (hlt k (by rw [hk]; exact fun h => by cases h)))
  · rcases key k hk with h | ⟨h, h2⟩
    · subst h
      simp only [va_up, if_pos]
      exact hA _ hS.1
    · simp only [va_up, if_neg h]
      exact hD.1 k h2
  · rcases key a ha with h1 | ⟨h1, g1⟩ <;> rcases key b hb with h2 | ⟨h2, g2⟩
    · rw [h1, h2]
    · exfalso
      subst h1
      simp only [va_up, if_pos, if_neg h2] at h
      exact absurd (hlt b g2) (by omega)
    · exfalso
      subst h2
      simp only [va_up, if_pos, if_neg h1] at h
      exact absurd (hlt a g1) (by omega)
    · simp only [va_up, if_neg h1, if_neg h2] at h
      exact hD.2 a b g1 g2 h
section GW
variable {p : Program} {l : Launch} {e : Env} {R : Room} {s : State} {m : MethodId} {args : Array Value} {below : List Frame} {meth : Method} {c : Code} {H : Heap} {locs : List Loc} {cells slots : Nat} {Q : State → Prop}
variable {cc : ByteArray} {pc : Nat} {ls : Array Slot} {rest : List Value} {G : gw_G} {A : Nat → Prop} {H0 : Heap} {adr : Nat → Nat} {cel : Nat → Option va_E} {own : String}
theorem gw_get (F : gw_F p m c cc s args own) (hK : gw_K G s) (hP : gw_P G.1 adr cel H) (n : Nat) {ci : Nat} {fs : List Value} (he : cel n = some (.inr (ci, fs))) {C : String} {T : u_T} {N index : Nat} (hc : vwCl[ci]? = some (C, T, N)) (hin : ∀ w ∈ u_ws C T N, w ∈ gwA) (k : Nat) (hk : k < N) (hlink : Cond.fieldLink own index (T k).1 (T k).2.1 (T k).2.2.1 ∈ gwA) {v : Value} (hv : fs[k]? = some v) (hdg : decode cc pc = .ok (.getfield index, 3))
    (kk : W p l e R s m args below meth c H locs cells slots Q (F0 m (pc + 3) ls (v :: rest))) : W p l e R s m args below meth c H locs cells slots Q (F0 m pc ls (.ref (adr n) :: rest)) :=
  va_get (ws := [(adr n, .inr (ci, fs))]) F.1 F.2.1 F.2.2.2 hin F.2.2.1 hK.1 (gw_one hP he) 0 rfl hc k hk (F.2.2.2 _ hlink) (fun _ h => h) hv hdg kk
theorem gw_put (F : gw_F p m c cc s args own) (hK : gw_K G s) (hB : gw_B G A adr cel H0 H locs) (n : Nat) {ci : Nat} {fs : List Value} (he : cel n = some (.inr (ci, fs))) {C : String} {T : u_T} {N index : Nat} (hc : vwCl[ci]? = some (C, T, N)) (hin : ∀ w ∈ u_ws C T N, w ∈ gwA) (ty0 : Nat → FieldType) (hty : ∀ k, k < N → parseFieldDescriptor (T k).2.2.1 = some (ty0 k)) (hnm : ∀ a, a < N → ∀ b, b < N → a ≠ b → (T a).2.1 ≠ (T b).2.1) (k : Nat) (hk : k < N) (hlink : Cond.fieldLink own index (T k).1 (T k).2.1 (T k).2.2.1 ∈ gwA) (hfin : (T k).2.2.2 = false) {ty : FieldType} {v : Value} (hd : ty0 k = ty) (hn : narrow ty v = v) (hfit : fits ty v = true) (hl : k < fs.length)
    (hdg : decode cc pc = .ok (.putfield index, 3)) (kk : ∀ (H1 : Heap) (locs1 : List Loc), gw_B G A adr (va_up cel n (some (.inr (ci, fs.set k v)))) H0 H1 locs1 → W p l e R s m args below meth c H1 locs1 cells slots Q (F0 m (pc + 3) ls rest)) : W p l e R s m args below meth c H locs cells slots Q (F0 m pc ls (v :: .ref (adr n) :: rest)) := by
  obtain ⟨hexec, hb, hown, hts⟩ := F
  have hap := va_apart (own := own) hts hin ty0 hty hnm hK.1 hc
  obtain ⟨r, h1, cell, q1, q2, q3, q4⟩ := hB.1 n _ he
  have hr : r = (C, T, N) := Option.some.inj (h1.symm.trans hc)
  subst hr
  obtain ⟨hS, hfc, kC, hkC, hkind⟩ := hK.1.1 ci _ hc
  obtain ⟨cf, kf, fi, f, hi, hsl⟩ := hS k hk
  have hlay := hts _ (hin _ (u_in_lay hk))
  unfold u_lay at hlay
  rw [if_neg (by rw [hfin]; decide)] at hlay
  have hst := (u_facts hfc hkC (u_lays hts hin hk) hi).1
  have h6 := u_store hfc hkC hkind hlay hi (hd ▸ hty k hk) hn hfit
  refine W.putK hexec hb (f := f) ⟨hown, hts _ hlink, ⟨_, _, _, hi⟩, hst⟩ (by rw [q2]; exact h6) q1 q3 (by rw [hsl]; exact k2_hasslot (q4 k hk)) rfl rfl hdg fun H' e1 e2 e3 => ?_
  rw [hsl] at e1 ⊢
  exact kk H' _ (hB.set he ⟨_, hc, t_OB.to (V := updV (vp_V fs) k v) ⟨_, e1, q2, q3, t_set q4 hap hk v⟩ (fun j _ => vp_updV_set hl v j)⟩ e2 e3)
theorem gw_putF (F : gw_F p m c cc s args own) (hK : gw_K G s) (hB : gw_B G A adr cel H0 H locs) (n : Nat) {ci : Nat} {fs : List Value} (he : cel n = some (.inr (ci, fs))) {C : String} {T : u_T} {N index : Nat} (hc : vwCl[ci]? = some (C, T, N)) (hin : ∀ w ∈ u_ws C T N, w ∈ gwA) (ty0 : Nat → FieldType) (hty : ∀ k, k < N → parseFieldDescriptor (T k).2.2.1 = some (ty0 k)) (hnm : ∀ a, a < N → ∀ b, b < N → a ≠ b → (T a).2.1 ≠ (T b).2.1) (k : Nat) (hk : k < N) (hlink : Cond.fieldLink own index (T k).1 (T k).2.1 (T k).2.2.1 ∈ gwA) (hfin : (T k).2.2.2 = true) (hin2 : meth.name = "<init>") (hdecl : (T k).1 = own) {ty : FieldType} {v : Value} (hd : ty0 k = ty) (hn : narrow ty v = v) (hfit : fits ty v = true) (hl : k < fs.length)
    (hdg : decode cc pc = .ok (.putfield index, 3)) (kk : ∀ (H1 : Heap) (locs1 : List Loc), gw_B G A adr (va_up cel n (some (.inr (ci, fs.set k v)))) H0 H1 locs1 → W p l e R s m args below meth c H1 locs1 cells slots Q (F0 m (pc + 3) ls rest)) : W p l e R s m args below meth c H locs cells slots Q (F0 m pc ls (v :: .ref (adr n) :: rest)) := by
  obtain ⟨hexec, hb, hown, hts⟩ := F
  have hap := va_apart (own := own) hts hin ty0 hty hnm hK.1 hc
  obtain ⟨r, h1, cell, q1, q2, q3, q4⟩ := hB.1 n _ he
  have hr : r = (C, T, N) := Option.some.inj (h1.symm.trans hc)
  subst hr
  obtain ⟨hS, hfc, kC, hkC, hkind⟩ := hK.1.1 ci _ hc
  obtain ⟨cf, kf, fi, f, hi, hsl⟩ := hS k hk
  have hlay := hts _ (hin _ (u_in_lay hk))
  unfold u_lay at hlay
  rw [if_pos hfin] at hlay
  have hst := (u_facts hfc hkC (u_lays hts hin hk) hi).1
  have hcf : m.cls = cf := by
    obtain ⟨_, _, c', _, _, _, -, -, hf', -, -, -, hown2, -⟩ := Cond.laysFinal_spec hlay
    have e1 : c' = cf := by have := hi.symm.trans hf'; simp at this; exact this.1.symm
    rw [hdecl] at hown2
    rw [← e1]; exact Option.some.inj (hown.symm.trans hown2)
  have h6 := u_fits hfc hkC hkind (Or.inr hlay) hi (hd ▸ hty k hk) hn hfit
  refine W.putFinK hexec hb hown (hts _ hlink) hi hst hcf hin2 (by rw [q2]; exact h6) q1 q3 (by rw [hsl]; exact k2_hasslot (q4 k hk)) rfl rfl hdg fun H' e1 e2 e3 => ?_
  rw [hsl] at e1 ⊢
  exact kk H' _ (hB.set he ⟨_, hc, t_OB.to (V := updV (vp_V fs) k v) ⟨_, e1, q2, q3, t_set q4 hap hk v⟩ (fun j _ => vp_updV_set hl v j)⟩ e2 e3)
theorem gw_iald (F : gw_F p m c cc s args own) (hK : gw_K G s) (hP : gw_P G.1 adr cel H) (n : Nat) {N : Nat} {f : Nat → Int32} (he : cel n = some (.inl (G.2 0, N, .inl f))) {i : Int32} (hin : vp_in i N) (hdg : decode cc pc = .ok (.iaload, 1))
    (kk : W p l e R s m args below meth c H locs cells slots Q (F0 m (pc + 1) ls (.int (f i.toNatClampNeg) :: rest))) : W p l e R s m args below meth c H locs cells slots Q (F0 m pc ls (.int i :: .ref (adr n) :: rest)) :=
  va_iald (ws := [(adr n, .inl (G.2 0, N, .inl f))]) F.1 F.2.1 hK.1 (gw_one hP he) 0 0 rfl rfl hin hdg kk
theorem gw_zald (F : gw_F p m c cc s args own) (hK : gw_K G s) (hP : gw_P G.1 adr cel H) (n : Nat) {N : Nat} {f : Nat → Int32} (he : cel n = some (.inl (G.2 1, N, .inl f))) {i : Int32} (hin : vp_in i N) (hdg : decode cc pc = .ok (.baload, 1))
    (kk : W p l e R s m args below meth c H locs cells slots Q (F0 m (pc + 1) ls (.int (f i.toNatClampNeg) :: rest))) : W p l e R s m args below meth c H locs cells slots Q (F0 m pc ls (.int i :: .ref (adr n) :: rest)) :=
  va_zald (ws := [(adr n, .inl (G.2 1, N, .inl f))]) F.1 F.2.1 hK.1 (gw_one hP he) 0 1 rfl rfl hin hdg kk
theorem gw_aald (F : gw_F p m c cc s args own) (hK : gw_K G s) (hP : gw_P G.1 adr cel H) (n t : Nat) {C : String} (ht : (gw_tys G)[t]? = some (G.2 t, .object C)) {N : Nat} {f : Nat → Option Nat} (he : cel n = some (.inl (G.2 t, N, .inr (.inr (.inr (.inr f)))))) {i : Int32} (hin : vp_in i N) (hdg : decode cc pc = .ok (.aaload, 1))
    (kk : W p l e R s m args below meth c H locs cells slots Q (F0 m (pc + 1) ls (va_rf (f i.toNatClampNeg) :: rest))) : W p l e R s m args below meth c H locs cells slots Q (F0 m pc ls (.int i :: .ref (adr n) :: rest)) :=
  va_aldq (ws := [(adr n, .inl (G.2 t, N, .inr (.inr (.inr (.inr f)))))]) F.1 F.2.1 hK.1 (gw_one hP he) 0 t rfl ht hin hdg kk
theorem gw_iast (F : gw_F p m c cc s args own) (hK : gw_K G s) (hB : gw_B G A adr cel H0 H locs) (n : Nat) {N : Nat} {f : Nat → Int32} (he : cel n = some (.inl (G.2 0, N, .inl f))) {i x : Int32} (hin : vp_in i N) (hdg : decode cc pc = .ok (.iastore, 1))
    (kk : ∀ (H1 : Heap) (locs1 : List Loc), gw_B G A adr (va_up cel n (some (.inl (G.2 0, N, .inl (va_up f i.toNatClampNeg x))))) H0 H1 locs1 → W p l e R s m args below meth c H1 locs1 cells slots Q (F0 m (pc + 1) ls rest)) : W p l e R s m args below meth c H locs cells slots Q (F0 m pc ls (.int x :: .int i :: .ref (adr n) :: rest)) := by
  refine W.iast F.1 F.2.1 (hB.1 n _ he) ((hK.1.2 0 _ rfl).1 N (fun j => .int (f j))) (fun q => by cases q) (by show ¬ (i < 0 ∨ (arrV _ _ _).slots.size ≤ _); rw [arrV_size]; exact hin) rfl rfl hdg fun H1 e z oq => ?_
  refine kk H1 _ (hB.set he ?_ z oq)
  show H1[adr n]? = some (vp_cell _ _)
  rw [e]
  rw [vp_cell_i, vp_cell_i, arrV_store]
  congr 2
  funext q
  by_cases hq : q = i.toNatClampNeg
  · subst hq
    simp [updV, va_up]
  · simp [updV, va_up, hq]
theorem gw_zast (F : gw_F p m c cc s args own) (hK : gw_K G s) (hB : gw_B G A adr cel H0 H locs) (n : Nat) {N : Nat} {f : Nat → Int32} (he : cel n = some (.inl (G.2 1, N, .inl f))) {i x : Int32} (hin : vp_in i N) (hdg : decode cc pc = .ok (.bastore, 1))
    (kk : ∀ (H1 : Heap) (locs1 : List Loc), gw_B G A adr (va_up cel n (some (.inl (G.2 1, N, .inl (va_up f i.toNatClampNeg (vp_nar .boolean x)))))) H0 H1 locs1 → W p l e R s m args below meth c H1 locs1 cells slots Q (F0 m (pc + 1) ls rest)) : W p l e R s m args below meth c H locs cells slots Q (F0 m pc ls (.int x :: .int i :: .ref (adr n) :: rest)) := by
  refine W.zast F.1 F.2.1 (hB.1 n _ he) ((hK.1.2 1 _ rfl).1 N (fun j => .int (f j))) (fun q => by cases q) (by show ¬ (i < 0 ∨ (arrV _ _ _).slots.size ≤ _); rw [arrV_size]; exact hin) rfl rfl hdg fun H1 e z oq => ?_
  refine kk H1 _ (hB.set he ?_ z oq)
  show H1[adr n]? = some (vp_cell _ _)
  rw [e]
  rw [vp_cell_i, vp_cell_i, arrV_store]
  congr 2
  funext q
  by_cases hq : q = i.toNatClampNeg
  · subst hq
    simp [updV, va_up, vp_nar]
    try rfl
  · simp [updV, va_up, hq]
/-- a reference into a row of references: v is an object of the row's class -/
theorem gw_aast (F : gw_F p m c cc s args own) (hK : gw_K G s) (hB : gw_B G A adr cel H0 H locs) (n t : Nat) {r : vw_C} (ht : (gw_tys G)[t]? = some (G.2 t, .object r.1)) {N : Nat} {f : Nat → Option Nat} (he : cel n = some (.inl (G.2 t, N, .inr (.inr (.inr (.inr f)))))) (v ci : Nat) {vs : List Value} (hv : cel v = some (.inr (ci, vs))) (hc : vwCl[ci]? = some r) {i : Int32} (hin : vp_in i N) (hdg : decode cc pc = .ok (.aastore, 1))
    (kk : ∀ (H1 : Heap) (locs1 : List Loc), gw_B G A adr (va_up cel n (some (.inl (G.2 t, N, .inr (.inr (.inr (.inr (va_up f i.toNatClampNeg (some (adr v)))))))))) H0 H1 locs1 → W p l e R s m args below meth c H1 locs1 cells slots Q (F0 m (pc + 1) ls rest)) : W p l e R s m args below meth c H locs cells slots Q (F0 m pc ls (.ref (adr v) :: .int i :: .ref (adr n) :: rest)) := by
  have hlt : i.toNatClampNeg < N := Nat.not_le.mp fun q => hin (Or.inr q)
  have h0 : ¬ i < 0 := fun q => hin (Or.inl q)
  obtain ⟨r', hr', cellV, g1, g2, g3, -⟩ := hB.1 v _ hv
  have hcls := (hK.1.1 ci r hc).2
  obtain ⟨kA, comp, k1, k2, k3, -⟩ := (hK.1.2 t _ ht).2
  have hcomp : comp = G.1.1 ci := Option.some.inj (k3.symm.trans hcls.1)
  subst hcomp
  obtain ⟨kC, hkC, -⟩ := hcls.2
  refine W.aast F.1 F.2.1 (hB.1 n _ he) (fun q h => by cases h) (fun h => by cases h) k1 k2 rfl hkC ⟨h0, by show _ < (arrV _ _ _).slots.size; rw [arrV_size]; exact hlt⟩ g1 (fun q h => by rw [g3] at h; cases h) (by rw [g2]; exact hkC) (by rw [g2]; exact va_assign hcls) rfl rfl hdg fun H1 e z oq => ?_
  refine kk H1 _ (hB.set he ?_ z oq)
  show H1[adr n]? = some (vp_cell _ _)
  rw [e]
  rw [vp_cell_q, vp_cell_q, arrV_store]
  congr 2
  funext q
  by_cases hq : q = i.toNatClampNeg
  · subst hq
    simp [updV, va_up, va_rf]
  · simp [updV, va_up, hq]
theorem gw_new (F : gw_F p m c cc s args own) (hK : gw_K G s) (hB : gw_B G A adr cel H0 H locs) (hA : ∀ q, H0.size ≤ q → A q) (n ci : Nat) (hn : cel n = none) {C : String} {T : u_T} {N index : Nat} (hc : vwCl[ci]? = some (C, T, N)) (hin : ∀ w ∈ u_ws C T N, w ∈ gwA) (ty : Nat → FieldType) (hty : ∀ k, k < N → parseFieldDescriptor (T k).2.2.1 = some (ty k)) (hcl : Cond.classLink own index C ∈ gwA) (hinst : Cond.instantiable C N ∈ gwA) (hini : Cond.initialized C ∈ gwA) {fs : List Value} (hfs : ∀ j, j < N → defaultValue (ty j) = vp_V fs j) (hcells : cells + 1 ≤ R.cells) (hslots : slots + N ≤ R.slots) (hdg : decode cc pc = .ok (.new index, 3))
    (kk : ∀ (q : Nat) (H1 : Heap), q = H.size → gw_B G A (va_up adr n q) (va_up cel n (some (.inr (ci, fs)))) H0 H1 locs → W p l e R s m args below meth c H1 locs (cells + 1) (slots + N) Q (F0 m (pc + 3) ls (.ref q :: rest))) : W p l e R s m args below meth c H locs cells slots Q (F0 m pc ls rest) := by
  obtain ⟨hexec, hb, hown, hts⟩ := F
  have hKn := hK.1.1 ci _ hc
  refine W.newcK hexec hb hown (hts _ hcl) (hts _ hinst) (hts _ hini) rfl hdg hcells hslots hKn.2.1 rfl fun H1 kC hkC e1 z1 o1 => ?_
  exact kk H.size H1 rfl (hB.push hA hn ⟨_, hc, (u_born ty hts hin hKn hkC e1 hty).to hfs⟩ z1 o1)
theorem gw_newa (F : gw_F p m c cc s args own) (hK : gw_K G s) (hB : gw_B G A adr cel H0 H locs) (hA : ∀ q, H0.size ≤ q → A q) (n t : Nat) (hn : cel n = none) {atype : ArrayType} (harr : Cond.arrayClass (newarray.typeOf atype) ∈ gwA) (ht : (gw_tys G)[t]? = some (G.2 t, newarray.typeOf atype)) (hnot : va_RA s (G.2 t) (newarray.typeOf atype) → s.vm.findClass ("[" ++ (newarray.typeOf atype).toString) = some (G.2 t)) {k : Int32} {N : Nat} {f : Nat → Int32} (hf : ∀ cA : ClassId, vp_cell cA (N, .inl f) = arrV cA N (fun _ => defaultValue (newarray.typeOf atype))) (hk : ¬ k < 0) (hN : k.toNatClampNeg = N) (hbytes : N * componentBytes (newarray.typeOf atype) ≤ 536870912) (hcells : cells + 1 ≤ R.cells) (hslots : slots + N ≤ R.slots) (hdg : decode cc pc = .ok (.newarray atype, 2))
    (kk : ∀ (q : Nat) (H1 : Heap), q = H.size → gw_B G A (va_up adr n q) (va_up cel n (some (.inl (G.2 t, N, .inl f)))) H0 H1 locs → W p l e R s m args below meth c H1 locs (cells + 1) (slots + N) Q (F0 m (pc + 2) ls (.ref q :: rest))) : W p l e R s m args below meth c H locs cells slots Q (F0 m pc ls (.int k :: rest)) := by
  obtain ⟨hexec, hb, hown, hts⟩ := F
  refine va_newaK hexec hb (hts _ harr) rfl hdg rfl hk hN hbytes hcells hslots rfl fun H1 cA e1 z1 o1 hAr hNm => ?_
  have hcA : cA = G.2 t := Option.some.inj (hNm.symm.trans (hnot (hK.1.2 t _ ht).2))
  subst hcA
  refine kk H.size H1 rfl (hB.push hA hn ?_ z1 o1)
  show H1[H.size]? = some (vp_cell _ _)
  rw [hf]
  exact e1
theorem gw_newq (F : gw_F p m c cc s args own) (hK : gw_K G s) (hB : gw_B G A adr cel H0 H locs) (hA : ∀ q, H0.size ≤ q → A q) (n t : Nat) (hn : cel n = none) {C : String} {index : Nat} (hcl : Cond.classLink own index C ∈ gwA) (hover : va_AO C s) (ht : (gw_tys G)[t]? = some (G.2 t, .object C)) {k : Int32} {N : Nat} (hk : ¬ k < 0) (hN : k.toNatClampNeg = N) (hbytes : N * 4 ≤ 536870912) (hcells : cells + 1 ≤ R.cells) (hslots : slots + N ≤ R.slots) (hdg : decode cc pc = .ok (.anewarray index, 3))
    (kk : ∀ (q : Nat) (H1 : Heap), q = H.size → gw_B G A (va_up adr n q) (va_up cel n (some (.inl (G.2 t, N, .inr (.inr (.inr (.inr (fun _ => none)))))))) H0 H1 locs → W p l e R s m args below meth c H1 locs (cells + 1) (slots + N) Q (F0 m (pc + 3) ls (.ref q :: rest))) : W p l e R s m args below meth c H locs cells slots Q (F0 m pc ls (.int k :: rest)) := by
  subst hN
  obtain ⟨hexec, hb, hown, hts⟩ := F
  refine W.anew hexec hb hown (hts _ hcl) (va_AO.use hover) rfl hdg rfl hk hbytes hcells hslots fun cA kA comp f1 f2 f3 f4 => ?_
  obtain ⟨kA', comp', -, -, -, f5⟩ := (hK.1.2 t _ ht).2
  have hcA : cA = G.2 t := Option.some.inj (f1.symm.trans f5)
  subst hcA
  generalize hH1 : H.push ({ cls := G.2 t, slots := Array.replicate k.toNatClampNeg .null, vm := .none } : Cell) = H1
  refine kk H.size H1 rfl (hB.push hA hn ?_ (by rw [← hH1, Array.size_push]) (fun q hq => by rw [← hH1, Array.getElem?_push, if_neg (Nat.ne_of_lt hq)]))
  show H1[H.size]? = some (vp_cell _ _)
  rw [vp_cell_q, ← hH1, Array.getElem?_push_size, ← arrV_new]
  rfl
theorem gw_recv (hK : gw_K G s) (hP : gw_P G.1 adr cel H) {n ci : Nat} {fs : List Value} {q : vw_C} (he : cel n = some (.inr (ci, fs))) (hc : vwCl[ci]? = some q) : ∃ cell : Cell, H[adr n]? = some cell ∧ cell.vm.isStatics = false ∧ s.vm.findClass q.1 = some cell.cls :=
  va_recv hK.1 (gw_one hP he) (ws := [(adr n, .inr (ci, fs))]) (q0 := 0) hc rfl
end GW
/-- every method's words: its code, then all the law's words -/
abbrev gw_w (y : MethodName) (b : ByteArray) (n : Nat) (r : Option FieldType) : List Cond := Cond.code y b n r :: gwA
theorem gw_good {y : MethodName} {b : ByteArray} {n : Nat} {r : Option FieldType} (h : Cond.code y b n r ∈ gwA) : GoodIn gwA (gw_w y b n r) := fun w hw => (List.mem_cons.mp hw).elim (fun q => by rw [q]; exact gWA _ h) (gWA w)
section GC
variable {s : State} {args : Array Value} {R : Room} {own C : String} {index maxL mc ms : Nat} {y : MethodName} {bytes : ByteArray} {ret : Option FieldType} {rm : Room}
theorem gw_cwV (n : Nat) (ht : ∀ w ∈ gwA, w.before args s = true) (h1 : Cond.methodLink own index y ∈ gwA) (h2 : Cond.instanceMethod y ∈ gwA) (h3 : Cond.selects C y y ∈ gwA) (h4 : Cond.initialized C ∈ gwA) (h5 : Cond.code y bytes maxL ret ∈ gwA) (hrc : rm.cells = mc) (hrs : rm.slots = ms)
    (hd : y.cls = C ∧ y.cls ≠ "java/lang/invoke/MethodHandle" ∧ y.cls ≠ "java/lang/invoke/VarHandle" ∧ (parseMethodDescriptor y.desc).map (fun d => d.parameters.length) = some n) (hR : rm.frames + 1 ≤ R.frames ∧ 8 + (maxL + 11) + rm.locals ≤ R.locals) : CallW R s args own C index y bytes maxL ret (gw_w y bytes maxL ret) rm mc ms n :=
  cwV n ht (goodIn_app (List.forall_mem_cons.mpr ⟨gWA _ h1, List.forall_mem_cons.mpr ⟨gWA _ h2, List.forall_mem_cons.mpr ⟨gWA _ h3, List.forall_mem_cons.mpr ⟨gWA _ h4, fun _ h => absurd h List.not_mem_nil⟩⟩⟩⟩) (gw_good h5)) rfl hrc hrs hd hR
theorem gw_cwI (n : Nat) (ht : ∀ w ∈ gwA, w.before args s = true) (h1 : Cond.methodLink own index y ∈ gwA) (h2 : Cond.instanceMethod y ∈ gwA) (h4 : Cond.initialized y.cls ∈ gwA) (h5 : Cond.code y bytes maxL none ∈ gwA) (hrc : rm.cells = mc) (hrs : rm.slots = ms) (hy1 : y.name = "<init>")
    (hd : y.cls ≠ "java/lang/invoke/MethodHandle" ∧ y.cls ≠ "java/lang/invoke/VarHandle" ∧ (parseMethodDescriptor y.desc).map (fun d => d.parameters.length) = some n) (hR : rm.frames + 1 ≤ R.frames ∧ 8 + (maxL + 11) + rm.locals ≤ R.locals) : CallB R s args own index y bytes maxL none (gw_w y bytes maxL none) rm mc ms n ∧ y.name = "<init>" ∧ (Cond.instanceMethod y).before args s = true :=
  cwI n ht (gw_good h5) rfl hrc hrs (ht _ h4) (ht _ h1) (ht _ h2) hy1 hd hR
theorem gw_cwS (n : Nat) (ht : ∀ w ∈ gwA, w.before args s = true) (h1 : Cond.methodLink own index y ∈ gwA) (h2 : Cond.static y ∈ gwA) (h4 : Cond.initialized y.cls ∈ gwA) (h5 : Cond.code y bytes maxL ret ∈ gwA) (hrc : rm.cells = mc) (hrs : rm.slots = ms)
    (hd : y.cls ≠ "java/lang/invoke/MethodHandle" ∧ y.cls ≠ "java/lang/invoke/VarHandle" ∧ (parseMethodDescriptor y.desc).map (fun d => d.parameters.length) = some n) (hR : rm.frames + 1 ≤ R.frames ∧ 8 + (maxL + 11) + rm.locals ≤ R.locals) : CallB R s args own index y bytes maxL ret (gw_w y bytes maxL ret) rm mc ms n ∧ (Cond.static y).before args s = true :=
  ⟨callB_of n ht (gw_good h5) rfl hrc hrs (ht _ h4) (ht _ h1) hd hR, ht _ h2⟩
end GC
end
section
/-! THE REFERENCE: one object and its rows. S: what the class shares with it (fields 0 .. 18), X: its own (19 ..) -/
def m2 (M : Nat → Nat → Int32) (k i : Nat) (x : Int32) : Nat → Nat → Int32 := fun a => if a = k then va_up (M a) i x else M a
theorem m2_ne {M : Nat → Nat → Int32} {k i a : Nat} {x : Int32} (h : a ≠ k) : m2 M k i x a = M a := by simp [m2, h]
theorem m2_eq {M : Nat → Nat → Int32} {k i : Nat} {x : Int32} : m2 M k i x k = va_up (M k) i x := by simp [m2]
def rlen (n : Nat) : Nat := match n with
  | 1 => 12
  | 2 => 12
  | 3 => 12
  | 4 => 12
  | 5 => 36
  | 6 => 48
  | 7 => 48
  | 8 => 12
  | 9 => 240
  | 10 => 48
  | 11 => 1920
  | 12 => 12
  | 14 => 60
  | 15 => 60
  | 23 => 300
  | 24 => 300
  | 25 => 300
  | 26 => 300
  | 27 => 300
  | 28 => 300
  | 29 => 3000
  | 30 => 3000
  | 33 => 48
  | _ => 0
def rcl (n : Nat) : Nat := match n with
  | 1 => 1
  | 2 => 1
  | 7 => 1
  | 33 => 1
  | _ => 0
def rfs (adr : Nat → Nat) (S X : Nat → Nat → Int32) : List Value := [.int (S 0 0), .ref (adr 1), .ref (adr 2), .ref (adr 3), .ref (adr 4), .ref (adr 5), .ref (adr 6), .ref (adr 7), .ref (adr 8), .ref (adr 9), .ref (adr 10), .ref (adr 11), .ref (adr 12), .int (S 13 0), .ref (adr 14), .ref (adr 15), .int (S 16 0), .int (S 17 0), .int (S 18 0), .int (X 19 0), .int (X 20 0), .int (X 21 0), .int (X 22 0), .ref (adr 23), .ref (adr 24), .ref (adr 25), .ref (adr 26), .ref (adr 27), .ref (adr 28), .ref (adr 29), .ref (adr 30), .int (X 31 0), .int (X 32 0), .ref (adr 33)]
def rcel (G : gw_G) (adr : Nat → Nat) (S X : Nat → Nat → Int32) (n : Nat) : Option va_E := if n = 0 then some (.inr (7, rfs adr S X)) else if rlen n = 0 then none else some (.inl (G.2 (rcl n), rlen n, .inl (if n ≤ 18 then S n else X n)))
abbrev rB (G : gw_G) (A : Nat → Prop) (adr : Nat → Nat) (S X : Nat → Nat → Int32) (H0 H : Heap) (locs : List Loc) : Prop := gw_B G A adr (rcel G adr S X) H0 H locs
/-- the world of the reference at a state -/
def rW (G : gw_G) (A : Nat → Prop) (adr : Nat → Nat) (S X : Nat → Nat → Int32) (U : State) : Prop := gw_P G.1 adr (rcel G adr S X) U.heap ∧ gw_D A adr (rcel G adr S X) ∧ gw_K G U
theorem rcel_S {G : gw_G} {adr : Nat → Nat} {S X : Nat → Nat → Int32} {i : Nat} {x : Int32} (k : Nat) (hk : rlen k ≠ 0) (h0 : k ≤ 18) : va_up (rcel G adr S X) k (some (.inl (G.2 (rcl k), rlen k, .inl (va_up (S k) i x)))) = rcel G adr (m2 S k i x) X := by
  have hn : ∀ a, rlen a = 0 → m2 S k i x a = S a := fun a h => m2_ne (fun q => hk (by rw [← q]; exact h))
  have hk0 : k ≠ 0 := fun q => hk (by rw [q]; rfl)
  have hf : rfs adr (m2 S k i x) X = rfs adr S X := by simp only [rfs, hn 0 rfl, hn 13 rfl, hn 16 rfl, hn 17 rfl, hn 18 rfl]
  funext n
  by_cases h : n = k
  · subst h
    simp only [va_up, if_pos, rcel, if_neg hk0, if_neg hk, if_pos h0, m2_eq]
  · simp only [va_up, if_neg h, rcel, hf, m2_ne h]
theorem rcel_X {G : gw_G} {adr : Nat → Nat} {S X : Nat → Nat → Int32} {i : Nat} {x : Int32} (k : Nat) (hk : rlen k ≠ 0) (h0 : ¬ k ≤ 18) : va_up (rcel G adr S X) k (some (.inl (G.2 (rcl k), rlen k, .inl (va_up (X k) i x)))) = rcel G adr S (m2 X k i x) := by
  have hn : ∀ a, rlen a = 0 → m2 X k i x a = X a := fun a h => m2_ne (fun q => hk (by rw [← q]; exact h))
  have hk0 : k ≠ 0 := fun q => hk (by rw [q]; rfl)
  have hf : rfs adr S (m2 X k i x) = rfs adr S X := by simp only [rfs, hn 19 rfl, hn 20 rfl, hn 21 rfl, hn 22 rfl, hn 31 rfl, hn 32 rfl]
  funext n
  by_cases h : n = k
  · subst h
    simp only [va_up, if_pos, rcel, if_neg hk0, if_neg hk, if_neg h0, m2_eq]
  · simp only [va_up, if_neg h, rcel, hf, m2_ne h]
theorem rcel_p0 {G : gw_G} {adr : Nat → Nat} {S X : Nat → Nat → Int32} {v : Int32} : va_up (rcel G adr S X) 0 (some (.inr (7, (rfs adr S X).set 0 (.int v)))) = rcel G adr (m2 S 0 0 v) X := by
  have hn : ∀ a, a ≠ 0 → m2 S 0 0 v a = S a := fun a h => m2_ne h
  have he : m2 S 0 0 v 0 0 = v := by simp [m2, va_up]
  funext n
  by_cases h : n = 0
  · subst h
    simp only [va_up, if_pos, rcel, rfs, he, hn 13 (by decide), hn 16 (by decide), hn 17 (by decide), hn 18 (by decide), List.set]
  · by_cases hz : rlen n = 0
    · simp only [va_up, if_neg h, rcel, if_pos hz]
    · simp only [va_up, if_neg h, rcel, if_neg hz, hn n (fun q => hz (by rw [q]; rfl))]
theorem rcel_p13 {G : gw_G} {adr : Nat → Nat} {S X : Nat → Nat → Int32} {v : Int32} : va_up (rcel G adr S X) 0 (some (.inr (7, (rfs adr S X).set 13 (.int v)))) = rcel G adr (m2 S 13 0 v) X := by
  have hn : ∀ a, a ≠ 13 → m2 S 13 0 v a = S a := fun a h => m2_ne h
  have he : m2 S 13 0 v 13 0 = v := by simp [m2, va_up]
  funext n
  by_cases h : n = 0
  · subst h
    simp only [va_up, if_pos, rcel, rfs, he, hn 0 (by decide), hn 16 (by decide), hn 17 (by decide), hn 18 (by decide), List.set]
  · by_cases hz : rlen n = 0
    · simp only [va_up, if_neg h, rcel, if_pos hz]
    · simp only [va_up, if_neg h, rcel, if_neg hz, hn n (fun q => hz (by rw [q]; rfl))]
theorem rcel_p16 {G : gw_G} {adr : Nat → Nat} {S X : Nat → Nat → Int32} {v : Int32} : va_up (rcel G adr S X) 0 (some (.inr (7, (rfs adr S X).set 16 (.int v)))) = rcel G adr (m2 S 16 0 v) X := by
  have hn : ∀ a, a ≠ 16 → m2 S 16 0 v a = S a := fun a h => m2_ne h
  have he : m2 S 16 0 v 16 0 = v := by simp [m2, va_up]
  funext n
  by_cases h : n = 0
  · subst h
    simp only [va_up, if_pos, rcel, rfs, he, hn 0 (by decide), hn 13 (by decide), hn 17 (by decide), hn 18 (by decide), List.set]
  · by_cases hz : rlen n = 0
    · simp only [va_up, if_neg h, rcel, if_pos hz]
    · simp only [va_up, if_neg h, rcel, if_neg hz, hn n (fun q => hz (by rw [q]; rfl))]
theorem rcel_p17 {G : gw_G} {adr : Nat → Nat} {S X : Nat → Nat → Int32} {v : Int32} : va_up (rcel G adr S X) 0 (some (.inr (7, (rfs adr S X).set 17 (.int v)))) = rcel G adr (m2 S 17 0 v) X := by
  have hn : ∀ a, a ≠ 17 → m2 S 17 0 v a = S a := fun a h => m2_ne h
  have he : m2 S 17 0 v 17 0 = v := by simp [m2, va_up]
  funext n
  by_cases h : n = 0
  · subst h
    simp only [va_up, if_pos, rcel, rfs, he, hn 0 (by decide), hn 13 (by decide), hn 16 (by decide), hn 18 (by decide), List.set]
  · by_cases hz : rlen n = 0
    · simp only [va_up, if_neg h, rcel, if_pos hz]
    · simp only [va_up, if_neg h, rcel, if_neg hz, hn n (fun q => hz (by rw [q]; rfl))]
theorem rcel_p18 {G : gw_G} {adr : Nat → Nat} {S X : Nat → Nat → Int32} {v : Int32} : va_up (rcel G adr S X) 0 (some (.inr (7, (rfs adr S X).set 18 (.int v)))) = rcel G adr (m2 S 18 0 v) X := by
  have hn : ∀ a, a ≠ 18 → m2 S 18 0 v a = S a := fun a h => m2_ne h
  have he : m2 S 18 0 v 18 0 = v := by simp [m2, va_up]
  funext n
  by_cases h : n = 0
  · subst h
    simp only [va_up, if_pos, rcel, rfs, he, hn 0 (by decide), hn 13 (by decide), hn 16 (by decide), hn 17 (by decide), List.set]
  · by_cases hz : rlen n = 0
    · simp only [va_up, if_neg h, rcel, if_pos hz]
    · simp only [va_up, if_neg h, rcel, if_neg hz, hn n (fun q => hz (by rw [q]; rfl))]
theorem rcel_p19 {G : gw_G} {adr : Nat → Nat} {S X : Nat → Nat → Int32} {v : Int32} : va_up (rcel G adr S X) 0 (some (.inr (7, (rfs adr S X).set 19 (.int v)))) = rcel G adr S (m2 X 19 0 v) := by
  have hn : ∀ a, a ≠ 19 → m2 X 19 0 v a = X a := fun a h => m2_ne h
  have he : m2 X 19 0 v 19 0 = v := by simp [m2, va_up]
  funext n
  by_cases h : n = 0
  · subst h
    simp only [va_up, if_pos, rcel, rfs, he, hn 20 (by decide), hn 21 (by decide), hn 22 (by decide), hn 31 (by decide), hn 32 (by decide), List.set]
  · by_cases hz : rlen n = 0
    · simp only [va_up, if_neg h, rcel, if_pos hz]
    · simp only [va_up, if_neg h, rcel, if_neg hz, hn n (fun q => hz (by rw [q]; rfl))]
theorem rcel_p20 {G : gw_G} {adr : Nat → Nat} {S X : Nat → Nat → Int32} {v : Int32} : va_up (rcel G adr S X) 0 (some (.inr (7, (rfs adr S X).set 20 (.int v)))) = rcel G adr S (m2 X 20 0 v) := by
  have hn : ∀ a, a ≠ 20 → m2 X 20 0 v a = X a := fun a h => m2_ne h
  have he : m2 X 20 0 v 20 0 = v := by simp [m2, va_up]
  funext n
  by_cases h : n = 0
  · subst h
    simp only [va_up, if_pos, rcel, rfs, he, hn 19 (by decide), hn 21 (by decide), hn 22 (by decide), hn 31 (by decide), hn 32 (by decide), List.set]
  · by_cases hz : rlen n = 0
    · simp only [va_up, if_neg h, rcel, if_pos hz]
    · simp only [va_up, if_neg h, rcel, if_neg hz, hn n (fun q => hz (by rw [q]; rfl))]
theorem rcel_p21 {G : gw_G} {adr : Nat → Nat} {S X : Nat → Nat → Int32} {v : Int32} : va_up (rcel G adr S X) 0 (some (.inr (7, (rfs adr S X).set 21 (.int v)))) = rcel G adr S (m2 X 21 0 v) := by
  have hn : ∀ a, a ≠ 21 → m2 X 21 0 v a = X a := fun a h => m2_ne h
  have he : m2 X 21 0 v 21 0 = v := by simp [m2, va_up]
  funext n
  by_cases h : n = 0
  · subst h
    simp only [va_up, if_pos, rcel, rfs, he, hn 19 (by decide), hn 20 (by decide), hn 22 (by decide), hn 31 (by decide), hn 32 (by decide), List.set]
  · by_cases hz : rlen n = 0
    · simp only [va_up, if_neg h, rcel, if_pos hz]
    · simp only [va_up, if_neg h, rcel, if_neg hz, hn n (fun q => hz (by rw [q]; rfl))]
theorem rcel_p22 {G : gw_G} {adr : Nat → Nat} {S X : Nat → Nat → Int32} {v : Int32} : va_up (rcel G adr S X) 0 (some (.inr (7, (rfs adr S X).set 22 (.int v)))) = rcel G adr S (m2 X 22 0 v) := by
  have hn : ∀ a, a ≠ 22 → m2 X 22 0 v a = X a := fun a h => m2_ne h
  have he : m2 X 22 0 v 22 0 = v := by simp [m2, va_up]
  funext n
  by_cases h : n = 0
  · subst h
    simp only [va_up, if_pos, rcel, rfs, he, hn 19 (by decide), hn 20 (by decide), hn 21 (by decide), hn 31 (by decide), hn 32 (by decide), List.set]
  · by_cases hz : rlen n = 0
    · simp only [va_up, if_neg h, rcel, if_pos hz]
    · simp only [va_up, if_neg h, rcel, if_neg hz, hn n (fun q => hz (by rw [q]; rfl))]
theorem rcel_p31 {G : gw_G} {adr : Nat → Nat} {S X : Nat → Nat → Int32} {v : Int32} : va_up (rcel G adr S X) 0 (some (.inr (7, (rfs adr S X).set 31 (.int v)))) = rcel G adr S (m2 X 31 0 v) := by
  have hn : ∀ a, a ≠ 31 → m2 X 31 0 v a = X a := fun a h => m2_ne h
  have he : m2 X 31 0 v 31 0 = v := by simp [m2, va_up]
  funext n
  by_cases h : n = 0
  · subst h
    simp only [va_up, if_pos, rcel, rfs, he, hn 19 (by decide), hn 20 (by decide), hn 21 (by decide), hn 22 (by decide), hn 32 (by decide), List.set]
  · by_cases hz : rlen n = 0
    · simp only [va_up, if_neg h, rcel, if_pos hz]
    · simp only [va_up, if_neg h, rcel, if_neg hz, hn n (fun q => hz (by rw [q]; rfl))]
theorem rcel_p32 {G : gw_G} {adr : Nat → Nat} {S X : Nat → Nat → Int32} {v : Int32} : va_up (rcel G adr S X) 0 (some (.inr (7, (rfs adr S X).set 32 (.int v)))) = rcel G adr S (m2 X 32 0 v) := by
  have hn : ∀ a, a ≠ 32 → m2 X 32 0 v a = X a := fun a h => m2_ne h
  have he : m2 X 32 0 v 32 0 = v := by simp [m2, va_up]
  funext n
  by_cases h : n = 0
  · subst h
    simp only [va_up, if_pos, rcel, rfs, he, hn 19 (by decide), hn 20 (by decide), hn 21 (by decide), hn 22 (by decide), hn 31 (by decide), List.set]
  · by_cases hz : rlen n = 0
    · simp only [va_up, if_neg h, rcel, if_pos hz]
    · simp only [va_up, if_neg h, rcel, if_neg hz, hn n (fun q => hz (by rw [q]; rfl))]
theorem nb_b {x : Int32} (h : x = 0 ∨ x = 1) : vp_nar .boolean x = x := by rcases h with rfl | rfl <;> decide
section RW
variable {p : Program} {l : Launch} {e : Env} {R : Room} {s : State} {m : MethodId} {args : Array Value} {below : List Frame} {meth : Method} {c : Code} {H : Heap} {locs : List Loc} {cells slots : Nat} {Q : State → Prop}
variable {cc : ByteArray} {pc : Nat} {ls : Array Slot} {rest : List Value} {G : gw_G} {A : Nat → Prop} {H0 : Heap} {adr : Nat → Nat} {S X : Nat → Nat → Int32}
theorem rg_0 (F : gw_F p m c cc s args RX7) (hK : gw_K G s) (hR : rB G A adr S X H0 H locs) (hdg : decode cc pc = .ok (.getfield 84, 3)) (kk : W p l e R s m args below meth c H locs cells slots Q (F0 m (pc + 3) ls (.int (S 0 0) :: rest))) : W p l e R s m args below meth c H locs cells slots Q (F0 m pc ls (.ref (adr 0) :: rest)) := gw_get F hK hR.1 0 rfl rfl inX7 0 (by decide) fl_X7_84 rfl hdg kk
theorem rp_0 (F : gw_F p m c cc s args RX7) (hK : gw_K G s) (hR : rB G A adr S X H0 H locs) {v : Int32} (hdg : decode cc pc = .ok (.putfield 84, 3)) (kk : ∀ (H1 : Heap) (locs1 : List Loc), rB G A adr (m2 S 0 0 v) X H0 H1 locs1 → W p l e R s m args below meth c H1 locs1 cells slots Q (F0 m (pc + 3) ls (rest))) : W p l e R s m args below meth c H locs cells slots Q (F0 m pc ls (.int v :: .ref (adr 0) :: rest)) := gw_put F hK hR 0 rfl rfl inX7 tyX7 tyX7_ok nmX7 0 (by decide) fl_X7_84 rfl (ty := .int) rfl rfl rfl (Nat.le_of_ble_eq_true rfl) hdg (fun H1 locs1 hB => kk H1 locs1 (gw_B.to hB rcel_p0))
theorem rg_1 (F : gw_F p m c cc s args RX7) (hK : gw_K G s) (hR : rB G A adr S X H0 H locs) (hdg : decode cc pc = .ok (.getfield 7, 3)) (kk : W p l e R s m args below meth c H locs cells slots Q (F0 m (pc + 3) ls (.ref (adr 1) :: rest))) : W p l e R s m args below meth c H locs cells slots Q (F0 m pc ls (.ref (adr 0) :: rest)) := gw_get F hK hR.1 0 rfl rfl inX7 1 (by decide) fl_X7_7 rfl hdg kk
theorem ri_1 (F : gw_F p m c cc s args RX7) (hK : gw_K G s) (hR : rB G A adr S X H0 H locs) {j : Nat} (hj : j < 12) (hdg : decode cc pc = .ok (.baload, 1)) (kk : W p l e R s m args below meth c H locs cells slots Q (F0 m (pc + 1) ls (.int (S 1 j) :: rest))) : W p l e R s m args below meth c H locs cells slots Q (F0 m pc ls (.int (nI j) :: .ref (adr 1) :: rest)) := by
  refine gw_zald F hK hR.1 1 (N := 12) (f := S 1) rfl (vp_in_nI hj (by decide)) hdg ?_
  rw [nI_clamp (by omega)]
  exact kk
theorem rs_1 (F : gw_F p m c cc s args RX7) (hK : gw_K G s) (hR : rB G A adr S X H0 H locs) {j : Nat} {x : Int32} (hj : j < 12) (hx : x = 0 ∨ x = 1) (hdg : decode cc pc = .ok (.bastore, 1)) (kk : ∀ (H1 : Heap) (locs1 : List Loc), rB G A adr (m2 S 1 j x) X H0 H1 locs1 → W p l e R s m args below meth c H1 locs1 cells slots Q (F0 m (pc + 1) ls (rest))) : W p l e R s m args below meth c H locs cells slots Q (F0 m pc ls (.int x :: .int (nI j) :: .ref (adr 1) :: rest)) := by
  refine gw_zast F hK hR 1 (N := 12) (f := S 1) rfl (vp_in_nI hj (by decide)) hdg (fun H1 locs1 hB => ?_)
  rw [nb_b hx, nI_clamp (by omega)] at hB
  exact kk H1 locs1 (gw_B.to hB (rcel_S 1 (by decide) (by decide)))
theorem rg_2 (F : gw_F p m c cc s args RX7) (hK : gw_K G s) (hR : rB G A adr S X H0 H locs) (hdg : decode cc pc = .ok (.getfield 13, 3)) (kk : W p l e R s m args below meth c H locs cells slots Q (F0 m (pc + 3) ls (.ref (adr 2) :: rest))) : W p l e R s m args below meth c H locs cells slots Q (F0 m pc ls (.ref (adr 0) :: rest)) := gw_get F hK hR.1 0 rfl rfl inX7 2 (by decide) fl_X7_13 rfl hdg kk
theorem ri_2 (F : gw_F p m c cc s args RX7) (hK : gw_K G s) (hR : rB G A adr S X H0 H locs) {j : Nat} (hj : j < 12) (hdg : decode cc pc = .ok (.baload, 1)) (kk : W p l e R s m args below meth c H locs cells slots Q (F0 m (pc + 1) ls (.int (S 2 j) :: rest))) : W p l e R s m args below meth c H locs cells slots Q (F0 m pc ls (.int (nI j) :: .ref (adr 2) :: rest)) := by
  refine gw_zald F hK hR.1 2 (N := 12) (f := S 2) rfl (vp_in_nI hj (by decide)) hdg ?_
  rw [nI_clamp (by omega)]
  exact kk
theorem rs_2 (F : gw_F p m c cc s args RX7) (hK : gw_K G s) (hR : rB G A adr S X H0 H locs) {j : Nat} {x : Int32} (hj : j < 12) (hx : x = 0 ∨ x = 1) (hdg : decode cc pc = .ok (.bastore, 1)) (kk : ∀ (H1 : Heap) (locs1 : List Loc), rB G A adr (m2 S 2 j x) X H0 H1 locs1 → W p l e R s m args below meth c H1 locs1 cells slots Q (F0 m (pc + 1) ls (rest))) : W p l e R s m args below meth c H locs cells slots Q (F0 m pc ls (.int x :: .int (nI j) :: .ref (adr 2) :: rest)) := by
  refine gw_zast F hK hR 2 (N := 12) (f := S 2) rfl (vp_in_nI hj (by decide)) hdg (fun H1 locs1 hB => ?_)
  rw [nb_b hx, nI_clamp (by omega)] at hB
  exact kk H1 locs1 (gw_B.to hB (rcel_S 2 (by decide) (by decide)))
theorem rg_3 (F : gw_F p m c cc s args RX7) (hK : gw_K G s) (hR : rB G A adr S X H0 H locs) (hdg : decode cc pc = .ok (.getfield 16, 3)) (kk : W p l e R s m args below meth c H locs cells slots Q (F0 m (pc + 3) ls (.ref (adr 3) :: rest))) : W p l e R s m args below meth c H locs cells slots Q (F0 m pc ls (.ref (adr 0) :: rest)) := gw_get F hK hR.1 0 rfl rfl inX7 3 (by decide) fl_X7_16 rfl hdg kk
theorem ri_3 (F : gw_F p m c cc s args RX7) (hK : gw_K G s) (hR : rB G A adr S X H0 H locs) {j : Nat} (hj : j < 12) (hdg : decode cc pc = .ok (.iaload, 1)) (kk : W p l e R s m args below meth c H locs cells slots Q (F0 m (pc + 1) ls (.int (S 3 j) :: rest))) : W p l e R s m args below meth c H locs cells slots Q (F0 m pc ls (.int (nI j) :: .ref (adr 3) :: rest)) := by
  refine gw_iald F hK hR.1 3 (N := 12) (f := S 3) rfl (vp_in_nI hj (by decide)) hdg ?_
  rw [nI_clamp (by omega)]
  exact kk
theorem rs_3 (F : gw_F p m c cc s args RX7) (hK : gw_K G s) (hR : rB G A adr S X H0 H locs) {j : Nat} {x : Int32} (hj : j < 12) (hdg : decode cc pc = .ok (.iastore, 1)) (kk : ∀ (H1 : Heap) (locs1 : List Loc), rB G A adr (m2 S 3 j x) X H0 H1 locs1 → W p l e R s m args below meth c H1 locs1 cells slots Q (F0 m (pc + 1) ls (rest))) : W p l e R s m args below meth c H locs cells slots Q (F0 m pc ls (.int x :: .int (nI j) :: .ref (adr 3) :: rest)) := by
  refine gw_iast F hK hR 3 (N := 12) (f := S 3) rfl (vp_in_nI hj (by decide)) hdg (fun H1 locs1 hB => ?_)
  rw [nI_clamp (by omega)] at hB
  exact kk H1 locs1 (gw_B.to hB (rcel_S 3 (by decide) (by decide)))
theorem rg_4 (F : gw_F p m c cc s args RX7) (hK : gw_K G s) (hR : rB G A adr S X H0 H locs) (hdg : decode cc pc = .ok (.getfield 20, 3)) (kk : W p l e R s m args below meth c H locs cells slots Q (F0 m (pc + 3) ls (.ref (adr 4) :: rest))) : W p l e R s m args below meth c H locs cells slots Q (F0 m pc ls (.ref (adr 0) :: rest)) := gw_get F hK hR.1 0 rfl rfl inX7 4 (by decide) fl_X7_20 rfl hdg kk
theorem ri_4 (F : gw_F p m c cc s args RX7) (hK : gw_K G s) (hR : rB G A adr S X H0 H locs) {j : Nat} (hj : j < 12) (hdg : decode cc pc = .ok (.iaload, 1)) (kk : W p l e R s m args below meth c H locs cells slots Q (F0 m (pc + 1) ls (.int (S 4 j) :: rest))) : W p l e R s m args below meth c H locs cells slots Q (F0 m pc ls (.int (nI j) :: .ref (adr 4) :: rest)) := by
  refine gw_iald F hK hR.1 4 (N := 12) (f := S 4) rfl (vp_in_nI hj (by decide)) hdg ?_
  rw [nI_clamp (by omega)]
  exact kk
theorem rs_4 (F : gw_F p m c cc s args RX7) (hK : gw_K G s) (hR : rB G A adr S X H0 H locs) {j : Nat} {x : Int32} (hj : j < 12) (hdg : decode cc pc = .ok (.iastore, 1)) (kk : ∀ (H1 : Heap) (locs1 : List Loc), rB G A adr (m2 S 4 j x) X H0 H1 locs1 → W p l e R s m args below meth c H1 locs1 cells slots Q (F0 m (pc + 1) ls (rest))) : W p l e R s m args below meth c H locs cells slots Q (F0 m pc ls (.int x :: .int (nI j) :: .ref (adr 4) :: rest)) := by
  refine gw_iast F hK hR 4 (N := 12) (f := S 4) rfl (vp_in_nI hj (by decide)) hdg (fun H1 locs1 hB => ?_)
  rw [nI_clamp (by omega)] at hB
  exact kk H1 locs1 (gw_B.to hB (rcel_S 4 (by decide) (by decide)))
theorem rg_5 (F : gw_F p m c cc s args RX7) (hK : gw_K G s) (hR : rB G A adr S X H0 H locs) (hdg : decode cc pc = .ok (.getfield 23, 3)) (kk : W p l e R s m args below meth c H locs cells slots Q (F0 m (pc + 3) ls (.ref (adr 5) :: rest))) : W p l e R s m args below meth c H locs cells slots Q (F0 m pc ls (.ref (adr 0) :: rest)) := gw_get F hK hR.1 0 rfl rfl inX7 5 (by decide) fl_X7_23 rfl hdg kk
theorem ri_5 (F : gw_F p m c cc s args RX7) (hK : gw_K G s) (hR : rB G A adr S X H0 H locs) {j : Nat} (hj : j < 36) (hdg : decode cc pc = .ok (.iaload, 1)) (kk : W p l e R s m args below meth c H locs cells slots Q (F0 m (pc + 1) ls (.int (S 5 j) :: rest))) : W p l e R s m args below meth c H locs cells slots Q (F0 m pc ls (.int (nI j) :: .ref (adr 5) :: rest)) := by
  refine gw_iald F hK hR.1 5 (N := 36) (f := S 5) rfl (vp_in_nI hj (by decide)) hdg ?_
  rw [nI_clamp (by omega)]
  exact kk
theorem rs_5 (F : gw_F p m c cc s args RX7) (hK : gw_K G s) (hR : rB G A adr S X H0 H locs) {j : Nat} {x : Int32} (hj : j < 36) (hdg : decode cc pc = .ok (.iastore, 1)) (kk : ∀ (H1 : Heap) (locs1 : List Loc), rB G A adr (m2 S 5 j x) X H0 H1 locs1 → W p l e R s m args below meth c H1 locs1 cells slots Q (F0 m (pc + 1) ls (rest))) : W p l e R s m args below meth c H locs cells slots Q (F0 m pc ls (.int x :: .int (nI j) :: .ref (adr 5) :: rest)) := by
  refine gw_iast F hK hR 5 (N := 36) (f := S 5) rfl (vp_in_nI hj (by decide)) hdg (fun H1 locs1 hB => ?_)
  rw [nI_clamp (by omega)] at hB
  exact kk H1 locs1 (gw_B.to hB (rcel_S 5 (by decide) (by decide)))
theorem rg_6 (F : gw_F p m c cc s args RX7) (hK : gw_K G s) (hR : rB G A adr S X H0 H locs) (hdg : decode cc pc = .ok (.getfield 26, 3)) (kk : W p l e R s m args below meth c H locs cells slots Q (F0 m (pc + 3) ls (.ref (adr 6) :: rest))) : W p l e R s m args below meth c H locs cells slots Q (F0 m pc ls (.ref (adr 0) :: rest)) := gw_get F hK hR.1 0 rfl rfl inX7 6 (by decide) fl_X7_26 rfl hdg kk
theorem ri_6 (F : gw_F p m c cc s args RX7) (hK : gw_K G s) (hR : rB G A adr S X H0 H locs) {j : Nat} (hj : j < 48) (hdg : decode cc pc = .ok (.iaload, 1)) (kk : W p l e R s m args below meth c H locs cells slots Q (F0 m (pc + 1) ls (.int (S 6 j) :: rest))) : W p l e R s m args below meth c H locs cells slots Q (F0 m pc ls (.int (nI j) :: .ref (adr 6) :: rest)) := by
  refine gw_iald F hK hR.1 6 (N := 48) (f := S 6) rfl (vp_in_nI hj (by decide)) hdg ?_
  rw [nI_clamp (by omega)]
  exact kk
theorem rs_6 (F : gw_F p m c cc s args RX7) (hK : gw_K G s) (hR : rB G A adr S X H0 H locs) {j : Nat} {x : Int32} (hj : j < 48) (hdg : decode cc pc = .ok (.iastore, 1)) (kk : ∀ (H1 : Heap) (locs1 : List Loc), rB G A adr (m2 S 6 j x) X H0 H1 locs1 → W p l e R s m args below meth c H1 locs1 cells slots Q (F0 m (pc + 1) ls (rest))) : W p l e R s m args below meth c H locs cells slots Q (F0 m pc ls (.int x :: .int (nI j) :: .ref (adr 6) :: rest)) := by
  refine gw_iast F hK hR 6 (N := 48) (f := S 6) rfl (vp_in_nI hj (by decide)) hdg (fun H1 locs1 hB => ?_)
  rw [nI_clamp (by omega)] at hB
  exact kk H1 locs1 (gw_B.to hB (rcel_S 6 (by decide) (by decide)))
theorem rg_7 (F : gw_F p m c cc s args RX7) (hK : gw_K G s) (hR : rB G A adr S X H0 H locs) (hdg : decode cc pc = .ok (.getfield 29, 3)) (kk : W p l e R s m args below meth c H locs cells slots Q (F0 m (pc + 3) ls (.ref (adr 7) :: rest))) : W p l e R s m args below meth c H locs cells slots Q (F0 m pc ls (.ref (adr 0) :: rest)) := gw_get F hK hR.1 0 rfl rfl inX7 7 (by decide) fl_X7_29 rfl hdg kk
theorem ri_7 (F : gw_F p m c cc s args RX7) (hK : gw_K G s) (hR : rB G A adr S X H0 H locs) {j : Nat} (hj : j < 48) (hdg : decode cc pc = .ok (.baload, 1)) (kk : W p l e R s m args below meth c H locs cells slots Q (F0 m (pc + 1) ls (.int (S 7 j) :: rest))) : W p l e R s m args below meth c H locs cells slots Q (F0 m pc ls (.int (nI j) :: .ref (adr 7) :: rest)) := by
  refine gw_zald F hK hR.1 7 (N := 48) (f := S 7) rfl (vp_in_nI hj (by decide)) hdg ?_
  rw [nI_clamp (by omega)]
  exact kk
theorem rs_7 (F : gw_F p m c cc s args RX7) (hK : gw_K G s) (hR : rB G A adr S X H0 H locs) {j : Nat} {x : Int32} (hj : j < 48) (hx : x = 0 ∨ x = 1) (hdg : decode cc pc = .ok (.bastore, 1)) (kk : ∀ (H1 : Heap) (locs1 : List Loc), rB G A adr (m2 S 7 j x) X H0 H1 locs1 → W p l e R s m args below meth c H1 locs1 cells slots Q (F0 m (pc + 1) ls (rest))) : W p l e R s m args below meth c H locs cells slots Q (F0 m pc ls (.int x :: .int (nI j) :: .ref (adr 7) :: rest)) := by
  refine gw_zast F hK hR 7 (N := 48) (f := S 7) rfl (vp_in_nI hj (by decide)) hdg (fun H1 locs1 hB => ?_)
  rw [nb_b hx, nI_clamp (by omega)] at hB
  exact kk H1 locs1 (gw_B.to hB (rcel_S 7 (by decide) (by decide)))
theorem rg_8 (F : gw_F p m c cc s args RX7) (hK : gw_K G s) (hR : rB G A adr S X H0 H locs) (hdg : decode cc pc = .ok (.getfield 32, 3)) (kk : W p l e R s m args below meth c H locs cells slots Q (F0 m (pc + 3) ls (.ref (adr 8) :: rest))) : W p l e R s m args below meth c H locs cells slots Q (F0 m pc ls (.ref (adr 0) :: rest)) := gw_get F hK hR.1 0 rfl rfl inX7 8 (by decide) fl_X7_32 rfl hdg kk
theorem ri_8 (F : gw_F p m c cc s args RX7) (hK : gw_K G s) (hR : rB G A adr S X H0 H locs) {j : Nat} (hj : j < 12) (hdg : decode cc pc = .ok (.iaload, 1)) (kk : W p l e R s m args below meth c H locs cells slots Q (F0 m (pc + 1) ls (.int (S 8 j) :: rest))) : W p l e R s m args below meth c H locs cells slots Q (F0 m pc ls (.int (nI j) :: .ref (adr 8) :: rest)) := by
  refine gw_iald F hK hR.1 8 (N := 12) (f := S 8) rfl (vp_in_nI hj (by decide)) hdg ?_
  rw [nI_clamp (by omega)]
  exact kk
theorem rs_8 (F : gw_F p m c cc s args RX7) (hK : gw_K G s) (hR : rB G A adr S X H0 H locs) {j : Nat} {x : Int32} (hj : j < 12) (hdg : decode cc pc = .ok (.iastore, 1)) (kk : ∀ (H1 : Heap) (locs1 : List Loc), rB G A adr (m2 S 8 j x) X H0 H1 locs1 → W p l e R s m args below meth c H1 locs1 cells slots Q (F0 m (pc + 1) ls (rest))) : W p l e R s m args below meth c H locs cells slots Q (F0 m pc ls (.int x :: .int (nI j) :: .ref (adr 8) :: rest)) := by
  refine gw_iast F hK hR 8 (N := 12) (f := S 8) rfl (vp_in_nI hj (by decide)) hdg (fun H1 locs1 hB => ?_)
  rw [nI_clamp (by omega)] at hB
  exact kk H1 locs1 (gw_B.to hB (rcel_S 8 (by decide) (by decide)))
theorem rg_9 (F : gw_F p m c cc s args RX7) (hK : gw_K G s) (hR : rB G A adr S X H0 H locs) (hdg : decode cc pc = .ok (.getfield 35, 3)) (kk : W p l e R s m args below meth c H locs cells slots Q (F0 m (pc + 3) ls (.ref (adr 9) :: rest))) : W p l e R s m args below meth c H locs cells slots Q (F0 m pc ls (.ref (adr 0) :: rest)) := gw_get F hK hR.1 0 rfl rfl inX7 9 (by decide) fl_X7_35 rfl hdg kk
theorem ri_9 (F : gw_F p m c cc s args RX7) (hK : gw_K G s) (hR : rB G A adr S X H0 H locs) {j : Nat} (hj : j < 240) (hdg : decode cc pc = .ok (.iaload, 1)) (kk : W p l e R s m args below meth c H locs cells slots Q (F0 m (pc + 1) ls (.int (S 9 j) :: rest))) : W p l e R s m args below meth c H locs cells slots Q (F0 m pc ls (.int (nI j) :: .ref (adr 9) :: rest)) := by
  refine gw_iald F hK hR.1 9 (N := 240) (f := S 9) rfl (vp_in_nI hj (by decide)) hdg ?_
  rw [nI_clamp (by omega)]
  exact kk
theorem rs_9 (F : gw_F p m c cc s args RX7) (hK : gw_K G s) (hR : rB G A adr S X H0 H locs) {j : Nat} {x : Int32} (hj : j < 240) (hdg : decode cc pc = .ok (.iastore, 1)) (kk : ∀ (H1 : Heap) (locs1 : List Loc), rB G A adr (m2 S 9 j x) X H0 H1 locs1 → W p l e R s m args below meth c H1 locs1 cells slots Q (F0 m (pc + 1) ls (rest))) : W p l e R s m args below meth c H locs cells slots Q (F0 m pc ls (.int x :: .int (nI j) :: .ref (adr 9) :: rest)) := by
  refine gw_iast F hK hR 9 (N := 240) (f := S 9) rfl (vp_in_nI hj (by decide)) hdg (fun H1 locs1 hB => ?_)
  rw [nI_clamp (by omega)] at hB
  exact kk H1 locs1 (gw_B.to hB (rcel_S 9 (by decide) (by decide)))
theorem rg_10 (F : gw_F p m c cc s args RX7) (hK : gw_K G s) (hR : rB G A adr S X H0 H locs) (hdg : decode cc pc = .ok (.getfield 38, 3)) (kk : W p l e R s m args below meth c H locs cells slots Q (F0 m (pc + 3) ls (.ref (adr 10) :: rest))) : W p l e R s m args below meth c H locs cells slots Q (F0 m pc ls (.ref (adr 0) :: rest)) := gw_get F hK hR.1 0 rfl rfl inX7 10 (by decide) fl_X7_38 rfl hdg kk
theorem ri_10 (F : gw_F p m c cc s args RX7) (hK : gw_K G s) (hR : rB G A adr S X H0 H locs) {j : Nat} (hj : j < 48) (hdg : decode cc pc = .ok (.iaload, 1)) (kk : W p l e R s m args below meth c H locs cells slots Q (F0 m (pc + 1) ls (.int (S 10 j) :: rest))) : W p l e R s m args below meth c H locs cells slots Q (F0 m pc ls (.int (nI j) :: .ref (adr 10) :: rest)) := by
  refine gw_iald F hK hR.1 10 (N := 48) (f := S 10) rfl (vp_in_nI hj (by decide)) hdg ?_
  rw [nI_clamp (by omega)]
  exact kk
theorem rs_10 (F : gw_F p m c cc s args RX7) (hK : gw_K G s) (hR : rB G A adr S X H0 H locs) {j : Nat} {x : Int32} (hj : j < 48) (hdg : decode cc pc = .ok (.iastore, 1)) (kk : ∀ (H1 : Heap) (locs1 : List Loc), rB G A adr (m2 S 10 j x) X H0 H1 locs1 → W p l e R s m args below meth c H1 locs1 cells slots Q (F0 m (pc + 1) ls (rest))) : W p l e R s m args below meth c H locs cells slots Q (F0 m pc ls (.int x :: .int (nI j) :: .ref (adr 10) :: rest)) := by
  refine gw_iast F hK hR 10 (N := 48) (f := S 10) rfl (vp_in_nI hj (by decide)) hdg (fun H1 locs1 hB => ?_)
  rw [nI_clamp (by omega)] at hB
  exact kk H1 locs1 (gw_B.to hB (rcel_S 10 (by decide) (by decide)))
theorem rg_11 (F : gw_F p m c cc s args RX7) (hK : gw_K G s) (hR : rB G A adr S X H0 H locs) (hdg : decode cc pc = .ok (.getfield 41, 3)) (kk : W p l e R s m args below meth c H locs cells slots Q (F0 m (pc + 3) ls (.ref (adr 11) :: rest))) : W p l e R s m args below meth c H locs cells slots Q (F0 m pc ls (.ref (adr 0) :: rest)) := gw_get F hK hR.1 0 rfl rfl inX7 11 (by decide) fl_X7_41 rfl hdg kk
theorem ri_11 (F : gw_F p m c cc s args RX7) (hK : gw_K G s) (hR : rB G A adr S X H0 H locs) {j : Nat} (hj : j < 1920) (hdg : decode cc pc = .ok (.iaload, 1)) (kk : W p l e R s m args below meth c H locs cells slots Q (F0 m (pc + 1) ls (.int (S 11 j) :: rest))) : W p l e R s m args below meth c H locs cells slots Q (F0 m pc ls (.int (nI j) :: .ref (adr 11) :: rest)) := by
  refine gw_iald F hK hR.1 11 (N := 1920) (f := S 11) rfl (vp_in_nI hj (by decide)) hdg ?_
  rw [nI_clamp (by omega)]
  exact kk
theorem rs_11 (F : gw_F p m c cc s args RX7) (hK : gw_K G s) (hR : rB G A adr S X H0 H locs) {j : Nat} {x : Int32} (hj : j < 1920) (hdg : decode cc pc = .ok (.iastore, 1)) (kk : ∀ (H1 : Heap) (locs1 : List Loc), rB G A adr (m2 S 11 j x) X H0 H1 locs1 → W p l e R s m args below meth c H1 locs1 cells slots Q (F0 m (pc + 1) ls (rest))) : W p l e R s m args below meth c H locs cells slots Q (F0 m pc ls (.int x :: .int (nI j) :: .ref (adr 11) :: rest)) := by
  refine gw_iast F hK hR 11 (N := 1920) (f := S 11) rfl (vp_in_nI hj (by decide)) hdg (fun H1 locs1 hB => ?_)
  rw [nI_clamp (by omega)] at hB
  exact kk H1 locs1 (gw_B.to hB (rcel_S 11 (by decide) (by decide)))
theorem rg_12 (F : gw_F p m c cc s args RX7) (hK : gw_K G s) (hR : rB G A adr S X H0 H locs) (hdg : decode cc pc = .ok (.getfield 44, 3)) (kk : W p l e R s m args below meth c H locs cells slots Q (F0 m (pc + 3) ls (.ref (adr 12) :: rest))) : W p l e R s m args below meth c H locs cells slots Q (F0 m pc ls (.ref (adr 0) :: rest)) := gw_get F hK hR.1 0 rfl rfl inX7 12 (by decide) fl_X7_44 rfl hdg kk
theorem ri_12 (F : gw_F p m c cc s args RX7) (hK : gw_K G s) (hR : rB G A adr S X H0 H locs) {j : Nat} (hj : j < 12) (hdg : decode cc pc = .ok (.iaload, 1)) (kk : W p l e R s m args below meth c H locs cells slots Q (F0 m (pc + 1) ls (.int (S 12 j) :: rest))) : W p l e R s m args below meth c H locs cells slots Q (F0 m pc ls (.int (nI j) :: .ref (adr 12) :: rest)) := by
  refine gw_iald F hK hR.1 12 (N := 12) (f := S 12) rfl (vp_in_nI hj (by decide)) hdg ?_
  rw [nI_clamp (by omega)]
  exact kk
theorem rs_12 (F : gw_F p m c cc s args RX7) (hK : gw_K G s) (hR : rB G A adr S X H0 H locs) {j : Nat} {x : Int32} (hj : j < 12) (hdg : decode cc pc = .ok (.iastore, 1)) (kk : ∀ (H1 : Heap) (locs1 : List Loc), rB G A adr (m2 S 12 j x) X H0 H1 locs1 → W p l e R s m args below meth c H1 locs1 cells slots Q (F0 m (pc + 1) ls (rest))) : W p l e R s m args below meth c H locs cells slots Q (F0 m pc ls (.int x :: .int (nI j) :: .ref (adr 12) :: rest)) := by
  refine gw_iast F hK hR 12 (N := 12) (f := S 12) rfl (vp_in_nI hj (by decide)) hdg (fun H1 locs1 hB => ?_)
  rw [nI_clamp (by omega)] at hB
  exact kk H1 locs1 (gw_B.to hB (rcel_S 12 (by decide) (by decide)))
theorem rg_13 (F : gw_F p m c cc s args RX7) (hK : gw_K G s) (hR : rB G A adr S X H0 H locs) (hdg : decode cc pc = .ok (.getfield 102, 3)) (kk : W p l e R s m args below meth c H locs cells slots Q (F0 m (pc + 3) ls (.int (S 13 0) :: rest))) : W p l e R s m args below meth c H locs cells slots Q (F0 m pc ls (.ref (adr 0) :: rest)) := gw_get F hK hR.1 0 rfl rfl inX7 13 (by decide) fl_X7_102 rfl hdg kk
theorem rp_13 (F : gw_F p m c cc s args RX7) (hK : gw_K G s) (hR : rB G A adr S X H0 H locs) {v : Int32} (hdg : decode cc pc = .ok (.putfield 102, 3)) (kk : ∀ (H1 : Heap) (locs1 : List Loc), rB G A adr (m2 S 13 0 v) X H0 H1 locs1 → W p l e R s m args below meth c H1 locs1 cells slots Q (F0 m (pc + 3) ls (rest))) : W p l e R s m args below meth c H locs cells slots Q (F0 m pc ls (.int v :: .ref (adr 0) :: rest)) := gw_put F hK hR 0 rfl rfl inX7 tyX7 tyX7_ok nmX7 13 (by decide) fl_X7_102 rfl (ty := .int) rfl rfl rfl (Nat.le_of_ble_eq_true rfl) hdg (fun H1 locs1 hB => kk H1 locs1 (gw_B.to hB rcel_p13))
theorem rg_14 (F : gw_F p m c cc s args RX7) (hK : gw_K G s) (hR : rB G A adr S X H0 H locs) (hdg : decode cc pc = .ok (.getfield 47, 3)) (kk : W p l e R s m args below meth c H locs cells slots Q (F0 m (pc + 3) ls (.ref (adr 14) :: rest))) : W p l e R s m args below meth c H locs cells slots Q (F0 m pc ls (.ref (adr 0) :: rest)) := gw_get F hK hR.1 0 rfl rfl inX7 14 (by decide) fl_X7_47 rfl hdg kk
theorem ri_14 (F : gw_F p m c cc s args RX7) (hK : gw_K G s) (hR : rB G A adr S X H0 H locs) {j : Nat} (hj : j < 60) (hdg : decode cc pc = .ok (.iaload, 1)) (kk : W p l e R s m args below meth c H locs cells slots Q (F0 m (pc + 1) ls (.int (S 14 j) :: rest))) : W p l e R s m args below meth c H locs cells slots Q (F0 m pc ls (.int (nI j) :: .ref (adr 14) :: rest)) := by
  refine gw_iald F hK hR.1 14 (N := 60) (f := S 14) rfl (vp_in_nI hj (by decide)) hdg ?_
  rw [nI_clamp (by omega)]
  exact kk
theorem rs_14 (F : gw_F p m c cc s args RX7) (hK : gw_K G s) (hR : rB G A adr S X H0 H locs) {j : Nat} {x : Int32} (hj : j < 60) (hdg : decode cc pc = .ok (.iastore, 1)) (kk : ∀ (H1 : Heap) (locs1 : List Loc), rB G A adr (m2 S 14 j x) X H0 H1 locs1 → W p l e R s m args below meth c H1 locs1 cells slots Q (F0 m (pc + 1) ls (rest))) : W p l e R s m args below meth c H locs cells slots Q (F0 m pc ls (.int x :: .int (nI j) :: .ref (adr 14) :: rest)) := by
  refine gw_iast F hK hR 14 (N := 60) (f := S 14) rfl (vp_in_nI hj (by decide)) hdg (fun H1 locs1 hB => ?_)
  rw [nI_clamp (by omega)] at hB
  exact kk H1 locs1 (gw_B.to hB (rcel_S 14 (by decide) (by decide)))
theorem rg_15 (F : gw_F p m c cc s args RX7) (hK : gw_K G s) (hR : rB G A adr S X H0 H locs) (hdg : decode cc pc = .ok (.getfield 50, 3)) (kk : W p l e R s m args below meth c H locs cells slots Q (F0 m (pc + 3) ls (.ref (adr 15) :: rest))) : W p l e R s m args below meth c H locs cells slots Q (F0 m pc ls (.ref (adr 0) :: rest)) := gw_get F hK hR.1 0 rfl rfl inX7 15 (by decide) fl_X7_50 rfl hdg kk
theorem ri_15 (F : gw_F p m c cc s args RX7) (hK : gw_K G s) (hR : rB G A adr S X H0 H locs) {j : Nat} (hj : j < 60) (hdg : decode cc pc = .ok (.iaload, 1)) (kk : W p l e R s m args below meth c H locs cells slots Q (F0 m (pc + 1) ls (.int (S 15 j) :: rest))) : W p l e R s m args below meth c H locs cells slots Q (F0 m pc ls (.int (nI j) :: .ref (adr 15) :: rest)) := by
  refine gw_iald F hK hR.1 15 (N := 60) (f := S 15) rfl (vp_in_nI hj (by decide)) hdg ?_
  rw [nI_clamp (by omega)]
  exact kk
theorem rs_15 (F : gw_F p m c cc s args RX7) (hK : gw_K G s) (hR : rB G A adr S X H0 H locs) {j : Nat} {x : Int32} (hj : j < 60) (hdg : decode cc pc = .ok (.iastore, 1)) (kk : ∀ (H1 : Heap) (locs1 : List Loc), rB G A adr (m2 S 15 j x) X H0 H1 locs1 → W p l e R s m args below meth c H1 locs1 cells slots Q (F0 m (pc + 1) ls (rest))) : W p l e R s m args below meth c H locs cells slots Q (F0 m pc ls (.int x :: .int (nI j) :: .ref (adr 15) :: rest)) := by
  refine gw_iast F hK hR 15 (N := 60) (f := S 15) rfl (vp_in_nI hj (by decide)) hdg (fun H1 locs1 hB => ?_)
  rw [nI_clamp (by omega)] at hB
  exact kk H1 locs1 (gw_B.to hB (rcel_S 15 (by decide) (by decide)))
theorem rg_16 (F : gw_F p m c cc s args RX7) (hK : gw_K G s) (hR : rB G A adr S X H0 H locs) (hdg : decode cc pc = .ok (.getfield 173, 3)) (kk : W p l e R s m args below meth c H locs cells slots Q (F0 m (pc + 3) ls (.int (S 16 0) :: rest))) : W p l e R s m args below meth c H locs cells slots Q (F0 m pc ls (.ref (adr 0) :: rest)) := gw_get F hK hR.1 0 rfl rfl inX7 16 (by decide) fl_X7_173 rfl hdg kk
theorem rp_16 (F : gw_F p m c cc s args RX7) (hK : gw_K G s) (hR : rB G A adr S X H0 H locs) {v : Int32} (hdg : decode cc pc = .ok (.putfield 173, 3)) (kk : ∀ (H1 : Heap) (locs1 : List Loc), rB G A adr (m2 S 16 0 v) X H0 H1 locs1 → W p l e R s m args below meth c H1 locs1 cells slots Q (F0 m (pc + 3) ls (rest))) : W p l e R s m args below meth c H locs cells slots Q (F0 m pc ls (.int v :: .ref (adr 0) :: rest)) := gw_put F hK hR 0 rfl rfl inX7 tyX7 tyX7_ok nmX7 16 (by decide) fl_X7_173 rfl (ty := .int) rfl rfl rfl (Nat.le_of_ble_eq_true rfl) hdg (fun H1 locs1 hB => kk H1 locs1 (gw_B.to hB rcel_p16))
theorem rg_17 (F : gw_F p m c cc s args RX7) (hK : gw_K G s) (hR : rB G A adr S X H0 H locs) (hdg : decode cc pc = .ok (.getfield 145, 3)) (kk : W p l e R s m args below meth c H locs cells slots Q (F0 m (pc + 3) ls (.int (S 17 0) :: rest))) : W p l e R s m args below meth c H locs cells slots Q (F0 m pc ls (.ref (adr 0) :: rest)) := gw_get F hK hR.1 0 rfl rfl inX7 17 (by decide) fl_X7_145 rfl hdg kk
theorem rp_17 (F : gw_F p m c cc s args RX7) (hK : gw_K G s) (hR : rB G A adr S X H0 H locs) {v : Int32} (hdg : decode cc pc = .ok (.putfield 145, 3)) (kk : ∀ (H1 : Heap) (locs1 : List Loc), rB G A adr (m2 S 17 0 v) X H0 H1 locs1 → W p l e R s m args below meth c H1 locs1 cells slots Q (F0 m (pc + 3) ls (rest))) : W p l e R s m args below meth c H locs cells slots Q (F0 m pc ls (.int v :: .ref (adr 0) :: rest)) := gw_put F hK hR 0 rfl rfl inX7 tyX7 tyX7_ok nmX7 17 (by decide) fl_X7_145 rfl (ty := .int) rfl rfl rfl (Nat.le_of_ble_eq_true rfl) hdg (fun H1 locs1 hB => kk H1 locs1 (gw_B.to hB rcel_p17))
theorem rg_18 (F : gw_F p m c cc s args RX7) (hK : gw_K G s) (hR : rB G A adr S X H0 H locs) (hdg : decode cc pc = .ok (.getfield 105, 3)) (kk : W p l e R s m args below meth c H locs cells slots Q (F0 m (pc + 3) ls (.int (S 18 0) :: rest))) : W p l e R s m args below meth c H locs cells slots Q (F0 m pc ls (.ref (adr 0) :: rest)) := gw_get F hK hR.1 0 rfl rfl inX7 18 (by decide) fl_X7_105 rfl hdg kk
theorem rp_18 (F : gw_F p m c cc s args RX7) (hK : gw_K G s) (hR : rB G A adr S X H0 H locs) {v : Int32} (hdg : decode cc pc = .ok (.putfield 105, 3)) (kk : ∀ (H1 : Heap) (locs1 : List Loc), rB G A adr (m2 S 18 0 v) X H0 H1 locs1 → W p l e R s m args below meth c H1 locs1 cells slots Q (F0 m (pc + 3) ls (rest))) : W p l e R s m args below meth c H locs cells slots Q (F0 m pc ls (.int v :: .ref (adr 0) :: rest)) := gw_put F hK hR 0 rfl rfl inX7 tyX7 tyX7_ok nmX7 18 (by decide) fl_X7_105 rfl (ty := .int) rfl rfl rfl (Nat.le_of_ble_eq_true rfl) hdg (fun H1 locs1 hB => kk H1 locs1 (gw_B.to hB rcel_p18))
theorem rg_19 (F : gw_F p m c cc s args RX7) (hK : gw_K G s) (hR : rB G A adr S X H0 H locs) (hdg : decode cc pc = .ok (.getfield 142, 3)) (kk : W p l e R s m args below meth c H locs cells slots Q (F0 m (pc + 3) ls (.int (X 19 0) :: rest))) : W p l e R s m args below meth c H locs cells slots Q (F0 m pc ls (.ref (adr 0) :: rest)) := gw_get F hK hR.1 0 rfl rfl inX7 19 (by decide) fl_X7_142 rfl hdg kk
theorem rp_19 (F : gw_F p m c cc s args RX7) (hK : gw_K G s) (hR : rB G A adr S X H0 H locs) {v : Int32} (hdg : decode cc pc = .ok (.putfield 142, 3)) (kk : ∀ (H1 : Heap) (locs1 : List Loc), rB G A adr S (m2 X 19 0 v) H0 H1 locs1 → W p l e R s m args below meth c H1 locs1 cells slots Q (F0 m (pc + 3) ls (rest))) : W p l e R s m args below meth c H locs cells slots Q (F0 m pc ls (.int v :: .ref (adr 0) :: rest)) := gw_put F hK hR 0 rfl rfl inX7 tyX7 tyX7_ok nmX7 19 (by decide) fl_X7_142 rfl (ty := .int) rfl rfl rfl (Nat.le_of_ble_eq_true rfl) hdg (fun H1 locs1 hB => kk H1 locs1 (gw_B.to hB rcel_p19))
theorem rg_20 (F : gw_F p m c cc s args RX7) (hK : gw_K G s) (hR : rB G A adr S X H0 H locs) (hdg : decode cc pc = .ok (.getfield 53, 3)) (kk : W p l e R s m args below meth c H locs cells slots Q (F0 m (pc + 3) ls (.int (X 20 0) :: rest))) : W p l e R s m args below meth c H locs cells slots Q (F0 m pc ls (.ref (adr 0) :: rest)) := gw_get F hK hR.1 0 rfl rfl inX7 20 (by decide) fl_X7_53 rfl hdg kk
theorem rp_20 (F : gw_F p m c cc s args RX7) (hK : gw_K G s) (hR : rB G A adr S X H0 H locs) {v : Int32} (hdg : decode cc pc = .ok (.putfield 53, 3)) (kk : ∀ (H1 : Heap) (locs1 : List Loc), rB G A adr S (m2 X 20 0 v) H0 H1 locs1 → W p l e R s m args below meth c H1 locs1 cells slots Q (F0 m (pc + 3) ls (rest))) : W p l e R s m args below meth c H locs cells slots Q (F0 m pc ls (.int v :: .ref (adr 0) :: rest)) := gw_put F hK hR 0 rfl rfl inX7 tyX7 tyX7_ok nmX7 20 (by decide) fl_X7_53 rfl (ty := .int) rfl rfl rfl (Nat.le_of_ble_eq_true rfl) hdg (fun H1 locs1 hB => kk H1 locs1 (gw_B.to hB rcel_p20))
theorem rg_21 (F : gw_F p m c cc s args RX7) (hK : gw_K G s) (hR : rB G A adr S X H0 H locs) (hdg : decode cc pc = .ok (.getfield 126, 3)) (kk : W p l e R s m args below meth c H locs cells slots Q (F0 m (pc + 3) ls (.int (X 21 0) :: rest))) : W p l e R s m args below meth c H locs cells slots Q (F0 m pc ls (.ref (adr 0) :: rest)) := gw_get F hK hR.1 0 rfl rfl inX7 21 (by decide) fl_X7_126 rfl hdg kk
theorem rp_21 (F : gw_F p m c cc s args RX7) (hK : gw_K G s) (hR : rB G A adr S X H0 H locs) {v : Int32} (hdg : decode cc pc = .ok (.putfield 126, 3)) (kk : ∀ (H1 : Heap) (locs1 : List Loc), rB G A adr S (m2 X 21 0 v) H0 H1 locs1 → W p l e R s m args below meth c H1 locs1 cells slots Q (F0 m (pc + 3) ls (rest))) : W p l e R s m args below meth c H locs cells slots Q (F0 m pc ls (.int v :: .ref (adr 0) :: rest)) := gw_put F hK hR 0 rfl rfl inX7 tyX7 tyX7_ok nmX7 21 (by decide) fl_X7_126 rfl (ty := .int) rfl rfl rfl (Nat.le_of_ble_eq_true rfl) hdg (fun H1 locs1 hB => kk H1 locs1 (gw_B.to hB rcel_p21))
theorem rg_22 (F : gw_F p m c cc s args RX7) (hK : gw_K G s) (hR : rB G A adr S X H0 H locs) (hdg : decode cc pc = .ok (.getfield 108, 3)) (kk : W p l e R s m args below meth c H locs cells slots Q (F0 m (pc + 3) ls (.int (X 22 0) :: rest))) : W p l e R s m args below meth c H locs cells slots Q (F0 m pc ls (.ref (adr 0) :: rest)) := gw_get F hK hR.1 0 rfl rfl inX7 22 (by decide) fl_X7_108 rfl hdg kk
theorem rp_22 (F : gw_F p m c cc s args RX7) (hK : gw_K G s) (hR : rB G A adr S X H0 H locs) {v : Int32} (hdg : decode cc pc = .ok (.putfield 108, 3)) (kk : ∀ (H1 : Heap) (locs1 : List Loc), rB G A adr S (m2 X 22 0 v) H0 H1 locs1 → W p l e R s m args below meth c H1 locs1 cells slots Q (F0 m (pc + 3) ls (rest))) : W p l e R s m args below meth c H locs cells slots Q (F0 m pc ls (.int v :: .ref (adr 0) :: rest)) := gw_put F hK hR 0 rfl rfl inX7 tyX7 tyX7_ok nmX7 22 (by decide) fl_X7_108 rfl (ty := .int) rfl rfl rfl (Nat.le_of_ble_eq_true rfl) hdg (fun H1 locs1 hB => kk H1 locs1 (gw_B.to hB rcel_p22))
theorem rg_23 (F : gw_F p m c cc s args RX7) (hK : gw_K G s) (hR : rB G A adr S X H0 H locs) (hdg : decode cc pc = .ok (.getfield 57, 3)) (kk : W p l e R s m args below meth c H locs cells slots Q (F0 m (pc + 3) ls (.ref (adr 23) :: rest))) : W p l e R s m args below meth c H locs cells slots Q (F0 m pc ls (.ref (adr 0) :: rest)) := gw_get F hK hR.1 0 rfl rfl inX7 23 (by decide) fl_X7_57 rfl hdg kk
theorem ri_23 (F : gw_F p m c cc s args RX7) (hK : gw_K G s) (hR : rB G A adr S X H0 H locs) {j : Nat} (hj : j < 300) (hdg : decode cc pc = .ok (.iaload, 1)) (kk : W p l e R s m args below meth c H locs cells slots Q (F0 m (pc + 1) ls (.int (X 23 j) :: rest))) : W p l e R s m args below meth c H locs cells slots Q (F0 m pc ls (.int (nI j) :: .ref (adr 23) :: rest)) := by
  refine gw_iald F hK hR.1 23 (N := 300) (f := X 23) rfl (vp_in_nI hj (by decide)) hdg ?_
  rw [nI_clamp (by omega)]
  exact kk
theorem rs_23 (F : gw_F p m c cc s args RX7) (hK : gw_K G s) (hR : rB G A adr S X H0 H locs) {j : Nat} {x : Int32} (hj : j < 300) (hdg : decode cc pc = .ok (.iastore, 1)) (kk : ∀ (H1 : Heap) (locs1 : List Loc), rB G A adr S (m2 X 23 j x) H0 H1 locs1 → W p l e R s m args below meth c H1 locs1 cells slots Q (F0 m (pc + 1) ls (rest))) : W p l e R s m args below meth c H locs cells slots Q (F0 m pc ls (.int x :: .int (nI j) :: .ref (adr 23) :: rest)) := by
  refine gw_iast F hK hR 23 (N := 300) (f := X 23) rfl (vp_in_nI hj (by decide)) hdg (fun H1 locs1 hB => ?_)
  rw [nI_clamp (by omega)] at hB
  exact kk H1 locs1 (gw_B.to hB (rcel_X 23 (by decide) (by decide)))
theorem rg_24 (F : gw_F p m c cc s args RX7) (hK : gw_K G s) (hR : rB G A adr S X H0 H locs) (hdg : decode cc pc = .ok (.getfield 60, 3)) (kk : W p l e R s m args below meth c H locs cells slots Q (F0 m (pc + 3) ls (.ref (adr 24) :: rest))) : W p l e R s m args below meth c H locs cells slots Q (F0 m pc ls (.ref (adr 0) :: rest)) := gw_get F hK hR.1 0 rfl rfl inX7 24 (by decide) fl_X7_60 rfl hdg kk
theorem ri_24 (F : gw_F p m c cc s args RX7) (hK : gw_K G s) (hR : rB G A adr S X H0 H locs) {j : Nat} (hj : j < 300) (hdg : decode cc pc = .ok (.iaload, 1)) (kk : W p l e R s m args below meth c H locs cells slots Q (F0 m (pc + 1) ls (.int (X 24 j) :: rest))) : W p l e R s m args below meth c H locs cells slots Q (F0 m pc ls (.int (nI j) :: .ref (adr 24) :: rest)) := by
  refine gw_iald F hK hR.1 24 (N := 300) (f := X 24) rfl (vp_in_nI hj (by decide)) hdg ?_
  rw [nI_clamp (by omega)]
  exact kk
theorem rs_24 (F : gw_F p m c cc s args RX7) (hK : gw_K G s) (hR : rB G A adr S X H0 H locs) {j : Nat} {x : Int32} (hj : j < 300) (hdg : decode cc pc = .ok (.iastore, 1)) (kk : ∀ (H1 : Heap) (locs1 : List Loc), rB G A adr S (m2 X 24 j x) H0 H1 locs1 → W p l e R s m args below meth c H1 locs1 cells slots Q (F0 m (pc + 1) ls (rest))) : W p l e R s m args below meth c H locs cells slots Q (F0 m pc ls (.int x :: .int (nI j) :: .ref (adr 24) :: rest)) := by
  refine gw_iast F hK hR 24 (N := 300) (f := X 24) rfl (vp_in_nI hj (by decide)) hdg (fun H1 locs1 hB => ?_)
  rw [nI_clamp (by omega)] at hB
  exact kk H1 locs1 (gw_B.to hB (rcel_X 24 (by decide) (by decide)))
theorem rg_25 (F : gw_F p m c cc s args RX7) (hK : gw_K G s) (hR : rB G A adr S X H0 H locs) (hdg : decode cc pc = .ok (.getfield 63, 3)) (kk : W p l e R s m args below meth c H locs cells slots Q (F0 m (pc + 3) ls (.ref (adr 25) :: rest))) : W p l e R s m args below meth c H locs cells slots Q (F0 m pc ls (.ref (adr 0) :: rest)) := gw_get F hK hR.1 0 rfl rfl inX7 25 (by decide) fl_X7_63 rfl hdg kk
theorem ri_25 (F : gw_F p m c cc s args RX7) (hK : gw_K G s) (hR : rB G A adr S X H0 H locs) {j : Nat} (hj : j < 300) (hdg : decode cc pc = .ok (.iaload, 1)) (kk : W p l e R s m args below meth c H locs cells slots Q (F0 m (pc + 1) ls (.int (X 25 j) :: rest))) : W p l e R s m args below meth c H locs cells slots Q (F0 m pc ls (.int (nI j) :: .ref (adr 25) :: rest)) := by
  refine gw_iald F hK hR.1 25 (N := 300) (f := X 25) rfl (vp_in_nI hj (by decide)) hdg ?_
  rw [nI_clamp (by omega)]
  exact kk
theorem rs_25 (F : gw_F p m c cc s args RX7) (hK : gw_K G s) (hR : rB G A adr S X H0 H locs) {j : Nat} {x : Int32} (hj : j < 300) (hdg : decode cc pc = .ok (.iastore, 1)) (kk : ∀ (H1 : Heap) (locs1 : List Loc), rB G A adr S (m2 X 25 j x) H0 H1 locs1 → W p l e R s m args below meth c H1 locs1 cells slots Q (F0 m (pc + 1) ls (rest))) : W p l e R s m args below meth c H locs cells slots Q (F0 m pc ls (.int x :: .int (nI j) :: .ref (adr 25) :: rest)) := by
  refine gw_iast F hK hR 25 (N := 300) (f := X 25) rfl (vp_in_nI hj (by decide)) hdg (fun H1 locs1 hB => ?_)
  rw [nI_clamp (by omega)] at hB
  exact kk H1 locs1 (gw_B.to hB (rcel_X 25 (by decide) (by decide)))
theorem rg_26 (F : gw_F p m c cc s args RX7) (hK : gw_K G s) (hR : rB G A adr S X H0 H locs) (hdg : decode cc pc = .ok (.getfield 66, 3)) (kk : W p l e R s m args below meth c H locs cells slots Q (F0 m (pc + 3) ls (.ref (adr 26) :: rest))) : W p l e R s m args below meth c H locs cells slots Q (F0 m pc ls (.ref (adr 0) :: rest)) := gw_get F hK hR.1 0 rfl rfl inX7 26 (by decide) fl_X7_66 rfl hdg kk
theorem ri_26 (F : gw_F p m c cc s args RX7) (hK : gw_K G s) (hR : rB G A adr S X H0 H locs) {j : Nat} (hj : j < 300) (hdg : decode cc pc = .ok (.iaload, 1)) (kk : W p l e R s m args below meth c H locs cells slots Q (F0 m (pc + 1) ls (.int (X 26 j) :: rest))) : W p l e R s m args below meth c H locs cells slots Q (F0 m pc ls (.int (nI j) :: .ref (adr 26) :: rest)) := by
  refine gw_iald F hK hR.1 26 (N := 300) (f := X 26) rfl (vp_in_nI hj (by decide)) hdg ?_
  rw [nI_clamp (by omega)]
  exact kk
theorem rs_26 (F : gw_F p m c cc s args RX7) (hK : gw_K G s) (hR : rB G A adr S X H0 H locs) {j : Nat} {x : Int32} (hj : j < 300) (hdg : decode cc pc = .ok (.iastore, 1)) (kk : ∀ (H1 : Heap) (locs1 : List Loc), rB G A adr S (m2 X 26 j x) H0 H1 locs1 → W p l e R s m args below meth c H1 locs1 cells slots Q (F0 m (pc + 1) ls (rest))) : W p l e R s m args below meth c H locs cells slots Q (F0 m pc ls (.int x :: .int (nI j) :: .ref (adr 26) :: rest)) := by
  refine gw_iast F hK hR 26 (N := 300) (f := X 26) rfl (vp_in_nI hj (by decide)) hdg (fun H1 locs1 hB => ?_)
  rw [nI_clamp (by omega)] at hB
  exact kk H1 locs1 (gw_B.to hB (rcel_X 26 (by decide) (by decide)))
theorem rg_27 (F : gw_F p m c cc s args RX7) (hK : gw_K G s) (hR : rB G A adr S X H0 H locs) (hdg : decode cc pc = .ok (.getfield 69, 3)) (kk : W p l e R s m args below meth c H locs cells slots Q (F0 m (pc + 3) ls (.ref (adr 27) :: rest))) : W p l e R s m args below meth c H locs cells slots Q (F0 m pc ls (.ref (adr 0) :: rest)) := gw_get F hK hR.1 0 rfl rfl inX7 27 (by decide) fl_X7_69 rfl hdg kk
theorem ri_27 (F : gw_F p m c cc s args RX7) (hK : gw_K G s) (hR : rB G A adr S X H0 H locs) {j : Nat} (hj : j < 300) (hdg : decode cc pc = .ok (.iaload, 1)) (kk : W p l e R s m args below meth c H locs cells slots Q (F0 m (pc + 1) ls (.int (X 27 j) :: rest))) : W p l e R s m args below meth c H locs cells slots Q (F0 m pc ls (.int (nI j) :: .ref (adr 27) :: rest)) := by
  refine gw_iald F hK hR.1 27 (N := 300) (f := X 27) rfl (vp_in_nI hj (by decide)) hdg ?_
  rw [nI_clamp (by omega)]
  exact kk
theorem rs_27 (F : gw_F p m c cc s args RX7) (hK : gw_K G s) (hR : rB G A adr S X H0 H locs) {j : Nat} {x : Int32} (hj : j < 300) (hdg : decode cc pc = .ok (.iastore, 1)) (kk : ∀ (H1 : Heap) (locs1 : List Loc), rB G A adr S (m2 X 27 j x) H0 H1 locs1 → W p l e R s m args below meth c H1 locs1 cells slots Q (F0 m (pc + 1) ls (rest))) : W p l e R s m args below meth c H locs cells slots Q (F0 m pc ls (.int x :: .int (nI j) :: .ref (adr 27) :: rest)) := by
  refine gw_iast F hK hR 27 (N := 300) (f := X 27) rfl (vp_in_nI hj (by decide)) hdg (fun H1 locs1 hB => ?_)
  rw [nI_clamp (by omega)] at hB
  exact kk H1 locs1 (gw_B.to hB (rcel_X 27 (by decide) (by decide)))
theorem rg_28 (F : gw_F p m c cc s args RX7) (hK : gw_K G s) (hR : rB G A adr S X H0 H locs) (hdg : decode cc pc = .ok (.getfield 72, 3)) (kk : W p l e R s m args below meth c H locs cells slots Q (F0 m (pc + 3) ls (.ref (adr 28) :: rest))) : W p l e R s m args below meth c H locs cells slots Q (F0 m pc ls (.ref (adr 0) :: rest)) := gw_get F hK hR.1 0 rfl rfl inX7 28 (by decide) fl_X7_72 rfl hdg kk
theorem ri_28 (F : gw_F p m c cc s args RX7) (hK : gw_K G s) (hR : rB G A adr S X H0 H locs) {j : Nat} (hj : j < 300) (hdg : decode cc pc = .ok (.iaload, 1)) (kk : W p l e R s m args below meth c H locs cells slots Q (F0 m (pc + 1) ls (.int (X 28 j) :: rest))) : W p l e R s m args below meth c H locs cells slots Q (F0 m pc ls (.int (nI j) :: .ref (adr 28) :: rest)) := by
  refine gw_iald F hK hR.1 28 (N := 300) (f := X 28) rfl (vp_in_nI hj (by decide)) hdg ?_
  rw [nI_clamp (by omega)]
  exact kk
theorem rs_28 (F : gw_F p m c cc s args RX7) (hK : gw_K G s) (hR : rB G A adr S X H0 H locs) {j : Nat} {x : Int32} (hj : j < 300) (hdg : decode cc pc = .ok (.iastore, 1)) (kk : ∀ (H1 : Heap) (locs1 : List Loc), rB G A adr S (m2 X 28 j x) H0 H1 locs1 → W p l e R s m args below meth c H1 locs1 cells slots Q (F0 m (pc + 1) ls (rest))) : W p l e R s m args below meth c H locs cells slots Q (F0 m pc ls (.int x :: .int (nI j) :: .ref (adr 28) :: rest)) := by
  refine gw_iast F hK hR 28 (N := 300) (f := X 28) rfl (vp_in_nI hj (by decide)) hdg (fun H1 locs1 hB => ?_)
  rw [nI_clamp (by omega)] at hB
  exact kk H1 locs1 (gw_B.to hB (rcel_X 28 (by decide) (by decide)))
theorem rg_29 (F : gw_F p m c cc s args RX7) (hK : gw_K G s) (hR : rB G A adr S X H0 H locs) (hdg : decode cc pc = .ok (.getfield 75, 3)) (kk : W p l e R s m args below meth c H locs cells slots Q (F0 m (pc + 3) ls (.ref (adr 29) :: rest))) : W p l e R s m args below meth c H locs cells slots Q (F0 m pc ls (.ref (adr 0) :: rest)) := gw_get F hK hR.1 0 rfl rfl inX7 29 (by decide) fl_X7_75 rfl hdg kk
theorem ri_29 (F : gw_F p m c cc s args RX7) (hK : gw_K G s) (hR : rB G A adr S X H0 H locs) {j : Nat} (hj : j < 3000) (hdg : decode cc pc = .ok (.iaload, 1)) (kk : W p l e R s m args below meth c H locs cells slots Q (F0 m (pc + 1) ls (.int (X 29 j) :: rest))) : W p l e R s m args below meth c H locs cells slots Q (F0 m pc ls (.int (nI j) :: .ref (adr 29) :: rest)) := by
  refine gw_iald F hK hR.1 29 (N := 3000) (f := X 29) rfl (vp_in_nI hj (by decide)) hdg ?_
  rw [nI_clamp (by omega)]
  exact kk
theorem rs_29 (F : gw_F p m c cc s args RX7) (hK : gw_K G s) (hR : rB G A adr S X H0 H locs) {j : Nat} {x : Int32} (hj : j < 3000) (hdg : decode cc pc = .ok (.iastore, 1)) (kk : ∀ (H1 : Heap) (locs1 : List Loc), rB G A adr S (m2 X 29 j x) H0 H1 locs1 → W p l e R s m args below meth c H1 locs1 cells slots Q (F0 m (pc + 1) ls (rest))) : W p l e R s m args below meth c H locs cells slots Q (F0 m pc ls (.int x :: .int (nI j) :: .ref (adr 29) :: rest)) := by
  refine gw_iast F hK hR 29 (N := 3000) (f := X 29) rfl (vp_in_nI hj (by decide)) hdg (fun H1 locs1 hB => ?_)
  rw [nI_clamp (by omega)] at hB
  exact kk H1 locs1 (gw_B.to hB (rcel_X 29 (by decide) (by decide)))
theorem rg_30 (F : gw_F p m c cc s args RX7) (hK : gw_K G s) (hR : rB G A adr S X H0 H locs) (hdg : decode cc pc = .ok (.getfield 78, 3)) (kk : W p l e R s m args below meth c H locs cells slots Q (F0 m (pc + 3) ls (.ref (adr 30) :: rest))) : W p l e R s m args below meth c H locs cells slots Q (F0 m pc ls (.ref (adr 0) :: rest)) := gw_get F hK hR.1 0 rfl rfl inX7 30 (by decide) fl_X7_78 rfl hdg kk
theorem ri_30 (F : gw_F p m c cc s args RX7) (hK : gw_K G s) (hR : rB G A adr S X H0 H locs) {j : Nat} (hj : j < 3000) (hdg : decode cc pc = .ok (.iaload, 1)) (kk : W p l e R s m args below meth c H locs cells slots Q (F0 m (pc + 1) ls (.int (X 30 j) :: rest))) : W p l e R s m args below meth c H locs cells slots Q (F0 m pc ls (.int (nI j) :: .ref (adr 30) :: rest)) := by
  refine gw_iald F hK hR.1 30 (N := 3000) (f := X 30) rfl (vp_in_nI hj (by decide)) hdg ?_
  rw [nI_clamp (by omega)]
  exact kk
theorem rs_30 (F : gw_F p m c cc s args RX7) (hK : gw_K G s) (hR : rB G A adr S X H0 H locs) {j : Nat} {x : Int32} (hj : j < 3000) (hdg : decode cc pc = .ok (.iastore, 1)) (kk : ∀ (H1 : Heap) (locs1 : List Loc), rB G A adr S (m2 X 30 j x) H0 H1 locs1 → W p l e R s m args below meth c H1 locs1 cells slots Q (F0 m (pc + 1) ls (rest))) : W p l e R s m args below meth c H locs cells slots Q (F0 m pc ls (.int x :: .int (nI j) :: .ref (adr 30) :: rest)) := by
  refine gw_iast F hK hR 30 (N := 3000) (f := X 30) rfl (vp_in_nI hj (by decide)) hdg (fun H1 locs1 hB => ?_)
  rw [nI_clamp (by omega)] at hB
  exact kk H1 locs1 (gw_B.to hB (rcel_X 30 (by decide) (by decide)))
theorem rg_31 (F : gw_F p m c cc s args RX7) (hK : gw_K G s) (hR : rB G A adr S X H0 H locs) (hdg : decode cc pc = .ok (.getfield 115, 3)) (kk : W p l e R s m args below meth c H locs cells slots Q (F0 m (pc + 3) ls (.int (X 31 0) :: rest))) : W p l e R s m args below meth c H locs cells slots Q (F0 m pc ls (.ref (adr 0) :: rest)) := gw_get F hK hR.1 0 rfl rfl inX7 31 (by decide) fl_X7_115 rfl hdg kk
theorem rp_31 (F : gw_F p m c cc s args RX7) (hK : gw_K G s) (hR : rB G A adr S X H0 H locs) {v : Int32} (hdg : decode cc pc = .ok (.putfield 115, 3)) (kk : ∀ (H1 : Heap) (locs1 : List Loc), rB G A adr S (m2 X 31 0 v) H0 H1 locs1 → W p l e R s m args below meth c H1 locs1 cells slots Q (F0 m (pc + 3) ls (rest))) : W p l e R s m args below meth c H locs cells slots Q (F0 m pc ls (.int v :: .ref (adr 0) :: rest)) := gw_put F hK hR 0 rfl rfl inX7 tyX7 tyX7_ok nmX7 31 (by decide) fl_X7_115 rfl (ty := .int) rfl rfl rfl (Nat.le_of_ble_eq_true rfl) hdg (fun H1 locs1 hB => kk H1 locs1 (gw_B.to hB rcel_p31))
theorem rg_32 (F : gw_F p m c cc s args RX7) (hK : gw_K G s) (hR : rB G A adr S X H0 H locs) (hdg : decode cc pc = .ok (.getfield 182, 3)) (kk : W p l e R s m args below meth c H locs cells slots Q (F0 m (pc + 3) ls (.int (X 32 0) :: rest))) : W p l e R s m args below meth c H locs cells slots Q (F0 m pc ls (.ref (adr 0) :: rest)) := gw_get F hK hR.1 0 rfl rfl inX7 32 (by decide) fl_X7_182 rfl hdg kk
theorem rp_32 (F : gw_F p m c cc s args RX7) (hK : gw_K G s) (hR : rB G A adr S X H0 H locs) {v : Int32} (hdg : decode cc pc = .ok (.putfield 182, 3)) (kk : ∀ (H1 : Heap) (locs1 : List Loc), rB G A adr S (m2 X 32 0 v) H0 H1 locs1 → W p l e R s m args below meth c H1 locs1 cells slots Q (F0 m (pc + 3) ls (rest))) : W p l e R s m args below meth c H locs cells slots Q (F0 m pc ls (.int v :: .ref (adr 0) :: rest)) := gw_put F hK hR 0 rfl rfl inX7 tyX7 tyX7_ok nmX7 32 (by decide) fl_X7_182 rfl (ty := .int) rfl rfl rfl (Nat.le_of_ble_eq_true rfl) hdg (fun H1 locs1 hB => kk H1 locs1 (gw_B.to hB rcel_p32))
theorem rg_33 (F : gw_F p m c cc s args RX7) (hK : gw_K G s) (hR : rB G A adr S X H0 H locs) (hdg : decode cc pc = .ok (.getfield 81, 3)) (kk : W p l e R s m args below meth c H locs cells slots Q (F0 m (pc + 3) ls (.ref (adr 33) :: rest))) : W p l e R s m args below meth c H locs cells slots Q (F0 m pc ls (.ref (adr 0) :: rest)) := gw_get F hK hR.1 0 rfl rfl inX7 33 (by decide) fl_X7_81 rfl hdg kk
theorem ri_33 (F : gw_F p m c cc s args RX7) (hK : gw_K G s) (hR : rB G A adr S X H0 H locs) {j : Nat} (hj : j < 48) (hdg : decode cc pc = .ok (.baload, 1)) (kk : W p l e R s m args below meth c H locs cells slots Q (F0 m (pc + 1) ls (.int (X 33 j) :: rest))) : W p l e R s m args below meth c H locs cells slots Q (F0 m pc ls (.int (nI j) :: .ref (adr 33) :: rest)) := by
  refine gw_zald F hK hR.1 33 (N := 48) (f := X 33) rfl (vp_in_nI hj (by decide)) hdg ?_
  rw [nI_clamp (by omega)]
  exact kk
theorem rs_33 (F : gw_F p m c cc s args RX7) (hK : gw_K G s) (hR : rB G A adr S X H0 H locs) {j : Nat} {x : Int32} (hj : j < 48) (hx : x = 0 ∨ x = 1) (hdg : decode cc pc = .ok (.bastore, 1)) (kk : ∀ (H1 : Heap) (locs1 : List Loc), rB G A adr S (m2 X 33 j x) H0 H1 locs1 → W p l e R s m args below meth c H1 locs1 cells slots Q (F0 m (pc + 1) ls (rest))) : W p l e R s m args below meth c H locs cells slots Q (F0 m pc ls (.int x :: .int (nI j) :: .ref (adr 33) :: rest)) := by
  refine gw_zast F hK hR 33 (N := 48) (f := X 33) rfl (vp_in_nI hj (by decide)) hdg (fun H1 locs1 hB => ?_)
  rw [nb_b hx, nI_clamp (by omega)] at hB
  exact kk H1 locs1 (gw_B.to hB (rcel_X 33 (by decide) (by decide)))
end RW
end
section
/-! CONTRACTS over the world by names, and the rows of calls -/
def gW (G : gw_G) (A : Nat → Prop) (adr : Nat → Nat) (cel : Nat → Option va_E) (U : State) : Prop := gw_P G.1 adr cel U.heap ∧ gw_D A adr cel ∧ gw_K G U
theorem gW.blind {G : gw_G} {A : Nat → Prop} {adr : Nat → Nat} {cel : Nat → Option va_E} {as : List Value} : FrameBlind (va_Pc as (gW G A adr cel)) := fun a U g mk q => by
  obtain ⟨q0, q1, q2, q3⟩ := q
  exact ⟨q0, q1, q2, gw_K.moved (u := U) (U := U.calling g mk a) (Vm.Alike.refl U.vm) q3⟩
def gQ (A : Nat → Prop) (Post : State → Prop) (res : Option Value) : Array Value → State → Outcome → State → Prop := fun _ st oc t => (oc = .returned res ∧ Post t) ∧ va_F A st t
def gm (l : Launch) (y : MethodName) (b : ByteArray) (n : Nat) (r : Option FieldType) (rm : Room) (mc ms : Nat) (A : Nat → Prop) (as : List Value) (Pre Post : State → Prop) (res : Option Value) : Prop :=
  Met l y (gw_w y b n r) rm (va_Pc as Pre) (gQ A Post res) mc ms A
/-- the words of a call site -/
def gw_cv (own : String) (index : Nat) (C : String) (y : MethodName) (b : ByteArray) (n : Nat) (r : Option FieldType) (k : Nat) : Prop :=
  Cond.methodLink own index y ∈ gwA ∧ Cond.instanceMethod y ∈ gwA ∧ Cond.selects C y y ∈ gwA ∧ Cond.initialized C ∈ gwA ∧ Cond.code y b n r ∈ gwA ∧ y.cls = C ∧ y.cls ≠ "java/lang/invoke/MethodHandle" ∧ y.cls ≠ "java/lang/invoke/VarHandle" ∧ (parseMethodDescriptor y.desc).map (fun d => d.parameters.length) = some k
def gw_cs (own : String) (index : Nat) (y : MethodName) (b : ByteArray) (n : Nat) (r : Option FieldType) (k : Nat) : Prop :=
  Cond.methodLink own index y ∈ gwA ∧ Cond.static y ∈ gwA ∧ Cond.initialized y.cls ∈ gwA ∧ Cond.code y b n r ∈ gwA ∧ y.cls ≠ "java/lang/invoke/MethodHandle" ∧ y.cls ≠ "java/lang/invoke/VarHandle" ∧ (parseMethodDescriptor y.desc).map (fun d => d.parameters.length) = some k
section GCL
variable {p : Program} {l : Launch} {e : Env} {R : Room} {s : State} {m : MethodId} {args : Array Value} {below : List Frame} {meth : Method} {c : Code} {H : Heap} {locs : List Loc} {cells slots : Nat} {Q : State → Prop}
variable {cc : ByteArray} {pc : Nat} {ls : Array Slot} {rest st0 : List Value} {G : gw_G} {A A0 : Nat → Prop} {H0 : Heap} {adr : Nat → Nat} {cel cel' : Nat → Option va_E} {own C : String}
variable {y : MethodName} {b : ByteArray} {n nL index k mc ms : Nat} {r : Option FieldType} {rm : Room} {As : List Value} {res : Option Value} {Pre Post : State → Prop} {a : Array Value}
theorem gm_call (hr : va_Run p l e R s m args below meth c H locs cells slots mc ms (F0 m pc ls st0) rest (gQ A Post res a) A) (hS : va_S A0 H0 H locs) (hA : ∀ q, A q → A0 q)
    (kk : ∀ (t : State) (H1 : Heap) (locs1 : List Loc), t.heap = H1 → s.vm.Alike t.vm → Post t → H.size ≤ H1.size → (∀ q : Nat, q < H.size → ¬ A q → H1[q]? = H[q]?) → va_S A0 H0 H1 locs1 → W p l e R s m args below meth c H1 locs1 (cells + mc) (slots + ms) Q (F0 m (pc + 3) ls (res.toList ++ rest))) : W p l e R s m args below meth c H locs cells slots Q (F0 m pc ls st0) := by
  intro T hT X
  obtain ⟨v, st₀, t, T', L, h0, X', hL, e1, e2, ⟨⟨hv, hp⟩, hz, hk⟩, st⟩ := hr T hT X
  cases hv
  rw [h0] at hz hk
  obtain ⟨t2, a1, b1⟩ := kk t T'.heap (locs ++ L) e1.symm (by rw [← e2]; exact X'.warmed.alike) hp (by rw [e1]; exact hz) (fun q h1 h2 => by rw [e1]; exact hk q h1 h2)
    ⟨Nat.le_trans hS.1 (by rw [e1]; exact hz), fun q h1 h2 => by rw [e1, hk q (Nat.lt_of_lt_of_le h1 hS.1) (fun z => h2 (hA q z))]; exact hS.2.1 q h1 h2, fun q hq => by
      rcases List.mem_append.mp hq with h | h
      · exact hS.2.2 q h
      · exact hA _ (hL q h)⟩ T' rfl X'
  exact ⟨t2, st t2 a1, b1⟩
/-- a call within one world, its names staying -/
theorem gcV (F : gw_F p m c cc s args own) (hK : gw_K G s) (hB : gw_B G A adr cel H0 H locs) (hml : c.maxLocals = nL) (cv : gw_cv own index C y b n r k) {o ci : Nat} {fs : List Value} {q : vw_C} (ho : cel o = some (.inr (ci, fs))) (hq : vwCl[ci]? = some q) (hqC : q.1 = C)
    (hM : gm l y b n r rm 0 0 A (.ref (adr o) :: As) (gW G A adr cel) (gW G A adr cel') res) (hrm : rm.cells = 0 ∧ rm.slots = 0) (hrr : rm.frames + 1 ≤ R.frames ∧ 8 + (n + 11) + rm.locals ≤ R.locals) (hn : As.length = k) (hst : st0 = As.reverse ++ .ref (adr o) :: rest) (hsize : ls.size = nL) (hroom : (rest.map fun v => v.category).sum ≤ 8) (hdg : decode cc pc = .ok (.invokevirtual index, 3)) (hf : cells ≤ R.cells ∧ slots ≤ R.slots)
    (kk : ∀ (H1 : Heap) (locs1 : List Loc), gw_B G A adr cel' H0 H1 locs1 → W p l e R s m args below meth c H1 locs1 cells slots Q (F0 m (pc + 3) ls (res.toList ++ rest))) : W p l e R s m args below meth c H locs cells slots Q (F0 m pc ls st0) := by
  subst hqC
  obtain ⟨h1, h2, h3, h4, h5, h6⟩ := cv
  refine gm_call (va_runV (As := As) (rest := rest) (b := adr o) ⟨F.1, F.2.1, hml, F.2.2.1, F.2.2.2⟩ hM (gw_cwV k F.2.2.2 h1 h2 h3 h4 h5 hrm.1 hrm.2 h6 hrr) ⟨gW.blind, gw_recv hK hB.1 ho hq, fun U hU hW => ⟨rfl, by rw [hU]; exact hB.1, hB.2.1, gw_K.moved hW.alike hK⟩⟩ rfl hn hsize hst (lv_room hroom) hdg hf) hB.2.2 (fun _ h => h) (fun t H1 locs1 ht hvm hp _ _ hS => ?_)
  exact kk H1 locs1 ⟨by rw [← ht]; exact hp.1, hp.2.1, hS⟩
theorem gcVi {v : Int32} (F : gw_F p m c cc s args own) (hK : gw_K G s) (hB : gw_B G A adr cel H0 H locs) (hml : c.maxLocals = nL) (cv : gw_cv own index C y b n r k) {o ci : Nat} {fs : List Value} {q : vw_C} (ho : cel o = some (.inr (ci, fs))) (hq : vwCl[ci]? = some q) (hqC : q.1 = C)
    (hM : gm l y b n r rm 0 0 A (.ref (adr o) :: As) (gW G A adr cel) (gW G A adr cel') (some (.int v))) (hrm : rm.cells = 0 ∧ rm.slots = 0) (hrr : rm.frames + 1 ≤ R.frames ∧ 8 + (n + 11) + rm.locals ≤ R.locals) (hn : As.length = k) (hst : st0 = As.reverse ++ .ref (adr o) :: rest) (hsize : ls.size = nL) (hroom : (rest.map fun v => v.category).sum ≤ 8) (hdg : decode cc pc = .ok (.invokevirtual index, 3)) (hf : cells ≤ R.cells ∧ slots ≤ R.slots)
    (kk : ∀ (H1 : Heap) (locs1 : List Loc), gw_B G A adr cel' H0 H1 locs1 → W p l e R s m args below meth c H1 locs1 cells slots Q (F0 m (pc + 3) ls (.int v :: rest))) : W p l e R s m args below meth c H locs cells slots Q (F0 m pc ls st0) :=
  gcV F hK hB hml cv ho hq hqC hM hrm hrr hn hst hsize hroom hdg hf kk
theorem gcVv (F : gw_F p m c cc s args own) (hK : gw_K G s) (hB : gw_B G A adr cel H0 H locs) (hml : c.maxLocals = nL) (cv : gw_cv own index C y b n r k) {o ci : Nat} {fs : List Value} {q : vw_C} (ho : cel o = some (.inr (ci, fs))) (hq : vwCl[ci]? = some q) (hqC : q.1 = C)
    (hM : gm l y b n r rm 0 0 A (.ref (adr o) :: As) (gW G A adr cel) (gW G A adr cel') none) (hrm : rm.cells = 0 ∧ rm.slots = 0) (hrr : rm.frames + 1 ≤ R.frames ∧ 8 + (n + 11) + rm.locals ≤ R.locals) (hn : As.length = k) (hst : st0 = As.reverse ++ .ref (adr o) :: rest) (hsize : ls.size = nL) (hroom : (rest.map fun v => v.category).sum ≤ 8) (hdg : decode cc pc = .ok (.invokevirtual index, 3)) (hf : cells ≤ R.cells ∧ slots ≤ R.slots)
    (kk : ∀ (H1 : Heap) (locs1 : List Loc), gw_B G A adr cel' H0 H1 locs1 → W p l e R s m args below meth c H1 locs1 cells slots Q (F0 m (pc + 3) ls rest)) : W p l e R s m args below meth c H locs cells slots Q (F0 m pc ls st0) :=
  gcV F hK hB hml cv ho hq hqC hM hrm hrr hn hst hsize hroom hdg hf kk
/-- a static method of ints alone -/
def gs (l : Launch) (y : MethodName) (b : ByteArray) (n : Nat) (r : Option FieldType) (rm : Room) (as : List Value) (v : Int32) : Prop := Met l y (gw_w y b n r) rm (va_Pc as (fun _ => True)) (vp_Si (fun x => x = v)) 0 0 (fun _ => False)
theorem gcS {v : Int32} (F : gw_F p m c cc s args own) (hml : c.maxLocals = nL) (cv : gw_cs own index y b n r k) (hM : gs l y b n r rm As v) (hrm : rm.cells = 0 ∧ rm.slots = 0) (hrr : rm.frames + 1 ≤ R.frames ∧ 8 + (n + 11) + rm.locals ≤ R.locals) (hn : As.length = k) (hst : st0 = As.reverse ++ rest) (hsize : ls.size = nL) (hroom : (rest.map fun v => v.category).sum ≤ 8) (hdg : decode cc pc = .ok (.invokestatic index, 3)) (hf : cells ≤ R.cells ∧ slots ≤ R.slots)
    (kk : W p l e R s m args below meth c H locs cells slots Q (F0 m (pc + 3) ls (.int v :: rest))) : W p l e R s m args below meth c H locs cells slots Q (F0 m pc ls st0) := by
  obtain ⟨h1, h2, h4, h5, h6⟩ := cv
  refine vp_callSi (W.runS (As := As) (rest := rest) ⟨F.1, F.2.1, hml, F.2.2.1, F.2.2.2⟩ hM (gw_cwS k F.2.2.2 h1 h2 h4 h5 hrm.1 hrm.2 h6 hrr) ⟨fun a U g mk q => q, fun U hU hW => ⟨rfl, trivial⟩⟩ rfl hn hsize hst (lv_room hroom) hdg hf) (fun r hr => ?_)
  rw [hr]
  exact kk
/-- a method's entry -/
theorem gm_of {as : List Value} (hy : plainName y.cls = true) (hyc : y.cls = own) (hlen : (lg_sl as).length ≤ n)
    (body : ∀ (p : Program) (e : Env) (s : State) (m : MethodId) (below : List Frame) (meth : Method) (c : Code) (ls : Array Slot), gw_F p m c b s as.toArray own → c.maxLocals = n → meth.sig.returnType = r → meth.locks = false → meth.name = y.name → gw_K G s → gw_B G A adr cel s.heap s.heap [] → lv_has ls n (lv_args 0 as) → W p l e rm s m as.toArray below meth c s.heap [] 0 0 (MQ below (gQ A Post res) as.toArray s mc ms A) (F0 m 0 ls [])) : gm l y b n r rm mc ms A as (gW G A adr cel) Post res := by
  refine Met.ofW (cc := b) (maxL := n) (ret := r) hy rfl ?_
  intro p e s m args below meth c s₁ B hml hv
  obtain ⟨rfl, hP, hD, hK⟩ := hv
  have hts := atoms_spec (ws := gw_w y b n r) B.pre
  have hown : s.vm.findClass own = some m.cls := by rw [← hyc]; exact findClass_of_methodNamed B.named
  rw [lg_entry_eq]
  exact body p e s m below meth c _ ⟨B.exec, B.bytes, hown, fun w hw => hts w (List.mem_cons_of_mem _ hw)⟩ hml B.returns B.notSynchronized (name_of_methodNamed B.named B.method).1 hK ⟨hP, hD, va_S.rf⟩ (lv_entry as hlen)
theorem gs_of {as : List Value} {v : Int32} (hy : plainName y.cls = true) (hyc : y.cls = own) (hlen : (lg_sl as).length ≤ n)
    (body : ∀ (p : Program) (e : Env) (s : State) (m : MethodId) (below : List Frame) (meth : Method) (c : Code) (ls : Array Slot), gw_F p m c b s as.toArray own → c.maxLocals = n → meth.sig.returnType = r → meth.locks = false → lv_has ls n (lv_args 0 as) → W p l e rm s m as.toArray below meth c s.heap [] 0 0 (MQ below (vp_Si (fun x => x = v)) as.toArray s 0 0 (fun _ => False)) (F0 m 0 ls [])) : gs l y b n r rm as v := by
  refine Met.ofW (cc := b) (maxL := n) (ret := r) hy rfl ?_
  intro p e s m args below meth c s₁ B hml hv
  obtain ⟨rfl, -⟩ := hv
  have hts := atoms_spec (ws := gw_w y b n r) B.pre
  have hown : s.vm.findClass own = some m.cls := by rw [← hyc]; exact findClass_of_methodNamed B.named
  rw [lg_entry_eq]
  exact body p e s m below meth c _ ⟨B.exec, B.bytes, hown, fun w hw => hts w (List.mem_cons_of_mem _ hw)⟩ hml B.returns B.notSynchronized (lv_entry as hlen)
/-- a method's end -/
theorem gr_i {v v' : Int32} (F : gw_F p m c cc s args own) (hr : meth.sig.returnType = some .int) (hlocks : meth.locks = false) (hK : gw_K G s) (hB : gw_B G A adr cel s.heap H locs) (hdg : decode cc pc = .ok (.ireturn, 1)) (hv : v = v') (hc : cel = cel') : W p l e R s m args below meth c H locs cells slots (MQ below (gQ A (gW G A adr cel') (some (.int v'))) args s cells slots A) (F0 m pc ls [.int v]) := by
  subst hv; subst hc
  exact W.iret F.1 F.2.1 hr (fun t ht hW => ⟨⟨rfl, by rw [ht]; exact hB.1, hB.2.1, gw_K.moved hW.alike hK⟩, hB.2.2.F ht⟩) hB.2.2.2.2 hdg (hlocks := hlocks)
theorem gr_z {v v' : Int32} (F : gw_F p m c cc s args own) (hr : meth.sig.returnType = some .boolean) (hlocks : meth.locks = false) (hK : gw_K G s) (hB : gw_B G A adr cel s.heap H locs) (hdg : decode cc pc = .ok (.ireturn, 1)) (hz : v = 0 ∨ v = 1) (hv : v = v') (hc : cel = cel') : W p l e R s m args below meth c H locs cells slots (MQ below (gQ A (gW G A adr cel') (some (.int v'))) args s cells slots A) (F0 m pc ls [.int v]) := by
  subst hv; subst hc
  exact W.zret F.1 F.2.1 hr (by rcases hz with rfl | rfl <;> rfl) (fun t ht hW => ⟨⟨rfl, by rw [ht]; exact hB.1, hB.2.1, gw_K.moved hW.alike hK⟩, hB.2.2.F ht⟩) hB.2.2.2.2 hdg (hlocks := hlocks)
theorem gr_v (F : gw_F p m c cc s args own) (hr : meth.sig.returnType = none) (hlocks : meth.locks = false) (hK : gw_K G s) (hB : gw_B G A adr cel s.heap H locs) (hdg : decode cc pc = .ok (.return_, 1)) (hc : cel = cel') : W p l e R s m args below meth c H locs cells slots (MQ below (gQ A (gW G A adr cel') none) args s cells slots A) (F0 m pc ls []) := by
  subst hc
  exact W.vret F.1 F.2.1 hr (fun t ht hW => ⟨⟨rfl, by rw [ht]; exact hB.1, hB.2.1, gw_K.moved hW.alike hK⟩, hB.2.2.F ht⟩) hB.2.2.2.2 hdg (hlocks := hlocks)
theorem gs_z {v v' : Int32} (F : gw_F p m c cc s args own) (hr : meth.sig.returnType = some .boolean) (hlocks : meth.locks = false) (hdg : decode cc pc = .ok (.ireturn, 1)) (hz : v = 0 ∨ v = 1) (hv : v = v') : W p l e R s m args below meth c s.heap [] 0 0 (MQ below (vp_Si (fun x => x = v')) args s 0 0 (fun _ => False)) (F0 m pc ls [.int v]) := by
  subst hv
  exact W.zret F.1 F.2.1 hr (by rcases hz with rfl | rfl <;> rfl) (fun t ht hW => ⟨v, rfl, rfl, ht⟩) (fun q h => by cases h) hdg (hlocks := hlocks)
/-- arithmetic on numbers that are no less than 0 -/
theorem nv_iadd {x y : Nat} (hexec : p.tables.exec = Jvm.exec) (hb : c.code = cc) (hdg : decode cc pc = .ok (.iadd, 1)) (k : W p l e R s m args below meth c H locs cells slots Q (F0 m (pc + 1) ls (.int (nI (x + y)) :: rest))) : W p l e R s m args below meth c H locs cells slots Q (F0 m pc ls (.int (nI y) :: .int (nI x) :: rest)) := lv_iadd hexec hb hdg (by rw [nI_add]; exact k)
theorem nv_imul {x y : Nat} (hexec : p.tables.exec = Jvm.exec) (hb : c.code = cc) (hdg : decode cc pc = .ok (.imul, 1)) (k : W p l e R s m args below meth c H locs cells slots Q (F0 m (pc + 1) ls (.int (nI (x * y)) :: rest))) : W p l e R s m args below meth c H locs cells slots Q (F0 m pc ls (.int (nI y) :: .int (nI x) :: rest)) := lv_imul hexec hb hdg (by rw [pk_mul]; exact k)
theorem nv_isub {x y : Nat} (h : y ≤ x) (hexec : p.tables.exec = Jvm.exec) (hb : c.code = cc) (hdg : decode cc pc = .ok (.isub, 1)) (k : W p l e R s m args below meth c H locs cells slots Q (F0 m (pc + 1) ls (.int (nI (x - y)) :: rest))) : W p l e R s m args below meth c H locs cells slots Q (F0 m pc ls (.int (nI y) :: .int (nI x) :: rest)) := lv_isub hexec hb hdg (by rw [pk_sub h]; exact k)
/-- what stands on top is said otherwise -/
theorem lv_eq {x y : Int32} (h : x = y) (k : W p l e R s m args below meth c H locs cells slots Q (F0 m pc ls (.int y :: rest))) : W p l e R s m args below meth c H locs cells slots Q (F0 m pc ls (.int x :: rest)) := h ▸ k
end GCL
end
section
/-! the words of each call site -/
theorem cv_L_13 : gw_cv RL 13 RX6 yX6_made cX6_made 3 (some .int) 1 := ⟨ml_L_13, im_X6_made, se_X6_made, in_X6, co_X6_made, by decide +kernel⟩
theorem cv_X6_33 : gw_cv RX6 33 RX6 yX6_find cX6_find 2 (some (.object "ClassStarts$Kind")) 1 := ⟨ml_X6_33, im_X6_find, se_X6_find, in_X6, co_X6_find, by decide +kernel⟩
theorem cv_X6_41 : gw_cv RX6 41 RX6 yX6_keep cX6_keep 4 (some .int) 3 := ⟨ml_X6_41, im_X6_keep, se_X6_keep, in_X6, co_X6_keep, by decide +kernel⟩
theorem cv_L_17 : gw_cv RL 17 RX7 yX7_made cX7_made 2 (some .int) 1 := ⟨ml_L_17, im_X7_made, se_X7_made, in_X7, co_X7_made, by decide +kernel⟩
theorem cv_X7_87 : gw_cv RX7 87 RX7 yX7_has cX7_has 2 (some .boolean) 1 := ⟨ml_X7_87, im_X7_has, se_X7_has, in_X7, co_X7_has, by decide +kernel⟩
theorem cv_X7_91 : gw_cv RX7 91 RX7 yX7_make cX7_make 4 (some .int) 3 := ⟨ml_X7_91, im_X7_make, se_X7_make, in_X7, co_X7_make, by decide +kernel⟩
theorem cv_L_18 : gw_cv RL 18 RX6 yX6_face cX6_face 2 (some .int) 1 := ⟨ml_L_18, im_X6_face, se_X6_face, in_X6, co_X6_face, by decide +kernel⟩
theorem cv_L_22 : gw_cv RL 22 RX7 yX7_face cX7_face 2 (some .int) 1 := ⟨ml_L_22, im_X7_face, se_X7_face, in_X7, co_X7_face, by decide +kernel⟩
theorem cv_L_23 : gw_cv RL 23 RX6 yX6_bears cX6_bears 5 (some .int) 2 := ⟨ml_L_23, im_X6_bears, se_X6_bears, in_X6, co_X6_bears, by decide +kernel⟩
theorem cv_X6_48 : gw_cv RX6 48 RX2 yX2_hasFace cX2_hasFace 3 (some .boolean) 1 := ⟨ml_X6_48, im_X2_hasFace, se_X2_hasFace, in_X2, co_X2_hasFace, by decide +kernel⟩
theorem cv_X6_55 : gw_cv RX6 55 RX2 yX2_addFace cX2_addFace 2 (some .int) 1 := ⟨ml_X6_55, im_X2_addFace, se_X2_addFace, in_X2, co_X2_addFace, by decide +kernel⟩
theorem cv_L_27 : gw_cv RL 27 RX7 yX7_bears cX7_bears 5 (some .int) 2 := ⟨ml_L_27, im_X7_bears, se_X7_bears, in_X7, co_X7_bears, by decide +kernel⟩
theorem cv_L_28 : gw_cv RL 28 RX6 yX6_constant cX6_constant 5 (some .int) 3 := ⟨ml_L_28, im_X6_constant, se_X6_constant, in_X6, co_X6_constant, by decide +kernel⟩
theorem cs_X6_59 : gw_cs RX6 59 yX2_isField cX2_isField 1 (some .boolean) 1 := ⟨ml_X6_59, st_X2_isField, in_X2, co_X2_isField, by decide +kernel⟩
theorem cv_X6_62 : gw_cv RX6 62 RX2 yX2_isConstant cX2_isConstant 2 (some .boolean) 1 := ⟨ml_X6_62, im_X2_isConstant, se_X2_isConstant, in_X2, co_X2_isConstant, by decide +kernel⟩
theorem cs_X2_59 : gw_cs RX2 59 yX2_isField cX2_isField 1 (some .boolean) 1 := ⟨ml_X2_59, st_X2_isField, in_X2, co_X2_isField, by decide +kernel⟩
theorem cv_X6_65 : gw_cv RX6 65 RX2 yX2_fix cX2_fix 3 none 2 := ⟨ml_X6_65, im_X2_fix, se_X2_fix, in_X2, co_X2_fix, by decide +kernel⟩
theorem cv_L_32 : gw_cv RL 32 RX7 yX7_constant cX7_constant 4 (some .int) 3 := ⟨ml_L_32, im_X7_constant, se_X7_constant, in_X7, co_X7_constant, by decide +kernel⟩
theorem cs_X7_95 : gw_cs RX7 95 yX7_isField cX7_isField 1 (some .boolean) 1 := ⟨ml_X7_95, st_X7_isField, in_X7, co_X7_isField, by decide +kernel⟩
theorem cv_L_33 : gw_cv RL 33 RX6 yX6_act cX6_act 9 (some .int) 6 := ⟨ml_L_33, im_X6_act, se_X6_act, in_X6, co_X6_act, by decide +kernel⟩
theorem cv_X6_69 : gw_cv RX6 69 RX6 yX6_named cX6_named 5 (some (.object "ClassStarts$Kind")) 4 := ⟨ml_X6_69, im_X6_named, se_X6_named, in_X6, co_X6_named, by decide +kernel⟩
theorem cs_X6_73 : gw_cs RX6 73 yX2_isMethod cX2_isMethod 1 (some .boolean) 1 := ⟨ml_X6_73, st_X2_isMethod, in_X2, co_X2_isMethod, by decide +kernel⟩
theorem cs_X6_76 : gw_cs RX6 76 yX0_numbersFit cX0_numbersFit 4 (some .boolean) 4 := ⟨ml_X6_76, st_X0_numbersFit, in_X0, co_X0_numbersFit, by decide +kernel⟩
theorem cs_X0_31 : gw_cs RX0 31 yX2_isField cX2_isField 1 (some .boolean) 1 := ⟨ml_X0_31, st_X2_isField, in_X2, co_X2_isField, by decide +kernel⟩
theorem cs_X0_37 : gw_cs RX0 37 yX2_isCallable cX2_isCallable 1 (some .boolean) 1 := ⟨ml_X0_37, st_X2_isCallable, in_X2, co_X2_isCallable, by decide +kernel⟩
theorem cv_X6_86 : gw_cv RX6 86 RX4 yX4_append cX4_append 7 (some .int) 5 := ⟨ml_X6_86, im_X4_append, se_X4_append, in_X4, co_X4_append, by decide +kernel⟩
theorem cv_X4_24 : gw_cv RX4 24 RX4 yX4_lastGuarded cX4_lastGuarded 4 (some .int) 1 := ⟨ml_X4_24, im_X4_lastGuarded, se_X4_lastGuarded, in_X4, co_X4_lastGuarded, by decide +kernel⟩
theorem cv_X4_31 : gw_cv RX4 31 RX0 yX0_guards cX0_guards 2 (some .boolean) 1 := ⟨ml_X4_31, im_X0_guards, se_X0_guards, in_X0, co_X0_guards, by decide +kernel⟩
theorem cv_L_37 : gw_cv RL 37 RX7 yX7_act cX7_act 10 (some .int) 6 := ⟨ml_L_37, im_X7_act, se_X7_act, in_X7, co_X7_act, by decide +kernel⟩
theorem cs_X7_98 : gw_cs RX7 98 yX7_areIn cX7_areIn 4 (some .boolean) 4 := ⟨ml_X7_98, st_X7_areIn, in_X7, co_X7_areIn, by decide +kernel⟩
theorem cv_L_38 : gw_cv RL 38 RX6 yX6_run cX6_run 4 (some .int) 2 := ⟨ml_L_38, im_X6_run, se_X6_run, in_X6, co_X6_run, by decide +kernel⟩
theorem cs_X6_92 : gw_cs RX6 92 yX2_isCallable cX2_isCallable 1 (some .boolean) 1 := ⟨ml_X6_92, st_X2_isCallable, in_X2, co_X2_isCallable, by decide +kernel⟩
theorem cv_X6_95 : gw_cv RX6 95 RX3 yX3_execute cX3_execute 4 (some .int) 2 := ⟨ml_X6_95, im_X3_execute, se_X3_execute, in_X3, co_X3_execute, by decide +kernel⟩
theorem cv_X3_18 : gw_cv RX3 18 RX1 yX1_clear cX1_clear 1 none 0 := ⟨ml_X3_18, im_X1_clear, se_X1_clear, in_X1, co_X1_clear, by decide +kernel⟩
theorem cv_X3_21 : gw_cv RX3 21 RX3 yX3_want cX3_want 4 (some .int) 2 := ⟨ml_X3_21, im_X3_want, se_X3_want, in_X3, co_X3_want, by decide +kernel⟩
theorem cv_X3_41 : gw_cv RX3 41 RX3 yX3_raise cX3_raise 2 (some .int) 1 := ⟨ml_X3_41, im_X3_raise, se_X3_raise, in_X3, co_X3_raise, by decide +kernel⟩
theorem cv_X3_48 : gw_cv RX3 48 RX1 yX1_note cX1_note 3 none 2 := ⟨ml_X3_48, im_X1_note, se_X1_note, in_X1, co_X1_note, by decide +kernel⟩
theorem cv_X3_52 : gw_cv RX3 52 RX3 yX3_start cX3_start 4 (some .int) 2 := ⟨ml_X3_52, im_X3_start, se_X3_start, in_X3, co_X3_start, by decide +kernel⟩
theorem cv_X3_55 : gw_cv RX3 55 RX3 yX3_afterStart cX3_afterStart 2 (some .int) 1 := ⟨ml_X3_55, im_X3_afterStart, se_X3_afterStart, in_X3, co_X3_afterStart, by decide +kernel⟩
theorem cv_X3_105 : gw_cv RX3 105 RX0 yX0_wants cX0_wants 1 (some .boolean) 0 := ⟨ml_X3_105, im_X0_wants, se_X0_wants, in_X0, co_X0_wants, by decide +kernel⟩
theorem cv_X0_42 : gw_cv RX0 42 RX2 yX2_isConstant cX2_isConstant 2 (some .boolean) 1 := ⟨ml_X0_42, im_X2_isConstant, se_X2_isConstant, in_X2, co_X2_isConstant, by decide +kernel⟩
theorem cv_X3_114 : gw_cv RX3 114 RX3 yX3_perform cX3_perform 4 (some .int) 3 := ⟨ml_X3_114, im_X3_perform, se_X3_perform, in_X3, co_X3_perform, by decide +kernel⟩
theorem cv_X3_25 : gw_cv RX3 25 RX3 yX3_work cX3_work 9 (some .int) 3 := ⟨ml_X3_25, im_X3_work, se_X3_work, in_X3, co_X3_work, by decide +kernel⟩
theorem cv_X3_66 : gw_cv RX3 66 RX3 yX3_lookThrough cX3_lookThrough 7 (some .int) 3 := ⟨ml_X3_66, im_X3_lookThrough, se_X3_lookThrough, in_X3, co_X3_lookThrough, by decide +kernel⟩
theorem cv_X3_126 : gw_cv RX3 126 RX2 yX2_change cX2_change 3 none 2 := ⟨ml_X3_126, im_X2_change, se_X2_change, in_X2, co_X2_change, by decide +kernel⟩
theorem cv_X3_129 : gw_cv RX3 129 RX2 yX2_valueOf cX2_valueOf 2 (some .int) 1 := ⟨ml_X3_129, im_X2_valueOf, se_X2_valueOf, in_X2, co_X2_valueOf, by decide +kernel⟩
theorem cv_X3_132 : gw_cv RX3 132 RX3 yX3_readOther cX3_readOther 4 (some .int) 2 := ⟨ml_X3_132, im_X3_readOther, se_X3_readOther, in_X3, co_X3_readOther, by decide +kernel⟩
theorem cv_X3_157 : gw_cv RX3 157 RX2 yX2_isConstant cX2_isConstant 2 (some .boolean) 1 := ⟨ml_X3_157, im_X2_isConstant, se_X2_isConstant, in_X2, co_X2_isConstant, by decide +kernel⟩
theorem cv_X3_139 : gw_cv RX3 139 RX3 yX3_divide cX3_divide 4 (some .int) 3 := ⟨ml_X3_139, im_X3_divide, se_X3_divide, in_X3, co_X3_divide, by decide +kernel⟩
theorem cv_X3_142 : gw_cv RX3 142 RX3 yX3_makeRow cX3_makeRow 3 (some .int) 2 := ⟨ml_X3_142, im_X3_makeRow, se_X3_makeRow, in_X3, co_X3_makeRow, by decide +kernel⟩
theorem cv_X3_164 : gw_cv RX3 164 RX2 yX2_makeRow cX2_makeRow 3 none 1 := ⟨ml_X3_164, im_X2_makeRow, se_X2_makeRow, in_X2, co_X2_makeRow, by decide +kernel⟩
theorem cv_X3_145 : gw_cv RX3 145 RX3 yX3_putItem cX3_putItem 4 (some .int) 3 := ⟨ml_X3_145, im_X3_putItem, se_X3_putItem, in_X3, co_X3_putItem, by decide +kernel⟩
theorem cv_X3_167 : gw_cv RX3 167 RX2 yX2_hasItem cX2_hasItem 2 (some .boolean) 1 := ⟨ml_X3_167, im_X2_hasItem, se_X2_hasItem, in_X2, co_X2_hasItem, by decide +kernel⟩
theorem cv_X3_148 : gw_cv RX3 148 RX3 yX3_takeItem cX3_takeItem 4 (some .int) 3 := ⟨ml_X3_148, im_X3_takeItem, se_X3_takeItem, in_X3, co_X3_takeItem, by decide +kernel⟩
theorem cv_X3_151 : gw_cv RX3 151 RX3 yX3_enter cX3_enter 4 (some .int) 3 := ⟨ml_X3_151, im_X3_enter, se_X3_enter, in_X3, co_X3_enter, by decide +kernel⟩
theorem cv_X3_154 : gw_cv RX3 154 RX2 yX2_dropRow cX2_dropRow 1 none 0 := ⟨ml_X3_154, im_X2_dropRow, se_X2_dropRow, in_X2, co_X2_dropRow, by decide +kernel⟩
theorem cv_X3_95 : gw_cv RX3 95 RX3 yX3_begin cX3_begin 5 (some .int) 3 := ⟨ml_X3_95, im_X3_begin, se_X3_begin, in_X3, co_X3_begin, by decide +kernel⟩
theorem cv_X3_99 : gw_cv RX3 99 RX4 yX4_endOfCatch cX4_endOfCatch 4 (some .int) 2 := ⟨ml_X3_99, im_X4_endOfCatch, se_X4_endOfCatch, in_X4, co_X4_endOfCatch, by decide +kernel⟩
theorem cv_X4_43 : gw_cv RX4 43 RX0 yX0_catches cX0_catches 2 (some .boolean) 1 := ⟨ml_X4_43, im_X0_catches, se_X0_catches, in_X0, co_X0_catches, by decide +kernel⟩
theorem cv_L_41 : gw_cv RL 41 RX7 yX7_run cX7_run 3 (some .int) 2 := ⟨ml_L_41, im_X7_run, se_X7_run, in_X7, co_X7_run, by decide +kernel⟩
theorem cv_X7_122 : gw_cv RX7 122 RX7 yX7_push cX7_push 4 none 3 := ⟨ml_X7_122, im_X7_push, se_X7_push, in_X7, co_X7_push, by decide +kernel⟩
theorem cv_X7_176 : gw_cv RX7 176 RX7 yX7_step cX7_step 3 none 0 := ⟨ml_X7_176, im_X7_step, se_X7_step, in_X7, co_X7_step, by decide +kernel⟩
theorem cv_X7_129 : gw_cv RX7 129 RX7 yX7_goOn cX7_goOn 6 none 1 := ⟨ml_X7_129, im_X7_goOn, se_X7_goOn, in_X7, co_X7_goOn, by decide +kernel⟩
theorem cv_X7_111 : gw_cv RX7 111 RX7 yX7_arise cX7_arise 2 (some .int) 1 := ⟨ml_X7_111, im_X7_arise, se_X7_arise, in_X7, co_X7_arise, by decide +kernel⟩
theorem cv_X7_148 : gw_cv RX7 148 RX7 yX7_wants cX7_wants 5 (some .int) 4 := ⟨ml_X7_148, im_X7_wants, se_X7_wants, in_X7, co_X7_wants, by decide +kernel⟩
theorem cv_X7_133 : gw_cv RX7 133 RX7 yX7_want cX7_want 2 none 1 := ⟨ml_X7_133, im_X7_want, se_X7_want, in_X7, co_X7_want, by decide +kernel⟩
theorem cv_X7_118 : gw_cv RX7 118 RX7 yX7_tell cX7_tell 3 none 2 := ⟨ml_X7_118, im_X7_tell, se_X7_tell, in_X7, co_X7_tell, by decide +kernel⟩
theorem cv_X7_136 : gw_cv RX7 136 RX7 yX7_enter cX7_enter 3 none 2 := ⟨ml_X7_136, im_X7_enter, se_X7_enter, in_X7, co_X7_enter, by decide +kernel⟩
theorem cv_X7_152 : gw_cv RX7 152 RX7 yX7_doOne cX7_doOne 6 (some .int) 5 := ⟨ml_X7_152, im_X7_doOne, se_X7_doOne, in_X7, co_X7_doOne, by decide +kernel⟩
theorem cv_X7_156 : gw_cv RX7 156 RX7 yX7_set cX7_set 4 none 3 := ⟨ml_X7_156, im_X7_set, se_X7_set, in_X7, co_X7_set, by decide +kernel⟩
theorem cv_X7_159 : gw_cv RX7 159 RX7 yX7_other cX7_other 8 (some .int) 5 := ⟨ml_X7_159, im_X7_other, se_X7_other, in_X7, co_X7_other, by decide +kernel⟩
theorem cv_X7_162 : gw_cv RX7 162 RX7 yX7_get cX7_get 3 (some .int) 2 := ⟨ml_X7_162, im_X7_get, se_X7_get, in_X7, co_X7_get, by decide +kernel⟩
theorem cv_X7_166 : gw_cv RX7 166 RX7 yX7_newRow cX7_newRow 5 (some .int) 2 := ⟨ml_X7_166, im_X7_newRow, se_X7_newRow, in_X7, co_X7_newRow, by decide +kernel⟩
theorem cv_X7_169 : gw_cv RX7 169 RX7 yX7_inOut cX7_inOut 6 (some .int) 4 := ⟨ml_X7_169, im_X7_inOut, se_X7_inOut, in_X7, co_X7_inOut, by decide +kernel⟩
theorem cv_X7_139 : gw_cv RX7 139 RX7 yX7_look cX7_look 4 none 2 := ⟨ml_X7_139, im_X7_look, se_X7_look, in_X7, co_X7_look, by decide +kernel⟩
theorem cv_X7_179 : gw_cv RX7 179 RX7 yX7_fly cX7_fly 4 none 0 := ⟨ml_X7_179, im_X7_fly, se_X7_fly, in_X7, co_X7_fly, by decide +kernel⟩
theorem cv_L_42 : gw_cv RL 42 RX6 yX6_cause cX6_cause 2 (some .int) 0 := ⟨ml_L_42, im_X6_cause, se_X6_cause, in_X6, co_X6_cause, by decide +kernel⟩
theorem cv_L_46 : gw_cv RL 46 RX7 yX7_cause cX7_cause 1 (some .int) 0 := ⟨ml_L_46, im_X7_cause, se_X7_cause, in_X7, co_X7_cause, by decide +kernel⟩
theorem cv_L_47 : gw_cv RL 47 RX6 yX6_count cX6_count 3 (some .int) 1 := ⟨ml_L_47, im_X6_count, se_X6_count, in_X6, co_X6_count, by decide +kernel⟩
theorem cv_L_50 : gw_cv RL 50 RX7 yX7_count cX7_count 2 (some .int) 1 := ⟨ml_L_50, im_X7_count, se_X7_count, in_X7, co_X7_count, by decide +kernel⟩
theorem cv_L_51 : gw_cv RL 51 RX6 yX6_event cX6_event 4 (some .int) 2 := ⟨ml_L_51, im_X6_event, se_X6_event, in_X6, co_X6_event, by decide +kernel⟩
theorem cv_L_54 : gw_cv RL 54 RX7 yX7_event cX7_event 3 (some .int) 2 := ⟨ml_L_54, im_X7_event, se_X7_event, in_X7, co_X7_event, by decide +kernel⟩
theorem cv_L_55 : gw_cv RL 55 RX6 yX6_state cX6_state 3 (some .int) 1 := ⟨ml_L_55, im_X6_state, se_X6_state, in_X6, co_X6_state, by decide +kernel⟩
theorem cv_L_58 : gw_cv RL 58 RX7 yX7_state cX7_state 2 (some .int) 1 := ⟨ml_L_58, im_X7_state, se_X7_state, in_X7, co_X7_state, by decide +kernel⟩
theorem cv_L_59 : gw_cv RL 59 RX6 yX6_field cX6_field 4 (some .int) 2 := ⟨ml_L_59, im_X6_field, se_X6_field, in_X6, co_X6_field, by decide +kernel⟩
theorem cv_X6_130 : gw_cv RX6 130 RX2 yX2_valueOf cX2_valueOf 2 (some .int) 1 := ⟨ml_X6_130, im_X2_valueOf, se_X2_valueOf, in_X2, co_X2_valueOf, by decide +kernel⟩
theorem cv_L_62 : gw_cv RL 62 RX7 yX7_field cX7_field 3 (some .int) 2 := ⟨ml_L_62, im_X7_field, se_X7_field, in_X7, co_X7_field, by decide +kernel⟩
theorem cv_L_63 : gw_cv RL 63 RX6 yX6_row cX6_row 3 (some .int) 1 := ⟨ml_L_63, im_X6_row, se_X6_row, in_X6, co_X6_row, by decide +kernel⟩
theorem cv_L_66 : gw_cv RL 66 RX7 yX7_row cX7_row 2 (some .int) 1 := ⟨ml_L_66, im_X7_row, se_X7_row, in_X7, co_X7_row, by decide +kernel⟩
theorem cv_L_67 : gw_cv RL 67 RX6 yX6_item cX6_item 4 (some .int) 2 := ⟨ml_L_67, im_X6_item, se_X6_item, in_X6, co_X6_item, by decide +kernel⟩
theorem cv_X6_137 : gw_cv RX6 137 RX2 yX2_hasItem cX2_hasItem 2 (some .boolean) 1 := ⟨ml_X6_137, im_X2_hasItem, se_X2_hasItem, in_X2, co_X2_hasItem, by decide +kernel⟩
theorem cv_L_70 : gw_cv RL 70 RX7 yX7_item cX7_item 3 (some .int) 2 := ⟨ml_L_70, im_X7_item, se_X7_item, in_X7, co_X7_item, by decide +kernel⟩
theorem cv_L_71 : gw_cv RL 71 RX6 yX6_again cX6_again 3 (some .int) 0 := ⟨ml_L_71, im_X6_again, se_X6_again, in_X6, co_X6_again, by decide +kernel⟩
theorem cv_X6_143 : gw_cv RX6 143 RX2 yX2_reset cX2_reset 2 none 0 := ⟨ml_X6_143, im_X2_reset, se_X2_reset, in_X2, co_X2_reset, by decide +kernel⟩
theorem cv_X2_72 : gw_cv RX2 72 RX2 yX2_dropRow cX2_dropRow 1 none 0 := ⟨ml_X2_72, im_X2_dropRow, se_X2_dropRow, in_X2, co_X2_dropRow, by decide +kernel⟩
theorem cv_X2_75 : gw_cv RX2 75 RX2 yX2_change cX2_change 3 none 2 := ⟨ml_X2_75, im_X2_change, se_X2_change, in_X2, co_X2_change, by decide +kernel⟩
theorem cv_L_74 : gw_cv RL 74 RX7 yX7_again cX7_again 4 (some .int) 0 := ⟨ml_L_74, im_X7_again, se_X7_again, in_X7, co_X7_again, by decide +kernel⟩
theorem cv_L_75 : gw_cv RL 75 RX6 yX6_may cX6_may 4 (some .int) 2 := ⟨ml_L_75, im_X6_may, se_X6_may, in_X6, co_X6_may, by decide +kernel⟩
theorem cv_X6_146 : gw_cv RX6 146 RX5 yX5_ofMethod cX5_ofMethod 4 (some .int) 2 := ⟨ml_X6_146, im_X5_ofMethod, se_X5_ofMethod, in_X5, co_X5_ofMethod, by decide +kernel⟩
theorem cv_X5_30 : gw_cv RX5 30 RX5 yX5_clear cX5_clear 1 none 0 := ⟨ml_X5_30, im_X5_clear, se_X5_clear, in_X5, co_X5_clear, by decide +kernel⟩
theorem cv_X5_33 : gw_cv RX5 33 RX5 yX5_want cX5_want 4 none 1 := ⟨ml_X5_33, im_X5_want, se_X5_want, in_X5, co_X5_want, by decide +kernel⟩
theorem cv_X5_66 : gw_cv RX5 66 RX5 yX5_isWanted cX5_isWanted 2 (some .boolean) 1 := ⟨ml_X5_66, im_X5_isWanted, se_X5_isWanted, in_X5, co_X5_isWanted, by decide +kernel⟩
theorem cv_X5_94 : gw_cv RX5 94 RX2 yX2_bit cX2_bit 1 (some .int) 0 := ⟨ml_X5_94, im_X2_bit, se_X2_bit, in_X2, co_X2_bit, by decide +kernel⟩
theorem cv_X5_70 : gw_cv RX5 70 RX5 yX5_add cX5_add 2 none 1 := ⟨ml_X5_70, im_X5_add, se_X5_add, in_X5, co_X5_add, by decide +kernel⟩
theorem cv_X5_38 : gw_cv RX5 38 RX5 yX5_list cX5_list 4 none 1 := ⟨ml_X5_38, im_X5_list, se_X5_list, in_X5, co_X5_list, by decide +kernel⟩
theorem cv_X5_77 : gw_cv RX5 77 RX5 yX5_lookThrough cX5_lookThrough 5 none 2 := ⟨ml_X5_77, im_X5_lookThrough, se_X5_lookThrough, in_X5, co_X5_lookThrough, by decide +kernel⟩
theorem cv_X5_42 : gw_cv RX5 42 RX5 yX5_follow cX5_follow 4 none 1 := ⟨ml_X5_42, im_X5_follow, se_X5_follow, in_X5, co_X5_follow, by decide +kernel⟩
theorem cv_X5_50 : gw_cv RX5 50 RX0 yX0_wants cX0_wants 1 (some .boolean) 0 := ⟨ml_X5_50, im_X0_wants, se_X0_wants, in_X0, co_X0_wants, by decide +kernel⟩
theorem cv_L_78 : gw_cv RL 78 RX7 yX7_may cX7_may 5 (some .int) 2 := ⟨ml_L_78, im_X7_may, se_X7_may, in_X7, co_X7_may, by decide +kernel⟩
theorem cv_X7_188 : gw_cv RX7 188 RX7 yX7_mayWant cX7_mayWant 2 none 1 := ⟨ml_X7_188, im_X7_mayWant, se_X7_mayWant, in_X7, co_X7_mayWant, by decide +kernel⟩
theorem cv_X7_185 : gw_cv RX7 185 RX7 yX7_mayLook cX7_mayLook 5 none 1 := ⟨ml_X7_185, im_X7_mayLook, se_X7_mayLook, in_X7, co_X7_mayLook, by decide +kernel⟩
theorem cv_X7_191 : gw_cv RX7 191 RX7 yX7_mayActs cX7_mayActs 7 none 1 := ⟨ml_X7_191, im_X7_mayActs, se_X7_mayActs, in_X7, co_X7_mayActs, by decide +kernel⟩
theorem cv_L_79 : gw_cv RL 79 RX6 yX6_ahead cX6_ahead 5 (some .int) 2 := ⟨ml_L_79, im_X6_ahead, se_X6_ahead, in_X6, co_X6_ahead, by decide +kernel⟩
theorem cv_X6_149 : gw_cv RX6 149 RX5 yX5_ofStart cX5_ofStart 2 (some .int) 1 := ⟨ml_X6_149, im_X5_ofStart, se_X5_ofStart, in_X5, co_X5_ofStart, by decide +kernel⟩
theorem cv_X6_152 : gw_cv RX6 152 RX2 yX2_bit cX2_bit 1 (some .int) 0 := ⟨ml_X6_152, im_X2_bit, se_X2_bit, in_X2, co_X2_bit, by decide +kernel⟩
theorem cv_L_82 : gw_cv RL 82 RX7 yX7_ahead cX7_ahead 5 (some .int) 2 := ⟨ml_L_82, im_X7_ahead, se_X7_ahead, in_X7, co_X7_ahead, by decide +kernel⟩
end
section
/-! numbers no less than 0: compares and branches; reads behind writes -/
abbrev rmL (k : Nat) : Room := { frames := k, cells := 0, slots := 0, locals := 60 * k }
theorem m2_nk {M : Nat → Nat → Int32} {k i a j : Nat} {x : Int32} (h : a ≠ k) : m2 M k i x a j = M a j := by rw [m2_ne h]
theorem m2_at {M : Nat → Nat → Int32} {k i : Nat} {x : Int32} : m2 M k i x k i = x := by simp [m2, va_up]
theorem m2_o {M : Nat → Nat → Int32} {k i j : Nat} {x : Int32} (h : j ≠ i) : m2 M k i x k j = M k j := by simp [m2, va_up, h]
theorem nI_t {a : Nat} (h : a < 2 ^ 31) : (nI a).toInt = (a : Int) := nI_toInt h
theorem nI_z {a : Nat} (h : a < 2 ^ 31) : nI a = 0 ↔ a = 0 := by rw [← nI_0, nI_eq h (by decide)]
section NV
variable {p : Program} {l : Launch} {e : Env} {R : Room} {s : State} {m : MethodId} {args : Array Value} {below : List Frame} {meth : Method} {c : Code} {H : Heap} {locs : List Loc} {cells slots : Nat} {Q : State → Prop}
variable {cc : ByteArray} {pc : Nat} {ls : Array Slot} {rest : List Value}
theorem nv_icmp_eq {x y : Nat} (hx2 : x < 2 ^ 31) (hy2 : y < 2 ^ 31) (hexec : p.tables.exec = Jvm.exec) (hb : c.code = cc) {off : Int} {tgt : Nat} (hdg : decode cc pc = .ok (.if_icmp .eq off, 3)) (ht : (pc : Int) + off = (tgt : Int)) (kt : x = y → W p l e R s m args below meth c H locs cells slots Q (F0 m tgt ls rest)) (kf : ¬ x = y → W p l e R s m args below meth c H locs cells slots Q (F0 m (pc + 3) ls rest)) : W p l e R s m args below meth c H locs cells slots Q (F0 m pc ls (.int (nI y) :: .int (nI x) :: rest)) :=
  lv_icmp_eq hexec hb hdg ht (fun h => kt ((nI_eq hx2 hy2).mp h)) (fun h => kf (fun q => h ((nI_eq hx2 hy2).mpr q)))
theorem nv_icmp_ne {x y : Nat} (hx2 : x < 2 ^ 31) (hy2 : y < 2 ^ 31) (hexec : p.tables.exec = Jvm.exec) (hb : c.code = cc) {off : Int} {tgt : Nat} (hdg : decode cc pc = .ok (.if_icmp .ne off, 3)) (ht : (pc : Int) + off = (tgt : Int)) (kt : ¬ x = y → W p l e R s m args below meth c H locs cells slots Q (F0 m tgt ls rest)) (kf : x = y → W p l e R s m args below meth c H locs cells slots Q (F0 m (pc + 3) ls rest)) : W p l e R s m args below meth c H locs cells slots Q (F0 m pc ls (.int (nI y) :: .int (nI x) :: rest)) :=
  lv_icmp_ne hexec hb hdg ht (fun h => kt (fun q => h ((nI_eq hx2 hy2).mpr q))) (fun h => kf ((nI_eq hx2 hy2).mp h))
theorem nv_icmp_lt {x y : Nat} (hx2 : x < 2 ^ 31) (hy2 : y < 2 ^ 31) (hexec : p.tables.exec = Jvm.exec) (hb : c.code = cc) {off : Int} {tgt : Nat} (hdg : decode cc pc = .ok (.if_icmp .lt off, 3)) (ht : (pc : Int) + off = (tgt : Int)) (kt : x < y → W p l e R s m args below meth c H locs cells slots Q (F0 m tgt ls rest)) (kf : y ≤ x → W p l e R s m args below meth c H locs cells slots Q (F0 m (pc + 3) ls rest)) : W p l e R s m args below meth c H locs cells slots Q (F0 m pc ls (.int (nI y) :: .int (nI x) :: rest)) :=
  lv_icmp_lt hexec hb hdg ht (fun h => kt ((nI_ltI hx2 hy2).mp h)) (fun h => kf (by have q := (not_congr (nI_ltI hx2 hy2)).mp h; omega))
theorem nv_icmp_ge {x y : Nat} (hx2 : x < 2 ^ 31) (hy2 : y < 2 ^ 31) (hexec : p.tables.exec = Jvm.exec) (hb : c.code = cc) {off : Int} {tgt : Nat} (hdg : decode cc pc = .ok (.if_icmp .ge off, 3)) (ht : (pc : Int) + off = (tgt : Int)) (kt : y ≤ x → W p l e R s m args below meth c H locs cells slots Q (F0 m tgt ls rest)) (kf : x < y → W p l e R s m args below meth c H locs cells slots Q (F0 m (pc + 3) ls rest)) : W p l e R s m args below meth c H locs cells slots Q (F0 m pc ls (.int (nI y) :: .int (nI x) :: rest)) :=
  lv_icmp_ge hexec hb hdg ht (fun h => kt ((nI_leI hy2 hx2).mp h)) (fun h => kf (by have q := (not_congr (nI_leI hy2 hx2)).mp h; omega))
theorem nv_icmp_gt {x y : Nat} (hx2 : x < 2 ^ 31) (hy2 : y < 2 ^ 31) (hexec : p.tables.exec = Jvm.exec) (hb : c.code = cc) {off : Int} {tgt : Nat} (hdg : decode cc pc = .ok (.if_icmp .gt off, 3)) (ht : (pc : Int) + off = (tgt : Int)) (kt : y < x → W p l e R s m args below meth c H locs cells slots Q (F0 m tgt ls rest)) (kf : x ≤ y → W p l e R s m args below meth c H locs cells slots Q (F0 m (pc + 3) ls rest)) : W p l e R s m args below meth c H locs cells slots Q (F0 m pc ls (.int (nI y) :: .int (nI x) :: rest)) :=
  lv_icmp_gt hexec hb hdg ht (fun h => kt ((nI_ltI hy2 hx2).mp h)) (fun h => kf (by have q := (not_congr (nI_ltI hy2 hx2)).mp h; omega))
theorem nv_icmp_le {x y : Nat} (hx2 : x < 2 ^ 31) (hy2 : y < 2 ^ 31) (hexec : p.tables.exec = Jvm.exec) (hb : c.code = cc) {off : Int} {tgt : Nat} (hdg : decode cc pc = .ok (.if_icmp .le off, 3)) (ht : (pc : Int) + off = (tgt : Int)) (kt : x ≤ y → W p l e R s m args below meth c H locs cells slots Q (F0 m tgt ls rest)) (kf : y < x → W p l e R s m args below meth c H locs cells slots Q (F0 m (pc + 3) ls rest)) : W p l e R s m args below meth c H locs cells slots Q (F0 m pc ls (.int (nI y) :: .int (nI x) :: rest)) :=
  lv_icmp_le hexec hb hdg ht (fun h => kt ((nI_leI hx2 hy2).mp h)) (fun h => kf (by have q := (not_congr (nI_leI hx2 hy2)).mp h; omega))
theorem nv_if_eq {x : Nat} (hx2 : x < 2 ^ 31) (hexec : p.tables.exec = Jvm.exec) (hb : c.code = cc) {off : Int} {tgt : Nat} (hdg : decode cc pc = .ok (.ifCond .eq off, 3)) (ht : (pc : Int) + off = (tgt : Int)) (kt : x = 0 → W p l e R s m args below meth c H locs cells slots Q (F0 m tgt ls rest)) (kf : ¬ x = 0 → W p l e R s m args below meth c H locs cells slots Q (F0 m (pc + 3) ls rest)) : W p l e R s m args below meth c H locs cells slots Q (F0 m pc ls (.int (nI x) :: rest)) :=
  lv_if_eq hexec hb hdg ht (fun h => kt (by first | (have q := (nI_z hx2).mp h; omega) | (have q := (not_congr (nI_z hx2)).mp h; omega) | (rw [← nI_0] at h; have q := (nI_ltI (by decide) hx2).mp h; omega) | (rw [← nI_0] at h; have q := (not_congr (nI_ltI (by decide) hx2)).mp h; omega) | (rw [← nI_0] at h; have q := (nI_leI hx2 (by decide)).mp h; omega) | (rw [← nI_0] at h; have q := (not_congr (nI_leI hx2 (by decide))).mp h; omega))) (fun h => kf (by first | (have q := (nI_z hx2).mp h; omega) | (have q := (not_congr (nI_z hx2)).mp h; omega) | (rw [← nI_0] at h; have q := (nI_ltI (by decide) hx2).mp h; omega) | (rw [← nI_0] at h; have q := (not_congr (nI_ltI (by decide) hx2)).mp h; omega) | (rw [← nI_0] at h; have q := (nI_leI hx2 (by decide)).mp h; omega) | (rw [← nI_0] at h; have q := (not_congr (nI_leI hx2 (by decide))).mp h; omega)))
theorem nv_if_ne {x : Nat} (hx2 : x < 2 ^ 31) (hexec : p.tables.exec = Jvm.exec) (hb : c.code = cc) {off : Int} {tgt : Nat} (hdg : decode cc pc = .ok (.ifCond .ne off, 3)) (ht : (pc : Int) + off = (tgt : Int)) (kt : ¬ x = 0 → W p l e R s m args below meth c H locs cells slots Q (F0 m tgt ls rest)) (kf : x = 0 → W p l e R s m args below meth c H locs cells slots Q (F0 m (pc + 3) ls rest)) : W p l e R s m args below meth c H locs cells slots Q (F0 m pc ls (.int (nI x) :: rest)) :=
  lv_if_ne hexec hb hdg ht (fun h => kt (by first | (have q := (nI_z hx2).mp h; omega) | (have q := (not_congr (nI_z hx2)).mp h; omega) | (rw [← nI_0] at h; have q := (nI_ltI (by decide) hx2).mp h; omega) | (rw [← nI_0] at h; have q := (not_congr (nI_ltI (by decide) hx2)).mp h; omega) | (rw [← nI_0] at h; have q := (nI_leI hx2 (by decide)).mp h; omega) | (rw [← nI_0] at h; have q := (not_congr (nI_leI hx2 (by decide))).mp h; omega))) (fun h => kf (by first | (have q := (nI_z hx2).mp h; omega) | (have q := (not_congr (nI_z hx2)).mp h; omega) | (rw [← nI_0] at h; have q := (nI_ltI (by decide) hx2).mp h; omega) | (rw [← nI_0] at h; have q := (not_congr (nI_ltI (by decide) hx2)).mp h; omega) | (rw [← nI_0] at h; have q := (nI_leI hx2 (by decide)).mp h; omega) | (rw [← nI_0] at h; have q := (not_congr (nI_leI hx2 (by decide))).mp h; omega)))
theorem nv_if_gt {x : Nat} (hx2 : x < 2 ^ 31) (hexec : p.tables.exec = Jvm.exec) (hb : c.code = cc) {off : Int} {tgt : Nat} (hdg : decode cc pc = .ok (.ifCond .gt off, 3)) (ht : (pc : Int) + off = (tgt : Int)) (kt : 0 < x → W p l e R s m args below meth c H locs cells slots Q (F0 m tgt ls rest)) (kf : x = 0 → W p l e R s m args below meth c H locs cells slots Q (F0 m (pc + 3) ls rest)) : W p l e R s m args below meth c H locs cells slots Q (F0 m pc ls (.int (nI x) :: rest)) :=
  lv_if_gt hexec hb hdg ht (fun h => kt (by first | (have q := (nI_z hx2).mp h; omega) | (have q := (not_congr (nI_z hx2)).mp h; omega) | (rw [← nI_0] at h; have q := (nI_ltI (by decide) hx2).mp h; omega) | (rw [← nI_0] at h; have q := (not_congr (nI_ltI (by decide) hx2)).mp h; omega) | (rw [← nI_0] at h; have q := (nI_leI hx2 (by decide)).mp h; omega) | (rw [← nI_0] at h; have q := (not_congr (nI_leI hx2 (by decide))).mp h; omega))) (fun h => kf (by first | (have q := (nI_z hx2).mp h; omega) | (have q := (not_congr (nI_z hx2)).mp h; omega) | (rw [← nI_0] at h; have q := (nI_ltI (by decide) hx2).mp h; omega) | (rw [← nI_0] at h; have q := (not_congr (nI_ltI (by decide) hx2)).mp h; omega) | (rw [← nI_0] at h; have q := (nI_leI hx2 (by decide)).mp h; omega) | (rw [← nI_0] at h; have q := (not_congr (nI_leI hx2 (by decide))).mp h; omega)))
theorem nv_if_le {x : Nat} (hx2 : x < 2 ^ 31) (hexec : p.tables.exec = Jvm.exec) (hb : c.code = cc) {off : Int} {tgt : Nat} (hdg : decode cc pc = .ok (.ifCond .le off, 3)) (ht : (pc : Int) + off = (tgt : Int)) (kt : x = 0 → W p l e R s m args below meth c H locs cells slots Q (F0 m tgt ls rest)) (kf : 0 < x → W p l e R s m args below meth c H locs cells slots Q (F0 m (pc + 3) ls rest)) : W p l e R s m args below meth c H locs cells slots Q (F0 m pc ls (.int (nI x) :: rest)) :=
  lv_if_le hexec hb hdg ht (fun h => kt (by first | (have q := (nI_z hx2).mp h; omega) | (have q := (not_congr (nI_z hx2)).mp h; omega) | (rw [← nI_0] at h; have q := (nI_ltI (by decide) hx2).mp h; omega) | (rw [← nI_0] at h; have q := (not_congr (nI_ltI (by decide) hx2)).mp h; omega) | (rw [← nI_0] at h; have q := (nI_leI hx2 (by decide)).mp h; omega) | (rw [← nI_0] at h; have q := (not_congr (nI_leI hx2 (by decide))).mp h; omega))) (fun h => kf (by first | (have q := (nI_z hx2).mp h; omega) | (have q := (not_congr (nI_z hx2)).mp h; omega) | (rw [← nI_0] at h; have q := (nI_ltI (by decide) hx2).mp h; omega) | (rw [← nI_0] at h; have q := (not_congr (nI_ltI (by decide) hx2)).mp h; omega) | (rw [← nI_0] at h; have q := (nI_leI hx2 (by decide)).mp h; omega) | (rw [← nI_0] at h; have q := (not_congr (nI_leI hx2 (by decide))).mp h; omega)))
theorem nv_if_lt {x : Nat} (hx2 : x < 2 ^ 31) (hexec : p.tables.exec = Jvm.exec) (hb : c.code = cc) {off : Int} {tgt : Nat} (hdg : decode cc pc = .ok (.ifCond .lt off, 3)) (ht : (pc : Int) + off = (tgt : Int)) (kf : W p l e R s m args below meth c H locs cells slots Q (F0 m (pc + 3) ls rest)) : W p l e R s m args below meth c H locs cells slots Q (F0 m pc ls (.int (nI x) :: rest)) := lv_if_lt hexec hb hdg ht (fun h => absurd h (nI_pos hx2)) (fun _ => kf)
theorem nv_if_ge {x : Nat} (hx2 : x < 2 ^ 31) (hexec : p.tables.exec = Jvm.exec) (hb : c.code = cc) {off : Int} {tgt : Nat} (hdg : decode cc pc = .ok (.ifCond .ge off, 3)) (ht : (pc : Int) + off = (tgt : Int)) (kt : W p l e R s m args below meth c H locs cells slots Q (F0 m tgt ls rest)) : W p l e R s m args below meth c H locs cells slots Q (F0 m pc ls (.int (nI x) :: rest)) := lv_if_ge hexec hb hdg ht (fun _ => kt) (fun h => absurd (nI_pos' hx2) h)
end NV
end
section
/-! cuts: a place that several ways come to; a loop's head -/
section LP
variable {p : Program} {l : Launch} {e : Env} {R : Room} {s : State} {m : MethodId} {args : Array Value} {below : List Frame} {meth : Method} {c : Code} {H : Heap} {locs : List Loc} {cells slots : Nat} {Q : State → Prop} {g : JFrame}
theorem lp_cut {pc2 : Nat} {st2 : List Value} (P : Heap → List Loc → Array Slot → Prop) (k1 : ∀ (H : Heap) (locs : List Loc) (ls : Array Slot), P H locs ls → W p l e R s m args below meth c H locs cells slots Q (F0 m pc2 ls st2))
    (k2 : (∀ (H : Heap) (locs : List Loc) (ls : Array Slot), P H locs ls → W p l e R s m args below meth c H locs cells slots Q (F0 m pc2 ls st2)) → W p l e R s m args below meth c H locs cells slots Q g) : W p l e R s m args below meth c H locs cells slots Q g := k2 k1
theorem lp_gen {P : Heap → List Loc → Prop} (h : P H locs) (k : ∀ (H : Heap) (locs : List Loc), P H locs → W p l e R s m args below meth c H locs cells slots Q g) : W p l e R s m args below meth c H locs cells slots Q g := k H locs h
end LP
theorem ix_yes {M x : Int32} {n : Nat} (hM : M = nI n) (hn : n < 2 ^ 31) (h1 : ¬ x < 0) (h2 : ¬ M ≤ x) : ∃ j, j < n ∧ x = nI j := by
  subst hM
  rcases pk_ix x (n := n) hn with q | q | ⟨j, q1, q2⟩
  · exact absurd q h1
  · exact absurd q h2
  · exact ⟨j, q1, q2⟩
theorem ix_le {x : Int32} {n : Nat} (hn : n < 2 ^ 31) (h1 : ¬ x < 0) (h2 : ¬ nI n < x) : ∃ j, j ≤ n ∧ x = nI j := by
  exact nI_of2 (nI_toInt hn) h1 (Int32.not_lt.mp h2)
theorem ix_in {x : Int32} {a n : Nat} (ha : a < 2 ^ 31) (hn : n < 2 ^ 31) (h1 : ¬ x < nI a) (h2 : ¬ nI n < x) : ∃ j, a ≤ j ∧ j ≤ n ∧ x = nI j := by
  have h0 : ¬ x < 0 := fun q => by
    rw [Int32.lt_iff_toInt_lt] at q h1
    rw [nI_toInt ha] at h1
    have : (0 : Int32).toInt = 0 := rfl
    omega
  obtain ⟨j, q1, q2⟩ := ix_le hn h0 h2
  subst q2
  refine ⟨j, ?_, q1, rfl⟩
  have := (not_congr (nI_ltI (by omega) ha)).mp h1
  omega
end
section
/-! THE REFERENCE, 1: what its small methods do -/
def sp_has (many x : Int32) : Int32 := if x < 0 then nI 0 else if many ≤ x then nI 0 else nI 1
def sp_isF (f : Int32) : Int32 := if f < 0 then nI 0 else if nI 4 ≤ f then nI 0 else nI 1
theorem sp_has01 (a b : Int32) : sp_has a b = 0 ∨ sp_has a b = 1 := by
  unfold sp_has
  split
  · exact Or.inl rfl
  · split
    · exact Or.inl rfl
    · exact Or.inr rfl
theorem sp_isF01 (b : Int32) : sp_isF b = 0 ∨ sp_isF b = 1 := by
  unfold sp_isF
  split
  · exact Or.inl rfl
  · split
    · exact Or.inl rfl
    · exact Or.inr rfl
theorem has_yes {M x : Int32} {n : Nat} (hM : M = nI n) (hn : n ≤ 12) (h : ¬ sp_has M x = 0) : ∃ j, j < n ∧ x = nI j := by
  subst hM
  rcases pk_ix x (n := n) (by omega) with q | q | ⟨j, q1, q2⟩
  · exact absurd (by simp [sp_has, q]; rfl) h
  · exact absurd (by unfold sp_has; rw [if_pos q]; split <;> rfl) h
  · exact ⟨j, q1, q2⟩
theorem has_no {x : Int32} {n : Nat} (hn : n ≤ 12) (h : sp_has (nI n) x = 0) {j : Nat} (hj : j < n) : x ≠ nI j := by
  intro q
  subst q
  unfold sp_has at h
  rw [if_neg (nI_pos (by omega)), if_neg (nI_ge hj (by omega))] at h
  exact absurd h (by decide)
theorem isF_yes {x : Int32} (h : ¬ sp_isF x = 0) : ∃ j, j < 4 ∧ x = nI j := by
  rcases pk_ix x (n := 4) (by omega) with q | q | ⟨j, q1, q2⟩
  · exact absurd (by simp [sp_isF, q]; rfl) h
  · exact absurd (by unfold sp_isF; rw [if_pos q]; split <;> rfl) h
  · exact ⟨j, q1, q2⟩
theorem isF_nI {j : Nat} (h : j < 4) : sp_isF (nI j) = nI 1 := by
  unfold sp_isF
  rw [if_neg (nI_pos (by omega)), if_neg (nI_ge h (by omega))]
def sp_makeR (n : Nat) : Int32 := if n = 12 then -5 else nI n
def sp_makeS (S : Nat → Nat → Int32) (n : Nat) (fa de pa : Int32) : Nat → Nat → Int32 := if n = 12 then S else m2 (m2 (m2 (m2 S 1 n fa) 2 n de) 3 n pa) 0 0 (nI (n + 1))
def sp_tell (S : Nat → Nat → Int32) (ev : Nat) (so v : Int32) : Nat → Nat → Int32 := if ev < 60 then m2 (m2 (m2 S 14 ev so) 15 ev v) 13 0 (nI (ev + 1)) else S
def sp_ar (S : Nat → Nat → Int32) (w : Int32) : Nat → Nat → Int32 := m2 S 18 0 (S 18 0 + (if nI 10 ≤ w then nI 0 else nI 1))
def rf_push (X : Nat → Nat → Int32) (f : Nat) (w a b : Int32) : Nat → Nat → Int32 := m2 (m2 (m2 (m2 (m2 (m2 (m2 X 23 f w) 24 f a) 25 f b) 26 f (nI 0)) 27 f (nI 0)) 28 f (nI 0)) 22 0 (nI (f + 1))
def sp_get (S : Nat → Nat → Int32) (x f : Nat) : Int32 := S 6 (4 * x + f)
def sp_set (S : Nat → Nat → Int32) (x f : Nat) (v : Int32) : Nat → Nat → Int32 := if S 7 (4 * x + f) = 0 then m2 S 6 (4 * x + f) v else S
def sp_state (S : Nat → Nat → Int32) (x0 : Int32) : Int32 := if sp_has (S 0 0) x0 = 0 then -2 else S 12 x0.toNatClampNeg
def sp_row (S : Nat → Nat → Int32) (x0 : Int32) : Int32 := if sp_has (S 0 0) x0 = 0 then -2 else S 8 x0.toNatClampNeg - nI 1
def sp_field (S : Nat → Nat → Int32) (x0 x1 : Int32) : Int32 := if sp_has (S 0 0) x0 = 0 then nI 0 else if sp_isF x1 = 0 then nI 0 else S 6 (4 * x0.toNatClampNeg + x1.toNatClampNeg)
def sp_count (S : Nat → Nat → Int32) (x0 : Int32) : Int32 := if x0 = 0 then S 13 0 else if x0 = nI 1 then S 16 0 else if x0 = nI 2 then S 17 0 else if x0 = nI 3 then S 18 0 else -3
theorem nI_dec {a b : Nat} {k : Int32} (h : b ≤ a) (hk : k = -nI b := by decide) : nI a + k = nI (a - b) := by
  rw [hk, ← Int32.sub_eq_add_neg, pk_sub h]
set_option maxHeartbeats 4000000 in
set_option maxRecDepth 100000 in
/-- has(x) -/
theorem c_X7_has (l : Launch) (G : gw_G) (A : Nat → Prop) (adr : Nat → Nat) (S X : Nat → Nat → Int32) (x0 : Int32)  : gm l yX7_has cX7_has 2 (some .boolean) (rmL 0) 0 0 A [.ref (adr 0), .int x0] (gW G A adr (rcel G adr S X)) (gW G A adr (rcel G adr S X)) (some (.int (sp_has (S 0 0) x0))) := by
  refine gm_of (own := RX7) (by decide) rfl (Nat.le_of_ble_eq_true rfl) ?_
  intro p e s m below meth c ls F hml hr hlk hnm hK hR hl
  have hx := F.1
  have hb := F.2.1
  have hl : lv_has ls 2 [(0, .ref (adr 0)), (1, .int x0)] := hl
  refine lv_iload_n hx hb dX7_has_0 rfl (lv_at hl 1 rfl) ?_
  refine lv_if_lt (tgt := 16) hx hb dX7_has_1 (by decide) (fun c_1 => ?_) (fun c_1 => ?_)
  · have n_1 := Int32.not_le.mpr c_1
    have hv : nI 0 = sp_has (S 0 0) x0 := by simp only [sp_has, if_pos c_1]
    refine lv_iconst (v := nI 0) hx hb dX7_has_16 (by decide) ?_
    exact gr_z F hr hlk hK hR dX7_has_17 (by decide) (hv) (rfl)
  · have n_1 := Int32.not_lt.mp c_1
    refine lv_iload_n hx hb dX7_has_4 rfl (lv_at hl 1 rfl) ?_
    refine lv_aload_n hx hb dX7_has_5 rfl (lv_at hl 0 rfl) ?_
    refine rg_0 F hK hR dX7_has_6 ?_
    refine lv_icmp_ge (tgt := 16) hx hb dX7_has_9 (by decide) (fun c_9 => ?_) (fun c_9 => ?_)
    · have n_9 := Int32.not_lt.mpr c_9
      have hv : nI 0 = sp_has (S 0 0) x0 := by simp only [sp_has, if_neg c_1, if_pos c_9]
      refine lv_iconst (v := nI 0) hx hb dX7_has_16 (by decide) ?_
      exact gr_z F hr hlk hK hR dX7_has_17 (by decide) (hv) (rfl)
    · have n_9 := Int32.not_le.mp c_9
      have hv : nI 1 = sp_has (S 0 0) x0 := by simp only [sp_has, if_neg c_1, if_neg c_9]
      refine lv_iconst (v := nI 1) hx hb dX7_has_12 (by decide) ?_
      refine lv_goto (tgt := 17) hx hb dX7_has_13 (by decide) ?_
      exact gr_z F hr hlk hK hR dX7_has_17 (by decide) (hv) (rfl)
set_option maxHeartbeats 4000000 in
set_option maxRecDepth 100000 in
/-- isField(f) -/
theorem c_X7_isField (l : Launch) (x0 : Int32)  : gs l yX7_isField cX7_isField 1 (some .boolean) (rmL 0) [.int x0] (sp_isF x0) := by
  refine gs_of (own := RX7) (by decide) rfl (Nat.le_of_ble_eq_true rfl) ?_
  intro p e s m below meth c ls F hml hr hlk hl
  have hx := F.1
  have hb := F.2.1
  have hl : lv_has ls 1 [(0, .int x0)] := hl
  refine lv_iload_n hx hb dX7_isField_0 rfl (lv_at hl 0 rfl) ?_
  refine lv_if_lt (tgt := 13) hx hb dX7_isField_1 (by decide) (fun c_1 => ?_) (fun c_1 => ?_)
  · have n_1 := Int32.not_le.mpr c_1
    have hv : nI 0 = sp_isF x0 := by simp only [sp_isF, if_pos c_1]
    refine lv_iconst (v := nI 0) hx hb dX7_isField_13 (by decide) ?_
    exact gs_z F hr hlk dX7_isField_14 (by decide) hv
  · have n_1 := Int32.not_lt.mp c_1
    refine lv_iload_n hx hb dX7_isField_4 rfl (lv_at hl 0 rfl) ?_
    refine lv_iconst (v := nI 4) hx hb dX7_isField_5 (by decide) ?_
    refine lv_icmp_ge (tgt := 13) hx hb dX7_isField_6 (by decide) (fun c_6 => ?_) (fun c_6 => ?_)
    · have n_6 := Int32.not_lt.mpr c_6
      have hv : nI 0 = sp_isF x0 := by simp only [sp_isF, if_neg c_1, if_pos c_6]
      refine lv_iconst (v := nI 0) hx hb dX7_isField_13 (by decide) ?_
      exact gs_z F hr hlk dX7_isField_14 (by decide) hv
    · have n_6 := Int32.not_le.mp c_6
      have hv : nI 1 = sp_isF x0 := by simp only [sp_isF, if_neg c_1, if_neg c_6]
      refine lv_iconst (v := nI 1) hx hb dX7_isField_9 (by decide) ?_
      refine lv_goto (tgt := 14) hx hb dX7_isField_10 (by decide) ?_
      exact gs_z F hr hlk dX7_isField_14 (by decide) hv
set_option maxHeartbeats 4000000 in
set_option maxRecDepth 100000 in
/-- make(face, defaults, of) -/
theorem c_X7_make (l : Launch) (G : gw_G) (A : Nat → Prop) (adr : Nat → Nat) (S X : Nat → Nat → Int32) (n : Nat) (fa de pa : Int32) (hn0 : S 0 0 = nI n) (hn : n ≤ 12) (hfa : fa = 0 ∨ fa = 1) (hde : de = 0 ∨ de = 1) : gm l yX7_make cX7_make 4 (some .int) (rmL 0) 0 0 A [.ref (adr 0), .int fa, .int de, .int pa] (gW G A adr (rcel G adr S X)) (gW G A adr (rcel G adr (sp_makeS S n fa de pa) X)) (some (.int (sp_makeR n))) := by
  refine gm_of (own := RX7) (by decide) rfl (Nat.le_of_ble_eq_true rfl) ?_
  intro p e s m below meth c ls F hml hr hlk hnm hK hR hl
  have hx := F.1
  have hb := F.2.1
  have hl : lv_has ls 4 [(0, .ref (adr 0)), (1, .int fa), (2, .int de), (3, .int pa)] := hl
  refine lv_aload_n hx hb dX7_make_0 rfl (lv_at hl 0 rfl) ?_
  refine rg_0 F hK hR dX7_make_1 ?_
  refine lv_eq (hn0) ?_
  refine lv_bipush (v := nI 12) hx hb dX7_make_4 (by decide) ?_
  refine nv_icmp_ne (by omega) (by omega) hx hb dX7_make_6 (tgt := 12) (by decide) (fun c_6 => ?_) (fun c_6 => ?_)
  · refine lv_aload_n hx hb dX7_make_12 rfl (lv_at hl 0 rfl) ?_
    refine rg_1 F hK hR dX7_make_13 ?_
    refine lv_aload_n hx hb dX7_make_16 rfl (lv_at hl 0 rfl) ?_
    refine rg_0 F hK hR dX7_make_17 ?_
    refine lv_eq (hn0) ?_
    refine lv_iload_n hx hb dX7_make_20 rfl (lv_at hl 1 rfl) ?_
    refine rs_1 F hK hR (by omega) (hfa) dX7_make_21 (fun H locs hR => ?_)
    refine lv_aload_n hx hb dX7_make_22 rfl (lv_at hl 0 rfl) ?_
    refine rg_2 F hK hR dX7_make_23 ?_
    refine lv_aload_n hx hb dX7_make_26 rfl (lv_at hl 0 rfl) ?_
    refine rg_0 F hK hR dX7_make_27 ?_
    refine lv_eq ((m2_nk (by decide)).trans (hn0)) ?_
    refine lv_iload_n hx hb dX7_make_30 rfl (lv_at hl 2 rfl) ?_
    refine rs_2 F hK hR (by omega) (hde) dX7_make_31 (fun H locs hR => ?_)
    refine lv_aload_n hx hb dX7_make_32 rfl (lv_at hl 0 rfl) ?_
    refine rg_3 F hK hR dX7_make_33 ?_
    refine lv_aload_n hx hb dX7_make_36 rfl (lv_at hl 0 rfl) ?_
    refine rg_0 F hK hR dX7_make_37 ?_
    refine lv_eq (((m2_nk (by decide)).trans (m2_nk (by decide))).trans (hn0)) ?_
    refine lv_iload_n hx hb dX7_make_40 rfl (lv_at hl 3 rfl) ?_
    refine rs_3 F hK hR (by omega) dX7_make_41 (fun H locs hR => ?_)
    refine lv_aload_n hx hb dX7_make_42 rfl (lv_at hl 0 rfl) ?_
    refine lv_dup hx hb dX7_make_43 rfl ?_
    refine rg_0 F hK hR dX7_make_44 ?_
    refine lv_eq ((((m2_nk (by decide)).trans (m2_nk (by decide))).trans (m2_nk (by decide))).trans (hn0)) ?_
    refine lv_iconst (v := nI 1) hx hb dX7_make_47 (by decide) ?_
    refine nv_iadd hx hb dX7_make_48 ?_
    refine rp_0 F hK hR dX7_make_49 (fun H locs hR => ?_)
    refine lv_aload_n hx hb dX7_make_52 rfl (lv_at hl 0 rfl) ?_
    refine rg_0 F hK hR dX7_make_53 ?_
    refine lv_eq (m2_at) ?_
    refine lv_iconst (v := nI 1) hx hb dX7_make_56 (by decide) ?_
    refine nv_isub (by omega) hx hb dX7_make_57 ?_
    exact gr_i F hr hlk hK hR dX7_make_58 (by rw [sp_makeR, if_neg c_6]; exact congrArg nI (by omega)) (by simp only [sp_makeS, if_neg c_6])
  · refine lv_bipush (v := (-5)) hx hb dX7_make_9 (by decide) ?_
    exact gr_i F hr hlk hK hR dX7_make_11 (by simp only [sp_makeR, if_pos c_6]) (by simp only [sp_makeS, if_pos c_6])
set_option maxHeartbeats 4000000 in
set_option maxRecDepth 100000 in
/-- tell(sort, of) -/
theorem c_X7_tell (l : Launch) (G : gw_G) (A : Nat → Prop) (adr : Nat → Nat) (S X : Nat → Nat → Int32) (ev : Nat) (so v : Int32) (hev : S 13 0 = nI ev) (he : ev ≤ 60) : gm l yX7_tell cX7_tell 3 none (rmL 0) 0 0 A [.ref (adr 0), .int so, .int v] (gW G A adr (rcel G adr S X)) (gW G A adr (rcel G adr (sp_tell S ev so v) X)) none := by
  refine gm_of (own := RX7) (by decide) rfl (Nat.le_of_ble_eq_true rfl) ?_
  intro p e s m below meth c ls F hml hr hlk hnm hK hR hl
  have hx := F.1
  have hb := F.2.1
  have hl : lv_has ls 3 [(0, .ref (adr 0)), (1, .int so), (2, .int v)] := hl
  refine lv_aload_n hx hb dX7_tell_0 rfl (lv_at hl 0 rfl) ?_
  refine rg_13 F hK hR dX7_tell_1 ?_
  refine lv_eq (hev) ?_
  refine lv_bipush (v := nI 60) hx hb dX7_tell_4 (by decide) ?_
  refine nv_icmp_ge (by omega) (by omega) hx hb dX7_tell_6 (tgt := 39) (by decide) (fun c_6 => ?_) (fun c_6 => ?_)
  · have n_6 : ¬ (ev < 60) := by omega
    exact gr_v F hr hlk hK hR dX7_tell_39 (by rw [sp_tell, if_neg (by omega)])
  · have n_6 : ¬ (60 ≤ ev) := by omega
    refine lv_aload_n hx hb dX7_tell_9 rfl (lv_at hl 0 rfl) ?_
    refine rg_14 F hK hR dX7_tell_10 ?_
    refine lv_aload_n hx hb dX7_tell_13 rfl (lv_at hl 0 rfl) ?_
    refine rg_13 F hK hR dX7_tell_14 ?_
    refine lv_eq (hev) ?_
    refine lv_iload_n hx hb dX7_tell_17 rfl (lv_at hl 1 rfl) ?_
    refine rs_14 F hK hR (by omega) dX7_tell_18 (fun H locs hR => ?_)
    refine lv_aload_n hx hb dX7_tell_19 rfl (lv_at hl 0 rfl) ?_
    refine rg_15 F hK hR dX7_tell_20 ?_
    refine lv_aload_n hx hb dX7_tell_23 rfl (lv_at hl 0 rfl) ?_
    refine rg_13 F hK hR dX7_tell_24 ?_
    refine lv_eq ((m2_nk (by decide)).trans (hev)) ?_
    refine lv_iload_n hx hb dX7_tell_27 rfl (lv_at hl 2 rfl) ?_
    refine rs_15 F hK hR (by omega) dX7_tell_28 (fun H locs hR => ?_)
    refine lv_aload_n hx hb dX7_tell_29 rfl (lv_at hl 0 rfl) ?_
    refine lv_dup hx hb dX7_tell_30 rfl ?_
    refine rg_13 F hK hR dX7_tell_31 ?_
    refine lv_eq (((m2_nk (by decide)).trans (m2_nk (by decide))).trans (hev)) ?_
    refine lv_iconst (v := nI 1) hx hb dX7_tell_34 (by decide) ?_
    refine nv_iadd hx hb dX7_tell_35 ?_
    refine rp_13 F hK hR dX7_tell_36 (fun H locs hR => ?_)
    exact gr_v F hr hlk hK hR dX7_tell_39 (by simp only [sp_tell, if_pos c_6])
set_option maxHeartbeats 4000000 in
set_option maxRecDepth 100000 in
/-- arise(what) -/
theorem c_X7_arise (l : Launch) (G : gw_G) (A : Nat → Prop) (adr : Nat → Nat) (S X : Nat → Nat → Int32) (w : Int32)  : gm l yX7_arise cX7_arise 2 (some .int) (rmL 0) 0 0 A [.ref (adr 0), .int w] (gW G A adr (rcel G adr S X)) (gW G A adr (rcel G adr (sp_ar S w) X)) (some (.int w)) := by
  refine gm_of (own := RX7) (by decide) rfl (Nat.le_of_ble_eq_true rfl) ?_
  intro p e s m below meth c ls F hml hr hlk hnm hK hR hl
  have hx := F.1
  have hb := F.2.1
  have hl : lv_has ls 2 [(0, .ref (adr 0)), (1, .int w)] := hl
  refine lv_aload_n hx hb dX7_arise_0 rfl (lv_at hl 0 rfl) ?_
  refine lv_dup hx hb dX7_arise_1 rfl ?_
  refine rg_18 F hK hR dX7_arise_2 ?_
  refine lv_iload_n hx hb dX7_arise_5 rfl (lv_at hl 1 rfl) ?_
  refine lv_bipush (v := nI 10) hx hb dX7_arise_6 (by decide) ?_
  refine lv_icmp_ge (tgt := 15) hx hb dX7_arise_8 (by decide) (fun c_8 => ?_) (fun c_8 => ?_)
  · have n_8 := Int32.not_lt.mpr c_8
    refine lv_iconst (v := nI 0) hx hb dX7_arise_15 (by decide) ?_
    refine lv_iadd hx hb dX7_arise_16 ?_
    refine rp_18 F hK hR dX7_arise_17 (fun H locs hR => ?_)
    refine lv_iload_n hx hb dX7_arise_20 rfl (lv_at hl 1 rfl) ?_
    exact gr_i F hr hlk hK hR dX7_arise_21 (rfl) (by simp only [sp_ar, if_pos c_8])
  · have n_8 := Int32.not_le.mp c_8
    refine lv_iconst (v := nI 1) hx hb dX7_arise_11 (by decide) ?_
    refine lv_goto (tgt := 16) hx hb dX7_arise_12 (by decide) ?_
    refine lv_iadd hx hb dX7_arise_16 ?_
    refine rp_18 F hK hR dX7_arise_17 (fun H locs hR => ?_)
    refine lv_iload_n hx hb dX7_arise_20 rfl (lv_at hl 1 rfl) ?_
    exact gr_i F hr hlk hK hR dX7_arise_21 (rfl) (by simp only [sp_ar, if_neg c_8])
set_option maxHeartbeats 4000000 in
set_option maxRecDepth 100000 in
/-- push(what, a, b) -/
theorem c_X7_push (l : Launch) (G : gw_G) (A : Nat → Prop) (adr : Nat → Nat) (S X : Nat → Nat → Int32) (f : Nat) (w a b : Int32) (hf0 : X 22 0 = nI f) (hf : f < 300) : gm l yX7_push cX7_push 4 none (rmL 0) 0 0 A [.ref (adr 0), .int w, .int a, .int b] (gW G A adr (rcel G adr S X)) (gW G A adr (rcel G adr S (rf_push X f w a b))) none := by
  refine gm_of (own := RX7) (by decide) rfl (Nat.le_of_ble_eq_true rfl) ?_
  intro p e s m below meth c ls F hml hr hlk hnm hK hR hl
  have hx := F.1
  have hb := F.2.1
  have hl : lv_has ls 4 [(0, .ref (adr 0)), (1, .int w), (2, .int a), (3, .int b)] := hl
  refine lv_aload_n hx hb dX7_push_0 rfl (lv_at hl 0 rfl) ?_
  refine rg_23 F hK hR dX7_push_1 ?_
  refine lv_aload_n hx hb dX7_push_4 rfl (lv_at hl 0 rfl) ?_
  refine rg_22 F hK hR dX7_push_5 ?_
  refine lv_eq (hf0) ?_
  refine lv_iload_n hx hb dX7_push_8 rfl (lv_at hl 1 rfl) ?_
  refine rs_23 F hK hR (by omega) dX7_push_9 (fun H locs hR => ?_)
  refine lv_aload_n hx hb dX7_push_10 rfl (lv_at hl 0 rfl) ?_
  refine rg_24 F hK hR dX7_push_11 ?_
  refine lv_aload_n hx hb dX7_push_14 rfl (lv_at hl 0 rfl) ?_
  refine rg_22 F hK hR dX7_push_15 ?_
  refine lv_eq ((m2_nk (by decide)).trans (hf0)) ?_
  refine lv_iload_n hx hb dX7_push_18 rfl (lv_at hl 2 rfl) ?_
  refine rs_24 F hK hR (by omega) dX7_push_19 (fun H locs hR => ?_)
  refine lv_aload_n hx hb dX7_push_20 rfl (lv_at hl 0 rfl) ?_
  refine rg_25 F hK hR dX7_push_21 ?_
  refine lv_aload_n hx hb dX7_push_24 rfl (lv_at hl 0 rfl) ?_
  refine rg_22 F hK hR dX7_push_25 ?_
  refine lv_eq (((m2_nk (by decide)).trans (m2_nk (by decide))).trans (hf0)) ?_
  refine lv_iload_n hx hb dX7_push_28 rfl (lv_at hl 3 rfl) ?_
  refine rs_25 F hK hR (by omega) dX7_push_29 (fun H locs hR => ?_)
  refine lv_aload_n hx hb dX7_push_30 rfl (lv_at hl 0 rfl) ?_
  refine rg_26 F hK hR dX7_push_31 ?_
  refine lv_aload_n hx hb dX7_push_34 rfl (lv_at hl 0 rfl) ?_
  refine rg_22 F hK hR dX7_push_35 ?_
  refine lv_eq ((((m2_nk (by decide)).trans (m2_nk (by decide))).trans (m2_nk (by decide))).trans (hf0)) ?_
  refine lv_iconst (v := nI 0) hx hb dX7_push_38 (by decide) ?_
  refine rs_26 F hK hR (by omega) dX7_push_39 (fun H locs hR => ?_)
  refine lv_aload_n hx hb dX7_push_40 rfl (lv_at hl 0 rfl) ?_
  refine rg_27 F hK hR dX7_push_41 ?_
  refine lv_aload_n hx hb dX7_push_44 rfl (lv_at hl 0 rfl) ?_
  refine rg_22 F hK hR dX7_push_45 ?_
  refine lv_eq (((((m2_nk (by decide)).trans (m2_nk (by decide))).trans (m2_nk (by decide))).trans (m2_nk (by decide))).trans (hf0)) ?_
  refine lv_iconst (v := nI 0) hx hb dX7_push_48 (by decide) ?_
  refine rs_27 F hK hR (by omega) dX7_push_49 (fun H locs hR => ?_)
  refine lv_aload_n hx hb dX7_push_50 rfl (lv_at hl 0 rfl) ?_
  refine rg_28 F hK hR dX7_push_51 ?_
  refine lv_aload_n hx hb dX7_push_54 rfl (lv_at hl 0 rfl) ?_
  refine rg_22 F hK hR dX7_push_55 ?_
  refine lv_eq ((((((m2_nk (by decide)).trans (m2_nk (by decide))).trans (m2_nk (by decide))).trans (m2_nk (by decide))).trans (m2_nk (by decide))).trans (hf0)) ?_
  refine lv_iconst (v := nI 0) hx hb dX7_push_58 (by decide) ?_
  refine rs_28 F hK hR (by omega) dX7_push_59 (fun H locs hR => ?_)
  refine lv_aload_n hx hb dX7_push_60 rfl (lv_at hl 0 rfl) ?_
  refine lv_dup hx hb dX7_push_61 rfl ?_
  refine rg_22 F hK hR dX7_push_62 ?_
  refine lv_eq (((((((m2_nk (by decide)).trans (m2_nk (by decide))).trans (m2_nk (by decide))).trans (m2_nk (by decide))).trans (m2_nk (by decide))).trans (m2_nk (by decide))).trans (hf0)) ?_
  refine lv_iconst (v := nI 1) hx hb dX7_push_65 (by decide) ?_
  refine nv_iadd hx hb dX7_push_66 ?_
  refine rp_22 F hK hR dX7_push_67 (fun H locs hR => ?_)
  exact gr_v F hr hlk hK hR dX7_push_70 (rfl)
set_option maxHeartbeats 4000000 in
set_option maxRecDepth 100000 in
/-- get(x, f) -/
theorem c_X7_get (l : Launch) (G : gw_G) (A : Nat → Prop) (adr : Nat → Nat) (S X : Nat → Nat → Int32) (x f : Nat) (hxx : x < 12) (hff : f < 4) : gm l yX7_get cX7_get 3 (some .int) (rmL 0) 0 0 A [.ref (adr 0), .int (nI x), .int (nI f)] (gW G A adr (rcel G adr S X)) (gW G A adr (rcel G adr S X)) (some (.int (sp_get S x f))) := by
  refine gm_of (own := RX7) (by decide) rfl (Nat.le_of_ble_eq_true rfl) ?_
  intro p e s m below meth c ls F hml hr hlk hnm hK hR hl
  have hx := F.1
  have hb := F.2.1
  have hl : lv_has ls 3 [(0, .ref (adr 0)), (1, .int (nI x)), (2, .int (nI f))] := hl
  refine lv_aload_n hx hb dX7_get_0 rfl (lv_at hl 0 rfl) ?_
  refine rg_6 F hK hR dX7_get_1 ?_
  refine lv_iconst (v := nI 4) hx hb dX7_get_4 (by decide) ?_
  refine lv_iload_n hx hb dX7_get_5 rfl (lv_at hl 1 rfl) ?_
  refine nv_imul hx hb dX7_get_6 ?_
  refine lv_iload_n hx hb dX7_get_7 rfl (lv_at hl 2 rfl) ?_
  refine nv_iadd hx hb dX7_get_8 ?_
  refine ri_6 F hK hR (by omega) dX7_get_9 ?_
  exact gr_i F hr hlk hK hR dX7_get_10 (rfl) (rfl)
set_option maxHeartbeats 4000000 in
set_option maxRecDepth 100000 in
/-- set(x, f, v) -/
theorem c_X7_set (l : Launch) (G : gw_G) (A : Nat → Prop) (adr : Nat → Nat) (S X : Nat → Nat → Int32) (x f : Nat) (v : Int32) (hxx : x < 12) (hff : f < 4) : gm l yX7_set cX7_set 4 none (rmL 0) 0 0 A [.ref (adr 0), .int (nI x), .int (nI f), .int v] (gW G A adr (rcel G adr S X)) (gW G A adr (rcel G adr (sp_set S x f v) X)) none := by
  refine gm_of (own := RX7) (by decide) rfl (Nat.le_of_ble_eq_true rfl) ?_
  intro p e s m below meth c ls F hml hr hlk hnm hK hR hl
  have hx := F.1
  have hb := F.2.1
  have hl : lv_has ls 4 [(0, .ref (adr 0)), (1, .int (nI x)), (2, .int (nI f)), (3, .int v)] := hl
  refine lv_aload_n hx hb dX7_set_0 rfl (lv_at hl 0 rfl) ?_
  refine rg_7 F hK hR dX7_set_1 ?_
  refine lv_iconst (v := nI 4) hx hb dX7_set_4 (by decide) ?_
  refine lv_iload_n hx hb dX7_set_5 rfl (lv_at hl 1 rfl) ?_
  refine nv_imul hx hb dX7_set_6 ?_
  refine lv_iload_n hx hb dX7_set_7 rfl (lv_at hl 2 rfl) ?_
  refine nv_iadd hx hb dX7_set_8 ?_
  refine ri_7 F hK hR (by omega) dX7_set_9 ?_
  refine lv_if_ne (tgt := 24) hx hb dX7_set_10 (by decide) (fun c_10 => ?_) (fun c_10 => ?_)
  · exact gr_v F hr hlk hK hR dX7_set_24 (by simp [sp_set, c_10])
  · refine lv_aload_n hx hb dX7_set_13 rfl (lv_at hl 0 rfl) ?_
    refine rg_6 F hK hR dX7_set_14 ?_
    refine lv_iconst (v := nI 4) hx hb dX7_set_17 (by decide) ?_
    refine lv_iload_n hx hb dX7_set_18 rfl (lv_at hl 1 rfl) ?_
    refine nv_imul hx hb dX7_set_19 ?_
    refine lv_iload_n hx hb dX7_set_20 rfl (lv_at hl 2 rfl) ?_
    refine nv_iadd hx hb dX7_set_21 ?_
    refine lv_iload_n hx hb dX7_set_22 rfl (lv_at hl 3 rfl) ?_
    refine rs_6 F hK hR (by omega) dX7_set_23 (fun H locs hR => ?_)
    exact gr_v F hr hlk hK hR dX7_set_24 (by simp [sp_set, c_10])
set_option maxHeartbeats 4000000 in
set_option maxRecDepth 100000 in
/-- cause() -/
theorem c_X7_cause (l : Launch) (G : gw_G) (A : Nat → Prop) (adr : Nat → Nat) (S X : Nat → Nat → Int32)   : gm l yX7_cause cX7_cause 1 (some .int) (rmL 0) 0 0 A [.ref (adr 0)] (gW G A adr (rcel G adr S X)) (gW G A adr (rcel G adr S X)) (some (.int (X 20 0))) := by
  refine gm_of (own := RX7) (by decide) rfl (Nat.le_of_ble_eq_true rfl) ?_
  intro p e s m below meth c ls F hml hr hlk hnm hK hR hl
  have hx := F.1
  have hb := F.2.1
  have hl : lv_has ls 1 [(0, .ref (adr 0))] := hl
  refine lv_aload_n hx hb dX7_cause_0 rfl (lv_at hl 0 rfl) ?_
  refine rg_20 F hK hR dX7_cause_1 ?_
  exact gr_i F hr hlk hK hR dX7_cause_4 (rfl) (rfl)
set_option maxHeartbeats 4000000 in
set_option maxRecDepth 100000 in
/-- count(what) -/
theorem c_X7_count (l : Launch) (G : gw_G) (A : Nat → Prop) (adr : Nat → Nat) (S X : Nat → Nat → Int32) (x0 : Int32)  : gm l yX7_count cX7_count 2 (some .int) (rmL 0) 0 0 A [.ref (adr 0), .int x0] (gW G A adr (rcel G adr S X)) (gW G A adr (rcel G adr S X)) (some (.int (sp_count S x0))) := by
  refine gm_of (own := RX7) (by decide) rfl (Nat.le_of_ble_eq_true rfl) ?_
  intro p e s m below meth c ls F hml hr hlk hnm hK hR hl
  have hx := F.1
  have hb := F.2.1
  have hl : lv_has ls 2 [(0, .ref (adr 0)), (1, .int x0)] := hl
  refine lv_iload_n hx hb dX7_count_0 rfl (lv_at hl 1 rfl) ?_
  refine lv_if_ne (tgt := 11) hx hb dX7_count_1 (by decide) (fun c_1 => ?_) (fun c_1 => ?_)
  · refine lv_iload_n hx hb dX7_count_11 rfl (lv_at hl 1 rfl) ?_
    refine lv_iconst (v := nI 1) hx hb dX7_count_12 (by decide) ?_
    refine lv_icmp_ne (tgt := 23) hx hb dX7_count_13 (by decide) (fun c_13 => ?_) (fun c_13 => ?_)
    · refine lv_iload_n hx hb dX7_count_23 rfl (lv_at hl 1 rfl) ?_
      refine lv_iconst (v := nI 2) hx hb dX7_count_24 (by decide) ?_
      refine lv_icmp_ne (tgt := 35) hx hb dX7_count_25 (by decide) (fun c_25 => ?_) (fun c_25 => ?_)
      · refine lv_iload_n hx hb dX7_count_35 rfl (lv_at hl 1 rfl) ?_
        refine lv_iconst (v := nI 3) hx hb dX7_count_36 (by decide) ?_
        refine lv_icmp_ne (tgt := 47) hx hb dX7_count_37 (by decide) (fun c_37 => ?_) (fun c_37 => ?_)
        · refine lv_bipush (v := (-3)) hx hb dX7_count_47 (by decide) ?_
          exact gr_i F hr hlk hK hR dX7_count_49 (by unfold sp_count; repeat (first | rw [if_pos c_1] | rw [if_neg c_1] | rw [if_neg (not_not_intro c_1)] | rw [if_pos c_13] | rw [if_neg c_13] | rw [if_neg (not_not_intro c_13)] | rw [if_pos c_25] | rw [if_neg c_25] | rw [if_neg (not_not_intro c_25)] | rw [if_pos c_37] | rw [if_neg c_37] | rw [if_neg (not_not_intro c_37)])) (rfl)
        · refine lv_aload_n hx hb dX7_count_40 rfl (lv_at hl 0 rfl) ?_
          refine rg_18 F hK hR dX7_count_41 ?_
          refine lv_goto (tgt := 49) hx hb dX7_count_44 (by decide) ?_
          exact gr_i F hr hlk hK hR dX7_count_49 (by unfold sp_count; repeat (first | rw [if_pos c_1] | rw [if_neg c_1] | rw [if_neg (not_not_intro c_1)] | rw [if_pos c_13] | rw [if_neg c_13] | rw [if_neg (not_not_intro c_13)] | rw [if_pos c_25] | rw [if_neg c_25] | rw [if_neg (not_not_intro c_25)] | rw [if_pos c_37] | rw [if_neg c_37] | rw [if_neg (not_not_intro c_37)])) (rfl)
      · refine lv_aload_n hx hb dX7_count_28 rfl (lv_at hl 0 rfl) ?_
        refine rg_17 F hK hR dX7_count_29 ?_
        refine lv_goto (tgt := 49) hx hb dX7_count_32 (by decide) ?_
        exact gr_i F hr hlk hK hR dX7_count_49 (by unfold sp_count; repeat (first | rw [if_pos c_1] | rw [if_neg c_1] | rw [if_neg (not_not_intro c_1)] | rw [if_pos c_13] | rw [if_neg c_13] | rw [if_neg (not_not_intro c_13)] | rw [if_pos c_25] | rw [if_neg c_25] | rw [if_neg (not_not_intro c_25)])) (rfl)
    · refine lv_aload_n hx hb dX7_count_16 rfl (lv_at hl 0 rfl) ?_
      refine rg_16 F hK hR dX7_count_17 ?_
      refine lv_goto (tgt := 49) hx hb dX7_count_20 (by decide) ?_
      exact gr_i F hr hlk hK hR dX7_count_49 (by unfold sp_count; repeat (first | rw [if_pos c_1] | rw [if_neg c_1] | rw [if_neg (not_not_intro c_1)] | rw [if_pos c_13] | rw [if_neg c_13] | rw [if_neg (not_not_intro c_13)])) (rfl)
  · refine lv_aload_n hx hb dX7_count_4 rfl (lv_at hl 0 rfl) ?_
    refine rg_13 F hK hR dX7_count_5 ?_
    refine lv_goto (tgt := 49) hx hb dX7_count_8 (by decide) ?_
    exact gr_i F hr hlk hK hR dX7_count_49 (by unfold sp_count; repeat (first | rw [if_pos c_1] | rw [if_neg c_1] | rw [if_neg (not_not_intro c_1)])) (rfl)
set_option maxHeartbeats 4000000 in
set_option maxRecDepth 100000 in
/-- state(x) -/
theorem c_X7_state (l : Launch) (G : gw_G) (A : Nat → Prop) (adr : Nat → Nat) (S X : Nat → Nat → Int32) (n : Nat) (x0 : Int32) (hn0 : S 0 0 = nI n) (hn : n ≤ 12) : gm l yX7_state cX7_state 2 (some .int) (rmL 1) 0 0 A [.ref (adr 0), .int x0] (gW G A adr (rcel G adr S X)) (gW G A adr (rcel G adr S X)) (some (.int (sp_state S x0))) := by
  refine gm_of (own := RX7) (by decide) rfl (Nat.le_of_ble_eq_true rfl) ?_
  intro p e s m below meth c ls F hml hr hlk hnm hK hR hl
  have hx := F.1
  have hb := F.2.1
  have hl : lv_has ls 2 [(0, .ref (adr 0)), (1, .int x0)] := hl
  refine lv_aload_n hx hb dX7_state_0 rfl (lv_at hl 0 rfl) ?_
  refine lv_iload_n hx hb dX7_state_1 rfl (lv_at hl 1 rfl) ?_
  refine gcVi (As := [.int x0]) F hK hR hml cv_X7_87 (o := 0) rfl rfl rfl (c_X7_has l G A adr S X x0) ⟨rfl, rfl⟩ ⟨Nat.le_of_ble_eq_true rfl, Nat.le_of_ble_eq_true rfl⟩ rfl rfl hl.1 (Nat.le_of_ble_eq_true rfl) dX7_state_2 ⟨Nat.zero_le _, Nat.zero_le _⟩ (fun H locs hR => ?_)
  refine lv_if_eq (tgt := 17) hx hb dX7_state_5 (by decide) (fun c_5 => ?_) (fun c_5 => ?_)
  · refine lv_bipush (v := (-2)) hx hb dX7_state_17 (by decide) ?_
    exact gr_i F hr hlk hK hR dX7_state_19 (by rw [sp_state, if_pos c_5]) (rfl)
  · obtain ⟨x, h_x, rfl⟩ := has_yes hn0 hn c_5
    refine lv_aload_n hx hb dX7_state_8 rfl (lv_at hl 0 rfl) ?_
    refine rg_12 F hK hR dX7_state_9 ?_
    refine lv_iload_n hx hb dX7_state_12 rfl (lv_at hl 1 rfl) ?_
    refine ri_12 F hK hR (by omega) dX7_state_13 ?_
    refine lv_goto (tgt := 19) hx hb dX7_state_14 (by decide) ?_
    exact gr_i F hr hlk hK hR dX7_state_19 (by rw [sp_state, if_neg c_5, nI_clamp (by omega)]) (rfl)
set_option maxHeartbeats 4000000 in
set_option maxRecDepth 100000 in
/-- row(x) -/
theorem c_X7_row (l : Launch) (G : gw_G) (A : Nat → Prop) (adr : Nat → Nat) (S X : Nat → Nat → Int32) (n : Nat) (x0 : Int32) (hn0 : S 0 0 = nI n) (hn : n ≤ 12) : gm l yX7_row cX7_row 2 (some .int) (rmL 1) 0 0 A [.ref (adr 0), .int x0] (gW G A adr (rcel G adr S X)) (gW G A adr (rcel G adr S X)) (some (.int (sp_row S x0))) := by
  refine gm_of (own := RX7) (by decide) rfl (Nat.le_of_ble_eq_true rfl) ?_
  intro p e s m below meth c ls F hml hr hlk hnm hK hR hl
  have hx := F.1
  have hb := F.2.1
  have hl : lv_has ls 2 [(0, .ref (adr 0)), (1, .int x0)] := hl
  refine lv_aload_n hx hb dX7_row_0 rfl (lv_at hl 0 rfl) ?_
  refine lv_iload_n hx hb dX7_row_1 rfl (lv_at hl 1 rfl) ?_
  refine gcVi (As := [.int x0]) F hK hR hml cv_X7_87 (o := 0) rfl rfl rfl (c_X7_has l G A adr S X x0) ⟨rfl, rfl⟩ ⟨Nat.le_of_ble_eq_true rfl, Nat.le_of_ble_eq_true rfl⟩ rfl rfl hl.1 (Nat.le_of_ble_eq_true rfl) dX7_row_2 ⟨Nat.zero_le _, Nat.zero_le _⟩ (fun H locs hR => ?_)
  refine lv_if_eq (tgt := 19) hx hb dX7_row_5 (by decide) (fun c_5 => ?_) (fun c_5 => ?_)
  · refine lv_bipush (v := (-2)) hx hb dX7_row_19 (by decide) ?_
    exact gr_i F hr hlk hK hR dX7_row_21 (by rw [sp_row, if_pos c_5]) (rfl)
  · obtain ⟨x, h_x, rfl⟩ := has_yes hn0 hn c_5
    refine lv_aload_n hx hb dX7_row_8 rfl (lv_at hl 0 rfl) ?_
    refine rg_8 F hK hR dX7_row_9 ?_
    refine lv_iload_n hx hb dX7_row_12 rfl (lv_at hl 1 rfl) ?_
    refine ri_8 F hK hR (by omega) dX7_row_13 ?_
    refine lv_iconst (v := nI 1) hx hb dX7_row_14 (by decide) ?_
    refine lv_isub hx hb dX7_row_15 ?_
    refine lv_goto (tgt := 21) hx hb dX7_row_16 (by decide) ?_
    exact gr_i F hr hlk hK hR dX7_row_21 (by rw [sp_row, if_neg c_5, nI_clamp (by omega)]) (rfl)
set_option maxHeartbeats 4000000 in
set_option maxRecDepth 100000 in
/-- field(x, f) -/
theorem c_X7_field (l : Launch) (G : gw_G) (A : Nat → Prop) (adr : Nat → Nat) (S X : Nat → Nat → Int32) (n : Nat) (x0 x1 : Int32) (hn0 : S 0 0 = nI n) (hn : n ≤ 12) : gm l yX7_field cX7_field 3 (some .int) (rmL 1) 0 0 A [.ref (adr 0), .int x0, .int x1] (gW G A adr (rcel G adr S X)) (gW G A adr (rcel G adr S X)) (some (.int (sp_field S x0 x1))) := by
  refine gm_of (own := RX7) (by decide) rfl (Nat.le_of_ble_eq_true rfl) ?_
  intro p e s m below meth c ls F hml hr hlk hnm hK hR hl
  have hx := F.1
  have hb := F.2.1
  have hl : lv_has ls 3 [(0, .ref (adr 0)), (1, .int x0), (2, .int x1)] := hl
  refine lv_aload_n hx hb dX7_field_0 rfl (lv_at hl 0 rfl) ?_
  refine lv_iload_n hx hb dX7_field_1 rfl (lv_at hl 1 rfl) ?_
  refine gcVi (As := [.int x0]) F hK hR hml cv_X7_87 (o := 0) rfl rfl rfl (c_X7_has l G A adr S X x0) ⟨rfl, rfl⟩ ⟨Nat.le_of_ble_eq_true rfl, Nat.le_of_ble_eq_true rfl⟩ rfl rfl hl.1 (Nat.le_of_ble_eq_true rfl) dX7_field_2 ⟨Nat.zero_le _, Nat.zero_le _⟩ (fun H locs hR => ?_)
  refine lv_if_eq (tgt := 24) hx hb dX7_field_5 (by decide) (fun c_5 => ?_) (fun c_5 => ?_)
  · refine lv_iconst (v := nI 0) hx hb dX7_field_24 (by decide) ?_
    exact gr_i F hr hlk hK hR dX7_field_25 (by simp [sp_field, c_5]) (rfl)
  · obtain ⟨x, h_x, rfl⟩ := has_yes hn0 hn c_5
    refine lv_iload_n hx hb dX7_field_8 rfl (lv_at hl 2 rfl) ?_
    refine gcS (As := [.int x1]) F hml cs_X7_95 (c_X7_isField l x1) ⟨rfl, rfl⟩ ⟨Nat.le_of_ble_eq_true rfl, Nat.le_of_ble_eq_true rfl⟩ rfl rfl hl.1 (Nat.le_of_ble_eq_true rfl) dX7_field_9 ⟨Nat.zero_le _, Nat.zero_le _⟩ ?_
    refine lv_if_eq (tgt := 24) hx hb dX7_field_12 (by decide) (fun c_12 => ?_) (fun c_12 => ?_)
    · refine lv_iconst (v := nI 0) hx hb dX7_field_24 (by decide) ?_
      exact gr_i F hr hlk hK hR dX7_field_25 (by simp [sp_field, c_5, c_12]) (rfl)
    · obtain ⟨f, h_f, rfl⟩ := isF_yes c_12
      refine lv_aload_n hx hb dX7_field_15 rfl (lv_at hl 0 rfl) ?_
      refine lv_iload_n hx hb dX7_field_16 rfl (lv_at hl 1 rfl) ?_
      refine lv_iload_n hx hb dX7_field_17 rfl (lv_at hl 2 rfl) ?_
      refine gcVi (As := [.int (nI x), .int (nI f)]) F hK hR hml cv_X7_162 (o := 0) rfl rfl rfl (c_X7_get l G A adr S X x f (by omega) (by omega)) ⟨rfl, rfl⟩ ⟨Nat.le_of_ble_eq_true rfl, Nat.le_of_ble_eq_true rfl⟩ rfl rfl hl.1 (Nat.le_of_ble_eq_true rfl) dX7_field_18 ⟨Nat.zero_le _, Nat.zero_le _⟩ (fun H locs hR => ?_)
      refine lv_goto (tgt := 25) hx hb dX7_field_21 (by decide) ?_
      exact gr_i F hr hlk hK hR dX7_field_25 (by rw [sp_field, if_neg c_5, if_neg c_12, nI_clamp (by omega), nI_clamp (by omega)]; rfl) (rfl)
end
section
/-! THE REFERENCE, 2 -/
def sp_event (S : Nat → Nat → Int32) (x0 x1 : Int32) : Int32 := if x0 < 0 then nI 0 else if S 13 0 ≤ x0 then nI 0 else if x1 < 0 then nI 0 else if nI 1 < x1 then nI 0 else if x1 = 0 then S 14 x0.toNatClampNeg else S 15 x0.toNatClampNeg
def sp_item (S : Nat → Nat → Int32) (x0 x1 : Int32) : Int32 := if sp_has (S 0 0) x0 = 0 then nI 0 else if x1 < 0 then nI 0 else if S 8 x0.toNatClampNeg - nI 1 ≤ x1 then nI 0 else S 9 (20 * x0.toNatClampNeg + x1.toNatClampNeg)
theorem row_yes {M x : Int32} {r : Nat} (hM : M = nI r) (hr : r ≤ 21) (h1 : ¬ x < 0) (h2 : ¬ M - nI 1 ≤ x) : ∃ j, j + 1 < r ∧ x = nI j := by
  subst hM
  rcases Nat.eq_zero_or_pos r with q | q
  · subst q
    exfalso
    apply h2
    rw [Int32.le_iff_toInt_le]
    rw [Int32.lt_iff_toInt_lt] at h1
    have e1 : (nI 0 - nI 1).toInt = -1 := by decide
    have e2 : (0 : Int32).toInt = 0 := rfl
    omega
  · rw [pk_sub q] at h2
    obtain ⟨j, q1, q2⟩ := ix_yes rfl (by omega) h1 h2
    exact ⟨j, by omega, q2⟩
def rf_wantS (S : Nat → Nat → Int32) (ev x : Nat) : Nat → Nat → Int32 := if S 12 x = nI 3 then sp_ar S (nI 8) else if S 12 x = 0 then sp_tell (m2 S 12 x (nI 1)) ev (nI 0) (nI x) else S
def rf_wantX (S X : Nat → Nat → Int32) (f x : Nat) : Nat → Nat → Int32 := if S 12 x = nI 3 then m2 X 31 0 (nI 8) else if S 12 x = 0 then rf_push X f (nI 1) (nI x) (nI 0) else X
def rf_entS (S : Nat → Nat → Int32) (wi : Nat) : Nat → Nat → Int32 := if wi = 8 then sp_ar S (nI 9) else S
def rf_entX (X : Nat → Nat → Int32) (wi f : Nat) (ra rb : Int32) : Nat → Nat → Int32 := if wi = 8 then m2 X 31 0 (nI 9) else rf_push (m2 X 21 0 (nI (wi + 1))) f (nI 0) ra rb
def rf_wants2 (so : Nat) (a : Int32) : Int32 := if so = 7 then a else if so = 8 then a else -1
def rf_wants (S : Nat → Nat → Int32) (so : Nat) (a b c : Int32) : Int32 := if so < 1 then rf_wants2 so a else if 3 < so then rf_wants2 so a else if S 7 (4 * b.toNatClampNeg + c.toNatClampNeg) = 0 then b else -1
def sp_madeE (S : Nat → Nat → Int32) (x0 : Int32) : Int32 := if x0 = -1 then 0 else if sp_has (S 0 0) x0 = 0 then -2 else if S 1 x0.toNatClampNeg = 0 then 0 else -4
def sp_madeR (S : Nat → Nat → Int32) (n : Nat) (x0 : Int32) : Int32 := if sp_madeE S x0 = 0 then sp_makeR n else sp_madeE S x0
def sp_madeS (S : Nat → Nat → Int32) (n : Nat) (x0 : Int32) : Nat → Nat → Int32 := if sp_madeE S x0 = 0 then sp_makeS S n (nI 0) (nI 0) x0 else S
def sp_constE (S : Nat → Nat → Int32) (x0 x1 : Int32) : Int32 := if sp_has (S 0 0) x0 = 0 then -2 else if sp_isF x1 = 0 then -3 else if ¬ S 7 (4 * x0.toNatClampNeg + x1.toNatClampNeg) = 0 then -4 else if ¬ S 12 x0.toNatClampNeg = 0 then -4 else nI 1
def sp_constS (S : Nat → Nat → Int32) (x0 x1 x2 : Int32) : Nat → Nat → Int32 := if sp_constE S x0 x1 = nI 1 then m2 (m2 S 7 (4 * x0.toNatClampNeg + x1.toNatClampNeg) (nI 1)) 6 (4 * x0.toNatClampNeg + x1.toNatClampNeg) x2 else S
def sp_areIn (so : Nat) (a b c : Int32) : Int32 := match so with
  | 0 => sp_isF a
  | 1 => if sp_isF a = 0 then nI 0 else if sp_isF c = 0 then nI 0 else nI 1
  | 2 => if sp_isF a = 0 then nI 0 else if sp_isF c = 0 then nI 0 else nI 1
  | 3 => if sp_isF a = 0 then nI 0 else if sp_isF c = 0 then nI 0 else nI 1
  | 4 => sp_isF a
  | 5 => if sp_isF a = 0 then nI 0 else if sp_isF b = 0 then nI 0 else nI 1
  | 6 => if sp_isF a = 0 then nI 0 else if sp_isF b = 0 then nI 0 else nI 1
  | 7 => if b < nI 1 then nI 0 else if nI 3 < b then nI 0 else nI 1
  | 9 => if a < 0 then nI 0 else if nI 2 < a then nI 0 else nI 1
  | 11 => if a < nI 1 then nI 0 else if nI 9 < a then nI 0 else if b < -1 then nI 0 else if nI 9 < b then nI 0 else nI 1
  | _ => nI 1
def sp_isin (S : Nat → Nat → Int32) (x y : Nat) : Nat → Int32
  | 0 => nI 0
  | k + 1 => if ¬ sp_isin S x y k = 0 then nI 1 else if S 5 (3 * x + k) = nI y then nI 1 else nI 0
def sp_bearsE (S : Nat → Nat → Int32) (x0 x1 : Int32) : Int32 := if sp_has (S 0 0) x0 = 0 then -2 else if sp_has (S 0 0) x1 = 0 then -2 else if S 1 x1.toNatClampNeg = 0 then -4 else if x0.toNatClampNeg ≤ x1.toNatClampNeg then -4 else if ¬ sp_isin S x0.toNatClampNeg x1.toNatClampNeg (S 4 x0.toNatClampNeg).toNatClampNeg = 0 then -4 else if ¬ S 12 x0.toNatClampNeg = 0 then -4 else if (S 4 x0.toNatClampNeg).toNatClampNeg = 3 then -5 else 0
def sp_bearsR (S : Nat → Nat → Int32) (x0 x1 : Int32) : Int32 := if sp_bearsE S x0 x1 = 0 then nI ((S 4 x0.toNatClampNeg).toNatClampNeg + 1) else sp_bearsE S x0 x1
def sp_bearsS (S : Nat → Nat → Int32) (x0 x1 : Int32) : Nat → Nat → Int32 := if sp_bearsE S x0 x1 = 0 then m2 (m2 S 5 (3 * x0.toNatClampNeg + (S 4 x0.toNatClampNeg).toNatClampNeg) x1) 4 x0.toNatClampNeg (nI ((S 4 x0.toNatClampNeg).toNatClampNeg + 1)) else S
def sp_zero (S : Nat → Nat → Int32) (x : Nat) : Nat → Nat → Nat → Int32
  | 0 => S
  | k + 1 => m2 (sp_zero S x k) 9 (20 * x + k) (nI 0)
def sp_rowR (v : Int32) : Int32 := if v < 0 then nI 6 else -1
def sp_rowN (v : Int32) : Nat := if nI 20 < v then 20 else v.toNatClampNeg
def sp_rowS (S : Nat → Nat → Int32) (x : Nat) (v : Int32) : Nat → Nat → Int32 := if v < 0 then sp_ar S (nI 6) else sp_zero (m2 S 8 x (nI (sp_rowN v + 1))) x (sp_rowN v)
set_option maxHeartbeats 4000000 in
set_option maxRecDepth 100000 in
/-- event(i, what) -/
theorem c_X7_event (l : Launch) (G : gw_G) (A : Nat → Prop) (adr : Nat → Nat) (S X : Nat → Nat → Int32) (ev : Nat) (x0 x1 : Int32) (hev : S 13 0 = nI ev) (he : ev ≤ 60) : gm l yX7_event cX7_event 3 (some .int) (rmL 0) 0 0 A [.ref (adr 0), .int x0, .int x1] (gW G A adr (rcel G adr S X)) (gW G A adr (rcel G adr S X)) (some (.int (sp_event S x0 x1))) := by
  refine gm_of (own := RX7) (by decide) rfl (Nat.le_of_ble_eq_true rfl) ?_
  intro p e s m below meth c ls F hml hr hlk hnm hK hR hl
  have hx := F.1
  have hb := F.2.1
  have hl : lv_has ls 3 [(0, .ref (adr 0)), (1, .int x0), (2, .int x1)] := hl
  refine lv_iload_n hx hb dX7_event_0 rfl (lv_at hl 1 rfl) ?_
  refine lv_if_lt (tgt := 21) hx hb dX7_event_1 (by decide) (fun c_1 => ?_) (fun c_1 => ?_)
  · have n_1 := Int32.not_le.mpr c_1
    refine lv_iconst (v := nI 0) hx hb dX7_event_21 (by decide) ?_
    exact gr_i F hr hlk hK hR dX7_event_22 (by unfold sp_event; repeat (first | rw [if_pos c_1] | rw [if_neg c_1] | rw [if_neg (not_not_intro c_1)] | rw [if_pos n_1] | rw [if_neg n_1] | rw [if_neg (not_not_intro n_1)])) (rfl)
  · have n_1 := Int32.not_lt.mp c_1
    refine lv_iload_n hx hb dX7_event_4 rfl (lv_at hl 1 rfl) ?_
    refine lv_aload_n hx hb dX7_event_5 rfl (lv_at hl 0 rfl) ?_
    refine rg_13 F hK hR dX7_event_6 ?_
    refine lv_icmp_ge (tgt := 21) hx hb dX7_event_9 (by decide) (fun c_9 => ?_) (fun c_9 => ?_)
    · have n_9 := Int32.not_lt.mpr c_9
      refine lv_iconst (v := nI 0) hx hb dX7_event_21 (by decide) ?_
      exact gr_i F hr hlk hK hR dX7_event_22 (by unfold sp_event; repeat (first | rw [if_pos c_1] | rw [if_neg c_1] | rw [if_neg (not_not_intro c_1)] | rw [if_pos n_1] | rw [if_neg n_1] | rw [if_neg (not_not_intro n_1)] | rw [if_pos c_9] | rw [if_neg c_9] | rw [if_neg (not_not_intro c_9)] | rw [if_pos n_9] | rw [if_neg n_9] | rw [if_neg (not_not_intro n_9)])) (rfl)
    · have n_9 := Int32.not_le.mp c_9
      obtain ⟨i, h_i, rfl⟩ := ix_yes hev (by omega) c_1 c_9
      refine lv_iload_n hx hb dX7_event_12 rfl (lv_at hl 2 rfl) ?_
      refine lv_if_lt (tgt := 21) hx hb dX7_event_13 (by decide) (fun c_13 => ?_) (fun c_13 => ?_)
      · have n_13 := Int32.not_le.mpr c_13
        refine lv_iconst (v := nI 0) hx hb dX7_event_21 (by decide) ?_
        exact gr_i F hr hlk hK hR dX7_event_22 (by unfold sp_event; rw [nI_clamp (by omega)]; repeat (first | rw [if_pos c_1] | rw [if_neg c_1] | rw [if_neg (not_not_intro c_1)] | rw [if_pos n_1] | rw [if_neg n_1] | rw [if_neg (not_not_intro n_1)] | rw [if_pos c_9] | rw [if_neg c_9] | rw [if_neg (not_not_intro c_9)] | rw [if_pos n_9] | rw [if_neg n_9] | rw [if_neg (not_not_intro n_9)] | rw [if_pos c_13] | rw [if_neg c_13] | rw [if_neg (not_not_intro c_13)] | rw [if_pos n_13] | rw [if_neg n_13] | rw [if_neg (not_not_intro n_13)])) (rfl)
      · have n_13 := Int32.not_lt.mp c_13
        refine lv_iload_n hx hb dX7_event_16 rfl (lv_at hl 2 rfl) ?_
        refine lv_iconst (v := nI 1) hx hb dX7_event_17 (by decide) ?_
        refine lv_icmp_le (tgt := 23) hx hb dX7_event_18 (by decide) (fun c_18 => ?_) (fun c_18 => ?_)
        · have n_18 := Int32.not_lt.mpr c_18
          refine lv_iload_n hx hb dX7_event_23 rfl (lv_at hl 2 rfl) ?_
          refine lv_if_ne (tgt := 36) hx hb dX7_event_24 (by decide) (fun c_24 => ?_) (fun c_24 => ?_)
          · refine lv_aload_n hx hb dX7_event_36 rfl (lv_at hl 0 rfl) ?_
            refine rg_15 F hK hR dX7_event_37 ?_
            refine lv_iload_n hx hb dX7_event_40 rfl (lv_at hl 1 rfl) ?_
            refine ri_15 F hK hR (by omega) dX7_event_41 ?_
            exact gr_i F hr hlk hK hR dX7_event_42 (by unfold sp_event; rw [nI_clamp (by omega)]; repeat (first | rw [if_pos c_1] | rw [if_neg c_1] | rw [if_neg (not_not_intro c_1)] | rw [if_pos n_1] | rw [if_neg n_1] | rw [if_neg (not_not_intro n_1)] | rw [if_pos c_9] | rw [if_neg c_9] | rw [if_neg (not_not_intro c_9)] | rw [if_pos n_9] | rw [if_neg n_9] | rw [if_neg (not_not_intro n_9)] | rw [if_pos c_13] | rw [if_neg c_13] | rw [if_neg (not_not_intro c_13)] | rw [if_pos n_13] | rw [if_neg n_13] | rw [if_neg (not_not_intro n_13)] | rw [if_pos c_18] | rw [if_neg c_18] | rw [if_neg (not_not_intro c_18)] | rw [if_pos n_18] | rw [if_neg n_18] | rw [if_neg (not_not_intro n_18)] | rw [if_pos c_24] | rw [if_neg c_24] | rw [if_neg (not_not_intro c_24)])) (rfl)
          · refine lv_aload_n hx hb dX7_event_27 rfl (lv_at hl 0 rfl) ?_
            refine rg_14 F hK hR dX7_event_28 ?_
            refine lv_iload_n hx hb dX7_event_31 rfl (lv_at hl 1 rfl) ?_
            refine ri_14 F hK hR (by omega) dX7_event_32 ?_
            refine lv_goto (tgt := 42) hx hb dX7_event_33 (by decide) ?_
            exact gr_i F hr hlk hK hR dX7_event_42 (by unfold sp_event; rw [nI_clamp (by omega)]; repeat (first | rw [if_pos c_1] | rw [if_neg c_1] | rw [if_neg (not_not_intro c_1)] | rw [if_pos n_1] | rw [if_neg n_1] | rw [if_neg (not_not_intro n_1)] | rw [if_pos c_9] | rw [if_neg c_9] | rw [if_neg (not_not_intro c_9)] | rw [if_pos n_9] | rw [if_neg n_9] | rw [if_neg (not_not_intro n_9)] | rw [if_pos c_13] | rw [if_neg c_13] | rw [if_neg (not_not_intro c_13)] | rw [if_pos n_13] | rw [if_neg n_13] | rw [if_neg (not_not_intro n_13)] | rw [if_pos c_18] | rw [if_neg c_18] | rw [if_neg (not_not_intro c_18)] | rw [if_pos n_18] | rw [if_neg n_18] | rw [if_neg (not_not_intro n_18)] | rw [if_pos c_24] | rw [if_neg c_24] | rw [if_neg (not_not_intro c_24)])) (rfl)
        · have n_18 := Int32.not_le.mp c_18
          refine lv_iconst (v := nI 0) hx hb dX7_event_21 (by decide) ?_
          exact gr_i F hr hlk hK hR dX7_event_22 (by unfold sp_event; rw [nI_clamp (by omega)]; repeat (first | rw [if_pos c_1] | rw [if_neg c_1] | rw [if_neg (not_not_intro c_1)] | rw [if_pos n_1] | rw [if_neg n_1] | rw [if_neg (not_not_intro n_1)] | rw [if_pos c_9] | rw [if_neg c_9] | rw [if_neg (not_not_intro c_9)] | rw [if_pos n_9] | rw [if_neg n_9] | rw [if_neg (not_not_intro n_9)] | rw [if_pos c_13] | rw [if_neg c_13] | rw [if_neg (not_not_intro c_13)] | rw [if_pos n_13] | rw [if_neg n_13] | rw [if_neg (not_not_intro n_13)] | rw [if_pos c_18] | rw [if_neg c_18] | rw [if_neg (not_not_intro c_18)] | rw [if_pos n_18] | rw [if_neg n_18] | rw [if_neg (not_not_intro n_18)])) (rfl)
set_option maxHeartbeats 4000000 in
set_option maxRecDepth 100000 in
/-- item(x, i) -/
theorem c_X7_item (l : Launch) (G : gw_G) (A : Nat → Prop) (adr : Nat → Nat) (S X : Nat → Nat → Int32) (n : Nat) (x0 x1 : Int32) (hn0 : S 0 0 = nI n) (hn : n ≤ 12) (hrow : ∀ x, x < 12 → ∃ r, r ≤ 21 ∧ S 8 x = nI r) : gm l yX7_item cX7_item 3 (some .int) (rmL 1) 0 0 A [.ref (adr 0), .int x0, .int x1] (gW G A adr (rcel G adr S X)) (gW G A adr (rcel G adr S X)) (some (.int (sp_item S x0 x1))) := by
  refine gm_of (own := RX7) (by decide) rfl (Nat.le_of_ble_eq_true rfl) ?_
  intro p e s m below meth c ls F hml hr hlk hnm hK hR hl
  have hx := F.1
  have hb := F.2.1
  have hl : lv_has ls 3 [(0, .ref (adr 0)), (1, .int x0), (2, .int x1)] := hl
  refine lv_aload_n hx hb dX7_item_0 rfl (lv_at hl 0 rfl) ?_
  refine lv_iload_n hx hb dX7_item_1 rfl (lv_at hl 1 rfl) ?_
  refine gcVi (As := [.int x0]) F hK hR hml cv_X7_87 (o := 0) rfl rfl rfl (c_X7_has l G A adr S X x0) ⟨rfl, rfl⟩ ⟨Nat.le_of_ble_eq_true rfl, Nat.le_of_ble_eq_true rfl⟩ rfl rfl hl.1 (Nat.le_of_ble_eq_true rfl) dX7_item_2 ⟨Nat.zero_le _, Nat.zero_le _⟩ (fun H locs hR => ?_)
  refine lv_if_eq (tgt := 24) hx hb dX7_item_5 (by decide) (fun c_5 => ?_) (fun c_5 => ?_)
  · refine lv_iconst (v := nI 0) hx hb dX7_item_24 (by decide) ?_
    refine lv_goto (tgt := 39) hx hb dX7_item_25 (by decide) ?_
    exact gr_i F hr hlk hK hR dX7_item_39 (by unfold sp_item; rw [if_pos c_5]) (rfl)
  · obtain ⟨x, h_x, rfl⟩ := has_yes hn0 hn c_5
    obtain ⟨r, q1, q2⟩ := hrow x (by omega)
    refine lv_iload_n hx hb dX7_item_8 rfl (lv_at hl 2 rfl) ?_
    refine lv_if_lt (tgt := 24) hx hb dX7_item_9 (by decide) (fun c_9 => ?_) (fun c_9 => ?_)
    · have n_9 := Int32.not_le.mpr c_9
      refine lv_iconst (v := nI 0) hx hb dX7_item_24 (by decide) ?_
      refine lv_goto (tgt := 39) hx hb dX7_item_25 (by decide) ?_
      exact gr_i F hr hlk hK hR dX7_item_39 (by unfold sp_item; rw [nI_clamp (n := x) (by omega)]; repeat (first | rw [if_pos c_5] | rw [if_neg c_5] | rw [if_neg (not_not_intro c_5)] | rw [if_pos c_9] | rw [if_neg c_9] | rw [if_neg (not_not_intro c_9)] | rw [if_pos n_9] | rw [if_neg n_9] | rw [if_neg (not_not_intro n_9)])) (rfl)
    · have n_9 := Int32.not_lt.mp c_9
      refine lv_iload_n hx hb dX7_item_12 rfl (lv_at hl 2 rfl) ?_
      refine lv_aload_n hx hb dX7_item_13 rfl (lv_at hl 0 rfl) ?_
      refine rg_8 F hK hR dX7_item_14 ?_
      refine lv_iload_n hx hb dX7_item_17 rfl (lv_at hl 1 rfl) ?_
      refine ri_8 F hK hR (by omega) dX7_item_18 ?_
      refine lv_iconst (v := nI 1) hx hb dX7_item_19 (by decide) ?_
      refine lv_isub hx hb dX7_item_20 ?_
      refine lv_icmp_lt (tgt := 28) hx hb dX7_item_21 (by decide) (fun c_21 => ?_) (fun c_21 => ?_)
      · have n_21 := Int32.not_le.mpr c_21
        obtain ⟨i, h_i, rfl⟩ := row_yes q2 q1 c_9 n_21
        refine lv_aload_n hx hb dX7_item_28 rfl (lv_at hl 0 rfl) ?_
        refine rg_9 F hK hR dX7_item_29 ?_
        refine lv_bipush (v := nI 20) hx hb dX7_item_32 (by decide) ?_
        refine lv_iload_n hx hb dX7_item_34 rfl (lv_at hl 1 rfl) ?_
        refine nv_imul hx hb dX7_item_35 ?_
        refine lv_iload_n hx hb dX7_item_36 rfl (lv_at hl 2 rfl) ?_
        refine nv_iadd hx hb dX7_item_37 ?_
        refine ri_9 F hK hR (by omega) dX7_item_38 ?_
        exact gr_i F hr hlk hK hR dX7_item_39 (by unfold sp_item; rw [nI_clamp (n := x) (by omega), if_neg c_5, if_neg c_9, if_neg n_21, nI_clamp (by omega)]) (rfl)
      · have n_21 := Int32.not_lt.mp c_21
        refine lv_iconst (v := nI 0) hx hb dX7_item_24 (by decide) ?_
        refine lv_goto (tgt := 39) hx hb dX7_item_25 (by decide) ?_
        exact gr_i F hr hlk hK hR dX7_item_39 (by unfold sp_item; rw [nI_clamp (n := x) (by omega)]; repeat (first | rw [if_pos c_5] | rw [if_neg c_5] | rw [if_neg (not_not_intro c_5)] | rw [if_pos c_9] | rw [if_neg c_9] | rw [if_neg (not_not_intro c_9)] | rw [if_pos n_9] | rw [if_neg n_9] | rw [if_neg (not_not_intro n_9)] | rw [if_pos c_21] | rw [if_neg c_21] | rw [if_neg (not_not_intro c_21)] | rw [if_pos n_21] | rw [if_neg n_21] | rw [if_neg (not_not_intro n_21)])) (rfl)
set_option maxHeartbeats 4000000 in
set_option maxRecDepth 100000 in
/-- want(x) -/
theorem c_X7_want (l : Launch) (G : gw_G) (A : Nat → Prop) (adr : Nat → Nat) (S X : Nat → Nat → Int32) (ev f x : Nat) (hev : S 13 0 = nI ev) (he : ev ≤ 60) (hf0 : X 22 0 = nI f) (hf : f < 300) (hxx : x < 12) : gm l yX7_want cX7_want 2 none (rmL 1) 0 0 A [.ref (adr 0), .int (nI x)] (gW G A adr (rcel G adr S X)) (gW G A adr (rcel G adr (rf_wantS S ev x) (rf_wantX S X f x))) none := by
  refine gm_of (own := RX7) (by decide) rfl (Nat.le_of_ble_eq_true rfl) ?_
  intro p e s m below meth c ls F hml hr hlk hnm hK hR hl
  have hx := F.1
  have hb := F.2.1
  have hl : lv_has ls 2 [(0, .ref (adr 0)), (1, .int (nI x))] := hl
  refine lv_aload_n hx hb dX7_want_0 rfl (lv_at hl 0 rfl) ?_
  refine rg_12 F hK hR dX7_want_1 ?_
  refine lv_iload_n hx hb dX7_want_4 rfl (lv_at hl 1 rfl) ?_
  refine ri_12 F hK hR (by omega) dX7_want_5 ?_
  refine lv_iconst (v := nI 3) hx hb dX7_want_6 (by decide) ?_
  refine lv_icmp_ne (tgt := 23) hx hb dX7_want_7 (by decide) (fun c_7 => ?_) (fun c_7 => ?_)
  · refine lv_aload_n hx hb dX7_want_23 rfl (lv_at hl 0 rfl) ?_
    refine rg_12 F hK hR dX7_want_24 ?_
    refine lv_iload_n hx hb dX7_want_27 rfl (lv_at hl 1 rfl) ?_
    refine ri_12 F hK hR (by omega) dX7_want_28 ?_
    refine lv_if_ne (tgt := 52) hx hb dX7_want_29 (by decide) (fun c_29 => ?_) (fun c_29 => ?_)
    · exact gr_v F hr hlk hK hR dX7_want_52 (by unfold rf_wantS rf_wantX; repeat (first | rw [if_pos c_7] | rw [if_neg c_7] | rw [if_neg (not_not_intro c_7)] | rw [if_pos c_29] | rw [if_neg c_29] | rw [if_neg (not_not_intro c_29)]))
    · refine lv_aload_n hx hb dX7_want_32 rfl (lv_at hl 0 rfl) ?_
      refine rg_12 F hK hR dX7_want_33 ?_
      refine lv_iload_n hx hb dX7_want_36 rfl (lv_at hl 1 rfl) ?_
      refine lv_iconst (v := nI 1) hx hb dX7_want_37 (by decide) ?_
      refine rs_12 F hK hR (by omega) dX7_want_38 (fun H locs hR => ?_)
      refine lv_aload_n hx hb dX7_want_39 rfl (lv_at hl 0 rfl) ?_
      refine lv_iconst (v := nI 0) hx hb dX7_want_40 (by decide) ?_
      refine lv_iload_n hx hb dX7_want_41 rfl (lv_at hl 1 rfl) ?_
      refine gcVv (As := [.int (nI 0), .int (nI x)]) F hK hR hml cv_X7_118 (o := 0) rfl rfl rfl (c_X7_tell l G A adr (m2 S 12 x (nI 1)) X ev (nI 0) (nI x) ((m2_nk (by decide)).trans (hev)) (by omega)) ⟨rfl, rfl⟩ ⟨Nat.le_of_ble_eq_true rfl, Nat.le_of_ble_eq_true rfl⟩ rfl rfl hl.1 (Nat.le_of_ble_eq_true rfl) dX7_want_42 ⟨Nat.zero_le _, Nat.zero_le _⟩ (fun H locs hR => ?_)
      refine lv_aload_n hx hb dX7_want_45 rfl (lv_at hl 0 rfl) ?_
      refine lv_iconst (v := nI 1) hx hb dX7_want_46 (by decide) ?_
      refine lv_iload_n hx hb dX7_want_47 rfl (lv_at hl 1 rfl) ?_
      refine lv_iconst (v := nI 0) hx hb dX7_want_48 (by decide) ?_
      refine gcVv (As := [.int (nI 1), .int (nI x), .int (nI 0)]) F hK hR hml cv_X7_122 (o := 0) rfl rfl rfl (c_X7_push l G A adr (sp_tell (m2 S 12 x (nI 1)) ev (nI 0) (nI x)) X f (nI 1) (nI x) (nI 0) (hf0) (by omega)) ⟨rfl, rfl⟩ ⟨Nat.le_of_ble_eq_true rfl, Nat.le_of_ble_eq_true rfl⟩ rfl rfl hl.1 (Nat.le_of_ble_eq_true rfl) dX7_want_49 ⟨Nat.zero_le _, Nat.zero_le _⟩ (fun H locs hR => ?_)
      exact gr_v F hr hlk hK hR dX7_want_52 (by unfold rf_wantS rf_wantX; repeat (first | rw [if_pos c_7] | rw [if_neg c_7] | rw [if_neg (not_not_intro c_7)] | rw [if_pos c_29] | rw [if_neg c_29] | rw [if_neg (not_not_intro c_29)]))
  · refine lv_aload_n hx hb dX7_want_10 rfl (lv_at hl 0 rfl) ?_
    refine lv_aload_n hx hb dX7_want_11 rfl (lv_at hl 0 rfl) ?_
    refine lv_bipush (v := nI 8) hx hb dX7_want_12 (by decide) ?_
    refine gcVi (As := [.int (nI 8)]) F hK hR hml cv_X7_111 (o := 0) rfl rfl rfl (c_X7_arise l G A adr S X (nI 8)) ⟨rfl, rfl⟩ ⟨Nat.le_of_ble_eq_true rfl, Nat.le_of_ble_eq_true rfl⟩ rfl rfl hl.1 (Nat.le_of_ble_eq_true rfl) dX7_want_14 ⟨Nat.zero_le _, Nat.zero_le _⟩ (fun H locs hR => ?_)
    refine rp_31 F hK hR dX7_want_17 (fun H locs hR => ?_)
    refine lv_goto (tgt := 52) hx hb dX7_want_20 (by decide) ?_
    exact gr_v F hr hlk hK hR dX7_want_52 (by unfold rf_wantS rf_wantX; repeat (first | rw [if_pos c_7] | rw [if_neg c_7] | rw [if_neg (not_not_intro c_7)]))
set_option maxHeartbeats 4000000 in
set_option maxRecDepth 100000 in
/-- enter(x, m) -/
theorem c_X7_enter (l : Launch) (G : gw_G) (A : Nat → Prop) (adr : Nat → Nat) (S X : Nat → Nat → Int32) (wi f : Nat) (ra rb : Int32) (hwi : X 21 0 = nI wi) (hw8 : wi ≤ 8) (hf0 : X 22 0 = nI f) (hf : f < 300) : gm l yX7_enter cX7_enter 3 none (rmL 1) 0 0 A [.ref (adr 0), .int ra, .int rb] (gW G A adr (rcel G adr S X)) (gW G A adr (rcel G adr (rf_entS S wi) (rf_entX X wi f ra rb))) none := by
  refine gm_of (own := RX7) (by decide) rfl (Nat.le_of_ble_eq_true rfl) ?_
  intro p e s m below meth c ls F hml hr hlk hnm hK hR hl
  have hx := F.1
  have hb := F.2.1
  have hl : lv_has ls 3 [(0, .ref (adr 0)), (1, .int ra), (2, .int rb)] := hl
  refine lv_aload_n hx hb dX7_enter_0 rfl (lv_at hl 0 rfl) ?_
  refine rg_21 F hK hR dX7_enter_1 ?_
  refine lv_eq (hwi) ?_
  refine lv_bipush (v := nI 8) hx hb dX7_enter_4 (by decide) ?_
  refine nv_icmp_ne (by omega) (by omega) hx hb dX7_enter_6 (tgt := 22) (by decide) (fun c_6 => ?_) (fun c_6 => ?_)
  · refine lv_aload_n hx hb dX7_enter_22 rfl (lv_at hl 0 rfl) ?_
    refine lv_dup hx hb dX7_enter_23 rfl ?_
    refine rg_21 F hK hR dX7_enter_24 ?_
    refine lv_eq (hwi) ?_
    refine lv_iconst (v := nI 1) hx hb dX7_enter_27 (by decide) ?_
    refine nv_iadd hx hb dX7_enter_28 ?_
    refine rp_21 F hK hR dX7_enter_29 (fun H locs hR => ?_)
    refine lv_aload_n hx hb dX7_enter_32 rfl (lv_at hl 0 rfl) ?_
    refine lv_iconst (v := nI 0) hx hb dX7_enter_33 (by decide) ?_
    refine lv_iload_n hx hb dX7_enter_34 rfl (lv_at hl 1 rfl) ?_
    refine lv_iload_n hx hb dX7_enter_35 rfl (lv_at hl 2 rfl) ?_
    refine gcVv (As := [.int (nI 0), .int ra, .int rb]) F hK hR hml cv_X7_122 (o := 0) rfl rfl rfl (c_X7_push l G A adr S (m2 X 21 0 (nI (wi + 1))) f (nI 0) ra rb ((m2_nk (by decide)).trans (hf0)) (by omega)) ⟨rfl, rfl⟩ ⟨Nat.le_of_ble_eq_true rfl, Nat.le_of_ble_eq_true rfl⟩ rfl rfl hl.1 (Nat.le_of_ble_eq_true rfl) dX7_enter_36 ⟨Nat.zero_le _, Nat.zero_le _⟩ (fun H locs hR => ?_)
    exact gr_v F hr hlk hK hR dX7_enter_39 (by unfold rf_entS rf_entX; repeat (first | rw [if_pos c_6] | rw [if_neg c_6] | rw [if_neg (not_not_intro c_6)]))
  · refine lv_aload_n hx hb dX7_enter_9 rfl (lv_at hl 0 rfl) ?_
    refine lv_aload_n hx hb dX7_enter_10 rfl (lv_at hl 0 rfl) ?_
    refine lv_bipush (v := nI 9) hx hb dX7_enter_11 (by decide) ?_
    refine gcVi (As := [.int (nI 9)]) F hK hR hml cv_X7_111 (o := 0) rfl rfl rfl (c_X7_arise l G A adr S X (nI 9)) ⟨rfl, rfl⟩ ⟨Nat.le_of_ble_eq_true rfl, Nat.le_of_ble_eq_true rfl⟩ rfl rfl hl.1 (Nat.le_of_ble_eq_true rfl) dX7_enter_13 ⟨Nat.zero_le _, Nat.zero_le _⟩ (fun H locs hR => ?_)
    refine rp_31 F hK hR dX7_enter_16 (fun H locs hR => ?_)
    refine lv_goto (tgt := 39) hx hb dX7_enter_19 (by decide) ?_
    exact gr_v F hr hlk hK hR dX7_enter_39 (by unfold rf_entS rf_entX; repeat (first | rw [if_pos c_6] | rw [if_neg c_6] | rw [if_neg (not_not_intro c_6)]))
set_option maxHeartbeats 4000000 in
set_option maxRecDepth 100000 in
/-- wants(what, a, b, c) -/
theorem c_X7_wants (l : Launch) (G : gw_G) (A : Nat → Prop) (adr : Nat → Nat) (S X : Nat → Nat → Int32) (so : Nat) (ra rb rc : Int32) (hso : so ≤ 12) (hbc : 1 ≤ so → so ≤ 3 → ∃ z g, z < 12 ∧ g < 4 ∧ rb = nI z ∧ rc = nI g) : gm l yX7_wants cX7_wants 5 (some .int) (rmL 0) 0 0 A [.ref (adr 0), .int (nI so), .int ra, .int rb, .int rc] (gW G A adr (rcel G adr S X)) (gW G A adr (rcel G adr S X)) (some (.int (rf_wants S so ra rb rc))) := by
  refine gm_of (own := RX7) (by decide) rfl (Nat.le_of_ble_eq_true rfl) ?_
  intro p e s m below meth c ls F hml hr hlk hnm hK hR hl
  have hx := F.1
  have hb := F.2.1
  have hl : lv_has ls 5 [(0, .ref (adr 0)), (1, .int (nI so)), (2, .int ra), (3, .int rb), (4, .int rc)] := hl
  refine lv_iload_n hx hb dX7_wants_0 rfl (lv_at hl 1 rfl) ?_
  refine lv_iconst (v := nI 1) hx hb dX7_wants_1 (by decide) ?_
  refine nv_icmp_lt (by omega) (by omega) hx hb dX7_wants_2 (tgt := 30) (by decide) (fun c_2 => ?_) (fun c_2 => ?_)
  · have n_2 : ¬ (1 ≤ so) := by omega
    refine lv_iload_n hx hb dX7_wants_30 rfl (lv_at hl 1 rfl) ?_
    refine lv_bipush (v := nI 7) hx hb dX7_wants_31 (by decide) ?_
    refine nv_icmp_eq (by omega) (by omega) hx hb dX7_wants_33 (tgt := 42) (by decide) (fun c_33 => ?_) (fun c_33 => ?_)
    · refine lv_iload_n hx hb dX7_wants_42 rfl (lv_at hl 2 rfl) ?_
      refine lv_goto (tgt := 47) hx hb dX7_wants_43 (by decide) ?_
      exact gr_i F hr hlk hK hR dX7_wants_47 (by unfold rf_wants rf_wants2; repeat (first | rw [if_pos c_2] | rw [if_neg c_2] | rw [if_neg (not_not_intro c_2)] | rw [if_pos n_2] | rw [if_neg n_2] | rw [if_neg (not_not_intro n_2)] | rw [if_pos c_33] | rw [if_neg c_33] | rw [if_neg (not_not_intro c_33)])) (rfl)
    · refine lv_iload_n hx hb dX7_wants_36 rfl (lv_at hl 1 rfl) ?_
      refine lv_bipush (v := nI 8) hx hb dX7_wants_37 (by decide) ?_
      refine nv_icmp_ne (by omega) (by omega) hx hb dX7_wants_39 (tgt := 46) (by decide) (fun c_39 => ?_) (fun c_39 => ?_)
      · refine lv_iconst (v := (-1)) hx hb dX7_wants_46 (by decide) ?_
        exact gr_i F hr hlk hK hR dX7_wants_47 (by unfold rf_wants rf_wants2; repeat (first | rw [if_pos c_2] | rw [if_neg c_2] | rw [if_neg (not_not_intro c_2)] | rw [if_pos n_2] | rw [if_neg n_2] | rw [if_neg (not_not_intro n_2)] | rw [if_pos c_33] | rw [if_neg c_33] | rw [if_neg (not_not_intro c_33)] | rw [if_pos c_39] | rw [if_neg c_39] | rw [if_neg (not_not_intro c_39)])) (rfl)
      · refine lv_iload_n hx hb dX7_wants_42 rfl (lv_at hl 2 rfl) ?_
        refine lv_goto (tgt := 47) hx hb dX7_wants_43 (by decide) ?_
        exact gr_i F hr hlk hK hR dX7_wants_47 (by unfold rf_wants rf_wants2; repeat (first | rw [if_pos c_2] | rw [if_neg c_2] | rw [if_neg (not_not_intro c_2)] | rw [if_pos n_2] | rw [if_neg n_2] | rw [if_neg (not_not_intro n_2)] | rw [if_pos c_33] | rw [if_neg c_33] | rw [if_neg (not_not_intro c_33)] | rw [if_pos c_39] | rw [if_neg c_39] | rw [if_neg (not_not_intro c_39)])) (rfl)
  · have n_2 : ¬ (so < 1) := by omega
    refine lv_iload_n hx hb dX7_wants_5 rfl (lv_at hl 1 rfl) ?_
    refine lv_iconst (v := nI 3) hx hb dX7_wants_6 (by decide) ?_
    refine nv_icmp_gt (by omega) (by omega) hx hb dX7_wants_7 (tgt := 30) (by decide) (fun c_7 => ?_) (fun c_7 => ?_)
    · have n_7 : ¬ (so ≤ 3) := by omega
      refine lv_iload_n hx hb dX7_wants_30 rfl (lv_at hl 1 rfl) ?_
      refine lv_bipush (v := nI 7) hx hb dX7_wants_31 (by decide) ?_
      refine nv_icmp_eq (by omega) (by omega) hx hb dX7_wants_33 (tgt := 42) (by decide) (fun c_33 => ?_) (fun c_33 => ?_)
      · refine lv_iload_n hx hb dX7_wants_42 rfl (lv_at hl 2 rfl) ?_
        refine lv_goto (tgt := 47) hx hb dX7_wants_43 (by decide) ?_
        exact gr_i F hr hlk hK hR dX7_wants_47 (by unfold rf_wants rf_wants2; repeat (first | rw [if_pos c_2] | rw [if_neg c_2] | rw [if_neg (not_not_intro c_2)] | rw [if_pos n_2] | rw [if_neg n_2] | rw [if_neg (not_not_intro n_2)] | rw [if_pos c_7] | rw [if_neg c_7] | rw [if_neg (not_not_intro c_7)] | rw [if_pos n_7] | rw [if_neg n_7] | rw [if_neg (not_not_intro n_7)] | rw [if_pos c_33] | rw [if_neg c_33] | rw [if_neg (not_not_intro c_33)])) (rfl)
      · refine lv_iload_n hx hb dX7_wants_36 rfl (lv_at hl 1 rfl) ?_
        refine lv_bipush (v := nI 8) hx hb dX7_wants_37 (by decide) ?_
        refine nv_icmp_ne (by omega) (by omega) hx hb dX7_wants_39 (tgt := 46) (by decide) (fun c_39 => ?_) (fun c_39 => ?_)
        · refine lv_iconst (v := (-1)) hx hb dX7_wants_46 (by decide) ?_
          exact gr_i F hr hlk hK hR dX7_wants_47 (by unfold rf_wants rf_wants2; repeat (first | rw [if_pos c_2] | rw [if_neg c_2] | rw [if_neg (not_not_intro c_2)] | rw [if_pos n_2] | rw [if_neg n_2] | rw [if_neg (not_not_intro n_2)] | rw [if_pos c_7] | rw [if_neg c_7] | rw [if_neg (not_not_intro c_7)] | rw [if_pos n_7] | rw [if_neg n_7] | rw [if_neg (not_not_intro n_7)] | rw [if_pos c_33] | rw [if_neg c_33] | rw [if_neg (not_not_intro c_33)] | rw [if_pos c_39] | rw [if_neg c_39] | rw [if_neg (not_not_intro c_39)])) (rfl)
        · refine lv_iload_n hx hb dX7_wants_42 rfl (lv_at hl 2 rfl) ?_
          refine lv_goto (tgt := 47) hx hb dX7_wants_43 (by decide) ?_
          exact gr_i F hr hlk hK hR dX7_wants_47 (by unfold rf_wants rf_wants2; repeat (first | rw [if_pos c_2] | rw [if_neg c_2] | rw [if_neg (not_not_intro c_2)] | rw [if_pos n_2] | rw [if_neg n_2] | rw [if_neg (not_not_intro n_2)] | rw [if_pos c_7] | rw [if_neg c_7] | rw [if_neg (not_not_intro c_7)] | rw [if_pos n_7] | rw [if_neg n_7] | rw [if_neg (not_not_intro n_7)] | rw [if_pos c_33] | rw [if_neg c_33] | rw [if_neg (not_not_intro c_33)] | rw [if_pos c_39] | rw [if_neg c_39] | rw [if_neg (not_not_intro c_39)])) (rfl)
    · have n_7 : ¬ (3 < so) := by omega
      obtain ⟨z, g, hz, hg, rfl, rfl⟩ := hbc (by omega) (by omega)
      refine lv_aload_n hx hb dX7_wants_10 rfl (lv_at hl 0 rfl) ?_
      refine rg_7 F hK hR dX7_wants_11 ?_
      refine lv_iconst (v := nI 4) hx hb dX7_wants_14 (by decide) ?_
      refine lv_iload_n hx hb dX7_wants_15 rfl (lv_at hl 3 rfl) ?_
      refine nv_imul hx hb dX7_wants_16 ?_
      refine lv_iload hx hb dX7_wants_17 (lv_at hl 4 rfl) ?_
      refine nv_iadd hx hb dX7_wants_19 ?_
      refine ri_7 F hK hR (by omega) dX7_wants_20 ?_
      refine lv_if_eq (tgt := 28) hx hb dX7_wants_21 (by decide) (fun c_21 => ?_) (fun c_21 => ?_)
      · refine lv_iload_n hx hb dX7_wants_28 rfl (lv_at hl 3 rfl) ?_
        exact gr_i F hr hlk hK hR dX7_wants_29 (by unfold rf_wants; rw [if_neg (by omega), if_neg (by omega), nI_clamp (n := z) (by omega), nI_clamp (n := g) (by omega)]; repeat (first | rw [if_pos c_2] | rw [if_neg c_2] | rw [if_neg (not_not_intro c_2)] | rw [if_pos n_2] | rw [if_neg n_2] | rw [if_neg (not_not_intro n_2)] | rw [if_pos c_7] | rw [if_neg c_7] | rw [if_neg (not_not_intro c_7)] | rw [if_pos n_7] | rw [if_neg n_7] | rw [if_neg (not_not_intro n_7)] | rw [if_pos c_21] | rw [if_neg c_21] | rw [if_neg (not_not_intro c_21)])) (rfl)
      · refine lv_iconst (v := (-1)) hx hb dX7_wants_24 (by decide) ?_
        refine lv_goto (tgt := 29) hx hb dX7_wants_25 (by decide) ?_
        exact gr_i F hr hlk hK hR dX7_wants_29 (by unfold rf_wants; rw [if_neg (by omega), if_neg (by omega), nI_clamp (n := z) (by omega), nI_clamp (n := g) (by omega)]; repeat (first | rw [if_pos c_2] | rw [if_neg c_2] | rw [if_neg (not_not_intro c_2)] | rw [if_pos n_2] | rw [if_neg n_2] | rw [if_neg (not_not_intro n_2)] | rw [if_pos c_7] | rw [if_neg c_7] | rw [if_neg (not_not_intro c_7)] | rw [if_pos n_7] | rw [if_neg n_7] | rw [if_neg (not_not_intro n_7)] | rw [if_pos c_21] | rw [if_neg c_21] | rw [if_neg (not_not_intro c_21)])) (rfl)
set_option maxHeartbeats 4000000 in
set_option maxRecDepth 100000 in
/-- made(of) -/
theorem c_X7_made (l : Launch) (G : gw_G) (A : Nat → Prop) (adr : Nat → Nat) (S X : Nat → Nat → Int32) (n : Nat) (x0 : Int32) (hn0 : S 0 0 = nI n) (hn : n ≤ 12) : gm l yX7_made cX7_made 2 (some .int) (rmL 1) 0 0 A [.ref (adr 0), .int x0] (gW G A adr (rcel G adr S X)) (gW G A adr (rcel G adr (sp_madeS S n x0) X)) (some (.int (sp_madeR S n x0))) := by
  refine gm_of (own := RX7) (by decide) rfl (Nat.le_of_ble_eq_true rfl) ?_
  intro p e s m below meth c ls F hml hr hlk hnm hK hR hl
  have hx := F.1
  have hb := F.2.1
  have hl : lv_has ls 2 [(0, .ref (adr 0)), (1, .int x0)] := hl
  refine lv_iload_n hx hb dX7_made_0 rfl (lv_at hl 1 rfl) ?_
  refine lv_iconst (v := (-1)) hx hb dX7_made_1 (by decide) ?_
  refine lv_icmp_eq (tgt := 16) hx hb dX7_made_2 (by decide) (fun c_2 => ?_) (fun c_2 => ?_)
  · refine lv_iload_n hx hb dX7_made_16 rfl (lv_at hl 1 rfl) ?_
    refine lv_iconst (v := (-1)) hx hb dX7_made_17 (by decide) ?_
    refine lv_icmp_eq (tgt := 33) hx hb dX7_made_18 (by decide) (fun c_18 => ?_) (fun c_18 => absurd c_2 c_18)
    have hE : sp_madeE S x0 = 0 := by rw [sp_madeE, if_pos c_2]
    refine lv_aload_n hx hb dX7_made_33 rfl (lv_at hl 0 rfl) ?_
    refine lv_iconst (v := nI 0) hx hb dX7_made_34 (by decide) ?_
    refine lv_iconst (v := nI 0) hx hb dX7_made_35 (by decide) ?_
    refine lv_iload_n hx hb dX7_made_36 rfl (lv_at hl 1 rfl) ?_
    refine gcVi (As := [.int (nI 0), .int (nI 0), .int x0]) F hK hR hml cv_X7_91 (o := 0) rfl rfl rfl (c_X7_make l G A adr S X n (nI 0) (nI 0) x0 (hn0) hn (by decide) (by decide)) ⟨rfl, rfl⟩ ⟨Nat.le_of_ble_eq_true rfl, Nat.le_of_ble_eq_true rfl⟩ rfl rfl hl.1 (Nat.le_of_ble_eq_true rfl) dX7_made_37 ⟨Nat.zero_le _, Nat.zero_le _⟩ (fun H locs hR => ?_)
    exact gr_i F hr hlk hK hR dX7_made_40 (by rw [sp_madeR, if_pos hE]) (by rw [sp_madeS, if_pos hE])
  · refine lv_aload_n hx hb dX7_made_5 rfl (lv_at hl 0 rfl) ?_
    refine lv_iload_n hx hb dX7_made_6 rfl (lv_at hl 1 rfl) ?_
    refine gcVi (As := [.int x0]) F hK hR hml cv_X7_87 (o := 0) rfl rfl rfl (c_X7_has l G A adr S X x0) ⟨rfl, rfl⟩ ⟨Nat.le_of_ble_eq_true rfl, Nat.le_of_ble_eq_true rfl⟩ rfl rfl hl.1 (Nat.le_of_ble_eq_true rfl) dX7_made_7 ⟨Nat.zero_le _, Nat.zero_le _⟩ (fun H locs hR => ?_)
    refine lv_if_ne (tgt := 16) hx hb dX7_made_10 (by decide) (fun c_10 => ?_) (fun c_10 => ?_)
    · obtain ⟨x, h_x, rfl⟩ := has_yes hn0 hn c_10
      refine lv_iload_n hx hb dX7_made_16 rfl (lv_at hl 1 rfl) ?_
      refine lv_iconst (v := (-1)) hx hb dX7_made_17 (by decide) ?_
      refine lv_icmp_eq (tgt := 33) hx hb dX7_made_18 (by decide) (fun c_18 => absurd c_18 (c_2)) (fun c_18 => ?_)
      refine lv_aload_n hx hb dX7_made_21 rfl (lv_at hl 0 rfl) ?_
      refine rg_1 F hK hR dX7_made_22 ?_
      refine lv_iload_n hx hb dX7_made_25 rfl (lv_at hl 1 rfl) ?_
      refine ri_1 F hK hR (by omega) dX7_made_26 ?_
      refine lv_if_eq (tgt := 33) hx hb dX7_made_27 (by decide) (fun c_27 => ?_) (fun c_27 => ?_)
      · have hE : sp_madeE S (nI x) = 0 := by rw [sp_madeE, if_neg c_2, if_neg c_10, nI_clamp (by omega), if_pos c_27]
        refine lv_aload_n hx hb dX7_made_33 rfl (lv_at hl 0 rfl) ?_
        refine lv_iconst (v := nI 0) hx hb dX7_made_34 (by decide) ?_
        refine lv_iconst (v := nI 0) hx hb dX7_made_35 (by decide) ?_
        refine lv_iload_n hx hb dX7_made_36 rfl (lv_at hl 1 rfl) ?_
        refine gcVi (As := [.int (nI 0), .int (nI 0), .int (nI x)]) F hK hR hml cv_X7_91 (o := 0) rfl rfl rfl (c_X7_make l G A adr S X n (nI 0) (nI 0) (nI x) (hn0) hn (by decide) (by decide)) ⟨rfl, rfl⟩ ⟨Nat.le_of_ble_eq_true rfl, Nat.le_of_ble_eq_true rfl⟩ rfl rfl hl.1 (Nat.le_of_ble_eq_true rfl) dX7_made_37 ⟨Nat.zero_le _, Nat.zero_le _⟩ (fun H locs hR => ?_)
        exact gr_i F hr hlk hK hR dX7_made_40 (by rw [sp_madeR, if_pos hE]) (by rw [sp_madeS, if_pos hE])
      · have hE : sp_madeE S (nI x) = -4 := by rw [sp_madeE, if_neg c_2, if_neg c_10, nI_clamp (by omega), if_neg c_27]
        refine lv_bipush (v := (-4)) hx hb dX7_made_30 (by decide) ?_
        exact gr_i F hr hlk hK hR dX7_made_32 (by rw [sp_madeR, if_neg (by rw [hE]; decide), hE]) (by rw [sp_madeS, if_neg (by rw [hE]; decide)])
    · have hE : sp_madeE S x0 = -2 := by rw [sp_madeE, if_neg c_2, if_pos c_10]
      refine lv_bipush (v := (-2)) hx hb dX7_made_13 (by decide) ?_
      exact gr_i F hr hlk hK hR dX7_made_15 (by rw [sp_madeR, if_neg (by rw [hE]; decide), hE]) (by rw [sp_madeS, if_neg (by rw [hE]; decide)])
set_option maxHeartbeats 4000000 in
set_option maxRecDepth 100000 in
/-- face(defaults) -/
theorem c_X7_face (l : Launch) (G : gw_G) (A : Nat → Prop) (adr : Nat → Nat) (S X : Nat → Nat → Int32) (n : Nat) (de : Int32) (hn0 : S 0 0 = nI n) (hn : n ≤ 12) (hde : de = 0 ∨ de = 1) : gm l yX7_face cX7_face 2 (some .int) (rmL 1) 0 0 A [.ref (adr 0), .int de] (gW G A adr (rcel G adr S X)) (gW G A adr (rcel G adr (sp_makeS S n (nI 1) de (-1)) X)) (some (.int (sp_makeR n))) := by
  refine gm_of (own := RX7) (by decide) rfl (Nat.le_of_ble_eq_true rfl) ?_
  intro p e s m below meth c ls F hml hr hlk hnm hK hR hl
  have hx := F.1
  have hb := F.2.1
  have hl : lv_has ls 2 [(0, .ref (adr 0)), (1, .int de)] := hl
  refine lv_aload_n hx hb dX7_face_0 rfl (lv_at hl 0 rfl) ?_
  refine lv_iconst (v := nI 1) hx hb dX7_face_1 (by decide) ?_
  refine lv_iload_n hx hb dX7_face_2 rfl (lv_at hl 1 rfl) ?_
  refine lv_iconst (v := (-1)) hx hb dX7_face_3 (by decide) ?_
  refine gcVi (As := [.int (nI 1), .int de, .int (-1)]) F hK hR hml cv_X7_91 (o := 0) rfl rfl rfl (c_X7_make l G A adr S X n (nI 1) de (-1) (hn0) hn (by decide) (by assumption)) ⟨rfl, rfl⟩ ⟨Nat.le_of_ble_eq_true rfl, Nat.le_of_ble_eq_true rfl⟩ rfl rfl hl.1 (Nat.le_of_ble_eq_true rfl) dX7_face_4 ⟨Nat.zero_le _, Nat.zero_le _⟩ (fun H locs hR => ?_)
  exact gr_i F hr hlk hK hR dX7_face_7 (rfl) (rfl)
set_option maxHeartbeats 4000000 in
set_option maxRecDepth 100000 in
/-- constant(x, f, v) -/
theorem c_X7_constant (l : Launch) (G : gw_G) (A : Nat → Prop) (adr : Nat → Nat) (S X : Nat → Nat → Int32) (n : Nat) (x0 x1 x2 : Int32) (hn0 : S 0 0 = nI n) (hn : n ≤ 12) : gm l yX7_constant cX7_constant 4 (some .int) (rmL 1) 0 0 A [.ref (adr 0), .int x0, .int x1, .int x2] (gW G A adr (rcel G adr S X)) (gW G A adr (rcel G adr (sp_constS S x0 x1 x2) X)) (some (.int (sp_constE S x0 x1))) := by
  refine gm_of (own := RX7) (by decide) rfl (Nat.le_of_ble_eq_true rfl) ?_
  intro p e s m below meth c ls F hml hr hlk hnm hK hR hl
  have hx := F.1
  have hb := F.2.1
  have hl : lv_has ls 4 [(0, .ref (adr 0)), (1, .int x0), (2, .int x1), (3, .int x2)] := hl
  refine lv_aload_n hx hb dX7_constant_0 rfl (lv_at hl 0 rfl) ?_
  refine lv_iload_n hx hb dX7_constant_1 rfl (lv_at hl 1 rfl) ?_
  refine gcVi (As := [.int x0]) F hK hR hml cv_X7_87 (o := 0) rfl rfl rfl (c_X7_has l G A adr S X x0) ⟨rfl, rfl⟩ ⟨Nat.le_of_ble_eq_true rfl, Nat.le_of_ble_eq_true rfl⟩ rfl rfl hl.1 (Nat.le_of_ble_eq_true rfl) dX7_constant_2 ⟨Nat.zero_le _, Nat.zero_le _⟩ (fun H locs hR => ?_)
  refine lv_if_ne (tgt := 11) hx hb dX7_constant_5 (by decide) (fun c_5 => ?_) (fun c_5 => ?_)
  · obtain ⟨x, h_x, rfl⟩ := has_yes hn0 hn c_5
    refine lv_iload_n hx hb dX7_constant_11 rfl (lv_at hl 2 rfl) ?_
    refine gcS (As := [.int x1]) F hml cs_X7_95 (c_X7_isField l x1) ⟨rfl, rfl⟩ ⟨Nat.le_of_ble_eq_true rfl, Nat.le_of_ble_eq_true rfl⟩ rfl rfl hl.1 (Nat.le_of_ble_eq_true rfl) dX7_constant_12 ⟨Nat.zero_le _, Nat.zero_le _⟩ ?_
    refine lv_if_ne (tgt := 21) hx hb dX7_constant_15 (by decide) (fun c_15 => ?_) (fun c_15 => ?_)
    · obtain ⟨f, h_f, rfl⟩ := isF_yes c_15
      refine lv_aload_n hx hb dX7_constant_21 rfl (lv_at hl 0 rfl) ?_
      refine rg_7 F hK hR dX7_constant_22 ?_
      refine lv_iconst (v := nI 4) hx hb dX7_constant_25 (by decide) ?_
      refine lv_iload_n hx hb dX7_constant_26 rfl (lv_at hl 1 rfl) ?_
      refine nv_imul hx hb dX7_constant_27 ?_
      refine lv_iload_n hx hb dX7_constant_28 rfl (lv_at hl 2 rfl) ?_
      refine nv_iadd hx hb dX7_constant_29 ?_
      refine ri_7 F hK hR (by omega) dX7_constant_30 ?_
      refine lv_if_ne (tgt := 43) hx hb dX7_constant_31 (by decide) (fun c_31 => ?_) (fun c_31 => ?_)
      · have hE : sp_constE S (nI x) (nI f) = -4 := by unfold sp_constE; rw [nI_clamp (n := x) (by omega), nI_clamp (n := f) (by omega)]; repeat (first | rw [if_pos c_5] | rw [if_neg c_5] | rw [if_neg (not_not_intro c_5)] | rw [if_pos c_15] | rw [if_neg c_15] | rw [if_neg (not_not_intro c_15)] | rw [if_pos c_31] | rw [if_neg c_31] | rw [if_neg (not_not_intro c_31)])
        refine lv_bipush (v := (-4)) hx hb dX7_constant_43 (by decide) ?_
        exact gr_i F hr hlk hK hR dX7_constant_45 (hE.symm) (by rw [sp_constS, if_neg (by rw [hE]; decide)])
      · refine lv_aload_n hx hb dX7_constant_34 rfl (lv_at hl 0 rfl) ?_
        refine rg_12 F hK hR dX7_constant_35 ?_
        refine lv_iload_n hx hb dX7_constant_38 rfl (lv_at hl 1 rfl) ?_
        refine ri_12 F hK hR (by omega) dX7_constant_39 ?_
        refine lv_if_eq (tgt := 46) hx hb dX7_constant_40 (by decide) (fun c_40 => ?_) (fun c_40 => ?_)
        · have hE : sp_constE S (nI x) (nI f) = nI 1 := by unfold sp_constE; rw [nI_clamp (n := x) (by omega), nI_clamp (n := f) (by omega)]; repeat (first | rw [if_pos c_5] | rw [if_neg c_5] | rw [if_neg (not_not_intro c_5)] | rw [if_pos c_15] | rw [if_neg c_15] | rw [if_neg (not_not_intro c_15)] | rw [if_pos c_31] | rw [if_neg c_31] | rw [if_neg (not_not_intro c_31)] | rw [if_pos c_40] | rw [if_neg c_40] | rw [if_neg (not_not_intro c_40)])
          refine lv_aload_n hx hb dX7_constant_46 rfl (lv_at hl 0 rfl) ?_
          refine rg_7 F hK hR dX7_constant_47 ?_
          refine lv_iconst (v := nI 4) hx hb dX7_constant_50 (by decide) ?_
          refine lv_iload_n hx hb dX7_constant_51 rfl (lv_at hl 1 rfl) ?_
          refine nv_imul hx hb dX7_constant_52 ?_
          refine lv_iload_n hx hb dX7_constant_53 rfl (lv_at hl 2 rfl) ?_
          refine nv_iadd hx hb dX7_constant_54 ?_
          refine lv_iconst (v := nI 1) hx hb dX7_constant_55 (by decide) ?_
          refine rs_7 F hK hR (by omega) (by decide) dX7_constant_56 (fun H locs hR => ?_)
          refine lv_aload_n hx hb dX7_constant_57 rfl (lv_at hl 0 rfl) ?_
          refine rg_6 F hK hR dX7_constant_58 ?_
          refine lv_iconst (v := nI 4) hx hb dX7_constant_61 (by decide) ?_
          refine lv_iload_n hx hb dX7_constant_62 rfl (lv_at hl 1 rfl) ?_
          refine nv_imul hx hb dX7_constant_63 ?_
          refine lv_iload_n hx hb dX7_constant_64 rfl (lv_at hl 2 rfl) ?_
          refine nv_iadd hx hb dX7_constant_65 ?_
          refine lv_iload_n hx hb dX7_constant_66 rfl (lv_at hl 3 rfl) ?_
          refine rs_6 F hK hR (by omega) dX7_constant_67 (fun H locs hR => ?_)
          refine lv_iconst (v := nI 1) hx hb dX7_constant_68 (by decide) ?_
          exact gr_i F hr hlk hK hR dX7_constant_69 (hE.symm) (by rw [sp_constS, if_pos hE, nI_clamp (by omega), nI_clamp (by omega)])
        · have hE : sp_constE S (nI x) (nI f) = -4 := by unfold sp_constE; rw [nI_clamp (n := x) (by omega), nI_clamp (n := f) (by omega)]; repeat (first | rw [if_pos c_5] | rw [if_neg c_5] | rw [if_neg (not_not_intro c_5)] | rw [if_pos c_15] | rw [if_neg c_15] | rw [if_neg (not_not_intro c_15)] | rw [if_pos c_31] | rw [if_neg c_31] | rw [if_neg (not_not_intro c_31)] | rw [if_pos c_40] | rw [if_neg c_40] | rw [if_neg (not_not_intro c_40)])
          refine lv_bipush (v := (-4)) hx hb dX7_constant_43 (by decide) ?_
          exact gr_i F hr hlk hK hR dX7_constant_45 (hE.symm) (by rw [sp_constS, if_neg (by rw [hE]; decide)])
    · have hE : sp_constE S (nI x) x1 = -3 := by unfold sp_constE; rw [nI_clamp (n := x) (by omega)]; repeat (first | rw [if_pos c_5] | rw [if_neg c_5] | rw [if_neg (not_not_intro c_5)] | rw [if_pos c_15] | rw [if_neg c_15] | rw [if_neg (not_not_intro c_15)])
      refine lv_bipush (v := (-3)) hx hb dX7_constant_18 (by decide) ?_
      exact gr_i F hr hlk hK hR dX7_constant_20 (hE.symm) (by rw [sp_constS, if_neg (by rw [hE]; decide)])
  · have hE : sp_constE S x0 x1 = -2 := by unfold sp_constE; repeat (first | rw [if_pos c_5] | rw [if_neg c_5] | rw [if_neg (not_not_intro c_5)])
    refine lv_bipush (v := (-2)) hx hb dX7_constant_8 (by decide) ?_
    exact gr_i F hr hlk hK hR dX7_constant_10 (hE.symm) (by rw [sp_constS, if_neg (by rw [hE]; decide)])
set_option maxHeartbeats 4000000 in
set_option maxRecDepth 100000 in
/-- areIn(sort, a, b, c) -/
theorem c_X7_areIn (l : Launch) (so : Nat) (ra rb rc : Int32) (hso : so ≤ 12) : gs l yX7_areIn cX7_areIn 4 (some .boolean) (rmL 1) [.int (nI so), .int ra, .int rb, .int rc] (sp_areIn so ra rb rc) := by
  refine gs_of (own := RX7) (by decide) rfl (Nat.le_of_ble_eq_true rfl) ?_
  intro p e s m below meth c ls F hml hr hlk hl
  have hx := F.1
  have hb := F.2.1
  have hl : lv_has ls 4 [(0, .int (nI so)), (1, .int ra), (2, .int rb), (3, .int rc)] := hl
  refine lv_iload_n hx hb dX7_areIn_0 rfl (lv_at hl 0 rfl) ?_
  rcases (show so = 0 ∨ so = 1 ∨ so = 2 ∨ so = 3 ∨ so = 4 ∨ so = 5 ∨ so = 6 ∨ so = 7 ∨ so = 8 ∨ so = 9 ∨ so = 10 ∨ so = 11 ∨ so = 12 by omega) with rfl | rfl | rfl | rfl | rfl | rfl | rfl | rfl | rfl | rfl | rfl | rfl | rfl
  · refine lv_tableIn (x := nI 0) (tgt := 64) hx hb dX7_areIn_1 (by decide) (by decide) (off := 63) (by decide) (by decide) ?_
    refine lv_iload_n hx hb dX7_areIn_64 rfl (lv_at hl 1 rfl) ?_
    refine gcS (As := [.int ra]) F hml cs_X7_95 (c_X7_isField l ra) ⟨rfl, rfl⟩ ⟨Nat.le_of_ble_eq_true rfl, Nat.le_of_ble_eq_true rfl⟩ rfl rfl hl.1 (Nat.le_of_ble_eq_true rfl) dX7_areIn_65 ⟨Nat.zero_le _, Nat.zero_le _⟩ ?_
    exact gs_z F hr hlk dX7_areIn_68 (sp_isF01 _) (by first | rfl | (simp only [sp_areIn]; skip))
  · refine lv_tableIn (x := nI 1) (tgt := 69) hx hb dX7_areIn_1 (by decide) (by decide) (off := 68) (by decide) (by decide) ?_
    refine lv_iload_n hx hb dX7_areIn_69 rfl (lv_at hl 1 rfl) ?_
    refine gcS (As := [.int ra]) F hml cs_X7_95 (c_X7_isField l ra) ⟨rfl, rfl⟩ ⟨Nat.le_of_ble_eq_true rfl, Nat.le_of_ble_eq_true rfl⟩ rfl rfl hl.1 (Nat.le_of_ble_eq_true rfl) dX7_areIn_70 ⟨Nat.zero_le _, Nat.zero_le _⟩ ?_
    refine lv_if_eq (tgt := 87) hx hb dX7_areIn_73 (by decide) (fun c_73 => ?_) (fun c_73 => ?_)
    · refine lv_iconst (v := nI 0) hx hb dX7_areIn_87 (by decide) ?_
      exact gs_z F hr hlk dX7_areIn_88 (by decide) (by first | rfl | (simp only [sp_areIn]; repeat (first | rw [if_pos c_73] | rw [if_neg c_73] | rw [if_neg (not_not_intro c_73)])))
    · refine lv_iload_n hx hb dX7_areIn_76 rfl (lv_at hl 3 rfl) ?_
      refine gcS (As := [.int rc]) F hml cs_X7_95 (c_X7_isField l rc) ⟨rfl, rfl⟩ ⟨Nat.le_of_ble_eq_true rfl, Nat.le_of_ble_eq_true rfl⟩ rfl rfl hl.1 (Nat.le_of_ble_eq_true rfl) dX7_areIn_77 ⟨Nat.zero_le _, Nat.zero_le _⟩ ?_
      refine lv_if_eq (tgt := 87) hx hb dX7_areIn_80 (by decide) (fun c_80 => ?_) (fun c_80 => ?_)
      · refine lv_iconst (v := nI 0) hx hb dX7_areIn_87 (by decide) ?_
        exact gs_z F hr hlk dX7_areIn_88 (by decide) (by first | rfl | (simp only [sp_areIn]; repeat (first | rw [if_pos c_73] | rw [if_neg c_73] | rw [if_neg (not_not_intro c_73)] | rw [if_pos c_80] | rw [if_neg c_80] | rw [if_neg (not_not_intro c_80)])))
      · refine lv_iconst (v := nI 1) hx hb dX7_areIn_83 (by decide) ?_
        refine lv_goto (tgt := 88) hx hb dX7_areIn_84 (by decide) ?_
        exact gs_z F hr hlk dX7_areIn_88 (by decide) (by first | rfl | (simp only [sp_areIn]; repeat (first | rw [if_pos c_73] | rw [if_neg c_73] | rw [if_neg (not_not_intro c_73)] | rw [if_pos c_80] | rw [if_neg c_80] | rw [if_neg (not_not_intro c_80)])))
  · refine lv_tableIn (x := nI 2) (tgt := 69) hx hb dX7_areIn_1 (by decide) (by decide) (off := 68) (by decide) (by decide) ?_
    refine lv_iload_n hx hb dX7_areIn_69 rfl (lv_at hl 1 rfl) ?_
    refine gcS (As := [.int ra]) F hml cs_X7_95 (c_X7_isField l ra) ⟨rfl, rfl⟩ ⟨Nat.le_of_ble_eq_true rfl, Nat.le_of_ble_eq_true rfl⟩ rfl rfl hl.1 (Nat.le_of_ble_eq_true rfl) dX7_areIn_70 ⟨Nat.zero_le _, Nat.zero_le _⟩ ?_
    refine lv_if_eq (tgt := 87) hx hb dX7_areIn_73 (by decide) (fun c_73 => ?_) (fun c_73 => ?_)
    · refine lv_iconst (v := nI 0) hx hb dX7_areIn_87 (by decide) ?_
      exact gs_z F hr hlk dX7_areIn_88 (by decide) (by first | rfl | (simp only [sp_areIn]; repeat (first | rw [if_pos c_73] | rw [if_neg c_73] | rw [if_neg (not_not_intro c_73)])))
    · refine lv_iload_n hx hb dX7_areIn_76 rfl (lv_at hl 3 rfl) ?_
      refine gcS (As := [.int rc]) F hml cs_X7_95 (c_X7_isField l rc) ⟨rfl, rfl⟩ ⟨Nat.le_of_ble_eq_true rfl, Nat.le_of_ble_eq_true rfl⟩ rfl rfl hl.1 (Nat.le_of_ble_eq_true rfl) dX7_areIn_77 ⟨Nat.zero_le _, Nat.zero_le _⟩ ?_
      refine lv_if_eq (tgt := 87) hx hb dX7_areIn_80 (by decide) (fun c_80 => ?_) (fun c_80 => ?_)
      · refine lv_iconst (v := nI 0) hx hb dX7_areIn_87 (by decide) ?_
        exact gs_z F hr hlk dX7_areIn_88 (by decide) (by first | rfl | (simp only [sp_areIn]; repeat (first | rw [if_pos c_73] | rw [if_neg c_73] | rw [if_neg (not_not_intro c_73)] | rw [if_pos c_80] | rw [if_neg c_80] | rw [if_neg (not_not_intro c_80)])))
      · refine lv_iconst (v := nI 1) hx hb dX7_areIn_83 (by decide) ?_
        refine lv_goto (tgt := 88) hx hb dX7_areIn_84 (by decide) ?_
        exact gs_z F hr hlk dX7_areIn_88 (by decide) (by first | rfl | (simp only [sp_areIn]; repeat (first | rw [if_pos c_73] | rw [if_neg c_73] | rw [if_neg (not_not_intro c_73)] | rw [if_pos c_80] | rw [if_neg c_80] | rw [if_neg (not_not_intro c_80)])))
  · refine lv_tableIn (x := nI 3) (tgt := 69) hx hb dX7_areIn_1 (by decide) (by decide) (off := 68) (by decide) (by decide) ?_
    refine lv_iload_n hx hb dX7_areIn_69 rfl (lv_at hl 1 rfl) ?_
    refine gcS (As := [.int ra]) F hml cs_X7_95 (c_X7_isField l ra) ⟨rfl, rfl⟩ ⟨Nat.le_of_ble_eq_true rfl, Nat.le_of_ble_eq_true rfl⟩ rfl rfl hl.1 (Nat.le_of_ble_eq_true rfl) dX7_areIn_70 ⟨Nat.zero_le _, Nat.zero_le _⟩ ?_
    refine lv_if_eq (tgt := 87) hx hb dX7_areIn_73 (by decide) (fun c_73 => ?_) (fun c_73 => ?_)
    · refine lv_iconst (v := nI 0) hx hb dX7_areIn_87 (by decide) ?_
      exact gs_z F hr hlk dX7_areIn_88 (by decide) (by first | rfl | (simp only [sp_areIn]; repeat (first | rw [if_pos c_73] | rw [if_neg c_73] | rw [if_neg (not_not_intro c_73)])))
    · refine lv_iload_n hx hb dX7_areIn_76 rfl (lv_at hl 3 rfl) ?_
      refine gcS (As := [.int rc]) F hml cs_X7_95 (c_X7_isField l rc) ⟨rfl, rfl⟩ ⟨Nat.le_of_ble_eq_true rfl, Nat.le_of_ble_eq_true rfl⟩ rfl rfl hl.1 (Nat.le_of_ble_eq_true rfl) dX7_areIn_77 ⟨Nat.zero_le _, Nat.zero_le _⟩ ?_
      refine lv_if_eq (tgt := 87) hx hb dX7_areIn_80 (by decide) (fun c_80 => ?_) (fun c_80 => ?_)
      · refine lv_iconst (v := nI 0) hx hb dX7_areIn_87 (by decide) ?_
        exact gs_z F hr hlk dX7_areIn_88 (by decide) (by first | rfl | (simp only [sp_areIn]; repeat (first | rw [if_pos c_73] | rw [if_neg c_73] | rw [if_neg (not_not_intro c_73)] | rw [if_pos c_80] | rw [if_neg c_80] | rw [if_neg (not_not_intro c_80)])))
      · refine lv_iconst (v := nI 1) hx hb dX7_areIn_83 (by decide) ?_
        refine lv_goto (tgt := 88) hx hb dX7_areIn_84 (by decide) ?_
        exact gs_z F hr hlk dX7_areIn_88 (by decide) (by first | rfl | (simp only [sp_areIn]; repeat (first | rw [if_pos c_73] | rw [if_neg c_73] | rw [if_neg (not_not_intro c_73)] | rw [if_pos c_80] | rw [if_neg c_80] | rw [if_neg (not_not_intro c_80)])))
  · refine lv_tableIn (x := nI 4) (tgt := 64) hx hb dX7_areIn_1 (by decide) (by decide) (off := 63) (by decide) (by decide) ?_
    refine lv_iload_n hx hb dX7_areIn_64 rfl (lv_at hl 1 rfl) ?_
    refine gcS (As := [.int ra]) F hml cs_X7_95 (c_X7_isField l ra) ⟨rfl, rfl⟩ ⟨Nat.le_of_ble_eq_true rfl, Nat.le_of_ble_eq_true rfl⟩ rfl rfl hl.1 (Nat.le_of_ble_eq_true rfl) dX7_areIn_65 ⟨Nat.zero_le _, Nat.zero_le _⟩ ?_
    exact gs_z F hr hlk dX7_areIn_68 (sp_isF01 _) (by first | rfl | (simp only [sp_areIn]; skip))
  · refine lv_tableIn (x := nI 5) (tgt := 89) hx hb dX7_areIn_1 (by decide) (by decide) (off := 88) (by decide) (by decide) ?_
    refine lv_iload_n hx hb dX7_areIn_89 rfl (lv_at hl 1 rfl) ?_
    refine gcS (As := [.int ra]) F hml cs_X7_95 (c_X7_isField l ra) ⟨rfl, rfl⟩ ⟨Nat.le_of_ble_eq_true rfl, Nat.le_of_ble_eq_true rfl⟩ rfl rfl hl.1 (Nat.le_of_ble_eq_true rfl) dX7_areIn_90 ⟨Nat.zero_le _, Nat.zero_le _⟩ ?_
    refine lv_if_eq (tgt := 107) hx hb dX7_areIn_93 (by decide) (fun c_93 => ?_) (fun c_93 => ?_)
    · refine lv_iconst (v := nI 0) hx hb dX7_areIn_107 (by decide) ?_
      exact gs_z F hr hlk dX7_areIn_108 (by decide) (by first | rfl | (simp only [sp_areIn]; repeat (first | rw [if_pos c_93] | rw [if_neg c_93] | rw [if_neg (not_not_intro c_93)])))
    · refine lv_iload_n hx hb dX7_areIn_96 rfl (lv_at hl 2 rfl) ?_
      refine gcS (As := [.int rb]) F hml cs_X7_95 (c_X7_isField l rb) ⟨rfl, rfl⟩ ⟨Nat.le_of_ble_eq_true rfl, Nat.le_of_ble_eq_true rfl⟩ rfl rfl hl.1 (Nat.le_of_ble_eq_true rfl) dX7_areIn_97 ⟨Nat.zero_le _, Nat.zero_le _⟩ ?_
      refine lv_if_eq (tgt := 107) hx hb dX7_areIn_100 (by decide) (fun c_100 => ?_) (fun c_100 => ?_)
      · refine lv_iconst (v := nI 0) hx hb dX7_areIn_107 (by decide) ?_
        exact gs_z F hr hlk dX7_areIn_108 (by decide) (by first | rfl | (simp only [sp_areIn]; repeat (first | rw [if_pos c_93] | rw [if_neg c_93] | rw [if_neg (not_not_intro c_93)] | rw [if_pos c_100] | rw [if_neg c_100] | rw [if_neg (not_not_intro c_100)])))
      · refine lv_iconst (v := nI 1) hx hb dX7_areIn_103 (by decide) ?_
        refine lv_goto (tgt := 108) hx hb dX7_areIn_104 (by decide) ?_
        exact gs_z F hr hlk dX7_areIn_108 (by decide) (by first | rfl | (simp only [sp_areIn]; repeat (first | rw [if_pos c_93] | rw [if_neg c_93] | rw [if_neg (not_not_intro c_93)] | rw [if_pos c_100] | rw [if_neg c_100] | rw [if_neg (not_not_intro c_100)])))
  · refine lv_tableIn (x := nI 6) (tgt := 89) hx hb dX7_areIn_1 (by decide) (by decide) (off := 88) (by decide) (by decide) ?_
    refine lv_iload_n hx hb dX7_areIn_89 rfl (lv_at hl 1 rfl) ?_
    refine gcS (As := [.int ra]) F hml cs_X7_95 (c_X7_isField l ra) ⟨rfl, rfl⟩ ⟨Nat.le_of_ble_eq_true rfl, Nat.le_of_ble_eq_true rfl⟩ rfl rfl hl.1 (Nat.le_of_ble_eq_true rfl) dX7_areIn_90 ⟨Nat.zero_le _, Nat.zero_le _⟩ ?_
    refine lv_if_eq (tgt := 107) hx hb dX7_areIn_93 (by decide) (fun c_93 => ?_) (fun c_93 => ?_)
    · refine lv_iconst (v := nI 0) hx hb dX7_areIn_107 (by decide) ?_
      exact gs_z F hr hlk dX7_areIn_108 (by decide) (by first | rfl | (simp only [sp_areIn]; repeat (first | rw [if_pos c_93] | rw [if_neg c_93] | rw [if_neg (not_not_intro c_93)])))
    · refine lv_iload_n hx hb dX7_areIn_96 rfl (lv_at hl 2 rfl) ?_
      refine gcS (As := [.int rb]) F hml cs_X7_95 (c_X7_isField l rb) ⟨rfl, rfl⟩ ⟨Nat.le_of_ble_eq_true rfl, Nat.le_of_ble_eq_true rfl⟩ rfl rfl hl.1 (Nat.le_of_ble_eq_true rfl) dX7_areIn_97 ⟨Nat.zero_le _, Nat.zero_le _⟩ ?_
      refine lv_if_eq (tgt := 107) hx hb dX7_areIn_100 (by decide) (fun c_100 => ?_) (fun c_100 => ?_)
      · refine lv_iconst (v := nI 0) hx hb dX7_areIn_107 (by decide) ?_
        exact gs_z F hr hlk dX7_areIn_108 (by decide) (by first | rfl | (simp only [sp_areIn]; repeat (first | rw [if_pos c_93] | rw [if_neg c_93] | rw [if_neg (not_not_intro c_93)] | rw [if_pos c_100] | rw [if_neg c_100] | rw [if_neg (not_not_intro c_100)])))
      · refine lv_iconst (v := nI 1) hx hb dX7_areIn_103 (by decide) ?_
        refine lv_goto (tgt := 108) hx hb dX7_areIn_104 (by decide) ?_
        exact gs_z F hr hlk dX7_areIn_108 (by decide) (by first | rfl | (simp only [sp_areIn]; repeat (first | rw [if_pos c_93] | rw [if_neg c_93] | rw [if_neg (not_not_intro c_93)] | rw [if_pos c_100] | rw [if_neg c_100] | rw [if_neg (not_not_intro c_100)])))
  · refine lv_tableIn (x := nI 7) (tgt := 109) hx hb dX7_areIn_1 (by decide) (by decide) (off := 108) (by decide) (by decide) ?_
    refine lv_iload_n hx hb dX7_areIn_109 rfl (lv_at hl 2 rfl) ?_
    refine lv_iconst (v := nI 1) hx hb dX7_areIn_110 (by decide) ?_
    refine lv_icmp_lt (tgt := 123) hx hb dX7_areIn_111 (by decide) (fun c_111 => ?_) (fun c_111 => ?_)
    · have n_111 := Int32.not_le.mpr c_111
      refine lv_iconst (v := nI 0) hx hb dX7_areIn_123 (by decide) ?_
      exact gs_z F hr hlk dX7_areIn_124 (by decide) (by first | rfl | (simp only [sp_areIn]; repeat (first | rw [if_pos c_111] | rw [if_neg c_111] | rw [if_neg (not_not_intro c_111)] | rw [if_pos n_111] | rw [if_neg n_111] | rw [if_neg (not_not_intro n_111)])))
    · have n_111 := Int32.not_lt.mp c_111
      refine lv_iload_n hx hb dX7_areIn_114 rfl (lv_at hl 2 rfl) ?_
      refine lv_iconst (v := nI 3) hx hb dX7_areIn_115 (by decide) ?_
      refine lv_icmp_gt (tgt := 123) hx hb dX7_areIn_116 (by decide) (fun c_116 => ?_) (fun c_116 => ?_)
      · have n_116 := Int32.not_le.mpr c_116
        refine lv_iconst (v := nI 0) hx hb dX7_areIn_123 (by decide) ?_
        exact gs_z F hr hlk dX7_areIn_124 (by decide) (by first | rfl | (simp only [sp_areIn]; repeat (first | rw [if_pos c_111] | rw [if_neg c_111] | rw [if_neg (not_not_intro c_111)] | rw [if_pos n_111] | rw [if_neg n_111] | rw [if_neg (not_not_intro n_111)] | rw [if_pos c_116] | rw [if_neg c_116] | rw [if_neg (not_not_intro c_116)] | rw [if_pos n_116] | rw [if_neg n_116] | rw [if_neg (not_not_intro n_116)])))
      · have n_116 := Int32.not_lt.mp c_116
        refine lv_iconst (v := nI 1) hx hb dX7_areIn_119 (by decide) ?_
        refine lv_goto (tgt := 124) hx hb dX7_areIn_120 (by decide) ?_
        exact gs_z F hr hlk dX7_areIn_124 (by decide) (by first | rfl | (simp only [sp_areIn]; repeat (first | rw [if_pos c_111] | rw [if_neg c_111] | rw [if_neg (not_not_intro c_111)] | rw [if_pos n_111] | rw [if_neg n_111] | rw [if_neg (not_not_intro n_111)] | rw [if_pos c_116] | rw [if_neg c_116] | rw [if_neg (not_not_intro c_116)] | rw [if_pos n_116] | rw [if_neg n_116] | rw [if_neg (not_not_intro n_116)])))
  · refine lv_tableIn (x := nI 8) (tgt := 168) hx hb dX7_areIn_1 (by decide) (by decide) (off := 167) (by decide) (by decide) ?_
    refine lv_iconst (v := nI 1) hx hb dX7_areIn_168 (by decide) ?_
    exact gs_z F hr hlk dX7_areIn_169 (by decide) (by first | rfl | (simp only [sp_areIn]; skip))
  · refine lv_tableIn (x := nI 9) (tgt := 125) hx hb dX7_areIn_1 (by decide) (by decide) (off := 124) (by decide) (by decide) ?_
    refine lv_iload_n hx hb dX7_areIn_125 rfl (lv_at hl 1 rfl) ?_
    refine lv_if_lt (tgt := 138) hx hb dX7_areIn_126 (by decide) (fun c_126 => ?_) (fun c_126 => ?_)
    · have n_126 := Int32.not_le.mpr c_126
      refine lv_iconst (v := nI 0) hx hb dX7_areIn_138 (by decide) ?_
      exact gs_z F hr hlk dX7_areIn_139 (by decide) (by first | rfl | (simp only [sp_areIn]; repeat (first | rw [if_pos c_126] | rw [if_neg c_126] | rw [if_neg (not_not_intro c_126)] | rw [if_pos n_126] | rw [if_neg n_126] | rw [if_neg (not_not_intro n_126)])))
    · have n_126 := Int32.not_lt.mp c_126
      refine lv_iload_n hx hb dX7_areIn_129 rfl (lv_at hl 1 rfl) ?_
      refine lv_iconst (v := nI 2) hx hb dX7_areIn_130 (by decide) ?_
      refine lv_icmp_gt (tgt := 138) hx hb dX7_areIn_131 (by decide) (fun c_131 => ?_) (fun c_131 => ?_)
      · have n_131 := Int32.not_le.mpr c_131
        refine lv_iconst (v := nI 0) hx hb dX7_areIn_138 (by decide) ?_
        exact gs_z F hr hlk dX7_areIn_139 (by decide) (by first | rfl | (simp only [sp_areIn]; repeat (first | rw [if_pos c_126] | rw [if_neg c_126] | rw [if_neg (not_not_intro c_126)] | rw [if_pos n_126] | rw [if_neg n_126] | rw [if_neg (not_not_intro n_126)] | rw [if_pos c_131] | rw [if_neg c_131] | rw [if_neg (not_not_intro c_131)] | rw [if_pos n_131] | rw [if_neg n_131] | rw [if_neg (not_not_intro n_131)])))
      · have n_131 := Int32.not_lt.mp c_131
        refine lv_iconst (v := nI 1) hx hb dX7_areIn_134 (by decide) ?_
        refine lv_goto (tgt := 139) hx hb dX7_areIn_135 (by decide) ?_
        exact gs_z F hr hlk dX7_areIn_139 (by decide) (by first | rfl | (simp only [sp_areIn]; repeat (first | rw [if_pos c_126] | rw [if_neg c_126] | rw [if_neg (not_not_intro c_126)] | rw [if_pos n_126] | rw [if_neg n_126] | rw [if_neg (not_not_intro n_126)] | rw [if_pos c_131] | rw [if_neg c_131] | rw [if_neg (not_not_intro c_131)] | rw [if_pos n_131] | rw [if_neg n_131] | rw [if_neg (not_not_intro n_131)])))
  · refine lv_tableIn (x := nI 10) (tgt := 168) hx hb dX7_areIn_1 (by decide) (by decide) (off := 167) (by decide) (by decide) ?_
    refine lv_iconst (v := nI 1) hx hb dX7_areIn_168 (by decide) ?_
    exact gs_z F hr hlk dX7_areIn_169 (by decide) (by first | rfl | (simp only [sp_areIn]; skip))
  · refine lv_tableIn (x := nI 11) (tgt := 140) hx hb dX7_areIn_1 (by decide) (by decide) (off := 139) (by decide) (by decide) ?_
    refine lv_iload_n hx hb dX7_areIn_140 rfl (lv_at hl 1 rfl) ?_
    refine lv_iconst (v := nI 1) hx hb dX7_areIn_141 (by decide) ?_
    refine lv_icmp_lt (tgt := 166) hx hb dX7_areIn_142 (by decide) (fun c_142 => ?_) (fun c_142 => ?_)
    · have n_142 := Int32.not_le.mpr c_142
      refine lv_iconst (v := nI 0) hx hb dX7_areIn_166 (by decide) ?_
      exact gs_z F hr hlk dX7_areIn_167 (by decide) (by first | rfl | (simp only [sp_areIn]; repeat (first | rw [if_pos c_142] | rw [if_neg c_142] | rw [if_neg (not_not_intro c_142)] | rw [if_pos n_142] | rw [if_neg n_142] | rw [if_neg (not_not_intro n_142)])))
    · have n_142 := Int32.not_lt.mp c_142
      refine lv_iload_n hx hb dX7_areIn_145 rfl (lv_at hl 1 rfl) ?_
      refine lv_bipush (v := nI 9) hx hb dX7_areIn_146 (by decide) ?_
      refine lv_icmp_gt (tgt := 166) hx hb dX7_areIn_148 (by decide) (fun c_148 => ?_) (fun c_148 => ?_)
      · have n_148 := Int32.not_le.mpr c_148
        refine lv_iconst (v := nI 0) hx hb dX7_areIn_166 (by decide) ?_
        exact gs_z F hr hlk dX7_areIn_167 (by decide) (by first | rfl | (simp only [sp_areIn]; repeat (first | rw [if_pos c_142] | rw [if_neg c_142] | rw [if_neg (not_not_intro c_142)] | rw [if_pos n_142] | rw [if_neg n_142] | rw [if_neg (not_not_intro n_142)] | rw [if_pos c_148] | rw [if_neg c_148] | rw [if_neg (not_not_intro c_148)] | rw [if_pos n_148] | rw [if_neg n_148] | rw [if_neg (not_not_intro n_148)])))
      · have n_148 := Int32.not_lt.mp c_148
        refine lv_iload_n hx hb dX7_areIn_151 rfl (lv_at hl 2 rfl) ?_
        refine lv_iconst (v := (-1)) hx hb dX7_areIn_152 (by decide) ?_
        refine lv_icmp_lt (tgt := 166) hx hb dX7_areIn_153 (by decide) (fun c_153 => ?_) (fun c_153 => ?_)
        · have n_153 := Int32.not_le.mpr c_153
          refine lv_iconst (v := nI 0) hx hb dX7_areIn_166 (by decide) ?_
          exact gs_z F hr hlk dX7_areIn_167 (by decide) (by first | rfl | (simp only [sp_areIn]; repeat (first | rw [if_pos c_142] | rw [if_neg c_142] | rw [if_neg (not_not_intro c_142)] | rw [if_pos n_142] | rw [if_neg n_142] | rw [if_neg (not_not_intro n_142)] | rw [if_pos c_148] | rw [if_neg c_148] | rw [if_neg (not_not_intro c_148)] | rw [if_pos n_148] | rw [if_neg n_148] | rw [if_neg (not_not_intro n_148)] | rw [if_pos c_153] | rw [if_neg c_153] | rw [if_neg (not_not_intro c_153)] | rw [if_pos n_153] | rw [if_neg n_153] | rw [if_neg (not_not_intro n_153)])))
        · have n_153 := Int32.not_lt.mp c_153
          refine lv_iload_n hx hb dX7_areIn_156 rfl (lv_at hl 2 rfl) ?_
          refine lv_bipush (v := nI 9) hx hb dX7_areIn_157 (by decide) ?_
          refine lv_icmp_gt (tgt := 166) hx hb dX7_areIn_159 (by decide) (fun c_159 => ?_) (fun c_159 => ?_)
          · have n_159 := Int32.not_le.mpr c_159
            refine lv_iconst (v := nI 0) hx hb dX7_areIn_166 (by decide) ?_
            exact gs_z F hr hlk dX7_areIn_167 (by decide) (by first | rfl | (simp only [sp_areIn]; repeat (first | rw [if_pos c_142] | rw [if_neg c_142] | rw [if_neg (not_not_intro c_142)] | rw [if_pos n_142] | rw [if_neg n_142] | rw [if_neg (not_not_intro n_142)] | rw [if_pos c_148] | rw [if_neg c_148] | rw [if_neg (not_not_intro c_148)] | rw [if_pos n_148] | rw [if_neg n_148] | rw [if_neg (not_not_intro n_148)] | rw [if_pos c_153] | rw [if_neg c_153] | rw [if_neg (not_not_intro c_153)] | rw [if_pos n_153] | rw [if_neg n_153] | rw [if_neg (not_not_intro n_153)] | rw [if_pos c_159] | rw [if_neg c_159] | rw [if_neg (not_not_intro c_159)] | rw [if_pos n_159] | rw [if_neg n_159] | rw [if_neg (not_not_intro n_159)])))
          · have n_159 := Int32.not_lt.mp c_159
            refine lv_iconst (v := nI 1) hx hb dX7_areIn_162 (by decide) ?_
            refine lv_goto (tgt := 167) hx hb dX7_areIn_163 (by decide) ?_
            exact gs_z F hr hlk dX7_areIn_167 (by decide) (by first | rfl | (simp only [sp_areIn]; repeat (first | rw [if_pos c_142] | rw [if_neg c_142] | rw [if_neg (not_not_intro c_142)] | rw [if_pos n_142] | rw [if_neg n_142] | rw [if_neg (not_not_intro n_142)] | rw [if_pos c_148] | rw [if_neg c_148] | rw [if_neg (not_not_intro c_148)] | rw [if_pos n_148] | rw [if_neg n_148] | rw [if_neg (not_not_intro n_148)] | rw [if_pos c_153] | rw [if_neg c_153] | rw [if_neg (not_not_intro c_153)] | rw [if_pos n_153] | rw [if_neg n_153] | rw [if_neg (not_not_intro n_153)] | rw [if_pos c_159] | rw [if_neg c_159] | rw [if_neg (not_not_intro c_159)] | rw [if_pos n_159] | rw [if_neg n_159] | rw [if_neg (not_not_intro n_159)])))
  · refine lv_tableOut (x := nI 12) (tgt := 168) hx hb dX7_areIn_1 (by decide) (by decide) ?_
    refine lv_iconst (v := nI 1) hx hb dX7_areIn_168 (by decide) ?_
    exact gs_z F hr hlk dX7_areIn_169 (by decide) (by first | rfl | (simp only [sp_areIn]; skip))
end
section
/-! THE REFERENCE, 3 -/
def sp_bad (M x2 x3 x4 : Int32) : Int32 := if (¬ x2 < nI 1 ∧ ¬ nI 3 < x2 ∧ sp_has M x4 = 0) ∨ ((x2 = nI 7 ∨ x2 = nI 8) ∧ sp_has M x3 = 0) then nI 1 else nI 0
def sp_actE (S : Nat → Nat → Int32) (x0 x1 x2 x3 x4 x5 : Int32) : Int32 :=
  if sp_has (S 0 0) x0 = 0 then -2 else if ¬ sp_bad (S 0 0) x2 x3 x4 = 0 then -2 else if x1 < 0 then -3 else if nI 3 < x1 then -3 else if x2 < 0 then -3 else if nI 12 < x2 then -3 else if sp_areIn x2.toNatClampNeg x3 x4 x5 = 0 then -3
  else if x2.toNatClampNeg = 8 ∧ ¬ S 1 x3.toNatClampNeg = 0 then -4 else if ¬ S 12 x0.toNatClampNeg = 0 then -4 else if (S 10 (4 * x0.toNatClampNeg + x1.toNatClampNeg)).toNatClampNeg = 10 then -5 else 0
def sp_acts (S : Nat → Nat → Int32) (x0 x1 : Int32) : Nat := (S 10 (4 * x0.toNatClampNeg + x1.toNatClampNeg)).toNatClampNeg
def sp_act2 (S : Nat → Nat → Int32) (mm k : Nat) (x2 x3 x4 x5 : Int32) : Nat → Nat → Int32 := m2 (m2 (m2 (m2 (m2 S 11 (40 * mm + 4 * k) x2) 11 (40 * mm + 4 * k + 1) x3) 11 (40 * mm + 4 * k + 2) x4) 11 (40 * mm + 4 * k + 3) x5) 10 mm (nI (k + 1))
def sp_actR (S : Nat → Nat → Int32) (x0 x1 x2 x3 x4 x5 : Int32) : Int32 := if sp_actE S x0 x1 x2 x3 x4 x5 = 0 then nI (sp_acts S x0 x1 + 1) else sp_actE S x0 x1 x2 x3 x4 x5
def sp_actS (S : Nat → Nat → Int32) (x0 x1 x2 x3 x4 x5 : Int32) : Nat → Nat → Int32 := if sp_actE S x0 x1 x2 x3 x4 x5 = 0 then sp_act2 S (4 * x0.toNatClampNeg + x1.toNatClampNeg) (sp_acts S x0 x1) x2 x3 x4 x5 else S
theorem bad_7 {M x3 x4 : Int32} {so : Nat} (h : sp_bad M (nI so) x3 x4 = 0) (hs : so = 7 ∨ so = 8) : ¬ sp_has M x3 = 0 := by
  intro q
  unfold sp_bad at h
  rw [if_pos (Or.inr ⟨by rcases hs with rfl | rfl <;> simp, q⟩)] at h
  exact absurd h (by decide)
theorem bad_1 {M x3 x4 : Int32} {so : Nat} (h : sp_bad M (nI so) x3 x4 = 0) (h1 : 1 ≤ so) (h3 : so ≤ 3) : ¬ sp_has M x4 = 0 := by
  intro q
  unfold sp_bad at h
  rw [if_pos (Or.inl ⟨nI_nlt h1 (by omega), nI_nlt h3 (by omega), q⟩)] at h
  exact absurd h (by decide)
theorem rowN_t {v : Int32} (h0 : ¬ v < 0) (h : ¬ nI 20 < v) : v = nI (sp_rowN v) ∧ sp_rowN v ≤ 20 := by
  obtain ⟨j, hj, rfl⟩ := ix_le (by decide) h0 h
  rw [sp_rowN, if_neg h, nI_clamp (by omega)]
  exact ⟨rfl, hj⟩
theorem rowN_f {v : Int32} (h : nI 20 < v) : sp_rowN v = 20 := by rw [sp_rowN, if_pos h]
theorem rowN_le {v : Int32} (h0 : ¬ v < 0) : sp_rowN v ≤ 20 := by
  by_cases h : nI 20 < v
  · rw [rowN_f h]; exact Nat.le_refl _
  · exact (rowN_t h0 h).2
def sp_ioI (S : Nat → Nat → Int32) (x k : Nat) : Int32 := sp_get S x k
def sp_inR (S : Nat → Nat → Int32) (x fa : Nat) : Int32 := if S 8 x = 0 then nI 4 else if sp_get S x fa < 0 then nI 5 else if S 8 x - nI 1 ≤ sp_get S x fa then nI 5 else -1
def sp_inS (S : Nat → Nat → Int32) (x fa fb : Nat) : Nat → Nat → Int32 := if S 8 x = 0 then sp_ar S (nI 4) else if sp_get S x fa < 0 then sp_ar S (nI 5) else if S 8 x - nI 1 ≤ sp_get S x fa then sp_ar S (nI 5) else m2 S 9 (20 * x + (sp_get S x fa).toNatClampNeg) (sp_get S x fb)
def sp_outS (S : Nat → Nat → Int32) (x fa fb : Nat) : Nat → Nat → Int32 := if S 8 x = 0 then sp_ar S (nI 4) else if sp_get S x fb < 0 then sp_ar S (nI 5) else if S 8 x - nI 1 ≤ sp_get S x fb then sp_ar S (nI 5) else sp_set S x fa (S 9 (20 * x + (sp_get S x fb).toNatClampNeg))
def sp_half (S : Nat → Nat → Int32) (x z g : Nat) : Nat → Nat → Int32 := m2 S 16 0 (S 16 0 + (if S 7 (4 * z + g) = 0 then (if z = x then nI 0 else if S 12 z = nI 1 then nI 1 else nI 0) else nI 0))
def sp_addS (S : Nat → Nat → Int32) (x fa z g : Nat) : Nat → Nat → Int32 := sp_set (sp_half S x z g) x fa (sp_get (sp_half S x z g) x fa + sp_get (sp_half S x z g) z g)
def sp_putS (S : Nat → Nat → Int32) (x fa z g : Nat) : Nat → Nat → Int32 := sp_set S z g (sp_get S x fa)
def sp_divS (S : Nat → Nat → Int32) (x fa z g : Nat) : Nat → Nat → Int32 := if sp_get (sp_half S x z g) z g = 0 then sp_ar (sp_half S x z g) (nI 3) else sp_set (sp_half S x z g) x fa (sp_get (sp_half S x z g) x fa / sp_get (sp_half S x z g) z g)
def sp_divR (S : Nat → Nat → Int32) (x z g : Nat) : Int32 := if sp_get (sp_half S x z g) z g = 0 then nI 3 else -1
set_option maxHeartbeats 4000000 in
set_option maxRecDepth 100000 in
/-- act(x, method, sort, a, b, c) -/
theorem c_X7_act (l : Launch) (G : gw_G) (A : Nat → Prop) (adr : Nat → Nat) (S X : Nat → Nat → Int32) (n : Nat) (x0 x1 x2 x3 x4 x5 : Int32) (hn0 : S 0 0 = nI n) (hn : n ≤ 12) (hac : ∀ j, j < 48 → ∃ k, k ≤ 10 ∧ S 10 j = nI k) : gm l yX7_act cX7_act 10 (some .int) (rmL 2) 0 0 A [.ref (adr 0), .int x0, .int x1, .int x2, .int x3, .int x4, .int x5] (gW G A adr (rcel G adr S X)) (gW G A adr (rcel G adr (sp_actS S x0 x1 x2 x3 x4 x5) X)) (some (.int (sp_actR S x0 x1 x2 x3 x4 x5))) := by
  refine gm_of (own := RX7) (by decide) rfl (Nat.le_of_ble_eq_true rfl) ?_
  intro p e s m below meth c ls F hml hr hlk hnm hK hR hl
  have hx := F.1
  have hb := F.2.1
  have hl : lv_has ls 10 [(0, .ref (adr 0)), (1, .int x0), (2, .int x1), (3, .int x2), (4, .int x3), (5, .int x4), (6, .int x5)] := hl
  refine lp_cut (pc2 := 47) (st2 := []) (fun H locs ls => rB G A adr S X s.heap H locs ∧ lv_has ls 10 [(7, .int (sp_bad (S 0 0) x2 x3 x4)), (0, .ref (adr 0)), (1, .int x0), (2, .int x1), (3, .int x2), (4, .int x3), (5, .int x4), (6, .int x5)]) (fun H locs ls hRl => ?_) (fun K => ?_)
  · obtain ⟨hR, hl⟩ := hRl
    refine lv_aload_n hx hb dX7_act_47 rfl (lv_at hl 1 rfl) ?_
    refine lv_iload_n hx hb dX7_act_48 rfl (lv_at hl 2 rfl) ?_
    refine gcVi (As := [.int x0]) F hK hR hml cv_X7_87 (o := 0) rfl rfl rfl (c_X7_has l G A adr S X x0) ⟨rfl, rfl⟩ ⟨Nat.le_of_ble_eq_true rfl, Nat.le_of_ble_eq_true rfl⟩ rfl rfl hl.1 (Nat.le_of_ble_eq_true rfl) dX7_act_49 ⟨Nat.zero_le _, Nat.zero_le _⟩ (fun H locs hR => ?_)
    refine lv_if_eq (tgt := 60) hx hb dX7_act_52 (by decide) (fun c_52 => ?_) (fun c_52 => ?_)
    · have hE : sp_actE S x0 x1 x2 x3 x4 x5 = -2 := by unfold sp_actE; repeat (first | rw [if_pos c_52] | rw [if_neg c_52] | rw [if_neg (not_not_intro c_52)])
      refine lv_bipush (v := (-2)) hx hb dX7_act_60 (by decide) ?_
      exact gr_i F hr hlk hK hR dX7_act_62 (by rw [sp_actR, if_neg (by rw [hE]; decide), hE]) (by rw [sp_actS, if_neg (by rw [hE]; decide)])
    · obtain ⟨x, h_x, rfl⟩ := has_yes hn0 hn c_52
      refine lv_iload hx hb dX7_act_55 (lv_at hl 0 rfl) ?_
      refine lv_if_eq (tgt := 63) hx hb dX7_act_57 (by decide) (fun c_57 => ?_) (fun c_57 => ?_)
      · refine lv_iload_n hx hb dX7_act_63 rfl (lv_at hl 3 rfl) ?_
        refine lv_if_lt (tgt := 95) hx hb dX7_act_64 (by decide) (fun c_64 => ?_) (fun c_64 => ?_)
        · have n_64 := Int32.not_le.mpr c_64
          have hE : sp_actE S (nI x) x1 x2 x3 x4 x5 = -3 := by unfold sp_actE; rw [nI_clamp (n := x) (by omega)]; repeat (first | rw [if_pos c_52] | rw [if_neg c_52] | rw [if_neg (not_not_intro c_52)] | rw [if_pos c_57] | rw [if_neg c_57] | rw [if_neg (not_not_intro c_57)] | rw [if_pos c_64] | rw [if_neg c_64] | rw [if_neg (not_not_intro c_64)] | rw [if_pos n_64] | rw [if_neg n_64] | rw [if_neg (not_not_intro n_64)])
          refine lv_bipush (v := (-3)) hx hb dX7_act_95 (by decide) ?_
          exact gr_i F hr hlk hK hR dX7_act_97 (by rw [sp_actR, if_neg (by rw [hE]; decide), hE]) (by rw [sp_actS, if_neg (by rw [hE]; decide)])
        · have n_64 := Int32.not_lt.mp c_64
          refine lv_iload_n hx hb dX7_act_67 rfl (lv_at hl 3 rfl) ?_
          refine lv_iconst (v := nI 3) hx hb dX7_act_68 (by decide) ?_
          refine lv_icmp_gt (tgt := 95) hx hb dX7_act_69 (by decide) (fun c_69 => ?_) (fun c_69 => ?_)
          · have n_69 := Int32.not_le.mpr c_69
            have hE : sp_actE S (nI x) x1 x2 x3 x4 x5 = -3 := by unfold sp_actE; rw [nI_clamp (n := x) (by omega)]; repeat (first | rw [if_pos c_52] | rw [if_neg c_52] | rw [if_neg (not_not_intro c_52)] | rw [if_pos c_57] | rw [if_neg c_57] | rw [if_neg (not_not_intro c_57)] | rw [if_pos c_64] | rw [if_neg c_64] | rw [if_neg (not_not_intro c_64)] | rw [if_pos n_64] | rw [if_neg n_64] | rw [if_neg (not_not_intro n_64)] | rw [if_pos c_69] | rw [if_neg c_69] | rw [if_neg (not_not_intro c_69)] | rw [if_pos n_69] | rw [if_neg n_69] | rw [if_neg (not_not_intro n_69)])
            refine lv_bipush (v := (-3)) hx hb dX7_act_95 (by decide) ?_
            exact gr_i F hr hlk hK hR dX7_act_97 (by rw [sp_actR, if_neg (by rw [hE]; decide), hE]) (by rw [sp_actS, if_neg (by rw [hE]; decide)])
          · have n_69 := Int32.not_lt.mp c_69
            obtain ⟨me, hme, rfl⟩ := ix_le (by decide) c_64 c_69
            refine lv_iload_n hx hb dX7_act_72 rfl (lv_at hl 4 rfl) ?_
            refine lv_if_lt (tgt := 95) hx hb dX7_act_73 (by decide) (fun c_73 => ?_) (fun c_73 => ?_)
            · have n_73 := Int32.not_le.mpr c_73
              have hE : sp_actE S (nI x) (nI me) x2 x3 x4 x5 = -3 := by unfold sp_actE; rw [nI_clamp (n := x) (by omega), nI_clamp (n := me) (by omega)]; repeat (first | rw [if_pos c_52] | rw [if_neg c_52] | rw [if_neg (not_not_intro c_52)] | rw [if_pos c_57] | rw [if_neg c_57] | rw [if_neg (not_not_intro c_57)] | rw [if_pos c_64] | rw [if_neg c_64] | rw [if_neg (not_not_intro c_64)] | rw [if_pos n_64] | rw [if_neg n_64] | rw [if_neg (not_not_intro n_64)] | rw [if_pos c_69] | rw [if_neg c_69] | rw [if_neg (not_not_intro c_69)] | rw [if_pos n_69] | rw [if_neg n_69] | rw [if_neg (not_not_intro n_69)] | rw [if_pos c_73] | rw [if_neg c_73] | rw [if_neg (not_not_intro c_73)] | rw [if_pos n_73] | rw [if_neg n_73] | rw [if_neg (not_not_intro n_73)])
              refine lv_bipush (v := (-3)) hx hb dX7_act_95 (by decide) ?_
              exact gr_i F hr hlk hK hR dX7_act_97 (by rw [sp_actR, if_neg (by rw [hE]; decide), hE]) (by rw [sp_actS, if_neg (by rw [hE]; decide)])
            · have n_73 := Int32.not_lt.mp c_73
              refine lv_iload_n hx hb dX7_act_76 rfl (lv_at hl 4 rfl) ?_
              refine lv_bipush (v := nI 12) hx hb dX7_act_77 (by decide) ?_
              refine lv_icmp_gt (tgt := 95) hx hb dX7_act_79 (by decide) (fun c_79 => ?_) (fun c_79 => ?_)
              · have n_79 := Int32.not_le.mpr c_79
                have hE : sp_actE S (nI x) (nI me) x2 x3 x4 x5 = -3 := by unfold sp_actE; rw [nI_clamp (n := x) (by omega), nI_clamp (n := me) (by omega)]; repeat (first | rw [if_pos c_52] | rw [if_neg c_52] | rw [if_neg (not_not_intro c_52)] | rw [if_pos c_57] | rw [if_neg c_57] | rw [if_neg (not_not_intro c_57)] | rw [if_pos c_64] | rw [if_neg c_64] | rw [if_neg (not_not_intro c_64)] | rw [if_pos n_64] | rw [if_neg n_64] | rw [if_neg (not_not_intro n_64)] | rw [if_pos c_69] | rw [if_neg c_69] | rw [if_neg (not_not_intro c_69)] | rw [if_pos n_69] | rw [if_neg n_69] | rw [if_neg (not_not_intro n_69)] | rw [if_pos c_73] | rw [if_neg c_73] | rw [if_neg (not_not_intro c_73)] | rw [if_pos n_73] | rw [if_neg n_73] | rw [if_neg (not_not_intro n_73)] | rw [if_pos c_79] | rw [if_neg c_79] | rw [if_neg (not_not_intro c_79)] | rw [if_pos n_79] | rw [if_neg n_79] | rw [if_neg (not_not_intro n_79)])
                refine lv_bipush (v := (-3)) hx hb dX7_act_95 (by decide) ?_
                exact gr_i F hr hlk hK hR dX7_act_97 (by rw [sp_actR, if_neg (by rw [hE]; decide), hE]) (by rw [sp_actS, if_neg (by rw [hE]; decide)])
              · have n_79 := Int32.not_lt.mp c_79
                obtain ⟨so, hso, rfl⟩ := ix_le (by decide) c_73 c_79
                refine lv_iload_n hx hb dX7_act_82 rfl (lv_at hl 4 rfl) ?_
                refine lv_iload hx hb dX7_act_83 (lv_at hl 5 rfl) ?_
                refine lv_iload hx hb dX7_act_85 (lv_at hl 6 rfl) ?_
                refine lv_iload hx hb dX7_act_87 (lv_at hl 7 rfl) ?_
                refine gcS (As := [.int (nI so), .int x3, .int x4, .int x5]) F hml cs_X7_98 (c_X7_areIn l so x3 x4 x5 (by omega)) ⟨rfl, rfl⟩ ⟨Nat.le_of_ble_eq_true rfl, Nat.le_of_ble_eq_true rfl⟩ rfl rfl hl.1 (Nat.le_of_ble_eq_true rfl) dX7_act_89 ⟨Nat.zero_le _, Nat.zero_le _⟩ ?_
                refine lv_if_ne (tgt := 98) hx hb dX7_act_92 (by decide) (fun c_92 => ?_) (fun c_92 => ?_)
                · obtain ⟨k, hk1, hk2⟩ := hac (4 * x + me) (by omega)
                  refine lv_iload_n hx hb dX7_act_98 rfl (lv_at hl 4 rfl) ?_
                  refine lv_bipush (v := nI 8) hx hb dX7_act_99 (by decide) ?_
                  refine nv_icmp_ne (by omega) (by omega) hx hb dX7_act_101 (tgt := 114) (by decide) (fun c_101 => ?_) (fun c_101 => ?_)
                  · have n8 : ¬ (so = 8 ∧ ¬ S 1 x3.toNatClampNeg = 0) := fun q => c_101 q.1
                    refine lv_aload_n hx hb dX7_act_114 rfl (lv_at hl 1 rfl) ?_
                    refine rg_12 F hK hR dX7_act_115 ?_
                    refine lv_iload_n hx hb dX7_act_118 rfl (lv_at hl 2 rfl) ?_
                    refine ri_12 F hK hR (by omega) dX7_act_119 ?_
                    refine lv_if_eq (tgt := 126) hx hb dX7_act_120 (by decide) (fun c_120 => ?_) (fun c_120 => ?_)
                    · refine lv_iconst (v := nI 4) hx hb dX7_act_126 (by decide) ?_
                      refine lv_iload_n hx hb dX7_act_127 rfl (lv_at hl 2 rfl) ?_
                      refine nv_imul hx hb dX7_act_128 ?_
                      refine lv_iload_n hx hb dX7_act_129 rfl (lv_at hl 3 rfl) ?_
                      refine nv_iadd hx hb dX7_act_130 ?_
                      refine lv_istore (lv' := [(8, .int (nI (4 * x + me))), (7, .int (sp_bad (S 0 0) (nI so) x3 x4)), (0, .ref (adr 0)), (1, .int (nI x)), (2, .int (nI me)), (3, .int (nI so)), (4, .int x3), (5, .int x4), (6, .int x5)]) hx hb dX7_act_131 hl (by decide) rfl (fun ls hl => ?_)
                      refine lv_aload_n hx hb dX7_act_133 rfl (lv_at hl 2 rfl) ?_
                      refine rg_10 F hK hR dX7_act_134 ?_
                      refine lv_iload hx hb dX7_act_137 (lv_at hl 0 rfl) ?_
                      refine ri_10 F hK hR (by omega) dX7_act_139 ?_
                      refine lv_eq (hk2) ?_
                      refine lv_bipush (v := nI 10) hx hb dX7_act_140 (by decide) ?_
                      refine nv_icmp_ne (by omega) (by omega) hx hb dX7_act_142 (tgt := 148) (by decide) (fun c_142 => ?_) (fun c_142 => ?_)
                      · have hk3 : ¬ (S 10 (4 * x + me)).toNatClampNeg = 10 := by rw [hk2, nI_clamp (by omega)]; exact c_142
                        have hE : sp_actE S (nI x) (nI me) (nI so) x3 x4 x5 = 0 := by unfold sp_actE; rw [nI_clamp (n := x) (by omega), nI_clamp (n := me) (by omega), nI_clamp (n := so) (by omega)]; repeat (first | rw [if_pos c_52] | rw [if_neg c_52] | rw [if_neg (not_not_intro c_52)] | rw [if_pos c_57] | rw [if_neg c_57] | rw [if_neg (not_not_intro c_57)] | rw [if_pos c_64] | rw [if_neg c_64] | rw [if_neg (not_not_intro c_64)] | rw [if_pos n_64] | rw [if_neg n_64] | rw [if_neg (not_not_intro n_64)] | rw [if_pos c_69] | rw [if_neg c_69] | rw [if_neg (not_not_intro c_69)] | rw [if_pos n_69] | rw [if_neg n_69] | rw [if_neg (not_not_intro n_69)] | rw [if_pos c_73] | rw [if_neg c_73] | rw [if_neg (not_not_intro c_73)] | rw [if_pos n_73] | rw [if_neg n_73] | rw [if_neg (not_not_intro n_73)] | rw [if_pos c_79] | rw [if_neg c_79] | rw [if_neg (not_not_intro c_79)] | rw [if_pos n_79] | rw [if_neg n_79] | rw [if_neg (not_not_intro n_79)] | rw [if_pos c_92] | rw [if_neg c_92] | rw [if_neg (not_not_intro c_92)] | rw [if_pos c_101] | rw [if_neg c_101] | rw [if_neg (not_not_intro c_101)] | rw [if_pos n8] | rw [if_neg n8] | rw [if_neg (not_not_intro n8)] | rw [if_pos c_120] | rw [if_neg c_120] | rw [if_neg (not_not_intro c_120)] | rw [if_pos c_142] | rw [if_neg c_142] | rw [if_neg (not_not_intro c_142)] | rw [if_pos hk3] | rw [if_neg hk3] | rw [if_neg (not_not_intro hk3)])
                        have hk : sp_acts S (nI x) (nI me) = k := by rw [sp_acts, nI_clamp (n := x) (by omega), nI_clamp (n := me) (by omega), hk2, nI_clamp (by omega)]
                        refine lv_bipush (v := nI 40) hx hb dX7_act_148 (by decide) ?_
                        refine lv_iload hx hb dX7_act_150 (lv_at hl 0 rfl) ?_
                        refine nv_imul hx hb dX7_act_152 ?_
                        refine lv_iconst (v := nI 4) hx hb dX7_act_153 (by decide) ?_
                        refine lv_aload_n hx hb dX7_act_154 rfl (lv_at hl 2 rfl) ?_
                        refine rg_10 F hK hR dX7_act_155 ?_
                        refine lv_iload hx hb dX7_act_158 (lv_at hl 0 rfl) ?_
                        refine ri_10 F hK hR (by omega) dX7_act_160 ?_
                        refine lv_eq (hk2) ?_
                        refine nv_imul hx hb dX7_act_161 ?_
                        refine nv_iadd hx hb dX7_act_162 ?_
                        refine lv_istore (lv' := [(9, .int (nI (40 * (4 * x + me) + 4 * k))), (8, .int (nI (4 * x + me))), (7, .int (sp_bad (S 0 0) (nI so) x3 x4)), (0, .ref (adr 0)), (1, .int (nI x)), (2, .int (nI me)), (3, .int (nI so)), (4, .int x3), (5, .int x4), (6, .int x5)]) hx hb dX7_act_163 hl (by decide) rfl (fun ls hl => ?_)
                        refine lv_aload_n hx hb dX7_act_165 rfl (lv_at hl 3 rfl) ?_
                        refine rg_11 F hK hR dX7_act_166 ?_
                        refine lv_iload hx hb dX7_act_169 (lv_at hl 0 rfl) ?_
                        refine lv_iload_n hx hb dX7_act_171 rfl (lv_at hl 6 rfl) ?_
                        refine rs_11 F hK hR (by omega) dX7_act_172 (fun H locs hR => ?_)
                        refine lv_aload_n hx hb dX7_act_173 rfl (lv_at hl 3 rfl) ?_
                        refine rg_11 F hK hR dX7_act_174 ?_
                        refine lv_iload hx hb dX7_act_177 (lv_at hl 0 rfl) ?_
                        refine lv_iconst (v := nI 1) hx hb dX7_act_179 (by decide) ?_
                        refine nv_iadd hx hb dX7_act_180 ?_
                        refine lv_iload hx hb dX7_act_181 (lv_at hl 7 rfl) ?_
                        refine rs_11 F hK hR (by omega) dX7_act_183 (fun H locs hR => ?_)
                        refine lv_aload_n hx hb dX7_act_184 rfl (lv_at hl 3 rfl) ?_
                        refine rg_11 F hK hR dX7_act_185 ?_
                        refine lv_iload hx hb dX7_act_188 (lv_at hl 0 rfl) ?_
                        refine lv_iconst (v := nI 2) hx hb dX7_act_190 (by decide) ?_
                        refine nv_iadd hx hb dX7_act_191 ?_
                        refine lv_iload hx hb dX7_act_192 (lv_at hl 8 rfl) ?_
                        refine rs_11 F hK hR (by omega) dX7_act_194 (fun H locs hR => ?_)
                        refine lv_aload_n hx hb dX7_act_195 rfl (lv_at hl 3 rfl) ?_
                        refine rg_11 F hK hR dX7_act_196 ?_
                        refine lv_iload hx hb dX7_act_199 (lv_at hl 0 rfl) ?_
                        refine lv_iconst (v := nI 3) hx hb dX7_act_201 (by decide) ?_
                        refine nv_iadd hx hb dX7_act_202 ?_
                        refine lv_iload hx hb dX7_act_203 (lv_at hl 9 rfl) ?_
                        refine rs_11 F hK hR (by omega) dX7_act_205 (fun H locs hR => ?_)
                        refine lv_aload_n hx hb dX7_act_206 rfl (lv_at hl 3 rfl) ?_
                        refine rg_10 F hK hR dX7_act_207 ?_
                        refine lv_iload hx hb dX7_act_210 (lv_at hl 1 rfl) ?_
                        refine lv_dup2_11 hx hb dX7_act_212 rfl rfl ?_
                        refine ri_10 F hK hR (by omega) dX7_act_213 ?_
                        refine lv_eq (((((m2_nk (by decide)).trans (m2_nk (by decide))).trans (m2_nk (by decide))).trans (m2_nk (by decide))).trans (hk2)) ?_
                        refine lv_iconst (v := nI 1) hx hb dX7_act_214 (by decide) ?_
                        refine nv_iadd hx hb dX7_act_215 ?_
                        refine rs_10 F hK hR (by omega) dX7_act_216 (fun H locs hR => ?_)
                        refine lv_aload_n hx hb dX7_act_217 rfl (lv_at hl 3 rfl) ?_
                        refine rg_10 F hK hR dX7_act_218 ?_
                        refine lv_iload hx hb dX7_act_221 (lv_at hl 1 rfl) ?_
                        refine ri_10 F hK hR (by omega) dX7_act_223 ?_
                        refine lv_eq (m2_at) ?_
                        exact gr_i F hr hlk hK hR dX7_act_224 (by rw [sp_actR, if_pos hE, hk]) (by rw [sp_actS, if_pos hE, hk, nI_clamp (n := x) (by omega), nI_clamp (n := me) (by omega)]; rfl)
                      · have hk3 : (S 10 (4 * x + me)).toNatClampNeg = 10 := by rw [hk2, nI_clamp (by omega)]; exact c_142
                        have hE : sp_actE S (nI x) (nI me) (nI so) x3 x4 x5 = -5 := by unfold sp_actE; rw [nI_clamp (n := x) (by omega), nI_clamp (n := me) (by omega), nI_clamp (n := so) (by omega)]; repeat (first | rw [if_pos c_52] | rw [if_neg c_52] | rw [if_neg (not_not_intro c_52)] | rw [if_pos c_57] | rw [if_neg c_57] | rw [if_neg (not_not_intro c_57)] | rw [if_pos c_64] | rw [if_neg c_64] | rw [if_neg (not_not_intro c_64)] | rw [if_pos n_64] | rw [if_neg n_64] | rw [if_neg (not_not_intro n_64)] | rw [if_pos c_69] | rw [if_neg c_69] | rw [if_neg (not_not_intro c_69)] | rw [if_pos n_69] | rw [if_neg n_69] | rw [if_neg (not_not_intro n_69)] | rw [if_pos c_73] | rw [if_neg c_73] | rw [if_neg (not_not_intro c_73)] | rw [if_pos n_73] | rw [if_neg n_73] | rw [if_neg (not_not_intro n_73)] | rw [if_pos c_79] | rw [if_neg c_79] | rw [if_neg (not_not_intro c_79)] | rw [if_pos n_79] | rw [if_neg n_79] | rw [if_neg (not_not_intro n_79)] | rw [if_pos c_92] | rw [if_neg c_92] | rw [if_neg (not_not_intro c_92)] | rw [if_pos c_101] | rw [if_neg c_101] | rw [if_neg (not_not_intro c_101)] | rw [if_pos n8] | rw [if_neg n8] | rw [if_neg (not_not_intro n8)] | rw [if_pos c_120] | rw [if_neg c_120] | rw [if_neg (not_not_intro c_120)] | rw [if_pos c_142] | rw [if_neg c_142] | rw [if_neg (not_not_intro c_142)] | rw [if_pos hk3] | rw [if_neg hk3] | rw [if_neg (not_not_intro hk3)])
                        refine lv_bipush (v := (-5)) hx hb dX7_act_145 (by decide) ?_
                        exact gr_i F hr hlk hK hR dX7_act_147 (by rw [sp_actR, if_neg (by rw [hE]; decide), hE]) (by rw [sp_actS, if_neg (by rw [hE]; decide)])
                    · have hE : sp_actE S (nI x) (nI me) (nI so) x3 x4 x5 = -4 := by unfold sp_actE; rw [nI_clamp (n := x) (by omega), nI_clamp (n := me) (by omega), nI_clamp (n := so) (by omega)]; repeat (first | rw [if_pos c_52] | rw [if_neg c_52] | rw [if_neg (not_not_intro c_52)] | rw [if_pos c_57] | rw [if_neg c_57] | rw [if_neg (not_not_intro c_57)] | rw [if_pos c_64] | rw [if_neg c_64] | rw [if_neg (not_not_intro c_64)] | rw [if_pos n_64] | rw [if_neg n_64] | rw [if_neg (not_not_intro n_64)] | rw [if_pos c_69] | rw [if_neg c_69] | rw [if_neg (not_not_intro c_69)] | rw [if_pos n_69] | rw [if_neg n_69] | rw [if_neg (not_not_intro n_69)] | rw [if_pos c_73] | rw [if_neg c_73] | rw [if_neg (not_not_intro c_73)] | rw [if_pos n_73] | rw [if_neg n_73] | rw [if_neg (not_not_intro n_73)] | rw [if_pos c_79] | rw [if_neg c_79] | rw [if_neg (not_not_intro c_79)] | rw [if_pos n_79] | rw [if_neg n_79] | rw [if_neg (not_not_intro n_79)] | rw [if_pos c_92] | rw [if_neg c_92] | rw [if_neg (not_not_intro c_92)] | rw [if_pos c_101] | rw [if_neg c_101] | rw [if_neg (not_not_intro c_101)] | rw [if_pos n8] | rw [if_neg n8] | rw [if_neg (not_not_intro n8)] | rw [if_pos c_120] | rw [if_neg c_120] | rw [if_neg (not_not_intro c_120)])
                      refine lv_bipush (v := (-4)) hx hb dX7_act_123 (by decide) ?_
                      exact gr_i F hr hlk hK hR dX7_act_125 (by rw [sp_actR, if_neg (by rw [hE]; decide), hE]) (by rw [sp_actS, if_neg (by rw [hE]; decide)])
                  · obtain ⟨z, h_z, rfl⟩ := has_yes hn0 hn (bad_7 c_57 (Or.inr c_101))
                    refine lv_aload_n hx hb dX7_act_104 rfl (lv_at hl 1 rfl) ?_
                    refine rg_1 F hK hR dX7_act_105 ?_
                    refine lv_iload hx hb dX7_act_108 (lv_at hl 5 rfl) ?_
                    refine ri_1 F hK hR (by omega) dX7_act_110 ?_
                    refine lv_if_ne (tgt := 123) hx hb dX7_act_111 (by decide) (fun c_111 => ?_) (fun c_111 => ?_)
                    · have n8 : so = 8 ∧ ¬ S 1 z = 0 := ⟨c_101, c_111⟩
                      have hE : sp_actE S (nI x) (nI me) (nI so) (nI z) x4 x5 = -4 := by unfold sp_actE; rw [nI_clamp (n := x) (by omega), nI_clamp (n := me) (by omega), nI_clamp (n := so) (by omega), nI_clamp (n := z) (by omega)]; repeat (first | rw [if_pos c_52] | rw [if_neg c_52] | rw [if_neg (not_not_intro c_52)] | rw [if_pos c_57] | rw [if_neg c_57] | rw [if_neg (not_not_intro c_57)] | rw [if_pos c_64] | rw [if_neg c_64] | rw [if_neg (not_not_intro c_64)] | rw [if_pos n_64] | rw [if_neg n_64] | rw [if_neg (not_not_intro n_64)] | rw [if_pos c_69] | rw [if_neg c_69] | rw [if_neg (not_not_intro c_69)] | rw [if_pos n_69] | rw [if_neg n_69] | rw [if_neg (not_not_intro n_69)] | rw [if_pos c_73] | rw [if_neg c_73] | rw [if_neg (not_not_intro c_73)] | rw [if_pos n_73] | rw [if_neg n_73] | rw [if_neg (not_not_intro n_73)] | rw [if_pos c_79] | rw [if_neg c_79] | rw [if_neg (not_not_intro c_79)] | rw [if_pos n_79] | rw [if_neg n_79] | rw [if_neg (not_not_intro n_79)] | rw [if_pos c_92] | rw [if_neg c_92] | rw [if_neg (not_not_intro c_92)] | rw [if_pos c_101] | rw [if_neg c_101] | rw [if_neg (not_not_intro c_101)] | rw [if_pos c_111] | rw [if_neg c_111] | rw [if_neg (not_not_intro c_111)] | rw [if_pos n8] | rw [if_neg n8] | rw [if_neg (not_not_intro n8)])
                      refine lv_bipush (v := (-4)) hx hb dX7_act_123 (by decide) ?_
                      exact gr_i F hr hlk hK hR dX7_act_125 (by rw [sp_actR, if_neg (by rw [hE]; decide), hE]) (by rw [sp_actS, if_neg (by rw [hE]; decide)])
                    · have n8 : ¬ (so = 8 ∧ ¬ S 1 z = 0) := fun q => q.2 c_111
                      refine lv_aload_n hx hb dX7_act_114 rfl (lv_at hl 1 rfl) ?_
                      refine rg_12 F hK hR dX7_act_115 ?_
                      refine lv_iload_n hx hb dX7_act_118 rfl (lv_at hl 2 rfl) ?_
                      refine ri_12 F hK hR (by omega) dX7_act_119 ?_
                      refine lv_if_eq (tgt := 126) hx hb dX7_act_120 (by decide) (fun c_120 => ?_) (fun c_120 => ?_)
                      · refine lv_iconst (v := nI 4) hx hb dX7_act_126 (by decide) ?_
                        refine lv_iload_n hx hb dX7_act_127 rfl (lv_at hl 2 rfl) ?_
                        refine nv_imul hx hb dX7_act_128 ?_
                        refine lv_iload_n hx hb dX7_act_129 rfl (lv_at hl 3 rfl) ?_
                        refine nv_iadd hx hb dX7_act_130 ?_
                        refine lv_istore (lv' := [(8, .int (nI (4 * x + me))), (7, .int (sp_bad (S 0 0) (nI so) (nI z) x4)), (0, .ref (adr 0)), (1, .int (nI x)), (2, .int (nI me)), (3, .int (nI so)), (4, .int (nI z)), (5, .int x4), (6, .int x5)]) hx hb dX7_act_131 hl (by decide) rfl (fun ls hl => ?_)
                        refine lv_aload_n hx hb dX7_act_133 rfl (lv_at hl 2 rfl) ?_
                        refine rg_10 F hK hR dX7_act_134 ?_
                        refine lv_iload hx hb dX7_act_137 (lv_at hl 0 rfl) ?_
                        refine ri_10 F hK hR (by omega) dX7_act_139 ?_
                        refine lv_eq (hk2) ?_
                        refine lv_bipush (v := nI 10) hx hb dX7_act_140 (by decide) ?_
                        refine nv_icmp_ne (by omega) (by omega) hx hb dX7_act_142 (tgt := 148) (by decide) (fun c_142 => ?_) (fun c_142 => ?_)
                        · have hk3 : ¬ (S 10 (4 * x + me)).toNatClampNeg = 10 := by rw [hk2, nI_clamp (by omega)]; exact c_142
                          have hE : sp_actE S (nI x) (nI me) (nI so) (nI z) x4 x5 = 0 := by unfold sp_actE; rw [nI_clamp (n := x) (by omega), nI_clamp (n := me) (by omega), nI_clamp (n := so) (by omega), nI_clamp (n := z) (by omega)]; repeat (first | rw [if_pos c_52] | rw [if_neg c_52] | rw [if_neg (not_not_intro c_52)] | rw [if_pos c_57] | rw [if_neg c_57] | rw [if_neg (not_not_intro c_57)] | rw [if_pos c_64] | rw [if_neg c_64] | rw [if_neg (not_not_intro c_64)] | rw [if_pos n_64] | rw [if_neg n_64] | rw [if_neg (not_not_intro n_64)] | rw [if_pos c_69] | rw [if_neg c_69] | rw [if_neg (not_not_intro c_69)] | rw [if_pos n_69] | rw [if_neg n_69] | rw [if_neg (not_not_intro n_69)] | rw [if_pos c_73] | rw [if_neg c_73] | rw [if_neg (not_not_intro c_73)] | rw [if_pos n_73] | rw [if_neg n_73] | rw [if_neg (not_not_intro n_73)] | rw [if_pos c_79] | rw [if_neg c_79] | rw [if_neg (not_not_intro c_79)] | rw [if_pos n_79] | rw [if_neg n_79] | rw [if_neg (not_not_intro n_79)] | rw [if_pos c_92] | rw [if_neg c_92] | rw [if_neg (not_not_intro c_92)] | rw [if_pos c_101] | rw [if_neg c_101] | rw [if_neg (not_not_intro c_101)] | rw [if_pos c_111] | rw [if_neg c_111] | rw [if_neg (not_not_intro c_111)] | rw [if_pos n8] | rw [if_neg n8] | rw [if_neg (not_not_intro n8)] | rw [if_pos c_120] | rw [if_neg c_120] | rw [if_neg (not_not_intro c_120)] | rw [if_pos c_142] | rw [if_neg c_142] | rw [if_neg (not_not_intro c_142)] | rw [if_pos hk3] | rw [if_neg hk3] | rw [if_neg (not_not_intro hk3)])
                          have hk : sp_acts S (nI x) (nI me) = k := by rw [sp_acts, nI_clamp (n := x) (by omega), nI_clamp (n := me) (by omega), hk2, nI_clamp (by omega)]
                          refine lv_bipush (v := nI 40) hx hb dX7_act_148 (by decide) ?_
                          refine lv_iload hx hb dX7_act_150 (lv_at hl 0 rfl) ?_
                          refine nv_imul hx hb dX7_act_152 ?_
                          refine lv_iconst (v := nI 4) hx hb dX7_act_153 (by decide) ?_
                          refine lv_aload_n hx hb dX7_act_154 rfl (lv_at hl 2 rfl) ?_
                          refine rg_10 F hK hR dX7_act_155 ?_
                          refine lv_iload hx hb dX7_act_158 (lv_at hl 0 rfl) ?_
                          refine ri_10 F hK hR (by omega) dX7_act_160 ?_
                          refine lv_eq (hk2) ?_
                          refine nv_imul hx hb dX7_act_161 ?_
                          refine nv_iadd hx hb dX7_act_162 ?_
                          refine lv_istore (lv' := [(9, .int (nI (40 * (4 * x + me) + 4 * k))), (8, .int (nI (4 * x + me))), (7, .int (sp_bad (S 0 0) (nI so) (nI z) x4)), (0, .ref (adr 0)), (1, .int (nI x)), (2, .int (nI me)), (3, .int (nI so)), (4, .int (nI z)), (5, .int x4), (6, .int x5)]) hx hb dX7_act_163 hl (by decide) rfl (fun ls hl => ?_)
                          refine lv_aload_n hx hb dX7_act_165 rfl (lv_at hl 3 rfl) ?_
                          refine rg_11 F hK hR dX7_act_166 ?_
                          refine lv_iload hx hb dX7_act_169 (lv_at hl 0 rfl) ?_
                          refine lv_iload_n hx hb dX7_act_171 rfl (lv_at hl 6 rfl) ?_
                          refine rs_11 F hK hR (by omega) dX7_act_172 (fun H locs hR => ?_)
                          refine lv_aload_n hx hb dX7_act_173 rfl (lv_at hl 3 rfl) ?_
                          refine rg_11 F hK hR dX7_act_174 ?_
                          refine lv_iload hx hb dX7_act_177 (lv_at hl 0 rfl) ?_
                          refine lv_iconst (v := nI 1) hx hb dX7_act_179 (by decide) ?_
                          refine nv_iadd hx hb dX7_act_180 ?_
                          refine lv_iload hx hb dX7_act_181 (lv_at hl 7 rfl) ?_
                          refine rs_11 F hK hR (by omega) dX7_act_183 (fun H locs hR => ?_)
                          refine lv_aload_n hx hb dX7_act_184 rfl (lv_at hl 3 rfl) ?_
                          refine rg_11 F hK hR dX7_act_185 ?_
                          refine lv_iload hx hb dX7_act_188 (lv_at hl 0 rfl) ?_
                          refine lv_iconst (v := nI 2) hx hb dX7_act_190 (by decide) ?_
                          refine nv_iadd hx hb dX7_act_191 ?_
                          refine lv_iload hx hb dX7_act_192 (lv_at hl 8 rfl) ?_
                          refine rs_11 F hK hR (by omega) dX7_act_194 (fun H locs hR => ?_)
                          refine lv_aload_n hx hb dX7_act_195 rfl (lv_at hl 3 rfl) ?_
                          refine rg_11 F hK hR dX7_act_196 ?_
                          refine lv_iload hx hb dX7_act_199 (lv_at hl 0 rfl) ?_
                          refine lv_iconst (v := nI 3) hx hb dX7_act_201 (by decide) ?_
                          refine nv_iadd hx hb dX7_act_202 ?_
                          refine lv_iload hx hb dX7_act_203 (lv_at hl 9 rfl) ?_
                          refine rs_11 F hK hR (by omega) dX7_act_205 (fun H locs hR => ?_)
                          refine lv_aload_n hx hb dX7_act_206 rfl (lv_at hl 3 rfl) ?_
                          refine rg_10 F hK hR dX7_act_207 ?_
                          refine lv_iload hx hb dX7_act_210 (lv_at hl 1 rfl) ?_
                          refine lv_dup2_11 hx hb dX7_act_212 rfl rfl ?_
                          refine ri_10 F hK hR (by omega) dX7_act_213 ?_
                          refine lv_eq (((((m2_nk (by decide)).trans (m2_nk (by decide))).trans (m2_nk (by decide))).trans (m2_nk (by decide))).trans (hk2)) ?_
                          refine lv_iconst (v := nI 1) hx hb dX7_act_214 (by decide) ?_
                          refine nv_iadd hx hb dX7_act_215 ?_
                          refine rs_10 F hK hR (by omega) dX7_act_216 (fun H locs hR => ?_)
                          refine lv_aload_n hx hb dX7_act_217 rfl (lv_at hl 3 rfl) ?_
                          refine rg_10 F hK hR dX7_act_218 ?_
                          refine lv_iload hx hb dX7_act_221 (lv_at hl 1 rfl) ?_
                          refine ri_10 F hK hR (by omega) dX7_act_223 ?_
                          refine lv_eq (m2_at) ?_
                          exact gr_i F hr hlk hK hR dX7_act_224 (by rw [sp_actR, if_pos hE, hk]) (by rw [sp_actS, if_pos hE, hk, nI_clamp (n := x) (by omega), nI_clamp (n := me) (by omega)]; rfl)
                        · have hk3 : (S 10 (4 * x + me)).toNatClampNeg = 10 := by rw [hk2, nI_clamp (by omega)]; exact c_142
                          have hE : sp_actE S (nI x) (nI me) (nI so) (nI z) x4 x5 = -5 := by unfold sp_actE; rw [nI_clamp (n := x) (by omega), nI_clamp (n := me) (by omega), nI_clamp (n := so) (by omega), nI_clamp (n := z) (by omega)]; repeat (first | rw [if_pos c_52] | rw [if_neg c_52] | rw [if_neg (not_not_intro c_52)] | rw [if_pos c_57] | rw [if_neg c_57] | rw [if_neg (not_not_intro c_57)] | rw [if_pos c_64] | rw [if_neg c_64] | rw [if_neg (not_not_intro c_64)] | rw [if_pos n_64] | rw [if_neg n_64] | rw [if_neg (not_not_intro n_64)] | rw [if_pos c_69] | rw [if_neg c_69] | rw [if_neg (not_not_intro c_69)] | rw [if_pos n_69] | rw [if_neg n_69] | rw [if_neg (not_not_intro n_69)] | rw [if_pos c_73] | rw [if_neg c_73] | rw [if_neg (not_not_intro c_73)] | rw [if_pos n_73] | rw [if_neg n_73] | rw [if_neg (not_not_intro n_73)] | rw [if_pos c_79] | rw [if_neg c_79] | rw [if_neg (not_not_intro c_79)] | rw [if_pos n_79] | rw [if_neg n_79] | rw [if_neg (not_not_intro n_79)] | rw [if_pos c_92] | rw [if_neg c_92] | rw [if_neg (not_not_intro c_92)] | rw [if_pos c_101] | rw [if_neg c_101] | rw [if_neg (not_not_intro c_101)] | rw [if_pos c_111] | rw [if_neg c_111] | rw [if_neg (not_not_intro c_111)] | rw [if_pos n8] | rw [if_neg n8] | rw [if_neg (not_not_intro n8)] | rw [if_pos c_120] | rw [if_neg c_120] | rw [if_neg (not_not_intro c_120)] | rw [if_pos c_142] | rw [if_neg c_142] | rw [if_neg (not_not_intro c_142)] | rw [if_pos hk3] | rw [if_neg hk3] | rw [if_neg (not_not_intro hk3)])
                          refine lv_bipush (v := (-5)) hx hb dX7_act_145 (by decide) ?_
                          exact gr_i F hr hlk hK hR dX7_act_147 (by rw [sp_actR, if_neg (by rw [hE]; decide), hE]) (by rw [sp_actS, if_neg (by rw [hE]; decide)])
                      · have hE : sp_actE S (nI x) (nI me) (nI so) (nI z) x4 x5 = -4 := by unfold sp_actE; rw [nI_clamp (n := x) (by omega), nI_clamp (n := me) (by omega), nI_clamp (n := so) (by omega), nI_clamp (n := z) (by omega)]; repeat (first | rw [if_pos c_52] | rw [if_neg c_52] | rw [if_neg (not_not_intro c_52)] | rw [if_pos c_57] | rw [if_neg c_57] | rw [if_neg (not_not_intro c_57)] | rw [if_pos c_64] | rw [if_neg c_64] | rw [if_neg (not_not_intro c_64)] | rw [if_pos n_64] | rw [if_neg n_64] | rw [if_neg (not_not_intro n_64)] | rw [if_pos c_69] | rw [if_neg c_69] | rw [if_neg (not_not_intro c_69)] | rw [if_pos n_69] | rw [if_neg n_69] | rw [if_neg (not_not_intro n_69)] | rw [if_pos c_73] | rw [if_neg c_73] | rw [if_neg (not_not_intro c_73)] | rw [if_pos n_73] | rw [if_neg n_73] | rw [if_neg (not_not_intro n_73)] | rw [if_pos c_79] | rw [if_neg c_79] | rw [if_neg (not_not_intro c_79)] | rw [if_pos n_79] | rw [if_neg n_79] | rw [if_neg (not_not_intro n_79)] | rw [if_pos c_92] | rw [if_neg c_92] | rw [if_neg (not_not_intro c_92)] | rw [if_pos c_101] | rw [if_neg c_101] | rw [if_neg (not_not_intro c_101)] | rw [if_pos c_111] | rw [if_neg c_111] | rw [if_neg (not_not_intro c_111)] | rw [if_pos n8] | rw [if_neg n8] | rw [if_neg (not_not_intro n8)] | rw [if_pos c_120] | rw [if_neg c_120] | rw [if_neg (not_not_intro c_120)])
                        refine lv_bipush (v := (-4)) hx hb dX7_act_123 (by decide) ?_
                        exact gr_i F hr hlk hK hR dX7_act_125 (by rw [sp_actR, if_neg (by rw [hE]; decide), hE]) (by rw [sp_actS, if_neg (by rw [hE]; decide)])
                · have hE : sp_actE S (nI x) (nI me) (nI so) x3 x4 x5 = -3 := by unfold sp_actE; rw [nI_clamp (n := x) (by omega), nI_clamp (n := me) (by omega), nI_clamp (n := so) (by omega)]; repeat (first | rw [if_pos c_52] | rw [if_neg c_52] | rw [if_neg (not_not_intro c_52)] | rw [if_pos c_57] | rw [if_neg c_57] | rw [if_neg (not_not_intro c_57)] | rw [if_pos c_64] | rw [if_neg c_64] | rw [if_neg (not_not_intro c_64)] | rw [if_pos n_64] | rw [if_neg n_64] | rw [if_neg (not_not_intro n_64)] | rw [if_pos c_69] | rw [if_neg c_69] | rw [if_neg (not_not_intro c_69)] | rw [if_pos n_69] | rw [if_neg n_69] | rw [if_neg (not_not_intro n_69)] | rw [if_pos c_73] | rw [if_neg c_73] | rw [if_neg (not_not_intro c_73)] | rw [if_pos n_73] | rw [if_neg n_73] | rw [if_neg (not_not_intro n_73)] | rw [if_pos c_79] | rw [if_neg c_79] | rw [if_neg (not_not_intro c_79)] | rw [if_pos n_79] | rw [if_neg n_79] | rw [if_neg (not_not_intro n_79)] | rw [if_pos c_92] | rw [if_neg c_92] | rw [if_neg (not_not_intro c_92)])
                  refine lv_bipush (v := (-3)) hx hb dX7_act_95 (by decide) ?_
                  exact gr_i F hr hlk hK hR dX7_act_97 (by rw [sp_actR, if_neg (by rw [hE]; decide), hE]) (by rw [sp_actS, if_neg (by rw [hE]; decide)])
      · have hE : sp_actE S (nI x) x1 x2 x3 x4 x5 = -2 := by unfold sp_actE; rw [nI_clamp (n := x) (by omega)]; repeat (first | rw [if_pos c_52] | rw [if_neg c_52] | rw [if_neg (not_not_intro c_52)] | rw [if_pos c_57] | rw [if_neg c_57] | rw [if_neg (not_not_intro c_57)])
        refine lv_bipush (v := (-2)) hx hb dX7_act_60 (by decide) ?_
        exact gr_i F hr hlk hK hR dX7_act_62 (by rw [sp_actR, if_neg (by rw [hE]; decide), hE]) (by rw [sp_actS, if_neg (by rw [hE]; decide)])
  · skip
    refine lv_iload_n hx hb dX7_act_0 rfl (lv_at hl 3 rfl) ?_
    refine lv_iconst (v := nI 1) hx hb dX7_act_1 (by decide) ?_
    refine lv_icmp_lt (tgt := 19) hx hb dX7_act_2 (by decide) (fun c_2 => ?_) (fun c_2 => ?_)
    · have n_2 := Int32.not_le.mpr c_2
      refine lv_iload_n hx hb dX7_act_19 rfl (lv_at hl 3 rfl) ?_
      refine lv_bipush (v := nI 7) hx hb dX7_act_20 (by decide) ?_
      refine lv_icmp_eq (tgt := 31) hx hb dX7_act_22 (by decide) (fun c_22 => ?_) (fun c_22 => ?_)
      · refine lv_aload_n hx hb dX7_act_31 rfl (lv_at hl 0 rfl) ?_
        refine lv_iload hx hb dX7_act_32 (lv_at hl 4 rfl) ?_
        refine gcVi (As := [.int x3]) F hK hR hml cv_X7_87 (o := 0) rfl rfl rfl (c_X7_has l G A adr S X x3) ⟨rfl, rfl⟩ ⟨Nat.le_of_ble_eq_true rfl, Nat.le_of_ble_eq_true rfl⟩ rfl rfl hl.1 (Nat.le_of_ble_eq_true rfl) dX7_act_34 ⟨Nat.zero_le _, Nat.zero_le _⟩ (fun H locs hR => ?_)
        refine lv_if_ne (tgt := 44) hx hb dX7_act_37 (by decide) (fun c_37 => ?_) (fun c_37 => ?_)
        · refine lv_iconst (v := nI 0) hx hb dX7_act_44 (by decide) ?_
          refine lv_istore (lv' := [(7, .int (nI 0)), (0, .ref (adr 0)), (1, .int x0), (2, .int x1), (3, .int x2), (4, .int x3), (5, .int x4), (6, .int x5)]) hx hb dX7_act_45 hl (by decide) rfl (fun ls hl => ?_)
          have q : nI 0 = sp_bad (S 0 0) x2 x3 x4 := by unfold sp_bad; simp [c_2, n_2, c_22, c_37] <;> (intro _ h; exact absurd h (by decide))
          exact K _ _ _ ⟨hR, by rw [← q]; exact lv_sub hl [0, 1, 2, 3, 4, 5, 6, 7] rfl⟩
        · refine lv_iconst (v := nI 1) hx hb dX7_act_40 (by decide) ?_
          refine lv_goto (tgt := 45) hx hb dX7_act_41 (by decide) ?_
          refine lv_istore (lv' := [(7, .int (nI 1)), (0, .ref (adr 0)), (1, .int x0), (2, .int x1), (3, .int x2), (4, .int x3), (5, .int x4), (6, .int x5)]) hx hb dX7_act_45 hl (by decide) rfl (fun ls hl => ?_)
          have q : nI 1 = sp_bad (S 0 0) x2 x3 x4 := by unfold sp_bad; simp [c_2, n_2, c_22, c_37] <;> (intro _ h; exact absurd h (by decide))
          exact K _ _ _ ⟨hR, by rw [← q]; exact lv_sub hl [0, 1, 2, 3, 4, 5, 6, 7] rfl⟩
      · refine lv_iload_n hx hb dX7_act_25 rfl (lv_at hl 3 rfl) ?_
        refine lv_bipush (v := nI 8) hx hb dX7_act_26 (by decide) ?_
        refine lv_icmp_ne (tgt := 44) hx hb dX7_act_28 (by decide) (fun c_28 => ?_) (fun c_28 => ?_)
        · refine lv_iconst (v := nI 0) hx hb dX7_act_44 (by decide) ?_
          refine lv_istore (lv' := [(7, .int (nI 0)), (0, .ref (adr 0)), (1, .int x0), (2, .int x1), (3, .int x2), (4, .int x3), (5, .int x4), (6, .int x5)]) hx hb dX7_act_45 hl (by decide) rfl (fun ls hl => ?_)
          have q : nI 0 = sp_bad (S 0 0) x2 x3 x4 := by unfold sp_bad; simp [c_2, n_2, c_22, c_28] <;> (intro _ h; exact absurd h (by decide))
          exact K _ _ _ ⟨hR, by rw [← q]; exact lv_sub hl [0, 1, 2, 3, 4, 5, 6, 7] rfl⟩
        · refine lv_aload_n hx hb dX7_act_31 rfl (lv_at hl 0 rfl) ?_
          refine lv_iload hx hb dX7_act_32 (lv_at hl 4 rfl) ?_
          refine gcVi (As := [.int x3]) F hK hR hml cv_X7_87 (o := 0) rfl rfl rfl (c_X7_has l G A adr S X x3) ⟨rfl, rfl⟩ ⟨Nat.le_of_ble_eq_true rfl, Nat.le_of_ble_eq_true rfl⟩ rfl rfl hl.1 (Nat.le_of_ble_eq_true rfl) dX7_act_34 ⟨Nat.zero_le _, Nat.zero_le _⟩ (fun H locs hR => ?_)
          refine lv_if_ne (tgt := 44) hx hb dX7_act_37 (by decide) (fun c_37 => ?_) (fun c_37 => ?_)
          · refine lv_iconst (v := nI 0) hx hb dX7_act_44 (by decide) ?_
            refine lv_istore (lv' := [(7, .int (nI 0)), (0, .ref (adr 0)), (1, .int x0), (2, .int x1), (3, .int x2), (4, .int x3), (5, .int x4), (6, .int x5)]) hx hb dX7_act_45 hl (by decide) rfl (fun ls hl => ?_)
            have q : nI 0 = sp_bad (S 0 0) x2 x3 x4 := by unfold sp_bad; simp [c_2, n_2, c_22, c_28, c_37] <;> (intro _ h; exact absurd h (by decide))
            exact K _ _ _ ⟨hR, by rw [← q]; exact lv_sub hl [0, 1, 2, 3, 4, 5, 6, 7] rfl⟩
          · refine lv_iconst (v := nI 1) hx hb dX7_act_40 (by decide) ?_
            refine lv_goto (tgt := 45) hx hb dX7_act_41 (by decide) ?_
            refine lv_istore (lv' := [(7, .int (nI 1)), (0, .ref (adr 0)), (1, .int x0), (2, .int x1), (3, .int x2), (4, .int x3), (5, .int x4), (6, .int x5)]) hx hb dX7_act_45 hl (by decide) rfl (fun ls hl => ?_)
            have q : nI 1 = sp_bad (S 0 0) x2 x3 x4 := by unfold sp_bad; simp [c_2, n_2, c_22, c_28, c_37] <;> (intro _ h; exact absurd h (by decide))
            exact K _ _ _ ⟨hR, by rw [← q]; exact lv_sub hl [0, 1, 2, 3, 4, 5, 6, 7] rfl⟩
    · have n_2 := Int32.not_lt.mp c_2
      refine lv_iload_n hx hb dX7_act_5 rfl (lv_at hl 3 rfl) ?_
      refine lv_iconst (v := nI 3) hx hb dX7_act_6 (by decide) ?_
      refine lv_icmp_gt (tgt := 19) hx hb dX7_act_7 (by decide) (fun c_7 => ?_) (fun c_7 => ?_)
      · have n_7 := Int32.not_le.mpr c_7
        refine lv_iload_n hx hb dX7_act_19 rfl (lv_at hl 3 rfl) ?_
        refine lv_bipush (v := nI 7) hx hb dX7_act_20 (by decide) ?_
        refine lv_icmp_eq (tgt := 31) hx hb dX7_act_22 (by decide) (fun c_22 => ?_) (fun c_22 => ?_)
        · refine lv_aload_n hx hb dX7_act_31 rfl (lv_at hl 0 rfl) ?_
          refine lv_iload hx hb dX7_act_32 (lv_at hl 4 rfl) ?_
          refine gcVi (As := [.int x3]) F hK hR hml cv_X7_87 (o := 0) rfl rfl rfl (c_X7_has l G A adr S X x3) ⟨rfl, rfl⟩ ⟨Nat.le_of_ble_eq_true rfl, Nat.le_of_ble_eq_true rfl⟩ rfl rfl hl.1 (Nat.le_of_ble_eq_true rfl) dX7_act_34 ⟨Nat.zero_le _, Nat.zero_le _⟩ (fun H locs hR => ?_)
          refine lv_if_ne (tgt := 44) hx hb dX7_act_37 (by decide) (fun c_37 => ?_) (fun c_37 => ?_)
          · refine lv_iconst (v := nI 0) hx hb dX7_act_44 (by decide) ?_
            refine lv_istore (lv' := [(7, .int (nI 0)), (0, .ref (adr 0)), (1, .int x0), (2, .int x1), (3, .int x2), (4, .int x3), (5, .int x4), (6, .int x5)]) hx hb dX7_act_45 hl (by decide) rfl (fun ls hl => ?_)
            have q : nI 0 = sp_bad (S 0 0) x2 x3 x4 := by unfold sp_bad; simp [c_2, n_2, c_7, n_7, c_22, c_37] <;> (intro _ h; exact absurd h (by decide))
            exact K _ _ _ ⟨hR, by rw [← q]; exact lv_sub hl [0, 1, 2, 3, 4, 5, 6, 7] rfl⟩
          · refine lv_iconst (v := nI 1) hx hb dX7_act_40 (by decide) ?_
            refine lv_goto (tgt := 45) hx hb dX7_act_41 (by decide) ?_
            refine lv_istore (lv' := [(7, .int (nI 1)), (0, .ref (adr 0)), (1, .int x0), (2, .int x1), (3, .int x2), (4, .int x3), (5, .int x4), (6, .int x5)]) hx hb dX7_act_45 hl (by decide) rfl (fun ls hl => ?_)
            have q : nI 1 = sp_bad (S 0 0) x2 x3 x4 := by unfold sp_bad; simp [c_2, n_2, c_7, n_7, c_22, c_37] <;> (intro _ h; exact absurd h (by decide))
            exact K _ _ _ ⟨hR, by rw [← q]; exact lv_sub hl [0, 1, 2, 3, 4, 5, 6, 7] rfl⟩
        · refine lv_iload_n hx hb dX7_act_25 rfl (lv_at hl 3 rfl) ?_
          refine lv_bipush (v := nI 8) hx hb dX7_act_26 (by decide) ?_
          refine lv_icmp_ne (tgt := 44) hx hb dX7_act_28 (by decide) (fun c_28 => ?_) (fun c_28 => ?_)
          · refine lv_iconst (v := nI 0) hx hb dX7_act_44 (by decide) ?_
            refine lv_istore (lv' := [(7, .int (nI 0)), (0, .ref (adr 0)), (1, .int x0), (2, .int x1), (3, .int x2), (4, .int x3), (5, .int x4), (6, .int x5)]) hx hb dX7_act_45 hl (by decide) rfl (fun ls hl => ?_)
            have q : nI 0 = sp_bad (S 0 0) x2 x3 x4 := by unfold sp_bad; simp [c_2, n_2, c_7, n_7, c_22, c_28] <;> (intro _ h; exact absurd h (by decide))
            exact K _ _ _ ⟨hR, by rw [← q]; exact lv_sub hl [0, 1, 2, 3, 4, 5, 6, 7] rfl⟩
          · refine lv_aload_n hx hb dX7_act_31 rfl (lv_at hl 0 rfl) ?_
            refine lv_iload hx hb dX7_act_32 (lv_at hl 4 rfl) ?_
            refine gcVi (As := [.int x3]) F hK hR hml cv_X7_87 (o := 0) rfl rfl rfl (c_X7_has l G A adr S X x3) ⟨rfl, rfl⟩ ⟨Nat.le_of_ble_eq_true rfl, Nat.le_of_ble_eq_true rfl⟩ rfl rfl hl.1 (Nat.le_of_ble_eq_true rfl) dX7_act_34 ⟨Nat.zero_le _, Nat.zero_le _⟩ (fun H locs hR => ?_)
            refine lv_if_ne (tgt := 44) hx hb dX7_act_37 (by decide) (fun c_37 => ?_) (fun c_37 => ?_)
            · refine lv_iconst (v := nI 0) hx hb dX7_act_44 (by decide) ?_
              refine lv_istore (lv' := [(7, .int (nI 0)), (0, .ref (adr 0)), (1, .int x0), (2, .int x1), (3, .int x2), (4, .int x3), (5, .int x4), (6, .int x5)]) hx hb dX7_act_45 hl (by decide) rfl (fun ls hl => ?_)
              have q : nI 0 = sp_bad (S 0 0) x2 x3 x4 := by unfold sp_bad; simp [c_2, n_2, c_7, n_7, c_22, c_28, c_37] <;> (intro _ h; exact absurd h (by decide))
              exact K _ _ _ ⟨hR, by rw [← q]; exact lv_sub hl [0, 1, 2, 3, 4, 5, 6, 7] rfl⟩
            · refine lv_iconst (v := nI 1) hx hb dX7_act_40 (by decide) ?_
              refine lv_goto (tgt := 45) hx hb dX7_act_41 (by decide) ?_
              refine lv_istore (lv' := [(7, .int (nI 1)), (0, .ref (adr 0)), (1, .int x0), (2, .int x1), (3, .int x2), (4, .int x3), (5, .int x4), (6, .int x5)]) hx hb dX7_act_45 hl (by decide) rfl (fun ls hl => ?_)
              have q : nI 1 = sp_bad (S 0 0) x2 x3 x4 := by unfold sp_bad; simp [c_2, n_2, c_7, n_7, c_22, c_28, c_37] <;> (intro _ h; exact absurd h (by decide))
              exact K _ _ _ ⟨hR, by rw [← q]; exact lv_sub hl [0, 1, 2, 3, 4, 5, 6, 7] rfl⟩
      · have n_7 := Int32.not_lt.mp c_7
        refine lv_aload_n hx hb dX7_act_10 rfl (lv_at hl 0 rfl) ?_
        refine lv_iload hx hb dX7_act_11 (lv_at hl 5 rfl) ?_
        refine gcVi (As := [.int x4]) F hK hR hml cv_X7_87 (o := 0) rfl rfl rfl (c_X7_has l G A adr S X x4) ⟨rfl, rfl⟩ ⟨Nat.le_of_ble_eq_true rfl, Nat.le_of_ble_eq_true rfl⟩ rfl rfl hl.1 (Nat.le_of_ble_eq_true rfl) dX7_act_13 ⟨Nat.zero_le _, Nat.zero_le _⟩ (fun H locs hR => ?_)
        refine lv_if_eq (tgt := 40) hx hb dX7_act_16 (by decide) (fun c_16 => ?_) (fun c_16 => ?_)
        · refine lv_iconst (v := nI 1) hx hb dX7_act_40 (by decide) ?_
          refine lv_goto (tgt := 45) hx hb dX7_act_41 (by decide) ?_
          refine lv_istore (lv' := [(7, .int (nI 1)), (0, .ref (adr 0)), (1, .int x0), (2, .int x1), (3, .int x2), (4, .int x3), (5, .int x4), (6, .int x5)]) hx hb dX7_act_45 hl (by decide) rfl (fun ls hl => ?_)
          have q : nI 1 = sp_bad (S 0 0) x2 x3 x4 := by unfold sp_bad; simp [c_2, n_2, c_7, n_7, c_16] <;> (intro _ h; exact absurd h (by decide))
          exact K _ _ _ ⟨hR, by rw [← q]; exact lv_sub hl [0, 1, 2, 3, 4, 5, 6, 7] rfl⟩
        · refine lv_iload_n hx hb dX7_act_19 rfl (lv_at hl 3 rfl) ?_
          refine lv_bipush (v := nI 7) hx hb dX7_act_20 (by decide) ?_
          refine lv_icmp_eq (tgt := 31) hx hb dX7_act_22 (by decide) (fun c_22 => ?_) (fun c_22 => ?_)
          · refine lv_aload_n hx hb dX7_act_31 rfl (lv_at hl 0 rfl) ?_
            refine lv_iload hx hb dX7_act_32 (lv_at hl 4 rfl) ?_
            refine gcVi (As := [.int x3]) F hK hR hml cv_X7_87 (o := 0) rfl rfl rfl (c_X7_has l G A adr S X x3) ⟨rfl, rfl⟩ ⟨Nat.le_of_ble_eq_true rfl, Nat.le_of_ble_eq_true rfl⟩ rfl rfl hl.1 (Nat.le_of_ble_eq_true rfl) dX7_act_34 ⟨Nat.zero_le _, Nat.zero_le _⟩ (fun H locs hR => ?_)
            refine lv_if_ne (tgt := 44) hx hb dX7_act_37 (by decide) (fun c_37 => ?_) (fun c_37 => ?_)
            · refine lv_iconst (v := nI 0) hx hb dX7_act_44 (by decide) ?_
              refine lv_istore (lv' := [(7, .int (nI 0)), (0, .ref (adr 0)), (1, .int x0), (2, .int x1), (3, .int x2), (4, .int x3), (5, .int x4), (6, .int x5)]) hx hb dX7_act_45 hl (by decide) rfl (fun ls hl => ?_)
              have q : nI 0 = sp_bad (S 0 0) x2 x3 x4 := by unfold sp_bad; simp [c_2, n_2, c_7, n_7, c_16, c_22, c_37] <;> (intro _ h; exact absurd h (by decide))
              exact K _ _ _ ⟨hR, by rw [← q]; exact lv_sub hl [0, 1, 2, 3, 4, 5, 6, 7] rfl⟩
            · refine lv_iconst (v := nI 1) hx hb dX7_act_40 (by decide) ?_
              refine lv_goto (tgt := 45) hx hb dX7_act_41 (by decide) ?_
              refine lv_istore (lv' := [(7, .int (nI 1)), (0, .ref (adr 0)), (1, .int x0), (2, .int x1), (3, .int x2), (4, .int x3), (5, .int x4), (6, .int x5)]) hx hb dX7_act_45 hl (by decide) rfl (fun ls hl => ?_)
              have q : nI 1 = sp_bad (S 0 0) x2 x3 x4 := by unfold sp_bad; simp [c_2, n_2, c_7, n_7, c_16, c_22, c_37] <;> (intro _ h; exact absurd h (by decide))
              exact K _ _ _ ⟨hR, by rw [← q]; exact lv_sub hl [0, 1, 2, 3, 4, 5, 6, 7] rfl⟩
          · refine lv_iload_n hx hb dX7_act_25 rfl (lv_at hl 3 rfl) ?_
            refine lv_bipush (v := nI 8) hx hb dX7_act_26 (by decide) ?_
            refine lv_icmp_ne (tgt := 44) hx hb dX7_act_28 (by decide) (fun c_28 => ?_) (fun c_28 => ?_)
            · refine lv_iconst (v := nI 0) hx hb dX7_act_44 (by decide) ?_
              refine lv_istore (lv' := [(7, .int (nI 0)), (0, .ref (adr 0)), (1, .int x0), (2, .int x1), (3, .int x2), (4, .int x3), (5, .int x4), (6, .int x5)]) hx hb dX7_act_45 hl (by decide) rfl (fun ls hl => ?_)
              have q : nI 0 = sp_bad (S 0 0) x2 x3 x4 := by unfold sp_bad; simp [c_2, n_2, c_7, n_7, c_16, c_22, c_28] <;> (intro _ h; exact absurd h (by decide))
              exact K _ _ _ ⟨hR, by rw [← q]; exact lv_sub hl [0, 1, 2, 3, 4, 5, 6, 7] rfl⟩
            · refine lv_aload_n hx hb dX7_act_31 rfl (lv_at hl 0 rfl) ?_
              refine lv_iload hx hb dX7_act_32 (lv_at hl 4 rfl) ?_
              refine gcVi (As := [.int x3]) F hK hR hml cv_X7_87 (o := 0) rfl rfl rfl (c_X7_has l G A adr S X x3) ⟨rfl, rfl⟩ ⟨Nat.le_of_ble_eq_true rfl, Nat.le_of_ble_eq_true rfl⟩ rfl rfl hl.1 (Nat.le_of_ble_eq_true rfl) dX7_act_34 ⟨Nat.zero_le _, Nat.zero_le _⟩ (fun H locs hR => ?_)
              refine lv_if_ne (tgt := 44) hx hb dX7_act_37 (by decide) (fun c_37 => ?_) (fun c_37 => ?_)
              · refine lv_iconst (v := nI 0) hx hb dX7_act_44 (by decide) ?_
                refine lv_istore (lv' := [(7, .int (nI 0)), (0, .ref (adr 0)), (1, .int x0), (2, .int x1), (3, .int x2), (4, .int x3), (5, .int x4), (6, .int x5)]) hx hb dX7_act_45 hl (by decide) rfl (fun ls hl => ?_)
                have q : nI 0 = sp_bad (S 0 0) x2 x3 x4 := by unfold sp_bad; simp [c_2, n_2, c_7, n_7, c_16, c_22, c_28, c_37] <;> (intro _ h; exact absurd h (by decide))
                exact K _ _ _ ⟨hR, by rw [← q]; exact lv_sub hl [0, 1, 2, 3, 4, 5, 6, 7] rfl⟩
              · refine lv_iconst (v := nI 1) hx hb dX7_act_40 (by decide) ?_
                refine lv_goto (tgt := 45) hx hb dX7_act_41 (by decide) ?_
                refine lv_istore (lv' := [(7, .int (nI 1)), (0, .ref (adr 0)), (1, .int x0), (2, .int x1), (3, .int x2), (4, .int x3), (5, .int x4), (6, .int x5)]) hx hb dX7_act_45 hl (by decide) rfl (fun ls hl => ?_)
                have q : nI 1 = sp_bad (S 0 0) x2 x3 x4 := by unfold sp_bad; simp [c_2, n_2, c_7, n_7, c_16, c_22, c_28, c_37] <;> (intro _ h; exact absurd h (by decide))
                exact K _ _ _ ⟨hR, by rw [← q]; exact lv_sub hl [0, 1, 2, 3, 4, 5, 6, 7] rfl⟩
set_option maxHeartbeats 4000000 in
set_option maxRecDepth 100000 in
/-- bears(x, face) -/
theorem c_X7_bears (l : Launch) (G : gw_G) (A : Nat → Prop) (adr : Nat → Nat) (S X : Nat → Nat → Int32) (n : Nat) (x0 x1 : Int32) (hn0 : S 0 0 = nI n) (hn : n ≤ 12) (hfa : ∀ x, x < 12 → ∃ fc, fc ≤ 3 ∧ S 4 x = nI fc) : gm l yX7_bears cX7_bears 5 (some .int) (rmL 1) 0 0 A [.ref (adr 0), .int x0, .int x1] (gW G A adr (rcel G adr S X)) (gW G A adr (rcel G adr (sp_bearsS S x0 x1) X)) (some (.int (sp_bearsR S x0 x1))) := by
  refine gm_of (own := RX7) (by decide) rfl (Nat.le_of_ble_eq_true rfl) ?_
  intro p e s m below meth c ls F hml hr hlk hnm hK hR hl
  have hx := F.1
  have hb := F.2.1
  have hl : lv_has ls 5 [(0, .ref (adr 0)), (1, .int x0), (2, .int x1)] := hl
  refine lv_aload_n hx hb dX7_bears_0 rfl (lv_at hl 0 rfl) ?_
  refine lv_iload_n hx hb dX7_bears_1 rfl (lv_at hl 1 rfl) ?_
  refine gcVi (As := [.int x0]) F hK hR hml cv_X7_87 (o := 0) rfl rfl rfl (c_X7_has l G A adr S X x0) ⟨rfl, rfl⟩ ⟨Nat.le_of_ble_eq_true rfl, Nat.le_of_ble_eq_true rfl⟩ rfl rfl hl.1 (Nat.le_of_ble_eq_true rfl) dX7_bears_2 ⟨Nat.zero_le _, Nat.zero_le _⟩ (fun H locs hR => ?_)
  refine lv_if_eq (tgt := 16) hx hb dX7_bears_5 (by decide) (fun c_5 => ?_) (fun c_5 => ?_)
  · have hE : sp_bearsE S x0 x1 = -2 := by unfold sp_bearsE; repeat (first | rw [if_pos c_5] | rw [if_neg c_5] | rw [if_neg (not_not_intro c_5)])
    refine lv_bipush (v := (-2)) hx hb dX7_bears_16 (by decide) ?_
    exact gr_i F hr hlk hK hR dX7_bears_18 (by rw [sp_bearsR, if_neg (by rw [hE]; decide), hE]) (by rw [sp_bearsS, if_neg (by rw [hE]; decide)])
  · obtain ⟨x, h_x, rfl⟩ := has_yes hn0 hn c_5
    refine lv_aload_n hx hb dX7_bears_8 rfl (lv_at hl 0 rfl) ?_
    refine lv_iload_n hx hb dX7_bears_9 rfl (lv_at hl 2 rfl) ?_
    refine gcVi (As := [.int x1]) F hK hR hml cv_X7_87 (o := 0) rfl rfl rfl (c_X7_has l G A adr S X x1) ⟨rfl, rfl⟩ ⟨Nat.le_of_ble_eq_true rfl, Nat.le_of_ble_eq_true rfl⟩ rfl rfl hl.1 (Nat.le_of_ble_eq_true rfl) dX7_bears_10 ⟨Nat.zero_le _, Nat.zero_le _⟩ (fun H locs hR => ?_)
    refine lv_if_ne (tgt := 19) hx hb dX7_bears_13 (by decide) (fun c_13 => ?_) (fun c_13 => ?_)
    · obtain ⟨y, h_y, rfl⟩ := has_yes hn0 hn c_13
      refine lv_iconst (v := nI 0) hx hb dX7_bears_19 (by decide) ?_
      refine lv_istore_n (lv' := [(3, .int (nI 0)), (0, .ref (adr 0)), (1, .int (nI x)), (2, .int (nI y))]) hx hb dX7_bears_20 rfl hl (by decide) rfl (fun ls hl => ?_)
      refine lv_iconst (v := nI 0) hx hb dX7_bears_21 (by decide) ?_
      refine lv_istore (lv' := [(4, .int (nI 0)), (3, .int (nI 0)), (0, .ref (adr 0)), (1, .int (nI x)), (2, .int (nI y))]) hx hb dX7_bears_22 hl (by decide) rfl (fun ls hl => ?_)
      obtain ⟨fc, hfc, hfe⟩ := hfa x (by omega)
      obtain ⟨k, hk⟩ : ∃ k, k = 0 := ⟨_, rfl⟩
      replace hl : lv_has ls 5 [(4, .int (nI k)), (3, .int (sp_isin S x y k)), (0, .ref (adr 0)), (1, .int (nI x)), (2, .int (nI y))] := by rw [hk]; exact lv_sub hl [0, 1, 2, 3, 4] rfl
      have hkf : k ≤ fc := by omega
      clear hk
      generalize hd : fc - k = d
      induction d generalizing k ls with
      | zero =>
        have hkk : k = fc := by omega
        subst hkk
        refine lv_iload hx hb dX7_bears_24 (lv_at hl 0 rfl) ?_
        refine lv_aload_n hx hb dX7_bears_26 rfl (lv_at hl 2 rfl) ?_
        refine rg_4 F hK hR dX7_bears_27 ?_
        refine lv_iload_n hx hb dX7_bears_30 rfl (lv_at hl 3 rfl) ?_
        refine ri_4 F hK hR (by omega) dX7_bears_31 ?_
        refine lv_eq (hfe) ?_
        refine nv_icmp_ge (by omega) (by omega) hx hb dX7_bears_32 (tgt := 66) (by decide) (fun c_32 => ?_) (fun c_32 => absurd c_32 (by omega))
        refine lv_aload_n hx hb dX7_bears_66 rfl (lv_at hl 2 rfl) ?_
        refine rg_1 F hK hR dX7_bears_67 ?_
        refine lv_iload_n hx hb dX7_bears_70 rfl (lv_at hl 4 rfl) ?_
        refine ri_1 F hK hR (by omega) dX7_bears_71 ?_
        refine lv_if_eq (tgt := 93) hx hb dX7_bears_72 (by decide) (fun c_72 => ?_) (fun c_72 => ?_)
        · have hE : sp_bearsE S (nI x) (nI y) = -4 := by unfold sp_bearsE; rw [nI_clamp (n := x) (by omega), nI_clamp (n := y) (by omega), hfe, nI_clamp (n := k) (by omega)]; repeat (first | rw [if_pos c_5] | rw [if_neg c_5] | rw [if_neg (not_not_intro c_5)] | rw [if_pos c_13] | rw [if_neg c_13] | rw [if_neg (not_not_intro c_13)] | rw [if_pos c_32] | rw [if_neg c_32] | rw [if_neg (not_not_intro c_32)] | rw [if_pos c_72] | rw [if_neg c_72] | rw [if_neg (not_not_intro c_72)])
          refine lv_bipush (v := (-4)) hx hb dX7_bears_93 (by decide) ?_
          exact gr_i F hr hlk hK hR dX7_bears_95 (by rw [sp_bearsR, if_neg (by rw [hE]; decide), hE]) (by rw [sp_bearsS, if_neg (by rw [hE]; decide)])
        · refine lv_iload_n hx hb dX7_bears_75 rfl (lv_at hl 4 rfl) ?_
          refine lv_iload_n hx hb dX7_bears_76 rfl (lv_at hl 3 rfl) ?_
          refine nv_icmp_ge (by omega) (by omega) hx hb dX7_bears_77 (tgt := 93) (by decide) (fun c_77 => ?_) (fun c_77 => ?_)
          · have n_77 : ¬ (y < x) := by omega
            have hE : sp_bearsE S (nI x) (nI y) = -4 := by unfold sp_bearsE; rw [nI_clamp (n := x) (by omega), nI_clamp (n := y) (by omega), hfe, nI_clamp (n := k) (by omega)]; repeat (first | rw [if_pos c_5] | rw [if_neg c_5] | rw [if_neg (not_not_intro c_5)] | rw [if_pos c_13] | rw [if_neg c_13] | rw [if_neg (not_not_intro c_13)] | rw [if_pos c_32] | rw [if_neg c_32] | rw [if_neg (not_not_intro c_32)] | rw [if_pos c_72] | rw [if_neg c_72] | rw [if_neg (not_not_intro c_72)] | rw [if_pos c_77] | rw [if_neg c_77] | rw [if_neg (not_not_intro c_77)] | rw [if_pos n_77] | rw [if_neg n_77] | rw [if_neg (not_not_intro n_77)])
            refine lv_bipush (v := (-4)) hx hb dX7_bears_93 (by decide) ?_
            exact gr_i F hr hlk hK hR dX7_bears_95 (by rw [sp_bearsR, if_neg (by rw [hE]; decide), hE]) (by rw [sp_bearsS, if_neg (by rw [hE]; decide)])
          · have n_77 : ¬ (x ≤ y) := by omega
            refine lv_iload_n hx hb dX7_bears_80 rfl (lv_at hl 1 rfl) ?_
            refine lv_if_ne (tgt := 93) hx hb dX7_bears_81 (by decide) (fun c_81 => ?_) (fun c_81 => ?_)
            · have hE : sp_bearsE S (nI x) (nI y) = -4 := by unfold sp_bearsE; rw [nI_clamp (n := x) (by omega), nI_clamp (n := y) (by omega), hfe, nI_clamp (n := k) (by omega)]; repeat (first | rw [if_pos c_5] | rw [if_neg c_5] | rw [if_neg (not_not_intro c_5)] | rw [if_pos c_13] | rw [if_neg c_13] | rw [if_neg (not_not_intro c_13)] | rw [if_pos c_32] | rw [if_neg c_32] | rw [if_neg (not_not_intro c_32)] | rw [if_pos c_72] | rw [if_neg c_72] | rw [if_neg (not_not_intro c_72)] | rw [if_pos c_77] | rw [if_neg c_77] | rw [if_neg (not_not_intro c_77)] | rw [if_pos n_77] | rw [if_neg n_77] | rw [if_neg (not_not_intro n_77)] | rw [if_pos c_81] | rw [if_neg c_81] | rw [if_neg (not_not_intro c_81)])
              refine lv_bipush (v := (-4)) hx hb dX7_bears_93 (by decide) ?_
              exact gr_i F hr hlk hK hR dX7_bears_95 (by rw [sp_bearsR, if_neg (by rw [hE]; decide), hE]) (by rw [sp_bearsS, if_neg (by rw [hE]; decide)])
            · refine lv_aload_n hx hb dX7_bears_84 rfl (lv_at hl 2 rfl) ?_
              refine rg_12 F hK hR dX7_bears_85 ?_
              refine lv_iload_n hx hb dX7_bears_88 rfl (lv_at hl 3 rfl) ?_
              refine ri_12 F hK hR (by omega) dX7_bears_89 ?_
              refine lv_if_eq (tgt := 96) hx hb dX7_bears_90 (by decide) (fun c_90 => ?_) (fun c_90 => ?_)
              · refine lv_aload_n hx hb dX7_bears_96 rfl (lv_at hl 2 rfl) ?_
                refine rg_4 F hK hR dX7_bears_97 ?_
                refine lv_iload_n hx hb dX7_bears_100 rfl (lv_at hl 3 rfl) ?_
                refine ri_4 F hK hR (by omega) dX7_bears_101 ?_
                refine lv_eq (hfe) ?_
                refine lv_iconst (v := nI 3) hx hb dX7_bears_102 (by decide) ?_
                refine nv_icmp_ne (by omega) (by omega) hx hb dX7_bears_103 (tgt := 109) (by decide) (fun c_103 => ?_) (fun c_103 => ?_)
                · have hE : sp_bearsE S (nI x) (nI y) = 0 := by unfold sp_bearsE; rw [nI_clamp (n := x) (by omega), nI_clamp (n := y) (by omega), hfe, nI_clamp (n := k) (by omega)]; repeat (first | rw [if_pos c_5] | rw [if_neg c_5] | rw [if_neg (not_not_intro c_5)] | rw [if_pos c_13] | rw [if_neg c_13] | rw [if_neg (not_not_intro c_13)] | rw [if_pos c_32] | rw [if_neg c_32] | rw [if_neg (not_not_intro c_32)] | rw [if_pos c_72] | rw [if_neg c_72] | rw [if_neg (not_not_intro c_72)] | rw [if_pos c_77] | rw [if_neg c_77] | rw [if_neg (not_not_intro c_77)] | rw [if_pos n_77] | rw [if_neg n_77] | rw [if_neg (not_not_intro n_77)] | rw [if_pos c_81] | rw [if_neg c_81] | rw [if_neg (not_not_intro c_81)] | rw [if_pos c_90] | rw [if_neg c_90] | rw [if_neg (not_not_intro c_90)] | rw [if_pos c_103] | rw [if_neg c_103] | rw [if_neg (not_not_intro c_103)])
                  refine lv_aload_n hx hb dX7_bears_109 rfl (lv_at hl 2 rfl) ?_
                  refine rg_5 F hK hR dX7_bears_110 ?_
                  refine lv_iconst (v := nI 3) hx hb dX7_bears_113 (by decide) ?_
                  refine lv_iload_n hx hb dX7_bears_114 rfl (lv_at hl 3 rfl) ?_
                  refine nv_imul hx hb dX7_bears_115 ?_
                  refine lv_aload_n hx hb dX7_bears_116 rfl (lv_at hl 2 rfl) ?_
                  refine rg_4 F hK hR dX7_bears_117 ?_
                  refine lv_iload_n hx hb dX7_bears_120 rfl (lv_at hl 3 rfl) ?_
                  refine ri_4 F hK hR (by omega) dX7_bears_121 ?_
                  refine lv_eq (hfe) ?_
                  refine nv_iadd hx hb dX7_bears_122 ?_
                  refine lv_iload_n hx hb dX7_bears_123 rfl (lv_at hl 4 rfl) ?_
                  refine rs_5 F hK hR (by omega) dX7_bears_124 (fun H locs hR => ?_)
                  refine lv_aload_n hx hb dX7_bears_125 rfl (lv_at hl 2 rfl) ?_
                  refine rg_4 F hK hR dX7_bears_126 ?_
                  refine lv_iload_n hx hb dX7_bears_129 rfl (lv_at hl 3 rfl) ?_
                  refine lv_dup2_11 hx hb dX7_bears_130 rfl rfl ?_
                  refine ri_4 F hK hR (by omega) dX7_bears_131 ?_
                  refine lv_eq ((m2_nk (by decide)).trans (hfe)) ?_
                  refine lv_iconst (v := nI 1) hx hb dX7_bears_132 (by decide) ?_
                  refine nv_iadd hx hb dX7_bears_133 ?_
                  refine rs_4 F hK hR (by omega) dX7_bears_134 (fun H locs hR => ?_)
                  refine lv_aload_n hx hb dX7_bears_135 rfl (lv_at hl 2 rfl) ?_
                  refine rg_4 F hK hR dX7_bears_136 ?_
                  refine lv_iload_n hx hb dX7_bears_139 rfl (lv_at hl 3 rfl) ?_
                  refine ri_4 F hK hR (by omega) dX7_bears_140 ?_
                  refine lv_eq (m2_at) ?_
                  exact gr_i F hr hlk hK hR dX7_bears_141 (by rw [sp_bearsR, if_pos hE, nI_clamp (n := x) (by omega), hfe, nI_clamp (n := k) (by omega)]) (by rw [sp_bearsS, if_pos hE, nI_clamp (n := x) (by omega), hfe, nI_clamp (n := k) (by omega)])
                · have hE : sp_bearsE S (nI x) (nI y) = -5 := by unfold sp_bearsE; rw [nI_clamp (n := x) (by omega), nI_clamp (n := y) (by omega), hfe, nI_clamp (n := k) (by omega)]; repeat (first | rw [if_pos c_5] | rw [if_neg c_5] | rw [if_neg (not_not_intro c_5)] | rw [if_pos c_13] | rw [if_neg c_13] | rw [if_neg (not_not_intro c_13)] | rw [if_pos c_32] | rw [if_neg c_32] | rw [if_neg (not_not_intro c_32)] | rw [if_pos c_72] | rw [if_neg c_72] | rw [if_neg (not_not_intro c_72)] | rw [if_pos c_77] | rw [if_neg c_77] | rw [if_neg (not_not_intro c_77)] | rw [if_pos n_77] | rw [if_neg n_77] | rw [if_neg (not_not_intro n_77)] | rw [if_pos c_81] | rw [if_neg c_81] | rw [if_neg (not_not_intro c_81)] | rw [if_pos c_90] | rw [if_neg c_90] | rw [if_neg (not_not_intro c_90)] | rw [if_pos c_103] | rw [if_neg c_103] | rw [if_neg (not_not_intro c_103)])
                  refine lv_bipush (v := (-5)) hx hb dX7_bears_106 (by decide) ?_
                  exact gr_i F hr hlk hK hR dX7_bears_108 (by rw [sp_bearsR, if_neg (by rw [hE]; decide), hE]) (by rw [sp_bearsS, if_neg (by rw [hE]; decide)])
              · have hE : sp_bearsE S (nI x) (nI y) = -4 := by unfold sp_bearsE; rw [nI_clamp (n := x) (by omega), nI_clamp (n := y) (by omega), hfe, nI_clamp (n := k) (by omega)]; repeat (first | rw [if_pos c_5] | rw [if_neg c_5] | rw [if_neg (not_not_intro c_5)] | rw [if_pos c_13] | rw [if_neg c_13] | rw [if_neg (not_not_intro c_13)] | rw [if_pos c_32] | rw [if_neg c_32] | rw [if_neg (not_not_intro c_32)] | rw [if_pos c_72] | rw [if_neg c_72] | rw [if_neg (not_not_intro c_72)] | rw [if_pos c_77] | rw [if_neg c_77] | rw [if_neg (not_not_intro c_77)] | rw [if_pos n_77] | rw [if_neg n_77] | rw [if_neg (not_not_intro n_77)] | rw [if_pos c_81] | rw [if_neg c_81] | rw [if_neg (not_not_intro c_81)] | rw [if_pos c_90] | rw [if_neg c_90] | rw [if_neg (not_not_intro c_90)])
                refine lv_bipush (v := (-4)) hx hb dX7_bears_93 (by decide) ?_
                exact gr_i F hr hlk hK hR dX7_bears_95 (by rw [sp_bearsR, if_neg (by rw [hE]; decide), hE]) (by rw [sp_bearsS, if_neg (by rw [hE]; decide)])
      | succ d ih =>
        refine lv_iload hx hb dX7_bears_24 (lv_at hl 0 rfl) ?_
        refine lv_aload_n hx hb dX7_bears_26 rfl (lv_at hl 2 rfl) ?_
        refine rg_4 F hK hR dX7_bears_27 ?_
        refine lv_iload_n hx hb dX7_bears_30 rfl (lv_at hl 3 rfl) ?_
        refine ri_4 F hK hR (by omega) dX7_bears_31 ?_
        refine lv_eq (hfe) ?_
        refine nv_icmp_ge (by omega) (by omega) hx hb dX7_bears_32 (tgt := 66) (by decide) (fun c_32 => absurd c_32 (by omega)) (fun c_32 => ?_)
        refine lv_iload_n hx hb dX7_bears_35 rfl (lv_at hl 1 rfl) ?_
        refine lv_if_ne (tgt := 54) hx hb dX7_bears_36 (by decide) (fun c_36 => ?_) (fun c_36 => ?_)
        · refine lv_iconst (v := nI 1) hx hb dX7_bears_54 (by decide) ?_
          refine lv_goto (tgt := 59) hx hb dX7_bears_55 (by decide) ?_
          refine lv_istore_n (lv' := [(3, .int (nI 1)), (4, .int (nI k)), (0, .ref (adr 0)), (1, .int (nI x)), (2, .int (nI y))]) hx hb dX7_bears_59 rfl hl (by decide) rfl (fun ls hl => ?_)
          refine lv_iinc (v := nI (k + 1)) (lv' := [(4, .int (nI (k + 1))), (3, .int (nI 1)), (0, .ref (adr 0)), (1, .int (nI x)), (2, .int (nI y))]) hx hb dX7_bears_60 hl (k := 1) rfl (nI_add _ _) (by decide) rfl (fun ls hl => ?_)
          refine lv_goto (tgt := 24) hx hb dX7_bears_63 (by decide) ?_
          have q : nI 1 = sp_isin S x y (k + 1) := by rw [sp_isin]; repeat (first | rw [if_pos c_5] | rw [if_neg c_5] | rw [if_neg (not_not_intro c_5)] | rw [if_pos c_13] | rw [if_neg c_13] | rw [if_neg (not_not_intro c_13)] | rw [if_pos c_32] | rw [if_neg c_32] | rw [if_neg (not_not_intro c_32)] | rw [if_pos c_36] | rw [if_neg c_36] | rw [if_neg (not_not_intro c_36)])
          exact ih _ _ (by rw [← q]; exact lv_sub hl [0, 1, 2, 3, 4] rfl) (by omega) (by omega)
        · refine lv_aload_n hx hb dX7_bears_39 rfl (lv_at hl 2 rfl) ?_
          refine rg_5 F hK hR dX7_bears_40 ?_
          refine lv_iconst (v := nI 3) hx hb dX7_bears_43 (by decide) ?_
          refine lv_iload_n hx hb dX7_bears_44 rfl (lv_at hl 3 rfl) ?_
          refine nv_imul hx hb dX7_bears_45 ?_
          refine lv_iload hx hb dX7_bears_46 (lv_at hl 0 rfl) ?_
          refine nv_iadd hx hb dX7_bears_48 ?_
          refine ri_5 F hK hR (by omega) dX7_bears_49 ?_
          refine lv_iload_n hx hb dX7_bears_50 rfl (lv_at hl 4 rfl) ?_
          refine lv_icmp_ne (tgt := 58) hx hb dX7_bears_51 (by decide) (fun c_51 => ?_) (fun c_51 => ?_)
          · refine lv_iconst (v := nI 0) hx hb dX7_bears_58 (by decide) ?_
            refine lv_istore_n (lv' := [(3, .int (nI 0)), (4, .int (nI k)), (0, .ref (adr 0)), (1, .int (nI x)), (2, .int (nI y))]) hx hb dX7_bears_59 rfl hl (by decide) rfl (fun ls hl => ?_)
            refine lv_iinc (v := nI (k + 1)) (lv' := [(4, .int (nI (k + 1))), (3, .int (nI 0)), (0, .ref (adr 0)), (1, .int (nI x)), (2, .int (nI y))]) hx hb dX7_bears_60 hl (k := 1) rfl (nI_add _ _) (by decide) rfl (fun ls hl => ?_)
            refine lv_goto (tgt := 24) hx hb dX7_bears_63 (by decide) ?_
            have q : nI 0 = sp_isin S x y (k + 1) := by rw [sp_isin]; repeat (first | rw [if_pos c_5] | rw [if_neg c_5] | rw [if_neg (not_not_intro c_5)] | rw [if_pos c_13] | rw [if_neg c_13] | rw [if_neg (not_not_intro c_13)] | rw [if_pos c_32] | rw [if_neg c_32] | rw [if_neg (not_not_intro c_32)] | rw [if_pos c_36] | rw [if_neg c_36] | rw [if_neg (not_not_intro c_36)] | rw [if_pos c_51] | rw [if_neg c_51] | rw [if_neg (not_not_intro c_51)])
            exact ih _ _ (by rw [← q]; exact lv_sub hl [0, 1, 2, 3, 4] rfl) (by omega) (by omega)
          · refine lv_iconst (v := nI 1) hx hb dX7_bears_54 (by decide) ?_
            refine lv_goto (tgt := 59) hx hb dX7_bears_55 (by decide) ?_
            refine lv_istore_n (lv' := [(3, .int (nI 1)), (4, .int (nI k)), (0, .ref (adr 0)), (1, .int (nI x)), (2, .int (nI y))]) hx hb dX7_bears_59 rfl hl (by decide) rfl (fun ls hl => ?_)
            refine lv_iinc (v := nI (k + 1)) (lv' := [(4, .int (nI (k + 1))), (3, .int (nI 1)), (0, .ref (adr 0)), (1, .int (nI x)), (2, .int (nI y))]) hx hb dX7_bears_60 hl (k := 1) rfl (nI_add _ _) (by decide) rfl (fun ls hl => ?_)
            refine lv_goto (tgt := 24) hx hb dX7_bears_63 (by decide) ?_
            have q : nI 1 = sp_isin S x y (k + 1) := by rw [sp_isin]; repeat (first | rw [if_pos c_5] | rw [if_neg c_5] | rw [if_neg (not_not_intro c_5)] | rw [if_pos c_13] | rw [if_neg c_13] | rw [if_neg (not_not_intro c_13)] | rw [if_pos c_32] | rw [if_neg c_32] | rw [if_neg (not_not_intro c_32)] | rw [if_pos c_36] | rw [if_neg c_36] | rw [if_neg (not_not_intro c_36)] | rw [if_pos c_51] | rw [if_neg c_51] | rw [if_neg (not_not_intro c_51)])
            exact ih _ _ (by rw [← q]; exact lv_sub hl [0, 1, 2, 3, 4] rfl) (by omega) (by omega)
    · have hE : sp_bearsE S (nI x) x1 = -2 := by unfold sp_bearsE; repeat (first | rw [if_pos c_5] | rw [if_neg c_5] | rw [if_neg (not_not_intro c_5)] | rw [if_pos c_13] | rw [if_neg c_13] | rw [if_neg (not_not_intro c_13)])
      refine lv_bipush (v := (-2)) hx hb dX7_bears_16 (by decide) ?_
      exact gr_i F hr hlk hK hR dX7_bears_18 (by rw [sp_bearsR, if_neg (by rw [hE]; decide), hE]) (by rw [sp_bearsS, if_neg (by rw [hE]; decide)])
end
section
/-! THE REFERENCE, 4: what an act does -/
def sp_doS (S : Nat → Nat → Int32) (ev x so : Nat) (ra rb rc : Int32) : Nat → Nat → Int32 := match so with
  | 0 => sp_set S x ra.toNatClampNeg rb
  | 1 => sp_addS S x ra.toNatClampNeg rb.toNatClampNeg rc.toNatClampNeg
  | 2 => sp_putS S x ra.toNatClampNeg rb.toNatClampNeg rc.toNatClampNeg
  | 3 => sp_divS S x ra.toNatClampNeg rb.toNatClampNeg rc.toNatClampNeg
  | 4 => sp_rowS S x (sp_get S x ra.toNatClampNeg)
  | 5 => sp_inS S x ra.toNatClampNeg rb.toNatClampNeg
  | 6 => sp_outS S x ra.toNatClampNeg rb.toNatClampNeg
  | 8 => S
  | 9 => sp_ar S ra
  | 10 => sp_tell S ev (nI 3) ra
  | _ => m2 S 8 x (nI 0)
def sp_doR (S : Nat → Nat → Int32) (x so : Nat) (ra rb rc : Int32) : Int32 := match so with
  | 3 => sp_divR S x rb.toNatClampNeg rc.toNatClampNeg
  | 4 => sp_rowR (sp_get S x ra.toNatClampNeg)
  | 5 => sp_inR S x ra.toNatClampNeg
  | 6 => sp_inR S x rb.toNatClampNeg
  | 9 => ra
  | _ => -1
theorem so_do {so : Nat} (hso : so ≤ 12) (h7 : so ≠ 7) (h11 : so ≠ 11) : so = 0 ∨ so = 1 ∨ so = 2 ∨ so = 3 ∨ so = 4 ∨ so = 5 ∨ so = 6 ∨ so = 8 ∨ so = 9 ∨ so = 10 ∨ so = 12 := by omega
theorem sp_zero_ne {S : Nat → Nat → Int32} {x k a : Nat} (h : a ≠ 9) : sp_zero S x k a = S a := by
  induction k with
  | zero => rfl
  | succ k ih => rw [sp_zero, m2_ne h, ih]
theorem sp_set_ne {S : Nat → Nat → Int32} {x f a : Nat} {v : Int32} (h : a ≠ 6) : sp_set S x f v a = S a := by
  unfold sp_set
  split
  · rw [m2_ne h]
  · rfl
/-- one of them as at first: state, row, fields -/
def sp_ag1 (S : Nat → Nat → Int32) (x : Nat) : Nat → Nat → Int32 := sp_set (sp_set (sp_set (sp_set (m2 (m2 S 12 x (nI 0)) 8 x (nI 0)) x 0 (nI 0)) x 1 (nI 0)) x 2 (nI 0)) x 3 (nI 0)
def sp_agS (S : Nat → Nat → Int32) : Nat → Nat → Nat → Int32
  | 0 => S
  | k + 1 => sp_ag1 (sp_agS S k) k
def sp_agN (S : Nat → Nat → Int32) : Nat → Int32
  | 0 => nI 0
  | k + 1 => sp_agN S k + (if sp_agS S k 12 k = 0 then nI 0 else nI 1)
theorem sp_agS_ne {S : Nat → Nat → Int32} {k a : Nat} (h6 : a ≠ 6) (h8 : a ≠ 8) (h12 : a ≠ 12) : sp_agS S k a = S a := by
  induction k with
  | zero => rfl
  | succ k ih => rw [sp_agS, sp_ag1, sp_set_ne h6, sp_set_ne h6, sp_set_ne h6, sp_set_ne h6, m2_ne h8, m2_ne h12, ih]
set_option maxHeartbeats 4000000 in
set_option maxRecDepth 100000 in
/-- newRow(x, n) -/
theorem c_X7_newRow (l : Launch) (G : gw_G) (A : Nat → Prop) (adr : Nat → Nat) (S X : Nat → Nat → Int32) (x : Nat) (v : Int32) (hxx : x < 12) : gm l yX7_newRow cX7_newRow 5 (some .int) (rmL 1) 0 0 A [.ref (adr 0), .int (nI x), .int v] (gW G A adr (rcel G adr S X)) (gW G A adr (rcel G adr (sp_rowS S x v) X)) (some (.int (sp_rowR v))) := by
  refine gm_of (own := RX7) (by decide) rfl (Nat.le_of_ble_eq_true rfl) ?_
  intro p e s m below meth c ls F hml hr hlk hnm hK hR hl
  have hx := F.1
  have hb := F.2.1
  have hl : lv_has ls 5 [(0, .ref (adr 0)), (1, .int (nI x)), (2, .int v)] := hl
  refine lv_iload_n hx hb dX7_newRow_0 rfl (lv_at hl 2 rfl) ?_
  refine lv_if_ge (tgt := 11) hx hb dX7_newRow_1 (by decide) (fun c_1 => ?_) (fun c_1 => ?_)
  · have n_1 := Int32.not_lt.mpr c_1
    refine lp_cut (pc2 := 24) (st2 := []) (fun H locs ls => rB G A adr S X s.heap H locs ∧ lv_has ls 5 [(3, .int (nI (sp_rowN v))), (0, .ref (adr 0)), (1, .int (nI x)), (2, .int v)]) (fun H locs ls hRl => ?_) (fun K => ?_)
    · obtain ⟨hR, hl⟩ := hRl
      refine lv_aload_n hx hb dX7_newRow_24 rfl (lv_at hl 1 rfl) ?_
      refine rg_8 F hK hR dX7_newRow_25 ?_
      refine lv_iload_n hx hb dX7_newRow_28 rfl (lv_at hl 2 rfl) ?_
      refine lv_iload_n hx hb dX7_newRow_29 rfl (lv_at hl 0 rfl) ?_
      refine lv_iconst (v := nI 1) hx hb dX7_newRow_30 (by decide) ?_
      refine nv_iadd hx hb dX7_newRow_31 ?_
      refine rs_8 F hK hR (by omega) dX7_newRow_32 (fun H locs hR => ?_)
      refine lv_iconst (v := nI 0) hx hb dX7_newRow_33 (by decide) ?_
      refine lv_istore (lv' := [(4, .int (nI 0)), (3, .int (nI (sp_rowN v))), (0, .ref (adr 0)), (1, .int (nI x)), (2, .int v)]) hx hb dX7_newRow_34 hl (by decide) rfl (fun ls hl => ?_)
      obtain ⟨k, hk⟩ : ∃ k, k = 0 := ⟨_, rfl⟩
      generalize hrr : sp_rowN v = r at hR hl ⊢
      have hr20 : r ≤ 20 := by rw [← hrr]; exact rowN_le n_1
      replace hl : lv_has ls 5 [(4, .int (nI k)), (3, .int (nI r)), (0, .ref (adr 0)), (1, .int (nI x)), (2, .int v)] := by rw [hk]; exact lv_sub hl [0, 1, 2, 3, 4] rfl
      replace hR : rB G A adr (sp_zero (m2 S 8 x (nI (r + 1))) x k) X s.heap H locs := by rw [hk]; exact hR
      have hkf : k ≤ r := by omega
      clear hk
      generalize hd : r - k = d
      induction d generalizing k ls H locs with
      | zero =>
        refine lv_iload hx hb dX7_newRow_36 (lv_at hl 0 rfl) ?_
        refine lv_iload_n hx hb dX7_newRow_38 rfl (lv_at hl 1 rfl) ?_
        refine nv_icmp_ge (by omega) (by omega) hx hb dX7_newRow_39 (tgt := 61) (by decide) (fun c_39 => ?_) (fun c_39 => absurd c_39 (by omega))
        have hkk : k = r := by omega
        refine lv_iconst (v := (-1)) hx hb dX7_newRow_61 (by decide) ?_
        exact gr_i F hr hlk hK hR dX7_newRow_62 (by rw [sp_rowR, if_neg n_1]) (by rw [sp_rowS, if_neg n_1, hrr, hkk])
      | succ d ih =>
        refine lv_iload hx hb dX7_newRow_36 (lv_at hl 0 rfl) ?_
        refine lv_iload_n hx hb dX7_newRow_38 rfl (lv_at hl 1 rfl) ?_
        refine nv_icmp_ge (by omega) (by omega) hx hb dX7_newRow_39 (tgt := 61) (by decide) (fun c_39 => absurd c_39 (by omega)) (fun c_39 => ?_)
        refine lv_aload_n hx hb dX7_newRow_42 rfl (lv_at hl 2 rfl) ?_
        refine rg_9 F hK hR dX7_newRow_43 ?_
        refine lv_bipush (v := nI 20) hx hb dX7_newRow_46 (by decide) ?_
        refine lv_iload_n hx hb dX7_newRow_48 rfl (lv_at hl 3 rfl) ?_
        refine nv_imul hx hb dX7_newRow_49 ?_
        refine lv_iload hx hb dX7_newRow_50 (lv_at hl 0 rfl) ?_
        refine nv_iadd hx hb dX7_newRow_52 ?_
        refine lv_iconst (v := nI 0) hx hb dX7_newRow_53 (by decide) ?_
        refine rs_9 F hK hR (by omega) dX7_newRow_54 (fun H locs hR => ?_)
        refine lv_iinc (v := nI (k + 1)) (lv' := [(4, .int (nI (k + 1))), (3, .int (nI r)), (0, .ref (adr 0)), (1, .int (nI x)), (2, .int v)]) hx hb dX7_newRow_55 hl (k := 0) rfl (nI_add _ _) (by decide) rfl (fun ls hl => ?_)
        refine lv_goto (tgt := 36) hx hb dX7_newRow_58 (by decide) ?_
        exact ih _ _ _ _ (lv_sub hl [0, 1, 2, 3, 4] rfl) hR (by omega) (by omega)
    · skip
      refine lv_iload_n hx hb dX7_newRow_11 rfl (lv_at hl 2 rfl) ?_
      refine lv_bipush (v := nI 20) hx hb dX7_newRow_12 (by decide) ?_
      refine lv_icmp_le (tgt := 22) hx hb dX7_newRow_14 (by decide) (fun c_14 => ?_) (fun c_14 => ?_)
      · have n_14 := Int32.not_lt.mpr c_14
        refine lv_iload_n hx hb dX7_newRow_22 rfl (lv_at hl 2 rfl) ?_
        refine lv_istore_n (lv' := [(3, .int v), (0, .ref (adr 0)), (1, .int (nI x)), (2, .int v)]) hx hb dX7_newRow_23 rfl hl (by decide) rfl (fun ls hl => ?_)
        have q := (rowN_t n_1 n_14).1
        exact K _ _ _ ⟨hR, by rw [← q]; exact lv_sub hl [0, 1, 2, 3] rfl⟩
      · have n_14 := Int32.not_le.mp c_14
        refine lv_bipush (v := nI 20) hx hb dX7_newRow_17 (by decide) ?_
        refine lv_goto (tgt := 23) hx hb dX7_newRow_19 (by decide) ?_
        refine lv_istore_n (lv' := [(3, .int (nI 20)), (0, .ref (adr 0)), (1, .int (nI x)), (2, .int v)]) hx hb dX7_newRow_23 rfl hl (by decide) rfl (fun ls hl => ?_)
        have q := rowN_f n_14
        exact K _ _ _ ⟨hR, by rw [q]; exact lv_sub hl [0, 1, 2, 3] rfl⟩
  · have n_1 := Int32.not_le.mp c_1
    refine lv_aload_n hx hb dX7_newRow_4 rfl (lv_at hl 0 rfl) ?_
    refine lv_bipush (v := nI 6) hx hb dX7_newRow_5 (by decide) ?_
    refine gcVi (As := [.int (nI 6)]) F hK hR hml cv_X7_111 (o := 0) rfl rfl rfl (c_X7_arise l G A adr S X (nI 6)) ⟨rfl, rfl⟩ ⟨Nat.le_of_ble_eq_true rfl, Nat.le_of_ble_eq_true rfl⟩ rfl rfl hl.1 (Nat.le_of_ble_eq_true rfl) dX7_newRow_7 ⟨Nat.zero_le _, Nat.zero_le _⟩ (fun H locs hR => ?_)
    exact gr_i F hr hlk hK hR dX7_newRow_10 (by unfold sp_rowR; repeat (first | rw [if_pos c_1] | rw [if_neg c_1] | rw [if_neg (not_not_intro c_1)] | rw [if_pos n_1] | rw [if_neg n_1] | rw [if_neg (not_not_intro n_1)])) (by rw [sp_rowS, if_pos (Int32.not_le.mp c_1)])
set_option maxHeartbeats 4000000 in
set_option maxRecDepth 100000 in
/-- inOut(x, True, a, b) -/
theorem c_X7_inOut1 (l : Launch) (G : gw_G) (A : Nat → Prop) (adr : Nat → Nat) (S X : Nat → Nat → Int32) (x fa fb : Nat) (hxx : x < 12) (hfa : fa < 4) (hfb : fb < 4) (hrow : ∀ x, x < 12 → ∃ r, r ≤ 21 ∧ S 8 x = nI r) : gm l yX7_inOut cX7_inOut 6 (some .int) (rmL 1) 0 0 A [.ref (adr 0), .int (nI x), .int (nI 1), .int (nI fa), .int (nI fb)] (gW G A adr (rcel G adr S X)) (gW G A adr (rcel G adr (sp_inS S x fa fb) X)) (some (.int (sp_inR S x fa))) := by
  refine gm_of (own := RX7) (by decide) rfl (Nat.le_of_ble_eq_true rfl) ?_
  intro p e s m below meth c ls F hml hr hlk hnm hK hR hl
  have hx := F.1
  have hb := F.2.1
  have hl : lv_has ls 6 [(0, .ref (adr 0)), (1, .int (nI x)), (2, .int (nI 1)), (3, .int (nI fa)), (4, .int (nI fb))] := hl
  refine lv_aload_n hx hb dX7_inOut_0 rfl (lv_at hl 0 rfl) ?_
  refine rg_8 F hK hR dX7_inOut_1 ?_
  refine lv_iload_n hx hb dX7_inOut_4 rfl (lv_at hl 1 rfl) ?_
  refine ri_8 F hK hR (by omega) dX7_inOut_5 ?_
  refine lv_if_ne (tgt := 15) hx hb dX7_inOut_6 (by decide) (fun c_6 => ?_) (fun c_6 => ?_)
  · refine lv_aload_n hx hb dX7_inOut_15 rfl (lv_at hl 0 rfl) ?_
    refine lv_iload_n hx hb dX7_inOut_16 rfl (lv_at hl 1 rfl) ?_
    refine lv_iload_n hx hb dX7_inOut_17 rfl (lv_at hl 2 rfl) ?_
    refine nv_if_eq (by omega) hx hb dX7_inOut_18 (tgt := 25) (by decide) (fun c_18 => absurd c_18 (by omega)) (fun c_18 => ?_)
    refine lv_iload_n hx hb dX7_inOut_21 rfl (lv_at hl 3 rfl) ?_
    refine lv_goto (tgt := 27) hx hb dX7_inOut_22 (by decide) ?_
    refine gcVi (As := [.int (nI x), .int (nI fa)]) F hK hR hml cv_X7_162 (o := 0) rfl rfl rfl (c_X7_get l G A adr S X x fa (by omega) (by omega)) ⟨rfl, rfl⟩ ⟨Nat.le_of_ble_eq_true rfl, Nat.le_of_ble_eq_true rfl⟩ rfl rfl hl.1 (Nat.le_of_ble_eq_true rfl) dX7_inOut_27 ⟨Nat.zero_le _, Nat.zero_le _⟩ (fun H locs hR => ?_)
    refine lv_istore (lv' := [(5, .int (sp_get S x fa)), (0, .ref (adr 0)), (1, .int (nI x)), (2, .int (nI 1)), (3, .int (nI fa)), (4, .int (nI fb))]) hx hb dX7_inOut_30 hl (by decide) rfl (fun ls hl => ?_)
    refine lv_iload hx hb dX7_inOut_32 (lv_at hl 0 rfl) ?_
    refine lv_if_lt (tgt := 50) hx hb dX7_inOut_34 (by decide) (fun c_34 => ?_) (fun c_34 => ?_)
    · have n_34 := Int32.not_le.mpr c_34
      refine lv_aload_n hx hb dX7_inOut_50 rfl (lv_at hl 1 rfl) ?_
      refine lv_iconst (v := nI 5) hx hb dX7_inOut_51 (by decide) ?_
      refine gcVi (As := [.int (nI 5)]) F hK hR hml cv_X7_111 (o := 0) rfl rfl rfl (c_X7_arise l G A adr S X (nI 5)) ⟨rfl, rfl⟩ ⟨Nat.le_of_ble_eq_true rfl, Nat.le_of_ble_eq_true rfl⟩ rfl rfl hl.1 (Nat.le_of_ble_eq_true rfl) dX7_inOut_52 ⟨Nat.zero_le _, Nat.zero_le _⟩ (fun H locs hR => ?_)
      exact gr_i F hr hlk hK hR dX7_inOut_55 (by unfold sp_inR; repeat (first | rw [if_pos c_6] | rw [if_neg c_6] | rw [if_neg (not_not_intro c_6)] | rw [if_pos c_18] | rw [if_neg c_18] | rw [if_neg (not_not_intro c_18)] | rw [if_pos c_34] | rw [if_neg c_34] | rw [if_neg (not_not_intro c_34)] | rw [if_pos n_34] | rw [if_neg n_34] | rw [if_neg (not_not_intro n_34)])) (by unfold sp_inS; repeat (first | rw [if_pos c_6] | rw [if_neg c_6] | rw [if_neg (not_not_intro c_6)] | rw [if_pos c_18] | rw [if_neg c_18] | rw [if_neg (not_not_intro c_18)] | rw [if_pos c_34] | rw [if_neg c_34] | rw [if_neg (not_not_intro c_34)] | rw [if_pos n_34] | rw [if_neg n_34] | rw [if_neg (not_not_intro n_34)]))
    · have n_34 := Int32.not_lt.mp c_34
      refine lv_iload hx hb dX7_inOut_37 (lv_at hl 0 rfl) ?_
      refine lv_aload_n hx hb dX7_inOut_39 rfl (lv_at hl 1 rfl) ?_
      refine rg_8 F hK hR dX7_inOut_40 ?_
      refine lv_iload_n hx hb dX7_inOut_43 rfl (lv_at hl 2 rfl) ?_
      refine ri_8 F hK hR (by omega) dX7_inOut_44 ?_
      refine lv_iconst (v := nI 1) hx hb dX7_inOut_45 (by decide) ?_
      refine lv_isub hx hb dX7_inOut_46 ?_
      refine lv_icmp_lt (tgt := 56) hx hb dX7_inOut_47 (by decide) (fun c_47 => ?_) (fun c_47 => ?_)
      · have n_47 := Int32.not_le.mpr c_47
        obtain ⟨r, q1, q2⟩ := hrow x hxx
        obtain ⟨i, h_i, e_i⟩ := row_yes q2 q1 c_34 n_47
        replace hl : lv_has ls 6 [(5, .int (nI i)), (0, .ref (adr 0)), (1, .int (nI x)), (2, .int (nI 1)), (3, .int (nI fa)), (4, .int (nI fb))] := by rw [← e_i]; exact hl
        refine lv_iload_n hx hb dX7_inOut_56 rfl (lv_at hl 3 rfl) ?_
        refine nv_if_eq (by omega) hx hb dX7_inOut_57 (tgt := 82) (by decide) (fun c_57 => absurd c_57 (by omega)) (fun c_57 => ?_)
        refine lv_aload_n hx hb dX7_inOut_60 rfl (lv_at hl 1 rfl) ?_
        refine rg_9 F hK hR dX7_inOut_61 ?_
        refine lv_bipush (v := nI 20) hx hb dX7_inOut_64 (by decide) ?_
        refine lv_iload_n hx hb dX7_inOut_66 rfl (lv_at hl 2 rfl) ?_
        refine nv_imul hx hb dX7_inOut_67 ?_
        refine lv_iload hx hb dX7_inOut_68 (lv_at hl 0 rfl) ?_
        refine nv_iadd hx hb dX7_inOut_70 ?_
        refine lv_aload_n hx hb dX7_inOut_71 rfl (lv_at hl 1 rfl) ?_
        refine lv_iload_n hx hb dX7_inOut_72 rfl (lv_at hl 2 rfl) ?_
        refine lv_iload hx hb dX7_inOut_73 (lv_at hl 5 rfl) ?_
        refine gcVi (As := [.int (nI x), .int (nI fb)]) F hK hR hml cv_X7_162 (o := 0) rfl rfl rfl (c_X7_get l G A adr S X x fb (by omega) (by omega)) ⟨rfl, rfl⟩ ⟨Nat.le_of_ble_eq_true rfl, Nat.le_of_ble_eq_true rfl⟩ rfl rfl hl.1 (Nat.le_of_ble_eq_true rfl) dX7_inOut_75 ⟨Nat.zero_le _, Nat.zero_le _⟩ (fun H locs hR => ?_)
        refine rs_9 F hK hR (by omega) dX7_inOut_78 (fun H locs hR => ?_)
        refine lv_goto (tgt := 100) hx hb dX7_inOut_79 (by decide) ?_
        refine lv_iconst (v := (-1)) hx hb dX7_inOut_100 (by decide) ?_
        exact gr_i F hr hlk hK hR dX7_inOut_101 (by rw [sp_inR, if_neg c_6, if_neg c_34, if_neg n_47]) (by rw [sp_inS, if_neg c_6, if_neg c_34, if_neg n_47, e_i, nI_clamp (by omega)])
      · have n_47 := Int32.not_lt.mp c_47
        refine lv_aload_n hx hb dX7_inOut_50 rfl (lv_at hl 1 rfl) ?_
        refine lv_iconst (v := nI 5) hx hb dX7_inOut_51 (by decide) ?_
        refine gcVi (As := [.int (nI 5)]) F hK hR hml cv_X7_111 (o := 0) rfl rfl rfl (c_X7_arise l G A adr S X (nI 5)) ⟨rfl, rfl⟩ ⟨Nat.le_of_ble_eq_true rfl, Nat.le_of_ble_eq_true rfl⟩ rfl rfl hl.1 (Nat.le_of_ble_eq_true rfl) dX7_inOut_52 ⟨Nat.zero_le _, Nat.zero_le _⟩ (fun H locs hR => ?_)
        exact gr_i F hr hlk hK hR dX7_inOut_55 (by unfold sp_inR; repeat (first | rw [if_pos c_6] | rw [if_neg c_6] | rw [if_neg (not_not_intro c_6)] | rw [if_pos c_18] | rw [if_neg c_18] | rw [if_neg (not_not_intro c_18)] | rw [if_pos c_34] | rw [if_neg c_34] | rw [if_neg (not_not_intro c_34)] | rw [if_pos n_34] | rw [if_neg n_34] | rw [if_neg (not_not_intro n_34)] | rw [if_pos c_47] | rw [if_neg c_47] | rw [if_neg (not_not_intro c_47)] | rw [if_pos n_47] | rw [if_neg n_47] | rw [if_neg (not_not_intro n_47)])) (by unfold sp_inS; repeat (first | rw [if_pos c_6] | rw [if_neg c_6] | rw [if_neg (not_not_intro c_6)] | rw [if_pos c_18] | rw [if_neg c_18] | rw [if_neg (not_not_intro c_18)] | rw [if_pos c_34] | rw [if_neg c_34] | rw [if_neg (not_not_intro c_34)] | rw [if_pos n_34] | rw [if_neg n_34] | rw [if_neg (not_not_intro n_34)] | rw [if_pos c_47] | rw [if_neg c_47] | rw [if_neg (not_not_intro c_47)] | rw [if_pos n_47] | rw [if_neg n_47] | rw [if_neg (not_not_intro n_47)]))
  · refine lv_aload_n hx hb dX7_inOut_9 rfl (lv_at hl 0 rfl) ?_
    refine lv_iconst (v := nI 4) hx hb dX7_inOut_10 (by decide) ?_
    refine gcVi (As := [.int (nI 4)]) F hK hR hml cv_X7_111 (o := 0) rfl rfl rfl (c_X7_arise l G A adr S X (nI 4)) ⟨rfl, rfl⟩ ⟨Nat.le_of_ble_eq_true rfl, Nat.le_of_ble_eq_true rfl⟩ rfl rfl hl.1 (Nat.le_of_ble_eq_true rfl) dX7_inOut_11 ⟨Nat.zero_le _, Nat.zero_le _⟩ (fun H locs hR => ?_)
    exact gr_i F hr hlk hK hR dX7_inOut_14 (by unfold sp_inR; repeat (first | rw [if_pos c_6] | rw [if_neg c_6] | rw [if_neg (not_not_intro c_6)])) (by unfold sp_inS; repeat (first | rw [if_pos c_6] | rw [if_neg c_6] | rw [if_neg (not_not_intro c_6)]))
set_option maxHeartbeats 4000000 in
set_option maxRecDepth 100000 in
/-- inOut(x, False, a, b) -/
theorem c_X7_inOut0 (l : Launch) (G : gw_G) (A : Nat → Prop) (adr : Nat → Nat) (S X : Nat → Nat → Int32) (x fa fb : Nat) (hxx : x < 12) (hfa : fa < 4) (hfb : fb < 4) (hrow : ∀ x, x < 12 → ∃ r, r ≤ 21 ∧ S 8 x = nI r) : gm l yX7_inOut cX7_inOut 6 (some .int) (rmL 1) 0 0 A [.ref (adr 0), .int (nI x), .int (nI 0), .int (nI fa), .int (nI fb)] (gW G A adr (rcel G adr S X)) (gW G A adr (rcel G adr (sp_outS S x fa fb) X)) (some (.int (sp_inR S x fb))) := by
  refine gm_of (own := RX7) (by decide) rfl (Nat.le_of_ble_eq_true rfl) ?_
  intro p e s m below meth c ls F hml hr hlk hnm hK hR hl
  have hx := F.1
  have hb := F.2.1
  have hl : lv_has ls 6 [(0, .ref (adr 0)), (1, .int (nI x)), (2, .int (nI 0)), (3, .int (nI fa)), (4, .int (nI fb))] := hl
  refine lv_aload_n hx hb dX7_inOut_0 rfl (lv_at hl 0 rfl) ?_
  refine rg_8 F hK hR dX7_inOut_1 ?_
  refine lv_iload_n hx hb dX7_inOut_4 rfl (lv_at hl 1 rfl) ?_
  refine ri_8 F hK hR (by omega) dX7_inOut_5 ?_
  refine lv_if_ne (tgt := 15) hx hb dX7_inOut_6 (by decide) (fun c_6 => ?_) (fun c_6 => ?_)
  · refine lv_aload_n hx hb dX7_inOut_15 rfl (lv_at hl 0 rfl) ?_
    refine lv_iload_n hx hb dX7_inOut_16 rfl (lv_at hl 1 rfl) ?_
    refine lv_iload_n hx hb dX7_inOut_17 rfl (lv_at hl 2 rfl) ?_
    refine nv_if_eq (by omega) hx hb dX7_inOut_18 (tgt := 25) (by decide) (fun c_18 => ?_) (fun c_18 => absurd c_18 (by omega))
    refine lv_iload hx hb dX7_inOut_25 (lv_at hl 4 rfl) ?_
    refine gcVi (As := [.int (nI x), .int (nI fb)]) F hK hR hml cv_X7_162 (o := 0) rfl rfl rfl (c_X7_get l G A adr S X x fb (by omega) (by omega)) ⟨rfl, rfl⟩ ⟨Nat.le_of_ble_eq_true rfl, Nat.le_of_ble_eq_true rfl⟩ rfl rfl hl.1 (Nat.le_of_ble_eq_true rfl) dX7_inOut_27 ⟨Nat.zero_le _, Nat.zero_le _⟩ (fun H locs hR => ?_)
    refine lv_istore (lv' := [(5, .int (sp_get S x fb)), (0, .ref (adr 0)), (1, .int (nI x)), (2, .int (nI 0)), (3, .int (nI fa)), (4, .int (nI fb))]) hx hb dX7_inOut_30 hl (by decide) rfl (fun ls hl => ?_)
    refine lv_iload hx hb dX7_inOut_32 (lv_at hl 0 rfl) ?_
    refine lv_if_lt (tgt := 50) hx hb dX7_inOut_34 (by decide) (fun c_34 => ?_) (fun c_34 => ?_)
    · have n_34 := Int32.not_le.mpr c_34
      refine lv_aload_n hx hb dX7_inOut_50 rfl (lv_at hl 1 rfl) ?_
      refine lv_iconst (v := nI 5) hx hb dX7_inOut_51 (by decide) ?_
      refine gcVi (As := [.int (nI 5)]) F hK hR hml cv_X7_111 (o := 0) rfl rfl rfl (c_X7_arise l G A adr S X (nI 5)) ⟨rfl, rfl⟩ ⟨Nat.le_of_ble_eq_true rfl, Nat.le_of_ble_eq_true rfl⟩ rfl rfl hl.1 (Nat.le_of_ble_eq_true rfl) dX7_inOut_52 ⟨Nat.zero_le _, Nat.zero_le _⟩ (fun H locs hR => ?_)
      exact gr_i F hr hlk hK hR dX7_inOut_55 (by unfold sp_inR; repeat (first | rw [if_pos c_6] | rw [if_neg c_6] | rw [if_neg (not_not_intro c_6)] | rw [if_pos c_18] | rw [if_neg c_18] | rw [if_neg (not_not_intro c_18)] | rw [if_pos c_34] | rw [if_neg c_34] | rw [if_neg (not_not_intro c_34)] | rw [if_pos n_34] | rw [if_neg n_34] | rw [if_neg (not_not_intro n_34)])) (by unfold sp_outS; repeat (first | rw [if_pos c_6] | rw [if_neg c_6] | rw [if_neg (not_not_intro c_6)] | rw [if_pos c_18] | rw [if_neg c_18] | rw [if_neg (not_not_intro c_18)] | rw [if_pos c_34] | rw [if_neg c_34] | rw [if_neg (not_not_intro c_34)] | rw [if_pos n_34] | rw [if_neg n_34] | rw [if_neg (not_not_intro n_34)]))
    · have n_34 := Int32.not_lt.mp c_34
      refine lv_iload hx hb dX7_inOut_37 (lv_at hl 0 rfl) ?_
      refine lv_aload_n hx hb dX7_inOut_39 rfl (lv_at hl 1 rfl) ?_
      refine rg_8 F hK hR dX7_inOut_40 ?_
      refine lv_iload_n hx hb dX7_inOut_43 rfl (lv_at hl 2 rfl) ?_
      refine ri_8 F hK hR (by omega) dX7_inOut_44 ?_
      refine lv_iconst (v := nI 1) hx hb dX7_inOut_45 (by decide) ?_
      refine lv_isub hx hb dX7_inOut_46 ?_
      refine lv_icmp_lt (tgt := 56) hx hb dX7_inOut_47 (by decide) (fun c_47 => ?_) (fun c_47 => ?_)
      · have n_47 := Int32.not_le.mpr c_47
        obtain ⟨r, q1, q2⟩ := hrow x hxx
        obtain ⟨i, h_i, e_i⟩ := row_yes q2 q1 c_34 n_47
        replace hl : lv_has ls 6 [(5, .int (nI i)), (0, .ref (adr 0)), (1, .int (nI x)), (2, .int (nI 0)), (3, .int (nI fa)), (4, .int (nI fb))] := by rw [← e_i]; exact hl
        refine lv_iload_n hx hb dX7_inOut_56 rfl (lv_at hl 3 rfl) ?_
        refine nv_if_eq (by omega) hx hb dX7_inOut_57 (tgt := 82) (by decide) (fun c_57 => ?_) (fun c_57 => absurd c_57 (by omega))
        refine lv_aload_n hx hb dX7_inOut_82 rfl (lv_at hl 1 rfl) ?_
        refine lv_iload_n hx hb dX7_inOut_83 rfl (lv_at hl 2 rfl) ?_
        refine lv_iload_n hx hb dX7_inOut_84 rfl (lv_at hl 4 rfl) ?_
        refine lv_aload_n hx hb dX7_inOut_85 rfl (lv_at hl 1 rfl) ?_
        refine rg_9 F hK hR dX7_inOut_86 ?_
        refine lv_bipush (v := nI 20) hx hb dX7_inOut_89 (by decide) ?_
        refine lv_iload_n hx hb dX7_inOut_91 rfl (lv_at hl 2 rfl) ?_
        refine nv_imul hx hb dX7_inOut_92 ?_
        refine lv_iload hx hb dX7_inOut_93 (lv_at hl 0 rfl) ?_
        refine nv_iadd hx hb dX7_inOut_95 ?_
        refine ri_9 F hK hR (by omega) dX7_inOut_96 ?_
        refine gcVv (As := [.int (nI x), .int (nI fa), .int (S 9 (20 * x + i))]) F hK hR hml cv_X7_156 (o := 0) rfl rfl rfl (c_X7_set l G A adr S X x fa (S 9 (20 * x + i)) (by omega) (by omega)) ⟨rfl, rfl⟩ ⟨Nat.le_of_ble_eq_true rfl, Nat.le_of_ble_eq_true rfl⟩ rfl rfl hl.1 (Nat.le_of_ble_eq_true rfl) dX7_inOut_97 ⟨Nat.zero_le _, Nat.zero_le _⟩ (fun H locs hR => ?_)
        refine lv_iconst (v := (-1)) hx hb dX7_inOut_100 (by decide) ?_
        exact gr_i F hr hlk hK hR dX7_inOut_101 (by rw [sp_inR, if_neg c_6, if_neg c_34, if_neg n_47]) (by rw [sp_outS, if_neg c_6, if_neg c_34, if_neg n_47, e_i, nI_clamp (by omega)])
      · have n_47 := Int32.not_lt.mp c_47
        refine lv_aload_n hx hb dX7_inOut_50 rfl (lv_at hl 1 rfl) ?_
        refine lv_iconst (v := nI 5) hx hb dX7_inOut_51 (by decide) ?_
        refine gcVi (As := [.int (nI 5)]) F hK hR hml cv_X7_111 (o := 0) rfl rfl rfl (c_X7_arise l G A adr S X (nI 5)) ⟨rfl, rfl⟩ ⟨Nat.le_of_ble_eq_true rfl, Nat.le_of_ble_eq_true rfl⟩ rfl rfl hl.1 (Nat.le_of_ble_eq_true rfl) dX7_inOut_52 ⟨Nat.zero_le _, Nat.zero_le _⟩ (fun H locs hR => ?_)
        exact gr_i F hr hlk hK hR dX7_inOut_55 (by unfold sp_inR; repeat (first | rw [if_pos c_6] | rw [if_neg c_6] | rw [if_neg (not_not_intro c_6)] | rw [if_pos c_18] | rw [if_neg c_18] | rw [if_neg (not_not_intro c_18)] | rw [if_pos c_34] | rw [if_neg c_34] | rw [if_neg (not_not_intro c_34)] | rw [if_pos n_34] | rw [if_neg n_34] | rw [if_neg (not_not_intro n_34)] | rw [if_pos c_47] | rw [if_neg c_47] | rw [if_neg (not_not_intro c_47)] | rw [if_pos n_47] | rw [if_neg n_47] | rw [if_neg (not_not_intro n_47)])) (by unfold sp_outS; repeat (first | rw [if_pos c_6] | rw [if_neg c_6] | rw [if_neg (not_not_intro c_6)] | rw [if_pos c_18] | rw [if_neg c_18] | rw [if_neg (not_not_intro c_18)] | rw [if_pos c_34] | rw [if_neg c_34] | rw [if_neg (not_not_intro c_34)] | rw [if_pos n_34] | rw [if_neg n_34] | rw [if_neg (not_not_intro n_34)] | rw [if_pos c_47] | rw [if_neg c_47] | rw [if_neg (not_not_intro c_47)] | rw [if_pos n_47] | rw [if_neg n_47] | rw [if_neg (not_not_intro n_47)]))
  · refine lv_aload_n hx hb dX7_inOut_9 rfl (lv_at hl 0 rfl) ?_
    refine lv_iconst (v := nI 4) hx hb dX7_inOut_10 (by decide) ?_
    refine gcVi (As := [.int (nI 4)]) F hK hR hml cv_X7_111 (o := 0) rfl rfl rfl (c_X7_arise l G A adr S X (nI 4)) ⟨rfl, rfl⟩ ⟨Nat.le_of_ble_eq_true rfl, Nat.le_of_ble_eq_true rfl⟩ rfl rfl hl.1 (Nat.le_of_ble_eq_true rfl) dX7_inOut_11 ⟨Nat.zero_le _, Nat.zero_le _⟩ (fun H locs hR => ?_)
    exact gr_i F hr hlk hK hR dX7_inOut_14 (by unfold sp_inR; repeat (first | rw [if_pos c_6] | rw [if_neg c_6] | rw [if_neg (not_not_intro c_6)])) (by unfold sp_outS; repeat (first | rw [if_pos c_6] | rw [if_neg c_6] | rw [if_neg (not_not_intro c_6)]))
set_option maxHeartbeats 4000000 in
set_option maxRecDepth 100000 in
/-- other(x, 1, a, z, c) -/
theorem c_X7_other1 (l : Launch) (G : gw_G) (A : Nat → Prop) (adr : Nat → Nat) (S X : Nat → Nat → Int32) (x fa z g : Nat) (hxx : x < 12) (hfa : fa < 4) (hz : z < 12) (hg : g < 4) : gm l yX7_other cX7_other 8 (some .int) (rmL 1) 0 0 A [.ref (adr 0), .int (nI x), .int (nI 1), .int (nI fa), .int (nI z), .int (nI g)] (gW G A adr (rcel G adr S X)) (gW G A adr (rcel G adr (sp_addS S x fa z g) X)) (some (.int (-1))) := by
  refine gm_of (own := RX7) (by decide) rfl (Nat.le_of_ble_eq_true rfl) ?_
  intro p e s m below meth c ls F hml hr hlk hnm hK hR hl
  have hx := F.1
  have hb := F.2.1
  have hl : lv_has ls 8 [(0, .ref (adr 0)), (1, .int (nI x)), (2, .int (nI 1)), (3, .int (nI fa)), (4, .int (nI z)), (5, .int (nI g))] := hl
  refine lv_aload_n hx hb dX7_other_0 rfl (lv_at hl 0 rfl) ?_
  refine rg_7 F hK hR dX7_other_1 ?_
  refine lv_iconst (v := nI 4) hx hb dX7_other_4 (by decide) ?_
  refine lv_iload hx hb dX7_other_5 (lv_at hl 4 rfl) ?_
  refine nv_imul hx hb dX7_other_7 ?_
  refine lv_iload hx hb dX7_other_8 (lv_at hl 5 rfl) ?_
  refine nv_iadd hx hb dX7_other_10 ?_
  refine ri_7 F hK hR (by omega) dX7_other_11 ?_
  refine lv_if_ne (tgt := 19) hx hb dX7_other_12 (by decide) (fun c_12 => ?_) (fun c_12 => ?_)
  · refine lv_iconst (v := nI 0) hx hb dX7_other_19 (by decide) ?_
    refine lv_istore (lv' := [(6, .int (nI 0)), (0, .ref (adr 0)), (1, .int (nI x)), (2, .int (nI 1)), (3, .int (nI fa)), (4, .int (nI z)), (5, .int (nI g))]) hx hb dX7_other_20 hl (by decide) rfl (fun ls hl => ?_)
    refine lv_iload_n hx hb dX7_other_22 rfl (lv_at hl 3 rfl) ?_
    refine lv_iconst (v := nI 2) hx hb dX7_other_23 (by decide) ?_
    refine nv_icmp_ne (by omega) (by omega) hx hb dX7_other_24 (tgt := 43) (by decide) (fun c_24 => ?_) (fun c_24 => absurd c_24 (by omega))
    refine lv_aload_n hx hb dX7_other_43 rfl (lv_at hl 1 rfl) ?_
    refine lv_dup hx hb dX7_other_44 rfl ?_
    refine rg_16 F hK hR dX7_other_45 ?_
    refine lv_iload hx hb dX7_other_48 (lv_at hl 0 rfl) ?_
    refine nv_if_eq (by omega) hx hb dX7_other_50 (tgt := 74) (by decide) (fun c_50 => ?_) (fun c_50 => absurd c_50 (by omega))
    refine lv_iconst (v := nI 0) hx hb dX7_other_74 (by decide) ?_
    refine lv_iadd hx hb dX7_other_75 ?_
    refine rp_16 F hK hR dX7_other_76 (fun H locs hR => ?_)
    replace hR : rB G A adr (sp_half S x z g) X s.heap H locs := gw_B.to hR (by unfold sp_half; repeat (first | rw [if_pos c_12] | rw [if_neg c_12] | rw [if_neg (not_not_intro c_12)] | rw [if_pos c_24] | rw [if_neg c_24] | rw [if_neg (not_not_intro c_24)] | rw [if_pos c_50] | rw [if_neg c_50] | rw [if_neg (not_not_intro c_50)]))
    refine lv_aload_n hx hb dX7_other_79 rfl (lv_at hl 1 rfl) ?_
    refine lv_iload hx hb dX7_other_80 (lv_at hl 5 rfl) ?_
    refine lv_iload hx hb dX7_other_82 (lv_at hl 6 rfl) ?_
    refine gcVi (As := [.int (nI z), .int (nI g)]) F hK hR hml cv_X7_162 (o := 0) rfl rfl rfl (c_X7_get l G A adr (sp_half S x z g) X z g (by omega) (by omega)) ⟨rfl, rfl⟩ ⟨Nat.le_of_ble_eq_true rfl, Nat.le_of_ble_eq_true rfl⟩ rfl rfl hl.1 (Nat.le_of_ble_eq_true rfl) dX7_other_84 ⟨Nat.zero_le _, Nat.zero_le _⟩ (fun H locs hR => ?_)
    refine lv_istore (lv' := [(7, .int (sp_get (sp_half S x z g) z g)), (6, .int (nI 0)), (0, .ref (adr 0)), (1, .int (nI x)), (2, .int (nI 1)), (3, .int (nI fa)), (4, .int (nI z)), (5, .int (nI g))]) hx hb dX7_other_87 hl (by decide) rfl (fun ls hl => ?_)
    refine lv_iload_n hx hb dX7_other_89 rfl (lv_at hl 4 rfl) ?_
    refine lv_iconst (v := nI 1) hx hb dX7_other_90 (by decide) ?_
    refine nv_icmp_ne (by omega) (by omega) hx hb dX7_other_91 (tgt := 111) (by decide) (fun c_91 => absurd c_91 (by omega)) (fun c_91 => ?_)
    refine lv_aload_n hx hb dX7_other_94 rfl (lv_at hl 2 rfl) ?_
    refine lv_iload_n hx hb dX7_other_95 rfl (lv_at hl 3 rfl) ?_
    refine lv_iload_n hx hb dX7_other_96 rfl (lv_at hl 5 rfl) ?_
    refine lv_aload_n hx hb dX7_other_97 rfl (lv_at hl 2 rfl) ?_
    refine lv_iload_n hx hb dX7_other_98 rfl (lv_at hl 3 rfl) ?_
    refine lv_iload_n hx hb dX7_other_99 rfl (lv_at hl 5 rfl) ?_
    refine gcVi (As := [.int (nI x), .int (nI fa)]) F hK hR hml cv_X7_162 (o := 0) rfl rfl rfl (c_X7_get l G A adr (sp_half S x z g) X x fa (by omega) (by omega)) ⟨rfl, rfl⟩ ⟨Nat.le_of_ble_eq_true rfl, Nat.le_of_ble_eq_true rfl⟩ rfl rfl hl.1 (Nat.le_of_ble_eq_true rfl) dX7_other_100 ⟨Nat.zero_le _, Nat.zero_le _⟩ (fun H locs hR => ?_)
    refine lv_iload hx hb dX7_other_103 (lv_at hl 0 rfl) ?_
    refine lv_iadd hx hb dX7_other_105 ?_
    refine gcVv (As := [.int (nI x), .int (nI fa), .int ((sp_get (sp_half S x z g) x fa) + (sp_get (sp_half S x z g) z g))]) F hK hR hml cv_X7_156 (o := 0) rfl rfl rfl (c_X7_set l G A adr (sp_half S x z g) X x fa ((sp_get (sp_half S x z g) x fa) + (sp_get (sp_half S x z g) z g)) (by omega) (by omega)) ⟨rfl, rfl⟩ ⟨Nat.le_of_ble_eq_true rfl, Nat.le_of_ble_eq_true rfl⟩ rfl rfl hl.1 (Nat.le_of_ble_eq_true rfl) dX7_other_106 ⟨Nat.zero_le _, Nat.zero_le _⟩ (fun H locs hR => ?_)
    refine lv_iconst (v := (-1)) hx hb dX7_other_109 (by decide) ?_
    exact gr_i F hr hlk hK hR dX7_other_110 (rfl) (rfl)
  · refine lv_iconst (v := nI 1) hx hb dX7_other_15 (by decide) ?_
    refine lv_goto (tgt := 20) hx hb dX7_other_16 (by decide) ?_
    refine lv_istore (lv' := [(6, .int (nI 1)), (0, .ref (adr 0)), (1, .int (nI x)), (2, .int (nI 1)), (3, .int (nI fa)), (4, .int (nI z)), (5, .int (nI g))]) hx hb dX7_other_20 hl (by decide) rfl (fun ls hl => ?_)
    refine lv_iload_n hx hb dX7_other_22 rfl (lv_at hl 3 rfl) ?_
    refine lv_iconst (v := nI 2) hx hb dX7_other_23 (by decide) ?_
    refine nv_icmp_ne (by omega) (by omega) hx hb dX7_other_24 (tgt := 43) (by decide) (fun c_24 => ?_) (fun c_24 => absurd c_24 (by omega))
    refine lv_aload_n hx hb dX7_other_43 rfl (lv_at hl 1 rfl) ?_
    refine lv_dup hx hb dX7_other_44 rfl ?_
    refine rg_16 F hK hR dX7_other_45 ?_
    refine lv_iload hx hb dX7_other_48 (lv_at hl 0 rfl) ?_
    refine nv_if_eq (by omega) hx hb dX7_other_50 (tgt := 74) (by decide) (fun c_50 => absurd c_50 (by omega)) (fun c_50 => ?_)
    refine lv_iload hx hb dX7_other_53 (lv_at hl 5 rfl) ?_
    refine lv_iload_n hx hb dX7_other_55 rfl (lv_at hl 2 rfl) ?_
    refine nv_icmp_eq (by omega) (by omega) hx hb dX7_other_56 (tgt := 74) (by decide) (fun c_56 => ?_) (fun c_56 => ?_)
    · refine lv_iconst (v := nI 0) hx hb dX7_other_74 (by decide) ?_
      refine lv_iadd hx hb dX7_other_75 ?_
      refine rp_16 F hK hR dX7_other_76 (fun H locs hR => ?_)
      replace hR : rB G A adr (sp_half S x z g) X s.heap H locs := gw_B.to hR (by unfold sp_half; repeat (first | rw [if_pos c_12] | rw [if_neg c_12] | rw [if_neg (not_not_intro c_12)] | rw [if_pos c_24] | rw [if_neg c_24] | rw [if_neg (not_not_intro c_24)] | rw [if_pos c_50] | rw [if_neg c_50] | rw [if_neg (not_not_intro c_50)] | rw [if_pos c_56] | rw [if_neg c_56] | rw [if_neg (not_not_intro c_56)]))
      refine lv_aload_n hx hb dX7_other_79 rfl (lv_at hl 1 rfl) ?_
      refine lv_iload hx hb dX7_other_80 (lv_at hl 5 rfl) ?_
      refine lv_iload hx hb dX7_other_82 (lv_at hl 6 rfl) ?_
      refine gcVi (As := [.int (nI z), .int (nI g)]) F hK hR hml cv_X7_162 (o := 0) rfl rfl rfl (c_X7_get l G A adr (sp_half S x z g) X z g (by omega) (by omega)) ⟨rfl, rfl⟩ ⟨Nat.le_of_ble_eq_true rfl, Nat.le_of_ble_eq_true rfl⟩ rfl rfl hl.1 (Nat.le_of_ble_eq_true rfl) dX7_other_84 ⟨Nat.zero_le _, Nat.zero_le _⟩ (fun H locs hR => ?_)
      refine lv_istore (lv' := [(7, .int (sp_get (sp_half S x z g) z g)), (6, .int (nI 1)), (0, .ref (adr 0)), (1, .int (nI x)), (2, .int (nI 1)), (3, .int (nI fa)), (4, .int (nI z)), (5, .int (nI g))]) hx hb dX7_other_87 hl (by decide) rfl (fun ls hl => ?_)
      refine lv_iload_n hx hb dX7_other_89 rfl (lv_at hl 4 rfl) ?_
      refine lv_iconst (v := nI 1) hx hb dX7_other_90 (by decide) ?_
      refine nv_icmp_ne (by omega) (by omega) hx hb dX7_other_91 (tgt := 111) (by decide) (fun c_91 => absurd c_91 (by omega)) (fun c_91 => ?_)
      refine lv_aload_n hx hb dX7_other_94 rfl (lv_at hl 2 rfl) ?_
      refine lv_iload_n hx hb dX7_other_95 rfl (lv_at hl 3 rfl) ?_
      refine lv_iload_n hx hb dX7_other_96 rfl (lv_at hl 5 rfl) ?_
      refine lv_aload_n hx hb dX7_other_97 rfl (lv_at hl 2 rfl) ?_
      refine lv_iload_n hx hb dX7_other_98 rfl (lv_at hl 3 rfl) ?_
      refine lv_iload_n hx hb dX7_other_99 rfl (lv_at hl 5 rfl) ?_
      refine gcVi (As := [.int (nI x), .int (nI fa)]) F hK hR hml cv_X7_162 (o := 0) rfl rfl rfl (c_X7_get l G A adr (sp_half S x z g) X x fa (by omega) (by omega)) ⟨rfl, rfl⟩ ⟨Nat.le_of_ble_eq_true rfl, Nat.le_of_ble_eq_true rfl⟩ rfl rfl hl.1 (Nat.le_of_ble_eq_true rfl) dX7_other_100 ⟨Nat.zero_le _, Nat.zero_le _⟩ (fun H locs hR => ?_)
      refine lv_iload hx hb dX7_other_103 (lv_at hl 0 rfl) ?_
      refine lv_iadd hx hb dX7_other_105 ?_
      refine gcVv (As := [.int (nI x), .int (nI fa), .int ((sp_get (sp_half S x z g) x fa) + (sp_get (sp_half S x z g) z g))]) F hK hR hml cv_X7_156 (o := 0) rfl rfl rfl (c_X7_set l G A adr (sp_half S x z g) X x fa ((sp_get (sp_half S x z g) x fa) + (sp_get (sp_half S x z g) z g)) (by omega) (by omega)) ⟨rfl, rfl⟩ ⟨Nat.le_of_ble_eq_true rfl, Nat.le_of_ble_eq_true rfl⟩ rfl rfl hl.1 (Nat.le_of_ble_eq_true rfl) dX7_other_106 ⟨Nat.zero_le _, Nat.zero_le _⟩ (fun H locs hR => ?_)
      refine lv_iconst (v := (-1)) hx hb dX7_other_109 (by decide) ?_
      exact gr_i F hr hlk hK hR dX7_other_110 (rfl) (rfl)
    · refine lv_aload_n hx hb dX7_other_59 rfl (lv_at hl 1 rfl) ?_
      refine rg_12 F hK hR dX7_other_60 ?_
      refine lv_iload hx hb dX7_other_63 (lv_at hl 5 rfl) ?_
      refine ri_12 F hK hR (by omega) dX7_other_65 ?_
      refine lv_iconst (v := nI 1) hx hb dX7_other_66 (by decide) ?_
      refine lv_icmp_ne (tgt := 74) hx hb dX7_other_67 (by decide) (fun c_67 => ?_) (fun c_67 => ?_)
      · refine lv_iconst (v := nI 0) hx hb dX7_other_74 (by decide) ?_
        refine lv_iadd hx hb dX7_other_75 ?_
        refine rp_16 F hK hR dX7_other_76 (fun H locs hR => ?_)
        replace hR : rB G A adr (sp_half S x z g) X s.heap H locs := gw_B.to hR (by unfold sp_half; repeat (first | rw [if_pos c_12] | rw [if_neg c_12] | rw [if_neg (not_not_intro c_12)] | rw [if_pos c_24] | rw [if_neg c_24] | rw [if_neg (not_not_intro c_24)] | rw [if_pos c_50] | rw [if_neg c_50] | rw [if_neg (not_not_intro c_50)] | rw [if_pos c_56] | rw [if_neg c_56] | rw [if_neg (not_not_intro c_56)] | rw [if_pos c_67] | rw [if_neg c_67] | rw [if_neg (not_not_intro c_67)]))
        refine lv_aload_n hx hb dX7_other_79 rfl (lv_at hl 1 rfl) ?_
        refine lv_iload hx hb dX7_other_80 (lv_at hl 5 rfl) ?_
        refine lv_iload hx hb dX7_other_82 (lv_at hl 6 rfl) ?_
        refine gcVi (As := [.int (nI z), .int (nI g)]) F hK hR hml cv_X7_162 (o := 0) rfl rfl rfl (c_X7_get l G A adr (sp_half S x z g) X z g (by omega) (by omega)) ⟨rfl, rfl⟩ ⟨Nat.le_of_ble_eq_true rfl, Nat.le_of_ble_eq_true rfl⟩ rfl rfl hl.1 (Nat.le_of_ble_eq_true rfl) dX7_other_84 ⟨Nat.zero_le _, Nat.zero_le _⟩ (fun H locs hR => ?_)
        refine lv_istore (lv' := [(7, .int (sp_get (sp_half S x z g) z g)), (6, .int (nI 1)), (0, .ref (adr 0)), (1, .int (nI x)), (2, .int (nI 1)), (3, .int (nI fa)), (4, .int (nI z)), (5, .int (nI g))]) hx hb dX7_other_87 hl (by decide) rfl (fun ls hl => ?_)
        refine lv_iload_n hx hb dX7_other_89 rfl (lv_at hl 4 rfl) ?_
        refine lv_iconst (v := nI 1) hx hb dX7_other_90 (by decide) ?_
        refine nv_icmp_ne (by omega) (by omega) hx hb dX7_other_91 (tgt := 111) (by decide) (fun c_91 => absurd c_91 (by omega)) (fun c_91 => ?_)
        refine lv_aload_n hx hb dX7_other_94 rfl (lv_at hl 2 rfl) ?_
        refine lv_iload_n hx hb dX7_other_95 rfl (lv_at hl 3 rfl) ?_
        refine lv_iload_n hx hb dX7_other_96 rfl (lv_at hl 5 rfl) ?_
        refine lv_aload_n hx hb dX7_other_97 rfl (lv_at hl 2 rfl) ?_
        refine lv_iload_n hx hb dX7_other_98 rfl (lv_at hl 3 rfl) ?_
        refine lv_iload_n hx hb dX7_other_99 rfl (lv_at hl 5 rfl) ?_
        refine gcVi (As := [.int (nI x), .int (nI fa)]) F hK hR hml cv_X7_162 (o := 0) rfl rfl rfl (c_X7_get l G A adr (sp_half S x z g) X x fa (by omega) (by omega)) ⟨rfl, rfl⟩ ⟨Nat.le_of_ble_eq_true rfl, Nat.le_of_ble_eq_true rfl⟩ rfl rfl hl.1 (Nat.le_of_ble_eq_true rfl) dX7_other_100 ⟨Nat.zero_le _, Nat.zero_le _⟩ (fun H locs hR => ?_)
        refine lv_iload hx hb dX7_other_103 (lv_at hl 0 rfl) ?_
        refine lv_iadd hx hb dX7_other_105 ?_
        refine gcVv (As := [.int (nI x), .int (nI fa), .int ((sp_get (sp_half S x z g) x fa) + (sp_get (sp_half S x z g) z g))]) F hK hR hml cv_X7_156 (o := 0) rfl rfl rfl (c_X7_set l G A adr (sp_half S x z g) X x fa ((sp_get (sp_half S x z g) x fa) + (sp_get (sp_half S x z g) z g)) (by omega) (by omega)) ⟨rfl, rfl⟩ ⟨Nat.le_of_ble_eq_true rfl, Nat.le_of_ble_eq_true rfl⟩ rfl rfl hl.1 (Nat.le_of_ble_eq_true rfl) dX7_other_106 ⟨Nat.zero_le _, Nat.zero_le _⟩ (fun H locs hR => ?_)
        refine lv_iconst (v := (-1)) hx hb dX7_other_109 (by decide) ?_
        exact gr_i F hr hlk hK hR dX7_other_110 (rfl) (rfl)
      · refine lv_iconst (v := nI 1) hx hb dX7_other_70 (by decide) ?_
        refine lv_goto (tgt := 75) hx hb dX7_other_71 (by decide) ?_
        refine lv_iadd hx hb dX7_other_75 ?_
        refine rp_16 F hK hR dX7_other_76 (fun H locs hR => ?_)
        replace hR : rB G A adr (sp_half S x z g) X s.heap H locs := gw_B.to hR (by unfold sp_half; repeat (first | rw [if_pos c_12] | rw [if_neg c_12] | rw [if_neg (not_not_intro c_12)] | rw [if_pos c_24] | rw [if_neg c_24] | rw [if_neg (not_not_intro c_24)] | rw [if_pos c_50] | rw [if_neg c_50] | rw [if_neg (not_not_intro c_50)] | rw [if_pos c_56] | rw [if_neg c_56] | rw [if_neg (not_not_intro c_56)] | rw [if_pos c_67] | rw [if_neg c_67] | rw [if_neg (not_not_intro c_67)]))
        refine lv_aload_n hx hb dX7_other_79 rfl (lv_at hl 1 rfl) ?_
        refine lv_iload hx hb dX7_other_80 (lv_at hl 5 rfl) ?_
        refine lv_iload hx hb dX7_other_82 (lv_at hl 6 rfl) ?_
        refine gcVi (As := [.int (nI z), .int (nI g)]) F hK hR hml cv_X7_162 (o := 0) rfl rfl rfl (c_X7_get l G A adr (sp_half S x z g) X z g (by omega) (by omega)) ⟨rfl, rfl⟩ ⟨Nat.le_of_ble_eq_true rfl, Nat.le_of_ble_eq_true rfl⟩ rfl rfl hl.1 (Nat.le_of_ble_eq_true rfl) dX7_other_84 ⟨Nat.zero_le _, Nat.zero_le _⟩ (fun H locs hR => ?_)
        refine lv_istore (lv' := [(7, .int (sp_get (sp_half S x z g) z g)), (6, .int (nI 1)), (0, .ref (adr 0)), (1, .int (nI x)), (2, .int (nI 1)), (3, .int (nI fa)), (4, .int (nI z)), (5, .int (nI g))]) hx hb dX7_other_87 hl (by decide) rfl (fun ls hl => ?_)
        refine lv_iload_n hx hb dX7_other_89 rfl (lv_at hl 4 rfl) ?_
        refine lv_iconst (v := nI 1) hx hb dX7_other_90 (by decide) ?_
        refine nv_icmp_ne (by omega) (by omega) hx hb dX7_other_91 (tgt := 111) (by decide) (fun c_91 => absurd c_91 (by omega)) (fun c_91 => ?_)
        refine lv_aload_n hx hb dX7_other_94 rfl (lv_at hl 2 rfl) ?_
        refine lv_iload_n hx hb dX7_other_95 rfl (lv_at hl 3 rfl) ?_
        refine lv_iload_n hx hb dX7_other_96 rfl (lv_at hl 5 rfl) ?_
        refine lv_aload_n hx hb dX7_other_97 rfl (lv_at hl 2 rfl) ?_
        refine lv_iload_n hx hb dX7_other_98 rfl (lv_at hl 3 rfl) ?_
        refine lv_iload_n hx hb dX7_other_99 rfl (lv_at hl 5 rfl) ?_
        refine gcVi (As := [.int (nI x), .int (nI fa)]) F hK hR hml cv_X7_162 (o := 0) rfl rfl rfl (c_X7_get l G A adr (sp_half S x z g) X x fa (by omega) (by omega)) ⟨rfl, rfl⟩ ⟨Nat.le_of_ble_eq_true rfl, Nat.le_of_ble_eq_true rfl⟩ rfl rfl hl.1 (Nat.le_of_ble_eq_true rfl) dX7_other_100 ⟨Nat.zero_le _, Nat.zero_le _⟩ (fun H locs hR => ?_)
        refine lv_iload hx hb dX7_other_103 (lv_at hl 0 rfl) ?_
        refine lv_iadd hx hb dX7_other_105 ?_
        refine gcVv (As := [.int (nI x), .int (nI fa), .int ((sp_get (sp_half S x z g) x fa) + (sp_get (sp_half S x z g) z g))]) F hK hR hml cv_X7_156 (o := 0) rfl rfl rfl (c_X7_set l G A adr (sp_half S x z g) X x fa ((sp_get (sp_half S x z g) x fa) + (sp_get (sp_half S x z g) z g)) (by omega) (by omega)) ⟨rfl, rfl⟩ ⟨Nat.le_of_ble_eq_true rfl, Nat.le_of_ble_eq_true rfl⟩ rfl rfl hl.1 (Nat.le_of_ble_eq_true rfl) dX7_other_106 ⟨Nat.zero_le _, Nat.zero_le _⟩ (fun H locs hR => ?_)
        refine lv_iconst (v := (-1)) hx hb dX7_other_109 (by decide) ?_
        exact gr_i F hr hlk hK hR dX7_other_110 (rfl) (rfl)
set_option maxHeartbeats 4000000 in
set_option maxRecDepth 100000 in
/-- other(x, 2, a, z, c) -/
theorem c_X7_other2 (l : Launch) (G : gw_G) (A : Nat → Prop) (adr : Nat → Nat) (S X : Nat → Nat → Int32) (x fa z g : Nat) (hxx : x < 12) (hfa : fa < 4) (hz : z < 12) (hg : g < 4) : gm l yX7_other cX7_other 8 (some .int) (rmL 1) 0 0 A [.ref (adr 0), .int (nI x), .int (nI 2), .int (nI fa), .int (nI z), .int (nI g)] (gW G A adr (rcel G adr S X)) (gW G A adr (rcel G adr (sp_putS S x fa z g) X)) (some (.int (-1))) := by
  refine gm_of (own := RX7) (by decide) rfl (Nat.le_of_ble_eq_true rfl) ?_
  intro p e s m below meth c ls F hml hr hlk hnm hK hR hl
  have hx := F.1
  have hb := F.2.1
  have hl : lv_has ls 8 [(0, .ref (adr 0)), (1, .int (nI x)), (2, .int (nI 2)), (3, .int (nI fa)), (4, .int (nI z)), (5, .int (nI g))] := hl
  refine lv_aload_n hx hb dX7_other_0 rfl (lv_at hl 0 rfl) ?_
  refine rg_7 F hK hR dX7_other_1 ?_
  refine lv_iconst (v := nI 4) hx hb dX7_other_4 (by decide) ?_
  refine lv_iload hx hb dX7_other_5 (lv_at hl 4 rfl) ?_
  refine nv_imul hx hb dX7_other_7 ?_
  refine lv_iload hx hb dX7_other_8 (lv_at hl 5 rfl) ?_
  refine nv_iadd hx hb dX7_other_10 ?_
  refine ri_7 F hK hR (by omega) dX7_other_11 ?_
  refine lv_if_ne (tgt := 19) hx hb dX7_other_12 (by decide) (fun c_12 => ?_) (fun c_12 => ?_)
  · refine lv_iconst (v := nI 0) hx hb dX7_other_19 (by decide) ?_
    refine lv_istore (lv' := [(6, .int (nI 0)), (0, .ref (adr 0)), (1, .int (nI x)), (2, .int (nI 2)), (3, .int (nI fa)), (4, .int (nI z)), (5, .int (nI g))]) hx hb dX7_other_20 hl (by decide) rfl (fun ls hl => ?_)
    refine lv_iload_n hx hb dX7_other_22 rfl (lv_at hl 3 rfl) ?_
    refine lv_iconst (v := nI 2) hx hb dX7_other_23 (by decide) ?_
    refine nv_icmp_ne (by omega) (by omega) hx hb dX7_other_24 (tgt := 43) (by decide) (fun c_24 => absurd c_24 (by omega)) (fun c_24 => ?_)
    refine lv_aload_n hx hb dX7_other_27 rfl (lv_at hl 1 rfl) ?_
    refine lv_iload hx hb dX7_other_28 (lv_at hl 5 rfl) ?_
    refine lv_iload hx hb dX7_other_30 (lv_at hl 6 rfl) ?_
    refine lv_aload_n hx hb dX7_other_32 rfl (lv_at hl 1 rfl) ?_
    refine lv_iload_n hx hb dX7_other_33 rfl (lv_at hl 2 rfl) ?_
    refine lv_iload_n hx hb dX7_other_34 rfl (lv_at hl 4 rfl) ?_
    refine gcVi (As := [.int (nI x), .int (nI fa)]) F hK hR hml cv_X7_162 (o := 0) rfl rfl rfl (c_X7_get l G A adr S X x fa (by omega) (by omega)) ⟨rfl, rfl⟩ ⟨Nat.le_of_ble_eq_true rfl, Nat.le_of_ble_eq_true rfl⟩ rfl rfl hl.1 (Nat.le_of_ble_eq_true rfl) dX7_other_35 ⟨Nat.zero_le _, Nat.zero_le _⟩ (fun H locs hR => ?_)
    refine gcVv (As := [.int (nI z), .int (nI g), .int (sp_get S x fa)]) F hK hR hml cv_X7_156 (o := 0) rfl rfl rfl (c_X7_set l G A adr S X z g (sp_get S x fa) (by omega) (by omega)) ⟨rfl, rfl⟩ ⟨Nat.le_of_ble_eq_true rfl, Nat.le_of_ble_eq_true rfl⟩ rfl rfl hl.1 (Nat.le_of_ble_eq_true rfl) dX7_other_38 ⟨Nat.zero_le _, Nat.zero_le _⟩ (fun H locs hR => ?_)
    refine lv_iconst (v := (-1)) hx hb dX7_other_41 (by decide) ?_
    exact gr_i F hr hlk hK hR dX7_other_42 (rfl) (rfl)
  · refine lv_iconst (v := nI 1) hx hb dX7_other_15 (by decide) ?_
    refine lv_goto (tgt := 20) hx hb dX7_other_16 (by decide) ?_
    refine lv_istore (lv' := [(6, .int (nI 1)), (0, .ref (adr 0)), (1, .int (nI x)), (2, .int (nI 2)), (3, .int (nI fa)), (4, .int (nI z)), (5, .int (nI g))]) hx hb dX7_other_20 hl (by decide) rfl (fun ls hl => ?_)
    refine lv_iload_n hx hb dX7_other_22 rfl (lv_at hl 3 rfl) ?_
    refine lv_iconst (v := nI 2) hx hb dX7_other_23 (by decide) ?_
    refine nv_icmp_ne (by omega) (by omega) hx hb dX7_other_24 (tgt := 43) (by decide) (fun c_24 => absurd c_24 (by omega)) (fun c_24 => ?_)
    refine lv_aload_n hx hb dX7_other_27 rfl (lv_at hl 1 rfl) ?_
    refine lv_iload hx hb dX7_other_28 (lv_at hl 5 rfl) ?_
    refine lv_iload hx hb dX7_other_30 (lv_at hl 6 rfl) ?_
    refine lv_aload_n hx hb dX7_other_32 rfl (lv_at hl 1 rfl) ?_
    refine lv_iload_n hx hb dX7_other_33 rfl (lv_at hl 2 rfl) ?_
    refine lv_iload_n hx hb dX7_other_34 rfl (lv_at hl 4 rfl) ?_
    refine gcVi (As := [.int (nI x), .int (nI fa)]) F hK hR hml cv_X7_162 (o := 0) rfl rfl rfl (c_X7_get l G A adr S X x fa (by omega) (by omega)) ⟨rfl, rfl⟩ ⟨Nat.le_of_ble_eq_true rfl, Nat.le_of_ble_eq_true rfl⟩ rfl rfl hl.1 (Nat.le_of_ble_eq_true rfl) dX7_other_35 ⟨Nat.zero_le _, Nat.zero_le _⟩ (fun H locs hR => ?_)
    refine gcVv (As := [.int (nI z), .int (nI g), .int (sp_get S x fa)]) F hK hR hml cv_X7_156 (o := 0) rfl rfl rfl (c_X7_set l G A adr S X z g (sp_get S x fa) (by omega) (by omega)) ⟨rfl, rfl⟩ ⟨Nat.le_of_ble_eq_true rfl, Nat.le_of_ble_eq_true rfl⟩ rfl rfl hl.1 (Nat.le_of_ble_eq_true rfl) dX7_other_38 ⟨Nat.zero_le _, Nat.zero_le _⟩ (fun H locs hR => ?_)
    refine lv_iconst (v := (-1)) hx hb dX7_other_41 (by decide) ?_
    exact gr_i F hr hlk hK hR dX7_other_42 (rfl) (rfl)
set_option maxHeartbeats 4000000 in
set_option maxRecDepth 100000 in
/-- other(x, 3, a, z, c) -/
theorem c_X7_other3 (l : Launch) (G : gw_G) (A : Nat → Prop) (adr : Nat → Nat) (S X : Nat → Nat → Int32) (x fa z g : Nat) (hxx : x < 12) (hfa : fa < 4) (hz : z < 12) (hg : g < 4) : gm l yX7_other cX7_other 8 (some .int) (rmL 1) 0 0 A [.ref (adr 0), .int (nI x), .int (nI 3), .int (nI fa), .int (nI z), .int (nI g)] (gW G A adr (rcel G adr S X)) (gW G A adr (rcel G adr (sp_divS S x fa z g) X)) (some (.int (sp_divR S x z g))) := by
  refine gm_of (own := RX7) (by decide) rfl (Nat.le_of_ble_eq_true rfl) ?_
  intro p e s m below meth c ls F hml hr hlk hnm hK hR hl
  have hx := F.1
  have hb := F.2.1
  have hl : lv_has ls 8 [(0, .ref (adr 0)), (1, .int (nI x)), (2, .int (nI 3)), (3, .int (nI fa)), (4, .int (nI z)), (5, .int (nI g))] := hl
  refine lv_aload_n hx hb dX7_other_0 rfl (lv_at hl 0 rfl) ?_
  refine rg_7 F hK hR dX7_other_1 ?_
  refine lv_iconst (v := nI 4) hx hb dX7_other_4 (by decide) ?_
  refine lv_iload hx hb dX7_other_5 (lv_at hl 4 rfl) ?_
  refine nv_imul hx hb dX7_other_7 ?_
  refine lv_iload hx hb dX7_other_8 (lv_at hl 5 rfl) ?_
  refine nv_iadd hx hb dX7_other_10 ?_
  refine ri_7 F hK hR (by omega) dX7_other_11 ?_
  refine lv_if_ne (tgt := 19) hx hb dX7_other_12 (by decide) (fun c_12 => ?_) (fun c_12 => ?_)
  · refine lv_iconst (v := nI 0) hx hb dX7_other_19 (by decide) ?_
    refine lv_istore (lv' := [(6, .int (nI 0)), (0, .ref (adr 0)), (1, .int (nI x)), (2, .int (nI 3)), (3, .int (nI fa)), (4, .int (nI z)), (5, .int (nI g))]) hx hb dX7_other_20 hl (by decide) rfl (fun ls hl => ?_)
    refine lv_iload_n hx hb dX7_other_22 rfl (lv_at hl 3 rfl) ?_
    refine lv_iconst (v := nI 2) hx hb dX7_other_23 (by decide) ?_
    refine nv_icmp_ne (by omega) (by omega) hx hb dX7_other_24 (tgt := 43) (by decide) (fun c_24 => ?_) (fun c_24 => absurd c_24 (by omega))
    refine lv_aload_n hx hb dX7_other_43 rfl (lv_at hl 1 rfl) ?_
    refine lv_dup hx hb dX7_other_44 rfl ?_
    refine rg_16 F hK hR dX7_other_45 ?_
    refine lv_iload hx hb dX7_other_48 (lv_at hl 0 rfl) ?_
    refine nv_if_eq (by omega) hx hb dX7_other_50 (tgt := 74) (by decide) (fun c_50 => ?_) (fun c_50 => absurd c_50 (by omega))
    refine lv_iconst (v := nI 0) hx hb dX7_other_74 (by decide) ?_
    refine lv_iadd hx hb dX7_other_75 ?_
    refine rp_16 F hK hR dX7_other_76 (fun H locs hR => ?_)
    replace hR : rB G A adr (sp_half S x z g) X s.heap H locs := gw_B.to hR (by unfold sp_half; repeat (first | rw [if_pos c_12] | rw [if_neg c_12] | rw [if_neg (not_not_intro c_12)] | rw [if_pos c_24] | rw [if_neg c_24] | rw [if_neg (not_not_intro c_24)] | rw [if_pos c_50] | rw [if_neg c_50] | rw [if_neg (not_not_intro c_50)]))
    refine lv_aload_n hx hb dX7_other_79 rfl (lv_at hl 1 rfl) ?_
    refine lv_iload hx hb dX7_other_80 (lv_at hl 5 rfl) ?_
    refine lv_iload hx hb dX7_other_82 (lv_at hl 6 rfl) ?_
    refine gcVi (As := [.int (nI z), .int (nI g)]) F hK hR hml cv_X7_162 (o := 0) rfl rfl rfl (c_X7_get l G A adr (sp_half S x z g) X z g (by omega) (by omega)) ⟨rfl, rfl⟩ ⟨Nat.le_of_ble_eq_true rfl, Nat.le_of_ble_eq_true rfl⟩ rfl rfl hl.1 (Nat.le_of_ble_eq_true rfl) dX7_other_84 ⟨Nat.zero_le _, Nat.zero_le _⟩ (fun H locs hR => ?_)
    refine lv_istore (lv' := [(7, .int (sp_get (sp_half S x z g) z g)), (6, .int (nI 0)), (0, .ref (adr 0)), (1, .int (nI x)), (2, .int (nI 3)), (3, .int (nI fa)), (4, .int (nI z)), (5, .int (nI g))]) hx hb dX7_other_87 hl (by decide) rfl (fun ls hl => ?_)
    refine lv_iload_n hx hb dX7_other_89 rfl (lv_at hl 4 rfl) ?_
    refine lv_iconst (v := nI 1) hx hb dX7_other_90 (by decide) ?_
    refine nv_icmp_ne (by omega) (by omega) hx hb dX7_other_91 (tgt := 111) (by decide) (fun c_91 => ?_) (fun c_91 => absurd c_91 (by omega))
    refine lv_iload hx hb dX7_other_111 (lv_at hl 0 rfl) ?_
    refine lv_if_ne (tgt := 122) hx hb dX7_other_113 (by decide) (fun c_113 => ?_) (fun c_113 => ?_)
    · refine lv_aload_n hx hb dX7_other_122 rfl (lv_at hl 2 rfl) ?_
      refine lv_iload_n hx hb dX7_other_123 rfl (lv_at hl 3 rfl) ?_
      refine lv_iload_n hx hb dX7_other_124 rfl (lv_at hl 5 rfl) ?_
      refine lv_aload_n hx hb dX7_other_125 rfl (lv_at hl 2 rfl) ?_
      refine lv_iload_n hx hb dX7_other_126 rfl (lv_at hl 3 rfl) ?_
      refine lv_iload_n hx hb dX7_other_127 rfl (lv_at hl 5 rfl) ?_
      refine gcVi (As := [.int (nI x), .int (nI fa)]) F hK hR hml cv_X7_162 (o := 0) rfl rfl rfl (c_X7_get l G A adr (sp_half S x z g) X x fa (by omega) (by omega)) ⟨rfl, rfl⟩ ⟨Nat.le_of_ble_eq_true rfl, Nat.le_of_ble_eq_true rfl⟩ rfl rfl hl.1 (Nat.le_of_ble_eq_true rfl) dX7_other_128 ⟨Nat.zero_le _, Nat.zero_le _⟩ (fun H locs hR => ?_)
      refine lv_iload hx hb dX7_other_131 (lv_at hl 0 rfl) ?_
      refine lv_idiv hx hb dX7_other_133 (c_113) ?_
      refine gcVv (As := [.int (nI x), .int (nI fa), .int ((sp_get (sp_half S x z g) x fa) / (sp_get (sp_half S x z g) z g))]) F hK hR hml cv_X7_156 (o := 0) rfl rfl rfl (c_X7_set l G A adr (sp_half S x z g) X x fa ((sp_get (sp_half S x z g) x fa) / (sp_get (sp_half S x z g) z g)) (by omega) (by omega)) ⟨rfl, rfl⟩ ⟨Nat.le_of_ble_eq_true rfl, Nat.le_of_ble_eq_true rfl⟩ rfl rfl hl.1 (Nat.le_of_ble_eq_true rfl) dX7_other_134 ⟨Nat.zero_le _, Nat.zero_le _⟩ (fun H locs hR => ?_)
      refine lv_iconst (v := (-1)) hx hb dX7_other_137 (by decide) ?_
      exact gr_i F hr hlk hK hR dX7_other_138 (by unfold sp_divR; repeat (first | rw [if_pos c_12] | rw [if_neg c_12] | rw [if_neg (not_not_intro c_12)] | rw [if_pos c_24] | rw [if_neg c_24] | rw [if_neg (not_not_intro c_24)] | rw [if_pos c_50] | rw [if_neg c_50] | rw [if_neg (not_not_intro c_50)] | rw [if_pos c_91] | rw [if_neg c_91] | rw [if_neg (not_not_intro c_91)] | rw [if_pos c_113] | rw [if_neg c_113] | rw [if_neg (not_not_intro c_113)])) (by unfold sp_divS; repeat (first | rw [if_pos c_12] | rw [if_neg c_12] | rw [if_neg (not_not_intro c_12)] | rw [if_pos c_24] | rw [if_neg c_24] | rw [if_neg (not_not_intro c_24)] | rw [if_pos c_50] | rw [if_neg c_50] | rw [if_neg (not_not_intro c_50)] | rw [if_pos c_91] | rw [if_neg c_91] | rw [if_neg (not_not_intro c_91)] | rw [if_pos c_113] | rw [if_neg c_113] | rw [if_neg (not_not_intro c_113)]))
    · refine lv_aload_n hx hb dX7_other_116 rfl (lv_at hl 2 rfl) ?_
      refine lv_iconst (v := nI 3) hx hb dX7_other_117 (by decide) ?_
      refine gcVi (As := [.int (nI 3)]) F hK hR hml cv_X7_111 (o := 0) rfl rfl rfl (c_X7_arise l G A adr (sp_half S x z g) X (nI 3)) ⟨rfl, rfl⟩ ⟨Nat.le_of_ble_eq_true rfl, Nat.le_of_ble_eq_true rfl⟩ rfl rfl hl.1 (Nat.le_of_ble_eq_true rfl) dX7_other_118 ⟨Nat.zero_le _, Nat.zero_le _⟩ (fun H locs hR => ?_)
      exact gr_i F hr hlk hK hR dX7_other_121 (by unfold sp_divR; repeat (first | rw [if_pos c_12] | rw [if_neg c_12] | rw [if_neg (not_not_intro c_12)] | rw [if_pos c_24] | rw [if_neg c_24] | rw [if_neg (not_not_intro c_24)] | rw [if_pos c_50] | rw [if_neg c_50] | rw [if_neg (not_not_intro c_50)] | rw [if_pos c_91] | rw [if_neg c_91] | rw [if_neg (not_not_intro c_91)] | rw [if_pos c_113] | rw [if_neg c_113] | rw [if_neg (not_not_intro c_113)])) (by unfold sp_divS; repeat (first | rw [if_pos c_12] | rw [if_neg c_12] | rw [if_neg (not_not_intro c_12)] | rw [if_pos c_24] | rw [if_neg c_24] | rw [if_neg (not_not_intro c_24)] | rw [if_pos c_50] | rw [if_neg c_50] | rw [if_neg (not_not_intro c_50)] | rw [if_pos c_91] | rw [if_neg c_91] | rw [if_neg (not_not_intro c_91)] | rw [if_pos c_113] | rw [if_neg c_113] | rw [if_neg (not_not_intro c_113)]))
  · refine lv_iconst (v := nI 1) hx hb dX7_other_15 (by decide) ?_
    refine lv_goto (tgt := 20) hx hb dX7_other_16 (by decide) ?_
    refine lv_istore (lv' := [(6, .int (nI 1)), (0, .ref (adr 0)), (1, .int (nI x)), (2, .int (nI 3)), (3, .int (nI fa)), (4, .int (nI z)), (5, .int (nI g))]) hx hb dX7_other_20 hl (by decide) rfl (fun ls hl => ?_)
    refine lv_iload_n hx hb dX7_other_22 rfl (lv_at hl 3 rfl) ?_
    refine lv_iconst (v := nI 2) hx hb dX7_other_23 (by decide) ?_
    refine nv_icmp_ne (by omega) (by omega) hx hb dX7_other_24 (tgt := 43) (by decide) (fun c_24 => ?_) (fun c_24 => absurd c_24 (by omega))
    refine lv_aload_n hx hb dX7_other_43 rfl (lv_at hl 1 rfl) ?_
    refine lv_dup hx hb dX7_other_44 rfl ?_
    refine rg_16 F hK hR dX7_other_45 ?_
    refine lv_iload hx hb dX7_other_48 (lv_at hl 0 rfl) ?_
    refine nv_if_eq (by omega) hx hb dX7_other_50 (tgt := 74) (by decide) (fun c_50 => absurd c_50 (by omega)) (fun c_50 => ?_)
    refine lv_iload hx hb dX7_other_53 (lv_at hl 5 rfl) ?_
    refine lv_iload_n hx hb dX7_other_55 rfl (lv_at hl 2 rfl) ?_
    refine nv_icmp_eq (by omega) (by omega) hx hb dX7_other_56 (tgt := 74) (by decide) (fun c_56 => ?_) (fun c_56 => ?_)
    · refine lv_iconst (v := nI 0) hx hb dX7_other_74 (by decide) ?_
      refine lv_iadd hx hb dX7_other_75 ?_
      refine rp_16 F hK hR dX7_other_76 (fun H locs hR => ?_)
      replace hR : rB G A adr (sp_half S x z g) X s.heap H locs := gw_B.to hR (by unfold sp_half; repeat (first | rw [if_pos c_12] | rw [if_neg c_12] | rw [if_neg (not_not_intro c_12)] | rw [if_pos c_24] | rw [if_neg c_24] | rw [if_neg (not_not_intro c_24)] | rw [if_pos c_50] | rw [if_neg c_50] | rw [if_neg (not_not_intro c_50)] | rw [if_pos c_56] | rw [if_neg c_56] | rw [if_neg (not_not_intro c_56)]))
      refine lv_aload_n hx hb dX7_other_79 rfl (lv_at hl 1 rfl) ?_
      refine lv_iload hx hb dX7_other_80 (lv_at hl 5 rfl) ?_
      refine lv_iload hx hb dX7_other_82 (lv_at hl 6 rfl) ?_
      refine gcVi (As := [.int (nI z), .int (nI g)]) F hK hR hml cv_X7_162 (o := 0) rfl rfl rfl (c_X7_get l G A adr (sp_half S x z g) X z g (by omega) (by omega)) ⟨rfl, rfl⟩ ⟨Nat.le_of_ble_eq_true rfl, Nat.le_of_ble_eq_true rfl⟩ rfl rfl hl.1 (Nat.le_of_ble_eq_true rfl) dX7_other_84 ⟨Nat.zero_le _, Nat.zero_le _⟩ (fun H locs hR => ?_)
      refine lv_istore (lv' := [(7, .int (sp_get (sp_half S x z g) z g)), (6, .int (nI 1)), (0, .ref (adr 0)), (1, .int (nI x)), (2, .int (nI 3)), (3, .int (nI fa)), (4, .int (nI z)), (5, .int (nI g))]) hx hb dX7_other_87 hl (by decide) rfl (fun ls hl => ?_)
      refine lv_iload_n hx hb dX7_other_89 rfl (lv_at hl 4 rfl) ?_
      refine lv_iconst (v := nI 1) hx hb dX7_other_90 (by decide) ?_
      refine nv_icmp_ne (by omega) (by omega) hx hb dX7_other_91 (tgt := 111) (by decide) (fun c_91 => ?_) (fun c_91 => absurd c_91 (by omega))
      refine lv_iload hx hb dX7_other_111 (lv_at hl 0 rfl) ?_
      refine lv_if_ne (tgt := 122) hx hb dX7_other_113 (by decide) (fun c_113 => ?_) (fun c_113 => ?_)
      · refine lv_aload_n hx hb dX7_other_122 rfl (lv_at hl 2 rfl) ?_
        refine lv_iload_n hx hb dX7_other_123 rfl (lv_at hl 3 rfl) ?_
        refine lv_iload_n hx hb dX7_other_124 rfl (lv_at hl 5 rfl) ?_
        refine lv_aload_n hx hb dX7_other_125 rfl (lv_at hl 2 rfl) ?_
        refine lv_iload_n hx hb dX7_other_126 rfl (lv_at hl 3 rfl) ?_
        refine lv_iload_n hx hb dX7_other_127 rfl (lv_at hl 5 rfl) ?_
        refine gcVi (As := [.int (nI x), .int (nI fa)]) F hK hR hml cv_X7_162 (o := 0) rfl rfl rfl (c_X7_get l G A adr (sp_half S x z g) X x fa (by omega) (by omega)) ⟨rfl, rfl⟩ ⟨Nat.le_of_ble_eq_true rfl, Nat.le_of_ble_eq_true rfl⟩ rfl rfl hl.1 (Nat.le_of_ble_eq_true rfl) dX7_other_128 ⟨Nat.zero_le _, Nat.zero_le _⟩ (fun H locs hR => ?_)
        refine lv_iload hx hb dX7_other_131 (lv_at hl 0 rfl) ?_
        refine lv_idiv hx hb dX7_other_133 (c_113) ?_
        refine gcVv (As := [.int (nI x), .int (nI fa), .int ((sp_get (sp_half S x z g) x fa) / (sp_get (sp_half S x z g) z g))]) F hK hR hml cv_X7_156 (o := 0) rfl rfl rfl (c_X7_set l G A adr (sp_half S x z g) X x fa ((sp_get (sp_half S x z g) x fa) / (sp_get (sp_half S x z g) z g)) (by omega) (by omega)) ⟨rfl, rfl⟩ ⟨Nat.le_of_ble_eq_true rfl, Nat.le_of_ble_eq_true rfl⟩ rfl rfl hl.1 (Nat.le_of_ble_eq_true rfl) dX7_other_134 ⟨Nat.zero_le _, Nat.zero_le _⟩ (fun H locs hR => ?_)
        refine lv_iconst (v := (-1)) hx hb dX7_other_137 (by decide) ?_
        exact gr_i F hr hlk hK hR dX7_other_138 (by unfold sp_divR; repeat (first | rw [if_pos c_12] | rw [if_neg c_12] | rw [if_neg (not_not_intro c_12)] | rw [if_pos c_24] | rw [if_neg c_24] | rw [if_neg (not_not_intro c_24)] | rw [if_pos c_50] | rw [if_neg c_50] | rw [if_neg (not_not_intro c_50)] | rw [if_pos c_56] | rw [if_neg c_56] | rw [if_neg (not_not_intro c_56)] | rw [if_pos c_91] | rw [if_neg c_91] | rw [if_neg (not_not_intro c_91)] | rw [if_pos c_113] | rw [if_neg c_113] | rw [if_neg (not_not_intro c_113)])) (by unfold sp_divS; repeat (first | rw [if_pos c_12] | rw [if_neg c_12] | rw [if_neg (not_not_intro c_12)] | rw [if_pos c_24] | rw [if_neg c_24] | rw [if_neg (not_not_intro c_24)] | rw [if_pos c_50] | rw [if_neg c_50] | rw [if_neg (not_not_intro c_50)] | rw [if_pos c_56] | rw [if_neg c_56] | rw [if_neg (not_not_intro c_56)] | rw [if_pos c_91] | rw [if_neg c_91] | rw [if_neg (not_not_intro c_91)] | rw [if_pos c_113] | rw [if_neg c_113] | rw [if_neg (not_not_intro c_113)]))
      · refine lv_aload_n hx hb dX7_other_116 rfl (lv_at hl 2 rfl) ?_
        refine lv_iconst (v := nI 3) hx hb dX7_other_117 (by decide) ?_
        refine gcVi (As := [.int (nI 3)]) F hK hR hml cv_X7_111 (o := 0) rfl rfl rfl (c_X7_arise l G A adr (sp_half S x z g) X (nI 3)) ⟨rfl, rfl⟩ ⟨Nat.le_of_ble_eq_true rfl, Nat.le_of_ble_eq_true rfl⟩ rfl rfl hl.1 (Nat.le_of_ble_eq_true rfl) dX7_other_118 ⟨Nat.zero_le _, Nat.zero_le _⟩ (fun H locs hR => ?_)
        exact gr_i F hr hlk hK hR dX7_other_121 (by unfold sp_divR; repeat (first | rw [if_pos c_12] | rw [if_neg c_12] | rw [if_neg (not_not_intro c_12)] | rw [if_pos c_24] | rw [if_neg c_24] | rw [if_neg (not_not_intro c_24)] | rw [if_pos c_50] | rw [if_neg c_50] | rw [if_neg (not_not_intro c_50)] | rw [if_pos c_56] | rw [if_neg c_56] | rw [if_neg (not_not_intro c_56)] | rw [if_pos c_91] | rw [if_neg c_91] | rw [if_neg (not_not_intro c_91)] | rw [if_pos c_113] | rw [if_neg c_113] | rw [if_neg (not_not_intro c_113)])) (by unfold sp_divS; repeat (first | rw [if_pos c_12] | rw [if_neg c_12] | rw [if_neg (not_not_intro c_12)] | rw [if_pos c_24] | rw [if_neg c_24] | rw [if_neg (not_not_intro c_24)] | rw [if_pos c_50] | rw [if_neg c_50] | rw [if_neg (not_not_intro c_50)] | rw [if_pos c_56] | rw [if_neg c_56] | rw [if_neg (not_not_intro c_56)] | rw [if_pos c_91] | rw [if_neg c_91] | rw [if_neg (not_not_intro c_91)] | rw [if_pos c_113] | rw [if_neg c_113] | rw [if_neg (not_not_intro c_113)]))
    · refine lv_aload_n hx hb dX7_other_59 rfl (lv_at hl 1 rfl) ?_
      refine rg_12 F hK hR dX7_other_60 ?_
      refine lv_iload hx hb dX7_other_63 (lv_at hl 5 rfl) ?_
      refine ri_12 F hK hR (by omega) dX7_other_65 ?_
      refine lv_iconst (v := nI 1) hx hb dX7_other_66 (by decide) ?_
      refine lv_icmp_ne (tgt := 74) hx hb dX7_other_67 (by decide) (fun c_67 => ?_) (fun c_67 => ?_)
      · refine lv_iconst (v := nI 0) hx hb dX7_other_74 (by decide) ?_
        refine lv_iadd hx hb dX7_other_75 ?_
        refine rp_16 F hK hR dX7_other_76 (fun H locs hR => ?_)
        replace hR : rB G A adr (sp_half S x z g) X s.heap H locs := gw_B.to hR (by unfold sp_half; repeat (first | rw [if_pos c_12] | rw [if_neg c_12] | rw [if_neg (not_not_intro c_12)] | rw [if_pos c_24] | rw [if_neg c_24] | rw [if_neg (not_not_intro c_24)] | rw [if_pos c_50] | rw [if_neg c_50] | rw [if_neg (not_not_intro c_50)] | rw [if_pos c_56] | rw [if_neg c_56] | rw [if_neg (not_not_intro c_56)] | rw [if_pos c_67] | rw [if_neg c_67] | rw [if_neg (not_not_intro c_67)]))
        refine lv_aload_n hx hb dX7_other_79 rfl (lv_at hl 1 rfl) ?_
        refine lv_iload hx hb dX7_other_80 (lv_at hl 5 rfl) ?_
        refine lv_iload hx hb dX7_other_82 (lv_at hl 6 rfl) ?_
        refine gcVi (As := [.int (nI z), .int (nI g)]) F hK hR hml cv_X7_162 (o := 0) rfl rfl rfl (c_X7_get l G A adr (sp_half S x z g) X z g (by omega) (by omega)) ⟨rfl, rfl⟩ ⟨Nat.le_of_ble_eq_true rfl, Nat.le_of_ble_eq_true rfl⟩ rfl rfl hl.1 (Nat.le_of_ble_eq_true rfl) dX7_other_84 ⟨Nat.zero_le _, Nat.zero_le _⟩ (fun H locs hR => ?_)
        refine lv_istore (lv' := [(7, .int (sp_get (sp_half S x z g) z g)), (6, .int (nI 1)), (0, .ref (adr 0)), (1, .int (nI x)), (2, .int (nI 3)), (3, .int (nI fa)), (4, .int (nI z)), (5, .int (nI g))]) hx hb dX7_other_87 hl (by decide) rfl (fun ls hl => ?_)
        refine lv_iload_n hx hb dX7_other_89 rfl (lv_at hl 4 rfl) ?_
        refine lv_iconst (v := nI 1) hx hb dX7_other_90 (by decide) ?_
        refine nv_icmp_ne (by omega) (by omega) hx hb dX7_other_91 (tgt := 111) (by decide) (fun c_91 => ?_) (fun c_91 => absurd c_91 (by omega))
        refine lv_iload hx hb dX7_other_111 (lv_at hl 0 rfl) ?_
        refine lv_if_ne (tgt := 122) hx hb dX7_other_113 (by decide) (fun c_113 => ?_) (fun c_113 => ?_)
        · refine lv_aload_n hx hb dX7_other_122 rfl (lv_at hl 2 rfl) ?_
          refine lv_iload_n hx hb dX7_other_123 rfl (lv_at hl 3 rfl) ?_
          refine lv_iload_n hx hb dX7_other_124 rfl (lv_at hl 5 rfl) ?_
          refine lv_aload_n hx hb dX7_other_125 rfl (lv_at hl 2 rfl) ?_
          refine lv_iload_n hx hb dX7_other_126 rfl (lv_at hl 3 rfl) ?_
          refine lv_iload_n hx hb dX7_other_127 rfl (lv_at hl 5 rfl) ?_
          refine gcVi (As := [.int (nI x), .int (nI fa)]) F hK hR hml cv_X7_162 (o := 0) rfl rfl rfl (c_X7_get l G A adr (sp_half S x z g) X x fa (by omega) (by omega)) ⟨rfl, rfl⟩ ⟨Nat.le_of_ble_eq_true rfl, Nat.le_of_ble_eq_true rfl⟩ rfl rfl hl.1 (Nat.le_of_ble_eq_true rfl) dX7_other_128 ⟨Nat.zero_le _, Nat.zero_le _⟩ (fun H locs hR => ?_)
          refine lv_iload hx hb dX7_other_131 (lv_at hl 0 rfl) ?_
          refine lv_idiv hx hb dX7_other_133 (c_113) ?_
          refine gcVv (As := [.int (nI x), .int (nI fa), .int ((sp_get (sp_half S x z g) x fa) / (sp_get (sp_half S x z g) z g))]) F hK hR hml cv_X7_156 (o := 0) rfl rfl rfl (c_X7_set l G A adr (sp_half S x z g) X x fa ((sp_get (sp_half S x z g) x fa) / (sp_get (sp_half S x z g) z g)) (by omega) (by omega)) ⟨rfl, rfl⟩ ⟨Nat.le_of_ble_eq_true rfl, Nat.le_of_ble_eq_true rfl⟩ rfl rfl hl.1 (Nat.le_of_ble_eq_true rfl) dX7_other_134 ⟨Nat.zero_le _, Nat.zero_le _⟩ (fun H locs hR => ?_)
          refine lv_iconst (v := (-1)) hx hb dX7_other_137 (by decide) ?_
          exact gr_i F hr hlk hK hR dX7_other_138 (by unfold sp_divR; repeat (first | rw [if_pos c_12] | rw [if_neg c_12] | rw [if_neg (not_not_intro c_12)] | rw [if_pos c_24] | rw [if_neg c_24] | rw [if_neg (not_not_intro c_24)] | rw [if_pos c_50] | rw [if_neg c_50] | rw [if_neg (not_not_intro c_50)] | rw [if_pos c_56] | rw [if_neg c_56] | rw [if_neg (not_not_intro c_56)] | rw [if_pos c_67] | rw [if_neg c_67] | rw [if_neg (not_not_intro c_67)] | rw [if_pos c_91] | rw [if_neg c_91] | rw [if_neg (not_not_intro c_91)] | rw [if_pos c_113] | rw [if_neg c_113] | rw [if_neg (not_not_intro c_113)])) (by unfold sp_divS; repeat (first | rw [if_pos c_12] | rw [if_neg c_12] | rw [if_neg (not_not_intro c_12)] | rw [if_pos c_24] | rw [if_neg c_24] | rw [if_neg (not_not_intro c_24)] | rw [if_pos c_50] | rw [if_neg c_50] | rw [if_neg (not_not_intro c_50)] | rw [if_pos c_56] | rw [if_neg c_56] | rw [if_neg (not_not_intro c_56)] | rw [if_pos c_67] | rw [if_neg c_67] | rw [if_neg (not_not_intro c_67)] | rw [if_pos c_91] | rw [if_neg c_91] | rw [if_neg (not_not_intro c_91)] | rw [if_pos c_113] | rw [if_neg c_113] | rw [if_neg (not_not_intro c_113)]))
        · refine lv_aload_n hx hb dX7_other_116 rfl (lv_at hl 2 rfl) ?_
          refine lv_iconst (v := nI 3) hx hb dX7_other_117 (by decide) ?_
          refine gcVi (As := [.int (nI 3)]) F hK hR hml cv_X7_111 (o := 0) rfl rfl rfl (c_X7_arise l G A adr (sp_half S x z g) X (nI 3)) ⟨rfl, rfl⟩ ⟨Nat.le_of_ble_eq_true rfl, Nat.le_of_ble_eq_true rfl⟩ rfl rfl hl.1 (Nat.le_of_ble_eq_true rfl) dX7_other_118 ⟨Nat.zero_le _, Nat.zero_le _⟩ (fun H locs hR => ?_)
          exact gr_i F hr hlk hK hR dX7_other_121 (by unfold sp_divR; repeat (first | rw [if_pos c_12] | rw [if_neg c_12] | rw [if_neg (not_not_intro c_12)] | rw [if_pos c_24] | rw [if_neg c_24] | rw [if_neg (not_not_intro c_24)] | rw [if_pos c_50] | rw [if_neg c_50] | rw [if_neg (not_not_intro c_50)] | rw [if_pos c_56] | rw [if_neg c_56] | rw [if_neg (not_not_intro c_56)] | rw [if_pos c_67] | rw [if_neg c_67] | rw [if_neg (not_not_intro c_67)] | rw [if_pos c_91] | rw [if_neg c_91] | rw [if_neg (not_not_intro c_91)] | rw [if_pos c_113] | rw [if_neg c_113] | rw [if_neg (not_not_intro c_113)])) (by unfold sp_divS; repeat (first | rw [if_pos c_12] | rw [if_neg c_12] | rw [if_neg (not_not_intro c_12)] | rw [if_pos c_24] | rw [if_neg c_24] | rw [if_neg (not_not_intro c_24)] | rw [if_pos c_50] | rw [if_neg c_50] | rw [if_neg (not_not_intro c_50)] | rw [if_pos c_56] | rw [if_neg c_56] | rw [if_neg (not_not_intro c_56)] | rw [if_pos c_67] | rw [if_neg c_67] | rw [if_neg (not_not_intro c_67)] | rw [if_pos c_91] | rw [if_neg c_91] | rw [if_neg (not_not_intro c_91)] | rw [if_pos c_113] | rw [if_neg c_113] | rw [if_neg (not_not_intro c_113)]))
      · refine lv_iconst (v := nI 1) hx hb dX7_other_70 (by decide) ?_
        refine lv_goto (tgt := 75) hx hb dX7_other_71 (by decide) ?_
        refine lv_iadd hx hb dX7_other_75 ?_
        refine rp_16 F hK hR dX7_other_76 (fun H locs hR => ?_)
        replace hR : rB G A adr (sp_half S x z g) X s.heap H locs := gw_B.to hR (by unfold sp_half; repeat (first | rw [if_pos c_12] | rw [if_neg c_12] | rw [if_neg (not_not_intro c_12)] | rw [if_pos c_24] | rw [if_neg c_24] | rw [if_neg (not_not_intro c_24)] | rw [if_pos c_50] | rw [if_neg c_50] | rw [if_neg (not_not_intro c_50)] | rw [if_pos c_56] | rw [if_neg c_56] | rw [if_neg (not_not_intro c_56)] | rw [if_pos c_67] | rw [if_neg c_67] | rw [if_neg (not_not_intro c_67)]))
        refine lv_aload_n hx hb dX7_other_79 rfl (lv_at hl 1 rfl) ?_
        refine lv_iload hx hb dX7_other_80 (lv_at hl 5 rfl) ?_
        refine lv_iload hx hb dX7_other_82 (lv_at hl 6 rfl) ?_
        refine gcVi (As := [.int (nI z), .int (nI g)]) F hK hR hml cv_X7_162 (o := 0) rfl rfl rfl (c_X7_get l G A adr (sp_half S x z g) X z g (by omega) (by omega)) ⟨rfl, rfl⟩ ⟨Nat.le_of_ble_eq_true rfl, Nat.le_of_ble_eq_true rfl⟩ rfl rfl hl.1 (Nat.le_of_ble_eq_true rfl) dX7_other_84 ⟨Nat.zero_le _, Nat.zero_le _⟩ (fun H locs hR => ?_)
        refine lv_istore (lv' := [(7, .int (sp_get (sp_half S x z g) z g)), (6, .int (nI 1)), (0, .ref (adr 0)), (1, .int (nI x)), (2, .int (nI 3)), (3, .int (nI fa)), (4, .int (nI z)), (5, .int (nI g))]) hx hb dX7_other_87 hl (by decide) rfl (fun ls hl => ?_)
        refine lv_iload_n hx hb dX7_other_89 rfl (lv_at hl 4 rfl) ?_
        refine lv_iconst (v := nI 1) hx hb dX7_other_90 (by decide) ?_
        refine nv_icmp_ne (by omega) (by omega) hx hb dX7_other_91 (tgt := 111) (by decide) (fun c_91 => ?_) (fun c_91 => absurd c_91 (by omega))
        refine lv_iload hx hb dX7_other_111 (lv_at hl 0 rfl) ?_
        refine lv_if_ne (tgt := 122) hx hb dX7_other_113 (by decide) (fun c_113 => ?_) (fun c_113 => ?_)
        · refine lv_aload_n hx hb dX7_other_122 rfl (lv_at hl 2 rfl) ?_
          refine lv_iload_n hx hb dX7_other_123 rfl (lv_at hl 3 rfl) ?_
          refine lv_iload_n hx hb dX7_other_124 rfl (lv_at hl 5 rfl) ?_
          refine lv_aload_n hx hb dX7_other_125 rfl (lv_at hl 2 rfl) ?_
          refine lv_iload_n hx hb dX7_other_126 rfl (lv_at hl 3 rfl) ?_
          refine lv_iload_n hx hb dX7_other_127 rfl (lv_at hl 5 rfl) ?_
          refine gcVi (As := [.int (nI x), .int (nI fa)]) F hK hR hml cv_X7_162 (o := 0) rfl rfl rfl (c_X7_get l G A adr (sp_half S x z g) X x fa (by omega) (by omega)) ⟨rfl, rfl⟩ ⟨Nat.le_of_ble_eq_true rfl, Nat.le_of_ble_eq_true rfl⟩ rfl rfl hl.1 (Nat.le_of_ble_eq_true rfl) dX7_other_128 ⟨Nat.zero_le _, Nat.zero_le _⟩ (fun H locs hR => ?_)
          refine lv_iload hx hb dX7_other_131 (lv_at hl 0 rfl) ?_
          refine lv_idiv hx hb dX7_other_133 (c_113) ?_
          refine gcVv (As := [.int (nI x), .int (nI fa), .int ((sp_get (sp_half S x z g) x fa) / (sp_get (sp_half S x z g) z g))]) F hK hR hml cv_X7_156 (o := 0) rfl rfl rfl (c_X7_set l G A adr (sp_half S x z g) X x fa ((sp_get (sp_half S x z g) x fa) / (sp_get (sp_half S x z g) z g)) (by omega) (by omega)) ⟨rfl, rfl⟩ ⟨Nat.le_of_ble_eq_true rfl, Nat.le_of_ble_eq_true rfl⟩ rfl rfl hl.1 (Nat.le_of_ble_eq_true rfl) dX7_other_134 ⟨Nat.zero_le _, Nat.zero_le _⟩ (fun H locs hR => ?_)
          refine lv_iconst (v := (-1)) hx hb dX7_other_137 (by decide) ?_
          exact gr_i F hr hlk hK hR dX7_other_138 (by unfold sp_divR; repeat (first | rw [if_pos c_12] | rw [if_neg c_12] | rw [if_neg (not_not_intro c_12)] | rw [if_pos c_24] | rw [if_neg c_24] | rw [if_neg (not_not_intro c_24)] | rw [if_pos c_50] | rw [if_neg c_50] | rw [if_neg (not_not_intro c_50)] | rw [if_pos c_56] | rw [if_neg c_56] | rw [if_neg (not_not_intro c_56)] | rw [if_pos c_67] | rw [if_neg c_67] | rw [if_neg (not_not_intro c_67)] | rw [if_pos c_91] | rw [if_neg c_91] | rw [if_neg (not_not_intro c_91)] | rw [if_pos c_113] | rw [if_neg c_113] | rw [if_neg (not_not_intro c_113)])) (by unfold sp_divS; repeat (first | rw [if_pos c_12] | rw [if_neg c_12] | rw [if_neg (not_not_intro c_12)] | rw [if_pos c_24] | rw [if_neg c_24] | rw [if_neg (not_not_intro c_24)] | rw [if_pos c_50] | rw [if_neg c_50] | rw [if_neg (not_not_intro c_50)] | rw [if_pos c_56] | rw [if_neg c_56] | rw [if_neg (not_not_intro c_56)] | rw [if_pos c_67] | rw [if_neg c_67] | rw [if_neg (not_not_intro c_67)] | rw [if_pos c_91] | rw [if_neg c_91] | rw [if_neg (not_not_intro c_91)] | rw [if_pos c_113] | rw [if_neg c_113] | rw [if_neg (not_not_intro c_113)]))
        · refine lv_aload_n hx hb dX7_other_116 rfl (lv_at hl 2 rfl) ?_
          refine lv_iconst (v := nI 3) hx hb dX7_other_117 (by decide) ?_
          refine gcVi (As := [.int (nI 3)]) F hK hR hml cv_X7_111 (o := 0) rfl rfl rfl (c_X7_arise l G A adr (sp_half S x z g) X (nI 3)) ⟨rfl, rfl⟩ ⟨Nat.le_of_ble_eq_true rfl, Nat.le_of_ble_eq_true rfl⟩ rfl rfl hl.1 (Nat.le_of_ble_eq_true rfl) dX7_other_118 ⟨Nat.zero_le _, Nat.zero_le _⟩ (fun H locs hR => ?_)
          exact gr_i F hr hlk hK hR dX7_other_121 (by unfold sp_divR; repeat (first | rw [if_pos c_12] | rw [if_neg c_12] | rw [if_neg (not_not_intro c_12)] | rw [if_pos c_24] | rw [if_neg c_24] | rw [if_neg (not_not_intro c_24)] | rw [if_pos c_50] | rw [if_neg c_50] | rw [if_neg (not_not_intro c_50)] | rw [if_pos c_56] | rw [if_neg c_56] | rw [if_neg (not_not_intro c_56)] | rw [if_pos c_67] | rw [if_neg c_67] | rw [if_neg (not_not_intro c_67)] | rw [if_pos c_91] | rw [if_neg c_91] | rw [if_neg (not_not_intro c_91)] | rw [if_pos c_113] | rw [if_neg c_113] | rw [if_neg (not_not_intro c_113)])) (by unfold sp_divS; repeat (first | rw [if_pos c_12] | rw [if_neg c_12] | rw [if_neg (not_not_intro c_12)] | rw [if_pos c_24] | rw [if_neg c_24] | rw [if_neg (not_not_intro c_24)] | rw [if_pos c_50] | rw [if_neg c_50] | rw [if_neg (not_not_intro c_50)] | rw [if_pos c_56] | rw [if_neg c_56] | rw [if_neg (not_not_intro c_56)] | rw [if_pos c_67] | rw [if_neg c_67] | rw [if_neg (not_not_intro c_67)] | rw [if_pos c_91] | rw [if_neg c_91] | rw [if_neg (not_not_intro c_91)] | rw [if_pos c_113] | rw [if_neg c_113] | rw [if_neg (not_not_intro c_113)]))
set_option maxHeartbeats 4000000 in
set_option maxRecDepth 100000 in
/-- doOne(x, sort, a, b, c) -/
theorem c_X7_doOne (l : Launch) (G : gw_G) (A : Nat → Prop) (adr : Nat → Nat) (S X : Nat → Nat → Int32) (ev x so : Nat) (ra rb rc : Int32) (hev : S 13 0 = nI ev) (he : ev ≤ 60) (hxx : x < 12) (hso : so ≤ 12) (h7 : so ≠ 7) (h11 : so ≠ 11) (hv : ¬ sp_areIn so ra rb rc = 0) (hb3 : 1 ≤ so → so ≤ 3 → ∃ z, z < 12 ∧ rb = nI z) (hrow : ∀ x, x < 12 → ∃ r, r ≤ 21 ∧ S 8 x = nI r) : gm l yX7_doOne cX7_doOne 6 (some .int) (rmL 2) 0 0 A [.ref (adr 0), .int (nI x), .int (nI so), .int ra, .int rb, .int rc] (gW G A adr (rcel G adr S X)) (gW G A adr (rcel G adr (sp_doS S ev x so ra rb rc) X)) (some (.int (sp_doR S x so ra rb rc))) := by
  refine gm_of (own := RX7) (by decide) rfl (Nat.le_of_ble_eq_true rfl) ?_
  intro p e s m below meth c ls F hml hr hlk hnm hK hR hl
  have hx := F.1
  have hb := F.2.1
  have hl : lv_has ls 6 [(0, .ref (adr 0)), (1, .int (nI x)), (2, .int (nI so)), (3, .int ra), (4, .int rb), (5, .int rc)] := hl
  refine lv_iload_n hx hb dX7_doOne_0 rfl (lv_at hl 2 rfl) ?_
  rcases (so_do hso h7 h11 : so = 0 ∨ so = 1 ∨ so = 2 ∨ so = 3 ∨ so = 4 ∨ so = 5 ∨ so = 6 ∨ so = 8 ∨ so = 9 ∨ so = 10 ∨ so = 12) with rfl | rfl | rfl | rfl | rfl | rfl | rfl | rfl | rfl | rfl | rfl
  · refine lv_tableIn (x := nI 0) (tgt := 60) hx hb dX7_doOne_1 (by decide) (by decide) (off := 59) (by decide) (by decide) ?_
    obtain ⟨fa, h_fa, rfl⟩ := isF_yes hv
    refine lv_aload_n hx hb dX7_doOne_60 rfl (lv_at hl 0 rfl) ?_
    refine lv_iload_n hx hb dX7_doOne_61 rfl (lv_at hl 1 rfl) ?_
    refine lv_iload_n hx hb dX7_doOne_62 rfl (lv_at hl 3 rfl) ?_
    refine lv_iload hx hb dX7_doOne_63 (lv_at hl 4 rfl) ?_
    refine gcVv (As := [.int (nI x), .int (nI fa), .int rb]) F hK hR hml cv_X7_156 (o := 0) rfl rfl rfl (c_X7_set l G A adr S X x fa rb (by omega) (by omega)) ⟨rfl, rfl⟩ ⟨Nat.le_of_ble_eq_true rfl, Nat.le_of_ble_eq_true rfl⟩ rfl rfl hl.1 (Nat.le_of_ble_eq_true rfl) dX7_doOne_65 ⟨Nat.zero_le _, Nat.zero_le _⟩ (fun H locs hR => ?_)
    refine lv_iconst (v := (-1)) hx hb dX7_doOne_68 (by decide) ?_
    exact gr_i F hr hlk hK hR dX7_doOne_69 (rfl) (by simp only [sp_doS]; rw [nI_clamp (n := fa) (by omega)])
  · refine lv_tableIn (x := nI 1) (tgt := 70) hx hb dX7_doOne_1 (by decide) (by decide) (off := 69) (by decide) (by decide) ?_
    have hF1 : ¬ sp_isF ra = 0 := fun q => hv (by simp only [sp_areIn]; rw [if_pos q]; rfl)
    have hF2 : ¬ sp_isF rc = 0 := fun q => hv (by simp only [sp_areIn]; rw [if_neg hF1, if_pos q]; rfl)
    obtain ⟨fa, h_fa, rfl⟩ := isF_yes hF1
    obtain ⟨g, h_g, rfl⟩ := isF_yes hF2
    obtain ⟨z, h_z, rfl⟩ := hb3 (by omega) (by omega)
    refine lv_aload_n hx hb dX7_doOne_70 rfl (lv_at hl 0 rfl) ?_
    refine lv_iload_n hx hb dX7_doOne_71 rfl (lv_at hl 1 rfl) ?_
    refine lv_iload_n hx hb dX7_doOne_72 rfl (lv_at hl 2 rfl) ?_
    refine lv_iload_n hx hb dX7_doOne_73 rfl (lv_at hl 3 rfl) ?_
    refine lv_iload hx hb dX7_doOne_74 (lv_at hl 4 rfl) ?_
    refine lv_iload hx hb dX7_doOne_76 (lv_at hl 5 rfl) ?_
    refine gcVi (As := [.int (nI x), .int (nI 1), .int (nI fa), .int (nI z), .int (nI g)]) F hK hR hml cv_X7_159 (o := 0) rfl rfl rfl (c_X7_other1 l G A adr S X x fa z g (by omega) (by omega) (by omega) (by omega)) ⟨rfl, rfl⟩ ⟨Nat.le_of_ble_eq_true rfl, Nat.le_of_ble_eq_true rfl⟩ rfl rfl hl.1 (Nat.le_of_ble_eq_true rfl) dX7_doOne_78 ⟨Nat.zero_le _, Nat.zero_le _⟩ (fun H locs hR => ?_)
    exact gr_i F hr hlk hK hR dX7_doOne_81 (rfl) (by simp only [sp_doS]; rw [nI_clamp (n := fa) (by omega), nI_clamp (n := z) (by omega), nI_clamp (n := g) (by omega)])
  · refine lv_tableIn (x := nI 2) (tgt := 70) hx hb dX7_doOne_1 (by decide) (by decide) (off := 69) (by decide) (by decide) ?_
    have hF1 : ¬ sp_isF ra = 0 := fun q => hv (by simp only [sp_areIn]; rw [if_pos q]; rfl)
    have hF2 : ¬ sp_isF rc = 0 := fun q => hv (by simp only [sp_areIn]; rw [if_neg hF1, if_pos q]; rfl)
    obtain ⟨fa, h_fa, rfl⟩ := isF_yes hF1
    obtain ⟨g, h_g, rfl⟩ := isF_yes hF2
    obtain ⟨z, h_z, rfl⟩ := hb3 (by omega) (by omega)
    refine lv_aload_n hx hb dX7_doOne_70 rfl (lv_at hl 0 rfl) ?_
    refine lv_iload_n hx hb dX7_doOne_71 rfl (lv_at hl 1 rfl) ?_
    refine lv_iload_n hx hb dX7_doOne_72 rfl (lv_at hl 2 rfl) ?_
    refine lv_iload_n hx hb dX7_doOne_73 rfl (lv_at hl 3 rfl) ?_
    refine lv_iload hx hb dX7_doOne_74 (lv_at hl 4 rfl) ?_
    refine lv_iload hx hb dX7_doOne_76 (lv_at hl 5 rfl) ?_
    refine gcVi (As := [.int (nI x), .int (nI 2), .int (nI fa), .int (nI z), .int (nI g)]) F hK hR hml cv_X7_159 (o := 0) rfl rfl rfl (c_X7_other2 l G A adr S X x fa z g (by omega) (by omega) (by omega) (by omega)) ⟨rfl, rfl⟩ ⟨Nat.le_of_ble_eq_true rfl, Nat.le_of_ble_eq_true rfl⟩ rfl rfl hl.1 (Nat.le_of_ble_eq_true rfl) dX7_doOne_78 ⟨Nat.zero_le _, Nat.zero_le _⟩ (fun H locs hR => ?_)
    exact gr_i F hr hlk hK hR dX7_doOne_81 (rfl) (by simp only [sp_doS]; rw [nI_clamp (n := fa) (by omega), nI_clamp (n := z) (by omega), nI_clamp (n := g) (by omega)])
  · refine lv_tableIn (x := nI 3) (tgt := 70) hx hb dX7_doOne_1 (by decide) (by decide) (off := 69) (by decide) (by decide) ?_
    have hF1 : ¬ sp_isF ra = 0 := fun q => hv (by simp only [sp_areIn]; rw [if_pos q]; rfl)
    have hF2 : ¬ sp_isF rc = 0 := fun q => hv (by simp only [sp_areIn]; rw [if_neg hF1, if_pos q]; rfl)
    obtain ⟨fa, h_fa, rfl⟩ := isF_yes hF1
    obtain ⟨g, h_g, rfl⟩ := isF_yes hF2
    obtain ⟨z, h_z, rfl⟩ := hb3 (by omega) (by omega)
    refine lv_aload_n hx hb dX7_doOne_70 rfl (lv_at hl 0 rfl) ?_
    refine lv_iload_n hx hb dX7_doOne_71 rfl (lv_at hl 1 rfl) ?_
    refine lv_iload_n hx hb dX7_doOne_72 rfl (lv_at hl 2 rfl) ?_
    refine lv_iload_n hx hb dX7_doOne_73 rfl (lv_at hl 3 rfl) ?_
    refine lv_iload hx hb dX7_doOne_74 (lv_at hl 4 rfl) ?_
    refine lv_iload hx hb dX7_doOne_76 (lv_at hl 5 rfl) ?_
    refine gcVi (As := [.int (nI x), .int (nI 3), .int (nI fa), .int (nI z), .int (nI g)]) F hK hR hml cv_X7_159 (o := 0) rfl rfl rfl (c_X7_other3 l G A adr S X x fa z g (by omega) (by omega) (by omega) (by omega)) ⟨rfl, rfl⟩ ⟨Nat.le_of_ble_eq_true rfl, Nat.le_of_ble_eq_true rfl⟩ rfl rfl hl.1 (Nat.le_of_ble_eq_true rfl) dX7_doOne_78 ⟨Nat.zero_le _, Nat.zero_le _⟩ (fun H locs hR => ?_)
    exact gr_i F hr hlk hK hR dX7_doOne_81 (by simp only [sp_doR]; rw [nI_clamp (n := z) (by omega), nI_clamp (n := g) (by omega)]) (by simp only [sp_doS]; rw [nI_clamp (n := fa) (by omega), nI_clamp (n := z) (by omega), nI_clamp (n := g) (by omega)])
  · refine lv_tableIn (x := nI 4) (tgt := 82) hx hb dX7_doOne_1 (by decide) (by decide) (off := 81) (by decide) (by decide) ?_
    obtain ⟨fa, h_fa, rfl⟩ := isF_yes hv
    refine lv_aload_n hx hb dX7_doOne_82 rfl (lv_at hl 0 rfl) ?_
    refine lv_iload_n hx hb dX7_doOne_83 rfl (lv_at hl 1 rfl) ?_
    refine lv_aload_n hx hb dX7_doOne_84 rfl (lv_at hl 0 rfl) ?_
    refine lv_iload_n hx hb dX7_doOne_85 rfl (lv_at hl 1 rfl) ?_
    refine lv_iload_n hx hb dX7_doOne_86 rfl (lv_at hl 3 rfl) ?_
    refine gcVi (As := [.int (nI x), .int (nI fa)]) F hK hR hml cv_X7_162 (o := 0) rfl rfl rfl (c_X7_get l G A adr S X x fa (by omega) (by omega)) ⟨rfl, rfl⟩ ⟨Nat.le_of_ble_eq_true rfl, Nat.le_of_ble_eq_true rfl⟩ rfl rfl hl.1 (Nat.le_of_ble_eq_true rfl) dX7_doOne_87 ⟨Nat.zero_le _, Nat.zero_le _⟩ (fun H locs hR => ?_)
    refine gcVi (As := [.int (nI x), .int (sp_get S x fa)]) F hK hR hml cv_X7_166 (o := 0) rfl rfl rfl (c_X7_newRow l G A adr S X x (sp_get S x fa) (by omega)) ⟨rfl, rfl⟩ ⟨Nat.le_of_ble_eq_true rfl, Nat.le_of_ble_eq_true rfl⟩ rfl rfl hl.1 (Nat.le_of_ble_eq_true rfl) dX7_doOne_90 ⟨Nat.zero_le _, Nat.zero_le _⟩ (fun H locs hR => ?_)
    exact gr_i F hr hlk hK hR dX7_doOne_93 (by simp only [sp_doR]; rw [nI_clamp (n := fa) (by omega)]) (by simp only [sp_doS]; rw [nI_clamp (n := fa) (by omega)])
  · refine lv_tableIn (x := nI 5) (tgt := 94) hx hb dX7_doOne_1 (by decide) (by decide) (off := 93) (by decide) (by decide) ?_
    have hF1 : ¬ sp_isF ra = 0 := fun q => hv (by simp only [sp_areIn]; rw [if_pos q]; rfl)
    have hF2 : ¬ sp_isF rb = 0 := fun q => hv (by simp only [sp_areIn]; rw [if_neg hF1, if_pos q]; rfl)
    obtain ⟨fa, h_fa, rfl⟩ := isF_yes hF1
    obtain ⟨fb, h_fb, rfl⟩ := isF_yes hF2
    refine lv_aload_n hx hb dX7_doOne_94 rfl (lv_at hl 0 rfl) ?_
    refine lv_iload_n hx hb dX7_doOne_95 rfl (lv_at hl 1 rfl) ?_
    refine lv_iload_n hx hb dX7_doOne_96 rfl (lv_at hl 2 rfl) ?_
    refine lv_iconst (v := nI 5) hx hb dX7_doOne_97 (by decide) ?_
    refine nv_icmp_ne (by omega) (by omega) hx hb dX7_doOne_98 (tgt := 105) (by decide) (fun c_98 => absurd c_98 (by omega)) (fun c_98 => ?_)
    refine lv_iconst (v := nI 1) hx hb dX7_doOne_101 (by decide) ?_
    refine lv_goto (tgt := 106) hx hb dX7_doOne_102 (by decide) ?_
    refine lv_iload_n hx hb dX7_doOne_106 rfl (lv_at hl 3 rfl) ?_
    refine lv_iload hx hb dX7_doOne_107 (lv_at hl 4 rfl) ?_
    refine gcVi (As := [.int (nI x), .int (nI 1), .int (nI fa), .int (nI fb)]) F hK hR hml cv_X7_169 (o := 0) rfl rfl rfl (c_X7_inOut1 l G A adr S X x fa fb (by omega) (by omega) (by omega) hrow) ⟨rfl, rfl⟩ ⟨Nat.le_of_ble_eq_true rfl, Nat.le_of_ble_eq_true rfl⟩ rfl rfl hl.1 (Nat.le_of_ble_eq_true rfl) dX7_doOne_109 ⟨Nat.zero_le _, Nat.zero_le _⟩ (fun H locs hR => ?_)
    exact gr_i F hr hlk hK hR dX7_doOne_112 (by simp only [sp_doR]; rw [nI_clamp (n := fa) (by omega)]) (by simp only [sp_doS]; rw [nI_clamp (n := fa) (by omega), nI_clamp (n := fb) (by omega)])
  · refine lv_tableIn (x := nI 6) (tgt := 94) hx hb dX7_doOne_1 (by decide) (by decide) (off := 93) (by decide) (by decide) ?_
    have hF1 : ¬ sp_isF ra = 0 := fun q => hv (by simp only [sp_areIn]; rw [if_pos q]; rfl)
    have hF2 : ¬ sp_isF rb = 0 := fun q => hv (by simp only [sp_areIn]; rw [if_neg hF1, if_pos q]; rfl)
    obtain ⟨fa, h_fa, rfl⟩ := isF_yes hF1
    obtain ⟨fb, h_fb, rfl⟩ := isF_yes hF2
    refine lv_aload_n hx hb dX7_doOne_94 rfl (lv_at hl 0 rfl) ?_
    refine lv_iload_n hx hb dX7_doOne_95 rfl (lv_at hl 1 rfl) ?_
    refine lv_iload_n hx hb dX7_doOne_96 rfl (lv_at hl 2 rfl) ?_
    refine lv_iconst (v := nI 5) hx hb dX7_doOne_97 (by decide) ?_
    refine nv_icmp_ne (by omega) (by omega) hx hb dX7_doOne_98 (tgt := 105) (by decide) (fun c_98 => ?_) (fun c_98 => absurd c_98 (by omega))
    refine lv_iconst (v := nI 0) hx hb dX7_doOne_105 (by decide) ?_
    refine lv_iload_n hx hb dX7_doOne_106 rfl (lv_at hl 3 rfl) ?_
    refine lv_iload hx hb dX7_doOne_107 (lv_at hl 4 rfl) ?_
    refine gcVi (As := [.int (nI x), .int (nI 0), .int (nI fa), .int (nI fb)]) F hK hR hml cv_X7_169 (o := 0) rfl rfl rfl (c_X7_inOut0 l G A adr S X x fa fb (by omega) (by omega) (by omega) hrow) ⟨rfl, rfl⟩ ⟨Nat.le_of_ble_eq_true rfl, Nat.le_of_ble_eq_true rfl⟩ rfl rfl hl.1 (Nat.le_of_ble_eq_true rfl) dX7_doOne_109 ⟨Nat.zero_le _, Nat.zero_le _⟩ (fun H locs hR => ?_)
    exact gr_i F hr hlk hK hR dX7_doOne_112 (by simp only [sp_doR]; rw [nI_clamp (n := fb) (by omega)]) (by simp only [sp_doS]; rw [nI_clamp (n := fa) (by omega), nI_clamp (n := fb) (by omega)])
  · refine lv_tableIn (x := nI 8) (tgt := 113) hx hb dX7_doOne_1 (by decide) (by decide) (off := 112) (by decide) (by decide) ?_
    refine lv_iconst (v := (-1)) hx hb dX7_doOne_113 (by decide) ?_
    exact gr_i F hr hlk hK hR dX7_doOne_114 (rfl) (rfl)
  · refine lv_tableIn (x := nI 9) (tgt := 115) hx hb dX7_doOne_1 (by decide) (by decide) (off := 114) (by decide) (by decide) ?_
    refine lv_aload_n hx hb dX7_doOne_115 rfl (lv_at hl 0 rfl) ?_
    refine lv_iload_n hx hb dX7_doOne_116 rfl (lv_at hl 3 rfl) ?_
    refine gcVi (As := [.int ra]) F hK hR hml cv_X7_111 (o := 0) rfl rfl rfl (c_X7_arise l G A adr S X ra) ⟨rfl, rfl⟩ ⟨Nat.le_of_ble_eq_true rfl, Nat.le_of_ble_eq_true rfl⟩ rfl rfl hl.1 (Nat.le_of_ble_eq_true rfl) dX7_doOne_117 ⟨Nat.zero_le _, Nat.zero_le _⟩ (fun H locs hR => ?_)
    exact gr_i F hr hlk hK hR dX7_doOne_120 (rfl) (rfl)
  · refine lv_tableIn (x := nI 10) (tgt := 121) hx hb dX7_doOne_1 (by decide) (by decide) (off := 120) (by decide) (by decide) ?_
    refine lv_aload_n hx hb dX7_doOne_121 rfl (lv_at hl 0 rfl) ?_
    refine lv_iconst (v := nI 3) hx hb dX7_doOne_122 (by decide) ?_
    refine lv_iload_n hx hb dX7_doOne_123 rfl (lv_at hl 3 rfl) ?_
    refine gcVv (As := [.int (nI 3), .int ra]) F hK hR hml cv_X7_118 (o := 0) rfl rfl rfl (c_X7_tell l G A adr S X ev (nI 3) ra (hev) (by omega)) ⟨rfl, rfl⟩ ⟨Nat.le_of_ble_eq_true rfl, Nat.le_of_ble_eq_true rfl⟩ rfl rfl hl.1 (Nat.le_of_ble_eq_true rfl) dX7_doOne_124 ⟨Nat.zero_le _, Nat.zero_le _⟩ (fun H locs hR => ?_)
    refine lv_iconst (v := (-1)) hx hb dX7_doOne_127 (by decide) ?_
    exact gr_i F hr hlk hK hR dX7_doOne_128 (rfl) (rfl)
  · refine lv_tableOut (x := nI 12) (tgt := 129) hx hb dX7_doOne_1 (by decide) (by decide) ?_
    refine lv_aload_n hx hb dX7_doOne_129 rfl (lv_at hl 0 rfl) ?_
    refine rg_8 F hK hR dX7_doOne_130 ?_
    refine lv_iload_n hx hb dX7_doOne_133 rfl (lv_at hl 1 rfl) ?_
    refine lv_iconst (v := nI 0) hx hb dX7_doOne_134 (by decide) ?_
    refine rs_8 F hK hR (by omega) dX7_doOne_135 (fun H locs hR => ?_)
    refine lv_iconst (v := (-1)) hx hb dX7_doOne_136 (by decide) ?_
    exact gr_i F hr hlk hK hR dX7_doOne_137 (rfl) (rfl)
set_option maxHeartbeats 4000000 in
set_option maxRecDepth 100000 in
/-- again() -/
theorem c_X7_again (l : Launch) (G : gw_G) (A : Nat → Prop) (adr : Nat → Nat) (S X : Nat → Nat → Int32) (n : Nat) (hn0 : S 0 0 = nI n) (hn : n ≤ 12) : gm l yX7_again cX7_again 4 (some .int) (rmL 1) 0 0 A [.ref (adr 0)] (gW G A adr (rcel G adr S X)) (gW G A adr (rcel G adr (sp_agS S n) X)) (some (.int (sp_agN S n))) := by
  refine gm_of (own := RX7) (by decide) rfl (Nat.le_of_ble_eq_true rfl) ?_
  intro p e s m below meth c ls F hml hr hlk hnm hK hR hl
  have hx := F.1
  have hb := F.2.1
  have hl : lv_has ls 4 [(0, .ref (adr 0))] := hl
  refine lv_iconst (v := nI 0) hx hb dX7_again_0 (by decide) ?_
  refine lv_istore_n (lv' := [(1, .int (nI 0)), (0, .ref (adr 0))]) hx hb dX7_again_1 rfl hl (by decide) rfl (fun ls hl => ?_)
  refine lv_iconst (v := nI 0) hx hb dX7_again_2 (by decide) ?_
  refine lv_istore_n (lv' := [(2, .int (nI 0)), (1, .int (nI 0)), (0, .ref (adr 0))]) hx hb dX7_again_3 rfl hl (by decide) rfl (fun ls hl => ?_)
  refine lp_gen hR (fun H locs hR => ?_)
  obtain ⟨k, hk⟩ : ∃ k, k = 0 := ⟨_, rfl⟩
  replace hl : lv_has ls 4 [(2, .int (nI k)), (1, .int (sp_agN S k)), (0, .ref (adr 0))] := by rw [hk]; exact lv_sub hl [0, 1, 2] rfl
  replace hR : rB G A adr (sp_agS S k) X s.heap H locs := by rw [hk]; exact hR
  have hkf : k ≤ n := by omega
  clear hk
  generalize hd : n - k = d
  induction d generalizing k ls H locs with
  | zero =>
    refine lv_iload_n hx hb dX7_again_4 rfl (lv_at hl 0 rfl) ?_
    refine lv_aload_n hx hb dX7_again_5 rfl (lv_at hl 2 rfl) ?_
    refine rg_0 F hK hR dX7_again_6 ?_
    refine lv_eq ((congrFun (sp_agS_ne (k := k) (by decide) (by decide) (by decide)) 0).trans hn0) ?_
    refine nv_icmp_ge (by omega) (by omega) hx hb dX7_again_9 (tgt := 69) (by decide) (fun c_9 => ?_) (fun c_9 => absurd c_9 (by omega))
    have hkk : k = n := by omega
    refine lv_iload_n hx hb dX7_again_69 rfl (lv_at hl 1 rfl) ?_
    exact gr_i F hr hlk hK hR dX7_again_70 (by rw [hkk]) (by rw [hkk])
  | succ d ih =>
    refine lv_iload_n hx hb dX7_again_4 rfl (lv_at hl 0 rfl) ?_
    refine lv_aload_n hx hb dX7_again_5 rfl (lv_at hl 2 rfl) ?_
    refine rg_0 F hK hR dX7_again_6 ?_
    refine lv_eq ((congrFun (sp_agS_ne (k := k) (by decide) (by decide) (by decide)) 0).trans hn0) ?_
    refine nv_icmp_ge (by omega) (by omega) hx hb dX7_again_9 (tgt := 69) (by decide) (fun c_9 => absurd c_9 (by omega)) (fun c_9 => ?_)
    refine lv_iload_n hx hb dX7_again_12 rfl (lv_at hl 1 rfl) ?_
    refine lv_aload_n hx hb dX7_again_13 rfl (lv_at hl 2 rfl) ?_
    refine rg_12 F hK hR dX7_again_14 ?_
    refine lv_iload_n hx hb dX7_again_17 rfl (lv_at hl 0 rfl) ?_
    refine ri_12 F hK hR (by omega) dX7_again_18 ?_
    refine lv_if_eq (tgt := 26) hx hb dX7_again_19 (by decide) (fun c_19 => ?_) (fun c_19 => ?_)
    · refine lv_iconst (v := nI 0) hx hb dX7_again_26 (by decide) ?_
      refine lv_iadd hx hb dX7_again_27 ?_
      refine lv_istore_n (lv' := [(1, .int ((sp_agN S k) + (nI 0))), (2, .int (nI k)), (0, .ref (adr 0))]) hx hb dX7_again_28 rfl hl (by decide) rfl (fun ls hl => ?_)
      refine lv_aload_n hx hb dX7_again_29 rfl (lv_at hl 2 rfl) ?_
      refine rg_12 F hK hR dX7_again_30 ?_
      refine lv_iload_n hx hb dX7_again_33 rfl (lv_at hl 1 rfl) ?_
      refine lv_iconst (v := nI 0) hx hb dX7_again_34 (by decide) ?_
      refine rs_12 F hK hR (by omega) dX7_again_35 (fun H locs hR => ?_)
      refine lv_aload_n hx hb dX7_again_36 rfl (lv_at hl 2 rfl) ?_
      refine rg_8 F hK hR dX7_again_37 ?_
      refine lv_iload_n hx hb dX7_again_40 rfl (lv_at hl 1 rfl) ?_
      refine lv_iconst (v := nI 0) hx hb dX7_again_41 (by decide) ?_
      refine rs_8 F hK hR (by omega) dX7_again_42 (fun H locs hR => ?_)
      refine lv_iconst (v := nI 0) hx hb dX7_again_43 (by decide) ?_
      refine lv_istore_n (lv' := [(3, .int (nI 0)), (1, .int ((sp_agN S k) + (nI 0))), (2, .int (nI k)), (0, .ref (adr 0))]) hx hb dX7_again_44 rfl hl (by decide) rfl (fun ls hl => ?_)
      refine lv_iload_n hx hb dX7_again_45 rfl (lv_at hl 0 rfl) ?_
      refine lv_iconst (v := nI 4) hx hb dX7_again_46 (by decide) ?_
      refine nv_icmp_ge (by omega) (by omega) hx hb dX7_again_47 (tgt := 63) (by decide) (fun c_47 => absurd c_47 (by omega)) (fun c_47 => ?_)
      refine lv_aload_n hx hb dX7_again_50 rfl (lv_at hl 3 rfl) ?_
      refine lv_iload_n hx hb dX7_again_51 rfl (lv_at hl 2 rfl) ?_
      refine lv_iload_n hx hb dX7_again_52 rfl (lv_at hl 0 rfl) ?_
      refine lv_iconst (v := nI 0) hx hb dX7_again_53 (by decide) ?_
      refine gcVv (As := [.int (nI k), .int (nI 0), .int (nI 0)]) F hK hR hml cv_X7_156 (o := 0) rfl rfl rfl (c_X7_set l G A adr (m2 (m2 (sp_agS S k) 12 k (nI 0)) 8 k (nI 0)) X k 0 (nI 0) (by omega) (by omega)) ⟨rfl, rfl⟩ ⟨Nat.le_of_ble_eq_true rfl, Nat.le_of_ble_eq_true rfl⟩ rfl rfl hl.1 (Nat.le_of_ble_eq_true rfl) dX7_again_54 ⟨Nat.zero_le _, Nat.zero_le _⟩ (fun H locs hR => ?_)
      refine lv_iinc (v := nI 1) (lv' := [(3, .int (nI 1)), (1, .int ((sp_agN S k) + (nI 0))), (2, .int (nI k)), (0, .ref (adr 0))]) hx hb dX7_again_57 hl (k := 0) rfl (nI_add _ _) (by decide) rfl (fun ls hl => ?_)
      refine lv_goto (tgt := 45) hx hb dX7_again_60 (by decide) ?_
      refine lv_iload_n hx hb dX7_again_45 rfl (lv_at hl 0 rfl) ?_
      refine lv_iconst (v := nI 4) hx hb dX7_again_46 (by decide) ?_
      refine nv_icmp_ge (by omega) (by omega) hx hb dX7_again_47 (tgt := 63) (by decide) (fun c_47 => absurd c_47 (by omega)) (fun c_47 => ?_)
      refine lv_aload_n hx hb dX7_again_50 rfl (lv_at hl 3 rfl) ?_
      refine lv_iload_n hx hb dX7_again_51 rfl (lv_at hl 2 rfl) ?_
      refine lv_iload_n hx hb dX7_again_52 rfl (lv_at hl 0 rfl) ?_
      refine lv_iconst (v := nI 0) hx hb dX7_again_53 (by decide) ?_
      refine gcVv (As := [.int (nI k), .int (nI 1), .int (nI 0)]) F hK hR hml cv_X7_156 (o := 0) rfl rfl rfl (c_X7_set l G A adr (sp_set (m2 (m2 (sp_agS S k) 12 k (nI 0)) 8 k (nI 0)) k 0 (nI 0)) X k 1 (nI 0) (by omega) (by omega)) ⟨rfl, rfl⟩ ⟨Nat.le_of_ble_eq_true rfl, Nat.le_of_ble_eq_true rfl⟩ rfl rfl hl.1 (Nat.le_of_ble_eq_true rfl) dX7_again_54 ⟨Nat.zero_le _, Nat.zero_le _⟩ (fun H locs hR => ?_)
      refine lv_iinc (v := nI 2) (lv' := [(3, .int (nI 2)), (1, .int ((sp_agN S k) + (nI 0))), (2, .int (nI k)), (0, .ref (adr 0))]) hx hb dX7_again_57 hl (k := 0) rfl (nI_add _ _) (by decide) rfl (fun ls hl => ?_)
      refine lv_goto (tgt := 45) hx hb dX7_again_60 (by decide) ?_
      refine lv_iload_n hx hb dX7_again_45 rfl (lv_at hl 0 rfl) ?_
      refine lv_iconst (v := nI 4) hx hb dX7_again_46 (by decide) ?_
      refine nv_icmp_ge (by omega) (by omega) hx hb dX7_again_47 (tgt := 63) (by decide) (fun c_47 => absurd c_47 (by omega)) (fun c_47 => ?_)
      refine lv_aload_n hx hb dX7_again_50 rfl (lv_at hl 3 rfl) ?_
      refine lv_iload_n hx hb dX7_again_51 rfl (lv_at hl 2 rfl) ?_
      refine lv_iload_n hx hb dX7_again_52 rfl (lv_at hl 0 rfl) ?_
      refine lv_iconst (v := nI 0) hx hb dX7_again_53 (by decide) ?_
      refine gcVv (As := [.int (nI k), .int (nI 2), .int (nI 0)]) F hK hR hml cv_X7_156 (o := 0) rfl rfl rfl (c_X7_set l G A adr (sp_set (sp_set (m2 (m2 (sp_agS S k) 12 k (nI 0)) 8 k (nI 0)) k 0 (nI 0)) k 1 (nI 0)) X k 2 (nI 0) (by omega) (by omega)) ⟨rfl, rfl⟩ ⟨Nat.le_of_ble_eq_true rfl, Nat.le_of_ble_eq_true rfl⟩ rfl rfl hl.1 (Nat.le_of_ble_eq_true rfl) dX7_again_54 ⟨Nat.zero_le _, Nat.zero_le _⟩ (fun H locs hR => ?_)
      refine lv_iinc (v := nI 3) (lv' := [(3, .int (nI 3)), (1, .int ((sp_agN S k) + (nI 0))), (2, .int (nI k)), (0, .ref (adr 0))]) hx hb dX7_again_57 hl (k := 0) rfl (nI_add _ _) (by decide) rfl (fun ls hl => ?_)
      refine lv_goto (tgt := 45) hx hb dX7_again_60 (by decide) ?_
      refine lv_iload_n hx hb dX7_again_45 rfl (lv_at hl 0 rfl) ?_
      refine lv_iconst (v := nI 4) hx hb dX7_again_46 (by decide) ?_
      refine nv_icmp_ge (by omega) (by omega) hx hb dX7_again_47 (tgt := 63) (by decide) (fun c_47 => absurd c_47 (by omega)) (fun c_47 => ?_)
      refine lv_aload_n hx hb dX7_again_50 rfl (lv_at hl 3 rfl) ?_
      refine lv_iload_n hx hb dX7_again_51 rfl (lv_at hl 2 rfl) ?_
      refine lv_iload_n hx hb dX7_again_52 rfl (lv_at hl 0 rfl) ?_
      refine lv_iconst (v := nI 0) hx hb dX7_again_53 (by decide) ?_
      refine gcVv (As := [.int (nI k), .int (nI 3), .int (nI 0)]) F hK hR hml cv_X7_156 (o := 0) rfl rfl rfl (c_X7_set l G A adr (sp_set (sp_set (sp_set (m2 (m2 (sp_agS S k) 12 k (nI 0)) 8 k (nI 0)) k 0 (nI 0)) k 1 (nI 0)) k 2 (nI 0)) X k 3 (nI 0) (by omega) (by omega)) ⟨rfl, rfl⟩ ⟨Nat.le_of_ble_eq_true rfl, Nat.le_of_ble_eq_true rfl⟩ rfl rfl hl.1 (Nat.le_of_ble_eq_true rfl) dX7_again_54 ⟨Nat.zero_le _, Nat.zero_le _⟩ (fun H locs hR => ?_)
      refine lv_iinc (v := nI 4) (lv' := [(3, .int (nI 4)), (1, .int ((sp_agN S k) + (nI 0))), (2, .int (nI k)), (0, .ref (adr 0))]) hx hb dX7_again_57 hl (k := 0) rfl (nI_add _ _) (by decide) rfl (fun ls hl => ?_)
      refine lv_goto (tgt := 45) hx hb dX7_again_60 (by decide) ?_
      refine lv_iload_n hx hb dX7_again_45 rfl (lv_at hl 0 rfl) ?_
      refine lv_iconst (v := nI 4) hx hb dX7_again_46 (by decide) ?_
      refine nv_icmp_ge (by omega) (by omega) hx hb dX7_again_47 (tgt := 63) (by decide) (fun c_47 => ?_) (fun c_47 => absurd c_47 (by omega))
      refine lv_iinc (v := nI (k + 1)) (lv' := [(2, .int (nI (k + 1))), (3, .int (nI 4)), (1, .int ((sp_agN S k) + (nI 0))), (0, .ref (adr 0))]) hx hb dX7_again_63 hl (k := 2) rfl (nI_add _ _) (by decide) rfl (fun ls hl => ?_)
      refine lv_goto (tgt := 4) hx hb dX7_again_66 (by decide) ?_
      have q : (sp_agN S k) + (nI 0) = sp_agN S (k + 1) := by rw [sp_agN]; repeat (first | rw [if_pos c_9] | rw [if_neg c_9] | rw [if_neg (not_not_intro c_9)] | rw [if_pos c_19] | rw [if_neg c_19] | rw [if_neg (not_not_intro c_19)] | rw [if_pos c_47] | rw [if_neg c_47] | rw [if_neg (not_not_intro c_47)] | rw [if_pos c_47] | rw [if_neg c_47] | rw [if_neg (not_not_intro c_47)] | rw [if_pos c_47] | rw [if_neg c_47] | rw [if_neg (not_not_intro c_47)] | rw [if_pos c_47] | rw [if_neg c_47] | rw [if_neg (not_not_intro c_47)] | rw [if_pos c_47] | rw [if_neg c_47] | rw [if_neg (not_not_intro c_47)])
      have hl2 : lv_has ls 4 [(2, .int (nI (k + 1))), (1, .int (sp_agN S (k + 1))), (0, .ref (adr 0))] := by rw [← q]; exact lv_sub hl [0, 2, 3] rfl
      exact ih _ _ _ _ hl2 hR (by omega) (by omega)
    · refine lv_iconst (v := nI 1) hx hb dX7_again_22 (by decide) ?_
      refine lv_goto (tgt := 27) hx hb dX7_again_23 (by decide) ?_
      refine lv_iadd hx hb dX7_again_27 ?_
      refine lv_istore_n (lv' := [(1, .int ((sp_agN S k) + (nI 1))), (2, .int (nI k)), (0, .ref (adr 0))]) hx hb dX7_again_28 rfl hl (by decide) rfl (fun ls hl => ?_)
      refine lv_aload_n hx hb dX7_again_29 rfl (lv_at hl 2 rfl) ?_
      refine rg_12 F hK hR dX7_again_30 ?_
      refine lv_iload_n hx hb dX7_again_33 rfl (lv_at hl 1 rfl) ?_
      refine lv_iconst (v := nI 0) hx hb dX7_again_34 (by decide) ?_
      refine rs_12 F hK hR (by omega) dX7_again_35 (fun H locs hR => ?_)
      refine lv_aload_n hx hb dX7_again_36 rfl (lv_at hl 2 rfl) ?_
      refine rg_8 F hK hR dX7_again_37 ?_
      refine lv_iload_n hx hb dX7_again_40 rfl (lv_at hl 1 rfl) ?_
      refine lv_iconst (v := nI 0) hx hb dX7_again_41 (by decide) ?_
      refine rs_8 F hK hR (by omega) dX7_again_42 (fun H locs hR => ?_)
      refine lv_iconst (v := nI 0) hx hb dX7_again_43 (by decide) ?_
      refine lv_istore_n (lv' := [(3, .int (nI 0)), (1, .int ((sp_agN S k) + (nI 1))), (2, .int (nI k)), (0, .ref (adr 0))]) hx hb dX7_again_44 rfl hl (by decide) rfl (fun ls hl => ?_)
      refine lv_iload_n hx hb dX7_again_45 rfl (lv_at hl 0 rfl) ?_
      refine lv_iconst (v := nI 4) hx hb dX7_again_46 (by decide) ?_
      refine nv_icmp_ge (by omega) (by omega) hx hb dX7_again_47 (tgt := 63) (by decide) (fun c_47 => absurd c_47 (by omega)) (fun c_47 => ?_)
      refine lv_aload_n hx hb dX7_again_50 rfl (lv_at hl 3 rfl) ?_
      refine lv_iload_n hx hb dX7_again_51 rfl (lv_at hl 2 rfl) ?_
      refine lv_iload_n hx hb dX7_again_52 rfl (lv_at hl 0 rfl) ?_
      refine lv_iconst (v := nI 0) hx hb dX7_again_53 (by decide) ?_
      refine gcVv (As := [.int (nI k), .int (nI 0), .int (nI 0)]) F hK hR hml cv_X7_156 (o := 0) rfl rfl rfl (c_X7_set l G A adr (m2 (m2 (sp_agS S k) 12 k (nI 0)) 8 k (nI 0)) X k 0 (nI 0) (by omega) (by omega)) ⟨rfl, rfl⟩ ⟨Nat.le_of_ble_eq_true rfl, Nat.le_of_ble_eq_true rfl⟩ rfl rfl hl.1 (Nat.le_of_ble_eq_true rfl) dX7_again_54 ⟨Nat.zero_le _, Nat.zero_le _⟩ (fun H locs hR => ?_)
      refine lv_iinc (v := nI 1) (lv' := [(3, .int (nI 1)), (1, .int ((sp_agN S k) + (nI 1))), (2, .int (nI k)), (0, .ref (adr 0))]) hx hb dX7_again_57 hl (k := 0) rfl (nI_add _ _) (by decide) rfl (fun ls hl => ?_)
      refine lv_goto (tgt := 45) hx hb dX7_again_60 (by decide) ?_
      refine lv_iload_n hx hb dX7_again_45 rfl (lv_at hl 0 rfl) ?_
      refine lv_iconst (v := nI 4) hx hb dX7_again_46 (by decide) ?_
      refine nv_icmp_ge (by omega) (by omega) hx hb dX7_again_47 (tgt := 63) (by decide) (fun c_47 => absurd c_47 (by omega)) (fun c_47 => ?_)
      refine lv_aload_n hx hb dX7_again_50 rfl (lv_at hl 3 rfl) ?_
      refine lv_iload_n hx hb dX7_again_51 rfl (lv_at hl 2 rfl) ?_
      refine lv_iload_n hx hb dX7_again_52 rfl (lv_at hl 0 rfl) ?_
      refine lv_iconst (v := nI 0) hx hb dX7_again_53 (by decide) ?_
      refine gcVv (As := [.int (nI k), .int (nI 1), .int (nI 0)]) F hK hR hml cv_X7_156 (o := 0) rfl rfl rfl (c_X7_set l G A adr (sp_set (m2 (m2 (sp_agS S k) 12 k (nI 0)) 8 k (nI 0)) k 0 (nI 0)) X k 1 (nI 0) (by omega) (by omega)) ⟨rfl, rfl⟩ ⟨Nat.le_of_ble_eq_true rfl, Nat.le_of_ble_eq_true rfl⟩ rfl rfl hl.1 (Nat.le_of_ble_eq_true rfl) dX7_again_54 ⟨Nat.zero_le _, Nat.zero_le _⟩ (fun H locs hR => ?_)
      refine lv_iinc (v := nI 2) (lv' := [(3, .int (nI 2)), (1, .int ((sp_agN S k) + (nI 1))), (2, .int (nI k)), (0, .ref (adr 0))]) hx hb dX7_again_57 hl (k := 0) rfl (nI_add _ _) (by decide) rfl (fun ls hl => ?_)
      refine lv_goto (tgt := 45) hx hb dX7_again_60 (by decide) ?_
      refine lv_iload_n hx hb dX7_again_45 rfl (lv_at hl 0 rfl) ?_
      refine lv_iconst (v := nI 4) hx hb dX7_again_46 (by decide) ?_
      refine nv_icmp_ge (by omega) (by omega) hx hb dX7_again_47 (tgt := 63) (by decide) (fun c_47 => absurd c_47 (by omega)) (fun c_47 => ?_)
      refine lv_aload_n hx hb dX7_again_50 rfl (lv_at hl 3 rfl) ?_
      refine lv_iload_n hx hb dX7_again_51 rfl (lv_at hl 2 rfl) ?_
      refine lv_iload_n hx hb dX7_again_52 rfl (lv_at hl 0 rfl) ?_
      refine lv_iconst (v := nI 0) hx hb dX7_again_53 (by decide) ?_
      refine gcVv (As := [.int (nI k), .int (nI 2), .int (nI 0)]) F hK hR hml cv_X7_156 (o := 0) rfl rfl rfl (c_X7_set l G A adr (sp_set (sp_set (m2 (m2 (sp_agS S k) 12 k (nI 0)) 8 k (nI 0)) k 0 (nI 0)) k 1 (nI 0)) X k 2 (nI 0) (by omega) (by omega)) ⟨rfl, rfl⟩ ⟨Nat.le_of_ble_eq_true rfl, Nat.le_of_ble_eq_true rfl⟩ rfl rfl hl.1 (Nat.le_of_ble_eq_true rfl) dX7_again_54 ⟨Nat.zero_le _, Nat.zero_le _⟩ (fun H locs hR => ?_)
      refine lv_iinc (v := nI 3) (lv' := [(3, .int (nI 3)), (1, .int ((sp_agN S k) + (nI 1))), (2, .int (nI k)), (0, .ref (adr 0))]) hx hb dX7_again_57 hl (k := 0) rfl (nI_add _ _) (by decide) rfl (fun ls hl => ?_)
      refine lv_goto (tgt := 45) hx hb dX7_again_60 (by decide) ?_
      refine lv_iload_n hx hb dX7_again_45 rfl (lv_at hl 0 rfl) ?_
      refine lv_iconst (v := nI 4) hx hb dX7_again_46 (by decide) ?_
      refine nv_icmp_ge (by omega) (by omega) hx hb dX7_again_47 (tgt := 63) (by decide) (fun c_47 => absurd c_47 (by omega)) (fun c_47 => ?_)
      refine lv_aload_n hx hb dX7_again_50 rfl (lv_at hl 3 rfl) ?_
      refine lv_iload_n hx hb dX7_again_51 rfl (lv_at hl 2 rfl) ?_
      refine lv_iload_n hx hb dX7_again_52 rfl (lv_at hl 0 rfl) ?_
      refine lv_iconst (v := nI 0) hx hb dX7_again_53 (by decide) ?_
      refine gcVv (As := [.int (nI k), .int (nI 3), .int (nI 0)]) F hK hR hml cv_X7_156 (o := 0) rfl rfl rfl (c_X7_set l G A adr (sp_set (sp_set (sp_set (m2 (m2 (sp_agS S k) 12 k (nI 0)) 8 k (nI 0)) k 0 (nI 0)) k 1 (nI 0)) k 2 (nI 0)) X k 3 (nI 0) (by omega) (by omega)) ⟨rfl, rfl⟩ ⟨Nat.le_of_ble_eq_true rfl, Nat.le_of_ble_eq_true rfl⟩ rfl rfl hl.1 (Nat.le_of_ble_eq_true rfl) dX7_again_54 ⟨Nat.zero_le _, Nat.zero_le _⟩ (fun H locs hR => ?_)
      refine lv_iinc (v := nI 4) (lv' := [(3, .int (nI 4)), (1, .int ((sp_agN S k) + (nI 1))), (2, .int (nI k)), (0, .ref (adr 0))]) hx hb dX7_again_57 hl (k := 0) rfl (nI_add _ _) (by decide) rfl (fun ls hl => ?_)
      refine lv_goto (tgt := 45) hx hb dX7_again_60 (by decide) ?_
      refine lv_iload_n hx hb dX7_again_45 rfl (lv_at hl 0 rfl) ?_
      refine lv_iconst (v := nI 4) hx hb dX7_again_46 (by decide) ?_
      refine nv_icmp_ge (by omega) (by omega) hx hb dX7_again_47 (tgt := 63) (by decide) (fun c_47 => ?_) (fun c_47 => absurd c_47 (by omega))
      refine lv_iinc (v := nI (k + 1)) (lv' := [(2, .int (nI (k + 1))), (3, .int (nI 4)), (1, .int ((sp_agN S k) + (nI 1))), (0, .ref (adr 0))]) hx hb dX7_again_63 hl (k := 2) rfl (nI_add _ _) (by decide) rfl (fun ls hl => ?_)
      refine lv_goto (tgt := 4) hx hb dX7_again_66 (by decide) ?_
      have q : (sp_agN S k) + (nI 1) = sp_agN S (k + 1) := by rw [sp_agN]; repeat (first | rw [if_pos c_9] | rw [if_neg c_9] | rw [if_neg (not_not_intro c_9)] | rw [if_pos c_19] | rw [if_neg c_19] | rw [if_neg (not_not_intro c_19)] | rw [if_pos c_47] | rw [if_neg c_47] | rw [if_neg (not_not_intro c_47)] | rw [if_pos c_47] | rw [if_neg c_47] | rw [if_neg (not_not_intro c_47)] | rw [if_pos c_47] | rw [if_neg c_47] | rw [if_neg (not_not_intro c_47)] | rw [if_pos c_47] | rw [if_neg c_47] | rw [if_neg (not_not_intro c_47)] | rw [if_pos c_47] | rw [if_neg c_47] | rw [if_neg (not_not_intro c_47)])
      have hl2 : lv_has ls 4 [(2, .int (nI (k + 1))), (1, .int (sp_agN S (k + 1))), (0, .ref (adr 0))] := by rw [← q]; exact lv_sub hl [0, 2, 3] rfl
      exact ih _ _ _ _ hl2 hR (by omega) (by omega)
end
section
/-! THE REFERENCE, 5: its machine, case by case -/
theorem m2_id {M : Nat → Nat → Int32} {k i : Nat} {x : Int32} (h : M k i = x) : m2 M k i x = M := by
  funext a b
  by_cases ha : a = k
  · subst ha
    by_cases hb : b = i
    · subst hb
      rw [m2_at, h]
    · rw [m2_o hb]
  · rw [m2_nk ha]
theorem m2_tw {M : Nat → Nat → Int32} {k i : Nat} {x y : Int32} : m2 (m2 M k i x) k i y = m2 M k i y := by
  funext a b
  by_cases ha : a = k
  · subst ha
    by_cases hb : b = i
    · subst hb
      rw [m2_at, m2_at]
    · rw [m2_o hb, m2_o hb, m2_o hb]
  · rw [m2_nk ha, m2_nk ha, m2_nk ha]
theorem nI_m1 {a : Nat} (h : a < 2 ^ 31) : ¬ nI a = -1 := by
  intro q
  have := congrArg Int32.toInt q
  rw [nI_toInt h] at this
  have e : (-1 : Int32).toInt = -1 := rfl
  omega
/-- whether the guard g of the frame f catches w -/
def rf_cat (X : Nat → Nat → Int32) (f g : Nat) (w : Int32) : Prop := ¬ w = nI 10 ∧ (X 30 (10 * f + g) = -1 ∨ X 30 (10 * f + g) = w)
theorem cat_1 {X : Nat → Nat → Int32} {f g : Nat} {w : Int32} (h1 : ¬ w = nI 10) (h2 : X 30 (10 * f + g) = -1) : rf_cat X f g w := ⟨h1, Or.inl h2⟩
theorem cat_2 {X : Nat → Nat → Int32} {f g : Nat} {w : Int32} (h1 : ¬ w = nI 10) (h2 : X 30 (10 * f + g) = w) : rf_cat X f g w := ⟨h1, Or.inr h2⟩
set_option maxHeartbeats 4000000 in
set_option maxRecDepth 100000 in
/-- look: all faces done -/
theorem c_X7_lookE (l : Launch) (G : gw_G) (A : Nat → Prop) (adr : Nat → Nat) (S X : Nat → Nat → Int32) (f x i : Nat) (hf0 : X 22 0 = nI (f + 1)) (hf : f + 1 < 300) (hxx : x < 12) (h25 : X 25 f = nI i) (hi : i ≤ 3) (hfc : S 4 x = nI i) : gm l yX7_look cX7_look 4 none (rmL 2) 0 0 A [.ref (adr 0), .int (nI f), .int (nI x)] (gW G A adr (rcel G adr S X)) (gW G A adr (rcel G adr S (m2 X 22 0 (nI f)))) none := by
  refine gm_of (own := RX7) (by decide) rfl (Nat.le_of_ble_eq_true rfl) ?_
  intro p e s m below meth c ls F hml hr hlk hnm hK hR hl
  have hx := F.1
  have hb := F.2.1
  have hl : lv_has ls 4 [(0, .ref (adr 0)), (1, .int (nI f)), (2, .int (nI x))] := hl
  refine lv_aload_n hx hb dX7_look_0 rfl (lv_at hl 0 rfl) ?_
  refine rg_25 F hK hR dX7_look_1 ?_
  refine lv_iload_n hx hb dX7_look_4 rfl (lv_at hl 1 rfl) ?_
  refine ri_25 F hK hR (by omega) dX7_look_5 ?_
  refine lv_eq (h25) ?_
  refine lv_aload_n hx hb dX7_look_6 rfl (lv_at hl 0 rfl) ?_
  refine rg_4 F hK hR dX7_look_7 ?_
  refine lv_iload_n hx hb dX7_look_10 rfl (lv_at hl 2 rfl) ?_
  refine ri_4 F hK hR (by omega) dX7_look_11 ?_
  refine lv_eq (hfc) ?_
  refine nv_icmp_ne (by omega) (by omega) hx hb dX7_look_12 (tgt := 26) (by decide) (fun c_12 => absurd c_12 (fun q => q rfl)) (fun c_12 => ?_)
  refine lv_aload_n hx hb dX7_look_15 rfl (lv_at hl 0 rfl) ?_
  refine lv_dup hx hb dX7_look_16 rfl ?_
  refine rg_22 F hK hR dX7_look_17 ?_
  refine lv_eq (hf0) ?_
  refine lv_iconst (v := nI 1) hx hb dX7_look_20 (by decide) ?_
  refine nv_isub (by omega) hx hb dX7_look_21 ?_
  refine rp_22 F hK hR dX7_look_22 (fun H locs hR => ?_)
  exact gr_v F hr hlk hK hR dX7_look_25 (rfl)
set_option maxHeartbeats 4000000 in
set_option maxRecDepth 100000 in
/-- look: into a face -/
theorem c_X7_lookD (l : Launch) (G : gw_G) (A : Nat → Prop) (adr : Nat → Nat) (S X : Nat → Nat → Int32) (f x i fc y : Nat) (hf0 : X 22 0 = nI (f + 1)) (hf : f + 1 < 300) (hxx : x < 12) (h25 : X 25 f = nI i) (hfc : S 4 x = nI fc) (hi : i < fc) (hfc3 : fc ≤ 3) (hy : S 5 (3 * x + i) = nI y) (hyy : y < 12) (h27 : X 27 f = nI 0) : gm l yX7_look cX7_look 4 none (rmL 2) 0 0 A [.ref (adr 0), .int (nI f), .int (nI x)] (gW G A adr (rcel G adr S X)) (gW G A adr (rcel G adr S (rf_push (m2 X 27 f (nI 1)) (f + 1) (nI 2) (nI y) (nI 0)))) none := by
  refine gm_of (own := RX7) (by decide) rfl (Nat.le_of_ble_eq_true rfl) ?_
  intro p e s m below meth c ls F hml hr hlk hnm hK hR hl
  have hx := F.1
  have hb := F.2.1
  have hl : lv_has ls 4 [(0, .ref (adr 0)), (1, .int (nI f)), (2, .int (nI x))] := hl
  refine lv_aload_n hx hb dX7_look_0 rfl (lv_at hl 0 rfl) ?_
  refine rg_25 F hK hR dX7_look_1 ?_
  refine lv_iload_n hx hb dX7_look_4 rfl (lv_at hl 1 rfl) ?_
  refine ri_25 F hK hR (by omega) dX7_look_5 ?_
  refine lv_eq (h25) ?_
  refine lv_aload_n hx hb dX7_look_6 rfl (lv_at hl 0 rfl) ?_
  refine rg_4 F hK hR dX7_look_7 ?_
  refine lv_iload_n hx hb dX7_look_10 rfl (lv_at hl 2 rfl) ?_
  refine ri_4 F hK hR (by omega) dX7_look_11 ?_
  refine lv_eq (hfc) ?_
  refine nv_icmp_ne (by omega) (by omega) hx hb dX7_look_12 (tgt := 26) (by decide) (fun c_12 => ?_) (fun c_12 => absurd c_12 (by omega))
  refine lv_aload_n hx hb dX7_look_26 rfl (lv_at hl 0 rfl) ?_
  refine rg_5 F hK hR dX7_look_27 ?_
  refine lv_iconst (v := nI 3) hx hb dX7_look_30 (by decide) ?_
  refine lv_iload_n hx hb dX7_look_31 rfl (lv_at hl 2 rfl) ?_
  refine nv_imul hx hb dX7_look_32 ?_
  refine lv_aload_n hx hb dX7_look_33 rfl (lv_at hl 0 rfl) ?_
  refine rg_25 F hK hR dX7_look_34 ?_
  refine lv_iload_n hx hb dX7_look_37 rfl (lv_at hl 1 rfl) ?_
  refine ri_25 F hK hR (by omega) dX7_look_38 ?_
  refine lv_eq (h25) ?_
  refine nv_iadd hx hb dX7_look_39 ?_
  refine ri_5 F hK hR (by omega) dX7_look_40 ?_
  refine lv_eq (hy) ?_
  refine lv_istore_n (lv' := [(3, .int (nI y)), (0, .ref (adr 0)), (1, .int (nI f)), (2, .int (nI x))]) hx hb dX7_look_41 rfl hl (by decide) rfl (fun ls hl => ?_)
  refine lv_aload_n hx hb dX7_look_42 rfl (lv_at hl 1 rfl) ?_
  refine rg_27 F hK hR dX7_look_43 ?_
  refine lv_iload_n hx hb dX7_look_46 rfl (lv_at hl 2 rfl) ?_
  refine lv_dup2_11 hx hb dX7_look_47 rfl rfl ?_
  refine ri_27 F hK hR (by omega) dX7_look_48 ?_
  refine lv_eq (h27) ?_
  refine lv_iconst (v := nI 1) hx hb dX7_look_49 (by decide) ?_
  refine nv_iadd hx hb dX7_look_50 ?_
  refine rs_27 F hK hR (by omega) dX7_look_51 (fun H locs hR => ?_)
  refine lv_aload_n hx hb dX7_look_52 rfl (lv_at hl 1 rfl) ?_
  refine rg_27 F hK hR dX7_look_53 ?_
  refine lv_iload_n hx hb dX7_look_56 rfl (lv_at hl 2 rfl) ?_
  refine ri_27 F hK hR (by omega) dX7_look_57 ?_
  refine lv_eq (m2_at) ?_
  refine lv_iconst (v := nI 1) hx hb dX7_look_58 (by decide) ?_
  refine nv_icmp_ne (by omega) (by omega) hx hb dX7_look_59 (tgt := 72) (by decide) (fun c_59 => absurd c_59 (by omega)) (fun c_59 => ?_)
  refine lv_aload_n hx hb dX7_look_62 rfl (lv_at hl 1 rfl) ?_
  refine lv_iconst (v := nI 2) hx hb dX7_look_63 (by decide) ?_
  refine lv_iload_n hx hb dX7_look_64 rfl (lv_at hl 0 rfl) ?_
  refine lv_iconst (v := nI 0) hx hb dX7_look_65 (by decide) ?_
  refine gcVv (As := [.int (nI 2), .int (nI y), .int (nI 0)]) F hK hR hml cv_X7_122 (o := 0) rfl rfl rfl (c_X7_push l G A adr S (m2 X 27 f (nI 1)) (f + 1) (nI 2) (nI y) (nI 0) ((m2_nk (by decide)).trans (hf0)) (by omega)) ⟨rfl, rfl⟩ ⟨Nat.le_of_ble_eq_true rfl, Nat.le_of_ble_eq_true rfl⟩ rfl rfl hl.1 (Nat.le_of_ble_eq_true rfl) dX7_look_66 ⟨Nat.zero_le _, Nat.zero_le _⟩ (fun H locs hR => ?_)
  refine lv_goto (tgt := 103) hx hb dX7_look_69 (by decide) ?_
  exact gr_v F hr hlk hK hR dX7_look_103 (rfl)
set_option maxHeartbeats 4000000 in
set_option maxRecDepth 100000 in
/-- look: a face without defaults -/
theorem c_X7_lookN (l : Launch) (G : gw_G) (A : Nat → Prop) (adr : Nat → Nat) (S X : Nat → Nat → Int32) (f x i fc y : Nat) (hf0 : X 22 0 = nI (f + 1)) (hf : f + 1 < 300) (hxx : x < 12) (h25 : X 25 f = nI i) (hfc : S 4 x = nI fc) (hi : i < fc) (hfc3 : fc ≤ 3) (hy : S 5 (3 * x + i) = nI y) (hyy : y < 12) (h27 : X 27 f = nI 1) (hd : S 2 y = 0) : gm l yX7_look cX7_look 4 none (rmL 2) 0 0 A [.ref (adr 0), .int (nI f), .int (nI x)] (gW G A adr (rcel G adr S X)) (gW G A adr (rcel G adr S (m2 (m2 (m2 X 27 f (nI 2)) 27 f (nI 0)) 25 f (nI (i + 1))))) none := by
  refine gm_of (own := RX7) (by decide) rfl (Nat.le_of_ble_eq_true rfl) ?_
  intro p e s m below meth c ls F hml hr hlk hnm hK hR hl
  have hx := F.1
  have hb := F.2.1
  have hl : lv_has ls 4 [(0, .ref (adr 0)), (1, .int (nI f)), (2, .int (nI x))] := hl
  refine lv_aload_n hx hb dX7_look_0 rfl (lv_at hl 0 rfl) ?_
  refine rg_25 F hK hR dX7_look_1 ?_
  refine lv_iload_n hx hb dX7_look_4 rfl (lv_at hl 1 rfl) ?_
  refine ri_25 F hK hR (by omega) dX7_look_5 ?_
  refine lv_eq (h25) ?_
  refine lv_aload_n hx hb dX7_look_6 rfl (lv_at hl 0 rfl) ?_
  refine rg_4 F hK hR dX7_look_7 ?_
  refine lv_iload_n hx hb dX7_look_10 rfl (lv_at hl 2 rfl) ?_
  refine ri_4 F hK hR (by omega) dX7_look_11 ?_
  refine lv_eq (hfc) ?_
  refine nv_icmp_ne (by omega) (by omega) hx hb dX7_look_12 (tgt := 26) (by decide) (fun c_12 => ?_) (fun c_12 => absurd c_12 (by omega))
  refine lv_aload_n hx hb dX7_look_26 rfl (lv_at hl 0 rfl) ?_
  refine rg_5 F hK hR dX7_look_27 ?_
  refine lv_iconst (v := nI 3) hx hb dX7_look_30 (by decide) ?_
  refine lv_iload_n hx hb dX7_look_31 rfl (lv_at hl 2 rfl) ?_
  refine nv_imul hx hb dX7_look_32 ?_
  refine lv_aload_n hx hb dX7_look_33 rfl (lv_at hl 0 rfl) ?_
  refine rg_25 F hK hR dX7_look_34 ?_
  refine lv_iload_n hx hb dX7_look_37 rfl (lv_at hl 1 rfl) ?_
  refine ri_25 F hK hR (by omega) dX7_look_38 ?_
  refine lv_eq (h25) ?_
  refine nv_iadd hx hb dX7_look_39 ?_
  refine ri_5 F hK hR (by omega) dX7_look_40 ?_
  refine lv_eq (hy) ?_
  refine lv_istore_n (lv' := [(3, .int (nI y)), (0, .ref (adr 0)), (1, .int (nI f)), (2, .int (nI x))]) hx hb dX7_look_41 rfl hl (by decide) rfl (fun ls hl => ?_)
  refine lv_aload_n hx hb dX7_look_42 rfl (lv_at hl 1 rfl) ?_
  refine rg_27 F hK hR dX7_look_43 ?_
  refine lv_iload_n hx hb dX7_look_46 rfl (lv_at hl 2 rfl) ?_
  refine lv_dup2_11 hx hb dX7_look_47 rfl rfl ?_
  refine ri_27 F hK hR (by omega) dX7_look_48 ?_
  refine lv_eq (h27) ?_
  refine lv_iconst (v := nI 1) hx hb dX7_look_49 (by decide) ?_
  refine nv_iadd hx hb dX7_look_50 ?_
  refine rs_27 F hK hR (by omega) dX7_look_51 (fun H locs hR => ?_)
  refine lv_aload_n hx hb dX7_look_52 rfl (lv_at hl 1 rfl) ?_
  refine rg_27 F hK hR dX7_look_53 ?_
  refine lv_iload_n hx hb dX7_look_56 rfl (lv_at hl 2 rfl) ?_
  refine ri_27 F hK hR (by omega) dX7_look_57 ?_
  refine lv_eq (m2_at) ?_
  refine lv_iconst (v := nI 1) hx hb dX7_look_58 (by decide) ?_
  refine nv_icmp_ne (by omega) (by omega) hx hb dX7_look_59 (tgt := 72) (by decide) (fun c_59 => ?_) (fun c_59 => absurd c_59 (by omega))
  refine lv_aload_n hx hb dX7_look_72 rfl (lv_at hl 1 rfl) ?_
  refine rg_27 F hK hR dX7_look_73 ?_
  refine lv_iload_n hx hb dX7_look_76 rfl (lv_at hl 2 rfl) ?_
  refine lv_iconst (v := nI 0) hx hb dX7_look_77 (by decide) ?_
  refine rs_27 F hK hR (by omega) dX7_look_78 (fun H locs hR => ?_)
  refine lv_aload_n hx hb dX7_look_79 rfl (lv_at hl 1 rfl) ?_
  refine rg_25 F hK hR dX7_look_80 ?_
  refine lv_iload_n hx hb dX7_look_83 rfl (lv_at hl 2 rfl) ?_
  refine lv_dup2_11 hx hb dX7_look_84 rfl rfl ?_
  refine ri_25 F hK hR (by omega) dX7_look_85 ?_
  refine lv_eq (((m2_nk (by decide)).trans (m2_nk (by decide))).trans (h25)) ?_
  refine lv_iconst (v := nI 1) hx hb dX7_look_86 (by decide) ?_
  refine nv_iadd hx hb dX7_look_87 ?_
  refine rs_25 F hK hR (by omega) dX7_look_88 (fun H locs hR => ?_)
  refine lv_aload_n hx hb dX7_look_89 rfl (lv_at hl 1 rfl) ?_
  refine rg_2 F hK hR dX7_look_90 ?_
  refine lv_iload_n hx hb dX7_look_93 rfl (lv_at hl 0 rfl) ?_
  refine ri_2 F hK hR (by omega) dX7_look_94 ?_
  refine lv_if_eq (tgt := 103) hx hb dX7_look_95 (by decide) (fun c_95 => ?_) (fun c_95 => absurd hd c_95)
  exact gr_v F hr hlk hK hR dX7_look_103 (rfl)
set_option maxHeartbeats 4000000 in
set_option maxRecDepth 100000 in
/-- look: a face with defaults -/
theorem c_X7_lookW (l : Launch) (G : gw_G) (A : Nat → Prop) (adr : Nat → Nat) (S X : Nat → Nat → Int32) (f x i fc y ev : Nat) (hf0 : X 22 0 = nI (f + 1)) (hf : f + 1 < 300) (hxx : x < 12) (h25 : X 25 f = nI i) (hfc : S 4 x = nI fc) (hi : i < fc) (hfc3 : fc ≤ 3) (hy : S 5 (3 * x + i) = nI y) (hyy : y < 12) (h27 : X 27 f = nI 1) (hd : ¬ S 2 y = 0) (hev : S 13 0 = nI ev) (he : ev ≤ 60) : gm l yX7_look cX7_look 4 none (rmL 2) 0 0 A [.ref (adr 0), .int (nI f), .int (nI x)] (gW G A adr (rcel G adr S X)) (gW G A adr (rcel G adr (rf_wantS S ev y) (rf_wantX S (m2 (m2 (m2 X 27 f (nI 2)) 27 f (nI 0)) 25 f (nI (i + 1))) (f + 1) y))) none := by
  refine gm_of (own := RX7) (by decide) rfl (Nat.le_of_ble_eq_true rfl) ?_
  intro p e s m below meth c ls F hml hr hlk hnm hK hR hl
  have hx := F.1
  have hb := F.2.1
  have hl : lv_has ls 4 [(0, .ref (adr 0)), (1, .int (nI f)), (2, .int (nI x))] := hl
  refine lv_aload_n hx hb dX7_look_0 rfl (lv_at hl 0 rfl) ?_
  refine rg_25 F hK hR dX7_look_1 ?_
  refine lv_iload_n hx hb dX7_look_4 rfl (lv_at hl 1 rfl) ?_
  refine ri_25 F hK hR (by omega) dX7_look_5 ?_
  refine lv_eq (h25) ?_
  refine lv_aload_n hx hb dX7_look_6 rfl (lv_at hl 0 rfl) ?_
  refine rg_4 F hK hR dX7_look_7 ?_
  refine lv_iload_n hx hb dX7_look_10 rfl (lv_at hl 2 rfl) ?_
  refine ri_4 F hK hR (by omega) dX7_look_11 ?_
  refine lv_eq (hfc) ?_
  refine nv_icmp_ne (by omega) (by omega) hx hb dX7_look_12 (tgt := 26) (by decide) (fun c_12 => ?_) (fun c_12 => absurd c_12 (by omega))
  refine lv_aload_n hx hb dX7_look_26 rfl (lv_at hl 0 rfl) ?_
  refine rg_5 F hK hR dX7_look_27 ?_
  refine lv_iconst (v := nI 3) hx hb dX7_look_30 (by decide) ?_
  refine lv_iload_n hx hb dX7_look_31 rfl (lv_at hl 2 rfl) ?_
  refine nv_imul hx hb dX7_look_32 ?_
  refine lv_aload_n hx hb dX7_look_33 rfl (lv_at hl 0 rfl) ?_
  refine rg_25 F hK hR dX7_look_34 ?_
  refine lv_iload_n hx hb dX7_look_37 rfl (lv_at hl 1 rfl) ?_
  refine ri_25 F hK hR (by omega) dX7_look_38 ?_
  refine lv_eq (h25) ?_
  refine nv_iadd hx hb dX7_look_39 ?_
  refine ri_5 F hK hR (by omega) dX7_look_40 ?_
  refine lv_eq (hy) ?_
  refine lv_istore_n (lv' := [(3, .int (nI y)), (0, .ref (adr 0)), (1, .int (nI f)), (2, .int (nI x))]) hx hb dX7_look_41 rfl hl (by decide) rfl (fun ls hl => ?_)
  refine lv_aload_n hx hb dX7_look_42 rfl (lv_at hl 1 rfl) ?_
  refine rg_27 F hK hR dX7_look_43 ?_
  refine lv_iload_n hx hb dX7_look_46 rfl (lv_at hl 2 rfl) ?_
  refine lv_dup2_11 hx hb dX7_look_47 rfl rfl ?_
  refine ri_27 F hK hR (by omega) dX7_look_48 ?_
  refine lv_eq (h27) ?_
  refine lv_iconst (v := nI 1) hx hb dX7_look_49 (by decide) ?_
  refine nv_iadd hx hb dX7_look_50 ?_
  refine rs_27 F hK hR (by omega) dX7_look_51 (fun H locs hR => ?_)
  refine lv_aload_n hx hb dX7_look_52 rfl (lv_at hl 1 rfl) ?_
  refine rg_27 F hK hR dX7_look_53 ?_
  refine lv_iload_n hx hb dX7_look_56 rfl (lv_at hl 2 rfl) ?_
  refine ri_27 F hK hR (by omega) dX7_look_57 ?_
  refine lv_eq (m2_at) ?_
  refine lv_iconst (v := nI 1) hx hb dX7_look_58 (by decide) ?_
  refine nv_icmp_ne (by omega) (by omega) hx hb dX7_look_59 (tgt := 72) (by decide) (fun c_59 => ?_) (fun c_59 => absurd c_59 (by omega))
  refine lv_aload_n hx hb dX7_look_72 rfl (lv_at hl 1 rfl) ?_
  refine rg_27 F hK hR dX7_look_73 ?_
  refine lv_iload_n hx hb dX7_look_76 rfl (lv_at hl 2 rfl) ?_
  refine lv_iconst (v := nI 0) hx hb dX7_look_77 (by decide) ?_
  refine rs_27 F hK hR (by omega) dX7_look_78 (fun H locs hR => ?_)
  refine lv_aload_n hx hb dX7_look_79 rfl (lv_at hl 1 rfl) ?_
  refine rg_25 F hK hR dX7_look_80 ?_
  refine lv_iload_n hx hb dX7_look_83 rfl (lv_at hl 2 rfl) ?_
  refine lv_dup2_11 hx hb dX7_look_84 rfl rfl ?_
  refine ri_25 F hK hR (by omega) dX7_look_85 ?_
  refine lv_eq (((m2_nk (by decide)).trans (m2_nk (by decide))).trans (h25)) ?_
  refine lv_iconst (v := nI 1) hx hb dX7_look_86 (by decide) ?_
  refine nv_iadd hx hb dX7_look_87 ?_
  refine rs_25 F hK hR (by omega) dX7_look_88 (fun H locs hR => ?_)
  refine lv_aload_n hx hb dX7_look_89 rfl (lv_at hl 1 rfl) ?_
  refine rg_2 F hK hR dX7_look_90 ?_
  refine lv_iload_n hx hb dX7_look_93 rfl (lv_at hl 0 rfl) ?_
  refine ri_2 F hK hR (by omega) dX7_look_94 ?_
  refine lv_if_eq (tgt := 103) hx hb dX7_look_95 (by decide) (fun c_95 => absurd c_95 (hd)) (fun c_95 => ?_)
  refine lv_aload_n hx hb dX7_look_98 rfl (lv_at hl 1 rfl) ?_
  refine lv_iload_n hx hb dX7_look_99 rfl (lv_at hl 0 rfl) ?_
  refine gcVv (As := [.int (nI y)]) F hK hR hml cv_X7_133 (o := 0) rfl rfl rfl (c_X7_want l G A adr S (m2 (m2 (m2 X 27 f (nI 2)) 27 f (nI 0)) 25 f (nI (i + 1))) ev (f + 1) y (hev) (by omega) ((((m2_nk (by decide)).trans (m2_nk (by decide))).trans (m2_nk (by decide))).trans (hf0)) (by omega) (by omega)) ⟨rfl, rfl⟩ ⟨Nat.le_of_ble_eq_true rfl, Nat.le_of_ble_eq_true rfl⟩ rfl rfl hl.1 (Nat.le_of_ble_eq_true rfl) dX7_look_100 ⟨Nat.zero_le _, Nat.zero_le _⟩ (fun H locs hR => ?_)
  exact gr_v F hr hlk hK hR dX7_look_103 (rfl)
set_option maxHeartbeats 4000000 in
set_option maxRecDepth 100000 in
/-- fly: a guard catches -/
theorem c_X7_flyC (l : Launch) (G : gw_G) (A : Nat → Prop) (adr : Nat → Nat) (S X : Nat → Nat → Int32) (f x g dd : Nat) (w : Int32) (hf0 : X 22 0 = nI (f + 1)) (hf : f < 300) (h24 : X 24 f = nI x) (hw : X 31 0 = w) (h23 : X 23 f = nI 0) (h28 : X 28 f = nI (g + 1 + dd)) (hg : g + 1 + dd ≤ 10) (hc : rf_cat X f g w) (hn : ∀ j, g < j → j < g + 1 + dd → ¬ rf_cat X f j w) : gm l yX7_fly cX7_fly 4 none (rmL 1) 0 0 A [.ref (adr 0)] (gW G A adr (rcel G adr S X)) (gW G A adr (rcel G adr S (m2 (m2 (m2 (m2 X 28 f (nI g)) 31 0 (-1)) 26 f (X 29 (10 * f + g))) 27 f (nI 0)))) none := by
  refine gm_of (own := RX7) (by decide) rfl (Nat.le_of_ble_eq_true rfl) ?_
  intro p e s m below meth c ls F hml hr hlk hnm hK hR hl
  have hx := F.1
  have hb := F.2.1
  have hl : lv_has ls 4 [(0, .ref (adr 0))] := hl
  refine lv_aload_n hx hb dX7_fly_0 rfl (lv_at hl 0 rfl) ?_
  refine rg_22 F hK hR dX7_fly_1 ?_
  refine lv_eq (hf0) ?_
  refine lv_iconst (v := nI 1) hx hb dX7_fly_4 (by decide) ?_
  refine nv_isub (by omega) hx hb dX7_fly_5 ?_
  refine lv_istore_n (lv' := [(1, .int (nI (f + 1 - 1))), (0, .ref (adr 0))]) hx hb dX7_fly_6 rfl hl (by decide) rfl (fun ls hl => ?_)
  replace hl : lv_has ls 4 [(1, .int (nI f)), (0, .ref (adr 0))] := hl
  refine lv_aload_n hx hb dX7_fly_7 rfl (lv_at hl 1 rfl) ?_
  refine rg_24 F hK hR dX7_fly_8 ?_
  refine lv_iload_n hx hb dX7_fly_11 rfl (lv_at hl 0 rfl) ?_
  refine ri_24 F hK hR (by omega) dX7_fly_12 ?_
  refine lv_eq (h24) ?_
  refine lv_istore_n (lv' := [(2, .int (nI x)), (1, .int (nI f)), (0, .ref (adr 0))]) hx hb dX7_fly_13 rfl hl (by decide) rfl (fun ls hl => ?_)
  refine lv_aload_n hx hb dX7_fly_14 rfl (lv_at hl 2 rfl) ?_
  refine rg_23 F hK hR dX7_fly_15 ?_
  refine lv_iload_n hx hb dX7_fly_18 rfl (lv_at hl 1 rfl) ?_
  refine ri_23 F hK hR (by omega) dX7_fly_19 ?_
  refine lv_eq (h23) ?_
  refine nv_if_ne (by omega) hx hb dX7_fly_20 (tgt := 127) (by decide) (fun c_20 => absurd c_20 (by omega)) (fun c_20 => ?_)
  refine lp_gen hR (fun H locs hR => ?_)
  replace hR : rB G A adr S (m2 X 28 f (nI (g + 1 + dd))) s.heap H locs := gw_B.to hR (by rw [m2_id h28])
  clear h28
  induction dd generalizing ls H locs with
  | zero =>
    refine lv_aload_n hx hb dX7_fly_23 rfl (lv_at hl 2 rfl) ?_
    refine rg_28 F hK hR dX7_fly_24 ?_
    refine lv_iload_n hx hb dX7_fly_27 rfl (lv_at hl 1 rfl) ?_
    refine ri_28 F hK hR (by omega) dX7_fly_28 ?_
    refine lv_eq (m2_at) ?_
    refine nv_if_le (by omega) hx hb dX7_fly_29 (tgt := 114) (by decide) (fun c_29 => absurd c_29 (by omega)) (fun c_29 => ?_)
    refine lv_aload_n hx hb dX7_fly_32 rfl (lv_at hl 2 rfl) ?_
    refine rg_28 F hK hR dX7_fly_33 ?_
    refine lv_iload_n hx hb dX7_fly_36 rfl (lv_at hl 1 rfl) ?_
    refine lv_dup2_11 hx hb dX7_fly_37 rfl rfl ?_
    refine ri_28 F hK hR (by omega) dX7_fly_38 ?_
    refine lv_eq (m2_at) ?_
    refine lv_iconst (v := nI 1) hx hb dX7_fly_39 (by decide) ?_
    refine nv_isub (by omega) hx hb dX7_fly_40 ?_
    refine rs_28 F hK hR (by omega) dX7_fly_41 (fun H locs hR => ?_)
    replace hR : rB G A adr S (m2 X 28 f (nI g)) s.heap H locs := gw_B.to hR (by rw [m2_tw]; rfl)
    refine lv_bipush (v := nI 10) hx hb dX7_fly_42 (by decide) ?_
    refine lv_iload_n hx hb dX7_fly_44 rfl (lv_at hl 1 rfl) ?_
    refine nv_imul hx hb dX7_fly_45 ?_
    refine lv_aload_n hx hb dX7_fly_46 rfl (lv_at hl 2 rfl) ?_
    refine rg_28 F hK hR dX7_fly_47 ?_
    refine lv_iload_n hx hb dX7_fly_50 rfl (lv_at hl 1 rfl) ?_
    refine ri_28 F hK hR (by omega) dX7_fly_51 ?_
    refine lv_eq (m2_at) ?_
    refine nv_iadd hx hb dX7_fly_52 ?_
    refine lv_istore_n (lv' := [(3, .int (nI (10 * f + g))), (2, .int (nI x)), (1, .int (nI f)), (0, .ref (adr 0))]) hx hb dX7_fly_53 rfl hl (by decide) rfl (fun ls hl => ?_)
    refine lv_aload_n hx hb dX7_fly_54 rfl (lv_at hl 3 rfl) ?_
    refine rg_31 F hK hR dX7_fly_55 ?_
    refine lv_eq ((m2_nk (by decide)).trans (hw)) ?_
    refine lv_bipush (v := nI 10) hx hb dX7_fly_58 (by decide) ?_
    refine lv_icmp_eq (tgt := 111) hx hb dX7_fly_60 (by decide) (fun c_60 => absurd c_60 (hc.1)) (fun c_60 => ?_)
    refine lv_aload_n hx hb dX7_fly_63 rfl (lv_at hl 3 rfl) ?_
    refine rg_30 F hK hR dX7_fly_64 ?_
    refine lv_iload_n hx hb dX7_fly_67 rfl (lv_at hl 0 rfl) ?_
    refine ri_30 F hK hR (by omega) dX7_fly_68 ?_
    refine lv_eq (m2_nk (by decide)) ?_
    refine lv_iconst (v := (-1)) hx hb dX7_fly_69 (by decide) ?_
    refine lv_icmp_eq (tgt := 86) hx hb dX7_fly_70 (by decide) (fun c_70 => ?_) (fun c_70 => ?_)
    · refine lv_aload_n hx hb dX7_fly_86 rfl (lv_at hl 3 rfl) ?_
      refine lv_iconst (v := (-1)) hx hb dX7_fly_87 (by decide) ?_
      refine rp_31 F hK hR dX7_fly_88 (fun H locs hR => ?_)
      refine lv_aload_n hx hb dX7_fly_91 rfl (lv_at hl 3 rfl) ?_
      refine rg_26 F hK hR dX7_fly_92 ?_
      refine lv_iload_n hx hb dX7_fly_95 rfl (lv_at hl 2 rfl) ?_
      refine lv_aload_n hx hb dX7_fly_96 rfl (lv_at hl 3 rfl) ?_
      refine rg_29 F hK hR dX7_fly_97 ?_
      refine lv_iload_n hx hb dX7_fly_100 rfl (lv_at hl 0 rfl) ?_
      refine ri_29 F hK hR (by omega) dX7_fly_101 ?_
      refine lv_eq ((m2_nk (by decide)).trans (m2_nk (by decide))) ?_
      refine rs_26 F hK hR (by omega) dX7_fly_102 (fun H locs hR => ?_)
      refine lv_aload_n hx hb dX7_fly_103 rfl (lv_at hl 3 rfl) ?_
      refine rg_27 F hK hR dX7_fly_104 ?_
      refine lv_iload_n hx hb dX7_fly_107 rfl (lv_at hl 2 rfl) ?_
      refine lv_iconst (v := nI 0) hx hb dX7_fly_108 (by decide) ?_
      refine rs_27 F hK hR (by omega) dX7_fly_109 (fun H locs hR => ?_)
      exact gr_v F hr hlk hK hR dX7_fly_110 (rfl)
    · refine lv_aload_n hx hb dX7_fly_73 rfl (lv_at hl 3 rfl) ?_
      refine rg_30 F hK hR dX7_fly_74 ?_
      refine lv_iload_n hx hb dX7_fly_77 rfl (lv_at hl 0 rfl) ?_
      refine ri_30 F hK hR (by omega) dX7_fly_78 ?_
      refine lv_eq (m2_nk (by decide)) ?_
      refine lv_aload_n hx hb dX7_fly_79 rfl (lv_at hl 3 rfl) ?_
      refine rg_31 F hK hR dX7_fly_80 ?_
      refine lv_eq ((m2_nk (by decide)).trans (hw)) ?_
      refine lv_icmp_ne (tgt := 111) hx hb dX7_fly_83 (by decide) (fun c_83 => absurd c_83 (fun q => hc.2.elim c_70 q)) (fun c_83 => ?_)
      refine lv_aload_n hx hb dX7_fly_86 rfl (lv_at hl 3 rfl) ?_
      refine lv_iconst (v := (-1)) hx hb dX7_fly_87 (by decide) ?_
      refine rp_31 F hK hR dX7_fly_88 (fun H locs hR => ?_)
      refine lv_aload_n hx hb dX7_fly_91 rfl (lv_at hl 3 rfl) ?_
      refine rg_26 F hK hR dX7_fly_92 ?_
      refine lv_iload_n hx hb dX7_fly_95 rfl (lv_at hl 2 rfl) ?_
      refine lv_aload_n hx hb dX7_fly_96 rfl (lv_at hl 3 rfl) ?_
      refine rg_29 F hK hR dX7_fly_97 ?_
      refine lv_iload_n hx hb dX7_fly_100 rfl (lv_at hl 0 rfl) ?_
      refine ri_29 F hK hR (by omega) dX7_fly_101 ?_
      refine lv_eq ((m2_nk (by decide)).trans (m2_nk (by decide))) ?_
      refine rs_26 F hK hR (by omega) dX7_fly_102 (fun H locs hR => ?_)
      refine lv_aload_n hx hb dX7_fly_103 rfl (lv_at hl 3 rfl) ?_
      refine rg_27 F hK hR dX7_fly_104 ?_
      refine lv_iload_n hx hb dX7_fly_107 rfl (lv_at hl 2 rfl) ?_
      refine lv_iconst (v := nI 0) hx hb dX7_fly_108 (by decide) ?_
      refine rs_27 F hK hR (by omega) dX7_fly_109 (fun H locs hR => ?_)
      exact gr_v F hr hlk hK hR dX7_fly_110 (rfl)
  | succ dd ih =>
    refine lv_aload_n hx hb dX7_fly_23 rfl (lv_at hl 2 rfl) ?_
    refine rg_28 F hK hR dX7_fly_24 ?_
    refine lv_iload_n hx hb dX7_fly_27 rfl (lv_at hl 1 rfl) ?_
    refine ri_28 F hK hR (by omega) dX7_fly_28 ?_
    refine lv_eq (m2_at) ?_
    refine nv_if_le (by omega) hx hb dX7_fly_29 (tgt := 114) (by decide) (fun c_29 => absurd c_29 (by omega)) (fun c_29 => ?_)
    refine lv_aload_n hx hb dX7_fly_32 rfl (lv_at hl 2 rfl) ?_
    refine rg_28 F hK hR dX7_fly_33 ?_
    refine lv_iload_n hx hb dX7_fly_36 rfl (lv_at hl 1 rfl) ?_
    refine lv_dup2_11 hx hb dX7_fly_37 rfl rfl ?_
    refine ri_28 F hK hR (by omega) dX7_fly_38 ?_
    refine lv_eq (m2_at) ?_
    refine lv_iconst (v := nI 1) hx hb dX7_fly_39 (by decide) ?_
    refine nv_isub (by omega) hx hb dX7_fly_40 ?_
    refine rs_28 F hK hR (by omega) dX7_fly_41 (fun H locs hR => ?_)
    replace hR : rB G A adr S (m2 X 28 f (nI (g + 1 + dd))) s.heap H locs := gw_B.to hR (by rw [m2_tw]; rfl)
    refine lv_bipush (v := nI 10) hx hb dX7_fly_42 (by decide) ?_
    refine lv_iload_n hx hb dX7_fly_44 rfl (lv_at hl 1 rfl) ?_
    refine nv_imul hx hb dX7_fly_45 ?_
    refine lv_aload_n hx hb dX7_fly_46 rfl (lv_at hl 2 rfl) ?_
    refine rg_28 F hK hR dX7_fly_47 ?_
    refine lv_iload_n hx hb dX7_fly_50 rfl (lv_at hl 1 rfl) ?_
    refine ri_28 F hK hR (by omega) dX7_fly_51 ?_
    refine lv_eq (m2_at) ?_
    refine nv_iadd hx hb dX7_fly_52 ?_
    refine lv_istore_n (lv' := [(3, .int (nI (10 * f + (g + 1 + dd)))), (2, .int (nI x)), (1, .int (nI f)), (0, .ref (adr 0))]) hx hb dX7_fly_53 rfl hl (by decide) rfl (fun ls hl => ?_)
    refine lv_aload_n hx hb dX7_fly_54 rfl (lv_at hl 3 rfl) ?_
    refine rg_31 F hK hR dX7_fly_55 ?_
    refine lv_eq ((m2_nk (by decide)).trans (hw)) ?_
    refine lv_bipush (v := nI 10) hx hb dX7_fly_58 (by decide) ?_
    refine lv_icmp_eq (tgt := 111) hx hb dX7_fly_60 (by decide) (fun c_60 => ?_) (fun c_60 => ?_)
    · refine lv_goto (tgt := 23) hx hb dX7_fly_111 (by decide) ?_
      exact ih (by omega) (fun j h1 h2 => hn j h1 (by omega)) _ (lv_sub hl [1, 2, 3] rfl) _ _ hR
    · refine lv_aload_n hx hb dX7_fly_63 rfl (lv_at hl 3 rfl) ?_
      refine rg_30 F hK hR dX7_fly_64 ?_
      refine lv_iload_n hx hb dX7_fly_67 rfl (lv_at hl 0 rfl) ?_
      refine ri_30 F hK hR (by omega) dX7_fly_68 ?_
      refine lv_eq (m2_nk (by decide)) ?_
      refine lv_iconst (v := (-1)) hx hb dX7_fly_69 (by decide) ?_
      refine lv_icmp_eq (tgt := 86) hx hb dX7_fly_70 (by decide) (fun c_70 => absurd c_70 (fun q => hn (g + 1 + dd) (by omega) (by omega) (cat_1 c_60 q))) (fun c_70 => ?_)
      refine lv_aload_n hx hb dX7_fly_73 rfl (lv_at hl 3 rfl) ?_
      refine rg_30 F hK hR dX7_fly_74 ?_
      refine lv_iload_n hx hb dX7_fly_77 rfl (lv_at hl 0 rfl) ?_
      refine ri_30 F hK hR (by omega) dX7_fly_78 ?_
      refine lv_eq (m2_nk (by decide)) ?_
      refine lv_aload_n hx hb dX7_fly_79 rfl (lv_at hl 3 rfl) ?_
      refine rg_31 F hK hR dX7_fly_80 ?_
      refine lv_eq ((m2_nk (by decide)).trans (hw)) ?_
      refine lv_icmp_ne (tgt := 111) hx hb dX7_fly_83 (by decide) (fun c_83 => ?_) (fun c_83 => absurd c_83 ((fun q => hn (g + 1 + dd) (by omega) (by omega) (cat_2 c_60 q))))
      refine lv_goto (tgt := 23) hx hb dX7_fly_111 (by decide) ?_
      exact ih (by omega) (fun j h1 h2 => hn j h1 (by omega)) _ (lv_sub hl [1, 2, 3] rfl) _ _ hR
set_option maxHeartbeats 4000000 in
set_option maxRecDepth 100000 in
/-- fly: out of a method -/
theorem c_X7_flyN (l : Launch) (G : gw_G) (A : Nat → Prop) (adr : Nat → Nat) (S X : Nat → Nat → Int32) (f x k d : Nat) (w : Int32) (hf0 : X 22 0 = nI (f + 1)) (hf : f < 300) (h24 : X 24 f = nI x) (hw : X 31 0 = w) (h23 : X 23 f = nI 0) (h28 : X 28 f = nI k) (hk : k ≤ 10) (hn : ∀ j, j < k → ¬ rf_cat X f j w) (hd1 : X 21 0 = nI (d + 1)) : gm l yX7_fly cX7_fly 4 none (rmL 1) 0 0 A [.ref (adr 0)] (gW G A adr (rcel G adr S X)) (gW G A adr (rcel G adr S (m2 (m2 (m2 X 28 f (nI 0)) 21 0 (nI d)) 22 0 (nI f)))) none := by
  refine gm_of (own := RX7) (by decide) rfl (Nat.le_of_ble_eq_true rfl) ?_
  intro p e s m below meth c ls F hml hr hlk hnm hK hR hl
  have hx := F.1
  have hb := F.2.1
  have hl : lv_has ls 4 [(0, .ref (adr 0))] := hl
  refine lv_aload_n hx hb dX7_fly_0 rfl (lv_at hl 0 rfl) ?_
  refine rg_22 F hK hR dX7_fly_1 ?_
  refine lv_eq (hf0) ?_
  refine lv_iconst (v := nI 1) hx hb dX7_fly_4 (by decide) ?_
  refine nv_isub (by omega) hx hb dX7_fly_5 ?_
  refine lv_istore_n (lv' := [(1, .int (nI (f + 1 - 1))), (0, .ref (adr 0))]) hx hb dX7_fly_6 rfl hl (by decide) rfl (fun ls hl => ?_)
  replace hl : lv_has ls 4 [(1, .int (nI f)), (0, .ref (adr 0))] := hl
  refine lv_aload_n hx hb dX7_fly_7 rfl (lv_at hl 1 rfl) ?_
  refine rg_24 F hK hR dX7_fly_8 ?_
  refine lv_iload_n hx hb dX7_fly_11 rfl (lv_at hl 0 rfl) ?_
  refine ri_24 F hK hR (by omega) dX7_fly_12 ?_
  refine lv_eq (h24) ?_
  refine lv_istore_n (lv' := [(2, .int (nI x)), (1, .int (nI f)), (0, .ref (adr 0))]) hx hb dX7_fly_13 rfl hl (by decide) rfl (fun ls hl => ?_)
  refine lv_aload_n hx hb dX7_fly_14 rfl (lv_at hl 2 rfl) ?_
  refine rg_23 F hK hR dX7_fly_15 ?_
  refine lv_iload_n hx hb dX7_fly_18 rfl (lv_at hl 1 rfl) ?_
  refine ri_23 F hK hR (by omega) dX7_fly_19 ?_
  refine lv_eq (h23) ?_
  refine nv_if_ne (by omega) hx hb dX7_fly_20 (tgt := 127) (by decide) (fun c_20 => absurd c_20 (by omega)) (fun c_20 => ?_)
  refine lp_gen hR (fun H locs hR => ?_)
  replace hR : rB G A adr S (m2 X 28 f (nI k)) s.heap H locs := gw_B.to hR (by rw [m2_id h28])
  clear h28
  induction k generalizing ls H locs with
  | zero =>
    refine lv_aload_n hx hb dX7_fly_23 rfl (lv_at hl 2 rfl) ?_
    refine rg_28 F hK hR dX7_fly_24 ?_
    refine lv_iload_n hx hb dX7_fly_27 rfl (lv_at hl 1 rfl) ?_
    refine ri_28 F hK hR (by omega) dX7_fly_28 ?_
    refine lv_eq (m2_at) ?_
    refine nv_if_le (by omega) hx hb dX7_fly_29 (tgt := 114) (by decide) (fun c_29 => ?_) (fun c_29 => absurd c_29 (by omega))
    refine lv_aload_n hx hb dX7_fly_114 rfl (lv_at hl 2 rfl) ?_
    refine lv_dup hx hb dX7_fly_115 rfl ?_
    refine rg_21 F hK hR dX7_fly_116 ?_
    refine lv_eq ((m2_nk (by decide)).trans (hd1)) ?_
    refine lv_iconst (v := nI 1) hx hb dX7_fly_119 (by decide) ?_
    refine nv_isub (by omega) hx hb dX7_fly_120 ?_
    refine rp_21 F hK hR dX7_fly_121 (fun H locs hR => ?_)
    refine lv_goto (tgt := 177) hx hb dX7_fly_124 (by decide) ?_
    refine lv_aload_n hx hb dX7_fly_177 rfl (lv_at hl 2 rfl) ?_
    refine lv_dup hx hb dX7_fly_178 rfl ?_
    refine rg_22 F hK hR dX7_fly_179 ?_
    refine lv_eq (((m2_nk (by decide)).trans (m2_nk (by decide))).trans (hf0)) ?_
    refine lv_iconst (v := nI 1) hx hb dX7_fly_182 (by decide) ?_
    refine nv_isub (by omega) hx hb dX7_fly_183 ?_
    refine rp_22 F hK hR dX7_fly_184 (fun H locs hR => ?_)
    exact gr_v F hr hlk hK hR dX7_fly_187 (rfl)
  | succ k ih =>
    refine lv_aload_n hx hb dX7_fly_23 rfl (lv_at hl 2 rfl) ?_
    refine rg_28 F hK hR dX7_fly_24 ?_
    refine lv_iload_n hx hb dX7_fly_27 rfl (lv_at hl 1 rfl) ?_
    refine ri_28 F hK hR (by omega) dX7_fly_28 ?_
    refine lv_eq (m2_at) ?_
    refine nv_if_le (by omega) hx hb dX7_fly_29 (tgt := 114) (by decide) (fun c_29 => absurd c_29 (by omega)) (fun c_29 => ?_)
    refine lv_aload_n hx hb dX7_fly_32 rfl (lv_at hl 2 rfl) ?_
    refine rg_28 F hK hR dX7_fly_33 ?_
    refine lv_iload_n hx hb dX7_fly_36 rfl (lv_at hl 1 rfl) ?_
    refine lv_dup2_11 hx hb dX7_fly_37 rfl rfl ?_
    refine ri_28 F hK hR (by omega) dX7_fly_38 ?_
    refine lv_eq (m2_at) ?_
    refine lv_iconst (v := nI 1) hx hb dX7_fly_39 (by decide) ?_
    refine nv_isub (by omega) hx hb dX7_fly_40 ?_
    refine rs_28 F hK hR (by omega) dX7_fly_41 (fun H locs hR => ?_)
    replace hR : rB G A adr S (m2 X 28 f (nI k)) s.heap H locs := gw_B.to hR (by rw [m2_tw]; rfl)
    refine lv_bipush (v := nI 10) hx hb dX7_fly_42 (by decide) ?_
    refine lv_iload_n hx hb dX7_fly_44 rfl (lv_at hl 1 rfl) ?_
    refine nv_imul hx hb dX7_fly_45 ?_
    refine lv_aload_n hx hb dX7_fly_46 rfl (lv_at hl 2 rfl) ?_
    refine rg_28 F hK hR dX7_fly_47 ?_
    refine lv_iload_n hx hb dX7_fly_50 rfl (lv_at hl 1 rfl) ?_
    refine ri_28 F hK hR (by omega) dX7_fly_51 ?_
    refine lv_eq (m2_at) ?_
    refine nv_iadd hx hb dX7_fly_52 ?_
    refine lv_istore_n (lv' := [(3, .int (nI (10 * f + k))), (2, .int (nI x)), (1, .int (nI f)), (0, .ref (adr 0))]) hx hb dX7_fly_53 rfl hl (by decide) rfl (fun ls hl => ?_)
    refine lv_aload_n hx hb dX7_fly_54 rfl (lv_at hl 3 rfl) ?_
    refine rg_31 F hK hR dX7_fly_55 ?_
    refine lv_eq ((m2_nk (by decide)).trans (hw)) ?_
    refine lv_bipush (v := nI 10) hx hb dX7_fly_58 (by decide) ?_
    refine lv_icmp_eq (tgt := 111) hx hb dX7_fly_60 (by decide) (fun c_60 => ?_) (fun c_60 => ?_)
    · refine lv_goto (tgt := 23) hx hb dX7_fly_111 (by decide) ?_
      exact ih (by omega) (fun j h => hn j (by omega)) _ (lv_sub hl [1, 2, 3] rfl) _ _ hR
    · refine lv_aload_n hx hb dX7_fly_63 rfl (lv_at hl 3 rfl) ?_
      refine rg_30 F hK hR dX7_fly_64 ?_
      refine lv_iload_n hx hb dX7_fly_67 rfl (lv_at hl 0 rfl) ?_
      refine ri_30 F hK hR (by omega) dX7_fly_68 ?_
      refine lv_eq (m2_nk (by decide)) ?_
      refine lv_iconst (v := (-1)) hx hb dX7_fly_69 (by decide) ?_
      refine lv_icmp_eq (tgt := 86) hx hb dX7_fly_70 (by decide) (fun c_70 => absurd c_70 (fun q => hn k (by omega) (cat_1 c_60 q))) (fun c_70 => ?_)
      refine lv_aload_n hx hb dX7_fly_73 rfl (lv_at hl 3 rfl) ?_
      refine rg_30 F hK hR dX7_fly_74 ?_
      refine lv_iload_n hx hb dX7_fly_77 rfl (lv_at hl 0 rfl) ?_
      refine ri_30 F hK hR (by omega) dX7_fly_78 ?_
      refine lv_eq (m2_nk (by decide)) ?_
      refine lv_aload_n hx hb dX7_fly_79 rfl (lv_at hl 3 rfl) ?_
      refine rg_31 F hK hR dX7_fly_80 ?_
      refine lv_eq ((m2_nk (by decide)).trans (hw)) ?_
      refine lv_icmp_ne (tgt := 111) hx hb dX7_fly_83 (by decide) (fun c_83 => ?_) (fun c_83 => absurd c_83 ((fun q => hn k (by omega) (cat_2 c_60 q))))
      refine lv_goto (tgt := 23) hx hb dX7_fly_111 (by decide) ?_
      exact ih (by omega) (fun j h => hn j (by omega)) _ (lv_sub hl [1, 2, 3] rfl) _ _ hR
set_option maxHeartbeats 4000000 in
set_option maxRecDepth 100000 in
/-- fly: a start fails by 0 .. 6 -/
theorem c_X7_flyS (l : Launch) (G : gw_G) (A : Nat → Prop) (adr : Nat → Nat) (S X : Nat → Nat → Int32) (f x ev : Nat) (w : Int32) (hf0 : X 22 0 = nI (f + 1)) (hf : f < 300) (h24 : X 24 f = nI x) (hw : X 31 0 = w) (h23 : X 23 f = nI 1) (hxx : x < 12) (hev : S 13 0 = nI ev) (he : ev ≤ 60) (hw6 : w ≤ nI 6) : gm l yX7_fly cX7_fly 4 none (rmL 1) 0 0 A [.ref (adr 0)] (gW G A adr (rcel G adr S X)) (gW G A adr (rcel G adr (sp_ar (sp_tell (m2 S 12 x (nI 3)) ev (nI 2) (nI x)) (nI 7)) (m2 (m2 (m2 X 19 0 w) 31 0 (nI 7)) 22 0 (nI f)))) none := by
  refine gm_of (own := RX7) (by decide) rfl (Nat.le_of_ble_eq_true rfl) ?_
  intro p e s m below meth c ls F hml hr hlk hnm hK hR hl
  have hx := F.1
  have hb := F.2.1
  have hl : lv_has ls 4 [(0, .ref (adr 0))] := hl
  refine lv_aload_n hx hb dX7_fly_0 rfl (lv_at hl 0 rfl) ?_
  refine rg_22 F hK hR dX7_fly_1 ?_
  refine lv_eq (hf0) ?_
  refine lv_iconst (v := nI 1) hx hb dX7_fly_4 (by decide) ?_
  refine nv_isub (by omega) hx hb dX7_fly_5 ?_
  refine lv_istore_n (lv' := [(1, .int (nI (f + 1 - 1))), (0, .ref (adr 0))]) hx hb dX7_fly_6 rfl hl (by decide) rfl (fun ls hl => ?_)
  replace hl : lv_has ls 4 [(1, .int (nI f)), (0, .ref (adr 0))] := hl
  refine lv_aload_n hx hb dX7_fly_7 rfl (lv_at hl 1 rfl) ?_
  refine rg_24 F hK hR dX7_fly_8 ?_
  refine lv_iload_n hx hb dX7_fly_11 rfl (lv_at hl 0 rfl) ?_
  refine ri_24 F hK hR (by omega) dX7_fly_12 ?_
  refine lv_eq (h24) ?_
  refine lv_istore_n (lv' := [(2, .int (nI x)), (1, .int (nI f)), (0, .ref (adr 0))]) hx hb dX7_fly_13 rfl hl (by decide) rfl (fun ls hl => ?_)
  refine lv_aload_n hx hb dX7_fly_14 rfl (lv_at hl 2 rfl) ?_
  refine rg_23 F hK hR dX7_fly_15 ?_
  refine lv_iload_n hx hb dX7_fly_18 rfl (lv_at hl 1 rfl) ?_
  refine ri_23 F hK hR (by omega) dX7_fly_19 ?_
  refine lv_eq (h23) ?_
  refine nv_if_ne (by omega) hx hb dX7_fly_20 (tgt := 127) (by decide) (fun c_20 => ?_) (fun c_20 => absurd c_20 (by omega))
  refine lv_aload_n hx hb dX7_fly_127 rfl (lv_at hl 2 rfl) ?_
  refine rg_23 F hK hR dX7_fly_128 ?_
  refine lv_iload_n hx hb dX7_fly_131 rfl (lv_at hl 1 rfl) ?_
  refine ri_23 F hK hR (by omega) dX7_fly_132 ?_
  refine lv_eq (h23) ?_
  refine lv_iconst (v := nI 1) hx hb dX7_fly_133 (by decide) ?_
  refine nv_icmp_ne (by omega) (by omega) hx hb dX7_fly_134 (tgt := 177) (by decide) (fun c_134 => absurd c_134 (by omega)) (fun c_134 => ?_)
  refine lv_aload_n hx hb dX7_fly_137 rfl (lv_at hl 2 rfl) ?_
  refine rg_12 F hK hR dX7_fly_138 ?_
  refine lv_iload_n hx hb dX7_fly_141 rfl (lv_at hl 0 rfl) ?_
  refine lv_iconst (v := nI 3) hx hb dX7_fly_142 (by decide) ?_
  refine rs_12 F hK hR (by omega) dX7_fly_143 (fun H locs hR => ?_)
  refine lv_aload_n hx hb dX7_fly_144 rfl (lv_at hl 2 rfl) ?_
  refine lv_iconst (v := nI 2) hx hb dX7_fly_145 (by decide) ?_
  refine lv_iload_n hx hb dX7_fly_146 rfl (lv_at hl 0 rfl) ?_
  refine gcVv (As := [.int (nI 2), .int (nI x)]) F hK hR hml cv_X7_118 (o := 0) rfl rfl rfl (c_X7_tell l G A adr (m2 S 12 x (nI 3)) X ev (nI 2) (nI x) ((m2_nk (by decide)).trans (hev)) (by omega)) ⟨rfl, rfl⟩ ⟨Nat.le_of_ble_eq_true rfl, Nat.le_of_ble_eq_true rfl⟩ rfl rfl hl.1 (Nat.le_of_ble_eq_true rfl) dX7_fly_147 ⟨Nat.zero_le _, Nat.zero_le _⟩ (fun H locs hR => ?_)
  refine lv_aload_n hx hb dX7_fly_150 rfl (lv_at hl 2 rfl) ?_
  refine rg_31 F hK hR dX7_fly_151 ?_
  refine lv_eq (hw) ?_
  refine lv_bipush (v := nI 6) hx hb dX7_fly_154 (by decide) ?_
  refine lv_icmp_gt (tgt := 177) hx hb dX7_fly_156 (by decide) (fun c_156 => absurd c_156 (Int32.not_lt.mpr hw6)) (fun c_156 => ?_)
  refine lv_aload_n hx hb dX7_fly_159 rfl (lv_at hl 2 rfl) ?_
  refine lv_aload_n hx hb dX7_fly_160 rfl (lv_at hl 2 rfl) ?_
  refine rg_31 F hK hR dX7_fly_161 ?_
  refine lv_eq (hw) ?_
  refine rp_19 F hK hR dX7_fly_164 (fun H locs hR => ?_)
  refine lv_aload_n hx hb dX7_fly_167 rfl (lv_at hl 2 rfl) ?_
  refine lv_aload_n hx hb dX7_fly_168 rfl (lv_at hl 2 rfl) ?_
  refine lv_bipush (v := nI 7) hx hb dX7_fly_169 (by decide) ?_
  refine gcVi (As := [.int (nI 7)]) F hK hR hml cv_X7_111 (o := 0) rfl rfl rfl (c_X7_arise l G A adr (sp_tell (m2 S 12 x (nI 3)) ev (nI 2) (nI x)) (m2 X 19 0 w) (nI 7)) ⟨rfl, rfl⟩ ⟨Nat.le_of_ble_eq_true rfl, Nat.le_of_ble_eq_true rfl⟩ rfl rfl hl.1 (Nat.le_of_ble_eq_true rfl) dX7_fly_171 ⟨Nat.zero_le _, Nat.zero_le _⟩ (fun H locs hR => ?_)
  refine rp_31 F hK hR dX7_fly_174 (fun H locs hR => ?_)
  refine lv_aload_n hx hb dX7_fly_177 rfl (lv_at hl 2 rfl) ?_
  refine lv_dup hx hb dX7_fly_178 rfl ?_
  refine rg_22 F hK hR dX7_fly_179 ?_
  refine lv_eq (((m2_nk (by decide)).trans (m2_nk (by decide))).trans (hf0)) ?_
  refine lv_iconst (v := nI 1) hx hb dX7_fly_182 (by decide) ?_
  refine nv_isub (by omega) hx hb dX7_fly_183 ?_
  refine rp_22 F hK hR dX7_fly_184 (fun H locs hR => ?_)
  exact gr_v F hr hlk hK hR dX7_fly_187 (rfl)
set_option maxHeartbeats 4000000 in
set_option maxRecDepth 100000 in
/-- fly: a start fails by 7 and above -/
theorem c_X7_flyT (l : Launch) (G : gw_G) (A : Nat → Prop) (adr : Nat → Nat) (S X : Nat → Nat → Int32) (f x ev : Nat) (w : Int32) (hf0 : X 22 0 = nI (f + 1)) (hf : f < 300) (h24 : X 24 f = nI x) (hw : X 31 0 = w) (h23 : X 23 f = nI 1) (hxx : x < 12) (hev : S 13 0 = nI ev) (he : ev ≤ 60) (hw6 : nI 6 < w) : gm l yX7_fly cX7_fly 4 none (rmL 1) 0 0 A [.ref (adr 0)] (gW G A adr (rcel G adr S X)) (gW G A adr (rcel G adr (sp_tell (m2 S 12 x (nI 3)) ev (nI 2) (nI x)) (m2 X 22 0 (nI f)))) none := by
  refine gm_of (own := RX7) (by decide) rfl (Nat.le_of_ble_eq_true rfl) ?_
  intro p e s m below meth c ls F hml hr hlk hnm hK hR hl
  have hx := F.1
  have hb := F.2.1
  have hl : lv_has ls 4 [(0, .ref (adr 0))] := hl
  refine lv_aload_n hx hb dX7_fly_0 rfl (lv_at hl 0 rfl) ?_
  refine rg_22 F hK hR dX7_fly_1 ?_
  refine lv_eq (hf0) ?_
  refine lv_iconst (v := nI 1) hx hb dX7_fly_4 (by decide) ?_
  refine nv_isub (by omega) hx hb dX7_fly_5 ?_
  refine lv_istore_n (lv' := [(1, .int (nI (f + 1 - 1))), (0, .ref (adr 0))]) hx hb dX7_fly_6 rfl hl (by decide) rfl (fun ls hl => ?_)
  replace hl : lv_has ls 4 [(1, .int (nI f)), (0, .ref (adr 0))] := hl
  refine lv_aload_n hx hb dX7_fly_7 rfl (lv_at hl 1 rfl) ?_
  refine rg_24 F hK hR dX7_fly_8 ?_
  refine lv_iload_n hx hb dX7_fly_11 rfl (lv_at hl 0 rfl) ?_
  refine ri_24 F hK hR (by omega) dX7_fly_12 ?_
  refine lv_eq (h24) ?_
  refine lv_istore_n (lv' := [(2, .int (nI x)), (1, .int (nI f)), (0, .ref (adr 0))]) hx hb dX7_fly_13 rfl hl (by decide) rfl (fun ls hl => ?_)
  refine lv_aload_n hx hb dX7_fly_14 rfl (lv_at hl 2 rfl) ?_
  refine rg_23 F hK hR dX7_fly_15 ?_
  refine lv_iload_n hx hb dX7_fly_18 rfl (lv_at hl 1 rfl) ?_
  refine ri_23 F hK hR (by omega) dX7_fly_19 ?_
  refine lv_eq (h23) ?_
  refine nv_if_ne (by omega) hx hb dX7_fly_20 (tgt := 127) (by decide) (fun c_20 => ?_) (fun c_20 => absurd c_20 (by omega))
  refine lv_aload_n hx hb dX7_fly_127 rfl (lv_at hl 2 rfl) ?_
  refine rg_23 F hK hR dX7_fly_128 ?_
  refine lv_iload_n hx hb dX7_fly_131 rfl (lv_at hl 1 rfl) ?_
  refine ri_23 F hK hR (by omega) dX7_fly_132 ?_
  refine lv_eq (h23) ?_
  refine lv_iconst (v := nI 1) hx hb dX7_fly_133 (by decide) ?_
  refine nv_icmp_ne (by omega) (by omega) hx hb dX7_fly_134 (tgt := 177) (by decide) (fun c_134 => absurd c_134 (by omega)) (fun c_134 => ?_)
  refine lv_aload_n hx hb dX7_fly_137 rfl (lv_at hl 2 rfl) ?_
  refine rg_12 F hK hR dX7_fly_138 ?_
  refine lv_iload_n hx hb dX7_fly_141 rfl (lv_at hl 0 rfl) ?_
  refine lv_iconst (v := nI 3) hx hb dX7_fly_142 (by decide) ?_
  refine rs_12 F hK hR (by omega) dX7_fly_143 (fun H locs hR => ?_)
  refine lv_aload_n hx hb dX7_fly_144 rfl (lv_at hl 2 rfl) ?_
  refine lv_iconst (v := nI 2) hx hb dX7_fly_145 (by decide) ?_
  refine lv_iload_n hx hb dX7_fly_146 rfl (lv_at hl 0 rfl) ?_
  refine gcVv (As := [.int (nI 2), .int (nI x)]) F hK hR hml cv_X7_118 (o := 0) rfl rfl rfl (c_X7_tell l G A adr (m2 S 12 x (nI 3)) X ev (nI 2) (nI x) ((m2_nk (by decide)).trans (hev)) (by omega)) ⟨rfl, rfl⟩ ⟨Nat.le_of_ble_eq_true rfl, Nat.le_of_ble_eq_true rfl⟩ rfl rfl hl.1 (Nat.le_of_ble_eq_true rfl) dX7_fly_147 ⟨Nat.zero_le _, Nat.zero_le _⟩ (fun H locs hR => ?_)
  refine lv_aload_n hx hb dX7_fly_150 rfl (lv_at hl 2 rfl) ?_
  refine rg_31 F hK hR dX7_fly_151 ?_
  refine lv_eq (hw) ?_
  refine lv_bipush (v := nI 6) hx hb dX7_fly_154 (by decide) ?_
  refine lv_icmp_gt (tgt := 177) hx hb dX7_fly_156 (by decide) (fun c_156 => ?_) (fun c_156 => absurd hw6 c_156)
  refine lv_aload_n hx hb dX7_fly_177 rfl (lv_at hl 2 rfl) ?_
  refine lv_dup hx hb dX7_fly_178 rfl ?_
  refine rg_22 F hK hR dX7_fly_179 ?_
  refine lv_eq (hf0) ?_
  refine lv_iconst (v := nI 1) hx hb dX7_fly_182 (by decide) ?_
  refine nv_isub (by omega) hx hb dX7_fly_183 ?_
  refine rp_22 F hK hR dX7_fly_184 (fun H locs hR => ?_)
  exact gr_v F hr hlk hK hR dX7_fly_187 (rfl)
set_option maxHeartbeats 4000000 in
set_option maxRecDepth 100000 in
/-- fly: out of a look, of a run -/
theorem c_X7_flyO (l : Launch) (G : gw_G) (A : Nat → Prop) (adr : Nat → Nat) (S X : Nat → Nat → Int32) (f x so : Nat) (w : Int32) (hf0 : X 22 0 = nI (f + 1)) (hf : f < 300) (h24 : X 24 f = nI x) (hw : X 31 0 = w) (h23 : X 23 f = nI so) (hs : 2 ≤ so) (hs3 : so ≤ 3) : gm l yX7_fly cX7_fly 4 none (rmL 1) 0 0 A [.ref (adr 0)] (gW G A adr (rcel G adr S X)) (gW G A adr (rcel G adr S (m2 X 22 0 (nI f)))) none := by
  refine gm_of (own := RX7) (by decide) rfl (Nat.le_of_ble_eq_true rfl) ?_
  intro p e s m below meth c ls F hml hr hlk hnm hK hR hl
  have hx := F.1
  have hb := F.2.1
  have hl : lv_has ls 4 [(0, .ref (adr 0))] := hl
  refine lv_aload_n hx hb dX7_fly_0 rfl (lv_at hl 0 rfl) ?_
  refine rg_22 F hK hR dX7_fly_1 ?_
  refine lv_eq (hf0) ?_
  refine lv_iconst (v := nI 1) hx hb dX7_fly_4 (by decide) ?_
  refine nv_isub (by omega) hx hb dX7_fly_5 ?_
  refine lv_istore_n (lv' := [(1, .int (nI (f + 1 - 1))), (0, .ref (adr 0))]) hx hb dX7_fly_6 rfl hl (by decide) rfl (fun ls hl => ?_)
  replace hl : lv_has ls 4 [(1, .int (nI f)), (0, .ref (adr 0))] := hl
  refine lv_aload_n hx hb dX7_fly_7 rfl (lv_at hl 1 rfl) ?_
  refine rg_24 F hK hR dX7_fly_8 ?_
  refine lv_iload_n hx hb dX7_fly_11 rfl (lv_at hl 0 rfl) ?_
  refine ri_24 F hK hR (by omega) dX7_fly_12 ?_
  refine lv_eq (h24) ?_
  refine lv_istore_n (lv' := [(2, .int (nI x)), (1, .int (nI f)), (0, .ref (adr 0))]) hx hb dX7_fly_13 rfl hl (by decide) rfl (fun ls hl => ?_)
  refine lv_aload_n hx hb dX7_fly_14 rfl (lv_at hl 2 rfl) ?_
  refine rg_23 F hK hR dX7_fly_15 ?_
  refine lv_iload_n hx hb dX7_fly_18 rfl (lv_at hl 1 rfl) ?_
  refine ri_23 F hK hR (by omega) dX7_fly_19 ?_
  refine lv_eq (h23) ?_
  refine nv_if_ne (by omega) hx hb dX7_fly_20 (tgt := 127) (by decide) (fun c_20 => ?_) (fun c_20 => absurd c_20 (by omega))
  refine lv_aload_n hx hb dX7_fly_127 rfl (lv_at hl 2 rfl) ?_
  refine rg_23 F hK hR dX7_fly_128 ?_
  refine lv_iload_n hx hb dX7_fly_131 rfl (lv_at hl 1 rfl) ?_
  refine ri_23 F hK hR (by omega) dX7_fly_132 ?_
  refine lv_eq (h23) ?_
  refine lv_iconst (v := nI 1) hx hb dX7_fly_133 (by decide) ?_
  refine nv_icmp_ne (by omega) (by omega) hx hb dX7_fly_134 (tgt := 177) (by decide) (fun c_134 => ?_) (fun c_134 => absurd c_134 (by omega))
  refine lv_aload_n hx hb dX7_fly_177 rfl (lv_at hl 2 rfl) ?_
  refine lv_dup hx hb dX7_fly_178 rfl ?_
  refine rg_22 F hK hR dX7_fly_179 ?_
  refine lv_eq (hf0) ?_
  refine lv_iconst (v := nI 1) hx hb dX7_fly_182 (by decide) ?_
  refine nv_isub (by omega) hx hb dX7_fly_183 ?_
  refine rp_22 F hK hR dX7_fly_184 (fun H locs hR => ?_)
  exact gr_v F hr hlk hK hR dX7_fly_187 (rfl)
end
