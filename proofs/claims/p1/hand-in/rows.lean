section
/-! PART A of the skeleton: the tables' words -/
def lw_okq (q : MethodName × Nat) : Prop := (q.1.cls ≠ "java/lang/invoke/MethodHandle" ∧ q.1.cls ≠ "java/lang/invoke/VarHandle") ∧ Cond.instantiable q.1.cls q.2 ∈ tables_1 ∧ Cond.privateMethod q.1 ∈ tables_1 ∧ Cond.instanceMethod q.1 ∈ tables_1
theorem lw_p0 : lw_okq (⟨"LatinLaws", "isElement", "(II)Z"⟩, 5) := ⟨⟨by decide +kernel, by decide +kernel⟩, List.mem_of_getElem? (i := 17) (by decide +kernel), List.mem_of_getElem? (i := 184) (by decide +kernel), List.mem_of_getElem? (i := 185) (by decide +kernel)⟩
theorem lw_p1 : lw_okq (⟨"LatinLaws$Endings", "lookOver", "()V"⟩, 8) := ⟨⟨by decide +kernel, by decide +kernel⟩, List.mem_of_getElem? (i := 66) (by decide +kernel), List.mem_of_getElem? (i := 228) (by decide +kernel), List.mem_of_getElem? (i := 229) (by decide +kernel)⟩
theorem lw_p2 : lw_okq (⟨"LatinLaws$Endings", "fill", "(I)V"⟩, 8) := ⟨⟨by decide +kernel, by decide +kernel⟩, List.mem_of_getElem? (i := 66) (by decide +kernel), List.mem_of_getElem? (i := 234) (by decide +kernel), List.mem_of_getElem? (i := 235) (by decide +kernel)⟩
theorem lw_p3 : lw_okq (⟨"LatinLaws$Endings", "keepFound", "()V"⟩, 8) := ⟨⟨by decide +kernel, by decide +kernel⟩, List.mem_of_getElem? (i := 66) (by decide +kernel), List.mem_of_getElem? (i := 238) (by decide +kernel), List.mem_of_getElem? (i := 239) (by decide +kernel)⟩
theorem lw_p4 : lw_okq (⟨"LatinLaws", "isSet", "(II)Z"⟩, 5) := ⟨⟨by decide +kernel, by decide +kernel⟩, List.mem_of_getElem? (i := 17) (by decide +kernel), List.mem_of_getElem? (i := 317) (by decide +kernel), List.mem_of_getElem? (i := 318) (by decide +kernel)⟩
theorem lw_p5 : lw_okq (⟨"LatinLaws", "faultOfPart", "(II)I"⟩, 5) := ⟨⟨by decide +kernel, by decide +kernel⟩, List.mem_of_getElem? (i := 17) (by decide +kernel), List.mem_of_getElem? (i := 354) (by decide +kernel), List.mem_of_getElem? (i := 355) (by decide +kernel)⟩
theorem lw_p6 : lw_okq (⟨"LatinLaws", "keepBuilt", "(I)I"⟩, 5) := ⟨⟨by decide +kernel, by decide +kernel⟩, List.mem_of_getElem? (i := 17) (by decide +kernel), List.mem_of_getElem? (i := 381) (by decide +kernel), List.mem_of_getElem? (i := 382) (by decide +kernel)⟩
theorem lw_p7 : lw_okq (⟨"LatinLaws$Turns", "takeTurns", "(LLatinLaws$Table;)V"⟩, 7) := ⟨⟨by decide +kernel, by decide +kernel⟩, List.mem_of_getElem? (i := 100) (by decide +kernel), List.mem_of_getElem? (i := 395) (by decide +kernel), List.mem_of_getElem? (i := 396) (by decide +kernel)⟩
theorem lw_p8 : lw_okq (⟨"LatinLaws$Turns", "take", "()V"⟩, 7) := ⟨⟨by decide +kernel, by decide +kernel⟩, List.mem_of_getElem? (i := 100) (by decide +kernel), List.mem_of_getElem? (i := 400) (by decide +kernel), List.mem_of_getElem? (i := 401) (by decide +kernel)⟩
theorem lw_p9 : lw_okq (⟨"LatinLaws$Turns", "keep", "(II)V"⟩, 7) := ⟨⟨by decide +kernel, by decide +kernel⟩, List.mem_of_getElem? (i := 100) (by decide +kernel), List.mem_of_getElem? (i := 405) (by decide +kernel), List.mem_of_getElem? (i := 406) (by decide +kernel)⟩
theorem lw_p10 : lw_okq (⟨"LatinLaws$Turns", "undo", "(I)V"⟩, 7) := ⟨⟨by decide +kernel, by decide +kernel⟩, List.mem_of_getElem? (i := 100) (by decide +kernel), List.mem_of_getElem? (i := 412) (by decide +kernel), List.mem_of_getElem? (i := 413) (by decide +kernel)⟩
theorem lw_p11 : lw_okq (⟨"LatinLaws$Turns", "takeProducts", "()V"⟩, 7) := ⟨⟨by decide +kernel, by decide +kernel⟩, List.mem_of_getElem? (i := 100) (by decide +kernel), List.mem_of_getElem? (i := 419) (by decide +kernel), List.mem_of_getElem? (i := 420) (by decide +kernel)⟩
theorem lw_p12 : lw_okq (⟨"LatinLaws$Turns", "takeProduct", "(II)V"⟩, 7) := ⟨⟨by decide +kernel, by decide +kernel⟩, List.mem_of_getElem? (i := 100) (by decide +kernel), List.mem_of_getElem? (i := 423) (by decide +kernel), List.mem_of_getElem? (i := 424) (by decide +kernel)⟩
theorem lw_p13 : lw_okq (⟨"LatinLaws$Turns", "countChoices", "()I"⟩, 7) := ⟨⟨by decide +kernel, by decide +kernel⟩, List.mem_of_getElem? (i := 100) (by decide +kernel), List.mem_of_getElem? (i := 427) (by decide +kernel), List.mem_of_getElem? (i := 428) (by decide +kernel)⟩
theorem lw_p14 : lw_okq (⟨"LatinLaws$Renamings", "match", "(LLatinLaws$Table;LLatinLaws$Table;II)Z"⟩, 5) := ⟨⟨by decide +kernel, by decide +kernel⟩, List.mem_of_getElem? (i := 128) (by decide +kernel), List.mem_of_getElem? (i := 454) (by decide +kernel), List.mem_of_getElem? (i := 455) (by decide +kernel)⟩
theorem lw_p15 : lw_okq (⟨"LatinLaws$Renamings", "agrees", "(LLatinLaws$Table;LLatinLaws$Table;II)Z"⟩, 5) := ⟨⟨by decide +kernel, by decide +kernel⟩, List.mem_of_getElem? (i := 128) (by decide +kernel), List.mem_of_getElem? (i := 458) (by decide +kernel), List.mem_of_getElem? (i := 459) (by decide +kernel)⟩
def lw_privs_1 : List (MethodName × Nat) := [(⟨"LatinLaws", "isElement", "(II)Z"⟩, 5), (⟨"LatinLaws$Endings", "lookOver", "()V"⟩, 8), (⟨"LatinLaws$Endings", "fill", "(I)V"⟩, 8), (⟨"LatinLaws$Endings", "keepFound", "()V"⟩, 8), (⟨"LatinLaws", "isSet", "(II)Z"⟩, 5), (⟨"LatinLaws", "faultOfPart", "(II)I"⟩, 5), (⟨"LatinLaws", "keepBuilt", "(I)I"⟩, 5), (⟨"LatinLaws$Turns", "takeTurns", "(LLatinLaws$Table;)V"⟩, 7), (⟨"LatinLaws$Turns", "take", "()V"⟩, 7), (⟨"LatinLaws$Turns", "keep", "(II)V"⟩, 7), (⟨"LatinLaws$Turns", "undo", "(I)V"⟩, 7), (⟨"LatinLaws$Turns", "takeProducts", "()V"⟩, 7), (⟨"LatinLaws$Turns", "takeProduct", "(II)V"⟩, 7), (⟨"LatinLaws$Turns", "countChoices", "()I"⟩, 7), (⟨"LatinLaws$Renamings", "match", "(LLatinLaws$Table;LLatinLaws$Table;II)Z"⟩, 5), (⟨"LatinLaws$Renamings", "agrees", "(LLatinLaws$Table;LLatinLaws$Table;II)Z"⟩, 5)]
theorem lw_r1 : ∀ q ∈ lw_privs_1, lw_okq q := List.forall_mem_cons.mpr ⟨lw_p0, List.forall_mem_cons.mpr ⟨lw_p1, List.forall_mem_cons.mpr ⟨lw_p2, List.forall_mem_cons.mpr ⟨lw_p3, List.forall_mem_cons.mpr ⟨lw_p4, List.forall_mem_cons.mpr ⟨lw_p5, List.forall_mem_cons.mpr ⟨lw_p6, List.forall_mem_cons.mpr ⟨lw_p7, List.forall_mem_cons.mpr ⟨lw_p8, List.forall_mem_cons.mpr ⟨lw_p9, List.forall_mem_cons.mpr ⟨lw_p10, List.forall_mem_cons.mpr ⟨lw_p11, List.forall_mem_cons.mpr ⟨lw_p12, List.forall_mem_cons.mpr ⟨lw_p13, List.forall_mem_cons.mpr ⟨lw_p14, List.forall_mem_cons.mpr ⟨lw_p15, fun _ h => absurd h List.not_mem_nil⟩⟩⟩⟩⟩⟩⟩⟩⟩⟩⟩⟩⟩⟩⟩⟩
theorem lw_p16 : lw_okq (⟨"LatinLaws$Renamings", "giveNames", "(LLatinLaws$Table;I)V"⟩, 5) := ⟨⟨by decide +kernel, by decide +kernel⟩, List.mem_of_getElem? (i := 128) (by decide +kernel), List.mem_of_getElem? (i := 474) (by decide +kernel), List.mem_of_getElem? (i := 475) (by decide +kernel)⟩
theorem lw_p17 : lw_okq (⟨"LatinLaws$Renamings", "keepRenamed", "(LLatinLaws$Table;)V"⟩, 5) := ⟨⟨by decide +kernel, by decide +kernel⟩, List.mem_of_getElem? (i := 128) (by decide +kernel), List.mem_of_getElem? (i := 478) (by decide +kernel), List.mem_of_getElem? (i := 479) (by decide +kernel)⟩
theorem lw_p18 : lw_okq (⟨"LatinLaws$Renamings", "compare", "(LLatinLaws$Table;I)I"⟩, 5) := ⟨⟨by decide +kernel, by decide +kernel⟩, List.mem_of_getElem? (i := 128) (by decide +kernel), List.mem_of_getElem? (i := 482) (by decide +kernel), List.mem_of_getElem? (i := 483) (by decide +kernel)⟩
theorem lw_p19 : lw_okq (⟨"LatinLaws$Renamings", "renamed", "(LLatinLaws$Table;II)I"⟩, 5) := ⟨⟨by decide +kernel, by decide +kernel⟩, List.mem_of_getElem? (i := 128) (by decide +kernel), List.mem_of_getElem? (i := 486) (by decide +kernel), List.mem_of_getElem? (i := 487) (by decide +kernel)⟩
theorem lw_p20 : lw_okq (⟨"LatinLawsModel", "puts", "(IIII)V"⟩, 7) := ⟨⟨by decide +kernel, by decide +kernel⟩, List.mem_of_getElem? (i := 542) (by decide +kernel), List.mem_of_getElem? (i := 582) (by decide +kernel), List.mem_of_getElem? (i := 583) (by decide +kernel)⟩
theorem lw_p21 : lw_okq (⟨"LatinLawsModel", "stands", "(IIII)Z"⟩, 7) := ⟨⟨by decide +kernel, by decide +kernel⟩, List.mem_of_getElem? (i := 542) (by decide +kernel), List.mem_of_getElem? (i := 590) (by decide +kernel), List.mem_of_getElem? (i := 591) (by decide +kernel)⟩
theorem lw_p22 : lw_okq (⟨"LatinLawsModel", "cell", "(III)I"⟩, 7) := ⟨⟨by decide +kernel, by decide +kernel⟩, List.mem_of_getElem? (i := 542) (by decide +kernel), List.mem_of_getElem? (i := 594) (by decide +kernel), List.mem_of_getElem? (i := 595) (by decide +kernel)⟩
theorem lw_p23 : lw_okq (⟨"LatinLawsModel", "isElement", "(II)Z"⟩, 7) := ⟨⟨by decide +kernel, by decide +kernel⟩, List.mem_of_getElem? (i := 542) (by decide +kernel), List.mem_of_getElem? (i := 602) (by decide +kernel), List.mem_of_getElem? (i := 603) (by decide +kernel)⟩
theorem lw_p24 : lw_okq (⟨"LatinLawsModel", "empties", "(I)I"⟩, 7) := ⟨⟨by decide +kernel, by decide +kernel⟩, List.mem_of_getElem? (i := 542) (by decide +kernel), List.mem_of_getElem? (i := 610) (by decide +kernel), List.mem_of_getElem? (i := 611) (by decide +kernel)⟩
theorem lw_p25 : lw_okq (⟨"LatinLawsModel", "ends", "(II)I"⟩, 7) := ⟨⟨by decide +kernel, by decide +kernel⟩, List.mem_of_getElem? (i := 542) (by decide +kernel), List.mem_of_getElem? (i := 618) (by decide +kernel), List.mem_of_getElem? (i := 619) (by decide +kernel)⟩
theorem lw_p26 : lw_okq (⟨"LatinLawsModel", "copies", "(II)V"⟩, 7) := ⟨⟨by decide +kernel, by decide +kernel⟩, List.mem_of_getElem? (i := 542) (by decide +kernel), List.mem_of_getElem? (i := 622) (by decide +kernel), List.mem_of_getElem? (i := 623) (by decide +kernel)⟩
theorem lw_p27 : lw_okq (⟨"LatinLawsModel", "isFull", "(I)Z"⟩, 7) := ⟨⟨by decide +kernel, by decide +kernel⟩, List.mem_of_getElem? (i := 542) (by decide +kernel), List.mem_of_getElem? (i := 634) (by decide +kernel), List.mem_of_getElem? (i := 635) (by decide +kernel)⟩
theorem lw_p28 : lw_okq (⟨"LatinLawsModel", "behind", "(III)I"⟩, 7) := ⟨⟨by decide +kernel, by decide +kernel⟩, List.mem_of_getElem? (i := 542) (by decide +kernel), List.mem_of_getElem? (i := 638) (by decide +kernel), List.mem_of_getElem? (i := 639) (by decide +kernel)⟩
theorem lw_p29 : lw_okq (⟨"LatinLawsModel", "ahead", "(III)I"⟩, 7) := ⟨⟨by decide +kernel, by decide +kernel⟩, List.mem_of_getElem? (i := 542) (by decide +kernel), List.mem_of_getElem? (i := 642) (by decide +kernel), List.mem_of_getElem? (i := 643) (by decide +kernel)⟩
theorem lw_p30 : lw_okq (⟨"LatinLawsModel", "holds", "(IIIII)Z"⟩, 7) := ⟨⟨by decide +kernel, by decide +kernel⟩, List.mem_of_getElem? (i := 542) (by decide +kernel), List.mem_of_getElem? (i := 653) (by decide +kernel), List.mem_of_getElem? (i := 654) (by decide +kernel)⟩
theorem lw_p31 : lw_okq (⟨"LatinLawsModel", "isJoining", "(III)Z"⟩, 7) := ⟨⟨by decide +kernel, by decide +kernel⟩, List.mem_of_getElem? (i := 542) (by decide +kernel), List.mem_of_getElem? (i := 661) (by decide +kernel), List.mem_of_getElem? (i := 662) (by decide +kernel)⟩
def lw_privs_2 : List (MethodName × Nat) := [(⟨"LatinLaws$Renamings", "giveNames", "(LLatinLaws$Table;I)V"⟩, 5), (⟨"LatinLaws$Renamings", "keepRenamed", "(LLatinLaws$Table;)V"⟩, 5), (⟨"LatinLaws$Renamings", "compare", "(LLatinLaws$Table;I)I"⟩, 5), (⟨"LatinLaws$Renamings", "renamed", "(LLatinLaws$Table;II)I"⟩, 5), (⟨"LatinLawsModel", "puts", "(IIII)V"⟩, 7), (⟨"LatinLawsModel", "stands", "(IIII)Z"⟩, 7), (⟨"LatinLawsModel", "cell", "(III)I"⟩, 7), (⟨"LatinLawsModel", "isElement", "(II)Z"⟩, 7), (⟨"LatinLawsModel", "empties", "(I)I"⟩, 7), (⟨"LatinLawsModel", "ends", "(II)I"⟩, 7), (⟨"LatinLawsModel", "copies", "(II)V"⟩, 7), (⟨"LatinLawsModel", "isFull", "(I)Z"⟩, 7), (⟨"LatinLawsModel", "behind", "(III)I"⟩, 7), (⟨"LatinLawsModel", "ahead", "(III)I"⟩, 7), (⟨"LatinLawsModel", "holds", "(IIIII)Z"⟩, 7), (⟨"LatinLawsModel", "isJoining", "(III)Z"⟩, 7)]
theorem lw_r2 : ∀ q ∈ lw_privs_2, lw_okq q := List.forall_mem_cons.mpr ⟨lw_p16, List.forall_mem_cons.mpr ⟨lw_p17, List.forall_mem_cons.mpr ⟨lw_p18, List.forall_mem_cons.mpr ⟨lw_p19, List.forall_mem_cons.mpr ⟨lw_p20, List.forall_mem_cons.mpr ⟨lw_p21, List.forall_mem_cons.mpr ⟨lw_p22, List.forall_mem_cons.mpr ⟨lw_p23, List.forall_mem_cons.mpr ⟨lw_p24, List.forall_mem_cons.mpr ⟨lw_p25, List.forall_mem_cons.mpr ⟨lw_p26, List.forall_mem_cons.mpr ⟨lw_p27, List.forall_mem_cons.mpr ⟨lw_p28, List.forall_mem_cons.mpr ⟨lw_p29, List.forall_mem_cons.mpr ⟨lw_p30, List.forall_mem_cons.mpr ⟨lw_p31, fun _ h => absurd h List.not_mem_nil⟩⟩⟩⟩⟩⟩⟩⟩⟩⟩⟩⟩⟩⟩⟩⟩
theorem lw_p32 : lw_okq (⟨"LatinLawsModel", "isSet", "(II)Z"⟩, 7) := ⟨⟨by decide +kernel, by decide +kernel⟩, List.mem_of_getElem? (i := 542) (by decide +kernel), List.mem_of_getElem? (i := 669) (by decide +kernel), List.mem_of_getElem? (i := 670) (by decide +kernel)⟩
theorem lw_p33 : lw_okq (⟨"LatinLawsModel", "closed", "(II)I"⟩, 7) := ⟨⟨by decide +kernel, by decide +kernel⟩, List.mem_of_getElem? (i := 542) (by decide +kernel), List.mem_of_getElem? (i := 673) (by decide +kernel), List.mem_of_getElem? (i := 674) (by decide +kernel)⟩
theorem lw_p34 : lw_okq (⟨"LatinLawsModel", "isNormal", "(II)Z"⟩, 7) := ⟨⟨by decide +kernel, by decide +kernel⟩, List.mem_of_getElem? (i := 542) (by decide +kernel), List.mem_of_getElem? (i := 684) (by decide +kernel), List.mem_of_getElem? (i := 685) (by decide +kernel)⟩
theorem lw_p35 : lw_okq (⟨"LatinLawsModel", "times", "(IIIZ)I"⟩, 7) := ⟨⟨by decide +kernel, by decide +kernel⟩, List.mem_of_getElem? (i := 542) (by decide +kernel), List.mem_of_getElem? (i := 688) (by decide +kernel), List.mem_of_getElem? (i := 689) (by decide +kernel)⟩
theorem lw_p36 : lw_okq (⟨"LatinLawsModel", "named", "(III)I"⟩, 7) := ⟨⟨by decide +kernel, by decide +kernel⟩, List.mem_of_getElem? (i := 542) (by decide +kernel), List.mem_of_getElem? (i := 700) (by decide +kernel), List.mem_of_getElem? (i := 701) (by decide +kernel)⟩
theorem lw_p37 : lw_okq (⟨"LatinLawsModel", "joins", "(II)I"⟩, 7) := ⟨⟨by decide +kernel, by decide +kernel⟩, List.mem_of_getElem? (i := 542) (by decide +kernel), List.mem_of_getElem? (i := 711) (by decide +kernel), List.mem_of_getElem? (i := 712) (by decide +kernel)⟩
theorem lw_p38 : lw_okq (⟨"LatinLawsModel", "rank", "(I)I"⟩, 7) := ⟨⟨by decide +kernel, by decide +kernel⟩, List.mem_of_getElem? (i := 542) (by decide +kernel), List.mem_of_getElem? (i := 715) (by decide +kernel), List.mem_of_getElem? (i := 716) (by decide +kernel)⟩
theorem lw_p39 : lw_okq (⟨"LatinLawsModel", "isAlike", "(III)Z"⟩, 7) := ⟨⟨by decide +kernel, by decide +kernel⟩, List.mem_of_getElem? (i := 542) (by decide +kernel), List.mem_of_getElem? (i := 723) (by decide +kernel), List.mem_of_getElem? (i := 724) (by decide +kernel)⟩
theorem lw_p40 : lw_okq (⟨"LatinLawsModel", "renames", "(III)V"⟩, 7) := ⟨⟨by decide +kernel, by decide +kernel⟩, List.mem_of_getElem? (i := 542) (by decide +kernel), List.mem_of_getElem? (i := 730) (by decide +kernel), List.mem_of_getElem? (i := 731) (by decide +kernel)⟩
theorem lw_p41 : lw_okq (⟨"LatinLawsModel", "against", "(II)I"⟩, 7) := ⟨⟨by decide +kernel, by decide +kernel⟩, List.mem_of_getElem? (i := 542) (by decide +kernel), List.mem_of_getElem? (i := 734) (by decide +kernel), List.mem_of_getElem? (i := 735) (by decide +kernel)⟩
theorem lw_p42 : lw_okq (⟨"LatinLawsModel", "squares", "(II)I"⟩, 7) := ⟨⟨by decide +kernel, by decide +kernel⟩, List.mem_of_getElem? (i := 542) (by decide +kernel), List.mem_of_getElem? (i := 746) (by decide +kernel), List.mem_of_getElem? (i := 747) (by decide +kernel)⟩
def lw_privs_3 : List (MethodName × Nat) := [(⟨"LatinLawsModel", "isSet", "(II)Z"⟩, 7), (⟨"LatinLawsModel", "closed", "(II)I"⟩, 7), (⟨"LatinLawsModel", "isNormal", "(II)Z"⟩, 7), (⟨"LatinLawsModel", "times", "(IIIZ)I"⟩, 7), (⟨"LatinLawsModel", "named", "(III)I"⟩, 7), (⟨"LatinLawsModel", "joins", "(II)I"⟩, 7), (⟨"LatinLawsModel", "rank", "(I)I"⟩, 7), (⟨"LatinLawsModel", "isAlike", "(III)Z"⟩, 7), (⟨"LatinLawsModel", "renames", "(III)V"⟩, 7), (⟨"LatinLawsModel", "against", "(II)I"⟩, 7), (⟨"LatinLawsModel", "squares", "(II)I"⟩, 7)]
theorem lw_r3 : ∀ q ∈ lw_privs_3, lw_okq q := List.forall_mem_cons.mpr ⟨lw_p32, List.forall_mem_cons.mpr ⟨lw_p33, List.forall_mem_cons.mpr ⟨lw_p34, List.forall_mem_cons.mpr ⟨lw_p35, List.forall_mem_cons.mpr ⟨lw_p36, List.forall_mem_cons.mpr ⟨lw_p37, List.forall_mem_cons.mpr ⟨lw_p38, List.forall_mem_cons.mpr ⟨lw_p39, List.forall_mem_cons.mpr ⟨lw_p40, List.forall_mem_cons.mpr ⟨lw_p41, List.forall_mem_cons.mpr ⟨lw_p42, fun _ h => absurd h List.not_mem_nil⟩⟩⟩⟩⟩⟩⟩⟩⟩⟩⟩
def lw_privs : List (MethodName × Nat) := lw_privs_1 ++ (lw_privs_2 ++ (lw_privs_3))
def lw_tbl : List Cond := k2_sels lw_privs ++ tables_1
theorem lw_privs_ok : ∀ q ∈ lw_privs, lw_okq q := by
  show ∀ q ∈ lw_privs_1 ++ (lw_privs_2 ++ (lw_privs_3)), lw_okq q
  exact List.forall_mem_append.mpr ⟨lw_r1, List.forall_mem_append.mpr ⟨lw_r2, lw_r3⟩⟩
end
section
/-! names, fields and rows of the methods: written by wip/tools/gen.py out of the claim's tables and bytes -/
def xm_T0 : u_T := fun k => match k with
  | 0 => ("LatinLaws$Table", "n", "I", false)
  | _ => ("LatinLaws$Table", "cells", "[I", true)
def xm_y0 : Nat → FieldType := fun k => match k with
  | 0 => .int
  | _ => .array .int
theorem xm_n0 : ∀ a, a < 2 → ∀ b, b < 2 → a ≠ b → (xm_T0 a).2.1 ≠ (xm_T0 b).2.1 := by decide +kernel
theorem xm_p0 : ∀ k, k < 2 → parseFieldDescriptor (xm_T0 k).2.2.1 = some (xm_y0 k) := by decide +kernel
theorem xm_i0 : ∀ w ∈ u_ws "LatinLaws$Table" xm_T0 2, w ∈ lw_tbl ∧ goodWord w = true := by decide +kernel
def xm_T1 : u_T := fun k => match k with
  | 0 => ("LatinLaws$Endings", "first", "LLatinLaws$Table;", true)
  | 1 => ("LatinLaws$Endings", "tried", "LLatinLaws$Table;", true)
  | 2 => ("LatinLaws$Endings", "open", "[I", true)
  | 3 => ("LatinLaws$Endings", "openCount", "I", false)
  | 4 => ("LatinLaws$Endings", "inRow", "[I", true)
  | 5 => ("LatinLaws$Endings", "inColumn", "[I", true)
  | 6 => ("LatinLaws$Endings", "found", "I", false)
  | _ => ("LatinLaws$Endings", "most", "I", false)
def xm_y1 : Nat → FieldType := fun k => match k with
  | 0 => .object "LatinLaws$Table"
  | 1 => .object "LatinLaws$Table"
  | 2 => .array .int
  | 3 => .int
  | 4 => .array .int
  | 5 => .array .int
  | 6 => .int
  | _ => .int
theorem xm_n1 : ∀ a, a < 8 → ∀ b, b < 8 → a ≠ b → (xm_T1 a).2.1 ≠ (xm_T1 b).2.1 := by decide +kernel
theorem xm_p1 : ∀ k, k < 8 → parseFieldDescriptor (xm_T1 k).2.2.1 = some (xm_y1 k) := by decide +kernel
theorem xm_i1 : ∀ w ∈ u_ws "LatinLaws$Endings" xm_T1 8, w ∈ lw_tbl ∧ goodWord w = true := by decide +kernel
def xm_T2 : u_T := fun k => match k with
  | 0 => ("LatinLaws$Turns", "n", "I", false)
  | 1 => ("LatinLaws$Turns", "images", "[I", true)
  | 2 => ("LatinLaws$Turns", "sources", "[I", true)
  | 3 => ("LatinLaws$Turns", "reached", "[I", true)
  | 4 => ("LatinLaws$Turns", "kept", "[I", true)
  | 5 => ("LatinLaws$Turns", "keptCount", "I", false)
  | _ => ("LatinLaws$Turns", "tried", "[I", true)
def xm_y2 : Nat → FieldType := fun k => match k with
  | 0 => .int
  | 1 => .array .int
  | 2 => .array .int
  | 3 => .array .int
  | 4 => .array .int
  | 5 => .int
  | _ => .array .int
theorem xm_n2 : ∀ a, a < 7 → ∀ b, b < 7 → a ≠ b → (xm_T2 a).2.1 ≠ (xm_T2 b).2.1 := by decide +kernel
theorem xm_p2 : ∀ k, k < 7 → parseFieldDescriptor (xm_T2 k).2.2.1 = some (xm_y2 k) := by decide +kernel
theorem xm_i2 : ∀ w ∈ u_ws "LatinLaws$Turns" xm_T2 7, w ∈ lw_tbl ∧ goodWord w = true := by decide +kernel
def xm_T3 : u_T := fun k => match k with
  | 0 => ("LatinLaws$Renamings", "least", "LLatinLaws$Table;", true)
  | 1 => ("LatinLaws$Renamings", "image", "[I", true)
  | 2 => ("LatinLaws$Renamings", "named", "[I", true)
  | 3 => ("LatinLaws$Renamings", "nameOf", "[I", true)
  | _ => ("LatinLaws$Renamings", "sameAsLeast", "I", false)
def xm_y3 : Nat → FieldType := fun k => match k with
  | 0 => .object "LatinLaws$Table"
  | 1 => .array .int
  | 2 => .array .int
  | 3 => .array .int
  | _ => .int
theorem xm_n3 : ∀ a, a < 5 → ∀ b, b < 5 → a ≠ b → (xm_T3 a).2.1 ≠ (xm_T3 b).2.1 := by decide +kernel
theorem xm_p3 : ∀ k, k < 5 → parseFieldDescriptor (xm_T3 k).2.2.1 = some (xm_y3 k) := by decide +kernel
theorem xm_i3 : ∀ w ∈ u_ws "LatinLaws$Renamings" xm_T3 5, w ∈ lw_tbl ∧ goodWord w = true := by decide +kernel
def xm_T4 : u_T := fun k => match k with
  | 0 => ("LatinLaws", "tables", "[LLatinLaws$Table;", true)
  | 1 => ("LatinLaws", "built", "LLatinLaws$Table;", true)
  | 2 => ("LatinLaws", "endings", "LLatinLaws$Endings;", true)
  | 3 => ("LatinLaws", "turns", "LLatinLaws$Turns;", true)
  | _ => ("LatinLaws", "renamings", "LLatinLaws$Renamings;", true)
def xm_y4 : Nat → FieldType := fun k => match k with
  | 0 => .array (.object "LatinLaws$Table")
  | 1 => .object "LatinLaws$Table"
  | 2 => .object "LatinLaws$Endings"
  | 3 => .object "LatinLaws$Turns"
  | _ => .object "LatinLaws$Renamings"
theorem xm_n4 : ∀ a, a < 5 → ∀ b, b < 5 → a ≠ b → (xm_T4 a).2.1 ≠ (xm_T4 b).2.1 := by decide +kernel
theorem xm_p4 : ∀ k, k < 5 → parseFieldDescriptor (xm_T4 k).2.2.1 = some (xm_y4 k) := by decide +kernel
theorem xm_i4 : ∀ w ∈ u_ws "LatinLaws" xm_T4 5, w ∈ lw_tbl ∧ goodWord w = true := by decide +kernel
def xm_T5 : u_T := fun k => match k with
  | 0 => ("LatinLawsModel", "size", "[I", true)
  | 1 => ("LatinLawsModel", "cells", "[I", true)
  | 2 => ("LatinLawsModel", "holes", "I", false)
  | 3 => ("LatinLawsModel", "hole", "[I", true)
  | 4 => ("LatinLawsModel", "image", "[I", true)
  | 5 => ("LatinLawsModel", "members", "[I", true)
  | _ => ("LatinLawsModel", "isMember", "[Z", true)
def xm_y5 : Nat → FieldType := fun k => match k with
  | 0 => .array .int
  | 1 => .array .int
  | 2 => .int
  | 3 => .array .int
  | 4 => .array .int
  | 5 => .array .int
  | _ => .array .boolean
theorem xm_n5 : ∀ a, a < 7 → ∀ b, b < 7 → a ≠ b → (xm_T5 a).2.1 ≠ (xm_T5 b).2.1 := by decide +kernel
theorem xm_p5 : ∀ k, k < 7 → parseFieldDescriptor (xm_T5 k).2.2.1 = some (xm_y5 k) := by decide +kernel
theorem xm_i5 : ∀ w ∈ u_ws "LatinLawsModel" xm_T5 7, w ∈ lw_tbl ∧ goodWord w = true := by decide +kernel
abbrev xm_cl : List vw_C := [("LatinLaws$Table", xm_T0, 2), ("LatinLaws$Endings", xm_T1, 8), ("LatinLaws$Turns", xm_T2, 7), ("LatinLaws$Renamings", xm_T3, 5), ("LatinLaws", xm_T4, 5), ("LatinLawsModel", xm_T5, 7)]
def xm_ty : Nat → Nat → FieldType := fun c => match c with
  | 0 => xm_y0
  | 1 => xm_y1
  | 2 => xm_y2
  | 3 => xm_y3
  | 4 => xm_y4
  | _ => xm_y5
abbrev xm_Op : Type := Nat × Instr × Nat × Nat × Nat
abbrev xm_Me : Type := MethodName × ByteArray × Nat × Option FieldType × Nat × Nat × List xm_Op
def xm_r0 : List xm_Op := [(0, .aload_n 0, 1, 0, 0), (1, .invokespecial 3, 3, 0, 9), (4, .aload_n 0, 1, 0, 0), (5, .bipush 64, 2, 0, 0), (7, .newarray .int, 2, 0, 0), (9, .putfield 9, 3, 0, 1), (12, .aload_n 0, 1, 0, 0), (13, .iconst 1, 1, 0, 0), (14, .invokevirtual 15, 3, 1, 0), (17, .return_, 1, 0, 0)]
def xm_r1 : List xm_Op := [(0, .aload_n 0, 1, 0, 0), (1, .iconst 1, 1, 0, 0), (2, .iload_n 1, 1, 0, 0), (3, .bipush 8, 2, 0, 0), (5, .invokestatic 19, 3, 151, 0), (8, .invokestatic 25, 3, 152, 0), (11, .putfield 28, 3, 0, 0), (14, .aload_n 0, 1, 0, 0), (15, .getfield 9, 3, 0, 1), (18, .iconst (-1), 1, 0, 0), (19, .invokestatic 32, 3, 153, 0), (22, .iconst 0, 1, 0, 0), (23, .istore_n 2, 1, 0, 0), (24, .iload_n 2, 1, 0, 0), (25, .aload_n 0, 1, 0, 0), (26, .getfield 28, 3, 0, 0), (29, .if_icmp .ge 23, 3, 0, 0), (32, .aload_n 0, 1, 0, 0), (33, .iconst 0, 1, 0, 0), (34, .iload_n 2, 1, 0, 0), (35, .iload_n 2, 1, 0, 0), (36, .invokevirtual 38, 3, 2, 0), (39, .aload_n 0, 1, 0, 0), (40, .iload_n 2, 1, 0, 0), (41, .iconst 0, 1, 0, 0), (42, .iload_n 2, 1, 0, 0), (43, .invokevirtual 38, 3, 2, 0), (46, .iinc 2 1, 3, 0, 0), (49, .goto (-25), 3, 0, 0), (52, .return_, 1, 0, 0)]
def xm_r2 : List xm_Op := [(0, .iload_n 1, 1, 0, 0), (1, .ifCond .lt 35, 3, 0, 0), (4, .iload_n 1, 1, 0, 0), (5, .aload_n 0, 1, 0, 0), (6, .getfield 28, 3, 0, 0), (9, .if_icmp .ge 27, 3, 0, 0), (12, .iload_n 2, 1, 0, 0), (13, .ifCond .lt 23, 3, 0, 0), (16, .iload_n 2, 1, 0, 0), (17, .aload_n 0, 1, 0, 0), (18, .getfield 28, 3, 0, 0), (21, .if_icmp .ge 15, 3, 0, 0), (24, .aload_n 0, 1, 0, 0), (25, .getfield 9, 3, 0, 1), (28, .bipush 8, 2, 0, 0), (30, .iload_n 1, 1, 0, 0), (31, .imul, 1, 0, 0), (32, .iload_n 2, 1, 0, 0), (33, .iadd, 1, 0, 0), (34, .iload_n 3, 1, 0, 0), (35, .iastore, 1, 0, 0), (36, .return_, 1, 0, 0)]
def xm_r3 : List xm_Op := [(0, .iconst 0, 1, 0, 0), (1, .istore 4, 2, 0, 0), (3, .iload 4, 2, 0, 0), (5, .aload_n 0, 1, 0, 0), (6, .getfield 28, 3, 0, 0), (9, .if_icmp .ge 33, 3, 0, 0), (12, .aload_n 0, 1, 0, 0), (13, .iload_n 1, 1, 0, 0), (14, .iload 4, 2, 0, 0), (16, .invokevirtual 48, 3, 4, 0), (19, .iload_n 3, 1, 0, 0), (20, .if_icmp .eq 14, 3, 0, 0), (23, .aload_n 0, 1, 0, 0), (24, .iload 4, 2, 0, 0), (26, .iload_n 2, 1, 0, 0), (27, .invokevirtual 48, 3, 4, 0), (30, .iload_n 3, 1, 0, 0), (31, .if_icmp .ne 5, 3, 0, 0), (34, .iconst 1, 1, 0, 0), (35, .ireturn, 1, 0, 0), (36, .iinc 4 1, 3, 0, 0), (39, .goto (-36), 3, 0, 0), (42, .iconst 0, 1, 0, 0), (43, .ireturn, 1, 0, 0)]
def xm_r4 : List xm_Op := [(0, .iload_n 1, 1, 0, 0), (1, .ifCond .lt 37, 3, 0, 0), (4, .iload_n 1, 1, 0, 0), (5, .aload_n 0, 1, 0, 0), (6, .getfield 28, 3, 0, 0), (9, .if_icmp .ge 29, 3, 0, 0), (12, .iload_n 2, 1, 0, 0), (13, .ifCond .lt 25, 3, 0, 0), (16, .iload_n 2, 1, 0, 0), (17, .aload_n 0, 1, 0, 0), (18, .getfield 28, 3, 0, 0), (21, .if_icmp .ge 17, 3, 0, 0), (24, .aload_n 0, 1, 0, 0), (25, .getfield 9, 3, 0, 1), (28, .bipush 8, 2, 0, 0), (30, .iload_n 1, 1, 0, 0), (31, .imul, 1, 0, 0), (32, .iload_n 2, 1, 0, 0), (33, .iadd, 1, 0, 0), (34, .iaload, 1, 0, 0), (35, .goto 4, 3, 0, 0), (38, .iconst (-1), 1, 0, 0), (39, .ireturn, 1, 0, 0)]
def xm_r5 : List xm_Op := [(0, .iconst 0, 1, 0, 0), (1, .istore_n 1, 1, 0, 0), (2, .iconst 1, 1, 0, 0), (3, .istore_n 2, 1, 0, 0), (4, .iload_n 2, 1, 0, 0), (5, .aload_n 0, 1, 0, 0), (6, .getfield 28, 3, 0, 0), (9, .if_icmp .ge 38, 3, 0, 0), (12, .iconst 1, 1, 0, 0), (13, .istore_n 3, 1, 0, 0), (14, .iload_n 3, 1, 0, 0), (15, .aload_n 0, 1, 0, 0), (16, .getfield 28, 3, 0, 0), (19, .if_icmp .ge 22, 3, 0, 0), (22, .aload_n 0, 1, 0, 0), (23, .iload_n 2, 1, 0, 0), (24, .iload_n 3, 1, 0, 0), (25, .invokevirtual 48, 3, 4, 0), (28, .iconst (-1), 1, 0, 0), (29, .if_icmp .ne 6, 3, 0, 0), (32, .iinc 1 1, 3, 0, 0), (35, .iinc 3 1, 3, 0, 0), (38, .goto (-24), 3, 0, 0), (41, .iinc 2 1, 3, 0, 0), (44, .goto (-40), 3, 0, 0), (47, .iload_n 1, 1, 0, 0), (48, .ireturn, 1, 0, 0)]
def xm_r6 : List xm_Op := [(0, .aload_n 0, 1, 0, 0), (1, .aload_n 1, 1, 0, 0), (2, .getfield 28, 3, 0, 0), (5, .putfield 28, 3, 0, 0), (8, .aload_n 1, 1, 0, 0), (9, .getfield 9, 3, 0, 1), (12, .iconst 0, 1, 0, 0), (13, .aload_n 0, 1, 0, 0), (14, .getfield 9, 3, 0, 1), (17, .iconst 0, 1, 0, 0), (18, .bipush 64, 2, 0, 0), (20, .invokestatic 42, 3, 0, 8), (23, .return_, 1, 0, 0)]
def xm_r7 : List xm_Op := [(0, .aload_n 0, 1, 0, 0), (1, .invokevirtual 51, 3, 5, 0), (4, .ifCond .ne 7, 3, 0, 0), (7, .iconst 1, 1, 0, 0), (8, .goto 4, 3, 0, 0), (11, .iconst 0, 1, 0, 0), (12, .ireturn, 1, 0, 0)]
def xm_r8 : List xm_Op := [(0, .iconst 0, 1, 0, 0), (1, .istore_n 3, 1, 0, 0), (2, .iload_n 3, 1, 0, 0), (3, .aload_n 0, 1, 0, 0), (4, .getfield 28, 3, 0, 0), (7, .if_icmp .ge 21, 3, 0, 0), (10, .aload_n 0, 1, 0, 0), (11, .iload_n 1, 1, 0, 0), (12, .iload_n 3, 1, 0, 0), (13, .invokevirtual 48, 3, 4, 0), (16, .iload_n 2, 1, 0, 0), (17, .if_icmp .ne 5, 3, 0, 0), (20, .iload_n 3, 1, 0, 0), (21, .ireturn, 1, 0, 0), (22, .iinc 3 1, 3, 0, 0), (25, .goto (-23), 3, 0, 0), (28, .iconst (-1), 1, 0, 0), (29, .ireturn, 1, 0, 0)]
def xm_r9 : List xm_Op := [(0, .iconst 0, 1, 0, 0), (1, .istore_n 3, 1, 0, 0), (2, .iload_n 3, 1, 0, 0), (3, .aload_n 0, 1, 0, 0), (4, .getfield 28, 3, 0, 0), (7, .if_icmp .ge 21, 3, 0, 0), (10, .aload_n 0, 1, 0, 0), (11, .iload_n 3, 1, 0, 0), (12, .iload_n 2, 1, 0, 0), (13, .invokevirtual 48, 3, 4, 0), (16, .iload_n 1, 1, 0, 0), (17, .if_icmp .ne 5, 3, 0, 0), (20, .iload_n 3, 1, 0, 0), (21, .ireturn, 1, 0, 0), (22, .iinc 3 1, 3, 0, 0), (25, .goto (-23), 3, 0, 0), (28, .iconst (-1), 1, 0, 0), (29, .ireturn, 1, 0, 0)]
def xm_r10 : List xm_Op := [(0, .aload_n 0, 1, 0, 0), (1, .invokespecial 3, 3, 0, 9), (4, .aload_n 0, 1, 0, 0), (5, .new 9, 3, 0, 0), (8, .dup, 1, 0, 0), (9, .invokespecial 11, 3, 0, 0), (12, .putfield 12, 3, 1, 0), (15, .aload_n 0, 1, 0, 0), (16, .new 9, 3, 0, 0), (19, .dup, 1, 0, 0), (20, .invokespecial 11, 3, 0, 0), (23, .putfield 18, 3, 1, 1), (26, .aload_n 0, 1, 0, 0), (27, .bipush 25, 2, 0, 0), (29, .newarray .int, 2, 0, 0), (31, .putfield 21, 3, 1, 2), (34, .aload_n 0, 1, 0, 0), (35, .bipush 8, 2, 0, 0), (37, .newarray .int, 2, 0, 0), (39, .putfield 25, 3, 1, 4), (42, .aload_n 0, 1, 0, 0), (43, .bipush 8, 2, 0, 0), (45, .newarray .int, 2, 0, 0), (47, .putfield 28, 3, 1, 5), (50, .return_, 1, 0, 0)]
def xm_r11 : List xm_Op := [(0, .aload_n 0, 1, 0, 0), (1, .getfield 18, 3, 1, 1), (4, .aload_n 1, 1, 0, 0), (5, .invokevirtual 31, 3, 6, 0), (8, .aload_n 0, 1, 0, 0), (9, .iload_n 2, 1, 0, 0), (10, .putfield 35, 3, 1, 7), (13, .aload_n 0, 1, 0, 0), (14, .iconst 0, 1, 0, 0), (15, .putfield 39, 3, 1, 6), (18, .aload_n 0, 1, 0, 0), (19, .invokevirtual 42, 3, 12, 0), (22, .aload_n 0, 1, 0, 0), (23, .iconst 0, 1, 0, 0), (24, .invokevirtual 45, 3, 13, 0), (27, .aload_n 0, 1, 0, 0), (28, .getfield 39, 3, 1, 6), (31, .ireturn, 1, 0, 0)]
def xm_r12 : List xm_Op := [(0, .aload_n 0, 1, 0, 0), (1, .getfield 25, 3, 1, 4), (4, .iconst 0, 1, 0, 0), (5, .invokestatic 49, 3, 153, 0), (8, .aload_n 0, 1, 0, 0), (9, .getfield 28, 3, 1, 5), (12, .iconst 0, 1, 0, 0), (13, .invokestatic 49, 3, 153, 0), (16, .aload_n 0, 1, 0, 0), (17, .iconst 0, 1, 0, 0), (18, .putfield 54, 3, 1, 3), (21, .iconst 0, 1, 0, 0), (22, .istore_n 1, 1, 0, 0), (23, .iload_n 1, 1, 0, 0), (24, .aload_n 0, 1, 0, 0), (25, .getfield 18, 3, 1, 1), (28, .getfield 57, 3, 0, 0), (31, .if_icmp .ge 104, 3, 0, 0), (34, .iconst 0, 1, 0, 0), (35, .istore_n 2, 1, 0, 0), (36, .iload_n 2, 1, 0, 0), (37, .aload_n 0, 1, 0, 0), (38, .getfield 18, 3, 1, 1), (41, .getfield 57, 3, 0, 0), (44, .if_icmp .ge 85, 3, 0, 0), (47, .aload_n 0, 1, 0, 0), (48, .getfield 18, 3, 1, 1), (51, .iload_n 1, 1, 0, 0), (52, .iload_n 2, 1, 0, 0), (53, .invokevirtual 60, 3, 4, 0), (56, .istore_n 3, 1, 0, 0), (57, .iload_n 3, 1, 0, 0), (58, .iconst (-1), 1, 0, 0), (59, .if_icmp .eq 30, 3, 0, 0), (62, .aload_n 0, 1, 0, 0), (63, .getfield 25, 3, 1, 4), (66, .iload_n 1, 1, 0, 0), (67, .dup2, 1, 0, 0), (68, .iaload, 1, 0, 0), (69, .iconst 1, 1, 0, 0), (70, .iload_n 3, 1, 0, 0), (71, .ishl, 1, 0, 0), (72, .ior, 1, 0, 0), (73, .iastore, 1, 0, 0), (74, .aload_n 0, 1, 0, 0), (75, .getfield 28, 3, 1, 5), (78, .iload_n 2, 1, 0, 0), (79, .dup2, 1, 0, 0), (80, .iaload, 1, 0, 0), (81, .iconst 1, 1, 0, 0), (82, .iload_n 3, 1, 0, 0), (83, .ishl, 1, 0, 0), (84, .ior, 1, 0, 0), (85, .iastore, 1, 0, 0), (86, .goto 37, 3, 0, 0), (89, .aload_n 0, 1, 0, 0), (90, .getfield 54, 3, 1, 3), (93, .bipush 25, 2, 0, 0), (95, .if_icmp .ge 28, 3, 0, 0), (98, .aload_n 0, 1, 0, 0), (99, .getfield 21, 3, 1, 2), (102, .aload_n 0, 1, 0, 0), (103, .getfield 54, 3, 1, 3), (106, .bipush 8, 2, 0, 0), (108, .iload_n 1, 1, 0, 0), (109, .imul, 1, 0, 0), (110, .iload_n 2, 1, 0, 0), (111, .iadd, 1, 0, 0), (112, .iastore, 1, 0, 0), (113, .aload_n 0, 1, 0, 0), (114, .dup, 1, 0, 0), (115, .getfield 54, 3, 1, 3), (118, .iconst 1, 1, 0, 0), (119, .iadd, 1, 0, 0), (120, .putfield 54, 3, 1, 3), (123, .iinc 2 1, 3, 0, 0), (126, .goto (-90), 3, 0, 0), (129, .iinc 1 1, 3, 0, 0), (132, .goto (-109), 3, 0, 0), (135, .return_, 1, 0, 0)]
def xm_r13 : List xm_Op := [(0, .iload_n 1, 1, 0, 0), (1, .aload_n 0, 1, 0, 0), (2, .getfield 54, 3, 1, 3), (5, .if_icmp .lt 8, 3, 0, 0), (8, .aload_n 0, 1, 0, 0), (9, .invokevirtual 64, 3, 14, 0), (12, .return_, 1, 0, 0), (13, .aload_n 0, 1, 0, 0), (14, .getfield 21, 3, 1, 2), (17, .iload_n 1, 1, 0, 0), (18, .iaload, 1, 0, 0), (19, .bipush 8, 2, 0, 0), (21, .idiv, 1, 0, 0), (22, .istore_n 2, 1, 0, 0), (23, .aload_n 0, 1, 0, 0), (24, .getfield 21, 3, 1, 2), (27, .iload_n 1, 1, 0, 0), (28, .iaload, 1, 0, 0), (29, .bipush 8, 2, 0, 0), (31, .irem, 1, 0, 0), (32, .istore_n 3, 1, 0, 0), (33, .aload_n 0, 1, 0, 0), (34, .getfield 25, 3, 1, 4), (37, .iload_n 2, 1, 0, 0), (38, .iaload, 1, 0, 0), (39, .aload_n 0, 1, 0, 0), (40, .getfield 28, 3, 1, 5), (43, .iload_n 3, 1, 0, 0), (44, .iaload, 1, 0, 0), (45, .ior, 1, 0, 0), (46, .istore 4, 2, 0, 0), (48, .iconst 0, 1, 0, 0), (49, .istore 5, 2, 0, 0), (51, .iload 5, 2, 0, 0), (53, .aload_n 0, 1, 0, 0), (54, .getfield 18, 3, 1, 1), (57, .getfield 57, 3, 0, 0), (60, .if_icmp .ge 100, 3, 0, 0), (63, .aload_n 0, 1, 0, 0), (64, .getfield 39, 3, 1, 6), (67, .aload_n 0, 1, 0, 0), (68, .getfield 35, 3, 1, 7), (71, .if_icmp .ge 89, 3, 0, 0), (74, .iconst 1, 1, 0, 0), (75, .iload 5, 2, 0, 0), (77, .ishl, 1, 0, 0), (78, .istore 6, 2, 0, 0), (80, .iload 4, 2, 0, 0), (82, .iload 6, 2, 0, 0), (84, .iand, 1, 0, 0), (85, .ifCond .ne 69, 3, 0, 0), (88, .aload_n 0, 1, 0, 0), (89, .getfield 18, 3, 1, 1), (92, .iload_n 2, 1, 0, 0), (93, .iload_n 3, 1, 0, 0), (94, .iload 5, 2, 0, 0), (96, .invokevirtual 67, 3, 2, 0), (99, .aload_n 0, 1, 0, 0), (100, .getfield 25, 3, 1, 4), (103, .iload_n 2, 1, 0, 0), (104, .dup2, 1, 0, 0), (105, .iaload, 1, 0, 0), (106, .iload 6, 2, 0, 0), (108, .ior, 1, 0, 0), (109, .iastore, 1, 0, 0), (110, .aload_n 0, 1, 0, 0), (111, .getfield 28, 3, 1, 5), (114, .iload_n 3, 1, 0, 0), (115, .dup2, 1, 0, 0), (116, .iaload, 1, 0, 0), (117, .iload 6, 2, 0, 0), (119, .ior, 1, 0, 0), (120, .iastore, 1, 0, 0), (121, .aload_n 0, 1, 0, 0), (122, .iload_n 1, 1, 0, 0), (123, .iconst 1, 1, 0, 0), (124, .iadd, 1, 0, 0), (125, .invokevirtual 45, 3, 13, 0), (128, .aload_n 0, 1, 0, 0), (129, .getfield 25, 3, 1, 4), (132, .iload_n 2, 1, 0, 0), (133, .dup2, 1, 0, 0), (134, .iaload, 1, 0, 0), (135, .iload 6, 2, 0, 0), (137, .iconst (-1), 1, 0, 0), (138, .ixor, 1, 0, 0), (139, .iand, 1, 0, 0), (140, .iastore, 1, 0, 0), (141, .aload_n 0, 1, 0, 0), (142, .getfield 28, 3, 1, 5), (145, .iload_n 3, 1, 0, 0), (146, .dup2, 1, 0, 0), (147, .iaload, 1, 0, 0), (148, .iload 6, 2, 0, 0), (150, .iconst (-1), 1, 0, 0), (151, .ixor, 1, 0, 0), (152, .iand, 1, 0, 0), (153, .iastore, 1, 0, 0), (154, .iinc 5 1, 3, 0, 0), (157, .goto (-106), 3, 0, 0), (160, .return_, 1, 0, 0)]
def xm_r14 : List xm_Op := [(0, .aload_n 0, 1, 0, 0), (1, .getfield 39, 3, 1, 6), (4, .ifCond .ne 14, 3, 0, 0), (7, .aload_n 0, 1, 0, 0), (8, .getfield 12, 3, 1, 0), (11, .aload_n 0, 1, 0, 0), (12, .getfield 18, 3, 1, 1), (15, .invokevirtual 31, 3, 6, 0), (18, .aload_n 0, 1, 0, 0), (19, .dup, 1, 0, 0), (20, .getfield 39, 3, 1, 6), (23, .iconst 1, 1, 0, 0), (24, .iadd, 1, 0, 0), (25, .putfield 39, 3, 1, 6), (28, .return_, 1, 0, 0)]
def xm_r15 : List xm_Op := [(0, .aload_n 0, 1, 0, 0), (1, .invokespecial 3, 3, 0, 9), (4, .aload_n 0, 1, 0, 0), (5, .sipush 343, 3, 0, 0), (8, .newarray .int, 2, 0, 0), (10, .putfield 11, 3, 2, 1), (13, .aload_n 0, 1, 0, 0), (14, .sipush 343, 3, 0, 0), (17, .newarray .int, 2, 0, 0), (19, .putfield 15, 3, 2, 2), (22, .aload_n 0, 1, 0, 0), (23, .bipush 7, 2, 0, 0), (25, .newarray .int, 2, 0, 0), (27, .putfield 18, 3, 2, 3), (30, .aload_n 0, 1, 0, 0), (31, .bipush 49, 2, 0, 0), (33, .newarray .int, 2, 0, 0), (35, .putfield 21, 3, 2, 4), (38, .aload_n 0, 1, 0, 0), (39, .bipush 7, 2, 0, 0), (41, .newarray .int, 2, 0, 0), (43, .putfield 24, 3, 2, 6), (46, .return_, 1, 0, 0)]
def xm_r16 : List xm_Op := [(0, .aload_n 0, 1, 0, 0), (1, .aload_n 1, 1, 0, 0), (2, .getfield 27, 3, 0, 0), (5, .bipush 7, 2, 0, 0), (7, .invokestatic 33, 3, 151, 0), (10, .putfield 39, 3, 2, 0), (13, .aload_n 0, 1, 0, 0), (14, .iconst 0, 1, 0, 0), (15, .putfield 40, 3, 2, 5), (18, .aload_n 0, 1, 0, 0), (19, .getfield 18, 3, 2, 3), (22, .iconst 0, 1, 0, 0), (23, .invokestatic 43, 3, 153, 0), (26, .aload_n 0, 1, 0, 0), (27, .aload_n 1, 1, 0, 0), (28, .invokevirtual 49, 3, 17, 0), (31, .aload_n 0, 1, 0, 0), (32, .invokevirtual 53, 3, 23, 0), (35, .aload_n 0, 1, 0, 0), (36, .invokevirtual 56, 3, 25, 0), (39, .ireturn, 1, 0, 0)]
def xm_r17 : List xm_Op := [(0, .iconst 1, 1, 0, 0), (1, .istore_n 2, 1, 0, 0), (2, .iload_n 2, 1, 0, 0), (3, .aload_n 0, 1, 0, 0), (4, .getfield 39, 3, 2, 0), (7, .if_icmp .ge 73, 3, 0, 0), (10, .iconst 0, 1, 0, 0), (11, .istore_n 3, 1, 0, 0), (12, .iload_n 3, 1, 0, 0), (13, .aload_n 0, 1, 0, 0), (14, .getfield 39, 3, 2, 0), (17, .if_icmp .ge 21, 3, 0, 0), (20, .aload_n 0, 1, 0, 0), (21, .getfield 24, 3, 2, 6), (24, .iload_n 3, 1, 0, 0), (25, .aload_n 1, 1, 0, 0), (26, .iload_n 2, 1, 0, 0), (27, .iload_n 3, 1, 0, 0), (28, .invokevirtual 60, 3, 4, 0), (31, .iastore, 1, 0, 0), (32, .iinc 3 1, 3, 0, 0), (35, .goto (-23), 3, 0, 0), (38, .aload_n 0, 1, 0, 0), (39, .invokevirtual 63, 3, 18, 0), (42, .iconst 0, 1, 0, 0), (43, .istore_n 3, 1, 0, 0), (44, .iload_n 3, 1, 0, 0), (45, .aload_n 0, 1, 0, 0), (46, .getfield 39, 3, 2, 0), (49, .if_icmp .ge 21, 3, 0, 0), (52, .aload_n 0, 1, 0, 0), (53, .getfield 24, 3, 2, 6), (56, .iload_n 3, 1, 0, 0), (57, .aload_n 1, 1, 0, 0), (58, .iload_n 3, 1, 0, 0), (59, .iload_n 2, 1, 0, 0), (60, .invokevirtual 60, 3, 4, 0), (63, .iastore, 1, 0, 0), (64, .iinc 3 1, 3, 0, 0), (67, .goto (-23), 3, 0, 0), (70, .aload_n 0, 1, 0, 0), (71, .invokevirtual 63, 3, 18, 0), (74, .iinc 2 1, 3, 0, 0), (77, .goto (-75), 3, 0, 0), (80, .return_, 1, 0, 0)]
def xm_r18 : List xm_Op := [(0, .iconst 0, 1, 0, 0), (1, .istore_n 1, 1, 0, 0), (2, .iload_n 1, 1, 0, 0), (3, .aload_n 0, 1, 0, 0), (4, .getfield 39, 3, 2, 0), (7, .if_icmp .ge 60, 3, 0, 0), (10, .aload_n 0, 1, 0, 0), (11, .getfield 24, 3, 2, 6), (14, .iload_n 1, 1, 0, 0), (15, .iaload, 1, 0, 0), (16, .istore_n 2, 1, 0, 0), (17, .iload_n 2, 1, 0, 0), (18, .iload_n 1, 1, 0, 0), (19, .if_icmp .eq 42, 3, 0, 0), (22, .iload_n 2, 1, 0, 0), (23, .bipush 7, 2, 0, 0), (25, .invokestatic 74, 3, 41, 1), (28, .ifCond .eq 33, 3, 0, 0), (31, .aload_n 0, 1, 0, 0), (32, .getfield 18, 3, 2, 3), (35, .iload_n 1, 1, 0, 0), (36, .iaload, 1, 0, 0), (37, .iload_n 2, 1, 0, 0), (38, .ishr, 1, 0, 0), (39, .iconst 1, 1, 0, 0), (40, .iand, 1, 0, 0), (41, .ifCond .ne 10, 3, 0, 0), (44, .aload_n 0, 1, 0, 0), (45, .iload_n 1, 1, 0, 0), (46, .iload_n 2, 1, 0, 0), (47, .invokevirtual 78, 3, 19, 0), (50, .return_, 1, 0, 0), (51, .aload_n 0, 1, 0, 0), (52, .bipush 7, 2, 0, 0), (54, .iload_n 1, 1, 0, 0), (55, .imul, 1, 0, 0), (56, .iload_n 2, 1, 0, 0), (57, .iadd, 1, 0, 0), (58, .invokevirtual 81, 3, 21, 0), (61, .iinc 1 1, 3, 0, 0), (64, .goto (-62), 3, 0, 0), (67, .return_, 1, 0, 0)]
def xm_r19 : List xm_Op := [(0, .aload_n 0, 1, 0, 0), (1, .getfield 40, 3, 2, 5), (4, .bipush 49, 2, 0, 0), (6, .if_icmp .ge 94, 3, 0, 0), (9, .bipush 7, 2, 0, 0), (11, .iload_n 1, 1, 0, 0), (12, .imul, 1, 0, 0), (13, .iload_n 2, 1, 0, 0), (14, .iadd, 1, 0, 0), (15, .istore_n 3, 1, 0, 0), (16, .aload_n 0, 1, 0, 0), (17, .getfield 18, 3, 2, 3), (20, .iload_n 1, 1, 0, 0), (21, .dup2, 1, 0, 0), (22, .iaload, 1, 0, 0), (23, .iconst 1, 1, 0, 0), (24, .iload_n 2, 1, 0, 0), (25, .ishl, 1, 0, 0), (26, .ior, 1, 0, 0), (27, .iastore, 1, 0, 0), (28, .iconst 0, 1, 0, 0), (29, .istore 4, 2, 0, 0), (31, .iload 4, 2, 0, 0), (33, .aload_n 0, 1, 0, 0), (34, .getfield 39, 3, 2, 0), (37, .if_icmp .ge 43, 3, 0, 0), (40, .aload_n 0, 1, 0, 0), (41, .getfield 11, 3, 2, 1), (44, .iload_n 3, 1, 0, 0), (45, .iload 4, 2, 0, 0), (47, .aload_n 0, 1, 0, 0), (48, .getfield 24, 3, 2, 6), (51, .iload 4, 2, 0, 0), (53, .iaload, 1, 0, 0), (54, .invokestatic 85, 3, 20, 0), (57, .aload_n 0, 1, 0, 0), (58, .getfield 15, 3, 2, 2), (61, .iload_n 3, 1, 0, 0), (62, .aload_n 0, 1, 0, 0), (63, .getfield 24, 3, 2, 6), (66, .iload 4, 2, 0, 0), (68, .iaload, 1, 0, 0), (69, .iload 4, 2, 0, 0), (71, .invokestatic 85, 3, 20, 0), (74, .iinc 4 1, 3, 0, 0), (77, .goto (-46), 3, 0, 0), (80, .aload_n 0, 1, 0, 0), (81, .getfield 21, 3, 2, 4), (84, .aload_n 0, 1, 0, 0), (85, .getfield 40, 3, 2, 5), (88, .iload_n 3, 1, 0, 0), (89, .iastore, 1, 0, 0), (90, .aload_n 0, 1, 0, 0), (91, .dup, 1, 0, 0), (92, .getfield 40, 3, 2, 5), (95, .iconst 1, 1, 0, 0), (96, .iadd, 1, 0, 0), (97, .putfield 40, 3, 2, 5), (100, .return_, 1, 0, 0)]
def xm_r20 : List xm_Op := [(0, .bipush 7, 2, 0, 0), (2, .iload_n 1, 1, 0, 0), (3, .imul, 1, 0, 0), (4, .iload_n 2, 1, 0, 0), (5, .iadd, 1, 0, 0), (6, .istore 4, 2, 0, 0), (8, .iload 4, 2, 0, 0), (10, .ifCond .lt 15, 3, 0, 0), (13, .iload 4, 2, 0, 0), (15, .aload_n 0, 1, 0, 0), (16, .arraylength, 1, 0, 0), (17, .if_icmp .ge 8, 3, 0, 0), (20, .aload_n 0, 1, 0, 0), (21, .iload 4, 2, 0, 0), (23, .iload_n 3, 1, 0, 0), (24, .iastore, 1, 0, 0), (25, .return_, 1, 0, 0)]
def xm_r21 : List xm_Op := [(0, .iconst 0, 1, 0, 0), (1, .istore_n 2, 1, 0, 0), (2, .iload_n 2, 1, 0, 0), (3, .aload_n 0, 1, 0, 0), (4, .getfield 39, 3, 2, 0), (7, .if_icmp .ge 29, 3, 0, 0), (10, .aload_n 0, 1, 0, 0), (11, .getfield 24, 3, 2, 6), (14, .iload_n 2, 1, 0, 0), (15, .aload_n 0, 1, 0, 0), (16, .getfield 15, 3, 2, 2), (19, .iload_n 1, 1, 0, 0), (20, .aload_n 0, 1, 0, 0), (21, .getfield 24, 3, 2, 6), (24, .iload_n 2, 1, 0, 0), (25, .iaload, 1, 0, 0), (26, .invokestatic 70, 3, 22, 0), (29, .iastore, 1, 0, 0), (30, .iinc 2 1, 3, 0, 0), (33, .goto (-31), 3, 0, 0), (36, .return_, 1, 0, 0)]
def xm_r22 : List xm_Op := [(0, .bipush 7, 2, 0, 0), (2, .iload_n 1, 1, 0, 0), (3, .imul, 1, 0, 0), (4, .iload_n 2, 1, 0, 0), (5, .iadd, 1, 0, 0), (6, .istore_n 3, 1, 0, 0), (7, .iload_n 3, 1, 0, 0), (8, .ifCond .lt 15, 3, 0, 0), (11, .iload_n 3, 1, 0, 0), (12, .aload_n 0, 1, 0, 0), (13, .arraylength, 1, 0, 0), (14, .if_icmp .ge 9, 3, 0, 0), (17, .aload_n 0, 1, 0, 0), (18, .iload_n 3, 1, 0, 0), (19, .iaload, 1, 0, 0), (20, .goto 4, 3, 0, 0), (23, .iload_n 2, 1, 0, 0), (24, .ireturn, 1, 0, 0)]
def xm_r23 : List xm_Op := [(0, .iconst 0, 1, 0, 0), (1, .istore_n 1, 1, 0, 0), (2, .iload_n 1, 1, 0, 0), (3, .aload_n 0, 1, 0, 0), (4, .getfield 40, 3, 2, 5), (7, .if_icmp .ge 60, 3, 0, 0), (10, .iload_n 1, 1, 0, 0), (11, .bipush 49, 2, 0, 0), (13, .if_icmp .ge 54, 3, 0, 0), (16, .iconst 0, 1, 0, 0), (17, .istore_n 2, 1, 0, 0), (18, .iload_n 2, 1, 0, 0), (19, .iload_n 1, 1, 0, 0), (20, .if_icmp .gt 41, 3, 0, 0), (23, .aload_n 0, 1, 0, 0), (24, .aload_n 0, 1, 0, 0), (25, .getfield 21, 3, 2, 4), (28, .iload_n 1, 1, 0, 0), (29, .iaload, 1, 0, 0), (30, .aload_n 0, 1, 0, 0), (31, .getfield 21, 3, 2, 4), (34, .iload_n 2, 1, 0, 0), (35, .iaload, 1, 0, 0), (36, .invokevirtual 66, 3, 24, 0), (39, .aload_n 0, 1, 0, 0), (40, .aload_n 0, 1, 0, 0), (41, .getfield 21, 3, 2, 4), (44, .iload_n 2, 1, 0, 0), (45, .iaload, 1, 0, 0), (46, .aload_n 0, 1, 0, 0), (47, .getfield 21, 3, 2, 4), (50, .iload_n 1, 1, 0, 0), (51, .iaload, 1, 0, 0), (52, .invokevirtual 66, 3, 24, 0), (55, .iinc 2 1, 3, 0, 0), (58, .goto (-40), 3, 0, 0), (61, .iinc 1 1, 3, 0, 0), (64, .goto (-62), 3, 0, 0), (67, .return_, 1, 0, 0)]
def xm_r24 : List xm_Op := [(0, .iconst 0, 1, 0, 0), (1, .istore_n 3, 1, 0, 0), (2, .iload_n 3, 1, 0, 0), (3, .aload_n 0, 1, 0, 0), (4, .getfield 39, 3, 2, 0), (7, .if_icmp .ge 32, 3, 0, 0), (10, .aload_n 0, 1, 0, 0), (11, .getfield 24, 3, 2, 6), (14, .iload_n 3, 1, 0, 0), (15, .aload_n 0, 1, 0, 0), (16, .getfield 11, 3, 2, 1), (19, .iload_n 2, 1, 0, 0), (20, .aload_n 0, 1, 0, 0), (21, .getfield 11, 3, 2, 1), (24, .iload_n 1, 1, 0, 0), (25, .iload_n 3, 1, 0, 0), (26, .invokestatic 70, 3, 22, 0), (29, .invokestatic 70, 3, 22, 0), (32, .iastore, 1, 0, 0), (33, .iinc 3 1, 3, 0, 0), (36, .goto (-34), 3, 0, 0), (39, .aload_n 0, 1, 0, 0), (40, .invokevirtual 63, 3, 18, 0), (43, .return_, 1, 0, 0)]
def xm_r25 : List xm_Op := [(0, .iconst 1, 1, 0, 0), (1, .istore_n 1, 1, 0, 0), (2, .iconst 0, 1, 0, 0), (3, .istore_n 2, 1, 0, 0), (4, .iload_n 2, 1, 0, 0), (5, .aload_n 0, 1, 0, 0), (6, .getfield 39, 3, 2, 0), (9, .if_icmp .ge 23, 3, 0, 0), (12, .iload_n 1, 1, 0, 0), (13, .iconst 1, 1, 0, 0), (14, .aload_n 0, 1, 0, 0), (15, .getfield 18, 3, 2, 3), (18, .iload_n 2, 1, 0, 0), (19, .iaload, 1, 0, 0), (20, .invokestatic 89, 3, 150, 0), (23, .iadd, 1, 0, 0), (24, .imul, 1, 0, 0), (25, .istore_n 1, 1, 0, 0), (26, .iinc 2 1, 3, 0, 0), (29, .goto (-25), 3, 0, 0), (32, .iload_n 1, 1, 0, 0), (33, .ireturn, 1, 0, 0)]
def xm_r26 : List xm_Op := [(0, .aload_n 0, 1, 0, 0), (1, .invokespecial 3, 3, 0, 9), (4, .aload_n 0, 1, 0, 0), (5, .new 9, 3, 0, 0), (8, .dup, 1, 0, 0), (9, .invokespecial 11, 3, 0, 0), (12, .putfield 12, 3, 3, 0), (15, .aload_n 0, 1, 0, 0), (16, .bipush 8, 2, 0, 0), (18, .newarray .int, 2, 0, 0), (20, .putfield 18, 3, 3, 1), (23, .aload_n 0, 1, 0, 0), (24, .bipush 8, 2, 0, 0), (26, .newarray .int, 2, 0, 0), (28, .putfield 22, 3, 3, 2), (31, .aload_n 0, 1, 0, 0), (32, .bipush 8, 2, 0, 0), (34, .newarray .int, 2, 0, 0), (36, .putfield 25, 3, 3, 3), (39, .return_, 1, 0, 0)]
def xm_r27 : List xm_Op := [(0, .aload_n 1, 1, 0, 0), (1, .getfield 28, 3, 0, 0), (4, .aload_n 2, 1, 0, 0), (5, .getfield 28, 3, 0, 0), (8, .if_icmp .eq 5, 3, 0, 0), (11, .iconst 0, 1, 0, 0), (12, .ireturn, 1, 0, 0), (13, .iconst 0, 1, 0, 0), (14, .istore 4, 2, 0, 0), (16, .iload 4, 2, 0, 0), (18, .aload_n 1, 1, 0, 0), (19, .getfield 28, 3, 0, 0), (22, .if_icmp .ge 47, 3, 0, 0), (25, .iconst 0, 1, 0, 0), (26, .istore 5, 2, 0, 0), (28, .iload 5, 2, 0, 0), (30, .aload_n 1, 1, 0, 0), (31, .getfield 28, 3, 0, 0), (34, .if_icmp .ge 29, 3, 0, 0), (37, .aload_n 1, 1, 0, 0), (38, .iload 4, 2, 0, 0), (40, .iload 5, 2, 0, 0), (42, .aload_n 3, 1, 0, 0), (43, .invokestatic 36, 3, 28, 0), (46, .aload_n 0, 1, 0, 0), (47, .aload_n 3, 1, 0, 0), (48, .aload_n 2, 1, 0, 0), (49, .invokevirtual 40, 3, 30, 0), (52, .ifCond .eq 5, 3, 0, 0), (55, .iconst 1, 1, 0, 0), (56, .ireturn, 1, 0, 0), (57, .iinc 5 1, 3, 0, 0), (60, .goto (-32), 3, 0, 0), (63, .iinc 4 1, 3, 0, 0), (66, .goto (-50), 3, 0, 0), (69, .iconst 0, 1, 0, 0), (70, .ireturn, 1, 0, 0)]
def xm_r28 : List xm_Op := [(0, .aload_n 0, 1, 0, 0), (1, .iload_n 1, 1, 0, 0), (2, .iload_n 2, 1, 0, 0), (3, .invokevirtual 44, 3, 4, 0), (6, .istore 4, 2, 0, 0), (8, .aload_n 3, 1, 0, 0), (9, .aload_n 0, 1, 0, 0), (10, .getfield 28, 3, 0, 0), (13, .invokevirtual 48, 3, 1, 0), (16, .iconst 0, 1, 0, 0), (17, .istore 5, 2, 0, 0), (19, .iload 5, 2, 0, 0), (21, .aload_n 0, 1, 0, 0), (22, .getfield 28, 3, 0, 0), (25, .if_icmp .ge 76, 3, 0, 0), (28, .iconst 0, 1, 0, 0), (29, .istore 6, 2, 0, 0), (31, .iload 6, 2, 0, 0), (33, .aload_n 0, 1, 0, 0), (34, .getfield 28, 3, 0, 0), (37, .if_icmp .ge 58, 3, 0, 0), (40, .aload_n 0, 1, 0, 0), (41, .iload 5, 2, 0, 0), (43, .iload_n 2, 1, 0, 0), (44, .invokevirtual 44, 3, 4, 0), (47, .iload 4, 2, 0, 0), (49, .invokestatic 52, 3, 29, 0), (52, .istore 7, 2, 0, 0), (54, .aload_n 0, 1, 0, 0), (55, .iload_n 1, 1, 0, 0), (56, .iload 6, 2, 0, 0), (58, .invokevirtual 44, 3, 4, 0), (61, .iload 4, 2, 0, 0), (63, .invokestatic 52, 3, 29, 0), (66, .istore 8, 2, 0, 0), (68, .aload_n 3, 1, 0, 0), (69, .iload 7, 2, 0, 0), (71, .iload 8, 2, 0, 0), (73, .aload_n 0, 1, 0, 0), (74, .iload 5, 2, 0, 0), (76, .iload 6, 2, 0, 0), (78, .invokevirtual 44, 3, 4, 0), (81, .iload 4, 2, 0, 0), (83, .invokestatic 52, 3, 29, 0), (86, .invokevirtual 55, 3, 2, 0), (89, .iinc 6 1, 3, 0, 0), (92, .goto (-61), 3, 0, 0), (95, .iinc 5 1, 3, 0, 0), (98, .goto (-79), 3, 0, 0), (101, .return_, 1, 0, 0)]
def xm_r29 : List xm_Op := [(0, .iload_n 0, 1, 0, 0), (1, .ifCond .ne 5, 3, 0, 0), (4, .iload_n 1, 1, 0, 0), (5, .ireturn, 1, 0, 0), (6, .iload_n 0, 1, 0, 0), (7, .iload_n 1, 1, 0, 0), (8, .if_icmp .ne 7, 3, 0, 0), (11, .iconst 0, 1, 0, 0), (12, .goto 4, 3, 0, 0), (15, .iload_n 0, 1, 0, 0), (16, .ireturn, 1, 0, 0)]
def xm_r30 : List xm_Op := [(0, .aload_n 0, 1, 0, 0), (1, .getfield 18, 3, 3, 1), (4, .iconst 0, 1, 0, 0), (5, .iconst 0, 1, 0, 0), (6, .iastore, 1, 0, 0), (7, .aload_n 1, 1, 0, 0), (8, .getfield 28, 3, 0, 0), (11, .aload_n 2, 1, 0, 0), (12, .getfield 28, 3, 0, 0), (15, .if_icmp .ne 18, 3, 0, 0), (18, .aload_n 0, 1, 0, 0), (19, .aload_n 1, 1, 0, 0), (20, .aload_n 2, 1, 0, 0), (21, .iconst 1, 1, 0, 0), (22, .iconst 1, 1, 0, 0), (23, .invokevirtual 32, 3, 31, 0), (26, .ifCond .eq 7, 3, 0, 0), (29, .iconst 1, 1, 0, 0), (30, .goto 4, 3, 0, 0), (33, .iconst 0, 1, 0, 0), (34, .ireturn, 1, 0, 0)]
def xm_r31 : List xm_Op := [(0, .iload_n 3, 1, 0, 0), (1, .aload_n 1, 1, 0, 0), (2, .getfield 28, 3, 0, 0), (5, .if_icmp .ge 9, 3, 0, 0), (8, .iload_n 3, 1, 0, 0), (9, .bipush 8, 2, 0, 0), (11, .if_icmp .lt 5, 3, 0, 0), (14, .iconst 1, 1, 0, 0), (15, .ireturn, 1, 0, 0), (16, .iconst 1, 1, 0, 0), (17, .istore 5, 2, 0, 0), (19, .iload 5, 2, 0, 0), (21, .aload_n 2, 1, 0, 0), (22, .getfield 28, 3, 0, 0), (25, .if_icmp .ge 64, 3, 0, 0), (28, .iload 4, 2, 0, 0), (30, .iload 5, 2, 0, 0), (32, .ishr, 1, 0, 0), (33, .iconst 1, 1, 0, 0), (34, .iand, 1, 0, 0), (35, .ifCond .ne 48, 3, 0, 0), (38, .aload_n 0, 1, 0, 0), (39, .getfield 18, 3, 3, 1), (42, .iload_n 3, 1, 0, 0), (43, .iload 5, 2, 0, 0), (45, .iastore, 1, 0, 0), (46, .iload 4, 2, 0, 0), (48, .iconst 1, 1, 0, 0), (49, .iload 5, 2, 0, 0), (51, .ishl, 1, 0, 0), (52, .ior, 1, 0, 0), (53, .istore 6, 2, 0, 0), (55, .aload_n 0, 1, 0, 0), (56, .aload_n 1, 1, 0, 0), (57, .aload_n 2, 1, 0, 0), (58, .iload_n 3, 1, 0, 0), (59, .iload 6, 2, 0, 0), (61, .invokevirtual 59, 3, 32, 0), (64, .ifCond .eq 19, 3, 0, 0), (67, .aload_n 0, 1, 0, 0), (68, .aload_n 1, 1, 0, 0), (69, .aload_n 2, 1, 0, 0), (70, .iload_n 3, 1, 0, 0), (71, .iconst 1, 1, 0, 0), (72, .iadd, 1, 0, 0), (73, .iload 6, 2, 0, 0), (75, .invokevirtual 32, 3, 31, 0), (78, .ifCond .eq 5, 3, 0, 0), (81, .iconst 1, 1, 0, 0), (82, .ireturn, 1, 0, 0), (83, .iinc 5 1, 3, 0, 0), (86, .goto (-67), 3, 0, 0), (89, .iconst 0, 1, 0, 0), (90, .ireturn, 1, 0, 0)]
def xm_r32 : List xm_Op := [(0, .iconst 1, 1, 0, 0), (1, .istore 5, 2, 0, 0), (3, .iload 5, 2, 0, 0), (5, .iload_n 3, 1, 0, 0), (6, .if_icmp .gt 109, 3, 0, 0), (9, .iconst 1, 1, 0, 0), (10, .istore 6, 2, 0, 0), (12, .iload 6, 2, 0, 0), (14, .iload_n 3, 1, 0, 0), (15, .if_icmp .gt 94, 3, 0, 0), (18, .aload_n 1, 1, 0, 0), (19, .iload 5, 2, 0, 0), (21, .iload 6, 2, 0, 0), (23, .invokevirtual 44, 3, 4, 0), (26, .istore 7, 2, 0, 0), (28, .aload_n 2, 1, 0, 0), (29, .aload_n 0, 1, 0, 0), (30, .getfield 18, 3, 3, 1), (33, .iload 5, 2, 0, 0), (35, .iaload, 1, 0, 0), (36, .aload_n 0, 1, 0, 0), (37, .getfield 18, 3, 3, 1), (40, .iload 6, 2, 0, 0), (42, .iaload, 1, 0, 0), (43, .invokevirtual 44, 3, 4, 0), (46, .istore 8, 2, 0, 0), (48, .iload 7, 2, 0, 0), (50, .iload_n 3, 1, 0, 0), (51, .iconst 1, 1, 0, 0), (52, .iadd, 1, 0, 0), (53, .invokestatic 62, 3, 41, 1), (56, .ifCond .eq 23, 3, 0, 0), (59, .aload_n 0, 1, 0, 0), (60, .getfield 18, 3, 3, 1), (63, .iload 7, 2, 0, 0), (65, .iaload, 1, 0, 0), (66, .iload 8, 2, 0, 0), (68, .if_icmp .ne 7, 3, 0, 0), (71, .iconst 1, 1, 0, 0), (72, .goto 22, 3, 0, 0), (75, .iconst 0, 1, 0, 0), (76, .goto 18, 3, 0, 0), (79, .iload 4, 2, 0, 0), (81, .iload 8, 2, 0, 0), (83, .ishr, 1, 0, 0), (84, .iconst 1, 1, 0, 0), (85, .iand, 1, 0, 0), (86, .ifCond .ne 7, 3, 0, 0), (89, .iconst 1, 1, 0, 0), (90, .goto 4, 3, 0, 0), (93, .iconst 0, 1, 0, 0), (94, .istore 9, 2, 0, 0), (96, .iload 9, 2, 0, 0), (98, .ifCond .ne 5, 3, 0, 0), (101, .iconst 0, 1, 0, 0), (102, .ireturn, 1, 0, 0), (103, .iinc 6 1, 3, 0, 0), (106, .goto (-94), 3, 0, 0), (109, .iinc 5 1, 3, 0, 0), (112, .goto (-109), 3, 0, 0), (115, .iconst 1, 1, 0, 0), (116, .ireturn, 1, 0, 0)]
def xm_r33 : List xm_Op := [(0, .aload_n 0, 1, 0, 0), (1, .getfield 12, 3, 3, 0), (4, .aload_n 1, 1, 0, 0), (5, .invokevirtual 66, 3, 6, 0), (8, .aload_n 0, 1, 0, 0), (9, .iconst 0, 1, 0, 0), (10, .putfield 70, 3, 3, 4), (13, .aload_n 0, 1, 0, 0), (14, .getfield 25, 3, 3, 3), (17, .iconst (-1), 1, 0, 0), (18, .invokestatic 73, 3, 153, 0), (21, .aload_n 0, 1, 0, 0), (22, .getfield 22, 3, 3, 2), (25, .iconst 0, 1, 0, 0), (26, .iconst 0, 1, 0, 0), (27, .iastore, 1, 0, 0), (28, .aload_n 0, 1, 0, 0), (29, .getfield 25, 3, 3, 3), (32, .iconst 0, 1, 0, 0), (33, .iconst 0, 1, 0, 0), (34, .iastore, 1, 0, 0), (35, .aload_n 0, 1, 0, 0), (36, .aload_n 1, 1, 0, 0), (37, .iconst 1, 1, 0, 0), (38, .invokevirtual 79, 3, 34, 0), (41, .aload_n 0, 1, 0, 0), (42, .getfield 70, 3, 3, 4), (45, .ireturn, 1, 0, 0)]
def xm_r34 : List xm_Op := [(0, .iload_n 2, 1, 0, 0), (1, .aload_n 1, 1, 0, 0), (2, .getfield 28, 3, 0, 0), (5, .if_icmp .ge 9, 3, 0, 0), (8, .iload_n 2, 1, 0, 0), (9, .bipush 8, 2, 0, 0), (11, .if_icmp .lt 9, 3, 0, 0), (14, .aload_n 0, 1, 0, 0), (15, .aload_n 1, 1, 0, 0), (16, .invokevirtual 83, 3, 35, 0), (19, .return_, 1, 0, 0), (20, .iconst 1, 1, 0, 0), (21, .istore_n 3, 1, 0, 0), (22, .iload_n 3, 1, 0, 0), (23, .aload_n 1, 1, 0, 0), (24, .getfield 28, 3, 0, 0), (27, .if_icmp .ge 59, 3, 0, 0), (30, .aload_n 0, 1, 0, 0), (31, .getfield 25, 3, 3, 3), (34, .iload_n 3, 1, 0, 0), (35, .iaload, 1, 0, 0), (36, .iconst (-1), 1, 0, 0), (37, .if_icmp .ne 43, 3, 0, 0), (40, .aload_n 0, 1, 0, 0), (41, .getfield 22, 3, 3, 2), (44, .iload_n 2, 1, 0, 0), (45, .iload_n 3, 1, 0, 0), (46, .iastore, 1, 0, 0), (47, .aload_n 0, 1, 0, 0), (48, .getfield 25, 3, 3, 3), (51, .iload_n 3, 1, 0, 0), (52, .iload_n 2, 1, 0, 0), (53, .iastore, 1, 0, 0), (54, .aload_n 0, 1, 0, 0), (55, .aload_n 1, 1, 0, 0), (56, .iload_n 2, 1, 0, 0), (57, .iconst 1, 1, 0, 0), (58, .iadd, 1, 0, 0), (59, .invokevirtual 86, 3, 36, 0), (62, .ifCond .gt 11, 3, 0, 0), (65, .aload_n 0, 1, 0, 0), (66, .aload_n 1, 1, 0, 0), (67, .iload_n 2, 1, 0, 0), (68, .iconst 1, 1, 0, 0), (69, .iadd, 1, 0, 0), (70, .invokevirtual 79, 3, 34, 0), (73, .aload_n 0, 1, 0, 0), (74, .getfield 25, 3, 3, 3), (77, .iload_n 3, 1, 0, 0), (78, .iconst (-1), 1, 0, 0), (79, .iastore, 1, 0, 0), (80, .iinc 3 1, 3, 0, 0), (83, .goto (-61), 3, 0, 0), (86, .return_, 1, 0, 0)]
def xm_r35 : List xm_Op := [(0, .aload_n 0, 1, 0, 0), (1, .aload_n 1, 1, 0, 0), (2, .aload_n 1, 1, 0, 0), (3, .getfield 28, 3, 0, 0), (6, .invokevirtual 86, 3, 36, 0), (9, .ifCond .ne 14, 3, 0, 0), (12, .aload_n 0, 1, 0, 0), (13, .dup, 1, 0, 0), (14, .getfield 70, 3, 3, 4), (17, .iconst 1, 1, 0, 0), (18, .iadd, 1, 0, 0), (19, .putfield 70, 3, 3, 4), (22, .return_, 1, 0, 0), (23, .aload_n 0, 1, 0, 0), (24, .iconst 1, 1, 0, 0), (25, .putfield 70, 3, 3, 4), (28, .iconst 1, 1, 0, 0), (29, .istore_n 2, 1, 0, 0), (30, .iload_n 2, 1, 0, 0), (31, .aload_n 1, 1, 0, 0), (32, .getfield 28, 3, 0, 0), (35, .if_icmp .ge 41, 3, 0, 0), (38, .iconst 1, 1, 0, 0), (39, .istore_n 3, 1, 0, 0), (40, .iload_n 3, 1, 0, 0), (41, .aload_n 1, 1, 0, 0), (42, .getfield 28, 3, 0, 0), (45, .if_icmp .ge 25, 3, 0, 0), (48, .aload_n 0, 1, 0, 0), (49, .getfield 12, 3, 3, 0), (52, .iload_n 2, 1, 0, 0), (53, .iload_n 3, 1, 0, 0), (54, .aload_n 0, 1, 0, 0), (55, .aload_n 1, 1, 0, 0), (56, .iload_n 2, 1, 0, 0), (57, .iload_n 3, 1, 0, 0), (58, .invokevirtual 90, 3, 37, 0), (61, .invokevirtual 55, 3, 2, 0), (64, .iinc 3 1, 3, 0, 0), (67, .goto (-27), 3, 0, 0), (70, .iinc 2 1, 3, 0, 0), (73, .goto (-43), 3, 0, 0), (76, .return_, 1, 0, 0)]
def xm_r36 : List xm_Op := [(0, .iconst 1, 1, 0, 0), (1, .istore_n 3, 1, 0, 0), (2, .iload_n 3, 1, 0, 0), (3, .iload_n 2, 1, 0, 0), (4, .if_icmp .ge 95, 3, 0, 0), (7, .iconst 1, 1, 0, 0), (8, .istore 4, 2, 0, 0), (10, .iload 4, 2, 0, 0), (12, .aload_n 1, 1, 0, 0), (13, .getfield 28, 3, 0, 0), (16, .if_icmp .ge 77, 3, 0, 0), (19, .iload 4, 2, 0, 0), (21, .iload_n 2, 1, 0, 0), (22, .if_icmp .lt 5, 3, 0, 0), (25, .iconst 0, 1, 0, 0), (26, .ireturn, 1, 0, 0), (27, .aload_n 0, 1, 0, 0), (28, .getfield 12, 3, 3, 0), (31, .iload_n 3, 1, 0, 0), (32, .iload 4, 2, 0, 0), (34, .invokevirtual 44, 3, 4, 0), (37, .istore 5, 2, 0, 0), (39, .aload_n 0, 1, 0, 0), (40, .aload_n 1, 1, 0, 0), (41, .iload_n 3, 1, 0, 0), (42, .iload 4, 2, 0, 0), (44, .invokevirtual 90, 3, 37, 0), (47, .istore 6, 2, 0, 0), (49, .iload 6, 2, 0, 0), (51, .iconst (-1), 1, 0, 0), (52, .if_icmp .ne 15, 3, 0, 0), (55, .iload_n 2, 1, 0, 0), (56, .iload 5, 2, 0, 0), (58, .if_icmp .le 7, 3, 0, 0), (61, .iconst 1, 1, 0, 0), (62, .goto 4, 3, 0, 0), (65, .iconst 0, 1, 0, 0), (66, .ireturn, 1, 0, 0), (67, .iload 6, 2, 0, 0), (69, .iload 5, 2, 0, 0), (71, .if_icmp .eq 16, 3, 0, 0), (74, .iload 6, 2, 0, 0), (76, .iload 5, 2, 0, 0), (78, .if_icmp .ge 7, 3, 0, 0), (81, .iconst (-1), 1, 0, 0), (82, .goto 4, 3, 0, 0), (85, .iconst 1, 1, 0, 0), (86, .ireturn, 1, 0, 0), (87, .iinc 4 1, 3, 0, 0), (90, .goto (-80), 3, 0, 0), (93, .iinc 3 1, 3, 0, 0), (96, .goto (-94), 3, 0, 0), (99, .iconst 0, 1, 0, 0), (100, .ireturn, 1, 0, 0)]
def xm_r37 : List xm_Op := [(0, .aload_n 1, 1, 0, 0), (1, .aload_n 0, 1, 0, 0), (2, .getfield 22, 3, 3, 2), (5, .iload_n 2, 1, 0, 0), (6, .iaload, 1, 0, 0), (7, .aload_n 0, 1, 0, 0), (8, .getfield 22, 3, 3, 2), (11, .iload_n 3, 1, 0, 0), (12, .iaload, 1, 0, 0), (13, .invokevirtual 44, 3, 4, 0), (16, .istore 4, 2, 0, 0), (18, .iload 4, 2, 0, 0), (20, .bipush 8, 2, 0, 0), (22, .invokestatic 62, 3, 41, 1), (25, .ifCond .eq 13, 3, 0, 0), (28, .aload_n 0, 1, 0, 0), (29, .getfield 25, 3, 3, 3), (32, .iload 4, 2, 0, 0), (34, .iaload, 1, 0, 0), (35, .goto 4, 3, 0, 0), (38, .iconst (-1), 1, 0, 0), (39, .ireturn, 1, 0, 0)]
def xm_r38 : List xm_Op := [(0, .aload_n 0, 1, 0, 0), (1, .invokespecial 1, 3, 0, 9), (4, .aload_n 0, 1, 0, 0), (5, .iconst 4, 1, 0, 0), (6, .anewarray 9, 3, 0, 0), (9, .putfield 11, 3, 4, 0), (12, .iconst 0, 1, 0, 0), (13, .istore_n 1, 1, 0, 0), (14, .iload_n 1, 1, 0, 0), (15, .iconst 4, 1, 0, 0), (16, .if_icmp .ge 22, 3, 0, 0), (19, .aload_n 0, 1, 0, 0), (20, .getfield 11, 3, 4, 0), (23, .iload_n 1, 1, 0, 0), (24, .new 9, 3, 0, 0), (27, .dup, 1, 0, 0), (28, .invokespecial 15, 3, 0, 0), (31, .aastore, 1, 0, 0), (32, .iinc 1 1, 3, 0, 0), (35, .goto (-21), 3, 0, 0), (38, .aload_n 0, 1, 0, 0), (39, .new 9, 3, 0, 0), (42, .dup, 1, 0, 0), (43, .invokespecial 15, 3, 0, 0), (46, .putfield 16, 3, 4, 1), (49, .aload_n 0, 1, 0, 0), (50, .new 20, 3, 1, 0), (53, .dup, 1, 0, 0), (54, .invokespecial 22, 3, 10, 0), (57, .putfield 23, 3, 4, 2), (60, .aload_n 0, 1, 0, 0), (61, .new 27, 3, 2, 0), (64, .dup, 1, 0, 0), (65, .invokespecial 29, 3, 15, 0), (68, .putfield 30, 3, 4, 3), (71, .aload_n 0, 1, 0, 0), (72, .new 34, 3, 3, 0), (75, .dup, 1, 0, 0), (76, .invokespecial 36, 3, 26, 0), (79, .putfield 37, 3, 4, 4), (82, .return_, 1, 0, 0)]
def xm_r39 : List xm_Op := [(0, .iload_n 1, 1, 0, 0), (1, .invokestatic 41, 3, 40, 0), (4, .ifCond .eq 14, 3, 0, 0), (7, .iload_n 2, 1, 0, 0), (8, .iconst 1, 1, 0, 0), (9, .if_icmp .lt 9, 3, 0, 0), (12, .iload_n 2, 1, 0, 0), (13, .bipush 8, 2, 0, 0), (15, .if_icmp .le 5, 3, 0, 0), (18, .iconst (-1), 1, 0, 0), (19, .ireturn, 1, 0, 0), (20, .aload_n 0, 1, 0, 0), (21, .getfield 11, 3, 4, 0), (24, .iload_n 1, 1, 0, 0), (25, .aaload, 1, 0, 0), (26, .iload_n 2, 1, 0, 0), (27, .invokevirtual 45, 3, 1, 0), (30, .iconst 0, 1, 0, 0), (31, .ireturn, 1, 0, 0)]
def xm_r40 : List xm_Op := [(0, .iload_n 0, 1, 0, 0), (1, .iconst 4, 1, 0, 0), (2, .invokestatic 88, 3, 41, 0), (5, .ireturn, 1, 0, 0)]
def xm_r41 : List xm_Op := [(0, .iload_n 0, 1, 0, 0), (1, .ifCond .lt 12, 3, 0, 0), (4, .iload_n 0, 1, 0, 0), (5, .iload_n 1, 1, 0, 0), (6, .if_icmp .ge 7, 3, 0, 0), (9, .iconst 1, 1, 0, 0), (10, .goto 4, 3, 0, 0), (13, .iconst 0, 1, 0, 0), (14, .ireturn, 1, 0, 0)]
def xm_r42 : List xm_Op := [(0, .iload_n 1, 1, 0, 0), (1, .invokestatic 41, 3, 40, 0), (4, .ifCond .eq 29, 3, 0, 0), (7, .iload_n 2, 1, 0, 0), (8, .ifCond .eq 25, 3, 0, 0), (11, .iload_n 3, 1, 0, 0), (12, .ifCond .eq 21, 3, 0, 0), (15, .aload_n 0, 1, 0, 0), (16, .iload_n 1, 1, 0, 0), (17, .iload_n 2, 1, 0, 0), (18, .invokevirtual 49, 3, 43, 0), (21, .ifCond .eq 12, 3, 0, 0), (24, .aload_n 0, 1, 0, 0), (25, .iload_n 1, 1, 0, 0), (26, .iload_n 3, 1, 0, 0), (27, .invokevirtual 49, 3, 43, 0), (30, .ifCond .ne 5, 3, 0, 0), (33, .iconst (-1), 1, 0, 0), (34, .ireturn, 1, 0, 0), (35, .iload 4, 2, 0, 0), (37, .iconst (-1), 1, 0, 0), (38, .if_icmp .eq 15, 3, 0, 0), (41, .aload_n 0, 1, 0, 0), (42, .iload_n 1, 1, 0, 0), (43, .iload 4, 2, 0, 0), (45, .invokevirtual 49, 3, 43, 0), (48, .ifCond .ne 5, 3, 0, 0), (51, .iconst (-1), 1, 0, 0), (52, .ireturn, 1, 0, 0), (53, .iload 4, 2, 0, 0), (55, .iconst (-1), 1, 0, 0), (56, .if_icmp .eq 22, 3, 0, 0), (59, .aload_n 0, 1, 0, 0), (60, .getfield 11, 3, 4, 0), (63, .iload_n 1, 1, 0, 0), (64, .aaload, 1, 0, 0), (65, .iload_n 2, 1, 0, 0), (66, .iload_n 3, 1, 0, 0), (67, .iload 4, 2, 0, 0), (69, .invokevirtual 53, 3, 3, 0), (72, .ifCond .eq 6, 3, 0, 0), (75, .bipush (-2), 2, 0, 0), (77, .ireturn, 1, 0, 0), (78, .aload_n 0, 1, 0, 0), (79, .getfield 11, 3, 4, 0), (82, .iload_n 1, 1, 0, 0), (83, .aaload, 1, 0, 0), (84, .iload_n 2, 1, 0, 0), (85, .iload_n 3, 1, 0, 0), (86, .invokevirtual 57, 3, 4, 0), (89, .istore 5, 2, 0, 0), (91, .aload_n 0, 1, 0, 0), (92, .getfield 11, 3, 4, 0), (95, .iload_n 1, 1, 0, 0), (96, .aaload, 1, 0, 0), (97, .iload_n 2, 1, 0, 0), (98, .iload_n 3, 1, 0, 0), (99, .iload 4, 2, 0, 0), (101, .invokevirtual 61, 3, 2, 0), (104, .iload 5, 2, 0, 0), (106, .invokestatic 65, 3, 44, 0), (109, .ireturn, 1, 0, 0)]
def xm_r43 : List xm_Op := [(0, .iload_n 2, 1, 0, 0), (1, .aload_n 0, 1, 0, 0), (2, .getfield 11, 3, 4, 0), (5, .iload_n 1, 1, 0, 0), (6, .aaload, 1, 0, 0), (7, .getfield 73, 3, 0, 0), (10, .invokestatic 88, 3, 41, 0), (13, .ireturn, 1, 0, 0)]
def xm_r44 : List xm_Op := [(0, .iload_n 0, 1, 0, 0), (1, .iconst (-1), 1, 0, 0), (2, .if_icmp .ne 8, 3, 0, 0), (5, .bipush (-4), 2, 0, 0), (7, .goto 4, 3, 0, 0), (10, .iload_n 0, 1, 0, 0), (11, .ireturn, 1, 0, 0)]
def xm_r45 : List xm_Op := [(0, .iload_n 1, 1, 0, 0), (1, .invokestatic 41, 3, 40, 0), (4, .ifCond .eq 21, 3, 0, 0), (7, .aload_n 0, 1, 0, 0), (8, .iload_n 1, 1, 0, 0), (9, .iload_n 2, 1, 0, 0), (10, .invokevirtual 49, 3, 43, 0), (13, .ifCond .eq 12, 3, 0, 0), (16, .aload_n 0, 1, 0, 0), (17, .iload_n 1, 1, 0, 0), (18, .iload_n 3, 1, 0, 0), (19, .invokevirtual 49, 3, 43, 0), (22, .ifCond .ne 5, 3, 0, 0), (25, .iconst (-1), 1, 0, 0), (26, .ireturn, 1, 0, 0), (27, .aload_n 0, 1, 0, 0), (28, .getfield 11, 3, 4, 0), (31, .iload_n 1, 1, 0, 0), (32, .aaload, 1, 0, 0), (33, .iload_n 2, 1, 0, 0), (34, .iload_n 3, 1, 0, 0), (35, .invokevirtual 57, 3, 4, 0), (38, .invokestatic 65, 3, 44, 0), (41, .ireturn, 1, 0, 0)]
def xm_r46 : List xm_Op := [(0, .iload_n 1, 1, 0, 0), (1, .invokestatic 41, 3, 40, 0), (4, .ifCond .ne 5, 3, 0, 0), (7, .iconst (-1), 1, 0, 0), (8, .ireturn, 1, 0, 0), (9, .aload_n 0, 1, 0, 0), (10, .getfield 11, 3, 4, 0), (13, .iload_n 1, 1, 0, 0), (14, .aaload, 1, 0, 0), (15, .invokevirtual 69, 3, 5, 0), (18, .ireturn, 1, 0, 0)]
def xm_r47 : List xm_Op := [(0, .iload_n 1, 1, 0, 0), (1, .invokestatic 41, 3, 40, 0), (4, .ifCond .eq 15, 3, 0, 0), (7, .iload_n 2, 1, 0, 0), (8, .iconst 1, 1, 0, 0), (9, .if_icmp .lt 10, 3, 0, 0), (12, .iload_n 2, 1, 0, 0), (13, .sipush 10000, 3, 0, 0), (16, .if_icmp .le 5, 3, 0, 0), (19, .iconst (-1), 1, 0, 0), (20, .ireturn, 1, 0, 0), (21, .aload_n 0, 1, 0, 0), (22, .getfield 11, 3, 4, 0), (25, .iload_n 1, 1, 0, 0), (26, .aaload, 1, 0, 0), (27, .getfield 73, 3, 0, 0), (30, .bipush 6, 2, 0, 0), (32, .if_icmp .le 6, 3, 0, 0), (35, .bipush (-2), 2, 0, 0), (37, .ireturn, 1, 0, 0), (38, .aload_n 0, 1, 0, 0), (39, .getfield 23, 3, 4, 2), (42, .aload_n 0, 1, 0, 0), (43, .getfield 11, 3, 4, 0), (46, .iload_n 1, 1, 0, 0), (47, .aaload, 1, 0, 0), (48, .iload_n 2, 1, 0, 0), (49, .invokevirtual 77, 3, 11, 0), (52, .ireturn, 1, 0, 0)]
def xm_r48 : List xm_Op := [(0, .iload_n 1, 1, 0, 0), (1, .invokestatic 41, 3, 40, 0), (4, .ifCond .eq 10, 3, 0, 0), (7, .iload_n 2, 1, 0, 0), (8, .invokestatic 41, 3, 40, 0), (11, .ifCond .ne 5, 3, 0, 0), (14, .iconst (-1), 1, 0, 0), (15, .ireturn, 1, 0, 0), (16, .aload_n 0, 1, 0, 0), (17, .getfield 11, 3, 4, 0), (20, .iload_n 2, 1, 0, 0), (21, .aaload, 1, 0, 0), (22, .getfield 73, 3, 0, 0), (25, .bipush 6, 2, 0, 0), (27, .if_icmp .le 6, 3, 0, 0), (30, .bipush (-2), 2, 0, 0), (32, .ireturn, 1, 0, 0), (33, .aload_n 0, 1, 0, 0), (34, .getfield 23, 3, 4, 2), (37, .aload_n 0, 1, 0, 0), (38, .getfield 11, 3, 4, 0), (41, .iload_n 2, 1, 0, 0), (42, .aaload, 1, 0, 0), (43, .iconst 1, 1, 0, 0), (44, .invokevirtual 77, 3, 11, 0), (47, .ifCond .ne 5, 3, 0, 0), (50, .iconst 0, 1, 0, 0), (51, .ireturn, 1, 0, 0), (52, .aload_n 0, 1, 0, 0), (53, .getfield 11, 3, 4, 0), (56, .iload_n 1, 1, 0, 0), (57, .aaload, 1, 0, 0), (58, .aload_n 0, 1, 0, 0), (59, .getfield 23, 3, 4, 2), (62, .getfield 81, 3, 1, 0), (65, .invokevirtual 84, 3, 6, 0), (68, .iconst 1, 1, 0, 0), (69, .ireturn, 1, 0, 0)]
def xm_r49 : List xm_Op := [(0, .iload_n 1, 1, 0, 0), (1, .invokestatic 41, 3, 40, 0), (4, .ifCond .eq 30, 3, 0, 0), (7, .iload_n 2, 1, 0, 0), (8, .iconst 2, 1, 0, 0), (9, .invokestatic 88, 3, 41, 0), (12, .ifCond .eq 22, 3, 0, 0), (15, .aload_n 0, 1, 0, 0), (16, .iload_n 1, 1, 0, 0), (17, .iload_n 3, 1, 0, 0), (18, .invokevirtual 49, 3, 43, 0), (21, .ifCond .eq 13, 3, 0, 0), (24, .aload_n 0, 1, 0, 0), (25, .iload_n 1, 1, 0, 0), (26, .iload 4, 2, 0, 0), (28, .invokevirtual 49, 3, 43, 0), (31, .ifCond .ne 5, 3, 0, 0), (34, .iconst (-1), 1, 0, 0), (35, .ireturn, 1, 0, 0), (36, .aload_n 0, 1, 0, 0), (37, .getfield 11, 3, 4, 0), (40, .iload_n 1, 1, 0, 0), (41, .aaload, 1, 0, 0), (42, .invokevirtual 91, 3, 7, 0), (45, .ifCond .ne 6, 3, 0, 0), (48, .bipush (-2), 2, 0, 0), (50, .ireturn, 1, 0, 0), (51, .iload_n 2, 1, 0, 0), (52, .ifCond .ne 18, 3, 0, 0), (55, .aload_n 0, 1, 0, 0), (56, .getfield 11, 3, 4, 0), (59, .iload_n 1, 1, 0, 0), (60, .aaload, 1, 0, 0), (61, .iload_n 3, 1, 0, 0), (62, .iload 4, 2, 0, 0), (64, .invokevirtual 95, 3, 8, 0), (67, .goto 15, 3, 0, 0), (70, .aload_n 0, 1, 0, 0), (71, .getfield 11, 3, 4, 0), (74, .iload_n 1, 1, 0, 0), (75, .aaload, 1, 0, 0), (76, .iload 4, 2, 0, 0), (78, .iload_n 3, 1, 0, 0), (79, .invokevirtual 98, 3, 9, 0), (82, .ireturn, 1, 0, 0)]
def xm_r50 : List xm_Op := [(0, .iload_n 1, 1, 0, 0), (1, .invokestatic 41, 3, 40, 0), (4, .ifCond .eq 20, 3, 0, 0), (7, .iload_n 2, 1, 0, 0), (8, .bipush 13, 2, 0, 0), (10, .invokestatic 88, 3, 41, 0), (13, .ifCond .eq 11, 3, 0, 0), (16, .iload_n 3, 1, 0, 0), (17, .iconst 2, 1, 0, 0), (18, .invokestatic 88, 3, 41, 0), (21, .ifCond .ne 5, 3, 0, 0), (24, .iconst (-1), 1, 0, 0), (25, .ireturn, 1, 0, 0), (26, .aload_n 0, 1, 0, 0), (27, .getfield 11, 3, 4, 0), (30, .iload_n 1, 1, 0, 0), (31, .aaload, 1, 0, 0), (32, .invokevirtual 91, 3, 7, 0), (35, .ifCond .ne 6, 3, 0, 0), (38, .bipush (-2), 2, 0, 0), (40, .ireturn, 1, 0, 0), (41, .iload_n 3, 1, 0, 0), (42, .ifCond .ne 16, 3, 0, 0), (45, .aload_n 0, 1, 0, 0), (46, .getfield 11, 3, 4, 0), (49, .iload_n 1, 1, 0, 0), (50, .aaload, 1, 0, 0), (51, .iload_n 2, 1, 0, 0), (52, .invokestatic 101, 3, 126, 0), (55, .goto 13, 3, 0, 0), (58, .aload_n 0, 1, 0, 0), (59, .getfield 11, 3, 4, 0), (62, .iload_n 1, 1, 0, 0), (63, .aaload, 1, 0, 0), (64, .iload_n 2, 1, 0, 0), (65, .invokestatic 106, 3, 132, 0), (68, .ireturn, 1, 0, 0)]
def xm_r51 : List xm_Op := [(0, .iload_n 1, 1, 0, 0), (1, .invokestatic 41, 3, 40, 0), (4, .ifCond .eq 11, 3, 0, 0), (7, .iload_n 2, 1, 0, 0), (8, .iconst 5, 1, 0, 0), (9, .invokestatic 88, 3, 41, 0), (12, .ifCond .ne 5, 3, 0, 0), (15, .iconst (-1), 1, 0, 0), (16, .ireturn, 1, 0, 0), (17, .aload_n 0, 1, 0, 0), (18, .getfield 11, 3, 4, 0), (21, .iload_n 1, 1, 0, 0), (22, .aaload, 1, 0, 0), (23, .invokevirtual 91, 3, 7, 0), (26, .ifCond .ne 6, 3, 0, 0), (29, .bipush (-2), 2, 0, 0), (31, .ireturn, 1, 0, 0), (32, .aload_n 0, 1, 0, 0), (33, .getfield 11, 3, 4, 0), (36, .iload_n 1, 1, 0, 0), (37, .aaload, 1, 0, 0), (38, .iload_n 2, 1, 0, 0), (39, .invokestatic 109, 3, 118, 0), (42, .ireturn, 1, 0, 0)]
def xm_r52 : List xm_Op := [(0, .iload_n 1, 1, 0, 0), (1, .invokestatic 41, 3, 40, 0), (4, .ifCond .eq 12, 3, 0, 0), (7, .aload_n 0, 1, 0, 0), (8, .iload_n 1, 1, 0, 0), (9, .iload_n 2, 1, 0, 0), (10, .invokevirtual 114, 3, 53, 0), (13, .ifCond .ne 5, 3, 0, 0), (16, .iconst (-1), 1, 0, 0), (17, .ireturn, 1, 0, 0), (18, .aload_n 0, 1, 0, 0), (19, .getfield 11, 3, 4, 0), (22, .iload_n 1, 1, 0, 0), (23, .aaload, 1, 0, 0), (24, .invokevirtual 91, 3, 7, 0), (27, .ifCond .ne 6, 3, 0, 0), (30, .bipush (-2), 2, 0, 0), (32, .ireturn, 1, 0, 0), (33, .aload_n 0, 1, 0, 0), (34, .getfield 11, 3, 4, 0), (37, .iload_n 1, 1, 0, 0), (38, .aaload, 1, 0, 0), (39, .iload_n 2, 1, 0, 0), (40, .invokestatic 117, 3, 133, 0), (43, .ireturn, 1, 0, 0)]
def xm_r53 : List xm_Op := [(0, .iload_n 2, 1, 0, 0), (1, .iconst 1, 1, 0, 0), (2, .aload_n 0, 1, 0, 0), (3, .getfield 11, 3, 4, 0), (6, .iload_n 1, 1, 0, 0), (7, .aaload, 1, 0, 0), (8, .getfield 73, 3, 0, 0), (11, .ishl, 1, 0, 0), (12, .invokestatic 88, 3, 41, 0), (15, .ireturn, 1, 0, 0)]
def xm_r54 : List xm_Op := [(0, .iload_n 1, 1, 0, 0), (1, .invokestatic 41, 3, 40, 0), (4, .ifCond .eq 11, 3, 0, 0), (7, .iload_n 2, 1, 0, 0), (8, .iconst 2, 1, 0, 0), (9, .invokestatic 88, 3, 41, 0), (12, .ifCond .ne 5, 3, 0, 0), (15, .iconst (-1), 1, 0, 0), (16, .ireturn, 1, 0, 0), (17, .aload_n 0, 1, 0, 0), (18, .getfield 11, 3, 4, 0), (21, .iload_n 1, 1, 0, 0), (22, .aaload, 1, 0, 0), (23, .invokevirtual 91, 3, 7, 0), (26, .ifCond .ne 6, 3, 0, 0), (29, .bipush (-2), 2, 0, 0), (31, .ireturn, 1, 0, 0), (32, .aload_n 0, 1, 0, 0), (33, .getfield 11, 3, 4, 0), (36, .iload_n 1, 1, 0, 0), (37, .aaload, 1, 0, 0), (38, .iload_n 2, 1, 0, 0), (39, .iconst 1, 1, 0, 0), (40, .if_icmp .ne 7, 3, 0, 0), (43, .iconst 1, 1, 0, 0), (44, .goto 4, 3, 0, 0), (47, .iconst 0, 1, 0, 0), (48, .invokestatic 122, 3, 137, 0), (51, .ireturn, 1, 0, 0)]
def xm_r55 : List xm_Op := [(0, .iload_n 1, 1, 0, 0), (1, .invokestatic 41, 3, 40, 0), (4, .ifCond .ne 5, 3, 0, 0), (7, .iconst (-1), 1, 0, 0), (8, .ireturn, 1, 0, 0), (9, .aload_n 0, 1, 0, 0), (10, .iload_n 1, 1, 0, 0), (11, .iload_n 2, 1, 0, 0), (12, .invokevirtual 125, 3, 56, 0), (15, .istore_n 3, 1, 0, 0), (16, .iload_n 3, 1, 0, 0), (17, .ifCond .eq 5, 3, 0, 0), (20, .iload_n 3, 1, 0, 0), (21, .ireturn, 1, 0, 0), (22, .aload_n 0, 1, 0, 0), (23, .getfield 11, 3, 4, 0), (26, .iload_n 1, 1, 0, 0), (27, .aaload, 1, 0, 0), (28, .iload_n 2, 1, 0, 0), (29, .invokestatic 128, 3, 139, 0), (32, .ifCond .eq 7, 3, 0, 0), (35, .iconst 1, 1, 0, 0), (36, .goto 4, 3, 0, 0), (39, .iconst 0, 1, 0, 0), (40, .ireturn, 1, 0, 0)]
def xm_r56 : List xm_Op := [(0, .aload_n 0, 1, 0, 0), (1, .iload_n 1, 1, 0, 0), (2, .iload_n 2, 1, 0, 0), (3, .invokevirtual 114, 3, 53, 0), (6, .ifCond .ne 5, 3, 0, 0), (9, .iconst (-1), 1, 0, 0), (10, .ireturn, 1, 0, 0), (11, .aload_n 0, 1, 0, 0), (12, .getfield 11, 3, 4, 0), (15, .iload_n 1, 1, 0, 0), (16, .aaload, 1, 0, 0), (17, .invokevirtual 91, 3, 7, 0), (20, .ifCond .ne 6, 3, 0, 0), (23, .bipush (-2), 2, 0, 0), (25, .ireturn, 1, 0, 0), (26, .aload_n 0, 1, 0, 0), (27, .getfield 11, 3, 4, 0), (30, .iload_n 1, 1, 0, 0), (31, .aaload, 1, 0, 0), (32, .iload_n 2, 1, 0, 0), (33, .invokestatic 180, 3, 138, 0), (36, .ifCond .eq 7, 3, 0, 0), (39, .iconst 0, 1, 0, 0), (40, .goto 4, 3, 0, 0), (43, .iconst (-1), 1, 0, 0), (44, .ireturn, 1, 0, 0)]
def xm_r57 : List xm_Op := [(0, .iload_n 1, 1, 0, 0), (1, .invokestatic 41, 3, 40, 0), (4, .ifCond .eq 10, 3, 0, 0), (7, .iload_n 2, 1, 0, 0), (8, .invokestatic 41, 3, 40, 0), (11, .ifCond .ne 5, 3, 0, 0), (14, .iconst (-1), 1, 0, 0), (15, .ireturn, 1, 0, 0), (16, .aload_n 0, 1, 0, 0), (17, .iload_n 2, 1, 0, 0), (18, .iload_n 3, 1, 0, 0), (19, .invokevirtual 125, 3, 56, 0), (22, .istore 4, 2, 0, 0), (24, .iload 4, 2, 0, 0), (26, .ifCond .eq 6, 3, 0, 0), (29, .iload 4, 2, 0, 0), (31, .ireturn, 1, 0, 0), (32, .aload_n 0, 1, 0, 0), (33, .getfield 11, 3, 4, 0), (36, .iload_n 2, 1, 0, 0), (37, .aaload, 1, 0, 0), (38, .iload_n 3, 1, 0, 0), (39, .invokestatic 128, 3, 139, 0), (42, .ifCond .ne 6, 3, 0, 0), (45, .bipush (-2), 2, 0, 0), (47, .ireturn, 1, 0, 0), (48, .aload_n 0, 1, 0, 0), (49, .getfield 11, 3, 4, 0), (52, .iload_n 2, 1, 0, 0), (53, .aaload, 1, 0, 0), (54, .iload_n 3, 1, 0, 0), (55, .aload_n 0, 1, 0, 0), (56, .getfield 16, 3, 4, 1), (59, .invokestatic 132, 3, 141, 0), (62, .aload_n 0, 1, 0, 0), (63, .iload_n 1, 1, 0, 0), (64, .invokevirtual 136, 3, 58, 0), (67, .ireturn, 1, 0, 0)]
def xm_r58 : List xm_Op := [(0, .aload_n 0, 1, 0, 0), (1, .getfield 11, 3, 4, 0), (4, .iload_n 1, 1, 0, 0), (5, .aaload, 1, 0, 0), (6, .aload_n 0, 1, 0, 0), (7, .getfield 16, 3, 4, 1), (10, .invokevirtual 84, 3, 6, 0), (13, .aload_n 0, 1, 0, 0), (14, .getfield 16, 3, 4, 1), (17, .getfield 73, 3, 0, 0), (20, .ireturn, 1, 0, 0)]
def xm_r59 : List xm_Op := [(0, .iload_n 1, 1, 0, 0), (1, .invokestatic 41, 3, 40, 0), (4, .ifCond .ne 5, 3, 0, 0), (7, .iconst (-1), 1, 0, 0), (8, .ireturn, 1, 0, 0), (9, .aload_n 0, 1, 0, 0), (10, .getfield 11, 3, 4, 0), (13, .iload_n 1, 1, 0, 0), (14, .aaload, 1, 0, 0), (15, .invokevirtual 91, 3, 7, 0), (18, .ifCond .eq 17, 3, 0, 0), (21, .aload_n 0, 1, 0, 0), (22, .getfield 11, 3, 4, 0), (25, .iload_n 1, 1, 0, 0), (26, .aaload, 1, 0, 0), (27, .getfield 73, 3, 0, 0), (30, .bipush 7, 2, 0, 0), (32, .if_icmp .le 6, 3, 0, 0), (35, .bipush (-2), 2, 0, 0), (37, .ireturn, 1, 0, 0), (38, .aload_n 0, 1, 0, 0), (39, .getfield 30, 3, 4, 3), (42, .aload_n 0, 1, 0, 0), (43, .getfield 11, 3, 4, 0), (46, .iload_n 1, 1, 0, 0), (47, .aaload, 1, 0, 0), (48, .invokevirtual 139, 3, 16, 0), (51, .ireturn, 1, 0, 0)]
def xm_r60 : List xm_Op := [(0, .iload_n 1, 1, 0, 0), (1, .invokestatic 41, 3, 40, 0), (4, .ifCond .eq 10, 3, 0, 0), (7, .iload_n 2, 1, 0, 0), (8, .invokestatic 41, 3, 40, 0), (11, .ifCond .ne 5, 3, 0, 0), (14, .iconst (-1), 1, 0, 0), (15, .ireturn, 1, 0, 0), (16, .aload_n 0, 1, 0, 0), (17, .getfield 11, 3, 4, 0), (20, .iload_n 1, 1, 0, 0), (21, .aaload, 1, 0, 0), (22, .astore 4, 2, 0, 0), (24, .aload_n 0, 1, 0, 0), (25, .getfield 11, 3, 4, 0), (28, .iload_n 2, 1, 0, 0), (29, .aaload, 1, 0, 0), (30, .astore 5, 2, 0, 0), (32, .aload 4, 2, 0, 0), (34, .invokevirtual 91, 3, 7, 0), (37, .ifCond .eq 11, 3, 0, 0), (40, .aload 5, 2, 0, 0), (42, .invokevirtual 91, 3, 7, 0), (45, .ifCond .ne 6, 3, 0, 0), (48, .bipush (-2), 2, 0, 0), (50, .ireturn, 1, 0, 0), (51, .iload_n 3, 1, 0, 0), (52, .ifCond .eq 24, 3, 0, 0), (55, .aload 4, 2, 0, 0), (57, .getfield 73, 3, 0, 0), (60, .aload 5, 2, 0, 0), (62, .getfield 73, 3, 0, 0), (65, .invokestatic 142, 3, 152, 0), (68, .bipush 6, 2, 0, 0), (70, .if_icmp .le 6, 3, 0, 0), (73, .bipush (-2), 2, 0, 0), (75, .ireturn, 1, 0, 0), (76, .iload_n 3, 1, 0, 0), (77, .ifCond .eq 21, 3, 0, 0), (80, .aload_n 0, 1, 0, 0), (81, .getfield 37, 3, 4, 4), (84, .aload 4, 2, 0, 0), (86, .aload 5, 2, 0, 0), (88, .aload_n 0, 1, 0, 0), (89, .getfield 16, 3, 4, 1), (92, .invokevirtual 147, 3, 27, 0), (95, .goto 14, 3, 0, 0), (98, .aload_n 0, 1, 0, 0), (99, .getfield 37, 3, 4, 4), (102, .aload 4, 2, 0, 0), (104, .aload 5, 2, 0, 0), (106, .invokevirtual 151, 3, 30, 0), (109, .istore 6, 2, 0, 0), (111, .iload 6, 2, 0, 0), (113, .ifCond .eq 7, 3, 0, 0), (116, .iconst 1, 1, 0, 0), (117, .goto 4, 3, 0, 0), (120, .iconst 0, 1, 0, 0), (121, .ireturn, 1, 0, 0)]
def xm_r61 : List xm_Op := [(0, .iload_n 1, 1, 0, 0), (1, .invokestatic 41, 3, 40, 0), (4, .ifCond .eq 10, 3, 0, 0), (7, .iload_n 2, 1, 0, 0), (8, .invokestatic 41, 3, 40, 0), (11, .ifCond .ne 5, 3, 0, 0), (14, .iconst (-1), 1, 0, 0), (15, .ireturn, 1, 0, 0), (16, .aload_n 0, 1, 0, 0), (17, .getfield 11, 3, 4, 0), (20, .iload_n 2, 1, 0, 0), (21, .aaload, 1, 0, 0), (22, .invokevirtual 91, 3, 7, 0), (25, .ifCond .ne 6, 3, 0, 0), (28, .bipush (-2), 2, 0, 0), (30, .ireturn, 1, 0, 0), (31, .aload_n 0, 1, 0, 0), (32, .getfield 37, 3, 4, 4), (35, .aload_n 0, 1, 0, 0), (36, .getfield 11, 3, 4, 0), (39, .iload_n 2, 1, 0, 0), (40, .aaload, 1, 0, 0), (41, .invokevirtual 155, 3, 33, 0), (44, .istore_n 3, 1, 0, 0), (45, .aload_n 0, 1, 0, 0), (46, .getfield 11, 3, 4, 0), (49, .iload_n 1, 1, 0, 0), (50, .aaload, 1, 0, 0), (51, .aload_n 0, 1, 0, 0), (52, .getfield 37, 3, 4, 4), (55, .getfield 158, 3, 3, 0), (58, .invokevirtual 84, 3, 6, 0), (61, .iload_n 3, 1, 0, 0), (62, .ireturn, 1, 0, 0)]
def xm_r62 : List xm_Op := [(0, .iload_n 1, 1, 0, 0), (1, .invokestatic 41, 3, 40, 0), (4, .ifCond .eq 8, 3, 0, 0), (7, .iload_n 2, 1, 0, 0), (8, .iconst (-1), 1, 0, 0), (9, .if_icmp .ge 5, 3, 0, 0), (12, .iconst (-1), 1, 0, 0), (13, .ireturn, 1, 0, 0), (14, .aload_n 0, 1, 0, 0), (15, .getfield 11, 3, 4, 0), (18, .iload_n 1, 1, 0, 0), (19, .aaload, 1, 0, 0), (20, .invokevirtual 91, 3, 7, 0), (23, .ifCond .ne 6, 3, 0, 0), (26, .bipush (-2), 2, 0, 0), (28, .ireturn, 1, 0, 0), (29, .iload_n 2, 1, 0, 0), (30, .iconst (-1), 1, 0, 0), (31, .if_icmp .ne 15, 3, 0, 0), (34, .aload_n 0, 1, 0, 0), (35, .getfield 11, 3, 4, 0), (38, .iload_n 1, 1, 0, 0), (39, .aaload, 1, 0, 0), (40, .invokestatic 161, 3, 144, 0), (43, .goto 13, 3, 0, 0), (46, .aload_n 0, 1, 0, 0), (47, .getfield 11, 3, 4, 0), (50, .iload_n 1, 1, 0, 0), (51, .aaload, 1, 0, 0), (52, .iload_n 2, 1, 0, 0), (53, .invokestatic 164, 3, 147, 0), (56, .ireturn, 1, 0, 0)]
def xm_r63 : List xm_Op := [(0, .iload_n 1, 1, 0, 0), (1, .invokestatic 41, 3, 40, 0), (4, .ifCond .eq 7, 3, 0, 0), (7, .iload_n 2, 1, 0, 0), (8, .ifCond .ge 5, 3, 0, 0), (11, .iconst (-1), 1, 0, 0), (12, .ireturn, 1, 0, 0), (13, .aload_n 0, 1, 0, 0), (14, .getfield 11, 3, 4, 0), (17, .iload_n 1, 1, 0, 0), (18, .aaload, 1, 0, 0), (19, .invokevirtual 91, 3, 7, 0), (22, .ifCond .ne 6, 3, 0, 0), (25, .bipush (-2), 2, 0, 0), (27, .ireturn, 1, 0, 0), (28, .aload_n 0, 1, 0, 0), (29, .getfield 11, 3, 4, 0), (32, .iload_n 1, 1, 0, 0), (33, .aaload, 1, 0, 0), (34, .iload_n 2, 1, 0, 0), (35, .invokestatic 164, 3, 147, 0), (38, .istore_n 3, 1, 0, 0), (39, .iload_n 3, 1, 0, 0), (40, .bipush (-4), 2, 0, 0), (42, .if_icmp .ne 5, 3, 0, 0), (45, .iconst (-1), 1, 0, 0), (46, .ireturn, 1, 0, 0), (47, .aload_n 0, 1, 0, 0), (48, .getfield 11, 3, 4, 0), (51, .iload_n 1, 1, 0, 0), (52, .aaload, 1, 0, 0), (53, .iload_n 3, 1, 0, 0), (54, .invokestatic 167, 3, 149, 0), (57, .iconst 1, 1, 0, 0), (58, .ireturn, 1, 0, 0)]
def xm_r64 : List xm_Op := [(0, .iload_n 1, 1, 0, 0), (1, .invokestatic 41, 3, 40, 0), (4, .ifCond .eq 10, 3, 0, 0), (7, .iload_n 2, 1, 0, 0), (8, .invokestatic 41, 3, 40, 0), (11, .ifCond .ne 5, 3, 0, 0), (14, .iconst (-1), 1, 0, 0), (15, .ireturn, 1, 0, 0), (16, .aload_n 0, 1, 0, 0), (17, .getfield 11, 3, 4, 0), (20, .iload_n 2, 1, 0, 0), (21, .aaload, 1, 0, 0), (22, .invokevirtual 91, 3, 7, 0), (25, .ifCond .eq 16, 3, 0, 0), (28, .aload_n 0, 1, 0, 0), (29, .getfield 11, 3, 4, 0), (32, .iload_n 2, 1, 0, 0), (33, .aaload, 1, 0, 0), (34, .getfield 73, 3, 0, 0), (37, .iconst 4, 1, 0, 0), (38, .if_icmp .le 6, 3, 0, 0), (41, .bipush (-2), 2, 0, 0), (43, .ireturn, 1, 0, 0), (44, .aload_n 0, 1, 0, 0), (45, .getfield 11, 3, 4, 0), (48, .iload_n 2, 1, 0, 0), (49, .aaload, 1, 0, 0), (50, .iload_n 3, 1, 0, 0), (51, .aload_n 0, 1, 0, 0), (52, .getfield 16, 3, 4, 1), (55, .invokestatic 171, 3, 123, 0), (58, .aload_n 0, 1, 0, 0), (59, .iload_n 1, 1, 0, 0), (60, .invokevirtual 136, 3, 58, 0), (63, .ireturn, 1, 0, 0)]
def xm_r65 : List xm_Op := [(0, .iload_n 1, 1, 0, 0), (1, .invokestatic 41, 3, 40, 0), (4, .ifCond .eq 17, 3, 0, 0), (7, .iload_n 2, 1, 0, 0), (8, .invokestatic 41, 3, 40, 0), (11, .ifCond .eq 10, 3, 0, 0), (14, .iload_n 3, 1, 0, 0), (15, .invokestatic 41, 3, 40, 0), (18, .ifCond .ne 5, 3, 0, 0), (21, .iconst (-1), 1, 0, 0), (22, .ireturn, 1, 0, 0), (23, .aload_n 0, 1, 0, 0), (24, .getfield 11, 3, 4, 0), (27, .iload_n 2, 1, 0, 0), (28, .aaload, 1, 0, 0), (29, .invokevirtual 91, 3, 7, 0), (32, .ifCond .eq 39, 3, 0, 0), (35, .aload_n 0, 1, 0, 0), (36, .getfield 11, 3, 4, 0), (39, .iload_n 3, 1, 0, 0), (40, .aaload, 1, 0, 0), (41, .invokevirtual 91, 3, 7, 0), (44, .ifCond .eq 27, 3, 0, 0), (47, .aload_n 0, 1, 0, 0), (48, .getfield 11, 3, 4, 0), (51, .iload_n 2, 1, 0, 0), (52, .aaload, 1, 0, 0), (53, .getfield 73, 3, 0, 0), (56, .aload_n 0, 1, 0, 0), (57, .getfield 11, 3, 4, 0), (60, .iload_n 3, 1, 0, 0), (61, .aaload, 1, 0, 0), (62, .getfield 73, 3, 0, 0), (65, .imul, 1, 0, 0), (66, .bipush 8, 2, 0, 0), (68, .if_icmp .le 6, 3, 0, 0), (71, .bipush (-2), 2, 0, 0), (73, .ireturn, 1, 0, 0), (74, .aload_n 0, 1, 0, 0), (75, .getfield 11, 3, 4, 0), (78, .iload_n 2, 1, 0, 0), (79, .aaload, 1, 0, 0), (80, .aload_n 0, 1, 0, 0), (81, .getfield 11, 3, 4, 0), (84, .iload_n 3, 1, 0, 0), (85, .aaload, 1, 0, 0), (86, .aload_n 0, 1, 0, 0), (87, .getfield 16, 3, 4, 1), (90, .invokestatic 176, 3, 125, 0), (93, .aload_n 0, 1, 0, 0), (94, .iload_n 1, 1, 0, 0), (95, .invokevirtual 136, 3, 58, 0), (98, .ireturn, 1, 0, 0)]
def xm_r66 : List xm_Op := [(0, .iload_n 1, 1, 0, 0), (1, .invokestatic 41, 3, 40, 0), (4, .ifCond .ne 5, 3, 0, 0), (7, .iconst (-1), 1, 0, 0), (8, .ireturn, 1, 0, 0), (9, .aload_n 0, 1, 0, 0), (10, .getfield 11, 3, 4, 0), (13, .iload_n 1, 1, 0, 0), (14, .aaload, 1, 0, 0), (15, .getfield 73, 3, 0, 0), (18, .ireturn, 1, 0, 0)]
def xm_r67 : List xm_Op := [(0, .aload_n 0, 1, 0, 0), (1, .invokespecial 1, 3, 0, 9), (4, .aload_n 0, 1, 0, 0), (5, .bipush 6, 2, 0, 0), (7, .newarray .int, 2, 0, 0), (9, .putfield 7, 3, 5, 0), (12, .aload_n 0, 1, 0, 0), (13, .sipush 384, 3, 0, 0), (16, .newarray .int, 2, 0, 0), (18, .putfield 13, 3, 5, 1), (21, .aload_n 0, 1, 0, 0), (22, .bipush 64, 2, 0, 0), (24, .newarray .int, 2, 0, 0), (26, .putfield 16, 3, 5, 3), (29, .aload_n 0, 1, 0, 0), (30, .bipush 8, 2, 0, 0), (32, .newarray .int, 2, 0, 0), (34, .putfield 19, 3, 5, 4), (37, .aload_n 0, 1, 0, 0), (38, .ldc 22, 2, 35280, 0), (40, .newarray .int, 2, 0, 0), (42, .putfield 23, 3, 5, 5), (45, .aload_n 0, 1, 0, 0), (46, .sipush 5040, 3, 0, 0), (49, .newarray .boolean, 2, 0, 0), (51, .putfield 26, 3, 5, 6), (54, .iconst 0, 1, 0, 0), (55, .istore_n 1, 1, 0, 0), (56, .iload_n 1, 1, 0, 0), (57, .bipush 6, 2, 0, 0), (59, .if_icmp .ge 16, 3, 0, 0), (62, .aload_n 0, 1, 0, 0), (63, .getfield 7, 3, 5, 0), (66, .iload_n 1, 1, 0, 0), (67, .iconst 1, 1, 0, 0), (68, .iastore, 1, 0, 0), (69, .iinc 1 1, 3, 0, 0), (72, .goto (-16), 3, 0, 0), (75, .return_, 1, 0, 0)]
def xm_r68 : List xm_Op := [(0, .iload_n 1, 1, 0, 0), (1, .invokestatic 34, 3, 69, 0), (4, .ifCond .eq 13, 3, 0, 0), (7, .iload_n 2, 1, 0, 0), (8, .iconst 1, 1, 0, 0), (9, .bipush 8, 2, 0, 0), (11, .invokestatic 30, 3, 70, 0), (14, .ifCond .ne 5, 3, 0, 0), (17, .iconst (-1), 1, 0, 0), (18, .ireturn, 1, 0, 0), (19, .aload_n 0, 1, 0, 0), (20, .getfield 7, 3, 5, 0), (23, .iload_n 1, 1, 0, 0), (24, .iload_n 2, 1, 0, 0), (25, .iastore, 1, 0, 0), (26, .iconst 0, 1, 0, 0), (27, .istore_n 3, 1, 0, 0), (28, .iload_n 3, 1, 0, 0), (29, .iload_n 2, 1, 0, 0), (30, .if_icmp .ge 52, 3, 0, 0), (33, .iconst 0, 1, 0, 0), (34, .istore 4, 2, 0, 0), (36, .iload 4, 2, 0, 0), (38, .iload_n 2, 1, 0, 0), (39, .if_icmp .ge 37, 3, 0, 0), (42, .aload_n 0, 1, 0, 0), (43, .iload_n 1, 1, 0, 0), (44, .iload_n 3, 1, 0, 0), (45, .iload 4, 2, 0, 0), (47, .iload_n 3, 1, 0, 0), (48, .ifCond .ne 8, 3, 0, 0), (51, .iload 4, 2, 0, 0), (53, .goto 14, 3, 0, 0), (56, .iload 4, 2, 0, 0), (58, .ifCond .ne 7, 3, 0, 0), (61, .iload_n 3, 1, 0, 0), (62, .goto 5, 3, 0, 0), (65, .bipush (-4), 2, 0, 0), (67, .invokevirtual 38, 3, 71, 0), (70, .iinc 4 1, 3, 0, 0), (73, .goto (-37), 3, 0, 0), (76, .iinc 3 1, 3, 0, 0), (79, .goto (-51), 3, 0, 0), (82, .iconst 0, 1, 0, 0), (83, .ireturn, 1, 0, 0)]
def xm_r69 : List xm_Op := [(0, .iload_n 0, 1, 0, 0), (1, .iconst 0, 1, 0, 0), (2, .iconst 3, 1, 0, 0), (3, .invokestatic 30, 3, 70, 0), (6, .ireturn, 1, 0, 0)]
def xm_r70 : List xm_Op := [(0, .iload_n 0, 1, 0, 0), (1, .iload_n 1, 1, 0, 0), (2, .if_icmp .lt 12, 3, 0, 0), (5, .iload_n 0, 1, 0, 0), (6, .iload_n 2, 1, 0, 0), (7, .if_icmp .gt 7, 3, 0, 0), (10, .iconst 1, 1, 0, 0), (11, .goto 4, 3, 0, 0), (14, .iconst 0, 1, 0, 0), (15, .ireturn, 1, 0, 0)]
def xm_r71 : List xm_Op := [(0, .aload_n 0, 1, 0, 0), (1, .getfield 13, 3, 5, 1), (4, .bipush 64, 2, 0, 0), (6, .iload_n 1, 1, 0, 0), (7, .imul, 1, 0, 0), (8, .bipush 8, 2, 0, 0), (10, .iload_n 2, 1, 0, 0), (11, .imul, 1, 0, 0), (12, .iadd, 1, 0, 0), (13, .iload_n 3, 1, 0, 0), (14, .iadd, 1, 0, 0), (15, .iload 4, 2, 0, 0), (17, .iastore, 1, 0, 0), (18, .return_, 1, 0, 0)]
def xm_r72 : List xm_Op := [(0, .iload_n 1, 1, 0, 0), (1, .invokestatic 34, 3, 69, 0), (4, .ifCond .eq 52, 3, 0, 0), (7, .iload_n 2, 1, 0, 0), (8, .iconst 1, 1, 0, 0), (9, .aload_n 0, 1, 0, 0), (10, .getfield 7, 3, 5, 0), (13, .iload_n 1, 1, 0, 0), (14, .iaload, 1, 0, 0), (15, .iconst 1, 1, 0, 0), (16, .isub, 1, 0, 0), (17, .invokestatic 30, 3, 70, 0), (20, .ifCond .eq 36, 3, 0, 0), (23, .iload_n 3, 1, 0, 0), (24, .iconst 1, 1, 0, 0), (25, .aload_n 0, 1, 0, 0), (26, .getfield 7, 3, 5, 0), (29, .iload_n 1, 1, 0, 0), (30, .iaload, 1, 0, 0), (31, .iconst 1, 1, 0, 0), (32, .isub, 1, 0, 0), (33, .invokestatic 30, 3, 70, 0), (36, .ifCond .eq 20, 3, 0, 0), (39, .iload 4, 2, 0, 0), (41, .iconst (-1), 1, 0, 0), (42, .aload_n 0, 1, 0, 0), (43, .getfield 7, 3, 5, 0), (46, .iload_n 1, 1, 0, 0), (47, .iaload, 1, 0, 0), (48, .iconst 1, 1, 0, 0), (49, .isub, 1, 0, 0), (50, .invokestatic 30, 3, 70, 0), (53, .ifCond .ne 5, 3, 0, 0), (56, .iconst (-1), 1, 0, 0), (57, .ireturn, 1, 0, 0), (58, .iload 4, 2, 0, 0), (60, .ifCond .lt 18, 3, 0, 0), (63, .aload_n 0, 1, 0, 0), (64, .iload_n 1, 1, 0, 0), (65, .iload_n 2, 1, 0, 0), (66, .iload_n 3, 1, 0, 0), (67, .iload 4, 2, 0, 0), (69, .invokevirtual 46, 3, 73, 0), (72, .ifCond .eq 6, 3, 0, 0), (75, .bipush (-2), 2, 0, 0), (77, .ireturn, 1, 0, 0), (78, .aload_n 0, 1, 0, 0), (79, .iload_n 1, 1, 0, 0), (80, .iload_n 2, 1, 0, 0), (81, .iload_n 3, 1, 0, 0), (82, .invokevirtual 42, 3, 74, 0), (85, .istore 5, 2, 0, 0), (87, .aload_n 0, 1, 0, 0), (88, .iload_n 1, 1, 0, 0), (89, .iload_n 2, 1, 0, 0), (90, .iload_n 3, 1, 0, 0), (91, .iload 4, 2, 0, 0), (93, .ifCond .ge 8, 3, 0, 0), (96, .bipush (-4), 2, 0, 0), (98, .goto 5, 3, 0, 0), (101, .iload 4, 2, 0, 0), (103, .invokevirtual 38, 3, 71, 0), (106, .iload 5, 2, 0, 0), (108, .ireturn, 1, 0, 0)]
def xm_r73 : List xm_Op := [(0, .iconst 0, 1, 0, 0), (1, .istore 5, 2, 0, 0), (3, .iconst 0, 1, 0, 0), (4, .istore 6, 2, 0, 0), (6, .iload 6, 2, 0, 0), (8, .aload_n 0, 1, 0, 0), (9, .getfield 7, 3, 5, 0), (12, .iload_n 1, 1, 0, 0), (13, .iaload, 1, 0, 0), (14, .if_icmp .ge 59, 3, 0, 0), (17, .iload 5, 2, 0, 0), (19, .ifCond .ne 41, 3, 0, 0), (22, .iload 6, 2, 0, 0), (24, .iload_n 3, 1, 0, 0), (25, .if_icmp .eq 16, 3, 0, 0), (28, .aload_n 0, 1, 0, 0), (29, .iload_n 1, 1, 0, 0), (30, .iload_n 2, 1, 0, 0), (31, .iload 6, 2, 0, 0), (33, .invokevirtual 42, 3, 74, 0), (36, .iload 4, 2, 0, 0), (38, .if_icmp .eq 22, 3, 0, 0), (41, .iload 6, 2, 0, 0), (43, .iload_n 2, 1, 0, 0), (44, .if_icmp .eq 20, 3, 0, 0), (47, .aload_n 0, 1, 0, 0), (48, .iload_n 1, 1, 0, 0), (49, .iload 6, 2, 0, 0), (51, .iload_n 3, 1, 0, 0), (52, .invokevirtual 42, 3, 74, 0), (55, .iload 4, 2, 0, 0), (57, .if_icmp .ne 7, 3, 0, 0), (60, .iconst 1, 1, 0, 0), (61, .goto 4, 3, 0, 0), (64, .iconst 0, 1, 0, 0), (65, .istore 5, 2, 0, 0), (67, .iinc 6 1, 3, 0, 0), (70, .goto (-64), 3, 0, 0), (73, .iload 5, 2, 0, 0), (75, .ireturn, 1, 0, 0)]
def xm_r74 : List xm_Op := [(0, .aload_n 0, 1, 0, 0), (1, .getfield 13, 3, 5, 1), (4, .bipush 64, 2, 0, 0), (6, .iload_n 1, 1, 0, 0), (7, .imul, 1, 0, 0), (8, .bipush 8, 2, 0, 0), (10, .iload_n 2, 1, 0, 0), (11, .imul, 1, 0, 0), (12, .iadd, 1, 0, 0), (13, .iload_n 3, 1, 0, 0), (14, .iadd, 1, 0, 0), (15, .iaload, 1, 0, 0), (16, .ireturn, 1, 0, 0)]
def xm_r75 : List xm_Op := [(0, .iload_n 1, 1, 0, 0), (1, .invokestatic 34, 3, 69, 0), (4, .ifCond .eq 31, 3, 0, 0), (7, .aload_n 0, 1, 0, 0), (8, .iload_n 1, 1, 0, 0), (9, .iload_n 2, 1, 0, 0), (10, .invokevirtual 50, 3, 76, 0), (13, .ifCond .eq 22, 3, 0, 0), (16, .aload_n 0, 1, 0, 0), (17, .iload_n 1, 1, 0, 0), (18, .iload_n 3, 1, 0, 0), (19, .invokevirtual 50, 3, 76, 0), (22, .ifCond .eq 13, 3, 0, 0), (25, .aload_n 0, 1, 0, 0), (26, .iload_n 1, 1, 0, 0), (27, .iload_n 2, 1, 0, 0), (28, .iload_n 3, 1, 0, 0), (29, .invokevirtual 42, 3, 74, 0), (32, .goto 4, 3, 0, 0), (35, .iconst (-1), 1, 0, 0), (36, .ireturn, 1, 0, 0)]
def xm_r76 : List xm_Op := [(0, .iload_n 2, 1, 0, 0), (1, .iconst 0, 1, 0, 0), (2, .aload_n 0, 1, 0, 0), (3, .getfield 7, 3, 5, 0), (6, .iload_n 1, 1, 0, 0), (7, .iaload, 1, 0, 0), (8, .iconst 1, 1, 0, 0), (9, .isub, 1, 0, 0), (10, .invokestatic 30, 3, 70, 0), (13, .ireturn, 1, 0, 0)]
def xm_r77 : List xm_Op := [(0, .iload_n 1, 1, 0, 0), (1, .invokestatic 34, 3, 69, 0), (4, .ifCond .eq 11, 3, 0, 0), (7, .aload_n 0, 1, 0, 0), (8, .iload_n 1, 1, 0, 0), (9, .invokevirtual 54, 3, 78, 0), (12, .goto 4, 3, 0, 0), (15, .iconst (-1), 1, 0, 0), (16, .ireturn, 1, 0, 0)]
def xm_r78 : List xm_Op := [(0, .iconst 0, 1, 0, 0), (1, .istore_n 2, 1, 0, 0), (2, .iconst 0, 1, 0, 0), (3, .istore_n 3, 1, 0, 0), (4, .iload_n 3, 1, 0, 0), (5, .aload_n 0, 1, 0, 0), (6, .getfield 7, 3, 5, 0), (9, .iload_n 1, 1, 0, 0), (10, .iaload, 1, 0, 0), (11, .if_icmp .ge 48, 3, 0, 0), (14, .iconst 0, 1, 0, 0), (15, .istore 4, 2, 0, 0), (17, .iload 4, 2, 0, 0), (19, .aload_n 0, 1, 0, 0), (20, .getfield 7, 3, 5, 0), (23, .iload_n 1, 1, 0, 0), (24, .iaload, 1, 0, 0), (25, .if_icmp .ge 28, 3, 0, 0), (28, .iload_n 2, 1, 0, 0), (29, .aload_n 0, 1, 0, 0), (30, .iload_n 1, 1, 0, 0), (31, .iload_n 3, 1, 0, 0), (32, .iload 4, 2, 0, 0), (34, .invokevirtual 42, 3, 74, 0), (37, .ifCond .ge 7, 3, 0, 0), (40, .iconst 1, 1, 0, 0), (41, .goto 4, 3, 0, 0), (44, .iconst 0, 1, 0, 0), (45, .iadd, 1, 0, 0), (46, .istore_n 2, 1, 0, 0), (47, .iinc 4 1, 3, 0, 0), (50, .goto (-33), 3, 0, 0), (53, .iinc 3 1, 3, 0, 0), (56, .goto (-52), 3, 0, 0), (59, .iload_n 2, 1, 0, 0), (60, .ireturn, 1, 0, 0)]
def xm_r79 : List xm_Op := [(0, .iload_n 1, 1, 0, 0), (1, .invokestatic 34, 3, 69, 0), (4, .ifCond .eq 14, 3, 0, 0), (7, .iload_n 2, 1, 0, 0), (8, .iconst 1, 1, 0, 0), (9, .sipush 10000, 3, 0, 0), (12, .invokestatic 30, 3, 70, 0), (15, .ifCond .ne 5, 3, 0, 0), (18, .iconst (-1), 1, 0, 0), (19, .ireturn, 1, 0, 0), (20, .aload_n 0, 1, 0, 0), (21, .getfield 7, 3, 5, 0), (24, .iload_n 1, 1, 0, 0), (25, .iaload, 1, 0, 0), (26, .bipush 6, 2, 0, 0), (28, .if_icmp .le 8, 3, 0, 0), (31, .bipush (-2), 2, 0, 0), (33, .goto 9, 3, 0, 0), (36, .aload_n 0, 1, 0, 0), (37, .iload_n 1, 1, 0, 0), (38, .iload_n 2, 1, 0, 0), (39, .invokevirtual 66, 3, 80, 0), (42, .ireturn, 1, 0, 0)]
def xm_r80 : List xm_Op := [(0, .aload_n 0, 1, 0, 0), (1, .iconst 4, 1, 0, 0), (2, .iload_n 1, 1, 0, 0), (3, .invokevirtual 58, 3, 81, 0), (6, .aload_n 0, 1, 0, 0), (7, .iconst 0, 1, 0, 0), (8, .putfield 62, 3, 5, 2), (11, .iconst 0, 1, 0, 0), (12, .istore_n 3, 1, 0, 0), (13, .iload_n 3, 1, 0, 0), (14, .aload_n 0, 1, 0, 0), (15, .getfield 7, 3, 5, 0), (18, .iload_n 1, 1, 0, 0), (19, .iaload, 1, 0, 0), (20, .if_icmp .ge 66, 3, 0, 0), (23, .iconst 0, 1, 0, 0), (24, .istore 4, 2, 0, 0), (26, .iload 4, 2, 0, 0), (28, .aload_n 0, 1, 0, 0), (29, .getfield 7, 3, 5, 0), (32, .iload_n 1, 1, 0, 0), (33, .iaload, 1, 0, 0), (34, .if_icmp .ge 46, 3, 0, 0), (37, .aload_n 0, 1, 0, 0), (38, .iload_n 1, 1, 0, 0), (39, .iload_n 3, 1, 0, 0), (40, .iload 4, 2, 0, 0), (42, .invokevirtual 42, 3, 74, 0), (45, .ifCond .ge 29, 3, 0, 0), (48, .aload_n 0, 1, 0, 0), (49, .getfield 16, 3, 5, 3), (52, .aload_n 0, 1, 0, 0), (53, .getfield 62, 3, 5, 2), (56, .bipush 8, 2, 0, 0), (58, .iload_n 3, 1, 0, 0), (59, .imul, 1, 0, 0), (60, .iload 4, 2, 0, 0), (62, .iadd, 1, 0, 0), (63, .iastore, 1, 0, 0), (64, .aload_n 0, 1, 0, 0), (65, .dup, 1, 0, 0), (66, .getfield 62, 3, 5, 2), (69, .iconst 1, 1, 0, 0), (70, .iadd, 1, 0, 0), (71, .putfield 62, 3, 5, 2), (74, .iinc 4 1, 3, 0, 0), (77, .goto (-51), 3, 0, 0), (80, .iinc 3 1, 3, 0, 0), (83, .goto (-70), 3, 0, 0), (86, .iconst 0, 1, 0, 0), (87, .istore_n 3, 1, 0, 0), (88, .iconst 0, 1, 0, 0), (89, .istore 4, 2, 0, 0), (91, .iload 4, 2, 0, 0), (93, .ifCond .lt 157, 3, 0, 0), (96, .iload 4, 2, 0, 0), (98, .aload_n 0, 1, 0, 0), (99, .getfield 62, 3, 5, 2), (102, .if_icmp .ne 19, 3, 0, 0), (105, .iinc 3 1, 3, 0, 0), (108, .iload_n 3, 1, 0, 0), (109, .iload_n 2, 1, 0, 0), (110, .if_icmp .ne 5, 3, 0, 0), (113, .iload_n 3, 1, 0, 0), (114, .ireturn, 1, 0, 0), (115, .iinc 4 (-1), 3, 0, 0), (118, .goto (-27), 3, 0, 0), (121, .aload_n 0, 1, 0, 0), (122, .getfield 16, 3, 5, 3), (125, .iload 4, 2, 0, 0), (127, .iaload, 1, 0, 0), (128, .bipush 8, 2, 0, 0), (130, .idiv, 1, 0, 0), (131, .istore 5, 2, 0, 0), (133, .aload_n 0, 1, 0, 0), (134, .getfield 16, 3, 5, 3), (137, .iload 4, 2, 0, 0), (139, .iaload, 1, 0, 0), (140, .bipush 8, 2, 0, 0), (142, .irem, 1, 0, 0), (143, .istore 6, 2, 0, 0), (145, .aload_n 0, 1, 0, 0), (146, .iconst 4, 1, 0, 0), (147, .iload 5, 2, 0, 0), (149, .iload 6, 2, 0, 0), (151, .invokevirtual 42, 3, 74, 0), (154, .ifCond .ge 7, 3, 0, 0), (157, .iconst 0, 1, 0, 0), (158, .goto 14, 3, 0, 0), (161, .aload_n 0, 1, 0, 0), (162, .iconst 4, 1, 0, 0), (163, .iload 5, 2, 0, 0), (165, .iload 6, 2, 0, 0), (167, .invokevirtual 42, 3, 74, 0), (170, .iconst 1, 1, 0, 0), (171, .iadd, 1, 0, 0), (172, .istore 7, 2, 0, 0), (174, .aload_n 0, 1, 0, 0), (175, .iconst 4, 1, 0, 0), (176, .iload 5, 2, 0, 0), (178, .iload 6, 2, 0, 0), (180, .bipush (-4), 2, 0, 0), (182, .invokevirtual 38, 3, 71, 0), (185, .iload 7, 2, 0, 0), (187, .aload_n 0, 1, 0, 0), (188, .getfield 7, 3, 5, 0), (191, .iconst 4, 1, 0, 0), (192, .iaload, 1, 0, 0), (193, .if_icmp .ge 23, 3, 0, 0), (196, .aload_n 0, 1, 0, 0), (197, .iconst 4, 1, 0, 0), (198, .iload 5, 2, 0, 0), (200, .iload 6, 2, 0, 0), (202, .iload 7, 2, 0, 0), (204, .invokevirtual 46, 3, 73, 0), (207, .ifCond .eq 9, 3, 0, 0), (210, .iinc 7 1, 3, 0, 0), (213, .goto (-28), 3, 0, 0), (216, .iload 7, 2, 0, 0), (218, .aload_n 0, 1, 0, 0), (219, .getfield 7, 3, 5, 0), (222, .iconst 4, 1, 0, 0), (223, .iaload, 1, 0, 0), (224, .if_icmp .ge 20, 3, 0, 0), (227, .aload_n 0, 1, 0, 0), (228, .iconst 4, 1, 0, 0), (229, .iload 5, 2, 0, 0), (231, .iload 6, 2, 0, 0), (233, .iload 7, 2, 0, 0), (235, .invokevirtual 38, 3, 71, 0), (238, .iinc 4 1, 3, 0, 0), (241, .goto 6, 3, 0, 0), (244, .iinc 4 (-1), 3, 0, 0), (247, .goto (-156), 3, 0, 0), (250, .iload_n 3, 1, 0, 0), (251, .ireturn, 1, 0, 0)]
def xm_r81 : List xm_Op := [(0, .aload_n 0, 1, 0, 0), (1, .getfield 7, 3, 5, 0), (4, .iload_n 1, 1, 0, 0), (5, .aload_n 0, 1, 0, 0), (6, .getfield 7, 3, 5, 0), (9, .iload_n 2, 1, 0, 0), (10, .iaload, 1, 0, 0), (11, .iastore, 1, 0, 0), (12, .iconst 0, 1, 0, 0), (13, .istore_n 3, 1, 0, 0), (14, .iload_n 3, 1, 0, 0), (15, .bipush 64, 2, 0, 0), (17, .if_icmp .ge 31, 3, 0, 0), (20, .aload_n 0, 1, 0, 0), (21, .getfield 13, 3, 5, 1), (24, .bipush 64, 2, 0, 0), (26, .iload_n 1, 1, 0, 0), (27, .imul, 1, 0, 0), (28, .iload_n 3, 1, 0, 0), (29, .iadd, 1, 0, 0), (30, .aload_n 0, 1, 0, 0), (31, .getfield 13, 3, 5, 1), (34, .bipush 64, 2, 0, 0), (36, .iload_n 2, 1, 0, 0), (37, .imul, 1, 0, 0), (38, .iload_n 3, 1, 0, 0), (39, .iadd, 1, 0, 0), (40, .iaload, 1, 0, 0), (41, .iastore, 1, 0, 0), (42, .iinc 3 1, 3, 0, 0), (45, .goto (-31), 3, 0, 0), (48, .return_, 1, 0, 0)]
def xm_r82 : List xm_Op := [(0, .iload_n 1, 1, 0, 0), (1, .invokestatic 34, 3, 69, 0), (4, .ifCond .eq 10, 3, 0, 0), (7, .iload_n 2, 1, 0, 0), (8, .invokestatic 34, 3, 69, 0), (11, .ifCond .ne 5, 3, 0, 0), (14, .iconst (-1), 1, 0, 0), (15, .ireturn, 1, 0, 0), (16, .aload_n 0, 1, 0, 0), (17, .getfield 7, 3, 5, 0), (20, .iload_n 2, 1, 0, 0), (21, .iaload, 1, 0, 0), (22, .bipush 6, 2, 0, 0), (24, .if_icmp .le 6, 3, 0, 0), (27, .bipush (-2), 2, 0, 0), (29, .ireturn, 1, 0, 0), (30, .aload_n 0, 1, 0, 0), (31, .iload_n 2, 1, 0, 0), (32, .iconst 1, 1, 0, 0), (33, .invokevirtual 66, 3, 80, 0), (36, .istore_n 3, 1, 0, 0), (37, .iload_n 3, 1, 0, 0), (38, .iconst 1, 1, 0, 0), (39, .if_icmp .ne 9, 3, 0, 0), (42, .aload_n 0, 1, 0, 0), (43, .iload_n 1, 1, 0, 0), (44, .iconst 4, 1, 0, 0), (45, .invokevirtual 58, 3, 81, 0), (48, .iload_n 3, 1, 0, 0), (49, .ireturn, 1, 0, 0)]
def xm_r83 : List xm_Op := [(0, .iload_n 1, 1, 0, 0), (1, .invokestatic 34, 3, 69, 0), (4, .ifCond .eq 31, 3, 0, 0), (7, .iload_n 2, 1, 0, 0), (8, .iconst 0, 1, 0, 0), (9, .iconst 1, 1, 0, 0), (10, .invokestatic 30, 3, 70, 0), (13, .ifCond .eq 22, 3, 0, 0), (16, .aload_n 0, 1, 0, 0), (17, .iload_n 1, 1, 0, 0), (18, .iload_n 3, 1, 0, 0), (19, .invokevirtual 50, 3, 76, 0), (22, .ifCond .eq 13, 3, 0, 0), (25, .aload_n 0, 1, 0, 0), (26, .iload_n 1, 1, 0, 0), (27, .iload 4, 2, 0, 0), (29, .invokevirtual 50, 3, 76, 0), (32, .ifCond .ne 5, 3, 0, 0), (35, .iconst (-1), 1, 0, 0), (36, .ireturn, 1, 0, 0), (37, .aload_n 0, 1, 0, 0), (38, .iload_n 1, 1, 0, 0), (39, .invokevirtual 70, 3, 84, 0), (42, .ifCond .ne 8, 3, 0, 0), (45, .bipush (-2), 2, 0, 0), (47, .goto 26, 3, 0, 0), (50, .iload_n 2, 1, 0, 0), (51, .ifCond .ne 14, 3, 0, 0), (54, .aload_n 0, 1, 0, 0), (55, .iload_n 1, 1, 0, 0), (56, .iload_n 3, 1, 0, 0), (57, .iload 4, 2, 0, 0), (59, .invokevirtual 73, 3, 85, 0), (62, .goto 11, 3, 0, 0), (65, .aload_n 0, 1, 0, 0), (66, .iload_n 1, 1, 0, 0), (67, .iload 4, 2, 0, 0), (69, .iload_n 3, 1, 0, 0), (70, .invokevirtual 76, 3, 86, 0), (73, .ireturn, 1, 0, 0)]
def xm_r84 : List xm_Op := [(0, .aload_n 0, 1, 0, 0), (1, .iload_n 1, 1, 0, 0), (2, .invokevirtual 54, 3, 78, 0), (5, .ifCond .ne 7, 3, 0, 0), (8, .iconst 1, 1, 0, 0), (9, .goto 4, 3, 0, 0), (12, .iconst 0, 1, 0, 0), (13, .ireturn, 1, 0, 0)]
def xm_r85 : List xm_Op := [(0, .iconst 0, 1, 0, 0), (1, .istore 4, 2, 0, 0), (3, .aload_n 0, 1, 0, 0), (4, .iload_n 1, 1, 0, 0), (5, .iload_n 2, 1, 0, 0), (6, .iload 4, 2, 0, 0), (8, .invokevirtual 42, 3, 74, 0), (11, .iload_n 3, 1, 0, 0), (12, .if_icmp .eq 9, 3, 0, 0), (15, .iinc 4 1, 3, 0, 0), (18, .goto (-15), 3, 0, 0), (21, .iload 4, 2, 0, 0), (23, .ireturn, 1, 0, 0)]
def xm_r86 : List xm_Op := [(0, .iconst 0, 1, 0, 0), (1, .istore 4, 2, 0, 0), (3, .aload_n 0, 1, 0, 0), (4, .iload_n 1, 1, 0, 0), (5, .iload 4, 2, 0, 0), (7, .iload_n 3, 1, 0, 0), (8, .invokevirtual 42, 3, 74, 0), (11, .iload_n 2, 1, 0, 0), (12, .if_icmp .eq 9, 3, 0, 0), (15, .iinc 4 1, 3, 0, 0), (18, .goto (-15), 3, 0, 0), (21, .iload 4, 2, 0, 0), (23, .ireturn, 1, 0, 0)]
def xm_r87 : List xm_Op := [(0, .iload_n 1, 1, 0, 0), (1, .invokestatic 34, 3, 69, 0), (4, .ifCond .eq 22, 3, 0, 0), (7, .iload_n 2, 1, 0, 0), (8, .iconst 0, 1, 0, 0), (9, .bipush 12, 2, 0, 0), (11, .invokestatic 30, 3, 70, 0), (14, .ifCond .eq 12, 3, 0, 0), (17, .iload_n 3, 1, 0, 0), (18, .iconst 0, 1, 0, 0), (19, .iconst 1, 1, 0, 0), (20, .invokestatic 30, 3, 70, 0), (23, .ifCond .ne 5, 3, 0, 0), (26, .iconst (-1), 1, 0, 0), (27, .ireturn, 1, 0, 0), (28, .aload_n 0, 1, 0, 0), (29, .iload_n 1, 1, 0, 0), (30, .invokevirtual 70, 3, 84, 0), (33, .ifCond .ne 6, 3, 0, 0), (36, .bipush (-2), 2, 0, 0), (38, .ireturn, 1, 0, 0), (39, .aload_n 0, 1, 0, 0), (40, .getfield 7, 3, 5, 0), (43, .iload_n 1, 1, 0, 0), (44, .iaload, 1, 0, 0), (45, .istore 4, 2, 0, 0), (47, .bipush (-4), 2, 0, 0), (49, .istore 5, 2, 0, 0), (51, .iconst 0, 1, 0, 0), (52, .istore 6, 2, 0, 0), (54, .iconst 0, 1, 0, 0), (55, .istore 7, 2, 0, 0), (57, .iload 7, 2, 0, 0), (59, .iload 4, 2, 0, 0), (61, .if_icmp .ge 112, 3, 0, 0), (64, .iconst 0, 1, 0, 0), (65, .istore 8, 2, 0, 0), (67, .iload 8, 2, 0, 0), (69, .iload_n 2, 1, 0, 0), (70, .invokestatic 79, 3, 88, 0), (73, .iconst 1, 1, 0, 0), (74, .if_icmp .le 8, 3, 0, 0), (77, .iload 4, 2, 0, 0), (79, .goto 4, 3, 0, 0), (82, .iconst 1, 1, 0, 0), (83, .if_icmp .ge 84, 3, 0, 0), (86, .iconst 0, 1, 0, 0), (87, .istore 9, 2, 0, 0), (89, .iload 9, 2, 0, 0), (91, .iload_n 2, 1, 0, 0), (92, .invokestatic 79, 3, 88, 0), (95, .iconst 2, 1, 0, 0), (96, .if_icmp .le 8, 3, 0, 0), (99, .iload 4, 2, 0, 0), (101, .goto 4, 3, 0, 0), (104, .iconst 1, 1, 0, 0), (105, .if_icmp .ge 56, 3, 0, 0), (108, .aload_n 0, 1, 0, 0), (109, .iload_n 1, 1, 0, 0), (110, .iload_n 2, 1, 0, 0), (111, .iload 7, 2, 0, 0), (113, .iload 8, 2, 0, 0), (115, .iload 9, 2, 0, 0), (117, .invokevirtual 82, 3, 89, 0), (120, .ifCond .ne 35, 3, 0, 0), (123, .iload 5, 2, 0, 0), (125, .ifCond .ge 23, 3, 0, 0), (128, .iload 4, 2, 0, 0), (130, .iload 4, 2, 0, 0), (132, .imul, 1, 0, 0), (133, .iload 7, 2, 0, 0), (135, .imul, 1, 0, 0), (136, .iload 4, 2, 0, 0), (138, .iload 8, 2, 0, 0), (140, .imul, 1, 0, 0), (141, .iadd, 1, 0, 0), (142, .iload 9, 2, 0, 0), (144, .iadd, 1, 0, 0), (145, .goto 5, 3, 0, 0), (148, .iload 5, 2, 0, 0), (150, .istore 5, 2, 0, 0), (152, .iinc 6 1, 3, 0, 0), (155, .iinc 9 1, 3, 0, 0), (158, .goto (-69), 3, 0, 0), (161, .iinc 8 1, 3, 0, 0), (164, .goto (-97), 3, 0, 0), (167, .iinc 7 1, 3, 0, 0), (170, .goto (-113), 3, 0, 0), (173, .iload_n 3, 1, 0, 0), (174, .ifCond .ne 8, 3, 0, 0), (177, .iload 5, 2, 0, 0), (179, .goto 5, 3, 0, 0), (182, .iload 6, 2, 0, 0), (184, .ireturn, 1, 0, 0)]
def xm_r88 : List xm_Op := [(0, .iload_n 0, 1, 0, 0), (1, .bipush 8, 2, 0, 0), (3, .if_icmp .eq 9, 3, 0, 0), (6, .iload_n 0, 1, 0, 0), (7, .bipush 11, 2, 0, 0), (9, .if_icmp .ne 7, 3, 0, 0), (12, .iconst 1, 1, 0, 0), (13, .goto 29, 3, 0, 0), (16, .iload_n 0, 1, 0, 0), (17, .iconst 1, 1, 0, 0), (18, .if_icmp .eq 19, 3, 0, 0), (21, .iload_n 0, 1, 0, 0), (22, .iconst 5, 1, 0, 0), (23, .bipush 7, 2, 0, 0), (25, .invokestatic 30, 3, 70, 0), (28, .ifCond .ne 9, 3, 0, 0), (31, .iload_n 0, 1, 0, 0), (32, .bipush 12, 2, 0, 0), (34, .if_icmp .ne 7, 3, 0, 0), (37, .iconst 3, 1, 0, 0), (38, .goto 4, 3, 0, 0), (41, .iconst 2, 1, 0, 0), (42, .ireturn, 1, 0, 0)]
def xm_r89 : List xm_Op := [(0, .aload_n 0, 1, 0, 0), (1, .iload_n 1, 1, 0, 0), (2, .iload_n 3, 1, 0, 0), (3, .iload 4, 2, 0, 0), (5, .invokevirtual 42, 3, 74, 0), (8, .istore 6, 2, 0, 0), (10, .aload_n 0, 1, 0, 0), (11, .iload_n 1, 1, 0, 0), (12, .iload 4, 2, 0, 0), (14, .iload_n 3, 1, 0, 0), (15, .invokevirtual 42, 3, 74, 0), (18, .istore 7, 2, 0, 0), (20, .aload_n 0, 1, 0, 0), (21, .iload_n 1, 1, 0, 0), (22, .iload_n 3, 1, 0, 0), (23, .iload_n 3, 1, 0, 0), (24, .invokevirtual 42, 3, 74, 0), (27, .istore 8, 2, 0, 0), (29, .iload_n 2, 1, 0, 0), (30, .tableswitch 404 0 11 #[62, 75, 108, 133, 159, 185, 230, 275, 320, 343, 368, 393], 62, 0, 0), (92, .iload 6, 2, 0, 0), (94, .iload 7, 2, 0, 0), (96, .if_icmp .ne 7, 3, 0, 0), (99, .iconst 1, 1, 0, 0), (100, .goto 4, 3, 0, 0), (103, .iconst 0, 1, 0, 0), (104, .ireturn, 1, 0, 0), (105, .aload_n 0, 1, 0, 0), (106, .iload_n 1, 1, 0, 0), (107, .iload 6, 2, 0, 0), (109, .iload 5, 2, 0, 0), (111, .invokevirtual 42, 3, 74, 0), (114, .aload_n 0, 1, 0, 0), (115, .iload_n 1, 1, 0, 0), (116, .iload_n 3, 1, 0, 0), (117, .aload_n 0, 1, 0, 0), (118, .iload_n 1, 1, 0, 0), (119, .iload 4, 2, 0, 0), (121, .iload 5, 2, 0, 0), (123, .invokevirtual 42, 3, 74, 0), (126, .invokevirtual 42, 3, 74, 0), (129, .if_icmp .ne 7, 3, 0, 0), (132, .iconst 1, 1, 0, 0), (133, .goto 4, 3, 0, 0), (136, .iconst 0, 1, 0, 0), (137, .ireturn, 1, 0, 0), (138, .aload_n 0, 1, 0, 0), (139, .iload_n 1, 1, 0, 0), (140, .iload_n 3, 1, 0, 0), (141, .iload 7, 2, 0, 0), (143, .invokevirtual 42, 3, 74, 0), (146, .aload_n 0, 1, 0, 0), (147, .iload_n 1, 1, 0, 0), (148, .iload 6, 2, 0, 0), (150, .iload_n 3, 1, 0, 0), (151, .invokevirtual 42, 3, 74, 0), (154, .if_icmp .ne 7, 3, 0, 0), (157, .iconst 1, 1, 0, 0), (158, .goto 4, 3, 0, 0), (161, .iconst 0, 1, 0, 0), (162, .ireturn, 1, 0, 0), (163, .aload_n 0, 1, 0, 0), (164, .iload_n 1, 1, 0, 0), (165, .iload_n 3, 1, 0, 0), (166, .iload 6, 2, 0, 0), (168, .invokevirtual 42, 3, 74, 0), (171, .aload_n 0, 1, 0, 0), (172, .iload_n 1, 1, 0, 0), (173, .iload 8, 2, 0, 0), (175, .iload 4, 2, 0, 0), (177, .invokevirtual 42, 3, 74, 0), (180, .if_icmp .ne 7, 3, 0, 0), (183, .iconst 1, 1, 0, 0), (184, .goto 4, 3, 0, 0), (187, .iconst 0, 1, 0, 0), (188, .ireturn, 1, 0, 0), (189, .aload_n 0, 1, 0, 0), (190, .iload_n 1, 1, 0, 0), (191, .iload 7, 2, 0, 0), (193, .iload_n 3, 1, 0, 0), (194, .invokevirtual 42, 3, 74, 0), (197, .aload_n 0, 1, 0, 0), (198, .iload_n 1, 1, 0, 0), (199, .iload 4, 2, 0, 0), (201, .iload 8, 2, 0, 0), (203, .invokevirtual 42, 3, 74, 0), (206, .if_icmp .ne 7, 3, 0, 0), (209, .iconst 1, 1, 0, 0), (210, .goto 4, 3, 0, 0), (213, .iconst 0, 1, 0, 0), (214, .ireturn, 1, 0, 0), (215, .aload_n 0, 1, 0, 0), (216, .iload_n 1, 1, 0, 0), (217, .iload_n 3, 1, 0, 0), (218, .aload_n 0, 1, 0, 0), (219, .iload_n 1, 1, 0, 0), (220, .iload 4, 2, 0, 0), (222, .aload_n 0, 1, 0, 0), (223, .iload_n 1, 1, 0, 0), (224, .iload_n 3, 1, 0, 0), (225, .iload 5, 2, 0, 0), (227, .invokevirtual 42, 3, 74, 0), (230, .invokevirtual 42, 3, 74, 0), (233, .invokevirtual 42, 3, 74, 0), (236, .aload_n 0, 1, 0, 0), (237, .iload_n 1, 1, 0, 0), (238, .aload_n 0, 1, 0, 0), (239, .iload_n 1, 1, 0, 0), (240, .iload_n 3, 1, 0, 0), (241, .iload 7, 2, 0, 0), (243, .invokevirtual 42, 3, 74, 0), (246, .iload 5, 2, 0, 0), (248, .invokevirtual 42, 3, 74, 0), (251, .if_icmp .ne 7, 3, 0, 0), (254, .iconst 1, 1, 0, 0), (255, .goto 4, 3, 0, 0), (258, .iconst 0, 1, 0, 0), (259, .ireturn, 1, 0, 0), (260, .aload_n 0, 1, 0, 0), (261, .iload_n 1, 1, 0, 0), (262, .aload_n 0, 1, 0, 0), (263, .iload_n 1, 1, 0, 0), (264, .aload_n 0, 1, 0, 0), (265, .iload_n 1, 1, 0, 0), (266, .iload 5, 2, 0, 0), (268, .iload_n 3, 1, 0, 0), (269, .invokevirtual 42, 3, 74, 0), (272, .iload 4, 2, 0, 0), (274, .invokevirtual 42, 3, 74, 0), (277, .iload_n 3, 1, 0, 0), (278, .invokevirtual 42, 3, 74, 0), (281, .aload_n 0, 1, 0, 0), (282, .iload_n 1, 1, 0, 0), (283, .iload 5, 2, 0, 0), (285, .aload_n 0, 1, 0, 0), (286, .iload_n 1, 1, 0, 0), (287, .iload 6, 2, 0, 0), (289, .iload_n 3, 1, 0, 0), (290, .invokevirtual 42, 3, 74, 0), (293, .invokevirtual 42, 3, 74, 0), (296, .if_icmp .ne 7, 3, 0, 0), (299, .iconst 1, 1, 0, 0), (300, .goto 4, 3, 0, 0), (303, .iconst 0, 1, 0, 0), (304, .ireturn, 1, 0, 0), (305, .aload_n 0, 1, 0, 0), (306, .iload_n 1, 1, 0, 0), (307, .aload_n 0, 1, 0, 0), (308, .iload_n 1, 1, 0, 0), (309, .iload 6, 2, 0, 0), (311, .iload_n 3, 1, 0, 0), (312, .invokevirtual 42, 3, 74, 0), (315, .iload 5, 2, 0, 0), (317, .invokevirtual 42, 3, 74, 0), (320, .aload_n 0, 1, 0, 0), (321, .iload_n 1, 1, 0, 0), (322, .iload_n 3, 1, 0, 0), (323, .aload_n 0, 1, 0, 0), (324, .iload_n 1, 1, 0, 0), (325, .iload 4, 2, 0, 0), (327, .aload_n 0, 1, 0, 0), (328, .iload_n 1, 1, 0, 0), (329, .iload_n 3, 1, 0, 0), (330, .iload 5, 2, 0, 0), (332, .invokevirtual 42, 3, 74, 0), (335, .invokevirtual 42, 3, 74, 0), (338, .invokevirtual 42, 3, 74, 0), (341, .if_icmp .ne 7, 3, 0, 0), (344, .iconst 1, 1, 0, 0), (345, .goto 4, 3, 0, 0), (348, .iconst 0, 1, 0, 0), (349, .ireturn, 1, 0, 0), (350, .aload_n 0, 1, 0, 0), (351, .iload_n 1, 1, 0, 0), (352, .iload_n 3, 1, 0, 0), (353, .iconst 0, 1, 0, 0), (354, .invokevirtual 73, 3, 85, 0), (357, .aload_n 0, 1, 0, 0), (358, .iload_n 1, 1, 0, 0), (359, .iconst 0, 1, 0, 0), (360, .iload_n 3, 1, 0, 0), (361, .invokevirtual 76, 3, 86, 0), (364, .if_icmp .ne 7, 3, 0, 0), (367, .iconst 1, 1, 0, 0), (368, .goto 4, 3, 0, 0), (371, .iconst 0, 1, 0, 0), (372, .ireturn, 1, 0, 0), (373, .aload_n 0, 1, 0, 0), (374, .iload_n 1, 1, 0, 0), (375, .aload_n 0, 1, 0, 0), (376, .iload_n 1, 1, 0, 0), (377, .iload_n 3, 1, 0, 0), (378, .iconst 0, 1, 0, 0), (379, .invokevirtual 73, 3, 85, 0), (382, .iload 6, 2, 0, 0), (384, .invokevirtual 42, 3, 74, 0), (387, .iload 4, 2, 0, 0), (389, .if_icmp .ne 7, 3, 0, 0), (392, .iconst 1, 1, 0, 0), (393, .goto 4, 3, 0, 0), (396, .iconst 0, 1, 0, 0), (397, .ireturn, 1, 0, 0), (398, .aload_n 0, 1, 0, 0), (399, .iload_n 1, 1, 0, 0), (400, .iload 7, 2, 0, 0), (402, .aload_n 0, 1, 0, 0), (403, .iload_n 1, 1, 0, 0), (404, .iconst 0, 1, 0, 0), (405, .iload_n 3, 1, 0, 0), (406, .invokevirtual 76, 3, 86, 0), (409, .invokevirtual 42, 3, 74, 0), (412, .iload 4, 2, 0, 0), (414, .if_icmp .ne 7, 3, 0, 0), (417, .iconst 1, 1, 0, 0), (418, .goto 4, 3, 0, 0), (421, .iconst 0, 1, 0, 0), (422, .ireturn, 1, 0, 0), (423, .iload 8, 2, 0, 0), (425, .ifCond .ne 7, 3, 0, 0), (428, .iconst 1, 1, 0, 0), (429, .goto 4, 3, 0, 0), (432, .iconst 0, 1, 0, 0), (433, .ireturn, 1, 0, 0), (434, .aload_n 0, 1, 0, 0), (435, .iload_n 1, 1, 0, 0), (436, .iload 6, 2, 0, 0), (438, .aload_n 0, 1, 0, 0), (439, .iload_n 1, 1, 0, 0), (440, .iload_n 3, 1, 0, 0), (441, .iload 5, 2, 0, 0), (443, .invokevirtual 42, 3, 74, 0), (446, .invokevirtual 42, 3, 74, 0), (449, .aload_n 0, 1, 0, 0), (450, .iload_n 1, 1, 0, 0), (451, .iload 8, 2, 0, 0), (453, .aload_n 0, 1, 0, 0), (454, .iload_n 1, 1, 0, 0), (455, .iload 4, 2, 0, 0), (457, .iload 5, 2, 0, 0), (459, .invokevirtual 42, 3, 74, 0), (462, .invokevirtual 42, 3, 74, 0), (465, .if_icmp .ne 7, 3, 0, 0), (468, .iconst 1, 1, 0, 0), (469, .goto 4, 3, 0, 0), (472, .iconst 0, 1, 0, 0), (473, .ireturn, 1, 0, 0)]
def xm_r90 : List xm_Op := [(0, .iload_n 1, 1, 0, 0), (1, .invokestatic 34, 3, 69, 0), (4, .ifCond .eq 12, 3, 0, 0), (7, .iload_n 2, 1, 0, 0), (8, .iconst 0, 1, 0, 0), (9, .iconst 4, 1, 0, 0), (10, .invokestatic 30, 3, 70, 0), (13, .ifCond .ne 5, 3, 0, 0), (16, .iconst (-1), 1, 0, 0), (17, .ireturn, 1, 0, 0), (18, .aload_n 0, 1, 0, 0), (19, .iload_n 1, 1, 0, 0), (20, .invokevirtual 70, 3, 84, 0), (23, .ifCond .ne 6, 3, 0, 0), (26, .bipush (-2), 2, 0, 0), (28, .ireturn, 1, 0, 0), (29, .iconst 0, 1, 0, 0), (30, .istore_n 3, 1, 0, 0), (31, .iconst 0, 1, 0, 0), (32, .istore 4, 2, 0, 0), (34, .iload 4, 2, 0, 0), (36, .aload_n 0, 1, 0, 0), (37, .getfield 7, 3, 5, 0), (40, .iload_n 1, 1, 0, 0), (41, .iaload, 1, 0, 0), (42, .if_icmp .ge 92, 3, 0, 0), (45, .iload_n 2, 1, 0, 0), (46, .iconst 4, 1, 0, 0), (47, .if_icmp .ge 14, 3, 0, 0), (50, .aload_n 0, 1, 0, 0), (51, .iload_n 1, 1, 0, 0), (52, .iload_n 2, 1, 0, 0), (53, .iload 4, 2, 0, 0), (55, .invokevirtual 86, 3, 91, 0), (58, .goto 52, 3, 0, 0), (61, .aload_n 0, 1, 0, 0), (62, .iload_n 1, 1, 0, 0), (63, .iconst 0, 1, 0, 0), (64, .iload 4, 2, 0, 0), (66, .invokevirtual 86, 3, 91, 0), (69, .ifCond .eq 40, 3, 0, 0), (72, .aload_n 0, 1, 0, 0), (73, .iload_n 1, 1, 0, 0), (74, .iconst 1, 1, 0, 0), (75, .iload 4, 2, 0, 0), (77, .invokevirtual 86, 3, 91, 0), (80, .ifCond .eq 29, 3, 0, 0), (83, .aload_n 0, 1, 0, 0), (84, .iload_n 1, 1, 0, 0), (85, .iconst 2, 1, 0, 0), (86, .iload 4, 2, 0, 0), (88, .invokevirtual 86, 3, 91, 0), (91, .ifCond .eq 18, 3, 0, 0), (94, .aload_n 0, 1, 0, 0), (95, .iload_n 1, 1, 0, 0), (96, .iconst 3, 1, 0, 0), (97, .iload 4, 2, 0, 0), (99, .invokevirtual 86, 3, 91, 0), (102, .ifCond .eq 7, 3, 0, 0), (105, .iconst 1, 1, 0, 0), (106, .goto 4, 3, 0, 0), (109, .iconst 0, 1, 0, 0), (110, .istore 5, 2, 0, 0), (112, .iload_n 3, 1, 0, 0), (113, .iload 5, 2, 0, 0), (115, .ifCond .eq 10, 3, 0, 0), (118, .iconst 1, 1, 0, 0), (119, .iload 4, 2, 0, 0), (121, .ishl, 1, 0, 0), (122, .goto 4, 3, 0, 0), (125, .iconst 0, 1, 0, 0), (126, .ior, 1, 0, 0), (127, .istore_n 3, 1, 0, 0), (128, .iinc 4 1, 3, 0, 0), (131, .goto (-97), 3, 0, 0), (134, .iload_n 3, 1, 0, 0), (135, .ireturn, 1, 0, 0)]
def xm_r91 : List xm_Op := [(0, .iconst 1, 1, 0, 0), (1, .istore 4, 2, 0, 0), (3, .iconst 0, 1, 0, 0), (4, .istore 5, 2, 0, 0), (6, .iload 5, 2, 0, 0), (8, .aload_n 0, 1, 0, 0), (9, .getfield 7, 3, 5, 0), (12, .iload_n 1, 1, 0, 0), (13, .iaload, 1, 0, 0), (14, .if_icmp .ge 215, 3, 0, 0), (17, .iconst 0, 1, 0, 0), (18, .istore 6, 2, 0, 0), (20, .iload 6, 2, 0, 0), (22, .aload_n 0, 1, 0, 0), (23, .getfield 7, 3, 5, 0), (26, .iload_n 1, 1, 0, 0), (27, .iaload, 1, 0, 0), (28, .if_icmp .ge 195, 3, 0, 0), (31, .aload_n 0, 1, 0, 0), (32, .iload_n 1, 1, 0, 0), (33, .iload 5, 2, 0, 0), (35, .iload 6, 2, 0, 0), (37, .invokevirtual 42, 3, 74, 0), (40, .istore 7, 2, 0, 0), (42, .iload_n 2, 1, 0, 0), (43, .ifCond .ne 44, 3, 0, 0), (46, .iload 4, 2, 0, 0), (48, .ifCond .eq 33, 3, 0, 0), (51, .aload_n 0, 1, 0, 0), (52, .iload_n 1, 1, 0, 0), (53, .aload_n 0, 1, 0, 0), (54, .iload_n 1, 1, 0, 0), (55, .iload_n 3, 1, 0, 0), (56, .iload 5, 2, 0, 0), (58, .invokevirtual 42, 3, 74, 0), (61, .iload 6, 2, 0, 0), (63, .invokevirtual 42, 3, 74, 0), (66, .aload_n 0, 1, 0, 0), (67, .iload_n 1, 1, 0, 0), (68, .iload_n 3, 1, 0, 0), (69, .iload 7, 2, 0, 0), (71, .invokevirtual 42, 3, 74, 0), (74, .if_icmp .ne 7, 3, 0, 0), (77, .iconst 1, 1, 0, 0), (78, .goto 4, 3, 0, 0), (81, .iconst 0, 1, 0, 0), (82, .istore 4, 2, 0, 0), (84, .goto 133, 3, 0, 0), (87, .iload_n 2, 1, 0, 0), (88, .iconst 1, 1, 0, 0), (89, .if_icmp .ne 51, 3, 0, 0), (92, .iload 4, 2, 0, 0), (94, .ifCond .eq 40, 3, 0, 0), (97, .aload_n 0, 1, 0, 0), (98, .iload_n 1, 1, 0, 0), (99, .aload_n 0, 1, 0, 0), (100, .iload_n 1, 1, 0, 0), (101, .iload 5, 2, 0, 0), (103, .iload_n 3, 1, 0, 0), (104, .invokevirtual 42, 3, 74, 0), (107, .iload 6, 2, 0, 0), (109, .invokevirtual 42, 3, 74, 0), (112, .aload_n 0, 1, 0, 0), (113, .iload_n 1, 1, 0, 0), (114, .iload 5, 2, 0, 0), (116, .aload_n 0, 1, 0, 0), (117, .iload_n 1, 1, 0, 0), (118, .iload_n 3, 1, 0, 0), (119, .iload 6, 2, 0, 0), (121, .invokevirtual 42, 3, 74, 0), (124, .invokevirtual 42, 3, 74, 0), (127, .if_icmp .ne 7, 3, 0, 0), (130, .iconst 1, 1, 0, 0), (131, .goto 4, 3, 0, 0), (134, .iconst 0, 1, 0, 0), (135, .istore 4, 2, 0, 0), (137, .goto 80, 3, 0, 0), (140, .iload_n 2, 1, 0, 0), (141, .iconst 2, 1, 0, 0), (142, .if_icmp .ne 44, 3, 0, 0), (145, .iload 4, 2, 0, 0), (147, .ifCond .eq 33, 3, 0, 0), (150, .aload_n 0, 1, 0, 0), (151, .iload_n 1, 1, 0, 0), (152, .iload 7, 2, 0, 0), (154, .iload_n 3, 1, 0, 0), (155, .invokevirtual 42, 3, 74, 0), (158, .aload_n 0, 1, 0, 0), (159, .iload_n 1, 1, 0, 0), (160, .iload 5, 2, 0, 0), (162, .aload_n 0, 1, 0, 0), (163, .iload_n 1, 1, 0, 0), (164, .iload 6, 2, 0, 0), (166, .iload_n 3, 1, 0, 0), (167, .invokevirtual 42, 3, 74, 0), (170, .invokevirtual 42, 3, 74, 0), (173, .if_icmp .ne 7, 3, 0, 0), (176, .iconst 1, 1, 0, 0), (177, .goto 4, 3, 0, 0), (180, .iconst 0, 1, 0, 0), (181, .istore 4, 2, 0, 0), (183, .goto 34, 3, 0, 0), (186, .iload 4, 2, 0, 0), (188, .ifCond .eq 26, 3, 0, 0), (191, .aload_n 0, 1, 0, 0), (192, .iload_n 1, 1, 0, 0), (193, .iload_n 3, 1, 0, 0), (194, .iload 5, 2, 0, 0), (196, .invokevirtual 42, 3, 74, 0), (199, .aload_n 0, 1, 0, 0), (200, .iload_n 1, 1, 0, 0), (201, .iload 5, 2, 0, 0), (203, .iload_n 3, 1, 0, 0), (204, .invokevirtual 42, 3, 74, 0), (207, .if_icmp .ne 7, 3, 0, 0), (210, .iconst 1, 1, 0, 0), (211, .goto 4, 3, 0, 0), (214, .iconst 0, 1, 0, 0), (215, .istore 4, 2, 0, 0), (217, .iinc 6 1, 3, 0, 0), (220, .goto (-200), 3, 0, 0), (223, .iinc 5 1, 3, 0, 0), (226, .goto (-220), 3, 0, 0), (229, .iload 4, 2, 0, 0), (231, .ireturn, 1, 0, 0)]
def xm_r92 : List xm_Op := [(0, .iload_n 1, 1, 0, 0), (1, .invokestatic 34, 3, 69, 0), (4, .ifCond .eq 12, 3, 0, 0), (7, .aload_n 0, 1, 0, 0), (8, .iload_n 1, 1, 0, 0), (9, .iload_n 2, 1, 0, 0), (10, .invokevirtual 92, 3, 93, 0), (13, .ifCond .ne 5, 3, 0, 0), (16, .iconst (-1), 1, 0, 0), (17, .ireturn, 1, 0, 0), (18, .aload_n 0, 1, 0, 0), (19, .iload_n 1, 1, 0, 0), (20, .invokevirtual 70, 3, 84, 0), (23, .ifCond .eq 12, 3, 0, 0), (26, .aload_n 0, 1, 0, 0), (27, .iload_n 1, 1, 0, 0), (28, .iload_n 2, 1, 0, 0), (29, .invokevirtual 95, 3, 94, 0), (32, .goto 5, 3, 0, 0), (35, .bipush (-2), 2, 0, 0), (37, .ireturn, 1, 0, 0)]
def xm_r93 : List xm_Op := [(0, .iload_n 2, 1, 0, 0), (1, .iconst 0, 1, 0, 0), (2, .iconst 1, 1, 0, 0), (3, .aload_n 0, 1, 0, 0), (4, .getfield 7, 3, 5, 0), (7, .iload_n 1, 1, 0, 0), (8, .iaload, 1, 0, 0), (9, .ishl, 1, 0, 0), (10, .iconst 1, 1, 0, 0), (11, .isub, 1, 0, 0), (12, .invokestatic 30, 3, 70, 0), (15, .ireturn, 1, 0, 0)]
def xm_r94 : List xm_Op := [(0, .iload_n 2, 1, 0, 0), (1, .iconst 1, 1, 0, 0), (2, .ior, 1, 0, 0), (3, .istore_n 3, 1, 0, 0), (4, .iconst 0, 1, 0, 0), (5, .istore 4, 2, 0, 0), (7, .iload_n 3, 1, 0, 0), (8, .iload 4, 2, 0, 0), (10, .if_icmp .eq 107, 3, 0, 0), (13, .iload_n 3, 1, 0, 0), (14, .istore 4, 2, 0, 0), (16, .iconst 0, 1, 0, 0), (17, .istore 5, 2, 0, 0), (19, .iload 5, 2, 0, 0), (21, .aload_n 0, 1, 0, 0), (22, .getfield 7, 3, 5, 0), (25, .iload_n 1, 1, 0, 0), (26, .iaload, 1, 0, 0), (27, .if_icmp .ge 87, 3, 0, 0), (30, .iconst 0, 1, 0, 0), (31, .istore 6, 2, 0, 0), (33, .iload 6, 2, 0, 0), (35, .aload_n 0, 1, 0, 0), (36, .getfield 7, 3, 5, 0), (39, .iload_n 1, 1, 0, 0), (40, .iaload, 1, 0, 0), (41, .if_icmp .ge 67, 3, 0, 0), (44, .iload 4, 2, 0, 0), (46, .iload 5, 2, 0, 0), (48, .invokestatic 89, 3, 95, 0), (51, .ifCond .eq 51, 3, 0, 0), (54, .iload 4, 2, 0, 0), (56, .iload 6, 2, 0, 0), (58, .invokestatic 89, 3, 95, 0), (61, .ifCond .eq 41, 3, 0, 0), (64, .iload_n 3, 1, 0, 0), (65, .iconst 1, 1, 0, 0), (66, .aload_n 0, 1, 0, 0), (67, .iload_n 1, 1, 0, 0), (68, .iload 5, 2, 0, 0), (70, .iload 6, 2, 0, 0), (72, .invokevirtual 42, 3, 74, 0), (75, .ishl, 1, 0, 0), (76, .iconst 1, 1, 0, 0), (77, .aload_n 0, 1, 0, 0), (78, .iload_n 1, 1, 0, 0), (79, .iload 5, 2, 0, 0), (81, .iload 6, 2, 0, 0), (83, .invokevirtual 73, 3, 85, 0), (86, .ishl, 1, 0, 0), (87, .ior, 1, 0, 0), (88, .iconst 1, 1, 0, 0), (89, .aload_n 0, 1, 0, 0), (90, .iload_n 1, 1, 0, 0), (91, .iload 6, 2, 0, 0), (93, .iload 5, 2, 0, 0), (95, .invokevirtual 76, 3, 86, 0), (98, .ishl, 1, 0, 0), (99, .ior, 1, 0, 0), (100, .ior, 1, 0, 0), (101, .istore_n 3, 1, 0, 0), (102, .iinc 6 1, 3, 0, 0), (105, .goto (-72), 3, 0, 0), (108, .iinc 5 1, 3, 0, 0), (111, .goto (-92), 3, 0, 0), (114, .goto (-107), 3, 0, 0), (117, .iload_n 3, 1, 0, 0), (118, .ireturn, 1, 0, 0)]
def xm_r95 : List xm_Op := [(0, .iload_n 0, 1, 0, 0), (1, .iload_n 1, 1, 0, 0), (2, .ishr, 1, 0, 0), (3, .iconst 1, 1, 0, 0), (4, .iand, 1, 0, 0), (5, .iconst 1, 1, 0, 0), (6, .if_icmp .ne 7, 3, 0, 0), (9, .iconst 1, 1, 0, 0), (10, .goto 4, 3, 0, 0), (13, .iconst 0, 1, 0, 0), (14, .ireturn, 1, 0, 0)]
def xm_r96 : List xm_Op := [(0, .iload_n 1, 1, 0, 0), (1, .invokestatic 34, 3, 69, 0), (4, .ifCond .eq 12, 3, 0, 0), (7, .iload_n 2, 1, 0, 0), (8, .iconst 0, 1, 0, 0), (9, .iconst 1, 1, 0, 0), (10, .invokestatic 30, 3, 70, 0), (13, .ifCond .ne 5, 3, 0, 0), (16, .iconst (-1), 1, 0, 0), (17, .ireturn, 1, 0, 0), (18, .aload_n 0, 1, 0, 0), (19, .iload_n 1, 1, 0, 0), (20, .invokevirtual 70, 3, 84, 0), (23, .ifCond .ne 6, 3, 0, 0), (26, .bipush (-2), 2, 0, 0), (28, .ireturn, 1, 0, 0), (29, .iconst 0, 1, 0, 0), (30, .istore_n 3, 1, 0, 0), (31, .iconst 1, 1, 0, 0), (32, .istore 4, 2, 0, 0), (34, .iload 4, 2, 0, 0), (36, .iconst 1, 1, 0, 0), (37, .aload_n 0, 1, 0, 0), (38, .getfield 7, 3, 5, 0), (41, .iload_n 1, 1, 0, 0), (42, .iaload, 1, 0, 0), (43, .ishl, 1, 0, 0), (44, .if_icmp .ge 43, 3, 0, 0), (47, .iload_n 3, 1, 0, 0), (48, .aload_n 0, 1, 0, 0), (49, .iload_n 1, 1, 0, 0), (50, .iload 4, 2, 0, 0), (52, .invokevirtual 95, 3, 94, 0), (55, .iload 4, 2, 0, 0), (57, .if_icmp .ne 21, 3, 0, 0), (60, .iload_n 2, 1, 0, 0), (61, .ifCond .eq 13, 3, 0, 0), (64, .aload_n 0, 1, 0, 0), (65, .iload_n 1, 1, 0, 0), (66, .iload 4, 2, 0, 0), (68, .invokevirtual 102, 3, 97, 0), (71, .ifCond .eq 7, 3, 0, 0), (74, .iconst 1, 1, 0, 0), (75, .goto 4, 3, 0, 0), (78, .iconst 0, 1, 0, 0), (79, .iadd, 1, 0, 0), (80, .istore_n 3, 1, 0, 0), (81, .iinc 4 2, 3, 0, 0), (84, .goto (-50), 3, 0, 0), (87, .iload_n 3, 1, 0, 0), (88, .ireturn, 1, 0, 0)]
def xm_r97 : List xm_Op := [(0, .iconst 1, 1, 0, 0), (1, .istore_n 3, 1, 0, 0), (2, .iconst 0, 1, 0, 0), (3, .istore 4, 2, 0, 0), (5, .iload 4, 2, 0, 0), (7, .aload_n 0, 1, 0, 0), (8, .getfield 7, 3, 5, 0), (11, .iload_n 1, 1, 0, 0), (12, .iaload, 1, 0, 0), (13, .if_icmp .ge 139, 3, 0, 0), (16, .iload_n 3, 1, 0, 0), (17, .ifCond .eq 28, 3, 0, 0), (20, .aload_n 0, 1, 0, 0), (21, .iload_n 1, 1, 0, 0), (22, .iload 4, 2, 0, 0), (24, .iload_n 2, 1, 0, 0), (25, .iconst 1, 1, 0, 0), (26, .invokevirtual 98, 3, 98, 0), (29, .aload_n 0, 1, 0, 0), (30, .iload_n 1, 1, 0, 0), (31, .iload 4, 2, 0, 0), (33, .iload_n 2, 1, 0, 0), (34, .iconst 0, 1, 0, 0), (35, .invokevirtual 98, 3, 98, 0), (38, .if_icmp .ne 7, 3, 0, 0), (41, .iconst 1, 1, 0, 0), (42, .goto 4, 3, 0, 0), (45, .iconst 0, 1, 0, 0), (46, .istore_n 3, 1, 0, 0), (47, .iconst 0, 1, 0, 0), (48, .istore 5, 2, 0, 0), (50, .iload 5, 2, 0, 0), (52, .aload_n 0, 1, 0, 0), (53, .getfield 7, 3, 5, 0), (56, .iload_n 1, 1, 0, 0), (57, .iaload, 1, 0, 0), (58, .if_icmp .ge 88, 3, 0, 0), (61, .aload_n 0, 1, 0, 0), (62, .iload_n 1, 1, 0, 0), (63, .iload 4, 2, 0, 0), (65, .iload 5, 2, 0, 0), (67, .invokevirtual 42, 3, 74, 0), (70, .istore 6, 2, 0, 0), (72, .iload_n 3, 1, 0, 0), (73, .ifCond .eq 65, 3, 0, 0), (76, .aload_n 0, 1, 0, 0), (77, .iload_n 1, 1, 0, 0), (78, .iload 4, 2, 0, 0), (80, .aload_n 0, 1, 0, 0), (81, .iload_n 1, 1, 0, 0), (82, .iload 5, 2, 0, 0), (84, .iload_n 2, 1, 0, 0), (85, .iconst 1, 1, 0, 0), (86, .invokevirtual 98, 3, 98, 0), (89, .iconst 1, 1, 0, 0), (90, .invokevirtual 98, 3, 98, 0), (93, .aload_n 0, 1, 0, 0), (94, .iload_n 1, 1, 0, 0), (95, .iload 6, 2, 0, 0), (97, .iload_n 2, 1, 0, 0), (98, .iconst 1, 1, 0, 0), (99, .invokevirtual 98, 3, 98, 0), (102, .if_icmp .ne 36, 3, 0, 0), (105, .aload_n 0, 1, 0, 0), (106, .iload_n 1, 1, 0, 0), (107, .iload 5, 2, 0, 0), (109, .aload_n 0, 1, 0, 0), (110, .iload_n 1, 1, 0, 0), (111, .iload 4, 2, 0, 0), (113, .iload_n 2, 1, 0, 0), (114, .iconst 0, 1, 0, 0), (115, .invokevirtual 98, 3, 98, 0), (118, .iconst 0, 1, 0, 0), (119, .invokevirtual 98, 3, 98, 0), (122, .aload_n 0, 1, 0, 0), (123, .iload_n 1, 1, 0, 0), (124, .iload 6, 2, 0, 0), (126, .iload_n 2, 1, 0, 0), (127, .iconst 0, 1, 0, 0), (128, .invokevirtual 98, 3, 98, 0), (131, .if_icmp .ne 7, 3, 0, 0), (134, .iconst 1, 1, 0, 0), (135, .goto 4, 3, 0, 0), (138, .iconst 0, 1, 0, 0), (139, .istore_n 3, 1, 0, 0), (140, .iinc 5 1, 3, 0, 0), (143, .goto (-93), 3, 0, 0), (146, .iinc 4 1, 3, 0, 0), (149, .goto (-144), 3, 0, 0), (152, .iload_n 3, 1, 0, 0), (153, .ireturn, 1, 0, 0)]
def xm_r98 : List xm_Op := [(0, .iconst 0, 1, 0, 0), (1, .istore 5, 2, 0, 0), (3, .iconst 0, 1, 0, 0), (4, .istore 6, 2, 0, 0), (6, .iload 6, 2, 0, 0), (8, .aload_n 0, 1, 0, 0), (9, .getfield 7, 3, 5, 0), (12, .iload_n 1, 1, 0, 0), (13, .iaload, 1, 0, 0), (14, .if_icmp .ge 53, 3, 0, 0), (17, .iload 5, 2, 0, 0), (19, .iload_n 3, 1, 0, 0), (20, .iload 6, 2, 0, 0), (22, .invokestatic 89, 3, 95, 0), (25, .ifCond .eq 32, 3, 0, 0), (28, .iconst 1, 1, 0, 0), (29, .iload 4, 2, 0, 0), (31, .ifCond .eq 14, 3, 0, 0), (34, .aload_n 0, 1, 0, 0), (35, .iload_n 1, 1, 0, 0), (36, .iload_n 2, 1, 0, 0), (37, .iload 6, 2, 0, 0), (39, .invokevirtual 42, 3, 74, 0), (42, .goto 11, 3, 0, 0), (45, .aload_n 0, 1, 0, 0), (46, .iload_n 1, 1, 0, 0), (47, .iload 6, 2, 0, 0), (49, .iload_n 2, 1, 0, 0), (50, .invokevirtual 42, 3, 74, 0), (53, .ishl, 1, 0, 0), (54, .goto 4, 3, 0, 0), (57, .iconst 0, 1, 0, 0), (58, .ior, 1, 0, 0), (59, .istore 5, 2, 0, 0), (61, .iinc 6 1, 3, 0, 0), (64, .goto (-58), 3, 0, 0), (67, .iload 5, 2, 0, 0), (69, .ireturn, 1, 0, 0)]
def xm_r99 : List xm_Op := [(0, .iload_n 1, 1, 0, 0), (1, .invokestatic 34, 3, 69, 0), (4, .ifCond .eq 12, 3, 0, 0), (7, .aload_n 0, 1, 0, 0), (8, .iload_n 1, 1, 0, 0), (9, .iload_n 2, 1, 0, 0), (10, .invokevirtual 92, 3, 93, 0), (13, .ifCond .ne 5, 3, 0, 0), (16, .iconst (-1), 1, 0, 0), (17, .ireturn, 1, 0, 0), (18, .aload_n 0, 1, 0, 0), (19, .iload_n 1, 1, 0, 0), (20, .invokevirtual 70, 3, 84, 0), (23, .ifCond .ne 6, 3, 0, 0), (26, .bipush (-2), 2, 0, 0), (28, .ireturn, 1, 0, 0), (29, .aload_n 0, 1, 0, 0), (30, .iload_n 1, 1, 0, 0), (31, .iload_n 2, 1, 0, 0), (32, .invokevirtual 95, 3, 94, 0), (35, .iload_n 2, 1, 0, 0), (36, .if_icmp .eq 7, 3, 0, 0), (39, .iconst (-1), 1, 0, 0), (40, .goto 17, 3, 0, 0), (43, .aload_n 0, 1, 0, 0), (44, .iload_n 1, 1, 0, 0), (45, .iload_n 2, 1, 0, 0), (46, .invokevirtual 102, 3, 97, 0), (49, .ifCond .eq 7, 3, 0, 0), (52, .iconst 1, 1, 0, 0), (53, .goto 4, 3, 0, 0), (56, .iconst 0, 1, 0, 0), (57, .ireturn, 1, 0, 0)]
def xm_r100 : List xm_Op := [(0, .iload_n 1, 1, 0, 0), (1, .invokestatic 34, 3, 69, 0), (4, .ifCond .eq 19, 3, 0, 0), (7, .iload_n 2, 1, 0, 0), (8, .invokestatic 34, 3, 69, 0), (11, .ifCond .eq 12, 3, 0, 0), (14, .aload_n 0, 1, 0, 0), (15, .iload_n 2, 1, 0, 0), (16, .iload_n 3, 1, 0, 0), (17, .invokevirtual 92, 3, 93, 0), (20, .ifCond .ne 5, 3, 0, 0), (23, .iconst (-1), 1, 0, 0), (24, .ireturn, 1, 0, 0), (25, .aload_n 0, 1, 0, 0), (26, .iload_n 2, 1, 0, 0), (27, .invokevirtual 70, 3, 84, 0), (30, .ifCond .ne 6, 3, 0, 0), (33, .bipush (-2), 2, 0, 0), (35, .ireturn, 1, 0, 0), (36, .aload_n 0, 1, 0, 0), (37, .iload_n 2, 1, 0, 0), (38, .iload_n 3, 1, 0, 0), (39, .invokevirtual 95, 3, 94, 0), (42, .iload_n 3, 1, 0, 0), (43, .if_icmp .eq 5, 3, 0, 0), (46, .iconst (-1), 1, 0, 0), (47, .ireturn, 1, 0, 0), (48, .aload_n 0, 1, 0, 0), (49, .iload_n 2, 1, 0, 0), (50, .iload_n 3, 1, 0, 0), (51, .invokevirtual 102, 3, 97, 0), (54, .ifCond .ne 6, 3, 0, 0), (57, .bipush (-2), 2, 0, 0), (59, .ireturn, 1, 0, 0), (60, .iconst 0, 1, 0, 0), (61, .istore 4, 2, 0, 0), (63, .iconst 0, 1, 0, 0), (64, .istore 5, 2, 0, 0), (66, .iload 5, 2, 0, 0), (68, .aload_n 0, 1, 0, 0), (69, .getfield 7, 3, 5, 0), (72, .iload_n 2, 1, 0, 0), (73, .iaload, 1, 0, 0), (74, .if_icmp .ge 25, 3, 0, 0), (77, .aload_n 0, 1, 0, 0), (78, .iload_n 2, 1, 0, 0), (79, .iload_n 3, 1, 0, 0), (80, .iload 5, 2, 0, 0), (82, .invokevirtual 105, 3, 101, 0), (85, .iload 4, 2, 0, 0), (87, .if_icmp .ne 6, 3, 0, 0), (90, .iinc 4 1, 3, 0, 0), (93, .iinc 5 1, 3, 0, 0), (96, .goto (-30), 3, 0, 0), (99, .iconst 0, 1, 0, 0), (100, .istore 5, 2, 0, 0), (102, .iload 5, 2, 0, 0), (104, .aload_n 0, 1, 0, 0), (105, .getfield 7, 3, 5, 0), (108, .iload_n 2, 1, 0, 0), (109, .iaload, 1, 0, 0), (110, .if_icmp .ge 65, 3, 0, 0), (113, .iconst 0, 1, 0, 0), (114, .istore 6, 2, 0, 0), (116, .iload 6, 2, 0, 0), (118, .aload_n 0, 1, 0, 0), (119, .getfield 7, 3, 5, 0), (122, .iload_n 2, 1, 0, 0), (123, .iaload, 1, 0, 0), (124, .if_icmp .ge 45, 3, 0, 0), (127, .aload_n 0, 1, 0, 0), (128, .iconst 4, 1, 0, 0), (129, .aload_n 0, 1, 0, 0), (130, .iload_n 2, 1, 0, 0), (131, .iload_n 3, 1, 0, 0), (132, .iload 5, 2, 0, 0), (134, .invokevirtual 105, 3, 101, 0), (137, .aload_n 0, 1, 0, 0), (138, .iload_n 2, 1, 0, 0), (139, .iload_n 3, 1, 0, 0), (140, .iload 6, 2, 0, 0), (142, .invokevirtual 105, 3, 101, 0), (145, .aload_n 0, 1, 0, 0), (146, .iload_n 2, 1, 0, 0), (147, .iload_n 3, 1, 0, 0), (148, .aload_n 0, 1, 0, 0), (149, .iload_n 2, 1, 0, 0), (150, .iload 5, 2, 0, 0), (152, .iload 6, 2, 0, 0), (154, .invokevirtual 42, 3, 74, 0), (157, .invokevirtual 105, 3, 101, 0), (160, .invokevirtual 38, 3, 71, 0), (163, .iinc 6 1, 3, 0, 0), (166, .goto (-50), 3, 0, 0), (169, .iinc 5 1, 3, 0, 0), (172, .goto (-70), 3, 0, 0), (175, .aload_n 0, 1, 0, 0), (176, .getfield 7, 3, 5, 0), (179, .iconst 4, 1, 0, 0), (180, .iload 4, 2, 0, 0), (182, .iastore, 1, 0, 0), (183, .aload_n 0, 1, 0, 0), (184, .iload_n 1, 1, 0, 0), (185, .iconst 4, 1, 0, 0), (186, .invokevirtual 58, 3, 81, 0), (189, .iload 4, 2, 0, 0), (191, .ireturn, 1, 0, 0)]
def xm_r101 : List xm_Op := [(0, .aload_n 0, 1, 0, 0), (1, .iload_n 1, 1, 0, 0), (2, .iload_n 3, 1, 0, 0), (3, .iload_n 2, 1, 0, 0), (4, .iconst 1, 1, 0, 0), (5, .invokevirtual 98, 3, 98, 0), (8, .invokestatic 108, 3, 102, 0), (11, .istore 4, 2, 0, 0), (13, .iconst 0, 1, 0, 0), (14, .istore 5, 2, 0, 0), (16, .iconst 0, 1, 0, 0), (17, .istore 6, 2, 0, 0), (19, .iload 6, 2, 0, 0), (21, .iload 4, 2, 0, 0), (23, .if_icmp .ge 36, 3, 0, 0), (26, .iload 5, 2, 0, 0), (28, .aload_n 0, 1, 0, 0), (29, .iload_n 1, 1, 0, 0), (30, .iload 6, 2, 0, 0), (32, .iload_n 2, 1, 0, 0), (33, .iconst 1, 1, 0, 0), (34, .invokevirtual 98, 3, 98, 0), (37, .invokestatic 108, 3, 102, 0), (40, .iload 6, 2, 0, 0), (42, .if_icmp .ne 7, 3, 0, 0), (45, .iconst 1, 1, 0, 0), (46, .goto 4, 3, 0, 0), (49, .iconst 0, 1, 0, 0), (50, .iadd, 1, 0, 0), (51, .istore 5, 2, 0, 0), (53, .iinc 6 1, 3, 0, 0), (56, .goto (-37), 3, 0, 0), (59, .iload 5, 2, 0, 0), (61, .ireturn, 1, 0, 0)]
def xm_r102 : List xm_Op := [(0, .iconst 0, 1, 0, 0), (1, .istore_n 1, 1, 0, 0), (2, .iload_n 0, 1, 0, 0), (3, .iload_n 1, 1, 0, 0), (4, .invokestatic 89, 3, 95, 0), (7, .ifCond .ne 9, 3, 0, 0), (10, .iinc 1 1, 3, 0, 0), (13, .goto (-11), 3, 0, 0), (16, .iload_n 1, 1, 0, 0), (17, .ireturn, 1, 0, 0)]
def xm_r103 : List xm_Op := [(0, .iload_n 1, 1, 0, 0), (1, .invokestatic 34, 3, 69, 0), (4, .ifCond .ne 5, 3, 0, 0), (7, .iconst (-1), 1, 0, 0), (8, .ireturn, 1, 0, 0), (9, .aload_n 0, 1, 0, 0), (10, .iload_n 1, 1, 0, 0), (11, .invokevirtual 70, 3, 84, 0), (14, .ifCond .eq 14, 3, 0, 0), (17, .aload_n 0, 1, 0, 0), (18, .getfield 7, 3, 5, 0), (21, .iload_n 1, 1, 0, 0), (22, .iaload, 1, 0, 0), (23, .bipush 7, 2, 0, 0), (25, .if_icmp .le 6, 3, 0, 0), (28, .bipush (-2), 2, 0, 0), (30, .ireturn, 1, 0, 0), (31, .aload_n 0, 1, 0, 0), (32, .getfield 7, 3, 5, 0), (35, .iload_n 1, 1, 0, 0), (36, .iaload, 1, 0, 0), (37, .istore_n 2, 1, 0, 0), (38, .iconst 0, 1, 0, 0), (39, .istore_n 3, 1, 0, 0), (40, .iload_n 3, 1, 0, 0), (41, .sipush 5040, 3, 0, 0), (44, .if_icmp .ge 16, 3, 0, 0), (47, .aload_n 0, 1, 0, 0), (48, .getfield 26, 3, 5, 6), (51, .iload_n 3, 1, 0, 0), (52, .iconst 0, 1, 0, 0), (53, .bastore, 1, 0, 0), (54, .iinc 3 1, 3, 0, 0), (57, .goto (-17), 3, 0, 0), (60, .iconst 0, 1, 0, 0), (61, .istore_n 3, 1, 0, 0), (62, .iload_n 3, 1, 0, 0), (63, .iload_n 2, 1, 0, 0), (64, .if_icmp .ge 16, 3, 0, 0), (67, .aload_n 0, 1, 0, 0), (68, .getfield 19, 3, 5, 4), (71, .iload_n 3, 1, 0, 0), (72, .iload_n 3, 1, 0, 0), (73, .iastore, 1, 0, 0), (74, .iinc 3 1, 3, 0, 0), (77, .goto (-15), 3, 0, 0), (80, .aload_n 0, 1, 0, 0), (81, .iload_n 2, 1, 0, 0), (82, .iconst 0, 1, 0, 0), (83, .invokevirtual 114, 3, 104, 0), (86, .istore_n 3, 1, 0, 0), (87, .iconst 0, 1, 0, 0), (88, .istore 4, 2, 0, 0), (90, .iload 4, 2, 0, 0), (92, .iload_n 3, 1, 0, 0), (93, .if_icmp .ge 122, 3, 0, 0), (96, .iconst 0, 1, 0, 0), (97, .istore 5, 2, 0, 0), (99, .iload 5, 2, 0, 0), (101, .iload_n 2, 1, 0, 0), (102, .if_icmp .ge 107, 3, 0, 0), (105, .iconst 0, 1, 0, 0), (106, .istore 6, 2, 0, 0), (108, .iload 6, 2, 0, 0), (110, .iload_n 2, 1, 0, 0), (111, .if_icmp .ge 36, 3, 0, 0), (114, .aload_n 0, 1, 0, 0), (115, .getfield 19, 3, 5, 4), (118, .iload 6, 2, 0, 0), (120, .aload_n 0, 1, 0, 0), (121, .iload_n 1, 1, 0, 0), (122, .iload 5, 2, 0, 0), (124, .aload_n 0, 1, 0, 0), (125, .getfield 23, 3, 5, 5), (128, .bipush 7, 2, 0, 0), (130, .iload 4, 2, 0, 0), (132, .imul, 1, 0, 0), (133, .iload 6, 2, 0, 0), (135, .iadd, 1, 0, 0), (136, .iaload, 1, 0, 0), (137, .invokevirtual 42, 3, 74, 0), (140, .iastore, 1, 0, 0), (141, .iinc 6 1, 3, 0, 0), (144, .goto (-36), 3, 0, 0), (147, .aload_n 0, 1, 0, 0), (148, .iload_n 2, 1, 0, 0), (149, .iload_n 3, 1, 0, 0), (150, .invokevirtual 114, 3, 104, 0), (153, .istore_n 3, 1, 0, 0), (154, .iconst 0, 1, 0, 0), (155, .istore 6, 2, 0, 0), (157, .iload 6, 2, 0, 0), (159, .iload_n 2, 1, 0, 0), (160, .if_icmp .ge 36, 3, 0, 0), (163, .aload_n 0, 1, 0, 0), (164, .getfield 19, 3, 5, 4), (167, .iload 6, 2, 0, 0), (169, .aload_n 0, 1, 0, 0), (170, .iload_n 1, 1, 0, 0), (171, .aload_n 0, 1, 0, 0), (172, .getfield 23, 3, 5, 5), (175, .bipush 7, 2, 0, 0), (177, .iload 4, 2, 0, 0), (179, .imul, 1, 0, 0), (180, .iload 6, 2, 0, 0), (182, .iadd, 1, 0, 0), (183, .iaload, 1, 0, 0), (184, .iload 5, 2, 0, 0), (186, .invokevirtual 42, 3, 74, 0), (189, .iastore, 1, 0, 0), (190, .iinc 6 1, 3, 0, 0), (193, .goto (-36), 3, 0, 0), (196, .aload_n 0, 1, 0, 0), (197, .iload_n 2, 1, 0, 0), (198, .iload_n 3, 1, 0, 0), (199, .invokevirtual 114, 3, 104, 0), (202, .istore_n 3, 1, 0, 0), (203, .iinc 5 1, 3, 0, 0), (206, .goto (-107), 3, 0, 0), (209, .iinc 4 1, 3, 0, 0), (212, .goto (-122), 3, 0, 0), (215, .iload_n 3, 1, 0, 0), (216, .ireturn, 1, 0, 0)]
def xm_r104 : List xm_Op := [(0, .aload_n 0, 1, 0, 0), (1, .getfield 26, 3, 5, 6), (4, .aload_n 0, 1, 0, 0), (5, .iload_n 1, 1, 0, 0), (6, .invokevirtual 111, 3, 105, 0), (9, .baload, 1, 0, 0), (10, .ifCond .eq 5, 3, 0, 0), (13, .iload_n 2, 1, 0, 0), (14, .ireturn, 1, 0, 0), (15, .aload_n 0, 1, 0, 0), (16, .getfield 26, 3, 5, 6), (19, .aload_n 0, 1, 0, 0), (20, .iload_n 1, 1, 0, 0), (21, .invokevirtual 111, 3, 105, 0), (24, .iconst 1, 1, 0, 0), (25, .bastore, 1, 0, 0), (26, .iconst 0, 1, 0, 0), (27, .istore_n 3, 1, 0, 0), (28, .iload_n 3, 1, 0, 0), (29, .iload_n 1, 1, 0, 0), (30, .if_icmp .ge 26, 3, 0, 0), (33, .aload_n 0, 1, 0, 0), (34, .getfield 23, 3, 5, 5), (37, .bipush 7, 2, 0, 0), (39, .iload_n 2, 1, 0, 0), (40, .imul, 1, 0, 0), (41, .iload_n 3, 1, 0, 0), (42, .iadd, 1, 0, 0), (43, .aload_n 0, 1, 0, 0), (44, .getfield 19, 3, 5, 4), (47, .iload_n 3, 1, 0, 0), (48, .iaload, 1, 0, 0), (49, .iastore, 1, 0, 0), (50, .iinc 3 1, 3, 0, 0), (53, .goto (-25), 3, 0, 0), (56, .iload_n 2, 1, 0, 0), (57, .iconst 1, 1, 0, 0), (58, .iadd, 1, 0, 0), (59, .ireturn, 1, 0, 0)]
def xm_r105 : List xm_Op := [(0, .iconst 0, 1, 0, 0), (1, .istore_n 2, 1, 0, 0), (2, .iconst 0, 1, 0, 0), (3, .istore_n 3, 1, 0, 0), (4, .iload_n 3, 1, 0, 0), (5, .iload_n 1, 1, 0, 0), (6, .if_icmp .ge 64, 3, 0, 0), (9, .iconst 0, 1, 0, 0), (10, .istore 4, 2, 0, 0), (12, .iload_n 3, 1, 0, 0), (13, .iconst 1, 1, 0, 0), (14, .iadd, 1, 0, 0), (15, .istore 5, 2, 0, 0), (17, .iload 5, 2, 0, 0), (19, .iload_n 1, 1, 0, 0), (20, .if_icmp .ge 35, 3, 0, 0), (23, .iload 4, 2, 0, 0), (25, .aload_n 0, 1, 0, 0), (26, .getfield 19, 3, 5, 4), (29, .iload 5, 2, 0, 0), (31, .iaload, 1, 0, 0), (32, .aload_n 0, 1, 0, 0), (33, .getfield 19, 3, 5, 4), (36, .iload_n 3, 1, 0, 0), (37, .iaload, 1, 0, 0), (38, .if_icmp .ge 7, 3, 0, 0), (41, .iconst 1, 1, 0, 0), (42, .goto 4, 3, 0, 0), (45, .iconst 0, 1, 0, 0), (46, .iadd, 1, 0, 0), (47, .istore 4, 2, 0, 0), (49, .iinc 5 1, 3, 0, 0), (52, .goto (-35), 3, 0, 0), (55, .iload_n 2, 1, 0, 0), (56, .iload_n 1, 1, 0, 0), (57, .iload_n 3, 1, 0, 0), (58, .isub, 1, 0, 0), (59, .imul, 1, 0, 0), (60, .iload 4, 2, 0, 0), (62, .iadd, 1, 0, 0), (63, .istore_n 2, 1, 0, 0), (64, .iinc 3 1, 3, 0, 0), (67, .goto (-63), 3, 0, 0), (70, .iload_n 2, 1, 0, 0), (71, .ireturn, 1, 0, 0)]
def xm_r106 : List xm_Op := [(0, .iload_n 1, 1, 0, 0), (1, .invokestatic 34, 3, 69, 0), (4, .ifCond .eq 10, 3, 0, 0), (7, .iload_n 2, 1, 0, 0), (8, .invokestatic 34, 3, 69, 0), (11, .ifCond .ne 5, 3, 0, 0), (14, .iconst (-1), 1, 0, 0), (15, .ireturn, 1, 0, 0), (16, .aload_n 0, 1, 0, 0), (17, .iload_n 1, 1, 0, 0), (18, .invokevirtual 70, 3, 84, 0), (21, .ifCond .eq 37, 3, 0, 0), (24, .aload_n 0, 1, 0, 0), (25, .iload_n 2, 1, 0, 0), (26, .invokevirtual 70, 3, 84, 0), (29, .ifCond .eq 29, 3, 0, 0), (32, .iload_n 3, 1, 0, 0), (33, .ifCond .eq 28, 3, 0, 0), (36, .aload_n 0, 1, 0, 0), (37, .getfield 7, 3, 5, 0), (40, .iload_n 1, 1, 0, 0), (41, .iaload, 1, 0, 0), (42, .bipush 6, 2, 0, 0), (44, .if_icmp .gt 14, 3, 0, 0), (47, .aload_n 0, 1, 0, 0), (48, .getfield 7, 3, 5, 0), (51, .iload_n 2, 1, 0, 0), (52, .iaload, 1, 0, 0), (53, .bipush 6, 2, 0, 0), (55, .if_icmp .le 6, 3, 0, 0), (58, .bipush (-2), 2, 0, 0), (60, .ireturn, 1, 0, 0), (61, .aload_n 0, 1, 0, 0), (62, .getfield 7, 3, 5, 0), (65, .iload_n 1, 1, 0, 0), (66, .iaload, 1, 0, 0), (67, .aload_n 0, 1, 0, 0), (68, .getfield 7, 3, 5, 0), (71, .iload_n 2, 1, 0, 0), (72, .iaload, 1, 0, 0), (73, .if_icmp .eq 5, 3, 0, 0), (76, .iconst 0, 1, 0, 0), (77, .ireturn, 1, 0, 0), (78, .iload_n 3, 1, 0, 0), (79, .ifCond .ne 19, 3, 0, 0), (82, .aload_n 0, 1, 0, 0), (83, .iload_n 1, 1, 0, 0), (84, .iconst 0, 1, 0, 0), (85, .iload_n 2, 1, 0, 0), (86, .invokevirtual 127, 3, 107, 0), (89, .ifCond .eq 7, 3, 0, 0), (92, .iconst 1, 1, 0, 0), (93, .goto 4, 3, 0, 0), (96, .iconst 0, 1, 0, 0), (97, .ireturn, 1, 0, 0), (98, .aload_n 0, 1, 0, 0), (99, .getfield 7, 3, 5, 0), (102, .iload_n 1, 1, 0, 0), (103, .iaload, 1, 0, 0), (104, .istore 4, 2, 0, 0), (106, .iconst 0, 1, 0, 0), (107, .istore 5, 2, 0, 0), (109, .iload 5, 2, 0, 0), (111, .iload 4, 2, 0, 0), (113, .if_icmp .ge 117, 3, 0, 0), (116, .iconst 0, 1, 0, 0), (117, .istore 6, 2, 0, 0), (119, .iload 6, 2, 0, 0), (121, .iload 4, 2, 0, 0), (123, .if_icmp .ge 101, 3, 0, 0), (126, .aload_n 0, 1, 0, 0), (127, .getfield 7, 3, 5, 0), (130, .iconst 4, 1, 0, 0), (131, .iload 4, 2, 0, 0), (133, .iastore, 1, 0, 0), (134, .iconst 0, 1, 0, 0), (135, .istore 7, 2, 0, 0), (137, .iload 7, 2, 0, 0), (139, .iload 4, 2, 0, 0), (141, .if_icmp .ge 57, 3, 0, 0), (144, .iconst 0, 1, 0, 0), (145, .istore 8, 2, 0, 0), (147, .iload 8, 2, 0, 0), (149, .iload 4, 2, 0, 0), (151, .if_icmp .ge 41, 3, 0, 0), (154, .aload_n 0, 1, 0, 0), (155, .iconst 4, 1, 0, 0), (156, .iload 7, 2, 0, 0), (158, .iload 8, 2, 0, 0), (160, .aload_n 0, 1, 0, 0), (161, .iload_n 1, 1, 0, 0), (162, .aload_n 0, 1, 0, 0), (163, .iload_n 1, 1, 0, 0), (164, .iload 7, 2, 0, 0), (166, .iload 6, 2, 0, 0), (168, .invokevirtual 76, 3, 86, 0), (171, .aload_n 0, 1, 0, 0), (172, .iload_n 1, 1, 0, 0), (173, .iload 5, 2, 0, 0), (175, .iload 8, 2, 0, 0), (177, .invokevirtual 73, 3, 85, 0), (180, .invokevirtual 42, 3, 74, 0), (183, .invokevirtual 38, 3, 71, 0), (186, .iinc 8 1, 3, 0, 0), (189, .goto (-42), 3, 0, 0), (192, .iinc 7 1, 3, 0, 0), (195, .goto (-58), 3, 0, 0), (198, .aload_n 0, 1, 0, 0), (199, .iconst 4, 1, 0, 0), (200, .aload_n 0, 1, 0, 0), (201, .iload_n 1, 1, 0, 0), (202, .iload 5, 2, 0, 0), (204, .iload 6, 2, 0, 0), (206, .invokevirtual 42, 3, 74, 0), (209, .iload_n 2, 1, 0, 0), (210, .invokevirtual 127, 3, 107, 0), (213, .ifCond .eq 5, 3, 0, 0), (216, .iconst 1, 1, 0, 0), (217, .ireturn, 1, 0, 0), (218, .iinc 6 1, 3, 0, 0), (221, .goto (-102), 3, 0, 0), (224, .iinc 5 1, 3, 0, 0), (227, .goto (-118), 3, 0, 0), (230, .iconst 0, 1, 0, 0), (231, .ireturn, 1, 0, 0)]
def xm_r107 : List xm_Op := [(0, .iconst 0, 1, 0, 0), (1, .istore 4, 2, 0, 0), (3, .iload 4, 2, 0, 0), (5, .aload_n 0, 1, 0, 0), (6, .getfield 7, 3, 5, 0), (9, .iload_n 1, 1, 0, 0), (10, .iaload, 1, 0, 0), (11, .iconst 1, 1, 0, 0), (12, .isub, 1, 0, 0), (13, .invokestatic 117, 3, 108, 0), (16, .if_icmp .ge 33, 3, 0, 0), (19, .aload_n 0, 1, 0, 0), (20, .aload_n 0, 1, 0, 0), (21, .getfield 7, 3, 5, 0), (24, .iload_n 1, 1, 0, 0), (25, .iaload, 1, 0, 0), (26, .iload_n 2, 1, 0, 0), (27, .iload 4, 2, 0, 0), (29, .invokevirtual 120, 3, 109, 0), (32, .aload_n 0, 1, 0, 0), (33, .iload_n 1, 1, 0, 0), (34, .iload_n 3, 1, 0, 0), (35, .invokevirtual 124, 3, 110, 0), (38, .ifCond .ne 5, 3, 0, 0), (41, .iconst 1, 1, 0, 0), (42, .ireturn, 1, 0, 0), (43, .iinc 4 1, 3, 0, 0), (46, .goto (-43), 3, 0, 0), (49, .iconst 0, 1, 0, 0), (50, .ireturn, 1, 0, 0)]
def xm_r108 : List xm_Op := [(0, .iconst 1, 1, 0, 0), (1, .istore_n 1, 1, 0, 0), (2, .iconst 2, 1, 0, 0), (3, .istore_n 2, 1, 0, 0), (4, .iload_n 2, 1, 0, 0), (5, .iload_n 0, 1, 0, 0), (6, .if_icmp .gt 13, 3, 0, 0), (9, .iload_n 1, 1, 0, 0), (10, .iload_n 2, 1, 0, 0), (11, .imul, 1, 0, 0), (12, .istore_n 1, 1, 0, 0), (13, .iinc 2 1, 3, 0, 0), (16, .goto (-12), 3, 0, 0), (19, .iload_n 1, 1, 0, 0), (20, .ireturn, 1, 0, 0)]
def xm_r109 : List xm_Op := [(0, .iconst 1, 1, 0, 0), (1, .istore 4, 2, 0, 0), (3, .iload_n 3, 1, 0, 0), (4, .istore 5, 2, 0, 0), (6, .aload_n 0, 1, 0, 0), (7, .getfield 19, 3, 5, 4), (10, .iload_n 2, 1, 0, 0), (11, .iconst 0, 1, 0, 0), (12, .iastore, 1, 0, 0), (13, .iload_n 1, 1, 0, 0), (14, .iconst 1, 1, 0, 0), (15, .isub, 1, 0, 0), (16, .istore 6, 2, 0, 0), (18, .iconst 0, 1, 0, 0), (19, .istore 7, 2, 0, 0), (21, .iload 7, 2, 0, 0), (23, .iload_n 1, 1, 0, 0), (24, .if_icmp .ge 94, 3, 0, 0), (27, .iload 7, 2, 0, 0), (29, .iload_n 2, 1, 0, 0), (30, .if_icmp .eq 82, 3, 0, 0), (33, .iload 5, 2, 0, 0), (35, .iload 6, 2, 0, 0), (37, .irem, 1, 0, 0), (38, .istore 8, 2, 0, 0), (40, .iload 5, 2, 0, 0), (42, .iload 6, 2, 0, 0), (44, .idiv, 1, 0, 0), (45, .istore 5, 2, 0, 0), (47, .iconst 0, 1, 0, 0), (48, .istore 9, 2, 0, 0), (50, .iload 4, 2, 0, 0), (52, .iload 9, 2, 0, 0), (54, .invokestatic 89, 3, 95, 0), (57, .ifCond .ne 8, 3, 0, 0), (60, .iload 8, 2, 0, 0), (62, .ifCond .le 29, 3, 0, 0), (65, .iload 8, 2, 0, 0), (67, .iload 4, 2, 0, 0), (69, .iload 9, 2, 0, 0), (71, .invokestatic 89, 3, 95, 0), (74, .ifCond .eq 7, 3, 0, 0), (77, .iconst 0, 1, 0, 0), (78, .goto 4, 3, 0, 0), (81, .iconst 1, 1, 0, 0), (82, .isub, 1, 0, 0), (83, .istore 8, 2, 0, 0), (85, .iinc 9 1, 3, 0, 0), (88, .goto (-38), 3, 0, 0), (91, .aload_n 0, 1, 0, 0), (92, .getfield 19, 3, 5, 4), (95, .iload 7, 2, 0, 0), (97, .iload 9, 2, 0, 0), (99, .iastore, 1, 0, 0), (100, .iload 4, 2, 0, 0), (102, .iconst 1, 1, 0, 0), (103, .iload 9, 2, 0, 0), (105, .ishl, 1, 0, 0), (106, .ior, 1, 0, 0), (107, .istore 4, 2, 0, 0), (109, .iinc 6 (-1), 3, 0, 0), (112, .iinc 7 1, 3, 0, 0), (115, .goto (-94), 3, 0, 0), (118, .return_, 1, 0, 0)]
def xm_r110 : List xm_Op := [(0, .aload_n 0, 1, 0, 0), (1, .getfield 7, 3, 5, 0), (4, .iload_n 1, 1, 0, 0), (5, .iaload, 1, 0, 0), (6, .istore_n 3, 1, 0, 0), (7, .iconst 0, 1, 0, 0), (8, .istore 4, 2, 0, 0), (10, .iload 4, 2, 0, 0), (12, .iload_n 3, 1, 0, 0), (13, .if_icmp .ge 57, 3, 0, 0), (16, .iconst 0, 1, 0, 0), (17, .istore 5, 2, 0, 0), (19, .iload 5, 2, 0, 0), (21, .iload_n 3, 1, 0, 0), (22, .if_icmp .ge 42, 3, 0, 0), (25, .aload_n 0, 1, 0, 0), (26, .iconst 5, 1, 0, 0), (27, .aload_n 0, 1, 0, 0), (28, .getfield 19, 3, 5, 4), (31, .iload 4, 2, 0, 0), (33, .iaload, 1, 0, 0), (34, .aload_n 0, 1, 0, 0), (35, .getfield 19, 3, 5, 4), (38, .iload 5, 2, 0, 0), (40, .iaload, 1, 0, 0), (41, .aload_n 0, 1, 0, 0), (42, .getfield 19, 3, 5, 4), (45, .aload_n 0, 1, 0, 0), (46, .iload_n 1, 1, 0, 0), (47, .iload 4, 2, 0, 0), (49, .iload 5, 2, 0, 0), (51, .invokevirtual 42, 3, 74, 0), (54, .iaload, 1, 0, 0), (55, .invokevirtual 38, 3, 71, 0), (58, .iinc 5 1, 3, 0, 0), (61, .goto (-42), 3, 0, 0), (64, .iinc 4 1, 3, 0, 0), (67, .goto (-57), 3, 0, 0), (70, .aload_n 0, 1, 0, 0), (71, .getfield 7, 3, 5, 0), (74, .iconst 5, 1, 0, 0), (75, .iload_n 3, 1, 0, 0), (76, .iastore, 1, 0, 0), (77, .iconst 0, 1, 0, 0), (78, .istore 4, 2, 0, 0), (80, .iload 4, 2, 0, 0), (82, .iload_n 3, 1, 0, 0), (83, .if_icmp .ge 61, 3, 0, 0), (86, .iconst 0, 1, 0, 0), (87, .istore 5, 2, 0, 0), (89, .iload 5, 2, 0, 0), (91, .iload_n 3, 1, 0, 0), (92, .if_icmp .ge 46, 3, 0, 0), (95, .aload_n 0, 1, 0, 0), (96, .iconst 5, 1, 0, 0), (97, .iload 4, 2, 0, 0), (99, .iload 5, 2, 0, 0), (101, .invokevirtual 42, 3, 74, 0), (104, .aload_n 0, 1, 0, 0), (105, .iload_n 2, 1, 0, 0), (106, .iload 4, 2, 0, 0), (108, .iload 5, 2, 0, 0), (110, .invokevirtual 42, 3, 74, 0), (113, .isub, 1, 0, 0), (114, .istore 6, 2, 0, 0), (116, .iload 6, 2, 0, 0), (118, .ifCond .eq 14, 3, 0, 0), (121, .iload 6, 2, 0, 0), (123, .ifCond .ge 7, 3, 0, 0), (126, .iconst (-1), 1, 0, 0), (127, .goto 4, 3, 0, 0), (130, .iconst 1, 1, 0, 0), (131, .ireturn, 1, 0, 0), (132, .iinc 5 1, 3, 0, 0), (135, .goto (-46), 3, 0, 0), (138, .iinc 4 1, 3, 0, 0), (141, .goto (-61), 3, 0, 0), (144, .iconst 0, 1, 0, 0), (145, .ireturn, 1, 0, 0)]
def xm_r111 : List xm_Op := [(0, .iload_n 1, 1, 0, 0), (1, .invokestatic 34, 3, 69, 0), (4, .ifCond .eq 10, 3, 0, 0), (7, .iload_n 2, 1, 0, 0), (8, .invokestatic 34, 3, 69, 0), (11, .ifCond .ne 5, 3, 0, 0), (14, .iconst (-1), 1, 0, 0), (15, .ireturn, 1, 0, 0), (16, .aload_n 0, 1, 0, 0), (17, .iload_n 2, 1, 0, 0), (18, .invokevirtual 70, 3, 84, 0), (21, .ifCond .ne 6, 3, 0, 0), (24, .bipush (-2), 2, 0, 0), (26, .ireturn, 1, 0, 0), (27, .aload_n 0, 1, 0, 0), (28, .iconst 4, 1, 0, 0), (29, .iload_n 2, 1, 0, 0), (30, .invokevirtual 58, 3, 81, 0), (33, .iconst 0, 1, 0, 0), (34, .istore_n 3, 1, 0, 0), (35, .iconst 0, 1, 0, 0), (36, .istore 4, 2, 0, 0), (38, .iload 4, 2, 0, 0), (40, .aload_n 0, 1, 0, 0), (41, .getfield 7, 3, 5, 0), (44, .iload_n 2, 1, 0, 0), (45, .iaload, 1, 0, 0), (46, .iconst 1, 1, 0, 0), (47, .isub, 1, 0, 0), (48, .invokestatic 117, 3, 108, 0), (51, .if_icmp .ge 54, 3, 0, 0), (54, .aload_n 0, 1, 0, 0), (55, .aload_n 0, 1, 0, 0), (56, .getfield 7, 3, 5, 0), (59, .iload_n 2, 1, 0, 0), (60, .iaload, 1, 0, 0), (61, .iconst 0, 1, 0, 0), (62, .iload 4, 2, 0, 0), (64, .invokevirtual 120, 3, 109, 0), (67, .iload_n 3, 1, 0, 0), (68, .aload_n 0, 1, 0, 0), (69, .iload_n 2, 1, 0, 0), (70, .iload_n 2, 1, 0, 0), (71, .invokevirtual 124, 3, 110, 0), (74, .ifCond .ne 7, 3, 0, 0), (77, .iconst 1, 1, 0, 0), (78, .goto 4, 3, 0, 0), (81, .iconst 0, 1, 0, 0), (82, .iadd, 1, 0, 0), (83, .istore_n 3, 1, 0, 0), (84, .aload_n 0, 1, 0, 0), (85, .iload_n 2, 1, 0, 0), (86, .iconst 4, 1, 0, 0), (87, .invokevirtual 124, 3, 110, 0), (90, .ifCond .ge 9, 3, 0, 0), (93, .aload_n 0, 1, 0, 0), (94, .iconst 4, 1, 0, 0), (95, .iconst 5, 1, 0, 0), (96, .invokevirtual 58, 3, 81, 0), (99, .iinc 4 1, 3, 0, 0), (102, .goto (-64), 3, 0, 0), (105, .aload_n 0, 1, 0, 0), (106, .iload_n 1, 1, 0, 0), (107, .iconst 4, 1, 0, 0), (108, .invokevirtual 58, 3, 81, 0), (111, .iload_n 3, 1, 0, 0), (112, .ireturn, 1, 0, 0)]
def xm_r112 : List xm_Op := [(0, .iload_n 1, 1, 0, 0), (1, .invokestatic 34, 3, 69, 0), (4, .ifCond .eq 8, 3, 0, 0), (7, .iload_n 2, 1, 0, 0), (8, .iconst (-1), 1, 0, 0), (9, .if_icmp .ge 5, 3, 0, 0), (12, .iconst (-1), 1, 0, 0), (13, .ireturn, 1, 0, 0), (14, .aload_n 0, 1, 0, 0), (15, .iload_n 1, 1, 0, 0), (16, .invokevirtual 70, 3, 84, 0), (19, .ifCond .eq 12, 3, 0, 0), (22, .aload_n 0, 1, 0, 0), (23, .iload_n 1, 1, 0, 0), (24, .iload_n 2, 1, 0, 0), (25, .invokevirtual 130, 3, 113, 0), (28, .goto 5, 3, 0, 0), (31, .bipush (-2), 2, 0, 0), (33, .ireturn, 1, 0, 0)]
def xm_r113 : List xm_Op := [(0, .aload_n 0, 1, 0, 0), (1, .getfield 7, 3, 5, 0), (4, .iload_n 1, 1, 0, 0), (5, .iaload, 1, 0, 0), (6, .istore_n 3, 1, 0, 0), (7, .iconst 0, 1, 0, 0), (8, .istore 4, 2, 0, 0), (10, .iconst 1, 1, 0, 0), (11, .istore 5, 2, 0, 0), (13, .iload 5, 2, 0, 0), (15, .iload_n 3, 1, 0, 0), (16, .if_icmp .ge 133, 3, 0, 0), (19, .iload 5, 2, 0, 0), (21, .iconst 1, 1, 0, 0), (22, .iadd, 1, 0, 0), (23, .istore 6, 2, 0, 0), (25, .iload 6, 2, 0, 0), (27, .iload_n 3, 1, 0, 0), (28, .if_icmp .ge 115, 3, 0, 0), (31, .iconst 1, 1, 0, 0), (32, .istore 7, 2, 0, 0), (34, .iload 7, 2, 0, 0), (36, .iload_n 3, 1, 0, 0), (37, .if_icmp .ge 100, 3, 0, 0), (40, .iload 7, 2, 0, 0), (42, .iconst 1, 1, 0, 0), (43, .iadd, 1, 0, 0), (44, .istore 8, 2, 0, 0), (46, .iload 8, 2, 0, 0), (48, .iload_n 3, 1, 0, 0), (49, .if_icmp .ge 82, 3, 0, 0), (52, .aload_n 0, 1, 0, 0), (53, .iload_n 1, 1, 0, 0), (54, .iload 5, 2, 0, 0), (56, .iload 7, 2, 0, 0), (58, .invokevirtual 42, 3, 74, 0), (61, .aload_n 0, 1, 0, 0), (62, .iload_n 1, 1, 0, 0), (63, .iload 6, 2, 0, 0), (65, .iload 8, 2, 0, 0), (67, .invokevirtual 42, 3, 74, 0), (70, .if_icmp .ne 55, 3, 0, 0), (73, .aload_n 0, 1, 0, 0), (74, .iload_n 1, 1, 0, 0), (75, .iload 5, 2, 0, 0), (77, .iload 8, 2, 0, 0), (79, .invokevirtual 42, 3, 74, 0), (82, .aload_n 0, 1, 0, 0), (83, .iload_n 1, 1, 0, 0), (84, .iload 6, 2, 0, 0), (86, .iload 7, 2, 0, 0), (88, .invokevirtual 42, 3, 74, 0), (91, .if_icmp .ne 34, 3, 0, 0), (94, .iload 4, 2, 0, 0), (96, .iload_n 2, 1, 0, 0), (97, .if_icmp .ne 25, 3, 0, 0), (100, .sipush 512, 3, 0, 0), (103, .iload 5, 2, 0, 0), (105, .imul, 1, 0, 0), (106, .bipush 64, 2, 0, 0), (108, .iload 6, 2, 0, 0), (110, .imul, 1, 0, 0), (111, .iadd, 1, 0, 0), (112, .bipush 8, 2, 0, 0), (114, .iload 7, 2, 0, 0), (116, .imul, 1, 0, 0), (117, .iadd, 1, 0, 0), (118, .iload 8, 2, 0, 0), (120, .iadd, 1, 0, 0), (121, .ireturn, 1, 0, 0), (122, .iinc 4 1, 3, 0, 0), (125, .iinc 8 1, 3, 0, 0), (128, .goto (-82), 3, 0, 0), (131, .iinc 7 1, 3, 0, 0), (134, .goto (-100), 3, 0, 0), (137, .iinc 6 1, 3, 0, 0), (140, .goto (-115), 3, 0, 0), (143, .iinc 5 1, 3, 0, 0), (146, .goto (-133), 3, 0, 0), (149, .iload_n 2, 1, 0, 0), (150, .ifCond .ge 8, 3, 0, 0), (153, .iload 4, 2, 0, 0), (155, .goto 5, 3, 0, 0), (158, .bipush (-4), 2, 0, 0), (160, .ireturn, 1, 0, 0)]
def xm_r114 : List xm_Op := [(0, .iload_n 1, 1, 0, 0), (1, .invokestatic 34, 3, 69, 0), (4, .ifCond .eq 7, 3, 0, 0), (7, .iload_n 2, 1, 0, 0), (8, .ifCond .ge 5, 3, 0, 0), (11, .iconst (-1), 1, 0, 0), (12, .ireturn, 1, 0, 0), (13, .aload_n 0, 1, 0, 0), (14, .iload_n 1, 1, 0, 0), (15, .invokevirtual 70, 3, 84, 0), (18, .ifCond .ne 6, 3, 0, 0), (21, .bipush (-2), 2, 0, 0), (23, .ireturn, 1, 0, 0), (24, .aload_n 0, 1, 0, 0), (25, .iload_n 1, 1, 0, 0), (26, .iload_n 2, 1, 0, 0), (27, .invokevirtual 130, 3, 113, 0), (30, .istore_n 3, 1, 0, 0), (31, .iload_n 3, 1, 0, 0), (32, .ifCond .ge 5, 3, 0, 0), (35, .iconst (-1), 1, 0, 0), (36, .ireturn, 1, 0, 0), (37, .iload_n 3, 1, 0, 0), (38, .sipush 512, 3, 0, 0), (41, .idiv, 1, 0, 0), (42, .istore 4, 2, 0, 0), (44, .iload_n 3, 1, 0, 0), (45, .bipush 64, 2, 0, 0), (47, .idiv, 1, 0, 0), (48, .bipush 8, 2, 0, 0), (50, .irem, 1, 0, 0), (51, .istore 5, 2, 0, 0), (53, .iload_n 3, 1, 0, 0), (54, .bipush 8, 2, 0, 0), (56, .idiv, 1, 0, 0), (57, .bipush 8, 2, 0, 0), (59, .irem, 1, 0, 0), (60, .istore 6, 2, 0, 0), (62, .iload_n 3, 1, 0, 0), (63, .bipush 8, 2, 0, 0), (65, .irem, 1, 0, 0), (66, .istore 7, 2, 0, 0), (68, .aload_n 0, 1, 0, 0), (69, .iload_n 1, 1, 0, 0), (70, .iload 4, 2, 0, 0), (72, .iload 6, 2, 0, 0), (74, .invokevirtual 42, 3, 74, 0), (77, .istore 8, 2, 0, 0), (79, .aload_n 0, 1, 0, 0), (80, .iload_n 1, 1, 0, 0), (81, .iload 4, 2, 0, 0), (83, .iload 7, 2, 0, 0), (85, .invokevirtual 42, 3, 74, 0), (88, .istore 9, 2, 0, 0), (90, .aload_n 0, 1, 0, 0), (91, .iload_n 1, 1, 0, 0), (92, .iload 4, 2, 0, 0), (94, .iload 6, 2, 0, 0), (96, .iload 9, 2, 0, 0), (98, .invokevirtual 38, 3, 71, 0), (101, .aload_n 0, 1, 0, 0), (102, .iload_n 1, 1, 0, 0), (103, .iload 4, 2, 0, 0), (105, .iload 7, 2, 0, 0), (107, .iload 8, 2, 0, 0), (109, .invokevirtual 38, 3, 71, 0), (112, .aload_n 0, 1, 0, 0), (113, .iload_n 1, 1, 0, 0), (114, .iload 5, 2, 0, 0), (116, .iload 6, 2, 0, 0), (118, .iload 8, 2, 0, 0), (120, .invokevirtual 38, 3, 71, 0), (123, .aload_n 0, 1, 0, 0), (124, .iload_n 1, 1, 0, 0), (125, .iload 5, 2, 0, 0), (127, .iload 7, 2, 0, 0), (129, .iload 9, 2, 0, 0), (131, .invokevirtual 38, 3, 71, 0), (134, .iconst 1, 1, 0, 0), (135, .ireturn, 1, 0, 0)]
def xm_r115 : List xm_Op := [(0, .iload_n 1, 1, 0, 0), (1, .invokestatic 34, 3, 69, 0), (4, .ifCond .eq 10, 3, 0, 0), (7, .iload_n 2, 1, 0, 0), (8, .invokestatic 34, 3, 69, 0), (11, .ifCond .ne 5, 3, 0, 0), (14, .iconst (-1), 1, 0, 0), (15, .ireturn, 1, 0, 0), (16, .aload_n 0, 1, 0, 0), (17, .iload_n 2, 1, 0, 0), (18, .invokevirtual 70, 3, 84, 0), (21, .ifCond .eq 13, 3, 0, 0), (24, .aload_n 0, 1, 0, 0), (25, .getfield 7, 3, 5, 0), (28, .iload_n 2, 1, 0, 0), (29, .iaload, 1, 0, 0), (30, .iconst 4, 1, 0, 0), (31, .if_icmp .le 6, 3, 0, 0), (34, .bipush (-2), 2, 0, 0), (36, .ireturn, 1, 0, 0), (37, .aload_n 0, 1, 0, 0), (38, .getfield 7, 3, 5, 0), (41, .iload_n 2, 1, 0, 0), (42, .iaload, 1, 0, 0), (43, .istore 4, 2, 0, 0), (45, .iconst 0, 1, 0, 0), (46, .istore 5, 2, 0, 0), (48, .iload 5, 2, 0, 0), (50, .iconst 2, 1, 0, 0), (51, .iload 4, 2, 0, 0), (53, .imul, 1, 0, 0), (54, .if_icmp .ge 97, 3, 0, 0), (57, .iconst 0, 1, 0, 0), (58, .istore 6, 2, 0, 0), (60, .iload 6, 2, 0, 0), (62, .iconst 2, 1, 0, 0), (63, .iload 4, 2, 0, 0), (65, .imul, 1, 0, 0), (66, .if_icmp .ge 79, 3, 0, 0), (69, .iload 5, 2, 0, 0), (71, .iconst 2, 1, 0, 0), (72, .idiv, 1, 0, 0), (73, .istore 7, 2, 0, 0), (75, .iload 6, 2, 0, 0), (77, .iconst 2, 1, 0, 0), (78, .idiv, 1, 0, 0), (79, .istore 8, 2, 0, 0), (81, .iload 7, 2, 0, 0), (83, .ifCond .le 22, 3, 0, 0), (86, .iload 8, 2, 0, 0), (88, .ifCond .le 17, 3, 0, 0), (91, .iload_n 3, 1, 0, 0), (92, .iconst 4, 1, 0, 0), (93, .iload 7, 2, 0, 0), (95, .imul, 1, 0, 0), (96, .iload 8, 2, 0, 0), (98, .iadd, 1, 0, 0), (99, .ishr, 1, 0, 0), (100, .iconst 1, 1, 0, 0), (101, .iand, 1, 0, 0), (102, .goto 4, 3, 0, 0), (105, .iconst 0, 1, 0, 0), (106, .istore 9, 2, 0, 0), (108, .aload_n 0, 1, 0, 0), (109, .iconst 4, 1, 0, 0), (110, .iload 5, 2, 0, 0), (112, .iload 6, 2, 0, 0), (114, .iconst 2, 1, 0, 0), (115, .aload_n 0, 1, 0, 0), (116, .iload_n 2, 1, 0, 0), (117, .iload 7, 2, 0, 0), (119, .iload 8, 2, 0, 0), (121, .invokevirtual 42, 3, 74, 0), (124, .imul, 1, 0, 0), (125, .iload 5, 2, 0, 0), (127, .iload 6, 2, 0, 0), (129, .iadd, 1, 0, 0), (130, .iload 9, 2, 0, 0), (132, .iadd, 1, 0, 0), (133, .iconst 2, 1, 0, 0), (134, .irem, 1, 0, 0), (135, .iadd, 1, 0, 0), (136, .invokevirtual 38, 3, 71, 0), (139, .iinc 6 1, 3, 0, 0), (142, .goto (-82), 3, 0, 0), (145, .iinc 5 1, 3, 0, 0), (148, .goto (-100), 3, 0, 0), (151, .aload_n 0, 1, 0, 0), (152, .getfield 7, 3, 5, 0), (155, .iconst 4, 1, 0, 0), (156, .iconst 2, 1, 0, 0), (157, .iload 4, 2, 0, 0), (159, .imul, 1, 0, 0), (160, .iastore, 1, 0, 0), (161, .aload_n 0, 1, 0, 0), (162, .iload_n 1, 1, 0, 0), (163, .iconst 4, 1, 0, 0), (164, .invokevirtual 58, 3, 81, 0), (167, .iconst 2, 1, 0, 0), (168, .iload 4, 2, 0, 0), (170, .imul, 1, 0, 0), (171, .ireturn, 1, 0, 0)]
def xm_r116 : List xm_Op := [(0, .iload_n 1, 1, 0, 0), (1, .invokestatic 34, 3, 69, 0), (4, .ifCond .eq 17, 3, 0, 0), (7, .iload_n 2, 1, 0, 0), (8, .invokestatic 34, 3, 69, 0), (11, .ifCond .eq 10, 3, 0, 0), (14, .iload_n 3, 1, 0, 0), (15, .invokestatic 34, 3, 69, 0), (18, .ifCond .ne 5, 3, 0, 0), (21, .iconst (-1), 1, 0, 0), (22, .ireturn, 1, 0, 0), (23, .aload_n 0, 1, 0, 0), (24, .iload_n 2, 1, 0, 0), (25, .invokevirtual 70, 3, 84, 0), (28, .ifCond .eq 29, 3, 0, 0), (31, .aload_n 0, 1, 0, 0), (32, .iload_n 3, 1, 0, 0), (33, .invokevirtual 70, 3, 84, 0), (36, .ifCond .eq 21, 3, 0, 0), (39, .aload_n 0, 1, 0, 0), (40, .getfield 7, 3, 5, 0), (43, .iload_n 2, 1, 0, 0), (44, .iaload, 1, 0, 0), (45, .aload_n 0, 1, 0, 0), (46, .getfield 7, 3, 5, 0), (49, .iload_n 3, 1, 0, 0), (50, .iaload, 1, 0, 0), (51, .imul, 1, 0, 0), (52, .bipush 8, 2, 0, 0), (54, .if_icmp .le 6, 3, 0, 0), (57, .bipush (-2), 2, 0, 0), (59, .ireturn, 1, 0, 0), (60, .aload_n 0, 1, 0, 0), (61, .getfield 7, 3, 5, 0), (64, .iload_n 3, 1, 0, 0), (65, .iaload, 1, 0, 0), (66, .istore 4, 2, 0, 0), (68, .aload_n 0, 1, 0, 0), (69, .getfield 7, 3, 5, 0), (72, .iload_n 2, 1, 0, 0), (73, .iaload, 1, 0, 0), (74, .iload 4, 2, 0, 0), (76, .imul, 1, 0, 0), (77, .istore 5, 2, 0, 0), (79, .iconst 0, 1, 0, 0), (80, .istore 6, 2, 0, 0), (82, .iload 6, 2, 0, 0), (84, .iload 5, 2, 0, 0), (86, .if_icmp .ge 68, 3, 0, 0), (89, .iconst 0, 1, 0, 0), (90, .istore 7, 2, 0, 0), (92, .iload 7, 2, 0, 0), (94, .iload 5, 2, 0, 0), (96, .if_icmp .ge 52, 3, 0, 0), (99, .aload_n 0, 1, 0, 0), (100, .iconst 4, 1, 0, 0), (101, .iload 6, 2, 0, 0), (103, .iload 7, 2, 0, 0), (105, .iload 4, 2, 0, 0), (107, .aload_n 0, 1, 0, 0), (108, .iload_n 2, 1, 0, 0), (109, .iload 6, 2, 0, 0), (111, .iload 4, 2, 0, 0), (113, .idiv, 1, 0, 0), (114, .iload 7, 2, 0, 0), (116, .iload 4, 2, 0, 0), (118, .idiv, 1, 0, 0), (119, .invokevirtual 42, 3, 74, 0), (122, .imul, 1, 0, 0), (123, .aload_n 0, 1, 0, 0), (124, .iload_n 3, 1, 0, 0), (125, .iload 6, 2, 0, 0), (127, .iload 4, 2, 0, 0), (129, .irem, 1, 0, 0), (130, .iload 7, 2, 0, 0), (132, .iload 4, 2, 0, 0), (134, .irem, 1, 0, 0), (135, .invokevirtual 42, 3, 74, 0), (138, .iadd, 1, 0, 0), (139, .invokevirtual 38, 3, 71, 0), (142, .iinc 7 1, 3, 0, 0), (145, .goto (-53), 3, 0, 0), (148, .iinc 6 1, 3, 0, 0), (151, .goto (-69), 3, 0, 0), (154, .aload_n 0, 1, 0, 0), (155, .getfield 7, 3, 5, 0), (158, .iconst 4, 1, 0, 0), (159, .iload 5, 2, 0, 0), (161, .iastore, 1, 0, 0), (162, .aload_n 0, 1, 0, 0), (163, .iload_n 1, 1, 0, 0), (164, .iconst 4, 1, 0, 0), (165, .invokevirtual 58, 3, 81, 0), (168, .iload 5, 2, 0, 0), (170, .ireturn, 1, 0, 0)]
def xm_r117 : List xm_Op := [(0, .iload_n 1, 1, 0, 0), (1, .invokestatic 34, 3, 69, 0), (4, .ifCond .eq 12, 3, 0, 0), (7, .aload_n 0, 1, 0, 0), (8, .getfield 7, 3, 5, 0), (11, .iload_n 1, 1, 0, 0), (12, .iaload, 1, 0, 0), (13, .goto 4, 3, 0, 0), (16, .iconst (-1), 1, 0, 0), (17, .ireturn, 1, 0, 0)]
def xm_r118 : List xm_Op := [(0, .iconst 0, 1, 0, 0), (1, .istore_n 2, 1, 0, 0), (2, .iconst 0, 1, 0, 0), (3, .istore_n 3, 1, 0, 0), (4, .iload_n 3, 1, 0, 0), (5, .aload_n 0, 1, 0, 0), (6, .getfield 7, 3, 0, 0), (9, .if_icmp .ge 40, 3, 0, 0), (12, .iload_n 1, 1, 0, 0), (13, .iconst 4, 1, 0, 0), (14, .if_icmp .ne 14, 3, 0, 0), (17, .aload_n 0, 1, 0, 0), (18, .iload_n 3, 1, 0, 0), (19, .invokestatic 15, 3, 119, 0), (22, .ifCond .eq 21, 3, 0, 0), (25, .goto 12, 3, 0, 0), (28, .aload_n 0, 1, 0, 0), (29, .iload_n 1, 1, 0, 0), (30, .iload_n 3, 1, 0, 0), (31, .invokestatic 19, 3, 120, 0), (34, .ifCond .eq 9, 3, 0, 0), (37, .iload_n 2, 1, 0, 0), (38, .iconst 1, 1, 0, 0), (39, .iload_n 3, 1, 0, 0), (40, .ishl, 1, 0, 0), (41, .ior, 1, 0, 0), (42, .istore_n 2, 1, 0, 0), (43, .iinc 3 1, 3, 0, 0), (46, .goto (-42), 3, 0, 0), (49, .iload_n 2, 1, 0, 0), (50, .ireturn, 1, 0, 0)]
def xm_r119 : List xm_Op := [(0, .iconst 0, 1, 0, 0), (1, .istore_n 2, 1, 0, 0), (2, .iload_n 2, 1, 0, 0), (3, .iconst 4, 1, 0, 0), (4, .if_icmp .ge 20, 3, 0, 0), (7, .aload_n 0, 1, 0, 0), (8, .iload_n 2, 1, 0, 0), (9, .iload_n 1, 1, 0, 0), (10, .invokestatic 19, 3, 120, 0), (13, .ifCond .ne 5, 3, 0, 0), (16, .iconst 0, 1, 0, 0), (17, .ireturn, 1, 0, 0), (18, .iinc 2 1, 3, 0, 0), (21, .goto (-19), 3, 0, 0), (24, .iconst 1, 1, 0, 0), (25, .ireturn, 1, 0, 0)]
def xm_r120 : List xm_Op := [(0, .iconst 0, 1, 0, 0), (1, .istore_n 3, 1, 0, 0), (2, .iload_n 3, 1, 0, 0), (3, .aload_n 0, 1, 0, 0), (4, .getfield 7, 3, 0, 0), (7, .if_icmp .ge 41, 3, 0, 0), (10, .iconst 0, 1, 0, 0), (11, .istore 4, 2, 0, 0), (13, .iload 4, 2, 0, 0), (15, .aload_n 0, 1, 0, 0), (16, .getfield 7, 3, 0, 0), (19, .if_icmp .ge 23, 3, 0, 0), (22, .aload_n 0, 1, 0, 0), (23, .iload_n 1, 1, 0, 0), (24, .iload_n 2, 1, 0, 0), (25, .iload_n 3, 1, 0, 0), (26, .iload 4, 2, 0, 0), (28, .invokestatic 23, 3, 121, 0), (31, .ifCond .ne 5, 3, 0, 0), (34, .iconst 0, 1, 0, 0), (35, .ireturn, 1, 0, 0), (36, .iinc 4 1, 3, 0, 0), (39, .goto (-26), 3, 0, 0), (42, .iinc 3 1, 3, 0, 0), (45, .goto (-43), 3, 0, 0), (48, .iconst 1, 1, 0, 0), (49, .ireturn, 1, 0, 0)]
def xm_r121 : List xm_Op := [(0, .iload_n 1, 1, 0, 0), (1, .tableswitch 79 0 3 #[31, 40, 49, 58], 31, 0, 0), (32, .aload_n 0, 1, 0, 0), (33, .iload_n 2, 1, 0, 0), (34, .iload_n 3, 1, 0, 0), (35, .iload 4, 2, 0, 0), (37, .invokestatic 27, 3, 122, 0), (40, .ireturn, 1, 0, 0), (41, .aload_n 0, 1, 0, 0), (42, .iload_n 3, 1, 0, 0), (43, .iload_n 2, 1, 0, 0), (44, .iload 4, 2, 0, 0), (46, .invokestatic 27, 3, 122, 0), (49, .ireturn, 1, 0, 0), (50, .aload_n 0, 1, 0, 0), (51, .iload_n 3, 1, 0, 0), (52, .iload 4, 2, 0, 0), (54, .iload_n 2, 1, 0, 0), (55, .invokestatic 27, 3, 122, 0), (58, .ireturn, 1, 0, 0), (59, .aload_n 0, 1, 0, 0), (60, .iload_n 2, 1, 0, 0), (61, .iload_n 3, 1, 0, 0), (62, .invokevirtual 31, 3, 4, 0), (65, .aload_n 0, 1, 0, 0), (66, .iload_n 3, 1, 0, 0), (67, .iload_n 2, 1, 0, 0), (68, .invokevirtual 31, 3, 4, 0), (71, .if_icmp .ne 7, 3, 0, 0), (74, .iconst 1, 1, 0, 0), (75, .goto 4, 3, 0, 0), (78, .iconst 0, 1, 0, 0), (79, .ireturn, 1, 0, 0), (80, .iconst 0, 1, 0, 0), (81, .ireturn, 1, 0, 0)]
def xm_r122 : List xm_Op := [(0, .aload_n 0, 1, 0, 0), (1, .aload_n 0, 1, 0, 0), (2, .iload_n 1, 1, 0, 0), (3, .iload_n 2, 1, 0, 0), (4, .invokevirtual 31, 3, 4, 0), (7, .iload_n 3, 1, 0, 0), (8, .invokevirtual 31, 3, 4, 0), (11, .aload_n 0, 1, 0, 0), (12, .iload_n 1, 1, 0, 0), (13, .aload_n 0, 1, 0, 0), (14, .iload_n 2, 1, 0, 0), (15, .iload_n 3, 1, 0, 0), (16, .invokevirtual 31, 3, 4, 0), (19, .invokevirtual 31, 3, 4, 0), (22, .if_icmp .ne 7, 3, 0, 0), (25, .iconst 1, 1, 0, 0), (26, .goto 4, 3, 0, 0), (29, .iconst 0, 1, 0, 0), (30, .ireturn, 1, 0, 0)]
def xm_r123 : List xm_Op := [(0, .aload_n 2, 1, 0, 0), (1, .iconst 2, 1, 0, 0), (2, .aload_n 0, 1, 0, 0), (3, .getfield 7, 3, 0, 0), (6, .imul, 1, 0, 0), (7, .invokevirtual 13, 3, 1, 0), (10, .iconst 0, 1, 0, 0), (11, .istore_n 3, 1, 0, 0), (12, .iload_n 3, 1, 0, 0), (13, .aload_n 2, 1, 0, 0), (14, .getfield 7, 3, 0, 0), (17, .if_icmp .ge 75, 3, 0, 0), (20, .iconst 0, 1, 0, 0), (21, .istore 4, 2, 0, 0), (23, .iload 4, 2, 0, 0), (25, .aload_n 2, 1, 0, 0), (26, .getfield 7, 3, 0, 0), (29, .if_icmp .ge 57, 3, 0, 0), (32, .iload_n 3, 1, 0, 0), (33, .iconst 2, 1, 0, 0), (34, .idiv, 1, 0, 0), (35, .istore 5, 2, 0, 0), (37, .iload 4, 2, 0, 0), (39, .iconst 2, 1, 0, 0), (40, .idiv, 1, 0, 0), (41, .istore 6, 2, 0, 0), (43, .iload_n 3, 1, 0, 0), (44, .iload 4, 2, 0, 0), (46, .iadd, 1, 0, 0), (47, .iload_n 1, 1, 0, 0), (48, .iload 5, 2, 0, 0), (50, .iload 6, 2, 0, 0), (52, .invokestatic 17, 3, 124, 0), (55, .iadd, 1, 0, 0), (56, .iconst 2, 1, 0, 0), (57, .irem, 1, 0, 0), (58, .istore 7, 2, 0, 0), (60, .aload_n 2, 1, 0, 0), (61, .iload_n 3, 1, 0, 0), (62, .iload 4, 2, 0, 0), (64, .iconst 2, 1, 0, 0), (65, .aload_n 0, 1, 0, 0), (66, .iload 5, 2, 0, 0), (68, .iload 6, 2, 0, 0), (70, .invokevirtual 23, 3, 4, 0), (73, .imul, 1, 0, 0), (74, .iload 7, 2, 0, 0), (76, .iadd, 1, 0, 0), (77, .invokevirtual 27, 3, 2, 0), (80, .iinc 4 1, 3, 0, 0), (83, .goto (-60), 3, 0, 0), (86, .iinc 3 1, 3, 0, 0), (89, .goto (-77), 3, 0, 0), (92, .return_, 1, 0, 0)]
def xm_r124 : List xm_Op := [(0, .iload_n 1, 1, 0, 0), (1, .ifCond .eq 7, 3, 0, 0), (4, .iload_n 2, 1, 0, 0), (5, .ifCond .ne 7, 3, 0, 0), (8, .iconst 0, 1, 0, 0), (9, .goto 12, 3, 0, 0), (12, .iload_n 0, 1, 0, 0), (13, .iconst 4, 1, 0, 0), (14, .iload_n 1, 1, 0, 0), (15, .imul, 1, 0, 0), (16, .iload_n 2, 1, 0, 0), (17, .iadd, 1, 0, 0), (18, .ishr, 1, 0, 0), (19, .iconst 1, 1, 0, 0), (20, .iand, 1, 0, 0), (21, .ireturn, 1, 0, 0)]
def xm_r125 : List xm_Op := [(0, .aload_n 1, 1, 0, 0), (1, .getfield 7, 3, 0, 0), (4, .istore_n 3, 1, 0, 0), (5, .aload_n 2, 1, 0, 0), (6, .aload_n 0, 1, 0, 0), (7, .getfield 7, 3, 0, 0), (10, .iload_n 3, 1, 0, 0), (11, .imul, 1, 0, 0), (12, .invokevirtual 13, 3, 1, 0), (15, .iconst 0, 1, 0, 0), (16, .istore 4, 2, 0, 0), (18, .iload 4, 2, 0, 0), (20, .aload_n 0, 1, 0, 0), (21, .getfield 7, 3, 0, 0), (24, .if_icmp .ge 94, 3, 0, 0), (27, .iconst 0, 1, 0, 0), (28, .istore 5, 2, 0, 0), (30, .iload 5, 2, 0, 0), (32, .iload_n 3, 1, 0, 0), (33, .if_icmp .ge 79, 3, 0, 0), (36, .iconst 0, 1, 0, 0), (37, .istore 6, 2, 0, 0), (39, .iload 6, 2, 0, 0), (41, .aload_n 0, 1, 0, 0), (42, .getfield 7, 3, 0, 0), (45, .if_icmp .ge 61, 3, 0, 0), (48, .iconst 0, 1, 0, 0), (49, .istore 7, 2, 0, 0), (51, .iload 7, 2, 0, 0), (53, .iload_n 3, 1, 0, 0), (54, .if_icmp .ge 46, 3, 0, 0), (57, .aload_n 2, 1, 0, 0), (58, .iload_n 3, 1, 0, 0), (59, .iload 4, 2, 0, 0), (61, .imul, 1, 0, 0), (62, .iload 5, 2, 0, 0), (64, .iadd, 1, 0, 0), (65, .iload_n 3, 1, 0, 0), (66, .iload 6, 2, 0, 0), (68, .imul, 1, 0, 0), (69, .iload 7, 2, 0, 0), (71, .iadd, 1, 0, 0), (72, .iload_n 3, 1, 0, 0), (73, .aload_n 0, 1, 0, 0), (74, .iload 4, 2, 0, 0), (76, .iload 6, 2, 0, 0), (78, .invokevirtual 23, 3, 4, 0), (81, .imul, 1, 0, 0), (82, .aload_n 1, 1, 0, 0), (83, .iload 5, 2, 0, 0), (85, .iload 7, 2, 0, 0), (87, .invokevirtual 23, 3, 4, 0), (90, .iadd, 1, 0, 0), (91, .invokevirtual 27, 3, 2, 0), (94, .iinc 7 1, 3, 0, 0), (97, .goto (-46), 3, 0, 0), (100, .iinc 6 1, 3, 0, 0), (103, .goto (-64), 3, 0, 0), (106, .iinc 5 1, 3, 0, 0), (109, .goto (-79), 3, 0, 0), (112, .iinc 4 1, 3, 0, 0), (115, .goto (-97), 3, 0, 0), (118, .return_, 1, 0, 0)]
def xm_r126 : List xm_Op := [(0, .aload_n 0, 1, 0, 0), (1, .iload_n 1, 1, 0, 0), (2, .iconst 1, 1, 0, 0), (3, .invokestatic 9, 3, 127, 0), (6, .ireturn, 1, 0, 0)]
def xm_r127 : List xm_Op := [(0, .aload_n 0, 1, 0, 0), (1, .getfield 15, 3, 0, 0), (4, .istore_n 3, 1, 0, 0), (5, .iload_n 1, 1, 0, 0), (6, .invokestatic 21, 3, 128, 0), (9, .istore 4, 2, 0, 0), (11, .iload 4, 2, 0, 0), (13, .iconst 1, 1, 0, 0), (14, .if_icmp .le 7, 3, 0, 0), (17, .iload_n 3, 1, 0, 0), (18, .goto 4, 3, 0, 0), (21, .iconst 1, 1, 0, 0), (22, .istore 5, 2, 0, 0), (24, .iload 4, 2, 0, 0), (26, .iconst 2, 1, 0, 0), (27, .if_icmp .le 7, 3, 0, 0), (30, .iload_n 3, 1, 0, 0), (31, .goto 4, 3, 0, 0), (34, .iconst 1, 1, 0, 0), (35, .istore 6, 2, 0, 0), (37, .iconst 0, 1, 0, 0), (38, .istore 7, 2, 0, 0), (40, .iconst 0, 1, 0, 0), (41, .istore 8, 2, 0, 0), (43, .iload 8, 2, 0, 0), (45, .iload_n 3, 1, 0, 0), (46, .if_icmp .ge 77, 3, 0, 0), (49, .iconst 0, 1, 0, 0), (50, .istore 9, 2, 0, 0), (52, .iload 9, 2, 0, 0), (54, .iload 5, 2, 0, 0), (56, .if_icmp .ge 61, 3, 0, 0), (59, .iconst 0, 1, 0, 0), (60, .istore 10, 2, 0, 0), (62, .iload 10, 2, 0, 0), (64, .iload 6, 2, 0, 0), (66, .if_icmp .ge 45, 3, 0, 0), (69, .aload_n 0, 1, 0, 0), (70, .iload_n 1, 1, 0, 0), (71, .iload 8, 2, 0, 0), (73, .iload 9, 2, 0, 0), (75, .iload 10, 2, 0, 0), (77, .invokestatic 25, 3, 129, 0), (80, .ifCond .ne 25, 3, 0, 0), (83, .iload_n 2, 1, 0, 0), (84, .ifCond .eq 18, 3, 0, 0), (87, .iload_n 3, 1, 0, 0), (88, .iload_n 3, 1, 0, 0), (89, .imul, 1, 0, 0), (90, .iload 8, 2, 0, 0), (92, .imul, 1, 0, 0), (93, .iload_n 3, 1, 0, 0), (94, .iload 9, 2, 0, 0), (96, .imul, 1, 0, 0), (97, .iadd, 1, 0, 0), (98, .iload 10, 2, 0, 0), (100, .iadd, 1, 0, 0), (101, .ireturn, 1, 0, 0), (102, .iinc 7 1, 3, 0, 0), (105, .iinc 10 1, 3, 0, 0), (108, .goto (-46), 3, 0, 0), (111, .iinc 9 1, 3, 0, 0), (114, .goto (-62), 3, 0, 0), (117, .iinc 8 1, 3, 0, 0), (120, .goto (-77), 3, 0, 0), (123, .iload_n 2, 1, 0, 0), (124, .ifCond .eq 8, 3, 0, 0), (127, .bipush (-4), 2, 0, 0), (129, .goto 5, 3, 0, 0), (132, .iload 7, 2, 0, 0), (134, .ireturn, 1, 0, 0)]
def xm_r128 : List xm_Op := [(0, .iload_n 0, 1, 0, 0), (1, .tableswitch 67 0 11 #[65, 67, 65, 65, 65, 67, 67, 67, 63, 65, 65, 63], 63, 0, 0), (64, .iconst 1, 1, 0, 0), (65, .ireturn, 1, 0, 0), (66, .iconst 2, 1, 0, 0), (67, .ireturn, 1, 0, 0), (68, .iconst 3, 1, 0, 0), (69, .ireturn, 1, 0, 0)]
def xm_r129 : List xm_Op := [(0, .iload_n 1, 1, 0, 0), (1, .invokestatic 21, 3, 128, 0), (4, .iconst 3, 1, 0, 0), (5, .if_icmp .ge 13, 3, 0, 0), (8, .aload_n 0, 1, 0, 0), (9, .iload_n 1, 1, 0, 0), (10, .iload_n 2, 1, 0, 0), (11, .iload_n 3, 1, 0, 0), (12, .invokestatic 29, 3, 130, 0), (15, .goto 12, 3, 0, 0), (18, .aload_n 0, 1, 0, 0), (19, .iload_n 1, 1, 0, 0), (20, .iload_n 2, 1, 0, 0), (21, .iload_n 3, 1, 0, 0), (22, .iload 4, 2, 0, 0), (24, .invokestatic 33, 3, 131, 0), (27, .ireturn, 1, 0, 0)]
def xm_r130 : List xm_Op := [(0, .aload_n 0, 1, 0, 0), (1, .iload_n 2, 1, 0, 0), (2, .iload_n 2, 1, 0, 0), (3, .invokevirtual 36, 3, 4, 0), (6, .istore 4, 2, 0, 0), (8, .aload_n 0, 1, 0, 0), (9, .iload_n 2, 1, 0, 0), (10, .iload_n 3, 1, 0, 0), (11, .invokevirtual 36, 3, 4, 0), (14, .istore 5, 2, 0, 0), (16, .aload_n 0, 1, 0, 0), (17, .iload_n 3, 1, 0, 0), (18, .iload_n 2, 1, 0, 0), (19, .invokevirtual 36, 3, 4, 0), (22, .istore 6, 2, 0, 0), (24, .iload_n 1, 1, 0, 0), (25, .tableswitch 206 0 10 #[59, 206, 72, 95, 118, 206, 206, 206, 141, 162, 184], 59, 0, 0), (84, .iload 5, 2, 0, 0), (86, .iload 6, 2, 0, 0), (88, .if_icmp .ne 7, 3, 0, 0), (91, .iconst 1, 1, 0, 0), (92, .goto 4, 3, 0, 0), (95, .iconst 0, 1, 0, 0), (96, .ireturn, 1, 0, 0), (97, .aload_n 0, 1, 0, 0), (98, .iload_n 2, 1, 0, 0), (99, .iload 6, 2, 0, 0), (101, .invokevirtual 36, 3, 4, 0), (104, .aload_n 0, 1, 0, 0), (105, .iload 5, 2, 0, 0), (107, .iload_n 2, 1, 0, 0), (108, .invokevirtual 36, 3, 4, 0), (111, .if_icmp .ne 7, 3, 0, 0), (114, .iconst 1, 1, 0, 0), (115, .goto 4, 3, 0, 0), (118, .iconst 0, 1, 0, 0), (119, .ireturn, 1, 0, 0), (120, .aload_n 0, 1, 0, 0), (121, .iload_n 2, 1, 0, 0), (122, .iload 5, 2, 0, 0), (124, .invokevirtual 36, 3, 4, 0), (127, .aload_n 0, 1, 0, 0), (128, .iload 4, 2, 0, 0), (130, .iload_n 3, 1, 0, 0), (131, .invokevirtual 36, 3, 4, 0), (134, .if_icmp .ne 7, 3, 0, 0), (137, .iconst 1, 1, 0, 0), (138, .goto 4, 3, 0, 0), (141, .iconst 0, 1, 0, 0), (142, .ireturn, 1, 0, 0), (143, .aload_n 0, 1, 0, 0), (144, .iload 6, 2, 0, 0), (146, .iload_n 2, 1, 0, 0), (147, .invokevirtual 36, 3, 4, 0), (150, .aload_n 0, 1, 0, 0), (151, .iload_n 3, 1, 0, 0), (152, .iload 4, 2, 0, 0), (154, .invokevirtual 36, 3, 4, 0), (157, .if_icmp .ne 7, 3, 0, 0), (160, .iconst 1, 1, 0, 0), (161, .goto 4, 3, 0, 0), (164, .iconst 0, 1, 0, 0), (165, .ireturn, 1, 0, 0), (166, .aload_n 0, 1, 0, 0), (167, .iload_n 2, 1, 0, 0), (168, .iconst 0, 1, 0, 0), (169, .invokevirtual 40, 3, 8, 0), (172, .aload_n 0, 1, 0, 0), (173, .iconst 0, 1, 0, 0), (174, .iload_n 2, 1, 0, 0), (175, .invokevirtual 43, 3, 9, 0), (178, .if_icmp .ne 7, 3, 0, 0), (181, .iconst 1, 1, 0, 0), (182, .goto 4, 3, 0, 0), (185, .iconst 0, 1, 0, 0), (186, .ireturn, 1, 0, 0), (187, .aload_n 0, 1, 0, 0), (188, .aload_n 0, 1, 0, 0), (189, .iload_n 2, 1, 0, 0), (190, .iconst 0, 1, 0, 0), (191, .invokevirtual 40, 3, 8, 0), (194, .iload 5, 2, 0, 0), (196, .invokevirtual 36, 3, 4, 0), (199, .iload_n 3, 1, 0, 0), (200, .if_icmp .ne 7, 3, 0, 0), (203, .iconst 1, 1, 0, 0), (204, .goto 4, 3, 0, 0), (207, .iconst 0, 1, 0, 0), (208, .ireturn, 1, 0, 0), (209, .aload_n 0, 1, 0, 0), (210, .iload 6, 2, 0, 0), (212, .aload_n 0, 1, 0, 0), (213, .iconst 0, 1, 0, 0), (214, .iload_n 2, 1, 0, 0), (215, .invokevirtual 43, 3, 9, 0), (218, .invokevirtual 36, 3, 4, 0), (221, .iload_n 3, 1, 0, 0), (222, .if_icmp .ne 7, 3, 0, 0), (225, .iconst 1, 1, 0, 0), (226, .goto 4, 3, 0, 0), (229, .iconst 0, 1, 0, 0), (230, .ireturn, 1, 0, 0), (231, .iload 4, 2, 0, 0), (233, .ifCond .ne 7, 3, 0, 0), (236, .iconst 1, 1, 0, 0), (237, .goto 4, 3, 0, 0), (240, .iconst 0, 1, 0, 0), (241, .ireturn, 1, 0, 0)]
def xm_r131 : List xm_Op := [(0, .aload_n 0, 1, 0, 0), (1, .iload_n 2, 1, 0, 0), (2, .iload_n 3, 1, 0, 0), (3, .invokevirtual 36, 3, 4, 0), (6, .istore 5, 2, 0, 0), (8, .aload_n 0, 1, 0, 0), (9, .iload_n 2, 1, 0, 0), (10, .iload 4, 2, 0, 0), (12, .invokevirtual 36, 3, 4, 0), (15, .istore 6, 2, 0, 0), (17, .aload_n 0, 1, 0, 0), (18, .iload_n 3, 1, 0, 0), (19, .iload 4, 2, 0, 0), (21, .invokevirtual 36, 3, 4, 0), (24, .istore 7, 2, 0, 0), (26, .iload_n 1, 1, 0, 0), (27, .tableswitch 176 1 7 #[41, 176, 176, 176, 65, 103, 142], 41, 0, 0), (68, .aload_n 0, 1, 0, 0), (69, .iload 5, 2, 0, 0), (71, .iload 4, 2, 0, 0), (73, .invokevirtual 36, 3, 4, 0), (76, .aload_n 0, 1, 0, 0), (77, .iload_n 2, 1, 0, 0), (78, .iload 7, 2, 0, 0), (80, .invokevirtual 36, 3, 4, 0), (83, .if_icmp .ne 7, 3, 0, 0), (86, .iconst 1, 1, 0, 0), (87, .goto 4, 3, 0, 0), (90, .iconst 0, 1, 0, 0), (91, .ireturn, 1, 0, 0), (92, .aload_n 0, 1, 0, 0), (93, .iload_n 2, 1, 0, 0), (94, .aload_n 0, 1, 0, 0), (95, .iload_n 3, 1, 0, 0), (96, .iload 6, 2, 0, 0), (98, .invokevirtual 36, 3, 4, 0), (101, .invokevirtual 36, 3, 4, 0), (104, .aload_n 0, 1, 0, 0), (105, .aload_n 0, 1, 0, 0), (106, .iload_n 2, 1, 0, 0), (107, .aload_n 0, 1, 0, 0), (108, .iload_n 3, 1, 0, 0), (109, .iload_n 2, 1, 0, 0), (110, .invokevirtual 36, 3, 4, 0), (113, .invokevirtual 36, 3, 4, 0), (116, .iload 4, 2, 0, 0), (118, .invokevirtual 36, 3, 4, 0), (121, .if_icmp .ne 7, 3, 0, 0), (124, .iconst 1, 1, 0, 0), (125, .goto 4, 3, 0, 0), (128, .iconst 0, 1, 0, 0), (129, .ireturn, 1, 0, 0), (130, .aload_n 0, 1, 0, 0), (131, .aload_n 0, 1, 0, 0), (132, .aload_n 0, 1, 0, 0), (133, .iload 4, 2, 0, 0), (135, .iload_n 2, 1, 0, 0), (136, .invokevirtual 36, 3, 4, 0), (139, .iload_n 3, 1, 0, 0), (140, .invokevirtual 36, 3, 4, 0), (143, .iload_n 2, 1, 0, 0), (144, .invokevirtual 36, 3, 4, 0), (147, .aload_n 0, 1, 0, 0), (148, .iload 4, 2, 0, 0), (150, .aload_n 0, 1, 0, 0), (151, .iload 5, 2, 0, 0), (153, .iload_n 2, 1, 0, 0), (154, .invokevirtual 36, 3, 4, 0), (157, .invokevirtual 36, 3, 4, 0), (160, .if_icmp .ne 7, 3, 0, 0), (163, .iconst 1, 1, 0, 0), (164, .goto 4, 3, 0, 0), (167, .iconst 0, 1, 0, 0), (168, .ireturn, 1, 0, 0), (169, .aload_n 0, 1, 0, 0), (170, .aload_n 0, 1, 0, 0), (171, .iload 5, 2, 0, 0), (173, .iload_n 2, 1, 0, 0), (174, .invokevirtual 36, 3, 4, 0), (177, .iload 4, 2, 0, 0), (179, .invokevirtual 36, 3, 4, 0), (182, .aload_n 0, 1, 0, 0), (183, .iload_n 2, 1, 0, 0), (184, .aload_n 0, 1, 0, 0), (185, .iload_n 3, 1, 0, 0), (186, .iload 6, 2, 0, 0), (188, .invokevirtual 36, 3, 4, 0), (191, .invokevirtual 36, 3, 4, 0), (194, .if_icmp .ne 7, 3, 0, 0), (197, .iconst 1, 1, 0, 0), (198, .goto 4, 3, 0, 0), (201, .iconst 0, 1, 0, 0), (202, .ireturn, 1, 0, 0), (203, .aload_n 0, 1, 0, 0), (204, .iload 5, 2, 0, 0), (206, .iload 6, 2, 0, 0), (208, .invokevirtual 36, 3, 4, 0), (211, .aload_n 0, 1, 0, 0), (212, .aload_n 0, 1, 0, 0), (213, .iload_n 2, 1, 0, 0), (214, .iload_n 2, 1, 0, 0), (215, .invokevirtual 36, 3, 4, 0), (218, .iload 7, 2, 0, 0), (220, .invokevirtual 36, 3, 4, 0), (223, .if_icmp .ne 7, 3, 0, 0), (226, .iconst 1, 1, 0, 0), (227, .goto 4, 3, 0, 0), (230, .iconst 0, 1, 0, 0), (231, .ireturn, 1, 0, 0)]
def xm_r132 : List xm_Op := [(0, .aload_n 0, 1, 0, 0), (1, .iload_n 1, 1, 0, 0), (2, .iconst 0, 1, 0, 0), (3, .invokestatic 9, 3, 127, 0), (6, .ireturn, 1, 0, 0)]
def xm_r133 : List xm_Op := [(0, .iload_n 1, 1, 0, 0), (1, .iconst 1, 1, 0, 0), (2, .ior, 1, 0, 0), (3, .istore_n 2, 1, 0, 0), (4, .iconst 0, 1, 0, 0), (5, .istore_n 3, 1, 0, 0), (6, .iload_n 3, 1, 0, 0), (7, .bipush 8, 2, 0, 0), (9, .if_icmp .ge 15, 3, 0, 0), (12, .aload_n 0, 1, 0, 0), (13, .iload_n 2, 1, 0, 0), (14, .invokestatic 9, 3, 134, 0), (17, .istore_n 2, 1, 0, 0), (18, .iinc 3 1, 3, 0, 0), (21, .goto (-15), 3, 0, 0), (24, .iload_n 2, 1, 0, 0), (25, .ireturn, 1, 0, 0)]
def xm_r134 : List xm_Op := [(0, .iload_n 1, 1, 0, 0), (1, .istore_n 2, 1, 0, 0), (2, .iconst 0, 1, 0, 0), (3, .istore_n 3, 1, 0, 0), (4, .iload_n 3, 1, 0, 0), (5, .aload_n 0, 1, 0, 0), (6, .getfield 15, 3, 0, 0), (9, .if_icmp .ge 26, 3, 0, 0), (12, .iload_n 1, 1, 0, 0), (13, .iload_n 3, 1, 0, 0), (14, .invokestatic 21, 3, 135, 0), (17, .ifCond .eq 12, 3, 0, 0), (20, .iload_n 2, 1, 0, 0), (21, .aload_n 0, 1, 0, 0), (22, .iload_n 3, 1, 0, 0), (23, .iload_n 1, 1, 0, 0), (24, .invokestatic 25, 3, 136, 0), (27, .ior, 1, 0, 0), (28, .istore_n 2, 1, 0, 0), (29, .iinc 3 1, 3, 0, 0), (32, .goto (-28), 3, 0, 0), (35, .iload_n 2, 1, 0, 0), (36, .ireturn, 1, 0, 0)]
def xm_r135 : List xm_Op := [(0, .iload_n 0, 1, 0, 0), (1, .iload_n 1, 1, 0, 0), (2, .ishr, 1, 0, 0), (3, .iconst 1, 1, 0, 0), (4, .iand, 1, 0, 0), (5, .ifCond .eq 7, 3, 0, 0), (8, .iconst 1, 1, 0, 0), (9, .goto 4, 3, 0, 0), (12, .iconst 0, 1, 0, 0), (13, .ireturn, 1, 0, 0)]
def xm_r136 : List xm_Op := [(0, .iconst 0, 1, 0, 0), (1, .istore_n 3, 1, 0, 0), (2, .iconst 0, 1, 0, 0), (3, .istore 4, 2, 0, 0), (5, .iload 4, 2, 0, 0), (7, .aload_n 0, 1, 0, 0), (8, .getfield 15, 3, 0, 0), (11, .if_icmp .ge 30, 3, 0, 0), (14, .iload_n 2, 1, 0, 0), (15, .iload 4, 2, 0, 0), (17, .invokestatic 21, 3, 135, 0), (20, .ifCond .eq 15, 3, 0, 0), (23, .iload_n 3, 1, 0, 0), (24, .iconst 1, 1, 0, 0), (25, .aload_n 0, 1, 0, 0), (26, .iload_n 1, 1, 0, 0), (27, .iload 4, 2, 0, 0), (29, .invokevirtual 39, 3, 4, 0), (32, .ishl, 1, 0, 0), (33, .ior, 1, 0, 0), (34, .istore_n 3, 1, 0, 0), (35, .iinc 4 1, 3, 0, 0), (38, .goto (-33), 3, 0, 0), (41, .iload_n 3, 1, 0, 0), (42, .ireturn, 1, 0, 0)]
def xm_r137 : List xm_Op := [(0, .iconst 0, 1, 0, 0), (1, .istore_n 2, 1, 0, 0), (2, .iconst 1, 1, 0, 0), (3, .istore_n 3, 1, 0, 0), (4, .iload_n 3, 1, 0, 0), (5, .iconst 1, 1, 0, 0), (6, .aload_n 0, 1, 0, 0), (7, .getfield 15, 3, 0, 0), (10, .ishl, 1, 0, 0), (11, .if_icmp .ge 32, 3, 0, 0), (14, .aload_n 0, 1, 0, 0), (15, .iload_n 3, 1, 0, 0), (16, .invokestatic 29, 3, 138, 0), (19, .ifCond .eq 18, 3, 0, 0), (22, .iload_n 1, 1, 0, 0), (23, .ifCond .eq 11, 3, 0, 0), (26, .aload_n 0, 1, 0, 0), (27, .iload_n 3, 1, 0, 0), (28, .invokestatic 33, 3, 139, 0), (31, .ifCond .eq 6, 3, 0, 0), (34, .iinc 2 1, 3, 0, 0), (37, .iinc 3 2, 3, 0, 0), (40, .goto (-36), 3, 0, 0), (43, .iload_n 2, 1, 0, 0), (44, .ireturn, 1, 0, 0)]
def xm_r138 : List xm_Op := [(0, .iload_n 1, 1, 0, 0), (1, .iconst 1, 1, 0, 0), (2, .iand, 1, 0, 0), (3, .ifCond .eq 16, 3, 0, 0), (6, .aload_n 0, 1, 0, 0), (7, .iload_n 1, 1, 0, 0), (8, .invokestatic 9, 3, 134, 0), (11, .iload_n 1, 1, 0, 0), (12, .if_icmp .ne 7, 3, 0, 0), (15, .iconst 1, 1, 0, 0), (16, .goto 4, 3, 0, 0), (19, .iconst 0, 1, 0, 0), (20, .ireturn, 1, 0, 0)]
def xm_r139 : List xm_Op := [(0, .iconst 0, 1, 0, 0), (1, .istore_n 2, 1, 0, 0), (2, .iload_n 2, 1, 0, 0), (3, .aload_n 0, 1, 0, 0), (4, .getfield 15, 3, 0, 0), (7, .if_icmp .ge 96, 3, 0, 0), (10, .aload_n 0, 1, 0, 0), (11, .iload_n 2, 1, 0, 0), (12, .iload_n 1, 1, 0, 0), (13, .invokestatic 25, 3, 136, 0), (16, .aload_n 0, 1, 0, 0), (17, .iload_n 1, 1, 0, 0), (18, .iload_n 2, 1, 0, 0), (19, .invokestatic 36, 3, 140, 0), (22, .if_icmp .eq 5, 3, 0, 0), (25, .iconst 0, 1, 0, 0), (26, .ireturn, 1, 0, 0), (27, .iconst 0, 1, 0, 0), (28, .istore_n 3, 1, 0, 0), (29, .iload_n 3, 1, 0, 0), (30, .aload_n 0, 1, 0, 0), (31, .getfield 15, 3, 0, 0), (34, .if_icmp .ge 63, 3, 0, 0), (37, .aload_n 0, 1, 0, 0), (38, .iload_n 2, 1, 0, 0), (39, .iload_n 3, 1, 0, 0), (40, .invokevirtual 39, 3, 4, 0), (43, .istore 4, 2, 0, 0), (45, .aload_n 0, 1, 0, 0), (46, .iload_n 2, 1, 0, 0), (47, .aload_n 0, 1, 0, 0), (48, .iload_n 3, 1, 0, 0), (49, .iload_n 1, 1, 0, 0), (50, .invokestatic 25, 3, 136, 0), (53, .invokestatic 25, 3, 136, 0), (56, .aload_n 0, 1, 0, 0), (57, .iload 4, 2, 0, 0), (59, .iload_n 1, 1, 0, 0), (60, .invokestatic 25, 3, 136, 0), (63, .if_icmp .eq 5, 3, 0, 0), (66, .iconst 0, 1, 0, 0), (67, .ireturn, 1, 0, 0), (68, .aload_n 0, 1, 0, 0), (69, .aload_n 0, 1, 0, 0), (70, .iload_n 1, 1, 0, 0), (71, .iload_n 2, 1, 0, 0), (72, .invokestatic 36, 3, 140, 0), (75, .iload_n 3, 1, 0, 0), (76, .invokestatic 36, 3, 140, 0), (79, .aload_n 0, 1, 0, 0), (80, .iload_n 1, 1, 0, 0), (81, .iload 4, 2, 0, 0), (83, .invokestatic 36, 3, 140, 0), (86, .if_icmp .eq 5, 3, 0, 0), (89, .iconst 0, 1, 0, 0), (90, .ireturn, 1, 0, 0), (91, .iinc 3 1, 3, 0, 0), (94, .goto (-65), 3, 0, 0), (97, .iinc 2 1, 3, 0, 0), (100, .goto (-98), 3, 0, 0), (103, .iconst 1, 1, 0, 0), (104, .ireturn, 1, 0, 0)]
def xm_r140 : List xm_Op := [(0, .iconst 0, 1, 0, 0), (1, .istore_n 3, 1, 0, 0), (2, .iconst 0, 1, 0, 0), (3, .istore 4, 2, 0, 0), (5, .iload 4, 2, 0, 0), (7, .aload_n 0, 1, 0, 0), (8, .getfield 15, 3, 0, 0), (11, .if_icmp .ge 30, 3, 0, 0), (14, .iload_n 1, 1, 0, 0), (15, .iload 4, 2, 0, 0), (17, .invokestatic 21, 3, 135, 0), (20, .ifCond .eq 15, 3, 0, 0), (23, .iload_n 3, 1, 0, 0), (24, .iconst 1, 1, 0, 0), (25, .aload_n 0, 1, 0, 0), (26, .iload 4, 2, 0, 0), (28, .iload_n 2, 1, 0, 0), (29, .invokevirtual 39, 3, 4, 0), (32, .ishl, 1, 0, 0), (33, .ior, 1, 0, 0), (34, .istore_n 3, 1, 0, 0), (35, .iinc 4 1, 3, 0, 0), (38, .goto (-33), 3, 0, 0), (41, .iload_n 3, 1, 0, 0), (42, .ireturn, 1, 0, 0)]
def xm_r141 : List xm_Op := [(0, .iconst 0, 1, 0, 0), (1, .istore_n 3, 1, 0, 0), (2, .iconst 0, 1, 0, 0), (3, .istore 4, 2, 0, 0), (5, .iload 4, 2, 0, 0), (7, .aload_n 0, 1, 0, 0), (8, .getfield 15, 3, 0, 0), (11, .if_icmp .ge 21, 3, 0, 0), (14, .iload_n 3, 1, 0, 0), (15, .iconst 1, 1, 0, 0), (16, .aload_n 0, 1, 0, 0), (17, .iload 4, 2, 0, 0), (19, .iload_n 1, 1, 0, 0), (20, .invokestatic 43, 3, 142, 0), (23, .ishl, 1, 0, 0), (24, .ior, 1, 0, 0), (25, .istore_n 3, 1, 0, 0), (26, .iinc 4 1, 3, 0, 0), (29, .goto (-24), 3, 0, 0), (32, .aload_n 2, 1, 0, 0), (33, .iload_n 3, 1, 0, 0), (34, .invokestatic 46, 3, 150, 0), (37, .invokevirtual 52, 3, 1, 0), (40, .iconst 0, 1, 0, 0), (41, .istore 4, 2, 0, 0), (43, .iload 4, 2, 0, 0), (45, .aload_n 0, 1, 0, 0), (46, .getfield 15, 3, 0, 0), (49, .if_icmp .ge 82, 3, 0, 0), (52, .iconst 0, 1, 0, 0), (53, .istore 5, 2, 0, 0), (55, .iload 5, 2, 0, 0), (57, .aload_n 0, 1, 0, 0), (58, .getfield 15, 3, 0, 0), (61, .if_icmp .ge 64, 3, 0, 0), (64, .iload_n 3, 1, 0, 0), (65, .iload 4, 2, 0, 0), (67, .invokestatic 21, 3, 135, 0), (70, .ifCond .eq 49, 3, 0, 0), (73, .iload_n 3, 1, 0, 0), (74, .iload 5, 2, 0, 0), (76, .invokestatic 21, 3, 135, 0), (79, .ifCond .eq 40, 3, 0, 0), (82, .aload_n 0, 1, 0, 0), (83, .aload_n 0, 1, 0, 0), (84, .iload 4, 2, 0, 0), (86, .iload 5, 2, 0, 0), (88, .invokevirtual 39, 3, 4, 0), (91, .iload_n 1, 1, 0, 0), (92, .invokestatic 43, 3, 142, 0), (95, .istore 6, 2, 0, 0), (97, .aload_n 2, 1, 0, 0), (98, .iload_n 3, 1, 0, 0), (99, .iload 4, 2, 0, 0), (101, .invokestatic 56, 3, 143, 0), (104, .iload_n 3, 1, 0, 0), (105, .iload 5, 2, 0, 0), (107, .invokestatic 56, 3, 143, 0), (110, .iload_n 3, 1, 0, 0), (111, .iload 6, 2, 0, 0), (113, .invokestatic 56, 3, 143, 0), (116, .invokevirtual 59, 3, 2, 0), (119, .iinc 5 1, 3, 0, 0), (122, .goto (-67), 3, 0, 0), (125, .iinc 4 1, 3, 0, 0), (128, .goto (-85), 3, 0, 0), (131, .return_, 1, 0, 0)]
def xm_r142 : List xm_Op := [(0, .aload_n 0, 1, 0, 0), (1, .iload_n 1, 1, 0, 0), (2, .iload_n 2, 1, 0, 0), (3, .invokestatic 25, 3, 136, 0), (6, .istore_n 3, 1, 0, 0), (7, .iconst 0, 1, 0, 0), (8, .istore 4, 2, 0, 0), (10, .iload 4, 2, 0, 0), (12, .aload_n 0, 1, 0, 0), (13, .getfield 15, 3, 0, 0), (16, .if_icmp .ge 21, 3, 0, 0), (19, .iload_n 3, 1, 0, 0), (20, .iload 4, 2, 0, 0), (22, .invokestatic 21, 3, 135, 0), (25, .ifCond .eq 6, 3, 0, 0), (28, .iload 4, 2, 0, 0), (30, .ireturn, 1, 0, 0), (31, .iinc 4 1, 3, 0, 0), (34, .goto (-24), 3, 0, 0), (37, .iconst 0, 1, 0, 0), (38, .ireturn, 1, 0, 0)]
def xm_r143 : List xm_Op := [(0, .iload_n 0, 1, 0, 0), (1, .iconst 1, 1, 0, 0), (2, .iload_n 1, 1, 0, 0), (3, .ishl, 1, 0, 0), (4, .iconst 1, 1, 0, 0), (5, .isub, 1, 0, 0), (6, .iand, 1, 0, 0), (7, .invokestatic 46, 3, 150, 0), (10, .ireturn, 1, 0, 0)]
def xm_r144 : List xm_Op := [(0, .iconst 0, 1, 0, 0), (1, .istore_n 1, 1, 0, 0), (2, .iconst 1, 1, 0, 0), (3, .istore_n 2, 1, 0, 0), (4, .iload_n 2, 1, 0, 0), (5, .aload_n 0, 1, 0, 0), (6, .getfield 9, 3, 0, 0), (9, .if_icmp .ge 36, 3, 0, 0), (12, .iload_n 2, 1, 0, 0), (13, .iconst 1, 1, 0, 0), (14, .iadd, 1, 0, 0), (15, .istore_n 3, 1, 0, 0), (16, .iload_n 3, 1, 0, 0), (17, .aload_n 0, 1, 0, 0), (18, .getfield 9, 3, 0, 0), (21, .if_icmp .ge 18, 3, 0, 0), (24, .iload_n 1, 1, 0, 0), (25, .aload_n 0, 1, 0, 0), (26, .iload_n 2, 1, 0, 0), (27, .iload_n 3, 1, 0, 0), (28, .invokestatic 15, 3, 145, 0), (31, .iadd, 1, 0, 0), (32, .istore_n 1, 1, 0, 0), (33, .iinc 3 1, 3, 0, 0), (36, .goto (-20), 3, 0, 0), (39, .iinc 2 1, 3, 0, 0), (42, .goto (-38), 3, 0, 0), (45, .iload_n 1, 1, 0, 0), (46, .ireturn, 1, 0, 0)]
def xm_r145 : List xm_Op := [(0, .iconst 0, 1, 0, 0), (1, .istore_n 3, 1, 0, 0), (2, .iconst 1, 1, 0, 0), (3, .istore 4, 2, 0, 0), (5, .iload 4, 2, 0, 0), (7, .aload_n 0, 1, 0, 0), (8, .getfield 9, 3, 0, 0), (11, .if_icmp .ge 46, 3, 0, 0), (14, .iload 4, 2, 0, 0), (16, .iconst 1, 1, 0, 0), (17, .iadd, 1, 0, 0), (18, .istore 5, 2, 0, 0), (20, .iload 5, 2, 0, 0), (22, .aload_n 0, 1, 0, 0), (23, .getfield 9, 3, 0, 0), (26, .if_icmp .ge 25, 3, 0, 0), (29, .aload_n 0, 1, 0, 0), (30, .iload_n 1, 1, 0, 0), (31, .iload_n 2, 1, 0, 0), (32, .iload 4, 2, 0, 0), (34, .iload 5, 2, 0, 0), (36, .invokestatic 25, 3, 146, 0), (39, .ifCond .eq 6, 3, 0, 0), (42, .iinc 3 1, 3, 0, 0), (45, .iinc 5 1, 3, 0, 0), (48, .goto (-28), 3, 0, 0), (51, .iinc 4 1, 3, 0, 0), (54, .goto (-49), 3, 0, 0), (57, .iload_n 3, 1, 0, 0), (58, .ireturn, 1, 0, 0)]
def xm_r146 : List xm_Op := [(0, .aload_n 0, 1, 0, 0), (1, .iload_n 1, 1, 0, 0), (2, .iload_n 3, 1, 0, 0), (3, .invokevirtual 29, 3, 4, 0), (6, .aload_n 0, 1, 0, 0), (7, .iload_n 2, 1, 0, 0), (8, .iload 4, 2, 0, 0), (10, .invokevirtual 29, 3, 4, 0), (13, .if_icmp .ne 23, 3, 0, 0), (16, .aload_n 0, 1, 0, 0), (17, .iload_n 1, 1, 0, 0), (18, .iload 4, 2, 0, 0), (20, .invokevirtual 29, 3, 4, 0), (23, .aload_n 0, 1, 0, 0), (24, .iload_n 2, 1, 0, 0), (25, .iload_n 3, 1, 0, 0), (26, .invokevirtual 29, 3, 4, 0), (29, .if_icmp .ne 7, 3, 0, 0), (32, .iconst 1, 1, 0, 0), (33, .goto 4, 3, 0, 0), (36, .iconst 0, 1, 0, 0), (37, .ireturn, 1, 0, 0)]
def xm_r147 : List xm_Op := [(0, .iconst 0, 1, 0, 0), (1, .istore_n 2, 1, 0, 0), (2, .iconst 1, 1, 0, 0), (3, .istore_n 3, 1, 0, 0), (4, .iload_n 3, 1, 0, 0), (5, .aload_n 0, 1, 0, 0), (6, .getfield 9, 3, 0, 0), (9, .if_icmp .ge 74, 3, 0, 0), (12, .iload_n 3, 1, 0, 0), (13, .iconst 1, 1, 0, 0), (14, .iadd, 1, 0, 0), (15, .istore 4, 2, 0, 0), (17, .iload 4, 2, 0, 0), (19, .aload_n 0, 1, 0, 0), (20, .getfield 9, 3, 0, 0), (23, .if_icmp .ge 54, 3, 0, 0), (26, .aload_n 0, 1, 0, 0), (27, .iload_n 3, 1, 0, 0), (28, .iload 4, 2, 0, 0), (30, .invokestatic 15, 3, 145, 0), (33, .istore 5, 2, 0, 0), (35, .iload_n 1, 1, 0, 0), (36, .iload_n 2, 1, 0, 0), (37, .isub, 1, 0, 0), (38, .iload 5, 2, 0, 0), (40, .if_icmp .ge 26, 3, 0, 0), (43, .sipush 512, 3, 0, 0), (46, .iload_n 3, 1, 0, 0), (47, .imul, 1, 0, 0), (48, .bipush 64, 2, 0, 0), (50, .iload 4, 2, 0, 0), (52, .imul, 1, 0, 0), (53, .iadd, 1, 0, 0), (54, .aload_n 0, 1, 0, 0), (55, .iload_n 3, 1, 0, 0), (56, .iload 4, 2, 0, 0), (58, .iload_n 1, 1, 0, 0), (59, .iload_n 2, 1, 0, 0), (60, .isub, 1, 0, 0), (61, .invokestatic 21, 3, 148, 0), (64, .iadd, 1, 0, 0), (65, .ireturn, 1, 0, 0), (66, .iload_n 2, 1, 0, 0), (67, .iload 5, 2, 0, 0), (69, .iadd, 1, 0, 0), (70, .istore_n 2, 1, 0, 0), (71, .iinc 4 1, 3, 0, 0), (74, .goto (-57), 3, 0, 0), (77, .iinc 3 1, 3, 0, 0), (80, .goto (-76), 3, 0, 0), (83, .bipush (-4), 2, 0, 0), (85, .ireturn, 1, 0, 0)]
def xm_r148 : List xm_Op := [(0, .iconst 0, 1, 0, 0), (1, .istore 4, 2, 0, 0), (3, .iconst 1, 1, 0, 0), (4, .istore 5, 2, 0, 0), (6, .iload 5, 2, 0, 0), (8, .aload_n 0, 1, 0, 0), (9, .getfield 9, 3, 0, 0), (12, .if_icmp .ge 61, 3, 0, 0), (15, .iload 5, 2, 0, 0), (17, .iconst 1, 1, 0, 0), (18, .iadd, 1, 0, 0), (19, .istore 6, 2, 0, 0), (21, .iload 6, 2, 0, 0), (23, .aload_n 0, 1, 0, 0), (24, .getfield 9, 3, 0, 0), (27, .if_icmp .ge 40, 3, 0, 0), (30, .aload_n 0, 1, 0, 0), (31, .iload_n 1, 1, 0, 0), (32, .iload_n 2, 1, 0, 0), (33, .iload 5, 2, 0, 0), (35, .iload 6, 2, 0, 0), (37, .invokestatic 25, 3, 146, 0), (40, .ifCond .eq 21, 3, 0, 0), (43, .iload 4, 2, 0, 0), (45, .iload_n 3, 1, 0, 0), (46, .if_icmp .ne 12, 3, 0, 0), (49, .bipush 8, 2, 0, 0), (51, .iload 5, 2, 0, 0), (53, .imul, 1, 0, 0), (54, .iload 6, 2, 0, 0), (56, .iadd, 1, 0, 0), (57, .ireturn, 1, 0, 0), (58, .iinc 4 1, 3, 0, 0), (61, .iinc 6 1, 3, 0, 0), (64, .goto (-43), 3, 0, 0), (67, .iinc 5 1, 3, 0, 0), (70, .goto (-64), 3, 0, 0), (73, .iconst 0, 1, 0, 0), (74, .ireturn, 1, 0, 0)]
def xm_r149 : List xm_Op := [(0, .iload_n 1, 1, 0, 0), (1, .bipush 9, 2, 0, 0), (3, .ishr, 1, 0, 0), (4, .bipush 7, 2, 0, 0), (6, .iand, 1, 0, 0), (7, .istore_n 2, 1, 0, 0), (8, .iload_n 1, 1, 0, 0), (9, .bipush 6, 2, 0, 0), (11, .ishr, 1, 0, 0), (12, .bipush 7, 2, 0, 0), (14, .iand, 1, 0, 0), (15, .istore_n 3, 1, 0, 0), (16, .iload_n 1, 1, 0, 0), (17, .iconst 3, 1, 0, 0), (18, .ishr, 1, 0, 0), (19, .bipush 7, 2, 0, 0), (21, .iand, 1, 0, 0), (22, .istore 4, 2, 0, 0), (24, .iload_n 1, 1, 0, 0), (25, .bipush 7, 2, 0, 0), (27, .iand, 1, 0, 0), (28, .istore 5, 2, 0, 0), (30, .aload_n 0, 1, 0, 0), (31, .iload_n 2, 1, 0, 0), (32, .iload 4, 2, 0, 0), (34, .invokevirtual 29, 3, 4, 0), (37, .istore 6, 2, 0, 0), (39, .aload_n 0, 1, 0, 0), (40, .iload_n 2, 1, 0, 0), (41, .iload 5, 2, 0, 0), (43, .invokevirtual 29, 3, 4, 0), (46, .istore 7, 2, 0, 0), (48, .aload_n 0, 1, 0, 0), (49, .iload_n 2, 1, 0, 0), (50, .iload 4, 2, 0, 0), (52, .iload 7, 2, 0, 0), (54, .invokevirtual 33, 3, 2, 0), (57, .aload_n 0, 1, 0, 0), (58, .iload_n 3, 1, 0, 0), (59, .iload 5, 2, 0, 0), (61, .iload 7, 2, 0, 0), (63, .invokevirtual 33, 3, 2, 0), (66, .aload_n 0, 1, 0, 0), (67, .iload_n 2, 1, 0, 0), (68, .iload 5, 2, 0, 0), (70, .iload 6, 2, 0, 0), (72, .invokevirtual 33, 3, 2, 0), (75, .aload_n 0, 1, 0, 0), (76, .iload_n 3, 1, 0, 0), (77, .iload 4, 2, 0, 0), (79, .iload 6, 2, 0, 0), (81, .invokevirtual 33, 3, 2, 0), (84, .return_, 1, 0, 0)]
def xm_r150 : List xm_Op := [(0, .iload_n 0, 1, 0, 0), (1, .iload_n 0, 1, 0, 0), (2, .iconst 1, 1, 0, 0), (3, .iushr, 1, 0, 0), (4, .ldc_w 265, 3, 1431655765, 0), (7, .iand, 1, 0, 0), (8, .isub, 1, 0, 0), (9, .istore_n 0, 1, 0, 0), (10, .iload_n 0, 1, 0, 0), (11, .ldc_w 266, 3, 858993459, 0), (14, .iand, 1, 0, 0), (15, .iload_n 0, 1, 0, 0), (16, .iconst 2, 1, 0, 0), (17, .iushr, 1, 0, 0), (18, .ldc_w 266, 3, 858993459, 0), (21, .iand, 1, 0, 0), (22, .iadd, 1, 0, 0), (23, .istore_n 0, 1, 0, 0), (24, .iload_n 0, 1, 0, 0), (25, .iload_n 0, 1, 0, 0), (26, .iconst 4, 1, 0, 0), (27, .iushr, 1, 0, 0), (28, .iadd, 1, 0, 0), (29, .ldc_w 267, 3, 252645135, 0), (32, .iand, 1, 0, 0), (33, .istore_n 0, 1, 0, 0), (34, .iload_n 0, 1, 0, 0), (35, .iload_n 0, 1, 0, 0), (36, .bipush 8, 2, 0, 0), (38, .iushr, 1, 0, 0), (39, .iadd, 1, 0, 0), (40, .istore_n 0, 1, 0, 0), (41, .iload_n 0, 1, 0, 0), (42, .iload_n 0, 1, 0, 0), (43, .bipush 16, 2, 0, 0), (45, .iushr, 1, 0, 0), (46, .iadd, 1, 0, 0), (47, .istore_n 0, 1, 0, 0), (48, .iload_n 0, 1, 0, 0), (49, .bipush 63, 2, 0, 0), (51, .iand, 1, 0, 0), (52, .ireturn, 1, 0, 0)]
def xm_r151 : List xm_Op := [(0, .iload_n 0, 1, 0, 0), (1, .iload_n 1, 1, 0, 0), (2, .if_icmp .gt 7, 3, 0, 0), (5, .iload_n 0, 1, 0, 0), (6, .goto 4, 3, 0, 0), (9, .iload_n 1, 1, 0, 0), (10, .ireturn, 1, 0, 0)]
def xm_r152 : List xm_Op := [(0, .iload_n 0, 1, 0, 0), (1, .iload_n 1, 1, 0, 0), (2, .if_icmp .lt 7, 3, 0, 0), (5, .iload_n 0, 1, 0, 0), (6, .goto 4, 3, 0, 0), (9, .iload_n 1, 1, 0, 0), (10, .ireturn, 1, 0, 0)]
def xm_r153 : List xm_Op := [(0, .iconst 0, 1, 0, 0), (1, .istore_n 2, 1, 0, 0), (2, .aload_n 0, 1, 0, 0), (3, .arraylength, 1, 0, 0), (4, .istore_n 3, 1, 0, 0), (5, .iload_n 2, 1, 0, 0), (6, .iload_n 3, 1, 0, 0), (7, .if_icmp .ge 13, 3, 0, 0), (10, .aload_n 0, 1, 0, 0), (11, .iload_n 2, 1, 0, 0), (12, .iload_n 1, 1, 0, 0), (13, .iastore, 1, 0, 0), (14, .iinc 2 1, 3, 0, 0), (17, .goto (-12), 3, 0, 0), (20, .return_, 1, 0, 0)]
def xm_r154 : List xm_Op := [(0, .new 7, 3, 4, 0), (3, .dup, 1, 0, 0), (4, .invokespecial 9, 3, 38, 0), (7, .astore_n 1, 1, 0, 0), (8, .new 10, 3, 5, 0), (11, .dup, 1, 0, 0), (12, .invokespecial 12, 3, 67, 0), (15, .astore_n 2, 1, 0, 0), (16, .iconst 0, 1, 0, 0), (17, .istore_n 3, 1, 0, 0), (18, .iload_n 3, 1, 0, 0), (19, .aload_n 0, 1, 0, 0), (20, .arraylength, 1, 0, 0), (21, .iconst 5, 1, 0, 0), (22, .isub, 1, 0, 0), (23, .if_icmp .gt 894, 3, 0, 0), (26, .aload_n 0, 1, 0, 0), (27, .iload_n 3, 1, 0, 0), (28, .iaload, 1, 0, 0), (29, .bipush 31, 2, 0, 0), (31, .iand, 1, 0, 0), (32, .tableswitch 879 0 20 #[100, 133, 186, 229, 252, 285, 318, 371, 414, 447, 480, 513, 546, 589, 612, 671, 704, 737, 770, 813, 856], 100, 0, 0), (132, .aload_n 1, 1, 0, 0), (133, .aload_n 0, 1, 0, 0), (134, .iload_n 3, 1, 0, 0), (135, .iconst 1, 1, 0, 0), (136, .iadd, 1, 0, 0), (137, .iaload, 1, 0, 0), (138, .aload_n 0, 1, 0, 0), (139, .iload_n 3, 1, 0, 0), (140, .iconst 2, 1, 0, 0), (141, .iadd, 1, 0, 0), (142, .iaload, 1, 0, 0), (143, .invokevirtual 13, 3, 39, 0), (146, .aload_n 2, 1, 0, 0), (147, .aload_n 0, 1, 0, 0), (148, .iload_n 3, 1, 0, 0), (149, .iconst 1, 1, 0, 0), (150, .iadd, 1, 0, 0), (151, .iaload, 1, 0, 0), (152, .aload_n 0, 1, 0, 0), (153, .iload_n 3, 1, 0, 0), (154, .iconst 2, 1, 0, 0), (155, .iadd, 1, 0, 0), (156, .iaload, 1, 0, 0), (157, .invokevirtual 17, 3, 68, 0), (160, .if_icmp .eq 751, 3, 0, 0), (163, .iconst 0, 1, 0, 0), (164, .ireturn, 1, 0, 0), (165, .aload_n 1, 1, 0, 0), (166, .aload_n 0, 1, 0, 0), (167, .iload_n 3, 1, 0, 0), (168, .iconst 1, 1, 0, 0), (169, .iadd, 1, 0, 0), (170, .iaload, 1, 0, 0), (171, .aload_n 0, 1, 0, 0), (172, .iload_n 3, 1, 0, 0), (173, .iconst 2, 1, 0, 0), (174, .iadd, 1, 0, 0), (175, .iaload, 1, 0, 0), (176, .aload_n 0, 1, 0, 0), (177, .iload_n 3, 1, 0, 0), (178, .iconst 3, 1, 0, 0), (179, .iadd, 1, 0, 0), (180, .iaload, 1, 0, 0), (181, .aload_n 0, 1, 0, 0), (182, .iload_n 3, 1, 0, 0), (183, .iconst 4, 1, 0, 0), (184, .iadd, 1, 0, 0), (185, .iaload, 1, 0, 0), (186, .invokevirtual 18, 3, 42, 0), (189, .aload_n 2, 1, 0, 0), (190, .aload_n 0, 1, 0, 0), (191, .iload_n 3, 1, 0, 0), (192, .iconst 1, 1, 0, 0), (193, .iadd, 1, 0, 0), (194, .iaload, 1, 0, 0), (195, .aload_n 0, 1, 0, 0), (196, .iload_n 3, 1, 0, 0), (197, .iconst 2, 1, 0, 0), (198, .iadd, 1, 0, 0), (199, .iaload, 1, 0, 0), (200, .aload_n 0, 1, 0, 0), (201, .iload_n 3, 1, 0, 0), (202, .iconst 3, 1, 0, 0), (203, .iadd, 1, 0, 0), (204, .iaload, 1, 0, 0), (205, .aload_n 0, 1, 0, 0), (206, .iload_n 3, 1, 0, 0), (207, .iconst 4, 1, 0, 0), (208, .iadd, 1, 0, 0), (209, .iaload, 1, 0, 0), (210, .invokevirtual 22, 3, 72, 0), (213, .if_icmp .eq 698, 3, 0, 0), (216, .iconst 0, 1, 0, 0), (217, .ireturn, 1, 0, 0), (218, .aload_n 1, 1, 0, 0), (219, .aload_n 0, 1, 0, 0), (220, .iload_n 3, 1, 0, 0), (221, .iconst 1, 1, 0, 0), (222, .iadd, 1, 0, 0), (223, .iaload, 1, 0, 0), (224, .aload_n 0, 1, 0, 0), (225, .iload_n 3, 1, 0, 0), (226, .iconst 2, 1, 0, 0), (227, .iadd, 1, 0, 0), (228, .iaload, 1, 0, 0), (229, .aload_n 0, 1, 0, 0), (230, .iload_n 3, 1, 0, 0), (231, .iconst 3, 1, 0, 0), (232, .iadd, 1, 0, 0), (233, .iaload, 1, 0, 0), (234, .invokevirtual 23, 3, 45, 0), (237, .aload_n 2, 1, 0, 0), (238, .aload_n 0, 1, 0, 0), (239, .iload_n 3, 1, 0, 0), (240, .iconst 1, 1, 0, 0), (241, .iadd, 1, 0, 0), (242, .iaload, 1, 0, 0), (243, .aload_n 0, 1, 0, 0), (244, .iload_n 3, 1, 0, 0), (245, .iconst 2, 1, 0, 0), (246, .iadd, 1, 0, 0), (247, .iaload, 1, 0, 0), (248, .aload_n 0, 1, 0, 0), (249, .iload_n 3, 1, 0, 0), (250, .iconst 3, 1, 0, 0), (251, .iadd, 1, 0, 0), (252, .iaload, 1, 0, 0), (253, .invokevirtual 27, 3, 75, 0), (256, .if_icmp .eq 655, 3, 0, 0), (259, .iconst 0, 1, 0, 0), (260, .ireturn, 1, 0, 0), (261, .aload_n 1, 1, 0, 0), (262, .aload_n 0, 1, 0, 0), (263, .iload_n 3, 1, 0, 0), (264, .iconst 1, 1, 0, 0), (265, .iadd, 1, 0, 0), (266, .iaload, 1, 0, 0), (267, .invokevirtual 28, 3, 46, 0), (270, .aload_n 2, 1, 0, 0), (271, .aload_n 0, 1, 0, 0), (272, .iload_n 3, 1, 0, 0), (273, .iconst 1, 1, 0, 0), (274, .iadd, 1, 0, 0), (275, .iaload, 1, 0, 0), (276, .invokevirtual 32, 3, 77, 0), (279, .if_icmp .eq 632, 3, 0, 0), (282, .iconst 0, 1, 0, 0), (283, .ireturn, 1, 0, 0), (284, .aload_n 1, 1, 0, 0), (285, .aload_n 0, 1, 0, 0), (286, .iload_n 3, 1, 0, 0), (287, .iconst 1, 1, 0, 0), (288, .iadd, 1, 0, 0), (289, .iaload, 1, 0, 0), (290, .aload_n 0, 1, 0, 0), (291, .iload_n 3, 1, 0, 0), (292, .iconst 2, 1, 0, 0), (293, .iadd, 1, 0, 0), (294, .iaload, 1, 0, 0), (295, .invokevirtual 33, 3, 47, 0), (298, .aload_n 2, 1, 0, 0), (299, .aload_n 0, 1, 0, 0), (300, .iload_n 3, 1, 0, 0), (301, .iconst 1, 1, 0, 0), (302, .iadd, 1, 0, 0), (303, .iaload, 1, 0, 0), (304, .aload_n 0, 1, 0, 0), (305, .iload_n 3, 1, 0, 0), (306, .iconst 2, 1, 0, 0), (307, .iadd, 1, 0, 0), (308, .iaload, 1, 0, 0), (309, .invokevirtual 36, 3, 79, 0), (312, .if_icmp .eq 599, 3, 0, 0), (315, .iconst 0, 1, 0, 0), (316, .ireturn, 1, 0, 0), (317, .aload_n 1, 1, 0, 0), (318, .aload_n 0, 1, 0, 0), (319, .iload_n 3, 1, 0, 0), (320, .iconst 1, 1, 0, 0), (321, .iadd, 1, 0, 0), (322, .iaload, 1, 0, 0), (323, .aload_n 0, 1, 0, 0), (324, .iload_n 3, 1, 0, 0), (325, .iconst 2, 1, 0, 0), (326, .iadd, 1, 0, 0), (327, .iaload, 1, 0, 0), (328, .invokevirtual 37, 3, 48, 0), (331, .aload_n 2, 1, 0, 0), (332, .aload_n 0, 1, 0, 0), (333, .iload_n 3, 1, 0, 0), (334, .iconst 1, 1, 0, 0), (335, .iadd, 1, 0, 0), (336, .iaload, 1, 0, 0), (337, .aload_n 0, 1, 0, 0), (338, .iload_n 3, 1, 0, 0), (339, .iconst 2, 1, 0, 0), (340, .iadd, 1, 0, 0), (341, .iaload, 1, 0, 0), (342, .invokevirtual 40, 3, 82, 0), (345, .if_icmp .eq 566, 3, 0, 0), (348, .iconst 0, 1, 0, 0), (349, .ireturn, 1, 0, 0), (350, .aload_n 1, 1, 0, 0), (351, .aload_n 0, 1, 0, 0), (352, .iload_n 3, 1, 0, 0), (353, .iconst 1, 1, 0, 0), (354, .iadd, 1, 0, 0), (355, .iaload, 1, 0, 0), (356, .aload_n 0, 1, 0, 0), (357, .iload_n 3, 1, 0, 0), (358, .iconst 2, 1, 0, 0), (359, .iadd, 1, 0, 0), (360, .iaload, 1, 0, 0), (361, .aload_n 0, 1, 0, 0), (362, .iload_n 3, 1, 0, 0), (363, .iconst 3, 1, 0, 0), (364, .iadd, 1, 0, 0), (365, .iaload, 1, 0, 0), (366, .aload_n 0, 1, 0, 0), (367, .iload_n 3, 1, 0, 0), (368, .iconst 4, 1, 0, 0), (369, .iadd, 1, 0, 0), (370, .iaload, 1, 0, 0), (371, .invokevirtual 41, 3, 49, 0), (374, .aload_n 2, 1, 0, 0), (375, .aload_n 0, 1, 0, 0), (376, .iload_n 3, 1, 0, 0), (377, .iconst 1, 1, 0, 0), (378, .iadd, 1, 0, 0), (379, .iaload, 1, 0, 0), (380, .aload_n 0, 1, 0, 0), (381, .iload_n 3, 1, 0, 0), (382, .iconst 2, 1, 0, 0), (383, .iadd, 1, 0, 0), (384, .iaload, 1, 0, 0), (385, .aload_n 0, 1, 0, 0), (386, .iload_n 3, 1, 0, 0), (387, .iconst 3, 1, 0, 0), (388, .iadd, 1, 0, 0), (389, .iaload, 1, 0, 0), (390, .aload_n 0, 1, 0, 0), (391, .iload_n 3, 1, 0, 0), (392, .iconst 4, 1, 0, 0), (393, .iadd, 1, 0, 0), (394, .iaload, 1, 0, 0), (395, .invokevirtual 44, 3, 83, 0), (398, .if_icmp .eq 513, 3, 0, 0), (401, .iconst 0, 1, 0, 0), (402, .ireturn, 1, 0, 0), (403, .aload_n 1, 1, 0, 0), (404, .aload_n 0, 1, 0, 0), (405, .iload_n 3, 1, 0, 0), (406, .iconst 1, 1, 0, 0), (407, .iadd, 1, 0, 0), (408, .iaload, 1, 0, 0), (409, .aload_n 0, 1, 0, 0), (410, .iload_n 3, 1, 0, 0), (411, .iconst 2, 1, 0, 0), (412, .iadd, 1, 0, 0), (413, .iaload, 1, 0, 0), (414, .aload_n 0, 1, 0, 0), (415, .iload_n 3, 1, 0, 0), (416, .iconst 3, 1, 0, 0), (417, .iadd, 1, 0, 0), (418, .iaload, 1, 0, 0), (419, .invokevirtual 45, 3, 50, 0), (422, .aload_n 2, 1, 0, 0), (423, .aload_n 0, 1, 0, 0), (424, .iload_n 3, 1, 0, 0), (425, .iconst 1, 1, 0, 0), (426, .iadd, 1, 0, 0), (427, .iaload, 1, 0, 0), (428, .aload_n 0, 1, 0, 0), (429, .iload_n 3, 1, 0, 0), (430, .iconst 2, 1, 0, 0), (431, .iadd, 1, 0, 0), (432, .iaload, 1, 0, 0), (433, .aload_n 0, 1, 0, 0), (434, .iload_n 3, 1, 0, 0), (435, .iconst 3, 1, 0, 0), (436, .iadd, 1, 0, 0), (437, .iaload, 1, 0, 0), (438, .invokevirtual 48, 3, 87, 0), (441, .if_icmp .eq 470, 3, 0, 0), (444, .iconst 0, 1, 0, 0), (445, .ireturn, 1, 0, 0), (446, .aload_n 1, 1, 0, 0), (447, .aload_n 0, 1, 0, 0), (448, .iload_n 3, 1, 0, 0), (449, .iconst 1, 1, 0, 0), (450, .iadd, 1, 0, 0), (451, .iaload, 1, 0, 0), (452, .aload_n 0, 1, 0, 0), (453, .iload_n 3, 1, 0, 0), (454, .iconst 2, 1, 0, 0), (455, .iadd, 1, 0, 0), (456, .iaload, 1, 0, 0), (457, .invokevirtual 49, 3, 51, 0), (460, .aload_n 2, 1, 0, 0), (461, .aload_n 0, 1, 0, 0), (462, .iload_n 3, 1, 0, 0), (463, .iconst 1, 1, 0, 0), (464, .iadd, 1, 0, 0), (465, .iaload, 1, 0, 0), (466, .aload_n 0, 1, 0, 0), (467, .iload_n 3, 1, 0, 0), (468, .iconst 2, 1, 0, 0), (469, .iadd, 1, 0, 0), (470, .iaload, 1, 0, 0), (471, .invokevirtual 52, 3, 90, 0), (474, .if_icmp .eq 437, 3, 0, 0), (477, .iconst 0, 1, 0, 0), (478, .ireturn, 1, 0, 0), (479, .aload_n 1, 1, 0, 0), (480, .aload_n 0, 1, 0, 0), (481, .iload_n 3, 1, 0, 0), (482, .iconst 1, 1, 0, 0), (483, .iadd, 1, 0, 0), (484, .iaload, 1, 0, 0), (485, .aload_n 0, 1, 0, 0), (486, .iload_n 3, 1, 0, 0), (487, .iconst 2, 1, 0, 0), (488, .iadd, 1, 0, 0), (489, .iaload, 1, 0, 0), (490, .invokevirtual 53, 3, 52, 0), (493, .aload_n 2, 1, 0, 0), (494, .aload_n 0, 1, 0, 0), (495, .iload_n 3, 1, 0, 0), (496, .iconst 1, 1, 0, 0), (497, .iadd, 1, 0, 0), (498, .iaload, 1, 0, 0), (499, .aload_n 0, 1, 0, 0), (500, .iload_n 3, 1, 0, 0), (501, .iconst 2, 1, 0, 0), (502, .iadd, 1, 0, 0), (503, .iaload, 1, 0, 0), (504, .invokevirtual 56, 3, 92, 0), (507, .if_icmp .eq 404, 3, 0, 0), (510, .iconst 0, 1, 0, 0), (511, .ireturn, 1, 0, 0), (512, .aload_n 1, 1, 0, 0), (513, .aload_n 0, 1, 0, 0), (514, .iload_n 3, 1, 0, 0), (515, .iconst 1, 1, 0, 0), (516, .iadd, 1, 0, 0), (517, .iaload, 1, 0, 0), (518, .aload_n 0, 1, 0, 0), (519, .iload_n 3, 1, 0, 0), (520, .iconst 2, 1, 0, 0), (521, .iadd, 1, 0, 0), (522, .iaload, 1, 0, 0), (523, .invokevirtual 57, 3, 54, 0), (526, .aload_n 2, 1, 0, 0), (527, .aload_n 0, 1, 0, 0), (528, .iload_n 3, 1, 0, 0), (529, .iconst 1, 1, 0, 0), (530, .iadd, 1, 0, 0), (531, .iaload, 1, 0, 0), (532, .aload_n 0, 1, 0, 0), (533, .iload_n 3, 1, 0, 0), (534, .iconst 2, 1, 0, 0), (535, .iadd, 1, 0, 0), (536, .iaload, 1, 0, 0), (537, .invokevirtual 60, 3, 96, 0), (540, .if_icmp .eq 371, 3, 0, 0), (543, .iconst 0, 1, 0, 0), (544, .ireturn, 1, 0, 0), (545, .aload_n 1, 1, 0, 0), (546, .aload_n 0, 1, 0, 0), (547, .iload_n 3, 1, 0, 0), (548, .iconst 1, 1, 0, 0), (549, .iadd, 1, 0, 0), (550, .iaload, 1, 0, 0), (551, .aload_n 0, 1, 0, 0), (552, .iload_n 3, 1, 0, 0), (553, .iconst 2, 1, 0, 0), (554, .iadd, 1, 0, 0), (555, .iaload, 1, 0, 0), (556, .invokevirtual 61, 3, 55, 0), (559, .aload_n 2, 1, 0, 0), (560, .aload_n 0, 1, 0, 0), (561, .iload_n 3, 1, 0, 0), (562, .iconst 1, 1, 0, 0), (563, .iadd, 1, 0, 0), (564, .iaload, 1, 0, 0), (565, .aload_n 0, 1, 0, 0), (566, .iload_n 3, 1, 0, 0), (567, .iconst 2, 1, 0, 0), (568, .iadd, 1, 0, 0), (569, .iaload, 1, 0, 0), (570, .invokevirtual 64, 3, 99, 0), (573, .if_icmp .eq 338, 3, 0, 0), (576, .iconst 0, 1, 0, 0), (577, .ireturn, 1, 0, 0), (578, .aload_n 1, 1, 0, 0), (579, .aload_n 0, 1, 0, 0), (580, .iload_n 3, 1, 0, 0), (581, .iconst 1, 1, 0, 0), (582, .iadd, 1, 0, 0), (583, .iaload, 1, 0, 0), (584, .aload_n 0, 1, 0, 0), (585, .iload_n 3, 1, 0, 0), (586, .iconst 2, 1, 0, 0), (587, .iadd, 1, 0, 0), (588, .iaload, 1, 0, 0), (589, .aload_n 0, 1, 0, 0), (590, .iload_n 3, 1, 0, 0), (591, .iconst 3, 1, 0, 0), (592, .iadd, 1, 0, 0), (593, .iaload, 1, 0, 0), (594, .invokevirtual 65, 3, 57, 0), (597, .aload_n 2, 1, 0, 0), (598, .aload_n 0, 1, 0, 0), (599, .iload_n 3, 1, 0, 0), (600, .iconst 1, 1, 0, 0), (601, .iadd, 1, 0, 0), (602, .iaload, 1, 0, 0), (603, .aload_n 0, 1, 0, 0), (604, .iload_n 3, 1, 0, 0), (605, .iconst 2, 1, 0, 0), (606, .iadd, 1, 0, 0), (607, .iaload, 1, 0, 0), (608, .aload_n 0, 1, 0, 0), (609, .iload_n 3, 1, 0, 0), (610, .iconst 3, 1, 0, 0), (611, .iadd, 1, 0, 0), (612, .iaload, 1, 0, 0), (613, .invokevirtual 68, 3, 100, 0), (616, .if_icmp .eq 295, 3, 0, 0), (619, .iconst 0, 1, 0, 0), (620, .ireturn, 1, 0, 0), (621, .aload_n 1, 1, 0, 0), (622, .aload_n 0, 1, 0, 0), (623, .iload_n 3, 1, 0, 0), (624, .iconst 1, 1, 0, 0), (625, .iadd, 1, 0, 0), (626, .iaload, 1, 0, 0), (627, .invokevirtual 69, 3, 59, 0), (630, .aload_n 2, 1, 0, 0), (631, .aload_n 0, 1, 0, 0), (632, .iload_n 3, 1, 0, 0), (633, .iconst 1, 1, 0, 0), (634, .iadd, 1, 0, 0), (635, .iaload, 1, 0, 0), (636, .invokevirtual 72, 3, 103, 0), (639, .if_icmp .eq 272, 3, 0, 0), (642, .iconst 0, 1, 0, 0), (643, .ireturn, 1, 0, 0), (644, .aload_n 1, 1, 0, 0), (645, .aload_n 0, 1, 0, 0), (646, .iload_n 3, 1, 0, 0), (647, .iconst 1, 1, 0, 0), (648, .iadd, 1, 0, 0), (649, .iaload, 1, 0, 0), (650, .aload_n 0, 1, 0, 0), (651, .iload_n 3, 1, 0, 0), (652, .iconst 2, 1, 0, 0), (653, .iadd, 1, 0, 0), (654, .iaload, 1, 0, 0), (655, .aload_n 0, 1, 0, 0), (656, .iload_n 3, 1, 0, 0), (657, .iconst 3, 1, 0, 0), (658, .iadd, 1, 0, 0), (659, .iaload, 1, 0, 0), (660, .ifCond .eq 7, 3, 0, 0), (663, .iconst 1, 1, 0, 0), (664, .goto 4, 3, 0, 0), (667, .iconst 0, 1, 0, 0), (668, .invokevirtual 73, 3, 60, 0), (671, .aload_n 2, 1, 0, 0), (672, .aload_n 0, 1, 0, 0), (673, .iload_n 3, 1, 0, 0), (674, .iconst 1, 1, 0, 0), (675, .iadd, 1, 0, 0), (676, .iaload, 1, 0, 0), (677, .aload_n 0, 1, 0, 0), (678, .iload_n 3, 1, 0, 0), (679, .iconst 2, 1, 0, 0), (680, .iadd, 1, 0, 0), (681, .iaload, 1, 0, 0), (682, .aload_n 0, 1, 0, 0), (683, .iload_n 3, 1, 0, 0), (684, .iconst 3, 1, 0, 0), (685, .iadd, 1, 0, 0), (686, .iaload, 1, 0, 0), (687, .ifCond .eq 7, 3, 0, 0), (690, .iconst 1, 1, 0, 0), (691, .goto 4, 3, 0, 0), (694, .iconst 0, 1, 0, 0), (695, .invokevirtual 77, 3, 106, 0), (698, .if_icmp .eq 213, 3, 0, 0), (701, .iconst 0, 1, 0, 0), (702, .ireturn, 1, 0, 0), (703, .aload_n 1, 1, 0, 0), (704, .aload_n 0, 1, 0, 0), (705, .iload_n 3, 1, 0, 0), (706, .iconst 1, 1, 0, 0), (707, .iadd, 1, 0, 0), (708, .iaload, 1, 0, 0), (709, .aload_n 0, 1, 0, 0), (710, .iload_n 3, 1, 0, 0), (711, .iconst 2, 1, 0, 0), (712, .iadd, 1, 0, 0), (713, .iaload, 1, 0, 0), (714, .invokevirtual 78, 3, 61, 0), (717, .aload_n 2, 1, 0, 0), (718, .aload_n 0, 1, 0, 0), (719, .iload_n 3, 1, 0, 0), (720, .iconst 1, 1, 0, 0), (721, .iadd, 1, 0, 0), (722, .iaload, 1, 0, 0), (723, .aload_n 0, 1, 0, 0), (724, .iload_n 3, 1, 0, 0), (725, .iconst 2, 1, 0, 0), (726, .iadd, 1, 0, 0), (727, .iaload, 1, 0, 0), (728, .invokevirtual 81, 3, 111, 0), (731, .if_icmp .eq 180, 3, 0, 0), (734, .iconst 0, 1, 0, 0), (735, .ireturn, 1, 0, 0), (736, .aload_n 1, 1, 0, 0), (737, .aload_n 0, 1, 0, 0), (738, .iload_n 3, 1, 0, 0), (739, .iconst 1, 1, 0, 0), (740, .iadd, 1, 0, 0), (741, .iaload, 1, 0, 0), (742, .aload_n 0, 1, 0, 0), (743, .iload_n 3, 1, 0, 0), (744, .iconst 2, 1, 0, 0), (745, .iadd, 1, 0, 0), (746, .iaload, 1, 0, 0), (747, .invokevirtual 82, 3, 62, 0), (750, .aload_n 2, 1, 0, 0), (751, .aload_n 0, 1, 0, 0), (752, .iload_n 3, 1, 0, 0), (753, .iconst 1, 1, 0, 0), (754, .iadd, 1, 0, 0), (755, .iaload, 1, 0, 0), (756, .aload_n 0, 1, 0, 0), (757, .iload_n 3, 1, 0, 0), (758, .iconst 2, 1, 0, 0), (759, .iadd, 1, 0, 0), (760, .iaload, 1, 0, 0), (761, .invokevirtual 85, 3, 112, 0), (764, .if_icmp .eq 147, 3, 0, 0), (767, .iconst 0, 1, 0, 0), (768, .ireturn, 1, 0, 0), (769, .aload_n 1, 1, 0, 0), (770, .aload_n 0, 1, 0, 0), (771, .iload_n 3, 1, 0, 0), (772, .iconst 1, 1, 0, 0), (773, .iadd, 1, 0, 0), (774, .iaload, 1, 0, 0), (775, .aload_n 0, 1, 0, 0), (776, .iload_n 3, 1, 0, 0), (777, .iconst 2, 1, 0, 0), (778, .iadd, 1, 0, 0), (779, .iaload, 1, 0, 0), (780, .invokevirtual 86, 3, 63, 0), (783, .aload_n 2, 1, 0, 0), (784, .aload_n 0, 1, 0, 0), (785, .iload_n 3, 1, 0, 0), (786, .iconst 1, 1, 0, 0), (787, .iadd, 1, 0, 0), (788, .iaload, 1, 0, 0), (789, .aload_n 0, 1, 0, 0), (790, .iload_n 3, 1, 0, 0), (791, .iconst 2, 1, 0, 0), (792, .iadd, 1, 0, 0), (793, .iaload, 1, 0, 0), (794, .invokevirtual 89, 3, 114, 0), (797, .if_icmp .eq 114, 3, 0, 0), (800, .iconst 0, 1, 0, 0), (801, .ireturn, 1, 0, 0), (802, .aload_n 1, 1, 0, 0), (803, .aload_n 0, 1, 0, 0), (804, .iload_n 3, 1, 0, 0), (805, .iconst 1, 1, 0, 0), (806, .iadd, 1, 0, 0), (807, .iaload, 1, 0, 0), (808, .aload_n 0, 1, 0, 0), (809, .iload_n 3, 1, 0, 0), (810, .iconst 2, 1, 0, 0), (811, .iadd, 1, 0, 0), (812, .iaload, 1, 0, 0), (813, .aload_n 0, 1, 0, 0), (814, .iload_n 3, 1, 0, 0), (815, .iconst 3, 1, 0, 0), (816, .iadd, 1, 0, 0), (817, .iaload, 1, 0, 0), (818, .invokevirtual 90, 3, 64, 0), (821, .aload_n 2, 1, 0, 0), (822, .aload_n 0, 1, 0, 0), (823, .iload_n 3, 1, 0, 0), (824, .iconst 1, 1, 0, 0), (825, .iadd, 1, 0, 0), (826, .iaload, 1, 0, 0), (827, .aload_n 0, 1, 0, 0), (828, .iload_n 3, 1, 0, 0), (829, .iconst 2, 1, 0, 0), (830, .iadd, 1, 0, 0), (831, .iaload, 1, 0, 0), (832, .aload_n 0, 1, 0, 0), (833, .iload_n 3, 1, 0, 0), (834, .iconst 3, 1, 0, 0), (835, .iadd, 1, 0, 0), (836, .iaload, 1, 0, 0), (837, .invokevirtual 93, 3, 115, 0), (840, .if_icmp .eq 71, 3, 0, 0), (843, .iconst 0, 1, 0, 0), (844, .ireturn, 1, 0, 0), (845, .aload_n 1, 1, 0, 0), (846, .aload_n 0, 1, 0, 0), (847, .iload_n 3, 1, 0, 0), (848, .iconst 1, 1, 0, 0), (849, .iadd, 1, 0, 0), (850, .iaload, 1, 0, 0), (851, .aload_n 0, 1, 0, 0), (852, .iload_n 3, 1, 0, 0), (853, .iconst 2, 1, 0, 0), (854, .iadd, 1, 0, 0), (855, .iaload, 1, 0, 0), (856, .aload_n 0, 1, 0, 0), (857, .iload_n 3, 1, 0, 0), (858, .iconst 3, 1, 0, 0), (859, .iadd, 1, 0, 0), (860, .iaload, 1, 0, 0), (861, .invokevirtual 94, 3, 65, 0), (864, .aload_n 2, 1, 0, 0), (865, .aload_n 0, 1, 0, 0), (866, .iload_n 3, 1, 0, 0), (867, .iconst 1, 1, 0, 0), (868, .iadd, 1, 0, 0), (869, .iaload, 1, 0, 0), (870, .aload_n 0, 1, 0, 0), (871, .iload_n 3, 1, 0, 0), (872, .iconst 2, 1, 0, 0), (873, .iadd, 1, 0, 0), (874, .iaload, 1, 0, 0), (875, .aload_n 0, 1, 0, 0), (876, .iload_n 3, 1, 0, 0), (877, .iconst 3, 1, 0, 0), (878, .iadd, 1, 0, 0), (879, .iaload, 1, 0, 0), (880, .invokevirtual 97, 3, 116, 0), (883, .if_icmp .eq 28, 3, 0, 0), (886, .iconst 0, 1, 0, 0), (887, .ireturn, 1, 0, 0), (888, .aload_n 1, 1, 0, 0), (889, .aload_n 0, 1, 0, 0), (890, .iload_n 3, 1, 0, 0), (891, .iconst 1, 1, 0, 0), (892, .iadd, 1, 0, 0), (893, .iaload, 1, 0, 0), (894, .invokevirtual 98, 3, 66, 0), (897, .aload_n 2, 1, 0, 0), (898, .aload_n 0, 1, 0, 0), (899, .iload_n 3, 1, 0, 0), (900, .iconst 1, 1, 0, 0), (901, .iadd, 1, 0, 0), (902, .iaload, 1, 0, 0), (903, .invokevirtual 101, 3, 117, 0), (906, .if_icmp .eq 5, 3, 0, 0), (909, .iconst 0, 1, 0, 0), (910, .ireturn, 1, 0, 0), (911, .iinc 3 5, 3, 0, 0), (914, .goto (-896), 3, 0, 0), (917, .iconst 1, 1, 0, 0), (918, .ireturn, 1, 0, 0)]
def xm_ms0 : List xm_Me := [(⟨"LatinLaws$Table", "<init>", "()V"⟩, prog_9_method_1_code, 1, none, 2, 0, xm_r0),
  (⟨"LatinLaws$Table", "restart", "(I)V"⟩, prog_9_method_2_code, 3, none, 1, 1, xm_r1),
  (⟨"LatinLaws$Table", "put", "(III)V"⟩, prog_9_method_5_code, 4, none, 1, 3, xm_r2),
  (⟨"LatinLaws$Table", "hasInLines", "(III)Z"⟩, prog_9_method_6_code, 5, (some .boolean), 1, 3, xm_r3),
  (⟨"LatinLaws$Table", "times", "(II)I"⟩, prog_9_method_4_code, 3, (some .int), 1, 2, xm_r4),
  (⟨"LatinLaws$Table", "countEmpty", "()I"⟩, prog_9_method_7_code, 4, (some .int), 1, 0, xm_r5),
  (⟨"LatinLaws$Table", "takeOver", "(LLatinLaws$Table;)V"⟩, prog_9_method_3_code, 2, none, 1, 1, xm_r6),
  (⟨"LatinLaws$Table", "isFull", "()Z"⟩, prog_9_method_8_code, 1, (some .boolean), 1, 0, xm_r7),
  (⟨"LatinLaws$Table", "under", "(II)I"⟩, prog_9_method_9_code, 4, (some .int), 1, 2, xm_r8),
  (⟨"LatinLaws$Table", "over", "(II)I"⟩, prog_9_method_10_code, 4, (some .int), 1, 2, xm_r9),
  (⟨"LatinLaws$Endings", "<init>", "()V"⟩, prog_2_method_1_code, 1, none, 2, 0, xm_r10),
  (⟨"LatinLaws$Endings", "count", "(LLatinLaws$Table;I)I"⟩, prog_2_method_2_code, 3, (some .int), 1, 2, xm_r11),
  (⟨"LatinLaws$Endings", "lookOver", "()V"⟩, prog_2_method_3_code, 4, none, 1, 0, xm_r12),
  (⟨"LatinLaws$Endings", "fill", "(I)V"⟩, prog_2_method_4_code, 7, none, 1, 1, xm_r13),
  (⟨"LatinLaws$Endings", "keepFound", "()V"⟩, prog_2_method_5_code, 1, none, 1, 0, xm_r14),
  (⟨"LatinLaws$Turns", "<init>", "()V"⟩, prog_10_method_1_code, 1, none, 2, 0, xm_r15),
  (⟨"LatinLaws$Turns", "count", "(LLatinLaws$Table;)I"⟩, prog_10_method_2_code, 2, (some .int), 1, 1, xm_r16),
  (⟨"LatinLaws$Turns", "takeTurns", "(LLatinLaws$Table;)V"⟩, prog_10_method_3_code, 4, none, 1, 1, xm_r17),
  (⟨"LatinLaws$Turns", "take", "()V"⟩, prog_10_method_6_code, 3, none, 1, 0, xm_r18),
  (⟨"LatinLaws$Turns", "keep", "(II)V"⟩, prog_10_method_7_code, 5, none, 1, 2, xm_r19)]
def xm_ms1 : List xm_Me := [(⟨"LatinLaws$Turns", "write", "([IIII)V"⟩, prog_10_method_10_code, 5, none, 0, 4, xm_r20),
  (⟨"LatinLaws$Turns", "undo", "(I)V"⟩, prog_10_method_8_code, 3, none, 1, 1, xm_r21),
  (⟨"LatinLaws$Turns", "read", "([III)I"⟩, prog_10_method_9_code, 4, (some .int), 0, 3, xm_r22),
  (⟨"LatinLaws$Turns", "takeProducts", "()V"⟩, prog_10_method_4_code, 3, none, 1, 0, xm_r23),
  (⟨"LatinLaws$Turns", "takeProduct", "(II)V"⟩, prog_10_method_5_code, 4, none, 1, 2, xm_r24),
  (⟨"LatinLaws$Turns", "countChoices", "()I"⟩, prog_10_method_11_code, 3, (some .int), 1, 0, xm_r25),
  (⟨"LatinLaws$Renamings", "<init>", "()V"⟩, prog_7_method_1_code, 1, none, 2, 0, xm_r26),
  (⟨"LatinLaws$Renamings", "areAlikeByThree", "(LLatinLaws$Table;LLatinLaws$Table;LLatinLaws$Table;)Z"⟩, prog_7_method_3_code, 6, (some .boolean), 1, 3, xm_r27),
  (⟨"LatinLaws$Renamings", "buildOther", "(LLatinLaws$Table;IILLatinLaws$Table;)V"⟩, prog_7_method_4_code, 9, none, 0, 4, xm_r28),
  (⟨"LatinLaws$Renamings", "swap", "(II)I"⟩, prog_7_method_5_code, 2, (some .int), 0, 2, xm_r29),
  (⟨"LatinLaws$Renamings", "areAlike", "(LLatinLaws$Table;LLatinLaws$Table;)Z"⟩, prog_7_method_2_code, 3, (some .boolean), 1, 2, xm_r30),
  (⟨"LatinLaws$Renamings", "match", "(LLatinLaws$Table;LLatinLaws$Table;II)Z"⟩, prog_7_method_6_code, 7, (some .boolean), 1, 4, xm_r31),
  (⟨"LatinLaws$Renamings", "agrees", "(LLatinLaws$Table;LLatinLaws$Table;II)Z"⟩, prog_7_method_7_code, 10, (some .boolean), 1, 4, xm_r32),
  (⟨"LatinLaws$Renamings", "findLeast", "(LLatinLaws$Table;)I"⟩, prog_7_method_8_code, 2, (some .int), 1, 1, xm_r33),
  (⟨"LatinLaws$Renamings", "giveNames", "(LLatinLaws$Table;I)V"⟩, prog_7_method_9_code, 4, none, 1, 2, xm_r34),
  (⟨"LatinLaws$Renamings", "keepRenamed", "(LLatinLaws$Table;)V"⟩, prog_7_method_12_code, 4, none, 1, 1, xm_r35),
  (⟨"LatinLaws$Renamings", "compare", "(LLatinLaws$Table;I)I"⟩, prog_7_method_10_code, 7, (some .int), 1, 2, xm_r36),
  (⟨"LatinLaws$Renamings", "renamed", "(LLatinLaws$Table;II)I"⟩, prog_7_method_11_code, 5, (some .int), 1, 3, xm_r37),
  (⟨"LatinLaws", "<init>", "()V"⟩, prog_1_method_1_code, 2, none, 2, 0, xm_r38),
  (⟨"LatinLaws", "table", "(II)I"⟩, prog_1_method_2_code, 3, (some .int), 1, 2, xm_r39)]
def xm_ms2 : List xm_Me := [(⟨"LatinLaws", "isTable", "(I)Z"⟩, prog_1_method_24_code, 1, (some .boolean), 0, 1, xm_r40),
  (⟨"LatinLaws", "isBelow", "(II)Z"⟩, prog_1_method_23_code, 2, (some .boolean), 0, 2, xm_r41),
  (⟨"LatinLaws", "set", "(IIII)I"⟩, prog_1_method_3_code, 6, (some .int), 1, 4, xm_r42),
  (⟨"LatinLaws", "isElement", "(II)Z"⟩, prog_1_method_25_code, 3, (some .boolean), 1, 2, xm_r43),
  (⟨"LatinLaws", "orNone", "(I)I"⟩, prog_1_method_27_code, 1, (some .int), 0, 1, xm_r44),
  (⟨"LatinLaws", "at", "(III)I"⟩, prog_1_method_4_code, 4, (some .int), 1, 3, xm_r45),
  (⟨"LatinLaws", "empty", "(I)I"⟩, prog_1_method_5_code, 2, (some .int), 1, 1, xm_r46),
  (⟨"LatinLaws", "ways", "(II)I"⟩, prog_1_method_6_code, 3, (some .int), 1, 2, xm_r47),
  (⟨"LatinLaws", "end", "(II)I"⟩, prog_1_method_7_code, 3, (some .int), 1, 2, xm_r48),
  (⟨"LatinLaws", "divide", "(IIII)I"⟩, prog_1_method_8_code, 5, (some .int), 1, 4, xm_r49),
  (⟨"LatinLaws", "law", "(III)I"⟩, prog_1_method_9_code, 4, (some .int), 1, 3, xm_r50),
  (⟨"LatinLaws", "joining", "(II)I"⟩, prog_1_method_10_code, 3, (some .int), 1, 2, xm_r51),
  (⟨"LatinLaws", "made", "(II)I"⟩, prog_1_method_11_code, 3, (some .int), 1, 2, xm_r52),
  (⟨"LatinLaws", "isSet", "(II)Z"⟩, prog_1_method_26_code, 3, (some .boolean), 1, 2, xm_r53),
  (⟨"LatinLaws", "parts", "(II)I"⟩, prog_1_method_12_code, 3, (some .int), 1, 2, xm_r54),
  (⟨"LatinLaws", "normal", "(II)I"⟩, prog_1_method_13_code, 4, (some .int), 1, 2, xm_r55),
  (⟨"LatinLaws", "faultOfPart", "(II)I"⟩, prog_1_method_28_code, 3, (some .int), 1, 2, xm_r56),
  (⟨"LatinLaws", "left", "(III)I"⟩, prog_1_method_14_code, 5, (some .int), 1, 3, xm_r57),
  (⟨"LatinLaws", "keepBuilt", "(I)I"⟩, prog_1_method_29_code, 2, (some .int), 1, 1, xm_r58),
  (⟨"LatinLaws", "group", "(I)I"⟩, prog_1_method_15_code, 2, (some .int), 1, 1, xm_r59)]
def xm_ms3 : List xm_Me := [(⟨"LatinLaws", "alike", "(IIZ)I"⟩, prog_1_method_16_code, 7, (some .int), 1, 3, xm_r60),
  (⟨"LatinLaws", "name", "(II)I"⟩, prog_1_method_17_code, 4, (some .int), 1, 2, xm_r61),
  (⟨"LatinLaws", "square", "(II)I"⟩, prog_1_method_18_code, 3, (some .int), 1, 2, xm_r62),
  (⟨"LatinLaws", "turn", "(II)I"⟩, prog_1_method_19_code, 4, (some .int), 1, 2, xm_r63),
  (⟨"LatinLaws", "doubled", "(III)I"⟩, prog_1_method_20_code, 4, (some .int), 1, 3, xm_r64),
  (⟨"LatinLaws", "product", "(III)I"⟩, prog_1_method_21_code, 4, (some .int), 1, 3, xm_r65),
  (⟨"LatinLaws", "size", "(I)I"⟩, prog_1_method_22_code, 2, (some .int), 1, 1, xm_r66),
  (⟨"LatinLawsModel", "<init>", "()V"⟩, prog_12_method_1_code, 2, none, 2, 0, xm_r67),
  (⟨"LatinLawsModel", "table", "(II)I"⟩, prog_12_method_6_code, 5, (some .int), 1, 2, xm_r68),
  (⟨"LatinLawsModel", "isTable", "(I)Z"⟩, prog_12_method_3_code, 1, (some .boolean), 0, 1, xm_r69),
  (⟨"LatinLawsModel", "in", "(III)Z"⟩, prog_12_method_2_code, 3, (some .boolean), 0, 3, xm_r70),
  (⟨"LatinLawsModel", "puts", "(IIII)V"⟩, prog_12_method_5_code, 5, none, 1, 4, xm_r71),
  (⟨"LatinLawsModel", "set", "(IIII)I"⟩, prog_12_method_9_code, 6, (some .int), 1, 4, xm_r72),
  (⟨"LatinLawsModel", "stands", "(IIII)Z"⟩, prog_12_method_8_code, 7, (some .boolean), 1, 4, xm_r73),
  (⟨"LatinLawsModel", "cell", "(III)I"⟩, prog_12_method_4_code, 4, (some .int), 1, 3, xm_r74),
  (⟨"LatinLawsModel", "at", "(III)I"⟩, prog_12_method_10_code, 4, (some .int), 1, 3, xm_r75),
  (⟨"LatinLawsModel", "isElement", "(II)Z"⟩, prog_12_method_7_code, 3, (some .boolean), 1, 2, xm_r76),
  (⟨"LatinLawsModel", "empty", "(I)I"⟩, prog_12_method_12_code, 2, (some .int), 1, 1, xm_r77),
  (⟨"LatinLawsModel", "empties", "(I)I"⟩, prog_12_method_11_code, 5, (some .int), 1, 1, xm_r78),
  (⟨"LatinLawsModel", "ways", "(II)I"⟩, prog_12_method_16_code, 3, (some .int), 1, 2, xm_r79)]
def xm_ms4 : List xm_Me := [(⟨"LatinLawsModel", "ends", "(II)I"⟩, prog_12_method_15_code, 8, (some .int), 1, 2, xm_r80),
  (⟨"LatinLawsModel", "copies", "(II)V"⟩, prog_12_method_14_code, 4, none, 1, 2, xm_r81),
  (⟨"LatinLawsModel", "end", "(II)I"⟩, prog_12_method_17_code, 4, (some .int), 1, 2, xm_r82),
  (⟨"LatinLawsModel", "divide", "(IIII)I"⟩, prog_12_method_20_code, 5, (some .int), 1, 4, xm_r83),
  (⟨"LatinLawsModel", "isFull", "(I)Z"⟩, prog_12_method_13_code, 2, (some .boolean), 1, 1, xm_r84),
  (⟨"LatinLawsModel", "behind", "(III)I"⟩, prog_12_method_18_code, 5, (some .int), 1, 3, xm_r85),
  (⟨"LatinLawsModel", "ahead", "(III)I"⟩, prog_12_method_19_code, 5, (some .int), 1, 3, xm_r86),
  (⟨"LatinLawsModel", "law", "(III)I"⟩, prog_12_method_23_code, 10, (some .int), 1, 3, xm_r87),
  (⟨"LatinLawsModel", "letters", "(I)I"⟩, prog_12_method_22_code, 1, (some .int), 0, 1, xm_r88),
  (⟨"LatinLawsModel", "holds", "(IIIII)Z"⟩, prog_12_method_21_code, 9, (some .boolean), 1, 5, xm_r89),
  (⟨"LatinLawsModel", "joining", "(II)I"⟩, prog_12_method_25_code, 6, (some .int), 1, 2, xm_r90),
  (⟨"LatinLawsModel", "isJoining", "(III)Z"⟩, prog_12_method_24_code, 8, (some .boolean), 1, 3, xm_r91),
  (⟨"LatinLawsModel", "made", "(II)I"⟩, prog_12_method_29_code, 3, (some .int), 1, 2, xm_r92),
  (⟨"LatinLawsModel", "isSet", "(II)Z"⟩, prog_12_method_28_code, 3, (some .boolean), 1, 2, xm_r93),
  (⟨"LatinLawsModel", "closed", "(II)I"⟩, prog_12_method_27_code, 7, (some .int), 1, 2, xm_r94),
  (⟨"LatinLawsModel", "has", "(II)Z"⟩, prog_12_method_26_code, 2, (some .boolean), 0, 2, xm_r95),
  (⟨"LatinLawsModel", "parts", "(II)I"⟩, prog_12_method_32_code, 5, (some .int), 1, 2, xm_r96),
  (⟨"LatinLawsModel", "isNormal", "(II)Z"⟩, prog_12_method_31_code, 7, (some .boolean), 1, 2, xm_r97),
  (⟨"LatinLawsModel", "times", "(IIIZ)I"⟩, prog_12_method_30_code, 7, (some .int), 1, 4, xm_r98),
  (⟨"LatinLawsModel", "normal", "(II)I"⟩, prog_12_method_33_code, 3, (some .int), 1, 2, xm_r99)]
def xm_ms5 : List xm_Me := [(⟨"LatinLawsModel", "left", "(III)I"⟩, prog_12_method_34_code, 7, (some .int), 1, 3, xm_r100),
  (⟨"LatinLawsModel", "named", "(III)I"⟩, prog_12_method_36_code, 7, (some .int), 1, 3, xm_r101),
  (⟨"LatinLawsModel", "lowest", "(I)I"⟩, prog_12_method_35_code, 2, (some .int), 0, 1, xm_r102),
  (⟨"LatinLawsModel", "group", "(I)I"⟩, prog_12_method_39_code, 7, (some .int), 1, 1, xm_r103),
  (⟨"LatinLawsModel", "joins", "(II)I"⟩, prog_12_method_38_code, 4, (some .int), 1, 2, xm_r104),
  (⟨"LatinLawsModel", "rank", "(I)I"⟩, prog_12_method_37_code, 6, (some .int), 1, 1, xm_r105),
  (⟨"LatinLawsModel", "alike", "(IIZ)I"⟩, prog_12_method_44_code, 9, (some .int), 1, 3, xm_r106),
  (⟨"LatinLawsModel", "isAlike", "(III)Z"⟩, prog_12_method_43_code, 5, (some .boolean), 1, 3, xm_r107),
  (⟨"LatinLawsModel", "factorial", "(I)I"⟩, prog_12_method_41_code, 3, (some .int), 0, 1, xm_r108),
  (⟨"LatinLawsModel", "renames", "(III)V"⟩, prog_12_method_40_code, 10, none, 1, 3, xm_r109),
  (⟨"LatinLawsModel", "against", "(II)I"⟩, prog_12_method_42_code, 7, (some .int), 1, 2, xm_r110),
  (⟨"LatinLawsModel", "name", "(II)I"⟩, prog_12_method_45_code, 5, (some .int), 1, 2, xm_r111),
  (⟨"LatinLawsModel", "square", "(II)I"⟩, prog_12_method_47_code, 3, (some .int), 1, 2, xm_r112),
  (⟨"LatinLawsModel", "squares", "(II)I"⟩, prog_12_method_46_code, 9, (some .int), 1, 2, xm_r113),
  (⟨"LatinLawsModel", "turn", "(II)I"⟩, prog_12_method_48_code, 10, (some .int), 1, 2, xm_r114),
  (⟨"LatinLawsModel", "doubled", "(III)I"⟩, prog_12_method_49_code, 10, (some .int), 1, 3, xm_r115),
  (⟨"LatinLawsModel", "product", "(III)I"⟩, prog_12_method_50_code, 8, (some .int), 1, 3, xm_r116),
  (⟨"LatinLawsModel", "size", "(I)I"⟩, prog_12_method_51_code, 2, (some .int), 1, 1, xm_r117),
  (⟨"LatinLaws$Joining", "all", "(LLatinLaws$Table;I)I"⟩, prog_3_method_2_code, 4, (some .int), 0, 2, xm_r118),
  (⟨"LatinLaws$Joining", "isInMidst", "(LLatinLaws$Table;I)Z"⟩, prog_3_method_3_code, 3, (some .boolean), 0, 2, xm_r119)]
def xm_ms6 : List xm_Me := [(⟨"LatinLaws$Joining", "isIn", "(LLatinLaws$Table;II)Z"⟩, prog_3_method_4_code, 5, (some .boolean), 0, 3, xm_r120),
  (⟨"LatinLaws$Joining", "holds", "(LLatinLaws$Table;IIII)Z"⟩, prog_3_method_5_code, 5, (some .boolean), 0, 5, xm_r121),
  (⟨"LatinLaws$Joining", "joins", "(LLatinLaws$Table;III)Z"⟩, prog_3_method_6_code, 4, (some .boolean), 0, 4, xm_r122),
  (⟨"LatinLaws$Larger", "buildDoubled", "(LLatinLaws$Table;ILLatinLaws$Table;)V"⟩, prog_4_method_2_code, 8, none, 0, 3, xm_r123),
  (⟨"LatinLaws$Larger", "signOf", "(III)I"⟩, prog_4_method_3_code, 3, (some .int), 0, 3, xm_r124),
  (⟨"LatinLaws$Larger", "buildProduct", "(LLatinLaws$Table;LLatinLaws$Table;LLatinLaws$Table;)V"⟩, prog_4_method_4_code, 8, none, 0, 3, xm_r125),
  (⟨"LatinLaws$Laws", "firstBroken", "(LLatinLaws$Table;I)I"⟩, prog_5_method_2_code, 2, (some .int), 0, 2, xm_r126),
  (⟨"LatinLaws$Laws", "look", "(LLatinLaws$Table;IZ)I"⟩, prog_5_method_4_code, 11, (some .int), 0, 3, xm_r127),
  (⟨"LatinLaws$Laws", "countLetters", "(I)I"⟩, prog_5_method_5_code, 1, (some .int), 0, 1, xm_r128),
  (⟨"LatinLaws$Laws", "holds", "(LLatinLaws$Table;IIII)Z"⟩, prog_5_method_6_code, 5, (some .boolean), 0, 5, xm_r129),
  (⟨"LatinLaws$Laws", "holdsForTwo", "(LLatinLaws$Table;III)Z"⟩, prog_5_method_7_code, 7, (some .boolean), 0, 4, xm_r130),
  (⟨"LatinLaws$Laws", "holdsForThree", "(LLatinLaws$Table;IIII)Z"⟩, prog_5_method_8_code, 8, (some .boolean), 0, 5, xm_r131),
  (⟨"LatinLaws$Laws", "countBroken", "(LLatinLaws$Table;I)I"⟩, prog_5_method_3_code, 2, (some .int), 0, 2, xm_r132),
  (⟨"LatinLaws$Parts", "leastWith", "(LLatinLaws$Table;I)I"⟩, prog_6_method_3_code, 4, (some .int), 0, 2, xm_r133),
  (⟨"LatinLaws$Parts", "withProducts", "(LLatinLaws$Table;I)I"⟩, prog_6_method_4_code, 4, (some .int), 0, 2, xm_r134),
  (⟨"LatinLaws$Parts", "has", "(II)Z"⟩, prog_6_method_10_code, 2, (some .boolean), 0, 2, xm_r135),
  (⟨"LatinLaws$Parts", "fromLeft", "(LLatinLaws$Table;II)I"⟩, prog_6_method_11_code, 5, (some .int), 0, 3, xm_r136),
  (⟨"LatinLaws$Parts", "count", "(LLatinLaws$Table;Z)I"⟩, prog_6_method_5_code, 4, (some .int), 0, 2, xm_r137),
  (⟨"LatinLaws$Parts", "isPart", "(LLatinLaws$Table;I)Z"⟩, prog_6_method_2_code, 2, (some .boolean), 0, 2, xm_r138),
  (⟨"LatinLaws$Parts", "isNormal", "(LLatinLaws$Table;I)Z"⟩, prog_6_method_6_code, 5, (some .boolean), 0, 2, xm_r139)]
def xm_ms7 : List xm_Me := [(⟨"LatinLaws$Parts", "fromRight", "(LLatinLaws$Table;II)I"⟩, prog_6_method_12_code, 5, (some .int), 0, 3, xm_r140),
  (⟨"LatinLaws$Parts", "buildLeft", "(LLatinLaws$Table;ILLatinLaws$Table;)V"⟩, prog_6_method_7_code, 7, none, 0, 3, xm_r141),
  (⟨"LatinLaws$Parts", "leastBeside", "(LLatinLaws$Table;II)I"⟩, prog_6_method_8_code, 5, (some .int), 0, 3, xm_r142),
  (⟨"LatinLaws$Parts", "place", "(II)I"⟩, prog_6_method_9_code, 2, (some .int), 0, 2, xm_r143),
  (⟨"LatinLaws$Squares", "count", "(LLatinLaws$Table;)I"⟩, prog_8_method_2_code, 4, (some .int), 0, 1, xm_r144),
  (⟨"LatinLaws$Squares", "countInRows", "(LLatinLaws$Table;II)I"⟩, prog_8_method_4_code, 6, (some .int), 0, 3, xm_r145),
  (⟨"LatinLaws$Squares", "isSquare", "(LLatinLaws$Table;IIII)Z"⟩, prog_8_method_6_code, 5, (some .boolean), 0, 5, xm_r146),
  (⟨"LatinLaws$Squares", "find", "(LLatinLaws$Table;I)I"⟩, prog_8_method_3_code, 6, (some .int), 0, 2, xm_r147),
  (⟨"LatinLaws$Squares", "findColumns", "(LLatinLaws$Table;III)I"⟩, prog_8_method_5_code, 7, (some .int), 0, 4, xm_r148),
  (⟨"LatinLaws$Squares", "change", "(LLatinLaws$Table;I)V"⟩, prog_8_method_7_code, 8, none, 0, 2, xm_r149),
  (⟨"java/lang/Integer", "bitCount", "(I)I"⟩, prog_13_method_49_code, 1, (some .int), 0, 1, xm_r150),
  (⟨"java/lang/Math", "min", "(II)I"⟩, prog_14_method_69_code, 2, (some .int), 0, 2, xm_r151),
  (⟨"java/lang/Math", "max", "(II)I"⟩, prog_14_method_65_code, 2, (some .int), 0, 2, xm_r152),
  (⟨"java/util/Arrays", "fill", "([II)V"⟩, prog_16_method_103_code, 4, none, 0, 2, xm_r153),
  (⟨"LatinLawsLaw", "law", "([I)Z"⟩, code, 4, (some .boolean), 0, 1, xm_r154)]
def xm_at (y : Nat) : xm_Me := match y / 20 with
  | 0 => xm_ms0.getD (y % 20) (⟨"", "", ""⟩, ⟨#[]⟩, 0, none, 0, 0, [])
  | 1 => xm_ms1.getD (y % 20) (⟨"", "", ""⟩, ⟨#[]⟩, 0, none, 0, 0, [])
  | 2 => xm_ms2.getD (y % 20) (⟨"", "", ""⟩, ⟨#[]⟩, 0, none, 0, 0, [])
  | 3 => xm_ms3.getD (y % 20) (⟨"", "", ""⟩, ⟨#[]⟩, 0, none, 0, 0, [])
  | 4 => xm_ms4.getD (y % 20) (⟨"", "", ""⟩, ⟨#[]⟩, 0, none, 0, 0, [])
  | 5 => xm_ms5.getD (y % 20) (⟨"", "", ""⟩, ⟨#[]⟩, 0, none, 0, 0, [])
  | 6 => xm_ms6.getD (y % 20) (⟨"", "", ""⟩, ⟨#[]⟩, 0, none, 0, 0, [])
  | _ => xm_ms7.getD (y % 20) (⟨"", "", ""⟩, ⟨#[]⟩, 0, none, 0, 0, [])
abbrev xi_Table_init : Nat := 0
abbrev xi_Table_restart : Nat := 1
abbrev xi_Table_put : Nat := 2
abbrev xi_Table_hasInLines : Nat := 3
abbrev xi_Table_times : Nat := 4
abbrev xi_Table_countEmpty : Nat := 5
abbrev xi_Table_takeOver : Nat := 6
abbrev xi_Table_isFull : Nat := 7
abbrev xi_Table_under : Nat := 8
abbrev xi_Table_over : Nat := 9
abbrev xi_Endings_init : Nat := 10
abbrev xi_Endings_count : Nat := 11
abbrev xi_Endings_lookOver : Nat := 12
abbrev xi_Endings_fill : Nat := 13
abbrev xi_Endings_keepFound : Nat := 14
abbrev xi_Turns_init : Nat := 15
abbrev xi_Turns_count : Nat := 16
abbrev xi_Turns_takeTurns : Nat := 17
abbrev xi_Turns_take : Nat := 18
abbrev xi_Turns_keep : Nat := 19
abbrev xi_Turns_write : Nat := 20
abbrev xi_Turns_undo : Nat := 21
abbrev xi_Turns_read : Nat := 22
abbrev xi_Turns_takeProducts : Nat := 23
abbrev xi_Turns_takeProduct : Nat := 24
abbrev xi_Turns_countChoices : Nat := 25
abbrev xi_Renamings_init : Nat := 26
abbrev xi_Renamings_areAlikeByThree : Nat := 27
abbrev xi_Renamings_buildOther : Nat := 28
abbrev xi_Renamings_swap : Nat := 29
abbrev xi_Renamings_areAlike : Nat := 30
abbrev xi_Renamings_match : Nat := 31
abbrev xi_Renamings_agrees : Nat := 32
abbrev xi_Renamings_findLeast : Nat := 33
abbrev xi_Renamings_giveNames : Nat := 34
abbrev xi_Renamings_keepRenamed : Nat := 35
abbrev xi_Renamings_compare : Nat := 36
abbrev xi_Renamings_renamed : Nat := 37
abbrev xi_L_init : Nat := 38
abbrev xi_L_table : Nat := 39
abbrev xi_L_isTable : Nat := 40
abbrev xi_L_isBelow : Nat := 41
abbrev xi_L_set : Nat := 42
abbrev xi_L_isElement : Nat := 43
abbrev xi_L_orNone : Nat := 44
abbrev xi_L_at : Nat := 45
abbrev xi_L_empty : Nat := 46
abbrev xi_L_ways : Nat := 47
abbrev xi_L_end : Nat := 48
abbrev xi_L_divide : Nat := 49
abbrev xi_L_law : Nat := 50
abbrev xi_L_joining : Nat := 51
abbrev xi_L_made : Nat := 52
abbrev xi_L_isSet : Nat := 53
abbrev xi_L_parts : Nat := 54
abbrev xi_L_normal : Nat := 55
abbrev xi_L_faultOfPart : Nat := 56
abbrev xi_L_left : Nat := 57
abbrev xi_L_keepBuilt : Nat := 58
abbrev xi_L_group : Nat := 59
abbrev xi_L_alike : Nat := 60
abbrev xi_L_name : Nat := 61
abbrev xi_L_square : Nat := 62
abbrev xi_L_turn : Nat := 63
abbrev xi_L_doubled : Nat := 64
abbrev xi_L_product : Nat := 65
abbrev xi_L_size : Nat := 66
abbrev xi_M_init : Nat := 67
abbrev xi_M_table : Nat := 68
abbrev xi_M_isTable : Nat := 69
abbrev xi_M_in : Nat := 70
abbrev xi_M_puts : Nat := 71
abbrev xi_M_set : Nat := 72
abbrev xi_M_stands : Nat := 73
abbrev xi_M_cell : Nat := 74
abbrev xi_M_at : Nat := 75
abbrev xi_M_isElement : Nat := 76
abbrev xi_M_empty : Nat := 77
abbrev xi_M_empties : Nat := 78
abbrev xi_M_ways : Nat := 79
abbrev xi_M_ends : Nat := 80
abbrev xi_M_copies : Nat := 81
abbrev xi_M_end : Nat := 82
abbrev xi_M_divide : Nat := 83
abbrev xi_M_isFull : Nat := 84
abbrev xi_M_behind : Nat := 85
abbrev xi_M_ahead : Nat := 86
abbrev xi_M_law : Nat := 87
abbrev xi_M_letters : Nat := 88
abbrev xi_M_holds : Nat := 89
abbrev xi_M_joining : Nat := 90
abbrev xi_M_isJoining : Nat := 91
abbrev xi_M_made : Nat := 92
abbrev xi_M_isSet : Nat := 93
abbrev xi_M_closed : Nat := 94
abbrev xi_M_has : Nat := 95
abbrev xi_M_parts : Nat := 96
abbrev xi_M_isNormal : Nat := 97
abbrev xi_M_times : Nat := 98
abbrev xi_M_normal : Nat := 99
abbrev xi_M_left : Nat := 100
abbrev xi_M_named : Nat := 101
abbrev xi_M_lowest : Nat := 102
abbrev xi_M_group : Nat := 103
abbrev xi_M_joins : Nat := 104
abbrev xi_M_rank : Nat := 105
abbrev xi_M_alike : Nat := 106
abbrev xi_M_isAlike : Nat := 107
abbrev xi_M_factorial : Nat := 108
abbrev xi_M_renames : Nat := 109
abbrev xi_M_against : Nat := 110
abbrev xi_M_name : Nat := 111
abbrev xi_M_square : Nat := 112
abbrev xi_M_squares : Nat := 113
abbrev xi_M_turn : Nat := 114
abbrev xi_M_doubled : Nat := 115
abbrev xi_M_product : Nat := 116
abbrev xi_M_size : Nat := 117
abbrev xi_Joining_all : Nat := 118
abbrev xi_Joining_isInMidst : Nat := 119
abbrev xi_Joining_isIn : Nat := 120
abbrev xi_Joining_holds : Nat := 121
abbrev xi_Joining_joins : Nat := 122
abbrev xi_Larger_buildDoubled : Nat := 123
abbrev xi_Larger_signOf : Nat := 124
abbrev xi_Larger_buildProduct : Nat := 125
abbrev xi_Laws_firstBroken : Nat := 126
abbrev xi_Laws_look : Nat := 127
abbrev xi_Laws_countLetters : Nat := 128
abbrev xi_Laws_holds : Nat := 129
abbrev xi_Laws_holdsForTwo : Nat := 130
abbrev xi_Laws_holdsForThree : Nat := 131
abbrev xi_Laws_countBroken : Nat := 132
abbrev xi_Parts_leastWith : Nat := 133
abbrev xi_Parts_withProducts : Nat := 134
abbrev xi_Parts_has : Nat := 135
abbrev xi_Parts_fromLeft : Nat := 136
abbrev xi_Parts_count : Nat := 137
abbrev xi_Parts_isPart : Nat := 138
abbrev xi_Parts_isNormal : Nat := 139
abbrev xi_Parts_fromRight : Nat := 140
abbrev xi_Parts_buildLeft : Nat := 141
abbrev xi_Parts_leastBeside : Nat := 142
abbrev xi_Parts_place : Nat := 143
abbrev xi_Squares_count : Nat := 144
abbrev xi_Squares_countInRows : Nat := 145
abbrev xi_Squares_isSquare : Nat := 146
abbrev xi_Squares_find : Nat := 147
abbrev xi_Squares_findColumns : Nat := 148
abbrev xi_Squares_change : Nat := 149
abbrev xi_Integer_bitCount : Nat := 150
abbrev xi_Math_min : Nat := 151
abbrev xi_Math_max : Nat := 152
abbrev xi_Arrays_fill : Nat := 153
abbrev xi_law : Nat := 154
abbrev xm_N : Nat := 155
end
section
/-! CORE, first part: the methods' table read, the checks of its rows -/
abbrev xm_H : Type := List (Nat × Nat) × (Nat → Nat → Option Nat) × (Nat → Nat → Int32)
/-- class numbers, the three array classes, the script -/
abbrev xm_G : Type := va_G × ClassId × ClassId × ClassId × (Nat × (Nat → Int32))
abbrev xm_nm (y : Nat) : MethodName := (xm_at y).1
abbrev xm_by (y : Nat) : ByteArray := (xm_at y).2.1
abbrev xm_mL (y : Nat) : Nat := (xm_at y).2.2.1
abbrev xm_rt (y : Nat) : Option FieldType := (xm_at y).2.2.2.1
abbrev xm_kd (y : Nat) : Nat := (xm_at y).2.2.2.2.1
abbrev xm_np (y : Nat) : Nat := (xm_at y).2.2.2.2.2.1
abbrev xm_rw (y : Nat) : List xm_Op := (xm_at y).2.2.2.2.2.2
def xm_op (y pc : Nat) : Option xm_Op := (xm_rw y).find? (fun o => o.1 == pc)
def xm_in (w : Cond) : Bool := decide (w ∈ lw_tbl) && goodWord w
def xm_len : Instr → Nat
  | .bipush _ => 2
  | .ldc _ => 2
  | .iload _ => 2
  | .aload _ => 2
  | .istore _ => 2
  | .astore _ => 2
  | .newarray _ => 2
  | .sipush _ => 3
  | .ldc_w _ => 3
  | .iinc _ _ => 3
  | .ifCond _ _ => 3
  | .if_icmp _ _ => 3
  | .goto _ => 3
  | .getfield _ => 3
  | .putfield _ => 3
  | .invokestatic _ => 3
  | .invokevirtual _ => 3
  | .invokespecial _ => 3
  | .new _ => 3
  | .anewarray _ => 3
  | .tableswitch _ _ _ _ => 0
  | _ => 1
def xm_fld (y i a b : Nat) : Bool := match xm_cl[a]? with
  | some c => decide (b < c.2.2) && xm_in (.fieldLink (xm_nm y).cls i (c.2.1 b).1 (c.2.1 b).2.1 (c.2.1 b).2.2.1)
  | none => false
def xm_fin (y a b : Nat) : Bool := match xm_cl[a]? with
  | some c => !(c.2.1 b).2.2.2 || (decide ((xm_nm y).name = "<init>") && decide ((c.2.1 b).1 = (xm_nm y).cls))
  | none => false
def xm_lnk (y : Nat) (o : xm_Op) : Bool := match o.2.1 with
  | .getfield i => xm_fld y i o.2.2.2.1 o.2.2.2.2
  | .putfield i => xm_fld y i o.2.2.2.1 o.2.2.2.2 && xm_fin y o.2.2.2.1 o.2.2.2.2
  | .new i => match xm_cl[o.2.2.2.1]? with
    | some c => xm_in (.classLink (xm_nm y).cls i c.1) && xm_in (.instantiable c.1 c.2.2) && xm_in (.initialized c.1)
    | none => false
  | .anewarray i => xm_in (.classLink (xm_nm y).cls i "LatinLaws$Table")
  | .newarray t => (decide (t = .int) && xm_in (.arrayClass .int)) || (decide (t = .boolean) && xm_in (.arrayClass .boolean))
  | .ldc i => xm_in (.constant (xm_nm y).cls i (Int32.ofNat o.2.2.2.1))
  | .ldc_w i => xm_in (.constant (xm_nm y).cls i (Int32.ofNat o.2.2.2.1))
  | .invokestatic i => match o.2.2.2.2 with
    | 0 => decide (o.2.2.2.1 < xm_N - 1) && decide (xm_kd o.2.2.2.1 = 0) && xm_in (.methodLink (xm_nm y).cls i (xm_nm o.2.2.2.1))
    | 1 => decide (o.2.2.2.1 = xi_L_isBelow) && (decide ((xm_nm y).cls = "LatinLaws$Turns" ∧ i = 74) || decide ((xm_nm y).cls = "LatinLaws$Renamings" ∧ i = 62))
    | _ => xm_in (.methodLink (xm_nm y).cls i arraycopyName) && xm_in (.native arraycopyName) && xm_in (.static arraycopyName) && xm_in (.initialized "java/lang/System")
  | .invokevirtual i => decide (o.2.2.2.1 < xm_N - 1) && decide (xm_kd o.2.2.2.1 = 1) && xm_in (.methodLink (xm_nm y).cls i (xm_nm o.2.2.2.1))
  | .invokespecial i => match o.2.2.2.2 with
    | 0 => decide (o.2.2.2.1 < xm_N - 1) && decide (xm_kd o.2.2.2.1 = 2) && xm_in (.methodLink (xm_nm y).cls i (xm_nm o.2.2.2.1))
    | _ => xm_in (.methodLink (xm_nm y).cls i objectInit) && xm_in (.instanceMethod objectInit) && xm_in (.code objectInit ⟨#[0xb1]⟩ 1 none)
  | _ => true
def xm_ochk (y : Nat) (o : xm_Op) : Bool := decide (decode (xm_by y) o.1 = .ok (o.2.1, o.2.2.1)) && (decide (xm_len o.2.1 = 0) || decide (xm_len o.2.1 = o.2.2.1)) && xm_lnk y o
def xm_mchk (y : Nat) : Bool := xm_in (.code (xm_nm y) (xm_by y) (xm_mL y) (xm_rt y)) && xm_in (.initialized (xm_nm y).cls) && decide (xm_np y ≤ 30) && decide ((xm_nm y).cls ≠ "java/lang/invoke/MethodHandle") && decide ((xm_nm y).cls ≠ "java/lang/invoke/VarHandle") && decide ((parseMethodDescriptor (xm_nm y).desc).map (fun d => d.parameters.length) = some (xm_np y)) && decide (xm_mL y ≤ 30) && match xm_kd y with
  | 0 => xm_in (.static (xm_nm y))
  | 1 => xm_in (.instanceMethod (xm_nm y)) && xm_in (.selects (xm_nm y).cls (xm_nm y) (xm_nm y))
  | _ => xm_in (.instanceMethod (xm_nm y)) && decide ((xm_nm y).name = "<init>") && decide (xm_rt y = none)
end
section
/-! every row decodes as it says, every link stands in the tables: by program -/
set_option maxRecDepth 100000 in
theorem xm_k0 : (xm_rw 0).all (xm_ochk 0) = true := by decide +kernel
set_option maxRecDepth 100000 in
theorem xm_k1 : (xm_rw 1).all (xm_ochk 1) = true := by decide +kernel
set_option maxRecDepth 100000 in
theorem xm_k2 : (xm_rw 2).all (xm_ochk 2) = true := by decide +kernel
set_option maxRecDepth 100000 in
theorem xm_k3 : (xm_rw 3).all (xm_ochk 3) = true := by decide +kernel
set_option maxRecDepth 100000 in
theorem xm_k4 : (xm_rw 4).all (xm_ochk 4) = true := by decide +kernel
set_option maxRecDepth 100000 in
theorem xm_k5 : (xm_rw 5).all (xm_ochk 5) = true := by decide +kernel
set_option maxRecDepth 100000 in
theorem xm_k6 : (xm_rw 6).all (xm_ochk 6) = true := by decide +kernel
set_option maxRecDepth 100000 in
theorem xm_k7 : (xm_rw 7).all (xm_ochk 7) = true := by decide +kernel
set_option maxRecDepth 100000 in
theorem xm_k8 : (xm_rw 8).all (xm_ochk 8) = true := by decide +kernel
set_option maxRecDepth 100000 in
theorem xm_k9 : (xm_rw 9).all (xm_ochk 9) = true := by decide +kernel
set_option maxRecDepth 100000 in
theorem xm_k10 : (xm_rw 10).all (xm_ochk 10) = true := by decide +kernel
set_option maxRecDepth 100000 in
theorem xm_k11 : (xm_rw 11).all (xm_ochk 11) = true := by decide +kernel
set_option maxRecDepth 100000 in
theorem xm_k12 : (xm_rw 12).all (xm_ochk 12) = true := by decide +kernel
set_option maxRecDepth 100000 in
theorem xm_k13 : (xm_rw 13).all (xm_ochk 13) = true := by decide +kernel
set_option maxRecDepth 100000 in
theorem xm_k14 : (xm_rw 14).all (xm_ochk 14) = true := by decide +kernel
set_option maxRecDepth 100000 in
theorem xm_k15 : (xm_rw 15).all (xm_ochk 15) = true := by decide +kernel
set_option maxRecDepth 100000 in
theorem xm_k16 : (xm_rw 16).all (xm_ochk 16) = true := by decide +kernel
set_option maxRecDepth 100000 in
theorem xm_k17 : (xm_rw 17).all (xm_ochk 17) = true := by decide +kernel
set_option maxRecDepth 100000 in
theorem xm_k18 : (xm_rw 18).all (xm_ochk 18) = true := by decide +kernel
set_option maxRecDepth 100000 in
theorem xm_k19 : (xm_rw 19).all (xm_ochk 19) = true := by decide +kernel
set_option maxRecDepth 100000 in
theorem xm_k20 : (xm_rw 20).all (xm_ochk 20) = true := by decide +kernel
set_option maxRecDepth 100000 in
theorem xm_k21 : (xm_rw 21).all (xm_ochk 21) = true := by decide +kernel
set_option maxRecDepth 100000 in
theorem xm_k22 : (xm_rw 22).all (xm_ochk 22) = true := by decide +kernel
set_option maxRecDepth 100000 in
theorem xm_k23 : (xm_rw 23).all (xm_ochk 23) = true := by decide +kernel
set_option maxRecDepth 100000 in
theorem xm_k24 : (xm_rw 24).all (xm_ochk 24) = true := by decide +kernel
set_option maxRecDepth 100000 in
theorem xm_k25 : (xm_rw 25).all (xm_ochk 25) = true := by decide +kernel
set_option maxRecDepth 100000 in
theorem xm_k26 : (xm_rw 26).all (xm_ochk 26) = true := by decide +kernel
set_option maxRecDepth 100000 in
theorem xm_k27 : (xm_rw 27).all (xm_ochk 27) = true := by decide +kernel
set_option maxRecDepth 100000 in
theorem xm_k28 : (xm_rw 28).all (xm_ochk 28) = true := by decide +kernel
set_option maxRecDepth 100000 in
theorem xm_k29 : (xm_rw 29).all (xm_ochk 29) = true := by decide +kernel
set_option maxRecDepth 100000 in
theorem xm_k30 : (xm_rw 30).all (xm_ochk 30) = true := by decide +kernel
set_option maxRecDepth 100000 in
theorem xm_k31 : (xm_rw 31).all (xm_ochk 31) = true := by decide +kernel
set_option maxRecDepth 100000 in
theorem xm_k32 : (xm_rw 32).all (xm_ochk 32) = true := by decide +kernel
set_option maxRecDepth 100000 in
theorem xm_k33 : (xm_rw 33).all (xm_ochk 33) = true := by decide +kernel
set_option maxRecDepth 100000 in
theorem xm_k34 : (xm_rw 34).all (xm_ochk 34) = true := by decide +kernel
set_option maxRecDepth 100000 in
theorem xm_k35 : (xm_rw 35).all (xm_ochk 35) = true := by decide +kernel
set_option maxRecDepth 100000 in
theorem xm_k36 : (xm_rw 36).all (xm_ochk 36) = true := by decide +kernel
set_option maxRecDepth 100000 in
theorem xm_k37 : (xm_rw 37).all (xm_ochk 37) = true := by decide +kernel
set_option maxRecDepth 100000 in
theorem xm_k38 : (xm_rw 38).all (xm_ochk 38) = true := by decide +kernel
end
section
/-! every row decodes as it says, every link stands in the tables: by program -/
set_option maxRecDepth 100000 in
theorem xm_k39 : (xm_rw 39).all (xm_ochk 39) = true := by decide +kernel
set_option maxRecDepth 100000 in
theorem xm_k40 : (xm_rw 40).all (xm_ochk 40) = true := by decide +kernel
set_option maxRecDepth 100000 in
theorem xm_k41 : (xm_rw 41).all (xm_ochk 41) = true := by decide +kernel
set_option maxRecDepth 100000 in
theorem xm_k42 : (xm_rw 42).all (xm_ochk 42) = true := by decide +kernel
set_option maxRecDepth 100000 in
theorem xm_k43 : (xm_rw 43).all (xm_ochk 43) = true := by decide +kernel
set_option maxRecDepth 100000 in
theorem xm_k44 : (xm_rw 44).all (xm_ochk 44) = true := by decide +kernel
set_option maxRecDepth 100000 in
theorem xm_k45 : (xm_rw 45).all (xm_ochk 45) = true := by decide +kernel
set_option maxRecDepth 100000 in
theorem xm_k46 : (xm_rw 46).all (xm_ochk 46) = true := by decide +kernel
set_option maxRecDepth 100000 in
theorem xm_k47 : (xm_rw 47).all (xm_ochk 47) = true := by decide +kernel
set_option maxRecDepth 100000 in
theorem xm_k48 : (xm_rw 48).all (xm_ochk 48) = true := by decide +kernel
set_option maxRecDepth 100000 in
theorem xm_k49 : (xm_rw 49).all (xm_ochk 49) = true := by decide +kernel
set_option maxRecDepth 100000 in
theorem xm_k50 : (xm_rw 50).all (xm_ochk 50) = true := by decide +kernel
set_option maxRecDepth 100000 in
theorem xm_k51 : (xm_rw 51).all (xm_ochk 51) = true := by decide +kernel
set_option maxRecDepth 100000 in
theorem xm_k52 : (xm_rw 52).all (xm_ochk 52) = true := by decide +kernel
set_option maxRecDepth 100000 in
theorem xm_k53 : (xm_rw 53).all (xm_ochk 53) = true := by decide +kernel
set_option maxRecDepth 100000 in
theorem xm_k54 : (xm_rw 54).all (xm_ochk 54) = true := by decide +kernel
set_option maxRecDepth 100000 in
theorem xm_k55 : (xm_rw 55).all (xm_ochk 55) = true := by decide +kernel
set_option maxRecDepth 100000 in
theorem xm_k56 : (xm_rw 56).all (xm_ochk 56) = true := by decide +kernel
set_option maxRecDepth 100000 in
theorem xm_k57 : (xm_rw 57).all (xm_ochk 57) = true := by decide +kernel
set_option maxRecDepth 100000 in
theorem xm_k58 : (xm_rw 58).all (xm_ochk 58) = true := by decide +kernel
set_option maxRecDepth 100000 in
theorem xm_k59 : (xm_rw 59).all (xm_ochk 59) = true := by decide +kernel
set_option maxRecDepth 100000 in
theorem xm_k60 : (xm_rw 60).all (xm_ochk 60) = true := by decide +kernel
set_option maxRecDepth 100000 in
theorem xm_k61 : (xm_rw 61).all (xm_ochk 61) = true := by decide +kernel
set_option maxRecDepth 100000 in
theorem xm_k62 : (xm_rw 62).all (xm_ochk 62) = true := by decide +kernel
set_option maxRecDepth 100000 in
theorem xm_k63 : (xm_rw 63).all (xm_ochk 63) = true := by decide +kernel
set_option maxRecDepth 100000 in
theorem xm_k64 : (xm_rw 64).all (xm_ochk 64) = true := by decide +kernel
set_option maxRecDepth 100000 in
theorem xm_k65 : (xm_rw 65).all (xm_ochk 65) = true := by decide +kernel
set_option maxRecDepth 100000 in
theorem xm_k66 : (xm_rw 66).all (xm_ochk 66) = true := by decide +kernel
end
section
/-! every row decodes as it says, every link stands in the tables: by program -/
set_option maxRecDepth 100000 in
theorem xm_k67 : (xm_rw 67).all (xm_ochk 67) = true := by decide +kernel
set_option maxRecDepth 100000 in
theorem xm_k68 : (xm_rw 68).all (xm_ochk 68) = true := by decide +kernel
set_option maxRecDepth 100000 in
theorem xm_k69 : (xm_rw 69).all (xm_ochk 69) = true := by decide +kernel
set_option maxRecDepth 100000 in
theorem xm_k70 : (xm_rw 70).all (xm_ochk 70) = true := by decide +kernel
set_option maxRecDepth 100000 in
theorem xm_k71 : (xm_rw 71).all (xm_ochk 71) = true := by decide +kernel
set_option maxRecDepth 100000 in
theorem xm_k72 : (xm_rw 72).all (xm_ochk 72) = true := by decide +kernel
set_option maxRecDepth 100000 in
theorem xm_k73 : (xm_rw 73).all (xm_ochk 73) = true := by decide +kernel
set_option maxRecDepth 100000 in
theorem xm_k74 : (xm_rw 74).all (xm_ochk 74) = true := by decide +kernel
set_option maxRecDepth 100000 in
theorem xm_k75 : (xm_rw 75).all (xm_ochk 75) = true := by decide +kernel
set_option maxRecDepth 100000 in
theorem xm_k76 : (xm_rw 76).all (xm_ochk 76) = true := by decide +kernel
set_option maxRecDepth 100000 in
theorem xm_k77 : (xm_rw 77).all (xm_ochk 77) = true := by decide +kernel
set_option maxRecDepth 100000 in
theorem xm_k78 : (xm_rw 78).all (xm_ochk 78) = true := by decide +kernel
set_option maxRecDepth 100000 in
theorem xm_k79 : (xm_rw 79).all (xm_ochk 79) = true := by decide +kernel
set_option maxRecDepth 100000 in
theorem xm_k80 : (xm_rw 80).all (xm_ochk 80) = true := by decide +kernel
set_option maxRecDepth 100000 in
theorem xm_k81 : (xm_rw 81).all (xm_ochk 81) = true := by decide +kernel
set_option maxRecDepth 100000 in
theorem xm_k82 : (xm_rw 82).all (xm_ochk 82) = true := by decide +kernel
set_option maxRecDepth 100000 in
theorem xm_k83 : (xm_rw 83).all (xm_ochk 83) = true := by decide +kernel
set_option maxRecDepth 100000 in
theorem xm_k84 : (xm_rw 84).all (xm_ochk 84) = true := by decide +kernel
set_option maxRecDepth 100000 in
theorem xm_k85 : (xm_rw 85).all (xm_ochk 85) = true := by decide +kernel
set_option maxRecDepth 100000 in
theorem xm_k86 : (xm_rw 86).all (xm_ochk 86) = true := by decide +kernel
end
section
/-! every row decodes as it says, every link stands in the tables: by program -/
set_option maxRecDepth 100000 in
theorem xm_k87 : (xm_rw 87).all (xm_ochk 87) = true := by decide +kernel
set_option maxRecDepth 100000 in
theorem xm_k88 : (xm_rw 88).all (xm_ochk 88) = true := by decide +kernel
set_option maxRecDepth 100000 in
theorem xm_k89 : (xm_rw 89).all (xm_ochk 89) = true := by decide +kernel
set_option maxRecDepth 100000 in
theorem xm_k90 : (xm_rw 90).all (xm_ochk 90) = true := by decide +kernel
set_option maxRecDepth 100000 in
theorem xm_k91 : (xm_rw 91).all (xm_ochk 91) = true := by decide +kernel
set_option maxRecDepth 100000 in
theorem xm_k92 : (xm_rw 92).all (xm_ochk 92) = true := by decide +kernel
set_option maxRecDepth 100000 in
theorem xm_k93 : (xm_rw 93).all (xm_ochk 93) = true := by decide +kernel
set_option maxRecDepth 100000 in
theorem xm_k94 : (xm_rw 94).all (xm_ochk 94) = true := by decide +kernel
set_option maxRecDepth 100000 in
theorem xm_k95 : (xm_rw 95).all (xm_ochk 95) = true := by decide +kernel
set_option maxRecDepth 100000 in
theorem xm_k96 : (xm_rw 96).all (xm_ochk 96) = true := by decide +kernel
set_option maxRecDepth 100000 in
theorem xm_k97 : (xm_rw 97).all (xm_ochk 97) = true := by decide +kernel
set_option maxRecDepth 100000 in
theorem xm_k98 : (xm_rw 98).all (xm_ochk 98) = true := by decide +kernel
set_option maxRecDepth 100000 in
theorem xm_k99 : (xm_rw 99).all (xm_ochk 99) = true := by decide +kernel
end
section
/-! every row decodes as it says, every link stands in the tables: by program -/
set_option maxRecDepth 100000 in
theorem xm_k100 : (xm_rw 100).all (xm_ochk 100) = true := by decide +kernel
set_option maxRecDepth 100000 in
theorem xm_k101 : (xm_rw 101).all (xm_ochk 101) = true := by decide +kernel
set_option maxRecDepth 100000 in
theorem xm_k102 : (xm_rw 102).all (xm_ochk 102) = true := by decide +kernel
set_option maxRecDepth 100000 in
theorem xm_k103 : (xm_rw 103).all (xm_ochk 103) = true := by decide +kernel
set_option maxRecDepth 100000 in
theorem xm_k104 : (xm_rw 104).all (xm_ochk 104) = true := by decide +kernel
set_option maxRecDepth 100000 in
theorem xm_k105 : (xm_rw 105).all (xm_ochk 105) = true := by decide +kernel
set_option maxRecDepth 100000 in
theorem xm_k106 : (xm_rw 106).all (xm_ochk 106) = true := by decide +kernel
set_option maxRecDepth 100000 in
theorem xm_k107 : (xm_rw 107).all (xm_ochk 107) = true := by decide +kernel
set_option maxRecDepth 100000 in
theorem xm_k108 : (xm_rw 108).all (xm_ochk 108) = true := by decide +kernel
set_option maxRecDepth 100000 in
theorem xm_k109 : (xm_rw 109).all (xm_ochk 109) = true := by decide +kernel
set_option maxRecDepth 100000 in
theorem xm_k110 : (xm_rw 110).all (xm_ochk 110) = true := by decide +kernel
set_option maxRecDepth 100000 in
theorem xm_k111 : (xm_rw 111).all (xm_ochk 111) = true := by decide +kernel
set_option maxRecDepth 100000 in
theorem xm_k112 : (xm_rw 112).all (xm_ochk 112) = true := by decide +kernel
set_option maxRecDepth 100000 in
theorem xm_k113 : (xm_rw 113).all (xm_ochk 113) = true := by decide +kernel
set_option maxRecDepth 100000 in
theorem xm_k114 : (xm_rw 114).all (xm_ochk 114) = true := by decide +kernel
set_option maxRecDepth 100000 in
theorem xm_k115 : (xm_rw 115).all (xm_ochk 115) = true := by decide +kernel
set_option maxRecDepth 100000 in
theorem xm_k116 : (xm_rw 116).all (xm_ochk 116) = true := by decide +kernel
set_option maxRecDepth 100000 in
theorem xm_k117 : (xm_rw 117).all (xm_ochk 117) = true := by decide +kernel
end
section
/-! every row decodes as it says, every link stands in the tables: by program -/
set_option maxRecDepth 100000 in
theorem xm_k118 : (xm_rw 118).all (xm_ochk 118) = true := by decide +kernel
set_option maxRecDepth 100000 in
theorem xm_k119 : (xm_rw 119).all (xm_ochk 119) = true := by decide +kernel
set_option maxRecDepth 100000 in
theorem xm_k120 : (xm_rw 120).all (xm_ochk 120) = true := by decide +kernel
set_option maxRecDepth 100000 in
theorem xm_k121 : (xm_rw 121).all (xm_ochk 121) = true := by decide +kernel
set_option maxRecDepth 100000 in
theorem xm_k122 : (xm_rw 122).all (xm_ochk 122) = true := by decide +kernel
set_option maxRecDepth 100000 in
theorem xm_k123 : (xm_rw 123).all (xm_ochk 123) = true := by decide +kernel
set_option maxRecDepth 100000 in
theorem xm_k124 : (xm_rw 124).all (xm_ochk 124) = true := by decide +kernel
set_option maxRecDepth 100000 in
theorem xm_k125 : (xm_rw 125).all (xm_ochk 125) = true := by decide +kernel
set_option maxRecDepth 100000 in
theorem xm_k126 : (xm_rw 126).all (xm_ochk 126) = true := by decide +kernel
set_option maxRecDepth 100000 in
theorem xm_k127 : (xm_rw 127).all (xm_ochk 127) = true := by decide +kernel
set_option maxRecDepth 100000 in
theorem xm_k128 : (xm_rw 128).all (xm_ochk 128) = true := by decide +kernel
set_option maxRecDepth 100000 in
theorem xm_k129 : (xm_rw 129).all (xm_ochk 129) = true := by decide +kernel
set_option maxRecDepth 100000 in
theorem xm_k130 : (xm_rw 130).all (xm_ochk 130) = true := by decide +kernel
set_option maxRecDepth 100000 in
theorem xm_k131 : (xm_rw 131).all (xm_ochk 131) = true := by decide +kernel
set_option maxRecDepth 100000 in
theorem xm_k132 : (xm_rw 132).all (xm_ochk 132) = true := by decide +kernel
set_option maxRecDepth 100000 in
theorem xm_k133 : (xm_rw 133).all (xm_ochk 133) = true := by decide +kernel
set_option maxRecDepth 100000 in
theorem xm_k134 : (xm_rw 134).all (xm_ochk 134) = true := by decide +kernel
set_option maxRecDepth 100000 in
theorem xm_k135 : (xm_rw 135).all (xm_ochk 135) = true := by decide +kernel
set_option maxRecDepth 100000 in
theorem xm_k136 : (xm_rw 136).all (xm_ochk 136) = true := by decide +kernel
set_option maxRecDepth 100000 in
theorem xm_k137 : (xm_rw 137).all (xm_ochk 137) = true := by decide +kernel
set_option maxRecDepth 100000 in
theorem xm_k138 : (xm_rw 138).all (xm_ochk 138) = true := by decide +kernel
set_option maxRecDepth 100000 in
theorem xm_k139 : (xm_rw 139).all (xm_ochk 139) = true := by decide +kernel
set_option maxRecDepth 100000 in
theorem xm_k140 : (xm_rw 140).all (xm_ochk 140) = true := by decide +kernel
set_option maxRecDepth 100000 in
theorem xm_k141 : (xm_rw 141).all (xm_ochk 141) = true := by decide +kernel
set_option maxRecDepth 100000 in
theorem xm_k142 : (xm_rw 142).all (xm_ochk 142) = true := by decide +kernel
set_option maxRecDepth 100000 in
theorem xm_k143 : (xm_rw 143).all (xm_ochk 143) = true := by decide +kernel
set_option maxRecDepth 100000 in
theorem xm_k144 : (xm_rw 144).all (xm_ochk 144) = true := by decide +kernel
set_option maxRecDepth 100000 in
theorem xm_k145 : (xm_rw 145).all (xm_ochk 145) = true := by decide +kernel
set_option maxRecDepth 100000 in
theorem xm_k146 : (xm_rw 146).all (xm_ochk 146) = true := by decide +kernel
set_option maxRecDepth 100000 in
theorem xm_k147 : (xm_rw 147).all (xm_ochk 147) = true := by decide +kernel
set_option maxRecDepth 100000 in
theorem xm_k148 : (xm_rw 148).all (xm_ochk 148) = true := by decide +kernel
set_option maxRecDepth 100000 in
theorem xm_k149 : (xm_rw 149).all (xm_ochk 149) = true := by decide +kernel
set_option maxRecDepth 100000 in
theorem xm_k150 : (xm_rw 150).all (xm_ochk 150) = true := by decide +kernel
set_option maxRecDepth 100000 in
theorem xm_k151 : (xm_rw 151).all (xm_ochk 151) = true := by decide +kernel
set_option maxRecDepth 100000 in
theorem xm_k152 : (xm_rw 152).all (xm_ochk 152) = true := by decide +kernel
set_option maxRecDepth 100000 in
theorem xm_k153 : (xm_rw 153).all (xm_ochk 153) = true := by decide +kernel
end
section
/-! the law's rows, in pieces -/
theorem xm_chn {α : Type} {p : α → Bool} {l : List α} {a b : Nat} (h1 : ((l.drop a).take b).all p = true) (h2 : (l.drop (a + b)).all p = true) : (l.drop a).all p = true := by
  rw [← List.take_append_drop b (l.drop a), List.all_append, h1, List.drop_drop, Bool.true_and]
  exact h2
set_option maxRecDepth 100000 in
theorem xm_kl0 : (((xm_rw 154).drop 0).take 32).all (xm_ochk 154) = true := by decide +kernel
set_option maxRecDepth 100000 in
theorem xm_kl1 : (((xm_rw 154).drop 32).take 32).all (xm_ochk 154) = true := by decide +kernel
set_option maxRecDepth 100000 in
theorem xm_kl2 : (((xm_rw 154).drop 64).take 32).all (xm_ochk 154) = true := by decide +kernel
set_option maxRecDepth 100000 in
theorem xm_kl3 : (((xm_rw 154).drop 96).take 32).all (xm_ochk 154) = true := by decide +kernel
set_option maxRecDepth 100000 in
theorem xm_kl4 : (((xm_rw 154).drop 128).take 32).all (xm_ochk 154) = true := by decide +kernel
set_option maxRecDepth 100000 in
theorem xm_kl5 : (((xm_rw 154).drop 160).take 32).all (xm_ochk 154) = true := by decide +kernel
set_option maxRecDepth 100000 in
theorem xm_kl6 : (((xm_rw 154).drop 192).take 32).all (xm_ochk 154) = true := by decide +kernel
set_option maxRecDepth 100000 in
theorem xm_kl7 : (((xm_rw 154).drop 224).take 32).all (xm_ochk 154) = true := by decide +kernel
set_option maxRecDepth 100000 in
theorem xm_kl8 : (((xm_rw 154).drop 256).take 32).all (xm_ochk 154) = true := by decide +kernel
set_option maxRecDepth 100000 in
theorem xm_kl9 : (((xm_rw 154).drop 288).take 32).all (xm_ochk 154) = true := by decide +kernel
set_option maxRecDepth 100000 in
theorem xm_kl10 : (((xm_rw 154).drop 320).take 32).all (xm_ochk 154) = true := by decide +kernel
set_option maxRecDepth 100000 in
theorem xm_kl11 : (((xm_rw 154).drop 352).take 32).all (xm_ochk 154) = true := by decide +kernel
set_option maxRecDepth 100000 in
theorem xm_kl12 : (((xm_rw 154).drop 384).take 32).all (xm_ochk 154) = true := by decide +kernel
set_option maxRecDepth 100000 in
theorem xm_kl13 : (((xm_rw 154).drop 416).take 32).all (xm_ochk 154) = true := by decide +kernel
set_option maxRecDepth 100000 in
theorem xm_kl14 : (((xm_rw 154).drop 448).take 32).all (xm_ochk 154) = true := by decide +kernel
set_option maxRecDepth 100000 in
theorem xm_kl15 : (((xm_rw 154).drop 480).take 32).all (xm_ochk 154) = true := by decide +kernel
set_option maxRecDepth 100000 in
theorem xm_kl16 : (((xm_rw 154).drop 512).take 32).all (xm_ochk 154) = true := by decide +kernel
set_option maxRecDepth 100000 in
theorem xm_kl17 : (((xm_rw 154).drop 544).take 32).all (xm_ochk 154) = true := by decide +kernel
set_option maxRecDepth 100000 in
theorem xm_kl18 : (((xm_rw 154).drop 576).take 32).all (xm_ochk 154) = true := by decide +kernel
set_option maxRecDepth 100000 in
theorem xm_kl19 : (((xm_rw 154).drop 608).take 32).all (xm_ochk 154) = true := by decide +kernel
set_option maxRecDepth 100000 in
theorem xm_kl20 : (((xm_rw 154).drop 640).take 32).all (xm_ochk 154) = true := by decide +kernel
set_option maxRecDepth 100000 in
theorem xm_kle : ((xm_rw 154).drop 672).all (xm_ochk 154) = true := by decide +kernel
theorem xm_km20 : ((xm_rw 154).drop 640).all (xm_ochk 154) = true := xm_chn (a := 640) (b := 32) xm_kl20 xm_kle
theorem xm_km19 : ((xm_rw 154).drop 608).all (xm_ochk 154) = true := xm_chn (a := 608) (b := 32) xm_kl19 xm_km20
theorem xm_km18 : ((xm_rw 154).drop 576).all (xm_ochk 154) = true := xm_chn (a := 576) (b := 32) xm_kl18 xm_km19
theorem xm_km17 : ((xm_rw 154).drop 544).all (xm_ochk 154) = true := xm_chn (a := 544) (b := 32) xm_kl17 xm_km18
theorem xm_km16 : ((xm_rw 154).drop 512).all (xm_ochk 154) = true := xm_chn (a := 512) (b := 32) xm_kl16 xm_km17
theorem xm_km15 : ((xm_rw 154).drop 480).all (xm_ochk 154) = true := xm_chn (a := 480) (b := 32) xm_kl15 xm_km16
theorem xm_km14 : ((xm_rw 154).drop 448).all (xm_ochk 154) = true := xm_chn (a := 448) (b := 32) xm_kl14 xm_km15
theorem xm_km13 : ((xm_rw 154).drop 416).all (xm_ochk 154) = true := xm_chn (a := 416) (b := 32) xm_kl13 xm_km14
theorem xm_km12 : ((xm_rw 154).drop 384).all (xm_ochk 154) = true := xm_chn (a := 384) (b := 32) xm_kl12 xm_km13
theorem xm_km11 : ((xm_rw 154).drop 352).all (xm_ochk 154) = true := xm_chn (a := 352) (b := 32) xm_kl11 xm_km12
theorem xm_km10 : ((xm_rw 154).drop 320).all (xm_ochk 154) = true := xm_chn (a := 320) (b := 32) xm_kl10 xm_km11
theorem xm_km9 : ((xm_rw 154).drop 288).all (xm_ochk 154) = true := xm_chn (a := 288) (b := 32) xm_kl9 xm_km10
theorem xm_km8 : ((xm_rw 154).drop 256).all (xm_ochk 154) = true := xm_chn (a := 256) (b := 32) xm_kl8 xm_km9
theorem xm_km7 : ((xm_rw 154).drop 224).all (xm_ochk 154) = true := xm_chn (a := 224) (b := 32) xm_kl7 xm_km8
theorem xm_km6 : ((xm_rw 154).drop 192).all (xm_ochk 154) = true := xm_chn (a := 192) (b := 32) xm_kl6 xm_km7
theorem xm_km5 : ((xm_rw 154).drop 160).all (xm_ochk 154) = true := xm_chn (a := 160) (b := 32) xm_kl5 xm_km6
theorem xm_km4 : ((xm_rw 154).drop 128).all (xm_ochk 154) = true := xm_chn (a := 128) (b := 32) xm_kl4 xm_km5
theorem xm_km3 : ((xm_rw 154).drop 96).all (xm_ochk 154) = true := xm_chn (a := 96) (b := 32) xm_kl3 xm_km4
theorem xm_km2 : ((xm_rw 154).drop 64).all (xm_ochk 154) = true := xm_chn (a := 64) (b := 32) xm_kl2 xm_km3
theorem xm_km1 : ((xm_rw 154).drop 32).all (xm_ochk 154) = true := xm_chn (a := 32) (b := 32) xm_kl1 xm_km2
theorem xm_km0 : ((xm_rw 154).drop 0).all (xm_ochk 154) = true := xm_chn (a := 0) (b := 32) xm_kl0 xm_km1
theorem xm_k154 : (xm_rw 154).all (xm_ochk 154) = true := xm_km0
end
section
/-! every method's words stand in the tables -/
theorem xm_c0 : xm_mchk 0 = true := by decide +kernel
theorem xm_c1 : xm_mchk 1 = true := by decide +kernel
theorem xm_c2 : xm_mchk 2 = true := by decide +kernel
theorem xm_c3 : xm_mchk 3 = true := by decide +kernel
theorem xm_c4 : xm_mchk 4 = true := by decide +kernel
theorem xm_c5 : xm_mchk 5 = true := by decide +kernel
theorem xm_c6 : xm_mchk 6 = true := by decide +kernel
theorem xm_c7 : xm_mchk 7 = true := by decide +kernel
theorem xm_c8 : xm_mchk 8 = true := by decide +kernel
theorem xm_c9 : xm_mchk 9 = true := by decide +kernel
theorem xm_c10 : xm_mchk 10 = true := by decide +kernel
theorem xm_c11 : xm_mchk 11 = true := by decide +kernel
theorem xm_c12 : xm_mchk 12 = true := by decide +kernel
theorem xm_c13 : xm_mchk 13 = true := by decide +kernel
theorem xm_c14 : xm_mchk 14 = true := by decide +kernel
theorem xm_c15 : xm_mchk 15 = true := by decide +kernel
theorem xm_c16 : xm_mchk 16 = true := by decide +kernel
theorem xm_c17 : xm_mchk 17 = true := by decide +kernel
theorem xm_c18 : xm_mchk 18 = true := by decide +kernel
theorem xm_c19 : xm_mchk 19 = true := by decide +kernel
theorem xm_c20 : xm_mchk 20 = true := by decide +kernel
theorem xm_c21 : xm_mchk 21 = true := by decide +kernel
theorem xm_c22 : xm_mchk 22 = true := by decide +kernel
theorem xm_c23 : xm_mchk 23 = true := by decide +kernel
theorem xm_c24 : xm_mchk 24 = true := by decide +kernel
theorem xm_c25 : xm_mchk 25 = true := by decide +kernel
theorem xm_c26 : xm_mchk 26 = true := by decide +kernel
theorem xm_c27 : xm_mchk 27 = true := by decide +kernel
theorem xm_c28 : xm_mchk 28 = true := by decide +kernel
theorem xm_c29 : xm_mchk 29 = true := by decide +kernel
theorem xm_c30 : xm_mchk 30 = true := by decide +kernel
theorem xm_c31 : xm_mchk 31 = true := by decide +kernel
theorem xm_c32 : xm_mchk 32 = true := by decide +kernel
theorem xm_c33 : xm_mchk 33 = true := by decide +kernel
theorem xm_c34 : xm_mchk 34 = true := by decide +kernel
theorem xm_c35 : xm_mchk 35 = true := by decide +kernel
theorem xm_c36 : xm_mchk 36 = true := by decide +kernel
theorem xm_c37 : xm_mchk 37 = true := by decide +kernel
theorem xm_c38 : xm_mchk 38 = true := by decide +kernel
theorem xm_c39 : xm_mchk 39 = true := by decide +kernel
theorem xm_c40 : xm_mchk 40 = true := by decide +kernel
theorem xm_c41 : xm_mchk 41 = true := by decide +kernel
theorem xm_c42 : xm_mchk 42 = true := by decide +kernel
theorem xm_c43 : xm_mchk 43 = true := by decide +kernel
theorem xm_c44 : xm_mchk 44 = true := by decide +kernel
theorem xm_c45 : xm_mchk 45 = true := by decide +kernel
theorem xm_c46 : xm_mchk 46 = true := by decide +kernel
theorem xm_c47 : xm_mchk 47 = true := by decide +kernel
theorem xm_c48 : xm_mchk 48 = true := by decide +kernel
theorem xm_c49 : xm_mchk 49 = true := by decide +kernel
theorem xm_c50 : xm_mchk 50 = true := by decide +kernel
theorem xm_c51 : xm_mchk 51 = true := by decide +kernel
theorem xm_c52 : xm_mchk 52 = true := by decide +kernel
theorem xm_c53 : xm_mchk 53 = true := by decide +kernel
theorem xm_c54 : xm_mchk 54 = true := by decide +kernel
theorem xm_c55 : xm_mchk 55 = true := by decide +kernel
theorem xm_c56 : xm_mchk 56 = true := by decide +kernel
theorem xm_c57 : xm_mchk 57 = true := by decide +kernel
theorem xm_c58 : xm_mchk 58 = true := by decide +kernel
theorem xm_c59 : xm_mchk 59 = true := by decide +kernel
theorem xm_c60 : xm_mchk 60 = true := by decide +kernel
theorem xm_c61 : xm_mchk 61 = true := by decide +kernel
theorem xm_c62 : xm_mchk 62 = true := by decide +kernel
theorem xm_c63 : xm_mchk 63 = true := by decide +kernel
theorem xm_c64 : xm_mchk 64 = true := by decide +kernel
theorem xm_c65 : xm_mchk 65 = true := by decide +kernel
theorem xm_c66 : xm_mchk 66 = true := by decide +kernel
theorem xm_c67 : xm_mchk 67 = true := by decide +kernel
theorem xm_c68 : xm_mchk 68 = true := by decide +kernel
theorem xm_c69 : xm_mchk 69 = true := by decide +kernel
theorem xm_c70 : xm_mchk 70 = true := by decide +kernel
theorem xm_c71 : xm_mchk 71 = true := by decide +kernel
theorem xm_c72 : xm_mchk 72 = true := by decide +kernel
theorem xm_c73 : xm_mchk 73 = true := by decide +kernel
theorem xm_c74 : xm_mchk 74 = true := by decide +kernel
theorem xm_c75 : xm_mchk 75 = true := by decide +kernel
theorem xm_c76 : xm_mchk 76 = true := by decide +kernel
theorem xm_c77 : xm_mchk 77 = true := by decide +kernel
theorem xm_c78 : xm_mchk 78 = true := by decide +kernel
theorem xm_c79 : xm_mchk 79 = true := by decide +kernel
theorem xm_c80 : xm_mchk 80 = true := by decide +kernel
theorem xm_c81 : xm_mchk 81 = true := by decide +kernel
theorem xm_c82 : xm_mchk 82 = true := by decide +kernel
theorem xm_c83 : xm_mchk 83 = true := by decide +kernel
theorem xm_c84 : xm_mchk 84 = true := by decide +kernel
theorem xm_c85 : xm_mchk 85 = true := by decide +kernel
theorem xm_c86 : xm_mchk 86 = true := by decide +kernel
theorem xm_c87 : xm_mchk 87 = true := by decide +kernel
theorem xm_c88 : xm_mchk 88 = true := by decide +kernel
theorem xm_c89 : xm_mchk 89 = true := by decide +kernel
theorem xm_c90 : xm_mchk 90 = true := by decide +kernel
theorem xm_c91 : xm_mchk 91 = true := by decide +kernel
theorem xm_c92 : xm_mchk 92 = true := by decide +kernel
theorem xm_c93 : xm_mchk 93 = true := by decide +kernel
theorem xm_c94 : xm_mchk 94 = true := by decide +kernel
theorem xm_c95 : xm_mchk 95 = true := by decide +kernel
theorem xm_c96 : xm_mchk 96 = true := by decide +kernel
theorem xm_c97 : xm_mchk 97 = true := by decide +kernel
theorem xm_c98 : xm_mchk 98 = true := by decide +kernel
theorem xm_c99 : xm_mchk 99 = true := by decide +kernel
theorem xm_c100 : xm_mchk 100 = true := by decide +kernel
theorem xm_c101 : xm_mchk 101 = true := by decide +kernel
theorem xm_c102 : xm_mchk 102 = true := by decide +kernel
theorem xm_c103 : xm_mchk 103 = true := by decide +kernel
theorem xm_c104 : xm_mchk 104 = true := by decide +kernel
theorem xm_c105 : xm_mchk 105 = true := by decide +kernel
theorem xm_c106 : xm_mchk 106 = true := by decide +kernel
theorem xm_c107 : xm_mchk 107 = true := by decide +kernel
theorem xm_c108 : xm_mchk 108 = true := by decide +kernel
theorem xm_c109 : xm_mchk 109 = true := by decide +kernel
theorem xm_c110 : xm_mchk 110 = true := by decide +kernel
theorem xm_c111 : xm_mchk 111 = true := by decide +kernel
theorem xm_c112 : xm_mchk 112 = true := by decide +kernel
theorem xm_c113 : xm_mchk 113 = true := by decide +kernel
theorem xm_c114 : xm_mchk 114 = true := by decide +kernel
theorem xm_c115 : xm_mchk 115 = true := by decide +kernel
theorem xm_c116 : xm_mchk 116 = true := by decide +kernel
theorem xm_c117 : xm_mchk 117 = true := by decide +kernel
theorem xm_c118 : xm_mchk 118 = true := by decide +kernel
theorem xm_c119 : xm_mchk 119 = true := by decide +kernel
theorem xm_c120 : xm_mchk 120 = true := by decide +kernel
theorem xm_c121 : xm_mchk 121 = true := by decide +kernel
theorem xm_c122 : xm_mchk 122 = true := by decide +kernel
theorem xm_c123 : xm_mchk 123 = true := by decide +kernel
theorem xm_c124 : xm_mchk 124 = true := by decide +kernel
theorem xm_c125 : xm_mchk 125 = true := by decide +kernel
theorem xm_c126 : xm_mchk 126 = true := by decide +kernel
theorem xm_c127 : xm_mchk 127 = true := by decide +kernel
theorem xm_c128 : xm_mchk 128 = true := by decide +kernel
theorem xm_c129 : xm_mchk 129 = true := by decide +kernel
theorem xm_c130 : xm_mchk 130 = true := by decide +kernel
theorem xm_c131 : xm_mchk 131 = true := by decide +kernel
theorem xm_c132 : xm_mchk 132 = true := by decide +kernel
theorem xm_c133 : xm_mchk 133 = true := by decide +kernel
theorem xm_c134 : xm_mchk 134 = true := by decide +kernel
theorem xm_c135 : xm_mchk 135 = true := by decide +kernel
theorem xm_c136 : xm_mchk 136 = true := by decide +kernel
theorem xm_c137 : xm_mchk 137 = true := by decide +kernel
theorem xm_c138 : xm_mchk 138 = true := by decide +kernel
theorem xm_c139 : xm_mchk 139 = true := by decide +kernel
theorem xm_c140 : xm_mchk 140 = true := by decide +kernel
theorem xm_c141 : xm_mchk 141 = true := by decide +kernel
theorem xm_c142 : xm_mchk 142 = true := by decide +kernel
theorem xm_c143 : xm_mchk 143 = true := by decide +kernel
theorem xm_c144 : xm_mchk 144 = true := by decide +kernel
theorem xm_c145 : xm_mchk 145 = true := by decide +kernel
theorem xm_c146 : xm_mchk 146 = true := by decide +kernel
theorem xm_c147 : xm_mchk 147 = true := by decide +kernel
theorem xm_c148 : xm_mchk 148 = true := by decide +kernel
theorem xm_c149 : xm_mchk 149 = true := by decide +kernel
theorem xm_c150 : xm_mchk 150 = true := by decide +kernel
theorem xm_c151 : xm_mchk 151 = true := by decide +kernel
theorem xm_c152 : xm_mchk 152 = true := by decide +kernel
theorem xm_c153 : xm_mchk 153 = true := by decide +kernel
theorem xm_mall : ∀ y, y < xm_N - 1 → xm_mchk y = true := by
  intro y hy
  match y, hy with
  | 0, _ => exact xm_c0
  | 1, _ => exact xm_c1
  | 2, _ => exact xm_c2
  | 3, _ => exact xm_c3
  | 4, _ => exact xm_c4
  | 5, _ => exact xm_c5
  | 6, _ => exact xm_c6
  | 7, _ => exact xm_c7
  | 8, _ => exact xm_c8
  | 9, _ => exact xm_c9
  | 10, _ => exact xm_c10
  | 11, _ => exact xm_c11
  | 12, _ => exact xm_c12
  | 13, _ => exact xm_c13
  | 14, _ => exact xm_c14
  | 15, _ => exact xm_c15
  | 16, _ => exact xm_c16
  | 17, _ => exact xm_c17
  | 18, _ => exact xm_c18
  | 19, _ => exact xm_c19
  | 20, _ => exact xm_c20
  | 21, _ => exact xm_c21
  | 22, _ => exact xm_c22
  | 23, _ => exact xm_c23
  | 24, _ => exact xm_c24
  | 25, _ => exact xm_c25
  | 26, _ => exact xm_c26
  | 27, _ => exact xm_c27
  | 28, _ => exact xm_c28
  | 29, _ => exact xm_c29
  | 30, _ => exact xm_c30
  | 31, _ => exact xm_c31
  | 32, _ => exact xm_c32
  | 33, _ => exact xm_c33
  | 34, _ => exact xm_c34
  | 35, _ => exact xm_c35
  | 36, _ => exact xm_c36
  | 37, _ => exact xm_c37
  | 38, _ => exact xm_c38
  | 39, _ => exact xm_c39
  | 40, _ => exact xm_c40
  | 41, _ => exact xm_c41
  | 42, _ => exact xm_c42
  | 43, _ => exact xm_c43
  | 44, _ => exact xm_c44
  | 45, _ => exact xm_c45
  | 46, _ => exact xm_c46
  | 47, _ => exact xm_c47
  | 48, _ => exact xm_c48
  | 49, _ => exact xm_c49
  | 50, _ => exact xm_c50
  | 51, _ => exact xm_c51
  | 52, _ => exact xm_c52
  | 53, _ => exact xm_c53
  | 54, _ => exact xm_c54
  | 55, _ => exact xm_c55
  | 56, _ => exact xm_c56
  | 57, _ => exact xm_c57
  | 58, _ => exact xm_c58
  | 59, _ => exact xm_c59
  | 60, _ => exact xm_c60
  | 61, _ => exact xm_c61
  | 62, _ => exact xm_c62
  | 63, _ => exact xm_c63
  | 64, _ => exact xm_c64
  | 65, _ => exact xm_c65
  | 66, _ => exact xm_c66
  | 67, _ => exact xm_c67
  | 68, _ => exact xm_c68
  | 69, _ => exact xm_c69
  | 70, _ => exact xm_c70
  | 71, _ => exact xm_c71
  | 72, _ => exact xm_c72
  | 73, _ => exact xm_c73
  | 74, _ => exact xm_c74
  | 75, _ => exact xm_c75
  | 76, _ => exact xm_c76
  | 77, _ => exact xm_c77
  | 78, _ => exact xm_c78
  | 79, _ => exact xm_c79
  | 80, _ => exact xm_c80
  | 81, _ => exact xm_c81
  | 82, _ => exact xm_c82
  | 83, _ => exact xm_c83
  | 84, _ => exact xm_c84
  | 85, _ => exact xm_c85
  | 86, _ => exact xm_c86
  | 87, _ => exact xm_c87
  | 88, _ => exact xm_c88
  | 89, _ => exact xm_c89
  | 90, _ => exact xm_c90
  | 91, _ => exact xm_c91
  | 92, _ => exact xm_c92
  | 93, _ => exact xm_c93
  | 94, _ => exact xm_c94
  | 95, _ => exact xm_c95
  | 96, _ => exact xm_c96
  | 97, _ => exact xm_c97
  | 98, _ => exact xm_c98
  | 99, _ => exact xm_c99
  | 100, _ => exact xm_c100
  | 101, _ => exact xm_c101
  | 102, _ => exact xm_c102
  | 103, _ => exact xm_c103
  | 104, _ => exact xm_c104
  | 105, _ => exact xm_c105
  | 106, _ => exact xm_c106
  | 107, _ => exact xm_c107
  | 108, _ => exact xm_c108
  | 109, _ => exact xm_c109
  | 110, _ => exact xm_c110
  | 111, _ => exact xm_c111
  | 112, _ => exact xm_c112
  | 113, _ => exact xm_c113
  | 114, _ => exact xm_c114
  | 115, _ => exact xm_c115
  | 116, _ => exact xm_c116
  | 117, _ => exact xm_c117
  | 118, _ => exact xm_c118
  | 119, _ => exact xm_c119
  | 120, _ => exact xm_c120
  | 121, _ => exact xm_c121
  | 122, _ => exact xm_c122
  | 123, _ => exact xm_c123
  | 124, _ => exact xm_c124
  | 125, _ => exact xm_c125
  | 126, _ => exact xm_c126
  | 127, _ => exact xm_c127
  | 128, _ => exact xm_c128
  | 129, _ => exact xm_c129
  | 130, _ => exact xm_c130
  | 131, _ => exact xm_c131
  | 132, _ => exact xm_c132
  | 133, _ => exact xm_c133
  | 134, _ => exact xm_c134
  | 135, _ => exact xm_c135
  | 136, _ => exact xm_c136
  | 137, _ => exact xm_c137
  | 138, _ => exact xm_c138
  | 139, _ => exact xm_c139
  | 140, _ => exact xm_c140
  | 141, _ => exact xm_c141
  | 142, _ => exact xm_c142
  | 143, _ => exact xm_c143
  | 144, _ => exact xm_c144
  | 145, _ => exact xm_c145
  | 146, _ => exact xm_c146
  | 147, _ => exact xm_c147
  | 148, _ => exact xm_c148
  | 149, _ => exact xm_c149
  | 150, _ => exact xm_c150
  | 151, _ => exact xm_c151
  | 152, _ => exact xm_c152
  | 153, _ => exact xm_c153
  | n + 154, h => exact absurd h (by simp only [xm_N]; omega)
end
section
theorem xm_kall : ∀ y, y < xm_N → (xm_rw y).all (xm_ochk y) = true := by
  intro y hy
  match y, hy with
  | 0, _ => exact xm_k0
  | 1, _ => exact xm_k1
  | 2, _ => exact xm_k2
  | 3, _ => exact xm_k3
  | 4, _ => exact xm_k4
  | 5, _ => exact xm_k5
  | 6, _ => exact xm_k6
  | 7, _ => exact xm_k7
  | 8, _ => exact xm_k8
  | 9, _ => exact xm_k9
  | 10, _ => exact xm_k10
  | 11, _ => exact xm_k11
  | 12, _ => exact xm_k12
  | 13, _ => exact xm_k13
  | 14, _ => exact xm_k14
  | 15, _ => exact xm_k15
  | 16, _ => exact xm_k16
  | 17, _ => exact xm_k17
  | 18, _ => exact xm_k18
  | 19, _ => exact xm_k19
  | 20, _ => exact xm_k20
  | 21, _ => exact xm_k21
  | 22, _ => exact xm_k22
  | 23, _ => exact xm_k23
  | 24, _ => exact xm_k24
  | 25, _ => exact xm_k25
  | 26, _ => exact xm_k26
  | 27, _ => exact xm_k27
  | 28, _ => exact xm_k28
  | 29, _ => exact xm_k29
  | 30, _ => exact xm_k30
  | 31, _ => exact xm_k31
  | 32, _ => exact xm_k32
  | 33, _ => exact xm_k33
  | 34, _ => exact xm_k34
  | 35, _ => exact xm_k35
  | 36, _ => exact xm_k36
  | 37, _ => exact xm_k37
  | 38, _ => exact xm_k38
  | 39, _ => exact xm_k39
  | 40, _ => exact xm_k40
  | 41, _ => exact xm_k41
  | 42, _ => exact xm_k42
  | 43, _ => exact xm_k43
  | 44, _ => exact xm_k44
  | 45, _ => exact xm_k45
  | 46, _ => exact xm_k46
  | 47, _ => exact xm_k47
  | 48, _ => exact xm_k48
  | 49, _ => exact xm_k49
  | 50, _ => exact xm_k50
  | 51, _ => exact xm_k51
  | 52, _ => exact xm_k52
  | 53, _ => exact xm_k53
  | 54, _ => exact xm_k54
  | 55, _ => exact xm_k55
  | 56, _ => exact xm_k56
  | 57, _ => exact xm_k57
  | 58, _ => exact xm_k58
  | 59, _ => exact xm_k59
  | 60, _ => exact xm_k60
  | 61, _ => exact xm_k61
  | 62, _ => exact xm_k62
  | 63, _ => exact xm_k63
  | 64, _ => exact xm_k64
  | 65, _ => exact xm_k65
  | 66, _ => exact xm_k66
  | 67, _ => exact xm_k67
  | 68, _ => exact xm_k68
  | 69, _ => exact xm_k69
  | 70, _ => exact xm_k70
  | 71, _ => exact xm_k71
  | 72, _ => exact xm_k72
  | 73, _ => exact xm_k73
  | 74, _ => exact xm_k74
  | 75, _ => exact xm_k75
  | 76, _ => exact xm_k76
  | 77, _ => exact xm_k77
  | 78, _ => exact xm_k78
  | 79, _ => exact xm_k79
  | 80, _ => exact xm_k80
  | 81, _ => exact xm_k81
  | 82, _ => exact xm_k82
  | 83, _ => exact xm_k83
  | 84, _ => exact xm_k84
  | 85, _ => exact xm_k85
  | 86, _ => exact xm_k86
  | 87, _ => exact xm_k87
  | 88, _ => exact xm_k88
  | 89, _ => exact xm_k89
  | 90, _ => exact xm_k90
  | 91, _ => exact xm_k91
  | 92, _ => exact xm_k92
  | 93, _ => exact xm_k93
  | 94, _ => exact xm_k94
  | 95, _ => exact xm_k95
  | 96, _ => exact xm_k96
  | 97, _ => exact xm_k97
  | 98, _ => exact xm_k98
  | 99, _ => exact xm_k99
  | 100, _ => exact xm_k100
  | 101, _ => exact xm_k101
  | 102, _ => exact xm_k102
  | 103, _ => exact xm_k103
  | 104, _ => exact xm_k104
  | 105, _ => exact xm_k105
  | 106, _ => exact xm_k106
  | 107, _ => exact xm_k107
  | 108, _ => exact xm_k108
  | 109, _ => exact xm_k109
  | 110, _ => exact xm_k110
  | 111, _ => exact xm_k111
  | 112, _ => exact xm_k112
  | 113, _ => exact xm_k113
  | 114, _ => exact xm_k114
  | 115, _ => exact xm_k115
  | 116, _ => exact xm_k116
  | 117, _ => exact xm_k117
  | 118, _ => exact xm_k118
  | 119, _ => exact xm_k119
  | 120, _ => exact xm_k120
  | 121, _ => exact xm_k121
  | 122, _ => exact xm_k122
  | 123, _ => exact xm_k123
  | 124, _ => exact xm_k124
  | 125, _ => exact xm_k125
  | 126, _ => exact xm_k126
  | 127, _ => exact xm_k127
  | 128, _ => exact xm_k128
  | 129, _ => exact xm_k129
  | 130, _ => exact xm_k130
  | 131, _ => exact xm_k131
  | 132, _ => exact xm_k132
  | 133, _ => exact xm_k133
  | 134, _ => exact xm_k134
  | 135, _ => exact xm_k135
  | 136, _ => exact xm_k136
  | 137, _ => exact xm_k137
  | 138, _ => exact xm_k138
  | 139, _ => exact xm_k139
  | 140, _ => exact xm_k140
  | 141, _ => exact xm_k141
  | 142, _ => exact xm_k142
  | 143, _ => exact xm_k143
  | 144, _ => exact xm_k144
  | 145, _ => exact xm_k145
  | 146, _ => exact xm_k146
  | 147, _ => exact xm_k147
  | 148, _ => exact xm_k148
  | 149, _ => exact xm_k149
  | 150, _ => exact xm_k150
  | 151, _ => exact xm_k151
  | 152, _ => exact xm_k152
  | 153, _ => exact xm_k153
  | 154, _ => exact xm_k154
  | n + 155, h => exact absurd h (by simp only [xm_N]; omega)
theorem xm_plain : ∀ y, y < xm_N - 1 → y ≠ 151 → y ≠ 152 → plainName (xm_nm y).cls = true := by decide +kernel
end
section
/-! CORE, second part: the pure picture of heap and frame, and the judgement xm_X over it -/
def xm_v (base : Nat × Nat × Int32) : Value → Value
  | .ref k => .ref (base.1 + k)
  | .float u => if u = 0 then .ref base.2.1 else .int base.2.2
  | v => v
theorem xm_v_cat (base : Nat × Nat × Int32) (v : Value) : (xm_v base v).category = v.category := by
  cases v with
  | float u =>
    unfold xm_v
    by_cases h : u = 0
    · simp only [if_pos h]; rfl
    · simp only [if_neg h]; rfl
  | _ => rfl
def xm_isI (c j : Nat) : Bool := decide (xm_ty c j = .int)
def xm_fv (base : Nat × Nat × Int32) (h : xm_H) (k ci j : Nat) : Value := if xm_isI ci j = true then .int (h.2.2 k j) else va_rf ((h.2.1 k j).map (fun r => base.1 + r))
def xm_ce (G : xm_G) (base : Nat × Nat × Int32) (k : Nat) (q : Nat × Nat) (h : xm_H) (H : Heap) : Prop := match q.1 with
  | 0 => H[base.1 + k]? = some (arrV G.2.1 q.2 (fun j => .int (h.2.2 k j)))
  | 1 => H[base.1 + k]? = some (arrV G.2.2.1 q.2 (fun j => .int (h.2.2 k j)))
  | 2 => H[base.1 + k]? = some (arrV G.2.2.2.1 q.2 (fun j => va_rf ((h.2.1 k j).map (fun r => base.1 + r))))
  | ci + 3 => (∃ r : vw_C, xm_cl[ci]? = some r ∧ r.2.2 = q.2) ∧ t_OB (base.1 + k) (G.1.1 ci) q.2 (G.1.2 ci) H (xm_fv base h k ci)
def xm_W (G : xm_G) (base : Nat × Nat × Int32) (h : xm_H) (H : Heap) : Prop := H.size = base.1 + h.1.length ∧ ∀ (k : Nat) (q : Nat × Nat), h.1[k]? = some q → xm_ce G base k q h H
def xm_F (base : Nat × Nat × Int32) (s : State) (H : Heap) (locs : List Loc) : Prop := (∀ q : Nat, q < base.1 → H[q]? = s.heap[q]?) ∧ ∀ l ∈ locs, base.1 ≤ l.base
def xm_L (base : Nat × Nat × Int32) (ls : List (Option Value)) (lsA : Array Slot) (n : Nat) : Prop := lsA.size = n ∧ lv_wf lsA ∧ ls.length = n ∧ ∀ (i : Nat) (v : Value), ls[i]? = some (some v) → v.category = 1 ∧ lsA[i]? = some (.val (xm_v base v))
def xm_K (G : xm_G) (U : State) : Prop := va_K G.1 xm_cl [(G.2.1, .int), (G.2.2.1, .boolean), (G.2.2.2.1, .object "LatinLaws$Table")] U ∧ va_Nw (.methodLinkNest "LatinLaws$Turns" 74 (xm_nm xi_L_isBelow) "LatinLaws") U ∧ va_Nw (.methodLinkNest "LatinLaws$Renamings" 62 (xm_nm xi_L_isBelow) "LatinLaws") U ∧ va_AO "LatinLaws$Table" U
theorem xm_K.warm {G : xm_G} {s U : State} (hW : s.WarmedH U.vm) (h : xm_K G s) : xm_K G U := ⟨va_K.moved hW.alike h.1, va_Nw.warmM hW h.2.1, va_Nw.warmM hW h.2.2.1, va_AO.moved hW.alike h.2.2.2⟩
theorem xm_K.calling {G : xm_G} {U : State} {g : JFrame} {mk : MethodId} {a : Array Value} (h : xm_K G U) : xm_K G (U.calling g mk a) :=
  ⟨va_K.moved (u := U) (U := U.calling g mk a) (Vm.Alike.refl U.vm) h.1, va_Nw.same (u := U) (U := U.calling g mk a) rfl rfl h.2.1, va_Nw.same (u := U) (U := U.calling g mk a) rfl rfl h.2.2.1, va_AO.moved (u := U) (U := U.calling g mk a) (Vm.Alike.refl U.vm) h.2.2.2⟩
abbrev xm_tb : List Cond := lw_tbl.filter goodWord
def xm_S (G : xm_G) (y : Nat) (p : Program) (s : State) (m : MethodId) (args : Array Value) (meth : Method) (c : Code) (R : Room) (d : Nat) (base : Nat × Nat × Int32) : Prop :=
  (p.tables.exec = Jvm.exec ∧ c.code = xm_by y ∧ meth.sig.returnType = xm_rt y ∧ c.maxLocals = xm_mL y ∧ s.vm.findClass (xm_nm y).cls = some m.cls) ∧ ((∀ w ∈ xm_tb, w.before args s = true) ∧ xm_K G s ∧ meth.locks = false ∧ ((xm_nm y).name = "<init>" → meth.name = "<init>")) ∧ (d ≤ R.frames ∧ d * 60 ≤ R.locals ∧ y < xm_N) ∧ (base.1 ≤ s.heap.size ∧ (y = xi_law → va_X base.2.1 G.2.2.2.2.1 G.2.2.2.2.2 s s.heap ∧ base.2.1 < base.1 ∧ base.2.2 = G.2.2.2.2.2 3))
def xm_end (y pc : Nat) (r : Option Value) : Prop := match r with
  | none => xm_rt y = none ∧ decode (xm_by y) pc = .ok (.return_, 1)
  | some (.int v) => decode (xm_by y) pc = .ok (.ireturn, 1) ∧ ∃ ty, xm_rt y = some ty ∧ narrow ty (.int v) = .int v
  | _ => False
def xm_X (G : xm_G) (l : Launch) (y d mc ms cs zs pc : Nat) (ls : List (Option Value)) (st : List Value) (h : xm_H) (post : Option Value → xm_H → Prop) : Prop :=
  ∀ (p : Program) (e : Env) (R : Room) (s : State) (m : MethodId) (args : Array Value) (below : List Frame) (meth : Method) (c : Code) (H : Heap) (locs : List Loc) (base : Nat × Nat × Int32) (lsA : Array Slot) (Q : State → Prop),
    xm_S G y p s m args meth c R d base → mc ≤ R.cells → ms ≤ R.slots → xm_L base ls lsA (xm_mL y) → xm_W G base h H → xm_F base s H locs →
    (∀ (pc' : Nat) (lsA' : Array Slot) (H' : Heap) (locs' : List Loc) (cs' zs' : Nat) (r : Option Value) (h' : xm_H), xm_end y pc' r → cs' ≤ mc → zs' ≤ ms → post r h' → xm_W G base h' H' → xm_F base s H' locs' → W p l e R s m args below meth c H' locs' cs' zs' Q (F0 m pc' lsA' (r.toList.map (xm_v base)))) →
    W p l e R s m args below meth c H locs cs zs Q (F0 m pc lsA (st.map (xm_v base)))
theorem xm_dec {y pc : Nat} {o : xm_Op} (hy : y < xm_N) (h : xm_op y pc = some o) : o.1 = pc ∧ decode (xm_by y) pc = .ok (o.2.1, if xm_len o.2.1 = 0 then o.2.2.1 else xm_len o.2.1) ∧ xm_lnk y o = true := by
  have h1 := List.find?_some h
  have h2 := List.mem_of_find?_eq_some h
  have h3 := List.all_eq_true.mp (xm_kall y hy) o h2
  simp only [xm_ochk, Bool.and_eq_true, Bool.or_eq_true, decide_eq_true_eq] at h3
  have h4 : o.1 = pc := by simpa using h1
  refine ⟨h4, ?_, h3.2⟩
  rw [← h4, h3.1.1]
  by_cases hz : xm_len o.2.1 = 0
  · rw [if_pos hz]
  · rw [if_neg hz]
    rcases h3.1.2 with h5 | h5
    · exact absurd h5 hz
    · rw [h5]
theorem xm_wd {args : Array Value} {s : State} (hts : ∀ w ∈ xm_tb, w.before args s = true) {w : Cond} (h : xm_in w = true) : w.before args s = true := by
  simp only [xm_in, Bool.and_eq_true, decide_eq_true_eq] at h
  exact hts w (List.mem_filter.mpr h)
/-! locals -/
def xm_pr (base : Nat × Nat × Int32) (ls : List (Option Value)) : List (Nat × Value) := (List.range ls.length).filterMap (fun i => match ls[i]? with
  | some (some v) => some (i, xm_v base v)
  | _ => none)
theorem xm_pr_in {base : Nat × Nat × Int32} {ls : List (Option Value)} {i : Nat} {w : Value} : (i, w) ∈ xm_pr base ls ↔ ∃ v, ls[i]? = some (some v) ∧ w = xm_v base v := by
  constructor
  · intro h
    obtain ⟨j, -, hj⟩ := List.mem_filterMap.mp h
    cases hl : ls[j]? with
    | none => rw [hl] at hj; cases hj
    | some o =>
      cases o with
      | none => rw [hl] at hj; cases hj
      | some v =>
        rw [hl] at hj
        cases hj
        exact ⟨v, hl, rfl⟩
  · rintro ⟨v, h, rfl⟩
    refine List.mem_filterMap.mpr ⟨i, List.mem_range.mpr ?_, by rw [h]⟩
    exact (List.getElem?_eq_some_iff.mp h).1
theorem xm_L.has {base : Nat × Nat × Int32} {ls : List (Option Value)} {lsA : Array Slot} {n : Nat} (h : xm_L base ls lsA n) : lv_has lsA n (xm_pr base ls) := by
  refine ⟨h.1, h.2.1, fun q hq => ?_⟩
  obtain ⟨i, w⟩ := q
  obtain ⟨v, h1, rfl⟩ := xm_pr_in.mp hq
  exact (h.2.2.2 i v h1).2
theorem xm_L.set {base : Nat × Nat × Int32} {ls : List (Option Value)} {lsA lsB : Array Slot} {n i : Nat} {x : Value} (h : xm_L base ls lsA n) (hc : x.category = 1) (h2 : lv_has lsB n ((i, xm_v base x) :: (xm_pr base ls).filter (fun q => !(q.1 == i) && !(q.1 + 1 == i && q.2.category == 2)))) : xm_L base (ls.set i (some x)) lsB n := by
  refine ⟨h2.1, h2.2.1, by rw [List.length_set]; exact h.2.2.1, fun j v hj => ?_⟩
  rw [List.getElem?_set] at hj
  by_cases hij : i = j
  · subst hij
    rw [if_pos rfl] at hj
    split at hj
    · cases hj
      exact ⟨hc, h2.2.2 _ List.mem_cons_self⟩
    · cases hj
  · rw [if_neg hij] at hj
    have hq := h.2.2.2 j v hj
    refine ⟨hq.1, h2.2.2 (j, xm_v base v) (List.mem_cons_of_mem _ (List.mem_filter.mpr ⟨xm_pr_in.mpr ⟨v, hj, rfl⟩, ?_⟩))⟩
    have h3 : ¬ j = i := fun q => hij q.symm
    have h4 : (xm_v base v).category = 1 := (xm_v_cat base v).trans hq.1
    simp [h3, h4]
def xm_le : List (Option Value) → List (Option Value) → Prop
  | [], [] => True
  | none :: a, _ :: b => xm_le a b
  | some v :: a, w :: b => w = some v ∧ xm_le a b
  | _, _ => False
theorem xm_le_spec : ∀ (a b : List (Option Value)), xm_le a b → a.length = b.length ∧ ∀ (i : Nat) (v : Value), a[i]? = some (some v) → b[i]? = some (some v)
  | [], [], _ => ⟨rfl, fun i v h => by simp at h⟩
  | none :: a, w :: b, h => by
    obtain ⟨h1, h2⟩ := xm_le_spec a b h
    refine ⟨by simp [h1], fun i v hi => ?_⟩
    cases i with
    | zero => simp at hi
    | succ i => simpa using h2 i v (by simpa using hi)
  | some u :: a, w :: b, h => by
    obtain ⟨h0, h1⟩ := h
    obtain ⟨h1, h2⟩ := xm_le_spec a b h1
    refine ⟨by simp [h1], fun i v hi => ?_⟩
    cases i with
    | zero => simp at hi; subst hi; simp [h0]
    | succ i => simpa using h2 i v (by simpa using hi)
  | [], _ :: _, h => h.elim
  | none :: _, [], h => h.elim
  | some _ :: _, [], h => h.elim
theorem xm_sub {G : xm_G} {l : Launch} {y d mc ms cs zs pc : Nat} {ls ls' : List (Option Value)} {st : List Value} {h : xm_H} {post : Option Value → xm_H → Prop} (hle : xm_le ls ls') (k : xm_X G l y d mc ms cs zs pc ls st h post) : xm_X G l y d mc ms cs zs pc ls' st h post := by
  obtain ⟨h1, h2⟩ := xm_le_spec _ _ hle
  intro p e R s m args below meth c H locs base lsA Q hS hmc hms hL hW hF hk
  exact k p e R s m args below meth c H locs base lsA Q hS hmc hms ⟨hL.1, hL.2.1, h1.trans hL.2.2.1, fun i v hi => hL.2.2.2 i v (h2 i v hi)⟩ hW hF hk
theorem xm_mono {G : xm_G} {l : Launch} {y d mc ms cs zs pc : Nat} {ls : List (Option Value)} {st : List Value} {h : xm_H} {post post' : Option Value → xm_H → Prop} (hp : ∀ r h', post r h' → post' r h') (k : xm_X G l y d mc ms cs zs pc ls st h post) : xm_X G l y d mc ms cs zs pc ls st h post' := by
  intro p e R s m args below meth c H locs base lsA Q hS hmc hms hL hW hF hk
  exact k p e R s m args below meth c H locs base lsA Q hS hmc hms hL hW hF (fun pc' lsA' H' locs' cs' zs' r h' a1 a2 a3 a4 => hk pc' lsA' H' locs' cs' zs' r h' a1 a2 a3 (hp r h' a4))
/-! the heap's picture under a change of one cell -/
theorem xm_ce.kept {G : xm_G} {base : Nat × Nat × Int32} {k : Nat} {q : Nat × Nat} {h h1 : xm_H} {H H1 : Heap} (hr : h1.2.1 k = h.2.1 k) (hm : h1.2.2 k = h.2.2 k) (hH : H1[base.1 + k]? = H[base.1 + k]?) (hc : xm_ce G base k q h H) : xm_ce G base k q h1 H1 := by
  obtain ⟨t, n⟩ := q
  match t, hc with
  | 0, hc => show H1[base.1 + k]? = _; rw [hH, hm]; exact hc
  | 1, hc => show H1[base.1 + k]? = _; rw [hH, hm]; exact hc
  | 2, hc => show H1[base.1 + k]? = _; rw [hH, hr]; exact hc
  | ci + 3, hc =>
    refine ⟨hc.1, ?_⟩
    have e : xm_fv base h1 k ci = xm_fv base h k ci := by
      funext j
      unfold xm_fv
      rw [hm, hr]
    rw [e]
    exact hc.2.kept hH
theorem xm_ce.lt {G : xm_G} {base : Nat × Nat × Int32} {k : Nat} {q : Nat × Nat} {h : xm_H} {H : Heap} (hc : xm_ce G base k q h H) : base.1 + k < H.size := by
  obtain ⟨t, n⟩ := q
  match t, hc with
  | 0, hc => exact (Array.getElem?_eq_some_iff.mp hc).1
  | 1, hc => exact (Array.getElem?_eq_some_iff.mp hc).1
  | 2, hc => exact (Array.getElem?_eq_some_iff.mp hc).1
  | ci + 3, hc =>
    obtain ⟨-, cell, h1, -⟩ := hc
    exact (Array.getElem?_eq_some_iff.mp h1).1
theorem xm_W.one {G : xm_G} {base : Nat × Nat × Int32} {k : Nat} {q : Nat × Nat} {h h1 : xm_H} {H H1 : Heap} (hW : xm_W G base h H) (hk : h.1[k]? = some q) (hs : h1.1 = h.1) (hr : ∀ j, j ≠ k → h1.2.1 j = h.2.1 j) (hm : ∀ j, j ≠ k → h1.2.2 j = h.2.2 j) (hz : H1.size = H.size) (oq : ∀ j : Nat, j ≠ base.1 + k → H1[j]? = H[j]?) (he : xm_ce G base k q h1 H1) : xm_W G base h1 H1 := by
  refine ⟨by rw [hz, hs]; exact hW.1, fun j r hj => ?_⟩
  rw [hs] at hj
  by_cases e : j = k
  · subst e
    rw [hk] at hj
    cases hj
    exact he
  · exact xm_ce.kept (hr j e) (hm j e) (oq _ (by omega)) (hW.2 j r hj)
theorem xm_F.one {base : Nat × Nat × Int32} {a : Nat} {s : State} {H H1 : Heap} {locs : List Loc} {i : Nat} (hF : xm_F base s H locs) (ha : base.1 ≤ a) (oq : ∀ j : Nat, j ≠ a → H1[j]? = H[j]?) : xm_F base s H1 (locs ++ [⟨a, i⟩]) := by
  refine ⟨fun q hq => (oq q (by omega)).trans (hF.1 q hq), fun l hl => ?_⟩
  rcases List.mem_append.mp hl with h | h
  · exact hF.2 l h
  · rw [List.mem_singleton.mp h]
    exact ha
/-! the pure instructions -/
def xm_bin (st : List Value) (f : Int32 → Int32 → Int32) : Option (List Value) := match st with
  | .int y :: .int x :: r => some (.int (f x y) :: r)
  | _ => none
theorem xm_bin_spec {st st' : List Value} {f : Int32 → Int32 → Int32} (h : xm_bin st f = some st') : ∃ x y r, st = .int y :: .int x :: r ∧ st' = .int (f x y) :: r := by
  unfold xm_bin at h
  split at h
  · cases h
    exact ⟨_, _, _, rfl, rfl⟩
  · cases h
def xm_ldi (ls : List (Option Value)) (i : Nat) (st : List Value) : Option (List Value) := match ls[i]? with
  | some (some (.int x)) => some (.int x :: st)
  | some (some (.float u)) => if u = 0 then none else some (.float u :: st)
  | _ => none
theorem xm_ldi_spec {ls : List (Option Value)} {i : Nat} {st st' : List Value} (h : xm_ldi ls i st = some st') : ∃ v, ls[i]? = some (some v) ∧ st' = v :: st ∧ ∀ base : Nat × Nat × Int32, ∃ x : Int32, xm_v base v = .int x := by
  unfold xm_ldi at h
  split at h
  · cases h
    rename_i x hx
    exact ⟨_, hx, rfl, fun (base : Nat × Nat × Int32) => ⟨_, rfl⟩⟩
  · rename_i x hx
    split at h
    · cases h
    · cases h
      rename_i h0
      exact ⟨_, hx, rfl, fun (base : Nat × Nat × Int32) => ⟨base.2.2, by unfold xm_v; simp only [if_neg h0]⟩⟩
  · cases h
def xm_lda (ls : List (Option Value)) (i : Nat) (st : List Value) : Option (List Value) := match ls[i]? with
  | some (some (.ref x)) => some (.ref x :: st)
  | some (some (.float u)) => if u = 0 then some (.float u :: st) else none
  | _ => none
theorem xm_lda_spec {ls : List (Option Value)} {i : Nat} {st st' : List Value} (h : xm_lda ls i st = some st') : ∃ v, ls[i]? = some (some v) ∧ st' = v :: st ∧ ∀ base : Nat × Nat × Int32, ∃ q : Nat, xm_v base v = .ref q := by
  unfold xm_lda at h
  split at h
  · cases h
    rename_i x hx
    exact ⟨_, hx, rfl, fun base => ⟨_, rfl⟩⟩
  · rename_i x hx
    split at h
    · cases h
      rename_i h0
      exact ⟨_, hx, rfl, fun base => ⟨base.2.1, by unfold xm_v; simp only [if_pos h0]⟩⟩
    · cases h
  · cases h
def xm_sti (ls : List (Option Value)) (i : Nat) (st : List Value) : Option (List (Option Value) × List Value) := match st with
  | .int x :: r => if i < ls.length then some (ls.set i (some (.int x)), r) else none
  | _ => none
theorem xm_sti_spec {ls ls' : List (Option Value)} {i : Nat} {st st' : List Value} (h : xm_sti ls i st = some (ls', st')) : ∃ x, st = .int x :: st' ∧ i < ls.length ∧ ls' = ls.set i (some (.int x)) := by
  unfold xm_sti at h
  split at h
  · split at h
    · cases h
      rename_i hi
      exact ⟨_, rfl, hi, rfl⟩
    · cases h
  · cases h
def xm_sta (ls : List (Option Value)) (i : Nat) (st : List Value) : Option (List (Option Value) × List Value) := match st with
  | .ref x :: r => if i < ls.length then some (ls.set i (some (.ref x)), r) else none
  | _ => none
theorem xm_sta_spec {ls ls' : List (Option Value)} {i : Nat} {st st' : List Value} (h : xm_sta ls i st = some (ls', st')) : ∃ x, st = .ref x :: st' ∧ i < ls.length ∧ ls' = ls.set i (some (.ref x)) := by
  unfold xm_sta at h
  split at h
  · split at h
    · cases h
      rename_i hi
      exact ⟨_, rfl, hi, rfl⟩
    · cases h
  · cases h
def xm_inc (ls : List (Option Value)) (i : Nat) (n : Int) : Option (List (Option Value)) := match ls[i]? with
  | some (some (.int x)) => some (ls.set i (some (.int (x + Int32.ofInt n))))
  | _ => none
theorem xm_inc_spec {ls ls' : List (Option Value)} {i : Nat} {n : Int} (h : xm_inc ls i n = some ls') : ∃ x, ls[i]? = some (some (.int x)) ∧ ls' = ls.set i (some (.int (x + Int32.ofInt n))) := by
  unfold xm_inc at h
  split at h
  · cases h
    rename_i x hx
    exact ⟨x, hx, rfl⟩
  · cases h
def xm_dup (st : List Value) : Option (List Value) := match st with
  | a :: r => if a.category = 1 then some (a :: a :: r) else none
  | _ => none
def xm_dup2 (st : List Value) : Option (List Value) := match st with
  | a :: b :: r => if a.category = 1 then (if b.category = 1 then some (a :: b :: a :: b :: r) else none) else none
  | _ => none
def xm_stp (o : xm_Op) (ls : List (Option Value)) (st : List Value) : Option (Nat × List (Option Value) × List Value) := match o.2.1 with
  | .iconst n => some (o.1 + 1, ls, .int (Int32.ofInt n) :: st)
  | .bipush n => some (o.1 + 2, ls, .int (Int8.ofInt n).toInt32 :: st)
  | .sipush n => some (o.1 + 3, ls, .int (Int16.ofInt n).toInt32 :: st)
  | .ldc _ => some (o.1 + 2, ls, .int (Int32.ofNat o.2.2.2.1) :: st)
  | .ldc_w _ => some (o.1 + 3, ls, .int (Int32.ofNat o.2.2.2.1) :: st)
  | .iload i => (xm_ldi ls i st).map (fun r => (o.1 + 2, ls, r))
  | .iload_n i => (xm_ldi ls i.val st).map (fun r => (o.1 + 1, ls, r))
  | .aload i => (xm_lda ls i st).map (fun r => (o.1 + 2, ls, r))
  | .aload_n i => (xm_lda ls i.val st).map (fun r => (o.1 + 1, ls, r))
  | .istore i => (xm_sti ls i st).map (fun r => (o.1 + 2, r))
  | .istore_n i => (xm_sti ls i.val st).map (fun r => (o.1 + 1, r))
  | .astore i => (xm_sta ls i st).map (fun r => (o.1 + 2, r))
  | .astore_n i => (xm_sta ls i.val st).map (fun r => (o.1 + 1, r))
  | .iinc i n => (xm_inc ls i n).map (fun r => (o.1 + 3, r, st))
  | .iadd => (xm_bin st (fun x y => x + y)).map (fun r => (o.1 + 1, ls, r))
  | .isub => (xm_bin st (fun x y => x - y)).map (fun r => (o.1 + 1, ls, r))
  | .imul => (xm_bin st (fun x y => x * y)).map (fun r => (o.1 + 1, ls, r))
  | .iand => (xm_bin st (fun x y => x &&& y)).map (fun r => (o.1 + 1, ls, r))
  | .ior => (xm_bin st (fun x y => x ||| y)).map (fun r => (o.1 + 1, ls, r))
  | .ixor => (xm_bin st (fun x y => x ^^^ y)).map (fun r => (o.1 + 1, ls, r))
  | .ishl => (xm_bin st (fun x y => x <<< (y &&& 31))).map (fun r => (o.1 + 1, ls, r))
  | .ishr => (xm_bin st (fun x y => x >>> (y &&& 31))).map (fun r => (o.1 + 1, ls, r))
  | .iushr => (xm_bin st (fun x y => (x.toUInt32 >>> (y.toUInt32 &&& Int32.toUInt32 31)).toInt32)).map (fun r => (o.1 + 1, ls, r))
  | .dup => (xm_dup st).map (fun r => (o.1 + 1, ls, r))
  | .dup2 => (xm_dup2 st).map (fun r => (o.1 + 1, ls, r))
  | .goto f => match (o.1 : Int) + f with
    | .ofNat t => some (t, ls, st)
    | _ => none
  | _ => none
theorem xm_osome {α β : Type} {o : Option α} {f : α → β} {b : β} (h : o.map f = some b) : ∃ a, o = some a ∧ f a = b := Option.map_eq_some_iff.mp h
set_option maxHeartbeats 4000000 in
theorem xm_step {G : xm_G} {l : Launch} {y d mc ms cs zs pc : Nat} {ls : List (Option Value)} {st : List Value} {h : xm_H} {post : Option Value → xm_H → Prop} {o : xm_Op} {r : Nat × List (Option Value) × List Value} (ho : xm_op y pc = some o) (hst : xm_stp o ls st = some r) (k : xm_X G l y d mc ms cs zs r.1 r.2.1 r.2.2 h post) : xm_X G l y d mc ms cs zs pc ls st h post := by
  intro p e R s m args below meth c H locs base lsA Q hS hmc hms hL hW hF hk
  obtain ⟨⟨hx, hb, hr, hml, hown⟩, ⟨hts, hK, hlk, hnm⟩, ⟨hfr, hlo, hy⟩, hbs⟩ := hS
  obtain ⟨e1, hd, hln⟩ := xm_dec hy ho
  have K : ∀ lsB, xm_L base r.2.1 lsB (xm_mL y) → W p l e R s m args below meth c H locs cs zs Q (F0 m r.1 lsB (r.2.2.map (xm_v base))) := fun lsB hLB => k p e R s m args below meth c H locs base lsB Q ⟨⟨hx, hb, hr, hml, hown⟩, ⟨hts, hK, hlk, hnm⟩, ⟨hfr, hlo, hy⟩, hbs⟩ hmc hms hLB hW hF hk
  clear k hk ho
  obtain ⟨q, ins, len, a, b⟩ := o
  dsimp only at e1 hd hln
  subst e1
  have hlt : ∀ {i : Nat}, i < ls.length → i < xm_mL y := fun {i} h => by rw [← hL.2.2.1]; exact h
  cases ins with
  | iconst n => cases hst; exact lv_iconst hx hb hd rfl (K lsA hL)
  | bipush n => cases hst; exact lv_bipush hx hb hd rfl (K lsA hL)
  | sipush n => cases hst; exact lv_sipush hx hb hd rfl (K lsA hL)
  | ldc i => cases hst; exact lv_ldc hx hb hown (xm_wd hts hln) hd (K lsA hL)
  | ldc_w i => cases hst; exact lv_ldcw hx hb hown (xm_wd hts hln) hd (K lsA hL)
  | iload i =>
    obtain ⟨z, h1, rfl⟩ := xm_osome hst
    obtain ⟨x, h2, rfl, h3⟩ := xm_ldi_spec h1
    obtain ⟨q3, h3⟩ := h3 base
    have h4 := (hL.2.2.2 _ _ h2).2
    have K9 := K lsA hL
    simp only [List.map_cons] at K9
    rw [h3] at h4 K9
    exact lv_iload hx hb hd h4 K9
  | iload_n i =>
    obtain ⟨z, h1, rfl⟩ := xm_osome hst
    obtain ⟨x, h2, rfl, h3⟩ := xm_ldi_spec h1
    obtain ⟨q3, h3⟩ := h3 base
    have h4 := (hL.2.2.2 _ _ h2).2
    have K9 := K lsA hL
    simp only [List.map_cons] at K9
    rw [h3] at h4 K9
    exact lv_iload_n hx hb hd rfl h4 K9
  | aload i =>
    obtain ⟨z, h1, rfl⟩ := xm_osome hst
    obtain ⟨x, h2, rfl, h3⟩ := xm_lda_spec h1
    obtain ⟨q3, h3⟩ := h3 base
    have h4 := (hL.2.2.2 _ _ h2).2
    have K9 := K lsA hL
    simp only [List.map_cons] at K9
    rw [h3] at h4 K9
    exact lv_aload hx hb hd h4 K9
  | aload_n i =>
    obtain ⟨z, h1, rfl⟩ := xm_osome hst
    obtain ⟨x, h2, rfl, h3⟩ := xm_lda_spec h1
    obtain ⟨q3, h3⟩ := h3 base
    have h4 := (hL.2.2.2 _ _ h2).2
    have K9 := K lsA hL
    simp only [List.map_cons] at K9
    rw [h3] at h4 K9
    exact lv_aload_n hx hb hd rfl h4 K9
  | istore i =>
    obtain ⟨⟨la, sa⟩, h1, rfl⟩ := xm_osome hst
    obtain ⟨x, rfl, h2, rfl⟩ := xm_sti_spec h1
    exact lv_istore hx hb hd hL.has (hlt h2) rfl (fun lsB hB => K lsB (hL.set rfl hB))
  | istore_n i =>
    obtain ⟨⟨la, sa⟩, h1, rfl⟩ := xm_osome hst
    obtain ⟨x, rfl, h2, rfl⟩ := xm_sti_spec h1
    exact lv_istore_n hx hb hd rfl hL.has (hlt h2) rfl (fun lsB hB => K lsB (hL.set rfl hB))
  | astore i =>
    obtain ⟨⟨la, sa⟩, h1, rfl⟩ := xm_osome hst
    obtain ⟨x, rfl, h2, rfl⟩ := xm_sta_spec h1
    exact lv_astore hx hb hd hL.has (hlt h2) rfl (fun lsB hB => K lsB (hL.set (x := .ref x) rfl hB))
  | astore_n i =>
    obtain ⟨⟨la, sa⟩, h1, rfl⟩ := xm_osome hst
    obtain ⟨x, rfl, h2, rfl⟩ := xm_sta_spec h1
    exact lv_astore_n hx hb hd rfl hL.has (hlt h2) rfl (fun lsB hB => K lsB (hL.set (x := .ref x) rfl hB))
  | iinc i n =>
    obtain ⟨la, h1, rfl⟩ := xm_osome hst
    obtain ⟨x, h2, rfl⟩ := xm_inc_spec h1
    obtain ⟨k9, hk9⟩ := List.getElem?_of_mem (xm_pr_in.mpr ⟨_, h2, rfl⟩ : (i, xm_v base (.int x)) ∈ xm_pr base ls)
    exact lv_iinc hx hb hd hL.has hk9 rfl (hlt (List.getElem?_eq_some_iff.mp h2).1) rfl (fun lsB hB => K lsB (hL.set (x := .int (x + Int32.ofInt n)) rfl hB))
  | iadd => obtain ⟨z, h1, rfl⟩ := xm_osome hst; obtain ⟨x, y2, r2, rfl, rfl⟩ := xm_bin_spec h1; exact lv_iadd hx hb hd (K lsA hL)
  | isub => obtain ⟨z, h1, rfl⟩ := xm_osome hst; obtain ⟨x, y2, r2, rfl, rfl⟩ := xm_bin_spec h1; exact lv_isub hx hb hd (K lsA hL)
  | imul => obtain ⟨z, h1, rfl⟩ := xm_osome hst; obtain ⟨x, y2, r2, rfl, rfl⟩ := xm_bin_spec h1; exact lv_imul hx hb hd (K lsA hL)
  | iand => obtain ⟨z, h1, rfl⟩ := xm_osome hst; obtain ⟨x, y2, r2, rfl, rfl⟩ := xm_bin_spec h1; exact lv_iand hx hb hd (K lsA hL)
  | ior => obtain ⟨z, h1, rfl⟩ := xm_osome hst; obtain ⟨x, y2, r2, rfl, rfl⟩ := xm_bin_spec h1; exact lv_ior hx hb hd (K lsA hL)
  | ixor => obtain ⟨z, h1, rfl⟩ := xm_osome hst; obtain ⟨x, y2, r2, rfl, rfl⟩ := xm_bin_spec h1; exact lv_ixor hx hb hd (K lsA hL)
  | ishl => obtain ⟨z, h1, rfl⟩ := xm_osome hst; obtain ⟨x, y2, r2, rfl, rfl⟩ := xm_bin_spec h1; exact lv_ishl hx hb hd (K lsA hL)
  | ishr => obtain ⟨z, h1, rfl⟩ := xm_osome hst; obtain ⟨x, y2, r2, rfl, rfl⟩ := xm_bin_spec h1; exact lv_ishr hx hb hd (K lsA hL)
  | iushr => obtain ⟨z, h1, rfl⟩ := xm_osome hst; obtain ⟨x, y2, r2, rfl, rfl⟩ := xm_bin_spec h1; exact lv_iushr hx hb hd rfl (K lsA hL)
  | dup =>
    obtain ⟨z, h1, rfl⟩ := xm_osome hst
    unfold xm_dup at h1
    split at h1
    · split at h1
      · cases h1
        rename_i hc
        exact lv_dup hx hb hd ((xm_v_cat _ _).trans hc) (K lsA hL)
      · cases h1
    · cases h1
  | dup2 =>
    obtain ⟨z, h1, rfl⟩ := xm_osome hst
    unfold xm_dup2 at h1
    split at h1
    · split at h1
      · split at h1
        · cases h1
          rename_i hc1 hc2
          exact lv_dup2_11 hx hb hd ((xm_v_cat _ _).trans hc1) ((xm_v_cat _ _).trans hc2) (K lsA hL)
        · cases h1
      · cases h1
    · cases h1
  | goto f =>
    simp only [xm_stp] at hst
    split at hst
    · cases hst
      rename_i t ht
      exact lv_goto hx hb hd ht (K lsA hL)
    · cases hst
  | _ => cases hst
end
section
/-! CORE, third part: branches, the heap's instructions -/
def xm_cd (c : ClassFile.Cond) (x y : Int32) : Prop := match c with
  | .eq => x = y
  | .ne => ¬ x = y
  | .lt => x < y
  | .ge => y ≤ x
  | .gt => y < x
  | .le => x ≤ y
def xm_br (o : xm_Op) (st : List Value) : Option (ClassFile.Cond × Int32 × Int32 × Nat × List Value) := match o.2.1 with
  | .ifCond c f => match st with
    | .int x :: r => match (o.1 : Int) + f with
      | .ofNat t => some (c, x, 0, t, r)
      | _ => none
    | _ => none
  | .if_icmp c f => match st with
    | .int y :: .int x :: r => match (o.1 : Int) + f with
      | .ofNat t => some (c, x, y, t, r)
      | _ => none
    | _ => none
  | _ => none
set_option maxHeartbeats 4000000 in
theorem xm_if {G : xm_G} {l : Launch} {y d mc ms cs zs pc : Nat} {ls : List (Option Value)} {st : List Value} {h : xm_H} {post : Option Value → xm_H → Prop} {o : xm_Op} {b : ClassFile.Cond × Int32 × Int32 × Nat × List Value} (ho : xm_op y pc = some o) (hst : xm_br o st = some b) (kt : xm_cd b.1 b.2.1 b.2.2.1 → xm_X G l y d mc ms cs zs b.2.2.2.1 ls b.2.2.2.2 h post) (kf : ¬ xm_cd b.1 b.2.1 b.2.2.1 → xm_X G l y d mc ms cs zs (pc + 3) ls b.2.2.2.2 h post) : xm_X G l y d mc ms cs zs pc ls st h post := by
  intro p e R s m args below meth c H locs base lsA Q hS hmc hms hL hW hF hk
  have KT : xm_cd b.1 b.2.1 b.2.2.1 → W p l e R s m args below meth c H locs cs zs Q (F0 m b.2.2.2.1 lsA (b.2.2.2.2.map (xm_v base))) := fun q => kt q p e R s m args below meth c H locs base lsA Q hS hmc hms hL hW hF hk
  have KF : ¬ xm_cd b.1 b.2.1 b.2.2.1 → W p l e R s m args below meth c H locs cs zs Q (F0 m (pc + 3) lsA (b.2.2.2.2.map (xm_v base))) := fun q => kf q p e R s m args below meth c H locs base lsA Q hS hmc hms hL hW hF hk
  obtain ⟨⟨hx, hb, hr, hml, hown⟩, ⟨hts, hK, hlk, hnm⟩, ⟨hfr, hlo, hy⟩, hbs⟩ := hS
  obtain ⟨e1, hd, hln⟩ := xm_dec hy ho
  clear kt kf hk ho
  obtain ⟨q, ins, len, a, b9⟩ := o
  dsimp only at e1 hd hln
  subst e1
  cases ins with
  | ifCond cnd f =>
    simp only [xm_br] at hst
    split at hst
    · split at hst
      · cases hst
        rename_i t ht
        cases cnd with
        | eq => exact lv_if_eq hx hb hd ht KT KF
        | ne => exact lv_if_ne hx hb hd ht KT (fun q => KF (fun n => n q))
        | lt => exact lv_if_lt hx hb hd ht KT KF
        | ge => exact lv_if_ge hx hb hd ht KT KF
        | gt => exact lv_if_gt hx hb hd ht KT KF
        | le => exact lv_if_le hx hb hd ht KT KF
      · cases hst
    · cases hst
  | if_icmp cnd f =>
    simp only [xm_br] at hst
    split at hst
    · split at hst
      · cases hst
        rename_i t ht
        cases cnd with
        | eq => exact lv_icmp_eq hx hb hd ht KT KF
        | ne => exact lv_icmp_ne hx hb hd ht KT (fun q => KF (fun n => n q))
        | lt => exact lv_icmp_lt hx hb hd ht KT KF
        | ge => exact lv_icmp_ge hx hb hd ht KT KF
        | gt => exact lv_icmp_gt hx hb hd ht KT KF
        | le => exact lv_icmp_le hx hb hd ht KT KF
      · cases hst
    · cases hst
  | _ => cases hst
theorem xm_idiv {G : xm_G} {l : Launch} {y d mc ms cs zs pc : Nat} {ls : List (Option Value)} {st : List Value} {h : xm_H} {post : Option Value → xm_H → Prop} {len a b : Nat} {u w : Int32} (ho : xm_op y pc = some (pc, .idiv, len, a, b)) (hz : ¬ w = 0) (k : xm_X G l y d mc ms cs zs (pc + 1) ls (.int (u / w) :: st) h post) : xm_X G l y d mc ms cs zs pc ls (.int w :: .int u :: st) h post := by
  intro p e R s m args below meth c H locs base lsA Q hS hmc hms hL hW hF hk
  have hS' := hS
  obtain ⟨⟨hx, hb, hr, hml, hown⟩, ⟨hts, hK, hlk, hnm⟩, ⟨hfr, hlo, hy⟩, hbs⟩ := hS
  obtain ⟨e1, hd, hln⟩ := xm_dec hy ho
  exact lv_idiv hx hb hd hz (k p e R s m args below meth c H locs base lsA Q hS' hmc hms hL hW hF hk)
theorem xm_irem {G : xm_G} {l : Launch} {y d mc ms cs zs pc : Nat} {ls : List (Option Value)} {st : List Value} {h : xm_H} {post : Option Value → xm_H → Prop} {len a b : Nat} {u w : Int32} (ho : xm_op y pc = some (pc, .irem, len, a, b)) (hz : ¬ w = 0) (k : xm_X G l y d mc ms cs zs (pc + 1) ls (.int (u - u / w * w) :: st) h post) : xm_X G l y d mc ms cs zs pc ls (.int w :: .int u :: st) h post := by
  intro p e R s m args below meth c H locs base lsA Q hS hmc hms hL hW hF hk
  have hS' := hS
  obtain ⟨⟨hx, hb, hr, hml, hown⟩, ⟨hts, hK, hlk, hnm⟩, ⟨hfr, hlo, hy⟩, hbs⟩ := hS
  obtain ⟨e1, hd, hln⟩ := xm_dec hy ho
  exact lv_irem hx hb hd hz (k p e R s m args below meth c H locs base lsA Q hS' hmc hms hL hW hF hk)
def xm_sw (pc : Nat) (df lo hi : Int) (offs : Array Int) (x : Int32) : Option Nat :=
  match (if x.toInt < lo ∨ hi < x.toInt then some df else offs[(x.toInt - lo).toNat]?) with
  | some f => match (pc : Int) + f with
    | .ofNat t => some t
    | _ => none
  | none => none
theorem xm_swi {G : xm_G} {l : Launch} {y d mc ms cs zs pc : Nat} {ls : List (Option Value)} {st : List Value} {h : xm_H} {post : Option Value → xm_H → Prop} {len a b : Nat} {df lo hi : Int} {offs : Array Int} {x : Int32} {t : Nat} (ho : xm_op y pc = some (pc, .tableswitch df lo hi offs, len, a, b)) (ht : xm_sw pc df lo hi offs x = some t) (k : xm_X G l y d mc ms cs zs t ls st h post) : xm_X G l y d mc ms cs zs pc ls (.int x :: st) h post := by
  intro p e R s m args below meth c H locs base lsA Q hS hmc hms hL hW hF hk
  have K := k p e R s m args below meth c H locs base lsA Q hS hmc hms hL hW hF hk
  obtain ⟨⟨hx, hb, hr, hml, hown⟩, ⟨hts, hK, hlk, hnm⟩, ⟨hfr, hlo, hy⟩, hbs⟩ := hS
  obtain ⟨e1, hd, hln⟩ := xm_dec hy ho
  unfold xm_sw at ht
  by_cases hc : x.toInt < lo ∨ hi < x.toInt
  · rw [if_pos hc] at ht
    dsimp only at ht
    split at ht
    · cases ht
      rename_i t' ht'
      exact lv_tableOut hx hb hd hc ht' K
    · cases ht
  · rw [if_neg hc] at ht
    cases ho2 : offs[(x.toInt - lo).toNat]? with
    | none => rw [ho2] at ht; cases ht
    | some f =>
      rw [ho2] at ht
      dsimp only at ht
      split at ht
      · cases ht
        rename_i t' ht'
        exact lv_tableIn hx hb hd (fun q => hc (Or.inl q)) (fun q => hc (Or.inr q)) ho2 ht' K
      · cases ht
/-! a field is read -/
theorem xm_cls {ci : Nat} {q : vw_C} (h : xm_cl[ci]? = some q) : ∀ w ∈ u_ws q.1 q.2.1 q.2.2, w ∈ xm_tb := by
  have key : ∀ {q' : vw_C}, (∀ w ∈ u_ws q'.1 q'.2.1 q'.2.2, w ∈ lw_tbl ∧ goodWord w = true) → ∀ w ∈ u_ws q'.1 q'.2.1 q'.2.2, w ∈ xm_tb := fun hq w hw => List.mem_filter.mpr (hq w hw)
  match ci, h with
  | 0, h => cases h; exact key xm_i0
  | 1, h => cases h; exact key xm_i1
  | 2, h => cases h; exact key xm_i2
  | 3, h => cases h; exact key xm_i3
  | 4, h => cases h; exact key xm_i4
  | 5, h => cases h; exact key xm_i5
  | n + 6, h => simp [xm_cl] at h
theorem xm_pty {ci : Nat} {q : vw_C} (h : xm_cl[ci]? = some q) : ∀ k, k < q.2.2 → parseFieldDescriptor (q.2.1 k).2.2.1 = some (xm_ty ci k) := by
  match ci, h with
  | 0, h => cases h; exact xm_p0
  | 1, h => cases h; exact xm_p1
  | 2, h => cases h; exact xm_p2
  | 3, h => cases h; exact xm_p3
  | 4, h => cases h; exact xm_p4
  | 5, h => cases h; exact xm_p5
  | n + 6, h => simp [xm_cl] at h
theorem xm_nne {ci : Nat} {q : vw_C} (h : xm_cl[ci]? = some q) : ∀ a, a < q.2.2 → ∀ b, b < q.2.2 → a ≠ b → (q.2.1 a).2.1 ≠ (q.2.1 b).2.1 := by
  match ci, h with
  | 0, h => cases h; exact xm_n0
  | 1, h => cases h; exact xm_n1
  | 2, h => cases h; exact xm_n2
  | 3, h => cases h; exact xm_n3
  | 4, h => cases h; exact xm_n4
  | 5, h => cases h; exact xm_n5
  | n + 6, h => simp [xm_cl] at h
theorem xm_get {G : xm_G} {l : Launch} {y d mc ms cs zs pc : Nat} {ls : List (Option Value)} {st : List Value} {h : xm_H} {post : Option Value → xm_H → Prop} {i len a b k N : Nat} {v : Value} (ho : xm_op y pc = some (pc, .getfield i, len, a, b)) (hk : h.1[k]? = some (a + 3, N)) (hv : ∀ base : Nat × Nat × Int32, xm_fv base h k a b = xm_v base v) (kk : xm_X G l y d mc ms cs zs (pc + 3) ls (v :: st) h post) : xm_X G l y d mc ms cs zs pc ls (.ref k :: st) h post := by
  intro p e R s m args below meth c H locs base lsA Q hS hmc hms hL hW hF hK9
  have K := kk p e R s m args below meth c H locs base lsA Q hS hmc hms hL hW hF hK9
  obtain ⟨⟨hx, hb, hr, hml, hown⟩, ⟨hts, hK, hlk, hnm⟩, ⟨hfr, hlo, hy⟩, hbs⟩ := hS
  obtain ⟨e1, hd, hln⟩ := xm_dec hy ho
  have hln : xm_fld y i a b = true := hln
  obtain ⟨⟨q, hq1, hq2⟩, hob⟩ : (∃ r : vw_C, xm_cl[a]? = some r ∧ r.2.2 = N) ∧ t_OB (base.1 + k) (G.1.1 a) N (G.1.2 a) H (xm_fv base h k a) := hW.2 k _ hk
  unfold xm_fld at hln
  rw [hq1] at hln
  simp only [Bool.and_eq_true, decide_eq_true_eq] at hln
  obtain ⟨hbN, hlink⟩ := hln
  subst hq2
  have hP : va_P G.1 xm_cl [(base.1 + k, .inr (a, (List.range q.2.2).map (xm_fv base h k a)))] H := by
    intro j x hj
    match j, hj with
    | 0, hj =>
      cases hj
      refine ⟨q, hq1, hob.to (fun j hj => ?_)⟩
      simp [vp_V, hj]
    | n + 1, hj => simp at hj
  refine va_get (D := G.1) (ws := [(base.1 + k, .inr (a, (List.range q.2.2).map (xm_fv base h k a)))]) (C := q.1) (T := q.2.1) (N := q.2.2) (v := xm_v base v) hx hb hts (xm_cls hq1) hown hK.1 hP 0 rfl hq1 b hbN (xm_wd hts hlink) (fun _ h9 => h9) ?_ hd K
  rw [← hv base]
  simp [hbN]
theorem xm_getI {G : xm_G} {l : Launch} {y d mc ms cs zs pc : Nat} {ls : List (Option Value)} {st : List Value} {h : xm_H} {post : Option Value → xm_H → Prop} {i len a b k N : Nat} (ho : xm_op y pc = some (pc, .getfield i, len, a, b)) (hk : h.1[k]? = some (a + 3, N)) (hI : xm_isI a b = true) (kk : xm_X G l y d mc ms cs zs (pc + 3) ls (.int (h.2.2 k b) :: st) h post) : xm_X G l y d mc ms cs zs pc ls (.ref k :: st) h post :=
  xm_get ho hk (fun (base : Nat × Nat × Int32) => by unfold xm_fv; rw [if_pos hI]; rfl) kk
theorem xm_getR {G : xm_G} {l : Launch} {y d mc ms cs zs pc : Nat} {ls : List (Option Value)} {st : List Value} {h : xm_H} {post : Option Value → xm_H → Prop} {i len a b k N r : Nat} (ho : xm_op y pc = some (pc, .getfield i, len, a, b)) (hk : h.1[k]? = some (a + 3, N)) (hI : xm_isI a b = false) (hr : h.2.1 k b = some r) (kk : xm_X G l y d mc ms cs zs (pc + 3) ls (.ref r :: st) h post) : xm_X G l y d mc ms cs zs pc ls (.ref k :: st) h post :=
  xm_get ho hk (fun (base : Nat × Nat × Int32) => by unfold xm_fv; rw [if_neg (by rw [hI]; decide), hr]; rfl) kk
end
section
/-! CORE, fourth part: fields and arrays are written, cells are made -/
theorem xm_put {G : xm_G} {l : Launch} {y d mc ms cs zs pc : Nat} {ls : List (Option Value)} {st : List Value} {h h1 : xm_H} {post : Option Value → xm_H → Prop} {i len a b k N : Nat} {v : Value} (ho : xm_op y pc = some (pc, .putfield i, len, a, b)) (hk : h.1[k]? = some (a + 3, N)) (hs : h1.1 = h.1) (hr1 : ∀ j, j ≠ k → h1.2.1 j = h.2.1 j) (hm1 : ∀ j, j ≠ k → h1.2.2 j = h.2.2 j) (hv : ∀ (base : Nat × Nat × Int32) (j : Nat), xm_fv base h1 k a j = if j = b then xm_v base v else xm_fv base h k a j) (hn : ∀ base : Nat × Nat × Int32, narrow (xm_ty a b) (xm_v base v) = xm_v base v ∧ fits (xm_ty a b) (xm_v base v) = true) (kk : xm_X G l y d mc ms cs zs (pc + 3) ls st h1 post) : xm_X G l y d mc ms cs zs pc ls (v :: .ref k :: st) h post := by
  intro p e R s m args below meth c H locs base lsA Q hS hmc hms hL hW hF hK9
  have hS' := hS
  obtain ⟨⟨hx, hb, hr, hml, hown⟩, ⟨hts, hK, hlk, hnm⟩, ⟨hfr, hlo, hy⟩, hbs⟩ := hS
  obtain ⟨e1, hd, hln⟩ := xm_dec hy ho
  have hln : (xm_fld y i a b && xm_fin y a b) = true := hln
  obtain ⟨⟨q, hq1, hq2⟩, hob⟩ : (∃ r : vw_C, xm_cl[a]? = some r ∧ r.2.2 = N) ∧ t_OB (base.1 + k) (G.1.1 a) N (G.1.2 a) H (xm_fv base h k a) := hW.2 k _ hk
  unfold xm_fld xm_fin at hln
  rw [hq1] at hln
  simp only [Bool.and_eq_true, decide_eq_true_eq] at hln
  obtain ⟨⟨hbN, hlink⟩, hfin⟩ := hln
  subst hq2
  have hin := xm_cls hq1
  have hap := va_apart (own := (xm_nm y).cls) hts hin (xm_ty a) (xm_pty hq1) (xm_nne hq1) hK.1 hq1
  obtain ⟨cell, q1, q2, q3, q4⟩ := hob
  obtain ⟨hSl, hfc, kC, hkC, hkind⟩ := hK.1.1 a _ hq1
  obtain ⟨cf, kf, fi, f, hi, hsl⟩ := hSl b hbN
  have hlay := hts _ (hin _ (u_in_lay hbN))
  unfold u_lay at hlay
  have hst := (u_facts hfc hkC (u_lays hts hin hbN) hi).1
  have hpt := xm_pty hq1 b hbN
  have fin : ∀ H' : Heap, H'[base.1 + k]? = some (cell.setSlot f.slot (xm_v base v)) → H'.size = H.size → (∀ j, j ≠ base.1 + k → H'[j]? = H[j]?) → W p l e R s m args below meth c H' (locs ++ [⟨base.1 + k, f.slot⟩]) cs zs Q (F0 m (pc + 3) lsA (st.map (xm_v base))) := by
    intro H' g1 g2 g3
    refine kk p e R s m args below meth c H' _ base lsA Q hS' hmc hms hL (hW.one hk hs hr1 hm1 g2 g3 ?_) (hF.one (by omega) g3) hK9
    refine ⟨⟨q, hq1, rfl⟩, ?_⟩
    rw [hsl] at g1
    refine t_OB.to (V := updV (xm_fv base h k a) b (xm_v base v)) ⟨_, g1, q2, q3, t_set q4 hap hbN (xm_v base v)⟩ (fun j _ => ?_)
    rw [hv base j]
    rfl
  cases hfb : (q.2.1 b).2.2.2 with
  | false =>
    rw [if_neg (by rw [hfb]; decide)] at hlay
    have h6 := u_store hfc hkC hkind hlay hi hpt (hn base).1 (hn base).2
    exact W.putK hx hb (f := f) ⟨hown, xm_wd hts hlink, ⟨_, _, _, hi⟩, hst⟩ (by rw [q2]; exact h6) q1 q3 (by rw [hsl]; exact k2_hasslot (q4 b hbN)) rfl rfl hd fin
  | true =>
    rw [if_pos hfb] at hlay
    rw [hfb] at hfin
    simp only [Bool.not_true, Bool.false_or, Bool.and_eq_true, decide_eq_true_eq] at hfin
    have hcf : m.cls = cf := by
      obtain ⟨_, _, c', _, _, _, -, -, hf', -, -, -, hown2, -⟩ := Cond.laysFinal_spec hlay
      have e1 : c' = cf := by have := hi.symm.trans hf'; simp at this; exact this.1.symm
      rw [hfin.2] at hown2
      rw [← e1]; exact Option.some.inj (hown.symm.trans hown2)
    have h6 := u_fits hfc hkC hkind (Or.inr hlay) hi hpt (hn base).1 (hn base).2
    exact W.putFinK hx hb hown (xm_wd hts hlink) hi hst hcf (hnm hfin.1) (by rw [q2]; exact h6) q1 q3 (by rw [hsl]; exact k2_hasslot (q4 b hbN)) rfl rfl hd fin
abbrev xm_sm (h : xm_H) (k j : Nat) (x : Int32) : xm_H := (h.1, h.2.1, va_up h.2.2 k (upd (h.2.2 k) j x))
abbrev xm_sr (h : xm_H) (k j : Nat) (r : Option Nat) : xm_H := (h.1, va_up h.2.1 k (va_up (h.2.1 k) j r), h.2.2)
theorem xm_putI {G : xm_G} {l : Launch} {y d mc ms cs zs pc : Nat} {ls : List (Option Value)} {st : List Value} {h : xm_H} {post : Option Value → xm_H → Prop} {i len a b k N : Nat} {x : Int32} (ho : xm_op y pc = some (pc, .putfield i, len, a, b)) (hk : h.1[k]? = some (a + 3, N)) (hI : xm_isI a b = true) (kk : xm_X G l y d mc ms cs zs (pc + 3) ls st (xm_sm h k b x) post) : xm_X G l y d mc ms cs zs pc ls (.int x :: .ref k :: st) h post := by
  have hty : xm_ty a b = .int := by simpa [xm_isI] using hI
  refine xm_put (h1 := xm_sm h k b x) ho hk rfl (fun _ _ => rfl) (fun j hj => ?_) (fun (base : Nat × Nat × Int32) (j : Nat) => ?_) (fun (base : Nat × Nat × Int32) => ?_) kk
  · simp [va_up, hj]
  · unfold xm_fv
    by_cases hj : j = b
    · subst hj
      rw [if_pos hI, if_pos rfl]
      simp [va_up, upd, xm_v]
    · rw [if_neg hj]
      simp [va_up, upd, hj]
  · rw [hty]
    exact ⟨rfl, rfl⟩
theorem xm_putR {G : xm_G} {l : Launch} {y d mc ms cs zs pc : Nat} {ls : List (Option Value)} {st : List Value} {h : xm_H} {post : Option Value → xm_H → Prop} {i len a b k N r : Nat} (ho : xm_op y pc = some (pc, .putfield i, len, a, b)) (hk : h.1[k]? = some (a + 3, N)) (hI : xm_isI a b = false) (hn : ∀ q : Nat, narrow (xm_ty a b) (.ref q) = .ref q ∧ fits (xm_ty a b) (.ref q) = true) (kk : xm_X G l y d mc ms cs zs (pc + 3) ls st (xm_sr h k b (some r)) post) : xm_X G l y d mc ms cs zs pc ls (.ref r :: .ref k :: st) h post := by
  refine xm_put (h1 := xm_sr h k b (some r)) ho hk rfl (fun j hj => ?_) (fun _ _ => rfl) (fun (base : Nat × Nat × Int32) (j : Nat) => ?_) (fun (base : Nat × Nat × Int32) => hn _) kk
  · simp [va_up, hj]
  · unfold xm_fv
    by_cases hj : j = b
    · subst hj
      rw [if_neg (by rw [hI]; decide), if_pos rfl]
      simp [va_up, xm_v, va_rf]
    · rw [if_neg hj]
      simp [va_up, hj]
theorem xm_obj {G : xm_G} {base : Nat × Nat × Int32} {k ci N : Nat} {h : xm_H} {H : Heap} (hq : xm_ce G base k (ci + 3, N) h H) : (∃ r : vw_C, xm_cl[ci]? = some r ∧ r.2.2 = N) ∧ t_OB (base.1 + k) (G.1.1 ci) N (G.1.2 ci) H (xm_fv base h k ci) := hq
/-! arrays -/
theorem xm_tI {G : xm_G} {s : State} (hK : xm_K G s) : ArrOfT s G.2.1 .int := (hK.1.2 0 (G.2.1, .int) rfl).1
theorem xm_tZ {G : xm_G} {s : State} (hK : xm_K G s) : ArrOfT s G.2.2.1 .boolean := (hK.1.2 1 (G.2.2.1, .boolean) rfl).1
theorem xm_iald {G : xm_G} {l : Launch} {y d mc ms cs zs pc : Nat} {ls : List (Option Value)} {st : List Value} {h : xm_H} {post : Option Value → xm_H → Prop} {len a b k N : Nat} {i : Int32} (ho : xm_op y pc = some (pc, .iaload, len, a, b)) (hk : h.1[k]? = some (0, N)) (hi : vp_in i N) (kk : xm_X G l y d mc ms cs zs (pc + 1) ls (.int (h.2.2 k i.toNatClampNeg) :: st) h post) : xm_X G l y d mc ms cs zs pc ls (.int i :: .ref k :: st) h post := by
  intro p e R s m args below meth c H locs base lsA Q hS hmc hms hL hW hF hK9
  have K := kk p e R s m args below meth c H locs base lsA Q hS hmc hms hL hW hF hK9
  obtain ⟨⟨hx, hb, hr, hml, hown⟩, ⟨hts, hK, hlk, hnm⟩, ⟨hfr, hlo, hy⟩, hbs⟩ := hS
  obtain ⟨e1, hd, hln⟩ := xm_dec hy ho
  have hc : H[base.1 + k]? = some (arrV G.2.1 N (fun j => .int (h.2.2 k j))) := hW.2 k _ hk
  have hlt : i.toNatClampNeg < N := Nat.not_le.mp fun q => hi (Or.inr q)
  exact W.iald (v := .int (h.2.2 k i.toNatClampNeg)) hx hb hc (xm_tI hK N _) (fun q => by cases q) (by rw [arrV_size]; exact hi) (by rw [arrV_read _ _ hlt]) rfl rfl hd K
theorem xm_zald {G : xm_G} {l : Launch} {y d mc ms cs zs pc : Nat} {ls : List (Option Value)} {st : List Value} {h : xm_H} {post : Option Value → xm_H → Prop} {len a b k N : Nat} {i : Int32} (ho : xm_op y pc = some (pc, .baload, len, a, b)) (hk : h.1[k]? = some (1, N)) (hi : vp_in i N) (kk : xm_X G l y d mc ms cs zs (pc + 1) ls (.int (h.2.2 k i.toNatClampNeg) :: st) h post) : xm_X G l y d mc ms cs zs pc ls (.int i :: .ref k :: st) h post := by
  intro p e R s m args below meth c H locs base lsA Q hS hmc hms hL hW hF hK9
  have K := kk p e R s m args below meth c H locs base lsA Q hS hmc hms hL hW hF hK9
  obtain ⟨⟨hx, hb, hr, hml, hown⟩, ⟨hts, hK, hlk, hnm⟩, ⟨hfr, hlo, hy⟩, hbs⟩ := hS
  obtain ⟨e1, hd, hln⟩ := xm_dec hy ho
  have hc : H[base.1 + k]? = some (arrV G.2.2.1 N (fun j => .int (h.2.2 k j))) := hW.2 k _ hk
  have hlt : i.toNatClampNeg < N := Nat.not_le.mp fun q => hi (Or.inr q)
  exact W.zald (v := .int (h.2.2 k i.toNatClampNeg)) hx hb hc (xm_tZ hK N _) (fun q => by cases q) (by rw [arrV_size]; exact hi) (by rw [arrV_read _ _ hlt]) rfl rfl hd K
theorem xm_aald {G : xm_G} {l : Launch} {y d mc ms cs zs pc : Nat} {ls : List (Option Value)} {st : List Value} {h : xm_H} {post : Option Value → xm_H → Prop} {len a b k N r : Nat} {i : Int32} (ho : xm_op y pc = some (pc, .aaload, len, a, b)) (hk : h.1[k]? = some (2, N)) (hi : vp_in i N) (hr9 : h.2.1 k i.toNatClampNeg = some r) (kk : xm_X G l y d mc ms cs zs (pc + 1) ls (.ref r :: st) h post) : xm_X G l y d mc ms cs zs pc ls (.int i :: .ref k :: st) h post := by
  intro p e R s m args below meth c H locs base lsA Q hS hmc hms hL hW hF hK9
  have K := kk p e R s m args below meth c H locs base lsA Q hS hmc hms hL hW hF hK9
  obtain ⟨⟨hx, hb, hr, hml, hown⟩, ⟨hts, hK, hlk, hnm⟩, ⟨hfr, hlo, hy⟩, hbs⟩ := hS
  obtain ⟨e1, hd, hln⟩ := xm_dec hy ho
  have hc : H[base.1 + k]? = some (arrV G.2.2.2.1 N (fun j => va_rf ((h.2.1 k j).map (fun r => base.1 + r)))) := hW.2 k _ hk
  have hlt : i.toNatClampNeg < N := Nat.not_le.mp fun q => hi (Or.inr q)
  exact W.aald (v := .ref (base.1 + r)) (ty := .object "LatinLaws$Table") hx hb hc ((hK.1.2 2 (G.2.2.2.1, .object "LatinLaws$Table") rfl).1 N _) rfl (fun q => by cases q) (by rw [arrV_size]; exact hi) (by rw [arrV_read _ _ hlt, hr9]; rfl) rfl rfl hd K
theorem xm_alen {G : xm_G} {l : Launch} {y d mc ms cs zs pc : Nat} {ls : List (Option Value)} {st : List Value} {h : xm_H} {post : Option Value → xm_H → Prop} {len a b k N : Nat} (ho : xm_op y pc = some (pc, .arraylength, len, a, b)) (hk : h.1[k]? = some (0, N)) (kk : xm_X G l y d mc ms cs zs (pc + 1) ls (.int (Int32.ofNat N) :: st) h post) : xm_X G l y d mc ms cs zs pc ls (.ref k :: st) h post := by
  intro p e R s m args below meth c H locs base lsA Q hS hmc hms hL hW hF hK9
  have K := kk p e R s m args below meth c H locs base lsA Q hS hmc hms hL hW hF hK9
  obtain ⟨⟨hx, hb, hr, hml, hown⟩, ⟨hts, hK, hlk, hnm⟩, ⟨hfr, hlo, hy⟩, hbs⟩ := hS
  obtain ⟨e1, hd, hln⟩ := xm_dec hy ho
  have hc : H[base.1 + k]? = some (arrV G.2.1 N (fun j => .int (h.2.2 k j))) := hW.2 k _ hk
  exact W.alen (n := Int32.ofNat N) hx hb hc (xm_tI hK N _) (by rw [arrV_size] <;> rfl) rfl rfl hd K
theorem xm_iast {G : xm_G} {l : Launch} {y d mc ms cs zs pc : Nat} {ls : List (Option Value)} {st : List Value} {h : xm_H} {post : Option Value → xm_H → Prop} {len a b k N : Nat} {i x : Int32} (ho : xm_op y pc = some (pc, .iastore, len, a, b)) (hk : h.1[k]? = some (0, N)) (hi : vp_in i N) (kk : xm_X G l y d mc ms cs zs (pc + 1) ls st (xm_sm h k i.toNatClampNeg x) post) : xm_X G l y d mc ms cs zs pc ls (.int x :: .int i :: .ref k :: st) h post := by
  intro p e R s m args below meth c H locs base lsA Q hS hmc hms hL hW hF hK9
  have hS' := hS
  obtain ⟨⟨hx, hb, hr, hml, hown⟩, ⟨hts, hK, hlk, hnm⟩, ⟨hfr, hlo, hy⟩, hbs⟩ := hS
  obtain ⟨e1, hd, hln⟩ := xm_dec hy ho
  have hc : H[base.1 + k]? = some (arrV G.2.1 N (fun j => .int (h.2.2 k j))) := hW.2 k _ hk
  refine W.iast hx hb hc (xm_tI hK N _) (fun q => by cases q) (by rw [arrV_size]; exact hi) rfl rfl hd fun H1 g1 g2 g3 => ?_
  refine kk p e R s m args below meth c H1 _ base lsA Q hS' hmc hms hL (hW.one hk rfl (fun _ _ => rfl) (fun j hj => by simp [va_up, hj]) g2 g3 ?_) (hF.one (by omega) g3) hK9
  show H1[base.1 + k]? = some (arrV G.2.1 N _)
  rw [g1, arrV_store]
  congr 2
  funext q
  by_cases hq : q = i.toNatClampNeg
  · subst hq
    simp [updV, upd, va_up]
  · simp [updV, upd, va_up, hq]
theorem xm_zast {G : xm_G} {l : Launch} {y d mc ms cs zs pc : Nat} {ls : List (Option Value)} {st : List Value} {h : xm_H} {post : Option Value → xm_H → Prop} {len a b k N : Nat} {i x : Int32} (ho : xm_op y pc = some (pc, .bastore, len, a, b)) (hk : h.1[k]? = some (1, N)) (hi : vp_in i N) (kk : xm_X G l y d mc ms cs zs (pc + 1) ls st (xm_sm h k i.toNatClampNeg (vp_nar .boolean x)) post) : xm_X G l y d mc ms cs zs pc ls (.int x :: .int i :: .ref k :: st) h post := by
  intro p e R s m args below meth c H locs base lsA Q hS hmc hms hL hW hF hK9
  have hS' := hS
  obtain ⟨⟨hx, hb, hr, hml, hown⟩, ⟨hts, hK, hlk, hnm⟩, ⟨hfr, hlo, hy⟩, hbs⟩ := hS
  obtain ⟨e1, hd, hln⟩ := xm_dec hy ho
  have hc : H[base.1 + k]? = some (arrV G.2.2.1 N (fun j => .int (h.2.2 k j))) := hW.2 k _ hk
  refine W.zast hx hb hc (xm_tZ hK N _) (fun q => by cases q) (by rw [arrV_size]; exact hi) rfl rfl hd fun H1 g1 g2 g3 => ?_
  refine kk p e R s m args below meth c H1 _ base lsA Q hS' hmc hms hL (hW.one hk rfl (fun _ _ => rfl) (fun j hj => by simp [va_up, hj]) g2 g3 ?_) (hF.one (by omega) g3) hK9
  show H1[base.1 + k]? = some (arrV G.2.2.1 N _)
  rw [g1, arrV_store]
  congr 2
  funext q
  by_cases hq : q = i.toNatClampNeg
  · subst hq
    simp [updV, upd, va_up, vp_nar]
    try rfl
  · simp [updV, upd, va_up, hq]
theorem xm_aast {G : xm_G} {l : Launch} {y d mc ms cs zs pc : Nat} {ls : List (Option Value)} {st : List Value} {h : xm_H} {post : Option Value → xm_H → Prop} {len a b k N N2 r : Nat} {i : Int32} (ho : xm_op y pc = some (pc, .aastore, len, a, b)) (hk : h.1[k]? = some (2, N)) (hkr : h.1[r]? = some (3, N2)) (hi : vp_in i N) (kk : xm_X G l y d mc ms cs zs (pc + 1) ls st (xm_sr h k i.toNatClampNeg (some r)) post) : xm_X G l y d mc ms cs zs pc ls (.ref r :: .int i :: .ref k :: st) h post := by
  intro p e R s m args below meth c H locs base lsA Q hS hmc hms hL hW hF hK9
  have hS' := hS
  obtain ⟨⟨hx, hb, hr, hml, hown⟩, ⟨hts, hK, hlk, hnm⟩, ⟨hfr, hlo, hy⟩, hbs⟩ := hS
  obtain ⟨e1, hd, hln⟩ := xm_dec hy ho
  have hc : H[base.1 + k]? = some (arrV G.2.2.2.1 N (fun j => va_rf ((h.2.1 k j).map (fun r => base.1 + r)))) := hW.2 k _ hk
  have hlt : i.toNatClampNeg < N := Nat.not_le.mp fun q => hi (Or.inr q)
  have h0 : ¬ i < 0 := fun q => hi (Or.inl q)
  have hq0 : xm_ce G base r (0 + 3, N2) h H := hW.2 r (3, N2) hkr
  obtain ⟨-, cellV, g1, g2, g3, -⟩ : (∃ r : vw_C, xm_cl[0]? = some r ∧ r.2.2 = N2) ∧ t_OB (base.1 + r) (G.1.1 0) N2 (G.1.2 0) H (xm_fv base h r 0) := xm_obj hq0
  have hcls := (hK.1.1 0 ("LatinLaws$Table", xm_T0, 2) rfl).2
  obtain ⟨kA, comp, k1, k2, k3, -⟩ := (hK.1.2 2 (G.2.2.2.1, .object "LatinLaws$Table") rfl).2
  have hcomp : comp = G.1.1 0 := Option.some.inj (k3.symm.trans hcls.1)
  subst hcomp
  obtain ⟨kC, hkC, -⟩ := hcls.2
  refine W.aast hx hb hc (fun q h => by cases h) (fun h => by cases h) k1 k2 rfl hkC ⟨h0, by rw [arrV_size]; exact hlt⟩ g1 (fun q h => by rw [g3] at h; cases h) (by rw [g2]; exact hkC) (by rw [g2]; exact va_assign hcls) rfl rfl hd fun H1 e1 e2 e3 => ?_
  refine kk p e R s m args below meth c H1 _ base lsA Q hS' hmc hms hL (hW.one hk rfl (fun j hj => by simp [va_up, hj]) (fun _ _ => rfl) e2 e3 ?_) (hF.one (by omega) e3) hK9
  show H1[base.1 + k]? = some (arrV G.2.2.2.1 N _)
  rw [e1, arrV_store]
  congr 2
  funext q
  by_cases hq : q = i.toNatClampNeg
  · subst hq
    simp [updV, va_up, va_rf]
  · simp [updV, va_up, hq]
end
section
/-! CORE, fifth part: contracts, calls, ends, new cells, the copy of arrays -/
def xm_Q (G : xm_G) (base : Nat × Nat × Int32) (post : Option Value → xm_H → Prop) : Array Value → State → Outcome → State → Prop := fun _ st oc t => ∃ (r : Option Value) (h' : xm_H), oc = .returned (r.map (xm_v base)) ∧ post r h' ∧ xm_W G base h' t.heap ∧ ∀ q : Nat, q < base.1 → t.heap[q]? = st.heap[q]?
def xm_ws (y : Nat) : List Cond := .code (xm_nm y) (xm_by y) (xm_mL y) (xm_rt y) :: xm_tb
def xm_rm (d mc ms : Nat) : Room := { frames := d, cells := mc, slots := ms, locals := d * 60 }
def xm_Pc (G : xm_G) (base : Nat × Nat × Int32) (as : List Value) (h : xm_H) : Array Value → State → Prop := va_Pc (as.map (xm_v base)) (fun U => xm_W G base h U.heap ∧ xm_K G U)
def xm_C (G : xm_G) (l : Launch) (y d mc ms : Nat) (as : List Value) (h : xm_H) (post : Option Value → xm_H → Prop) : Prop :=
  ∀ base : Nat × Nat × Int32, Met l (xm_nm y) (xm_ws y) (xm_rm d mc ms) (xm_Pc G base as h) (xm_Q G base post) mc ms (fun q => base.1 ≤ q)
theorem xm_go {p : Program} {l : Launch} {e : Env} {R : Room} {s : State} {m : MethodId} {args : Array Value} {below : List Frame} {meth : Method} {c : Code} {H : Heap} {locs : List Loc} {cells slots mc ms pc : Nat} {base : Nat × Nat × Int32} {Q : State → Prop} {ls : Array Slot} {st0 rest : List Value} {a : Array Value} {G : xm_G} {post : Option Value → xm_H → Prop}
    (hr : va_Run p l e R s m args below meth c H locs cells slots mc ms (F0 m pc ls st0) rest (xm_Q G base post a) (fun q => base.1 ≤ q)) (hF : xm_F base s H locs)
    (kk : ∀ (r : Option Value) (h' : xm_H) (H1 : Heap) (locs1 : List Loc), post r h' → xm_W G base h' H1 → xm_F base s H1 locs1 → W p l e R s m args below meth c H1 locs1 (cells + mc) (slots + ms) Q (F0 m (pc + 3) ls ((r.map (xm_v base)).toList ++ rest))) : W p l e R s m args below meth c H locs cells slots Q (F0 m pc ls st0) := by
  intro T hT X
  obtain ⟨v, st₀, t, T', L, h0, X', hL, e1, e2, ⟨r, h', hv, hp, hw, hq⟩, st⟩ := hr T hT X
  cases hv
  rw [h0] at hq
  obtain ⟨t2, a1, b1⟩ := kk r h' T'.heap (locs ++ L) hp (by rw [e1]; exact hw) ⟨fun q hb => by rw [e1, hq q hb]; exact hF.1 q hb, fun q hq' => by
    rcases List.mem_append.mp hq' with h | h
    · exact hF.2 q h
    · exact hL q h⟩ T' rfl X'
  exact ⟨t2, st t2 a1, b1⟩
theorem xm_good {y : Nat} (hc : xm_in (.code (xm_nm y) (xm_by y) (xm_mL y) (xm_rt y)) = true) : GoodIn xm_tb (xm_ws y) := by
  intro w hw
  rcases List.mem_cons.mp hw with h | h
  · subst h
    simp only [xm_in, Bool.and_eq_true, decide_eq_true_eq] at hc
    exact ⟨List.mem_filter.mpr hc, good_of_word hc.2⟩
  · exact ⟨h, good_of_word (List.mem_filter.mp h).2⟩
theorem xm_blind {G : xm_G} {base : Nat × Nat × Int32} {as : List Value} {h : xm_H} : FrameBlind (xm_Pc G base as h) := fun a U g mk q => ⟨q.1, q.2.1, xm_K.calling q.2.2⟩
theorem xm_sum {base : Nat × Nat × Int32} {rest : List Value} (h : (rest.map fun v => v.category).sum ≤ 8) : ((rest.map (xm_v base)).map fun v => v.category).sum ≤ 8 := by
  have e : ((rest.map (xm_v base)).map fun v => v.category) = rest.map fun v => v.category := by
    rw [List.map_map]
    exact List.map_congr_left (fun v _ => xm_v_cat base v)
  rw [e]
  exact h
theorem xm_mfacts {y : Nat} (hy : y < xm_N - 1) : xm_in (.code (xm_nm y) (xm_by y) (xm_mL y) (xm_rt y)) = true ∧ xm_in (.initialized (xm_nm y).cls) = true ∧ xm_np y ≤ 30 ∧ ((xm_nm y).cls ≠ "java/lang/invoke/MethodHandle" ∧ (xm_nm y).cls ≠ "java/lang/invoke/VarHandle" ∧ (parseMethodDescriptor (xm_nm y).desc).map (fun d => d.parameters.length) = some (xm_np y)) ∧ xm_mL y ≤ 30 ∧ (match xm_kd y with
  | 0 => xm_in (.static (xm_nm y))
  | 1 => xm_in (.instanceMethod (xm_nm y)) && xm_in (.selects (xm_nm y).cls (xm_nm y) (xm_nm y))
  | _ => xm_in (.instanceMethod (xm_nm y)) && decide ((xm_nm y).name = "<init>") && decide (xm_rt y = none)) = true := by
  have h := xm_mall y hy
  unfold xm_mchk at h
  simp only [Bool.and_eq_true, decide_eq_true_eq] at h
  obtain ⟨⟨⟨⟨⟨⟨⟨h1, h2⟩, h3⟩, h4⟩, h5⟩, h6⟩, h7⟩, h8⟩ := h
  exact ⟨h1, h2, h3, ⟨h4, h5, h6⟩, h7, h8⟩
/-- a static method is called -/
theorem xm_callS {G : xm_G} {l : Launch} {y d mc ms cs zs pc : Nat} {ls : List (Option Value)} {h : xm_H} {post post' : Option Value → xm_H → Prop} {i len a d' mc' ms' : Nat} {As rest : List Value} (ho : xm_op y pc = some (pc, .invokestatic i, len, a, 0)) (hC : xm_C G l a d' mc' ms' As h post') (hn : As.length = xm_np a) (hd' : d' + 1 ≤ d) (hc1 : cs + mc' ≤ mc) (hc2 : zs + ms' ≤ ms) (hrs : (rest.map fun v => v.category).sum ≤ 8) (kk : ∀ r h', post' r h' → xm_X G l y d mc ms (cs + mc') (zs + ms') (pc + 3) ls (r.toList ++ rest) h' post) : xm_X G l y d mc ms cs zs pc ls (As.reverse ++ rest) h post := by
  intro p e R s m args below meth c H locs base lsA Q hS hmc hms hL hW hF hK9
  have hS' := hS
  obtain ⟨⟨hx, hb, hr, hml, hown⟩, ⟨hts, hK, hlk, hnm⟩, ⟨hfr, hlo, hy⟩, hbs⟩ := hS
  obtain ⟨e1, hd, hln⟩ := xm_dec hy ho
  have hln : (decide (a < xm_N - 1) && decide (xm_kd a = 0) && xm_in (.methodLink (xm_nm y).cls i (xm_nm a))) = true := hln
  simp only [Bool.and_eq_true, decide_eq_true_eq] at hln
  obtain ⟨⟨ha, hkd⟩, hlink⟩ := hln
  obtain ⟨m1, m2, m3, m4, m5, m6⟩ := xm_mfacts ha
  rw [hkd] at m6
  refine xm_go (va_runS (As := As.map (xm_v base)) (rest := rest.map (xm_v base)) ⟨hx, hb, hml, hown, hts⟩ (hC base) ⟨callB_of (xm_np a) hts (xm_good m1) rfl rfl rfl (xm_wd hts m2) (xm_wd hts hlink) m4 ⟨?_, ?_⟩, xm_wd hts m6⟩ ⟨xm_blind, fun U hU hW9 => ⟨rfl, by rw [hU]; exact hW, xm_K.warm hW9 hK⟩⟩ rfl (by rw [List.length_map]; exact hn) hL.1 ?_ (lv_room (xm_sum hrs)) hd ⟨by omega, by omega⟩) hF (fun r h' H1 locs1 hp hw hf => ?_)
  · show d' + 1 ≤ R.frames
    omega
  · show 8 + (xm_mL a + 11) + d' * 60 ≤ R.locals
    omega
  · show (As.reverse ++ rest).map (xm_v base) = (As.map (xm_v base)).reverse ++ rest.map (xm_v base)
    rw [List.map_append, List.map_reverse]
  · have K := kk r h' hp p e R s m args below meth c H1 locs1 base lsA Q hS' hmc hms hL hw hf hK9
    have e2 : (r.toList ++ rest).map (xm_v base) = (r.map (xm_v base)).toList ++ rest.map (xm_v base) := by
      rw [List.map_append]
      cases r <;> rfl
    rw [e2] at K
    exact K
/-- a private static method of a nest mate is called -/
theorem xm_callN {G : xm_G} {l : Launch} {y d mc ms cs zs pc : Nat} {ls : List (Option Value)} {h : xm_H} {post post' : Option Value → xm_H → Prop} {i len a d' : Nat} {As rest : List Value} (ho : xm_op y pc = some (pc, .invokestatic i, len, a, 1)) (hC : xm_C G l xi_L_isBelow d' 0 0 As h post') (hn : As.length = 2) (hd' : d' + 1 ≤ d) (hc1 : cs ≤ mc) (hc2 : zs ≤ ms) (hrs : (rest.map fun v => v.category).sum ≤ 8) (kk : ∀ r h', post' r h' → xm_X G l y d mc ms cs zs (pc + 3) ls (r.toList ++ rest) h' post) : xm_X G l y d mc ms cs zs pc ls (As.reverse ++ rest) h post := by
  intro p e R s m args below meth c H locs base lsA Q hS hmc hms hL hW hF hK9
  have hS' := hS
  obtain ⟨⟨hx, hb, hr, hml, hown⟩, ⟨hts, hK, hlk, hnm⟩, ⟨hfr, hlo, hy⟩, hbs⟩ := hS
  obtain ⟨e1, hd, hln⟩ := xm_dec hy ho
  have hln : (decide (a = xi_L_isBelow) && (decide ((xm_nm y).cls = "LatinLaws$Turns" ∧ i = 74) || decide ((xm_nm y).cls = "LatinLaws$Renamings" ∧ i = 62))) = true := hln
  simp only [Bool.and_eq_true, Bool.or_eq_true, decide_eq_true_eq] at hln
  obtain ⟨-, hor⟩ := hln
  obtain ⟨m1, m2, m3, m4, m5, m6⟩ := xm_mfacts (y := xi_L_isBelow) (by decide)
  have hkd : xm_kd xi_L_isBelow = 0 := rfl
  rw [hkd] at m6
  have hlink : va_Nw (.methodLinkNest (xm_nm y).cls i (xm_nm xi_L_isBelow) "LatinLaws") s := by
    rcases hor with ⟨g1, g2⟩ | ⟨g1, g2⟩
    · rw [g1, g2]; exact hK.2.1
    · rw [g1, g2]; exact hK.2.2.1
  refine xm_go (va_runSN (host := "LatinLaws") (As := As.map (xm_v base)) (rest := rest.map (xm_v base)) ⟨hx, hb, hml, hown, hts⟩ (hC base) ⟨va_cnB (xm_np xi_L_isBelow) hts (xm_good m1) rfl rfl rfl hlink (xm_wd hts m2) m4 ⟨?_, ?_⟩, xm_wd hts m6, trivial⟩ ⟨xm_blind, fun U hU hW9 => ⟨rfl, by rw [hU]; exact hW, xm_K.warm hW9 hK⟩⟩ rfl (by rw [List.length_map]; exact hn) hL.1 ?_ (lv_room (xm_sum hrs)) hd ⟨by omega, by omega⟩) hF (fun r h' H1 locs1 hp hw hf => ?_)
  · show d' + 1 ≤ R.frames
    omega
  · show 8 + (xm_mL xi_L_isBelow + 11) + d' * 60 ≤ R.locals
    omega
  · show (As.reverse ++ rest).map (xm_v base) = (As.map (xm_v base)).reverse ++ rest.map (xm_v base)
    rw [List.map_append, List.map_reverse]
  · have K := kk r h' hp p e R s m args below meth c H1 locs1 base lsA Q hS' hmc hms hL hw hf hK9
    have e2 : (r.toList ++ rest).map (xm_v base) = (r.map (xm_v base)).toList ++ rest.map (xm_v base) := by
      rw [List.map_append]
      cases r <;> rfl
    rw [e2] at K
    exact K
/-- a method of an object is called -/
theorem xm_callV {G : xm_G} {l : Launch} {y d mc ms cs zs pc : Nat} {ls : List (Option Value)} {h : xm_H} {post post' : Option Value → xm_H → Prop} {i len a b d' mc' ms' k ci N : Nat} {As rest : List Value} (ho : xm_op y pc = some (pc, .invokevirtual i, len, a, b)) (hk : h.1[k]? = some (ci + 3, N)) (hcl : (xm_cl[ci]?).map (fun q => q.1) = some (xm_nm a).cls) (hC : xm_C G l a d' mc' ms' (.ref k :: As) h post') (hn : As.length = xm_np a) (hd' : d' + 1 ≤ d) (hc1 : cs + mc' ≤ mc) (hc2 : zs + ms' ≤ ms) (hrs : (rest.map fun v => v.category).sum ≤ 8) (kk : ∀ r h', post' r h' → xm_X G l y d mc ms (cs + mc') (zs + ms') (pc + 3) ls (r.toList ++ rest) h' post) : xm_X G l y d mc ms cs zs pc ls (As.reverse ++ .ref k :: rest) h post := by
  intro p e R s m args below meth c H locs base lsA Q hS hmc hms hL hW hF hK9
  have hS' := hS
  obtain ⟨⟨hx, hb, hr, hml, hown⟩, ⟨hts, hK, hlk, hnm⟩, ⟨hfr, hlo, hy⟩, hbs⟩ := hS
  obtain ⟨e1, hd, hln⟩ := xm_dec hy ho
  have hln : (decide (a < xm_N - 1) && decide (xm_kd a = 1) && xm_in (.methodLink (xm_nm y).cls i (xm_nm a))) = true := hln
  simp only [Bool.and_eq_true, decide_eq_true_eq] at hln
  obtain ⟨⟨ha, hkd⟩, hlink⟩ := hln
  obtain ⟨m1, m2, m3, m4, m5, m6⟩ := xm_mfacts ha
  rw [hkd] at m6
  simp only [Bool.and_eq_true] at m6
  obtain ⟨-, cell, g1, g2, g3, -⟩ : (∃ r : vw_C, xm_cl[ci]? = some r ∧ r.2.2 = N) ∧ t_OB (base.1 + k) (G.1.1 ci) N (G.1.2 ci) H (xm_fv base h k ci) := hW.2 k _ hk
  obtain ⟨q, hq1, hq2⟩ := Option.map_eq_some_iff.mp hcl
  have hfc : s.vm.findClass (xm_nm a).cls = some cell.cls := by rw [← hq2, g2]; exact (hK.1.1 ci q hq1).2.1
  refine xm_go (va_runV (C := (xm_nm a).cls) (b := base.1 + k) (As := As.map (xm_v base)) (rest := rest.map (xm_v base)) ⟨hx, hb, hml, hown, hts⟩ (hC base) ⟨callB_of (xm_np a) hts (xm_good m1) rfl rfl rfl (xm_wd hts m2) (xm_wd hts hlink) m4 ⟨?_, ?_⟩, xm_wd hts m6.1, xm_wd hts m6.2⟩ ⟨xm_blind, ⟨cell, g1, by rw [g3]; rfl, hfc⟩, fun U hU hW9 => ⟨rfl, by rw [hU]; exact hW, xm_K.warm hW9 hK⟩⟩ rfl (by rw [List.length_map]; exact hn) hL.1 ?_ (lv_room (xm_sum hrs)) hd ⟨by omega, by omega⟩) hF (fun r h' H1 locs1 hp hw hf => ?_)
  · show d' + 1 ≤ R.frames
    omega
  · show 8 + (xm_mL a + 11) + d' * 60 ≤ R.locals
    omega
  · show (As.reverse ++ .ref k :: rest).map (xm_v base) = (As.map (xm_v base)).reverse ++ .ref (base.1 + k) :: rest.map (xm_v base)
    rw [List.map_append, List.map_reverse]
    rfl
  · have K := kk r h' hp p e R s m args below meth c H1 locs1 base lsA Q hS' hmc hms hL hw hf hK9
    have e2 : (r.toList ++ rest).map (xm_v base) = (r.map (xm_v base)).toList ++ rest.map (xm_v base) := by
      rw [List.map_append]
      cases r <;> rfl
    rw [e2] at K
    exact K
/-- a constructor is called -/
theorem xm_callI {G : xm_G} {l : Launch} {y d mc ms cs zs pc : Nat} {ls : List (Option Value)} {h : xm_H} {post post' : Option Value → xm_H → Prop} {i len a d' mc' ms' k : Nat} {As rest : List Value} (ho : xm_op y pc = some (pc, .invokespecial i, len, a, 0)) (hC : xm_C G l a d' mc' ms' (.ref k :: As) h post') (hn : As.length = xm_np a) (hd' : d' + 1 ≤ d) (hc1 : cs + mc' ≤ mc) (hc2 : zs + ms' ≤ ms) (hrs : (rest.map fun v => v.category).sum ≤ 8) (kk : ∀ r h', post' r h' → xm_X G l y d mc ms (cs + mc') (zs + ms') (pc + 3) ls (r.toList ++ rest) h' post) : xm_X G l y d mc ms cs zs pc ls (As.reverse ++ .ref k :: rest) h post := by
  intro p e R s m args below meth c H locs base lsA Q hS hmc hms hL hW hF hK9
  have hS' := hS
  obtain ⟨⟨hx, hb, hr, hml, hown⟩, ⟨hts, hK, hlk, hnm⟩, ⟨hfr, hlo, hy⟩, hbs⟩ := hS
  obtain ⟨e1, hd, hln⟩ := xm_dec hy ho
  have hln : (decide (a < xm_N - 1) && decide (xm_kd a = 2) && xm_in (.methodLink (xm_nm y).cls i (xm_nm a))) = true := hln
  simp only [Bool.and_eq_true, decide_eq_true_eq] at hln
  obtain ⟨⟨ha, hkd⟩, hlink⟩ := hln
  obtain ⟨m1, m2, m3, m4, m5, m6⟩ := xm_mfacts ha
  rw [hkd] at m6
  simp only [Bool.and_eq_true, decide_eq_true_eq] at m6
  have m1' := m1
  rw [m6.2] at m1'
  refine xm_go (va_runI (b := base.1 + k) (As := As.map (xm_v base)) (rest := rest.map (xm_v base)) ⟨hx, hb, hml, hown, hts⟩ (hC base) ⟨callB_of (xm_np a) hts (xm_good m1) (by show xm_ws a = _; unfold xm_ws; rw [m6.2]) rfl rfl (xm_wd hts m2) (xm_wd hts hlink) m4 ⟨?_, ?_⟩, m6.1.2, xm_wd hts m6.1.1⟩ ⟨xm_blind, fun U hU hW9 => ⟨rfl, by rw [hU]; exact hW, xm_K.warm hW9 hK⟩⟩ rfl (by rw [List.length_map]; exact hn) hL.1 ?_ (lv_room (xm_sum hrs)) hd ⟨by omega, by omega⟩) hF (fun r h' H1 locs1 hp hw hf => ?_)
  · show d' + 1 ≤ R.frames
    omega
  · show 8 + (xm_mL a + 11) + d' * 60 ≤ R.locals
    omega
  · show (As.reverse ++ .ref k :: rest).map (xm_v base) = (As.map (xm_v base)).reverse ++ .ref (base.1 + k) :: rest.map (xm_v base)
    rw [List.map_append, List.map_reverse]
    rfl
  · have K := kk r h' hp p e R s m args below meth c H1 locs1 base lsA Q hS' hmc hms hL hw hf hK9
    have e2 : (r.toList ++ rest).map (xm_v base) = (r.map (xm_v base)).toList ++ rest.map (xm_v base) := by
      rw [List.map_append]
      cases r <;> rfl
    rw [e2] at K
    exact K
end
section
/-! CORE, sixth part: new cells, the copy of an array, ends, entries, the script -/
theorem xm_dv {ci : Nat} {q : vw_C} (h : xm_cl[ci]? = some q) : ∀ j, j < q.2.2 → defaultValue (xm_ty ci j) = if xm_isI ci j = true then .int 0 else .null := by
  match ci, h with
  | 0, h => cases h; exact (by decide +kernel : ∀ j, j < 2 → defaultValue (xm_ty 0 j) = if xm_isI 0 j = true then .int 0 else .null)
  | 1, h => cases h; exact (by decide +kernel : ∀ j, j < 8 → defaultValue (xm_ty 1 j) = if xm_isI 1 j = true then .int 0 else .null)
  | 2, h => cases h; exact (by decide +kernel : ∀ j, j < 7 → defaultValue (xm_ty 2 j) = if xm_isI 2 j = true then .int 0 else .null)
  | 3, h => cases h; exact (by decide +kernel : ∀ j, j < 5 → defaultValue (xm_ty 3 j) = if xm_isI 3 j = true then .int 0 else .null)
  | 4, h => cases h; exact (by decide +kernel : ∀ j, j < 5 → defaultValue (xm_ty 4 j) = if xm_isI 4 j = true then .int 0 else .null)
  | 5, h => cases h; exact (by decide +kernel : ∀ j, j < 7 → defaultValue (xm_ty 5 j) = if xm_isI 5 j = true then .int 0 else .null)
  | n + 6, h => simp [xm_cl] at h
abbrev xm_psh (h : xm_H) (q : Nat × Nat) : xm_H := (h.1 ++ [q], va_up h.2.1 h.1.length (fun _ => none), va_up h.2.2 h.1.length (fun _ => 0))
theorem xm_W.push {G : xm_G} {base : Nat × Nat × Int32} {q : Nat × Nat} {h : xm_H} {H H1 : Heap} (hW : xm_W G base h H) (hz : H1.size = H.size + 1) (o1 : ∀ j : Nat, j < H.size → H1[j]? = H[j]?) (he : xm_ce G base h.1.length q (xm_psh h q) H1) : xm_W G base (xm_psh h q) H1 := by
  refine ⟨by rw [hz, hW.1]; simp; omega, fun j r hj => ?_⟩
  by_cases e : j < h.1.length
  · have hj' : h.1[j]? = some r := by
      have : (h.1 ++ [q])[j]? = some r := hj
      rwa [List.getElem?_append_left e] at this
    have hne : ¬ j = h.1.length := by omega
    have hc := hW.2 j r hj'
    exact xm_ce.kept (h := h) (by simp [va_up, hne]) (by simp [va_up, hne]) (o1 _ hc.lt) hc
  · have hj' : (h.1 ++ [q])[j]? = some r := hj
    rw [List.getElem?_append_right (by omega)] at hj'
    have hz2 : j - h.1.length < 1 := (List.getElem?_eq_some_iff.mp hj').1
    have e2 : j = h.1.length := by omega
    subst e2
    rw [Nat.sub_self] at hj'
    cases hj'
    exact he
theorem xm_F.push {base : Nat × Nat × Int32} {s : State} {H H1 : Heap} {locs : List Loc} (hF : xm_F base s H locs) (hb : base.1 ≤ H.size) (o1 : ∀ j : Nat, j < H.size → H1[j]? = H[j]?) : xm_F base s H1 locs := ⟨fun q hq => (o1 q (by omega)).trans (hF.1 q hq), hF.2⟩
theorem xm_new {G : xm_G} {l : Launch} {y d mc ms cs zs pc : Nat} {ls : List (Option Value)} {st : List Value} {h : xm_H} {post : Option Value → xm_H → Prop} {i len a b : Nat} {q : vw_C} (ho : xm_op y pc = some (pc, .new i, len, a, b)) (hq : xm_cl[a]? = some q) (hc1 : cs + 1 ≤ mc) (hc2 : zs + q.2.2 ≤ ms) (kk : xm_X G l y d mc ms (cs + 1) (zs + q.2.2) (pc + 3) ls (.ref h.1.length :: st) (xm_psh h (a + 3, q.2.2)) post) : xm_X G l y d mc ms cs zs pc ls st h post := by
  intro p e R s m args below meth c H locs base lsA Q hS hmc hms hL hW hF hK9
  have hS' := hS
  obtain ⟨⟨hx, hb, hr, hml, hown⟩, ⟨hts, hK, hlk, hnm⟩, ⟨hfr, hlo, hy⟩, hbs⟩ := hS
  obtain ⟨e1, hd, hln⟩ := xm_dec hy ho
  unfold xm_lnk at hln
  dsimp only at hln
  rw [hq] at hln
  simp only [Bool.and_eq_true] at hln
  have hKn := hK.1.1 a q hq
  refine W.newcK hx hb hown (xm_wd hts hln.1.1) (xm_wd hts hln.1.2) (xm_wd hts hln.2) rfl hd (by omega) (by omega) hKn.2.1 hW.1 fun H1 kC hkC g1 g2 g3 => ?_
  have g3' : ∀ j : Nat, j < H.size → H1[j]? = H[j]? := fun j hj => g3 j (by rw [← hW.1]; exact hj)
  refine kk p e R s m args below meth c H1 locs base lsA Q hS' hmc hms hL (hW.push (by rw [g2, hW.1]) g3' ?_) (hF.push (by rw [hW.1]; omega) g3') hK9
  refine ⟨⟨q, hq, rfl⟩, (u_born (xm_ty a) hts (xm_cls hq) hKn hkC g1 (xm_pty hq)).to (fun j hj => ?_)⟩
  rw [xm_dv hq j hj]
  unfold xm_fv
  simp [va_up, va_rf]
theorem xm_newI {G : xm_G} {l : Launch} {y d mc ms cs zs pc : Nat} {ls : List (Option Value)} {st : List Value} {h : xm_H} {post : Option Value → xm_H → Prop} {len a b N : Nat} {n : Int32} (ho : xm_op y pc = some (pc, .newarray .int, len, a, b)) (hn : ¬ n < 0) (hN : n.toNatClampNeg = N) (hN2 : N ≤ 100000) (hc1 : cs + 1 ≤ mc) (hc2 : zs + N ≤ ms) (kk : xm_X G l y d mc ms (cs + 1) (zs + N) (pc + 2) ls (.ref h.1.length :: st) (xm_psh h (0, N)) post) : xm_X G l y d mc ms cs zs pc ls (.int n :: st) h post := by
  intro p e R s m args below meth c H locs base lsA Q hS hmc hms hL hW hF hK9
  have hS' := hS
  obtain ⟨⟨hx, hb, hr, hml, hown⟩, ⟨hts, hK, hlk, hnm⟩, ⟨hfr, hlo, hy⟩, hbs⟩ := hS
  obtain ⟨e1, hd, hln⟩ := xm_dec hy ho
  have hln : xm_in (.arrayClass .int) = true := by
    unfold xm_lnk at hln
    simpa using hln
  refine va_newaK hx hb (atype := .int) (xm_wd hts hln) rfl hd rfl hn hN (by show N * 4 ≤ 536870912; omega) (by omega) (by omega) hW.1 fun H1 cA g1 g2 g3 g4 g5 => ?_
  have hcA : cA = G.2.1 := Option.some.inj (g5.symm.trans (hK.1.2 0 (G.2.1, .int) rfl).2)
  subst hcA
  have g3' : ∀ j : Nat, j < H.size → H1[j]? = H[j]? := fun j hj => g3 j (by rw [← hW.1]; exact hj)
  refine kk p e R s m args below meth c H1 locs base lsA Q hS' hmc hms hL (hW.push (by rw [g2, hW.1]) g3' ?_) (hF.push (by rw [hW.1]; omega) g3') hK9
  show H1[base.1 + h.1.length]? = some (arrV G.2.1 N _)
  rw [g1]
  simp [va_up]
  rfl
theorem xm_newZ {G : xm_G} {l : Launch} {y d mc ms cs zs pc : Nat} {ls : List (Option Value)} {st : List Value} {h : xm_H} {post : Option Value → xm_H → Prop} {len a b N : Nat} {n : Int32} (ho : xm_op y pc = some (pc, .newarray .boolean, len, a, b)) (hn : ¬ n < 0) (hN : n.toNatClampNeg = N) (hN2 : N ≤ 100000) (hc1 : cs + 1 ≤ mc) (hc2 : zs + N ≤ ms) (kk : xm_X G l y d mc ms (cs + 1) (zs + N) (pc + 2) ls (.ref h.1.length :: st) (xm_psh h (1, N)) post) : xm_X G l y d mc ms cs zs pc ls (.int n :: st) h post := by
  intro p e R s m args below meth c H locs base lsA Q hS hmc hms hL hW hF hK9
  have hS' := hS
  obtain ⟨⟨hx, hb, hr, hml, hown⟩, ⟨hts, hK, hlk, hnm⟩, ⟨hfr, hlo, hy⟩, hbs⟩ := hS
  obtain ⟨e1, hd, hln⟩ := xm_dec hy ho
  have hln : xm_in (.arrayClass .boolean) = true := by
    unfold xm_lnk at hln
    simpa using hln
  refine va_newaK hx hb (atype := .boolean) (xm_wd hts hln) rfl hd rfl hn hN (by show N * 1 ≤ 536870912; omega) (by omega) (by omega) hW.1 fun H1 cA g1 g2 g3 g4 g5 => ?_
  have hcA : cA = G.2.2.1 := Option.some.inj (g5.symm.trans (hK.1.2 1 (G.2.2.1, .boolean) rfl).2)
  subst hcA
  have g3' : ∀ j : Nat, j < H.size → H1[j]? = H[j]? := fun j hj => g3 j (by rw [← hW.1]; exact hj)
  refine kk p e R s m args below meth c H1 locs base lsA Q hS' hmc hms hL (hW.push (by rw [g2, hW.1]) g3' ?_) (hF.push (by rw [hW.1]; omega) g3') hK9
  show H1[base.1 + h.1.length]? = some (arrV G.2.2.1 N _)
  rw [g1]
  simp [va_up]
  rfl
theorem xm_newQ {G : xm_G} {l : Launch} {y d mc ms cs zs pc : Nat} {ls : List (Option Value)} {st : List Value} {h : xm_H} {post : Option Value → xm_H → Prop} {i len a b N : Nat} {n : Int32} (ho : xm_op y pc = some (pc, .anewarray i, len, a, b)) (hn : ¬ n < 0) (hN : n.toNatClampNeg = N) (hN2 : N ≤ 100000) (hc1 : cs + 1 ≤ mc) (hc2 : zs + N ≤ ms) (kk : xm_X G l y d mc ms (cs + 1) (zs + N) (pc + 3) ls (.ref h.1.length :: st) (xm_psh h (2, N)) post) : xm_X G l y d mc ms cs zs pc ls (.int n :: st) h post := by
  intro p e R s m args below meth c H locs base lsA Q hS hmc hms hL hW hF hK9
  have hS' := hS
  obtain ⟨⟨hx, hb, hr, hml, hown⟩, ⟨hts, hK, hlk, hnm⟩, ⟨hfr, hlo, hy⟩, hbs⟩ := hS
  obtain ⟨e1, hd, hln⟩ := xm_dec hy ho
  subst hN
  refine W.anew hx hb hown (xm_wd hts hln) (va_AO.use hK.2.2.2) rfl hd rfl hn (by omega) (by omega) (by omega) fun cA kA comp f1 f2 f3 f4 => ?_
  have hcA : cA = G.2.2.2.1 := by
    obtain ⟨_, _, _, _, _, k4⟩ := (hK.1.2 2 (G.2.2.2.1, .object "LatinLaws$Table") rfl).2
    exact Option.some.inj (f1.symm.trans k4)
  subst hcA
  generalize hH1 : H.push ({ cls := G.2.2.2.1, slots := Array.replicate n.toNatClampNeg .null, vm := .none } : Cell) = H1
  have z1 : H1.size = H.size + 1 := by rw [← hH1, Array.size_push]
  have e1 : H1[H.size]? = some (arrV G.2.2.2.1 n.toNatClampNeg (fun _ => .null)) := by rw [← hH1, Array.getElem?_push_size, ← arrV_new]
  have o1 : ∀ q : Nat, q < H.size → H1[q]? = H[q]? := fun q hq => by rw [← hH1, Array.getElem?_push, if_neg (Nat.ne_of_lt hq)]
  have K := kk p e R s m args below meth c H1 locs base lsA Q hS' hmc hms hL (hW.push z1 o1 (by
    show H1[base.1 + h.1.length]? = some (arrV G.2.2.2.1 n.toNatClampNeg _)
    rw [← hW.1, e1]
    simp [va_up, va_rf])) (hF.push (by rw [hW.1]; omega) o1) hK9
  have e9 : ((Value.ref h.1.length :: st).map (xm_v base)) = .ref H.size :: st.map (xm_v base) := by rw [hW.1]; rfl
  rw [e9] at K
  exact K
theorem xm_objI {G : xm_G} {l : Launch} {y d mc ms cs zs pc : Nat} {ls : List (Option Value)} {st : List Value} {h : xm_H} {post : Option Value → xm_H → Prop} {i len a b k : Nat} (ho : xm_op y pc = some (pc, .invokespecial i, len, a, b + 1)) (hd1 : 1 ≤ d) (hrs : (st.map fun v => v.category).sum ≤ 8) (kk : xm_X G l y d mc ms cs zs (pc + 3) ls st h post) : xm_X G l y d mc ms cs zs pc ls (.ref k :: st) h post := by
  intro p e R s m args below meth c H locs base lsA Q hS hmc hms hL hW hF hK9
  have K := kk p e R s m args below meth c H locs base lsA Q hS hmc hms hL hW hF hK9
  obtain ⟨⟨hx, hb, hr, hml, hown⟩, ⟨hts, hK, hlk, hnm⟩, ⟨hfr, hlo, hy⟩, hbs⟩ := hS
  obtain ⟨e1, hd, hln⟩ := xm_dec hy ho
  have hln : (xm_in (.methodLink (xm_nm y).cls i objectInit) && xm_in (.instanceMethod objectInit) && xm_in (.code objectInit ⟨#[0xb1]⟩ 1 none)) = true := hln
  simp only [Bool.and_eq_true] at hln
  refine W.objInit hx hb hown (xm_wd hts hln.1.1) (xm_wd hts hln.1.2) (xm_wd hts hln.2) rfl (hL.1.trans hml.symm) rfl hd (by omega) ?_ K
  have := xm_sum (base := base) hrs
  show 2 * 0 + _ + 12 ≤ R.locals
  omega
theorem xm_retI {G : xm_G} {l : Launch} {y d mc ms cs zs pc : Nat} {ls : List (Option Value)} {h : xm_H} {post : Option Value → xm_H → Prop} {len a b : Nat} {v : Int32} {ty : FieldType} (ho : xm_op y pc = some (pc, .ireturn, len, a, b)) (hty : xm_rt y = some ty) (hn : narrow ty (.int v) = .int v) (hc1 : cs ≤ mc) (hc2 : zs ≤ ms) (hp : post (some (.int v)) h) : xm_X G l y d mc ms cs zs pc ls [.int v] h post := by
  intro p e R s m args below meth c H locs base lsA Q hS hmc hms hL hW hF hK9
  obtain ⟨e1, hd, hln⟩ := xm_dec hS.2.2.1.2.2 ho
  exact hK9 pc lsA H locs cs zs (some (.int v)) h ⟨hd, ty, hty, hn⟩ hc1 hc2 hp hW hF
theorem xm_retV {G : xm_G} {l : Launch} {y d mc ms cs zs pc : Nat} {ls : List (Option Value)} {h : xm_H} {post : Option Value → xm_H → Prop} {len a b : Nat} (ho : xm_op y pc = some (pc, .return_, len, a, b)) (hty : xm_rt y = none) (hc1 : cs ≤ mc) (hc2 : zs ≤ ms) (hp : post none h) : xm_X G l y d mc ms cs zs pc ls [] h post := by
  intro p e R s m args below meth c H locs base lsA Q hS hmc hms hL hW hF hK9
  obtain ⟨e1, hd, hln⟩ := xm_dec hS.2.2.1.2.2 ho
  exact hK9 pc lsA H locs cs zs none h ⟨hty, hd⟩ hc1 hc2 hp hW hF
theorem xm_sl : ∀ (vs : List Value), (∀ v ∈ vs, v.category = 1) → (lg_sl vs).length = vs.length
  | [], _ => rfl
  | v :: vs, h => by
    have h1 := xm_sl vs (fun w hw => h w (List.mem_cons_of_mem _ hw))
    have h2 := h v List.mem_cons_self
    unfold lg_sl at h1 ⊢
    rw [List.flatMap_cons, List.length_append, h1, if_neg (by omega)]
    simp; omega
theorem xm_ar : ∀ (vs : List Value) (k : Nat), (∀ v ∈ vs, v.category = 1) → ∀ (i : Nat) (v : Value), vs[i]? = some v → (k + i, v) ∈ lv_args k vs
  | [], _, _, i, v, hi => by simp at hi
  | w :: vs, k, h, i, v, hi => by
    have h2 := h w List.mem_cons_self
    unfold lv_args
    rw [if_neg (by omega)]
    cases i with
    | zero => simp at hi; subst hi; exact List.mem_cons_self
    | succ i =>
      have h3 := xm_ar vs (k + 1) (fun w hw => h w (List.mem_cons_of_mem _ hw)) i v (by simpa using hi)
      rw [show k + (i + 1) = k + 1 + i by omega]
      exact List.mem_cons_of_mem _ h3
def xm_en (as : List Value) (n : Nat) : List (Option Value) := as.map some ++ List.replicate (n - as.length) none
theorem xm_enL {base : Nat × Nat × Int32} {as : List Value} {n : Nat} (hc : ∀ v ∈ as, v.category = 1) (hn : as.length ≤ n) : xm_L base (xm_en as n) ((lg_sl (as.map (xm_v base)) ++ List.replicate (n - (lg_sl (as.map (xm_v base))).length) Slot.unset).toArray) n := by
  have hc2 : ∀ v ∈ as.map (xm_v base), v.category = 1 := fun v hv => by
    obtain ⟨w, hw, rfl⟩ := List.mem_map.mp hv
    exact (xm_v_cat base w).trans (hc w hw)
  have hlen := xm_sl _ hc2
  rw [List.length_map] at hlen
  have hl := lv_entry (as.map (xm_v base)) (n := n) (by rw [hlen]; exact hn)
  refine ⟨hl.1, hl.2.1, by simp [xm_en]; omega, fun i v hi => ?_⟩
  have hi2 : as[i]? = some v := by
    unfold xm_en at hi
    by_cases h : i < as.length
    · rw [List.getElem?_append_left (by simpa using h), List.getElem?_map] at hi
      cases hx : as[i]? with
      | none => rw [hx] at hi; simp at hi
      | some w => rw [hx] at hi; simp at hi; rw [hi]
    · rw [List.getElem?_append_right (by simpa using h), List.getElem?_replicate] at hi
      split at hi <;> simp at hi
  have hmem := xm_ar _ 0 hc2 i (xm_v base v) (by rw [List.getElem?_map, hi2]; rfl)
  rw [Nat.zero_add] at hmem
  exact ⟨hc v (List.mem_of_getElem? hi2), hl.2.2 _ hmem⟩
/-- a method's contract out of the walk of its body -/
theorem xm_enter {G : xm_G} {l : Launch} {y d mc ms : Nat} {as : List Value} {h : xm_H} {post : Option Value → xm_H → Prop} (hy : y < xm_N - 1) (hpl : y ≠ 151 ∧ y ≠ 152) (hc : ∀ v ∈ as, v.category = 1) (hn : as.length ≤ xm_mL y) (hX : xm_X G l y d mc ms 0 0 0 (xm_en as (xm_mL y)) [] h post) : xm_C G l y d mc ms as h post := by
  intro base
  obtain ⟨m1, m2, m3, m4, m5, m6⟩ := xm_mfacts hy
  refine Met.ofW (cc := xm_by y) (maxL := xm_mL y) (ret := xm_rt y) (xm_plain y hy hpl.1 hpl.2) rfl ?_
  intro p e s m args below meth c s₁ B hml hv
  obtain ⟨rfl, hW, hK⟩ := hv
  have hts := atoms_spec (ws := xm_ws y) B.pre
  have hts' : ∀ w ∈ xm_tb, w.before (as.map (xm_v base)).toArray s = true := fun w hw => hts w (List.mem_cons_of_mem _ hw)
  rw [lg_entry_eq]
  have hy2 : ¬ y = xi_law := by
    have e1 : xm_N - 1 = xi_law := rfl
    omega
  refine hX p e _ s m _ below meth c s.heap [] base _ _ ⟨⟨B.exec, B.bytes, B.returns, hml, findClass_of_methodNamed B.named⟩, ⟨hts', hK, B.notSynchronized, fun hnm => (name_of_methodNamed B.named B.method).1.trans hnm⟩, ⟨Nat.le_refl _, Nat.le_refl _, by omega⟩, ⟨by rw [hW.1]; omega, fun h => absurd h hy2⟩⟩ (Nat.le_refl _) (Nat.le_refl _) (xm_enL hc hn) hW ⟨fun _ _ => rfl, fun _ h => by cases h⟩ ?_
  intro pc' lsA' H' locs' cs' zs' r h' hend hcs hzs hp hw hf
  refine W.widen (k := mc) (n := ms) hcs hzs ?_
  match r, hend, hp with
  | none, hend, hp =>
    exact W.vret B.exec B.bytes (B.returns.trans hend.1) (fun t ht hWm => ⟨none, h', rfl, hp, by rw [ht]; exact hw, fun q hq => by rw [ht]; exact hf.1 q hq⟩) hf.2 hend.2 B.notSynchronized
  | some (.int v), hend, hp =>
    obtain ⟨hdg, ty, hty, hna⟩ := hend
    exact W.zret B.exec B.bytes (B.returns.trans hty) hna (fun t ht hWm => ⟨some (.int v), h', rfl, hp, by rw [ht]; exact hw, fun q hq => by rw [ht]; exact hf.1 q hq⟩) hf.2 hdg B.notSynchronized
/-! the law reads its script -/
theorem xm_sld {G : xm_G} {l : Launch} {d mc ms cs zs pc : Nat} {ls : List (Option Value)} {st : List Value} {h : xm_H} {post : Option Value → xm_H → Prop} {len a b : Nat} {i : Int32} (ho : xm_op xi_law pc = some (pc, .iaload, len, a, b)) (hi : vp_in i G.2.2.2.2.1) (kk : xm_X G l xi_law d mc ms cs zs (pc + 1) ls (.int (G.2.2.2.2.2 i.toNatClampNeg) :: st) h post) : xm_X G l xi_law d mc ms cs zs pc ls (.int i :: .float 0 :: st) h post := by
  intro p e R s m args below meth c H locs base lsA Q hS hmc hms hL hW hF hK9
  have K := kk p e R s m args below meth c H locs base lsA Q hS hmc hms hL hW hF hK9
  obtain ⟨⟨hx, hb, hr, hml, hown⟩, ⟨hts, hK, hlk, hnm⟩, ⟨hfr, hlo, hy⟩, hbs, hsc⟩ := hS
  obtain ⟨e1, hd, hln⟩ := xm_dec hy ho
  obtain ⟨hX, hb2, hop⟩ := hsc rfl
  obtain ⟨scr, h1, h2, h3, h4, h5⟩ := hX
  have hlt : i.toNatClampNeg < G.2.2.2.2.1 := Nat.not_le.mp fun q => hi (Or.inr q)
  exact W.iald (v := .int (G.2.2.2.2.2 i.toNatClampNeg)) hx hb (by rw [hF.1 base.2.1 hb2]; exact h1) h2 h3 (by rw [h4]; exact hi) (h5 _ hlt) rfl rfl hd K
theorem xm_sldo {G : xm_G} {l : Launch} {d mc ms cs zs pc : Nat} {ls : List (Option Value)} {st : List Value} {h : xm_H} {post : Option Value → xm_H → Prop} {len a b : Nat} {i : Int32} (ho : xm_op xi_law pc = some (pc, .iaload, len, a, b)) (hi : vp_in i G.2.2.2.2.1) (h3 : i.toNatClampNeg = 3) (kk : xm_X G l xi_law d mc ms cs zs (pc + 1) ls (.float 1 :: st) h post) : xm_X G l xi_law d mc ms cs zs pc ls (.int i :: .float 0 :: st) h post := by
  intro p e R s m args below meth c H locs base lsA Q hS hmc hms hL hW hF hK9
  have K := kk p e R s m args below meth c H locs base lsA Q hS hmc hms hL hW hF hK9
  obtain ⟨⟨hx, hb, hr, hml, hown⟩, ⟨hts, hK, hlk, hnm⟩, ⟨hfr, hlo, hy⟩, hbs, hsc⟩ := hS
  obtain ⟨e1, hd, hln⟩ := xm_dec hy ho
  obtain ⟨hX, hb2, hop⟩ := hsc rfl
  obtain ⟨scr, h1, h2, h3', h4, h5⟩ := hX
  have hlt : i.toNatClampNeg < G.2.2.2.2.1 := Nat.not_le.mp fun q => hi (Or.inr q)
  have e9 : (Value.float 1 :: st).map (xm_v base) = .int (G.2.2.2.2.2 i.toNatClampNeg) :: st.map (xm_v base) := by
    rw [h3, ← hop]
    rfl
  rw [e9] at K
  exact W.iald (v := .int (G.2.2.2.2.2 i.toNatClampNeg)) hx hb (by rw [hF.1 base.2.1 hb2]; exact h1) h2 h3' (by rw [h4]; exact hi) (h5 _ hlt) rfl rfl hd K
theorem xm_slen {G : xm_G} {l : Launch} {d mc ms cs zs pc : Nat} {ls : List (Option Value)} {st : List Value} {h : xm_H} {post : Option Value → xm_H → Prop} {len a b : Nat} (ho : xm_op xi_law pc = some (pc, .arraylength, len, a, b)) (kk : xm_X G l xi_law d mc ms cs zs (pc + 1) ls (.int (Int32.ofNat G.2.2.2.2.1) :: st) h post) : xm_X G l xi_law d mc ms cs zs pc ls (.float 0 :: st) h post := by
  intro p e R s m args below meth c H locs base lsA Q hS hmc hms hL hW hF hK9
  have K := kk p e R s m args below meth c H locs base lsA Q hS hmc hms hL hW hF hK9
  obtain ⟨⟨hx, hb, hr, hml, hown⟩, ⟨hts, hK, hlk, hnm⟩, ⟨hfr, hlo, hy⟩, hbs, hsc⟩ := hS
  obtain ⟨e1, hd, hln⟩ := xm_dec hy ho
  obtain ⟨hX, hb2, hop⟩ := hsc rfl
  obtain ⟨scr, h1, h2, h3, h4, h5⟩ := hX
  exact W.alen (n := Int32.ofNat G.2.2.2.2.1) hx hb (by rw [hF.1 base.2.1 hb2]; exact h1) h2 (by rw [h4] <;> rfl) rfl rfl hd K
/-! System.arraycopy of ints -/
theorem xm_nfw : nativeFrameWords "java/lang/System" "arraycopy" 5 ≤ 40 := by decide +kernel
theorem xm_copy {G : xm_G} {l : Launch} {y d mc ms cs zs pc : Nat} {ls : List (Option Value)} {st : List Value} {h : xm_H} {post : Option Value → xm_H → Prop} {i len a b k0 k1 N0 N1 : Nat} {sp dp n : Int32} (ho : xm_op y pc = some (pc, .invokestatic i, len, a, b + 2)) (hk0 : h.1[k0]? = some (0, N0)) (hk1 : h.1[k1]? = some (0, N1)) (h1 : ¬ sp < 0) (h2 : ¬ dp < 0) (h3 : ¬ n < 0) (h4 : sp.toNatClampNeg + n.toNatClampNeg ≤ N0) (h5 : dp.toNatClampNeg + n.toNatClampNeg ≤ N1) (hd1 : 1 ≤ d) (hrs : (st.map fun v => v.category).sum ≤ 8) (kk : xm_X G l y d mc ms cs zs (pc + 3) ls st (h.1, h.2.1, va_up h.2.2 k1 (va_cpy (h.2.2 k0) (h.2.2 k1) sp.toNatClampNeg dp.toNatClampNeg n.toNatClampNeg)) post) : xm_X G l y d mc ms cs zs pc ls (.int n :: .int dp :: .ref k1 :: .int sp :: .ref k0 :: st) h post := by
  intro p e R s m args below meth c H locs base lsA Q hS hmc hms hL hW hF hK9
  have hS' := hS
  obtain ⟨⟨hx, hb, hr, hml, hown⟩, ⟨hts, hK, hlk, hnm⟩, ⟨hfr, hlo, hy⟩, hbs⟩ := hS
  obtain ⟨e1, hd, hln⟩ := xm_dec hy ho
  have hln : (xm_in (.methodLink (xm_nm y).cls i arraycopyName) && xm_in (.native arraycopyName) && xm_in (.static arraycopyName) && xm_in (.initialized "java/lang/System")) = true := hln
  simp only [Bool.and_eq_true] at hln
  have nn : ∀ z : Int32, ¬ z < 0 → z.toInt = (z.toNatClampNeg : Int) := by
    intro z hz
    have hz0 : (0 : Int) ≤ z.toInt := by
      have := Int32.not_lt.mp hz
      simpa using Int32.le_iff_toInt_le.mp this
    show z.toInt = ((z.toInt.toNat : Nat) : Int)
    omega
  have hc0 : H[base.1 + k0]? = some (arrV G.2.1 N0 (fun j => .int (h.2.2 k0 j))) := hW.2 k0 _ hk0
  have hc1 : H[base.1 + k1]? = some (arrV G.2.1 N1 (fun j => .int (h.2.2 k1 j))) := hW.2 k1 _ hk1
  obtain ⟨-, kA, hkA, cm, hkk⟩ := xm_tI hK N0 (fun j => .int (h.2.2 k0 j))
  have hsum := xm_sum (base := base) hrs
  have hnf := xm_nfw
  intro T hT X
  obtain ⟨vm', X', step⟩ := X.arraycopy hx hown (xm_wd hts hln.1.1.1) (xm_wd hts hln.1.1.2) (xm_wd hts hln.1.2) (xm_wd hts hln.2) (src := base.1 + k0) (dst := base.1 + k1) (cs := arrV G.2.1 N0 (fun j => .int (h.2.2 k0 j))) (cd := arrV G.2.1 N1 (fun j => .int (h.2.2 k1 j))) (srcPos := sp) (destPos := dp) (n := n) (by rw [hT]; exact hc0) (by rw [hT]; exact hc1)
    (fun _ h => by cases h) (fun _ h => by cases h) (fun h => by cases h) (fun h => by cases h) hkA hkA hkk hkk (by decide) h1 h2 h3
    (by rw [nn sp h1, nn n h3, arrV_size]; omega)
    (by rw [nn dp h2, nn n h3, arrV_size]; omega)
    (fun vm₁ _ i hi => by
      have e : (arrV G.2.1 N0 (fun j => .int (h.2.2 k0 j))).slots.getD (sp.toNatClampNeg + i) .null = .int (h.2.2 k0 (sp.toNatClampNeg + i)) := by
        rw [Array.getD_eq_getD_getElem?, arrV_read _ _ (by omega)]
        rfl
      refine ⟨?_, ?_⟩
      · rw [e]; rfl
      · rw [e]; exact trivial)
    (g := F0 m pc lsA (.int n :: .int dp :: .ref (base.1 + k1) :: .int sp :: .ref (base.1 + k0) :: st.map (xm_v base))) rfl (by rw [hml]; exact hL.1) (rest := st.map (xm_v base)) rfl (by rw [hb]; exact hd) (by omega) (by show 2 * 0 + _ + _ ≤ _; omega)
  have e1 : copied (arrV G.2.1 N0 (fun j => .int (h.2.2 k0 j))) (arrV G.2.1 N1 (fun j => .int (h.2.2 k1 j))) sp dp n = arrV G.2.1 N1 (fun j => .int (va_cpy (h.2.2 k0) (h.2.2 k1) sp.toNatClampNeg dp.toNatClampNeg n.toNatClampNeg j)) := va_copied (fun z => .int z) G.2.1 G.2.1 (h.2.2 k0) (h.2.2 k1) h4
  rw [e1] at X' step
  have hl : base.1 + k1 < H.size := (Array.getElem?_eq_some_iff.mp hc1).1
  generalize hcell : arrV G.2.1 N1 (fun j => .int (va_cpy (h.2.2 k0) (h.2.2 k1) sp.toNatClampNeg dp.toNatClampNeg n.toNatClampNeg j)) = cell at X' step
  have hheap : ((T.setVm vm').setCell (base.1 + k1) cell).heap = H.setIfInBounds (base.1 + k1) cell := by rw [← hT]; rfl
  have oq : ∀ q : Nat, q ≠ base.1 + k1 → (H.setIfInBounds (base.1 + k1) cell)[q]? = H[q]? := fun q hq => by simp [Array.getElem?_setIfInBounds, Ne.symm hq]
  obtain ⟨t, a1, b1⟩ := kk p e R s m args below meth c (H.setIfInBounds (base.1 + k1) cell) _ base lsA Q hS' hmc hms hL (hW.one hk1 rfl (fun _ _ => rfl) (fun j hj => by simp [va_up, hj]) (by simp) oq (by
    show (H.setIfInBounds (base.1 + k1) cell)[base.1 + k1]? = some (arrV G.2.1 N1 _)
    rw [← hcell]
    simp [Array.getElem?_setIfInBounds, hl, va_up])) ⟨fun q hq => by rw [oq q (by omega)]; exact hF.1 q hq, fun q hq => by
      rcases List.mem_append.mp hq with h | h
      · exact hF.2 q h
      · obtain ⟨z, -, hz⟩ := List.mem_map.mp h
        rw [← hz]
        exact Nat.le_add_right _ _⟩ hK9 _ hheap X'
  exact ⟨t, step t a1, b1⟩
/-! Math.min and Math.max: the machine has them by rows of their own -/
theorem xm_mnE : xm_nm 151 = Lib.Math.min.name ∧ xm_by 151 = Lib.Math.min.code ∧ xm_nm 152 = Lib.Math.max.name ∧ xm_by 152 = Lib.Math.max.code := by decide +kernel
theorem xm_lnkS {y pc i len a : Nat} (h : xm_lnk y (pc, .invokestatic i, len, a, 0) = true) : (decide (a < xm_N - 1) && decide (xm_kd a = 0) && xm_in (.methodLink (xm_nm y).cls i (xm_nm a))) = true := h
theorem xm_mmin {G : xm_G} {l : Launch} {y d mc ms cs zs pc : Nat} {ls : List (Option Value)} {st : List Value} {h : xm_H} {post : Option Value → xm_H → Prop} {i len : Nat} {u w : Int32} (ho : xm_op y pc = some (pc, .invokestatic i, len, 151, 0)) (hd1 : 1 ≤ d) (hc1 : cs ≤ mc) (hc2 : zs ≤ ms) (hrs : (st.map fun v => v.category).sum ≤ 8) (kk : xm_X G l y d mc ms cs zs (pc + 3) ls (.int (if w < u then w else u) :: st) h post) : xm_X G l y d mc ms cs zs pc ls (.int w :: .int u :: st) h post := by
  intro p e R s m args below meth c H locs base lsA Q hS hmc hms hL hW hF hK9
  have K := kk p e R s m args below meth c H locs base lsA Q hS hmc hms hL hW hF hK9
  obtain ⟨⟨hx, hb, hr, hml, hown⟩, ⟨hts, hK, hlk, hnm⟩, ⟨hfr, hlo, hy⟩, hbs⟩ := hS
  obtain ⟨e1, hd, hln⟩ := xm_dec hy ho
  have hln : (decide (151 < xm_N - 1) && decide (xm_kd 151 = 0) && xm_in (.methodLink (xm_nm y).cls i (xm_nm 151))) = true := xm_lnkS hln
  simp only [Bool.and_eq_true] at hln
  obtain ⟨m1, m2, m3, m4, m5, m6⟩ := xm_mfacts (y := 151) (by decide)
  have hkd : xm_kd 151 = 0 := rfl
  rw [hkd] at m6
  have hl := xm_wd hts hln.2
  have w1 := xm_wd hts m1
  have w2 := xm_wd hts m2
  have w6 := xm_wd hts m6
  rw [xm_mnE.2.1] at w1
  rw [xm_mnE.1] at hl w1 w6
  have hsum := xm_sum (base := base) hrs
  exact va_mmin hx hb (hml.trans hL.1.symm) hown hl w6 w2 w1 (by omega) (by omega) (by omega) (by omega) hd K
theorem xm_mmax {G : xm_G} {l : Launch} {y d mc ms cs zs pc : Nat} {ls : List (Option Value)} {st : List Value} {h : xm_H} {post : Option Value → xm_H → Prop} {i len : Nat} {u w : Int32} (ho : xm_op y pc = some (pc, .invokestatic i, len, 152, 0)) (hd1 : 1 ≤ d) (hc1 : cs ≤ mc) (hc2 : zs ≤ ms) (hrs : (st.map fun v => v.category).sum ≤ 8) (kk : xm_X G l y d mc ms cs zs (pc + 3) ls (.int (if u < w then w else u) :: st) h post) : xm_X G l y d mc ms cs zs pc ls (.int w :: .int u :: st) h post := by
  intro p e R s m args below meth c H locs base lsA Q hS hmc hms hL hW hF hK9
  have K := kk p e R s m args below meth c H locs base lsA Q hS hmc hms hL hW hF hK9
  obtain ⟨⟨hx, hb, hr, hml, hown⟩, ⟨hts, hK, hlk, hnm⟩, ⟨hfr, hlo, hy⟩, hbs⟩ := hS
  obtain ⟨e1, hd, hln⟩ := xm_dec hy ho
  have hln : (decide (152 < xm_N - 1) && decide (xm_kd 152 = 0) && xm_in (.methodLink (xm_nm y).cls i (xm_nm 152))) = true := xm_lnkS hln
  simp only [Bool.and_eq_true] at hln
  obtain ⟨m1, m2, m3, m4, m5, m6⟩ := xm_mfacts (y := 152) (by decide)
  have hkd : xm_kd 152 = 0 := rfl
  rw [hkd] at m6
  have hl := xm_wd hts hln.2
  have w1 := xm_wd hts m1
  have w2 := xm_wd hts m2
  have w6 := xm_wd hts m6
  rw [xm_mnE.2.2.2] at w1
  rw [xm_mnE.2.2.1] at hl w1 w6
  have hsum := xm_sum (base := base) hrs
  exact va_mmax hx hb (hml.trans hL.1.symm) hown hl w6 w2 w1 (by omega) (by omega) (by omega) (by omega) hd K
end
section
/-! THE CLAIM OUT OF ONE WALK OF THE LAW'S BODY. Your part is whole_start (and what it stands on); all else here is the same for every law, but numbers. -/
def R_law : String := "LatinLawsLaw"
def lw_P (b : Addr) (xs : List Int32) (args : Array Value) (s : State) : Prop := args = #[.ref b] ∧ s.IntsAt b xs ∧ xs.length ≤ 5 ∧ (Jvm.Cond.and given_1 narrow_1).before args s = true
def lw_Q (_ : Array Value) (s : State) (o : Outcome) (t : State) : Prop := o = .returned (some (.int 1)) ∧ Framed s o t [] 600000 7302250
def lw_Z (below : List Frame) (a : Array Value) (s : State) : State → Prop := fun t => ∃ o, t.status = .running ∧ Ended t below o ∧ lw_Q a s o t
/-- the law's own end, with 1 on the stack, nothing written that was there before, its room as the claim has it -/
theorem lw_ret {p : Program} {l : Launch} {e : Env} {s : State} {m : MethodId} {below : List Frame} {meth : Method} {c : Code} {b : Nat} (hx : p.tables.exec = Jvm.exec) (hb : c.code = code) (hr : meth.sig.returnType = ret) (hlocks : meth.locks = false) {pc : Nat} {H : Heap} {ls : Array Slot} (hdg : decode code pc = .ok (.ireturn, 1)) : W p l e room_1 s m #[Value.ref b] below meth c H [] 600000 7302250 (lw_Z below #[Value.ref b] s) (F0 m pc ls [.int 1]) := by
  intro T hT X
  obtain ⟨fs, hret, hrun, hended, hW, hframe⟩ := X.leave (v := some (.int 1)) (hlocks := hlocks) (fun h => by rw [hr] at h; cases h)
  have hmeth' : T.vm.method? m = some meth := X.method'
  refine ⟨T.setFrames fs, ?_, .returned (some (.int 1)), hrun, hended, rfl, ⟨_, rfl⟩, hW, hframe⟩
  jvm_step X.here [X.here.top, hx, hb, hdg, hmeth', hr, ret, narrow_b1]
  (try refine ⟨rfl, ?_⟩); (try refine ⟨rfl, ?_⟩)
  first | (intro acts; rw [hret _ acts rfl rfl rfl]) | rw [hret _ _ rfl rfl rfl]
  exact Steps.refl _
/-- what holds at the law's entry: the machine, the code, the tables' words (any of lw_tbl by 'hts w (by decide +kernel)'), the script of L ints xs at the cell b, what the Statement gives of the start (any of its parts by flat_of_before) -/
def lw_At (p : Program) (s : State) (m : MethodId) (meth : Method) (c : Code) (b L : Nat) (xs : Nat → Int32) : Prop :=
  p.tables.exec = Jvm.exec ∧ c.code = code ∧ meth.sig.returnType = ret ∧ c.maxLocals = 4 ∧ s.vm.findClass R_law = some m.cls ∧ (∀ w ∈ lw_tbl, w.before #[Value.ref b] s = true) ∧ va_X b L xs s s.heap ∧ b < s.heap.size ∧ meth.locks = false ∧ (Jvm.Cond.and given_1 narrow_1).before #[Value.ref b] s = true

theorem xm_arrK {s : State} {ty : FieldType} {args : Array Value} (h : (Cond.arrayClass ty).before args s = true) : ∃ cA, ArrOfT s cA ty ∧ s.vm.findClass ("[" ++ ty.toString) = some cA := by
  obtain ⟨cA, kA, comp, hfind, hk, hkind⟩ := Cond.arrayClass_spec h
  exact ⟨cA, fun n z => ⟨fun k h => (by cases h), kA, hk, comp, hkind⟩, hfind⟩
theorem xm_knownG {s : State} {args : Array Value} (hts : ∀ w ∈ lw_tbl, w.before args s = true) (sc : Nat × (Nat → Int32)) : ∃ G : xm_G, xm_K G s ∧ G.2.2.2.2 = sc := by
  have htb : ∀ w ∈ xm_tb, w.before args s = true := fun w hw => hts w (List.mem_filter.mp hw).1
  obtain ⟨c0, i0, k0⟩ := u_known (n := 2) htb (xm_cls (ci := 0) rfl) (xm_wd htb (by decide +kernel))
  obtain ⟨c1, i1, k1⟩ := u_known (n := 8) htb (xm_cls (ci := 1) rfl) (xm_wd htb (by decide +kernel))
  obtain ⟨c2, i2, k2⟩ := u_known (n := 7) htb (xm_cls (ci := 2) rfl) (xm_wd htb (by decide +kernel))
  obtain ⟨c3, i3, k3⟩ := u_known (n := 5) htb (xm_cls (ci := 3) rfl) (xm_wd htb (by decide +kernel))
  obtain ⟨c4, i4, k4⟩ := u_known (n := 5) htb (xm_cls (ci := 4) rfl) (xm_wd htb (by decide +kernel))
  obtain ⟨c5, i5, k5⟩ := u_known (n := 7) htb (xm_cls (ci := 5) rfl) (xm_wd htb (by decide +kernel))
  obtain ⟨cI, aI, fI⟩ := xm_arrK (hts (.arrayClass .int) (by decide +kernel))
  obtain ⟨cZ, aZ, fZ⟩ := xm_arrK (hts (.arrayClass .boolean) (by decide +kernel))
  have hov : (Cond.arrayOver (.object "LatinLaws$Table")).before args s = true := hts _ (by decide +kernel)
  obtain ⟨comp, cT, kT, g1, g2, g3, g4, g5⟩ := Cond.arrayOver_spec hov
  refine ⟨((fun c => match c with
    | 0 => c0
    | 1 => c1
    | 2 => c2
    | 3 => c3
    | 4 => c4
    | _ => c5, fun c => match c with
    | 0 => i0
    | 1 => i1
    | 2 => i2
    | 3 => i3
    | 4 => i4
    | _ => i5), cI, cZ, cT, sc), ⟨⟨?_, ?_⟩, va_Nw.of rfl (hts _ (by decide +kernel)), va_Nw.of rfl (hts _ (by decide +kernel)), va_AO.of hov⟩, rfl⟩
  · intro c q hq
    match c, hq with
    | 0, hq => cases hq; exact k0
    | 1, hq => cases hq; exact k1
    | 2, hq => cases hq; exact k2
    | 3, hq => cases hq; exact k3
    | 4, hq => cases hq; exact k4
    | 5, hq => cases hq; exact k5
    | n + 6, hq => simp [xm_cl] at hq
  · intro k q hq
    match k, hq with
    | 0, hq => cases hq; exact ⟨aI, fI⟩
    | 1, hq => cases hq; exact ⟨aZ, fZ⟩
    | 2, hq => cases hq; exact ⟨fun n z => ⟨fun k h => (by cases h), kT, g3, comp, g4⟩, kT, comp, g3, g4, g1, g5⟩
    | n + 3, hq => simp at hq
abbrev xm_H0 : xm_H := ([], fun _ _ => none, fun _ _ => 0)
/-- the claim's walk out of the walk of the law's body over the pure picture -/
theorem xm_lawstart {p : Program} {e : Env} {s : State} {m : MethodId} {below : List Frame} {meth : Method} {c : Code} (l : Launch) {b L : Nat} {xs : Nat → Int32} (C0 : lw_At p s m meth c b L xs) (hX : ∀ G : xm_G, G.2.2.2.2 = (L, xs) → xm_X G l xi_law 1000 600000 7302250 0 0 0 [some (.float 0), none, none, none] [] xm_H0 (fun r _ => r = some (.int 1))) : W p l e room_1 s m #[Value.ref b] below meth c s.heap [] 0 0 (lw_Z below #[Value.ref b] s) (entryFrame m ([Value.ref b] : List Value).toArray 4) := by
  obtain ⟨hx, hb, hr, hml, hown, hts, hXs, hbl, hlk, hgv⟩ := C0
  obtain ⟨G, hK, hG⟩ := xm_knownG hts (L, xs)
  rw [lg_entry_eq]
  have hL : xm_L (s.heap.size, b, xs 3) [some (.float 0), none, none, none] ((lg_sl [Value.ref b] ++ List.replicate (4 - (lg_sl [Value.ref b]).length) Slot.unset).toArray) (xm_mL xi_law) := xm_enL (base := (s.heap.size, b, xs 3)) (as := [.float 0]) (n := 4) (fun v hv => by rw [List.mem_singleton.mp hv]; rfl) (by decide)
  refine hX G hG p e room_1 s m #[Value.ref b] below meth c s.heap [] (s.heap.size, b, xs 3) _ _ ⟨⟨hx, hb, hr, hml, hown⟩, ⟨fun w hw => hts w (List.mem_filter.mp hw).1, hK, hlk, fun h => absurd h (by decide)⟩, ⟨by decide, by decide, by decide⟩, ⟨Nat.le_refl _, fun _ => ⟨by rw [hG]; exact hXs, hbl, by rw [hG]⟩⟩⟩ (Nat.le_refl _) (Nat.le_refl _) hL ⟨rfl, fun k q hk => by simp at hk⟩ ⟨fun _ _ => rfl, fun _ h => by cases h⟩ ?_
  intro pc' lsA' H' locs' cs' zs' r h' hend hcs hzs hp hw hf
  subst hp
  obtain ⟨hdg, -⟩ := hend
  refine va_forget (fun q hq => hf.2 q hq) ?_
  refine W.widen (k := 600000) (n := 7302250) hcs hzs ?_
  exact lw_ret hx hb hr hlk hdg
end
section
/-! an evaluator of the picture: concrete runs, and runs along a given path of branches -/
abbrev xe_K : Type := ClassFile.Cond × Int32 × Int32 × Bool
abbrev xe_R : Type := Option Value × xm_H × List Bool × List xe_K
def xe_cd (c : ClassFile.Cond) (x y : Int32) : Bool := match c with
  | .eq => decide (x = y)
  | .ne => !decide (x = y)
  | .lt => decide (x < y)
  | .ge => decide (y ≤ x)
  | .gt => decide (y < x)
  | .le => decide (x ≤ y)
theorem xe_cd_iff (c : ClassFile.Cond) (x y : Int32) : xe_cd c x y = true ↔ xm_cd c x y := by cases c <;> simp [xe_cd, xm_cd]
def xe_holds (k : xe_K) : Prop := if k.2.2.2 = true then xm_cd k.1 k.2.1 k.2.2.1 else ¬ xm_cd k.1 k.2.1 k.2.2.1
def xe_fix (n : Nat) (st : List Value) : Option (List Value × List Value) := if n ≤ st.length then some ((st.take n).reverse, st.drop n) else none
theorem xe_fix_spec {n : Nat} {st as rest : List Value} (h : xe_fix n st = some (as, rest)) : st = as.reverse ++ rest ∧ as.length = n := by
  unfold xe_fix at h
  split at h
  · cases h
    rename_i hn
    exact ⟨by rw [List.reverse_reverse, List.take_append_drop], by simp; omega⟩
  · cases h
def xe_arg (a : Nat) (as : List Value) : Bool := (decide (a < xm_N - 1) && (decide (a ≠ 151) && decide (a ≠ 152))) && as.all (fun v => v.category == 1) && decide (as.length ≤ xm_mL a)
def xe_rst (rest : List Value) : Bool := decide ((rest.map fun v => v.category).sum ≤ 8)
def xe_heap (sc : List (Nat × Int32)) (o : xm_Op) (st : List Value) (h : xm_H) : Option (List Value × xm_H) := match o.2.1 with
  | .getfield _ => match st with
    | .ref k :: r => match h.1[k]? with
      | some (t, _) => if t = o.2.2.2.1 + 3 then (if xm_isI o.2.2.2.1 o.2.2.2.2 = true then some (.int (h.2.2 k o.2.2.2.2) :: r, h) else match h.2.1 k o.2.2.2.2 with
        | some q => some (.ref q :: r, h)
        | none => none) else none
      | none => none
    | _ => none
  | .putfield _ => match st with
    | .int x :: .ref k :: r => match h.1[k]? with
      | some (t, _) => if t = o.2.2.2.1 + 3 then (if xm_isI o.2.2.2.1 o.2.2.2.2 = true then some (r, xm_sm h k o.2.2.2.2 x) else none) else none
      | none => none
    | _ => none
  | .iaload => match st with
    | .int i :: .ref k :: r => match h.1[k]? with
      | some (t, N) => if t = 0 then (if i < 0 then none else if N ≤ i.toNatClampNeg then none else some (.int (h.2.2 k i.toNatClampNeg) :: r, h)) else none
      | none => none
    | _ => none
  | .baload => match st with
    | .int i :: .ref k :: r => match h.1[k]? with
      | some (t, N) => if t = 1 then (if i < 0 then none else if N ≤ i.toNatClampNeg then none else some (.int (h.2.2 k i.toNatClampNeg) :: r, h)) else none
      | none => none
    | _ => none
  | .aaload => match st with
    | .int i :: .ref k :: r => match h.1[k]? with
      | some (t, N) => if t = 2 then (if i < 0 then none else if N ≤ i.toNatClampNeg then none else match h.2.1 k i.toNatClampNeg with
        | some q => some (.ref q :: r, h)
        | none => none) else none
      | none => none
    | _ => none
  | .iastore => match st with
    | .int x :: .int i :: .ref k :: r => match h.1[k]? with
      | some (t, N) => if t = 0 then (if i < 0 then none else if N ≤ i.toNatClampNeg then none else some (r, xm_sm h k i.toNatClampNeg x)) else none
      | none => none
    | _ => none
  | .bastore => match st with
    | .int x :: .int i :: .ref k :: r => match h.1[k]? with
      | some (t, N) => if t = 1 then (if i < 0 then none else if N ≤ i.toNatClampNeg then none else some (r, xm_sm h k i.toNatClampNeg (vp_nar .boolean x))) else none
      | none => none
    | _ => none
  | .arraylength => match st with
    | .ref k :: r => match h.1[k]? with
      | some (t, N) => if t = 0 then some (.int (Int32.ofNat N) :: r, h) else none
      | none => none
    | _ => none
  | .idiv => match st with
    | .int w :: .int u :: r => if w = 0 then none else some (.int (u / w) :: r, h)
    | _ => none
  | .irem => match st with
    | .int w :: .int u :: r => if w = 0 then none else some (.int (u - u / w * w) :: r, h)
    | _ => none
  | _ => none
def xe_lp (sc : List (Nat × Int32)) (call : Nat → List Value → xm_H → List Bool → Option xe_R) : Nat → Nat → Nat → List (Option Value) → List Value → xm_H → List Bool → Option xe_R
  | 0, _, _, _, _, _, _ => none
  | n + 1, y, pc, ls, st, h, ds => match xm_op y pc with
    | none => none
    | some o => match o.2.1 with
      | .ireturn => match st with
        | [.int v] => match xm_rt y with
          | some ty => if narrow ty (.int v) = .int v then some (some (.int v), h, ds, []) else none
          | none => none
        | _ => none
      | .return_ => match st with
        | [] => match xm_rt y with
          | none => some (none, h, ds, [])
          | _ => none
        | _ => none
      | .invokestatic _ => match o.2.2.2.2 with
        | 0 => if o.2.2.2.1 = 151 then (match st with
          | .int w :: .int u :: r => if xe_rst r = true then xe_lp sc call n y (pc + 3) ls (.int (if w < u then w else u) :: r) h ds else none
          | _ => none) else if o.2.2.2.1 = 152 then (match st with
          | .int w :: .int u :: r => if xe_rst r = true then xe_lp sc call n y (pc + 3) ls (.int (if u < w then w else u) :: r) h ds else none
          | _ => none) else match xe_fix (xm_np o.2.2.2.1) st with
          | some (as, rest) => if xe_arg o.2.2.2.1 as && xe_rst rest then (match call o.2.2.2.1 as h ds with
            | some (r, h1, d1, c1) => match xe_lp sc call n y (pc + 3) ls (r.toList ++ rest) h1 d1 with
              | some (r2, h2, d2, c2) => some (r2, h2, d2, c1 ++ c2)
              | none => none
            | none => none) else none
          | none => none
        | 1 => match xe_fix 2 st with
          | some (as, rest) => if xe_arg xi_L_isBelow as && xe_rst rest then (match call xi_L_isBelow as h ds with
            | some (r, h1, d1, c1) => match xe_lp sc call n y (pc + 3) ls (r.toList ++ rest) h1 d1 with
              | some (r2, h2, d2, c2) => some (r2, h2, d2, c1 ++ c2)
              | none => none
            | none => none) else none
          | none => none
        | _ => match st with
          | .int c :: .int dp :: .ref k1 :: .int sp :: .ref k0 :: r => match h.1[k0]? with
            | some (t0, N0) => match h.1[k1]? with
              | some (t1, N1) => if t0 = 0 ∧ t1 = 0 ∧ ¬ sp < 0 ∧ ¬ dp < 0 ∧ ¬ c < 0 ∧ sp.toNatClampNeg + c.toNatClampNeg ≤ N0 ∧ dp.toNatClampNeg + c.toNatClampNeg ≤ N1 ∧ xe_rst r = true then xe_lp sc call n y (pc + 3) ls r (h.1, h.2.1, va_up h.2.2 k1 (va_cpy (h.2.2 k0) (h.2.2 k1) sp.toNatClampNeg dp.toNatClampNeg c.toNatClampNeg)) ds else none
              | none => none
            | none => none
          | _ => none
      | .invokevirtual _ => match xe_fix (xm_np o.2.2.2.1) st with
        | some (as, .ref k :: rest) => match h.1[k]? with
          | some (ci + 3, _) => if xe_arg o.2.2.2.1 (.ref k :: as) && xe_rst rest && decide ((xm_cl[ci]?).map (fun q => q.1) = some (xm_nm o.2.2.2.1).cls) then (match call o.2.2.2.1 (.ref k :: as) h ds with
            | some (r, h1, d1, c1) => match xe_lp sc call n y (pc + 3) ls (r.toList ++ rest) h1 d1 with
              | some (r2, h2, d2, c2) => some (r2, h2, d2, c1 ++ c2)
              | none => none
            | none => none) else none
          | _ => none
        | _ => none
      | .tableswitch df lo hi offs => match st with
        | .int x :: r => match xm_sw pc df lo hi offs x with
          | some t => xe_lp sc call n y t ls r h ds
          | none => none
        | _ => none
      | _ => match xm_stp o ls st with
        | some (pc', ls', st') => xe_lp sc call n y pc' ls' st' h ds
        | none => match xm_br o st with
          | some b => (match ds with
            | [] => if xe_cd b.1 b.2.1 b.2.2.1 = true then xe_lp sc call n y b.2.2.2.1 ls b.2.2.2.2 h [] else xe_lp sc call n y (pc + 3) ls b.2.2.2.2 h []
            | e :: ds' => match xe_lp sc call n y (if e = true then b.2.2.2.1 else pc + 3) ls b.2.2.2.2 h ds' with
              | some (r2, h2, d2, c2) => some (r2, h2, d2, (b.1, b.2.1, b.2.2.1, e) :: c2)
              | none => none)
          | none => match xe_heap sc o st h with
            | some (st', h') => xe_lp sc call n y (pc + xm_len o.2.1) ls st' h' ds
            | none => if y = xi_law then (match o.2.1, st with
              | .iaload, .int i :: .float u :: r => if u = 0 then (if i < 0 then none else if i.toNatClampNeg = 1000000 then none else match sc.lookup i.toNatClampNeg with
                | some v => xe_lp sc call n y (pc + 1) ls (.int v :: r) h ds
                | none => if i.toNatClampNeg = 3 then (match sc.lookup 1000000 with
                  | some v => if v = 5 then xe_lp sc call n y (pc + 1) ls (.float 1 :: r) h ds else none
                  | none => none) else none) else none
              | .arraylength, .float u :: r => if u ≠ 0 then none else match sc.lookup 1000000 with
                | some v => xe_lp sc call n y (pc + 1) ls (.int v :: r) h ds
                | none => none
              | _, _ => none) else none
def xe_call (sc : List (Nat × Int32)) (N : Nat) : Nat → Nat → List Value → xm_H → List Bool → Option xe_R
  | 0 => fun _ _ _ _ => none
  | d + 1 => fun y as h ds => xe_lp sc (xe_call sc N d) N y 0 (xm_en as (xm_mL y)) [] h ds
end
section
/-! the evaluator is sound -/
theorem xm_opc {y pc : Nat} {o : xm_Op} (h : xm_op y pc = some o) : o.1 = pc := by
  have h1 := List.find?_some h
  simpa using h1
set_option maxHeartbeats 2000000 in
theorem xe_hp {G : xm_G} {l : Launch} {sc : List (Nat × Int32)} {y d mc ms cs zs pc : Nat} {ls : List (Option Value)} {st st' : List Value} {h h' : xm_H} {post : Option Value → xm_H → Prop} {o : xm_Op} (ho : xm_op y pc = some o) (hh : xe_heap sc o st h = some (st', h')) (kk : xm_X G l y d mc ms cs zs (pc + xm_len o.2.1) ls st' h' post) : xm_X G l y d mc ms cs zs pc ls st h post := by
  have e := xm_opc ho
  obtain ⟨q, ins, len, a, b⟩ := o
  dsimp only at e
  subst e
  unfold xe_heap at hh
  dsimp only at hh kk
  split at hh
  · split at hh
    · rename_i k r
      cases hk : h.1[k]? with
      | none => rw [hk] at hh; cases hh
      | some w =>
        obtain ⟨t, N⟩ := w
        rw [hk] at hh
        dsimp only at hh
        split at hh
        · rename_i ht
          subst ht
          split at hh
          · rename_i hI
            cases hh
            exact xm_getI ho hk hI kk
          · rename_i hI
            cases hr : h.2.1 k b with
            | none => rw [hr] at hh; cases hh
            | some q2 =>
              rw [hr] at hh
              cases hh
              exact xm_getR ho hk (by simpa using hI) hr kk
        · cases hh
    · cases hh
  · split at hh
    · rename_i x k r
      cases hk : h.1[k]? with
      | none => rw [hk] at hh; cases hh
      | some w =>
        obtain ⟨t, N⟩ := w
        rw [hk] at hh
        dsimp only at hh
        split at hh
        · rename_i ht
          subst ht
          split at hh
          · rename_i hI
            cases hh
            exact xm_putI ho hk hI kk
          · cases hh
        · cases hh
    · cases hh
  · split at hh
    · rename_i i k r
      cases hk : h.1[k]? with
      | none => rw [hk] at hh; cases hh
      | some w =>
        obtain ⟨t, N⟩ := w
        rw [hk] at hh
        dsimp only at hh
        split at hh
        · rename_i ht
          subst ht
          split at hh
          · cases hh
          · split at hh
            · cases hh
            · cases hh
              rename_i g1 g2
              exact xm_iald ho hk (fun z => z.elim g1 g2) kk
        · cases hh
    · cases hh
  · split at hh
    · rename_i i k r
      cases hk : h.1[k]? with
      | none => rw [hk] at hh; cases hh
      | some w =>
        obtain ⟨t, N⟩ := w
        rw [hk] at hh
        dsimp only at hh
        split at hh
        · rename_i ht
          subst ht
          split at hh
          · cases hh
          · split at hh
            · cases hh
            · cases hh
              rename_i g1 g2
              exact xm_zald ho hk (fun z => z.elim g1 g2) kk
        · cases hh
    · cases hh
  · split at hh
    · rename_i i k r
      cases hk : h.1[k]? with
      | none => rw [hk] at hh; cases hh
      | some w =>
        obtain ⟨t, N⟩ := w
        rw [hk] at hh
        dsimp only at hh
        split at hh
        · rename_i ht
          subst ht
          split at hh
          · cases hh
          · split at hh
            · cases hh
            · rename_i g1 g2
              cases hr : h.2.1 k i.toNatClampNeg with
              | none => rw [hr] at hh; cases hh
              | some q2 =>
                rw [hr] at hh
                cases hh
                exact xm_aald ho hk (fun z => z.elim g1 g2) hr kk
        · cases hh
    · cases hh
  · split at hh
    · rename_i x i k r
      cases hk : h.1[k]? with
      | none => rw [hk] at hh; cases hh
      | some w =>
        obtain ⟨t, N⟩ := w
        rw [hk] at hh
        dsimp only at hh
        split at hh
        · rename_i ht
          subst ht
          split at hh
          · cases hh
          · split at hh
            · cases hh
            · cases hh
              rename_i g1 g2
              exact xm_iast ho hk (fun z => z.elim g1 g2) kk
        · cases hh
    · cases hh
  · split at hh
    · rename_i x i k r
      cases hk : h.1[k]? with
      | none => rw [hk] at hh; cases hh
      | some w =>
        obtain ⟨t, N⟩ := w
        rw [hk] at hh
        dsimp only at hh
        split at hh
        · rename_i ht
          subst ht
          split at hh
          · cases hh
          · split at hh
            · cases hh
            · cases hh
              rename_i g1 g2
              exact xm_zast ho hk (fun z => z.elim g1 g2) kk
        · cases hh
    · cases hh
  · split at hh
    · rename_i k r
      cases hk : h.1[k]? with
      | none => rw [hk] at hh; cases hh
      | some w =>
        obtain ⟨t, N⟩ := w
        rw [hk] at hh
        dsimp only at hh
        split at hh
        · rename_i ht
          subst ht
          cases hh
          exact xm_alen ho hk kk
        · cases hh
    · cases hh
  · split at hh
    · split at hh
      · cases hh
      · cases hh
        rename_i hz
        exact xm_idiv ho hz kk
    · cases hh
  · split at hh
    · split at hh
      · cases hh
      · cases hh
        rename_i hz
        exact xm_irem ho hz kk
    · cases hh
  · cases hh
end
section
/-! the evaluator is sound: runs and calls -/
theorem xm_enter' {G : xm_G} {l : Launch} {y d mc ms : Nat} {as : List Value} {h : xm_H} {post : Option Value → xm_H → Prop} {ls : List (Option Value)} (hy : y < xm_N - 1 ∧ (y ≠ 151 ∧ y ≠ 152)) (hc : as.all (fun v => v.category == 1) = true) (hn : as.length ≤ xm_mL y) (hls : xm_en as (xm_mL y) = ls) (hX : xm_X G l y d mc ms 0 0 0 ls [] h post) : xm_C G l y d mc ms as h post :=
  xm_enter hy.1 hy.2 (fun v hv => by simpa using List.all_eq_true.mp hc v hv) hn (hls ▸ hX)
set_option maxHeartbeats 4000000 in
theorem xe_lp_ok {G : xm_G} {l : Launch} {sc : List (Nat × Int32)} {call : Nat → List Value → xm_H → List Bool → Option xe_R} {d : Nat} (hsc : (∀ j v, sc.lookup j = some v → j ≠ 1000000 → j < G.2.2.2.2.1 ∧ G.2.2.2.2.2 j = v) ∧ ∀ v, sc.lookup 1000000 = some v → v = Int32.ofNat G.2.2.2.2.1 ∧ (v = 5 → G.2.2.2.2.1 = 5))
    (hcall : ∀ a as h ds r h1 d1 c1, call a as h ds = some (r, h1, d1, c1) → (∀ k ∈ c1, xe_holds k) → xe_arg a as = true → xm_C G l a d 0 0 as h (fun r' h' => r' = r ∧ h' = h1)) :
    ∀ (n y pc : Nat) (ls : List (Option Value)) (st : List Value) (h : xm_H) (ds : List Bool) (r : Option Value) (h1 : xm_H) (d1 : List Bool) (c1 : List xe_K), xe_lp sc call n y pc ls st h ds = some (r, h1, d1, c1) → (∀ k ∈ c1, xe_holds k) → ∀ {mc ms cs zs : Nat}, cs ≤ mc → zs ≤ ms → xm_X G l y (d + 1) mc ms cs zs pc ls st h (fun r' h' => r' = r ∧ h' = h1) := by
  intro n
  induction n with
  | zero => intro y pc ls st h ds r h1 d1 c1 hrun; cases hrun
  | succ n ih =>
    intro y pc ls st h ds r h1 d1 c1 hrun hcs mc ms cs zs hm1 hm2
    unfold xe_lp at hrun
    cases ho : xm_op y pc with
    | none => rw [ho] at hrun; cases hrun
    | some o =>
      rw [ho] at hrun
      dsimp only at hrun
      have e := xm_opc ho
      obtain ⟨q, ins, len, a, b⟩ := o
      dsimp only at e
      subst e
      dsimp only at hrun
      split at hrun
      · -- ireturn
        split at hrun
        · cases hr : xm_rt y with
          | none => rw [hr] at hrun; cases hrun
          | some ty =>
            rw [hr] at hrun
            dsimp only at hrun
            split at hrun
            · cases hrun
              rename_i hn
              exact xm_retI ho hr hn hm1 hm2 ⟨rfl, rfl⟩
            · cases hrun
        · cases hrun
      · -- return
        split at hrun
        · cases hr : xm_rt y with
          | some ty => rw [hr] at hrun; cases hrun
          | none =>
            rw [hr] at hrun
            cases hrun
            exact xm_retV ho hr hm1 hm2 ⟨rfl, rfl⟩
        · cases hrun
      · -- invokestatic
        split at hrun
        · split at hrun
          · rename_i ha
            subst ha
            split at hrun
            · split at hrun
              · rename_i hg
                exact xm_mmin ho (by omega) hm1 hm2 (by simpa [xe_rst] using hg) (ih y _ ls _ h ds r h1 d1 c1 hrun hcs hm1 hm2)
              · cases hrun
            · cases hrun
          split at hrun
          · rename_i ha
            subst ha
            split at hrun
            · split at hrun
              · rename_i hg
                exact xm_mmax ho (by omega) hm1 hm2 (by simpa [xe_rst] using hg) (ih y _ ls _ h ds r h1 d1 c1 hrun hcs hm1 hm2)
              · cases hrun
            · cases hrun
          cases hf : xe_fix (xm_np a) st with
          | none => rw [hf] at hrun; cases hrun
          | some w =>
            obtain ⟨as, rest⟩ := w
            rw [hf] at hrun
            dsimp only at hrun
            split at hrun
            · rename_i hg
              simp only [Bool.and_eq_true] at hg
              cases hcl : call a as h ds with
              | none => rw [hcl] at hrun; cases hrun
              | some w =>
                obtain ⟨r2, h2, d2, c2⟩ := w
                rw [hcl] at hrun
                dsimp only at hrun
                cases hl2 : xe_lp sc call n y (q + 3) ls (r2.toList ++ rest) h2 d2 with
                | none => rw [hl2] at hrun; cases hrun
                | some w =>
                  obtain ⟨r3, h3, d3, c3⟩ := w
                  rw [hl2] at hrun
                  cases hrun
                  obtain ⟨f1, f2⟩ := xe_fix_spec hf
                  subst f1
                  refine xm_callS (d' := d) (mc' := 0) (ms' := 0) ho (hcall a as h ds r2 h2 d2 c2 hcl (fun k hk => hcs k (List.mem_append_left _ hk)) hg.1) f2 (Nat.le_refl _) hm1 hm2 (by simpa [xe_rst] using hg.2) (fun r' h' hp => ?_)
                  obtain ⟨rfl, rfl⟩ := hp
                  exact ih y (q + 3) ls _ _ d2 r h1 d1 c3 hl2 (fun k hk => hcs k (List.mem_append_right _ hk)) hm1 hm2
            · cases hrun
        · cases hf : xe_fix 2 st with
          | none => rw [hf] at hrun; cases hrun
          | some w =>
            obtain ⟨as, rest⟩ := w
            rw [hf] at hrun
            dsimp only at hrun
            split at hrun
            · rename_i hg
              simp only [Bool.and_eq_true] at hg
              cases hcl : call xi_L_isBelow as h ds with
              | none => rw [hcl] at hrun; cases hrun
              | some w =>
                obtain ⟨r2, h2, d2, c2⟩ := w
                rw [hcl] at hrun
                dsimp only at hrun
                cases hl2 : xe_lp sc call n y (q + 3) ls (r2.toList ++ rest) h2 d2 with
                | none => rw [hl2] at hrun; cases hrun
                | some w =>
                  obtain ⟨r3, h3, d3, c3⟩ := w
                  rw [hl2] at hrun
                  cases hrun
                  obtain ⟨f1, f2⟩ := xe_fix_spec hf
                  subst f1
                  refine xm_callN (d' := d) ho (hcall xi_L_isBelow as h ds r2 h2 d2 c2 hcl (fun k hk => hcs k (List.mem_append_left _ hk)) hg.1) f2 (Nat.le_refl _) hm1 hm2 (by simpa [xe_rst] using hg.2) (fun r' h' hp => ?_)
                  obtain ⟨rfl, rfl⟩ := hp
                  exact ih y (q + 3) ls _ _ d2 r h1 d1 c3 hl2 (fun k hk => hcs k (List.mem_append_right _ hk)) hm1 hm2
            · cases hrun
        · rename_i hb0 hb1
          obtain ⟨b', rfl⟩ : ∃ b', b = b' + 2 := by
            rcases b with _ | _ | b'
            · first | exact absurd rfl hb0 | exact absurd rfl hb1 | simp at *
            · first | exact absurd rfl hb0 | exact absurd rfl hb1 | simp at *
            · exact ⟨b', rfl⟩
          split at hrun
          · rename_i c dp k1 sp k0 rr
            cases hk0 : h.1[k0]? with
            | none => rw [hk0] at hrun; cases hrun
            | some w =>
              obtain ⟨t0, N0⟩ := w
              rw [hk0] at hrun
              dsimp only at hrun
              cases hk1 : h.1[k1]? with
              | none => rw [hk1] at hrun; cases hrun
              | some w =>
                obtain ⟨t1, N1⟩ := w
                rw [hk1] at hrun
                dsimp only at hrun
                split at hrun
                · rename_i hg
                  obtain ⟨rfl, rfl, g3, g4, g5, g6, g7, g8⟩ := hg
                  exact xm_copy ho hk0 hk1 g3 g4 g5 g6 g7 (by omega) (by simpa [xe_rst] using g8) (ih y (q + 3) ls rr _ ds r h1 d1 c1 hrun hcs hm1 hm2)
                · cases hrun
          · cases hrun
      · -- invokevirtual
        split at hrun
        · rename_i as k rest hf
          split at hrun
          · rename_i ci N hk
            split at hrun
            · rename_i hg
              simp only [Bool.and_eq_true, decide_eq_true_eq] at hg
              cases hcl : call a (.ref k :: as) h ds with
              | none => rw [hcl] at hrun; cases hrun
              | some w =>
                obtain ⟨r2, h2, d2, c2⟩ := w
                rw [hcl] at hrun
                dsimp only at hrun
                cases hl2 : xe_lp sc call n y (q + 3) ls (r2.toList ++ rest) h2 d2 with
                | none => rw [hl2] at hrun; cases hrun
                | some w =>
                  obtain ⟨r3, h3, d3, c3⟩ := w
                  rw [hl2] at hrun
                  cases hrun
                  obtain ⟨f1, f2⟩ := xe_fix_spec hf
                  subst f1
                  refine xm_callV (d' := d) (mc' := 0) (ms' := 0) ho hk hg.2 (hcall a (.ref k :: as) h ds r2 h2 d2 c2 hcl (fun k hk => hcs k (List.mem_append_left _ hk)) hg.1.1) f2 (Nat.le_refl _) hm1 hm2 (by simpa [xe_rst] using hg.1.2) (fun r' h' hp => ?_)
                  obtain ⟨rfl, rfl⟩ := hp
                  exact ih y (q + 3) ls _ _ d2 r h1 d1 c3 hl2 (fun k hk => hcs k (List.mem_append_right _ hk)) hm1 hm2
            · cases hrun
          · cases hrun
        · cases hrun
      · -- tableswitch
        split at hrun
        · split at hrun
          · rename_i ht
            exact xm_swi ho ht (ih y _ ls _ h ds r h1 d1 c1 hrun hcs hm1 hm2)
          · cases hrun
        · cases hrun
      · -- the rest
        split at hrun
        · rename_i pc' ls' st' hst
          exact xm_step ho hst (ih y pc' ls' st' h ds r h1 d1 c1 hrun hcs hm1 hm2)
        · split at hrun
          · rename_i bb hbb
            split at hrun
            · split at hrun
              · rename_i hc
                exact xm_if ho hbb (fun _ => ih y _ ls _ h [] r h1 d1 c1 hrun hcs hm1 hm2) (fun q => absurd ((xe_cd_iff _ _ _).mp hc) q)
              · rename_i hc
                exact xm_if ho hbb (fun q => absurd ((xe_cd_iff _ _ _).mpr q) hc) (fun _ => ih y _ ls _ h [] r h1 d1 c1 hrun hcs hm1 hm2)
            · rename_i e ds'
              cases hl2 : xe_lp sc call n y (if e = true then bb.2.2.2.1 else q + 3) ls bb.2.2.2.2 h ds' with
              | none => rw [hl2] at hrun; cases hrun
              | some w =>
                obtain ⟨r3, h3, d3, c3⟩ := w
                rw [hl2] at hrun
                cases hrun
                have hh : xe_holds (bb.1, bb.2.1, bb.2.2.1, e) := hcs _ List.mem_cons_self
                have IH := ih y _ ls _ h ds' r h1 d1 c3 hl2 (fun k hk => hcs k (List.mem_cons_of_mem _ hk)) hm1 hm2
                unfold xe_holds at hh
                dsimp only at hh
                cases e with
                | true =>
                  rw [if_pos rfl] at hh
                  exact xm_if ho hbb (fun _ => IH) (fun q => absurd hh q)
                | false =>
                  rw [if_neg (by decide)] at hh
                  exact xm_if ho hbb (fun q => absurd q hh) (fun _ => IH)
          · split at hrun
            · rename_i st' h' hh
              exact xe_hp ho hh (ih y _ ls st' h' ds r h1 d1 c1 hrun hcs hm1 hm2)
            · split at hrun
              · rename_i hy
                subst hy
                split at hrun
                · rename_i i u rr
                  split at hrun
                  · rename_i hu
                    subst hu
                    split at hrun
                    · cases hrun
                    · rename_i hi
                      split at hrun
                      · cases hrun
                      · rename_i hne
                        split at hrun
                        · rename_i v hv
                          obtain ⟨s1, s2⟩ := hsc.1 _ _ hv hne
                          refine xm_sld ho (fun z => z.elim hi (fun z => by omega)) ?_
                          rw [s2]
                          exact ih xi_law (q + 1) ls _ h ds r h1 d1 c1 hrun hcs hm1 hm2
                        · split at hrun
                          · rename_i h3
                            split at hrun
                            · rename_i v hv
                              split at hrun
                              · rename_i hv5
                                have hL5 : G.2.2.2.2.1 = 5 := (hsc.2 _ hv).2 hv5
                                refine xm_sldo ho (fun z => z.elim hi (fun z => by omega)) h3 ?_
                                exact ih xi_law (q + 1) ls _ h ds r h1 d1 c1 hrun hcs hm1 hm2
                              · cases hrun
                            · cases hrun
                          · cases hrun
                  · cases hrun
                · split at hrun
                  · cases hrun
                  · rename_i hu
                    have hu9 := Decidable.not_not.mp hu
                    subst hu9
                    split at hrun
                    · rename_i v hv
                      have s2 := (hsc.2 _ hv).1
                      refine xm_slen ho ?_
                      rw [← s2]
                      exact ih xi_law (q + 1) ls _ h ds r h1 d1 c1 hrun hcs hm1 hm2
                    · cases hrun
                · cases hrun
              · cases hrun
theorem xe_call_ok {G : xm_G} {l : Launch} {sc : List (Nat × Int32)} {N : Nat} (hsc : (∀ j v, sc.lookup j = some v → j ≠ 1000000 → j < G.2.2.2.2.1 ∧ G.2.2.2.2.2 j = v) ∧ ∀ v, sc.lookup 1000000 = some v → v = Int32.ofNat G.2.2.2.2.1 ∧ (v = 5 → G.2.2.2.2.1 = 5)) : ∀ (d a : Nat) (as : List Value) (h : xm_H) (ds : List Bool) (r : Option Value) (h1 : xm_H) (d1 : List Bool) (c1 : List xe_K), xe_call sc N d a as h ds = some (r, h1, d1, c1) → (∀ k ∈ c1, xe_holds k) → xe_arg a as = true → xm_C G l a d 0 0 as h (fun r' h' => r' = r ∧ h' = h1) := by
  intro d
  induction d with
  | zero => intro a as h ds r h1 d1 c1 hrun; cases hrun
  | succ d ih =>
    intro a as h ds r h1 d1 c1 hrun hcs ha
    simp only [xe_arg, Bool.and_eq_true, decide_eq_true_eq] at ha
    exact xm_enter' ha.1.1 ha.1.2 ha.2 rfl (xe_lp_ok hsc ih N a 0 _ [] h ds r h1 d1 c1 hrun hcs (Nat.le_refl _) (Nat.le_refl _))
theorem xm_dm {G : xm_G} {l : Launch} {y d d' mc ms cs zs pc : Nat} {ls : List (Option Value)} {st : List Value} {h : xm_H} {post : Option Value → xm_H → Prop} (hd : d ≤ d') (k : xm_X G l y d mc ms cs zs pc ls st h post) : xm_X G l y d' mc ms cs zs pc ls st h post := by
  intro p e R s m args below meth c H locs base lsA Q hS hmc hms hL hW hF hk
  obtain ⟨g1, g2, ⟨g3, g4, g5⟩, g6⟩ := hS
  exact k p e R s m args below meth c H locs base lsA Q ⟨g1, g2, ⟨by omega, by omega, g5⟩, g6⟩ hmc hms hL hW hF hk
end
section
/-! contracts of the leaves -/
abbrev xf_fill (h : xm_H) (k N : Nat) (v : Int32) : xm_H := (h.1, h.2.1, va_up h.2.2 k (fun j => if j < N then v else h.2.2 k j))
theorem xf_fill0 (h : xm_H) (k : Nat) (v : Int32) : xf_fill h k 0 v = h := by
  obtain ⟨a, b, c⟩ := h
  simp only [xf_fill, Prod.mk.injEq, true_and]
  funext q j
  unfold va_up
  split
  · rename_i e; subst e; simp
  · rfl
theorem xf_fillS (h : xm_H) (k i : Nat) (v : Int32) : xm_sm (xf_fill h k i v) k i v = xf_fill h k (i + 1) v := by
  simp only [xm_sm, xf_fill, Prod.mk.injEq, true_and]
  funext q j
  unfold va_up upd
  by_cases e : q = k
  · subst e
    simp only [if_true]
    by_cases e2 : j = i
    · subst e2; simp
    · have : j < i + 1 ↔ j < i := by omega
      simp [e2, this]
  · simp [e]
theorem c_fill {G : xm_G} {l : Launch} {d : Nat} {h : xm_H} {k N : Nat} (hk : h.1[k]? = some (0, N)) (hN : N < 2 ^ 31) (v : Int32) : xm_C G l xi_Arrays_fill d 0 0 [.ref k, .int v] h (fun r h' => r = none ∧ h' = xf_fill h k N v) := by
  refine xm_enter' (by decide) rfl (Nat.le_of_ble_eq_true rfl) rfl ?_
  refine xm_step rfl rfl ?_
  refine xm_step rfl rfl ?_
  refine xm_step rfl rfl ?_
  refine xm_alen rfl hk ?_
  refine xm_step rfl rfl ?_
  have L : ∀ (n i : Nat), i ≤ N → N + 1 ≤ i + n → xm_X G l xi_Arrays_fill d 0 0 0 0 5 [some (.ref k), some (.int v), some (.int (nI i)), some (.int (nI N))] [] (xf_fill h k i v) (fun r h' => r = none ∧ h' = xf_fill h k N v) := by
    intro n
    induction n with
    | zero => intro i h1 h2; omega
    | succ n ih =>
      intro i h1 h2
      refine xm_step rfl rfl ?_
      refine xm_step rfl rfl ?_
      refine xm_if rfl rfl (fun hc => ?_) (fun hc => ?_)
      · have hc : nI N ≤ nI i := hc
        have e : i = N := by have := (nI_leI hN (by omega)).mp hc; omega
        subst e
        exact xm_retV rfl rfl (Nat.le_refl _) (Nat.le_refl _) ⟨rfl, rfl⟩
      · have hc : ¬ nI N ≤ nI i := hc
        have hlt : i < N := by
          rcases Nat.lt_or_ge i N with q | q
          · exact q
          · exact absurd (nI_le q (by omega)) hc
        refine xm_step rfl rfl ?_
        refine xm_step rfl rfl ?_
        refine xm_step rfl rfl ?_
        refine xm_iast rfl hk (vp_in_nI hlt hN) ?_
        rw [nI_clamp (by omega), xf_fillS]
        refine xm_step rfl rfl ?_
        refine xm_step rfl rfl ?_
        have := ih (i + 1) (by omega) (by omega)
        rw [nI_succ] at this
        exact this
  have := L (N + 1) 0 (by omega) (by omega)
  rw [xf_fill0] at this
  exact this
/-! a table: its object k, its cells kc -/
def xt_T (h : xm_H) (k kc : Nat) : Prop := h.1[k]? = some (3, 2) ∧ h.2.1 k 1 = some kc ∧ h.1[kc]? = some (0, 64)
theorem xt_T.ne {h : xm_H} {k kc : Nat} (hT : xt_T h k kc) : k ≠ kc := fun e => by
  have h1 := hT.1
  rw [e, hT.2.2] at h1
  cases h1
theorem xt_8 : (Int8.ofInt 8).toInt32 = nI 8 := by decide +kernel
theorem c_put {G : xm_G} {l : Launch} {d : Nat} {h : xm_H} {k kc n i j : Nat} (hT : xt_T h k kc) (hn : h.2.2 k 0 = nI n) (hn8 : n ≤ 8) (hi : i < n) (hj : j < n) (v : Int32) : xm_C G l xi_Table_put d 0 0 [.ref k, .int (nI i), .int (nI j), .int v] h (fun r h' => r = none ∧ h' = xm_sm h kc (8 * i + j) v) := by
  refine xm_enter' (by decide) rfl (Nat.le_of_ble_eq_true rfl) rfl ?_
  refine xm_step rfl rfl ?_
  refine xm_if rfl rfl (fun hc => absurd hc (nI_pos (by omega))) (fun _ => ?_)
  refine xm_step rfl rfl ?_
  refine xm_step rfl rfl ?_
  refine xm_getI rfl hT.1 rfl ?_
  refine xm_if rfl rfl (fun hc => absurd (show h.2.2 k 0 ≤ nI i from hc) (by rw [hn]; exact nI_ge hi (by omega))) (fun _ => ?_)
  refine xm_step rfl rfl ?_
  refine xm_if rfl rfl (fun hc => absurd hc (nI_pos (by omega))) (fun _ => ?_)
  refine xm_step rfl rfl ?_
  refine xm_step rfl rfl ?_
  refine xm_getI rfl hT.1 rfl ?_
  refine xm_if rfl rfl (fun hc => absurd (show h.2.2 k 0 ≤ nI j from hc) (by rw [hn]; exact nI_ge hj (by omega))) (fun _ => ?_)
  refine xm_step rfl rfl ?_
  refine xm_getR rfl hT.1 rfl hT.2.1 ?_
  refine xm_step rfl rfl ?_
  refine xm_step rfl rfl ?_
  refine xm_step rfl rfl ?_
  refine xm_step rfl rfl ?_
  refine xm_step rfl rfl ?_
  refine xm_step rfl rfl ?_
  have e : (Int8.ofInt 8).toInt32 * nI i + nI j = nI (8 * i + j) := by rw [xt_8, pk_mul, nI_add]
  dsimp only
  rw [e]
  refine xm_iast rfl hT.2.2 (vp_in_nI (by omega) (by omega)) ?_
  rw [nI_clamp (by omega)]
  exact xm_retV rfl rfl (Nat.le_refl _) (Nat.le_refl _) ⟨rfl, rfl⟩
def xf_row (i : Nat) (f : Nat → Int32) : Nat → Int32 := fun j => if j < 64 then (if j < i then nI j else if j % 8 = 0 ∧ j / 8 < i then nI (j / 8) else -1) else f j
theorem xf_rowS (i : Nat) (hi : i < 8) (f : Nat → Int32) : upd (upd (xf_row i f) i (nI i)) (8 * i) (nI i) = xf_row (i + 1) f := by
  funext j
  unfold upd xf_row
  by_cases e1 : j = 8 * i
  · subst e1
    rw [if_pos rfl, if_pos (by omega)]
    by_cases e2 : 8 * i < i + 1
    · rw [if_pos e2]
      have : i = 0 := by omega
      subst this
      rfl
    · rw [if_neg e2, if_pos ⟨by omega, by omega⟩]
      congr 1
      omega
  · rw [if_neg e1]
    by_cases e2 : j = i
    · subst e2
      rw [if_pos rfl, if_pos (by omega), if_pos (by omega)]
    · rw [if_neg e2]
      have e3 : j < i + 1 ↔ j < i := by omega
      have e4 : (j % 8 = 0 ∧ j / 8 < i + 1) ↔ (j % 8 = 0 ∧ j / 8 < i) := by omega
      simp only [e3, e4]
abbrev xf_rst (h : xm_H) (k kc m i : Nat) : xm_H := (h.1, h.2.1, va_up (va_up h.2.2 k (upd (h.2.2 k) 0 (nI m))) kc (xf_row i (h.2.2 kc)))
theorem c_restart {G : xm_G} {l : Launch} {d : Nat} {h : xm_H} {k kc m : Nat} (hT : xt_T h k kc) (hm1 : 1 ≤ m) (hm8 : m ≤ 8) : xm_C G l xi_Table_restart (d + 1) 0 0 [.ref k, .int (nI m)] h (fun r h' => r = none ∧ h' = xf_rst h k kc m m) := by
  have hne := hT.ne
  refine xm_enter' (by decide) rfl (Nat.le_of_ble_eq_true rfl) rfl ?_
  refine xm_step rfl rfl ?_
  refine xm_step rfl rfl ?_
  refine xm_step rfl rfl ?_
  refine xm_step rfl rfl ?_
  refine xm_mmin (u := nI m) (w := nI 8) rfl (by omega) (Nat.le_refl _) (Nat.le_refl _) (Nat.le_of_ble_eq_true rfl) ?_
  have e1 : (if nI 8 < nI m then nI 8 else nI m) = nI m := if_neg (nI_nlt hm8 (by omega))
  rw [e1]
  refine xm_mmax (u := 1) (w := nI m) rfl (by omega) (Nat.le_refl _) (Nat.le_refl _) (Nat.le_of_ble_eq_true rfl) ?_
  have e2 : (if (1 : Int32) < nI m then nI m else 1) = nI m := by
    by_cases hc : (1 : Int32) < nI m
    · rw [if_pos hc]
    · rw [if_neg hc]
      have : ¬ nI 1 < nI m := hc
      have h2 : ¬ 1 < m := fun q => this (nI_lt q (by omega))
      have : m = 1 := by omega
      subst this
      rfl
  rw [e2]
  refine xm_putI rfl hT.1 rfl ?_
  refine xm_step rfl rfl ?_
  refine xm_getR rfl hT.1 rfl hT.2.1 ?_
  refine xm_step rfl rfl ?_
  refine xm_callS (As := [.ref kc, .int (-1)]) (rest := []) (d' := d) (mc' := 0) (ms' := 0) rfl (c_fill (h := xm_sm h k 0 (nI m)) (N := 64) hT.2.2 (by decide) (-1)) rfl (Nat.le_refl _) (Nat.le_refl _) (Nat.le_refl _) (Nat.le_of_ble_eq_true rfl) (fun r h' hp => ?_)
  obtain ⟨rfl, rfl⟩ := hp
  refine xm_step rfl rfl ?_
  refine xm_step rfl rfl ?_
  have L : ∀ (n i : Nat), i ≤ m → m + 1 ≤ i + n → xm_X G l xi_Table_restart (d + 1) 0 0 0 0 24 [some (.ref k), some (.int (nI m)), some (.int (nI i))] [] (xf_rst h k kc m i) (fun r h9 => r = none ∧ h9 = xf_rst h k kc m m) := by
    intro n
    induction n with
    | zero => intro i h1 h2; omega
    | succ n ih =>
      intro i h1 h2
      have hT' : xt_T (xf_rst h k kc m i) k kc := hT
      have hn' : (xf_rst h k kc m i).2.2 k 0 = nI m := by simp [va_up, hne, upd]
      refine xm_step rfl rfl ?_
      refine xm_step rfl rfl ?_
      refine xm_getI rfl hT.1 rfl ?_
      refine xm_if rfl rfl (fun hc => ?_) (fun hc => ?_)
      · have hc : (xf_rst h k kc m i).2.2 k 0 ≤ nI i := hc
        rw [hn'] at hc
        have e : i = m := by have := (nI_leI (by omega) (by omega)).mp hc; omega
        subst e
        exact xm_retV rfl rfl (Nat.le_refl _) (Nat.le_refl _) ⟨rfl, rfl⟩
      · have hc : ¬ (xf_rst h k kc m i).2.2 k 0 ≤ nI i := hc
        rw [hn'] at hc
        have hlt : i < m := by
          rcases Nat.lt_or_ge i m with q | q
          · exact q
          · exact absurd (nI_le q (by omega)) hc
        refine xm_step rfl rfl ?_
        refine xm_step rfl rfl ?_
        refine xm_step rfl rfl ?_
        refine xm_step rfl rfl ?_
        refine xm_callV (As := [.int (nI 0), .int (nI i), .int (nI i)]) (rest := []) (d' := d) (mc' := 0) (ms' := 0) (ci := 0) rfl hT.1 rfl (c_put hT' hn' hm8 (by omega) hlt (nI i)) rfl (Nat.le_refl _) (Nat.le_refl _) (Nat.le_refl _) (Nat.le_of_ble_eq_true rfl) (fun r g1 hp => ?_)
        obtain ⟨rfl, rfl⟩ := hp
        refine xm_step rfl rfl ?_
        refine xm_step rfl rfl ?_
        refine xm_step rfl rfl ?_
        refine xm_step rfl rfl ?_
        refine xm_callV (As := [.int (nI i), .int (nI 0), .int (nI i)]) (rest := []) (d' := d) (mc' := 0) (ms' := 0) (ci := 0) rfl hT.1 rfl (c_put (h := xm_sm (xf_rst h k kc m i) kc (8 * 0 + i) (nI i)) (n := m) (i := i) (j := 0) hT' (by simp [va_up, hne, upd]) hm8 hlt (by omega) (nI i)) rfl (Nat.le_refl _) (Nat.le_refl _) (Nat.le_refl _) (Nat.le_of_ble_eq_true rfl) (fun r g1 hp => ?_)
        obtain ⟨rfl, rfl⟩ := hp
        refine xm_step rfl rfl ?_
        refine xm_step rfl rfl ?_
        have IH := ih (i + 1) (by omega) (by omega)
        rw [nI_succ] at IH
        have eh : xm_sm (xm_sm (xf_rst h k kc m i) kc (8 * 0 + i) (nI i)) kc (8 * i + 0) (nI i) = xf_rst h k kc m (i + 1) := by
          simp only [xm_sm, xf_rst, Prod.mk.injEq, true_and]
          funext q
          unfold va_up
          by_cases e : q = kc
          · subst e
            simp only [if_true]
            rw [← xf_rowS i (by omega)]
            simp
          · simp [e]
        rw [eh]
        exact IH
  have R := L (m + 1) 0 (by omega) (by omega)
  have e0 : xf_fill (xm_sm h k 0 (nI m)) kc 64 (-1) = xf_rst h k kc m 0 := by
    simp only [xm_sm, xf_rst, xf_fill, Prod.mk.injEq, true_and]
    funext q
    unfold va_up
    by_cases e : q = kc
    · subst e
      simp only [if_true]
      funext j
      have hk : ¬ q = k := fun z => hne z.symm
      simp [xf_row, hk]
    · simp [e]
  exact e0 ▸ R
end
section
/-! the constructors; the heap of the two new objects -/
def xf_T (h : xm_H) (k n : Nat) : xm_H := xf_rst (xm_sr (xm_psh h (0, 64)) k 1 (some n)) k n 1 1
theorem xf_app {sh : List (Nat × Nat)} {k : Nat} {q q2 : Nat × Nat} (h : sh[k]? = some q) : (sh ++ [q2])[k]? = some q := by
  rw [List.getElem?_append_left (List.getElem?_eq_some_iff.mp h).1]
  exact h
theorem c_Table {G : xm_G} {l : Launch} {d : Nat} {h : xm_H} {k n : Nat} (hk : h.1[k]? = some (3, 2)) (hn : h.1.length = n) : xm_C G l xi_Table_init (d + 2) 1 64 [.ref k] h (fun r h' => r = none ∧ h' = xf_T h k n) := by
  subst hn
  refine xm_enter' (by decide) rfl (Nat.le_of_ble_eq_true rfl) rfl ?_
  refine xm_step rfl rfl ?_
  refine xm_objI (b := 8) rfl (by omega) (Nat.le_of_ble_eq_true rfl) ?_
  refine xm_step rfl rfl ?_
  refine xm_step rfl rfl ?_
  refine xm_newI (N := 64) rfl (by decide) (by decide) (by decide) (by decide) (by decide) ?_
  refine xm_putR (N := 2) rfl (xf_app hk) rfl (fun q => ⟨rfl, rfl⟩) ?_
  refine xm_step rfl rfl ?_
  refine xm_step rfl rfl ?_
  have hT : xt_T (xm_sr (xm_psh h (0, 64)) k 1 (some h.1.length)) k h.1.length := ⟨xf_app hk, by simp [va_up], by simp⟩
  refine xm_callV (As := [.int (nI 1)]) (rest := []) (d' := d + 1) (mc' := 0) (ms' := 0) (ci := 0) rfl hT.1 rfl (c_restart (m := 1) hT (by decide) (by decide)) rfl (Nat.le_refl _) (by decide) (by decide) (Nat.le_of_ble_eq_true rfl) (fun r g1 hp => ?_)
  obtain ⟨rfl, rfl⟩ := hp
  exact xm_retV rfl rfl (by decide) (by decide) ⟨rfl, rfl⟩
def hx0 : xm_H := xm_psh xm_H0 (7, 5)
def hx1 : xm_H := xm_sr (xm_psh hx0 (2, 4)) 0 0 (some 1)
def hx2 : xm_H := xm_sr (xf_T (xm_psh hx1 (3, 2)) 2 3) 1 0 (some 2)
def hx3 : xm_H := xm_sr (xf_T (xm_psh hx2 (3, 2)) 4 5) 1 1 (some 4)
def hx4 : xm_H := xm_sr (xf_T (xm_psh hx3 (3, 2)) 6 7) 1 2 (some 6)
def hx5 : xm_H := xm_sr (xf_T (xm_psh hx4 (3, 2)) 8 9) 1 3 (some 8)
def hx6 : xm_H := xm_sr (xf_T (xm_psh hx5 (3, 2)) 10 11) 0 1 (some 10)
def hx7 : xm_H := xm_psh hx6 (4, 8)
def hx7a : xm_H := xm_sr (xf_T (xm_psh hx7 (3, 2)) 13 14) 12 0 (some 13)
def hx7b : xm_H := xm_sr (xf_T (xm_psh hx7a (3, 2)) 15 16) 12 1 (some 15)
def hx7c : xm_H := xm_sr (xm_psh hx7b (0, 25)) 12 2 (some 17)
def hx7d : xm_H := xm_sr (xm_psh hx7c (0, 8)) 12 4 (some 18)
def hx8 : xm_H := xm_sr (xm_psh hx7d (0, 8)) 12 5 (some 19)
def hx9 : xm_H := xm_sr hx8 0 2 (some 12)
def hx10 : xm_H := xm_psh hx9 (5, 7)
def hx10a : xm_H := xm_sr (xm_psh hx10 (0, 343)) 20 1 (some 21)
def hx10b : xm_H := xm_sr (xm_psh hx10a (0, 343)) 20 2 (some 22)
def hx10c : xm_H := xm_sr (xm_psh hx10b (0, 7)) 20 3 (some 23)
def hx10d : xm_H := xm_sr (xm_psh hx10c (0, 49)) 20 4 (some 24)
def hx11 : xm_H := xm_sr (xm_psh hx10d (0, 7)) 20 6 (some 25)
def hx12 : xm_H := xm_sr hx11 0 3 (some 20)
def hx13 : xm_H := xm_psh hx12 (6, 5)
def hx13a : xm_H := xm_sr (xf_T (xm_psh hx13 (3, 2)) 27 28) 26 0 (some 27)
def hx13b : xm_H := xm_sr (xm_psh hx13a (0, 8)) 26 1 (some 29)
def hx13c : xm_H := xm_sr (xm_psh hx13b (0, 8)) 26 2 (some 30)
def hx14 : xm_H := xm_sr (xm_psh hx13c (0, 8)) 26 3 (some 31)
def hx15 : xm_H := xm_sr hx14 0 4 (some 26)
def hx16 : xm_H := xm_psh hx15 (8, 7)
def hx16a : xm_H := xm_sr (xm_psh hx16 (0, 6)) 32 0 (some 33)
def hx16b : xm_H := xm_sr (xm_psh hx16a (0, 384)) 32 1 (some 34)
def hx16c : xm_H := xm_sr (xm_psh hx16b (0, 64)) 32 3 (some 35)
def hx16d : xm_H := xm_sr (xm_psh hx16c (0, 8)) 32 4 (some 36)
def hx16e : xm_H := xm_sr (xm_psh hx16d (0, 35280)) 32 5 (some 37)
def hx16f : xm_H := xm_sr (xm_psh hx16e (1, 5040)) 32 6 (some 38)
def hx17 : xm_H := xm_sm (xm_sm (xm_sm (xm_sm (xm_sm (xm_sm hx16f 33 0 1) 33 1 1) 33 2 1) 33 3 1) 33 4 1) 33 5 1
theorem c_Endings {G : xm_G} {l : Launch} {d : Nat} : xm_C G l xi_Endings_init (d + 3) 7 173 [.ref 12] hx7 (fun r h' => r = none ∧ h' = hx8) := by
  refine xm_enter' (by decide) rfl (Nat.le_of_ble_eq_true rfl) rfl ?_
  refine xm_step rfl rfl ?_
  refine xm_objI (b := 8) rfl (by omega) (Nat.le_of_ble_eq_true rfl) ?_
  refine xm_step rfl rfl ?_
  refine xm_new (q := ("LatinLaws$Table", xm_T0, 2)) rfl rfl (by decide) (by decide) ?_
  refine xm_step rfl rfl ?_
  refine xm_callI (As := []) (k := 13) (rest := [.ref 13, .ref 12]) (d' := d + 2) (mc' := 1) (ms' := 64) rfl (c_Table (k := 13) (n := 14) (h := xm_psh hx7 (3, 2)) rfl rfl) rfl (by omega) (by decide) (by decide) (Nat.le_of_ble_eq_true rfl) (fun r g1 hp => ?_)
  obtain ⟨rfl, rfl⟩ := hp
  refine xm_putR (N := 8) (r := 13) rfl rfl rfl (fun q => ⟨rfl, rfl⟩) ?_
  refine xm_step rfl rfl ?_
  refine xm_new (q := ("LatinLaws$Table", xm_T0, 2)) rfl rfl (by decide) (by decide) ?_
  refine xm_step rfl rfl ?_
  refine xm_callI (As := []) (k := 15) (rest := [.ref 15, .ref 12]) (d' := d + 2) (mc' := 1) (ms' := 64) rfl (c_Table (k := 15) (n := 16) (h := xm_psh hx7a (3, 2)) rfl rfl) rfl (by omega) (by decide) (by decide) (Nat.le_of_ble_eq_true rfl) (fun r g1 hp => ?_)
  obtain ⟨rfl, rfl⟩ := hp
  refine xm_putR (N := 8) (r := 15) rfl rfl rfl (fun q => ⟨rfl, rfl⟩) ?_
  refine xm_step rfl rfl ?_
  refine xm_step rfl rfl ?_
  refine xm_newI (N := 25) rfl (by decide) (by decide) (by decide) (by decide) (by decide) ?_
  refine xm_putR (N := 8) (r := 17) rfl rfl rfl (fun q => ⟨rfl, rfl⟩) ?_
  refine xm_step rfl rfl ?_
  refine xm_step rfl rfl ?_
  refine xm_newI (N := 8) rfl (by decide) (by decide) (by decide) (by decide) (by decide) ?_
  refine xm_putR (N := 8) (r := 18) rfl rfl rfl (fun q => ⟨rfl, rfl⟩) ?_
  refine xm_step rfl rfl ?_
  refine xm_step rfl rfl ?_
  refine xm_newI (N := 8) rfl (by decide) (by decide) (by decide) (by decide) (by decide) ?_
  refine xm_putR (N := 8) (r := 19) rfl rfl rfl (fun q => ⟨rfl, rfl⟩) ?_
  exact xm_retV rfl rfl (by decide) (by decide) ⟨rfl, rfl⟩
theorem c_Turns {G : xm_G} {l : Launch} {d : Nat} : xm_C G l xi_Turns_init (d + 1) 5 749 [.ref 20] hx10 (fun r h' => r = none ∧ h' = hx11) := by
  refine xm_enter' (by decide) rfl (Nat.le_of_ble_eq_true rfl) rfl ?_
  refine xm_step rfl rfl ?_
  refine xm_objI (b := 8) rfl (by omega) (Nat.le_of_ble_eq_true rfl) ?_
  refine xm_step rfl rfl ?_
  refine xm_step rfl rfl ?_
  refine xm_newI (N := 343) rfl (by decide) (by decide) (by decide) (by decide) (by decide) ?_
  refine xm_putR (N := 7) (r := 21) rfl rfl rfl (fun q => ⟨rfl, rfl⟩) ?_
  refine xm_step rfl rfl ?_
  refine xm_step rfl rfl ?_
  refine xm_newI (N := 343) rfl (by decide) (by decide) (by decide) (by decide) (by decide) ?_
  refine xm_putR (N := 7) (r := 22) rfl rfl rfl (fun q => ⟨rfl, rfl⟩) ?_
  refine xm_step rfl rfl ?_
  refine xm_step rfl rfl ?_
  refine xm_newI (N := 7) rfl (by decide) (by decide) (by decide) (by decide) (by decide) ?_
  refine xm_putR (N := 7) (r := 23) rfl rfl rfl (fun q => ⟨rfl, rfl⟩) ?_
  refine xm_step rfl rfl ?_
  refine xm_step rfl rfl ?_
  refine xm_newI (N := 49) rfl (by decide) (by decide) (by decide) (by decide) (by decide) ?_
  refine xm_putR (N := 7) (r := 24) rfl rfl rfl (fun q => ⟨rfl, rfl⟩) ?_
  refine xm_step rfl rfl ?_
  refine xm_step rfl rfl ?_
  refine xm_newI (N := 7) rfl (by decide) (by decide) (by decide) (by decide) (by decide) ?_
  refine xm_putR (N := 7) (r := 25) rfl rfl rfl (fun q => ⟨rfl, rfl⟩) ?_
  exact xm_retV rfl rfl (by decide) (by decide) ⟨rfl, rfl⟩
theorem c_Renamings {G : xm_G} {l : Launch} {d : Nat} : xm_C G l xi_Renamings_init (d + 3) 5 90 [.ref 26] hx13 (fun r h' => r = none ∧ h' = hx14) := by
  refine xm_enter' (by decide) rfl (Nat.le_of_ble_eq_true rfl) rfl ?_
  refine xm_step rfl rfl ?_
  refine xm_objI (b := 8) rfl (by omega) (Nat.le_of_ble_eq_true rfl) ?_
  refine xm_step rfl rfl ?_
  refine xm_new (q := ("LatinLaws$Table", xm_T0, 2)) rfl rfl (by decide) (by decide) ?_
  refine xm_step rfl rfl ?_
  refine xm_callI (As := []) (k := 27) (rest := [.ref 27, .ref 26]) (d' := d + 2) (mc' := 1) (ms' := 64) rfl (c_Table (k := 27) (n := 28) (h := xm_psh hx13 (3, 2)) rfl rfl) rfl (by omega) (by decide) (by decide) (Nat.le_of_ble_eq_true rfl) (fun r g1 hp => ?_)
  obtain ⟨rfl, rfl⟩ := hp
  refine xm_putR (N := 5) (r := 27) rfl rfl rfl (fun q => ⟨rfl, rfl⟩) ?_
  refine xm_step rfl rfl ?_
  refine xm_step rfl rfl ?_
  refine xm_newI (N := 8) rfl (by decide) (by decide) (by decide) (by decide) (by decide) ?_
  refine xm_putR (N := 5) (r := 29) rfl rfl rfl (fun q => ⟨rfl, rfl⟩) ?_
  refine xm_step rfl rfl ?_
  refine xm_step rfl rfl ?_
  refine xm_newI (N := 8) rfl (by decide) (by decide) (by decide) (by decide) (by decide) ?_
  refine xm_putR (N := 5) (r := 30) rfl rfl rfl (fun q => ⟨rfl, rfl⟩) ?_
  refine xm_step rfl rfl ?_
  refine xm_step rfl rfl ?_
  refine xm_newI (N := 8) rfl (by decide) (by decide) (by decide) (by decide) (by decide) ?_
  refine xm_putR (N := 5) (r := 31) rfl rfl rfl (fun q => ⟨rfl, rfl⟩) ?_
  exact xm_retV rfl rfl (by decide) (by decide) ⟨rfl, rfl⟩
theorem c_Latin {G : xm_G} {l : Launch} {d : Nat} : xm_C G l xi_L_init (d + 4) 31 1366 [.ref 0] hx0 (fun r h' => r = none ∧ h' = hx15) := by
  refine xm_enter' (by decide) rfl (Nat.le_of_ble_eq_true rfl) rfl ?_
  refine xm_step rfl rfl ?_
  refine xm_objI (b := 8) rfl (by omega) (Nat.le_of_ble_eq_true rfl) ?_
  refine xm_step rfl rfl ?_
  refine xm_step rfl rfl ?_
  refine xm_newQ (N := 4) rfl (by decide) (by decide) (by decide) (by decide) (by decide) ?_
  refine xm_putR (N := 5) (r := 1) rfl rfl rfl (fun q => ⟨rfl, rfl⟩) ?_
  refine xm_step rfl rfl ?_
  refine xm_step rfl rfl ?_
  refine xm_step rfl rfl ?_
  refine xm_step rfl rfl ?_
  refine xm_if rfl rfl (fun hc => absurd ((xe_cd_iff _ _ _).mpr hc) (by decide)) (fun _ => ?_)
  refine xm_step rfl rfl ?_
  refine xm_getR (N := 5) (r := 1) rfl rfl rfl rfl ?_
  refine xm_step rfl rfl ?_
  refine xm_new (q := ("LatinLaws$Table", xm_T0, 2)) rfl rfl (by decide) (by decide) ?_
  refine xm_step rfl rfl ?_
  refine xm_callI (As := []) (k := 2) (rest := [.ref 2, .int 0, .ref 1]) (d' := d + 3) (mc' := 1) (ms' := 64) rfl (c_Table (k := 2) (n := 3) (h := xm_psh hx1 (3, 2)) rfl rfl) rfl (by omega) (by decide) (by decide) (Nat.le_of_ble_eq_true rfl) (fun r g1 hp => ?_)
  obtain ⟨rfl, rfl⟩ := hp
  refine xm_aast (k := 1) (N := 4) (N2 := 2) (r := 2) (i := 0) rfl rfl rfl (by unfold vp_in; decide) ?_
  refine xm_step rfl rfl ?_
  refine xm_step rfl rfl ?_
  refine xm_step rfl rfl ?_
  refine xm_step rfl rfl ?_
  refine xm_if rfl rfl (fun hc => absurd ((xe_cd_iff _ _ _).mpr hc) (by decide)) (fun _ => ?_)
  refine xm_step rfl rfl ?_
  refine xm_getR (N := 5) (r := 1) rfl rfl rfl rfl ?_
  refine xm_step rfl rfl ?_
  refine xm_new (q := ("LatinLaws$Table", xm_T0, 2)) rfl rfl (by decide) (by decide) ?_
  refine xm_step rfl rfl ?_
  refine xm_callI (As := []) (k := 4) (rest := [.ref 4, .int 1, .ref 1]) (d' := d + 3) (mc' := 1) (ms' := 64) rfl (c_Table (k := 4) (n := 5) (h := xm_psh hx2 (3, 2)) rfl rfl) rfl (by omega) (by decide) (by decide) (Nat.le_of_ble_eq_true rfl) (fun r g1 hp => ?_)
  obtain ⟨rfl, rfl⟩ := hp
  refine xm_aast (k := 1) (N := 4) (N2 := 2) (r := 4) (i := 1) rfl rfl rfl (by unfold vp_in; decide) ?_
  refine xm_step rfl rfl ?_
  refine xm_step rfl rfl ?_
  refine xm_step rfl rfl ?_
  refine xm_step rfl rfl ?_
  refine xm_if rfl rfl (fun hc => absurd ((xe_cd_iff _ _ _).mpr hc) (by decide)) (fun _ => ?_)
  refine xm_step rfl rfl ?_
  refine xm_getR (N := 5) (r := 1) rfl rfl rfl rfl ?_
  refine xm_step rfl rfl ?_
  refine xm_new (q := ("LatinLaws$Table", xm_T0, 2)) rfl rfl (by decide) (by decide) ?_
  refine xm_step rfl rfl ?_
  refine xm_callI (As := []) (k := 6) (rest := [.ref 6, .int 2, .ref 1]) (d' := d + 3) (mc' := 1) (ms' := 64) rfl (c_Table (k := 6) (n := 7) (h := xm_psh hx3 (3, 2)) rfl rfl) rfl (by omega) (by decide) (by decide) (Nat.le_of_ble_eq_true rfl) (fun r g1 hp => ?_)
  obtain ⟨rfl, rfl⟩ := hp
  refine xm_aast (k := 1) (N := 4) (N2 := 2) (r := 6) (i := 2) rfl rfl rfl (by unfold vp_in; decide) ?_
  refine xm_step rfl rfl ?_
  refine xm_step rfl rfl ?_
  refine xm_step rfl rfl ?_
  refine xm_step rfl rfl ?_
  refine xm_if rfl rfl (fun hc => absurd ((xe_cd_iff _ _ _).mpr hc) (by decide)) (fun _ => ?_)
  refine xm_step rfl rfl ?_
  refine xm_getR (N := 5) (r := 1) rfl rfl rfl rfl ?_
  refine xm_step rfl rfl ?_
  refine xm_new (q := ("LatinLaws$Table", xm_T0, 2)) rfl rfl (by decide) (by decide) ?_
  refine xm_step rfl rfl ?_
  refine xm_callI (As := []) (k := 8) (rest := [.ref 8, .int 3, .ref 1]) (d' := d + 3) (mc' := 1) (ms' := 64) rfl (c_Table (k := 8) (n := 9) (h := xm_psh hx4 (3, 2)) rfl rfl) rfl (by omega) (by decide) (by decide) (Nat.le_of_ble_eq_true rfl) (fun r g1 hp => ?_)
  obtain ⟨rfl, rfl⟩ := hp
  refine xm_aast (k := 1) (N := 4) (N2 := 2) (r := 8) (i := 3) rfl rfl rfl (by unfold vp_in; decide) ?_
  refine xm_step rfl rfl ?_
  refine xm_step rfl rfl ?_
  refine xm_step rfl rfl ?_
  refine xm_step rfl rfl ?_
  refine xm_if rfl rfl (fun _ => ?_) (fun hc => absurd ((xe_cd_iff _ _ _).mp (by decide)) hc)
  refine xm_step rfl rfl ?_
  refine xm_new (q := ("LatinLaws$Table", xm_T0, 2)) rfl rfl (by decide) (by decide) ?_
  refine xm_step rfl rfl ?_
  refine xm_callI (As := []) (k := 10) (rest := [.ref 10, .ref 0]) (d' := d + 3) (mc' := 1) (ms' := 64) rfl (c_Table (k := 10) (n := 11) (h := xm_psh hx5 (3, 2)) rfl rfl) rfl (by omega) (by decide) (by decide) (Nat.le_of_ble_eq_true rfl) (fun r g1 hp => ?_)
  obtain ⟨rfl, rfl⟩ := hp
  refine xm_putR (N := 5) (r := 10) rfl rfl rfl (fun q => ⟨rfl, rfl⟩) ?_
  refine xm_step rfl rfl ?_
  refine xm_new (q := ("LatinLaws$Endings", xm_T1, 8)) rfl rfl (by decide) (by decide) ?_
  refine xm_step rfl rfl ?_
  refine xm_callI (As := []) (k := 12) (rest := [.ref 12, .ref 0]) (d' := d + 3) (mc' := 7) (ms' := 173) rfl (c_Endings (d := d)) rfl (by omega) (by decide) (by decide) (Nat.le_of_ble_eq_true rfl) (fun r g1 hp => ?_)
  obtain ⟨rfl, rfl⟩ := hp
  refine xm_putR (N := 5) (r := 12) rfl rfl rfl (fun q => ⟨rfl, rfl⟩) ?_
  refine xm_step rfl rfl ?_
  refine xm_new (q := ("LatinLaws$Turns", xm_T2, 7)) rfl rfl (by decide) (by decide) ?_
  refine xm_step rfl rfl ?_
  refine xm_callI (As := []) (k := 20) (rest := [.ref 20, .ref 0]) (d' := d + 3) (mc' := 5) (ms' := 749) rfl (c_Turns (d := d + 2)) rfl (by omega) (by decide) (by decide) (Nat.le_of_ble_eq_true rfl) (fun r g1 hp => ?_)
  obtain ⟨rfl, rfl⟩ := hp
  refine xm_putR (N := 5) (r := 20) rfl rfl rfl (fun q => ⟨rfl, rfl⟩) ?_
  refine xm_step rfl rfl ?_
  refine xm_new (q := ("LatinLaws$Renamings", xm_T3, 5)) rfl rfl (by decide) (by decide) ?_
  refine xm_step rfl rfl ?_
  refine xm_callI (As := []) (k := 26) (rest := [.ref 26, .ref 0]) (d' := d + 3) (mc' := 5) (ms' := 90) rfl (c_Renamings (d := d)) rfl (by omega) (by decide) (by decide) (Nat.le_of_ble_eq_true rfl) (fun r g1 hp => ?_)
  obtain ⟨rfl, rfl⟩ := hp
  refine xm_putR (N := 5) (r := 26) rfl rfl rfl (fun q => ⟨rfl, rfl⟩) ?_
  exact xm_retV rfl rfl (by decide) (by decide) ⟨rfl, rfl⟩
theorem c_Model {G : xm_G} {l : Launch} {d : Nat} : xm_C G l xi_M_init (d + 1) 6 40782 [.ref 32] hx16 (fun r h' => r = none ∧ h' = hx17) := by
  refine xm_enter' (by decide) rfl (Nat.le_of_ble_eq_true rfl) rfl ?_
  refine xm_step rfl rfl ?_
  refine xm_objI (b := 8) rfl (by omega) (Nat.le_of_ble_eq_true rfl) ?_
  refine xm_step rfl rfl ?_
  refine xm_step rfl rfl ?_
  refine xm_newI (N := 6) rfl (by decide) (by decide) (by decide) (by decide) (by decide) ?_
  refine xm_putR (N := 7) (r := 33) rfl rfl rfl (fun q => ⟨rfl, rfl⟩) ?_
  refine xm_step rfl rfl ?_
  refine xm_step rfl rfl ?_
  refine xm_newI (N := 384) rfl (by decide) (by decide) (by decide) (by decide) (by decide) ?_
  refine xm_putR (N := 7) (r := 34) rfl rfl rfl (fun q => ⟨rfl, rfl⟩) ?_
  refine xm_step rfl rfl ?_
  refine xm_step rfl rfl ?_
  refine xm_newI (N := 64) rfl (by decide) (by decide) (by decide) (by decide) (by decide) ?_
  refine xm_putR (N := 7) (r := 35) rfl rfl rfl (fun q => ⟨rfl, rfl⟩) ?_
  refine xm_step rfl rfl ?_
  refine xm_step rfl rfl ?_
  refine xm_newI (N := 8) rfl (by decide) (by decide) (by decide) (by decide) (by decide) ?_
  refine xm_putR (N := 7) (r := 36) rfl rfl rfl (fun q => ⟨rfl, rfl⟩) ?_
  refine xm_step rfl rfl ?_
  refine xm_step rfl rfl ?_
  refine xm_newI (N := 35280) rfl (by decide) (by decide) (by decide) (by decide) (by decide) ?_
  refine xm_putR (N := 7) (r := 37) rfl rfl rfl (fun q => ⟨rfl, rfl⟩) ?_
  refine xm_step rfl rfl ?_
  refine xm_step rfl rfl ?_
  refine xm_newZ (N := 5040) rfl (by decide) (by decide) (by decide) (by decide) (by decide) ?_
  refine xm_putR (N := 7) (r := 38) rfl rfl rfl (fun q => ⟨rfl, rfl⟩) ?_
  refine xm_step rfl rfl ?_
  refine xm_step rfl rfl ?_
  refine xm_step rfl rfl ?_
  refine xm_step rfl rfl ?_
  refine xm_if rfl rfl (fun hc => absurd ((xe_cd_iff _ _ _).mpr hc) (by decide)) (fun _ => ?_)
  refine xm_step rfl rfl ?_
  refine xm_getR (N := 7) (r := 33) rfl rfl rfl rfl ?_
  refine xm_step rfl rfl ?_
  refine xm_step rfl rfl ?_
  refine xm_iast (k := 33) (N := 6) (i := 0) rfl rfl (by unfold vp_in; decide) ?_
  refine xm_step rfl rfl ?_
  refine xm_step rfl rfl ?_
  refine xm_step rfl rfl ?_
  refine xm_step rfl rfl ?_
  refine xm_if rfl rfl (fun hc => absurd ((xe_cd_iff _ _ _).mpr hc) (by decide)) (fun _ => ?_)
  refine xm_step rfl rfl ?_
  refine xm_getR (N := 7) (r := 33) rfl rfl rfl rfl ?_
  refine xm_step rfl rfl ?_
  refine xm_step rfl rfl ?_
  refine xm_iast (k := 33) (N := 6) (i := 1) rfl rfl (by unfold vp_in; decide) ?_
  refine xm_step rfl rfl ?_
  refine xm_step rfl rfl ?_
  refine xm_step rfl rfl ?_
  refine xm_step rfl rfl ?_
  refine xm_if rfl rfl (fun hc => absurd ((xe_cd_iff _ _ _).mpr hc) (by decide)) (fun _ => ?_)
  refine xm_step rfl rfl ?_
  refine xm_getR (N := 7) (r := 33) rfl rfl rfl rfl ?_
  refine xm_step rfl rfl ?_
  refine xm_step rfl rfl ?_
  refine xm_iast (k := 33) (N := 6) (i := 2) rfl rfl (by unfold vp_in; decide) ?_
  refine xm_step rfl rfl ?_
  refine xm_step rfl rfl ?_
  refine xm_step rfl rfl ?_
  refine xm_step rfl rfl ?_
  refine xm_if rfl rfl (fun hc => absurd ((xe_cd_iff _ _ _).mpr hc) (by decide)) (fun _ => ?_)
  refine xm_step rfl rfl ?_
  refine xm_getR (N := 7) (r := 33) rfl rfl rfl rfl ?_
  refine xm_step rfl rfl ?_
  refine xm_step rfl rfl ?_
  refine xm_iast (k := 33) (N := 6) (i := 3) rfl rfl (by unfold vp_in; decide) ?_
  refine xm_step rfl rfl ?_
  refine xm_step rfl rfl ?_
  refine xm_step rfl rfl ?_
  refine xm_step rfl rfl ?_
  refine xm_if rfl rfl (fun hc => absurd ((xe_cd_iff _ _ _).mpr hc) (by decide)) (fun _ => ?_)
  refine xm_step rfl rfl ?_
  refine xm_getR (N := 7) (r := 33) rfl rfl rfl rfl ?_
  refine xm_step rfl rfl ?_
  refine xm_step rfl rfl ?_
  refine xm_iast (k := 33) (N := 6) (i := 4) rfl rfl (by unfold vp_in; decide) ?_
  refine xm_step rfl rfl ?_
  refine xm_step rfl rfl ?_
  refine xm_step rfl rfl ?_
  refine xm_step rfl rfl ?_
  refine xm_if rfl rfl (fun hc => absurd ((xe_cd_iff _ _ _).mpr hc) (by decide)) (fun _ => ?_)
  refine xm_step rfl rfl ?_
  refine xm_getR (N := 7) (r := 33) rfl rfl rfl rfl ?_
  refine xm_step rfl rfl ?_
  refine xm_step rfl rfl ?_
  refine xm_iast (k := 33) (N := 6) (i := 5) rfl rfl (by unfold vp_in; decide) ?_
  refine xm_step rfl rfl ?_
  refine xm_step rfl rfl ?_
  refine xm_step rfl rfl ?_
  refine xm_step rfl rfl ?_
  refine xm_if rfl rfl (fun _ => ?_) (fun hc => absurd ((xe_cd_iff _ _ _).mp (by decide)) hc)
  exact xm_retV rfl rfl (by decide) (by decide) ⟨rfl, rfl⟩
end
section
/-! p1: the law's runs on the new objects -/
abbrev xp_LS : List (Option Value) := [some (.float 0), some (.ref 0), some (.ref 32), some (.int 0)]
def xp_rf : Nat → Nat → Option Nat := hx17.2.1
def xp_mm : Nat → Nat → Int32 := hx17.2.2
def xp_sh : List (Nat × Nat) := [(7, 5), (2, 4), (3, 2), (0, 64), (3, 2), (0, 64), (3, 2), (0, 64), (3, 2), (0, 64), (3, 2), (0, 64), (4, 8), (3, 2), (0, 64), (3, 2), (0, 64), (0, 25), (0, 8), (0, 8), (5, 7), (0, 343), (0, 343), (0, 7), (0, 49), (0, 7), (6, 5), (3, 2), (0, 64), (0, 8), (0, 8), (0, 8), (8, 7), (0, 6), (0, 384), (0, 64), (0, 8), (0, 35280), (1, 5040)]
theorem xp_eq : hx17 = (xp_sh, xp_rf, xp_mm) := rfl
def xe_go (pc : Nat) (sc : List (Nat × Int32)) (ds : List Bool) : Option xe_R := xe_lp ((1000000, 5) :: sc) (xe_call ((1000000, 5) :: sc) 6000 60) 6000 xi_law pc xp_LS [] (xp_sh, xp_rf, xp_mm) ds
def xe_t (pc : Nat) (sc : List (Nat × Int32)) : Bool := match xe_go pc sc [] with
  | some (some (.int 1), _, _, []) => true
  | _ => false
def xe_P (pc : Nat) (sc : List (Nat × Int32)) : Prop := ∀ (G : xm_G) (l : Launch) (mc ms c z : Nat), G.2.2.2.2.1 = 5 → (∀ j v, sc.lookup j = some v → j < 5 ∧ G.2.2.2.2.2 j = v) → c ≤ mc → z ≤ ms → xm_X G l xi_law 1000 mc ms c z pc xp_LS [] hx17 (fun r _ => r = some (.int 1))
theorem xe_pth {pc : Nat} {sc : List (Nat × Int32)} {ds : List Bool} {cs : List xe_K} (h : (xe_go pc sc ds).map (fun r => (r.1, r.2.2.2)) = some (some (.int 1), cs)) (hc : ∀ k ∈ cs, xe_holds k) : xe_P pc sc := by
  intro G l mc ms c z hL hsc h1 h2
  cases hg : xe_go pc sc ds with
  | none => rw [hg] at h; cases h
  | some w =>
    obtain ⟨r, g1, d1, c1⟩ := w
    rw [hg] at h
    simp only [Option.map_some, Option.some.injEq, Prod.mk.injEq] at h
    obtain ⟨rfl, rfl⟩ := h
    have hS : (∀ j v, ((1000000, (5 : Int32)) :: sc).lookup j = some v → j ≠ 1000000 → j < G.2.2.2.2.1 ∧ G.2.2.2.2.2 j = v) ∧ ∀ v, ((1000000, (5 : Int32)) :: sc).lookup 1000000 = some v → v = Int32.ofNat G.2.2.2.2.1 ∧ (v = 5 → G.2.2.2.2.1 = 5) := by
      refine ⟨fun j v hj hne => ?_, fun v hv => ?_⟩
      · rw [List.lookup_cons] at hj
        have e : (j == 1000000) = false := by simpa using hne
        rw [e] at hj
        rw [hL]
        exact hsc j v hj
      · rw [List.lookup_cons] at hv
        simp at hv
        rw [hL, ← hv]
        exact ⟨rfl, fun _ => rfl⟩
    have R := xe_lp_ok (G := G) (l := l) hS (xe_call_ok hS 60) 6000 xi_law pc xp_LS [] _ ds _ g1 d1 _ hg hc h1 h2
    rw [xp_eq]
    exact xm_dm (by decide) (xm_mono (fun r h' hp => hp.1) R)
theorem xe_val {pc : Nat} {sc : List (Nat × Int32)} (h : xe_t pc sc = true) : xe_P pc sc := by
  unfold xe_t at h
  split at h
  · rename_i g1 d1 hg
    exact xe_pth (ds := []) (cs := []) (by rw [hg]; rfl) (fun _ h => absurd h List.not_mem_nil)
  · cases h
theorem xe_hd {c : ClassFile.Cond} {x y : Int32} {b : Bool} (h : (xe_cd c x y == b) = true) : xe_holds (c, x, y, b) := by
  have h1 : xe_cd c x y = b := by simpa using h
  unfold xe_holds
  cases b with
  | true => rw [if_pos rfl]; exact (xe_cd_iff _ _ _).mp h1
  | false =>
    rw [if_neg (fun z => Bool.noConfusion z)]
    intro q
    have := (xe_cd_iff _ _ _).mpr q
    rw [h1] at this
    cases this
def xe_ci (c : ClassFile.Cond) (x y : Int) : Bool := match c with
  | .eq => decide (x = y)
  | .ne => decide (¬ x = y)
  | .lt => decide (x < y)
  | .ge => decide (y ≤ x)
  | .gt => decide (y < x)
  | .le => decide (x ≤ y)
theorem xe_hs {c : ClassFile.Cond} {x y : Int32} {b : Bool} {a b2 : Int} (hx : x.toInt = a) (hy : y.toInt = b2) (h : xe_ci c a b2 = b) : xe_holds (c, x, y, b) := by
  refine xe_hd ?_
  subst hx; subst hy; subst h
  cases c <;> simp [xe_cd, xe_ci, Int32.lt_iff_toInt_lt, Int32.le_iff_toInt_le, ← Int32.toInt_inj]
theorem xp_t4 (x : Int32) : x.toInt < 0 ∨ 4 ≤ x.toInt ∨ x = 0 ∨ x = 1 ∨ x = 2 ∨ x = 3 := by
  by_cases h1 : x.toInt < 0
  · exact Or.inl h1
  · by_cases h2 : 4 ≤ x.toInt
    · exact Or.inr (Or.inl h2)
    · have h3 : x.toInt = 0 ∨ x.toInt = 1 ∨ x.toInt = 2 ∨ x.toInt = 3 := by omega
      rcases h3 with h | h | h | h
      · exact Or.inr (Or.inr (Or.inl (Int32.toInt_inj.mp h)))
      · exact Or.inr (Or.inr (Or.inr (Or.inl (Int32.toInt_inj.mp h))))
      · exact Or.inr (Or.inr (Or.inr (Or.inr (Or.inl (Int32.toInt_inj.mp h)))))
      · exact Or.inr (Or.inr (Or.inr (Or.inr (Or.inr (Int32.toInt_inj.mp h)))))
theorem xp_rn (n : Nat) (hn : n < 2 ^ 31) (x : Int32) : x.toInt < 0 ∨ (n : Int) ≤ x.toInt ∨ ∃ k : Nat, k < n ∧ x = nI k := by
  by_cases h1 : x.toInt < 0
  · exact Or.inl h1
  · by_cases h2 : (n : Int) ≤ x.toInt
    · exact Or.inr (Or.inl h2)
    · refine Or.inr (Or.inr ⟨x.toInt.toNat, by omega, Int32.toInt_inj.mp ?_⟩)
      rw [nI_toInt (by omega)]
      omega
end
section
set_option maxRecDepth 100000 in
theorem v_table_0_1 :  xe_t 132 [(1, nI 0), (2, nI 1)] = true := by decide +kernel
set_option maxRecDepth 100000 in
theorem v_table_0_2 :  xe_t 132 [(1, nI 0), (2, nI 2)] = true := by decide +kernel
set_option maxRecDepth 100000 in
theorem v_table_0_3 :  xe_t 132 [(1, nI 0), (2, nI 3)] = true := by decide +kernel
set_option maxRecDepth 100000 in
theorem v_table_0_4 :  xe_t 132 [(1, nI 0), (2, nI 4)] = true := by decide +kernel
set_option maxRecDepth 100000 in
theorem v_table_0_5 :  xe_t 132 [(1, nI 0), (2, nI 5)] = true := by decide +kernel
set_option maxRecDepth 100000 in
theorem v_table_0_6 :  xe_t 132 [(1, nI 0), (2, nI 6)] = true := by decide +kernel
set_option maxRecDepth 100000 in
theorem v_table_0_7 :  xe_t 132 [(1, nI 0), (2, nI 7)] = true := by decide +kernel
set_option maxRecDepth 100000 in
theorem v_table_0_8 :  xe_t 132 [(1, nI 0), (2, nI 8)] = true := by decide +kernel
set_option maxRecDepth 100000 in
theorem v_table_1_1 :  xe_t 132 [(1, nI 1), (2, nI 1)] = true := by decide +kernel
set_option maxRecDepth 100000 in
theorem v_table_1_2 :  xe_t 132 [(1, nI 1), (2, nI 2)] = true := by decide +kernel
set_option maxRecDepth 100000 in
theorem v_table_1_3 :  xe_t 132 [(1, nI 1), (2, nI 3)] = true := by decide +kernel
set_option maxRecDepth 100000 in
theorem v_table_1_4 :  xe_t 132 [(1, nI 1), (2, nI 4)] = true := by decide +kernel
set_option maxRecDepth 100000 in
theorem v_table_1_5 :  xe_t 132 [(1, nI 1), (2, nI 5)] = true := by decide +kernel
set_option maxRecDepth 100000 in
theorem v_table_1_6 :  xe_t 132 [(1, nI 1), (2, nI 6)] = true := by decide +kernel
set_option maxRecDepth 100000 in
theorem v_table_1_7 :  xe_t 132 [(1, nI 1), (2, nI 7)] = true := by decide +kernel
set_option maxRecDepth 100000 in
theorem v_table_1_8 :  xe_t 132 [(1, nI 1), (2, nI 8)] = true := by decide +kernel
set_option maxRecDepth 100000 in
theorem v_table_2_1 :  xe_t 132 [(1, nI 2), (2, nI 1)] = true := by decide +kernel
set_option maxRecDepth 100000 in
theorem v_table_2_2 :  xe_t 132 [(1, nI 2), (2, nI 2)] = true := by decide +kernel
set_option maxRecDepth 100000 in
theorem v_table_2_3 :  xe_t 132 [(1, nI 2), (2, nI 3)] = true := by decide +kernel
set_option maxRecDepth 100000 in
theorem v_table_2_4 :  xe_t 132 [(1, nI 2), (2, nI 4)] = true := by decide +kernel
set_option maxRecDepth 100000 in
theorem v_table_2_5 :  xe_t 132 [(1, nI 2), (2, nI 5)] = true := by decide +kernel
set_option maxRecDepth 100000 in
theorem v_table_2_6 :  xe_t 132 [(1, nI 2), (2, nI 6)] = true := by decide +kernel
set_option maxRecDepth 100000 in
theorem v_table_2_7 :  xe_t 132 [(1, nI 2), (2, nI 7)] = true := by decide +kernel
set_option maxRecDepth 100000 in
theorem v_table_2_8 :  xe_t 132 [(1, nI 2), (2, nI 8)] = true := by decide +kernel
set_option maxRecDepth 100000 in
theorem v_table_3_1 :  xe_t 132 [(1, nI 3), (2, nI 1)] = true := by decide +kernel
set_option maxRecDepth 100000 in
theorem v_table_3_2 :  xe_t 132 [(1, nI 3), (2, nI 2)] = true := by decide +kernel
set_option maxRecDepth 100000 in
theorem v_table_3_3 :  xe_t 132 [(1, nI 3), (2, nI 3)] = true := by decide +kernel
set_option maxRecDepth 100000 in
theorem v_table_3_4 :  xe_t 132 [(1, nI 3), (2, nI 4)] = true := by decide +kernel
set_option maxRecDepth 100000 in
theorem v_table_3_5 :  xe_t 132 [(1, nI 3), (2, nI 5)] = true := by decide +kernel
set_option maxRecDepth 100000 in
theorem v_table_3_6 :  xe_t 132 [(1, nI 3), (2, nI 6)] = true := by decide +kernel
set_option maxRecDepth 100000 in
theorem v_table_3_7 :  xe_t 132 [(1, nI 3), (2, nI 7)] = true := by decide +kernel
set_option maxRecDepth 100000 in
theorem v_table_3_8 :  xe_t 132 [(1, nI 3), (2, nI 8)] = true := by decide +kernel
end
section
set_option maxRecDepth 100000 in
theorem v_at : ∀ t, t < 4 →  xe_t 218 [(1, nI t), (2, 0), (3, 0)] = true := by decide +kernel
set_option maxRecDepth 100000 in
theorem v_empty : ∀ t, t < 4 →  xe_t 261 [(1, nI t)] = true := by decide +kernel
set_option maxRecDepth 100000 in
theorem v_ways1 : ∀ t, t < 4 →  xe_t 284 [(1, nI t), (2, 1)] = true := by decide +kernel
set_option maxRecDepth 100000 in
theorem v_divide : ∀ t, t < 4 → ∀ w, w < 2 →  xe_t 350 [(1, nI t), (2, nI w), (3, 0), (4, 0)] = true := by decide +kernel
set_option maxRecDepth 100000 in
theorem v_joining : ∀ t, t < 4 → ∀ w, w < 5 →  xe_t 446 [(1, nI t), (2, nI w)] = true := by decide +kernel
set_option maxRecDepth 100000 in
theorem v_made : ∀ t, t < 4 → ∀ w, w < 2 →  xe_t 479 [(1, nI t), (2, nI w)] = true := by decide +kernel
set_option maxRecDepth 100000 in
theorem v_parts : ∀ t, t < 4 → ∀ w, w < 2 →  xe_t 512 [(1, nI t), (2, nI w)] = true := by decide +kernel
set_option maxRecDepth 100000 in
theorem v_normal : ∀ t, t < 4 → ∀ w, w < 2 →  xe_t 545 [(1, nI t), (2, nI w)] = true := by decide +kernel
set_option maxRecDepth 100000 in
theorem v_square1 : ∀ t, t < 4 →  xe_t 736 [(1, nI t), (2, -1)] = true := by decide +kernel
set_option maxRecDepth 100000 in
theorem v_size : ∀ t, t < 4 →  xe_t 888 [(1, nI t)] = true := by decide +kernel
set_option maxRecDepth 100000 in
theorem v_end_0 : ∀ t, t < 4 →  xe_t 317 [(1, nI 0), (2, nI t)] = true := by decide +kernel
set_option maxRecDepth 100000 in
theorem v_law_0_0 : ∀ k, k < 13 →  xe_t 403 [(1, nI 0), (2, nI k), (3, nI 0)] = true := by decide +kernel
set_option maxRecDepth 100000 in
theorem v_law_0_1 : ∀ k, k < 13 →  xe_t 403 [(1, nI 0), (2, nI k), (3, nI 1)] = true := by decide +kernel
set_option maxRecDepth 100000 in
theorem v_end_1 : ∀ t, t < 4 →  xe_t 317 [(1, nI 1), (2, nI t)] = true := by decide +kernel
set_option maxRecDepth 100000 in
theorem v_law_1_0 : ∀ k, k < 13 →  xe_t 403 [(1, nI 1), (2, nI k), (3, nI 0)] = true := by decide +kernel
set_option maxRecDepth 100000 in
theorem v_law_1_1 : ∀ k, k < 13 →  xe_t 403 [(1, nI 1), (2, nI k), (3, nI 1)] = true := by decide +kernel
set_option maxRecDepth 100000 in
theorem v_end_2 : ∀ t, t < 4 →  xe_t 317 [(1, nI 2), (2, nI t)] = true := by decide +kernel
set_option maxRecDepth 100000 in
theorem v_law_2_0 : ∀ k, k < 13 →  xe_t 403 [(1, nI 2), (2, nI k), (3, nI 0)] = true := by decide +kernel
set_option maxRecDepth 100000 in
theorem v_law_2_1 : ∀ k, k < 13 →  xe_t 403 [(1, nI 2), (2, nI k), (3, nI 1)] = true := by decide +kernel
set_option maxRecDepth 100000 in
theorem v_end_3 : ∀ t, t < 4 →  xe_t 317 [(1, nI 3), (2, nI t)] = true := by decide +kernel
set_option maxRecDepth 100000 in
theorem v_law_3_0 : ∀ k, k < 13 →  xe_t 403 [(1, nI 3), (2, nI k), (3, nI 0)] = true := by decide +kernel
set_option maxRecDepth 100000 in
theorem v_law_3_1 : ∀ k, k < 13 →  xe_t 403 [(1, nI 3), (2, nI k), (3, nI 1)] = true := by decide +kernel
end
section
set_option maxRecDepth 100000 in
theorem v_left_0 : ∀ t, t < 4 → ∀ w, w < 2 →  xe_t 578 [(1, nI 0), (2, nI t), (3, nI w)] = true := by decide +kernel
set_option maxRecDepth 100000 in
theorem v_alike_0 : ∀ t, t < 4 → ∀ w, w < 1 →  xe_t 644 [(1, nI 0), (2, nI t), (3, nI w)] = true := by decide +kernel
set_option maxRecDepth 100000 in
theorem v_name_0 : ∀ t, t < 4 →  xe_t 703 [(1, nI 0), (2, nI t)] = true := by decide +kernel
set_option maxRecDepth 100000 in
theorem v_product_0_0 : ∀ u, u < 4 →  xe_t 845 [(1, nI 0), (2, nI 0), (3, nI u)] = true := by decide +kernel
set_option maxRecDepth 100000 in
theorem v_product_0_1 : ∀ u, u < 4 →  xe_t 845 [(1, nI 0), (2, nI 1), (3, nI u)] = true := by decide +kernel
set_option maxRecDepth 100000 in
theorem v_product_0_2 : ∀ u, u < 4 →  xe_t 845 [(1, nI 0), (2, nI 2), (3, nI u)] = true := by decide +kernel
set_option maxRecDepth 100000 in
theorem v_product_0_3 : ∀ u, u < 4 →  xe_t 845 [(1, nI 0), (2, nI 3), (3, nI u)] = true := by decide +kernel
set_option maxRecDepth 100000 in
theorem v_left_1 : ∀ t, t < 4 → ∀ w, w < 2 →  xe_t 578 [(1, nI 1), (2, nI t), (3, nI w)] = true := by decide +kernel
set_option maxRecDepth 100000 in
theorem v_alike_1 : ∀ t, t < 4 → ∀ w, w < 1 →  xe_t 644 [(1, nI 1), (2, nI t), (3, nI w)] = true := by decide +kernel
set_option maxRecDepth 100000 in
theorem v_name_1 : ∀ t, t < 4 →  xe_t 703 [(1, nI 1), (2, nI t)] = true := by decide +kernel
set_option maxRecDepth 100000 in
theorem v_product_1_0 : ∀ u, u < 4 →  xe_t 845 [(1, nI 1), (2, nI 0), (3, nI u)] = true := by decide +kernel
set_option maxRecDepth 100000 in
theorem v_product_1_1 : ∀ u, u < 4 →  xe_t 845 [(1, nI 1), (2, nI 1), (3, nI u)] = true := by decide +kernel
set_option maxRecDepth 100000 in
theorem v_product_1_2 : ∀ u, u < 4 →  xe_t 845 [(1, nI 1), (2, nI 2), (3, nI u)] = true := by decide +kernel
set_option maxRecDepth 100000 in
theorem v_product_1_3 : ∀ u, u < 4 →  xe_t 845 [(1, nI 1), (2, nI 3), (3, nI u)] = true := by decide +kernel
set_option maxRecDepth 100000 in
theorem v_left_2 : ∀ t, t < 4 → ∀ w, w < 2 →  xe_t 578 [(1, nI 2), (2, nI t), (3, nI w)] = true := by decide +kernel
set_option maxRecDepth 100000 in
theorem v_alike_2 : ∀ t, t < 4 → ∀ w, w < 1 →  xe_t 644 [(1, nI 2), (2, nI t), (3, nI w)] = true := by decide +kernel
set_option maxRecDepth 100000 in
theorem v_name_2 : ∀ t, t < 4 →  xe_t 703 [(1, nI 2), (2, nI t)] = true := by decide +kernel
set_option maxRecDepth 100000 in
theorem v_product_2_0 : ∀ u, u < 4 →  xe_t 845 [(1, nI 2), (2, nI 0), (3, nI u)] = true := by decide +kernel
set_option maxRecDepth 100000 in
theorem v_product_2_1 : ∀ u, u < 4 →  xe_t 845 [(1, nI 2), (2, nI 1), (3, nI u)] = true := by decide +kernel
set_option maxRecDepth 100000 in
theorem v_product_2_2 : ∀ u, u < 4 →  xe_t 845 [(1, nI 2), (2, nI 2), (3, nI u)] = true := by decide +kernel
set_option maxRecDepth 100000 in
theorem v_product_2_3 : ∀ u, u < 4 →  xe_t 845 [(1, nI 2), (2, nI 3), (3, nI u)] = true := by decide +kernel
set_option maxRecDepth 100000 in
theorem v_left_3 : ∀ t, t < 4 → ∀ w, w < 2 →  xe_t 578 [(1, nI 3), (2, nI t), (3, nI w)] = true := by decide +kernel
set_option maxRecDepth 100000 in
theorem v_alike_3 : ∀ t, t < 4 → ∀ w, w < 1 →  xe_t 644 [(1, nI 3), (2, nI t), (3, nI w)] = true := by decide +kernel
set_option maxRecDepth 100000 in
theorem v_name_3 : ∀ t, t < 4 →  xe_t 703 [(1, nI 3), (2, nI t)] = true := by decide +kernel
set_option maxRecDepth 100000 in
theorem v_product_3_0 : ∀ u, u < 4 →  xe_t 845 [(1, nI 3), (2, nI 0), (3, nI u)] = true := by decide +kernel
set_option maxRecDepth 100000 in
theorem v_product_3_1 : ∀ u, u < 4 →  xe_t 845 [(1, nI 3), (2, nI 1), (3, nI u)] = true := by decide +kernel
set_option maxRecDepth 100000 in
theorem v_product_3_2 : ∀ u, u < 4 →  xe_t 845 [(1, nI 3), (2, nI 2), (3, nI u)] = true := by decide +kernel
set_option maxRecDepth 100000 in
theorem v_product_3_3 : ∀ u, u < 4 →  xe_t 845 [(1, nI 3), (2, nI 3), (3, nI u)] = true := by decide +kernel
set_option maxRecDepth 100000 in
theorem v_doubled_0 : ∀ t, t < 4 →  xe_t 802 [(1, nI 0), (2, nI t)] = true := by decide +kernel
set_option maxRecDepth 100000 in
theorem v_doubled_1 : ∀ t, t < 4 →  xe_t 802 [(1, nI 1), (2, nI t)] = true := by decide +kernel
set_option maxRecDepth 100000 in
theorem v_doubled_2 : ∀ t, t < 4 →  xe_t 802 [(1, nI 2), (2, nI t)] = true := by decide +kernel
set_option maxRecDepth 100000 in
theorem v_doubled_3 : ∀ t, t < 4 →  xe_t 802 [(1, nI 3), (2, nI t)] = true := by decide +kernel
end
section
set_option maxRecDepth 100000 in
set_option maxHeartbeats 4000000 in
theorem i_table_0 (x1 x2 : Int32) (h0 : x1.toInt < 0) : xe_P 132 [(1, x1), (2, x2)] := xe_pth (ds := [true, true, true]) (cs := [(.lt, x1, 0, true), (.eq, 0, 0, true), (.lt, x1, 0, true)]) rfl (List.forall_mem_cons.mpr ⟨xe_hs (a := x1.toInt) (b2 := 0) rfl (by decide) (by simp only [xe_ci]; first | (simp only [decide_eq_true_eq]; omega) | (simp only [decide_eq_false_iff_not]; omega) | (simp; omega)), (List.forall_mem_cons.mpr ⟨xe_hd rfl, (List.forall_mem_cons.mpr ⟨xe_hs (a := x1.toInt) (b2 := 0) rfl (by decide) (by simp only [xe_ci]; first | (simp only [decide_eq_true_eq]; omega) | (simp only [decide_eq_false_iff_not]; omega) | (simp; omega)), (fun _ h => absurd h List.not_mem_nil)⟩)⟩)⟩)
set_option maxRecDepth 100000 in
set_option maxHeartbeats 4000000 in
theorem i_table_1 (x1 x2 : Int32) (h0 : 4 ≤ x1.toInt) : xe_P 132 [(1, x1), (2, x2)] := xe_pth (ds := [false, true, true, false, true]) (cs := [(.lt, x1, 0, false), (.ge, x1, 4, true), (.eq, 0, 0, true), (.lt, x1, 0, false), (.gt, x1, 3, true)]) rfl (List.forall_mem_cons.mpr ⟨xe_hs (a := x1.toInt) (b2 := 0) rfl (by decide) (by simp only [xe_ci]; first | (simp only [decide_eq_true_eq]; omega) | (simp only [decide_eq_false_iff_not]; omega) | (simp; omega)), (List.forall_mem_cons.mpr ⟨xe_hs (a := x1.toInt) (b2 := 4) rfl (by decide) (by simp only [xe_ci]; first | (simp only [decide_eq_true_eq]; omega) | (simp only [decide_eq_false_iff_not]; omega) | (simp; omega)), (List.forall_mem_cons.mpr ⟨xe_hd rfl, (List.forall_mem_cons.mpr ⟨xe_hs (a := x1.toInt) (b2 := 0) rfl (by decide) (by simp only [xe_ci]; first | (simp only [decide_eq_true_eq]; omega) | (simp only [decide_eq_false_iff_not]; omega) | (simp; omega)), (List.forall_mem_cons.mpr ⟨xe_hs (a := x1.toInt) (b2 := 3) rfl (by decide) (by simp only [xe_ci]; first | (simp only [decide_eq_true_eq]; omega) | (simp only [decide_eq_false_iff_not]; omega) | (simp; omega)), (fun _ h => absurd h List.not_mem_nil)⟩)⟩)⟩)⟩)⟩)
set_option maxRecDepth 100000 in
set_option maxHeartbeats 4000000 in
theorem i_table_2 (x1 x2 : Int32) (h0 : 0 ≤ x1.toInt) (h1 : x1.toInt < 4) (h2 : x2.toInt < 1) : xe_P 132 [(1, x1), (2, x2)] := xe_pth (ds := [false, false, false, true, false, false, false, true]) (cs := [(.lt, x1, 0, false), (.ge, x1, 4, false), (.eq, 1, 0, false), (.lt, x2, 1, true), (.lt, x1, 0, false), (.gt, x1, 3, false), (.eq, 1, 0, false), (.lt, x2, 1, true)]) rfl (List.forall_mem_cons.mpr ⟨xe_hs (a := x1.toInt) (b2 := 0) rfl (by decide) (by simp only [xe_ci]; first | (simp only [decide_eq_true_eq]; omega) | (simp only [decide_eq_false_iff_not]; omega) | (simp; omega)), (List.forall_mem_cons.mpr ⟨xe_hs (a := x1.toInt) (b2 := 4) rfl (by decide) (by simp only [xe_ci]; first | (simp only [decide_eq_true_eq]; omega) | (simp only [decide_eq_false_iff_not]; omega) | (simp; omega)), (List.forall_mem_cons.mpr ⟨xe_hd rfl, (List.forall_mem_cons.mpr ⟨xe_hs (a := x2.toInt) (b2 := 1) rfl (by decide) (by simp only [xe_ci]; first | (simp only [decide_eq_true_eq]; omega) | (simp only [decide_eq_false_iff_not]; omega) | (simp; omega)), (List.forall_mem_cons.mpr ⟨xe_hs (a := x1.toInt) (b2 := 0) rfl (by decide) (by simp only [xe_ci]; first | (simp only [decide_eq_true_eq]; omega) | (simp only [decide_eq_false_iff_not]; omega) | (simp; omega)), (List.forall_mem_cons.mpr ⟨xe_hs (a := x1.toInt) (b2 := 3) rfl (by decide) (by simp only [xe_ci]; first | (simp only [decide_eq_true_eq]; omega) | (simp only [decide_eq_false_iff_not]; omega) | (simp; omega)), (List.forall_mem_cons.mpr ⟨xe_hd rfl, (List.forall_mem_cons.mpr ⟨xe_hs (a := x2.toInt) (b2 := 1) rfl (by decide) (by simp only [xe_ci]; first | (simp only [decide_eq_true_eq]; omega) | (simp only [decide_eq_false_iff_not]; omega) | (simp; omega)), (fun _ h => absurd h List.not_mem_nil)⟩)⟩)⟩)⟩)⟩)⟩)⟩)⟩)
set_option maxRecDepth 100000 in
set_option maxHeartbeats 4000000 in
theorem i_table_3 (x1 x2 : Int32) (h0 : 0 ≤ x1.toInt) (h1 : x1.toInt < 4) (h2 : 9 ≤ x2.toInt) : xe_P 132 [(1, x1), (2, x2)] := xe_pth (ds := [false, false, false, false, false, false, false, false, false, true]) (cs := [(.lt, x1, 0, false), (.ge, x1, 4, false), (.eq, 1, 0, false), (.lt, x2, 1, false), (.le, x2, 8, false), (.lt, x1, 0, false), (.gt, x1, 3, false), (.eq, 1, 0, false), (.lt, x2, 1, false), (.gt, x2, 8, true)]) rfl (List.forall_mem_cons.mpr ⟨xe_hs (a := x1.toInt) (b2 := 0) rfl (by decide) (by simp only [xe_ci]; first | (simp only [decide_eq_true_eq]; omega) | (simp only [decide_eq_false_iff_not]; omega) | (simp; omega)), (List.forall_mem_cons.mpr ⟨xe_hs (a := x1.toInt) (b2 := 4) rfl (by decide) (by simp only [xe_ci]; first | (simp only [decide_eq_true_eq]; omega) | (simp only [decide_eq_false_iff_not]; omega) | (simp; omega)), (List.forall_mem_cons.mpr ⟨xe_hd rfl, (List.forall_mem_cons.mpr ⟨xe_hs (a := x2.toInt) (b2 := 1) rfl (by decide) (by simp only [xe_ci]; first | (simp only [decide_eq_true_eq]; omega) | (simp only [decide_eq_false_iff_not]; omega) | (simp; omega)), (List.forall_mem_cons.mpr ⟨xe_hs (a := x2.toInt) (b2 := 8) rfl (by decide) (by simp only [xe_ci]; first | (simp only [decide_eq_true_eq]; omega) | (simp only [decide_eq_false_iff_not]; omega) | (simp; omega)), (List.forall_mem_cons.mpr ⟨xe_hs (a := x1.toInt) (b2 := 0) rfl (by decide) (by simp only [xe_ci]; first | (simp only [decide_eq_true_eq]; omega) | (simp only [decide_eq_false_iff_not]; omega) | (simp; omega)), (List.forall_mem_cons.mpr ⟨xe_hs (a := x1.toInt) (b2 := 3) rfl (by decide) (by simp only [xe_ci]; first | (simp only [decide_eq_true_eq]; omega) | (simp only [decide_eq_false_iff_not]; omega) | (simp; omega)), (List.forall_mem_cons.mpr ⟨xe_hd rfl, (List.forall_mem_cons.mpr ⟨xe_hs (a := x2.toInt) (b2 := 1) rfl (by decide) (by simp only [xe_ci]; first | (simp only [decide_eq_true_eq]; omega) | (simp only [decide_eq_false_iff_not]; omega) | (simp; omega)), (List.forall_mem_cons.mpr ⟨xe_hs (a := x2.toInt) (b2 := 8) rfl (by decide) (by simp only [xe_ci]; first | (simp only [decide_eq_true_eq]; omega) | (simp only [decide_eq_false_iff_not]; omega) | (simp; omega)), (fun _ h => absurd h List.not_mem_nil)⟩)⟩)⟩)⟩)⟩)⟩)⟩)⟩)⟩)⟩)
set_option maxRecDepth 100000 in
set_option maxHeartbeats 4000000 in
theorem i_set_0 (x1 x2 x3 x4 : Int32) (h0 : x1.toInt < 0) : xe_P 165 [(1, x1), (2, x2), (3, x3), (4, x4)] := xe_pth (ds := [true, true, true]) (cs := [(.lt, x1, 0, true), (.eq, 0, 0, true), (.lt, x1, 0, true)]) rfl (List.forall_mem_cons.mpr ⟨xe_hs (a := x1.toInt) (b2 := 0) rfl (by decide) (by simp only [xe_ci]; first | (simp only [decide_eq_true_eq]; omega) | (simp only [decide_eq_false_iff_not]; omega) | (simp; omega)), (List.forall_mem_cons.mpr ⟨xe_hd rfl, (List.forall_mem_cons.mpr ⟨xe_hs (a := x1.toInt) (b2 := 0) rfl (by decide) (by simp only [xe_ci]; first | (simp only [decide_eq_true_eq]; omega) | (simp only [decide_eq_false_iff_not]; omega) | (simp; omega)), (fun _ h => absurd h List.not_mem_nil)⟩)⟩)⟩)
set_option maxRecDepth 100000 in
set_option maxHeartbeats 4000000 in
theorem i_set_1 (x1 x2 x3 x4 : Int32) (h0 : 4 ≤ x1.toInt) : xe_P 165 [(1, x1), (2, x2), (3, x3), (4, x4)] := xe_pth (ds := [false, true, true, false, true]) (cs := [(.lt, x1, 0, false), (.ge, x1, 4, true), (.eq, 0, 0, true), (.lt, x1, 0, false), (.gt, x1, 3, true)]) rfl (List.forall_mem_cons.mpr ⟨xe_hs (a := x1.toInt) (b2 := 0) rfl (by decide) (by simp only [xe_ci]; first | (simp only [decide_eq_true_eq]; omega) | (simp only [decide_eq_false_iff_not]; omega) | (simp; omega)), (List.forall_mem_cons.mpr ⟨xe_hs (a := x1.toInt) (b2 := 4) rfl (by decide) (by simp only [xe_ci]; first | (simp only [decide_eq_true_eq]; omega) | (simp only [decide_eq_false_iff_not]; omega) | (simp; omega)), (List.forall_mem_cons.mpr ⟨xe_hd rfl, (List.forall_mem_cons.mpr ⟨xe_hs (a := x1.toInt) (b2 := 0) rfl (by decide) (by simp only [xe_ci]; first | (simp only [decide_eq_true_eq]; omega) | (simp only [decide_eq_false_iff_not]; omega) | (simp; omega)), (List.forall_mem_cons.mpr ⟨xe_hs (a := x1.toInt) (b2 := 3) rfl (by decide) (by simp only [xe_ci]; first | (simp only [decide_eq_true_eq]; omega) | (simp only [decide_eq_false_iff_not]; omega) | (simp; omega)), (fun _ h => absurd h List.not_mem_nil)⟩)⟩)⟩)⟩)⟩)
set_option maxRecDepth 100000 in
set_option maxHeartbeats 4000000 in
theorem i_set_2 (x3 x4 : Int32) : xe_P 165 [(1, 0), (2, 0), (3, x3), (4, x4)] := xe_pth (ds := []) (cs := []) rfl (fun _ h => absurd h List.not_mem_nil)
set_option maxRecDepth 100000 in
set_option maxHeartbeats 4000000 in
theorem i_set_3 (x2 x4 : Int32) (h0 : x2.toInt < 0) : xe_P 165 [(1, 0), (2, x2), (3, 0), (4, x4)] := xe_pth (ds := [false, false, false, false, true, false, false, false, true]) (cs := [(.lt, 0, 0, false), (.ge, 0, 4, false), (.eq, 1, 0, false), (.eq, x2, 0, false), (.eq, 0, 0, true), (.lt, 0, 0, false), (.gt, 0, 3, false), (.eq, 1, 0, false), (.lt, x2, 1, true)]) rfl (List.forall_mem_cons.mpr ⟨xe_hd rfl, (List.forall_mem_cons.mpr ⟨xe_hd rfl, (List.forall_mem_cons.mpr ⟨xe_hd rfl, (List.forall_mem_cons.mpr ⟨xe_hs (a := x2.toInt) (b2 := 0) rfl (by decide) (by simp only [xe_ci]; first | (simp only [decide_eq_true_eq]; omega) | (simp only [decide_eq_false_iff_not]; omega) | (simp; omega)), (List.forall_mem_cons.mpr ⟨xe_hd rfl, (List.forall_mem_cons.mpr ⟨xe_hd rfl, (List.forall_mem_cons.mpr ⟨xe_hd rfl, (List.forall_mem_cons.mpr ⟨xe_hd rfl, (List.forall_mem_cons.mpr ⟨xe_hs (a := x2.toInt) (b2 := 1) rfl (by decide) (by simp only [xe_ci]; first | (simp only [decide_eq_true_eq]; omega) | (simp only [decide_eq_false_iff_not]; omega) | (simp; omega)), (fun _ h => absurd h List.not_mem_nil)⟩)⟩)⟩)⟩)⟩)⟩)⟩)⟩)⟩)
set_option maxRecDepth 100000 in
set_option maxHeartbeats 4000000 in
theorem i_set_4 (x2 x4 : Int32) (h0 : 1 ≤ x2.toInt) : xe_P 165 [(1, 0), (2, x2), (3, 0), (4, x4)] := xe_pth (ds := [false, false, false, false, true, false, false, false, false, true]) (cs := [(.lt, 0, 0, false), (.ge, 0, 4, false), (.eq, 1, 0, false), (.eq, x2, 0, false), (.eq, 0, 0, true), (.lt, 0, 0, false), (.gt, 0, 3, false), (.eq, 1, 0, false), (.lt, x2, 1, false), (.gt, x2, 0, true)]) rfl (List.forall_mem_cons.mpr ⟨xe_hd rfl, (List.forall_mem_cons.mpr ⟨xe_hd rfl, (List.forall_mem_cons.mpr ⟨xe_hd rfl, (List.forall_mem_cons.mpr ⟨xe_hs (a := x2.toInt) (b2 := 0) rfl (by decide) (by simp only [xe_ci]; first | (simp only [decide_eq_true_eq]; omega) | (simp only [decide_eq_false_iff_not]; omega) | (simp; omega)), (List.forall_mem_cons.mpr ⟨xe_hd rfl, (List.forall_mem_cons.mpr ⟨xe_hd rfl, (List.forall_mem_cons.mpr ⟨xe_hd rfl, (List.forall_mem_cons.mpr ⟨xe_hd rfl, (List.forall_mem_cons.mpr ⟨xe_hs (a := x2.toInt) (b2 := 1) rfl (by decide) (by simp only [xe_ci]; first | (simp only [decide_eq_true_eq]; omega) | (simp only [decide_eq_false_iff_not]; omega) | (simp; omega)), (List.forall_mem_cons.mpr ⟨xe_hs (a := x2.toInt) (b2 := 0) rfl (by decide) (by simp only [xe_ci]; first | (simp only [decide_eq_true_eq]; omega) | (simp only [decide_eq_false_iff_not]; omega) | (simp; omega)), (fun _ h => absurd h List.not_mem_nil)⟩)⟩)⟩)⟩)⟩)⟩)⟩)⟩)⟩)⟩)
set_option maxRecDepth 100000 in
set_option maxHeartbeats 4000000 in
theorem i_set_5 (x2 x3 x4 : Int32) (h0 : x2.toInt < 0) (h1 : x3.toInt ≠ 0) : xe_P 165 [(1, 0), (2, x2), (3, x3), (4, x4)] := xe_pth (ds := [false, false, false, false, false, true, true, false, false, false, true]) (cs := [(.lt, 0, 0, false), (.ge, 0, 4, false), (.eq, 1, 0, false), (.eq, x2, 0, false), (.eq, x3, 0, false), (.lt, x2, 0, true), (.eq, 0, 0, true), (.lt, 0, 0, false), (.gt, 0, 3, false), (.eq, 1, 0, false), (.lt, x2, 1, true)]) rfl (List.forall_mem_cons.mpr ⟨xe_hd rfl, (List.forall_mem_cons.mpr ⟨xe_hd rfl, (List.forall_mem_cons.mpr ⟨xe_hd rfl, (List.forall_mem_cons.mpr ⟨xe_hs (a := x2.toInt) (b2 := 0) rfl (by decide) (by simp only [xe_ci]; first | (simp only [decide_eq_true_eq]; omega) | (simp only [decide_eq_false_iff_not]; omega) | (simp; omega)), (List.forall_mem_cons.mpr ⟨xe_hs (a := x3.toInt) (b2 := 0) rfl (by decide) (by simp only [xe_ci]; first | (simp only [decide_eq_true_eq]; omega) | (simp only [decide_eq_false_iff_not]; omega) | (simp; omega)), (List.forall_mem_cons.mpr ⟨xe_hs (a := x2.toInt) (b2 := 0) rfl (by decide) (by simp only [xe_ci]; first | (simp only [decide_eq_true_eq]; omega) | (simp only [decide_eq_false_iff_not]; omega) | (simp; omega)), (List.forall_mem_cons.mpr ⟨xe_hd rfl, (List.forall_mem_cons.mpr ⟨xe_hd rfl, (List.forall_mem_cons.mpr ⟨xe_hd rfl, (List.forall_mem_cons.mpr ⟨xe_hd rfl, (List.forall_mem_cons.mpr ⟨xe_hs (a := x2.toInt) (b2 := 1) rfl (by decide) (by simp only [xe_ci]; first | (simp only [decide_eq_true_eq]; omega) | (simp only [decide_eq_false_iff_not]; omega) | (simp; omega)), (fun _ h => absurd h List.not_mem_nil)⟩)⟩)⟩)⟩)⟩)⟩)⟩)⟩)⟩)⟩)⟩)
set_option maxRecDepth 100000 in
set_option maxHeartbeats 4000000 in
theorem i_set_6 (x2 x3 x4 : Int32) (h0 : 1 ≤ x2.toInt) (h1 : x3.toInt ≠ 0) : xe_P 165 [(1, 0), (2, x2), (3, x3), (4, x4)] := xe_pth (ds := [false, false, false, false, false, false, true, true, false, false, false, false, true]) (cs := [(.lt, 0, 0, false), (.ge, 0, 4, false), (.eq, 1, 0, false), (.eq, x2, 0, false), (.eq, x3, 0, false), (.lt, x2, 0, false), (.ge, x2, 1, true), (.eq, 0, 0, true), (.lt, 0, 0, false), (.gt, 0, 3, false), (.eq, 1, 0, false), (.lt, x2, 1, false), (.gt, x2, 0, true)]) rfl (List.forall_mem_cons.mpr ⟨xe_hd rfl, (List.forall_mem_cons.mpr ⟨xe_hd rfl, (List.forall_mem_cons.mpr ⟨xe_hd rfl, (List.forall_mem_cons.mpr ⟨xe_hs (a := x2.toInt) (b2 := 0) rfl (by decide) (by simp only [xe_ci]; first | (simp only [decide_eq_true_eq]; omega) | (simp only [decide_eq_false_iff_not]; omega) | (simp; omega)), (List.forall_mem_cons.mpr ⟨xe_hs (a := x3.toInt) (b2 := 0) rfl (by decide) (by simp only [xe_ci]; first | (simp only [decide_eq_true_eq]; omega) | (simp only [decide_eq_false_iff_not]; omega) | (simp; omega)), (List.forall_mem_cons.mpr ⟨xe_hs (a := x2.toInt) (b2 := 0) rfl (by decide) (by simp only [xe_ci]; first | (simp only [decide_eq_true_eq]; omega) | (simp only [decide_eq_false_iff_not]; omega) | (simp; omega)), (List.forall_mem_cons.mpr ⟨xe_hs (a := x2.toInt) (b2 := 1) rfl (by decide) (by simp only [xe_ci]; first | (simp only [decide_eq_true_eq]; omega) | (simp only [decide_eq_false_iff_not]; omega) | (simp; omega)), (List.forall_mem_cons.mpr ⟨xe_hd rfl, (List.forall_mem_cons.mpr ⟨xe_hd rfl, (List.forall_mem_cons.mpr ⟨xe_hd rfl, (List.forall_mem_cons.mpr ⟨xe_hd rfl, (List.forall_mem_cons.mpr ⟨xe_hs (a := x2.toInt) (b2 := 1) rfl (by decide) (by simp only [xe_ci]; first | (simp only [decide_eq_true_eq]; omega) | (simp only [decide_eq_false_iff_not]; omega) | (simp; omega)), (List.forall_mem_cons.mpr ⟨xe_hs (a := x2.toInt) (b2 := 0) rfl (by decide) (by simp only [xe_ci]; first | (simp only [decide_eq_true_eq]; omega) | (simp only [decide_eq_false_iff_not]; omega) | (simp; omega)), (fun _ h => absurd h List.not_mem_nil)⟩)⟩)⟩)⟩)⟩)⟩)⟩)⟩)⟩)⟩)⟩)⟩)⟩)
set_option maxRecDepth 100000 in
set_option maxHeartbeats 4000000 in
theorem i_set_7 (x3 x4 : Int32) : xe_P 165 [(1, 1), (2, 0), (3, x3), (4, x4)] := xe_pth (ds := []) (cs := []) rfl (fun _ h => absurd h List.not_mem_nil)
set_option maxRecDepth 100000 in
set_option maxHeartbeats 4000000 in
theorem i_set_8 (x2 x4 : Int32) (h0 : x2.toInt < 0) : xe_P 165 [(1, 1), (2, x2), (3, 0), (4, x4)] := xe_pth (ds := [false, false, false, false, true, false, false, false, true]) (cs := [(.lt, 1, 0, false), (.ge, 1, 4, false), (.eq, 1, 0, false), (.eq, x2, 0, false), (.eq, 0, 0, true), (.lt, 1, 0, false), (.gt, 1, 3, false), (.eq, 1, 0, false), (.lt, x2, 1, true)]) rfl (List.forall_mem_cons.mpr ⟨xe_hd rfl, (List.forall_mem_cons.mpr ⟨xe_hd rfl, (List.forall_mem_cons.mpr ⟨xe_hd rfl, (List.forall_mem_cons.mpr ⟨xe_hs (a := x2.toInt) (b2 := 0) rfl (by decide) (by simp only [xe_ci]; first | (simp only [decide_eq_true_eq]; omega) | (simp only [decide_eq_false_iff_not]; omega) | (simp; omega)), (List.forall_mem_cons.mpr ⟨xe_hd rfl, (List.forall_mem_cons.mpr ⟨xe_hd rfl, (List.forall_mem_cons.mpr ⟨xe_hd rfl, (List.forall_mem_cons.mpr ⟨xe_hd rfl, (List.forall_mem_cons.mpr ⟨xe_hs (a := x2.toInt) (b2 := 1) rfl (by decide) (by simp only [xe_ci]; first | (simp only [decide_eq_true_eq]; omega) | (simp only [decide_eq_false_iff_not]; omega) | (simp; omega)), (fun _ h => absurd h List.not_mem_nil)⟩)⟩)⟩)⟩)⟩)⟩)⟩)⟩)⟩)
set_option maxRecDepth 100000 in
set_option maxHeartbeats 4000000 in
theorem i_set_9 (x2 x4 : Int32) (h0 : 1 ≤ x2.toInt) : xe_P 165 [(1, 1), (2, x2), (3, 0), (4, x4)] := xe_pth (ds := [false, false, false, false, true, false, false, false, false, true]) (cs := [(.lt, 1, 0, false), (.ge, 1, 4, false), (.eq, 1, 0, false), (.eq, x2, 0, false), (.eq, 0, 0, true), (.lt, 1, 0, false), (.gt, 1, 3, false), (.eq, 1, 0, false), (.lt, x2, 1, false), (.gt, x2, 0, true)]) rfl (List.forall_mem_cons.mpr ⟨xe_hd rfl, (List.forall_mem_cons.mpr ⟨xe_hd rfl, (List.forall_mem_cons.mpr ⟨xe_hd rfl, (List.forall_mem_cons.mpr ⟨xe_hs (a := x2.toInt) (b2 := 0) rfl (by decide) (by simp only [xe_ci]; first | (simp only [decide_eq_true_eq]; omega) | (simp only [decide_eq_false_iff_not]; omega) | (simp; omega)), (List.forall_mem_cons.mpr ⟨xe_hd rfl, (List.forall_mem_cons.mpr ⟨xe_hd rfl, (List.forall_mem_cons.mpr ⟨xe_hd rfl, (List.forall_mem_cons.mpr ⟨xe_hd rfl, (List.forall_mem_cons.mpr ⟨xe_hs (a := x2.toInt) (b2 := 1) rfl (by decide) (by simp only [xe_ci]; first | (simp only [decide_eq_true_eq]; omega) | (simp only [decide_eq_false_iff_not]; omega) | (simp; omega)), (List.forall_mem_cons.mpr ⟨xe_hs (a := x2.toInt) (b2 := 0) rfl (by decide) (by simp only [xe_ci]; first | (simp only [decide_eq_true_eq]; omega) | (simp only [decide_eq_false_iff_not]; omega) | (simp; omega)), (fun _ h => absurd h List.not_mem_nil)⟩)⟩)⟩)⟩)⟩)⟩)⟩)⟩)⟩)⟩)
set_option maxRecDepth 100000 in
set_option maxHeartbeats 4000000 in
theorem i_set_10 (x2 x3 x4 : Int32) (h0 : x2.toInt < 0) (h1 : x3.toInt ≠ 0) : xe_P 165 [(1, 1), (2, x2), (3, x3), (4, x4)] := xe_pth (ds := [false, false, false, false, false, true, true, false, false, false, true]) (cs := [(.lt, 1, 0, false), (.ge, 1, 4, false), (.eq, 1, 0, false), (.eq, x2, 0, false), (.eq, x3, 0, false), (.lt, x2, 0, true), (.eq, 0, 0, true), (.lt, 1, 0, false), (.gt, 1, 3, false), (.eq, 1, 0, false), (.lt, x2, 1, true)]) rfl (List.forall_mem_cons.mpr ⟨xe_hd rfl, (List.forall_mem_cons.mpr ⟨xe_hd rfl, (List.forall_mem_cons.mpr ⟨xe_hd rfl, (List.forall_mem_cons.mpr ⟨xe_hs (a := x2.toInt) (b2 := 0) rfl (by decide) (by simp only [xe_ci]; first | (simp only [decide_eq_true_eq]; omega) | (simp only [decide_eq_false_iff_not]; omega) | (simp; omega)), (List.forall_mem_cons.mpr ⟨xe_hs (a := x3.toInt) (b2 := 0) rfl (by decide) (by simp only [xe_ci]; first | (simp only [decide_eq_true_eq]; omega) | (simp only [decide_eq_false_iff_not]; omega) | (simp; omega)), (List.forall_mem_cons.mpr ⟨xe_hs (a := x2.toInt) (b2 := 0) rfl (by decide) (by simp only [xe_ci]; first | (simp only [decide_eq_true_eq]; omega) | (simp only [decide_eq_false_iff_not]; omega) | (simp; omega)), (List.forall_mem_cons.mpr ⟨xe_hd rfl, (List.forall_mem_cons.mpr ⟨xe_hd rfl, (List.forall_mem_cons.mpr ⟨xe_hd rfl, (List.forall_mem_cons.mpr ⟨xe_hd rfl, (List.forall_mem_cons.mpr ⟨xe_hs (a := x2.toInt) (b2 := 1) rfl (by decide) (by simp only [xe_ci]; first | (simp only [decide_eq_true_eq]; omega) | (simp only [decide_eq_false_iff_not]; omega) | (simp; omega)), (fun _ h => absurd h List.not_mem_nil)⟩)⟩)⟩)⟩)⟩)⟩)⟩)⟩)⟩)⟩)⟩)
set_option maxRecDepth 100000 in
set_option maxHeartbeats 4000000 in
theorem i_set_11 (x2 x3 x4 : Int32) (h0 : 1 ≤ x2.toInt) (h1 : x3.toInt ≠ 0) : xe_P 165 [(1, 1), (2, x2), (3, x3), (4, x4)] := xe_pth (ds := [false, false, false, false, false, false, true, true, false, false, false, false, true]) (cs := [(.lt, 1, 0, false), (.ge, 1, 4, false), (.eq, 1, 0, false), (.eq, x2, 0, false), (.eq, x3, 0, false), (.lt, x2, 0, false), (.ge, x2, 1, true), (.eq, 0, 0, true), (.lt, 1, 0, false), (.gt, 1, 3, false), (.eq, 1, 0, false), (.lt, x2, 1, false), (.gt, x2, 0, true)]) rfl (List.forall_mem_cons.mpr ⟨xe_hd rfl, (List.forall_mem_cons.mpr ⟨xe_hd rfl, (List.forall_mem_cons.mpr ⟨xe_hd rfl, (List.forall_mem_cons.mpr ⟨xe_hs (a := x2.toInt) (b2 := 0) rfl (by decide) (by simp only [xe_ci]; first | (simp only [decide_eq_true_eq]; omega) | (simp only [decide_eq_false_iff_not]; omega) | (simp; omega)), (List.forall_mem_cons.mpr ⟨xe_hs (a := x3.toInt) (b2 := 0) rfl (by decide) (by simp only [xe_ci]; first | (simp only [decide_eq_true_eq]; omega) | (simp only [decide_eq_false_iff_not]; omega) | (simp; omega)), (List.forall_mem_cons.mpr ⟨xe_hs (a := x2.toInt) (b2 := 0) rfl (by decide) (by simp only [xe_ci]; first | (simp only [decide_eq_true_eq]; omega) | (simp only [decide_eq_false_iff_not]; omega) | (simp; omega)), (List.forall_mem_cons.mpr ⟨xe_hs (a := x2.toInt) (b2 := 1) rfl (by decide) (by simp only [xe_ci]; first | (simp only [decide_eq_true_eq]; omega) | (simp only [decide_eq_false_iff_not]; omega) | (simp; omega)), (List.forall_mem_cons.mpr ⟨xe_hd rfl, (List.forall_mem_cons.mpr ⟨xe_hd rfl, (List.forall_mem_cons.mpr ⟨xe_hd rfl, (List.forall_mem_cons.mpr ⟨xe_hd rfl, (List.forall_mem_cons.mpr ⟨xe_hs (a := x2.toInt) (b2 := 1) rfl (by decide) (by simp only [xe_ci]; first | (simp only [decide_eq_true_eq]; omega) | (simp only [decide_eq_false_iff_not]; omega) | (simp; omega)), (List.forall_mem_cons.mpr ⟨xe_hs (a := x2.toInt) (b2 := 0) rfl (by decide) (by simp only [xe_ci]; first | (simp only [decide_eq_true_eq]; omega) | (simp only [decide_eq_false_iff_not]; omega) | (simp; omega)), (fun _ h => absurd h List.not_mem_nil)⟩)⟩)⟩)⟩)⟩)⟩)⟩)⟩)⟩)⟩)⟩)⟩)⟩)
set_option maxRecDepth 100000 in
set_option maxHeartbeats 4000000 in
theorem i_set_12 (x3 x4 : Int32) : xe_P 165 [(1, 2), (2, 0), (3, x3), (4, x4)] := xe_pth (ds := []) (cs := []) rfl (fun _ h => absurd h List.not_mem_nil)
set_option maxRecDepth 100000 in
set_option maxHeartbeats 4000000 in
theorem i_set_13 (x2 x4 : Int32) (h0 : x2.toInt < 0) : xe_P 165 [(1, 2), (2, x2), (3, 0), (4, x4)] := xe_pth (ds := [false, false, false, false, true, false, false, false, true]) (cs := [(.lt, 2, 0, false), (.ge, 2, 4, false), (.eq, 1, 0, false), (.eq, x2, 0, false), (.eq, 0, 0, true), (.lt, 2, 0, false), (.gt, 2, 3, false), (.eq, 1, 0, false), (.lt, x2, 1, true)]) rfl (List.forall_mem_cons.mpr ⟨xe_hd rfl, (List.forall_mem_cons.mpr ⟨xe_hd rfl, (List.forall_mem_cons.mpr ⟨xe_hd rfl, (List.forall_mem_cons.mpr ⟨xe_hs (a := x2.toInt) (b2 := 0) rfl (by decide) (by simp only [xe_ci]; first | (simp only [decide_eq_true_eq]; omega) | (simp only [decide_eq_false_iff_not]; omega) | (simp; omega)), (List.forall_mem_cons.mpr ⟨xe_hd rfl, (List.forall_mem_cons.mpr ⟨xe_hd rfl, (List.forall_mem_cons.mpr ⟨xe_hd rfl, (List.forall_mem_cons.mpr ⟨xe_hd rfl, (List.forall_mem_cons.mpr ⟨xe_hs (a := x2.toInt) (b2 := 1) rfl (by decide) (by simp only [xe_ci]; first | (simp only [decide_eq_true_eq]; omega) | (simp only [decide_eq_false_iff_not]; omega) | (simp; omega)), (fun _ h => absurd h List.not_mem_nil)⟩)⟩)⟩)⟩)⟩)⟩)⟩)⟩)⟩)
set_option maxRecDepth 100000 in
set_option maxHeartbeats 4000000 in
theorem i_set_14 (x2 x4 : Int32) (h0 : 1 ≤ x2.toInt) : xe_P 165 [(1, 2), (2, x2), (3, 0), (4, x4)] := xe_pth (ds := [false, false, false, false, true, false, false, false, false, true]) (cs := [(.lt, 2, 0, false), (.ge, 2, 4, false), (.eq, 1, 0, false), (.eq, x2, 0, false), (.eq, 0, 0, true), (.lt, 2, 0, false), (.gt, 2, 3, false), (.eq, 1, 0, false), (.lt, x2, 1, false), (.gt, x2, 0, true)]) rfl (List.forall_mem_cons.mpr ⟨xe_hd rfl, (List.forall_mem_cons.mpr ⟨xe_hd rfl, (List.forall_mem_cons.mpr ⟨xe_hd rfl, (List.forall_mem_cons.mpr ⟨xe_hs (a := x2.toInt) (b2 := 0) rfl (by decide) (by simp only [xe_ci]; first | (simp only [decide_eq_true_eq]; omega) | (simp only [decide_eq_false_iff_not]; omega) | (simp; omega)), (List.forall_mem_cons.mpr ⟨xe_hd rfl, (List.forall_mem_cons.mpr ⟨xe_hd rfl, (List.forall_mem_cons.mpr ⟨xe_hd rfl, (List.forall_mem_cons.mpr ⟨xe_hd rfl, (List.forall_mem_cons.mpr ⟨xe_hs (a := x2.toInt) (b2 := 1) rfl (by decide) (by simp only [xe_ci]; first | (simp only [decide_eq_true_eq]; omega) | (simp only [decide_eq_false_iff_not]; omega) | (simp; omega)), (List.forall_mem_cons.mpr ⟨xe_hs (a := x2.toInt) (b2 := 0) rfl (by decide) (by simp only [xe_ci]; first | (simp only [decide_eq_true_eq]; omega) | (simp only [decide_eq_false_iff_not]; omega) | (simp; omega)), (fun _ h => absurd h List.not_mem_nil)⟩)⟩)⟩)⟩)⟩)⟩)⟩)⟩)⟩)⟩)
set_option maxRecDepth 100000 in
set_option maxHeartbeats 4000000 in
theorem i_set_15 (x2 x3 x4 : Int32) (h0 : x2.toInt < 0) (h1 : x3.toInt ≠ 0) : xe_P 165 [(1, 2), (2, x2), (3, x3), (4, x4)] := xe_pth (ds := [false, false, false, false, false, true, true, false, false, false, true]) (cs := [(.lt, 2, 0, false), (.ge, 2, 4, false), (.eq, 1, 0, false), (.eq, x2, 0, false), (.eq, x3, 0, false), (.lt, x2, 0, true), (.eq, 0, 0, true), (.lt, 2, 0, false), (.gt, 2, 3, false), (.eq, 1, 0, false), (.lt, x2, 1, true)]) rfl (List.forall_mem_cons.mpr ⟨xe_hd rfl, (List.forall_mem_cons.mpr ⟨xe_hd rfl, (List.forall_mem_cons.mpr ⟨xe_hd rfl, (List.forall_mem_cons.mpr ⟨xe_hs (a := x2.toInt) (b2 := 0) rfl (by decide) (by simp only [xe_ci]; first | (simp only [decide_eq_true_eq]; omega) | (simp only [decide_eq_false_iff_not]; omega) | (simp; omega)), (List.forall_mem_cons.mpr ⟨xe_hs (a := x3.toInt) (b2 := 0) rfl (by decide) (by simp only [xe_ci]; first | (simp only [decide_eq_true_eq]; omega) | (simp only [decide_eq_false_iff_not]; omega) | (simp; omega)), (List.forall_mem_cons.mpr ⟨xe_hs (a := x2.toInt) (b2 := 0) rfl (by decide) (by simp only [xe_ci]; first | (simp only [decide_eq_true_eq]; omega) | (simp only [decide_eq_false_iff_not]; omega) | (simp; omega)), (List.forall_mem_cons.mpr ⟨xe_hd rfl, (List.forall_mem_cons.mpr ⟨xe_hd rfl, (List.forall_mem_cons.mpr ⟨xe_hd rfl, (List.forall_mem_cons.mpr ⟨xe_hd rfl, (List.forall_mem_cons.mpr ⟨xe_hs (a := x2.toInt) (b2 := 1) rfl (by decide) (by simp only [xe_ci]; first | (simp only [decide_eq_true_eq]; omega) | (simp only [decide_eq_false_iff_not]; omega) | (simp; omega)), (fun _ h => absurd h List.not_mem_nil)⟩)⟩)⟩)⟩)⟩)⟩)⟩)⟩)⟩)⟩)⟩)
set_option maxRecDepth 100000 in
set_option maxHeartbeats 4000000 in
theorem i_set_16 (x2 x3 x4 : Int32) (h0 : 1 ≤ x2.toInt) (h1 : x3.toInt ≠ 0) : xe_P 165 [(1, 2), (2, x2), (3, x3), (4, x4)] := xe_pth (ds := [false, false, false, false, false, false, true, true, false, false, false, false, true]) (cs := [(.lt, 2, 0, false), (.ge, 2, 4, false), (.eq, 1, 0, false), (.eq, x2, 0, false), (.eq, x3, 0, false), (.lt, x2, 0, false), (.ge, x2, 1, true), (.eq, 0, 0, true), (.lt, 2, 0, false), (.gt, 2, 3, false), (.eq, 1, 0, false), (.lt, x2, 1, false), (.gt, x2, 0, true)]) rfl (List.forall_mem_cons.mpr ⟨xe_hd rfl, (List.forall_mem_cons.mpr ⟨xe_hd rfl, (List.forall_mem_cons.mpr ⟨xe_hd rfl, (List.forall_mem_cons.mpr ⟨xe_hs (a := x2.toInt) (b2 := 0) rfl (by decide) (by simp only [xe_ci]; first | (simp only [decide_eq_true_eq]; omega) | (simp only [decide_eq_false_iff_not]; omega) | (simp; omega)), (List.forall_mem_cons.mpr ⟨xe_hs (a := x3.toInt) (b2 := 0) rfl (by decide) (by simp only [xe_ci]; first | (simp only [decide_eq_true_eq]; omega) | (simp only [decide_eq_false_iff_not]; omega) | (simp; omega)), (List.forall_mem_cons.mpr ⟨xe_hs (a := x2.toInt) (b2 := 0) rfl (by decide) (by simp only [xe_ci]; first | (simp only [decide_eq_true_eq]; omega) | (simp only [decide_eq_false_iff_not]; omega) | (simp; omega)), (List.forall_mem_cons.mpr ⟨xe_hs (a := x2.toInt) (b2 := 1) rfl (by decide) (by simp only [xe_ci]; first | (simp only [decide_eq_true_eq]; omega) | (simp only [decide_eq_false_iff_not]; omega) | (simp; omega)), (List.forall_mem_cons.mpr ⟨xe_hd rfl, (List.forall_mem_cons.mpr ⟨xe_hd rfl, (List.forall_mem_cons.mpr ⟨xe_hd rfl, (List.forall_mem_cons.mpr ⟨xe_hd rfl, (List.forall_mem_cons.mpr ⟨xe_hs (a := x2.toInt) (b2 := 1) rfl (by decide) (by simp only [xe_ci]; first | (simp only [decide_eq_true_eq]; omega) | (simp only [decide_eq_false_iff_not]; omega) | (simp; omega)), (List.forall_mem_cons.mpr ⟨xe_hs (a := x2.toInt) (b2 := 0) rfl (by decide) (by simp only [xe_ci]; first | (simp only [decide_eq_true_eq]; omega) | (simp only [decide_eq_false_iff_not]; omega) | (simp; omega)), (fun _ h => absurd h List.not_mem_nil)⟩)⟩)⟩)⟩)⟩)⟩)⟩)⟩)⟩)⟩)⟩)⟩)⟩)
set_option maxRecDepth 100000 in
set_option maxHeartbeats 4000000 in
theorem i_set_17 (x3 x4 : Int32) : xe_P 165 [(1, 3), (2, 0), (3, x3), (4, x4)] := xe_pth (ds := []) (cs := []) rfl (fun _ h => absurd h List.not_mem_nil)
set_option maxRecDepth 100000 in
set_option maxHeartbeats 4000000 in
theorem i_set_18 (x2 x4 : Int32) (h0 : x2.toInt < 0) : xe_P 165 [(1, 3), (2, x2), (3, 0), (4, x4)] := xe_pth (ds := [false, false, false, false, true, false, false, false, true]) (cs := [(.lt, 3, 0, false), (.ge, 3, 4, false), (.eq, 1, 0, false), (.eq, x2, 0, false), (.eq, 0, 0, true), (.lt, 3, 0, false), (.gt, 3, 3, false), (.eq, 1, 0, false), (.lt, x2, 1, true)]) rfl (List.forall_mem_cons.mpr ⟨xe_hd rfl, (List.forall_mem_cons.mpr ⟨xe_hd rfl, (List.forall_mem_cons.mpr ⟨xe_hd rfl, (List.forall_mem_cons.mpr ⟨xe_hs (a := x2.toInt) (b2 := 0) rfl (by decide) (by simp only [xe_ci]; first | (simp only [decide_eq_true_eq]; omega) | (simp only [decide_eq_false_iff_not]; omega) | (simp; omega)), (List.forall_mem_cons.mpr ⟨xe_hd rfl, (List.forall_mem_cons.mpr ⟨xe_hd rfl, (List.forall_mem_cons.mpr ⟨xe_hd rfl, (List.forall_mem_cons.mpr ⟨xe_hd rfl, (List.forall_mem_cons.mpr ⟨xe_hs (a := x2.toInt) (b2 := 1) rfl (by decide) (by simp only [xe_ci]; first | (simp only [decide_eq_true_eq]; omega) | (simp only [decide_eq_false_iff_not]; omega) | (simp; omega)), (fun _ h => absurd h List.not_mem_nil)⟩)⟩)⟩)⟩)⟩)⟩)⟩)⟩)⟩)
set_option maxRecDepth 100000 in
set_option maxHeartbeats 4000000 in
theorem i_set_19 (x2 x4 : Int32) (h0 : 1 ≤ x2.toInt) : xe_P 165 [(1, 3), (2, x2), (3, 0), (4, x4)] := xe_pth (ds := [false, false, false, false, true, false, false, false, false, true]) (cs := [(.lt, 3, 0, false), (.ge, 3, 4, false), (.eq, 1, 0, false), (.eq, x2, 0, false), (.eq, 0, 0, true), (.lt, 3, 0, false), (.gt, 3, 3, false), (.eq, 1, 0, false), (.lt, x2, 1, false), (.gt, x2, 0, true)]) rfl (List.forall_mem_cons.mpr ⟨xe_hd rfl, (List.forall_mem_cons.mpr ⟨xe_hd rfl, (List.forall_mem_cons.mpr ⟨xe_hd rfl, (List.forall_mem_cons.mpr ⟨xe_hs (a := x2.toInt) (b2 := 0) rfl (by decide) (by simp only [xe_ci]; first | (simp only [decide_eq_true_eq]; omega) | (simp only [decide_eq_false_iff_not]; omega) | (simp; omega)), (List.forall_mem_cons.mpr ⟨xe_hd rfl, (List.forall_mem_cons.mpr ⟨xe_hd rfl, (List.forall_mem_cons.mpr ⟨xe_hd rfl, (List.forall_mem_cons.mpr ⟨xe_hd rfl, (List.forall_mem_cons.mpr ⟨xe_hs (a := x2.toInt) (b2 := 1) rfl (by decide) (by simp only [xe_ci]; first | (simp only [decide_eq_true_eq]; omega) | (simp only [decide_eq_false_iff_not]; omega) | (simp; omega)), (List.forall_mem_cons.mpr ⟨xe_hs (a := x2.toInt) (b2 := 0) rfl (by decide) (by simp only [xe_ci]; first | (simp only [decide_eq_true_eq]; omega) | (simp only [decide_eq_false_iff_not]; omega) | (simp; omega)), (fun _ h => absurd h List.not_mem_nil)⟩)⟩)⟩)⟩)⟩)⟩)⟩)⟩)⟩)⟩)
set_option maxRecDepth 100000 in
set_option maxHeartbeats 4000000 in
theorem i_set_20 (x2 x3 x4 : Int32) (h0 : x2.toInt < 0) (h1 : x3.toInt ≠ 0) : xe_P 165 [(1, 3), (2, x2), (3, x3), (4, x4)] := xe_pth (ds := [false, false, false, false, false, true, true, false, false, false, true]) (cs := [(.lt, 3, 0, false), (.ge, 3, 4, false), (.eq, 1, 0, false), (.eq, x2, 0, false), (.eq, x3, 0, false), (.lt, x2, 0, true), (.eq, 0, 0, true), (.lt, 3, 0, false), (.gt, 3, 3, false), (.eq, 1, 0, false), (.lt, x2, 1, true)]) rfl (List.forall_mem_cons.mpr ⟨xe_hd rfl, (List.forall_mem_cons.mpr ⟨xe_hd rfl, (List.forall_mem_cons.mpr ⟨xe_hd rfl, (List.forall_mem_cons.mpr ⟨xe_hs (a := x2.toInt) (b2 := 0) rfl (by decide) (by simp only [xe_ci]; first | (simp only [decide_eq_true_eq]; omega) | (simp only [decide_eq_false_iff_not]; omega) | (simp; omega)), (List.forall_mem_cons.mpr ⟨xe_hs (a := x3.toInt) (b2 := 0) rfl (by decide) (by simp only [xe_ci]; first | (simp only [decide_eq_true_eq]; omega) | (simp only [decide_eq_false_iff_not]; omega) | (simp; omega)), (List.forall_mem_cons.mpr ⟨xe_hs (a := x2.toInt) (b2 := 0) rfl (by decide) (by simp only [xe_ci]; first | (simp only [decide_eq_true_eq]; omega) | (simp only [decide_eq_false_iff_not]; omega) | (simp; omega)), (List.forall_mem_cons.mpr ⟨xe_hd rfl, (List.forall_mem_cons.mpr ⟨xe_hd rfl, (List.forall_mem_cons.mpr ⟨xe_hd rfl, (List.forall_mem_cons.mpr ⟨xe_hd rfl, (List.forall_mem_cons.mpr ⟨xe_hs (a := x2.toInt) (b2 := 1) rfl (by decide) (by simp only [xe_ci]; first | (simp only [decide_eq_true_eq]; omega) | (simp only [decide_eq_false_iff_not]; omega) | (simp; omega)), (fun _ h => absurd h List.not_mem_nil)⟩)⟩)⟩)⟩)⟩)⟩)⟩)⟩)⟩)⟩)⟩)
set_option maxRecDepth 100000 in
set_option maxHeartbeats 4000000 in
theorem i_set_21 (x2 x3 x4 : Int32) (h0 : 1 ≤ x2.toInt) (h1 : x3.toInt ≠ 0) : xe_P 165 [(1, 3), (2, x2), (3, x3), (4, x4)] := xe_pth (ds := [false, false, false, false, false, false, true, true, false, false, false, false, true]) (cs := [(.lt, 3, 0, false), (.ge, 3, 4, false), (.eq, 1, 0, false), (.eq, x2, 0, false), (.eq, x3, 0, false), (.lt, x2, 0, false), (.ge, x2, 1, true), (.eq, 0, 0, true), (.lt, 3, 0, false), (.gt, 3, 3, false), (.eq, 1, 0, false), (.lt, x2, 1, false), (.gt, x2, 0, true)]) rfl (List.forall_mem_cons.mpr ⟨xe_hd rfl, (List.forall_mem_cons.mpr ⟨xe_hd rfl, (List.forall_mem_cons.mpr ⟨xe_hd rfl, (List.forall_mem_cons.mpr ⟨xe_hs (a := x2.toInt) (b2 := 0) rfl (by decide) (by simp only [xe_ci]; first | (simp only [decide_eq_true_eq]; omega) | (simp only [decide_eq_false_iff_not]; omega) | (simp; omega)), (List.forall_mem_cons.mpr ⟨xe_hs (a := x3.toInt) (b2 := 0) rfl (by decide) (by simp only [xe_ci]; first | (simp only [decide_eq_true_eq]; omega) | (simp only [decide_eq_false_iff_not]; omega) | (simp; omega)), (List.forall_mem_cons.mpr ⟨xe_hs (a := x2.toInt) (b2 := 0) rfl (by decide) (by simp only [xe_ci]; first | (simp only [decide_eq_true_eq]; omega) | (simp only [decide_eq_false_iff_not]; omega) | (simp; omega)), (List.forall_mem_cons.mpr ⟨xe_hs (a := x2.toInt) (b2 := 1) rfl (by decide) (by simp only [xe_ci]; first | (simp only [decide_eq_true_eq]; omega) | (simp only [decide_eq_false_iff_not]; omega) | (simp; omega)), (List.forall_mem_cons.mpr ⟨xe_hd rfl, (List.forall_mem_cons.mpr ⟨xe_hd rfl, (List.forall_mem_cons.mpr ⟨xe_hd rfl, (List.forall_mem_cons.mpr ⟨xe_hd rfl, (List.forall_mem_cons.mpr ⟨xe_hs (a := x2.toInt) (b2 := 1) rfl (by decide) (by simp only [xe_ci]; first | (simp only [decide_eq_true_eq]; omega) | (simp only [decide_eq_false_iff_not]; omega) | (simp; omega)), (List.forall_mem_cons.mpr ⟨xe_hs (a := x2.toInt) (b2 := 0) rfl (by decide) (by simp only [xe_ci]; first | (simp only [decide_eq_true_eq]; omega) | (simp only [decide_eq_false_iff_not]; omega) | (simp; omega)), (fun _ h => absurd h List.not_mem_nil)⟩)⟩)⟩)⟩)⟩)⟩)⟩)⟩)⟩)⟩)⟩)⟩)⟩)
set_option maxRecDepth 100000 in
set_option maxHeartbeats 4000000 in
theorem i_at_0 (x1 x2 x3 : Int32) (h0 : x1.toInt < 0) : xe_P 218 [(1, x1), (2, x2), (3, x3)] := xe_pth (ds := [true, true, true]) (cs := [(.lt, x1, 0, true), (.eq, 0, 0, true), (.lt, x1, 0, true)]) rfl (List.forall_mem_cons.mpr ⟨xe_hs (a := x1.toInt) (b2 := 0) rfl (by decide) (by simp only [xe_ci]; first | (simp only [decide_eq_true_eq]; omega) | (simp only [decide_eq_false_iff_not]; omega) | (simp; omega)), (List.forall_mem_cons.mpr ⟨xe_hd rfl, (List.forall_mem_cons.mpr ⟨xe_hs (a := x1.toInt) (b2 := 0) rfl (by decide) (by simp only [xe_ci]; first | (simp only [decide_eq_true_eq]; omega) | (simp only [decide_eq_false_iff_not]; omega) | (simp; omega)), (fun _ h => absurd h List.not_mem_nil)⟩)⟩)⟩)
set_option maxRecDepth 100000 in
set_option maxHeartbeats 4000000 in
theorem i_at_1 (x1 x2 x3 : Int32) (h0 : 4 ≤ x1.toInt) : xe_P 218 [(1, x1), (2, x2), (3, x3)] := xe_pth (ds := [false, true, true, false, true]) (cs := [(.lt, x1, 0, false), (.ge, x1, 4, true), (.eq, 0, 0, true), (.lt, x1, 0, false), (.gt, x1, 3, true)]) rfl (List.forall_mem_cons.mpr ⟨xe_hs (a := x1.toInt) (b2 := 0) rfl (by decide) (by simp only [xe_ci]; first | (simp only [decide_eq_true_eq]; omega) | (simp only [decide_eq_false_iff_not]; omega) | (simp; omega)), (List.forall_mem_cons.mpr ⟨xe_hs (a := x1.toInt) (b2 := 4) rfl (by decide) (by simp only [xe_ci]; first | (simp only [decide_eq_true_eq]; omega) | (simp only [decide_eq_false_iff_not]; omega) | (simp; omega)), (List.forall_mem_cons.mpr ⟨xe_hd rfl, (List.forall_mem_cons.mpr ⟨xe_hs (a := x1.toInt) (b2 := 0) rfl (by decide) (by simp only [xe_ci]; first | (simp only [decide_eq_true_eq]; omega) | (simp only [decide_eq_false_iff_not]; omega) | (simp; omega)), (List.forall_mem_cons.mpr ⟨xe_hs (a := x1.toInt) (b2 := 3) rfl (by decide) (by simp only [xe_ci]; first | (simp only [decide_eq_true_eq]; omega) | (simp only [decide_eq_false_iff_not]; omega) | (simp; omega)), (fun _ h => absurd h List.not_mem_nil)⟩)⟩)⟩)⟩)⟩)
set_option maxRecDepth 100000 in
set_option maxHeartbeats 4000000 in
theorem i_at_2 (x2 x3 : Int32) (h0 : x2.toInt < 0) : xe_P 218 [(1, 0), (2, x2), (3, x3)] := xe_pth (ds := [false, false, false, true, true, false, false, false, true]) (cs := [(.lt, 0, 0, false), (.ge, 0, 4, false), (.eq, 1, 0, false), (.lt, x2, 0, true), (.eq, 0, 0, true), (.lt, 0, 0, false), (.gt, 0, 3, false), (.eq, 1, 0, false), (.lt, x2, 0, true)]) rfl (List.forall_mem_cons.mpr ⟨xe_hd rfl, (List.forall_mem_cons.mpr ⟨xe_hd rfl, (List.forall_mem_cons.mpr ⟨xe_hd rfl, (List.forall_mem_cons.mpr ⟨xe_hs (a := x2.toInt) (b2 := 0) rfl (by decide) (by simp only [xe_ci]; first | (simp only [decide_eq_true_eq]; omega) | (simp only [decide_eq_false_iff_not]; omega) | (simp; omega)), (List.forall_mem_cons.mpr ⟨xe_hd rfl, (List.forall_mem_cons.mpr ⟨xe_hd rfl, (List.forall_mem_cons.mpr ⟨xe_hd rfl, (List.forall_mem_cons.mpr ⟨xe_hd rfl, (List.forall_mem_cons.mpr ⟨xe_hs (a := x2.toInt) (b2 := 0) rfl (by decide) (by simp only [xe_ci]; first | (simp only [decide_eq_true_eq]; omega) | (simp only [decide_eq_false_iff_not]; omega) | (simp; omega)), (fun _ h => absurd h List.not_mem_nil)⟩)⟩)⟩)⟩)⟩)⟩)⟩)⟩)⟩)
set_option maxRecDepth 100000 in
set_option maxHeartbeats 4000000 in
theorem i_at_3 (x2 x3 : Int32) (h0 : 1 ≤ x2.toInt) : xe_P 218 [(1, 0), (2, x2), (3, x3)] := xe_pth (ds := [false, false, false, false, true, true, false, false, false, false, true]) (cs := [(.lt, 0, 0, false), (.ge, 0, 4, false), (.eq, 1, 0, false), (.lt, x2, 0, false), (.ge, x2, 1, true), (.eq, 0, 0, true), (.lt, 0, 0, false), (.gt, 0, 3, false), (.eq, 1, 0, false), (.lt, x2, 0, false), (.gt, x2, 0, true)]) rfl (List.forall_mem_cons.mpr ⟨xe_hd rfl, (List.forall_mem_cons.mpr ⟨xe_hd rfl, (List.forall_mem_cons.mpr ⟨xe_hd rfl, (List.forall_mem_cons.mpr ⟨xe_hs (a := x2.toInt) (b2 := 0) rfl (by decide) (by simp only [xe_ci]; first | (simp only [decide_eq_true_eq]; omega) | (simp only [decide_eq_false_iff_not]; omega) | (simp; omega)), (List.forall_mem_cons.mpr ⟨xe_hs (a := x2.toInt) (b2 := 1) rfl (by decide) (by simp only [xe_ci]; first | (simp only [decide_eq_true_eq]; omega) | (simp only [decide_eq_false_iff_not]; omega) | (simp; omega)), (List.forall_mem_cons.mpr ⟨xe_hd rfl, (List.forall_mem_cons.mpr ⟨xe_hd rfl, (List.forall_mem_cons.mpr ⟨xe_hd rfl, (List.forall_mem_cons.mpr ⟨xe_hd rfl, (List.forall_mem_cons.mpr ⟨xe_hs (a := x2.toInt) (b2 := 0) rfl (by decide) (by simp only [xe_ci]; first | (simp only [decide_eq_true_eq]; omega) | (simp only [decide_eq_false_iff_not]; omega) | (simp; omega)), (List.forall_mem_cons.mpr ⟨xe_hs (a := x2.toInt) (b2 := 0) rfl (by decide) (by simp only [xe_ci]; first | (simp only [decide_eq_true_eq]; omega) | (simp only [decide_eq_false_iff_not]; omega) | (simp; omega)), (fun _ h => absurd h List.not_mem_nil)⟩)⟩)⟩)⟩)⟩)⟩)⟩)⟩)⟩)⟩)⟩)
set_option maxRecDepth 100000 in
set_option maxHeartbeats 4000000 in
theorem i_at_4 (x3 : Int32) (h0 : x3.toInt < 0) : xe_P 218 [(1, 0), (2, 0), (3, x3)] := xe_pth (ds := [false, false, false, false, false, false, true, false, false, false, false, false, false, false, true]) (cs := [(.lt, 0, 0, false), (.ge, 0, 4, false), (.eq, 1, 0, false), (.lt, 0, 0, false), (.ge, 0, 1, false), (.eq, 1, 0, false), (.lt, x3, 0, true), (.ne, 0, 0, false), (.lt, 0, 0, false), (.gt, 0, 3, false), (.eq, 1, 0, false), (.lt, 0, 0, false), (.gt, 0, 0, false), (.eq, 1, 0, false), (.lt, x3, 0, true)]) rfl (List.forall_mem_cons.mpr ⟨xe_hd rfl, (List.forall_mem_cons.mpr ⟨xe_hd rfl, (List.forall_mem_cons.mpr ⟨xe_hd rfl, (List.forall_mem_cons.mpr ⟨xe_hd rfl, (List.forall_mem_cons.mpr ⟨xe_hd rfl, (List.forall_mem_cons.mpr ⟨xe_hd rfl, (List.forall_mem_cons.mpr ⟨xe_hs (a := x3.toInt) (b2 := 0) rfl (by decide) (by simp only [xe_ci]; first | (simp only [decide_eq_true_eq]; omega) | (simp only [decide_eq_false_iff_not]; omega) | (simp; omega)), (List.forall_mem_cons.mpr ⟨xe_hd rfl, (List.forall_mem_cons.mpr ⟨xe_hd rfl, (List.forall_mem_cons.mpr ⟨xe_hd rfl, (List.forall_mem_cons.mpr ⟨xe_hd rfl, (List.forall_mem_cons.mpr ⟨xe_hd rfl, (List.forall_mem_cons.mpr ⟨xe_hd rfl, (List.forall_mem_cons.mpr ⟨xe_hd rfl, (List.forall_mem_cons.mpr ⟨xe_hs (a := x3.toInt) (b2 := 0) rfl (by decide) (by simp only [xe_ci]; first | (simp only [decide_eq_true_eq]; omega) | (simp only [decide_eq_false_iff_not]; omega) | (simp; omega)), (fun _ h => absurd h List.not_mem_nil)⟩)⟩)⟩)⟩)⟩)⟩)⟩)⟩)⟩)⟩)⟩)⟩)⟩)⟩)⟩)
set_option maxRecDepth 100000 in
set_option maxHeartbeats 4000000 in
theorem i_at_5 (x3 : Int32) (h0 : 1 ≤ x3.toInt) : xe_P 218 [(1, 0), (2, 0), (3, x3)] := xe_pth (ds := [false, false, false, false, false, false, false, true, false, false, false, false, false, false, false, false, true]) (cs := [(.lt, 0, 0, false), (.ge, 0, 4, false), (.eq, 1, 0, false), (.lt, 0, 0, false), (.ge, 0, 1, false), (.eq, 1, 0, false), (.lt, x3, 0, false), (.ge, x3, 1, true), (.ne, 0, 0, false), (.lt, 0, 0, false), (.gt, 0, 3, false), (.eq, 1, 0, false), (.lt, 0, 0, false), (.gt, 0, 0, false), (.eq, 1, 0, false), (.lt, x3, 0, false), (.gt, x3, 0, true)]) rfl (List.forall_mem_cons.mpr ⟨xe_hd rfl, (List.forall_mem_cons.mpr ⟨xe_hd rfl, (List.forall_mem_cons.mpr ⟨xe_hd rfl, (List.forall_mem_cons.mpr ⟨xe_hd rfl, (List.forall_mem_cons.mpr ⟨xe_hd rfl, (List.forall_mem_cons.mpr ⟨xe_hd rfl, (List.forall_mem_cons.mpr ⟨xe_hs (a := x3.toInt) (b2 := 0) rfl (by decide) (by simp only [xe_ci]; first | (simp only [decide_eq_true_eq]; omega) | (simp only [decide_eq_false_iff_not]; omega) | (simp; omega)), (List.forall_mem_cons.mpr ⟨xe_hs (a := x3.toInt) (b2 := 1) rfl (by decide) (by simp only [xe_ci]; first | (simp only [decide_eq_true_eq]; omega) | (simp only [decide_eq_false_iff_not]; omega) | (simp; omega)), (List.forall_mem_cons.mpr ⟨xe_hd rfl, (List.forall_mem_cons.mpr ⟨xe_hd rfl, (List.forall_mem_cons.mpr ⟨xe_hd rfl, (List.forall_mem_cons.mpr ⟨xe_hd rfl, (List.forall_mem_cons.mpr ⟨xe_hd rfl, (List.forall_mem_cons.mpr ⟨xe_hd rfl, (List.forall_mem_cons.mpr ⟨xe_hd rfl, (List.forall_mem_cons.mpr ⟨xe_hs (a := x3.toInt) (b2 := 0) rfl (by decide) (by simp only [xe_ci]; first | (simp only [decide_eq_true_eq]; omega) | (simp only [decide_eq_false_iff_not]; omega) | (simp; omega)), (List.forall_mem_cons.mpr ⟨xe_hs (a := x3.toInt) (b2 := 0) rfl (by decide) (by simp only [xe_ci]; first | (simp only [decide_eq_true_eq]; omega) | (simp only [decide_eq_false_iff_not]; omega) | (simp; omega)), (fun _ h => absurd h List.not_mem_nil)⟩)⟩)⟩)⟩)⟩)⟩)⟩)⟩)⟩)⟩)⟩)⟩)⟩)⟩)⟩)⟩)⟩)
set_option maxRecDepth 100000 in
set_option maxHeartbeats 4000000 in
theorem i_at_6 (x2 x3 : Int32) (h0 : x2.toInt < 0) : xe_P 218 [(1, 1), (2, x2), (3, x3)] := xe_pth (ds := [false, false, false, true, true, false, false, false, true]) (cs := [(.lt, 1, 0, false), (.ge, 1, 4, false), (.eq, 1, 0, false), (.lt, x2, 0, true), (.eq, 0, 0, true), (.lt, 1, 0, false), (.gt, 1, 3, false), (.eq, 1, 0, false), (.lt, x2, 0, true)]) rfl (List.forall_mem_cons.mpr ⟨xe_hd rfl, (List.forall_mem_cons.mpr ⟨xe_hd rfl, (List.forall_mem_cons.mpr ⟨xe_hd rfl, (List.forall_mem_cons.mpr ⟨xe_hs (a := x2.toInt) (b2 := 0) rfl (by decide) (by simp only [xe_ci]; first | (simp only [decide_eq_true_eq]; omega) | (simp only [decide_eq_false_iff_not]; omega) | (simp; omega)), (List.forall_mem_cons.mpr ⟨xe_hd rfl, (List.forall_mem_cons.mpr ⟨xe_hd rfl, (List.forall_mem_cons.mpr ⟨xe_hd rfl, (List.forall_mem_cons.mpr ⟨xe_hd rfl, (List.forall_mem_cons.mpr ⟨xe_hs (a := x2.toInt) (b2 := 0) rfl (by decide) (by simp only [xe_ci]; first | (simp only [decide_eq_true_eq]; omega) | (simp only [decide_eq_false_iff_not]; omega) | (simp; omega)), (fun _ h => absurd h List.not_mem_nil)⟩)⟩)⟩)⟩)⟩)⟩)⟩)⟩)⟩)
set_option maxRecDepth 100000 in
set_option maxHeartbeats 4000000 in
theorem i_at_7 (x2 x3 : Int32) (h0 : 1 ≤ x2.toInt) : xe_P 218 [(1, 1), (2, x2), (3, x3)] := xe_pth (ds := [false, false, false, false, true, true, false, false, false, false, true]) (cs := [(.lt, 1, 0, false), (.ge, 1, 4, false), (.eq, 1, 0, false), (.lt, x2, 0, false), (.ge, x2, 1, true), (.eq, 0, 0, true), (.lt, 1, 0, false), (.gt, 1, 3, false), (.eq, 1, 0, false), (.lt, x2, 0, false), (.gt, x2, 0, true)]) rfl (List.forall_mem_cons.mpr ⟨xe_hd rfl, (List.forall_mem_cons.mpr ⟨xe_hd rfl, (List.forall_mem_cons.mpr ⟨xe_hd rfl, (List.forall_mem_cons.mpr ⟨xe_hs (a := x2.toInt) (b2 := 0) rfl (by decide) (by simp only [xe_ci]; first | (simp only [decide_eq_true_eq]; omega) | (simp only [decide_eq_false_iff_not]; omega) | (simp; omega)), (List.forall_mem_cons.mpr ⟨xe_hs (a := x2.toInt) (b2 := 1) rfl (by decide) (by simp only [xe_ci]; first | (simp only [decide_eq_true_eq]; omega) | (simp only [decide_eq_false_iff_not]; omega) | (simp; omega)), (List.forall_mem_cons.mpr ⟨xe_hd rfl, (List.forall_mem_cons.mpr ⟨xe_hd rfl, (List.forall_mem_cons.mpr ⟨xe_hd rfl, (List.forall_mem_cons.mpr ⟨xe_hd rfl, (List.forall_mem_cons.mpr ⟨xe_hs (a := x2.toInt) (b2 := 0) rfl (by decide) (by simp only [xe_ci]; first | (simp only [decide_eq_true_eq]; omega) | (simp only [decide_eq_false_iff_not]; omega) | (simp; omega)), (List.forall_mem_cons.mpr ⟨xe_hs (a := x2.toInt) (b2 := 0) rfl (by decide) (by simp only [xe_ci]; first | (simp only [decide_eq_true_eq]; omega) | (simp only [decide_eq_false_iff_not]; omega) | (simp; omega)), (fun _ h => absurd h List.not_mem_nil)⟩)⟩)⟩)⟩)⟩)⟩)⟩)⟩)⟩)⟩)⟩)
set_option maxRecDepth 100000 in
set_option maxHeartbeats 4000000 in
theorem i_at_8 (x3 : Int32) (h0 : x3.toInt < 0) : xe_P 218 [(1, 1), (2, 0), (3, x3)] := xe_pth (ds := [false, false, false, false, false, false, true, false, false, false, false, false, false, false, true]) (cs := [(.lt, 1, 0, false), (.ge, 1, 4, false), (.eq, 1, 0, false), (.lt, 0, 0, false), (.ge, 0, 1, false), (.eq, 1, 0, false), (.lt, x3, 0, true), (.ne, 0, 0, false), (.lt, 1, 0, false), (.gt, 1, 3, false), (.eq, 1, 0, false), (.lt, 0, 0, false), (.gt, 0, 0, false), (.eq, 1, 0, false), (.lt, x3, 0, true)]) rfl (List.forall_mem_cons.mpr ⟨xe_hd rfl, (List.forall_mem_cons.mpr ⟨xe_hd rfl, (List.forall_mem_cons.mpr ⟨xe_hd rfl, (List.forall_mem_cons.mpr ⟨xe_hd rfl, (List.forall_mem_cons.mpr ⟨xe_hd rfl, (List.forall_mem_cons.mpr ⟨xe_hd rfl, (List.forall_mem_cons.mpr ⟨xe_hs (a := x3.toInt) (b2 := 0) rfl (by decide) (by simp only [xe_ci]; first | (simp only [decide_eq_true_eq]; omega) | (simp only [decide_eq_false_iff_not]; omega) | (simp; omega)), (List.forall_mem_cons.mpr ⟨xe_hd rfl, (List.forall_mem_cons.mpr ⟨xe_hd rfl, (List.forall_mem_cons.mpr ⟨xe_hd rfl, (List.forall_mem_cons.mpr ⟨xe_hd rfl, (List.forall_mem_cons.mpr ⟨xe_hd rfl, (List.forall_mem_cons.mpr ⟨xe_hd rfl, (List.forall_mem_cons.mpr ⟨xe_hd rfl, (List.forall_mem_cons.mpr ⟨xe_hs (a := x3.toInt) (b2 := 0) rfl (by decide) (by simp only [xe_ci]; first | (simp only [decide_eq_true_eq]; omega) | (simp only [decide_eq_false_iff_not]; omega) | (simp; omega)), (fun _ h => absurd h List.not_mem_nil)⟩)⟩)⟩)⟩)⟩)⟩)⟩)⟩)⟩)⟩)⟩)⟩)⟩)⟩)⟩)
set_option maxRecDepth 100000 in
set_option maxHeartbeats 4000000 in
theorem i_at_9 (x3 : Int32) (h0 : 1 ≤ x3.toInt) : xe_P 218 [(1, 1), (2, 0), (3, x3)] := xe_pth (ds := [false, false, false, false, false, false, false, true, false, false, false, false, false, false, false, false, true]) (cs := [(.lt, 1, 0, false), (.ge, 1, 4, false), (.eq, 1, 0, false), (.lt, 0, 0, false), (.ge, 0, 1, false), (.eq, 1, 0, false), (.lt, x3, 0, false), (.ge, x3, 1, true), (.ne, 0, 0, false), (.lt, 1, 0, false), (.gt, 1, 3, false), (.eq, 1, 0, false), (.lt, 0, 0, false), (.gt, 0, 0, false), (.eq, 1, 0, false), (.lt, x3, 0, false), (.gt, x3, 0, true)]) rfl (List.forall_mem_cons.mpr ⟨xe_hd rfl, (List.forall_mem_cons.mpr ⟨xe_hd rfl, (List.forall_mem_cons.mpr ⟨xe_hd rfl, (List.forall_mem_cons.mpr ⟨xe_hd rfl, (List.forall_mem_cons.mpr ⟨xe_hd rfl, (List.forall_mem_cons.mpr ⟨xe_hd rfl, (List.forall_mem_cons.mpr ⟨xe_hs (a := x3.toInt) (b2 := 0) rfl (by decide) (by simp only [xe_ci]; first | (simp only [decide_eq_true_eq]; omega) | (simp only [decide_eq_false_iff_not]; omega) | (simp; omega)), (List.forall_mem_cons.mpr ⟨xe_hs (a := x3.toInt) (b2 := 1) rfl (by decide) (by simp only [xe_ci]; first | (simp only [decide_eq_true_eq]; omega) | (simp only [decide_eq_false_iff_not]; omega) | (simp; omega)), (List.forall_mem_cons.mpr ⟨xe_hd rfl, (List.forall_mem_cons.mpr ⟨xe_hd rfl, (List.forall_mem_cons.mpr ⟨xe_hd rfl, (List.forall_mem_cons.mpr ⟨xe_hd rfl, (List.forall_mem_cons.mpr ⟨xe_hd rfl, (List.forall_mem_cons.mpr ⟨xe_hd rfl, (List.forall_mem_cons.mpr ⟨xe_hd rfl, (List.forall_mem_cons.mpr ⟨xe_hs (a := x3.toInt) (b2 := 0) rfl (by decide) (by simp only [xe_ci]; first | (simp only [decide_eq_true_eq]; omega) | (simp only [decide_eq_false_iff_not]; omega) | (simp; omega)), (List.forall_mem_cons.mpr ⟨xe_hs (a := x3.toInt) (b2 := 0) rfl (by decide) (by simp only [xe_ci]; first | (simp only [decide_eq_true_eq]; omega) | (simp only [decide_eq_false_iff_not]; omega) | (simp; omega)), (fun _ h => absurd h List.not_mem_nil)⟩)⟩)⟩)⟩)⟩)⟩)⟩)⟩)⟩)⟩)⟩)⟩)⟩)⟩)⟩)⟩)⟩)
set_option maxRecDepth 100000 in
set_option maxHeartbeats 4000000 in
theorem i_at_10 (x2 x3 : Int32) (h0 : x2.toInt < 0) : xe_P 218 [(1, 2), (2, x2), (3, x3)] := xe_pth (ds := [false, false, false, true, true, false, false, false, true]) (cs := [(.lt, 2, 0, false), (.ge, 2, 4, false), (.eq, 1, 0, false), (.lt, x2, 0, true), (.eq, 0, 0, true), (.lt, 2, 0, false), (.gt, 2, 3, false), (.eq, 1, 0, false), (.lt, x2, 0, true)]) rfl (List.forall_mem_cons.mpr ⟨xe_hd rfl, (List.forall_mem_cons.mpr ⟨xe_hd rfl, (List.forall_mem_cons.mpr ⟨xe_hd rfl, (List.forall_mem_cons.mpr ⟨xe_hs (a := x2.toInt) (b2 := 0) rfl (by decide) (by simp only [xe_ci]; first | (simp only [decide_eq_true_eq]; omega) | (simp only [decide_eq_false_iff_not]; omega) | (simp; omega)), (List.forall_mem_cons.mpr ⟨xe_hd rfl, (List.forall_mem_cons.mpr ⟨xe_hd rfl, (List.forall_mem_cons.mpr ⟨xe_hd rfl, (List.forall_mem_cons.mpr ⟨xe_hd rfl, (List.forall_mem_cons.mpr ⟨xe_hs (a := x2.toInt) (b2 := 0) rfl (by decide) (by simp only [xe_ci]; first | (simp only [decide_eq_true_eq]; omega) | (simp only [decide_eq_false_iff_not]; omega) | (simp; omega)), (fun _ h => absurd h List.not_mem_nil)⟩)⟩)⟩)⟩)⟩)⟩)⟩)⟩)⟩)
set_option maxRecDepth 100000 in
set_option maxHeartbeats 4000000 in
theorem i_at_11 (x2 x3 : Int32) (h0 : 1 ≤ x2.toInt) : xe_P 218 [(1, 2), (2, x2), (3, x3)] := xe_pth (ds := [false, false, false, false, true, true, false, false, false, false, true]) (cs := [(.lt, 2, 0, false), (.ge, 2, 4, false), (.eq, 1, 0, false), (.lt, x2, 0, false), (.ge, x2, 1, true), (.eq, 0, 0, true), (.lt, 2, 0, false), (.gt, 2, 3, false), (.eq, 1, 0, false), (.lt, x2, 0, false), (.gt, x2, 0, true)]) rfl (List.forall_mem_cons.mpr ⟨xe_hd rfl, (List.forall_mem_cons.mpr ⟨xe_hd rfl, (List.forall_mem_cons.mpr ⟨xe_hd rfl, (List.forall_mem_cons.mpr ⟨xe_hs (a := x2.toInt) (b2 := 0) rfl (by decide) (by simp only [xe_ci]; first | (simp only [decide_eq_true_eq]; omega) | (simp only [decide_eq_false_iff_not]; omega) | (simp; omega)), (List.forall_mem_cons.mpr ⟨xe_hs (a := x2.toInt) (b2 := 1) rfl (by decide) (by simp only [xe_ci]; first | (simp only [decide_eq_true_eq]; omega) | (simp only [decide_eq_false_iff_not]; omega) | (simp; omega)), (List.forall_mem_cons.mpr ⟨xe_hd rfl, (List.forall_mem_cons.mpr ⟨xe_hd rfl, (List.forall_mem_cons.mpr ⟨xe_hd rfl, (List.forall_mem_cons.mpr ⟨xe_hd rfl, (List.forall_mem_cons.mpr ⟨xe_hs (a := x2.toInt) (b2 := 0) rfl (by decide) (by simp only [xe_ci]; first | (simp only [decide_eq_true_eq]; omega) | (simp only [decide_eq_false_iff_not]; omega) | (simp; omega)), (List.forall_mem_cons.mpr ⟨xe_hs (a := x2.toInt) (b2 := 0) rfl (by decide) (by simp only [xe_ci]; first | (simp only [decide_eq_true_eq]; omega) | (simp only [decide_eq_false_iff_not]; omega) | (simp; omega)), (fun _ h => absurd h List.not_mem_nil)⟩)⟩)⟩)⟩)⟩)⟩)⟩)⟩)⟩)⟩)⟩)
set_option maxRecDepth 100000 in
set_option maxHeartbeats 4000000 in
theorem i_at_12 (x3 : Int32) (h0 : x3.toInt < 0) : xe_P 218 [(1, 2), (2, 0), (3, x3)] := xe_pth (ds := [false, false, false, false, false, false, true, false, false, false, false, false, false, false, true]) (cs := [(.lt, 2, 0, false), (.ge, 2, 4, false), (.eq, 1, 0, false), (.lt, 0, 0, false), (.ge, 0, 1, false), (.eq, 1, 0, false), (.lt, x3, 0, true), (.ne, 0, 0, false), (.lt, 2, 0, false), (.gt, 2, 3, false), (.eq, 1, 0, false), (.lt, 0, 0, false), (.gt, 0, 0, false), (.eq, 1, 0, false), (.lt, x3, 0, true)]) rfl (List.forall_mem_cons.mpr ⟨xe_hd rfl, (List.forall_mem_cons.mpr ⟨xe_hd rfl, (List.forall_mem_cons.mpr ⟨xe_hd rfl, (List.forall_mem_cons.mpr ⟨xe_hd rfl, (List.forall_mem_cons.mpr ⟨xe_hd rfl, (List.forall_mem_cons.mpr ⟨xe_hd rfl, (List.forall_mem_cons.mpr ⟨xe_hs (a := x3.toInt) (b2 := 0) rfl (by decide) (by simp only [xe_ci]; first | (simp only [decide_eq_true_eq]; omega) | (simp only [decide_eq_false_iff_not]; omega) | (simp; omega)), (List.forall_mem_cons.mpr ⟨xe_hd rfl, (List.forall_mem_cons.mpr ⟨xe_hd rfl, (List.forall_mem_cons.mpr ⟨xe_hd rfl, (List.forall_mem_cons.mpr ⟨xe_hd rfl, (List.forall_mem_cons.mpr ⟨xe_hd rfl, (List.forall_mem_cons.mpr ⟨xe_hd rfl, (List.forall_mem_cons.mpr ⟨xe_hd rfl, (List.forall_mem_cons.mpr ⟨xe_hs (a := x3.toInt) (b2 := 0) rfl (by decide) (by simp only [xe_ci]; first | (simp only [decide_eq_true_eq]; omega) | (simp only [decide_eq_false_iff_not]; omega) | (simp; omega)), (fun _ h => absurd h List.not_mem_nil)⟩)⟩)⟩)⟩)⟩)⟩)⟩)⟩)⟩)⟩)⟩)⟩)⟩)⟩)⟩)
set_option maxRecDepth 100000 in
set_option maxHeartbeats 4000000 in
theorem i_at_13 (x3 : Int32) (h0 : 1 ≤ x3.toInt) : xe_P 218 [(1, 2), (2, 0), (3, x3)] := xe_pth (ds := [false, false, false, false, false, false, false, true, false, false, false, false, false, false, false, false, true]) (cs := [(.lt, 2, 0, false), (.ge, 2, 4, false), (.eq, 1, 0, false), (.lt, 0, 0, false), (.ge, 0, 1, false), (.eq, 1, 0, false), (.lt, x3, 0, false), (.ge, x3, 1, true), (.ne, 0, 0, false), (.lt, 2, 0, false), (.gt, 2, 3, false), (.eq, 1, 0, false), (.lt, 0, 0, false), (.gt, 0, 0, false), (.eq, 1, 0, false), (.lt, x3, 0, false), (.gt, x3, 0, true)]) rfl (List.forall_mem_cons.mpr ⟨xe_hd rfl, (List.forall_mem_cons.mpr ⟨xe_hd rfl, (List.forall_mem_cons.mpr ⟨xe_hd rfl, (List.forall_mem_cons.mpr ⟨xe_hd rfl, (List.forall_mem_cons.mpr ⟨xe_hd rfl, (List.forall_mem_cons.mpr ⟨xe_hd rfl, (List.forall_mem_cons.mpr ⟨xe_hs (a := x3.toInt) (b2 := 0) rfl (by decide) (by simp only [xe_ci]; first | (simp only [decide_eq_true_eq]; omega) | (simp only [decide_eq_false_iff_not]; omega) | (simp; omega)), (List.forall_mem_cons.mpr ⟨xe_hs (a := x3.toInt) (b2 := 1) rfl (by decide) (by simp only [xe_ci]; first | (simp only [decide_eq_true_eq]; omega) | (simp only [decide_eq_false_iff_not]; omega) | (simp; omega)), (List.forall_mem_cons.mpr ⟨xe_hd rfl, (List.forall_mem_cons.mpr ⟨xe_hd rfl, (List.forall_mem_cons.mpr ⟨xe_hd rfl, (List.forall_mem_cons.mpr ⟨xe_hd rfl, (List.forall_mem_cons.mpr ⟨xe_hd rfl, (List.forall_mem_cons.mpr ⟨xe_hd rfl, (List.forall_mem_cons.mpr ⟨xe_hd rfl, (List.forall_mem_cons.mpr ⟨xe_hs (a := x3.toInt) (b2 := 0) rfl (by decide) (by simp only [xe_ci]; first | (simp only [decide_eq_true_eq]; omega) | (simp only [decide_eq_false_iff_not]; omega) | (simp; omega)), (List.forall_mem_cons.mpr ⟨xe_hs (a := x3.toInt) (b2 := 0) rfl (by decide) (by simp only [xe_ci]; first | (simp only [decide_eq_true_eq]; omega) | (simp only [decide_eq_false_iff_not]; omega) | (simp; omega)), (fun _ h => absurd h List.not_mem_nil)⟩)⟩)⟩)⟩)⟩)⟩)⟩)⟩)⟩)⟩)⟩)⟩)⟩)⟩)⟩)⟩)⟩)
set_option maxRecDepth 100000 in
set_option maxHeartbeats 4000000 in
theorem i_at_14 (x2 x3 : Int32) (h0 : x2.toInt < 0) : xe_P 218 [(1, 3), (2, x2), (3, x3)] := xe_pth (ds := [false, false, false, true, true, false, false, false, true]) (cs := [(.lt, 3, 0, false), (.ge, 3, 4, false), (.eq, 1, 0, false), (.lt, x2, 0, true), (.eq, 0, 0, true), (.lt, 3, 0, false), (.gt, 3, 3, false), (.eq, 1, 0, false), (.lt, x2, 0, true)]) rfl (List.forall_mem_cons.mpr ⟨xe_hd rfl, (List.forall_mem_cons.mpr ⟨xe_hd rfl, (List.forall_mem_cons.mpr ⟨xe_hd rfl, (List.forall_mem_cons.mpr ⟨xe_hs (a := x2.toInt) (b2 := 0) rfl (by decide) (by simp only [xe_ci]; first | (simp only [decide_eq_true_eq]; omega) | (simp only [decide_eq_false_iff_not]; omega) | (simp; omega)), (List.forall_mem_cons.mpr ⟨xe_hd rfl, (List.forall_mem_cons.mpr ⟨xe_hd rfl, (List.forall_mem_cons.mpr ⟨xe_hd rfl, (List.forall_mem_cons.mpr ⟨xe_hd rfl, (List.forall_mem_cons.mpr ⟨xe_hs (a := x2.toInt) (b2 := 0) rfl (by decide) (by simp only [xe_ci]; first | (simp only [decide_eq_true_eq]; omega) | (simp only [decide_eq_false_iff_not]; omega) | (simp; omega)), (fun _ h => absurd h List.not_mem_nil)⟩)⟩)⟩)⟩)⟩)⟩)⟩)⟩)⟩)
set_option maxRecDepth 100000 in
set_option maxHeartbeats 4000000 in
theorem i_at_15 (x2 x3 : Int32) (h0 : 1 ≤ x2.toInt) : xe_P 218 [(1, 3), (2, x2), (3, x3)] := xe_pth (ds := [false, false, false, false, true, true, false, false, false, false, true]) (cs := [(.lt, 3, 0, false), (.ge, 3, 4, false), (.eq, 1, 0, false), (.lt, x2, 0, false), (.ge, x2, 1, true), (.eq, 0, 0, true), (.lt, 3, 0, false), (.gt, 3, 3, false), (.eq, 1, 0, false), (.lt, x2, 0, false), (.gt, x2, 0, true)]) rfl (List.forall_mem_cons.mpr ⟨xe_hd rfl, (List.forall_mem_cons.mpr ⟨xe_hd rfl, (List.forall_mem_cons.mpr ⟨xe_hd rfl, (List.forall_mem_cons.mpr ⟨xe_hs (a := x2.toInt) (b2 := 0) rfl (by decide) (by simp only [xe_ci]; first | (simp only [decide_eq_true_eq]; omega) | (simp only [decide_eq_false_iff_not]; omega) | (simp; omega)), (List.forall_mem_cons.mpr ⟨xe_hs (a := x2.toInt) (b2 := 1) rfl (by decide) (by simp only [xe_ci]; first | (simp only [decide_eq_true_eq]; omega) | (simp only [decide_eq_false_iff_not]; omega) | (simp; omega)), (List.forall_mem_cons.mpr ⟨xe_hd rfl, (List.forall_mem_cons.mpr ⟨xe_hd rfl, (List.forall_mem_cons.mpr ⟨xe_hd rfl, (List.forall_mem_cons.mpr ⟨xe_hd rfl, (List.forall_mem_cons.mpr ⟨xe_hs (a := x2.toInt) (b2 := 0) rfl (by decide) (by simp only [xe_ci]; first | (simp only [decide_eq_true_eq]; omega) | (simp only [decide_eq_false_iff_not]; omega) | (simp; omega)), (List.forall_mem_cons.mpr ⟨xe_hs (a := x2.toInt) (b2 := 0) rfl (by decide) (by simp only [xe_ci]; first | (simp only [decide_eq_true_eq]; omega) | (simp only [decide_eq_false_iff_not]; omega) | (simp; omega)), (fun _ h => absurd h List.not_mem_nil)⟩)⟩)⟩)⟩)⟩)⟩)⟩)⟩)⟩)⟩)⟩)
set_option maxRecDepth 100000 in
set_option maxHeartbeats 4000000 in
theorem i_at_16 (x3 : Int32) (h0 : x3.toInt < 0) : xe_P 218 [(1, 3), (2, 0), (3, x3)] := xe_pth (ds := [false, false, false, false, false, false, true, false, false, false, false, false, false, false, true]) (cs := [(.lt, 3, 0, false), (.ge, 3, 4, false), (.eq, 1, 0, false), (.lt, 0, 0, false), (.ge, 0, 1, false), (.eq, 1, 0, false), (.lt, x3, 0, true), (.ne, 0, 0, false), (.lt, 3, 0, false), (.gt, 3, 3, false), (.eq, 1, 0, false), (.lt, 0, 0, false), (.gt, 0, 0, false), (.eq, 1, 0, false), (.lt, x3, 0, true)]) rfl (List.forall_mem_cons.mpr ⟨xe_hd rfl, (List.forall_mem_cons.mpr ⟨xe_hd rfl, (List.forall_mem_cons.mpr ⟨xe_hd rfl, (List.forall_mem_cons.mpr ⟨xe_hd rfl, (List.forall_mem_cons.mpr ⟨xe_hd rfl, (List.forall_mem_cons.mpr ⟨xe_hd rfl, (List.forall_mem_cons.mpr ⟨xe_hs (a := x3.toInt) (b2 := 0) rfl (by decide) (by simp only [xe_ci]; first | (simp only [decide_eq_true_eq]; omega) | (simp only [decide_eq_false_iff_not]; omega) | (simp; omega)), (List.forall_mem_cons.mpr ⟨xe_hd rfl, (List.forall_mem_cons.mpr ⟨xe_hd rfl, (List.forall_mem_cons.mpr ⟨xe_hd rfl, (List.forall_mem_cons.mpr ⟨xe_hd rfl, (List.forall_mem_cons.mpr ⟨xe_hd rfl, (List.forall_mem_cons.mpr ⟨xe_hd rfl, (List.forall_mem_cons.mpr ⟨xe_hd rfl, (List.forall_mem_cons.mpr ⟨xe_hs (a := x3.toInt) (b2 := 0) rfl (by decide) (by simp only [xe_ci]; first | (simp only [decide_eq_true_eq]; omega) | (simp only [decide_eq_false_iff_not]; omega) | (simp; omega)), (fun _ h => absurd h List.not_mem_nil)⟩)⟩)⟩)⟩)⟩)⟩)⟩)⟩)⟩)⟩)⟩)⟩)⟩)⟩)⟩)
set_option maxRecDepth 100000 in
set_option maxHeartbeats 4000000 in
theorem i_at_17 (x3 : Int32) (h0 : 1 ≤ x3.toInt) : xe_P 218 [(1, 3), (2, 0), (3, x3)] := xe_pth (ds := [false, false, false, false, false, false, false, true, false, false, false, false, false, false, false, false, true]) (cs := [(.lt, 3, 0, false), (.ge, 3, 4, false), (.eq, 1, 0, false), (.lt, 0, 0, false), (.ge, 0, 1, false), (.eq, 1, 0, false), (.lt, x3, 0, false), (.ge, x3, 1, true), (.ne, 0, 0, false), (.lt, 3, 0, false), (.gt, 3, 3, false), (.eq, 1, 0, false), (.lt, 0, 0, false), (.gt, 0, 0, false), (.eq, 1, 0, false), (.lt, x3, 0, false), (.gt, x3, 0, true)]) rfl (List.forall_mem_cons.mpr ⟨xe_hd rfl, (List.forall_mem_cons.mpr ⟨xe_hd rfl, (List.forall_mem_cons.mpr ⟨xe_hd rfl, (List.forall_mem_cons.mpr ⟨xe_hd rfl, (List.forall_mem_cons.mpr ⟨xe_hd rfl, (List.forall_mem_cons.mpr ⟨xe_hd rfl, (List.forall_mem_cons.mpr ⟨xe_hs (a := x3.toInt) (b2 := 0) rfl (by decide) (by simp only [xe_ci]; first | (simp only [decide_eq_true_eq]; omega) | (simp only [decide_eq_false_iff_not]; omega) | (simp; omega)), (List.forall_mem_cons.mpr ⟨xe_hs (a := x3.toInt) (b2 := 1) rfl (by decide) (by simp only [xe_ci]; first | (simp only [decide_eq_true_eq]; omega) | (simp only [decide_eq_false_iff_not]; omega) | (simp; omega)), (List.forall_mem_cons.mpr ⟨xe_hd rfl, (List.forall_mem_cons.mpr ⟨xe_hd rfl, (List.forall_mem_cons.mpr ⟨xe_hd rfl, (List.forall_mem_cons.mpr ⟨xe_hd rfl, (List.forall_mem_cons.mpr ⟨xe_hd rfl, (List.forall_mem_cons.mpr ⟨xe_hd rfl, (List.forall_mem_cons.mpr ⟨xe_hd rfl, (List.forall_mem_cons.mpr ⟨xe_hs (a := x3.toInt) (b2 := 0) rfl (by decide) (by simp only [xe_ci]; first | (simp only [decide_eq_true_eq]; omega) | (simp only [decide_eq_false_iff_not]; omega) | (simp; omega)), (List.forall_mem_cons.mpr ⟨xe_hs (a := x3.toInt) (b2 := 0) rfl (by decide) (by simp only [xe_ci]; first | (simp only [decide_eq_true_eq]; omega) | (simp only [decide_eq_false_iff_not]; omega) | (simp; omega)), (fun _ h => absurd h List.not_mem_nil)⟩)⟩)⟩)⟩)⟩)⟩)⟩)⟩)⟩)⟩)⟩)⟩)⟩)⟩)⟩)⟩)⟩)
set_option maxRecDepth 100000 in
set_option maxHeartbeats 4000000 in
theorem i_empty_0 (x1 : Int32) (h0 : x1.toInt < 0) : xe_P 261 [(1, x1)] := xe_pth (ds := [true, false, true]) (cs := [(.lt, x1, 0, true), (.ne, 0, 0, false), (.lt, x1, 0, true)]) rfl (List.forall_mem_cons.mpr ⟨xe_hs (a := x1.toInt) (b2 := 0) rfl (by decide) (by simp only [xe_ci]; first | (simp only [decide_eq_true_eq]; omega) | (simp only [decide_eq_false_iff_not]; omega) | (simp; omega)), (List.forall_mem_cons.mpr ⟨xe_hd rfl, (List.forall_mem_cons.mpr ⟨xe_hs (a := x1.toInt) (b2 := 0) rfl (by decide) (by simp only [xe_ci]; first | (simp only [decide_eq_true_eq]; omega) | (simp only [decide_eq_false_iff_not]; omega) | (simp; omega)), (fun _ h => absurd h List.not_mem_nil)⟩)⟩)⟩)
set_option maxRecDepth 100000 in
set_option maxHeartbeats 4000000 in
theorem i_empty_1 (x1 : Int32) (h0 : 4 ≤ x1.toInt) : xe_P 261 [(1, x1)] := xe_pth (ds := [false, true, false, false, true]) (cs := [(.lt, x1, 0, false), (.ge, x1, 4, true), (.ne, 0, 0, false), (.lt, x1, 0, false), (.gt, x1, 3, true)]) rfl (List.forall_mem_cons.mpr ⟨xe_hs (a := x1.toInt) (b2 := 0) rfl (by decide) (by simp only [xe_ci]; first | (simp only [decide_eq_true_eq]; omega) | (simp only [decide_eq_false_iff_not]; omega) | (simp; omega)), (List.forall_mem_cons.mpr ⟨xe_hs (a := x1.toInt) (b2 := 4) rfl (by decide) (by simp only [xe_ci]; first | (simp only [decide_eq_true_eq]; omega) | (simp only [decide_eq_false_iff_not]; omega) | (simp; omega)), (List.forall_mem_cons.mpr ⟨xe_hd rfl, (List.forall_mem_cons.mpr ⟨xe_hs (a := x1.toInt) (b2 := 0) rfl (by decide) (by simp only [xe_ci]; first | (simp only [decide_eq_true_eq]; omega) | (simp only [decide_eq_false_iff_not]; omega) | (simp; omega)), (List.forall_mem_cons.mpr ⟨xe_hs (a := x1.toInt) (b2 := 3) rfl (by decide) (by simp only [xe_ci]; first | (simp only [decide_eq_true_eq]; omega) | (simp only [decide_eq_false_iff_not]; omega) | (simp; omega)), (fun _ h => absurd h List.not_mem_nil)⟩)⟩)⟩)⟩)⟩)
set_option maxRecDepth 100000 in
set_option maxHeartbeats 4000000 in
theorem i_ways_0 (x1 x2 : Int32) (h0 : x1.toInt < 0) : xe_P 284 [(1, x1), (2, x2)] := xe_pth (ds := [true, true, true]) (cs := [(.lt, x1, 0, true), (.eq, 0, 0, true), (.lt, x1, 0, true)]) rfl (List.forall_mem_cons.mpr ⟨xe_hs (a := x1.toInt) (b2 := 0) rfl (by decide) (by simp only [xe_ci]; first | (simp only [decide_eq_true_eq]; omega) | (simp only [decide_eq_false_iff_not]; omega) | (simp; omega)), (List.forall_mem_cons.mpr ⟨xe_hd rfl, (List.forall_mem_cons.mpr ⟨xe_hs (a := x1.toInt) (b2 := 0) rfl (by decide) (by simp only [xe_ci]; first | (simp only [decide_eq_true_eq]; omega) | (simp only [decide_eq_false_iff_not]; omega) | (simp; omega)), (fun _ h => absurd h List.not_mem_nil)⟩)⟩)⟩)
set_option maxRecDepth 100000 in
set_option maxHeartbeats 4000000 in
theorem i_ways_1 (x1 x2 : Int32) (h0 : 4 ≤ x1.toInt) : xe_P 284 [(1, x1), (2, x2)] := xe_pth (ds := [false, true, true, false, true]) (cs := [(.lt, x1, 0, false), (.ge, x1, 4, true), (.eq, 0, 0, true), (.lt, x1, 0, false), (.gt, x1, 3, true)]) rfl (List.forall_mem_cons.mpr ⟨xe_hs (a := x1.toInt) (b2 := 0) rfl (by decide) (by simp only [xe_ci]; first | (simp only [decide_eq_true_eq]; omega) | (simp only [decide_eq_false_iff_not]; omega) | (simp; omega)), (List.forall_mem_cons.mpr ⟨xe_hs (a := x1.toInt) (b2 := 4) rfl (by decide) (by simp only [xe_ci]; first | (simp only [decide_eq_true_eq]; omega) | (simp only [decide_eq_false_iff_not]; omega) | (simp; omega)), (List.forall_mem_cons.mpr ⟨xe_hd rfl, (List.forall_mem_cons.mpr ⟨xe_hs (a := x1.toInt) (b2 := 0) rfl (by decide) (by simp only [xe_ci]; first | (simp only [decide_eq_true_eq]; omega) | (simp only [decide_eq_false_iff_not]; omega) | (simp; omega)), (List.forall_mem_cons.mpr ⟨xe_hs (a := x1.toInt) (b2 := 3) rfl (by decide) (by simp only [xe_ci]; first | (simp only [decide_eq_true_eq]; omega) | (simp only [decide_eq_false_iff_not]; omega) | (simp; omega)), (fun _ h => absurd h List.not_mem_nil)⟩)⟩)⟩)⟩)⟩)
set_option maxRecDepth 100000 in
set_option maxHeartbeats 4000000 in
theorem i_ways_2 (x1 x2 : Int32) (h0 : 0 ≤ x1.toInt) (h1 : x1.toInt < 4) (h2 : x2.toInt < 1) : xe_P 284 [(1, x1), (2, x2)] := xe_pth (ds := [false, false, false, true, false, false, false, true]) (cs := [(.lt, x1, 0, false), (.ge, x1, 4, false), (.eq, 1, 0, false), (.lt, x2, 1, true), (.lt, x1, 0, false), (.gt, x1, 3, false), (.eq, 1, 0, false), (.lt, x2, 1, true)]) rfl (List.forall_mem_cons.mpr ⟨xe_hs (a := x1.toInt) (b2 := 0) rfl (by decide) (by simp only [xe_ci]; first | (simp only [decide_eq_true_eq]; omega) | (simp only [decide_eq_false_iff_not]; omega) | (simp; omega)), (List.forall_mem_cons.mpr ⟨xe_hs (a := x1.toInt) (b2 := 4) rfl (by decide) (by simp only [xe_ci]; first | (simp only [decide_eq_true_eq]; omega) | (simp only [decide_eq_false_iff_not]; omega) | (simp; omega)), (List.forall_mem_cons.mpr ⟨xe_hd rfl, (List.forall_mem_cons.mpr ⟨xe_hs (a := x2.toInt) (b2 := 1) rfl (by decide) (by simp only [xe_ci]; first | (simp only [decide_eq_true_eq]; omega) | (simp only [decide_eq_false_iff_not]; omega) | (simp; omega)), (List.forall_mem_cons.mpr ⟨xe_hs (a := x1.toInt) (b2 := 0) rfl (by decide) (by simp only [xe_ci]; first | (simp only [decide_eq_true_eq]; omega) | (simp only [decide_eq_false_iff_not]; omega) | (simp; omega)), (List.forall_mem_cons.mpr ⟨xe_hs (a := x1.toInt) (b2 := 3) rfl (by decide) (by simp only [xe_ci]; first | (simp only [decide_eq_true_eq]; omega) | (simp only [decide_eq_false_iff_not]; omega) | (simp; omega)), (List.forall_mem_cons.mpr ⟨xe_hd rfl, (List.forall_mem_cons.mpr ⟨xe_hs (a := x2.toInt) (b2 := 1) rfl (by decide) (by simp only [xe_ci]; first | (simp only [decide_eq_true_eq]; omega) | (simp only [decide_eq_false_iff_not]; omega) | (simp; omega)), (fun _ h => absurd h List.not_mem_nil)⟩)⟩)⟩)⟩)⟩)⟩)⟩)⟩)
set_option maxRecDepth 100000 in
set_option maxHeartbeats 4000000 in
theorem i_ways_3 (x1 x2 : Int32) (h0 : 0 ≤ x1.toInt) (h1 : x1.toInt < 4) (h2 : 10001 ≤ x2.toInt) : xe_P 284 [(1, x1), (2, x2)] := xe_pth (ds := [false, false, false, false, false, false, false, false, false, true]) (cs := [(.lt, x1, 0, false), (.ge, x1, 4, false), (.eq, 1, 0, false), (.lt, x2, 1, false), (.le, x2, 10000, false), (.lt, x1, 0, false), (.gt, x1, 3, false), (.eq, 1, 0, false), (.lt, x2, 1, false), (.gt, x2, 10000, true)]) rfl (List.forall_mem_cons.mpr ⟨xe_hs (a := x1.toInt) (b2 := 0) rfl (by decide) (by simp only [xe_ci]; first | (simp only [decide_eq_true_eq]; omega) | (simp only [decide_eq_false_iff_not]; omega) | (simp; omega)), (List.forall_mem_cons.mpr ⟨xe_hs (a := x1.toInt) (b2 := 4) rfl (by decide) (by simp only [xe_ci]; first | (simp only [decide_eq_true_eq]; omega) | (simp only [decide_eq_false_iff_not]; omega) | (simp; omega)), (List.forall_mem_cons.mpr ⟨xe_hd rfl, (List.forall_mem_cons.mpr ⟨xe_hs (a := x2.toInt) (b2 := 1) rfl (by decide) (by simp only [xe_ci]; first | (simp only [decide_eq_true_eq]; omega) | (simp only [decide_eq_false_iff_not]; omega) | (simp; omega)), (List.forall_mem_cons.mpr ⟨xe_hs (a := x2.toInt) (b2 := 10000) rfl (by decide) (by simp only [xe_ci]; first | (simp only [decide_eq_true_eq]; omega) | (simp only [decide_eq_false_iff_not]; omega) | (simp; omega)), (List.forall_mem_cons.mpr ⟨xe_hs (a := x1.toInt) (b2 := 0) rfl (by decide) (by simp only [xe_ci]; first | (simp only [decide_eq_true_eq]; omega) | (simp only [decide_eq_false_iff_not]; omega) | (simp; omega)), (List.forall_mem_cons.mpr ⟨xe_hs (a := x1.toInt) (b2 := 3) rfl (by decide) (by simp only [xe_ci]; first | (simp only [decide_eq_true_eq]; omega) | (simp only [decide_eq_false_iff_not]; omega) | (simp; omega)), (List.forall_mem_cons.mpr ⟨xe_hd rfl, (List.forall_mem_cons.mpr ⟨xe_hs (a := x2.toInt) (b2 := 1) rfl (by decide) (by simp only [xe_ci]; first | (simp only [decide_eq_true_eq]; omega) | (simp only [decide_eq_false_iff_not]; omega) | (simp; omega)), (List.forall_mem_cons.mpr ⟨xe_hs (a := x2.toInt) (b2 := 10000) rfl (by decide) (by simp only [xe_ci]; first | (simp only [decide_eq_true_eq]; omega) | (simp only [decide_eq_false_iff_not]; omega) | (simp; omega)), (fun _ h => absurd h List.not_mem_nil)⟩)⟩)⟩)⟩)⟩)⟩)⟩)⟩)⟩)⟩)
set_option maxRecDepth 100000 in
set_option maxHeartbeats 4000000 in
theorem i_end_0 (x1 x2 : Int32) (h0 : x1.toInt < 0) : xe_P 317 [(1, x1), (2, x2)] := xe_pth (ds := [true, true, true]) (cs := [(.lt, x1, 0, true), (.eq, 0, 0, true), (.lt, x1, 0, true)]) rfl (List.forall_mem_cons.mpr ⟨xe_hs (a := x1.toInt) (b2 := 0) rfl (by decide) (by simp only [xe_ci]; first | (simp only [decide_eq_true_eq]; omega) | (simp only [decide_eq_false_iff_not]; omega) | (simp; omega)), (List.forall_mem_cons.mpr ⟨xe_hd rfl, (List.forall_mem_cons.mpr ⟨xe_hs (a := x1.toInt) (b2 := 0) rfl (by decide) (by simp only [xe_ci]; first | (simp only [decide_eq_true_eq]; omega) | (simp only [decide_eq_false_iff_not]; omega) | (simp; omega)), (fun _ h => absurd h List.not_mem_nil)⟩)⟩)⟩)
set_option maxRecDepth 100000 in
set_option maxHeartbeats 4000000 in
theorem i_end_1 (x1 x2 : Int32) (h0 : 4 ≤ x1.toInt) : xe_P 317 [(1, x1), (2, x2)] := xe_pth (ds := [false, true, true, false, true]) (cs := [(.lt, x1, 0, false), (.ge, x1, 4, true), (.eq, 0, 0, true), (.lt, x1, 0, false), (.gt, x1, 3, true)]) rfl (List.forall_mem_cons.mpr ⟨xe_hs (a := x1.toInt) (b2 := 0) rfl (by decide) (by simp only [xe_ci]; first | (simp only [decide_eq_true_eq]; omega) | (simp only [decide_eq_false_iff_not]; omega) | (simp; omega)), (List.forall_mem_cons.mpr ⟨xe_hs (a := x1.toInt) (b2 := 4) rfl (by decide) (by simp only [xe_ci]; first | (simp only [decide_eq_true_eq]; omega) | (simp only [decide_eq_false_iff_not]; omega) | (simp; omega)), (List.forall_mem_cons.mpr ⟨xe_hd rfl, (List.forall_mem_cons.mpr ⟨xe_hs (a := x1.toInt) (b2 := 0) rfl (by decide) (by simp only [xe_ci]; first | (simp only [decide_eq_true_eq]; omega) | (simp only [decide_eq_false_iff_not]; omega) | (simp; omega)), (List.forall_mem_cons.mpr ⟨xe_hs (a := x1.toInt) (b2 := 3) rfl (by decide) (by simp only [xe_ci]; first | (simp only [decide_eq_true_eq]; omega) | (simp only [decide_eq_false_iff_not]; omega) | (simp; omega)), (fun _ h => absurd h List.not_mem_nil)⟩)⟩)⟩)⟩)⟩)
set_option maxRecDepth 100000 in
set_option maxHeartbeats 4000000 in
theorem i_end_2 (x1 x2 : Int32) (h0 : 0 ≤ x1.toInt) (h1 : x1.toInt < 4) (h2 : x2.toInt < 0) : xe_P 317 [(1, x1), (2, x2)] := xe_pth (ds := [false, false, false, true, false, false, false, false, true]) (cs := [(.lt, x1, 0, false), (.ge, x1, 4, false), (.eq, 1, 0, false), (.lt, x2, 0, true), (.ne, 0, 0, false), (.lt, x1, 0, false), (.gt, x1, 3, false), (.eq, 1, 0, false), (.lt, x2, 0, true)]) rfl (List.forall_mem_cons.mpr ⟨xe_hs (a := x1.toInt) (b2 := 0) rfl (by decide) (by simp only [xe_ci]; first | (simp only [decide_eq_true_eq]; omega) | (simp only [decide_eq_false_iff_not]; omega) | (simp; omega)), (List.forall_mem_cons.mpr ⟨xe_hs (a := x1.toInt) (b2 := 4) rfl (by decide) (by simp only [xe_ci]; first | (simp only [decide_eq_true_eq]; omega) | (simp only [decide_eq_false_iff_not]; omega) | (simp; omega)), (List.forall_mem_cons.mpr ⟨xe_hd rfl, (List.forall_mem_cons.mpr ⟨xe_hs (a := x2.toInt) (b2 := 0) rfl (by decide) (by simp only [xe_ci]; first | (simp only [decide_eq_true_eq]; omega) | (simp only [decide_eq_false_iff_not]; omega) | (simp; omega)), (List.forall_mem_cons.mpr ⟨xe_hd rfl, (List.forall_mem_cons.mpr ⟨xe_hs (a := x1.toInt) (b2 := 0) rfl (by decide) (by simp only [xe_ci]; first | (simp only [decide_eq_true_eq]; omega) | (simp only [decide_eq_false_iff_not]; omega) | (simp; omega)), (List.forall_mem_cons.mpr ⟨xe_hs (a := x1.toInt) (b2 := 3) rfl (by decide) (by simp only [xe_ci]; first | (simp only [decide_eq_true_eq]; omega) | (simp only [decide_eq_false_iff_not]; omega) | (simp; omega)), (List.forall_mem_cons.mpr ⟨xe_hd rfl, (List.forall_mem_cons.mpr ⟨xe_hs (a := x2.toInt) (b2 := 0) rfl (by decide) (by simp only [xe_ci]; first | (simp only [decide_eq_true_eq]; omega) | (simp only [decide_eq_false_iff_not]; omega) | (simp; omega)), (fun _ h => absurd h List.not_mem_nil)⟩)⟩)⟩)⟩)⟩)⟩)⟩)⟩)⟩)
set_option maxRecDepth 100000 in
set_option maxHeartbeats 4000000 in
theorem i_end_3 (x1 x2 : Int32) (h0 : 0 ≤ x1.toInt) (h1 : x1.toInt < 4) (h2 : 4 ≤ x2.toInt) : xe_P 317 [(1, x1), (2, x2)] := xe_pth (ds := [false, false, false, false, true, false, false, false, false, false, true]) (cs := [(.lt, x1, 0, false), (.ge, x1, 4, false), (.eq, 1, 0, false), (.lt, x2, 0, false), (.ge, x2, 4, true), (.ne, 0, 0, false), (.lt, x1, 0, false), (.gt, x1, 3, false), (.eq, 1, 0, false), (.lt, x2, 0, false), (.gt, x2, 3, true)]) rfl (List.forall_mem_cons.mpr ⟨xe_hs (a := x1.toInt) (b2 := 0) rfl (by decide) (by simp only [xe_ci]; first | (simp only [decide_eq_true_eq]; omega) | (simp only [decide_eq_false_iff_not]; omega) | (simp; omega)), (List.forall_mem_cons.mpr ⟨xe_hs (a := x1.toInt) (b2 := 4) rfl (by decide) (by simp only [xe_ci]; first | (simp only [decide_eq_true_eq]; omega) | (simp only [decide_eq_false_iff_not]; omega) | (simp; omega)), (List.forall_mem_cons.mpr ⟨xe_hd rfl, (List.forall_mem_cons.mpr ⟨xe_hs (a := x2.toInt) (b2 := 0) rfl (by decide) (by simp only [xe_ci]; first | (simp only [decide_eq_true_eq]; omega) | (simp only [decide_eq_false_iff_not]; omega) | (simp; omega)), (List.forall_mem_cons.mpr ⟨xe_hs (a := x2.toInt) (b2 := 4) rfl (by decide) (by simp only [xe_ci]; first | (simp only [decide_eq_true_eq]; omega) | (simp only [decide_eq_false_iff_not]; omega) | (simp; omega)), (List.forall_mem_cons.mpr ⟨xe_hd rfl, (List.forall_mem_cons.mpr ⟨xe_hs (a := x1.toInt) (b2 := 0) rfl (by decide) (by simp only [xe_ci]; first | (simp only [decide_eq_true_eq]; omega) | (simp only [decide_eq_false_iff_not]; omega) | (simp; omega)), (List.forall_mem_cons.mpr ⟨xe_hs (a := x1.toInt) (b2 := 3) rfl (by decide) (by simp only [xe_ci]; first | (simp only [decide_eq_true_eq]; omega) | (simp only [decide_eq_false_iff_not]; omega) | (simp; omega)), (List.forall_mem_cons.mpr ⟨xe_hd rfl, (List.forall_mem_cons.mpr ⟨xe_hs (a := x2.toInt) (b2 := 0) rfl (by decide) (by simp only [xe_ci]; first | (simp only [decide_eq_true_eq]; omega) | (simp only [decide_eq_false_iff_not]; omega) | (simp; omega)), (List.forall_mem_cons.mpr ⟨xe_hs (a := x2.toInt) (b2 := 3) rfl (by decide) (by simp only [xe_ci]; first | (simp only [decide_eq_true_eq]; omega) | (simp only [decide_eq_false_iff_not]; omega) | (simp; omega)), (fun _ h => absurd h List.not_mem_nil)⟩)⟩)⟩)⟩)⟩)⟩)⟩)⟩)⟩)⟩)⟩)
set_option maxRecDepth 100000 in
set_option maxHeartbeats 4000000 in
theorem i_divide_0 (x1 x2 x3 x4 : Int32) (h0 : x1.toInt < 0) : xe_P 350 [(1, x1), (2, x2), (3, x3), (4, x4)] := xe_pth (ds := [true, true, true]) (cs := [(.lt, x1, 0, true), (.eq, 0, 0, true), (.lt, x1, 0, true)]) rfl (List.forall_mem_cons.mpr ⟨xe_hs (a := x1.toInt) (b2 := 0) rfl (by decide) (by simp only [xe_ci]; first | (simp only [decide_eq_true_eq]; omega) | (simp only [decide_eq_false_iff_not]; omega) | (simp; omega)), (List.forall_mem_cons.mpr ⟨xe_hd rfl, (List.forall_mem_cons.mpr ⟨xe_hs (a := x1.toInt) (b2 := 0) rfl (by decide) (by simp only [xe_ci]; first | (simp only [decide_eq_true_eq]; omega) | (simp only [decide_eq_false_iff_not]; omega) | (simp; omega)), (fun _ h => absurd h List.not_mem_nil)⟩)⟩)⟩)
set_option maxRecDepth 100000 in
set_option maxHeartbeats 4000000 in
theorem i_divide_1 (x1 x2 x3 x4 : Int32) (h0 : 4 ≤ x1.toInt) : xe_P 350 [(1, x1), (2, x2), (3, x3), (4, x4)] := xe_pth (ds := [false, true, true, false, true]) (cs := [(.lt, x1, 0, false), (.ge, x1, 4, true), (.eq, 0, 0, true), (.lt, x1, 0, false), (.gt, x1, 3, true)]) rfl (List.forall_mem_cons.mpr ⟨xe_hs (a := x1.toInt) (b2 := 0) rfl (by decide) (by simp only [xe_ci]; first | (simp only [decide_eq_true_eq]; omega) | (simp only [decide_eq_false_iff_not]; omega) | (simp; omega)), (List.forall_mem_cons.mpr ⟨xe_hs (a := x1.toInt) (b2 := 4) rfl (by decide) (by simp only [xe_ci]; first | (simp only [decide_eq_true_eq]; omega) | (simp only [decide_eq_false_iff_not]; omega) | (simp; omega)), (List.forall_mem_cons.mpr ⟨xe_hd rfl, (List.forall_mem_cons.mpr ⟨xe_hs (a := x1.toInt) (b2 := 0) rfl (by decide) (by simp only [xe_ci]; first | (simp only [decide_eq_true_eq]; omega) | (simp only [decide_eq_false_iff_not]; omega) | (simp; omega)), (List.forall_mem_cons.mpr ⟨xe_hs (a := x1.toInt) (b2 := 3) rfl (by decide) (by simp only [xe_ci]; first | (simp only [decide_eq_true_eq]; omega) | (simp only [decide_eq_false_iff_not]; omega) | (simp; omega)), (fun _ h => absurd h List.not_mem_nil)⟩)⟩)⟩)⟩)⟩)
set_option maxRecDepth 100000 in
set_option maxHeartbeats 4000000 in
theorem i_divide_2 (x1 x2 x3 x4 : Int32) (h0 : 0 ≤ x1.toInt) (h1 : x1.toInt < 4) (h2 : x2.toInt < 0) : xe_P 350 [(1, x1), (2, x2), (3, x3), (4, x4)] := xe_pth (ds := [false, false, false, true, true, false, false, false, true]) (cs := [(.lt, x1, 0, false), (.ge, x1, 4, false), (.eq, 1, 0, false), (.lt, x2, 0, true), (.eq, 0, 0, true), (.lt, x1, 0, false), (.gt, x1, 3, false), (.eq, 1, 0, false), (.lt, x2, 0, true)]) rfl (List.forall_mem_cons.mpr ⟨xe_hs (a := x1.toInt) (b2 := 0) rfl (by decide) (by simp only [xe_ci]; first | (simp only [decide_eq_true_eq]; omega) | (simp only [decide_eq_false_iff_not]; omega) | (simp; omega)), (List.forall_mem_cons.mpr ⟨xe_hs (a := x1.toInt) (b2 := 4) rfl (by decide) (by simp only [xe_ci]; first | (simp only [decide_eq_true_eq]; omega) | (simp only [decide_eq_false_iff_not]; omega) | (simp; omega)), (List.forall_mem_cons.mpr ⟨xe_hd rfl, (List.forall_mem_cons.mpr ⟨xe_hs (a := x2.toInt) (b2 := 0) rfl (by decide) (by simp only [xe_ci]; first | (simp only [decide_eq_true_eq]; omega) | (simp only [decide_eq_false_iff_not]; omega) | (simp; omega)), (List.forall_mem_cons.mpr ⟨xe_hd rfl, (List.forall_mem_cons.mpr ⟨xe_hs (a := x1.toInt) (b2 := 0) rfl (by decide) (by simp only [xe_ci]; first | (simp only [decide_eq_true_eq]; omega) | (simp only [decide_eq_false_iff_not]; omega) | (simp; omega)), (List.forall_mem_cons.mpr ⟨xe_hs (a := x1.toInt) (b2 := 3) rfl (by decide) (by simp only [xe_ci]; first | (simp only [decide_eq_true_eq]; omega) | (simp only [decide_eq_false_iff_not]; omega) | (simp; omega)), (List.forall_mem_cons.mpr ⟨xe_hd rfl, (List.forall_mem_cons.mpr ⟨xe_hs (a := x2.toInt) (b2 := 0) rfl (by decide) (by simp only [xe_ci]; first | (simp only [decide_eq_true_eq]; omega) | (simp only [decide_eq_false_iff_not]; omega) | (simp; omega)), (fun _ h => absurd h List.not_mem_nil)⟩)⟩)⟩)⟩)⟩)⟩)⟩)⟩)⟩)
set_option maxRecDepth 100000 in
set_option maxHeartbeats 4000000 in
theorem i_divide_3 (x1 x2 x3 x4 : Int32) (h0 : 0 ≤ x1.toInt) (h1 : x1.toInt < 4) (h2 : 2 ≤ x2.toInt) : xe_P 350 [(1, x1), (2, x2), (3, x3), (4, x4)] := xe_pth (ds := [false, false, false, false, true, true, false, false, false, false, true]) (cs := [(.lt, x1, 0, false), (.ge, x1, 4, false), (.eq, 1, 0, false), (.lt, x2, 0, false), (.ge, x2, 2, true), (.eq, 0, 0, true), (.lt, x1, 0, false), (.gt, x1, 3, false), (.eq, 1, 0, false), (.lt, x2, 0, false), (.gt, x2, 1, true)]) rfl (List.forall_mem_cons.mpr ⟨xe_hs (a := x1.toInt) (b2 := 0) rfl (by decide) (by simp only [xe_ci]; first | (simp only [decide_eq_true_eq]; omega) | (simp only [decide_eq_false_iff_not]; omega) | (simp; omega)), (List.forall_mem_cons.mpr ⟨xe_hs (a := x1.toInt) (b2 := 4) rfl (by decide) (by simp only [xe_ci]; first | (simp only [decide_eq_true_eq]; omega) | (simp only [decide_eq_false_iff_not]; omega) | (simp; omega)), (List.forall_mem_cons.mpr ⟨xe_hd rfl, (List.forall_mem_cons.mpr ⟨xe_hs (a := x2.toInt) (b2 := 0) rfl (by decide) (by simp only [xe_ci]; first | (simp only [decide_eq_true_eq]; omega) | (simp only [decide_eq_false_iff_not]; omega) | (simp; omega)), (List.forall_mem_cons.mpr ⟨xe_hs (a := x2.toInt) (b2 := 2) rfl (by decide) (by simp only [xe_ci]; first | (simp only [decide_eq_true_eq]; omega) | (simp only [decide_eq_false_iff_not]; omega) | (simp; omega)), (List.forall_mem_cons.mpr ⟨xe_hd rfl, (List.forall_mem_cons.mpr ⟨xe_hs (a := x1.toInt) (b2 := 0) rfl (by decide) (by simp only [xe_ci]; first | (simp only [decide_eq_true_eq]; omega) | (simp only [decide_eq_false_iff_not]; omega) | (simp; omega)), (List.forall_mem_cons.mpr ⟨xe_hs (a := x1.toInt) (b2 := 3) rfl (by decide) (by simp only [xe_ci]; first | (simp only [decide_eq_true_eq]; omega) | (simp only [decide_eq_false_iff_not]; omega) | (simp; omega)), (List.forall_mem_cons.mpr ⟨xe_hd rfl, (List.forall_mem_cons.mpr ⟨xe_hs (a := x2.toInt) (b2 := 0) rfl (by decide) (by simp only [xe_ci]; first | (simp only [decide_eq_true_eq]; omega) | (simp only [decide_eq_false_iff_not]; omega) | (simp; omega)), (List.forall_mem_cons.mpr ⟨xe_hs (a := x2.toInt) (b2 := 1) rfl (by decide) (by simp only [xe_ci]; first | (simp only [decide_eq_true_eq]; omega) | (simp only [decide_eq_false_iff_not]; omega) | (simp; omega)), (fun _ h => absurd h List.not_mem_nil)⟩)⟩)⟩)⟩)⟩)⟩)⟩)⟩)⟩)⟩)⟩)
set_option maxRecDepth 100000 in
set_option maxHeartbeats 4000000 in
theorem i_divide_4 (x2 x3 x4 : Int32) (h0 : 0 ≤ x2.toInt) (h1 : x2.toInt < 2) (h2 : x3.toInt < 0) : xe_P 350 [(1, 0), (2, x2), (3, x3), (4, x4)] := xe_pth (ds := [false, false, false, false, false, false, true, true, false, false, false, false, false, false, true]) (cs := [(.lt, 0, 0, false), (.ge, 0, 4, false), (.eq, 1, 0, false), (.lt, x2, 0, false), (.ge, x2, 2, false), (.eq, 1, 0, false), (.lt, x3, 0, true), (.eq, 0, 0, true), (.lt, 0, 0, false), (.gt, 0, 3, false), (.eq, 1, 0, false), (.lt, x2, 0, false), (.gt, x2, 1, false), (.eq, 1, 0, false), (.lt, x3, 0, true)]) rfl (List.forall_mem_cons.mpr ⟨xe_hd rfl, (List.forall_mem_cons.mpr ⟨xe_hd rfl, (List.forall_mem_cons.mpr ⟨xe_hd rfl, (List.forall_mem_cons.mpr ⟨xe_hs (a := x2.toInt) (b2 := 0) rfl (by decide) (by simp only [xe_ci]; first | (simp only [decide_eq_true_eq]; omega) | (simp only [decide_eq_false_iff_not]; omega) | (simp; omega)), (List.forall_mem_cons.mpr ⟨xe_hs (a := x2.toInt) (b2 := 2) rfl (by decide) (by simp only [xe_ci]; first | (simp only [decide_eq_true_eq]; omega) | (simp only [decide_eq_false_iff_not]; omega) | (simp; omega)), (List.forall_mem_cons.mpr ⟨xe_hd rfl, (List.forall_mem_cons.mpr ⟨xe_hs (a := x3.toInt) (b2 := 0) rfl (by decide) (by simp only [xe_ci]; first | (simp only [decide_eq_true_eq]; omega) | (simp only [decide_eq_false_iff_not]; omega) | (simp; omega)), (List.forall_mem_cons.mpr ⟨xe_hd rfl, (List.forall_mem_cons.mpr ⟨xe_hd rfl, (List.forall_mem_cons.mpr ⟨xe_hd rfl, (List.forall_mem_cons.mpr ⟨xe_hd rfl, (List.forall_mem_cons.mpr ⟨xe_hs (a := x2.toInt) (b2 := 0) rfl (by decide) (by simp only [xe_ci]; first | (simp only [decide_eq_true_eq]; omega) | (simp only [decide_eq_false_iff_not]; omega) | (simp; omega)), (List.forall_mem_cons.mpr ⟨xe_hs (a := x2.toInt) (b2 := 1) rfl (by decide) (by simp only [xe_ci]; first | (simp only [decide_eq_true_eq]; omega) | (simp only [decide_eq_false_iff_not]; omega) | (simp; omega)), (List.forall_mem_cons.mpr ⟨xe_hd rfl, (List.forall_mem_cons.mpr ⟨xe_hs (a := x3.toInt) (b2 := 0) rfl (by decide) (by simp only [xe_ci]; first | (simp only [decide_eq_true_eq]; omega) | (simp only [decide_eq_false_iff_not]; omega) | (simp; omega)), (fun _ h => absurd h List.not_mem_nil)⟩)⟩)⟩)⟩)⟩)⟩)⟩)⟩)⟩)⟩)⟩)⟩)⟩)⟩)⟩)
set_option maxRecDepth 100000 in
set_option maxHeartbeats 4000000 in
theorem i_divide_5 (x2 x3 x4 : Int32) (h0 : 0 ≤ x2.toInt) (h1 : x2.toInt < 2) (h2 : 1 ≤ x3.toInt) : xe_P 350 [(1, 0), (2, x2), (3, x3), (4, x4)] := xe_pth (ds := [false, false, false, false, false, false, false, true, true, false, false, false, false, false, false, false, true]) (cs := [(.lt, 0, 0, false), (.ge, 0, 4, false), (.eq, 1, 0, false), (.lt, x2, 0, false), (.ge, x2, 2, false), (.eq, 1, 0, false), (.lt, x3, 0, false), (.ge, x3, 1, true), (.eq, 0, 0, true), (.lt, 0, 0, false), (.gt, 0, 3, false), (.eq, 1, 0, false), (.lt, x2, 0, false), (.gt, x2, 1, false), (.eq, 1, 0, false), (.lt, x3, 0, false), (.gt, x3, 0, true)]) rfl (List.forall_mem_cons.mpr ⟨xe_hd rfl, (List.forall_mem_cons.mpr ⟨xe_hd rfl, (List.forall_mem_cons.mpr ⟨xe_hd rfl, (List.forall_mem_cons.mpr ⟨xe_hs (a := x2.toInt) (b2 := 0) rfl (by decide) (by simp only [xe_ci]; first | (simp only [decide_eq_true_eq]; omega) | (simp only [decide_eq_false_iff_not]; omega) | (simp; omega)), (List.forall_mem_cons.mpr ⟨xe_hs (a := x2.toInt) (b2 := 2) rfl (by decide) (by simp only [xe_ci]; first | (simp only [decide_eq_true_eq]; omega) | (simp only [decide_eq_false_iff_not]; omega) | (simp; omega)), (List.forall_mem_cons.mpr ⟨xe_hd rfl, (List.forall_mem_cons.mpr ⟨xe_hs (a := x3.toInt) (b2 := 0) rfl (by decide) (by simp only [xe_ci]; first | (simp only [decide_eq_true_eq]; omega) | (simp only [decide_eq_false_iff_not]; omega) | (simp; omega)), (List.forall_mem_cons.mpr ⟨xe_hs (a := x3.toInt) (b2 := 1) rfl (by decide) (by simp only [xe_ci]; first | (simp only [decide_eq_true_eq]; omega) | (simp only [decide_eq_false_iff_not]; omega) | (simp; omega)), (List.forall_mem_cons.mpr ⟨xe_hd rfl, (List.forall_mem_cons.mpr ⟨xe_hd rfl, (List.forall_mem_cons.mpr ⟨xe_hd rfl, (List.forall_mem_cons.mpr ⟨xe_hd rfl, (List.forall_mem_cons.mpr ⟨xe_hs (a := x2.toInt) (b2 := 0) rfl (by decide) (by simp only [xe_ci]; first | (simp only [decide_eq_true_eq]; omega) | (simp only [decide_eq_false_iff_not]; omega) | (simp; omega)), (List.forall_mem_cons.mpr ⟨xe_hs (a := x2.toInt) (b2 := 1) rfl (by decide) (by simp only [xe_ci]; first | (simp only [decide_eq_true_eq]; omega) | (simp only [decide_eq_false_iff_not]; omega) | (simp; omega)), (List.forall_mem_cons.mpr ⟨xe_hd rfl, (List.forall_mem_cons.mpr ⟨xe_hs (a := x3.toInt) (b2 := 0) rfl (by decide) (by simp only [xe_ci]; first | (simp only [decide_eq_true_eq]; omega) | (simp only [decide_eq_false_iff_not]; omega) | (simp; omega)), (List.forall_mem_cons.mpr ⟨xe_hs (a := x3.toInt) (b2 := 0) rfl (by decide) (by simp only [xe_ci]; first | (simp only [decide_eq_true_eq]; omega) | (simp only [decide_eq_false_iff_not]; omega) | (simp; omega)), (fun _ h => absurd h List.not_mem_nil)⟩)⟩)⟩)⟩)⟩)⟩)⟩)⟩)⟩)⟩)⟩)⟩)⟩)⟩)⟩)⟩)⟩)
set_option maxRecDepth 100000 in
set_option maxHeartbeats 4000000 in
theorem i_divide_6 (x2 x4 : Int32) (h0 : 0 ≤ x2.toInt) (h1 : x2.toInt < 2) (h2 : x4.toInt < 0) : xe_P 350 [(1, 0), (2, x2), (3, 0), (4, x4)] := xe_pth (ds := [false, false, false, false, false, false, false, false, false, true, false, false, false, false, false, false, false, false, false, false, true]) (cs := [(.lt, 0, 0, false), (.ge, 0, 4, false), (.eq, 1, 0, false), (.lt, x2, 0, false), (.ge, x2, 2, false), (.eq, 1, 0, false), (.lt, 0, 0, false), (.ge, 0, 1, false), (.eq, 1, 0, false), (.lt, x4, 0, true), (.ne, 0, 0, false), (.lt, 0, 0, false), (.gt, 0, 3, false), (.eq, 1, 0, false), (.lt, x2, 0, false), (.gt, x2, 1, false), (.eq, 1, 0, false), (.lt, 0, 0, false), (.gt, 0, 0, false), (.eq, 1, 0, false), (.lt, x4, 0, true)]) rfl (List.forall_mem_cons.mpr ⟨xe_hd rfl, (List.forall_mem_cons.mpr ⟨xe_hd rfl, (List.forall_mem_cons.mpr ⟨xe_hd rfl, (List.forall_mem_cons.mpr ⟨xe_hs (a := x2.toInt) (b2 := 0) rfl (by decide) (by simp only [xe_ci]; first | (simp only [decide_eq_true_eq]; omega) | (simp only [decide_eq_false_iff_not]; omega) | (simp; omega)), (List.forall_mem_cons.mpr ⟨xe_hs (a := x2.toInt) (b2 := 2) rfl (by decide) (by simp only [xe_ci]; first | (simp only [decide_eq_true_eq]; omega) | (simp only [decide_eq_false_iff_not]; omega) | (simp; omega)), (List.forall_mem_cons.mpr ⟨xe_hd rfl, (List.forall_mem_cons.mpr ⟨xe_hd rfl, (List.forall_mem_cons.mpr ⟨xe_hd rfl, (List.forall_mem_cons.mpr ⟨xe_hd rfl, (List.forall_mem_cons.mpr ⟨xe_hs (a := x4.toInt) (b2 := 0) rfl (by decide) (by simp only [xe_ci]; first | (simp only [decide_eq_true_eq]; omega) | (simp only [decide_eq_false_iff_not]; omega) | (simp; omega)), (List.forall_mem_cons.mpr ⟨xe_hd rfl, (List.forall_mem_cons.mpr ⟨xe_hd rfl, (List.forall_mem_cons.mpr ⟨xe_hd rfl, (List.forall_mem_cons.mpr ⟨xe_hd rfl, (List.forall_mem_cons.mpr ⟨xe_hs (a := x2.toInt) (b2 := 0) rfl (by decide) (by simp only [xe_ci]; first | (simp only [decide_eq_true_eq]; omega) | (simp only [decide_eq_false_iff_not]; omega) | (simp; omega)), (List.forall_mem_cons.mpr ⟨xe_hs (a := x2.toInt) (b2 := 1) rfl (by decide) (by simp only [xe_ci]; first | (simp only [decide_eq_true_eq]; omega) | (simp only [decide_eq_false_iff_not]; omega) | (simp; omega)), (List.forall_mem_cons.mpr ⟨xe_hd rfl, (List.forall_mem_cons.mpr ⟨xe_hd rfl, (List.forall_mem_cons.mpr ⟨xe_hd rfl, (List.forall_mem_cons.mpr ⟨xe_hd rfl, (List.forall_mem_cons.mpr ⟨xe_hs (a := x4.toInt) (b2 := 0) rfl (by decide) (by simp only [xe_ci]; first | (simp only [decide_eq_true_eq]; omega) | (simp only [decide_eq_false_iff_not]; omega) | (simp; omega)), (fun _ h => absurd h List.not_mem_nil)⟩)⟩)⟩)⟩)⟩)⟩)⟩)⟩)⟩)⟩)⟩)⟩)⟩)⟩)⟩)⟩)⟩)⟩)⟩)⟩)⟩)
set_option maxRecDepth 100000 in
set_option maxHeartbeats 4000000 in
theorem i_divide_7 (x2 x4 : Int32) (h0 : 0 ≤ x2.toInt) (h1 : x2.toInt < 2) (h2 : 1 ≤ x4.toInt) : xe_P 350 [(1, 0), (2, x2), (3, 0), (4, x4)] := xe_pth (ds := [false, false, false, false, false, false, false, false, false, false, true, false, false, false, false, false, false, false, false, false, false, false, true]) (cs := [(.lt, 0, 0, false), (.ge, 0, 4, false), (.eq, 1, 0, false), (.lt, x2, 0, false), (.ge, x2, 2, false), (.eq, 1, 0, false), (.lt, 0, 0, false), (.ge, 0, 1, false), (.eq, 1, 0, false), (.lt, x4, 0, false), (.ge, x4, 1, true), (.ne, 0, 0, false), (.lt, 0, 0, false), (.gt, 0, 3, false), (.eq, 1, 0, false), (.lt, x2, 0, false), (.gt, x2, 1, false), (.eq, 1, 0, false), (.lt, 0, 0, false), (.gt, 0, 0, false), (.eq, 1, 0, false), (.lt, x4, 0, false), (.gt, x4, 0, true)]) rfl (List.forall_mem_cons.mpr ⟨xe_hd rfl, (List.forall_mem_cons.mpr ⟨xe_hd rfl, (List.forall_mem_cons.mpr ⟨xe_hd rfl, (List.forall_mem_cons.mpr ⟨xe_hs (a := x2.toInt) (b2 := 0) rfl (by decide) (by simp only [xe_ci]; first | (simp only [decide_eq_true_eq]; omega) | (simp only [decide_eq_false_iff_not]; omega) | (simp; omega)), (List.forall_mem_cons.mpr ⟨xe_hs (a := x2.toInt) (b2 := 2) rfl (by decide) (by simp only [xe_ci]; first | (simp only [decide_eq_true_eq]; omega) | (simp only [decide_eq_false_iff_not]; omega) | (simp; omega)), (List.forall_mem_cons.mpr ⟨xe_hd rfl, (List.forall_mem_cons.mpr ⟨xe_hd rfl, (List.forall_mem_cons.mpr ⟨xe_hd rfl, (List.forall_mem_cons.mpr ⟨xe_hd rfl, (List.forall_mem_cons.mpr ⟨xe_hs (a := x4.toInt) (b2 := 0) rfl (by decide) (by simp only [xe_ci]; first | (simp only [decide_eq_true_eq]; omega) | (simp only [decide_eq_false_iff_not]; omega) | (simp; omega)), (List.forall_mem_cons.mpr ⟨xe_hs (a := x4.toInt) (b2 := 1) rfl (by decide) (by simp only [xe_ci]; first | (simp only [decide_eq_true_eq]; omega) | (simp only [decide_eq_false_iff_not]; omega) | (simp; omega)), (List.forall_mem_cons.mpr ⟨xe_hd rfl, (List.forall_mem_cons.mpr ⟨xe_hd rfl, (List.forall_mem_cons.mpr ⟨xe_hd rfl, (List.forall_mem_cons.mpr ⟨xe_hd rfl, (List.forall_mem_cons.mpr ⟨xe_hs (a := x2.toInt) (b2 := 0) rfl (by decide) (by simp only [xe_ci]; first | (simp only [decide_eq_true_eq]; omega) | (simp only [decide_eq_false_iff_not]; omega) | (simp; omega)), (List.forall_mem_cons.mpr ⟨xe_hs (a := x2.toInt) (b2 := 1) rfl (by decide) (by simp only [xe_ci]; first | (simp only [decide_eq_true_eq]; omega) | (simp only [decide_eq_false_iff_not]; omega) | (simp; omega)), (List.forall_mem_cons.mpr ⟨xe_hd rfl, (List.forall_mem_cons.mpr ⟨xe_hd rfl, (List.forall_mem_cons.mpr ⟨xe_hd rfl, (List.forall_mem_cons.mpr ⟨xe_hd rfl, (List.forall_mem_cons.mpr ⟨xe_hs (a := x4.toInt) (b2 := 0) rfl (by decide) (by simp only [xe_ci]; first | (simp only [decide_eq_true_eq]; omega) | (simp only [decide_eq_false_iff_not]; omega) | (simp; omega)), (List.forall_mem_cons.mpr ⟨xe_hs (a := x4.toInt) (b2 := 0) rfl (by decide) (by simp only [xe_ci]; first | (simp only [decide_eq_true_eq]; omega) | (simp only [decide_eq_false_iff_not]; omega) | (simp; omega)), (fun _ h => absurd h List.not_mem_nil)⟩)⟩)⟩)⟩)⟩)⟩)⟩)⟩)⟩)⟩)⟩)⟩)⟩)⟩)⟩)⟩)⟩)⟩)⟩)⟩)⟩)⟩)⟩)
set_option maxRecDepth 100000 in
set_option maxHeartbeats 4000000 in
theorem i_divide_8 (x2 x3 x4 : Int32) (h0 : 0 ≤ x2.toInt) (h1 : x2.toInt < 2) (h2 : x3.toInt < 0) : xe_P 350 [(1, 1), (2, x2), (3, x3), (4, x4)] := xe_pth (ds := [false, false, false, false, false, false, true, true, false, false, false, false, false, false, true]) (cs := [(.lt, 1, 0, false), (.ge, 1, 4, false), (.eq, 1, 0, false), (.lt, x2, 0, false), (.ge, x2, 2, false), (.eq, 1, 0, false), (.lt, x3, 0, true), (.eq, 0, 0, true), (.lt, 1, 0, false), (.gt, 1, 3, false), (.eq, 1, 0, false), (.lt, x2, 0, false), (.gt, x2, 1, false), (.eq, 1, 0, false), (.lt, x3, 0, true)]) rfl (List.forall_mem_cons.mpr ⟨xe_hd rfl, (List.forall_mem_cons.mpr ⟨xe_hd rfl, (List.forall_mem_cons.mpr ⟨xe_hd rfl, (List.forall_mem_cons.mpr ⟨xe_hs (a := x2.toInt) (b2 := 0) rfl (by decide) (by simp only [xe_ci]; first | (simp only [decide_eq_true_eq]; omega) | (simp only [decide_eq_false_iff_not]; omega) | (simp; omega)), (List.forall_mem_cons.mpr ⟨xe_hs (a := x2.toInt) (b2 := 2) rfl (by decide) (by simp only [xe_ci]; first | (simp only [decide_eq_true_eq]; omega) | (simp only [decide_eq_false_iff_not]; omega) | (simp; omega)), (List.forall_mem_cons.mpr ⟨xe_hd rfl, (List.forall_mem_cons.mpr ⟨xe_hs (a := x3.toInt) (b2 := 0) rfl (by decide) (by simp only [xe_ci]; first | (simp only [decide_eq_true_eq]; omega) | (simp only [decide_eq_false_iff_not]; omega) | (simp; omega)), (List.forall_mem_cons.mpr ⟨xe_hd rfl, (List.forall_mem_cons.mpr ⟨xe_hd rfl, (List.forall_mem_cons.mpr ⟨xe_hd rfl, (List.forall_mem_cons.mpr ⟨xe_hd rfl, (List.forall_mem_cons.mpr ⟨xe_hs (a := x2.toInt) (b2 := 0) rfl (by decide) (by simp only [xe_ci]; first | (simp only [decide_eq_true_eq]; omega) | (simp only [decide_eq_false_iff_not]; omega) | (simp; omega)), (List.forall_mem_cons.mpr ⟨xe_hs (a := x2.toInt) (b2 := 1) rfl (by decide) (by simp only [xe_ci]; first | (simp only [decide_eq_true_eq]; omega) | (simp only [decide_eq_false_iff_not]; omega) | (simp; omega)), (List.forall_mem_cons.mpr ⟨xe_hd rfl, (List.forall_mem_cons.mpr ⟨xe_hs (a := x3.toInt) (b2 := 0) rfl (by decide) (by simp only [xe_ci]; first | (simp only [decide_eq_true_eq]; omega) | (simp only [decide_eq_false_iff_not]; omega) | (simp; omega)), (fun _ h => absurd h List.not_mem_nil)⟩)⟩)⟩)⟩)⟩)⟩)⟩)⟩)⟩)⟩)⟩)⟩)⟩)⟩)⟩)
set_option maxRecDepth 100000 in
set_option maxHeartbeats 4000000 in
theorem i_divide_9 (x2 x3 x4 : Int32) (h0 : 0 ≤ x2.toInt) (h1 : x2.toInt < 2) (h2 : 1 ≤ x3.toInt) : xe_P 350 [(1, 1), (2, x2), (3, x3), (4, x4)] := xe_pth (ds := [false, false, false, false, false, false, false, true, true, false, false, false, false, false, false, false, true]) (cs := [(.lt, 1, 0, false), (.ge, 1, 4, false), (.eq, 1, 0, false), (.lt, x2, 0, false), (.ge, x2, 2, false), (.eq, 1, 0, false), (.lt, x3, 0, false), (.ge, x3, 1, true), (.eq, 0, 0, true), (.lt, 1, 0, false), (.gt, 1, 3, false), (.eq, 1, 0, false), (.lt, x2, 0, false), (.gt, x2, 1, false), (.eq, 1, 0, false), (.lt, x3, 0, false), (.gt, x3, 0, true)]) rfl (List.forall_mem_cons.mpr ⟨xe_hd rfl, (List.forall_mem_cons.mpr ⟨xe_hd rfl, (List.forall_mem_cons.mpr ⟨xe_hd rfl, (List.forall_mem_cons.mpr ⟨xe_hs (a := x2.toInt) (b2 := 0) rfl (by decide) (by simp only [xe_ci]; first | (simp only [decide_eq_true_eq]; omega) | (simp only [decide_eq_false_iff_not]; omega) | (simp; omega)), (List.forall_mem_cons.mpr ⟨xe_hs (a := x2.toInt) (b2 := 2) rfl (by decide) (by simp only [xe_ci]; first | (simp only [decide_eq_true_eq]; omega) | (simp only [decide_eq_false_iff_not]; omega) | (simp; omega)), (List.forall_mem_cons.mpr ⟨xe_hd rfl, (List.forall_mem_cons.mpr ⟨xe_hs (a := x3.toInt) (b2 := 0) rfl (by decide) (by simp only [xe_ci]; first | (simp only [decide_eq_true_eq]; omega) | (simp only [decide_eq_false_iff_not]; omega) | (simp; omega)), (List.forall_mem_cons.mpr ⟨xe_hs (a := x3.toInt) (b2 := 1) rfl (by decide) (by simp only [xe_ci]; first | (simp only [decide_eq_true_eq]; omega) | (simp only [decide_eq_false_iff_not]; omega) | (simp; omega)), (List.forall_mem_cons.mpr ⟨xe_hd rfl, (List.forall_mem_cons.mpr ⟨xe_hd rfl, (List.forall_mem_cons.mpr ⟨xe_hd rfl, (List.forall_mem_cons.mpr ⟨xe_hd rfl, (List.forall_mem_cons.mpr ⟨xe_hs (a := x2.toInt) (b2 := 0) rfl (by decide) (by simp only [xe_ci]; first | (simp only [decide_eq_true_eq]; omega) | (simp only [decide_eq_false_iff_not]; omega) | (simp; omega)), (List.forall_mem_cons.mpr ⟨xe_hs (a := x2.toInt) (b2 := 1) rfl (by decide) (by simp only [xe_ci]; first | (simp only [decide_eq_true_eq]; omega) | (simp only [decide_eq_false_iff_not]; omega) | (simp; omega)), (List.forall_mem_cons.mpr ⟨xe_hd rfl, (List.forall_mem_cons.mpr ⟨xe_hs (a := x3.toInt) (b2 := 0) rfl (by decide) (by simp only [xe_ci]; first | (simp only [decide_eq_true_eq]; omega) | (simp only [decide_eq_false_iff_not]; omega) | (simp; omega)), (List.forall_mem_cons.mpr ⟨xe_hs (a := x3.toInt) (b2 := 0) rfl (by decide) (by simp only [xe_ci]; first | (simp only [decide_eq_true_eq]; omega) | (simp only [decide_eq_false_iff_not]; omega) | (simp; omega)), (fun _ h => absurd h List.not_mem_nil)⟩)⟩)⟩)⟩)⟩)⟩)⟩)⟩)⟩)⟩)⟩)⟩)⟩)⟩)⟩)⟩)⟩)
set_option maxRecDepth 100000 in
set_option maxHeartbeats 4000000 in
theorem i_divide_10 (x2 x4 : Int32) (h0 : 0 ≤ x2.toInt) (h1 : x2.toInt < 2) (h2 : x4.toInt < 0) : xe_P 350 [(1, 1), (2, x2), (3, 0), (4, x4)] := xe_pth (ds := [false, false, false, false, false, false, false, false, false, true, false, false, false, false, false, false, false, false, false, false, true]) (cs := [(.lt, 1, 0, false), (.ge, 1, 4, false), (.eq, 1, 0, false), (.lt, x2, 0, false), (.ge, x2, 2, false), (.eq, 1, 0, false), (.lt, 0, 0, false), (.ge, 0, 1, false), (.eq, 1, 0, false), (.lt, x4, 0, true), (.ne, 0, 0, false), (.lt, 1, 0, false), (.gt, 1, 3, false), (.eq, 1, 0, false), (.lt, x2, 0, false), (.gt, x2, 1, false), (.eq, 1, 0, false), (.lt, 0, 0, false), (.gt, 0, 0, false), (.eq, 1, 0, false), (.lt, x4, 0, true)]) rfl (List.forall_mem_cons.mpr ⟨xe_hd rfl, (List.forall_mem_cons.mpr ⟨xe_hd rfl, (List.forall_mem_cons.mpr ⟨xe_hd rfl, (List.forall_mem_cons.mpr ⟨xe_hs (a := x2.toInt) (b2 := 0) rfl (by decide) (by simp only [xe_ci]; first | (simp only [decide_eq_true_eq]; omega) | (simp only [decide_eq_false_iff_not]; omega) | (simp; omega)), (List.forall_mem_cons.mpr ⟨xe_hs (a := x2.toInt) (b2 := 2) rfl (by decide) (by simp only [xe_ci]; first | (simp only [decide_eq_true_eq]; omega) | (simp only [decide_eq_false_iff_not]; omega) | (simp; omega)), (List.forall_mem_cons.mpr ⟨xe_hd rfl, (List.forall_mem_cons.mpr ⟨xe_hd rfl, (List.forall_mem_cons.mpr ⟨xe_hd rfl, (List.forall_mem_cons.mpr ⟨xe_hd rfl, (List.forall_mem_cons.mpr ⟨xe_hs (a := x4.toInt) (b2 := 0) rfl (by decide) (by simp only [xe_ci]; first | (simp only [decide_eq_true_eq]; omega) | (simp only [decide_eq_false_iff_not]; omega) | (simp; omega)), (List.forall_mem_cons.mpr ⟨xe_hd rfl, (List.forall_mem_cons.mpr ⟨xe_hd rfl, (List.forall_mem_cons.mpr ⟨xe_hd rfl, (List.forall_mem_cons.mpr ⟨xe_hd rfl, (List.forall_mem_cons.mpr ⟨xe_hs (a := x2.toInt) (b2 := 0) rfl (by decide) (by simp only [xe_ci]; first | (simp only [decide_eq_true_eq]; omega) | (simp only [decide_eq_false_iff_not]; omega) | (simp; omega)), (List.forall_mem_cons.mpr ⟨xe_hs (a := x2.toInt) (b2 := 1) rfl (by decide) (by simp only [xe_ci]; first | (simp only [decide_eq_true_eq]; omega) | (simp only [decide_eq_false_iff_not]; omega) | (simp; omega)), (List.forall_mem_cons.mpr ⟨xe_hd rfl, (List.forall_mem_cons.mpr ⟨xe_hd rfl, (List.forall_mem_cons.mpr ⟨xe_hd rfl, (List.forall_mem_cons.mpr ⟨xe_hd rfl, (List.forall_mem_cons.mpr ⟨xe_hs (a := x4.toInt) (b2 := 0) rfl (by decide) (by simp only [xe_ci]; first | (simp only [decide_eq_true_eq]; omega) | (simp only [decide_eq_false_iff_not]; omega) | (simp; omega)), (fun _ h => absurd h List.not_mem_nil)⟩)⟩)⟩)⟩)⟩)⟩)⟩)⟩)⟩)⟩)⟩)⟩)⟩)⟩)⟩)⟩)⟩)⟩)⟩)⟩)⟩)
set_option maxRecDepth 100000 in
set_option maxHeartbeats 4000000 in
theorem i_divide_11 (x2 x4 : Int32) (h0 : 0 ≤ x2.toInt) (h1 : x2.toInt < 2) (h2 : 1 ≤ x4.toInt) : xe_P 350 [(1, 1), (2, x2), (3, 0), (4, x4)] := xe_pth (ds := [false, false, false, false, false, false, false, false, false, false, true, false, false, false, false, false, false, false, false, false, false, false, true]) (cs := [(.lt, 1, 0, false), (.ge, 1, 4, false), (.eq, 1, 0, false), (.lt, x2, 0, false), (.ge, x2, 2, false), (.eq, 1, 0, false), (.lt, 0, 0, false), (.ge, 0, 1, false), (.eq, 1, 0, false), (.lt, x4, 0, false), (.ge, x4, 1, true), (.ne, 0, 0, false), (.lt, 1, 0, false), (.gt, 1, 3, false), (.eq, 1, 0, false), (.lt, x2, 0, false), (.gt, x2, 1, false), (.eq, 1, 0, false), (.lt, 0, 0, false), (.gt, 0, 0, false), (.eq, 1, 0, false), (.lt, x4, 0, false), (.gt, x4, 0, true)]) rfl (List.forall_mem_cons.mpr ⟨xe_hd rfl, (List.forall_mem_cons.mpr ⟨xe_hd rfl, (List.forall_mem_cons.mpr ⟨xe_hd rfl, (List.forall_mem_cons.mpr ⟨xe_hs (a := x2.toInt) (b2 := 0) rfl (by decide) (by simp only [xe_ci]; first | (simp only [decide_eq_true_eq]; omega) | (simp only [decide_eq_false_iff_not]; omega) | (simp; omega)), (List.forall_mem_cons.mpr ⟨xe_hs (a := x2.toInt) (b2 := 2) rfl (by decide) (by simp only [xe_ci]; first | (simp only [decide_eq_true_eq]; omega) | (simp only [decide_eq_false_iff_not]; omega) | (simp; omega)), (List.forall_mem_cons.mpr ⟨xe_hd rfl, (List.forall_mem_cons.mpr ⟨xe_hd rfl, (List.forall_mem_cons.mpr ⟨xe_hd rfl, (List.forall_mem_cons.mpr ⟨xe_hd rfl, (List.forall_mem_cons.mpr ⟨xe_hs (a := x4.toInt) (b2 := 0) rfl (by decide) (by simp only [xe_ci]; first | (simp only [decide_eq_true_eq]; omega) | (simp only [decide_eq_false_iff_not]; omega) | (simp; omega)), (List.forall_mem_cons.mpr ⟨xe_hs (a := x4.toInt) (b2 := 1) rfl (by decide) (by simp only [xe_ci]; first | (simp only [decide_eq_true_eq]; omega) | (simp only [decide_eq_false_iff_not]; omega) | (simp; omega)), (List.forall_mem_cons.mpr ⟨xe_hd rfl, (List.forall_mem_cons.mpr ⟨xe_hd rfl, (List.forall_mem_cons.mpr ⟨xe_hd rfl, (List.forall_mem_cons.mpr ⟨xe_hd rfl, (List.forall_mem_cons.mpr ⟨xe_hs (a := x2.toInt) (b2 := 0) rfl (by decide) (by simp only [xe_ci]; first | (simp only [decide_eq_true_eq]; omega) | (simp only [decide_eq_false_iff_not]; omega) | (simp; omega)), (List.forall_mem_cons.mpr ⟨xe_hs (a := x2.toInt) (b2 := 1) rfl (by decide) (by simp only [xe_ci]; first | (simp only [decide_eq_true_eq]; omega) | (simp only [decide_eq_false_iff_not]; omega) | (simp; omega)), (List.forall_mem_cons.mpr ⟨xe_hd rfl, (List.forall_mem_cons.mpr ⟨xe_hd rfl, (List.forall_mem_cons.mpr ⟨xe_hd rfl, (List.forall_mem_cons.mpr ⟨xe_hd rfl, (List.forall_mem_cons.mpr ⟨xe_hs (a := x4.toInt) (b2 := 0) rfl (by decide) (by simp only [xe_ci]; first | (simp only [decide_eq_true_eq]; omega) | (simp only [decide_eq_false_iff_not]; omega) | (simp; omega)), (List.forall_mem_cons.mpr ⟨xe_hs (a := x4.toInt) (b2 := 0) rfl (by decide) (by simp only [xe_ci]; first | (simp only [decide_eq_true_eq]; omega) | (simp only [decide_eq_false_iff_not]; omega) | (simp; omega)), (fun _ h => absurd h List.not_mem_nil)⟩)⟩)⟩)⟩)⟩)⟩)⟩)⟩)⟩)⟩)⟩)⟩)⟩)⟩)⟩)⟩)⟩)⟩)⟩)⟩)⟩)⟩)⟩)
set_option maxRecDepth 100000 in
set_option maxHeartbeats 4000000 in
theorem i_divide_12 (x2 x3 x4 : Int32) (h0 : 0 ≤ x2.toInt) (h1 : x2.toInt < 2) (h2 : x3.toInt < 0) : xe_P 350 [(1, 2), (2, x2), (3, x3), (4, x4)] := xe_pth (ds := [false, false, false, false, false, false, true, true, false, false, false, false, false, false, true]) (cs := [(.lt, 2, 0, false), (.ge, 2, 4, false), (.eq, 1, 0, false), (.lt, x2, 0, false), (.ge, x2, 2, false), (.eq, 1, 0, false), (.lt, x3, 0, true), (.eq, 0, 0, true), (.lt, 2, 0, false), (.gt, 2, 3, false), (.eq, 1, 0, false), (.lt, x2, 0, false), (.gt, x2, 1, false), (.eq, 1, 0, false), (.lt, x3, 0, true)]) rfl (List.forall_mem_cons.mpr ⟨xe_hd rfl, (List.forall_mem_cons.mpr ⟨xe_hd rfl, (List.forall_mem_cons.mpr ⟨xe_hd rfl, (List.forall_mem_cons.mpr ⟨xe_hs (a := x2.toInt) (b2 := 0) rfl (by decide) (by simp only [xe_ci]; first | (simp only [decide_eq_true_eq]; omega) | (simp only [decide_eq_false_iff_not]; omega) | (simp; omega)), (List.forall_mem_cons.mpr ⟨xe_hs (a := x2.toInt) (b2 := 2) rfl (by decide) (by simp only [xe_ci]; first | (simp only [decide_eq_true_eq]; omega) | (simp only [decide_eq_false_iff_not]; omega) | (simp; omega)), (List.forall_mem_cons.mpr ⟨xe_hd rfl, (List.forall_mem_cons.mpr ⟨xe_hs (a := x3.toInt) (b2 := 0) rfl (by decide) (by simp only [xe_ci]; first | (simp only [decide_eq_true_eq]; omega) | (simp only [decide_eq_false_iff_not]; omega) | (simp; omega)), (List.forall_mem_cons.mpr ⟨xe_hd rfl, (List.forall_mem_cons.mpr ⟨xe_hd rfl, (List.forall_mem_cons.mpr ⟨xe_hd rfl, (List.forall_mem_cons.mpr ⟨xe_hd rfl, (List.forall_mem_cons.mpr ⟨xe_hs (a := x2.toInt) (b2 := 0) rfl (by decide) (by simp only [xe_ci]; first | (simp only [decide_eq_true_eq]; omega) | (simp only [decide_eq_false_iff_not]; omega) | (simp; omega)), (List.forall_mem_cons.mpr ⟨xe_hs (a := x2.toInt) (b2 := 1) rfl (by decide) (by simp only [xe_ci]; first | (simp only [decide_eq_true_eq]; omega) | (simp only [decide_eq_false_iff_not]; omega) | (simp; omega)), (List.forall_mem_cons.mpr ⟨xe_hd rfl, (List.forall_mem_cons.mpr ⟨xe_hs (a := x3.toInt) (b2 := 0) rfl (by decide) (by simp only [xe_ci]; first | (simp only [decide_eq_true_eq]; omega) | (simp only [decide_eq_false_iff_not]; omega) | (simp; omega)), (fun _ h => absurd h List.not_mem_nil)⟩)⟩)⟩)⟩)⟩)⟩)⟩)⟩)⟩)⟩)⟩)⟩)⟩)⟩)⟩)
set_option maxRecDepth 100000 in
set_option maxHeartbeats 4000000 in
theorem i_divide_13 (x2 x3 x4 : Int32) (h0 : 0 ≤ x2.toInt) (h1 : x2.toInt < 2) (h2 : 1 ≤ x3.toInt) : xe_P 350 [(1, 2), (2, x2), (3, x3), (4, x4)] := xe_pth (ds := [false, false, false, false, false, false, false, true, true, false, false, false, false, false, false, false, true]) (cs := [(.lt, 2, 0, false), (.ge, 2, 4, false), (.eq, 1, 0, false), (.lt, x2, 0, false), (.ge, x2, 2, false), (.eq, 1, 0, false), (.lt, x3, 0, false), (.ge, x3, 1, true), (.eq, 0, 0, true), (.lt, 2, 0, false), (.gt, 2, 3, false), (.eq, 1, 0, false), (.lt, x2, 0, false), (.gt, x2, 1, false), (.eq, 1, 0, false), (.lt, x3, 0, false), (.gt, x3, 0, true)]) rfl (List.forall_mem_cons.mpr ⟨xe_hd rfl, (List.forall_mem_cons.mpr ⟨xe_hd rfl, (List.forall_mem_cons.mpr ⟨xe_hd rfl, (List.forall_mem_cons.mpr ⟨xe_hs (a := x2.toInt) (b2 := 0) rfl (by decide) (by simp only [xe_ci]; first | (simp only [decide_eq_true_eq]; omega) | (simp only [decide_eq_false_iff_not]; omega) | (simp; omega)), (List.forall_mem_cons.mpr ⟨xe_hs (a := x2.toInt) (b2 := 2) rfl (by decide) (by simp only [xe_ci]; first | (simp only [decide_eq_true_eq]; omega) | (simp only [decide_eq_false_iff_not]; omega) | (simp; omega)), (List.forall_mem_cons.mpr ⟨xe_hd rfl, (List.forall_mem_cons.mpr ⟨xe_hs (a := x3.toInt) (b2 := 0) rfl (by decide) (by simp only [xe_ci]; first | (simp only [decide_eq_true_eq]; omega) | (simp only [decide_eq_false_iff_not]; omega) | (simp; omega)), (List.forall_mem_cons.mpr ⟨xe_hs (a := x3.toInt) (b2 := 1) rfl (by decide) (by simp only [xe_ci]; first | (simp only [decide_eq_true_eq]; omega) | (simp only [decide_eq_false_iff_not]; omega) | (simp; omega)), (List.forall_mem_cons.mpr ⟨xe_hd rfl, (List.forall_mem_cons.mpr ⟨xe_hd rfl, (List.forall_mem_cons.mpr ⟨xe_hd rfl, (List.forall_mem_cons.mpr ⟨xe_hd rfl, (List.forall_mem_cons.mpr ⟨xe_hs (a := x2.toInt) (b2 := 0) rfl (by decide) (by simp only [xe_ci]; first | (simp only [decide_eq_true_eq]; omega) | (simp only [decide_eq_false_iff_not]; omega) | (simp; omega)), (List.forall_mem_cons.mpr ⟨xe_hs (a := x2.toInt) (b2 := 1) rfl (by decide) (by simp only [xe_ci]; first | (simp only [decide_eq_true_eq]; omega) | (simp only [decide_eq_false_iff_not]; omega) | (simp; omega)), (List.forall_mem_cons.mpr ⟨xe_hd rfl, (List.forall_mem_cons.mpr ⟨xe_hs (a := x3.toInt) (b2 := 0) rfl (by decide) (by simp only [xe_ci]; first | (simp only [decide_eq_true_eq]; omega) | (simp only [decide_eq_false_iff_not]; omega) | (simp; omega)), (List.forall_mem_cons.mpr ⟨xe_hs (a := x3.toInt) (b2 := 0) rfl (by decide) (by simp only [xe_ci]; first | (simp only [decide_eq_true_eq]; omega) | (simp only [decide_eq_false_iff_not]; omega) | (simp; omega)), (fun _ h => absurd h List.not_mem_nil)⟩)⟩)⟩)⟩)⟩)⟩)⟩)⟩)⟩)⟩)⟩)⟩)⟩)⟩)⟩)⟩)⟩)
set_option maxRecDepth 100000 in
set_option maxHeartbeats 4000000 in
theorem i_divide_14 (x2 x4 : Int32) (h0 : 0 ≤ x2.toInt) (h1 : x2.toInt < 2) (h2 : x4.toInt < 0) : xe_P 350 [(1, 2), (2, x2), (3, 0), (4, x4)] := xe_pth (ds := [false, false, false, false, false, false, false, false, false, true, false, false, false, false, false, false, false, false, false, false, true]) (cs := [(.lt, 2, 0, false), (.ge, 2, 4, false), (.eq, 1, 0, false), (.lt, x2, 0, false), (.ge, x2, 2, false), (.eq, 1, 0, false), (.lt, 0, 0, false), (.ge, 0, 1, false), (.eq, 1, 0, false), (.lt, x4, 0, true), (.ne, 0, 0, false), (.lt, 2, 0, false), (.gt, 2, 3, false), (.eq, 1, 0, false), (.lt, x2, 0, false), (.gt, x2, 1, false), (.eq, 1, 0, false), (.lt, 0, 0, false), (.gt, 0, 0, false), (.eq, 1, 0, false), (.lt, x4, 0, true)]) rfl (List.forall_mem_cons.mpr ⟨xe_hd rfl, (List.forall_mem_cons.mpr ⟨xe_hd rfl, (List.forall_mem_cons.mpr ⟨xe_hd rfl, (List.forall_mem_cons.mpr ⟨xe_hs (a := x2.toInt) (b2 := 0) rfl (by decide) (by simp only [xe_ci]; first | (simp only [decide_eq_true_eq]; omega) | (simp only [decide_eq_false_iff_not]; omega) | (simp; omega)), (List.forall_mem_cons.mpr ⟨xe_hs (a := x2.toInt) (b2 := 2) rfl (by decide) (by simp only [xe_ci]; first | (simp only [decide_eq_true_eq]; omega) | (simp only [decide_eq_false_iff_not]; omega) | (simp; omega)), (List.forall_mem_cons.mpr ⟨xe_hd rfl, (List.forall_mem_cons.mpr ⟨xe_hd rfl, (List.forall_mem_cons.mpr ⟨xe_hd rfl, (List.forall_mem_cons.mpr ⟨xe_hd rfl, (List.forall_mem_cons.mpr ⟨xe_hs (a := x4.toInt) (b2 := 0) rfl (by decide) (by simp only [xe_ci]; first | (simp only [decide_eq_true_eq]; omega) | (simp only [decide_eq_false_iff_not]; omega) | (simp; omega)), (List.forall_mem_cons.mpr ⟨xe_hd rfl, (List.forall_mem_cons.mpr ⟨xe_hd rfl, (List.forall_mem_cons.mpr ⟨xe_hd rfl, (List.forall_mem_cons.mpr ⟨xe_hd rfl, (List.forall_mem_cons.mpr ⟨xe_hs (a := x2.toInt) (b2 := 0) rfl (by decide) (by simp only [xe_ci]; first | (simp only [decide_eq_true_eq]; omega) | (simp only [decide_eq_false_iff_not]; omega) | (simp; omega)), (List.forall_mem_cons.mpr ⟨xe_hs (a := x2.toInt) (b2 := 1) rfl (by decide) (by simp only [xe_ci]; first | (simp only [decide_eq_true_eq]; omega) | (simp only [decide_eq_false_iff_not]; omega) | (simp; omega)), (List.forall_mem_cons.mpr ⟨xe_hd rfl, (List.forall_mem_cons.mpr ⟨xe_hd rfl, (List.forall_mem_cons.mpr ⟨xe_hd rfl, (List.forall_mem_cons.mpr ⟨xe_hd rfl, (List.forall_mem_cons.mpr ⟨xe_hs (a := x4.toInt) (b2 := 0) rfl (by decide) (by simp only [xe_ci]; first | (simp only [decide_eq_true_eq]; omega) | (simp only [decide_eq_false_iff_not]; omega) | (simp; omega)), (fun _ h => absurd h List.not_mem_nil)⟩)⟩)⟩)⟩)⟩)⟩)⟩)⟩)⟩)⟩)⟩)⟩)⟩)⟩)⟩)⟩)⟩)⟩)⟩)⟩)⟩)
set_option maxRecDepth 100000 in
set_option maxHeartbeats 4000000 in
theorem i_divide_15 (x2 x4 : Int32) (h0 : 0 ≤ x2.toInt) (h1 : x2.toInt < 2) (h2 : 1 ≤ x4.toInt) : xe_P 350 [(1, 2), (2, x2), (3, 0), (4, x4)] := xe_pth (ds := [false, false, false, false, false, false, false, false, false, false, true, false, false, false, false, false, false, false, false, false, false, false, true]) (cs := [(.lt, 2, 0, false), (.ge, 2, 4, false), (.eq, 1, 0, false), (.lt, x2, 0, false), (.ge, x2, 2, false), (.eq, 1, 0, false), (.lt, 0, 0, false), (.ge, 0, 1, false), (.eq, 1, 0, false), (.lt, x4, 0, false), (.ge, x4, 1, true), (.ne, 0, 0, false), (.lt, 2, 0, false), (.gt, 2, 3, false), (.eq, 1, 0, false), (.lt, x2, 0, false), (.gt, x2, 1, false), (.eq, 1, 0, false), (.lt, 0, 0, false), (.gt, 0, 0, false), (.eq, 1, 0, false), (.lt, x4, 0, false), (.gt, x4, 0, true)]) rfl (List.forall_mem_cons.mpr ⟨xe_hd rfl, (List.forall_mem_cons.mpr ⟨xe_hd rfl, (List.forall_mem_cons.mpr ⟨xe_hd rfl, (List.forall_mem_cons.mpr ⟨xe_hs (a := x2.toInt) (b2 := 0) rfl (by decide) (by simp only [xe_ci]; first | (simp only [decide_eq_true_eq]; omega) | (simp only [decide_eq_false_iff_not]; omega) | (simp; omega)), (List.forall_mem_cons.mpr ⟨xe_hs (a := x2.toInt) (b2 := 2) rfl (by decide) (by simp only [xe_ci]; first | (simp only [decide_eq_true_eq]; omega) | (simp only [decide_eq_false_iff_not]; omega) | (simp; omega)), (List.forall_mem_cons.mpr ⟨xe_hd rfl, (List.forall_mem_cons.mpr ⟨xe_hd rfl, (List.forall_mem_cons.mpr ⟨xe_hd rfl, (List.forall_mem_cons.mpr ⟨xe_hd rfl, (List.forall_mem_cons.mpr ⟨xe_hs (a := x4.toInt) (b2 := 0) rfl (by decide) (by simp only [xe_ci]; first | (simp only [decide_eq_true_eq]; omega) | (simp only [decide_eq_false_iff_not]; omega) | (simp; omega)), (List.forall_mem_cons.mpr ⟨xe_hs (a := x4.toInt) (b2 := 1) rfl (by decide) (by simp only [xe_ci]; first | (simp only [decide_eq_true_eq]; omega) | (simp only [decide_eq_false_iff_not]; omega) | (simp; omega)), (List.forall_mem_cons.mpr ⟨xe_hd rfl, (List.forall_mem_cons.mpr ⟨xe_hd rfl, (List.forall_mem_cons.mpr ⟨xe_hd rfl, (List.forall_mem_cons.mpr ⟨xe_hd rfl, (List.forall_mem_cons.mpr ⟨xe_hs (a := x2.toInt) (b2 := 0) rfl (by decide) (by simp only [xe_ci]; first | (simp only [decide_eq_true_eq]; omega) | (simp only [decide_eq_false_iff_not]; omega) | (simp; omega)), (List.forall_mem_cons.mpr ⟨xe_hs (a := x2.toInt) (b2 := 1) rfl (by decide) (by simp only [xe_ci]; first | (simp only [decide_eq_true_eq]; omega) | (simp only [decide_eq_false_iff_not]; omega) | (simp; omega)), (List.forall_mem_cons.mpr ⟨xe_hd rfl, (List.forall_mem_cons.mpr ⟨xe_hd rfl, (List.forall_mem_cons.mpr ⟨xe_hd rfl, (List.forall_mem_cons.mpr ⟨xe_hd rfl, (List.forall_mem_cons.mpr ⟨xe_hs (a := x4.toInt) (b2 := 0) rfl (by decide) (by simp only [xe_ci]; first | (simp only [decide_eq_true_eq]; omega) | (simp only [decide_eq_false_iff_not]; omega) | (simp; omega)), (List.forall_mem_cons.mpr ⟨xe_hs (a := x4.toInt) (b2 := 0) rfl (by decide) (by simp only [xe_ci]; first | (simp only [decide_eq_true_eq]; omega) | (simp only [decide_eq_false_iff_not]; omega) | (simp; omega)), (fun _ h => absurd h List.not_mem_nil)⟩)⟩)⟩)⟩)⟩)⟩)⟩)⟩)⟩)⟩)⟩)⟩)⟩)⟩)⟩)⟩)⟩)⟩)⟩)⟩)⟩)⟩)⟩)
set_option maxRecDepth 100000 in
set_option maxHeartbeats 4000000 in
theorem i_divide_16 (x2 x3 x4 : Int32) (h0 : 0 ≤ x2.toInt) (h1 : x2.toInt < 2) (h2 : x3.toInt < 0) : xe_P 350 [(1, 3), (2, x2), (3, x3), (4, x4)] := xe_pth (ds := [false, false, false, false, false, false, true, true, false, false, false, false, false, false, true]) (cs := [(.lt, 3, 0, false), (.ge, 3, 4, false), (.eq, 1, 0, false), (.lt, x2, 0, false), (.ge, x2, 2, false), (.eq, 1, 0, false), (.lt, x3, 0, true), (.eq, 0, 0, true), (.lt, 3, 0, false), (.gt, 3, 3, false), (.eq, 1, 0, false), (.lt, x2, 0, false), (.gt, x2, 1, false), (.eq, 1, 0, false), (.lt, x3, 0, true)]) rfl (List.forall_mem_cons.mpr ⟨xe_hd rfl, (List.forall_mem_cons.mpr ⟨xe_hd rfl, (List.forall_mem_cons.mpr ⟨xe_hd rfl, (List.forall_mem_cons.mpr ⟨xe_hs (a := x2.toInt) (b2 := 0) rfl (by decide) (by simp only [xe_ci]; first | (simp only [decide_eq_true_eq]; omega) | (simp only [decide_eq_false_iff_not]; omega) | (simp; omega)), (List.forall_mem_cons.mpr ⟨xe_hs (a := x2.toInt) (b2 := 2) rfl (by decide) (by simp only [xe_ci]; first | (simp only [decide_eq_true_eq]; omega) | (simp only [decide_eq_false_iff_not]; omega) | (simp; omega)), (List.forall_mem_cons.mpr ⟨xe_hd rfl, (List.forall_mem_cons.mpr ⟨xe_hs (a := x3.toInt) (b2 := 0) rfl (by decide) (by simp only [xe_ci]; first | (simp only [decide_eq_true_eq]; omega) | (simp only [decide_eq_false_iff_not]; omega) | (simp; omega)), (List.forall_mem_cons.mpr ⟨xe_hd rfl, (List.forall_mem_cons.mpr ⟨xe_hd rfl, (List.forall_mem_cons.mpr ⟨xe_hd rfl, (List.forall_mem_cons.mpr ⟨xe_hd rfl, (List.forall_mem_cons.mpr ⟨xe_hs (a := x2.toInt) (b2 := 0) rfl (by decide) (by simp only [xe_ci]; first | (simp only [decide_eq_true_eq]; omega) | (simp only [decide_eq_false_iff_not]; omega) | (simp; omega)), (List.forall_mem_cons.mpr ⟨xe_hs (a := x2.toInt) (b2 := 1) rfl (by decide) (by simp only [xe_ci]; first | (simp only [decide_eq_true_eq]; omega) | (simp only [decide_eq_false_iff_not]; omega) | (simp; omega)), (List.forall_mem_cons.mpr ⟨xe_hd rfl, (List.forall_mem_cons.mpr ⟨xe_hs (a := x3.toInt) (b2 := 0) rfl (by decide) (by simp only [xe_ci]; first | (simp only [decide_eq_true_eq]; omega) | (simp only [decide_eq_false_iff_not]; omega) | (simp; omega)), (fun _ h => absurd h List.not_mem_nil)⟩)⟩)⟩)⟩)⟩)⟩)⟩)⟩)⟩)⟩)⟩)⟩)⟩)⟩)⟩)
set_option maxRecDepth 100000 in
set_option maxHeartbeats 4000000 in
theorem i_divide_17 (x2 x3 x4 : Int32) (h0 : 0 ≤ x2.toInt) (h1 : x2.toInt < 2) (h2 : 1 ≤ x3.toInt) : xe_P 350 [(1, 3), (2, x2), (3, x3), (4, x4)] := xe_pth (ds := [false, false, false, false, false, false, false, true, true, false, false, false, false, false, false, false, true]) (cs := [(.lt, 3, 0, false), (.ge, 3, 4, false), (.eq, 1, 0, false), (.lt, x2, 0, false), (.ge, x2, 2, false), (.eq, 1, 0, false), (.lt, x3, 0, false), (.ge, x3, 1, true), (.eq, 0, 0, true), (.lt, 3, 0, false), (.gt, 3, 3, false), (.eq, 1, 0, false), (.lt, x2, 0, false), (.gt, x2, 1, false), (.eq, 1, 0, false), (.lt, x3, 0, false), (.gt, x3, 0, true)]) rfl (List.forall_mem_cons.mpr ⟨xe_hd rfl, (List.forall_mem_cons.mpr ⟨xe_hd rfl, (List.forall_mem_cons.mpr ⟨xe_hd rfl, (List.forall_mem_cons.mpr ⟨xe_hs (a := x2.toInt) (b2 := 0) rfl (by decide) (by simp only [xe_ci]; first | (simp only [decide_eq_true_eq]; omega) | (simp only [decide_eq_false_iff_not]; omega) | (simp; omega)), (List.forall_mem_cons.mpr ⟨xe_hs (a := x2.toInt) (b2 := 2) rfl (by decide) (by simp only [xe_ci]; first | (simp only [decide_eq_true_eq]; omega) | (simp only [decide_eq_false_iff_not]; omega) | (simp; omega)), (List.forall_mem_cons.mpr ⟨xe_hd rfl, (List.forall_mem_cons.mpr ⟨xe_hs (a := x3.toInt) (b2 := 0) rfl (by decide) (by simp only [xe_ci]; first | (simp only [decide_eq_true_eq]; omega) | (simp only [decide_eq_false_iff_not]; omega) | (simp; omega)), (List.forall_mem_cons.mpr ⟨xe_hs (a := x3.toInt) (b2 := 1) rfl (by decide) (by simp only [xe_ci]; first | (simp only [decide_eq_true_eq]; omega) | (simp only [decide_eq_false_iff_not]; omega) | (simp; omega)), (List.forall_mem_cons.mpr ⟨xe_hd rfl, (List.forall_mem_cons.mpr ⟨xe_hd rfl, (List.forall_mem_cons.mpr ⟨xe_hd rfl, (List.forall_mem_cons.mpr ⟨xe_hd rfl, (List.forall_mem_cons.mpr ⟨xe_hs (a := x2.toInt) (b2 := 0) rfl (by decide) (by simp only [xe_ci]; first | (simp only [decide_eq_true_eq]; omega) | (simp only [decide_eq_false_iff_not]; omega) | (simp; omega)), (List.forall_mem_cons.mpr ⟨xe_hs (a := x2.toInt) (b2 := 1) rfl (by decide) (by simp only [xe_ci]; first | (simp only [decide_eq_true_eq]; omega) | (simp only [decide_eq_false_iff_not]; omega) | (simp; omega)), (List.forall_mem_cons.mpr ⟨xe_hd rfl, (List.forall_mem_cons.mpr ⟨xe_hs (a := x3.toInt) (b2 := 0) rfl (by decide) (by simp only [xe_ci]; first | (simp only [decide_eq_true_eq]; omega) | (simp only [decide_eq_false_iff_not]; omega) | (simp; omega)), (List.forall_mem_cons.mpr ⟨xe_hs (a := x3.toInt) (b2 := 0) rfl (by decide) (by simp only [xe_ci]; first | (simp only [decide_eq_true_eq]; omega) | (simp only [decide_eq_false_iff_not]; omega) | (simp; omega)), (fun _ h => absurd h List.not_mem_nil)⟩)⟩)⟩)⟩)⟩)⟩)⟩)⟩)⟩)⟩)⟩)⟩)⟩)⟩)⟩)⟩)⟩)
set_option maxRecDepth 100000 in
set_option maxHeartbeats 4000000 in
theorem i_divide_18 (x2 x4 : Int32) (h0 : 0 ≤ x2.toInt) (h1 : x2.toInt < 2) (h2 : x4.toInt < 0) : xe_P 350 [(1, 3), (2, x2), (3, 0), (4, x4)] := xe_pth (ds := [false, false, false, false, false, false, false, false, false, true, false, false, false, false, false, false, false, false, false, false, true]) (cs := [(.lt, 3, 0, false), (.ge, 3, 4, false), (.eq, 1, 0, false), (.lt, x2, 0, false), (.ge, x2, 2, false), (.eq, 1, 0, false), (.lt, 0, 0, false), (.ge, 0, 1, false), (.eq, 1, 0, false), (.lt, x4, 0, true), (.ne, 0, 0, false), (.lt, 3, 0, false), (.gt, 3, 3, false), (.eq, 1, 0, false), (.lt, x2, 0, false), (.gt, x2, 1, false), (.eq, 1, 0, false), (.lt, 0, 0, false), (.gt, 0, 0, false), (.eq, 1, 0, false), (.lt, x4, 0, true)]) rfl (List.forall_mem_cons.mpr ⟨xe_hd rfl, (List.forall_mem_cons.mpr ⟨xe_hd rfl, (List.forall_mem_cons.mpr ⟨xe_hd rfl, (List.forall_mem_cons.mpr ⟨xe_hs (a := x2.toInt) (b2 := 0) rfl (by decide) (by simp only [xe_ci]; first | (simp only [decide_eq_true_eq]; omega) | (simp only [decide_eq_false_iff_not]; omega) | (simp; omega)), (List.forall_mem_cons.mpr ⟨xe_hs (a := x2.toInt) (b2 := 2) rfl (by decide) (by simp only [xe_ci]; first | (simp only [decide_eq_true_eq]; omega) | (simp only [decide_eq_false_iff_not]; omega) | (simp; omega)), (List.forall_mem_cons.mpr ⟨xe_hd rfl, (List.forall_mem_cons.mpr ⟨xe_hd rfl, (List.forall_mem_cons.mpr ⟨xe_hd rfl, (List.forall_mem_cons.mpr ⟨xe_hd rfl, (List.forall_mem_cons.mpr ⟨xe_hs (a := x4.toInt) (b2 := 0) rfl (by decide) (by simp only [xe_ci]; first | (simp only [decide_eq_true_eq]; omega) | (simp only [decide_eq_false_iff_not]; omega) | (simp; omega)), (List.forall_mem_cons.mpr ⟨xe_hd rfl, (List.forall_mem_cons.mpr ⟨xe_hd rfl, (List.forall_mem_cons.mpr ⟨xe_hd rfl, (List.forall_mem_cons.mpr ⟨xe_hd rfl, (List.forall_mem_cons.mpr ⟨xe_hs (a := x2.toInt) (b2 := 0) rfl (by decide) (by simp only [xe_ci]; first | (simp only [decide_eq_true_eq]; omega) | (simp only [decide_eq_false_iff_not]; omega) | (simp; omega)), (List.forall_mem_cons.mpr ⟨xe_hs (a := x2.toInt) (b2 := 1) rfl (by decide) (by simp only [xe_ci]; first | (simp only [decide_eq_true_eq]; omega) | (simp only [decide_eq_false_iff_not]; omega) | (simp; omega)), (List.forall_mem_cons.mpr ⟨xe_hd rfl, (List.forall_mem_cons.mpr ⟨xe_hd rfl, (List.forall_mem_cons.mpr ⟨xe_hd rfl, (List.forall_mem_cons.mpr ⟨xe_hd rfl, (List.forall_mem_cons.mpr ⟨xe_hs (a := x4.toInt) (b2 := 0) rfl (by decide) (by simp only [xe_ci]; first | (simp only [decide_eq_true_eq]; omega) | (simp only [decide_eq_false_iff_not]; omega) | (simp; omega)), (fun _ h => absurd h List.not_mem_nil)⟩)⟩)⟩)⟩)⟩)⟩)⟩)⟩)⟩)⟩)⟩)⟩)⟩)⟩)⟩)⟩)⟩)⟩)⟩)⟩)⟩)
set_option maxRecDepth 100000 in
set_option maxHeartbeats 4000000 in
theorem i_divide_19 (x2 x4 : Int32) (h0 : 0 ≤ x2.toInt) (h1 : x2.toInt < 2) (h2 : 1 ≤ x4.toInt) : xe_P 350 [(1, 3), (2, x2), (3, 0), (4, x4)] := xe_pth (ds := [false, false, false, false, false, false, false, false, false, false, true, false, false, false, false, false, false, false, false, false, false, false, true]) (cs := [(.lt, 3, 0, false), (.ge, 3, 4, false), (.eq, 1, 0, false), (.lt, x2, 0, false), (.ge, x2, 2, false), (.eq, 1, 0, false), (.lt, 0, 0, false), (.ge, 0, 1, false), (.eq, 1, 0, false), (.lt, x4, 0, false), (.ge, x4, 1, true), (.ne, 0, 0, false), (.lt, 3, 0, false), (.gt, 3, 3, false), (.eq, 1, 0, false), (.lt, x2, 0, false), (.gt, x2, 1, false), (.eq, 1, 0, false), (.lt, 0, 0, false), (.gt, 0, 0, false), (.eq, 1, 0, false), (.lt, x4, 0, false), (.gt, x4, 0, true)]) rfl (List.forall_mem_cons.mpr ⟨xe_hd rfl, (List.forall_mem_cons.mpr ⟨xe_hd rfl, (List.forall_mem_cons.mpr ⟨xe_hd rfl, (List.forall_mem_cons.mpr ⟨xe_hs (a := x2.toInt) (b2 := 0) rfl (by decide) (by simp only [xe_ci]; first | (simp only [decide_eq_true_eq]; omega) | (simp only [decide_eq_false_iff_not]; omega) | (simp; omega)), (List.forall_mem_cons.mpr ⟨xe_hs (a := x2.toInt) (b2 := 2) rfl (by decide) (by simp only [xe_ci]; first | (simp only [decide_eq_true_eq]; omega) | (simp only [decide_eq_false_iff_not]; omega) | (simp; omega)), (List.forall_mem_cons.mpr ⟨xe_hd rfl, (List.forall_mem_cons.mpr ⟨xe_hd rfl, (List.forall_mem_cons.mpr ⟨xe_hd rfl, (List.forall_mem_cons.mpr ⟨xe_hd rfl, (List.forall_mem_cons.mpr ⟨xe_hs (a := x4.toInt) (b2 := 0) rfl (by decide) (by simp only [xe_ci]; first | (simp only [decide_eq_true_eq]; omega) | (simp only [decide_eq_false_iff_not]; omega) | (simp; omega)), (List.forall_mem_cons.mpr ⟨xe_hs (a := x4.toInt) (b2 := 1) rfl (by decide) (by simp only [xe_ci]; first | (simp only [decide_eq_true_eq]; omega) | (simp only [decide_eq_false_iff_not]; omega) | (simp; omega)), (List.forall_mem_cons.mpr ⟨xe_hd rfl, (List.forall_mem_cons.mpr ⟨xe_hd rfl, (List.forall_mem_cons.mpr ⟨xe_hd rfl, (List.forall_mem_cons.mpr ⟨xe_hd rfl, (List.forall_mem_cons.mpr ⟨xe_hs (a := x2.toInt) (b2 := 0) rfl (by decide) (by simp only [xe_ci]; first | (simp only [decide_eq_true_eq]; omega) | (simp only [decide_eq_false_iff_not]; omega) | (simp; omega)), (List.forall_mem_cons.mpr ⟨xe_hs (a := x2.toInt) (b2 := 1) rfl (by decide) (by simp only [xe_ci]; first | (simp only [decide_eq_true_eq]; omega) | (simp only [decide_eq_false_iff_not]; omega) | (simp; omega)), (List.forall_mem_cons.mpr ⟨xe_hd rfl, (List.forall_mem_cons.mpr ⟨xe_hd rfl, (List.forall_mem_cons.mpr ⟨xe_hd rfl, (List.forall_mem_cons.mpr ⟨xe_hd rfl, (List.forall_mem_cons.mpr ⟨xe_hs (a := x4.toInt) (b2 := 0) rfl (by decide) (by simp only [xe_ci]; first | (simp only [decide_eq_true_eq]; omega) | (simp only [decide_eq_false_iff_not]; omega) | (simp; omega)), (List.forall_mem_cons.mpr ⟨xe_hs (a := x4.toInt) (b2 := 0) rfl (by decide) (by simp only [xe_ci]; first | (simp only [decide_eq_true_eq]; omega) | (simp only [decide_eq_false_iff_not]; omega) | (simp; omega)), (fun _ h => absurd h List.not_mem_nil)⟩)⟩)⟩)⟩)⟩)⟩)⟩)⟩)⟩)⟩)⟩)⟩)⟩)⟩)⟩)⟩)⟩)⟩)⟩)⟩)⟩)⟩)⟩)
set_option maxRecDepth 100000 in
set_option maxHeartbeats 4000000 in
theorem i_law_0 (x1 x2 x3 : Int32) (h0 : x1.toInt < 0) : xe_P 403 [(1, x1), (2, x2), (3, x3)] := xe_pth (ds := [true, true, true]) (cs := [(.lt, x1, 0, true), (.eq, 0, 0, true), (.lt, x1, 0, true)]) rfl (List.forall_mem_cons.mpr ⟨xe_hs (a := x1.toInt) (b2 := 0) rfl (by decide) (by simp only [xe_ci]; first | (simp only [decide_eq_true_eq]; omega) | (simp only [decide_eq_false_iff_not]; omega) | (simp; omega)), (List.forall_mem_cons.mpr ⟨xe_hd rfl, (List.forall_mem_cons.mpr ⟨xe_hs (a := x1.toInt) (b2 := 0) rfl (by decide) (by simp only [xe_ci]; first | (simp only [decide_eq_true_eq]; omega) | (simp only [decide_eq_false_iff_not]; omega) | (simp; omega)), (fun _ h => absurd h List.not_mem_nil)⟩)⟩)⟩)
set_option maxRecDepth 100000 in
set_option maxHeartbeats 4000000 in
theorem i_law_1 (x1 x2 x3 : Int32) (h0 : 4 ≤ x1.toInt) : xe_P 403 [(1, x1), (2, x2), (3, x3)] := xe_pth (ds := [false, true, true, false, true]) (cs := [(.lt, x1, 0, false), (.ge, x1, 4, true), (.eq, 0, 0, true), (.lt, x1, 0, false), (.gt, x1, 3, true)]) rfl (List.forall_mem_cons.mpr ⟨xe_hs (a := x1.toInt) (b2 := 0) rfl (by decide) (by simp only [xe_ci]; first | (simp only [decide_eq_true_eq]; omega) | (simp only [decide_eq_false_iff_not]; omega) | (simp; omega)), (List.forall_mem_cons.mpr ⟨xe_hs (a := x1.toInt) (b2 := 4) rfl (by decide) (by simp only [xe_ci]; first | (simp only [decide_eq_true_eq]; omega) | (simp only [decide_eq_false_iff_not]; omega) | (simp; omega)), (List.forall_mem_cons.mpr ⟨xe_hd rfl, (List.forall_mem_cons.mpr ⟨xe_hs (a := x1.toInt) (b2 := 0) rfl (by decide) (by simp only [xe_ci]; first | (simp only [decide_eq_true_eq]; omega) | (simp only [decide_eq_false_iff_not]; omega) | (simp; omega)), (List.forall_mem_cons.mpr ⟨xe_hs (a := x1.toInt) (b2 := 3) rfl (by decide) (by simp only [xe_ci]; first | (simp only [decide_eq_true_eq]; omega) | (simp only [decide_eq_false_iff_not]; omega) | (simp; omega)), (fun _ h => absurd h List.not_mem_nil)⟩)⟩)⟩)⟩)⟩)
set_option maxRecDepth 100000 in
set_option maxHeartbeats 4000000 in
theorem i_law_2 (x1 x2 x3 : Int32) (h0 : 0 ≤ x1.toInt) (h1 : x1.toInt < 4) (h2 : x2.toInt < 0) : xe_P 403 [(1, x1), (2, x2), (3, x3)] := xe_pth (ds := [false, false, false, true, true, false, false, false, true]) (cs := [(.lt, x1, 0, false), (.ge, x1, 4, false), (.eq, 1, 0, false), (.lt, x2, 0, true), (.eq, 0, 0, true), (.lt, x1, 0, false), (.gt, x1, 3, false), (.eq, 1, 0, false), (.lt, x2, 0, true)]) rfl (List.forall_mem_cons.mpr ⟨xe_hs (a := x1.toInt) (b2 := 0) rfl (by decide) (by simp only [xe_ci]; first | (simp only [decide_eq_true_eq]; omega) | (simp only [decide_eq_false_iff_not]; omega) | (simp; omega)), (List.forall_mem_cons.mpr ⟨xe_hs (a := x1.toInt) (b2 := 4) rfl (by decide) (by simp only [xe_ci]; first | (simp only [decide_eq_true_eq]; omega) | (simp only [decide_eq_false_iff_not]; omega) | (simp; omega)), (List.forall_mem_cons.mpr ⟨xe_hd rfl, (List.forall_mem_cons.mpr ⟨xe_hs (a := x2.toInt) (b2 := 0) rfl (by decide) (by simp only [xe_ci]; first | (simp only [decide_eq_true_eq]; omega) | (simp only [decide_eq_false_iff_not]; omega) | (simp; omega)), (List.forall_mem_cons.mpr ⟨xe_hd rfl, (List.forall_mem_cons.mpr ⟨xe_hs (a := x1.toInt) (b2 := 0) rfl (by decide) (by simp only [xe_ci]; first | (simp only [decide_eq_true_eq]; omega) | (simp only [decide_eq_false_iff_not]; omega) | (simp; omega)), (List.forall_mem_cons.mpr ⟨xe_hs (a := x1.toInt) (b2 := 3) rfl (by decide) (by simp only [xe_ci]; first | (simp only [decide_eq_true_eq]; omega) | (simp only [decide_eq_false_iff_not]; omega) | (simp; omega)), (List.forall_mem_cons.mpr ⟨xe_hd rfl, (List.forall_mem_cons.mpr ⟨xe_hs (a := x2.toInt) (b2 := 0) rfl (by decide) (by simp only [xe_ci]; first | (simp only [decide_eq_true_eq]; omega) | (simp only [decide_eq_false_iff_not]; omega) | (simp; omega)), (fun _ h => absurd h List.not_mem_nil)⟩)⟩)⟩)⟩)⟩)⟩)⟩)⟩)⟩)
set_option maxRecDepth 100000 in
set_option maxHeartbeats 4000000 in
theorem i_law_3 (x1 x2 x3 : Int32) (h0 : 0 ≤ x1.toInt) (h1 : x1.toInt < 4) (h2 : 13 ≤ x2.toInt) : xe_P 403 [(1, x1), (2, x2), (3, x3)] := xe_pth (ds := [false, false, false, false, true, true, false, false, false, false, true]) (cs := [(.lt, x1, 0, false), (.ge, x1, 4, false), (.eq, 1, 0, false), (.lt, x2, 0, false), (.ge, x2, 13, true), (.eq, 0, 0, true), (.lt, x1, 0, false), (.gt, x1, 3, false), (.eq, 1, 0, false), (.lt, x2, 0, false), (.gt, x2, 12, true)]) rfl (List.forall_mem_cons.mpr ⟨xe_hs (a := x1.toInt) (b2 := 0) rfl (by decide) (by simp only [xe_ci]; first | (simp only [decide_eq_true_eq]; omega) | (simp only [decide_eq_false_iff_not]; omega) | (simp; omega)), (List.forall_mem_cons.mpr ⟨xe_hs (a := x1.toInt) (b2 := 4) rfl (by decide) (by simp only [xe_ci]; first | (simp only [decide_eq_true_eq]; omega) | (simp only [decide_eq_false_iff_not]; omega) | (simp; omega)), (List.forall_mem_cons.mpr ⟨xe_hd rfl, (List.forall_mem_cons.mpr ⟨xe_hs (a := x2.toInt) (b2 := 0) rfl (by decide) (by simp only [xe_ci]; first | (simp only [decide_eq_true_eq]; omega) | (simp only [decide_eq_false_iff_not]; omega) | (simp; omega)), (List.forall_mem_cons.mpr ⟨xe_hs (a := x2.toInt) (b2 := 13) rfl (by decide) (by simp only [xe_ci]; first | (simp only [decide_eq_true_eq]; omega) | (simp only [decide_eq_false_iff_not]; omega) | (simp; omega)), (List.forall_mem_cons.mpr ⟨xe_hd rfl, (List.forall_mem_cons.mpr ⟨xe_hs (a := x1.toInt) (b2 := 0) rfl (by decide) (by simp only [xe_ci]; first | (simp only [decide_eq_true_eq]; omega) | (simp only [decide_eq_false_iff_not]; omega) | (simp; omega)), (List.forall_mem_cons.mpr ⟨xe_hs (a := x1.toInt) (b2 := 3) rfl (by decide) (by simp only [xe_ci]; first | (simp only [decide_eq_true_eq]; omega) | (simp only [decide_eq_false_iff_not]; omega) | (simp; omega)), (List.forall_mem_cons.mpr ⟨xe_hd rfl, (List.forall_mem_cons.mpr ⟨xe_hs (a := x2.toInt) (b2 := 0) rfl (by decide) (by simp only [xe_ci]; first | (simp only [decide_eq_true_eq]; omega) | (simp only [decide_eq_false_iff_not]; omega) | (simp; omega)), (List.forall_mem_cons.mpr ⟨xe_hs (a := x2.toInt) (b2 := 12) rfl (by decide) (by simp only [xe_ci]; first | (simp only [decide_eq_true_eq]; omega) | (simp only [decide_eq_false_iff_not]; omega) | (simp; omega)), (fun _ h => absurd h List.not_mem_nil)⟩)⟩)⟩)⟩)⟩)⟩)⟩)⟩)⟩)⟩)⟩)
set_option maxRecDepth 100000 in
set_option maxHeartbeats 4000000 in
theorem i_law_4 (x1 x2 x3 : Int32) (h0 : 0 ≤ x1.toInt) (h1 : x1.toInt < 4) (h2 : 0 ≤ x2.toInt) (h3 : x2.toInt < 13) (h4 : x3.toInt < 0) : xe_P 403 [(1, x1), (2, x2), (3, x3)] := xe_pth (ds := [false, false, false, false, false, false, true, false, false, false, false, false, false, false, true]) (cs := [(.lt, x1, 0, false), (.ge, x1, 4, false), (.eq, 1, 0, false), (.lt, x2, 0, false), (.ge, x2, 13, false), (.eq, 1, 0, false), (.lt, x3, 0, true), (.ne, 0, 0, false), (.lt, x1, 0, false), (.gt, x1, 3, false), (.eq, 1, 0, false), (.lt, x2, 0, false), (.gt, x2, 12, false), (.eq, 1, 0, false), (.lt, x3, 0, true)]) rfl (List.forall_mem_cons.mpr ⟨xe_hs (a := x1.toInt) (b2 := 0) rfl (by decide) (by simp only [xe_ci]; first | (simp only [decide_eq_true_eq]; omega) | (simp only [decide_eq_false_iff_not]; omega) | (simp; omega)), (List.forall_mem_cons.mpr ⟨xe_hs (a := x1.toInt) (b2 := 4) rfl (by decide) (by simp only [xe_ci]; first | (simp only [decide_eq_true_eq]; omega) | (simp only [decide_eq_false_iff_not]; omega) | (simp; omega)), (List.forall_mem_cons.mpr ⟨xe_hd rfl, (List.forall_mem_cons.mpr ⟨xe_hs (a := x2.toInt) (b2 := 0) rfl (by decide) (by simp only [xe_ci]; first | (simp only [decide_eq_true_eq]; omega) | (simp only [decide_eq_false_iff_not]; omega) | (simp; omega)), (List.forall_mem_cons.mpr ⟨xe_hs (a := x2.toInt) (b2 := 13) rfl (by decide) (by simp only [xe_ci]; first | (simp only [decide_eq_true_eq]; omega) | (simp only [decide_eq_false_iff_not]; omega) | (simp; omega)), (List.forall_mem_cons.mpr ⟨xe_hd rfl, (List.forall_mem_cons.mpr ⟨xe_hs (a := x3.toInt) (b2 := 0) rfl (by decide) (by simp only [xe_ci]; first | (simp only [decide_eq_true_eq]; omega) | (simp only [decide_eq_false_iff_not]; omega) | (simp; omega)), (List.forall_mem_cons.mpr ⟨xe_hd rfl, (List.forall_mem_cons.mpr ⟨xe_hs (a := x1.toInt) (b2 := 0) rfl (by decide) (by simp only [xe_ci]; first | (simp only [decide_eq_true_eq]; omega) | (simp only [decide_eq_false_iff_not]; omega) | (simp; omega)), (List.forall_mem_cons.mpr ⟨xe_hs (a := x1.toInt) (b2 := 3) rfl (by decide) (by simp only [xe_ci]; first | (simp only [decide_eq_true_eq]; omega) | (simp only [decide_eq_false_iff_not]; omega) | (simp; omega)), (List.forall_mem_cons.mpr ⟨xe_hd rfl, (List.forall_mem_cons.mpr ⟨xe_hs (a := x2.toInt) (b2 := 0) rfl (by decide) (by simp only [xe_ci]; first | (simp only [decide_eq_true_eq]; omega) | (simp only [decide_eq_false_iff_not]; omega) | (simp; omega)), (List.forall_mem_cons.mpr ⟨xe_hs (a := x2.toInt) (b2 := 12) rfl (by decide) (by simp only [xe_ci]; first | (simp only [decide_eq_true_eq]; omega) | (simp only [decide_eq_false_iff_not]; omega) | (simp; omega)), (List.forall_mem_cons.mpr ⟨xe_hd rfl, (List.forall_mem_cons.mpr ⟨xe_hs (a := x3.toInt) (b2 := 0) rfl (by decide) (by simp only [xe_ci]; first | (simp only [decide_eq_true_eq]; omega) | (simp only [decide_eq_false_iff_not]; omega) | (simp; omega)), (fun _ h => absurd h List.not_mem_nil)⟩)⟩)⟩)⟩)⟩)⟩)⟩)⟩)⟩)⟩)⟩)⟩)⟩)⟩)⟩)
set_option maxRecDepth 100000 in
set_option maxHeartbeats 4000000 in
theorem i_law_5 (x1 x2 x3 : Int32) (h0 : 0 ≤ x1.toInt) (h1 : x1.toInt < 4) (h2 : 0 ≤ x2.toInt) (h3 : x2.toInt < 13) (h4 : 2 ≤ x3.toInt) : xe_P 403 [(1, x1), (2, x2), (3, x3)] := xe_pth (ds := [false, false, false, false, false, false, false, true, false, false, false, false, false, false, false, false, true]) (cs := [(.lt, x1, 0, false), (.ge, x1, 4, false), (.eq, 1, 0, false), (.lt, x2, 0, false), (.ge, x2, 13, false), (.eq, 1, 0, false), (.lt, x3, 0, false), (.ge, x3, 2, true), (.ne, 0, 0, false), (.lt, x1, 0, false), (.gt, x1, 3, false), (.eq, 1, 0, false), (.lt, x2, 0, false), (.gt, x2, 12, false), (.eq, 1, 0, false), (.lt, x3, 0, false), (.gt, x3, 1, true)]) rfl (List.forall_mem_cons.mpr ⟨xe_hs (a := x1.toInt) (b2 := 0) rfl (by decide) (by simp only [xe_ci]; first | (simp only [decide_eq_true_eq]; omega) | (simp only [decide_eq_false_iff_not]; omega) | (simp; omega)), (List.forall_mem_cons.mpr ⟨xe_hs (a := x1.toInt) (b2 := 4) rfl (by decide) (by simp only [xe_ci]; first | (simp only [decide_eq_true_eq]; omega) | (simp only [decide_eq_false_iff_not]; omega) | (simp; omega)), (List.forall_mem_cons.mpr ⟨xe_hd rfl, (List.forall_mem_cons.mpr ⟨xe_hs (a := x2.toInt) (b2 := 0) rfl (by decide) (by simp only [xe_ci]; first | (simp only [decide_eq_true_eq]; omega) | (simp only [decide_eq_false_iff_not]; omega) | (simp; omega)), (List.forall_mem_cons.mpr ⟨xe_hs (a := x2.toInt) (b2 := 13) rfl (by decide) (by simp only [xe_ci]; first | (simp only [decide_eq_true_eq]; omega) | (simp only [decide_eq_false_iff_not]; omega) | (simp; omega)), (List.forall_mem_cons.mpr ⟨xe_hd rfl, (List.forall_mem_cons.mpr ⟨xe_hs (a := x3.toInt) (b2 := 0) rfl (by decide) (by simp only [xe_ci]; first | (simp only [decide_eq_true_eq]; omega) | (simp only [decide_eq_false_iff_not]; omega) | (simp; omega)), (List.forall_mem_cons.mpr ⟨xe_hs (a := x3.toInt) (b2 := 2) rfl (by decide) (by simp only [xe_ci]; first | (simp only [decide_eq_true_eq]; omega) | (simp only [decide_eq_false_iff_not]; omega) | (simp; omega)), (List.forall_mem_cons.mpr ⟨xe_hd rfl, (List.forall_mem_cons.mpr ⟨xe_hs (a := x1.toInt) (b2 := 0) rfl (by decide) (by simp only [xe_ci]; first | (simp only [decide_eq_true_eq]; omega) | (simp only [decide_eq_false_iff_not]; omega) | (simp; omega)), (List.forall_mem_cons.mpr ⟨xe_hs (a := x1.toInt) (b2 := 3) rfl (by decide) (by simp only [xe_ci]; first | (simp only [decide_eq_true_eq]; omega) | (simp only [decide_eq_false_iff_not]; omega) | (simp; omega)), (List.forall_mem_cons.mpr ⟨xe_hd rfl, (List.forall_mem_cons.mpr ⟨xe_hs (a := x2.toInt) (b2 := 0) rfl (by decide) (by simp only [xe_ci]; first | (simp only [decide_eq_true_eq]; omega) | (simp only [decide_eq_false_iff_not]; omega) | (simp; omega)), (List.forall_mem_cons.mpr ⟨xe_hs (a := x2.toInt) (b2 := 12) rfl (by decide) (by simp only [xe_ci]; first | (simp only [decide_eq_true_eq]; omega) | (simp only [decide_eq_false_iff_not]; omega) | (simp; omega)), (List.forall_mem_cons.mpr ⟨xe_hd rfl, (List.forall_mem_cons.mpr ⟨xe_hs (a := x3.toInt) (b2 := 0) rfl (by decide) (by simp only [xe_ci]; first | (simp only [decide_eq_true_eq]; omega) | (simp only [decide_eq_false_iff_not]; omega) | (simp; omega)), (List.forall_mem_cons.mpr ⟨xe_hs (a := x3.toInt) (b2 := 1) rfl (by decide) (by simp only [xe_ci]; first | (simp only [decide_eq_true_eq]; omega) | (simp only [decide_eq_false_iff_not]; omega) | (simp; omega)), (fun _ h => absurd h List.not_mem_nil)⟩)⟩)⟩)⟩)⟩)⟩)⟩)⟩)⟩)⟩)⟩)⟩)⟩)⟩)⟩)⟩)⟩)
set_option maxRecDepth 100000 in
set_option maxHeartbeats 4000000 in
theorem i_joining_0 (x1 x2 : Int32) (h0 : x1.toInt < 0) : xe_P 446 [(1, x1), (2, x2)] := xe_pth (ds := [true, true, true]) (cs := [(.lt, x1, 0, true), (.eq, 0, 0, true), (.lt, x1, 0, true)]) rfl (List.forall_mem_cons.mpr ⟨xe_hs (a := x1.toInt) (b2 := 0) rfl (by decide) (by simp only [xe_ci]; first | (simp only [decide_eq_true_eq]; omega) | (simp only [decide_eq_false_iff_not]; omega) | (simp; omega)), (List.forall_mem_cons.mpr ⟨xe_hd rfl, (List.forall_mem_cons.mpr ⟨xe_hs (a := x1.toInt) (b2 := 0) rfl (by decide) (by simp only [xe_ci]; first | (simp only [decide_eq_true_eq]; omega) | (simp only [decide_eq_false_iff_not]; omega) | (simp; omega)), (fun _ h => absurd h List.not_mem_nil)⟩)⟩)⟩)
set_option maxRecDepth 100000 in
set_option maxHeartbeats 4000000 in
theorem i_joining_1 (x1 x2 : Int32) (h0 : 4 ≤ x1.toInt) : xe_P 446 [(1, x1), (2, x2)] := xe_pth (ds := [false, true, true, false, true]) (cs := [(.lt, x1, 0, false), (.ge, x1, 4, true), (.eq, 0, 0, true), (.lt, x1, 0, false), (.gt, x1, 3, true)]) rfl (List.forall_mem_cons.mpr ⟨xe_hs (a := x1.toInt) (b2 := 0) rfl (by decide) (by simp only [xe_ci]; first | (simp only [decide_eq_true_eq]; omega) | (simp only [decide_eq_false_iff_not]; omega) | (simp; omega)), (List.forall_mem_cons.mpr ⟨xe_hs (a := x1.toInt) (b2 := 4) rfl (by decide) (by simp only [xe_ci]; first | (simp only [decide_eq_true_eq]; omega) | (simp only [decide_eq_false_iff_not]; omega) | (simp; omega)), (List.forall_mem_cons.mpr ⟨xe_hd rfl, (List.forall_mem_cons.mpr ⟨xe_hs (a := x1.toInt) (b2 := 0) rfl (by decide) (by simp only [xe_ci]; first | (simp only [decide_eq_true_eq]; omega) | (simp only [decide_eq_false_iff_not]; omega) | (simp; omega)), (List.forall_mem_cons.mpr ⟨xe_hs (a := x1.toInt) (b2 := 3) rfl (by decide) (by simp only [xe_ci]; first | (simp only [decide_eq_true_eq]; omega) | (simp only [decide_eq_false_iff_not]; omega) | (simp; omega)), (fun _ h => absurd h List.not_mem_nil)⟩)⟩)⟩)⟩)⟩)
set_option maxRecDepth 100000 in
set_option maxHeartbeats 4000000 in
theorem i_joining_2 (x1 x2 : Int32) (h0 : 0 ≤ x1.toInt) (h1 : x1.toInt < 4) (h2 : x2.toInt < 0) : xe_P 446 [(1, x1), (2, x2)] := xe_pth (ds := [false, false, false, true, false, false, false, false, true]) (cs := [(.lt, x1, 0, false), (.ge, x1, 4, false), (.eq, 1, 0, false), (.lt, x2, 0, true), (.ne, 0, 0, false), (.lt, x1, 0, false), (.gt, x1, 3, false), (.eq, 1, 0, false), (.lt, x2, 0, true)]) rfl (List.forall_mem_cons.mpr ⟨xe_hs (a := x1.toInt) (b2 := 0) rfl (by decide) (by simp only [xe_ci]; first | (simp only [decide_eq_true_eq]; omega) | (simp only [decide_eq_false_iff_not]; omega) | (simp; omega)), (List.forall_mem_cons.mpr ⟨xe_hs (a := x1.toInt) (b2 := 4) rfl (by decide) (by simp only [xe_ci]; first | (simp only [decide_eq_true_eq]; omega) | (simp only [decide_eq_false_iff_not]; omega) | (simp; omega)), (List.forall_mem_cons.mpr ⟨xe_hd rfl, (List.forall_mem_cons.mpr ⟨xe_hs (a := x2.toInt) (b2 := 0) rfl (by decide) (by simp only [xe_ci]; first | (simp only [decide_eq_true_eq]; omega) | (simp only [decide_eq_false_iff_not]; omega) | (simp; omega)), (List.forall_mem_cons.mpr ⟨xe_hd rfl, (List.forall_mem_cons.mpr ⟨xe_hs (a := x1.toInt) (b2 := 0) rfl (by decide) (by simp only [xe_ci]; first | (simp only [decide_eq_true_eq]; omega) | (simp only [decide_eq_false_iff_not]; omega) | (simp; omega)), (List.forall_mem_cons.mpr ⟨xe_hs (a := x1.toInt) (b2 := 3) rfl (by decide) (by simp only [xe_ci]; first | (simp only [decide_eq_true_eq]; omega) | (simp only [decide_eq_false_iff_not]; omega) | (simp; omega)), (List.forall_mem_cons.mpr ⟨xe_hd rfl, (List.forall_mem_cons.mpr ⟨xe_hs (a := x2.toInt) (b2 := 0) rfl (by decide) (by simp only [xe_ci]; first | (simp only [decide_eq_true_eq]; omega) | (simp only [decide_eq_false_iff_not]; omega) | (simp; omega)), (fun _ h => absurd h List.not_mem_nil)⟩)⟩)⟩)⟩)⟩)⟩)⟩)⟩)⟩)
set_option maxRecDepth 100000 in
set_option maxHeartbeats 4000000 in
theorem i_joining_3 (x1 x2 : Int32) (h0 : 0 ≤ x1.toInt) (h1 : x1.toInt < 4) (h2 : 5 ≤ x2.toInt) : xe_P 446 [(1, x1), (2, x2)] := xe_pth (ds := [false, false, false, false, true, false, false, false, false, false, true]) (cs := [(.lt, x1, 0, false), (.ge, x1, 4, false), (.eq, 1, 0, false), (.lt, x2, 0, false), (.ge, x2, 5, true), (.ne, 0, 0, false), (.lt, x1, 0, false), (.gt, x1, 3, false), (.eq, 1, 0, false), (.lt, x2, 0, false), (.gt, x2, 4, true)]) rfl (List.forall_mem_cons.mpr ⟨xe_hs (a := x1.toInt) (b2 := 0) rfl (by decide) (by simp only [xe_ci]; first | (simp only [decide_eq_true_eq]; omega) | (simp only [decide_eq_false_iff_not]; omega) | (simp; omega)), (List.forall_mem_cons.mpr ⟨xe_hs (a := x1.toInt) (b2 := 4) rfl (by decide) (by simp only [xe_ci]; first | (simp only [decide_eq_true_eq]; omega) | (simp only [decide_eq_false_iff_not]; omega) | (simp; omega)), (List.forall_mem_cons.mpr ⟨xe_hd rfl, (List.forall_mem_cons.mpr ⟨xe_hs (a := x2.toInt) (b2 := 0) rfl (by decide) (by simp only [xe_ci]; first | (simp only [decide_eq_true_eq]; omega) | (simp only [decide_eq_false_iff_not]; omega) | (simp; omega)), (List.forall_mem_cons.mpr ⟨xe_hs (a := x2.toInt) (b2 := 5) rfl (by decide) (by simp only [xe_ci]; first | (simp only [decide_eq_true_eq]; omega) | (simp only [decide_eq_false_iff_not]; omega) | (simp; omega)), (List.forall_mem_cons.mpr ⟨xe_hd rfl, (List.forall_mem_cons.mpr ⟨xe_hs (a := x1.toInt) (b2 := 0) rfl (by decide) (by simp only [xe_ci]; first | (simp only [decide_eq_true_eq]; omega) | (simp only [decide_eq_false_iff_not]; omega) | (simp; omega)), (List.forall_mem_cons.mpr ⟨xe_hs (a := x1.toInt) (b2 := 3) rfl (by decide) (by simp only [xe_ci]; first | (simp only [decide_eq_true_eq]; omega) | (simp only [decide_eq_false_iff_not]; omega) | (simp; omega)), (List.forall_mem_cons.mpr ⟨xe_hd rfl, (List.forall_mem_cons.mpr ⟨xe_hs (a := x2.toInt) (b2 := 0) rfl (by decide) (by simp only [xe_ci]; first | (simp only [decide_eq_true_eq]; omega) | (simp only [decide_eq_false_iff_not]; omega) | (simp; omega)), (List.forall_mem_cons.mpr ⟨xe_hs (a := x2.toInt) (b2 := 4) rfl (by decide) (by simp only [xe_ci]; first | (simp only [decide_eq_true_eq]; omega) | (simp only [decide_eq_false_iff_not]; omega) | (simp; omega)), (fun _ h => absurd h List.not_mem_nil)⟩)⟩)⟩)⟩)⟩)⟩)⟩)⟩)⟩)⟩)⟩)
set_option maxRecDepth 100000 in
set_option maxHeartbeats 4000000 in
theorem i_made_0 (x1 x2 : Int32) (h0 : x1.toInt < 0) : xe_P 479 [(1, x1), (2, x2)] := xe_pth (ds := [true, true, true]) (cs := [(.lt, x1, 0, true), (.eq, 0, 0, true), (.lt, x1, 0, true)]) rfl (List.forall_mem_cons.mpr ⟨xe_hs (a := x1.toInt) (b2 := 0) rfl (by decide) (by simp only [xe_ci]; first | (simp only [decide_eq_true_eq]; omega) | (simp only [decide_eq_false_iff_not]; omega) | (simp; omega)), (List.forall_mem_cons.mpr ⟨xe_hd rfl, (List.forall_mem_cons.mpr ⟨xe_hs (a := x1.toInt) (b2 := 0) rfl (by decide) (by simp only [xe_ci]; first | (simp only [decide_eq_true_eq]; omega) | (simp only [decide_eq_false_iff_not]; omega) | (simp; omega)), (fun _ h => absurd h List.not_mem_nil)⟩)⟩)⟩)
set_option maxRecDepth 100000 in
set_option maxHeartbeats 4000000 in
theorem i_made_1 (x1 x2 : Int32) (h0 : 4 ≤ x1.toInt) : xe_P 479 [(1, x1), (2, x2)] := xe_pth (ds := [false, true, true, false, true]) (cs := [(.lt, x1, 0, false), (.ge, x1, 4, true), (.eq, 0, 0, true), (.lt, x1, 0, false), (.gt, x1, 3, true)]) rfl (List.forall_mem_cons.mpr ⟨xe_hs (a := x1.toInt) (b2 := 0) rfl (by decide) (by simp only [xe_ci]; first | (simp only [decide_eq_true_eq]; omega) | (simp only [decide_eq_false_iff_not]; omega) | (simp; omega)), (List.forall_mem_cons.mpr ⟨xe_hs (a := x1.toInt) (b2 := 4) rfl (by decide) (by simp only [xe_ci]; first | (simp only [decide_eq_true_eq]; omega) | (simp only [decide_eq_false_iff_not]; omega) | (simp; omega)), (List.forall_mem_cons.mpr ⟨xe_hd rfl, (List.forall_mem_cons.mpr ⟨xe_hs (a := x1.toInt) (b2 := 0) rfl (by decide) (by simp only [xe_ci]; first | (simp only [decide_eq_true_eq]; omega) | (simp only [decide_eq_false_iff_not]; omega) | (simp; omega)), (List.forall_mem_cons.mpr ⟨xe_hs (a := x1.toInt) (b2 := 3) rfl (by decide) (by simp only [xe_ci]; first | (simp only [decide_eq_true_eq]; omega) | (simp only [decide_eq_false_iff_not]; omega) | (simp; omega)), (fun _ h => absurd h List.not_mem_nil)⟩)⟩)⟩)⟩)⟩)
set_option maxRecDepth 100000 in
set_option maxHeartbeats 4000000 in
theorem i_made_2 (x2 : Int32) (h0 : x2.toInt < 0) : xe_P 479 [(1, 0), (2, x2)] := xe_pth (ds := [false, false, false, true, false, false, false, false, true]) (cs := [(.lt, 0, 0, false), (.ge, 0, 4, false), (.eq, 1, 0, false), (.lt, x2, 0, true), (.ne, 0, 0, false), (.lt, 0, 0, false), (.gt, 0, 3, false), (.eq, 1, 0, false), (.lt, x2, 0, true)]) rfl (List.forall_mem_cons.mpr ⟨xe_hd rfl, (List.forall_mem_cons.mpr ⟨xe_hd rfl, (List.forall_mem_cons.mpr ⟨xe_hd rfl, (List.forall_mem_cons.mpr ⟨xe_hs (a := x2.toInt) (b2 := 0) rfl (by decide) (by simp only [xe_ci]; first | (simp only [decide_eq_true_eq]; omega) | (simp only [decide_eq_false_iff_not]; omega) | (simp; omega)), (List.forall_mem_cons.mpr ⟨xe_hd rfl, (List.forall_mem_cons.mpr ⟨xe_hd rfl, (List.forall_mem_cons.mpr ⟨xe_hd rfl, (List.forall_mem_cons.mpr ⟨xe_hd rfl, (List.forall_mem_cons.mpr ⟨xe_hs (a := x2.toInt) (b2 := 0) rfl (by decide) (by simp only [xe_ci]; first | (simp only [decide_eq_true_eq]; omega) | (simp only [decide_eq_false_iff_not]; omega) | (simp; omega)), (fun _ h => absurd h List.not_mem_nil)⟩)⟩)⟩)⟩)⟩)⟩)⟩)⟩)⟩)
set_option maxRecDepth 100000 in
set_option maxHeartbeats 4000000 in
theorem i_made_3 (x2 : Int32) (h0 : 2 ≤ x2.toInt) : xe_P 479 [(1, 0), (2, x2)] := xe_pth (ds := [false, false, false, false, true, false, false, false, false, false, true]) (cs := [(.lt, 0, 0, false), (.ge, 0, 4, false), (.eq, 1, 0, false), (.lt, x2, 0, false), (.ge, x2, 2, true), (.ne, 0, 0, false), (.lt, 0, 0, false), (.gt, 0, 3, false), (.eq, 1, 0, false), (.lt, x2, 0, false), (.gt, x2, 1, true)]) rfl (List.forall_mem_cons.mpr ⟨xe_hd rfl, (List.forall_mem_cons.mpr ⟨xe_hd rfl, (List.forall_mem_cons.mpr ⟨xe_hd rfl, (List.forall_mem_cons.mpr ⟨xe_hs (a := x2.toInt) (b2 := 0) rfl (by decide) (by simp only [xe_ci]; first | (simp only [decide_eq_true_eq]; omega) | (simp only [decide_eq_false_iff_not]; omega) | (simp; omega)), (List.forall_mem_cons.mpr ⟨xe_hs (a := x2.toInt) (b2 := 2) rfl (by decide) (by simp only [xe_ci]; first | (simp only [decide_eq_true_eq]; omega) | (simp only [decide_eq_false_iff_not]; omega) | (simp; omega)), (List.forall_mem_cons.mpr ⟨xe_hd rfl, (List.forall_mem_cons.mpr ⟨xe_hd rfl, (List.forall_mem_cons.mpr ⟨xe_hd rfl, (List.forall_mem_cons.mpr ⟨xe_hd rfl, (List.forall_mem_cons.mpr ⟨xe_hs (a := x2.toInt) (b2 := 0) rfl (by decide) (by simp only [xe_ci]; first | (simp only [decide_eq_true_eq]; omega) | (simp only [decide_eq_false_iff_not]; omega) | (simp; omega)), (List.forall_mem_cons.mpr ⟨xe_hs (a := x2.toInt) (b2 := 1) rfl (by decide) (by simp only [xe_ci]; first | (simp only [decide_eq_true_eq]; omega) | (simp only [decide_eq_false_iff_not]; omega) | (simp; omega)), (fun _ h => absurd h List.not_mem_nil)⟩)⟩)⟩)⟩)⟩)⟩)⟩)⟩)⟩)⟩)⟩)
set_option maxRecDepth 100000 in
set_option maxHeartbeats 4000000 in
theorem i_made_4 (x2 : Int32) (h0 : x2.toInt < 0) : xe_P 479 [(1, 1), (2, x2)] := xe_pth (ds := [false, false, false, true, false, false, false, false, true]) (cs := [(.lt, 1, 0, false), (.ge, 1, 4, false), (.eq, 1, 0, false), (.lt, x2, 0, true), (.ne, 0, 0, false), (.lt, 1, 0, false), (.gt, 1, 3, false), (.eq, 1, 0, false), (.lt, x2, 0, true)]) rfl (List.forall_mem_cons.mpr ⟨xe_hd rfl, (List.forall_mem_cons.mpr ⟨xe_hd rfl, (List.forall_mem_cons.mpr ⟨xe_hd rfl, (List.forall_mem_cons.mpr ⟨xe_hs (a := x2.toInt) (b2 := 0) rfl (by decide) (by simp only [xe_ci]; first | (simp only [decide_eq_true_eq]; omega) | (simp only [decide_eq_false_iff_not]; omega) | (simp; omega)), (List.forall_mem_cons.mpr ⟨xe_hd rfl, (List.forall_mem_cons.mpr ⟨xe_hd rfl, (List.forall_mem_cons.mpr ⟨xe_hd rfl, (List.forall_mem_cons.mpr ⟨xe_hd rfl, (List.forall_mem_cons.mpr ⟨xe_hs (a := x2.toInt) (b2 := 0) rfl (by decide) (by simp only [xe_ci]; first | (simp only [decide_eq_true_eq]; omega) | (simp only [decide_eq_false_iff_not]; omega) | (simp; omega)), (fun _ h => absurd h List.not_mem_nil)⟩)⟩)⟩)⟩)⟩)⟩)⟩)⟩)⟩)
set_option maxRecDepth 100000 in
set_option maxHeartbeats 4000000 in
theorem i_made_5 (x2 : Int32) (h0 : 2 ≤ x2.toInt) : xe_P 479 [(1, 1), (2, x2)] := xe_pth (ds := [false, false, false, false, true, false, false, false, false, false, true]) (cs := [(.lt, 1, 0, false), (.ge, 1, 4, false), (.eq, 1, 0, false), (.lt, x2, 0, false), (.ge, x2, 2, true), (.ne, 0, 0, false), (.lt, 1, 0, false), (.gt, 1, 3, false), (.eq, 1, 0, false), (.lt, x2, 0, false), (.gt, x2, 1, true)]) rfl (List.forall_mem_cons.mpr ⟨xe_hd rfl, (List.forall_mem_cons.mpr ⟨xe_hd rfl, (List.forall_mem_cons.mpr ⟨xe_hd rfl, (List.forall_mem_cons.mpr ⟨xe_hs (a := x2.toInt) (b2 := 0) rfl (by decide) (by simp only [xe_ci]; first | (simp only [decide_eq_true_eq]; omega) | (simp only [decide_eq_false_iff_not]; omega) | (simp; omega)), (List.forall_mem_cons.mpr ⟨xe_hs (a := x2.toInt) (b2 := 2) rfl (by decide) (by simp only [xe_ci]; first | (simp only [decide_eq_true_eq]; omega) | (simp only [decide_eq_false_iff_not]; omega) | (simp; omega)), (List.forall_mem_cons.mpr ⟨xe_hd rfl, (List.forall_mem_cons.mpr ⟨xe_hd rfl, (List.forall_mem_cons.mpr ⟨xe_hd rfl, (List.forall_mem_cons.mpr ⟨xe_hd rfl, (List.forall_mem_cons.mpr ⟨xe_hs (a := x2.toInt) (b2 := 0) rfl (by decide) (by simp only [xe_ci]; first | (simp only [decide_eq_true_eq]; omega) | (simp only [decide_eq_false_iff_not]; omega) | (simp; omega)), (List.forall_mem_cons.mpr ⟨xe_hs (a := x2.toInt) (b2 := 1) rfl (by decide) (by simp only [xe_ci]; first | (simp only [decide_eq_true_eq]; omega) | (simp only [decide_eq_false_iff_not]; omega) | (simp; omega)), (fun _ h => absurd h List.not_mem_nil)⟩)⟩)⟩)⟩)⟩)⟩)⟩)⟩)⟩)⟩)⟩)
set_option maxRecDepth 100000 in
set_option maxHeartbeats 4000000 in
theorem i_made_6 (x2 : Int32) (h0 : x2.toInt < 0) : xe_P 479 [(1, 2), (2, x2)] := xe_pth (ds := [false, false, false, true, false, false, false, false, true]) (cs := [(.lt, 2, 0, false), (.ge, 2, 4, false), (.eq, 1, 0, false), (.lt, x2, 0, true), (.ne, 0, 0, false), (.lt, 2, 0, false), (.gt, 2, 3, false), (.eq, 1, 0, false), (.lt, x2, 0, true)]) rfl (List.forall_mem_cons.mpr ⟨xe_hd rfl, (List.forall_mem_cons.mpr ⟨xe_hd rfl, (List.forall_mem_cons.mpr ⟨xe_hd rfl, (List.forall_mem_cons.mpr ⟨xe_hs (a := x2.toInt) (b2 := 0) rfl (by decide) (by simp only [xe_ci]; first | (simp only [decide_eq_true_eq]; omega) | (simp only [decide_eq_false_iff_not]; omega) | (simp; omega)), (List.forall_mem_cons.mpr ⟨xe_hd rfl, (List.forall_mem_cons.mpr ⟨xe_hd rfl, (List.forall_mem_cons.mpr ⟨xe_hd rfl, (List.forall_mem_cons.mpr ⟨xe_hd rfl, (List.forall_mem_cons.mpr ⟨xe_hs (a := x2.toInt) (b2 := 0) rfl (by decide) (by simp only [xe_ci]; first | (simp only [decide_eq_true_eq]; omega) | (simp only [decide_eq_false_iff_not]; omega) | (simp; omega)), (fun _ h => absurd h List.not_mem_nil)⟩)⟩)⟩)⟩)⟩)⟩)⟩)⟩)⟩)
set_option maxRecDepth 100000 in
set_option maxHeartbeats 4000000 in
theorem i_made_7 (x2 : Int32) (h0 : 2 ≤ x2.toInt) : xe_P 479 [(1, 2), (2, x2)] := xe_pth (ds := [false, false, false, false, true, false, false, false, false, false, true]) (cs := [(.lt, 2, 0, false), (.ge, 2, 4, false), (.eq, 1, 0, false), (.lt, x2, 0, false), (.ge, x2, 2, true), (.ne, 0, 0, false), (.lt, 2, 0, false), (.gt, 2, 3, false), (.eq, 1, 0, false), (.lt, x2, 0, false), (.gt, x2, 1, true)]) rfl (List.forall_mem_cons.mpr ⟨xe_hd rfl, (List.forall_mem_cons.mpr ⟨xe_hd rfl, (List.forall_mem_cons.mpr ⟨xe_hd rfl, (List.forall_mem_cons.mpr ⟨xe_hs (a := x2.toInt) (b2 := 0) rfl (by decide) (by simp only [xe_ci]; first | (simp only [decide_eq_true_eq]; omega) | (simp only [decide_eq_false_iff_not]; omega) | (simp; omega)), (List.forall_mem_cons.mpr ⟨xe_hs (a := x2.toInt) (b2 := 2) rfl (by decide) (by simp only [xe_ci]; first | (simp only [decide_eq_true_eq]; omega) | (simp only [decide_eq_false_iff_not]; omega) | (simp; omega)), (List.forall_mem_cons.mpr ⟨xe_hd rfl, (List.forall_mem_cons.mpr ⟨xe_hd rfl, (List.forall_mem_cons.mpr ⟨xe_hd rfl, (List.forall_mem_cons.mpr ⟨xe_hd rfl, (List.forall_mem_cons.mpr ⟨xe_hs (a := x2.toInt) (b2 := 0) rfl (by decide) (by simp only [xe_ci]; first | (simp only [decide_eq_true_eq]; omega) | (simp only [decide_eq_false_iff_not]; omega) | (simp; omega)), (List.forall_mem_cons.mpr ⟨xe_hs (a := x2.toInt) (b2 := 1) rfl (by decide) (by simp only [xe_ci]; first | (simp only [decide_eq_true_eq]; omega) | (simp only [decide_eq_false_iff_not]; omega) | (simp; omega)), (fun _ h => absurd h List.not_mem_nil)⟩)⟩)⟩)⟩)⟩)⟩)⟩)⟩)⟩)⟩)⟩)
set_option maxRecDepth 100000 in
set_option maxHeartbeats 4000000 in
theorem i_made_8 (x2 : Int32) (h0 : x2.toInt < 0) : xe_P 479 [(1, 3), (2, x2)] := xe_pth (ds := [false, false, false, true, false, false, false, false, true]) (cs := [(.lt, 3, 0, false), (.ge, 3, 4, false), (.eq, 1, 0, false), (.lt, x2, 0, true), (.ne, 0, 0, false), (.lt, 3, 0, false), (.gt, 3, 3, false), (.eq, 1, 0, false), (.lt, x2, 0, true)]) rfl (List.forall_mem_cons.mpr ⟨xe_hd rfl, (List.forall_mem_cons.mpr ⟨xe_hd rfl, (List.forall_mem_cons.mpr ⟨xe_hd rfl, (List.forall_mem_cons.mpr ⟨xe_hs (a := x2.toInt) (b2 := 0) rfl (by decide) (by simp only [xe_ci]; first | (simp only [decide_eq_true_eq]; omega) | (simp only [decide_eq_false_iff_not]; omega) | (simp; omega)), (List.forall_mem_cons.mpr ⟨xe_hd rfl, (List.forall_mem_cons.mpr ⟨xe_hd rfl, (List.forall_mem_cons.mpr ⟨xe_hd rfl, (List.forall_mem_cons.mpr ⟨xe_hd rfl, (List.forall_mem_cons.mpr ⟨xe_hs (a := x2.toInt) (b2 := 0) rfl (by decide) (by simp only [xe_ci]; first | (simp only [decide_eq_true_eq]; omega) | (simp only [decide_eq_false_iff_not]; omega) | (simp; omega)), (fun _ h => absurd h List.not_mem_nil)⟩)⟩)⟩)⟩)⟩)⟩)⟩)⟩)⟩)
set_option maxRecDepth 100000 in
set_option maxHeartbeats 4000000 in
theorem i_made_9 (x2 : Int32) (h0 : 2 ≤ x2.toInt) : xe_P 479 [(1, 3), (2, x2)] := xe_pth (ds := [false, false, false, false, true, false, false, false, false, false, true]) (cs := [(.lt, 3, 0, false), (.ge, 3, 4, false), (.eq, 1, 0, false), (.lt, x2, 0, false), (.ge, x2, 2, true), (.ne, 0, 0, false), (.lt, 3, 0, false), (.gt, 3, 3, false), (.eq, 1, 0, false), (.lt, x2, 0, false), (.gt, x2, 1, true)]) rfl (List.forall_mem_cons.mpr ⟨xe_hd rfl, (List.forall_mem_cons.mpr ⟨xe_hd rfl, (List.forall_mem_cons.mpr ⟨xe_hd rfl, (List.forall_mem_cons.mpr ⟨xe_hs (a := x2.toInt) (b2 := 0) rfl (by decide) (by simp only [xe_ci]; first | (simp only [decide_eq_true_eq]; omega) | (simp only [decide_eq_false_iff_not]; omega) | (simp; omega)), (List.forall_mem_cons.mpr ⟨xe_hs (a := x2.toInt) (b2 := 2) rfl (by decide) (by simp only [xe_ci]; first | (simp only [decide_eq_true_eq]; omega) | (simp only [decide_eq_false_iff_not]; omega) | (simp; omega)), (List.forall_mem_cons.mpr ⟨xe_hd rfl, (List.forall_mem_cons.mpr ⟨xe_hd rfl, (List.forall_mem_cons.mpr ⟨xe_hd rfl, (List.forall_mem_cons.mpr ⟨xe_hd rfl, (List.forall_mem_cons.mpr ⟨xe_hs (a := x2.toInt) (b2 := 0) rfl (by decide) (by simp only [xe_ci]; first | (simp only [decide_eq_true_eq]; omega) | (simp only [decide_eq_false_iff_not]; omega) | (simp; omega)), (List.forall_mem_cons.mpr ⟨xe_hs (a := x2.toInt) (b2 := 1) rfl (by decide) (by simp only [xe_ci]; first | (simp only [decide_eq_true_eq]; omega) | (simp only [decide_eq_false_iff_not]; omega) | (simp; omega)), (fun _ h => absurd h List.not_mem_nil)⟩)⟩)⟩)⟩)⟩)⟩)⟩)⟩)⟩)⟩)⟩)
set_option maxRecDepth 100000 in
set_option maxHeartbeats 4000000 in
theorem i_parts_0 (x1 x2 : Int32) (h0 : x1.toInt < 0) : xe_P 512 [(1, x1), (2, x2)] := xe_pth (ds := [true, true, true]) (cs := [(.lt, x1, 0, true), (.eq, 0, 0, true), (.lt, x1, 0, true)]) rfl (List.forall_mem_cons.mpr ⟨xe_hs (a := x1.toInt) (b2 := 0) rfl (by decide) (by simp only [xe_ci]; first | (simp only [decide_eq_true_eq]; omega) | (simp only [decide_eq_false_iff_not]; omega) | (simp; omega)), (List.forall_mem_cons.mpr ⟨xe_hd rfl, (List.forall_mem_cons.mpr ⟨xe_hs (a := x1.toInt) (b2 := 0) rfl (by decide) (by simp only [xe_ci]; first | (simp only [decide_eq_true_eq]; omega) | (simp only [decide_eq_false_iff_not]; omega) | (simp; omega)), (fun _ h => absurd h List.not_mem_nil)⟩)⟩)⟩)
set_option maxRecDepth 100000 in
set_option maxHeartbeats 4000000 in
theorem i_parts_1 (x1 x2 : Int32) (h0 : 4 ≤ x1.toInt) : xe_P 512 [(1, x1), (2, x2)] := xe_pth (ds := [false, true, true, false, true]) (cs := [(.lt, x1, 0, false), (.ge, x1, 4, true), (.eq, 0, 0, true), (.lt, x1, 0, false), (.gt, x1, 3, true)]) rfl (List.forall_mem_cons.mpr ⟨xe_hs (a := x1.toInt) (b2 := 0) rfl (by decide) (by simp only [xe_ci]; first | (simp only [decide_eq_true_eq]; omega) | (simp only [decide_eq_false_iff_not]; omega) | (simp; omega)), (List.forall_mem_cons.mpr ⟨xe_hs (a := x1.toInt) (b2 := 4) rfl (by decide) (by simp only [xe_ci]; first | (simp only [decide_eq_true_eq]; omega) | (simp only [decide_eq_false_iff_not]; omega) | (simp; omega)), (List.forall_mem_cons.mpr ⟨xe_hd rfl, (List.forall_mem_cons.mpr ⟨xe_hs (a := x1.toInt) (b2 := 0) rfl (by decide) (by simp only [xe_ci]; first | (simp only [decide_eq_true_eq]; omega) | (simp only [decide_eq_false_iff_not]; omega) | (simp; omega)), (List.forall_mem_cons.mpr ⟨xe_hs (a := x1.toInt) (b2 := 3) rfl (by decide) (by simp only [xe_ci]; first | (simp only [decide_eq_true_eq]; omega) | (simp only [decide_eq_false_iff_not]; omega) | (simp; omega)), (fun _ h => absurd h List.not_mem_nil)⟩)⟩)⟩)⟩)⟩)
set_option maxRecDepth 100000 in
set_option maxHeartbeats 4000000 in
theorem i_parts_2 (x1 x2 : Int32) (h0 : 0 ≤ x1.toInt) (h1 : x1.toInt < 4) (h2 : x2.toInt < 0) : xe_P 512 [(1, x1), (2, x2)] := xe_pth (ds := [false, false, false, true, false, false, false, false, true]) (cs := [(.lt, x1, 0, false), (.ge, x1, 4, false), (.eq, 1, 0, false), (.lt, x2, 0, true), (.ne, 0, 0, false), (.lt, x1, 0, false), (.gt, x1, 3, false), (.eq, 1, 0, false), (.lt, x2, 0, true)]) rfl (List.forall_mem_cons.mpr ⟨xe_hs (a := x1.toInt) (b2 := 0) rfl (by decide) (by simp only [xe_ci]; first | (simp only [decide_eq_true_eq]; omega) | (simp only [decide_eq_false_iff_not]; omega) | (simp; omega)), (List.forall_mem_cons.mpr ⟨xe_hs (a := x1.toInt) (b2 := 4) rfl (by decide) (by simp only [xe_ci]; first | (simp only [decide_eq_true_eq]; omega) | (simp only [decide_eq_false_iff_not]; omega) | (simp; omega)), (List.forall_mem_cons.mpr ⟨xe_hd rfl, (List.forall_mem_cons.mpr ⟨xe_hs (a := x2.toInt) (b2 := 0) rfl (by decide) (by simp only [xe_ci]; first | (simp only [decide_eq_true_eq]; omega) | (simp only [decide_eq_false_iff_not]; omega) | (simp; omega)), (List.forall_mem_cons.mpr ⟨xe_hd rfl, (List.forall_mem_cons.mpr ⟨xe_hs (a := x1.toInt) (b2 := 0) rfl (by decide) (by simp only [xe_ci]; first | (simp only [decide_eq_true_eq]; omega) | (simp only [decide_eq_false_iff_not]; omega) | (simp; omega)), (List.forall_mem_cons.mpr ⟨xe_hs (a := x1.toInt) (b2 := 3) rfl (by decide) (by simp only [xe_ci]; first | (simp only [decide_eq_true_eq]; omega) | (simp only [decide_eq_false_iff_not]; omega) | (simp; omega)), (List.forall_mem_cons.mpr ⟨xe_hd rfl, (List.forall_mem_cons.mpr ⟨xe_hs (a := x2.toInt) (b2 := 0) rfl (by decide) (by simp only [xe_ci]; first | (simp only [decide_eq_true_eq]; omega) | (simp only [decide_eq_false_iff_not]; omega) | (simp; omega)), (fun _ h => absurd h List.not_mem_nil)⟩)⟩)⟩)⟩)⟩)⟩)⟩)⟩)⟩)
set_option maxRecDepth 100000 in
set_option maxHeartbeats 4000000 in
theorem i_parts_3 (x1 x2 : Int32) (h0 : 0 ≤ x1.toInt) (h1 : x1.toInt < 4) (h2 : 2 ≤ x2.toInt) : xe_P 512 [(1, x1), (2, x2)] := xe_pth (ds := [false, false, false, false, true, false, false, false, false, false, true]) (cs := [(.lt, x1, 0, false), (.ge, x1, 4, false), (.eq, 1, 0, false), (.lt, x2, 0, false), (.ge, x2, 2, true), (.ne, 0, 0, false), (.lt, x1, 0, false), (.gt, x1, 3, false), (.eq, 1, 0, false), (.lt, x2, 0, false), (.gt, x2, 1, true)]) rfl (List.forall_mem_cons.mpr ⟨xe_hs (a := x1.toInt) (b2 := 0) rfl (by decide) (by simp only [xe_ci]; first | (simp only [decide_eq_true_eq]; omega) | (simp only [decide_eq_false_iff_not]; omega) | (simp; omega)), (List.forall_mem_cons.mpr ⟨xe_hs (a := x1.toInt) (b2 := 4) rfl (by decide) (by simp only [xe_ci]; first | (simp only [decide_eq_true_eq]; omega) | (simp only [decide_eq_false_iff_not]; omega) | (simp; omega)), (List.forall_mem_cons.mpr ⟨xe_hd rfl, (List.forall_mem_cons.mpr ⟨xe_hs (a := x2.toInt) (b2 := 0) rfl (by decide) (by simp only [xe_ci]; first | (simp only [decide_eq_true_eq]; omega) | (simp only [decide_eq_false_iff_not]; omega) | (simp; omega)), (List.forall_mem_cons.mpr ⟨xe_hs (a := x2.toInt) (b2 := 2) rfl (by decide) (by simp only [xe_ci]; first | (simp only [decide_eq_true_eq]; omega) | (simp only [decide_eq_false_iff_not]; omega) | (simp; omega)), (List.forall_mem_cons.mpr ⟨xe_hd rfl, (List.forall_mem_cons.mpr ⟨xe_hs (a := x1.toInt) (b2 := 0) rfl (by decide) (by simp only [xe_ci]; first | (simp only [decide_eq_true_eq]; omega) | (simp only [decide_eq_false_iff_not]; omega) | (simp; omega)), (List.forall_mem_cons.mpr ⟨xe_hs (a := x1.toInt) (b2 := 3) rfl (by decide) (by simp only [xe_ci]; first | (simp only [decide_eq_true_eq]; omega) | (simp only [decide_eq_false_iff_not]; omega) | (simp; omega)), (List.forall_mem_cons.mpr ⟨xe_hd rfl, (List.forall_mem_cons.mpr ⟨xe_hs (a := x2.toInt) (b2 := 0) rfl (by decide) (by simp only [xe_ci]; first | (simp only [decide_eq_true_eq]; omega) | (simp only [decide_eq_false_iff_not]; omega) | (simp; omega)), (List.forall_mem_cons.mpr ⟨xe_hs (a := x2.toInt) (b2 := 1) rfl (by decide) (by simp only [xe_ci]; first | (simp only [decide_eq_true_eq]; omega) | (simp only [decide_eq_false_iff_not]; omega) | (simp; omega)), (fun _ h => absurd h List.not_mem_nil)⟩)⟩)⟩)⟩)⟩)⟩)⟩)⟩)⟩)⟩)⟩)
set_option maxRecDepth 100000 in
set_option maxHeartbeats 4000000 in
theorem i_normal_0 (x1 x2 : Int32) (h0 : x1.toInt < 0) : xe_P 545 [(1, x1), (2, x2)] := xe_pth (ds := [true, false, true]) (cs := [(.lt, x1, 0, true), (.ne, 0, 0, false), (.lt, x1, 0, true)]) rfl (List.forall_mem_cons.mpr ⟨xe_hs (a := x1.toInt) (b2 := 0) rfl (by decide) (by simp only [xe_ci]; first | (simp only [decide_eq_true_eq]; omega) | (simp only [decide_eq_false_iff_not]; omega) | (simp; omega)), (List.forall_mem_cons.mpr ⟨xe_hd rfl, (List.forall_mem_cons.mpr ⟨xe_hs (a := x1.toInt) (b2 := 0) rfl (by decide) (by simp only [xe_ci]; first | (simp only [decide_eq_true_eq]; omega) | (simp only [decide_eq_false_iff_not]; omega) | (simp; omega)), (fun _ h => absurd h List.not_mem_nil)⟩)⟩)⟩)
set_option maxRecDepth 100000 in
set_option maxHeartbeats 4000000 in
theorem i_normal_1 (x1 x2 : Int32) (h0 : 4 ≤ x1.toInt) : xe_P 545 [(1, x1), (2, x2)] := xe_pth (ds := [false, true, false, false, true]) (cs := [(.lt, x1, 0, false), (.ge, x1, 4, true), (.ne, 0, 0, false), (.lt, x1, 0, false), (.gt, x1, 3, true)]) rfl (List.forall_mem_cons.mpr ⟨xe_hs (a := x1.toInt) (b2 := 0) rfl (by decide) (by simp only [xe_ci]; first | (simp only [decide_eq_true_eq]; omega) | (simp only [decide_eq_false_iff_not]; omega) | (simp; omega)), (List.forall_mem_cons.mpr ⟨xe_hs (a := x1.toInt) (b2 := 4) rfl (by decide) (by simp only [xe_ci]; first | (simp only [decide_eq_true_eq]; omega) | (simp only [decide_eq_false_iff_not]; omega) | (simp; omega)), (List.forall_mem_cons.mpr ⟨xe_hd rfl, (List.forall_mem_cons.mpr ⟨xe_hs (a := x1.toInt) (b2 := 0) rfl (by decide) (by simp only [xe_ci]; first | (simp only [decide_eq_true_eq]; omega) | (simp only [decide_eq_false_iff_not]; omega) | (simp; omega)), (List.forall_mem_cons.mpr ⟨xe_hs (a := x1.toInt) (b2 := 3) rfl (by decide) (by simp only [xe_ci]; first | (simp only [decide_eq_true_eq]; omega) | (simp only [decide_eq_false_iff_not]; omega) | (simp; omega)), (fun _ h => absurd h List.not_mem_nil)⟩)⟩)⟩)⟩)⟩)
set_option maxRecDepth 100000 in
set_option maxHeartbeats 4000000 in
theorem i_normal_2 (x2 : Int32) (h0 : x2.toInt < 0) : xe_P 545 [(1, 0), (2, x2)] := xe_pth (ds := [false, false, true, true, false, false, false, false, false, true]) (cs := [(.lt, 0, 0, false), (.ge, 0, 4, false), (.ne, 1, 0, true), (.lt, x2, 0, true), (.ne, 0, 0, false), (.eq, (-1), 0, false), (.lt, 0, 0, false), (.gt, 0, 3, false), (.eq, 1, 0, false), (.lt, x2, 0, true)]) rfl (List.forall_mem_cons.mpr ⟨xe_hd rfl, (List.forall_mem_cons.mpr ⟨xe_hd rfl, (List.forall_mem_cons.mpr ⟨xe_hd rfl, (List.forall_mem_cons.mpr ⟨xe_hs (a := x2.toInt) (b2 := 0) rfl (by decide) (by simp only [xe_ci]; first | (simp only [decide_eq_true_eq]; omega) | (simp only [decide_eq_false_iff_not]; omega) | (simp; omega)), (List.forall_mem_cons.mpr ⟨xe_hd rfl, (List.forall_mem_cons.mpr ⟨xe_hd rfl, (List.forall_mem_cons.mpr ⟨xe_hd rfl, (List.forall_mem_cons.mpr ⟨xe_hd rfl, (List.forall_mem_cons.mpr ⟨xe_hd rfl, (List.forall_mem_cons.mpr ⟨xe_hs (a := x2.toInt) (b2 := 0) rfl (by decide) (by simp only [xe_ci]; first | (simp only [decide_eq_true_eq]; omega) | (simp only [decide_eq_false_iff_not]; omega) | (simp; omega)), (fun _ h => absurd h List.not_mem_nil)⟩)⟩)⟩)⟩)⟩)⟩)⟩)⟩)⟩)⟩)
set_option maxRecDepth 100000 in
set_option maxHeartbeats 4000000 in
theorem i_normal_3 (x2 : Int32) (h0 : 2 ≤ x2.toInt) : xe_P 545 [(1, 0), (2, x2)] := xe_pth (ds := [false, false, true, false, true, false, false, false, false, false, false, true]) (cs := [(.lt, 0, 0, false), (.ge, 0, 4, false), (.ne, 1, 0, true), (.lt, x2, 0, false), (.ge, x2, 2, true), (.ne, 0, 0, false), (.eq, (-1), 0, false), (.lt, 0, 0, false), (.gt, 0, 3, false), (.eq, 1, 0, false), (.lt, x2, 0, false), (.gt, x2, 1, true)]) rfl (List.forall_mem_cons.mpr ⟨xe_hd rfl, (List.forall_mem_cons.mpr ⟨xe_hd rfl, (List.forall_mem_cons.mpr ⟨xe_hd rfl, (List.forall_mem_cons.mpr ⟨xe_hs (a := x2.toInt) (b2 := 0) rfl (by decide) (by simp only [xe_ci]; first | (simp only [decide_eq_true_eq]; omega) | (simp only [decide_eq_false_iff_not]; omega) | (simp; omega)), (List.forall_mem_cons.mpr ⟨xe_hs (a := x2.toInt) (b2 := 2) rfl (by decide) (by simp only [xe_ci]; first | (simp only [decide_eq_true_eq]; omega) | (simp only [decide_eq_false_iff_not]; omega) | (simp; omega)), (List.forall_mem_cons.mpr ⟨xe_hd rfl, (List.forall_mem_cons.mpr ⟨xe_hd rfl, (List.forall_mem_cons.mpr ⟨xe_hd rfl, (List.forall_mem_cons.mpr ⟨xe_hd rfl, (List.forall_mem_cons.mpr ⟨xe_hd rfl, (List.forall_mem_cons.mpr ⟨xe_hs (a := x2.toInt) (b2 := 0) rfl (by decide) (by simp only [xe_ci]; first | (simp only [decide_eq_true_eq]; omega) | (simp only [decide_eq_false_iff_not]; omega) | (simp; omega)), (List.forall_mem_cons.mpr ⟨xe_hs (a := x2.toInt) (b2 := 1) rfl (by decide) (by simp only [xe_ci]; first | (simp only [decide_eq_true_eq]; omega) | (simp only [decide_eq_false_iff_not]; omega) | (simp; omega)), (fun _ h => absurd h List.not_mem_nil)⟩)⟩)⟩)⟩)⟩)⟩)⟩)⟩)⟩)⟩)⟩)⟩)
set_option maxRecDepth 100000 in
set_option maxHeartbeats 4000000 in
theorem i_normal_4 (x2 : Int32) (h0 : x2.toInt < 0) : xe_P 545 [(1, 1), (2, x2)] := xe_pth (ds := [false, false, true, true, false, false, false, false, false, true]) (cs := [(.lt, 1, 0, false), (.ge, 1, 4, false), (.ne, 1, 0, true), (.lt, x2, 0, true), (.ne, 0, 0, false), (.eq, (-1), 0, false), (.lt, 1, 0, false), (.gt, 1, 3, false), (.eq, 1, 0, false), (.lt, x2, 0, true)]) rfl (List.forall_mem_cons.mpr ⟨xe_hd rfl, (List.forall_mem_cons.mpr ⟨xe_hd rfl, (List.forall_mem_cons.mpr ⟨xe_hd rfl, (List.forall_mem_cons.mpr ⟨xe_hs (a := x2.toInt) (b2 := 0) rfl (by decide) (by simp only [xe_ci]; first | (simp only [decide_eq_true_eq]; omega) | (simp only [decide_eq_false_iff_not]; omega) | (simp; omega)), (List.forall_mem_cons.mpr ⟨xe_hd rfl, (List.forall_mem_cons.mpr ⟨xe_hd rfl, (List.forall_mem_cons.mpr ⟨xe_hd rfl, (List.forall_mem_cons.mpr ⟨xe_hd rfl, (List.forall_mem_cons.mpr ⟨xe_hd rfl, (List.forall_mem_cons.mpr ⟨xe_hs (a := x2.toInt) (b2 := 0) rfl (by decide) (by simp only [xe_ci]; first | (simp only [decide_eq_true_eq]; omega) | (simp only [decide_eq_false_iff_not]; omega) | (simp; omega)), (fun _ h => absurd h List.not_mem_nil)⟩)⟩)⟩)⟩)⟩)⟩)⟩)⟩)⟩)⟩)
set_option maxRecDepth 100000 in
set_option maxHeartbeats 4000000 in
theorem i_normal_5 (x2 : Int32) (h0 : 2 ≤ x2.toInt) : xe_P 545 [(1, 1), (2, x2)] := xe_pth (ds := [false, false, true, false, true, false, false, false, false, false, false, true]) (cs := [(.lt, 1, 0, false), (.ge, 1, 4, false), (.ne, 1, 0, true), (.lt, x2, 0, false), (.ge, x2, 2, true), (.ne, 0, 0, false), (.eq, (-1), 0, false), (.lt, 1, 0, false), (.gt, 1, 3, false), (.eq, 1, 0, false), (.lt, x2, 0, false), (.gt, x2, 1, true)]) rfl (List.forall_mem_cons.mpr ⟨xe_hd rfl, (List.forall_mem_cons.mpr ⟨xe_hd rfl, (List.forall_mem_cons.mpr ⟨xe_hd rfl, (List.forall_mem_cons.mpr ⟨xe_hs (a := x2.toInt) (b2 := 0) rfl (by decide) (by simp only [xe_ci]; first | (simp only [decide_eq_true_eq]; omega) | (simp only [decide_eq_false_iff_not]; omega) | (simp; omega)), (List.forall_mem_cons.mpr ⟨xe_hs (a := x2.toInt) (b2 := 2) rfl (by decide) (by simp only [xe_ci]; first | (simp only [decide_eq_true_eq]; omega) | (simp only [decide_eq_false_iff_not]; omega) | (simp; omega)), (List.forall_mem_cons.mpr ⟨xe_hd rfl, (List.forall_mem_cons.mpr ⟨xe_hd rfl, (List.forall_mem_cons.mpr ⟨xe_hd rfl, (List.forall_mem_cons.mpr ⟨xe_hd rfl, (List.forall_mem_cons.mpr ⟨xe_hd rfl, (List.forall_mem_cons.mpr ⟨xe_hs (a := x2.toInt) (b2 := 0) rfl (by decide) (by simp only [xe_ci]; first | (simp only [decide_eq_true_eq]; omega) | (simp only [decide_eq_false_iff_not]; omega) | (simp; omega)), (List.forall_mem_cons.mpr ⟨xe_hs (a := x2.toInt) (b2 := 1) rfl (by decide) (by simp only [xe_ci]; first | (simp only [decide_eq_true_eq]; omega) | (simp only [decide_eq_false_iff_not]; omega) | (simp; omega)), (fun _ h => absurd h List.not_mem_nil)⟩)⟩)⟩)⟩)⟩)⟩)⟩)⟩)⟩)⟩)⟩)⟩)
set_option maxRecDepth 100000 in
set_option maxHeartbeats 4000000 in
theorem i_normal_6 (x2 : Int32) (h0 : x2.toInt < 0) : xe_P 545 [(1, 2), (2, x2)] := xe_pth (ds := [false, false, true, true, false, false, false, false, false, true]) (cs := [(.lt, 2, 0, false), (.ge, 2, 4, false), (.ne, 1, 0, true), (.lt, x2, 0, true), (.ne, 0, 0, false), (.eq, (-1), 0, false), (.lt, 2, 0, false), (.gt, 2, 3, false), (.eq, 1, 0, false), (.lt, x2, 0, true)]) rfl (List.forall_mem_cons.mpr ⟨xe_hd rfl, (List.forall_mem_cons.mpr ⟨xe_hd rfl, (List.forall_mem_cons.mpr ⟨xe_hd rfl, (List.forall_mem_cons.mpr ⟨xe_hs (a := x2.toInt) (b2 := 0) rfl (by decide) (by simp only [xe_ci]; first | (simp only [decide_eq_true_eq]; omega) | (simp only [decide_eq_false_iff_not]; omega) | (simp; omega)), (List.forall_mem_cons.mpr ⟨xe_hd rfl, (List.forall_mem_cons.mpr ⟨xe_hd rfl, (List.forall_mem_cons.mpr ⟨xe_hd rfl, (List.forall_mem_cons.mpr ⟨xe_hd rfl, (List.forall_mem_cons.mpr ⟨xe_hd rfl, (List.forall_mem_cons.mpr ⟨xe_hs (a := x2.toInt) (b2 := 0) rfl (by decide) (by simp only [xe_ci]; first | (simp only [decide_eq_true_eq]; omega) | (simp only [decide_eq_false_iff_not]; omega) | (simp; omega)), (fun _ h => absurd h List.not_mem_nil)⟩)⟩)⟩)⟩)⟩)⟩)⟩)⟩)⟩)⟩)
set_option maxRecDepth 100000 in
set_option maxHeartbeats 4000000 in
theorem i_normal_7 (x2 : Int32) (h0 : 2 ≤ x2.toInt) : xe_P 545 [(1, 2), (2, x2)] := xe_pth (ds := [false, false, true, false, true, false, false, false, false, false, false, true]) (cs := [(.lt, 2, 0, false), (.ge, 2, 4, false), (.ne, 1, 0, true), (.lt, x2, 0, false), (.ge, x2, 2, true), (.ne, 0, 0, false), (.eq, (-1), 0, false), (.lt, 2, 0, false), (.gt, 2, 3, false), (.eq, 1, 0, false), (.lt, x2, 0, false), (.gt, x2, 1, true)]) rfl (List.forall_mem_cons.mpr ⟨xe_hd rfl, (List.forall_mem_cons.mpr ⟨xe_hd rfl, (List.forall_mem_cons.mpr ⟨xe_hd rfl, (List.forall_mem_cons.mpr ⟨xe_hs (a := x2.toInt) (b2 := 0) rfl (by decide) (by simp only [xe_ci]; first | (simp only [decide_eq_true_eq]; omega) | (simp only [decide_eq_false_iff_not]; omega) | (simp; omega)), (List.forall_mem_cons.mpr ⟨xe_hs (a := x2.toInt) (b2 := 2) rfl (by decide) (by simp only [xe_ci]; first | (simp only [decide_eq_true_eq]; omega) | (simp only [decide_eq_false_iff_not]; omega) | (simp; omega)), (List.forall_mem_cons.mpr ⟨xe_hd rfl, (List.forall_mem_cons.mpr ⟨xe_hd rfl, (List.forall_mem_cons.mpr ⟨xe_hd rfl, (List.forall_mem_cons.mpr ⟨xe_hd rfl, (List.forall_mem_cons.mpr ⟨xe_hd rfl, (List.forall_mem_cons.mpr ⟨xe_hs (a := x2.toInt) (b2 := 0) rfl (by decide) (by simp only [xe_ci]; first | (simp only [decide_eq_true_eq]; omega) | (simp only [decide_eq_false_iff_not]; omega) | (simp; omega)), (List.forall_mem_cons.mpr ⟨xe_hs (a := x2.toInt) (b2 := 1) rfl (by decide) (by simp only [xe_ci]; first | (simp only [decide_eq_true_eq]; omega) | (simp only [decide_eq_false_iff_not]; omega) | (simp; omega)), (fun _ h => absurd h List.not_mem_nil)⟩)⟩)⟩)⟩)⟩)⟩)⟩)⟩)⟩)⟩)⟩)⟩)
set_option maxRecDepth 100000 in
set_option maxHeartbeats 4000000 in
theorem i_normal_8 (x2 : Int32) (h0 : x2.toInt < 0) : xe_P 545 [(1, 3), (2, x2)] := xe_pth (ds := [false, false, true, true, false, false, false, false, false, true]) (cs := [(.lt, 3, 0, false), (.ge, 3, 4, false), (.ne, 1, 0, true), (.lt, x2, 0, true), (.ne, 0, 0, false), (.eq, (-1), 0, false), (.lt, 3, 0, false), (.gt, 3, 3, false), (.eq, 1, 0, false), (.lt, x2, 0, true)]) rfl (List.forall_mem_cons.mpr ⟨xe_hd rfl, (List.forall_mem_cons.mpr ⟨xe_hd rfl, (List.forall_mem_cons.mpr ⟨xe_hd rfl, (List.forall_mem_cons.mpr ⟨xe_hs (a := x2.toInt) (b2 := 0) rfl (by decide) (by simp only [xe_ci]; first | (simp only [decide_eq_true_eq]; omega) | (simp only [decide_eq_false_iff_not]; omega) | (simp; omega)), (List.forall_mem_cons.mpr ⟨xe_hd rfl, (List.forall_mem_cons.mpr ⟨xe_hd rfl, (List.forall_mem_cons.mpr ⟨xe_hd rfl, (List.forall_mem_cons.mpr ⟨xe_hd rfl, (List.forall_mem_cons.mpr ⟨xe_hd rfl, (List.forall_mem_cons.mpr ⟨xe_hs (a := x2.toInt) (b2 := 0) rfl (by decide) (by simp only [xe_ci]; first | (simp only [decide_eq_true_eq]; omega) | (simp only [decide_eq_false_iff_not]; omega) | (simp; omega)), (fun _ h => absurd h List.not_mem_nil)⟩)⟩)⟩)⟩)⟩)⟩)⟩)⟩)⟩)⟩)
set_option maxRecDepth 100000 in
set_option maxHeartbeats 4000000 in
theorem i_normal_9 (x2 : Int32) (h0 : 2 ≤ x2.toInt) : xe_P 545 [(1, 3), (2, x2)] := xe_pth (ds := [false, false, true, false, true, false, false, false, false, false, false, true]) (cs := [(.lt, 3, 0, false), (.ge, 3, 4, false), (.ne, 1, 0, true), (.lt, x2, 0, false), (.ge, x2, 2, true), (.ne, 0, 0, false), (.eq, (-1), 0, false), (.lt, 3, 0, false), (.gt, 3, 3, false), (.eq, 1, 0, false), (.lt, x2, 0, false), (.gt, x2, 1, true)]) rfl (List.forall_mem_cons.mpr ⟨xe_hd rfl, (List.forall_mem_cons.mpr ⟨xe_hd rfl, (List.forall_mem_cons.mpr ⟨xe_hd rfl, (List.forall_mem_cons.mpr ⟨xe_hs (a := x2.toInt) (b2 := 0) rfl (by decide) (by simp only [xe_ci]; first | (simp only [decide_eq_true_eq]; omega) | (simp only [decide_eq_false_iff_not]; omega) | (simp; omega)), (List.forall_mem_cons.mpr ⟨xe_hs (a := x2.toInt) (b2 := 2) rfl (by decide) (by simp only [xe_ci]; first | (simp only [decide_eq_true_eq]; omega) | (simp only [decide_eq_false_iff_not]; omega) | (simp; omega)), (List.forall_mem_cons.mpr ⟨xe_hd rfl, (List.forall_mem_cons.mpr ⟨xe_hd rfl, (List.forall_mem_cons.mpr ⟨xe_hd rfl, (List.forall_mem_cons.mpr ⟨xe_hd rfl, (List.forall_mem_cons.mpr ⟨xe_hd rfl, (List.forall_mem_cons.mpr ⟨xe_hs (a := x2.toInt) (b2 := 0) rfl (by decide) (by simp only [xe_ci]; first | (simp only [decide_eq_true_eq]; omega) | (simp only [decide_eq_false_iff_not]; omega) | (simp; omega)), (List.forall_mem_cons.mpr ⟨xe_hs (a := x2.toInt) (b2 := 1) rfl (by decide) (by simp only [xe_ci]; first | (simp only [decide_eq_true_eq]; omega) | (simp only [decide_eq_false_iff_not]; omega) | (simp; omega)), (fun _ h => absurd h List.not_mem_nil)⟩)⟩)⟩)⟩)⟩)⟩)⟩)⟩)⟩)⟩)⟩)⟩)
set_option maxRecDepth 100000 in
set_option maxHeartbeats 4000000 in
theorem i_left_0 (x1 x2 x3 : Int32) (h0 : x1.toInt < 0) : xe_P 578 [(1, x1), (2, x2), (3, x3)] := xe_pth (ds := [true, true, true]) (cs := [(.lt, x1, 0, true), (.eq, 0, 0, true), (.lt, x1, 0, true)]) rfl (List.forall_mem_cons.mpr ⟨xe_hs (a := x1.toInt) (b2 := 0) rfl (by decide) (by simp only [xe_ci]; first | (simp only [decide_eq_true_eq]; omega) | (simp only [decide_eq_false_iff_not]; omega) | (simp; omega)), (List.forall_mem_cons.mpr ⟨xe_hd rfl, (List.forall_mem_cons.mpr ⟨xe_hs (a := x1.toInt) (b2 := 0) rfl (by decide) (by simp only [xe_ci]; first | (simp only [decide_eq_true_eq]; omega) | (simp only [decide_eq_false_iff_not]; omega) | (simp; omega)), (fun _ h => absurd h List.not_mem_nil)⟩)⟩)⟩)
set_option maxRecDepth 100000 in
set_option maxHeartbeats 4000000 in
theorem i_left_1 (x1 x2 x3 : Int32) (h0 : 4 ≤ x1.toInt) : xe_P 578 [(1, x1), (2, x2), (3, x3)] := xe_pth (ds := [false, true, true, false, true]) (cs := [(.lt, x1, 0, false), (.ge, x1, 4, true), (.eq, 0, 0, true), (.lt, x1, 0, false), (.gt, x1, 3, true)]) rfl (List.forall_mem_cons.mpr ⟨xe_hs (a := x1.toInt) (b2 := 0) rfl (by decide) (by simp only [xe_ci]; first | (simp only [decide_eq_true_eq]; omega) | (simp only [decide_eq_false_iff_not]; omega) | (simp; omega)), (List.forall_mem_cons.mpr ⟨xe_hs (a := x1.toInt) (b2 := 4) rfl (by decide) (by simp only [xe_ci]; first | (simp only [decide_eq_true_eq]; omega) | (simp only [decide_eq_false_iff_not]; omega) | (simp; omega)), (List.forall_mem_cons.mpr ⟨xe_hd rfl, (List.forall_mem_cons.mpr ⟨xe_hs (a := x1.toInt) (b2 := 0) rfl (by decide) (by simp only [xe_ci]; first | (simp only [decide_eq_true_eq]; omega) | (simp only [decide_eq_false_iff_not]; omega) | (simp; omega)), (List.forall_mem_cons.mpr ⟨xe_hs (a := x1.toInt) (b2 := 3) rfl (by decide) (by simp only [xe_ci]; first | (simp only [decide_eq_true_eq]; omega) | (simp only [decide_eq_false_iff_not]; omega) | (simp; omega)), (fun _ h => absurd h List.not_mem_nil)⟩)⟩)⟩)⟩)⟩)
set_option maxRecDepth 100000 in
set_option maxHeartbeats 4000000 in
theorem i_left_2 (x1 x2 x3 : Int32) (h0 : 0 ≤ x1.toInt) (h1 : x1.toInt < 4) (h2 : x2.toInt < 0) : xe_P 578 [(1, x1), (2, x2), (3, x3)] := xe_pth (ds := [false, false, false, true, false, false, false, false, true]) (cs := [(.lt, x1, 0, false), (.ge, x1, 4, false), (.eq, 1, 0, false), (.lt, x2, 0, true), (.ne, 0, 0, false), (.lt, x1, 0, false), (.gt, x1, 3, false), (.eq, 1, 0, false), (.lt, x2, 0, true)]) rfl (List.forall_mem_cons.mpr ⟨xe_hs (a := x1.toInt) (b2 := 0) rfl (by decide) (by simp only [xe_ci]; first | (simp only [decide_eq_true_eq]; omega) | (simp only [decide_eq_false_iff_not]; omega) | (simp; omega)), (List.forall_mem_cons.mpr ⟨xe_hs (a := x1.toInt) (b2 := 4) rfl (by decide) (by simp only [xe_ci]; first | (simp only [decide_eq_true_eq]; omega) | (simp only [decide_eq_false_iff_not]; omega) | (simp; omega)), (List.forall_mem_cons.mpr ⟨xe_hd rfl, (List.forall_mem_cons.mpr ⟨xe_hs (a := x2.toInt) (b2 := 0) rfl (by decide) (by simp only [xe_ci]; first | (simp only [decide_eq_true_eq]; omega) | (simp only [decide_eq_false_iff_not]; omega) | (simp; omega)), (List.forall_mem_cons.mpr ⟨xe_hd rfl, (List.forall_mem_cons.mpr ⟨xe_hs (a := x1.toInt) (b2 := 0) rfl (by decide) (by simp only [xe_ci]; first | (simp only [decide_eq_true_eq]; omega) | (simp only [decide_eq_false_iff_not]; omega) | (simp; omega)), (List.forall_mem_cons.mpr ⟨xe_hs (a := x1.toInt) (b2 := 3) rfl (by decide) (by simp only [xe_ci]; first | (simp only [decide_eq_true_eq]; omega) | (simp only [decide_eq_false_iff_not]; omega) | (simp; omega)), (List.forall_mem_cons.mpr ⟨xe_hd rfl, (List.forall_mem_cons.mpr ⟨xe_hs (a := x2.toInt) (b2 := 0) rfl (by decide) (by simp only [xe_ci]; first | (simp only [decide_eq_true_eq]; omega) | (simp only [decide_eq_false_iff_not]; omega) | (simp; omega)), (fun _ h => absurd h List.not_mem_nil)⟩)⟩)⟩)⟩)⟩)⟩)⟩)⟩)⟩)
set_option maxRecDepth 100000 in
set_option maxHeartbeats 4000000 in
theorem i_left_3 (x1 x2 x3 : Int32) (h0 : 0 ≤ x1.toInt) (h1 : x1.toInt < 4) (h2 : 4 ≤ x2.toInt) : xe_P 578 [(1, x1), (2, x2), (3, x3)] := xe_pth (ds := [false, false, false, false, true, false, false, false, false, false, true]) (cs := [(.lt, x1, 0, false), (.ge, x1, 4, false), (.eq, 1, 0, false), (.lt, x2, 0, false), (.ge, x2, 4, true), (.ne, 0, 0, false), (.lt, x1, 0, false), (.gt, x1, 3, false), (.eq, 1, 0, false), (.lt, x2, 0, false), (.gt, x2, 3, true)]) rfl (List.forall_mem_cons.mpr ⟨xe_hs (a := x1.toInt) (b2 := 0) rfl (by decide) (by simp only [xe_ci]; first | (simp only [decide_eq_true_eq]; omega) | (simp only [decide_eq_false_iff_not]; omega) | (simp; omega)), (List.forall_mem_cons.mpr ⟨xe_hs (a := x1.toInt) (b2 := 4) rfl (by decide) (by simp only [xe_ci]; first | (simp only [decide_eq_true_eq]; omega) | (simp only [decide_eq_false_iff_not]; omega) | (simp; omega)), (List.forall_mem_cons.mpr ⟨xe_hd rfl, (List.forall_mem_cons.mpr ⟨xe_hs (a := x2.toInt) (b2 := 0) rfl (by decide) (by simp only [xe_ci]; first | (simp only [decide_eq_true_eq]; omega) | (simp only [decide_eq_false_iff_not]; omega) | (simp; omega)), (List.forall_mem_cons.mpr ⟨xe_hs (a := x2.toInt) (b2 := 4) rfl (by decide) (by simp only [xe_ci]; first | (simp only [decide_eq_true_eq]; omega) | (simp only [decide_eq_false_iff_not]; omega) | (simp; omega)), (List.forall_mem_cons.mpr ⟨xe_hd rfl, (List.forall_mem_cons.mpr ⟨xe_hs (a := x1.toInt) (b2 := 0) rfl (by decide) (by simp only [xe_ci]; first | (simp only [decide_eq_true_eq]; omega) | (simp only [decide_eq_false_iff_not]; omega) | (simp; omega)), (List.forall_mem_cons.mpr ⟨xe_hs (a := x1.toInt) (b2 := 3) rfl (by decide) (by simp only [xe_ci]; first | (simp only [decide_eq_true_eq]; omega) | (simp only [decide_eq_false_iff_not]; omega) | (simp; omega)), (List.forall_mem_cons.mpr ⟨xe_hd rfl, (List.forall_mem_cons.mpr ⟨xe_hs (a := x2.toInt) (b2 := 0) rfl (by decide) (by simp only [xe_ci]; first | (simp only [decide_eq_true_eq]; omega) | (simp only [decide_eq_false_iff_not]; omega) | (simp; omega)), (List.forall_mem_cons.mpr ⟨xe_hs (a := x2.toInt) (b2 := 3) rfl (by decide) (by simp only [xe_ci]; first | (simp only [decide_eq_true_eq]; omega) | (simp only [decide_eq_false_iff_not]; omega) | (simp; omega)), (fun _ h => absurd h List.not_mem_nil)⟩)⟩)⟩)⟩)⟩)⟩)⟩)⟩)⟩)⟩)⟩)
set_option maxRecDepth 100000 in
set_option maxHeartbeats 4000000 in
theorem i_left_4 (x1 x3 : Int32) (h0 : 0 ≤ x1.toInt) (h1 : x1.toInt < 4) (h2 : x3.toInt < 0) : xe_P 578 [(1, x1), (2, 0), (3, x3)] := xe_pth (ds := [false, false, false, false, false, true, true, false, false, false, false, false, false, false, false, true]) (cs := [(.lt, x1, 0, false), (.ge, x1, 4, false), (.eq, 1, 0, false), (.lt, 0, 0, false), (.ge, 0, 4, false), (.ne, 1, 0, true), (.lt, x3, 0, true), (.ne, 0, 0, false), (.eq, (-1), 0, false), (.lt, x1, 0, false), (.gt, x1, 3, false), (.eq, 1, 0, false), (.lt, 0, 0, false), (.gt, 0, 3, false), (.eq, 1, 0, false), (.lt, x3, 0, true)]) rfl (List.forall_mem_cons.mpr ⟨xe_hs (a := x1.toInt) (b2 := 0) rfl (by decide) (by simp only [xe_ci]; first | (simp only [decide_eq_true_eq]; omega) | (simp only [decide_eq_false_iff_not]; omega) | (simp; omega)), (List.forall_mem_cons.mpr ⟨xe_hs (a := x1.toInt) (b2 := 4) rfl (by decide) (by simp only [xe_ci]; first | (simp only [decide_eq_true_eq]; omega) | (simp only [decide_eq_false_iff_not]; omega) | (simp; omega)), (List.forall_mem_cons.mpr ⟨xe_hd rfl, (List.forall_mem_cons.mpr ⟨xe_hd rfl, (List.forall_mem_cons.mpr ⟨xe_hd rfl, (List.forall_mem_cons.mpr ⟨xe_hd rfl, (List.forall_mem_cons.mpr ⟨xe_hs (a := x3.toInt) (b2 := 0) rfl (by decide) (by simp only [xe_ci]; first | (simp only [decide_eq_true_eq]; omega) | (simp only [decide_eq_false_iff_not]; omega) | (simp; omega)), (List.forall_mem_cons.mpr ⟨xe_hd rfl, (List.forall_mem_cons.mpr ⟨xe_hd rfl, (List.forall_mem_cons.mpr ⟨xe_hs (a := x1.toInt) (b2 := 0) rfl (by decide) (by simp only [xe_ci]; first | (simp only [decide_eq_true_eq]; omega) | (simp only [decide_eq_false_iff_not]; omega) | (simp; omega)), (List.forall_mem_cons.mpr ⟨xe_hs (a := x1.toInt) (b2 := 3) rfl (by decide) (by simp only [xe_ci]; first | (simp only [decide_eq_true_eq]; omega) | (simp only [decide_eq_false_iff_not]; omega) | (simp; omega)), (List.forall_mem_cons.mpr ⟨xe_hd rfl, (List.forall_mem_cons.mpr ⟨xe_hd rfl, (List.forall_mem_cons.mpr ⟨xe_hd rfl, (List.forall_mem_cons.mpr ⟨xe_hd rfl, (List.forall_mem_cons.mpr ⟨xe_hs (a := x3.toInt) (b2 := 0) rfl (by decide) (by simp only [xe_ci]; first | (simp only [decide_eq_true_eq]; omega) | (simp only [decide_eq_false_iff_not]; omega) | (simp; omega)), (fun _ h => absurd h List.not_mem_nil)⟩)⟩)⟩)⟩)⟩)⟩)⟩)⟩)⟩)⟩)⟩)⟩)⟩)⟩)⟩)⟩)
set_option maxRecDepth 100000 in
set_option maxHeartbeats 4000000 in
theorem i_left_5 (x1 x3 : Int32) (h0 : 0 ≤ x1.toInt) (h1 : x1.toInt < 4) (h2 : 2 ≤ x3.toInt) : xe_P 578 [(1, x1), (2, 0), (3, x3)] := xe_pth (ds := [false, false, false, false, false, true, false, true, false, false, false, false, false, false, false, false, false, true]) (cs := [(.lt, x1, 0, false), (.ge, x1, 4, false), (.eq, 1, 0, false), (.lt, 0, 0, false), (.ge, 0, 4, false), (.ne, 1, 0, true), (.lt, x3, 0, false), (.ge, x3, 2, true), (.ne, 0, 0, false), (.eq, (-1), 0, false), (.lt, x1, 0, false), (.gt, x1, 3, false), (.eq, 1, 0, false), (.lt, 0, 0, false), (.gt, 0, 3, false), (.eq, 1, 0, false), (.lt, x3, 0, false), (.gt, x3, 1, true)]) rfl (List.forall_mem_cons.mpr ⟨xe_hs (a := x1.toInt) (b2 := 0) rfl (by decide) (by simp only [xe_ci]; first | (simp only [decide_eq_true_eq]; omega) | (simp only [decide_eq_false_iff_not]; omega) | (simp; omega)), (List.forall_mem_cons.mpr ⟨xe_hs (a := x1.toInt) (b2 := 4) rfl (by decide) (by simp only [xe_ci]; first | (simp only [decide_eq_true_eq]; omega) | (simp only [decide_eq_false_iff_not]; omega) | (simp; omega)), (List.forall_mem_cons.mpr ⟨xe_hd rfl, (List.forall_mem_cons.mpr ⟨xe_hd rfl, (List.forall_mem_cons.mpr ⟨xe_hd rfl, (List.forall_mem_cons.mpr ⟨xe_hd rfl, (List.forall_mem_cons.mpr ⟨xe_hs (a := x3.toInt) (b2 := 0) rfl (by decide) (by simp only [xe_ci]; first | (simp only [decide_eq_true_eq]; omega) | (simp only [decide_eq_false_iff_not]; omega) | (simp; omega)), (List.forall_mem_cons.mpr ⟨xe_hs (a := x3.toInt) (b2 := 2) rfl (by decide) (by simp only [xe_ci]; first | (simp only [decide_eq_true_eq]; omega) | (simp only [decide_eq_false_iff_not]; omega) | (simp; omega)), (List.forall_mem_cons.mpr ⟨xe_hd rfl, (List.forall_mem_cons.mpr ⟨xe_hd rfl, (List.forall_mem_cons.mpr ⟨xe_hs (a := x1.toInt) (b2 := 0) rfl (by decide) (by simp only [xe_ci]; first | (simp only [decide_eq_true_eq]; omega) | (simp only [decide_eq_false_iff_not]; omega) | (simp; omega)), (List.forall_mem_cons.mpr ⟨xe_hs (a := x1.toInt) (b2 := 3) rfl (by decide) (by simp only [xe_ci]; first | (simp only [decide_eq_true_eq]; omega) | (simp only [decide_eq_false_iff_not]; omega) | (simp; omega)), (List.forall_mem_cons.mpr ⟨xe_hd rfl, (List.forall_mem_cons.mpr ⟨xe_hd rfl, (List.forall_mem_cons.mpr ⟨xe_hd rfl, (List.forall_mem_cons.mpr ⟨xe_hd rfl, (List.forall_mem_cons.mpr ⟨xe_hs (a := x3.toInt) (b2 := 0) rfl (by decide) (by simp only [xe_ci]; first | (simp only [decide_eq_true_eq]; omega) | (simp only [decide_eq_false_iff_not]; omega) | (simp; omega)), (List.forall_mem_cons.mpr ⟨xe_hs (a := x3.toInt) (b2 := 1) rfl (by decide) (by simp only [xe_ci]; first | (simp only [decide_eq_true_eq]; omega) | (simp only [decide_eq_false_iff_not]; omega) | (simp; omega)), (fun _ h => absurd h List.not_mem_nil)⟩)⟩)⟩)⟩)⟩)⟩)⟩)⟩)⟩)⟩)⟩)⟩)⟩)⟩)⟩)⟩)⟩)⟩)
set_option maxRecDepth 100000 in
set_option maxHeartbeats 4000000 in
theorem i_left_6 (x1 x3 : Int32) (h0 : 0 ≤ x1.toInt) (h1 : x1.toInt < 4) (h2 : x3.toInt < 0) : xe_P 578 [(1, x1), (2, 1), (3, x3)] := xe_pth (ds := [false, false, false, false, false, true, true, false, false, false, false, false, false, false, false, true]) (cs := [(.lt, x1, 0, false), (.ge, x1, 4, false), (.eq, 1, 0, false), (.lt, 1, 0, false), (.ge, 1, 4, false), (.ne, 1, 0, true), (.lt, x3, 0, true), (.ne, 0, 0, false), (.eq, (-1), 0, false), (.lt, x1, 0, false), (.gt, x1, 3, false), (.eq, 1, 0, false), (.lt, 1, 0, false), (.gt, 1, 3, false), (.eq, 1, 0, false), (.lt, x3, 0, true)]) rfl (List.forall_mem_cons.mpr ⟨xe_hs (a := x1.toInt) (b2 := 0) rfl (by decide) (by simp only [xe_ci]; first | (simp only [decide_eq_true_eq]; omega) | (simp only [decide_eq_false_iff_not]; omega) | (simp; omega)), (List.forall_mem_cons.mpr ⟨xe_hs (a := x1.toInt) (b2 := 4) rfl (by decide) (by simp only [xe_ci]; first | (simp only [decide_eq_true_eq]; omega) | (simp only [decide_eq_false_iff_not]; omega) | (simp; omega)), (List.forall_mem_cons.mpr ⟨xe_hd rfl, (List.forall_mem_cons.mpr ⟨xe_hd rfl, (List.forall_mem_cons.mpr ⟨xe_hd rfl, (List.forall_mem_cons.mpr ⟨xe_hd rfl, (List.forall_mem_cons.mpr ⟨xe_hs (a := x3.toInt) (b2 := 0) rfl (by decide) (by simp only [xe_ci]; first | (simp only [decide_eq_true_eq]; omega) | (simp only [decide_eq_false_iff_not]; omega) | (simp; omega)), (List.forall_mem_cons.mpr ⟨xe_hd rfl, (List.forall_mem_cons.mpr ⟨xe_hd rfl, (List.forall_mem_cons.mpr ⟨xe_hs (a := x1.toInt) (b2 := 0) rfl (by decide) (by simp only [xe_ci]; first | (simp only [decide_eq_true_eq]; omega) | (simp only [decide_eq_false_iff_not]; omega) | (simp; omega)), (List.forall_mem_cons.mpr ⟨xe_hs (a := x1.toInt) (b2 := 3) rfl (by decide) (by simp only [xe_ci]; first | (simp only [decide_eq_true_eq]; omega) | (simp only [decide_eq_false_iff_not]; omega) | (simp; omega)), (List.forall_mem_cons.mpr ⟨xe_hd rfl, (List.forall_mem_cons.mpr ⟨xe_hd rfl, (List.forall_mem_cons.mpr ⟨xe_hd rfl, (List.forall_mem_cons.mpr ⟨xe_hd rfl, (List.forall_mem_cons.mpr ⟨xe_hs (a := x3.toInt) (b2 := 0) rfl (by decide) (by simp only [xe_ci]; first | (simp only [decide_eq_true_eq]; omega) | (simp only [decide_eq_false_iff_not]; omega) | (simp; omega)), (fun _ h => absurd h List.not_mem_nil)⟩)⟩)⟩)⟩)⟩)⟩)⟩)⟩)⟩)⟩)⟩)⟩)⟩)⟩)⟩)⟩)
set_option maxRecDepth 100000 in
set_option maxHeartbeats 4000000 in
theorem i_left_7 (x1 x3 : Int32) (h0 : 0 ≤ x1.toInt) (h1 : x1.toInt < 4) (h2 : 2 ≤ x3.toInt) : xe_P 578 [(1, x1), (2, 1), (3, x3)] := xe_pth (ds := [false, false, false, false, false, true, false, true, false, false, false, false, false, false, false, false, false, true]) (cs := [(.lt, x1, 0, false), (.ge, x1, 4, false), (.eq, 1, 0, false), (.lt, 1, 0, false), (.ge, 1, 4, false), (.ne, 1, 0, true), (.lt, x3, 0, false), (.ge, x3, 2, true), (.ne, 0, 0, false), (.eq, (-1), 0, false), (.lt, x1, 0, false), (.gt, x1, 3, false), (.eq, 1, 0, false), (.lt, 1, 0, false), (.gt, 1, 3, false), (.eq, 1, 0, false), (.lt, x3, 0, false), (.gt, x3, 1, true)]) rfl (List.forall_mem_cons.mpr ⟨xe_hs (a := x1.toInt) (b2 := 0) rfl (by decide) (by simp only [xe_ci]; first | (simp only [decide_eq_true_eq]; omega) | (simp only [decide_eq_false_iff_not]; omega) | (simp; omega)), (List.forall_mem_cons.mpr ⟨xe_hs (a := x1.toInt) (b2 := 4) rfl (by decide) (by simp only [xe_ci]; first | (simp only [decide_eq_true_eq]; omega) | (simp only [decide_eq_false_iff_not]; omega) | (simp; omega)), (List.forall_mem_cons.mpr ⟨xe_hd rfl, (List.forall_mem_cons.mpr ⟨xe_hd rfl, (List.forall_mem_cons.mpr ⟨xe_hd rfl, (List.forall_mem_cons.mpr ⟨xe_hd rfl, (List.forall_mem_cons.mpr ⟨xe_hs (a := x3.toInt) (b2 := 0) rfl (by decide) (by simp only [xe_ci]; first | (simp only [decide_eq_true_eq]; omega) | (simp only [decide_eq_false_iff_not]; omega) | (simp; omega)), (List.forall_mem_cons.mpr ⟨xe_hs (a := x3.toInt) (b2 := 2) rfl (by decide) (by simp only [xe_ci]; first | (simp only [decide_eq_true_eq]; omega) | (simp only [decide_eq_false_iff_not]; omega) | (simp; omega)), (List.forall_mem_cons.mpr ⟨xe_hd rfl, (List.forall_mem_cons.mpr ⟨xe_hd rfl, (List.forall_mem_cons.mpr ⟨xe_hs (a := x1.toInt) (b2 := 0) rfl (by decide) (by simp only [xe_ci]; first | (simp only [decide_eq_true_eq]; omega) | (simp only [decide_eq_false_iff_not]; omega) | (simp; omega)), (List.forall_mem_cons.mpr ⟨xe_hs (a := x1.toInt) (b2 := 3) rfl (by decide) (by simp only [xe_ci]; first | (simp only [decide_eq_true_eq]; omega) | (simp only [decide_eq_false_iff_not]; omega) | (simp; omega)), (List.forall_mem_cons.mpr ⟨xe_hd rfl, (List.forall_mem_cons.mpr ⟨xe_hd rfl, (List.forall_mem_cons.mpr ⟨xe_hd rfl, (List.forall_mem_cons.mpr ⟨xe_hd rfl, (List.forall_mem_cons.mpr ⟨xe_hs (a := x3.toInt) (b2 := 0) rfl (by decide) (by simp only [xe_ci]; first | (simp only [decide_eq_true_eq]; omega) | (simp only [decide_eq_false_iff_not]; omega) | (simp; omega)), (List.forall_mem_cons.mpr ⟨xe_hs (a := x3.toInt) (b2 := 1) rfl (by decide) (by simp only [xe_ci]; first | (simp only [decide_eq_true_eq]; omega) | (simp only [decide_eq_false_iff_not]; omega) | (simp; omega)), (fun _ h => absurd h List.not_mem_nil)⟩)⟩)⟩)⟩)⟩)⟩)⟩)⟩)⟩)⟩)⟩)⟩)⟩)⟩)⟩)⟩)⟩)⟩)
set_option maxRecDepth 100000 in
set_option maxHeartbeats 4000000 in
theorem i_left_8 (x1 x3 : Int32) (h0 : 0 ≤ x1.toInt) (h1 : x1.toInt < 4) (h2 : x3.toInt < 0) : xe_P 578 [(1, x1), (2, 2), (3, x3)] := xe_pth (ds := [false, false, false, false, false, true, true, false, false, false, false, false, false, false, false, true]) (cs := [(.lt, x1, 0, false), (.ge, x1, 4, false), (.eq, 1, 0, false), (.lt, 2, 0, false), (.ge, 2, 4, false), (.ne, 1, 0, true), (.lt, x3, 0, true), (.ne, 0, 0, false), (.eq, (-1), 0, false), (.lt, x1, 0, false), (.gt, x1, 3, false), (.eq, 1, 0, false), (.lt, 2, 0, false), (.gt, 2, 3, false), (.eq, 1, 0, false), (.lt, x3, 0, true)]) rfl (List.forall_mem_cons.mpr ⟨xe_hs (a := x1.toInt) (b2 := 0) rfl (by decide) (by simp only [xe_ci]; first | (simp only [decide_eq_true_eq]; omega) | (simp only [decide_eq_false_iff_not]; omega) | (simp; omega)), (List.forall_mem_cons.mpr ⟨xe_hs (a := x1.toInt) (b2 := 4) rfl (by decide) (by simp only [xe_ci]; first | (simp only [decide_eq_true_eq]; omega) | (simp only [decide_eq_false_iff_not]; omega) | (simp; omega)), (List.forall_mem_cons.mpr ⟨xe_hd rfl, (List.forall_mem_cons.mpr ⟨xe_hd rfl, (List.forall_mem_cons.mpr ⟨xe_hd rfl, (List.forall_mem_cons.mpr ⟨xe_hd rfl, (List.forall_mem_cons.mpr ⟨xe_hs (a := x3.toInt) (b2 := 0) rfl (by decide) (by simp only [xe_ci]; first | (simp only [decide_eq_true_eq]; omega) | (simp only [decide_eq_false_iff_not]; omega) | (simp; omega)), (List.forall_mem_cons.mpr ⟨xe_hd rfl, (List.forall_mem_cons.mpr ⟨xe_hd rfl, (List.forall_mem_cons.mpr ⟨xe_hs (a := x1.toInt) (b2 := 0) rfl (by decide) (by simp only [xe_ci]; first | (simp only [decide_eq_true_eq]; omega) | (simp only [decide_eq_false_iff_not]; omega) | (simp; omega)), (List.forall_mem_cons.mpr ⟨xe_hs (a := x1.toInt) (b2 := 3) rfl (by decide) (by simp only [xe_ci]; first | (simp only [decide_eq_true_eq]; omega) | (simp only [decide_eq_false_iff_not]; omega) | (simp; omega)), (List.forall_mem_cons.mpr ⟨xe_hd rfl, (List.forall_mem_cons.mpr ⟨xe_hd rfl, (List.forall_mem_cons.mpr ⟨xe_hd rfl, (List.forall_mem_cons.mpr ⟨xe_hd rfl, (List.forall_mem_cons.mpr ⟨xe_hs (a := x3.toInt) (b2 := 0) rfl (by decide) (by simp only [xe_ci]; first | (simp only [decide_eq_true_eq]; omega) | (simp only [decide_eq_false_iff_not]; omega) | (simp; omega)), (fun _ h => absurd h List.not_mem_nil)⟩)⟩)⟩)⟩)⟩)⟩)⟩)⟩)⟩)⟩)⟩)⟩)⟩)⟩)⟩)⟩)
set_option maxRecDepth 100000 in
set_option maxHeartbeats 4000000 in
theorem i_left_9 (x1 x3 : Int32) (h0 : 0 ≤ x1.toInt) (h1 : x1.toInt < 4) (h2 : 2 ≤ x3.toInt) : xe_P 578 [(1, x1), (2, 2), (3, x3)] := xe_pth (ds := [false, false, false, false, false, true, false, true, false, false, false, false, false, false, false, false, false, true]) (cs := [(.lt, x1, 0, false), (.ge, x1, 4, false), (.eq, 1, 0, false), (.lt, 2, 0, false), (.ge, 2, 4, false), (.ne, 1, 0, true), (.lt, x3, 0, false), (.ge, x3, 2, true), (.ne, 0, 0, false), (.eq, (-1), 0, false), (.lt, x1, 0, false), (.gt, x1, 3, false), (.eq, 1, 0, false), (.lt, 2, 0, false), (.gt, 2, 3, false), (.eq, 1, 0, false), (.lt, x3, 0, false), (.gt, x3, 1, true)]) rfl (List.forall_mem_cons.mpr ⟨xe_hs (a := x1.toInt) (b2 := 0) rfl (by decide) (by simp only [xe_ci]; first | (simp only [decide_eq_true_eq]; omega) | (simp only [decide_eq_false_iff_not]; omega) | (simp; omega)), (List.forall_mem_cons.mpr ⟨xe_hs (a := x1.toInt) (b2 := 4) rfl (by decide) (by simp only [xe_ci]; first | (simp only [decide_eq_true_eq]; omega) | (simp only [decide_eq_false_iff_not]; omega) | (simp; omega)), (List.forall_mem_cons.mpr ⟨xe_hd rfl, (List.forall_mem_cons.mpr ⟨xe_hd rfl, (List.forall_mem_cons.mpr ⟨xe_hd rfl, (List.forall_mem_cons.mpr ⟨xe_hd rfl, (List.forall_mem_cons.mpr ⟨xe_hs (a := x3.toInt) (b2 := 0) rfl (by decide) (by simp only [xe_ci]; first | (simp only [decide_eq_true_eq]; omega) | (simp only [decide_eq_false_iff_not]; omega) | (simp; omega)), (List.forall_mem_cons.mpr ⟨xe_hs (a := x3.toInt) (b2 := 2) rfl (by decide) (by simp only [xe_ci]; first | (simp only [decide_eq_true_eq]; omega) | (simp only [decide_eq_false_iff_not]; omega) | (simp; omega)), (List.forall_mem_cons.mpr ⟨xe_hd rfl, (List.forall_mem_cons.mpr ⟨xe_hd rfl, (List.forall_mem_cons.mpr ⟨xe_hs (a := x1.toInt) (b2 := 0) rfl (by decide) (by simp only [xe_ci]; first | (simp only [decide_eq_true_eq]; omega) | (simp only [decide_eq_false_iff_not]; omega) | (simp; omega)), (List.forall_mem_cons.mpr ⟨xe_hs (a := x1.toInt) (b2 := 3) rfl (by decide) (by simp only [xe_ci]; first | (simp only [decide_eq_true_eq]; omega) | (simp only [decide_eq_false_iff_not]; omega) | (simp; omega)), (List.forall_mem_cons.mpr ⟨xe_hd rfl, (List.forall_mem_cons.mpr ⟨xe_hd rfl, (List.forall_mem_cons.mpr ⟨xe_hd rfl, (List.forall_mem_cons.mpr ⟨xe_hd rfl, (List.forall_mem_cons.mpr ⟨xe_hs (a := x3.toInt) (b2 := 0) rfl (by decide) (by simp only [xe_ci]; first | (simp only [decide_eq_true_eq]; omega) | (simp only [decide_eq_false_iff_not]; omega) | (simp; omega)), (List.forall_mem_cons.mpr ⟨xe_hs (a := x3.toInt) (b2 := 1) rfl (by decide) (by simp only [xe_ci]; first | (simp only [decide_eq_true_eq]; omega) | (simp only [decide_eq_false_iff_not]; omega) | (simp; omega)), (fun _ h => absurd h List.not_mem_nil)⟩)⟩)⟩)⟩)⟩)⟩)⟩)⟩)⟩)⟩)⟩)⟩)⟩)⟩)⟩)⟩)⟩)⟩)
set_option maxRecDepth 100000 in
set_option maxHeartbeats 4000000 in
theorem i_left_10 (x1 x3 : Int32) (h0 : 0 ≤ x1.toInt) (h1 : x1.toInt < 4) (h2 : x3.toInt < 0) : xe_P 578 [(1, x1), (2, 3), (3, x3)] := xe_pth (ds := [false, false, false, false, false, true, true, false, false, false, false, false, false, false, false, true]) (cs := [(.lt, x1, 0, false), (.ge, x1, 4, false), (.eq, 1, 0, false), (.lt, 3, 0, false), (.ge, 3, 4, false), (.ne, 1, 0, true), (.lt, x3, 0, true), (.ne, 0, 0, false), (.eq, (-1), 0, false), (.lt, x1, 0, false), (.gt, x1, 3, false), (.eq, 1, 0, false), (.lt, 3, 0, false), (.gt, 3, 3, false), (.eq, 1, 0, false), (.lt, x3, 0, true)]) rfl (List.forall_mem_cons.mpr ⟨xe_hs (a := x1.toInt) (b2 := 0) rfl (by decide) (by simp only [xe_ci]; first | (simp only [decide_eq_true_eq]; omega) | (simp only [decide_eq_false_iff_not]; omega) | (simp; omega)), (List.forall_mem_cons.mpr ⟨xe_hs (a := x1.toInt) (b2 := 4) rfl (by decide) (by simp only [xe_ci]; first | (simp only [decide_eq_true_eq]; omega) | (simp only [decide_eq_false_iff_not]; omega) | (simp; omega)), (List.forall_mem_cons.mpr ⟨xe_hd rfl, (List.forall_mem_cons.mpr ⟨xe_hd rfl, (List.forall_mem_cons.mpr ⟨xe_hd rfl, (List.forall_mem_cons.mpr ⟨xe_hd rfl, (List.forall_mem_cons.mpr ⟨xe_hs (a := x3.toInt) (b2 := 0) rfl (by decide) (by simp only [xe_ci]; first | (simp only [decide_eq_true_eq]; omega) | (simp only [decide_eq_false_iff_not]; omega) | (simp; omega)), (List.forall_mem_cons.mpr ⟨xe_hd rfl, (List.forall_mem_cons.mpr ⟨xe_hd rfl, (List.forall_mem_cons.mpr ⟨xe_hs (a := x1.toInt) (b2 := 0) rfl (by decide) (by simp only [xe_ci]; first | (simp only [decide_eq_true_eq]; omega) | (simp only [decide_eq_false_iff_not]; omega) | (simp; omega)), (List.forall_mem_cons.mpr ⟨xe_hs (a := x1.toInt) (b2 := 3) rfl (by decide) (by simp only [xe_ci]; first | (simp only [decide_eq_true_eq]; omega) | (simp only [decide_eq_false_iff_not]; omega) | (simp; omega)), (List.forall_mem_cons.mpr ⟨xe_hd rfl, (List.forall_mem_cons.mpr ⟨xe_hd rfl, (List.forall_mem_cons.mpr ⟨xe_hd rfl, (List.forall_mem_cons.mpr ⟨xe_hd rfl, (List.forall_mem_cons.mpr ⟨xe_hs (a := x3.toInt) (b2 := 0) rfl (by decide) (by simp only [xe_ci]; first | (simp only [decide_eq_true_eq]; omega) | (simp only [decide_eq_false_iff_not]; omega) | (simp; omega)), (fun _ h => absurd h List.not_mem_nil)⟩)⟩)⟩)⟩)⟩)⟩)⟩)⟩)⟩)⟩)⟩)⟩)⟩)⟩)⟩)⟩)
set_option maxRecDepth 100000 in
set_option maxHeartbeats 4000000 in
theorem i_left_11 (x1 x3 : Int32) (h0 : 0 ≤ x1.toInt) (h1 : x1.toInt < 4) (h2 : 2 ≤ x3.toInt) : xe_P 578 [(1, x1), (2, 3), (3, x3)] := xe_pth (ds := [false, false, false, false, false, true, false, true, false, false, false, false, false, false, false, false, false, true]) (cs := [(.lt, x1, 0, false), (.ge, x1, 4, false), (.eq, 1, 0, false), (.lt, 3, 0, false), (.ge, 3, 4, false), (.ne, 1, 0, true), (.lt, x3, 0, false), (.ge, x3, 2, true), (.ne, 0, 0, false), (.eq, (-1), 0, false), (.lt, x1, 0, false), (.gt, x1, 3, false), (.eq, 1, 0, false), (.lt, 3, 0, false), (.gt, 3, 3, false), (.eq, 1, 0, false), (.lt, x3, 0, false), (.gt, x3, 1, true)]) rfl (List.forall_mem_cons.mpr ⟨xe_hs (a := x1.toInt) (b2 := 0) rfl (by decide) (by simp only [xe_ci]; first | (simp only [decide_eq_true_eq]; omega) | (simp only [decide_eq_false_iff_not]; omega) | (simp; omega)), (List.forall_mem_cons.mpr ⟨xe_hs (a := x1.toInt) (b2 := 4) rfl (by decide) (by simp only [xe_ci]; first | (simp only [decide_eq_true_eq]; omega) | (simp only [decide_eq_false_iff_not]; omega) | (simp; omega)), (List.forall_mem_cons.mpr ⟨xe_hd rfl, (List.forall_mem_cons.mpr ⟨xe_hd rfl, (List.forall_mem_cons.mpr ⟨xe_hd rfl, (List.forall_mem_cons.mpr ⟨xe_hd rfl, (List.forall_mem_cons.mpr ⟨xe_hs (a := x3.toInt) (b2 := 0) rfl (by decide) (by simp only [xe_ci]; first | (simp only [decide_eq_true_eq]; omega) | (simp only [decide_eq_false_iff_not]; omega) | (simp; omega)), (List.forall_mem_cons.mpr ⟨xe_hs (a := x3.toInt) (b2 := 2) rfl (by decide) (by simp only [xe_ci]; first | (simp only [decide_eq_true_eq]; omega) | (simp only [decide_eq_false_iff_not]; omega) | (simp; omega)), (List.forall_mem_cons.mpr ⟨xe_hd rfl, (List.forall_mem_cons.mpr ⟨xe_hd rfl, (List.forall_mem_cons.mpr ⟨xe_hs (a := x1.toInt) (b2 := 0) rfl (by decide) (by simp only [xe_ci]; first | (simp only [decide_eq_true_eq]; omega) | (simp only [decide_eq_false_iff_not]; omega) | (simp; omega)), (List.forall_mem_cons.mpr ⟨xe_hs (a := x1.toInt) (b2 := 3) rfl (by decide) (by simp only [xe_ci]; first | (simp only [decide_eq_true_eq]; omega) | (simp only [decide_eq_false_iff_not]; omega) | (simp; omega)), (List.forall_mem_cons.mpr ⟨xe_hd rfl, (List.forall_mem_cons.mpr ⟨xe_hd rfl, (List.forall_mem_cons.mpr ⟨xe_hd rfl, (List.forall_mem_cons.mpr ⟨xe_hd rfl, (List.forall_mem_cons.mpr ⟨xe_hs (a := x3.toInt) (b2 := 0) rfl (by decide) (by simp only [xe_ci]; first | (simp only [decide_eq_true_eq]; omega) | (simp only [decide_eq_false_iff_not]; omega) | (simp; omega)), (List.forall_mem_cons.mpr ⟨xe_hs (a := x3.toInt) (b2 := 1) rfl (by decide) (by simp only [xe_ci]; first | (simp only [decide_eq_true_eq]; omega) | (simp only [decide_eq_false_iff_not]; omega) | (simp; omega)), (fun _ h => absurd h List.not_mem_nil)⟩)⟩)⟩)⟩)⟩)⟩)⟩)⟩)⟩)⟩)⟩)⟩)⟩)⟩)⟩)⟩)⟩)⟩)
set_option maxRecDepth 100000 in
set_option maxHeartbeats 4000000 in
theorem i_group_0 (x1 : Int32) (h0 : x1.toInt < 0) : xe_P 621 [(1, x1)] := xe_pth (ds := [true, false, true]) (cs := [(.lt, x1, 0, true), (.ne, 0, 0, false), (.lt, x1, 0, true)]) rfl (List.forall_mem_cons.mpr ⟨xe_hs (a := x1.toInt) (b2 := 0) rfl (by decide) (by simp only [xe_ci]; first | (simp only [decide_eq_true_eq]; omega) | (simp only [decide_eq_false_iff_not]; omega) | (simp; omega)), (List.forall_mem_cons.mpr ⟨xe_hd rfl, (List.forall_mem_cons.mpr ⟨xe_hs (a := x1.toInt) (b2 := 0) rfl (by decide) (by simp only [xe_ci]; first | (simp only [decide_eq_true_eq]; omega) | (simp only [decide_eq_false_iff_not]; omega) | (simp; omega)), (fun _ h => absurd h List.not_mem_nil)⟩)⟩)⟩)
set_option maxRecDepth 100000 in
set_option maxHeartbeats 4000000 in
theorem i_group_1 (x1 : Int32) (h0 : 4 ≤ x1.toInt) : xe_P 621 [(1, x1)] := xe_pth (ds := [false, true, false, false, true]) (cs := [(.lt, x1, 0, false), (.ge, x1, 4, true), (.ne, 0, 0, false), (.lt, x1, 0, false), (.gt, x1, 3, true)]) rfl (List.forall_mem_cons.mpr ⟨xe_hs (a := x1.toInt) (b2 := 0) rfl (by decide) (by simp only [xe_ci]; first | (simp only [decide_eq_true_eq]; omega) | (simp only [decide_eq_false_iff_not]; omega) | (simp; omega)), (List.forall_mem_cons.mpr ⟨xe_hs (a := x1.toInt) (b2 := 4) rfl (by decide) (by simp only [xe_ci]; first | (simp only [decide_eq_true_eq]; omega) | (simp only [decide_eq_false_iff_not]; omega) | (simp; omega)), (List.forall_mem_cons.mpr ⟨xe_hd rfl, (List.forall_mem_cons.mpr ⟨xe_hs (a := x1.toInt) (b2 := 0) rfl (by decide) (by simp only [xe_ci]; first | (simp only [decide_eq_true_eq]; omega) | (simp only [decide_eq_false_iff_not]; omega) | (simp; omega)), (List.forall_mem_cons.mpr ⟨xe_hs (a := x1.toInt) (b2 := 3) rfl (by decide) (by simp only [xe_ci]; first | (simp only [decide_eq_true_eq]; omega) | (simp only [decide_eq_false_iff_not]; omega) | (simp; omega)), (fun _ h => absurd h List.not_mem_nil)⟩)⟩)⟩)⟩)⟩)
set_option maxRecDepth 100000 in
set_option maxHeartbeats 4000000 in
theorem i_alike_0 (x1 x2 : Int32) (h0 : x1.toInt < 0) : xe_P 644 [(1, x1), (2, x2), (3, 0)] := xe_pth (ds := [true, true, true, true, true]) (cs := [(.eq, 0, 0, true), (.lt, x1, 0, true), (.eq, 0, 0, true), (.eq, 0, 0, true), (.lt, x1, 0, true)]) rfl (List.forall_mem_cons.mpr ⟨xe_hd rfl, (List.forall_mem_cons.mpr ⟨xe_hs (a := x1.toInt) (b2 := 0) rfl (by decide) (by simp only [xe_ci]; first | (simp only [decide_eq_true_eq]; omega) | (simp only [decide_eq_false_iff_not]; omega) | (simp; omega)), (List.forall_mem_cons.mpr ⟨xe_hd rfl, (List.forall_mem_cons.mpr ⟨xe_hd rfl, (List.forall_mem_cons.mpr ⟨xe_hs (a := x1.toInt) (b2 := 0) rfl (by decide) (by simp only [xe_ci]; first | (simp only [decide_eq_true_eq]; omega) | (simp only [decide_eq_false_iff_not]; omega) | (simp; omega)), (fun _ h => absurd h List.not_mem_nil)⟩)⟩)⟩)⟩)⟩)
set_option maxRecDepth 100000 in
set_option maxHeartbeats 4000000 in
theorem i_alike_1 (x1 x2 : Int32) (h0 : 4 ≤ x1.toInt) : xe_P 644 [(1, x1), (2, x2), (3, 0)] := xe_pth (ds := [true, false, true, true, true, false, true]) (cs := [(.eq, 0, 0, true), (.lt, x1, 0, false), (.ge, x1, 4, true), (.eq, 0, 0, true), (.eq, 0, 0, true), (.lt, x1, 0, false), (.gt, x1, 3, true)]) rfl (List.forall_mem_cons.mpr ⟨xe_hd rfl, (List.forall_mem_cons.mpr ⟨xe_hs (a := x1.toInt) (b2 := 0) rfl (by decide) (by simp only [xe_ci]; first | (simp only [decide_eq_true_eq]; omega) | (simp only [decide_eq_false_iff_not]; omega) | (simp; omega)), (List.forall_mem_cons.mpr ⟨xe_hs (a := x1.toInt) (b2 := 4) rfl (by decide) (by simp only [xe_ci]; first | (simp only [decide_eq_true_eq]; omega) | (simp only [decide_eq_false_iff_not]; omega) | (simp; omega)), (List.forall_mem_cons.mpr ⟨xe_hd rfl, (List.forall_mem_cons.mpr ⟨xe_hd rfl, (List.forall_mem_cons.mpr ⟨xe_hs (a := x1.toInt) (b2 := 0) rfl (by decide) (by simp only [xe_ci]; first | (simp only [decide_eq_true_eq]; omega) | (simp only [decide_eq_false_iff_not]; omega) | (simp; omega)), (List.forall_mem_cons.mpr ⟨xe_hs (a := x1.toInt) (b2 := 3) rfl (by decide) (by simp only [xe_ci]; first | (simp only [decide_eq_true_eq]; omega) | (simp only [decide_eq_false_iff_not]; omega) | (simp; omega)), (fun _ h => absurd h List.not_mem_nil)⟩)⟩)⟩)⟩)⟩)⟩)⟩)
set_option maxRecDepth 100000 in
set_option maxHeartbeats 4000000 in
theorem i_alike_2 (x1 x2 : Int32) (h0 : 0 ≤ x1.toInt) (h1 : x1.toInt < 4) (h2 : x2.toInt < 0) : xe_P 644 [(1, x1), (2, x2), (3, 0)] := xe_pth (ds := [true, false, false, false, true, false, true, false, false, false, true]) (cs := [(.eq, 0, 0, true), (.lt, x1, 0, false), (.ge, x1, 4, false), (.eq, 1, 0, false), (.lt, x2, 0, true), (.ne, 0, 0, false), (.eq, 0, 0, true), (.lt, x1, 0, false), (.gt, x1, 3, false), (.eq, 1, 0, false), (.lt, x2, 0, true)]) rfl (List.forall_mem_cons.mpr ⟨xe_hd rfl, (List.forall_mem_cons.mpr ⟨xe_hs (a := x1.toInt) (b2 := 0) rfl (by decide) (by simp only [xe_ci]; first | (simp only [decide_eq_true_eq]; omega) | (simp only [decide_eq_false_iff_not]; omega) | (simp; omega)), (List.forall_mem_cons.mpr ⟨xe_hs (a := x1.toInt) (b2 := 4) rfl (by decide) (by simp only [xe_ci]; first | (simp only [decide_eq_true_eq]; omega) | (simp only [decide_eq_false_iff_not]; omega) | (simp; omega)), (List.forall_mem_cons.mpr ⟨xe_hd rfl, (List.forall_mem_cons.mpr ⟨xe_hs (a := x2.toInt) (b2 := 0) rfl (by decide) (by simp only [xe_ci]; first | (simp only [decide_eq_true_eq]; omega) | (simp only [decide_eq_false_iff_not]; omega) | (simp; omega)), (List.forall_mem_cons.mpr ⟨xe_hd rfl, (List.forall_mem_cons.mpr ⟨xe_hd rfl, (List.forall_mem_cons.mpr ⟨xe_hs (a := x1.toInt) (b2 := 0) rfl (by decide) (by simp only [xe_ci]; first | (simp only [decide_eq_true_eq]; omega) | (simp only [decide_eq_false_iff_not]; omega) | (simp; omega)), (List.forall_mem_cons.mpr ⟨xe_hs (a := x1.toInt) (b2 := 3) rfl (by decide) (by simp only [xe_ci]; first | (simp only [decide_eq_true_eq]; omega) | (simp only [decide_eq_false_iff_not]; omega) | (simp; omega)), (List.forall_mem_cons.mpr ⟨xe_hd rfl, (List.forall_mem_cons.mpr ⟨xe_hs (a := x2.toInt) (b2 := 0) rfl (by decide) (by simp only [xe_ci]; first | (simp only [decide_eq_true_eq]; omega) | (simp only [decide_eq_false_iff_not]; omega) | (simp; omega)), (fun _ h => absurd h List.not_mem_nil)⟩)⟩)⟩)⟩)⟩)⟩)⟩)⟩)⟩)⟩)⟩)
set_option maxRecDepth 100000 in
set_option maxHeartbeats 4000000 in
theorem i_alike_3 (x1 x2 : Int32) (h0 : 0 ≤ x1.toInt) (h1 : x1.toInt < 4) (h2 : 4 ≤ x2.toInt) : xe_P 644 [(1, x1), (2, x2), (3, 0)] := xe_pth (ds := [true, false, false, false, false, true, false, true, false, false, false, false, true]) (cs := [(.eq, 0, 0, true), (.lt, x1, 0, false), (.ge, x1, 4, false), (.eq, 1, 0, false), (.lt, x2, 0, false), (.ge, x2, 4, true), (.ne, 0, 0, false), (.eq, 0, 0, true), (.lt, x1, 0, false), (.gt, x1, 3, false), (.eq, 1, 0, false), (.lt, x2, 0, false), (.gt, x2, 3, true)]) rfl (List.forall_mem_cons.mpr ⟨xe_hd rfl, (List.forall_mem_cons.mpr ⟨xe_hs (a := x1.toInt) (b2 := 0) rfl (by decide) (by simp only [xe_ci]; first | (simp only [decide_eq_true_eq]; omega) | (simp only [decide_eq_false_iff_not]; omega) | (simp; omega)), (List.forall_mem_cons.mpr ⟨xe_hs (a := x1.toInt) (b2 := 4) rfl (by decide) (by simp only [xe_ci]; first | (simp only [decide_eq_true_eq]; omega) | (simp only [decide_eq_false_iff_not]; omega) | (simp; omega)), (List.forall_mem_cons.mpr ⟨xe_hd rfl, (List.forall_mem_cons.mpr ⟨xe_hs (a := x2.toInt) (b2 := 0) rfl (by decide) (by simp only [xe_ci]; first | (simp only [decide_eq_true_eq]; omega) | (simp only [decide_eq_false_iff_not]; omega) | (simp; omega)), (List.forall_mem_cons.mpr ⟨xe_hs (a := x2.toInt) (b2 := 4) rfl (by decide) (by simp only [xe_ci]; first | (simp only [decide_eq_true_eq]; omega) | (simp only [decide_eq_false_iff_not]; omega) | (simp; omega)), (List.forall_mem_cons.mpr ⟨xe_hd rfl, (List.forall_mem_cons.mpr ⟨xe_hd rfl, (List.forall_mem_cons.mpr ⟨xe_hs (a := x1.toInt) (b2 := 0) rfl (by decide) (by simp only [xe_ci]; first | (simp only [decide_eq_true_eq]; omega) | (simp only [decide_eq_false_iff_not]; omega) | (simp; omega)), (List.forall_mem_cons.mpr ⟨xe_hs (a := x1.toInt) (b2 := 3) rfl (by decide) (by simp only [xe_ci]; first | (simp only [decide_eq_true_eq]; omega) | (simp only [decide_eq_false_iff_not]; omega) | (simp; omega)), (List.forall_mem_cons.mpr ⟨xe_hd rfl, (List.forall_mem_cons.mpr ⟨xe_hs (a := x2.toInt) (b2 := 0) rfl (by decide) (by simp only [xe_ci]; first | (simp only [decide_eq_true_eq]; omega) | (simp only [decide_eq_false_iff_not]; omega) | (simp; omega)), (List.forall_mem_cons.mpr ⟨xe_hs (a := x2.toInt) (b2 := 3) rfl (by decide) (by simp only [xe_ci]; first | (simp only [decide_eq_true_eq]; omega) | (simp only [decide_eq_false_iff_not]; omega) | (simp; omega)), (fun _ h => absurd h List.not_mem_nil)⟩)⟩)⟩)⟩)⟩)⟩)⟩)⟩)⟩)⟩)⟩)⟩)⟩)
set_option maxRecDepth 100000 in
set_option maxHeartbeats 4000000 in
theorem i_alike_4 (x1 x2 x3 : Int32) (h0 : x1.toInt < 0) (h1 : x3.toInt ≠ 0) : xe_P 644 [(1, x1), (2, x2), (3, x3)] := xe_pth (ds := [false, true, true, false, true]) (cs := [(.eq, x3, 0, false), (.lt, x1, 0, true), (.eq, 0, 0, true), (.eq, x3, 0, false), (.lt, x1, 0, true)]) rfl (List.forall_mem_cons.mpr ⟨xe_hs (a := x3.toInt) (b2 := 0) rfl (by decide) (by simp only [xe_ci]; first | (simp only [decide_eq_true_eq]; omega) | (simp only [decide_eq_false_iff_not]; omega) | (simp; omega)), (List.forall_mem_cons.mpr ⟨xe_hs (a := x1.toInt) (b2 := 0) rfl (by decide) (by simp only [xe_ci]; first | (simp only [decide_eq_true_eq]; omega) | (simp only [decide_eq_false_iff_not]; omega) | (simp; omega)), (List.forall_mem_cons.mpr ⟨xe_hd rfl, (List.forall_mem_cons.mpr ⟨xe_hs (a := x3.toInt) (b2 := 0) rfl (by decide) (by simp only [xe_ci]; first | (simp only [decide_eq_true_eq]; omega) | (simp only [decide_eq_false_iff_not]; omega) | (simp; omega)), (List.forall_mem_cons.mpr ⟨xe_hs (a := x1.toInt) (b2 := 0) rfl (by decide) (by simp only [xe_ci]; first | (simp only [decide_eq_true_eq]; omega) | (simp only [decide_eq_false_iff_not]; omega) | (simp; omega)), (fun _ h => absurd h List.not_mem_nil)⟩)⟩)⟩)⟩)⟩)
set_option maxRecDepth 100000 in
set_option maxHeartbeats 4000000 in
theorem i_alike_5 (x1 x2 x3 : Int32) (h0 : 4 ≤ x1.toInt) (h1 : x3.toInt ≠ 0) : xe_P 644 [(1, x1), (2, x2), (3, x3)] := xe_pth (ds := [false, false, true, true, false, false, true]) (cs := [(.eq, x3, 0, false), (.lt, x1, 0, false), (.ge, x1, 4, true), (.eq, 0, 0, true), (.eq, x3, 0, false), (.lt, x1, 0, false), (.gt, x1, 3, true)]) rfl (List.forall_mem_cons.mpr ⟨xe_hs (a := x3.toInt) (b2 := 0) rfl (by decide) (by simp only [xe_ci]; first | (simp only [decide_eq_true_eq]; omega) | (simp only [decide_eq_false_iff_not]; omega) | (simp; omega)), (List.forall_mem_cons.mpr ⟨xe_hs (a := x1.toInt) (b2 := 0) rfl (by decide) (by simp only [xe_ci]; first | (simp only [decide_eq_true_eq]; omega) | (simp only [decide_eq_false_iff_not]; omega) | (simp; omega)), (List.forall_mem_cons.mpr ⟨xe_hs (a := x1.toInt) (b2 := 4) rfl (by decide) (by simp only [xe_ci]; first | (simp only [decide_eq_true_eq]; omega) | (simp only [decide_eq_false_iff_not]; omega) | (simp; omega)), (List.forall_mem_cons.mpr ⟨xe_hd rfl, (List.forall_mem_cons.mpr ⟨xe_hs (a := x3.toInt) (b2 := 0) rfl (by decide) (by simp only [xe_ci]; first | (simp only [decide_eq_true_eq]; omega) | (simp only [decide_eq_false_iff_not]; omega) | (simp; omega)), (List.forall_mem_cons.mpr ⟨xe_hs (a := x1.toInt) (b2 := 0) rfl (by decide) (by simp only [xe_ci]; first | (simp only [decide_eq_true_eq]; omega) | (simp only [decide_eq_false_iff_not]; omega) | (simp; omega)), (List.forall_mem_cons.mpr ⟨xe_hs (a := x1.toInt) (b2 := 3) rfl (by decide) (by simp only [xe_ci]; first | (simp only [decide_eq_true_eq]; omega) | (simp only [decide_eq_false_iff_not]; omega) | (simp; omega)), (fun _ h => absurd h List.not_mem_nil)⟩)⟩)⟩)⟩)⟩)⟩)⟩)
set_option maxRecDepth 100000 in
set_option maxHeartbeats 4000000 in
theorem i_alike_6 (x1 x2 x3 : Int32) (h0 : 0 ≤ x1.toInt) (h1 : x1.toInt < 4) (h2 : x2.toInt < 0) (h3 : x3.toInt ≠ 0) : xe_P 644 [(1, x1), (2, x2), (3, x3)] := xe_pth (ds := [false, false, false, false, true, false, false, false, false, false, true]) (cs := [(.eq, x3, 0, false), (.lt, x1, 0, false), (.ge, x1, 4, false), (.eq, 1, 0, false), (.lt, x2, 0, true), (.ne, 0, 0, false), (.eq, x3, 0, false), (.lt, x1, 0, false), (.gt, x1, 3, false), (.eq, 1, 0, false), (.lt, x2, 0, true)]) rfl (List.forall_mem_cons.mpr ⟨xe_hs (a := x3.toInt) (b2 := 0) rfl (by decide) (by simp only [xe_ci]; first | (simp only [decide_eq_true_eq]; omega) | (simp only [decide_eq_false_iff_not]; omega) | (simp; omega)), (List.forall_mem_cons.mpr ⟨xe_hs (a := x1.toInt) (b2 := 0) rfl (by decide) (by simp only [xe_ci]; first | (simp only [decide_eq_true_eq]; omega) | (simp only [decide_eq_false_iff_not]; omega) | (simp; omega)), (List.forall_mem_cons.mpr ⟨xe_hs (a := x1.toInt) (b2 := 4) rfl (by decide) (by simp only [xe_ci]; first | (simp only [decide_eq_true_eq]; omega) | (simp only [decide_eq_false_iff_not]; omega) | (simp; omega)), (List.forall_mem_cons.mpr ⟨xe_hd rfl, (List.forall_mem_cons.mpr ⟨xe_hs (a := x2.toInt) (b2 := 0) rfl (by decide) (by simp only [xe_ci]; first | (simp only [decide_eq_true_eq]; omega) | (simp only [decide_eq_false_iff_not]; omega) | (simp; omega)), (List.forall_mem_cons.mpr ⟨xe_hd rfl, (List.forall_mem_cons.mpr ⟨xe_hs (a := x3.toInt) (b2 := 0) rfl (by decide) (by simp only [xe_ci]; first | (simp only [decide_eq_true_eq]; omega) | (simp only [decide_eq_false_iff_not]; omega) | (simp; omega)), (List.forall_mem_cons.mpr ⟨xe_hs (a := x1.toInt) (b2 := 0) rfl (by decide) (by simp only [xe_ci]; first | (simp only [decide_eq_true_eq]; omega) | (simp only [decide_eq_false_iff_not]; omega) | (simp; omega)), (List.forall_mem_cons.mpr ⟨xe_hs (a := x1.toInt) (b2 := 3) rfl (by decide) (by simp only [xe_ci]; first | (simp only [decide_eq_true_eq]; omega) | (simp only [decide_eq_false_iff_not]; omega) | (simp; omega)), (List.forall_mem_cons.mpr ⟨xe_hd rfl, (List.forall_mem_cons.mpr ⟨xe_hs (a := x2.toInt) (b2 := 0) rfl (by decide) (by simp only [xe_ci]; first | (simp only [decide_eq_true_eq]; omega) | (simp only [decide_eq_false_iff_not]; omega) | (simp; omega)), (fun _ h => absurd h List.not_mem_nil)⟩)⟩)⟩)⟩)⟩)⟩)⟩)⟩)⟩)⟩)⟩)
set_option maxRecDepth 100000 in
set_option maxHeartbeats 4000000 in
theorem i_alike_7 (x1 x2 x3 : Int32) (h0 : 0 ≤ x1.toInt) (h1 : x1.toInt < 4) (h2 : 4 ≤ x2.toInt) (h3 : x3.toInt ≠ 0) : xe_P 644 [(1, x1), (2, x2), (3, x3)] := xe_pth (ds := [false, false, false, false, false, true, false, false, false, false, false, false, true]) (cs := [(.eq, x3, 0, false), (.lt, x1, 0, false), (.ge, x1, 4, false), (.eq, 1, 0, false), (.lt, x2, 0, false), (.ge, x2, 4, true), (.ne, 0, 0, false), (.eq, x3, 0, false), (.lt, x1, 0, false), (.gt, x1, 3, false), (.eq, 1, 0, false), (.lt, x2, 0, false), (.gt, x2, 3, true)]) rfl (List.forall_mem_cons.mpr ⟨xe_hs (a := x3.toInt) (b2 := 0) rfl (by decide) (by simp only [xe_ci]; first | (simp only [decide_eq_true_eq]; omega) | (simp only [decide_eq_false_iff_not]; omega) | (simp; omega)), (List.forall_mem_cons.mpr ⟨xe_hs (a := x1.toInt) (b2 := 0) rfl (by decide) (by simp only [xe_ci]; first | (simp only [decide_eq_true_eq]; omega) | (simp only [decide_eq_false_iff_not]; omega) | (simp; omega)), (List.forall_mem_cons.mpr ⟨xe_hs (a := x1.toInt) (b2 := 4) rfl (by decide) (by simp only [xe_ci]; first | (simp only [decide_eq_true_eq]; omega) | (simp only [decide_eq_false_iff_not]; omega) | (simp; omega)), (List.forall_mem_cons.mpr ⟨xe_hd rfl, (List.forall_mem_cons.mpr ⟨xe_hs (a := x2.toInt) (b2 := 0) rfl (by decide) (by simp only [xe_ci]; first | (simp only [decide_eq_true_eq]; omega) | (simp only [decide_eq_false_iff_not]; omega) | (simp; omega)), (List.forall_mem_cons.mpr ⟨xe_hs (a := x2.toInt) (b2 := 4) rfl (by decide) (by simp only [xe_ci]; first | (simp only [decide_eq_true_eq]; omega) | (simp only [decide_eq_false_iff_not]; omega) | (simp; omega)), (List.forall_mem_cons.mpr ⟨xe_hd rfl, (List.forall_mem_cons.mpr ⟨xe_hs (a := x3.toInt) (b2 := 0) rfl (by decide) (by simp only [xe_ci]; first | (simp only [decide_eq_true_eq]; omega) | (simp only [decide_eq_false_iff_not]; omega) | (simp; omega)), (List.forall_mem_cons.mpr ⟨xe_hs (a := x1.toInt) (b2 := 0) rfl (by decide) (by simp only [xe_ci]; first | (simp only [decide_eq_true_eq]; omega) | (simp only [decide_eq_false_iff_not]; omega) | (simp; omega)), (List.forall_mem_cons.mpr ⟨xe_hs (a := x1.toInt) (b2 := 3) rfl (by decide) (by simp only [xe_ci]; first | (simp only [decide_eq_true_eq]; omega) | (simp only [decide_eq_false_iff_not]; omega) | (simp; omega)), (List.forall_mem_cons.mpr ⟨xe_hd rfl, (List.forall_mem_cons.mpr ⟨xe_hs (a := x2.toInt) (b2 := 0) rfl (by decide) (by simp only [xe_ci]; first | (simp only [decide_eq_true_eq]; omega) | (simp only [decide_eq_false_iff_not]; omega) | (simp; omega)), (List.forall_mem_cons.mpr ⟨xe_hs (a := x2.toInt) (b2 := 3) rfl (by decide) (by simp only [xe_ci]; first | (simp only [decide_eq_true_eq]; omega) | (simp only [decide_eq_false_iff_not]; omega) | (simp; omega)), (fun _ h => absurd h List.not_mem_nil)⟩)⟩)⟩)⟩)⟩)⟩)⟩)⟩)⟩)⟩)⟩)⟩)⟩)
set_option maxRecDepth 100000 in
set_option maxHeartbeats 4000000 in
theorem i_name_0 (x1 x2 : Int32) (h0 : x1.toInt < 0) : xe_P 703 [(1, x1), (2, x2)] := xe_pth (ds := [true, true, true]) (cs := [(.lt, x1, 0, true), (.eq, 0, 0, true), (.lt, x1, 0, true)]) rfl (List.forall_mem_cons.mpr ⟨xe_hs (a := x1.toInt) (b2 := 0) rfl (by decide) (by simp only [xe_ci]; first | (simp only [decide_eq_true_eq]; omega) | (simp only [decide_eq_false_iff_not]; omega) | (simp; omega)), (List.forall_mem_cons.mpr ⟨xe_hd rfl, (List.forall_mem_cons.mpr ⟨xe_hs (a := x1.toInt) (b2 := 0) rfl (by decide) (by simp only [xe_ci]; first | (simp only [decide_eq_true_eq]; omega) | (simp only [decide_eq_false_iff_not]; omega) | (simp; omega)), (fun _ h => absurd h List.not_mem_nil)⟩)⟩)⟩)
set_option maxRecDepth 100000 in
set_option maxHeartbeats 4000000 in
theorem i_name_1 (x1 x2 : Int32) (h0 : 4 ≤ x1.toInt) : xe_P 703 [(1, x1), (2, x2)] := xe_pth (ds := [false, true, true, false, true]) (cs := [(.lt, x1, 0, false), (.ge, x1, 4, true), (.eq, 0, 0, true), (.lt, x1, 0, false), (.gt, x1, 3, true)]) rfl (List.forall_mem_cons.mpr ⟨xe_hs (a := x1.toInt) (b2 := 0) rfl (by decide) (by simp only [xe_ci]; first | (simp only [decide_eq_true_eq]; omega) | (simp only [decide_eq_false_iff_not]; omega) | (simp; omega)), (List.forall_mem_cons.mpr ⟨xe_hs (a := x1.toInt) (b2 := 4) rfl (by decide) (by simp only [xe_ci]; first | (simp only [decide_eq_true_eq]; omega) | (simp only [decide_eq_false_iff_not]; omega) | (simp; omega)), (List.forall_mem_cons.mpr ⟨xe_hd rfl, (List.forall_mem_cons.mpr ⟨xe_hs (a := x1.toInt) (b2 := 0) rfl (by decide) (by simp only [xe_ci]; first | (simp only [decide_eq_true_eq]; omega) | (simp only [decide_eq_false_iff_not]; omega) | (simp; omega)), (List.forall_mem_cons.mpr ⟨xe_hs (a := x1.toInt) (b2 := 3) rfl (by decide) (by simp only [xe_ci]; first | (simp only [decide_eq_true_eq]; omega) | (simp only [decide_eq_false_iff_not]; omega) | (simp; omega)), (fun _ h => absurd h List.not_mem_nil)⟩)⟩)⟩)⟩)⟩)
set_option maxRecDepth 100000 in
set_option maxHeartbeats 4000000 in
theorem i_name_2 (x1 x2 : Int32) (h0 : 0 ≤ x1.toInt) (h1 : x1.toInt < 4) (h2 : x2.toInt < 0) : xe_P 703 [(1, x1), (2, x2)] := xe_pth (ds := [false, false, false, true, false, false, false, false, true]) (cs := [(.lt, x1, 0, false), (.ge, x1, 4, false), (.eq, 1, 0, false), (.lt, x2, 0, true), (.ne, 0, 0, false), (.lt, x1, 0, false), (.gt, x1, 3, false), (.eq, 1, 0, false), (.lt, x2, 0, true)]) rfl (List.forall_mem_cons.mpr ⟨xe_hs (a := x1.toInt) (b2 := 0) rfl (by decide) (by simp only [xe_ci]; first | (simp only [decide_eq_true_eq]; omega) | (simp only [decide_eq_false_iff_not]; omega) | (simp; omega)), (List.forall_mem_cons.mpr ⟨xe_hs (a := x1.toInt) (b2 := 4) rfl (by decide) (by simp only [xe_ci]; first | (simp only [decide_eq_true_eq]; omega) | (simp only [decide_eq_false_iff_not]; omega) | (simp; omega)), (List.forall_mem_cons.mpr ⟨xe_hd rfl, (List.forall_mem_cons.mpr ⟨xe_hs (a := x2.toInt) (b2 := 0) rfl (by decide) (by simp only [xe_ci]; first | (simp only [decide_eq_true_eq]; omega) | (simp only [decide_eq_false_iff_not]; omega) | (simp; omega)), (List.forall_mem_cons.mpr ⟨xe_hd rfl, (List.forall_mem_cons.mpr ⟨xe_hs (a := x1.toInt) (b2 := 0) rfl (by decide) (by simp only [xe_ci]; first | (simp only [decide_eq_true_eq]; omega) | (simp only [decide_eq_false_iff_not]; omega) | (simp; omega)), (List.forall_mem_cons.mpr ⟨xe_hs (a := x1.toInt) (b2 := 3) rfl (by decide) (by simp only [xe_ci]; first | (simp only [decide_eq_true_eq]; omega) | (simp only [decide_eq_false_iff_not]; omega) | (simp; omega)), (List.forall_mem_cons.mpr ⟨xe_hd rfl, (List.forall_mem_cons.mpr ⟨xe_hs (a := x2.toInt) (b2 := 0) rfl (by decide) (by simp only [xe_ci]; first | (simp only [decide_eq_true_eq]; omega) | (simp only [decide_eq_false_iff_not]; omega) | (simp; omega)), (fun _ h => absurd h List.not_mem_nil)⟩)⟩)⟩)⟩)⟩)⟩)⟩)⟩)⟩)
set_option maxRecDepth 100000 in
set_option maxHeartbeats 4000000 in
theorem i_name_3 (x1 x2 : Int32) (h0 : 0 ≤ x1.toInt) (h1 : x1.toInt < 4) (h2 : 4 ≤ x2.toInt) : xe_P 703 [(1, x1), (2, x2)] := xe_pth (ds := [false, false, false, false, true, false, false, false, false, false, true]) (cs := [(.lt, x1, 0, false), (.ge, x1, 4, false), (.eq, 1, 0, false), (.lt, x2, 0, false), (.ge, x2, 4, true), (.ne, 0, 0, false), (.lt, x1, 0, false), (.gt, x1, 3, false), (.eq, 1, 0, false), (.lt, x2, 0, false), (.gt, x2, 3, true)]) rfl (List.forall_mem_cons.mpr ⟨xe_hs (a := x1.toInt) (b2 := 0) rfl (by decide) (by simp only [xe_ci]; first | (simp only [decide_eq_true_eq]; omega) | (simp only [decide_eq_false_iff_not]; omega) | (simp; omega)), (List.forall_mem_cons.mpr ⟨xe_hs (a := x1.toInt) (b2 := 4) rfl (by decide) (by simp only [xe_ci]; first | (simp only [decide_eq_true_eq]; omega) | (simp only [decide_eq_false_iff_not]; omega) | (simp; omega)), (List.forall_mem_cons.mpr ⟨xe_hd rfl, (List.forall_mem_cons.mpr ⟨xe_hs (a := x2.toInt) (b2 := 0) rfl (by decide) (by simp only [xe_ci]; first | (simp only [decide_eq_true_eq]; omega) | (simp only [decide_eq_false_iff_not]; omega) | (simp; omega)), (List.forall_mem_cons.mpr ⟨xe_hs (a := x2.toInt) (b2 := 4) rfl (by decide) (by simp only [xe_ci]; first | (simp only [decide_eq_true_eq]; omega) | (simp only [decide_eq_false_iff_not]; omega) | (simp; omega)), (List.forall_mem_cons.mpr ⟨xe_hd rfl, (List.forall_mem_cons.mpr ⟨xe_hs (a := x1.toInt) (b2 := 0) rfl (by decide) (by simp only [xe_ci]; first | (simp only [decide_eq_true_eq]; omega) | (simp only [decide_eq_false_iff_not]; omega) | (simp; omega)), (List.forall_mem_cons.mpr ⟨xe_hs (a := x1.toInt) (b2 := 3) rfl (by decide) (by simp only [xe_ci]; first | (simp only [decide_eq_true_eq]; omega) | (simp only [decide_eq_false_iff_not]; omega) | (simp; omega)), (List.forall_mem_cons.mpr ⟨xe_hd rfl, (List.forall_mem_cons.mpr ⟨xe_hs (a := x2.toInt) (b2 := 0) rfl (by decide) (by simp only [xe_ci]; first | (simp only [decide_eq_true_eq]; omega) | (simp only [decide_eq_false_iff_not]; omega) | (simp; omega)), (List.forall_mem_cons.mpr ⟨xe_hs (a := x2.toInt) (b2 := 3) rfl (by decide) (by simp only [xe_ci]; first | (simp only [decide_eq_true_eq]; omega) | (simp only [decide_eq_false_iff_not]; omega) | (simp; omega)), (fun _ h => absurd h List.not_mem_nil)⟩)⟩)⟩)⟩)⟩)⟩)⟩)⟩)⟩)⟩)⟩)
set_option maxRecDepth 100000 in
set_option maxHeartbeats 4000000 in
theorem i_square_0 (x1 x2 : Int32) (h0 : x1.toInt < 0) : xe_P 736 [(1, x1), (2, x2)] := xe_pth (ds := [true, true, true]) (cs := [(.lt, x1, 0, true), (.eq, 0, 0, true), (.lt, x1, 0, true)]) rfl (List.forall_mem_cons.mpr ⟨xe_hs (a := x1.toInt) (b2 := 0) rfl (by decide) (by simp only [xe_ci]; first | (simp only [decide_eq_true_eq]; omega) | (simp only [decide_eq_false_iff_not]; omega) | (simp; omega)), (List.forall_mem_cons.mpr ⟨xe_hd rfl, (List.forall_mem_cons.mpr ⟨xe_hs (a := x1.toInt) (b2 := 0) rfl (by decide) (by simp only [xe_ci]; first | (simp only [decide_eq_true_eq]; omega) | (simp only [decide_eq_false_iff_not]; omega) | (simp; omega)), (fun _ h => absurd h List.not_mem_nil)⟩)⟩)⟩)
set_option maxRecDepth 100000 in
set_option maxHeartbeats 4000000 in
theorem i_square_1 (x1 x2 : Int32) (h0 : 4 ≤ x1.toInt) : xe_P 736 [(1, x1), (2, x2)] := xe_pth (ds := [false, true, true, false, true]) (cs := [(.lt, x1, 0, false), (.ge, x1, 4, true), (.eq, 0, 0, true), (.lt, x1, 0, false), (.gt, x1, 3, true)]) rfl (List.forall_mem_cons.mpr ⟨xe_hs (a := x1.toInt) (b2 := 0) rfl (by decide) (by simp only [xe_ci]; first | (simp only [decide_eq_true_eq]; omega) | (simp only [decide_eq_false_iff_not]; omega) | (simp; omega)), (List.forall_mem_cons.mpr ⟨xe_hs (a := x1.toInt) (b2 := 4) rfl (by decide) (by simp only [xe_ci]; first | (simp only [decide_eq_true_eq]; omega) | (simp only [decide_eq_false_iff_not]; omega) | (simp; omega)), (List.forall_mem_cons.mpr ⟨xe_hd rfl, (List.forall_mem_cons.mpr ⟨xe_hs (a := x1.toInt) (b2 := 0) rfl (by decide) (by simp only [xe_ci]; first | (simp only [decide_eq_true_eq]; omega) | (simp only [decide_eq_false_iff_not]; omega) | (simp; omega)), (List.forall_mem_cons.mpr ⟨xe_hs (a := x1.toInt) (b2 := 3) rfl (by decide) (by simp only [xe_ci]; first | (simp only [decide_eq_true_eq]; omega) | (simp only [decide_eq_false_iff_not]; omega) | (simp; omega)), (fun _ h => absurd h List.not_mem_nil)⟩)⟩)⟩)⟩)⟩)
set_option maxRecDepth 100000 in
set_option maxHeartbeats 4000000 in
theorem i_square_2 (x1 x2 : Int32) (h0 : 0 ≤ x1.toInt) (h1 : x1.toInt < 4) (h2 : x2.toInt < -1) : xe_P 736 [(1, x1), (2, x2)] := xe_pth (ds := [false, false, false, false, false, false, false, false]) (cs := [(.lt, x1, 0, false), (.ge, x1, 4, false), (.eq, 1, 0, false), (.ge, x2, (-1), false), (.lt, x1, 0, false), (.gt, x1, 3, false), (.eq, 1, 0, false), (.ge, x2, (-1), false)]) rfl (List.forall_mem_cons.mpr ⟨xe_hs (a := x1.toInt) (b2 := 0) rfl (by decide) (by simp only [xe_ci]; first | (simp only [decide_eq_true_eq]; omega) | (simp only [decide_eq_false_iff_not]; omega) | (simp; omega)), (List.forall_mem_cons.mpr ⟨xe_hs (a := x1.toInt) (b2 := 4) rfl (by decide) (by simp only [xe_ci]; first | (simp only [decide_eq_true_eq]; omega) | (simp only [decide_eq_false_iff_not]; omega) | (simp; omega)), (List.forall_mem_cons.mpr ⟨xe_hd rfl, (List.forall_mem_cons.mpr ⟨xe_hs (a := x2.toInt) (b2 := (-1)) rfl (by decide) (by simp only [xe_ci]; first | (simp only [decide_eq_true_eq]; omega) | (simp only [decide_eq_false_iff_not]; omega) | (simp; omega)), (List.forall_mem_cons.mpr ⟨xe_hs (a := x1.toInt) (b2 := 0) rfl (by decide) (by simp only [xe_ci]; first | (simp only [decide_eq_true_eq]; omega) | (simp only [decide_eq_false_iff_not]; omega) | (simp; omega)), (List.forall_mem_cons.mpr ⟨xe_hs (a := x1.toInt) (b2 := 3) rfl (by decide) (by simp only [xe_ci]; first | (simp only [decide_eq_true_eq]; omega) | (simp only [decide_eq_false_iff_not]; omega) | (simp; omega)), (List.forall_mem_cons.mpr ⟨xe_hd rfl, (List.forall_mem_cons.mpr ⟨xe_hs (a := x2.toInt) (b2 := (-1)) rfl (by decide) (by simp only [xe_ci]; first | (simp only [decide_eq_true_eq]; omega) | (simp only [decide_eq_false_iff_not]; omega) | (simp; omega)), (fun _ h => absurd h List.not_mem_nil)⟩)⟩)⟩)⟩)⟩)⟩)⟩)⟩)
set_option maxRecDepth 100000 in
set_option maxHeartbeats 4000000 in
theorem i_square_3 (x2 : Int32) (h0 : 0 ≤ x2.toInt) : xe_P 736 [(1, 0), (2, x2)] := xe_pth (ds := [false, false, false, true, true, false, true, true, true, false, false, false, true, false, false, true, true, true, false, false, true, true]) (cs := [(.lt, 0, 0, false), (.ge, 0, 4, false), (.eq, 1, 0, false), (.ge, x2, (-1), true), (.ge, 1, 1, true), (.ne, 0, 0, false), (.ne, 1, 0, true), (.ne, x2, (-1), true), (.ge, 1, 1, true), (.lt, 0, 0, false), (.gt, 0, 3, false), (.eq, 1, 0, false), (.ge, x2, (-1), true), (.ge, 0, 1, false), (.ge, 0, 1, false), (.ge, 0, 0, true), (.ge, 1, 1, true), (.ge, 1, 1, true), (.ne, 0, 0, false), (.eq, 1, 0, false), (.ge, 1, 1, true), (.ge, x2, 0, true)]) rfl (List.forall_mem_cons.mpr ⟨xe_hd rfl, (List.forall_mem_cons.mpr ⟨xe_hd rfl, (List.forall_mem_cons.mpr ⟨xe_hd rfl, (List.forall_mem_cons.mpr ⟨xe_hs (a := x2.toInt) (b2 := (-1)) rfl (by decide) (by simp only [xe_ci]; first | (simp only [decide_eq_true_eq]; omega) | (simp only [decide_eq_false_iff_not]; omega) | (simp; omega)), (List.forall_mem_cons.mpr ⟨xe_hd rfl, (List.forall_mem_cons.mpr ⟨xe_hd rfl, (List.forall_mem_cons.mpr ⟨xe_hd rfl, (List.forall_mem_cons.mpr ⟨xe_hs (a := x2.toInt) (b2 := (-1)) rfl (by decide) (by simp only [xe_ci]; first | (simp only [decide_eq_true_eq]; omega) | (simp only [decide_eq_false_iff_not]; omega) | (simp; omega)), (List.forall_mem_cons.mpr ⟨xe_hd rfl, (List.forall_mem_cons.mpr ⟨xe_hd rfl, (List.forall_mem_cons.mpr ⟨xe_hd rfl, (List.forall_mem_cons.mpr ⟨xe_hd rfl, (List.forall_mem_cons.mpr ⟨xe_hs (a := x2.toInt) (b2 := (-1)) rfl (by decide) (by simp only [xe_ci]; first | (simp only [decide_eq_true_eq]; omega) | (simp only [decide_eq_false_iff_not]; omega) | (simp; omega)), (List.forall_mem_cons.mpr ⟨xe_hd rfl, (List.forall_mem_cons.mpr ⟨xe_hd rfl, (List.forall_mem_cons.mpr ⟨xe_hd rfl, (List.forall_mem_cons.mpr ⟨xe_hd rfl, (List.forall_mem_cons.mpr ⟨xe_hd rfl, (List.forall_mem_cons.mpr ⟨xe_hd rfl, (List.forall_mem_cons.mpr ⟨xe_hd rfl, (List.forall_mem_cons.mpr ⟨xe_hd rfl, (List.forall_mem_cons.mpr ⟨xe_hs (a := x2.toInt) (b2 := 0) rfl (by decide) (by simp only [xe_ci]; first | (simp only [decide_eq_true_eq]; omega) | (simp only [decide_eq_false_iff_not]; omega) | (simp; omega)), (fun _ h => absurd h List.not_mem_nil)⟩)⟩)⟩)⟩)⟩)⟩)⟩)⟩)⟩)⟩)⟩)⟩)⟩)⟩)⟩)⟩)⟩)⟩)⟩)⟩)⟩)⟩)
set_option maxRecDepth 100000 in
set_option maxHeartbeats 4000000 in
theorem i_square_4 (x2 : Int32) (h0 : 0 ≤ x2.toInt) : xe_P 736 [(1, 1), (2, x2)] := xe_pth (ds := [false, false, false, true, true, false, true, true, true, false, false, false, true, false, false, true, true, true, false, false, true, true]) (cs := [(.lt, 1, 0, false), (.ge, 1, 4, false), (.eq, 1, 0, false), (.ge, x2, (-1), true), (.ge, 1, 1, true), (.ne, 0, 0, false), (.ne, 1, 0, true), (.ne, x2, (-1), true), (.ge, 1, 1, true), (.lt, 1, 0, false), (.gt, 1, 3, false), (.eq, 1, 0, false), (.ge, x2, (-1), true), (.ge, 0, 1, false), (.ge, 0, 1, false), (.ge, 0, 0, true), (.ge, 1, 1, true), (.ge, 1, 1, true), (.ne, 0, 0, false), (.eq, 1, 0, false), (.ge, 1, 1, true), (.ge, x2, 0, true)]) rfl (List.forall_mem_cons.mpr ⟨xe_hd rfl, (List.forall_mem_cons.mpr ⟨xe_hd rfl, (List.forall_mem_cons.mpr ⟨xe_hd rfl, (List.forall_mem_cons.mpr ⟨xe_hs (a := x2.toInt) (b2 := (-1)) rfl (by decide) (by simp only [xe_ci]; first | (simp only [decide_eq_true_eq]; omega) | (simp only [decide_eq_false_iff_not]; omega) | (simp; omega)), (List.forall_mem_cons.mpr ⟨xe_hd rfl, (List.forall_mem_cons.mpr ⟨xe_hd rfl, (List.forall_mem_cons.mpr ⟨xe_hd rfl, (List.forall_mem_cons.mpr ⟨xe_hs (a := x2.toInt) (b2 := (-1)) rfl (by decide) (by simp only [xe_ci]; first | (simp only [decide_eq_true_eq]; omega) | (simp only [decide_eq_false_iff_not]; omega) | (simp; omega)), (List.forall_mem_cons.mpr ⟨xe_hd rfl, (List.forall_mem_cons.mpr ⟨xe_hd rfl, (List.forall_mem_cons.mpr ⟨xe_hd rfl, (List.forall_mem_cons.mpr ⟨xe_hd rfl, (List.forall_mem_cons.mpr ⟨xe_hs (a := x2.toInt) (b2 := (-1)) rfl (by decide) (by simp only [xe_ci]; first | (simp only [decide_eq_true_eq]; omega) | (simp only [decide_eq_false_iff_not]; omega) | (simp; omega)), (List.forall_mem_cons.mpr ⟨xe_hd rfl, (List.forall_mem_cons.mpr ⟨xe_hd rfl, (List.forall_mem_cons.mpr ⟨xe_hd rfl, (List.forall_mem_cons.mpr ⟨xe_hd rfl, (List.forall_mem_cons.mpr ⟨xe_hd rfl, (List.forall_mem_cons.mpr ⟨xe_hd rfl, (List.forall_mem_cons.mpr ⟨xe_hd rfl, (List.forall_mem_cons.mpr ⟨xe_hd rfl, (List.forall_mem_cons.mpr ⟨xe_hs (a := x2.toInt) (b2 := 0) rfl (by decide) (by simp only [xe_ci]; first | (simp only [decide_eq_true_eq]; omega) | (simp only [decide_eq_false_iff_not]; omega) | (simp; omega)), (fun _ h => absurd h List.not_mem_nil)⟩)⟩)⟩)⟩)⟩)⟩)⟩)⟩)⟩)⟩)⟩)⟩)⟩)⟩)⟩)⟩)⟩)⟩)⟩)⟩)⟩)⟩)
set_option maxRecDepth 100000 in
set_option maxHeartbeats 4000000 in
theorem i_square_5 (x2 : Int32) (h0 : 0 ≤ x2.toInt) : xe_P 736 [(1, 2), (2, x2)] := xe_pth (ds := [false, false, false, true, true, false, true, true, true, false, false, false, true, false, false, true, true, true, false, false, true, true]) (cs := [(.lt, 2, 0, false), (.ge, 2, 4, false), (.eq, 1, 0, false), (.ge, x2, (-1), true), (.ge, 1, 1, true), (.ne, 0, 0, false), (.ne, 1, 0, true), (.ne, x2, (-1), true), (.ge, 1, 1, true), (.lt, 2, 0, false), (.gt, 2, 3, false), (.eq, 1, 0, false), (.ge, x2, (-1), true), (.ge, 0, 1, false), (.ge, 0, 1, false), (.ge, 0, 0, true), (.ge, 1, 1, true), (.ge, 1, 1, true), (.ne, 0, 0, false), (.eq, 1, 0, false), (.ge, 1, 1, true), (.ge, x2, 0, true)]) rfl (List.forall_mem_cons.mpr ⟨xe_hd rfl, (List.forall_mem_cons.mpr ⟨xe_hd rfl, (List.forall_mem_cons.mpr ⟨xe_hd rfl, (List.forall_mem_cons.mpr ⟨xe_hs (a := x2.toInt) (b2 := (-1)) rfl (by decide) (by simp only [xe_ci]; first | (simp only [decide_eq_true_eq]; omega) | (simp only [decide_eq_false_iff_not]; omega) | (simp; omega)), (List.forall_mem_cons.mpr ⟨xe_hd rfl, (List.forall_mem_cons.mpr ⟨xe_hd rfl, (List.forall_mem_cons.mpr ⟨xe_hd rfl, (List.forall_mem_cons.mpr ⟨xe_hs (a := x2.toInt) (b2 := (-1)) rfl (by decide) (by simp only [xe_ci]; first | (simp only [decide_eq_true_eq]; omega) | (simp only [decide_eq_false_iff_not]; omega) | (simp; omega)), (List.forall_mem_cons.mpr ⟨xe_hd rfl, (List.forall_mem_cons.mpr ⟨xe_hd rfl, (List.forall_mem_cons.mpr ⟨xe_hd rfl, (List.forall_mem_cons.mpr ⟨xe_hd rfl, (List.forall_mem_cons.mpr ⟨xe_hs (a := x2.toInt) (b2 := (-1)) rfl (by decide) (by simp only [xe_ci]; first | (simp only [decide_eq_true_eq]; omega) | (simp only [decide_eq_false_iff_not]; omega) | (simp; omega)), (List.forall_mem_cons.mpr ⟨xe_hd rfl, (List.forall_mem_cons.mpr ⟨xe_hd rfl, (List.forall_mem_cons.mpr ⟨xe_hd rfl, (List.forall_mem_cons.mpr ⟨xe_hd rfl, (List.forall_mem_cons.mpr ⟨xe_hd rfl, (List.forall_mem_cons.mpr ⟨xe_hd rfl, (List.forall_mem_cons.mpr ⟨xe_hd rfl, (List.forall_mem_cons.mpr ⟨xe_hd rfl, (List.forall_mem_cons.mpr ⟨xe_hs (a := x2.toInt) (b2 := 0) rfl (by decide) (by simp only [xe_ci]; first | (simp only [decide_eq_true_eq]; omega) | (simp only [decide_eq_false_iff_not]; omega) | (simp; omega)), (fun _ h => absurd h List.not_mem_nil)⟩)⟩)⟩)⟩)⟩)⟩)⟩)⟩)⟩)⟩)⟩)⟩)⟩)⟩)⟩)⟩)⟩)⟩)⟩)⟩)⟩)⟩)
set_option maxRecDepth 100000 in
set_option maxHeartbeats 4000000 in
theorem i_square_6 (x2 : Int32) (h0 : 0 ≤ x2.toInt) : xe_P 736 [(1, 3), (2, x2)] := xe_pth (ds := [false, false, false, true, true, false, true, true, true, false, false, false, true, false, false, true, true, true, false, false, true, true]) (cs := [(.lt, 3, 0, false), (.ge, 3, 4, false), (.eq, 1, 0, false), (.ge, x2, (-1), true), (.ge, 1, 1, true), (.ne, 0, 0, false), (.ne, 1, 0, true), (.ne, x2, (-1), true), (.ge, 1, 1, true), (.lt, 3, 0, false), (.gt, 3, 3, false), (.eq, 1, 0, false), (.ge, x2, (-1), true), (.ge, 0, 1, false), (.ge, 0, 1, false), (.ge, 0, 0, true), (.ge, 1, 1, true), (.ge, 1, 1, true), (.ne, 0, 0, false), (.eq, 1, 0, false), (.ge, 1, 1, true), (.ge, x2, 0, true)]) rfl (List.forall_mem_cons.mpr ⟨xe_hd rfl, (List.forall_mem_cons.mpr ⟨xe_hd rfl, (List.forall_mem_cons.mpr ⟨xe_hd rfl, (List.forall_mem_cons.mpr ⟨xe_hs (a := x2.toInt) (b2 := (-1)) rfl (by decide) (by simp only [xe_ci]; first | (simp only [decide_eq_true_eq]; omega) | (simp only [decide_eq_false_iff_not]; omega) | (simp; omega)), (List.forall_mem_cons.mpr ⟨xe_hd rfl, (List.forall_mem_cons.mpr ⟨xe_hd rfl, (List.forall_mem_cons.mpr ⟨xe_hd rfl, (List.forall_mem_cons.mpr ⟨xe_hs (a := x2.toInt) (b2 := (-1)) rfl (by decide) (by simp only [xe_ci]; first | (simp only [decide_eq_true_eq]; omega) | (simp only [decide_eq_false_iff_not]; omega) | (simp; omega)), (List.forall_mem_cons.mpr ⟨xe_hd rfl, (List.forall_mem_cons.mpr ⟨xe_hd rfl, (List.forall_mem_cons.mpr ⟨xe_hd rfl, (List.forall_mem_cons.mpr ⟨xe_hd rfl, (List.forall_mem_cons.mpr ⟨xe_hs (a := x2.toInt) (b2 := (-1)) rfl (by decide) (by simp only [xe_ci]; first | (simp only [decide_eq_true_eq]; omega) | (simp only [decide_eq_false_iff_not]; omega) | (simp; omega)), (List.forall_mem_cons.mpr ⟨xe_hd rfl, (List.forall_mem_cons.mpr ⟨xe_hd rfl, (List.forall_mem_cons.mpr ⟨xe_hd rfl, (List.forall_mem_cons.mpr ⟨xe_hd rfl, (List.forall_mem_cons.mpr ⟨xe_hd rfl, (List.forall_mem_cons.mpr ⟨xe_hd rfl, (List.forall_mem_cons.mpr ⟨xe_hd rfl, (List.forall_mem_cons.mpr ⟨xe_hd rfl, (List.forall_mem_cons.mpr ⟨xe_hs (a := x2.toInt) (b2 := 0) rfl (by decide) (by simp only [xe_ci]; first | (simp only [decide_eq_true_eq]; omega) | (simp only [decide_eq_false_iff_not]; omega) | (simp; omega)), (fun _ h => absurd h List.not_mem_nil)⟩)⟩)⟩)⟩)⟩)⟩)⟩)⟩)⟩)⟩)⟩)⟩)⟩)⟩)⟩)⟩)⟩)⟩)⟩)⟩)⟩)⟩)
set_option maxRecDepth 100000 in
set_option maxHeartbeats 4000000 in
theorem i_turn_0 (x1 x2 : Int32) (h0 : x1.toInt < 0) : xe_P 769 [(1, x1), (2, x2)] := xe_pth (ds := [true, true, true]) (cs := [(.lt, x1, 0, true), (.eq, 0, 0, true), (.lt, x1, 0, true)]) rfl (List.forall_mem_cons.mpr ⟨xe_hs (a := x1.toInt) (b2 := 0) rfl (by decide) (by simp only [xe_ci]; first | (simp only [decide_eq_true_eq]; omega) | (simp only [decide_eq_false_iff_not]; omega) | (simp; omega)), (List.forall_mem_cons.mpr ⟨xe_hd rfl, (List.forall_mem_cons.mpr ⟨xe_hs (a := x1.toInt) (b2 := 0) rfl (by decide) (by simp only [xe_ci]; first | (simp only [decide_eq_true_eq]; omega) | (simp only [decide_eq_false_iff_not]; omega) | (simp; omega)), (fun _ h => absurd h List.not_mem_nil)⟩)⟩)⟩)
set_option maxRecDepth 100000 in
set_option maxHeartbeats 4000000 in
theorem i_turn_1 (x1 x2 : Int32) (h0 : 4 ≤ x1.toInt) : xe_P 769 [(1, x1), (2, x2)] := xe_pth (ds := [false, true, true, false, true]) (cs := [(.lt, x1, 0, false), (.ge, x1, 4, true), (.eq, 0, 0, true), (.lt, x1, 0, false), (.gt, x1, 3, true)]) rfl (List.forall_mem_cons.mpr ⟨xe_hs (a := x1.toInt) (b2 := 0) rfl (by decide) (by simp only [xe_ci]; first | (simp only [decide_eq_true_eq]; omega) | (simp only [decide_eq_false_iff_not]; omega) | (simp; omega)), (List.forall_mem_cons.mpr ⟨xe_hs (a := x1.toInt) (b2 := 4) rfl (by decide) (by simp only [xe_ci]; first | (simp only [decide_eq_true_eq]; omega) | (simp only [decide_eq_false_iff_not]; omega) | (simp; omega)), (List.forall_mem_cons.mpr ⟨xe_hd rfl, (List.forall_mem_cons.mpr ⟨xe_hs (a := x1.toInt) (b2 := 0) rfl (by decide) (by simp only [xe_ci]; first | (simp only [decide_eq_true_eq]; omega) | (simp only [decide_eq_false_iff_not]; omega) | (simp; omega)), (List.forall_mem_cons.mpr ⟨xe_hs (a := x1.toInt) (b2 := 3) rfl (by decide) (by simp only [xe_ci]; first | (simp only [decide_eq_true_eq]; omega) | (simp only [decide_eq_false_iff_not]; omega) | (simp; omega)), (fun _ h => absurd h List.not_mem_nil)⟩)⟩)⟩)⟩)⟩)
set_option maxRecDepth 100000 in
set_option maxHeartbeats 4000000 in
theorem i_turn_2 (x1 x2 : Int32) (h0 : 0 ≤ x1.toInt) (h1 : x1.toInt < 4) (h2 : x2.toInt < 0) : xe_P 769 [(1, x1), (2, x2)] := xe_pth (ds := [false, false, false, false, false, false, false, false]) (cs := [(.lt, x1, 0, false), (.ge, x1, 4, false), (.eq, 1, 0, false), (.ge, x2, 0, false), (.lt, x1, 0, false), (.gt, x1, 3, false), (.eq, 1, 0, false), (.ge, x2, 0, false)]) rfl (List.forall_mem_cons.mpr ⟨xe_hs (a := x1.toInt) (b2 := 0) rfl (by decide) (by simp only [xe_ci]; first | (simp only [decide_eq_true_eq]; omega) | (simp only [decide_eq_false_iff_not]; omega) | (simp; omega)), (List.forall_mem_cons.mpr ⟨xe_hs (a := x1.toInt) (b2 := 4) rfl (by decide) (by simp only [xe_ci]; first | (simp only [decide_eq_true_eq]; omega) | (simp only [decide_eq_false_iff_not]; omega) | (simp; omega)), (List.forall_mem_cons.mpr ⟨xe_hd rfl, (List.forall_mem_cons.mpr ⟨xe_hs (a := x2.toInt) (b2 := 0) rfl (by decide) (by simp only [xe_ci]; first | (simp only [decide_eq_true_eq]; omega) | (simp only [decide_eq_false_iff_not]; omega) | (simp; omega)), (List.forall_mem_cons.mpr ⟨xe_hs (a := x1.toInt) (b2 := 0) rfl (by decide) (by simp only [xe_ci]; first | (simp only [decide_eq_true_eq]; omega) | (simp only [decide_eq_false_iff_not]; omega) | (simp; omega)), (List.forall_mem_cons.mpr ⟨xe_hs (a := x1.toInt) (b2 := 3) rfl (by decide) (by simp only [xe_ci]; first | (simp only [decide_eq_true_eq]; omega) | (simp only [decide_eq_false_iff_not]; omega) | (simp; omega)), (List.forall_mem_cons.mpr ⟨xe_hd rfl, (List.forall_mem_cons.mpr ⟨xe_hs (a := x2.toInt) (b2 := 0) rfl (by decide) (by simp only [xe_ci]; first | (simp only [decide_eq_true_eq]; omega) | (simp only [decide_eq_false_iff_not]; omega) | (simp; omega)), (fun _ h => absurd h List.not_mem_nil)⟩)⟩)⟩)⟩)⟩)⟩)⟩)⟩)
set_option maxRecDepth 100000 in
set_option maxHeartbeats 4000000 in
theorem i_turn_3 (x2 : Int32) (h0 : 0 ≤ x2.toInt) : xe_P 769 [(1, 0), (2, x2)] := xe_pth (ds := [false, false, false, true, true, false, true, true, false, false, false, false, true, false, false, true, true, true, false, true, true, true]) (cs := [(.lt, 0, 0, false), (.ge, 0, 4, false), (.eq, 1, 0, false), (.ge, x2, 0, true), (.ge, 1, 1, true), (.ne, 0, 0, false), (.ne, 1, 0, true), (.ge, 1, 1, true), (.ne, (-4), (-4), false), (.lt, 0, 0, false), (.gt, 0, 3, false), (.eq, 1, 0, false), (.ge, x2, 0, true), (.ge, 0, 1, false), (.ge, 0, 1, false), (.ge, 0, 0, true), (.ge, 1, 1, true), (.ge, 1, 1, true), (.ne, 0, 0, false), (.ne, 1, 0, true), (.ge, 1, 1, true), (.ge, x2, 0, true)]) rfl (List.forall_mem_cons.mpr ⟨xe_hd rfl, (List.forall_mem_cons.mpr ⟨xe_hd rfl, (List.forall_mem_cons.mpr ⟨xe_hd rfl, (List.forall_mem_cons.mpr ⟨xe_hs (a := x2.toInt) (b2 := 0) rfl (by decide) (by simp only [xe_ci]; first | (simp only [decide_eq_true_eq]; omega) | (simp only [decide_eq_false_iff_not]; omega) | (simp; omega)), (List.forall_mem_cons.mpr ⟨xe_hd rfl, (List.forall_mem_cons.mpr ⟨xe_hd rfl, (List.forall_mem_cons.mpr ⟨xe_hd rfl, (List.forall_mem_cons.mpr ⟨xe_hd rfl, (List.forall_mem_cons.mpr ⟨xe_hd rfl, (List.forall_mem_cons.mpr ⟨xe_hd rfl, (List.forall_mem_cons.mpr ⟨xe_hd rfl, (List.forall_mem_cons.mpr ⟨xe_hd rfl, (List.forall_mem_cons.mpr ⟨xe_hs (a := x2.toInt) (b2 := 0) rfl (by decide) (by simp only [xe_ci]; first | (simp only [decide_eq_true_eq]; omega) | (simp only [decide_eq_false_iff_not]; omega) | (simp; omega)), (List.forall_mem_cons.mpr ⟨xe_hd rfl, (List.forall_mem_cons.mpr ⟨xe_hd rfl, (List.forall_mem_cons.mpr ⟨xe_hd rfl, (List.forall_mem_cons.mpr ⟨xe_hd rfl, (List.forall_mem_cons.mpr ⟨xe_hd rfl, (List.forall_mem_cons.mpr ⟨xe_hd rfl, (List.forall_mem_cons.mpr ⟨xe_hd rfl, (List.forall_mem_cons.mpr ⟨xe_hd rfl, (List.forall_mem_cons.mpr ⟨xe_hs (a := x2.toInt) (b2 := 0) rfl (by decide) (by simp only [xe_ci]; first | (simp only [decide_eq_true_eq]; omega) | (simp only [decide_eq_false_iff_not]; omega) | (simp; omega)), (fun _ h => absurd h List.not_mem_nil)⟩)⟩)⟩)⟩)⟩)⟩)⟩)⟩)⟩)⟩)⟩)⟩)⟩)⟩)⟩)⟩)⟩)⟩)⟩)⟩)⟩)⟩)
set_option maxRecDepth 100000 in
set_option maxHeartbeats 4000000 in
theorem i_turn_4 (x2 : Int32) (h0 : 0 ≤ x2.toInt) : xe_P 769 [(1, 1), (2, x2)] := xe_pth (ds := [false, false, false, true, true, false, true, true, false, false, false, false, true, false, false, true, true, true, false, true, true, true]) (cs := [(.lt, 1, 0, false), (.ge, 1, 4, false), (.eq, 1, 0, false), (.ge, x2, 0, true), (.ge, 1, 1, true), (.ne, 0, 0, false), (.ne, 1, 0, true), (.ge, 1, 1, true), (.ne, (-4), (-4), false), (.lt, 1, 0, false), (.gt, 1, 3, false), (.eq, 1, 0, false), (.ge, x2, 0, true), (.ge, 0, 1, false), (.ge, 0, 1, false), (.ge, 0, 0, true), (.ge, 1, 1, true), (.ge, 1, 1, true), (.ne, 0, 0, false), (.ne, 1, 0, true), (.ge, 1, 1, true), (.ge, x2, 0, true)]) rfl (List.forall_mem_cons.mpr ⟨xe_hd rfl, (List.forall_mem_cons.mpr ⟨xe_hd rfl, (List.forall_mem_cons.mpr ⟨xe_hd rfl, (List.forall_mem_cons.mpr ⟨xe_hs (a := x2.toInt) (b2 := 0) rfl (by decide) (by simp only [xe_ci]; first | (simp only [decide_eq_true_eq]; omega) | (simp only [decide_eq_false_iff_not]; omega) | (simp; omega)), (List.forall_mem_cons.mpr ⟨xe_hd rfl, (List.forall_mem_cons.mpr ⟨xe_hd rfl, (List.forall_mem_cons.mpr ⟨xe_hd rfl, (List.forall_mem_cons.mpr ⟨xe_hd rfl, (List.forall_mem_cons.mpr ⟨xe_hd rfl, (List.forall_mem_cons.mpr ⟨xe_hd rfl, (List.forall_mem_cons.mpr ⟨xe_hd rfl, (List.forall_mem_cons.mpr ⟨xe_hd rfl, (List.forall_mem_cons.mpr ⟨xe_hs (a := x2.toInt) (b2 := 0) rfl (by decide) (by simp only [xe_ci]; first | (simp only [decide_eq_true_eq]; omega) | (simp only [decide_eq_false_iff_not]; omega) | (simp; omega)), (List.forall_mem_cons.mpr ⟨xe_hd rfl, (List.forall_mem_cons.mpr ⟨xe_hd rfl, (List.forall_mem_cons.mpr ⟨xe_hd rfl, (List.forall_mem_cons.mpr ⟨xe_hd rfl, (List.forall_mem_cons.mpr ⟨xe_hd rfl, (List.forall_mem_cons.mpr ⟨xe_hd rfl, (List.forall_mem_cons.mpr ⟨xe_hd rfl, (List.forall_mem_cons.mpr ⟨xe_hd rfl, (List.forall_mem_cons.mpr ⟨xe_hs (a := x2.toInt) (b2 := 0) rfl (by decide) (by simp only [xe_ci]; first | (simp only [decide_eq_true_eq]; omega) | (simp only [decide_eq_false_iff_not]; omega) | (simp; omega)), (fun _ h => absurd h List.not_mem_nil)⟩)⟩)⟩)⟩)⟩)⟩)⟩)⟩)⟩)⟩)⟩)⟩)⟩)⟩)⟩)⟩)⟩)⟩)⟩)⟩)⟩)⟩)
set_option maxRecDepth 100000 in
set_option maxHeartbeats 4000000 in
theorem i_turn_5 (x2 : Int32) (h0 : 0 ≤ x2.toInt) : xe_P 769 [(1, 2), (2, x2)] := xe_pth (ds := [false, false, false, true, true, false, true, true, false, false, false, false, true, false, false, true, true, true, false, true, true, true]) (cs := [(.lt, 2, 0, false), (.ge, 2, 4, false), (.eq, 1, 0, false), (.ge, x2, 0, true), (.ge, 1, 1, true), (.ne, 0, 0, false), (.ne, 1, 0, true), (.ge, 1, 1, true), (.ne, (-4), (-4), false), (.lt, 2, 0, false), (.gt, 2, 3, false), (.eq, 1, 0, false), (.ge, x2, 0, true), (.ge, 0, 1, false), (.ge, 0, 1, false), (.ge, 0, 0, true), (.ge, 1, 1, true), (.ge, 1, 1, true), (.ne, 0, 0, false), (.ne, 1, 0, true), (.ge, 1, 1, true), (.ge, x2, 0, true)]) rfl (List.forall_mem_cons.mpr ⟨xe_hd rfl, (List.forall_mem_cons.mpr ⟨xe_hd rfl, (List.forall_mem_cons.mpr ⟨xe_hd rfl, (List.forall_mem_cons.mpr ⟨xe_hs (a := x2.toInt) (b2 := 0) rfl (by decide) (by simp only [xe_ci]; first | (simp only [decide_eq_true_eq]; omega) | (simp only [decide_eq_false_iff_not]; omega) | (simp; omega)), (List.forall_mem_cons.mpr ⟨xe_hd rfl, (List.forall_mem_cons.mpr ⟨xe_hd rfl, (List.forall_mem_cons.mpr ⟨xe_hd rfl, (List.forall_mem_cons.mpr ⟨xe_hd rfl, (List.forall_mem_cons.mpr ⟨xe_hd rfl, (List.forall_mem_cons.mpr ⟨xe_hd rfl, (List.forall_mem_cons.mpr ⟨xe_hd rfl, (List.forall_mem_cons.mpr ⟨xe_hd rfl, (List.forall_mem_cons.mpr ⟨xe_hs (a := x2.toInt) (b2 := 0) rfl (by decide) (by simp only [xe_ci]; first | (simp only [decide_eq_true_eq]; omega) | (simp only [decide_eq_false_iff_not]; omega) | (simp; omega)), (List.forall_mem_cons.mpr ⟨xe_hd rfl, (List.forall_mem_cons.mpr ⟨xe_hd rfl, (List.forall_mem_cons.mpr ⟨xe_hd rfl, (List.forall_mem_cons.mpr ⟨xe_hd rfl, (List.forall_mem_cons.mpr ⟨xe_hd rfl, (List.forall_mem_cons.mpr ⟨xe_hd rfl, (List.forall_mem_cons.mpr ⟨xe_hd rfl, (List.forall_mem_cons.mpr ⟨xe_hd rfl, (List.forall_mem_cons.mpr ⟨xe_hs (a := x2.toInt) (b2 := 0) rfl (by decide) (by simp only [xe_ci]; first | (simp only [decide_eq_true_eq]; omega) | (simp only [decide_eq_false_iff_not]; omega) | (simp; omega)), (fun _ h => absurd h List.not_mem_nil)⟩)⟩)⟩)⟩)⟩)⟩)⟩)⟩)⟩)⟩)⟩)⟩)⟩)⟩)⟩)⟩)⟩)⟩)⟩)⟩)⟩)⟩)
set_option maxRecDepth 100000 in
set_option maxHeartbeats 4000000 in
theorem i_turn_6 (x2 : Int32) (h0 : 0 ≤ x2.toInt) : xe_P 769 [(1, 3), (2, x2)] := xe_pth (ds := [false, false, false, true, true, false, true, true, false, false, false, false, true, false, false, true, true, true, false, true, true, true]) (cs := [(.lt, 3, 0, false), (.ge, 3, 4, false), (.eq, 1, 0, false), (.ge, x2, 0, true), (.ge, 1, 1, true), (.ne, 0, 0, false), (.ne, 1, 0, true), (.ge, 1, 1, true), (.ne, (-4), (-4), false), (.lt, 3, 0, false), (.gt, 3, 3, false), (.eq, 1, 0, false), (.ge, x2, 0, true), (.ge, 0, 1, false), (.ge, 0, 1, false), (.ge, 0, 0, true), (.ge, 1, 1, true), (.ge, 1, 1, true), (.ne, 0, 0, false), (.ne, 1, 0, true), (.ge, 1, 1, true), (.ge, x2, 0, true)]) rfl (List.forall_mem_cons.mpr ⟨xe_hd rfl, (List.forall_mem_cons.mpr ⟨xe_hd rfl, (List.forall_mem_cons.mpr ⟨xe_hd rfl, (List.forall_mem_cons.mpr ⟨xe_hs (a := x2.toInt) (b2 := 0) rfl (by decide) (by simp only [xe_ci]; first | (simp only [decide_eq_true_eq]; omega) | (simp only [decide_eq_false_iff_not]; omega) | (simp; omega)), (List.forall_mem_cons.mpr ⟨xe_hd rfl, (List.forall_mem_cons.mpr ⟨xe_hd rfl, (List.forall_mem_cons.mpr ⟨xe_hd rfl, (List.forall_mem_cons.mpr ⟨xe_hd rfl, (List.forall_mem_cons.mpr ⟨xe_hd rfl, (List.forall_mem_cons.mpr ⟨xe_hd rfl, (List.forall_mem_cons.mpr ⟨xe_hd rfl, (List.forall_mem_cons.mpr ⟨xe_hd rfl, (List.forall_mem_cons.mpr ⟨xe_hs (a := x2.toInt) (b2 := 0) rfl (by decide) (by simp only [xe_ci]; first | (simp only [decide_eq_true_eq]; omega) | (simp only [decide_eq_false_iff_not]; omega) | (simp; omega)), (List.forall_mem_cons.mpr ⟨xe_hd rfl, (List.forall_mem_cons.mpr ⟨xe_hd rfl, (List.forall_mem_cons.mpr ⟨xe_hd rfl, (List.forall_mem_cons.mpr ⟨xe_hd rfl, (List.forall_mem_cons.mpr ⟨xe_hd rfl, (List.forall_mem_cons.mpr ⟨xe_hd rfl, (List.forall_mem_cons.mpr ⟨xe_hd rfl, (List.forall_mem_cons.mpr ⟨xe_hd rfl, (List.forall_mem_cons.mpr ⟨xe_hs (a := x2.toInt) (b2 := 0) rfl (by decide) (by simp only [xe_ci]; first | (simp only [decide_eq_true_eq]; omega) | (simp only [decide_eq_false_iff_not]; omega) | (simp; omega)), (fun _ h => absurd h List.not_mem_nil)⟩)⟩)⟩)⟩)⟩)⟩)⟩)⟩)⟩)⟩)⟩)⟩)⟩)⟩)⟩)⟩)⟩)⟩)⟩)⟩)⟩)⟩)
set_option maxRecDepth 100000 in
set_option maxHeartbeats 4000000 in
theorem i_doubled_0 (x1 x2 x3 : Int32) (h0 : x1.toInt < 0) : xe_P 802 [(1, x1), (2, x2), (3, x3)] := xe_pth (ds := [true, true, true]) (cs := [(.lt, x1, 0, true), (.eq, 0, 0, true), (.lt, x1, 0, true)]) rfl (List.forall_mem_cons.mpr ⟨xe_hs (a := x1.toInt) (b2 := 0) rfl (by decide) (by simp only [xe_ci]; first | (simp only [decide_eq_true_eq]; omega) | (simp only [decide_eq_false_iff_not]; omega) | (simp; omega)), (List.forall_mem_cons.mpr ⟨xe_hd rfl, (List.forall_mem_cons.mpr ⟨xe_hs (a := x1.toInt) (b2 := 0) rfl (by decide) (by simp only [xe_ci]; first | (simp only [decide_eq_true_eq]; omega) | (simp only [decide_eq_false_iff_not]; omega) | (simp; omega)), (fun _ h => absurd h List.not_mem_nil)⟩)⟩)⟩)
set_option maxRecDepth 100000 in
set_option maxHeartbeats 4000000 in
theorem i_doubled_1 (x1 x2 x3 : Int32) (h0 : 4 ≤ x1.toInt) : xe_P 802 [(1, x1), (2, x2), (3, x3)] := xe_pth (ds := [false, true, true, false, true]) (cs := [(.lt, x1, 0, false), (.ge, x1, 4, true), (.eq, 0, 0, true), (.lt, x1, 0, false), (.gt, x1, 3, true)]) rfl (List.forall_mem_cons.mpr ⟨xe_hs (a := x1.toInt) (b2 := 0) rfl (by decide) (by simp only [xe_ci]; first | (simp only [decide_eq_true_eq]; omega) | (simp only [decide_eq_false_iff_not]; omega) | (simp; omega)), (List.forall_mem_cons.mpr ⟨xe_hs (a := x1.toInt) (b2 := 4) rfl (by decide) (by simp only [xe_ci]; first | (simp only [decide_eq_true_eq]; omega) | (simp only [decide_eq_false_iff_not]; omega) | (simp; omega)), (List.forall_mem_cons.mpr ⟨xe_hd rfl, (List.forall_mem_cons.mpr ⟨xe_hs (a := x1.toInt) (b2 := 0) rfl (by decide) (by simp only [xe_ci]; first | (simp only [decide_eq_true_eq]; omega) | (simp only [decide_eq_false_iff_not]; omega) | (simp; omega)), (List.forall_mem_cons.mpr ⟨xe_hs (a := x1.toInt) (b2 := 3) rfl (by decide) (by simp only [xe_ci]; first | (simp only [decide_eq_true_eq]; omega) | (simp only [decide_eq_false_iff_not]; omega) | (simp; omega)), (fun _ h => absurd h List.not_mem_nil)⟩)⟩)⟩)⟩)⟩)
set_option maxRecDepth 100000 in
set_option maxHeartbeats 4000000 in
theorem i_doubled_2 (x1 x2 x3 : Int32) (h0 : 0 ≤ x1.toInt) (h1 : x1.toInt < 4) (h2 : x2.toInt < 0) : xe_P 802 [(1, x1), (2, x2), (3, x3)] := xe_pth (ds := [false, false, false, true, false, false, false, false, true]) (cs := [(.lt, x1, 0, false), (.ge, x1, 4, false), (.eq, 1, 0, false), (.lt, x2, 0, true), (.ne, 0, 0, false), (.lt, x1, 0, false), (.gt, x1, 3, false), (.eq, 1, 0, false), (.lt, x2, 0, true)]) rfl (List.forall_mem_cons.mpr ⟨xe_hs (a := x1.toInt) (b2 := 0) rfl (by decide) (by simp only [xe_ci]; first | (simp only [decide_eq_true_eq]; omega) | (simp only [decide_eq_false_iff_not]; omega) | (simp; omega)), (List.forall_mem_cons.mpr ⟨xe_hs (a := x1.toInt) (b2 := 4) rfl (by decide) (by simp only [xe_ci]; first | (simp only [decide_eq_true_eq]; omega) | (simp only [decide_eq_false_iff_not]; omega) | (simp; omega)), (List.forall_mem_cons.mpr ⟨xe_hd rfl, (List.forall_mem_cons.mpr ⟨xe_hs (a := x2.toInt) (b2 := 0) rfl (by decide) (by simp only [xe_ci]; first | (simp only [decide_eq_true_eq]; omega) | (simp only [decide_eq_false_iff_not]; omega) | (simp; omega)), (List.forall_mem_cons.mpr ⟨xe_hd rfl, (List.forall_mem_cons.mpr ⟨xe_hs (a := x1.toInt) (b2 := 0) rfl (by decide) (by simp only [xe_ci]; first | (simp only [decide_eq_true_eq]; omega) | (simp only [decide_eq_false_iff_not]; omega) | (simp; omega)), (List.forall_mem_cons.mpr ⟨xe_hs (a := x1.toInt) (b2 := 3) rfl (by decide) (by simp only [xe_ci]; first | (simp only [decide_eq_true_eq]; omega) | (simp only [decide_eq_false_iff_not]; omega) | (simp; omega)), (List.forall_mem_cons.mpr ⟨xe_hd rfl, (List.forall_mem_cons.mpr ⟨xe_hs (a := x2.toInt) (b2 := 0) rfl (by decide) (by simp only [xe_ci]; first | (simp only [decide_eq_true_eq]; omega) | (simp only [decide_eq_false_iff_not]; omega) | (simp; omega)), (fun _ h => absurd h List.not_mem_nil)⟩)⟩)⟩)⟩)⟩)⟩)⟩)⟩)⟩)
set_option maxRecDepth 100000 in
set_option maxHeartbeats 4000000 in
theorem i_doubled_3 (x1 x2 x3 : Int32) (h0 : 0 ≤ x1.toInt) (h1 : x1.toInt < 4) (h2 : 4 ≤ x2.toInt) : xe_P 802 [(1, x1), (2, x2), (3, x3)] := xe_pth (ds := [false, false, false, false, true, false, false, false, false, false, true]) (cs := [(.lt, x1, 0, false), (.ge, x1, 4, false), (.eq, 1, 0, false), (.lt, x2, 0, false), (.ge, x2, 4, true), (.ne, 0, 0, false), (.lt, x1, 0, false), (.gt, x1, 3, false), (.eq, 1, 0, false), (.lt, x2, 0, false), (.gt, x2, 3, true)]) rfl (List.forall_mem_cons.mpr ⟨xe_hs (a := x1.toInt) (b2 := 0) rfl (by decide) (by simp only [xe_ci]; first | (simp only [decide_eq_true_eq]; omega) | (simp only [decide_eq_false_iff_not]; omega) | (simp; omega)), (List.forall_mem_cons.mpr ⟨xe_hs (a := x1.toInt) (b2 := 4) rfl (by decide) (by simp only [xe_ci]; first | (simp only [decide_eq_true_eq]; omega) | (simp only [decide_eq_false_iff_not]; omega) | (simp; omega)), (List.forall_mem_cons.mpr ⟨xe_hd rfl, (List.forall_mem_cons.mpr ⟨xe_hs (a := x2.toInt) (b2 := 0) rfl (by decide) (by simp only [xe_ci]; first | (simp only [decide_eq_true_eq]; omega) | (simp only [decide_eq_false_iff_not]; omega) | (simp; omega)), (List.forall_mem_cons.mpr ⟨xe_hs (a := x2.toInt) (b2 := 4) rfl (by decide) (by simp only [xe_ci]; first | (simp only [decide_eq_true_eq]; omega) | (simp only [decide_eq_false_iff_not]; omega) | (simp; omega)), (List.forall_mem_cons.mpr ⟨xe_hd rfl, (List.forall_mem_cons.mpr ⟨xe_hs (a := x1.toInt) (b2 := 0) rfl (by decide) (by simp only [xe_ci]; first | (simp only [decide_eq_true_eq]; omega) | (simp only [decide_eq_false_iff_not]; omega) | (simp; omega)), (List.forall_mem_cons.mpr ⟨xe_hs (a := x1.toInt) (b2 := 3) rfl (by decide) (by simp only [xe_ci]; first | (simp only [decide_eq_true_eq]; omega) | (simp only [decide_eq_false_iff_not]; omega) | (simp; omega)), (List.forall_mem_cons.mpr ⟨xe_hd rfl, (List.forall_mem_cons.mpr ⟨xe_hs (a := x2.toInt) (b2 := 0) rfl (by decide) (by simp only [xe_ci]; first | (simp only [decide_eq_true_eq]; omega) | (simp only [decide_eq_false_iff_not]; omega) | (simp; omega)), (List.forall_mem_cons.mpr ⟨xe_hs (a := x2.toInt) (b2 := 3) rfl (by decide) (by simp only [xe_ci]; first | (simp only [decide_eq_true_eq]; omega) | (simp only [decide_eq_false_iff_not]; omega) | (simp; omega)), (fun _ h => absurd h List.not_mem_nil)⟩)⟩)⟩)⟩)⟩)⟩)⟩)⟩)⟩)⟩)⟩)
set_option maxRecDepth 100000 in
set_option maxHeartbeats 4000000 in
theorem i_product_0 (x1 x2 x3 : Int32) (h0 : x1.toInt < 0) : xe_P 845 [(1, x1), (2, x2), (3, x3)] := xe_pth (ds := [true, true, true]) (cs := [(.lt, x1, 0, true), (.eq, 0, 0, true), (.lt, x1, 0, true)]) rfl (List.forall_mem_cons.mpr ⟨xe_hs (a := x1.toInt) (b2 := 0) rfl (by decide) (by simp only [xe_ci]; first | (simp only [decide_eq_true_eq]; omega) | (simp only [decide_eq_false_iff_not]; omega) | (simp; omega)), (List.forall_mem_cons.mpr ⟨xe_hd rfl, (List.forall_mem_cons.mpr ⟨xe_hs (a := x1.toInt) (b2 := 0) rfl (by decide) (by simp only [xe_ci]; first | (simp only [decide_eq_true_eq]; omega) | (simp only [decide_eq_false_iff_not]; omega) | (simp; omega)), (fun _ h => absurd h List.not_mem_nil)⟩)⟩)⟩)
set_option maxRecDepth 100000 in
set_option maxHeartbeats 4000000 in
theorem i_product_1 (x1 x2 x3 : Int32) (h0 : 4 ≤ x1.toInt) : xe_P 845 [(1, x1), (2, x2), (3, x3)] := xe_pth (ds := [false, true, true, false, true]) (cs := [(.lt, x1, 0, false), (.ge, x1, 4, true), (.eq, 0, 0, true), (.lt, x1, 0, false), (.gt, x1, 3, true)]) rfl (List.forall_mem_cons.mpr ⟨xe_hs (a := x1.toInt) (b2 := 0) rfl (by decide) (by simp only [xe_ci]; first | (simp only [decide_eq_true_eq]; omega) | (simp only [decide_eq_false_iff_not]; omega) | (simp; omega)), (List.forall_mem_cons.mpr ⟨xe_hs (a := x1.toInt) (b2 := 4) rfl (by decide) (by simp only [xe_ci]; first | (simp only [decide_eq_true_eq]; omega) | (simp only [decide_eq_false_iff_not]; omega) | (simp; omega)), (List.forall_mem_cons.mpr ⟨xe_hd rfl, (List.forall_mem_cons.mpr ⟨xe_hs (a := x1.toInt) (b2 := 0) rfl (by decide) (by simp only [xe_ci]; first | (simp only [decide_eq_true_eq]; omega) | (simp only [decide_eq_false_iff_not]; omega) | (simp; omega)), (List.forall_mem_cons.mpr ⟨xe_hs (a := x1.toInt) (b2 := 3) rfl (by decide) (by simp only [xe_ci]; first | (simp only [decide_eq_true_eq]; omega) | (simp only [decide_eq_false_iff_not]; omega) | (simp; omega)), (fun _ h => absurd h List.not_mem_nil)⟩)⟩)⟩)⟩)⟩)
set_option maxRecDepth 100000 in
set_option maxHeartbeats 4000000 in
theorem i_product_2 (x1 x2 x3 : Int32) (h0 : 0 ≤ x1.toInt) (h1 : x1.toInt < 4) (h2 : x2.toInt < 0) : xe_P 845 [(1, x1), (2, x2), (3, x3)] := xe_pth (ds := [false, false, false, true, true, false, false, false, true]) (cs := [(.lt, x1, 0, false), (.ge, x1, 4, false), (.eq, 1, 0, false), (.lt, x2, 0, true), (.eq, 0, 0, true), (.lt, x1, 0, false), (.gt, x1, 3, false), (.eq, 1, 0, false), (.lt, x2, 0, true)]) rfl (List.forall_mem_cons.mpr ⟨xe_hs (a := x1.toInt) (b2 := 0) rfl (by decide) (by simp only [xe_ci]; first | (simp only [decide_eq_true_eq]; omega) | (simp only [decide_eq_false_iff_not]; omega) | (simp; omega)), (List.forall_mem_cons.mpr ⟨xe_hs (a := x1.toInt) (b2 := 4) rfl (by decide) (by simp only [xe_ci]; first | (simp only [decide_eq_true_eq]; omega) | (simp only [decide_eq_false_iff_not]; omega) | (simp; omega)), (List.forall_mem_cons.mpr ⟨xe_hd rfl, (List.forall_mem_cons.mpr ⟨xe_hs (a := x2.toInt) (b2 := 0) rfl (by decide) (by simp only [xe_ci]; first | (simp only [decide_eq_true_eq]; omega) | (simp only [decide_eq_false_iff_not]; omega) | (simp; omega)), (List.forall_mem_cons.mpr ⟨xe_hd rfl, (List.forall_mem_cons.mpr ⟨xe_hs (a := x1.toInt) (b2 := 0) rfl (by decide) (by simp only [xe_ci]; first | (simp only [decide_eq_true_eq]; omega) | (simp only [decide_eq_false_iff_not]; omega) | (simp; omega)), (List.forall_mem_cons.mpr ⟨xe_hs (a := x1.toInt) (b2 := 3) rfl (by decide) (by simp only [xe_ci]; first | (simp only [decide_eq_true_eq]; omega) | (simp only [decide_eq_false_iff_not]; omega) | (simp; omega)), (List.forall_mem_cons.mpr ⟨xe_hd rfl, (List.forall_mem_cons.mpr ⟨xe_hs (a := x2.toInt) (b2 := 0) rfl (by decide) (by simp only [xe_ci]; first | (simp only [decide_eq_true_eq]; omega) | (simp only [decide_eq_false_iff_not]; omega) | (simp; omega)), (fun _ h => absurd h List.not_mem_nil)⟩)⟩)⟩)⟩)⟩)⟩)⟩)⟩)⟩)
set_option maxRecDepth 100000 in
set_option maxHeartbeats 4000000 in
theorem i_product_3 (x1 x2 x3 : Int32) (h0 : 0 ≤ x1.toInt) (h1 : x1.toInt < 4) (h2 : 4 ≤ x2.toInt) : xe_P 845 [(1, x1), (2, x2), (3, x3)] := xe_pth (ds := [false, false, false, false, true, true, false, false, false, false, true]) (cs := [(.lt, x1, 0, false), (.ge, x1, 4, false), (.eq, 1, 0, false), (.lt, x2, 0, false), (.ge, x2, 4, true), (.eq, 0, 0, true), (.lt, x1, 0, false), (.gt, x1, 3, false), (.eq, 1, 0, false), (.lt, x2, 0, false), (.gt, x2, 3, true)]) rfl (List.forall_mem_cons.mpr ⟨xe_hs (a := x1.toInt) (b2 := 0) rfl (by decide) (by simp only [xe_ci]; first | (simp only [decide_eq_true_eq]; omega) | (simp only [decide_eq_false_iff_not]; omega) | (simp; omega)), (List.forall_mem_cons.mpr ⟨xe_hs (a := x1.toInt) (b2 := 4) rfl (by decide) (by simp only [xe_ci]; first | (simp only [decide_eq_true_eq]; omega) | (simp only [decide_eq_false_iff_not]; omega) | (simp; omega)), (List.forall_mem_cons.mpr ⟨xe_hd rfl, (List.forall_mem_cons.mpr ⟨xe_hs (a := x2.toInt) (b2 := 0) rfl (by decide) (by simp only [xe_ci]; first | (simp only [decide_eq_true_eq]; omega) | (simp only [decide_eq_false_iff_not]; omega) | (simp; omega)), (List.forall_mem_cons.mpr ⟨xe_hs (a := x2.toInt) (b2 := 4) rfl (by decide) (by simp only [xe_ci]; first | (simp only [decide_eq_true_eq]; omega) | (simp only [decide_eq_false_iff_not]; omega) | (simp; omega)), (List.forall_mem_cons.mpr ⟨xe_hd rfl, (List.forall_mem_cons.mpr ⟨xe_hs (a := x1.toInt) (b2 := 0) rfl (by decide) (by simp only [xe_ci]; first | (simp only [decide_eq_true_eq]; omega) | (simp only [decide_eq_false_iff_not]; omega) | (simp; omega)), (List.forall_mem_cons.mpr ⟨xe_hs (a := x1.toInt) (b2 := 3) rfl (by decide) (by simp only [xe_ci]; first | (simp only [decide_eq_true_eq]; omega) | (simp only [decide_eq_false_iff_not]; omega) | (simp; omega)), (List.forall_mem_cons.mpr ⟨xe_hd rfl, (List.forall_mem_cons.mpr ⟨xe_hs (a := x2.toInt) (b2 := 0) rfl (by decide) (by simp only [xe_ci]; first | (simp only [decide_eq_true_eq]; omega) | (simp only [decide_eq_false_iff_not]; omega) | (simp; omega)), (List.forall_mem_cons.mpr ⟨xe_hs (a := x2.toInt) (b2 := 3) rfl (by decide) (by simp only [xe_ci]; first | (simp only [decide_eq_true_eq]; omega) | (simp only [decide_eq_false_iff_not]; omega) | (simp; omega)), (fun _ h => absurd h List.not_mem_nil)⟩)⟩)⟩)⟩)⟩)⟩)⟩)⟩)⟩)⟩)⟩)
set_option maxRecDepth 100000 in
set_option maxHeartbeats 4000000 in
theorem i_product_4 (x1 x2 x3 : Int32) (h0 : 0 ≤ x1.toInt) (h1 : x1.toInt < 4) (h2 : 0 ≤ x2.toInt) (h3 : x2.toInt < 4) (h4 : x3.toInt < 0) : xe_P 845 [(1, x1), (2, x2), (3, x3)] := xe_pth (ds := [false, false, false, false, false, false, true, false, false, false, false, false, false, false, true]) (cs := [(.lt, x1, 0, false), (.ge, x1, 4, false), (.eq, 1, 0, false), (.lt, x2, 0, false), (.ge, x2, 4, false), (.eq, 1, 0, false), (.lt, x3, 0, true), (.ne, 0, 0, false), (.lt, x1, 0, false), (.gt, x1, 3, false), (.eq, 1, 0, false), (.lt, x2, 0, false), (.gt, x2, 3, false), (.eq, 1, 0, false), (.lt, x3, 0, true)]) rfl (List.forall_mem_cons.mpr ⟨xe_hs (a := x1.toInt) (b2 := 0) rfl (by decide) (by simp only [xe_ci]; first | (simp only [decide_eq_true_eq]; omega) | (simp only [decide_eq_false_iff_not]; omega) | (simp; omega)), (List.forall_mem_cons.mpr ⟨xe_hs (a := x1.toInt) (b2 := 4) rfl (by decide) (by simp only [xe_ci]; first | (simp only [decide_eq_true_eq]; omega) | (simp only [decide_eq_false_iff_not]; omega) | (simp; omega)), (List.forall_mem_cons.mpr ⟨xe_hd rfl, (List.forall_mem_cons.mpr ⟨xe_hs (a := x2.toInt) (b2 := 0) rfl (by decide) (by simp only [xe_ci]; first | (simp only [decide_eq_true_eq]; omega) | (simp only [decide_eq_false_iff_not]; omega) | (simp; omega)), (List.forall_mem_cons.mpr ⟨xe_hs (a := x2.toInt) (b2 := 4) rfl (by decide) (by simp only [xe_ci]; first | (simp only [decide_eq_true_eq]; omega) | (simp only [decide_eq_false_iff_not]; omega) | (simp; omega)), (List.forall_mem_cons.mpr ⟨xe_hd rfl, (List.forall_mem_cons.mpr ⟨xe_hs (a := x3.toInt) (b2 := 0) rfl (by decide) (by simp only [xe_ci]; first | (simp only [decide_eq_true_eq]; omega) | (simp only [decide_eq_false_iff_not]; omega) | (simp; omega)), (List.forall_mem_cons.mpr ⟨xe_hd rfl, (List.forall_mem_cons.mpr ⟨xe_hs (a := x1.toInt) (b2 := 0) rfl (by decide) (by simp only [xe_ci]; first | (simp only [decide_eq_true_eq]; omega) | (simp only [decide_eq_false_iff_not]; omega) | (simp; omega)), (List.forall_mem_cons.mpr ⟨xe_hs (a := x1.toInt) (b2 := 3) rfl (by decide) (by simp only [xe_ci]; first | (simp only [decide_eq_true_eq]; omega) | (simp only [decide_eq_false_iff_not]; omega) | (simp; omega)), (List.forall_mem_cons.mpr ⟨xe_hd rfl, (List.forall_mem_cons.mpr ⟨xe_hs (a := x2.toInt) (b2 := 0) rfl (by decide) (by simp only [xe_ci]; first | (simp only [decide_eq_true_eq]; omega) | (simp only [decide_eq_false_iff_not]; omega) | (simp; omega)), (List.forall_mem_cons.mpr ⟨xe_hs (a := x2.toInt) (b2 := 3) rfl (by decide) (by simp only [xe_ci]; first | (simp only [decide_eq_true_eq]; omega) | (simp only [decide_eq_false_iff_not]; omega) | (simp; omega)), (List.forall_mem_cons.mpr ⟨xe_hd rfl, (List.forall_mem_cons.mpr ⟨xe_hs (a := x3.toInt) (b2 := 0) rfl (by decide) (by simp only [xe_ci]; first | (simp only [decide_eq_true_eq]; omega) | (simp only [decide_eq_false_iff_not]; omega) | (simp; omega)), (fun _ h => absurd h List.not_mem_nil)⟩)⟩)⟩)⟩)⟩)⟩)⟩)⟩)⟩)⟩)⟩)⟩)⟩)⟩)⟩)
set_option maxRecDepth 100000 in
set_option maxHeartbeats 4000000 in
theorem i_product_5 (x1 x2 x3 : Int32) (h0 : 0 ≤ x1.toInt) (h1 : x1.toInt < 4) (h2 : 0 ≤ x2.toInt) (h3 : x2.toInt < 4) (h4 : 4 ≤ x3.toInt) : xe_P 845 [(1, x1), (2, x2), (3, x3)] := xe_pth (ds := [false, false, false, false, false, false, false, true, false, false, false, false, false, false, false, false, true]) (cs := [(.lt, x1, 0, false), (.ge, x1, 4, false), (.eq, 1, 0, false), (.lt, x2, 0, false), (.ge, x2, 4, false), (.eq, 1, 0, false), (.lt, x3, 0, false), (.ge, x3, 4, true), (.ne, 0, 0, false), (.lt, x1, 0, false), (.gt, x1, 3, false), (.eq, 1, 0, false), (.lt, x2, 0, false), (.gt, x2, 3, false), (.eq, 1, 0, false), (.lt, x3, 0, false), (.gt, x3, 3, true)]) rfl (List.forall_mem_cons.mpr ⟨xe_hs (a := x1.toInt) (b2 := 0) rfl (by decide) (by simp only [xe_ci]; first | (simp only [decide_eq_true_eq]; omega) | (simp only [decide_eq_false_iff_not]; omega) | (simp; omega)), (List.forall_mem_cons.mpr ⟨xe_hs (a := x1.toInt) (b2 := 4) rfl (by decide) (by simp only [xe_ci]; first | (simp only [decide_eq_true_eq]; omega) | (simp only [decide_eq_false_iff_not]; omega) | (simp; omega)), (List.forall_mem_cons.mpr ⟨xe_hd rfl, (List.forall_mem_cons.mpr ⟨xe_hs (a := x2.toInt) (b2 := 0) rfl (by decide) (by simp only [xe_ci]; first | (simp only [decide_eq_true_eq]; omega) | (simp only [decide_eq_false_iff_not]; omega) | (simp; omega)), (List.forall_mem_cons.mpr ⟨xe_hs (a := x2.toInt) (b2 := 4) rfl (by decide) (by simp only [xe_ci]; first | (simp only [decide_eq_true_eq]; omega) | (simp only [decide_eq_false_iff_not]; omega) | (simp; omega)), (List.forall_mem_cons.mpr ⟨xe_hd rfl, (List.forall_mem_cons.mpr ⟨xe_hs (a := x3.toInt) (b2 := 0) rfl (by decide) (by simp only [xe_ci]; first | (simp only [decide_eq_true_eq]; omega) | (simp only [decide_eq_false_iff_not]; omega) | (simp; omega)), (List.forall_mem_cons.mpr ⟨xe_hs (a := x3.toInt) (b2 := 4) rfl (by decide) (by simp only [xe_ci]; first | (simp only [decide_eq_true_eq]; omega) | (simp only [decide_eq_false_iff_not]; omega) | (simp; omega)), (List.forall_mem_cons.mpr ⟨xe_hd rfl, (List.forall_mem_cons.mpr ⟨xe_hs (a := x1.toInt) (b2 := 0) rfl (by decide) (by simp only [xe_ci]; first | (simp only [decide_eq_true_eq]; omega) | (simp only [decide_eq_false_iff_not]; omega) | (simp; omega)), (List.forall_mem_cons.mpr ⟨xe_hs (a := x1.toInt) (b2 := 3) rfl (by decide) (by simp only [xe_ci]; first | (simp only [decide_eq_true_eq]; omega) | (simp only [decide_eq_false_iff_not]; omega) | (simp; omega)), (List.forall_mem_cons.mpr ⟨xe_hd rfl, (List.forall_mem_cons.mpr ⟨xe_hs (a := x2.toInt) (b2 := 0) rfl (by decide) (by simp only [xe_ci]; first | (simp only [decide_eq_true_eq]; omega) | (simp only [decide_eq_false_iff_not]; omega) | (simp; omega)), (List.forall_mem_cons.mpr ⟨xe_hs (a := x2.toInt) (b2 := 3) rfl (by decide) (by simp only [xe_ci]; first | (simp only [decide_eq_true_eq]; omega) | (simp only [decide_eq_false_iff_not]; omega) | (simp; omega)), (List.forall_mem_cons.mpr ⟨xe_hd rfl, (List.forall_mem_cons.mpr ⟨xe_hs (a := x3.toInt) (b2 := 0) rfl (by decide) (by simp only [xe_ci]; first | (simp only [decide_eq_true_eq]; omega) | (simp only [decide_eq_false_iff_not]; omega) | (simp; omega)), (List.forall_mem_cons.mpr ⟨xe_hs (a := x3.toInt) (b2 := 3) rfl (by decide) (by simp only [xe_ci]; first | (simp only [decide_eq_true_eq]; omega) | (simp only [decide_eq_false_iff_not]; omega) | (simp; omega)), (fun _ h => absurd h List.not_mem_nil)⟩)⟩)⟩)⟩)⟩)⟩)⟩)⟩)⟩)⟩)⟩)⟩)⟩)⟩)⟩)⟩)⟩)
set_option maxRecDepth 100000 in
set_option maxHeartbeats 4000000 in
theorem i_size_0 (x1 : Int32) (h0 : x1.toInt < 0) : xe_P 888 [(1, x1)] := xe_pth (ds := [true, false, true]) (cs := [(.lt, x1, 0, true), (.ne, 0, 0, false), (.lt, x1, 0, true)]) rfl (List.forall_mem_cons.mpr ⟨xe_hs (a := x1.toInt) (b2 := 0) rfl (by decide) (by simp only [xe_ci]; first | (simp only [decide_eq_true_eq]; omega) | (simp only [decide_eq_false_iff_not]; omega) | (simp; omega)), (List.forall_mem_cons.mpr ⟨xe_hd rfl, (List.forall_mem_cons.mpr ⟨xe_hs (a := x1.toInt) (b2 := 0) rfl (by decide) (by simp only [xe_ci]; first | (simp only [decide_eq_true_eq]; omega) | (simp only [decide_eq_false_iff_not]; omega) | (simp; omega)), (fun _ h => absurd h List.not_mem_nil)⟩)⟩)⟩)
set_option maxRecDepth 100000 in
set_option maxHeartbeats 4000000 in
theorem i_size_1 (x1 : Int32) (h0 : 4 ≤ x1.toInt) : xe_P 888 [(1, x1)] := xe_pth (ds := [false, true, false, false, true]) (cs := [(.lt, x1, 0, false), (.ge, x1, 4, true), (.ne, 0, 0, false), (.lt, x1, 0, false), (.gt, x1, 3, true)]) rfl (List.forall_mem_cons.mpr ⟨xe_hs (a := x1.toInt) (b2 := 0) rfl (by decide) (by simp only [xe_ci]; first | (simp only [decide_eq_true_eq]; omega) | (simp only [decide_eq_false_iff_not]; omega) | (simp; omega)), (List.forall_mem_cons.mpr ⟨xe_hs (a := x1.toInt) (b2 := 4) rfl (by decide) (by simp only [xe_ci]; first | (simp only [decide_eq_true_eq]; omega) | (simp only [decide_eq_false_iff_not]; omega) | (simp; omega)), (List.forall_mem_cons.mpr ⟨xe_hd rfl, (List.forall_mem_cons.mpr ⟨xe_hs (a := x1.toInt) (b2 := 0) rfl (by decide) (by simp only [xe_ci]; first | (simp only [decide_eq_true_eq]; omega) | (simp only [decide_eq_false_iff_not]; omega) | (simp; omega)), (List.forall_mem_cons.mpr ⟨xe_hs (a := x1.toInt) (b2 := 3) rfl (by decide) (by simp only [xe_ci]; first | (simp only [decide_eq_true_eq]; omega) | (simp only [decide_eq_false_iff_not]; omega) | (simp; omega)), (fun _ h => absurd h List.not_mem_nil)⟩)⟩)⟩)⟩)⟩)
end
section
/-! contracts of the reference's small methods, over any contents of the cells -/
abbrev xh (m : Nat → Nat → Int32) : xm_H := (xp_sh, xp_rf, m)
theorem xm_eqC {G : xm_G} {l : Launch} {y d mc ms : Nat} {as : List Value} {h : xm_H} {post post' : Option Value → xm_H → Prop} (hp : ∀ r h', post r h' → post' r h') (hC : xm_C G l y d mc ms as h post) : xm_C G l y d mc ms as h post' := by
  intro base p e
  have := hC base p e
  intro a b c s m args below hf happ hP hK
  obtain ⟨k, o, h1, h2, h3, ⟨⟨r, h', q1, q2, q3⟩, q4⟩⟩ := this a b c s m args below hf happ hP hK
  exact ⟨k, o, h1, h2, h3, ⟨⟨r, h', q1, hp r h' q2, q3⟩, q4⟩⟩
theorem c_in {G : xm_G} {l : Launch} {d : Nat} {h : xm_H} (v lo hi : Int32) : xm_C G l xi_M_in d 0 0 [.int v, .int lo, .int hi] h (fun r h' => r = some (.int (if lo ≤ v ∧ v ≤ hi then 1 else 0)) ∧ h' = h) := by
  refine xm_enter' (by decide) rfl (Nat.le_of_ble_eq_true rfl) rfl ?_
  refine xm_step rfl rfl ?_
  refine xm_step rfl rfl ?_
  refine xm_if rfl rfl (fun hc => ?_) (fun hc => ?_)
  · have hc : v < lo := hc
    refine xm_step rfl rfl ?_
    exact xm_retI rfl rfl (by decide) (Nat.le_refl _) (Nat.le_refl _) ⟨by rw [if_neg (fun z => Int32.not_le.mpr hc z.1)]; rfl, rfl⟩
  · have hc : ¬ v < lo := hc
    refine xm_step rfl rfl ?_
    refine xm_step rfl rfl ?_
    refine xm_if rfl rfl (fun hc2 => ?_) (fun hc2 => ?_)
    · have hc2 : hi < v := hc2
      refine xm_step rfl rfl ?_
      exact xm_retI rfl rfl (by decide) (Nat.le_refl _) (Nat.le_refl _) ⟨by rw [if_neg (fun z => Int32.not_le.mpr hc2 z.2)]; rfl, rfl⟩
    · have hc2 : ¬ hi < v := hc2
      refine xm_step rfl rfl ?_
      refine xm_step rfl rfl ?_
      exact xm_retI rfl rfl (by decide) (Nat.le_refl _) (Nat.le_refl _) ⟨by rw [if_pos ⟨Int32.not_lt.mp hc, Int32.not_lt.mp hc2⟩]; rfl, rfl⟩
theorem xq_64 : (Int8.ofInt 64).toInt32 = nI 64 := by decide +kernel
theorem c_cell {G : xm_G} {l : Launch} {d : Nat} {m : Nat → Nat → Int32} {t a b : Nat} (ht : 64 * t + 8 * a + b < 384) : xm_C G l xi_M_cell d 0 0 [.ref 32, .int (nI t), .int (nI a), .int (nI b)] (xh m) (fun r h' => r = some (.int (m 34 (64 * t + 8 * a + b))) ∧ h' = xh m) := by
  refine xm_enter' (by decide) rfl (Nat.le_of_ble_eq_true rfl) rfl ?_
  refine xm_step rfl rfl ?_
  refine xm_getR (N := 7) (r := 34) rfl rfl rfl rfl ?_
  refine xm_step rfl rfl ?_
  refine xm_step rfl rfl ?_
  refine xm_step rfl rfl ?_
  refine xm_step rfl rfl ?_
  refine xm_step rfl rfl ?_
  refine xm_step rfl rfl ?_
  refine xm_step rfl rfl ?_
  refine xm_step rfl rfl ?_
  refine xm_step rfl rfl ?_
  have e : (Int8.ofInt 64).toInt32 * nI t + (Int8.ofInt 8).toInt32 * nI a + nI b = nI (64 * t + 8 * a + b) := by rw [xq_64, xt_8, pk_mul, pk_mul, nI_add, nI_add]
  dsimp only
  rw [e]
  refine xm_iald (N := 384) rfl rfl (vp_in_nI ht (by decide)) ?_
  rw [nI_clamp (by omega)]
  exact xm_retI rfl rfl rfl (Nat.le_refl _) (Nat.le_refl _) ⟨rfl, rfl⟩
theorem c_puts {G : xm_G} {l : Launch} {d : Nat} {m : Nat → Nat → Int32} {t a b : Nat} {v : Int32} (ht : 64 * t + 8 * a + b < 384) : xm_C G l xi_M_puts d 0 0 [.ref 32, .int (nI t), .int (nI a), .int (nI b), .int v] (xh m) (fun r h' => r = none ∧ h' = xm_sm (xh m) 34 (64 * t + 8 * a + b) v) := by
  refine xm_enter' (by decide) rfl (Nat.le_of_ble_eq_true rfl) rfl ?_
  refine xm_step rfl rfl ?_
  refine xm_getR (N := 7) (r := 34) rfl rfl rfl rfl ?_
  refine xm_step rfl rfl ?_
  refine xm_step rfl rfl ?_
  refine xm_step rfl rfl ?_
  refine xm_step rfl rfl ?_
  refine xm_step rfl rfl ?_
  refine xm_step rfl rfl ?_
  refine xm_step rfl rfl ?_
  refine xm_step rfl rfl ?_
  refine xm_step rfl rfl ?_
  refine xm_step rfl rfl ?_
  have e : (Int8.ofInt 64).toInt32 * nI t + (Int8.ofInt 8).toInt32 * nI a + nI b = nI (64 * t + 8 * a + b) := by rw [xq_64, xt_8, pk_mul, pk_mul, nI_add, nI_add]
  dsimp only
  rw [e]
  refine xm_iast (N := 384) rfl rfl (vp_in_nI ht (by decide)) ?_
  rw [nI_clamp (by omega)]
  exact xm_retV rfl rfl (Nat.le_refl _) (Nat.le_refl _) ⟨rfl, rfl⟩
abbrev xf_copy (m : Nat → Nat → Int32) (s t i : Nat) : Nat → Nat → Int32 := va_up (va_up m 33 (upd (m 33) s (m 33 t))) 34 (fun j => if 64 * s ≤ j ∧ j < 64 * s + i then m 34 (64 * t + (j - 64 * s)) else m 34 j)
theorem c_copies {G : xm_G} {l : Launch} {d : Nat} {m : Nat → Nat → Int32} {s t : Nat} (hs : s < 6) (ht : t < 6) (hst : s ≠ t) : xm_C G l xi_M_copies d 0 0 [.ref 32, .int (nI s), .int (nI t)] (xh m) (fun r h' => r = none ∧ h' = xh (xf_copy m s t 64)) := by
  refine xm_enter' (by decide) rfl (Nat.le_of_ble_eq_true rfl) rfl ?_
  refine xm_step rfl rfl ?_
  refine xm_getR (N := 7) (r := 33) rfl rfl rfl rfl ?_
  refine xm_step rfl rfl ?_
  refine xm_step rfl rfl ?_
  refine xm_getR (N := 7) (r := 33) rfl rfl rfl rfl ?_
  refine xm_step rfl rfl ?_
  refine xm_iald (N := 6) rfl rfl (vp_in_nI ht (by decide)) ?_
  rw [nI_clamp (by omega)]
  refine xm_iast (N := 6) rfl rfl (vp_in_nI hs (by decide)) ?_
  rw [nI_clamp (by omega)]
  refine xm_step rfl rfl ?_
  refine xm_step rfl rfl ?_
  have L : ∀ (n i : Nat), i ≤ 64 → 65 ≤ i + n → xm_X G l xi_M_copies d 0 0 0 0 14 [some (.ref 32), some (.int (nI s)), some (.int (nI t)), some (.int (nI i))] [] (xh (xf_copy m s t i)) (fun r h' => r = none ∧ h' = xh (xf_copy m s t 64)) := by
    intro n
    induction n with
    | zero => intro i h1 h2; omega
    | succ n ih =>
      intro i h1 h2
      refine xm_step rfl rfl ?_
      refine xm_step rfl rfl ?_
      refine xm_if rfl rfl (fun hc => ?_) (fun hc => ?_)
      · have hc : nI 64 ≤ nI i := hc
        have e : i = 64 := by have := (nI_leI (by decide) (by omega)).mp hc; omega
        subst e
        exact xm_retV rfl rfl (Nat.le_refl _) (Nat.le_refl _) ⟨rfl, rfl⟩
      · have hc : ¬ nI 64 ≤ nI i := hc
        have hlt : i < 64 := by
          rcases Nat.lt_or_ge i 64 with q | q
          · exact q
          · exact absurd (nI_le q (by omega)) hc
        refine xm_step rfl rfl ?_
        refine xm_getR (N := 7) (r := 34) rfl rfl rfl rfl ?_
        refine xm_step rfl rfl ?_
        refine xm_step rfl rfl ?_
        refine xm_step rfl rfl ?_
        refine xm_step rfl rfl ?_
        refine xm_step rfl rfl ?_
        refine xm_step rfl rfl ?_
        refine xm_getR (N := 7) (r := 34) rfl rfl rfl rfl ?_
        refine xm_step rfl rfl ?_
        refine xm_step rfl rfl ?_
        refine xm_step rfl rfl ?_
        refine xm_step rfl rfl ?_
        refine xm_step rfl rfl ?_
        have e1 : (Int8.ofInt 64).toInt32 * nI s + nI i = nI (64 * s + i) := by rw [xq_64, pk_mul, nI_add]
        have e2 : (Int8.ofInt 64).toInt32 * nI t + nI i = nI (64 * t + i) := by rw [xq_64, pk_mul, nI_add]
        dsimp only
        rw [e1, e2]
        refine xm_iald (N := 384) rfl rfl (vp_in_nI (by omega) (by decide)) ?_
        rw [nI_clamp (by omega)]
        refine xm_iast (N := 384) rfl rfl (vp_in_nI (by omega) (by decide)) ?_
        rw [nI_clamp (by omega)]
        refine xm_step rfl rfl ?_
        refine xm_step rfl rfl ?_
        have IH := ih (i + 1) (by omega) (by omega)
        rw [nI_succ] at IH
        have eh : xm_sm (xh (xf_copy m s t i)) 34 (64 * s + i) ((xh (xf_copy m s t i)).2.2 34 (64 * t + i)) = xh (xf_copy m s t (i + 1)) := by
          simp only [xm_sm, xf_copy, xh, Prod.mk.injEq, true_and]
          funext q j
          unfold va_up upd
          by_cases e : q = 34
          · subst e
            simp only [if_true]
            by_cases e3 : j = 64 * s + i
            · subst e3
              rw [if_pos rfl, if_neg (by omega), if_pos (by omega)]
              congr 1
              omega
            · rw [if_neg e3]
              have e4 : (64 * s ≤ j ∧ j < 64 * s + (i + 1)) ↔ (64 * s ≤ j ∧ j < 64 * s + i) := by omega
              simp only [e4]
          · simp [e]
        rw [eh]
        exact IH
  have R := L 65 0 (by omega) (by omega)
  have e0 : xm_sm (xh m) 33 s ((xh m).2.2 33 t) = xh (xf_copy m s t 0) := by
    simp only [xm_sm, xf_copy, xh, Prod.mk.injEq, true_and]
    funext q j
    unfold va_up
    by_cases e : q = 34
    · subst e
      simp
      omega
    · simp [e]
  exact e0 ▸ R
end
section
/-! p1: the reference's ways and group on a table of one element -/
theorem c_MisT {G : xm_G} {l : Launch} {d : Nat} {h : xm_H} {t : Nat} (ht : t < 4) : xm_C G l xi_M_isTable (d + 1) 0 0 [.int (nI t)] h (fun r h' => r = some (.int 1) ∧ h' = h) := by
  refine xm_enter' (by decide) rfl (Nat.le_of_ble_eq_true rfl) rfl ?_
  refine xm_step rfl rfl ?_
  refine xm_step rfl rfl ?_
  refine xm_step rfl rfl ?_
  refine xm_callS (As := [.int (nI t), .int (nI 0), .int (nI 3)]) (rest := []) (d' := d) (mc' := 0) (ms' := 0) rfl (c_in (nI t) (nI 0) (nI 3)) rfl (Nat.le_refl _) (Nat.le_refl _) (Nat.le_refl _) (Nat.le_of_ble_eq_true rfl) (fun r h' hp => ?_)
  obtain ⟨rfl, rfl⟩ := hp
  rw [if_pos ⟨nI_le (by omega) (by omega), nI_le (by omega) (by omega)⟩]
  exact xm_retI rfl rfl rfl (Nat.le_refl _) (Nat.le_refl _) ⟨rfl, rfl⟩
theorem xq_s {m : Nat → Nat → Int32} {t : Nat} (ht : t < 4) : xf_copy m 4 t 64 33 t = m 33 t := by
  show upd (m 33) 4 (m 33 t) t = m 33 t
  unfold upd
  rw [if_neg (by omega)]
theorem xq_c {m : Nat → Nat → Int32} {t : Nat} (ht : t < 4) : xf_copy m 4 t 64 34 (64 * t + 8 * 0 + 0) = m 34 (64 * t) := by
  show (if 64 * 4 ≤ 64 * t + 8 * 0 + 0 ∧ 64 * t + 8 * 0 + 0 < 64 * 4 + 64 then m 34 (64 * t + (64 * t + 8 * 0 + 0 - 64 * 4)) else m 34 (64 * t + 8 * 0 + 0)) = m 34 (64 * t)
  rw [if_neg (by omega)]
  rfl
theorem xq_1 (i : Int32) : ¬ (1 : Int32) ≤ 0 := by decide
set_option maxHeartbeats 1000000 in
theorem c_ends1 {G : xm_G} {l : Launch} {d : Nat} {m : Nat → Nat → Int32} {t : Nat} (ht : t < 4) (hm : m 33 t = 1) (hc : m 34 (64 * t) = 0) (x2 : Int32) : xm_C G l xi_M_ends (d + 1) 0 0 [.ref 32, .int (nI t), .int x2] (xh m) (fun r h' => r = some (.int 1)) := by
  refine xm_enter' (by decide) rfl (Nat.le_of_ble_eq_true rfl) rfl ?_
  refine xm_step rfl rfl ?_
  refine xm_step rfl rfl ?_
  refine xm_step rfl rfl ?_
  refine xm_callV (As := [.int (nI 4), .int (nI t)]) (rest := []) (d' := d) (mc' := 0) (ms' := 0) (k := 32) (ci := 5) (N := 7) rfl rfl rfl (c_copies (s := 4) (t := t) (by decide) (by omega) (by omega)) rfl (Nat.le_refl _) (Nat.le_refl _) (Nat.le_refl _) (Nat.le_of_ble_eq_true rfl) (fun r h' hp => ?_)
  obtain ⟨rfl, rfl⟩ := hp
  refine xm_step rfl rfl ?_
  refine xm_step rfl rfl ?_
  refine xm_putI (N := 7) rfl rfl rfl ?_
  generalize hm1 : va_up (xf_copy m 4 t 64) 32 (upd (xf_copy m 4 t 64 32) 2 (Int32.ofInt 0)) = m1
  have s1 : m1 33 t = 1 := by
    rw [← hm1]
    show xf_copy m 4 t 64 33 t = 1
    rw [xq_s ht, hm]
  have c1 : m1 34 (64 * t + 8 * 0 + 0) = 0 := by
    rw [← hm1]
    show xf_copy m 4 t 64 34 (64 * t + 8 * 0 + 0) = 0
    rw [xq_c ht, hc]
  have o1 : m1 32 2 = 0 := by
    rw [← hm1]
    rfl
  have eh : xm_sm (xh (xf_copy m 4 t 64)) 32 2 (Int32.ofInt 0) = xh m1 := by rw [← hm1]
  have go : xm_X G l xi_M_ends (d + 1) 0 0 0 0 11 [some (.ref 32), some (.int (nI t)), some (.int x2), none, none, none, none, none] [] (xh m1) (fun r h' => r = some (.int 1)) := by
    refine xm_step rfl rfl ?_
    refine xm_step rfl rfl ?_
    refine xm_step rfl rfl ?_
    refine xm_step rfl rfl ?_
    refine xm_getR (N := 7) (r := 33) rfl rfl rfl rfl ?_
    refine xm_step rfl rfl ?_
    refine xm_iald (N := 6) rfl rfl (vp_in_nI (by omega) (by decide)) ?_
    rw [nI_clamp (by omega)]
    show xm_X G l xi_M_ends (d + 1) 0 0 0 0 20 [some (.ref 32), some (.int (nI t)), some (.int x2), some (.int 0), none, none, none, none] [.int (m1 33 t), .int 0] (xh m1) _
    rw [s1]
    refine xm_if rfl rfl (fun q => absurd q (by show ¬ (1 : Int32) ≤ 0; decide)) (fun _ => ?_)
    refine xm_step rfl rfl ?_
    refine xm_step rfl rfl ?_
    refine xm_step rfl rfl ?_
    refine xm_step rfl rfl ?_
    refine xm_getR (N := 7) (r := 33) rfl rfl rfl rfl ?_
    refine xm_step rfl rfl ?_
    refine xm_iald (N := 6) rfl rfl (vp_in_nI (by omega) (by decide)) ?_
    rw [nI_clamp (by omega)]
    show xm_X G l xi_M_ends (d + 1) 0 0 0 0 34 [some (.ref 32), some (.int (nI t)), some (.int x2), some (.int 0), some (.int 0), none, none, none] [.int (m1 33 t), .int 0] (xh m1) _
    rw [s1]
    refine xm_if rfl rfl (fun q => absurd q (by show ¬ (1 : Int32) ≤ 0; decide)) (fun _ => ?_)
    refine xm_step rfl rfl ?_
    refine xm_step rfl rfl ?_
    refine xm_step rfl rfl ?_
    refine xm_step rfl rfl ?_
    refine xm_callV (As := [.int (nI t), .int (nI 0), .int (nI 0)]) (rest := []) (d' := d) (mc' := 0) (ms' := 0) (k := 32) (ci := 5) (N := 7) rfl rfl rfl (c_cell (t := t) (a := 0) (b := 0) (by omega)) rfl (Nat.le_refl _) (Nat.le_refl _) (Nat.le_refl _) (Nat.le_of_ble_eq_true rfl) (fun r h' hp => ?_)
    obtain ⟨rfl, rfl⟩ := hp
    rw [c1]
    refine xm_if rfl rfl (fun _ => ?_) (fun q => absurd (show (0 : Int32) ≤ 0 by decide) q)
    refine xm_step rfl rfl ?_
    refine xm_step rfl rfl ?_
    refine xm_step rfl rfl ?_
    refine xm_step rfl rfl ?_
    refine xm_getR (N := 7) (r := 33) rfl rfl rfl rfl ?_
    refine xm_step rfl rfl ?_
    refine xm_iald (N := 6) rfl rfl (vp_in_nI (by omega) (by decide)) ?_
    rw [nI_clamp (by omega)]
    show xm_X G l xi_M_ends (d + 1) 0 0 0 0 34 [some (.ref 32), some (.int (nI t)), some (.int x2), some (.int 0), some (.int 1), none, none, none] [.int (m1 33 t), .int 1] (xh m1) _
    rw [s1]
    refine xm_if rfl rfl (fun _ => ?_) (fun q => absurd (show (1 : Int32) ≤ 1 by decide) q)
    refine xm_step rfl rfl ?_
    refine xm_step rfl rfl ?_
    refine xm_step rfl rfl ?_
    refine xm_step rfl rfl ?_
    refine xm_getR (N := 7) (r := 33) rfl rfl rfl rfl ?_
    refine xm_step rfl rfl ?_
    refine xm_iald (N := 6) rfl rfl (vp_in_nI (by omega) (by decide)) ?_
    rw [nI_clamp (by omega)]
    show xm_X G l xi_M_ends (d + 1) 0 0 0 0 20 [some (.ref 32), some (.int (nI t)), some (.int x2), some (.int 1), some (.int 1), none, none, none] [.int (m1 33 t), .int 1] (xh m1) _
    rw [s1]
    refine xm_if rfl rfl (fun _ => ?_) (fun q => absurd (show (1 : Int32) ≤ 1 by decide) q)
    refine xm_step rfl rfl ?_
    refine xm_step rfl rfl ?_
    refine xm_step rfl rfl ?_
    refine xm_step rfl rfl ?_
    refine xm_step rfl rfl ?_
    refine xm_if rfl rfl (fun q => absurd q (by show ¬ (0 : Int32) < 0; decide)) (fun _ => ?_)
    refine xm_step rfl rfl ?_
    refine xm_step rfl rfl ?_
    refine xm_getI (N := 7) rfl rfl rfl ?_
    show xm_X G l xi_M_ends (d + 1) 0 0 0 0 102 [some (.ref 32), some (.int (nI t)), some (.int x2), some (.int 0), some (.int 0), none, none, none] [.int (m1 32 2), .int 0] (xh m1) _
    rw [o1]
    refine xm_if rfl rfl (fun q => absurd rfl q) (fun _ => ?_)
    refine xm_step rfl rfl ?_
    refine xm_step rfl rfl ?_
    refine xm_step rfl rfl ?_
    refine xm_if rfl rfl (fun _ => ?_) (fun _ => ?_)
    · refine xm_step rfl rfl ?_
      refine xm_step rfl rfl ?_
      refine xm_step rfl rfl ?_
      refine xm_if rfl rfl (fun _ => ?_) (fun q => absurd (show (-1 : Int32) < 0 by decide) q)
      refine xm_step rfl rfl ?_
      exact xm_retI rfl rfl rfl (Nat.le_refl _) (Nat.le_refl _) rfl
    · refine xm_step rfl rfl ?_
      exact xm_retI rfl rfl rfl (Nat.le_refl _) (Nat.le_refl _) rfl
  exact eh ▸ go
theorem c_waysM1 {G : xm_G} {l : Launch} {d : Nat} {m : Nat → Nat → Int32} {t : Nat} (ht : t < 4) (hm : m 33 t = 1) (hc : m 34 (64 * t) = 0) (x2 : Int32) (h1 : 1 ≤ x2) (h2 : x2 ≤ 10000) : xm_C G l xi_M_ways (d + 2) 0 0 [.ref 32, .int (nI t), .int x2] (xh m) (fun r h' => r = some (.int 1)) := by
  refine xm_enter' (by decide) rfl (Nat.le_of_ble_eq_true rfl) rfl ?_
  refine xm_step rfl rfl ?_
  refine xm_callS (As := [.int (nI t)]) (rest := []) (d' := d + 1) (mc' := 0) (ms' := 0) rfl (c_MisT ht) rfl (Nat.le_refl _) (Nat.le_refl _) (Nat.le_refl _) (Nat.le_of_ble_eq_true rfl) (fun r h' hp => ?_)
  obtain ⟨rfl, rfl⟩ := hp
  refine xm_if rfl rfl (fun q => absurd (show (1 : Int32) = 0 from q) (by decide)) (fun _ => ?_)
  refine xm_step rfl rfl ?_
  refine xm_step rfl rfl ?_
  refine xm_step rfl rfl ?_
  refine xm_callS (As := [.int x2, .int 1, .int 10000]) (rest := []) (d' := d + 1) (mc' := 0) (ms' := 0) rfl (c_in x2 1 10000) rfl (Nat.le_refl _) (Nat.le_refl _) (Nat.le_refl _) (Nat.le_of_ble_eq_true rfl) (fun r h' hp => ?_)
  obtain ⟨rfl, rfl⟩ := hp
  rw [if_pos ⟨h1, h2⟩]
  refine xm_if rfl rfl (fun _ => ?_) (fun q => absurd (show ¬ (1 : Int32) = 0 by decide) q)
  refine xm_step rfl rfl ?_
  refine xm_getR (N := 7) (r := 33) rfl rfl rfl rfl ?_
  refine xm_step rfl rfl ?_
  refine xm_iald (N := 6) rfl rfl (vp_in_nI (by omega) (by decide)) ?_
  rw [nI_clamp (by omega)]
  show xm_X G l xi_M_ways (d + 2) 0 0 0 0 26 [some (.ref 32), some (.int (nI t)), some (.int x2)] [.int (m 33 t)] (xh m) _
  rw [hm]
  refine xm_step rfl rfl ?_
  refine xm_if rfl rfl (fun _ => ?_) (fun q => absurd (show (1 : Int32) ≤ 6 by decide) q)
  refine xm_step rfl rfl ?_
  refine xm_step rfl rfl ?_
  refine xm_step rfl rfl ?_
  refine xm_callV (As := [.int (nI t), .int x2]) (rest := []) (d' := d + 1) (mc' := 0) (ms' := 0) (k := 32) (ci := 5) (N := 7) rfl rfl rfl (c_ends1 ht hm hc x2) rfl (Nat.le_refl _) (Nat.le_refl _) (Nat.le_refl _) (Nat.le_of_ble_eq_true rfl) (fun r h' hp => ?_)
  subst hp
  exact xm_retI rfl rfl rfl (Nat.le_refl _) (Nat.le_refl _) rfl
end
section
/-! p1: group on a table of one element -/
def xz (t : Nat) (m : Nat → Nat → Int32) : Nat → Nat → Int32 := va_up (va_up m 33 (upd (m 33) t 1)) 34 (upd (m 34) (64 * t) 0)
theorem xz_eq {t : Nat} {m : Nat → Nat → Int32} (h1 : m 33 t = 1) (h2 : m 34 (64 * t) = 0) : xz t m = m := by
  funext k j
  unfold xz va_up upd
  by_cases e : k = 34
  · subst e
    rw [if_pos rfl]
    by_cases e2 : j = 64 * t
    · rw [if_pos e2, e2, h2]
    · rw [if_neg e2]
  · rw [if_neg e]
    by_cases e1 : k = 33
    · subst e1
      rw [if_pos rfl]
      by_cases e2 : j = t
      · rw [if_pos e2, e2, h1]
      · rw [if_neg e2]
    · rw [if_neg e1]
theorem xe_nil (G : xm_G) : (∀ (j : Nat) (v : Int32), ([] : List (Nat × Int32)).lookup j = some v → j ≠ 1000000 → j < G.2.2.2.2.1 ∧ G.2.2.2.2.2 j = v) ∧ ∀ v : Int32, ([] : List (Nat × Int32)).lookup 1000000 = some v → v = Int32.ofNat G.2.2.2.2.1 ∧ (v = 5 → G.2.2.2.2.1 = 5) := ⟨fun _ _ h => (by cases h), fun _ h => (by cases h)⟩
abbrev xf_clr (m : Nat → Nat → Int32) (i : Nat) : Nat → Nat → Int32 := va_up m 38 (fun j => if j < i then 0 else m 38 j)
theorem c_clear {G : xm_G} {l : Launch} {d : Nat} {m : Nat → Nat → Int32} {t : Int32} {post : Option Value → xm_H → Prop} (K : xm_X G l xi_M_group d 0 0 0 0 60 [some (.ref 32), some (.int t), some (.int 1), some (.int (nI 5040)), none, none, none] [] (xh (xf_clr m 5040)) post) : xm_X G l xi_M_group d 0 0 0 0 40 [some (.ref 32), some (.int t), some (.int 1), some (.int (nI 0)), none, none, none] [] (xh m) post := by
  have L : ∀ (n i : Nat), i ≤ 5040 → 5041 ≤ i + n → xm_X G l xi_M_group d 0 0 0 0 40 [some (.ref 32), some (.int t), some (.int 1), some (.int (nI i)), none, none, none] [] (xh (xf_clr m i)) post := by
    intro n
    induction n with
    | zero => intro i h1 h2; omega
    | succ n ih =>
      intro i h1 h2
      refine xm_step rfl rfl ?_
      refine xm_step rfl rfl ?_
      refine xm_if rfl rfl (fun hc => ?_) (fun hc => ?_)
      · have hc : nI 5040 ≤ nI i := hc
        have e : i = 5040 := by have := (nI_leI (by decide) (by omega)).mp hc; omega
        subst e
        exact K
      · have hc : ¬ nI 5040 ≤ nI i := hc
        have hlt : i < 5040 := by
          rcases Nat.lt_or_ge i 5040 with q | q
          · exact q
          · exact absurd (nI_le q (by omega)) hc
        refine xm_step rfl rfl ?_
        refine xm_getR (N := 7) (r := 38) rfl rfl rfl rfl ?_
        refine xm_step rfl rfl ?_
        refine xm_step rfl rfl ?_
        refine xm_zast (N := 5040) rfl rfl (vp_in_nI hlt (by decide)) ?_
        rw [nI_clamp (by omega)]
        refine xm_step rfl rfl ?_
        refine xm_step rfl rfl ?_
        have IH := ih (i + 1) (by omega) (by omega)
        rw [nI_succ] at IH
        have eh : xm_sm (xh (xf_clr m i)) 38 i (vp_nar .boolean (Int32.ofInt 0)) = xh (xf_clr m (i + 1)) := by
          have ez : vp_nar .boolean (Int32.ofInt 0) = 0 := by decide
          rw [ez]
          simp only [xm_sm, xf_clr, xh, Prod.mk.injEq, true_and]
          funext q j
          unfold va_up upd
          by_cases e : q = 38
          · subst e
            simp only [if_true]
            by_cases e2 : j = i
            · subst e2; simp
            · have e3 : j < i + 1 ↔ j < i := by omega
              simp [e2, e3]
          · simp [e]
        rw [eh]
        exact IH
  have R := L 5041 0 (by omega) (by omega)
  have e0 : xh (xf_clr m 0) = xh m := by
    simp only [xf_clr, xh, Prod.mk.injEq, true_and]
    funext q j
    unfold va_up
    by_cases e : q = 38
    · subst e; simp
    · simp [e]
  exact e0 ▸ R
set_option maxRecDepth 100000 in
set_option maxHeartbeats 4000000 in
theorem c_groupM0 {G : xm_G} {l : Launch} {m : Nat → Nat → Int32} (hm : m 33 0 = 1) (hc : m 34 0 = 0) : xm_C G l xi_M_group 60 0 0 [.ref 32, .int 0] (xh m) (fun r h' => r = some (.int 1)) := by
  have e0 : xz 0 m = m := xz_eq hm hc
  rw [← e0]
  refine xm_enter' (by decide) rfl (Nat.le_of_ble_eq_true rfl) rfl ?_
  refine xm_step rfl rfl ?_
  refine xm_callS (As := [.int 0]) (rest := []) (d' := 59) (mc' := 0) (ms' := 0) rfl (xe_call_ok (sc := []) (N := 100) (xe_nil G) 59 xi_M_isTable [.int 0] (xh (xz 0 m)) [] (some (.int 1)) _ [] [] rfl (fun _ h => absurd h List.not_mem_nil) rfl) rfl (Nat.le_refl _) (Nat.le_refl _) (Nat.le_refl _) (Nat.le_of_ble_eq_true rfl) (fun r h' hp => ?_)
  obtain ⟨rfl, rfl⟩ := hp
  refine xm_if rfl rfl (fun _ => ?_) (fun q => absurd (show ¬ (1 : Int32) = 0 by decide) q)
  refine xm_step rfl rfl ?_
  refine xm_step rfl rfl ?_
  refine xm_callV (As := [.int 0]) (rest := []) (d' := 59) (mc' := 0) (ms' := 0) (k := 32) (ci := 5) (N := 7) rfl rfl rfl (xe_call_ok (sc := []) (N := 100) (xe_nil G) 59 xi_M_isFull [.ref 32, .int 0] (xh (xz 0 m)) [] (some (.int 1)) _ [] [] rfl (fun _ h => absurd h List.not_mem_nil) rfl) rfl (Nat.le_refl _) (Nat.le_refl _) (Nat.le_refl _) (Nat.le_of_ble_eq_true rfl) (fun r h' hp => ?_)
  obtain ⟨rfl, rfl⟩ := hp
  refine xm_if rfl rfl (fun q => absurd (show (1 : Int32) = 0 from q) (by decide)) (fun _ => ?_)
  refine xm_step rfl rfl ?_
  refine xm_getR (N := 7) (r := 33) rfl rfl rfl rfl ?_
  refine xm_step rfl rfl ?_
  refine xm_iald (N := 6) rfl rfl (by unfold vp_in; decide) ?_
  refine xm_step rfl rfl ?_
  refine xm_if rfl rfl (fun _ => ?_) (fun q => absurd (show (1 : Int32) ≤ 7 by decide) q)
  refine xm_step rfl rfl ?_
  refine xm_getR (N := 7) (r := 33) rfl rfl rfl rfl ?_
  refine xm_step rfl rfl ?_
  refine xm_iald (N := 6) rfl rfl (by unfold vp_in; decide) ?_
  refine xm_step rfl rfl ?_
  refine xm_step rfl rfl ?_
  refine xm_step rfl rfl ?_
  refine c_clear (m := xz 0 m) (t := 0) ?_
  exact xm_mono (fun r h' hp => hp.1) (xe_lp_ok (sc := []) (xe_nil G) (xe_call_ok (N := 300) (xe_nil G) 59) 600 xi_M_group 60 [some (.ref 32), some (.int 0), some (.int 1), some (.int (nI 5040)), none, none, none] [] (xh (xf_clr (xz 0 m) 5040)) [] (some (.int 1)) _ [] [] rfl (fun _ h => absurd h List.not_mem_nil) (Nat.le_refl _) (Nat.le_refl _))
set_option maxRecDepth 100000 in
set_option maxHeartbeats 4000000 in
theorem c_groupM1 {G : xm_G} {l : Launch} {m : Nat → Nat → Int32} (hm : m 33 1 = 1) (hc : m 34 64 = 0) : xm_C G l xi_M_group 60 0 0 [.ref 32, .int 1] (xh m) (fun r h' => r = some (.int 1)) := by
  have e0 : xz 1 m = m := xz_eq hm hc
  rw [← e0]
  refine xm_enter' (by decide) rfl (Nat.le_of_ble_eq_true rfl) rfl ?_
  refine xm_step rfl rfl ?_
  refine xm_callS (As := [.int 1]) (rest := []) (d' := 59) (mc' := 0) (ms' := 0) rfl (xe_call_ok (sc := []) (N := 100) (xe_nil G) 59 xi_M_isTable [.int 1] (xh (xz 1 m)) [] (some (.int 1)) _ [] [] rfl (fun _ h => absurd h List.not_mem_nil) rfl) rfl (Nat.le_refl _) (Nat.le_refl _) (Nat.le_refl _) (Nat.le_of_ble_eq_true rfl) (fun r h' hp => ?_)
  obtain ⟨rfl, rfl⟩ := hp
  refine xm_if rfl rfl (fun _ => ?_) (fun q => absurd (show ¬ (1 : Int32) = 0 by decide) q)
  refine xm_step rfl rfl ?_
  refine xm_step rfl rfl ?_
  refine xm_callV (As := [.int 1]) (rest := []) (d' := 59) (mc' := 0) (ms' := 0) (k := 32) (ci := 5) (N := 7) rfl rfl rfl (xe_call_ok (sc := []) (N := 100) (xe_nil G) 59 xi_M_isFull [.ref 32, .int 1] (xh (xz 1 m)) [] (some (.int 1)) _ [] [] rfl (fun _ h => absurd h List.not_mem_nil) rfl) rfl (Nat.le_refl _) (Nat.le_refl _) (Nat.le_refl _) (Nat.le_of_ble_eq_true rfl) (fun r h' hp => ?_)
  obtain ⟨rfl, rfl⟩ := hp
  refine xm_if rfl rfl (fun q => absurd (show (1 : Int32) = 0 from q) (by decide)) (fun _ => ?_)
  refine xm_step rfl rfl ?_
  refine xm_getR (N := 7) (r := 33) rfl rfl rfl rfl ?_
  refine xm_step rfl rfl ?_
  refine xm_iald (N := 6) rfl rfl (by unfold vp_in; decide) ?_
  refine xm_step rfl rfl ?_
  refine xm_if rfl rfl (fun _ => ?_) (fun q => absurd (show (1 : Int32) ≤ 7 by decide) q)
  refine xm_step rfl rfl ?_
  refine xm_getR (N := 7) (r := 33) rfl rfl rfl rfl ?_
  refine xm_step rfl rfl ?_
  refine xm_iald (N := 6) rfl rfl (by unfold vp_in; decide) ?_
  refine xm_step rfl rfl ?_
  refine xm_step rfl rfl ?_
  refine xm_step rfl rfl ?_
  refine c_clear (m := xz 1 m) (t := 1) ?_
  exact xm_mono (fun r h' hp => hp.1) (xe_lp_ok (sc := []) (xe_nil G) (xe_call_ok (N := 300) (xe_nil G) 59) 600 xi_M_group 60 [some (.ref 32), some (.int 1), some (.int 1), some (.int (nI 5040)), none, none, none] [] (xh (xf_clr (xz 1 m) 5040)) [] (some (.int 1)) _ [] [] rfl (fun _ h => absurd h List.not_mem_nil) (Nat.le_refl _) (Nat.le_refl _))
set_option maxRecDepth 100000 in
set_option maxHeartbeats 4000000 in
theorem c_groupM2 {G : xm_G} {l : Launch} {m : Nat → Nat → Int32} (hm : m 33 2 = 1) (hc : m 34 128 = 0) : xm_C G l xi_M_group 60 0 0 [.ref 32, .int 2] (xh m) (fun r h' => r = some (.int 1)) := by
  have e0 : xz 2 m = m := xz_eq hm hc
  rw [← e0]
  refine xm_enter' (by decide) rfl (Nat.le_of_ble_eq_true rfl) rfl ?_
  refine xm_step rfl rfl ?_
  refine xm_callS (As := [.int 2]) (rest := []) (d' := 59) (mc' := 0) (ms' := 0) rfl (xe_call_ok (sc := []) (N := 100) (xe_nil G) 59 xi_M_isTable [.int 2] (xh (xz 2 m)) [] (some (.int 1)) _ [] [] rfl (fun _ h => absurd h List.not_mem_nil) rfl) rfl (Nat.le_refl _) (Nat.le_refl _) (Nat.le_refl _) (Nat.le_of_ble_eq_true rfl) (fun r h' hp => ?_)
  obtain ⟨rfl, rfl⟩ := hp
  refine xm_if rfl rfl (fun _ => ?_) (fun q => absurd (show ¬ (1 : Int32) = 0 by decide) q)
  refine xm_step rfl rfl ?_
  refine xm_step rfl rfl ?_
  refine xm_callV (As := [.int 2]) (rest := []) (d' := 59) (mc' := 0) (ms' := 0) (k := 32) (ci := 5) (N := 7) rfl rfl rfl (xe_call_ok (sc := []) (N := 100) (xe_nil G) 59 xi_M_isFull [.ref 32, .int 2] (xh (xz 2 m)) [] (some (.int 1)) _ [] [] rfl (fun _ h => absurd h List.not_mem_nil) rfl) rfl (Nat.le_refl _) (Nat.le_refl _) (Nat.le_refl _) (Nat.le_of_ble_eq_true rfl) (fun r h' hp => ?_)
  obtain ⟨rfl, rfl⟩ := hp
  refine xm_if rfl rfl (fun q => absurd (show (1 : Int32) = 0 from q) (by decide)) (fun _ => ?_)
  refine xm_step rfl rfl ?_
  refine xm_getR (N := 7) (r := 33) rfl rfl rfl rfl ?_
  refine xm_step rfl rfl ?_
  refine xm_iald (N := 6) rfl rfl (by unfold vp_in; decide) ?_
  refine xm_step rfl rfl ?_
  refine xm_if rfl rfl (fun _ => ?_) (fun q => absurd (show (1 : Int32) ≤ 7 by decide) q)
  refine xm_step rfl rfl ?_
  refine xm_getR (N := 7) (r := 33) rfl rfl rfl rfl ?_
  refine xm_step rfl rfl ?_
  refine xm_iald (N := 6) rfl rfl (by unfold vp_in; decide) ?_
  refine xm_step rfl rfl ?_
  refine xm_step rfl rfl ?_
  refine xm_step rfl rfl ?_
  refine c_clear (m := xz 2 m) (t := 2) ?_
  exact xm_mono (fun r h' hp => hp.1) (xe_lp_ok (sc := []) (xe_nil G) (xe_call_ok (N := 300) (xe_nil G) 59) 600 xi_M_group 60 [some (.ref 32), some (.int 2), some (.int 1), some (.int (nI 5040)), none, none, none] [] (xh (xf_clr (xz 2 m) 5040)) [] (some (.int 1)) _ [] [] rfl (fun _ h => absurd h List.not_mem_nil) (Nat.le_refl _) (Nat.le_refl _))
set_option maxRecDepth 100000 in
set_option maxHeartbeats 4000000 in
theorem c_groupM3 {G : xm_G} {l : Launch} {m : Nat → Nat → Int32} (hm : m 33 3 = 1) (hc : m 34 192 = 0) : xm_C G l xi_M_group 60 0 0 [.ref 32, .int 3] (xh m) (fun r h' => r = some (.int 1)) := by
  have e0 : xz 3 m = m := xz_eq hm hc
  rw [← e0]
  refine xm_enter' (by decide) rfl (Nat.le_of_ble_eq_true rfl) rfl ?_
  refine xm_step rfl rfl ?_
  refine xm_callS (As := [.int 3]) (rest := []) (d' := 59) (mc' := 0) (ms' := 0) rfl (xe_call_ok (sc := []) (N := 100) (xe_nil G) 59 xi_M_isTable [.int 3] (xh (xz 3 m)) [] (some (.int 1)) _ [] [] rfl (fun _ h => absurd h List.not_mem_nil) rfl) rfl (Nat.le_refl _) (Nat.le_refl _) (Nat.le_refl _) (Nat.le_of_ble_eq_true rfl) (fun r h' hp => ?_)
  obtain ⟨rfl, rfl⟩ := hp
  refine xm_if rfl rfl (fun _ => ?_) (fun q => absurd (show ¬ (1 : Int32) = 0 by decide) q)
  refine xm_step rfl rfl ?_
  refine xm_step rfl rfl ?_
  refine xm_callV (As := [.int 3]) (rest := []) (d' := 59) (mc' := 0) (ms' := 0) (k := 32) (ci := 5) (N := 7) rfl rfl rfl (xe_call_ok (sc := []) (N := 100) (xe_nil G) 59 xi_M_isFull [.ref 32, .int 3] (xh (xz 3 m)) [] (some (.int 1)) _ [] [] rfl (fun _ h => absurd h List.not_mem_nil) rfl) rfl (Nat.le_refl _) (Nat.le_refl _) (Nat.le_refl _) (Nat.le_of_ble_eq_true rfl) (fun r h' hp => ?_)
  obtain ⟨rfl, rfl⟩ := hp
  refine xm_if rfl rfl (fun q => absurd (show (1 : Int32) = 0 from q) (by decide)) (fun _ => ?_)
  refine xm_step rfl rfl ?_
  refine xm_getR (N := 7) (r := 33) rfl rfl rfl rfl ?_
  refine xm_step rfl rfl ?_
  refine xm_iald (N := 6) rfl rfl (by unfold vp_in; decide) ?_
  refine xm_step rfl rfl ?_
  refine xm_if rfl rfl (fun _ => ?_) (fun q => absurd (show (1 : Int32) ≤ 7 by decide) q)
  refine xm_step rfl rfl ?_
  refine xm_getR (N := 7) (r := 33) rfl rfl rfl rfl ?_
  refine xm_step rfl rfl ?_
  refine xm_iald (N := 6) rfl rfl (by unfold vp_in; decide) ?_
  refine xm_step rfl rfl ?_
  refine xm_step rfl rfl ?_
  refine xm_step rfl rfl ?_
  refine c_clear (m := xz 3 m) (t := 3) ?_
  exact xm_mono (fun r h' hp => hp.1) (xe_lp_ok (sc := []) (xe_nil G) (xe_call_ok (N := 300) (xe_nil G) 59) 600 xi_M_group 60 [some (.ref 32), some (.int 3), some (.int 1), some (.int (nI 5040)), none, none, none] [] (xh (xf_clr (xz 3 m) 5040)) [] (some (.int 1)) _ [] [] rfl (fun _ h => absurd h List.not_mem_nil) (Nat.le_refl _) (Nat.le_refl _))
end
section
/-! p1: the law's cases that the evaluator doesn't run: ways with a bound of two and more, group -/
theorem xm_sldv {G : xm_G} {l : Launch} {d mc ms cs zs pc : Nat} {ls : List (Option Value)} {st : List Value} {h : xm_H} {post : Option Value → xm_H → Prop} {len a b : Nat} {i v : Int32} (ho : xm_op xi_law pc = some (pc, .iaload, len, a, b)) (hi : vp_in i G.2.2.2.2.1) (hv : G.2.2.2.2.2 i.toNatClampNeg = v) (kk : xm_X G l xi_law d mc ms cs zs (pc + 1) ls (.int v :: st) h post) : xm_X G l xi_law d mc ms cs zs pc ls (.int i :: .float 0 :: st) h post := xm_sld ho hi (hv ▸ kk)
set_option maxRecDepth 100000 in
theorem o_tail {G : xm_G} {l : Launch} {mc ms c z : Nat} {h : xm_H} (hL : G.2.2.2.2.1 = 5) (h1 : c ≤ mc) (h2 : z ≤ ms) : xm_X G l xi_law 1000 mc ms c z 911 xp_LS [] h (fun r _ => r = some (.int 1)) := by
  refine xm_step rfl rfl ?_
  refine xm_step rfl rfl ?_
  refine xm_step rfl rfl ?_
  refine xm_step rfl rfl ?_
  refine xm_slen rfl ?_
  rw [hL]
  refine xm_step rfl rfl ?_
  refine xm_step rfl rfl ?_
  refine xm_if rfl rfl (fun _ => ?_) (fun q => absurd (show (5 : Int32) - 5 < 5 by decide) q)
  refine xm_step rfl rfl ?_
  exact xm_retI rfl rfl rfl h1 h2 rfl
set_option maxRecDepth 100000 in
set_option maxHeartbeats 4000000 in
theorem c_waysL0 {G : xm_G} {l : Launch} (x2 : Int32) (h0 : 2 ≤ x2.toInt) (h1 : x2.toInt ≤ 10000) : xm_C G l xi_L_ways 60 0 0 [.ref 0, .int 0, .int x2] (xh xp_mm) (fun r h' => r = some (.int 1) ∧ ∃ m, h' = xh m ∧ m 33 0 = 1 ∧ m 34 0 = 0) := by
  have R := xe_call_ok (G := G) (l := l) (sc := []) (N := 600) (xe_nil G) 60 xi_L_ways [.ref 0, .int 0, .int x2] (xh xp_mm) [false, false, false, false, true] (some (.int 1)) _ [] [(.lt, 0, 0, false), (.ge, 0, 4, false), (.eq, 1, 0, false), (.lt, x2, 1, false), (.le, x2, 10000, true)] rfl (List.forall_mem_cons.mpr ⟨xe_hd rfl, List.forall_mem_cons.mpr ⟨xe_hd rfl, List.forall_mem_cons.mpr ⟨xe_hd rfl, List.forall_mem_cons.mpr ⟨xe_hs (a := x2.toInt) (b2 := 1) rfl (by decide) (by simp only [xe_ci]; simp only [decide_eq_false_iff_not]; omega), List.forall_mem_cons.mpr ⟨xe_hs (a := x2.toInt) (b2 := 10000) rfl (by decide) (by simp only [xe_ci]; simp only [decide_eq_true_eq]; omega), (fun _ h => absurd h List.not_mem_nil)⟩⟩⟩⟩⟩) rfl
  refine xm_eqC (fun r h' hp => ?_) R
  obtain ⟨rfl, rfl⟩ := hp
  exact ⟨rfl, _, rfl, rfl, rfl⟩
set_option maxRecDepth 100000 in
set_option maxHeartbeats 4000000 in
theorem c_groupL0 {G : xm_G} {l : Launch} : xm_C G l xi_L_group 60 0 0 [.ref 0, .int 0] (xh xp_mm) (fun r h' => r = some (.int 1) ∧ ∃ m, h' = xh m ∧ m 33 0 = 1 ∧ m 34 0 = 0) := by
  have R := xe_call_ok (G := G) (l := l) (sc := []) (N := 600) (xe_nil G) 60 xi_L_group [.ref 0, .int 0] (xh xp_mm) [] (some (.int 1)) _ [] [] rfl (fun _ h => absurd h List.not_mem_nil) rfl
  refine xm_eqC (fun r h' hp => ?_) R
  obtain ⟨rfl, rfl⟩ := hp
  exact ⟨rfl, _, rfl, rfl, rfl⟩
set_option maxRecDepth 100000 in
theorem o_waysV0 (x2 : Int32) (h0 : 2 ≤ x2.toInt) (h01 : x2.toInt ≤ 10000) : xe_P 284 [(1, 0), (2, x2)] := by
  intro G l mc ms c z hL hsc h1 h2
  have v1 : G.2.2.2.2.2 1 = 0 := (hsc 1 _ rfl).2
  have i1 : vp_in ((0 : Int32) + 1) G.2.2.2.2.1 := by rw [hL]; unfold vp_in; decide
  have v2 : G.2.2.2.2.2 2 = x2 := (hsc 2 _ rfl).2
  have i2 : vp_in ((0 : Int32) + 2) G.2.2.2.2.1 := by rw [hL]; unfold vp_in; decide
  have g1 : (1 : Int32) ≤ x2 := by rw [Int32.le_iff_toInt_le]; show (1 : Int) ≤ _; omega
  have g2 : x2 ≤ (10000 : Int32) := by rw [Int32.le_iff_toInt_le]; show _ ≤ (10000 : Int); omega
  rw [xp_eq]
  refine xm_step rfl rfl ?_
  refine xm_step rfl rfl ?_
  refine xm_step rfl rfl ?_
  refine xm_step rfl rfl ?_
  refine xm_step rfl rfl ?_
  refine xm_sldv (v := 0) rfl i1 v1 ?_
  refine xm_step rfl rfl ?_
  refine xm_step rfl rfl ?_
  refine xm_step rfl rfl ?_
  refine xm_step rfl rfl ?_
  refine xm_sldv (v := x2) rfl i2 v2 ?_
  refine xm_callV (As := [.int 0, .int x2]) (rest := []) (d' := 60) (mc' := 0) (ms' := 0) (k := 0) (ci := 4) (N := 5) rfl rfl rfl (c_waysL0 x2 h0 h01) rfl (by decide) h1 h2 (Nat.le_of_ble_eq_true rfl) (fun r h' hp => ?_)
  obtain ⟨rfl, m, rfl, hm, hc⟩ := hp
  refine xm_step rfl rfl ?_
  refine xm_step rfl rfl ?_
  refine xm_step rfl rfl ?_
  refine xm_step rfl rfl ?_
  refine xm_step rfl rfl ?_
  refine xm_sldv (v := 0) rfl i1 v1 ?_
  refine xm_step rfl rfl ?_
  refine xm_step rfl rfl ?_
  refine xm_step rfl rfl ?_
  refine xm_step rfl rfl ?_
  refine xm_sldv (v := x2) rfl i2 v2 ?_
  refine xm_callV (As := [.int (nI 0), .int x2]) (rest := [.int 1]) (d' := 62) (mc' := 0) (ms' := 0) (k := 32) (ci := 5) (N := 7) rfl rfl rfl (c_waysM1 (d := 60) (t := 0) (by decide) hm hc x2 g1 g2) rfl (by decide) h1 h2 (Nat.le_of_ble_eq_true rfl) (fun r h' hp => ?_)
  subst hp
  refine xm_if rfl rfl (fun _ => ?_) (fun q => absurd rfl q)
  exact o_tail hL h1 h2
set_option maxRecDepth 100000 in
theorem o_groupV0 : xe_P 621 [(1, 0)] := by
  intro G l mc ms c z hL hsc h1 h2
  have v1 : G.2.2.2.2.2 1 = 0 := (hsc 1 _ rfl).2
  have i1 : vp_in ((0 : Int32) + 1) G.2.2.2.2.1 := by rw [hL]; unfold vp_in; decide
  rw [xp_eq]
  refine xm_step rfl rfl ?_
  refine xm_step rfl rfl ?_
  refine xm_step rfl rfl ?_
  refine xm_step rfl rfl ?_
  refine xm_step rfl rfl ?_
  refine xm_sldv (v := 0) rfl i1 v1 ?_
  refine xm_callV (As := [.int 0]) (rest := []) (d' := 60) (mc' := 0) (ms' := 0) (k := 0) (ci := 4) (N := 5) rfl rfl rfl c_groupL0 rfl (by decide) h1 h2 (Nat.le_of_ble_eq_true rfl) (fun r h' hp => ?_)
  obtain ⟨rfl, m, rfl, hm, hc⟩ := hp
  refine xm_step rfl rfl ?_
  refine xm_step rfl rfl ?_
  refine xm_step rfl rfl ?_
  refine xm_step rfl rfl ?_
  refine xm_step rfl rfl ?_
  refine xm_sldv (v := 0) rfl i1 v1 ?_
  refine xm_callV (As := [.int 0]) (rest := [.int 1]) (d' := 60) (mc' := 0) (ms' := 0) (k := 32) (ci := 5) (N := 7) rfl rfl rfl (c_groupM0 hm hc) rfl (by decide) h1 h2 (Nat.le_of_ble_eq_true rfl) (fun r h' hp => ?_)
  subst hp
  refine xm_if rfl rfl (fun _ => ?_) (fun q => absurd rfl q)
  exact o_tail hL h1 h2
set_option maxRecDepth 100000 in
set_option maxHeartbeats 4000000 in
theorem c_waysL1 {G : xm_G} {l : Launch} (x2 : Int32) (h0 : 2 ≤ x2.toInt) (h1 : x2.toInt ≤ 10000) : xm_C G l xi_L_ways 60 0 0 [.ref 0, .int 1, .int x2] (xh xp_mm) (fun r h' => r = some (.int 1) ∧ ∃ m, h' = xh m ∧ m 33 1 = 1 ∧ m 34 64 = 0) := by
  have R := xe_call_ok (G := G) (l := l) (sc := []) (N := 600) (xe_nil G) 60 xi_L_ways [.ref 0, .int 1, .int x2] (xh xp_mm) [false, false, false, false, true] (some (.int 1)) _ [] [(.lt, 1, 0, false), (.ge, 1, 4, false), (.eq, 1, 0, false), (.lt, x2, 1, false), (.le, x2, 10000, true)] rfl (List.forall_mem_cons.mpr ⟨xe_hd rfl, List.forall_mem_cons.mpr ⟨xe_hd rfl, List.forall_mem_cons.mpr ⟨xe_hd rfl, List.forall_mem_cons.mpr ⟨xe_hs (a := x2.toInt) (b2 := 1) rfl (by decide) (by simp only [xe_ci]; simp only [decide_eq_false_iff_not]; omega), List.forall_mem_cons.mpr ⟨xe_hs (a := x2.toInt) (b2 := 10000) rfl (by decide) (by simp only [xe_ci]; simp only [decide_eq_true_eq]; omega), (fun _ h => absurd h List.not_mem_nil)⟩⟩⟩⟩⟩) rfl
  refine xm_eqC (fun r h' hp => ?_) R
  obtain ⟨rfl, rfl⟩ := hp
  exact ⟨rfl, _, rfl, rfl, rfl⟩
set_option maxRecDepth 100000 in
set_option maxHeartbeats 4000000 in
theorem c_groupL1 {G : xm_G} {l : Launch} : xm_C G l xi_L_group 60 0 0 [.ref 0, .int 1] (xh xp_mm) (fun r h' => r = some (.int 1) ∧ ∃ m, h' = xh m ∧ m 33 1 = 1 ∧ m 34 64 = 0) := by
  have R := xe_call_ok (G := G) (l := l) (sc := []) (N := 600) (xe_nil G) 60 xi_L_group [.ref 0, .int 1] (xh xp_mm) [] (some (.int 1)) _ [] [] rfl (fun _ h => absurd h List.not_mem_nil) rfl
  refine xm_eqC (fun r h' hp => ?_) R
  obtain ⟨rfl, rfl⟩ := hp
  exact ⟨rfl, _, rfl, rfl, rfl⟩
set_option maxRecDepth 100000 in
theorem o_waysV1 (x2 : Int32) (h0 : 2 ≤ x2.toInt) (h01 : x2.toInt ≤ 10000) : xe_P 284 [(1, 1), (2, x2)] := by
  intro G l mc ms c z hL hsc h1 h2
  have v1 : G.2.2.2.2.2 1 = 1 := (hsc 1 _ rfl).2
  have i1 : vp_in ((0 : Int32) + 1) G.2.2.2.2.1 := by rw [hL]; unfold vp_in; decide
  have v2 : G.2.2.2.2.2 2 = x2 := (hsc 2 _ rfl).2
  have i2 : vp_in ((0 : Int32) + 2) G.2.2.2.2.1 := by rw [hL]; unfold vp_in; decide
  have g1 : (1 : Int32) ≤ x2 := by rw [Int32.le_iff_toInt_le]; show (1 : Int) ≤ _; omega
  have g2 : x2 ≤ (10000 : Int32) := by rw [Int32.le_iff_toInt_le]; show _ ≤ (10000 : Int); omega
  rw [xp_eq]
  refine xm_step rfl rfl ?_
  refine xm_step rfl rfl ?_
  refine xm_step rfl rfl ?_
  refine xm_step rfl rfl ?_
  refine xm_step rfl rfl ?_
  refine xm_sldv (v := 1) rfl i1 v1 ?_
  refine xm_step rfl rfl ?_
  refine xm_step rfl rfl ?_
  refine xm_step rfl rfl ?_
  refine xm_step rfl rfl ?_
  refine xm_sldv (v := x2) rfl i2 v2 ?_
  refine xm_callV (As := [.int 1, .int x2]) (rest := []) (d' := 60) (mc' := 0) (ms' := 0) (k := 0) (ci := 4) (N := 5) rfl rfl rfl (c_waysL1 x2 h0 h01) rfl (by decide) h1 h2 (Nat.le_of_ble_eq_true rfl) (fun r h' hp => ?_)
  obtain ⟨rfl, m, rfl, hm, hc⟩ := hp
  refine xm_step rfl rfl ?_
  refine xm_step rfl rfl ?_
  refine xm_step rfl rfl ?_
  refine xm_step rfl rfl ?_
  refine xm_step rfl rfl ?_
  refine xm_sldv (v := 1) rfl i1 v1 ?_
  refine xm_step rfl rfl ?_
  refine xm_step rfl rfl ?_
  refine xm_step rfl rfl ?_
  refine xm_step rfl rfl ?_
  refine xm_sldv (v := x2) rfl i2 v2 ?_
  refine xm_callV (As := [.int (nI 1), .int x2]) (rest := [.int 1]) (d' := 62) (mc' := 0) (ms' := 0) (k := 32) (ci := 5) (N := 7) rfl rfl rfl (c_waysM1 (d := 60) (t := 1) (by decide) hm hc x2 g1 g2) rfl (by decide) h1 h2 (Nat.le_of_ble_eq_true rfl) (fun r h' hp => ?_)
  subst hp
  refine xm_if rfl rfl (fun _ => ?_) (fun q => absurd rfl q)
  exact o_tail hL h1 h2
set_option maxRecDepth 100000 in
theorem o_groupV1 : xe_P 621 [(1, 1)] := by
  intro G l mc ms c z hL hsc h1 h2
  have v1 : G.2.2.2.2.2 1 = 1 := (hsc 1 _ rfl).2
  have i1 : vp_in ((0 : Int32) + 1) G.2.2.2.2.1 := by rw [hL]; unfold vp_in; decide
  rw [xp_eq]
  refine xm_step rfl rfl ?_
  refine xm_step rfl rfl ?_
  refine xm_step rfl rfl ?_
  refine xm_step rfl rfl ?_
  refine xm_step rfl rfl ?_
  refine xm_sldv (v := 1) rfl i1 v1 ?_
  refine xm_callV (As := [.int 1]) (rest := []) (d' := 60) (mc' := 0) (ms' := 0) (k := 0) (ci := 4) (N := 5) rfl rfl rfl c_groupL1 rfl (by decide) h1 h2 (Nat.le_of_ble_eq_true rfl) (fun r h' hp => ?_)
  obtain ⟨rfl, m, rfl, hm, hc⟩ := hp
  refine xm_step rfl rfl ?_
  refine xm_step rfl rfl ?_
  refine xm_step rfl rfl ?_
  refine xm_step rfl rfl ?_
  refine xm_step rfl rfl ?_
  refine xm_sldv (v := 1) rfl i1 v1 ?_
  refine xm_callV (As := [.int 1]) (rest := [.int 1]) (d' := 60) (mc' := 0) (ms' := 0) (k := 32) (ci := 5) (N := 7) rfl rfl rfl (c_groupM1 hm hc) rfl (by decide) h1 h2 (Nat.le_of_ble_eq_true rfl) (fun r h' hp => ?_)
  subst hp
  refine xm_if rfl rfl (fun _ => ?_) (fun q => absurd rfl q)
  exact o_tail hL h1 h2
set_option maxRecDepth 100000 in
set_option maxHeartbeats 4000000 in
theorem c_waysL2 {G : xm_G} {l : Launch} (x2 : Int32) (h0 : 2 ≤ x2.toInt) (h1 : x2.toInt ≤ 10000) : xm_C G l xi_L_ways 60 0 0 [.ref 0, .int 2, .int x2] (xh xp_mm) (fun r h' => r = some (.int 1) ∧ ∃ m, h' = xh m ∧ m 33 2 = 1 ∧ m 34 128 = 0) := by
  have R := xe_call_ok (G := G) (l := l) (sc := []) (N := 600) (xe_nil G) 60 xi_L_ways [.ref 0, .int 2, .int x2] (xh xp_mm) [false, false, false, false, true] (some (.int 1)) _ [] [(.lt, 2, 0, false), (.ge, 2, 4, false), (.eq, 1, 0, false), (.lt, x2, 1, false), (.le, x2, 10000, true)] rfl (List.forall_mem_cons.mpr ⟨xe_hd rfl, List.forall_mem_cons.mpr ⟨xe_hd rfl, List.forall_mem_cons.mpr ⟨xe_hd rfl, List.forall_mem_cons.mpr ⟨xe_hs (a := x2.toInt) (b2 := 1) rfl (by decide) (by simp only [xe_ci]; simp only [decide_eq_false_iff_not]; omega), List.forall_mem_cons.mpr ⟨xe_hs (a := x2.toInt) (b2 := 10000) rfl (by decide) (by simp only [xe_ci]; simp only [decide_eq_true_eq]; omega), (fun _ h => absurd h List.not_mem_nil)⟩⟩⟩⟩⟩) rfl
  refine xm_eqC (fun r h' hp => ?_) R
  obtain ⟨rfl, rfl⟩ := hp
  exact ⟨rfl, _, rfl, rfl, rfl⟩
set_option maxRecDepth 100000 in
set_option maxHeartbeats 4000000 in
theorem c_groupL2 {G : xm_G} {l : Launch} : xm_C G l xi_L_group 60 0 0 [.ref 0, .int 2] (xh xp_mm) (fun r h' => r = some (.int 1) ∧ ∃ m, h' = xh m ∧ m 33 2 = 1 ∧ m 34 128 = 0) := by
  have R := xe_call_ok (G := G) (l := l) (sc := []) (N := 600) (xe_nil G) 60 xi_L_group [.ref 0, .int 2] (xh xp_mm) [] (some (.int 1)) _ [] [] rfl (fun _ h => absurd h List.not_mem_nil) rfl
  refine xm_eqC (fun r h' hp => ?_) R
  obtain ⟨rfl, rfl⟩ := hp
  exact ⟨rfl, _, rfl, rfl, rfl⟩
set_option maxRecDepth 100000 in
theorem o_waysV2 (x2 : Int32) (h0 : 2 ≤ x2.toInt) (h01 : x2.toInt ≤ 10000) : xe_P 284 [(1, 2), (2, x2)] := by
  intro G l mc ms c z hL hsc h1 h2
  have v1 : G.2.2.2.2.2 1 = 2 := (hsc 1 _ rfl).2
  have i1 : vp_in ((0 : Int32) + 1) G.2.2.2.2.1 := by rw [hL]; unfold vp_in; decide
  have v2 : G.2.2.2.2.2 2 = x2 := (hsc 2 _ rfl).2
  have i2 : vp_in ((0 : Int32) + 2) G.2.2.2.2.1 := by rw [hL]; unfold vp_in; decide
  have g1 : (1 : Int32) ≤ x2 := by rw [Int32.le_iff_toInt_le]; show (1 : Int) ≤ _; omega
  have g2 : x2 ≤ (10000 : Int32) := by rw [Int32.le_iff_toInt_le]; show _ ≤ (10000 : Int); omega
  rw [xp_eq]
  refine xm_step rfl rfl ?_
  refine xm_step rfl rfl ?_
  refine xm_step rfl rfl ?_
  refine xm_step rfl rfl ?_
  refine xm_step rfl rfl ?_
  refine xm_sldv (v := 2) rfl i1 v1 ?_
  refine xm_step rfl rfl ?_
  refine xm_step rfl rfl ?_
  refine xm_step rfl rfl ?_
  refine xm_step rfl rfl ?_
  refine xm_sldv (v := x2) rfl i2 v2 ?_
  refine xm_callV (As := [.int 2, .int x2]) (rest := []) (d' := 60) (mc' := 0) (ms' := 0) (k := 0) (ci := 4) (N := 5) rfl rfl rfl (c_waysL2 x2 h0 h01) rfl (by decide) h1 h2 (Nat.le_of_ble_eq_true rfl) (fun r h' hp => ?_)
  obtain ⟨rfl, m, rfl, hm, hc⟩ := hp
  refine xm_step rfl rfl ?_
  refine xm_step rfl rfl ?_
  refine xm_step rfl rfl ?_
  refine xm_step rfl rfl ?_
  refine xm_step rfl rfl ?_
  refine xm_sldv (v := 2) rfl i1 v1 ?_
  refine xm_step rfl rfl ?_
  refine xm_step rfl rfl ?_
  refine xm_step rfl rfl ?_
  refine xm_step rfl rfl ?_
  refine xm_sldv (v := x2) rfl i2 v2 ?_
  refine xm_callV (As := [.int (nI 2), .int x2]) (rest := [.int 1]) (d' := 62) (mc' := 0) (ms' := 0) (k := 32) (ci := 5) (N := 7) rfl rfl rfl (c_waysM1 (d := 60) (t := 2) (by decide) hm hc x2 g1 g2) rfl (by decide) h1 h2 (Nat.le_of_ble_eq_true rfl) (fun r h' hp => ?_)
  subst hp
  refine xm_if rfl rfl (fun _ => ?_) (fun q => absurd rfl q)
  exact o_tail hL h1 h2
set_option maxRecDepth 100000 in
theorem o_groupV2 : xe_P 621 [(1, 2)] := by
  intro G l mc ms c z hL hsc h1 h2
  have v1 : G.2.2.2.2.2 1 = 2 := (hsc 1 _ rfl).2
  have i1 : vp_in ((0 : Int32) + 1) G.2.2.2.2.1 := by rw [hL]; unfold vp_in; decide
  rw [xp_eq]
  refine xm_step rfl rfl ?_
  refine xm_step rfl rfl ?_
  refine xm_step rfl rfl ?_
  refine xm_step rfl rfl ?_
  refine xm_step rfl rfl ?_
  refine xm_sldv (v := 2) rfl i1 v1 ?_
  refine xm_callV (As := [.int 2]) (rest := []) (d' := 60) (mc' := 0) (ms' := 0) (k := 0) (ci := 4) (N := 5) rfl rfl rfl c_groupL2 rfl (by decide) h1 h2 (Nat.le_of_ble_eq_true rfl) (fun r h' hp => ?_)
  obtain ⟨rfl, m, rfl, hm, hc⟩ := hp
  refine xm_step rfl rfl ?_
  refine xm_step rfl rfl ?_
  refine xm_step rfl rfl ?_
  refine xm_step rfl rfl ?_
  refine xm_step rfl rfl ?_
  refine xm_sldv (v := 2) rfl i1 v1 ?_
  refine xm_callV (As := [.int 2]) (rest := [.int 1]) (d' := 60) (mc' := 0) (ms' := 0) (k := 32) (ci := 5) (N := 7) rfl rfl rfl (c_groupM2 hm hc) rfl (by decide) h1 h2 (Nat.le_of_ble_eq_true rfl) (fun r h' hp => ?_)
  subst hp
  refine xm_if rfl rfl (fun _ => ?_) (fun q => absurd rfl q)
  exact o_tail hL h1 h2
set_option maxRecDepth 100000 in
set_option maxHeartbeats 4000000 in
theorem c_waysL3 {G : xm_G} {l : Launch} (x2 : Int32) (h0 : 2 ≤ x2.toInt) (h1 : x2.toInt ≤ 10000) : xm_C G l xi_L_ways 60 0 0 [.ref 0, .int 3, .int x2] (xh xp_mm) (fun r h' => r = some (.int 1) ∧ ∃ m, h' = xh m ∧ m 33 3 = 1 ∧ m 34 192 = 0) := by
  have R := xe_call_ok (G := G) (l := l) (sc := []) (N := 600) (xe_nil G) 60 xi_L_ways [.ref 0, .int 3, .int x2] (xh xp_mm) [false, false, false, false, true] (some (.int 1)) _ [] [(.lt, 3, 0, false), (.ge, 3, 4, false), (.eq, 1, 0, false), (.lt, x2, 1, false), (.le, x2, 10000, true)] rfl (List.forall_mem_cons.mpr ⟨xe_hd rfl, List.forall_mem_cons.mpr ⟨xe_hd rfl, List.forall_mem_cons.mpr ⟨xe_hd rfl, List.forall_mem_cons.mpr ⟨xe_hs (a := x2.toInt) (b2 := 1) rfl (by decide) (by simp only [xe_ci]; simp only [decide_eq_false_iff_not]; omega), List.forall_mem_cons.mpr ⟨xe_hs (a := x2.toInt) (b2 := 10000) rfl (by decide) (by simp only [xe_ci]; simp only [decide_eq_true_eq]; omega), (fun _ h => absurd h List.not_mem_nil)⟩⟩⟩⟩⟩) rfl
  refine xm_eqC (fun r h' hp => ?_) R
  obtain ⟨rfl, rfl⟩ := hp
  exact ⟨rfl, _, rfl, rfl, rfl⟩
set_option maxRecDepth 100000 in
set_option maxHeartbeats 4000000 in
theorem c_groupL3 {G : xm_G} {l : Launch} : xm_C G l xi_L_group 60 0 0 [.ref 0, .int 3] (xh xp_mm) (fun r h' => r = some (.int 1) ∧ ∃ m, h' = xh m ∧ m 33 3 = 1 ∧ m 34 192 = 0) := by
  have R := xe_call_ok (G := G) (l := l) (sc := []) (N := 600) (xe_nil G) 60 xi_L_group [.ref 0, .int 3] (xh xp_mm) [] (some (.int 1)) _ [] [] rfl (fun _ h => absurd h List.not_mem_nil) rfl
  refine xm_eqC (fun r h' hp => ?_) R
  obtain ⟨rfl, rfl⟩ := hp
  exact ⟨rfl, _, rfl, rfl, rfl⟩
set_option maxRecDepth 100000 in
theorem o_waysV3 (x2 : Int32) (h0 : 2 ≤ x2.toInt) (h01 : x2.toInt ≤ 10000) : xe_P 284 [(1, 3), (2, x2)] := by
  intro G l mc ms c z hL hsc h1 h2
  have v1 : G.2.2.2.2.2 1 = 3 := (hsc 1 _ rfl).2
  have i1 : vp_in ((0 : Int32) + 1) G.2.2.2.2.1 := by rw [hL]; unfold vp_in; decide
  have v2 : G.2.2.2.2.2 2 = x2 := (hsc 2 _ rfl).2
  have i2 : vp_in ((0 : Int32) + 2) G.2.2.2.2.1 := by rw [hL]; unfold vp_in; decide
  have g1 : (1 : Int32) ≤ x2 := by rw [Int32.le_iff_toInt_le]; show (1 : Int) ≤ _; omega
  have g2 : x2 ≤ (10000 : Int32) := by rw [Int32.le_iff_toInt_le]; show _ ≤ (10000 : Int); omega
  rw [xp_eq]
  refine xm_step rfl rfl ?_
  refine xm_step rfl rfl ?_
  refine xm_step rfl rfl ?_
  refine xm_step rfl rfl ?_
  refine xm_step rfl rfl ?_
  refine xm_sldv (v := 3) rfl i1 v1 ?_
  refine xm_step rfl rfl ?_
  refine xm_step rfl rfl ?_
  refine xm_step rfl rfl ?_
  refine xm_step rfl rfl ?_
  refine xm_sldv (v := x2) rfl i2 v2 ?_
  refine xm_callV (As := [.int 3, .int x2]) (rest := []) (d' := 60) (mc' := 0) (ms' := 0) (k := 0) (ci := 4) (N := 5) rfl rfl rfl (c_waysL3 x2 h0 h01) rfl (by decide) h1 h2 (Nat.le_of_ble_eq_true rfl) (fun r h' hp => ?_)
  obtain ⟨rfl, m, rfl, hm, hc⟩ := hp
  refine xm_step rfl rfl ?_
  refine xm_step rfl rfl ?_
  refine xm_step rfl rfl ?_
  refine xm_step rfl rfl ?_
  refine xm_step rfl rfl ?_
  refine xm_sldv (v := 3) rfl i1 v1 ?_
  refine xm_step rfl rfl ?_
  refine xm_step rfl rfl ?_
  refine xm_step rfl rfl ?_
  refine xm_step rfl rfl ?_
  refine xm_sldv (v := x2) rfl i2 v2 ?_
  refine xm_callV (As := [.int (nI 3), .int x2]) (rest := [.int 1]) (d' := 62) (mc' := 0) (ms' := 0) (k := 32) (ci := 5) (N := 7) rfl rfl rfl (c_waysM1 (d := 60) (t := 3) (by decide) hm hc x2 g1 g2) rfl (by decide) h1 h2 (Nat.le_of_ble_eq_true rfl) (fun r h' hp => ?_)
  subst hp
  refine xm_if rfl rfl (fun _ => ?_) (fun q => absurd rfl q)
  exact o_tail hL h1 h2
set_option maxRecDepth 100000 in
theorem o_groupV3 : xe_P 621 [(1, 3)] := by
  intro G l mc ms c z hL hsc h1 h2
  have v1 : G.2.2.2.2.2 1 = 3 := (hsc 1 _ rfl).2
  have i1 : vp_in ((0 : Int32) + 1) G.2.2.2.2.1 := by rw [hL]; unfold vp_in; decide
  rw [xp_eq]
  refine xm_step rfl rfl ?_
  refine xm_step rfl rfl ?_
  refine xm_step rfl rfl ?_
  refine xm_step rfl rfl ?_
  refine xm_step rfl rfl ?_
  refine xm_sldv (v := 3) rfl i1 v1 ?_
  refine xm_callV (As := [.int 3]) (rest := []) (d' := 60) (mc' := 0) (ms' := 0) (k := 0) (ci := 4) (N := 5) rfl rfl rfl c_groupL3 rfl (by decide) h1 h2 (Nat.le_of_ble_eq_true rfl) (fun r h' hp => ?_)
  obtain ⟨rfl, m, rfl, hm, hc⟩ := hp
  refine xm_step rfl rfl ?_
  refine xm_step rfl rfl ?_
  refine xm_step rfl rfl ?_
  refine xm_step rfl rfl ?_
  refine xm_step rfl rfl ?_
  refine xm_sldv (v := 3) rfl i1 v1 ?_
  refine xm_callV (As := [.int 3]) (rest := [.int 1]) (d' := 60) (mc' := 0) (ms' := 0) (k := 32) (ci := 5) (N := 7) rfl rfl rfl (c_groupM3 hm hc) rfl (by decide) h1 h2 (Nat.le_of_ble_eq_true rfl) (fun r h' hp => ?_)
  subst hp
  refine xm_if rfl rfl (fun _ => ?_) (fun q => absurd rfl q)
  exact o_tail hL h1 h2
end
section
/-! p1: the cases of the law, put together -/
def xe_hq (o : Option xe_R) : xm_H := match o with
  | some r => r.2.1
  | none => xm_H0
def xe_ck (N d a : Nat) (as : List Value) (h : xm_H) (v : Int32) : Bool := match xe_call [] N d a as h [] with
  | some (some (.int w), _, _, []) => decide (w = v)
  | _ => false
theorem xe_callD {G : xm_G} {l : Launch} {N d a : Nat} {as : List Value} {h : xm_H} {v : Int32} (hk : xe_ck N d a as h v = true) (ha : xe_arg a as = true) : xm_C G l a d 0 0 as h (fun r h' => r = some (.int v) ∧ h' = xe_hq (xe_call [] N d a as h [])) := by
  unfold xe_ck at hk
  split at hk
  · rename_i w h1 d1 hc
    have e : w = v := by simpa using hk
    subst e
    rw [hc]
    exact xe_call_ok (xe_nil G) d a as h [] _ h1 d1 [] hc (fun _ h => absurd h List.not_mem_nil) ha
  · cases hk
def xa_h (s t : Nat) : xm_H := xe_hq (xe_call [] 3000 60 xi_L_alike [.ref 0, .int (nI s), .int (nI t), .int 1] (xh xp_mm) [])
set_option maxRecDepth 100000 in
theorem v_al1_0 : ∀ t, t < 4 → xe_ck 3000 60 xi_L_alike [.ref 0, .int (nI 0), .int (nI t), .int 1] (xh xp_mm) 1 = true := by decide +kernel
set_option maxRecDepth 100000 in
theorem v_al2_0 : ∀ t, t < 4 → xe_ck 3000 60 xi_M_alike [.ref 32, .int (nI 0), .int (nI t), .int 1] (xa_h 0 t) 1 = true := by decide +kernel
set_option maxRecDepth 100000 in
theorem v_al3_0 : ∀ t, t < 4 → ((xa_h 0 t).1[32]? == some (8, 7)) = true := by decide +kernel
set_option maxRecDepth 100000 in
theorem v_al1_1 : ∀ t, t < 4 → xe_ck 3000 60 xi_L_alike [.ref 0, .int (nI 1), .int (nI t), .int 1] (xh xp_mm) 1 = true := by decide +kernel
set_option maxRecDepth 100000 in
theorem v_al2_1 : ∀ t, t < 4 → xe_ck 3000 60 xi_M_alike [.ref 32, .int (nI 1), .int (nI t), .int 1] (xa_h 1 t) 1 = true := by decide +kernel
set_option maxRecDepth 100000 in
theorem v_al3_1 : ∀ t, t < 4 → ((xa_h 1 t).1[32]? == some (8, 7)) = true := by decide +kernel
set_option maxRecDepth 100000 in
theorem v_al1_2 : ∀ t, t < 4 → xe_ck 3000 60 xi_L_alike [.ref 0, .int (nI 2), .int (nI t), .int 1] (xh xp_mm) 1 = true := by decide +kernel
set_option maxRecDepth 100000 in
theorem v_al2_2 : ∀ t, t < 4 → xe_ck 3000 60 xi_M_alike [.ref 32, .int (nI 2), .int (nI t), .int 1] (xa_h 2 t) 1 = true := by decide +kernel
set_option maxRecDepth 100000 in
theorem v_al3_2 : ∀ t, t < 4 → ((xa_h 2 t).1[32]? == some (8, 7)) = true := by decide +kernel
set_option maxRecDepth 100000 in
theorem v_al1_3 : ∀ t, t < 4 → xe_ck 3000 60 xi_L_alike [.ref 0, .int (nI 3), .int (nI t), .int 1] (xh xp_mm) 1 = true := by decide +kernel
set_option maxRecDepth 100000 in
theorem v_al2_3 : ∀ t, t < 4 → xe_ck 3000 60 xi_M_alike [.ref 32, .int (nI 3), .int (nI t), .int 1] (xa_h 3 t) 1 = true := by decide +kernel
set_option maxRecDepth 100000 in
theorem v_al3_3 : ∀ t, t < 4 → ((xa_h 3 t).1[32]? == some (8, 7)) = true := by decide +kernel
set_option maxRecDepth 100000 in
theorem o_alikeV {s t : Nat} (hs : s < 4) (ht : t < 4) (a1 : xe_ck 3000 60 xi_L_alike [.ref 0, .int (nI s), .int (nI t), .int 1] (xh xp_mm) 1 = true) (a2 : xe_ck 3000 60 xi_M_alike [.ref 32, .int (nI s), .int (nI t), .int 1] (xa_h s t) 1 = true) (a3 : ((xa_h s t).1[32]? == some (8, 7)) = true) (x3 : Int32) (h3 : x3.toInt ≠ 0) : xe_P 644 [(1, nI s), (2, nI t), (3, x3)] := by
  intro G l mc ms c z hL hsc h1 h2
  have v1 : G.2.2.2.2.2 1 = nI s := (hsc 1 _ rfl).2
  have v2 : G.2.2.2.2.2 2 = nI t := (hsc 2 _ rfl).2
  have v3 : G.2.2.2.2.2 3 = x3 := (hsc 3 _ rfl).2
  have i1 : vp_in ((0 : Int32) + 1) G.2.2.2.2.1 := by rw [hL]; unfold vp_in; decide
  have i2 : vp_in ((0 : Int32) + 2) G.2.2.2.2.1 := by rw [hL]; unfold vp_in; decide
  have i3 : vp_in ((0 : Int32) + 3) G.2.2.2.2.1 := by rw [hL]; unfold vp_in; decide
  have n3 : ¬ x3 = 0 := fun q => h3 (by rw [q]; rfl)
  have a3' : (xa_h s t).1[32]? = some (5 + 3, 7) := by simpa using a3
  rw [xp_eq]
  refine xm_step rfl rfl ?_
  refine xm_step rfl rfl ?_
  refine xm_step rfl rfl ?_
  refine xm_step rfl rfl ?_
  refine xm_step rfl rfl ?_
  refine xm_sldv (v := nI s) rfl i1 v1 ?_
  refine xm_step rfl rfl ?_
  refine xm_step rfl rfl ?_
  refine xm_step rfl rfl ?_
  refine xm_step rfl rfl ?_
  refine xm_sldv (v := nI t) rfl i2 v2 ?_
  refine xm_step rfl rfl ?_
  refine xm_step rfl rfl ?_
  refine xm_step rfl rfl ?_
  refine xm_step rfl rfl ?_
  refine xm_sldv (v := x3) rfl i3 v3 ?_
  refine xm_if rfl rfl (fun q => absurd q n3) (fun _ => ?_)
  refine xm_step rfl rfl ?_
  refine xm_step rfl rfl ?_
  refine xm_callV (As := [.int (nI s), .int (nI t), .int 1]) (rest := []) (d' := 60) (mc' := 0) (ms' := 0) (k := 0) (ci := 4) (N := 5) rfl rfl rfl (xe_callD a1 rfl) rfl (by decide) h1 h2 (Nat.le_of_ble_eq_true rfl) (fun r h' hp => ?_)
  obtain ⟨rfl, rfl⟩ := hp
  refine xm_step rfl rfl ?_
  refine xm_step rfl rfl ?_
  refine xm_step rfl rfl ?_
  refine xm_step rfl rfl ?_
  refine xm_step rfl rfl ?_
  refine xm_sldv (v := nI s) rfl i1 v1 ?_
  refine xm_step rfl rfl ?_
  refine xm_step rfl rfl ?_
  refine xm_step rfl rfl ?_
  refine xm_step rfl rfl ?_
  refine xm_sldv (v := nI t) rfl i2 v2 ?_
  refine xm_step rfl rfl ?_
  refine xm_step rfl rfl ?_
  refine xm_step rfl rfl ?_
  refine xm_step rfl rfl ?_
  refine xm_sldv (v := x3) rfl i3 v3 ?_
  refine xm_if rfl rfl (fun q => absurd q n3) (fun _ => ?_)
  refine xm_step rfl rfl ?_
  refine xm_step rfl rfl ?_
  refine xm_callV (As := [.int (nI s), .int (nI t), .int 1]) (rest := [.int 1]) (d' := 60) (mc' := 0) (ms' := 0) (k := 32) (ci := 5) (N := 7) rfl a3' rfl (xe_callD a2 rfl) rfl (by decide) h1 h2 (Nat.le_of_ble_eq_true rfl) (fun r h' hp => ?_)
  obtain ⟨rfl, rfl⟩ := hp
  refine xm_if rfl rfl (fun _ => ?_) (fun q => absurd rfl q)
  exact o_tail hL h1 h2
theorem xo_b {t : Nat} {x : Int32} (ht : t < 4) (h : x = nI t) : 0 ≤ x.toInt ∧ x.toInt < 4 := by
  rw [h, nI_toInt (by omega)]; omega
theorem xo_c (x : Int32) (n : Nat) (hn : n < 2 ^ 31) {k : Nat} (hk : k < n) (h : x = nI k) : 0 ≤ x.toInt ∧ x.toInt < n := by
  rw [h, nI_toInt (by omega)]; omega
theorem o_table (x1 x2 : Int32) : xe_P 132 [(1, x1), (2, x2)] := by
  rcases xp_rn 4 (by decide) x1 with h | h | ⟨t, ht, e1⟩
  · exact i_table_0 x1 x2 h
  · exact i_table_1 x1 x2 h
  · obtain ⟨b1, b2⟩ := xo_b ht e1
    by_cases g1 : x2.toInt < 1
    · exact i_table_2 x1 x2 b1 b2 g1
    · by_cases g2 : 9 ≤ x2.toInt
      · exact i_table_3 x1 x2 b1 b2 g2
      · rcases xp_rn 9 (by decide) x2 with h | h | ⟨n, hn, e2⟩
        · omega
        · omega
        · have hn1 : ¬ n = 0 := fun q => g1 (by rw [e2, q]; decide)
          subst e1 e2
          match t, ht, n, hn, hn1 with
          | 0, _, 1, _, _ => exact xe_val v_table_0_1
          | 0, _, 2, _, _ => exact xe_val v_table_0_2
          | 0, _, 3, _, _ => exact xe_val v_table_0_3
          | 0, _, 4, _, _ => exact xe_val v_table_0_4
          | 0, _, 5, _, _ => exact xe_val v_table_0_5
          | 0, _, 6, _, _ => exact xe_val v_table_0_6
          | 0, _, 7, _, _ => exact xe_val v_table_0_7
          | 0, _, 8, _, _ => exact xe_val v_table_0_8
          | 1, _, 1, _, _ => exact xe_val v_table_1_1
          | 1, _, 2, _, _ => exact xe_val v_table_1_2
          | 1, _, 3, _, _ => exact xe_val v_table_1_3
          | 1, _, 4, _, _ => exact xe_val v_table_1_4
          | 1, _, 5, _, _ => exact xe_val v_table_1_5
          | 1, _, 6, _, _ => exact xe_val v_table_1_6
          | 1, _, 7, _, _ => exact xe_val v_table_1_7
          | 1, _, 8, _, _ => exact xe_val v_table_1_8
          | 2, _, 1, _, _ => exact xe_val v_table_2_1
          | 2, _, 2, _, _ => exact xe_val v_table_2_2
          | 2, _, 3, _, _ => exact xe_val v_table_2_3
          | 2, _, 4, _, _ => exact xe_val v_table_2_4
          | 2, _, 5, _, _ => exact xe_val v_table_2_5
          | 2, _, 6, _, _ => exact xe_val v_table_2_6
          | 2, _, 7, _, _ => exact xe_val v_table_2_7
          | 2, _, 8, _, _ => exact xe_val v_table_2_8
          | 3, _, 1, _, _ => exact xe_val v_table_3_1
          | 3, _, 2, _, _ => exact xe_val v_table_3_2
          | 3, _, 3, _, _ => exact xe_val v_table_3_3
          | 3, _, 4, _, _ => exact xe_val v_table_3_4
          | 3, _, 5, _, _ => exact xe_val v_table_3_5
          | 3, _, 6, _, _ => exact xe_val v_table_3_6
          | 3, _, 7, _, _ => exact xe_val v_table_3_7
          | 3, _, 8, _, _ => exact xe_val v_table_3_8
          | _, _, 0, _, h => exact absurd rfl h
          | t + 4, h, _, _, _ => exact absurd h (by omega)
          | _, _, n + 9, h, _ => exact absurd h (by omega)
theorem o_set (x1 x2 x3 x4 : Int32) : xe_P 165 [(1, x1), (2, x2), (3, x3), (4, x4)] := by
  rcases xp_rn 4 (by decide) x1 with h | h | ⟨t, ht, e1⟩
  · exact i_set_0 x1 x2 x3 x4 h
  · exact i_set_1 x1 x2 x3 x4 h
  · subst e1
    match t, ht with
    | 0, _ =>
      by_cases g2 : x2.toInt = 0
      · have e2 : x2 = 0 := Int32.toInt_inj.mp g2
        subst e2
        exact i_set_2 x3 x4
      · by_cases g3 : x3.toInt = 0
        · have e3 : x3 = 0 := Int32.toInt_inj.mp g3
          subst e3
          by_cases g4 : x2.toInt < 0
          · exact i_set_3 x2 x4 g4
          · exact i_set_4 x2 x4 (by omega)
        · by_cases g4 : x2.toInt < 0
          · exact i_set_5 x2 x3 x4 g4 g3
          · exact i_set_6 x2 x3 x4 (by omega) g3
    | 1, _ =>
      by_cases g2 : x2.toInt = 0
      · have e2 : x2 = 0 := Int32.toInt_inj.mp g2
        subst e2
        exact i_set_7 x3 x4
      · by_cases g3 : x3.toInt = 0
        · have e3 : x3 = 0 := Int32.toInt_inj.mp g3
          subst e3
          by_cases g4 : x2.toInt < 0
          · exact i_set_8 x2 x4 g4
          · exact i_set_9 x2 x4 (by omega)
        · by_cases g4 : x2.toInt < 0
          · exact i_set_10 x2 x3 x4 g4 g3
          · exact i_set_11 x2 x3 x4 (by omega) g3
    | 2, _ =>
      by_cases g2 : x2.toInt = 0
      · have e2 : x2 = 0 := Int32.toInt_inj.mp g2
        subst e2
        exact i_set_12 x3 x4
      · by_cases g3 : x3.toInt = 0
        · have e3 : x3 = 0 := Int32.toInt_inj.mp g3
          subst e3
          by_cases g4 : x2.toInt < 0
          · exact i_set_13 x2 x4 g4
          · exact i_set_14 x2 x4 (by omega)
        · by_cases g4 : x2.toInt < 0
          · exact i_set_15 x2 x3 x4 g4 g3
          · exact i_set_16 x2 x3 x4 (by omega) g3
    | 3, _ =>
      by_cases g2 : x2.toInt = 0
      · have e2 : x2 = 0 := Int32.toInt_inj.mp g2
        subst e2
        exact i_set_17 x3 x4
      · by_cases g3 : x3.toInt = 0
        · have e3 : x3 = 0 := Int32.toInt_inj.mp g3
          subst e3
          by_cases g4 : x2.toInt < 0
          · exact i_set_18 x2 x4 g4
          · exact i_set_19 x2 x4 (by omega)
        · by_cases g4 : x2.toInt < 0
          · exact i_set_20 x2 x3 x4 g4 g3
          · exact i_set_21 x2 x3 x4 (by omega) g3
    | t + 4, h => exact absurd h (by omega)
theorem o_at (x1 x2 x3 : Int32) : xe_P 218 [(1, x1), (2, x2), (3, x3)] := by
  rcases xp_rn 4 (by decide) x1 with h | h | ⟨t, ht, e1⟩
  · exact i_at_0 x1 x2 x3 h
  · exact i_at_1 x1 x2 x3 h
  · subst e1
    match t, ht with
    | 0, _ =>
      by_cases g2 : x2.toInt < 0
      · exact i_at_2 x2 x3 g2
      · by_cases g3 : 1 ≤ x2.toInt
        · exact i_at_3 x2 x3 g3
        · have e2 : x2 = 0 := Int32.toInt_inj.mp (by show x2.toInt = 0; omega)
          subst e2
          by_cases g4 : x3.toInt < 0
          · exact i_at_4 x3 g4
          · by_cases g5 : 1 ≤ x3.toInt
            · exact i_at_5 x3 g5
            · have e3 : x3 = 0 := Int32.toInt_inj.mp (by show x3.toInt = 0; omega)
              subst e3
              exact xe_val (v_at 0 (by decide))
    | 1, _ =>
      by_cases g2 : x2.toInt < 0
      · exact i_at_6 x2 x3 g2
      · by_cases g3 : 1 ≤ x2.toInt
        · exact i_at_7 x2 x3 g3
        · have e2 : x2 = 0 := Int32.toInt_inj.mp (by show x2.toInt = 0; omega)
          subst e2
          by_cases g4 : x3.toInt < 0
          · exact i_at_8 x3 g4
          · by_cases g5 : 1 ≤ x3.toInt
            · exact i_at_9 x3 g5
            · have e3 : x3 = 0 := Int32.toInt_inj.mp (by show x3.toInt = 0; omega)
              subst e3
              exact xe_val (v_at 1 (by decide))
    | 2, _ =>
      by_cases g2 : x2.toInt < 0
      · exact i_at_10 x2 x3 g2
      · by_cases g3 : 1 ≤ x2.toInt
        · exact i_at_11 x2 x3 g3
        · have e2 : x2 = 0 := Int32.toInt_inj.mp (by show x2.toInt = 0; omega)
          subst e2
          by_cases g4 : x3.toInt < 0
          · exact i_at_12 x3 g4
          · by_cases g5 : 1 ≤ x3.toInt
            · exact i_at_13 x3 g5
            · have e3 : x3 = 0 := Int32.toInt_inj.mp (by show x3.toInt = 0; omega)
              subst e3
              exact xe_val (v_at 2 (by decide))
    | 3, _ =>
      by_cases g2 : x2.toInt < 0
      · exact i_at_14 x2 x3 g2
      · by_cases g3 : 1 ≤ x2.toInt
        · exact i_at_15 x2 x3 g3
        · have e2 : x2 = 0 := Int32.toInt_inj.mp (by show x2.toInt = 0; omega)
          subst e2
          by_cases g4 : x3.toInt < 0
          · exact i_at_16 x3 g4
          · by_cases g5 : 1 ≤ x3.toInt
            · exact i_at_17 x3 g5
            · have e3 : x3 = 0 := Int32.toInt_inj.mp (by show x3.toInt = 0; omega)
              subst e3
              exact xe_val (v_at 3 (by decide))
    | t + 4, h => exact absurd h (by omega)
theorem o_empty (x1 : Int32) : xe_P 261 [(1, x1)] := by
  rcases xp_rn 4 (by decide) x1 with h | h | ⟨t, ht, e1⟩
  · exact i_empty_0 x1 h
  · exact i_empty_1 x1 h
  · subst e1
    exact xe_val (v_empty t ht)
theorem o_size (x1 : Int32) : xe_P 888 [(1, x1)] := by
  rcases xp_rn 4 (by decide) x1 with h | h | ⟨t, ht, e1⟩
  · exact i_size_0 x1 h
  · exact i_size_1 x1 h
  · subst e1
    exact xe_val (v_size t ht)
theorem o_group (x1 : Int32) : xe_P 621 [(1, x1)] := by
  rcases xp_rn 4 (by decide) x1 with h | h | ⟨t, ht, e1⟩
  · exact i_group_0 x1 h
  · exact i_group_1 x1 h
  · subst e1
    match t, ht with
    | 0, _ => exact o_groupV0
    | 1, _ => exact o_groupV1
    | 2, _ => exact o_groupV2
    | 3, _ => exact o_groupV3
    | t + 4, h => exact absurd h (by omega)
theorem o_ways (x1 x2 : Int32) : xe_P 284 [(1, x1), (2, x2)] := by
  rcases xp_rn 4 (by decide) x1 with h | h | ⟨t, ht, e1⟩
  · exact i_ways_0 x1 x2 h
  · exact i_ways_1 x1 x2 h
  · obtain ⟨b1, b2⟩ := xo_b ht e1
    by_cases g1 : x2.toInt < 1
    · exact i_ways_2 x1 x2 b1 b2 g1
    · by_cases g2 : 10001 ≤ x2.toInt
      · exact i_ways_3 x1 x2 b1 b2 g2
      · subst e1
        by_cases g3 : x2.toInt = 1
        · have e2 : x2 = 1 := Int32.toInt_inj.mp g3
          subst e2
          exact xe_val (v_ways1 t ht)
        · match t, ht with
          | 0, _ => exact o_waysV0 x2 (by omega) (by omega)
          | 1, _ => exact o_waysV1 x2 (by omega) (by omega)
          | 2, _ => exact o_waysV2 x2 (by omega) (by omega)
          | 3, _ => exact o_waysV3 x2 (by omega) (by omega)
          | t + 4, h => exact absurd h (by omega)
theorem o_end (x1 x2 : Int32) : xe_P 317 [(1, x1), (2, x2)] := by
  rcases xp_rn 4 (by decide) x1 with h | h | ⟨s, hs, e1⟩
  · exact i_end_0 x1 x2 h
  · exact i_end_1 x1 x2 h
  · obtain ⟨b1, b2⟩ := xo_b hs e1
    rcases xp_rn 4 (by decide) x2 with h | h | ⟨t, ht, e2⟩
    · exact i_end_2 x1 x2 b1 b2 h
    · exact i_end_3 x1 x2 b1 b2 h
    · subst e1 e2
      match s, hs with
      | 0, _ => exact xe_val (v_end_0 t ht)
      | 1, _ => exact xe_val (v_end_1 t ht)
      | 2, _ => exact xe_val (v_end_2 t ht)
      | 3, _ => exact xe_val (v_end_3 t ht)
      | s + 4, h => exact absurd h (by omega)
theorem o_name (x1 x2 : Int32) : xe_P 703 [(1, x1), (2, x2)] := by
  rcases xp_rn 4 (by decide) x1 with h | h | ⟨s, hs, e1⟩
  · exact i_name_0 x1 x2 h
  · exact i_name_1 x1 x2 h
  · obtain ⟨b1, b2⟩ := xo_b hs e1
    rcases xp_rn 4 (by decide) x2 with h | h | ⟨t, ht, e2⟩
    · exact i_name_2 x1 x2 b1 b2 h
    · exact i_name_3 x1 x2 b1 b2 h
    · subst e1 e2
      match s, hs with
      | 0, _ => exact xe_val (v_name_0 t ht)
      | 1, _ => exact xe_val (v_name_1 t ht)
      | 2, _ => exact xe_val (v_name_2 t ht)
      | 3, _ => exact xe_val (v_name_3 t ht)
      | s + 4, h => exact absurd h (by omega)
theorem o_divide (x1 x2 x3 x4 : Int32) : xe_P 350 [(1, x1), (2, x2), (3, x3), (4, x4)] := by
  rcases xp_rn 4 (by decide) x1 with h | h | ⟨t, ht, e1⟩
  · exact i_divide_0 x1 x2 x3 x4 h
  · exact i_divide_1 x1 x2 x3 x4 h
  · obtain ⟨b1, b2⟩ := xo_b ht e1
    rcases xp_rn 2 (by decide) x2 with h | h | ⟨w, hw, e2⟩
    · exact i_divide_2 x1 x2 x3 x4 b1 b2 h
    · exact i_divide_3 x1 x2 x3 x4 b1 b2 h
    · obtain ⟨b3, b4⟩ := xo_c x2 2 (by decide) hw e2
      subst e1
      match t, ht with
      | 0, _ =>
        by_cases g2 : x3.toInt < 0
        · exact i_divide_4 x2 x3 x4 b3 b4 g2
        · by_cases g3 : 1 ≤ x3.toInt
          · exact i_divide_5 x2 x3 x4 b3 b4 g3
          · have e3 : x3 = 0 := Int32.toInt_inj.mp (by show x3.toInt = 0; omega)
            subst e3
            by_cases g4 : x4.toInt < 0
            · exact i_divide_6 x2 x4 b3 b4 g4
            · by_cases g5 : 1 ≤ x4.toInt
              · exact i_divide_7 x2 x4 b3 b4 g5
              · have e4 : x4 = 0 := Int32.toInt_inj.mp (by show x4.toInt = 0; omega)
                subst e4 e2
                exact xe_val (v_divide 0 (by decide) w hw)
      | 1, _ =>
        by_cases g2 : x3.toInt < 0
        · exact i_divide_8 x2 x3 x4 b3 b4 g2
        · by_cases g3 : 1 ≤ x3.toInt
          · exact i_divide_9 x2 x3 x4 b3 b4 g3
          · have e3 : x3 = 0 := Int32.toInt_inj.mp (by show x3.toInt = 0; omega)
            subst e3
            by_cases g4 : x4.toInt < 0
            · exact i_divide_10 x2 x4 b3 b4 g4
            · by_cases g5 : 1 ≤ x4.toInt
              · exact i_divide_11 x2 x4 b3 b4 g5
              · have e4 : x4 = 0 := Int32.toInt_inj.mp (by show x4.toInt = 0; omega)
                subst e4 e2
                exact xe_val (v_divide 1 (by decide) w hw)
      | 2, _ =>
        by_cases g2 : x3.toInt < 0
        · exact i_divide_12 x2 x3 x4 b3 b4 g2
        · by_cases g3 : 1 ≤ x3.toInt
          · exact i_divide_13 x2 x3 x4 b3 b4 g3
          · have e3 : x3 = 0 := Int32.toInt_inj.mp (by show x3.toInt = 0; omega)
            subst e3
            by_cases g4 : x4.toInt < 0
            · exact i_divide_14 x2 x4 b3 b4 g4
            · by_cases g5 : 1 ≤ x4.toInt
              · exact i_divide_15 x2 x4 b3 b4 g5
              · have e4 : x4 = 0 := Int32.toInt_inj.mp (by show x4.toInt = 0; omega)
                subst e4 e2
                exact xe_val (v_divide 2 (by decide) w hw)
      | 3, _ =>
        by_cases g2 : x3.toInt < 0
        · exact i_divide_16 x2 x3 x4 b3 b4 g2
        · by_cases g3 : 1 ≤ x3.toInt
          · exact i_divide_17 x2 x3 x4 b3 b4 g3
          · have e3 : x3 = 0 := Int32.toInt_inj.mp (by show x3.toInt = 0; omega)
            subst e3
            by_cases g4 : x4.toInt < 0
            · exact i_divide_18 x2 x4 b3 b4 g4
            · by_cases g5 : 1 ≤ x4.toInt
              · exact i_divide_19 x2 x4 b3 b4 g5
              · have e4 : x4 = 0 := Int32.toInt_inj.mp (by show x4.toInt = 0; omega)
                subst e4 e2
                exact xe_val (v_divide 3 (by decide) w hw)
      | t + 4, h => exact absurd h (by omega)
theorem o_law (x1 x2 x3 : Int32) : xe_P 403 [(1, x1), (2, x2), (3, x3)] := by
  rcases xp_rn 4 (by decide) x1 with h | h | ⟨t, ht, e1⟩
  · exact i_law_0 x1 x2 x3 h
  · exact i_law_1 x1 x2 x3 h
  · obtain ⟨b1, b2⟩ := xo_b ht e1
    rcases xp_rn 13 (by decide) x2 with h | h | ⟨k, hk, e2⟩
    · exact i_law_2 x1 x2 x3 b1 b2 h
    · exact i_law_3 x1 x2 x3 b1 b2 h
    · obtain ⟨b3, b4⟩ := xo_c x2 13 (by decide) hk e2
      rcases xp_rn 2 (by decide) x3 with h | h | ⟨w, hw, e3⟩
      · exact i_law_4 x1 x2 x3 b1 b2 b3 b4 h
      · exact i_law_5 x1 x2 x3 b1 b2 b3 b4 h
      · subst e1 e2 e3
        match t, ht, w, hw with
        | 0, _, 0, _ => exact xe_val (v_law_0_0 k hk)
        | 0, _, 1, _ => exact xe_val (v_law_0_1 k hk)
        | 1, _, 0, _ => exact xe_val (v_law_1_0 k hk)
        | 1, _, 1, _ => exact xe_val (v_law_1_1 k hk)
        | 2, _, 0, _ => exact xe_val (v_law_2_0 k hk)
        | 2, _, 1, _ => exact xe_val (v_law_2_1 k hk)
        | 3, _, 0, _ => exact xe_val (v_law_3_0 k hk)
        | 3, _, 1, _ => exact xe_val (v_law_3_1 k hk)
        | t + 4, h, _, _ => exact absurd h (by omega)
        | _, _, w + 2, h => exact absurd h (by omega)
theorem o_joining (x1 x2 : Int32) : xe_P 446 [(1, x1), (2, x2)] := by
  rcases xp_rn 4 (by decide) x1 with h | h | ⟨t, ht, e1⟩
  · exact i_joining_0 x1 x2 h
  · exact i_joining_1 x1 x2 h
  · obtain ⟨b1, b2⟩ := xo_b ht e1
    rcases xp_rn 5 (by decide) x2 with h | h | ⟨w, hw, e2⟩
    · exact i_joining_2 x1 x2 b1 b2 h
    · exact i_joining_3 x1 x2 b1 b2 h
    · subst e1 e2
      exact xe_val (v_joining t ht w hw)
theorem o_parts (x1 x2 : Int32) : xe_P 512 [(1, x1), (2, x2)] := by
  rcases xp_rn 4 (by decide) x1 with h | h | ⟨t, ht, e1⟩
  · exact i_parts_0 x1 x2 h
  · exact i_parts_1 x1 x2 h
  · obtain ⟨b1, b2⟩ := xo_b ht e1
    rcases xp_rn 2 (by decide) x2 with h | h | ⟨w, hw, e2⟩
    · exact i_parts_2 x1 x2 b1 b2 h
    · exact i_parts_3 x1 x2 b1 b2 h
    · subst e1 e2
      exact xe_val (v_parts t ht w hw)
theorem o_made (x1 x2 : Int32) : xe_P 479 [(1, x1), (2, x2)] := by
  rcases xp_rn 4 (by decide) x1 with h | h | ⟨t, ht, e1⟩
  · exact i_made_0 x1 x2 h
  · exact i_made_1 x1 x2 h
  · rcases xp_rn 2 (by decide) x2 with h | h | ⟨w, hw, e2⟩
    · subst e1
      match t, ht with
      | 0, _ => exact i_made_2 x2 h
      | 1, _ => exact i_made_4 x2 h
      | 2, _ => exact i_made_6 x2 h
      | 3, _ => exact i_made_8 x2 h
      | t + 4, h => exact absurd h (by omega)
    · subst e1
      match t, ht with
      | 0, _ => exact i_made_3 x2 h
      | 1, _ => exact i_made_5 x2 h
      | 2, _ => exact i_made_7 x2 h
      | 3, _ => exact i_made_9 x2 h
      | t + 4, h => exact absurd h (by omega)
    · subst e1 e2
      exact xe_val (v_made t ht w hw)
theorem o_normal (x1 x2 : Int32) : xe_P 545 [(1, x1), (2, x2)] := by
  rcases xp_rn 4 (by decide) x1 with h | h | ⟨t, ht, e1⟩
  · exact i_normal_0 x1 x2 h
  · exact i_normal_1 x1 x2 h
  · rcases xp_rn 2 (by decide) x2 with h | h | ⟨w, hw, e2⟩
    · subst e1
      match t, ht with
      | 0, _ => exact i_normal_2 x2 h
      | 1, _ => exact i_normal_4 x2 h
      | 2, _ => exact i_normal_6 x2 h
      | 3, _ => exact i_normal_8 x2 h
      | t + 4, h => exact absurd h (by omega)
    · subst e1
      match t, ht with
      | 0, _ => exact i_normal_3 x2 h
      | 1, _ => exact i_normal_5 x2 h
      | 2, _ => exact i_normal_7 x2 h
      | 3, _ => exact i_normal_9 x2 h
      | t + 4, h => exact absurd h (by omega)
    · subst e1 e2
      exact xe_val (v_normal t ht w hw)
theorem o_left (x1 x2 x3 : Int32) : xe_P 578 [(1, x1), (2, x2), (3, x3)] := by
  rcases xp_rn 4 (by decide) x1 with h | h | ⟨s, hs, e1⟩
  · exact i_left_0 x1 x2 x3 h
  · exact i_left_1 x1 x2 x3 h
  · obtain ⟨b1, b2⟩ := xo_b hs e1
    rcases xp_rn 4 (by decide) x2 with h | h | ⟨t, ht, e2⟩
    · exact i_left_2 x1 x2 x3 b1 b2 h
    · exact i_left_3 x1 x2 x3 b1 b2 h
    · rcases xp_rn 2 (by decide) x3 with h | h | ⟨w, hw, e3⟩
      · subst e2
        match t, ht with
        | 0, _ => exact i_left_4 x1 x3 b1 b2 h
        | 1, _ => exact i_left_6 x1 x3 b1 b2 h
        | 2, _ => exact i_left_8 x1 x3 b1 b2 h
        | 3, _ => exact i_left_10 x1 x3 b1 b2 h
        | t + 4, h => exact absurd h (by omega)
      · subst e2
        match t, ht with
        | 0, _ => exact i_left_5 x1 x3 b1 b2 h
        | 1, _ => exact i_left_7 x1 x3 b1 b2 h
        | 2, _ => exact i_left_9 x1 x3 b1 b2 h
        | 3, _ => exact i_left_11 x1 x3 b1 b2 h
        | t + 4, h => exact absurd h (by omega)
      · subst e1 e2 e3
        match s, hs with
        | 0, _ => exact xe_val (v_left_0 t ht w hw)
        | 1, _ => exact xe_val (v_left_1 t ht w hw)
        | 2, _ => exact xe_val (v_left_2 t ht w hw)
        | 3, _ => exact xe_val (v_left_3 t ht w hw)
        | s + 4, h => exact absurd h (by omega)
theorem o_alike (x1 x2 x3 : Int32) : xe_P 644 [(1, x1), (2, x2), (3, x3)] := by
  by_cases g3 : x3.toInt = 0
  · have e3 : x3 = 0 := Int32.toInt_inj.mp g3
    subst e3
    rcases xp_rn 4 (by decide) x1 with h | h | ⟨s, hs, e1⟩
    · exact i_alike_0 x1 x2 h
    · exact i_alike_1 x1 x2 h
    · obtain ⟨b1, b2⟩ := xo_b hs e1
      rcases xp_rn 4 (by decide) x2 with h | h | ⟨t, ht, e2⟩
      · exact i_alike_2 x1 x2 b1 b2 h
      · exact i_alike_3 x1 x2 b1 b2 h
      · subst e1 e2
        match s, hs with
        | 0, _ => exact xe_val (v_alike_0 t ht 0 (by decide))
        | 1, _ => exact xe_val (v_alike_1 t ht 0 (by decide))
        | 2, _ => exact xe_val (v_alike_2 t ht 0 (by decide))
        | 3, _ => exact xe_val (v_alike_3 t ht 0 (by decide))
        | s + 4, h => exact absurd h (by omega)
  · rcases xp_rn 4 (by decide) x1 with h | h | ⟨s, hs, e1⟩
    · exact i_alike_4 x1 x2 x3 h g3
    · exact i_alike_5 x1 x2 x3 h g3
    · obtain ⟨b1, b2⟩ := xo_b hs e1
      rcases xp_rn 4 (by decide) x2 with h | h | ⟨t, ht, e2⟩
      · exact i_alike_6 x1 x2 x3 b1 b2 h g3
      · exact i_alike_7 x1 x2 x3 b1 b2 h g3
      · subst e1 e2
        match s, hs with
        | 0, _ => exact o_alikeV (by decide) ht (v_al1_0 t ht) (v_al2_0 t ht) (v_al3_0 t ht) x3 g3
        | 1, _ => exact o_alikeV (by decide) ht (v_al1_1 t ht) (v_al2_1 t ht) (v_al3_1 t ht) x3 g3
        | 2, _ => exact o_alikeV (by decide) ht (v_al1_2 t ht) (v_al2_2 t ht) (v_al3_2 t ht) x3 g3
        | 3, _ => exact o_alikeV (by decide) ht (v_al1_3 t ht) (v_al2_3 t ht) (v_al3_3 t ht) x3 g3
        | s + 4, h => exact absurd h (by omega)
theorem o_square (x1 x2 : Int32) : xe_P 736 [(1, x1), (2, x2)] := by
  rcases xp_rn 4 (by decide) x1 with h | h | ⟨t, ht, e1⟩
  · exact i_square_0 x1 x2 h
  · exact i_square_1 x1 x2 h
  · obtain ⟨b1, b2⟩ := xo_b ht e1
    by_cases g1 : x2.toInt < -1
    · exact i_square_2 x1 x2 b1 b2 g1
    · subst e1
      by_cases g2 : x2.toInt = -1
      · have e2 : x2 = -1 := Int32.toInt_inj.mp g2
        subst e2
        exact xe_val (v_square1 t ht)
      · match t, ht with
        | 0, _ => exact i_square_3 x2 (by omega)
        | 1, _ => exact i_square_4 x2 (by omega)
        | 2, _ => exact i_square_5 x2 (by omega)
        | 3, _ => exact i_square_6 x2 (by omega)
        | t + 4, h => exact absurd h (by omega)
theorem o_turn (x1 x2 : Int32) : xe_P 769 [(1, x1), (2, x2)] := by
  rcases xp_rn 4 (by decide) x1 with h | h | ⟨t, ht, e1⟩
  · exact i_turn_0 x1 x2 h
  · exact i_turn_1 x1 x2 h
  · obtain ⟨b1, b2⟩ := xo_b ht e1
    by_cases g1 : x2.toInt < 0
    · exact i_turn_2 x1 x2 b1 b2 g1
    · subst e1
      match t, ht with
      | 0, _ => exact i_turn_3 x2 (by omega)
      | 1, _ => exact i_turn_4 x2 (by omega)
      | 2, _ => exact i_turn_5 x2 (by omega)
      | 3, _ => exact i_turn_6 x2 (by omega)
      | t + 4, h => exact absurd h (by omega)
theorem xe_Pw {pc : Nat} {sc sc' : List (Nat × Int32)} (hs : ∀ j v, sc.lookup j = some v → sc'.lookup j = some v) (h : xe_P pc sc) : xe_P pc sc' := fun G l mc ms c z hL hsc h1 h2 => h G l mc ms c z hL (fun j v hj => hsc j v (hs j v hj)) h1 h2
theorem o_doubled (x1 x2 x3 : Int32) : xe_P 802 [(1, x1), (2, x2), (3, x3)] := by
  rcases xp_rn 4 (by decide) x1 with h | h | ⟨s, hs, e1⟩
  · exact i_doubled_0 x1 x2 x3 h
  · exact i_doubled_1 x1 x2 x3 h
  · obtain ⟨b1, b2⟩ := xo_b hs e1
    rcases xp_rn 4 (by decide) x2 with h | h | ⟨t, ht, e2⟩
    · exact i_doubled_2 x1 x2 x3 b1 b2 h
    · exact i_doubled_3 x1 x2 x3 b1 b2 h
    · subst e1 e2
      have hw : ∀ (j : Nat) (v : Int32), [(1, nI s), (2, nI t)].lookup j = some v → [(1, nI s), (2, nI t), (3, x3)].lookup j = some v := by
        intro j v hj
        simp only [List.lookup_cons] at hj ⊢
        split at hj
        · exact hj
        · split at hj
          · exact hj
          · cases hj
      match s, hs with
      | 0, _ => exact xe_Pw hw (xe_val (v_doubled_0 t ht))
      | 1, _ => exact xe_Pw hw (xe_val (v_doubled_1 t ht))
      | 2, _ => exact xe_Pw hw (xe_val (v_doubled_2 t ht))
      | 3, _ => exact xe_Pw hw (xe_val (v_doubled_3 t ht))
      | s + 4, h => exact absurd h (by omega)
theorem o_product (x1 x2 x3 : Int32) : xe_P 845 [(1, x1), (2, x2), (3, x3)] := by
  rcases xp_rn 4 (by decide) x1 with h | h | ⟨s, hs, e1⟩
  · exact i_product_0 x1 x2 x3 h
  · exact i_product_1 x1 x2 x3 h
  · obtain ⟨b1, b2⟩ := xo_b hs e1
    rcases xp_rn 4 (by decide) x2 with h | h | ⟨t, ht, e2⟩
    · exact i_product_2 x1 x2 x3 b1 b2 h
    · exact i_product_3 x1 x2 x3 b1 b2 h
    · obtain ⟨b3, b4⟩ := xo_b ht e2
      rcases xp_rn 4 (by decide) x3 with h | h | ⟨u, hu, e3⟩
      · exact i_product_4 x1 x2 x3 b1 b2 b3 b4 h
      · exact i_product_5 x1 x2 x3 b1 b2 b3 b4 h
      · subst e1 e2 e3
        match s, hs, t, ht with
        | 0, _, 0, _ => exact xe_val (v_product_0_0 u hu)
        | 0, _, 1, _ => exact xe_val (v_product_0_1 u hu)
        | 0, _, 2, _ => exact xe_val (v_product_0_2 u hu)
        | 0, _, 3, _ => exact xe_val (v_product_0_3 u hu)
        | 1, _, 0, _ => exact xe_val (v_product_1_0 u hu)
        | 1, _, 1, _ => exact xe_val (v_product_1_1 u hu)
        | 1, _, 2, _ => exact xe_val (v_product_1_2 u hu)
        | 1, _, 3, _ => exact xe_val (v_product_1_3 u hu)
        | 2, _, 0, _ => exact xe_val (v_product_2_0 u hu)
        | 2, _, 1, _ => exact xe_val (v_product_2_1 u hu)
        | 2, _, 2, _ => exact xe_val (v_product_2_2 u hu)
        | 2, _, 3, _ => exact xe_val (v_product_2_3 u hu)
        | 3, _, 0, _ => exact xe_val (v_product_3_0 u hu)
        | 3, _, 1, _ => exact xe_val (v_product_3_1 u hu)
        | 3, _, 2, _ => exact xe_val (v_product_3_2 u hu)
        | 3, _, 3, _ => exact xe_val (v_product_3_3 u hu)
        | s + 4, h, _, _ => exact absurd h (by omega)
        | _, _, t + 4, h => exact absurd h (by omega)
set_option maxRecDepth 100000 in
set_option maxHeartbeats 4000000 in
theorem o_all (G : xm_G) (l : Launch) (hL : G.2.2.2.2.1 = 5) {mc ms c z : Nat} (h1 : c ≤ mc) (h2 : z ≤ ms) (j : Nat) (hj : j < 32) (hk : G.2.2.2.2.2 0 &&& 31 = nI j) : xm_X G l xi_law 1000 mc ms c z 26 xp_LS [] hx17 (fun r _ => r = some (.int 1)) := by
  have i0 : vp_in (0 : Int32) G.2.2.2.2.1 := by rw [hL]; unfold vp_in; decide
  refine xm_step rfl rfl ?_
  refine xm_step rfl rfl ?_
  refine xm_sldv (v := G.2.2.2.2.2 0) rfl i0 rfl ?_
  refine xm_step rfl rfl ?_
  refine xm_step rfl rfl ?_
  show xm_X G l xi_law 1000 mc ms c z 32 xp_LS [.int (G.2.2.2.2.2 0 &&& 31)] hx17 _
  rw [hk]
  match j, hj with
  | 0, _ => exact xm_swi (t := 132) rfl rfl (o_table (G.2.2.2.2.2 1) (G.2.2.2.2.2 2) G l mc ms c z hL (by
      intro j v hv
      simp only [List.lookup_cons, List.lookup_nil] at hv
      repeat' (split at hv)
      all_goals first | (cases hv; rename_i e; have e := beq_iff_eq.mp e; subst e; exact ⟨by decide, rfl⟩) | cases hv) h1 h2)
  | 1, _ => exact xm_swi (t := 165) rfl rfl (o_set (G.2.2.2.2.2 1) (G.2.2.2.2.2 2) (G.2.2.2.2.2 3) (G.2.2.2.2.2 4) G l mc ms c z hL (by
      intro j v hv
      simp only [List.lookup_cons, List.lookup_nil] at hv
      repeat' (split at hv)
      all_goals first | (cases hv; rename_i e; have e := beq_iff_eq.mp e; subst e; exact ⟨by decide, rfl⟩) | cases hv) h1 h2)
  | 2, _ => exact xm_swi (t := 218) rfl rfl (o_at (G.2.2.2.2.2 1) (G.2.2.2.2.2 2) (G.2.2.2.2.2 3) G l mc ms c z hL (by
      intro j v hv
      simp only [List.lookup_cons, List.lookup_nil] at hv
      repeat' (split at hv)
      all_goals first | (cases hv; rename_i e; have e := beq_iff_eq.mp e; subst e; exact ⟨by decide, rfl⟩) | cases hv) h1 h2)
  | 3, _ => exact xm_swi (t := 261) rfl rfl (o_empty (G.2.2.2.2.2 1) G l mc ms c z hL (by
      intro j v hv
      simp only [List.lookup_cons, List.lookup_nil] at hv
      repeat' (split at hv)
      all_goals first | (cases hv; rename_i e; have e := beq_iff_eq.mp e; subst e; exact ⟨by decide, rfl⟩) | cases hv) h1 h2)
  | 4, _ => exact xm_swi (t := 284) rfl rfl (o_ways (G.2.2.2.2.2 1) (G.2.2.2.2.2 2) G l mc ms c z hL (by
      intro j v hv
      simp only [List.lookup_cons, List.lookup_nil] at hv
      repeat' (split at hv)
      all_goals first | (cases hv; rename_i e; have e := beq_iff_eq.mp e; subst e; exact ⟨by decide, rfl⟩) | cases hv) h1 h2)
  | 5, _ => exact xm_swi (t := 317) rfl rfl (o_end (G.2.2.2.2.2 1) (G.2.2.2.2.2 2) G l mc ms c z hL (by
      intro j v hv
      simp only [List.lookup_cons, List.lookup_nil] at hv
      repeat' (split at hv)
      all_goals first | (cases hv; rename_i e; have e := beq_iff_eq.mp e; subst e; exact ⟨by decide, rfl⟩) | cases hv) h1 h2)
  | 6, _ => exact xm_swi (t := 350) rfl rfl (o_divide (G.2.2.2.2.2 1) (G.2.2.2.2.2 2) (G.2.2.2.2.2 3) (G.2.2.2.2.2 4) G l mc ms c z hL (by
      intro j v hv
      simp only [List.lookup_cons, List.lookup_nil] at hv
      repeat' (split at hv)
      all_goals first | (cases hv; rename_i e; have e := beq_iff_eq.mp e; subst e; exact ⟨by decide, rfl⟩) | cases hv) h1 h2)
  | 7, _ => exact xm_swi (t := 403) rfl rfl (o_law (G.2.2.2.2.2 1) (G.2.2.2.2.2 2) (G.2.2.2.2.2 3) G l mc ms c z hL (by
      intro j v hv
      simp only [List.lookup_cons, List.lookup_nil] at hv
      repeat' (split at hv)
      all_goals first | (cases hv; rename_i e; have e := beq_iff_eq.mp e; subst e; exact ⟨by decide, rfl⟩) | cases hv) h1 h2)
  | 8, _ => exact xm_swi (t := 446) rfl rfl (o_joining (G.2.2.2.2.2 1) (G.2.2.2.2.2 2) G l mc ms c z hL (by
      intro j v hv
      simp only [List.lookup_cons, List.lookup_nil] at hv
      repeat' (split at hv)
      all_goals first | (cases hv; rename_i e; have e := beq_iff_eq.mp e; subst e; exact ⟨by decide, rfl⟩) | cases hv) h1 h2)
  | 9, _ => exact xm_swi (t := 479) rfl rfl (o_made (G.2.2.2.2.2 1) (G.2.2.2.2.2 2) G l mc ms c z hL (by
      intro j v hv
      simp only [List.lookup_cons, List.lookup_nil] at hv
      repeat' (split at hv)
      all_goals first | (cases hv; rename_i e; have e := beq_iff_eq.mp e; subst e; exact ⟨by decide, rfl⟩) | cases hv) h1 h2)
  | 10, _ => exact xm_swi (t := 512) rfl rfl (o_parts (G.2.2.2.2.2 1) (G.2.2.2.2.2 2) G l mc ms c z hL (by
      intro j v hv
      simp only [List.lookup_cons, List.lookup_nil] at hv
      repeat' (split at hv)
      all_goals first | (cases hv; rename_i e; have e := beq_iff_eq.mp e; subst e; exact ⟨by decide, rfl⟩) | cases hv) h1 h2)
  | 11, _ => exact xm_swi (t := 545) rfl rfl (o_normal (G.2.2.2.2.2 1) (G.2.2.2.2.2 2) G l mc ms c z hL (by
      intro j v hv
      simp only [List.lookup_cons, List.lookup_nil] at hv
      repeat' (split at hv)
      all_goals first | (cases hv; rename_i e; have e := beq_iff_eq.mp e; subst e; exact ⟨by decide, rfl⟩) | cases hv) h1 h2)
  | 12, _ => exact xm_swi (t := 578) rfl rfl (o_left (G.2.2.2.2.2 1) (G.2.2.2.2.2 2) (G.2.2.2.2.2 3) G l mc ms c z hL (by
      intro j v hv
      simp only [List.lookup_cons, List.lookup_nil] at hv
      repeat' (split at hv)
      all_goals first | (cases hv; rename_i e; have e := beq_iff_eq.mp e; subst e; exact ⟨by decide, rfl⟩) | cases hv) h1 h2)
  | 13, _ => exact xm_swi (t := 621) rfl rfl (o_group (G.2.2.2.2.2 1) G l mc ms c z hL (by
      intro j v hv
      simp only [List.lookup_cons, List.lookup_nil] at hv
      repeat' (split at hv)
      all_goals first | (cases hv; rename_i e; have e := beq_iff_eq.mp e; subst e; exact ⟨by decide, rfl⟩) | cases hv) h1 h2)
  | 14, _ => exact xm_swi (t := 644) rfl rfl (o_alike (G.2.2.2.2.2 1) (G.2.2.2.2.2 2) (G.2.2.2.2.2 3) G l mc ms c z hL (by
      intro j v hv
      simp only [List.lookup_cons, List.lookup_nil] at hv
      repeat' (split at hv)
      all_goals first | (cases hv; rename_i e; have e := beq_iff_eq.mp e; subst e; exact ⟨by decide, rfl⟩) | cases hv) h1 h2)
  | 15, _ => exact xm_swi (t := 703) rfl rfl (o_name (G.2.2.2.2.2 1) (G.2.2.2.2.2 2) G l mc ms c z hL (by
      intro j v hv
      simp only [List.lookup_cons, List.lookup_nil] at hv
      repeat' (split at hv)
      all_goals first | (cases hv; rename_i e; have e := beq_iff_eq.mp e; subst e; exact ⟨by decide, rfl⟩) | cases hv) h1 h2)
  | 16, _ => exact xm_swi (t := 736) rfl rfl (o_square (G.2.2.2.2.2 1) (G.2.2.2.2.2 2) G l mc ms c z hL (by
      intro j v hv
      simp only [List.lookup_cons, List.lookup_nil] at hv
      repeat' (split at hv)
      all_goals first | (cases hv; rename_i e; have e := beq_iff_eq.mp e; subst e; exact ⟨by decide, rfl⟩) | cases hv) h1 h2)
  | 17, _ => exact xm_swi (t := 769) rfl rfl (o_turn (G.2.2.2.2.2 1) (G.2.2.2.2.2 2) G l mc ms c z hL (by
      intro j v hv
      simp only [List.lookup_cons, List.lookup_nil] at hv
      repeat' (split at hv)
      all_goals first | (cases hv; rename_i e; have e := beq_iff_eq.mp e; subst e; exact ⟨by decide, rfl⟩) | cases hv) h1 h2)
  | 18, _ => exact xm_swi (t := 802) rfl rfl (o_doubled (G.2.2.2.2.2 1) (G.2.2.2.2.2 2) (G.2.2.2.2.2 3) G l mc ms c z hL (by
      intro j v hv
      simp only [List.lookup_cons, List.lookup_nil] at hv
      repeat' (split at hv)
      all_goals first | (cases hv; rename_i e; have e := beq_iff_eq.mp e; subst e; exact ⟨by decide, rfl⟩) | cases hv) h1 h2)
  | 19, _ => exact xm_swi (t := 845) rfl rfl (o_product (G.2.2.2.2.2 1) (G.2.2.2.2.2 2) (G.2.2.2.2.2 3) G l mc ms c z hL (by
      intro j v hv
      simp only [List.lookup_cons, List.lookup_nil] at hv
      repeat' (split at hv)
      all_goals first | (cases hv; rename_i e; have e := beq_iff_eq.mp e; subst e; exact ⟨by decide, rfl⟩) | cases hv) h1 h2)
  | 20, _ => exact xm_swi (t := 888) rfl rfl (o_size (G.2.2.2.2.2 1) G l mc ms c z hL (by
      intro j v hv
      simp only [List.lookup_cons, List.lookup_nil] at hv
      repeat' (split at hv)
      all_goals first | (cases hv; rename_i e; have e := beq_iff_eq.mp e; subst e; exact ⟨by decide, rfl⟩) | cases hv) h1 h2)
  | 21, _ => exact xm_swi (t := 911) rfl rfl (o_tail hL h1 h2)
  | 22, _ => exact xm_swi (t := 911) rfl rfl (o_tail hL h1 h2)
  | 23, _ => exact xm_swi (t := 911) rfl rfl (o_tail hL h1 h2)
  | 24, _ => exact xm_swi (t := 911) rfl rfl (o_tail hL h1 h2)
  | 25, _ => exact xm_swi (t := 911) rfl rfl (o_tail hL h1 h2)
  | 26, _ => exact xm_swi (t := 911) rfl rfl (o_tail hL h1 h2)
  | 27, _ => exact xm_swi (t := 911) rfl rfl (o_tail hL h1 h2)
  | 28, _ => exact xm_swi (t := 911) rfl rfl (o_tail hL h1 h2)
  | 29, _ => exact xm_swi (t := 911) rfl rfl (o_tail hL h1 h2)
  | 30, _ => exact xm_swi (t := 911) rfl rfl (o_tail hL h1 h2)
  | 31, _ => exact xm_swi (t := 911) rfl rfl (o_tail hL h1 h2)
  | j + 32, h => exact absurd h (by omega)
set_option maxRecDepth 100000 in
set_option maxHeartbeats 4000000 in
theorem whole_start {p : Program} {e : Env} {s : State} {m : MethodId} {below : List Frame} {meth : Method} {c : Code} (l : Launch) {b L : Nat} {xs : Nat → Int32} (hL : L ≤ 5) (C0 : lw_At p s m meth c b L xs) : W p l e room_1 s m #[Value.ref b] below meth c s.heap [] 0 0 (lw_Z below #[Value.ref b] s) (entryFrame m ([Value.ref b] : List Value).toArray 4) := by
  refine xm_lawstart l C0 (fun G hG => ?_)
  have g1 : G.2.2.2.2.1 = L := by rw [hG]
  refine xm_new (q := ("LatinLaws", xm_T4, 5)) rfl rfl (by decide) (by decide) ?_
  refine xm_step rfl rfl ?_
  refine xm_callI (As := []) (k := 0) (rest := [.ref 0]) (d' := 900) (mc' := 31) (ms' := 1366) rfl (c_Latin (d := 896)) rfl (by decide) (by decide) (by decide) (Nat.le_of_ble_eq_true rfl) (fun r h' hp => ?_)
  obtain ⟨rfl, rfl⟩ := hp
  refine xm_step rfl rfl ?_
  refine xm_new (q := ("LatinLawsModel", xm_T5, 7)) rfl rfl (by decide) (by decide) ?_
  refine xm_step rfl rfl ?_
  refine xm_callI (As := []) (k := 32) (rest := [.ref 32]) (d' := 900) (mc' := 6) (ms' := 40782) rfl (c_Model (d := 899)) rfl (by decide) (by decide) (by decide) (Nat.le_of_ble_eq_true rfl) (fun r h' hp => ?_)
  obtain ⟨rfl, rfl⟩ := hp
  refine xm_step rfl rfl ?_
  refine xm_step rfl rfl ?_
  refine xm_step rfl rfl ?_
  refine xm_step rfl rfl ?_
  refine xm_step rfl rfl ?_
  refine xm_slen rfl ?_
  rw [g1]
  refine xm_step rfl rfl ?_
  refine xm_step rfl rfl ?_
  by_cases h5 : L = 5
  · subst h5
    refine xm_if rfl rfl (fun q => absurd q (by show ¬ ((5 : Int32) - 5 < 0); decide)) (fun _ => ?_)
    obtain ⟨j, hj, hk⟩ := pk_andE (G.2.2.2.2.2 0) (m := 31) 5 (by decide)
    exact o_all G l g1 (by decide) (by decide) j hj hk
  · have hlt : L < 5 := by omega
    have hc : Int32.ofNat L - 5 < 0 := by
      match L, hlt with
      | 0, _ => decide
      | 1, _ => decide
      | 2, _ => decide
      | 3, _ => decide
      | 4, _ => decide
      | n + 5, h => exact absurd h (by omega)
    refine xm_if rfl rfl (fun _ => ?_) (fun q => absurd hc q)
    refine xm_step rfl rfl ?_
    exact xm_retI rfl rfl rfl (by decide) (by decide) rfl
end
section
set_option maxHeartbeats 4000000 in
theorem lw_walk (l : Launch) (b : Addr) (xs : List Int32) : MetFree l x (headSpec (Jvm.Cond.code x code maxLocals ret :: tables_1) room_1) (lw_P b xs) (fun _ _ _ _ _ => True) lw_Q := by
  refine MetFree.of_bodyS (code := code) (maxLocals := maxLocals) (ret := ret) (by decide) ?_ ?_
  · intro args s m h hn
    obtain ⟨meth, c, h1, h2, h3, h4, h5, h6, -, -⟩ := Cond.code_spec hn (atoms_spec (ws := Jvm.Cond.code x code maxLocals ret :: tables_1) h _ List.mem_cons_self)
    exact ⟨meth, c, h1, h2, h3, h4, h5, h6⟩
  · intro p e s m args below meth c s₁ B hml0 hP _
    obtain ⟨rfl, hx, hbd, hgv⟩ := hP
    obtain ⟨scr, harrAt, hlist, hof, hsmall⟩ := hx
    obtain ⟨hcb, hkn, -, -⟩ := State.arrayAt?_spec harrAt
    have hown : s.vm.findClass R_law = some m.cls := findClass_of_methodNamed B.named
    have hts0 : ∀ c ∈ (Jvm.Cond.code x code maxLocals ret :: tables_1), c.before #[Value.ref b] s = true := atoms_spec (ws := Jvm.Cond.code x code maxLocals ret :: tables_1) B.pre
    have hts : ∀ w ∈ lw_tbl, w.before #[Value.ref b] s = true := k2_hts_sels lw_privs (fun w hw => hts0 w (List.mem_cons_of_mem _ hw)) lw_privs_ok
    have hml : c.maxLocals = 4 := B.maxLocals_eq (hts0 _ List.mem_cons_self)
    have X₀ : Stand p l e room_1 s m #[Value.ref b] below meth c s₁ [] 0 0 := Stand.of_body B
    have hh0 : s₁.heap = s.heap := by rw [B.state]; rfl
    have hsz : scr.slots.size = xs.length := by rw [← Array.length_toList, hlist, List.length_map]
    have hval : ∀ j : Nat, j < xs.length → scr.slots[j]? = some (.int (xs.getD j 0)) := fun j hj => by
      rw [← Array.getElem?_toList, hlist]
      simp [hj]
    have hbl : b < s.heap.size := (Array.getElem?_eq_some_iff.mp hcb).1
    have hX : va_X b xs.length (fun j => xs.getD j 0) s s.heap := ⟨scr, hcb, hof, hkn, hsz, hval⟩
    have K : W p l e room_1 s m #[Value.ref b] below meth c s₁.heap [] 0 0 (lw_Z below #[Value.ref b] s) (entryFrame m ([Value.ref b] : List Value).toArray 4) := by
      rw [hh0]
      exact whole_start l hbd ⟨B.exec, B.bytes, B.returns, hml, hown, hts, hX, hbl, B.notSynchronized, hgv⟩
    obtain ⟨t, a1, o, b1, b2, b3⟩ := K s₁ rfl X₀
    exact ⟨t, o, a1, b1, b2, b3⟩
theorem lw_pre_spec {args : Array Value} {s : State} (h : (Jvm.Cond.and given_1 narrow_1).before args s = true) (hr : rest_1_c.before args s = true) : ∃ (b : Addr) (xs : List Int32), lw_P b xs args s := by
  have hs := flat_of_before _ h
  have hq := flat_of_before _ hr
  have hc : (Cond.count 1).before args s = true := hs _ (by decide +kernel)
  have harr : (Cond.arrayOf (.arg 0) .int).before args s = true := hs _ (by decide +kernel)
  have hle : (Cond.le (.length (.arg 0)) (.int 5)).before args s = true := hs _ (by decide +kernel)
  have hlen : (Cond.isInt (.length (.arg 0))).before args s = true := hq _ (by decide +kernel)
  have hall : (Cond.all (.arg 0) (.isInt (.elem (.arg 0) (.index 0)))).before args s = true := hq _ (by decide +kernel)
  obtain ⟨b, xs, hb, hx⟩ := State.ints_of_pre rfl harr hlen hall
  have hsm : xs.length < 2 ^ 31 := hx.choose_spec.2.2.2
  have hev : (Term.length (.arg 0)).eval args s none [] s = some (.int xs.length.toInt32) := hx.length_eval hb
  have hv := Cond.le_ints hev (show (Term.int 5).eval args s none [] s = some (.int 5) from rfl)
  have hd : xs.length.toInt32 ≤ 5 := by
    simpa [Cond.before, Cond.holds, hv] using hle
  have hN : xs.length ≤ 5 := (Int32.ofNat_le_ofNat hsm (by decide)).mp (show Int32.ofNat xs.length ≤ Int32.ofNat 5 from hd)
  exact ⟨b, xs, Cond.one_arg hc (show args[0]? = some (.ref b) from hb), hx, hN, h⟩
theorem lw_comes (l : Launch) : Comes l x (Jvm.Cond.code x code maxLocals ret :: tables_1) room_1 (fun tb e args s => Calls_1 tb e args s ∧ rest_1 tb e args s ∧ Pre_1 tb e args s)
    (fun _ _ args s o t => lw_Q args s o t) := by
  intro p e ha hc hk s m args below hf hfit hheap happ hpre
  obtain ⟨b, xs, hP⟩ := lw_pre_spec hpre.2.2 hpre.2.1
  obtain ⟨k, o, h1, h2, h3, hQ⟩ := lw_walk l b xs p e ha hc hk s m args below hf ((Spec.applies_iff_loose hf).mp happ).1 hP trivial
  exact ⟨k, o, h1, h2, h3, hQ⟩
theorem lw_frame {s t : State} {o : Outcome} {args : Array Value} (h : Framed s o t [] 600000 7302250) :
    Framed s o t (fieldLocs frame_1_writes args s ++ arrayLocs frame_1_arrays args s ++ staticLocs frame_1_statics s) 600000 7302250 := h
theorem lw_limb (L : Cond) (hL : ∀ (args : Array Value) (s t : State), L.after args s (.returned (some (.int 1))) t = true) :
    ArmFor flags0 classFile x code maxLocals ret World_1 tables_1 room_1 Calls_1 rest_1 Pre_1
      (fun tb e a s o t => postC L tb e a s o t ∧ Framed s o t (fieldLocs frame_1_writes a s ++ arrayLocs frame_1_arrays a s ++ staticLocs frame_1_statics s) 600000 7302250) := by
  intro l _ _ _ p e ha hc hk s m args below hf hfit hheap happ hpre
  obtain ⟨k, o, h1, h2, h3, rfl, hF⟩ := lw_comes l p e ha hc hk s m args below hf hfit hheap happ hpre
  exact ⟨k, _, h1, h2, h3, hL args s _, lw_frame hF⟩
theorem i_vc : Claimed_1_1 ∧ Claimed_1_2 := ⟨lw_limb limb_1_1 (fun args s t => by simp [limb_1_1, Cond.after, Cond.holds, Cond.value]), lw_limb limb_1_2 (fun args s t => Cond.after_iff.mpr (by
  first | (rw [show limb_1_2 = Cond.eq .result (.int 1) from rfl, Cond.eq_ints (x := 1) (y := 1) rfl rfl]; simp; done) | (simp [limb_1_2, Cond.value, Term.eval]; done)))⟩
end
