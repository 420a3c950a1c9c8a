section
-- ===== PART A: goes FIRST, ahead of the names: the tables' words, and 'selects' of the private methods out of them =====
/-- a private method of a class that the tables say can be made, by its rows of tables_1 -/
def lw_okq (q : MethodName × Nat) : Prop := (q.1.cls ≠ "java/lang/invoke/MethodHandle" ∧ q.1.cls ≠ "java/lang/invoke/VarHandle") ∧ Cond.instantiable q.1.cls q.2 ∈ tables_1 ∧ Cond.privateMethod q.1 ∈ tables_1 ∧ Cond.instanceMethod q.1 ∈ tables_1
theorem lw_p0 : lw_okq (⟨"RegretLine", "rideAnew", "()V"⟩, 9) := ⟨⟨by decide +kernel, by decide +kernel⟩, List.mem_of_getElem? (i := 13) (by decide +kernel), List.mem_of_getElem? (i := 255) (by decide +kernel), List.mem_of_getElem? (i := 256) (by decide +kernel)⟩
theorem lw_p1 : lw_okq (⟨"RegretLine$Train", "regretBehind", "(II)I"⟩, 12) := ⟨⟨by decide +kernel, by decide +kernel⟩, List.mem_of_getElem? (i := 41) (by decide +kernel), List.mem_of_getElem? (i := 274) (by decide +kernel), List.mem_of_getElem? (i := 275) (by decide +kernel)⟩
theorem lw_p2 : lw_okq (⟨"RegretLine", "noPassenger", "(I)Z"⟩, 9) := ⟨⟨by decide +kernel, by decide +kernel⟩, List.mem_of_getElem? (i := 13) (by decide +kernel), List.mem_of_getElem? (i := 288) (by decide +kernel), List.mem_of_getElem? (i := 289) (by decide +kernel)⟩
theorem lw_p3 : lw_okq (⟨"RegretLine", "noLine", "()Z"⟩, 9) := ⟨⟨by decide +kernel, by decide +kernel⟩, List.mem_of_getElem? (i := 13) (by decide +kernel), List.mem_of_getElem? (i := 296) (by decide +kernel), List.mem_of_getElem? (i := 297) (by decide +kernel)⟩
theorem lw_p4 : lw_okq (⟨"RegretLine", "noMile", "(I)Z"⟩, 9) := ⟨⟨by decide +kernel, by decide +kernel⟩, List.mem_of_getElem? (i := 13) (by decide +kernel), List.mem_of_getElem? (i := 311) (by decide +kernel), List.mem_of_getElem? (i := 312) (by decide +kernel)⟩
theorem lw_p5 : lw_okq (⟨"RegretLine", "noPair", "(II)Z"⟩, 9) := ⟨⟨by decide +kernel, by decide +kernel⟩, List.mem_of_getElem? (i := 13) (by decide +kernel), List.mem_of_getElem? (i := 319) (by decide +kernel), List.mem_of_getElem? (i := 320) (by decide +kernel)⟩
theorem lw_p6 : lw_okq (⟨"RegretLine", "noMileNorEnd", "(I)Z"⟩, 9) := ⟨⟨by decide +kernel, by decide +kernel⟩, List.mem_of_getElem? (i := 13) (by decide +kernel), List.mem_of_getElem? (i := 327) (by decide +kernel), List.mem_of_getElem? (i := 328) (by decide +kernel)⟩
theorem lw_p7 : lw_okq (⟨"RegretLine", "ofSeating", "(I)I"⟩, 9) := ⟨⟨by decide +kernel, by decide +kernel⟩, List.mem_of_getElem? (i := 13) (by decide +kernel), List.mem_of_getElem? (i := 355) (by decide +kernel), List.mem_of_getElem? (i := 356) (by decide +kernel)⟩
theorem lw_p8 : lw_okq (⟨"RegretLine$Seating", "classOf", "(II)I"⟩, 3) := ⟨⟨by decide +kernel, by decide +kernel⟩, List.mem_of_getElem? (i := 124) (by decide +kernel), List.mem_of_getElem? (i := 364) (by decide +kernel), List.mem_of_getElem? (i := 365) (by decide +kernel)⟩
theorem lw_p9 : lw_okq (⟨"RegretLine", "knowLeast", "()V"⟩, 9) := ⟨⟨by decide +kernel, by decide +kernel⟩, List.mem_of_getElem? (i := 13) (by decide +kernel), List.mem_of_getElem? (i := 391) (by decide +kernel), List.mem_of_getElem? (i := 392) (by decide +kernel)⟩
theorem lw_p10 : lw_okq (⟨"RegretLine$Ease", "weigh", "(I)Z"⟩, 8) := ⟨⟨by decide +kernel, by decide +kernel⟩, List.mem_of_getElem? (i := 140) (by decide +kernel), List.mem_of_getElem? (i := 400) (by decide +kernel), List.mem_of_getElem? (i := 401) (by decide +kernel)⟩
theorem lw_p11 : lw_okq (⟨"RegretLine$Ease", "lowIn", "(II)I"⟩, 8) := ⟨⟨by decide +kernel, by decide +kernel⟩, List.mem_of_getElem? (i := 140) (by decide +kernel), List.mem_of_getElem? (i := 404) (by decide +kernel), List.mem_of_getElem? (i := 405) (by decide +kernel)⟩
theorem lw_p12 : lw_okq (⟨"RegretLine$Ease", "lookBack", "(I)V"⟩, 8) := ⟨⟨by decide +kernel, by decide +kernel⟩, List.mem_of_getElem? (i := 140) (by decide +kernel), List.mem_of_getElem? (i := 410) (by decide +kernel), List.mem_of_getElem? (i := 411) (by decide +kernel)⟩
theorem lw_p13 : lw_okq (⟨"RegretLine$Ease", "letChange", "(III)V"⟩, 8) := ⟨⟨by decide +kernel, by decide +kernel⟩, List.mem_of_getElem? (i := 140) (by decide +kernel), List.mem_of_getElem? (i := 415) (by decide +kernel), List.mem_of_getElem? (i := 416) (by decide +kernel)⟩
theorem lw_p14 : lw_okq (⟨"RegretLine$Ease", "choose", "()V"⟩, 8) := ⟨⟨by decide +kernel, by decide +kernel⟩, List.mem_of_getElem? (i := 140) (by decide +kernel), List.mem_of_getElem? (i := 419) (by decide +kernel), List.mem_of_getElem? (i := 420) (by decide +kernel)⟩
theorem lw_p15 : lw_okq (⟨"RegretLine$Ease", "firstOfLeast", "(II)I"⟩, 8) := ⟨⟨by decide +kernel, by decide +kernel⟩, List.mem_of_getElem? (i := 140) (by decide +kernel), List.mem_of_getElem? (i := 423) (by decide +kernel), List.mem_of_getElem? (i := 424) (by decide +kernel)⟩
def lw_privs_1 : List (MethodName × Nat) := [(⟨"RegretLine", "rideAnew", "()V"⟩, 9), (⟨"RegretLine$Train", "regretBehind", "(II)I"⟩, 12), (⟨"RegretLine", "noPassenger", "(I)Z"⟩, 9), (⟨"RegretLine", "noLine", "()Z"⟩, 9), (⟨"RegretLine", "noMile", "(I)Z"⟩, 9), (⟨"RegretLine", "noPair", "(II)Z"⟩, 9), (⟨"RegretLine", "noMileNorEnd", "(I)Z"⟩, 9), (⟨"RegretLine", "ofSeating", "(I)I"⟩, 9), (⟨"RegretLine$Seating", "classOf", "(II)I"⟩, 3), (⟨"RegretLine", "knowLeast", "()V"⟩, 9), (⟨"RegretLine$Ease", "weigh", "(I)Z"⟩, 8), (⟨"RegretLine$Ease", "lowIn", "(II)I"⟩, 8), (⟨"RegretLine$Ease", "lookBack", "(I)V"⟩, 8), (⟨"RegretLine$Ease", "letChange", "(III)V"⟩, 8), (⟨"RegretLine$Ease", "choose", "()V"⟩, 8), (⟨"RegretLine$Ease", "firstOfLeast", "(II)I"⟩, 8)]
theorem lw_r1 : ∀ q ∈ lw_privs_1, lw_okq q := List.forall_mem_cons.mpr ⟨lw_p0, List.forall_mem_cons.mpr ⟨lw_p1, List.forall_mem_cons.mpr ⟨lw_p2, List.forall_mem_cons.mpr ⟨lw_p3, List.forall_mem_cons.mpr ⟨lw_p4, List.forall_mem_cons.mpr ⟨lw_p5, List.forall_mem_cons.mpr ⟨lw_p6, List.forall_mem_cons.mpr ⟨lw_p7, List.forall_mem_cons.mpr ⟨lw_p8, List.forall_mem_cons.mpr ⟨lw_p9, List.forall_mem_cons.mpr ⟨lw_p10, List.forall_mem_cons.mpr ⟨lw_p11, List.forall_mem_cons.mpr ⟨lw_p12, List.forall_mem_cons.mpr ⟨lw_p13, List.forall_mem_cons.mpr ⟨lw_p14, List.forall_mem_cons.mpr ⟨lw_p15, fun _ h => absurd h List.not_mem_nil⟩⟩⟩⟩⟩⟩⟩⟩⟩⟩⟩⟩⟩⟩⟩⟩
theorem lw_p16 : lw_okq (⟨"RegretLine$Ease", "write", "(II)V"⟩, 8) := ⟨⟨by decide +kernel, by decide +kernel⟩, List.mem_of_getElem? (i := 140) (by decide +kernel), List.mem_of_getElem? (i := 430) (by decide +kernel), List.mem_of_getElem? (i := 431) (by decide +kernel)⟩
theorem lw_p17 : lw_okq (⟨"RegretLine", "guessIsSo", "()Z"⟩, 9) := ⟨⟨by decide +kernel, by decide +kernel⟩, List.mem_of_getElem? (i := 13) (by decide +kernel), List.mem_of_getElem? (i := 468) (by decide +kernel), List.mem_of_getElem? (i := 469) (by decide +kernel)⟩
theorem lw_p18 : lw_okq (⟨"RegretLine", "waysToBeDue", "(III)I"⟩, 9) := ⟨⟨by decide +kernel, by decide +kernel⟩, List.mem_of_getElem? (i := 13) (by decide +kernel), List.mem_of_getElem? (i := 490) (by decide +kernel), List.mem_of_getElem? (i := 491) (by decide +kernel)⟩
theorem lw_p19 : lw_okq (⟨"RegretLine", "comeTo", "(I)I"⟩, 9) := ⟨⟨by decide +kernel, by decide +kernel⟩, List.mem_of_getElem? (i := 13) (by decide +kernel), List.mem_of_getElem? (i := 499) (by decide +kernel), List.mem_of_getElem? (i := 500) (by decide +kernel)⟩
theorem lw_p20 : lw_okq (⟨"RegretLine", "tellHoneymooner", "(I)I"⟩, 9) := ⟨⟨by decide +kernel, by decide +kernel⟩, List.mem_of_getElem? (i := 13) (by decide +kernel), List.mem_of_getElem? (i := 540) (by decide +kernel), List.mem_of_getElem? (i := 541) (by decide +kernel)⟩
theorem lw_p21 : lw_okq (⟨"RegretLine", "leaveTrace", "(I)V"⟩, 9) := ⟨⟨by decide +kernel, by decide +kernel⟩, List.mem_of_getElem? (i := 13) (by decide +kernel), List.mem_of_getElem? (i := 544) (by decide +kernel), List.mem_of_getElem? (i := 545) (by decide +kernel)⟩
theorem lw_p22 : lw_okq (⟨"RegretLine", "tellWidow", "(I)I"⟩, 9) := ⟨⟨by decide +kernel, by decide +kernel⟩, List.mem_of_getElem? (i := 13) (by decide +kernel), List.mem_of_getElem? (i := 548) (by decide +kernel), List.mem_of_getElem? (i := 549) (by decide +kernel)⟩
theorem lw_p23 : lw_okq (⟨"RegretLine", "tellPassenger", "(I)I"⟩, 9) := ⟨⟨by decide +kernel, by decide +kernel⟩, List.mem_of_getElem? (i := 13) (by decide +kernel), List.mem_of_getElem? (i := 552) (by decide +kernel), List.mem_of_getElem? (i := 553) (by decide +kernel)⟩
theorem lw_p24 : lw_okq (⟨"RegretLineModel", "against", "(IIII)I"⟩, 30) := ⟨⟨by decide +kernel, by decide +kernel⟩, List.mem_of_getElem? (i := 576) (by decide +kernel), List.mem_of_getElem? (i := 686) (by decide +kernel), List.mem_of_getElem? (i := 687) (by decide +kernel)⟩
theorem lw_p25 : lw_okq (⟨"RegretLineModel", "fails", "(I)I"⟩, 30) := ⟨⟨by decide +kernel, by decide +kernel⟩, List.mem_of_getElem? (i := 576) (by decide +kernel), List.mem_of_getElem? (i := 690) (by decide +kernel), List.mem_of_getElem? (i := 691) (by decide +kernel)⟩
theorem lw_p26 : lw_okq (⟨"RegretLineModel", "readLine", "(I)Z"⟩, 30) := ⟨⟨by decide +kernel, by decide +kernel⟩, List.mem_of_getElem? (i := 576) (by decide +kernel), List.mem_of_getElem? (i := 694) (by decide +kernel), List.mem_of_getElem? (i := 695) (by decide +kernel)⟩
theorem lw_p27 : lw_okq (⟨"RegretLineModel", "isSign", "(II)Z"⟩, 30) := ⟨⟨by decide +kernel, by decide +kernel⟩, List.mem_of_getElem? (i := 576) (by decide +kernel), List.mem_of_getElem? (i := 698) (by decide +kernel), List.mem_of_getElem? (i := 699) (by decide +kernel)⟩
theorem lw_p28 : lw_okq (⟨"RegretLineModel", "digit", "(III)I"⟩, 30) := ⟨⟨by decide +kernel, by decide +kernel⟩, List.mem_of_getElem? (i := 576) (by decide +kernel), List.mem_of_getElem? (i := 702) (by decide +kernel), List.mem_of_getElem? (i := 703) (by decide +kernel)⟩
theorem lw_p29 : lw_okq (⟨"RegretLineModel", "readPassenger", "(I)Z"⟩, 30) := ⟨⟨by decide +kernel, by decide +kernel⟩, List.mem_of_getElem? (i := 576) (by decide +kernel), List.mem_of_getElem? (i := 706) (by decide +kernel), List.mem_of_getElem? (i := 707) (by decide +kernel)⟩
theorem lw_p30 : lw_okq (⟨"RegretLineModel", "takeLine", "()V"⟩, 30) := ⟨⟨by decide +kernel, by decide +kernel⟩, List.mem_of_getElem? (i := 576) (by decide +kernel), List.mem_of_getElem? (i := 710) (by decide +kernel), List.mem_of_getElem? (i := 711) (by decide +kernel)⟩
theorem lw_p31 : lw_okq (⟨"RegretLineModel", "isPassenger", "(I)Z"⟩, 30) := ⟨⟨by decide +kernel, by decide +kernel⟩, List.mem_of_getElem? (i := 576) (by decide +kernel), List.mem_of_getElem? (i := 718) (by decide +kernel), List.mem_of_getElem? (i := 719) (by decide +kernel)⟩
def lw_privs_2 : List (MethodName × Nat) := [(⟨"RegretLine$Ease", "write", "(II)V"⟩, 8), (⟨"RegretLine", "guessIsSo", "()Z"⟩, 9), (⟨"RegretLine", "waysToBeDue", "(III)I"⟩, 9), (⟨"RegretLine", "comeTo", "(I)I"⟩, 9), (⟨"RegretLine", "tellHoneymooner", "(I)I"⟩, 9), (⟨"RegretLine", "leaveTrace", "(I)V"⟩, 9), (⟨"RegretLine", "tellWidow", "(I)I"⟩, 9), (⟨"RegretLine", "tellPassenger", "(I)I"⟩, 9), (⟨"RegretLineModel", "against", "(IIII)I"⟩, 30), (⟨"RegretLineModel", "fails", "(I)I"⟩, 30), (⟨"RegretLineModel", "readLine", "(I)Z"⟩, 30), (⟨"RegretLineModel", "isSign", "(II)Z"⟩, 30), (⟨"RegretLineModel", "digit", "(III)I"⟩, 30), (⟨"RegretLineModel", "readPassenger", "(I)Z"⟩, 30), (⟨"RegretLineModel", "takeLine", "()V"⟩, 30), (⟨"RegretLineModel", "isPassenger", "(I)Z"⟩, 30)]
theorem lw_r2 : ∀ q ∈ lw_privs_2, lw_okq q := List.forall_mem_cons.mpr ⟨lw_p16, List.forall_mem_cons.mpr ⟨lw_p17, List.forall_mem_cons.mpr ⟨lw_p18, List.forall_mem_cons.mpr ⟨lw_p19, List.forall_mem_cons.mpr ⟨lw_p20, List.forall_mem_cons.mpr ⟨lw_p21, List.forall_mem_cons.mpr ⟨lw_p22, List.forall_mem_cons.mpr ⟨lw_p23, List.forall_mem_cons.mpr ⟨lw_p24, List.forall_mem_cons.mpr ⟨lw_p25, List.forall_mem_cons.mpr ⟨lw_p26, List.forall_mem_cons.mpr ⟨lw_p27, List.forall_mem_cons.mpr ⟨lw_p28, List.forall_mem_cons.mpr ⟨lw_p29, List.forall_mem_cons.mpr ⟨lw_p30, List.forall_mem_cons.mpr ⟨lw_p31, fun _ h => absurd h List.not_mem_nil⟩⟩⟩⟩⟩⟩⟩⟩⟩⟩⟩⟩⟩⟩⟩⟩
theorem lw_p32 : lw_okq (⟨"RegretLineModel", "isMile", "(I)Z"⟩, 30) := ⟨⟨by decide +kernel, by decide +kernel⟩, List.mem_of_getElem? (i := 576) (by decide +kernel), List.mem_of_getElem? (i := 734) (by decide +kernel), List.mem_of_getElem? (i := 735) (by decide +kernel)⟩
theorem lw_p33 : lw_okq (⟨"RegretLineModel", "goTo", "(I)V"⟩, 30) := ⟨⟨by decide +kernel, by decide +kernel⟩, List.mem_of_getElem? (i := 576) (by decide +kernel), List.mem_of_getElem? (i := 746) (by decide +kernel), List.mem_of_getElem? (i := 747) (by decide +kernel)⟩
theorem lw_p34 : lw_okq (⟨"RegretLineModel", "begin", "()V"⟩, 30) := ⟨⟨by decide +kernel, by decide +kernel⟩, List.mem_of_getElem? (i := 576) (by decide +kernel), List.mem_of_getElem? (i := 750) (by decide +kernel), List.mem_of_getElem? (i := 751) (by decide +kernel)⟩
theorem lw_p35 : lw_okq (⟨"RegretLineModel", "goMile", "(IZ)V"⟩, 30) := ⟨⟨by decide +kernel, by decide +kernel⟩, List.mem_of_getElem? (i := 576) (by decide +kernel), List.mem_of_getElem? (i := 754) (by decide +kernel), List.mem_of_getElem? (i := 755) (by decide +kernel)⟩
theorem lw_p36 : lw_okq (⟨"RegretLineModel", "changes", "(IZ)I"⟩, 30) := ⟨⟨by decide +kernel, by decide +kernel⟩, List.mem_of_getElem? (i := 576) (by decide +kernel), List.mem_of_getElem? (i := 758) (by decide +kernel), List.mem_of_getElem? (i := 759) (by decide +kernel)⟩
theorem lw_p37 : lw_okq (⟨"RegretLineModel", "dueBy", "(I)I"⟩, 30) := ⟨⟨by decide +kernel, by decide +kernel⟩, List.mem_of_getElem? (i := 576) (by decide +kernel), List.mem_of_getElem? (i := 770) (by decide +kernel), List.mem_of_getElem? (i := 771) (by decide +kernel)⟩
theorem lw_p38 : lw_okq (⟨"RegretLineModel", "wrongBy", "(I)I"⟩, 30) := ⟨⟨by decide +kernel, by decide +kernel⟩, List.mem_of_getElem? (i := 576) (by decide +kernel), List.mem_of_getElem? (i := 778) (by decide +kernel), List.mem_of_getElem? (i := 779) (by decide +kernel)⟩
theorem lw_p39 : lw_okq (⟨"RegretLineModel", "seatedIn", "(II)I"⟩, 30) := ⟨⟨by decide +kernel, by decide +kernel⟩, List.mem_of_getElem? (i := 576) (by decide +kernel), List.mem_of_getElem? (i := 782) (by decide +kernel), List.mem_of_getElem? (i := 783) (by decide +kernel)⟩
theorem lw_p40 : lw_okq (⟨"RegretLineModel", "tellSeating", "(II)I"⟩, 30) := ⟨⟨by decide +kernel, by decide +kernel⟩, List.mem_of_getElem? (i := 576) (by decide +kernel), List.mem_of_getElem? (i := 786) (by decide +kernel), List.mem_of_getElem? (i := 787) (by decide +kernel)⟩
theorem lw_p41 : lw_okq (⟨"RegretLineModel", "layDues", "()V"⟩, 30) := ⟨⟨by decide +kernel, by decide +kernel⟩, List.mem_of_getElem? (i := 576) (by decide +kernel), List.mem_of_getElem? (i := 790) (by decide +kernel), List.mem_of_getElem? (i := 791) (by decide +kernel)⟩
theorem lw_p42 : lw_okq (⟨"RegretLineModel", "changesBy", "(I)I"⟩, 30) := ⟨⟨by decide +kernel, by decide +kernel⟩, List.mem_of_getElem? (i := 576) (by decide +kernel), List.mem_of_getElem? (i := 794) (by decide +kernel), List.mem_of_getElem? (i := 795) (by decide +kernel)⟩
theorem lw_p43 : lw_okq (⟨"RegretLineModel", "lowBy", "(I)I"⟩, 30) := ⟨⟨by decide +kernel, by decide +kernel⟩, List.mem_of_getElem? (i := 576) (by decide +kernel), List.mem_of_getElem? (i := 798) (by decide +kernel), List.mem_of_getElem? (i := 799) (by decide +kernel)⟩
theorem lw_p44 : lw_okq (⟨"RegretLineModel", "aboveBy", "(II)I"⟩, 30) := ⟨⟨by decide +kernel, by decide +kernel⟩, List.mem_of_getElem? (i := 576) (by decide +kernel), List.mem_of_getElem? (i := 802) (by decide +kernel), List.mem_of_getElem? (i := 803) (by decide +kernel)⟩
theorem lw_p45 : lw_okq (⟨"RegretLineModel", "rows", "()I"⟩, 30) := ⟨⟨by decide +kernel, by decide +kernel⟩, List.mem_of_getElem? (i := 576) (by decide +kernel), List.mem_of_getElem? (i := 810) (by decide +kernel), List.mem_of_getElem? (i := 811) (by decide +kernel)⟩
theorem lw_p46 : lw_okq (⟨"RegretLineModel", "findEase", "(I)V"⟩, 30) := ⟨⟨by decide +kernel, by decide +kernel⟩, List.mem_of_getElem? (i := 576) (by decide +kernel), List.mem_of_getElem? (i := 814) (by decide +kernel), List.mem_of_getElem? (i := 815) (by decide +kernel)⟩
theorem lw_p47 : lw_okq (⟨"RegretLineModel", "lowIn", "(II)I"⟩, 30) := ⟨⟨by decide +kernel, by decide +kernel⟩, List.mem_of_getElem? (i := 576) (by decide +kernel), List.mem_of_getElem? (i := 818) (by decide +kernel), List.mem_of_getElem? (i := 819) (by decide +kernel)⟩
def lw_privs_3 : List (MethodName × Nat) := [(⟨"RegretLineModel", "isMile", "(I)Z"⟩, 30), (⟨"RegretLineModel", "goTo", "(I)V"⟩, 30), (⟨"RegretLineModel", "begin", "()V"⟩, 30), (⟨"RegretLineModel", "goMile", "(IZ)V"⟩, 30), (⟨"RegretLineModel", "changes", "(IZ)I"⟩, 30), (⟨"RegretLineModel", "dueBy", "(I)I"⟩, 30), (⟨"RegretLineModel", "wrongBy", "(I)I"⟩, 30), (⟨"RegretLineModel", "seatedIn", "(II)I"⟩, 30), (⟨"RegretLineModel", "tellSeating", "(II)I"⟩, 30), (⟨"RegretLineModel", "layDues", "()V"⟩, 30), (⟨"RegretLineModel", "changesBy", "(I)I"⟩, 30), (⟨"RegretLineModel", "lowBy", "(I)I"⟩, 30), (⟨"RegretLineModel", "aboveBy", "(II)I"⟩, 30), (⟨"RegretLineModel", "rows", "()I"⟩, 30), (⟨"RegretLineModel", "findEase", "(I)V"⟩, 30), (⟨"RegretLineModel", "lowIn", "(II)I"⟩, 30)]
theorem lw_r3 : ∀ q ∈ lw_privs_3, lw_okq q := List.forall_mem_cons.mpr ⟨lw_p32, List.forall_mem_cons.mpr ⟨lw_p33, List.forall_mem_cons.mpr ⟨lw_p34, List.forall_mem_cons.mpr ⟨lw_p35, List.forall_mem_cons.mpr ⟨lw_p36, List.forall_mem_cons.mpr ⟨lw_p37, List.forall_mem_cons.mpr ⟨lw_p38, List.forall_mem_cons.mpr ⟨lw_p39, List.forall_mem_cons.mpr ⟨lw_p40, List.forall_mem_cons.mpr ⟨lw_p41, List.forall_mem_cons.mpr ⟨lw_p42, List.forall_mem_cons.mpr ⟨lw_p43, List.forall_mem_cons.mpr ⟨lw_p44, List.forall_mem_cons.mpr ⟨lw_p45, List.forall_mem_cons.mpr ⟨lw_p46, List.forall_mem_cons.mpr ⟨lw_p47, fun _ h => absurd h List.not_mem_nil⟩⟩⟩⟩⟩⟩⟩⟩⟩⟩⟩⟩⟩⟩⟩⟩
theorem lw_p48 : lw_okq (⟨"RegretLineModel", "place", "(II)I"⟩, 30) := ⟨⟨by decide +kernel, by decide +kernel⟩, List.mem_of_getElem? (i := 576) (by decide +kernel), List.mem_of_getElem? (i := 822) (by decide +kernel), List.mem_of_getElem? (i := 823) (by decide +kernel)⟩
theorem lw_p49 : lw_okq (⟨"RegretLineModel", "bestBehind", "(III)I"⟩, 30) := ⟨⟨by decide +kernel, by decide +kernel⟩, List.mem_of_getElem? (i := 576) (by decide +kernel), List.mem_of_getElem? (i := 826) (by decide +kernel), List.mem_of_getElem? (i := 827) (by decide +kernel)⟩
theorem lw_p50 : lw_okq (⟨"RegretLineModel", "changed", "(II)I"⟩, 30) := ⟨⟨by decide +kernel, by decide +kernel⟩, List.mem_of_getElem? (i := 576) (by decide +kernel), List.mem_of_getElem? (i := 830) (by decide +kernel), List.mem_of_getElem? (i := 831) (by decide +kernel)⟩
theorem lw_p51 : lw_okq (⟨"RegretLineModel", "bestRow", "(III)I"⟩, 30) := ⟨⟨by decide +kernel, by decide +kernel⟩, List.mem_of_getElem? (i := 576) (by decide +kernel), List.mem_of_getElem? (i := 834) (by decide +kernel), List.mem_of_getElem? (i := 835) (by decide +kernel)⟩
theorem lw_p52 : lw_okq (⟨"RegretLineModel", "dueTogether", "(II)I"⟩, 30) := ⟨⟨by decide +kernel, by decide +kernel⟩, List.mem_of_getElem? (i := 576) (by decide +kernel), List.mem_of_getElem? (i := 846) (by decide +kernel), List.mem_of_getElem? (i := 847) (by decide +kernel)⟩
theorem lw_p53 : lw_okq (⟨"RegretLineModel", "areSo", "()Z"⟩, 30) := ⟨⟨by decide +kernel, by decide +kernel⟩, List.mem_of_getElem? (i := 576) (by decide +kernel), List.mem_of_getElem? (i := 862) (by decide +kernel), List.mem_of_getElem? (i := 863) (by decide +kernel)⟩
theorem lw_p54 : lw_okq (⟨"RegretLineModel", "areSoIn", "(I)Z"⟩, 30) := ⟨⟨by decide +kernel, by decide +kernel⟩, List.mem_of_getElem? (i := 576) (by decide +kernel), List.mem_of_getElem? (i := 866) (by decide +kernel), List.mem_of_getElem? (i := 867) (by decide +kernel)⟩
theorem lw_p55 : lw_okq (⟨"RegretLineModel", "lost", "(I)J"⟩, 30) := ⟨⟨by decide +kernel, by decide +kernel⟩, List.mem_of_getElem? (i := 576) (by decide +kernel), List.mem_of_getElem? (i := 902) (by decide +kernel), List.mem_of_getElem? (i := 903) (by decide +kernel)⟩
theorem lw_p56 : lw_okq (⟨"RegretLineModel", "begins", "(I)V"⟩, 30) := ⟨⟨by decide +kernel, by decide +kernel⟩, List.mem_of_getElem? (i := 576) (by decide +kernel), List.mem_of_getElem? (i := 914) (by decide +kernel), List.mem_of_getElem? (i := 915) (by decide +kernel)⟩
def lw_privs_4 : List (MethodName × Nat) := [(⟨"RegretLineModel", "place", "(II)I"⟩, 30), (⟨"RegretLineModel", "bestBehind", "(III)I"⟩, 30), (⟨"RegretLineModel", "changed", "(II)I"⟩, 30), (⟨"RegretLineModel", "bestRow", "(III)I"⟩, 30), (⟨"RegretLineModel", "dueTogether", "(II)I"⟩, 30), (⟨"RegretLineModel", "areSo", "()Z"⟩, 30), (⟨"RegretLineModel", "areSoIn", "(I)Z"⟩, 30), (⟨"RegretLineModel", "lost", "(I)J"⟩, 30), (⟨"RegretLineModel", "begins", "(I)V"⟩, 30)]
theorem lw_r4 : ∀ q ∈ lw_privs_4, lw_okq q := List.forall_mem_cons.mpr ⟨lw_p48, List.forall_mem_cons.mpr ⟨lw_p49, List.forall_mem_cons.mpr ⟨lw_p50, List.forall_mem_cons.mpr ⟨lw_p51, List.forall_mem_cons.mpr ⟨lw_p52, List.forall_mem_cons.mpr ⟨lw_p53, List.forall_mem_cons.mpr ⟨lw_p54, List.forall_mem_cons.mpr ⟨lw_p55, List.forall_mem_cons.mpr ⟨lw_p56, fun _ h => absurd h List.not_mem_nil⟩⟩⟩⟩⟩⟩⟩⟩⟩
def lw_privs : List (MethodName × Nat) := lw_privs_1 ++ (lw_privs_2 ++ (lw_privs_3 ++ (lw_privs_4)))
def lw_tbl : List Cond := k2_sels lw_privs ++ tables_1
theorem lw_privs_ok : ∀ q ∈ lw_privs, lw_okq q := by
  show ∀ q ∈ lw_privs_1 ++ (lw_privs_2 ++ (lw_privs_3 ++ (lw_privs_4))), lw_okq q
  exact List.forall_mem_append.mpr ⟨lw_r1, List.forall_mem_append.mpr ⟨lw_r2, List.forall_mem_append.mpr ⟨lw_r3, lw_r4⟩⟩⟩
end
section
/-! ===== BEGIN printed: names, fields, word lists, decode rows ===== -/
def RX0 : String := "RegretLine$Ease"
def TX0 : u_T := fun k => match k with
  | 0 => ("RegretLine$Ease", "train", "LRegretLine$Train;", true)
  | 1 => ("RegretLine$Ease", "toGo", "[[I", true)
  | 2 => ("RegretLine$Ease", "behind", "[I", true)
  | 3 => ("RegretLine$Ease", "sitting", "[I", true)
  | 4 => ("RegretLine$Ease", "ways", "I", false)
  | 5 => ("RegretLine$Ease", "row", "[I", true)
  | 6 => ("RegretLine$Ease", "trouble", "I", false)
  | _ => ("RegretLine$Ease", "stuckIn", "I", false)
def tyX0 : Nat → FieldType := fun k => match k with
  | 0 => .object "RegretLine$Train"
  | 1 => .array (.array .int)
  | 2 => .array .int
  | 3 => .array .int
  | 4 => .int
  | 5 => .array .int
  | 6 => .int
  | _ => .int
abbrev wsX00 : List Cond := u_ws RX0 TX0 8
theorem nmX0 : ∀ a, a < 8 → ∀ b, b < 8 → a ≠ b → (TX0 a).2.1 ≠ (TX0 b).2.1 := by decide +kernel
theorem tyX0_ok : ∀ k, k < 8 → parseFieldDescriptor (TX0 k).2.2.1 = some (tyX0 k) := by decide +kernel
abbrev cX0_init : ByteArray := prog_2_method_1_code
def yX0_init : MethodName := ⟨RX0, "<init>", "(LRegretLine$Train;)V"⟩
abbrev cX0_seek : ByteArray := prog_2_method_2_code
def yX0_seek : MethodName := ⟨RX0, "seek", "()V"⟩
abbrev cX0_weigh : ByteArray := prog_2_method_3_code
def yX0_weigh : MethodName := ⟨RX0, "weigh", "(I)Z"⟩
abbrev cX0_lowIn : ByteArray := prog_2_method_4_code
def yX0_lowIn : MethodName := ⟨RX0, "lowIn", "(II)I"⟩
abbrev cX0_lookBack : ByteArray := prog_2_method_5_code
def yX0_lookBack : MethodName := ⟨RX0, "lookBack", "(I)V"⟩
abbrev cX0_letChange : ByteArray := prog_2_method_6_code
def yX0_letChange : MethodName := ⟨RX0, "letChange", "(III)V"⟩
abbrev cX0_choose : ByteArray := prog_2_method_7_code
def yX0_choose : MethodName := ⟨RX0, "choose", "()V"⟩
abbrev cX0_firstOfLeast : ByteArray := prog_2_method_8_code
def yX0_firstOfLeast : MethodName := ⟨RX0, "firstOfLeast", "(II)I"⟩
abbrev cX0_changesBetween : ByteArray := prog_2_method_9_code
def yX0_changesBetween : MethodName := ⟨RX0, "changesBetween", "(II)I"⟩
abbrev cX0_write : ByteArray := prog_2_method_10_code
def yX0_write : MethodName := ⟨RX0, "write", "(II)V"⟩
def RX1 : String := "RegretLine$Readings"
def TX1 : u_T := fun k => match k with
  | 0 => ("RegretLine$Readings", "who", "[I", true)
  | 1 => ("RegretLine$Readings", "where", "[I", true)
  | 2 => ("RegretLine$Readings", "seen", "[I", true)
  | _ => ("RegretLine$Readings", "count", "I", false)
def tyX1 : Nat → FieldType := fun k => match k with
  | 0 => .array .int
  | 1 => .array .int
  | 2 => .array .int
  | _ => .int
abbrev wsX10 : List Cond := u_ws RX1 TX1 4
theorem nmX1 : ∀ a, a < 4 → ∀ b, b < 4 → a ≠ b → (TX1 a).2.1 ≠ (TX1 b).2.1 := by decide +kernel
theorem tyX1_ok : ∀ k, k < 4 → parseFieldDescriptor (TX1 k).2.2.1 = some (tyX1 k) := by decide +kernel
abbrev cX1_init : ByteArray := prog_3_method_1_code
def yX1_init : MethodName := ⟨RX1, "<init>", "()V"⟩
abbrev cX1_keep : ByteArray := prog_3_method_2_code
def yX1_keep : MethodName := ⟨RX1, "keep", "(III)I"⟩
abbrev cX1_areSo : ByteArray := prog_3_method_3_code
def yX1_areSo : MethodName := ⟨RX1, "areSo", "(LRegretLine$Train;)Z"⟩
def RX2 : String := "RegretLine$Seating"
def TX2 : u_T := fun k => match k with
  | 0 => ("RegretLine$Seating", "train", "LRegretLine$Train;", true)
  | 1 => ("RegretLine$Seating", "row", "[I", true)
  | _ => ("RegretLine$Seating", "sitting", "[I", true)
def tyX2 : Nat → FieldType := fun k => match k with
  | 0 => .object "RegretLine$Train"
  | 1 => .array .int
  | _ => .array .int
abbrev wsX20 : List Cond := u_ws RX2 TX2 3
theorem nmX2 : ∀ a, a < 3 → ∀ b, b < 3 → a ≠ b → (TX2 a).2.1 ≠ (TX2 b).2.1 := by decide +kernel
theorem tyX2_ok : ∀ k, k < 3 → parseFieldDescriptor (TX2 k).2.2.1 = some (tyX2 k) := by decide +kernel
abbrev cX2_init : ByteArray := prog_4_method_1_code
def yX2_init : MethodName := ⟨RX2, "<init>", "(LRegretLine$Train;)V"⟩
abbrev cX2_readFrom : ByteArray := prog_4_method_2_code
def yX2_readFrom : MethodName := ⟨RX2, "readFrom", "([II)Z"⟩
abbrev cX2_classOf : ByteArray := prog_4_method_3_code
def yX2_classOf : MethodName := ⟨RX2, "classOf", "(II)I"⟩
abbrev cX2_firstWrong : ByteArray := prog_4_method_4_code
def yX2_firstWrong : MethodName := ⟨RX2, "firstWrong", "()I"⟩
abbrev cX2_countChanges : ByteArray := prog_4_method_5_code
def yX2_countChanges : MethodName := ⟨RX2, "countChanges", "()I"⟩
abbrev cX2_countLow : ByteArray := prog_4_method_6_code
def yX2_countLow : MethodName := ⟨RX2, "countLow", "()I"⟩
abbrev cX2_countAbove : ByteArray := prog_4_method_7_code
def yX2_countAbove : MethodName := ⟨RX2, "countAbove", "()I"⟩
abbrev cX2_milesAbove : ByteArray := prog_4_method_8_code
def yX2_milesAbove : MethodName := ⟨RX2, "milesAbove", "(I)I"⟩
def RX3 : String := "RegretLine$Sheet"
def TX3 : u_T := fun k => match k with
  | 0 => ("RegretLine$Sheet", "cells", "[I", true)
  | 1 => ("RegretLine$Sheet", "lane", "I", false)
  | _ => ("RegretLine$Sheet", "size", "I", false)
def tyX3 : Nat → FieldType := fun k => match k with
  | 0 => .array .int
  | 1 => .int
  | _ => .int
abbrev wsX30 : List Cond := u_ws RX3 TX3 3
theorem nmX3 : ∀ a, a < 3 → ∀ b, b < 3 → a ≠ b → (TX3 a).2.1 ≠ (TX3 b).2.1 := by decide +kernel
theorem tyX3_ok : ∀ k, k < 3 → parseFieldDescriptor (TX3 k).2.2.1 = some (tyX3 k) := by decide +kernel
abbrev cX3_init : ByteArray := prog_5_method_1_code
def yX3_init : MethodName := ⟨RX3, "<init>", "()V"⟩
abbrev cX3_renew : ByteArray := prog_5_method_2_code
def yX3_renew : MethodName := ⟨RX3, "renew", "(II)V"⟩
abbrev cX3_hasNothing : ByteArray := prog_5_method_3_code
def yX3_hasNothing : MethodName := ⟨RX3, "hasNothing", "()Z"⟩
abbrev cX3_noCell : ByteArray := prog_5_method_4_code
def yX3_noCell : MethodName := ⟨RX3, "noCell", "(I)Z"⟩
abbrev cX3_lacksCells : ByteArray := prog_5_method_5_code
def yX3_lacksCells : MethodName := ⟨RX3, "lacksCells", "(II)Z"⟩
abbrev cX3_cut : ByteArray := prog_5_method_6_code
def yX3_cut : MethodName := ⟨RX3, "cut", "(I)I"⟩
abbrev cX3_faultOfRow : ByteArray := prog_5_method_7_code
def yX3_faultOfRow : MethodName := ⟨RX3, "faultOfRow", "(I)I"⟩
abbrev cX3_faultOfCells : ByteArray := prog_5_method_8_code
def yX3_faultOfCells : MethodName := ⟨RX3, "faultOfCells", "(III)I"⟩
def RX4 : String := "RegretLine$Text"
def TX4 : u_T := fun k => match k with
  | _ => ("", "", "", false)
def tyX4 : Nat → FieldType := fun k => match k with
  | _ => .int
abbrev wsX40 : List Cond := u_ws RX4 TX4 0
theorem nmX4 : ∀ a, a < 0 → ∀ b, b < 0 → a ≠ b → (TX4 a).2.1 ≠ (TX4 b).2.1 := by decide +kernel
theorem tyX4_ok : ∀ k, k < 0 → parseFieldDescriptor (TX4 k).2.2.1 = some (tyX4 k) := by decide +kernel
abbrev cX4_firstFault : ByteArray := prog_6_method_2_code
def yX4_firstFault : MethodName := ⟨RX4, "firstFault", "([III)I"⟩
abbrev cX4_fitsHead : ByteArray := prog_6_method_3_code
def yX4_fitsHead : MethodName := ⟨RX4, "fitsHead", "(II)Z"⟩
abbrev cX4_isMile : ByteArray := prog_6_method_4_code
def yX4_isMile : MethodName := ⟨RX4, "isMile", "(I)Z"⟩
abbrev cX4_fitsPassenger : ByteArray := prog_6_method_5_code
def yX4_fitsPassenger : MethodName := ⟨RX4, "fitsPassenger", "(II)Z"⟩
abbrev cX4_isDigit : ByteArray := prog_6_method_6_code
def yX4_isDigit : MethodName := ⟨RX4, "isDigit", "(II)Z"⟩
abbrev cX4_kindOf : ByteArray := prog_6_method_7_code
def yX4_kindOf : MethodName := ⟨RX4, "kindOf", "(I)I"⟩
def RX5 : String := "RegretLine$Train"
def TX5 : u_T := fun k => match k with
  | 0 => ("RegretLine$Train", "seatsOf", "[I", true)
  | 1 => ("RegretLine$Train", "tunnel", "[Z", true)
  | 2 => ("RegretLine$Train", "talker", "[I", true)
  | 3 => ("RegretLine$Train", "listener", "[I", true)
  | 4 => ("RegretLine$Train", "kind", "[I", true)
  | 5 => ("RegretLine$Train", "first", "[I", true)
  | 6 => ("RegretLine$Train", "fades", "[I", true)
  | 7 => ("RegretLine$Train", "regrets", "[[I", true)
  | 8 => ("RegretLine$Train", "miles", "I", false)
  | 9 => ("RegretLine$Train", "passengers", "I", false)
  | 10 => ("RegretLine$Train", "firstLimit", "I", false)
  | _ => ("RegretLine$Train", "secondLimit", "I", false)
def tyX5 : Nat → FieldType := fun k => match k with
  | 0 => .array .int
  | 1 => .array .boolean
  | 2 => .array .int
  | 3 => .array .int
  | 4 => .array .int
  | 5 => .array .int
  | 6 => .array .int
  | 7 => .array (.array .int)
  | 8 => .int
  | 9 => .int
  | 10 => .int
  | _ => .int
abbrev wsX50 : List Cond := u_ws RX5 TX5 12
theorem nmX5 : ∀ a, a < 12 → ∀ b, b < 12 → a ≠ b → (TX5 a).2.1 ≠ (TX5 b).2.1 := by decide +kernel
theorem tyX5_ok : ∀ k, k < 12 → parseFieldDescriptor (TX5 k).2.2.1 = some (tyX5 k) := by decide +kernel
abbrev cX5_init : ByteArray := prog_7_method_1_code
def yX5_init : MethodName := ⟨RX5, "<init>", "()V"⟩
abbrev cX5_readFrom : ByteArray := prog_7_method_2_code
def yX5_readFrom : MethodName := ⟨RX5, "readFrom", "([III)V"⟩
abbrev cX5_becomeLike : ByteArray := prog_7_method_3_code
def yX5_becomeLike : MethodName := ⟨RX5, "becomeLike", "(LRegretLine$Train;)V"⟩
abbrev cX5_rideAll : ByteArray := prog_7_method_4_code
def yX5_rideAll : MethodName := ⟨RX5, "rideAll", "()V"⟩
abbrev cX5_rideFrom : ByteArray := prog_7_method_5_code
def yX5_rideFrom : MethodName := ⟨RX5, "rideFrom", "(I)V"⟩
abbrev cX5_rideThrough : ByteArray := prog_7_method_6_code
def yX5_rideThrough : MethodName := ⟨RX5, "rideThrough", "(I)V"⟩
abbrev cX5_regretBehind : ByteArray := prog_7_method_7_code
def yX5_regretBehind : MethodName := ⟨RX5, "regretBehind", "(II)I"⟩
abbrev cX5_regretAhead : ByteArray := prog_7_method_8_code
def yX5_regretAhead : MethodName := ⟨RX5, "regretAhead", "(II)I"⟩
abbrev cX5_classDue : ByteArray := prog_7_method_9_code
def yX5_classDue : MethodName := ⟨RX5, "classDue", "(II)I"⟩
abbrev cX5_dueTogether : ByteArray := prog_7_method_10_code
def yX5_dueTogether : MethodName := ⟨RX5, "dueTogether", "(I)I"⟩
def RX6 : String := "RegretLine"
def TX6 : u_T := fun k => match k with
  | 0 => ("RegretLine", "sheets", "[LRegretLine$Sheet;", true)
  | 1 => ("RegretLine", "train", "LRegretLine$Train;", true)
  | 2 => ("RegretLine", "guess", "LRegretLine$Train;", true)
  | 3 => ("RegretLine", "readings", "LRegretLine$Readings;", true)
  | 4 => ("RegretLine", "told", "LRegretLine$Seating;", true)
  | 5 => ("RegretLine", "least", "LRegretLine$Ease;", true)
  | 6 => ("RegretLine", "leastKnown", "Z", false)
  | 7 => ("RegretLine", "traced", "I", false)
  | _ => ("RegretLine", "lastFault", "I", false)
def tyX6 : Nat → FieldType := fun k => match k with
  | 0 => .array (.object "RegretLine$Sheet")
  | 1 => .object "RegretLine$Train"
  | 2 => .object "RegretLine$Train"
  | 3 => .object "RegretLine$Readings"
  | 4 => .object "RegretLine$Seating"
  | 5 => .object "RegretLine$Ease"
  | 6 => .boolean
  | 7 => .int
  | _ => .int
abbrev wsX60 : List Cond := u_ws RX6 TX6 9
theorem nmX6 : ∀ a, a < 9 → ∀ b, b < 9 → a ≠ b → (TX6 a).2.1 ≠ (TX6 b).2.1 := by decide +kernel
theorem tyX6_ok : ∀ k, k < 9 → parseFieldDescriptor (TX6 k).2.2.1 = some (tyX6 k) := by decide +kernel
abbrev cX6_init : ByteArray := prog_1_method_1_code
def yX6_init : MethodName := ⟨RX6, "<init>", "()V"⟩
abbrev cX6_line : ByteArray := prog_1_method_2_code
def yX6_line : MethodName := ⟨RX6, "line", "(IIII)I"⟩
abbrev cX6_ofPassenger : ByteArray := prog_1_method_3_code
def yX6_ofPassenger : MethodName := ⟨RX6, "ofPassenger", "(II)I"⟩
abbrev cX6_seats : ByteArray := prog_1_method_4_code
def yX6_seats : MethodName := ⟨RX6, "seats", "(II)I"⟩
abbrev cX6_limits : ByteArray := prog_1_method_5_code
def yX6_limits : MethodName := ⟨RX6, "limits", "(II)I"⟩
abbrev cX6_dig : ByteArray := prog_1_method_6_code
def yX6_dig : MethodName := ⟨RX6, "dig", "(IZ)I"⟩
abbrev cX6_talk : ByteArray := prog_1_method_7_code
def yX6_talk : MethodName := ⟨RX6, "talk", "(III)I"⟩
abbrev cX6_regret : ByteArray := prog_1_method_8_code
def yX6_regret : MethodName := ⟨RX6, "regret", "(II)I"⟩
abbrev cX6_due : ByteArray := prog_1_method_9_code
def yX6_due : MethodName := ⟨RX6, "due", "(II)I"⟩
abbrev cX6_seating : ByteArray := prog_1_method_10_code
def yX6_seating : MethodName := ⟨RX6, "seating", "(IIIII)I"⟩
abbrev cX6_noQuestionOfSeating : ByteArray := prog_1_method_11_code
def yX6_noQuestionOfSeating : MethodName := ⟨RX6, "noQuestionOfSeating", "(I)Z"⟩
abbrev cX6_ofSeating : ByteArray := prog_1_method_12_code
def yX6_ofSeating : MethodName := ⟨RX6, "ofSeating", "(I)I"⟩
abbrev cX6_ease : ByteArray := prog_1_method_13_code
def yX6_ease : MethodName := ⟨RX6, "ease", "(I)I"⟩
abbrev cX6_stuck : ByteArray := prog_1_method_14_code
def yX6_stuck : MethodName := ⟨RX6, "stuck", "()I"⟩
abbrev cX6_help : ByteArray := prog_1_method_15_code
def yX6_help : MethodName := ⟨RX6, "help", "(III)I"⟩
abbrev cX6_knowLeast : ByteArray := prog_1_method_16_code
def yX6_knowLeast : MethodName := ⟨RX6, "knowLeast", "()V"⟩
abbrev cX6_reading : ByteArray := prog_1_method_17_code
def yX6_reading : MethodName := ⟨RX6, "reading", "(III)I"⟩
abbrev cX6_back : ByteArray := prog_1_method_18_code
def yX6_back : MethodName := ⟨RX6, "back", "(I)I"⟩
abbrev cX6_began : ByteArray := prog_1_method_19_code
def yX6_began : MethodName := ⟨RX6, "began", "(II)I"⟩
abbrev cX6_kinds : ByteArray := prog_1_method_20_code
def yX6_kinds : MethodName := ⟨RX6, "kinds", "(I)I"⟩
abbrev cX6_fadings : ByteArray := prog_1_method_21_code
def yX6_fadings : MethodName := ⟨RX6, "fadings", "(I)I"⟩
abbrev cX6_guessIsSo : ByteArray := prog_1_method_22_code
def yX6_guessIsSo : MethodName := ⟨RX6, "guessIsSo", "()Z"⟩
abbrev cX6_odds : ByteArray := prog_1_method_23_code
def yX6_odds : MethodName := ⟨RX6, "odds", "(III)J"⟩
abbrev cX6_waysToBeDue : ByteArray := prog_1_method_24_code
def yX6_waysToBeDue : MethodName := ⟨RX6, "waysToBeDue", "(III)I"⟩
abbrev cX6_sheet : ByteArray := prog_1_method_25_code
def yX6_sheet : MethodName := ⟨RX6, "sheet", "(III)I"⟩
abbrev cX6_lose : ByteArray := prog_1_method_26_code
def yX6_lose : MethodName := ⟨RX6, "lose", "(I)I"⟩
abbrev cX6_put : ByteArray := prog_1_method_27_code
def yX6_put : MethodName := ⟨RX6, "put", "(III)I"⟩
abbrev cX6_cell : ByteArray := prog_1_method_28_code
def yX6_cell : MethodName := ⟨RX6, "cell", "(III)J"⟩
abbrev cX6_copy : ByteArray := prog_1_method_29_code
def yX6_copy : MethodName := ⟨RX6, "copy", "(IIIII)I"⟩
abbrev cX6_tell : ByteArray := prog_1_method_30_code
def yX6_tell : MethodName := ⟨RX6, "tell", "(I)I"⟩
abbrev cX6_tellPassenger : ByteArray := prog_1_method_31_code
def yX6_tellPassenger : MethodName := ⟨RX6, "tellPassenger", "(I)I"⟩
abbrev cX6_tellWidow : ByteArray := prog_1_method_32_code
def yX6_tellWidow : MethodName := ⟨RX6, "tellWidow", "(I)I"⟩
abbrev cX6_tellHoneymooner : ByteArray := prog_1_method_33_code
def yX6_tellHoneymooner : MethodName := ⟨RX6, "tellHoneymooner", "(I)I"⟩
abbrev cX6_call : ByteArray := prog_1_method_34_code
def yX6_call : MethodName := ⟨RX6, "call", "(I)I"⟩
abbrev cX6_leaveTrace : ByteArray := prog_1_method_35_code
def yX6_leaveTrace : MethodName := ⟨RX6, "leaveTrace", "(I)V"⟩
abbrev cX6_as : ByteArray := prog_1_method_36_code
def yX6_as : MethodName := ⟨RX6, "as", "(II)I"⟩
abbrev cX6_trace : ByteArray := prog_1_method_37_code
def yX6_trace : MethodName := ⟨RX6, "trace", "()I"⟩
abbrev cX6_fault : ByteArray := prog_1_method_38_code
def yX6_fault : MethodName := ⟨RX6, "fault", "()I"⟩
abbrev cX6_many : ByteArray := prog_1_method_39_code
def yX6_many : MethodName := ⟨RX6, "many", "(I)I"⟩
abbrev cX6_comeTo : ByteArray := prog_1_method_40_code
def yX6_comeTo : MethodName := ⟨RX6, "comeTo", "(I)I"⟩
abbrev cX6_rideAnew : ByteArray := prog_1_method_41_code
def yX6_rideAnew : MethodName := ⟨RX6, "rideAnew", "()V"⟩
abbrev cX6_noLine : ByteArray := prog_1_method_42_code
def yX6_noLine : MethodName := ⟨RX6, "noLine", "()Z"⟩
abbrev cX6_noPassenger : ByteArray := prog_1_method_43_code
def yX6_noPassenger : MethodName := ⟨RX6, "noPassenger", "(I)Z"⟩
abbrev cX6_noPair : ByteArray := prog_1_method_44_code
def yX6_noPair : MethodName := ⟨RX6, "noPair", "(II)Z"⟩
abbrev cX6_noMile : ByteArray := prog_1_method_45_code
def yX6_noMile : MethodName := ⟨RX6, "noMile", "(I)Z"⟩
abbrev cX6_noMileNorEnd : ByteArray := prog_1_method_46_code
def yX6_noMileNorEnd : MethodName := ⟨RX6, "noMileNorEnd", "(I)Z"⟩
abbrev cX6_noClass : ByteArray := prog_1_method_47_code
def yX6_noClass : MethodName := ⟨RX6, "noClass", "(I)Z"⟩
abbrev cX6_noSheet : ByteArray := prog_1_method_48_code
def yX6_noSheet : MethodName := ⟨RX6, "noSheet", "(I)Z"⟩
abbrev cX6_noLane : ByteArray := prog_1_method_49_code
def yX6_noLane : MethodName := ⟨RX6, "noLane", "(I)Z"⟩
def RX7 : String := "RegretLineModel"
def TX7 : u_T := fun k => match k with
  | 0 => ("RegretLineModel", "fault", "I", false)
  | 1 => ("RegretLineModel", "trace", "I", false)
  | 2 => ("RegretLineModel", "sorts", "[I", true)
  | 3 => ("RegretLineModel", "sheetLong", "[I", true)
  | 4 => ("RegretLineModel", "cells", "[I", true)
  | 5 => ("RegretLineModel", "miles", "I", false)
  | 6 => ("RegretLineModel", "people", "I", false)
  | 7 => ("RegretLineModel", "first", "I", false)
  | 8 => ("RegretLineModel", "second", "I", false)
  | 9 => ("RegretLineModel", "seatsOf", "[I", true)
  | 10 => ("RegretLineModel", "isTunnel", "[Z", true)
  | 11 => ("RegretLineModel", "talksA", "[I", true)
  | 12 => ("RegretLineModel", "talksB", "[I", true)
  | 13 => ("RegretLineModel", "kind", "[I", true)
  | 14 => ("RegretLineModel", "began", "[I", true)
  | 15 => ("RegretLineModel", "fades", "[I", true)
  | 16 => ("RegretLineModel", "at", "I", false)
  | 17 => ("RegretLineModel", "readMiles", "I", false)
  | 18 => ("RegretLineModel", "readMany", "I", false)
  | 19 => ("RegretLineModel", "readSeats", "[I", true)
  | 20 => ("RegretLineModel", "readTunnel", "[Z", true)
  | 21 => ("RegretLineModel", "read", "[I", true)
  | 22 => ("RegretLineModel", "regrets", "[I", true)
  | 23 => ("RegretLineModel", "dues", "[I", true)
  | 24 => ("RegretLineModel", "trouble", "[I", true)
  | 25 => ("RegretLineModel", "unit", "[I", true)
  | 26 => ("RegretLineModel", "readings", "I", false)
  | 27 => ("RegretLineModel", "readWho", "[I", true)
  | 28 => ("RegretLineModel", "readMile", "[I", true)
  | _ => ("RegretLineModel", "readClass", "[I", true)
def tyX7 : Nat → FieldType := fun k => match k with
  | 0 => .int
  | 1 => .int
  | 2 => .array .int
  | 3 => .array .int
  | 4 => .array .int
  | 5 => .int
  | 6 => .int
  | 7 => .int
  | 8 => .int
  | 9 => .array .int
  | 10 => .array .boolean
  | 11 => .array .int
  | 12 => .array .int
  | 13 => .array .int
  | 14 => .array .int
  | 15 => .array .int
  | 16 => .int
  | 17 => .int
  | 18 => .int
  | 19 => .array .int
  | 20 => .array .boolean
  | 21 => .array .int
  | 22 => .array .int
  | 23 => .array .int
  | 24 => .array .int
  | 25 => .array .int
  | 26 => .int
  | 27 => .array .int
  | 28 => .array .int
  | _ => .array .int
abbrev wsX70 : List Cond := u_ws RX7 TX7 30
theorem nmX7 : ∀ a, a < 30 → ∀ b, b < 30 → a ≠ b → (TX7 a).2.1 ≠ (TX7 b).2.1 := by decide +kernel
theorem tyX7_ok : ∀ k, k < 30 → parseFieldDescriptor (TX7 k).2.2.1 = some (tyX7 k) := by decide +kernel
abbrev cX7_init : ByteArray := prog_9_method_1_code
def yX7_init : MethodName := ⟨RX7, "<init>", "()V"⟩
abbrev cX7_fails : ByteArray := prog_9_method_3_code
def yX7_fails : MethodName := ⟨RX7, "fails", "(I)I"⟩
abbrev cX7_lost : ByteArray := prog_9_method_4_code
def yX7_lost : MethodName := ⟨RX7, "lost", "(I)J"⟩
abbrev cX7_within : ByteArray := prog_9_method_5_code
def yX7_within : MethodName := ⟨RX7, "within", "(III)Z"⟩
abbrev cX7_isSheet : ByteArray := prog_9_method_6_code
def yX7_isSheet : MethodName := ⟨RX7, "isSheet", "(I)Z"⟩
abbrev cX7_isSort : ByteArray := prog_9_method_7_code
def yX7_isSort : MethodName := ⟨RX7, "isSort", "(I)Z"⟩
abbrev cX7_against : ByteArray := prog_9_method_8_code
def yX7_against : MethodName := ⟨RX7, "against", "(IIII)I"⟩
abbrev cX7_isPassenger : ByteArray := prog_9_method_9_code
def yX7_isPassenger : MethodName := ⟨RX7, "isPassenger", "(I)Z"⟩
abbrev cX7_isMile : ByteArray := prog_9_method_10_code
def yX7_isMile : MethodName := ⟨RX7, "isMile", "(I)Z"⟩
abbrev cX7_digit : ByteArray := prog_9_method_11_code
def yX7_digit : MethodName := ⟨RX7, "digit", "(III)I"⟩
abbrev cX7_isSign : ByteArray := prog_9_method_12_code
def yX7_isSign : MethodName := ⟨RX7, "isSign", "(II)Z"⟩
abbrev cX7_line : ByteArray := prog_9_method_13_code
def yX7_line : MethodName := ⟨RX7, "line", "(IIII)I"⟩
abbrev cX7_takeLine : ByteArray := prog_9_method_14_code
def yX7_takeLine : MethodName := ⟨RX7, "takeLine", "()V"⟩
abbrev cX7_readLine : ByteArray := prog_9_method_15_code
def yX7_readLine : MethodName := ⟨RX7, "readLine", "(I)Z"⟩
abbrev cX7_readPassenger : ByteArray := prog_9_method_16_code
def yX7_readPassenger : MethodName := ⟨RX7, "readPassenger", "(I)Z"⟩
abbrev cX7_ofPassenger : ByteArray := prog_9_method_17_code
def yX7_ofPassenger : MethodName := ⟨RX7, "ofPassenger", "(II)I"⟩
abbrev cX7_seats : ByteArray := prog_9_method_18_code
def yX7_seats : MethodName := ⟨RX7, "seats", "(II)I"⟩
abbrev cX7_limits : ByteArray := prog_9_method_19_code
def yX7_limits : MethodName := ⟨RX7, "limits", "(II)I"⟩
abbrev cX7_dig : ByteArray := prog_9_method_20_code
def yX7_dig : MethodName := ⟨RX7, "dig", "(IZ)I"⟩
abbrev cX7_talk : ByteArray := prog_9_method_21_code
def yX7_talk : MethodName := ⟨RX7, "talk", "(III)I"⟩
abbrev cX7_bounded : ByteArray := prog_9_method_22_code
def yX7_bounded : MethodName := ⟨RX7, "bounded", "(I)I"⟩
abbrev cX7_changes : ByteArray := prog_9_method_23_code
def yX7_changes : MethodName := ⟨RX7, "changes", "(IZ)I"⟩
abbrev cX7_goMile : ByteArray := prog_9_method_24_code
def yX7_goMile : MethodName := ⟨RX7, "goMile", "(IZ)V"⟩
abbrev cX7_begin : ByteArray := prog_9_method_25_code
def yX7_begin : MethodName := ⟨RX7, "begin", "()V"⟩
abbrev cX7_goTo : ByteArray := prog_9_method_26_code
def yX7_goTo : MethodName := ⟨RX7, "goTo", "(I)V"⟩
abbrev cX7_dueBy : ByteArray := prog_9_method_27_code
def yX7_dueBy : MethodName := ⟨RX7, "dueBy", "(I)I"⟩
abbrev cX7_regret : ByteArray := prog_9_method_28_code
def yX7_regret : MethodName := ⟨RX7, "regret", "(II)I"⟩
abbrev cX7_due : ByteArray := prog_9_method_29_code
def yX7_due : MethodName := ⟨RX7, "due", "(II)I"⟩
abbrev cX7_layDues : ByteArray := prog_9_method_30_code
def yX7_layDues : MethodName := ⟨RX7, "layDues", "()V"⟩
abbrev cX7_seatedIn : ByteArray := prog_9_method_31_code
def yX7_seatedIn : MethodName := ⟨RX7, "seatedIn", "(II)I"⟩
abbrev cX7_wrongBy : ByteArray := prog_9_method_32_code
def yX7_wrongBy : MethodName := ⟨RX7, "wrongBy", "(I)I"⟩
abbrev cX7_changesBy : ByteArray := prog_9_method_33_code
def yX7_changesBy : MethodName := ⟨RX7, "changesBy", "(I)I"⟩
abbrev cX7_lowBy : ByteArray := prog_9_method_34_code
def yX7_lowBy : MethodName := ⟨RX7, "lowBy", "(I)I"⟩
abbrev cX7_aboveBy : ByteArray := prog_9_method_35_code
def yX7_aboveBy : MethodName := ⟨RX7, "aboveBy", "(II)I"⟩
abbrev cX7_seating : ByteArray := prog_9_method_36_code
def yX7_seating : MethodName := ⟨RX7, "seating", "(IIIII)I"⟩
abbrev cX7_tellSeating : ByteArray := prog_9_method_37_code
def yX7_tellSeating : MethodName := ⟨RX7, "tellSeating", "(II)I"⟩
abbrev cX7_rows : ByteArray := prog_9_method_38_code
def yX7_rows : MethodName := ⟨RX7, "rows", "()I"⟩
abbrev cX7_place : ByteArray := prog_9_method_39_code
def yX7_place : MethodName := ⟨RX7, "place", "(II)I"⟩
abbrev cX7_lowIn : ByteArray := prog_9_method_40_code
def yX7_lowIn : MethodName := ⟨RX7, "lowIn", "(II)I"⟩
abbrev cX7_changed : ByteArray := prog_9_method_41_code
def yX7_changed : MethodName := ⟨RX7, "changed", "(II)I"⟩
abbrev cX7_bestBehind : ByteArray := prog_9_method_42_code
def yX7_bestBehind : MethodName := ⟨RX7, "bestBehind", "(III)I"⟩
abbrev cX7_findEase : ByteArray := prog_9_method_43_code
def yX7_findEase : MethodName := ⟨RX7, "findEase", "(I)V"⟩
abbrev cX7_bestRow : ByteArray := prog_9_method_44_code
def yX7_bestRow : MethodName := ⟨RX7, "bestRow", "(III)I"⟩
abbrev cX7_ease : ByteArray := prog_9_method_45_code
def yX7_ease : MethodName := ⟨RX7, "ease", "(I)I"⟩
abbrev cX7_stuck : ByteArray := prog_9_method_46_code
def yX7_stuck : MethodName := ⟨RX7, "stuck", "()I"⟩
abbrev cX7_dueTogether : ByteArray := prog_9_method_47_code
def yX7_dueTogether : MethodName := ⟨RX7, "dueTogether", "(II)I"⟩
abbrev cX7_help : ByteArray := prog_9_method_48_code
def yX7_help : MethodName := ⟨RX7, "help", "(III)I"⟩
abbrev cX7_reading : ByteArray := prog_9_method_49_code
def yX7_reading : MethodName := ⟨RX7, "reading", "(III)I"⟩
abbrev cX7_back : ByteArray := prog_9_method_50_code
def yX7_back : MethodName := ⟨RX7, "back", "(I)I"⟩
abbrev cX7_areSoIn : ByteArray := prog_9_method_51_code
def yX7_areSoIn : MethodName := ⟨RX7, "areSoIn", "(I)Z"⟩
abbrev cX7_areSo : ByteArray := prog_9_method_52_code
def yX7_areSo : MethodName := ⟨RX7, "areSo", "()Z"⟩
abbrev cX7_began : ByteArray := prog_9_method_53_code
def yX7_began : MethodName := ⟨RX7, "began", "(II)I"⟩
abbrev cX7_kinds : ByteArray := prog_9_method_54_code
def yX7_kinds : MethodName := ⟨RX7, "kinds", "(I)I"⟩
abbrev cX7_fadings : ByteArray := prog_9_method_55_code
def yX7_fadings : MethodName := ⟨RX7, "fadings", "(I)I"⟩
abbrev cX7_inLeastTerms : ByteArray := prog_9_method_56_code
def yX7_inLeastTerms : MethodName := ⟨RX7, "inLeastTerms", "(JJI)J"⟩
abbrev cX7_odds : ByteArray := prog_9_method_57_code
def yX7_odds : MethodName := ⟨RX7, "odds", "(III)J"⟩
abbrev cX7_sheet : ByteArray := prog_9_method_58_code
def yX7_sheet : MethodName := ⟨RX7, "sheet", "(III)I"⟩
abbrev cX7_lose : ByteArray := prog_9_method_59_code
def yX7_lose : MethodName := ⟨RX7, "lose", "(I)I"⟩
abbrev cX7_put : ByteArray := prog_9_method_60_code
def yX7_put : MethodName := ⟨RX7, "put", "(III)I"⟩
abbrev cX7_cell : ByteArray := prog_9_method_61_code
def yX7_cell : MethodName := ⟨RX7, "cell", "(III)J"⟩
abbrev cX7_copy : ByteArray := prog_9_method_62_code
def yX7_copy : MethodName := ⟨RX7, "copy", "(IIIII)I"⟩
abbrev cX7_begins : ByteArray := prog_9_method_63_code
def yX7_begins : MethodName := ⟨RX7, "begins", "(I)V"⟩
abbrev cX7_tell : ByteArray := prog_9_method_64_code
def yX7_tell : MethodName := ⟨RX7, "tell", "(I)I"⟩
abbrev cX7_call : ByteArray := prog_9_method_65_code
def yX7_call : MethodName := ⟨RX7, "call", "(I)I"⟩
abbrev cX7_as : ByteArray := prog_9_method_66_code
def yX7_as : MethodName := ⟨RX7, "as", "(II)I"⟩
abbrev cX7_trace : ByteArray := prog_9_method_67_code
def yX7_trace : MethodName := ⟨RX7, "trace", "()I"⟩
abbrev cX7_fault : ByteArray := prog_9_method_68_code
def yX7_fault : MethodName := ⟨RX7, "fault", "()I"⟩
abbrev cX7_many : ByteArray := prog_9_method_69_code
def yX7_many : MethodName := ⟨RX7, "many", "(I)I"⟩
def RJ9 : String := "java/lang/Math"
def TJ9 : u_T := fun k => match k with
  | _ => ("", "", "", false)
def tyJ9 : Nat → FieldType := fun k => match k with
  | _ => .int
abbrev wsJ90 : List Cond := u_ws RJ9 TJ9 0
theorem nmJ9 : ∀ a, a < 0 → ∀ b, b < 0 → a ≠ b → (TJ9 a).2.1 ≠ (TJ9 b).2.1 := by decide +kernel
theorem tyJ9_ok : ∀ k, k < 0 → parseFieldDescriptor (TJ9 k).2.2.1 = some (tyJ9 k) := by decide +kernel
abbrev cJ9_max_7cf53 : ByteArray := prog_10_method_65_code
def yJ9_max_7cf53 : MethodName := ⟨RJ9, "max", "(II)I"⟩
abbrev cJ9_min_7cf53 : ByteArray := prog_10_method_69_code
def yJ9_min_7cf53 : MethodName := ⟨RJ9, "min", "(II)I"⟩
def RJ10 : String := "java/lang/System"
def TJ10 : u_T := fun k => match k with
  | _ => ("", "", "", false)
def tyJ10 : Nat → FieldType := fun k => match k with
  | _ => .int
abbrev wsJ100 : List Cond := u_ws RJ10 TJ10 0
theorem nmJ10 : ∀ a, a < 0 → ∀ b, b < 0 → a ≠ b → (TJ10 a).2.1 ≠ (TJ10 b).2.1 := by decide +kernel
theorem tyJ10_ok : ∀ k, k < 0 → parseFieldDescriptor (TJ10 k).2.2.1 = some (tyJ10 k) := by decide +kernel
def RJ7 : String := "java/util/Arrays"
def TJ7 : u_T := fun k => match k with
  | _ => ("", "", "", false)
def tyJ7 : Nat → FieldType := fun k => match k with
  | _ => .int
abbrev wsJ70 : List Cond := u_ws RJ7 TJ7 0
theorem nmJ7 : ∀ a, a < 0 → ∀ b, b < 0 → a ≠ b → (TJ7 a).2.1 ≠ (TJ7 b).2.1 := by decide +kernel
theorem tyJ7_ok : ∀ k, k < 0 → parseFieldDescriptor (TJ7 k).2.2.1 = some (tyJ7 k) := by decide +kernel
abbrev cJ7_fill_53178 : ByteArray := prog_12_method_103_code
def yJ7_fill_53178 : MethodName := ⟨RJ7, "fill", "([II)V"⟩
def RL : String := "RegretLineLaw"
abbrev cL_law : ByteArray := code
def yL_law : MethodName := ⟨RL, "law", "([I)Z"⟩
abbrev vwCl : List vw_C := [(RX0, TX0, 8), (RX1, TX1, 4), (RX2, TX2, 3), (RX3, TX3, 3), (RX5, TX5, 12), (RX6, TX6, 9), (RX7, TX7, 30)]
/-- the tables' words that every state keeps -/
def am_BW : List Cond := lw_tbl.filter goodWord
theorem am_BW_good : GoodIn lw_tbl am_BW := fun w h => ⟨(List.mem_filter.mp h).1, good_of_word (List.mem_filter.mp h).2⟩
theorem am_BW_self : GoodIn am_BW am_BW := fun w h => ⟨h, good_of_word (List.mem_filter.mp h).2⟩
theorem am_BW_i {w : Cond} (i : Nat) (h : lw_tbl[i]? = some w) (g : goodWord w = true) : w ∈ am_BW := List.mem_filter.mpr ⟨List.mem_of_getElem? h, g⟩
theorem wE_yX6_rideAnew : Cond.selects RX6 yX6_rideAnew yX6_rideAnew ∈ am_BW := am_BW_i 0 rfl rfl
theorem wE_yX5_regretBehind : Cond.selects RX5 yX5_regretBehind yX5_regretBehind ∈ am_BW := am_BW_i 1 rfl rfl
theorem wE_yX6_noPassenger : Cond.selects RX6 yX6_noPassenger yX6_noPassenger ∈ am_BW := am_BW_i 2 rfl rfl
theorem wE_yX6_noLine : Cond.selects RX6 yX6_noLine yX6_noLine ∈ am_BW := am_BW_i 3 rfl rfl
theorem wE_yX6_noMile : Cond.selects RX6 yX6_noMile yX6_noMile ∈ am_BW := am_BW_i 4 rfl rfl
theorem wE_yX6_noPair : Cond.selects RX6 yX6_noPair yX6_noPair ∈ am_BW := am_BW_i 5 rfl rfl
theorem wE_yX6_noMileNorEnd : Cond.selects RX6 yX6_noMileNorEnd yX6_noMileNorEnd ∈ am_BW := am_BW_i 6 rfl rfl
theorem wE_yX6_ofSeating : Cond.selects RX6 yX6_ofSeating yX6_ofSeating ∈ am_BW := am_BW_i 7 rfl rfl
theorem wE_yX2_classOf : Cond.selects RX2 yX2_classOf yX2_classOf ∈ am_BW := am_BW_i 8 rfl rfl
theorem wE_yX6_knowLeast : Cond.selects RX6 yX6_knowLeast yX6_knowLeast ∈ am_BW := am_BW_i 9 rfl rfl
theorem wE_yX0_weigh : Cond.selects RX0 yX0_weigh yX0_weigh ∈ am_BW := am_BW_i 10 rfl rfl
theorem wE_yX0_lowIn : Cond.selects RX0 yX0_lowIn yX0_lowIn ∈ am_BW := am_BW_i 11 rfl rfl
theorem wE_yX0_lookBack : Cond.selects RX0 yX0_lookBack yX0_lookBack ∈ am_BW := am_BW_i 12 rfl rfl
theorem wE_yX0_letChange : Cond.selects RX0 yX0_letChange yX0_letChange ∈ am_BW := am_BW_i 13 rfl rfl
theorem wE_yX0_choose : Cond.selects RX0 yX0_choose yX0_choose ∈ am_BW := am_BW_i 14 rfl rfl
theorem wE_yX0_firstOfLeast : Cond.selects RX0 yX0_firstOfLeast yX0_firstOfLeast ∈ am_BW := am_BW_i 15 rfl rfl
theorem wE_yX0_write : Cond.selects RX0 yX0_write yX0_write ∈ am_BW := am_BW_i 16 rfl rfl
theorem wE_yX6_guessIsSo : Cond.selects RX6 yX6_guessIsSo yX6_guessIsSo ∈ am_BW := am_BW_i 17 rfl rfl
theorem wE_yX6_waysToBeDue : Cond.selects RX6 yX6_waysToBeDue yX6_waysToBeDue ∈ am_BW := am_BW_i 18 rfl rfl
theorem wE_yX6_comeTo : Cond.selects RX6 yX6_comeTo yX6_comeTo ∈ am_BW := am_BW_i 19 rfl rfl
theorem wE_yX6_tellHoneymooner : Cond.selects RX6 yX6_tellHoneymooner yX6_tellHoneymooner ∈ am_BW := am_BW_i 20 rfl rfl
theorem wE_yX6_leaveTrace : Cond.selects RX6 yX6_leaveTrace yX6_leaveTrace ∈ am_BW := am_BW_i 21 rfl rfl
theorem wE_yX6_tellWidow : Cond.selects RX6 yX6_tellWidow yX6_tellWidow ∈ am_BW := am_BW_i 22 rfl rfl
theorem wE_yX6_tellPassenger : Cond.selects RX6 yX6_tellPassenger yX6_tellPassenger ∈ am_BW := am_BW_i 23 rfl rfl
theorem wE_yX7_against : Cond.selects RX7 yX7_against yX7_against ∈ am_BW := am_BW_i 24 rfl rfl
theorem wE_yX7_fails : Cond.selects RX7 yX7_fails yX7_fails ∈ am_BW := am_BW_i 25 rfl rfl
theorem wE_yX7_readLine : Cond.selects RX7 yX7_readLine yX7_readLine ∈ am_BW := am_BW_i 26 rfl rfl
theorem wE_yX7_isSign : Cond.selects RX7 yX7_isSign yX7_isSign ∈ am_BW := am_BW_i 27 rfl rfl
theorem wE_yX7_digit : Cond.selects RX7 yX7_digit yX7_digit ∈ am_BW := am_BW_i 28 rfl rfl
theorem wE_yX7_readPassenger : Cond.selects RX7 yX7_readPassenger yX7_readPassenger ∈ am_BW := am_BW_i 29 rfl rfl
theorem wE_yX7_takeLine : Cond.selects RX7 yX7_takeLine yX7_takeLine ∈ am_BW := am_BW_i 30 rfl rfl
theorem wE_yX7_isPassenger : Cond.selects RX7 yX7_isPassenger yX7_isPassenger ∈ am_BW := am_BW_i 31 rfl rfl
theorem wE_yX7_isMile : Cond.selects RX7 yX7_isMile yX7_isMile ∈ am_BW := am_BW_i 32 rfl rfl
theorem wE_yX7_goTo : Cond.selects RX7 yX7_goTo yX7_goTo ∈ am_BW := am_BW_i 33 rfl rfl
theorem wE_yX7_begin : Cond.selects RX7 yX7_begin yX7_begin ∈ am_BW := am_BW_i 34 rfl rfl
theorem wE_yX7_goMile : Cond.selects RX7 yX7_goMile yX7_goMile ∈ am_BW := am_BW_i 35 rfl rfl
theorem wE_yX7_changes : Cond.selects RX7 yX7_changes yX7_changes ∈ am_BW := am_BW_i 36 rfl rfl
theorem wE_yX7_dueBy : Cond.selects RX7 yX7_dueBy yX7_dueBy ∈ am_BW := am_BW_i 37 rfl rfl
theorem wE_yX7_wrongBy : Cond.selects RX7 yX7_wrongBy yX7_wrongBy ∈ am_BW := am_BW_i 38 rfl rfl
theorem wE_yX7_seatedIn : Cond.selects RX7 yX7_seatedIn yX7_seatedIn ∈ am_BW := am_BW_i 39 rfl rfl
theorem wE_yX7_tellSeating : Cond.selects RX7 yX7_tellSeating yX7_tellSeating ∈ am_BW := am_BW_i 40 rfl rfl
theorem wE_yX7_layDues : Cond.selects RX7 yX7_layDues yX7_layDues ∈ am_BW := am_BW_i 41 rfl rfl
theorem wE_yX7_changesBy : Cond.selects RX7 yX7_changesBy yX7_changesBy ∈ am_BW := am_BW_i 42 rfl rfl
theorem wE_yX7_lowBy : Cond.selects RX7 yX7_lowBy yX7_lowBy ∈ am_BW := am_BW_i 43 rfl rfl
theorem wE_yX7_aboveBy : Cond.selects RX7 yX7_aboveBy yX7_aboveBy ∈ am_BW := am_BW_i 44 rfl rfl
theorem wE_yX7_rows : Cond.selects RX7 yX7_rows yX7_rows ∈ am_BW := am_BW_i 45 rfl rfl
theorem wE_yX7_findEase : Cond.selects RX7 yX7_findEase yX7_findEase ∈ am_BW := am_BW_i 46 rfl rfl
theorem wE_yX7_lowIn : Cond.selects RX7 yX7_lowIn yX7_lowIn ∈ am_BW := am_BW_i 47 rfl rfl
theorem wE_yX7_place : Cond.selects RX7 yX7_place yX7_place ∈ am_BW := am_BW_i 48 rfl rfl
theorem wE_yX7_bestBehind : Cond.selects RX7 yX7_bestBehind yX7_bestBehind ∈ am_BW := am_BW_i 49 rfl rfl
theorem wE_yX7_changed : Cond.selects RX7 yX7_changed yX7_changed ∈ am_BW := am_BW_i 50 rfl rfl
theorem wE_yX7_bestRow : Cond.selects RX7 yX7_bestRow yX7_bestRow ∈ am_BW := am_BW_i 51 rfl rfl
theorem wE_yX7_dueTogether : Cond.selects RX7 yX7_dueTogether yX7_dueTogether ∈ am_BW := am_BW_i 52 rfl rfl
theorem wE_yX7_areSo : Cond.selects RX7 yX7_areSo yX7_areSo ∈ am_BW := am_BW_i 53 rfl rfl
theorem wE_yX7_areSoIn : Cond.selects RX7 yX7_areSoIn yX7_areSoIn ∈ am_BW := am_BW_i 54 rfl rfl
theorem wE_yX7_lost : Cond.selects RX7 yX7_lost yX7_lost ∈ am_BW := am_BW_i 55 rfl rfl
theorem wE_yX7_begins : Cond.selects RX7 yX7_begins yX7_begins ∈ am_BW := am_BW_i 56 rfl rfl
theorem wI_L : Cond.initialized RL ∈ am_BW := am_BW_i 57 rfl rfl
theorem wI_X6 : Cond.initialized RX6 ∈ am_BW := am_BW_i 58 rfl rfl
theorem wI_X3 : Cond.initialized RX3 ∈ am_BW := am_BW_i 59 rfl rfl
theorem wI_X5 : Cond.initialized RX5 ∈ am_BW := am_BW_i 60 rfl rfl
theorem wI_X1 : Cond.initialized RX1 ∈ am_BW := am_BW_i 61 rfl rfl
theorem wI_X2 : Cond.initialized RX2 ∈ am_BW := am_BW_i 62 rfl rfl
theorem wI_X0 : Cond.initialized RX0 ∈ am_BW := am_BW_i 63 rfl rfl
theorem wI_X7 : Cond.initialized RX7 ∈ am_BW := am_BW_i 64 rfl rfl
theorem wI_X4 : Cond.initialized RX4 ∈ am_BW := am_BW_i 65 rfl rfl
theorem wI_J7 : Cond.initialized RJ7 ∈ am_BW := am_BW_i 66 rfl rfl
theorem wI_J10 : Cond.initialized RJ10 ∈ am_BW := am_BW_i 67 rfl rfl
theorem wI_J9 : Cond.initialized RJ9 ∈ am_BW := am_BW_i 68 rfl rfl
theorem wK_L_7 : Cond.classLink RL 7 RX6 ∈ am_BW := am_BW_i 69 rfl rfl
theorem wT_X6 : Cond.instantiable RX6 9 ∈ lw_tbl := List.mem_of_getElem? (i := 70) rfl
theorem wM_L_9 : Cond.methodLink RL 9 yX6_init ∈ am_BW := am_BW_i 71 rfl rfl
theorem wN_yX6_init : Cond.instanceMethod yX6_init ∈ am_BW := am_BW_i 72 rfl rfl
theorem wC_yX6_init : Cond.code yX6_init cX6_init 2 none ∈ am_BW := am_BW_i 73 rfl rfl
theorem wM_X6_3 : Cond.methodLink RX6 3 objectInit ∈ am_BW := am_BW_i 74 rfl rfl
theorem wN_objectInit : Cond.instanceMethod objectInit ∈ am_BW := am_BW_i 75 rfl rfl
theorem wC_objectInit : Cond.code objectInit object_method_1_code 1 none ∈ am_BW := am_BW_i 76 rfl rfl
theorem wK_X6_11 : Cond.classLink RX6 11 RX3 ∈ am_BW := am_BW_i 77 rfl rfl
theorem wO_78 : Cond.arrayOver (FieldType.object "RegretLine$Sheet") ∈ lw_tbl := List.mem_of_getElem? (i := 78) rfl
theorem wT_X3 : Cond.instantiable RX3 3 ∈ lw_tbl := List.mem_of_getElem? (i := 79) rfl
theorem wMN_X6_17 : Cond.methodLinkNest RX6 17 yX3_init RX6 ∈ lw_tbl := List.mem_of_getElem? (i := 80) rfl
theorem wN_yX3_init : Cond.instanceMethod yX3_init ∈ am_BW := am_BW_i 81 rfl rfl
theorem wC_yX3_init : Cond.code yX3_init cX3_init 1 none ∈ am_BW := am_BW_i 82 rfl rfl
theorem wM_X3_3 : Cond.methodLink RX3 3 objectInit ∈ am_BW := am_BW_i 83 rfl rfl
theorem wF_X3_9 : Cond.fieldLink RX3 9 "RegretLine$Sheet" "cells" "[I" ∈ am_BW := am_BW_i 84 rfl rfl
theorem wF_X6_73 : Cond.fieldLink RX6 73 "RegretLine$Sheet" "cells" "[I" ∈ am_BW := am_BW_i 85 rfl rfl
theorem wF_X3_15 : Cond.fieldLink RX3 15 "RegretLine$Sheet" "lane" "I" ∈ am_BW := am_BW_i 86 rfl rfl
theorem wF_X6_236 : Cond.fieldLink RX6 236 "RegretLine$Sheet" "lane" "I" ∈ am_BW := am_BW_i 87 rfl rfl
theorem wF_X3_19 : Cond.fieldLink RX3 19 "RegretLine$Sheet" "size" "I" ∈ am_BW := am_BW_i 88 rfl rfl
theorem wA_int : Cond.arrayClass .int ∈ am_BW := am_BW_i 96 rfl rfl
theorem wK_X6_18 : Cond.classLink RX6 18 RX5 ∈ am_BW := am_BW_i 97 rfl rfl
theorem wT_X5 : Cond.instantiable RX5 12 ∈ lw_tbl := List.mem_of_getElem? (i := 98) rfl
theorem wMN_X6_20 : Cond.methodLinkNest RX6 20 yX5_init RX6 ∈ lw_tbl := List.mem_of_getElem? (i := 99) rfl
theorem wN_yX5_init : Cond.instanceMethod yX5_init ∈ am_BW := am_BW_i 100 rfl rfl
theorem wC_yX5_init : Cond.code yX5_init cX5_init 1 none ∈ am_BW := am_BW_i 101 rfl rfl
theorem wM_X5_3 : Cond.methodLink RX5 3 objectInit ∈ am_BW := am_BW_i 102 rfl rfl
theorem wK_X5_34 : Cond.classLink RX5 34 "[[I" ∈ am_BW := am_BW_i 103 rfl rfl
theorem wO_104 : Cond.arrayOver (FieldType.array FieldType.int) ∈ lw_tbl := List.mem_of_getElem? (i := 104) rfl
theorem wF_X5_9 : Cond.fieldLink RX5 9 "RegretLine$Train" "seatsOf" "[I" ∈ am_BW := am_BW_i 105 rfl rfl
theorem wF_X6_115 : Cond.fieldLink RX6 115 "RegretLine$Train" "seatsOf" "[I" ∈ am_BW := am_BW_i 106 rfl rfl
theorem wF_X2_45 : Cond.fieldLink RX2 45 "RegretLine$Train" "seatsOf" "[I" ∈ am_BW := am_BW_i 107 rfl rfl
theorem wF_X0_77 : Cond.fieldLink RX0 77 "RegretLine$Train" "seatsOf" "[I" ∈ am_BW := am_BW_i 108 rfl rfl
theorem wF_X5_15 : Cond.fieldLink RX5 15 "RegretLine$Train" "tunnel" "[Z" ∈ am_BW := am_BW_i 109 rfl rfl
theorem wF_X6_127 : Cond.fieldLink RX6 127 "RegretLine$Train" "tunnel" "[Z" ∈ am_BW := am_BW_i 110 rfl rfl
theorem wF_X5_19 : Cond.fieldLink RX5 19 "RegretLine$Train" "talker" "[I" ∈ am_BW := am_BW_i 111 rfl rfl
theorem wF_X6_135 : Cond.fieldLink RX6 135 "RegretLine$Train" "talker" "[I" ∈ am_BW := am_BW_i 112 rfl rfl
theorem wF_X5_22 : Cond.fieldLink RX5 22 "RegretLine$Train" "listener" "[I" ∈ am_BW := am_BW_i 113 rfl rfl
theorem wF_X6_138 : Cond.fieldLink RX6 138 "RegretLine$Train" "listener" "[I" ∈ am_BW := am_BW_i 114 rfl rfl
theorem wF_X5_25 : Cond.fieldLink RX5 25 "RegretLine$Train" "kind" "[I" ∈ am_BW := am_BW_i 115 rfl rfl
theorem wF_X6_99 : Cond.fieldLink RX6 99 "RegretLine$Train" "kind" "[I" ∈ am_BW := am_BW_i 116 rfl rfl
theorem wF_X5_28 : Cond.fieldLink RX5 28 "RegretLine$Train" "first" "[I" ∈ am_BW := am_BW_i 117 rfl rfl
theorem wF_X6_102 : Cond.fieldLink RX6 102 "RegretLine$Train" "first" "[I" ∈ am_BW := am_BW_i 118 rfl rfl
theorem wF_X5_31 : Cond.fieldLink RX5 31 "RegretLine$Train" "fades" "[I" ∈ am_BW := am_BW_i 119 rfl rfl
theorem wF_X6_105 : Cond.fieldLink RX6 105 "RegretLine$Train" "fades" "[I" ∈ am_BW := am_BW_i 120 rfl rfl
theorem wF_X5_36 : Cond.fieldLink RX5 36 "RegretLine$Train" "regrets" "[[I" ∈ am_BW := am_BW_i 121 rfl rfl
theorem wF_X5_39 : Cond.fieldLink RX5 39 "RegretLine$Train" "miles" "I" ∈ am_BW := am_BW_i 122 rfl rfl
theorem wF_X2_22 : Cond.fieldLink RX2 22 "RegretLine$Train" "miles" "I" ∈ am_BW := am_BW_i 123 rfl rfl
theorem wF_X0_51 : Cond.fieldLink RX0 51 "RegretLine$Train" "miles" "I" ∈ am_BW := am_BW_i 124 rfl rfl
theorem wF_X6_154 : Cond.fieldLink RX6 154 "RegretLine$Train" "miles" "I" ∈ am_BW := am_BW_i 125 rfl rfl
theorem wF_X5_43 : Cond.fieldLink RX5 43 "RegretLine$Train" "passengers" "I" ∈ am_BW := am_BW_i 126 rfl rfl
theorem wF_X2_28 : Cond.fieldLink RX2 28 "RegretLine$Train" "passengers" "I" ∈ am_BW := am_BW_i 127 rfl rfl
theorem wF_X0_40 : Cond.fieldLink RX0 40 "RegretLine$Train" "passengers" "I" ∈ am_BW := am_BW_i 128 rfl rfl
theorem wF_X6_93 : Cond.fieldLink RX6 93 "RegretLine$Train" "passengers" "I" ∈ am_BW := am_BW_i 129 rfl rfl
theorem wF_X5_46 : Cond.fieldLink RX5 46 "RegretLine$Train" "firstLimit" "I" ∈ am_BW := am_BW_i 130 rfl rfl
theorem wF_X6_118 : Cond.fieldLink RX6 118 "RegretLine$Train" "firstLimit" "I" ∈ am_BW := am_BW_i 131 rfl rfl
theorem wF_X5_49 : Cond.fieldLink RX5 49 "RegretLine$Train" "secondLimit" "I" ∈ am_BW := am_BW_i 132 rfl rfl
theorem wF_X6_121 : Cond.fieldLink RX6 121 "RegretLine$Train" "secondLimit" "I" ∈ am_BW := am_BW_i 133 rfl rfl
theorem wA_boolean : Cond.arrayClass .boolean ∈ am_BW := am_BW_i 159 rfl rfl
theorem wK_X6_28 : Cond.classLink RX6 28 RX1 ∈ am_BW := am_BW_i 160 rfl rfl
theorem wT_X1 : Cond.instantiable RX1 4 ∈ lw_tbl := List.mem_of_getElem? (i := 161) rfl
theorem wMN_X6_30 : Cond.methodLinkNest RX6 30 yX1_init RX6 ∈ lw_tbl := List.mem_of_getElem? (i := 162) rfl
theorem wN_yX1_init : Cond.instanceMethod yX1_init ∈ am_BW := am_BW_i 163 rfl rfl
theorem wC_yX1_init : Cond.code yX1_init cX1_init 1 none ∈ am_BW := am_BW_i 164 rfl rfl
theorem wM_X1_3 : Cond.methodLink RX1 3 objectInit ∈ am_BW := am_BW_i 165 rfl rfl
theorem wF_X1_9 : Cond.fieldLink RX1 9 "RegretLine$Readings" "who" "[I" ∈ am_BW := am_BW_i 166 rfl rfl
theorem wF_X1_15 : Cond.fieldLink RX1 15 "RegretLine$Readings" "where" "[I" ∈ am_BW := am_BW_i 167 rfl rfl
theorem wF_X1_18 : Cond.fieldLink RX1 18 "RegretLine$Readings" "seen" "[I" ∈ am_BW := am_BW_i 168 rfl rfl
theorem wF_X1_21 : Cond.fieldLink RX1 21 "RegretLine$Readings" "count" "I" ∈ am_BW := am_BW_i 169 rfl rfl
theorem wF_X6_87 : Cond.fieldLink RX6 87 "RegretLine$Readings" "count" "I" ∈ am_BW := am_BW_i 170 rfl rfl
theorem wK_X6_35 : Cond.classLink RX6 35 RX2 ∈ am_BW := am_BW_i 180 rfl rfl
theorem wT_X2 : Cond.instantiable RX2 3 ∈ lw_tbl := List.mem_of_getElem? (i := 181) rfl
theorem wM_X6_37 : Cond.methodLink RX6 37 yX2_init ∈ am_BW := am_BW_i 182 rfl rfl
theorem wN_yX2_init : Cond.instanceMethod yX2_init ∈ am_BW := am_BW_i 183 rfl rfl
theorem wC_yX2_init : Cond.code yX2_init cX2_init 2 none ∈ am_BW := am_BW_i 184 rfl rfl
theorem wM_X2_3 : Cond.methodLink RX2 3 objectInit ∈ am_BW := am_BW_i 185 rfl rfl
theorem wF_X2_18 : Cond.fieldLink RX2 18 "RegretLine$Seating" "train" "LRegretLine$Train;" ∈ am_BW := am_BW_i 186 rfl rfl
theorem wF_X2_9 : Cond.fieldLink RX2 9 "RegretLine$Seating" "row" "[I" ∈ am_BW := am_BW_i 187 rfl rfl
theorem wF_X2_15 : Cond.fieldLink RX2 15 "RegretLine$Seating" "sitting" "[I" ∈ am_BW := am_BW_i 188 rfl rfl
theorem wK_X6_44 : Cond.classLink RX6 44 RX0 ∈ am_BW := am_BW_i 196 rfl rfl
theorem wT_X0 : Cond.instantiable RX0 8 ∈ lw_tbl := List.mem_of_getElem? (i := 197) rfl
theorem wM_X6_46 : Cond.methodLink RX6 46 yX0_init ∈ am_BW := am_BW_i 198 rfl rfl
theorem wN_yX0_init : Cond.instanceMethod yX0_init ∈ am_BW := am_BW_i 199 rfl rfl
theorem wC_yX0_init : Cond.code yX0_init cX0_init 2 none ∈ am_BW := am_BW_i 200 rfl rfl
theorem wM_X0_3 : Cond.methodLink RX0 3 objectInit ∈ am_BW := am_BW_i 201 rfl rfl
theorem wK_X0_11 : Cond.classLink RX0 11 "[[I" ∈ am_BW := am_BW_i 202 rfl rfl
theorem wF_X0_36 : Cond.fieldLink RX0 36 "RegretLine$Ease" "train" "LRegretLine$Train;" ∈ am_BW := am_BW_i 203 rfl rfl
theorem wF_X0_13 : Cond.fieldLink RX0 13 "RegretLine$Ease" "toGo" "[[I" ∈ am_BW := am_BW_i 204 rfl rfl
theorem wF_X0_16 : Cond.fieldLink RX0 16 "RegretLine$Ease" "behind" "[I" ∈ am_BW := am_BW_i 205 rfl rfl
theorem wF_X0_20 : Cond.fieldLink RX0 20 "RegretLine$Ease" "sitting" "[I" ∈ am_BW := am_BW_i 206 rfl rfl
theorem wF_X0_23 : Cond.fieldLink RX0 23 "RegretLine$Ease" "ways" "I" ∈ am_BW := am_BW_i 207 rfl rfl
theorem wF_X0_27 : Cond.fieldLink RX0 27 "RegretLine$Ease" "row" "[I" ∈ am_BW := am_BW_i 208 rfl rfl
theorem wF_X6_186 : Cond.fieldLink RX6 186 "RegretLine$Ease" "row" "[I" ∈ am_BW := am_BW_i 209 rfl rfl
theorem wF_X0_30 : Cond.fieldLink RX0 30 "RegretLine$Ease" "trouble" "I" ∈ am_BW := am_BW_i 210 rfl rfl
theorem wF_X6_183 : Cond.fieldLink RX6 183 "RegretLine$Ease" "trouble" "I" ∈ am_BW := am_BW_i 211 rfl rfl
theorem wF_X0_33 : Cond.fieldLink RX0 33 "RegretLine$Ease" "stuckIn" "I" ∈ am_BW := am_BW_i 212 rfl rfl
theorem wF_X6_189 : Cond.fieldLink RX6 189 "RegretLine$Ease" "stuckIn" "I" ∈ am_BW := am_BW_i 213 rfl rfl
theorem wF_X6_13 : Cond.fieldLink RX6 13 "RegretLine" "sheets" "[LRegretLine$Sheet;" ∈ am_BW := am_BW_i 231 rfl rfl
theorem wF_X6_21 : Cond.fieldLink RX6 21 "RegretLine" "train" "LRegretLine$Train;" ∈ am_BW := am_BW_i 232 rfl rfl
theorem wF_X6_25 : Cond.fieldLink RX6 25 "RegretLine" "guess" "LRegretLine$Train;" ∈ am_BW := am_BW_i 233 rfl rfl
theorem wF_X6_31 : Cond.fieldLink RX6 31 "RegretLine" "readings" "LRegretLine$Readings;" ∈ am_BW := am_BW_i 234 rfl rfl
theorem wF_X6_40 : Cond.fieldLink RX6 40 "RegretLine" "told" "LRegretLine$Seating;" ∈ am_BW := am_BW_i 235 rfl rfl
theorem wF_X6_47 : Cond.fieldLink RX6 47 "RegretLine" "least" "LRegretLine$Ease;" ∈ am_BW := am_BW_i 236 rfl rfl
theorem wF_X6_51 : Cond.fieldLink RX6 51 "RegretLine" "leastKnown" "Z" ∈ am_BW := am_BW_i 237 rfl rfl
theorem wF_X6_55 : Cond.fieldLink RX6 55 "RegretLine" "traced" "I" ∈ am_BW := am_BW_i 238 rfl rfl
theorem wF_X6_59 : Cond.fieldLink RX6 59 "RegretLine" "lastFault" "I" ∈ am_BW := am_BW_i 239 rfl rfl
theorem wM_L_13 : Cond.methodLink RL 13 yX6_line ∈ am_BW := am_BW_i 259 rfl rfl
theorem wN_yX6_line : Cond.instanceMethod yX6_line ∈ am_BW := am_BW_i 260 rfl rfl
theorem wE_yX6_line : Cond.selects RX6 yX6_line yX6_line ∈ am_BW := am_BW_i 261 rfl rfl
theorem wC_yX6_line : Cond.code yX6_line cX6_line 7 (some .int) ∈ am_BW := am_BW_i 262 rfl rfl
theorem wM_X6_62 : Cond.methodLink RX6 62 yX6_noSheet ∈ am_BW := am_BW_i 263 rfl rfl
theorem wS_yX6_noSheet : Cond.static yX6_noSheet ∈ am_BW := am_BW_i 264 rfl rfl
theorem wC_yX6_noSheet : Cond.code yX6_noSheet cX6_noSheet 1 (some .boolean) ∈ am_BW := am_BW_i 265 rfl rfl
theorem wM_X6_66 : Cond.methodLink RX6 66 yX6_noLane ∈ am_BW := am_BW_i 266 rfl rfl
theorem wS_yX6_noLane : Cond.static yX6_noLane ∈ am_BW := am_BW_i 267 rfl rfl
theorem wC_yX6_noLane : Cond.code yX6_noLane cX6_noLane 1 (some .boolean) ∈ am_BW := am_BW_i 268 rfl rfl
theorem wM_X6_69 : Cond.methodLink RX6 69 yX3_faultOfCells ∈ am_BW := am_BW_i 269 rfl rfl
theorem wN_yX3_faultOfCells : Cond.instanceMethod yX3_faultOfCells ∈ am_BW := am_BW_i 270 rfl rfl
theorem wE_yX3_faultOfCells : Cond.selects RX3 yX3_faultOfCells yX3_faultOfCells ∈ am_BW := am_BW_i 271 rfl rfl
theorem wC_yX3_faultOfCells : Cond.code yX3_faultOfCells cX3_faultOfCells 5 (some .int) ∈ am_BW := am_BW_i 272 rfl rfl
theorem wM_X3_32 : Cond.methodLink RX3 32 yX3_faultOfRow ∈ am_BW := am_BW_i 273 rfl rfl
theorem wN_yX3_faultOfRow : Cond.instanceMethod yX3_faultOfRow ∈ am_BW := am_BW_i 274 rfl rfl
theorem wE_yX3_faultOfRow : Cond.selects RX3 yX3_faultOfRow yX3_faultOfRow ∈ am_BW := am_BW_i 275 rfl rfl
theorem wC_yX3_faultOfRow : Cond.code yX3_faultOfRow cX3_faultOfRow 2 (some .int) ∈ am_BW := am_BW_i 276 rfl rfl
theorem wM_X3_28 : Cond.methodLink RX3 28 yX3_hasNothing ∈ am_BW := am_BW_i 277 rfl rfl
theorem wN_yX3_hasNothing : Cond.instanceMethod yX3_hasNothing ∈ am_BW := am_BW_i 278 rfl rfl
theorem wE_yX3_hasNothing : Cond.selects RX3 yX3_hasNothing yX3_hasNothing ∈ am_BW := am_BW_i 279 rfl rfl
theorem wC_yX3_hasNothing : Cond.code yX3_hasNothing cX3_hasNothing 1 (some .boolean) ∈ am_BW := am_BW_i 280 rfl rfl
theorem wM_X3_36 : Cond.methodLink RX3 36 yX3_lacksCells ∈ am_BW := am_BW_i 281 rfl rfl
theorem wN_yX3_lacksCells : Cond.instanceMethod yX3_lacksCells ∈ am_BW := am_BW_i 282 rfl rfl
theorem wE_yX3_lacksCells : Cond.selects RX3 yX3_lacksCells yX3_lacksCells ∈ am_BW := am_BW_i 283 rfl rfl
theorem wC_yX3_lacksCells : Cond.code yX3_lacksCells cX3_lacksCells 3 (some .boolean) ∈ am_BW := am_BW_i 284 rfl rfl
theorem wM_X6_77 : Cond.methodLink RX6 77 yX4_firstFault ∈ am_BW := am_BW_i 285 rfl rfl
theorem wS_yX4_firstFault : Cond.static yX4_firstFault ∈ am_BW := am_BW_i 286 rfl rfl
theorem wC_yX4_firstFault : Cond.code yX4_firstFault cX4_firstFault 6 (some .int) ∈ am_BW := am_BW_i 287 rfl rfl
theorem wM_X4_9 : Cond.methodLink RX4 9 yX4_fitsHead ∈ am_BW := am_BW_i 288 rfl rfl
theorem wS_yX4_fitsHead : Cond.static yX4_fitsHead ∈ am_BW := am_BW_i 289 rfl rfl
theorem wC_yX4_fitsHead : Cond.code yX4_fitsHead cX4_fitsHead 2 (some .boolean) ∈ am_BW := am_BW_i 290 rfl rfl
theorem wM_X4_22 : Cond.methodLink RX4 22 yX4_isDigit ∈ am_BW := am_BW_i 291 rfl rfl
theorem wS_yX4_isDigit : Cond.static yX4_isDigit ∈ am_BW := am_BW_i 292 rfl rfl
theorem wC_yX4_isDigit : Cond.code yX4_isDigit cX4_isDigit 2 (some .boolean) ∈ am_BW := am_BW_i 293 rfl rfl
theorem wM_X4_15 : Cond.methodLink RX4 15 yX4_isMile ∈ am_BW := am_BW_i 294 rfl rfl
theorem wS_yX4_isMile : Cond.static yX4_isMile ∈ am_BW := am_BW_i 295 rfl rfl
theorem wC_yX4_isMile : Cond.code yX4_isMile cX4_isMile 1 (some .boolean) ∈ am_BW := am_BW_i 296 rfl rfl
theorem wM_X4_19 : Cond.methodLink RX4 19 yX4_fitsPassenger ∈ am_BW := am_BW_i 297 rfl rfl
theorem wS_yX4_fitsPassenger : Cond.static yX4_fitsPassenger ∈ am_BW := am_BW_i 298 rfl rfl
theorem wC_yX4_fitsPassenger : Cond.code yX4_fitsPassenger cX4_fitsPassenger 2 (some .boolean) ∈ am_BW := am_BW_i 299 rfl rfl
theorem wM_X4_25 : Cond.methodLink RX4 25 yX4_kindOf ∈ am_BW := am_BW_i 300 rfl rfl
set_option maxRecDepth 16000 in
theorem wS_yX4_kindOf : Cond.static yX4_kindOf ∈ am_BW := am_BW_i 301 rfl rfl
set_option maxRecDepth 16000 in
theorem wC_yX4_kindOf : Cond.code yX4_kindOf cX4_kindOf 1 (some .int) ∈ am_BW := am_BW_i 302 rfl rfl
set_option maxRecDepth 16000 in
theorem wM_X6_83 : Cond.methodLink RX6 83 yX5_readFrom ∈ am_BW := am_BW_i 303 rfl rfl
set_option maxRecDepth 16000 in
theorem wN_yX5_readFrom : Cond.instanceMethod yX5_readFrom ∈ am_BW := am_BW_i 304 rfl rfl
set_option maxRecDepth 16000 in
theorem wE_yX5_readFrom : Cond.selects RX5 yX5_readFrom yX5_readFrom ∈ am_BW := am_BW_i 305 rfl rfl
set_option maxRecDepth 16000 in
theorem wC_yX5_readFrom : Cond.code yX5_readFrom cX5_readFrom 6 none ∈ am_BW := am_BW_i 306 rfl rfl
set_option maxRecDepth 16000 in
theorem wM_X5_52 : Cond.methodLink RX5 52 yX4_kindOf ∈ am_BW := am_BW_i 307 rfl rfl
set_option maxRecDepth 16000 in
theorem wM_X5_58 : Cond.methodLink RX5 58 yJ7_fill_53178 ∈ am_BW := am_BW_i 308 rfl rfl
set_option maxRecDepth 16000 in
theorem wS_yJ7_fill_53178 : Cond.static yJ7_fill_53178 ∈ am_BW := am_BW_i 309 rfl rfl
set_option maxRecDepth 16000 in
theorem wC_yJ7_fill_53178 : Cond.code yJ7_fill_53178 cJ7_fill_53178 4 none ∈ am_BW := am_BW_i 310 rfl rfl
set_option maxRecDepth 16000 in
theorem wM_X6_90 : Cond.methodLink RX6 90 yX6_rideAnew ∈ am_BW := am_BW_i 311 rfl rfl
set_option maxRecDepth 16000 in
theorem wN_yX6_rideAnew : Cond.instanceMethod yX6_rideAnew ∈ am_BW := am_BW_i 313 rfl rfl
set_option maxRecDepth 16000 in
theorem wC_yX6_rideAnew : Cond.code yX6_rideAnew cX6_rideAnew 1 none ∈ am_BW := am_BW_i 314 rfl rfl
set_option maxRecDepth 16000 in
theorem wM_X6_211 : Cond.methodLink RX6 211 yX5_rideAll ∈ am_BW := am_BW_i 315 rfl rfl
set_option maxRecDepth 16000 in
theorem wN_yX5_rideAll : Cond.instanceMethod yX5_rideAll ∈ am_BW := am_BW_i 316 rfl rfl
set_option maxRecDepth 16000 in
theorem wE_yX5_rideAll : Cond.selects RX5 yX5_rideAll yX5_rideAll ∈ am_BW := am_BW_i 317 rfl rfl
set_option maxRecDepth 16000 in
theorem wC_yX5_rideAll : Cond.code yX5_rideAll cX5_rideAll 1 none ∈ am_BW := am_BW_i 318 rfl rfl
set_option maxRecDepth 16000 in
theorem wM_X5_64 : Cond.methodLink RX5 64 arraycopyName ∈ am_BW := am_BW_i 319 rfl rfl
set_option maxRecDepth 16000 in
theorem wS_arraycopyName : Cond.static arraycopyName ∈ am_BW := am_BW_i 320 rfl rfl
set_option maxRecDepth 16000 in
theorem wNat : Cond.native arraycopyName ∈ am_BW := am_BW_i 321 rfl rfl
set_option maxRecDepth 16000 in
theorem wM_X5_70 : Cond.methodLink RX5 70 yX5_rideFrom ∈ am_BW := am_BW_i 322 rfl rfl
set_option maxRecDepth 16000 in
theorem wN_yX5_rideFrom : Cond.instanceMethod yX5_rideFrom ∈ am_BW := am_BW_i 323 rfl rfl
set_option maxRecDepth 16000 in
theorem wE_yX5_rideFrom : Cond.selects RX5 yX5_rideFrom yX5_rideFrom ∈ am_BW := am_BW_i 324 rfl rfl
set_option maxRecDepth 16000 in
theorem wC_yX5_rideFrom : Cond.code yX5_rideFrom cX5_rideFrom 3 none ∈ am_BW := am_BW_i 325 rfl rfl
set_option maxRecDepth 16000 in
theorem wM_X5_74 : Cond.methodLink RX5 74 yX5_rideThrough ∈ am_BW := am_BW_i 326 rfl rfl
set_option maxRecDepth 16000 in
theorem wN_yX5_rideThrough : Cond.instanceMethod yX5_rideThrough ∈ am_BW := am_BW_i 327 rfl rfl
set_option maxRecDepth 16000 in
theorem wE_yX5_rideThrough : Cond.selects RX5 yX5_rideThrough yX5_rideThrough ∈ am_BW := am_BW_i 328 rfl rfl
set_option maxRecDepth 16000 in
theorem wC_yX5_rideThrough : Cond.code yX5_rideThrough cX5_rideThrough 6 none ∈ am_BW := am_BW_i 329 rfl rfl
set_option maxRecDepth 16000 in
theorem wM_X5_77 : Cond.methodLink RX5 77 yX5_regretBehind ∈ am_BW := am_BW_i 330 rfl rfl
set_option maxRecDepth 16000 in
theorem wN_yX5_regretBehind : Cond.instanceMethod yX5_regretBehind ∈ am_BW := am_BW_i 332 rfl rfl
set_option maxRecDepth 16000 in
theorem wC_yX5_regretBehind : Cond.code yX5_regretBehind cX5_regretBehind 5 (some .int) ∈ am_BW := am_BW_i 333 rfl rfl
set_option maxRecDepth 16000 in
theorem wM_X5_81 : Cond.methodLink RX5 81 yJ9_min_7cf53 ∈ am_BW := am_BW_i 334 rfl rfl
set_option maxRecDepth 16000 in
theorem wS_yJ9_min_7cf53 : Cond.static yJ9_min_7cf53 ∈ am_BW := am_BW_i 335 rfl rfl
set_option maxRecDepth 16000 in
theorem wC_yJ9_min_7cf53 : Cond.code yJ9_min_7cf53 cJ9_min_7cf53 2 (some .int) ∈ am_BW := am_BW_i 336 rfl rfl
set_option maxRecDepth 16000 in
theorem wM_X5_86 : Cond.methodLink RX5 86 yJ9_max_7cf53 ∈ am_BW := am_BW_i 337 rfl rfl
set_option maxRecDepth 16000 in
theorem wS_yJ9_max_7cf53 : Cond.static yJ9_max_7cf53 ∈ am_BW := am_BW_i 338 rfl rfl
set_option maxRecDepth 16000 in
theorem wC_yJ9_max_7cf53 : Cond.code yJ9_max_7cf53 cJ9_max_7cf53 2 (some .int) ∈ am_BW := am_BW_i 339 rfl rfl
set_option maxRecDepth 16000 in
theorem wM_L_18 : Cond.methodLink RL 18 yX6_ofPassenger ∈ am_BW := am_BW_i 340 rfl rfl
set_option maxRecDepth 16000 in
theorem wN_yX6_ofPassenger : Cond.instanceMethod yX6_ofPassenger ∈ am_BW := am_BW_i 341 rfl rfl
set_option maxRecDepth 16000 in
theorem wE_yX6_ofPassenger : Cond.selects RX6 yX6_ofPassenger yX6_ofPassenger ∈ am_BW := am_BW_i 342 rfl rfl
set_option maxRecDepth 16000 in
theorem wC_yX6_ofPassenger : Cond.code yX6_ofPassenger cX6_ofPassenger 3 (some .int) ∈ am_BW := am_BW_i 343 rfl rfl
set_option maxRecDepth 16000 in
theorem wM_X6_96 : Cond.methodLink RX6 96 yX6_noPassenger ∈ am_BW := am_BW_i 344 rfl rfl
set_option maxRecDepth 16000 in
theorem wN_yX6_noPassenger : Cond.instanceMethod yX6_noPassenger ∈ am_BW := am_BW_i 346 rfl rfl
set_option maxRecDepth 16000 in
theorem wC_yX6_noPassenger : Cond.code yX6_noPassenger cX6_noPassenger 2 (some .boolean) ∈ am_BW := am_BW_i 347 rfl rfl
set_option maxRecDepth 16000 in
theorem wM_L_23 : Cond.methodLink RL 23 yX6_seats ∈ am_BW := am_BW_i 348 rfl rfl
set_option maxRecDepth 16000 in
theorem wN_yX6_seats : Cond.instanceMethod yX6_seats ∈ am_BW := am_BW_i 349 rfl rfl
set_option maxRecDepth 16000 in
theorem wE_yX6_seats : Cond.selects RX6 yX6_seats yX6_seats ∈ am_BW := am_BW_i 350 rfl rfl
set_option maxRecDepth 16000 in
theorem wC_yX6_seats : Cond.code yX6_seats cX6_seats 4 (some .int) ∈ am_BW := am_BW_i 351 rfl rfl
set_option maxRecDepth 16000 in
theorem wM_X6_108 : Cond.methodLink RX6 108 yX6_noLine ∈ am_BW := am_BW_i 352 rfl rfl
set_option maxRecDepth 16000 in
theorem wN_yX6_noLine : Cond.instanceMethod yX6_noLine ∈ am_BW := am_BW_i 354 rfl rfl
set_option maxRecDepth 16000 in
theorem wC_yX6_noLine : Cond.code yX6_noLine cX6_noLine 1 (some .boolean) ∈ am_BW := am_BW_i 355 rfl rfl
set_option maxRecDepth 16000 in
theorem wM_X6_112 : Cond.methodLink RX6 112 yX6_noClass ∈ am_BW := am_BW_i 356 rfl rfl
set_option maxRecDepth 16000 in
theorem wS_yX6_noClass : Cond.static yX6_noClass ∈ am_BW := am_BW_i 357 rfl rfl
set_option maxRecDepth 16000 in
theorem wC_yX6_noClass : Cond.code yX6_noClass cX6_noClass 1 (some .boolean) ∈ am_BW := am_BW_i 358 rfl rfl
set_option maxRecDepth 16000 in
theorem wM_L_27 : Cond.methodLink RL 27 yX6_limits ∈ am_BW := am_BW_i 359 rfl rfl
set_option maxRecDepth 16000 in
theorem wN_yX6_limits : Cond.instanceMethod yX6_limits ∈ am_BW := am_BW_i 360 rfl rfl
set_option maxRecDepth 16000 in
theorem wE_yX6_limits : Cond.selects RX6 yX6_limits yX6_limits ∈ am_BW := am_BW_i 361 rfl rfl
set_option maxRecDepth 16000 in
theorem wC_yX6_limits : Cond.code yX6_limits cX6_limits 4 (some .int) ∈ am_BW := am_BW_i 362 rfl rfl
set_option maxRecDepth 16000 in
theorem wM_L_31 : Cond.methodLink RL 31 yX6_dig ∈ am_BW := am_BW_i 363 rfl rfl
set_option maxRecDepth 16000 in
theorem wN_yX6_dig : Cond.instanceMethod yX6_dig ∈ am_BW := am_BW_i 364 rfl rfl
set_option maxRecDepth 16000 in
theorem wE_yX6_dig : Cond.selects RX6 yX6_dig yX6_dig ∈ am_BW := am_BW_i 365 rfl rfl
set_option maxRecDepth 16000 in
theorem wC_yX6_dig : Cond.code yX6_dig cX6_dig 3 (some .int) ∈ am_BW := am_BW_i 366 rfl rfl
set_option maxRecDepth 16000 in
theorem wM_X6_124 : Cond.methodLink RX6 124 yX6_noMile ∈ am_BW := am_BW_i 367 rfl rfl
set_option maxRecDepth 16000 in
theorem wN_yX6_noMile : Cond.instanceMethod yX6_noMile ∈ am_BW := am_BW_i 369 rfl rfl
set_option maxRecDepth 16000 in
theorem wC_yX6_noMile : Cond.code yX6_noMile cX6_noMile 2 (some .boolean) ∈ am_BW := am_BW_i 370 rfl rfl
set_option maxRecDepth 16000 in
theorem wM_L_36 : Cond.methodLink RL 36 yX6_talk ∈ am_BW := am_BW_i 371 rfl rfl
set_option maxRecDepth 16000 in
theorem wN_yX6_talk : Cond.instanceMethod yX6_talk ∈ am_BW := am_BW_i 372 rfl rfl
set_option maxRecDepth 16000 in
theorem wE_yX6_talk : Cond.selects RX6 yX6_talk yX6_talk ∈ am_BW := am_BW_i 373 rfl rfl
set_option maxRecDepth 16000 in
theorem wC_yX6_talk : Cond.code yX6_talk cX6_talk 6 (some .int) ∈ am_BW := am_BW_i 374 rfl rfl
set_option maxRecDepth 16000 in
theorem wM_X6_131 : Cond.methodLink RX6 131 yX6_noPair ∈ am_BW := am_BW_i 375 rfl rfl
set_option maxRecDepth 16000 in
theorem wN_yX6_noPair : Cond.instanceMethod yX6_noPair ∈ am_BW := am_BW_i 377 rfl rfl
set_option maxRecDepth 16000 in
theorem wC_yX6_noPair : Cond.code yX6_noPair cX6_noPair 3 (some .boolean) ∈ am_BW := am_BW_i 378 rfl rfl
set_option maxRecDepth 16000 in
theorem wM_L_41 : Cond.methodLink RL 41 yX6_regret ∈ am_BW := am_BW_i 379 rfl rfl
set_option maxRecDepth 16000 in
theorem wN_yX6_regret : Cond.instanceMethod yX6_regret ∈ am_BW := am_BW_i 380 rfl rfl
set_option maxRecDepth 16000 in
theorem wE_yX6_regret : Cond.selects RX6 yX6_regret yX6_regret ∈ am_BW := am_BW_i 381 rfl rfl
set_option maxRecDepth 16000 in
theorem wC_yX6_regret : Cond.code yX6_regret cX6_regret 3 (some .int) ∈ am_BW := am_BW_i 382 rfl rfl
set_option maxRecDepth 16000 in
theorem wM_X6_141 : Cond.methodLink RX6 141 yX6_noMileNorEnd ∈ am_BW := am_BW_i 383 rfl rfl
set_option maxRecDepth 16000 in
theorem wN_yX6_noMileNorEnd : Cond.instanceMethod yX6_noMileNorEnd ∈ am_BW := am_BW_i 385 rfl rfl
set_option maxRecDepth 16000 in
theorem wC_yX6_noMileNorEnd : Cond.code yX6_noMileNorEnd cX6_noMileNorEnd 2 (some .boolean) ∈ am_BW := am_BW_i 386 rfl rfl
set_option maxRecDepth 16000 in
theorem wM_X6_144 : Cond.methodLink RX6 144 yX5_regretAhead ∈ am_BW := am_BW_i 387 rfl rfl
set_option maxRecDepth 16000 in
theorem wN_yX5_regretAhead : Cond.instanceMethod yX5_regretAhead ∈ am_BW := am_BW_i 388 rfl rfl
set_option maxRecDepth 16000 in
theorem wE_yX5_regretAhead : Cond.selects RX5 yX5_regretAhead yX5_regretAhead ∈ am_BW := am_BW_i 389 rfl rfl
set_option maxRecDepth 16000 in
theorem wC_yX5_regretAhead : Cond.code yX5_regretAhead cX5_regretAhead 3 (some .int) ∈ am_BW := am_BW_i 390 rfl rfl
set_option maxRecDepth 16000 in
theorem wM_L_45 : Cond.methodLink RL 45 yX6_due ∈ am_BW := am_BW_i 391 rfl rfl
set_option maxRecDepth 16000 in
theorem wN_yX6_due : Cond.instanceMethod yX6_due ∈ am_BW := am_BW_i 392 rfl rfl
set_option maxRecDepth 16000 in
theorem wE_yX6_due : Cond.selects RX6 yX6_due yX6_due ∈ am_BW := am_BW_i 393 rfl rfl
set_option maxRecDepth 16000 in
theorem wC_yX6_due : Cond.code yX6_due cX6_due 3 (some .int) ∈ am_BW := am_BW_i 394 rfl rfl
set_option maxRecDepth 16000 in
theorem wM_X6_148 : Cond.methodLink RX6 148 yX5_classDue ∈ am_BW := am_BW_i 395 rfl rfl
set_option maxRecDepth 16000 in
theorem wN_yX5_classDue : Cond.instanceMethod yX5_classDue ∈ am_BW := am_BW_i 396 rfl rfl
set_option maxRecDepth 16000 in
theorem wE_yX5_classDue : Cond.selects RX5 yX5_classDue yX5_classDue ∈ am_BW := am_BW_i 397 rfl rfl
set_option maxRecDepth 16000 in
theorem wC_yX5_classDue : Cond.code yX5_classDue cX5_classDue 4 (some .int) ∈ am_BW := am_BW_i 398 rfl rfl
set_option maxRecDepth 16000 in
theorem wM_L_49 : Cond.methodLink RL 49 yX6_seating ∈ am_BW := am_BW_i 399 rfl rfl
set_option maxRecDepth 16000 in
theorem wN_yX6_seating : Cond.instanceMethod yX6_seating ∈ am_BW := am_BW_i 400 rfl rfl
set_option maxRecDepth 16000 in
theorem wE_yX6_seating : Cond.selects RX6 yX6_seating yX6_seating ∈ am_BW := am_BW_i 401 rfl rfl
set_option maxRecDepth 16000 in
theorem wC_yX6_seating : Cond.code yX6_seating cX6_seating 6 (some .int) ∈ am_BW := am_BW_i 402 rfl rfl
set_option maxRecDepth 16000 in
theorem wM_X6_151 : Cond.methodLink RX6 151 yX6_noQuestionOfSeating ∈ am_BW := am_BW_i 403 rfl rfl
set_option maxRecDepth 16000 in
theorem wS_yX6_noQuestionOfSeating : Cond.static yX6_noQuestionOfSeating ∈ am_BW := am_BW_i 404 rfl rfl
set_option maxRecDepth 16000 in
theorem wC_yX6_noQuestionOfSeating : Cond.code yX6_noQuestionOfSeating cX6_noQuestionOfSeating 3 (some .boolean) ∈ am_BW := am_BW_i 405 rfl rfl
set_option maxRecDepth 16000 in
theorem wM_X6_157 : Cond.methodLink RX6 157 yX2_readFrom ∈ am_BW := am_BW_i 406 rfl rfl
set_option maxRecDepth 16000 in
theorem wN_yX2_readFrom : Cond.instanceMethod yX2_readFrom ∈ am_BW := am_BW_i 407 rfl rfl
set_option maxRecDepth 16000 in
theorem wE_yX2_readFrom : Cond.selects RX2 yX2_readFrom yX2_readFrom ∈ am_BW := am_BW_i 408 rfl rfl
set_option maxRecDepth 16000 in
theorem wC_yX2_readFrom : Cond.code yX2_readFrom cX2_readFrom 5 (some .boolean) ∈ am_BW := am_BW_i 409 rfl rfl
set_option maxRecDepth 16000 in
theorem wMN_X2_31 : Cond.methodLinkNest RX2 31 yX6_noClass RX6 ∈ lw_tbl := List.mem_of_getElem? (i := 410) rfl
set_option maxRecDepth 16000 in
theorem wM_X6_160 : Cond.methodLink RX6 160 yX6_ofSeating ∈ am_BW := am_BW_i 411 rfl rfl
set_option maxRecDepth 16000 in
theorem wN_yX6_ofSeating : Cond.instanceMethod yX6_ofSeating ∈ am_BW := am_BW_i 413 rfl rfl
set_option maxRecDepth 16000 in
theorem wC_yX6_ofSeating : Cond.code yX6_ofSeating cX6_ofSeating 3 (some .int) ∈ am_BW := am_BW_i 414 rfl rfl
set_option maxRecDepth 16000 in
theorem wM_X6_164 : Cond.methodLink RX6 164 yX2_firstWrong ∈ am_BW := am_BW_i 415 rfl rfl
set_option maxRecDepth 16000 in
theorem wN_yX2_firstWrong : Cond.instanceMethod yX2_firstWrong ∈ am_BW := am_BW_i 416 rfl rfl
set_option maxRecDepth 16000 in
theorem wE_yX2_firstWrong : Cond.selects RX2 yX2_firstWrong yX2_firstWrong ∈ am_BW := am_BW_i 417 rfl rfl
set_option maxRecDepth 16000 in
theorem wC_yX2_firstWrong : Cond.code yX2_firstWrong cX2_firstWrong 4 (some .int) ∈ am_BW := am_BW_i 418 rfl rfl
set_option maxRecDepth 16000 in
theorem wM_X2_35 : Cond.methodLink RX2 35 yJ7_fill_53178 ∈ am_BW := am_BW_i 419 rfl rfl
set_option maxRecDepth 16000 in
theorem wM_X2_41 : Cond.methodLink RX2 41 yX2_classOf ∈ am_BW := am_BW_i 420 rfl rfl
set_option maxRecDepth 16000 in
theorem wN_yX2_classOf : Cond.instanceMethod yX2_classOf ∈ am_BW := am_BW_i 422 rfl rfl
set_option maxRecDepth 16000 in
theorem wC_yX2_classOf : Cond.code yX2_classOf cX2_classOf 3 (some .int) ∈ am_BW := am_BW_i 423 rfl rfl
set_option maxRecDepth 16000 in
theorem wM_X6_168 : Cond.methodLink RX6 168 yX2_countChanges ∈ am_BW := am_BW_i 424 rfl rfl
set_option maxRecDepth 16000 in
theorem wN_yX2_countChanges : Cond.instanceMethod yX2_countChanges ∈ am_BW := am_BW_i 425 rfl rfl
set_option maxRecDepth 16000 in
theorem wE_yX2_countChanges : Cond.selects RX2 yX2_countChanges yX2_countChanges ∈ am_BW := am_BW_i 426 rfl rfl
set_option maxRecDepth 16000 in
theorem wC_yX2_countChanges : Cond.code yX2_countChanges cX2_countChanges 4 (some .int) ∈ am_BW := am_BW_i 427 rfl rfl
set_option maxRecDepth 16000 in
theorem wM_X6_171 : Cond.methodLink RX6 171 yX2_countLow ∈ am_BW := am_BW_i 428 rfl rfl
set_option maxRecDepth 16000 in
theorem wN_yX2_countLow : Cond.instanceMethod yX2_countLow ∈ am_BW := am_BW_i 429 rfl rfl
set_option maxRecDepth 16000 in
theorem wE_yX2_countLow : Cond.selects RX2 yX2_countLow yX2_countLow ∈ am_BW := am_BW_i 430 rfl rfl
set_option maxRecDepth 16000 in
theorem wC_yX2_countLow : Cond.code yX2_countLow cX2_countLow 4 (some .int) ∈ am_BW := am_BW_i 431 rfl rfl
set_option maxRecDepth 16000 in
theorem wM_X2_48 : Cond.methodLink RX2 48 yX5_classDue ∈ am_BW := am_BW_i 432 rfl rfl
set_option maxRecDepth 16000 in
theorem wM_X2_51 : Cond.methodLink RX2 51 yJ9_max_7cf53 ∈ am_BW := am_BW_i 433 rfl rfl
set_option maxRecDepth 16000 in
theorem wM_X6_174 : Cond.methodLink RX6 174 yX2_countAbove ∈ am_BW := am_BW_i 434 rfl rfl
set_option maxRecDepth 16000 in
theorem wN_yX2_countAbove : Cond.instanceMethod yX2_countAbove ∈ am_BW := am_BW_i 435 rfl rfl
set_option maxRecDepth 16000 in
theorem wE_yX2_countAbove : Cond.selects RX2 yX2_countAbove yX2_countAbove ∈ am_BW := am_BW_i 436 rfl rfl
set_option maxRecDepth 16000 in
theorem wC_yX2_countAbove : Cond.code yX2_countAbove cX2_countAbove 3 (some .int) ∈ am_BW := am_BW_i 437 rfl rfl
set_option maxRecDepth 16000 in
theorem wM_X2_56 : Cond.methodLink RX2 56 yX2_milesAbove ∈ am_BW := am_BW_i 438 rfl rfl
set_option maxRecDepth 16000 in
theorem wN_yX2_milesAbove : Cond.instanceMethod yX2_milesAbove ∈ am_BW := am_BW_i 439 rfl rfl
set_option maxRecDepth 16000 in
theorem wE_yX2_milesAbove : Cond.selects RX2 yX2_milesAbove yX2_milesAbove ∈ am_BW := am_BW_i 440 rfl rfl
set_option maxRecDepth 16000 in
theorem wC_yX2_milesAbove : Cond.code yX2_milesAbove cX2_milesAbove 4 (some .int) ∈ am_BW := am_BW_i 441 rfl rfl
set_option maxRecDepth 16000 in
theorem wM_X6_177 : Cond.methodLink RX6 177 yX2_milesAbove ∈ am_BW := am_BW_i 442 rfl rfl
set_option maxRecDepth 16000 in
theorem wM_L_54 : Cond.methodLink RL 54 yX6_ease ∈ am_BW := am_BW_i 443 rfl rfl
set_option maxRecDepth 16000 in
theorem wN_yX6_ease : Cond.instanceMethod yX6_ease ∈ am_BW := am_BW_i 444 rfl rfl
set_option maxRecDepth 16000 in
theorem wE_yX6_ease : Cond.selects RX6 yX6_ease yX6_ease ∈ am_BW := am_BW_i 445 rfl rfl
set_option maxRecDepth 16000 in
theorem wC_yX6_ease : Cond.code yX6_ease cX6_ease 2 (some .int) ∈ am_BW := am_BW_i 446 rfl rfl
set_option maxRecDepth 16000 in
theorem wM_X6_180 : Cond.methodLink RX6 180 yX6_knowLeast ∈ am_BW := am_BW_i 447 rfl rfl
set_option maxRecDepth 16000 in
theorem wN_yX6_knowLeast : Cond.instanceMethod yX6_knowLeast ∈ am_BW := am_BW_i 449 rfl rfl
set_option maxRecDepth 16000 in
theorem wC_yX6_knowLeast : Cond.code yX6_knowLeast cX6_knowLeast 1 none ∈ am_BW := am_BW_i 450 rfl rfl
set_option maxRecDepth 16000 in
theorem wM_X6_202 : Cond.methodLink RX6 202 yX0_seek ∈ am_BW := am_BW_i 451 rfl rfl
set_option maxRecDepth 16000 in
theorem wN_yX0_seek : Cond.instanceMethod yX0_seek ∈ am_BW := am_BW_i 452 rfl rfl
set_option maxRecDepth 16000 in
theorem wE_yX0_seek : Cond.selects RX0 yX0_seek yX0_seek ∈ am_BW := am_BW_i 453 rfl rfl
set_option maxRecDepth 16000 in
theorem wC_yX0_seek : Cond.code yX0_seek cX0_seek 2 none ∈ am_BW := am_BW_i 454 rfl rfl
set_option maxRecDepth 16000 in
theorem wM_X0_45 : Cond.methodLink RX0 45 yJ7_fill_53178 ∈ am_BW := am_BW_i 455 rfl rfl
set_option maxRecDepth 16000 in
theorem wM_X0_54 : Cond.methodLink RX0 54 yX0_weigh ∈ am_BW := am_BW_i 456 rfl rfl
set_option maxRecDepth 16000 in
theorem wN_yX0_weigh : Cond.instanceMethod yX0_weigh ∈ am_BW := am_BW_i 458 rfl rfl
set_option maxRecDepth 16000 in
theorem wC_yX0_weigh : Cond.code yX0_weigh cX0_weigh 5 (some .boolean) ∈ am_BW := am_BW_i 459 rfl rfl
set_option maxRecDepth 16000 in
theorem wM_X0_65 : Cond.methodLink RX0 65 yX0_lowIn ∈ am_BW := am_BW_i 460 rfl rfl
set_option maxRecDepth 16000 in
theorem wN_yX0_lowIn : Cond.instanceMethod yX0_lowIn ∈ am_BW := am_BW_i 462 rfl rfl
set_option maxRecDepth 16000 in
theorem wC_yX0_lowIn : Cond.code yX0_lowIn cX0_lowIn 8 (some .int) ∈ am_BW := am_BW_i 463 rfl rfl
set_option maxRecDepth 16000 in
theorem wM_X0_74 : Cond.methodLink RX0 74 yX5_classDue ∈ am_BW := am_BW_i 464 rfl rfl
set_option maxRecDepth 16000 in
theorem wM_X0_69 : Cond.methodLink RX0 69 yJ9_min_7cf53 ∈ am_BW := am_BW_i 465 rfl rfl
set_option maxRecDepth 16000 in
theorem wM_X0_58 : Cond.methodLink RX0 58 yX0_lookBack ∈ am_BW := am_BW_i 466 rfl rfl
set_option maxRecDepth 16000 in
theorem wN_yX0_lookBack : Cond.instanceMethod yX0_lookBack ∈ am_BW := am_BW_i 468 rfl rfl
set_option maxRecDepth 16000 in
theorem wC_yX0_lookBack : Cond.code yX0_lookBack cX0_lookBack 4 none ∈ am_BW := am_BW_i 469 rfl rfl
set_option maxRecDepth 16000 in
theorem wM_X0_80 : Cond.methodLink RX0 80 arraycopyName ∈ am_BW := am_BW_i 470 rfl rfl
set_option maxRecDepth 16000 in
theorem wM_X0_86 : Cond.methodLink RX0 86 yX0_letChange ∈ am_BW := am_BW_i 471 rfl rfl
set_option maxRecDepth 16000 in
theorem wN_yX0_letChange : Cond.instanceMethod yX0_letChange ∈ am_BW := am_BW_i 473 rfl rfl
set_option maxRecDepth 16000 in
theorem wC_yX0_letChange : Cond.code yX0_letChange cX0_letChange 5 none ∈ am_BW := am_BW_i 474 rfl rfl
set_option maxRecDepth 16000 in
theorem wM_X0_62 : Cond.methodLink RX0 62 yX0_choose ∈ am_BW := am_BW_i 475 rfl rfl
set_option maxRecDepth 16000 in
theorem wN_yX0_choose : Cond.instanceMethod yX0_choose ∈ am_BW := am_BW_i 477 rfl rfl
set_option maxRecDepth 16000 in
theorem wC_yX0_choose : Cond.code yX0_choose cX0_choose 3 none ∈ am_BW := am_BW_i 478 rfl rfl
set_option maxRecDepth 16000 in
theorem wM_X0_90 : Cond.methodLink RX0 90 yX0_firstOfLeast ∈ am_BW := am_BW_i 479 rfl rfl
set_option maxRecDepth 16000 in
theorem wN_yX0_firstOfLeast : Cond.instanceMethod yX0_firstOfLeast ∈ am_BW := am_BW_i 481 rfl rfl
set_option maxRecDepth 16000 in
theorem wC_yX0_firstOfLeast : Cond.code yX0_firstOfLeast cX0_firstOfLeast 7 (some .int) ∈ am_BW := am_BW_i 482 rfl rfl
set_option maxRecDepth 16000 in
theorem wM_X0_97 : Cond.methodLink RX0 97 yX0_changesBetween ∈ am_BW := am_BW_i 483 rfl rfl
set_option maxRecDepth 16000 in
theorem wS_yX0_changesBetween : Cond.static yX0_changesBetween ∈ am_BW := am_BW_i 484 rfl rfl
set_option maxRecDepth 16000 in
theorem wC_yX0_changesBetween : Cond.code yX0_changesBetween cX0_changesBetween 6 (some .int) ∈ am_BW := am_BW_i 485 rfl rfl
set_option maxRecDepth 16000 in
theorem wM_X0_93 : Cond.methodLink RX0 93 yX0_write ∈ am_BW := am_BW_i 486 rfl rfl
set_option maxRecDepth 16000 in
theorem wN_yX0_write : Cond.instanceMethod yX0_write ∈ am_BW := am_BW_i 488 rfl rfl
set_option maxRecDepth 16000 in
theorem wC_yX0_write : Cond.code yX0_write cX0_write 5 none ∈ am_BW := am_BW_i 489 rfl rfl
set_option maxRecDepth 16000 in
theorem wM_L_59 : Cond.methodLink RL 59 yX6_stuck ∈ am_BW := am_BW_i 490 rfl rfl
set_option maxRecDepth 16000 in
theorem wN_yX6_stuck : Cond.instanceMethod yX6_stuck ∈ am_BW := am_BW_i 491 rfl rfl
set_option maxRecDepth 16000 in
theorem wE_yX6_stuck : Cond.selects RX6 yX6_stuck yX6_stuck ∈ am_BW := am_BW_i 492 rfl rfl
set_option maxRecDepth 16000 in
theorem wC_yX6_stuck : Cond.code yX6_stuck cX6_stuck 1 (some .int) ∈ am_BW := am_BW_i 493 rfl rfl
set_option maxRecDepth 16000 in
theorem wM_L_64 : Cond.methodLink RL 64 yX6_help ∈ am_BW := am_BW_i 494 rfl rfl
set_option maxRecDepth 16000 in
theorem wN_yX6_help : Cond.instanceMethod yX6_help ∈ am_BW := am_BW_i 495 rfl rfl
set_option maxRecDepth 16000 in
theorem wE_yX6_help : Cond.selects RX6 yX6_help yX6_help ∈ am_BW := am_BW_i 496 rfl rfl
set_option maxRecDepth 16000 in
theorem wC_yX6_help : Cond.code yX6_help cX6_help 6 (some .int) ∈ am_BW := am_BW_i 497 rfl rfl
set_option maxRecDepth 16000 in
theorem wM_X6_192 : Cond.methodLink RX6 192 yX5_becomeLike ∈ am_BW := am_BW_i 498 rfl rfl
set_option maxRecDepth 16000 in
theorem wN_yX5_becomeLike : Cond.instanceMethod yX5_becomeLike ∈ am_BW := am_BW_i 499 rfl rfl
set_option maxRecDepth 16000 in
theorem wE_yX5_becomeLike : Cond.selects RX5 yX5_becomeLike yX5_becomeLike ∈ am_BW := am_BW_i 500 rfl rfl
set_option maxRecDepth 16000 in
theorem wC_yX5_becomeLike : Cond.code yX5_becomeLike cX5_becomeLike 3 none ∈ am_BW := am_BW_i 501 rfl rfl
set_option maxRecDepth 16000 in
theorem wM_X6_195 : Cond.methodLink RX6 195 yX5_rideFrom ∈ am_BW := am_BW_i 502 rfl rfl
set_option maxRecDepth 16000 in
theorem wM_X6_199 : Cond.methodLink RX6 199 yX5_dueTogether ∈ am_BW := am_BW_i 503 rfl rfl
set_option maxRecDepth 16000 in
theorem wN_yX5_dueTogether : Cond.instanceMethod yX5_dueTogether ∈ am_BW := am_BW_i 504 rfl rfl
set_option maxRecDepth 16000 in
theorem wE_yX5_dueTogether : Cond.selects RX5 yX5_dueTogether yX5_dueTogether ∈ am_BW := am_BW_i 505 rfl rfl
set_option maxRecDepth 16000 in
theorem wC_yX5_dueTogether : Cond.code yX5_dueTogether cX5_dueTogether 4 (some .int) ∈ am_BW := am_BW_i 506 rfl rfl
set_option maxRecDepth 16000 in
theorem wM_X5_89 : Cond.methodLink RX5 89 yX5_classDue ∈ am_BW := am_BW_i 507 rfl rfl
set_option maxRecDepth 16000 in
theorem wM_L_68 : Cond.methodLink RL 68 yX6_reading ∈ am_BW := am_BW_i 508 rfl rfl
set_option maxRecDepth 16000 in
theorem wN_yX6_reading : Cond.instanceMethod yX6_reading ∈ am_BW := am_BW_i 509 rfl rfl
set_option maxRecDepth 16000 in
theorem wE_yX6_reading : Cond.selects RX6 yX6_reading yX6_reading ∈ am_BW := am_BW_i 510 rfl rfl
set_option maxRecDepth 16000 in
theorem wC_yX6_reading : Cond.code yX6_reading cX6_reading 4 (some .int) ∈ am_BW := am_BW_i 511 rfl rfl
set_option maxRecDepth 16000 in
theorem wM_X6_205 : Cond.methodLink RX6 205 yX1_keep ∈ am_BW := am_BW_i 512 rfl rfl
set_option maxRecDepth 16000 in
theorem wN_yX1_keep : Cond.instanceMethod yX1_keep ∈ am_BW := am_BW_i 513 rfl rfl
set_option maxRecDepth 16000 in
theorem wE_yX1_keep : Cond.selects RX1 yX1_keep yX1_keep ∈ am_BW := am_BW_i 514 rfl rfl
set_option maxRecDepth 16000 in
theorem wC_yX1_keep : Cond.code yX1_keep cX1_keep 4 (some .int) ∈ am_BW := am_BW_i 515 rfl rfl
set_option maxRecDepth 16000 in
theorem wM_L_72 : Cond.methodLink RL 72 yX6_back ∈ am_BW := am_BW_i 516 rfl rfl
set_option maxRecDepth 16000 in
theorem wN_yX6_back : Cond.instanceMethod yX6_back ∈ am_BW := am_BW_i 517 rfl rfl
set_option maxRecDepth 16000 in
theorem wE_yX6_back : Cond.selects RX6 yX6_back yX6_back ∈ am_BW := am_BW_i 518 rfl rfl
set_option maxRecDepth 16000 in
theorem wC_yX6_back : Cond.code yX6_back cX6_back 2 (some .int) ∈ am_BW := am_BW_i 519 rfl rfl
set_option maxRecDepth 16000 in
theorem wM_L_76 : Cond.methodLink RL 76 yX6_began ∈ am_BW := am_BW_i 520 rfl rfl
set_option maxRecDepth 16000 in
theorem wN_yX6_began : Cond.instanceMethod yX6_began ∈ am_BW := am_BW_i 521 rfl rfl
set_option maxRecDepth 16000 in
theorem wE_yX6_began : Cond.selects RX6 yX6_began yX6_began ∈ am_BW := am_BW_i 522 rfl rfl
set_option maxRecDepth 16000 in
theorem wC_yX6_began : Cond.code yX6_began cX6_began 6 (some .int) ∈ am_BW := am_BW_i 523 rfl rfl
set_option maxRecDepth 16000 in
theorem wM_X6_208 : Cond.methodLink RX6 208 yX6_guessIsSo ∈ am_BW := am_BW_i 524 rfl rfl
set_option maxRecDepth 16000 in
theorem wN_yX6_guessIsSo : Cond.instanceMethod yX6_guessIsSo ∈ am_BW := am_BW_i 526 rfl rfl
set_option maxRecDepth 16000 in
theorem wC_yX6_guessIsSo : Cond.code yX6_guessIsSo cX6_guessIsSo 1 (some .boolean) ∈ am_BW := am_BW_i 527 rfl rfl
set_option maxRecDepth 16000 in
theorem wM_X6_214 : Cond.methodLink RX6 214 yX1_areSo ∈ am_BW := am_BW_i 528 rfl rfl
set_option maxRecDepth 16000 in
theorem wN_yX1_areSo : Cond.instanceMethod yX1_areSo ∈ am_BW := am_BW_i 529 rfl rfl
set_option maxRecDepth 16000 in
theorem wE_yX1_areSo : Cond.selects RX1 yX1_areSo yX1_areSo ∈ am_BW := am_BW_i 530 rfl rfl
set_option maxRecDepth 16000 in
theorem wC_yX1_areSo : Cond.code yX1_areSo cX1_areSo 3 (some .boolean) ∈ am_BW := am_BW_i 531 rfl rfl
set_option maxRecDepth 16000 in
theorem wM_X1_25 : Cond.methodLink RX1 25 yX5_classDue ∈ am_BW := am_BW_i 532 rfl rfl
set_option maxRecDepth 16000 in
theorem wM_L_80 : Cond.methodLink RL 80 yX6_kinds ∈ am_BW := am_BW_i 533 rfl rfl
set_option maxRecDepth 16000 in
theorem wN_yX6_kinds : Cond.instanceMethod yX6_kinds ∈ am_BW := am_BW_i 534 rfl rfl
set_option maxRecDepth 16000 in
theorem wE_yX6_kinds : Cond.selects RX6 yX6_kinds yX6_kinds ∈ am_BW := am_BW_i 535 rfl rfl
set_option maxRecDepth 16000 in
theorem wC_yX6_kinds : Cond.code yX6_kinds cX6_kinds 4 (some .int) ∈ am_BW := am_BW_i 536 rfl rfl
set_option maxRecDepth 16000 in
theorem wM_L_84 : Cond.methodLink RL 84 yX6_fadings ∈ am_BW := am_BW_i 537 rfl rfl
set_option maxRecDepth 16000 in
theorem wN_yX6_fadings : Cond.instanceMethod yX6_fadings ∈ am_BW := am_BW_i 538 rfl rfl
set_option maxRecDepth 16000 in
theorem wE_yX6_fadings : Cond.selects RX6 yX6_fadings yX6_fadings ∈ am_BW := am_BW_i 539 rfl rfl
set_option maxRecDepth 16000 in
theorem wC_yX6_fadings : Cond.code yX6_fadings cX6_fadings 4 (some .int) ∈ am_BW := am_BW_i 540 rfl rfl
set_option maxRecDepth 16000 in
theorem wM_L_88 : Cond.methodLink RL 88 yX6_odds ∈ am_BW := am_BW_i 541 rfl rfl
set_option maxRecDepth 16000 in
theorem wN_yX6_odds : Cond.instanceMethod yX6_odds ∈ am_BW := am_BW_i 542 rfl rfl
set_option maxRecDepth 16000 in
theorem wE_yX6_odds : Cond.selects RX6 yX6_odds yX6_odds ∈ am_BW := am_BW_i 543 rfl rfl
set_option maxRecDepth 16000 in
theorem wC_yX6_odds : Cond.code yX6_odds cX6_odds 6 (some .long) ∈ am_BW := am_BW_i 544 rfl rfl
set_option maxRecDepth 16000 in
theorem wL_X6_218 : Cond.constantLong RX6 218 (-9223372036854775808) ∈ am_BW := am_BW_i 545 rfl rfl
set_option maxRecDepth 16000 in
theorem wM_X6_220 : Cond.methodLink RX6 220 yX6_waysToBeDue ∈ am_BW := am_BW_i 546 rfl rfl
set_option maxRecDepth 16000 in
theorem wN_yX6_waysToBeDue : Cond.instanceMethod yX6_waysToBeDue ∈ am_BW := am_BW_i 548 rfl rfl
set_option maxRecDepth 16000 in
theorem wC_yX6_waysToBeDue : Cond.code yX6_waysToBeDue cX6_waysToBeDue 5 (some .int) ∈ am_BW := am_BW_i 549 rfl rfl
set_option maxRecDepth 16000 in
theorem wM_X6_223 : Cond.methodLink RX6 223 yX5_rideThrough ∈ am_BW := am_BW_i 550 rfl rfl
set_option maxRecDepth 16000 in
theorem wM_L_93 : Cond.methodLink RL 93 yX6_sheet ∈ am_BW := am_BW_i 551 rfl rfl
set_option maxRecDepth 16000 in
theorem wN_yX6_sheet : Cond.instanceMethod yX6_sheet ∈ am_BW := am_BW_i 552 rfl rfl
set_option maxRecDepth 16000 in
theorem wE_yX6_sheet : Cond.selects RX6 yX6_sheet yX6_sheet ∈ am_BW := am_BW_i 553 rfl rfl
set_option maxRecDepth 16000 in
theorem wC_yX6_sheet : Cond.code yX6_sheet cX6_sheet 4 (some .int) ∈ am_BW := am_BW_i 554 rfl rfl
set_option maxRecDepth 16000 in
theorem wM_X6_226 : Cond.methodLink RX6 226 yX6_comeTo ∈ am_BW := am_BW_i 555 rfl rfl
set_option maxRecDepth 16000 in
theorem wN_yX6_comeTo : Cond.instanceMethod yX6_comeTo ∈ am_BW := am_BW_i 557 rfl rfl
set_option maxRecDepth 16000 in
theorem wC_yX6_comeTo : Cond.code yX6_comeTo cX6_comeTo 2 (some .int) ∈ am_BW := am_BW_i 558 rfl rfl
set_option maxRecDepth 16000 in
theorem wM_X6_229 : Cond.methodLink RX6 229 yX3_renew ∈ am_BW := am_BW_i 559 rfl rfl
set_option maxRecDepth 16000 in
theorem wN_yX3_renew : Cond.instanceMethod yX3_renew ∈ am_BW := am_BW_i 560 rfl rfl
set_option maxRecDepth 16000 in
theorem wE_yX3_renew : Cond.selects RX3 yX3_renew yX3_renew ∈ am_BW := am_BW_i 561 rfl rfl
set_option maxRecDepth 16000 in
theorem wC_yX3_renew : Cond.code yX3_renew cX3_renew 3 none ∈ am_BW := am_BW_i 562 rfl rfl
set_option maxRecDepth 16000 in
theorem wM_X3_22 : Cond.methodLink RX3 22 yJ7_fill_53178 ∈ am_BW := am_BW_i 563 rfl rfl
set_option maxRecDepth 16000 in
theorem wM_L_97 : Cond.methodLink RL 97 yX6_lose ∈ am_BW := am_BW_i 564 rfl rfl
set_option maxRecDepth 16000 in
theorem wN_yX6_lose : Cond.instanceMethod yX6_lose ∈ am_BW := am_BW_i 565 rfl rfl
set_option maxRecDepth 16000 in
theorem wE_yX6_lose : Cond.selects RX6 yX6_lose yX6_lose ∈ am_BW := am_BW_i 566 rfl rfl
set_option maxRecDepth 16000 in
theorem wC_yX6_lose : Cond.code yX6_lose cX6_lose 3 (some .int) ∈ am_BW := am_BW_i 567 rfl rfl
set_option maxRecDepth 16000 in
theorem wM_X6_233 : Cond.methodLink RX6 233 yX3_hasNothing ∈ am_BW := am_BW_i 568 rfl rfl
set_option maxRecDepth 16000 in
theorem wM_L_101 : Cond.methodLink RL 101 yX6_put ∈ am_BW := am_BW_i 569 rfl rfl
set_option maxRecDepth 16000 in
theorem wN_yX6_put : Cond.instanceMethod yX6_put ∈ am_BW := am_BW_i 570 rfl rfl
set_option maxRecDepth 16000 in
theorem wE_yX6_put : Cond.selects RX6 yX6_put yX6_put ∈ am_BW := am_BW_i 571 rfl rfl
set_option maxRecDepth 16000 in
theorem wC_yX6_put : Cond.code yX6_put cX6_put 5 (some .int) ∈ am_BW := am_BW_i 572 rfl rfl
set_option maxRecDepth 16000 in
theorem wM_X6_239 : Cond.methodLink RX6 239 yX3_noCell ∈ am_BW := am_BW_i 573 rfl rfl
set_option maxRecDepth 16000 in
theorem wN_yX3_noCell : Cond.instanceMethod yX3_noCell ∈ am_BW := am_BW_i 574 rfl rfl
set_option maxRecDepth 16000 in
theorem wE_yX3_noCell : Cond.selects RX3 yX3_noCell yX3_noCell ∈ am_BW := am_BW_i 575 rfl rfl
set_option maxRecDepth 16000 in
theorem wC_yX3_noCell : Cond.code yX3_noCell cX3_noCell 2 (some .boolean) ∈ am_BW := am_BW_i 576 rfl rfl
set_option maxRecDepth 16000 in
theorem wM_X6_242 : Cond.methodLink RX6 242 yX3_cut ∈ am_BW := am_BW_i 577 rfl rfl
set_option maxRecDepth 16000 in
theorem wN_yX3_cut : Cond.instanceMethod yX3_cut ∈ am_BW := am_BW_i 578 rfl rfl
set_option maxRecDepth 16000 in
theorem wE_yX3_cut : Cond.selects RX3 yX3_cut yX3_cut ∈ am_BW := am_BW_i 579 rfl rfl
set_option maxRecDepth 16000 in
theorem wC_yX3_cut : Cond.code yX3_cut cX3_cut 2 (some .int) ∈ am_BW := am_BW_i 580 rfl rfl
set_option maxRecDepth 16000 in
theorem wM_L_105 : Cond.methodLink RL 105 yX6_cell ∈ am_BW := am_BW_i 581 rfl rfl
set_option maxRecDepth 16000 in
theorem wN_yX6_cell : Cond.instanceMethod yX6_cell ∈ am_BW := am_BW_i 582 rfl rfl
set_option maxRecDepth 16000 in
theorem wE_yX6_cell : Cond.selects RX6 yX6_cell yX6_cell ∈ am_BW := am_BW_i 583 rfl rfl
set_option maxRecDepth 16000 in
theorem wC_yX6_cell : Cond.code yX6_cell cX6_cell 5 (some .long) ∈ am_BW := am_BW_i 584 rfl rfl
set_option maxRecDepth 16000 in
theorem wM_X6_245 : Cond.methodLink RX6 245 yX3_faultOfRow ∈ am_BW := am_BW_i 585 rfl rfl
set_option maxRecDepth 16000 in
theorem wM_L_109 : Cond.methodLink RL 109 yX6_copy ∈ am_BW := am_BW_i 586 rfl rfl
set_option maxRecDepth 16000 in
theorem wN_yX6_copy : Cond.instanceMethod yX6_copy ∈ am_BW := am_BW_i 587 rfl rfl
set_option maxRecDepth 16000 in
theorem wE_yX6_copy : Cond.selects RX6 yX6_copy yX6_copy ∈ am_BW := am_BW_i 588 rfl rfl
set_option maxRecDepth 16000 in
theorem wC_yX6_copy : Cond.code yX6_copy cX6_copy 8 (some .int) ∈ am_BW := am_BW_i 589 rfl rfl
set_option maxRecDepth 16000 in
theorem wM_X6_248 : Cond.methodLink RX6 248 yX3_lacksCells ∈ am_BW := am_BW_i 590 rfl rfl
set_option maxRecDepth 16000 in
theorem wM_X6_251 : Cond.methodLink RX6 251 arraycopyName ∈ am_BW := am_BW_i 591 rfl rfl
set_option maxRecDepth 16000 in
theorem wM_L_113 : Cond.methodLink RL 113 yX6_tell ∈ am_BW := am_BW_i 592 rfl rfl
set_option maxRecDepth 16000 in
theorem wN_yX6_tell : Cond.instanceMethod yX6_tell ∈ am_BW := am_BW_i 593 rfl rfl
set_option maxRecDepth 16000 in
theorem wE_yX6_tell : Cond.selects RX6 yX6_tell yX6_tell ∈ am_BW := am_BW_i 594 rfl rfl
set_option maxRecDepth 16000 in
theorem wC_yX6_tell : Cond.code yX6_tell cX6_tell 2 (some .int) ∈ am_BW := am_BW_i 595 rfl rfl
set_option maxRecDepth 16000 in
theorem wM_X6_257 : Cond.methodLink RX6 257 yX6_tellHoneymooner ∈ am_BW := am_BW_i 596 rfl rfl
set_option maxRecDepth 16000 in
theorem wN_yX6_tellHoneymooner : Cond.instanceMethod yX6_tellHoneymooner ∈ am_BW := am_BW_i 598 rfl rfl
set_option maxRecDepth 16000 in
theorem wC_yX6_tellHoneymooner : Cond.code yX6_tellHoneymooner cX6_tellHoneymooner 3 (some .int) ∈ am_BW := am_BW_i 599 rfl rfl
set_option maxRecDepth 16000 in
theorem wM_X6_266 : Cond.methodLink RX6 266 yX6_leaveTrace ∈ am_BW := am_BW_i 600 rfl rfl
set_option maxRecDepth 16000 in
theorem wN_yX6_leaveTrace : Cond.instanceMethod yX6_leaveTrace ∈ am_BW := am_BW_i 602 rfl rfl
set_option maxRecDepth 16000 in
theorem wC_yX6_leaveTrace : Cond.code yX6_leaveTrace cX6_leaveTrace 2 none ∈ am_BW := am_BW_i 603 rfl rfl
set_option maxRecDepth 16000 in
theorem wM_X6_260 : Cond.methodLink RX6 260 yX6_tellWidow ∈ am_BW := am_BW_i 604 rfl rfl
set_option maxRecDepth 16000 in
theorem wN_yX6_tellWidow : Cond.instanceMethod yX6_tellWidow ∈ am_BW := am_BW_i 606 rfl rfl
set_option maxRecDepth 16000 in
theorem wC_yX6_tellWidow : Cond.code yX6_tellWidow cX6_tellWidow 2 (some .int) ∈ am_BW := am_BW_i 607 rfl rfl
set_option maxRecDepth 16000 in
theorem wM_X6_263 : Cond.methodLink RX6 263 yX6_tellPassenger ∈ am_BW := am_BW_i 608 rfl rfl
set_option maxRecDepth 16000 in
theorem wN_yX6_tellPassenger : Cond.instanceMethod yX6_tellPassenger ∈ am_BW := am_BW_i 610 rfl rfl
set_option maxRecDepth 16000 in
theorem wC_yX6_tellPassenger : Cond.code yX6_tellPassenger cX6_tellPassenger 2 (some .int) ∈ am_BW := am_BW_i 611 rfl rfl
set_option maxRecDepth 16000 in
theorem wM_L_117 : Cond.methodLink RL 117 yX6_call ∈ am_BW := am_BW_i 612 rfl rfl
set_option maxRecDepth 16000 in
theorem wN_yX6_call : Cond.instanceMethod yX6_call ∈ am_BW := am_BW_i 613 rfl rfl
set_option maxRecDepth 16000 in
theorem wE_yX6_call : Cond.selects RX6 yX6_call yX6_call ∈ am_BW := am_BW_i 614 rfl rfl
set_option maxRecDepth 16000 in
theorem wC_yX6_call : Cond.code yX6_call cX6_call 2 (some .int) ∈ am_BW := am_BW_i 615 rfl rfl
set_option maxRecDepth 16000 in
theorem wM_L_121 : Cond.methodLink RL 121 yX6_as ∈ am_BW := am_BW_i 616 rfl rfl
set_option maxRecDepth 16000 in
theorem wN_yX6_as : Cond.instanceMethod yX6_as ∈ am_BW := am_BW_i 617 rfl rfl
set_option maxRecDepth 16000 in
theorem wE_yX6_as : Cond.selects RX6 yX6_as yX6_as ∈ am_BW := am_BW_i 618 rfl rfl
set_option maxRecDepth 16000 in
theorem wC_yX6_as : Cond.code yX6_as cX6_as 3 (some .int) ∈ am_BW := am_BW_i 619 rfl rfl
set_option maxRecDepth 16000 in
theorem wM_L_125 : Cond.methodLink RL 125 yX6_trace ∈ am_BW := am_BW_i 620 rfl rfl
set_option maxRecDepth 16000 in
theorem wN_yX6_trace : Cond.instanceMethod yX6_trace ∈ am_BW := am_BW_i 621 rfl rfl
set_option maxRecDepth 16000 in
theorem wE_yX6_trace : Cond.selects RX6 yX6_trace yX6_trace ∈ am_BW := am_BW_i 622 rfl rfl
set_option maxRecDepth 16000 in
theorem wC_yX6_trace : Cond.code yX6_trace cX6_trace 1 (some .int) ∈ am_BW := am_BW_i 623 rfl rfl
set_option maxRecDepth 16000 in
theorem wM_L_129 : Cond.methodLink RL 129 yX6_fault ∈ am_BW := am_BW_i 624 rfl rfl
set_option maxRecDepth 16000 in
theorem wN_yX6_fault : Cond.instanceMethod yX6_fault ∈ am_BW := am_BW_i 625 rfl rfl
set_option maxRecDepth 16000 in
theorem wE_yX6_fault : Cond.selects RX6 yX6_fault yX6_fault ∈ am_BW := am_BW_i 626 rfl rfl
set_option maxRecDepth 16000 in
theorem wC_yX6_fault : Cond.code yX6_fault cX6_fault 1 (some .int) ∈ am_BW := am_BW_i 627 rfl rfl
set_option maxRecDepth 16000 in
theorem wM_L_133 : Cond.methodLink RL 133 yX6_many ∈ am_BW := am_BW_i 628 rfl rfl
set_option maxRecDepth 16000 in
theorem wN_yX6_many : Cond.instanceMethod yX6_many ∈ am_BW := am_BW_i 629 rfl rfl
set_option maxRecDepth 16000 in
theorem wE_yX6_many : Cond.selects RX6 yX6_many yX6_many ∈ am_BW := am_BW_i 630 rfl rfl
set_option maxRecDepth 16000 in
theorem wC_yX6_many : Cond.code yX6_many cX6_many 2 (some .int) ∈ am_BW := am_BW_i 631 rfl rfl
set_option maxRecDepth 16000 in
theorem wK_L_10 : Cond.classLink RL 10 RX7 ∈ am_BW := am_BW_i 632 rfl rfl
set_option maxRecDepth 16000 in
theorem wT_X7 : Cond.instantiable RX7 30 ∈ lw_tbl := List.mem_of_getElem? (i := 633) rfl
set_option maxRecDepth 16000 in
theorem wM_L_12 : Cond.methodLink RL 12 yX7_init ∈ am_BW := am_BW_i 634 rfl rfl
set_option maxRecDepth 16000 in
theorem wN_yX7_init : Cond.instanceMethod yX7_init ∈ am_BW := am_BW_i 635 rfl rfl
set_option maxRecDepth 16000 in
theorem wC_yX7_init : Cond.code yX7_init cX7_init 1 none ∈ am_BW := am_BW_i 636 rfl rfl
set_option maxRecDepth 16000 in
theorem wM_X7_1 : Cond.methodLink RX7 1 objectInit ∈ am_BW := am_BW_i 637 rfl rfl
set_option maxRecDepth 16000 in
theorem wF_X7_71 : Cond.fieldLink RX7 71 "RegretLineModel" "fault" "I" ∈ am_BW := am_BW_i 638 rfl rfl
set_option maxRecDepth 16000 in
theorem wF_X7_229 : Cond.fieldLink RX7 229 "RegretLineModel" "trace" "I" ∈ am_BW := am_BW_i 639 rfl rfl
set_option maxRecDepth 16000 in
theorem wF_X7_9 : Cond.fieldLink RX7 9 "RegretLineModel" "sorts" "[I" ∈ am_BW := am_BW_i 640 rfl rfl
set_option maxRecDepth 16000 in
theorem wF_X7_13 : Cond.fieldLink RX7 13 "RegretLineModel" "sheetLong" "[I" ∈ am_BW := am_BW_i 641 rfl rfl
set_option maxRecDepth 16000 in
theorem wF_X7_16 : Cond.fieldLink RX7 16 "RegretLineModel" "cells" "[I" ∈ am_BW := am_BW_i 642 rfl rfl
set_option maxRecDepth 16000 in
theorem wF_X7_84 : Cond.fieldLink RX7 84 "RegretLineModel" "miles" "I" ∈ am_BW := am_BW_i 643 rfl rfl
set_option maxRecDepth 16000 in
theorem wF_X7_81 : Cond.fieldLink RX7 81 "RegretLineModel" "people" "I" ∈ am_BW := am_BW_i 644 rfl rfl
set_option maxRecDepth 16000 in
theorem wF_X7_117 : Cond.fieldLink RX7 117 "RegretLineModel" "first" "I" ∈ am_BW := am_BW_i 645 rfl rfl
set_option maxRecDepth 16000 in
theorem wF_X7_120 : Cond.fieldLink RX7 120 "RegretLineModel" "second" "I" ∈ am_BW := am_BW_i 646 rfl rfl
set_option maxRecDepth 16000 in
theorem wF_X7_19 : Cond.fieldLink RX7 19 "RegretLineModel" "seatsOf" "[I" ∈ am_BW := am_BW_i 647 rfl rfl
set_option maxRecDepth 16000 in
theorem wF_X7_22 : Cond.fieldLink RX7 22 "RegretLineModel" "isTunnel" "[Z" ∈ am_BW := am_BW_i 648 rfl rfl
set_option maxRecDepth 16000 in
theorem wF_X7_26 : Cond.fieldLink RX7 26 "RegretLineModel" "talksA" "[I" ∈ am_BW := am_BW_i 649 rfl rfl
set_option maxRecDepth 16000 in
theorem wF_X7_29 : Cond.fieldLink RX7 29 "RegretLineModel" "talksB" "[I" ∈ am_BW := am_BW_i 650 rfl rfl
set_option maxRecDepth 16000 in
theorem wF_X7_32 : Cond.fieldLink RX7 32 "RegretLineModel" "kind" "[I" ∈ am_BW := am_BW_i 651 rfl rfl
set_option maxRecDepth 16000 in
theorem wF_X7_35 : Cond.fieldLink RX7 35 "RegretLineModel" "began" "[I" ∈ am_BW := am_BW_i 652 rfl rfl
set_option maxRecDepth 16000 in
theorem wF_X7_38 : Cond.fieldLink RX7 38 "RegretLineModel" "fades" "[I" ∈ am_BW := am_BW_i 653 rfl rfl
set_option maxRecDepth 16000 in
theorem wF_X7_87 : Cond.fieldLink RX7 87 "RegretLineModel" "at" "I" ∈ am_BW := am_BW_i 654 rfl rfl
set_option maxRecDepth 16000 in
theorem wF_X7_111 : Cond.fieldLink RX7 111 "RegretLineModel" "readMiles" "I" ∈ am_BW := am_BW_i 655 rfl rfl
set_option maxRecDepth 16000 in
theorem wF_X7_114 : Cond.fieldLink RX7 114 "RegretLineModel" "readMany" "I" ∈ am_BW := am_BW_i 656 rfl rfl
set_option maxRecDepth 16000 in
theorem wF_X7_41 : Cond.fieldLink RX7 41 "RegretLineModel" "readSeats" "[I" ∈ am_BW := am_BW_i 657 rfl rfl
set_option maxRecDepth 16000 in
theorem wF_X7_44 : Cond.fieldLink RX7 44 "RegretLineModel" "readTunnel" "[Z" ∈ am_BW := am_BW_i 658 rfl rfl
set_option maxRecDepth 16000 in
theorem wF_X7_47 : Cond.fieldLink RX7 47 "RegretLineModel" "read" "[I" ∈ am_BW := am_BW_i 659 rfl rfl
set_option maxRecDepth 16000 in
theorem wF_X7_50 : Cond.fieldLink RX7 50 "RegretLineModel" "regrets" "[I" ∈ am_BW := am_BW_i 660 rfl rfl
set_option maxRecDepth 16000 in
theorem wF_X7_53 : Cond.fieldLink RX7 53 "RegretLineModel" "dues" "[I" ∈ am_BW := am_BW_i 661 rfl rfl
set_option maxRecDepth 16000 in
theorem wF_X7_56 : Cond.fieldLink RX7 56 "RegretLineModel" "trouble" "[I" ∈ am_BW := am_BW_i 662 rfl rfl
set_option maxRecDepth 16000 in
theorem wF_X7_59 : Cond.fieldLink RX7 59 "RegretLineModel" "unit" "[I" ∈ am_BW := am_BW_i 663 rfl rfl
set_option maxRecDepth 16000 in
theorem wF_X7_123 : Cond.fieldLink RX7 123 "RegretLineModel" "readings" "I" ∈ am_BW := am_BW_i 664 rfl rfl
set_option maxRecDepth 16000 in
theorem wF_X7_62 : Cond.fieldLink RX7 62 "RegretLineModel" "readWho" "[I" ∈ am_BW := am_BW_i 665 rfl rfl
set_option maxRecDepth 16000 in
theorem wF_X7_65 : Cond.fieldLink RX7 65 "RegretLineModel" "readMile" "[I" ∈ am_BW := am_BW_i 666 rfl rfl
set_option maxRecDepth 16000 in
theorem wF_X7_68 : Cond.fieldLink RX7 68 "RegretLineModel" "readClass" "[I" ∈ am_BW := am_BW_i 667 rfl rfl
set_option maxRecDepth 16000 in
theorem wM_L_17 : Cond.methodLink RL 17 yX7_line ∈ am_BW := am_BW_i 729 rfl rfl
set_option maxRecDepth 16000 in
theorem wN_yX7_line : Cond.instanceMethod yX7_line ∈ am_BW := am_BW_i 730 rfl rfl
set_option maxRecDepth 16000 in
theorem wE_yX7_line : Cond.selects RX7 yX7_line yX7_line ∈ am_BW := am_BW_i 731 rfl rfl
set_option maxRecDepth 16000 in
theorem wC_yX7_line : Cond.code yX7_line cX7_line 7 (some .int) ∈ am_BW := am_BW_i 732 rfl rfl
set_option maxRecDepth 16000 in
theorem wM_X7_90 : Cond.methodLink RX7 90 yX7_isSheet ∈ am_BW := am_BW_i 733 rfl rfl
set_option maxRecDepth 16000 in
theorem wS_yX7_isSheet : Cond.static yX7_isSheet ∈ am_BW := am_BW_i 734 rfl rfl
set_option maxRecDepth 16000 in
theorem wC_yX7_isSheet : Cond.code yX7_isSheet cX7_isSheet 1 (some .boolean) ∈ am_BW := am_BW_i 735 rfl rfl
set_option maxRecDepth 16000 in
theorem wM_X7_77 : Cond.methodLink RX7 77 yX7_within ∈ am_BW := am_BW_i 736 rfl rfl
set_option maxRecDepth 16000 in
theorem wS_yX7_within : Cond.static yX7_within ∈ am_BW := am_BW_i 737 rfl rfl
set_option maxRecDepth 16000 in
theorem wC_yX7_within : Cond.code yX7_within cX7_within 3 (some .boolean) ∈ am_BW := am_BW_i 738 rfl rfl
set_option maxRecDepth 16000 in
theorem wM_X7_94 : Cond.methodLink RX7 94 yX7_isSort ∈ am_BW := am_BW_i 739 rfl rfl
set_option maxRecDepth 16000 in
theorem wS_yX7_isSort : Cond.static yX7_isSort ∈ am_BW := am_BW_i 740 rfl rfl
set_option maxRecDepth 16000 in
theorem wC_yX7_isSort : Cond.code yX7_isSort cX7_isSort 1 (some .boolean) ∈ am_BW := am_BW_i 741 rfl rfl
set_option maxRecDepth 16000 in
theorem wM_X7_97 : Cond.methodLink RX7 97 yX7_against ∈ am_BW := am_BW_i 742 rfl rfl
set_option maxRecDepth 16000 in
theorem wN_yX7_against : Cond.instanceMethod yX7_against ∈ am_BW := am_BW_i 744 rfl rfl
set_option maxRecDepth 16000 in
theorem wC_yX7_against : Cond.code yX7_against cX7_against 5 (some .int) ∈ am_BW := am_BW_i 745 rfl rfl
set_option maxRecDepth 16000 in
theorem wM_X7_101 : Cond.methodLink RX7 101 yX7_fails ∈ am_BW := am_BW_i 746 rfl rfl
set_option maxRecDepth 16000 in
theorem wN_yX7_fails : Cond.instanceMethod yX7_fails ∈ am_BW := am_BW_i 748 rfl rfl
set_option maxRecDepth 16000 in
theorem wC_yX7_fails : Cond.code yX7_fails cX7_fails 2 (some .int) ∈ am_BW := am_BW_i 749 rfl rfl
set_option maxRecDepth 16000 in
theorem wM_X7_105 : Cond.methodLink RX7 105 yX7_readLine ∈ am_BW := am_BW_i 750 rfl rfl
set_option maxRecDepth 16000 in
theorem wN_yX7_readLine : Cond.instanceMethod yX7_readLine ∈ am_BW := am_BW_i 752 rfl rfl
set_option maxRecDepth 16000 in
theorem wC_yX7_readLine : Cond.code yX7_readLine cX7_readLine 3 (some .boolean) ∈ am_BW := am_BW_i 753 rfl rfl
set_option maxRecDepth 16000 in
theorem wM_X7_126 : Cond.methodLink RX7 126 yX7_isSign ∈ am_BW := am_BW_i 754 rfl rfl
set_option maxRecDepth 16000 in
theorem wN_yX7_isSign : Cond.instanceMethod yX7_isSign ∈ am_BW := am_BW_i 756 rfl rfl
set_option maxRecDepth 16000 in
theorem wC_yX7_isSign : Cond.code yX7_isSign cX7_isSign 3 (some .boolean) ∈ am_BW := am_BW_i 757 rfl rfl
set_option maxRecDepth 16000 in
theorem wM_X7_130 : Cond.methodLink RX7 130 yX7_digit ∈ am_BW := am_BW_i 758 rfl rfl
set_option maxRecDepth 16000 in
theorem wN_yX7_digit : Cond.instanceMethod yX7_digit ∈ am_BW := am_BW_i 760 rfl rfl
set_option maxRecDepth 16000 in
theorem wC_yX7_digit : Cond.code yX7_digit cX7_digit 4 (some .int) ∈ am_BW := am_BW_i 761 rfl rfl
set_option maxRecDepth 16000 in
theorem wM_X7_134 : Cond.methodLink RX7 134 yX7_readPassenger ∈ am_BW := am_BW_i 762 rfl rfl
set_option maxRecDepth 16000 in
theorem wN_yX7_readPassenger : Cond.instanceMethod yX7_readPassenger ∈ am_BW := am_BW_i 764 rfl rfl
set_option maxRecDepth 16000 in
theorem wC_yX7_readPassenger : Cond.code yX7_readPassenger cX7_readPassenger 6 (some .boolean) ∈ am_BW := am_BW_i 765 rfl rfl
set_option maxRecDepth 16000 in
theorem wM_X7_108 : Cond.methodLink RX7 108 yX7_takeLine ∈ am_BW := am_BW_i 766 rfl rfl
set_option maxRecDepth 16000 in
theorem wN_yX7_takeLine : Cond.instanceMethod yX7_takeLine ∈ am_BW := am_BW_i 768 rfl rfl
set_option maxRecDepth 16000 in
theorem wC_yX7_takeLine : Cond.code yX7_takeLine cX7_takeLine 2 none ∈ am_BW := am_BW_i 769 rfl rfl
set_option maxRecDepth 16000 in
theorem wM_L_22 : Cond.methodLink RL 22 yX7_ofPassenger ∈ am_BW := am_BW_i 770 rfl rfl
set_option maxRecDepth 16000 in
theorem wN_yX7_ofPassenger : Cond.instanceMethod yX7_ofPassenger ∈ am_BW := am_BW_i 771 rfl rfl
set_option maxRecDepth 16000 in
theorem wE_yX7_ofPassenger : Cond.selects RX7 yX7_ofPassenger yX7_ofPassenger ∈ am_BW := am_BW_i 772 rfl rfl
set_option maxRecDepth 16000 in
theorem wC_yX7_ofPassenger : Cond.code yX7_ofPassenger cX7_ofPassenger 3 (some .int) ∈ am_BW := am_BW_i 773 rfl rfl
set_option maxRecDepth 16000 in
theorem wM_X7_137 : Cond.methodLink RX7 137 yX7_isPassenger ∈ am_BW := am_BW_i 774 rfl rfl
set_option maxRecDepth 16000 in
theorem wN_yX7_isPassenger : Cond.instanceMethod yX7_isPassenger ∈ am_BW := am_BW_i 776 rfl rfl
set_option maxRecDepth 16000 in
theorem wC_yX7_isPassenger : Cond.code yX7_isPassenger cX7_isPassenger 2 (some .boolean) ∈ am_BW := am_BW_i 777 rfl rfl
set_option maxRecDepth 16000 in
theorem wM_L_26 : Cond.methodLink RL 26 yX7_seats ∈ am_BW := am_BW_i 778 rfl rfl
set_option maxRecDepth 16000 in
theorem wN_yX7_seats : Cond.instanceMethod yX7_seats ∈ am_BW := am_BW_i 779 rfl rfl
set_option maxRecDepth 16000 in
theorem wE_yX7_seats : Cond.selects RX7 yX7_seats yX7_seats ∈ am_BW := am_BW_i 780 rfl rfl
set_option maxRecDepth 16000 in
theorem wC_yX7_seats : Cond.code yX7_seats cX7_seats 4 (some .int) ∈ am_BW := am_BW_i 781 rfl rfl
set_option maxRecDepth 16000 in
theorem wM_L_30 : Cond.methodLink RL 30 yX7_limits ∈ am_BW := am_BW_i 782 rfl rfl
set_option maxRecDepth 16000 in
theorem wN_yX7_limits : Cond.instanceMethod yX7_limits ∈ am_BW := am_BW_i 783 rfl rfl
set_option maxRecDepth 16000 in
theorem wE_yX7_limits : Cond.selects RX7 yX7_limits yX7_limits ∈ am_BW := am_BW_i 784 rfl rfl
set_option maxRecDepth 16000 in
theorem wC_yX7_limits : Cond.code yX7_limits cX7_limits 4 (some .int) ∈ am_BW := am_BW_i 785 rfl rfl
set_option maxRecDepth 16000 in
theorem wM_L_35 : Cond.methodLink RL 35 yX7_dig ∈ am_BW := am_BW_i 786 rfl rfl
set_option maxRecDepth 16000 in
theorem wN_yX7_dig : Cond.instanceMethod yX7_dig ∈ am_BW := am_BW_i 787 rfl rfl
set_option maxRecDepth 16000 in
theorem wE_yX7_dig : Cond.selects RX7 yX7_dig yX7_dig ∈ am_BW := am_BW_i 788 rfl rfl
set_option maxRecDepth 16000 in
theorem wC_yX7_dig : Cond.code yX7_dig cX7_dig 4 (some .int) ∈ am_BW := am_BW_i 789 rfl rfl
set_option maxRecDepth 16000 in
theorem wM_X7_140 : Cond.methodLink RX7 140 yX7_isMile ∈ am_BW := am_BW_i 790 rfl rfl
set_option maxRecDepth 16000 in
theorem wN_yX7_isMile : Cond.instanceMethod yX7_isMile ∈ am_BW := am_BW_i 792 rfl rfl
set_option maxRecDepth 16000 in
theorem wC_yX7_isMile : Cond.code yX7_isMile cX7_isMile 2 (some .boolean) ∈ am_BW := am_BW_i 793 rfl rfl
set_option maxRecDepth 16000 in
theorem wM_L_40 : Cond.methodLink RL 40 yX7_talk ∈ am_BW := am_BW_i 794 rfl rfl
set_option maxRecDepth 16000 in
theorem wN_yX7_talk : Cond.instanceMethod yX7_talk ∈ am_BW := am_BW_i 795 rfl rfl
set_option maxRecDepth 16000 in
theorem wE_yX7_talk : Cond.selects RX7 yX7_talk yX7_talk ∈ am_BW := am_BW_i 796 rfl rfl
set_option maxRecDepth 16000 in
theorem wC_yX7_talk : Cond.code yX7_talk cX7_talk 6 (some .int) ∈ am_BW := am_BW_i 797 rfl rfl
set_option maxRecDepth 16000 in
theorem wM_L_44 : Cond.methodLink RL 44 yX7_regret ∈ am_BW := am_BW_i 798 rfl rfl
set_option maxRecDepth 16000 in
theorem wN_yX7_regret : Cond.instanceMethod yX7_regret ∈ am_BW := am_BW_i 799 rfl rfl
set_option maxRecDepth 16000 in
theorem wE_yX7_regret : Cond.selects RX7 yX7_regret yX7_regret ∈ am_BW := am_BW_i 800 rfl rfl
set_option maxRecDepth 16000 in
theorem wC_yX7_regret : Cond.code yX7_regret cX7_regret 3 (some .int) ∈ am_BW := am_BW_i 801 rfl rfl
set_option maxRecDepth 16000 in
theorem wM_X7_157 : Cond.methodLink RX7 157 yX7_goTo ∈ am_BW := am_BW_i 802 rfl rfl
set_option maxRecDepth 16000 in
theorem wN_yX7_goTo : Cond.instanceMethod yX7_goTo ∈ am_BW := am_BW_i 804 rfl rfl
set_option maxRecDepth 16000 in
theorem wC_yX7_goTo : Cond.code yX7_goTo cX7_goTo 3 none ∈ am_BW := am_BW_i 805 rfl rfl
set_option maxRecDepth 16000 in
theorem wM_X7_150 : Cond.methodLink RX7 150 yX7_begin ∈ am_BW := am_BW_i 806 rfl rfl
set_option maxRecDepth 16000 in
theorem wN_yX7_begin : Cond.instanceMethod yX7_begin ∈ am_BW := am_BW_i 808 rfl rfl
set_option maxRecDepth 16000 in
theorem wC_yX7_begin : Cond.code yX7_begin cX7_begin 2 none ∈ am_BW := am_BW_i 809 rfl rfl
set_option maxRecDepth 16000 in
theorem wM_X7_153 : Cond.methodLink RX7 153 yX7_goMile ∈ am_BW := am_BW_i 810 rfl rfl
set_option maxRecDepth 16000 in
theorem wN_yX7_goMile : Cond.instanceMethod yX7_goMile ∈ am_BW := am_BW_i 812 rfl rfl
set_option maxRecDepth 16000 in
theorem wC_yX7_goMile : Cond.code yX7_goMile cX7_goMile 4 none ∈ am_BW := am_BW_i 813 rfl rfl
set_option maxRecDepth 16000 in
theorem wM_X7_143 : Cond.methodLink RX7 143 yX7_changes ∈ am_BW := am_BW_i 814 rfl rfl
set_option maxRecDepth 16000 in
theorem wN_yX7_changes : Cond.instanceMethod yX7_changes ∈ am_BW := am_BW_i 816 rfl rfl
set_option maxRecDepth 16000 in
theorem wC_yX7_changes : Cond.code yX7_changes cX7_changes 3 (some .int) ∈ am_BW := am_BW_i 817 rfl rfl
set_option maxRecDepth 16000 in
theorem wM_X7_147 : Cond.methodLink RX7 147 yX7_bounded ∈ am_BW := am_BW_i 818 rfl rfl
set_option maxRecDepth 16000 in
theorem wS_yX7_bounded : Cond.static yX7_bounded ∈ am_BW := am_BW_i 819 rfl rfl
set_option maxRecDepth 16000 in
theorem wC_yX7_bounded : Cond.code yX7_bounded cX7_bounded 1 (some .int) ∈ am_BW := am_BW_i 820 rfl rfl
set_option maxRecDepth 16000 in
theorem wM_L_48 : Cond.methodLink RL 48 yX7_due ∈ am_BW := am_BW_i 821 rfl rfl
set_option maxRecDepth 16000 in
theorem wN_yX7_due : Cond.instanceMethod yX7_due ∈ am_BW := am_BW_i 822 rfl rfl
set_option maxRecDepth 16000 in
theorem wE_yX7_due : Cond.selects RX7 yX7_due yX7_due ∈ am_BW := am_BW_i 823 rfl rfl
set_option maxRecDepth 16000 in
theorem wC_yX7_due : Cond.code yX7_due cX7_due 4 (some .int) ∈ am_BW := am_BW_i 824 rfl rfl
set_option maxRecDepth 16000 in
theorem wM_X7_161 : Cond.methodLink RX7 161 yX7_regret ∈ am_BW := am_BW_i 825 rfl rfl
set_option maxRecDepth 16000 in
theorem wM_X7_165 : Cond.methodLink RX7 165 yX7_dueBy ∈ am_BW := am_BW_i 826 rfl rfl
set_option maxRecDepth 16000 in
theorem wN_yX7_dueBy : Cond.instanceMethod yX7_dueBy ∈ am_BW := am_BW_i 828 rfl rfl
set_option maxRecDepth 16000 in
theorem wC_yX7_dueBy : Cond.code yX7_dueBy cX7_dueBy 2 (some .int) ∈ am_BW := am_BW_i 829 rfl rfl
set_option maxRecDepth 16000 in
theorem wM_L_53 : Cond.methodLink RL 53 yX7_seating ∈ am_BW := am_BW_i 830 rfl rfl
set_option maxRecDepth 16000 in
theorem wN_yX7_seating : Cond.instanceMethod yX7_seating ∈ am_BW := am_BW_i 831 rfl rfl
set_option maxRecDepth 16000 in
theorem wE_yX7_seating : Cond.selects RX7 yX7_seating yX7_seating ∈ am_BW := am_BW_i 832 rfl rfl
set_option maxRecDepth 16000 in
theorem wC_yX7_seating : Cond.code yX7_seating cX7_seating 9 (some .int) ∈ am_BW := am_BW_i 833 rfl rfl
set_option maxRecDepth 16000 in
theorem wM_X7_171 : Cond.methodLink RX7 171 yX7_wrongBy ∈ am_BW := am_BW_i 834 rfl rfl
set_option maxRecDepth 16000 in
theorem wN_yX7_wrongBy : Cond.instanceMethod yX7_wrongBy ∈ am_BW := am_BW_i 836 rfl rfl
set_option maxRecDepth 16000 in
theorem wC_yX7_wrongBy : Cond.code yX7_wrongBy cX7_wrongBy 4 (some .int) ∈ am_BW := am_BW_i 837 rfl rfl
set_option maxRecDepth 16000 in
theorem wM_X7_168 : Cond.methodLink RX7 168 yX7_seatedIn ∈ am_BW := am_BW_i 838 rfl rfl
set_option maxRecDepth 16000 in
theorem wN_yX7_seatedIn : Cond.instanceMethod yX7_seatedIn ∈ am_BW := am_BW_i 840 rfl rfl
set_option maxRecDepth 16000 in
theorem wC_yX7_seatedIn : Cond.code yX7_seatedIn cX7_seatedIn 5 (some .int) ∈ am_BW := am_BW_i 841 rfl rfl
set_option maxRecDepth 16000 in
theorem wM_X7_174 : Cond.methodLink RX7 174 yX7_tellSeating ∈ am_BW := am_BW_i 842 rfl rfl
set_option maxRecDepth 16000 in
theorem wN_yX7_tellSeating : Cond.instanceMethod yX7_tellSeating ∈ am_BW := am_BW_i 844 rfl rfl
set_option maxRecDepth 16000 in
theorem wC_yX7_tellSeating : Cond.code yX7_tellSeating cX7_tellSeating 3 (some .int) ∈ am_BW := am_BW_i 845 rfl rfl
set_option maxRecDepth 16000 in
theorem wM_X7_177 : Cond.methodLink RX7 177 yX7_layDues ∈ am_BW := am_BW_i 846 rfl rfl
set_option maxRecDepth 16000 in
theorem wN_yX7_layDues : Cond.instanceMethod yX7_layDues ∈ am_BW := am_BW_i 848 rfl rfl
set_option maxRecDepth 16000 in
theorem wC_yX7_layDues : Cond.code yX7_layDues cX7_layDues 3 none ∈ am_BW := am_BW_i 849 rfl rfl
set_option maxRecDepth 16000 in
theorem wM_X7_180 : Cond.methodLink RX7 180 yX7_changesBy ∈ am_BW := am_BW_i 850 rfl rfl
set_option maxRecDepth 16000 in
theorem wN_yX7_changesBy : Cond.instanceMethod yX7_changesBy ∈ am_BW := am_BW_i 852 rfl rfl
set_option maxRecDepth 16000 in
theorem wC_yX7_changesBy : Cond.code yX7_changesBy cX7_changesBy 4 (some .int) ∈ am_BW := am_BW_i 853 rfl rfl
set_option maxRecDepth 16000 in
theorem wM_X7_183 : Cond.methodLink RX7 183 yX7_lowBy ∈ am_BW := am_BW_i 854 rfl rfl
set_option maxRecDepth 16000 in
theorem wN_yX7_lowBy : Cond.instanceMethod yX7_lowBy ∈ am_BW := am_BW_i 856 rfl rfl
set_option maxRecDepth 16000 in
theorem wC_yX7_lowBy : Cond.code yX7_lowBy cX7_lowBy 5 (some .int) ∈ am_BW := am_BW_i 857 rfl rfl
set_option maxRecDepth 16000 in
theorem wM_X7_186 : Cond.methodLink RX7 186 yX7_aboveBy ∈ am_BW := am_BW_i 858 rfl rfl
set_option maxRecDepth 16000 in
theorem wN_yX7_aboveBy : Cond.instanceMethod yX7_aboveBy ∈ am_BW := am_BW_i 860 rfl rfl
set_option maxRecDepth 16000 in
theorem wC_yX7_aboveBy : Cond.code yX7_aboveBy cX7_aboveBy 6 (some .int) ∈ am_BW := am_BW_i 861 rfl rfl
set_option maxRecDepth 16000 in
theorem wM_L_58 : Cond.methodLink RL 58 yX7_ease ∈ am_BW := am_BW_i 862 rfl rfl
set_option maxRecDepth 16000 in
theorem wN_yX7_ease : Cond.instanceMethod yX7_ease ∈ am_BW := am_BW_i 863 rfl rfl
set_option maxRecDepth 16000 in
theorem wE_yX7_ease : Cond.selects RX7 yX7_ease yX7_ease ∈ am_BW := am_BW_i 864 rfl rfl
set_option maxRecDepth 16000 in
theorem wC_yX7_ease : Cond.code yX7_ease cX7_ease 5 (some .int) ∈ am_BW := am_BW_i 865 rfl rfl
set_option maxRecDepth 16000 in
theorem wM_X7_201 : Cond.methodLink RX7 201 yX7_rows ∈ am_BW := am_BW_i 866 rfl rfl
set_option maxRecDepth 16000 in
theorem wN_yX7_rows : Cond.instanceMethod yX7_rows ∈ am_BW := am_BW_i 868 rfl rfl
set_option maxRecDepth 16000 in
theorem wC_yX7_rows : Cond.code yX7_rows cX7_rows 3 (some .int) ∈ am_BW := am_BW_i 869 rfl rfl
set_option maxRecDepth 16000 in
theorem wM_X7_205 : Cond.methodLink RX7 205 yX7_findEase ∈ am_BW := am_BW_i 870 rfl rfl
set_option maxRecDepth 16000 in
theorem wN_yX7_findEase : Cond.instanceMethod yX7_findEase ∈ am_BW := am_BW_i 872 rfl rfl
set_option maxRecDepth 16000 in
theorem wC_yX7_findEase : Cond.code yX7_findEase cX7_findEase 6 none ∈ am_BW := am_BW_i 873 rfl rfl
set_option maxRecDepth 16000 in
theorem wM_X7_195 : Cond.methodLink RX7 195 yX7_lowIn ∈ am_BW := am_BW_i 874 rfl rfl
set_option maxRecDepth 16000 in
theorem wN_yX7_lowIn : Cond.instanceMethod yX7_lowIn ∈ am_BW := am_BW_i 876 rfl rfl
set_option maxRecDepth 16000 in
theorem wC_yX7_lowIn : Cond.code yX7_lowIn cX7_lowIn 7 (some .int) ∈ am_BW := am_BW_i 877 rfl rfl
set_option maxRecDepth 16000 in
theorem wM_X7_189 : Cond.methodLink RX7 189 yX7_place ∈ am_BW := am_BW_i 878 rfl rfl
set_option maxRecDepth 16000 in
theorem wN_yX7_place : Cond.instanceMethod yX7_place ∈ am_BW := am_BW_i 880 rfl rfl
set_option maxRecDepth 16000 in
theorem wC_yX7_place : Cond.code yX7_place cX7_place 3 (some .int) ∈ am_BW := am_BW_i 881 rfl rfl
set_option maxRecDepth 16000 in
theorem wM_X7_198 : Cond.methodLink RX7 198 yX7_bestBehind ∈ am_BW := am_BW_i 882 rfl rfl
set_option maxRecDepth 16000 in
theorem wN_yX7_bestBehind : Cond.instanceMethod yX7_bestBehind ∈ am_BW := am_BW_i 884 rfl rfl
set_option maxRecDepth 16000 in
theorem wC_yX7_bestBehind : Cond.code yX7_bestBehind cX7_bestBehind 7 (some .int) ∈ am_BW := am_BW_i 885 rfl rfl
set_option maxRecDepth 16000 in
theorem wM_X7_192 : Cond.methodLink RX7 192 yX7_changed ∈ am_BW := am_BW_i 886 rfl rfl
set_option maxRecDepth 16000 in
theorem wN_yX7_changed : Cond.instanceMethod yX7_changed ∈ am_BW := am_BW_i 888 rfl rfl
set_option maxRecDepth 16000 in
theorem wC_yX7_changed : Cond.code yX7_changed cX7_changed 5 (some .int) ∈ am_BW := am_BW_i 889 rfl rfl
set_option maxRecDepth 16000 in
theorem wM_X7_208 : Cond.methodLink RX7 208 yX7_bestRow ∈ am_BW := am_BW_i 890 rfl rfl
set_option maxRecDepth 16000 in
theorem wN_yX7_bestRow : Cond.instanceMethod yX7_bestRow ∈ am_BW := am_BW_i 892 rfl rfl
set_option maxRecDepth 16000 in
theorem wC_yX7_bestRow : Cond.code yX7_bestRow cX7_bestRow 8 (some .int) ∈ am_BW := am_BW_i 893 rfl rfl
set_option maxRecDepth 16000 in
theorem wM_L_63 : Cond.methodLink RL 63 yX7_stuck ∈ am_BW := am_BW_i 894 rfl rfl
set_option maxRecDepth 16000 in
theorem wN_yX7_stuck : Cond.instanceMethod yX7_stuck ∈ am_BW := am_BW_i 895 rfl rfl
set_option maxRecDepth 16000 in
theorem wE_yX7_stuck : Cond.selects RX7 yX7_stuck yX7_stuck ∈ am_BW := am_BW_i 896 rfl rfl
set_option maxRecDepth 16000 in
theorem wC_yX7_stuck : Cond.code yX7_stuck cX7_stuck 5 (some .int) ∈ am_BW := am_BW_i 897 rfl rfl
set_option maxRecDepth 16000 in
theorem wM_L_67 : Cond.methodLink RL 67 yX7_help ∈ am_BW := am_BW_i 898 rfl rfl
set_option maxRecDepth 16000 in
theorem wN_yX7_help : Cond.instanceMethod yX7_help ∈ am_BW := am_BW_i 899 rfl rfl
set_option maxRecDepth 16000 in
theorem wE_yX7_help : Cond.selects RX7 yX7_help yX7_help ∈ am_BW := am_BW_i 900 rfl rfl
set_option maxRecDepth 16000 in
theorem wC_yX7_help : Cond.code yX7_help cX7_help 8 (some .int) ∈ am_BW := am_BW_i 901 rfl rfl
set_option maxRecDepth 16000 in
theorem wM_X7_211 : Cond.methodLink RX7 211 yX7_dueTogether ∈ am_BW := am_BW_i 902 rfl rfl
set_option maxRecDepth 16000 in
theorem wN_yX7_dueTogether : Cond.instanceMethod yX7_dueTogether ∈ am_BW := am_BW_i 904 rfl rfl
set_option maxRecDepth 16000 in
theorem wC_yX7_dueTogether : Cond.code yX7_dueTogether cX7_dueTogether 5 (some .int) ∈ am_BW := am_BW_i 905 rfl rfl
set_option maxRecDepth 16000 in
theorem wM_L_71 : Cond.methodLink RL 71 yX7_reading ∈ am_BW := am_BW_i 906 rfl rfl
set_option maxRecDepth 16000 in
theorem wN_yX7_reading : Cond.instanceMethod yX7_reading ∈ am_BW := am_BW_i 907 rfl rfl
set_option maxRecDepth 16000 in
theorem wE_yX7_reading : Cond.selects RX7 yX7_reading yX7_reading ∈ am_BW := am_BW_i 908 rfl rfl
set_option maxRecDepth 16000 in
theorem wC_yX7_reading : Cond.code yX7_reading cX7_reading 4 (some .int) ∈ am_BW := am_BW_i 909 rfl rfl
set_option maxRecDepth 16000 in
theorem wM_L_75 : Cond.methodLink RL 75 yX7_back ∈ am_BW := am_BW_i 910 rfl rfl
set_option maxRecDepth 16000 in
theorem wN_yX7_back : Cond.instanceMethod yX7_back ∈ am_BW := am_BW_i 911 rfl rfl
set_option maxRecDepth 16000 in
theorem wE_yX7_back : Cond.selects RX7 yX7_back yX7_back ∈ am_BW := am_BW_i 912 rfl rfl
set_option maxRecDepth 16000 in
theorem wC_yX7_back : Cond.code yX7_back cX7_back 2 (some .int) ∈ am_BW := am_BW_i 913 rfl rfl
set_option maxRecDepth 16000 in
theorem wM_L_79 : Cond.methodLink RL 79 yX7_began ∈ am_BW := am_BW_i 914 rfl rfl
set_option maxRecDepth 16000 in
theorem wN_yX7_began : Cond.instanceMethod yX7_began ∈ am_BW := am_BW_i 915 rfl rfl
set_option maxRecDepth 16000 in
theorem wE_yX7_began : Cond.selects RX7 yX7_began yX7_began ∈ am_BW := am_BW_i 916 rfl rfl
set_option maxRecDepth 16000 in
theorem wC_yX7_began : Cond.code yX7_began cX7_began 7 (some .int) ∈ am_BW := am_BW_i 917 rfl rfl
set_option maxRecDepth 16000 in
theorem wM_X7_217 : Cond.methodLink RX7 217 yX7_areSo ∈ am_BW := am_BW_i 918 rfl rfl
set_option maxRecDepth 16000 in
theorem wN_yX7_areSo : Cond.instanceMethod yX7_areSo ∈ am_BW := am_BW_i 920 rfl rfl
set_option maxRecDepth 16000 in
theorem wC_yX7_areSo : Cond.code yX7_areSo cX7_areSo 2 (some .boolean) ∈ am_BW := am_BW_i 921 rfl rfl
set_option maxRecDepth 16000 in
theorem wM_X7_214 : Cond.methodLink RX7 214 yX7_areSoIn ∈ am_BW := am_BW_i 922 rfl rfl
set_option maxRecDepth 16000 in
theorem wN_yX7_areSoIn : Cond.instanceMethod yX7_areSoIn ∈ am_BW := am_BW_i 924 rfl rfl
set_option maxRecDepth 16000 in
theorem wC_yX7_areSoIn : Cond.code yX7_areSoIn cX7_areSoIn 3 (some .boolean) ∈ am_BW := am_BW_i 925 rfl rfl
set_option maxRecDepth 16000 in
theorem wM_L_83 : Cond.methodLink RL 83 yX7_kinds ∈ am_BW := am_BW_i 926 rfl rfl
set_option maxRecDepth 16000 in
theorem wN_yX7_kinds : Cond.instanceMethod yX7_kinds ∈ am_BW := am_BW_i 927 rfl rfl
set_option maxRecDepth 16000 in
theorem wE_yX7_kinds : Cond.selects RX7 yX7_kinds yX7_kinds ∈ am_BW := am_BW_i 928 rfl rfl
set_option maxRecDepth 16000 in
theorem wC_yX7_kinds : Cond.code yX7_kinds cX7_kinds 5 (some .int) ∈ am_BW := am_BW_i 929 rfl rfl
set_option maxRecDepth 16000 in
theorem wM_L_87 : Cond.methodLink RL 87 yX7_fadings ∈ am_BW := am_BW_i 930 rfl rfl
set_option maxRecDepth 16000 in
theorem wN_yX7_fadings : Cond.instanceMethod yX7_fadings ∈ am_BW := am_BW_i 931 rfl rfl
set_option maxRecDepth 16000 in
theorem wE_yX7_fadings : Cond.selects RX7 yX7_fadings yX7_fadings ∈ am_BW := am_BW_i 932 rfl rfl
set_option maxRecDepth 16000 in
theorem wC_yX7_fadings : Cond.code yX7_fadings cX7_fadings 5 (some .int) ∈ am_BW := am_BW_i 933 rfl rfl
set_option maxRecDepth 16000 in
theorem wM_L_92 : Cond.methodLink RL 92 yX7_odds ∈ am_BW := am_BW_i 934 rfl rfl
set_option maxRecDepth 16000 in
theorem wN_yX7_odds : Cond.instanceMethod yX7_odds ∈ am_BW := am_BW_i 935 rfl rfl
set_option maxRecDepth 16000 in
theorem wE_yX7_odds : Cond.selects RX7 yX7_odds yX7_odds ∈ am_BW := am_BW_i 936 rfl rfl
set_option maxRecDepth 16000 in
theorem wC_yX7_odds : Cond.code yX7_odds cX7_odds 7 (some .long) ∈ am_BW := am_BW_i 937 rfl rfl
set_option maxRecDepth 16000 in
theorem wL_X7_75 : Cond.constantLong RX7 75 (-9223372036854775808) ∈ am_BW := am_BW_i 938 rfl rfl
set_option maxRecDepth 16000 in
theorem wM_X7_221 : Cond.methodLink RX7 221 yX7_inLeastTerms ∈ am_BW := am_BW_i 939 rfl rfl
set_option maxRecDepth 16000 in
theorem wS_yX7_inLeastTerms : Cond.static yX7_inLeastTerms ∈ am_BW := am_BW_i 940 rfl rfl
set_option maxRecDepth 16000 in
theorem wC_yX7_inLeastTerms : Cond.code yX7_inLeastTerms cX7_inLeastTerms 11 (some .long) ∈ am_BW := am_BW_i 941 rfl rfl
set_option maxRecDepth 16000 in
theorem wM_L_96 : Cond.methodLink RL 96 yX7_sheet ∈ am_BW := am_BW_i 942 rfl rfl
set_option maxRecDepth 16000 in
theorem wN_yX7_sheet : Cond.instanceMethod yX7_sheet ∈ am_BW := am_BW_i 943 rfl rfl
set_option maxRecDepth 16000 in
theorem wE_yX7_sheet : Cond.selects RX7 yX7_sheet yX7_sheet ∈ am_BW := am_BW_i 944 rfl rfl
set_option maxRecDepth 16000 in
theorem wC_yX7_sheet : Cond.code yX7_sheet cX7_sheet 5 (some .int) ∈ am_BW := am_BW_i 945 rfl rfl
set_option maxRecDepth 16000 in
theorem wM_L_100 : Cond.methodLink RL 100 yX7_lose ∈ am_BW := am_BW_i 946 rfl rfl
set_option maxRecDepth 16000 in
theorem wN_yX7_lose : Cond.instanceMethod yX7_lose ∈ am_BW := am_BW_i 947 rfl rfl
set_option maxRecDepth 16000 in
theorem wE_yX7_lose : Cond.selects RX7 yX7_lose yX7_lose ∈ am_BW := am_BW_i 948 rfl rfl
set_option maxRecDepth 16000 in
theorem wC_yX7_lose : Cond.code yX7_lose cX7_lose 3 (some .int) ∈ am_BW := am_BW_i 949 rfl rfl
set_option maxRecDepth 16000 in
theorem wM_L_104 : Cond.methodLink RL 104 yX7_put ∈ am_BW := am_BW_i 950 rfl rfl
set_option maxRecDepth 16000 in
theorem wN_yX7_put : Cond.instanceMethod yX7_put ∈ am_BW := am_BW_i 951 rfl rfl
set_option maxRecDepth 16000 in
theorem wE_yX7_put : Cond.selects RX7 yX7_put yX7_put ∈ am_BW := am_BW_i 952 rfl rfl
set_option maxRecDepth 16000 in
theorem wC_yX7_put : Cond.code yX7_put cX7_put 4 (some .int) ∈ am_BW := am_BW_i 953 rfl rfl
set_option maxRecDepth 16000 in
theorem wM_L_108 : Cond.methodLink RL 108 yX7_cell ∈ am_BW := am_BW_i 954 rfl rfl
set_option maxRecDepth 16000 in
theorem wN_yX7_cell : Cond.instanceMethod yX7_cell ∈ am_BW := am_BW_i 955 rfl rfl
set_option maxRecDepth 16000 in
theorem wE_yX7_cell : Cond.selects RX7 yX7_cell yX7_cell ∈ am_BW := am_BW_i 956 rfl rfl
set_option maxRecDepth 16000 in
theorem wC_yX7_cell : Cond.code yX7_cell cX7_cell 4 (some .long) ∈ am_BW := am_BW_i 957 rfl rfl
set_option maxRecDepth 16000 in
theorem wM_X7_225 : Cond.methodLink RX7 225 yX7_lost ∈ am_BW := am_BW_i 958 rfl rfl
set_option maxRecDepth 16000 in
theorem wN_yX7_lost : Cond.instanceMethod yX7_lost ∈ am_BW := am_BW_i 960 rfl rfl
set_option maxRecDepth 16000 in
theorem wC_yX7_lost : Cond.code yX7_lost cX7_lost 2 (some .long) ∈ am_BW := am_BW_i 961 rfl rfl
set_option maxRecDepth 16000 in
theorem wM_L_112 : Cond.methodLink RL 112 yX7_copy ∈ am_BW := am_BW_i 962 rfl rfl
set_option maxRecDepth 16000 in
theorem wN_yX7_copy : Cond.instanceMethod yX7_copy ∈ am_BW := am_BW_i 963 rfl rfl
set_option maxRecDepth 16000 in
theorem wE_yX7_copy : Cond.selects RX7 yX7_copy yX7_copy ∈ am_BW := am_BW_i 964 rfl rfl
set_option maxRecDepth 16000 in
theorem wC_yX7_copy : Cond.code yX7_copy cX7_copy 10 (some .int) ∈ am_BW := am_BW_i 965 rfl rfl
set_option maxRecDepth 16000 in
theorem wM_L_116 : Cond.methodLink RL 116 yX7_tell ∈ am_BW := am_BW_i 966 rfl rfl
set_option maxRecDepth 16000 in
theorem wN_yX7_tell : Cond.instanceMethod yX7_tell ∈ am_BW := am_BW_i 967 rfl rfl
set_option maxRecDepth 16000 in
theorem wE_yX7_tell : Cond.selects RX7 yX7_tell yX7_tell ∈ am_BW := am_BW_i 968 rfl rfl
set_option maxRecDepth 16000 in
theorem wC_yX7_tell : Cond.code yX7_tell cX7_tell 3 (some .int) ∈ am_BW := am_BW_i 969 rfl rfl
set_option maxRecDepth 16000 in
theorem wM_X7_232 : Cond.methodLink RX7 232 yX7_begins ∈ am_BW := am_BW_i 970 rfl rfl
set_option maxRecDepth 16000 in
theorem wN_yX7_begins : Cond.instanceMethod yX7_begins ∈ am_BW := am_BW_i 972 rfl rfl
set_option maxRecDepth 16000 in
theorem wC_yX7_begins : Cond.code yX7_begins cX7_begins 2 none ∈ am_BW := am_BW_i 973 rfl rfl
set_option maxRecDepth 16000 in
theorem wM_L_120 : Cond.methodLink RL 120 yX7_call ∈ am_BW := am_BW_i 974 rfl rfl
set_option maxRecDepth 16000 in
theorem wN_yX7_call : Cond.instanceMethod yX7_call ∈ am_BW := am_BW_i 975 rfl rfl
set_option maxRecDepth 16000 in
theorem wE_yX7_call : Cond.selects RX7 yX7_call yX7_call ∈ am_BW := am_BW_i 976 rfl rfl
set_option maxRecDepth 16000 in
theorem wC_yX7_call : Cond.code yX7_call cX7_call 2 (some .int) ∈ am_BW := am_BW_i 977 rfl rfl
set_option maxRecDepth 16000 in
theorem wM_L_124 : Cond.methodLink RL 124 yX7_as ∈ am_BW := am_BW_i 978 rfl rfl
set_option maxRecDepth 16000 in
theorem wN_yX7_as : Cond.instanceMethod yX7_as ∈ am_BW := am_BW_i 979 rfl rfl
set_option maxRecDepth 16000 in
theorem wE_yX7_as : Cond.selects RX7 yX7_as yX7_as ∈ am_BW := am_BW_i 980 rfl rfl
set_option maxRecDepth 16000 in
theorem wC_yX7_as : Cond.code yX7_as cX7_as 3 (some .int) ∈ am_BW := am_BW_i 981 rfl rfl
set_option maxRecDepth 16000 in
theorem wM_L_128 : Cond.methodLink RL 128 yX7_trace ∈ am_BW := am_BW_i 982 rfl rfl
set_option maxRecDepth 16000 in
theorem wN_yX7_trace : Cond.instanceMethod yX7_trace ∈ am_BW := am_BW_i 983 rfl rfl
set_option maxRecDepth 16000 in
theorem wE_yX7_trace : Cond.selects RX7 yX7_trace yX7_trace ∈ am_BW := am_BW_i 984 rfl rfl
set_option maxRecDepth 16000 in
theorem wC_yX7_trace : Cond.code yX7_trace cX7_trace 1 (some .int) ∈ am_BW := am_BW_i 985 rfl rfl
set_option maxRecDepth 16000 in
theorem wM_L_132 : Cond.methodLink RL 132 yX7_fault ∈ am_BW := am_BW_i 986 rfl rfl
set_option maxRecDepth 16000 in
theorem wN_yX7_fault : Cond.instanceMethod yX7_fault ∈ am_BW := am_BW_i 987 rfl rfl
set_option maxRecDepth 16000 in
theorem wE_yX7_fault : Cond.selects RX7 yX7_fault yX7_fault ∈ am_BW := am_BW_i 988 rfl rfl
set_option maxRecDepth 16000 in
theorem wC_yX7_fault : Cond.code yX7_fault cX7_fault 1 (some .int) ∈ am_BW := am_BW_i 989 rfl rfl
set_option maxRecDepth 16000 in
theorem wM_L_136 : Cond.methodLink RL 136 yX7_many ∈ am_BW := am_BW_i 990 rfl rfl
set_option maxRecDepth 16000 in
theorem wN_yX7_many : Cond.instanceMethod yX7_many ∈ am_BW := am_BW_i 991 rfl rfl
set_option maxRecDepth 16000 in
theorem wE_yX7_many : Cond.selects RX7 yX7_many yX7_many ∈ am_BW := am_BW_i 992 rfl rfl
set_option maxRecDepth 16000 in
theorem wC_yX7_many : Cond.code yX7_many cX7_many 2 (some .int) ∈ am_BW := am_BW_i 993 rfl rfl
theorem am_inB {ws : List Cond} (h2 : ws.all (fun w => decide (w ∈ lw_tbl) && goodWord w) = true) : ∀ w ∈ ws, w ∈ am_BW := by
  intro w h
  have h3 := List.all_eq_true.mp h2 w h
  simp only [Bool.and_eq_true, decide_eq_true_eq] at h3
  exact List.mem_filter.mpr h3
set_option maxRecDepth 16000 in
theorem inBX0 : ∀ w ∈ wsX00, w ∈ am_BW := am_inB (by decide +kernel)
set_option maxRecDepth 16000 in
theorem inBX1 : ∀ w ∈ wsX10, w ∈ am_BW := am_inB (by decide +kernel)
set_option maxRecDepth 16000 in
theorem inBX2 : ∀ w ∈ wsX20, w ∈ am_BW := am_inB (by decide +kernel)
set_option maxRecDepth 16000 in
theorem inBX3 : ∀ w ∈ wsX30, w ∈ am_BW := am_inB (by decide +kernel)
set_option maxRecDepth 16000 in
theorem inBX5 : ∀ w ∈ wsX50, w ∈ am_BW := am_inB (by decide +kernel)
set_option maxRecDepth 16000 in
theorem inBX6 : ∀ w ∈ wsX60, w ∈ am_BW := am_inB (by decide +kernel)
set_option maxRecDepth 16000 in
theorem inBX7 : ∀ w ∈ wsX70, w ∈ am_BW := am_inB (by decide +kernel)
end
section
/-! the abstract machine: ints and longs are whole numbers, a reference is the number of its cell, the store is a function of cell and place -/
abbrev AV : Type := Int ⊕ Int ⊕ Nat
abbrev Mem : Type := Nat → Int → Int
def am_v (ad : Nat → Nat) (v : AV) : Value := match v with
  | .inl z => .int (Int32.ofInt z)
  | .inr (.inl z) => .long (Int64.ofInt z)
  | .inr (.inr k) => .ref (ad k)
def am_cat (v : AV) : Nat := match v with
  | .inl _ => 1
  | .inr (.inl _) => 2
  | .inr (.inr _) => 1
theorem am_cat_eq (ad : Nat → Nat) (v : AV) : (am_v ad v).category = am_cat v := by rcases v with z | z | k <;> rfl
theorem am_cats (ad : Nat → Nat) (st : List AV) : ((st.map (am_v ad)).map fun v => v.category).sum = (st.map am_cat).sum := by
  rw [List.map_map]
  congr 1
  exact List.map_congr_left fun v _ => am_cat_eq ad v
def am_shL : List (Nat ⊕ (Nat × Nat)) := [.inl 5, .inr (2, 4), .inl 3, .inl 3, .inl 3, .inl 3, .inr (0, 60), .inr (0, 60), .inr (0, 60), .inr (0, 60), .inl 4, .inr (0, 3), .inr (1, 8), .inr (0, 8), .inr (0, 8), .inr (0, 4), .inr (0, 4), .inr (0, 4), .inr (3, 9), .inr (0, 4), .inr (0, 4), .inr (0, 4), .inr (0, 4), .inr (0, 4), .inr (0, 4), .inr (0, 4), .inr (0, 4), .inr (0, 4), .inl 4, .inr (0, 3), .inr (1, 8), .inr (0, 8), .inr (0, 8), .inr (0, 4), .inr (0, 4), .inr (0, 4), .inr (3, 9), .inr (0, 4), .inr (0, 4), .inr (0, 4), .inr (0, 4), .inr (0, 4), .inr (0, 4), .inr (0, 4), .inr (0, 4), .inr (0, 4), .inl 1, .inr (0, 8), .inr (0, 8), .inr (0, 8), .inl 2, .inr (0, 32), .inr (0, 3), .inl 0, .inr (3, 8), .inr (0, 81), .inr (0, 81), .inr (0, 81), .inr (0, 81), .inr (0, 81), .inr (0, 81), .inr (0, 81), .inr (0, 81), .inr (0, 81), .inr (0, 3), .inr (0, 32), .inl 6, .inr (0, 4), .inr (0, 4), .inr (0, 240), .inr (0, 3), .inr (1, 8), .inr (0, 8), .inr (0, 8), .inr (0, 4), .inr (0, 4), .inr (0, 4), .inr (0, 3), .inr (1, 8), .inr (0, 12), .inr (0, 4), .inr (0, 32), .inr (0, 729), .inr (0, 4), .inr (0, 8), .inr (0, 8), .inr (0, 8)]
def am_rfL : List (List (Option Nat)) := [[some 1, some 10, some 28, some 46, some 50, some 53, none, none, none], [some 2, some 3, some 4, some 5], [some 6, none, none], [some 7, none, none], [some 8, none, none], [some 9, none, none], [], [], [], [], [some 11, some 12, some 13, some 14, some 15, some 16, some 17, some 18, none, none, none, none], [], [], [], [], [], [], [], [some 19, some 20, some 21, some 22, some 23, some 24, some 25, some 26, some 27], [], [], [], [], [], [], [], [], [], [some 29, some 30, some 31, some 32, some 33, some 34, some 35, some 36, none, none, none, none], [], [], [], [], [], [], [], [some 37, some 38, some 39, some 40, some 41, some 42, some 43, some 44, some 45], [], [], [], [], [], [], [], [], [], [some 47, some 48, some 49, none], [], [], [], [some 10, some 51, some 52], [], [], [some 10, some 54, some 63, some 64, none, some 65, none, none], [some 55, some 56, some 57, some 58, some 59, some 60, some 61, some 62], [], [], [], [], [], [], [], [], [], [], [], [none, none, some 67, some 68, some 69, none, none, none, none, some 70, some 71, some 72, some 73, some 74, some 75, some 76, none, none, none, some 77, some 78, some 79, some 80, some 81, some 82, some 83, none, some 84, some 85, some 86], [], [], [], [], [], [], [], [], [], [], [], [], [], [], [], [], [], [], [], []]
/-- what kind a cell is: an object of a class (its number in vwCl), an array (0 ints, 1 booleans, 2 Sheets, 3 rows of ints) of a length -/
def shk (c : Nat) : Nat ⊕ (Nat × Nat) := am_shL.getD c (.inr (0, 0))
/-- where a place of a cell points to; none: it holds a number -/
def shf (c j : Nat) : Option Nat := (am_rfL.getD c []).getD j none
def am_N (ci : Nat) : Nat := ((vwCl[ci]?).map (fun q => q.2.2)).getD 0
def am_s (ad : Nat → Nat) (r : Option Nat) (z : Int) : Value := match r with
  | some k => .ref (ad k)
  | none => .int (Int32.ofInt z)
def am_E (dA : Nat → ClassId) (ad : Nat → Nat) (S : Mem) (c : Nat) : va_E := match shk c with
  | .inl ci => .inr (ci, (List.range (am_N ci)).map (fun j => am_s ad (shf c j) (S c (j : Int))))
  | .inr (ty, n) => .inl (dA ty, n, if ty < 2 then .inl (fun i => Int32.ofInt (S c (i : Int))) else .inr (.inr (.inr (.inr (fun i => (shf c i).map ad)))))
def am_W (dA : Nat → ClassId) (ad : Nat → Nat) (S : Mem) : va_W := (List.range 87).map (fun c => (ad c, am_E dA ad S c))
def am_ty (dA : Nat → ClassId) : List (ClassId × FieldType) := [(dA 0, .int), (dA 1, .boolean), (dA 2, .object "RegretLine$Sheet"), (dA 3, .array .int)]
def st2 (S : Mem) (c : Nat) (i v : Int) : Mem := fun c' i' => if c' = c ∧ i' = i then v else S c' i'
theorem am_W_at {dA : Nat → ClassId} {ad : Nat → Nat} {S : Mem} {c : Nat} (h : c < 87) : (am_W dA ad S)[c]? = some (ad c, am_E dA ad S c) := by
  unfold am_W
  rw [List.getElem?_map, List.getElem?_range h]
  rfl
theorem am_W_some {dA : Nat → ClassId} {ad : Nat → Nat} {S : Mem} {c : Nat} {q : Nat × va_E} (h : (am_W dA ad S)[c]? = some q) : c < 87 ∧ q = (ad c, am_E dA ad S c) := by
  have hl : c < 87 := by
    have := (List.getElem?_eq_some_iff.mp h).1
    simpa [am_W] using this
  rw [am_W_at hl] at h
  exact ⟨hl, (Option.some.inj h).symm⟩
theorem am_W_set {dA : Nat → ClassId} {ad : Nat → Nat} {S S' : Mem} {c : Nat} {e : va_E} (he : am_E dA ad S' c = e) (ho : ∀ c', c' ≠ c → S' c' = S c') : (am_W dA ad S).set c (ad c, e) = am_W dA ad S' := by
  apply List.ext_getElem?
  intro k
  by_cases hk : k < 87
  · by_cases hkc : k = c
    · subst hkc
      rw [List.getElem?_set_self (by simpa [am_W] using hk), am_W_at hk, he]
    · rw [List.getElem?_set_ne (Ne.symm hkc), am_W_at hk, am_W_at hk]
      simp only [am_E, ho k hkc]
  · rw [List.getElem?_eq_none (by simp [am_W]; omega), List.getElem?_eq_none (by simp [am_W]; omega)]
theorem st2_o {S : Mem} {c : Nat} {i v : Int} : ∀ c', c' ≠ c → st2 S c i v c' = S c' := fun c' h => funext fun i' => if_neg (fun q => h q.1)
theorem am_lt_87 {c : Nat} (h : shk c ≠ .inr (0, 0)) : c < 87 := by
  rcases Nat.lt_or_ge c 87 with q | q
  · exact q
  · exact absurd (by unfold shk; rw [List.getD_eq_getElem?_getD, List.getElem?_eq_none (by simpa [am_shL] using q)]; rfl) h
/-- the range of an int -/
abbrev rng (a : Int) : Prop := -2147483648 ≤ a ∧ a ≤ 2147483647
abbrev rngl (a : Int) : Prop := -9223372036854775808 ≤ a ∧ a ≤ 9223372036854775807
theorem am_ti {a : Int} (h : rng a) : (Int32.ofInt a).toInt = a := Int32.toInt_ofInt_of_le (by have := h.1; omega) (by have := h.2; omega)
theorem am_lt {a b : Int} (ha : rng a) (hb : rng b) : Int32.ofInt a < Int32.ofInt b ↔ a < b := by rw [Int32.lt_iff_toInt_lt, am_ti ha, am_ti hb]
theorem am_le {a b : Int} (ha : rng a) (hb : rng b) : Int32.ofInt a ≤ Int32.ofInt b ↔ a ≤ b := by rw [Int32.le_iff_toInt_le, am_ti ha, am_ti hb]
theorem am_eq {a b : Int} (ha : rng a) (hb : rng b) : Int32.ofInt a = Int32.ofInt b ↔ a = b := by rw [← Int32.toInt_inj, am_ti ha, am_ti hb]
theorem am_z : Int32.ofInt 0 = 0 := rfl
theorem am_r0 : rng 0 := by decide
theorem am_cl {a : Int} (h0 : 0 ≤ a) (h : a ≤ 2147483647) : (Int32.ofInt a).toNatClampNeg = a.toNat := by
  rw [Int32.toNatClampNeg, am_ti ⟨by omega, h⟩]
theorem am_in {a : Int} {n : Nat} (h0 : 0 ≤ a) (h : a < n) (hn : n ≤ 2147483647) : vp_in (Int32.ofInt a) n := by
  rw [vp_in_iff, am_ti ⟨by omega, by omega⟩]
  exact ⟨h0, h⟩
theorem am_div {a b : Int} (h0 : 0 ≤ a) (ha : a ≤ 2147483647) (h1 : 0 < b) (hb : b ≤ 2147483647) : Int32.ofInt a / Int32.ofInt b = Int32.ofInt (a / b) := by
  rw [← Int32.toInt_inj, Int32.toInt_div_of_ne_right _ _ (fun h => by
    have := congrArg Int32.toInt h
    rw [am_ti ⟨by omega, hb⟩] at this
    have e : (-1 : Int32).toInt = -1 := by decide
    omega), am_ti ⟨by omega, ha⟩, am_ti ⟨by omega, hb⟩, Int.tdiv_eq_ediv_of_nonneg h0, am_ti]
  have h2 := Int.ediv_nonneg h0 (Int.le_of_lt h1)
  have h3 := Int.ediv_le_self b h0
  exact ⟨by omega, by omega⟩
theorem am_nz {b : Int} (h1 : 0 < b) (hb : b ≤ 2147483647) : ¬ Int32.ofInt b = 0 := fun h => by
  have := congrArg Int32.toInt h
  rw [am_ti ⟨by omega, hb⟩] at this
  have e : (0 : Int32).toInt = 0 := by decide
  omega
theorem am_rem {a b : Int} (h0 : 0 ≤ a) (ha : a ≤ 2147483647) (h1 : 0 < b) (hb : b ≤ 2147483647) : Int32.ofInt a - Int32.ofInt a / Int32.ofInt b * Int32.ofInt b = Int32.ofInt (a % b) := by
  rw [am_div h0 ha h1 hb, ← Int32.ofInt_mul, ← Int32.ofInt_sub, Int.emod_def, Int.mul_comm]
/-- the locals: by their places -/
def am_has (ad : Nat → Nat) (ls : Array Slot) (nL : Nat) (L : List (Option AV)) : Prop := lv_has ls nL [] ∧ ∀ (i : Nat) (v : AV), L[i]? = some (some v) → ls[i]? = some (.val (am_v ad v))
def am_l (ad : Nat → Nat) (L : List (Option AV)) : List (Nat × Value) := (List.range L.length).filterMap (fun i => (L[i]?.join).map (fun v => (i, am_v ad v)))
theorem am_l_mem {ad : Nat → Nat} {L : List (Option AV)} {i : Nat} {v : AV} (h : L[i]? = some (some v)) : (i, am_v ad v) ∈ am_l ad L := by
  refine List.mem_filterMap.mpr ⟨i, List.mem_range.mpr (List.getElem?_eq_some_iff.mp h).1, ?_⟩
  rw [h]
  rfl
theorem am_has_lv {ad : Nat → Nat} {ls : Array Slot} {nL : Nat} {L : List (Option AV)} (h : am_has ad ls nL L) : lv_has ls nL (am_l ad L) := by
  refine ⟨h.1.1, h.1.2.1, fun q hq => ?_⟩
  obtain ⟨i, -, hi⟩ := List.mem_filterMap.mp hq
  cases hj : L[i]?.join with
  | none => rw [hj] at hi; cases hi
  | some v =>
    rw [hj] at hi
    cases hi
    refine h.2 i v ?_
    cases hk : L[i]? with
    | none => rw [hk] at hj; cases hj
    | some x => rw [hk] at hj; cases hj; rfl
/-- a local is no long -/
def am_nl (v : Option AV) : Bool := match v with
  | some (.inr (.inl _)) => false
  | _ => true
/-- the place ahead holds no long -/
def am_pv (L : List (Option AV)) (i : Nat) : Bool := match i with
  | 0 => true
  | u + 1 => am_nl ((L[u]?).join)
theorem am_has_set {ad : Nat → Nat} {ls : Array Slot} {nL i : Nat} {L : List (Option AV)} {v : AV} {lv : List (Nat × Value)} (hlv : lv = (i, am_v ad v) :: (am_l ad L).filter (fun q => !(q.1 == i) && !(q.1 + 1 == i && q.2.category == 2))) (h : lv_has ls nL lv) (hp : ∀ u, i = u + 1 → am_nl ((L[u]?).join) = true) : am_has ad ls nL (L.set i (some v)) := by
  subst hlv
  refine ⟨⟨h.1, h.2.1, fun q hq => by cases hq⟩, fun j u hj => ?_⟩
  by_cases hji : j = i
  · subst hji
    have hl : j < L.length := by simpa using (List.getElem?_eq_some_iff.mp hj).1
    rw [List.getElem?_set_self hl] at hj
    cases hj
    exact h.2.2 (j, am_v ad v) List.mem_cons_self
  · rw [List.getElem?_set_ne (Ne.symm hji)] at hj
    refine h.2.2 (j, am_v ad u) (List.mem_cons_of_mem _ (List.mem_filter.mpr ⟨am_l_mem hj, ?_⟩))
    simp only [Bool.and_eq_true, Bool.not_eq_true', beq_eq_false_iff_ne, ne_eq, Bool.and_eq_false_iff]
    refine ⟨hji, ?_⟩
    by_cases hq : j + 1 = i
    · right
      have := hp j hq.symm
      rw [hj] at this
      intro hc
      rw [am_cat_eq] at hc
      rcases u with z | z | k
      · cases hc
      · cases this
      · cases hc
    · exact Or.inl hq
theorem am_has_set2 {ad : Nat → Nat} {ls : Array Slot} {nL i : Nat} {L : List (Option AV)} {v : AV} {lv : List (Nat × Value)} (hlv : lv = (i, am_v ad v) :: (am_l ad L).filter (fun q => !(q.1 == i) && (!(q.1 == i + 1) && !(q.1 + 1 == i && q.2.category == 2)))) (h : lv_has ls nL lv) (hp : ∀ u, i = u + 1 → am_nl ((L[u]?).join) = true) : am_has ad ls nL ((L.set i (some v)).set (i + 1) none) := by
  subst hlv
  refine ⟨⟨h.1, h.2.1, fun q hq => by cases hq⟩, fun j u hj => ?_⟩
  by_cases hj1 : j = i + 1
  · subst hj1
    rw [List.getElem?_set] at hj
    split at hj
    · split at hj <;> cases hj
    · exact absurd rfl (by assumption)
  rw [List.getElem?_set_ne (Ne.symm hj1)] at hj
  by_cases hji : j = i
  · subst hji
    have hl : j < L.length := by simpa using (List.getElem?_eq_some_iff.mp hj).1
    rw [List.getElem?_set_self hl] at hj
    cases hj
    exact h.2.2 (j, am_v ad v) List.mem_cons_self
  · rw [List.getElem?_set_ne (Ne.symm hji)] at hj
    refine h.2.2 (j, am_v ad u) (List.mem_cons_of_mem _ (List.mem_filter.mpr ⟨am_l_mem hj, ?_⟩))
    simp only [Bool.and_eq_true, Bool.not_eq_true', beq_eq_false_iff_ne, ne_eq, Bool.and_eq_false_iff]
    refine ⟨hji, hj1, ?_⟩
    by_cases hq : j + 1 = i
    · right
      have := hp j hq.symm
      rw [hj] at this
      intro hc
      rw [am_cat_eq] at hc
      rcases u with z | z | k
      · cases hc
      · cases this
      · cases hc
    · exact Or.inl hq
/-- the machine's side of a walk -/
abbrev AMX := Program × Launch × Env × Room × State × MethodId × Array Value × List Frame × Method × Code × Nat × Nat × (State → Prop) × (Nat → ClassId) × (Nat → Nat → Nat) × (Nat → ClassId) × (Nat → Nat) × (Nat → Prop)
def AW (X : AMX) (cc : ByteArray) (nL pc : Nat) (L : List (Option AV)) (st : List AV) (S : Mem) : Prop := match X with
  | (p, l, e, R, s, m, args, below, meth, c, cells, slots, Q, dC, dI, dA, ad, A) => ∀ (H : Heap) (locs : List Loc) (ls : Array Slot), va_P (dC, dI) vwCl (am_W dA ad S) H → va_S A s.heap H locs → am_has ad ls nL L → W p l e R s m args below meth c H locs cells slots Q (F0 m pc ls (st.map (am_v ad)))
/-- the one link to a nest mate's private member that a method besides constructors uses -/
def am_NW : Cond := .methodLinkNest RX2 31 yX6_noClass RX6
def CX (X : AMX) (d : Nat) (own : String) (cc : ByteArray) (nL : Nat) : Prop := match X with
  | (p, l, e, R, s, m, args, below, meth, c, cells, slots, Q, dC, dI, dA, ad, A) => p.tables.exec = Jvm.exec ∧ c.code = cc ∧ c.maxLocals = nL ∧ s.vm.findClass own = some m.cls ∧ (∀ w ∈ am_BW, w.before args s = true) ∧ va_K (dC, dI) vwCl (am_ty dA) s ∧ (∀ S, va_D A (am_W dA ad S)) ∧ (∀ q, s.heap.size ≤ q → A q) ∧ va_Nw am_NW s ∧ d ≤ R.frames ∧ 60 * d ≤ R.locals ∧ cells ≤ R.cells ∧ slots ≤ R.slots
section AM1
variable {X : AMX} {d pc n nL : Nat} {own : String} {cc : ByteArray} {L : List (Option AV)} {st : List AV} {S : Mem}
theorem aw_loc {L' : List (Option AV)} (h : ∀ (i : Nat) (v : AV), L'[i]? = some (some v) → L[i]? = some (some v)) (k : AW X cc nL pc L' st S) : AW X cc nL pc L st S := by
  obtain ⟨p, l, e, R, s, m, args, below, meth, c, cells, slots, Q, dC, dI, dA, ad, A⟩ := X
  intro H locs ls hP hS hl
  exact k H locs ls hP hS ⟨hl.1, fun i v hv => hl.2 i v (h i v hv)⟩
theorem aw_iconst {z : Int} (C : CX X d own cc nL) (hd : decode cc pc = .ok (.iconst z, 1)) (hn : pc + 1 = n) (k : AW X cc nL n L (.inl z :: st) (S)) : AW X cc nL pc L (st) S := by
  obtain ⟨p, l, e, R, s, m, args, below, meth, c, cells, slots, Q, dC, dI, dA, ad, A⟩ := X
  obtain ⟨hx, hb, hml, hown, hts, hK, hD, hA, hNw, hfr, hlo, hce, hsl⟩ := C
  subst hn
  intro H locs ls hP hS hl
  exact lv_iconst hx hb hd rfl (k H locs ls hP hS hl)
theorem aw_bipush {z : Int} (C : CX X d own cc nL) (hd : decode cc pc = .ok (.bipush z, 2)) (hn : pc + 2 = n) (h : (Int8.ofInt z).toInt32 = Int32.ofInt z) (k : AW X cc nL n L (.inl z :: st) (S)) : AW X cc nL pc L (st) S := by
  obtain ⟨p, l, e, R, s, m, args, below, meth, c, cells, slots, Q, dC, dI, dA, ad, A⟩ := X
  obtain ⟨hx, hb, hml, hown, hts, hK, hD, hA, hNw, hfr, hlo, hce, hsl⟩ := C
  subst hn
  intro H locs ls hP hS hl
  exact lv_bipush hx hb hd h (k H locs ls hP hS hl)
theorem aw_sipush {z : Int} (C : CX X d own cc nL) (hd : decode cc pc = .ok (.sipush z, 3)) (hn : pc + 3 = n) (h : (Int16.ofInt z).toInt32 = Int32.ofInt z) (k : AW X cc nL n L (.inl z :: st) (S)) : AW X cc nL pc L (st) S := by
  obtain ⟨p, l, e, R, s, m, args, below, meth, c, cells, slots, Q, dC, dI, dA, ad, A⟩ := X
  obtain ⟨hx, hb, hml, hown, hts, hK, hD, hA, hNw, hfr, hlo, hce, hsl⟩ := C
  subst hn
  intro H locs ls hP hS hl
  exact lv_sipush hx hb hd h (k H locs ls hP hS hl)
theorem aw_lconst {f : Fin 2} {z : Int} (C : CX X d own cc nL) (hd : decode cc pc = .ok (.lconst f, 1)) (hn : pc + 1 = n) (h : Int64.ofNat (f : Nat) = Int64.ofInt z) (k : AW X cc nL n L (.inr (.inl z) :: st) (S)) : AW X cc nL pc L (st) S := by
  obtain ⟨p, l, e, R, s, m, args, below, meth, c, cells, slots, Q, dC, dI, dA, ad, A⟩ := X
  obtain ⟨hx, hb, hml, hown, hts, hK, hD, hA, hNw, hfr, hlo, hce, hsl⟩ := C
  subst hn
  intro H locs ls hP hS hl
  exact lv_lconst hx hb hd h (k H locs ls hP hS hl)
theorem aw_ildn {i : Fin 4} {a : Int} (C : CX X d own cc nL) (hd : decode cc pc = .ok (.iload_n i, 1)) (hn : pc + 1 = n) (hv : L[(i : Nat)]? = some (some (.inl a))) (k : AW X cc nL n L (.inl a :: st) (S)) : AW X cc nL pc L (st) S := by
  obtain ⟨p, l, e, R, s, m, args, below, meth, c, cells, slots, Q, dC, dI, dA, ad, A⟩ := X
  obtain ⟨hx, hb, hml, hown, hts, hK, hD, hA, hNw, hfr, hlo, hce, hsl⟩ := C
  subst hn
  intro H locs ls hP hS hl
  exact lv_iload_n hx hb hd rfl (hl.2 _ _ hv) (k H locs ls hP hS hl)
theorem aw_ildw {i : Nat} {a : Int} (C : CX X d own cc nL) (hd : decode cc pc = .ok (.iload i, 2)) (hn : pc + 2 = n) (hv : L[i]? = some (some (.inl a))) (k : AW X cc nL n L (.inl a :: st) (S)) : AW X cc nL pc L (st) S := by
  obtain ⟨p, l, e, R, s, m, args, below, meth, c, cells, slots, Q, dC, dI, dA, ad, A⟩ := X
  obtain ⟨hx, hb, hml, hown, hts, hK, hD, hA, hNw, hfr, hlo, hce, hsl⟩ := C
  subst hn
  intro H locs ls hP hS hl
  exact lv_iload hx hb hd (hl.2 _ _ hv) (k H locs ls hP hS hl)
theorem aw_aldn {i : Fin 4} {a : Nat} (C : CX X d own cc nL) (hd : decode cc pc = .ok (.aload_n i, 1)) (hn : pc + 1 = n) (hv : L[(i : Nat)]? = some (some (.inr (.inr a)))) (k : AW X cc nL n L (.inr (.inr a) :: st) (S)) : AW X cc nL pc L (st) S := by
  obtain ⟨p, l, e, R, s, m, args, below, meth, c, cells, slots, Q, dC, dI, dA, ad, A⟩ := X
  obtain ⟨hx, hb, hml, hown, hts, hK, hD, hA, hNw, hfr, hlo, hce, hsl⟩ := C
  subst hn
  intro H locs ls hP hS hl
  exact lv_aload_n hx hb hd rfl (hl.2 _ _ hv) (k H locs ls hP hS hl)
theorem aw_aldw {i : Nat} {a : Nat} (C : CX X d own cc nL) (hd : decode cc pc = .ok (.aload i, 2)) (hn : pc + 2 = n) (hv : L[i]? = some (some (.inr (.inr a)))) (k : AW X cc nL n L (.inr (.inr a) :: st) (S)) : AW X cc nL pc L (st) S := by
  obtain ⟨p, l, e, R, s, m, args, below, meth, c, cells, slots, Q, dC, dI, dA, ad, A⟩ := X
  obtain ⟨hx, hb, hml, hown, hts, hK, hD, hA, hNw, hfr, hlo, hce, hsl⟩ := C
  subst hn
  intro H locs ls hP hS hl
  exact lv_aload hx hb hd (hl.2 _ _ hv) (k H locs ls hP hS hl)
theorem aw_lldn {i : Fin 4} {a : Int} (C : CX X d own cc nL) (hd : decode cc pc = .ok (.lload_n i, 1)) (hn : pc + 1 = n) (hv : L[(i : Nat)]? = some (some (.inr (.inl a)))) (k : AW X cc nL n L (.inr (.inl a) :: st) (S)) : AW X cc nL pc L (st) S := by
  obtain ⟨p, l, e, R, s, m, args, below, meth, c, cells, slots, Q, dC, dI, dA, ad, A⟩ := X
  obtain ⟨hx, hb, hml, hown, hts, hK, hD, hA, hNw, hfr, hlo, hce, hsl⟩ := C
  subst hn
  intro H locs ls hP hS hl
  exact lv_lload_n hx hb hd rfl (hl.2 _ _ hv) (k H locs ls hP hS hl)
theorem aw_lldw {i : Nat} {a : Int} (C : CX X d own cc nL) (hd : decode cc pc = .ok (.lload i, 2)) (hn : pc + 2 = n) (hv : L[i]? = some (some (.inr (.inl a)))) (k : AW X cc nL n L (.inr (.inl a) :: st) (S)) : AW X cc nL pc L (st) S := by
  obtain ⟨p, l, e, R, s, m, args, below, meth, c, cells, slots, Q, dC, dI, dA, ad, A⟩ := X
  obtain ⟨hx, hb, hml, hown, hts, hK, hD, hA, hNw, hfr, hlo, hce, hsl⟩ := C
  subst hn
  intro H locs ls hP hS hl
  exact lv_lload hx hb hd (hl.2 _ _ hv) (k H locs ls hP hS hl)
theorem aw_istn {i : Fin 4} {a : Int} {L' : List (Option AV)} (C : CX X d own cc nL) (hd : decode cc pc = .ok (.istore_n i, 1)) (hn : pc + 1 = n) (hi : (i : Nat) < nL) (hp : am_pv L (i : Nat) = true) (hL : L.set (i : Nat) (some (.inl a)) = L') (k : AW X cc nL n L' (st) (S)) : AW X cc nL pc L (.inl a :: st) S := by
  obtain ⟨p, l, e, R, s, m, args, below, meth, c, cells, slots, Q, dC, dI, dA, ad, A⟩ := X
  obtain ⟨hx, hb, hml, hown, hts, hK, hD, hA, hNw, hfr, hlo, hce, hsl⟩ := C
  subst hn
  intro H locs ls hP hS hl
  exact lv_istore_n hx hb hd rfl (am_has_lv hl) hi rfl (fun ls' h' => k H locs ls' hP hS (by rw [← hL]; exact am_has_set rfl h' (fun u hu => by rw [hu] at hp; exact hp)))
theorem aw_istw {i : Nat} {a : Int} {L' : List (Option AV)} (C : CX X d own cc nL) (hd : decode cc pc = .ok (.istore i, 2)) (hn : pc + 2 = n) (hi : i < nL) (hp : am_pv L i = true) (hL : L.set i (some (.inl a)) = L') (k : AW X cc nL n L' (st) (S)) : AW X cc nL pc L (.inl a :: st) S := by
  obtain ⟨p, l, e, R, s, m, args, below, meth, c, cells, slots, Q, dC, dI, dA, ad, A⟩ := X
  obtain ⟨hx, hb, hml, hown, hts, hK, hD, hA, hNw, hfr, hlo, hce, hsl⟩ := C
  subst hn
  intro H locs ls hP hS hl
  exact lv_istore hx hb hd (am_has_lv hl) hi rfl (fun ls' h' => k H locs ls' hP hS (by rw [← hL]; exact am_has_set rfl h' (fun u hu => by rw [hu] at hp; exact hp)))
theorem aw_astn {i : Fin 4} {a : Nat} {L' : List (Option AV)} (C : CX X d own cc nL) (hd : decode cc pc = .ok (.astore_n i, 1)) (hn : pc + 1 = n) (hi : (i : Nat) < nL) (hp : am_pv L (i : Nat) = true) (hL : L.set (i : Nat) (some (.inr (.inr a))) = L') (k : AW X cc nL n L' (st) (S)) : AW X cc nL pc L (.inr (.inr a) :: st) S := by
  obtain ⟨p, l, e, R, s, m, args, below, meth, c, cells, slots, Q, dC, dI, dA, ad, A⟩ := X
  obtain ⟨hx, hb, hml, hown, hts, hK, hD, hA, hNw, hfr, hlo, hce, hsl⟩ := C
  subst hn
  intro H locs ls hP hS hl
  exact lv_astore_n hx hb hd rfl (am_has_lv hl) hi rfl (fun ls' h' => k H locs ls' hP hS (by rw [← hL]; exact am_has_set rfl h' (fun u hu => by rw [hu] at hp; exact hp)))
theorem aw_astw {i : Nat} {a : Nat} {L' : List (Option AV)} (C : CX X d own cc nL) (hd : decode cc pc = .ok (.astore i, 2)) (hn : pc + 2 = n) (hi : i < nL) (hp : am_pv L i = true) (hL : L.set i (some (.inr (.inr a))) = L') (k : AW X cc nL n L' (st) (S)) : AW X cc nL pc L (.inr (.inr a) :: st) S := by
  obtain ⟨p, l, e, R, s, m, args, below, meth, c, cells, slots, Q, dC, dI, dA, ad, A⟩ := X
  obtain ⟨hx, hb, hml, hown, hts, hK, hD, hA, hNw, hfr, hlo, hce, hsl⟩ := C
  subst hn
  intro H locs ls hP hS hl
  exact lv_astore hx hb hd (am_has_lv hl) hi rfl (fun ls' h' => k H locs ls' hP hS (by rw [← hL]; exact am_has_set rfl h' (fun u hu => by rw [hu] at hp; exact hp)))
theorem aw_lstn {i : Fin 4} {a : Int} {L' : List (Option AV)} (C : CX X d own cc nL) (hd : decode cc pc = .ok (.lstore_n i, 1)) (hn : pc + 1 = n) (hi : (i : Nat) + 1 < nL) (hp : am_pv L (i : Nat) = true) (hL : (L.set (i : Nat) (some (.inr (.inl a)))).set ((i : Nat) + 1) none = L') (k : AW X cc nL n L' (st) (S)) : AW X cc nL pc L (.inr (.inl a) :: st) S := by
  obtain ⟨p, l, e, R, s, m, args, below, meth, c, cells, slots, Q, dC, dI, dA, ad, A⟩ := X
  obtain ⟨hx, hb, hml, hown, hts, hK, hD, hA, hNw, hfr, hlo, hce, hsl⟩ := C
  subst hn
  intro H locs ls hP hS hl
  exact lv_lstore_n hx hb hd rfl (am_has_lv hl) hi rfl (fun ls' h' => k H locs ls' hP hS (by rw [← hL]; exact am_has_set2 rfl h' (fun u hu => by rw [hu] at hp; exact hp)))
theorem aw_lstw {i : Nat} {a : Int} {L' : List (Option AV)} (C : CX X d own cc nL) (hd : decode cc pc = .ok (.lstore i, 2)) (hn : pc + 2 = n) (hi : i + 1 < nL) (hp : am_pv L i = true) (hL : (L.set i (some (.inr (.inl a)))).set (i + 1) none = L') (k : AW X cc nL n L' (st) (S)) : AW X cc nL pc L (.inr (.inl a) :: st) S := by
  obtain ⟨p, l, e, R, s, m, args, below, meth, c, cells, slots, Q, dC, dI, dA, ad, A⟩ := X
  obtain ⟨hx, hb, hml, hown, hts, hK, hD, hA, hNw, hfr, hlo, hce, hsl⟩ := C
  subst hn
  intro H locs ls hP hS hl
  exact lv_lstore hx hb hd (am_has_lv hl) hi rfl (fun ls' h' => k H locs ls' hP hS (by rw [← hL]; exact am_has_set2 rfl h' (fun u hu => by rw [hu] at hp; exact hp)))
theorem aw_iinc {i : Nat} {a z : Int} {L' : List (Option AV)} (C : CX X d own cc nL) (hd : decode cc pc = .ok (.iinc i z, 3)) (hn : pc + 3 = n) (hv : L[i]? = some (some (.inl a))) (hi : i < nL) (hp : am_pv L i = true) (hL : L.set i (some (.inl (a + z))) = L') (k : AW X cc nL n L' st S) : AW X cc nL pc L st S := by
  obtain ⟨p, l, e, R, s, m, args, below, meth, c, cells, slots, Q, dC, dI, dA, ad, A⟩ := X
  obtain ⟨hx, hb, hml, hown, hts, hK, hD, hA, hNw, hfr, hlo, hce, hsl⟩ := C
  subst hn
  intro H locs ls hP hS hl
  obtain ⟨q, hq⟩ := List.getElem?_of_mem (am_l_mem (ad := ad) hv)
  exact lv_iinc (v := Int32.ofInt (a + z)) hx hb hd (am_has_lv hl) (k := q) hq (by rw [Int32.ofInt_add]) hi rfl (fun ls' h' => k H locs ls' hP hS (by rw [← hL]; exact am_has_set rfl h' (fun u hu => by rw [hu] at hp; exact hp)))
theorem aw_iadd {a b : Int} (C : CX X d own cc nL) (hd : decode cc pc = .ok (.iadd, 1)) (hn : pc + 1 = n) (k : AW X cc nL n L (.inl (a + b) :: st) (S)) : AW X cc nL pc L (.inl b :: .inl a :: st) S := by
  obtain ⟨p, l, e, R, s, m, args, below, meth, c, cells, slots, Q, dC, dI, dA, ad, A⟩ := X
  obtain ⟨hx, hb, hml, hown, hts, hK, hD, hA, hNw, hfr, hlo, hce, hsl⟩ := C
  subst hn
  intro H locs ls hP hS hl
  refine lv_iadd hx hb hd ?_
  rw [← Int32.ofInt_add]
  exact k H locs ls hP hS hl
theorem aw_isub {a b : Int} (C : CX X d own cc nL) (hd : decode cc pc = .ok (.isub, 1)) (hn : pc + 1 = n) (k : AW X cc nL n L (.inl (a - b) :: st) (S)) : AW X cc nL pc L (.inl b :: .inl a :: st) S := by
  obtain ⟨p, l, e, R, s, m, args, below, meth, c, cells, slots, Q, dC, dI, dA, ad, A⟩ := X
  obtain ⟨hx, hb, hml, hown, hts, hK, hD, hA, hNw, hfr, hlo, hce, hsl⟩ := C
  subst hn
  intro H locs ls hP hS hl
  refine lv_isub hx hb hd ?_
  rw [← Int32.ofInt_sub]
  exact k H locs ls hP hS hl
theorem aw_imul {a b : Int} (C : CX X d own cc nL) (hd : decode cc pc = .ok (.imul, 1)) (hn : pc + 1 = n) (k : AW X cc nL n L (.inl (a * b) :: st) (S)) : AW X cc nL pc L (.inl b :: .inl a :: st) S := by
  obtain ⟨p, l, e, R, s, m, args, below, meth, c, cells, slots, Q, dC, dI, dA, ad, A⟩ := X
  obtain ⟨hx, hb, hml, hown, hts, hK, hD, hA, hNw, hfr, hlo, hce, hsl⟩ := C
  subst hn
  intro H locs ls hP hS hl
  refine lv_imul hx hb hd ?_
  rw [← Int32.ofInt_mul]
  exact k H locs ls hP hS hl
theorem aw_ineg {a : Int} (C : CX X d own cc nL) (hd : decode cc pc = .ok (.ineg, 1)) (hn : pc + 1 = n) (k : AW X cc nL n L (.inl (-a) :: st) (S)) : AW X cc nL pc L (.inl a :: st) S := by
  obtain ⟨p, l, e, R, s, m, args, below, meth, c, cells, slots, Q, dC, dI, dA, ad, A⟩ := X
  obtain ⟨hx, hb, hml, hown, hts, hK, hD, hA, hNw, hfr, hlo, hce, hsl⟩ := C
  subst hn
  intro H locs ls hP hS hl
  refine lv_ineg hx hb hd ?_
  rw [← Int32.ofInt_neg]
  exact k H locs ls hP hS hl
theorem aw_idiv {a b : Int} (C : CX X d own cc nL) (hd : decode cc pc = .ok (.idiv, 1)) (hn : pc + 1 = n) (ha : 0 ≤ a ∧ a ≤ 2147483647) (hb2 : 0 < b ∧ b ≤ 2147483647) (k : AW X cc nL n L (.inl (a / b) :: st) (S)) : AW X cc nL pc L (.inl b :: .inl a :: st) S := by
  obtain ⟨p, l, e, R, s, m, args, below, meth, c, cells, slots, Q, dC, dI, dA, ad, A⟩ := X
  obtain ⟨hx, hb, hml, hown, hts, hK, hD, hA, hNw, hfr, hlo, hce, hsl⟩ := C
  subst hn
  intro H locs ls hP hS hl
  refine lv_idiv hx hb hd (am_nz hb2.1 hb2.2) ?_
  rw [am_div ha.1 ha.2 hb2.1 hb2.2]
  exact k H locs ls hP hS hl
theorem aw_irem {a b : Int} (C : CX X d own cc nL) (hd : decode cc pc = .ok (.irem, 1)) (hn : pc + 1 = n) (ha : 0 ≤ a ∧ a ≤ 2147483647) (hb2 : 0 < b ∧ b ≤ 2147483647) (k : AW X cc nL n L (.inl (a % b) :: st) (S)) : AW X cc nL pc L (.inl b :: .inl a :: st) S := by
  obtain ⟨p, l, e, R, s, m, args, below, meth, c, cells, slots, Q, dC, dI, dA, ad, A⟩ := X
  obtain ⟨hx, hb, hml, hown, hts, hK, hD, hA, hNw, hfr, hlo, hce, hsl⟩ := C
  subst hn
  intro H locs ls hP hS hl
  refine lv_irem hx hb hd (am_nz hb2.1 hb2.2) ?_
  rw [am_rem ha.1 ha.2 hb2.1 hb2.2]
  exact k H locs ls hP hS hl
theorem aw_ishl {a b r : Int} (C : CX X d own cc nL) (hd : decode cc pc = .ok (.ishl, 1)) (hn : pc + 1 = n) (h : Int32.ofInt a <<< (Int32.ofInt b &&& 31) = Int32.ofInt r) (k : AW X cc nL n L (.inl r :: st) (S)) : AW X cc nL pc L (.inl b :: .inl a :: st) S := by
  obtain ⟨p, l, e, R, s, m, args, below, meth, c, cells, slots, Q, dC, dI, dA, ad, A⟩ := X
  obtain ⟨hx, hb, hml, hown, hts, hK, hD, hA, hNw, hfr, hlo, hce, hsl⟩ := C
  subst hn
  intro H locs ls hP hS hl
  refine lv_ishl hx hb hd ?_
  rw [h]
  exact k H locs ls hP hS hl
theorem aw_ishr {a b r : Int} (C : CX X d own cc nL) (hd : decode cc pc = .ok (.ishr, 1)) (hn : pc + 1 = n) (h : Int32.ofInt a >>> (Int32.ofInt b &&& 31) = Int32.ofInt r) (k : AW X cc nL n L (.inl r :: st) (S)) : AW X cc nL pc L (.inl b :: .inl a :: st) S := by
  obtain ⟨p, l, e, R, s, m, args, below, meth, c, cells, slots, Q, dC, dI, dA, ad, A⟩ := X
  obtain ⟨hx, hb, hml, hown, hts, hK, hD, hA, hNw, hfr, hlo, hce, hsl⟩ := C
  subst hn
  intro H locs ls hP hS hl
  refine lv_ishr hx hb hd ?_
  rw [h]
  exact k H locs ls hP hS hl
theorem aw_iand {a b r : Int} (C : CX X d own cc nL) (hd : decode cc pc = .ok (.iand, 1)) (hn : pc + 1 = n) (h : Int32.ofInt a &&& Int32.ofInt b = Int32.ofInt r) (k : AW X cc nL n L (.inl r :: st) (S)) : AW X cc nL pc L (.inl b :: .inl a :: st) S := by
  obtain ⟨p, l, e, R, s, m, args, below, meth, c, cells, slots, Q, dC, dI, dA, ad, A⟩ := X
  obtain ⟨hx, hb, hml, hown, hts, hK, hD, hA, hNw, hfr, hlo, hce, hsl⟩ := C
  subst hn
  intro H locs ls hP hS hl
  refine lv_iand hx hb hd ?_
  rw [h]
  exact k H locs ls hP hS hl
theorem aw_ior {a b r : Int} (C : CX X d own cc nL) (hd : decode cc pc = .ok (.ior, 1)) (hn : pc + 1 = n) (h : Int32.ofInt a ||| Int32.ofInt b = Int32.ofInt r) (k : AW X cc nL n L (.inl r :: st) (S)) : AW X cc nL pc L (.inl b :: .inl a :: st) S := by
  obtain ⟨p, l, e, R, s, m, args, below, meth, c, cells, slots, Q, dC, dI, dA, ad, A⟩ := X
  obtain ⟨hx, hb, hml, hown, hts, hK, hD, hA, hNw, hfr, hlo, hce, hsl⟩ := C
  subst hn
  intro H locs ls hP hS hl
  refine lv_ior hx hb hd ?_
  rw [h]
  exact k H locs ls hP hS hl
theorem aw_i2b {a r : Int} (C : CX X d own cc nL) (hd : decode cc pc = .ok (.i2b, 1)) (hn : pc + 1 = n) (h : (Int32.ofInt a).toInt8.toInt32 = Int32.ofInt r) (k : AW X cc nL n L (.inl r :: st) (S)) : AW X cc nL pc L (.inl a :: st) S := by
  obtain ⟨p, l, e, R, s, m, args, below, meth, c, cells, slots, Q, dC, dI, dA, ad, A⟩ := X
  obtain ⟨hx, hb, hml, hown, hts, hK, hD, hA, hNw, hfr, hlo, hce, hsl⟩ := C
  subst hn
  intro H locs ls hP hS hl
  exact lv_i2b hx hb hd h (k H locs ls hP hS hl)
theorem aw_i2s {a r : Int} (C : CX X d own cc nL) (hd : decode cc pc = .ok (.i2s, 1)) (hn : pc + 1 = n) (h : (Int32.ofInt a).toInt16.toInt32 = Int32.ofInt r) (k : AW X cc nL n L (.inl r :: st) (S)) : AW X cc nL pc L (.inl a :: st) S := by
  obtain ⟨p, l, e, R, s, m, args, below, meth, c, cells, slots, Q, dC, dI, dA, ad, A⟩ := X
  obtain ⟨hx, hb, hml, hown, hts, hK, hD, hA, hNw, hfr, hlo, hce, hsl⟩ := C
  subst hn
  intro H locs ls hP hS hl
  exact lv_i2s hx hb hd h (k H locs ls hP hS hl)
theorem aw_i2l {a : Int} (C : CX X d own cc nL) (hd : decode cc pc = .ok (.i2l, 1)) (hn : pc + 1 = n) (h : rng a) (k : AW X cc nL n L (.inr (.inl a) :: st) (S)) : AW X cc nL pc L (.inl a :: st) S := by
  obtain ⟨p, l, e, R, s, m, args, below, meth, c, cells, slots, Q, dC, dI, dA, ad, A⟩ := X
  obtain ⟨hx, hb, hml, hown, hts, hK, hD, hA, hNw, hfr, hlo, hce, hsl⟩ := C
  subst hn
  intro H locs ls hP hS hl
  exact lv_i2l hx hb hd (Int32.toInt64_ofInt (by rw [show Int32.minValue.toInt = -2147483648 by decide]; exact h.1) (by rw [show Int32.maxValue.toInt = 2147483647 by decide]; exact h.2)) (k H locs ls hP hS hl)
theorem aw_lshl {a b r : Int} (C : CX X d own cc nL) (hd : decode cc pc = .ok (.lshl, 1)) (hn : pc + 1 = n) (h : Int64.ofInt a <<< ((Int32.ofInt b).toInt64 &&& 63) = Int64.ofInt r) (k : AW X cc nL n L (.inr (.inl r) :: st) (S)) : AW X cc nL pc L (.inl b :: .inr (.inl a) :: st) S := by
  obtain ⟨p, l, e, R, s, m, args, below, meth, c, cells, slots, Q, dC, dI, dA, ad, A⟩ := X
  obtain ⟨hx, hb, hml, hown, hts, hK, hD, hA, hNw, hfr, hlo, hce, hsl⟩ := C
  subst hn
  intro H locs ls hP hS hl
  exact lv_lshl hx hb hd h (k H locs ls hP hS hl)
theorem aw_ldiv {a b r : Int} (C : CX X d own cc nL) (hd : decode cc pc = .ok (.ldiv, 1)) (hn : pc + 1 = n) (h0 : ¬ Int64.ofInt b = 0) (h : Int64.ofInt a / Int64.ofInt b = Int64.ofInt r) (k : AW X cc nL n L (.inr (.inl r) :: st) (S)) : AW X cc nL pc L (.inr (.inl b) :: .inr (.inl a) :: st) S := by
  obtain ⟨p, l, e, R, s, m, args, below, meth, c, cells, slots, Q, dC, dI, dA, ad, A⟩ := X
  obtain ⟨hx, hb, hml, hown, hts, hK, hD, hA, hNw, hfr, hlo, hce, hsl⟩ := C
  subst hn
  intro H locs ls hP hS hl
  refine lv_ldiv hx hb hd h0 ?_
  rw [h]
  exact k H locs ls hP hS hl
theorem aw_lrem {a b r : Int} (C : CX X d own cc nL) (hd : decode cc pc = .ok (.lrem, 1)) (hn : pc + 1 = n) (h0 : ¬ Int64.ofInt b = 0) (h : Int64.ofInt a - Int64.ofInt a / Int64.ofInt b * Int64.ofInt b = Int64.ofInt r) (k : AW X cc nL n L (.inr (.inl r) :: st) (S)) : AW X cc nL pc L (.inr (.inl b) :: .inr (.inl a) :: st) S := by
  obtain ⟨p, l, e, R, s, m, args, below, meth, c, cells, slots, Q, dC, dI, dA, ad, A⟩ := X
  obtain ⟨hx, hb, hml, hown, hts, hK, hD, hA, hNw, hfr, hlo, hce, hsl⟩ := C
  subst hn
  intro H locs ls hP hS hl
  refine lv_lrem hx hb hd h0 ?_
  rw [h]
  exact k H locs ls hP hS hl
theorem aw_lcmp {a b r : Int} (C : CX X d own cc nL) (hd : decode cc pc = .ok (.lcmp, 1)) (hn : pc + 1 = n) (h : lg_cmp (Int64.ofInt a) (Int64.ofInt b) = Int32.ofInt r) (k : AW X cc nL n L (.inl r :: st) (S)) : AW X cc nL pc L (.inr (.inl b) :: .inr (.inl a) :: st) S := by
  obtain ⟨p, l, e, R, s, m, args, below, meth, c, cells, slots, Q, dC, dI, dA, ad, A⟩ := X
  obtain ⟨hx, hb, hml, hown, hts, hK, hD, hA, hNw, hfr, hlo, hce, hsl⟩ := C
  subst hn
  intro H locs ls hP hS hl
  refine W.lcmp hx hb hd ?_
  rw [h]
  exact k H locs ls hP hS hl
theorem aw_ldc2 {z : Int} {idx : Nat} {v : Int64} (C : CX X d own cc nL) (hd : decode cc pc = .ok (.ldc2_w idx, 3)) (hn : pc + 3 = n) (hw : Cond.constantLong own idx v ∈ am_BW) (h : v = Int64.ofInt z) (k : AW X cc nL n L (.inr (.inl z) :: st) (S)) : AW X cc nL pc L (st) S := by
  obtain ⟨p, l, e, R, s, m, args, below, meth, c, cells, slots, Q, dC, dI, dA, ad, A⟩ := X
  obtain ⟨hx, hb, hml, hown, hts, hK, hD, hA, hNw, hfr, hlo, hce, hsl⟩ := C
  subst hn
  intro H locs ls hP hS hl
  subst h
  exact lv_ldc2 hx hb hown (hts _ hw) hd (k H locs ls hP hS hl)
theorem aw_dup {v : AV} (C : CX X d own cc nL) (hd : decode cc pc = .ok (.dup, 1)) (hn : pc + 1 = n) (h : am_cat v = 1) (k : AW X cc nL n L (v :: v :: st) (S)) : AW X cc nL pc L (v :: st) S := by
  obtain ⟨p, l, e, R, s, m, args, below, meth, c, cells, slots, Q, dC, dI, dA, ad, A⟩ := X
  obtain ⟨hx, hb, hml, hown, hts, hK, hD, hA, hNw, hfr, hlo, hce, hsl⟩ := C
  subst hn
  intro H locs ls hP hS hl
  exact lv_dup hx hb hd ((am_cat_eq ad v).trans h) (k H locs ls hP hS hl)
theorem aw_dup2 {v u : AV} (C : CX X d own cc nL) (hd : decode cc pc = .ok (.dup2, 1)) (hn : pc + 1 = n) (h : am_cat v = 1) (h2 : am_cat u = 1) (k : AW X cc nL n L (v :: u :: v :: u :: st) (S)) : AW X cc nL pc L (v :: u :: st) S := by
  obtain ⟨p, l, e, R, s, m, args, below, meth, c, cells, slots, Q, dC, dI, dA, ad, A⟩ := X
  obtain ⟨hx, hb, hml, hown, hts, hK, hD, hA, hNw, hfr, hlo, hce, hsl⟩ := C
  subst hn
  intro H locs ls hP hS hl
  exact lv_dup2_11 hx hb hd ((am_cat_eq ad v).trans h) ((am_cat_eq ad u).trans h2) (k H locs ls hP hS hl)
theorem aw_goto {off : Int} {tgt : Nat} (C : CX X d own cc nL) (hd : decode cc pc = .ok (.goto off, 3)) (ht : (pc : Int) + off = (tgt : Int)) (k : AW X cc nL tgt L st S) : AW X cc nL pc L st S := by
  obtain ⟨p, l, e, R, s, m, args, below, meth, c, cells, slots, Q, dC, dI, dA, ad, A⟩ := X
  obtain ⟨hx, hb, hml, hown, hts, hK, hD, hA, hNw, hfr, hlo, hce, hsl⟩ := C
  intro H locs ls hP hS hl
  exact lv_goto hx hb hd ht (k H locs ls hP hS hl)
theorem aw_iceq {a b off : Int} {tgt : Nat} (C : CX X d own cc nL) (hd : decode cc pc = .ok (.if_icmp .eq off, 3)) (ht : (pc : Int) + off = (tgt : Int)) (hn : pc + 3 = n) (ha : rng a) (hb2 : rng b) (kt : a = b → AW X cc nL tgt L st S) (kf : ¬ a = b → AW X cc nL n L st S) : AW X cc nL pc L (.inl b :: .inl a :: st) S := by
  obtain ⟨p, l, e, R, s, m, args, below, meth, c, cells, slots, Q, dC, dI, dA, ad, A⟩ := X
  obtain ⟨hx, hb, hml, hown, hts, hK, hD, hA, hNw, hfr, hlo, hce, hsl⟩ := C
  subst hn
  intro H locs ls hP hS hl
  exact lv_icmp_eq hx hb hd ht (fun h => kt ((am_eq ha hb2).mp h) H locs ls hP hS hl) (fun h => kf ((mt (am_eq ha hb2).mpr h)) H locs ls hP hS hl)
theorem aw_ifeq {a off : Int} {tgt : Nat} (C : CX X d own cc nL) (hd : decode cc pc = .ok (.ifCond .eq off, 3)) (ht : (pc : Int) + off = (tgt : Int)) (hn : pc + 3 = n) (ha : rng a) (kt : a = 0 → AW X cc nL tgt L st S) (kf : ¬ a = 0 → AW X cc nL n L st S) : AW X cc nL pc L (.inl a :: st) S := by
  obtain ⟨p, l, e, R, s, m, args, below, meth, c, cells, slots, Q, dC, dI, dA, ad, A⟩ := X
  obtain ⟨hx, hb, hml, hown, hts, hK, hD, hA, hNw, hfr, hlo, hce, hsl⟩ := C
  subst hn
  intro H locs ls hP hS hl
  exact lv_if_eq hx hb hd ht (fun h => kt ((am_eq ha am_r0).mp h) H locs ls hP hS hl) (fun h => kf ((mt (am_eq ha am_r0).mpr h)) H locs ls hP hS hl)
theorem aw_icne {a b off : Int} {tgt : Nat} (C : CX X d own cc nL) (hd : decode cc pc = .ok (.if_icmp .ne off, 3)) (ht : (pc : Int) + off = (tgt : Int)) (hn : pc + 3 = n) (ha : rng a) (hb2 : rng b) (kt : ¬ a = b → AW X cc nL tgt L st S) (kf : a = b → AW X cc nL n L st S) : AW X cc nL pc L (.inl b :: .inl a :: st) S := by
  obtain ⟨p, l, e, R, s, m, args, below, meth, c, cells, slots, Q, dC, dI, dA, ad, A⟩ := X
  obtain ⟨hx, hb, hml, hown, hts, hK, hD, hA, hNw, hfr, hlo, hce, hsl⟩ := C
  subst hn
  intro H locs ls hP hS hl
  exact lv_icmp_ne hx hb hd ht (fun h => kt ((mt (am_eq ha hb2).mpr h)) H locs ls hP hS hl) (fun h => kf ((am_eq ha hb2).mp h) H locs ls hP hS hl)
theorem aw_ifne {a off : Int} {tgt : Nat} (C : CX X d own cc nL) (hd : decode cc pc = .ok (.ifCond .ne off, 3)) (ht : (pc : Int) + off = (tgt : Int)) (hn : pc + 3 = n) (ha : rng a) (kt : ¬ a = 0 → AW X cc nL tgt L st S) (kf : a = 0 → AW X cc nL n L st S) : AW X cc nL pc L (.inl a :: st) S := by
  obtain ⟨p, l, e, R, s, m, args, below, meth, c, cells, slots, Q, dC, dI, dA, ad, A⟩ := X
  obtain ⟨hx, hb, hml, hown, hts, hK, hD, hA, hNw, hfr, hlo, hce, hsl⟩ := C
  subst hn
  intro H locs ls hP hS hl
  exact lv_if_ne hx hb hd ht (fun h => kt ((mt (am_eq ha am_r0).mpr h)) H locs ls hP hS hl) (fun h => kf ((am_eq ha am_r0).mp h) H locs ls hP hS hl)
theorem aw_iclt {a b off : Int} {tgt : Nat} (C : CX X d own cc nL) (hd : decode cc pc = .ok (.if_icmp .lt off, 3)) (ht : (pc : Int) + off = (tgt : Int)) (hn : pc + 3 = n) (ha : rng a) (hb2 : rng b) (kt : a < b → AW X cc nL tgt L st S) (kf : b ≤ a → AW X cc nL n L st S) : AW X cc nL pc L (.inl b :: .inl a :: st) S := by
  obtain ⟨p, l, e, R, s, m, args, below, meth, c, cells, slots, Q, dC, dI, dA, ad, A⟩ := X
  obtain ⟨hx, hb, hml, hown, hts, hK, hD, hA, hNw, hfr, hlo, hce, hsl⟩ := C
  subst hn
  intro H locs ls hP hS hl
  exact lv_icmp_lt hx hb hd ht (fun h => kt ((am_lt ha hb2).mp h) H locs ls hP hS hl) (fun h => kf (Int.not_lt.mp (mt (am_lt ha hb2).mpr h)) H locs ls hP hS hl)
theorem aw_iflt {a off : Int} {tgt : Nat} (C : CX X d own cc nL) (hd : decode cc pc = .ok (.ifCond .lt off, 3)) (ht : (pc : Int) + off = (tgt : Int)) (hn : pc + 3 = n) (ha : rng a) (kt : a < 0 → AW X cc nL tgt L st S) (kf : 0 ≤ a → AW X cc nL n L st S) : AW X cc nL pc L (.inl a :: st) S := by
  obtain ⟨p, l, e, R, s, m, args, below, meth, c, cells, slots, Q, dC, dI, dA, ad, A⟩ := X
  obtain ⟨hx, hb, hml, hown, hts, hK, hD, hA, hNw, hfr, hlo, hce, hsl⟩ := C
  subst hn
  intro H locs ls hP hS hl
  exact lv_if_lt hx hb hd ht (fun h => kt ((am_lt ha am_r0).mp h) H locs ls hP hS hl) (fun h => kf (Int.not_lt.mp (mt (am_lt ha am_r0).mpr h)) H locs ls hP hS hl)
theorem aw_icge {a b off : Int} {tgt : Nat} (C : CX X d own cc nL) (hd : decode cc pc = .ok (.if_icmp .ge off, 3)) (ht : (pc : Int) + off = (tgt : Int)) (hn : pc + 3 = n) (ha : rng a) (hb2 : rng b) (kt : b ≤ a → AW X cc nL tgt L st S) (kf : a < b → AW X cc nL n L st S) : AW X cc nL pc L (.inl b :: .inl a :: st) S := by
  obtain ⟨p, l, e, R, s, m, args, below, meth, c, cells, slots, Q, dC, dI, dA, ad, A⟩ := X
  obtain ⟨hx, hb, hml, hown, hts, hK, hD, hA, hNw, hfr, hlo, hce, hsl⟩ := C
  subst hn
  intro H locs ls hP hS hl
  exact lv_icmp_ge hx hb hd ht (fun h => kt ((am_le hb2 ha).mp h) H locs ls hP hS hl) (fun h => kf (Int.not_le.mp (mt (am_le hb2 ha).mpr h)) H locs ls hP hS hl)
theorem aw_ifge {a off : Int} {tgt : Nat} (C : CX X d own cc nL) (hd : decode cc pc = .ok (.ifCond .ge off, 3)) (ht : (pc : Int) + off = (tgt : Int)) (hn : pc + 3 = n) (ha : rng a) (kt : 0 ≤ a → AW X cc nL tgt L st S) (kf : a < 0 → AW X cc nL n L st S) : AW X cc nL pc L (.inl a :: st) S := by
  obtain ⟨p, l, e, R, s, m, args, below, meth, c, cells, slots, Q, dC, dI, dA, ad, A⟩ := X
  obtain ⟨hx, hb, hml, hown, hts, hK, hD, hA, hNw, hfr, hlo, hce, hsl⟩ := C
  subst hn
  intro H locs ls hP hS hl
  exact lv_if_ge hx hb hd ht (fun h => kt ((am_le am_r0 ha).mp h) H locs ls hP hS hl) (fun h => kf (Int.not_le.mp (mt (am_le am_r0 ha).mpr h)) H locs ls hP hS hl)
theorem aw_icgt {a b off : Int} {tgt : Nat} (C : CX X d own cc nL) (hd : decode cc pc = .ok (.if_icmp .gt off, 3)) (ht : (pc : Int) + off = (tgt : Int)) (hn : pc + 3 = n) (ha : rng a) (hb2 : rng b) (kt : b < a → AW X cc nL tgt L st S) (kf : a ≤ b → AW X cc nL n L st S) : AW X cc nL pc L (.inl b :: .inl a :: st) S := by
  obtain ⟨p, l, e, R, s, m, args, below, meth, c, cells, slots, Q, dC, dI, dA, ad, A⟩ := X
  obtain ⟨hx, hb, hml, hown, hts, hK, hD, hA, hNw, hfr, hlo, hce, hsl⟩ := C
  subst hn
  intro H locs ls hP hS hl
  exact lv_icmp_gt hx hb hd ht (fun h => kt ((am_lt hb2 ha).mp h) H locs ls hP hS hl) (fun h => kf (Int.not_lt.mp (mt (am_lt hb2 ha).mpr h)) H locs ls hP hS hl)
theorem aw_ifgt {a off : Int} {tgt : Nat} (C : CX X d own cc nL) (hd : decode cc pc = .ok (.ifCond .gt off, 3)) (ht : (pc : Int) + off = (tgt : Int)) (hn : pc + 3 = n) (ha : rng a) (kt : 0 < a → AW X cc nL tgt L st S) (kf : a ≤ 0 → AW X cc nL n L st S) : AW X cc nL pc L (.inl a :: st) S := by
  obtain ⟨p, l, e, R, s, m, args, below, meth, c, cells, slots, Q, dC, dI, dA, ad, A⟩ := X
  obtain ⟨hx, hb, hml, hown, hts, hK, hD, hA, hNw, hfr, hlo, hce, hsl⟩ := C
  subst hn
  intro H locs ls hP hS hl
  exact lv_if_gt hx hb hd ht (fun h => kt ((am_lt am_r0 ha).mp h) H locs ls hP hS hl) (fun h => kf (Int.not_lt.mp (mt (am_lt am_r0 ha).mpr h)) H locs ls hP hS hl)
theorem aw_icle {a b off : Int} {tgt : Nat} (C : CX X d own cc nL) (hd : decode cc pc = .ok (.if_icmp .le off, 3)) (ht : (pc : Int) + off = (tgt : Int)) (hn : pc + 3 = n) (ha : rng a) (hb2 : rng b) (kt : a ≤ b → AW X cc nL tgt L st S) (kf : b < a → AW X cc nL n L st S) : AW X cc nL pc L (.inl b :: .inl a :: st) S := by
  obtain ⟨p, l, e, R, s, m, args, below, meth, c, cells, slots, Q, dC, dI, dA, ad, A⟩ := X
  obtain ⟨hx, hb, hml, hown, hts, hK, hD, hA, hNw, hfr, hlo, hce, hsl⟩ := C
  subst hn
  intro H locs ls hP hS hl
  exact lv_icmp_le hx hb hd ht (fun h => kt ((am_le ha hb2).mp h) H locs ls hP hS hl) (fun h => kf (Int.not_le.mp (mt (am_le ha hb2).mpr h)) H locs ls hP hS hl)
theorem aw_ifle {a off : Int} {tgt : Nat} (C : CX X d own cc nL) (hd : decode cc pc = .ok (.ifCond .le off, 3)) (ht : (pc : Int) + off = (tgt : Int)) (hn : pc + 3 = n) (ha : rng a) (kt : a ≤ 0 → AW X cc nL tgt L st S) (kf : 0 < a → AW X cc nL n L st S) : AW X cc nL pc L (.inl a :: st) S := by
  obtain ⟨p, l, e, R, s, m, args, below, meth, c, cells, slots, Q, dC, dI, dA, ad, A⟩ := X
  obtain ⟨hx, hb, hml, hown, hts, hK, hD, hA, hNw, hfr, hlo, hce, hsl⟩ := C
  subst hn
  intro H locs ls hP hS hl
  exact lv_if_le hx hb hd ht (fun h => kt ((am_le ha am_r0).mp h) H locs ls hP hS hl) (fun h => kf (Int.not_le.mp (mt (am_le ha am_r0).mpr h)) H locs ls hP hS hl)
theorem aw_iceqT {a b off : Int} {tgt : Nat} (C : CX X d own cc nL) (hd : decode cc pc = .ok (.if_icmp .eq off, 3)) (ht : (pc : Int) + off = (tgt : Int)) (h : a = b) (kt : AW X cc nL tgt L st S) : AW X cc nL pc L (.inl b :: .inl a :: st) S := by
  obtain ⟨p, l, e, R, s, m, args, below, meth, c, cells, slots, Q, dC, dI, dA, ad, A⟩ := X
  obtain ⟨hx, hb, hml, hown, hts, hK, hD, hA, hNw, hfr, hlo, hce, hsl⟩ := C
  intro H locs ls hP hS hl
  exact lv_icmp_eq hx hb hd ht (fun _ => kt H locs ls hP hS hl) (fun q => absurd (congrArg Int32.ofInt h) q)
theorem aw_tableIn {a dflt lo hi off : Int} {offs : Array Int} {len tgt : Nat} (C : CX X d own cc nL) (hd : decode cc pc = .ok (.tableswitch dflt lo hi offs, len)) (ha : rng a) (h1 : lo ≤ a) (h2 : a ≤ hi) (ho : offs[(a - lo).toNat]? = some off) (ht : (pc : Int) + off = (tgt : Int)) (k : AW X cc nL tgt L st S) : AW X cc nL pc L (.inl a :: st) S := by
  obtain ⟨p, l, e, R, s, m, args, below, meth, c, cells, slots, Q, dC, dI, dA, ad, A⟩ := X
  obtain ⟨hx, hb, hml, hown, hts, hK, hD, hA, hNw, hfr, hlo, hce, hsl⟩ := C
  intro H locs ls hP hS hl
  exact lv_tableIn hx hb hd (by rw [am_ti ha]; omega) (by rw [am_ti ha]; omega) (by rw [am_ti ha]; exact ho) ht (k H locs ls hP hS hl)
theorem aw_tableOut {a dflt lo hi : Int} {offs : Array Int} {len tgt : Nat} (C : CX X d own cc nL) (hd : decode cc pc = .ok (.tableswitch dflt lo hi offs, len)) (ha : rng a) (h : a < lo ∨ hi < a) (ht : (pc : Int) + dflt = (tgt : Int)) (k : AW X cc nL tgt L st S) : AW X cc nL pc L (.inl a :: st) S := by
  obtain ⟨p, l, e, R, s, m, args, below, meth, c, cells, slots, Q, dC, dI, dA, ad, A⟩ := X
  obtain ⟨hx, hb, hml, hown, hts, hK, hD, hA, hNw, hfr, hlo, hce, hsl⟩ := C
  intro H locs ls hP hS hl
  exact lv_tableOut hx hb hd (by rw [am_ti ha]; exact h) ht (k H locs ls hP hS hl)
theorem aw_lookup {a dflt off : Int} {ps : Array (Int × Int)} {len tgt : Nat} (C : CX X d own cc nL) (hd : decode cc pc = .ok (.lookupswitch dflt ps, len)) (ha : rng a) (hp : (ps.toList.zip (ps.toList.drop 1)).all (fun (a, next) => a.1 < next.1) = true) (ho : Op.lookupswitch.offset ps.toList dflt a = off) (ht : (pc : Int) + off = (tgt : Int)) (k : AW X cc nL tgt L st S) : AW X cc nL pc L (.inl a :: st) S := by
  obtain ⟨p, l, e, R, s, m, args, below, meth, c, cells, slots, Q, dC, dI, dA, ad, A⟩ := X
  obtain ⟨hx, hb, hml, hown, hts, hK, hD, hA, hNw, hfr, hlo, hce, hsl⟩ := C
  intro H locs ls hP hS hl
  exact lv_lookup hx hb hd hp (by rw [am_ti ha]; exact ho) ht (k H locs ls hP hS hl)
end AM1
end
section
/-! the abstract machine, second part: cells, calls, ends -/
def am_nOk (x : Nat ⊕ (Nat × Nat)) : Bool := match x with
  | .inl _ => true
  | .inr q => Nat.ble q.2 729
theorem am_shL_ok : am_shL.all am_nOk = true := by decide +kernel
theorem am_len {c ty n : Nat} (h : shk c = .inr (ty, n)) : n ≤ 729 := by
  unfold shk at h
  rw [List.getD_eq_getElem?_getD] at h
  cases hc : am_shL[c]? with
  | none => rw [hc] at h; cases h; decide
  | some x =>
    rw [hc] at h
    have h1 := List.all_eq_true.mp am_shL_ok x (List.mem_of_getElem? hc)
    have h2 : x = .inr (ty, n) := h
    subst h2
    exact Nat.le_of_ble_eq_true h1
theorem am_lt_n {c ty n : Nat} (h : shk c = .inr (ty, n)) (hn : 0 < n) : c < 87 := am_lt_87 (by rw [h]; intro q; cases q; omega)
theorem am_lt_o {c ci : Nat} (h : shk c = .inl ci) : c < 87 := am_lt_87 (by rw [h]; intro q; cases q)
theorem am_E_o {dA : Nat → ClassId} {ad : Nat → Nat} {S : Mem} {c ci : Nat} (h : shk c = .inl ci) : am_E dA ad S c = .inr (ci, (List.range (am_N ci)).map (fun j => am_s ad (shf c j) (S c (j : Int)))) := by
  unfold am_E
  rw [h]
theorem am_E_i {dA : Nat → ClassId} {ad : Nat → Nat} {S : Mem} {c ty n : Nat} (h : shk c = .inr (ty, n)) (ht : ty < 2) : am_E dA ad S c = .inl (dA ty, n, .inl (fun i => Int32.ofInt (S c (i : Int)))) := by
  unfold am_E
  rw [h]
  show (Sum.inl (dA ty, n, if ty < 2 then _ else _) : va_E) = _
  rw [if_pos ht]
theorem am_E_r {dA : Nat → ClassId} {ad : Nat → Nat} {S : Mem} {c ty n : Nat} (h : shk c = .inr (ty, n)) (ht : ¬ ty < 2) : am_E dA ad S c = .inl (dA ty, n, .inr (.inr (.inr (.inr (fun i => (shf c i).map ad))))) := by
  unfold am_E
  rw [h]
  show (Sum.inl (dA ty, n, if ty < 2 then _ else _) : va_E) = _
  rw [if_neg ht]
/-- a field's words: the class's number ci, the field's place k -/
def am_FL (own : String) (idx ci k : Nat) : Prop := ∃ (C : String) (T : u_T) (N : Nat), vwCl[ci]? = some (C, T, N) ∧ (∀ w ∈ u_ws C T N, w ∈ am_BW) ∧ k < N ∧ Cond.fieldLink own idx (T k).1 (T k).2.1 (T k).2.2.1 ∈ am_BW
def am_FP (own : String) (idx ci k : Nat) (ty : FieldType) : Prop := ∃ (C : String) (T : u_T) (N : Nat) (ty0 : Nat → FieldType), vwCl[ci]? = some (C, T, N) ∧ (∀ w ∈ u_ws C T N, w ∈ am_BW) ∧ k < N ∧ Cond.fieldLink own idx (T k).1 (T k).2.1 (T k).2.2.1 ∈ am_BW ∧ (T k).2.2.2 = false ∧ parseFieldDescriptor (T k).2.2.1 = some ty ∧ (∀ k, k < N → parseFieldDescriptor (T k).2.2.1 = some (ty0 k)) ∧ ∀ a, a < N → ∀ b, b < N → a ≠ b → (T a).2.1 ≠ (T b).2.1
theorem am_N_of {ci : Nat} {C : String} {T : u_T} {N : Nat} (h : vwCl[ci]? = some (C, T, N)) : am_N ci = N := by
  unfold am_N
  rw [h]
  rfl
section AM2
variable {X : AMX} {d pc n nL : Nat} {own : String} {cc : ByteArray} {L : List (Option AV)} {st : List AV} {S : Mem}
theorem aw_getI {c ci k idx : Nat} {z : Int} (C : CX X d own cc nL) (hd : decode cc pc = .ok (.getfield idx, 3)) (hn : pc + 3 = n) (hF : am_FL own idx ci k) (hs : shk c = .inl ci) (hr : shf c k = none) (hz : z = ((k : Nat) : Int)) (kk : AW X cc nL n L (.inl (S c z) :: st) S) : AW X cc nL pc L (.inr (.inr c) :: st) S := by
  obtain ⟨p, l, e, R, s, m, args, below, meth, c0, cells, slots, Q, dC, dI, dA, ad, A⟩ := X
  obtain ⟨hx, hb, hml, hown, hts, hK, hD, hA, hNw, hfr, hlo, hce, hsl⟩ := C
  subst hn; subst hz
  intro H locs ls hP hS hl
  obtain ⟨Cn, T, N, f1, f2, f3, f4⟩ := hF
  refine va_get (D := (dC, dI)) hx hb hts f2 hown hK hP c ((am_W_at (am_lt_o hs)).trans (by rw [am_E_o hs])) f1 k f3 (hts _ f4) (fun _ h => h) (v := .int (Int32.ofInt (S c (k : Int)))) ?_ hd (kk H locs ls hP hS hl)
  rw [List.getElem?_map, List.getElem?_range (by rw [am_N_of f1]; exact f3)]
  show some (am_s ad (shf c k) _) = _
  rw [hr]
  rfl
theorem aw_getR {c ci k idx t : Nat} (C : CX X d own cc nL) (hd : decode cc pc = .ok (.getfield idx, 3)) (hn : pc + 3 = n) (hF : am_FL own idx ci k) (hs : shk c = .inl ci) (hr : shf c k = some t) (kk : AW X cc nL n L (.inr (.inr t) :: st) S) : AW X cc nL pc L (.inr (.inr c) :: st) S := by
  obtain ⟨p, l, e, R, s, m, args, below, meth, c0, cells, slots, Q, dC, dI, dA, ad, A⟩ := X
  obtain ⟨hx, hb, hml, hown, hts, hK, hD, hA, hNw, hfr, hlo, hce, hsl⟩ := C
  subst hn
  intro H locs ls hP hS hl
  obtain ⟨Cn, T, N, f1, f2, f3, f4⟩ := hF
  refine va_get (D := (dC, dI)) hx hb hts f2 hown hK hP c ((am_W_at (am_lt_o hs)).trans (by rw [am_E_o hs])) f1 k f3 (hts _ f4) (fun _ h => h) (v := .ref (ad t)) ?_ hd (kk H locs ls hP hS hl)
  rw [List.getElem?_map, List.getElem?_range (by rw [am_N_of f1]; exact f3)]
  show some (am_s ad (shf c k) _) = _
  rw [hr]
  rfl
theorem am_E_put {dA : Nat → ClassId} {ad : Nat → Nat} {S : Mem} {c ci k : Nat} {a : Int} (hs : shk c = .inl ci) (hr : shf c k = none) : am_E dA ad (st2 S c ((k : Nat) : Int) a) c = .inr (ci, ((List.range (am_N ci)).map (fun j => am_s ad (shf c j) (S c (j : Int)))).set k (.int (Int32.ofInt a))) := by
  rw [am_E_o hs]
  congr 2
  apply List.ext_getElem?
  intro j
  by_cases hjk : j = k
  · subst hjk
    rw [List.getElem?_map, List.getElem?_set]
    by_cases hj : j < am_N ci
    · rw [List.getElem?_range hj]
      simp [hj, hr, am_s, st2]
    · rw [List.getElem?_eq_none (by simp; omega)]
      simp [hj]
  · rw [List.getElem?_set_ne (Ne.symm hjk), List.getElem?_map, List.getElem?_map]
    by_cases hj : j < am_N ci
    · rw [List.getElem?_range hj]
      simp [st2, show ¬ ((j : Int) = (k : Int)) by omega]
    · rw [List.getElem?_eq_none (by simp; omega)]
      rfl
theorem aw_put {c ci k idx : Nat} {z a : Int} {ty : FieldType} (C : CX X d own cc nL) (hd : decode cc pc = .ok (.putfield idx, 3)) (hn : pc + 3 = n) (hF : am_FP own idx ci k ty) (hs : shk c = .inl ci) (hr : shf c k = none) (hz : z = ((k : Nat) : Int)) (hty : ty = .int ∨ (ty = .boolean ∧ (a = 0 ∨ a = 1))) (kk : AW X cc nL n L st (st2 S c z a)) : AW X cc nL pc L (.inl a :: .inr (.inr c) :: st) S := by
  obtain ⟨p, l, e, R, s, m, args, below, meth, c0, cells, slots, Q, dC, dI, dA, ad, A⟩ := X
  obtain ⟨hx, hb, hml, hown, hts, hK, hD, hA, hNw, hfr, hlo, hce, hsl⟩ := C
  subst hn; subst hz
  intro H locs ls hP hS hl
  obtain ⟨Cn, T, N, ty0, f1, f2, f3, f4, f5, f6, f7, f8⟩ := hF
  refine va_put (D := (dC, dI)) (v := .int (Int32.ofInt a)) hx hb hts f2 ty0 f7 f8 hown hK hP (hD S) hS c ((am_W_at (am_lt_o hs)).trans (by rw [am_E_o hs])) f1 k f3 (hts _ f4) (fun _ h => h) f5 f6 ?_ ?_ (by simp [am_N_of f1, f3]) hd (fun H1 locs1 hP1 hD1 hS1 => kk H1 locs1 ls ?_ hS1 hl)
  · rcases hty with rfl | ⟨rfl, rfl | rfl⟩ <;> rfl
  · rcases hty with rfl | ⟨rfl, rfl | rfl⟩ <;> rfl
  · rw [am_W_set (am_E_put hs hr) st2_o] at hP1
    exact hP1
theorem aw_iald {c len : Nat} {i : Int} (C : CX X d own cc nL) (hd : decode cc pc = .ok (.iaload, 1)) (hn : pc + 1 = n) (hs : shk c = .inr (0, len)) (h0 : 0 ≤ i) (h1 : i < len) (kk : AW X cc nL n L (.inl (S c i) :: st) S) : AW X cc nL pc L (.inl i :: .inr (.inr c) :: st) S := by
  obtain ⟨p, l, e, R, s, m, args, below, meth, c0, cells, slots, Q, dC, dI, dA, ad, A⟩ := X
  obtain ⟨hx, hb, hml, hown, hts, hK, hD, hA, hNw, hfr, hlo, hce, hsl⟩ := C
  subst hn
  intro H locs ls hP hS hl
  have hlen := am_len hs
  refine va_iald (D := (dC, dI)) hx hb hK hP c 0 ((am_W_at (am_lt_n hs (by omega))).trans (by rw [am_E_i hs (by decide)])) rfl (am_in h0 h1 (by omega)) hd ?_
  rw [am_cl h0 (by omega), Int.toNat_of_nonneg h0]
  exact kk H locs ls hP hS hl
theorem aw_zald {c len : Nat} {i : Int} (C : CX X d own cc nL) (hd : decode cc pc = .ok (.baload, 1)) (hn : pc + 1 = n) (hs : shk c = .inr (1, len)) (h0 : 0 ≤ i) (h1 : i < len) (kk : AW X cc nL n L (.inl (S c i) :: st) S) : AW X cc nL pc L (.inl i :: .inr (.inr c) :: st) S := by
  obtain ⟨p, l, e, R, s, m, args, below, meth, c0, cells, slots, Q, dC, dI, dA, ad, A⟩ := X
  obtain ⟨hx, hb, hml, hown, hts, hK, hD, hA, hNw, hfr, hlo, hce, hsl⟩ := C
  subst hn
  intro H locs ls hP hS hl
  have hlen := am_len hs
  refine va_zald (D := (dC, dI)) hx hb hK hP c 1 ((am_W_at (am_lt_n hs (by omega))).trans (by rw [am_E_i hs (by decide)])) rfl (am_in h0 h1 (by omega)) hd ?_
  rw [am_cl h0 (by omega), Int.toNat_of_nonneg h0]
  exact kk H locs ls hP hS hl
theorem am_E_st {dA : Nat → ClassId} {ad : Nat → Nat} {S : Mem} {c ty len : Nat} {i a : Int} (hs : shk c = .inr (ty, len)) (ht : ty < 2) (h0 : 0 ≤ i) : am_E dA ad (st2 S c i a) c = .inl (dA ty, len, .inl (upd (fun i => Int32.ofInt (S c (i : Int))) i.toNat (Int32.ofInt a))) := by
  rw [am_E_i hs ht]
  congr 3
  congr 1
  funext j
  unfold upd st2
  by_cases hj : (j : Int) = i
  · rw [if_pos ⟨rfl, hj⟩, if_pos (by omega)]
  · rw [if_neg (fun q => hj q.2), if_neg (by omega)]
theorem aw_iast {c len : Nat} {i a : Int} (C : CX X d own cc nL) (hd : decode cc pc = .ok (.iastore, 1)) (hn : pc + 1 = n) (hs : shk c = .inr (0, len)) (h0 : 0 ≤ i) (h1 : i < len) (kk : AW X cc nL n L st (st2 S c i a)) : AW X cc nL pc L (.inl a :: .inl i :: .inr (.inr c) :: st) S := by
  obtain ⟨p, l, e, R, s, m, args, below, meth, c0, cells, slots, Q, dC, dI, dA, ad, A⟩ := X
  obtain ⟨hx, hb, hml, hown, hts, hK, hD, hA, hNw, hfr, hlo, hce, hsl⟩ := C
  subst hn
  intro H locs ls hP hS hl
  have hlen := am_len hs
  refine va_iast (D := (dC, dI)) hx hb hK hP (hD S) hS c 0 ((am_W_at (am_lt_n hs (by omega))).trans (by rw [am_E_i hs (by decide)])) rfl (am_in h0 h1 (by omega)) hd (fun H1 locs1 hP1 hD1 hS1 => kk H1 locs1 ls ?_ hS1 hl)
  rw [am_cl h0 (by omega), am_W_set (am_E_st hs (by decide) h0) st2_o] at hP1
  exact hP1
theorem aw_zast {c len : Nat} {i a : Int} (C : CX X d own cc nL) (hd : decode cc pc = .ok (.bastore, 1)) (hn : pc + 1 = n) (hs : shk c = .inr (1, len)) (h0 : 0 ≤ i) (h1 : i < len) (ha : a = 0 ∨ a = 1) (kk : AW X cc nL n L st (st2 S c i a)) : AW X cc nL pc L (.inl a :: .inl i :: .inr (.inr c) :: st) S := by
  obtain ⟨p, l, e, R, s, m, args, below, meth, c0, cells, slots, Q, dC, dI, dA, ad, A⟩ := X
  obtain ⟨hx, hb, hml, hown, hts, hK, hD, hA, hNw, hfr, hlo, hce, hsl⟩ := C
  subst hn
  intro H locs ls hP hS hl
  have hlen := am_len hs
  have hna : vp_nar .boolean (Int32.ofInt a) = Int32.ofInt a := by rcases ha with rfl | rfl <;> rfl
  refine va_zast (D := (dC, dI)) hx hb hK hP (hD S) hS c 1 ((am_W_at (am_lt_n hs (by omega))).trans (by rw [am_E_i hs (by decide)])) rfl (am_in h0 h1 (by omega)) hd (fun H1 locs1 hP1 hD1 hS1 => kk H1 locs1 ls ?_ hS1 hl)
  rw [hna, am_cl h0 (by omega), am_W_set (am_E_st hs (by decide) h0) st2_o] at hP1
  exact hP1
theorem aw_aald {c ty len j t : Nat} {i : Int} (C : CX X d own cc nL) (hd : decode cc pc = .ok (.aaload, 1)) (hn : pc + 1 = n) (hs : shk c = .inr (ty, len)) (hty : ty = 2 ∨ ty = 3) (hi : i = ((j : Nat) : Int)) (hj : j < len) (hr : shf c j = some t) (kk : AW X cc nL n L (.inr (.inr t) :: st) S) : AW X cc nL pc L (.inl i :: .inr (.inr c) :: st) S := by
  obtain ⟨p, l, e, R, s, m, args, below, meth, c0, cells, slots, Q, dC, dI, dA, ad, A⟩ := X
  obtain ⟨hx, hb, hml, hown, hts, hK, hD, hA, hNw, hfr, hlo, hce, hsl⟩ := C
  subst hn; subst hi
  intro H locs ls hP hS hl
  have hlen := am_len hs
  have hin := am_in (a := (j : Int)) (n := len) (by omega) (by omega) (by omega)
  have hcl : (Int32.ofInt (j : Int)).toNatClampNeg = j := by rw [am_cl (by omega) (by omega)]; omega
  have hat := (am_W_at (dA := dA) (ad := ad) (S := S) (am_lt_n hs (by omega))).trans (by rw [am_E_r hs (by omega)])
  have hk := kk H locs ls hP hS hl
  rcases hty with rfl | rfl
  · refine va_aldq (D := (dC, dI)) hx hb hK hP c 2 hat rfl hin hd ?_
    rw [hcl]
    show W p l e R s m args below meth c0 H locs cells slots Q (F0 m (pc + 1) ls (va_rf ((shf c j).map ad) :: _))
    rw [hr]
    exact hk
  · refine W.aald (v := va_rf ((shf c j).map ad)) (ty := .array .int) hx hb (hP c _ hat) ((hK.2 3 _ rfl).1 len (fun j => va_rf ((shf c j).map ad))) rfl (fun q => by cases q) (by show ¬ (_ ∨ (arrV _ _ _).slots.size ≤ _); rw [arrV_size]; exact hin) (by show (arrV _ _ _).slots[_]? = _; rw [hcl, arrV_read _ _ hj]) rfl rfl hd ?_
    rw [hr]
    exact hk
theorem aw_alen {c ty len : Nat} {z : Int} (C : CX X d own cc nL) (hd : decode cc pc = .ok (.arraylength, 1)) (hn : pc + 1 = n) (hs : shk c = .inr (ty, len)) (hl0 : 0 < len) (ht : ty < 2) (hz : z = ((len : Nat) : Int)) (kk : AW X cc nL n L (.inl z :: st) S) : AW X cc nL pc L (.inr (.inr c) :: st) S := by
  obtain ⟨p, l, e, R, s, m, args, below, meth, c0, cells, slots, Q, dC, dI, dA, ad, A⟩ := X
  obtain ⟨hx, hb, hml, hown, hts, hK, hD, hA, hNw, hfr, hlo, hce, hsl⟩ := C
  subst hn; subst hz
  intro H locs ls hP hS hl
  have h2 : ty = 0 ∨ ty = 1 := by omega
  have hv : Int32.ofNat len = Int32.ofInt (len : Int) := Int32.ofInt_eq_ofNat.symm
  rcases h2 with rfl | rfl
  · exact va_alen (D := (dC, dI)) hx hb hK hP c 0 ((am_W_at (am_lt_n hs hl0)).trans (by rw [am_E_i hs ht])) (ty := .int) rfl hv hd (kk H locs ls hP hS hl)
  · exact va_alen (D := (dC, dI)) hx hb hK hP c 1 ((am_W_at (am_lt_n hs hl0)).trans (by rw [am_E_i hs ht])) (ty := .boolean) rfl hv hd (kk H locs ls hP hS hl)
theorem am_max {a b : Int} (ha : rng a) (hb : rng b) : (if Int32.ofInt a < Int32.ofInt b then Int32.ofInt b else Int32.ofInt a) = Int32.ofInt (max a b) := by
  by_cases h : a < b
  · rw [if_pos ((am_lt ha hb).mpr h), Int.max_eq_right (Int.le_of_lt h)]
  · rw [if_neg (mt (am_lt ha hb).mp h), Int.max_eq_left (Int.not_lt.mp h)]
theorem am_min {a b : Int} (ha : rng a) (hb : rng b) : (if Int32.ofInt b < Int32.ofInt a then Int32.ofInt b else Int32.ofInt a) = Int32.ofInt (min a b) := by
  by_cases h : b < a
  · rw [if_pos ((am_lt hb ha).mpr h), Int.min_eq_right (Int.le_of_lt h)]
  · rw [if_neg (mt (am_lt hb ha).mp h), Int.min_eq_left (Int.not_lt.mp h)]
theorem aw_mmax {idx : Nat} {a b : Int} (C : CX X d own cc nL) (hd : decode cc pc = .ok (.invokestatic idx, 3)) (hn : pc + 3 = n) (hlk : Cond.methodLink own idx Lib.Math.max.name ∈ am_BW) (h1 : Cond.static Lib.Math.max.name ∈ am_BW) (h2 : Cond.initialized "java/lang/Math" ∈ am_BW) (h3 : Cond.code Lib.Math.max.name Lib.Math.max.code 2 (some .int) ∈ am_BW) (hdd : 0 < d) (hroom : (st.map am_cat).sum ≤ 8) (ha : rng a) (hb2 : rng b) (kk : AW X cc nL n L (.inl (max a b) :: st) S) : AW X cc nL pc L (.inl b :: .inl a :: st) S := by
  obtain ⟨p, l, e, R, s, m, args, below, meth, c0, cells, slots, Q, dC, dI, dA, ad, A⟩ := X
  obtain ⟨hx, hb, hml, hown, hts, hK, hD, hA, hNw, hfr, hlo, hce, hsl⟩ := C
  subst hn
  intro H locs ls hP hS hl
  refine va_mmax hx hb (hml.trans hl.1.1.symm) hown (hts _ hlk) (hts _ h1) (hts _ h2) (hts _ h3) (by omega) (by rw [am_cats]; omega) hce hsl hd ?_
  rw [am_max ha hb2]
  exact kk H locs ls hP hS hl
theorem aw_mmin {idx : Nat} {a b : Int} (C : CX X d own cc nL) (hd : decode cc pc = .ok (.invokestatic idx, 3)) (hn : pc + 3 = n) (hlk : Cond.methodLink own idx Lib.Math.min.name ∈ am_BW) (h1 : Cond.static Lib.Math.min.name ∈ am_BW) (h2 : Cond.initialized "java/lang/Math" ∈ am_BW) (h3 : Cond.code Lib.Math.min.name Lib.Math.min.code 2 (some .int) ∈ am_BW) (hdd : 0 < d) (hroom : (st.map am_cat).sum ≤ 8) (ha : rng a) (hb2 : rng b) (kk : AW X cc nL n L (.inl (min a b) :: st) S) : AW X cc nL pc L (.inl b :: .inl a :: st) S := by
  obtain ⟨p, l, e, R, s, m, args, below, meth, c0, cells, slots, Q, dC, dI, dA, ad, A⟩ := X
  obtain ⟨hx, hb, hml, hown, hts, hK, hD, hA, hNw, hfr, hlo, hce, hsl⟩ := C
  subst hn
  intro H locs ls hP hS hl
  refine va_mmin hx hb (hml.trans hl.1.1.symm) hown (hts _ hlk) (hts _ h1) (hts _ h2) (hts _ h3) (by omega) (by rw [am_cats]; omega) hce hsl hd ?_
  rw [am_min ha hb2]
  exact kk H locs ls hP hS hl
/-- a stretch of one row goes into another -/
def cp2 (S : Mem) (c0 : Nat) (sp : Int) (c1 : Nat) (dp k : Int) : Mem := fun c' i' => if c' = c1 ∧ dp ≤ i' ∧ i' < dp + k then S c0 (sp + (i' - dp)) else S c' i'
theorem am_E_cp {dA : Nat → ClassId} {ad : Nat → Nat} {S : Mem} {c0 c1 l0 l1 : Nat} {sp dp k : Int} (hs0 : shk c0 = .inr (0, l0)) (hs1 : shk c1 = .inr (0, l1)) (h1 : 0 ≤ sp) (h2 : 0 ≤ dp) (h3 : 0 ≤ k) : am_E dA ad (cp2 S c0 sp c1 dp k) c1 = .inl (dA 0, l1, .inl (va_cpy (fun i => Int32.ofInt (S c0 (i : Int))) (fun i => Int32.ofInt (S c1 (i : Int))) sp.toNat dp.toNat k.toNat)) := by
  rw [am_E_i hs1 (by decide)]
  congr 3
  congr 1
  funext j
  unfold va_cpy cp2
  by_cases hj : dp ≤ (j : Int) ∧ (j : Int) < dp + k
  · rw [if_pos ⟨rfl, hj⟩, if_pos (by omega)]
    congr 2
    omega
  · rw [if_neg (fun q => hj q.2), if_neg (by omega)]
theorem aw_copy {idx c0 c1 l0 l1 : Nat} {sp dp k : Int} (C : CX X d own cc nL) (hd : decode cc pc = .ok (.invokestatic idx, 3)) (hn : pc + 3 = n) (hlk : Cond.methodLink own idx arraycopyName ∈ am_BW) (g1 : Cond.native arraycopyName ∈ am_BW) (g2 : Cond.static arraycopyName ∈ am_BW) (g3 : Cond.initialized "java/lang/System" ∈ am_BW) (hdd : 0 < d) (hroom : (st.map am_cat).sum ≤ 8) (hs0 : shk c0 = .inr (0, l0)) (hs1 : shk c1 = .inr (0, l1)) (hl0 : 0 < l0) (hl1 : 0 < l1) (h1 : 0 ≤ sp) (h2 : 0 ≤ dp) (h3 : 0 ≤ k) (h4 : sp + k ≤ l0) (h5 : dp + k ≤ l1) (kk : AW X cc nL n L st (cp2 S c0 sp c1 dp k)) : AW X cc nL pc L (.inl k :: .inl dp :: .inr (.inr c1) :: .inl sp :: .inr (.inr c0) :: st) S := by
  obtain ⟨p, l, e, R, s, m, args, below, meth, cx, cells, slots, Q, dC, dI, dA, ad, A⟩ := X
  obtain ⟨hx, hb, hml, hown, hts, hK, hD, hA, hNw, hfr, hlo, hce, hsl⟩ := C
  subst hn
  intro H locs ls hP hS hl
  have e0 := am_len hs0
  have e1 := am_len hs1
  have hnw : nativeFrameWords "java/lang/System" "arraycopy" 5 + 11 ≤ 50 := by decide
  have z0 : ∀ q : Int, 0 ≤ q → q ≤ 2147483647 → ¬ Int32.ofInt q < 0 := fun q a b => by rw [← am_z, am_lt ⟨by omega, b⟩ am_r0]; omega
  refine va_copyi (D := (dC, dI)) hx hb (hml.trans hl.1.1.symm) hown (hts _ hlk) (hts _ g1) (hts _ g2) (hts _ g3) hK hP (hD S) hS c0 c1 0 0 ((am_W_at (am_lt_n hs0 hl0)).trans (by rw [am_E_i hs0 (by decide)])) ((am_W_at (am_lt_n hs1 hl1)).trans (by rw [am_E_i hs1 (by decide)])) rfl rfl rfl (z0 sp h1 (by omega)) (z0 dp h2 (by omega)) (z0 k h3 (by omega)) (by rw [am_cl h1 (by omega), am_cl h3 (by omega)]; omega) (by rw [am_cl h2 (by omega), am_cl h3 (by omega)]; omega) (fun _ _ => rfl) (by omega) (by rw [am_cats]; omega) hd (fun H1 locs1 hP1 hD1 hS1 => kk H1 locs1 ls ?_ hS1 hl)
  rw [am_cl h1 (by omega), am_cl h2 (by omega), am_cl h3 (by omega), am_W_set (am_E_cp hs0 hs1 h1 h2 h3) (fun c' h => funext fun i' => if_neg (fun q => h q.1))] at hP1
  exact hP1
end AM2
end
section
/-! the abstract machine, third part: contracts, ends, calls -/
def am_R (d : Nat) : Room := { frames := d, cells := 0, slots := 0, locals := 60 * d }
def am_Pre (dC : Nat → ClassId) (dI : Nat → Nat → Nat) (dA : Nat → ClassId) (ad : Nat → Nat) (sz : Nat) (S : Mem) (U : State) : Prop := U.heap.size = sz ∧ va_P (dC, dI) vwCl (am_W dA ad S) U.heap ∧ va_K (dC, dI) vwCl (am_ty dA) U ∧ va_D (fun _ => True) (am_W dA ad S) ∧ va_Nw am_NW U
def AMi (d : Nat) (y : MethodName) (cc : ByteArray) (nL : Nat) (ret : Option FieldType) (vs : List AV) (S : Mem) (post : Int → Mem → Prop) : Prop :=
  ∀ (l : Launch) (dC : Nat → ClassId) (dI : Nat → Nat → Nat) (dA : Nat → ClassId) (ad : Nat → Nat) (sz : Nat), Met l y (.code y cc nL ret :: am_BW) (am_R d) (va_Pc (vs.map (am_v ad)) (am_Pre dC dI dA ad sz S)) (va_Qi (fun (r : Int32) (u : Int × Mem) => r = Int32.ofInt u.1 ∧ post u.1 u.2) (fun u t => va_P (dC, dI) vwCl (am_W dA ad u.2) t.heap) (va_A (am_W dA ad S) sz)) 0 0 (va_A (am_W dA ad S) sz)
def AMl (d : Nat) (y : MethodName) (cc : ByteArray) (nL : Nat) (ret : Option FieldType) (vs : List AV) (S : Mem) (post : Int → Mem → Prop) : Prop :=
  ∀ (l : Launch) (dC : Nat → ClassId) (dI : Nat → Nat → Nat) (dA : Nat → ClassId) (ad : Nat → Nat) (sz : Nat), Met l y (.code y cc nL ret :: am_BW) (am_R d) (va_Pc (vs.map (am_v ad)) (am_Pre dC dI dA ad sz S)) (va_Ql (fun (r : Int64) (u : Int × Mem) => r = Int64.ofInt u.1 ∧ post u.1 u.2) (fun u t => va_P (dC, dI) vwCl (am_W dA ad u.2) t.heap) (va_A (am_W dA ad S) sz)) 0 0 (va_A (am_W dA ad S) sz)
def AMv (d : Nat) (y : MethodName) (cc : ByteArray) (nL : Nat) (vs : List AV) (S : Mem) (post : Mem → Prop) : Prop :=
  ∀ (l : Launch) (dC : Nat → ClassId) (dI : Nat → Nat → Nat) (dA : Nat → ClassId) (ad : Nat → Nat) (sz : Nat), Met l y (.code y cc nL none :: am_BW) (am_R d) (va_Pc (vs.map (am_v ad)) (am_Pre dC dI dA ad sz S)) (va_Qv (fun (u : Mem) => post u) (fun u t => va_P (dC, dI) vwCl (am_W dA ad u) t.heap) (va_A (am_W dA ad S) sz)) 0 0 (va_A (am_W dA ad S) sz)
/-- the locals of a method's start -/
def am_ent (vs : List AV) : List (Option AV) := vs.flatMap fun v => if am_cat v = 2 then [some v, none] else [some v]
theorem am_ent_cons (v : AV) (vs : List AV) : am_ent (v :: vs) = (if am_cat v = 2 then [some v, none] else [some v]) ++ am_ent vs := rfl
theorem am_ent_args (ad : Nat → Nat) : ∀ (vs : List AV) (o i : Nat) (v : AV), (am_ent vs)[i]? = some (some v) → (o + i, am_v ad v) ∈ lv_args o (vs.map (am_v ad))
  | [], o, i, v, h => by simp [am_ent] at h
  | u :: vs, o, i, v, h => by
    rw [am_ent_cons] at h
    rw [List.map_cons, lv_args, am_cat_eq]
    by_cases hc : am_cat u = 2
    · rw [if_pos hc] at h ⊢
      match i, h with
      | 0, h => cases h; exact List.mem_cons_self
      | 1, h => cases h
      | i + 2, h => exact List.mem_cons_of_mem _ (by rw [show o + (i + 2) = (o + 2) + i by omega]; exact am_ent_args ad vs (o + 2) i v h)
    · rw [if_neg hc] at h ⊢
      match i, h with
      | 0, h => cases h; exact List.mem_cons_self
      | i + 1, h => exact List.mem_cons_of_mem _ (by rw [show o + (i + 1) = (o + 1) + i by omega]; exact am_ent_args ad vs (o + 1) i v h)
theorem am_sl_len (ad : Nat → Nat) : ∀ vs : List AV, (lg_sl (vs.map (am_v ad))).length = (am_ent vs).length
  | [] => rfl
  | u :: vs => by
    have ih := am_sl_len ad vs
    rw [am_ent_cons, List.length_append, ← ih, List.map_cons]
    unfold lg_sl
    rw [List.flatMap_cons, List.length_append, am_cat_eq]
    by_cases hc : am_cat u = 2
    · rw [if_pos hc, if_pos hc]; rfl
    · rw [if_neg hc, if_neg hc]; rfl
theorem am_D_all {dA : Nat → ClassId} {ad : Nat → Nat} {S0 : Mem} {sz : Nat} (h : va_D (fun _ => True) (am_W dA ad S0)) : ∀ S, va_D (va_A (am_W dA ad S0) sz) (am_W dA ad S) := by
  intro S
  refine ⟨fun i j p q hi hj hpq => ?_, fun k q hk => ?_⟩
  · obtain ⟨li, rfl⟩ := am_W_some hi
    obtain ⟨lj, rfl⟩ := am_W_some hj
    exact h.1 i j _ _ (am_W_at li) (am_W_at lj) hpq
  · obtain ⟨lk, rfl⟩ := am_W_some hk
    exact Or.inl ⟨k, _, am_W_at lk⟩
theorem am_body {l : Launch} {d : Nat} {y : MethodName} {cc : ByteArray} {nL : Nat} {ret : Option FieldType} {vs : List AV} {S : Mem} {dC : Nat → ClassId} {dI : Nat → Nat → Nat} {dA : Nat → ClassId} {ad : Nat → Nat} {sz : Nat} {Qc : Array Value → State → Outcome → State → Prop} {L : List (Option AV)} (hy : plainName y.cls = true) (hL : am_ent vs ++ List.replicate (nL - (am_ent vs).length) none = L) (hlen : (am_ent vs).length ≤ nL)
    (k : ∀ X : AMX, CX X d y.cls cc nL → (∀ (pc : Nat) (L : List (Option AV)) (st : List AV) (S' : Mem) (v : Option Value), st.map (am_v ad) = v.toList → (∀ (s t : State) (args : Array Value) (H : Heap) (locs : List Loc), va_P (dC, dI) vwCl (am_W dA ad S') H → va_S (va_A (am_W dA ad S) sz) s.heap H locs → t.heap = H → Qc args s (.returned v) t) → ((∃ i : Int32, v = some (.int i) ∧ ∃ ty, ret = some ty ∧ narrow ty (.int i) = .int i ∧ decode cc pc = .ok (.ireturn, 1)) ∨ (∃ i : Int64, v = some (.long i) ∧ ret = some .long ∧ decode cc pc = .ok (.lreturn, 1)) ∨ (v = none ∧ ret = none ∧ decode cc pc = .ok (.return_, 1))) → AW X cc nL pc L st S') → AW X cc nL 0 L [] S) :
    Met l y (.code y cc nL ret :: am_BW) (am_R d) (va_Pc (vs.map (am_v ad)) (am_Pre dC dI dA ad sz S)) Qc 0 0 (va_A (am_W dA ad S) sz) := by
  refine Met.ofW (cc := cc) (maxL := nL) (ret := ret) hy rfl ?_
  intro p e s m args below meth c s₁ B hml hv
  obtain ⟨rfl, hsz, hP, hK, hD0, hNw⟩ := hv
  have hts := atoms_spec (ws := .code y cc nL ret :: am_BW) B.pre
  have hS : va_S (va_A (am_W dA ad S) sz) s.heap s.heap [] := va_S.rf
  have hl := lv_entry (vs.map (am_v ad)) (n := nL) (by rw [am_sl_len]; exact hlen)
  rw [lg_entry_eq]
  generalize (lg_sl (vs.map (am_v ad)) ++ List.replicate (nL - (lg_sl (vs.map (am_v ad))).length) Slot.unset).toArray = ls at hl ⊢
  have hC : CX (p, l, e, (headSpec (.code y cc nL ret :: am_BW) (am_R d)).room, s, m, (vs.map (am_v ad)).toArray, below, meth, c, 0, 0, MQ below Qc (vs.map (am_v ad)).toArray s 0 0 (va_A (am_W dA ad S) sz), dC, dI, dA, ad, va_A (am_W dA ad S) sz) d y.cls cc nL :=
    ⟨B.exec, B.bytes, hml, findClass_of_methodNamed B.named, fun w hw => hts w (List.mem_cons_of_mem _ hw), hK, am_D_all hD0, fun q hq => Or.inr (by rw [← hsz]; exact hq), hNw, Nat.le_refl _, Nat.le_refl _, Nat.zero_le _, Nat.zero_le _⟩
  refine k _ hC (fun pc L' st S' v hst hQ hcase => ?_) s.heap [] ls hP hS ⟨⟨hl.1, hl.2.1, fun q hq => by cases hq⟩, fun i v hv => ?_⟩
  · intro H locs ls' hP' hS' hl'
    show W p l e _ s m _ below meth c H locs 0 0 _ (F0 m pc ls' (st.map (am_v ad)))
    rw [hst]
    rcases hcase with ⟨i, rfl, ty, hr, hna, hd⟩ | ⟨i, rfl, hr, hd⟩ | ⟨rfl, hr, hd⟩
    · exact W.zret B.exec B.bytes (B.returns.trans hr) hna (fun t ht _ => hQ s t _ H locs hP' hS' ht) hS'.2.2 hd B.notSynchronized
    · exact W.lret B.exec B.bytes (B.returns.trans hr) (fun t ht _ => hQ s t _ H locs hP' hS' ht) hS'.2.2 hd B.notSynchronized
    · exact W.vret B.exec B.bytes (B.returns.trans hr) (fun t ht _ => hQ s t _ H locs hP' hS' ht) hS'.2.2 hd B.notSynchronized
  · rw [← hL] at hv
    have hi : i < (am_ent vs).length := by
      rcases Nat.lt_or_ge i (am_ent vs).length with q | q
      · exact q
      · rw [List.getElem?_append_right q] at hv
        have := List.eq_of_mem_replicate (List.mem_of_getElem? hv)
        cases this
    rw [List.getElem?_append_left hi] at hv
    have := hl.2.2 _ (am_ent_args ad vs 0 i v hv)
    simpa using this
theorem am_nar {z : Int} {ret : Option FieldType} {ty : FieldType} (h : ret = some .int ∨ (ret = some .boolean ∧ (z = 0 ∨ z = 1))) (hr : ret = some ty) : narrow ty (.int (Int32.ofInt z)) = .int (Int32.ofInt z) := by
  rcases h with h | ⟨h, h2 | h2⟩
  · rw [h] at hr; cases hr; rfl
  · rw [h] at hr; cases hr; subst h2; rfl
  · rw [h] at hr; cases hr; subst h2; rfl
/-- a method that answers an int (or a boolean) -/
theorem ami_intro {d : Nat} {y : MethodName} {cc : ByteArray} {nL : Nat} {ret : Option FieldType} {vs : List AV} {S : Mem} {post : Int → Mem → Prop} {L : List (Option AV)} (hy : plainName y.cls = true) (hret : ret = some .int ∨ ret = some .boolean) (hL : am_ent vs ++ List.replicate (nL - (am_ent vs).length) none = L) (hlen : (am_ent vs).length ≤ nL)
    (k : ∀ X : AMX, CX X d y.cls cc nL → (∀ (pc : Nat) (L : List (Option AV)) (z : Int) (S' : Mem), decode cc pc = .ok (.ireturn, 1) → (ret = some .int ∨ (ret = some .boolean ∧ (z = 0 ∨ z = 1))) → post z S' → AW X cc nL pc L [.inl z] S') → AW X cc nL 0 L [] S) : AMi d y cc nL ret vs S post := by
  intro l dC dI dA ad sz
  refine am_body hy hL hlen (fun X C hq => k X C (fun pc L z S' hd hz hp => hq pc L [.inl z] S' (some (.int (Int32.ofInt z))) rfl (fun s t args H locs hP hS ht => ⟨⟨Int32.ofInt z, (z, S'), rfl, ⟨rfl, hp⟩, by cases ht; exact hP⟩, hS.F ht⟩) (Or.inl ⟨_, rfl, ?_⟩)))
  rcases hret with h | h
  · exact ⟨.int, h, am_nar hz h, hd⟩
  · exact ⟨.boolean, h, am_nar hz h, hd⟩
theorem aml_intro {d : Nat} {y : MethodName} {cc : ByteArray} {nL : Nat} {vs : List AV} {S : Mem} {post : Int → Mem → Prop} {L : List (Option AV)} (hy : plainName y.cls = true) (hL : am_ent vs ++ List.replicate (nL - (am_ent vs).length) none = L) (hlen : (am_ent vs).length ≤ nL)
    (k : ∀ X : AMX, CX X d y.cls cc nL → (∀ (pc : Nat) (L : List (Option AV)) (z : Int) (S' : Mem), decode cc pc = .ok (.lreturn, 1) → post z S' → AW X cc nL pc L [.inr (.inl z)] S') → AW X cc nL 0 L [] S) : AMl d y cc nL (some .long) vs S post := by
  intro l dC dI dA ad sz
  exact am_body hy hL hlen (fun X C hq => k X C (fun pc L z S' hd hp => hq pc L [.inr (.inl z)] S' (some (.long (Int64.ofInt z))) rfl (fun s t args H locs hP hS ht => ⟨⟨Int64.ofInt z, (z, S'), rfl, ⟨rfl, hp⟩, by cases ht; exact hP⟩, hS.F ht⟩) (Or.inr (Or.inl ⟨_, rfl, rfl, hd⟩))))
theorem amv_intro {d : Nat} {y : MethodName} {cc : ByteArray} {nL : Nat} {vs : List AV} {S : Mem} {post : Mem → Prop} {L : List (Option AV)} (hy : plainName y.cls = true) (hL : am_ent vs ++ List.replicate (nL - (am_ent vs).length) none = L) (hlen : (am_ent vs).length ≤ nL)
    (k : ∀ X : AMX, CX X d y.cls cc nL → (∀ (pc : Nat) (L : List (Option AV)) (S' : Mem), decode cc pc = .ok (.return_, 1) → post S' → AW X cc nL pc L [] S') → AW X cc nL 0 L [] S) : AMv d y cc nL vs S post := by
  intro l dC dI dA ad sz
  exact am_body hy hL hlen (fun X C hq => k X C (fun pc L S' hd hp => hq pc L [] S' none rfl (fun s t args H locs hP hS ht => ⟨⟨S', rfl, hp, by cases ht; exact hP⟩, hS.F ht⟩) (Or.inr (Or.inr ⟨rfl, rfl, hd⟩))))
/-- a method's own words -/
def am_MB (y : MethodName) (cy : ByteArray) (nLy : Nat) (ret : Option FieldType) (np : Nat) : Prop := Cond.code y cy nLy ret ∈ am_BW ∧ Cond.initialized y.cls ∈ am_BW ∧ (y.cls ≠ "java/lang/invoke/MethodHandle" ∧ y.cls ≠ "java/lang/invoke/VarHandle" ∧ (parseMethodDescriptor y.desc).map (fun d => d.parameters.length) = some np) ∧ nLy ≤ 41
def am_MV (y : MethodName) (cy : ByteArray) (nLy : Nat) (ret : Option FieldType) (np : Nat) : Prop := am_MB y cy nLy ret np ∧ Cond.instanceMethod y ∈ am_BW ∧ Cond.selects y.cls y y ∈ am_BW
def am_MS (y : MethodName) (cy : ByteArray) (nLy : Nat) (ret : Option FieldType) (np : Nat) : Prop := am_MB y cy nLy ret np ∧ Cond.static y ∈ am_BW
theorem am_good_code {y : MethodName} {cy : ByteArray} {nLy : Nat} {ret : Option FieldType} (h : Cond.code y cy nLy ret ∈ am_BW) : GoodIn am_BW (Cond.code y cy nLy ret :: am_BW) := fun w hw => by
  rcases List.mem_cons.mp hw with rfl | hw
  · exact am_BW_self _ h
  · exact am_BW_self _ hw
theorem am_good_V {own : String} {idx : Nat} {y : MethodName} {cy : ByteArray} {nLy : Nat} {ret : Option FieldType} {np : Nat} (h : am_MV y cy nLy ret np) (hl : Cond.methodLink own idx y ∈ am_BW) : GoodIn am_BW (wsV own idx y.cls y (Cond.code y cy nLy ret :: am_BW)) := fun w hw => by
  obtain ⟨⟨h1, h2, -⟩, h3, h4⟩ := h
  unfold wsV at hw
  rcases List.mem_append.mp hw with hw | hw
  · simp only [List.mem_cons, List.not_mem_nil, or_false] at hw
    rcases hw with rfl | rfl | rfl | rfl
    · exact am_BW_self _ hl
    · exact am_BW_self _ h3
    · exact am_BW_self _ h4
    · exact am_BW_self _ h2
  · exact am_good_code h1 w hw
theorem am_good_S {own : String} {idx : Nat} {y : MethodName} {cy : ByteArray} {nLy : Nat} {ret : Option FieldType} {np : Nat} (h : am_MS y cy nLy ret np) (hl : Cond.methodLink own idx y ∈ am_BW) : GoodIn am_BW (va_wsS own idx y (Cond.code y cy nLy ret :: am_BW)) := fun w hw => by
  obtain ⟨⟨h1, h2, -⟩, h3⟩ := h
  unfold va_wsS at hw
  rcases List.mem_append.mp hw with hw | hw
  · simp only [List.mem_cons, List.not_mem_nil, or_false] at hw
    rcases hw with rfl | rfl | rfl
    · exact am_BW_self _ hl
    · exact am_BW_self _ h3
    · exact am_BW_self _ h2
  · exact am_good_code h1 w hw
theorem am_blind {av : List Value} {dC : Nat → ClassId} {dI : Nat → Nat → Nat} {dA : Nat → ClassId} {ad : Nat → Nat} {sz : Nat} {S : Mem} : FrameBlind (va_Pc av (am_Pre dC dI dA ad sz S)) := fun a U g mk q => by
  obtain ⟨q0, q1, qP, qK, qD, qN⟩ := q
  exact ⟨q0, q1, qP, va_K.moved (u := U) (U := U.calling g mk a) (Vm.Alike.refl U.vm) qK, qD, va_Nw.same rfl (u := U) (U := U.calling g mk a) rfl qN⟩
theorem am_pre_in {s U : State} {H : Heap} {A : Nat → Prop} {dC : Nat → ClassId} {dI : Nat → Nat → Nat} {dA : Nat → ClassId} {ad : Nat → Nat} {S : Mem} (hP : va_P (dC, dI) vwCl (am_W dA ad S) H) (hK : va_K (dC, dI) vwCl (am_ty dA) s) (hD : va_D A (am_W dA ad S)) (hN : va_Nw am_NW s) (hU : U.heap = H) (hW : s.WarmedH U.vm) : am_Pre dC dI dA ad H.size S U := ⟨by rw [hU], by rw [hU]; exact hP, va_K.moved hW.alike hK, hD.weaken (fun _ _ _ _ => trivial), va_Nw.warmM hW hN⟩
theorem am_free {s : State} {H : Heap} {locs : List Loc} {A : Nat → Prop} {dA : Nat → ClassId} {ad : Nat → Nat} {S : Mem} (hD : va_D A (am_W dA ad S)) (hS : va_S A s.heap H locs) (hA : ∀ q, s.heap.size ≤ q → A q) : ∀ q, va_A (am_W dA ad S) H.size q → A q := by
  intro q h
  rcases h with ⟨k, e, h⟩ | h
  · exact hD.2 k (q, e) h
  · exact hA q (Nat.le_trans hS.1 h)
theorem am_recv {s : State} {H : Heap} {dC : Nat → ClassId} {dI : Nat → Nat → Nat} {dA : Nat → ClassId} {ad : Nat → Nat} {S : Mem} {c ci : Nat} {y : MethodName} (hK : va_K (dC, dI) vwCl (am_ty dA) s) (hP : va_P (dC, dI) vwCl (am_W dA ad S) H) (hs : shk c = .inl ci) (hc : (vwCl[ci]?).map (fun q => q.1) = some y.cls) : ∃ cell : Cell, H[ad c]? = some cell ∧ cell.vm.isStatics = false ∧ s.vm.findClass y.cls = some cell.cls := by
  cases hq : vwCl[ci]? with
  | none => rw [hq] at hc; cases hc
  | some q =>
    rw [hq] at hc
    have e : q.1 = y.cls := Option.some.inj hc
    rw [← e]
    exact va_recv hK hP hq ((am_W_at (am_lt_o hs)).trans (by rw [am_E_o hs]))
section AM3
variable {X : AMX} {d pc n nL : Nat} {own : String} {cc : ByteArray} {L : List (Option AV)} {st : List AV} {S : Mem}
variable {y : MethodName} {cy : ByteArray} {nLy np dy idx c ci : Nat} {ret : Option FieldType} {vs stk : List AV}
theorem aw_cVi {post : Int → Mem → Prop} (C : CX X d own cc nL) (hd : decode cc pc = .ok (.invokevirtual idx, 3)) (hn : pc + 3 = n) (hst : stk = vs.reverse ++ .inr (.inr c) :: st) (hnp : vs.length = np) (hY : am_MV y cy nLy ret np) (hlk : Cond.methodLink own idx y ∈ am_BW) (hs : shk c = .inl ci) (hc : (vwCl[ci]?).map (fun q => q.1) = some y.cls) (hroom : (st.map am_cat).sum ≤ 8) (hM : AMi dy y cy nLy ret (.inr (.inr c) :: vs) S post) (hdd : dy < d) (k : ∀ (z : Int) (S' : Mem), post z S' → AW X cc nL n L (.inl z :: st) S') : AW X cc nL pc L stk S := by
  obtain ⟨p, l, e, R, s, m, args, below, meth, c0, cells, slots, Q, dC, dI, dA, ad, A⟩ := X
  obtain ⟨hx, hb, hml, hown, hts, hK, hD, hA, hNw, hfr, hlo, hce, hsl⟩ := C
  subst hn; subst hst; subst hnp
  intro H locs ls hP hS hl
  have hF := am_free (hD S) hS hA
  have hlY := hY.1.2.2.2
  refine va_calli (va_runV (b := ad c) (C := y.cls) (As := vs.map (am_v ad)) (rest := st.map (am_v ad)) ⟨hx, hb, hml, hown, hts⟩ (hM l dC dI dA ad H.size) (cwV vs.length hts (am_good_V hY hlk) rfl rfl rfl ⟨rfl, hY.1.2.2.1⟩ ⟨by show dy + 1 ≤ _; omega, by show 8 + (nLy + 11) + 60 * dy ≤ _; omega⟩) ⟨am_blind, am_recv hK hP hs hc, fun U hU hW => ⟨rfl, am_pre_in hP hK (hD S) hNw hU hW⟩⟩ rfl (by simp) hl.1.1 (by simp [am_v]) (lv_room (by rw [am_cats]; exact hroom)) hd ⟨hce, hsl⟩) hS (fun q _ h => hF q h) hF (fun r u t H1 locs1 ht hvm hw hB hz1 hk1 hS1 => ?_)
  obtain ⟨rfl, hp⟩ := hw
  rw [ht] at hB
  exact k u.1 u.2 hp H1 locs1 ls hB hS1 hl
theorem aw_cVl {post : Int → Mem → Prop} (C : CX X d own cc nL) (hd : decode cc pc = .ok (.invokevirtual idx, 3)) (hn : pc + 3 = n) (hst : stk = vs.reverse ++ .inr (.inr c) :: st) (hnp : vs.length = np) (hY : am_MV y cy nLy ret np) (hlk : Cond.methodLink own idx y ∈ am_BW) (hs : shk c = .inl ci) (hc : (vwCl[ci]?).map (fun q => q.1) = some y.cls) (hroom : (st.map am_cat).sum ≤ 8) (hM : AMl dy y cy nLy ret (.inr (.inr c) :: vs) S post) (hdd : dy < d) (k : ∀ (z : Int) (S' : Mem), post z S' → AW X cc nL n L (.inr (.inl z) :: st) S') : AW X cc nL pc L stk S := by
  obtain ⟨p, l, e, R, s, m, args, below, meth, c0, cells, slots, Q, dC, dI, dA, ad, A⟩ := X
  obtain ⟨hx, hb, hml, hown, hts, hK, hD, hA, hNw, hfr, hlo, hce, hsl⟩ := C
  subst hn; subst hst; subst hnp
  intro H locs ls hP hS hl
  have hF := am_free (hD S) hS hA
  have hlY := hY.1.2.2.2
  refine va_calll (va_runV (b := ad c) (C := y.cls) (As := vs.map (am_v ad)) (rest := st.map (am_v ad)) ⟨hx, hb, hml, hown, hts⟩ (hM l dC dI dA ad H.size) (cwV vs.length hts (am_good_V hY hlk) rfl rfl rfl ⟨rfl, hY.1.2.2.1⟩ ⟨by show dy + 1 ≤ _; omega, by show 8 + (nLy + 11) + 60 * dy ≤ _; omega⟩) ⟨am_blind, am_recv hK hP hs hc, fun U hU hW => ⟨rfl, am_pre_in hP hK (hD S) hNw hU hW⟩⟩ rfl (by simp) hl.1.1 (by simp [am_v]) (lv_room (by rw [am_cats]; exact hroom)) hd ⟨hce, hsl⟩) hS (fun q _ h => hF q h) hF (fun r u t H1 locs1 ht hvm hw hB hz1 hk1 hS1 => ?_)
  obtain ⟨rfl, hp⟩ := hw
  rw [ht] at hB
  exact k u.1 u.2 hp H1 locs1 ls hB hS1 hl
theorem aw_cVv {post : Mem → Prop} (C : CX X d own cc nL) (hd : decode cc pc = .ok (.invokevirtual idx, 3)) (hn : pc + 3 = n) (hst : stk = vs.reverse ++ .inr (.inr c) :: st) (hnp : vs.length = np) (hY : am_MV y cy nLy none np) (hlk : Cond.methodLink own idx y ∈ am_BW) (hs : shk c = .inl ci) (hc : (vwCl[ci]?).map (fun q => q.1) = some y.cls) (hroom : (st.map am_cat).sum ≤ 8) (hM : AMv dy y cy nLy (.inr (.inr c) :: vs) S post) (hdd : dy < d) (k : ∀ (S' : Mem), post S' → AW X cc nL n L st S') : AW X cc nL pc L stk S := by
  obtain ⟨p, l, e, R, s, m, args, below, meth, c0, cells, slots, Q, dC, dI, dA, ad, A⟩ := X
  obtain ⟨hx, hb, hml, hown, hts, hK, hD, hA, hNw, hfr, hlo, hce, hsl⟩ := C
  subst hn; subst hst; subst hnp
  intro H locs ls hP hS hl
  have hF := am_free (hD S) hS hA
  have hlY := hY.1.2.2.2
  refine va_callv (va_runV (b := ad c) (C := y.cls) (As := vs.map (am_v ad)) (rest := st.map (am_v ad)) ⟨hx, hb, hml, hown, hts⟩ (hM l dC dI dA ad H.size) (cwV vs.length hts (am_good_V hY hlk) rfl rfl rfl ⟨rfl, hY.1.2.2.1⟩ ⟨by show dy + 1 ≤ _; omega, by show 8 + (nLy + 11) + 60 * dy ≤ _; omega⟩) ⟨am_blind, am_recv hK hP hs hc, fun U hU hW => ⟨rfl, am_pre_in hP hK (hD S) hNw hU hW⟩⟩ rfl (by simp) hl.1.1 (by simp [am_v]) (lv_room (by rw [am_cats]; exact hroom)) hd ⟨hce, hsl⟩) hS (fun q _ h => hF q h) hF (fun u t H1 locs1 ht hvm hw hB hz1 hk1 hS1 => ?_)
  rw [ht] at hB
  exact k u hw H1 locs1 ls hB hS1 hl
theorem aw_cSi {post : Int → Mem → Prop} (C : CX X d own cc nL) (hd : decode cc pc = .ok (.invokestatic idx, 3)) (hn : pc + 3 = n) (hst : stk = vs.reverse ++ st) (hnp : vs.length = np) (hY : am_MS y cy nLy ret np) (hlk : Cond.methodLink own idx y ∈ am_BW) (hroom : (st.map am_cat).sum ≤ 8) (hM : AMi dy y cy nLy ret vs S post) (hdd : dy < d) (k : ∀ (z : Int) (S' : Mem), post z S' → AW X cc nL n L (.inl z :: st) S') : AW X cc nL pc L stk S := by
  obtain ⟨p, l, e, R, s, m, args, below, meth, c0, cells, slots, Q, dC, dI, dA, ad, A⟩ := X
  obtain ⟨hx, hb, hml, hown, hts, hK, hD, hA, hNw, hfr, hlo, hce, hsl⟩ := C
  subst hn; subst hst; subst hnp
  intro H locs ls hP hS hl
  have hF := am_free (hD S) hS hA
  have hlY := hY.1.2.2.2
  refine va_calli (va_runS (As := vs.map (am_v ad)) (rest := st.map (am_v ad)) ⟨hx, hb, hml, hown, hts⟩ (hM l dC dI dA ad H.size) (va_cwS vs.length hts (am_good_S hY hlk) rfl rfl rfl hY.1.2.2.1 ⟨by show dy + 1 ≤ _; omega, by show 8 + (nLy + 11) + 60 * dy ≤ _; omega⟩) ⟨am_blind, fun U hU hW => ⟨rfl, am_pre_in hP hK (hD S) hNw hU hW⟩⟩ rfl (by simp) hl.1.1 (by simp) (lv_room (by rw [am_cats]; exact hroom)) hd ⟨hce, hsl⟩) hS (fun q _ h => hF q h) hF (fun r u t H1 locs1 ht hvm hw hB hz1 hk1 hS1 => ?_)
  obtain ⟨rfl, hp⟩ := hw
  rw [ht] at hB
  exact k u.1 u.2 hp H1 locs1 ls hB hS1 hl
theorem aw_cSl {post : Int → Mem → Prop} (C : CX X d own cc nL) (hd : decode cc pc = .ok (.invokestatic idx, 3)) (hn : pc + 3 = n) (hst : stk = vs.reverse ++ st) (hnp : vs.length = np) (hY : am_MS y cy nLy ret np) (hlk : Cond.methodLink own idx y ∈ am_BW) (hroom : (st.map am_cat).sum ≤ 8) (hM : AMl dy y cy nLy ret vs S post) (hdd : dy < d) (k : ∀ (z : Int) (S' : Mem), post z S' → AW X cc nL n L (.inr (.inl z) :: st) S') : AW X cc nL pc L stk S := by
  obtain ⟨p, l, e, R, s, m, args, below, meth, c0, cells, slots, Q, dC, dI, dA, ad, A⟩ := X
  obtain ⟨hx, hb, hml, hown, hts, hK, hD, hA, hNw, hfr, hlo, hce, hsl⟩ := C
  subst hn; subst hst; subst hnp
  intro H locs ls hP hS hl
  have hF := am_free (hD S) hS hA
  have hlY := hY.1.2.2.2
  refine va_calll (va_runS (As := vs.map (am_v ad)) (rest := st.map (am_v ad)) ⟨hx, hb, hml, hown, hts⟩ (hM l dC dI dA ad H.size) (va_cwS vs.length hts (am_good_S hY hlk) rfl rfl rfl hY.1.2.2.1 ⟨by show dy + 1 ≤ _; omega, by show 8 + (nLy + 11) + 60 * dy ≤ _; omega⟩) ⟨am_blind, fun U hU hW => ⟨rfl, am_pre_in hP hK (hD S) hNw hU hW⟩⟩ rfl (by simp) hl.1.1 (by simp) (lv_room (by rw [am_cats]; exact hroom)) hd ⟨hce, hsl⟩) hS (fun q _ h => hF q h) hF (fun r u t H1 locs1 ht hvm hw hB hz1 hk1 hS1 => ?_)
  obtain ⟨rfl, hp⟩ := hw
  rw [ht] at hB
  exact k u.1 u.2 hp H1 locs1 ls hB hS1 hl
theorem aw_cSv {post : Mem → Prop} (C : CX X d own cc nL) (hd : decode cc pc = .ok (.invokestatic idx, 3)) (hn : pc + 3 = n) (hst : stk = vs.reverse ++ st) (hnp : vs.length = np) (hY : am_MS y cy nLy none np) (hlk : Cond.methodLink own idx y ∈ am_BW) (hroom : (st.map am_cat).sum ≤ 8) (hM : AMv dy y cy nLy vs S post) (hdd : dy < d) (k : ∀ (S' : Mem), post S' → AW X cc nL n L st S') : AW X cc nL pc L stk S := by
  obtain ⟨p, l, e, R, s, m, args, below, meth, c0, cells, slots, Q, dC, dI, dA, ad, A⟩ := X
  obtain ⟨hx, hb, hml, hown, hts, hK, hD, hA, hNw, hfr, hlo, hce, hsl⟩ := C
  subst hn; subst hst; subst hnp
  intro H locs ls hP hS hl
  have hF := am_free (hD S) hS hA
  have hlY := hY.1.2.2.2
  refine va_callv (va_runS (As := vs.map (am_v ad)) (rest := st.map (am_v ad)) ⟨hx, hb, hml, hown, hts⟩ (hM l dC dI dA ad H.size) (va_cwS vs.length hts (am_good_S hY hlk) rfl rfl rfl hY.1.2.2.1 ⟨by show dy + 1 ≤ _; omega, by show 8 + (nLy + 11) + 60 * dy ≤ _; omega⟩) ⟨am_blind, fun U hU hW => ⟨rfl, am_pre_in hP hK (hD S) hNw hU hW⟩⟩ rfl (by simp) hl.1.1 (by simp) (lv_room (by rw [am_cats]; exact hroom)) hd ⟨hce, hsl⟩) hS (fun q _ h => hF q h) hF (fun u t H1 locs1 ht hvm hw hB hz1 hk1 hS1 => ?_)
  rw [ht] at hB
  exact k u hw H1 locs1 ls hB hS1 hl
/-- the one call over a nest link: Seating's of noClass -/
theorem aw_cNest {post : Int → Mem → Prop} (C : CX X d RX2 cc nL) (hd : decode cc pc = .ok (.invokestatic 31, 3)) (hn : pc + 3 = n) (hst : stk = vs.reverse ++ st) (hnp : vs.length = np) (hY : am_MS yX6_noClass cy nLy ret np) (hroom : (st.map am_cat).sum ≤ 8) (hM : AMi dy yX6_noClass cy nLy ret vs S post) (hdd : dy < d) (k : ∀ (z : Int) (S' : Mem), post z S' → AW X cc nL n L (.inl z :: st) S') : AW X cc nL pc L stk S := by
  obtain ⟨p, l, e, R, s, m, args, below, meth, c0, cells, slots, Q, dC, dI, dA, ad, A⟩ := X
  obtain ⟨hx, hb, hml, hown, hts, hK, hD, hA, hNw, hfr, hlo, hce, hsl⟩ := C
  subst hn; subst hst; subst hnp
  intro H locs ls hP hS hl
  have hF := am_free (hD S) hS hA
  have hlY := hY.1.2.2.2
  refine va_calli (va_runSN (As := vs.map (am_v ad)) (rest := st.map (am_v ad)) ⟨hx, hb, hml, hown, hts⟩ (hM l dC dI dA ad H.size) ⟨va_cnB vs.length hts (am_good_code hY.1.1) rfl rfl rfl hNw (hts _ hY.1.2.1) hY.1.2.2.1 ⟨by show dy + 1 ≤ _; omega, by show 8 + (nLy + 11) + 60 * dy ≤ _; omega⟩, hts _ hY.2, trivial⟩ ⟨am_blind, fun U hU hW => ⟨rfl, am_pre_in hP hK (hD S) hNw hU hW⟩⟩ rfl (by simp) hl.1.1 (by simp) (lv_room (by rw [am_cats]; exact hroom)) hd ⟨hce, hsl⟩) hS (fun q _ h => hF q h) hF (fun r u t H1 locs1 ht hvm hw hB hz1 hk1 hS1 => ?_)
  obtain ⟨rfl, hp⟩ := hw
  rw [ht] at hB
  exact k u.1 u.2 hp H1 locs1 ls hB hS1 hl
end AM3
end
section
theorem mm_X6_line : am_MV yX6_line cX6_line 7 (some .int) 4 := ⟨⟨wC_yX6_line, wI_X6, by decide +kernel, by decide⟩, wN_yX6_line, wE_yX6_line⟩
theorem mm_X6_noSheet : am_MS yX6_noSheet cX6_noSheet 1 (some .boolean) 1 := ⟨⟨wC_yX6_noSheet, wI_X6, by decide +kernel, by decide⟩, wS_yX6_noSheet⟩
theorem mm_X6_noLane : am_MS yX6_noLane cX6_noLane 1 (some .boolean) 1 := ⟨⟨wC_yX6_noLane, wI_X6, by decide +kernel, by decide⟩, wS_yX6_noLane⟩
theorem mm_X3_faultOfCells : am_MV yX3_faultOfCells cX3_faultOfCells 5 (some .int) 3 := ⟨⟨wC_yX3_faultOfCells, wI_X3, by decide +kernel, by decide⟩, wN_yX3_faultOfCells, wE_yX3_faultOfCells⟩
theorem mm_X3_faultOfRow : am_MV yX3_faultOfRow cX3_faultOfRow 2 (some .int) 1 := ⟨⟨wC_yX3_faultOfRow, wI_X3, by decide +kernel, by decide⟩, wN_yX3_faultOfRow, wE_yX3_faultOfRow⟩
theorem mm_X3_hasNothing : am_MV yX3_hasNothing cX3_hasNothing 1 (some .boolean) 0 := ⟨⟨wC_yX3_hasNothing, wI_X3, by decide +kernel, by decide⟩, wN_yX3_hasNothing, wE_yX3_hasNothing⟩
theorem mm_X3_lacksCells : am_MV yX3_lacksCells cX3_lacksCells 3 (some .boolean) 2 := ⟨⟨wC_yX3_lacksCells, wI_X3, by decide +kernel, by decide⟩, wN_yX3_lacksCells, wE_yX3_lacksCells⟩
theorem mm_X4_firstFault : am_MS yX4_firstFault cX4_firstFault 6 (some .int) 3 := ⟨⟨wC_yX4_firstFault, wI_X4, by decide +kernel, by decide⟩, wS_yX4_firstFault⟩
theorem mm_X4_fitsHead : am_MS yX4_fitsHead cX4_fitsHead 2 (some .boolean) 2 := ⟨⟨wC_yX4_fitsHead, wI_X4, by decide +kernel, by decide⟩, wS_yX4_fitsHead⟩
theorem mm_X4_isDigit : am_MS yX4_isDigit cX4_isDigit 2 (some .boolean) 2 := ⟨⟨wC_yX4_isDigit, wI_X4, by decide +kernel, by decide⟩, wS_yX4_isDigit⟩
theorem mm_X4_isMile : am_MS yX4_isMile cX4_isMile 1 (some .boolean) 1 := ⟨⟨wC_yX4_isMile, wI_X4, by decide +kernel, by decide⟩, wS_yX4_isMile⟩
theorem mm_X4_fitsPassenger : am_MS yX4_fitsPassenger cX4_fitsPassenger 2 (some .boolean) 2 := ⟨⟨wC_yX4_fitsPassenger, wI_X4, by decide +kernel, by decide⟩, wS_yX4_fitsPassenger⟩
theorem mm_X4_kindOf : am_MS yX4_kindOf cX4_kindOf 1 (some .int) 1 := ⟨⟨wC_yX4_kindOf, wI_X4, by decide +kernel, by decide⟩, wS_yX4_kindOf⟩
theorem mm_X5_readFrom : am_MV yX5_readFrom cX5_readFrom 6 none 3 := ⟨⟨wC_yX5_readFrom, wI_X5, by decide +kernel, by decide⟩, wN_yX5_readFrom, wE_yX5_readFrom⟩
theorem mm_J7_fill_53178 : am_MS yJ7_fill_53178 cJ7_fill_53178 4 none 2 := ⟨⟨wC_yJ7_fill_53178, wI_J7, by decide +kernel, by decide⟩, wS_yJ7_fill_53178⟩
theorem mm_X6_rideAnew : am_MV yX6_rideAnew cX6_rideAnew 1 none 0 := ⟨⟨wC_yX6_rideAnew, wI_X6, by decide +kernel, by decide⟩, wN_yX6_rideAnew, wE_yX6_rideAnew⟩
theorem mm_X5_rideAll : am_MV yX5_rideAll cX5_rideAll 1 none 0 := ⟨⟨wC_yX5_rideAll, wI_X5, by decide +kernel, by decide⟩, wN_yX5_rideAll, wE_yX5_rideAll⟩
theorem mm_X5_rideFrom : am_MV yX5_rideFrom cX5_rideFrom 3 none 1 := ⟨⟨wC_yX5_rideFrom, wI_X5, by decide +kernel, by decide⟩, wN_yX5_rideFrom, wE_yX5_rideFrom⟩
theorem mm_X5_rideThrough : am_MV yX5_rideThrough cX5_rideThrough 6 none 1 := ⟨⟨wC_yX5_rideThrough, wI_X5, by decide +kernel, by decide⟩, wN_yX5_rideThrough, wE_yX5_rideThrough⟩
theorem mm_X5_regretBehind : am_MV yX5_regretBehind cX5_regretBehind 5 (some .int) 2 := ⟨⟨wC_yX5_regretBehind, wI_X5, by decide +kernel, by decide⟩, wN_yX5_regretBehind, wE_yX5_regretBehind⟩
theorem mm_J9_min_7cf53 : am_MS yJ9_min_7cf53 cJ9_min_7cf53 2 (some .int) 2 := ⟨⟨wC_yJ9_min_7cf53, wI_J9, by decide +kernel, by decide⟩, wS_yJ9_min_7cf53⟩
theorem mm_J9_max_7cf53 : am_MS yJ9_max_7cf53 cJ9_max_7cf53 2 (some .int) 2 := ⟨⟨wC_yJ9_max_7cf53, wI_J9, by decide +kernel, by decide⟩, wS_yJ9_max_7cf53⟩
theorem mm_X6_ofPassenger : am_MV yX6_ofPassenger cX6_ofPassenger 3 (some .int) 2 := ⟨⟨wC_yX6_ofPassenger, wI_X6, by decide +kernel, by decide⟩, wN_yX6_ofPassenger, wE_yX6_ofPassenger⟩
theorem mm_X6_noPassenger : am_MV yX6_noPassenger cX6_noPassenger 2 (some .boolean) 1 := ⟨⟨wC_yX6_noPassenger, wI_X6, by decide +kernel, by decide⟩, wN_yX6_noPassenger, wE_yX6_noPassenger⟩
theorem mm_X6_seats : am_MV yX6_seats cX6_seats 4 (some .int) 2 := ⟨⟨wC_yX6_seats, wI_X6, by decide +kernel, by decide⟩, wN_yX6_seats, wE_yX6_seats⟩
theorem mm_X6_noLine : am_MV yX6_noLine cX6_noLine 1 (some .boolean) 0 := ⟨⟨wC_yX6_noLine, wI_X6, by decide +kernel, by decide⟩, wN_yX6_noLine, wE_yX6_noLine⟩
theorem mm_X6_noClass : am_MS yX6_noClass cX6_noClass 1 (some .boolean) 1 := ⟨⟨wC_yX6_noClass, wI_X6, by decide +kernel, by decide⟩, wS_yX6_noClass⟩
theorem mm_X6_limits : am_MV yX6_limits cX6_limits 4 (some .int) 2 := ⟨⟨wC_yX6_limits, wI_X6, by decide +kernel, by decide⟩, wN_yX6_limits, wE_yX6_limits⟩
theorem mm_X6_dig : am_MV yX6_dig cX6_dig 3 (some .int) 2 := ⟨⟨wC_yX6_dig, wI_X6, by decide +kernel, by decide⟩, wN_yX6_dig, wE_yX6_dig⟩
theorem mm_X6_noMile : am_MV yX6_noMile cX6_noMile 2 (some .boolean) 1 := ⟨⟨wC_yX6_noMile, wI_X6, by decide +kernel, by decide⟩, wN_yX6_noMile, wE_yX6_noMile⟩
theorem mm_X6_talk : am_MV yX6_talk cX6_talk 6 (some .int) 3 := ⟨⟨wC_yX6_talk, wI_X6, by decide +kernel, by decide⟩, wN_yX6_talk, wE_yX6_talk⟩
theorem mm_X6_noPair : am_MV yX6_noPair cX6_noPair 3 (some .boolean) 2 := ⟨⟨wC_yX6_noPair, wI_X6, by decide +kernel, by decide⟩, wN_yX6_noPair, wE_yX6_noPair⟩
theorem mm_X6_regret : am_MV yX6_regret cX6_regret 3 (some .int) 2 := ⟨⟨wC_yX6_regret, wI_X6, by decide +kernel, by decide⟩, wN_yX6_regret, wE_yX6_regret⟩
theorem mm_X6_noMileNorEnd : am_MV yX6_noMileNorEnd cX6_noMileNorEnd 2 (some .boolean) 1 := ⟨⟨wC_yX6_noMileNorEnd, wI_X6, by decide +kernel, by decide⟩, wN_yX6_noMileNorEnd, wE_yX6_noMileNorEnd⟩
theorem mm_X5_regretAhead : am_MV yX5_regretAhead cX5_regretAhead 3 (some .int) 2 := ⟨⟨wC_yX5_regretAhead, wI_X5, by decide +kernel, by decide⟩, wN_yX5_regretAhead, wE_yX5_regretAhead⟩
theorem mm_X6_due : am_MV yX6_due cX6_due 3 (some .int) 2 := ⟨⟨wC_yX6_due, wI_X6, by decide +kernel, by decide⟩, wN_yX6_due, wE_yX6_due⟩
theorem mm_X5_classDue : am_MV yX5_classDue cX5_classDue 4 (some .int) 2 := ⟨⟨wC_yX5_classDue, wI_X5, by decide +kernel, by decide⟩, wN_yX5_classDue, wE_yX5_classDue⟩
theorem mm_X6_seating : am_MV yX6_seating cX6_seating 6 (some .int) 5 := ⟨⟨wC_yX6_seating, wI_X6, by decide +kernel, by decide⟩, wN_yX6_seating, wE_yX6_seating⟩
theorem mm_X6_noQuestionOfSeating : am_MS yX6_noQuestionOfSeating cX6_noQuestionOfSeating 3 (some .boolean) 1 := ⟨⟨wC_yX6_noQuestionOfSeating, wI_X6, by decide +kernel, by decide⟩, wS_yX6_noQuestionOfSeating⟩
theorem mm_X2_readFrom : am_MV yX2_readFrom cX2_readFrom 5 (some .boolean) 2 := ⟨⟨wC_yX2_readFrom, wI_X2, by decide +kernel, by decide⟩, wN_yX2_readFrom, wE_yX2_readFrom⟩
theorem mm_X6_ofSeating : am_MV yX6_ofSeating cX6_ofSeating 3 (some .int) 1 := ⟨⟨wC_yX6_ofSeating, wI_X6, by decide +kernel, by decide⟩, wN_yX6_ofSeating, wE_yX6_ofSeating⟩
theorem mm_X2_firstWrong : am_MV yX2_firstWrong cX2_firstWrong 4 (some .int) 0 := ⟨⟨wC_yX2_firstWrong, wI_X2, by decide +kernel, by decide⟩, wN_yX2_firstWrong, wE_yX2_firstWrong⟩
theorem mm_X2_classOf : am_MV yX2_classOf cX2_classOf 3 (some .int) 2 := ⟨⟨wC_yX2_classOf, wI_X2, by decide +kernel, by decide⟩, wN_yX2_classOf, wE_yX2_classOf⟩
theorem mm_X2_countChanges : am_MV yX2_countChanges cX2_countChanges 4 (some .int) 0 := ⟨⟨wC_yX2_countChanges, wI_X2, by decide +kernel, by decide⟩, wN_yX2_countChanges, wE_yX2_countChanges⟩
theorem mm_X2_countLow : am_MV yX2_countLow cX2_countLow 4 (some .int) 0 := ⟨⟨wC_yX2_countLow, wI_X2, by decide +kernel, by decide⟩, wN_yX2_countLow, wE_yX2_countLow⟩
theorem mm_X2_countAbove : am_MV yX2_countAbove cX2_countAbove 3 (some .int) 0 := ⟨⟨wC_yX2_countAbove, wI_X2, by decide +kernel, by decide⟩, wN_yX2_countAbove, wE_yX2_countAbove⟩
theorem mm_X2_milesAbove : am_MV yX2_milesAbove cX2_milesAbove 4 (some .int) 1 := ⟨⟨wC_yX2_milesAbove, wI_X2, by decide +kernel, by decide⟩, wN_yX2_milesAbove, wE_yX2_milesAbove⟩
theorem mm_X6_ease : am_MV yX6_ease cX6_ease 2 (some .int) 1 := ⟨⟨wC_yX6_ease, wI_X6, by decide +kernel, by decide⟩, wN_yX6_ease, wE_yX6_ease⟩
theorem mm_X6_knowLeast : am_MV yX6_knowLeast cX6_knowLeast 1 none 0 := ⟨⟨wC_yX6_knowLeast, wI_X6, by decide +kernel, by decide⟩, wN_yX6_knowLeast, wE_yX6_knowLeast⟩
theorem mm_X0_seek : am_MV yX0_seek cX0_seek 2 none 0 := ⟨⟨wC_yX0_seek, wI_X0, by decide +kernel, by decide⟩, wN_yX0_seek, wE_yX0_seek⟩
theorem mm_X0_weigh : am_MV yX0_weigh cX0_weigh 5 (some .boolean) 1 := ⟨⟨wC_yX0_weigh, wI_X0, by decide +kernel, by decide⟩, wN_yX0_weigh, wE_yX0_weigh⟩
theorem mm_X0_lowIn : am_MV yX0_lowIn cX0_lowIn 8 (some .int) 2 := ⟨⟨wC_yX0_lowIn, wI_X0, by decide +kernel, by decide⟩, wN_yX0_lowIn, wE_yX0_lowIn⟩
theorem mm_X0_lookBack : am_MV yX0_lookBack cX0_lookBack 4 none 1 := ⟨⟨wC_yX0_lookBack, wI_X0, by decide +kernel, by decide⟩, wN_yX0_lookBack, wE_yX0_lookBack⟩
theorem mm_X0_letChange : am_MV yX0_letChange cX0_letChange 5 none 3 := ⟨⟨wC_yX0_letChange, wI_X0, by decide +kernel, by decide⟩, wN_yX0_letChange, wE_yX0_letChange⟩
theorem mm_X0_choose : am_MV yX0_choose cX0_choose 3 none 0 := ⟨⟨wC_yX0_choose, wI_X0, by decide +kernel, by decide⟩, wN_yX0_choose, wE_yX0_choose⟩
theorem mm_X0_firstOfLeast : am_MV yX0_firstOfLeast cX0_firstOfLeast 7 (some .int) 2 := ⟨⟨wC_yX0_firstOfLeast, wI_X0, by decide +kernel, by decide⟩, wN_yX0_firstOfLeast, wE_yX0_firstOfLeast⟩
theorem mm_X0_changesBetween : am_MS yX0_changesBetween cX0_changesBetween 6 (some .int) 2 := ⟨⟨wC_yX0_changesBetween, wI_X0, by decide +kernel, by decide⟩, wS_yX0_changesBetween⟩
theorem mm_X0_write : am_MV yX0_write cX0_write 5 none 2 := ⟨⟨wC_yX0_write, wI_X0, by decide +kernel, by decide⟩, wN_yX0_write, wE_yX0_write⟩
theorem mm_X6_stuck : am_MV yX6_stuck cX6_stuck 1 (some .int) 0 := ⟨⟨wC_yX6_stuck, wI_X6, by decide +kernel, by decide⟩, wN_yX6_stuck, wE_yX6_stuck⟩
theorem mm_X6_help : am_MV yX6_help cX6_help 6 (some .int) 3 := ⟨⟨wC_yX6_help, wI_X6, by decide +kernel, by decide⟩, wN_yX6_help, wE_yX6_help⟩
theorem mm_X5_becomeLike : am_MV yX5_becomeLike cX5_becomeLike 3 none 1 := ⟨⟨wC_yX5_becomeLike, wI_X5, by decide +kernel, by decide⟩, wN_yX5_becomeLike, wE_yX5_becomeLike⟩
theorem mm_X5_dueTogether : am_MV yX5_dueTogether cX5_dueTogether 4 (some .int) 1 := ⟨⟨wC_yX5_dueTogether, wI_X5, by decide +kernel, by decide⟩, wN_yX5_dueTogether, wE_yX5_dueTogether⟩
theorem mm_X6_reading : am_MV yX6_reading cX6_reading 4 (some .int) 3 := ⟨⟨wC_yX6_reading, wI_X6, by decide +kernel, by decide⟩, wN_yX6_reading, wE_yX6_reading⟩
theorem mm_X1_keep : am_MV yX1_keep cX1_keep 4 (some .int) 3 := ⟨⟨wC_yX1_keep, wI_X1, by decide +kernel, by decide⟩, wN_yX1_keep, wE_yX1_keep⟩
theorem mm_X6_back : am_MV yX6_back cX6_back 2 (some .int) 1 := ⟨⟨wC_yX6_back, wI_X6, by decide +kernel, by decide⟩, wN_yX6_back, wE_yX6_back⟩
theorem mm_X6_began : am_MV yX6_began cX6_began 6 (some .int) 2 := ⟨⟨wC_yX6_began, wI_X6, by decide +kernel, by decide⟩, wN_yX6_began, wE_yX6_began⟩
theorem mm_X6_guessIsSo : am_MV yX6_guessIsSo cX6_guessIsSo 1 (some .boolean) 0 := ⟨⟨wC_yX6_guessIsSo, wI_X6, by decide +kernel, by decide⟩, wN_yX6_guessIsSo, wE_yX6_guessIsSo⟩
theorem mm_X1_areSo : am_MV yX1_areSo cX1_areSo 3 (some .boolean) 1 := ⟨⟨wC_yX1_areSo, wI_X1, by decide +kernel, by decide⟩, wN_yX1_areSo, wE_yX1_areSo⟩
theorem mm_X6_kinds : am_MV yX6_kinds cX6_kinds 4 (some .int) 1 := ⟨⟨wC_yX6_kinds, wI_X6, by decide +kernel, by decide⟩, wN_yX6_kinds, wE_yX6_kinds⟩
theorem mm_X6_fadings : am_MV yX6_fadings cX6_fadings 4 (some .int) 1 := ⟨⟨wC_yX6_fadings, wI_X6, by decide +kernel, by decide⟩, wN_yX6_fadings, wE_yX6_fadings⟩
theorem mm_X6_odds : am_MV yX6_odds cX6_odds 6 (some .long) 3 := ⟨⟨wC_yX6_odds, wI_X6, by decide +kernel, by decide⟩, wN_yX6_odds, wE_yX6_odds⟩
theorem mm_X6_waysToBeDue : am_MV yX6_waysToBeDue cX6_waysToBeDue 5 (some .int) 3 := ⟨⟨wC_yX6_waysToBeDue, wI_X6, by decide +kernel, by decide⟩, wN_yX6_waysToBeDue, wE_yX6_waysToBeDue⟩
theorem mm_X6_sheet : am_MV yX6_sheet cX6_sheet 4 (some .int) 3 := ⟨⟨wC_yX6_sheet, wI_X6, by decide +kernel, by decide⟩, wN_yX6_sheet, wE_yX6_sheet⟩
theorem mm_X6_comeTo : am_MV yX6_comeTo cX6_comeTo 2 (some .int) 1 := ⟨⟨wC_yX6_comeTo, wI_X6, by decide +kernel, by decide⟩, wN_yX6_comeTo, wE_yX6_comeTo⟩
theorem mm_X3_renew : am_MV yX3_renew cX3_renew 3 none 2 := ⟨⟨wC_yX3_renew, wI_X3, by decide +kernel, by decide⟩, wN_yX3_renew, wE_yX3_renew⟩
theorem mm_X6_lose : am_MV yX6_lose cX6_lose 3 (some .int) 1 := ⟨⟨wC_yX6_lose, wI_X6, by decide +kernel, by decide⟩, wN_yX6_lose, wE_yX6_lose⟩
theorem mm_X6_put : am_MV yX6_put cX6_put 5 (some .int) 3 := ⟨⟨wC_yX6_put, wI_X6, by decide +kernel, by decide⟩, wN_yX6_put, wE_yX6_put⟩
theorem mm_X3_noCell : am_MV yX3_noCell cX3_noCell 2 (some .boolean) 1 := ⟨⟨wC_yX3_noCell, wI_X3, by decide +kernel, by decide⟩, wN_yX3_noCell, wE_yX3_noCell⟩
theorem mm_X3_cut : am_MV yX3_cut cX3_cut 2 (some .int) 1 := ⟨⟨wC_yX3_cut, wI_X3, by decide +kernel, by decide⟩, wN_yX3_cut, wE_yX3_cut⟩
theorem mm_X6_cell : am_MV yX6_cell cX6_cell 5 (some .long) 3 := ⟨⟨wC_yX6_cell, wI_X6, by decide +kernel, by decide⟩, wN_yX6_cell, wE_yX6_cell⟩
theorem mm_X6_copy : am_MV yX6_copy cX6_copy 8 (some .int) 5 := ⟨⟨wC_yX6_copy, wI_X6, by decide +kernel, by decide⟩, wN_yX6_copy, wE_yX6_copy⟩
theorem mm_X6_tell : am_MV yX6_tell cX6_tell 2 (some .int) 1 := ⟨⟨wC_yX6_tell, wI_X6, by decide +kernel, by decide⟩, wN_yX6_tell, wE_yX6_tell⟩
theorem mm_X6_tellHoneymooner : am_MV yX6_tellHoneymooner cX6_tellHoneymooner 3 (some .int) 1 := ⟨⟨wC_yX6_tellHoneymooner, wI_X6, by decide +kernel, by decide⟩, wN_yX6_tellHoneymooner, wE_yX6_tellHoneymooner⟩
theorem mm_X6_leaveTrace : am_MV yX6_leaveTrace cX6_leaveTrace 2 none 1 := ⟨⟨wC_yX6_leaveTrace, wI_X6, by decide +kernel, by decide⟩, wN_yX6_leaveTrace, wE_yX6_leaveTrace⟩
theorem mm_X6_tellWidow : am_MV yX6_tellWidow cX6_tellWidow 2 (some .int) 1 := ⟨⟨wC_yX6_tellWidow, wI_X6, by decide +kernel, by decide⟩, wN_yX6_tellWidow, wE_yX6_tellWidow⟩
theorem mm_X6_tellPassenger : am_MV yX6_tellPassenger cX6_tellPassenger 2 (some .int) 1 := ⟨⟨wC_yX6_tellPassenger, wI_X6, by decide +kernel, by decide⟩, wN_yX6_tellPassenger, wE_yX6_tellPassenger⟩
theorem mm_X6_call : am_MV yX6_call cX6_call 2 (some .int) 1 := ⟨⟨wC_yX6_call, wI_X6, by decide +kernel, by decide⟩, wN_yX6_call, wE_yX6_call⟩
theorem mm_X6_as : am_MV yX6_as cX6_as 3 (some .int) 2 := ⟨⟨wC_yX6_as, wI_X6, by decide +kernel, by decide⟩, wN_yX6_as, wE_yX6_as⟩
theorem mm_X6_trace : am_MV yX6_trace cX6_trace 1 (some .int) 0 := ⟨⟨wC_yX6_trace, wI_X6, by decide +kernel, by decide⟩, wN_yX6_trace, wE_yX6_trace⟩
theorem mm_X6_fault : am_MV yX6_fault cX6_fault 1 (some .int) 0 := ⟨⟨wC_yX6_fault, wI_X6, by decide +kernel, by decide⟩, wN_yX6_fault, wE_yX6_fault⟩
theorem mm_X6_many : am_MV yX6_many cX6_many 2 (some .int) 1 := ⟨⟨wC_yX6_many, wI_X6, by decide +kernel, by decide⟩, wN_yX6_many, wE_yX6_many⟩
theorem mm_X7_line : am_MV yX7_line cX7_line 7 (some .int) 4 := ⟨⟨wC_yX7_line, wI_X7, by decide +kernel, by decide⟩, wN_yX7_line, wE_yX7_line⟩
theorem mm_X7_isSheet : am_MS yX7_isSheet cX7_isSheet 1 (some .boolean) 1 := ⟨⟨wC_yX7_isSheet, wI_X7, by decide +kernel, by decide⟩, wS_yX7_isSheet⟩
theorem mm_X7_within : am_MS yX7_within cX7_within 3 (some .boolean) 3 := ⟨⟨wC_yX7_within, wI_X7, by decide +kernel, by decide⟩, wS_yX7_within⟩
theorem mm_X7_isSort : am_MS yX7_isSort cX7_isSort 1 (some .boolean) 1 := ⟨⟨wC_yX7_isSort, wI_X7, by decide +kernel, by decide⟩, wS_yX7_isSort⟩
theorem mm_X7_against : am_MV yX7_against cX7_against 5 (some .int) 4 := ⟨⟨wC_yX7_against, wI_X7, by decide +kernel, by decide⟩, wN_yX7_against, wE_yX7_against⟩
theorem mm_X7_fails : am_MV yX7_fails cX7_fails 2 (some .int) 1 := ⟨⟨wC_yX7_fails, wI_X7, by decide +kernel, by decide⟩, wN_yX7_fails, wE_yX7_fails⟩
theorem mm_X7_readLine : am_MV yX7_readLine cX7_readLine 3 (some .boolean) 1 := ⟨⟨wC_yX7_readLine, wI_X7, by decide +kernel, by decide⟩, wN_yX7_readLine, wE_yX7_readLine⟩
theorem mm_X7_isSign : am_MV yX7_isSign cX7_isSign 3 (some .boolean) 2 := ⟨⟨wC_yX7_isSign, wI_X7, by decide +kernel, by decide⟩, wN_yX7_isSign, wE_yX7_isSign⟩
theorem mm_X7_digit : am_MV yX7_digit cX7_digit 4 (some .int) 3 := ⟨⟨wC_yX7_digit, wI_X7, by decide +kernel, by decide⟩, wN_yX7_digit, wE_yX7_digit⟩
theorem mm_X7_readPassenger : am_MV yX7_readPassenger cX7_readPassenger 6 (some .boolean) 1 := ⟨⟨wC_yX7_readPassenger, wI_X7, by decide +kernel, by decide⟩, wN_yX7_readPassenger, wE_yX7_readPassenger⟩
theorem mm_X7_takeLine : am_MV yX7_takeLine cX7_takeLine 2 none 0 := ⟨⟨wC_yX7_takeLine, wI_X7, by decide +kernel, by decide⟩, wN_yX7_takeLine, wE_yX7_takeLine⟩
theorem mm_X7_ofPassenger : am_MV yX7_ofPassenger cX7_ofPassenger 3 (some .int) 2 := ⟨⟨wC_yX7_ofPassenger, wI_X7, by decide +kernel, by decide⟩, wN_yX7_ofPassenger, wE_yX7_ofPassenger⟩
theorem mm_X7_isPassenger : am_MV yX7_isPassenger cX7_isPassenger 2 (some .boolean) 1 := ⟨⟨wC_yX7_isPassenger, wI_X7, by decide +kernel, by decide⟩, wN_yX7_isPassenger, wE_yX7_isPassenger⟩
theorem mm_X7_seats : am_MV yX7_seats cX7_seats 4 (some .int) 2 := ⟨⟨wC_yX7_seats, wI_X7, by decide +kernel, by decide⟩, wN_yX7_seats, wE_yX7_seats⟩
theorem mm_X7_limits : am_MV yX7_limits cX7_limits 4 (some .int) 2 := ⟨⟨wC_yX7_limits, wI_X7, by decide +kernel, by decide⟩, wN_yX7_limits, wE_yX7_limits⟩
theorem mm_X7_dig : am_MV yX7_dig cX7_dig 4 (some .int) 2 := ⟨⟨wC_yX7_dig, wI_X7, by decide +kernel, by decide⟩, wN_yX7_dig, wE_yX7_dig⟩
theorem mm_X7_isMile : am_MV yX7_isMile cX7_isMile 2 (some .boolean) 1 := ⟨⟨wC_yX7_isMile, wI_X7, by decide +kernel, by decide⟩, wN_yX7_isMile, wE_yX7_isMile⟩
theorem mm_X7_talk : am_MV yX7_talk cX7_talk 6 (some .int) 3 := ⟨⟨wC_yX7_talk, wI_X7, by decide +kernel, by decide⟩, wN_yX7_talk, wE_yX7_talk⟩
theorem mm_X7_regret : am_MV yX7_regret cX7_regret 3 (some .int) 2 := ⟨⟨wC_yX7_regret, wI_X7, by decide +kernel, by decide⟩, wN_yX7_regret, wE_yX7_regret⟩
theorem mm_X7_goTo : am_MV yX7_goTo cX7_goTo 3 none 1 := ⟨⟨wC_yX7_goTo, wI_X7, by decide +kernel, by decide⟩, wN_yX7_goTo, wE_yX7_goTo⟩
theorem mm_X7_begin : am_MV yX7_begin cX7_begin 2 none 0 := ⟨⟨wC_yX7_begin, wI_X7, by decide +kernel, by decide⟩, wN_yX7_begin, wE_yX7_begin⟩
theorem mm_X7_goMile : am_MV yX7_goMile cX7_goMile 4 none 2 := ⟨⟨wC_yX7_goMile, wI_X7, by decide +kernel, by decide⟩, wN_yX7_goMile, wE_yX7_goMile⟩
theorem mm_X7_changes : am_MV yX7_changes cX7_changes 3 (some .int) 2 := ⟨⟨wC_yX7_changes, wI_X7, by decide +kernel, by decide⟩, wN_yX7_changes, wE_yX7_changes⟩
theorem mm_X7_bounded : am_MS yX7_bounded cX7_bounded 1 (some .int) 1 := ⟨⟨wC_yX7_bounded, wI_X7, by decide +kernel, by decide⟩, wS_yX7_bounded⟩
theorem mm_X7_due : am_MV yX7_due cX7_due 4 (some .int) 2 := ⟨⟨wC_yX7_due, wI_X7, by decide +kernel, by decide⟩, wN_yX7_due, wE_yX7_due⟩
theorem mm_X7_dueBy : am_MV yX7_dueBy cX7_dueBy 2 (some .int) 1 := ⟨⟨wC_yX7_dueBy, wI_X7, by decide +kernel, by decide⟩, wN_yX7_dueBy, wE_yX7_dueBy⟩
theorem mm_X7_seating : am_MV yX7_seating cX7_seating 9 (some .int) 5 := ⟨⟨wC_yX7_seating, wI_X7, by decide +kernel, by decide⟩, wN_yX7_seating, wE_yX7_seating⟩
theorem mm_X7_wrongBy : am_MV yX7_wrongBy cX7_wrongBy 4 (some .int) 1 := ⟨⟨wC_yX7_wrongBy, wI_X7, by decide +kernel, by decide⟩, wN_yX7_wrongBy, wE_yX7_wrongBy⟩
theorem mm_X7_seatedIn : am_MV yX7_seatedIn cX7_seatedIn 5 (some .int) 2 := ⟨⟨wC_yX7_seatedIn, wI_X7, by decide +kernel, by decide⟩, wN_yX7_seatedIn, wE_yX7_seatedIn⟩
theorem mm_X7_tellSeating : am_MV yX7_tellSeating cX7_tellSeating 3 (some .int) 2 := ⟨⟨wC_yX7_tellSeating, wI_X7, by decide +kernel, by decide⟩, wN_yX7_tellSeating, wE_yX7_tellSeating⟩
theorem mm_X7_layDues : am_MV yX7_layDues cX7_layDues 3 none 0 := ⟨⟨wC_yX7_layDues, wI_X7, by decide +kernel, by decide⟩, wN_yX7_layDues, wE_yX7_layDues⟩
theorem mm_X7_changesBy : am_MV yX7_changesBy cX7_changesBy 4 (some .int) 1 := ⟨⟨wC_yX7_changesBy, wI_X7, by decide +kernel, by decide⟩, wN_yX7_changesBy, wE_yX7_changesBy⟩
theorem mm_X7_lowBy : am_MV yX7_lowBy cX7_lowBy 5 (some .int) 1 := ⟨⟨wC_yX7_lowBy, wI_X7, by decide +kernel, by decide⟩, wN_yX7_lowBy, wE_yX7_lowBy⟩
theorem mm_X7_aboveBy : am_MV yX7_aboveBy cX7_aboveBy 6 (some .int) 2 := ⟨⟨wC_yX7_aboveBy, wI_X7, by decide +kernel, by decide⟩, wN_yX7_aboveBy, wE_yX7_aboveBy⟩
theorem mm_X7_ease : am_MV yX7_ease cX7_ease 5 (some .int) 1 := ⟨⟨wC_yX7_ease, wI_X7, by decide +kernel, by decide⟩, wN_yX7_ease, wE_yX7_ease⟩
theorem mm_X7_rows : am_MV yX7_rows cX7_rows 3 (some .int) 0 := ⟨⟨wC_yX7_rows, wI_X7, by decide +kernel, by decide⟩, wN_yX7_rows, wE_yX7_rows⟩
theorem mm_X7_findEase : am_MV yX7_findEase cX7_findEase 6 none 1 := ⟨⟨wC_yX7_findEase, wI_X7, by decide +kernel, by decide⟩, wN_yX7_findEase, wE_yX7_findEase⟩
theorem mm_X7_lowIn : am_MV yX7_lowIn cX7_lowIn 7 (some .int) 2 := ⟨⟨wC_yX7_lowIn, wI_X7, by decide +kernel, by decide⟩, wN_yX7_lowIn, wE_yX7_lowIn⟩
theorem mm_X7_place : am_MV yX7_place cX7_place 3 (some .int) 2 := ⟨⟨wC_yX7_place, wI_X7, by decide +kernel, by decide⟩, wN_yX7_place, wE_yX7_place⟩
theorem mm_X7_bestBehind : am_MV yX7_bestBehind cX7_bestBehind 7 (some .int) 3 := ⟨⟨wC_yX7_bestBehind, wI_X7, by decide +kernel, by decide⟩, wN_yX7_bestBehind, wE_yX7_bestBehind⟩
theorem mm_X7_changed : am_MV yX7_changed cX7_changed 5 (some .int) 2 := ⟨⟨wC_yX7_changed, wI_X7, by decide +kernel, by decide⟩, wN_yX7_changed, wE_yX7_changed⟩
theorem mm_X7_bestRow : am_MV yX7_bestRow cX7_bestRow 8 (some .int) 3 := ⟨⟨wC_yX7_bestRow, wI_X7, by decide +kernel, by decide⟩, wN_yX7_bestRow, wE_yX7_bestRow⟩
theorem mm_X7_stuck : am_MV yX7_stuck cX7_stuck 5 (some .int) 0 := ⟨⟨wC_yX7_stuck, wI_X7, by decide +kernel, by decide⟩, wN_yX7_stuck, wE_yX7_stuck⟩
theorem mm_X7_help : am_MV yX7_help cX7_help 8 (some .int) 3 := ⟨⟨wC_yX7_help, wI_X7, by decide +kernel, by decide⟩, wN_yX7_help, wE_yX7_help⟩
theorem mm_X7_dueTogether : am_MV yX7_dueTogether cX7_dueTogether 5 (some .int) 2 := ⟨⟨wC_yX7_dueTogether, wI_X7, by decide +kernel, by decide⟩, wN_yX7_dueTogether, wE_yX7_dueTogether⟩
theorem mm_X7_reading : am_MV yX7_reading cX7_reading 4 (some .int) 3 := ⟨⟨wC_yX7_reading, wI_X7, by decide +kernel, by decide⟩, wN_yX7_reading, wE_yX7_reading⟩
theorem mm_X7_back : am_MV yX7_back cX7_back 2 (some .int) 1 := ⟨⟨wC_yX7_back, wI_X7, by decide +kernel, by decide⟩, wN_yX7_back, wE_yX7_back⟩
theorem mm_X7_began : am_MV yX7_began cX7_began 7 (some .int) 2 := ⟨⟨wC_yX7_began, wI_X7, by decide +kernel, by decide⟩, wN_yX7_began, wE_yX7_began⟩
theorem mm_X7_areSo : am_MV yX7_areSo cX7_areSo 2 (some .boolean) 0 := ⟨⟨wC_yX7_areSo, wI_X7, by decide +kernel, by decide⟩, wN_yX7_areSo, wE_yX7_areSo⟩
theorem mm_X7_areSoIn : am_MV yX7_areSoIn cX7_areSoIn 3 (some .boolean) 1 := ⟨⟨wC_yX7_areSoIn, wI_X7, by decide +kernel, by decide⟩, wN_yX7_areSoIn, wE_yX7_areSoIn⟩
theorem mm_X7_kinds : am_MV yX7_kinds cX7_kinds 5 (some .int) 1 := ⟨⟨wC_yX7_kinds, wI_X7, by decide +kernel, by decide⟩, wN_yX7_kinds, wE_yX7_kinds⟩
theorem mm_X7_fadings : am_MV yX7_fadings cX7_fadings 5 (some .int) 1 := ⟨⟨wC_yX7_fadings, wI_X7, by decide +kernel, by decide⟩, wN_yX7_fadings, wE_yX7_fadings⟩
theorem mm_X7_odds : am_MV yX7_odds cX7_odds 7 (some .long) 3 := ⟨⟨wC_yX7_odds, wI_X7, by decide +kernel, by decide⟩, wN_yX7_odds, wE_yX7_odds⟩
theorem mm_X7_inLeastTerms : am_MS yX7_inLeastTerms cX7_inLeastTerms 11 (some .long) 3 := ⟨⟨wC_yX7_inLeastTerms, wI_X7, by decide +kernel, by decide⟩, wS_yX7_inLeastTerms⟩
theorem mm_X7_sheet : am_MV yX7_sheet cX7_sheet 5 (some .int) 3 := ⟨⟨wC_yX7_sheet, wI_X7, by decide +kernel, by decide⟩, wN_yX7_sheet, wE_yX7_sheet⟩
theorem mm_X7_lose : am_MV yX7_lose cX7_lose 3 (some .int) 1 := ⟨⟨wC_yX7_lose, wI_X7, by decide +kernel, by decide⟩, wN_yX7_lose, wE_yX7_lose⟩
theorem mm_X7_put : am_MV yX7_put cX7_put 4 (some .int) 3 := ⟨⟨wC_yX7_put, wI_X7, by decide +kernel, by decide⟩, wN_yX7_put, wE_yX7_put⟩
theorem mm_X7_cell : am_MV yX7_cell cX7_cell 4 (some .long) 3 := ⟨⟨wC_yX7_cell, wI_X7, by decide +kernel, by decide⟩, wN_yX7_cell, wE_yX7_cell⟩
theorem mm_X7_lost : am_MV yX7_lost cX7_lost 2 (some .long) 1 := ⟨⟨wC_yX7_lost, wI_X7, by decide +kernel, by decide⟩, wN_yX7_lost, wE_yX7_lost⟩
theorem mm_X7_copy : am_MV yX7_copy cX7_copy 10 (some .int) 5 := ⟨⟨wC_yX7_copy, wI_X7, by decide +kernel, by decide⟩, wN_yX7_copy, wE_yX7_copy⟩
theorem mm_X7_tell : am_MV yX7_tell cX7_tell 3 (some .int) 1 := ⟨⟨wC_yX7_tell, wI_X7, by decide +kernel, by decide⟩, wN_yX7_tell, wE_yX7_tell⟩
theorem mm_X7_begins : am_MV yX7_begins cX7_begins 2 none 1 := ⟨⟨wC_yX7_begins, wI_X7, by decide +kernel, by decide⟩, wN_yX7_begins, wE_yX7_begins⟩
theorem mm_X7_call : am_MV yX7_call cX7_call 2 (some .int) 1 := ⟨⟨wC_yX7_call, wI_X7, by decide +kernel, by decide⟩, wN_yX7_call, wE_yX7_call⟩
theorem mm_X7_as : am_MV yX7_as cX7_as 3 (some .int) 2 := ⟨⟨wC_yX7_as, wI_X7, by decide +kernel, by decide⟩, wN_yX7_as, wE_yX7_as⟩
theorem mm_X7_trace : am_MV yX7_trace cX7_trace 1 (some .int) 0 := ⟨⟨wC_yX7_trace, wI_X7, by decide +kernel, by decide⟩, wN_yX7_trace, wE_yX7_trace⟩
theorem mm_X7_fault : am_MV yX7_fault cX7_fault 1 (some .int) 0 := ⟨⟨wC_yX7_fault, wI_X7, by decide +kernel, by decide⟩, wN_yX7_fault, wE_yX7_fault⟩
theorem mm_X7_many : am_MV yX7_many cX7_many 2 (some .int) 1 := ⟨⟨wC_yX7_many, wI_X7, by decide +kernel, by decide⟩, wN_yX7_many, wE_yX7_many⟩
theorem fl_X3_9 : am_FL RX3 9 3 0 := ⟨RX3, TX3, 3, rfl, inBX3, by decide, wF_X3_9⟩
theorem fl_X6_73 : am_FL RX6 73 3 0 := ⟨RX3, TX3, 3, rfl, inBX3, by decide, wF_X6_73⟩
theorem fl_X3_15 : am_FL RX3 15 3 1 := ⟨RX3, TX3, 3, rfl, inBX3, by decide, wF_X3_15⟩
theorem fp_X3_15 : am_FP RX3 15 3 1 .int := ⟨RX3, TX3, 3, tyX3, rfl, inBX3, by decide, wF_X3_15, rfl, by decide +kernel, tyX3_ok, nmX3⟩
theorem fl_X6_236 : am_FL RX6 236 3 1 := ⟨RX3, TX3, 3, rfl, inBX3, by decide, wF_X6_236⟩
theorem fp_X6_236 : am_FP RX6 236 3 1 .int := ⟨RX3, TX3, 3, tyX3, rfl, inBX3, by decide, wF_X6_236, rfl, by decide +kernel, tyX3_ok, nmX3⟩
theorem fl_X3_19 : am_FL RX3 19 3 2 := ⟨RX3, TX3, 3, rfl, inBX3, by decide, wF_X3_19⟩
theorem fp_X3_19 : am_FP RX3 19 3 2 .int := ⟨RX3, TX3, 3, tyX3, rfl, inBX3, by decide, wF_X3_19, rfl, by decide +kernel, tyX3_ok, nmX3⟩
theorem fl_X5_9 : am_FL RX5 9 4 0 := ⟨RX5, TX5, 12, rfl, inBX5, by decide, wF_X5_9⟩
theorem fl_X6_115 : am_FL RX6 115 4 0 := ⟨RX5, TX5, 12, rfl, inBX5, by decide, wF_X6_115⟩
theorem fl_X2_45 : am_FL RX2 45 4 0 := ⟨RX5, TX5, 12, rfl, inBX5, by decide, wF_X2_45⟩
theorem fl_X0_77 : am_FL RX0 77 4 0 := ⟨RX5, TX5, 12, rfl, inBX5, by decide, wF_X0_77⟩
theorem fl_X5_15 : am_FL RX5 15 4 1 := ⟨RX5, TX5, 12, rfl, inBX5, by decide, wF_X5_15⟩
theorem fl_X6_127 : am_FL RX6 127 4 1 := ⟨RX5, TX5, 12, rfl, inBX5, by decide, wF_X6_127⟩
theorem fl_X5_19 : am_FL RX5 19 4 2 := ⟨RX5, TX5, 12, rfl, inBX5, by decide, wF_X5_19⟩
theorem fl_X6_135 : am_FL RX6 135 4 2 := ⟨RX5, TX5, 12, rfl, inBX5, by decide, wF_X6_135⟩
theorem fl_X5_22 : am_FL RX5 22 4 3 := ⟨RX5, TX5, 12, rfl, inBX5, by decide, wF_X5_22⟩
theorem fl_X6_138 : am_FL RX6 138 4 3 := ⟨RX5, TX5, 12, rfl, inBX5, by decide, wF_X6_138⟩
theorem fl_X5_25 : am_FL RX5 25 4 4 := ⟨RX5, TX5, 12, rfl, inBX5, by decide, wF_X5_25⟩
theorem fl_X6_99 : am_FL RX6 99 4 4 := ⟨RX5, TX5, 12, rfl, inBX5, by decide, wF_X6_99⟩
theorem fl_X5_28 : am_FL RX5 28 4 5 := ⟨RX5, TX5, 12, rfl, inBX5, by decide, wF_X5_28⟩
theorem fl_X6_102 : am_FL RX6 102 4 5 := ⟨RX5, TX5, 12, rfl, inBX5, by decide, wF_X6_102⟩
theorem fl_X5_31 : am_FL RX5 31 4 6 := ⟨RX5, TX5, 12, rfl, inBX5, by decide, wF_X5_31⟩
theorem fl_X6_105 : am_FL RX6 105 4 6 := ⟨RX5, TX5, 12, rfl, inBX5, by decide, wF_X6_105⟩
theorem fl_X5_36 : am_FL RX5 36 4 7 := ⟨RX5, TX5, 12, rfl, inBX5, by decide, wF_X5_36⟩
theorem fl_X5_39 : am_FL RX5 39 4 8 := ⟨RX5, TX5, 12, rfl, inBX5, by decide, wF_X5_39⟩
theorem fp_X5_39 : am_FP RX5 39 4 8 .int := ⟨RX5, TX5, 12, tyX5, rfl, inBX5, by decide, wF_X5_39, rfl, by decide +kernel, tyX5_ok, nmX5⟩
theorem fl_X2_22 : am_FL RX2 22 4 8 := ⟨RX5, TX5, 12, rfl, inBX5, by decide, wF_X2_22⟩
theorem fp_X2_22 : am_FP RX2 22 4 8 .int := ⟨RX5, TX5, 12, tyX5, rfl, inBX5, by decide, wF_X2_22, rfl, by decide +kernel, tyX5_ok, nmX5⟩
theorem fl_X0_51 : am_FL RX0 51 4 8 := ⟨RX5, TX5, 12, rfl, inBX5, by decide, wF_X0_51⟩
theorem fp_X0_51 : am_FP RX0 51 4 8 .int := ⟨RX5, TX5, 12, tyX5, rfl, inBX5, by decide, wF_X0_51, rfl, by decide +kernel, tyX5_ok, nmX5⟩
theorem fl_X6_154 : am_FL RX6 154 4 8 := ⟨RX5, TX5, 12, rfl, inBX5, by decide, wF_X6_154⟩
theorem fp_X6_154 : am_FP RX6 154 4 8 .int := ⟨RX5, TX5, 12, tyX5, rfl, inBX5, by decide, wF_X6_154, rfl, by decide +kernel, tyX5_ok, nmX5⟩
theorem fl_X5_43 : am_FL RX5 43 4 9 := ⟨RX5, TX5, 12, rfl, inBX5, by decide, wF_X5_43⟩
theorem fp_X5_43 : am_FP RX5 43 4 9 .int := ⟨RX5, TX5, 12, tyX5, rfl, inBX5, by decide, wF_X5_43, rfl, by decide +kernel, tyX5_ok, nmX5⟩
theorem fl_X2_28 : am_FL RX2 28 4 9 := ⟨RX5, TX5, 12, rfl, inBX5, by decide, wF_X2_28⟩
theorem fp_X2_28 : am_FP RX2 28 4 9 .int := ⟨RX5, TX5, 12, tyX5, rfl, inBX5, by decide, wF_X2_28, rfl, by decide +kernel, tyX5_ok, nmX5⟩
theorem fl_X0_40 : am_FL RX0 40 4 9 := ⟨RX5, TX5, 12, rfl, inBX5, by decide, wF_X0_40⟩
theorem fp_X0_40 : am_FP RX0 40 4 9 .int := ⟨RX5, TX5, 12, tyX5, rfl, inBX5, by decide, wF_X0_40, rfl, by decide +kernel, tyX5_ok, nmX5⟩
theorem fl_X6_93 : am_FL RX6 93 4 9 := ⟨RX5, TX5, 12, rfl, inBX5, by decide, wF_X6_93⟩
theorem fp_X6_93 : am_FP RX6 93 4 9 .int := ⟨RX5, TX5, 12, tyX5, rfl, inBX5, by decide, wF_X6_93, rfl, by decide +kernel, tyX5_ok, nmX5⟩
theorem fl_X5_46 : am_FL RX5 46 4 10 := ⟨RX5, TX5, 12, rfl, inBX5, by decide, wF_X5_46⟩
theorem fp_X5_46 : am_FP RX5 46 4 10 .int := ⟨RX5, TX5, 12, tyX5, rfl, inBX5, by decide, wF_X5_46, rfl, by decide +kernel, tyX5_ok, nmX5⟩
theorem fl_X6_118 : am_FL RX6 118 4 10 := ⟨RX5, TX5, 12, rfl, inBX5, by decide, wF_X6_118⟩
theorem fp_X6_118 : am_FP RX6 118 4 10 .int := ⟨RX5, TX5, 12, tyX5, rfl, inBX5, by decide, wF_X6_118, rfl, by decide +kernel, tyX5_ok, nmX5⟩
theorem fl_X5_49 : am_FL RX5 49 4 11 := ⟨RX5, TX5, 12, rfl, inBX5, by decide, wF_X5_49⟩
theorem fp_X5_49 : am_FP RX5 49 4 11 .int := ⟨RX5, TX5, 12, tyX5, rfl, inBX5, by decide, wF_X5_49, rfl, by decide +kernel, tyX5_ok, nmX5⟩
theorem fl_X6_121 : am_FL RX6 121 4 11 := ⟨RX5, TX5, 12, rfl, inBX5, by decide, wF_X6_121⟩
theorem fp_X6_121 : am_FP RX6 121 4 11 .int := ⟨RX5, TX5, 12, tyX5, rfl, inBX5, by decide, wF_X6_121, rfl, by decide +kernel, tyX5_ok, nmX5⟩
theorem fl_X1_9 : am_FL RX1 9 1 0 := ⟨RX1, TX1, 4, rfl, inBX1, by decide, wF_X1_9⟩
theorem fl_X1_15 : am_FL RX1 15 1 1 := ⟨RX1, TX1, 4, rfl, inBX1, by decide, wF_X1_15⟩
theorem fl_X1_18 : am_FL RX1 18 1 2 := ⟨RX1, TX1, 4, rfl, inBX1, by decide, wF_X1_18⟩
theorem fl_X1_21 : am_FL RX1 21 1 3 := ⟨RX1, TX1, 4, rfl, inBX1, by decide, wF_X1_21⟩
theorem fp_X1_21 : am_FP RX1 21 1 3 .int := ⟨RX1, TX1, 4, tyX1, rfl, inBX1, by decide, wF_X1_21, rfl, by decide +kernel, tyX1_ok, nmX1⟩
theorem fl_X6_87 : am_FL RX6 87 1 3 := ⟨RX1, TX1, 4, rfl, inBX1, by decide, wF_X6_87⟩
theorem fp_X6_87 : am_FP RX6 87 1 3 .int := ⟨RX1, TX1, 4, tyX1, rfl, inBX1, by decide, wF_X6_87, rfl, by decide +kernel, tyX1_ok, nmX1⟩
theorem fl_X2_18 : am_FL RX2 18 2 0 := ⟨RX2, TX2, 3, rfl, inBX2, by decide, wF_X2_18⟩
theorem fl_X2_9 : am_FL RX2 9 2 1 := ⟨RX2, TX2, 3, rfl, inBX2, by decide, wF_X2_9⟩
theorem fl_X2_15 : am_FL RX2 15 2 2 := ⟨RX2, TX2, 3, rfl, inBX2, by decide, wF_X2_15⟩
theorem fl_X0_36 : am_FL RX0 36 0 0 := ⟨RX0, TX0, 8, rfl, inBX0, by decide, wF_X0_36⟩
theorem fl_X0_13 : am_FL RX0 13 0 1 := ⟨RX0, TX0, 8, rfl, inBX0, by decide, wF_X0_13⟩
theorem fl_X0_16 : am_FL RX0 16 0 2 := ⟨RX0, TX0, 8, rfl, inBX0, by decide, wF_X0_16⟩
theorem fl_X0_20 : am_FL RX0 20 0 3 := ⟨RX0, TX0, 8, rfl, inBX0, by decide, wF_X0_20⟩
theorem fl_X0_23 : am_FL RX0 23 0 4 := ⟨RX0, TX0, 8, rfl, inBX0, by decide, wF_X0_23⟩
theorem fp_X0_23 : am_FP RX0 23 0 4 .int := ⟨RX0, TX0, 8, tyX0, rfl, inBX0, by decide, wF_X0_23, rfl, by decide +kernel, tyX0_ok, nmX0⟩
theorem fl_X0_27 : am_FL RX0 27 0 5 := ⟨RX0, TX0, 8, rfl, inBX0, by decide, wF_X0_27⟩
theorem fl_X6_186 : am_FL RX6 186 0 5 := ⟨RX0, TX0, 8, rfl, inBX0, by decide, wF_X6_186⟩
theorem fl_X0_30 : am_FL RX0 30 0 6 := ⟨RX0, TX0, 8, rfl, inBX0, by decide, wF_X0_30⟩
theorem fp_X0_30 : am_FP RX0 30 0 6 .int := ⟨RX0, TX0, 8, tyX0, rfl, inBX0, by decide, wF_X0_30, rfl, by decide +kernel, tyX0_ok, nmX0⟩
theorem fl_X6_183 : am_FL RX6 183 0 6 := ⟨RX0, TX0, 8, rfl, inBX0, by decide, wF_X6_183⟩
theorem fp_X6_183 : am_FP RX6 183 0 6 .int := ⟨RX0, TX0, 8, tyX0, rfl, inBX0, by decide, wF_X6_183, rfl, by decide +kernel, tyX0_ok, nmX0⟩
theorem fl_X0_33 : am_FL RX0 33 0 7 := ⟨RX0, TX0, 8, rfl, inBX0, by decide, wF_X0_33⟩
theorem fp_X0_33 : am_FP RX0 33 0 7 .int := ⟨RX0, TX0, 8, tyX0, rfl, inBX0, by decide, wF_X0_33, rfl, by decide +kernel, tyX0_ok, nmX0⟩
theorem fl_X6_189 : am_FL RX6 189 0 7 := ⟨RX0, TX0, 8, rfl, inBX0, by decide, wF_X6_189⟩
theorem fp_X6_189 : am_FP RX6 189 0 7 .int := ⟨RX0, TX0, 8, tyX0, rfl, inBX0, by decide, wF_X6_189, rfl, by decide +kernel, tyX0_ok, nmX0⟩
theorem fl_X6_13 : am_FL RX6 13 5 0 := ⟨RX6, TX6, 9, rfl, inBX6, by decide, wF_X6_13⟩
theorem fl_X6_21 : am_FL RX6 21 5 1 := ⟨RX6, TX6, 9, rfl, inBX6, by decide, wF_X6_21⟩
theorem fl_X6_25 : am_FL RX6 25 5 2 := ⟨RX6, TX6, 9, rfl, inBX6, by decide, wF_X6_25⟩
theorem fl_X6_31 : am_FL RX6 31 5 3 := ⟨RX6, TX6, 9, rfl, inBX6, by decide, wF_X6_31⟩
theorem fl_X6_40 : am_FL RX6 40 5 4 := ⟨RX6, TX6, 9, rfl, inBX6, by decide, wF_X6_40⟩
theorem fl_X6_47 : am_FL RX6 47 5 5 := ⟨RX6, TX6, 9, rfl, inBX6, by decide, wF_X6_47⟩
theorem fl_X6_51 : am_FL RX6 51 5 6 := ⟨RX6, TX6, 9, rfl, inBX6, by decide, wF_X6_51⟩
theorem fp_X6_51 : am_FP RX6 51 5 6 .boolean := ⟨RX6, TX6, 9, tyX6, rfl, inBX6, by decide, wF_X6_51, rfl, by decide +kernel, tyX6_ok, nmX6⟩
theorem fl_X6_55 : am_FL RX6 55 5 7 := ⟨RX6, TX6, 9, rfl, inBX6, by decide, wF_X6_55⟩
theorem fp_X6_55 : am_FP RX6 55 5 7 .int := ⟨RX6, TX6, 9, tyX6, rfl, inBX6, by decide, wF_X6_55, rfl, by decide +kernel, tyX6_ok, nmX6⟩
theorem fl_X6_59 : am_FL RX6 59 5 8 := ⟨RX6, TX6, 9, rfl, inBX6, by decide, wF_X6_59⟩
theorem fp_X6_59 : am_FP RX6 59 5 8 .int := ⟨RX6, TX6, 9, tyX6, rfl, inBX6, by decide, wF_X6_59, rfl, by decide +kernel, tyX6_ok, nmX6⟩
theorem fl_X7_71 : am_FL RX7 71 6 0 := ⟨RX7, TX7, 30, rfl, inBX7, by decide, wF_X7_71⟩
theorem fp_X7_71 : am_FP RX7 71 6 0 .int := ⟨RX7, TX7, 30, tyX7, rfl, inBX7, by decide, wF_X7_71, rfl, by decide +kernel, tyX7_ok, nmX7⟩
theorem fl_X7_229 : am_FL RX7 229 6 1 := ⟨RX7, TX7, 30, rfl, inBX7, by decide, wF_X7_229⟩
theorem fp_X7_229 : am_FP RX7 229 6 1 .int := ⟨RX7, TX7, 30, tyX7, rfl, inBX7, by decide, wF_X7_229, rfl, by decide +kernel, tyX7_ok, nmX7⟩
theorem fl_X7_9 : am_FL RX7 9 6 2 := ⟨RX7, TX7, 30, rfl, inBX7, by decide, wF_X7_9⟩
theorem fl_X7_13 : am_FL RX7 13 6 3 := ⟨RX7, TX7, 30, rfl, inBX7, by decide, wF_X7_13⟩
theorem fl_X7_16 : am_FL RX7 16 6 4 := ⟨RX7, TX7, 30, rfl, inBX7, by decide, wF_X7_16⟩
theorem fl_X7_84 : am_FL RX7 84 6 5 := ⟨RX7, TX7, 30, rfl, inBX7, by decide, wF_X7_84⟩
theorem fp_X7_84 : am_FP RX7 84 6 5 .int := ⟨RX7, TX7, 30, tyX7, rfl, inBX7, by decide, wF_X7_84, rfl, by decide +kernel, tyX7_ok, nmX7⟩
theorem fl_X7_81 : am_FL RX7 81 6 6 := ⟨RX7, TX7, 30, rfl, inBX7, by decide, wF_X7_81⟩
theorem fp_X7_81 : am_FP RX7 81 6 6 .int := ⟨RX7, TX7, 30, tyX7, rfl, inBX7, by decide, wF_X7_81, rfl, by decide +kernel, tyX7_ok, nmX7⟩
theorem fl_X7_117 : am_FL RX7 117 6 7 := ⟨RX7, TX7, 30, rfl, inBX7, by decide, wF_X7_117⟩
theorem fp_X7_117 : am_FP RX7 117 6 7 .int := ⟨RX7, TX7, 30, tyX7, rfl, inBX7, by decide, wF_X7_117, rfl, by decide +kernel, tyX7_ok, nmX7⟩
theorem fl_X7_120 : am_FL RX7 120 6 8 := ⟨RX7, TX7, 30, rfl, inBX7, by decide, wF_X7_120⟩
theorem fp_X7_120 : am_FP RX7 120 6 8 .int := ⟨RX7, TX7, 30, tyX7, rfl, inBX7, by decide, wF_X7_120, rfl, by decide +kernel, tyX7_ok, nmX7⟩
theorem fl_X7_19 : am_FL RX7 19 6 9 := ⟨RX7, TX7, 30, rfl, inBX7, by decide, wF_X7_19⟩
theorem fl_X7_22 : am_FL RX7 22 6 10 := ⟨RX7, TX7, 30, rfl, inBX7, by decide, wF_X7_22⟩
theorem fl_X7_26 : am_FL RX7 26 6 11 := ⟨RX7, TX7, 30, rfl, inBX7, by decide, wF_X7_26⟩
theorem fl_X7_29 : am_FL RX7 29 6 12 := ⟨RX7, TX7, 30, rfl, inBX7, by decide, wF_X7_29⟩
theorem fl_X7_32 : am_FL RX7 32 6 13 := ⟨RX7, TX7, 30, rfl, inBX7, by decide, wF_X7_32⟩
theorem fl_X7_35 : am_FL RX7 35 6 14 := ⟨RX7, TX7, 30, rfl, inBX7, by decide, wF_X7_35⟩
theorem fl_X7_38 : am_FL RX7 38 6 15 := ⟨RX7, TX7, 30, rfl, inBX7, by decide, wF_X7_38⟩
theorem fl_X7_87 : am_FL RX7 87 6 16 := ⟨RX7, TX7, 30, rfl, inBX7, by decide, wF_X7_87⟩
theorem fp_X7_87 : am_FP RX7 87 6 16 .int := ⟨RX7, TX7, 30, tyX7, rfl, inBX7, by decide, wF_X7_87, rfl, by decide +kernel, tyX7_ok, nmX7⟩
theorem fl_X7_111 : am_FL RX7 111 6 17 := ⟨RX7, TX7, 30, rfl, inBX7, by decide, wF_X7_111⟩
theorem fp_X7_111 : am_FP RX7 111 6 17 .int := ⟨RX7, TX7, 30, tyX7, rfl, inBX7, by decide, wF_X7_111, rfl, by decide +kernel, tyX7_ok, nmX7⟩
theorem fl_X7_114 : am_FL RX7 114 6 18 := ⟨RX7, TX7, 30, rfl, inBX7, by decide, wF_X7_114⟩
theorem fp_X7_114 : am_FP RX7 114 6 18 .int := ⟨RX7, TX7, 30, tyX7, rfl, inBX7, by decide, wF_X7_114, rfl, by decide +kernel, tyX7_ok, nmX7⟩
theorem fl_X7_41 : am_FL RX7 41 6 19 := ⟨RX7, TX7, 30, rfl, inBX7, by decide, wF_X7_41⟩
theorem fl_X7_44 : am_FL RX7 44 6 20 := ⟨RX7, TX7, 30, rfl, inBX7, by decide, wF_X7_44⟩
theorem fl_X7_47 : am_FL RX7 47 6 21 := ⟨RX7, TX7, 30, rfl, inBX7, by decide, wF_X7_47⟩
theorem fl_X7_50 : am_FL RX7 50 6 22 := ⟨RX7, TX7, 30, rfl, inBX7, by decide, wF_X7_50⟩
theorem fl_X7_53 : am_FL RX7 53 6 23 := ⟨RX7, TX7, 30, rfl, inBX7, by decide, wF_X7_53⟩
theorem fl_X7_56 : am_FL RX7 56 6 24 := ⟨RX7, TX7, 30, rfl, inBX7, by decide, wF_X7_56⟩
theorem fl_X7_59 : am_FL RX7 59 6 25 := ⟨RX7, TX7, 30, rfl, inBX7, by decide, wF_X7_59⟩
theorem fl_X7_123 : am_FL RX7 123 6 26 := ⟨RX7, TX7, 30, rfl, inBX7, by decide, wF_X7_123⟩
theorem fp_X7_123 : am_FP RX7 123 6 26 .int := ⟨RX7, TX7, 30, tyX7, rfl, inBX7, by decide, wF_X7_123, rfl, by decide +kernel, tyX7_ok, nmX7⟩
theorem fl_X7_62 : am_FL RX7 62 6 27 := ⟨RX7, TX7, 30, rfl, inBX7, by decide, wF_X7_62⟩
theorem fl_X7_65 : am_FL RX7 65 6 28 := ⟨RX7, TX7, 30, rfl, inBX7, by decide, wF_X7_65⟩
theorem fl_X7_68 : am_FL RX7 68 6 29 := ⟨RX7, TX7, 30, rfl, inBX7, by decide, wF_X7_68⟩
end
section
theorem dX0_init_0 : decode cX0_init 0 = .ok (.aload_n 0, 1) := by decide +kernel
theorem dX0_init_1 : decode cX0_init 1 = .ok (.invokespecial 3, 3) := by decide +kernel
theorem dX0_init_4 : decode cX0_init 4 = .ok (.aload_n 0, 1) := by decide +kernel
theorem dX0_init_5 : decode cX0_init 5 = .ok (.bipush 8, 2) := by decide +kernel
theorem dX0_init_7 : decode cX0_init 7 = .ok (.bipush 81, 2) := by decide +kernel
theorem dX0_init_9 : decode cX0_init 9 = .ok (.multianewarray 11 2, 4) := by decide +kernel
theorem dX0_init_13 : decode cX0_init 13 = .ok (.putfield 13, 3) := by decide +kernel
theorem dX0_init_16 : decode cX0_init 16 = .ok (.aload_n 0, 1) := by decide +kernel
theorem dX0_init_17 : decode cX0_init 17 = .ok (.bipush 81, 2) := by decide +kernel
theorem dX0_init_19 : decode cX0_init 19 = .ok (.newarray .int, 2) := by decide +kernel
theorem dX0_init_21 : decode cX0_init 21 = .ok (.putfield 16, 3) := by decide +kernel
theorem dX0_init_24 : decode cX0_init 24 = .ok (.aload_n 0, 1) := by decide +kernel
theorem dX0_init_25 : decode cX0_init 25 = .ok (.iconst 3, 1) := by decide +kernel
theorem dX0_init_26 : decode cX0_init 26 = .ok (.newarray .int, 2) := by decide +kernel
theorem dX0_init_28 : decode cX0_init 28 = .ok (.putfield 20, 3) := by decide +kernel
theorem dX0_init_31 : decode cX0_init 31 = .ok (.aload_n 0, 1) := by decide +kernel
theorem dX0_init_32 : decode cX0_init 32 = .ok (.iconst 1, 1) := by decide +kernel
theorem dX0_init_33 : decode cX0_init 33 = .ok (.putfield 23, 3) := by decide +kernel
theorem dX0_init_36 : decode cX0_init 36 = .ok (.aload_n 0, 1) := by decide +kernel
theorem dX0_init_37 : decode cX0_init 37 = .ok (.bipush 32, 2) := by decide +kernel
theorem dX0_init_39 : decode cX0_init 39 = .ok (.newarray .int, 2) := by decide +kernel
theorem dX0_init_41 : decode cX0_init 41 = .ok (.putfield 27, 3) := by decide +kernel
theorem dX0_init_44 : decode cX0_init 44 = .ok (.aload_n 0, 1) := by decide +kernel
theorem dX0_init_45 : decode cX0_init 45 = .ok (.bipush (-9), 2) := by decide +kernel
theorem dX0_init_47 : decode cX0_init 47 = .ok (.putfield 30, 3) := by decide +kernel
theorem dX0_init_50 : decode cX0_init 50 = .ok (.aload_n 0, 1) := by decide +kernel
theorem dX0_init_51 : decode cX0_init 51 = .ok (.bipush (-9), 2) := by decide +kernel
theorem dX0_init_53 : decode cX0_init 53 = .ok (.putfield 33, 3) := by decide +kernel
theorem dX0_init_56 : decode cX0_init 56 = .ok (.aload_n 0, 1) := by decide +kernel
theorem dX0_init_57 : decode cX0_init 57 = .ok (.aload_n 1, 1) := by decide +kernel
theorem dX0_init_58 : decode cX0_init 58 = .ok (.putfield 36, 3) := by decide +kernel
theorem dX0_init_61 : decode cX0_init 61 = .ok (.return_, 1) := by decide +kernel
theorem dX0_seek_0 : decode cX0_seek 0 = .ok (.aload_n 0, 1) := by decide +kernel
theorem dX0_seek_1 : decode cX0_seek 1 = .ok (.iconst 1, 1) := by decide +kernel
theorem dX0_seek_2 : decode cX0_seek 2 = .ok (.putfield 23, 3) := by decide +kernel
theorem dX0_seek_5 : decode cX0_seek 5 = .ok (.iconst 0, 1) := by decide +kernel
theorem dX0_seek_6 : decode cX0_seek 6 = .ok (.istore_n 1, 1) := by decide +kernel
theorem dX0_seek_7 : decode cX0_seek 7 = .ok (.iload_n 1, 1) := by decide +kernel
theorem dX0_seek_8 : decode cX0_seek 8 = .ok (.aload_n 0, 1) := by decide +kernel
theorem dX0_seek_9 : decode cX0_seek 9 = .ok (.getfield 36, 3) := by decide +kernel
theorem dX0_seek_12 : decode cX0_seek 12 = .ok (.getfield 40, 3) := by decide +kernel
theorem dX0_seek_15 : decode cX0_seek 15 = .ok (.if_icmp .ge 19, 3) := by decide +kernel
theorem dX0_seek_18 : decode cX0_seek 18 = .ok (.aload_n 0, 1) := by decide +kernel
theorem dX0_seek_19 : decode cX0_seek 19 = .ok (.dup, 1) := by decide +kernel
theorem dX0_seek_20 : decode cX0_seek 20 = .ok (.getfield 23, 3) := by decide +kernel
theorem dX0_seek_23 : decode cX0_seek 23 = .ok (.iconst 3, 1) := by decide +kernel
theorem dX0_seek_24 : decode cX0_seek 24 = .ok (.imul, 1) := by decide +kernel
theorem dX0_seek_25 : decode cX0_seek 25 = .ok (.putfield 23, 3) := by decide +kernel
theorem dX0_seek_28 : decode cX0_seek 28 = .ok (.iinc 1 1, 3) := by decide +kernel
theorem dX0_seek_31 : decode cX0_seek 31 = .ok (.goto (-24), 3) := by decide +kernel
theorem dX0_seek_34 : decode cX0_seek 34 = .ok (.aload_n 0, 1) := by decide +kernel
theorem dX0_seek_35 : decode cX0_seek 35 = .ok (.bipush (-9), 2) := by decide +kernel
theorem dX0_seek_37 : decode cX0_seek 37 = .ok (.putfield 33, 3) := by decide +kernel
theorem dX0_seek_40 : decode cX0_seek 40 = .ok (.aload_n 0, 1) := by decide +kernel
theorem dX0_seek_41 : decode cX0_seek 41 = .ok (.bipush (-9), 2) := by decide +kernel
theorem dX0_seek_43 : decode cX0_seek 43 = .ok (.putfield 30, 3) := by decide +kernel
theorem dX0_seek_46 : decode cX0_seek 46 = .ok (.aload_n 0, 1) := by decide +kernel
theorem dX0_seek_47 : decode cX0_seek 47 = .ok (.getfield 16, 3) := by decide +kernel
theorem dX0_seek_50 : decode cX0_seek 50 = .ok (.iconst 0, 1) := by decide +kernel
theorem dX0_seek_51 : decode cX0_seek 51 = .ok (.invokestatic 45, 3) := by decide +kernel
theorem dX0_seek_54 : decode cX0_seek 54 = .ok (.aload_n 0, 1) := by decide +kernel
theorem dX0_seek_55 : decode cX0_seek 55 = .ok (.getfield 36, 3) := by decide +kernel
theorem dX0_seek_58 : decode cX0_seek 58 = .ok (.getfield 51, 3) := by decide +kernel
theorem dX0_seek_61 : decode cX0_seek 61 = .ok (.iconst 1, 1) := by decide +kernel
theorem dX0_seek_62 : decode cX0_seek 62 = .ok (.isub, 1) := by decide +kernel
theorem dX0_seek_63 : decode cX0_seek 63 = .ok (.istore_n 1, 1) := by decide +kernel
theorem dX0_seek_64 : decode cX0_seek 64 = .ok (.iload_n 1, 1) := by decide +kernel
theorem dX0_seek_65 : decode cX0_seek 65 = .ok (.ifCond .lt 27, 3) := by decide +kernel
theorem dX0_seek_68 : decode cX0_seek 68 = .ok (.aload_n 0, 1) := by decide +kernel
theorem dX0_seek_69 : decode cX0_seek 69 = .ok (.iload_n 1, 1) := by decide +kernel
theorem dX0_seek_70 : decode cX0_seek 70 = .ok (.invokevirtual 54, 3) := by decide +kernel
theorem dX0_seek_73 : decode cX0_seek 73 = .ok (.ifCond .ne 8, 3) := by decide +kernel
theorem dX0_seek_76 : decode cX0_seek 76 = .ok (.aload_n 0, 1) := by decide +kernel
theorem dX0_seek_77 : decode cX0_seek 77 = .ok (.iload_n 1, 1) := by decide +kernel
theorem dX0_seek_78 : decode cX0_seek 78 = .ok (.putfield 33, 3) := by decide +kernel
theorem dX0_seek_81 : decode cX0_seek 81 = .ok (.aload_n 0, 1) := by decide +kernel
theorem dX0_seek_82 : decode cX0_seek 82 = .ok (.iload_n 1, 1) := by decide +kernel
theorem dX0_seek_83 : decode cX0_seek 83 = .ok (.invokevirtual 58, 3) := by decide +kernel
theorem dX0_seek_86 : decode cX0_seek 86 = .ok (.iinc 1 (-1), 3) := by decide +kernel
theorem dX0_seek_89 : decode cX0_seek 89 = .ok (.goto (-25), 3) := by decide +kernel
theorem dX0_seek_92 : decode cX0_seek 92 = .ok (.aload_n 0, 1) := by decide +kernel
theorem dX0_seek_93 : decode cX0_seek 93 = .ok (.getfield 33, 3) := by decide +kernel
theorem dX0_seek_96 : decode cX0_seek 96 = .ok (.bipush (-9), 2) := by decide +kernel
theorem dX0_seek_98 : decode cX0_seek 98 = .ok (.if_icmp .ne 7, 3) := by decide +kernel
theorem dX0_seek_101 : decode cX0_seek 101 = .ok (.aload_n 0, 1) := by decide +kernel
theorem dX0_seek_102 : decode cX0_seek 102 = .ok (.invokevirtual 62, 3) := by decide +kernel
theorem dX0_seek_105 : decode cX0_seek 105 = .ok (.return_, 1) := by decide +kernel
theorem dX0_weigh_0 : decode cX0_weigh 0 = .ok (.iconst 0, 1) := by decide +kernel
theorem dX0_weigh_1 : decode cX0_weigh 1 = .ok (.istore_n 2, 1) := by decide +kernel
theorem dX0_weigh_2 : decode cX0_weigh 2 = .ok (.iconst 0, 1) := by decide +kernel
theorem dX0_weigh_3 : decode cX0_weigh 3 = .ok (.istore_n 3, 1) := by decide +kernel
theorem dX0_weigh_4 : decode cX0_weigh 4 = .ok (.iload_n 3, 1) := by decide +kernel
theorem dX0_weigh_5 : decode cX0_weigh 5 = .ok (.aload_n 0, 1) := by decide +kernel
theorem dX0_weigh_6 : decode cX0_weigh 6 = .ok (.getfield 23, 3) := by decide +kernel
theorem dX0_weigh_9 : decode cX0_weigh 9 = .ok (.if_icmp .ge 58, 3) := by decide +kernel
theorem dX0_weigh_12 : decode cX0_weigh 12 = .ok (.aload_n 0, 1) := by decide +kernel
theorem dX0_weigh_13 : decode cX0_weigh 13 = .ok (.iload_n 1, 1) := by decide +kernel
theorem dX0_weigh_14 : decode cX0_weigh 14 = .ok (.iload_n 3, 1) := by decide +kernel
theorem dX0_weigh_15 : decode cX0_weigh 15 = .ok (.invokevirtual 65, 3) := by decide +kernel
theorem dX0_weigh_18 : decode cX0_weigh 18 = .ok (.istore 4, 2) := by decide +kernel
theorem dX0_weigh_20 : decode cX0_weigh 20 = .ok (.iload_n 2, 1) := by decide +kernel
theorem dX0_weigh_21 : decode cX0_weigh 21 = .ok (.ifCond .ne 11, 3) := by decide +kernel
theorem dX0_weigh_24 : decode cX0_weigh 24 = .ok (.iload 4, 2) := by decide +kernel
theorem dX0_weigh_26 : decode cX0_weigh 26 = .ok (.sipush 10000, 3) := by decide +kernel
theorem dX0_weigh_29 : decode cX0_weigh 29 = .ok (.if_icmp .ge 7, 3) := by decide +kernel
theorem dX0_weigh_32 : decode cX0_weigh 32 = .ok (.iconst 1, 1) := by decide +kernel
theorem dX0_weigh_33 : decode cX0_weigh 33 = .ok (.goto 4, 3) := by decide +kernel
theorem dX0_weigh_36 : decode cX0_weigh 36 = .ok (.iconst 0, 1) := by decide +kernel
theorem dX0_weigh_37 : decode cX0_weigh 37 = .ok (.istore_n 2, 1) := by decide +kernel
theorem dX0_weigh_38 : decode cX0_weigh 38 = .ok (.aload_n 0, 1) := by decide +kernel
theorem dX0_weigh_39 : decode cX0_weigh 39 = .ok (.getfield 13, 3) := by decide +kernel
theorem dX0_weigh_42 : decode cX0_weigh 42 = .ok (.iload_n 1, 1) := by decide +kernel
theorem dX0_weigh_43 : decode cX0_weigh 43 = .ok (.aaload, 1) := by decide +kernel
theorem dX0_weigh_44 : decode cX0_weigh 44 = .ok (.iload_n 3, 1) := by decide +kernel
theorem dX0_weigh_45 : decode cX0_weigh 45 = .ok (.sipush 10000, 3) := by decide +kernel
theorem dX0_weigh_48 : decode cX0_weigh 48 = .ok (.iload 4, 2) := by decide +kernel
theorem dX0_weigh_50 : decode cX0_weigh 50 = .ok (.aload_n 0, 1) := by decide +kernel
theorem dX0_weigh_51 : decode cX0_weigh 51 = .ok (.getfield 16, 3) := by decide +kernel
theorem dX0_weigh_54 : decode cX0_weigh 54 = .ok (.iload_n 3, 1) := by decide +kernel
theorem dX0_weigh_55 : decode cX0_weigh 55 = .ok (.iaload, 1) := by decide +kernel
theorem dX0_weigh_56 : decode cX0_weigh 56 = .ok (.iadd, 1) := by decide +kernel
theorem dX0_weigh_57 : decode cX0_weigh 57 = .ok (.invokestatic 69, 3) := by decide +kernel
theorem dX0_weigh_60 : decode cX0_weigh 60 = .ok (.iastore, 1) := by decide +kernel
theorem dX0_weigh_61 : decode cX0_weigh 61 = .ok (.iinc 3 1, 3) := by decide +kernel
theorem dX0_weigh_64 : decode cX0_weigh 64 = .ok (.goto (-60), 3) := by decide +kernel
theorem dX0_weigh_67 : decode cX0_weigh 67 = .ok (.iload_n 2, 1) := by decide +kernel
theorem dX0_weigh_68 : decode cX0_weigh 68 = .ok (.ireturn, 1) := by decide +kernel
theorem dX0_lowIn_0 : decode cX0_lowIn 0 = .ok (.iconst 0, 1) := by decide +kernel
theorem dX0_lowIn_1 : decode cX0_lowIn 1 = .ok (.istore_n 3, 1) := by decide +kernel
theorem dX0_lowIn_2 : decode cX0_lowIn 2 = .ok (.iload_n 2, 1) := by decide +kernel
theorem dX0_lowIn_3 : decode cX0_lowIn 3 = .ok (.istore 4, 2) := by decide +kernel
theorem dX0_lowIn_5 : decode cX0_lowIn 5 = .ok (.aload_n 0, 1) := by decide +kernel
theorem dX0_lowIn_6 : decode cX0_lowIn 6 = .ok (.getfield 20, 3) := by decide +kernel
theorem dX0_lowIn_9 : decode cX0_lowIn 9 = .ok (.iconst 0, 1) := by decide +kernel
theorem dX0_lowIn_10 : decode cX0_lowIn 10 = .ok (.invokestatic 45, 3) := by decide +kernel
theorem dX0_lowIn_13 : decode cX0_lowIn 13 = .ok (.aload_n 0, 1) := by decide +kernel
theorem dX0_lowIn_14 : decode cX0_lowIn 14 = .ok (.getfield 36, 3) := by decide +kernel
theorem dX0_lowIn_17 : decode cX0_lowIn 17 = .ok (.getfield 40, 3) := by decide +kernel
theorem dX0_lowIn_20 : decode cX0_lowIn 20 = .ok (.iconst 1, 1) := by decide +kernel
theorem dX0_lowIn_21 : decode cX0_lowIn 21 = .ok (.isub, 1) := by decide +kernel
theorem dX0_lowIn_22 : decode cX0_lowIn 22 = .ok (.istore 5, 2) := by decide +kernel
theorem dX0_lowIn_24 : decode cX0_lowIn 24 = .ok (.iload 5, 2) := by decide +kernel
theorem dX0_lowIn_26 : decode cX0_lowIn 26 = .ok (.ifCond .lt 81, 3) := by decide +kernel
theorem dX0_lowIn_29 : decode cX0_lowIn 29 = .ok (.iload 4, 2) := by decide +kernel
theorem dX0_lowIn_31 : decode cX0_lowIn 31 = .ok (.iconst 3, 1) := by decide +kernel
theorem dX0_lowIn_32 : decode cX0_lowIn 32 = .ok (.irem, 1) := by decide +kernel
theorem dX0_lowIn_33 : decode cX0_lowIn 33 = .ok (.istore 6, 2) := by decide +kernel
theorem dX0_lowIn_35 : decode cX0_lowIn 35 = .ok (.iload 4, 2) := by decide +kernel
theorem dX0_lowIn_37 : decode cX0_lowIn 37 = .ok (.iconst 3, 1) := by decide +kernel
theorem dX0_lowIn_38 : decode cX0_lowIn 38 = .ok (.idiv, 1) := by decide +kernel
theorem dX0_lowIn_39 : decode cX0_lowIn 39 = .ok (.istore 4, 2) := by decide +kernel
theorem dX0_lowIn_41 : decode cX0_lowIn 41 = .ok (.aload_n 0, 1) := by decide +kernel
theorem dX0_lowIn_42 : decode cX0_lowIn 42 = .ok (.getfield 20, 3) := by decide +kernel
theorem dX0_lowIn_45 : decode cX0_lowIn 45 = .ok (.iload 6, 2) := by decide +kernel
theorem dX0_lowIn_47 : decode cX0_lowIn 47 = .ok (.dup2, 1) := by decide +kernel
theorem dX0_lowIn_48 : decode cX0_lowIn 48 = .ok (.iaload, 1) := by decide +kernel
theorem dX0_lowIn_49 : decode cX0_lowIn 49 = .ok (.iconst 1, 1) := by decide +kernel
theorem dX0_lowIn_50 : decode cX0_lowIn 50 = .ok (.iadd, 1) := by decide +kernel
theorem dX0_lowIn_51 : decode cX0_lowIn 51 = .ok (.iastore, 1) := by decide +kernel
theorem dX0_lowIn_52 : decode cX0_lowIn 52 = .ok (.iload 6, 2) := by decide +kernel
theorem dX0_lowIn_54 : decode cX0_lowIn 54 = .ok (.aload_n 0, 1) := by decide +kernel
theorem dX0_lowIn_55 : decode cX0_lowIn 55 = .ok (.getfield 36, 3) := by decide +kernel
theorem dX0_lowIn_58 : decode cX0_lowIn 58 = .ok (.iload 5, 2) := by decide +kernel
theorem dX0_lowIn_60 : decode cX0_lowIn 60 = .ok (.iload_n 1, 1) := by decide +kernel
theorem dX0_lowIn_61 : decode cX0_lowIn 61 = .ok (.invokevirtual 74, 3) := by decide +kernel
theorem dX0_lowIn_64 : decode cX0_lowIn 64 = .ok (.isub, 1) := by decide +kernel
theorem dX0_lowIn_65 : decode cX0_lowIn 65 = .ok (.istore 7, 2) := by decide +kernel
theorem dX0_lowIn_67 : decode cX0_lowIn 67 = .ok (.iload 7, 2) := by decide +kernel
theorem dX0_lowIn_69 : decode cX0_lowIn 69 = .ok (.ifCond .lt 23, 3) := by decide +kernel
theorem dX0_lowIn_72 : decode cX0_lowIn 72 = .ok (.aload_n 0, 1) := by decide +kernel
theorem dX0_lowIn_73 : decode cX0_lowIn 73 = .ok (.getfield 20, 3) := by decide +kernel
theorem dX0_lowIn_76 : decode cX0_lowIn 76 = .ok (.iload 6, 2) := by decide +kernel
theorem dX0_lowIn_78 : decode cX0_lowIn 78 = .ok (.iaload, 1) := by decide +kernel
theorem dX0_lowIn_79 : decode cX0_lowIn 79 = .ok (.aload_n 0, 1) := by decide +kernel
theorem dX0_lowIn_80 : decode cX0_lowIn 80 = .ok (.getfield 36, 3) := by decide +kernel
theorem dX0_lowIn_83 : decode cX0_lowIn 83 = .ok (.getfield 77, 3) := by decide +kernel
theorem dX0_lowIn_86 : decode cX0_lowIn 86 = .ok (.iload 6, 2) := by decide +kernel
theorem dX0_lowIn_88 : decode cX0_lowIn 88 = .ok (.iaload, 1) := by decide +kernel
theorem dX0_lowIn_89 : decode cX0_lowIn 89 = .ok (.if_icmp .le 7, 3) := by decide +kernel
theorem dX0_lowIn_92 : decode cX0_lowIn 92 = .ok (.sipush 10000, 3) := by decide +kernel
theorem dX0_lowIn_95 : decode cX0_lowIn 95 = .ok (.ireturn, 1) := by decide +kernel
theorem dX0_lowIn_96 : decode cX0_lowIn 96 = .ok (.iload_n 3, 1) := by decide +kernel
theorem dX0_lowIn_97 : decode cX0_lowIn 97 = .ok (.iload 7, 2) := by decide +kernel
theorem dX0_lowIn_99 : decode cX0_lowIn 99 = .ok (.iadd, 1) := by decide +kernel
theorem dX0_lowIn_100 : decode cX0_lowIn 100 = .ok (.istore_n 3, 1) := by decide +kernel
theorem dX0_lowIn_101 : decode cX0_lowIn 101 = .ok (.iinc 5 (-1), 3) := by decide +kernel
theorem dX0_lowIn_104 : decode cX0_lowIn 104 = .ok (.goto (-80), 3) := by decide +kernel
theorem dX0_lowIn_107 : decode cX0_lowIn 107 = .ok (.iload_n 3, 1) := by decide +kernel
theorem dX0_lowIn_108 : decode cX0_lowIn 108 = .ok (.ireturn, 1) := by decide +kernel
theorem dX0_lookBack_0 : decode cX0_lookBack 0 = .ok (.aload_n 0, 1) := by decide +kernel
theorem dX0_lookBack_1 : decode cX0_lookBack 1 = .ok (.getfield 13, 3) := by decide +kernel
theorem dX0_lookBack_4 : decode cX0_lookBack 4 = .ok (.iload_n 1, 1) := by decide +kernel
theorem dX0_lookBack_5 : decode cX0_lookBack 5 = .ok (.aaload, 1) := by decide +kernel
theorem dX0_lookBack_6 : decode cX0_lookBack 6 = .ok (.iconst 0, 1) := by decide +kernel
theorem dX0_lookBack_7 : decode cX0_lookBack 7 = .ok (.aload_n 0, 1) := by decide +kernel
theorem dX0_lookBack_8 : decode cX0_lookBack 8 = .ok (.getfield 16, 3) := by decide +kernel
theorem dX0_lookBack_11 : decode cX0_lookBack 11 = .ok (.iconst 0, 1) := by decide +kernel
theorem dX0_lookBack_12 : decode cX0_lookBack 12 = .ok (.aload_n 0, 1) := by decide +kernel
theorem dX0_lookBack_13 : decode cX0_lookBack 13 = .ok (.getfield 23, 3) := by decide +kernel
theorem dX0_lookBack_16 : decode cX0_lookBack 16 = .ok (.invokestatic 80, 3) := by decide +kernel
theorem dX0_lookBack_19 : decode cX0_lookBack 19 = .ok (.iconst 1, 1) := by decide +kernel
theorem dX0_lookBack_20 : decode cX0_lookBack 20 = .ok (.istore_n 2, 1) := by decide +kernel
theorem dX0_lookBack_21 : decode cX0_lookBack 21 = .ok (.iload_n 2, 1) := by decide +kernel
theorem dX0_lookBack_22 : decode cX0_lookBack 22 = .ok (.aload_n 0, 1) := by decide +kernel
theorem dX0_lookBack_23 : decode cX0_lookBack 23 = .ok (.getfield 23, 3) := by decide +kernel
theorem dX0_lookBack_26 : decode cX0_lookBack 26 = .ok (.if_icmp .ge 47, 3) := by decide +kernel
theorem dX0_lookBack_29 : decode cX0_lookBack 29 = .ok (.iconst 0, 1) := by decide +kernel
theorem dX0_lookBack_30 : decode cX0_lookBack 30 = .ok (.istore_n 3, 1) := by decide +kernel
theorem dX0_lookBack_31 : decode cX0_lookBack 31 = .ok (.iload_n 3, 1) := by decide +kernel
theorem dX0_lookBack_32 : decode cX0_lookBack 32 = .ok (.aload_n 0, 1) := by decide +kernel
theorem dX0_lookBack_33 : decode cX0_lookBack 33 = .ok (.getfield 23, 3) := by decide +kernel
theorem dX0_lookBack_36 : decode cX0_lookBack 36 = .ok (.if_icmp .ge 30, 3) := by decide +kernel
theorem dX0_lookBack_39 : decode cX0_lookBack 39 = .ok (.iload_n 3, 1) := by decide +kernel
theorem dX0_lookBack_40 : decode cX0_lookBack 40 = .ok (.iload_n 2, 1) := by decide +kernel
theorem dX0_lookBack_41 : decode cX0_lookBack 41 = .ok (.idiv, 1) := by decide +kernel
theorem dX0_lookBack_42 : decode cX0_lookBack 42 = .ok (.iconst 3, 1) := by decide +kernel
theorem dX0_lookBack_43 : decode cX0_lookBack 43 = .ok (.irem, 1) := by decide +kernel
theorem dX0_lookBack_44 : decode cX0_lookBack 44 = .ok (.ifCond .ne 16, 3) := by decide +kernel
theorem dX0_lookBack_47 : decode cX0_lookBack 47 = .ok (.aload_n 0, 1) := by decide +kernel
theorem dX0_lookBack_48 : decode cX0_lookBack 48 = .ok (.iload_n 3, 1) := by decide +kernel
theorem dX0_lookBack_49 : decode cX0_lookBack 49 = .ok (.iload_n 3, 1) := by decide +kernel
theorem dX0_lookBack_50 : decode cX0_lookBack 50 = .ok (.iload_n 2, 1) := by decide +kernel
theorem dX0_lookBack_51 : decode cX0_lookBack 51 = .ok (.iadd, 1) := by decide +kernel
theorem dX0_lookBack_52 : decode cX0_lookBack 52 = .ok (.iload_n 3, 1) := by decide +kernel
theorem dX0_lookBack_53 : decode cX0_lookBack 53 = .ok (.iconst 2, 1) := by decide +kernel
theorem dX0_lookBack_54 : decode cX0_lookBack 54 = .ok (.iload_n 2, 1) := by decide +kernel
theorem dX0_lookBack_55 : decode cX0_lookBack 55 = .ok (.imul, 1) := by decide +kernel
theorem dX0_lookBack_56 : decode cX0_lookBack 56 = .ok (.iadd, 1) := by decide +kernel
theorem dX0_lookBack_57 : decode cX0_lookBack 57 = .ok (.invokevirtual 86, 3) := by decide +kernel
theorem dX0_lookBack_60 : decode cX0_lookBack 60 = .ok (.iinc 3 1, 3) := by decide +kernel
theorem dX0_lookBack_63 : decode cX0_lookBack 63 = .ok (.goto (-32), 3) := by decide +kernel
theorem dX0_lookBack_66 : decode cX0_lookBack 66 = .ok (.iload_n 2, 1) := by decide +kernel
theorem dX0_lookBack_67 : decode cX0_lookBack 67 = .ok (.iconst 3, 1) := by decide +kernel
theorem dX0_lookBack_68 : decode cX0_lookBack 68 = .ok (.imul, 1) := by decide +kernel
theorem dX0_lookBack_69 : decode cX0_lookBack 69 = .ok (.istore_n 2, 1) := by decide +kernel
theorem dX0_lookBack_70 : decode cX0_lookBack 70 = .ok (.goto (-49), 3) := by decide +kernel
theorem dX0_lookBack_73 : decode cX0_lookBack 73 = .ok (.return_, 1) := by decide +kernel
theorem dX0_letChange_0 : decode cX0_letChange 0 = .ok (.aload_n 0, 1) := by decide +kernel
theorem dX0_letChange_1 : decode cX0_letChange 1 = .ok (.getfield 16, 3) := by decide +kernel
theorem dX0_letChange_4 : decode cX0_letChange 4 = .ok (.iload_n 1, 1) := by decide +kernel
theorem dX0_letChange_5 : decode cX0_letChange 5 = .ok (.iaload, 1) := by decide +kernel
theorem dX0_letChange_6 : decode cX0_letChange 6 = .ok (.aload_n 0, 1) := by decide +kernel
theorem dX0_letChange_7 : decode cX0_letChange 7 = .ok (.getfield 16, 3) := by decide +kernel
theorem dX0_letChange_10 : decode cX0_letChange 10 = .ok (.iload_n 2, 1) := by decide +kernel
theorem dX0_letChange_11 : decode cX0_letChange 11 = .ok (.iaload, 1) := by decide +kernel
theorem dX0_letChange_12 : decode cX0_letChange 12 = .ok (.aload_n 0, 1) := by decide +kernel
theorem dX0_letChange_13 : decode cX0_letChange 13 = .ok (.getfield 16, 3) := by decide +kernel
theorem dX0_letChange_16 : decode cX0_letChange 16 = .ok (.iload_n 3, 1) := by decide +kernel
theorem dX0_letChange_17 : decode cX0_letChange 17 = .ok (.iaload, 1) := by decide +kernel
theorem dX0_letChange_18 : decode cX0_letChange 18 = .ok (.invokestatic 69, 3) := by decide +kernel
theorem dX0_letChange_21 : decode cX0_letChange 21 = .ok (.invokestatic 69, 3) := by decide +kernel
theorem dX0_letChange_24 : decode cX0_letChange 24 = .ok (.iconst 1, 1) := by decide +kernel
theorem dX0_letChange_25 : decode cX0_letChange 25 = .ok (.iadd, 1) := by decide +kernel
theorem dX0_letChange_26 : decode cX0_letChange 26 = .ok (.istore 4, 2) := by decide +kernel
theorem dX0_letChange_28 : decode cX0_letChange 28 = .ok (.aload_n 0, 1) := by decide +kernel
theorem dX0_letChange_29 : decode cX0_letChange 29 = .ok (.getfield 16, 3) := by decide +kernel
theorem dX0_letChange_32 : decode cX0_letChange 32 = .ok (.iload_n 1, 1) := by decide +kernel
theorem dX0_letChange_33 : decode cX0_letChange 33 = .ok (.aload_n 0, 1) := by decide +kernel
theorem dX0_letChange_34 : decode cX0_letChange 34 = .ok (.getfield 16, 3) := by decide +kernel
theorem dX0_letChange_37 : decode cX0_letChange 37 = .ok (.iload_n 1, 1) := by decide +kernel
theorem dX0_letChange_38 : decode cX0_letChange 38 = .ok (.iaload, 1) := by decide +kernel
theorem dX0_letChange_39 : decode cX0_letChange 39 = .ok (.iload 4, 2) := by decide +kernel
theorem dX0_letChange_41 : decode cX0_letChange 41 = .ok (.invokestatic 69, 3) := by decide +kernel
theorem dX0_letChange_44 : decode cX0_letChange 44 = .ok (.iastore, 1) := by decide +kernel
theorem dX0_letChange_45 : decode cX0_letChange 45 = .ok (.aload_n 0, 1) := by decide +kernel
theorem dX0_letChange_46 : decode cX0_letChange 46 = .ok (.getfield 16, 3) := by decide +kernel
theorem dX0_letChange_49 : decode cX0_letChange 49 = .ok (.iload_n 2, 1) := by decide +kernel
theorem dX0_letChange_50 : decode cX0_letChange 50 = .ok (.aload_n 0, 1) := by decide +kernel
theorem dX0_letChange_51 : decode cX0_letChange 51 = .ok (.getfield 16, 3) := by decide +kernel
theorem dX0_letChange_54 : decode cX0_letChange 54 = .ok (.iload_n 2, 1) := by decide +kernel
theorem dX0_letChange_55 : decode cX0_letChange 55 = .ok (.iaload, 1) := by decide +kernel
theorem dX0_letChange_56 : decode cX0_letChange 56 = .ok (.iload 4, 2) := by decide +kernel
theorem dX0_letChange_58 : decode cX0_letChange 58 = .ok (.invokestatic 69, 3) := by decide +kernel
theorem dX0_letChange_61 : decode cX0_letChange 61 = .ok (.iastore, 1) := by decide +kernel
theorem dX0_letChange_62 : decode cX0_letChange 62 = .ok (.aload_n 0, 1) := by decide +kernel
theorem dX0_letChange_63 : decode cX0_letChange 63 = .ok (.getfield 16, 3) := by decide +kernel
theorem dX0_letChange_66 : decode cX0_letChange 66 = .ok (.iload_n 3, 1) := by decide +kernel
theorem dX0_letChange_67 : decode cX0_letChange 67 = .ok (.aload_n 0, 1) := by decide +kernel
theorem dX0_letChange_68 : decode cX0_letChange 68 = .ok (.getfield 16, 3) := by decide +kernel
theorem dX0_letChange_71 : decode cX0_letChange 71 = .ok (.iload_n 3, 1) := by decide +kernel
theorem dX0_letChange_72 : decode cX0_letChange 72 = .ok (.iaload, 1) := by decide +kernel
theorem dX0_letChange_73 : decode cX0_letChange 73 = .ok (.iload 4, 2) := by decide +kernel
theorem dX0_letChange_75 : decode cX0_letChange 75 = .ok (.invokestatic 69, 3) := by decide +kernel
theorem dX0_letChange_78 : decode cX0_letChange 78 = .ok (.iastore, 1) := by decide +kernel
theorem dX0_letChange_79 : decode cX0_letChange 79 = .ok (.return_, 1) := by decide +kernel
theorem dX0_choose_0 : decode cX0_choose 0 = .ok (.aload_n 0, 1) := by decide +kernel
theorem dX0_choose_1 : decode cX0_choose 1 = .ok (.iconst 0, 1) := by decide +kernel
theorem dX0_choose_2 : decode cX0_choose 2 = .ok (.bipush (-9), 2) := by decide +kernel
theorem dX0_choose_4 : decode cX0_choose 4 = .ok (.invokevirtual 90, 3) := by decide +kernel
theorem dX0_choose_7 : decode cX0_choose 7 = .ok (.istore_n 1, 1) := by decide +kernel
theorem dX0_choose_8 : decode cX0_choose 8 = .ok (.aload_n 0, 1) := by decide +kernel
theorem dX0_choose_9 : decode cX0_choose 9 = .ok (.aload_n 0, 1) := by decide +kernel
theorem dX0_choose_10 : decode cX0_choose 10 = .ok (.getfield 13, 3) := by decide +kernel
theorem dX0_choose_13 : decode cX0_choose 13 = .ok (.iconst 0, 1) := by decide +kernel
theorem dX0_choose_14 : decode cX0_choose 14 = .ok (.aaload, 1) := by decide +kernel
theorem dX0_choose_15 : decode cX0_choose 15 = .ok (.iload_n 1, 1) := by decide +kernel
theorem dX0_choose_16 : decode cX0_choose 16 = .ok (.iaload, 1) := by decide +kernel
theorem dX0_choose_17 : decode cX0_choose 17 = .ok (.putfield 30, 3) := by decide +kernel
theorem dX0_choose_20 : decode cX0_choose 20 = .ok (.aload_n 0, 1) := by decide +kernel
theorem dX0_choose_21 : decode cX0_choose 21 = .ok (.iconst 0, 1) := by decide +kernel
theorem dX0_choose_22 : decode cX0_choose 22 = .ok (.iload_n 1, 1) := by decide +kernel
theorem dX0_choose_23 : decode cX0_choose 23 = .ok (.invokevirtual 93, 3) := by decide +kernel
theorem dX0_choose_26 : decode cX0_choose 26 = .ok (.iconst 1, 1) := by decide +kernel
theorem dX0_choose_27 : decode cX0_choose 27 = .ok (.istore_n 2, 1) := by decide +kernel
theorem dX0_choose_28 : decode cX0_choose 28 = .ok (.iload_n 2, 1) := by decide +kernel
theorem dX0_choose_29 : decode cX0_choose 29 = .ok (.aload_n 0, 1) := by decide +kernel
theorem dX0_choose_30 : decode cX0_choose 30 = .ok (.getfield 36, 3) := by decide +kernel
theorem dX0_choose_33 : decode cX0_choose 33 = .ok (.getfield 51, 3) := by decide +kernel
theorem dX0_choose_36 : decode cX0_choose 36 = .ok (.if_icmp .ge 22, 3) := by decide +kernel
theorem dX0_choose_39 : decode cX0_choose 39 = .ok (.aload_n 0, 1) := by decide +kernel
theorem dX0_choose_40 : decode cX0_choose 40 = .ok (.iload_n 2, 1) := by decide +kernel
theorem dX0_choose_41 : decode cX0_choose 41 = .ok (.iload_n 1, 1) := by decide +kernel
theorem dX0_choose_42 : decode cX0_choose 42 = .ok (.invokevirtual 90, 3) := by decide +kernel
theorem dX0_choose_45 : decode cX0_choose 45 = .ok (.istore_n 1, 1) := by decide +kernel
theorem dX0_choose_46 : decode cX0_choose 46 = .ok (.aload_n 0, 1) := by decide +kernel
theorem dX0_choose_47 : decode cX0_choose 47 = .ok (.iload_n 2, 1) := by decide +kernel
theorem dX0_choose_48 : decode cX0_choose 48 = .ok (.iload_n 1, 1) := by decide +kernel
theorem dX0_choose_49 : decode cX0_choose 49 = .ok (.invokevirtual 93, 3) := by decide +kernel
theorem dX0_choose_52 : decode cX0_choose 52 = .ok (.iinc 2 1, 3) := by decide +kernel
theorem dX0_choose_55 : decode cX0_choose 55 = .ok (.goto (-27), 3) := by decide +kernel
theorem dX0_choose_58 : decode cX0_choose 58 = .ok (.return_, 1) := by decide +kernel
theorem dX0_firstOfLeast_0 : decode cX0_firstOfLeast 0 = .ok (.iconst 0, 1) := by decide +kernel
theorem dX0_firstOfLeast_1 : decode cX0_firstOfLeast 1 = .ok (.istore_n 3, 1) := by decide +kernel
theorem dX0_firstOfLeast_2 : decode cX0_firstOfLeast 2 = .ok (.sipush 20000, 3) := by decide +kernel
theorem dX0_firstOfLeast_5 : decode cX0_firstOfLeast 5 = .ok (.istore 4, 2) := by decide +kernel
theorem dX0_firstOfLeast_7 : decode cX0_firstOfLeast 7 = .ok (.iconst 0, 1) := by decide +kernel
theorem dX0_firstOfLeast_8 : decode cX0_firstOfLeast 8 = .ok (.istore 5, 2) := by decide +kernel
theorem dX0_firstOfLeast_10 : decode cX0_firstOfLeast 10 = .ok (.iload 5, 2) := by decide +kernel
theorem dX0_firstOfLeast_12 : decode cX0_firstOfLeast 12 = .ok (.aload_n 0, 1) := by decide +kernel
theorem dX0_firstOfLeast_13 : decode cX0_firstOfLeast 13 = .ok (.getfield 23, 3) := by decide +kernel
theorem dX0_firstOfLeast_16 : decode cX0_firstOfLeast 16 = .ok (.if_icmp .ge 51, 3) := by decide +kernel
theorem dX0_firstOfLeast_19 : decode cX0_firstOfLeast 19 = .ok (.aload_n 0, 1) := by decide +kernel
theorem dX0_firstOfLeast_20 : decode cX0_firstOfLeast 20 = .ok (.getfield 13, 3) := by decide +kernel
theorem dX0_firstOfLeast_23 : decode cX0_firstOfLeast 23 = .ok (.iload_n 1, 1) := by decide +kernel
theorem dX0_firstOfLeast_24 : decode cX0_firstOfLeast 24 = .ok (.aaload, 1) := by decide +kernel
theorem dX0_firstOfLeast_25 : decode cX0_firstOfLeast 25 = .ok (.iload 5, 2) := by decide +kernel
theorem dX0_firstOfLeast_27 : decode cX0_firstOfLeast 27 = .ok (.iaload, 1) := by decide +kernel
theorem dX0_firstOfLeast_28 : decode cX0_firstOfLeast 28 = .ok (.iload_n 2, 1) := by decide +kernel
theorem dX0_firstOfLeast_29 : decode cX0_firstOfLeast 29 = .ok (.bipush (-9), 2) := by decide +kernel
theorem dX0_firstOfLeast_31 : decode cX0_firstOfLeast 31 = .ok (.if_icmp .ne 7, 3) := by decide +kernel
theorem dX0_firstOfLeast_34 : decode cX0_firstOfLeast 34 = .ok (.iconst 0, 1) := by decide +kernel
theorem dX0_firstOfLeast_35 : decode cX0_firstOfLeast 35 = .ok (.goto 9, 3) := by decide +kernel
theorem dX0_firstOfLeast_38 : decode cX0_firstOfLeast 38 = .ok (.iload_n 2, 1) := by decide +kernel
theorem dX0_firstOfLeast_39 : decode cX0_firstOfLeast 39 = .ok (.iload 5, 2) := by decide +kernel
theorem dX0_firstOfLeast_41 : decode cX0_firstOfLeast 41 = .ok (.invokestatic 97, 3) := by decide +kernel
theorem dX0_firstOfLeast_44 : decode cX0_firstOfLeast 44 = .ok (.iadd, 1) := by decide +kernel
theorem dX0_firstOfLeast_45 : decode cX0_firstOfLeast 45 = .ok (.istore 6, 2) := by decide +kernel
theorem dX0_firstOfLeast_47 : decode cX0_firstOfLeast 47 = .ok (.iload 6, 2) := by decide +kernel
theorem dX0_firstOfLeast_49 : decode cX0_firstOfLeast 49 = .ok (.iload 4, 2) := by decide +kernel
theorem dX0_firstOfLeast_51 : decode cX0_firstOfLeast 51 = .ok (.if_icmp .ge 10, 3) := by decide +kernel
theorem dX0_firstOfLeast_54 : decode cX0_firstOfLeast 54 = .ok (.iload 5, 2) := by decide +kernel
theorem dX0_firstOfLeast_56 : decode cX0_firstOfLeast 56 = .ok (.istore_n 3, 1) := by decide +kernel
theorem dX0_firstOfLeast_57 : decode cX0_firstOfLeast 57 = .ok (.iload 6, 2) := by decide +kernel
theorem dX0_firstOfLeast_59 : decode cX0_firstOfLeast 59 = .ok (.istore 4, 2) := by decide +kernel
theorem dX0_firstOfLeast_61 : decode cX0_firstOfLeast 61 = .ok (.iinc 5 1, 3) := by decide +kernel
theorem dX0_firstOfLeast_64 : decode cX0_firstOfLeast 64 = .ok (.goto (-54), 3) := by decide +kernel
theorem dX0_firstOfLeast_67 : decode cX0_firstOfLeast 67 = .ok (.iload_n 3, 1) := by decide +kernel
theorem dX0_firstOfLeast_68 : decode cX0_firstOfLeast 68 = .ok (.ireturn, 1) := by decide +kernel
theorem dX0_changesBetween_0 : decode cX0_changesBetween 0 = .ok (.iconst 0, 1) := by decide +kernel
theorem dX0_changesBetween_1 : decode cX0_changesBetween 1 = .ok (.istore_n 2, 1) := by decide +kernel
theorem dX0_changesBetween_2 : decode cX0_changesBetween 2 = .ok (.iload_n 0, 1) := by decide +kernel
theorem dX0_changesBetween_3 : decode cX0_changesBetween 3 = .ok (.istore_n 3, 1) := by decide +kernel
theorem dX0_changesBetween_4 : decode cX0_changesBetween 4 = .ok (.iload_n 1, 1) := by decide +kernel
theorem dX0_changesBetween_5 : decode cX0_changesBetween 5 = .ok (.istore 4, 2) := by decide +kernel
theorem dX0_changesBetween_7 : decode cX0_changesBetween 7 = .ok (.iconst 0, 1) := by decide +kernel
theorem dX0_changesBetween_8 : decode cX0_changesBetween 8 = .ok (.istore 5, 2) := by decide +kernel
theorem dX0_changesBetween_10 : decode cX0_changesBetween 10 = .ok (.iload 5, 2) := by decide +kernel
theorem dX0_changesBetween_12 : decode cX0_changesBetween 12 = .ok (.iconst 4, 1) := by decide +kernel
theorem dX0_changesBetween_13 : decode cX0_changesBetween 13 = .ok (.if_icmp .ge 32, 3) := by decide +kernel
theorem dX0_changesBetween_16 : decode cX0_changesBetween 16 = .ok (.iload_n 3, 1) := by decide +kernel
theorem dX0_changesBetween_17 : decode cX0_changesBetween 17 = .ok (.iconst 3, 1) := by decide +kernel
theorem dX0_changesBetween_18 : decode cX0_changesBetween 18 = .ok (.irem, 1) := by decide +kernel
theorem dX0_changesBetween_19 : decode cX0_changesBetween 19 = .ok (.iload 4, 2) := by decide +kernel
theorem dX0_changesBetween_21 : decode cX0_changesBetween 21 = .ok (.iconst 3, 1) := by decide +kernel
theorem dX0_changesBetween_22 : decode cX0_changesBetween 22 = .ok (.irem, 1) := by decide +kernel
theorem dX0_changesBetween_23 : decode cX0_changesBetween 23 = .ok (.if_icmp .eq 6, 3) := by decide +kernel
theorem dX0_changesBetween_26 : decode cX0_changesBetween 26 = .ok (.iinc 2 1, 3) := by decide +kernel
theorem dX0_changesBetween_29 : decode cX0_changesBetween 29 = .ok (.iload_n 3, 1) := by decide +kernel
theorem dX0_changesBetween_30 : decode cX0_changesBetween 30 = .ok (.iconst 3, 1) := by decide +kernel
theorem dX0_changesBetween_31 : decode cX0_changesBetween 31 = .ok (.idiv, 1) := by decide +kernel
theorem dX0_changesBetween_32 : decode cX0_changesBetween 32 = .ok (.istore_n 3, 1) := by decide +kernel
theorem dX0_changesBetween_33 : decode cX0_changesBetween 33 = .ok (.iload 4, 2) := by decide +kernel
theorem dX0_changesBetween_35 : decode cX0_changesBetween 35 = .ok (.iconst 3, 1) := by decide +kernel
theorem dX0_changesBetween_36 : decode cX0_changesBetween 36 = .ok (.idiv, 1) := by decide +kernel
theorem dX0_changesBetween_37 : decode cX0_changesBetween 37 = .ok (.istore 4, 2) := by decide +kernel
theorem dX0_changesBetween_39 : decode cX0_changesBetween 39 = .ok (.iinc 5 1, 3) := by decide +kernel
theorem dX0_changesBetween_42 : decode cX0_changesBetween 42 = .ok (.goto (-32), 3) := by decide +kernel
theorem dX0_changesBetween_45 : decode cX0_changesBetween 45 = .ok (.iload_n 2, 1) := by decide +kernel
theorem dX0_changesBetween_46 : decode cX0_changesBetween 46 = .ok (.ireturn, 1) := by decide +kernel
theorem dX0_write_0 : decode cX0_write 0 = .ok (.iload_n 2, 1) := by decide +kernel
theorem dX0_write_1 : decode cX0_write 1 = .ok (.istore_n 3, 1) := by decide +kernel
theorem dX0_write_2 : decode cX0_write 2 = .ok (.aload_n 0, 1) := by decide +kernel
theorem dX0_write_3 : decode cX0_write 3 = .ok (.getfield 36, 3) := by decide +kernel
theorem dX0_write_6 : decode cX0_write 6 = .ok (.getfield 40, 3) := by decide +kernel
theorem dX0_write_9 : decode cX0_write 9 = .ok (.iconst 1, 1) := by decide +kernel
theorem dX0_write_10 : decode cX0_write 10 = .ok (.isub, 1) := by decide +kernel
theorem dX0_write_11 : decode cX0_write 11 = .ok (.istore 4, 2) := by decide +kernel
theorem dX0_write_13 : decode cX0_write 13 = .ok (.iload 4, 2) := by decide +kernel
theorem dX0_write_15 : decode cX0_write 15 = .ok (.ifCond .lt 33, 3) := by decide +kernel
theorem dX0_write_18 : decode cX0_write 18 = .ok (.aload_n 0, 1) := by decide +kernel
theorem dX0_write_19 : decode cX0_write 19 = .ok (.getfield 27, 3) := by decide +kernel
theorem dX0_write_22 : decode cX0_write 22 = .ok (.iload_n 1, 1) := by decide +kernel
theorem dX0_write_23 : decode cX0_write 23 = .ok (.aload_n 0, 1) := by decide +kernel
theorem dX0_write_24 : decode cX0_write 24 = .ok (.getfield 36, 3) := by decide +kernel
theorem dX0_write_27 : decode cX0_write 27 = .ok (.getfield 40, 3) := by decide +kernel
theorem dX0_write_30 : decode cX0_write 30 = .ok (.imul, 1) := by decide +kernel
theorem dX0_write_31 : decode cX0_write 31 = .ok (.iload 4, 2) := by decide +kernel
theorem dX0_write_33 : decode cX0_write 33 = .ok (.iadd, 1) := by decide +kernel
theorem dX0_write_34 : decode cX0_write 34 = .ok (.iload_n 3, 1) := by decide +kernel
theorem dX0_write_35 : decode cX0_write 35 = .ok (.iconst 3, 1) := by decide +kernel
theorem dX0_write_36 : decode cX0_write 36 = .ok (.irem, 1) := by decide +kernel
theorem dX0_write_37 : decode cX0_write 37 = .ok (.iastore, 1) := by decide +kernel
theorem dX0_write_38 : decode cX0_write 38 = .ok (.iload_n 3, 1) := by decide +kernel
theorem dX0_write_39 : decode cX0_write 39 = .ok (.iconst 3, 1) := by decide +kernel
theorem dX0_write_40 : decode cX0_write 40 = .ok (.idiv, 1) := by decide +kernel
theorem dX0_write_41 : decode cX0_write 41 = .ok (.istore_n 3, 1) := by decide +kernel
theorem dX0_write_42 : decode cX0_write 42 = .ok (.iinc 4 (-1), 3) := by decide +kernel
theorem dX0_write_45 : decode cX0_write 45 = .ok (.goto (-32), 3) := by decide +kernel
theorem dX0_write_48 : decode cX0_write 48 = .ok (.return_, 1) := by decide +kernel
theorem dX1_init_0 : decode cX1_init 0 = .ok (.aload_n 0, 1) := by decide +kernel
theorem dX1_init_1 : decode cX1_init 1 = .ok (.invokespecial 3, 3) := by decide +kernel
theorem dX1_init_4 : decode cX1_init 4 = .ok (.aload_n 0, 1) := by decide +kernel
theorem dX1_init_5 : decode cX1_init 5 = .ok (.bipush 8, 2) := by decide +kernel
theorem dX1_init_7 : decode cX1_init 7 = .ok (.newarray .int, 2) := by decide +kernel
theorem dX1_init_9 : decode cX1_init 9 = .ok (.putfield 9, 3) := by decide +kernel
theorem dX1_init_12 : decode cX1_init 12 = .ok (.aload_n 0, 1) := by decide +kernel
theorem dX1_init_13 : decode cX1_init 13 = .ok (.bipush 8, 2) := by decide +kernel
theorem dX1_init_15 : decode cX1_init 15 = .ok (.newarray .int, 2) := by decide +kernel
theorem dX1_init_17 : decode cX1_init 17 = .ok (.putfield 15, 3) := by decide +kernel
theorem dX1_init_20 : decode cX1_init 20 = .ok (.aload_n 0, 1) := by decide +kernel
theorem dX1_init_21 : decode cX1_init 21 = .ok (.bipush 8, 2) := by decide +kernel
theorem dX1_init_23 : decode cX1_init 23 = .ok (.newarray .int, 2) := by decide +kernel
theorem dX1_init_25 : decode cX1_init 25 = .ok (.putfield 18, 3) := by decide +kernel
theorem dX1_init_28 : decode cX1_init 28 = .ok (.aload_n 0, 1) := by decide +kernel
theorem dX1_init_29 : decode cX1_init 29 = .ok (.iconst 0, 1) := by decide +kernel
theorem dX1_init_30 : decode cX1_init 30 = .ok (.putfield 21, 3) := by decide +kernel
theorem dX1_init_33 : decode cX1_init 33 = .ok (.return_, 1) := by decide +kernel
theorem dX1_keep_0 : decode cX1_keep 0 = .ok (.aload_n 0, 1) := by decide +kernel
theorem dX1_keep_1 : decode cX1_keep 1 = .ok (.getfield 9, 3) := by decide +kernel
theorem dX1_keep_4 : decode cX1_keep 4 = .ok (.aload_n 0, 1) := by decide +kernel
theorem dX1_keep_5 : decode cX1_keep 5 = .ok (.getfield 21, 3) := by decide +kernel
theorem dX1_keep_8 : decode cX1_keep 8 = .ok (.iload_n 1, 1) := by decide +kernel
theorem dX1_keep_9 : decode cX1_keep 9 = .ok (.iastore, 1) := by decide +kernel
theorem dX1_keep_10 : decode cX1_keep 10 = .ok (.aload_n 0, 1) := by decide +kernel
theorem dX1_keep_11 : decode cX1_keep 11 = .ok (.getfield 15, 3) := by decide +kernel
theorem dX1_keep_14 : decode cX1_keep 14 = .ok (.aload_n 0, 1) := by decide +kernel
theorem dX1_keep_15 : decode cX1_keep 15 = .ok (.getfield 21, 3) := by decide +kernel
theorem dX1_keep_18 : decode cX1_keep 18 = .ok (.iload_n 2, 1) := by decide +kernel
theorem dX1_keep_19 : decode cX1_keep 19 = .ok (.iastore, 1) := by decide +kernel
theorem dX1_keep_20 : decode cX1_keep 20 = .ok (.aload_n 0, 1) := by decide +kernel
theorem dX1_keep_21 : decode cX1_keep 21 = .ok (.getfield 18, 3) := by decide +kernel
theorem dX1_keep_24 : decode cX1_keep 24 = .ok (.aload_n 0, 1) := by decide +kernel
theorem dX1_keep_25 : decode cX1_keep 25 = .ok (.getfield 21, 3) := by decide +kernel
theorem dX1_keep_28 : decode cX1_keep 28 = .ok (.iload_n 3, 1) := by decide +kernel
theorem dX1_keep_29 : decode cX1_keep 29 = .ok (.iastore, 1) := by decide +kernel
theorem dX1_keep_30 : decode cX1_keep 30 = .ok (.aload_n 0, 1) := by decide +kernel
theorem dX1_keep_31 : decode cX1_keep 31 = .ok (.dup, 1) := by decide +kernel
theorem dX1_keep_32 : decode cX1_keep 32 = .ok (.getfield 21, 3) := by decide +kernel
theorem dX1_keep_35 : decode cX1_keep 35 = .ok (.iconst 1, 1) := by decide +kernel
theorem dX1_keep_36 : decode cX1_keep 36 = .ok (.iadd, 1) := by decide +kernel
theorem dX1_keep_37 : decode cX1_keep 37 = .ok (.putfield 21, 3) := by decide +kernel
theorem dX1_keep_40 : decode cX1_keep 40 = .ok (.aload_n 0, 1) := by decide +kernel
theorem dX1_keep_41 : decode cX1_keep 41 = .ok (.getfield 21, 3) := by decide +kernel
theorem dX1_keep_44 : decode cX1_keep 44 = .ok (.iconst 1, 1) := by decide +kernel
theorem dX1_keep_45 : decode cX1_keep 45 = .ok (.isub, 1) := by decide +kernel
theorem dX1_keep_46 : decode cX1_keep 46 = .ok (.ireturn, 1) := by decide +kernel
theorem dX1_areSo_0 : decode cX1_areSo 0 = .ok (.iconst 0, 1) := by decide +kernel
theorem dX1_areSo_1 : decode cX1_areSo 1 = .ok (.istore_n 2, 1) := by decide +kernel
theorem dX1_areSo_2 : decode cX1_areSo 2 = .ok (.iload_n 2, 1) := by decide +kernel
theorem dX1_areSo_3 : decode cX1_areSo 3 = .ok (.aload_n 0, 1) := by decide +kernel
theorem dX1_areSo_4 : decode cX1_areSo 4 = .ok (.getfield 21, 3) := by decide +kernel
theorem dX1_areSo_7 : decode cX1_areSo 7 = .ok (.if_icmp .ge 36, 3) := by decide +kernel
theorem dX1_areSo_10 : decode cX1_areSo 10 = .ok (.aload_n 1, 1) := by decide +kernel
theorem dX1_areSo_11 : decode cX1_areSo 11 = .ok (.aload_n 0, 1) := by decide +kernel
theorem dX1_areSo_12 : decode cX1_areSo 12 = .ok (.getfield 9, 3) := by decide +kernel
theorem dX1_areSo_15 : decode cX1_areSo 15 = .ok (.iload_n 2, 1) := by decide +kernel
theorem dX1_areSo_16 : decode cX1_areSo 16 = .ok (.iaload, 1) := by decide +kernel
theorem dX1_areSo_17 : decode cX1_areSo 17 = .ok (.aload_n 0, 1) := by decide +kernel
theorem dX1_areSo_18 : decode cX1_areSo 18 = .ok (.getfield 15, 3) := by decide +kernel
theorem dX1_areSo_21 : decode cX1_areSo 21 = .ok (.iload_n 2, 1) := by decide +kernel
theorem dX1_areSo_22 : decode cX1_areSo 22 = .ok (.iaload, 1) := by decide +kernel
theorem dX1_areSo_23 : decode cX1_areSo 23 = .ok (.invokevirtual 25, 3) := by decide +kernel
theorem dX1_areSo_26 : decode cX1_areSo 26 = .ok (.aload_n 0, 1) := by decide +kernel
theorem dX1_areSo_27 : decode cX1_areSo 27 = .ok (.getfield 18, 3) := by decide +kernel
theorem dX1_areSo_30 : decode cX1_areSo 30 = .ok (.iload_n 2, 1) := by decide +kernel
theorem dX1_areSo_31 : decode cX1_areSo 31 = .ok (.iaload, 1) := by decide +kernel
theorem dX1_areSo_32 : decode cX1_areSo 32 = .ok (.if_icmp .eq 5, 3) := by decide +kernel
theorem dX1_areSo_35 : decode cX1_areSo 35 = .ok (.iconst 0, 1) := by decide +kernel
theorem dX1_areSo_36 : decode cX1_areSo 36 = .ok (.ireturn, 1) := by decide +kernel
theorem dX1_areSo_37 : decode cX1_areSo 37 = .ok (.iinc 2 1, 3) := by decide +kernel
theorem dX1_areSo_40 : decode cX1_areSo 40 = .ok (.goto (-38), 3) := by decide +kernel
theorem dX1_areSo_43 : decode cX1_areSo 43 = .ok (.iconst 1, 1) := by decide +kernel
theorem dX1_areSo_44 : decode cX1_areSo 44 = .ok (.ireturn, 1) := by decide +kernel
theorem dX2_init_0 : decode cX2_init 0 = .ok (.aload_n 0, 1) := by decide +kernel
theorem dX2_init_1 : decode cX2_init 1 = .ok (.invokespecial 3, 3) := by decide +kernel
theorem dX2_init_4 : decode cX2_init 4 = .ok (.aload_n 0, 1) := by decide +kernel
theorem dX2_init_5 : decode cX2_init 5 = .ok (.bipush 32, 2) := by decide +kernel
theorem dX2_init_7 : decode cX2_init 7 = .ok (.newarray .int, 2) := by decide +kernel
theorem dX2_init_9 : decode cX2_init 9 = .ok (.putfield 9, 3) := by decide +kernel
theorem dX2_init_12 : decode cX2_init 12 = .ok (.aload_n 0, 1) := by decide +kernel
theorem dX2_init_13 : decode cX2_init 13 = .ok (.iconst 3, 1) := by decide +kernel
theorem dX2_init_14 : decode cX2_init 14 = .ok (.newarray .int, 2) := by decide +kernel
theorem dX2_init_16 : decode cX2_init 16 = .ok (.putfield 15, 3) := by decide +kernel
theorem dX2_init_19 : decode cX2_init 19 = .ok (.aload_n 0, 1) := by decide +kernel
theorem dX2_init_20 : decode cX2_init 20 = .ok (.aload_n 1, 1) := by decide +kernel
theorem dX2_init_21 : decode cX2_init 21 = .ok (.putfield 18, 3) := by decide +kernel
theorem dX2_init_24 : decode cX2_init 24 = .ok (.return_, 1) := by decide +kernel
theorem dX2_readFrom_0 : decode cX2_readFrom 0 = .ok (.aload_n 0, 1) := by decide +kernel
theorem dX2_readFrom_1 : decode cX2_readFrom 1 = .ok (.getfield 18, 3) := by decide +kernel
theorem dX2_readFrom_4 : decode cX2_readFrom 4 = .ok (.getfield 22, 3) := by decide +kernel
theorem dX2_readFrom_7 : decode cX2_readFrom 7 = .ok (.aload_n 0, 1) := by decide +kernel
theorem dX2_readFrom_8 : decode cX2_readFrom 8 = .ok (.getfield 18, 3) := by decide +kernel
theorem dX2_readFrom_11 : decode cX2_readFrom 11 = .ok (.getfield 28, 3) := by decide +kernel
theorem dX2_readFrom_14 : decode cX2_readFrom 14 = .ok (.imul, 1) := by decide +kernel
theorem dX2_readFrom_15 : decode cX2_readFrom 15 = .ok (.istore_n 3, 1) := by decide +kernel
theorem dX2_readFrom_16 : decode cX2_readFrom 16 = .ok (.iconst 0, 1) := by decide +kernel
theorem dX2_readFrom_17 : decode cX2_readFrom 17 = .ok (.istore 4, 2) := by decide +kernel
theorem dX2_readFrom_19 : decode cX2_readFrom 19 = .ok (.iload 4, 2) := by decide +kernel
theorem dX2_readFrom_21 : decode cX2_readFrom 21 = .ok (.iload_n 3, 1) := by decide +kernel
theorem dX2_readFrom_22 : decode cX2_readFrom 22 = .ok (.if_icmp .ge 36, 3) := by decide +kernel
theorem dX2_readFrom_25 : decode cX2_readFrom 25 = .ok (.aload_n 1, 1) := by decide +kernel
theorem dX2_readFrom_26 : decode cX2_readFrom 26 = .ok (.iload_n 2, 1) := by decide +kernel
theorem dX2_readFrom_27 : decode cX2_readFrom 27 = .ok (.iload 4, 2) := by decide +kernel
theorem dX2_readFrom_29 : decode cX2_readFrom 29 = .ok (.iadd, 1) := by decide +kernel
theorem dX2_readFrom_30 : decode cX2_readFrom 30 = .ok (.iaload, 1) := by decide +kernel
theorem dX2_readFrom_31 : decode cX2_readFrom 31 = .ok (.invokestatic 31, 3) := by decide +kernel
theorem dX2_readFrom_34 : decode cX2_readFrom 34 = .ok (.ifCond .eq 5, 3) := by decide +kernel
theorem dX2_readFrom_37 : decode cX2_readFrom 37 = .ok (.iconst 0, 1) := by decide +kernel
theorem dX2_readFrom_38 : decode cX2_readFrom 38 = .ok (.ireturn, 1) := by decide +kernel
theorem dX2_readFrom_39 : decode cX2_readFrom 39 = .ok (.aload_n 0, 1) := by decide +kernel
theorem dX2_readFrom_40 : decode cX2_readFrom 40 = .ok (.getfield 9, 3) := by decide +kernel
theorem dX2_readFrom_43 : decode cX2_readFrom 43 = .ok (.iload 4, 2) := by decide +kernel
theorem dX2_readFrom_45 : decode cX2_readFrom 45 = .ok (.aload_n 1, 1) := by decide +kernel
theorem dX2_readFrom_46 : decode cX2_readFrom 46 = .ok (.iload_n 2, 1) := by decide +kernel
theorem dX2_readFrom_47 : decode cX2_readFrom 47 = .ok (.iload 4, 2) := by decide +kernel
theorem dX2_readFrom_49 : decode cX2_readFrom 49 = .ok (.iadd, 1) := by decide +kernel
theorem dX2_readFrom_50 : decode cX2_readFrom 50 = .ok (.iaload, 1) := by decide +kernel
theorem dX2_readFrom_51 : decode cX2_readFrom 51 = .ok (.iastore, 1) := by decide +kernel
theorem dX2_readFrom_52 : decode cX2_readFrom 52 = .ok (.iinc 4 1, 3) := by decide +kernel
theorem dX2_readFrom_55 : decode cX2_readFrom 55 = .ok (.goto (-36), 3) := by decide +kernel
theorem dX2_readFrom_58 : decode cX2_readFrom 58 = .ok (.iconst 1, 1) := by decide +kernel
theorem dX2_readFrom_59 : decode cX2_readFrom 59 = .ok (.ireturn, 1) := by decide +kernel
theorem dX2_classOf_0 : decode cX2_classOf 0 = .ok (.aload_n 0, 1) := by decide +kernel
theorem dX2_classOf_1 : decode cX2_classOf 1 = .ok (.getfield 9, 3) := by decide +kernel
theorem dX2_classOf_4 : decode cX2_classOf 4 = .ok (.iload_n 2, 1) := by decide +kernel
theorem dX2_classOf_5 : decode cX2_classOf 5 = .ok (.aload_n 0, 1) := by decide +kernel
theorem dX2_classOf_6 : decode cX2_classOf 6 = .ok (.getfield 18, 3) := by decide +kernel
theorem dX2_classOf_9 : decode cX2_classOf 9 = .ok (.getfield 28, 3) := by decide +kernel
theorem dX2_classOf_12 : decode cX2_classOf 12 = .ok (.imul, 1) := by decide +kernel
theorem dX2_classOf_13 : decode cX2_classOf 13 = .ok (.iload_n 1, 1) := by decide +kernel
theorem dX2_classOf_14 : decode cX2_classOf 14 = .ok (.iadd, 1) := by decide +kernel
theorem dX2_classOf_15 : decode cX2_classOf 15 = .ok (.iaload, 1) := by decide +kernel
theorem dX2_classOf_16 : decode cX2_classOf 16 = .ok (.ireturn, 1) := by decide +kernel
theorem dX2_firstWrong_0 : decode cX2_firstWrong 0 = .ok (.iconst 0, 1) := by decide +kernel
theorem dX2_firstWrong_1 : decode cX2_firstWrong 1 = .ok (.istore_n 1, 1) := by decide +kernel
theorem dX2_firstWrong_2 : decode cX2_firstWrong 2 = .ok (.iload_n 1, 1) := by decide +kernel
theorem dX2_firstWrong_3 : decode cX2_firstWrong 3 = .ok (.aload_n 0, 1) := by decide +kernel
theorem dX2_firstWrong_4 : decode cX2_firstWrong 4 = .ok (.getfield 18, 3) := by decide +kernel
theorem dX2_firstWrong_7 : decode cX2_firstWrong 7 = .ok (.getfield 22, 3) := by decide +kernel
theorem dX2_firstWrong_10 : decode cX2_firstWrong 10 = .ok (.if_icmp .ge 73, 3) := by decide +kernel
theorem dX2_firstWrong_13 : decode cX2_firstWrong 13 = .ok (.aload_n 0, 1) := by decide +kernel
theorem dX2_firstWrong_14 : decode cX2_firstWrong 14 = .ok (.getfield 15, 3) := by decide +kernel
theorem dX2_firstWrong_17 : decode cX2_firstWrong 17 = .ok (.iconst 0, 1) := by decide +kernel
theorem dX2_firstWrong_18 : decode cX2_firstWrong 18 = .ok (.invokestatic 35, 3) := by decide +kernel
theorem dX2_firstWrong_21 : decode cX2_firstWrong 21 = .ok (.iconst 0, 1) := by decide +kernel
theorem dX2_firstWrong_22 : decode cX2_firstWrong 22 = .ok (.istore_n 2, 1) := by decide +kernel
theorem dX2_firstWrong_23 : decode cX2_firstWrong 23 = .ok (.iload_n 2, 1) := by decide +kernel
theorem dX2_firstWrong_24 : decode cX2_firstWrong 24 = .ok (.aload_n 0, 1) := by decide +kernel
theorem dX2_firstWrong_25 : decode cX2_firstWrong 25 = .ok (.getfield 18, 3) := by decide +kernel
theorem dX2_firstWrong_28 : decode cX2_firstWrong 28 = .ok (.getfield 28, 3) := by decide +kernel
theorem dX2_firstWrong_31 : decode cX2_firstWrong 31 = .ok (.if_icmp .ge 46, 3) := by decide +kernel
theorem dX2_firstWrong_34 : decode cX2_firstWrong 34 = .ok (.aload_n 0, 1) := by decide +kernel
theorem dX2_firstWrong_35 : decode cX2_firstWrong 35 = .ok (.iload_n 2, 1) := by decide +kernel
theorem dX2_firstWrong_36 : decode cX2_firstWrong 36 = .ok (.iload_n 1, 1) := by decide +kernel
theorem dX2_firstWrong_37 : decode cX2_firstWrong 37 = .ok (.invokevirtual 41, 3) := by decide +kernel
theorem dX2_firstWrong_40 : decode cX2_firstWrong 40 = .ok (.istore_n 3, 1) := by decide +kernel
theorem dX2_firstWrong_41 : decode cX2_firstWrong 41 = .ok (.aload_n 0, 1) := by decide +kernel
theorem dX2_firstWrong_42 : decode cX2_firstWrong 42 = .ok (.getfield 15, 3) := by decide +kernel
theorem dX2_firstWrong_45 : decode cX2_firstWrong 45 = .ok (.iload_n 3, 1) := by decide +kernel
theorem dX2_firstWrong_46 : decode cX2_firstWrong 46 = .ok (.dup2, 1) := by decide +kernel
theorem dX2_firstWrong_47 : decode cX2_firstWrong 47 = .ok (.iaload, 1) := by decide +kernel
theorem dX2_firstWrong_48 : decode cX2_firstWrong 48 = .ok (.iconst 1, 1) := by decide +kernel
theorem dX2_firstWrong_49 : decode cX2_firstWrong 49 = .ok (.iadd, 1) := by decide +kernel
theorem dX2_firstWrong_50 : decode cX2_firstWrong 50 = .ok (.iastore, 1) := by decide +kernel
theorem dX2_firstWrong_51 : decode cX2_firstWrong 51 = .ok (.aload_n 0, 1) := by decide +kernel
theorem dX2_firstWrong_52 : decode cX2_firstWrong 52 = .ok (.getfield 15, 3) := by decide +kernel
theorem dX2_firstWrong_55 : decode cX2_firstWrong 55 = .ok (.iload_n 3, 1) := by decide +kernel
theorem dX2_firstWrong_56 : decode cX2_firstWrong 56 = .ok (.iaload, 1) := by decide +kernel
theorem dX2_firstWrong_57 : decode cX2_firstWrong 57 = .ok (.aload_n 0, 1) := by decide +kernel
theorem dX2_firstWrong_58 : decode cX2_firstWrong 58 = .ok (.getfield 18, 3) := by decide +kernel
theorem dX2_firstWrong_61 : decode cX2_firstWrong 61 = .ok (.getfield 45, 3) := by decide +kernel
theorem dX2_firstWrong_64 : decode cX2_firstWrong 64 = .ok (.iload_n 3, 1) := by decide +kernel
theorem dX2_firstWrong_65 : decode cX2_firstWrong 65 = .ok (.iaload, 1) := by decide +kernel
theorem dX2_firstWrong_66 : decode cX2_firstWrong 66 = .ok (.if_icmp .le 5, 3) := by decide +kernel
theorem dX2_firstWrong_69 : decode cX2_firstWrong 69 = .ok (.iload_n 1, 1) := by decide +kernel
theorem dX2_firstWrong_70 : decode cX2_firstWrong 70 = .ok (.ireturn, 1) := by decide +kernel
theorem dX2_firstWrong_71 : decode cX2_firstWrong 71 = .ok (.iinc 2 1, 3) := by decide +kernel
theorem dX2_firstWrong_74 : decode cX2_firstWrong 74 = .ok (.goto (-51), 3) := by decide +kernel
theorem dX2_firstWrong_77 : decode cX2_firstWrong 77 = .ok (.iinc 1 1, 3) := by decide +kernel
theorem dX2_firstWrong_80 : decode cX2_firstWrong 80 = .ok (.goto (-78), 3) := by decide +kernel
theorem dX2_firstWrong_83 : decode cX2_firstWrong 83 = .ok (.bipush (-9), 2) := by decide +kernel
theorem dX2_firstWrong_85 : decode cX2_firstWrong 85 = .ok (.ireturn, 1) := by decide +kernel
theorem dX2_countChanges_0 : decode cX2_countChanges 0 = .ok (.iconst 0, 1) := by decide +kernel
theorem dX2_countChanges_1 : decode cX2_countChanges 1 = .ok (.istore_n 1, 1) := by decide +kernel
theorem dX2_countChanges_2 : decode cX2_countChanges 2 = .ok (.iconst 1, 1) := by decide +kernel
theorem dX2_countChanges_3 : decode cX2_countChanges 3 = .ok (.istore_n 2, 1) := by decide +kernel
theorem dX2_countChanges_4 : decode cX2_countChanges 4 = .ok (.iload_n 2, 1) := by decide +kernel
theorem dX2_countChanges_5 : decode cX2_countChanges 5 = .ok (.aload_n 0, 1) := by decide +kernel
theorem dX2_countChanges_6 : decode cX2_countChanges 6 = .ok (.getfield 18, 3) := by decide +kernel
theorem dX2_countChanges_9 : decode cX2_countChanges 9 = .ok (.getfield 22, 3) := by decide +kernel
theorem dX2_countChanges_12 : decode cX2_countChanges 12 = .ok (.if_icmp .ge 48, 3) := by decide +kernel
theorem dX2_countChanges_15 : decode cX2_countChanges 15 = .ok (.iconst 0, 1) := by decide +kernel
theorem dX2_countChanges_16 : decode cX2_countChanges 16 = .ok (.istore_n 3, 1) := by decide +kernel
theorem dX2_countChanges_17 : decode cX2_countChanges 17 = .ok (.iload_n 3, 1) := by decide +kernel
theorem dX2_countChanges_18 : decode cX2_countChanges 18 = .ok (.aload_n 0, 1) := by decide +kernel
theorem dX2_countChanges_19 : decode cX2_countChanges 19 = .ok (.getfield 18, 3) := by decide +kernel
theorem dX2_countChanges_22 : decode cX2_countChanges 22 = .ok (.getfield 28, 3) := by decide +kernel
theorem dX2_countChanges_25 : decode cX2_countChanges 25 = .ok (.if_icmp .ge 29, 3) := by decide +kernel
theorem dX2_countChanges_28 : decode cX2_countChanges 28 = .ok (.aload_n 0, 1) := by decide +kernel
theorem dX2_countChanges_29 : decode cX2_countChanges 29 = .ok (.iload_n 3, 1) := by decide +kernel
theorem dX2_countChanges_30 : decode cX2_countChanges 30 = .ok (.iload_n 2, 1) := by decide +kernel
theorem dX2_countChanges_31 : decode cX2_countChanges 31 = .ok (.invokevirtual 41, 3) := by decide +kernel
theorem dX2_countChanges_34 : decode cX2_countChanges 34 = .ok (.aload_n 0, 1) := by decide +kernel
theorem dX2_countChanges_35 : decode cX2_countChanges 35 = .ok (.iload_n 3, 1) := by decide +kernel
theorem dX2_countChanges_36 : decode cX2_countChanges 36 = .ok (.iload_n 2, 1) := by decide +kernel
theorem dX2_countChanges_37 : decode cX2_countChanges 37 = .ok (.iconst 1, 1) := by decide +kernel
theorem dX2_countChanges_38 : decode cX2_countChanges 38 = .ok (.isub, 1) := by decide +kernel
theorem dX2_countChanges_39 : decode cX2_countChanges 39 = .ok (.invokevirtual 41, 3) := by decide +kernel
theorem dX2_countChanges_42 : decode cX2_countChanges 42 = .ok (.if_icmp .eq 6, 3) := by decide +kernel
theorem dX2_countChanges_45 : decode cX2_countChanges 45 = .ok (.iinc 1 1, 3) := by decide +kernel
theorem dX2_countChanges_48 : decode cX2_countChanges 48 = .ok (.iinc 3 1, 3) := by decide +kernel
theorem dX2_countChanges_51 : decode cX2_countChanges 51 = .ok (.goto (-34), 3) := by decide +kernel
theorem dX2_countChanges_54 : decode cX2_countChanges 54 = .ok (.iinc 2 1, 3) := by decide +kernel
theorem dX2_countChanges_57 : decode cX2_countChanges 57 = .ok (.goto (-53), 3) := by decide +kernel
theorem dX2_countChanges_60 : decode cX2_countChanges 60 = .ok (.iload_n 1, 1) := by decide +kernel
theorem dX2_countChanges_61 : decode cX2_countChanges 61 = .ok (.ireturn, 1) := by decide +kernel
theorem dX2_countLow_0 : decode cX2_countLow 0 = .ok (.iconst 0, 1) := by decide +kernel
theorem dX2_countLow_1 : decode cX2_countLow 1 = .ok (.istore_n 1, 1) := by decide +kernel
theorem dX2_countLow_2 : decode cX2_countLow 2 = .ok (.iconst 0, 1) := by decide +kernel
theorem dX2_countLow_3 : decode cX2_countLow 3 = .ok (.istore_n 2, 1) := by decide +kernel
theorem dX2_countLow_4 : decode cX2_countLow 4 = .ok (.iload_n 2, 1) := by decide +kernel
theorem dX2_countLow_5 : decode cX2_countLow 5 = .ok (.aload_n 0, 1) := by decide +kernel
theorem dX2_countLow_6 : decode cX2_countLow 6 = .ok (.getfield 18, 3) := by decide +kernel
theorem dX2_countLow_9 : decode cX2_countLow 9 = .ok (.getfield 22, 3) := by decide +kernel
theorem dX2_countLow_12 : decode cX2_countLow 12 = .ok (.if_icmp .ge 51, 3) := by decide +kernel
theorem dX2_countLow_15 : decode cX2_countLow 15 = .ok (.iconst 0, 1) := by decide +kernel
theorem dX2_countLow_16 : decode cX2_countLow 16 = .ok (.istore_n 3, 1) := by decide +kernel
theorem dX2_countLow_17 : decode cX2_countLow 17 = .ok (.iload_n 3, 1) := by decide +kernel
theorem dX2_countLow_18 : decode cX2_countLow 18 = .ok (.aload_n 0, 1) := by decide +kernel
theorem dX2_countLow_19 : decode cX2_countLow 19 = .ok (.getfield 18, 3) := by decide +kernel
theorem dX2_countLow_22 : decode cX2_countLow 22 = .ok (.getfield 28, 3) := by decide +kernel
theorem dX2_countLow_25 : decode cX2_countLow 25 = .ok (.if_icmp .ge 32, 3) := by decide +kernel
theorem dX2_countLow_28 : decode cX2_countLow 28 = .ok (.iload_n 1, 1) := by decide +kernel
theorem dX2_countLow_29 : decode cX2_countLow 29 = .ok (.iconst 0, 1) := by decide +kernel
theorem dX2_countLow_30 : decode cX2_countLow 30 = .ok (.aload_n 0, 1) := by decide +kernel
theorem dX2_countLow_31 : decode cX2_countLow 31 = .ok (.iload_n 3, 1) := by decide +kernel
theorem dX2_countLow_32 : decode cX2_countLow 32 = .ok (.iload_n 2, 1) := by decide +kernel
theorem dX2_countLow_33 : decode cX2_countLow 33 = .ok (.invokevirtual 41, 3) := by decide +kernel
theorem dX2_countLow_36 : decode cX2_countLow 36 = .ok (.aload_n 0, 1) := by decide +kernel
theorem dX2_countLow_37 : decode cX2_countLow 37 = .ok (.getfield 18, 3) := by decide +kernel
theorem dX2_countLow_40 : decode cX2_countLow 40 = .ok (.iload_n 3, 1) := by decide +kernel
theorem dX2_countLow_41 : decode cX2_countLow 41 = .ok (.iload_n 2, 1) := by decide +kernel
theorem dX2_countLow_42 : decode cX2_countLow 42 = .ok (.invokevirtual 48, 3) := by decide +kernel
theorem dX2_countLow_45 : decode cX2_countLow 45 = .ok (.isub, 1) := by decide +kernel
theorem dX2_countLow_46 : decode cX2_countLow 46 = .ok (.invokestatic 51, 3) := by decide +kernel
theorem dX2_countLow_49 : decode cX2_countLow 49 = .ok (.iadd, 1) := by decide +kernel
theorem dX2_countLow_50 : decode cX2_countLow 50 = .ok (.istore_n 1, 1) := by decide +kernel
theorem dX2_countLow_51 : decode cX2_countLow 51 = .ok (.iinc 3 1, 3) := by decide +kernel
theorem dX2_countLow_54 : decode cX2_countLow 54 = .ok (.goto (-37), 3) := by decide +kernel
theorem dX2_countLow_57 : decode cX2_countLow 57 = .ok (.iinc 2 1, 3) := by decide +kernel
theorem dX2_countLow_60 : decode cX2_countLow 60 = .ok (.goto (-56), 3) := by decide +kernel
theorem dX2_countLow_63 : decode cX2_countLow 63 = .ok (.iload_n 1, 1) := by decide +kernel
theorem dX2_countLow_64 : decode cX2_countLow 64 = .ok (.ireturn, 1) := by decide +kernel
theorem dX2_countAbove_0 : decode cX2_countAbove 0 = .ok (.iconst 0, 1) := by decide +kernel
theorem dX2_countAbove_1 : decode cX2_countAbove 1 = .ok (.istore_n 1, 1) := by decide +kernel
theorem dX2_countAbove_2 : decode cX2_countAbove 2 = .ok (.iconst 0, 1) := by decide +kernel
theorem dX2_countAbove_3 : decode cX2_countAbove 3 = .ok (.istore_n 2, 1) := by decide +kernel
theorem dX2_countAbove_4 : decode cX2_countAbove 4 = .ok (.iload_n 2, 1) := by decide +kernel
theorem dX2_countAbove_5 : decode cX2_countAbove 5 = .ok (.aload_n 0, 1) := by decide +kernel
theorem dX2_countAbove_6 : decode cX2_countAbove 6 = .ok (.getfield 18, 3) := by decide +kernel
theorem dX2_countAbove_9 : decode cX2_countAbove 9 = .ok (.getfield 28, 3) := by decide +kernel
theorem dX2_countAbove_12 : decode cX2_countAbove 12 = .ok (.if_icmp .ge 17, 3) := by decide +kernel
theorem dX2_countAbove_15 : decode cX2_countAbove 15 = .ok (.iload_n 1, 1) := by decide +kernel
theorem dX2_countAbove_16 : decode cX2_countAbove 16 = .ok (.aload_n 0, 1) := by decide +kernel
theorem dX2_countAbove_17 : decode cX2_countAbove 17 = .ok (.iload_n 2, 1) := by decide +kernel
theorem dX2_countAbove_18 : decode cX2_countAbove 18 = .ok (.invokevirtual 56, 3) := by decide +kernel
theorem dX2_countAbove_21 : decode cX2_countAbove 21 = .ok (.iadd, 1) := by decide +kernel
theorem dX2_countAbove_22 : decode cX2_countAbove 22 = .ok (.istore_n 1, 1) := by decide +kernel
theorem dX2_countAbove_23 : decode cX2_countAbove 23 = .ok (.iinc 2 1, 3) := by decide +kernel
theorem dX2_countAbove_26 : decode cX2_countAbove 26 = .ok (.goto (-22), 3) := by decide +kernel
theorem dX2_countAbove_29 : decode cX2_countAbove 29 = .ok (.iload_n 1, 1) := by decide +kernel
theorem dX2_countAbove_30 : decode cX2_countAbove 30 = .ok (.ireturn, 1) := by decide +kernel
theorem dX2_milesAbove_0 : decode cX2_milesAbove 0 = .ok (.iconst 0, 1) := by decide +kernel
theorem dX2_milesAbove_1 : decode cX2_milesAbove 1 = .ok (.istore_n 2, 1) := by decide +kernel
theorem dX2_milesAbove_2 : decode cX2_milesAbove 2 = .ok (.iconst 0, 1) := by decide +kernel
theorem dX2_milesAbove_3 : decode cX2_milesAbove 3 = .ok (.istore_n 3, 1) := by decide +kernel
theorem dX2_milesAbove_4 : decode cX2_milesAbove 4 = .ok (.iload_n 3, 1) := by decide +kernel
theorem dX2_milesAbove_5 : decode cX2_milesAbove 5 = .ok (.aload_n 0, 1) := by decide +kernel
theorem dX2_milesAbove_6 : decode cX2_milesAbove 6 = .ok (.getfield 18, 3) := by decide +kernel
theorem dX2_milesAbove_9 : decode cX2_milesAbove 9 = .ok (.getfield 22, 3) := by decide +kernel
theorem dX2_milesAbove_12 : decode cX2_milesAbove 12 = .ok (.if_icmp .ge 30, 3) := by decide +kernel
theorem dX2_milesAbove_15 : decode cX2_milesAbove 15 = .ok (.aload_n 0, 1) := by decide +kernel
theorem dX2_milesAbove_16 : decode cX2_milesAbove 16 = .ok (.iload_n 1, 1) := by decide +kernel
theorem dX2_milesAbove_17 : decode cX2_milesAbove 17 = .ok (.iload_n 3, 1) := by decide +kernel
theorem dX2_milesAbove_18 : decode cX2_milesAbove 18 = .ok (.invokevirtual 41, 3) := by decide +kernel
theorem dX2_milesAbove_21 : decode cX2_milesAbove 21 = .ok (.aload_n 0, 1) := by decide +kernel
theorem dX2_milesAbove_22 : decode cX2_milesAbove 22 = .ok (.getfield 18, 3) := by decide +kernel
theorem dX2_milesAbove_25 : decode cX2_milesAbove 25 = .ok (.iload_n 1, 1) := by decide +kernel
theorem dX2_milesAbove_26 : decode cX2_milesAbove 26 = .ok (.iload_n 3, 1) := by decide +kernel
theorem dX2_milesAbove_27 : decode cX2_milesAbove 27 = .ok (.invokevirtual 48, 3) := by decide +kernel
theorem dX2_milesAbove_30 : decode cX2_milesAbove 30 = .ok (.if_icmp .ge 6, 3) := by decide +kernel
theorem dX2_milesAbove_33 : decode cX2_milesAbove 33 = .ok (.iinc 2 1, 3) := by decide +kernel
theorem dX2_milesAbove_36 : decode cX2_milesAbove 36 = .ok (.iinc 3 1, 3) := by decide +kernel
theorem dX2_milesAbove_39 : decode cX2_milesAbove 39 = .ok (.goto (-35), 3) := by decide +kernel
theorem dX2_milesAbove_42 : decode cX2_milesAbove 42 = .ok (.iload_n 2, 1) := by decide +kernel
theorem dX2_milesAbove_43 : decode cX2_milesAbove 43 = .ok (.ireturn, 1) := by decide +kernel
theorem dX3_init_0 : decode cX3_init 0 = .ok (.aload_n 0, 1) := by decide +kernel
theorem dX3_init_1 : decode cX3_init 1 = .ok (.invokespecial 3, 3) := by decide +kernel
theorem dX3_init_4 : decode cX3_init 4 = .ok (.aload_n 0, 1) := by decide +kernel
theorem dX3_init_5 : decode cX3_init 5 = .ok (.bipush 60, 2) := by decide +kernel
theorem dX3_init_7 : decode cX3_init 7 = .ok (.newarray .int, 2) := by decide +kernel
theorem dX3_init_9 : decode cX3_init 9 = .ok (.putfield 9, 3) := by decide +kernel
theorem dX3_init_12 : decode cX3_init 12 = .ok (.aload_n 0, 1) := by decide +kernel
theorem dX3_init_13 : decode cX3_init 13 = .ok (.iconst (-1), 1) := by decide +kernel
theorem dX3_init_14 : decode cX3_init 14 = .ok (.putfield 15, 3) := by decide +kernel
theorem dX3_init_17 : decode cX3_init 17 = .ok (.aload_n 0, 1) := by decide +kernel
theorem dX3_init_18 : decode cX3_init 18 = .ok (.iconst 0, 1) := by decide +kernel
theorem dX3_init_19 : decode cX3_init 19 = .ok (.putfield 19, 3) := by decide +kernel
theorem dX3_init_22 : decode cX3_init 22 = .ok (.return_, 1) := by decide +kernel
theorem dX3_renew_0 : decode cX3_renew 0 = .ok (.aload_n 0, 1) := by decide +kernel
theorem dX3_renew_1 : decode cX3_renew 1 = .ok (.iload_n 1, 1) := by decide +kernel
theorem dX3_renew_2 : decode cX3_renew 2 = .ok (.putfield 15, 3) := by decide +kernel
theorem dX3_renew_5 : decode cX3_renew 5 = .ok (.aload_n 0, 1) := by decide +kernel
theorem dX3_renew_6 : decode cX3_renew 6 = .ok (.iload_n 2, 1) := by decide +kernel
theorem dX3_renew_7 : decode cX3_renew 7 = .ok (.putfield 19, 3) := by decide +kernel
theorem dX3_renew_10 : decode cX3_renew 10 = .ok (.aload_n 0, 1) := by decide +kernel
theorem dX3_renew_11 : decode cX3_renew 11 = .ok (.getfield 9, 3) := by decide +kernel
theorem dX3_renew_14 : decode cX3_renew 14 = .ok (.iconst 0, 1) := by decide +kernel
theorem dX3_renew_15 : decode cX3_renew 15 = .ok (.invokestatic 22, 3) := by decide +kernel
theorem dX3_renew_18 : decode cX3_renew 18 = .ok (.return_, 1) := by decide +kernel
theorem dX3_hasNothing_0 : decode cX3_hasNothing 0 = .ok (.aload_n 0, 1) := by decide +kernel
theorem dX3_hasNothing_1 : decode cX3_hasNothing 1 = .ok (.getfield 15, 3) := by decide +kernel
theorem dX3_hasNothing_4 : decode cX3_hasNothing 4 = .ok (.iconst (-1), 1) := by decide +kernel
theorem dX3_hasNothing_5 : decode cX3_hasNothing 5 = .ok (.if_icmp .ne 7, 3) := by decide +kernel
theorem dX3_hasNothing_8 : decode cX3_hasNothing 8 = .ok (.iconst 1, 1) := by decide +kernel
theorem dX3_hasNothing_9 : decode cX3_hasNothing 9 = .ok (.goto 4, 3) := by decide +kernel
theorem dX3_hasNothing_12 : decode cX3_hasNothing 12 = .ok (.iconst 0, 1) := by decide +kernel
theorem dX3_hasNothing_13 : decode cX3_hasNothing 13 = .ok (.ireturn, 1) := by decide +kernel
theorem dX3_noCell_0 : decode cX3_noCell 0 = .ok (.iload_n 1, 1) := by decide +kernel
theorem dX3_noCell_1 : decode cX3_noCell 1 = .ok (.ifCond .lt 11, 3) := by decide +kernel
theorem dX3_noCell_4 : decode cX3_noCell 4 = .ok (.iload_n 1, 1) := by decide +kernel
theorem dX3_noCell_5 : decode cX3_noCell 5 = .ok (.aload_n 0, 1) := by decide +kernel
theorem dX3_noCell_6 : decode cX3_noCell 6 = .ok (.getfield 19, 3) := by decide +kernel
theorem dX3_noCell_9 : decode cX3_noCell 9 = .ok (.if_icmp .lt 7, 3) := by decide +kernel
theorem dX3_noCell_12 : decode cX3_noCell 12 = .ok (.iconst 1, 1) := by decide +kernel
theorem dX3_noCell_13 : decode cX3_noCell 13 = .ok (.goto 4, 3) := by decide +kernel
theorem dX3_noCell_16 : decode cX3_noCell 16 = .ok (.iconst 0, 1) := by decide +kernel
theorem dX3_noCell_17 : decode cX3_noCell 17 = .ok (.ireturn, 1) := by decide +kernel
theorem dX3_lacksCells_0 : decode cX3_lacksCells 0 = .ok (.iload_n 1, 1) := by decide +kernel
theorem dX3_lacksCells_1 : decode cX3_lacksCells 1 = .ok (.ifCond .lt 21, 3) := by decide +kernel
theorem dX3_lacksCells_4 : decode cX3_lacksCells 4 = .ok (.iload_n 1, 1) := by decide +kernel
theorem dX3_lacksCells_5 : decode cX3_lacksCells 5 = .ok (.aload_n 0, 1) := by decide +kernel
theorem dX3_lacksCells_6 : decode cX3_lacksCells 6 = .ok (.getfield 19, 3) := by decide +kernel
theorem dX3_lacksCells_9 : decode cX3_lacksCells 9 = .ok (.if_icmp .gt 13, 3) := by decide +kernel
theorem dX3_lacksCells_12 : decode cX3_lacksCells 12 = .ok (.iload_n 2, 1) := by decide +kernel
theorem dX3_lacksCells_13 : decode cX3_lacksCells 13 = .ok (.aload_n 0, 1) := by decide +kernel
theorem dX3_lacksCells_14 : decode cX3_lacksCells 14 = .ok (.getfield 19, 3) := by decide +kernel
theorem dX3_lacksCells_17 : decode cX3_lacksCells 17 = .ok (.iload_n 1, 1) := by decide +kernel
theorem dX3_lacksCells_18 : decode cX3_lacksCells 18 = .ok (.isub, 1) := by decide +kernel
theorem dX3_lacksCells_19 : decode cX3_lacksCells 19 = .ok (.if_icmp .le 7, 3) := by decide +kernel
theorem dX3_lacksCells_22 : decode cX3_lacksCells 22 = .ok (.iconst 1, 1) := by decide +kernel
theorem dX3_lacksCells_23 : decode cX3_lacksCells 23 = .ok (.goto 4, 3) := by decide +kernel
theorem dX3_lacksCells_26 : decode cX3_lacksCells 26 = .ok (.iconst 0, 1) := by decide +kernel
theorem dX3_lacksCells_27 : decode cX3_lacksCells 27 = .ok (.ireturn, 1) := by decide +kernel
theorem dX3_cut_0 : decode cX3_cut 0 = .ok (.aload_n 0, 1) := by decide +kernel
theorem dX3_cut_1 : decode cX3_cut 1 = .ok (.getfield 15, 3) := by decide +kernel
theorem dX3_cut_4 : decode cX3_cut 4 = .ok (.ifCond .ne 6, 3) := by decide +kernel
theorem dX3_cut_7 : decode cX3_cut 7 = .ok (.iload_n 1, 1) := by decide +kernel
theorem dX3_cut_8 : decode cX3_cut 8 = .ok (.i2b, 1) := by decide +kernel
theorem dX3_cut_9 : decode cX3_cut 9 = .ok (.ireturn, 1) := by decide +kernel
theorem dX3_cut_10 : decode cX3_cut 10 = .ok (.aload_n 0, 1) := by decide +kernel
theorem dX3_cut_11 : decode cX3_cut 11 = .ok (.getfield 15, 3) := by decide +kernel
theorem dX3_cut_14 : decode cX3_cut 14 = .ok (.iconst 1, 1) := by decide +kernel
theorem dX3_cut_15 : decode cX3_cut 15 = .ok (.if_icmp .ne 8, 3) := by decide +kernel
theorem dX3_cut_18 : decode cX3_cut 18 = .ok (.iload_n 1, 1) := by decide +kernel
theorem dX3_cut_19 : decode cX3_cut 19 = .ok (.i2s, 1) := by decide +kernel
theorem dX3_cut_20 : decode cX3_cut 20 = .ok (.goto 4, 3) := by decide +kernel
theorem dX3_cut_23 : decode cX3_cut 23 = .ok (.iload_n 1, 1) := by decide +kernel
theorem dX3_cut_24 : decode cX3_cut 24 = .ok (.ireturn, 1) := by decide +kernel
theorem dX3_faultOfRow_0 : decode cX3_faultOfRow 0 = .ok (.aload_n 0, 1) := by decide +kernel
theorem dX3_faultOfRow_1 : decode cX3_faultOfRow 1 = .ok (.invokevirtual 28, 3) := by decide +kernel
theorem dX3_faultOfRow_4 : decode cX3_faultOfRow 4 = .ok (.ifCond .eq 5, 3) := by decide +kernel
theorem dX3_faultOfRow_7 : decode cX3_faultOfRow 7 = .ok (.iconst 1, 1) := by decide +kernel
theorem dX3_faultOfRow_8 : decode cX3_faultOfRow 8 = .ok (.ireturn, 1) := by decide +kernel
theorem dX3_faultOfRow_9 : decode cX3_faultOfRow 9 = .ok (.aload_n 0, 1) := by decide +kernel
theorem dX3_faultOfRow_10 : decode cX3_faultOfRow 10 = .ok (.getfield 15, 3) := by decide +kernel
theorem dX3_faultOfRow_13 : decode cX3_faultOfRow 13 = .ok (.iload_n 1, 1) := by decide +kernel
theorem dX3_faultOfRow_14 : decode cX3_faultOfRow 14 = .ok (.if_icmp .ne 7, 3) := by decide +kernel
theorem dX3_faultOfRow_17 : decode cX3_faultOfRow 17 = .ok (.iconst 0, 1) := by decide +kernel
theorem dX3_faultOfRow_18 : decode cX3_faultOfRow 18 = .ok (.goto 4, 3) := by decide +kernel
theorem dX3_faultOfRow_21 : decode cX3_faultOfRow 21 = .ok (.iconst 2, 1) := by decide +kernel
theorem dX3_faultOfRow_22 : decode cX3_faultOfRow 22 = .ok (.ireturn, 1) := by decide +kernel
theorem dX3_faultOfCells_0 : decode cX3_faultOfCells 0 = .ok (.aload_n 0, 1) := by decide +kernel
theorem dX3_faultOfCells_1 : decode cX3_faultOfCells 1 = .ok (.iload_n 1, 1) := by decide +kernel
theorem dX3_faultOfCells_2 : decode cX3_faultOfCells 2 = .ok (.invokevirtual 32, 3) := by decide +kernel
theorem dX3_faultOfCells_5 : decode cX3_faultOfCells 5 = .ok (.istore 4, 2) := by decide +kernel
theorem dX3_faultOfCells_7 : decode cX3_faultOfCells 7 = .ok (.iload 4, 2) := by decide +kernel
theorem dX3_faultOfCells_9 : decode cX3_faultOfCells 9 = .ok (.ifCond .eq 6, 3) := by decide +kernel
theorem dX3_faultOfCells_12 : decode cX3_faultOfCells 12 = .ok (.iload 4, 2) := by decide +kernel
theorem dX3_faultOfCells_14 : decode cX3_faultOfCells 14 = .ok (.ireturn, 1) := by decide +kernel
theorem dX3_faultOfCells_15 : decode cX3_faultOfCells 15 = .ok (.iload_n 3, 1) := by decide +kernel
theorem dX3_faultOfCells_16 : decode cX3_faultOfCells 16 = .ok (.ifCond .ge 5, 3) := by decide +kernel
theorem dX3_faultOfCells_19 : decode cX3_faultOfCells 19 = .ok (.iconst 4, 1) := by decide +kernel
theorem dX3_faultOfCells_20 : decode cX3_faultOfCells 20 = .ok (.ireturn, 1) := by decide +kernel
theorem dX3_faultOfCells_21 : decode cX3_faultOfCells 21 = .ok (.aload_n 0, 1) := by decide +kernel
theorem dX3_faultOfCells_22 : decode cX3_faultOfCells 22 = .ok (.iload_n 2, 1) := by decide +kernel
theorem dX3_faultOfCells_23 : decode cX3_faultOfCells 23 = .ok (.iload_n 3, 1) := by decide +kernel
theorem dX3_faultOfCells_24 : decode cX3_faultOfCells 24 = .ok (.invokevirtual 36, 3) := by decide +kernel
theorem dX3_faultOfCells_27 : decode cX3_faultOfCells 27 = .ok (.ifCond .eq 7, 3) := by decide +kernel
theorem dX3_faultOfCells_30 : decode cX3_faultOfCells 30 = .ok (.iconst 3, 1) := by decide +kernel
theorem dX3_faultOfCells_31 : decode cX3_faultOfCells 31 = .ok (.goto 4, 3) := by decide +kernel
theorem dX3_faultOfCells_34 : decode cX3_faultOfCells 34 = .ok (.iconst 0, 1) := by decide +kernel
theorem dX3_faultOfCells_35 : decode cX3_faultOfCells 35 = .ok (.ireturn, 1) := by decide +kernel
theorem dX4_firstFault_0 : decode cX4_firstFault 0 = .ok (.iconst 0, 1) := by decide +kernel
theorem dX4_firstFault_1 : decode cX4_firstFault 1 = .ok (.istore_n 3, 1) := by decide +kernel
theorem dX4_firstFault_2 : decode cX4_firstFault 2 = .ok (.iload_n 3, 1) := by decide +kernel
theorem dX4_firstFault_3 : decode cX4_firstFault 3 = .ok (.iconst 5, 1) := by decide +kernel
theorem dX4_firstFault_4 : decode cX4_firstFault 4 = .ok (.if_icmp .ge 28, 3) := by decide +kernel
theorem dX4_firstFault_7 : decode cX4_firstFault 7 = .ok (.iload_n 3, 1) := by decide +kernel
theorem dX4_firstFault_8 : decode cX4_firstFault 8 = .ok (.iload_n 2, 1) := by decide +kernel
theorem dX4_firstFault_9 : decode cX4_firstFault 9 = .ok (.if_icmp .ge 15, 3) := by decide +kernel
theorem dX4_firstFault_12 : decode cX4_firstFault 12 = .ok (.iload_n 3, 1) := by decide +kernel
theorem dX4_firstFault_13 : decode cX4_firstFault 13 = .ok (.aload_n 0, 1) := by decide +kernel
theorem dX4_firstFault_14 : decode cX4_firstFault 14 = .ok (.iload_n 1, 1) := by decide +kernel
theorem dX4_firstFault_15 : decode cX4_firstFault 15 = .ok (.iload_n 3, 1) := by decide +kernel
theorem dX4_firstFault_16 : decode cX4_firstFault 16 = .ok (.iadd, 1) := by decide +kernel
theorem dX4_firstFault_17 : decode cX4_firstFault 17 = .ok (.iaload, 1) := by decide +kernel
theorem dX4_firstFault_18 : decode cX4_firstFault 18 = .ok (.invokestatic 9, 3) := by decide +kernel
theorem dX4_firstFault_21 : decode cX4_firstFault 21 = .ok (.ifCond .ne 5, 3) := by decide +kernel
theorem dX4_firstFault_24 : decode cX4_firstFault 24 = .ok (.iload_n 3, 1) := by decide +kernel
theorem dX4_firstFault_25 : decode cX4_firstFault 25 = .ok (.ireturn, 1) := by decide +kernel
theorem dX4_firstFault_26 : decode cX4_firstFault 26 = .ok (.iinc 3 1, 3) := by decide +kernel
theorem dX4_firstFault_29 : decode cX4_firstFault 29 = .ok (.goto (-27), 3) := by decide +kernel
theorem dX4_firstFault_32 : decode cX4_firstFault 32 = .ok (.iload_n 3, 1) := by decide +kernel
theorem dX4_firstFault_33 : decode cX4_firstFault 33 = .ok (.bipush 13, 2) := by decide +kernel
theorem dX4_firstFault_35 : decode cX4_firstFault 35 = .ok (.if_icmp .ge 25, 3) := by decide +kernel
theorem dX4_firstFault_38 : decode cX4_firstFault 38 = .ok (.iload_n 3, 1) := by decide +kernel
theorem dX4_firstFault_39 : decode cX4_firstFault 39 = .ok (.iload_n 2, 1) := by decide +kernel
theorem dX4_firstFault_40 : decode cX4_firstFault 40 = .ok (.if_icmp .ge 20, 3) := by decide +kernel
theorem dX4_firstFault_43 : decode cX4_firstFault 43 = .ok (.aload_n 0, 1) := by decide +kernel
theorem dX4_firstFault_44 : decode cX4_firstFault 44 = .ok (.iload_n 1, 1) := by decide +kernel
theorem dX4_firstFault_45 : decode cX4_firstFault 45 = .ok (.iload_n 3, 1) := by decide +kernel
theorem dX4_firstFault_46 : decode cX4_firstFault 46 = .ok (.iadd, 1) := by decide +kernel
theorem dX4_firstFault_47 : decode cX4_firstFault 47 = .ok (.iaload, 1) := by decide +kernel
theorem dX4_firstFault_48 : decode cX4_firstFault 48 = .ok (.invokestatic 15, 3) := by decide +kernel
theorem dX4_firstFault_51 : decode cX4_firstFault 51 = .ok (.ifCond .eq 9, 3) := by decide +kernel
theorem dX4_firstFault_54 : decode cX4_firstFault 54 = .ok (.iinc 3 1, 3) := by decide +kernel
theorem dX4_firstFault_57 : decode cX4_firstFault 57 = .ok (.goto (-25), 3) := by decide +kernel
theorem dX4_firstFault_60 : decode cX4_firstFault 60 = .ok (.iload_n 3, 1) := by decide +kernel
theorem dX4_firstFault_61 : decode cX4_firstFault 61 = .ok (.iconst 5, 1) := by decide +kernel
theorem dX4_firstFault_62 : decode cX4_firstFault 62 = .ok (.if_icmp .ne 5, 3) := by decide +kernel
theorem dX4_firstFault_65 : decode cX4_firstFault 65 = .ok (.iload_n 3, 1) := by decide +kernel
theorem dX4_firstFault_66 : decode cX4_firstFault 66 = .ok (.ireturn, 1) := by decide +kernel
theorem dX4_firstFault_67 : decode cX4_firstFault 67 = .ok (.iconst 0, 1) := by decide +kernel
theorem dX4_firstFault_68 : decode cX4_firstFault 68 = .ok (.istore 4, 2) := by decide +kernel
theorem dX4_firstFault_70 : decode cX4_firstFault 70 = .ok (.iload 4, 2) := by decide +kernel
theorem dX4_firstFault_72 : decode cX4_firstFault 72 = .ok (.iconst 4, 1) := by decide +kernel
theorem dX4_firstFault_73 : decode cX4_firstFault 73 = .ok (.if_icmp .ge 57, 3) := by decide +kernel
theorem dX4_firstFault_76 : decode cX4_firstFault 76 = .ok (.iload 4, 2) := by decide +kernel
theorem dX4_firstFault_78 : decode cX4_firstFault 78 = .ok (.ifCond .eq 8, 3) := by decide +kernel
theorem dX4_firstFault_81 : decode cX4_firstFault 81 = .ok (.iload_n 3, 1) := by decide +kernel
theorem dX4_firstFault_82 : decode cX4_firstFault 82 = .ok (.iload_n 2, 1) := by decide +kernel
theorem dX4_firstFault_83 : decode cX4_firstFault 83 = .ok (.if_icmp .ge 47, 3) := by decide +kernel
theorem dX4_firstFault_86 : decode cX4_firstFault 86 = .ok (.iconst 0, 1) := by decide +kernel
theorem dX4_firstFault_87 : decode cX4_firstFault 87 = .ok (.istore 5, 2) := by decide +kernel
theorem dX4_firstFault_89 : decode cX4_firstFault 89 = .ok (.iload 5, 2) := by decide +kernel
theorem dX4_firstFault_91 : decode cX4_firstFault 91 = .ok (.iconst 5, 1) := by decide +kernel
theorem dX4_firstFault_92 : decode cX4_firstFault 92 = .ok (.if_icmp .ge 32, 3) := by decide +kernel
theorem dX4_firstFault_95 : decode cX4_firstFault 95 = .ok (.iload_n 3, 1) := by decide +kernel
theorem dX4_firstFault_96 : decode cX4_firstFault 96 = .ok (.iload_n 2, 1) := by decide +kernel
theorem dX4_firstFault_97 : decode cX4_firstFault 97 = .ok (.if_icmp .ge 16, 3) := by decide +kernel
theorem dX4_firstFault_100 : decode cX4_firstFault 100 = .ok (.iload 5, 2) := by decide +kernel
theorem dX4_firstFault_102 : decode cX4_firstFault 102 = .ok (.aload_n 0, 1) := by decide +kernel
theorem dX4_firstFault_103 : decode cX4_firstFault 103 = .ok (.iload_n 1, 1) := by decide +kernel
theorem dX4_firstFault_104 : decode cX4_firstFault 104 = .ok (.iload_n 3, 1) := by decide +kernel
theorem dX4_firstFault_105 : decode cX4_firstFault 105 = .ok (.iadd, 1) := by decide +kernel
theorem dX4_firstFault_106 : decode cX4_firstFault 106 = .ok (.iaload, 1) := by decide +kernel
theorem dX4_firstFault_107 : decode cX4_firstFault 107 = .ok (.invokestatic 19, 3) := by decide +kernel
theorem dX4_firstFault_110 : decode cX4_firstFault 110 = .ok (.ifCond .ne 5, 3) := by decide +kernel
theorem dX4_firstFault_113 : decode cX4_firstFault 113 = .ok (.iload_n 3, 1) := by decide +kernel
theorem dX4_firstFault_114 : decode cX4_firstFault 114 = .ok (.ireturn, 1) := by decide +kernel
theorem dX4_firstFault_115 : decode cX4_firstFault 115 = .ok (.iinc 3 1, 3) := by decide +kernel
theorem dX4_firstFault_118 : decode cX4_firstFault 118 = .ok (.iinc 5 1, 3) := by decide +kernel
theorem dX4_firstFault_121 : decode cX4_firstFault 121 = .ok (.goto (-32), 3) := by decide +kernel
theorem dX4_firstFault_124 : decode cX4_firstFault 124 = .ok (.iinc 4 1, 3) := by decide +kernel
theorem dX4_firstFault_127 : decode cX4_firstFault 127 = .ok (.goto (-57), 3) := by decide +kernel
theorem dX4_firstFault_130 : decode cX4_firstFault 130 = .ok (.iload_n 3, 1) := by decide +kernel
theorem dX4_firstFault_131 : decode cX4_firstFault 131 = .ok (.iload_n 2, 1) := by decide +kernel
theorem dX4_firstFault_132 : decode cX4_firstFault 132 = .ok (.if_icmp .ge 7, 3) := by decide +kernel
theorem dX4_firstFault_135 : decode cX4_firstFault 135 = .ok (.iload_n 3, 1) := by decide +kernel
theorem dX4_firstFault_136 : decode cX4_firstFault 136 = .ok (.goto 4, 3) := by decide +kernel
theorem dX4_firstFault_139 : decode cX4_firstFault 139 = .ok (.iconst (-1), 1) := by decide +kernel
theorem dX4_firstFault_140 : decode cX4_firstFault 140 = .ok (.ireturn, 1) := by decide +kernel
theorem dX4_fitsHead_0 : decode cX4_fitsHead 0 = .ok (.iload_n 0, 1) := by decide +kernel
theorem dX4_fitsHead_1 : decode cX4_fitsHead 1 = .ok (.lookupswitch 51 #[(0, 27), (4, 39)], 27) := by decide +kernel
theorem dX4_fitsHead_28 : decode cX4_fitsHead 28 = .ok (.iload_n 1, 1) := by decide +kernel
theorem dX4_fitsHead_29 : decode cX4_fitsHead 29 = .ok (.bipush 114, 2) := by decide +kernel
theorem dX4_fitsHead_31 : decode cX4_fitsHead 31 = .ok (.if_icmp .ne 7, 3) := by decide +kernel
theorem dX4_fitsHead_34 : decode cX4_fitsHead 34 = .ok (.iconst 1, 1) := by decide +kernel
theorem dX4_fitsHead_35 : decode cX4_fitsHead 35 = .ok (.goto 4, 3) := by decide +kernel
theorem dX4_fitsHead_38 : decode cX4_fitsHead 38 = .ok (.iconst 0, 1) := by decide +kernel
theorem dX4_fitsHead_39 : decode cX4_fitsHead 39 = .ok (.ireturn, 1) := by decide +kernel
theorem dX4_fitsHead_40 : decode cX4_fitsHead 40 = .ok (.iload_n 1, 1) := by decide +kernel
theorem dX4_fitsHead_41 : decode cX4_fitsHead 41 = .ok (.bipush 59, 2) := by decide +kernel
theorem dX4_fitsHead_43 : decode cX4_fitsHead 43 = .ok (.if_icmp .ne 7, 3) := by decide +kernel
theorem dX4_fitsHead_46 : decode cX4_fitsHead 46 = .ok (.iconst 1, 1) := by decide +kernel
theorem dX4_fitsHead_47 : decode cX4_fitsHead 47 = .ok (.goto 4, 3) := by decide +kernel
theorem dX4_fitsHead_50 : decode cX4_fitsHead 50 = .ok (.iconst 0, 1) := by decide +kernel
theorem dX4_fitsHead_51 : decode cX4_fitsHead 51 = .ok (.ireturn, 1) := by decide +kernel
theorem dX4_fitsHead_52 : decode cX4_fitsHead 52 = .ok (.iload_n 1, 1) := by decide +kernel
theorem dX4_fitsHead_53 : decode cX4_fitsHead 53 = .ok (.iconst 4, 1) := by decide +kernel
theorem dX4_fitsHead_54 : decode cX4_fitsHead 54 = .ok (.invokestatic 22, 3) := by decide +kernel
theorem dX4_fitsHead_57 : decode cX4_fitsHead 57 = .ok (.ireturn, 1) := by decide +kernel
theorem dX4_isMile_0 : decode cX4_isMile 0 = .ok (.iload_n 0, 1) := by decide +kernel
theorem dX4_isMile_1 : decode cX4_isMile 1 = .ok (.bipush 45, 2) := by decide +kernel
theorem dX4_isMile_3 : decode cX4_isMile 3 = .ok (.if_icmp .eq 9, 3) := by decide +kernel
theorem dX4_isMile_6 : decode cX4_isMile 6 = .ok (.iload_n 0, 1) := by decide +kernel
theorem dX4_isMile_7 : decode cX4_isMile 7 = .ok (.bipush 117, 2) := by decide +kernel
theorem dX4_isMile_9 : decode cX4_isMile 9 = .ok (.if_icmp .ne 7, 3) := by decide +kernel
theorem dX4_isMile_12 : decode cX4_isMile 12 = .ok (.iconst 1, 1) := by decide +kernel
theorem dX4_isMile_13 : decode cX4_isMile 13 = .ok (.goto 4, 3) := by decide +kernel
theorem dX4_isMile_16 : decode cX4_isMile 16 = .ok (.iconst 0, 1) := by decide +kernel
theorem dX4_isMile_17 : decode cX4_isMile 17 = .ok (.ireturn, 1) := by decide +kernel
theorem dX4_fitsPassenger_0 : decode cX4_fitsPassenger 0 = .ok (.iload_n 0, 1) := by decide +kernel
theorem dX4_fitsPassenger_1 : decode cX4_fitsPassenger 1 = .ok (.tableswitch 60 0 2 #[27, 39, 54], 27) := by decide +kernel
theorem dX4_fitsPassenger_28 : decode cX4_fitsPassenger 28 = .ok (.iload_n 1, 1) := by decide +kernel
theorem dX4_fitsPassenger_29 : decode cX4_fitsPassenger 29 = .ok (.bipush 44, 2) := by decide +kernel
theorem dX4_fitsPassenger_31 : decode cX4_fitsPassenger 31 = .ok (.if_icmp .ne 7, 3) := by decide +kernel
theorem dX4_fitsPassenger_34 : decode cX4_fitsPassenger 34 = .ok (.iconst 1, 1) := by decide +kernel
theorem dX4_fitsPassenger_35 : decode cX4_fitsPassenger 35 = .ok (.goto 4, 3) := by decide +kernel
theorem dX4_fitsPassenger_38 : decode cX4_fitsPassenger 38 = .ok (.iconst 0, 1) := by decide +kernel
theorem dX4_fitsPassenger_39 : decode cX4_fitsPassenger 39 = .ok (.ireturn, 1) := by decide +kernel
theorem dX4_fitsPassenger_40 : decode cX4_fitsPassenger 40 = .ok (.iload_n 1, 1) := by decide +kernel
theorem dX4_fitsPassenger_41 : decode cX4_fitsPassenger 41 = .ok (.invokestatic 25, 3) := by decide +kernel
theorem dX4_fitsPassenger_44 : decode cX4_fitsPassenger 44 = .ok (.bipush (-9), 2) := by decide +kernel
theorem dX4_fitsPassenger_46 : decode cX4_fitsPassenger 46 = .ok (.if_icmp .eq 7, 3) := by decide +kernel
theorem dX4_fitsPassenger_49 : decode cX4_fitsPassenger 49 = .ok (.iconst 1, 1) := by decide +kernel
theorem dX4_fitsPassenger_50 : decode cX4_fitsPassenger 50 = .ok (.goto 4, 3) := by decide +kernel
theorem dX4_fitsPassenger_53 : decode cX4_fitsPassenger 53 = .ok (.iconst 0, 1) := by decide +kernel
theorem dX4_fitsPassenger_54 : decode cX4_fitsPassenger 54 = .ok (.ireturn, 1) := by decide +kernel
theorem dX4_fitsPassenger_55 : decode cX4_fitsPassenger 55 = .ok (.iload_n 1, 1) := by decide +kernel
theorem dX4_fitsPassenger_56 : decode cX4_fitsPassenger 56 = .ok (.iconst 5, 1) := by decide +kernel
theorem dX4_fitsPassenger_57 : decode cX4_fitsPassenger 57 = .ok (.invokestatic 22, 3) := by decide +kernel
theorem dX4_fitsPassenger_60 : decode cX4_fitsPassenger 60 = .ok (.ireturn, 1) := by decide +kernel
theorem dX4_fitsPassenger_61 : decode cX4_fitsPassenger 61 = .ok (.iload_n 1, 1) := by decide +kernel
theorem dX4_fitsPassenger_62 : decode cX4_fitsPassenger 62 = .ok (.bipush 9, 2) := by decide +kernel
theorem dX4_fitsPassenger_64 : decode cX4_fitsPassenger 64 = .ok (.invokestatic 22, 3) := by decide +kernel
theorem dX4_fitsPassenger_67 : decode cX4_fitsPassenger 67 = .ok (.ireturn, 1) := by decide +kernel
theorem dX4_isDigit_0 : decode cX4_isDigit 0 = .ok (.iload_n 0, 1) := by decide +kernel
theorem dX4_isDigit_1 : decode cX4_isDigit 1 = .ok (.bipush 48, 2) := by decide +kernel
theorem dX4_isDigit_3 : decode cX4_isDigit 3 = .ok (.if_icmp .lt 15, 3) := by decide +kernel
theorem dX4_isDigit_6 : decode cX4_isDigit 6 = .ok (.iload_n 0, 1) := by decide +kernel
theorem dX4_isDigit_7 : decode cX4_isDigit 7 = .ok (.bipush 48, 2) := by decide +kernel
theorem dX4_isDigit_9 : decode cX4_isDigit 9 = .ok (.iload_n 1, 1) := by decide +kernel
theorem dX4_isDigit_10 : decode cX4_isDigit 10 = .ok (.iadd, 1) := by decide +kernel
theorem dX4_isDigit_11 : decode cX4_isDigit 11 = .ok (.if_icmp .gt 7, 3) := by decide +kernel
theorem dX4_isDigit_14 : decode cX4_isDigit 14 = .ok (.iconst 1, 1) := by decide +kernel
theorem dX4_isDigit_15 : decode cX4_isDigit 15 = .ok (.goto 4, 3) := by decide +kernel
theorem dX4_isDigit_18 : decode cX4_isDigit 18 = .ok (.iconst 0, 1) := by decide +kernel
theorem dX4_isDigit_19 : decode cX4_isDigit 19 = .ok (.ireturn, 1) := by decide +kernel
theorem dX4_kindOf_0 : decode cX4_kindOf 0 = .ok (.iload_n 0, 1) := by decide +kernel
theorem dX4_kindOf_1 : decode cX4_kindOf 1 = .ok (.lookupswitch 41 #[(104, 39), (112, 35), (119, 37)], 35) := by decide +kernel
theorem dX4_kindOf_36 : decode cX4_kindOf 36 = .ok (.iconst 0, 1) := by decide +kernel
theorem dX4_kindOf_37 : decode cX4_kindOf 37 = .ok (.ireturn, 1) := by decide +kernel
theorem dX4_kindOf_38 : decode cX4_kindOf 38 = .ok (.iconst 1, 1) := by decide +kernel
theorem dX4_kindOf_39 : decode cX4_kindOf 39 = .ok (.ireturn, 1) := by decide +kernel
theorem dX4_kindOf_40 : decode cX4_kindOf 40 = .ok (.iconst 2, 1) := by decide +kernel
theorem dX4_kindOf_41 : decode cX4_kindOf 41 = .ok (.ireturn, 1) := by decide +kernel
theorem dX4_kindOf_42 : decode cX4_kindOf 42 = .ok (.bipush (-9), 2) := by decide +kernel
theorem dX4_kindOf_44 : decode cX4_kindOf 44 = .ok (.ireturn, 1) := by decide +kernel
theorem dX5_init_0 : decode cX5_init 0 = .ok (.aload_n 0, 1) := by decide +kernel
theorem dX5_init_1 : decode cX5_init 1 = .ok (.invokespecial 3, 3) := by decide +kernel
theorem dX5_init_4 : decode cX5_init 4 = .ok (.aload_n 0, 1) := by decide +kernel
theorem dX5_init_5 : decode cX5_init 5 = .ok (.iconst 3, 1) := by decide +kernel
theorem dX5_init_6 : decode cX5_init 6 = .ok (.newarray .int, 2) := by decide +kernel
theorem dX5_init_8 : decode cX5_init 8 = .ok (.putfield 9, 3) := by decide +kernel
theorem dX5_init_11 : decode cX5_init 11 = .ok (.aload_n 0, 1) := by decide +kernel
theorem dX5_init_12 : decode cX5_init 12 = .ok (.bipush 8, 2) := by decide +kernel
theorem dX5_init_14 : decode cX5_init 14 = .ok (.newarray .boolean, 2) := by decide +kernel
theorem dX5_init_16 : decode cX5_init 16 = .ok (.putfield 15, 3) := by decide +kernel
theorem dX5_init_19 : decode cX5_init 19 = .ok (.aload_n 0, 1) := by decide +kernel
theorem dX5_init_20 : decode cX5_init 20 = .ok (.bipush 8, 2) := by decide +kernel
theorem dX5_init_22 : decode cX5_init 22 = .ok (.newarray .int, 2) := by decide +kernel
theorem dX5_init_24 : decode cX5_init 24 = .ok (.putfield 19, 3) := by decide +kernel
theorem dX5_init_27 : decode cX5_init 27 = .ok (.aload_n 0, 1) := by decide +kernel
theorem dX5_init_28 : decode cX5_init 28 = .ok (.bipush 8, 2) := by decide +kernel
theorem dX5_init_30 : decode cX5_init 30 = .ok (.newarray .int, 2) := by decide +kernel
theorem dX5_init_32 : decode cX5_init 32 = .ok (.putfield 22, 3) := by decide +kernel
theorem dX5_init_35 : decode cX5_init 35 = .ok (.aload_n 0, 1) := by decide +kernel
theorem dX5_init_36 : decode cX5_init 36 = .ok (.iconst 4, 1) := by decide +kernel
theorem dX5_init_37 : decode cX5_init 37 = .ok (.newarray .int, 2) := by decide +kernel
theorem dX5_init_39 : decode cX5_init 39 = .ok (.putfield 25, 3) := by decide +kernel
theorem dX5_init_42 : decode cX5_init 42 = .ok (.aload_n 0, 1) := by decide +kernel
theorem dX5_init_43 : decode cX5_init 43 = .ok (.iconst 4, 1) := by decide +kernel
theorem dX5_init_44 : decode cX5_init 44 = .ok (.newarray .int, 2) := by decide +kernel
theorem dX5_init_46 : decode cX5_init 46 = .ok (.putfield 28, 3) := by decide +kernel
theorem dX5_init_49 : decode cX5_init 49 = .ok (.aload_n 0, 1) := by decide +kernel
theorem dX5_init_50 : decode cX5_init 50 = .ok (.iconst 4, 1) := by decide +kernel
theorem dX5_init_51 : decode cX5_init 51 = .ok (.newarray .int, 2) := by decide +kernel
theorem dX5_init_53 : decode cX5_init 53 = .ok (.putfield 31, 3) := by decide +kernel
theorem dX5_init_56 : decode cX5_init 56 = .ok (.aload_n 0, 1) := by decide +kernel
theorem dX5_init_57 : decode cX5_init 57 = .ok (.bipush 9, 2) := by decide +kernel
theorem dX5_init_59 : decode cX5_init 59 = .ok (.iconst 4, 1) := by decide +kernel
theorem dX5_init_60 : decode cX5_init 60 = .ok (.multianewarray 34 2, 4) := by decide +kernel
theorem dX5_init_64 : decode cX5_init 64 = .ok (.putfield 36, 3) := by decide +kernel
theorem dX5_init_67 : decode cX5_init 67 = .ok (.aload_n 0, 1) := by decide +kernel
theorem dX5_init_68 : decode cX5_init 68 = .ok (.iconst 0, 1) := by decide +kernel
theorem dX5_init_69 : decode cX5_init 69 = .ok (.putfield 39, 3) := by decide +kernel
theorem dX5_init_72 : decode cX5_init 72 = .ok (.aload_n 0, 1) := by decide +kernel
theorem dX5_init_73 : decode cX5_init 73 = .ok (.iconst 0, 1) := by decide +kernel
theorem dX5_init_74 : decode cX5_init 74 = .ok (.putfield 43, 3) := by decide +kernel
theorem dX5_init_77 : decode cX5_init 77 = .ok (.aload_n 0, 1) := by decide +kernel
theorem dX5_init_78 : decode cX5_init 78 = .ok (.iconst 0, 1) := by decide +kernel
theorem dX5_init_79 : decode cX5_init 79 = .ok (.putfield 46, 3) := by decide +kernel
theorem dX5_init_82 : decode cX5_init 82 = .ok (.aload_n 0, 1) := by decide +kernel
theorem dX5_init_83 : decode cX5_init 83 = .ok (.iconst 0, 1) := by decide +kernel
theorem dX5_init_84 : decode cX5_init 84 = .ok (.putfield 49, 3) := by decide +kernel
theorem dX5_init_87 : decode cX5_init 87 = .ok (.return_, 1) := by decide +kernel
theorem dX5_readFrom_0 : decode cX5_readFrom 0 = .ok (.iconst 0, 1) := by decide +kernel
theorem dX5_readFrom_1 : decode cX5_readFrom 1 = .ok (.istore 4, 2) := by decide +kernel
theorem dX5_readFrom_3 : decode cX5_readFrom 3 = .ok (.iload 4, 2) := by decide +kernel
theorem dX5_readFrom_5 : decode cX5_readFrom 5 = .ok (.iconst 3, 1) := by decide +kernel
theorem dX5_readFrom_6 : decode cX5_readFrom 6 = .ok (.if_icmp .ge 27, 3) := by decide +kernel
theorem dX5_readFrom_9 : decode cX5_readFrom 9 = .ok (.aload_n 0, 1) := by decide +kernel
theorem dX5_readFrom_10 : decode cX5_readFrom 10 = .ok (.getfield 9, 3) := by decide +kernel
theorem dX5_readFrom_13 : decode cX5_readFrom 13 = .ok (.iload 4, 2) := by decide +kernel
theorem dX5_readFrom_15 : decode cX5_readFrom 15 = .ok (.aload_n 1, 1) := by decide +kernel
theorem dX5_readFrom_16 : decode cX5_readFrom 16 = .ok (.iload_n 2, 1) := by decide +kernel
theorem dX5_readFrom_17 : decode cX5_readFrom 17 = .ok (.iconst 1, 1) := by decide +kernel
theorem dX5_readFrom_18 : decode cX5_readFrom 18 = .ok (.iadd, 1) := by decide +kernel
theorem dX5_readFrom_19 : decode cX5_readFrom 19 = .ok (.iload 4, 2) := by decide +kernel
theorem dX5_readFrom_21 : decode cX5_readFrom 21 = .ok (.iadd, 1) := by decide +kernel
theorem dX5_readFrom_22 : decode cX5_readFrom 22 = .ok (.iaload, 1) := by decide +kernel
theorem dX5_readFrom_23 : decode cX5_readFrom 23 = .ok (.bipush 48, 2) := by decide +kernel
theorem dX5_readFrom_25 : decode cX5_readFrom 25 = .ok (.isub, 1) := by decide +kernel
theorem dX5_readFrom_26 : decode cX5_readFrom 26 = .ok (.iastore, 1) := by decide +kernel
theorem dX5_readFrom_27 : decode cX5_readFrom 27 = .ok (.iinc 4 1, 3) := by decide +kernel
theorem dX5_readFrom_30 : decode cX5_readFrom 30 = .ok (.goto (-27), 3) := by decide +kernel
theorem dX5_readFrom_33 : decode cX5_readFrom 33 = .ok (.iload_n 2, 1) := by decide +kernel
theorem dX5_readFrom_34 : decode cX5_readFrom 34 = .ok (.iconst 5, 1) := by decide +kernel
theorem dX5_readFrom_35 : decode cX5_readFrom 35 = .ok (.iadd, 1) := by decide +kernel
theorem dX5_readFrom_36 : decode cX5_readFrom 36 = .ok (.istore 4, 2) := by decide +kernel
theorem dX5_readFrom_38 : decode cX5_readFrom 38 = .ok (.aload_n 0, 1) := by decide +kernel
theorem dX5_readFrom_39 : decode cX5_readFrom 39 = .ok (.iconst 0, 1) := by decide +kernel
theorem dX5_readFrom_40 : decode cX5_readFrom 40 = .ok (.putfield 39, 3) := by decide +kernel
theorem dX5_readFrom_43 : decode cX5_readFrom 43 = .ok (.aload_n 0, 1) := by decide +kernel
theorem dX5_readFrom_44 : decode cX5_readFrom 44 = .ok (.getfield 39, 3) := by decide +kernel
theorem dX5_readFrom_47 : decode cX5_readFrom 47 = .ok (.bipush 8, 2) := by decide +kernel
theorem dX5_readFrom_49 : decode cX5_readFrom 49 = .ok (.if_icmp .ge 51, 3) := by decide +kernel
theorem dX5_readFrom_52 : decode cX5_readFrom 52 = .ok (.aload_n 1, 1) := by decide +kernel
theorem dX5_readFrom_53 : decode cX5_readFrom 53 = .ok (.iload 4, 2) := by decide +kernel
theorem dX5_readFrom_55 : decode cX5_readFrom 55 = .ok (.iaload, 1) := by decide +kernel
theorem dX5_readFrom_56 : decode cX5_readFrom 56 = .ok (.bipush 44, 2) := by decide +kernel
theorem dX5_readFrom_58 : decode cX5_readFrom 58 = .ok (.if_icmp .eq 42, 3) := by decide +kernel
theorem dX5_readFrom_61 : decode cX5_readFrom 61 = .ok (.aload_n 0, 1) := by decide +kernel
theorem dX5_readFrom_62 : decode cX5_readFrom 62 = .ok (.getfield 15, 3) := by decide +kernel
theorem dX5_readFrom_65 : decode cX5_readFrom 65 = .ok (.aload_n 0, 1) := by decide +kernel
theorem dX5_readFrom_66 : decode cX5_readFrom 66 = .ok (.getfield 39, 3) := by decide +kernel
theorem dX5_readFrom_69 : decode cX5_readFrom 69 = .ok (.aload_n 1, 1) := by decide +kernel
theorem dX5_readFrom_70 : decode cX5_readFrom 70 = .ok (.iload 4, 2) := by decide +kernel
theorem dX5_readFrom_72 : decode cX5_readFrom 72 = .ok (.iaload, 1) := by decide +kernel
theorem dX5_readFrom_73 : decode cX5_readFrom 73 = .ok (.bipush 117, 2) := by decide +kernel
theorem dX5_readFrom_75 : decode cX5_readFrom 75 = .ok (.if_icmp .ne 7, 3) := by decide +kernel
theorem dX5_readFrom_78 : decode cX5_readFrom 78 = .ok (.iconst 1, 1) := by decide +kernel
theorem dX5_readFrom_79 : decode cX5_readFrom 79 = .ok (.goto 4, 3) := by decide +kernel
theorem dX5_readFrom_82 : decode cX5_readFrom 82 = .ok (.iconst 0, 1) := by decide +kernel
theorem dX5_readFrom_83 : decode cX5_readFrom 83 = .ok (.bastore, 1) := by decide +kernel
theorem dX5_readFrom_84 : decode cX5_readFrom 84 = .ok (.aload_n 0, 1) := by decide +kernel
theorem dX5_readFrom_85 : decode cX5_readFrom 85 = .ok (.dup, 1) := by decide +kernel
theorem dX5_readFrom_86 : decode cX5_readFrom 86 = .ok (.getfield 39, 3) := by decide +kernel
theorem dX5_readFrom_89 : decode cX5_readFrom 89 = .ok (.iconst 1, 1) := by decide +kernel
theorem dX5_readFrom_90 : decode cX5_readFrom 90 = .ok (.iadd, 1) := by decide +kernel
theorem dX5_readFrom_91 : decode cX5_readFrom 91 = .ok (.putfield 39, 3) := by decide +kernel
theorem dX5_readFrom_94 : decode cX5_readFrom 94 = .ok (.iinc 4 1, 3) := by decide +kernel
theorem dX5_readFrom_97 : decode cX5_readFrom 97 = .ok (.goto (-54), 3) := by decide +kernel
theorem dX5_readFrom_100 : decode cX5_readFrom 100 = .ok (.aload_n 0, 1) := by decide +kernel
theorem dX5_readFrom_101 : decode cX5_readFrom 101 = .ok (.iload_n 2, 1) := by decide +kernel
theorem dX5_readFrom_102 : decode cX5_readFrom 102 = .ok (.iload_n 3, 1) := by decide +kernel
theorem dX5_readFrom_103 : decode cX5_readFrom 103 = .ok (.iadd, 1) := by decide +kernel
theorem dX5_readFrom_104 : decode cX5_readFrom 104 = .ok (.iload 4, 2) := by decide +kernel
theorem dX5_readFrom_106 : decode cX5_readFrom 106 = .ok (.isub, 1) := by decide +kernel
theorem dX5_readFrom_107 : decode cX5_readFrom 107 = .ok (.iconst 5, 1) := by decide +kernel
theorem dX5_readFrom_108 : decode cX5_readFrom 108 = .ok (.idiv, 1) := by decide +kernel
theorem dX5_readFrom_109 : decode cX5_readFrom 109 = .ok (.putfield 43, 3) := by decide +kernel
theorem dX5_readFrom_112 : decode cX5_readFrom 112 = .ok (.iconst 0, 1) := by decide +kernel
theorem dX5_readFrom_113 : decode cX5_readFrom 113 = .ok (.istore 5, 2) := by decide +kernel
theorem dX5_readFrom_115 : decode cX5_readFrom 115 = .ok (.iload 5, 2) := by decide +kernel
theorem dX5_readFrom_117 : decode cX5_readFrom 117 = .ok (.aload_n 0, 1) := by decide +kernel
theorem dX5_readFrom_118 : decode cX5_readFrom 118 = .ok (.getfield 43, 3) := by decide +kernel
theorem dX5_readFrom_121 : decode cX5_readFrom 121 = .ok (.if_icmp .ge 73, 3) := by decide +kernel
theorem dX5_readFrom_124 : decode cX5_readFrom 124 = .ok (.aload_n 0, 1) := by decide +kernel
theorem dX5_readFrom_125 : decode cX5_readFrom 125 = .ok (.getfield 25, 3) := by decide +kernel
theorem dX5_readFrom_128 : decode cX5_readFrom 128 = .ok (.iload 5, 2) := by decide +kernel
theorem dX5_readFrom_130 : decode cX5_readFrom 130 = .ok (.aload_n 1, 1) := by decide +kernel
theorem dX5_readFrom_131 : decode cX5_readFrom 131 = .ok (.iload 4, 2) := by decide +kernel
theorem dX5_readFrom_133 : decode cX5_readFrom 133 = .ok (.iconst 1, 1) := by decide +kernel
theorem dX5_readFrom_134 : decode cX5_readFrom 134 = .ok (.iadd, 1) := by decide +kernel
theorem dX5_readFrom_135 : decode cX5_readFrom 135 = .ok (.iaload, 1) := by decide +kernel
theorem dX5_readFrom_136 : decode cX5_readFrom 136 = .ok (.invokestatic 52, 3) := by decide +kernel
theorem dX5_readFrom_139 : decode cX5_readFrom 139 = .ok (.iastore, 1) := by decide +kernel
theorem dX5_readFrom_140 : decode cX5_readFrom 140 = .ok (.aload_n 0, 1) := by decide +kernel
theorem dX5_readFrom_141 : decode cX5_readFrom 141 = .ok (.getfield 28, 3) := by decide +kernel
theorem dX5_readFrom_144 : decode cX5_readFrom 144 = .ok (.iload 5, 2) := by decide +kernel
theorem dX5_readFrom_146 : decode cX5_readFrom 146 = .ok (.bipush 10, 2) := by decide +kernel
theorem dX5_readFrom_148 : decode cX5_readFrom 148 = .ok (.aload_n 1, 1) := by decide +kernel
theorem dX5_readFrom_149 : decode cX5_readFrom 149 = .ok (.iload 4, 2) := by decide +kernel
theorem dX5_readFrom_151 : decode cX5_readFrom 151 = .ok (.iconst 2, 1) := by decide +kernel
theorem dX5_readFrom_152 : decode cX5_readFrom 152 = .ok (.iadd, 1) := by decide +kernel
theorem dX5_readFrom_153 : decode cX5_readFrom 153 = .ok (.iaload, 1) := by decide +kernel
theorem dX5_readFrom_154 : decode cX5_readFrom 154 = .ok (.bipush 48, 2) := by decide +kernel
theorem dX5_readFrom_156 : decode cX5_readFrom 156 = .ok (.isub, 1) := by decide +kernel
theorem dX5_readFrom_157 : decode cX5_readFrom 157 = .ok (.imul, 1) := by decide +kernel
theorem dX5_readFrom_158 : decode cX5_readFrom 158 = .ok (.aload_n 1, 1) := by decide +kernel
theorem dX5_readFrom_159 : decode cX5_readFrom 159 = .ok (.iload 4, 2) := by decide +kernel
theorem dX5_readFrom_161 : decode cX5_readFrom 161 = .ok (.iconst 3, 1) := by decide +kernel
theorem dX5_readFrom_162 : decode cX5_readFrom 162 = .ok (.iadd, 1) := by decide +kernel
theorem dX5_readFrom_163 : decode cX5_readFrom 163 = .ok (.iaload, 1) := by decide +kernel
theorem dX5_readFrom_164 : decode cX5_readFrom 164 = .ok (.iadd, 1) := by decide +kernel
theorem dX5_readFrom_165 : decode cX5_readFrom 165 = .ok (.bipush 48, 2) := by decide +kernel
theorem dX5_readFrom_167 : decode cX5_readFrom 167 = .ok (.isub, 1) := by decide +kernel
theorem dX5_readFrom_168 : decode cX5_readFrom 168 = .ok (.iastore, 1) := by decide +kernel
theorem dX5_readFrom_169 : decode cX5_readFrom 169 = .ok (.aload_n 0, 1) := by decide +kernel
theorem dX5_readFrom_170 : decode cX5_readFrom 170 = .ok (.getfield 31, 3) := by decide +kernel
theorem dX5_readFrom_173 : decode cX5_readFrom 173 = .ok (.iload 5, 2) := by decide +kernel
theorem dX5_readFrom_175 : decode cX5_readFrom 175 = .ok (.aload_n 1, 1) := by decide +kernel
theorem dX5_readFrom_176 : decode cX5_readFrom 176 = .ok (.iload 4, 2) := by decide +kernel
theorem dX5_readFrom_178 : decode cX5_readFrom 178 = .ok (.iconst 4, 1) := by decide +kernel
theorem dX5_readFrom_179 : decode cX5_readFrom 179 = .ok (.iadd, 1) := by decide +kernel
theorem dX5_readFrom_180 : decode cX5_readFrom 180 = .ok (.iaload, 1) := by decide +kernel
theorem dX5_readFrom_181 : decode cX5_readFrom 181 = .ok (.bipush 48, 2) := by decide +kernel
theorem dX5_readFrom_183 : decode cX5_readFrom 183 = .ok (.isub, 1) := by decide +kernel
theorem dX5_readFrom_184 : decode cX5_readFrom 184 = .ok (.iastore, 1) := by decide +kernel
theorem dX5_readFrom_185 : decode cX5_readFrom 185 = .ok (.iinc 4 5, 3) := by decide +kernel
theorem dX5_readFrom_188 : decode cX5_readFrom 188 = .ok (.iinc 5 1, 3) := by decide +kernel
theorem dX5_readFrom_191 : decode cX5_readFrom 191 = .ok (.goto (-76), 3) := by decide +kernel
theorem dX5_readFrom_194 : decode cX5_readFrom 194 = .ok (.aload_n 0, 1) := by decide +kernel
theorem dX5_readFrom_195 : decode cX5_readFrom 195 = .ok (.bipush 20, 2) := by decide +kernel
theorem dX5_readFrom_197 : decode cX5_readFrom 197 = .ok (.putfield 46, 3) := by decide +kernel
theorem dX5_readFrom_200 : decode cX5_readFrom 200 = .ok (.aload_n 0, 1) := by decide +kernel
theorem dX5_readFrom_201 : decode cX5_readFrom 201 = .ok (.bipush 40, 2) := by decide +kernel
theorem dX5_readFrom_203 : decode cX5_readFrom 203 = .ok (.putfield 49, 3) := by decide +kernel
theorem dX5_readFrom_206 : decode cX5_readFrom 206 = .ok (.aload_n 0, 1) := by decide +kernel
theorem dX5_readFrom_207 : decode cX5_readFrom 207 = .ok (.getfield 19, 3) := by decide +kernel
theorem dX5_readFrom_210 : decode cX5_readFrom 210 = .ok (.bipush (-9), 2) := by decide +kernel
theorem dX5_readFrom_212 : decode cX5_readFrom 212 = .ok (.invokestatic 58, 3) := by decide +kernel
theorem dX5_readFrom_215 : decode cX5_readFrom 215 = .ok (.aload_n 0, 1) := by decide +kernel
theorem dX5_readFrom_216 : decode cX5_readFrom 216 = .ok (.getfield 22, 3) := by decide +kernel
theorem dX5_readFrom_219 : decode cX5_readFrom 219 = .ok (.bipush (-9), 2) := by decide +kernel
theorem dX5_readFrom_221 : decode cX5_readFrom 221 = .ok (.invokestatic 58, 3) := by decide +kernel
theorem dX5_readFrom_224 : decode cX5_readFrom 224 = .ok (.return_, 1) := by decide +kernel
theorem dX5_becomeLike_0 : decode cX5_becomeLike 0 = .ok (.aload_n 0, 1) := by decide +kernel
theorem dX5_becomeLike_1 : decode cX5_becomeLike 1 = .ok (.aload_n 1, 1) := by decide +kernel
theorem dX5_becomeLike_2 : decode cX5_becomeLike 2 = .ok (.getfield 39, 3) := by decide +kernel
theorem dX5_becomeLike_5 : decode cX5_becomeLike 5 = .ok (.putfield 39, 3) := by decide +kernel
theorem dX5_becomeLike_8 : decode cX5_becomeLike 8 = .ok (.aload_n 0, 1) := by decide +kernel
theorem dX5_becomeLike_9 : decode cX5_becomeLike 9 = .ok (.aload_n 1, 1) := by decide +kernel
theorem dX5_becomeLike_10 : decode cX5_becomeLike 10 = .ok (.getfield 43, 3) := by decide +kernel
theorem dX5_becomeLike_13 : decode cX5_becomeLike 13 = .ok (.putfield 43, 3) := by decide +kernel
theorem dX5_becomeLike_16 : decode cX5_becomeLike 16 = .ok (.aload_n 0, 1) := by decide +kernel
theorem dX5_becomeLike_17 : decode cX5_becomeLike 17 = .ok (.aload_n 1, 1) := by decide +kernel
theorem dX5_becomeLike_18 : decode cX5_becomeLike 18 = .ok (.getfield 46, 3) := by decide +kernel
theorem dX5_becomeLike_21 : decode cX5_becomeLike 21 = .ok (.putfield 46, 3) := by decide +kernel
theorem dX5_becomeLike_24 : decode cX5_becomeLike 24 = .ok (.aload_n 0, 1) := by decide +kernel
theorem dX5_becomeLike_25 : decode cX5_becomeLike 25 = .ok (.aload_n 1, 1) := by decide +kernel
theorem dX5_becomeLike_26 : decode cX5_becomeLike 26 = .ok (.getfield 49, 3) := by decide +kernel
theorem dX5_becomeLike_29 : decode cX5_becomeLike 29 = .ok (.putfield 49, 3) := by decide +kernel
theorem dX5_becomeLike_32 : decode cX5_becomeLike 32 = .ok (.iconst 0, 1) := by decide +kernel
theorem dX5_becomeLike_33 : decode cX5_becomeLike 33 = .ok (.istore_n 2, 1) := by decide +kernel
theorem dX5_becomeLike_34 : decode cX5_becomeLike 34 = .ok (.iload_n 2, 1) := by decide +kernel
theorem dX5_becomeLike_35 : decode cX5_becomeLike 35 = .ok (.aload_n 0, 1) := by decide +kernel
theorem dX5_becomeLike_36 : decode cX5_becomeLike 36 = .ok (.getfield 39, 3) := by decide +kernel
theorem dX5_becomeLike_39 : decode cX5_becomeLike 39 = .ok (.if_icmp .ge 45, 3) := by decide +kernel
theorem dX5_becomeLike_42 : decode cX5_becomeLike 42 = .ok (.aload_n 0, 1) := by decide +kernel
theorem dX5_becomeLike_43 : decode cX5_becomeLike 43 = .ok (.getfield 15, 3) := by decide +kernel
theorem dX5_becomeLike_46 : decode cX5_becomeLike 46 = .ok (.iload_n 2, 1) := by decide +kernel
theorem dX5_becomeLike_47 : decode cX5_becomeLike 47 = .ok (.aload_n 1, 1) := by decide +kernel
theorem dX5_becomeLike_48 : decode cX5_becomeLike 48 = .ok (.getfield 15, 3) := by decide +kernel
theorem dX5_becomeLike_51 : decode cX5_becomeLike 51 = .ok (.iload_n 2, 1) := by decide +kernel
theorem dX5_becomeLike_52 : decode cX5_becomeLike 52 = .ok (.baload, 1) := by decide +kernel
theorem dX5_becomeLike_53 : decode cX5_becomeLike 53 = .ok (.bastore, 1) := by decide +kernel
theorem dX5_becomeLike_54 : decode cX5_becomeLike 54 = .ok (.aload_n 0, 1) := by decide +kernel
theorem dX5_becomeLike_55 : decode cX5_becomeLike 55 = .ok (.getfield 19, 3) := by decide +kernel
theorem dX5_becomeLike_58 : decode cX5_becomeLike 58 = .ok (.iload_n 2, 1) := by decide +kernel
theorem dX5_becomeLike_59 : decode cX5_becomeLike 59 = .ok (.aload_n 1, 1) := by decide +kernel
theorem dX5_becomeLike_60 : decode cX5_becomeLike 60 = .ok (.getfield 19, 3) := by decide +kernel
theorem dX5_becomeLike_63 : decode cX5_becomeLike 63 = .ok (.iload_n 2, 1) := by decide +kernel
theorem dX5_becomeLike_64 : decode cX5_becomeLike 64 = .ok (.iaload, 1) := by decide +kernel
theorem dX5_becomeLike_65 : decode cX5_becomeLike 65 = .ok (.iastore, 1) := by decide +kernel
theorem dX5_becomeLike_66 : decode cX5_becomeLike 66 = .ok (.aload_n 0, 1) := by decide +kernel
theorem dX5_becomeLike_67 : decode cX5_becomeLike 67 = .ok (.getfield 22, 3) := by decide +kernel
theorem dX5_becomeLike_70 : decode cX5_becomeLike 70 = .ok (.iload_n 2, 1) := by decide +kernel
theorem dX5_becomeLike_71 : decode cX5_becomeLike 71 = .ok (.aload_n 1, 1) := by decide +kernel
theorem dX5_becomeLike_72 : decode cX5_becomeLike 72 = .ok (.getfield 22, 3) := by decide +kernel
theorem dX5_becomeLike_75 : decode cX5_becomeLike 75 = .ok (.iload_n 2, 1) := by decide +kernel
theorem dX5_becomeLike_76 : decode cX5_becomeLike 76 = .ok (.iaload, 1) := by decide +kernel
theorem dX5_becomeLike_77 : decode cX5_becomeLike 77 = .ok (.iastore, 1) := by decide +kernel
theorem dX5_becomeLike_78 : decode cX5_becomeLike 78 = .ok (.iinc 2 1, 3) := by decide +kernel
theorem dX5_becomeLike_81 : decode cX5_becomeLike 81 = .ok (.goto (-47), 3) := by decide +kernel
theorem dX5_becomeLike_84 : decode cX5_becomeLike 84 = .ok (.iconst 0, 1) := by decide +kernel
theorem dX5_becomeLike_85 : decode cX5_becomeLike 85 = .ok (.istore_n 2, 1) := by decide +kernel
theorem dX5_becomeLike_86 : decode cX5_becomeLike 86 = .ok (.iload_n 2, 1) := by decide +kernel
theorem dX5_becomeLike_87 : decode cX5_becomeLike 87 = .ok (.aload_n 0, 1) := by decide +kernel
theorem dX5_becomeLike_88 : decode cX5_becomeLike 88 = .ok (.getfield 43, 3) := by decide +kernel
theorem dX5_becomeLike_91 : decode cX5_becomeLike 91 = .ok (.if_icmp .ge 45, 3) := by decide +kernel
theorem dX5_becomeLike_94 : decode cX5_becomeLike 94 = .ok (.aload_n 0, 1) := by decide +kernel
theorem dX5_becomeLike_95 : decode cX5_becomeLike 95 = .ok (.getfield 25, 3) := by decide +kernel
theorem dX5_becomeLike_98 : decode cX5_becomeLike 98 = .ok (.iload_n 2, 1) := by decide +kernel
theorem dX5_becomeLike_99 : decode cX5_becomeLike 99 = .ok (.aload_n 1, 1) := by decide +kernel
theorem dX5_becomeLike_100 : decode cX5_becomeLike 100 = .ok (.getfield 25, 3) := by decide +kernel
theorem dX5_becomeLike_103 : decode cX5_becomeLike 103 = .ok (.iload_n 2, 1) := by decide +kernel
theorem dX5_becomeLike_104 : decode cX5_becomeLike 104 = .ok (.iaload, 1) := by decide +kernel
theorem dX5_becomeLike_105 : decode cX5_becomeLike 105 = .ok (.iastore, 1) := by decide +kernel
theorem dX5_becomeLike_106 : decode cX5_becomeLike 106 = .ok (.aload_n 0, 1) := by decide +kernel
theorem dX5_becomeLike_107 : decode cX5_becomeLike 107 = .ok (.getfield 28, 3) := by decide +kernel
theorem dX5_becomeLike_110 : decode cX5_becomeLike 110 = .ok (.iload_n 2, 1) := by decide +kernel
theorem dX5_becomeLike_111 : decode cX5_becomeLike 111 = .ok (.aload_n 1, 1) := by decide +kernel
theorem dX5_becomeLike_112 : decode cX5_becomeLike 112 = .ok (.getfield 28, 3) := by decide +kernel
theorem dX5_becomeLike_115 : decode cX5_becomeLike 115 = .ok (.iload_n 2, 1) := by decide +kernel
theorem dX5_becomeLike_116 : decode cX5_becomeLike 116 = .ok (.iaload, 1) := by decide +kernel
theorem dX5_becomeLike_117 : decode cX5_becomeLike 117 = .ok (.iastore, 1) := by decide +kernel
theorem dX5_becomeLike_118 : decode cX5_becomeLike 118 = .ok (.aload_n 0, 1) := by decide +kernel
theorem dX5_becomeLike_119 : decode cX5_becomeLike 119 = .ok (.getfield 31, 3) := by decide +kernel
theorem dX5_becomeLike_122 : decode cX5_becomeLike 122 = .ok (.iload_n 2, 1) := by decide +kernel
theorem dX5_becomeLike_123 : decode cX5_becomeLike 123 = .ok (.aload_n 1, 1) := by decide +kernel
theorem dX5_becomeLike_124 : decode cX5_becomeLike 124 = .ok (.getfield 31, 3) := by decide +kernel
theorem dX5_becomeLike_127 : decode cX5_becomeLike 127 = .ok (.iload_n 2, 1) := by decide +kernel
theorem dX5_becomeLike_128 : decode cX5_becomeLike 128 = .ok (.iaload, 1) := by decide +kernel
theorem dX5_becomeLike_129 : decode cX5_becomeLike 129 = .ok (.iastore, 1) := by decide +kernel
theorem dX5_becomeLike_130 : decode cX5_becomeLike 130 = .ok (.iinc 2 1, 3) := by decide +kernel
theorem dX5_becomeLike_133 : decode cX5_becomeLike 133 = .ok (.goto (-47), 3) := by decide +kernel
theorem dX5_becomeLike_136 : decode cX5_becomeLike 136 = .ok (.iconst 0, 1) := by decide +kernel
theorem dX5_becomeLike_137 : decode cX5_becomeLike 137 = .ok (.istore_n 2, 1) := by decide +kernel
theorem dX5_becomeLike_138 : decode cX5_becomeLike 138 = .ok (.iload_n 2, 1) := by decide +kernel
theorem dX5_becomeLike_139 : decode cX5_becomeLike 139 = .ok (.aload_n 0, 1) := by decide +kernel
theorem dX5_becomeLike_140 : decode cX5_becomeLike 140 = .ok (.getfield 39, 3) := by decide +kernel
theorem dX5_becomeLike_143 : decode cX5_becomeLike 143 = .ok (.if_icmp .gt 30, 3) := by decide +kernel
theorem dX5_becomeLike_146 : decode cX5_becomeLike 146 = .ok (.aload_n 1, 1) := by decide +kernel
theorem dX5_becomeLike_147 : decode cX5_becomeLike 147 = .ok (.getfield 36, 3) := by decide +kernel
theorem dX5_becomeLike_150 : decode cX5_becomeLike 150 = .ok (.iload_n 2, 1) := by decide +kernel
theorem dX5_becomeLike_151 : decode cX5_becomeLike 151 = .ok (.aaload, 1) := by decide +kernel
theorem dX5_becomeLike_152 : decode cX5_becomeLike 152 = .ok (.iconst 0, 1) := by decide +kernel
theorem dX5_becomeLike_153 : decode cX5_becomeLike 153 = .ok (.aload_n 0, 1) := by decide +kernel
theorem dX5_becomeLike_154 : decode cX5_becomeLike 154 = .ok (.getfield 36, 3) := by decide +kernel
theorem dX5_becomeLike_157 : decode cX5_becomeLike 157 = .ok (.iload_n 2, 1) := by decide +kernel
theorem dX5_becomeLike_158 : decode cX5_becomeLike 158 = .ok (.aaload, 1) := by decide +kernel
theorem dX5_becomeLike_159 : decode cX5_becomeLike 159 = .ok (.iconst 0, 1) := by decide +kernel
theorem dX5_becomeLike_160 : decode cX5_becomeLike 160 = .ok (.aload_n 0, 1) := by decide +kernel
theorem dX5_becomeLike_161 : decode cX5_becomeLike 161 = .ok (.getfield 43, 3) := by decide +kernel
theorem dX5_becomeLike_164 : decode cX5_becomeLike 164 = .ok (.invokestatic 64, 3) := by decide +kernel
theorem dX5_becomeLike_167 : decode cX5_becomeLike 167 = .ok (.iinc 2 1, 3) := by decide +kernel
theorem dX5_becomeLike_170 : decode cX5_becomeLike 170 = .ok (.goto (-32), 3) := by decide +kernel
theorem dX5_becomeLike_173 : decode cX5_becomeLike 173 = .ok (.return_, 1) := by decide +kernel
theorem dX5_rideAll_0 : decode cX5_rideAll 0 = .ok (.aload_n 0, 1) := by decide +kernel
theorem dX5_rideAll_1 : decode cX5_rideAll 1 = .ok (.getfield 28, 3) := by decide +kernel
theorem dX5_rideAll_4 : decode cX5_rideAll 4 = .ok (.iconst 0, 1) := by decide +kernel
theorem dX5_rideAll_5 : decode cX5_rideAll 5 = .ok (.aload_n 0, 1) := by decide +kernel
theorem dX5_rideAll_6 : decode cX5_rideAll 6 = .ok (.getfield 36, 3) := by decide +kernel
theorem dX5_rideAll_9 : decode cX5_rideAll 9 = .ok (.iconst 0, 1) := by decide +kernel
theorem dX5_rideAll_10 : decode cX5_rideAll 10 = .ok (.aaload, 1) := by decide +kernel
theorem dX5_rideAll_11 : decode cX5_rideAll 11 = .ok (.iconst 0, 1) := by decide +kernel
theorem dX5_rideAll_12 : decode cX5_rideAll 12 = .ok (.aload_n 0, 1) := by decide +kernel
theorem dX5_rideAll_13 : decode cX5_rideAll 13 = .ok (.getfield 43, 3) := by decide +kernel
theorem dX5_rideAll_16 : decode cX5_rideAll 16 = .ok (.invokestatic 64, 3) := by decide +kernel
theorem dX5_rideAll_19 : decode cX5_rideAll 19 = .ok (.aload_n 0, 1) := by decide +kernel
theorem dX5_rideAll_20 : decode cX5_rideAll 20 = .ok (.iconst 0, 1) := by decide +kernel
theorem dX5_rideAll_21 : decode cX5_rideAll 21 = .ok (.invokevirtual 70, 3) := by decide +kernel
theorem dX5_rideAll_24 : decode cX5_rideAll 24 = .ok (.return_, 1) := by decide +kernel
theorem dX5_rideFrom_0 : decode cX5_rideFrom 0 = .ok (.iload_n 1, 1) := by decide +kernel
theorem dX5_rideFrom_1 : decode cX5_rideFrom 1 = .ok (.istore_n 2, 1) := by decide +kernel
theorem dX5_rideFrom_2 : decode cX5_rideFrom 2 = .ok (.iload_n 2, 1) := by decide +kernel
theorem dX5_rideFrom_3 : decode cX5_rideFrom 3 = .ok (.aload_n 0, 1) := by decide +kernel
theorem dX5_rideFrom_4 : decode cX5_rideFrom 4 = .ok (.getfield 39, 3) := by decide +kernel
theorem dX5_rideFrom_7 : decode cX5_rideFrom 7 = .ok (.if_icmp .ge 14, 3) := by decide +kernel
theorem dX5_rideFrom_10 : decode cX5_rideFrom 10 = .ok (.aload_n 0, 1) := by decide +kernel
theorem dX5_rideFrom_11 : decode cX5_rideFrom 11 = .ok (.iload_n 2, 1) := by decide +kernel
theorem dX5_rideFrom_12 : decode cX5_rideFrom 12 = .ok (.invokevirtual 74, 3) := by decide +kernel
theorem dX5_rideFrom_15 : decode cX5_rideFrom 15 = .ok (.iinc 2 1, 3) := by decide +kernel
theorem dX5_rideFrom_18 : decode cX5_rideFrom 18 = .ok (.goto (-16), 3) := by decide +kernel
theorem dX5_rideFrom_21 : decode cX5_rideFrom 21 = .ok (.return_, 1) := by decide +kernel
theorem dX5_rideThrough_0 : decode cX5_rideThrough 0 = .ok (.aload_n 0, 1) := by decide +kernel
theorem dX5_rideThrough_1 : decode cX5_rideThrough 1 = .ok (.getfield 36, 3) := by decide +kernel
theorem dX5_rideThrough_4 : decode cX5_rideThrough 4 = .ok (.iload_n 1, 1) := by decide +kernel
theorem dX5_rideThrough_5 : decode cX5_rideThrough 5 = .ok (.iconst 1, 1) := by decide +kernel
theorem dX5_rideThrough_6 : decode cX5_rideThrough 6 = .ok (.iadd, 1) := by decide +kernel
theorem dX5_rideThrough_7 : decode cX5_rideThrough 7 = .ok (.aaload, 1) := by decide +kernel
theorem dX5_rideThrough_8 : decode cX5_rideThrough 8 = .ok (.astore_n 2, 1) := by decide +kernel
theorem dX5_rideThrough_9 : decode cX5_rideThrough 9 = .ok (.iconst 0, 1) := by decide +kernel
theorem dX5_rideThrough_10 : decode cX5_rideThrough 10 = .ok (.istore_n 3, 1) := by decide +kernel
theorem dX5_rideThrough_11 : decode cX5_rideThrough 11 = .ok (.iload_n 3, 1) := by decide +kernel
theorem dX5_rideThrough_12 : decode cX5_rideThrough 12 = .ok (.aload_n 0, 1) := by decide +kernel
theorem dX5_rideThrough_13 : decode cX5_rideThrough 13 = .ok (.getfield 43, 3) := by decide +kernel
theorem dX5_rideThrough_16 : decode cX5_rideThrough 16 = .ok (.if_icmp .ge 18, 3) := by decide +kernel
theorem dX5_rideThrough_19 : decode cX5_rideThrough 19 = .ok (.aload_n 2, 1) := by decide +kernel
theorem dX5_rideThrough_20 : decode cX5_rideThrough 20 = .ok (.iload_n 3, 1) := by decide +kernel
theorem dX5_rideThrough_21 : decode cX5_rideThrough 21 = .ok (.aload_n 0, 1) := by decide +kernel
theorem dX5_rideThrough_22 : decode cX5_rideThrough 22 = .ok (.iload_n 3, 1) := by decide +kernel
theorem dX5_rideThrough_23 : decode cX5_rideThrough 23 = .ok (.iload_n 1, 1) := by decide +kernel
theorem dX5_rideThrough_24 : decode cX5_rideThrough 24 = .ok (.invokevirtual 77, 3) := by decide +kernel
theorem dX5_rideThrough_27 : decode cX5_rideThrough 27 = .ok (.iastore, 1) := by decide +kernel
theorem dX5_rideThrough_28 : decode cX5_rideThrough 28 = .ok (.iinc 3 1, 3) := by decide +kernel
theorem dX5_rideThrough_31 : decode cX5_rideThrough 31 = .ok (.goto (-20), 3) := by decide +kernel
theorem dX5_rideThrough_34 : decode cX5_rideThrough 34 = .ok (.aload_n 0, 1) := by decide +kernel
theorem dX5_rideThrough_35 : decode cX5_rideThrough 35 = .ok (.getfield 19, 3) := by decide +kernel
theorem dX5_rideThrough_38 : decode cX5_rideThrough 38 = .ok (.iload_n 1, 1) := by decide +kernel
theorem dX5_rideThrough_39 : decode cX5_rideThrough 39 = .ok (.iaload, 1) := by decide +kernel
theorem dX5_rideThrough_40 : decode cX5_rideThrough 40 = .ok (.istore_n 3, 1) := by decide +kernel
theorem dX5_rideThrough_41 : decode cX5_rideThrough 41 = .ok (.aload_n 0, 1) := by decide +kernel
theorem dX5_rideThrough_42 : decode cX5_rideThrough 42 = .ok (.getfield 22, 3) := by decide +kernel
theorem dX5_rideThrough_45 : decode cX5_rideThrough 45 = .ok (.iload_n 1, 1) := by decide +kernel
theorem dX5_rideThrough_46 : decode cX5_rideThrough 46 = .ok (.iaload, 1) := by decide +kernel
theorem dX5_rideThrough_47 : decode cX5_rideThrough 47 = .ok (.istore 4, 2) := by decide +kernel
theorem dX5_rideThrough_49 : decode cX5_rideThrough 49 = .ok (.iload_n 3, 1) := by decide +kernel
theorem dX5_rideThrough_50 : decode cX5_rideThrough 50 = .ok (.bipush (-9), 2) := by decide +kernel
theorem dX5_rideThrough_52 : decode cX5_rideThrough 52 = .ok (.if_icmp .eq 33, 3) := by decide +kernel
theorem dX5_rideThrough_55 : decode cX5_rideThrough 55 = .ok (.iload 4, 2) := by decide +kernel
theorem dX5_rideThrough_57 : decode cX5_rideThrough 57 = .ok (.bipush (-9), 2) := by decide +kernel
theorem dX5_rideThrough_59 : decode cX5_rideThrough 59 = .ok (.if_icmp .eq 26, 3) := by decide +kernel
theorem dX5_rideThrough_62 : decode cX5_rideThrough 62 = .ok (.aload_n 2, 1) := by decide +kernel
theorem dX5_rideThrough_63 : decode cX5_rideThrough 63 = .ok (.iload_n 3, 1) := by decide +kernel
theorem dX5_rideThrough_64 : decode cX5_rideThrough 64 = .ok (.iaload, 1) := by decide +kernel
theorem dX5_rideThrough_65 : decode cX5_rideThrough 65 = .ok (.aload_n 2, 1) := by decide +kernel
theorem dX5_rideThrough_66 : decode cX5_rideThrough 66 = .ok (.iload 4, 2) := by decide +kernel
theorem dX5_rideThrough_68 : decode cX5_rideThrough 68 = .ok (.iaload, 1) := by decide +kernel
theorem dX5_rideThrough_69 : decode cX5_rideThrough 69 = .ok (.iadd, 1) := by decide +kernel
theorem dX5_rideThrough_70 : decode cX5_rideThrough 70 = .ok (.iconst 2, 1) := by decide +kernel
theorem dX5_rideThrough_71 : decode cX5_rideThrough 71 = .ok (.idiv, 1) := by decide +kernel
theorem dX5_rideThrough_72 : decode cX5_rideThrough 72 = .ok (.istore 5, 2) := by decide +kernel
theorem dX5_rideThrough_74 : decode cX5_rideThrough 74 = .ok (.aload_n 2, 1) := by decide +kernel
theorem dX5_rideThrough_75 : decode cX5_rideThrough 75 = .ok (.iload_n 3, 1) := by decide +kernel
theorem dX5_rideThrough_76 : decode cX5_rideThrough 76 = .ok (.iload 5, 2) := by decide +kernel
theorem dX5_rideThrough_78 : decode cX5_rideThrough 78 = .ok (.iastore, 1) := by decide +kernel
theorem dX5_rideThrough_79 : decode cX5_rideThrough 79 = .ok (.aload_n 2, 1) := by decide +kernel
theorem dX5_rideThrough_80 : decode cX5_rideThrough 80 = .ok (.iload 4, 2) := by decide +kernel
theorem dX5_rideThrough_82 : decode cX5_rideThrough 82 = .ok (.iload 5, 2) := by decide +kernel
theorem dX5_rideThrough_84 : decode cX5_rideThrough 84 = .ok (.iastore, 1) := by decide +kernel
theorem dX5_rideThrough_85 : decode cX5_rideThrough 85 = .ok (.return_, 1) := by decide +kernel
theorem dX5_regretBehind_0 : decode cX5_regretBehind 0 = .ok (.aload_n 0, 1) := by decide +kernel
theorem dX5_regretBehind_1 : decode cX5_regretBehind 1 = .ok (.getfield 36, 3) := by decide +kernel
theorem dX5_regretBehind_4 : decode cX5_regretBehind 4 = .ok (.iload_n 2, 1) := by decide +kernel
theorem dX5_regretBehind_5 : decode cX5_regretBehind 5 = .ok (.aaload, 1) := by decide +kernel
theorem dX5_regretBehind_6 : decode cX5_regretBehind 6 = .ok (.iload_n 1, 1) := by decide +kernel
theorem dX5_regretBehind_7 : decode cX5_regretBehind 7 = .ok (.iaload, 1) := by decide +kernel
theorem dX5_regretBehind_8 : decode cX5_regretBehind 8 = .ok (.istore_n 3, 1) := by decide +kernel
theorem dX5_regretBehind_9 : decode cX5_regretBehind 9 = .ok (.aload_n 0, 1) := by decide +kernel
theorem dX5_regretBehind_10 : decode cX5_regretBehind 10 = .ok (.getfield 15, 3) := by decide +kernel
theorem dX5_regretBehind_13 : decode cX5_regretBehind 13 = .ok (.iload_n 2, 1) := by decide +kernel
theorem dX5_regretBehind_14 : decode cX5_regretBehind 14 = .ok (.baload, 1) := by decide +kernel
theorem dX5_regretBehind_15 : decode cX5_regretBehind 15 = .ok (.ifCond .eq 27, 3) := by decide +kernel
theorem dX5_regretBehind_18 : decode cX5_regretBehind 18 = .ok (.bipush 99, 2) := by decide +kernel
theorem dX5_regretBehind_20 : decode cX5_regretBehind 20 = .ok (.iload_n 3, 1) := by decide +kernel
theorem dX5_regretBehind_21 : decode cX5_regretBehind 21 = .ok (.aload_n 0, 1) := by decide +kernel
theorem dX5_regretBehind_22 : decode cX5_regretBehind 22 = .ok (.getfield 25, 3) := by decide +kernel
theorem dX5_regretBehind_25 : decode cX5_regretBehind 25 = .ok (.iload_n 1, 1) := by decide +kernel
theorem dX5_regretBehind_26 : decode cX5_regretBehind 26 = .ok (.iaload, 1) := by decide +kernel
theorem dX5_regretBehind_27 : decode cX5_regretBehind 27 = .ok (.iconst 2, 1) := by decide +kernel
theorem dX5_regretBehind_28 : decode cX5_regretBehind 28 = .ok (.if_icmp .ne 8, 3) := by decide +kernel
theorem dX5_regretBehind_31 : decode cX5_regretBehind 31 = .ok (.bipush 10, 2) := by decide +kernel
theorem dX5_regretBehind_33 : decode cX5_regretBehind 33 = .ok (.goto 4, 3) := by decide +kernel
theorem dX5_regretBehind_36 : decode cX5_regretBehind 36 = .ok (.iconst 5, 1) := by decide +kernel
theorem dX5_regretBehind_37 : decode cX5_regretBehind 37 = .ok (.iadd, 1) := by decide +kernel
theorem dX5_regretBehind_38 : decode cX5_regretBehind 38 = .ok (.invokestatic 81, 3) := by decide +kernel
theorem dX5_regretBehind_41 : decode cX5_regretBehind 41 = .ok (.ireturn, 1) := by decide +kernel
theorem dX5_regretBehind_42 : decode cX5_regretBehind 42 = .ok (.aload_n 0, 1) := by decide +kernel
theorem dX5_regretBehind_43 : decode cX5_regretBehind 43 = .ok (.getfield 25, 3) := by decide +kernel
theorem dX5_regretBehind_46 : decode cX5_regretBehind 46 = .ok (.iload_n 1, 1) := by decide +kernel
theorem dX5_regretBehind_47 : decode cX5_regretBehind 47 = .ok (.iaload, 1) := by decide +kernel
theorem dX5_regretBehind_48 : decode cX5_regretBehind 48 = .ok (.iconst 1, 1) := by decide +kernel
theorem dX5_regretBehind_49 : decode cX5_regretBehind 49 = .ok (.if_icmp .ne 18, 3) := by decide +kernel
theorem dX5_regretBehind_52 : decode cX5_regretBehind 52 = .ok (.iconst 0, 1) := by decide +kernel
theorem dX5_regretBehind_53 : decode cX5_regretBehind 53 = .ok (.aload_n 0, 1) := by decide +kernel
theorem dX5_regretBehind_54 : decode cX5_regretBehind 54 = .ok (.getfield 31, 3) := by decide +kernel
theorem dX5_regretBehind_57 : decode cX5_regretBehind 57 = .ok (.iload_n 1, 1) := by decide +kernel
theorem dX5_regretBehind_58 : decode cX5_regretBehind 58 = .ok (.iaload, 1) := by decide +kernel
theorem dX5_regretBehind_59 : decode cX5_regretBehind 59 = .ok (.iconst 1, 1) := by decide +kernel
theorem dX5_regretBehind_60 : decode cX5_regretBehind 60 = .ok (.isub, 1) := by decide +kernel
theorem dX5_regretBehind_61 : decode cX5_regretBehind 61 = .ok (.invokestatic 86, 3) := by decide +kernel
theorem dX5_regretBehind_64 : decode cX5_regretBehind 64 = .ok (.goto 9, 3) := by decide +kernel
theorem dX5_regretBehind_67 : decode cX5_regretBehind 67 = .ok (.aload_n 0, 1) := by decide +kernel
theorem dX5_regretBehind_68 : decode cX5_regretBehind 68 = .ok (.getfield 31, 3) := by decide +kernel
theorem dX5_regretBehind_71 : decode cX5_regretBehind 71 = .ok (.iload_n 1, 1) := by decide +kernel
theorem dX5_regretBehind_72 : decode cX5_regretBehind 72 = .ok (.iaload, 1) := by decide +kernel
theorem dX5_regretBehind_73 : decode cX5_regretBehind 73 = .ok (.istore 4, 2) := by decide +kernel
theorem dX5_regretBehind_75 : decode cX5_regretBehind 75 = .ok (.iconst 0, 1) := by decide +kernel
theorem dX5_regretBehind_76 : decode cX5_regretBehind 76 = .ok (.iload_n 3, 1) := by decide +kernel
theorem dX5_regretBehind_77 : decode cX5_regretBehind 77 = .ok (.iload 4, 2) := by decide +kernel
theorem dX5_regretBehind_79 : decode cX5_regretBehind 79 = .ok (.isub, 1) := by decide +kernel
theorem dX5_regretBehind_80 : decode cX5_regretBehind 80 = .ok (.invokestatic 86, 3) := by decide +kernel
theorem dX5_regretBehind_83 : decode cX5_regretBehind 83 = .ok (.ireturn, 1) := by decide +kernel
theorem dX5_regretAhead_0 : decode cX5_regretAhead 0 = .ok (.aload_n 0, 1) := by decide +kernel
theorem dX5_regretAhead_1 : decode cX5_regretAhead 1 = .ok (.getfield 36, 3) := by decide +kernel
theorem dX5_regretAhead_4 : decode cX5_regretAhead 4 = .ok (.iload_n 2, 1) := by decide +kernel
theorem dX5_regretAhead_5 : decode cX5_regretAhead 5 = .ok (.aaload, 1) := by decide +kernel
theorem dX5_regretAhead_6 : decode cX5_regretAhead 6 = .ok (.iload_n 1, 1) := by decide +kernel
theorem dX5_regretAhead_7 : decode cX5_regretAhead 7 = .ok (.iaload, 1) := by decide +kernel
theorem dX5_regretAhead_8 : decode cX5_regretAhead 8 = .ok (.ireturn, 1) := by decide +kernel
theorem dX5_classDue_0 : decode cX5_classDue 0 = .ok (.aload_n 0, 1) := by decide +kernel
theorem dX5_classDue_1 : decode cX5_classDue 1 = .ok (.getfield 36, 3) := by decide +kernel
theorem dX5_classDue_4 : decode cX5_classDue 4 = .ok (.iload_n 2, 1) := by decide +kernel
theorem dX5_classDue_5 : decode cX5_classDue 5 = .ok (.aaload, 1) := by decide +kernel
theorem dX5_classDue_6 : decode cX5_classDue 6 = .ok (.iload_n 1, 1) := by decide +kernel
theorem dX5_classDue_7 : decode cX5_classDue 7 = .ok (.iaload, 1) := by decide +kernel
theorem dX5_classDue_8 : decode cX5_classDue 8 = .ok (.istore_n 3, 1) := by decide +kernel
theorem dX5_classDue_9 : decode cX5_classDue 9 = .ok (.iload_n 3, 1) := by decide +kernel
theorem dX5_classDue_10 : decode cX5_classDue 10 = .ok (.aload_n 0, 1) := by decide +kernel
theorem dX5_classDue_11 : decode cX5_classDue 11 = .ok (.getfield 46, 3) := by decide +kernel
theorem dX5_classDue_14 : decode cX5_classDue 14 = .ok (.if_icmp .ge 5, 3) := by decide +kernel
theorem dX5_classDue_17 : decode cX5_classDue 17 = .ok (.iconst 0, 1) := by decide +kernel
theorem dX5_classDue_18 : decode cX5_classDue 18 = .ok (.ireturn, 1) := by decide +kernel
theorem dX5_classDue_19 : decode cX5_classDue 19 = .ok (.iload_n 3, 1) := by decide +kernel
theorem dX5_classDue_20 : decode cX5_classDue 20 = .ok (.aload_n 0, 1) := by decide +kernel
theorem dX5_classDue_21 : decode cX5_classDue 21 = .ok (.getfield 49, 3) := by decide +kernel
theorem dX5_classDue_24 : decode cX5_classDue 24 = .ok (.if_icmp .ge 7, 3) := by decide +kernel
theorem dX5_classDue_27 : decode cX5_classDue 27 = .ok (.iconst 1, 1) := by decide +kernel
theorem dX5_classDue_28 : decode cX5_classDue 28 = .ok (.goto 4, 3) := by decide +kernel
theorem dX5_classDue_31 : decode cX5_classDue 31 = .ok (.iconst 2, 1) := by decide +kernel
theorem dX5_classDue_32 : decode cX5_classDue 32 = .ok (.ireturn, 1) := by decide +kernel
theorem dX5_dueTogether_0 : decode cX5_dueTogether 0 = .ok (.iconst 0, 1) := by decide +kernel
theorem dX5_dueTogether_1 : decode cX5_dueTogether 1 = .ok (.istore_n 2, 1) := by decide +kernel
theorem dX5_dueTogether_2 : decode cX5_dueTogether 2 = .ok (.iconst 0, 1) := by decide +kernel
theorem dX5_dueTogether_3 : decode cX5_dueTogether 3 = .ok (.istore_n 3, 1) := by decide +kernel
theorem dX5_dueTogether_4 : decode cX5_dueTogether 4 = .ok (.iload_n 3, 1) := by decide +kernel
theorem dX5_dueTogether_5 : decode cX5_dueTogether 5 = .ok (.aload_n 0, 1) := by decide +kernel
theorem dX5_dueTogether_6 : decode cX5_dueTogether 6 = .ok (.getfield 39, 3) := by decide +kernel
theorem dX5_dueTogether_9 : decode cX5_dueTogether 9 = .ok (.if_icmp .ge 18, 3) := by decide +kernel
theorem dX5_dueTogether_12 : decode cX5_dueTogether 12 = .ok (.iload_n 2, 1) := by decide +kernel
theorem dX5_dueTogether_13 : decode cX5_dueTogether 13 = .ok (.aload_n 0, 1) := by decide +kernel
theorem dX5_dueTogether_14 : decode cX5_dueTogether 14 = .ok (.iload_n 1, 1) := by decide +kernel
theorem dX5_dueTogether_15 : decode cX5_dueTogether 15 = .ok (.iload_n 3, 1) := by decide +kernel
theorem dX5_dueTogether_16 : decode cX5_dueTogether 16 = .ok (.invokevirtual 89, 3) := by decide +kernel
theorem dX5_dueTogether_19 : decode cX5_dueTogether 19 = .ok (.iadd, 1) := by decide +kernel
theorem dX5_dueTogether_20 : decode cX5_dueTogether 20 = .ok (.istore_n 2, 1) := by decide +kernel
theorem dX5_dueTogether_21 : decode cX5_dueTogether 21 = .ok (.iinc 3 1, 3) := by decide +kernel
theorem dX5_dueTogether_24 : decode cX5_dueTogether 24 = .ok (.goto (-20), 3) := by decide +kernel
theorem dX5_dueTogether_27 : decode cX5_dueTogether 27 = .ok (.iload_n 2, 1) := by decide +kernel
theorem dX5_dueTogether_28 : decode cX5_dueTogether 28 = .ok (.ireturn, 1) := by decide +kernel
theorem dX6_init_0 : decode cX6_init 0 = .ok (.aload_n 0, 1) := by decide +kernel
theorem dX6_init_1 : decode cX6_init 1 = .ok (.invokespecial 3, 3) := by decide +kernel
theorem dX6_init_4 : decode cX6_init 4 = .ok (.aload_n 0, 1) := by decide +kernel
theorem dX6_init_5 : decode cX6_init 5 = .ok (.iconst 4, 1) := by decide +kernel
theorem dX6_init_6 : decode cX6_init 6 = .ok (.anewarray 11, 3) := by decide +kernel
theorem dX6_init_9 : decode cX6_init 9 = .ok (.putfield 13, 3) := by decide +kernel
theorem dX6_init_12 : decode cX6_init 12 = .ok (.iconst 0, 1) := by decide +kernel
theorem dX6_init_13 : decode cX6_init 13 = .ok (.istore_n 1, 1) := by decide +kernel
theorem dX6_init_14 : decode cX6_init 14 = .ok (.iload_n 1, 1) := by decide +kernel
theorem dX6_init_15 : decode cX6_init 15 = .ok (.iconst 4, 1) := by decide +kernel
theorem dX6_init_16 : decode cX6_init 16 = .ok (.if_icmp .ge 22, 3) := by decide +kernel
theorem dX6_init_19 : decode cX6_init 19 = .ok (.aload_n 0, 1) := by decide +kernel
theorem dX6_init_20 : decode cX6_init 20 = .ok (.getfield 13, 3) := by decide +kernel
theorem dX6_init_23 : decode cX6_init 23 = .ok (.iload_n 1, 1) := by decide +kernel
theorem dX6_init_24 : decode cX6_init 24 = .ok (.new 11, 3) := by decide +kernel
theorem dX6_init_27 : decode cX6_init 27 = .ok (.dup, 1) := by decide +kernel
theorem dX6_init_28 : decode cX6_init 28 = .ok (.invokespecial 17, 3) := by decide +kernel
theorem dX6_init_31 : decode cX6_init 31 = .ok (.aastore, 1) := by decide +kernel
theorem dX6_init_32 : decode cX6_init 32 = .ok (.iinc 1 1, 3) := by decide +kernel
theorem dX6_init_35 : decode cX6_init 35 = .ok (.goto (-21), 3) := by decide +kernel
theorem dX6_init_38 : decode cX6_init 38 = .ok (.aload_n 0, 1) := by decide +kernel
theorem dX6_init_39 : decode cX6_init 39 = .ok (.new 18, 3) := by decide +kernel
theorem dX6_init_42 : decode cX6_init 42 = .ok (.dup, 1) := by decide +kernel
theorem dX6_init_43 : decode cX6_init 43 = .ok (.invokespecial 20, 3) := by decide +kernel
theorem dX6_init_46 : decode cX6_init 46 = .ok (.putfield 21, 3) := by decide +kernel
theorem dX6_init_49 : decode cX6_init 49 = .ok (.aload_n 0, 1) := by decide +kernel
theorem dX6_init_50 : decode cX6_init 50 = .ok (.new 18, 3) := by decide +kernel
theorem dX6_init_53 : decode cX6_init 53 = .ok (.dup, 1) := by decide +kernel
theorem dX6_init_54 : decode cX6_init 54 = .ok (.invokespecial 20, 3) := by decide +kernel
theorem dX6_init_57 : decode cX6_init 57 = .ok (.putfield 25, 3) := by decide +kernel
theorem dX6_init_60 : decode cX6_init 60 = .ok (.aload_n 0, 1) := by decide +kernel
theorem dX6_init_61 : decode cX6_init 61 = .ok (.new 28, 3) := by decide +kernel
theorem dX6_init_64 : decode cX6_init 64 = .ok (.dup, 1) := by decide +kernel
theorem dX6_init_65 : decode cX6_init 65 = .ok (.invokespecial 30, 3) := by decide +kernel
theorem dX6_init_68 : decode cX6_init 68 = .ok (.putfield 31, 3) := by decide +kernel
theorem dX6_init_71 : decode cX6_init 71 = .ok (.aload_n 0, 1) := by decide +kernel
theorem dX6_init_72 : decode cX6_init 72 = .ok (.new 35, 3) := by decide +kernel
theorem dX6_init_75 : decode cX6_init 75 = .ok (.dup, 1) := by decide +kernel
theorem dX6_init_76 : decode cX6_init 76 = .ok (.aload_n 0, 1) := by decide +kernel
theorem dX6_init_77 : decode cX6_init 77 = .ok (.getfield 21, 3) := by decide +kernel
theorem dX6_init_80 : decode cX6_init 80 = .ok (.invokespecial 37, 3) := by decide +kernel
theorem dX6_init_83 : decode cX6_init 83 = .ok (.putfield 40, 3) := by decide +kernel
theorem dX6_init_86 : decode cX6_init 86 = .ok (.aload_n 0, 1) := by decide +kernel
theorem dX6_init_87 : decode cX6_init 87 = .ok (.new 44, 3) := by decide +kernel
theorem dX6_init_90 : decode cX6_init 90 = .ok (.dup, 1) := by decide +kernel
theorem dX6_init_91 : decode cX6_init 91 = .ok (.aload_n 0, 1) := by decide +kernel
theorem dX6_init_92 : decode cX6_init 92 = .ok (.getfield 21, 3) := by decide +kernel
theorem dX6_init_95 : decode cX6_init 95 = .ok (.invokespecial 46, 3) := by decide +kernel
theorem dX6_init_98 : decode cX6_init 98 = .ok (.putfield 47, 3) := by decide +kernel
theorem dX6_init_101 : decode cX6_init 101 = .ok (.aload_n 0, 1) := by decide +kernel
theorem dX6_init_102 : decode cX6_init 102 = .ok (.iconst 0, 1) := by decide +kernel
theorem dX6_init_103 : decode cX6_init 103 = .ok (.putfield 51, 3) := by decide +kernel
theorem dX6_init_106 : decode cX6_init 106 = .ok (.aload_n 0, 1) := by decide +kernel
theorem dX6_init_107 : decode cX6_init 107 = .ok (.iconst 0, 1) := by decide +kernel
theorem dX6_init_108 : decode cX6_init 108 = .ok (.putfield 55, 3) := by decide +kernel
theorem dX6_init_111 : decode cX6_init 111 = .ok (.aload_n 0, 1) := by decide +kernel
theorem dX6_init_112 : decode cX6_init 112 = .ok (.iconst 0, 1) := by decide +kernel
theorem dX6_init_113 : decode cX6_init 113 = .ok (.putfield 59, 3) := by decide +kernel
theorem dX6_init_116 : decode cX6_init 116 = .ok (.return_, 1) := by decide +kernel
theorem dX6_line_0 : decode cX6_line 0 = .ok (.aload_n 0, 1) := by decide +kernel
theorem dX6_line_1 : decode cX6_line 1 = .ok (.iconst 0, 1) := by decide +kernel
theorem dX6_line_2 : decode cX6_line 2 = .ok (.putfield 59, 3) := by decide +kernel
theorem dX6_line_5 : decode cX6_line 5 = .ok (.iload_n 1, 1) := by decide +kernel
theorem dX6_line_6 : decode cX6_line 6 = .ok (.invokestatic 62, 3) := by decide +kernel
theorem dX6_line_9 : decode cX6_line 9 = .ok (.ifCond .eq 5, 3) := by decide +kernel
theorem dX6_line_12 : decode cX6_line 12 = .ok (.iconst (-1), 1) := by decide +kernel
theorem dX6_line_13 : decode cX6_line 13 = .ok (.ireturn, 1) := by decide +kernel
theorem dX6_line_14 : decode cX6_line 14 = .ok (.iload_n 2, 1) := by decide +kernel
theorem dX6_line_15 : decode cX6_line 15 = .ok (.invokestatic 66, 3) := by decide +kernel
theorem dX6_line_18 : decode cX6_line 18 = .ok (.ifCond .eq 6, 3) := by decide +kernel
theorem dX6_line_21 : decode cX6_line 21 = .ok (.bipush (-2), 2) := by decide +kernel
theorem dX6_line_23 : decode cX6_line 23 = .ok (.ireturn, 1) := by decide +kernel
theorem dX6_line_24 : decode cX6_line 24 = .ok (.aload_n 0, 1) := by decide +kernel
theorem dX6_line_25 : decode cX6_line 25 = .ok (.aload_n 0, 1) := by decide +kernel
theorem dX6_line_26 : decode cX6_line 26 = .ok (.getfield 13, 3) := by decide +kernel
theorem dX6_line_29 : decode cX6_line 29 = .ok (.iload_n 1, 1) := by decide +kernel
theorem dX6_line_30 : decode cX6_line 30 = .ok (.aaload, 1) := by decide +kernel
theorem dX6_line_31 : decode cX6_line 31 = .ok (.iload_n 2, 1) := by decide +kernel
theorem dX6_line_32 : decode cX6_line 32 = .ok (.iload_n 3, 1) := by decide +kernel
theorem dX6_line_33 : decode cX6_line 33 = .ok (.iload 4, 2) := by decide +kernel
theorem dX6_line_35 : decode cX6_line 35 = .ok (.invokevirtual 69, 3) := by decide +kernel
theorem dX6_line_38 : decode cX6_line 38 = .ok (.putfield 59, 3) := by decide +kernel
theorem dX6_line_41 : decode cX6_line 41 = .ok (.aload_n 0, 1) := by decide +kernel
theorem dX6_line_42 : decode cX6_line 42 = .ok (.getfield 59, 3) := by decide +kernel
theorem dX6_line_45 : decode cX6_line 45 = .ok (.ifCond .eq 11, 3) := by decide +kernel
theorem dX6_line_48 : decode cX6_line 48 = .ok (.bipush (-10), 2) := by decide +kernel
theorem dX6_line_50 : decode cX6_line 50 = .ok (.aload_n 0, 1) := by decide +kernel
theorem dX6_line_51 : decode cX6_line 51 = .ok (.getfield 59, 3) := by decide +kernel
theorem dX6_line_54 : decode cX6_line 54 = .ok (.isub, 1) := by decide +kernel
theorem dX6_line_55 : decode cX6_line 55 = .ok (.ireturn, 1) := by decide +kernel
theorem dX6_line_56 : decode cX6_line 56 = .ok (.aload_n 0, 1) := by decide +kernel
theorem dX6_line_57 : decode cX6_line 57 = .ok (.getfield 13, 3) := by decide +kernel
theorem dX6_line_60 : decode cX6_line 60 = .ok (.iload_n 1, 1) := by decide +kernel
theorem dX6_line_61 : decode cX6_line 61 = .ok (.aaload, 1) := by decide +kernel
theorem dX6_line_62 : decode cX6_line 62 = .ok (.getfield 73, 3) := by decide +kernel
theorem dX6_line_65 : decode cX6_line 65 = .ok (.astore 5, 2) := by decide +kernel
theorem dX6_line_67 : decode cX6_line 67 = .ok (.aload 5, 2) := by decide +kernel
theorem dX6_line_69 : decode cX6_line 69 = .ok (.iload_n 3, 1) := by decide +kernel
theorem dX6_line_70 : decode cX6_line 70 = .ok (.iload 4, 2) := by decide +kernel
theorem dX6_line_72 : decode cX6_line 72 = .ok (.invokestatic 77, 3) := by decide +kernel
theorem dX6_line_75 : decode cX6_line 75 = .ok (.istore 6, 2) := by decide +kernel
theorem dX6_line_77 : decode cX6_line 77 = .ok (.iload 6, 2) := by decide +kernel
theorem dX6_line_79 : decode cX6_line 79 = .ok (.iconst (-1), 1) := by decide +kernel
theorem dX6_line_80 : decode cX6_line 80 = .ok (.if_icmp .eq 9, 3) := by decide +kernel
theorem dX6_line_83 : decode cX6_line 83 = .ok (.bipush (-100), 2) := by decide +kernel
theorem dX6_line_85 : decode cX6_line 85 = .ok (.iload 6, 2) := by decide +kernel
theorem dX6_line_87 : decode cX6_line 87 = .ok (.isub, 1) := by decide +kernel
theorem dX6_line_88 : decode cX6_line 88 = .ok (.ireturn, 1) := by decide +kernel
theorem dX6_line_89 : decode cX6_line 89 = .ok (.aload_n 0, 1) := by decide +kernel
theorem dX6_line_90 : decode cX6_line 90 = .ok (.getfield 21, 3) := by decide +kernel
theorem dX6_line_93 : decode cX6_line 93 = .ok (.aload 5, 2) := by decide +kernel
theorem dX6_line_95 : decode cX6_line 95 = .ok (.iload_n 3, 1) := by decide +kernel
theorem dX6_line_96 : decode cX6_line 96 = .ok (.iload 4, 2) := by decide +kernel
theorem dX6_line_98 : decode cX6_line 98 = .ok (.invokevirtual 83, 3) := by decide +kernel
theorem dX6_line_101 : decode cX6_line 101 = .ok (.aload_n 0, 1) := by decide +kernel
theorem dX6_line_102 : decode cX6_line 102 = .ok (.getfield 31, 3) := by decide +kernel
theorem dX6_line_105 : decode cX6_line 105 = .ok (.iconst 0, 1) := by decide +kernel
theorem dX6_line_106 : decode cX6_line 106 = .ok (.putfield 87, 3) := by decide +kernel
theorem dX6_line_109 : decode cX6_line 109 = .ok (.aload_n 0, 1) := by decide +kernel
theorem dX6_line_110 : decode cX6_line 110 = .ok (.invokevirtual 90, 3) := by decide +kernel
theorem dX6_line_113 : decode cX6_line 113 = .ok (.aload_n 0, 1) := by decide +kernel
theorem dX6_line_114 : decode cX6_line 114 = .ok (.getfield 21, 3) := by decide +kernel
theorem dX6_line_117 : decode cX6_line 117 = .ok (.getfield 93, 3) := by decide +kernel
theorem dX6_line_120 : decode cX6_line 120 = .ok (.ireturn, 1) := by decide +kernel
theorem dX6_ofPassenger_0 : decode cX6_ofPassenger 0 = .ok (.aload_n 0, 1) := by decide +kernel
theorem dX6_ofPassenger_1 : decode cX6_ofPassenger 1 = .ok (.iload_n 1, 1) := by decide +kernel
theorem dX6_ofPassenger_2 : decode cX6_ofPassenger 2 = .ok (.invokevirtual 96, 3) := by decide +kernel
theorem dX6_ofPassenger_5 : decode cX6_ofPassenger 5 = .ok (.ifCond .eq 5, 3) := by decide +kernel
theorem dX6_ofPassenger_8 : decode cX6_ofPassenger 8 = .ok (.iconst (-1), 1) := by decide +kernel
theorem dX6_ofPassenger_9 : decode cX6_ofPassenger 9 = .ok (.ireturn, 1) := by decide +kernel
theorem dX6_ofPassenger_10 : decode cX6_ofPassenger 10 = .ok (.iload_n 2, 1) := by decide +kernel
theorem dX6_ofPassenger_11 : decode cX6_ofPassenger 11 = .ok (.tableswitch 55 0 2 #[25, 35, 45], 25) := by decide +kernel
theorem dX6_ofPassenger_36 : decode cX6_ofPassenger 36 = .ok (.aload_n 0, 1) := by decide +kernel
theorem dX6_ofPassenger_37 : decode cX6_ofPassenger 37 = .ok (.getfield 21, 3) := by decide +kernel
theorem dX6_ofPassenger_40 : decode cX6_ofPassenger 40 = .ok (.getfield 99, 3) := by decide +kernel
theorem dX6_ofPassenger_43 : decode cX6_ofPassenger 43 = .ok (.iload_n 1, 1) := by decide +kernel
theorem dX6_ofPassenger_44 : decode cX6_ofPassenger 44 = .ok (.iaload, 1) := by decide +kernel
theorem dX6_ofPassenger_45 : decode cX6_ofPassenger 45 = .ok (.ireturn, 1) := by decide +kernel
theorem dX6_ofPassenger_46 : decode cX6_ofPassenger 46 = .ok (.aload_n 0, 1) := by decide +kernel
theorem dX6_ofPassenger_47 : decode cX6_ofPassenger 47 = .ok (.getfield 21, 3) := by decide +kernel
theorem dX6_ofPassenger_50 : decode cX6_ofPassenger 50 = .ok (.getfield 102, 3) := by decide +kernel
theorem dX6_ofPassenger_53 : decode cX6_ofPassenger 53 = .ok (.iload_n 1, 1) := by decide +kernel
theorem dX6_ofPassenger_54 : decode cX6_ofPassenger 54 = .ok (.iaload, 1) := by decide +kernel
theorem dX6_ofPassenger_55 : decode cX6_ofPassenger 55 = .ok (.ireturn, 1) := by decide +kernel
theorem dX6_ofPassenger_56 : decode cX6_ofPassenger 56 = .ok (.aload_n 0, 1) := by decide +kernel
theorem dX6_ofPassenger_57 : decode cX6_ofPassenger 57 = .ok (.getfield 21, 3) := by decide +kernel
theorem dX6_ofPassenger_60 : decode cX6_ofPassenger 60 = .ok (.getfield 105, 3) := by decide +kernel
theorem dX6_ofPassenger_63 : decode cX6_ofPassenger 63 = .ok (.iload_n 1, 1) := by decide +kernel
theorem dX6_ofPassenger_64 : decode cX6_ofPassenger 64 = .ok (.iaload, 1) := by decide +kernel
theorem dX6_ofPassenger_65 : decode cX6_ofPassenger 65 = .ok (.ireturn, 1) := by decide +kernel
theorem dX6_ofPassenger_66 : decode cX6_ofPassenger 66 = .ok (.bipush (-2), 2) := by decide +kernel
theorem dX6_ofPassenger_68 : decode cX6_ofPassenger 68 = .ok (.ireturn, 1) := by decide +kernel
theorem dX6_seats_0 : decode cX6_seats 0 = .ok (.aload_n 0, 1) := by decide +kernel
theorem dX6_seats_1 : decode cX6_seats 1 = .ok (.invokevirtual 108, 3) := by decide +kernel
theorem dX6_seats_4 : decode cX6_seats 4 = .ok (.ifCond .eq 6, 3) := by decide +kernel
theorem dX6_seats_7 : decode cX6_seats 7 = .ok (.bipush (-3), 2) := by decide +kernel
theorem dX6_seats_9 : decode cX6_seats 9 = .ok (.ireturn, 1) := by decide +kernel
theorem dX6_seats_10 : decode cX6_seats 10 = .ok (.iload_n 1, 1) := by decide +kernel
theorem dX6_seats_11 : decode cX6_seats 11 = .ok (.invokestatic 112, 3) := by decide +kernel
theorem dX6_seats_14 : decode cX6_seats 14 = .ok (.ifCond .ne 12, 3) := by decide +kernel
theorem dX6_seats_17 : decode cX6_seats 17 = .ok (.iload_n 2, 1) := by decide +kernel
theorem dX6_seats_18 : decode cX6_seats 18 = .ok (.ifCond .lt 8, 3) := by decide +kernel
theorem dX6_seats_21 : decode cX6_seats 21 = .ok (.iload_n 2, 1) := by decide +kernel
theorem dX6_seats_22 : decode cX6_seats 22 = .ok (.iconst 4, 1) := by decide +kernel
theorem dX6_seats_23 : decode cX6_seats 23 = .ok (.if_icmp .le 6, 3) := by decide +kernel
theorem dX6_seats_26 : decode cX6_seats 26 = .ok (.bipush (-2), 2) := by decide +kernel
theorem dX6_seats_28 : decode cX6_seats 28 = .ok (.ireturn, 1) := by decide +kernel
theorem dX6_seats_29 : decode cX6_seats 29 = .ok (.aload_n 0, 1) := by decide +kernel
theorem dX6_seats_30 : decode cX6_seats 30 = .ok (.getfield 21, 3) := by decide +kernel
theorem dX6_seats_33 : decode cX6_seats 33 = .ok (.getfield 115, 3) := by decide +kernel
theorem dX6_seats_36 : decode cX6_seats 36 = .ok (.iload_n 1, 1) := by decide +kernel
theorem dX6_seats_37 : decode cX6_seats 37 = .ok (.iaload, 1) := by decide +kernel
theorem dX6_seats_38 : decode cX6_seats 38 = .ok (.istore_n 3, 1) := by decide +kernel
theorem dX6_seats_39 : decode cX6_seats 39 = .ok (.aload_n 0, 1) := by decide +kernel
theorem dX6_seats_40 : decode cX6_seats 40 = .ok (.getfield 21, 3) := by decide +kernel
theorem dX6_seats_43 : decode cX6_seats 43 = .ok (.getfield 115, 3) := by decide +kernel
theorem dX6_seats_46 : decode cX6_seats 46 = .ok (.iload_n 1, 1) := by decide +kernel
theorem dX6_seats_47 : decode cX6_seats 47 = .ok (.iload_n 2, 1) := by decide +kernel
theorem dX6_seats_48 : decode cX6_seats 48 = .ok (.iastore, 1) := by decide +kernel
theorem dX6_seats_49 : decode cX6_seats 49 = .ok (.aload_n 0, 1) := by decide +kernel
theorem dX6_seats_50 : decode cX6_seats 50 = .ok (.iconst 0, 1) := by decide +kernel
theorem dX6_seats_51 : decode cX6_seats 51 = .ok (.putfield 51, 3) := by decide +kernel
theorem dX6_seats_54 : decode cX6_seats 54 = .ok (.iload_n 3, 1) := by decide +kernel
theorem dX6_seats_55 : decode cX6_seats 55 = .ok (.ireturn, 1) := by decide +kernel
theorem dX6_limits_0 : decode cX6_limits 0 = .ok (.aload_n 0, 1) := by decide +kernel
theorem dX6_limits_1 : decode cX6_limits 1 = .ok (.invokevirtual 108, 3) := by decide +kernel
theorem dX6_limits_4 : decode cX6_limits 4 = .ok (.ifCond .eq 6, 3) := by decide +kernel
theorem dX6_limits_7 : decode cX6_limits 7 = .ok (.bipush (-3), 2) := by decide +kernel
theorem dX6_limits_9 : decode cX6_limits 9 = .ok (.ireturn, 1) := by decide +kernel
theorem dX6_limits_10 : decode cX6_limits 10 = .ok (.iload_n 1, 1) := by decide +kernel
theorem dX6_limits_11 : decode cX6_limits 11 = .ok (.ifCond .lt 14, 3) := by decide +kernel
theorem dX6_limits_14 : decode cX6_limits 14 = .ok (.iload_n 1, 1) := by decide +kernel
theorem dX6_limits_15 : decode cX6_limits 15 = .ok (.iload_n 2, 1) := by decide +kernel
theorem dX6_limits_16 : decode cX6_limits 16 = .ok (.if_icmp .gt 9, 3) := by decide +kernel
theorem dX6_limits_19 : decode cX6_limits 19 = .ok (.iload_n 2, 1) := by decide +kernel
theorem dX6_limits_20 : decode cX6_limits 20 = .ok (.bipush 99, 2) := by decide +kernel
theorem dX6_limits_22 : decode cX6_limits 22 = .ok (.if_icmp .le 6, 3) := by decide +kernel
theorem dX6_limits_25 : decode cX6_limits 25 = .ok (.bipush (-2), 2) := by decide +kernel
theorem dX6_limits_27 : decode cX6_limits 27 = .ok (.ireturn, 1) := by decide +kernel
theorem dX6_limits_28 : decode cX6_limits 28 = .ok (.bipush 100, 2) := by decide +kernel
theorem dX6_limits_30 : decode cX6_limits 30 = .ok (.aload_n 0, 1) := by decide +kernel
theorem dX6_limits_31 : decode cX6_limits 31 = .ok (.getfield 21, 3) := by decide +kernel
theorem dX6_limits_34 : decode cX6_limits 34 = .ok (.getfield 118, 3) := by decide +kernel
theorem dX6_limits_37 : decode cX6_limits 37 = .ok (.imul, 1) := by decide +kernel
theorem dX6_limits_38 : decode cX6_limits 38 = .ok (.aload_n 0, 1) := by decide +kernel
theorem dX6_limits_39 : decode cX6_limits 39 = .ok (.getfield 21, 3) := by decide +kernel
theorem dX6_limits_42 : decode cX6_limits 42 = .ok (.getfield 121, 3) := by decide +kernel
theorem dX6_limits_45 : decode cX6_limits 45 = .ok (.iadd, 1) := by decide +kernel
theorem dX6_limits_46 : decode cX6_limits 46 = .ok (.istore_n 3, 1) := by decide +kernel
theorem dX6_limits_47 : decode cX6_limits 47 = .ok (.aload_n 0, 1) := by decide +kernel
theorem dX6_limits_48 : decode cX6_limits 48 = .ok (.getfield 21, 3) := by decide +kernel
theorem dX6_limits_51 : decode cX6_limits 51 = .ok (.iload_n 1, 1) := by decide +kernel
theorem dX6_limits_52 : decode cX6_limits 52 = .ok (.putfield 118, 3) := by decide +kernel
theorem dX6_limits_55 : decode cX6_limits 55 = .ok (.aload_n 0, 1) := by decide +kernel
theorem dX6_limits_56 : decode cX6_limits 56 = .ok (.getfield 21, 3) := by decide +kernel
theorem dX6_limits_59 : decode cX6_limits 59 = .ok (.iload_n 2, 1) := by decide +kernel
theorem dX6_limits_60 : decode cX6_limits 60 = .ok (.putfield 121, 3) := by decide +kernel
theorem dX6_limits_63 : decode cX6_limits 63 = .ok (.aload_n 0, 1) := by decide +kernel
theorem dX6_limits_64 : decode cX6_limits 64 = .ok (.iconst 0, 1) := by decide +kernel
theorem dX6_limits_65 : decode cX6_limits 65 = .ok (.putfield 51, 3) := by decide +kernel
theorem dX6_limits_68 : decode cX6_limits 68 = .ok (.iload_n 3, 1) := by decide +kernel
theorem dX6_limits_69 : decode cX6_limits 69 = .ok (.ireturn, 1) := by decide +kernel
theorem dX6_dig_0 : decode cX6_dig 0 = .ok (.aload_n 0, 1) := by decide +kernel
theorem dX6_dig_1 : decode cX6_dig 1 = .ok (.invokevirtual 108, 3) := by decide +kernel
theorem dX6_dig_4 : decode cX6_dig 4 = .ok (.ifCond .eq 6, 3) := by decide +kernel
theorem dX6_dig_7 : decode cX6_dig 7 = .ok (.bipush (-3), 2) := by decide +kernel
theorem dX6_dig_9 : decode cX6_dig 9 = .ok (.ireturn, 1) := by decide +kernel
theorem dX6_dig_10 : decode cX6_dig 10 = .ok (.aload_n 0, 1) := by decide +kernel
theorem dX6_dig_11 : decode cX6_dig 11 = .ok (.iload_n 1, 1) := by decide +kernel
theorem dX6_dig_12 : decode cX6_dig 12 = .ok (.invokevirtual 124, 3) := by decide +kernel
theorem dX6_dig_15 : decode cX6_dig 15 = .ok (.ifCond .eq 6, 3) := by decide +kernel
theorem dX6_dig_18 : decode cX6_dig 18 = .ok (.bipush (-2), 2) := by decide +kernel
theorem dX6_dig_20 : decode cX6_dig 20 = .ok (.ireturn, 1) := by decide +kernel
theorem dX6_dig_21 : decode cX6_dig 21 = .ok (.aload_n 0, 1) := by decide +kernel
theorem dX6_dig_22 : decode cX6_dig 22 = .ok (.getfield 21, 3) := by decide +kernel
theorem dX6_dig_25 : decode cX6_dig 25 = .ok (.getfield 127, 3) := by decide +kernel
theorem dX6_dig_28 : decode cX6_dig 28 = .ok (.iload_n 1, 1) := by decide +kernel
theorem dX6_dig_29 : decode cX6_dig 29 = .ok (.baload, 1) := by decide +kernel
theorem dX6_dig_30 : decode cX6_dig 30 = .ok (.iload_n 2, 1) := by decide +kernel
theorem dX6_dig_31 : decode cX6_dig 31 = .ok (.if_icmp .ne 5, 3) := by decide +kernel
theorem dX6_dig_34 : decode cX6_dig 34 = .ok (.iconst 0, 1) := by decide +kernel
theorem dX6_dig_35 : decode cX6_dig 35 = .ok (.ireturn, 1) := by decide +kernel
theorem dX6_dig_36 : decode cX6_dig 36 = .ok (.aload_n 0, 1) := by decide +kernel
theorem dX6_dig_37 : decode cX6_dig 37 = .ok (.getfield 21, 3) := by decide +kernel
theorem dX6_dig_40 : decode cX6_dig 40 = .ok (.getfield 127, 3) := by decide +kernel
theorem dX6_dig_43 : decode cX6_dig 43 = .ok (.iload_n 1, 1) := by decide +kernel
theorem dX6_dig_44 : decode cX6_dig 44 = .ok (.iload_n 2, 1) := by decide +kernel
theorem dX6_dig_45 : decode cX6_dig 45 = .ok (.bastore, 1) := by decide +kernel
theorem dX6_dig_46 : decode cX6_dig 46 = .ok (.aload_n 0, 1) := by decide +kernel
theorem dX6_dig_47 : decode cX6_dig 47 = .ok (.invokevirtual 90, 3) := by decide +kernel
theorem dX6_dig_50 : decode cX6_dig 50 = .ok (.iconst 1, 1) := by decide +kernel
theorem dX6_dig_51 : decode cX6_dig 51 = .ok (.ireturn, 1) := by decide +kernel
theorem dX6_talk_0 : decode cX6_talk 0 = .ok (.aload_n 0, 1) := by decide +kernel
theorem dX6_talk_1 : decode cX6_talk 1 = .ok (.invokevirtual 108, 3) := by decide +kernel
theorem dX6_talk_4 : decode cX6_talk 4 = .ok (.ifCond .eq 6, 3) := by decide +kernel
theorem dX6_talk_7 : decode cX6_talk 7 = .ok (.bipush (-3), 2) := by decide +kernel
theorem dX6_talk_9 : decode cX6_talk 9 = .ok (.ireturn, 1) := by decide +kernel
theorem dX6_talk_10 : decode cX6_talk 10 = .ok (.aload_n 0, 1) := by decide +kernel
theorem dX6_talk_11 : decode cX6_talk 11 = .ok (.iload_n 1, 1) := by decide +kernel
theorem dX6_talk_12 : decode cX6_talk 12 = .ok (.invokevirtual 124, 3) := by decide +kernel
theorem dX6_talk_15 : decode cX6_talk 15 = .ok (.ifCond .eq 6, 3) := by decide +kernel
theorem dX6_talk_18 : decode cX6_talk 18 = .ok (.bipush (-2), 2) := by decide +kernel
theorem dX6_talk_20 : decode cX6_talk 20 = .ok (.ireturn, 1) := by decide +kernel
theorem dX6_talk_21 : decode cX6_talk 21 = .ok (.iload_n 2, 1) := by decide +kernel
theorem dX6_talk_22 : decode cX6_talk 22 = .ok (.bipush (-9), 2) := by decide +kernel
theorem dX6_talk_24 : decode cX6_talk 24 = .ok (.if_icmp .ne 13, 3) := by decide +kernel
theorem dX6_talk_27 : decode cX6_talk 27 = .ok (.iload_n 3, 1) := by decide +kernel
theorem dX6_talk_28 : decode cX6_talk 28 = .ok (.bipush (-9), 2) := by decide +kernel
theorem dX6_talk_30 : decode cX6_talk 30 = .ok (.if_icmp .ne 7, 3) := by decide +kernel
theorem dX6_talk_33 : decode cX6_talk 33 = .ok (.iconst 1, 1) := by decide +kernel
theorem dX6_talk_34 : decode cX6_talk 34 = .ok (.goto 4, 3) := by decide +kernel
theorem dX6_talk_37 : decode cX6_talk 37 = .ok (.iconst 0, 1) := by decide +kernel
theorem dX6_talk_38 : decode cX6_talk 38 = .ok (.istore 4, 2) := by decide +kernel
theorem dX6_talk_40 : decode cX6_talk 40 = .ok (.iload 4, 2) := by decide +kernel
theorem dX6_talk_42 : decode cX6_talk 42 = .ok (.ifCond .ne 14, 3) := by decide +kernel
theorem dX6_talk_45 : decode cX6_talk 45 = .ok (.aload_n 0, 1) := by decide +kernel
theorem dX6_talk_46 : decode cX6_talk 46 = .ok (.iload_n 2, 1) := by decide +kernel
theorem dX6_talk_47 : decode cX6_talk 47 = .ok (.iload_n 3, 1) := by decide +kernel
theorem dX6_talk_48 : decode cX6_talk 48 = .ok (.invokevirtual 131, 3) := by decide +kernel
theorem dX6_talk_51 : decode cX6_talk 51 = .ok (.ifCond .eq 5, 3) := by decide +kernel
theorem dX6_talk_54 : decode cX6_talk 54 = .ok (.iconst (-1), 1) := by decide +kernel
theorem dX6_talk_55 : decode cX6_talk 55 = .ok (.ireturn, 1) := by decide +kernel
theorem dX6_talk_56 : decode cX6_talk 56 = .ok (.aload_n 0, 1) := by decide +kernel
theorem dX6_talk_57 : decode cX6_talk 57 = .ok (.getfield 21, 3) := by decide +kernel
theorem dX6_talk_60 : decode cX6_talk 60 = .ok (.getfield 135, 3) := by decide +kernel
theorem dX6_talk_63 : decode cX6_talk 63 = .ok (.iload_n 1, 1) := by decide +kernel
theorem dX6_talk_64 : decode cX6_talk 64 = .ok (.iaload, 1) := by decide +kernel
theorem dX6_talk_65 : decode cX6_talk 65 = .ok (.bipush (-9), 2) := by decide +kernel
theorem dX6_talk_67 : decode cX6_talk 67 = .ok (.if_icmp .ne 8, 3) := by decide +kernel
theorem dX6_talk_70 : decode cX6_talk 70 = .ok (.bipush (-9), 2) := by decide +kernel
theorem dX6_talk_72 : decode cX6_talk 72 = .ok (.goto 25, 3) := by decide +kernel
theorem dX6_talk_75 : decode cX6_talk 75 = .ok (.bipush 10, 2) := by decide +kernel
theorem dX6_talk_77 : decode cX6_talk 77 = .ok (.aload_n 0, 1) := by decide +kernel
theorem dX6_talk_78 : decode cX6_talk 78 = .ok (.getfield 21, 3) := by decide +kernel
theorem dX6_talk_81 : decode cX6_talk 81 = .ok (.getfield 135, 3) := by decide +kernel
theorem dX6_talk_84 : decode cX6_talk 84 = .ok (.iload_n 1, 1) := by decide +kernel
theorem dX6_talk_85 : decode cX6_talk 85 = .ok (.iaload, 1) := by decide +kernel
theorem dX6_talk_86 : decode cX6_talk 86 = .ok (.imul, 1) := by decide +kernel
theorem dX6_talk_87 : decode cX6_talk 87 = .ok (.aload_n 0, 1) := by decide +kernel
theorem dX6_talk_88 : decode cX6_talk 88 = .ok (.getfield 21, 3) := by decide +kernel
theorem dX6_talk_91 : decode cX6_talk 91 = .ok (.getfield 138, 3) := by decide +kernel
theorem dX6_talk_94 : decode cX6_talk 94 = .ok (.iload_n 1, 1) := by decide +kernel
theorem dX6_talk_95 : decode cX6_talk 95 = .ok (.iaload, 1) := by decide +kernel
theorem dX6_talk_96 : decode cX6_talk 96 = .ok (.iadd, 1) := by decide +kernel
theorem dX6_talk_97 : decode cX6_talk 97 = .ok (.istore 5, 2) := by decide +kernel
theorem dX6_talk_99 : decode cX6_talk 99 = .ok (.aload_n 0, 1) := by decide +kernel
theorem dX6_talk_100 : decode cX6_talk 100 = .ok (.getfield 21, 3) := by decide +kernel
theorem dX6_talk_103 : decode cX6_talk 103 = .ok (.getfield 135, 3) := by decide +kernel
theorem dX6_talk_106 : decode cX6_talk 106 = .ok (.iload_n 1, 1) := by decide +kernel
theorem dX6_talk_107 : decode cX6_talk 107 = .ok (.iload_n 2, 1) := by decide +kernel
theorem dX6_talk_108 : decode cX6_talk 108 = .ok (.iastore, 1) := by decide +kernel
theorem dX6_talk_109 : decode cX6_talk 109 = .ok (.aload_n 0, 1) := by decide +kernel
theorem dX6_talk_110 : decode cX6_talk 110 = .ok (.getfield 21, 3) := by decide +kernel
theorem dX6_talk_113 : decode cX6_talk 113 = .ok (.getfield 138, 3) := by decide +kernel
theorem dX6_talk_116 : decode cX6_talk 116 = .ok (.iload_n 1, 1) := by decide +kernel
theorem dX6_talk_117 : decode cX6_talk 117 = .ok (.iload_n 3, 1) := by decide +kernel
theorem dX6_talk_118 : decode cX6_talk 118 = .ok (.iastore, 1) := by decide +kernel
theorem dX6_talk_119 : decode cX6_talk 119 = .ok (.aload_n 0, 1) := by decide +kernel
theorem dX6_talk_120 : decode cX6_talk 120 = .ok (.invokevirtual 90, 3) := by decide +kernel
theorem dX6_talk_123 : decode cX6_talk 123 = .ok (.iload 5, 2) := by decide +kernel
theorem dX6_talk_125 : decode cX6_talk 125 = .ok (.ireturn, 1) := by decide +kernel
theorem dX6_regret_0 : decode cX6_regret 0 = .ok (.aload_n 0, 1) := by decide +kernel
theorem dX6_regret_1 : decode cX6_regret 1 = .ok (.iload_n 1, 1) := by decide +kernel
theorem dX6_regret_2 : decode cX6_regret 2 = .ok (.invokevirtual 96, 3) := by decide +kernel
theorem dX6_regret_5 : decode cX6_regret 5 = .ok (.ifCond .eq 5, 3) := by decide +kernel
theorem dX6_regret_8 : decode cX6_regret 8 = .ok (.iconst (-1), 1) := by decide +kernel
theorem dX6_regret_9 : decode cX6_regret 9 = .ok (.ireturn, 1) := by decide +kernel
theorem dX6_regret_10 : decode cX6_regret 10 = .ok (.aload_n 0, 1) := by decide +kernel
theorem dX6_regret_11 : decode cX6_regret 11 = .ok (.iload_n 2, 1) := by decide +kernel
theorem dX6_regret_12 : decode cX6_regret 12 = .ok (.invokevirtual 141, 3) := by decide +kernel
theorem dX6_regret_15 : decode cX6_regret 15 = .ok (.ifCond .eq 8, 3) := by decide +kernel
theorem dX6_regret_18 : decode cX6_regret 18 = .ok (.bipush (-2), 2) := by decide +kernel
theorem dX6_regret_20 : decode cX6_regret 20 = .ok (.goto 12, 3) := by decide +kernel
theorem dX6_regret_23 : decode cX6_regret 23 = .ok (.aload_n 0, 1) := by decide +kernel
theorem dX6_regret_24 : decode cX6_regret 24 = .ok (.getfield 21, 3) := by decide +kernel
theorem dX6_regret_27 : decode cX6_regret 27 = .ok (.iload_n 1, 1) := by decide +kernel
theorem dX6_regret_28 : decode cX6_regret 28 = .ok (.iload_n 2, 1) := by decide +kernel
theorem dX6_regret_29 : decode cX6_regret 29 = .ok (.invokevirtual 144, 3) := by decide +kernel
theorem dX6_regret_32 : decode cX6_regret 32 = .ok (.ireturn, 1) := by decide +kernel
theorem dX6_due_0 : decode cX6_due 0 = .ok (.aload_n 0, 1) := by decide +kernel
theorem dX6_due_1 : decode cX6_due 1 = .ok (.iload_n 1, 1) := by decide +kernel
theorem dX6_due_2 : decode cX6_due 2 = .ok (.invokevirtual 96, 3) := by decide +kernel
theorem dX6_due_5 : decode cX6_due 5 = .ok (.ifCond .eq 5, 3) := by decide +kernel
theorem dX6_due_8 : decode cX6_due 8 = .ok (.iconst (-1), 1) := by decide +kernel
theorem dX6_due_9 : decode cX6_due 9 = .ok (.ireturn, 1) := by decide +kernel
theorem dX6_due_10 : decode cX6_due 10 = .ok (.aload_n 0, 1) := by decide +kernel
theorem dX6_due_11 : decode cX6_due 11 = .ok (.iload_n 2, 1) := by decide +kernel
theorem dX6_due_12 : decode cX6_due 12 = .ok (.invokevirtual 141, 3) := by decide +kernel
theorem dX6_due_15 : decode cX6_due 15 = .ok (.ifCond .eq 8, 3) := by decide +kernel
theorem dX6_due_18 : decode cX6_due 18 = .ok (.bipush (-2), 2) := by decide +kernel
theorem dX6_due_20 : decode cX6_due 20 = .ok (.goto 12, 3) := by decide +kernel
theorem dX6_due_23 : decode cX6_due 23 = .ok (.aload_n 0, 1) := by decide +kernel
theorem dX6_due_24 : decode cX6_due 24 = .ok (.getfield 21, 3) := by decide +kernel
theorem dX6_due_27 : decode cX6_due 27 = .ok (.iload_n 1, 1) := by decide +kernel
theorem dX6_due_28 : decode cX6_due 28 = .ok (.iload_n 2, 1) := by decide +kernel
theorem dX6_due_29 : decode cX6_due 29 = .ok (.invokevirtual 148, 3) := by decide +kernel
theorem dX6_due_32 : decode cX6_due 32 = .ok (.ireturn, 1) := by decide +kernel
theorem dX6_seating_0 : decode cX6_seating 0 = .ok (.aload_n 0, 1) := by decide +kernel
theorem dX6_seating_1 : decode cX6_seating 1 = .ok (.iconst 0, 1) := by decide +kernel
theorem dX6_seating_2 : decode cX6_seating 2 = .ok (.putfield 59, 3) := by decide +kernel
theorem dX6_seating_5 : decode cX6_seating 5 = .ok (.iload_n 1, 1) := by decide +kernel
theorem dX6_seating_6 : decode cX6_seating 6 = .ok (.invokestatic 62, 3) := by decide +kernel
theorem dX6_seating_9 : decode cX6_seating 9 = .ok (.ifCond .eq 5, 3) := by decide +kernel
theorem dX6_seating_12 : decode cX6_seating 12 = .ok (.iconst (-1), 1) := by decide +kernel
theorem dX6_seating_13 : decode cX6_seating 13 = .ok (.ireturn, 1) := by decide +kernel
theorem dX6_seating_14 : decode cX6_seating 14 = .ok (.iload_n 2, 1) := by decide +kernel
theorem dX6_seating_15 : decode cX6_seating 15 = .ok (.invokestatic 66, 3) := by decide +kernel
theorem dX6_seating_18 : decode cX6_seating 18 = .ok (.ifCond .ne 11, 3) := by decide +kernel
theorem dX6_seating_21 : decode cX6_seating 21 = .ok (.iload 5, 2) := by decide +kernel
theorem dX6_seating_23 : decode cX6_seating 23 = .ok (.invokestatic 151, 3) := by decide +kernel
theorem dX6_seating_26 : decode cX6_seating 26 = .ok (.ifCond .eq 6, 3) := by decide +kernel
theorem dX6_seating_29 : decode cX6_seating 29 = .ok (.bipush (-2), 2) := by decide +kernel
theorem dX6_seating_31 : decode cX6_seating 31 = .ok (.ireturn, 1) := by decide +kernel
theorem dX6_seating_32 : decode cX6_seating 32 = .ok (.aload_n 0, 1) := by decide +kernel
theorem dX6_seating_33 : decode cX6_seating 33 = .ok (.aload_n 0, 1) := by decide +kernel
theorem dX6_seating_34 : decode cX6_seating 34 = .ok (.getfield 13, 3) := by decide +kernel
theorem dX6_seating_37 : decode cX6_seating 37 = .ok (.iload_n 1, 1) := by decide +kernel
theorem dX6_seating_38 : decode cX6_seating 38 = .ok (.aaload, 1) := by decide +kernel
theorem dX6_seating_39 : decode cX6_seating 39 = .ok (.iload_n 2, 1) := by decide +kernel
theorem dX6_seating_40 : decode cX6_seating 40 = .ok (.iload_n 3, 1) := by decide +kernel
theorem dX6_seating_41 : decode cX6_seating 41 = .ok (.iload 4, 2) := by decide +kernel
theorem dX6_seating_43 : decode cX6_seating 43 = .ok (.invokevirtual 69, 3) := by decide +kernel
theorem dX6_seating_46 : decode cX6_seating 46 = .ok (.putfield 59, 3) := by decide +kernel
theorem dX6_seating_49 : decode cX6_seating 49 = .ok (.aload_n 0, 1) := by decide +kernel
theorem dX6_seating_50 : decode cX6_seating 50 = .ok (.getfield 59, 3) := by decide +kernel
theorem dX6_seating_53 : decode cX6_seating 53 = .ok (.ifCond .eq 11, 3) := by decide +kernel
theorem dX6_seating_56 : decode cX6_seating 56 = .ok (.bipush (-10), 2) := by decide +kernel
theorem dX6_seating_58 : decode cX6_seating 58 = .ok (.aload_n 0, 1) := by decide +kernel
theorem dX6_seating_59 : decode cX6_seating 59 = .ok (.getfield 59, 3) := by decide +kernel
theorem dX6_seating_62 : decode cX6_seating 62 = .ok (.isub, 1) := by decide +kernel
theorem dX6_seating_63 : decode cX6_seating 63 = .ok (.ireturn, 1) := by decide +kernel
theorem dX6_seating_64 : decode cX6_seating 64 = .ok (.aload_n 0, 1) := by decide +kernel
theorem dX6_seating_65 : decode cX6_seating 65 = .ok (.invokevirtual 108, 3) := by decide +kernel
theorem dX6_seating_68 : decode cX6_seating 68 = .ok (.ifCond .eq 6, 3) := by decide +kernel
theorem dX6_seating_71 : decode cX6_seating 71 = .ok (.bipush (-3), 2) := by decide +kernel
theorem dX6_seating_73 : decode cX6_seating 73 = .ok (.ireturn, 1) := by decide +kernel
theorem dX6_seating_74 : decode cX6_seating 74 = .ok (.iload 4, 2) := by decide +kernel
theorem dX6_seating_76 : decode cX6_seating 76 = .ok (.aload_n 0, 1) := by decide +kernel
theorem dX6_seating_77 : decode cX6_seating 77 = .ok (.getfield 21, 3) := by decide +kernel
theorem dX6_seating_80 : decode cX6_seating 80 = .ok (.getfield 154, 3) := by decide +kernel
theorem dX6_seating_83 : decode cX6_seating 83 = .ok (.aload_n 0, 1) := by decide +kernel
theorem dX6_seating_84 : decode cX6_seating 84 = .ok (.getfield 21, 3) := by decide +kernel
theorem dX6_seating_87 : decode cX6_seating 87 = .ok (.getfield 93, 3) := by decide +kernel
theorem dX6_seating_90 : decode cX6_seating 90 = .ok (.imul, 1) := by decide +kernel
theorem dX6_seating_91 : decode cX6_seating 91 = .ok (.if_icmp .ne 23, 3) := by decide +kernel
theorem dX6_seating_94 : decode cX6_seating 94 = .ok (.aload_n 0, 1) := by decide +kernel
theorem dX6_seating_95 : decode cX6_seating 95 = .ok (.getfield 40, 3) := by decide +kernel
theorem dX6_seating_98 : decode cX6_seating 98 = .ok (.aload_n 0, 1) := by decide +kernel
theorem dX6_seating_99 : decode cX6_seating 99 = .ok (.getfield 13, 3) := by decide +kernel
theorem dX6_seating_102 : decode cX6_seating 102 = .ok (.iload_n 1, 1) := by decide +kernel
theorem dX6_seating_103 : decode cX6_seating 103 = .ok (.aaload, 1) := by decide +kernel
theorem dX6_seating_104 : decode cX6_seating 104 = .ok (.getfield 73, 3) := by decide +kernel
theorem dX6_seating_107 : decode cX6_seating 107 = .ok (.iload_n 3, 1) := by decide +kernel
theorem dX6_seating_108 : decode cX6_seating 108 = .ok (.invokevirtual 157, 3) := by decide +kernel
theorem dX6_seating_111 : decode cX6_seating 111 = .ok (.ifCond .ne 6, 3) := by decide +kernel
theorem dX6_seating_114 : decode cX6_seating 114 = .ok (.bipush (-2), 2) := by decide +kernel
theorem dX6_seating_116 : decode cX6_seating 116 = .ok (.ireturn, 1) := by decide +kernel
theorem dX6_seating_117 : decode cX6_seating 117 = .ok (.aload_n 0, 1) := by decide +kernel
theorem dX6_seating_118 : decode cX6_seating 118 = .ok (.iload 5, 2) := by decide +kernel
theorem dX6_seating_120 : decode cX6_seating 120 = .ok (.invokevirtual 160, 3) := by decide +kernel
theorem dX6_seating_123 : decode cX6_seating 123 = .ok (.ireturn, 1) := by decide +kernel
theorem dX6_noQuestionOfSeating_0 : decode cX6_noQuestionOfSeating 0 = .ok (.iload_n 0, 1) := by decide +kernel
theorem dX6_noQuestionOfSeating_1 : decode cX6_noQuestionOfSeating 1 = .ok (.ifCond .lt 12, 3) := by decide +kernel
theorem dX6_noQuestionOfSeating_4 : decode cX6_noQuestionOfSeating 4 = .ok (.iload_n 0, 1) := by decide +kernel
theorem dX6_noQuestionOfSeating_5 : decode cX6_noQuestionOfSeating 5 = .ok (.iconst 3, 1) := by decide +kernel
theorem dX6_noQuestionOfSeating_6 : decode cX6_noQuestionOfSeating 6 = .ok (.if_icmp .gt 7, 3) := by decide +kernel
theorem dX6_noQuestionOfSeating_9 : decode cX6_noQuestionOfSeating 9 = .ok (.iconst 1, 1) := by decide +kernel
theorem dX6_noQuestionOfSeating_10 : decode cX6_noQuestionOfSeating 10 = .ok (.goto 4, 3) := by decide +kernel
theorem dX6_noQuestionOfSeating_13 : decode cX6_noQuestionOfSeating 13 = .ok (.iconst 0, 1) := by decide +kernel
theorem dX6_noQuestionOfSeating_14 : decode cX6_noQuestionOfSeating 14 = .ok (.istore_n 1, 1) := by decide +kernel
theorem dX6_noQuestionOfSeating_15 : decode cX6_noQuestionOfSeating 15 = .ok (.iload_n 0, 1) := by decide +kernel
theorem dX6_noQuestionOfSeating_16 : decode cX6_noQuestionOfSeating 16 = .ok (.bipush 10, 2) := by decide +kernel
theorem dX6_noQuestionOfSeating_18 : decode cX6_noQuestionOfSeating 18 = .ok (.if_icmp .lt 13, 3) := by decide +kernel
theorem dX6_noQuestionOfSeating_21 : decode cX6_noQuestionOfSeating 21 = .ok (.iload_n 0, 1) := by decide +kernel
theorem dX6_noQuestionOfSeating_22 : decode cX6_noQuestionOfSeating 22 = .ok (.bipush 14, 2) := by decide +kernel
theorem dX6_noQuestionOfSeating_24 : decode cX6_noQuestionOfSeating 24 = .ok (.if_icmp .ge 7, 3) := by decide +kernel
theorem dX6_noQuestionOfSeating_27 : decode cX6_noQuestionOfSeating 27 = .ok (.iconst 1, 1) := by decide +kernel
theorem dX6_noQuestionOfSeating_28 : decode cX6_noQuestionOfSeating 28 = .ok (.goto 4, 3) := by decide +kernel
theorem dX6_noQuestionOfSeating_31 : decode cX6_noQuestionOfSeating 31 = .ok (.iconst 0, 1) := by decide +kernel
theorem dX6_noQuestionOfSeating_32 : decode cX6_noQuestionOfSeating 32 = .ok (.istore_n 2, 1) := by decide +kernel
theorem dX6_noQuestionOfSeating_33 : decode cX6_noQuestionOfSeating 33 = .ok (.iload_n 1, 1) := by decide +kernel
theorem dX6_noQuestionOfSeating_34 : decode cX6_noQuestionOfSeating 34 = .ok (.ifCond .ne 11, 3) := by decide +kernel
theorem dX6_noQuestionOfSeating_37 : decode cX6_noQuestionOfSeating 37 = .ok (.iload_n 2, 1) := by decide +kernel
theorem dX6_noQuestionOfSeating_38 : decode cX6_noQuestionOfSeating 38 = .ok (.ifCond .ne 7, 3) := by decide +kernel
theorem dX6_noQuestionOfSeating_41 : decode cX6_noQuestionOfSeating 41 = .ok (.iconst 1, 1) := by decide +kernel
theorem dX6_noQuestionOfSeating_42 : decode cX6_noQuestionOfSeating 42 = .ok (.goto 4, 3) := by decide +kernel
theorem dX6_noQuestionOfSeating_45 : decode cX6_noQuestionOfSeating 45 = .ok (.iconst 0, 1) := by decide +kernel
theorem dX6_noQuestionOfSeating_46 : decode cX6_noQuestionOfSeating 46 = .ok (.ireturn, 1) := by decide +kernel
theorem dX6_ofSeating_0 : decode cX6_ofSeating 0 = .ok (.aload_n 0, 1) := by decide +kernel
theorem dX6_ofSeating_1 : decode cX6_ofSeating 1 = .ok (.getfield 40, 3) := by decide +kernel
theorem dX6_ofSeating_4 : decode cX6_ofSeating 4 = .ok (.invokevirtual 164, 3) := by decide +kernel
theorem dX6_ofSeating_7 : decode cX6_ofSeating 7 = .ok (.istore_n 2, 1) := by decide +kernel
theorem dX6_ofSeating_8 : decode cX6_ofSeating 8 = .ok (.iload_n 1, 1) := by decide +kernel
theorem dX6_ofSeating_9 : decode cX6_ofSeating 9 = .ok (.iconst 1, 1) := by decide +kernel
theorem dX6_ofSeating_10 : decode cX6_ofSeating 10 = .ok (.if_icmp .ne 5, 3) := by decide +kernel
theorem dX6_ofSeating_13 : decode cX6_ofSeating 13 = .ok (.iload_n 2, 1) := by decide +kernel
theorem dX6_ofSeating_14 : decode cX6_ofSeating 14 = .ok (.ireturn, 1) := by decide +kernel
theorem dX6_ofSeating_15 : decode cX6_ofSeating 15 = .ok (.iload_n 2, 1) := by decide +kernel
theorem dX6_ofSeating_16 : decode cX6_ofSeating 16 = .ok (.bipush (-9), 2) := by decide +kernel
theorem dX6_ofSeating_18 : decode cX6_ofSeating 18 = .ok (.if_icmp .eq 8, 3) := by decide +kernel
theorem dX6_ofSeating_21 : decode cX6_ofSeating 21 = .ok (.bipush (-100), 2) := by decide +kernel
theorem dX6_ofSeating_23 : decode cX6_ofSeating 23 = .ok (.iload_n 2, 1) := by decide +kernel
theorem dX6_ofSeating_24 : decode cX6_ofSeating 24 = .ok (.isub, 1) := by decide +kernel
theorem dX6_ofSeating_25 : decode cX6_ofSeating 25 = .ok (.ireturn, 1) := by decide +kernel
theorem dX6_ofSeating_26 : decode cX6_ofSeating 26 = .ok (.iload_n 1, 1) := by decide +kernel
theorem dX6_ofSeating_27 : decode cX6_ofSeating 27 = .ok (.tableswitch 61 0 3 #[29, 61, 45, 53], 29) := by decide +kernel
theorem dX6_ofSeating_56 : decode cX6_ofSeating 56 = .ok (.aload_n 0, 1) := by decide +kernel
theorem dX6_ofSeating_57 : decode cX6_ofSeating 57 = .ok (.getfield 40, 3) := by decide +kernel
theorem dX6_ofSeating_60 : decode cX6_ofSeating 60 = .ok (.invokevirtual 168, 3) := by decide +kernel
theorem dX6_ofSeating_63 : decode cX6_ofSeating 63 = .ok (.aload_n 0, 1) := by decide +kernel
theorem dX6_ofSeating_64 : decode cX6_ofSeating 64 = .ok (.getfield 40, 3) := by decide +kernel
theorem dX6_ofSeating_67 : decode cX6_ofSeating 67 = .ok (.invokevirtual 171, 3) := by decide +kernel
theorem dX6_ofSeating_70 : decode cX6_ofSeating 70 = .ok (.iadd, 1) := by decide +kernel
theorem dX6_ofSeating_71 : decode cX6_ofSeating 71 = .ok (.ireturn, 1) := by decide +kernel
theorem dX6_ofSeating_72 : decode cX6_ofSeating 72 = .ok (.aload_n 0, 1) := by decide +kernel
theorem dX6_ofSeating_73 : decode cX6_ofSeating 73 = .ok (.getfield 40, 3) := by decide +kernel
theorem dX6_ofSeating_76 : decode cX6_ofSeating 76 = .ok (.invokevirtual 168, 3) := by decide +kernel
theorem dX6_ofSeating_79 : decode cX6_ofSeating 79 = .ok (.ireturn, 1) := by decide +kernel
theorem dX6_ofSeating_80 : decode cX6_ofSeating 80 = .ok (.aload_n 0, 1) := by decide +kernel
theorem dX6_ofSeating_81 : decode cX6_ofSeating 81 = .ok (.getfield 40, 3) := by decide +kernel
theorem dX6_ofSeating_84 : decode cX6_ofSeating 84 = .ok (.invokevirtual 174, 3) := by decide +kernel
theorem dX6_ofSeating_87 : decode cX6_ofSeating 87 = .ok (.ireturn, 1) := by decide +kernel
theorem dX6_ofSeating_88 : decode cX6_ofSeating 88 = .ok (.aload_n 0, 1) := by decide +kernel
theorem dX6_ofSeating_89 : decode cX6_ofSeating 89 = .ok (.iload_n 1, 1) := by decide +kernel
theorem dX6_ofSeating_90 : decode cX6_ofSeating 90 = .ok (.bipush 10, 2) := by decide +kernel
theorem dX6_ofSeating_92 : decode cX6_ofSeating 92 = .ok (.isub, 1) := by decide +kernel
theorem dX6_ofSeating_93 : decode cX6_ofSeating 93 = .ok (.invokevirtual 96, 3) := by decide +kernel
theorem dX6_ofSeating_96 : decode cX6_ofSeating 96 = .ok (.ifCond .eq 8, 3) := by decide +kernel
theorem dX6_ofSeating_99 : decode cX6_ofSeating 99 = .ok (.bipush (-9), 2) := by decide +kernel
theorem dX6_ofSeating_101 : decode cX6_ofSeating 101 = .ok (.goto 14, 3) := by decide +kernel
theorem dX6_ofSeating_104 : decode cX6_ofSeating 104 = .ok (.aload_n 0, 1) := by decide +kernel
theorem dX6_ofSeating_105 : decode cX6_ofSeating 105 = .ok (.getfield 40, 3) := by decide +kernel
theorem dX6_ofSeating_108 : decode cX6_ofSeating 108 = .ok (.iload_n 1, 1) := by decide +kernel
theorem dX6_ofSeating_109 : decode cX6_ofSeating 109 = .ok (.bipush 10, 2) := by decide +kernel
theorem dX6_ofSeating_111 : decode cX6_ofSeating 111 = .ok (.isub, 1) := by decide +kernel
theorem dX6_ofSeating_112 : decode cX6_ofSeating 112 = .ok (.invokevirtual 177, 3) := by decide +kernel
theorem dX6_ofSeating_115 : decode cX6_ofSeating 115 = .ok (.ireturn, 1) := by decide +kernel
theorem dX6_ease_0 : decode cX6_ease 0 = .ok (.iload_n 1, 1) := by decide +kernel
theorem dX6_ease_1 : decode cX6_ease 1 = .ok (.iconst (-1), 1) := by decide +kernel
theorem dX6_ease_2 : decode cX6_ease 2 = .ok (.if_icmp .ge 5, 3) := by decide +kernel
theorem dX6_ease_5 : decode cX6_ease 5 = .ok (.iconst (-1), 1) := by decide +kernel
theorem dX6_ease_6 : decode cX6_ease 6 = .ok (.ireturn, 1) := by decide +kernel
theorem dX6_ease_7 : decode cX6_ease 7 = .ok (.aload_n 0, 1) := by decide +kernel
theorem dX6_ease_8 : decode cX6_ease 8 = .ok (.invokevirtual 108, 3) := by decide +kernel
theorem dX6_ease_11 : decode cX6_ease 11 = .ok (.ifCond .eq 6, 3) := by decide +kernel
theorem dX6_ease_14 : decode cX6_ease 14 = .ok (.bipush (-3), 2) := by decide +kernel
theorem dX6_ease_16 : decode cX6_ease 16 = .ok (.ireturn, 1) := by decide +kernel
theorem dX6_ease_17 : decode cX6_ease 17 = .ok (.aload_n 0, 1) := by decide +kernel
theorem dX6_ease_18 : decode cX6_ease 18 = .ok (.invokevirtual 180, 3) := by decide +kernel
theorem dX6_ease_21 : decode cX6_ease 21 = .ok (.iload_n 1, 1) := by decide +kernel
theorem dX6_ease_22 : decode cX6_ease 22 = .ok (.iconst (-1), 1) := by decide +kernel
theorem dX6_ease_23 : decode cX6_ease 23 = .ok (.if_icmp .eq 15, 3) := by decide +kernel
theorem dX6_ease_26 : decode cX6_ease 26 = .ok (.aload_n 0, 1) := by decide +kernel
theorem dX6_ease_27 : decode cX6_ease 27 = .ok (.getfield 47, 3) := by decide +kernel
theorem dX6_ease_30 : decode cX6_ease 30 = .ok (.getfield 183, 3) := by decide +kernel
theorem dX6_ease_33 : decode cX6_ease 33 = .ok (.bipush (-9), 2) := by decide +kernel
theorem dX6_ease_35 : decode cX6_ease 35 = .ok (.if_icmp .ne 11, 3) := by decide +kernel
theorem dX6_ease_38 : decode cX6_ease 38 = .ok (.aload_n 0, 1) := by decide +kernel
theorem dX6_ease_39 : decode cX6_ease 39 = .ok (.getfield 47, 3) := by decide +kernel
theorem dX6_ease_42 : decode cX6_ease 42 = .ok (.getfield 183, 3) := by decide +kernel
theorem dX6_ease_45 : decode cX6_ease 45 = .ok (.ireturn, 1) := by decide +kernel
theorem dX6_ease_46 : decode cX6_ease 46 = .ok (.iload_n 1, 1) := by decide +kernel
theorem dX6_ease_47 : decode cX6_ease 47 = .ok (.aload_n 0, 1) := by decide +kernel
theorem dX6_ease_48 : decode cX6_ease 48 = .ok (.getfield 21, 3) := by decide +kernel
theorem dX6_ease_51 : decode cX6_ease 51 = .ok (.getfield 154, 3) := by decide +kernel
theorem dX6_ease_54 : decode cX6_ease 54 = .ok (.aload_n 0, 1) := by decide +kernel
theorem dX6_ease_55 : decode cX6_ease 55 = .ok (.getfield 21, 3) := by decide +kernel
theorem dX6_ease_58 : decode cX6_ease 58 = .ok (.getfield 93, 3) := by decide +kernel
theorem dX6_ease_61 : decode cX6_ease 61 = .ok (.imul, 1) := by decide +kernel
theorem dX6_ease_62 : decode cX6_ease 62 = .ok (.if_icmp .ge 15, 3) := by decide +kernel
theorem dX6_ease_65 : decode cX6_ease 65 = .ok (.aload_n 0, 1) := by decide +kernel
theorem dX6_ease_66 : decode cX6_ease 66 = .ok (.getfield 47, 3) := by decide +kernel
theorem dX6_ease_69 : decode cX6_ease 69 = .ok (.getfield 186, 3) := by decide +kernel
theorem dX6_ease_72 : decode cX6_ease 72 = .ok (.iload_n 1, 1) := by decide +kernel
theorem dX6_ease_73 : decode cX6_ease 73 = .ok (.iaload, 1) := by decide +kernel
theorem dX6_ease_74 : decode cX6_ease 74 = .ok (.goto 5, 3) := by decide +kernel
theorem dX6_ease_77 : decode cX6_ease 77 = .ok (.bipush (-9), 2) := by decide +kernel
theorem dX6_ease_79 : decode cX6_ease 79 = .ok (.ireturn, 1) := by decide +kernel
theorem dX6_stuck_0 : decode cX6_stuck 0 = .ok (.aload_n 0, 1) := by decide +kernel
theorem dX6_stuck_1 : decode cX6_stuck 1 = .ok (.invokevirtual 108, 3) := by decide +kernel
theorem dX6_stuck_4 : decode cX6_stuck 4 = .ok (.ifCond .eq 6, 3) := by decide +kernel
theorem dX6_stuck_7 : decode cX6_stuck 7 = .ok (.bipush (-3), 2) := by decide +kernel
theorem dX6_stuck_9 : decode cX6_stuck 9 = .ok (.ireturn, 1) := by decide +kernel
theorem dX6_stuck_10 : decode cX6_stuck 10 = .ok (.aload_n 0, 1) := by decide +kernel
theorem dX6_stuck_11 : decode cX6_stuck 11 = .ok (.invokevirtual 180, 3) := by decide +kernel
theorem dX6_stuck_14 : decode cX6_stuck 14 = .ok (.aload_n 0, 1) := by decide +kernel
theorem dX6_stuck_15 : decode cX6_stuck 15 = .ok (.getfield 47, 3) := by decide +kernel
theorem dX6_stuck_18 : decode cX6_stuck 18 = .ok (.getfield 189, 3) := by decide +kernel
theorem dX6_stuck_21 : decode cX6_stuck 21 = .ok (.ireturn, 1) := by decide +kernel
theorem dX6_help_0 : decode cX6_help 0 = .ok (.aload_n 0, 1) := by decide +kernel
theorem dX6_help_1 : decode cX6_help 1 = .ok (.iload_n 1, 1) := by decide +kernel
theorem dX6_help_2 : decode cX6_help 2 = .ok (.iload_n 2, 1) := by decide +kernel
theorem dX6_help_3 : decode cX6_help 3 = .ok (.invokevirtual 131, 3) := by decide +kernel
theorem dX6_help_6 : decode cX6_help 6 = .ok (.ifCond .eq 5, 3) := by decide +kernel
theorem dX6_help_9 : decode cX6_help 9 = .ok (.iconst (-1), 1) := by decide +kernel
theorem dX6_help_10 : decode cX6_help 10 = .ok (.ireturn, 1) := by decide +kernel
theorem dX6_help_11 : decode cX6_help 11 = .ok (.aload_n 0, 1) := by decide +kernel
theorem dX6_help_12 : decode cX6_help 12 = .ok (.iload_n 3, 1) := by decide +kernel
theorem dX6_help_13 : decode cX6_help 13 = .ok (.invokevirtual 124, 3) := by decide +kernel
theorem dX6_help_16 : decode cX6_help 16 = .ok (.ifCond .eq 6, 3) := by decide +kernel
theorem dX6_help_19 : decode cX6_help 19 = .ok (.bipush (-2), 2) := by decide +kernel
theorem dX6_help_21 : decode cX6_help 21 = .ok (.ireturn, 1) := by decide +kernel
theorem dX6_help_22 : decode cX6_help 22 = .ok (.aload_n 0, 1) := by decide +kernel
theorem dX6_help_23 : decode cX6_help 23 = .ok (.getfield 25, 3) := by decide +kernel
theorem dX6_help_26 : decode cX6_help 26 = .ok (.aload_n 0, 1) := by decide +kernel
theorem dX6_help_27 : decode cX6_help 27 = .ok (.getfield 21, 3) := by decide +kernel
theorem dX6_help_30 : decode cX6_help 30 = .ok (.invokevirtual 192, 3) := by decide +kernel
theorem dX6_help_33 : decode cX6_help 33 = .ok (.aload_n 0, 1) := by decide +kernel
theorem dX6_help_34 : decode cX6_help 34 = .ok (.getfield 25, 3) := by decide +kernel
theorem dX6_help_37 : decode cX6_help 37 = .ok (.getfield 135, 3) := by decide +kernel
theorem dX6_help_40 : decode cX6_help 40 = .ok (.iload_n 3, 1) := by decide +kernel
theorem dX6_help_41 : decode cX6_help 41 = .ok (.iload_n 1, 1) := by decide +kernel
theorem dX6_help_42 : decode cX6_help 42 = .ok (.iastore, 1) := by decide +kernel
theorem dX6_help_43 : decode cX6_help 43 = .ok (.aload_n 0, 1) := by decide +kernel
theorem dX6_help_44 : decode cX6_help 44 = .ok (.getfield 25, 3) := by decide +kernel
theorem dX6_help_47 : decode cX6_help 47 = .ok (.getfield 138, 3) := by decide +kernel
theorem dX6_help_50 : decode cX6_help 50 = .ok (.iload_n 3, 1) := by decide +kernel
theorem dX6_help_51 : decode cX6_help 51 = .ok (.iload_n 2, 1) := by decide +kernel
theorem dX6_help_52 : decode cX6_help 52 = .ok (.iastore, 1) := by decide +kernel
theorem dX6_help_53 : decode cX6_help 53 = .ok (.aload_n 0, 1) := by decide +kernel
theorem dX6_help_54 : decode cX6_help 54 = .ok (.getfield 25, 3) := by decide +kernel
theorem dX6_help_57 : decode cX6_help 57 = .ok (.iload_n 3, 1) := by decide +kernel
theorem dX6_help_58 : decode cX6_help 58 = .ok (.invokevirtual 195, 3) := by decide +kernel
theorem dX6_help_61 : decode cX6_help 61 = .ok (.aload_n 0, 1) := by decide +kernel
theorem dX6_help_62 : decode cX6_help 62 = .ok (.getfield 21, 3) := by decide +kernel
theorem dX6_help_65 : decode cX6_help 65 = .ok (.iload_n 1, 1) := by decide +kernel
theorem dX6_help_66 : decode cX6_help 66 = .ok (.invokevirtual 199, 3) := by decide +kernel
theorem dX6_help_69 : decode cX6_help 69 = .ok (.aload_n 0, 1) := by decide +kernel
theorem dX6_help_70 : decode cX6_help 70 = .ok (.getfield 21, 3) := by decide +kernel
theorem dX6_help_73 : decode cX6_help 73 = .ok (.iload_n 2, 1) := by decide +kernel
theorem dX6_help_74 : decode cX6_help 74 = .ok (.invokevirtual 199, 3) := by decide +kernel
theorem dX6_help_77 : decode cX6_help 77 = .ok (.iadd, 1) := by decide +kernel
theorem dX6_help_78 : decode cX6_help 78 = .ok (.istore 4, 2) := by decide +kernel
theorem dX6_help_80 : decode cX6_help 80 = .ok (.aload_n 0, 1) := by decide +kernel
theorem dX6_help_81 : decode cX6_help 81 = .ok (.getfield 25, 3) := by decide +kernel
theorem dX6_help_84 : decode cX6_help 84 = .ok (.iload_n 1, 1) := by decide +kernel
theorem dX6_help_85 : decode cX6_help 85 = .ok (.invokevirtual 199, 3) := by decide +kernel
theorem dX6_help_88 : decode cX6_help 88 = .ok (.aload_n 0, 1) := by decide +kernel
theorem dX6_help_89 : decode cX6_help 89 = .ok (.getfield 25, 3) := by decide +kernel
theorem dX6_help_92 : decode cX6_help 92 = .ok (.iload_n 2, 1) := by decide +kernel
theorem dX6_help_93 : decode cX6_help 93 = .ok (.invokevirtual 199, 3) := by decide +kernel
theorem dX6_help_96 : decode cX6_help 96 = .ok (.iadd, 1) := by decide +kernel
theorem dX6_help_97 : decode cX6_help 97 = .ok (.istore 5, 2) := by decide +kernel
theorem dX6_help_99 : decode cX6_help 99 = .ok (.iload 4, 2) := by decide +kernel
theorem dX6_help_101 : decode cX6_help 101 = .ok (.iload 5, 2) := by decide +kernel
theorem dX6_help_103 : decode cX6_help 103 = .ok (.isub, 1) := by decide +kernel
theorem dX6_help_104 : decode cX6_help 104 = .ok (.sipush 1000, 3) := by decide +kernel
theorem dX6_help_107 : decode cX6_help 107 = .ok (.iadd, 1) := by decide +kernel
theorem dX6_help_108 : decode cX6_help 108 = .ok (.ireturn, 1) := by decide +kernel
theorem dX6_knowLeast_0 : decode cX6_knowLeast 0 = .ok (.aload_n 0, 1) := by decide +kernel
theorem dX6_knowLeast_1 : decode cX6_knowLeast 1 = .ok (.getfield 51, 3) := by decide +kernel
theorem dX6_knowLeast_4 : decode cX6_knowLeast 4 = .ok (.ifCond .ne 15, 3) := by decide +kernel
theorem dX6_knowLeast_7 : decode cX6_knowLeast 7 = .ok (.aload_n 0, 1) := by decide +kernel
theorem dX6_knowLeast_8 : decode cX6_knowLeast 8 = .ok (.getfield 47, 3) := by decide +kernel
theorem dX6_knowLeast_11 : decode cX6_knowLeast 11 = .ok (.invokevirtual 202, 3) := by decide +kernel
theorem dX6_knowLeast_14 : decode cX6_knowLeast 14 = .ok (.aload_n 0, 1) := by decide +kernel
theorem dX6_knowLeast_15 : decode cX6_knowLeast 15 = .ok (.iconst 1, 1) := by decide +kernel
theorem dX6_knowLeast_16 : decode cX6_knowLeast 16 = .ok (.putfield 51, 3) := by decide +kernel
theorem dX6_knowLeast_19 : decode cX6_knowLeast 19 = .ok (.return_, 1) := by decide +kernel
theorem dX6_reading_0 : decode cX6_reading 0 = .ok (.aload_n 0, 1) := by decide +kernel
theorem dX6_reading_1 : decode cX6_reading 1 = .ok (.iload_n 1, 1) := by decide +kernel
theorem dX6_reading_2 : decode cX6_reading 2 = .ok (.invokevirtual 96, 3) := by decide +kernel
theorem dX6_reading_5 : decode cX6_reading 5 = .ok (.ifCond .eq 5, 3) := by decide +kernel
theorem dX6_reading_8 : decode cX6_reading 8 = .ok (.iconst (-1), 1) := by decide +kernel
theorem dX6_reading_9 : decode cX6_reading 9 = .ok (.ireturn, 1) := by decide +kernel
theorem dX6_reading_10 : decode cX6_reading 10 = .ok (.aload_n 0, 1) := by decide +kernel
theorem dX6_reading_11 : decode cX6_reading 11 = .ok (.iload_n 2, 1) := by decide +kernel
theorem dX6_reading_12 : decode cX6_reading 12 = .ok (.invokevirtual 141, 3) := by decide +kernel
theorem dX6_reading_15 : decode cX6_reading 15 = .ok (.ifCond .ne 10, 3) := by decide +kernel
theorem dX6_reading_18 : decode cX6_reading 18 = .ok (.iload_n 3, 1) := by decide +kernel
theorem dX6_reading_19 : decode cX6_reading 19 = .ok (.invokestatic 112, 3) := by decide +kernel
theorem dX6_reading_22 : decode cX6_reading 22 = .ok (.ifCond .eq 6, 3) := by decide +kernel
theorem dX6_reading_25 : decode cX6_reading 25 = .ok (.bipush (-2), 2) := by decide +kernel
theorem dX6_reading_27 : decode cX6_reading 27 = .ok (.ireturn, 1) := by decide +kernel
theorem dX6_reading_28 : decode cX6_reading 28 = .ok (.aload_n 0, 1) := by decide +kernel
theorem dX6_reading_29 : decode cX6_reading 29 = .ok (.getfield 31, 3) := by decide +kernel
theorem dX6_reading_32 : decode cX6_reading 32 = .ok (.getfield 87, 3) := by decide +kernel
theorem dX6_reading_35 : decode cX6_reading 35 = .ok (.bipush 8, 2) := by decide +kernel
theorem dX6_reading_37 : decode cX6_reading 37 = .ok (.if_icmp .lt 8, 3) := by decide +kernel
theorem dX6_reading_40 : decode cX6_reading 40 = .ok (.bipush (-4), 2) := by decide +kernel
theorem dX6_reading_42 : decode cX6_reading 42 = .ok (.goto 13, 3) := by decide +kernel
theorem dX6_reading_45 : decode cX6_reading 45 = .ok (.aload_n 0, 1) := by decide +kernel
theorem dX6_reading_46 : decode cX6_reading 46 = .ok (.getfield 31, 3) := by decide +kernel
theorem dX6_reading_49 : decode cX6_reading 49 = .ok (.iload_n 1, 1) := by decide +kernel
theorem dX6_reading_50 : decode cX6_reading 50 = .ok (.iload_n 2, 1) := by decide +kernel
theorem dX6_reading_51 : decode cX6_reading 51 = .ok (.iload_n 3, 1) := by decide +kernel
theorem dX6_reading_52 : decode cX6_reading 52 = .ok (.invokevirtual 205, 3) := by decide +kernel
theorem dX6_reading_55 : decode cX6_reading 55 = .ok (.ireturn, 1) := by decide +kernel
theorem dX6_back_0 : decode cX6_back 0 = .ok (.iload_n 1, 1) := by decide +kernel
theorem dX6_back_1 : decode cX6_back 1 = .ok (.ifCond .lt 14, 3) := by decide +kernel
theorem dX6_back_4 : decode cX6_back 4 = .ok (.iload_n 1, 1) := by decide +kernel
theorem dX6_back_5 : decode cX6_back 5 = .ok (.aload_n 0, 1) := by decide +kernel
theorem dX6_back_6 : decode cX6_back 6 = .ok (.getfield 31, 3) := by decide +kernel
theorem dX6_back_9 : decode cX6_back 9 = .ok (.getfield 87, 3) := by decide +kernel
theorem dX6_back_12 : decode cX6_back 12 = .ok (.if_icmp .le 6, 3) := by decide +kernel
theorem dX6_back_15 : decode cX6_back 15 = .ok (.bipush (-2), 2) := by decide +kernel
theorem dX6_back_17 : decode cX6_back 17 = .ok (.ireturn, 1) := by decide +kernel
theorem dX6_back_18 : decode cX6_back 18 = .ok (.aload_n 0, 1) := by decide +kernel
theorem dX6_back_19 : decode cX6_back 19 = .ok (.getfield 31, 3) := by decide +kernel
theorem dX6_back_22 : decode cX6_back 22 = .ok (.dup, 1) := by decide +kernel
theorem dX6_back_23 : decode cX6_back 23 = .ok (.getfield 87, 3) := by decide +kernel
theorem dX6_back_26 : decode cX6_back 26 = .ok (.iload_n 1, 1) := by decide +kernel
theorem dX6_back_27 : decode cX6_back 27 = .ok (.isub, 1) := by decide +kernel
theorem dX6_back_28 : decode cX6_back 28 = .ok (.putfield 87, 3) := by decide +kernel
theorem dX6_back_31 : decode cX6_back 31 = .ok (.aload_n 0, 1) := by decide +kernel
theorem dX6_back_32 : decode cX6_back 32 = .ok (.getfield 31, 3) := by decide +kernel
theorem dX6_back_35 : decode cX6_back 35 = .ok (.getfield 87, 3) := by decide +kernel
theorem dX6_back_38 : decode cX6_back 38 = .ok (.ireturn, 1) := by decide +kernel
theorem dX6_began_0 : decode cX6_began 0 = .ok (.aload_n 0, 1) := by decide +kernel
theorem dX6_began_1 : decode cX6_began 1 = .ok (.iload_n 1, 1) := by decide +kernel
theorem dX6_began_2 : decode cX6_began 2 = .ok (.invokevirtual 96, 3) := by decide +kernel
theorem dX6_began_5 : decode cX6_began 5 = .ok (.ifCond .eq 5, 3) := by decide +kernel
theorem dX6_began_8 : decode cX6_began 8 = .ok (.iconst (-1), 1) := by decide +kernel
theorem dX6_began_9 : decode cX6_began 9 = .ok (.ireturn, 1) := by decide +kernel
theorem dX6_began_10 : decode cX6_began 10 = .ok (.iload_n 2, 1) := by decide +kernel
theorem dX6_began_11 : decode cX6_began 11 = .ok (.ifCond .lt 8, 3) := by decide +kernel
theorem dX6_began_14 : decode cX6_began 14 = .ok (.iload_n 2, 1) := by decide +kernel
theorem dX6_began_15 : decode cX6_began 15 = .ok (.iconst 1, 1) := by decide +kernel
theorem dX6_began_16 : decode cX6_began 16 = .ok (.if_icmp .le 6, 3) := by decide +kernel
theorem dX6_began_19 : decode cX6_began 19 = .ok (.bipush (-2), 2) := by decide +kernel
theorem dX6_began_21 : decode cX6_began 21 = .ok (.ireturn, 1) := by decide +kernel
end
section
theorem dX6_began_22 : decode cX6_began 22 = .ok (.iconst 0, 1) := by decide +kernel
theorem dX6_began_23 : decode cX6_began 23 = .ok (.istore_n 3, 1) := by decide +kernel
theorem dX6_began_24 : decode cX6_began 24 = .ok (.bipush (-9), 2) := by decide +kernel
theorem dX6_began_26 : decode cX6_began 26 = .ok (.istore 4, 2) := by decide +kernel
theorem dX6_began_28 : decode cX6_began 28 = .ok (.aload_n 0, 1) := by decide +kernel
theorem dX6_began_29 : decode cX6_began 29 = .ok (.getfield 25, 3) := by decide +kernel
theorem dX6_began_32 : decode cX6_began 32 = .ok (.aload_n 0, 1) := by decide +kernel
theorem dX6_began_33 : decode cX6_began 33 = .ok (.getfield 21, 3) := by decide +kernel
theorem dX6_began_36 : decode cX6_began 36 = .ok (.invokevirtual 192, 3) := by decide +kernel
theorem dX6_began_39 : decode cX6_began 39 = .ok (.iconst 0, 1) := by decide +kernel
theorem dX6_began_40 : decode cX6_began 40 = .ok (.istore 5, 2) := by decide +kernel
theorem dX6_began_42 : decode cX6_began 42 = .ok (.iload 5, 2) := by decide +kernel
theorem dX6_began_44 : decode cX6_began 44 = .ok (.bipush 60, 2) := by decide +kernel
theorem dX6_began_46 : decode cX6_began 46 = .ok (.if_icmp .ge 43, 3) := by decide +kernel
theorem dX6_began_49 : decode cX6_began 49 = .ok (.aload_n 0, 1) := by decide +kernel
theorem dX6_began_50 : decode cX6_began 50 = .ok (.getfield 25, 3) := by decide +kernel
theorem dX6_began_53 : decode cX6_began 53 = .ok (.getfield 102, 3) := by decide +kernel
theorem dX6_began_56 : decode cX6_began 56 = .ok (.iload_n 1, 1) := by decide +kernel
theorem dX6_began_57 : decode cX6_began 57 = .ok (.iload 5, 2) := by decide +kernel
theorem dX6_began_59 : decode cX6_began 59 = .ok (.iastore, 1) := by decide +kernel
theorem dX6_began_60 : decode cX6_began 60 = .ok (.aload_n 0, 1) := by decide +kernel
theorem dX6_began_61 : decode cX6_began 61 = .ok (.invokevirtual 208, 3) := by decide +kernel
theorem dX6_began_64 : decode cX6_began 64 = .ok (.ifCond .eq 19, 3) := by decide +kernel
theorem dX6_began_67 : decode cX6_began 67 = .ok (.iload_n 3, 1) := by decide +kernel
theorem dX6_began_68 : decode cX6_began 68 = .ok (.ifCond .ne 8, 3) := by decide +kernel
theorem dX6_began_71 : decode cX6_began 71 = .ok (.iload 5, 2) := by decide +kernel
theorem dX6_began_73 : decode cX6_began 73 = .ok (.goto 5, 3) := by decide +kernel
theorem dX6_began_76 : decode cX6_began 76 = .ok (.iload 4, 2) := by decide +kernel
theorem dX6_began_78 : decode cX6_began 78 = .ok (.istore 4, 2) := by decide +kernel
theorem dX6_began_80 : decode cX6_began 80 = .ok (.iinc 3 1, 3) := by decide +kernel
theorem dX6_began_83 : decode cX6_began 83 = .ok (.iinc 5 1, 3) := by decide +kernel
theorem dX6_began_86 : decode cX6_began 86 = .ok (.goto (-44), 3) := by decide +kernel
theorem dX6_began_89 : decode cX6_began 89 = .ok (.iload_n 2, 1) := by decide +kernel
theorem dX6_began_90 : decode cX6_began 90 = .ok (.ifCond .ne 7, 3) := by decide +kernel
theorem dX6_began_93 : decode cX6_began 93 = .ok (.iload_n 3, 1) := by decide +kernel
theorem dX6_began_94 : decode cX6_began 94 = .ok (.goto 5, 3) := by decide +kernel
theorem dX6_began_97 : decode cX6_began 97 = .ok (.iload 4, 2) := by decide +kernel
theorem dX6_began_99 : decode cX6_began 99 = .ok (.ireturn, 1) := by decide +kernel
theorem dX6_kinds_0 : decode cX6_kinds 0 = .ok (.aload_n 0, 1) := by decide +kernel
theorem dX6_kinds_1 : decode cX6_kinds 1 = .ok (.iload_n 1, 1) := by decide +kernel
theorem dX6_kinds_2 : decode cX6_kinds 2 = .ok (.invokevirtual 96, 3) := by decide +kernel
theorem dX6_kinds_5 : decode cX6_kinds 5 = .ok (.ifCond .eq 5, 3) := by decide +kernel
theorem dX6_kinds_8 : decode cX6_kinds 8 = .ok (.iconst (-1), 1) := by decide +kernel
theorem dX6_kinds_9 : decode cX6_kinds 9 = .ok (.ireturn, 1) := by decide +kernel
theorem dX6_kinds_10 : decode cX6_kinds 10 = .ok (.iconst 0, 1) := by decide +kernel
theorem dX6_kinds_11 : decode cX6_kinds 11 = .ok (.istore_n 2, 1) := by decide +kernel
theorem dX6_kinds_12 : decode cX6_kinds 12 = .ok (.aload_n 0, 1) := by decide +kernel
theorem dX6_kinds_13 : decode cX6_kinds 13 = .ok (.getfield 25, 3) := by decide +kernel
theorem dX6_kinds_16 : decode cX6_kinds 16 = .ok (.aload_n 0, 1) := by decide +kernel
theorem dX6_kinds_17 : decode cX6_kinds 17 = .ok (.getfield 21, 3) := by decide +kernel
theorem dX6_kinds_20 : decode cX6_kinds 20 = .ok (.invokevirtual 192, 3) := by decide +kernel
theorem dX6_kinds_23 : decode cX6_kinds 23 = .ok (.iconst 0, 1) := by decide +kernel
theorem dX6_kinds_24 : decode cX6_kinds 24 = .ok (.istore_n 3, 1) := by decide +kernel
theorem dX6_kinds_25 : decode cX6_kinds 25 = .ok (.iload_n 3, 1) := by decide +kernel
theorem dX6_kinds_26 : decode cX6_kinds 26 = .ok (.iconst 3, 1) := by decide +kernel
theorem dX6_kinds_27 : decode cX6_kinds 27 = .ok (.if_icmp .ge 32, 3) := by decide +kernel
theorem dX6_kinds_30 : decode cX6_kinds 30 = .ok (.aload_n 0, 1) := by decide +kernel
theorem dX6_kinds_31 : decode cX6_kinds 31 = .ok (.getfield 25, 3) := by decide +kernel
theorem dX6_kinds_34 : decode cX6_kinds 34 = .ok (.getfield 99, 3) := by decide +kernel
theorem dX6_kinds_37 : decode cX6_kinds 37 = .ok (.iload_n 1, 1) := by decide +kernel
theorem dX6_kinds_38 : decode cX6_kinds 38 = .ok (.iload_n 3, 1) := by decide +kernel
theorem dX6_kinds_39 : decode cX6_kinds 39 = .ok (.iastore, 1) := by decide +kernel
theorem dX6_kinds_40 : decode cX6_kinds 40 = .ok (.aload_n 0, 1) := by decide +kernel
theorem dX6_kinds_41 : decode cX6_kinds 41 = .ok (.invokevirtual 208, 3) := by decide +kernel
theorem dX6_kinds_44 : decode cX6_kinds 44 = .ok (.ifCond .eq 9, 3) := by decide +kernel
theorem dX6_kinds_47 : decode cX6_kinds 47 = .ok (.iload_n 2, 1) := by decide +kernel
theorem dX6_kinds_48 : decode cX6_kinds 48 = .ok (.iconst 1, 1) := by decide +kernel
theorem dX6_kinds_49 : decode cX6_kinds 49 = .ok (.iload_n 3, 1) := by decide +kernel
theorem dX6_kinds_50 : decode cX6_kinds 50 = .ok (.ishl, 1) := by decide +kernel
theorem dX6_kinds_51 : decode cX6_kinds 51 = .ok (.ior, 1) := by decide +kernel
theorem dX6_kinds_52 : decode cX6_kinds 52 = .ok (.istore_n 2, 1) := by decide +kernel
theorem dX6_kinds_53 : decode cX6_kinds 53 = .ok (.iinc 3 1, 3) := by decide +kernel
theorem dX6_kinds_56 : decode cX6_kinds 56 = .ok (.goto (-31), 3) := by decide +kernel
theorem dX6_kinds_59 : decode cX6_kinds 59 = .ok (.iload_n 2, 1) := by decide +kernel
theorem dX6_kinds_60 : decode cX6_kinds 60 = .ok (.ireturn, 1) := by decide +kernel
theorem dX6_fadings_0 : decode cX6_fadings 0 = .ok (.aload_n 0, 1) := by decide +kernel
theorem dX6_fadings_1 : decode cX6_fadings 1 = .ok (.iload_n 1, 1) := by decide +kernel
theorem dX6_fadings_2 : decode cX6_fadings 2 = .ok (.invokevirtual 96, 3) := by decide +kernel
theorem dX6_fadings_5 : decode cX6_fadings 5 = .ok (.ifCond .eq 5, 3) := by decide +kernel
theorem dX6_fadings_8 : decode cX6_fadings 8 = .ok (.iconst (-1), 1) := by decide +kernel
theorem dX6_fadings_9 : decode cX6_fadings 9 = .ok (.ireturn, 1) := by decide +kernel
theorem dX6_fadings_10 : decode cX6_fadings 10 = .ok (.iconst 0, 1) := by decide +kernel
theorem dX6_fadings_11 : decode cX6_fadings 11 = .ok (.istore_n 2, 1) := by decide +kernel
theorem dX6_fadings_12 : decode cX6_fadings 12 = .ok (.aload_n 0, 1) := by decide +kernel
theorem dX6_fadings_13 : decode cX6_fadings 13 = .ok (.getfield 25, 3) := by decide +kernel
theorem dX6_fadings_16 : decode cX6_fadings 16 = .ok (.aload_n 0, 1) := by decide +kernel
theorem dX6_fadings_17 : decode cX6_fadings 17 = .ok (.getfield 21, 3) := by decide +kernel
theorem dX6_fadings_20 : decode cX6_fadings 20 = .ok (.invokevirtual 192, 3) := by decide +kernel
theorem dX6_fadings_23 : decode cX6_fadings 23 = .ok (.iconst 0, 1) := by decide +kernel
theorem dX6_fadings_24 : decode cX6_fadings 24 = .ok (.istore_n 3, 1) := by decide +kernel
theorem dX6_fadings_25 : decode cX6_fadings 25 = .ok (.iload_n 3, 1) := by decide +kernel
theorem dX6_fadings_26 : decode cX6_fadings 26 = .ok (.bipush 10, 2) := by decide +kernel
theorem dX6_fadings_28 : decode cX6_fadings 28 = .ok (.if_icmp .ge 32, 3) := by decide +kernel
theorem dX6_fadings_31 : decode cX6_fadings 31 = .ok (.aload_n 0, 1) := by decide +kernel
theorem dX6_fadings_32 : decode cX6_fadings 32 = .ok (.getfield 25, 3) := by decide +kernel
theorem dX6_fadings_35 : decode cX6_fadings 35 = .ok (.getfield 105, 3) := by decide +kernel
theorem dX6_fadings_38 : decode cX6_fadings 38 = .ok (.iload_n 1, 1) := by decide +kernel
theorem dX6_fadings_39 : decode cX6_fadings 39 = .ok (.iload_n 3, 1) := by decide +kernel
theorem dX6_fadings_40 : decode cX6_fadings 40 = .ok (.iastore, 1) := by decide +kernel
theorem dX6_fadings_41 : decode cX6_fadings 41 = .ok (.aload_n 0, 1) := by decide +kernel
theorem dX6_fadings_42 : decode cX6_fadings 42 = .ok (.invokevirtual 208, 3) := by decide +kernel
theorem dX6_fadings_45 : decode cX6_fadings 45 = .ok (.ifCond .eq 9, 3) := by decide +kernel
theorem dX6_fadings_48 : decode cX6_fadings 48 = .ok (.iload_n 2, 1) := by decide +kernel
theorem dX6_fadings_49 : decode cX6_fadings 49 = .ok (.iconst 1, 1) := by decide +kernel
theorem dX6_fadings_50 : decode cX6_fadings 50 = .ok (.iload_n 3, 1) := by decide +kernel
theorem dX6_fadings_51 : decode cX6_fadings 51 = .ok (.ishl, 1) := by decide +kernel
theorem dX6_fadings_52 : decode cX6_fadings 52 = .ok (.ior, 1) := by decide +kernel
theorem dX6_fadings_53 : decode cX6_fadings 53 = .ok (.istore_n 2, 1) := by decide +kernel
theorem dX6_fadings_54 : decode cX6_fadings 54 = .ok (.iinc 3 1, 3) := by decide +kernel
theorem dX6_fadings_57 : decode cX6_fadings 57 = .ok (.goto (-32), 3) := by decide +kernel
theorem dX6_fadings_60 : decode cX6_fadings 60 = .ok (.iload_n 2, 1) := by decide +kernel
theorem dX6_fadings_61 : decode cX6_fadings 61 = .ok (.ireturn, 1) := by decide +kernel
theorem dX6_guessIsSo_0 : decode cX6_guessIsSo 0 = .ok (.aload_n 0, 1) := by decide +kernel
theorem dX6_guessIsSo_1 : decode cX6_guessIsSo 1 = .ok (.getfield 25, 3) := by decide +kernel
theorem dX6_guessIsSo_4 : decode cX6_guessIsSo 4 = .ok (.invokevirtual 211, 3) := by decide +kernel
theorem dX6_guessIsSo_7 : decode cX6_guessIsSo 7 = .ok (.aload_n 0, 1) := by decide +kernel
theorem dX6_guessIsSo_8 : decode cX6_guessIsSo 8 = .ok (.getfield 31, 3) := by decide +kernel
theorem dX6_guessIsSo_11 : decode cX6_guessIsSo 11 = .ok (.aload_n 0, 1) := by decide +kernel
theorem dX6_guessIsSo_12 : decode cX6_guessIsSo 12 = .ok (.getfield 25, 3) := by decide +kernel
theorem dX6_guessIsSo_15 : decode cX6_guessIsSo 15 = .ok (.invokevirtual 214, 3) := by decide +kernel
theorem dX6_guessIsSo_18 : decode cX6_guessIsSo 18 = .ok (.ireturn, 1) := by decide +kernel
theorem dX6_odds_0 : decode cX6_odds 0 = .ok (.aload_n 0, 1) := by decide +kernel
theorem dX6_odds_1 : decode cX6_odds 1 = .ok (.iload_n 1, 1) := by decide +kernel
theorem dX6_odds_2 : decode cX6_odds 2 = .ok (.invokevirtual 96, 3) := by decide +kernel
theorem dX6_odds_5 : decode cX6_odds 5 = .ok (.ifCond .ne 19, 3) := by decide +kernel
theorem dX6_odds_8 : decode cX6_odds 8 = .ok (.iload_n 2, 1) := by decide +kernel
theorem dX6_odds_9 : decode cX6_odds 9 = .ok (.invokestatic 112, 3) := by decide +kernel
theorem dX6_odds_12 : decode cX6_odds 12 = .ok (.ifCond .ne 12, 3) := by decide +kernel
theorem dX6_odds_15 : decode cX6_odds 15 = .ok (.iload_n 3, 1) := by decide +kernel
theorem dX6_odds_16 : decode cX6_odds 16 = .ok (.ifCond .lt 8, 3) := by decide +kernel
theorem dX6_odds_19 : decode cX6_odds 19 = .ok (.iload_n 3, 1) := by decide +kernel
theorem dX6_odds_20 : decode cX6_odds 20 = .ok (.iconst 1, 1) := by decide +kernel
theorem dX6_odds_21 : decode cX6_odds 21 = .ok (.if_icmp .le 7, 3) := by decide +kernel
theorem dX6_odds_24 : decode cX6_odds 24 = .ok (.ldc2_w 218, 3) := by decide +kernel
theorem dX6_odds_27 : decode cX6_odds 27 = .ok (.lreturn, 1) := by decide +kernel
theorem dX6_odds_28 : decode cX6_odds 28 = .ok (.aload_n 0, 1) := by decide +kernel
theorem dX6_odds_29 : decode cX6_odds 29 = .ok (.getfield 25, 3) := by decide +kernel
theorem dX6_odds_32 : decode cX6_odds 32 = .ok (.aload_n 0, 1) := by decide +kernel
theorem dX6_odds_33 : decode cX6_odds 33 = .ok (.getfield 21, 3) := by decide +kernel
theorem dX6_odds_36 : decode cX6_odds 36 = .ok (.invokevirtual 192, 3) := by decide +kernel
theorem dX6_odds_39 : decode cX6_odds 39 = .ok (.aload_n 0, 1) := by decide +kernel
theorem dX6_odds_40 : decode cX6_odds 40 = .ok (.iload_n 1, 1) := by decide +kernel
theorem dX6_odds_41 : decode cX6_odds 41 = .ok (.iload_n 2, 1) := by decide +kernel
theorem dX6_odds_42 : decode cX6_odds 42 = .ok (.iconst 0, 1) := by decide +kernel
theorem dX6_odds_43 : decode cX6_odds 43 = .ok (.invokevirtual 220, 3) := by decide +kernel
theorem dX6_odds_46 : decode cX6_odds 46 = .ok (.istore 4, 2) := by decide +kernel
theorem dX6_odds_48 : decode cX6_odds 48 = .ok (.iconst 1, 1) := by decide +kernel
theorem dX6_odds_49 : decode cX6_odds 49 = .ok (.aload_n 0, 1) := by decide +kernel
theorem dX6_odds_50 : decode cX6_odds 50 = .ok (.getfield 21, 3) := by decide +kernel
theorem dX6_odds_53 : decode cX6_odds 53 = .ok (.getfield 154, 3) := by decide +kernel
theorem dX6_odds_56 : decode cX6_odds 56 = .ok (.ishl, 1) := by decide +kernel
theorem dX6_odds_57 : decode cX6_odds 57 = .ok (.istore 5, 2) := by decide +kernel
theorem dX6_odds_59 : decode cX6_odds 59 = .ok (.iload 5, 2) := by decide +kernel
theorem dX6_odds_61 : decode cX6_odds 61 = .ok (.iconst 1, 1) := by decide +kernel
theorem dX6_odds_62 : decode cX6_odds 62 = .ok (.if_icmp .le 25, 3) := by decide +kernel
theorem dX6_odds_65 : decode cX6_odds 65 = .ok (.iload 4, 2) := by decide +kernel
theorem dX6_odds_67 : decode cX6_odds 67 = .ok (.iconst 2, 1) := by decide +kernel
theorem dX6_odds_68 : decode cX6_odds 68 = .ok (.irem, 1) := by decide +kernel
theorem dX6_odds_69 : decode cX6_odds 69 = .ok (.ifCond .ne 18, 3) := by decide +kernel
theorem dX6_odds_72 : decode cX6_odds 72 = .ok (.iload 4, 2) := by decide +kernel
theorem dX6_odds_74 : decode cX6_odds 74 = .ok (.iconst 2, 1) := by decide +kernel
theorem dX6_odds_75 : decode cX6_odds 75 = .ok (.idiv, 1) := by decide +kernel
theorem dX6_odds_76 : decode cX6_odds 76 = .ok (.istore 4, 2) := by decide +kernel
theorem dX6_odds_78 : decode cX6_odds 78 = .ok (.iload 5, 2) := by decide +kernel
theorem dX6_odds_80 : decode cX6_odds 80 = .ok (.iconst 2, 1) := by decide +kernel
theorem dX6_odds_81 : decode cX6_odds 81 = .ok (.idiv, 1) := by decide +kernel
theorem dX6_odds_82 : decode cX6_odds 82 = .ok (.istore 5, 2) := by decide +kernel
theorem dX6_odds_84 : decode cX6_odds 84 = .ok (.goto (-25), 3) := by decide +kernel
theorem dX6_odds_87 : decode cX6_odds 87 = .ok (.iload_n 3, 1) := by decide +kernel
theorem dX6_odds_88 : decode cX6_odds 88 = .ok (.ifCond .ne 9, 3) := by decide +kernel
theorem dX6_odds_91 : decode cX6_odds 91 = .ok (.iload 4, 2) := by decide +kernel
theorem dX6_odds_93 : decode cX6_odds 93 = .ok (.i2l, 1) := by decide +kernel
theorem dX6_odds_94 : decode cX6_odds 94 = .ok (.goto 6, 3) := by decide +kernel
theorem dX6_odds_97 : decode cX6_odds 97 = .ok (.iload 5, 2) := by decide +kernel
theorem dX6_odds_99 : decode cX6_odds 99 = .ok (.i2l, 1) := by decide +kernel
theorem dX6_odds_100 : decode cX6_odds 100 = .ok (.lreturn, 1) := by decide +kernel
theorem dX6_waysToBeDue_0 : decode cX6_waysToBeDue 0 = .ok (.iload_n 3, 1) := by decide +kernel
theorem dX6_waysToBeDue_1 : decode cX6_waysToBeDue 1 = .ok (.aload_n 0, 1) := by decide +kernel
theorem dX6_waysToBeDue_2 : decode cX6_waysToBeDue 2 = .ok (.getfield 21, 3) := by decide +kernel
theorem dX6_waysToBeDue_5 : decode cX6_waysToBeDue 5 = .ok (.getfield 154, 3) := by decide +kernel
theorem dX6_waysToBeDue_8 : decode cX6_waysToBeDue 8 = .ok (.if_icmp .lt 22, 3) := by decide +kernel
theorem dX6_waysToBeDue_11 : decode cX6_waysToBeDue 11 = .ok (.aload_n 0, 1) := by decide +kernel
theorem dX6_waysToBeDue_12 : decode cX6_waysToBeDue 12 = .ok (.getfield 25, 3) := by decide +kernel
theorem dX6_waysToBeDue_15 : decode cX6_waysToBeDue 15 = .ok (.iload_n 1, 1) := by decide +kernel
theorem dX6_waysToBeDue_16 : decode cX6_waysToBeDue 16 = .ok (.iload_n 3, 1) := by decide +kernel
theorem dX6_waysToBeDue_17 : decode cX6_waysToBeDue 17 = .ok (.invokevirtual 148, 3) := by decide +kernel
theorem dX6_waysToBeDue_20 : decode cX6_waysToBeDue 20 = .ok (.iload_n 2, 1) := by decide +kernel
theorem dX6_waysToBeDue_21 : decode cX6_waysToBeDue 21 = .ok (.if_icmp .ne 7, 3) := by decide +kernel
theorem dX6_waysToBeDue_24 : decode cX6_waysToBeDue 24 = .ok (.iconst 1, 1) := by decide +kernel
theorem dX6_waysToBeDue_25 : decode cX6_waysToBeDue 25 = .ok (.goto 4, 3) := by decide +kernel
theorem dX6_waysToBeDue_28 : decode cX6_waysToBeDue 28 = .ok (.iconst 0, 1) := by decide +kernel
theorem dX6_waysToBeDue_29 : decode cX6_waysToBeDue 29 = .ok (.ireturn, 1) := by decide +kernel
theorem dX6_waysToBeDue_30 : decode cX6_waysToBeDue 30 = .ok (.aload_n 0, 1) := by decide +kernel
theorem dX6_waysToBeDue_31 : decode cX6_waysToBeDue 31 = .ok (.getfield 25, 3) := by decide +kernel
theorem dX6_waysToBeDue_34 : decode cX6_waysToBeDue 34 = .ok (.getfield 127, 3) := by decide +kernel
theorem dX6_waysToBeDue_37 : decode cX6_waysToBeDue 37 = .ok (.iload_n 3, 1) := by decide +kernel
theorem dX6_waysToBeDue_38 : decode cX6_waysToBeDue 38 = .ok (.iconst 0, 1) := by decide +kernel
theorem dX6_waysToBeDue_39 : decode cX6_waysToBeDue 39 = .ok (.bastore, 1) := by decide +kernel
theorem dX6_waysToBeDue_40 : decode cX6_waysToBeDue 40 = .ok (.aload_n 0, 1) := by decide +kernel
theorem dX6_waysToBeDue_41 : decode cX6_waysToBeDue 41 = .ok (.getfield 25, 3) := by decide +kernel
theorem dX6_waysToBeDue_44 : decode cX6_waysToBeDue 44 = .ok (.iload_n 3, 1) := by decide +kernel
theorem dX6_waysToBeDue_45 : decode cX6_waysToBeDue 45 = .ok (.invokevirtual 223, 3) := by decide +kernel
theorem dX6_waysToBeDue_48 : decode cX6_waysToBeDue 48 = .ok (.aload_n 0, 1) := by decide +kernel
theorem dX6_waysToBeDue_49 : decode cX6_waysToBeDue 49 = .ok (.iload_n 1, 1) := by decide +kernel
theorem dX6_waysToBeDue_50 : decode cX6_waysToBeDue 50 = .ok (.iload_n 2, 1) := by decide +kernel
theorem dX6_waysToBeDue_51 : decode cX6_waysToBeDue 51 = .ok (.iload_n 3, 1) := by decide +kernel
theorem dX6_waysToBeDue_52 : decode cX6_waysToBeDue 52 = .ok (.iconst 1, 1) := by decide +kernel
theorem dX6_waysToBeDue_53 : decode cX6_waysToBeDue 53 = .ok (.iadd, 1) := by decide +kernel
theorem dX6_waysToBeDue_54 : decode cX6_waysToBeDue 54 = .ok (.invokevirtual 220, 3) := by decide +kernel
theorem dX6_waysToBeDue_57 : decode cX6_waysToBeDue 57 = .ok (.istore 4, 2) := by decide +kernel
theorem dX6_waysToBeDue_59 : decode cX6_waysToBeDue 59 = .ok (.aload_n 0, 1) := by decide +kernel
theorem dX6_waysToBeDue_60 : decode cX6_waysToBeDue 60 = .ok (.getfield 25, 3) := by decide +kernel
theorem dX6_waysToBeDue_63 : decode cX6_waysToBeDue 63 = .ok (.getfield 127, 3) := by decide +kernel
theorem dX6_waysToBeDue_66 : decode cX6_waysToBeDue 66 = .ok (.iload_n 3, 1) := by decide +kernel
theorem dX6_waysToBeDue_67 : decode cX6_waysToBeDue 67 = .ok (.iconst 1, 1) := by decide +kernel
theorem dX6_waysToBeDue_68 : decode cX6_waysToBeDue 68 = .ok (.bastore, 1) := by decide +kernel
theorem dX6_waysToBeDue_69 : decode cX6_waysToBeDue 69 = .ok (.aload_n 0, 1) := by decide +kernel
theorem dX6_waysToBeDue_70 : decode cX6_waysToBeDue 70 = .ok (.getfield 25, 3) := by decide +kernel
theorem dX6_waysToBeDue_73 : decode cX6_waysToBeDue 73 = .ok (.iload_n 3, 1) := by decide +kernel
theorem dX6_waysToBeDue_74 : decode cX6_waysToBeDue 74 = .ok (.invokevirtual 223, 3) := by decide +kernel
theorem dX6_waysToBeDue_77 : decode cX6_waysToBeDue 77 = .ok (.iload 4, 2) := by decide +kernel
theorem dX6_waysToBeDue_79 : decode cX6_waysToBeDue 79 = .ok (.aload_n 0, 1) := by decide +kernel
theorem dX6_waysToBeDue_80 : decode cX6_waysToBeDue 80 = .ok (.iload_n 1, 1) := by decide +kernel
theorem dX6_waysToBeDue_81 : decode cX6_waysToBeDue 81 = .ok (.iload_n 2, 1) := by decide +kernel
theorem dX6_waysToBeDue_82 : decode cX6_waysToBeDue 82 = .ok (.iload_n 3, 1) := by decide +kernel
theorem dX6_waysToBeDue_83 : decode cX6_waysToBeDue 83 = .ok (.iconst 1, 1) := by decide +kernel
theorem dX6_waysToBeDue_84 : decode cX6_waysToBeDue 84 = .ok (.iadd, 1) := by decide +kernel
theorem dX6_waysToBeDue_85 : decode cX6_waysToBeDue 85 = .ok (.invokevirtual 220, 3) := by decide +kernel
theorem dX6_waysToBeDue_88 : decode cX6_waysToBeDue 88 = .ok (.iadd, 1) := by decide +kernel
theorem dX6_waysToBeDue_89 : decode cX6_waysToBeDue 89 = .ok (.ireturn, 1) := by decide +kernel
theorem dX6_sheet_0 : decode cX6_sheet 0 = .ok (.aload_n 0, 1) := by decide +kernel
theorem dX6_sheet_1 : decode cX6_sheet 1 = .ok (.iconst 0, 1) := by decide +kernel
theorem dX6_sheet_2 : decode cX6_sheet 2 = .ok (.putfield 59, 3) := by decide +kernel
theorem dX6_sheet_5 : decode cX6_sheet 5 = .ok (.iload_n 1, 1) := by decide +kernel
theorem dX6_sheet_6 : decode cX6_sheet 6 = .ok (.invokestatic 62, 3) := by decide +kernel
theorem dX6_sheet_9 : decode cX6_sheet 9 = .ok (.ifCond .eq 5, 3) := by decide +kernel
theorem dX6_sheet_12 : decode cX6_sheet 12 = .ok (.iconst (-1), 1) := by decide +kernel
theorem dX6_sheet_13 : decode cX6_sheet 13 = .ok (.ireturn, 1) := by decide +kernel
theorem dX6_sheet_14 : decode cX6_sheet 14 = .ok (.iload_n 2, 1) := by decide +kernel
theorem dX6_sheet_15 : decode cX6_sheet 15 = .ok (.invokestatic 66, 3) := by decide +kernel
theorem dX6_sheet_18 : decode cX6_sheet 18 = .ok (.ifCond .ne 9, 3) := by decide +kernel
theorem dX6_sheet_21 : decode cX6_sheet 21 = .ok (.iload_n 3, 1) := by decide +kernel
theorem dX6_sheet_22 : decode cX6_sheet 22 = .ok (.bipush 60, 2) := by decide +kernel
theorem dX6_sheet_24 : decode cX6_sheet 24 = .ok (.if_icmp .le 6, 3) := by decide +kernel
theorem dX6_sheet_27 : decode cX6_sheet 27 = .ok (.bipush (-2), 2) := by decide +kernel
theorem dX6_sheet_29 : decode cX6_sheet 29 = .ok (.ireturn, 1) := by decide +kernel
theorem dX6_sheet_30 : decode cX6_sheet 30 = .ok (.iload_n 3, 1) := by decide +kernel
theorem dX6_sheet_31 : decode cX6_sheet 31 = .ok (.ifCond .ge 9, 3) := by decide +kernel
theorem dX6_sheet_34 : decode cX6_sheet 34 = .ok (.aload_n 0, 1) := by decide +kernel
theorem dX6_sheet_35 : decode cX6_sheet 35 = .ok (.iconst 4, 1) := by decide +kernel
theorem dX6_sheet_36 : decode cX6_sheet 36 = .ok (.invokevirtual 226, 3) := by decide +kernel
theorem dX6_sheet_39 : decode cX6_sheet 39 = .ok (.ireturn, 1) := by decide +kernel
theorem dX6_sheet_40 : decode cX6_sheet 40 = .ok (.aload_n 0, 1) := by decide +kernel
theorem dX6_sheet_41 : decode cX6_sheet 41 = .ok (.getfield 13, 3) := by decide +kernel
theorem dX6_sheet_44 : decode cX6_sheet 44 = .ok (.iload_n 1, 1) := by decide +kernel
theorem dX6_sheet_45 : decode cX6_sheet 45 = .ok (.aaload, 1) := by decide +kernel
theorem dX6_sheet_46 : decode cX6_sheet 46 = .ok (.iload_n 2, 1) := by decide +kernel
theorem dX6_sheet_47 : decode cX6_sheet 47 = .ok (.iload_n 3, 1) := by decide +kernel
theorem dX6_sheet_48 : decode cX6_sheet 48 = .ok (.invokevirtual 229, 3) := by decide +kernel
theorem dX6_sheet_51 : decode cX6_sheet 51 = .ok (.iconst 1, 1) := by decide +kernel
theorem dX6_sheet_52 : decode cX6_sheet 52 = .ok (.ireturn, 1) := by decide +kernel
theorem dX6_lose_0 : decode cX6_lose 0 = .ok (.iload_n 1, 1) := by decide +kernel
theorem dX6_lose_1 : decode cX6_lose 1 = .ok (.invokestatic 62, 3) := by decide +kernel
theorem dX6_lose_4 : decode cX6_lose 4 = .ok (.ifCond .eq 5, 3) := by decide +kernel
theorem dX6_lose_7 : decode cX6_lose 7 = .ok (.iconst (-1), 1) := by decide +kernel
theorem dX6_lose_8 : decode cX6_lose 8 = .ok (.ireturn, 1) := by decide +kernel
theorem dX6_lose_9 : decode cX6_lose 9 = .ok (.aload_n 0, 1) := by decide +kernel
theorem dX6_lose_10 : decode cX6_lose 10 = .ok (.getfield 13, 3) := by decide +kernel
theorem dX6_lose_13 : decode cX6_lose 13 = .ok (.iload_n 1, 1) := by decide +kernel
theorem dX6_lose_14 : decode cX6_lose 14 = .ok (.aaload, 1) := by decide +kernel
theorem dX6_lose_15 : decode cX6_lose 15 = .ok (.invokevirtual 233, 3) := by decide +kernel
theorem dX6_lose_18 : decode cX6_lose 18 = .ok (.ifCond .eq 7, 3) := by decide +kernel
theorem dX6_lose_21 : decode cX6_lose 21 = .ok (.iconst 0, 1) := by decide +kernel
theorem dX6_lose_22 : decode cX6_lose 22 = .ok (.goto 4, 3) := by decide +kernel
theorem dX6_lose_25 : decode cX6_lose 25 = .ok (.iconst 1, 1) := by decide +kernel
theorem dX6_lose_26 : decode cX6_lose 26 = .ok (.istore_n 2, 1) := by decide +kernel
theorem dX6_lose_27 : decode cX6_lose 27 = .ok (.aload_n 0, 1) := by decide +kernel
theorem dX6_lose_28 : decode cX6_lose 28 = .ok (.getfield 13, 3) := by decide +kernel
theorem dX6_lose_31 : decode cX6_lose 31 = .ok (.iload_n 1, 1) := by decide +kernel
theorem dX6_lose_32 : decode cX6_lose 32 = .ok (.aaload, 1) := by decide +kernel
theorem dX6_lose_33 : decode cX6_lose 33 = .ok (.iconst (-1), 1) := by decide +kernel
theorem dX6_lose_34 : decode cX6_lose 34 = .ok (.putfield 236, 3) := by decide +kernel
theorem dX6_lose_37 : decode cX6_lose 37 = .ok (.iload_n 2, 1) := by decide +kernel
theorem dX6_lose_38 : decode cX6_lose 38 = .ok (.ireturn, 1) := by decide +kernel
theorem dX6_put_0 : decode cX6_put 0 = .ok (.aload_n 0, 1) := by decide +kernel
theorem dX6_put_1 : decode cX6_put 1 = .ok (.iconst 0, 1) := by decide +kernel
theorem dX6_put_2 : decode cX6_put 2 = .ok (.putfield 59, 3) := by decide +kernel
theorem dX6_put_5 : decode cX6_put 5 = .ok (.iload_n 1, 1) := by decide +kernel
theorem dX6_put_6 : decode cX6_put 6 = .ok (.invokestatic 62, 3) := by decide +kernel
theorem dX6_put_9 : decode cX6_put 9 = .ok (.ifCond .eq 5, 3) := by decide +kernel
theorem dX6_put_12 : decode cX6_put 12 = .ok (.iconst (-1), 1) := by decide +kernel
theorem dX6_put_13 : decode cX6_put 13 = .ok (.ireturn, 1) := by decide +kernel
theorem dX6_put_14 : decode cX6_put 14 = .ok (.aload_n 0, 1) := by decide +kernel
theorem dX6_put_15 : decode cX6_put 15 = .ok (.getfield 13, 3) := by decide +kernel
theorem dX6_put_18 : decode cX6_put 18 = .ok (.iload_n 1, 1) := by decide +kernel
theorem dX6_put_19 : decode cX6_put 19 = .ok (.aaload, 1) := by decide +kernel
theorem dX6_put_20 : decode cX6_put 20 = .ok (.astore 4, 2) := by decide +kernel
theorem dX6_put_22 : decode cX6_put 22 = .ok (.aload 4, 2) := by decide +kernel
theorem dX6_put_24 : decode cX6_put 24 = .ok (.invokevirtual 233, 3) := by decide +kernel
theorem dX6_put_27 : decode cX6_put 27 = .ok (.ifCond .eq 9, 3) := by decide +kernel
theorem dX6_put_30 : decode cX6_put 30 = .ok (.aload_n 0, 1) := by decide +kernel
theorem dX6_put_31 : decode cX6_put 31 = .ok (.iconst 1, 1) := by decide +kernel
theorem dX6_put_32 : decode cX6_put 32 = .ok (.invokevirtual 226, 3) := by decide +kernel
theorem dX6_put_35 : decode cX6_put 35 = .ok (.ireturn, 1) := by decide +kernel
theorem dX6_put_36 : decode cX6_put 36 = .ok (.aload 4, 2) := by decide +kernel
theorem dX6_put_38 : decode cX6_put 38 = .ok (.iload_n 2, 1) := by decide +kernel
theorem dX6_put_39 : decode cX6_put 39 = .ok (.invokevirtual 239, 3) := by decide +kernel
theorem dX6_put_42 : decode cX6_put 42 = .ok (.ifCond .eq 9, 3) := by decide +kernel
theorem dX6_put_45 : decode cX6_put 45 = .ok (.aload_n 0, 1) := by decide +kernel
theorem dX6_put_46 : decode cX6_put 46 = .ok (.iconst 3, 1) := by decide +kernel
theorem dX6_put_47 : decode cX6_put 47 = .ok (.invokevirtual 226, 3) := by decide +kernel
theorem dX6_put_50 : decode cX6_put 50 = .ok (.ireturn, 1) := by decide +kernel
theorem dX6_put_51 : decode cX6_put 51 = .ok (.aload 4, 2) := by decide +kernel
theorem dX6_put_53 : decode cX6_put 53 = .ok (.getfield 73, 3) := by decide +kernel
theorem dX6_put_56 : decode cX6_put 56 = .ok (.iload_n 2, 1) := by decide +kernel
theorem dX6_put_57 : decode cX6_put 57 = .ok (.aload 4, 2) := by decide +kernel
theorem dX6_put_59 : decode cX6_put 59 = .ok (.iload_n 3, 1) := by decide +kernel
theorem dX6_put_60 : decode cX6_put 60 = .ok (.invokevirtual 242, 3) := by decide +kernel
theorem dX6_put_63 : decode cX6_put 63 = .ok (.iastore, 1) := by decide +kernel
theorem dX6_put_64 : decode cX6_put 64 = .ok (.iconst 1, 1) := by decide +kernel
theorem dX6_put_65 : decode cX6_put 65 = .ok (.ireturn, 1) := by decide +kernel
theorem dX6_cell_0 : decode cX6_cell 0 = .ok (.aload_n 0, 1) := by decide +kernel
theorem dX6_cell_1 : decode cX6_cell 1 = .ok (.iconst 0, 1) := by decide +kernel
theorem dX6_cell_2 : decode cX6_cell 2 = .ok (.putfield 59, 3) := by decide +kernel
theorem dX6_cell_5 : decode cX6_cell 5 = .ok (.iload_n 1, 1) := by decide +kernel
theorem dX6_cell_6 : decode cX6_cell 6 = .ok (.invokestatic 62, 3) := by decide +kernel
theorem dX6_cell_9 : decode cX6_cell 9 = .ok (.ifCond .ne 10, 3) := by decide +kernel
theorem dX6_cell_12 : decode cX6_cell 12 = .ok (.iload_n 3, 1) := by decide +kernel
theorem dX6_cell_13 : decode cX6_cell 13 = .ok (.invokestatic 66, 3) := by decide +kernel
theorem dX6_cell_16 : decode cX6_cell 16 = .ok (.ifCond .eq 7, 3) := by decide +kernel
theorem dX6_cell_19 : decode cX6_cell 19 = .ok (.ldc2_w 218, 3) := by decide +kernel
theorem dX6_cell_22 : decode cX6_cell 22 = .ok (.lreturn, 1) := by decide +kernel
theorem dX6_cell_23 : decode cX6_cell 23 = .ok (.aload_n 0, 1) := by decide +kernel
theorem dX6_cell_24 : decode cX6_cell 24 = .ok (.getfield 13, 3) := by decide +kernel
theorem dX6_cell_27 : decode cX6_cell 27 = .ok (.iload_n 1, 1) := by decide +kernel
theorem dX6_cell_28 : decode cX6_cell 28 = .ok (.aaload, 1) := by decide +kernel
theorem dX6_cell_29 : decode cX6_cell 29 = .ok (.astore 4, 2) := by decide +kernel
theorem dX6_cell_31 : decode cX6_cell 31 = .ok (.aload_n 0, 1) := by decide +kernel
theorem dX6_cell_32 : decode cX6_cell 32 = .ok (.aload 4, 2) := by decide +kernel
theorem dX6_cell_34 : decode cX6_cell 34 = .ok (.iload_n 3, 1) := by decide +kernel
theorem dX6_cell_35 : decode cX6_cell 35 = .ok (.invokevirtual 245, 3) := by decide +kernel
theorem dX6_cell_38 : decode cX6_cell 38 = .ok (.putfield 59, 3) := by decide +kernel
theorem dX6_cell_41 : decode cX6_cell 41 = .ok (.aload_n 0, 1) := by decide +kernel
theorem dX6_cell_42 : decode cX6_cell 42 = .ok (.getfield 59, 3) := by decide +kernel
theorem dX6_cell_45 : decode cX6_cell 45 = .ok (.ifCond .ne 17, 3) := by decide +kernel
theorem dX6_cell_48 : decode cX6_cell 48 = .ok (.aload 4, 2) := by decide +kernel
theorem dX6_cell_50 : decode cX6_cell 50 = .ok (.iload_n 2, 1) := by decide +kernel
theorem dX6_cell_51 : decode cX6_cell 51 = .ok (.invokevirtual 239, 3) := by decide +kernel
theorem dX6_cell_54 : decode cX6_cell 54 = .ok (.ifCond .eq 8, 3) := by decide +kernel
theorem dX6_cell_57 : decode cX6_cell 57 = .ok (.aload_n 0, 1) := by decide +kernel
theorem dX6_cell_58 : decode cX6_cell 58 = .ok (.iconst 3, 1) := by decide +kernel
theorem dX6_cell_59 : decode cX6_cell 59 = .ok (.putfield 59, 3) := by decide +kernel
theorem dX6_cell_62 : decode cX6_cell 62 = .ok (.aload_n 0, 1) := by decide +kernel
theorem dX6_cell_63 : decode cX6_cell 63 = .ok (.getfield 59, 3) := by decide +kernel
theorem dX6_cell_66 : decode cX6_cell 66 = .ok (.ifCond .ne 14, 3) := by decide +kernel
theorem dX6_cell_69 : decode cX6_cell 69 = .ok (.aload 4, 2) := by decide +kernel
theorem dX6_cell_71 : decode cX6_cell 71 = .ok (.getfield 73, 3) := by decide +kernel
theorem dX6_cell_74 : decode cX6_cell 74 = .ok (.iload_n 2, 1) := by decide +kernel
theorem dX6_cell_75 : decode cX6_cell 75 = .ok (.iaload, 1) := by decide +kernel
theorem dX6_cell_76 : decode cX6_cell 76 = .ok (.i2l, 1) := by decide +kernel
theorem dX6_cell_77 : decode cX6_cell 77 = .ok (.goto 6, 3) := by decide +kernel
theorem dX6_cell_80 : decode cX6_cell 80 = .ok (.ldc2_w 218, 3) := by decide +kernel
theorem dX6_cell_83 : decode cX6_cell 83 = .ok (.lreturn, 1) := by decide +kernel
theorem dX6_copy_0 : decode cX6_copy 0 = .ok (.aload_n 0, 1) := by decide +kernel
theorem dX6_copy_1 : decode cX6_copy 1 = .ok (.iconst 0, 1) := by decide +kernel
theorem dX6_copy_2 : decode cX6_copy 2 = .ok (.putfield 59, 3) := by decide +kernel
theorem dX6_copy_5 : decode cX6_copy 5 = .ok (.iload_n 1, 1) := by decide +kernel
theorem dX6_copy_6 : decode cX6_copy 6 = .ok (.invokestatic 62, 3) := by decide +kernel
theorem dX6_copy_9 : decode cX6_copy 9 = .ok (.ifCond .ne 10, 3) := by decide +kernel
theorem dX6_copy_12 : decode cX6_copy 12 = .ok (.iload_n 3, 1) := by decide +kernel
theorem dX6_copy_13 : decode cX6_copy 13 = .ok (.invokestatic 62, 3) := by decide +kernel
theorem dX6_copy_16 : decode cX6_copy 16 = .ok (.ifCond .eq 5, 3) := by decide +kernel
theorem dX6_copy_19 : decode cX6_copy 19 = .ok (.iconst (-1), 1) := by decide +kernel
theorem dX6_copy_20 : decode cX6_copy 20 = .ok (.ireturn, 1) := by decide +kernel
theorem dX6_copy_21 : decode cX6_copy 21 = .ok (.aload_n 0, 1) := by decide +kernel
theorem dX6_copy_22 : decode cX6_copy 22 = .ok (.getfield 13, 3) := by decide +kernel
theorem dX6_copy_25 : decode cX6_copy 25 = .ok (.iload_n 1, 1) := by decide +kernel
theorem dX6_copy_26 : decode cX6_copy 26 = .ok (.aaload, 1) := by decide +kernel
theorem dX6_copy_27 : decode cX6_copy 27 = .ok (.astore 6, 2) := by decide +kernel
theorem dX6_copy_29 : decode cX6_copy 29 = .ok (.aload_n 0, 1) := by decide +kernel
theorem dX6_copy_30 : decode cX6_copy 30 = .ok (.getfield 13, 3) := by decide +kernel
theorem dX6_copy_33 : decode cX6_copy 33 = .ok (.iload_n 3, 1) := by decide +kernel
theorem dX6_copy_34 : decode cX6_copy 34 = .ok (.aaload, 1) := by decide +kernel
theorem dX6_copy_35 : decode cX6_copy 35 = .ok (.astore 7, 2) := by decide +kernel
theorem dX6_copy_37 : decode cX6_copy 37 = .ok (.aload 6, 2) := by decide +kernel
theorem dX6_copy_39 : decode cX6_copy 39 = .ok (.invokevirtual 233, 3) := by decide +kernel
theorem dX6_copy_42 : decode cX6_copy 42 = .ok (.ifCond .ne 11, 3) := by decide +kernel
theorem dX6_copy_45 : decode cX6_copy 45 = .ok (.aload 7, 2) := by decide +kernel
theorem dX6_copy_47 : decode cX6_copy 47 = .ok (.invokevirtual 233, 3) := by decide +kernel
theorem dX6_copy_50 : decode cX6_copy 50 = .ok (.ifCond .eq 9, 3) := by decide +kernel
theorem dX6_copy_53 : decode cX6_copy 53 = .ok (.aload_n 0, 1) := by decide +kernel
theorem dX6_copy_54 : decode cX6_copy 54 = .ok (.iconst 1, 1) := by decide +kernel
theorem dX6_copy_55 : decode cX6_copy 55 = .ok (.invokevirtual 226, 3) := by decide +kernel
theorem dX6_copy_58 : decode cX6_copy 58 = .ok (.ireturn, 1) := by decide +kernel
theorem dX6_copy_59 : decode cX6_copy 59 = .ok (.aload 6, 2) := by decide +kernel
theorem dX6_copy_61 : decode cX6_copy 61 = .ok (.getfield 236, 3) := by decide +kernel
theorem dX6_copy_64 : decode cX6_copy 64 = .ok (.aload 7, 2) := by decide +kernel
theorem dX6_copy_66 : decode cX6_copy 66 = .ok (.getfield 236, 3) := by decide +kernel
theorem dX6_copy_69 : decode cX6_copy 69 = .ok (.if_icmp .eq 9, 3) := by decide +kernel
theorem dX6_copy_72 : decode cX6_copy 72 = .ok (.aload_n 0, 1) := by decide +kernel
theorem dX6_copy_73 : decode cX6_copy 73 = .ok (.iconst 2, 1) := by decide +kernel
theorem dX6_copy_74 : decode cX6_copy 74 = .ok (.invokevirtual 226, 3) := by decide +kernel
theorem dX6_copy_77 : decode cX6_copy 77 = .ok (.ireturn, 1) := by decide +kernel
theorem dX6_copy_78 : decode cX6_copy 78 = .ok (.iload 5, 2) := by decide +kernel
theorem dX6_copy_80 : decode cX6_copy 80 = .ok (.ifCond .lt 26, 3) := by decide +kernel
theorem dX6_copy_83 : decode cX6_copy 83 = .ok (.aload 6, 2) := by decide +kernel
theorem dX6_copy_85 : decode cX6_copy 85 = .ok (.iload_n 2, 1) := by decide +kernel
theorem dX6_copy_86 : decode cX6_copy 86 = .ok (.iload 5, 2) := by decide +kernel
theorem dX6_copy_88 : decode cX6_copy 88 = .ok (.invokevirtual 248, 3) := by decide +kernel
theorem dX6_copy_91 : decode cX6_copy 91 = .ok (.ifCond .ne 15, 3) := by decide +kernel
theorem dX6_copy_94 : decode cX6_copy 94 = .ok (.aload 7, 2) := by decide +kernel
theorem dX6_copy_96 : decode cX6_copy 96 = .ok (.iload 4, 2) := by decide +kernel
theorem dX6_copy_98 : decode cX6_copy 98 = .ok (.iload 5, 2) := by decide +kernel
theorem dX6_copy_100 : decode cX6_copy 100 = .ok (.invokevirtual 248, 3) := by decide +kernel
theorem dX6_copy_103 : decode cX6_copy 103 = .ok (.ifCond .eq 9, 3) := by decide +kernel
theorem dX6_copy_106 : decode cX6_copy 106 = .ok (.aload_n 0, 1) := by decide +kernel
theorem dX6_copy_107 : decode cX6_copy 107 = .ok (.iconst 3, 1) := by decide +kernel
theorem dX6_copy_108 : decode cX6_copy 108 = .ok (.invokevirtual 226, 3) := by decide +kernel
theorem dX6_copy_111 : decode cX6_copy 111 = .ok (.ireturn, 1) := by decide +kernel
theorem dX6_copy_112 : decode cX6_copy 112 = .ok (.aload 6, 2) := by decide +kernel
theorem dX6_copy_114 : decode cX6_copy 114 = .ok (.getfield 73, 3) := by decide +kernel
theorem dX6_copy_117 : decode cX6_copy 117 = .ok (.iload_n 2, 1) := by decide +kernel
theorem dX6_copy_118 : decode cX6_copy 118 = .ok (.aload 7, 2) := by decide +kernel
theorem dX6_copy_120 : decode cX6_copy 120 = .ok (.getfield 73, 3) := by decide +kernel
theorem dX6_copy_123 : decode cX6_copy 123 = .ok (.iload 4, 2) := by decide +kernel
theorem dX6_copy_125 : decode cX6_copy 125 = .ok (.iload 5, 2) := by decide +kernel
theorem dX6_copy_127 : decode cX6_copy 127 = .ok (.invokestatic 251, 3) := by decide +kernel
theorem dX6_copy_130 : decode cX6_copy 130 = .ok (.iload 5, 2) := by decide +kernel
theorem dX6_copy_132 : decode cX6_copy 132 = .ok (.ireturn, 1) := by decide +kernel
theorem dX6_tell_0 : decode cX6_tell 0 = .ok (.aload_n 0, 1) := by decide +kernel
theorem dX6_tell_1 : decode cX6_tell 1 = .ok (.iload_n 1, 1) := by decide +kernel
theorem dX6_tell_2 : decode cX6_tell 2 = .ok (.invokevirtual 96, 3) := by decide +kernel
theorem dX6_tell_5 : decode cX6_tell 5 = .ok (.ifCond .eq 5, 3) := by decide +kernel
theorem dX6_tell_8 : decode cX6_tell 8 = .ok (.iconst (-1), 1) := by decide +kernel
theorem dX6_tell_9 : decode cX6_tell 9 = .ok (.ireturn, 1) := by decide +kernel
theorem dX6_tell_10 : decode cX6_tell 10 = .ok (.aload_n 0, 1) := by decide +kernel
theorem dX6_tell_11 : decode cX6_tell 11 = .ok (.getfield 21, 3) := by decide +kernel
theorem dX6_tell_14 : decode cX6_tell 14 = .ok (.getfield 99, 3) := by decide +kernel
theorem dX6_tell_17 : decode cX6_tell 17 = .ok (.iload_n 1, 1) := by decide +kernel
theorem dX6_tell_18 : decode cX6_tell 18 = .ok (.iaload, 1) := by decide +kernel
theorem dX6_tell_19 : decode cX6_tell 19 = .ok (.lookupswitch 37 #[(1, 31), (2, 25)], 25) := by decide +kernel
theorem dX6_tell_44 : decode cX6_tell 44 = .ok (.aload_n 0, 1) := by decide +kernel
theorem dX6_tell_45 : decode cX6_tell 45 = .ok (.iload_n 1, 1) := by decide +kernel
theorem dX6_tell_46 : decode cX6_tell 46 = .ok (.invokevirtual 257, 3) := by decide +kernel
theorem dX6_tell_49 : decode cX6_tell 49 = .ok (.ireturn, 1) := by decide +kernel
theorem dX6_tell_50 : decode cX6_tell 50 = .ok (.aload_n 0, 1) := by decide +kernel
theorem dX6_tell_51 : decode cX6_tell 51 = .ok (.iload_n 1, 1) := by decide +kernel
theorem dX6_tell_52 : decode cX6_tell 52 = .ok (.invokevirtual 260, 3) := by decide +kernel
theorem dX6_tell_55 : decode cX6_tell 55 = .ok (.ireturn, 1) := by decide +kernel
theorem dX6_tell_56 : decode cX6_tell 56 = .ok (.aload_n 0, 1) := by decide +kernel
theorem dX6_tell_57 : decode cX6_tell 57 = .ok (.iload_n 1, 1) := by decide +kernel
theorem dX6_tell_58 : decode cX6_tell 58 = .ok (.invokevirtual 263, 3) := by decide +kernel
theorem dX6_tell_61 : decode cX6_tell 61 = .ok (.ireturn, 1) := by decide +kernel
theorem dX6_tellPassenger_0 : decode cX6_tellPassenger 0 = .ok (.aload_n 0, 1) := by decide +kernel
theorem dX6_tellPassenger_1 : decode cX6_tellPassenger 1 = .ok (.iconst 1, 1) := by decide +kernel
theorem dX6_tellPassenger_2 : decode cX6_tellPassenger 2 = .ok (.invokevirtual 266, 3) := by decide +kernel
theorem dX6_tellPassenger_5 : decode cX6_tellPassenger 5 = .ok (.aload_n 0, 1) := by decide +kernel
theorem dX6_tellPassenger_6 : decode cX6_tellPassenger 6 = .ok (.getfield 21, 3) := by decide +kernel
theorem dX6_tellPassenger_9 : decode cX6_tellPassenger 9 = .ok (.getfield 105, 3) := by decide +kernel
theorem dX6_tellPassenger_12 : decode cX6_tellPassenger 12 = .ok (.iload_n 1, 1) := by decide +kernel
theorem dX6_tellPassenger_13 : decode cX6_tellPassenger 13 = .ok (.iaload, 1) := by decide +kernel
theorem dX6_tellPassenger_14 : decode cX6_tellPassenger 14 = .ok (.ireturn, 1) := by decide +kernel
theorem dX6_tellWidow_0 : decode cX6_tellWidow 0 = .ok (.aload_n 0, 1) := by decide +kernel
theorem dX6_tellWidow_1 : decode cX6_tellWidow 1 = .ok (.iconst 2, 1) := by decide +kernel
theorem dX6_tellWidow_2 : decode cX6_tellWidow 2 = .ok (.invokevirtual 266, 3) := by decide +kernel
theorem dX6_tellWidow_5 : decode cX6_tellWidow 5 = .ok (.aload_n 0, 1) := by decide +kernel
theorem dX6_tellWidow_6 : decode cX6_tellWidow 6 = .ok (.iload_n 1, 1) := by decide +kernel
theorem dX6_tellWidow_7 : decode cX6_tellWidow 7 = .ok (.invokevirtual 263, 3) := by decide +kernel
theorem dX6_tellWidow_10 : decode cX6_tellWidow 10 = .ok (.bipush 100, 2) := by decide +kernel
theorem dX6_tellWidow_12 : decode cX6_tellWidow 12 = .ok (.iadd, 1) := by decide +kernel
theorem dX6_tellWidow_13 : decode cX6_tellWidow 13 = .ok (.ireturn, 1) := by decide +kernel
theorem dX6_tellHoneymooner_0 : decode cX6_tellHoneymooner 0 = .ok (.aload_n 0, 1) := by decide +kernel
theorem dX6_tellHoneymooner_1 : decode cX6_tellHoneymooner 1 = .ok (.iconst 3, 1) := by decide +kernel
theorem dX6_tellHoneymooner_2 : decode cX6_tellHoneymooner 2 = .ok (.invokevirtual 266, 3) := by decide +kernel
theorem dX6_tellHoneymooner_5 : decode cX6_tellHoneymooner 5 = .ok (.aload_n 0, 1) := by decide +kernel
theorem dX6_tellHoneymooner_6 : decode cX6_tellHoneymooner 6 = .ok (.iload_n 1, 1) := by decide +kernel
theorem dX6_tellHoneymooner_7 : decode cX6_tellHoneymooner 7 = .ok (.invokevirtual 260, 3) := by decide +kernel
theorem dX6_tellHoneymooner_10 : decode cX6_tellHoneymooner 10 = .ok (.istore_n 2, 1) := by decide +kernel
theorem dX6_tellHoneymooner_11 : decode cX6_tellHoneymooner 11 = .ok (.iload_n 2, 1) := by decide +kernel
theorem dX6_tellHoneymooner_12 : decode cX6_tellHoneymooner 12 = .ok (.aload_n 0, 1) := by decide +kernel
theorem dX6_tellHoneymooner_13 : decode cX6_tellHoneymooner 13 = .ok (.iload_n 1, 1) := by decide +kernel
theorem dX6_tellHoneymooner_14 : decode cX6_tellHoneymooner 14 = .ok (.invokevirtual 263, 3) := by decide +kernel
theorem dX6_tellHoneymooner_17 : decode cX6_tellHoneymooner 17 = .ok (.iadd, 1) := by decide +kernel
theorem dX6_tellHoneymooner_18 : decode cX6_tellHoneymooner 18 = .ok (.ireturn, 1) := by decide +kernel
theorem dX6_call_0 : decode cX6_call 0 = .ok (.aload_n 0, 1) := by decide +kernel
theorem dX6_call_1 : decode cX6_call 1 = .ok (.iload_n 1, 1) := by decide +kernel
theorem dX6_call_2 : decode cX6_call 2 = .ok (.invokevirtual 96, 3) := by decide +kernel
theorem dX6_call_5 : decode cX6_call 5 = .ok (.ifCond .eq 5, 3) := by decide +kernel
theorem dX6_call_8 : decode cX6_call 8 = .ok (.iconst (-1), 1) := by decide +kernel
theorem dX6_call_9 : decode cX6_call 9 = .ok (.ireturn, 1) := by decide +kernel
theorem dX6_call_10 : decode cX6_call 10 = .ok (.aload_n 0, 1) := by decide +kernel
theorem dX6_call_11 : decode cX6_call 11 = .ok (.getfield 21, 3) := by decide +kernel
theorem dX6_call_14 : decode cX6_call 14 = .ok (.getfield 99, 3) := by decide +kernel
theorem dX6_call_17 : decode cX6_call 17 = .ok (.iload_n 1, 1) := by decide +kernel
theorem dX6_call_18 : decode cX6_call 18 = .ok (.iaload, 1) := by decide +kernel
theorem dX6_call_19 : decode cX6_call 19 = .ok (.iconst 2, 1) := by decide +kernel
theorem dX6_call_20 : decode cX6_call 20 = .ok (.if_icmp .ne 11, 3) := by decide +kernel
theorem dX6_call_23 : decode cX6_call 23 = .ok (.aload_n 0, 1) := by decide +kernel
theorem dX6_call_24 : decode cX6_call 24 = .ok (.iconst 5, 1) := by decide +kernel
theorem dX6_call_25 : decode cX6_call 25 = .ok (.invokevirtual 266, 3) := by decide +kernel
theorem dX6_call_28 : decode cX6_call 28 = .ok (.bipush 60, 2) := by decide +kernel
theorem dX6_call_30 : decode cX6_call 30 = .ok (.ireturn, 1) := by decide +kernel
theorem dX6_call_31 : decode cX6_call 31 = .ok (.aload_n 0, 1) := by decide +kernel
theorem dX6_call_32 : decode cX6_call 32 = .ok (.iconst 4, 1) := by decide +kernel
theorem dX6_call_33 : decode cX6_call 33 = .ok (.invokevirtual 266, 3) := by decide +kernel
theorem dX6_call_36 : decode cX6_call 36 = .ok (.iload_n 1, 1) := by decide +kernel
theorem dX6_call_37 : decode cX6_call 37 = .ok (.ireturn, 1) := by decide +kernel
theorem dX6_leaveTrace_0 : decode cX6_leaveTrace 0 = .ok (.aload_n 0, 1) := by decide +kernel
theorem dX6_leaveTrace_1 : decode cX6_leaveTrace 1 = .ok (.bipush 31, 2) := by decide +kernel
theorem dX6_leaveTrace_3 : decode cX6_leaveTrace 3 = .ok (.aload_n 0, 1) := by decide +kernel
theorem dX6_leaveTrace_4 : decode cX6_leaveTrace 4 = .ok (.getfield 55, 3) := by decide +kernel
theorem dX6_leaveTrace_7 : decode cX6_leaveTrace 7 = .ok (.imul, 1) := by decide +kernel
theorem dX6_leaveTrace_8 : decode cX6_leaveTrace 8 = .ok (.iload_n 1, 1) := by decide +kernel
theorem dX6_leaveTrace_9 : decode cX6_leaveTrace 9 = .ok (.iadd, 1) := by decide +kernel
theorem dX6_leaveTrace_10 : decode cX6_leaveTrace 10 = .ok (.putfield 55, 3) := by decide +kernel
theorem dX6_leaveTrace_13 : decode cX6_leaveTrace 13 = .ok (.return_, 1) := by decide +kernel
theorem dX6_as_0 : decode cX6_as 0 = .ok (.aload_n 0, 1) := by decide +kernel
theorem dX6_as_1 : decode cX6_as 1 = .ok (.iconst 0, 1) := by decide +kernel
theorem dX6_as_2 : decode cX6_as 2 = .ok (.putfield 59, 3) := by decide +kernel
theorem dX6_as_5 : decode cX6_as 5 = .ok (.aload_n 0, 1) := by decide +kernel
theorem dX6_as_6 : decode cX6_as 6 = .ok (.iload_n 1, 1) := by decide +kernel
theorem dX6_as_7 : decode cX6_as 7 = .ok (.invokevirtual 96, 3) := by decide +kernel
theorem dX6_as_10 : decode cX6_as 10 = .ok (.ifCond .eq 5, 3) := by decide +kernel
theorem dX6_as_13 : decode cX6_as 13 = .ok (.iconst (-1), 1) := by decide +kernel
theorem dX6_as_14 : decode cX6_as 14 = .ok (.ireturn, 1) := by decide +kernel
theorem dX6_as_15 : decode cX6_as 15 = .ok (.iload_n 2, 1) := by decide +kernel
theorem dX6_as_16 : decode cX6_as 16 = .ok (.ifCond .lt 8, 3) := by decide +kernel
theorem dX6_as_19 : decode cX6_as 19 = .ok (.iload_n 2, 1) := by decide +kernel
theorem dX6_as_20 : decode cX6_as 20 = .ok (.iconst 3, 1) := by decide +kernel
theorem dX6_as_21 : decode cX6_as 21 = .ok (.if_icmp .lt 6, 3) := by decide +kernel
theorem dX6_as_24 : decode cX6_as 24 = .ok (.bipush (-2), 2) := by decide +kernel
theorem dX6_as_26 : decode cX6_as 26 = .ok (.ireturn, 1) := by decide +kernel
theorem dX6_as_27 : decode cX6_as 27 = .ok (.aload_n 0, 1) := by decide +kernel
theorem dX6_as_28 : decode cX6_as 28 = .ok (.getfield 21, 3) := by decide +kernel
theorem dX6_as_31 : decode cX6_as 31 = .ok (.getfield 99, 3) := by decide +kernel
theorem dX6_as_34 : decode cX6_as 34 = .ok (.iload_n 1, 1) := by decide +kernel
theorem dX6_as_35 : decode cX6_as 35 = .ok (.iaload, 1) := by decide +kernel
theorem dX6_as_36 : decode cX6_as 36 = .ok (.iload_n 2, 1) := by decide +kernel
theorem dX6_as_37 : decode cX6_as 37 = .ok (.if_icmp .ge 11, 3) := by decide +kernel
theorem dX6_as_40 : decode cX6_as 40 = .ok (.aload_n 0, 1) := by decide +kernel
theorem dX6_as_41 : decode cX6_as 41 = .ok (.iconst 2, 1) := by decide +kernel
theorem dX6_as_42 : decode cX6_as 42 = .ok (.invokevirtual 226, 3) := by decide +kernel
theorem dX6_as_45 : decode cX6_as 45 = .ok (.goto 4, 3) := by decide +kernel
theorem dX6_as_48 : decode cX6_as 48 = .ok (.iconst 1, 1) := by decide +kernel
theorem dX6_as_49 : decode cX6_as 49 = .ok (.ireturn, 1) := by decide +kernel
theorem dX6_trace_0 : decode cX6_trace 0 = .ok (.aload_n 0, 1) := by decide +kernel
theorem dX6_trace_1 : decode cX6_trace 1 = .ok (.getfield 55, 3) := by decide +kernel
theorem dX6_trace_4 : decode cX6_trace 4 = .ok (.ireturn, 1) := by decide +kernel
theorem dX6_fault_0 : decode cX6_fault 0 = .ok (.aload_n 0, 1) := by decide +kernel
theorem dX6_fault_1 : decode cX6_fault 1 = .ok (.getfield 59, 3) := by decide +kernel
theorem dX6_fault_4 : decode cX6_fault 4 = .ok (.ireturn, 1) := by decide +kernel
theorem dX6_many_0 : decode cX6_many 0 = .ok (.iload_n 1, 1) := by decide +kernel
theorem dX6_many_1 : decode cX6_many 1 = .ok (.tableswitch 51 0 2 #[27, 35, 43], 27) := by decide +kernel
theorem dX6_many_28 : decode cX6_many 28 = .ok (.aload_n 0, 1) := by decide +kernel
theorem dX6_many_29 : decode cX6_many 29 = .ok (.getfield 21, 3) := by decide +kernel
theorem dX6_many_32 : decode cX6_many 32 = .ok (.getfield 93, 3) := by decide +kernel
theorem dX6_many_35 : decode cX6_many 35 = .ok (.ireturn, 1) := by decide +kernel
theorem dX6_many_36 : decode cX6_many 36 = .ok (.aload_n 0, 1) := by decide +kernel
theorem dX6_many_37 : decode cX6_many 37 = .ok (.getfield 21, 3) := by decide +kernel
theorem dX6_many_40 : decode cX6_many 40 = .ok (.getfield 154, 3) := by decide +kernel
theorem dX6_many_43 : decode cX6_many 43 = .ok (.ireturn, 1) := by decide +kernel
theorem dX6_many_44 : decode cX6_many 44 = .ok (.aload_n 0, 1) := by decide +kernel
theorem dX6_many_45 : decode cX6_many 45 = .ok (.getfield 31, 3) := by decide +kernel
theorem dX6_many_48 : decode cX6_many 48 = .ok (.getfield 87, 3) := by decide +kernel
theorem dX6_many_51 : decode cX6_many 51 = .ok (.ireturn, 1) := by decide +kernel
theorem dX6_many_52 : decode cX6_many 52 = .ok (.bipush (-2), 2) := by decide +kernel
theorem dX6_many_54 : decode cX6_many 54 = .ok (.ireturn, 1) := by decide +kernel
theorem dX6_comeTo_0 : decode cX6_comeTo 0 = .ok (.aload_n 0, 1) := by decide +kernel
theorem dX6_comeTo_1 : decode cX6_comeTo 1 = .ok (.iload_n 1, 1) := by decide +kernel
theorem dX6_comeTo_2 : decode cX6_comeTo 2 = .ok (.putfield 59, 3) := by decide +kernel
theorem dX6_comeTo_5 : decode cX6_comeTo 5 = .ok (.bipush (-10), 2) := by decide +kernel
theorem dX6_comeTo_7 : decode cX6_comeTo 7 = .ok (.iload_n 1, 1) := by decide +kernel
theorem dX6_comeTo_8 : decode cX6_comeTo 8 = .ok (.isub, 1) := by decide +kernel
theorem dX6_comeTo_9 : decode cX6_comeTo 9 = .ok (.ireturn, 1) := by decide +kernel
theorem dX6_rideAnew_0 : decode cX6_rideAnew 0 = .ok (.aload_n 0, 1) := by decide +kernel
theorem dX6_rideAnew_1 : decode cX6_rideAnew 1 = .ok (.getfield 21, 3) := by decide +kernel
theorem dX6_rideAnew_4 : decode cX6_rideAnew 4 = .ok (.invokevirtual 211, 3) := by decide +kernel
theorem dX6_rideAnew_7 : decode cX6_rideAnew 7 = .ok (.aload_n 0, 1) := by decide +kernel
theorem dX6_rideAnew_8 : decode cX6_rideAnew 8 = .ok (.iconst 0, 1) := by decide +kernel
theorem dX6_rideAnew_9 : decode cX6_rideAnew 9 = .ok (.putfield 51, 3) := by decide +kernel
theorem dX6_rideAnew_12 : decode cX6_rideAnew 12 = .ok (.return_, 1) := by decide +kernel
theorem dX6_noLine_0 : decode cX6_noLine 0 = .ok (.aload_n 0, 1) := by decide +kernel
theorem dX6_noLine_1 : decode cX6_noLine 1 = .ok (.getfield 21, 3) := by decide +kernel
theorem dX6_noLine_4 : decode cX6_noLine 4 = .ok (.getfield 154, 3) := by decide +kernel
theorem dX6_noLine_7 : decode cX6_noLine 7 = .ok (.ifCond .ne 7, 3) := by decide +kernel
theorem dX6_noLine_10 : decode cX6_noLine 10 = .ok (.iconst 1, 1) := by decide +kernel
theorem dX6_noLine_11 : decode cX6_noLine 11 = .ok (.goto 4, 3) := by decide +kernel
theorem dX6_noLine_14 : decode cX6_noLine 14 = .ok (.iconst 0, 1) := by decide +kernel
theorem dX6_noLine_15 : decode cX6_noLine 15 = .ok (.ireturn, 1) := by decide +kernel
theorem dX6_noPassenger_0 : decode cX6_noPassenger 0 = .ok (.iload_n 1, 1) := by decide +kernel
theorem dX6_noPassenger_1 : decode cX6_noPassenger 1 = .ok (.ifCond .lt 14, 3) := by decide +kernel
theorem dX6_noPassenger_4 : decode cX6_noPassenger 4 = .ok (.iload_n 1, 1) := by decide +kernel
theorem dX6_noPassenger_5 : decode cX6_noPassenger 5 = .ok (.aload_n 0, 1) := by decide +kernel
theorem dX6_noPassenger_6 : decode cX6_noPassenger 6 = .ok (.getfield 21, 3) := by decide +kernel
theorem dX6_noPassenger_9 : decode cX6_noPassenger 9 = .ok (.getfield 93, 3) := by decide +kernel
theorem dX6_noPassenger_12 : decode cX6_noPassenger 12 = .ok (.if_icmp .lt 7, 3) := by decide +kernel
theorem dX6_noPassenger_15 : decode cX6_noPassenger 15 = .ok (.iconst 1, 1) := by decide +kernel
theorem dX6_noPassenger_16 : decode cX6_noPassenger 16 = .ok (.goto 4, 3) := by decide +kernel
theorem dX6_noPassenger_19 : decode cX6_noPassenger 19 = .ok (.iconst 0, 1) := by decide +kernel
theorem dX6_noPassenger_20 : decode cX6_noPassenger 20 = .ok (.ireturn, 1) := by decide +kernel
theorem dX6_noPair_0 : decode cX6_noPair 0 = .ok (.aload_n 0, 1) := by decide +kernel
theorem dX6_noPair_1 : decode cX6_noPair 1 = .ok (.iload_n 1, 1) := by decide +kernel
theorem dX6_noPair_2 : decode cX6_noPair 2 = .ok (.invokevirtual 96, 3) := by decide +kernel
theorem dX6_noPair_5 : decode cX6_noPair 5 = .ok (.ifCond .ne 16, 3) := by decide +kernel
theorem dX6_noPair_8 : decode cX6_noPair 8 = .ok (.aload_n 0, 1) := by decide +kernel
theorem dX6_noPair_9 : decode cX6_noPair 9 = .ok (.iload_n 2, 1) := by decide +kernel
theorem dX6_noPair_10 : decode cX6_noPair 10 = .ok (.invokevirtual 96, 3) := by decide +kernel
theorem dX6_noPair_13 : decode cX6_noPair 13 = .ok (.ifCond .ne 8, 3) := by decide +kernel
theorem dX6_noPair_16 : decode cX6_noPair 16 = .ok (.iload_n 1, 1) := by decide +kernel
theorem dX6_noPair_17 : decode cX6_noPair 17 = .ok (.iload_n 2, 1) := by decide +kernel
theorem dX6_noPair_18 : decode cX6_noPair 18 = .ok (.if_icmp .ne 7, 3) := by decide +kernel
theorem dX6_noPair_21 : decode cX6_noPair 21 = .ok (.iconst 1, 1) := by decide +kernel
theorem dX6_noPair_22 : decode cX6_noPair 22 = .ok (.goto 4, 3) := by decide +kernel
theorem dX6_noPair_25 : decode cX6_noPair 25 = .ok (.iconst 0, 1) := by decide +kernel
theorem dX6_noPair_26 : decode cX6_noPair 26 = .ok (.ireturn, 1) := by decide +kernel
theorem dX6_noMile_0 : decode cX6_noMile 0 = .ok (.iload_n 1, 1) := by decide +kernel
theorem dX6_noMile_1 : decode cX6_noMile 1 = .ok (.ifCond .lt 14, 3) := by decide +kernel
theorem dX6_noMile_4 : decode cX6_noMile 4 = .ok (.iload_n 1, 1) := by decide +kernel
theorem dX6_noMile_5 : decode cX6_noMile 5 = .ok (.aload_n 0, 1) := by decide +kernel
theorem dX6_noMile_6 : decode cX6_noMile 6 = .ok (.getfield 21, 3) := by decide +kernel
theorem dX6_noMile_9 : decode cX6_noMile 9 = .ok (.getfield 154, 3) := by decide +kernel
theorem dX6_noMile_12 : decode cX6_noMile 12 = .ok (.if_icmp .lt 7, 3) := by decide +kernel
theorem dX6_noMile_15 : decode cX6_noMile 15 = .ok (.iconst 1, 1) := by decide +kernel
theorem dX6_noMile_16 : decode cX6_noMile 16 = .ok (.goto 4, 3) := by decide +kernel
theorem dX6_noMile_19 : decode cX6_noMile 19 = .ok (.iconst 0, 1) := by decide +kernel
theorem dX6_noMile_20 : decode cX6_noMile 20 = .ok (.ireturn, 1) := by decide +kernel
theorem dX6_noMileNorEnd_0 : decode cX6_noMileNorEnd 0 = .ok (.iload_n 1, 1) := by decide +kernel
theorem dX6_noMileNorEnd_1 : decode cX6_noMileNorEnd 1 = .ok (.ifCond .lt 14, 3) := by decide +kernel
theorem dX6_noMileNorEnd_4 : decode cX6_noMileNorEnd 4 = .ok (.iload_n 1, 1) := by decide +kernel
theorem dX6_noMileNorEnd_5 : decode cX6_noMileNorEnd 5 = .ok (.aload_n 0, 1) := by decide +kernel
theorem dX6_noMileNorEnd_6 : decode cX6_noMileNorEnd 6 = .ok (.getfield 21, 3) := by decide +kernel
theorem dX6_noMileNorEnd_9 : decode cX6_noMileNorEnd 9 = .ok (.getfield 154, 3) := by decide +kernel
theorem dX6_noMileNorEnd_12 : decode cX6_noMileNorEnd 12 = .ok (.if_icmp .le 7, 3) := by decide +kernel
theorem dX6_noMileNorEnd_15 : decode cX6_noMileNorEnd 15 = .ok (.iconst 1, 1) := by decide +kernel
theorem dX6_noMileNorEnd_16 : decode cX6_noMileNorEnd 16 = .ok (.goto 4, 3) := by decide +kernel
theorem dX6_noMileNorEnd_19 : decode cX6_noMileNorEnd 19 = .ok (.iconst 0, 1) := by decide +kernel
theorem dX6_noMileNorEnd_20 : decode cX6_noMileNorEnd 20 = .ok (.ireturn, 1) := by decide +kernel
theorem dX6_noClass_0 : decode cX6_noClass 0 = .ok (.iload_n 0, 1) := by decide +kernel
theorem dX6_noClass_1 : decode cX6_noClass 1 = .ok (.ifCond .lt 8, 3) := by decide +kernel
theorem dX6_noClass_4 : decode cX6_noClass 4 = .ok (.iload_n 0, 1) := by decide +kernel
theorem dX6_noClass_5 : decode cX6_noClass 5 = .ok (.iconst 3, 1) := by decide +kernel
theorem dX6_noClass_6 : decode cX6_noClass 6 = .ok (.if_icmp .lt 7, 3) := by decide +kernel
theorem dX6_noClass_9 : decode cX6_noClass 9 = .ok (.iconst 1, 1) := by decide +kernel
theorem dX6_noClass_10 : decode cX6_noClass 10 = .ok (.goto 4, 3) := by decide +kernel
theorem dX6_noClass_13 : decode cX6_noClass 13 = .ok (.iconst 0, 1) := by decide +kernel
theorem dX6_noClass_14 : decode cX6_noClass 14 = .ok (.ireturn, 1) := by decide +kernel
theorem dX6_noSheet_0 : decode cX6_noSheet 0 = .ok (.iload_n 0, 1) := by decide +kernel
theorem dX6_noSheet_1 : decode cX6_noSheet 1 = .ok (.ifCond .lt 8, 3) := by decide +kernel
theorem dX6_noSheet_4 : decode cX6_noSheet 4 = .ok (.iload_n 0, 1) := by decide +kernel
theorem dX6_noSheet_5 : decode cX6_noSheet 5 = .ok (.iconst 4, 1) := by decide +kernel
theorem dX6_noSheet_6 : decode cX6_noSheet 6 = .ok (.if_icmp .lt 7, 3) := by decide +kernel
theorem dX6_noSheet_9 : decode cX6_noSheet 9 = .ok (.iconst 1, 1) := by decide +kernel
theorem dX6_noSheet_10 : decode cX6_noSheet 10 = .ok (.goto 4, 3) := by decide +kernel
theorem dX6_noSheet_13 : decode cX6_noSheet 13 = .ok (.iconst 0, 1) := by decide +kernel
theorem dX6_noSheet_14 : decode cX6_noSheet 14 = .ok (.ireturn, 1) := by decide +kernel
theorem dX6_noLane_0 : decode cX6_noLane 0 = .ok (.iload_n 0, 1) := by decide +kernel
theorem dX6_noLane_1 : decode cX6_noLane 1 = .ok (.ifCond .lt 8, 3) := by decide +kernel
theorem dX6_noLane_4 : decode cX6_noLane 4 = .ok (.iload_n 0, 1) := by decide +kernel
theorem dX6_noLane_5 : decode cX6_noLane 5 = .ok (.iconst 3, 1) := by decide +kernel
theorem dX6_noLane_6 : decode cX6_noLane 6 = .ok (.if_icmp .lt 7, 3) := by decide +kernel
theorem dX6_noLane_9 : decode cX6_noLane 9 = .ok (.iconst 1, 1) := by decide +kernel
theorem dX6_noLane_10 : decode cX6_noLane 10 = .ok (.goto 4, 3) := by decide +kernel
theorem dX6_noLane_13 : decode cX6_noLane 13 = .ok (.iconst 0, 1) := by decide +kernel
theorem dX6_noLane_14 : decode cX6_noLane 14 = .ok (.ireturn, 1) := by decide +kernel
theorem dX7_init_0 : decode cX7_init 0 = .ok (.aload_n 0, 1) := by decide +kernel
theorem dX7_init_1 : decode cX7_init 1 = .ok (.invokespecial 1, 3) := by decide +kernel
theorem dX7_init_4 : decode cX7_init 4 = .ok (.aload_n 0, 1) := by decide +kernel
theorem dX7_init_5 : decode cX7_init 5 = .ok (.iconst 4, 1) := by decide +kernel
theorem dX7_init_6 : decode cX7_init 6 = .ok (.newarray .int, 2) := by decide +kernel
theorem dX7_init_8 : decode cX7_init 8 = .ok (.dup, 1) := by decide +kernel
theorem dX7_init_9 : decode cX7_init 9 = .ok (.iconst 0, 1) := by decide +kernel
theorem dX7_init_10 : decode cX7_init 10 = .ok (.bipush (-9), 2) := by decide +kernel
theorem dX7_init_12 : decode cX7_init 12 = .ok (.iastore, 1) := by decide +kernel
theorem dX7_init_13 : decode cX7_init 13 = .ok (.dup, 1) := by decide +kernel
theorem dX7_init_14 : decode cX7_init 14 = .ok (.iconst 1, 1) := by decide +kernel
theorem dX7_init_15 : decode cX7_init 15 = .ok (.bipush (-9), 2) := by decide +kernel
theorem dX7_init_17 : decode cX7_init 17 = .ok (.iastore, 1) := by decide +kernel
theorem dX7_init_18 : decode cX7_init 18 = .ok (.dup, 1) := by decide +kernel
theorem dX7_init_19 : decode cX7_init 19 = .ok (.iconst 2, 1) := by decide +kernel
theorem dX7_init_20 : decode cX7_init 20 = .ok (.bipush (-9), 2) := by decide +kernel
theorem dX7_init_22 : decode cX7_init 22 = .ok (.iastore, 1) := by decide +kernel
theorem dX7_init_23 : decode cX7_init 23 = .ok (.dup, 1) := by decide +kernel
theorem dX7_init_24 : decode cX7_init 24 = .ok (.iconst 3, 1) := by decide +kernel
theorem dX7_init_25 : decode cX7_init 25 = .ok (.bipush (-9), 2) := by decide +kernel
theorem dX7_init_27 : decode cX7_init 27 = .ok (.iastore, 1) := by decide +kernel
theorem dX7_init_28 : decode cX7_init 28 = .ok (.putfield 9, 3) := by decide +kernel
theorem dX7_init_31 : decode cX7_init 31 = .ok (.aload_n 0, 1) := by decide +kernel
theorem dX7_init_32 : decode cX7_init 32 = .ok (.iconst 4, 1) := by decide +kernel
theorem dX7_init_33 : decode cX7_init 33 = .ok (.newarray .int, 2) := by decide +kernel
theorem dX7_init_35 : decode cX7_init 35 = .ok (.putfield 13, 3) := by decide +kernel
theorem dX7_init_38 : decode cX7_init 38 = .ok (.aload_n 0, 1) := by decide +kernel
theorem dX7_init_39 : decode cX7_init 39 = .ok (.sipush 240, 3) := by decide +kernel
theorem dX7_init_42 : decode cX7_init 42 = .ok (.newarray .int, 2) := by decide +kernel
theorem dX7_init_44 : decode cX7_init 44 = .ok (.putfield 16, 3) := by decide +kernel
theorem dX7_init_47 : decode cX7_init 47 = .ok (.aload_n 0, 1) := by decide +kernel
theorem dX7_init_48 : decode cX7_init 48 = .ok (.iconst 3, 1) := by decide +kernel
theorem dX7_init_49 : decode cX7_init 49 = .ok (.newarray .int, 2) := by decide +kernel
theorem dX7_init_51 : decode cX7_init 51 = .ok (.putfield 19, 3) := by decide +kernel
theorem dX7_init_54 : decode cX7_init 54 = .ok (.aload_n 0, 1) := by decide +kernel
theorem dX7_init_55 : decode cX7_init 55 = .ok (.bipush 8, 2) := by decide +kernel
theorem dX7_init_57 : decode cX7_init 57 = .ok (.newarray .boolean, 2) := by decide +kernel
theorem dX7_init_59 : decode cX7_init 59 = .ok (.putfield 22, 3) := by decide +kernel
theorem dX7_init_62 : decode cX7_init 62 = .ok (.aload_n 0, 1) := by decide +kernel
theorem dX7_init_63 : decode cX7_init 63 = .ok (.bipush 8, 2) := by decide +kernel
theorem dX7_init_65 : decode cX7_init 65 = .ok (.newarray .int, 2) := by decide +kernel
theorem dX7_init_67 : decode cX7_init 67 = .ok (.putfield 26, 3) := by decide +kernel
theorem dX7_init_70 : decode cX7_init 70 = .ok (.aload_n 0, 1) := by decide +kernel
theorem dX7_init_71 : decode cX7_init 71 = .ok (.bipush 8, 2) := by decide +kernel
theorem dX7_init_73 : decode cX7_init 73 = .ok (.newarray .int, 2) := by decide +kernel
theorem dX7_init_75 : decode cX7_init 75 = .ok (.putfield 29, 3) := by decide +kernel
theorem dX7_init_78 : decode cX7_init 78 = .ok (.aload_n 0, 1) := by decide +kernel
theorem dX7_init_79 : decode cX7_init 79 = .ok (.iconst 4, 1) := by decide +kernel
theorem dX7_init_80 : decode cX7_init 80 = .ok (.newarray .int, 2) := by decide +kernel
theorem dX7_init_82 : decode cX7_init 82 = .ok (.putfield 32, 3) := by decide +kernel
theorem dX7_init_85 : decode cX7_init 85 = .ok (.aload_n 0, 1) := by decide +kernel
theorem dX7_init_86 : decode cX7_init 86 = .ok (.iconst 4, 1) := by decide +kernel
theorem dX7_init_87 : decode cX7_init 87 = .ok (.newarray .int, 2) := by decide +kernel
theorem dX7_init_89 : decode cX7_init 89 = .ok (.putfield 35, 3) := by decide +kernel
theorem dX7_init_92 : decode cX7_init 92 = .ok (.aload_n 0, 1) := by decide +kernel
theorem dX7_init_93 : decode cX7_init 93 = .ok (.iconst 4, 1) := by decide +kernel
theorem dX7_init_94 : decode cX7_init 94 = .ok (.newarray .int, 2) := by decide +kernel
theorem dX7_init_96 : decode cX7_init 96 = .ok (.putfield 38, 3) := by decide +kernel
theorem dX7_init_99 : decode cX7_init 99 = .ok (.aload_n 0, 1) := by decide +kernel
theorem dX7_init_100 : decode cX7_init 100 = .ok (.iconst 3, 1) := by decide +kernel
theorem dX7_init_101 : decode cX7_init 101 = .ok (.newarray .int, 2) := by decide +kernel
theorem dX7_init_103 : decode cX7_init 103 = .ok (.putfield 41, 3) := by decide +kernel
theorem dX7_init_106 : decode cX7_init 106 = .ok (.aload_n 0, 1) := by decide +kernel
theorem dX7_init_107 : decode cX7_init 107 = .ok (.bipush 8, 2) := by decide +kernel
theorem dX7_init_109 : decode cX7_init 109 = .ok (.newarray .boolean, 2) := by decide +kernel
theorem dX7_init_111 : decode cX7_init 111 = .ok (.putfield 44, 3) := by decide +kernel
theorem dX7_init_114 : decode cX7_init 114 = .ok (.aload_n 0, 1) := by decide +kernel
theorem dX7_init_115 : decode cX7_init 115 = .ok (.bipush 12, 2) := by decide +kernel
theorem dX7_init_117 : decode cX7_init 117 = .ok (.newarray .int, 2) := by decide +kernel
theorem dX7_init_119 : decode cX7_init 119 = .ok (.putfield 47, 3) := by decide +kernel
theorem dX7_init_122 : decode cX7_init 122 = .ok (.aload_n 0, 1) := by decide +kernel
theorem dX7_init_123 : decode cX7_init 123 = .ok (.iconst 4, 1) := by decide +kernel
theorem dX7_init_124 : decode cX7_init 124 = .ok (.newarray .int, 2) := by decide +kernel
theorem dX7_init_126 : decode cX7_init 126 = .ok (.putfield 50, 3) := by decide +kernel
theorem dX7_init_129 : decode cX7_init 129 = .ok (.aload_n 0, 1) := by decide +kernel
theorem dX7_init_130 : decode cX7_init 130 = .ok (.bipush 32, 2) := by decide +kernel
theorem dX7_init_132 : decode cX7_init 132 = .ok (.newarray .int, 2) := by decide +kernel
theorem dX7_init_134 : decode cX7_init 134 = .ok (.putfield 53, 3) := by decide +kernel
theorem dX7_init_137 : decode cX7_init 137 = .ok (.aload_n 0, 1) := by decide +kernel
theorem dX7_init_138 : decode cX7_init 138 = .ok (.sipush 729, 3) := by decide +kernel
theorem dX7_init_141 : decode cX7_init 141 = .ok (.newarray .int, 2) := by decide +kernel
theorem dX7_init_143 : decode cX7_init 143 = .ok (.putfield 56, 3) := by decide +kernel
theorem dX7_init_146 : decode cX7_init 146 = .ok (.aload_n 0, 1) := by decide +kernel
theorem dX7_init_147 : decode cX7_init 147 = .ok (.iconst 4, 1) := by decide +kernel
theorem dX7_init_148 : decode cX7_init 148 = .ok (.newarray .int, 2) := by decide +kernel
theorem dX7_init_150 : decode cX7_init 150 = .ok (.putfield 59, 3) := by decide +kernel
theorem dX7_init_153 : decode cX7_init 153 = .ok (.aload_n 0, 1) := by decide +kernel
theorem dX7_init_154 : decode cX7_init 154 = .ok (.bipush 8, 2) := by decide +kernel
theorem dX7_init_156 : decode cX7_init 156 = .ok (.newarray .int, 2) := by decide +kernel
theorem dX7_init_158 : decode cX7_init 158 = .ok (.putfield 62, 3) := by decide +kernel
theorem dX7_init_161 : decode cX7_init 161 = .ok (.aload_n 0, 1) := by decide +kernel
theorem dX7_init_162 : decode cX7_init 162 = .ok (.bipush 8, 2) := by decide +kernel
theorem dX7_init_164 : decode cX7_init 164 = .ok (.newarray .int, 2) := by decide +kernel
theorem dX7_init_166 : decode cX7_init 166 = .ok (.putfield 65, 3) := by decide +kernel
theorem dX7_init_169 : decode cX7_init 169 = .ok (.aload_n 0, 1) := by decide +kernel
theorem dX7_init_170 : decode cX7_init 170 = .ok (.bipush 8, 2) := by decide +kernel
theorem dX7_init_172 : decode cX7_init 172 = .ok (.newarray .int, 2) := by decide +kernel
theorem dX7_init_174 : decode cX7_init 174 = .ok (.putfield 68, 3) := by decide +kernel
theorem dX7_init_177 : decode cX7_init 177 = .ok (.return_, 1) := by decide +kernel
theorem dX7_fails_0 : decode cX7_fails 0 = .ok (.aload_n 0, 1) := by decide +kernel
theorem dX7_fails_1 : decode cX7_fails 1 = .ok (.iload_n 1, 1) := by decide +kernel
theorem dX7_fails_2 : decode cX7_fails 2 = .ok (.putfield 71, 3) := by decide +kernel
theorem dX7_fails_5 : decode cX7_fails 5 = .ok (.bipush (-10), 2) := by decide +kernel
theorem dX7_fails_7 : decode cX7_fails 7 = .ok (.iload_n 1, 1) := by decide +kernel
theorem dX7_fails_8 : decode cX7_fails 8 = .ok (.isub, 1) := by decide +kernel
theorem dX7_fails_9 : decode cX7_fails 9 = .ok (.ireturn, 1) := by decide +kernel
theorem dX7_lost_0 : decode cX7_lost 0 = .ok (.aload_n 0, 1) := by decide +kernel
theorem dX7_lost_1 : decode cX7_lost 1 = .ok (.iload_n 1, 1) := by decide +kernel
theorem dX7_lost_2 : decode cX7_lost 2 = .ok (.putfield 71, 3) := by decide +kernel
theorem dX7_lost_5 : decode cX7_lost 5 = .ok (.ldc2_w 75, 3) := by decide +kernel
theorem dX7_lost_8 : decode cX7_lost 8 = .ok (.lreturn, 1) := by decide +kernel
theorem dX7_within_0 : decode cX7_within 0 = .ok (.iload_n 0, 1) := by decide +kernel
theorem dX7_within_1 : decode cX7_within 1 = .ok (.iload_n 1, 1) := by decide +kernel
theorem dX7_within_2 : decode cX7_within 2 = .ok (.if_icmp .lt 12, 3) := by decide +kernel
theorem dX7_within_5 : decode cX7_within 5 = .ok (.iload_n 0, 1) := by decide +kernel
theorem dX7_within_6 : decode cX7_within 6 = .ok (.iload_n 2, 1) := by decide +kernel
theorem dX7_within_7 : decode cX7_within 7 = .ok (.if_icmp .gt 7, 3) := by decide +kernel
theorem dX7_within_10 : decode cX7_within 10 = .ok (.iconst 1, 1) := by decide +kernel
theorem dX7_within_11 : decode cX7_within 11 = .ok (.goto 4, 3) := by decide +kernel
theorem dX7_within_14 : decode cX7_within 14 = .ok (.iconst 0, 1) := by decide +kernel
theorem dX7_within_15 : decode cX7_within 15 = .ok (.ireturn, 1) := by decide +kernel
theorem dX7_isSheet_0 : decode cX7_isSheet 0 = .ok (.iload_n 0, 1) := by decide +kernel
theorem dX7_isSheet_1 : decode cX7_isSheet 1 = .ok (.iconst 0, 1) := by decide +kernel
theorem dX7_isSheet_2 : decode cX7_isSheet 2 = .ok (.iconst 3, 1) := by decide +kernel
theorem dX7_isSheet_3 : decode cX7_isSheet 3 = .ok (.invokestatic 77, 3) := by decide +kernel
theorem dX7_isSheet_6 : decode cX7_isSheet 6 = .ok (.ireturn, 1) := by decide +kernel
theorem dX7_isSort_0 : decode cX7_isSort 0 = .ok (.iload_n 0, 1) := by decide +kernel
theorem dX7_isSort_1 : decode cX7_isSort 1 = .ok (.iconst 0, 1) := by decide +kernel
theorem dX7_isSort_2 : decode cX7_isSort 2 = .ok (.iconst 2, 1) := by decide +kernel
theorem dX7_isSort_3 : decode cX7_isSort 3 = .ok (.invokestatic 77, 3) := by decide +kernel
theorem dX7_isSort_6 : decode cX7_isSort 6 = .ok (.ireturn, 1) := by decide +kernel
theorem dX7_against_0 : decode cX7_against 0 = .ok (.aload_n 0, 1) := by decide +kernel
theorem dX7_against_1 : decode cX7_against 1 = .ok (.getfield 9, 3) := by decide +kernel
theorem dX7_against_4 : decode cX7_against 4 = .ok (.iload_n 1, 1) := by decide +kernel
theorem dX7_against_5 : decode cX7_against 5 = .ok (.iaload, 1) := by decide +kernel
theorem dX7_against_6 : decode cX7_against 6 = .ok (.bipush (-9), 2) := by decide +kernel
theorem dX7_against_8 : decode cX7_against 8 = .ok (.if_icmp .eq 15, 3) := by decide +kernel
theorem dX7_against_11 : decode cX7_against 11 = .ok (.aload_n 0, 1) := by decide +kernel
theorem dX7_against_12 : decode cX7_against 12 = .ok (.getfield 9, 3) := by decide +kernel
theorem dX7_against_15 : decode cX7_against 15 = .ok (.iload_n 1, 1) := by decide +kernel
theorem dX7_against_16 : decode cX7_against 16 = .ok (.iaload, 1) := by decide +kernel
theorem dX7_against_17 : decode cX7_against 17 = .ok (.iload_n 2, 1) := by decide +kernel
theorem dX7_against_18 : decode cX7_against 18 = .ok (.if_icmp .eq 5, 3) := by decide +kernel
theorem dX7_against_21 : decode cX7_against 21 = .ok (.iconst 2, 1) := by decide +kernel
theorem dX7_against_22 : decode cX7_against 22 = .ok (.ireturn, 1) := by decide +kernel
theorem dX7_against_23 : decode cX7_against 23 = .ok (.aload_n 0, 1) := by decide +kernel
theorem dX7_against_24 : decode cX7_against 24 = .ok (.getfield 9, 3) := by decide +kernel
theorem dX7_against_27 : decode cX7_against 27 = .ok (.iload_n 1, 1) := by decide +kernel
theorem dX7_against_28 : decode cX7_against 28 = .ok (.iaload, 1) := by decide +kernel
theorem dX7_against_29 : decode cX7_against 29 = .ok (.bipush (-9), 2) := by decide +kernel
theorem dX7_against_31 : decode cX7_against 31 = .ok (.if_icmp .ne 5, 3) := by decide +kernel
theorem dX7_against_34 : decode cX7_against 34 = .ok (.iconst 1, 1) := by decide +kernel
theorem dX7_against_35 : decode cX7_against 35 = .ok (.ireturn, 1) := by decide +kernel
theorem dX7_against_36 : decode cX7_against 36 = .ok (.iload 4, 2) := by decide +kernel
theorem dX7_against_38 : decode cX7_against 38 = .ok (.ifCond .ge 5, 3) := by decide +kernel
theorem dX7_against_41 : decode cX7_against 41 = .ok (.iconst 4, 1) := by decide +kernel
theorem dX7_against_42 : decode cX7_against 42 = .ok (.ireturn, 1) := by decide +kernel
theorem dX7_against_43 : decode cX7_against 43 = .ok (.iload_n 3, 1) := by decide +kernel
theorem dX7_against_44 : decode cX7_against 44 = .ok (.ifCond .lt 26, 3) := by decide +kernel
theorem dX7_against_47 : decode cX7_against 47 = .ok (.iload_n 3, 1) := by decide +kernel
theorem dX7_against_48 : decode cX7_against 48 = .ok (.aload_n 0, 1) := by decide +kernel
theorem dX7_against_49 : decode cX7_against 49 = .ok (.getfield 13, 3) := by decide +kernel
theorem dX7_against_52 : decode cX7_against 52 = .ok (.iload_n 1, 1) := by decide +kernel
theorem dX7_against_53 : decode cX7_against 53 = .ok (.iaload, 1) := by decide +kernel
theorem dX7_against_54 : decode cX7_against 54 = .ok (.if_icmp .gt 16, 3) := by decide +kernel
theorem dX7_against_57 : decode cX7_against 57 = .ok (.iload 4, 2) := by decide +kernel
theorem dX7_against_59 : decode cX7_against 59 = .ok (.aload_n 0, 1) := by decide +kernel
theorem dX7_against_60 : decode cX7_against 60 = .ok (.getfield 13, 3) := by decide +kernel
theorem dX7_against_63 : decode cX7_against 63 = .ok (.iload_n 1, 1) := by decide +kernel
theorem dX7_against_64 : decode cX7_against 64 = .ok (.iaload, 1) := by decide +kernel
theorem dX7_against_65 : decode cX7_against 65 = .ok (.iload_n 3, 1) := by decide +kernel
theorem dX7_against_66 : decode cX7_against 66 = .ok (.isub, 1) := by decide +kernel
theorem dX7_against_67 : decode cX7_against 67 = .ok (.if_icmp .le 7, 3) := by decide +kernel
theorem dX7_against_70 : decode cX7_against 70 = .ok (.iconst 3, 1) := by decide +kernel
theorem dX7_against_71 : decode cX7_against 71 = .ok (.goto 4, 3) := by decide +kernel
theorem dX7_against_74 : decode cX7_against 74 = .ok (.iconst 0, 1) := by decide +kernel
theorem dX7_against_75 : decode cX7_against 75 = .ok (.ireturn, 1) := by decide +kernel
theorem dX7_isPassenger_0 : decode cX7_isPassenger 0 = .ok (.iload_n 1, 1) := by decide +kernel
theorem dX7_isPassenger_1 : decode cX7_isPassenger 1 = .ok (.ifCond .lt 15, 3) := by decide +kernel
theorem dX7_isPassenger_4 : decode cX7_isPassenger 4 = .ok (.iload_n 1, 1) := by decide +kernel
theorem dX7_isPassenger_5 : decode cX7_isPassenger 5 = .ok (.aload_n 0, 1) := by decide +kernel
theorem dX7_isPassenger_6 : decode cX7_isPassenger 6 = .ok (.getfield 81, 3) := by decide +kernel
theorem dX7_isPassenger_9 : decode cX7_isPassenger 9 = .ok (.if_icmp .ge 7, 3) := by decide +kernel
theorem dX7_isPassenger_12 : decode cX7_isPassenger 12 = .ok (.iconst 1, 1) := by decide +kernel
theorem dX7_isPassenger_13 : decode cX7_isPassenger 13 = .ok (.goto 4, 3) := by decide +kernel
theorem dX7_isPassenger_16 : decode cX7_isPassenger 16 = .ok (.iconst 0, 1) := by decide +kernel
theorem dX7_isPassenger_17 : decode cX7_isPassenger 17 = .ok (.ireturn, 1) := by decide +kernel
theorem dX7_isMile_0 : decode cX7_isMile 0 = .ok (.iload_n 1, 1) := by decide +kernel
theorem dX7_isMile_1 : decode cX7_isMile 1 = .ok (.ifCond .lt 15, 3) := by decide +kernel
theorem dX7_isMile_4 : decode cX7_isMile 4 = .ok (.iload_n 1, 1) := by decide +kernel
theorem dX7_isMile_5 : decode cX7_isMile 5 = .ok (.aload_n 0, 1) := by decide +kernel
theorem dX7_isMile_6 : decode cX7_isMile 6 = .ok (.getfield 84, 3) := by decide +kernel
theorem dX7_isMile_9 : decode cX7_isMile 9 = .ok (.if_icmp .ge 7, 3) := by decide +kernel
theorem dX7_isMile_12 : decode cX7_isMile 12 = .ok (.iconst 1, 1) := by decide +kernel
theorem dX7_isMile_13 : decode cX7_isMile 13 = .ok (.goto 4, 3) := by decide +kernel
theorem dX7_isMile_16 : decode cX7_isMile 16 = .ok (.iconst 0, 1) := by decide +kernel
theorem dX7_isMile_17 : decode cX7_isMile 17 = .ok (.ireturn, 1) := by decide +kernel
theorem dX7_digit_0 : decode cX7_digit 0 = .ok (.aload_n 0, 1) := by decide +kernel
theorem dX7_digit_1 : decode cX7_digit 1 = .ok (.getfield 87, 3) := by decide +kernel
theorem dX7_digit_4 : decode cX7_digit 4 = .ok (.iload_n 1, 1) := by decide +kernel
theorem dX7_digit_5 : decode cX7_digit 5 = .ok (.if_icmp .ge 26, 3) := by decide +kernel
theorem dX7_digit_8 : decode cX7_digit 8 = .ok (.aload_n 0, 1) := by decide +kernel
theorem dX7_digit_9 : decode cX7_digit 9 = .ok (.getfield 16, 3) := by decide +kernel
theorem dX7_digit_12 : decode cX7_digit 12 = .ok (.aload_n 0, 1) := by decide +kernel
theorem dX7_digit_13 : decode cX7_digit 13 = .ok (.getfield 87, 3) := by decide +kernel
theorem dX7_digit_16 : decode cX7_digit 16 = .ok (.iaload, 1) := by decide +kernel
theorem dX7_digit_17 : decode cX7_digit 17 = .ok (.bipush 48, 2) := by decide +kernel
theorem dX7_digit_19 : decode cX7_digit 19 = .ok (.iload_n 2, 1) := by decide +kernel
theorem dX7_digit_20 : decode cX7_digit 20 = .ok (.iadd, 1) := by decide +kernel
theorem dX7_digit_21 : decode cX7_digit 21 = .ok (.bipush 48, 2) := by decide +kernel
theorem dX7_digit_23 : decode cX7_digit 23 = .ok (.iload_n 3, 1) := by decide +kernel
theorem dX7_digit_24 : decode cX7_digit 24 = .ok (.iadd, 1) := by decide +kernel
theorem dX7_digit_25 : decode cX7_digit 25 = .ok (.invokestatic 77, 3) := by decide +kernel
theorem dX7_digit_28 : decode cX7_digit 28 = .ok (.ifCond .ne 6, 3) := by decide +kernel
theorem dX7_digit_31 : decode cX7_digit 31 = .ok (.bipush (-9), 2) := by decide +kernel
theorem dX7_digit_33 : decode cX7_digit 33 = .ok (.ireturn, 1) := by decide +kernel
theorem dX7_digit_34 : decode cX7_digit 34 = .ok (.aload_n 0, 1) := by decide +kernel
theorem dX7_digit_35 : decode cX7_digit 35 = .ok (.dup, 1) := by decide +kernel
theorem dX7_digit_36 : decode cX7_digit 36 = .ok (.getfield 87, 3) := by decide +kernel
theorem dX7_digit_39 : decode cX7_digit 39 = .ok (.iconst 1, 1) := by decide +kernel
theorem dX7_digit_40 : decode cX7_digit 40 = .ok (.iadd, 1) := by decide +kernel
theorem dX7_digit_41 : decode cX7_digit 41 = .ok (.putfield 87, 3) := by decide +kernel
theorem dX7_digit_44 : decode cX7_digit 44 = .ok (.aload_n 0, 1) := by decide +kernel
theorem dX7_digit_45 : decode cX7_digit 45 = .ok (.getfield 16, 3) := by decide +kernel
theorem dX7_digit_48 : decode cX7_digit 48 = .ok (.aload_n 0, 1) := by decide +kernel
theorem dX7_digit_49 : decode cX7_digit 49 = .ok (.getfield 87, 3) := by decide +kernel
theorem dX7_digit_52 : decode cX7_digit 52 = .ok (.iconst 1, 1) := by decide +kernel
theorem dX7_digit_53 : decode cX7_digit 53 = .ok (.isub, 1) := by decide +kernel
theorem dX7_digit_54 : decode cX7_digit 54 = .ok (.iaload, 1) := by decide +kernel
theorem dX7_digit_55 : decode cX7_digit 55 = .ok (.bipush 48, 2) := by decide +kernel
theorem dX7_digit_57 : decode cX7_digit 57 = .ok (.isub, 1) := by decide +kernel
theorem dX7_digit_58 : decode cX7_digit 58 = .ok (.ireturn, 1) := by decide +kernel
theorem dX7_isSign_0 : decode cX7_isSign 0 = .ok (.aload_n 0, 1) := by decide +kernel
theorem dX7_isSign_1 : decode cX7_isSign 1 = .ok (.getfield 87, 3) := by decide +kernel
theorem dX7_isSign_4 : decode cX7_isSign 4 = .ok (.iload_n 1, 1) := by decide +kernel
theorem dX7_isSign_5 : decode cX7_isSign 5 = .ok (.if_icmp .ge 16, 3) := by decide +kernel
theorem dX7_isSign_8 : decode cX7_isSign 8 = .ok (.aload_n 0, 1) := by decide +kernel
theorem dX7_isSign_9 : decode cX7_isSign 9 = .ok (.getfield 16, 3) := by decide +kernel
theorem dX7_isSign_12 : decode cX7_isSign 12 = .ok (.aload_n 0, 1) := by decide +kernel
theorem dX7_isSign_13 : decode cX7_isSign 13 = .ok (.getfield 87, 3) := by decide +kernel
theorem dX7_isSign_16 : decode cX7_isSign 16 = .ok (.iaload, 1) := by decide +kernel
theorem dX7_isSign_17 : decode cX7_isSign 17 = .ok (.iload_n 2, 1) := by decide +kernel
theorem dX7_isSign_18 : decode cX7_isSign 18 = .ok (.if_icmp .eq 5, 3) := by decide +kernel
theorem dX7_isSign_21 : decode cX7_isSign 21 = .ok (.iconst 0, 1) := by decide +kernel
theorem dX7_isSign_22 : decode cX7_isSign 22 = .ok (.ireturn, 1) := by decide +kernel
theorem dX7_isSign_23 : decode cX7_isSign 23 = .ok (.aload_n 0, 1) := by decide +kernel
theorem dX7_isSign_24 : decode cX7_isSign 24 = .ok (.dup, 1) := by decide +kernel
theorem dX7_isSign_25 : decode cX7_isSign 25 = .ok (.getfield 87, 3) := by decide +kernel
theorem dX7_isSign_28 : decode cX7_isSign 28 = .ok (.iconst 1, 1) := by decide +kernel
theorem dX7_isSign_29 : decode cX7_isSign 29 = .ok (.iadd, 1) := by decide +kernel
theorem dX7_isSign_30 : decode cX7_isSign 30 = .ok (.putfield 87, 3) := by decide +kernel
theorem dX7_isSign_33 : decode cX7_isSign 33 = .ok (.iconst 1, 1) := by decide +kernel
theorem dX7_isSign_34 : decode cX7_isSign 34 = .ok (.ireturn, 1) := by decide +kernel
theorem dX7_line_0 : decode cX7_line 0 = .ok (.aload_n 0, 1) := by decide +kernel
theorem dX7_line_1 : decode cX7_line 1 = .ok (.iconst 0, 1) := by decide +kernel
theorem dX7_line_2 : decode cX7_line 2 = .ok (.putfield 71, 3) := by decide +kernel
theorem dX7_line_5 : decode cX7_line 5 = .ok (.iload_n 1, 1) := by decide +kernel
theorem dX7_line_6 : decode cX7_line 6 = .ok (.invokestatic 90, 3) := by decide +kernel
theorem dX7_line_9 : decode cX7_line 9 = .ok (.ifCond .ne 5, 3) := by decide +kernel
theorem dX7_line_12 : decode cX7_line 12 = .ok (.iconst (-1), 1) := by decide +kernel
theorem dX7_line_13 : decode cX7_line 13 = .ok (.ireturn, 1) := by decide +kernel
theorem dX7_line_14 : decode cX7_line 14 = .ok (.iload_n 2, 1) := by decide +kernel
theorem dX7_line_15 : decode cX7_line 15 = .ok (.invokestatic 94, 3) := by decide +kernel
theorem dX7_line_18 : decode cX7_line 18 = .ok (.ifCond .ne 6, 3) := by decide +kernel
theorem dX7_line_21 : decode cX7_line 21 = .ok (.bipush (-2), 2) := by decide +kernel
theorem dX7_line_23 : decode cX7_line 23 = .ok (.ireturn, 1) := by decide +kernel
theorem dX7_line_24 : decode cX7_line 24 = .ok (.aload_n 0, 1) := by decide +kernel
theorem dX7_line_25 : decode cX7_line 25 = .ok (.iload_n 1, 1) := by decide +kernel
theorem dX7_line_26 : decode cX7_line 26 = .ok (.iload_n 2, 1) := by decide +kernel
theorem dX7_line_27 : decode cX7_line 27 = .ok (.iload_n 3, 1) := by decide +kernel
theorem dX7_line_28 : decode cX7_line 28 = .ok (.iload 4, 2) := by decide +kernel
theorem dX7_line_30 : decode cX7_line 30 = .ok (.invokevirtual 97, 3) := by decide +kernel
theorem dX7_line_33 : decode cX7_line 33 = .ok (.istore 5, 2) := by decide +kernel
theorem dX7_line_35 : decode cX7_line 35 = .ok (.iload 5, 2) := by decide +kernel
theorem dX7_line_37 : decode cX7_line 37 = .ok (.ifCond .eq 10, 3) := by decide +kernel
theorem dX7_line_40 : decode cX7_line 40 = .ok (.aload_n 0, 1) := by decide +kernel
theorem dX7_line_41 : decode cX7_line 41 = .ok (.iload 5, 2) := by decide +kernel
theorem dX7_line_43 : decode cX7_line 43 = .ok (.invokevirtual 101, 3) := by decide +kernel
theorem dX7_line_46 : decode cX7_line 46 = .ok (.ireturn, 1) := by decide +kernel
theorem dX7_line_47 : decode cX7_line 47 = .ok (.bipush 60, 2) := by decide +kernel
theorem dX7_line_49 : decode cX7_line 49 = .ok (.iload_n 1, 1) := by decide +kernel
theorem dX7_line_50 : decode cX7_line 50 = .ok (.imul, 1) := by decide +kernel
theorem dX7_line_51 : decode cX7_line 51 = .ok (.iload_n 3, 1) := by decide +kernel
theorem dX7_line_52 : decode cX7_line 52 = .ok (.iadd, 1) := by decide +kernel
theorem dX7_line_53 : decode cX7_line 53 = .ok (.istore 6, 2) := by decide +kernel
theorem dX7_line_55 : decode cX7_line 55 = .ok (.aload_n 0, 1) := by decide +kernel
theorem dX7_line_56 : decode cX7_line 56 = .ok (.iload 6, 2) := by decide +kernel
theorem dX7_line_58 : decode cX7_line 58 = .ok (.putfield 87, 3) := by decide +kernel
theorem dX7_line_61 : decode cX7_line 61 = .ok (.aload_n 0, 1) := by decide +kernel
theorem dX7_line_62 : decode cX7_line 62 = .ok (.iload 6, 2) := by decide +kernel
theorem dX7_line_64 : decode cX7_line 64 = .ok (.iload 4, 2) := by decide +kernel
theorem dX7_line_66 : decode cX7_line 66 = .ok (.iadd, 1) := by decide +kernel
theorem dX7_line_67 : decode cX7_line 67 = .ok (.invokevirtual 105, 3) := by decide +kernel
theorem dX7_line_70 : decode cX7_line 70 = .ok (.ifCond .ne 14, 3) := by decide +kernel
theorem dX7_line_73 : decode cX7_line 73 = .ok (.bipush (-100), 2) := by decide +kernel
theorem dX7_line_75 : decode cX7_line 75 = .ok (.aload_n 0, 1) := by decide +kernel
theorem dX7_line_76 : decode cX7_line 76 = .ok (.getfield 87, 3) := by decide +kernel
theorem dX7_line_79 : decode cX7_line 79 = .ok (.iload 6, 2) := by decide +kernel
theorem dX7_line_81 : decode cX7_line 81 = .ok (.isub, 1) := by decide +kernel
theorem dX7_line_82 : decode cX7_line 82 = .ok (.isub, 1) := by decide +kernel
theorem dX7_line_83 : decode cX7_line 83 = .ok (.ireturn, 1) := by decide +kernel
theorem dX7_line_84 : decode cX7_line 84 = .ok (.aload_n 0, 1) := by decide +kernel
theorem dX7_line_85 : decode cX7_line 85 = .ok (.invokevirtual 108, 3) := by decide +kernel
theorem dX7_line_88 : decode cX7_line 88 = .ok (.aload_n 0, 1) := by decide +kernel
theorem dX7_line_89 : decode cX7_line 89 = .ok (.getfield 81, 3) := by decide +kernel
theorem dX7_line_92 : decode cX7_line 92 = .ok (.ireturn, 1) := by decide +kernel
theorem dX7_takeLine_0 : decode cX7_takeLine 0 = .ok (.iconst 0, 1) := by decide +kernel
theorem dX7_takeLine_1 : decode cX7_takeLine 1 = .ok (.istore_n 1, 1) := by decide +kernel
theorem dX7_takeLine_2 : decode cX7_takeLine 2 = .ok (.iload_n 1, 1) := by decide +kernel
theorem dX7_takeLine_3 : decode cX7_takeLine 3 = .ok (.iconst 3, 1) := by decide +kernel
theorem dX7_takeLine_4 : decode cX7_takeLine 4 = .ok (.if_icmp .ge 21, 3) := by decide +kernel
theorem dX7_takeLine_7 : decode cX7_takeLine 7 = .ok (.aload_n 0, 1) := by decide +kernel
theorem dX7_takeLine_8 : decode cX7_takeLine 8 = .ok (.getfield 19, 3) := by decide +kernel
theorem dX7_takeLine_11 : decode cX7_takeLine 11 = .ok (.iload_n 1, 1) := by decide +kernel
theorem dX7_takeLine_12 : decode cX7_takeLine 12 = .ok (.aload_n 0, 1) := by decide +kernel
theorem dX7_takeLine_13 : decode cX7_takeLine 13 = .ok (.getfield 41, 3) := by decide +kernel
theorem dX7_takeLine_16 : decode cX7_takeLine 16 = .ok (.iload_n 1, 1) := by decide +kernel
theorem dX7_takeLine_17 : decode cX7_takeLine 17 = .ok (.iaload, 1) := by decide +kernel
theorem dX7_takeLine_18 : decode cX7_takeLine 18 = .ok (.iastore, 1) := by decide +kernel
theorem dX7_takeLine_19 : decode cX7_takeLine 19 = .ok (.iinc 1 1, 3) := by decide +kernel
theorem dX7_takeLine_22 : decode cX7_takeLine 22 = .ok (.goto (-20), 3) := by decide +kernel
theorem dX7_takeLine_25 : decode cX7_takeLine 25 = .ok (.aload_n 0, 1) := by decide +kernel
theorem dX7_takeLine_26 : decode cX7_takeLine 26 = .ok (.aload_n 0, 1) := by decide +kernel
theorem dX7_takeLine_27 : decode cX7_takeLine 27 = .ok (.getfield 111, 3) := by decide +kernel
theorem dX7_takeLine_30 : decode cX7_takeLine 30 = .ok (.putfield 84, 3) := by decide +kernel
theorem dX7_takeLine_33 : decode cX7_takeLine 33 = .ok (.iconst 0, 1) := by decide +kernel
theorem dX7_takeLine_34 : decode cX7_takeLine 34 = .ok (.istore_n 1, 1) := by decide +kernel
theorem dX7_takeLine_35 : decode cX7_takeLine 35 = .ok (.iload_n 1, 1) := by decide +kernel
theorem dX7_takeLine_36 : decode cX7_takeLine 36 = .ok (.bipush 8, 2) := by decide +kernel
theorem dX7_takeLine_38 : decode cX7_takeLine 38 = .ok (.if_icmp .ge 53, 3) := by decide +kernel
theorem dX7_takeLine_41 : decode cX7_takeLine 41 = .ok (.aload_n 0, 1) := by decide +kernel
theorem dX7_takeLine_42 : decode cX7_takeLine 42 = .ok (.getfield 22, 3) := by decide +kernel
theorem dX7_takeLine_45 : decode cX7_takeLine 45 = .ok (.iload_n 1, 1) := by decide +kernel
theorem dX7_takeLine_46 : decode cX7_takeLine 46 = .ok (.iload_n 1, 1) := by decide +kernel
theorem dX7_takeLine_47 : decode cX7_takeLine 47 = .ok (.aload_n 0, 1) := by decide +kernel
theorem dX7_takeLine_48 : decode cX7_takeLine 48 = .ok (.getfield 84, 3) := by decide +kernel
theorem dX7_takeLine_51 : decode cX7_takeLine 51 = .ok (.if_icmp .ge 16, 3) := by decide +kernel
theorem dX7_takeLine_54 : decode cX7_takeLine 54 = .ok (.aload_n 0, 1) := by decide +kernel
theorem dX7_takeLine_55 : decode cX7_takeLine 55 = .ok (.getfield 44, 3) := by decide +kernel
theorem dX7_takeLine_58 : decode cX7_takeLine 58 = .ok (.iload_n 1, 1) := by decide +kernel
theorem dX7_takeLine_59 : decode cX7_takeLine 59 = .ok (.baload, 1) := by decide +kernel
theorem dX7_takeLine_60 : decode cX7_takeLine 60 = .ok (.ifCond .eq 7, 3) := by decide +kernel
theorem dX7_takeLine_63 : decode cX7_takeLine 63 = .ok (.iconst 1, 1) := by decide +kernel
theorem dX7_takeLine_64 : decode cX7_takeLine 64 = .ok (.goto 4, 3) := by decide +kernel
theorem dX7_takeLine_67 : decode cX7_takeLine 67 = .ok (.iconst 0, 1) := by decide +kernel
theorem dX7_takeLine_68 : decode cX7_takeLine 68 = .ok (.bastore, 1) := by decide +kernel
theorem dX7_takeLine_69 : decode cX7_takeLine 69 = .ok (.aload_n 0, 1) := by decide +kernel
theorem dX7_takeLine_70 : decode cX7_takeLine 70 = .ok (.getfield 26, 3) := by decide +kernel
theorem dX7_takeLine_73 : decode cX7_takeLine 73 = .ok (.iload_n 1, 1) := by decide +kernel
theorem dX7_takeLine_74 : decode cX7_takeLine 74 = .ok (.bipush (-9), 2) := by decide +kernel
theorem dX7_takeLine_76 : decode cX7_takeLine 76 = .ok (.iastore, 1) := by decide +kernel
theorem dX7_takeLine_77 : decode cX7_takeLine 77 = .ok (.aload_n 0, 1) := by decide +kernel
theorem dX7_takeLine_78 : decode cX7_takeLine 78 = .ok (.getfield 29, 3) := by decide +kernel
theorem dX7_takeLine_81 : decode cX7_takeLine 81 = .ok (.iload_n 1, 1) := by decide +kernel
theorem dX7_takeLine_82 : decode cX7_takeLine 82 = .ok (.bipush (-9), 2) := by decide +kernel
theorem dX7_takeLine_84 : decode cX7_takeLine 84 = .ok (.iastore, 1) := by decide +kernel
theorem dX7_takeLine_85 : decode cX7_takeLine 85 = .ok (.iinc 1 1, 3) := by decide +kernel
theorem dX7_takeLine_88 : decode cX7_takeLine 88 = .ok (.goto (-53), 3) := by decide +kernel
theorem dX7_takeLine_91 : decode cX7_takeLine 91 = .ok (.aload_n 0, 1) := by decide +kernel
theorem dX7_takeLine_92 : decode cX7_takeLine 92 = .ok (.aload_n 0, 1) := by decide +kernel
theorem dX7_takeLine_93 : decode cX7_takeLine 93 = .ok (.getfield 114, 3) := by decide +kernel
theorem dX7_takeLine_96 : decode cX7_takeLine 96 = .ok (.putfield 81, 3) := by decide +kernel
theorem dX7_takeLine_99 : decode cX7_takeLine 99 = .ok (.iconst 0, 1) := by decide +kernel
theorem dX7_takeLine_100 : decode cX7_takeLine 100 = .ok (.istore_n 1, 1) := by decide +kernel
theorem dX7_takeLine_101 : decode cX7_takeLine 101 = .ok (.iload_n 1, 1) := by decide +kernel
theorem dX7_takeLine_102 : decode cX7_takeLine 102 = .ok (.aload_n 0, 1) := by decide +kernel
theorem dX7_takeLine_103 : decode cX7_takeLine 103 = .ok (.getfield 81, 3) := by decide +kernel
theorem dX7_takeLine_106 : decode cX7_takeLine 106 = .ok (.if_icmp .ge 55, 3) := by decide +kernel
theorem dX7_takeLine_109 : decode cX7_takeLine 109 = .ok (.aload_n 0, 1) := by decide +kernel
theorem dX7_takeLine_110 : decode cX7_takeLine 110 = .ok (.getfield 32, 3) := by decide +kernel
theorem dX7_takeLine_113 : decode cX7_takeLine 113 = .ok (.iload_n 1, 1) := by decide +kernel
theorem dX7_takeLine_114 : decode cX7_takeLine 114 = .ok (.aload_n 0, 1) := by decide +kernel
theorem dX7_takeLine_115 : decode cX7_takeLine 115 = .ok (.getfield 47, 3) := by decide +kernel
theorem dX7_takeLine_118 : decode cX7_takeLine 118 = .ok (.iconst 3, 1) := by decide +kernel
theorem dX7_takeLine_119 : decode cX7_takeLine 119 = .ok (.iload_n 1, 1) := by decide +kernel
theorem dX7_takeLine_120 : decode cX7_takeLine 120 = .ok (.imul, 1) := by decide +kernel
theorem dX7_takeLine_121 : decode cX7_takeLine 121 = .ok (.iaload, 1) := by decide +kernel
theorem dX7_takeLine_122 : decode cX7_takeLine 122 = .ok (.iastore, 1) := by decide +kernel
theorem dX7_takeLine_123 : decode cX7_takeLine 123 = .ok (.aload_n 0, 1) := by decide +kernel
theorem dX7_takeLine_124 : decode cX7_takeLine 124 = .ok (.getfield 35, 3) := by decide +kernel
theorem dX7_takeLine_127 : decode cX7_takeLine 127 = .ok (.iload_n 1, 1) := by decide +kernel
theorem dX7_takeLine_128 : decode cX7_takeLine 128 = .ok (.aload_n 0, 1) := by decide +kernel
theorem dX7_takeLine_129 : decode cX7_takeLine 129 = .ok (.getfield 47, 3) := by decide +kernel
theorem dX7_takeLine_132 : decode cX7_takeLine 132 = .ok (.iconst 3, 1) := by decide +kernel
theorem dX7_takeLine_133 : decode cX7_takeLine 133 = .ok (.iload_n 1, 1) := by decide +kernel
theorem dX7_takeLine_134 : decode cX7_takeLine 134 = .ok (.imul, 1) := by decide +kernel
theorem dX7_takeLine_135 : decode cX7_takeLine 135 = .ok (.iconst 1, 1) := by decide +kernel
theorem dX7_takeLine_136 : decode cX7_takeLine 136 = .ok (.iadd, 1) := by decide +kernel
theorem dX7_takeLine_137 : decode cX7_takeLine 137 = .ok (.iaload, 1) := by decide +kernel
theorem dX7_takeLine_138 : decode cX7_takeLine 138 = .ok (.iastore, 1) := by decide +kernel
theorem dX7_takeLine_139 : decode cX7_takeLine 139 = .ok (.aload_n 0, 1) := by decide +kernel
theorem dX7_takeLine_140 : decode cX7_takeLine 140 = .ok (.getfield 38, 3) := by decide +kernel
theorem dX7_takeLine_143 : decode cX7_takeLine 143 = .ok (.iload_n 1, 1) := by decide +kernel
theorem dX7_takeLine_144 : decode cX7_takeLine 144 = .ok (.aload_n 0, 1) := by decide +kernel
theorem dX7_takeLine_145 : decode cX7_takeLine 145 = .ok (.getfield 47, 3) := by decide +kernel
theorem dX7_takeLine_148 : decode cX7_takeLine 148 = .ok (.iconst 3, 1) := by decide +kernel
theorem dX7_takeLine_149 : decode cX7_takeLine 149 = .ok (.iload_n 1, 1) := by decide +kernel
theorem dX7_takeLine_150 : decode cX7_takeLine 150 = .ok (.imul, 1) := by decide +kernel
theorem dX7_takeLine_151 : decode cX7_takeLine 151 = .ok (.iconst 2, 1) := by decide +kernel
theorem dX7_takeLine_152 : decode cX7_takeLine 152 = .ok (.iadd, 1) := by decide +kernel
theorem dX7_takeLine_153 : decode cX7_takeLine 153 = .ok (.iaload, 1) := by decide +kernel
theorem dX7_takeLine_154 : decode cX7_takeLine 154 = .ok (.iastore, 1) := by decide +kernel
theorem dX7_takeLine_155 : decode cX7_takeLine 155 = .ok (.iinc 1 1, 3) := by decide +kernel
theorem dX7_takeLine_158 : decode cX7_takeLine 158 = .ok (.goto (-57), 3) := by decide +kernel
theorem dX7_takeLine_161 : decode cX7_takeLine 161 = .ok (.aload_n 0, 1) := by decide +kernel
theorem dX7_takeLine_162 : decode cX7_takeLine 162 = .ok (.bipush 20, 2) := by decide +kernel
theorem dX7_takeLine_164 : decode cX7_takeLine 164 = .ok (.putfield 117, 3) := by decide +kernel
theorem dX7_takeLine_167 : decode cX7_takeLine 167 = .ok (.aload_n 0, 1) := by decide +kernel
theorem dX7_takeLine_168 : decode cX7_takeLine 168 = .ok (.bipush 40, 2) := by decide +kernel
theorem dX7_takeLine_170 : decode cX7_takeLine 170 = .ok (.putfield 120, 3) := by decide +kernel
theorem dX7_takeLine_173 : decode cX7_takeLine 173 = .ok (.aload_n 0, 1) := by decide +kernel
theorem dX7_takeLine_174 : decode cX7_takeLine 174 = .ok (.iconst 0, 1) := by decide +kernel
theorem dX7_takeLine_175 : decode cX7_takeLine 175 = .ok (.putfield 123, 3) := by decide +kernel
theorem dX7_takeLine_178 : decode cX7_takeLine 178 = .ok (.return_, 1) := by decide +kernel
theorem dX7_readLine_0 : decode cX7_readLine 0 = .ok (.aload_n 0, 1) := by decide +kernel
theorem dX7_readLine_1 : decode cX7_readLine 1 = .ok (.iconst 0, 1) := by decide +kernel
theorem dX7_readLine_2 : decode cX7_readLine 2 = .ok (.putfield 111, 3) := by decide +kernel
theorem dX7_readLine_5 : decode cX7_readLine 5 = .ok (.aload_n 0, 1) := by decide +kernel
theorem dX7_readLine_6 : decode cX7_readLine 6 = .ok (.iconst 0, 1) := by decide +kernel
theorem dX7_readLine_7 : decode cX7_readLine 7 = .ok (.putfield 114, 3) := by decide +kernel
theorem dX7_readLine_10 : decode cX7_readLine 10 = .ok (.aload_n 0, 1) := by decide +kernel
theorem dX7_readLine_11 : decode cX7_readLine 11 = .ok (.iload_n 1, 1) := by decide +kernel
theorem dX7_readLine_12 : decode cX7_readLine 12 = .ok (.bipush 114, 2) := by decide +kernel
theorem dX7_readLine_14 : decode cX7_readLine 14 = .ok (.invokevirtual 126, 3) := by decide +kernel
theorem dX7_readLine_17 : decode cX7_readLine 17 = .ok (.ifCond .ne 5, 3) := by decide +kernel
theorem dX7_readLine_20 : decode cX7_readLine 20 = .ok (.iconst 0, 1) := by decide +kernel
theorem dX7_readLine_21 : decode cX7_readLine 21 = .ok (.ireturn, 1) := by decide +kernel
theorem dX7_readLine_22 : decode cX7_readLine 22 = .ok (.iconst 0, 1) := by decide +kernel
theorem dX7_readLine_23 : decode cX7_readLine 23 = .ok (.istore_n 2, 1) := by decide +kernel
theorem dX7_readLine_24 : decode cX7_readLine 24 = .ok (.iload_n 2, 1) := by decide +kernel
theorem dX7_readLine_25 : decode cX7_readLine 25 = .ok (.iconst 3, 1) := by decide +kernel
theorem dX7_readLine_26 : decode cX7_readLine 26 = .ok (.if_icmp .ge 35, 3) := by decide +kernel
theorem dX7_readLine_29 : decode cX7_readLine 29 = .ok (.aload_n 0, 1) := by decide +kernel
theorem dX7_readLine_30 : decode cX7_readLine 30 = .ok (.getfield 41, 3) := by decide +kernel
theorem dX7_readLine_33 : decode cX7_readLine 33 = .ok (.iload_n 2, 1) := by decide +kernel
theorem dX7_readLine_34 : decode cX7_readLine 34 = .ok (.aload_n 0, 1) := by decide +kernel
theorem dX7_readLine_35 : decode cX7_readLine 35 = .ok (.iload_n 1, 1) := by decide +kernel
theorem dX7_readLine_36 : decode cX7_readLine 36 = .ok (.iconst 0, 1) := by decide +kernel
theorem dX7_readLine_37 : decode cX7_readLine 37 = .ok (.iconst 4, 1) := by decide +kernel
theorem dX7_readLine_38 : decode cX7_readLine 38 = .ok (.invokevirtual 130, 3) := by decide +kernel
theorem dX7_readLine_41 : decode cX7_readLine 41 = .ok (.iastore, 1) := by decide +kernel
theorem dX7_readLine_42 : decode cX7_readLine 42 = .ok (.aload_n 0, 1) := by decide +kernel
theorem dX7_readLine_43 : decode cX7_readLine 43 = .ok (.getfield 41, 3) := by decide +kernel
theorem dX7_readLine_46 : decode cX7_readLine 46 = .ok (.iload_n 2, 1) := by decide +kernel
theorem dX7_readLine_47 : decode cX7_readLine 47 = .ok (.iaload, 1) := by decide +kernel
theorem dX7_readLine_48 : decode cX7_readLine 48 = .ok (.bipush (-9), 2) := by decide +kernel
theorem dX7_readLine_50 : decode cX7_readLine 50 = .ok (.if_icmp .ne 5, 3) := by decide +kernel
theorem dX7_readLine_53 : decode cX7_readLine 53 = .ok (.iconst 0, 1) := by decide +kernel
theorem dX7_readLine_54 : decode cX7_readLine 54 = .ok (.ireturn, 1) := by decide +kernel
theorem dX7_readLine_55 : decode cX7_readLine 55 = .ok (.iinc 2 1, 3) := by decide +kernel
theorem dX7_readLine_58 : decode cX7_readLine 58 = .ok (.goto (-34), 3) := by decide +kernel
theorem dX7_readLine_61 : decode cX7_readLine 61 = .ok (.aload_n 0, 1) := by decide +kernel
theorem dX7_readLine_62 : decode cX7_readLine 62 = .ok (.iload_n 1, 1) := by decide +kernel
theorem dX7_readLine_63 : decode cX7_readLine 63 = .ok (.bipush 59, 2) := by decide +kernel
theorem dX7_readLine_65 : decode cX7_readLine 65 = .ok (.invokevirtual 126, 3) := by decide +kernel
theorem dX7_readLine_68 : decode cX7_readLine 68 = .ok (.ifCond .ne 5, 3) := by decide +kernel
theorem dX7_readLine_71 : decode cX7_readLine 71 = .ok (.iconst 0, 1) := by decide +kernel
theorem dX7_readLine_72 : decode cX7_readLine 72 = .ok (.ireturn, 1) := by decide +kernel
theorem dX7_readLine_73 : decode cX7_readLine 73 = .ok (.aload_n 0, 1) := by decide +kernel
theorem dX7_readLine_74 : decode cX7_readLine 74 = .ok (.getfield 111, 3) := by decide +kernel
theorem dX7_readLine_77 : decode cX7_readLine 77 = .ok (.bipush 8, 2) := by decide +kernel
theorem dX7_readLine_79 : decode cX7_readLine 79 = .ok (.if_icmp .ge 90, 3) := by decide +kernel
theorem dX7_readLine_82 : decode cX7_readLine 82 = .ok (.aload_n 0, 1) := by decide +kernel
theorem dX7_readLine_83 : decode cX7_readLine 83 = .ok (.getfield 87, 3) := by decide +kernel
theorem dX7_readLine_86 : decode cX7_readLine 86 = .ok (.iload_n 1, 1) := by decide +kernel
theorem dX7_readLine_87 : decode cX7_readLine 87 = .ok (.if_icmp .ge 82, 3) := by decide +kernel
theorem dX7_readLine_90 : decode cX7_readLine 90 = .ok (.aload_n 0, 1) := by decide +kernel
theorem dX7_readLine_91 : decode cX7_readLine 91 = .ok (.getfield 16, 3) := by decide +kernel
theorem dX7_readLine_94 : decode cX7_readLine 94 = .ok (.aload_n 0, 1) := by decide +kernel
theorem dX7_readLine_95 : decode cX7_readLine 95 = .ok (.getfield 87, 3) := by decide +kernel
theorem dX7_readLine_98 : decode cX7_readLine 98 = .ok (.iaload, 1) := by decide +kernel
theorem dX7_readLine_99 : decode cX7_readLine 99 = .ok (.bipush 45, 2) := by decide +kernel
theorem dX7_readLine_101 : decode cX7_readLine 101 = .ok (.if_icmp .eq 17, 3) := by decide +kernel
theorem dX7_readLine_104 : decode cX7_readLine 104 = .ok (.aload_n 0, 1) := by decide +kernel
theorem dX7_readLine_105 : decode cX7_readLine 105 = .ok (.getfield 16, 3) := by decide +kernel
theorem dX7_readLine_108 : decode cX7_readLine 108 = .ok (.aload_n 0, 1) := by decide +kernel
theorem dX7_readLine_109 : decode cX7_readLine 109 = .ok (.getfield 87, 3) := by decide +kernel
theorem dX7_readLine_112 : decode cX7_readLine 112 = .ok (.iaload, 1) := by decide +kernel
theorem dX7_readLine_113 : decode cX7_readLine 113 = .ok (.bipush 117, 2) := by decide +kernel
theorem dX7_readLine_115 : decode cX7_readLine 115 = .ok (.if_icmp .ne 54, 3) := by decide +kernel
theorem dX7_readLine_118 : decode cX7_readLine 118 = .ok (.aload_n 0, 1) := by decide +kernel
theorem dX7_readLine_119 : decode cX7_readLine 119 = .ok (.getfield 44, 3) := by decide +kernel
theorem dX7_readLine_122 : decode cX7_readLine 122 = .ok (.aload_n 0, 1) := by decide +kernel
theorem dX7_readLine_123 : decode cX7_readLine 123 = .ok (.getfield 111, 3) := by decide +kernel
theorem dX7_readLine_126 : decode cX7_readLine 126 = .ok (.aload_n 0, 1) := by decide +kernel
theorem dX7_readLine_127 : decode cX7_readLine 127 = .ok (.getfield 16, 3) := by decide +kernel
theorem dX7_readLine_130 : decode cX7_readLine 130 = .ok (.aload_n 0, 1) := by decide +kernel
theorem dX7_readLine_131 : decode cX7_readLine 131 = .ok (.getfield 87, 3) := by decide +kernel
theorem dX7_readLine_134 : decode cX7_readLine 134 = .ok (.iaload, 1) := by decide +kernel
theorem dX7_readLine_135 : decode cX7_readLine 135 = .ok (.bipush 117, 2) := by decide +kernel
theorem dX7_readLine_137 : decode cX7_readLine 137 = .ok (.if_icmp .ne 7, 3) := by decide +kernel
theorem dX7_readLine_140 : decode cX7_readLine 140 = .ok (.iconst 1, 1) := by decide +kernel
theorem dX7_readLine_141 : decode cX7_readLine 141 = .ok (.goto 4, 3) := by decide +kernel
theorem dX7_readLine_144 : decode cX7_readLine 144 = .ok (.iconst 0, 1) := by decide +kernel
theorem dX7_readLine_145 : decode cX7_readLine 145 = .ok (.bastore, 1) := by decide +kernel
theorem dX7_readLine_146 : decode cX7_readLine 146 = .ok (.aload_n 0, 1) := by decide +kernel
theorem dX7_readLine_147 : decode cX7_readLine 147 = .ok (.dup, 1) := by decide +kernel
theorem dX7_readLine_148 : decode cX7_readLine 148 = .ok (.getfield 111, 3) := by decide +kernel
theorem dX7_readLine_151 : decode cX7_readLine 151 = .ok (.iconst 1, 1) := by decide +kernel
theorem dX7_readLine_152 : decode cX7_readLine 152 = .ok (.iadd, 1) := by decide +kernel
theorem dX7_readLine_153 : decode cX7_readLine 153 = .ok (.putfield 111, 3) := by decide +kernel
theorem dX7_readLine_156 : decode cX7_readLine 156 = .ok (.aload_n 0, 1) := by decide +kernel
theorem dX7_readLine_157 : decode cX7_readLine 157 = .ok (.dup, 1) := by decide +kernel
theorem dX7_readLine_158 : decode cX7_readLine 158 = .ok (.getfield 87, 3) := by decide +kernel
theorem dX7_readLine_161 : decode cX7_readLine 161 = .ok (.iconst 1, 1) := by decide +kernel
theorem dX7_readLine_162 : decode cX7_readLine 162 = .ok (.iadd, 1) := by decide +kernel
theorem dX7_readLine_163 : decode cX7_readLine 163 = .ok (.putfield 87, 3) := by decide +kernel
theorem dX7_readLine_166 : decode cX7_readLine 166 = .ok (.goto (-93), 3) := by decide +kernel
theorem dX7_readLine_169 : decode cX7_readLine 169 = .ok (.aload_n 0, 1) := by decide +kernel
theorem dX7_readLine_170 : decode cX7_readLine 170 = .ok (.getfield 111, 3) := by decide +kernel
theorem dX7_readLine_173 : decode cX7_readLine 173 = .ok (.ifCond .ne 5, 3) := by decide +kernel
theorem dX7_readLine_176 : decode cX7_readLine 176 = .ok (.iconst 0, 1) := by decide +kernel
theorem dX7_readLine_177 : decode cX7_readLine 177 = .ok (.ireturn, 1) := by decide +kernel
theorem dX7_readLine_178 : decode cX7_readLine 178 = .ok (.aload_n 0, 1) := by decide +kernel
theorem dX7_readLine_179 : decode cX7_readLine 179 = .ok (.getfield 114, 3) := by decide +kernel
theorem dX7_readLine_182 : decode cX7_readLine 182 = .ok (.ifCond .eq 19, 3) := by decide +kernel
theorem dX7_readLine_185 : decode cX7_readLine 185 = .ok (.aload_n 0, 1) := by decide +kernel
theorem dX7_readLine_186 : decode cX7_readLine 186 = .ok (.getfield 114, 3) := by decide +kernel
theorem dX7_readLine_189 : decode cX7_readLine 189 = .ok (.iconst 4, 1) := by decide +kernel
theorem dX7_readLine_190 : decode cX7_readLine 190 = .ok (.if_icmp .ge 31, 3) := by decide +kernel
theorem dX7_readLine_193 : decode cX7_readLine 193 = .ok (.aload_n 0, 1) := by decide +kernel
theorem dX7_readLine_194 : decode cX7_readLine 194 = .ok (.getfield 87, 3) := by decide +kernel
theorem dX7_readLine_197 : decode cX7_readLine 197 = .ok (.iload_n 1, 1) := by decide +kernel
theorem dX7_readLine_198 : decode cX7_readLine 198 = .ok (.if_icmp .ge 23, 3) := by decide +kernel
theorem dX7_readLine_201 : decode cX7_readLine 201 = .ok (.aload_n 0, 1) := by decide +kernel
theorem dX7_readLine_202 : decode cX7_readLine 202 = .ok (.iload_n 1, 1) := by decide +kernel
theorem dX7_readLine_203 : decode cX7_readLine 203 = .ok (.bipush 44, 2) := by decide +kernel
theorem dX7_readLine_205 : decode cX7_readLine 205 = .ok (.invokevirtual 126, 3) := by decide +kernel
theorem dX7_readLine_208 : decode cX7_readLine 208 = .ok (.ifCond .eq 11, 3) := by decide +kernel
theorem dX7_readLine_211 : decode cX7_readLine 211 = .ok (.aload_n 0, 1) := by decide +kernel
theorem dX7_readLine_212 : decode cX7_readLine 212 = .ok (.iload_n 1, 1) := by decide +kernel
theorem dX7_readLine_213 : decode cX7_readLine 213 = .ok (.invokevirtual 134, 3) := by decide +kernel
theorem dX7_readLine_216 : decode cX7_readLine 216 = .ok (.ifCond .ne (-38), 3) := by decide +kernel
theorem dX7_readLine_219 : decode cX7_readLine 219 = .ok (.iconst 0, 1) := by decide +kernel
theorem dX7_readLine_220 : decode cX7_readLine 220 = .ok (.ireturn, 1) := by decide +kernel
theorem dX7_readLine_221 : decode cX7_readLine 221 = .ok (.aload_n 0, 1) := by decide +kernel
theorem dX7_readLine_222 : decode cX7_readLine 222 = .ok (.getfield 87, 3) := by decide +kernel
theorem dX7_readLine_225 : decode cX7_readLine 225 = .ok (.iload_n 1, 1) := by decide +kernel
theorem dX7_readLine_226 : decode cX7_readLine 226 = .ok (.if_icmp .ne 7, 3) := by decide +kernel
theorem dX7_readLine_229 : decode cX7_readLine 229 = .ok (.iconst 1, 1) := by decide +kernel
theorem dX7_readLine_230 : decode cX7_readLine 230 = .ok (.goto 4, 3) := by decide +kernel
theorem dX7_readLine_233 : decode cX7_readLine 233 = .ok (.iconst 0, 1) := by decide +kernel
theorem dX7_readLine_234 : decode cX7_readLine 234 = .ok (.ireturn, 1) := by decide +kernel
theorem dX7_readPassenger_0 : decode cX7_readPassenger 0 = .ok (.iconst 3, 1) := by decide +kernel
theorem dX7_readPassenger_1 : decode cX7_readPassenger 1 = .ok (.aload_n 0, 1) := by decide +kernel
theorem dX7_readPassenger_2 : decode cX7_readPassenger 2 = .ok (.getfield 114, 3) := by decide +kernel
theorem dX7_readPassenger_5 : decode cX7_readPassenger 5 = .ok (.imul, 1) := by decide +kernel
theorem dX7_readPassenger_6 : decode cX7_readPassenger 6 = .ok (.istore_n 2, 1) := by decide +kernel
theorem dX7_readPassenger_7 : decode cX7_readPassenger 7 = .ok (.aload_n 0, 1) := by decide +kernel
theorem dX7_readPassenger_8 : decode cX7_readPassenger 8 = .ok (.getfield 87, 3) := by decide +kernel
theorem dX7_readPassenger_11 : decode cX7_readPassenger 11 = .ok (.iload_n 1, 1) := by decide +kernel
theorem dX7_readPassenger_12 : decode cX7_readPassenger 12 = .ok (.if_icmp .ge 15, 3) := by decide +kernel
theorem dX7_readPassenger_15 : decode cX7_readPassenger 15 = .ok (.aload_n 0, 1) := by decide +kernel
theorem dX7_readPassenger_16 : decode cX7_readPassenger 16 = .ok (.getfield 16, 3) := by decide +kernel
theorem dX7_readPassenger_19 : decode cX7_readPassenger 19 = .ok (.aload_n 0, 1) := by decide +kernel
theorem dX7_readPassenger_20 : decode cX7_readPassenger 20 = .ok (.getfield 87, 3) := by decide +kernel
theorem dX7_readPassenger_23 : decode cX7_readPassenger 23 = .ok (.iaload, 1) := by decide +kernel
theorem dX7_readPassenger_24 : decode cX7_readPassenger 24 = .ok (.goto 4, 3) := by decide +kernel
theorem dX7_readPassenger_27 : decode cX7_readPassenger 27 = .ok (.iconst 0, 1) := by decide +kernel
theorem dX7_readPassenger_28 : decode cX7_readPassenger 28 = .ok (.istore_n 3, 1) := by decide +kernel
theorem dX7_readPassenger_29 : decode cX7_readPassenger 29 = .ok (.aload_n 0, 1) := by decide +kernel
theorem dX7_readPassenger_30 : decode cX7_readPassenger 30 = .ok (.getfield 47, 3) := by decide +kernel
theorem dX7_readPassenger_33 : decode cX7_readPassenger 33 = .ok (.iload_n 2, 1) := by decide +kernel
theorem dX7_readPassenger_34 : decode cX7_readPassenger 34 = .ok (.iload_n 3, 1) := by decide +kernel
theorem dX7_readPassenger_35 : decode cX7_readPassenger 35 = .ok (.bipush 112, 2) := by decide +kernel
theorem dX7_readPassenger_37 : decode cX7_readPassenger 37 = .ok (.if_icmp .ne 7, 3) := by decide +kernel
theorem dX7_readPassenger_40 : decode cX7_readPassenger 40 = .ok (.iconst 0, 1) := by decide +kernel
theorem dX7_readPassenger_41 : decode cX7_readPassenger 41 = .ok (.goto 25, 3) := by decide +kernel
theorem dX7_readPassenger_44 : decode cX7_readPassenger 44 = .ok (.iload_n 3, 1) := by decide +kernel
theorem dX7_readPassenger_45 : decode cX7_readPassenger 45 = .ok (.bipush 119, 2) := by decide +kernel
theorem dX7_readPassenger_47 : decode cX7_readPassenger 47 = .ok (.if_icmp .ne 7, 3) := by decide +kernel
theorem dX7_readPassenger_50 : decode cX7_readPassenger 50 = .ok (.iconst 1, 1) := by decide +kernel
theorem dX7_readPassenger_51 : decode cX7_readPassenger 51 = .ok (.goto 15, 3) := by decide +kernel
theorem dX7_readPassenger_54 : decode cX7_readPassenger 54 = .ok (.iload_n 3, 1) := by decide +kernel
theorem dX7_readPassenger_55 : decode cX7_readPassenger 55 = .ok (.bipush 104, 2) := by decide +kernel
theorem dX7_readPassenger_57 : decode cX7_readPassenger 57 = .ok (.if_icmp .ne 7, 3) := by decide +kernel
theorem dX7_readPassenger_60 : decode cX7_readPassenger 60 = .ok (.iconst 2, 1) := by decide +kernel
theorem dX7_readPassenger_61 : decode cX7_readPassenger 61 = .ok (.goto 5, 3) := by decide +kernel
theorem dX7_readPassenger_64 : decode cX7_readPassenger 64 = .ok (.bipush (-9), 2) := by decide +kernel
theorem dX7_readPassenger_66 : decode cX7_readPassenger 66 = .ok (.iastore, 1) := by decide +kernel
theorem dX7_readPassenger_67 : decode cX7_readPassenger 67 = .ok (.aload_n 0, 1) := by decide +kernel
theorem dX7_readPassenger_68 : decode cX7_readPassenger 68 = .ok (.getfield 47, 3) := by decide +kernel
theorem dX7_readPassenger_71 : decode cX7_readPassenger 71 = .ok (.iload_n 2, 1) := by decide +kernel
theorem dX7_readPassenger_72 : decode cX7_readPassenger 72 = .ok (.iaload, 1) := by decide +kernel
theorem dX7_readPassenger_73 : decode cX7_readPassenger 73 = .ok (.bipush (-9), 2) := by decide +kernel
theorem dX7_readPassenger_75 : decode cX7_readPassenger 75 = .ok (.if_icmp .ne 5, 3) := by decide +kernel
theorem dX7_readPassenger_78 : decode cX7_readPassenger 78 = .ok (.iconst 0, 1) := by decide +kernel
theorem dX7_readPassenger_79 : decode cX7_readPassenger 79 = .ok (.ireturn, 1) := by decide +kernel
theorem dX7_readPassenger_80 : decode cX7_readPassenger 80 = .ok (.aload_n 0, 1) := by decide +kernel
theorem dX7_readPassenger_81 : decode cX7_readPassenger 81 = .ok (.dup, 1) := by decide +kernel
theorem dX7_readPassenger_82 : decode cX7_readPassenger 82 = .ok (.getfield 87, 3) := by decide +kernel
theorem dX7_readPassenger_85 : decode cX7_readPassenger 85 = .ok (.iconst 1, 1) := by decide +kernel
theorem dX7_readPassenger_86 : decode cX7_readPassenger 86 = .ok (.iadd, 1) := by decide +kernel
theorem dX7_readPassenger_87 : decode cX7_readPassenger 87 = .ok (.putfield 87, 3) := by decide +kernel
theorem dX7_readPassenger_90 : decode cX7_readPassenger 90 = .ok (.aload_n 0, 1) := by decide +kernel
theorem dX7_readPassenger_91 : decode cX7_readPassenger 91 = .ok (.iload_n 1, 1) := by decide +kernel
theorem dX7_readPassenger_92 : decode cX7_readPassenger 92 = .ok (.iconst 0, 1) := by decide +kernel
theorem dX7_readPassenger_93 : decode cX7_readPassenger 93 = .ok (.iconst 5, 1) := by decide +kernel
theorem dX7_readPassenger_94 : decode cX7_readPassenger 94 = .ok (.invokevirtual 130, 3) := by decide +kernel
theorem dX7_readPassenger_97 : decode cX7_readPassenger 97 = .ok (.istore 4, 2) := by decide +kernel
theorem dX7_readPassenger_99 : decode cX7_readPassenger 99 = .ok (.iload 4, 2) := by decide +kernel
theorem dX7_readPassenger_101 : decode cX7_readPassenger 101 = .ok (.bipush (-9), 2) := by decide +kernel
theorem dX7_readPassenger_103 : decode cX7_readPassenger 103 = .ok (.if_icmp .ne 5, 3) := by decide +kernel
theorem dX7_readPassenger_106 : decode cX7_readPassenger 106 = .ok (.iconst 0, 1) := by decide +kernel
theorem dX7_readPassenger_107 : decode cX7_readPassenger 107 = .ok (.ireturn, 1) := by decide +kernel
theorem dX7_readPassenger_108 : decode cX7_readPassenger 108 = .ok (.aload_n 0, 1) := by decide +kernel
theorem dX7_readPassenger_109 : decode cX7_readPassenger 109 = .ok (.iload_n 1, 1) := by decide +kernel
theorem dX7_readPassenger_110 : decode cX7_readPassenger 110 = .ok (.iconst 0, 1) := by decide +kernel
theorem dX7_readPassenger_111 : decode cX7_readPassenger 111 = .ok (.bipush 9, 2) := by decide +kernel
theorem dX7_readPassenger_113 : decode cX7_readPassenger 113 = .ok (.invokevirtual 130, 3) := by decide +kernel
theorem dX7_readPassenger_116 : decode cX7_readPassenger 116 = .ok (.istore 5, 2) := by decide +kernel
theorem dX7_readPassenger_118 : decode cX7_readPassenger 118 = .ok (.iload 5, 2) := by decide +kernel
theorem dX7_readPassenger_120 : decode cX7_readPassenger 120 = .ok (.bipush (-9), 2) := by decide +kernel
theorem dX7_readPassenger_122 : decode cX7_readPassenger 122 = .ok (.if_icmp .ne 5, 3) := by decide +kernel
theorem dX7_readPassenger_125 : decode cX7_readPassenger 125 = .ok (.iconst 0, 1) := by decide +kernel
theorem dX7_readPassenger_126 : decode cX7_readPassenger 126 = .ok (.ireturn, 1) := by decide +kernel
theorem dX7_readPassenger_127 : decode cX7_readPassenger 127 = .ok (.aload_n 0, 1) := by decide +kernel
theorem dX7_readPassenger_128 : decode cX7_readPassenger 128 = .ok (.getfield 47, 3) := by decide +kernel
theorem dX7_readPassenger_131 : decode cX7_readPassenger 131 = .ok (.iload_n 2, 1) := by decide +kernel
theorem dX7_readPassenger_132 : decode cX7_readPassenger 132 = .ok (.iconst 1, 1) := by decide +kernel
theorem dX7_readPassenger_133 : decode cX7_readPassenger 133 = .ok (.iadd, 1) := by decide +kernel
theorem dX7_readPassenger_134 : decode cX7_readPassenger 134 = .ok (.bipush 10, 2) := by decide +kernel
theorem dX7_readPassenger_136 : decode cX7_readPassenger 136 = .ok (.iload 4, 2) := by decide +kernel
theorem dX7_readPassenger_138 : decode cX7_readPassenger 138 = .ok (.imul, 1) := by decide +kernel
theorem dX7_readPassenger_139 : decode cX7_readPassenger 139 = .ok (.iload 5, 2) := by decide +kernel
theorem dX7_readPassenger_141 : decode cX7_readPassenger 141 = .ok (.iadd, 1) := by decide +kernel
theorem dX7_readPassenger_142 : decode cX7_readPassenger 142 = .ok (.iastore, 1) := by decide +kernel
theorem dX7_readPassenger_143 : decode cX7_readPassenger 143 = .ok (.aload_n 0, 1) := by decide +kernel
theorem dX7_readPassenger_144 : decode cX7_readPassenger 144 = .ok (.getfield 47, 3) := by decide +kernel
theorem dX7_readPassenger_147 : decode cX7_readPassenger 147 = .ok (.iload_n 2, 1) := by decide +kernel
theorem dX7_readPassenger_148 : decode cX7_readPassenger 148 = .ok (.iconst 2, 1) := by decide +kernel
theorem dX7_readPassenger_149 : decode cX7_readPassenger 149 = .ok (.iadd, 1) := by decide +kernel
theorem dX7_readPassenger_150 : decode cX7_readPassenger 150 = .ok (.aload_n 0, 1) := by decide +kernel
theorem dX7_readPassenger_151 : decode cX7_readPassenger 151 = .ok (.iload_n 1, 1) := by decide +kernel
theorem dX7_readPassenger_152 : decode cX7_readPassenger 152 = .ok (.iconst 0, 1) := by decide +kernel
theorem dX7_readPassenger_153 : decode cX7_readPassenger 153 = .ok (.bipush 9, 2) := by decide +kernel
theorem dX7_readPassenger_155 : decode cX7_readPassenger 155 = .ok (.invokevirtual 130, 3) := by decide +kernel
theorem dX7_readPassenger_158 : decode cX7_readPassenger 158 = .ok (.iastore, 1) := by decide +kernel
theorem dX7_readPassenger_159 : decode cX7_readPassenger 159 = .ok (.aload_n 0, 1) := by decide +kernel
theorem dX7_readPassenger_160 : decode cX7_readPassenger 160 = .ok (.dup, 1) := by decide +kernel
theorem dX7_readPassenger_161 : decode cX7_readPassenger 161 = .ok (.getfield 114, 3) := by decide +kernel
theorem dX7_readPassenger_164 : decode cX7_readPassenger 164 = .ok (.iconst 1, 1) := by decide +kernel
theorem dX7_readPassenger_165 : decode cX7_readPassenger 165 = .ok (.iadd, 1) := by decide +kernel
theorem dX7_readPassenger_166 : decode cX7_readPassenger 166 = .ok (.putfield 114, 3) := by decide +kernel
theorem dX7_readPassenger_169 : decode cX7_readPassenger 169 = .ok (.aload_n 0, 1) := by decide +kernel
theorem dX7_readPassenger_170 : decode cX7_readPassenger 170 = .ok (.getfield 47, 3) := by decide +kernel
theorem dX7_readPassenger_173 : decode cX7_readPassenger 173 = .ok (.iload_n 2, 1) := by decide +kernel
theorem dX7_readPassenger_174 : decode cX7_readPassenger 174 = .ok (.iconst 2, 1) := by decide +kernel
theorem dX7_readPassenger_175 : decode cX7_readPassenger 175 = .ok (.iadd, 1) := by decide +kernel
theorem dX7_readPassenger_176 : decode cX7_readPassenger 176 = .ok (.iaload, 1) := by decide +kernel
theorem dX7_readPassenger_177 : decode cX7_readPassenger 177 = .ok (.bipush (-9), 2) := by decide +kernel
theorem dX7_readPassenger_179 : decode cX7_readPassenger 179 = .ok (.if_icmp .eq 7, 3) := by decide +kernel
theorem dX7_readPassenger_182 : decode cX7_readPassenger 182 = .ok (.iconst 1, 1) := by decide +kernel
theorem dX7_readPassenger_183 : decode cX7_readPassenger 183 = .ok (.goto 4, 3) := by decide +kernel
theorem dX7_readPassenger_186 : decode cX7_readPassenger 186 = .ok (.iconst 0, 1) := by decide +kernel
theorem dX7_readPassenger_187 : decode cX7_readPassenger 187 = .ok (.ireturn, 1) := by decide +kernel
theorem dX7_ofPassenger_0 : decode cX7_ofPassenger 0 = .ok (.aload_n 0, 1) := by decide +kernel
theorem dX7_ofPassenger_1 : decode cX7_ofPassenger 1 = .ok (.iload_n 1, 1) := by decide +kernel
theorem dX7_ofPassenger_2 : decode cX7_ofPassenger 2 = .ok (.invokevirtual 137, 3) := by decide +kernel
theorem dX7_ofPassenger_5 : decode cX7_ofPassenger 5 = .ok (.ifCond .ne 5, 3) := by decide +kernel
theorem dX7_ofPassenger_8 : decode cX7_ofPassenger 8 = .ok (.iconst (-1), 1) := by decide +kernel
theorem dX7_ofPassenger_9 : decode cX7_ofPassenger 9 = .ok (.ireturn, 1) := by decide +kernel
theorem dX7_ofPassenger_10 : decode cX7_ofPassenger 10 = .ok (.iload_n 2, 1) := by decide +kernel
theorem dX7_ofPassenger_11 : decode cX7_ofPassenger 11 = .ok (.ifCond .ne 12, 3) := by decide +kernel
theorem dX7_ofPassenger_14 : decode cX7_ofPassenger 14 = .ok (.aload_n 0, 1) := by decide +kernel
theorem dX7_ofPassenger_15 : decode cX7_ofPassenger 15 = .ok (.getfield 32, 3) := by decide +kernel
theorem dX7_ofPassenger_18 : decode cX7_ofPassenger 18 = .ok (.iload_n 1, 1) := by decide +kernel
theorem dX7_ofPassenger_19 : decode cX7_ofPassenger 19 = .ok (.iaload, 1) := by decide +kernel
theorem dX7_ofPassenger_20 : decode cX7_ofPassenger 20 = .ok (.goto 33, 3) := by decide +kernel
theorem dX7_ofPassenger_23 : decode cX7_ofPassenger 23 = .ok (.iload_n 2, 1) := by decide +kernel
theorem dX7_ofPassenger_24 : decode cX7_ofPassenger 24 = .ok (.iconst 1, 1) := by decide +kernel
theorem dX7_ofPassenger_25 : decode cX7_ofPassenger 25 = .ok (.if_icmp .ne 12, 3) := by decide +kernel
theorem dX7_ofPassenger_28 : decode cX7_ofPassenger 28 = .ok (.aload_n 0, 1) := by decide +kernel
theorem dX7_ofPassenger_29 : decode cX7_ofPassenger 29 = .ok (.getfield 35, 3) := by decide +kernel
theorem dX7_ofPassenger_32 : decode cX7_ofPassenger 32 = .ok (.iload_n 1, 1) := by decide +kernel
theorem dX7_ofPassenger_33 : decode cX7_ofPassenger 33 = .ok (.iaload, 1) := by decide +kernel
theorem dX7_ofPassenger_34 : decode cX7_ofPassenger 34 = .ok (.goto 19, 3) := by decide +kernel
theorem dX7_ofPassenger_37 : decode cX7_ofPassenger 37 = .ok (.iload_n 2, 1) := by decide +kernel
theorem dX7_ofPassenger_38 : decode cX7_ofPassenger 38 = .ok (.iconst 2, 1) := by decide +kernel
theorem dX7_ofPassenger_39 : decode cX7_ofPassenger 39 = .ok (.if_icmp .ne 12, 3) := by decide +kernel
theorem dX7_ofPassenger_42 : decode cX7_ofPassenger 42 = .ok (.aload_n 0, 1) := by decide +kernel
theorem dX7_ofPassenger_43 : decode cX7_ofPassenger 43 = .ok (.getfield 38, 3) := by decide +kernel
theorem dX7_ofPassenger_46 : decode cX7_ofPassenger 46 = .ok (.iload_n 1, 1) := by decide +kernel
theorem dX7_ofPassenger_47 : decode cX7_ofPassenger 47 = .ok (.iaload, 1) := by decide +kernel
theorem dX7_ofPassenger_48 : decode cX7_ofPassenger 48 = .ok (.goto 5, 3) := by decide +kernel
theorem dX7_ofPassenger_51 : decode cX7_ofPassenger 51 = .ok (.bipush (-2), 2) := by decide +kernel
theorem dX7_ofPassenger_53 : decode cX7_ofPassenger 53 = .ok (.ireturn, 1) := by decide +kernel
theorem dX7_seats_0 : decode cX7_seats 0 = .ok (.aload_n 0, 1) := by decide +kernel
theorem dX7_seats_1 : decode cX7_seats 1 = .ok (.getfield 84, 3) := by decide +kernel
theorem dX7_seats_4 : decode cX7_seats 4 = .ok (.ifCond .ne 6, 3) := by decide +kernel
theorem dX7_seats_7 : decode cX7_seats 7 = .ok (.bipush (-3), 2) := by decide +kernel
theorem dX7_seats_9 : decode cX7_seats 9 = .ok (.ireturn, 1) := by decide +kernel
theorem dX7_seats_10 : decode cX7_seats 10 = .ok (.iload_n 1, 1) := by decide +kernel
theorem dX7_seats_11 : decode cX7_seats 11 = .ok (.iconst 0, 1) := by decide +kernel
theorem dX7_seats_12 : decode cX7_seats 12 = .ok (.iconst 2, 1) := by decide +kernel
theorem dX7_seats_13 : decode cX7_seats 13 = .ok (.invokestatic 77, 3) := by decide +kernel
theorem dX7_seats_16 : decode cX7_seats 16 = .ok (.ifCond .eq 12, 3) := by decide +kernel
theorem dX7_seats_19 : decode cX7_seats 19 = .ok (.iload_n 2, 1) := by decide +kernel
theorem dX7_seats_20 : decode cX7_seats 20 = .ok (.iconst 0, 1) := by decide +kernel
theorem dX7_seats_21 : decode cX7_seats 21 = .ok (.iconst 4, 1) := by decide +kernel
theorem dX7_seats_22 : decode cX7_seats 22 = .ok (.invokestatic 77, 3) := by decide +kernel
theorem dX7_seats_25 : decode cX7_seats 25 = .ok (.ifCond .ne 6, 3) := by decide +kernel
theorem dX7_seats_28 : decode cX7_seats 28 = .ok (.bipush (-2), 2) := by decide +kernel
theorem dX7_seats_30 : decode cX7_seats 30 = .ok (.ireturn, 1) := by decide +kernel
theorem dX7_seats_31 : decode cX7_seats 31 = .ok (.aload_n 0, 1) := by decide +kernel
theorem dX7_seats_32 : decode cX7_seats 32 = .ok (.getfield 19, 3) := by decide +kernel
theorem dX7_seats_35 : decode cX7_seats 35 = .ok (.iload_n 1, 1) := by decide +kernel
theorem dX7_seats_36 : decode cX7_seats 36 = .ok (.iaload, 1) := by decide +kernel
theorem dX7_seats_37 : decode cX7_seats 37 = .ok (.istore_n 3, 1) := by decide +kernel
theorem dX7_seats_38 : decode cX7_seats 38 = .ok (.aload_n 0, 1) := by decide +kernel
theorem dX7_seats_39 : decode cX7_seats 39 = .ok (.getfield 19, 3) := by decide +kernel
theorem dX7_seats_42 : decode cX7_seats 42 = .ok (.iload_n 1, 1) := by decide +kernel
theorem dX7_seats_43 : decode cX7_seats 43 = .ok (.iload_n 2, 1) := by decide +kernel
theorem dX7_seats_44 : decode cX7_seats 44 = .ok (.iastore, 1) := by decide +kernel
theorem dX7_seats_45 : decode cX7_seats 45 = .ok (.iload_n 3, 1) := by decide +kernel
theorem dX7_seats_46 : decode cX7_seats 46 = .ok (.ireturn, 1) := by decide +kernel
theorem dX7_limits_0 : decode cX7_limits 0 = .ok (.aload_n 0, 1) := by decide +kernel
theorem dX7_limits_1 : decode cX7_limits 1 = .ok (.getfield 84, 3) := by decide +kernel
theorem dX7_limits_4 : decode cX7_limits 4 = .ok (.ifCond .ne 6, 3) := by decide +kernel
theorem dX7_limits_7 : decode cX7_limits 7 = .ok (.bipush (-3), 2) := by decide +kernel
theorem dX7_limits_9 : decode cX7_limits 9 = .ok (.ireturn, 1) := by decide +kernel
theorem dX7_limits_10 : decode cX7_limits 10 = .ok (.iload_n 1, 1) := by decide +kernel
theorem dX7_limits_11 : decode cX7_limits 11 = .ok (.iconst 0, 1) := by decide +kernel
theorem dX7_limits_12 : decode cX7_limits 12 = .ok (.bipush 99, 2) := by decide +kernel
theorem dX7_limits_14 : decode cX7_limits 14 = .ok (.invokestatic 77, 3) := by decide +kernel
theorem dX7_limits_17 : decode cX7_limits 17 = .ok (.ifCond .eq 13, 3) := by decide +kernel
theorem dX7_limits_20 : decode cX7_limits 20 = .ok (.iload_n 2, 1) := by decide +kernel
theorem dX7_limits_21 : decode cX7_limits 21 = .ok (.iload_n 1, 1) := by decide +kernel
theorem dX7_limits_22 : decode cX7_limits 22 = .ok (.bipush 99, 2) := by decide +kernel
theorem dX7_limits_24 : decode cX7_limits 24 = .ok (.invokestatic 77, 3) := by decide +kernel
theorem dX7_limits_27 : decode cX7_limits 27 = .ok (.ifCond .ne 6, 3) := by decide +kernel
theorem dX7_limits_30 : decode cX7_limits 30 = .ok (.bipush (-2), 2) := by decide +kernel
theorem dX7_limits_32 : decode cX7_limits 32 = .ok (.ireturn, 1) := by decide +kernel
theorem dX7_limits_33 : decode cX7_limits 33 = .ok (.bipush 100, 2) := by decide +kernel
theorem dX7_limits_35 : decode cX7_limits 35 = .ok (.aload_n 0, 1) := by decide +kernel
theorem dX7_limits_36 : decode cX7_limits 36 = .ok (.getfield 117, 3) := by decide +kernel
theorem dX7_limits_39 : decode cX7_limits 39 = .ok (.imul, 1) := by decide +kernel
theorem dX7_limits_40 : decode cX7_limits 40 = .ok (.aload_n 0, 1) := by decide +kernel
theorem dX7_limits_41 : decode cX7_limits 41 = .ok (.getfield 120, 3) := by decide +kernel
theorem dX7_limits_44 : decode cX7_limits 44 = .ok (.iadd, 1) := by decide +kernel
theorem dX7_limits_45 : decode cX7_limits 45 = .ok (.istore_n 3, 1) := by decide +kernel
theorem dX7_limits_46 : decode cX7_limits 46 = .ok (.aload_n 0, 1) := by decide +kernel
theorem dX7_limits_47 : decode cX7_limits 47 = .ok (.iload_n 1, 1) := by decide +kernel
theorem dX7_limits_48 : decode cX7_limits 48 = .ok (.putfield 117, 3) := by decide +kernel
theorem dX7_limits_51 : decode cX7_limits 51 = .ok (.aload_n 0, 1) := by decide +kernel
theorem dX7_limits_52 : decode cX7_limits 52 = .ok (.iload_n 2, 1) := by decide +kernel
theorem dX7_limits_53 : decode cX7_limits 53 = .ok (.putfield 120, 3) := by decide +kernel
theorem dX7_limits_56 : decode cX7_limits 56 = .ok (.iload_n 3, 1) := by decide +kernel
theorem dX7_limits_57 : decode cX7_limits 57 = .ok (.ireturn, 1) := by decide +kernel
theorem dX7_dig_0 : decode cX7_dig 0 = .ok (.aload_n 0, 1) := by decide +kernel
theorem dX7_dig_1 : decode cX7_dig 1 = .ok (.getfield 84, 3) := by decide +kernel
theorem dX7_dig_4 : decode cX7_dig 4 = .ok (.ifCond .ne 6, 3) := by decide +kernel
theorem dX7_dig_7 : decode cX7_dig 7 = .ok (.bipush (-3), 2) := by decide +kernel
theorem dX7_dig_9 : decode cX7_dig 9 = .ok (.ireturn, 1) := by decide +kernel
theorem dX7_dig_10 : decode cX7_dig 10 = .ok (.aload_n 0, 1) := by decide +kernel
theorem dX7_dig_11 : decode cX7_dig 11 = .ok (.iload_n 1, 1) := by decide +kernel
theorem dX7_dig_12 : decode cX7_dig 12 = .ok (.invokevirtual 140, 3) := by decide +kernel
theorem dX7_dig_15 : decode cX7_dig 15 = .ok (.ifCond .ne 6, 3) := by decide +kernel
theorem dX7_dig_18 : decode cX7_dig 18 = .ok (.bipush (-2), 2) := by decide +kernel
theorem dX7_dig_20 : decode cX7_dig 20 = .ok (.ireturn, 1) := by decide +kernel
theorem dX7_dig_21 : decode cX7_dig 21 = .ok (.aload_n 0, 1) := by decide +kernel
theorem dX7_dig_22 : decode cX7_dig 22 = .ok (.getfield 22, 3) := by decide +kernel
theorem dX7_dig_25 : decode cX7_dig 25 = .ok (.iload_n 1, 1) := by decide +kernel
theorem dX7_dig_26 : decode cX7_dig 26 = .ok (.baload, 1) := by decide +kernel
theorem dX7_dig_27 : decode cX7_dig 27 = .ok (.istore_n 3, 1) := by decide +kernel
theorem dX7_dig_28 : decode cX7_dig 28 = .ok (.aload_n 0, 1) := by decide +kernel
theorem dX7_dig_29 : decode cX7_dig 29 = .ok (.getfield 22, 3) := by decide +kernel
theorem dX7_dig_32 : decode cX7_dig 32 = .ok (.iload_n 1, 1) := by decide +kernel
theorem dX7_dig_33 : decode cX7_dig 33 = .ok (.iload_n 2, 1) := by decide +kernel
theorem dX7_dig_34 : decode cX7_dig 34 = .ok (.bastore, 1) := by decide +kernel
theorem dX7_dig_35 : decode cX7_dig 35 = .ok (.iload_n 3, 1) := by decide +kernel
theorem dX7_dig_36 : decode cX7_dig 36 = .ok (.iload_n 2, 1) := by decide +kernel
theorem dX7_dig_37 : decode cX7_dig 37 = .ok (.if_icmp .ne 7, 3) := by decide +kernel
theorem dX7_dig_40 : decode cX7_dig 40 = .ok (.iconst 0, 1) := by decide +kernel
theorem dX7_dig_41 : decode cX7_dig 41 = .ok (.goto 4, 3) := by decide +kernel
theorem dX7_dig_44 : decode cX7_dig 44 = .ok (.iconst 1, 1) := by decide +kernel
theorem dX7_dig_45 : decode cX7_dig 45 = .ok (.ireturn, 1) := by decide +kernel
theorem dX7_talk_0 : decode cX7_talk 0 = .ok (.aload_n 0, 1) := by decide +kernel
theorem dX7_talk_1 : decode cX7_talk 1 = .ok (.getfield 84, 3) := by decide +kernel
theorem dX7_talk_4 : decode cX7_talk 4 = .ok (.ifCond .ne 6, 3) := by decide +kernel
theorem dX7_talk_7 : decode cX7_talk 7 = .ok (.bipush (-3), 2) := by decide +kernel
theorem dX7_talk_9 : decode cX7_talk 9 = .ok (.ireturn, 1) := by decide +kernel
theorem dX7_talk_10 : decode cX7_talk 10 = .ok (.aload_n 0, 1) := by decide +kernel
theorem dX7_talk_11 : decode cX7_talk 11 = .ok (.iload_n 1, 1) := by decide +kernel
theorem dX7_talk_12 : decode cX7_talk 12 = .ok (.invokevirtual 140, 3) := by decide +kernel
theorem dX7_talk_15 : decode cX7_talk 15 = .ok (.ifCond .ne 6, 3) := by decide +kernel
theorem dX7_talk_18 : decode cX7_talk 18 = .ok (.bipush (-2), 2) := by decide +kernel
theorem dX7_talk_20 : decode cX7_talk 20 = .ok (.ireturn, 1) := by decide +kernel
theorem dX7_talk_21 : decode cX7_talk 21 = .ok (.iload_n 2, 1) := by decide +kernel
theorem dX7_talk_22 : decode cX7_talk 22 = .ok (.bipush (-9), 2) := by decide +kernel
theorem dX7_talk_24 : decode cX7_talk 24 = .ok (.if_icmp .ne 13, 3) := by decide +kernel
theorem dX7_talk_27 : decode cX7_talk 27 = .ok (.iload_n 3, 1) := by decide +kernel
theorem dX7_talk_28 : decode cX7_talk 28 = .ok (.bipush (-9), 2) := by decide +kernel
theorem dX7_talk_30 : decode cX7_talk 30 = .ok (.if_icmp .ne 7, 3) := by decide +kernel
theorem dX7_talk_33 : decode cX7_talk 33 = .ok (.iconst 1, 1) := by decide +kernel
theorem dX7_talk_34 : decode cX7_talk 34 = .ok (.goto 4, 3) := by decide +kernel
theorem dX7_talk_37 : decode cX7_talk 37 = .ok (.iconst 0, 1) := by decide +kernel
theorem dX7_talk_38 : decode cX7_talk 38 = .ok (.istore 4, 2) := by decide +kernel
theorem dX7_talk_40 : decode cX7_talk 40 = .ok (.iload 4, 2) := by decide +kernel
theorem dX7_talk_42 : decode cX7_talk 42 = .ok (.ifCond .ne 26, 3) := by decide +kernel
theorem dX7_talk_45 : decode cX7_talk 45 = .ok (.aload_n 0, 1) := by decide +kernel
theorem dX7_talk_46 : decode cX7_talk 46 = .ok (.iload_n 2, 1) := by decide +kernel
theorem dX7_talk_47 : decode cX7_talk 47 = .ok (.invokevirtual 137, 3) := by decide +kernel
theorem dX7_talk_50 : decode cX7_talk 50 = .ok (.ifCond .eq 16, 3) := by decide +kernel
theorem dX7_talk_53 : decode cX7_talk 53 = .ok (.aload_n 0, 1) := by decide +kernel
theorem dX7_talk_54 : decode cX7_talk 54 = .ok (.iload_n 3, 1) := by decide +kernel
theorem dX7_talk_55 : decode cX7_talk 55 = .ok (.invokevirtual 137, 3) := by decide +kernel
theorem dX7_talk_58 : decode cX7_talk 58 = .ok (.ifCond .eq 8, 3) := by decide +kernel
theorem dX7_talk_61 : decode cX7_talk 61 = .ok (.iload_n 2, 1) := by decide +kernel
theorem dX7_talk_62 : decode cX7_talk 62 = .ok (.iload_n 3, 1) := by decide +kernel
theorem dX7_talk_63 : decode cX7_talk 63 = .ok (.if_icmp .ne 5, 3) := by decide +kernel
theorem dX7_talk_66 : decode cX7_talk 66 = .ok (.iconst (-1), 1) := by decide +kernel
theorem dX7_talk_67 : decode cX7_talk 67 = .ok (.ireturn, 1) := by decide +kernel
theorem dX7_talk_68 : decode cX7_talk 68 = .ok (.aload_n 0, 1) := by decide +kernel
theorem dX7_talk_69 : decode cX7_talk 69 = .ok (.getfield 26, 3) := by decide +kernel
theorem dX7_talk_72 : decode cX7_talk 72 = .ok (.iload_n 1, 1) := by decide +kernel
theorem dX7_talk_73 : decode cX7_talk 73 = .ok (.iaload, 1) := by decide +kernel
theorem dX7_talk_74 : decode cX7_talk 74 = .ok (.bipush (-9), 2) := by decide +kernel
theorem dX7_talk_76 : decode cX7_talk 76 = .ok (.if_icmp .ne 8, 3) := by decide +kernel
theorem dX7_talk_79 : decode cX7_talk 79 = .ok (.bipush (-9), 2) := by decide +kernel
theorem dX7_talk_81 : decode cX7_talk 81 = .ok (.goto 19, 3) := by decide +kernel
theorem dX7_talk_84 : decode cX7_talk 84 = .ok (.bipush 10, 2) := by decide +kernel
theorem dX7_talk_86 : decode cX7_talk 86 = .ok (.aload_n 0, 1) := by decide +kernel
theorem dX7_talk_87 : decode cX7_talk 87 = .ok (.getfield 26, 3) := by decide +kernel
theorem dX7_talk_90 : decode cX7_talk 90 = .ok (.iload_n 1, 1) := by decide +kernel
theorem dX7_talk_91 : decode cX7_talk 91 = .ok (.iaload, 1) := by decide +kernel
theorem dX7_talk_92 : decode cX7_talk 92 = .ok (.imul, 1) := by decide +kernel
theorem dX7_talk_93 : decode cX7_talk 93 = .ok (.aload_n 0, 1) := by decide +kernel
theorem dX7_talk_94 : decode cX7_talk 94 = .ok (.getfield 29, 3) := by decide +kernel
theorem dX7_talk_97 : decode cX7_talk 97 = .ok (.iload_n 1, 1) := by decide +kernel
theorem dX7_talk_98 : decode cX7_talk 98 = .ok (.iaload, 1) := by decide +kernel
theorem dX7_talk_99 : decode cX7_talk 99 = .ok (.iadd, 1) := by decide +kernel
theorem dX7_talk_100 : decode cX7_talk 100 = .ok (.istore 5, 2) := by decide +kernel
theorem dX7_talk_102 : decode cX7_talk 102 = .ok (.aload_n 0, 1) := by decide +kernel
theorem dX7_talk_103 : decode cX7_talk 103 = .ok (.getfield 26, 3) := by decide +kernel
theorem dX7_talk_106 : decode cX7_talk 106 = .ok (.iload_n 1, 1) := by decide +kernel
theorem dX7_talk_107 : decode cX7_talk 107 = .ok (.iload_n 2, 1) := by decide +kernel
theorem dX7_talk_108 : decode cX7_talk 108 = .ok (.iastore, 1) := by decide +kernel
theorem dX7_talk_109 : decode cX7_talk 109 = .ok (.aload_n 0, 1) := by decide +kernel
theorem dX7_talk_110 : decode cX7_talk 110 = .ok (.getfield 29, 3) := by decide +kernel
theorem dX7_talk_113 : decode cX7_talk 113 = .ok (.iload_n 1, 1) := by decide +kernel
theorem dX7_talk_114 : decode cX7_talk 114 = .ok (.iload_n 3, 1) := by decide +kernel
theorem dX7_talk_115 : decode cX7_talk 115 = .ok (.iastore, 1) := by decide +kernel
theorem dX7_talk_116 : decode cX7_talk 116 = .ok (.iload 5, 2) := by decide +kernel
theorem dX7_talk_118 : decode cX7_talk 118 = .ok (.ireturn, 1) := by decide +kernel
theorem dX7_bounded_0 : decode cX7_bounded 0 = .ok (.iload_n 0, 1) := by decide +kernel
theorem dX7_bounded_1 : decode cX7_bounded 1 = .ok (.ifCond .ge 7, 3) := by decide +kernel
theorem dX7_bounded_4 : decode cX7_bounded 4 = .ok (.iconst 0, 1) := by decide +kernel
theorem dX7_bounded_5 : decode cX7_bounded 5 = .ok (.goto 15, 3) := by decide +kernel
theorem dX7_bounded_8 : decode cX7_bounded 8 = .ok (.iload_n 0, 1) := by decide +kernel
theorem dX7_bounded_9 : decode cX7_bounded 9 = .ok (.bipush 99, 2) := by decide +kernel
theorem dX7_bounded_11 : decode cX7_bounded 11 = .ok (.if_icmp .le 8, 3) := by decide +kernel
theorem dX7_bounded_14 : decode cX7_bounded 14 = .ok (.bipush 99, 2) := by decide +kernel
theorem dX7_bounded_16 : decode cX7_bounded 16 = .ok (.goto 4, 3) := by decide +kernel
theorem dX7_bounded_19 : decode cX7_bounded 19 = .ok (.iload_n 0, 1) := by decide +kernel
theorem dX7_bounded_20 : decode cX7_bounded 20 = .ok (.ireturn, 1) := by decide +kernel
theorem dX7_changes_0 : decode cX7_changes 0 = .ok (.iload_n 2, 1) := by decide +kernel
theorem dX7_changes_1 : decode cX7_changes 1 = .ok (.ifCond .eq 20, 3) := by decide +kernel
theorem dX7_changes_4 : decode cX7_changes 4 = .ok (.aload_n 0, 1) := by decide +kernel
theorem dX7_changes_5 : decode cX7_changes 5 = .ok (.getfield 32, 3) := by decide +kernel
theorem dX7_changes_8 : decode cX7_changes 8 = .ok (.iload_n 1, 1) := by decide +kernel
theorem dX7_changes_9 : decode cX7_changes 9 = .ok (.iaload, 1) := by decide +kernel
theorem dX7_changes_10 : decode cX7_changes 10 = .ok (.iconst 2, 1) := by decide +kernel
theorem dX7_changes_11 : decode cX7_changes 11 = .ok (.if_icmp .ne 8, 3) := by decide +kernel
theorem dX7_changes_14 : decode cX7_changes 14 = .ok (.bipush 10, 2) := by decide +kernel
theorem dX7_changes_16 : decode cX7_changes 16 = .ok (.goto 4, 3) := by decide +kernel
theorem dX7_changes_19 : decode cX7_changes 19 = .ok (.iconst 5, 1) := by decide +kernel
theorem dX7_changes_20 : decode cX7_changes 20 = .ok (.ireturn, 1) := by decide +kernel
theorem dX7_changes_21 : decode cX7_changes 21 = .ok (.aload_n 0, 1) := by decide +kernel
theorem dX7_changes_22 : decode cX7_changes 22 = .ok (.getfield 32, 3) := by decide +kernel
theorem dX7_changes_25 : decode cX7_changes 25 = .ok (.iload_n 1, 1) := by decide +kernel
theorem dX7_changes_26 : decode cX7_changes 26 = .ok (.iaload, 1) := by decide +kernel
theorem dX7_changes_27 : decode cX7_changes 27 = .ok (.iconst 1, 1) := by decide +kernel
theorem dX7_changes_28 : decode cX7_changes 28 = .ok (.if_icmp .ne 23, 3) := by decide +kernel
theorem dX7_changes_31 : decode cX7_changes 31 = .ok (.aload_n 0, 1) := by decide +kernel
theorem dX7_changes_32 : decode cX7_changes 32 = .ok (.getfield 38, 3) := by decide +kernel
theorem dX7_changes_35 : decode cX7_changes 35 = .ok (.iload_n 1, 1) := by decide +kernel
theorem dX7_changes_36 : decode cX7_changes 36 = .ok (.iaload, 1) := by decide +kernel
theorem dX7_changes_37 : decode cX7_changes 37 = .ok (.ifCond .le 14, 3) := by decide +kernel
theorem dX7_changes_40 : decode cX7_changes 40 = .ok (.iconst 1, 1) := by decide +kernel
theorem dX7_changes_41 : decode cX7_changes 41 = .ok (.aload_n 0, 1) := by decide +kernel
theorem dX7_changes_42 : decode cX7_changes 42 = .ok (.getfield 38, 3) := by decide +kernel
theorem dX7_changes_45 : decode cX7_changes 45 = .ok (.iload_n 1, 1) := by decide +kernel
theorem dX7_changes_46 : decode cX7_changes 46 = .ok (.iaload, 1) := by decide +kernel
theorem dX7_changes_47 : decode cX7_changes 47 = .ok (.isub, 1) := by decide +kernel
theorem dX7_changes_48 : decode cX7_changes 48 = .ok (.goto 10, 3) := by decide +kernel
theorem dX7_changes_51 : decode cX7_changes 51 = .ok (.aload_n 0, 1) := by decide +kernel
theorem dX7_changes_52 : decode cX7_changes 52 = .ok (.getfield 38, 3) := by decide +kernel
theorem dX7_changes_55 : decode cX7_changes 55 = .ok (.iload_n 1, 1) := by decide +kernel
theorem dX7_changes_56 : decode cX7_changes 56 = .ok (.iaload, 1) := by decide +kernel
theorem dX7_changes_57 : decode cX7_changes 57 = .ok (.ineg, 1) := by decide +kernel
theorem dX7_changes_58 : decode cX7_changes 58 = .ok (.ireturn, 1) := by decide +kernel
theorem dX7_goMile_0 : decode cX7_goMile 0 = .ok (.iconst 0, 1) := by decide +kernel
theorem dX7_goMile_1 : decode cX7_goMile 1 = .ok (.istore_n 3, 1) := by decide +kernel
theorem dX7_goMile_2 : decode cX7_goMile 2 = .ok (.iload_n 3, 1) := by decide +kernel
theorem dX7_goMile_3 : decode cX7_goMile 3 = .ok (.aload_n 0, 1) := by decide +kernel
theorem dX7_goMile_4 : decode cX7_goMile 4 = .ok (.getfield 81, 3) := by decide +kernel
theorem dX7_goMile_7 : decode cX7_goMile 7 = .ok (.if_icmp .ge 31, 3) := by decide +kernel
theorem dX7_goMile_10 : decode cX7_goMile 10 = .ok (.aload_n 0, 1) := by decide +kernel
theorem dX7_goMile_11 : decode cX7_goMile 11 = .ok (.getfield 50, 3) := by decide +kernel
theorem dX7_goMile_14 : decode cX7_goMile 14 = .ok (.iload_n 3, 1) := by decide +kernel
theorem dX7_goMile_15 : decode cX7_goMile 15 = .ok (.aload_n 0, 1) := by decide +kernel
theorem dX7_goMile_16 : decode cX7_goMile 16 = .ok (.getfield 50, 3) := by decide +kernel
theorem dX7_goMile_19 : decode cX7_goMile 19 = .ok (.iload_n 3, 1) := by decide +kernel
theorem dX7_goMile_20 : decode cX7_goMile 20 = .ok (.iaload, 1) := by decide +kernel
theorem dX7_goMile_21 : decode cX7_goMile 21 = .ok (.aload_n 0, 1) := by decide +kernel
theorem dX7_goMile_22 : decode cX7_goMile 22 = .ok (.iload_n 3, 1) := by decide +kernel
theorem dX7_goMile_23 : decode cX7_goMile 23 = .ok (.iload_n 2, 1) := by decide +kernel
theorem dX7_goMile_24 : decode cX7_goMile 24 = .ok (.invokevirtual 143, 3) := by decide +kernel
theorem dX7_goMile_27 : decode cX7_goMile 27 = .ok (.iadd, 1) := by decide +kernel
theorem dX7_goMile_28 : decode cX7_goMile 28 = .ok (.invokestatic 147, 3) := by decide +kernel
theorem dX7_goMile_31 : decode cX7_goMile 31 = .ok (.iastore, 1) := by decide +kernel
theorem dX7_goMile_32 : decode cX7_goMile 32 = .ok (.iinc 3 1, 3) := by decide +kernel
theorem dX7_goMile_35 : decode cX7_goMile 35 = .ok (.goto (-33), 3) := by decide +kernel
theorem dX7_goMile_38 : decode cX7_goMile 38 = .ok (.aload_n 0, 1) := by decide +kernel
theorem dX7_goMile_39 : decode cX7_goMile 39 = .ok (.getfield 26, 3) := by decide +kernel
theorem dX7_goMile_42 : decode cX7_goMile 42 = .ok (.iload_n 1, 1) := by decide +kernel
theorem dX7_goMile_43 : decode cX7_goMile 43 = .ok (.iaload, 1) := by decide +kernel
theorem dX7_goMile_44 : decode cX7_goMile 44 = .ok (.bipush (-9), 2) := by decide +kernel
theorem dX7_goMile_46 : decode cX7_goMile 46 = .ok (.if_icmp .eq 53, 3) := by decide +kernel
theorem dX7_goMile_49 : decode cX7_goMile 49 = .ok (.aload_n 0, 1) := by decide +kernel
theorem dX7_goMile_50 : decode cX7_goMile 50 = .ok (.getfield 50, 3) := by decide +kernel
theorem dX7_goMile_53 : decode cX7_goMile 53 = .ok (.aload_n 0, 1) := by decide +kernel
theorem dX7_goMile_54 : decode cX7_goMile 54 = .ok (.getfield 26, 3) := by decide +kernel
theorem dX7_goMile_57 : decode cX7_goMile 57 = .ok (.iload_n 1, 1) := by decide +kernel
theorem dX7_goMile_58 : decode cX7_goMile 58 = .ok (.iaload, 1) := by decide +kernel
theorem dX7_goMile_59 : decode cX7_goMile 59 = .ok (.iaload, 1) := by decide +kernel
theorem dX7_goMile_60 : decode cX7_goMile 60 = .ok (.aload_n 0, 1) := by decide +kernel
theorem dX7_goMile_61 : decode cX7_goMile 61 = .ok (.getfield 50, 3) := by decide +kernel
theorem dX7_goMile_64 : decode cX7_goMile 64 = .ok (.aload_n 0, 1) := by decide +kernel
theorem dX7_goMile_65 : decode cX7_goMile 65 = .ok (.getfield 29, 3) := by decide +kernel
theorem dX7_goMile_68 : decode cX7_goMile 68 = .ok (.iload_n 1, 1) := by decide +kernel
theorem dX7_goMile_69 : decode cX7_goMile 69 = .ok (.iaload, 1) := by decide +kernel
theorem dX7_goMile_70 : decode cX7_goMile 70 = .ok (.iaload, 1) := by decide +kernel
theorem dX7_goMile_71 : decode cX7_goMile 71 = .ok (.iadd, 1) := by decide +kernel
theorem dX7_goMile_72 : decode cX7_goMile 72 = .ok (.iconst 2, 1) := by decide +kernel
theorem dX7_goMile_73 : decode cX7_goMile 73 = .ok (.idiv, 1) := by decide +kernel
theorem dX7_goMile_74 : decode cX7_goMile 74 = .ok (.istore_n 3, 1) := by decide +kernel
theorem dX7_goMile_75 : decode cX7_goMile 75 = .ok (.aload_n 0, 1) := by decide +kernel
theorem dX7_goMile_76 : decode cX7_goMile 76 = .ok (.getfield 50, 3) := by decide +kernel
theorem dX7_goMile_79 : decode cX7_goMile 79 = .ok (.aload_n 0, 1) := by decide +kernel
theorem dX7_goMile_80 : decode cX7_goMile 80 = .ok (.getfield 26, 3) := by decide +kernel
theorem dX7_goMile_83 : decode cX7_goMile 83 = .ok (.iload_n 1, 1) := by decide +kernel
theorem dX7_goMile_84 : decode cX7_goMile 84 = .ok (.iaload, 1) := by decide +kernel
theorem dX7_goMile_85 : decode cX7_goMile 85 = .ok (.iload_n 3, 1) := by decide +kernel
theorem dX7_goMile_86 : decode cX7_goMile 86 = .ok (.iastore, 1) := by decide +kernel
theorem dX7_goMile_87 : decode cX7_goMile 87 = .ok (.aload_n 0, 1) := by decide +kernel
theorem dX7_goMile_88 : decode cX7_goMile 88 = .ok (.getfield 50, 3) := by decide +kernel
theorem dX7_goMile_91 : decode cX7_goMile 91 = .ok (.aload_n 0, 1) := by decide +kernel
theorem dX7_goMile_92 : decode cX7_goMile 92 = .ok (.getfield 29, 3) := by decide +kernel
theorem dX7_goMile_95 : decode cX7_goMile 95 = .ok (.iload_n 1, 1) := by decide +kernel
theorem dX7_goMile_96 : decode cX7_goMile 96 = .ok (.iaload, 1) := by decide +kernel
theorem dX7_goMile_97 : decode cX7_goMile 97 = .ok (.iload_n 3, 1) := by decide +kernel
theorem dX7_goMile_98 : decode cX7_goMile 98 = .ok (.iastore, 1) := by decide +kernel
theorem dX7_goMile_99 : decode cX7_goMile 99 = .ok (.return_, 1) := by decide +kernel
theorem dX7_begin_0 : decode cX7_begin 0 = .ok (.iconst 0, 1) := by decide +kernel
theorem dX7_begin_1 : decode cX7_begin 1 = .ok (.istore_n 1, 1) := by decide +kernel
theorem dX7_begin_2 : decode cX7_begin 2 = .ok (.iload_n 1, 1) := by decide +kernel
theorem dX7_begin_3 : decode cX7_begin 3 = .ok (.aload_n 0, 1) := by decide +kernel
theorem dX7_begin_4 : decode cX7_begin 4 = .ok (.getfield 81, 3) := by decide +kernel
theorem dX7_begin_7 : decode cX7_begin 7 = .ok (.if_icmp .ge 21, 3) := by decide +kernel
theorem dX7_begin_10 : decode cX7_begin 10 = .ok (.aload_n 0, 1) := by decide +kernel
theorem dX7_begin_11 : decode cX7_begin 11 = .ok (.getfield 50, 3) := by decide +kernel
theorem dX7_begin_14 : decode cX7_begin 14 = .ok (.iload_n 1, 1) := by decide +kernel
theorem dX7_begin_15 : decode cX7_begin 15 = .ok (.aload_n 0, 1) := by decide +kernel
theorem dX7_begin_16 : decode cX7_begin 16 = .ok (.getfield 35, 3) := by decide +kernel
theorem dX7_begin_19 : decode cX7_begin 19 = .ok (.iload_n 1, 1) := by decide +kernel
theorem dX7_begin_20 : decode cX7_begin 20 = .ok (.iaload, 1) := by decide +kernel
theorem dX7_begin_21 : decode cX7_begin 21 = .ok (.iastore, 1) := by decide +kernel
theorem dX7_begin_22 : decode cX7_begin 22 = .ok (.iinc 1 1, 3) := by decide +kernel
theorem dX7_begin_25 : decode cX7_begin 25 = .ok (.goto (-23), 3) := by decide +kernel
theorem dX7_begin_28 : decode cX7_begin 28 = .ok (.return_, 1) := by decide +kernel
theorem dX7_goTo_0 : decode cX7_goTo 0 = .ok (.aload_n 0, 1) := by decide +kernel
theorem dX7_goTo_1 : decode cX7_goTo 1 = .ok (.invokevirtual 150, 3) := by decide +kernel
theorem dX7_goTo_4 : decode cX7_goTo 4 = .ok (.iconst 0, 1) := by decide +kernel
theorem dX7_goTo_5 : decode cX7_goTo 5 = .ok (.istore_n 2, 1) := by decide +kernel
theorem dX7_goTo_6 : decode cX7_goTo 6 = .ok (.iload_n 2, 1) := by decide +kernel
theorem dX7_goTo_7 : decode cX7_goTo 7 = .ok (.iload_n 1, 1) := by decide +kernel
theorem dX7_goTo_8 : decode cX7_goTo 8 = .ok (.if_icmp .ge 20, 3) := by decide +kernel
theorem dX7_goTo_11 : decode cX7_goTo 11 = .ok (.aload_n 0, 1) := by decide +kernel
theorem dX7_goTo_12 : decode cX7_goTo 12 = .ok (.iload_n 2, 1) := by decide +kernel
theorem dX7_goTo_13 : decode cX7_goTo 13 = .ok (.aload_n 0, 1) := by decide +kernel
theorem dX7_goTo_14 : decode cX7_goTo 14 = .ok (.getfield 22, 3) := by decide +kernel
theorem dX7_goTo_17 : decode cX7_goTo 17 = .ok (.iload_n 2, 1) := by decide +kernel
theorem dX7_goTo_18 : decode cX7_goTo 18 = .ok (.baload, 1) := by decide +kernel
theorem dX7_goTo_19 : decode cX7_goTo 19 = .ok (.invokevirtual 153, 3) := by decide +kernel
theorem dX7_goTo_22 : decode cX7_goTo 22 = .ok (.iinc 2 1, 3) := by decide +kernel
theorem dX7_goTo_25 : decode cX7_goTo 25 = .ok (.goto (-19), 3) := by decide +kernel
theorem dX7_goTo_28 : decode cX7_goTo 28 = .ok (.return_, 1) := by decide +kernel
theorem dX7_dueBy_0 : decode cX7_dueBy 0 = .ok (.iload_n 1, 1) := by decide +kernel
theorem dX7_dueBy_1 : decode cX7_dueBy 1 = .ok (.aload_n 0, 1) := by decide +kernel
theorem dX7_dueBy_2 : decode cX7_dueBy 2 = .ok (.getfield 117, 3) := by decide +kernel
theorem dX7_dueBy_5 : decode cX7_dueBy 5 = .ok (.if_icmp .ge 7, 3) := by decide +kernel
theorem dX7_dueBy_8 : decode cX7_dueBy 8 = .ok (.iconst 0, 1) := by decide +kernel
theorem dX7_dueBy_9 : decode cX7_dueBy 9 = .ok (.goto 16, 3) := by decide +kernel
theorem dX7_dueBy_12 : decode cX7_dueBy 12 = .ok (.iload_n 1, 1) := by decide +kernel
theorem dX7_dueBy_13 : decode cX7_dueBy 13 = .ok (.aload_n 0, 1) := by decide +kernel
theorem dX7_dueBy_14 : decode cX7_dueBy 14 = .ok (.getfield 120, 3) := by decide +kernel
theorem dX7_dueBy_17 : decode cX7_dueBy 17 = .ok (.if_icmp .ge 7, 3) := by decide +kernel
theorem dX7_dueBy_20 : decode cX7_dueBy 20 = .ok (.iconst 1, 1) := by decide +kernel
theorem dX7_dueBy_21 : decode cX7_dueBy 21 = .ok (.goto 4, 3) := by decide +kernel
theorem dX7_dueBy_24 : decode cX7_dueBy 24 = .ok (.iconst 2, 1) := by decide +kernel
theorem dX7_dueBy_25 : decode cX7_dueBy 25 = .ok (.ireturn, 1) := by decide +kernel
theorem dX7_regret_0 : decode cX7_regret 0 = .ok (.aload_n 0, 1) := by decide +kernel
theorem dX7_regret_1 : decode cX7_regret 1 = .ok (.iload_n 1, 1) := by decide +kernel
theorem dX7_regret_2 : decode cX7_regret 2 = .ok (.invokevirtual 137, 3) := by decide +kernel
theorem dX7_regret_5 : decode cX7_regret 5 = .ok (.ifCond .ne 5, 3) := by decide +kernel
theorem dX7_regret_8 : decode cX7_regret 8 = .ok (.iconst (-1), 1) := by decide +kernel
theorem dX7_regret_9 : decode cX7_regret 9 = .ok (.ireturn, 1) := by decide +kernel
theorem dX7_regret_10 : decode cX7_regret 10 = .ok (.iload_n 2, 1) := by decide +kernel
theorem dX7_regret_11 : decode cX7_regret 11 = .ok (.iconst 0, 1) := by decide +kernel
theorem dX7_regret_12 : decode cX7_regret 12 = .ok (.aload_n 0, 1) := by decide +kernel
theorem dX7_regret_13 : decode cX7_regret 13 = .ok (.getfield 84, 3) := by decide +kernel
theorem dX7_regret_16 : decode cX7_regret 16 = .ok (.invokestatic 77, 3) := by decide +kernel
theorem dX7_regret_19 : decode cX7_regret 19 = .ok (.ifCond .ne 6, 3) := by decide +kernel
theorem dX7_regret_22 : decode cX7_regret 22 = .ok (.bipush (-2), 2) := by decide +kernel
theorem dX7_regret_24 : decode cX7_regret 24 = .ok (.ireturn, 1) := by decide +kernel
theorem dX7_regret_25 : decode cX7_regret 25 = .ok (.aload_n 0, 1) := by decide +kernel
theorem dX7_regret_26 : decode cX7_regret 26 = .ok (.iload_n 2, 1) := by decide +kernel
theorem dX7_regret_27 : decode cX7_regret 27 = .ok (.invokevirtual 157, 3) := by decide +kernel
theorem dX7_regret_30 : decode cX7_regret 30 = .ok (.aload_n 0, 1) := by decide +kernel
theorem dX7_regret_31 : decode cX7_regret 31 = .ok (.getfield 50, 3) := by decide +kernel
theorem dX7_regret_34 : decode cX7_regret 34 = .ok (.iload_n 1, 1) := by decide +kernel
theorem dX7_regret_35 : decode cX7_regret 35 = .ok (.iaload, 1) := by decide +kernel
theorem dX7_regret_36 : decode cX7_regret 36 = .ok (.ireturn, 1) := by decide +kernel
theorem dX7_due_0 : decode cX7_due 0 = .ok (.aload_n 0, 1) := by decide +kernel
theorem dX7_due_1 : decode cX7_due 1 = .ok (.iload_n 1, 1) := by decide +kernel
theorem dX7_due_2 : decode cX7_due 2 = .ok (.iload_n 2, 1) := by decide +kernel
theorem dX7_due_3 : decode cX7_due 3 = .ok (.invokevirtual 161, 3) := by decide +kernel
theorem dX7_due_6 : decode cX7_due 6 = .ok (.istore_n 3, 1) := by decide +kernel
theorem dX7_due_7 : decode cX7_due 7 = .ok (.iload_n 3, 1) := by decide +kernel
theorem dX7_due_8 : decode cX7_due 8 = .ok (.ifCond .ge 7, 3) := by decide +kernel
theorem dX7_due_11 : decode cX7_due 11 = .ok (.iload_n 3, 1) := by decide +kernel
theorem dX7_due_12 : decode cX7_due 12 = .ok (.goto 8, 3) := by decide +kernel
theorem dX7_due_15 : decode cX7_due 15 = .ok (.aload_n 0, 1) := by decide +kernel
theorem dX7_due_16 : decode cX7_due 16 = .ok (.iload_n 3, 1) := by decide +kernel
theorem dX7_due_17 : decode cX7_due 17 = .ok (.invokevirtual 165, 3) := by decide +kernel
theorem dX7_due_20 : decode cX7_due 20 = .ok (.ireturn, 1) := by decide +kernel
theorem dX7_layDues_0 : decode cX7_layDues 0 = .ok (.aload_n 0, 1) := by decide +kernel
theorem dX7_layDues_1 : decode cX7_layDues 1 = .ok (.invokevirtual 150, 3) := by decide +kernel
theorem dX7_layDues_4 : decode cX7_layDues 4 = .ok (.iconst 0, 1) := by decide +kernel
theorem dX7_layDues_5 : decode cX7_layDues 5 = .ok (.istore_n 1, 1) := by decide +kernel
theorem dX7_layDues_6 : decode cX7_layDues 6 = .ok (.iload_n 1, 1) := by decide +kernel
theorem dX7_layDues_7 : decode cX7_layDues 7 = .ok (.aload_n 0, 1) := by decide +kernel
theorem dX7_layDues_8 : decode cX7_layDues 8 = .ok (.getfield 84, 3) := by decide +kernel
theorem dX7_layDues_11 : decode cX7_layDues 11 = .ok (.if_icmp .ge 56, 3) := by decide +kernel
theorem dX7_layDues_14 : decode cX7_layDues 14 = .ok (.iconst 0, 1) := by decide +kernel
theorem dX7_layDues_15 : decode cX7_layDues 15 = .ok (.istore_n 2, 1) := by decide +kernel
theorem dX7_layDues_16 : decode cX7_layDues 16 = .ok (.iload_n 2, 1) := by decide +kernel
theorem dX7_layDues_17 : decode cX7_layDues 17 = .ok (.aload_n 0, 1) := by decide +kernel
theorem dX7_layDues_18 : decode cX7_layDues 18 = .ok (.getfield 81, 3) := by decide +kernel
theorem dX7_layDues_21 : decode cX7_layDues 21 = .ok (.if_icmp .ge 29, 3) := by decide +kernel
theorem dX7_layDues_24 : decode cX7_layDues 24 = .ok (.aload_n 0, 1) := by decide +kernel
theorem dX7_layDues_25 : decode cX7_layDues 25 = .ok (.getfield 53, 3) := by decide +kernel
theorem dX7_layDues_28 : decode cX7_layDues 28 = .ok (.iconst 4, 1) := by decide +kernel
theorem dX7_layDues_29 : decode cX7_layDues 29 = .ok (.iload_n 1, 1) := by decide +kernel
theorem dX7_layDues_30 : decode cX7_layDues 30 = .ok (.imul, 1) := by decide +kernel
theorem dX7_layDues_31 : decode cX7_layDues 31 = .ok (.iload_n 2, 1) := by decide +kernel
theorem dX7_layDues_32 : decode cX7_layDues 32 = .ok (.iadd, 1) := by decide +kernel
theorem dX7_layDues_33 : decode cX7_layDues 33 = .ok (.aload_n 0, 1) := by decide +kernel
theorem dX7_layDues_34 : decode cX7_layDues 34 = .ok (.aload_n 0, 1) := by decide +kernel
theorem dX7_layDues_35 : decode cX7_layDues 35 = .ok (.getfield 50, 3) := by decide +kernel
theorem dX7_layDues_38 : decode cX7_layDues 38 = .ok (.iload_n 2, 1) := by decide +kernel
theorem dX7_layDues_39 : decode cX7_layDues 39 = .ok (.iaload, 1) := by decide +kernel
theorem dX7_layDues_40 : decode cX7_layDues 40 = .ok (.invokevirtual 165, 3) := by decide +kernel
theorem dX7_layDues_43 : decode cX7_layDues 43 = .ok (.iastore, 1) := by decide +kernel
theorem dX7_layDues_44 : decode cX7_layDues 44 = .ok (.iinc 2 1, 3) := by decide +kernel
theorem dX7_layDues_47 : decode cX7_layDues 47 = .ok (.goto (-31), 3) := by decide +kernel
theorem dX7_layDues_50 : decode cX7_layDues 50 = .ok (.aload_n 0, 1) := by decide +kernel
theorem dX7_layDues_51 : decode cX7_layDues 51 = .ok (.iload_n 1, 1) := by decide +kernel
theorem dX7_layDues_52 : decode cX7_layDues 52 = .ok (.aload_n 0, 1) := by decide +kernel
theorem dX7_layDues_53 : decode cX7_layDues 53 = .ok (.getfield 22, 3) := by decide +kernel
theorem dX7_layDues_56 : decode cX7_layDues 56 = .ok (.iload_n 1, 1) := by decide +kernel
theorem dX7_layDues_57 : decode cX7_layDues 57 = .ok (.baload, 1) := by decide +kernel
theorem dX7_layDues_58 : decode cX7_layDues 58 = .ok (.invokevirtual 153, 3) := by decide +kernel
theorem dX7_layDues_61 : decode cX7_layDues 61 = .ok (.iinc 1 1, 3) := by decide +kernel
theorem dX7_layDues_64 : decode cX7_layDues 64 = .ok (.goto (-58), 3) := by decide +kernel
theorem dX7_layDues_67 : decode cX7_layDues 67 = .ok (.return_, 1) := by decide +kernel
theorem dX7_seatedIn_0 : decode cX7_seatedIn 0 = .ok (.iconst 0, 1) := by decide +kernel
theorem dX7_seatedIn_1 : decode cX7_seatedIn 1 = .ok (.istore_n 3, 1) := by decide +kernel
theorem dX7_seatedIn_2 : decode cX7_seatedIn 2 = .ok (.iconst 0, 1) := by decide +kernel
theorem dX7_seatedIn_3 : decode cX7_seatedIn 3 = .ok (.istore 4, 2) := by decide +kernel
theorem dX7_seatedIn_5 : decode cX7_seatedIn 5 = .ok (.iload 4, 2) := by decide +kernel
theorem dX7_seatedIn_7 : decode cX7_seatedIn 7 = .ok (.aload_n 0, 1) := by decide +kernel
theorem dX7_seatedIn_8 : decode cX7_seatedIn 8 = .ok (.getfield 81, 3) := by decide +kernel
theorem dX7_seatedIn_11 : decode cX7_seatedIn 11 = .ok (.if_icmp .ge 30, 3) := by decide +kernel
theorem dX7_seatedIn_14 : decode cX7_seatedIn 14 = .ok (.iload_n 3, 1) := by decide +kernel
theorem dX7_seatedIn_15 : decode cX7_seatedIn 15 = .ok (.aload_n 0, 1) := by decide +kernel
theorem dX7_seatedIn_16 : decode cX7_seatedIn 16 = .ok (.getfield 16, 3) := by decide +kernel
theorem dX7_seatedIn_19 : decode cX7_seatedIn 19 = .ok (.iload_n 1, 1) := by decide +kernel
theorem dX7_seatedIn_20 : decode cX7_seatedIn 20 = .ok (.iload 4, 2) := by decide +kernel
theorem dX7_seatedIn_22 : decode cX7_seatedIn 22 = .ok (.iadd, 1) := by decide +kernel
theorem dX7_seatedIn_23 : decode cX7_seatedIn 23 = .ok (.iaload, 1) := by decide +kernel
theorem dX7_seatedIn_24 : decode cX7_seatedIn 24 = .ok (.iload_n 2, 1) := by decide +kernel
theorem dX7_seatedIn_25 : decode cX7_seatedIn 25 = .ok (.if_icmp .ne 7, 3) := by decide +kernel
theorem dX7_seatedIn_28 : decode cX7_seatedIn 28 = .ok (.iconst 1, 1) := by decide +kernel
theorem dX7_seatedIn_29 : decode cX7_seatedIn 29 = .ok (.goto 4, 3) := by decide +kernel
theorem dX7_seatedIn_32 : decode cX7_seatedIn 32 = .ok (.iconst 0, 1) := by decide +kernel
theorem dX7_seatedIn_33 : decode cX7_seatedIn 33 = .ok (.iadd, 1) := by decide +kernel
theorem dX7_seatedIn_34 : decode cX7_seatedIn 34 = .ok (.istore_n 3, 1) := by decide +kernel
theorem dX7_seatedIn_35 : decode cX7_seatedIn 35 = .ok (.iinc 4 1, 3) := by decide +kernel
theorem dX7_seatedIn_38 : decode cX7_seatedIn 38 = .ok (.goto (-33), 3) := by decide +kernel
theorem dX7_seatedIn_41 : decode cX7_seatedIn 41 = .ok (.iload_n 3, 1) := by decide +kernel
theorem dX7_seatedIn_42 : decode cX7_seatedIn 42 = .ok (.ireturn, 1) := by decide +kernel
theorem dX7_wrongBy_0 : decode cX7_wrongBy 0 = .ok (.iconst 0, 1) := by decide +kernel
theorem dX7_wrongBy_1 : decode cX7_wrongBy 1 = .ok (.istore_n 2, 1) := by decide +kernel
theorem dX7_wrongBy_2 : decode cX7_wrongBy 2 = .ok (.iload_n 2, 1) := by decide +kernel
theorem dX7_wrongBy_3 : decode cX7_wrongBy 3 = .ok (.aload_n 0, 1) := by decide +kernel
theorem dX7_wrongBy_4 : decode cX7_wrongBy 4 = .ok (.getfield 84, 3) := by decide +kernel
theorem dX7_wrongBy_7 : decode cX7_wrongBy 7 = .ok (.if_icmp .ge 46, 3) := by decide +kernel
theorem dX7_wrongBy_10 : decode cX7_wrongBy 10 = .ok (.iconst 0, 1) := by decide +kernel
theorem dX7_wrongBy_11 : decode cX7_wrongBy 11 = .ok (.istore_n 3, 1) := by decide +kernel
theorem dX7_wrongBy_12 : decode cX7_wrongBy 12 = .ok (.iload_n 3, 1) := by decide +kernel
theorem dX7_wrongBy_13 : decode cX7_wrongBy 13 = .ok (.iconst 3, 1) := by decide +kernel
theorem dX7_wrongBy_14 : decode cX7_wrongBy 14 = .ok (.if_icmp .ge 33, 3) := by decide +kernel
theorem dX7_wrongBy_17 : decode cX7_wrongBy 17 = .ok (.aload_n 0, 1) := by decide +kernel
theorem dX7_wrongBy_18 : decode cX7_wrongBy 18 = .ok (.iload_n 1, 1) := by decide +kernel
theorem dX7_wrongBy_19 : decode cX7_wrongBy 19 = .ok (.iload_n 2, 1) := by decide +kernel
theorem dX7_wrongBy_20 : decode cX7_wrongBy 20 = .ok (.aload_n 0, 1) := by decide +kernel
theorem dX7_wrongBy_21 : decode cX7_wrongBy 21 = .ok (.getfield 81, 3) := by decide +kernel
theorem dX7_wrongBy_24 : decode cX7_wrongBy 24 = .ok (.imul, 1) := by decide +kernel
theorem dX7_wrongBy_25 : decode cX7_wrongBy 25 = .ok (.iadd, 1) := by decide +kernel
theorem dX7_wrongBy_26 : decode cX7_wrongBy 26 = .ok (.iload_n 3, 1) := by decide +kernel
theorem dX7_wrongBy_27 : decode cX7_wrongBy 27 = .ok (.invokevirtual 168, 3) := by decide +kernel
theorem dX7_wrongBy_30 : decode cX7_wrongBy 30 = .ok (.aload_n 0, 1) := by decide +kernel
theorem dX7_wrongBy_31 : decode cX7_wrongBy 31 = .ok (.getfield 19, 3) := by decide +kernel
theorem dX7_wrongBy_34 : decode cX7_wrongBy 34 = .ok (.iload_n 3, 1) := by decide +kernel
theorem dX7_wrongBy_35 : decode cX7_wrongBy 35 = .ok (.iaload, 1) := by decide +kernel
theorem dX7_wrongBy_36 : decode cX7_wrongBy 36 = .ok (.if_icmp .le 5, 3) := by decide +kernel
theorem dX7_wrongBy_39 : decode cX7_wrongBy 39 = .ok (.iload_n 2, 1) := by decide +kernel
theorem dX7_wrongBy_40 : decode cX7_wrongBy 40 = .ok (.ireturn, 1) := by decide +kernel
theorem dX7_wrongBy_41 : decode cX7_wrongBy 41 = .ok (.iinc 3 1, 3) := by decide +kernel
theorem dX7_wrongBy_44 : decode cX7_wrongBy 44 = .ok (.goto (-32), 3) := by decide +kernel
theorem dX7_wrongBy_47 : decode cX7_wrongBy 47 = .ok (.iinc 2 1, 3) := by decide +kernel
theorem dX7_wrongBy_50 : decode cX7_wrongBy 50 = .ok (.goto (-48), 3) := by decide +kernel
theorem dX7_wrongBy_53 : decode cX7_wrongBy 53 = .ok (.bipush (-9), 2) := by decide +kernel
theorem dX7_wrongBy_55 : decode cX7_wrongBy 55 = .ok (.ireturn, 1) := by decide +kernel
theorem dX7_changesBy_0 : decode cX7_changesBy 0 = .ok (.iconst 0, 1) := by decide +kernel
theorem dX7_changesBy_1 : decode cX7_changesBy 1 = .ok (.istore_n 2, 1) := by decide +kernel
theorem dX7_changesBy_2 : decode cX7_changesBy 2 = .ok (.aload_n 0, 1) := by decide +kernel
theorem dX7_changesBy_3 : decode cX7_changesBy 3 = .ok (.getfield 81, 3) := by decide +kernel
theorem dX7_changesBy_6 : decode cX7_changesBy 6 = .ok (.istore_n 3, 1) := by decide +kernel
theorem dX7_changesBy_7 : decode cX7_changesBy 7 = .ok (.iload_n 3, 1) := by decide +kernel
theorem dX7_changesBy_8 : decode cX7_changesBy 8 = .ok (.aload_n 0, 1) := by decide +kernel
theorem dX7_changesBy_9 : decode cX7_changesBy 9 = .ok (.getfield 84, 3) := by decide +kernel
theorem dX7_changesBy_12 : decode cX7_changesBy 12 = .ok (.aload_n 0, 1) := by decide +kernel
theorem dX7_changesBy_13 : decode cX7_changesBy 13 = .ok (.getfield 81, 3) := by decide +kernel
theorem dX7_changesBy_16 : decode cX7_changesBy 16 = .ok (.imul, 1) := by decide +kernel
theorem dX7_changesBy_17 : decode cX7_changesBy 17 = .ok (.if_icmp .ge 41, 3) := by decide +kernel
theorem dX7_changesBy_20 : decode cX7_changesBy 20 = .ok (.iload_n 2, 1) := by decide +kernel
theorem dX7_changesBy_21 : decode cX7_changesBy 21 = .ok (.aload_n 0, 1) := by decide +kernel
theorem dX7_changesBy_22 : decode cX7_changesBy 22 = .ok (.getfield 16, 3) := by decide +kernel
theorem dX7_changesBy_25 : decode cX7_changesBy 25 = .ok (.iload_n 1, 1) := by decide +kernel
theorem dX7_changesBy_26 : decode cX7_changesBy 26 = .ok (.iload_n 3, 1) := by decide +kernel
theorem dX7_changesBy_27 : decode cX7_changesBy 27 = .ok (.iadd, 1) := by decide +kernel
theorem dX7_changesBy_28 : decode cX7_changesBy 28 = .ok (.iaload, 1) := by decide +kernel
theorem dX7_changesBy_29 : decode cX7_changesBy 29 = .ok (.aload_n 0, 1) := by decide +kernel
theorem dX7_changesBy_30 : decode cX7_changesBy 30 = .ok (.getfield 16, 3) := by decide +kernel
theorem dX7_changesBy_33 : decode cX7_changesBy 33 = .ok (.iload_n 1, 1) := by decide +kernel
theorem dX7_changesBy_34 : decode cX7_changesBy 34 = .ok (.iload_n 3, 1) := by decide +kernel
theorem dX7_changesBy_35 : decode cX7_changesBy 35 = .ok (.iadd, 1) := by decide +kernel
theorem dX7_changesBy_36 : decode cX7_changesBy 36 = .ok (.aload_n 0, 1) := by decide +kernel
theorem dX7_changesBy_37 : decode cX7_changesBy 37 = .ok (.getfield 81, 3) := by decide +kernel
theorem dX7_changesBy_40 : decode cX7_changesBy 40 = .ok (.isub, 1) := by decide +kernel
theorem dX7_changesBy_41 : decode cX7_changesBy 41 = .ok (.iaload, 1) := by decide +kernel
theorem dX7_changesBy_42 : decode cX7_changesBy 42 = .ok (.if_icmp .ne 7, 3) := by decide +kernel
theorem dX7_changesBy_45 : decode cX7_changesBy 45 = .ok (.iconst 0, 1) := by decide +kernel
theorem dX7_changesBy_46 : decode cX7_changesBy 46 = .ok (.goto 4, 3) := by decide +kernel
theorem dX7_changesBy_49 : decode cX7_changesBy 49 = .ok (.iconst 1, 1) := by decide +kernel
theorem dX7_changesBy_50 : decode cX7_changesBy 50 = .ok (.iadd, 1) := by decide +kernel
theorem dX7_changesBy_51 : decode cX7_changesBy 51 = .ok (.istore_n 2, 1) := by decide +kernel
theorem dX7_changesBy_52 : decode cX7_changesBy 52 = .ok (.iinc 3 1, 3) := by decide +kernel
theorem dX7_changesBy_55 : decode cX7_changesBy 55 = .ok (.goto (-48), 3) := by decide +kernel
theorem dX7_changesBy_58 : decode cX7_changesBy 58 = .ok (.iload_n 2, 1) := by decide +kernel
theorem dX7_changesBy_59 : decode cX7_changesBy 59 = .ok (.ireturn, 1) := by decide +kernel
theorem dX7_lowBy_0 : decode cX7_lowBy 0 = .ok (.iconst 0, 1) := by decide +kernel
theorem dX7_lowBy_1 : decode cX7_lowBy 1 = .ok (.istore_n 2, 1) := by decide +kernel
theorem dX7_lowBy_2 : decode cX7_lowBy 2 = .ok (.iconst 0, 1) := by decide +kernel
theorem dX7_lowBy_3 : decode cX7_lowBy 3 = .ok (.istore_n 3, 1) := by decide +kernel
theorem dX7_lowBy_4 : decode cX7_lowBy 4 = .ok (.iload_n 3, 1) := by decide +kernel
theorem dX7_lowBy_5 : decode cX7_lowBy 5 = .ok (.aload_n 0, 1) := by decide +kernel
theorem dX7_lowBy_6 : decode cX7_lowBy 6 = .ok (.getfield 84, 3) := by decide +kernel
theorem dX7_lowBy_9 : decode cX7_lowBy 9 = .ok (.aload_n 0, 1) := by decide +kernel
theorem dX7_lowBy_10 : decode cX7_lowBy 10 = .ok (.getfield 81, 3) := by decide +kernel
theorem dX7_lowBy_13 : decode cX7_lowBy 13 = .ok (.imul, 1) := by decide +kernel
theorem dX7_lowBy_14 : decode cX7_lowBy 14 = .ok (.if_icmp .ge 54, 3) := by decide +kernel
theorem dX7_lowBy_17 : decode cX7_lowBy 17 = .ok (.aload_n 0, 1) := by decide +kernel
theorem dX7_lowBy_18 : decode cX7_lowBy 18 = .ok (.getfield 16, 3) := by decide +kernel
theorem dX7_lowBy_21 : decode cX7_lowBy 21 = .ok (.iload_n 1, 1) := by decide +kernel
theorem dX7_lowBy_22 : decode cX7_lowBy 22 = .ok (.iload_n 3, 1) := by decide +kernel
theorem dX7_lowBy_23 : decode cX7_lowBy 23 = .ok (.iadd, 1) := by decide +kernel
theorem dX7_lowBy_24 : decode cX7_lowBy 24 = .ok (.iaload, 1) := by decide +kernel
theorem dX7_lowBy_25 : decode cX7_lowBy 25 = .ok (.aload_n 0, 1) := by decide +kernel
theorem dX7_lowBy_26 : decode cX7_lowBy 26 = .ok (.getfield 53, 3) := by decide +kernel
theorem dX7_lowBy_29 : decode cX7_lowBy 29 = .ok (.iconst 4, 1) := by decide +kernel
theorem dX7_lowBy_30 : decode cX7_lowBy 30 = .ok (.iload_n 3, 1) := by decide +kernel
theorem dX7_lowBy_31 : decode cX7_lowBy 31 = .ok (.aload_n 0, 1) := by decide +kernel
theorem dX7_lowBy_32 : decode cX7_lowBy 32 = .ok (.getfield 81, 3) := by decide +kernel
theorem dX7_lowBy_35 : decode cX7_lowBy 35 = .ok (.idiv, 1) := by decide +kernel
theorem dX7_lowBy_36 : decode cX7_lowBy 36 = .ok (.imul, 1) := by decide +kernel
theorem dX7_lowBy_37 : decode cX7_lowBy 37 = .ok (.iload_n 3, 1) := by decide +kernel
theorem dX7_lowBy_38 : decode cX7_lowBy 38 = .ok (.aload_n 0, 1) := by decide +kernel
theorem dX7_lowBy_39 : decode cX7_lowBy 39 = .ok (.getfield 81, 3) := by decide +kernel
theorem dX7_lowBy_42 : decode cX7_lowBy 42 = .ok (.irem, 1) := by decide +kernel
theorem dX7_lowBy_43 : decode cX7_lowBy 43 = .ok (.iadd, 1) := by decide +kernel
theorem dX7_lowBy_44 : decode cX7_lowBy 44 = .ok (.iaload, 1) := by decide +kernel
theorem dX7_lowBy_45 : decode cX7_lowBy 45 = .ok (.isub, 1) := by decide +kernel
theorem dX7_lowBy_46 : decode cX7_lowBy 46 = .ok (.istore 4, 2) := by decide +kernel
theorem dX7_lowBy_48 : decode cX7_lowBy 48 = .ok (.iload_n 2, 1) := by decide +kernel
theorem dX7_lowBy_49 : decode cX7_lowBy 49 = .ok (.iload 4, 2) := by decide +kernel
theorem dX7_lowBy_51 : decode cX7_lowBy 51 = .ok (.ifCond .le 8, 3) := by decide +kernel
theorem dX7_lowBy_54 : decode cX7_lowBy 54 = .ok (.iload 4, 2) := by decide +kernel
theorem dX7_lowBy_56 : decode cX7_lowBy 56 = .ok (.goto 4, 3) := by decide +kernel
theorem dX7_lowBy_59 : decode cX7_lowBy 59 = .ok (.iconst 0, 1) := by decide +kernel
theorem dX7_lowBy_60 : decode cX7_lowBy 60 = .ok (.iadd, 1) := by decide +kernel
theorem dX7_lowBy_61 : decode cX7_lowBy 61 = .ok (.istore_n 2, 1) := by decide +kernel
theorem dX7_lowBy_62 : decode cX7_lowBy 62 = .ok (.iinc 3 1, 3) := by decide +kernel
theorem dX7_lowBy_65 : decode cX7_lowBy 65 = .ok (.goto (-61), 3) := by decide +kernel
theorem dX7_lowBy_68 : decode cX7_lowBy 68 = .ok (.iload_n 2, 1) := by decide +kernel
theorem dX7_lowBy_69 : decode cX7_lowBy 69 = .ok (.ireturn, 1) := by decide +kernel
theorem dX7_aboveBy_0 : decode cX7_aboveBy 0 = .ok (.iconst 0, 1) := by decide +kernel
theorem dX7_aboveBy_1 : decode cX7_aboveBy 1 = .ok (.istore_n 3, 1) := by decide +kernel
theorem dX7_aboveBy_2 : decode cX7_aboveBy 2 = .ok (.iconst 0, 1) := by decide +kernel
theorem dX7_aboveBy_3 : decode cX7_aboveBy 3 = .ok (.istore 4, 2) := by decide +kernel
theorem dX7_aboveBy_5 : decode cX7_aboveBy 5 = .ok (.iload 4, 2) := by decide +kernel
theorem dX7_aboveBy_7 : decode cX7_aboveBy 7 = .ok (.aload_n 0, 1) := by decide +kernel
theorem dX7_aboveBy_8 : decode cX7_aboveBy 8 = .ok (.getfield 84, 3) := by decide +kernel
theorem dX7_aboveBy_11 : decode cX7_aboveBy 11 = .ok (.aload_n 0, 1) := by decide +kernel
theorem dX7_aboveBy_12 : decode cX7_aboveBy 12 = .ok (.getfield 81, 3) := by decide +kernel
theorem dX7_aboveBy_15 : decode cX7_aboveBy 15 = .ok (.imul, 1) := by decide +kernel
theorem dX7_aboveBy_16 : decode cX7_aboveBy 16 = .ok (.if_icmp .ge 67, 3) := by decide +kernel
theorem dX7_aboveBy_19 : decode cX7_aboveBy 19 = .ok (.iload 4, 2) := by decide +kernel
theorem dX7_aboveBy_21 : decode cX7_aboveBy 21 = .ok (.aload_n 0, 1) := by decide +kernel
theorem dX7_aboveBy_22 : decode cX7_aboveBy 22 = .ok (.getfield 81, 3) := by decide +kernel
theorem dX7_aboveBy_25 : decode cX7_aboveBy 25 = .ok (.irem, 1) := by decide +kernel
theorem dX7_aboveBy_26 : decode cX7_aboveBy 26 = .ok (.istore 5, 2) := by decide +kernel
theorem dX7_aboveBy_28 : decode cX7_aboveBy 28 = .ok (.iload_n 3, 1) := by decide +kernel
theorem dX7_aboveBy_29 : decode cX7_aboveBy 29 = .ok (.iload_n 2, 1) := by decide +kernel
theorem dX7_aboveBy_30 : decode cX7_aboveBy 30 = .ok (.bipush (-9), 2) := by decide +kernel
theorem dX7_aboveBy_32 : decode cX7_aboveBy 32 = .ok (.if_icmp .eq 9, 3) := by decide +kernel
theorem dX7_aboveBy_35 : decode cX7_aboveBy 35 = .ok (.iload_n 2, 1) := by decide +kernel
theorem dX7_aboveBy_36 : decode cX7_aboveBy 36 = .ok (.iload 5, 2) := by decide +kernel
theorem dX7_aboveBy_38 : decode cX7_aboveBy 38 = .ok (.if_icmp .ne 36, 3) := by decide +kernel
theorem dX7_aboveBy_41 : decode cX7_aboveBy 41 = .ok (.aload_n 0, 1) := by decide +kernel
theorem dX7_aboveBy_42 : decode cX7_aboveBy 42 = .ok (.getfield 16, 3) := by decide +kernel
theorem dX7_aboveBy_45 : decode cX7_aboveBy 45 = .ok (.iload_n 1, 1) := by decide +kernel
theorem dX7_aboveBy_46 : decode cX7_aboveBy 46 = .ok (.iload 4, 2) := by decide +kernel
theorem dX7_aboveBy_48 : decode cX7_aboveBy 48 = .ok (.iadd, 1) := by decide +kernel
theorem dX7_aboveBy_49 : decode cX7_aboveBy 49 = .ok (.iaload, 1) := by decide +kernel
theorem dX7_aboveBy_50 : decode cX7_aboveBy 50 = .ok (.aload_n 0, 1) := by decide +kernel
theorem dX7_aboveBy_51 : decode cX7_aboveBy 51 = .ok (.getfield 53, 3) := by decide +kernel
theorem dX7_aboveBy_54 : decode cX7_aboveBy 54 = .ok (.iconst 4, 1) := by decide +kernel
theorem dX7_aboveBy_55 : decode cX7_aboveBy 55 = .ok (.iload 4, 2) := by decide +kernel
theorem dX7_aboveBy_57 : decode cX7_aboveBy 57 = .ok (.aload_n 0, 1) := by decide +kernel
theorem dX7_aboveBy_58 : decode cX7_aboveBy 58 = .ok (.getfield 81, 3) := by decide +kernel
theorem dX7_aboveBy_61 : decode cX7_aboveBy 61 = .ok (.idiv, 1) := by decide +kernel
theorem dX7_aboveBy_62 : decode cX7_aboveBy 62 = .ok (.imul, 1) := by decide +kernel
theorem dX7_aboveBy_63 : decode cX7_aboveBy 63 = .ok (.iload 5, 2) := by decide +kernel
theorem dX7_aboveBy_65 : decode cX7_aboveBy 65 = .ok (.iadd, 1) := by decide +kernel
theorem dX7_aboveBy_66 : decode cX7_aboveBy 66 = .ok (.iaload, 1) := by decide +kernel
theorem dX7_aboveBy_67 : decode cX7_aboveBy 67 = .ok (.if_icmp .ge 7, 3) := by decide +kernel
theorem dX7_aboveBy_70 : decode cX7_aboveBy 70 = .ok (.iconst 1, 1) := by decide +kernel
theorem dX7_aboveBy_71 : decode cX7_aboveBy 71 = .ok (.goto 4, 3) := by decide +kernel
theorem dX7_aboveBy_74 : decode cX7_aboveBy 74 = .ok (.iconst 0, 1) := by decide +kernel
theorem dX7_aboveBy_75 : decode cX7_aboveBy 75 = .ok (.iadd, 1) := by decide +kernel
theorem dX7_aboveBy_76 : decode cX7_aboveBy 76 = .ok (.istore_n 3, 1) := by decide +kernel
theorem dX7_aboveBy_77 : decode cX7_aboveBy 77 = .ok (.iinc 4 1, 3) := by decide +kernel
theorem dX7_aboveBy_80 : decode cX7_aboveBy 80 = .ok (.goto (-75), 3) := by decide +kernel
theorem dX7_aboveBy_83 : decode cX7_aboveBy 83 = .ok (.iload_n 3, 1) := by decide +kernel
theorem dX7_aboveBy_84 : decode cX7_aboveBy 84 = .ok (.ireturn, 1) := by decide +kernel
theorem dX7_seating_0 : decode cX7_seating 0 = .ok (.aload_n 0, 1) := by decide +kernel
theorem dX7_seating_1 : decode cX7_seating 1 = .ok (.iconst 0, 1) := by decide +kernel
theorem dX7_seating_2 : decode cX7_seating 2 = .ok (.putfield 71, 3) := by decide +kernel
theorem dX7_seating_5 : decode cX7_seating 5 = .ok (.iload_n 1, 1) := by decide +kernel
theorem dX7_seating_6 : decode cX7_seating 6 = .ok (.invokestatic 90, 3) := by decide +kernel
theorem dX7_seating_9 : decode cX7_seating 9 = .ok (.ifCond .ne 5, 3) := by decide +kernel
theorem dX7_seating_12 : decode cX7_seating 12 = .ok (.iconst (-1), 1) := by decide +kernel
theorem dX7_seating_13 : decode cX7_seating 13 = .ok (.ireturn, 1) := by decide +kernel
theorem dX7_seating_14 : decode cX7_seating 14 = .ok (.iload_n 2, 1) := by decide +kernel
theorem dX7_seating_15 : decode cX7_seating 15 = .ok (.invokestatic 94, 3) := by decide +kernel
theorem dX7_seating_18 : decode cX7_seating 18 = .ok (.ifCond .eq 25, 3) := by decide +kernel
theorem dX7_seating_21 : decode cX7_seating 21 = .ok (.iload 5, 2) := by decide +kernel
theorem dX7_seating_23 : decode cX7_seating 23 = .ok (.iconst 0, 1) := by decide +kernel
theorem dX7_seating_24 : decode cX7_seating 24 = .ok (.iconst 3, 1) := by decide +kernel
theorem dX7_seating_25 : decode cX7_seating 25 = .ok (.invokestatic 77, 3) := by decide +kernel
theorem dX7_seating_28 : decode cX7_seating 28 = .ok (.ifCond .ne 18, 3) := by decide +kernel
theorem dX7_seating_31 : decode cX7_seating 31 = .ok (.iload 5, 2) := by decide +kernel
theorem dX7_seating_33 : decode cX7_seating 33 = .ok (.bipush 10, 2) := by decide +kernel
theorem dX7_seating_35 : decode cX7_seating 35 = .ok (.bipush 13, 2) := by decide +kernel
theorem dX7_seating_37 : decode cX7_seating 37 = .ok (.invokestatic 77, 3) := by decide +kernel
theorem dX7_seating_40 : decode cX7_seating 40 = .ok (.ifCond .ne 6, 3) := by decide +kernel
theorem dX7_seating_43 : decode cX7_seating 43 = .ok (.bipush (-2), 2) := by decide +kernel
theorem dX7_seating_45 : decode cX7_seating 45 = .ok (.ireturn, 1) := by decide +kernel
theorem dX7_seating_46 : decode cX7_seating 46 = .ok (.aload_n 0, 1) := by decide +kernel
theorem dX7_seating_47 : decode cX7_seating 47 = .ok (.iload_n 1, 1) := by decide +kernel
theorem dX7_seating_48 : decode cX7_seating 48 = .ok (.iload_n 2, 1) := by decide +kernel
theorem dX7_seating_49 : decode cX7_seating 49 = .ok (.iload_n 3, 1) := by decide +kernel
theorem dX7_seating_50 : decode cX7_seating 50 = .ok (.iload 4, 2) := by decide +kernel
theorem dX7_seating_52 : decode cX7_seating 52 = .ok (.invokevirtual 97, 3) := by decide +kernel
theorem dX7_seating_55 : decode cX7_seating 55 = .ok (.istore 6, 2) := by decide +kernel
theorem dX7_seating_57 : decode cX7_seating 57 = .ok (.iload 6, 2) := by decide +kernel
theorem dX7_seating_59 : decode cX7_seating 59 = .ok (.ifCond .eq 10, 3) := by decide +kernel
theorem dX7_seating_62 : decode cX7_seating 62 = .ok (.aload_n 0, 1) := by decide +kernel
theorem dX7_seating_63 : decode cX7_seating 63 = .ok (.iload 6, 2) := by decide +kernel
theorem dX7_seating_65 : decode cX7_seating 65 = .ok (.invokevirtual 101, 3) := by decide +kernel
theorem dX7_seating_68 : decode cX7_seating 68 = .ok (.ireturn, 1) := by decide +kernel
theorem dX7_seating_69 : decode cX7_seating 69 = .ok (.aload_n 0, 1) := by decide +kernel
theorem dX7_seating_70 : decode cX7_seating 70 = .ok (.getfield 84, 3) := by decide +kernel
theorem dX7_seating_73 : decode cX7_seating 73 = .ok (.ifCond .ne 6, 3) := by decide +kernel
theorem dX7_seating_76 : decode cX7_seating 76 = .ok (.bipush (-3), 2) := by decide +kernel
theorem dX7_seating_78 : decode cX7_seating 78 = .ok (.ireturn, 1) := by decide +kernel
theorem dX7_seating_79 : decode cX7_seating 79 = .ok (.iload 4, 2) := by decide +kernel
theorem dX7_seating_81 : decode cX7_seating 81 = .ok (.aload_n 0, 1) := by decide +kernel
theorem dX7_seating_82 : decode cX7_seating 82 = .ok (.getfield 84, 3) := by decide +kernel
theorem dX7_seating_85 : decode cX7_seating 85 = .ok (.aload_n 0, 1) := by decide +kernel
theorem dX7_seating_86 : decode cX7_seating 86 = .ok (.getfield 81, 3) := by decide +kernel
theorem dX7_seating_89 : decode cX7_seating 89 = .ok (.imul, 1) := by decide +kernel
theorem dX7_seating_90 : decode cX7_seating 90 = .ok (.if_icmp .eq 6, 3) := by decide +kernel
theorem dX7_seating_93 : decode cX7_seating 93 = .ok (.bipush (-2), 2) := by decide +kernel
theorem dX7_seating_95 : decode cX7_seating 95 = .ok (.ireturn, 1) := by decide +kernel
theorem dX7_seating_96 : decode cX7_seating 96 = .ok (.bipush 60, 2) := by decide +kernel
theorem dX7_seating_98 : decode cX7_seating 98 = .ok (.iload_n 1, 1) := by decide +kernel
theorem dX7_seating_99 : decode cX7_seating 99 = .ok (.imul, 1) := by decide +kernel
theorem dX7_seating_100 : decode cX7_seating 100 = .ok (.iload_n 3, 1) := by decide +kernel
theorem dX7_seating_101 : decode cX7_seating 101 = .ok (.iadd, 1) := by decide +kernel
theorem dX7_seating_102 : decode cX7_seating 102 = .ok (.istore 7, 2) := by decide +kernel
theorem dX7_seating_104 : decode cX7_seating 104 = .ok (.iconst 0, 1) := by decide +kernel
theorem dX7_seating_105 : decode cX7_seating 105 = .ok (.istore 8, 2) := by decide +kernel
theorem dX7_seating_107 : decode cX7_seating 107 = .ok (.iload 8, 2) := by decide +kernel
theorem dX7_seating_109 : decode cX7_seating 109 = .ok (.iload 4, 2) := by decide +kernel
theorem dX7_seating_111 : decode cX7_seating 111 = .ok (.if_icmp .ge 30, 3) := by decide +kernel
theorem dX7_seating_114 : decode cX7_seating 114 = .ok (.aload_n 0, 1) := by decide +kernel
theorem dX7_seating_115 : decode cX7_seating 115 = .ok (.getfield 16, 3) := by decide +kernel
theorem dX7_seating_118 : decode cX7_seating 118 = .ok (.iload 7, 2) := by decide +kernel
theorem dX7_seating_120 : decode cX7_seating 120 = .ok (.iload 8, 2) := by decide +kernel
theorem dX7_seating_122 : decode cX7_seating 122 = .ok (.iadd, 1) := by decide +kernel
theorem dX7_seating_123 : decode cX7_seating 123 = .ok (.iaload, 1) := by decide +kernel
theorem dX7_seating_124 : decode cX7_seating 124 = .ok (.iconst 0, 1) := by decide +kernel
theorem dX7_seating_125 : decode cX7_seating 125 = .ok (.iconst 2, 1) := by decide +kernel
theorem dX7_seating_126 : decode cX7_seating 126 = .ok (.invokestatic 77, 3) := by decide +kernel
theorem dX7_seating_129 : decode cX7_seating 129 = .ok (.ifCond .ne 6, 3) := by decide +kernel
theorem dX7_seating_132 : decode cX7_seating 132 = .ok (.bipush (-2), 2) := by decide +kernel
theorem dX7_seating_134 : decode cX7_seating 134 = .ok (.ireturn, 1) := by decide +kernel
theorem dX7_seating_135 : decode cX7_seating 135 = .ok (.iinc 8 1, 3) := by decide +kernel
theorem dX7_seating_138 : decode cX7_seating 138 = .ok (.goto (-31), 3) := by decide +kernel
theorem dX7_seating_141 : decode cX7_seating 141 = .ok (.aload_n 0, 1) := by decide +kernel
theorem dX7_seating_142 : decode cX7_seating 142 = .ok (.iload 7, 2) := by decide +kernel
theorem dX7_seating_144 : decode cX7_seating 144 = .ok (.invokevirtual 171, 3) := by decide +kernel
theorem dX7_seating_147 : decode cX7_seating 147 = .ok (.istore 8, 2) := by decide +kernel
theorem dX7_seating_149 : decode cX7_seating 149 = .ok (.iload 5, 2) := by decide +kernel
theorem dX7_seating_151 : decode cX7_seating 151 = .ok (.iconst 1, 1) := by decide +kernel
theorem dX7_seating_152 : decode cX7_seating 152 = .ok (.if_icmp .ne 6, 3) := by decide +kernel
theorem dX7_seating_155 : decode cX7_seating 155 = .ok (.iload 8, 2) := by decide +kernel
theorem dX7_seating_157 : decode cX7_seating 157 = .ok (.ireturn, 1) := by decide +kernel
theorem dX7_seating_158 : decode cX7_seating 158 = .ok (.iload 8, 2) := by decide +kernel
theorem dX7_seating_160 : decode cX7_seating 160 = .ok (.bipush (-9), 2) := by decide +kernel
theorem dX7_seating_162 : decode cX7_seating 162 = .ok (.if_icmp .ne 14, 3) := by decide +kernel
theorem dX7_seating_165 : decode cX7_seating 165 = .ok (.aload_n 0, 1) := by decide +kernel
theorem dX7_seating_166 : decode cX7_seating 166 = .ok (.iload 7, 2) := by decide +kernel
theorem dX7_seating_168 : decode cX7_seating 168 = .ok (.iload 5, 2) := by decide +kernel
theorem dX7_seating_170 : decode cX7_seating 170 = .ok (.invokevirtual 174, 3) := by decide +kernel
theorem dX7_seating_173 : decode cX7_seating 173 = .ok (.goto 8, 3) := by decide +kernel
theorem dX7_seating_176 : decode cX7_seating 176 = .ok (.bipush (-100), 2) := by decide +kernel
theorem dX7_seating_178 : decode cX7_seating 178 = .ok (.iload 8, 2) := by decide +kernel
theorem dX7_seating_180 : decode cX7_seating 180 = .ok (.isub, 1) := by decide +kernel
theorem dX7_seating_181 : decode cX7_seating 181 = .ok (.ireturn, 1) := by decide +kernel
theorem dX7_tellSeating_0 : decode cX7_tellSeating 0 = .ok (.aload_n 0, 1) := by decide +kernel
theorem dX7_tellSeating_1 : decode cX7_tellSeating 1 = .ok (.invokevirtual 177, 3) := by decide +kernel
theorem dX7_tellSeating_4 : decode cX7_tellSeating 4 = .ok (.iload_n 2, 1) := by decide +kernel
theorem dX7_tellSeating_5 : decode cX7_tellSeating 5 = .ok (.tableswitch 57 0 3 #[31, 57, 43, 49], 31) := by decide +kernel
theorem dX7_tellSeating_36 : decode cX7_tellSeating 36 = .ok (.aload_n 0, 1) := by decide +kernel
theorem dX7_tellSeating_37 : decode cX7_tellSeating 37 = .ok (.iload_n 1, 1) := by decide +kernel
theorem dX7_tellSeating_38 : decode cX7_tellSeating 38 = .ok (.invokevirtual 180, 3) := by decide +kernel
theorem dX7_tellSeating_41 : decode cX7_tellSeating 41 = .ok (.aload_n 0, 1) := by decide +kernel
theorem dX7_tellSeating_42 : decode cX7_tellSeating 42 = .ok (.iload_n 1, 1) := by decide +kernel
theorem dX7_tellSeating_43 : decode cX7_tellSeating 43 = .ok (.invokevirtual 183, 3) := by decide +kernel
theorem dX7_tellSeating_46 : decode cX7_tellSeating 46 = .ok (.iadd, 1) := by decide +kernel
theorem dX7_tellSeating_47 : decode cX7_tellSeating 47 = .ok (.ireturn, 1) := by decide +kernel
theorem dX7_tellSeating_48 : decode cX7_tellSeating 48 = .ok (.aload_n 0, 1) := by decide +kernel
theorem dX7_tellSeating_49 : decode cX7_tellSeating 49 = .ok (.iload_n 1, 1) := by decide +kernel
theorem dX7_tellSeating_50 : decode cX7_tellSeating 50 = .ok (.invokevirtual 180, 3) := by decide +kernel
theorem dX7_tellSeating_53 : decode cX7_tellSeating 53 = .ok (.ireturn, 1) := by decide +kernel
theorem dX7_tellSeating_54 : decode cX7_tellSeating 54 = .ok (.aload_n 0, 1) := by decide +kernel
theorem dX7_tellSeating_55 : decode cX7_tellSeating 55 = .ok (.iload_n 1, 1) := by decide +kernel
theorem dX7_tellSeating_56 : decode cX7_tellSeating 56 = .ok (.bipush (-9), 2) := by decide +kernel
theorem dX7_tellSeating_58 : decode cX7_tellSeating 58 = .ok (.invokevirtual 186, 3) := by decide +kernel
theorem dX7_tellSeating_61 : decode cX7_tellSeating 61 = .ok (.ireturn, 1) := by decide +kernel
theorem dX7_tellSeating_62 : decode cX7_tellSeating 62 = .ok (.aload_n 0, 1) := by decide +kernel
theorem dX7_tellSeating_63 : decode cX7_tellSeating 63 = .ok (.iload_n 2, 1) := by decide +kernel
theorem dX7_tellSeating_64 : decode cX7_tellSeating 64 = .ok (.bipush 10, 2) := by decide +kernel
theorem dX7_tellSeating_66 : decode cX7_tellSeating 66 = .ok (.isub, 1) := by decide +kernel
theorem dX7_tellSeating_67 : decode cX7_tellSeating 67 = .ok (.invokevirtual 137, 3) := by decide +kernel
theorem dX7_tellSeating_70 : decode cX7_tellSeating 70 = .ok (.ifCond .eq 15, 3) := by decide +kernel
theorem dX7_tellSeating_73 : decode cX7_tellSeating 73 = .ok (.aload_n 0, 1) := by decide +kernel
theorem dX7_tellSeating_74 : decode cX7_tellSeating 74 = .ok (.iload_n 1, 1) := by decide +kernel
theorem dX7_tellSeating_75 : decode cX7_tellSeating 75 = .ok (.iload_n 2, 1) := by decide +kernel
theorem dX7_tellSeating_76 : decode cX7_tellSeating 76 = .ok (.bipush 10, 2) := by decide +kernel
theorem dX7_tellSeating_78 : decode cX7_tellSeating 78 = .ok (.isub, 1) := by decide +kernel
theorem dX7_tellSeating_79 : decode cX7_tellSeating 79 = .ok (.invokevirtual 186, 3) := by decide +kernel
theorem dX7_tellSeating_82 : decode cX7_tellSeating 82 = .ok (.goto 5, 3) := by decide +kernel
theorem dX7_tellSeating_85 : decode cX7_tellSeating 85 = .ok (.bipush (-9), 2) := by decide +kernel
theorem dX7_tellSeating_87 : decode cX7_tellSeating 87 = .ok (.ireturn, 1) := by decide +kernel
theorem dX7_rows_0 : decode cX7_rows 0 = .ok (.iconst 1, 1) := by decide +kernel
theorem dX7_rows_1 : decode cX7_rows 1 = .ok (.istore_n 1, 1) := by decide +kernel
theorem dX7_rows_2 : decode cX7_rows 2 = .ok (.aload_n 0, 1) := by decide +kernel
theorem dX7_rows_3 : decode cX7_rows 3 = .ok (.getfield 81, 3) := by decide +kernel
theorem dX7_rows_6 : decode cX7_rows 6 = .ok (.iconst 1, 1) := by decide +kernel
theorem dX7_rows_7 : decode cX7_rows 7 = .ok (.isub, 1) := by decide +kernel
theorem dX7_rows_8 : decode cX7_rows 8 = .ok (.istore_n 2, 1) := by decide +kernel
theorem dX7_rows_9 : decode cX7_rows 9 = .ok (.iload_n 2, 1) := by decide +kernel
theorem dX7_rows_10 : decode cX7_rows 10 = .ok (.ifCond .lt 20, 3) := by decide +kernel
theorem dX7_rows_13 : decode cX7_rows 13 = .ok (.aload_n 0, 1) := by decide +kernel
theorem dX7_rows_14 : decode cX7_rows 14 = .ok (.getfield 59, 3) := by decide +kernel
theorem dX7_rows_17 : decode cX7_rows 17 = .ok (.iload_n 2, 1) := by decide +kernel
theorem dX7_rows_18 : decode cX7_rows 18 = .ok (.iload_n 1, 1) := by decide +kernel
theorem dX7_rows_19 : decode cX7_rows 19 = .ok (.iastore, 1) := by decide +kernel
theorem dX7_rows_20 : decode cX7_rows 20 = .ok (.iload_n 1, 1) := by decide +kernel
theorem dX7_rows_21 : decode cX7_rows 21 = .ok (.iconst 3, 1) := by decide +kernel
theorem dX7_rows_22 : decode cX7_rows 22 = .ok (.imul, 1) := by decide +kernel
theorem dX7_rows_23 : decode cX7_rows 23 = .ok (.istore_n 1, 1) := by decide +kernel
theorem dX7_rows_24 : decode cX7_rows 24 = .ok (.iinc 2 (-1), 3) := by decide +kernel
theorem dX7_rows_27 : decode cX7_rows 27 = .ok (.goto (-18), 3) := by decide +kernel
theorem dX7_rows_30 : decode cX7_rows 30 = .ok (.iload_n 1, 1) := by decide +kernel
theorem dX7_rows_31 : decode cX7_rows 31 = .ok (.ireturn, 1) := by decide +kernel
theorem dX7_place_0 : decode cX7_place 0 = .ok (.iload_n 1, 1) := by decide +kernel
theorem dX7_place_1 : decode cX7_place 1 = .ok (.aload_n 0, 1) := by decide +kernel
theorem dX7_place_2 : decode cX7_place 2 = .ok (.getfield 59, 3) := by decide +kernel
theorem dX7_place_5 : decode cX7_place 5 = .ok (.iload_n 2, 1) := by decide +kernel
theorem dX7_place_6 : decode cX7_place 6 = .ok (.iaload, 1) := by decide +kernel
theorem dX7_place_7 : decode cX7_place 7 = .ok (.idiv, 1) := by decide +kernel
theorem dX7_place_8 : decode cX7_place 8 = .ok (.iconst 3, 1) := by decide +kernel
theorem dX7_place_9 : decode cX7_place 9 = .ok (.irem, 1) := by decide +kernel
theorem dX7_place_10 : decode cX7_place 10 = .ok (.ireturn, 1) := by decide +kernel
theorem dX7_lowIn_0 : decode cX7_lowIn 0 = .ok (.iconst 0, 1) := by decide +kernel
theorem dX7_lowIn_1 : decode cX7_lowIn 1 = .ok (.istore_n 3, 1) := by decide +kernel
theorem dX7_lowIn_2 : decode cX7_lowIn 2 = .ok (.iconst 0, 1) := by decide +kernel
theorem dX7_lowIn_3 : decode cX7_lowIn 3 = .ok (.istore 4, 2) := by decide +kernel
theorem dX7_lowIn_5 : decode cX7_lowIn 5 = .ok (.iload 4, 2) := by decide +kernel
theorem dX7_lowIn_7 : decode cX7_lowIn 7 = .ok (.aload_n 0, 1) := by decide +kernel
theorem dX7_lowIn_8 : decode cX7_lowIn 8 = .ok (.getfield 81, 3) := by decide +kernel
theorem dX7_lowIn_11 : decode cX7_lowIn 11 = .ok (.if_icmp .ge 43, 3) := by decide +kernel
theorem dX7_lowIn_14 : decode cX7_lowIn 14 = .ok (.aload_n 0, 1) := by decide +kernel
theorem dX7_lowIn_15 : decode cX7_lowIn 15 = .ok (.iload_n 2, 1) := by decide +kernel
theorem dX7_lowIn_16 : decode cX7_lowIn 16 = .ok (.iload 4, 2) := by decide +kernel
theorem dX7_lowIn_18 : decode cX7_lowIn 18 = .ok (.invokevirtual 189, 3) := by decide +kernel
theorem dX7_lowIn_21 : decode cX7_lowIn 21 = .ok (.aload_n 0, 1) := by decide +kernel
theorem dX7_lowIn_22 : decode cX7_lowIn 22 = .ok (.getfield 53, 3) := by decide +kernel
theorem dX7_lowIn_25 : decode cX7_lowIn 25 = .ok (.iconst 4, 1) := by decide +kernel
theorem dX7_lowIn_26 : decode cX7_lowIn 26 = .ok (.iload_n 1, 1) := by decide +kernel
theorem dX7_lowIn_27 : decode cX7_lowIn 27 = .ok (.imul, 1) := by decide +kernel
theorem dX7_lowIn_28 : decode cX7_lowIn 28 = .ok (.iload 4, 2) := by decide +kernel
theorem dX7_lowIn_30 : decode cX7_lowIn 30 = .ok (.iadd, 1) := by decide +kernel
theorem dX7_lowIn_31 : decode cX7_lowIn 31 = .ok (.iaload, 1) := by decide +kernel
theorem dX7_lowIn_32 : decode cX7_lowIn 32 = .ok (.isub, 1) := by decide +kernel
theorem dX7_lowIn_33 : decode cX7_lowIn 33 = .ok (.istore 5, 2) := by decide +kernel
theorem dX7_lowIn_35 : decode cX7_lowIn 35 = .ok (.iload 5, 2) := by decide +kernel
theorem dX7_lowIn_37 : decode cX7_lowIn 37 = .ok (.ifCond .ge 6, 3) := by decide +kernel
theorem dX7_lowIn_40 : decode cX7_lowIn 40 = .ok (.bipush (-9), 2) := by decide +kernel
theorem dX7_lowIn_42 : decode cX7_lowIn 42 = .ok (.ireturn, 1) := by decide +kernel
theorem dX7_lowIn_43 : decode cX7_lowIn 43 = .ok (.iload_n 3, 1) := by decide +kernel
theorem dX7_lowIn_44 : decode cX7_lowIn 44 = .ok (.iload 5, 2) := by decide +kernel
theorem dX7_lowIn_46 : decode cX7_lowIn 46 = .ok (.iadd, 1) := by decide +kernel
end
section
theorem dX7_lowIn_47 : decode cX7_lowIn 47 = .ok (.istore_n 3, 1) := by decide +kernel
theorem dX7_lowIn_48 : decode cX7_lowIn 48 = .ok (.iinc 4 1, 3) := by decide +kernel
theorem dX7_lowIn_51 : decode cX7_lowIn 51 = .ok (.goto (-46), 3) := by decide +kernel
theorem dX7_lowIn_54 : decode cX7_lowIn 54 = .ok (.iconst 0, 1) := by decide +kernel
theorem dX7_lowIn_55 : decode cX7_lowIn 55 = .ok (.istore 4, 2) := by decide +kernel
theorem dX7_lowIn_57 : decode cX7_lowIn 57 = .ok (.iload 4, 2) := by decide +kernel
theorem dX7_lowIn_59 : decode cX7_lowIn 59 = .ok (.iconst 3, 1) := by decide +kernel
theorem dX7_lowIn_60 : decode cX7_lowIn 60 = .ok (.if_icmp .ge 67, 3) := by decide +kernel
theorem dX7_lowIn_63 : decode cX7_lowIn 63 = .ok (.iconst 0, 1) := by decide +kernel
theorem dX7_lowIn_64 : decode cX7_lowIn 64 = .ok (.istore 5, 2) := by decide +kernel
theorem dX7_lowIn_66 : decode cX7_lowIn 66 = .ok (.iconst 0, 1) := by decide +kernel
theorem dX7_lowIn_67 : decode cX7_lowIn 67 = .ok (.istore 6, 2) := by decide +kernel
theorem dX7_lowIn_69 : decode cX7_lowIn 69 = .ok (.iload 6, 2) := by decide +kernel
theorem dX7_lowIn_71 : decode cX7_lowIn 71 = .ok (.aload_n 0, 1) := by decide +kernel
theorem dX7_lowIn_72 : decode cX7_lowIn 72 = .ok (.getfield 81, 3) := by decide +kernel
theorem dX7_lowIn_75 : decode cX7_lowIn 75 = .ok (.if_icmp .ge 31, 3) := by decide +kernel
theorem dX7_lowIn_78 : decode cX7_lowIn 78 = .ok (.iload 5, 2) := by decide +kernel
theorem dX7_lowIn_80 : decode cX7_lowIn 80 = .ok (.aload_n 0, 1) := by decide +kernel
theorem dX7_lowIn_81 : decode cX7_lowIn 81 = .ok (.iload_n 2, 1) := by decide +kernel
theorem dX7_lowIn_82 : decode cX7_lowIn 82 = .ok (.iload 6, 2) := by decide +kernel
theorem dX7_lowIn_84 : decode cX7_lowIn 84 = .ok (.invokevirtual 189, 3) := by decide +kernel
theorem dX7_lowIn_87 : decode cX7_lowIn 87 = .ok (.iload 4, 2) := by decide +kernel
theorem dX7_lowIn_89 : decode cX7_lowIn 89 = .ok (.if_icmp .ne 7, 3) := by decide +kernel
theorem dX7_lowIn_92 : decode cX7_lowIn 92 = .ok (.iconst 1, 1) := by decide +kernel
theorem dX7_lowIn_93 : decode cX7_lowIn 93 = .ok (.goto 4, 3) := by decide +kernel
theorem dX7_lowIn_96 : decode cX7_lowIn 96 = .ok (.iconst 0, 1) := by decide +kernel
theorem dX7_lowIn_97 : decode cX7_lowIn 97 = .ok (.iadd, 1) := by decide +kernel
theorem dX7_lowIn_98 : decode cX7_lowIn 98 = .ok (.istore 5, 2) := by decide +kernel
theorem dX7_lowIn_100 : decode cX7_lowIn 100 = .ok (.iinc 6 1, 3) := by decide +kernel
theorem dX7_lowIn_103 : decode cX7_lowIn 103 = .ok (.goto (-34), 3) := by decide +kernel
theorem dX7_lowIn_106 : decode cX7_lowIn 106 = .ok (.iload 5, 2) := by decide +kernel
theorem dX7_lowIn_108 : decode cX7_lowIn 108 = .ok (.aload_n 0, 1) := by decide +kernel
theorem dX7_lowIn_109 : decode cX7_lowIn 109 = .ok (.getfield 19, 3) := by decide +kernel
theorem dX7_lowIn_112 : decode cX7_lowIn 112 = .ok (.iload 4, 2) := by decide +kernel
theorem dX7_lowIn_114 : decode cX7_lowIn 114 = .ok (.iaload, 1) := by decide +kernel
theorem dX7_lowIn_115 : decode cX7_lowIn 115 = .ok (.if_icmp .le 6, 3) := by decide +kernel
theorem dX7_lowIn_118 : decode cX7_lowIn 118 = .ok (.bipush (-9), 2) := by decide +kernel
theorem dX7_lowIn_120 : decode cX7_lowIn 120 = .ok (.ireturn, 1) := by decide +kernel
theorem dX7_lowIn_121 : decode cX7_lowIn 121 = .ok (.iinc 4 1, 3) := by decide +kernel
theorem dX7_lowIn_124 : decode cX7_lowIn 124 = .ok (.goto (-67), 3) := by decide +kernel
theorem dX7_lowIn_127 : decode cX7_lowIn 127 = .ok (.iload_n 3, 1) := by decide +kernel
theorem dX7_lowIn_128 : decode cX7_lowIn 128 = .ok (.ireturn, 1) := by decide +kernel
theorem dX7_changed_0 : decode cX7_changed 0 = .ok (.iconst 0, 1) := by decide +kernel
theorem dX7_changed_1 : decode cX7_changed 1 = .ok (.istore_n 3, 1) := by decide +kernel
theorem dX7_changed_2 : decode cX7_changed 2 = .ok (.iconst 0, 1) := by decide +kernel
theorem dX7_changed_3 : decode cX7_changed 3 = .ok (.istore 4, 2) := by decide +kernel
theorem dX7_changed_5 : decode cX7_changed 5 = .ok (.iload 4, 2) := by decide +kernel
theorem dX7_changed_7 : decode cX7_changed 7 = .ok (.aload_n 0, 1) := by decide +kernel
theorem dX7_changed_8 : decode cX7_changed 8 = .ok (.getfield 81, 3) := by decide +kernel
theorem dX7_changed_11 : decode cX7_changed 11 = .ok (.if_icmp .ge 34, 3) := by decide +kernel
theorem dX7_changed_14 : decode cX7_changed 14 = .ok (.iload_n 3, 1) := by decide +kernel
theorem dX7_changed_15 : decode cX7_changed 15 = .ok (.aload_n 0, 1) := by decide +kernel
theorem dX7_changed_16 : decode cX7_changed 16 = .ok (.iload_n 1, 1) := by decide +kernel
theorem dX7_changed_17 : decode cX7_changed 17 = .ok (.iload 4, 2) := by decide +kernel
theorem dX7_changed_19 : decode cX7_changed 19 = .ok (.invokevirtual 189, 3) := by decide +kernel
theorem dX7_changed_22 : decode cX7_changed 22 = .ok (.aload_n 0, 1) := by decide +kernel
theorem dX7_changed_23 : decode cX7_changed 23 = .ok (.iload_n 2, 1) := by decide +kernel
theorem dX7_changed_24 : decode cX7_changed 24 = .ok (.iload 4, 2) := by decide +kernel
theorem dX7_changed_26 : decode cX7_changed 26 = .ok (.invokevirtual 189, 3) := by decide +kernel
theorem dX7_changed_29 : decode cX7_changed 29 = .ok (.if_icmp .ne 7, 3) := by decide +kernel
theorem dX7_changed_32 : decode cX7_changed 32 = .ok (.iconst 0, 1) := by decide +kernel
theorem dX7_changed_33 : decode cX7_changed 33 = .ok (.goto 4, 3) := by decide +kernel
theorem dX7_changed_36 : decode cX7_changed 36 = .ok (.iconst 1, 1) := by decide +kernel
theorem dX7_changed_37 : decode cX7_changed 37 = .ok (.iadd, 1) := by decide +kernel
theorem dX7_changed_38 : decode cX7_changed 38 = .ok (.istore_n 3, 1) := by decide +kernel
theorem dX7_changed_39 : decode cX7_changed 39 = .ok (.iinc 4 1, 3) := by decide +kernel
theorem dX7_changed_42 : decode cX7_changed 42 = .ok (.goto (-37), 3) := by decide +kernel
theorem dX7_changed_45 : decode cX7_changed 45 = .ok (.iload_n 3, 1) := by decide +kernel
theorem dX7_changed_46 : decode cX7_changed 46 = .ok (.ireturn, 1) := by decide +kernel
theorem dX7_bestBehind_0 : decode cX7_bestBehind 0 = .ok (.iload_n 1, 1) := by decide +kernel
theorem dX7_bestBehind_1 : decode cX7_bestBehind 1 = .ok (.aload_n 0, 1) := by decide +kernel
theorem dX7_bestBehind_2 : decode cX7_bestBehind 2 = .ok (.getfield 84, 3) := by decide +kernel
theorem dX7_bestBehind_5 : decode cX7_bestBehind 5 = .ok (.iconst 1, 1) := by decide +kernel
theorem dX7_bestBehind_6 : decode cX7_bestBehind 6 = .ok (.isub, 1) := by decide +kernel
theorem dX7_bestBehind_7 : decode cX7_bestBehind 7 = .ok (.if_icmp .ne 5, 3) := by decide +kernel
theorem dX7_bestBehind_10 : decode cX7_bestBehind 10 = .ok (.iconst 0, 1) := by decide +kernel
theorem dX7_bestBehind_11 : decode cX7_bestBehind 11 = .ok (.ireturn, 1) := by decide +kernel
theorem dX7_bestBehind_12 : decode cX7_bestBehind 12 = .ok (.bipush (-9), 2) := by decide +kernel
theorem dX7_bestBehind_14 : decode cX7_bestBehind 14 = .ok (.istore 4, 2) := by decide +kernel
theorem dX7_bestBehind_16 : decode cX7_bestBehind 16 = .ok (.iconst 0, 1) := by decide +kernel
theorem dX7_bestBehind_17 : decode cX7_bestBehind 17 = .ok (.istore 5, 2) := by decide +kernel
theorem dX7_bestBehind_19 : decode cX7_bestBehind 19 = .ok (.iload 5, 2) := by decide +kernel
theorem dX7_bestBehind_21 : decode cX7_bestBehind 21 = .ok (.iload_n 3, 1) := by decide +kernel
theorem dX7_bestBehind_22 : decode cX7_bestBehind 22 = .ok (.if_icmp .ge 67, 3) := by decide +kernel
theorem dX7_bestBehind_25 : decode cX7_bestBehind 25 = .ok (.aload_n 0, 1) := by decide +kernel
theorem dX7_bestBehind_26 : decode cX7_bestBehind 26 = .ok (.getfield 56, 3) := by decide +kernel
theorem dX7_bestBehind_29 : decode cX7_bestBehind 29 = .ok (.bipush 81, 2) := by decide +kernel
theorem dX7_bestBehind_31 : decode cX7_bestBehind 31 = .ok (.iload_n 1, 1) := by decide +kernel
theorem dX7_bestBehind_32 : decode cX7_bestBehind 32 = .ok (.iconst 1, 1) := by decide +kernel
theorem dX7_bestBehind_33 : decode cX7_bestBehind 33 = .ok (.iadd, 1) := by decide +kernel
theorem dX7_bestBehind_34 : decode cX7_bestBehind 34 = .ok (.imul, 1) := by decide +kernel
theorem dX7_bestBehind_35 : decode cX7_bestBehind 35 = .ok (.iload 5, 2) := by decide +kernel
theorem dX7_bestBehind_37 : decode cX7_bestBehind 37 = .ok (.iadd, 1) := by decide +kernel
theorem dX7_bestBehind_38 : decode cX7_bestBehind 38 = .ok (.iaload, 1) := by decide +kernel
theorem dX7_bestBehind_39 : decode cX7_bestBehind 39 = .ok (.istore 6, 2) := by decide +kernel
theorem dX7_bestBehind_41 : decode cX7_bestBehind 41 = .ok (.iload 6, 2) := by decide +kernel
theorem dX7_bestBehind_43 : decode cX7_bestBehind 43 = .ok (.bipush (-9), 2) := by decide +kernel
theorem dX7_bestBehind_45 : decode cX7_bestBehind 45 = .ok (.if_icmp .eq 38, 3) := by decide +kernel
theorem dX7_bestBehind_48 : decode cX7_bestBehind 48 = .ok (.iload 6, 2) := by decide +kernel
theorem dX7_bestBehind_50 : decode cX7_bestBehind 50 = .ok (.aload_n 0, 1) := by decide +kernel
theorem dX7_bestBehind_51 : decode cX7_bestBehind 51 = .ok (.iload_n 2, 1) := by decide +kernel
theorem dX7_bestBehind_52 : decode cX7_bestBehind 52 = .ok (.iload 5, 2) := by decide +kernel
theorem dX7_bestBehind_54 : decode cX7_bestBehind 54 = .ok (.invokevirtual 192, 3) := by decide +kernel
theorem dX7_bestBehind_57 : decode cX7_bestBehind 57 = .ok (.iadd, 1) := by decide +kernel
theorem dX7_bestBehind_58 : decode cX7_bestBehind 58 = .ok (.istore 6, 2) := by decide +kernel
theorem dX7_bestBehind_60 : decode cX7_bestBehind 60 = .ok (.iload 4, 2) := by decide +kernel
theorem dX7_bestBehind_62 : decode cX7_bestBehind 62 = .ok (.bipush (-9), 2) := by decide +kernel
theorem dX7_bestBehind_64 : decode cX7_bestBehind 64 = .ok (.if_icmp .eq 10, 3) := by decide +kernel
theorem dX7_bestBehind_67 : decode cX7_bestBehind 67 = .ok (.iload 6, 2) := by decide +kernel
theorem dX7_bestBehind_69 : decode cX7_bestBehind 69 = .ok (.iload 4, 2) := by decide +kernel
theorem dX7_bestBehind_71 : decode cX7_bestBehind 71 = .ok (.if_icmp .ge 8, 3) := by decide +kernel
theorem dX7_bestBehind_74 : decode cX7_bestBehind 74 = .ok (.iload 6, 2) := by decide +kernel
theorem dX7_bestBehind_76 : decode cX7_bestBehind 76 = .ok (.goto 5, 3) := by decide +kernel
theorem dX7_bestBehind_79 : decode cX7_bestBehind 79 = .ok (.iload 4, 2) := by decide +kernel
theorem dX7_bestBehind_81 : decode cX7_bestBehind 81 = .ok (.istore 4, 2) := by decide +kernel
theorem dX7_bestBehind_83 : decode cX7_bestBehind 83 = .ok (.iinc 5 1, 3) := by decide +kernel
theorem dX7_bestBehind_86 : decode cX7_bestBehind 86 = .ok (.goto (-67), 3) := by decide +kernel
theorem dX7_bestBehind_89 : decode cX7_bestBehind 89 = .ok (.iload 4, 2) := by decide +kernel
theorem dX7_bestBehind_91 : decode cX7_bestBehind 91 = .ok (.ireturn, 1) := by decide +kernel
theorem dX7_findEase_0 : decode cX7_findEase 0 = .ok (.aload_n 0, 1) := by decide +kernel
theorem dX7_findEase_1 : decode cX7_findEase 1 = .ok (.invokevirtual 177, 3) := by decide +kernel
theorem dX7_findEase_4 : decode cX7_findEase 4 = .ok (.aload_n 0, 1) := by decide +kernel
theorem dX7_findEase_5 : decode cX7_findEase 5 = .ok (.getfield 84, 3) := by decide +kernel
theorem dX7_findEase_8 : decode cX7_findEase 8 = .ok (.iconst 1, 1) := by decide +kernel
theorem dX7_findEase_9 : decode cX7_findEase 9 = .ok (.isub, 1) := by decide +kernel
theorem dX7_findEase_10 : decode cX7_findEase 10 = .ok (.istore_n 2, 1) := by decide +kernel
theorem dX7_findEase_11 : decode cX7_findEase 11 = .ok (.iload_n 2, 1) := by decide +kernel
theorem dX7_findEase_12 : decode cX7_findEase 12 = .ok (.ifCond .lt 79, 3) := by decide +kernel
theorem dX7_findEase_15 : decode cX7_findEase 15 = .ok (.iconst 0, 1) := by decide +kernel
theorem dX7_findEase_16 : decode cX7_findEase 16 = .ok (.istore_n 3, 1) := by decide +kernel
theorem dX7_findEase_17 : decode cX7_findEase 17 = .ok (.iload_n 3, 1) := by decide +kernel
theorem dX7_findEase_18 : decode cX7_findEase 18 = .ok (.iload_n 1, 1) := by decide +kernel
theorem dX7_findEase_19 : decode cX7_findEase 19 = .ok (.if_icmp .ge 66, 3) := by decide +kernel
theorem dX7_findEase_22 : decode cX7_findEase 22 = .ok (.aload_n 0, 1) := by decide +kernel
theorem dX7_findEase_23 : decode cX7_findEase 23 = .ok (.iload_n 2, 1) := by decide +kernel
theorem dX7_findEase_24 : decode cX7_findEase 24 = .ok (.iload_n 3, 1) := by decide +kernel
theorem dX7_findEase_25 : decode cX7_findEase 25 = .ok (.invokevirtual 195, 3) := by decide +kernel
theorem dX7_findEase_28 : decode cX7_findEase 28 = .ok (.istore 4, 2) := by decide +kernel
theorem dX7_findEase_30 : decode cX7_findEase 30 = .ok (.iload 4, 2) := by decide +kernel
theorem dX7_findEase_32 : decode cX7_findEase 32 = .ok (.bipush (-9), 2) := by decide +kernel
theorem dX7_findEase_34 : decode cX7_findEase 34 = .ok (.if_icmp .ne 8, 3) := by decide +kernel
theorem dX7_findEase_37 : decode cX7_findEase 37 = .ok (.bipush (-9), 2) := by decide +kernel
theorem dX7_findEase_39 : decode cX7_findEase 39 = .ok (.goto 10, 3) := by decide +kernel
theorem dX7_findEase_42 : decode cX7_findEase 42 = .ok (.aload_n 0, 1) := by decide +kernel
theorem dX7_findEase_43 : decode cX7_findEase 43 = .ok (.iload_n 2, 1) := by decide +kernel
theorem dX7_findEase_44 : decode cX7_findEase 44 = .ok (.iload_n 3, 1) := by decide +kernel
theorem dX7_findEase_45 : decode cX7_findEase 45 = .ok (.iload_n 1, 1) := by decide +kernel
theorem dX7_findEase_46 : decode cX7_findEase 46 = .ok (.invokevirtual 198, 3) := by decide +kernel
theorem dX7_findEase_49 : decode cX7_findEase 49 = .ok (.istore 5, 2) := by decide +kernel
theorem dX7_findEase_51 : decode cX7_findEase 51 = .ok (.aload_n 0, 1) := by decide +kernel
theorem dX7_findEase_52 : decode cX7_findEase 52 = .ok (.getfield 56, 3) := by decide +kernel
theorem dX7_findEase_55 : decode cX7_findEase 55 = .ok (.bipush 81, 2) := by decide +kernel
theorem dX7_findEase_57 : decode cX7_findEase 57 = .ok (.iload_n 2, 1) := by decide +kernel
theorem dX7_findEase_58 : decode cX7_findEase 58 = .ok (.imul, 1) := by decide +kernel
theorem dX7_findEase_59 : decode cX7_findEase 59 = .ok (.iload_n 3, 1) := by decide +kernel
theorem dX7_findEase_60 : decode cX7_findEase 60 = .ok (.iadd, 1) := by decide +kernel
theorem dX7_findEase_61 : decode cX7_findEase 61 = .ok (.iload 5, 2) := by decide +kernel
theorem dX7_findEase_63 : decode cX7_findEase 63 = .ok (.bipush (-9), 2) := by decide +kernel
theorem dX7_findEase_65 : decode cX7_findEase 65 = .ok (.if_icmp .ne 8, 3) := by decide +kernel
theorem dX7_findEase_68 : decode cX7_findEase 68 = .ok (.bipush (-9), 2) := by decide +kernel
theorem dX7_findEase_70 : decode cX7_findEase 70 = .ok (.goto 8, 3) := by decide +kernel
theorem dX7_findEase_73 : decode cX7_findEase 73 = .ok (.iload 4, 2) := by decide +kernel
theorem dX7_findEase_75 : decode cX7_findEase 75 = .ok (.iload 5, 2) := by decide +kernel
theorem dX7_findEase_77 : decode cX7_findEase 77 = .ok (.iadd, 1) := by decide +kernel
theorem dX7_findEase_78 : decode cX7_findEase 78 = .ok (.iastore, 1) := by decide +kernel
theorem dX7_findEase_79 : decode cX7_findEase 79 = .ok (.iinc 3 1, 3) := by decide +kernel
theorem dX7_findEase_82 : decode cX7_findEase 82 = .ok (.goto (-65), 3) := by decide +kernel
theorem dX7_findEase_85 : decode cX7_findEase 85 = .ok (.iinc 2 (-1), 3) := by decide +kernel
theorem dX7_findEase_88 : decode cX7_findEase 88 = .ok (.goto (-77), 3) := by decide +kernel
theorem dX7_findEase_91 : decode cX7_findEase 91 = .ok (.return_, 1) := by decide +kernel
theorem dX7_bestRow_0 : decode cX7_bestRow 0 = .ok (.bipush (-9), 2) := by decide +kernel
theorem dX7_bestRow_2 : decode cX7_bestRow 2 = .ok (.istore 4, 2) := by decide +kernel
theorem dX7_bestRow_4 : decode cX7_bestRow 4 = .ok (.bipush (-9), 2) := by decide +kernel
theorem dX7_bestRow_6 : decode cX7_bestRow 6 = .ok (.istore 5, 2) := by decide +kernel
theorem dX7_bestRow_8 : decode cX7_bestRow 8 = .ok (.iconst 0, 1) := by decide +kernel
theorem dX7_bestRow_9 : decode cX7_bestRow 9 = .ok (.istore 6, 2) := by decide +kernel
theorem dX7_bestRow_11 : decode cX7_bestRow 11 = .ok (.iload 6, 2) := by decide +kernel
theorem dX7_bestRow_13 : decode cX7_bestRow 13 = .ok (.iload_n 3, 1) := by decide +kernel
theorem dX7_bestRow_14 : decode cX7_bestRow 14 = .ok (.if_icmp .ge 74, 3) := by decide +kernel
theorem dX7_bestRow_17 : decode cX7_bestRow 17 = .ok (.aload_n 0, 1) := by decide +kernel
theorem dX7_bestRow_18 : decode cX7_bestRow 18 = .ok (.getfield 56, 3) := by decide +kernel
theorem dX7_bestRow_21 : decode cX7_bestRow 21 = .ok (.bipush 81, 2) := by decide +kernel
theorem dX7_bestRow_23 : decode cX7_bestRow 23 = .ok (.iload_n 1, 1) := by decide +kernel
theorem dX7_bestRow_24 : decode cX7_bestRow 24 = .ok (.imul, 1) := by decide +kernel
theorem dX7_bestRow_25 : decode cX7_bestRow 25 = .ok (.iload 6, 2) := by decide +kernel
theorem dX7_bestRow_27 : decode cX7_bestRow 27 = .ok (.iadd, 1) := by decide +kernel
theorem dX7_bestRow_28 : decode cX7_bestRow 28 = .ok (.iaload, 1) := by decide +kernel
theorem dX7_bestRow_29 : decode cX7_bestRow 29 = .ok (.istore 7, 2) := by decide +kernel
theorem dX7_bestRow_31 : decode cX7_bestRow 31 = .ok (.iload 7, 2) := by decide +kernel
theorem dX7_bestRow_33 : decode cX7_bestRow 33 = .ok (.bipush (-9), 2) := by decide +kernel
theorem dX7_bestRow_35 : decode cX7_bestRow 35 = .ok (.if_icmp .eq 47, 3) := by decide +kernel
theorem dX7_bestRow_38 : decode cX7_bestRow 38 = .ok (.iload 7, 2) := by decide +kernel
theorem dX7_bestRow_40 : decode cX7_bestRow 40 = .ok (.iload_n 2, 1) := by decide +kernel
theorem dX7_bestRow_41 : decode cX7_bestRow 41 = .ok (.bipush (-9), 2) := by decide +kernel
theorem dX7_bestRow_43 : decode cX7_bestRow 43 = .ok (.if_icmp .ne 7, 3) := by decide +kernel
theorem dX7_bestRow_46 : decode cX7_bestRow 46 = .ok (.iconst 0, 1) := by decide +kernel
theorem dX7_bestRow_47 : decode cX7_bestRow 47 = .ok (.goto 10, 3) := by decide +kernel
theorem dX7_bestRow_50 : decode cX7_bestRow 50 = .ok (.aload_n 0, 1) := by decide +kernel
theorem dX7_bestRow_51 : decode cX7_bestRow 51 = .ok (.iload_n 2, 1) := by decide +kernel
theorem dX7_bestRow_52 : decode cX7_bestRow 52 = .ok (.iload 6, 2) := by decide +kernel
theorem dX7_bestRow_54 : decode cX7_bestRow 54 = .ok (.invokevirtual 192, 3) := by decide +kernel
theorem dX7_bestRow_57 : decode cX7_bestRow 57 = .ok (.iadd, 1) := by decide +kernel
theorem dX7_bestRow_58 : decode cX7_bestRow 58 = .ok (.istore 7, 2) := by decide +kernel
theorem dX7_bestRow_60 : decode cX7_bestRow 60 = .ok (.iload 4, 2) := by decide +kernel
theorem dX7_bestRow_62 : decode cX7_bestRow 62 = .ok (.bipush (-9), 2) := by decide +kernel
theorem dX7_bestRow_64 : decode cX7_bestRow 64 = .ok (.if_icmp .eq 10, 3) := by decide +kernel
theorem dX7_bestRow_67 : decode cX7_bestRow 67 = .ok (.iload 7, 2) := by decide +kernel
theorem dX7_bestRow_69 : decode cX7_bestRow 69 = .ok (.iload 5, 2) := by decide +kernel
theorem dX7_bestRow_71 : decode cX7_bestRow 71 = .ok (.if_icmp .ge 11, 3) := by decide +kernel
theorem dX7_bestRow_74 : decode cX7_bestRow 74 = .ok (.iload 6, 2) := by decide +kernel
theorem dX7_bestRow_76 : decode cX7_bestRow 76 = .ok (.istore 4, 2) := by decide +kernel
theorem dX7_bestRow_78 : decode cX7_bestRow 78 = .ok (.iload 7, 2) := by decide +kernel
theorem dX7_bestRow_80 : decode cX7_bestRow 80 = .ok (.istore 5, 2) := by decide +kernel
theorem dX7_bestRow_82 : decode cX7_bestRow 82 = .ok (.iinc 6 1, 3) := by decide +kernel
theorem dX7_bestRow_85 : decode cX7_bestRow 85 = .ok (.goto (-74), 3) := by decide +kernel
theorem dX7_bestRow_88 : decode cX7_bestRow 88 = .ok (.iload 4, 2) := by decide +kernel
theorem dX7_bestRow_90 : decode cX7_bestRow 90 = .ok (.ireturn, 1) := by decide +kernel
theorem dX7_ease_0 : decode cX7_ease 0 = .ok (.iload_n 1, 1) := by decide +kernel
theorem dX7_ease_1 : decode cX7_ease 1 = .ok (.iconst (-1), 1) := by decide +kernel
theorem dX7_ease_2 : decode cX7_ease 2 = .ok (.if_icmp .ge 5, 3) := by decide +kernel
theorem dX7_ease_5 : decode cX7_ease 5 = .ok (.iconst (-1), 1) := by decide +kernel
theorem dX7_ease_6 : decode cX7_ease 6 = .ok (.ireturn, 1) := by decide +kernel
theorem dX7_ease_7 : decode cX7_ease 7 = .ok (.aload_n 0, 1) := by decide +kernel
theorem dX7_ease_8 : decode cX7_ease 8 = .ok (.getfield 84, 3) := by decide +kernel
theorem dX7_ease_11 : decode cX7_ease 11 = .ok (.ifCond .ne 6, 3) := by decide +kernel
theorem dX7_ease_14 : decode cX7_ease 14 = .ok (.bipush (-3), 2) := by decide +kernel
theorem dX7_ease_16 : decode cX7_ease 16 = .ok (.ireturn, 1) := by decide +kernel
theorem dX7_ease_17 : decode cX7_ease 17 = .ok (.aload_n 0, 1) := by decide +kernel
theorem dX7_ease_18 : decode cX7_ease 18 = .ok (.invokevirtual 201, 3) := by decide +kernel
theorem dX7_ease_21 : decode cX7_ease 21 = .ok (.istore_n 2, 1) := by decide +kernel
theorem dX7_ease_22 : decode cX7_ease 22 = .ok (.aload_n 0, 1) := by decide +kernel
theorem dX7_ease_23 : decode cX7_ease 23 = .ok (.iload_n 2, 1) := by decide +kernel
theorem dX7_ease_24 : decode cX7_ease 24 = .ok (.invokevirtual 205, 3) := by decide +kernel
theorem dX7_ease_27 : decode cX7_ease 27 = .ok (.aload_n 0, 1) := by decide +kernel
theorem dX7_ease_28 : decode cX7_ease 28 = .ok (.iconst 0, 1) := by decide +kernel
theorem dX7_ease_29 : decode cX7_ease 29 = .ok (.bipush (-9), 2) := by decide +kernel
theorem dX7_ease_31 : decode cX7_ease 31 = .ok (.iload_n 2, 1) := by decide +kernel
theorem dX7_ease_32 : decode cX7_ease 32 = .ok (.invokevirtual 208, 3) := by decide +kernel
theorem dX7_ease_35 : decode cX7_ease 35 = .ok (.istore_n 3, 1) := by decide +kernel
theorem dX7_ease_36 : decode cX7_ease 36 = .ok (.iload_n 1, 1) := by decide +kernel
theorem dX7_ease_37 : decode cX7_ease 37 = .ok (.iconst (-1), 1) := by decide +kernel
theorem dX7_ease_38 : decode cX7_ease 38 = .ok (.if_icmp .eq 22, 3) := by decide +kernel
theorem dX7_ease_41 : decode cX7_ease 41 = .ok (.iload_n 3, 1) := by decide +kernel
theorem dX7_ease_42 : decode cX7_ease 42 = .ok (.bipush (-9), 2) := by decide +kernel
theorem dX7_ease_44 : decode cX7_ease 44 = .ok (.if_icmp .eq 16, 3) := by decide +kernel
theorem dX7_ease_47 : decode cX7_ease 47 = .ok (.iload_n 1, 1) := by decide +kernel
theorem dX7_ease_48 : decode cX7_ease 48 = .ok (.aload_n 0, 1) := by decide +kernel
theorem dX7_ease_49 : decode cX7_ease 49 = .ok (.getfield 84, 3) := by decide +kernel
theorem dX7_ease_52 : decode cX7_ease 52 = .ok (.aload_n 0, 1) := by decide +kernel
theorem dX7_ease_53 : decode cX7_ease 53 = .ok (.getfield 81, 3) := by decide +kernel
theorem dX7_ease_56 : decode cX7_ease 56 = .ok (.imul, 1) := by decide +kernel
theorem dX7_ease_57 : decode cX7_ease 57 = .ok (.if_icmp .lt 26, 3) := by decide +kernel
theorem dX7_ease_60 : decode cX7_ease 60 = .ok (.iload_n 1, 1) := by decide +kernel
theorem dX7_ease_61 : decode cX7_ease 61 = .ok (.iconst (-1), 1) := by decide +kernel
theorem dX7_ease_62 : decode cX7_ease 62 = .ok (.if_icmp .ne 18, 3) := by decide +kernel
theorem dX7_ease_65 : decode cX7_ease 65 = .ok (.iload_n 3, 1) := by decide +kernel
theorem dX7_ease_66 : decode cX7_ease 66 = .ok (.bipush (-9), 2) := by decide +kernel
theorem dX7_ease_68 : decode cX7_ease 68 = .ok (.if_icmp .eq 12, 3) := by decide +kernel
theorem dX7_ease_71 : decode cX7_ease 71 = .ok (.aload_n 0, 1) := by decide +kernel
theorem dX7_ease_72 : decode cX7_ease 72 = .ok (.getfield 56, 3) := by decide +kernel
theorem dX7_ease_75 : decode cX7_ease 75 = .ok (.iload_n 3, 1) := by decide +kernel
theorem dX7_ease_76 : decode cX7_ease 76 = .ok (.iaload, 1) := by decide +kernel
theorem dX7_ease_77 : decode cX7_ease 77 = .ok (.goto 5, 3) := by decide +kernel
theorem dX7_ease_80 : decode cX7_ease 80 = .ok (.bipush (-9), 2) := by decide +kernel
theorem dX7_ease_82 : decode cX7_ease 82 = .ok (.ireturn, 1) := by decide +kernel
theorem dX7_ease_83 : decode cX7_ease 83 = .ok (.iconst 1, 1) := by decide +kernel
theorem dX7_ease_84 : decode cX7_ease 84 = .ok (.istore 4, 2) := by decide +kernel
theorem dX7_ease_86 : decode cX7_ease 86 = .ok (.iload 4, 2) := by decide +kernel
theorem dX7_ease_88 : decode cX7_ease 88 = .ok (.iload_n 1, 1) := by decide +kernel
theorem dX7_ease_89 : decode cX7_ease 89 = .ok (.aload_n 0, 1) := by decide +kernel
theorem dX7_ease_90 : decode cX7_ease 90 = .ok (.getfield 81, 3) := by decide +kernel
theorem dX7_ease_93 : decode cX7_ease 93 = .ok (.idiv, 1) := by decide +kernel
theorem dX7_ease_94 : decode cX7_ease 94 = .ok (.if_icmp .gt 18, 3) := by decide +kernel
theorem dX7_ease_97 : decode cX7_ease 97 = .ok (.aload_n 0, 1) := by decide +kernel
theorem dX7_ease_98 : decode cX7_ease 98 = .ok (.iload 4, 2) := by decide +kernel
theorem dX7_ease_100 : decode cX7_ease 100 = .ok (.iload_n 3, 1) := by decide +kernel
theorem dX7_ease_101 : decode cX7_ease 101 = .ok (.iload_n 2, 1) := by decide +kernel
theorem dX7_ease_102 : decode cX7_ease 102 = .ok (.invokevirtual 208, 3) := by decide +kernel
theorem dX7_ease_105 : decode cX7_ease 105 = .ok (.istore_n 3, 1) := by decide +kernel
theorem dX7_ease_106 : decode cX7_ease 106 = .ok (.iinc 4 1, 3) := by decide +kernel
theorem dX7_ease_109 : decode cX7_ease 109 = .ok (.goto (-23), 3) := by decide +kernel
theorem dX7_ease_112 : decode cX7_ease 112 = .ok (.aload_n 0, 1) := by decide +kernel
theorem dX7_ease_113 : decode cX7_ease 113 = .ok (.iload_n 3, 1) := by decide +kernel
theorem dX7_ease_114 : decode cX7_ease 114 = .ok (.iload_n 1, 1) := by decide +kernel
theorem dX7_ease_115 : decode cX7_ease 115 = .ok (.aload_n 0, 1) := by decide +kernel
theorem dX7_ease_116 : decode cX7_ease 116 = .ok (.getfield 81, 3) := by decide +kernel
theorem dX7_ease_119 : decode cX7_ease 119 = .ok (.irem, 1) := by decide +kernel
theorem dX7_ease_120 : decode cX7_ease 120 = .ok (.invokevirtual 189, 3) := by decide +kernel
theorem dX7_ease_123 : decode cX7_ease 123 = .ok (.ireturn, 1) := by decide +kernel
theorem dX7_stuck_0 : decode cX7_stuck 0 = .ok (.aload_n 0, 1) := by decide +kernel
theorem dX7_stuck_1 : decode cX7_stuck 1 = .ok (.getfield 84, 3) := by decide +kernel
theorem dX7_stuck_4 : decode cX7_stuck 4 = .ok (.ifCond .ne 6, 3) := by decide +kernel
theorem dX7_stuck_7 : decode cX7_stuck 7 = .ok (.bipush (-3), 2) := by decide +kernel
theorem dX7_stuck_9 : decode cX7_stuck 9 = .ok (.ireturn, 1) := by decide +kernel
theorem dX7_stuck_10 : decode cX7_stuck 10 = .ok (.aload_n 0, 1) := by decide +kernel
theorem dX7_stuck_11 : decode cX7_stuck 11 = .ok (.invokevirtual 201, 3) := by decide +kernel
theorem dX7_stuck_14 : decode cX7_stuck 14 = .ok (.istore_n 1, 1) := by decide +kernel
theorem dX7_stuck_15 : decode cX7_stuck 15 = .ok (.aload_n 0, 1) := by decide +kernel
theorem dX7_stuck_16 : decode cX7_stuck 16 = .ok (.invokevirtual 177, 3) := by decide +kernel
theorem dX7_stuck_19 : decode cX7_stuck 19 = .ok (.iconst 0, 1) := by decide +kernel
theorem dX7_stuck_20 : decode cX7_stuck 20 = .ok (.istore_n 2, 1) := by decide +kernel
theorem dX7_stuck_21 : decode cX7_stuck 21 = .ok (.iload_n 2, 1) := by decide +kernel
theorem dX7_stuck_22 : decode cX7_stuck 22 = .ok (.aload_n 0, 1) := by decide +kernel
theorem dX7_stuck_23 : decode cX7_stuck 23 = .ok (.getfield 84, 3) := by decide +kernel
theorem dX7_stuck_26 : decode cX7_stuck 26 = .ok (.if_icmp .ge 54, 3) := by decide +kernel
theorem dX7_stuck_29 : decode cX7_stuck 29 = .ok (.iconst 0, 1) := by decide +kernel
theorem dX7_stuck_30 : decode cX7_stuck 30 = .ok (.istore_n 3, 1) := by decide +kernel
theorem dX7_stuck_31 : decode cX7_stuck 31 = .ok (.iconst 0, 1) := by decide +kernel
theorem dX7_stuck_32 : decode cX7_stuck 32 = .ok (.istore 4, 2) := by decide +kernel
theorem dX7_stuck_34 : decode cX7_stuck 34 = .ok (.iload 4, 2) := by decide +kernel
theorem dX7_stuck_36 : decode cX7_stuck 36 = .ok (.iload_n 1, 1) := by decide +kernel
theorem dX7_stuck_37 : decode cX7_stuck 37 = .ok (.if_icmp .ge 31, 3) := by decide +kernel
theorem dX7_stuck_40 : decode cX7_stuck 40 = .ok (.iload_n 3, 1) := by decide +kernel
theorem dX7_stuck_41 : decode cX7_stuck 41 = .ok (.ifCond .ne 27, 3) := by decide +kernel
theorem dX7_stuck_44 : decode cX7_stuck 44 = .ok (.aload_n 0, 1) := by decide +kernel
theorem dX7_stuck_45 : decode cX7_stuck 45 = .ok (.iload_n 2, 1) := by decide +kernel
theorem dX7_stuck_46 : decode cX7_stuck 46 = .ok (.iload 4, 2) := by decide +kernel
theorem dX7_stuck_48 : decode cX7_stuck 48 = .ok (.invokevirtual 195, 3) := by decide +kernel
theorem dX7_stuck_51 : decode cX7_stuck 51 = .ok (.bipush (-9), 2) := by decide +kernel
theorem dX7_stuck_53 : decode cX7_stuck 53 = .ok (.if_icmp .eq 7, 3) := by decide +kernel
theorem dX7_stuck_56 : decode cX7_stuck 56 = .ok (.iconst 1, 1) := by decide +kernel
theorem dX7_stuck_57 : decode cX7_stuck 57 = .ok (.goto 4, 3) := by decide +kernel
theorem dX7_stuck_60 : decode cX7_stuck 60 = .ok (.iconst 0, 1) := by decide +kernel
theorem dX7_stuck_61 : decode cX7_stuck 61 = .ok (.istore_n 3, 1) := by decide +kernel
theorem dX7_stuck_62 : decode cX7_stuck 62 = .ok (.iinc 4 1, 3) := by decide +kernel
theorem dX7_stuck_65 : decode cX7_stuck 65 = .ok (.goto (-31), 3) := by decide +kernel
theorem dX7_stuck_68 : decode cX7_stuck 68 = .ok (.iload_n 3, 1) := by decide +kernel
theorem dX7_stuck_69 : decode cX7_stuck 69 = .ok (.ifCond .ne 5, 3) := by decide +kernel
theorem dX7_stuck_72 : decode cX7_stuck 72 = .ok (.iload_n 2, 1) := by decide +kernel
theorem dX7_stuck_73 : decode cX7_stuck 73 = .ok (.ireturn, 1) := by decide +kernel
theorem dX7_stuck_74 : decode cX7_stuck 74 = .ok (.iinc 2 1, 3) := by decide +kernel
theorem dX7_stuck_77 : decode cX7_stuck 77 = .ok (.goto (-56), 3) := by decide +kernel
theorem dX7_stuck_80 : decode cX7_stuck 80 = .ok (.bipush (-9), 2) := by decide +kernel
theorem dX7_stuck_82 : decode cX7_stuck 82 = .ok (.ireturn, 1) := by decide +kernel
theorem dX7_dueTogether_0 : decode cX7_dueTogether 0 = .ok (.aload_n 0, 1) := by decide +kernel
theorem dX7_dueTogether_1 : decode cX7_dueTogether 1 = .ok (.invokevirtual 177, 3) := by decide +kernel
theorem dX7_dueTogether_4 : decode cX7_dueTogether 4 = .ok (.iconst 0, 1) := by decide +kernel
theorem dX7_dueTogether_5 : decode cX7_dueTogether 5 = .ok (.istore_n 3, 1) := by decide +kernel
theorem dX7_dueTogether_6 : decode cX7_dueTogether 6 = .ok (.iconst 0, 1) := by decide +kernel
theorem dX7_dueTogether_7 : decode cX7_dueTogether 7 = .ok (.istore 4, 2) := by decide +kernel
theorem dX7_dueTogether_9 : decode cX7_dueTogether 9 = .ok (.iload 4, 2) := by decide +kernel
theorem dX7_dueTogether_11 : decode cX7_dueTogether 11 = .ok (.aload_n 0, 1) := by decide +kernel
theorem dX7_dueTogether_12 : decode cX7_dueTogether 12 = .ok (.getfield 84, 3) := by decide +kernel
theorem dX7_dueTogether_15 : decode cX7_dueTogether 15 = .ok (.if_icmp .ge 35, 3) := by decide +kernel
theorem dX7_dueTogether_18 : decode cX7_dueTogether 18 = .ok (.iload_n 3, 1) := by decide +kernel
theorem dX7_dueTogether_19 : decode cX7_dueTogether 19 = .ok (.aload_n 0, 1) := by decide +kernel
theorem dX7_dueTogether_20 : decode cX7_dueTogether 20 = .ok (.getfield 53, 3) := by decide +kernel
theorem dX7_dueTogether_23 : decode cX7_dueTogether 23 = .ok (.iconst 4, 1) := by decide +kernel
theorem dX7_dueTogether_24 : decode cX7_dueTogether 24 = .ok (.iload 4, 2) := by decide +kernel
theorem dX7_dueTogether_26 : decode cX7_dueTogether 26 = .ok (.imul, 1) := by decide +kernel
theorem dX7_dueTogether_27 : decode cX7_dueTogether 27 = .ok (.iload_n 1, 1) := by decide +kernel
theorem dX7_dueTogether_28 : decode cX7_dueTogether 28 = .ok (.iadd, 1) := by decide +kernel
theorem dX7_dueTogether_29 : decode cX7_dueTogether 29 = .ok (.iaload, 1) := by decide +kernel
theorem dX7_dueTogether_30 : decode cX7_dueTogether 30 = .ok (.aload_n 0, 1) := by decide +kernel
theorem dX7_dueTogether_31 : decode cX7_dueTogether 31 = .ok (.getfield 53, 3) := by decide +kernel
theorem dX7_dueTogether_34 : decode cX7_dueTogether 34 = .ok (.iconst 4, 1) := by decide +kernel
theorem dX7_dueTogether_35 : decode cX7_dueTogether 35 = .ok (.iload 4, 2) := by decide +kernel
theorem dX7_dueTogether_37 : decode cX7_dueTogether 37 = .ok (.imul, 1) := by decide +kernel
theorem dX7_dueTogether_38 : decode cX7_dueTogether 38 = .ok (.iload_n 2, 1) := by decide +kernel
theorem dX7_dueTogether_39 : decode cX7_dueTogether 39 = .ok (.iadd, 1) := by decide +kernel
theorem dX7_dueTogether_40 : decode cX7_dueTogether 40 = .ok (.iaload, 1) := by decide +kernel
theorem dX7_dueTogether_41 : decode cX7_dueTogether 41 = .ok (.iadd, 1) := by decide +kernel
theorem dX7_dueTogether_42 : decode cX7_dueTogether 42 = .ok (.iadd, 1) := by decide +kernel
theorem dX7_dueTogether_43 : decode cX7_dueTogether 43 = .ok (.istore_n 3, 1) := by decide +kernel
theorem dX7_dueTogether_44 : decode cX7_dueTogether 44 = .ok (.iinc 4 1, 3) := by decide +kernel
theorem dX7_dueTogether_47 : decode cX7_dueTogether 47 = .ok (.goto (-38), 3) := by decide +kernel
theorem dX7_dueTogether_50 : decode cX7_dueTogether 50 = .ok (.iload_n 3, 1) := by decide +kernel
theorem dX7_dueTogether_51 : decode cX7_dueTogether 51 = .ok (.ireturn, 1) := by decide +kernel
theorem dX7_help_0 : decode cX7_help 0 = .ok (.aload_n 0, 1) := by decide +kernel
theorem dX7_help_1 : decode cX7_help 1 = .ok (.iload_n 1, 1) := by decide +kernel
theorem dX7_help_2 : decode cX7_help 2 = .ok (.invokevirtual 137, 3) := by decide +kernel
theorem dX7_help_5 : decode cX7_help 5 = .ok (.ifCond .eq 16, 3) := by decide +kernel
theorem dX7_help_8 : decode cX7_help 8 = .ok (.aload_n 0, 1) := by decide +kernel
theorem dX7_help_9 : decode cX7_help 9 = .ok (.iload_n 2, 1) := by decide +kernel
theorem dX7_help_10 : decode cX7_help 10 = .ok (.invokevirtual 137, 3) := by decide +kernel
theorem dX7_help_13 : decode cX7_help 13 = .ok (.ifCond .eq 8, 3) := by decide +kernel
theorem dX7_help_16 : decode cX7_help 16 = .ok (.iload_n 1, 1) := by decide +kernel
theorem dX7_help_17 : decode cX7_help 17 = .ok (.iload_n 2, 1) := by decide +kernel
theorem dX7_help_18 : decode cX7_help 18 = .ok (.if_icmp .ne 5, 3) := by decide +kernel
theorem dX7_help_21 : decode cX7_help 21 = .ok (.iconst (-1), 1) := by decide +kernel
theorem dX7_help_22 : decode cX7_help 22 = .ok (.ireturn, 1) := by decide +kernel
theorem dX7_help_23 : decode cX7_help 23 = .ok (.aload_n 0, 1) := by decide +kernel
theorem dX7_help_24 : decode cX7_help 24 = .ok (.iload_n 3, 1) := by decide +kernel
theorem dX7_help_25 : decode cX7_help 25 = .ok (.invokevirtual 140, 3) := by decide +kernel
theorem dX7_help_28 : decode cX7_help 28 = .ok (.ifCond .ne 6, 3) := by decide +kernel
theorem dX7_help_31 : decode cX7_help 31 = .ok (.bipush (-2), 2) := by decide +kernel
theorem dX7_help_33 : decode cX7_help 33 = .ok (.ireturn, 1) := by decide +kernel
theorem dX7_help_34 : decode cX7_help 34 = .ok (.aload_n 0, 1) := by decide +kernel
theorem dX7_help_35 : decode cX7_help 35 = .ok (.iload_n 1, 1) := by decide +kernel
theorem dX7_help_36 : decode cX7_help 36 = .ok (.iload_n 2, 1) := by decide +kernel
theorem dX7_help_37 : decode cX7_help 37 = .ok (.invokevirtual 211, 3) := by decide +kernel
theorem dX7_help_40 : decode cX7_help 40 = .ok (.istore 4, 2) := by decide +kernel
theorem dX7_help_42 : decode cX7_help 42 = .ok (.aload_n 0, 1) := by decide +kernel
theorem dX7_help_43 : decode cX7_help 43 = .ok (.getfield 26, 3) := by decide +kernel
theorem dX7_help_46 : decode cX7_help 46 = .ok (.iload_n 3, 1) := by decide +kernel
theorem dX7_help_47 : decode cX7_help 47 = .ok (.iaload, 1) := by decide +kernel
theorem dX7_help_48 : decode cX7_help 48 = .ok (.istore 5, 2) := by decide +kernel
theorem dX7_help_50 : decode cX7_help 50 = .ok (.aload_n 0, 1) := by decide +kernel
theorem dX7_help_51 : decode cX7_help 51 = .ok (.getfield 29, 3) := by decide +kernel
theorem dX7_help_54 : decode cX7_help 54 = .ok (.iload_n 3, 1) := by decide +kernel
theorem dX7_help_55 : decode cX7_help 55 = .ok (.iaload, 1) := by decide +kernel
theorem dX7_help_56 : decode cX7_help 56 = .ok (.istore 6, 2) := by decide +kernel
theorem dX7_help_58 : decode cX7_help 58 = .ok (.aload_n 0, 1) := by decide +kernel
theorem dX7_help_59 : decode cX7_help 59 = .ok (.getfield 26, 3) := by decide +kernel
theorem dX7_help_62 : decode cX7_help 62 = .ok (.iload_n 3, 1) := by decide +kernel
theorem dX7_help_63 : decode cX7_help 63 = .ok (.iload_n 1, 1) := by decide +kernel
theorem dX7_help_64 : decode cX7_help 64 = .ok (.iastore, 1) := by decide +kernel
theorem dX7_help_65 : decode cX7_help 65 = .ok (.aload_n 0, 1) := by decide +kernel
theorem dX7_help_66 : decode cX7_help 66 = .ok (.getfield 29, 3) := by decide +kernel
theorem dX7_help_69 : decode cX7_help 69 = .ok (.iload_n 3, 1) := by decide +kernel
theorem dX7_help_70 : decode cX7_help 70 = .ok (.iload_n 2, 1) := by decide +kernel
theorem dX7_help_71 : decode cX7_help 71 = .ok (.iastore, 1) := by decide +kernel
theorem dX7_help_72 : decode cX7_help 72 = .ok (.aload_n 0, 1) := by decide +kernel
theorem dX7_help_73 : decode cX7_help 73 = .ok (.iload_n 1, 1) := by decide +kernel
theorem dX7_help_74 : decode cX7_help 74 = .ok (.iload_n 2, 1) := by decide +kernel
theorem dX7_help_75 : decode cX7_help 75 = .ok (.invokevirtual 211, 3) := by decide +kernel
theorem dX7_help_78 : decode cX7_help 78 = .ok (.istore 7, 2) := by decide +kernel
theorem dX7_help_80 : decode cX7_help 80 = .ok (.aload_n 0, 1) := by decide +kernel
theorem dX7_help_81 : decode cX7_help 81 = .ok (.getfield 26, 3) := by decide +kernel
theorem dX7_help_84 : decode cX7_help 84 = .ok (.iload_n 3, 1) := by decide +kernel
theorem dX7_help_85 : decode cX7_help 85 = .ok (.iload 5, 2) := by decide +kernel
theorem dX7_help_87 : decode cX7_help 87 = .ok (.iastore, 1) := by decide +kernel
theorem dX7_help_88 : decode cX7_help 88 = .ok (.aload_n 0, 1) := by decide +kernel
theorem dX7_help_89 : decode cX7_help 89 = .ok (.getfield 29, 3) := by decide +kernel
theorem dX7_help_92 : decode cX7_help 92 = .ok (.iload_n 3, 1) := by decide +kernel
theorem dX7_help_93 : decode cX7_help 93 = .ok (.iload 6, 2) := by decide +kernel
theorem dX7_help_95 : decode cX7_help 95 = .ok (.iastore, 1) := by decide +kernel
theorem dX7_help_96 : decode cX7_help 96 = .ok (.iload 4, 2) := by decide +kernel
theorem dX7_help_98 : decode cX7_help 98 = .ok (.iload 7, 2) := by decide +kernel
theorem dX7_help_100 : decode cX7_help 100 = .ok (.isub, 1) := by decide +kernel
theorem dX7_help_101 : decode cX7_help 101 = .ok (.sipush 1000, 3) := by decide +kernel
theorem dX7_help_104 : decode cX7_help 104 = .ok (.iadd, 1) := by decide +kernel
theorem dX7_help_105 : decode cX7_help 105 = .ok (.ireturn, 1) := by decide +kernel
theorem dX7_reading_0 : decode cX7_reading 0 = .ok (.aload_n 0, 1) := by decide +kernel
theorem dX7_reading_1 : decode cX7_reading 1 = .ok (.iload_n 1, 1) := by decide +kernel
theorem dX7_reading_2 : decode cX7_reading 2 = .ok (.invokevirtual 137, 3) := by decide +kernel
theorem dX7_reading_5 : decode cX7_reading 5 = .ok (.ifCond .ne 5, 3) := by decide +kernel
theorem dX7_reading_8 : decode cX7_reading 8 = .ok (.iconst (-1), 1) := by decide +kernel
theorem dX7_reading_9 : decode cX7_reading 9 = .ok (.ireturn, 1) := by decide +kernel
theorem dX7_reading_10 : decode cX7_reading 10 = .ok (.iload_n 2, 1) := by decide +kernel
theorem dX7_reading_11 : decode cX7_reading 11 = .ok (.iconst 0, 1) := by decide +kernel
theorem dX7_reading_12 : decode cX7_reading 12 = .ok (.aload_n 0, 1) := by decide +kernel
theorem dX7_reading_13 : decode cX7_reading 13 = .ok (.getfield 84, 3) := by decide +kernel
theorem dX7_reading_16 : decode cX7_reading 16 = .ok (.invokestatic 77, 3) := by decide +kernel
theorem dX7_reading_19 : decode cX7_reading 19 = .ok (.ifCond .eq 12, 3) := by decide +kernel
theorem dX7_reading_22 : decode cX7_reading 22 = .ok (.iload_n 3, 1) := by decide +kernel
theorem dX7_reading_23 : decode cX7_reading 23 = .ok (.iconst 0, 1) := by decide +kernel
theorem dX7_reading_24 : decode cX7_reading 24 = .ok (.iconst 2, 1) := by decide +kernel
theorem dX7_reading_25 : decode cX7_reading 25 = .ok (.invokestatic 77, 3) := by decide +kernel
theorem dX7_reading_28 : decode cX7_reading 28 = .ok (.ifCond .ne 6, 3) := by decide +kernel
theorem dX7_reading_31 : decode cX7_reading 31 = .ok (.bipush (-2), 2) := by decide +kernel
theorem dX7_reading_33 : decode cX7_reading 33 = .ok (.ireturn, 1) := by decide +kernel
theorem dX7_reading_34 : decode cX7_reading 34 = .ok (.aload_n 0, 1) := by decide +kernel
theorem dX7_reading_35 : decode cX7_reading 35 = .ok (.getfield 123, 3) := by decide +kernel
theorem dX7_reading_38 : decode cX7_reading 38 = .ok (.bipush 8, 2) := by decide +kernel
theorem dX7_reading_40 : decode cX7_reading 40 = .ok (.if_icmp .ne 6, 3) := by decide +kernel
theorem dX7_reading_43 : decode cX7_reading 43 = .ok (.bipush (-4), 2) := by decide +kernel
theorem dX7_reading_45 : decode cX7_reading 45 = .ok (.ireturn, 1) := by decide +kernel
theorem dX7_reading_46 : decode cX7_reading 46 = .ok (.aload_n 0, 1) := by decide +kernel
theorem dX7_reading_47 : decode cX7_reading 47 = .ok (.getfield 62, 3) := by decide +kernel
theorem dX7_reading_50 : decode cX7_reading 50 = .ok (.aload_n 0, 1) := by decide +kernel
theorem dX7_reading_51 : decode cX7_reading 51 = .ok (.getfield 123, 3) := by decide +kernel
theorem dX7_reading_54 : decode cX7_reading 54 = .ok (.iload_n 1, 1) := by decide +kernel
theorem dX7_reading_55 : decode cX7_reading 55 = .ok (.iastore, 1) := by decide +kernel
theorem dX7_reading_56 : decode cX7_reading 56 = .ok (.aload_n 0, 1) := by decide +kernel
theorem dX7_reading_57 : decode cX7_reading 57 = .ok (.getfield 65, 3) := by decide +kernel
theorem dX7_reading_60 : decode cX7_reading 60 = .ok (.aload_n 0, 1) := by decide +kernel
theorem dX7_reading_61 : decode cX7_reading 61 = .ok (.getfield 123, 3) := by decide +kernel
theorem dX7_reading_64 : decode cX7_reading 64 = .ok (.iload_n 2, 1) := by decide +kernel
theorem dX7_reading_65 : decode cX7_reading 65 = .ok (.iastore, 1) := by decide +kernel
theorem dX7_reading_66 : decode cX7_reading 66 = .ok (.aload_n 0, 1) := by decide +kernel
theorem dX7_reading_67 : decode cX7_reading 67 = .ok (.getfield 68, 3) := by decide +kernel
theorem dX7_reading_70 : decode cX7_reading 70 = .ok (.aload_n 0, 1) := by decide +kernel
theorem dX7_reading_71 : decode cX7_reading 71 = .ok (.getfield 123, 3) := by decide +kernel
theorem dX7_reading_74 : decode cX7_reading 74 = .ok (.iload_n 3, 1) := by decide +kernel
theorem dX7_reading_75 : decode cX7_reading 75 = .ok (.iastore, 1) := by decide +kernel
theorem dX7_reading_76 : decode cX7_reading 76 = .ok (.aload_n 0, 1) := by decide +kernel
theorem dX7_reading_77 : decode cX7_reading 77 = .ok (.dup, 1) := by decide +kernel
theorem dX7_reading_78 : decode cX7_reading 78 = .ok (.getfield 123, 3) := by decide +kernel
theorem dX7_reading_81 : decode cX7_reading 81 = .ok (.iconst 1, 1) := by decide +kernel
theorem dX7_reading_82 : decode cX7_reading 82 = .ok (.iadd, 1) := by decide +kernel
theorem dX7_reading_83 : decode cX7_reading 83 = .ok (.putfield 123, 3) := by decide +kernel
theorem dX7_reading_86 : decode cX7_reading 86 = .ok (.aload_n 0, 1) := by decide +kernel
theorem dX7_reading_87 : decode cX7_reading 87 = .ok (.getfield 123, 3) := by decide +kernel
theorem dX7_reading_90 : decode cX7_reading 90 = .ok (.iconst 1, 1) := by decide +kernel
theorem dX7_reading_91 : decode cX7_reading 91 = .ok (.isub, 1) := by decide +kernel
theorem dX7_reading_92 : decode cX7_reading 92 = .ok (.ireturn, 1) := by decide +kernel
theorem dX7_back_0 : decode cX7_back 0 = .ok (.iload_n 1, 1) := by decide +kernel
theorem dX7_back_1 : decode cX7_back 1 = .ok (.iconst 0, 1) := by decide +kernel
theorem dX7_back_2 : decode cX7_back 2 = .ok (.aload_n 0, 1) := by decide +kernel
theorem dX7_back_3 : decode cX7_back 3 = .ok (.getfield 123, 3) := by decide +kernel
theorem dX7_back_6 : decode cX7_back 6 = .ok (.invokestatic 77, 3) := by decide +kernel
theorem dX7_back_9 : decode cX7_back 9 = .ok (.ifCond .ne 6, 3) := by decide +kernel
theorem dX7_back_12 : decode cX7_back 12 = .ok (.bipush (-2), 2) := by decide +kernel
theorem dX7_back_14 : decode cX7_back 14 = .ok (.ireturn, 1) := by decide +kernel
theorem dX7_back_15 : decode cX7_back 15 = .ok (.aload_n 0, 1) := by decide +kernel
theorem dX7_back_16 : decode cX7_back 16 = .ok (.dup, 1) := by decide +kernel
theorem dX7_back_17 : decode cX7_back 17 = .ok (.getfield 123, 3) := by decide +kernel
theorem dX7_back_20 : decode cX7_back 20 = .ok (.iload_n 1, 1) := by decide +kernel
theorem dX7_back_21 : decode cX7_back 21 = .ok (.isub, 1) := by decide +kernel
theorem dX7_back_22 : decode cX7_back 22 = .ok (.putfield 123, 3) := by decide +kernel
theorem dX7_back_25 : decode cX7_back 25 = .ok (.aload_n 0, 1) := by decide +kernel
theorem dX7_back_26 : decode cX7_back 26 = .ok (.getfield 123, 3) := by decide +kernel
theorem dX7_back_29 : decode cX7_back 29 = .ok (.ireturn, 1) := by decide +kernel
theorem dX7_areSoIn_0 : decode cX7_areSoIn 0 = .ok (.iconst 0, 1) := by decide +kernel
theorem dX7_areSoIn_1 : decode cX7_areSoIn 1 = .ok (.istore_n 2, 1) := by decide +kernel
theorem dX7_areSoIn_2 : decode cX7_areSoIn 2 = .ok (.iload_n 2, 1) := by decide +kernel
theorem dX7_areSoIn_3 : decode cX7_areSoIn 3 = .ok (.aload_n 0, 1) := by decide +kernel
theorem dX7_areSoIn_4 : decode cX7_areSoIn 4 = .ok (.getfield 123, 3) := by decide +kernel
theorem dX7_areSoIn_7 : decode cX7_areSoIn 7 = .ok (.if_icmp .ge 45, 3) := by decide +kernel
theorem dX7_areSoIn_10 : decode cX7_areSoIn 10 = .ok (.aload_n 0, 1) := by decide +kernel
theorem dX7_areSoIn_11 : decode cX7_areSoIn 11 = .ok (.getfield 65, 3) := by decide +kernel
theorem dX7_areSoIn_14 : decode cX7_areSoIn 14 = .ok (.iload_n 2, 1) := by decide +kernel
theorem dX7_areSoIn_15 : decode cX7_areSoIn 15 = .ok (.iaload, 1) := by decide +kernel
theorem dX7_areSoIn_16 : decode cX7_areSoIn 16 = .ok (.iload_n 1, 1) := by decide +kernel
theorem dX7_areSoIn_17 : decode cX7_areSoIn 17 = .ok (.if_icmp .ne 29, 3) := by decide +kernel
theorem dX7_areSoIn_20 : decode cX7_areSoIn 20 = .ok (.aload_n 0, 1) := by decide +kernel
theorem dX7_areSoIn_21 : decode cX7_areSoIn 21 = .ok (.aload_n 0, 1) := by decide +kernel
theorem dX7_areSoIn_22 : decode cX7_areSoIn 22 = .ok (.getfield 50, 3) := by decide +kernel
theorem dX7_areSoIn_25 : decode cX7_areSoIn 25 = .ok (.aload_n 0, 1) := by decide +kernel
theorem dX7_areSoIn_26 : decode cX7_areSoIn 26 = .ok (.getfield 62, 3) := by decide +kernel
theorem dX7_areSoIn_29 : decode cX7_areSoIn 29 = .ok (.iload_n 2, 1) := by decide +kernel
theorem dX7_areSoIn_30 : decode cX7_areSoIn 30 = .ok (.iaload, 1) := by decide +kernel
theorem dX7_areSoIn_31 : decode cX7_areSoIn 31 = .ok (.iaload, 1) := by decide +kernel
theorem dX7_areSoIn_32 : decode cX7_areSoIn 32 = .ok (.invokevirtual 165, 3) := by decide +kernel
theorem dX7_areSoIn_35 : decode cX7_areSoIn 35 = .ok (.aload_n 0, 1) := by decide +kernel
theorem dX7_areSoIn_36 : decode cX7_areSoIn 36 = .ok (.getfield 68, 3) := by decide +kernel
theorem dX7_areSoIn_39 : decode cX7_areSoIn 39 = .ok (.iload_n 2, 1) := by decide +kernel
theorem dX7_areSoIn_40 : decode cX7_areSoIn 40 = .ok (.iaload, 1) := by decide +kernel
theorem dX7_areSoIn_41 : decode cX7_areSoIn 41 = .ok (.if_icmp .eq 5, 3) := by decide +kernel
theorem dX7_areSoIn_44 : decode cX7_areSoIn 44 = .ok (.iconst 0, 1) := by decide +kernel
theorem dX7_areSoIn_45 : decode cX7_areSoIn 45 = .ok (.ireturn, 1) := by decide +kernel
theorem dX7_areSoIn_46 : decode cX7_areSoIn 46 = .ok (.iinc 2 1, 3) := by decide +kernel
theorem dX7_areSoIn_49 : decode cX7_areSoIn 49 = .ok (.goto (-47), 3) := by decide +kernel
theorem dX7_areSoIn_52 : decode cX7_areSoIn 52 = .ok (.iconst 1, 1) := by decide +kernel
theorem dX7_areSoIn_53 : decode cX7_areSoIn 53 = .ok (.ireturn, 1) := by decide +kernel
theorem dX7_areSo_0 : decode cX7_areSo 0 = .ok (.aload_n 0, 1) := by decide +kernel
theorem dX7_areSo_1 : decode cX7_areSo 1 = .ok (.invokevirtual 150, 3) := by decide +kernel
theorem dX7_areSo_4 : decode cX7_areSo 4 = .ok (.iconst 0, 1) := by decide +kernel
theorem dX7_areSo_5 : decode cX7_areSo 5 = .ok (.istore_n 1, 1) := by decide +kernel
theorem dX7_areSo_6 : decode cX7_areSo 6 = .ok (.iload_n 1, 1) := by decide +kernel
theorem dX7_areSo_7 : decode cX7_areSo 7 = .ok (.aload_n 0, 1) := by decide +kernel
theorem dX7_areSo_8 : decode cX7_areSo 8 = .ok (.getfield 84, 3) := by decide +kernel
theorem dX7_areSo_11 : decode cX7_areSo 11 = .ok (.if_icmp .ge 30, 3) := by decide +kernel
theorem dX7_areSo_14 : decode cX7_areSo 14 = .ok (.aload_n 0, 1) := by decide +kernel
theorem dX7_areSo_15 : decode cX7_areSo 15 = .ok (.iload_n 1, 1) := by decide +kernel
theorem dX7_areSo_16 : decode cX7_areSo 16 = .ok (.invokevirtual 214, 3) := by decide +kernel
theorem dX7_areSo_19 : decode cX7_areSo 19 = .ok (.ifCond .ne 5, 3) := by decide +kernel
theorem dX7_areSo_22 : decode cX7_areSo 22 = .ok (.iconst 0, 1) := by decide +kernel
theorem dX7_areSo_23 : decode cX7_areSo 23 = .ok (.ireturn, 1) := by decide +kernel
theorem dX7_areSo_24 : decode cX7_areSo 24 = .ok (.aload_n 0, 1) := by decide +kernel
theorem dX7_areSo_25 : decode cX7_areSo 25 = .ok (.iload_n 1, 1) := by decide +kernel
theorem dX7_areSo_26 : decode cX7_areSo 26 = .ok (.aload_n 0, 1) := by decide +kernel
theorem dX7_areSo_27 : decode cX7_areSo 27 = .ok (.getfield 22, 3) := by decide +kernel
theorem dX7_areSo_30 : decode cX7_areSo 30 = .ok (.iload_n 1, 1) := by decide +kernel
theorem dX7_areSo_31 : decode cX7_areSo 31 = .ok (.baload, 1) := by decide +kernel
theorem dX7_areSo_32 : decode cX7_areSo 32 = .ok (.invokevirtual 153, 3) := by decide +kernel
theorem dX7_areSo_35 : decode cX7_areSo 35 = .ok (.iinc 1 1, 3) := by decide +kernel
theorem dX7_areSo_38 : decode cX7_areSo 38 = .ok (.goto (-32), 3) := by decide +kernel
theorem dX7_areSo_41 : decode cX7_areSo 41 = .ok (.aload_n 0, 1) := by decide +kernel
theorem dX7_areSo_42 : decode cX7_areSo 42 = .ok (.aload_n 0, 1) := by decide +kernel
theorem dX7_areSo_43 : decode cX7_areSo 43 = .ok (.getfield 84, 3) := by decide +kernel
theorem dX7_areSo_46 : decode cX7_areSo 46 = .ok (.invokevirtual 214, 3) := by decide +kernel
theorem dX7_areSo_49 : decode cX7_areSo 49 = .ok (.ireturn, 1) := by decide +kernel
theorem dX7_began_0 : decode cX7_began 0 = .ok (.aload_n 0, 1) := by decide +kernel
theorem dX7_began_1 : decode cX7_began 1 = .ok (.iload_n 1, 1) := by decide +kernel
theorem dX7_began_2 : decode cX7_began 2 = .ok (.invokevirtual 137, 3) := by decide +kernel
theorem dX7_began_5 : decode cX7_began 5 = .ok (.ifCond .ne 5, 3) := by decide +kernel
theorem dX7_began_8 : decode cX7_began 8 = .ok (.iconst (-1), 1) := by decide +kernel
theorem dX7_began_9 : decode cX7_began 9 = .ok (.ireturn, 1) := by decide +kernel
theorem dX7_began_10 : decode cX7_began 10 = .ok (.iload_n 2, 1) := by decide +kernel
theorem dX7_began_11 : decode cX7_began 11 = .ok (.iconst 0, 1) := by decide +kernel
theorem dX7_began_12 : decode cX7_began 12 = .ok (.iconst 1, 1) := by decide +kernel
theorem dX7_began_13 : decode cX7_began 13 = .ok (.invokestatic 77, 3) := by decide +kernel
theorem dX7_began_16 : decode cX7_began 16 = .ok (.ifCond .ne 6, 3) := by decide +kernel
theorem dX7_began_19 : decode cX7_began 19 = .ok (.bipush (-2), 2) := by decide +kernel
theorem dX7_began_21 : decode cX7_began 21 = .ok (.ireturn, 1) := by decide +kernel
theorem dX7_began_22 : decode cX7_began 22 = .ok (.aload_n 0, 1) := by decide +kernel
theorem dX7_began_23 : decode cX7_began 23 = .ok (.getfield 35, 3) := by decide +kernel
theorem dX7_began_26 : decode cX7_began 26 = .ok (.iload_n 1, 1) := by decide +kernel
theorem dX7_began_27 : decode cX7_began 27 = .ok (.iaload, 1) := by decide +kernel
theorem dX7_began_28 : decode cX7_began 28 = .ok (.istore_n 3, 1) := by decide +kernel
theorem dX7_began_29 : decode cX7_began 29 = .ok (.iconst 0, 1) := by decide +kernel
theorem dX7_began_30 : decode cX7_began 30 = .ok (.istore 4, 2) := by decide +kernel
theorem dX7_began_32 : decode cX7_began 32 = .ok (.bipush (-9), 2) := by decide +kernel
theorem dX7_began_34 : decode cX7_began 34 = .ok (.istore 5, 2) := by decide +kernel
theorem dX7_began_36 : decode cX7_began 36 = .ok (.iconst 0, 1) := by decide +kernel
theorem dX7_began_37 : decode cX7_began 37 = .ok (.istore 6, 2) := by decide +kernel
theorem dX7_began_39 : decode cX7_began 39 = .ok (.iload 6, 2) := by decide +kernel
theorem dX7_began_41 : decode cX7_began 41 = .ok (.bipush 59, 2) := by decide +kernel
theorem dX7_began_43 : decode cX7_began 43 = .ok (.if_icmp .gt 41, 3) := by decide +kernel
theorem dX7_began_46 : decode cX7_began 46 = .ok (.aload_n 0, 1) := by decide +kernel
theorem dX7_began_47 : decode cX7_began 47 = .ok (.getfield 35, 3) := by decide +kernel
theorem dX7_began_50 : decode cX7_began 50 = .ok (.iload_n 1, 1) := by decide +kernel
theorem dX7_began_51 : decode cX7_began 51 = .ok (.iload 6, 2) := by decide +kernel
theorem dX7_began_53 : decode cX7_began 53 = .ok (.iastore, 1) := by decide +kernel
theorem dX7_began_54 : decode cX7_began 54 = .ok (.aload_n 0, 1) := by decide +kernel
theorem dX7_began_55 : decode cX7_began 55 = .ok (.invokevirtual 217, 3) := by decide +kernel
theorem dX7_began_58 : decode cX7_began 58 = .ok (.ifCond .eq 20, 3) := by decide +kernel
theorem dX7_began_61 : decode cX7_began 61 = .ok (.iload 4, 2) := by decide +kernel
theorem dX7_began_63 : decode cX7_began 63 = .ok (.ifCond .ne 8, 3) := by decide +kernel
theorem dX7_began_66 : decode cX7_began 66 = .ok (.iload 6, 2) := by decide +kernel
theorem dX7_began_68 : decode cX7_began 68 = .ok (.goto 5, 3) := by decide +kernel
theorem dX7_began_71 : decode cX7_began 71 = .ok (.iload 5, 2) := by decide +kernel
theorem dX7_began_73 : decode cX7_began 73 = .ok (.istore 5, 2) := by decide +kernel
theorem dX7_began_75 : decode cX7_began 75 = .ok (.iinc 4 1, 3) := by decide +kernel
theorem dX7_began_78 : decode cX7_began 78 = .ok (.iinc 6 1, 3) := by decide +kernel
theorem dX7_began_81 : decode cX7_began 81 = .ok (.goto (-42), 3) := by decide +kernel
theorem dX7_began_84 : decode cX7_began 84 = .ok (.aload_n 0, 1) := by decide +kernel
theorem dX7_began_85 : decode cX7_began 85 = .ok (.getfield 35, 3) := by decide +kernel
theorem dX7_began_88 : decode cX7_began 88 = .ok (.iload_n 1, 1) := by decide +kernel
theorem dX7_began_89 : decode cX7_began 89 = .ok (.iload_n 3, 1) := by decide +kernel
theorem dX7_began_90 : decode cX7_began 90 = .ok (.iastore, 1) := by decide +kernel
theorem dX7_began_91 : decode cX7_began 91 = .ok (.iload_n 2, 1) := by decide +kernel
theorem dX7_began_92 : decode cX7_began 92 = .ok (.ifCond .ne 8, 3) := by decide +kernel
theorem dX7_began_95 : decode cX7_began 95 = .ok (.iload 4, 2) := by decide +kernel
theorem dX7_began_97 : decode cX7_began 97 = .ok (.goto 5, 3) := by decide +kernel
theorem dX7_began_100 : decode cX7_began 100 = .ok (.iload 5, 2) := by decide +kernel
theorem dX7_began_102 : decode cX7_began 102 = .ok (.ireturn, 1) := by decide +kernel
theorem dX7_kinds_0 : decode cX7_kinds 0 = .ok (.aload_n 0, 1) := by decide +kernel
theorem dX7_kinds_1 : decode cX7_kinds 1 = .ok (.iload_n 1, 1) := by decide +kernel
theorem dX7_kinds_2 : decode cX7_kinds 2 = .ok (.invokevirtual 137, 3) := by decide +kernel
theorem dX7_kinds_5 : decode cX7_kinds 5 = .ok (.ifCond .ne 5, 3) := by decide +kernel
theorem dX7_kinds_8 : decode cX7_kinds 8 = .ok (.iconst (-1), 1) := by decide +kernel
theorem dX7_kinds_9 : decode cX7_kinds 9 = .ok (.ireturn, 1) := by decide +kernel
theorem dX7_kinds_10 : decode cX7_kinds 10 = .ok (.aload_n 0, 1) := by decide +kernel
theorem dX7_kinds_11 : decode cX7_kinds 11 = .ok (.getfield 32, 3) := by decide +kernel
theorem dX7_kinds_14 : decode cX7_kinds 14 = .ok (.iload_n 1, 1) := by decide +kernel
theorem dX7_kinds_15 : decode cX7_kinds 15 = .ok (.iaload, 1) := by decide +kernel
theorem dX7_kinds_16 : decode cX7_kinds 16 = .ok (.istore_n 2, 1) := by decide +kernel
theorem dX7_kinds_17 : decode cX7_kinds 17 = .ok (.iconst 0, 1) := by decide +kernel
theorem dX7_kinds_18 : decode cX7_kinds 18 = .ok (.istore_n 3, 1) := by decide +kernel
theorem dX7_kinds_19 : decode cX7_kinds 19 = .ok (.iconst 0, 1) := by decide +kernel
theorem dX7_kinds_20 : decode cX7_kinds 20 = .ok (.istore 4, 2) := by decide +kernel
theorem dX7_kinds_22 : decode cX7_kinds 22 = .ok (.iload 4, 2) := by decide +kernel
theorem dX7_kinds_24 : decode cX7_kinds 24 = .ok (.iconst 3, 1) := by decide +kernel
theorem dX7_kinds_25 : decode cX7_kinds 25 = .ok (.if_icmp .ge 35, 3) := by decide +kernel
theorem dX7_kinds_28 : decode cX7_kinds 28 = .ok (.aload_n 0, 1) := by decide +kernel
theorem dX7_kinds_29 : decode cX7_kinds 29 = .ok (.getfield 32, 3) := by decide +kernel
theorem dX7_kinds_32 : decode cX7_kinds 32 = .ok (.iload_n 1, 1) := by decide +kernel
theorem dX7_kinds_33 : decode cX7_kinds 33 = .ok (.iload 4, 2) := by decide +kernel
theorem dX7_kinds_35 : decode cX7_kinds 35 = .ok (.iastore, 1) := by decide +kernel
theorem dX7_kinds_36 : decode cX7_kinds 36 = .ok (.iload_n 3, 1) := by decide +kernel
theorem dX7_kinds_37 : decode cX7_kinds 37 = .ok (.aload_n 0, 1) := by decide +kernel
theorem dX7_kinds_38 : decode cX7_kinds 38 = .ok (.invokevirtual 217, 3) := by decide +kernel
theorem dX7_kinds_41 : decode cX7_kinds 41 = .ok (.ifCond .eq 10, 3) := by decide +kernel
theorem dX7_kinds_44 : decode cX7_kinds 44 = .ok (.iconst 1, 1) := by decide +kernel
theorem dX7_kinds_45 : decode cX7_kinds 45 = .ok (.iload 4, 2) := by decide +kernel
theorem dX7_kinds_47 : decode cX7_kinds 47 = .ok (.ishl, 1) := by decide +kernel
theorem dX7_kinds_48 : decode cX7_kinds 48 = .ok (.goto 4, 3) := by decide +kernel
theorem dX7_kinds_51 : decode cX7_kinds 51 = .ok (.iconst 0, 1) := by decide +kernel
theorem dX7_kinds_52 : decode cX7_kinds 52 = .ok (.ior, 1) := by decide +kernel
theorem dX7_kinds_53 : decode cX7_kinds 53 = .ok (.istore_n 3, 1) := by decide +kernel
theorem dX7_kinds_54 : decode cX7_kinds 54 = .ok (.iinc 4 1, 3) := by decide +kernel
theorem dX7_kinds_57 : decode cX7_kinds 57 = .ok (.goto (-35), 3) := by decide +kernel
theorem dX7_kinds_60 : decode cX7_kinds 60 = .ok (.aload_n 0, 1) := by decide +kernel
theorem dX7_kinds_61 : decode cX7_kinds 61 = .ok (.getfield 32, 3) := by decide +kernel
theorem dX7_kinds_64 : decode cX7_kinds 64 = .ok (.iload_n 1, 1) := by decide +kernel
theorem dX7_kinds_65 : decode cX7_kinds 65 = .ok (.iload_n 2, 1) := by decide +kernel
theorem dX7_kinds_66 : decode cX7_kinds 66 = .ok (.iastore, 1) := by decide +kernel
theorem dX7_kinds_67 : decode cX7_kinds 67 = .ok (.iload_n 3, 1) := by decide +kernel
theorem dX7_kinds_68 : decode cX7_kinds 68 = .ok (.ireturn, 1) := by decide +kernel
theorem dX7_fadings_0 : decode cX7_fadings 0 = .ok (.aload_n 0, 1) := by decide +kernel
theorem dX7_fadings_1 : decode cX7_fadings 1 = .ok (.iload_n 1, 1) := by decide +kernel
theorem dX7_fadings_2 : decode cX7_fadings 2 = .ok (.invokevirtual 137, 3) := by decide +kernel
theorem dX7_fadings_5 : decode cX7_fadings 5 = .ok (.ifCond .ne 5, 3) := by decide +kernel
theorem dX7_fadings_8 : decode cX7_fadings 8 = .ok (.iconst (-1), 1) := by decide +kernel
theorem dX7_fadings_9 : decode cX7_fadings 9 = .ok (.ireturn, 1) := by decide +kernel
theorem dX7_fadings_10 : decode cX7_fadings 10 = .ok (.aload_n 0, 1) := by decide +kernel
theorem dX7_fadings_11 : decode cX7_fadings 11 = .ok (.getfield 38, 3) := by decide +kernel
theorem dX7_fadings_14 : decode cX7_fadings 14 = .ok (.iload_n 1, 1) := by decide +kernel
theorem dX7_fadings_15 : decode cX7_fadings 15 = .ok (.iaload, 1) := by decide +kernel
theorem dX7_fadings_16 : decode cX7_fadings 16 = .ok (.istore_n 2, 1) := by decide +kernel
theorem dX7_fadings_17 : decode cX7_fadings 17 = .ok (.iconst 0, 1) := by decide +kernel
theorem dX7_fadings_18 : decode cX7_fadings 18 = .ok (.istore_n 3, 1) := by decide +kernel
theorem dX7_fadings_19 : decode cX7_fadings 19 = .ok (.iconst 0, 1) := by decide +kernel
theorem dX7_fadings_20 : decode cX7_fadings 20 = .ok (.istore 4, 2) := by decide +kernel
theorem dX7_fadings_22 : decode cX7_fadings 22 = .ok (.iload 4, 2) := by decide +kernel
theorem dX7_fadings_24 : decode cX7_fadings 24 = .ok (.bipush 9, 2) := by decide +kernel
theorem dX7_fadings_26 : decode cX7_fadings 26 = .ok (.if_icmp .gt 35, 3) := by decide +kernel
theorem dX7_fadings_29 : decode cX7_fadings 29 = .ok (.aload_n 0, 1) := by decide +kernel
theorem dX7_fadings_30 : decode cX7_fadings 30 = .ok (.getfield 38, 3) := by decide +kernel
theorem dX7_fadings_33 : decode cX7_fadings 33 = .ok (.iload_n 1, 1) := by decide +kernel
theorem dX7_fadings_34 : decode cX7_fadings 34 = .ok (.iload 4, 2) := by decide +kernel
theorem dX7_fadings_36 : decode cX7_fadings 36 = .ok (.iastore, 1) := by decide +kernel
theorem dX7_fadings_37 : decode cX7_fadings 37 = .ok (.iload_n 3, 1) := by decide +kernel
theorem dX7_fadings_38 : decode cX7_fadings 38 = .ok (.aload_n 0, 1) := by decide +kernel
theorem dX7_fadings_39 : decode cX7_fadings 39 = .ok (.invokevirtual 217, 3) := by decide +kernel
theorem dX7_fadings_42 : decode cX7_fadings 42 = .ok (.ifCond .eq 10, 3) := by decide +kernel
theorem dX7_fadings_45 : decode cX7_fadings 45 = .ok (.iconst 1, 1) := by decide +kernel
theorem dX7_fadings_46 : decode cX7_fadings 46 = .ok (.iload 4, 2) := by decide +kernel
theorem dX7_fadings_48 : decode cX7_fadings 48 = .ok (.ishl, 1) := by decide +kernel
theorem dX7_fadings_49 : decode cX7_fadings 49 = .ok (.goto 4, 3) := by decide +kernel
theorem dX7_fadings_52 : decode cX7_fadings 52 = .ok (.iconst 0, 1) := by decide +kernel
theorem dX7_fadings_53 : decode cX7_fadings 53 = .ok (.ior, 1) := by decide +kernel
theorem dX7_fadings_54 : decode cX7_fadings 54 = .ok (.istore_n 3, 1) := by decide +kernel
theorem dX7_fadings_55 : decode cX7_fadings 55 = .ok (.iinc 4 1, 3) := by decide +kernel
theorem dX7_fadings_58 : decode cX7_fadings 58 = .ok (.goto (-36), 3) := by decide +kernel
theorem dX7_fadings_61 : decode cX7_fadings 61 = .ok (.aload_n 0, 1) := by decide +kernel
theorem dX7_fadings_62 : decode cX7_fadings 62 = .ok (.getfield 38, 3) := by decide +kernel
theorem dX7_fadings_65 : decode cX7_fadings 65 = .ok (.iload_n 1, 1) := by decide +kernel
theorem dX7_fadings_66 : decode cX7_fadings 66 = .ok (.iload_n 2, 1) := by decide +kernel
theorem dX7_fadings_67 : decode cX7_fadings 67 = .ok (.iastore, 1) := by decide +kernel
theorem dX7_fadings_68 : decode cX7_fadings 68 = .ok (.iload_n 3, 1) := by decide +kernel
theorem dX7_fadings_69 : decode cX7_fadings 69 = .ok (.ireturn, 1) := by decide +kernel
theorem dX7_inLeastTerms_0 : decode cX7_inLeastTerms 0 = .ok (.lload_n 0, 1) := by decide +kernel
theorem dX7_inLeastTerms_1 : decode cX7_inLeastTerms 1 = .ok (.lstore 5, 2) := by decide +kernel
theorem dX7_inLeastTerms_3 : decode cX7_inLeastTerms 3 = .ok (.lload_n 2, 1) := by decide +kernel
theorem dX7_inLeastTerms_4 : decode cX7_inLeastTerms 4 = .ok (.lstore 7, 2) := by decide +kernel
theorem dX7_inLeastTerms_6 : decode cX7_inLeastTerms 6 = .ok (.lload 7, 2) := by decide +kernel
theorem dX7_inLeastTerms_8 : decode cX7_inLeastTerms 8 = .ok (.lconst 0, 1) := by decide +kernel
theorem dX7_inLeastTerms_9 : decode cX7_inLeastTerms 9 = .ok (.lcmp, 1) := by decide +kernel
theorem dX7_inLeastTerms_10 : decode cX7_inLeastTerms 10 = .ok (.ifCond .eq 21, 3) := by decide +kernel
theorem dX7_inLeastTerms_13 : decode cX7_inLeastTerms 13 = .ok (.lload 5, 2) := by decide +kernel
theorem dX7_inLeastTerms_15 : decode cX7_inLeastTerms 15 = .ok (.lload 7, 2) := by decide +kernel
theorem dX7_inLeastTerms_17 : decode cX7_inLeastTerms 17 = .ok (.lrem, 1) := by decide +kernel
theorem dX7_inLeastTerms_18 : decode cX7_inLeastTerms 18 = .ok (.lstore 9, 2) := by decide +kernel
theorem dX7_inLeastTerms_20 : decode cX7_inLeastTerms 20 = .ok (.lload 7, 2) := by decide +kernel
theorem dX7_inLeastTerms_22 : decode cX7_inLeastTerms 22 = .ok (.lstore 5, 2) := by decide +kernel
theorem dX7_inLeastTerms_24 : decode cX7_inLeastTerms 24 = .ok (.lload 9, 2) := by decide +kernel
theorem dX7_inLeastTerms_26 : decode cX7_inLeastTerms 26 = .ok (.lstore 7, 2) := by decide +kernel
theorem dX7_inLeastTerms_28 : decode cX7_inLeastTerms 28 = .ok (.goto (-22), 3) := by decide +kernel
theorem dX7_inLeastTerms_31 : decode cX7_inLeastTerms 31 = .ok (.iload 4, 2) := by decide +kernel
theorem dX7_inLeastTerms_33 : decode cX7_inLeastTerms 33 = .ok (.ifCond .ne 10, 3) := by decide +kernel
theorem dX7_inLeastTerms_36 : decode cX7_inLeastTerms 36 = .ok (.lload_n 0, 1) := by decide +kernel
theorem dX7_inLeastTerms_37 : decode cX7_inLeastTerms 37 = .ok (.lload 5, 2) := by decide +kernel
theorem dX7_inLeastTerms_39 : decode cX7_inLeastTerms 39 = .ok (.ldiv, 1) := by decide +kernel
theorem dX7_inLeastTerms_40 : decode cX7_inLeastTerms 40 = .ok (.goto 7, 3) := by decide +kernel
theorem dX7_inLeastTerms_43 : decode cX7_inLeastTerms 43 = .ok (.lload_n 2, 1) := by decide +kernel
theorem dX7_inLeastTerms_44 : decode cX7_inLeastTerms 44 = .ok (.lload 5, 2) := by decide +kernel
theorem dX7_inLeastTerms_46 : decode cX7_inLeastTerms 46 = .ok (.ldiv, 1) := by decide +kernel
theorem dX7_inLeastTerms_47 : decode cX7_inLeastTerms 47 = .ok (.lreturn, 1) := by decide +kernel
theorem dX7_odds_0 : decode cX7_odds 0 = .ok (.aload_n 0, 1) := by decide +kernel
theorem dX7_odds_1 : decode cX7_odds 1 = .ok (.iload_n 1, 1) := by decide +kernel
theorem dX7_odds_2 : decode cX7_odds 2 = .ok (.invokevirtual 137, 3) := by decide +kernel
theorem dX7_odds_5 : decode cX7_odds 5 = .ok (.ifCond .eq 21, 3) := by decide +kernel
theorem dX7_odds_8 : decode cX7_odds 8 = .ok (.iload_n 2, 1) := by decide +kernel
theorem dX7_odds_9 : decode cX7_odds 9 = .ok (.iconst 0, 1) := by decide +kernel
theorem dX7_odds_10 : decode cX7_odds 10 = .ok (.iconst 2, 1) := by decide +kernel
theorem dX7_odds_11 : decode cX7_odds 11 = .ok (.invokestatic 77, 3) := by decide +kernel
theorem dX7_odds_14 : decode cX7_odds 14 = .ok (.ifCond .eq 12, 3) := by decide +kernel
theorem dX7_odds_17 : decode cX7_odds 17 = .ok (.iload_n 3, 1) := by decide +kernel
theorem dX7_odds_18 : decode cX7_odds 18 = .ok (.iconst 0, 1) := by decide +kernel
theorem dX7_odds_19 : decode cX7_odds 19 = .ok (.iconst 1, 1) := by decide +kernel
theorem dX7_odds_20 : decode cX7_odds 20 = .ok (.invokestatic 77, 3) := by decide +kernel
theorem dX7_odds_23 : decode cX7_odds 23 = .ok (.ifCond .ne 7, 3) := by decide +kernel
theorem dX7_odds_26 : decode cX7_odds 26 = .ok (.ldc2_w 75, 3) := by decide +kernel
theorem dX7_odds_29 : decode cX7_odds 29 = .ok (.lreturn, 1) := by decide +kernel
theorem dX7_odds_30 : decode cX7_odds 30 = .ok (.iconst 0, 1) := by decide +kernel
theorem dX7_odds_31 : decode cX7_odds 31 = .ok (.istore 4, 2) := by decide +kernel
theorem dX7_odds_33 : decode cX7_odds 33 = .ok (.iconst 0, 1) := by decide +kernel
theorem dX7_odds_34 : decode cX7_odds 34 = .ok (.istore 5, 2) := by decide +kernel
theorem dX7_odds_36 : decode cX7_odds 36 = .ok (.iload 5, 2) := by decide +kernel
theorem dX7_odds_38 : decode cX7_odds 38 = .ok (.iconst 1, 1) := by decide +kernel
theorem dX7_odds_39 : decode cX7_odds 39 = .ok (.aload_n 0, 1) := by decide +kernel
theorem dX7_odds_40 : decode cX7_odds 40 = .ok (.getfield 84, 3) := by decide +kernel
theorem dX7_odds_43 : decode cX7_odds 43 = .ok (.ishl, 1) := by decide +kernel
theorem dX7_odds_44 : decode cX7_odds 44 = .ok (.if_icmp .ge 77, 3) := by decide +kernel
theorem dX7_odds_47 : decode cX7_odds 47 = .ok (.aload_n 0, 1) := by decide +kernel
theorem dX7_odds_48 : decode cX7_odds 48 = .ok (.invokevirtual 150, 3) := by decide +kernel
theorem dX7_odds_51 : decode cX7_odds 51 = .ok (.iconst 0, 1) := by decide +kernel
theorem dX7_odds_52 : decode cX7_odds 52 = .ok (.istore 6, 2) := by decide +kernel
theorem dX7_odds_54 : decode cX7_odds 54 = .ok (.iload 6, 2) := by decide +kernel
theorem dX7_odds_56 : decode cX7_odds 56 = .ok (.aload_n 0, 1) := by decide +kernel
theorem dX7_odds_57 : decode cX7_odds 57 = .ok (.getfield 84, 3) := by decide +kernel
theorem dX7_odds_60 : decode cX7_odds 60 = .ok (.if_icmp .ge 31, 3) := by decide +kernel
theorem dX7_odds_63 : decode cX7_odds 63 = .ok (.aload_n 0, 1) := by decide +kernel
theorem dX7_odds_64 : decode cX7_odds 64 = .ok (.iload 6, 2) := by decide +kernel
theorem dX7_odds_66 : decode cX7_odds 66 = .ok (.iload 5, 2) := by decide +kernel
theorem dX7_odds_68 : decode cX7_odds 68 = .ok (.iload 6, 2) := by decide +kernel
theorem dX7_odds_70 : decode cX7_odds 70 = .ok (.ishr, 1) := by decide +kernel
theorem dX7_odds_71 : decode cX7_odds 71 = .ok (.iconst 1, 1) := by decide +kernel
theorem dX7_odds_72 : decode cX7_odds 72 = .ok (.iand, 1) := by decide +kernel
theorem dX7_odds_73 : decode cX7_odds 73 = .ok (.iconst 1, 1) := by decide +kernel
theorem dX7_odds_74 : decode cX7_odds 74 = .ok (.if_icmp .ne 7, 3) := by decide +kernel
theorem dX7_odds_77 : decode cX7_odds 77 = .ok (.iconst 1, 1) := by decide +kernel
theorem dX7_odds_78 : decode cX7_odds 78 = .ok (.goto 4, 3) := by decide +kernel
theorem dX7_odds_81 : decode cX7_odds 81 = .ok (.iconst 0, 1) := by decide +kernel
theorem dX7_odds_82 : decode cX7_odds 82 = .ok (.invokevirtual 153, 3) := by decide +kernel
theorem dX7_odds_85 : decode cX7_odds 85 = .ok (.iinc 6 1, 3) := by decide +kernel
theorem dX7_odds_88 : decode cX7_odds 88 = .ok (.goto (-34), 3) := by decide +kernel
theorem dX7_odds_91 : decode cX7_odds 91 = .ok (.iload 4, 2) := by decide +kernel
theorem dX7_odds_93 : decode cX7_odds 93 = .ok (.aload_n 0, 1) := by decide +kernel
theorem dX7_odds_94 : decode cX7_odds 94 = .ok (.aload_n 0, 1) := by decide +kernel
theorem dX7_odds_95 : decode cX7_odds 95 = .ok (.getfield 50, 3) := by decide +kernel
theorem dX7_odds_98 : decode cX7_odds 98 = .ok (.iload_n 1, 1) := by decide +kernel
theorem dX7_odds_99 : decode cX7_odds 99 = .ok (.iaload, 1) := by decide +kernel
theorem dX7_odds_100 : decode cX7_odds 100 = .ok (.invokevirtual 165, 3) := by decide +kernel
theorem dX7_odds_103 : decode cX7_odds 103 = .ok (.iload_n 2, 1) := by decide +kernel
theorem dX7_odds_104 : decode cX7_odds 104 = .ok (.if_icmp .ne 7, 3) := by decide +kernel
theorem dX7_odds_107 : decode cX7_odds 107 = .ok (.iconst 1, 1) := by decide +kernel
theorem dX7_odds_108 : decode cX7_odds 108 = .ok (.goto 4, 3) := by decide +kernel
theorem dX7_odds_111 : decode cX7_odds 111 = .ok (.iconst 0, 1) := by decide +kernel
theorem dX7_odds_112 : decode cX7_odds 112 = .ok (.iadd, 1) := by decide +kernel
theorem dX7_odds_113 : decode cX7_odds 113 = .ok (.istore 4, 2) := by decide +kernel
theorem dX7_odds_115 : decode cX7_odds 115 = .ok (.iinc 5 1, 3) := by decide +kernel
theorem dX7_odds_118 : decode cX7_odds 118 = .ok (.goto (-82), 3) := by decide +kernel
theorem dX7_odds_121 : decode cX7_odds 121 = .ok (.iload 4, 2) := by decide +kernel
theorem dX7_odds_123 : decode cX7_odds 123 = .ok (.i2l, 1) := by decide +kernel
theorem dX7_odds_124 : decode cX7_odds 124 = .ok (.lconst 1, 1) := by decide +kernel
theorem dX7_odds_125 : decode cX7_odds 125 = .ok (.aload_n 0, 1) := by decide +kernel
theorem dX7_odds_126 : decode cX7_odds 126 = .ok (.getfield 84, 3) := by decide +kernel
theorem dX7_odds_129 : decode cX7_odds 129 = .ok (.lshl, 1) := by decide +kernel
theorem dX7_odds_130 : decode cX7_odds 130 = .ok (.iload_n 3, 1) := by decide +kernel
theorem dX7_odds_131 : decode cX7_odds 131 = .ok (.invokestatic 221, 3) := by decide +kernel
theorem dX7_odds_134 : decode cX7_odds 134 = .ok (.lreturn, 1) := by decide +kernel
theorem dX7_sheet_0 : decode cX7_sheet 0 = .ok (.aload_n 0, 1) := by decide +kernel
theorem dX7_sheet_1 : decode cX7_sheet 1 = .ok (.iconst 0, 1) := by decide +kernel
theorem dX7_sheet_2 : decode cX7_sheet 2 = .ok (.putfield 71, 3) := by decide +kernel
theorem dX7_sheet_5 : decode cX7_sheet 5 = .ok (.iload_n 1, 1) := by decide +kernel
theorem dX7_sheet_6 : decode cX7_sheet 6 = .ok (.invokestatic 90, 3) := by decide +kernel
theorem dX7_sheet_9 : decode cX7_sheet 9 = .ok (.ifCond .ne 5, 3) := by decide +kernel
theorem dX7_sheet_12 : decode cX7_sheet 12 = .ok (.iconst (-1), 1) := by decide +kernel
theorem dX7_sheet_13 : decode cX7_sheet 13 = .ok (.ireturn, 1) := by decide +kernel
theorem dX7_sheet_14 : decode cX7_sheet 14 = .ok (.iload_n 2, 1) := by decide +kernel
theorem dX7_sheet_15 : decode cX7_sheet 15 = .ok (.invokestatic 94, 3) := by decide +kernel
theorem dX7_sheet_18 : decode cX7_sheet 18 = .ok (.ifCond .eq 9, 3) := by decide +kernel
theorem dX7_sheet_21 : decode cX7_sheet 21 = .ok (.iload_n 3, 1) := by decide +kernel
theorem dX7_sheet_22 : decode cX7_sheet 22 = .ok (.bipush 60, 2) := by decide +kernel
theorem dX7_sheet_24 : decode cX7_sheet 24 = .ok (.if_icmp .le 6, 3) := by decide +kernel
theorem dX7_sheet_27 : decode cX7_sheet 27 = .ok (.bipush (-2), 2) := by decide +kernel
theorem dX7_sheet_29 : decode cX7_sheet 29 = .ok (.ireturn, 1) := by decide +kernel
theorem dX7_sheet_30 : decode cX7_sheet 30 = .ok (.iload_n 3, 1) := by decide +kernel
theorem dX7_sheet_31 : decode cX7_sheet 31 = .ok (.ifCond .ge 9, 3) := by decide +kernel
theorem dX7_sheet_34 : decode cX7_sheet 34 = .ok (.aload_n 0, 1) := by decide +kernel
theorem dX7_sheet_35 : decode cX7_sheet 35 = .ok (.iconst 4, 1) := by decide +kernel
theorem dX7_sheet_36 : decode cX7_sheet 36 = .ok (.invokevirtual 101, 3) := by decide +kernel
theorem dX7_sheet_39 : decode cX7_sheet 39 = .ok (.ireturn, 1) := by decide +kernel
theorem dX7_sheet_40 : decode cX7_sheet 40 = .ok (.aload_n 0, 1) := by decide +kernel
theorem dX7_sheet_41 : decode cX7_sheet 41 = .ok (.getfield 9, 3) := by decide +kernel
theorem dX7_sheet_44 : decode cX7_sheet 44 = .ok (.iload_n 1, 1) := by decide +kernel
theorem dX7_sheet_45 : decode cX7_sheet 45 = .ok (.iload_n 2, 1) := by decide +kernel
theorem dX7_sheet_46 : decode cX7_sheet 46 = .ok (.iastore, 1) := by decide +kernel
theorem dX7_sheet_47 : decode cX7_sheet 47 = .ok (.aload_n 0, 1) := by decide +kernel
theorem dX7_sheet_48 : decode cX7_sheet 48 = .ok (.getfield 13, 3) := by decide +kernel
theorem dX7_sheet_51 : decode cX7_sheet 51 = .ok (.iload_n 1, 1) := by decide +kernel
theorem dX7_sheet_52 : decode cX7_sheet 52 = .ok (.iload_n 3, 1) := by decide +kernel
theorem dX7_sheet_53 : decode cX7_sheet 53 = .ok (.iastore, 1) := by decide +kernel
theorem dX7_sheet_54 : decode cX7_sheet 54 = .ok (.iconst 0, 1) := by decide +kernel
theorem dX7_sheet_55 : decode cX7_sheet 55 = .ok (.istore 4, 2) := by decide +kernel
theorem dX7_sheet_57 : decode cX7_sheet 57 = .ok (.iload 4, 2) := by decide +kernel
theorem dX7_sheet_59 : decode cX7_sheet 59 = .ok (.bipush 60, 2) := by decide +kernel
theorem dX7_sheet_61 : decode cX7_sheet 61 = .ok (.if_icmp .ge 22, 3) := by decide +kernel
theorem dX7_sheet_64 : decode cX7_sheet 64 = .ok (.aload_n 0, 1) := by decide +kernel
theorem dX7_sheet_65 : decode cX7_sheet 65 = .ok (.getfield 16, 3) := by decide +kernel
theorem dX7_sheet_68 : decode cX7_sheet 68 = .ok (.bipush 60, 2) := by decide +kernel
theorem dX7_sheet_70 : decode cX7_sheet 70 = .ok (.iload_n 1, 1) := by decide +kernel
theorem dX7_sheet_71 : decode cX7_sheet 71 = .ok (.imul, 1) := by decide +kernel
theorem dX7_sheet_72 : decode cX7_sheet 72 = .ok (.iload 4, 2) := by decide +kernel
theorem dX7_sheet_74 : decode cX7_sheet 74 = .ok (.iadd, 1) := by decide +kernel
theorem dX7_sheet_75 : decode cX7_sheet 75 = .ok (.iconst 0, 1) := by decide +kernel
theorem dX7_sheet_76 : decode cX7_sheet 76 = .ok (.iastore, 1) := by decide +kernel
theorem dX7_sheet_77 : decode cX7_sheet 77 = .ok (.iinc 4 1, 3) := by decide +kernel
theorem dX7_sheet_80 : decode cX7_sheet 80 = .ok (.goto (-23), 3) := by decide +kernel
theorem dX7_sheet_83 : decode cX7_sheet 83 = .ok (.iconst 1, 1) := by decide +kernel
theorem dX7_sheet_84 : decode cX7_sheet 84 = .ok (.ireturn, 1) := by decide +kernel
theorem dX7_lose_0 : decode cX7_lose 0 = .ok (.iload_n 1, 1) := by decide +kernel
theorem dX7_lose_1 : decode cX7_lose 1 = .ok (.invokestatic 90, 3) := by decide +kernel
theorem dX7_lose_4 : decode cX7_lose 4 = .ok (.ifCond .ne 5, 3) := by decide +kernel
theorem dX7_lose_7 : decode cX7_lose 7 = .ok (.iconst (-1), 1) := by decide +kernel
theorem dX7_lose_8 : decode cX7_lose 8 = .ok (.ireturn, 1) := by decide +kernel
theorem dX7_lose_9 : decode cX7_lose 9 = .ok (.aload_n 0, 1) := by decide +kernel
theorem dX7_lose_10 : decode cX7_lose 10 = .ok (.getfield 9, 3) := by decide +kernel
theorem dX7_lose_13 : decode cX7_lose 13 = .ok (.iload_n 1, 1) := by decide +kernel
theorem dX7_lose_14 : decode cX7_lose 14 = .ok (.iaload, 1) := by decide +kernel
theorem dX7_lose_15 : decode cX7_lose 15 = .ok (.bipush (-9), 2) := by decide +kernel
theorem dX7_lose_17 : decode cX7_lose 17 = .ok (.if_icmp .ne 7, 3) := by decide +kernel
theorem dX7_lose_20 : decode cX7_lose 20 = .ok (.iconst 0, 1) := by decide +kernel
theorem dX7_lose_21 : decode cX7_lose 21 = .ok (.goto 4, 3) := by decide +kernel
theorem dX7_lose_24 : decode cX7_lose 24 = .ok (.iconst 1, 1) := by decide +kernel
theorem dX7_lose_25 : decode cX7_lose 25 = .ok (.istore_n 2, 1) := by decide +kernel
theorem dX7_lose_26 : decode cX7_lose 26 = .ok (.aload_n 0, 1) := by decide +kernel
theorem dX7_lose_27 : decode cX7_lose 27 = .ok (.getfield 9, 3) := by decide +kernel
theorem dX7_lose_30 : decode cX7_lose 30 = .ok (.iload_n 1, 1) := by decide +kernel
theorem dX7_lose_31 : decode cX7_lose 31 = .ok (.bipush (-9), 2) := by decide +kernel
theorem dX7_lose_33 : decode cX7_lose 33 = .ok (.iastore, 1) := by decide +kernel
theorem dX7_lose_34 : decode cX7_lose 34 = .ok (.iload_n 2, 1) := by decide +kernel
theorem dX7_lose_35 : decode cX7_lose 35 = .ok (.ireturn, 1) := by decide +kernel
theorem dX7_put_0 : decode cX7_put 0 = .ok (.aload_n 0, 1) := by decide +kernel
theorem dX7_put_1 : decode cX7_put 1 = .ok (.iconst 0, 1) := by decide +kernel
theorem dX7_put_2 : decode cX7_put 2 = .ok (.putfield 71, 3) := by decide +kernel
theorem dX7_put_5 : decode cX7_put 5 = .ok (.iload_n 1, 1) := by decide +kernel
theorem dX7_put_6 : decode cX7_put 6 = .ok (.invokestatic 90, 3) := by decide +kernel
theorem dX7_put_9 : decode cX7_put 9 = .ok (.ifCond .ne 5, 3) := by decide +kernel
theorem dX7_put_12 : decode cX7_put 12 = .ok (.iconst (-1), 1) := by decide +kernel
theorem dX7_put_13 : decode cX7_put 13 = .ok (.ireturn, 1) := by decide +kernel
theorem dX7_put_14 : decode cX7_put 14 = .ok (.aload_n 0, 1) := by decide +kernel
theorem dX7_put_15 : decode cX7_put 15 = .ok (.getfield 9, 3) := by decide +kernel
theorem dX7_put_18 : decode cX7_put 18 = .ok (.iload_n 1, 1) := by decide +kernel
theorem dX7_put_19 : decode cX7_put 19 = .ok (.iaload, 1) := by decide +kernel
theorem dX7_put_20 : decode cX7_put 20 = .ok (.bipush (-9), 2) := by decide +kernel
theorem dX7_put_22 : decode cX7_put 22 = .ok (.if_icmp .ne 9, 3) := by decide +kernel
theorem dX7_put_25 : decode cX7_put 25 = .ok (.aload_n 0, 1) := by decide +kernel
theorem dX7_put_26 : decode cX7_put 26 = .ok (.iconst 1, 1) := by decide +kernel
theorem dX7_put_27 : decode cX7_put 27 = .ok (.invokevirtual 101, 3) := by decide +kernel
theorem dX7_put_30 : decode cX7_put 30 = .ok (.ireturn, 1) := by decide +kernel
theorem dX7_put_31 : decode cX7_put 31 = .ok (.iload_n 2, 1) := by decide +kernel
theorem dX7_put_32 : decode cX7_put 32 = .ok (.iconst 0, 1) := by decide +kernel
theorem dX7_put_33 : decode cX7_put 33 = .ok (.aload_n 0, 1) := by decide +kernel
theorem dX7_put_34 : decode cX7_put 34 = .ok (.getfield 13, 3) := by decide +kernel
theorem dX7_put_37 : decode cX7_put 37 = .ok (.iload_n 1, 1) := by decide +kernel
theorem dX7_put_38 : decode cX7_put 38 = .ok (.iaload, 1) := by decide +kernel
theorem dX7_put_39 : decode cX7_put 39 = .ok (.iconst 1, 1) := by decide +kernel
theorem dX7_put_40 : decode cX7_put 40 = .ok (.isub, 1) := by decide +kernel
theorem dX7_put_41 : decode cX7_put 41 = .ok (.invokestatic 77, 3) := by decide +kernel
theorem dX7_put_44 : decode cX7_put 44 = .ok (.ifCond .ne 9, 3) := by decide +kernel
theorem dX7_put_47 : decode cX7_put 47 = .ok (.aload_n 0, 1) := by decide +kernel
theorem dX7_put_48 : decode cX7_put 48 = .ok (.iconst 3, 1) := by decide +kernel
theorem dX7_put_49 : decode cX7_put 49 = .ok (.invokevirtual 101, 3) := by decide +kernel
theorem dX7_put_52 : decode cX7_put 52 = .ok (.ireturn, 1) := by decide +kernel
theorem dX7_put_53 : decode cX7_put 53 = .ok (.aload_n 0, 1) := by decide +kernel
theorem dX7_put_54 : decode cX7_put 54 = .ok (.getfield 16, 3) := by decide +kernel
theorem dX7_put_57 : decode cX7_put 57 = .ok (.bipush 60, 2) := by decide +kernel
theorem dX7_put_59 : decode cX7_put 59 = .ok (.iload_n 1, 1) := by decide +kernel
theorem dX7_put_60 : decode cX7_put 60 = .ok (.imul, 1) := by decide +kernel
theorem dX7_put_61 : decode cX7_put 61 = .ok (.iload_n 2, 1) := by decide +kernel
theorem dX7_put_62 : decode cX7_put 62 = .ok (.iadd, 1) := by decide +kernel
theorem dX7_put_63 : decode cX7_put 63 = .ok (.aload_n 0, 1) := by decide +kernel
theorem dX7_put_64 : decode cX7_put 64 = .ok (.getfield 9, 3) := by decide +kernel
theorem dX7_put_67 : decode cX7_put 67 = .ok (.iload_n 1, 1) := by decide +kernel
theorem dX7_put_68 : decode cX7_put 68 = .ok (.iaload, 1) := by decide +kernel
theorem dX7_put_69 : decode cX7_put 69 = .ok (.ifCond .ne 8, 3) := by decide +kernel
theorem dX7_put_72 : decode cX7_put 72 = .ok (.iload_n 3, 1) := by decide +kernel
theorem dX7_put_73 : decode cX7_put 73 = .ok (.i2b, 1) := by decide +kernel
theorem dX7_put_74 : decode cX7_put 74 = .ok (.goto 19, 3) := by decide +kernel
theorem dX7_put_77 : decode cX7_put 77 = .ok (.aload_n 0, 1) := by decide +kernel
theorem dX7_put_78 : decode cX7_put 78 = .ok (.getfield 9, 3) := by decide +kernel
theorem dX7_put_81 : decode cX7_put 81 = .ok (.iload_n 1, 1) := by decide +kernel
theorem dX7_put_82 : decode cX7_put 82 = .ok (.iaload, 1) := by decide +kernel
theorem dX7_put_83 : decode cX7_put 83 = .ok (.iconst 1, 1) := by decide +kernel
theorem dX7_put_84 : decode cX7_put 84 = .ok (.if_icmp .ne 8, 3) := by decide +kernel
theorem dX7_put_87 : decode cX7_put 87 = .ok (.iload_n 3, 1) := by decide +kernel
theorem dX7_put_88 : decode cX7_put 88 = .ok (.i2s, 1) := by decide +kernel
theorem dX7_put_89 : decode cX7_put 89 = .ok (.goto 4, 3) := by decide +kernel
theorem dX7_put_92 : decode cX7_put 92 = .ok (.iload_n 3, 1) := by decide +kernel
theorem dX7_put_93 : decode cX7_put 93 = .ok (.iastore, 1) := by decide +kernel
theorem dX7_put_94 : decode cX7_put 94 = .ok (.iconst 1, 1) := by decide +kernel
theorem dX7_put_95 : decode cX7_put 95 = .ok (.ireturn, 1) := by decide +kernel
theorem dX7_cell_0 : decode cX7_cell 0 = .ok (.aload_n 0, 1) := by decide +kernel
theorem dX7_cell_1 : decode cX7_cell 1 = .ok (.iconst 0, 1) := by decide +kernel
theorem dX7_cell_2 : decode cX7_cell 2 = .ok (.putfield 71, 3) := by decide +kernel
theorem dX7_cell_5 : decode cX7_cell 5 = .ok (.iload_n 1, 1) := by decide +kernel
theorem dX7_cell_6 : decode cX7_cell 6 = .ok (.invokestatic 90, 3) := by decide +kernel
theorem dX7_cell_9 : decode cX7_cell 9 = .ok (.ifCond .eq 10, 3) := by decide +kernel
theorem dX7_cell_12 : decode cX7_cell 12 = .ok (.iload_n 3, 1) := by decide +kernel
theorem dX7_cell_13 : decode cX7_cell 13 = .ok (.invokestatic 94, 3) := by decide +kernel
theorem dX7_cell_16 : decode cX7_cell 16 = .ok (.ifCond .ne 7, 3) := by decide +kernel
theorem dX7_cell_19 : decode cX7_cell 19 = .ok (.ldc2_w 75, 3) := by decide +kernel
theorem dX7_cell_22 : decode cX7_cell 22 = .ok (.lreturn, 1) := by decide +kernel
theorem dX7_cell_23 : decode cX7_cell 23 = .ok (.aload_n 0, 1) := by decide +kernel
theorem dX7_cell_24 : decode cX7_cell 24 = .ok (.getfield 9, 3) := by decide +kernel
theorem dX7_cell_27 : decode cX7_cell 27 = .ok (.iload_n 1, 1) := by decide +kernel
theorem dX7_cell_28 : decode cX7_cell 28 = .ok (.iaload, 1) := by decide +kernel
theorem dX7_cell_29 : decode cX7_cell 29 = .ok (.bipush (-9), 2) := by decide +kernel
theorem dX7_cell_31 : decode cX7_cell 31 = .ok (.if_icmp .eq 19, 3) := by decide +kernel
theorem dX7_cell_34 : decode cX7_cell 34 = .ok (.aload_n 0, 1) := by decide +kernel
theorem dX7_cell_35 : decode cX7_cell 35 = .ok (.getfield 9, 3) := by decide +kernel
theorem dX7_cell_38 : decode cX7_cell 38 = .ok (.iload_n 1, 1) := by decide +kernel
theorem dX7_cell_39 : decode cX7_cell 39 = .ok (.iaload, 1) := by decide +kernel
theorem dX7_cell_40 : decode cX7_cell 40 = .ok (.iload_n 3, 1) := by decide +kernel
theorem dX7_cell_41 : decode cX7_cell 41 = .ok (.if_icmp .eq 9, 3) := by decide +kernel
theorem dX7_cell_44 : decode cX7_cell 44 = .ok (.aload_n 0, 1) := by decide +kernel
theorem dX7_cell_45 : decode cX7_cell 45 = .ok (.iconst 2, 1) := by decide +kernel
theorem dX7_cell_46 : decode cX7_cell 46 = .ok (.invokevirtual 225, 3) := by decide +kernel
theorem dX7_cell_49 : decode cX7_cell 49 = .ok (.lreturn, 1) := by decide +kernel
theorem dX7_cell_50 : decode cX7_cell 50 = .ok (.aload_n 0, 1) := by decide +kernel
theorem dX7_cell_51 : decode cX7_cell 51 = .ok (.getfield 9, 3) := by decide +kernel
theorem dX7_cell_54 : decode cX7_cell 54 = .ok (.iload_n 1, 1) := by decide +kernel
theorem dX7_cell_55 : decode cX7_cell 55 = .ok (.iaload, 1) := by decide +kernel
theorem dX7_cell_56 : decode cX7_cell 56 = .ok (.bipush (-9), 2) := by decide +kernel
theorem dX7_cell_58 : decode cX7_cell 58 = .ok (.if_icmp .ne 9, 3) := by decide +kernel
theorem dX7_cell_61 : decode cX7_cell 61 = .ok (.aload_n 0, 1) := by decide +kernel
theorem dX7_cell_62 : decode cX7_cell 62 = .ok (.iconst 1, 1) := by decide +kernel
theorem dX7_cell_63 : decode cX7_cell 63 = .ok (.invokevirtual 225, 3) := by decide +kernel
theorem dX7_cell_66 : decode cX7_cell 66 = .ok (.lreturn, 1) := by decide +kernel
theorem dX7_cell_67 : decode cX7_cell 67 = .ok (.iload_n 2, 1) := by decide +kernel
theorem dX7_cell_68 : decode cX7_cell 68 = .ok (.iconst 0, 1) := by decide +kernel
theorem dX7_cell_69 : decode cX7_cell 69 = .ok (.aload_n 0, 1) := by decide +kernel
theorem dX7_cell_70 : decode cX7_cell 70 = .ok (.getfield 13, 3) := by decide +kernel
theorem dX7_cell_73 : decode cX7_cell 73 = .ok (.iload_n 1, 1) := by decide +kernel
theorem dX7_cell_74 : decode cX7_cell 74 = .ok (.iaload, 1) := by decide +kernel
theorem dX7_cell_75 : decode cX7_cell 75 = .ok (.iconst 1, 1) := by decide +kernel
theorem dX7_cell_76 : decode cX7_cell 76 = .ok (.isub, 1) := by decide +kernel
theorem dX7_cell_77 : decode cX7_cell 77 = .ok (.invokestatic 77, 3) := by decide +kernel
theorem dX7_cell_80 : decode cX7_cell 80 = .ok (.ifCond .ne 9, 3) := by decide +kernel
theorem dX7_cell_83 : decode cX7_cell 83 = .ok (.aload_n 0, 1) := by decide +kernel
theorem dX7_cell_84 : decode cX7_cell 84 = .ok (.iconst 3, 1) := by decide +kernel
theorem dX7_cell_85 : decode cX7_cell 85 = .ok (.invokevirtual 225, 3) := by decide +kernel
theorem dX7_cell_88 : decode cX7_cell 88 = .ok (.lreturn, 1) := by decide +kernel
theorem dX7_cell_89 : decode cX7_cell 89 = .ok (.aload_n 0, 1) := by decide +kernel
theorem dX7_cell_90 : decode cX7_cell 90 = .ok (.getfield 16, 3) := by decide +kernel
theorem dX7_cell_93 : decode cX7_cell 93 = .ok (.bipush 60, 2) := by decide +kernel
theorem dX7_cell_95 : decode cX7_cell 95 = .ok (.iload_n 1, 1) := by decide +kernel
theorem dX7_cell_96 : decode cX7_cell 96 = .ok (.imul, 1) := by decide +kernel
theorem dX7_cell_97 : decode cX7_cell 97 = .ok (.iload_n 2, 1) := by decide +kernel
theorem dX7_cell_98 : decode cX7_cell 98 = .ok (.iadd, 1) := by decide +kernel
theorem dX7_cell_99 : decode cX7_cell 99 = .ok (.iaload, 1) := by decide +kernel
theorem dX7_cell_100 : decode cX7_cell 100 = .ok (.i2l, 1) := by decide +kernel
theorem dX7_cell_101 : decode cX7_cell 101 = .ok (.lreturn, 1) := by decide +kernel
theorem dX7_copy_0 : decode cX7_copy 0 = .ok (.aload_n 0, 1) := by decide +kernel
theorem dX7_copy_1 : decode cX7_copy 1 = .ok (.iconst 0, 1) := by decide +kernel
theorem dX7_copy_2 : decode cX7_copy 2 = .ok (.putfield 71, 3) := by decide +kernel
theorem dX7_copy_5 : decode cX7_copy 5 = .ok (.iload_n 1, 1) := by decide +kernel
theorem dX7_copy_6 : decode cX7_copy 6 = .ok (.invokestatic 90, 3) := by decide +kernel
theorem dX7_copy_9 : decode cX7_copy 9 = .ok (.ifCond .eq 10, 3) := by decide +kernel
theorem dX7_copy_12 : decode cX7_copy 12 = .ok (.iload_n 3, 1) := by decide +kernel
theorem dX7_copy_13 : decode cX7_copy 13 = .ok (.invokestatic 90, 3) := by decide +kernel
theorem dX7_copy_16 : decode cX7_copy 16 = .ok (.ifCond .ne 5, 3) := by decide +kernel
theorem dX7_copy_19 : decode cX7_copy 19 = .ok (.iconst (-1), 1) := by decide +kernel
theorem dX7_copy_20 : decode cX7_copy 20 = .ok (.ireturn, 1) := by decide +kernel
theorem dX7_copy_21 : decode cX7_copy 21 = .ok (.aload_n 0, 1) := by decide +kernel
theorem dX7_copy_22 : decode cX7_copy 22 = .ok (.getfield 9, 3) := by decide +kernel
theorem dX7_copy_25 : decode cX7_copy 25 = .ok (.iload_n 1, 1) := by decide +kernel
theorem dX7_copy_26 : decode cX7_copy 26 = .ok (.iaload, 1) := by decide +kernel
theorem dX7_copy_27 : decode cX7_copy 27 = .ok (.bipush (-9), 2) := by decide +kernel
theorem dX7_copy_29 : decode cX7_copy 29 = .ok (.if_icmp .eq 14, 3) := by decide +kernel
theorem dX7_copy_32 : decode cX7_copy 32 = .ok (.aload_n 0, 1) := by decide +kernel
theorem dX7_copy_33 : decode cX7_copy 33 = .ok (.getfield 9, 3) := by decide +kernel
theorem dX7_copy_36 : decode cX7_copy 36 = .ok (.iload_n 3, 1) := by decide +kernel
theorem dX7_copy_37 : decode cX7_copy 37 = .ok (.iaload, 1) := by decide +kernel
theorem dX7_copy_38 : decode cX7_copy 38 = .ok (.bipush (-9), 2) := by decide +kernel
theorem dX7_copy_40 : decode cX7_copy 40 = .ok (.if_icmp .ne 9, 3) := by decide +kernel
theorem dX7_copy_43 : decode cX7_copy 43 = .ok (.aload_n 0, 1) := by decide +kernel
theorem dX7_copy_44 : decode cX7_copy 44 = .ok (.iconst 1, 1) := by decide +kernel
theorem dX7_copy_45 : decode cX7_copy 45 = .ok (.invokevirtual 101, 3) := by decide +kernel
theorem dX7_copy_48 : decode cX7_copy 48 = .ok (.ireturn, 1) := by decide +kernel
theorem dX7_copy_49 : decode cX7_copy 49 = .ok (.aload_n 0, 1) := by decide +kernel
theorem dX7_copy_50 : decode cX7_copy 50 = .ok (.getfield 9, 3) := by decide +kernel
theorem dX7_copy_53 : decode cX7_copy 53 = .ok (.iload_n 1, 1) := by decide +kernel
theorem dX7_copy_54 : decode cX7_copy 54 = .ok (.iaload, 1) := by decide +kernel
theorem dX7_copy_55 : decode cX7_copy 55 = .ok (.aload_n 0, 1) := by decide +kernel
theorem dX7_copy_56 : decode cX7_copy 56 = .ok (.getfield 9, 3) := by decide +kernel
theorem dX7_copy_59 : decode cX7_copy 59 = .ok (.iload_n 3, 1) := by decide +kernel
theorem dX7_copy_60 : decode cX7_copy 60 = .ok (.iaload, 1) := by decide +kernel
theorem dX7_copy_61 : decode cX7_copy 61 = .ok (.if_icmp .eq 9, 3) := by decide +kernel
theorem dX7_copy_64 : decode cX7_copy 64 = .ok (.aload_n 0, 1) := by decide +kernel
theorem dX7_copy_65 : decode cX7_copy 65 = .ok (.iconst 2, 1) := by decide +kernel
theorem dX7_copy_66 : decode cX7_copy 66 = .ok (.invokevirtual 101, 3) := by decide +kernel
theorem dX7_copy_69 : decode cX7_copy 69 = .ok (.ireturn, 1) := by decide +kernel
theorem dX7_copy_70 : decode cX7_copy 70 = .ok (.iload_n 2, 1) := by decide +kernel
theorem dX7_copy_71 : decode cX7_copy 71 = .ok (.ifCond .lt 38, 3) := by decide +kernel
theorem dX7_copy_74 : decode cX7_copy 74 = .ok (.iload 4, 2) := by decide +kernel
theorem dX7_copy_76 : decode cX7_copy 76 = .ok (.ifCond .lt 33, 3) := by decide +kernel
theorem dX7_copy_79 : decode cX7_copy 79 = .ok (.iload 5, 2) := by decide +kernel
theorem dX7_copy_81 : decode cX7_copy 81 = .ok (.ifCond .lt 28, 3) := by decide +kernel
theorem dX7_copy_84 : decode cX7_copy 84 = .ok (.iload_n 2, 1) := by decide +kernel
theorem dX7_copy_85 : decode cX7_copy 85 = .ok (.aload_n 0, 1) := by decide +kernel
theorem dX7_copy_86 : decode cX7_copy 86 = .ok (.getfield 13, 3) := by decide +kernel
theorem dX7_copy_89 : decode cX7_copy 89 = .ok (.iload_n 1, 1) := by decide +kernel
theorem dX7_copy_90 : decode cX7_copy 90 = .ok (.iaload, 1) := by decide +kernel
theorem dX7_copy_91 : decode cX7_copy 91 = .ok (.if_icmp .gt 18, 3) := by decide +kernel
theorem dX7_copy_94 : decode cX7_copy 94 = .ok (.iload 4, 2) := by decide +kernel
theorem dX7_copy_96 : decode cX7_copy 96 = .ok (.aload_n 0, 1) := by decide +kernel
theorem dX7_copy_97 : decode cX7_copy 97 = .ok (.getfield 13, 3) := by decide +kernel
theorem dX7_copy_100 : decode cX7_copy 100 = .ok (.iload_n 3, 1) := by decide +kernel
theorem dX7_copy_101 : decode cX7_copy 101 = .ok (.iaload, 1) := by decide +kernel
theorem dX7_copy_102 : decode cX7_copy 102 = .ok (.if_icmp .gt 7, 3) := by decide +kernel
theorem dX7_copy_105 : decode cX7_copy 105 = .ok (.iconst 1, 1) := by decide +kernel
theorem dX7_copy_106 : decode cX7_copy 106 = .ok (.goto 4, 3) := by decide +kernel
theorem dX7_copy_109 : decode cX7_copy 109 = .ok (.iconst 0, 1) := by decide +kernel
theorem dX7_copy_110 : decode cX7_copy 110 = .ok (.istore 6, 2) := by decide +kernel
theorem dX7_copy_112 : decode cX7_copy 112 = .ok (.iload 6, 2) := by decide +kernel
theorem dX7_copy_114 : decode cX7_copy 114 = .ok (.ifCond .eq 30, 3) := by decide +kernel
theorem dX7_copy_117 : decode cX7_copy 117 = .ok (.iload 5, 2) := by decide +kernel
theorem dX7_copy_119 : decode cX7_copy 119 = .ok (.aload_n 0, 1) := by decide +kernel
theorem dX7_copy_120 : decode cX7_copy 120 = .ok (.getfield 13, 3) := by decide +kernel
theorem dX7_copy_123 : decode cX7_copy 123 = .ok (.iload_n 1, 1) := by decide +kernel
theorem dX7_copy_124 : decode cX7_copy 124 = .ok (.iaload, 1) := by decide +kernel
theorem dX7_copy_125 : decode cX7_copy 125 = .ok (.iload_n 2, 1) := by decide +kernel
theorem dX7_copy_126 : decode cX7_copy 126 = .ok (.isub, 1) := by decide +kernel
theorem dX7_copy_127 : decode cX7_copy 127 = .ok (.if_icmp .gt 17, 3) := by decide +kernel
theorem dX7_copy_130 : decode cX7_copy 130 = .ok (.iload 5, 2) := by decide +kernel
theorem dX7_copy_132 : decode cX7_copy 132 = .ok (.aload_n 0, 1) := by decide +kernel
theorem dX7_copy_133 : decode cX7_copy 133 = .ok (.getfield 13, 3) := by decide +kernel
theorem dX7_copy_136 : decode cX7_copy 136 = .ok (.iload_n 3, 1) := by decide +kernel
theorem dX7_copy_137 : decode cX7_copy 137 = .ok (.iaload, 1) := by decide +kernel
theorem dX7_copy_138 : decode cX7_copy 138 = .ok (.iload 4, 2) := by decide +kernel
theorem dX7_copy_140 : decode cX7_copy 140 = .ok (.isub, 1) := by decide +kernel
theorem dX7_copy_141 : decode cX7_copy 141 = .ok (.if_icmp .le 9, 3) := by decide +kernel
theorem dX7_copy_144 : decode cX7_copy 144 = .ok (.aload_n 0, 1) := by decide +kernel
theorem dX7_copy_145 : decode cX7_copy 145 = .ok (.iconst 3, 1) := by decide +kernel
theorem dX7_copy_146 : decode cX7_copy 146 = .ok (.invokevirtual 101, 3) := by decide +kernel
theorem dX7_copy_149 : decode cX7_copy 149 = .ok (.ireturn, 1) := by decide +kernel
theorem dX7_copy_150 : decode cX7_copy 150 = .ok (.iload_n 2, 1) := by decide +kernel
theorem dX7_copy_151 : decode cX7_copy 151 = .ok (.iload 4, 2) := by decide +kernel
theorem dX7_copy_153 : decode cX7_copy 153 = .ok (.if_icmp .ge 7, 3) := by decide +kernel
theorem dX7_copy_156 : decode cX7_copy 156 = .ok (.iconst 1, 1) := by decide +kernel
theorem dX7_copy_157 : decode cX7_copy 157 = .ok (.goto 4, 3) := by decide +kernel
theorem dX7_copy_160 : decode cX7_copy 160 = .ok (.iconst 0, 1) := by decide +kernel
theorem dX7_copy_161 : decode cX7_copy 161 = .ok (.istore 7, 2) := by decide +kernel
theorem dX7_copy_163 : decode cX7_copy 163 = .ok (.iconst 0, 1) := by decide +kernel
theorem dX7_copy_164 : decode cX7_copy 164 = .ok (.istore 8, 2) := by decide +kernel
theorem dX7_copy_166 : decode cX7_copy 166 = .ok (.iload 8, 2) := by decide +kernel
theorem dX7_copy_168 : decode cX7_copy 168 = .ok (.iload 5, 2) := by decide +kernel
theorem dX7_copy_170 : decode cX7_copy 170 = .ok (.if_icmp .ge 57, 3) := by decide +kernel
theorem dX7_copy_173 : decode cX7_copy 173 = .ok (.iload 7, 2) := by decide +kernel
theorem dX7_copy_175 : decode cX7_copy 175 = .ok (.ifCond .eq 13, 3) := by decide +kernel
theorem dX7_copy_178 : decode cX7_copy 178 = .ok (.iload 5, 2) := by decide +kernel
theorem dX7_copy_180 : decode cX7_copy 180 = .ok (.iconst 1, 1) := by decide +kernel
theorem dX7_copy_181 : decode cX7_copy 181 = .ok (.isub, 1) := by decide +kernel
theorem dX7_copy_182 : decode cX7_copy 182 = .ok (.iload 8, 2) := by decide +kernel
theorem dX7_copy_184 : decode cX7_copy 184 = .ok (.isub, 1) := by decide +kernel
theorem dX7_copy_185 : decode cX7_copy 185 = .ok (.goto 5, 3) := by decide +kernel
theorem dX7_copy_188 : decode cX7_copy 188 = .ok (.iload 8, 2) := by decide +kernel
theorem dX7_copy_190 : decode cX7_copy 190 = .ok (.istore 9, 2) := by decide +kernel
theorem dX7_copy_192 : decode cX7_copy 192 = .ok (.aload_n 0, 1) := by decide +kernel
theorem dX7_copy_193 : decode cX7_copy 193 = .ok (.getfield 16, 3) := by decide +kernel
theorem dX7_copy_196 : decode cX7_copy 196 = .ok (.bipush 60, 2) := by decide +kernel
theorem dX7_copy_198 : decode cX7_copy 198 = .ok (.iload_n 3, 1) := by decide +kernel
theorem dX7_copy_199 : decode cX7_copy 199 = .ok (.imul, 1) := by decide +kernel
theorem dX7_copy_200 : decode cX7_copy 200 = .ok (.iload 4, 2) := by decide +kernel
theorem dX7_copy_202 : decode cX7_copy 202 = .ok (.iadd, 1) := by decide +kernel
theorem dX7_copy_203 : decode cX7_copy 203 = .ok (.iload 9, 2) := by decide +kernel
theorem dX7_copy_205 : decode cX7_copy 205 = .ok (.iadd, 1) := by decide +kernel
theorem dX7_copy_206 : decode cX7_copy 206 = .ok (.aload_n 0, 1) := by decide +kernel
theorem dX7_copy_207 : decode cX7_copy 207 = .ok (.getfield 16, 3) := by decide +kernel
theorem dX7_copy_210 : decode cX7_copy 210 = .ok (.bipush 60, 2) := by decide +kernel
theorem dX7_copy_212 : decode cX7_copy 212 = .ok (.iload_n 1, 1) := by decide +kernel
theorem dX7_copy_213 : decode cX7_copy 213 = .ok (.imul, 1) := by decide +kernel
theorem dX7_copy_214 : decode cX7_copy 214 = .ok (.iload_n 2, 1) := by decide +kernel
theorem dX7_copy_215 : decode cX7_copy 215 = .ok (.iadd, 1) := by decide +kernel
theorem dX7_copy_216 : decode cX7_copy 216 = .ok (.iload 9, 2) := by decide +kernel
theorem dX7_copy_218 : decode cX7_copy 218 = .ok (.iadd, 1) := by decide +kernel
theorem dX7_copy_219 : decode cX7_copy 219 = .ok (.iaload, 1) := by decide +kernel
theorem dX7_copy_220 : decode cX7_copy 220 = .ok (.iastore, 1) := by decide +kernel
theorem dX7_copy_221 : decode cX7_copy 221 = .ok (.iinc 8 1, 3) := by decide +kernel
theorem dX7_copy_224 : decode cX7_copy 224 = .ok (.goto (-58), 3) := by decide +kernel
theorem dX7_copy_227 : decode cX7_copy 227 = .ok (.iload 5, 2) := by decide +kernel
theorem dX7_copy_229 : decode cX7_copy 229 = .ok (.ireturn, 1) := by decide +kernel
theorem dX7_begins_0 : decode cX7_begins 0 = .ok (.aload_n 0, 1) := by decide +kernel
theorem dX7_begins_1 : decode cX7_begins 1 = .ok (.bipush 31, 2) := by decide +kernel
theorem dX7_begins_3 : decode cX7_begins 3 = .ok (.aload_n 0, 1) := by decide +kernel
theorem dX7_begins_4 : decode cX7_begins 4 = .ok (.getfield 229, 3) := by decide +kernel
theorem dX7_begins_7 : decode cX7_begins 7 = .ok (.imul, 1) := by decide +kernel
theorem dX7_begins_8 : decode cX7_begins 8 = .ok (.iload_n 1, 1) := by decide +kernel
theorem dX7_begins_9 : decode cX7_begins 9 = .ok (.iadd, 1) := by decide +kernel
theorem dX7_begins_10 : decode cX7_begins 10 = .ok (.putfield 229, 3) := by decide +kernel
theorem dX7_begins_13 : decode cX7_begins 13 = .ok (.return_, 1) := by decide +kernel
theorem dX7_tell_0 : decode cX7_tell 0 = .ok (.aload_n 0, 1) := by decide +kernel
theorem dX7_tell_1 : decode cX7_tell 1 = .ok (.iload_n 1, 1) := by decide +kernel
theorem dX7_tell_2 : decode cX7_tell 2 = .ok (.invokevirtual 137, 3) := by decide +kernel
theorem dX7_tell_5 : decode cX7_tell 5 = .ok (.ifCond .ne 5, 3) := by decide +kernel
theorem dX7_tell_8 : decode cX7_tell 8 = .ok (.iconst (-1), 1) := by decide +kernel
theorem dX7_tell_9 : decode cX7_tell 9 = .ok (.ireturn, 1) := by decide +kernel
theorem dX7_tell_10 : decode cX7_tell 10 = .ok (.aload_n 0, 1) := by decide +kernel
theorem dX7_tell_11 : decode cX7_tell 11 = .ok (.getfield 38, 3) := by decide +kernel
theorem dX7_tell_14 : decode cX7_tell 14 = .ok (.iload_n 1, 1) := by decide +kernel
theorem dX7_tell_15 : decode cX7_tell 15 = .ok (.iaload, 1) := by decide +kernel
theorem dX7_tell_16 : decode cX7_tell 16 = .ok (.istore_n 2, 1) := by decide +kernel
theorem dX7_tell_17 : decode cX7_tell 17 = .ok (.aload_n 0, 1) := by decide +kernel
theorem dX7_tell_18 : decode cX7_tell 18 = .ok (.getfield 32, 3) := by decide +kernel
theorem dX7_tell_21 : decode cX7_tell 21 = .ok (.iload_n 1, 1) := by decide +kernel
theorem dX7_tell_22 : decode cX7_tell 22 = .ok (.iaload, 1) := by decide +kernel
theorem dX7_tell_23 : decode cX7_tell 23 = .ok (.lookupswitch 67 #[(1, 25), (2, 40)], 25) := by decide +kernel
theorem dX7_tell_48 : decode cX7_tell 48 = .ok (.aload_n 0, 1) := by decide +kernel
theorem dX7_tell_49 : decode cX7_tell 49 = .ok (.iconst 2, 1) := by decide +kernel
theorem dX7_tell_50 : decode cX7_tell 50 = .ok (.invokevirtual 232, 3) := by decide +kernel
theorem dX7_tell_53 : decode cX7_tell 53 = .ok (.aload_n 0, 1) := by decide +kernel
theorem dX7_tell_54 : decode cX7_tell 54 = .ok (.iconst 1, 1) := by decide +kernel
theorem dX7_tell_55 : decode cX7_tell 55 = .ok (.invokevirtual 232, 3) := by decide +kernel
theorem dX7_tell_58 : decode cX7_tell 58 = .ok (.iload_n 2, 1) := by decide +kernel
theorem dX7_tell_59 : decode cX7_tell 59 = .ok (.bipush 100, 2) := by decide +kernel
theorem dX7_tell_61 : decode cX7_tell 61 = .ok (.iadd, 1) := by decide +kernel
theorem dX7_tell_62 : decode cX7_tell 62 = .ok (.ireturn, 1) := by decide +kernel
theorem dX7_tell_63 : decode cX7_tell 63 = .ok (.aload_n 0, 1) := by decide +kernel
theorem dX7_tell_64 : decode cX7_tell 64 = .ok (.iconst 3, 1) := by decide +kernel
theorem dX7_tell_65 : decode cX7_tell 65 = .ok (.invokevirtual 232, 3) := by decide +kernel
theorem dX7_tell_68 : decode cX7_tell 68 = .ok (.aload_n 0, 1) := by decide +kernel
theorem dX7_tell_69 : decode cX7_tell 69 = .ok (.iconst 2, 1) := by decide +kernel
theorem dX7_tell_70 : decode cX7_tell 70 = .ok (.invokevirtual 232, 3) := by decide +kernel
theorem dX7_tell_73 : decode cX7_tell 73 = .ok (.aload_n 0, 1) := by decide +kernel
theorem dX7_tell_74 : decode cX7_tell 74 = .ok (.iconst 1, 1) := by decide +kernel
theorem dX7_tell_75 : decode cX7_tell 75 = .ok (.invokevirtual 232, 3) := by decide +kernel
theorem dX7_tell_78 : decode cX7_tell 78 = .ok (.aload_n 0, 1) := by decide +kernel
theorem dX7_tell_79 : decode cX7_tell 79 = .ok (.iconst 1, 1) := by decide +kernel
theorem dX7_tell_80 : decode cX7_tell 80 = .ok (.invokevirtual 232, 3) := by decide +kernel
theorem dX7_tell_83 : decode cX7_tell 83 = .ok (.iconst 2, 1) := by decide +kernel
theorem dX7_tell_84 : decode cX7_tell 84 = .ok (.iload_n 2, 1) := by decide +kernel
theorem dX7_tell_85 : decode cX7_tell 85 = .ok (.imul, 1) := by decide +kernel
theorem dX7_tell_86 : decode cX7_tell 86 = .ok (.bipush 100, 2) := by decide +kernel
theorem dX7_tell_88 : decode cX7_tell 88 = .ok (.iadd, 1) := by decide +kernel
theorem dX7_tell_89 : decode cX7_tell 89 = .ok (.ireturn, 1) := by decide +kernel
theorem dX7_tell_90 : decode cX7_tell 90 = .ok (.aload_n 0, 1) := by decide +kernel
theorem dX7_tell_91 : decode cX7_tell 91 = .ok (.iconst 1, 1) := by decide +kernel
theorem dX7_tell_92 : decode cX7_tell 92 = .ok (.invokevirtual 232, 3) := by decide +kernel
theorem dX7_tell_95 : decode cX7_tell 95 = .ok (.iload_n 2, 1) := by decide +kernel
theorem dX7_tell_96 : decode cX7_tell 96 = .ok (.ireturn, 1) := by decide +kernel
theorem dX7_call_0 : decode cX7_call 0 = .ok (.aload_n 0, 1) := by decide +kernel
theorem dX7_call_1 : decode cX7_call 1 = .ok (.iload_n 1, 1) := by decide +kernel
theorem dX7_call_2 : decode cX7_call 2 = .ok (.invokevirtual 137, 3) := by decide +kernel
theorem dX7_call_5 : decode cX7_call 5 = .ok (.ifCond .ne 5, 3) := by decide +kernel
theorem dX7_call_8 : decode cX7_call 8 = .ok (.iconst (-1), 1) := by decide +kernel
theorem dX7_call_9 : decode cX7_call 9 = .ok (.ireturn, 1) := by decide +kernel
theorem dX7_call_10 : decode cX7_call 10 = .ok (.aload_n 0, 1) := by decide +kernel
theorem dX7_call_11 : decode cX7_call 11 = .ok (.aload_n 0, 1) := by decide +kernel
theorem dX7_call_12 : decode cX7_call 12 = .ok (.getfield 32, 3) := by decide +kernel
theorem dX7_call_15 : decode cX7_call 15 = .ok (.iload_n 1, 1) := by decide +kernel
theorem dX7_call_16 : decode cX7_call 16 = .ok (.iaload, 1) := by decide +kernel
theorem dX7_call_17 : decode cX7_call 17 = .ok (.iconst 2, 1) := by decide +kernel
theorem dX7_call_18 : decode cX7_call 18 = .ok (.if_icmp .ne 7, 3) := by decide +kernel
theorem dX7_call_21 : decode cX7_call 21 = .ok (.iconst 5, 1) := by decide +kernel
theorem dX7_call_22 : decode cX7_call 22 = .ok (.goto 4, 3) := by decide +kernel
theorem dX7_call_25 : decode cX7_call 25 = .ok (.iconst 4, 1) := by decide +kernel
theorem dX7_call_26 : decode cX7_call 26 = .ok (.invokevirtual 232, 3) := by decide +kernel
theorem dX7_call_29 : decode cX7_call 29 = .ok (.aload_n 0, 1) := by decide +kernel
theorem dX7_call_30 : decode cX7_call 30 = .ok (.getfield 32, 3) := by decide +kernel
theorem dX7_call_33 : decode cX7_call 33 = .ok (.iload_n 1, 1) := by decide +kernel
theorem dX7_call_34 : decode cX7_call 34 = .ok (.iaload, 1) := by decide +kernel
theorem dX7_call_35 : decode cX7_call 35 = .ok (.iconst 2, 1) := by decide +kernel
theorem dX7_call_36 : decode cX7_call 36 = .ok (.if_icmp .ne 8, 3) := by decide +kernel
theorem dX7_call_39 : decode cX7_call 39 = .ok (.bipush 60, 2) := by decide +kernel
theorem dX7_call_41 : decode cX7_call 41 = .ok (.goto 4, 3) := by decide +kernel
theorem dX7_call_44 : decode cX7_call 44 = .ok (.iload_n 1, 1) := by decide +kernel
theorem dX7_call_45 : decode cX7_call 45 = .ok (.ireturn, 1) := by decide +kernel
theorem dX7_as_0 : decode cX7_as 0 = .ok (.aload_n 0, 1) := by decide +kernel
theorem dX7_as_1 : decode cX7_as 1 = .ok (.iconst 0, 1) := by decide +kernel
theorem dX7_as_2 : decode cX7_as 2 = .ok (.putfield 71, 3) := by decide +kernel
theorem dX7_as_5 : decode cX7_as 5 = .ok (.aload_n 0, 1) := by decide +kernel
theorem dX7_as_6 : decode cX7_as 6 = .ok (.iload_n 1, 1) := by decide +kernel
theorem dX7_as_7 : decode cX7_as 7 = .ok (.invokevirtual 137, 3) := by decide +kernel
theorem dX7_as_10 : decode cX7_as 10 = .ok (.ifCond .ne 5, 3) := by decide +kernel
theorem dX7_as_13 : decode cX7_as 13 = .ok (.iconst (-1), 1) := by decide +kernel
theorem dX7_as_14 : decode cX7_as 14 = .ok (.ireturn, 1) := by decide +kernel
theorem dX7_as_15 : decode cX7_as 15 = .ok (.iload_n 2, 1) := by decide +kernel
theorem dX7_as_16 : decode cX7_as 16 = .ok (.iconst 0, 1) := by decide +kernel
theorem dX7_as_17 : decode cX7_as 17 = .ok (.iconst 2, 1) := by decide +kernel
theorem dX7_as_18 : decode cX7_as 18 = .ok (.invokestatic 77, 3) := by decide +kernel
theorem dX7_as_21 : decode cX7_as 21 = .ok (.ifCond .ne 6, 3) := by decide +kernel
theorem dX7_as_24 : decode cX7_as 24 = .ok (.bipush (-2), 2) := by decide +kernel
theorem dX7_as_26 : decode cX7_as 26 = .ok (.ireturn, 1) := by decide +kernel
theorem dX7_as_27 : decode cX7_as 27 = .ok (.aload_n 0, 1) := by decide +kernel
theorem dX7_as_28 : decode cX7_as 28 = .ok (.getfield 32, 3) := by decide +kernel
theorem dX7_as_31 : decode cX7_as 31 = .ok (.iload_n 1, 1) := by decide +kernel
theorem dX7_as_32 : decode cX7_as 32 = .ok (.iaload, 1) := by decide +kernel
theorem dX7_as_33 : decode cX7_as 33 = .ok (.iload_n 2, 1) := by decide +kernel
theorem dX7_as_34 : decode cX7_as 34 = .ok (.if_icmp .lt 7, 3) := by decide +kernel
theorem dX7_as_37 : decode cX7_as 37 = .ok (.iconst 1, 1) := by decide +kernel
theorem dX7_as_38 : decode cX7_as 38 = .ok (.goto 8, 3) := by decide +kernel
theorem dX7_as_41 : decode cX7_as 41 = .ok (.aload_n 0, 1) := by decide +kernel
theorem dX7_as_42 : decode cX7_as 42 = .ok (.iconst 2, 1) := by decide +kernel
theorem dX7_as_43 : decode cX7_as 43 = .ok (.invokevirtual 101, 3) := by decide +kernel
theorem dX7_as_46 : decode cX7_as 46 = .ok (.ireturn, 1) := by decide +kernel
theorem dX7_trace_0 : decode cX7_trace 0 = .ok (.aload_n 0, 1) := by decide +kernel
theorem dX7_trace_1 : decode cX7_trace 1 = .ok (.getfield 229, 3) := by decide +kernel
theorem dX7_trace_4 : decode cX7_trace 4 = .ok (.ireturn, 1) := by decide +kernel
theorem dX7_fault_0 : decode cX7_fault 0 = .ok (.aload_n 0, 1) := by decide +kernel
theorem dX7_fault_1 : decode cX7_fault 1 = .ok (.getfield 71, 3) := by decide +kernel
theorem dX7_fault_4 : decode cX7_fault 4 = .ok (.ireturn, 1) := by decide +kernel
theorem dX7_many_0 : decode cX7_many 0 = .ok (.iload_n 1, 1) := by decide +kernel
theorem dX7_many_1 : decode cX7_many 1 = .ok (.ifCond .ne 10, 3) := by decide +kernel
theorem dX7_many_4 : decode cX7_many 4 = .ok (.aload_n 0, 1) := by decide +kernel
theorem dX7_many_5 : decode cX7_many 5 = .ok (.getfield 81, 3) := by decide +kernel
theorem dX7_many_8 : decode cX7_many 8 = .ok (.goto 29, 3) := by decide +kernel
theorem dX7_many_11 : decode cX7_many 11 = .ok (.iload_n 1, 1) := by decide +kernel
theorem dX7_many_12 : decode cX7_many 12 = .ok (.iconst 1, 1) := by decide +kernel
theorem dX7_many_13 : decode cX7_many 13 = .ok (.if_icmp .ne 10, 3) := by decide +kernel
theorem dX7_many_16 : decode cX7_many 16 = .ok (.aload_n 0, 1) := by decide +kernel
theorem dX7_many_17 : decode cX7_many 17 = .ok (.getfield 84, 3) := by decide +kernel
theorem dX7_many_20 : decode cX7_many 20 = .ok (.goto 17, 3) := by decide +kernel
theorem dX7_many_23 : decode cX7_many 23 = .ok (.iload_n 1, 1) := by decide +kernel
theorem dX7_many_24 : decode cX7_many 24 = .ok (.iconst 2, 1) := by decide +kernel
theorem dX7_many_25 : decode cX7_many 25 = .ok (.if_icmp .ne 10, 3) := by decide +kernel
theorem dX7_many_28 : decode cX7_many 28 = .ok (.aload_n 0, 1) := by decide +kernel
theorem dX7_many_29 : decode cX7_many 29 = .ok (.getfield 123, 3) := by decide +kernel
theorem dX7_many_32 : decode cX7_many 32 = .ok (.goto 5, 3) := by decide +kernel
theorem dX7_many_35 : decode cX7_many 35 = .ok (.bipush (-2), 2) := by decide +kernel
theorem dX7_many_37 : decode cX7_many 37 = .ok (.ireturn, 1) := by decide +kernel
theorem dJ9_max_7cf53_0 : decode cJ9_max_7cf53 0 = .ok (.iload_n 0, 1) := by decide +kernel
theorem dJ9_max_7cf53_1 : decode cJ9_max_7cf53 1 = .ok (.iload_n 1, 1) := by decide +kernel
theorem dJ9_max_7cf53_2 : decode cJ9_max_7cf53 2 = .ok (.if_icmp .lt 7, 3) := by decide +kernel
theorem dJ9_max_7cf53_5 : decode cJ9_max_7cf53 5 = .ok (.iload_n 0, 1) := by decide +kernel
theorem dJ9_max_7cf53_6 : decode cJ9_max_7cf53 6 = .ok (.goto 4, 3) := by decide +kernel
theorem dJ9_max_7cf53_9 : decode cJ9_max_7cf53 9 = .ok (.iload_n 1, 1) := by decide +kernel
theorem dJ9_max_7cf53_10 : decode cJ9_max_7cf53 10 = .ok (.ireturn, 1) := by decide +kernel
theorem dJ9_min_7cf53_0 : decode cJ9_min_7cf53 0 = .ok (.iload_n 0, 1) := by decide +kernel
theorem dJ9_min_7cf53_1 : decode cJ9_min_7cf53 1 = .ok (.iload_n 1, 1) := by decide +kernel
theorem dJ9_min_7cf53_2 : decode cJ9_min_7cf53 2 = .ok (.if_icmp .gt 7, 3) := by decide +kernel
theorem dJ9_min_7cf53_5 : decode cJ9_min_7cf53 5 = .ok (.iload_n 0, 1) := by decide +kernel
theorem dJ9_min_7cf53_6 : decode cJ9_min_7cf53 6 = .ok (.goto 4, 3) := by decide +kernel
theorem dJ9_min_7cf53_9 : decode cJ9_min_7cf53 9 = .ok (.iload_n 1, 1) := by decide +kernel
theorem dJ9_min_7cf53_10 : decode cJ9_min_7cf53 10 = .ok (.ireturn, 1) := by decide +kernel
theorem dJ7_fill_53178_0 : decode cJ7_fill_53178 0 = .ok (.iconst 0, 1) := by decide +kernel
theorem dJ7_fill_53178_1 : decode cJ7_fill_53178 1 = .ok (.istore_n 2, 1) := by decide +kernel
theorem dJ7_fill_53178_2 : decode cJ7_fill_53178 2 = .ok (.aload_n 0, 1) := by decide +kernel
theorem dJ7_fill_53178_3 : decode cJ7_fill_53178 3 = .ok (.arraylength, 1) := by decide +kernel
theorem dJ7_fill_53178_4 : decode cJ7_fill_53178 4 = .ok (.istore_n 3, 1) := by decide +kernel
theorem dJ7_fill_53178_5 : decode cJ7_fill_53178 5 = .ok (.iload_n 2, 1) := by decide +kernel
theorem dJ7_fill_53178_6 : decode cJ7_fill_53178 6 = .ok (.iload_n 3, 1) := by decide +kernel
theorem dJ7_fill_53178_7 : decode cJ7_fill_53178 7 = .ok (.if_icmp .ge 13, 3) := by decide +kernel
theorem dJ7_fill_53178_10 : decode cJ7_fill_53178 10 = .ok (.aload_n 0, 1) := by decide +kernel
theorem dJ7_fill_53178_11 : decode cJ7_fill_53178 11 = .ok (.iload_n 2, 1) := by decide +kernel
theorem dJ7_fill_53178_12 : decode cJ7_fill_53178 12 = .ok (.iload_n 1, 1) := by decide +kernel
theorem dJ7_fill_53178_13 : decode cJ7_fill_53178 13 = .ok (.iastore, 1) := by decide +kernel
theorem dJ7_fill_53178_14 : decode cJ7_fill_53178 14 = .ok (.iinc 2 1, 3) := by decide +kernel
theorem dJ7_fill_53178_17 : decode cJ7_fill_53178 17 = .ok (.goto (-12), 3) := by decide +kernel
theorem dJ7_fill_53178_20 : decode cJ7_fill_53178 20 = .ok (.return_, 1) := by decide +kernel
theorem dL_law_0 : decode cL_law 0 = .ok (.new 7, 3) := by decide +kernel
theorem dL_law_3 : decode cL_law 3 = .ok (.dup, 1) := by decide +kernel
theorem dL_law_4 : decode cL_law 4 = .ok (.invokespecial 9, 3) := by decide +kernel
theorem dL_law_7 : decode cL_law 7 = .ok (.astore_n 1, 1) := by decide +kernel
theorem dL_law_8 : decode cL_law 8 = .ok (.new 10, 3) := by decide +kernel
theorem dL_law_11 : decode cL_law 11 = .ok (.dup, 1) := by decide +kernel
theorem dL_law_12 : decode cL_law 12 = .ok (.invokespecial 12, 3) := by decide +kernel
theorem dL_law_15 : decode cL_law 15 = .ok (.astore_n 2, 1) := by decide +kernel
theorem dL_law_16 : decode cL_law 16 = .ok (.iconst 0, 1) := by decide +kernel
theorem dL_law_17 : decode cL_law 17 = .ok (.istore_n 3, 1) := by decide +kernel
theorem dL_law_18 : decode cL_law 18 = .ok (.iload_n 3, 1) := by decide +kernel
theorem dL_law_19 : decode cL_law 19 = .ok (.aload_n 0, 1) := by decide +kernel
theorem dL_law_20 : decode cL_law 20 = .ok (.arraylength, 1) := by decide +kernel
theorem dL_law_21 : decode cL_law 21 = .ok (.bipush 6, 2) := by decide +kernel
theorem dL_law_23 : decode cL_law 23 = .ok (.isub, 1) := by decide +kernel
theorem dL_law_24 : decode cL_law 24 = .ok (.if_icmp .gt 1131, 3) := by decide +kernel
theorem dL_law_27 : decode cL_law 27 = .ok (.aload_n 0, 1) := by decide +kernel
theorem dL_law_28 : decode cL_law 28 = .ok (.iload_n 3, 1) := by decide +kernel
theorem dL_law_29 : decode cL_law 29 = .ok (.iaload, 1) := by decide +kernel
theorem dL_law_30 : decode cL_law 30 = .ok (.bipush 31, 2) := by decide +kernel
theorem dL_law_32 : decode cL_law 32 = .ok (.iand, 1) := by decide +kernel
theorem dL_law_33 : decode cL_law 33 = .ok (.tableswitch 1116 0 28 #[131, 184, 217, 250, 283, 332, 375, 408, 441, 504, 527, 540, 583, 626, 649, 682, 705, 728, 772, 815, 838, 881, 925, 988, 1011, 1034, 1067, 1080, 1093], 131) := by decide +kernel
theorem dL_law_164 : decode cL_law 164 = .ok (.aload_n 1, 1) := by decide +kernel
theorem dL_law_165 : decode cL_law 165 = .ok (.aload_n 0, 1) := by decide +kernel
theorem dL_law_166 : decode cL_law 166 = .ok (.iload_n 3, 1) := by decide +kernel
theorem dL_law_167 : decode cL_law 167 = .ok (.iconst 1, 1) := by decide +kernel
theorem dL_law_168 : decode cL_law 168 = .ok (.iadd, 1) := by decide +kernel
theorem dL_law_169 : decode cL_law 169 = .ok (.iaload, 1) := by decide +kernel
theorem dL_law_170 : decode cL_law 170 = .ok (.aload_n 0, 1) := by decide +kernel
theorem dL_law_171 : decode cL_law 171 = .ok (.iload_n 3, 1) := by decide +kernel
theorem dL_law_172 : decode cL_law 172 = .ok (.iconst 2, 1) := by decide +kernel
theorem dL_law_173 : decode cL_law 173 = .ok (.iadd, 1) := by decide +kernel
theorem dL_law_174 : decode cL_law 174 = .ok (.iaload, 1) := by decide +kernel
theorem dL_law_175 : decode cL_law 175 = .ok (.aload_n 0, 1) := by decide +kernel
theorem dL_law_176 : decode cL_law 176 = .ok (.iload_n 3, 1) := by decide +kernel
theorem dL_law_177 : decode cL_law 177 = .ok (.iconst 3, 1) := by decide +kernel
theorem dL_law_178 : decode cL_law 178 = .ok (.iadd, 1) := by decide +kernel
theorem dL_law_179 : decode cL_law 179 = .ok (.iaload, 1) := by decide +kernel
theorem dL_law_180 : decode cL_law 180 = .ok (.aload_n 0, 1) := by decide +kernel
theorem dL_law_181 : decode cL_law 181 = .ok (.iload_n 3, 1) := by decide +kernel
theorem dL_law_182 : decode cL_law 182 = .ok (.iconst 4, 1) := by decide +kernel
theorem dL_law_183 : decode cL_law 183 = .ok (.iadd, 1) := by decide +kernel
theorem dL_law_184 : decode cL_law 184 = .ok (.iaload, 1) := by decide +kernel
theorem dL_law_185 : decode cL_law 185 = .ok (.invokevirtual 13, 3) := by decide +kernel
theorem dL_law_188 : decode cL_law 188 = .ok (.aload_n 2, 1) := by decide +kernel
theorem dL_law_189 : decode cL_law 189 = .ok (.aload_n 0, 1) := by decide +kernel
theorem dL_law_190 : decode cL_law 190 = .ok (.iload_n 3, 1) := by decide +kernel
theorem dL_law_191 : decode cL_law 191 = .ok (.iconst 1, 1) := by decide +kernel
theorem dL_law_192 : decode cL_law 192 = .ok (.iadd, 1) := by decide +kernel
theorem dL_law_193 : decode cL_law 193 = .ok (.iaload, 1) := by decide +kernel
theorem dL_law_194 : decode cL_law 194 = .ok (.aload_n 0, 1) := by decide +kernel
theorem dL_law_195 : decode cL_law 195 = .ok (.iload_n 3, 1) := by decide +kernel
theorem dL_law_196 : decode cL_law 196 = .ok (.iconst 2, 1) := by decide +kernel
theorem dL_law_197 : decode cL_law 197 = .ok (.iadd, 1) := by decide +kernel
theorem dL_law_198 : decode cL_law 198 = .ok (.iaload, 1) := by decide +kernel
theorem dL_law_199 : decode cL_law 199 = .ok (.aload_n 0, 1) := by decide +kernel
theorem dL_law_200 : decode cL_law 200 = .ok (.iload_n 3, 1) := by decide +kernel
theorem dL_law_201 : decode cL_law 201 = .ok (.iconst 3, 1) := by decide +kernel
theorem dL_law_202 : decode cL_law 202 = .ok (.iadd, 1) := by decide +kernel
theorem dL_law_203 : decode cL_law 203 = .ok (.iaload, 1) := by decide +kernel
theorem dL_law_204 : decode cL_law 204 = .ok (.aload_n 0, 1) := by decide +kernel
theorem dL_law_205 : decode cL_law 205 = .ok (.iload_n 3, 1) := by decide +kernel
theorem dL_law_206 : decode cL_law 206 = .ok (.iconst 4, 1) := by decide +kernel
theorem dL_law_207 : decode cL_law 207 = .ok (.iadd, 1) := by decide +kernel
theorem dL_law_208 : decode cL_law 208 = .ok (.iaload, 1) := by decide +kernel
theorem dL_law_209 : decode cL_law 209 = .ok (.invokevirtual 17, 3) := by decide +kernel
theorem dL_law_212 : decode cL_law 212 = .ok (.if_icmp .eq 937, 3) := by decide +kernel
theorem dL_law_215 : decode cL_law 215 = .ok (.iconst 0, 1) := by decide +kernel
theorem dL_law_216 : decode cL_law 216 = .ok (.ireturn, 1) := by decide +kernel
theorem dL_law_217 : decode cL_law 217 = .ok (.aload_n 1, 1) := by decide +kernel
theorem dL_law_218 : decode cL_law 218 = .ok (.aload_n 0, 1) := by decide +kernel
theorem dL_law_219 : decode cL_law 219 = .ok (.iload_n 3, 1) := by decide +kernel
theorem dL_law_220 : decode cL_law 220 = .ok (.iconst 1, 1) := by decide +kernel
theorem dL_law_221 : decode cL_law 221 = .ok (.iadd, 1) := by decide +kernel
theorem dL_law_222 : decode cL_law 222 = .ok (.iaload, 1) := by decide +kernel
theorem dL_law_223 : decode cL_law 223 = .ok (.aload_n 0, 1) := by decide +kernel
theorem dL_law_224 : decode cL_law 224 = .ok (.iload_n 3, 1) := by decide +kernel
theorem dL_law_225 : decode cL_law 225 = .ok (.iconst 2, 1) := by decide +kernel
theorem dL_law_226 : decode cL_law 226 = .ok (.iadd, 1) := by decide +kernel
theorem dL_law_227 : decode cL_law 227 = .ok (.iaload, 1) := by decide +kernel
theorem dL_law_228 : decode cL_law 228 = .ok (.invokevirtual 18, 3) := by decide +kernel
theorem dL_law_231 : decode cL_law 231 = .ok (.aload_n 2, 1) := by decide +kernel
theorem dL_law_232 : decode cL_law 232 = .ok (.aload_n 0, 1) := by decide +kernel
theorem dL_law_233 : decode cL_law 233 = .ok (.iload_n 3, 1) := by decide +kernel
theorem dL_law_234 : decode cL_law 234 = .ok (.iconst 1, 1) := by decide +kernel
theorem dL_law_235 : decode cL_law 235 = .ok (.iadd, 1) := by decide +kernel
theorem dL_law_236 : decode cL_law 236 = .ok (.iaload, 1) := by decide +kernel
theorem dL_law_237 : decode cL_law 237 = .ok (.aload_n 0, 1) := by decide +kernel
theorem dL_law_238 : decode cL_law 238 = .ok (.iload_n 3, 1) := by decide +kernel
theorem dL_law_239 : decode cL_law 239 = .ok (.iconst 2, 1) := by decide +kernel
theorem dL_law_240 : decode cL_law 240 = .ok (.iadd, 1) := by decide +kernel
theorem dL_law_241 : decode cL_law 241 = .ok (.iaload, 1) := by decide +kernel
theorem dL_law_242 : decode cL_law 242 = .ok (.invokevirtual 22, 3) := by decide +kernel
theorem dL_law_245 : decode cL_law 245 = .ok (.if_icmp .eq 904, 3) := by decide +kernel
theorem dL_law_248 : decode cL_law 248 = .ok (.iconst 0, 1) := by decide +kernel
theorem dL_law_249 : decode cL_law 249 = .ok (.ireturn, 1) := by decide +kernel
theorem dL_law_250 : decode cL_law 250 = .ok (.aload_n 1, 1) := by decide +kernel
theorem dL_law_251 : decode cL_law 251 = .ok (.aload_n 0, 1) := by decide +kernel
theorem dL_law_252 : decode cL_law 252 = .ok (.iload_n 3, 1) := by decide +kernel
theorem dL_law_253 : decode cL_law 253 = .ok (.iconst 1, 1) := by decide +kernel
theorem dL_law_254 : decode cL_law 254 = .ok (.iadd, 1) := by decide +kernel
theorem dL_law_255 : decode cL_law 255 = .ok (.iaload, 1) := by decide +kernel
theorem dL_law_256 : decode cL_law 256 = .ok (.aload_n 0, 1) := by decide +kernel
theorem dL_law_257 : decode cL_law 257 = .ok (.iload_n 3, 1) := by decide +kernel
theorem dL_law_258 : decode cL_law 258 = .ok (.iconst 2, 1) := by decide +kernel
theorem dL_law_259 : decode cL_law 259 = .ok (.iadd, 1) := by decide +kernel
theorem dL_law_260 : decode cL_law 260 = .ok (.iaload, 1) := by decide +kernel
theorem dL_law_261 : decode cL_law 261 = .ok (.invokevirtual 23, 3) := by decide +kernel
theorem dL_law_264 : decode cL_law 264 = .ok (.aload_n 2, 1) := by decide +kernel
theorem dL_law_265 : decode cL_law 265 = .ok (.aload_n 0, 1) := by decide +kernel
theorem dL_law_266 : decode cL_law 266 = .ok (.iload_n 3, 1) := by decide +kernel
theorem dL_law_267 : decode cL_law 267 = .ok (.iconst 1, 1) := by decide +kernel
theorem dL_law_268 : decode cL_law 268 = .ok (.iadd, 1) := by decide +kernel
theorem dL_law_269 : decode cL_law 269 = .ok (.iaload, 1) := by decide +kernel
theorem dL_law_270 : decode cL_law 270 = .ok (.aload_n 0, 1) := by decide +kernel
theorem dL_law_271 : decode cL_law 271 = .ok (.iload_n 3, 1) := by decide +kernel
theorem dL_law_272 : decode cL_law 272 = .ok (.iconst 2, 1) := by decide +kernel
theorem dL_law_273 : decode cL_law 273 = .ok (.iadd, 1) := by decide +kernel
theorem dL_law_274 : decode cL_law 274 = .ok (.iaload, 1) := by decide +kernel
theorem dL_law_275 : decode cL_law 275 = .ok (.invokevirtual 26, 3) := by decide +kernel
theorem dL_law_278 : decode cL_law 278 = .ok (.if_icmp .eq 871, 3) := by decide +kernel
theorem dL_law_281 : decode cL_law 281 = .ok (.iconst 0, 1) := by decide +kernel
theorem dL_law_282 : decode cL_law 282 = .ok (.ireturn, 1) := by decide +kernel
theorem dL_law_283 : decode cL_law 283 = .ok (.aload_n 1, 1) := by decide +kernel
theorem dL_law_284 : decode cL_law 284 = .ok (.aload_n 0, 1) := by decide +kernel
theorem dL_law_285 : decode cL_law 285 = .ok (.iload_n 3, 1) := by decide +kernel
theorem dL_law_286 : decode cL_law 286 = .ok (.iconst 1, 1) := by decide +kernel
theorem dL_law_287 : decode cL_law 287 = .ok (.iadd, 1) := by decide +kernel
theorem dL_law_288 : decode cL_law 288 = .ok (.iaload, 1) := by decide +kernel
theorem dL_law_289 : decode cL_law 289 = .ok (.aload_n 0, 1) := by decide +kernel
theorem dL_law_290 : decode cL_law 290 = .ok (.iload_n 3, 1) := by decide +kernel
theorem dL_law_291 : decode cL_law 291 = .ok (.iconst 2, 1) := by decide +kernel
theorem dL_law_292 : decode cL_law 292 = .ok (.iadd, 1) := by decide +kernel
theorem dL_law_293 : decode cL_law 293 = .ok (.iaload, 1) := by decide +kernel
theorem dL_law_294 : decode cL_law 294 = .ok (.invokevirtual 27, 3) := by decide +kernel
theorem dL_law_297 : decode cL_law 297 = .ok (.aload_n 2, 1) := by decide +kernel
theorem dL_law_298 : decode cL_law 298 = .ok (.aload_n 0, 1) := by decide +kernel
theorem dL_law_299 : decode cL_law 299 = .ok (.iload_n 3, 1) := by decide +kernel
theorem dL_law_300 : decode cL_law 300 = .ok (.iconst 1, 1) := by decide +kernel
theorem dL_law_301 : decode cL_law 301 = .ok (.iadd, 1) := by decide +kernel
theorem dL_law_302 : decode cL_law 302 = .ok (.iaload, 1) := by decide +kernel
theorem dL_law_303 : decode cL_law 303 = .ok (.aload_n 0, 1) := by decide +kernel
theorem dL_law_304 : decode cL_law 304 = .ok (.iload_n 3, 1) := by decide +kernel
theorem dL_law_305 : decode cL_law 305 = .ok (.iconst 2, 1) := by decide +kernel
theorem dL_law_306 : decode cL_law 306 = .ok (.iadd, 1) := by decide +kernel
theorem dL_law_307 : decode cL_law 307 = .ok (.iaload, 1) := by decide +kernel
theorem dL_law_308 : decode cL_law 308 = .ok (.invokevirtual 30, 3) := by decide +kernel
theorem dL_law_311 : decode cL_law 311 = .ok (.if_icmp .eq 838, 3) := by decide +kernel
theorem dL_law_314 : decode cL_law 314 = .ok (.iconst 0, 1) := by decide +kernel
theorem dL_law_315 : decode cL_law 315 = .ok (.ireturn, 1) := by decide +kernel
theorem dL_law_316 : decode cL_law 316 = .ok (.aload_n 1, 1) := by decide +kernel
theorem dL_law_317 : decode cL_law 317 = .ok (.aload_n 0, 1) := by decide +kernel
theorem dL_law_318 : decode cL_law 318 = .ok (.iload_n 3, 1) := by decide +kernel
theorem dL_law_319 : decode cL_law 319 = .ok (.iconst 1, 1) := by decide +kernel
theorem dL_law_320 : decode cL_law 320 = .ok (.iadd, 1) := by decide +kernel
theorem dL_law_321 : decode cL_law 321 = .ok (.iaload, 1) := by decide +kernel
theorem dL_law_322 : decode cL_law 322 = .ok (.aload_n 0, 1) := by decide +kernel
theorem dL_law_323 : decode cL_law 323 = .ok (.iload_n 3, 1) := by decide +kernel
theorem dL_law_324 : decode cL_law 324 = .ok (.iconst 2, 1) := by decide +kernel
theorem dL_law_325 : decode cL_law 325 = .ok (.iadd, 1) := by decide +kernel
theorem dL_law_326 : decode cL_law 326 = .ok (.iaload, 1) := by decide +kernel
theorem dL_law_327 : decode cL_law 327 = .ok (.ifCond .eq 7, 3) := by decide +kernel
theorem dL_law_330 : decode cL_law 330 = .ok (.iconst 1, 1) := by decide +kernel
theorem dL_law_331 : decode cL_law 331 = .ok (.goto 4, 3) := by decide +kernel
theorem dL_law_334 : decode cL_law 334 = .ok (.iconst 0, 1) := by decide +kernel
theorem dL_law_335 : decode cL_law 335 = .ok (.invokevirtual 31, 3) := by decide +kernel
theorem dL_law_338 : decode cL_law 338 = .ok (.aload_n 2, 1) := by decide +kernel
theorem dL_law_339 : decode cL_law 339 = .ok (.aload_n 0, 1) := by decide +kernel
theorem dL_law_340 : decode cL_law 340 = .ok (.iload_n 3, 1) := by decide +kernel
theorem dL_law_341 : decode cL_law 341 = .ok (.iconst 1, 1) := by decide +kernel
theorem dL_law_342 : decode cL_law 342 = .ok (.iadd, 1) := by decide +kernel
theorem dL_law_343 : decode cL_law 343 = .ok (.iaload, 1) := by decide +kernel
theorem dL_law_344 : decode cL_law 344 = .ok (.aload_n 0, 1) := by decide +kernel
theorem dL_law_345 : decode cL_law 345 = .ok (.iload_n 3, 1) := by decide +kernel
theorem dL_law_346 : decode cL_law 346 = .ok (.iconst 2, 1) := by decide +kernel
theorem dL_law_347 : decode cL_law 347 = .ok (.iadd, 1) := by decide +kernel
theorem dL_law_348 : decode cL_law 348 = .ok (.iaload, 1) := by decide +kernel
theorem dL_law_349 : decode cL_law 349 = .ok (.ifCond .eq 7, 3) := by decide +kernel
theorem dL_law_352 : decode cL_law 352 = .ok (.iconst 1, 1) := by decide +kernel
theorem dL_law_353 : decode cL_law 353 = .ok (.goto 4, 3) := by decide +kernel
theorem dL_law_356 : decode cL_law 356 = .ok (.iconst 0, 1) := by decide +kernel
theorem dL_law_357 : decode cL_law 357 = .ok (.invokevirtual 35, 3) := by decide +kernel
theorem dL_law_360 : decode cL_law 360 = .ok (.if_icmp .eq 789, 3) := by decide +kernel
theorem dL_law_363 : decode cL_law 363 = .ok (.iconst 0, 1) := by decide +kernel
theorem dL_law_364 : decode cL_law 364 = .ok (.ireturn, 1) := by decide +kernel
theorem dL_law_365 : decode cL_law 365 = .ok (.aload_n 1, 1) := by decide +kernel
theorem dL_law_366 : decode cL_law 366 = .ok (.aload_n 0, 1) := by decide +kernel
theorem dL_law_367 : decode cL_law 367 = .ok (.iload_n 3, 1) := by decide +kernel
theorem dL_law_368 : decode cL_law 368 = .ok (.iconst 1, 1) := by decide +kernel
theorem dL_law_369 : decode cL_law 369 = .ok (.iadd, 1) := by decide +kernel
theorem dL_law_370 : decode cL_law 370 = .ok (.iaload, 1) := by decide +kernel
theorem dL_law_371 : decode cL_law 371 = .ok (.aload_n 0, 1) := by decide +kernel
theorem dL_law_372 : decode cL_law 372 = .ok (.iload_n 3, 1) := by decide +kernel
theorem dL_law_373 : decode cL_law 373 = .ok (.iconst 2, 1) := by decide +kernel
theorem dL_law_374 : decode cL_law 374 = .ok (.iadd, 1) := by decide +kernel
theorem dL_law_375 : decode cL_law 375 = .ok (.iaload, 1) := by decide +kernel
theorem dL_law_376 : decode cL_law 376 = .ok (.aload_n 0, 1) := by decide +kernel
theorem dL_law_377 : decode cL_law 377 = .ok (.iload_n 3, 1) := by decide +kernel
theorem dL_law_378 : decode cL_law 378 = .ok (.iconst 3, 1) := by decide +kernel
theorem dL_law_379 : decode cL_law 379 = .ok (.iadd, 1) := by decide +kernel
theorem dL_law_380 : decode cL_law 380 = .ok (.iaload, 1) := by decide +kernel
theorem dL_law_381 : decode cL_law 381 = .ok (.invokevirtual 36, 3) := by decide +kernel
theorem dL_law_384 : decode cL_law 384 = .ok (.aload_n 2, 1) := by decide +kernel
theorem dL_law_385 : decode cL_law 385 = .ok (.aload_n 0, 1) := by decide +kernel
theorem dL_law_386 : decode cL_law 386 = .ok (.iload_n 3, 1) := by decide +kernel
theorem dL_law_387 : decode cL_law 387 = .ok (.iconst 1, 1) := by decide +kernel
theorem dL_law_388 : decode cL_law 388 = .ok (.iadd, 1) := by decide +kernel
theorem dL_law_389 : decode cL_law 389 = .ok (.iaload, 1) := by decide +kernel
theorem dL_law_390 : decode cL_law 390 = .ok (.aload_n 0, 1) := by decide +kernel
theorem dL_law_391 : decode cL_law 391 = .ok (.iload_n 3, 1) := by decide +kernel
theorem dL_law_392 : decode cL_law 392 = .ok (.iconst 2, 1) := by decide +kernel
theorem dL_law_393 : decode cL_law 393 = .ok (.iadd, 1) := by decide +kernel
theorem dL_law_394 : decode cL_law 394 = .ok (.iaload, 1) := by decide +kernel
theorem dL_law_395 : decode cL_law 395 = .ok (.aload_n 0, 1) := by decide +kernel
theorem dL_law_396 : decode cL_law 396 = .ok (.iload_n 3, 1) := by decide +kernel
theorem dL_law_397 : decode cL_law 397 = .ok (.iconst 3, 1) := by decide +kernel
theorem dL_law_398 : decode cL_law 398 = .ok (.iadd, 1) := by decide +kernel
theorem dL_law_399 : decode cL_law 399 = .ok (.iaload, 1) := by decide +kernel
theorem dL_law_400 : decode cL_law 400 = .ok (.invokevirtual 40, 3) := by decide +kernel
theorem dL_law_403 : decode cL_law 403 = .ok (.if_icmp .eq 746, 3) := by decide +kernel
theorem dL_law_406 : decode cL_law 406 = .ok (.iconst 0, 1) := by decide +kernel
theorem dL_law_407 : decode cL_law 407 = .ok (.ireturn, 1) := by decide +kernel
theorem dL_law_408 : decode cL_law 408 = .ok (.aload_n 1, 1) := by decide +kernel
theorem dL_law_409 : decode cL_law 409 = .ok (.aload_n 0, 1) := by decide +kernel
theorem dL_law_410 : decode cL_law 410 = .ok (.iload_n 3, 1) := by decide +kernel
theorem dL_law_411 : decode cL_law 411 = .ok (.iconst 1, 1) := by decide +kernel
theorem dL_law_412 : decode cL_law 412 = .ok (.iadd, 1) := by decide +kernel
theorem dL_law_413 : decode cL_law 413 = .ok (.iaload, 1) := by decide +kernel
theorem dL_law_414 : decode cL_law 414 = .ok (.aload_n 0, 1) := by decide +kernel
theorem dL_law_415 : decode cL_law 415 = .ok (.iload_n 3, 1) := by decide +kernel
theorem dL_law_416 : decode cL_law 416 = .ok (.iconst 2, 1) := by decide +kernel
theorem dL_law_417 : decode cL_law 417 = .ok (.iadd, 1) := by decide +kernel
theorem dL_law_418 : decode cL_law 418 = .ok (.iaload, 1) := by decide +kernel
theorem dL_law_419 : decode cL_law 419 = .ok (.invokevirtual 41, 3) := by decide +kernel
theorem dL_law_422 : decode cL_law 422 = .ok (.aload_n 2, 1) := by decide +kernel
theorem dL_law_423 : decode cL_law 423 = .ok (.aload_n 0, 1) := by decide +kernel
theorem dL_law_424 : decode cL_law 424 = .ok (.iload_n 3, 1) := by decide +kernel
theorem dL_law_425 : decode cL_law 425 = .ok (.iconst 1, 1) := by decide +kernel
theorem dL_law_426 : decode cL_law 426 = .ok (.iadd, 1) := by decide +kernel
theorem dL_law_427 : decode cL_law 427 = .ok (.iaload, 1) := by decide +kernel
theorem dL_law_428 : decode cL_law 428 = .ok (.aload_n 0, 1) := by decide +kernel
theorem dL_law_429 : decode cL_law 429 = .ok (.iload_n 3, 1) := by decide +kernel
theorem dL_law_430 : decode cL_law 430 = .ok (.iconst 2, 1) := by decide +kernel
theorem dL_law_431 : decode cL_law 431 = .ok (.iadd, 1) := by decide +kernel
theorem dL_law_432 : decode cL_law 432 = .ok (.iaload, 1) := by decide +kernel
theorem dL_law_433 : decode cL_law 433 = .ok (.invokevirtual 44, 3) := by decide +kernel
theorem dL_law_436 : decode cL_law 436 = .ok (.if_icmp .eq 713, 3) := by decide +kernel
theorem dL_law_439 : decode cL_law 439 = .ok (.iconst 0, 1) := by decide +kernel
theorem dL_law_440 : decode cL_law 440 = .ok (.ireturn, 1) := by decide +kernel
theorem dL_law_441 : decode cL_law 441 = .ok (.aload_n 1, 1) := by decide +kernel
theorem dL_law_442 : decode cL_law 442 = .ok (.aload_n 0, 1) := by decide +kernel
theorem dL_law_443 : decode cL_law 443 = .ok (.iload_n 3, 1) := by decide +kernel
theorem dL_law_444 : decode cL_law 444 = .ok (.iconst 1, 1) := by decide +kernel
theorem dL_law_445 : decode cL_law 445 = .ok (.iadd, 1) := by decide +kernel
theorem dL_law_446 : decode cL_law 446 = .ok (.iaload, 1) := by decide +kernel
theorem dL_law_447 : decode cL_law 447 = .ok (.aload_n 0, 1) := by decide +kernel
theorem dL_law_448 : decode cL_law 448 = .ok (.iload_n 3, 1) := by decide +kernel
theorem dL_law_449 : decode cL_law 449 = .ok (.iconst 2, 1) := by decide +kernel
theorem dL_law_450 : decode cL_law 450 = .ok (.iadd, 1) := by decide +kernel
theorem dL_law_451 : decode cL_law 451 = .ok (.iaload, 1) := by decide +kernel
theorem dL_law_452 : decode cL_law 452 = .ok (.invokevirtual 45, 3) := by decide +kernel
theorem dL_law_455 : decode cL_law 455 = .ok (.aload_n 2, 1) := by decide +kernel
theorem dL_law_456 : decode cL_law 456 = .ok (.aload_n 0, 1) := by decide +kernel
theorem dL_law_457 : decode cL_law 457 = .ok (.iload_n 3, 1) := by decide +kernel
theorem dL_law_458 : decode cL_law 458 = .ok (.iconst 1, 1) := by decide +kernel
theorem dL_law_459 : decode cL_law 459 = .ok (.iadd, 1) := by decide +kernel
theorem dL_law_460 : decode cL_law 460 = .ok (.iaload, 1) := by decide +kernel
theorem dL_law_461 : decode cL_law 461 = .ok (.aload_n 0, 1) := by decide +kernel
theorem dL_law_462 : decode cL_law 462 = .ok (.iload_n 3, 1) := by decide +kernel
theorem dL_law_463 : decode cL_law 463 = .ok (.iconst 2, 1) := by decide +kernel
theorem dL_law_464 : decode cL_law 464 = .ok (.iadd, 1) := by decide +kernel
theorem dL_law_465 : decode cL_law 465 = .ok (.iaload, 1) := by decide +kernel
theorem dL_law_466 : decode cL_law 466 = .ok (.invokevirtual 48, 3) := by decide +kernel
theorem dL_law_469 : decode cL_law 469 = .ok (.if_icmp .eq 680, 3) := by decide +kernel
theorem dL_law_472 : decode cL_law 472 = .ok (.iconst 0, 1) := by decide +kernel
theorem dL_law_473 : decode cL_law 473 = .ok (.ireturn, 1) := by decide +kernel
theorem dL_law_474 : decode cL_law 474 = .ok (.aload_n 1, 1) := by decide +kernel
theorem dL_law_475 : decode cL_law 475 = .ok (.aload_n 0, 1) := by decide +kernel
theorem dL_law_476 : decode cL_law 476 = .ok (.iload_n 3, 1) := by decide +kernel
theorem dL_law_477 : decode cL_law 477 = .ok (.iconst 1, 1) := by decide +kernel
theorem dL_law_478 : decode cL_law 478 = .ok (.iadd, 1) := by decide +kernel
theorem dL_law_479 : decode cL_law 479 = .ok (.iaload, 1) := by decide +kernel
theorem dL_law_480 : decode cL_law 480 = .ok (.aload_n 0, 1) := by decide +kernel
theorem dL_law_481 : decode cL_law 481 = .ok (.iload_n 3, 1) := by decide +kernel
theorem dL_law_482 : decode cL_law 482 = .ok (.iconst 2, 1) := by decide +kernel
theorem dL_law_483 : decode cL_law 483 = .ok (.iadd, 1) := by decide +kernel
theorem dL_law_484 : decode cL_law 484 = .ok (.iaload, 1) := by decide +kernel
theorem dL_law_485 : decode cL_law 485 = .ok (.aload_n 0, 1) := by decide +kernel
theorem dL_law_486 : decode cL_law 486 = .ok (.iload_n 3, 1) := by decide +kernel
theorem dL_law_487 : decode cL_law 487 = .ok (.iconst 3, 1) := by decide +kernel
theorem dL_law_488 : decode cL_law 488 = .ok (.iadd, 1) := by decide +kernel
theorem dL_law_489 : decode cL_law 489 = .ok (.iaload, 1) := by decide +kernel
theorem dL_law_490 : decode cL_law 490 = .ok (.aload_n 0, 1) := by decide +kernel
theorem dL_law_491 : decode cL_law 491 = .ok (.iload_n 3, 1) := by decide +kernel
theorem dL_law_492 : decode cL_law 492 = .ok (.iconst 4, 1) := by decide +kernel
theorem dL_law_493 : decode cL_law 493 = .ok (.iadd, 1) := by decide +kernel
theorem dL_law_494 : decode cL_law 494 = .ok (.iaload, 1) := by decide +kernel
theorem dL_law_495 : decode cL_law 495 = .ok (.aload_n 0, 1) := by decide +kernel
theorem dL_law_496 : decode cL_law 496 = .ok (.iload_n 3, 1) := by decide +kernel
theorem dL_law_497 : decode cL_law 497 = .ok (.iconst 5, 1) := by decide +kernel
theorem dL_law_498 : decode cL_law 498 = .ok (.iadd, 1) := by decide +kernel
theorem dL_law_499 : decode cL_law 499 = .ok (.iaload, 1) := by decide +kernel
theorem dL_law_500 : decode cL_law 500 = .ok (.invokevirtual 49, 3) := by decide +kernel
theorem dL_law_503 : decode cL_law 503 = .ok (.aload_n 2, 1) := by decide +kernel
theorem dL_law_504 : decode cL_law 504 = .ok (.aload_n 0, 1) := by decide +kernel
theorem dL_law_505 : decode cL_law 505 = .ok (.iload_n 3, 1) := by decide +kernel
theorem dL_law_506 : decode cL_law 506 = .ok (.iconst 1, 1) := by decide +kernel
theorem dL_law_507 : decode cL_law 507 = .ok (.iadd, 1) := by decide +kernel
theorem dL_law_508 : decode cL_law 508 = .ok (.iaload, 1) := by decide +kernel
theorem dL_law_509 : decode cL_law 509 = .ok (.aload_n 0, 1) := by decide +kernel
theorem dL_law_510 : decode cL_law 510 = .ok (.iload_n 3, 1) := by decide +kernel
theorem dL_law_511 : decode cL_law 511 = .ok (.iconst 2, 1) := by decide +kernel
theorem dL_law_512 : decode cL_law 512 = .ok (.iadd, 1) := by decide +kernel
theorem dL_law_513 : decode cL_law 513 = .ok (.iaload, 1) := by decide +kernel
theorem dL_law_514 : decode cL_law 514 = .ok (.aload_n 0, 1) := by decide +kernel
theorem dL_law_515 : decode cL_law 515 = .ok (.iload_n 3, 1) := by decide +kernel
theorem dL_law_516 : decode cL_law 516 = .ok (.iconst 3, 1) := by decide +kernel
theorem dL_law_517 : decode cL_law 517 = .ok (.iadd, 1) := by decide +kernel
theorem dL_law_518 : decode cL_law 518 = .ok (.iaload, 1) := by decide +kernel
theorem dL_law_519 : decode cL_law 519 = .ok (.aload_n 0, 1) := by decide +kernel
theorem dL_law_520 : decode cL_law 520 = .ok (.iload_n 3, 1) := by decide +kernel
theorem dL_law_521 : decode cL_law 521 = .ok (.iconst 4, 1) := by decide +kernel
theorem dL_law_522 : decode cL_law 522 = .ok (.iadd, 1) := by decide +kernel
theorem dL_law_523 : decode cL_law 523 = .ok (.iaload, 1) := by decide +kernel
theorem dL_law_524 : decode cL_law 524 = .ok (.aload_n 0, 1) := by decide +kernel
theorem dL_law_525 : decode cL_law 525 = .ok (.iload_n 3, 1) := by decide +kernel
theorem dL_law_526 : decode cL_law 526 = .ok (.iconst 5, 1) := by decide +kernel
theorem dL_law_527 : decode cL_law 527 = .ok (.iadd, 1) := by decide +kernel
theorem dL_law_528 : decode cL_law 528 = .ok (.iaload, 1) := by decide +kernel
theorem dL_law_529 : decode cL_law 529 = .ok (.invokevirtual 53, 3) := by decide +kernel
theorem dL_law_532 : decode cL_law 532 = .ok (.if_icmp .eq 617, 3) := by decide +kernel
theorem dL_law_535 : decode cL_law 535 = .ok (.iconst 0, 1) := by decide +kernel
theorem dL_law_536 : decode cL_law 536 = .ok (.ireturn, 1) := by decide +kernel
theorem dL_law_537 : decode cL_law 537 = .ok (.aload_n 1, 1) := by decide +kernel
theorem dL_law_538 : decode cL_law 538 = .ok (.aload_n 0, 1) := by decide +kernel
theorem dL_law_539 : decode cL_law 539 = .ok (.iload_n 3, 1) := by decide +kernel
theorem dL_law_540 : decode cL_law 540 = .ok (.iconst 1, 1) := by decide +kernel
theorem dL_law_541 : decode cL_law 541 = .ok (.iadd, 1) := by decide +kernel
theorem dL_law_542 : decode cL_law 542 = .ok (.iaload, 1) := by decide +kernel
theorem dL_law_543 : decode cL_law 543 = .ok (.invokevirtual 54, 3) := by decide +kernel
theorem dL_law_546 : decode cL_law 546 = .ok (.aload_n 2, 1) := by decide +kernel
theorem dL_law_547 : decode cL_law 547 = .ok (.aload_n 0, 1) := by decide +kernel
theorem dL_law_548 : decode cL_law 548 = .ok (.iload_n 3, 1) := by decide +kernel
theorem dL_law_549 : decode cL_law 549 = .ok (.iconst 1, 1) := by decide +kernel
theorem dL_law_550 : decode cL_law 550 = .ok (.iadd, 1) := by decide +kernel
theorem dL_law_551 : decode cL_law 551 = .ok (.iaload, 1) := by decide +kernel
theorem dL_law_552 : decode cL_law 552 = .ok (.invokevirtual 58, 3) := by decide +kernel
theorem dL_law_555 : decode cL_law 555 = .ok (.if_icmp .eq 594, 3) := by decide +kernel
theorem dL_law_558 : decode cL_law 558 = .ok (.iconst 0, 1) := by decide +kernel
theorem dL_law_559 : decode cL_law 559 = .ok (.ireturn, 1) := by decide +kernel
theorem dL_law_560 : decode cL_law 560 = .ok (.aload_n 1, 1) := by decide +kernel
theorem dL_law_561 : decode cL_law 561 = .ok (.invokevirtual 59, 3) := by decide +kernel
theorem dL_law_564 : decode cL_law 564 = .ok (.aload_n 2, 1) := by decide +kernel
theorem dL_law_565 : decode cL_law 565 = .ok (.invokevirtual 63, 3) := by decide +kernel
theorem dL_law_568 : decode cL_law 568 = .ok (.if_icmp .eq 581, 3) := by decide +kernel
theorem dL_law_571 : decode cL_law 571 = .ok (.iconst 0, 1) := by decide +kernel
theorem dL_law_572 : decode cL_law 572 = .ok (.ireturn, 1) := by decide +kernel
theorem dL_law_573 : decode cL_law 573 = .ok (.aload_n 1, 1) := by decide +kernel
theorem dL_law_574 : decode cL_law 574 = .ok (.aload_n 0, 1) := by decide +kernel
theorem dL_law_575 : decode cL_law 575 = .ok (.iload_n 3, 1) := by decide +kernel
theorem dL_law_576 : decode cL_law 576 = .ok (.iconst 1, 1) := by decide +kernel
theorem dL_law_577 : decode cL_law 577 = .ok (.iadd, 1) := by decide +kernel
theorem dL_law_578 : decode cL_law 578 = .ok (.iaload, 1) := by decide +kernel
theorem dL_law_579 : decode cL_law 579 = .ok (.aload_n 0, 1) := by decide +kernel
theorem dL_law_580 : decode cL_law 580 = .ok (.iload_n 3, 1) := by decide +kernel
theorem dL_law_581 : decode cL_law 581 = .ok (.iconst 2, 1) := by decide +kernel
theorem dL_law_582 : decode cL_law 582 = .ok (.iadd, 1) := by decide +kernel
theorem dL_law_583 : decode cL_law 583 = .ok (.iaload, 1) := by decide +kernel
theorem dL_law_584 : decode cL_law 584 = .ok (.aload_n 0, 1) := by decide +kernel
theorem dL_law_585 : decode cL_law 585 = .ok (.iload_n 3, 1) := by decide +kernel
theorem dL_law_586 : decode cL_law 586 = .ok (.iconst 3, 1) := by decide +kernel
theorem dL_law_587 : decode cL_law 587 = .ok (.iadd, 1) := by decide +kernel
theorem dL_law_588 : decode cL_law 588 = .ok (.iaload, 1) := by decide +kernel
theorem dL_law_589 : decode cL_law 589 = .ok (.invokevirtual 64, 3) := by decide +kernel
theorem dL_law_592 : decode cL_law 592 = .ok (.aload_n 2, 1) := by decide +kernel
theorem dL_law_593 : decode cL_law 593 = .ok (.aload_n 0, 1) := by decide +kernel
theorem dL_law_594 : decode cL_law 594 = .ok (.iload_n 3, 1) := by decide +kernel
theorem dL_law_595 : decode cL_law 595 = .ok (.iconst 1, 1) := by decide +kernel
theorem dL_law_596 : decode cL_law 596 = .ok (.iadd, 1) := by decide +kernel
theorem dL_law_597 : decode cL_law 597 = .ok (.iaload, 1) := by decide +kernel
theorem dL_law_598 : decode cL_law 598 = .ok (.aload_n 0, 1) := by decide +kernel
theorem dL_law_599 : decode cL_law 599 = .ok (.iload_n 3, 1) := by decide +kernel
theorem dL_law_600 : decode cL_law 600 = .ok (.iconst 2, 1) := by decide +kernel
theorem dL_law_601 : decode cL_law 601 = .ok (.iadd, 1) := by decide +kernel
theorem dL_law_602 : decode cL_law 602 = .ok (.iaload, 1) := by decide +kernel
theorem dL_law_603 : decode cL_law 603 = .ok (.aload_n 0, 1) := by decide +kernel
theorem dL_law_604 : decode cL_law 604 = .ok (.iload_n 3, 1) := by decide +kernel
theorem dL_law_605 : decode cL_law 605 = .ok (.iconst 3, 1) := by decide +kernel
theorem dL_law_606 : decode cL_law 606 = .ok (.iadd, 1) := by decide +kernel
theorem dL_law_607 : decode cL_law 607 = .ok (.iaload, 1) := by decide +kernel
theorem dL_law_608 : decode cL_law 608 = .ok (.invokevirtual 67, 3) := by decide +kernel
theorem dL_law_611 : decode cL_law 611 = .ok (.if_icmp .eq 538, 3) := by decide +kernel
theorem dL_law_614 : decode cL_law 614 = .ok (.iconst 0, 1) := by decide +kernel
theorem dL_law_615 : decode cL_law 615 = .ok (.ireturn, 1) := by decide +kernel
theorem dL_law_616 : decode cL_law 616 = .ok (.aload_n 1, 1) := by decide +kernel
theorem dL_law_617 : decode cL_law 617 = .ok (.aload_n 0, 1) := by decide +kernel
theorem dL_law_618 : decode cL_law 618 = .ok (.iload_n 3, 1) := by decide +kernel
theorem dL_law_619 : decode cL_law 619 = .ok (.iconst 1, 1) := by decide +kernel
theorem dL_law_620 : decode cL_law 620 = .ok (.iadd, 1) := by decide +kernel
theorem dL_law_621 : decode cL_law 621 = .ok (.iaload, 1) := by decide +kernel
theorem dL_law_622 : decode cL_law 622 = .ok (.aload_n 0, 1) := by decide +kernel
theorem dL_law_623 : decode cL_law 623 = .ok (.iload_n 3, 1) := by decide +kernel
theorem dL_law_624 : decode cL_law 624 = .ok (.iconst 2, 1) := by decide +kernel
theorem dL_law_625 : decode cL_law 625 = .ok (.iadd, 1) := by decide +kernel
theorem dL_law_626 : decode cL_law 626 = .ok (.iaload, 1) := by decide +kernel
theorem dL_law_627 : decode cL_law 627 = .ok (.aload_n 0, 1) := by decide +kernel
theorem dL_law_628 : decode cL_law 628 = .ok (.iload_n 3, 1) := by decide +kernel
theorem dL_law_629 : decode cL_law 629 = .ok (.iconst 3, 1) := by decide +kernel
theorem dL_law_630 : decode cL_law 630 = .ok (.iadd, 1) := by decide +kernel
theorem dL_law_631 : decode cL_law 631 = .ok (.iaload, 1) := by decide +kernel
theorem dL_law_632 : decode cL_law 632 = .ok (.invokevirtual 68, 3) := by decide +kernel
theorem dL_law_635 : decode cL_law 635 = .ok (.aload_n 2, 1) := by decide +kernel
theorem dL_law_636 : decode cL_law 636 = .ok (.aload_n 0, 1) := by decide +kernel
theorem dL_law_637 : decode cL_law 637 = .ok (.iload_n 3, 1) := by decide +kernel
theorem dL_law_638 : decode cL_law 638 = .ok (.iconst 1, 1) := by decide +kernel
theorem dL_law_639 : decode cL_law 639 = .ok (.iadd, 1) := by decide +kernel
theorem dL_law_640 : decode cL_law 640 = .ok (.iaload, 1) := by decide +kernel
theorem dL_law_641 : decode cL_law 641 = .ok (.aload_n 0, 1) := by decide +kernel
theorem dL_law_642 : decode cL_law 642 = .ok (.iload_n 3, 1) := by decide +kernel
theorem dL_law_643 : decode cL_law 643 = .ok (.iconst 2, 1) := by decide +kernel
theorem dL_law_644 : decode cL_law 644 = .ok (.iadd, 1) := by decide +kernel
theorem dL_law_645 : decode cL_law 645 = .ok (.iaload, 1) := by decide +kernel
theorem dL_law_646 : decode cL_law 646 = .ok (.aload_n 0, 1) := by decide +kernel
theorem dL_law_647 : decode cL_law 647 = .ok (.iload_n 3, 1) := by decide +kernel
theorem dL_law_648 : decode cL_law 648 = .ok (.iconst 3, 1) := by decide +kernel
theorem dL_law_649 : decode cL_law 649 = .ok (.iadd, 1) := by decide +kernel
theorem dL_law_650 : decode cL_law 650 = .ok (.iaload, 1) := by decide +kernel
theorem dL_law_651 : decode cL_law 651 = .ok (.invokevirtual 71, 3) := by decide +kernel
theorem dL_law_654 : decode cL_law 654 = .ok (.if_icmp .eq 495, 3) := by decide +kernel
theorem dL_law_657 : decode cL_law 657 = .ok (.iconst 0, 1) := by decide +kernel
theorem dL_law_658 : decode cL_law 658 = .ok (.ireturn, 1) := by decide +kernel
theorem dL_law_659 : decode cL_law 659 = .ok (.aload_n 1, 1) := by decide +kernel
theorem dL_law_660 : decode cL_law 660 = .ok (.aload_n 0, 1) := by decide +kernel
theorem dL_law_661 : decode cL_law 661 = .ok (.iload_n 3, 1) := by decide +kernel
theorem dL_law_662 : decode cL_law 662 = .ok (.iconst 1, 1) := by decide +kernel
theorem dL_law_663 : decode cL_law 663 = .ok (.iadd, 1) := by decide +kernel
theorem dL_law_664 : decode cL_law 664 = .ok (.iaload, 1) := by decide +kernel
theorem dL_law_665 : decode cL_law 665 = .ok (.invokevirtual 72, 3) := by decide +kernel
theorem dL_law_668 : decode cL_law 668 = .ok (.aload_n 2, 1) := by decide +kernel
theorem dL_law_669 : decode cL_law 669 = .ok (.aload_n 0, 1) := by decide +kernel
theorem dL_law_670 : decode cL_law 670 = .ok (.iload_n 3, 1) := by decide +kernel
theorem dL_law_671 : decode cL_law 671 = .ok (.iconst 1, 1) := by decide +kernel
theorem dL_law_672 : decode cL_law 672 = .ok (.iadd, 1) := by decide +kernel
theorem dL_law_673 : decode cL_law 673 = .ok (.iaload, 1) := by decide +kernel
theorem dL_law_674 : decode cL_law 674 = .ok (.invokevirtual 75, 3) := by decide +kernel
theorem dL_law_677 : decode cL_law 677 = .ok (.if_icmp .eq 472, 3) := by decide +kernel
theorem dL_law_680 : decode cL_law 680 = .ok (.iconst 0, 1) := by decide +kernel
theorem dL_law_681 : decode cL_law 681 = .ok (.ireturn, 1) := by decide +kernel
theorem dL_law_682 : decode cL_law 682 = .ok (.aload_n 1, 1) := by decide +kernel
theorem dL_law_683 : decode cL_law 683 = .ok (.aload_n 0, 1) := by decide +kernel
theorem dL_law_684 : decode cL_law 684 = .ok (.iload_n 3, 1) := by decide +kernel
theorem dL_law_685 : decode cL_law 685 = .ok (.iconst 1, 1) := by decide +kernel
theorem dL_law_686 : decode cL_law 686 = .ok (.iadd, 1) := by decide +kernel
theorem dL_law_687 : decode cL_law 687 = .ok (.iaload, 1) := by decide +kernel
theorem dL_law_688 : decode cL_law 688 = .ok (.aload_n 0, 1) := by decide +kernel
theorem dL_law_689 : decode cL_law 689 = .ok (.iload_n 3, 1) := by decide +kernel
theorem dL_law_690 : decode cL_law 690 = .ok (.iconst 2, 1) := by decide +kernel
theorem dL_law_691 : decode cL_law 691 = .ok (.iadd, 1) := by decide +kernel
theorem dL_law_692 : decode cL_law 692 = .ok (.iaload, 1) := by decide +kernel
theorem dL_law_693 : decode cL_law 693 = .ok (.invokevirtual 76, 3) := by decide +kernel
theorem dL_law_696 : decode cL_law 696 = .ok (.aload_n 2, 1) := by decide +kernel
theorem dL_law_697 : decode cL_law 697 = .ok (.aload_n 0, 1) := by decide +kernel
theorem dL_law_698 : decode cL_law 698 = .ok (.iload_n 3, 1) := by decide +kernel
theorem dL_law_699 : decode cL_law 699 = .ok (.iconst 1, 1) := by decide +kernel
theorem dL_law_700 : decode cL_law 700 = .ok (.iadd, 1) := by decide +kernel
theorem dL_law_701 : decode cL_law 701 = .ok (.iaload, 1) := by decide +kernel
theorem dL_law_702 : decode cL_law 702 = .ok (.aload_n 0, 1) := by decide +kernel
theorem dL_law_703 : decode cL_law 703 = .ok (.iload_n 3, 1) := by decide +kernel
theorem dL_law_704 : decode cL_law 704 = .ok (.iconst 2, 1) := by decide +kernel
theorem dL_law_705 : decode cL_law 705 = .ok (.iadd, 1) := by decide +kernel
theorem dL_law_706 : decode cL_law 706 = .ok (.iaload, 1) := by decide +kernel
theorem dL_law_707 : decode cL_law 707 = .ok (.invokevirtual 79, 3) := by decide +kernel
theorem dL_law_710 : decode cL_law 710 = .ok (.if_icmp .eq 439, 3) := by decide +kernel
theorem dL_law_713 : decode cL_law 713 = .ok (.iconst 0, 1) := by decide +kernel
theorem dL_law_714 : decode cL_law 714 = .ok (.ireturn, 1) := by decide +kernel
theorem dL_law_715 : decode cL_law 715 = .ok (.aload_n 1, 1) := by decide +kernel
theorem dL_law_716 : decode cL_law 716 = .ok (.aload_n 0, 1) := by decide +kernel
theorem dL_law_717 : decode cL_law 717 = .ok (.iload_n 3, 1) := by decide +kernel
theorem dL_law_718 : decode cL_law 718 = .ok (.iconst 1, 1) := by decide +kernel
theorem dL_law_719 : decode cL_law 719 = .ok (.iadd, 1) := by decide +kernel
theorem dL_law_720 : decode cL_law 720 = .ok (.iaload, 1) := by decide +kernel
theorem dL_law_721 : decode cL_law 721 = .ok (.invokevirtual 80, 3) := by decide +kernel
theorem dL_law_724 : decode cL_law 724 = .ok (.aload_n 2, 1) := by decide +kernel
theorem dL_law_725 : decode cL_law 725 = .ok (.aload_n 0, 1) := by decide +kernel
theorem dL_law_726 : decode cL_law 726 = .ok (.iload_n 3, 1) := by decide +kernel
theorem dL_law_727 : decode cL_law 727 = .ok (.iconst 1, 1) := by decide +kernel
theorem dL_law_728 : decode cL_law 728 = .ok (.iadd, 1) := by decide +kernel
theorem dL_law_729 : decode cL_law 729 = .ok (.iaload, 1) := by decide +kernel
theorem dL_law_730 : decode cL_law 730 = .ok (.invokevirtual 83, 3) := by decide +kernel
theorem dL_law_733 : decode cL_law 733 = .ok (.if_icmp .eq 416, 3) := by decide +kernel
theorem dL_law_736 : decode cL_law 736 = .ok (.iconst 0, 1) := by decide +kernel
theorem dL_law_737 : decode cL_law 737 = .ok (.ireturn, 1) := by decide +kernel
theorem dL_law_738 : decode cL_law 738 = .ok (.aload_n 1, 1) := by decide +kernel
theorem dL_law_739 : decode cL_law 739 = .ok (.aload_n 0, 1) := by decide +kernel
theorem dL_law_740 : decode cL_law 740 = .ok (.iload_n 3, 1) := by decide +kernel
theorem dL_law_741 : decode cL_law 741 = .ok (.iconst 1, 1) := by decide +kernel
theorem dL_law_742 : decode cL_law 742 = .ok (.iadd, 1) := by decide +kernel
theorem dL_law_743 : decode cL_law 743 = .ok (.iaload, 1) := by decide +kernel
theorem dL_law_744 : decode cL_law 744 = .ok (.invokevirtual 84, 3) := by decide +kernel
theorem dL_law_747 : decode cL_law 747 = .ok (.aload_n 2, 1) := by decide +kernel
theorem dL_law_748 : decode cL_law 748 = .ok (.aload_n 0, 1) := by decide +kernel
theorem dL_law_749 : decode cL_law 749 = .ok (.iload_n 3, 1) := by decide +kernel
theorem dL_law_750 : decode cL_law 750 = .ok (.iconst 1, 1) := by decide +kernel
theorem dL_law_751 : decode cL_law 751 = .ok (.iadd, 1) := by decide +kernel
theorem dL_law_752 : decode cL_law 752 = .ok (.iaload, 1) := by decide +kernel
theorem dL_law_753 : decode cL_law 753 = .ok (.invokevirtual 87, 3) := by decide +kernel
theorem dL_law_756 : decode cL_law 756 = .ok (.if_icmp .eq 393, 3) := by decide +kernel
theorem dL_law_759 : decode cL_law 759 = .ok (.iconst 0, 1) := by decide +kernel
theorem dL_law_760 : decode cL_law 760 = .ok (.ireturn, 1) := by decide +kernel
theorem dL_law_761 : decode cL_law 761 = .ok (.aload_n 1, 1) := by decide +kernel
theorem dL_law_762 : decode cL_law 762 = .ok (.aload_n 0, 1) := by decide +kernel
theorem dL_law_763 : decode cL_law 763 = .ok (.iload_n 3, 1) := by decide +kernel
theorem dL_law_764 : decode cL_law 764 = .ok (.iconst 1, 1) := by decide +kernel
theorem dL_law_765 : decode cL_law 765 = .ok (.iadd, 1) := by decide +kernel
theorem dL_law_766 : decode cL_law 766 = .ok (.iaload, 1) := by decide +kernel
theorem dL_law_767 : decode cL_law 767 = .ok (.aload_n 0, 1) := by decide +kernel
theorem dL_law_768 : decode cL_law 768 = .ok (.iload_n 3, 1) := by decide +kernel
theorem dL_law_769 : decode cL_law 769 = .ok (.iconst 2, 1) := by decide +kernel
theorem dL_law_770 : decode cL_law 770 = .ok (.iadd, 1) := by decide +kernel
theorem dL_law_771 : decode cL_law 771 = .ok (.iaload, 1) := by decide +kernel
theorem dL_law_772 : decode cL_law 772 = .ok (.aload_n 0, 1) := by decide +kernel
theorem dL_law_773 : decode cL_law 773 = .ok (.iload_n 3, 1) := by decide +kernel
theorem dL_law_774 : decode cL_law 774 = .ok (.iconst 3, 1) := by decide +kernel
theorem dL_law_775 : decode cL_law 775 = .ok (.iadd, 1) := by decide +kernel
theorem dL_law_776 : decode cL_law 776 = .ok (.iaload, 1) := by decide +kernel
theorem dL_law_777 : decode cL_law 777 = .ok (.invokevirtual 88, 3) := by decide +kernel
theorem dL_law_780 : decode cL_law 780 = .ok (.aload_n 2, 1) := by decide +kernel
theorem dL_law_781 : decode cL_law 781 = .ok (.aload_n 0, 1) := by decide +kernel
theorem dL_law_782 : decode cL_law 782 = .ok (.iload_n 3, 1) := by decide +kernel
theorem dL_law_783 : decode cL_law 783 = .ok (.iconst 1, 1) := by decide +kernel
theorem dL_law_784 : decode cL_law 784 = .ok (.iadd, 1) := by decide +kernel
theorem dL_law_785 : decode cL_law 785 = .ok (.iaload, 1) := by decide +kernel
theorem dL_law_786 : decode cL_law 786 = .ok (.aload_n 0, 1) := by decide +kernel
theorem dL_law_787 : decode cL_law 787 = .ok (.iload_n 3, 1) := by decide +kernel
theorem dL_law_788 : decode cL_law 788 = .ok (.iconst 2, 1) := by decide +kernel
theorem dL_law_789 : decode cL_law 789 = .ok (.iadd, 1) := by decide +kernel
theorem dL_law_790 : decode cL_law 790 = .ok (.iaload, 1) := by decide +kernel
theorem dL_law_791 : decode cL_law 791 = .ok (.aload_n 0, 1) := by decide +kernel
theorem dL_law_792 : decode cL_law 792 = .ok (.iload_n 3, 1) := by decide +kernel
theorem dL_law_793 : decode cL_law 793 = .ok (.iconst 3, 1) := by decide +kernel
theorem dL_law_794 : decode cL_law 794 = .ok (.iadd, 1) := by decide +kernel
theorem dL_law_795 : decode cL_law 795 = .ok (.iaload, 1) := by decide +kernel
theorem dL_law_796 : decode cL_law 796 = .ok (.invokevirtual 92, 3) := by decide +kernel
theorem dL_law_799 : decode cL_law 799 = .ok (.lcmp, 1) := by decide +kernel
theorem dL_law_800 : decode cL_law 800 = .ok (.ifCond .eq 349, 3) := by decide +kernel
theorem dL_law_803 : decode cL_law 803 = .ok (.iconst 0, 1) := by decide +kernel
theorem dL_law_804 : decode cL_law 804 = .ok (.ireturn, 1) := by decide +kernel
theorem dL_law_805 : decode cL_law 805 = .ok (.aload_n 1, 1) := by decide +kernel
theorem dL_law_806 : decode cL_law 806 = .ok (.aload_n 0, 1) := by decide +kernel
theorem dL_law_807 : decode cL_law 807 = .ok (.iload_n 3, 1) := by decide +kernel
theorem dL_law_808 : decode cL_law 808 = .ok (.iconst 1, 1) := by decide +kernel
theorem dL_law_809 : decode cL_law 809 = .ok (.iadd, 1) := by decide +kernel
theorem dL_law_810 : decode cL_law 810 = .ok (.iaload, 1) := by decide +kernel
theorem dL_law_811 : decode cL_law 811 = .ok (.aload_n 0, 1) := by decide +kernel
theorem dL_law_812 : decode cL_law 812 = .ok (.iload_n 3, 1) := by decide +kernel
theorem dL_law_813 : decode cL_law 813 = .ok (.iconst 2, 1) := by decide +kernel
theorem dL_law_814 : decode cL_law 814 = .ok (.iadd, 1) := by decide +kernel
theorem dL_law_815 : decode cL_law 815 = .ok (.iaload, 1) := by decide +kernel
theorem dL_law_816 : decode cL_law 816 = .ok (.aload_n 0, 1) := by decide +kernel
theorem dL_law_817 : decode cL_law 817 = .ok (.iload_n 3, 1) := by decide +kernel
theorem dL_law_818 : decode cL_law 818 = .ok (.iconst 3, 1) := by decide +kernel
theorem dL_law_819 : decode cL_law 819 = .ok (.iadd, 1) := by decide +kernel
theorem dL_law_820 : decode cL_law 820 = .ok (.iaload, 1) := by decide +kernel
theorem dL_law_821 : decode cL_law 821 = .ok (.invokevirtual 93, 3) := by decide +kernel
theorem dL_law_824 : decode cL_law 824 = .ok (.aload_n 2, 1) := by decide +kernel
theorem dL_law_825 : decode cL_law 825 = .ok (.aload_n 0, 1) := by decide +kernel
theorem dL_law_826 : decode cL_law 826 = .ok (.iload_n 3, 1) := by decide +kernel
theorem dL_law_827 : decode cL_law 827 = .ok (.iconst 1, 1) := by decide +kernel
theorem dL_law_828 : decode cL_law 828 = .ok (.iadd, 1) := by decide +kernel
theorem dL_law_829 : decode cL_law 829 = .ok (.iaload, 1) := by decide +kernel
theorem dL_law_830 : decode cL_law 830 = .ok (.aload_n 0, 1) := by decide +kernel
theorem dL_law_831 : decode cL_law 831 = .ok (.iload_n 3, 1) := by decide +kernel
theorem dL_law_832 : decode cL_law 832 = .ok (.iconst 2, 1) := by decide +kernel
theorem dL_law_833 : decode cL_law 833 = .ok (.iadd, 1) := by decide +kernel
theorem dL_law_834 : decode cL_law 834 = .ok (.iaload, 1) := by decide +kernel
theorem dL_law_835 : decode cL_law 835 = .ok (.aload_n 0, 1) := by decide +kernel
theorem dL_law_836 : decode cL_law 836 = .ok (.iload_n 3, 1) := by decide +kernel
theorem dL_law_837 : decode cL_law 837 = .ok (.iconst 3, 1) := by decide +kernel
theorem dL_law_838 : decode cL_law 838 = .ok (.iadd, 1) := by decide +kernel
theorem dL_law_839 : decode cL_law 839 = .ok (.iaload, 1) := by decide +kernel
theorem dL_law_840 : decode cL_law 840 = .ok (.invokevirtual 96, 3) := by decide +kernel
theorem dL_law_843 : decode cL_law 843 = .ok (.if_icmp .eq 306, 3) := by decide +kernel
theorem dL_law_846 : decode cL_law 846 = .ok (.iconst 0, 1) := by decide +kernel
theorem dL_law_847 : decode cL_law 847 = .ok (.ireturn, 1) := by decide +kernel
theorem dL_law_848 : decode cL_law 848 = .ok (.aload_n 1, 1) := by decide +kernel
theorem dL_law_849 : decode cL_law 849 = .ok (.aload_n 0, 1) := by decide +kernel
theorem dL_law_850 : decode cL_law 850 = .ok (.iload_n 3, 1) := by decide +kernel
theorem dL_law_851 : decode cL_law 851 = .ok (.iconst 1, 1) := by decide +kernel
theorem dL_law_852 : decode cL_law 852 = .ok (.iadd, 1) := by decide +kernel
theorem dL_law_853 : decode cL_law 853 = .ok (.iaload, 1) := by decide +kernel
theorem dL_law_854 : decode cL_law 854 = .ok (.invokevirtual 97, 3) := by decide +kernel
theorem dL_law_857 : decode cL_law 857 = .ok (.aload_n 2, 1) := by decide +kernel
theorem dL_law_858 : decode cL_law 858 = .ok (.aload_n 0, 1) := by decide +kernel
theorem dL_law_859 : decode cL_law 859 = .ok (.iload_n 3, 1) := by decide +kernel
theorem dL_law_860 : decode cL_law 860 = .ok (.iconst 1, 1) := by decide +kernel
theorem dL_law_861 : decode cL_law 861 = .ok (.iadd, 1) := by decide +kernel
theorem dL_law_862 : decode cL_law 862 = .ok (.iaload, 1) := by decide +kernel
theorem dL_law_863 : decode cL_law 863 = .ok (.invokevirtual 100, 3) := by decide +kernel
theorem dL_law_866 : decode cL_law 866 = .ok (.if_icmp .eq 283, 3) := by decide +kernel
theorem dL_law_869 : decode cL_law 869 = .ok (.iconst 0, 1) := by decide +kernel
theorem dL_law_870 : decode cL_law 870 = .ok (.ireturn, 1) := by decide +kernel
theorem dL_law_871 : decode cL_law 871 = .ok (.aload_n 1, 1) := by decide +kernel
theorem dL_law_872 : decode cL_law 872 = .ok (.aload_n 0, 1) := by decide +kernel
theorem dL_law_873 : decode cL_law 873 = .ok (.iload_n 3, 1) := by decide +kernel
theorem dL_law_874 : decode cL_law 874 = .ok (.iconst 1, 1) := by decide +kernel
theorem dL_law_875 : decode cL_law 875 = .ok (.iadd, 1) := by decide +kernel
theorem dL_law_876 : decode cL_law 876 = .ok (.iaload, 1) := by decide +kernel
theorem dL_law_877 : decode cL_law 877 = .ok (.aload_n 0, 1) := by decide +kernel
theorem dL_law_878 : decode cL_law 878 = .ok (.iload_n 3, 1) := by decide +kernel
theorem dL_law_879 : decode cL_law 879 = .ok (.iconst 2, 1) := by decide +kernel
theorem dL_law_880 : decode cL_law 880 = .ok (.iadd, 1) := by decide +kernel
theorem dL_law_881 : decode cL_law 881 = .ok (.iaload, 1) := by decide +kernel
theorem dL_law_882 : decode cL_law 882 = .ok (.aload_n 0, 1) := by decide +kernel
theorem dL_law_883 : decode cL_law 883 = .ok (.iload_n 3, 1) := by decide +kernel
theorem dL_law_884 : decode cL_law 884 = .ok (.iconst 3, 1) := by decide +kernel
theorem dL_law_885 : decode cL_law 885 = .ok (.iadd, 1) := by decide +kernel
theorem dL_law_886 : decode cL_law 886 = .ok (.iaload, 1) := by decide +kernel
theorem dL_law_887 : decode cL_law 887 = .ok (.invokevirtual 101, 3) := by decide +kernel
theorem dL_law_890 : decode cL_law 890 = .ok (.aload_n 2, 1) := by decide +kernel
theorem dL_law_891 : decode cL_law 891 = .ok (.aload_n 0, 1) := by decide +kernel
theorem dL_law_892 : decode cL_law 892 = .ok (.iload_n 3, 1) := by decide +kernel
theorem dL_law_893 : decode cL_law 893 = .ok (.iconst 1, 1) := by decide +kernel
theorem dL_law_894 : decode cL_law 894 = .ok (.iadd, 1) := by decide +kernel
theorem dL_law_895 : decode cL_law 895 = .ok (.iaload, 1) := by decide +kernel
theorem dL_law_896 : decode cL_law 896 = .ok (.aload_n 0, 1) := by decide +kernel
theorem dL_law_897 : decode cL_law 897 = .ok (.iload_n 3, 1) := by decide +kernel
theorem dL_law_898 : decode cL_law 898 = .ok (.iconst 2, 1) := by decide +kernel
theorem dL_law_899 : decode cL_law 899 = .ok (.iadd, 1) := by decide +kernel
theorem dL_law_900 : decode cL_law 900 = .ok (.iaload, 1) := by decide +kernel
theorem dL_law_901 : decode cL_law 901 = .ok (.aload_n 0, 1) := by decide +kernel
theorem dL_law_902 : decode cL_law 902 = .ok (.iload_n 3, 1) := by decide +kernel
theorem dL_law_903 : decode cL_law 903 = .ok (.iconst 3, 1) := by decide +kernel
theorem dL_law_904 : decode cL_law 904 = .ok (.iadd, 1) := by decide +kernel
theorem dL_law_905 : decode cL_law 905 = .ok (.iaload, 1) := by decide +kernel
theorem dL_law_906 : decode cL_law 906 = .ok (.invokevirtual 104, 3) := by decide +kernel
theorem dL_law_909 : decode cL_law 909 = .ok (.if_icmp .eq 240, 3) := by decide +kernel
theorem dL_law_912 : decode cL_law 912 = .ok (.iconst 0, 1) := by decide +kernel
theorem dL_law_913 : decode cL_law 913 = .ok (.ireturn, 1) := by decide +kernel
theorem dL_law_914 : decode cL_law 914 = .ok (.aload_n 1, 1) := by decide +kernel
theorem dL_law_915 : decode cL_law 915 = .ok (.aload_n 0, 1) := by decide +kernel
theorem dL_law_916 : decode cL_law 916 = .ok (.iload_n 3, 1) := by decide +kernel
theorem dL_law_917 : decode cL_law 917 = .ok (.iconst 1, 1) := by decide +kernel
theorem dL_law_918 : decode cL_law 918 = .ok (.iadd, 1) := by decide +kernel
theorem dL_law_919 : decode cL_law 919 = .ok (.iaload, 1) := by decide +kernel
theorem dL_law_920 : decode cL_law 920 = .ok (.aload_n 0, 1) := by decide +kernel
theorem dL_law_921 : decode cL_law 921 = .ok (.iload_n 3, 1) := by decide +kernel
theorem dL_law_922 : decode cL_law 922 = .ok (.iconst 2, 1) := by decide +kernel
theorem dL_law_923 : decode cL_law 923 = .ok (.iadd, 1) := by decide +kernel
theorem dL_law_924 : decode cL_law 924 = .ok (.iaload, 1) := by decide +kernel
theorem dL_law_925 : decode cL_law 925 = .ok (.aload_n 0, 1) := by decide +kernel
theorem dL_law_926 : decode cL_law 926 = .ok (.iload_n 3, 1) := by decide +kernel
theorem dL_law_927 : decode cL_law 927 = .ok (.iconst 3, 1) := by decide +kernel
theorem dL_law_928 : decode cL_law 928 = .ok (.iadd, 1) := by decide +kernel
theorem dL_law_929 : decode cL_law 929 = .ok (.iaload, 1) := by decide +kernel
theorem dL_law_930 : decode cL_law 930 = .ok (.invokevirtual 105, 3) := by decide +kernel
theorem dL_law_933 : decode cL_law 933 = .ok (.aload_n 2, 1) := by decide +kernel
theorem dL_law_934 : decode cL_law 934 = .ok (.aload_n 0, 1) := by decide +kernel
theorem dL_law_935 : decode cL_law 935 = .ok (.iload_n 3, 1) := by decide +kernel
theorem dL_law_936 : decode cL_law 936 = .ok (.iconst 1, 1) := by decide +kernel
theorem dL_law_937 : decode cL_law 937 = .ok (.iadd, 1) := by decide +kernel
theorem dL_law_938 : decode cL_law 938 = .ok (.iaload, 1) := by decide +kernel
theorem dL_law_939 : decode cL_law 939 = .ok (.aload_n 0, 1) := by decide +kernel
theorem dL_law_940 : decode cL_law 940 = .ok (.iload_n 3, 1) := by decide +kernel
theorem dL_law_941 : decode cL_law 941 = .ok (.iconst 2, 1) := by decide +kernel
theorem dL_law_942 : decode cL_law 942 = .ok (.iadd, 1) := by decide +kernel
theorem dL_law_943 : decode cL_law 943 = .ok (.iaload, 1) := by decide +kernel
theorem dL_law_944 : decode cL_law 944 = .ok (.aload_n 0, 1) := by decide +kernel
theorem dL_law_945 : decode cL_law 945 = .ok (.iload_n 3, 1) := by decide +kernel
theorem dL_law_946 : decode cL_law 946 = .ok (.iconst 3, 1) := by decide +kernel
theorem dL_law_947 : decode cL_law 947 = .ok (.iadd, 1) := by decide +kernel
theorem dL_law_948 : decode cL_law 948 = .ok (.iaload, 1) := by decide +kernel
theorem dL_law_949 : decode cL_law 949 = .ok (.invokevirtual 108, 3) := by decide +kernel
theorem dL_law_952 : decode cL_law 952 = .ok (.lcmp, 1) := by decide +kernel
theorem dL_law_953 : decode cL_law 953 = .ok (.ifCond .eq 196, 3) := by decide +kernel
theorem dL_law_956 : decode cL_law 956 = .ok (.iconst 0, 1) := by decide +kernel
theorem dL_law_957 : decode cL_law 957 = .ok (.ireturn, 1) := by decide +kernel
theorem dL_law_958 : decode cL_law 958 = .ok (.aload_n 1, 1) := by decide +kernel
theorem dL_law_959 : decode cL_law 959 = .ok (.aload_n 0, 1) := by decide +kernel
theorem dL_law_960 : decode cL_law 960 = .ok (.iload_n 3, 1) := by decide +kernel
theorem dL_law_961 : decode cL_law 961 = .ok (.iconst 1, 1) := by decide +kernel
theorem dL_law_962 : decode cL_law 962 = .ok (.iadd, 1) := by decide +kernel
theorem dL_law_963 : decode cL_law 963 = .ok (.iaload, 1) := by decide +kernel
theorem dL_law_964 : decode cL_law 964 = .ok (.aload_n 0, 1) := by decide +kernel
theorem dL_law_965 : decode cL_law 965 = .ok (.iload_n 3, 1) := by decide +kernel
theorem dL_law_966 : decode cL_law 966 = .ok (.iconst 2, 1) := by decide +kernel
theorem dL_law_967 : decode cL_law 967 = .ok (.iadd, 1) := by decide +kernel
theorem dL_law_968 : decode cL_law 968 = .ok (.iaload, 1) := by decide +kernel
theorem dL_law_969 : decode cL_law 969 = .ok (.aload_n 0, 1) := by decide +kernel
theorem dL_law_970 : decode cL_law 970 = .ok (.iload_n 3, 1) := by decide +kernel
theorem dL_law_971 : decode cL_law 971 = .ok (.iconst 3, 1) := by decide +kernel
theorem dL_law_972 : decode cL_law 972 = .ok (.iadd, 1) := by decide +kernel
theorem dL_law_973 : decode cL_law 973 = .ok (.iaload, 1) := by decide +kernel
theorem dL_law_974 : decode cL_law 974 = .ok (.aload_n 0, 1) := by decide +kernel
theorem dL_law_975 : decode cL_law 975 = .ok (.iload_n 3, 1) := by decide +kernel
theorem dL_law_976 : decode cL_law 976 = .ok (.iconst 4, 1) := by decide +kernel
theorem dL_law_977 : decode cL_law 977 = .ok (.iadd, 1) := by decide +kernel
theorem dL_law_978 : decode cL_law 978 = .ok (.iaload, 1) := by decide +kernel
theorem dL_law_979 : decode cL_law 979 = .ok (.aload_n 0, 1) := by decide +kernel
theorem dL_law_980 : decode cL_law 980 = .ok (.iload_n 3, 1) := by decide +kernel
theorem dL_law_981 : decode cL_law 981 = .ok (.iconst 5, 1) := by decide +kernel
theorem dL_law_982 : decode cL_law 982 = .ok (.iadd, 1) := by decide +kernel
theorem dL_law_983 : decode cL_law 983 = .ok (.iaload, 1) := by decide +kernel
theorem dL_law_984 : decode cL_law 984 = .ok (.invokevirtual 109, 3) := by decide +kernel
theorem dL_law_987 : decode cL_law 987 = .ok (.aload_n 2, 1) := by decide +kernel
theorem dL_law_988 : decode cL_law 988 = .ok (.aload_n 0, 1) := by decide +kernel
theorem dL_law_989 : decode cL_law 989 = .ok (.iload_n 3, 1) := by decide +kernel
theorem dL_law_990 : decode cL_law 990 = .ok (.iconst 1, 1) := by decide +kernel
theorem dL_law_991 : decode cL_law 991 = .ok (.iadd, 1) := by decide +kernel
theorem dL_law_992 : decode cL_law 992 = .ok (.iaload, 1) := by decide +kernel
theorem dL_law_993 : decode cL_law 993 = .ok (.aload_n 0, 1) := by decide +kernel
theorem dL_law_994 : decode cL_law 994 = .ok (.iload_n 3, 1) := by decide +kernel
theorem dL_law_995 : decode cL_law 995 = .ok (.iconst 2, 1) := by decide +kernel
theorem dL_law_996 : decode cL_law 996 = .ok (.iadd, 1) := by decide +kernel
theorem dL_law_997 : decode cL_law 997 = .ok (.iaload, 1) := by decide +kernel
theorem dL_law_998 : decode cL_law 998 = .ok (.aload_n 0, 1) := by decide +kernel
theorem dL_law_999 : decode cL_law 999 = .ok (.iload_n 3, 1) := by decide +kernel
theorem dL_law_1000 : decode cL_law 1000 = .ok (.iconst 3, 1) := by decide +kernel
theorem dL_law_1001 : decode cL_law 1001 = .ok (.iadd, 1) := by decide +kernel
theorem dL_law_1002 : decode cL_law 1002 = .ok (.iaload, 1) := by decide +kernel
theorem dL_law_1003 : decode cL_law 1003 = .ok (.aload_n 0, 1) := by decide +kernel
theorem dL_law_1004 : decode cL_law 1004 = .ok (.iload_n 3, 1) := by decide +kernel
theorem dL_law_1005 : decode cL_law 1005 = .ok (.iconst 4, 1) := by decide +kernel
theorem dL_law_1006 : decode cL_law 1006 = .ok (.iadd, 1) := by decide +kernel
theorem dL_law_1007 : decode cL_law 1007 = .ok (.iaload, 1) := by decide +kernel
theorem dL_law_1008 : decode cL_law 1008 = .ok (.aload_n 0, 1) := by decide +kernel
theorem dL_law_1009 : decode cL_law 1009 = .ok (.iload_n 3, 1) := by decide +kernel
theorem dL_law_1010 : decode cL_law 1010 = .ok (.iconst 5, 1) := by decide +kernel
theorem dL_law_1011 : decode cL_law 1011 = .ok (.iadd, 1) := by decide +kernel
theorem dL_law_1012 : decode cL_law 1012 = .ok (.iaload, 1) := by decide +kernel
theorem dL_law_1013 : decode cL_law 1013 = .ok (.invokevirtual 112, 3) := by decide +kernel
theorem dL_law_1016 : decode cL_law 1016 = .ok (.if_icmp .eq 133, 3) := by decide +kernel
theorem dL_law_1019 : decode cL_law 1019 = .ok (.iconst 0, 1) := by decide +kernel
theorem dL_law_1020 : decode cL_law 1020 = .ok (.ireturn, 1) := by decide +kernel
theorem dL_law_1021 : decode cL_law 1021 = .ok (.aload_n 1, 1) := by decide +kernel
theorem dL_law_1022 : decode cL_law 1022 = .ok (.aload_n 0, 1) := by decide +kernel
theorem dL_law_1023 : decode cL_law 1023 = .ok (.iload_n 3, 1) := by decide +kernel
theorem dL_law_1024 : decode cL_law 1024 = .ok (.iconst 1, 1) := by decide +kernel
theorem dL_law_1025 : decode cL_law 1025 = .ok (.iadd, 1) := by decide +kernel
theorem dL_law_1026 : decode cL_law 1026 = .ok (.iaload, 1) := by decide +kernel
theorem dL_law_1027 : decode cL_law 1027 = .ok (.invokevirtual 113, 3) := by decide +kernel
theorem dL_law_1030 : decode cL_law 1030 = .ok (.aload_n 2, 1) := by decide +kernel
theorem dL_law_1031 : decode cL_law 1031 = .ok (.aload_n 0, 1) := by decide +kernel
theorem dL_law_1032 : decode cL_law 1032 = .ok (.iload_n 3, 1) := by decide +kernel
theorem dL_law_1033 : decode cL_law 1033 = .ok (.iconst 1, 1) := by decide +kernel
theorem dL_law_1034 : decode cL_law 1034 = .ok (.iadd, 1) := by decide +kernel
theorem dL_law_1035 : decode cL_law 1035 = .ok (.iaload, 1) := by decide +kernel
theorem dL_law_1036 : decode cL_law 1036 = .ok (.invokevirtual 116, 3) := by decide +kernel
theorem dL_law_1039 : decode cL_law 1039 = .ok (.if_icmp .eq 110, 3) := by decide +kernel
theorem dL_law_1042 : decode cL_law 1042 = .ok (.iconst 0, 1) := by decide +kernel
theorem dL_law_1043 : decode cL_law 1043 = .ok (.ireturn, 1) := by decide +kernel
theorem dL_law_1044 : decode cL_law 1044 = .ok (.aload_n 1, 1) := by decide +kernel
theorem dL_law_1045 : decode cL_law 1045 = .ok (.aload_n 0, 1) := by decide +kernel
theorem dL_law_1046 : decode cL_law 1046 = .ok (.iload_n 3, 1) := by decide +kernel
theorem dL_law_1047 : decode cL_law 1047 = .ok (.iconst 1, 1) := by decide +kernel
theorem dL_law_1048 : decode cL_law 1048 = .ok (.iadd, 1) := by decide +kernel
theorem dL_law_1049 : decode cL_law 1049 = .ok (.iaload, 1) := by decide +kernel
theorem dL_law_1050 : decode cL_law 1050 = .ok (.invokevirtual 117, 3) := by decide +kernel
theorem dL_law_1053 : decode cL_law 1053 = .ok (.aload_n 2, 1) := by decide +kernel
theorem dL_law_1054 : decode cL_law 1054 = .ok (.aload_n 0, 1) := by decide +kernel
theorem dL_law_1055 : decode cL_law 1055 = .ok (.iload_n 3, 1) := by decide +kernel
theorem dL_law_1056 : decode cL_law 1056 = .ok (.iconst 1, 1) := by decide +kernel
theorem dL_law_1057 : decode cL_law 1057 = .ok (.iadd, 1) := by decide +kernel
theorem dL_law_1058 : decode cL_law 1058 = .ok (.iaload, 1) := by decide +kernel
theorem dL_law_1059 : decode cL_law 1059 = .ok (.invokevirtual 120, 3) := by decide +kernel
theorem dL_law_1062 : decode cL_law 1062 = .ok (.if_icmp .eq 87, 3) := by decide +kernel
theorem dL_law_1065 : decode cL_law 1065 = .ok (.iconst 0, 1) := by decide +kernel
theorem dL_law_1066 : decode cL_law 1066 = .ok (.ireturn, 1) := by decide +kernel
theorem dL_law_1067 : decode cL_law 1067 = .ok (.aload_n 1, 1) := by decide +kernel
theorem dL_law_1068 : decode cL_law 1068 = .ok (.aload_n 0, 1) := by decide +kernel
theorem dL_law_1069 : decode cL_law 1069 = .ok (.iload_n 3, 1) := by decide +kernel
theorem dL_law_1070 : decode cL_law 1070 = .ok (.iconst 1, 1) := by decide +kernel
theorem dL_law_1071 : decode cL_law 1071 = .ok (.iadd, 1) := by decide +kernel
theorem dL_law_1072 : decode cL_law 1072 = .ok (.iaload, 1) := by decide +kernel
theorem dL_law_1073 : decode cL_law 1073 = .ok (.aload_n 0, 1) := by decide +kernel
theorem dL_law_1074 : decode cL_law 1074 = .ok (.iload_n 3, 1) := by decide +kernel
theorem dL_law_1075 : decode cL_law 1075 = .ok (.iconst 2, 1) := by decide +kernel
theorem dL_law_1076 : decode cL_law 1076 = .ok (.iadd, 1) := by decide +kernel
theorem dL_law_1077 : decode cL_law 1077 = .ok (.iaload, 1) := by decide +kernel
theorem dL_law_1078 : decode cL_law 1078 = .ok (.invokevirtual 121, 3) := by decide +kernel
theorem dL_law_1081 : decode cL_law 1081 = .ok (.aload_n 2, 1) := by decide +kernel
theorem dL_law_1082 : decode cL_law 1082 = .ok (.aload_n 0, 1) := by decide +kernel
theorem dL_law_1083 : decode cL_law 1083 = .ok (.iload_n 3, 1) := by decide +kernel
theorem dL_law_1084 : decode cL_law 1084 = .ok (.iconst 1, 1) := by decide +kernel
theorem dL_law_1085 : decode cL_law 1085 = .ok (.iadd, 1) := by decide +kernel
theorem dL_law_1086 : decode cL_law 1086 = .ok (.iaload, 1) := by decide +kernel
theorem dL_law_1087 : decode cL_law 1087 = .ok (.aload_n 0, 1) := by decide +kernel
theorem dL_law_1088 : decode cL_law 1088 = .ok (.iload_n 3, 1) := by decide +kernel
theorem dL_law_1089 : decode cL_law 1089 = .ok (.iconst 2, 1) := by decide +kernel
theorem dL_law_1090 : decode cL_law 1090 = .ok (.iadd, 1) := by decide +kernel
theorem dL_law_1091 : decode cL_law 1091 = .ok (.iaload, 1) := by decide +kernel
theorem dL_law_1092 : decode cL_law 1092 = .ok (.invokevirtual 124, 3) := by decide +kernel
theorem dL_law_1095 : decode cL_law 1095 = .ok (.if_icmp .eq 54, 3) := by decide +kernel
theorem dL_law_1098 : decode cL_law 1098 = .ok (.iconst 0, 1) := by decide +kernel
theorem dL_law_1099 : decode cL_law 1099 = .ok (.ireturn, 1) := by decide +kernel
theorem dL_law_1100 : decode cL_law 1100 = .ok (.aload_n 1, 1) := by decide +kernel
theorem dL_law_1101 : decode cL_law 1101 = .ok (.invokevirtual 125, 3) := by decide +kernel
theorem dL_law_1104 : decode cL_law 1104 = .ok (.aload_n 2, 1) := by decide +kernel
theorem dL_law_1105 : decode cL_law 1105 = .ok (.invokevirtual 128, 3) := by decide +kernel
theorem dL_law_1108 : decode cL_law 1108 = .ok (.if_icmp .eq 41, 3) := by decide +kernel
theorem dL_law_1111 : decode cL_law 1111 = .ok (.iconst 0, 1) := by decide +kernel
theorem dL_law_1112 : decode cL_law 1112 = .ok (.ireturn, 1) := by decide +kernel
theorem dL_law_1113 : decode cL_law 1113 = .ok (.aload_n 1, 1) := by decide +kernel
theorem dL_law_1114 : decode cL_law 1114 = .ok (.invokevirtual 129, 3) := by decide +kernel
theorem dL_law_1117 : decode cL_law 1117 = .ok (.aload_n 2, 1) := by decide +kernel
theorem dL_law_1118 : decode cL_law 1118 = .ok (.invokevirtual 132, 3) := by decide +kernel
theorem dL_law_1121 : decode cL_law 1121 = .ok (.if_icmp .eq 28, 3) := by decide +kernel
theorem dL_law_1124 : decode cL_law 1124 = .ok (.iconst 0, 1) := by decide +kernel
theorem dL_law_1125 : decode cL_law 1125 = .ok (.ireturn, 1) := by decide +kernel
theorem dL_law_1126 : decode cL_law 1126 = .ok (.aload_n 1, 1) := by decide +kernel
theorem dL_law_1127 : decode cL_law 1127 = .ok (.aload_n 0, 1) := by decide +kernel
theorem dL_law_1128 : decode cL_law 1128 = .ok (.iload_n 3, 1) := by decide +kernel
theorem dL_law_1129 : decode cL_law 1129 = .ok (.iconst 1, 1) := by decide +kernel
theorem dL_law_1130 : decode cL_law 1130 = .ok (.iadd, 1) := by decide +kernel
theorem dL_law_1131 : decode cL_law 1131 = .ok (.iaload, 1) := by decide +kernel
theorem dL_law_1132 : decode cL_law 1132 = .ok (.invokevirtual 133, 3) := by decide +kernel
theorem dL_law_1135 : decode cL_law 1135 = .ok (.aload_n 2, 1) := by decide +kernel
theorem dL_law_1136 : decode cL_law 1136 = .ok (.aload_n 0, 1) := by decide +kernel
theorem dL_law_1137 : decode cL_law 1137 = .ok (.iload_n 3, 1) := by decide +kernel
theorem dL_law_1138 : decode cL_law 1138 = .ok (.iconst 1, 1) := by decide +kernel
theorem dL_law_1139 : decode cL_law 1139 = .ok (.iadd, 1) := by decide +kernel
theorem dL_law_1140 : decode cL_law 1140 = .ok (.iaload, 1) := by decide +kernel
theorem dL_law_1141 : decode cL_law 1141 = .ok (.invokevirtual 136, 3) := by decide +kernel
theorem dL_law_1144 : decode cL_law 1144 = .ok (.if_icmp .eq 5, 3) := by decide +kernel
theorem dL_law_1147 : decode cL_law 1147 = .ok (.iconst 0, 1) := by decide +kernel
theorem dL_law_1148 : decode cL_law 1148 = .ok (.ireturn, 1) := by decide +kernel
theorem dL_law_1149 : decode cL_law 1149 = .ok (.iinc 3 6, 3) := by decide +kernel
theorem dL_law_1152 : decode cL_law 1152 = .ok (.goto (-1134), 3) := by decide +kernel
theorem dL_law_1155 : decode cL_law 1155 = .ok (.iconst 1, 1) := by decide +kernel
theorem dL_law_1156 : decode cL_law 1156 = .ok (.ireturn, 1) := by decide +kernel
end
section
/-! Sheets, and rows that are filled -/
theorem ami_mono {d : Nat} {y : MethodName} {cc : ByteArray} {nL : Nat} {ret : Option FieldType} {vs : List AV} {S : Mem} {post post' : Int → Mem → Prop} (hM : AMi d y cc nL ret vs S post) (h : ∀ z S', post z S' → post' z S') : AMi d y cc nL ret vs S post' := by
  intro l dC dI dA ad sz
  exact MetFree.mono (hM l dC dI dA ad sz) (fun _ _ q => q) (fun _ _ _ _ _ q => q) (fun a st o t _ q => ⟨⟨by obtain ⟨r, u, h1, ⟨h2, h3⟩, h4⟩ := q.1.1; exact ⟨r, u, h1, ⟨h2, h _ _ h3⟩, h4⟩, q.1.2⟩, q.2⟩)
theorem aml_mono {d : Nat} {y : MethodName} {cc : ByteArray} {nL : Nat} {ret : Option FieldType} {vs : List AV} {S : Mem} {post post' : Int → Mem → Prop} (hM : AMl d y cc nL ret vs S post) (h : ∀ z S', post z S' → post' z S') : AMl d y cc nL ret vs S post' := by
  intro l dC dI dA ad sz
  exact MetFree.mono (hM l dC dI dA ad sz) (fun _ _ q => q) (fun _ _ _ _ _ q => q) (fun a st o t _ q => ⟨⟨by obtain ⟨r, u, h1, ⟨h2, h3⟩, h4⟩ := q.1.1; exact ⟨r, u, h1, ⟨h2, h _ _ h3⟩, h4⟩, q.1.2⟩, q.2⟩)
theorem amv_mono {d : Nat} {y : MethodName} {cc : ByteArray} {nL : Nat} {vs : List AV} {S : Mem} {post post' : Mem → Prop} (hM : AMv d y cc nL vs S post) (h : ∀ S', post S' → post' S') : AMv d y cc nL vs S post' := by
  intro l dC dI dA ad sz
  exact MetFree.mono (hM l dC dI dA ad sz) (fun _ _ q => q) (fun _ _ _ _ _ q => q) (fun a st o t _ q => ⟨⟨by obtain ⟨u, h1, h3, h4⟩ := q.1.1; exact ⟨u, h1, h _ h3, h4⟩, q.1.2⟩, q.2⟩)
theorem k4 {k : Nat} (h : k < 4) : k = 0 ∨ k = 1 ∨ k = 2 ∨ k = 3 := by omega
theorem ss {k : Nat} (h : k < 4) : shk (2 + k) = .inl 3 := by rcases k4 h with rfl | rfl | rfl | rfl <;> rfl
theorem ss0 {k : Nat} (h : k < 4) : shf (2 + k) 0 = some (6 + k) := by rcases k4 h with rfl | rfl | rfl | rfl <;> rfl
theorem ss1 {k : Nat} (h : k < 4) : shf (2 + k) 1 = none := by rcases k4 h with rfl | rfl | rfl | rfl <;> rfl
theorem ss2 {k : Nat} (h : k < 4) : shf (2 + k) 2 = none := by rcases k4 h with rfl | rfl | rfl | rfl <;> rfl
theorem sc {k : Nat} (h : k < 4) : shk (6 + k) = .inr (0, 60) := by rcases k4 h with rfl | rfl | rfl | rfl <;> rfl
theorem se {k : Nat} (h : k < 4) : shf 1 k = some (2 + k) := by rcases k4 h with rfl | rfl | rfl | rfl <;> rfl
/-- a row gets one number all along -/
def fl2 (S : Mem) (c : Nat) (n v : Int) : Mem := fun c' i' => if c' = c ∧ 0 ≤ i' ∧ i' < n then v else S c' i'
theorem fl2_0 (S : Mem) (c : Nat) (v : Int) : fl2 S c 0 v = S := by
  funext c' i'
  unfold fl2
  rw [if_neg (by omega)]
theorem fl2_s (S : Mem) (c : Nat) (n v : Int) (hn : 0 ≤ n) : st2 (fl2 S c n v) c n v = fl2 S c (n + 1) v := by
  funext c' i'
  unfold fl2 st2
  by_cases h : c' = c ∧ i' = n
  · rw [if_pos h, if_pos (by omega)]
  · rw [if_neg h]
    show (if _ then _ else _) = (if _ then _ else _)
    by_cases h2 : c' = c ∧ 0 ≤ i' ∧ i' < n
    · rw [if_pos h2, if_pos (by omega)]
    · rw [if_neg h2, if_neg (by omega)]
theorem c_fill_loop {X : AMX} {c n : Nat} {v : Int} {S : Mem} {post : Mem → Prop} (hs : shk c = .inr (0, n)) (C : CX X 0 RJ7 cJ7_fill_53178 4) (hret : ∀ (pc : Nat) (L : List (Option AV)) (S' : Mem), decode cJ7_fill_53178 pc = .ok (.return_, 1) → post S' → AW X cJ7_fill_53178 4 pc L [] S') (hp : post (fl2 S c n v)) : ∀ (j i : Nat), i + j = n → AW X cJ7_fill_53178 4 5 [some (.inr (.inr c)), some (.inl v), some (.inl i), some (.inl n)] [] (fl2 S c i v) := by
  have hn := am_len hs
  intro j
  induction j with
  | zero =>
    intro i hi
    refine aw_ildn (n := 6) C dJ7_fill_53178_5 rfl rfl ?_
    refine aw_ildn (n := 7) C dJ7_fill_53178_6 rfl rfl ?_
    refine aw_icge (tgt := 20) (n := 10) C dJ7_fill_53178_7 rfl rfl (by omega) (by omega) (fun h_7 => ?_) (fun h_7 => ?_)
    · refine hret 20 _ _ dJ7_fill_53178_20 ?_
      obtain rfl : i = n := by omega
      exact hp
    · omega
  | succ j ih =>
    intro i hi
    refine aw_ildn (n := 6) C dJ7_fill_53178_5 rfl rfl ?_
    refine aw_ildn (n := 7) C dJ7_fill_53178_6 rfl rfl ?_
    refine aw_icge (tgt := 20) (n := 10) C dJ7_fill_53178_7 rfl rfl (by omega) (by omega) (fun h_7 => ?_) (fun h_7 => ?_)
    · omega
    · refine aw_aldn (n := 11) C dJ7_fill_53178_10 rfl rfl ?_
      refine aw_ildn (n := 12) C dJ7_fill_53178_11 rfl rfl ?_
      refine aw_ildn (n := 13) C dJ7_fill_53178_12 rfl rfl ?_
      refine aw_iast (n := 14) C dJ7_fill_53178_13 rfl hs (by omega) (by omega) ?_
      refine aw_iinc (n := 17) (L' := [_, _, _, _]) C dJ7_fill_53178_14 rfl rfl (by decide) rfl rfl ?_
      refine aw_goto (tgt := 5) C dJ7_fill_53178_17 rfl ?_
      rw [fl2_s _ _ _ _ (by omega)]
      exact ih (i + 1) (by omega)
theorem c_fill {c n : Nat} {v : Int} {S : Mem} (hs : shk c = .inr (0, n)) (hn : 0 < n) : AMv 0 yJ7_fill_53178 cJ7_fill_53178 4 [.inr (.inr c), .inl v] S (fun S' => S' = fl2 S c n v) := by
  refine amv_intro (L := [_, _, none, none]) (by decide) rfl (Nat.le_of_ble_eq_true rfl) (fun X C hret => ?_)
  refine aw_iconst (n := 1) C dJ7_fill_53178_0 rfl ?_
  refine aw_istn (n := 2) (L' := [_, _, _, _]) C dJ7_fill_53178_1 rfl (by decide) rfl rfl ?_
  refine aw_aldn (n := 3) C dJ7_fill_53178_2 rfl rfl ?_
  refine aw_alen (n := 4) C dJ7_fill_53178_3 rfl hs hn (by decide) rfl ?_
  refine aw_istn (n := 5) (L' := [_, _, _, _]) C dJ7_fill_53178_4 rfl (by decide) rfl rfl ?_
  have := c_fill_loop (S := S) (v := v) hs C hret rfl n 0 (by omega)
  rw [show ((0 : Nat) : Int) = 0 from rfl, fl2_0] at this
  exact this
theorem c_hasNothing {k : Nat} {S : Mem} (hk : k < 4) (h1 : rng (S (2 + k) 1)) : AMi 0 yX3_hasNothing cX3_hasNothing 1 (some .boolean) [.inr (.inr (2 + k))] S (fun z S' => z = (if S (2 + k) 1 = -1 then 1 else 0) ∧ S' = S) := by
  refine ami_intro (L := [_]) (by decide) (Or.inr rfl) rfl (Nat.le_of_ble_eq_true rfl) (fun X C hret => ?_)
  refine aw_aldn (n := 1) C dX3_hasNothing_0 rfl rfl ?_
  refine aw_getI (z := 1) (n := 4) C dX3_hasNothing_1 rfl fl_X3_15 (ss hk) (ss1 hk) rfl ?_
  refine aw_iconst (n := 5) C dX3_hasNothing_4 rfl ?_
  refine aw_icne (tgt := 12) (n := 8) C dX3_hasNothing_5 rfl rfl (by omega) (by omega) (fun h_5 => ?_) (fun h_5 => ?_)
  · refine aw_iconst (n := 13) C dX3_hasNothing_12 rfl ?_
    refine hret 13 _ _ _ dX3_hasNothing_13 (Or.inr ⟨rfl, by omega⟩) ?_
    exact ⟨by omega, rfl⟩
  · refine aw_iconst (n := 9) C dX3_hasNothing_8 rfl ?_
    refine aw_goto (tgt := 13) C dX3_hasNothing_9 rfl ?_
    refine hret 13 _ _ _ dX3_hasNothing_13 (Or.inr ⟨rfl, by omega⟩) ?_
    exact ⟨by omega, rfl⟩
theorem c_noCell {k : Nat} {S : Mem} {i : Int} (hk : k < 4) (hi : rng i) (h1 : rng (S (2 + k) 2)) : AMi 0 yX3_noCell cX3_noCell 2 (some .boolean) [.inr (.inr (2 + k)), .inl i] S (fun z S' => z = (if i < 0 ∨ S (2 + k) 2 ≤ i then 1 else 0) ∧ S' = S) := by
  refine ami_intro (L := [_, _]) (by decide) (Or.inr rfl) rfl (Nat.le_of_ble_eq_true rfl) (fun X C hret => ?_)
  refine aw_ildn (n := 1) C dX3_noCell_0 rfl rfl ?_
  refine aw_iflt (tgt := 12) (n := 4) C dX3_noCell_1 rfl rfl (by omega) (fun h_1 => ?_) (fun h_1 => ?_)
  · refine aw_iconst (n := 13) C dX3_noCell_12 rfl ?_
    refine aw_goto (tgt := 17) C dX3_noCell_13 rfl ?_
    refine hret 17 _ _ _ dX3_noCell_17 (Or.inr ⟨rfl, by omega⟩) ?_
    exact ⟨by omega, rfl⟩
  · refine aw_ildn (n := 5) C dX3_noCell_4 rfl rfl ?_
    refine aw_aldn (n := 6) C dX3_noCell_5 rfl rfl ?_
    refine aw_getI (z := 2) (n := 9) C dX3_noCell_6 rfl fl_X3_19 (ss hk) (ss2 hk) rfl ?_
    refine aw_iclt (tgt := 16) (n := 12) C dX3_noCell_9 rfl rfl (by omega) (by omega) (fun h_9 => ?_) (fun h_9 => ?_)
    · refine aw_iconst (n := 17) C dX3_noCell_16 rfl ?_
      refine hret 17 _ _ _ dX3_noCell_17 (Or.inr ⟨rfl, by omega⟩) ?_
      exact ⟨by omega, rfl⟩
    · refine aw_iconst (n := 13) C dX3_noCell_12 rfl ?_
      refine aw_goto (tgt := 17) C dX3_noCell_13 rfl ?_
      refine hret 17 _ _ _ dX3_noCell_17 (Or.inr ⟨rfl, by omega⟩) ?_
      exact ⟨by omega, rfl⟩
theorem c_lacksCells {k : Nat} {S : Mem} {i n : Int} (hk : k < 4) (hi : rng i) (hn : rng n) (h1 : 0 ≤ S (2 + k) 2 ∧ S (2 + k) 2 ≤ 60) : AMi 0 yX3_lacksCells cX3_lacksCells 3 (some .boolean) [.inr (.inr (2 + k)), .inl i, .inl n] S (fun z S' => z = (if i < 0 ∨ S (2 + k) 2 < i ∨ S (2 + k) 2 - i < n then 1 else 0) ∧ S' = S) := by
  refine ami_intro (L := [_, _, _]) (by decide) (Or.inr rfl) rfl (Nat.le_of_ble_eq_true rfl) (fun X C hret => ?_)
  refine aw_ildn (n := 1) C dX3_lacksCells_0 rfl rfl ?_
  refine aw_iflt (tgt := 22) (n := 4) C dX3_lacksCells_1 rfl rfl (by omega) (fun h_1 => ?_) (fun h_1 => ?_)
  · refine aw_iconst (n := 23) C dX3_lacksCells_22 rfl ?_
    refine aw_goto (tgt := 27) C dX3_lacksCells_23 rfl ?_
    refine hret 27 _ _ _ dX3_lacksCells_27 (Or.inr ⟨rfl, by omega⟩) ?_
    exact ⟨by omega, rfl⟩
  · refine aw_ildn (n := 5) C dX3_lacksCells_4 rfl rfl ?_
    refine aw_aldn (n := 6) C dX3_lacksCells_5 rfl rfl ?_
    refine aw_getI (z := 2) (n := 9) C dX3_lacksCells_6 rfl fl_X3_19 (ss hk) (ss2 hk) rfl ?_
    refine aw_icgt (tgt := 22) (n := 12) C dX3_lacksCells_9 rfl rfl (by omega) (by omega) (fun h_9 => ?_) (fun h_9 => ?_)
    · refine aw_iconst (n := 23) C dX3_lacksCells_22 rfl ?_
      refine aw_goto (tgt := 27) C dX3_lacksCells_23 rfl ?_
      refine hret 27 _ _ _ dX3_lacksCells_27 (Or.inr ⟨rfl, by omega⟩) ?_
      exact ⟨by omega, rfl⟩
    · refine aw_ildn (n := 13) C dX3_lacksCells_12 rfl rfl ?_
      refine aw_aldn (n := 14) C dX3_lacksCells_13 rfl rfl ?_
      refine aw_getI (z := 2) (n := 17) C dX3_lacksCells_14 rfl fl_X3_19 (ss hk) (ss2 hk) rfl ?_
      refine aw_ildn (n := 18) C dX3_lacksCells_17 rfl rfl ?_
      refine aw_isub (n := 19) C dX3_lacksCells_18 rfl ?_
      refine aw_icle (tgt := 26) (n := 22) C dX3_lacksCells_19 rfl rfl (by omega) (by omega) (fun h_19 => ?_) (fun h_19 => ?_)
      · refine aw_iconst (n := 27) C dX3_lacksCells_26 rfl ?_
        refine hret 27 _ _ _ dX3_lacksCells_27 (Or.inr ⟨rfl, by omega⟩) ?_
        exact ⟨by omega, rfl⟩
      · refine aw_iconst (n := 23) C dX3_lacksCells_22 rfl ?_
        refine aw_goto (tgt := 27) C dX3_lacksCells_23 rfl ?_
        refine hret 27 _ _ _ dX3_lacksCells_27 (Or.inr ⟨rfl, by omega⟩) ?_
        exact ⟨by omega, rfl⟩
theorem c_faultOfRow {k : Nat} {S : Mem} {t : Int} (hk : k < 4) (ht : rng t) (h1 : rng (S (2 + k) 1)) : AMi 1 yX3_faultOfRow cX3_faultOfRow 2 (some .int) [.inr (.inr (2 + k)), .inl t] S (fun z S' => z = (if S (2 + k) 1 = -1 then 1 else if S (2 + k) 1 = t then 0 else 2) ∧ S' = S) := by
  refine ami_intro (L := [_, _]) (by decide) (Or.inl rfl) rfl (Nat.le_of_ble_eq_true rfl) (fun X C hret => ?_)
  refine aw_aldn (n := 1) C dX3_faultOfRow_0 rfl rfl ?_
  refine aw_cVi (n := 4) (vs := []) C dX3_faultOfRow_1 rfl rfl rfl mm_X3_hasNothing wM_X3_28 (ss hk) rfl (Nat.le_of_ble_eq_true rfl) (c_hasNothing hk h1) (by decide) (fun z_1 S_1 q_1 => ?_)
  rw [q_1.1, q_1.2]
  clear q_1 S_1 z_1
  refine aw_ifeq (tgt := 9) (n := 7) C dX3_faultOfRow_4 rfl rfl (by split <;> omega) (fun h_4 => ?_) (fun h_4 => ?_)
  · refine aw_aldn (n := 10) C dX3_faultOfRow_9 rfl rfl ?_
    refine aw_getI (z := 1) (n := 13) C dX3_faultOfRow_10 rfl fl_X3_15 (ss hk) (ss1 hk) rfl ?_
    refine aw_ildn (n := 14) C dX3_faultOfRow_13 rfl rfl ?_
    refine aw_icne (tgt := 21) (n := 17) C dX3_faultOfRow_14 rfl rfl (by omega) (by omega) (fun h_14 => ?_) (fun h_14 => ?_)
    · refine aw_iconst (n := 22) C dX3_faultOfRow_21 rfl ?_
      refine hret 22 _ _ _ dX3_faultOfRow_22 (Or.inl rfl) ?_
      exact ⟨by omega, rfl⟩
    · refine aw_iconst (n := 18) C dX3_faultOfRow_17 rfl ?_
      refine aw_goto (tgt := 22) C dX3_faultOfRow_18 rfl ?_
      refine hret 22 _ _ _ dX3_faultOfRow_22 (Or.inl rfl) ?_
      exact ⟨by omega, rfl⟩
  · refine aw_iconst (n := 8) C dX3_faultOfRow_7 rfl ?_
    refine hret 8 _ _ _ dX3_faultOfRow_8 (Or.inl rfl) ?_
    exact ⟨by omega, rfl⟩
theorem c_faultOfCells {k : Nat} {S : Mem} {t i n : Int} (hk : k < 4) (ht : rng t) (hi : rng i) (hn : rng n) (h1 : rng (S (2 + k) 1)) (h2 : 0 ≤ S (2 + k) 2 ∧ S (2 + k) 2 ≤ 60) : AMi 2 yX3_faultOfCells cX3_faultOfCells 5 (some .int) [.inr (.inr (2 + k)), .inl t, .inl i, .inl n] S (fun z S' => z = (if S (2 + k) 1 = -1 then 1 else if S (2 + k) 1 = t then (if n < 0 then 4 else if i < 0 ∨ S (2 + k) 2 < i ∨ S (2 + k) 2 - i < n then 3 else 0) else 2) ∧ S' = S) := by
  refine ami_intro (L := [_, _, _, _, none]) (by decide) (Or.inl rfl) rfl (Nat.le_of_ble_eq_true rfl) (fun X C hret => ?_)
  refine aw_aldn (n := 1) C dX3_faultOfCells_0 rfl rfl ?_
  refine aw_ildn (n := 2) C dX3_faultOfCells_1 rfl rfl ?_
  refine aw_cVi (n := 5) (vs := [_]) C dX3_faultOfCells_2 rfl rfl rfl mm_X3_faultOfRow wM_X3_32 (ss hk) rfl (Nat.le_of_ble_eq_true rfl) (c_faultOfRow hk ht h1) (by decide) (fun z_2 S_2 q_2 => ?_)
  rw [q_2.1, q_2.2]
  clear q_2 S_2 z_2
  refine aw_istw (n := 7) (L' := [_, _, _, _, _]) C dX3_faultOfCells_5 rfl (by decide) rfl rfl ?_
  refine aw_ildw (n := 9) C dX3_faultOfCells_7 rfl rfl ?_
  refine aw_ifeq (tgt := 15) (n := 12) C dX3_faultOfCells_9 rfl rfl (by omega) (fun h_9 => ?_) (fun h_9 => ?_)
  · refine aw_ildn (n := 16) C dX3_faultOfCells_15 rfl rfl ?_
    refine aw_ifge (tgt := 21) (n := 19) C dX3_faultOfCells_16 rfl rfl (by omega) (fun h_16 => ?_) (fun h_16 => ?_)
    · refine aw_aldn (n := 22) C dX3_faultOfCells_21 rfl rfl ?_
      refine aw_ildn (n := 23) C dX3_faultOfCells_22 rfl rfl ?_
      refine aw_ildn (n := 24) C dX3_faultOfCells_23 rfl rfl ?_
      refine aw_cVi (n := 27) (vs := [_, _]) C dX3_faultOfCells_24 rfl rfl rfl mm_X3_lacksCells wM_X3_36 (ss hk) rfl (Nat.le_of_ble_eq_true rfl) (c_lacksCells hk hi hn h2) (by decide) (fun z_24 S_24 q_24 => ?_)
      rw [q_24.1, q_24.2]
      clear q_24 S_24 z_24
      refine aw_ifeq (tgt := 34) (n := 30) C dX3_faultOfCells_27 rfl rfl (by omega) (fun h_27 => ?_) (fun h_27 => ?_)
      · refine aw_iconst (n := 35) C dX3_faultOfCells_34 rfl ?_
        refine hret 35 _ _ _ dX3_faultOfCells_35 (Or.inl rfl) ?_
        exact ⟨by omega, rfl⟩
      · refine aw_iconst (n := 31) C dX3_faultOfCells_30 rfl ?_
        refine aw_goto (tgt := 35) C dX3_faultOfCells_31 rfl ?_
        refine hret 35 _ _ _ dX3_faultOfCells_35 (Or.inl rfl) ?_
        exact ⟨by omega, rfl⟩
    · refine aw_iconst (n := 20) C dX3_faultOfCells_19 rfl ?_
      refine hret 20 _ _ _ dX3_faultOfCells_20 (Or.inl rfl) ?_
      exact ⟨by omega, rfl⟩
  · refine aw_ildw (n := 14) C dX3_faultOfCells_12 rfl rfl ?_
    refine hret 14 _ _ _ dX3_faultOfCells_14 (Or.inl rfl) ?_
    exact ⟨by omega, rfl⟩
theorem c_renew {k : Nat} {S : Mem} {t n : Int} (hk : k < 4) : AMv 1 yX3_renew cX3_renew 3 [.inr (.inr (2 + k)), .inl t, .inl n] S (fun S' => S' = fl2 (st2 (st2 S (2 + k) 1 t) (2 + k) 2 n) (6 + k) 60 0) := by
  refine amv_intro (L := [_, _, _]) (by decide) rfl (Nat.le_of_ble_eq_true rfl) (fun X C hret => ?_)
  refine aw_aldn (n := 1) C dX3_renew_0 rfl rfl ?_
  refine aw_ildn (n := 2) C dX3_renew_1 rfl rfl ?_
  refine aw_put (z := 1) (n := 5) C dX3_renew_2 rfl fp_X3_15 (ss hk) (ss1 hk) rfl (Or.inl rfl) ?_
  refine aw_aldn (n := 6) C dX3_renew_5 rfl rfl ?_
  refine aw_ildn (n := 7) C dX3_renew_6 rfl rfl ?_
  refine aw_put (z := 2) (n := 10) C dX3_renew_7 rfl fp_X3_19 (ss hk) (ss2 hk) rfl (Or.inl rfl) ?_
  refine aw_aldn (n := 11) C dX3_renew_10 rfl rfl ?_
  refine aw_getR (n := 14) C dX3_renew_11 rfl fl_X3_9 (ss hk) (ss0 hk) ?_
  refine aw_iconst (n := 15) C dX3_renew_14 rfl ?_
  refine aw_cSv (n := 18) (vs := [_, _]) C dX3_renew_15 rfl rfl rfl mm_J7_fill_53178 wM_X3_22 (Nat.le_of_ble_eq_true rfl) (c_fill (sc hk) (by decide)) (by decide) (fun S_15 q_15 => ?_)
  rw [q_15]
  clear q_15 S_15
  refine hret 18 _ _ dX3_renew_18 ?_
  rfl
/-- what is left of a number in a lane -/
def cutB (v : Int) : Int := (Int8.ofInt v).toInt
def cutS (v : Int) : Int := (Int16.ofInt v).toInt
theorem cutB_eq (v : Int) : (Int32.ofInt v).toInt8.toInt32 = Int32.ofInt (cutB v) := by
  rw [Int32.toInt8_ofInt]
  exact (Int32.toInt_inj.mp (by unfold cutB; rw [Int8.toInt_toInt32, am_ti]; have := Int8.le_toInt (Int8.ofInt v); have := Int8.toInt_lt (Int8.ofInt v); omega))
theorem cutS_eq (v : Int) : (Int32.ofInt v).toInt16.toInt32 = Int32.ofInt (cutS v) := by
  rw [Int32.toInt16_ofInt]
  exact (Int32.toInt_inj.mp (by unfold cutS; rw [Int16.toInt_toInt32, am_ti]; have := Int16.le_toInt (Int16.ofInt v); have := Int16.toInt_lt (Int16.ofInt v); omega))
theorem cutB_rng (v : Int) : rng (cutB v) := by unfold cutB; have := Int8.le_toInt (Int8.ofInt v); have := Int8.toInt_lt (Int8.ofInt v); omega
theorem cutS_rng (v : Int) : rng (cutS v) := by unfold cutS; have := Int16.le_toInt (Int16.ofInt v); have := Int16.toInt_lt (Int16.ofInt v); omega
theorem c_cut {k : Nat} {S : Mem} {v : Int} (hk : k < 4) (h1 : rng (S (2 + k) 1)) : AMi 0 yX3_cut cX3_cut 2 (some .int) [.inr (.inr (2 + k)), .inl v] S (fun z S' => z = (if S (2 + k) 1 = 0 then cutB v else if S (2 + k) 1 = 1 then cutS v else v) ∧ S' = S) := by
  refine ami_intro (L := [_, _]) (by decide) (Or.inl rfl) rfl (Nat.le_of_ble_eq_true rfl) (fun X C hret => ?_)
  refine aw_aldn (n := 1) C dX3_cut_0 rfl rfl ?_
  refine aw_getI (z := 1) (n := 4) C dX3_cut_1 rfl fl_X3_15 (ss hk) (ss1 hk) rfl ?_
  refine aw_ifne (tgt := 10) (n := 7) C dX3_cut_4 rfl rfl (by omega) (fun h_4 => ?_) (fun h_4 => ?_)
  · refine aw_aldn (n := 11) C dX3_cut_10 rfl rfl ?_
    refine aw_getI (z := 1) (n := 14) C dX3_cut_11 rfl fl_X3_15 (ss hk) (ss1 hk) rfl ?_
    refine aw_iconst (n := 15) C dX3_cut_14 rfl ?_
    refine aw_icne (tgt := 23) (n := 18) C dX3_cut_15 rfl rfl (by omega) (by omega) (fun h_15 => ?_) (fun h_15 => ?_)
    · refine aw_ildn (n := 24) C dX3_cut_23 rfl rfl ?_
      refine hret 24 _ _ _ dX3_cut_24 (Or.inl rfl) ?_
      exact ⟨by omega, rfl⟩
    · refine aw_ildn (n := 19) C dX3_cut_18 rfl rfl ?_
      refine aw_i2s (n := 20) C dX3_cut_19 rfl (cutS_eq v) ?_
      refine aw_goto (tgt := 24) C dX3_cut_20 rfl ?_
      refine hret 24 _ _ _ dX3_cut_24 (Or.inl rfl) ?_
      exact ⟨by omega, rfl⟩
  · refine aw_ildn (n := 8) C dX3_cut_7 rfl rfl ?_
    refine aw_i2b (n := 9) C dX3_cut_8 rfl (cutB_eq v) ?_
    refine hret 9 _ _ _ dX3_cut_9 (Or.inl rfl) ?_
    exact ⟨by omega, rfl⟩
end
section
/-! what the document asks, as plain functions: regrets, dues -/
abbrev Fn : Type := Int → Int
/-- nothing but the cells lo .. hi - 1 has changed -/
def fr (lo hi : Nat) (S S' : Mem) : Prop := ∀ c, c < lo ∨ hi ≤ c → S' c = S c
theorem fr_rf (lo hi : Nat) (S : Mem) : fr lo hi S S := fun _ _ => rfl
theorem fr_tr {lo hi : Nat} {S S' S'' : Mem} (h : fr lo hi S S') (h2 : fr lo hi S' S'') : fr lo hi S S'' := fun c hc => (h2 c hc).trans (h c hc)
theorem fr_w {lo hi lo' hi' : Nat} {S S' : Mem} (h : fr lo hi S S') (h1 : lo' ≤ lo) (h2 : hi ≤ hi') : fr lo' hi' S S' := fun c hc => h c (by omega)
theorem fr_st (S : Mem) (c : Nat) (i v : Int) : fr c (c + 1) S (st2 S c i v) := fun c' hc => st2_o c' (by omega)
theorem st2_s (S : Mem) (c : Nat) (i v : Int) : st2 S c i v c i = v := if_pos ⟨rfl, rfl⟩
theorem st2_n {S : Mem} {c : Nat} {i v i' : Int} (h : i' ≠ i) : st2 S c i v c i' = S c i' := if_neg (fun q => h q.2)
theorem st2_c {S : Mem} {c c' : Nat} {i v i' : Int} (h : c' ≠ c) : st2 S c i v c' i' = S c' i' := if_neg (fun q => h q.1)
/-- how a regret changes in a mile -/
def chg (k f t : Int) : Int := if t = 0 then (if k = 1 ∧ 0 < f then 1 - f else -f) else if k = 2 then 10 else 5
def bnd (v : Int) : Int := if v < 0 then 0 else if 99 < v then 99 else v
theorem bnd_r (v : Int) : 0 ≤ bnd v ∧ bnd v ≤ 99 := by unfold bnd; omega
/-- one passenger behind a mile, ahead of talk -/
def beh (kd fd : Fn) (t : Int) (r : Fn) (p : Int) : Int := bnd (r p + chg (kd p) (fd p) t)
/-- all behind a mile: the tunnel t, who talk a and b -/
def stp (kd fd : Fn) (t a b : Int) (r : Fn) (p : Int) : Int := if a ≠ -9 ∧ (p = a ∨ p = b) then (beh kd fd t r a + beh kd fd t r b) / 2 else beh kd fd t r p
theorem stp_r (kd fd : Fn) (t a b : Int) (r : Fn) (p : Int) : 0 ≤ stp kd fd t a b r p ∧ stp kd fd t a b r p ≤ 99 := by
  unfold stp
  have h1 := bnd_r (r a + chg (kd a) (fd a) t)
  have h2 := bnd_r (r b + chg (kd b) (fd b) t)
  have h3 := bnd_r (r p + chg (kd p) (fd p) t)
  unfold beh
  split <;> omega
/-- regrets ahead of a mile -/
def rg (kd fd bg tu tA tB : Fn) : Nat → Fn
  | 0 => bg
  | m + 1 => stp kd fd (tu (m : Int)) (tA (m : Int)) (tB (m : Int)) (rg kd fd bg tu tA tB m)
/-- who may talk -/
def tok (pe a b : Int) : Prop := (a = -9 ∧ b = -9) ∨ (0 ≤ a ∧ a < pe ∧ 0 ≤ b ∧ b < pe ∧ a ≠ b)
theorem beh_congr {kd fd kd' fd' r r' : Fn} {t p pe : Int} (h0 : 0 ≤ p) (h1 : p < pe) (hk : ∀ p, 0 ≤ p → p < pe → kd p = kd' p) (hf : ∀ p, 0 ≤ p → p < pe → fd p = fd' p) (hr : ∀ p, 0 ≤ p → p < pe → r p = r' p) : beh kd fd t r p = beh kd' fd' t r' p := by
  unfold beh
  rw [hk p h0 h1, hf p h0 h1, hr p h0 h1]
theorem stp_congr {kd fd kd' fd' r r' : Fn} {t a b p pe : Int} (ht : tok pe a b) (h0 : 0 ≤ p) (h1 : p < pe) (hk : ∀ p, 0 ≤ p → p < pe → kd p = kd' p) (hf : ∀ p, 0 ≤ p → p < pe → fd p = fd' p) (hr : ∀ p, 0 ≤ p → p < pe → r p = r' p) : stp kd fd t a b r p = stp kd' fd' t a b r' p := by
  unfold stp
  rw [beh_congr h0 h1 hk hf hr]
  by_cases h : a ≠ -9 ∧ (p = a ∨ p = b)
  · rw [if_pos h, if_pos h]
    rcases ht with ⟨e, -⟩ | ⟨a0, a1, b0, b1, -⟩
    · exact absurd e h.1
    · rw [beh_congr a0 a1 hk hf hr, beh_congr b0 b1 hk hf hr]
  · rw [if_neg h, if_neg h]
theorem rg_congr {kd fd bg tu tA tB kd' fd' bg' tu' tA' tB' : Fn} {mi pe : Int} (hk : ∀ p, 0 ≤ p → p < pe → kd p = kd' p) (hf : ∀ p, 0 ≤ p → p < pe → fd p = fd' p) (hb : ∀ p, 0 ≤ p → p < pe → bg p = bg' p) (hm : ∀ m, 0 ≤ m → m < mi → tu m = tu' m ∧ tA m = tA' m ∧ tB m = tB' m) (ht : ∀ m, 0 ≤ m → m < mi → tok pe (tA m) (tB m)) : ∀ (m : Nat), (m : Int) ≤ mi → ∀ p, 0 ≤ p → p < pe → rg kd fd bg tu tA tB m p = rg kd' fd' bg' tu' tA' tB' m p
  | 0, _, p, h0, h1 => hb p h0 h1
  | m + 1, h, p, h0, h1 => by
    obtain ⟨e1, e2, e3⟩ := hm m (by omega) (by omega)
    show stp kd fd (tu (m : Int)) (tA (m : Int)) (tB (m : Int)) _ p = stp kd' fd' (tu' (m : Int)) (tA' (m : Int)) (tB' (m : Int)) _ p
    rw [← e1, ← e2, ← e3]
    exact stp_congr (ht m (by omega) (by omega)) h0 h1 hk hf (rg_congr hk hf hb hm ht m (by omega))
theorem rg_r {kd fd bg tu tA tB : Fn} {pe : Int} (hb : ∀ p, 0 ≤ p → p < pe → 0 ≤ bg p ∧ bg p ≤ 59) : ∀ (m : Nat) (p : Int), 0 ≤ p → p < pe → 0 ≤ rg kd fd bg tu tA tB m p ∧ rg kd fd bg tu tA tB m p ≤ 99
  | 0, p, h0, h1 => by have := hb p h0 h1; show 0 ≤ bg p ∧ bg p ≤ 99; omega
  | m + 1, p, h0, h1 => stp_r _ _ _ _ _ _ p
/-- the class that one is due in -/
def due (l1 l2 r : Int) : Int := if r < l1 then 0 else if r < l2 then 1 else 2
theorem due_r (l1 l2 r : Int) : 0 ≤ due l1 l2 r ∧ due l1 l2 r ≤ 2 := by unfold due; omega
end
section
/-! Train: the line (10) and the guess (28) -/
theorem k9 {m : Nat} (h : m < 9) : m = 0 ∨ m = 1 ∨ m = 2 ∨ m = 3 ∨ m = 4 ∨ m = 5 ∨ m = 6 ∨ m = 7 ∨ m = 8 := by omega
/-- a train's numbers are within their bounds -/
def TW (b : Nat) (S : Mem) : Prop := (0 ≤ S b 8 ∧ S b 8 ≤ 8) ∧ (0 ≤ S b 9 ∧ S b 9 ≤ 4) ∧ (0 ≤ S b 10 ∧ S b 10 ≤ 99) ∧ (0 ≤ S b 11 ∧ S b 11 ≤ 99) ∧ (∀ m, 0 ≤ m → m < S b 8 → (S (b + 2) m = 0 ∨ S (b + 2) m = 1) ∧ tok (S b 9) (S (b + 3) m) (S (b + 4) m)) ∧ (∀ p, 0 ≤ p → p < S b 9 → (0 ≤ S (b + 5) p ∧ S (b + 5) p ≤ 2) ∧ (0 ≤ S (b + 6) p ∧ S (b + 6) p ≤ 59) ∧ (0 ≤ S (b + 7) p ∧ S (b + 7) p ≤ 9))
theorem tf10 {m : Nat} (h : m < 9) : shf 18 m = some (19 + m) := by rcases k9 h with rfl | rfl | rfl | rfl | rfl | rfl | rfl | rfl | rfl <;> rfl
theorem tk10 {m : Nat} (h : m < 9) : shk (19 + m) = .inr (0, 4) := by rcases k9 h with rfl | rfl | rfl | rfl | rfl | rfl | rfl | rfl | rfl <;> rfl
theorem TW10 {S : Mem} (h : TW 10 S) : (0 ≤ S 10 8 ∧ S 10 8 ≤ 8) ∧ (0 ≤ S 10 9 ∧ S 10 9 ≤ 4) ∧ (0 ≤ S 10 10 ∧ S 10 10 ≤ 99) ∧ (0 ≤ S 10 11 ∧ S 10 11 ≤ 99) ∧ (∀ m, 0 ≤ m → m < S 10 8 → (S 12 m = 0 ∨ S 12 m = 1) ∧ tok (S 10 9) (S 13 m) (S 14 m)) ∧ (∀ p, 0 ≤ p → p < S 10 9 → (0 ≤ S 15 p ∧ S 15 p ≤ 2) ∧ (0 ≤ S 16 p ∧ S 16 p ≤ 59) ∧ (0 ≤ S 17 p ∧ S 17 p ≤ 9)) := h
theorem TW10_fr {S S' : Mem} (h : TW 10 S) (hf : fr 19 28 S S') : TW 10 S' := by
  have e0 := hf 10 (by omega)
  have e2 := hf 12 (by omega)
  have e3 := hf 13 (by omega)
  have e4 := hf 14 (by omega)
  have e5 := hf 15 (by omega)
  have e6 := hf 16 (by omega)
  have e7 := hf 17 (by omega)
  unfold TW
  rw [e0, e2, e3, e4, e5, e6, e7]
  exact h
theorem c_classDue10 {S : Mem} {p : Int} {m : Nat} (hm : m < 9) (h0 : 0 ≤ p) (h1 : p < 4) (hr : rng (S (19 + m) p)) (hl1 : rng (S 10 10)) (hl2 : rng (S 10 11)) : AMi 0 yX5_classDue cX5_classDue 4 (some .int) [.inr (.inr 10), .inl p, .inl (m : Int)] S (fun z S' => z = due (S 10 10) (S 10 11) (S (19 + m) p) ∧ S' = S) := by
  refine ami_intro (L := [_, _, _, none]) (by decide) (Or.inl rfl) rfl (Nat.le_of_ble_eq_true rfl) (fun X C hret => ?_)
  refine aw_aldn (n := 1) C dX5_classDue_0 rfl rfl ?_
  refine aw_getR (n := 4) C dX5_classDue_1 rfl fl_X5_36 rfl rfl ?_
  refine aw_ildn (n := 5) C dX5_classDue_4 rfl rfl ?_
  refine aw_aald (j := m) (n := 6) C dX5_classDue_5 rfl rfl (by decide) rfl (by omega) (tf10 hm) ?_
  refine aw_ildn (n := 7) C dX5_classDue_6 rfl rfl ?_
  refine aw_iald (n := 8) C dX5_classDue_7 rfl (tk10 hm) (by omega) (by omega) ?_
  refine aw_istn (n := 9) (L' := [_, _, _, _]) C dX5_classDue_8 rfl (by decide) rfl rfl ?_
  refine aw_ildn (n := 10) C dX5_classDue_9 rfl rfl ?_
  refine aw_aldn (n := 11) C dX5_classDue_10 rfl rfl ?_
  refine aw_getI (z := 10) (n := 14) C dX5_classDue_11 rfl fl_X5_46 rfl rfl rfl ?_
  refine aw_icge (tgt := 19) (n := 17) C dX5_classDue_14 rfl rfl (by omega) (by omega) (fun h_14 => ?_) (fun h_14 => ?_)
  · refine aw_ildn (n := 20) C dX5_classDue_19 rfl rfl ?_
    refine aw_aldn (n := 21) C dX5_classDue_20 rfl rfl ?_
    refine aw_getI (z := 11) (n := 24) C dX5_classDue_21 rfl fl_X5_49 rfl rfl rfl ?_
    refine aw_icge (tgt := 31) (n := 27) C dX5_classDue_24 rfl rfl (by omega) (by omega) (fun h_24 => ?_) (fun h_24 => ?_)
    · refine aw_iconst (n := 32) C dX5_classDue_31 rfl ?_
      refine hret 32 _ _ _ dX5_classDue_32 (Or.inl rfl) ?_
      exact ⟨by unfold due; omega, rfl⟩
    · refine aw_iconst (n := 28) C dX5_classDue_27 rfl ?_
      refine aw_goto (tgt := 32) C dX5_classDue_28 rfl ?_
      refine hret 32 _ _ _ dX5_classDue_32 (Or.inl rfl) ?_
      exact ⟨by unfold due; omega, rfl⟩
  · refine aw_iconst (n := 18) C dX5_classDue_17 rfl ?_
    refine hret 18 _ _ _ dX5_classDue_18 (Or.inl rfl) ?_
    exact ⟨by unfold due; omega, rfl⟩
theorem c_regretAhead10 {S : Mem} {p : Int} {m : Nat} (hm : m < 9) (h0 : 0 ≤ p) (h1 : p < 4) : AMi 0 yX5_regretAhead cX5_regretAhead 3 (some .int) [.inr (.inr 10), .inl p, .inl (m : Int)] S (fun z S' => z = S (19 + m) p ∧ S' = S) := by
  refine ami_intro (L := [_, _, _]) (by decide) (Or.inl rfl) rfl (Nat.le_of_ble_eq_true rfl) (fun X C hret => ?_)
  refine aw_aldn (n := 1) C dX5_regretAhead_0 rfl rfl ?_
  refine aw_getR (n := 4) C dX5_regretAhead_1 rfl fl_X5_36 rfl rfl ?_
  refine aw_ildn (n := 5) C dX5_regretAhead_4 rfl rfl ?_
  refine aw_aald (j := m) (n := 6) C dX5_regretAhead_5 rfl rfl (by decide) rfl (by omega) (tf10 hm) ?_
  refine aw_ildn (n := 7) C dX5_regretAhead_6 rfl rfl ?_
  refine aw_iald (n := 8) C dX5_regretAhead_7 rfl (tk10 hm) (by omega) (by omega) ?_
  refine hret 8 _ _ _ dX5_regretAhead_8 (Or.inl rfl) ?_
  exact ⟨rfl, rfl⟩
theorem c_regretBehind10 {S : Mem} {p : Int} {m : Nat} (T : TW 10 S) (hm : (m : Int) < S 10 8) (h0 : 0 ≤ p) (h1 : p < S 10 9) (hr : 0 ≤ S (19 + m) p ∧ S (19 + m) p ≤ 99) : AMi 1 yX5_regretBehind cX5_regretBehind 5 (some .int) [.inr (.inr 10), .inl p, .inl (m : Int)] S (fun z S' => z = beh (S 15) (S 17) (S 12 m) (S (19 + m)) p ∧ S' = S) := by
  obtain ⟨t1, t2, -, -, t5, t6⟩ := TW10 T
  obtain ⟨a1, -⟩ := t5 m (by omega) hm
  obtain ⟨b1, -, b3⟩ := t6 p h0 h1
  have hm9 : m < 9 := by omega
  refine ami_intro (L := [_, _, _, none, none]) (by decide) (Or.inl rfl) rfl (Nat.le_of_ble_eq_true rfl) (fun X C hret => ?_)
  refine aw_aldn (n := 1) C dX5_regretBehind_0 rfl rfl ?_
  refine aw_getR (n := 4) C dX5_regretBehind_1 rfl fl_X5_36 rfl rfl ?_
  refine aw_ildn (n := 5) C dX5_regretBehind_4 rfl rfl ?_
  refine aw_aald (j := m) (n := 6) C dX5_regretBehind_5 rfl rfl (by decide) rfl (by omega) (tf10 hm9) ?_
  refine aw_ildn (n := 7) C dX5_regretBehind_6 rfl rfl ?_
  refine aw_iald (n := 8) C dX5_regretBehind_7 rfl (tk10 hm9) (by omega) (by omega) ?_
  refine aw_istn (n := 9) (L' := [_, _, _, _, _]) C dX5_regretBehind_8 rfl (by decide) rfl rfl ?_
  refine aw_aldn (n := 10) C dX5_regretBehind_9 rfl rfl ?_
  refine aw_getR (n := 13) C dX5_regretBehind_10 rfl fl_X5_15 rfl rfl ?_
  refine aw_ildn (n := 14) C dX5_regretBehind_13 rfl rfl ?_
  refine aw_zald (n := 15) C dX5_regretBehind_14 rfl rfl (by omega) (by omega) ?_
  refine aw_ifeq (tgt := 42) (n := 18) C dX5_regretBehind_15 rfl rfl (by omega) (fun h_15 => ?_) (fun h_15 => ?_)
  · refine aw_aldn (n := 43) C dX5_regretBehind_42 rfl rfl ?_
    refine aw_getR (n := 46) C dX5_regretBehind_43 rfl fl_X5_25 rfl rfl ?_
    refine aw_ildn (n := 47) C dX5_regretBehind_46 rfl rfl ?_
    refine aw_iald (n := 48) C dX5_regretBehind_47 rfl rfl (by omega) (by omega) ?_
    refine aw_iconst (n := 49) C dX5_regretBehind_48 rfl ?_
    refine aw_icne (tgt := 67) (n := 52) C dX5_regretBehind_49 rfl rfl (by omega) (by omega) (fun h_49 => ?_) (fun h_49 => ?_)
    · refine aw_aldn (n := 68) C dX5_regretBehind_67 rfl rfl ?_
      refine aw_getR (n := 71) C dX5_regretBehind_68 rfl fl_X5_31 rfl rfl ?_
      refine aw_ildn (n := 72) C dX5_regretBehind_71 rfl rfl ?_
      refine aw_iald (n := 73) C dX5_regretBehind_72 rfl rfl (by omega) (by omega) ?_
      refine aw_istw (n := 75) (L' := [_, _, _, _, _]) C dX5_regretBehind_73 rfl (by decide) rfl rfl ?_
      refine aw_iconst (n := 76) C dX5_regretBehind_75 rfl ?_
      refine aw_ildn (n := 77) C dX5_regretBehind_76 rfl rfl ?_
      refine aw_ildw (n := 79) C dX5_regretBehind_77 rfl rfl ?_
      refine aw_isub (n := 80) C dX5_regretBehind_79 rfl ?_
      refine aw_mmax (n := 83) C dX5_regretBehind_80 rfl wM_X5_86 wS_yJ9_max_7cf53 wI_J9 wC_yJ9_max_7cf53 (by decide) (Nat.le_of_ble_eq_true rfl) (by omega) (by omega) ?_
      refine hret 83 _ _ _ dX5_regretBehind_83 (Or.inl rfl) ?_
      exact ⟨by unfold beh bnd chg; omega, rfl⟩
    · refine aw_iconst (n := 53) C dX5_regretBehind_52 rfl ?_
      refine aw_aldn (n := 54) C dX5_regretBehind_53 rfl rfl ?_
      refine aw_getR (n := 57) C dX5_regretBehind_54 rfl fl_X5_31 rfl rfl ?_
      refine aw_ildn (n := 58) C dX5_regretBehind_57 rfl rfl ?_
      refine aw_iald (n := 59) C dX5_regretBehind_58 rfl rfl (by omega) (by omega) ?_
      refine aw_iconst (n := 60) C dX5_regretBehind_59 rfl ?_
      refine aw_isub (n := 61) C dX5_regretBehind_60 rfl ?_
      refine aw_mmax (n := 64) C dX5_regretBehind_61 rfl wM_X5_86 wS_yJ9_max_7cf53 wI_J9 wC_yJ9_max_7cf53 (by decide) (Nat.le_of_ble_eq_true rfl) (by omega) (by omega) ?_
      refine aw_goto (tgt := 73) C dX5_regretBehind_64 rfl ?_
      refine aw_istw (n := 75) (L' := [_, _, _, _, _]) C dX5_regretBehind_73 rfl (by decide) rfl rfl ?_
      refine aw_iconst (n := 76) C dX5_regretBehind_75 rfl ?_
      refine aw_ildn (n := 77) C dX5_regretBehind_76 rfl rfl ?_
      refine aw_ildw (n := 79) C dX5_regretBehind_77 rfl rfl ?_
      refine aw_isub (n := 80) C dX5_regretBehind_79 rfl ?_
      refine aw_mmax (n := 83) C dX5_regretBehind_80 rfl wM_X5_86 wS_yJ9_max_7cf53 wI_J9 wC_yJ9_max_7cf53 (by decide) (Nat.le_of_ble_eq_true rfl) (by omega) (by omega) ?_
      refine hret 83 _ _ _ dX5_regretBehind_83 (Or.inl rfl) ?_
      exact ⟨by unfold beh bnd chg; omega, rfl⟩
  · refine aw_bipush (n := 20) C dX5_regretBehind_18 rfl rfl ?_
    refine aw_ildn (n := 21) C dX5_regretBehind_20 rfl rfl ?_
    refine aw_aldn (n := 22) C dX5_regretBehind_21 rfl rfl ?_
    refine aw_getR (n := 25) C dX5_regretBehind_22 rfl fl_X5_25 rfl rfl ?_
    refine aw_ildn (n := 26) C dX5_regretBehind_25 rfl rfl ?_
    refine aw_iald (n := 27) C dX5_regretBehind_26 rfl rfl (by omega) (by omega) ?_
    refine aw_iconst (n := 28) C dX5_regretBehind_27 rfl ?_
    refine aw_icne (tgt := 36) (n := 31) C dX5_regretBehind_28 rfl rfl (by omega) (by omega) (fun h_28 => ?_) (fun h_28 => ?_)
    · refine aw_iconst (n := 37) C dX5_regretBehind_36 rfl ?_
      refine aw_iadd (n := 38) C dX5_regretBehind_37 rfl ?_
      refine aw_mmin (n := 41) C dX5_regretBehind_38 rfl wM_X5_81 wS_yJ9_min_7cf53 wI_J9 wC_yJ9_min_7cf53 (by decide) (Nat.le_of_ble_eq_true rfl) (by omega) (by omega) ?_
      refine hret 41 _ _ _ dX5_regretBehind_41 (Or.inl rfl) ?_
      exact ⟨by unfold beh bnd chg; omega, rfl⟩
    · refine aw_bipush (n := 33) C dX5_regretBehind_31 rfl rfl ?_
      refine aw_goto (tgt := 37) C dX5_regretBehind_33 rfl ?_
      refine aw_iadd (n := 38) C dX5_regretBehind_37 rfl ?_
      refine aw_mmin (n := 41) C dX5_regretBehind_38 rfl wM_X5_81 wS_yJ9_min_7cf53 wI_J9 wC_yJ9_min_7cf53 (by decide) (Nat.le_of_ble_eq_true rfl) (by omega) (by omega) ?_
      refine hret 41 _ _ _ dX5_regretBehind_41 (Or.inl rfl) ?_
      exact ⟨by unfold beh bnd chg; omega, rfl⟩
theorem c_rideThrough10_loop {X : AMX} {S : Mem} {m : Nat} {post : Mem → Prop} (T : TW 10 S) (hm : (m : Int) < S 10 8) (hr : ∀ p, 0 ≤ p → p < S 10 9 → 0 ≤ S (19 + m) p ∧ S (19 + m) p ≤ 99) (C : CX X 2 RX5 cX5_rideThrough 6) (hret : ∀ (pc : Nat) (L : List (Option AV)) (S' : Mem), decode cX5_rideThrough pc = .ok (.return_, 1) → post S' → AW X cX5_rideThrough 6 pc L [] S') (hp : ∀ S', fr (20 + m) (21 + m) S S' → (∀ p, 0 ≤ p → p < S 10 9 → S' (20 + m) p = stp (S 15) (S 17) (S 12 m) (S 13 m) (S 14 m) (S (19 + m)) p) → post S') : ∀ (j i : Nat) (S1 : Mem), (i : Int) + j = S 10 9 → fr (20 + m) (21 + m) S S1 → (∀ p : Int, 0 ≤ p → p < i → S1 (20 + m) p = beh (S 15) (S 17) (S 12 m) (S (19 + m)) p) → AW X cX5_rideThrough 6 11 [some (.inr (.inr 10)), some (.inl m), some (.inr (.inr (20 + m))), some (.inl i), none, none] [] S1 := by
  obtain ⟨t1, t2, -, -, t5, t6⟩ := TW10 T
  obtain ⟨a1, a2⟩ := t5 m (by omega) hm
  have hk : shk (20 + m) = .inr (0, 4) := by rw [show 20 + m = 19 + (m + 1) by omega]; exact tk10 (by omega)
  intro j
  induction j with
  | zero =>
    intro i S1 hi hf hv
    have e9 : S1 10 9 = S 10 9 := congrFun (hf 10 (by omega)) 9
    have ea : S1 13 m = S 13 m := congrFun (hf 13 (by omega)) m
    have eb : S1 14 m = S 14 m := congrFun (hf 14 (by omega)) m
    unfold tok at a2
    refine aw_ildn (n := 12) C dX5_rideThrough_11 rfl rfl ?_
    refine aw_aldn (n := 13) C dX5_rideThrough_12 rfl rfl ?_
    refine aw_getI (z := 9) (n := 16) C dX5_rideThrough_13 rfl fl_X5_43 rfl rfl rfl ?_
    refine aw_icge (tgt := 34) (n := 19) C dX5_rideThrough_16 rfl rfl (by omega) (by omega) (fun h_16 => ?_) (fun h_16 => ?_)
    · refine aw_aldn (n := 35) C dX5_rideThrough_34 rfl rfl ?_
      refine aw_getR (n := 38) C dX5_rideThrough_35 rfl fl_X5_19 rfl rfl ?_
      refine aw_ildn (n := 39) C dX5_rideThrough_38 rfl rfl ?_
      refine aw_iald (n := 40) C dX5_rideThrough_39 rfl rfl (by omega) (by omega) ?_
      rw [ea]
      refine aw_istn (n := 41) (L' := [_, _, _, _, _, _]) C dX5_rideThrough_40 rfl (by decide) rfl rfl ?_
      refine aw_aldn (n := 42) C dX5_rideThrough_41 rfl rfl ?_
      refine aw_getR (n := 45) C dX5_rideThrough_42 rfl fl_X5_22 rfl rfl ?_
      refine aw_ildn (n := 46) C dX5_rideThrough_45 rfl rfl ?_
      refine aw_iald (n := 47) C dX5_rideThrough_46 rfl rfl (by omega) (by omega) ?_
      rw [eb]
      refine aw_istw (n := 49) (L' := [_, _, _, _, _, _]) C dX5_rideThrough_47 rfl (by decide) rfl rfl ?_
      refine aw_ildn (n := 50) C dX5_rideThrough_49 rfl rfl ?_
      refine aw_bipush (n := 52) C dX5_rideThrough_50 rfl rfl ?_
      refine aw_iceq (tgt := 85) (n := 55) C dX5_rideThrough_52 rfl rfl (by omega) (by omega) (fun h_52 => ?_) (fun h_52 => ?_)
      · refine hret 85 _ _ dX5_rideThrough_85 (hp S1 hf (fun p p0 p1 => ?_))
        unfold stp
        rw [if_neg (by omega)]
        exact hv p p0 (by omega)
      · refine aw_ildw (n := 57) C dX5_rideThrough_55 rfl rfl ?_
        refine aw_bipush (n := 59) C dX5_rideThrough_57 rfl rfl ?_
        refine aw_iceq (tgt := 85) (n := 62) C dX5_rideThrough_59 rfl rfl (by omega) (by omega) (fun h_59 => ?_) (fun h_59 => ?_)
        · omega
        · refine aw_aldn (n := 63) C dX5_rideThrough_62 rfl rfl ?_
          refine aw_ildn (n := 64) C dX5_rideThrough_63 rfl rfl ?_
          refine aw_iald (n := 65) C dX5_rideThrough_64 rfl hk (by omega) (by omega) ?_
          refine aw_aldn (n := 66) C dX5_rideThrough_65 rfl rfl ?_
          refine aw_ildw (n := 68) C dX5_rideThrough_66 rfl rfl ?_
          refine aw_iald (n := 69) C dX5_rideThrough_68 rfl hk (by omega) (by omega) ?_
          refine aw_iadd (n := 70) C dX5_rideThrough_69 rfl ?_
          refine aw_iconst (n := 71) C dX5_rideThrough_70 rfl ?_
          refine aw_idiv (n := 72) C dX5_rideThrough_71 rfl (by have := hv (S 13 m) (by omega) (by omega); have := hv (S 14 m) (by omega) (by omega); have := bnd_r (S (19 + m) (S 13 m) + chg (S 15 (S 13 m)) (S 17 (S 13 m)) (S 12 m)); have := bnd_r (S (19 + m) (S 14 m) + chg (S 15 (S 14 m)) (S 17 (S 14 m)) (S 12 m)); unfold beh at *; omega) (by omega) ?_
          refine aw_istw (n := 74) (L' := [_, _, _, _, _, _]) C dX5_rideThrough_72 rfl (by decide) rfl rfl ?_
          refine aw_aldn (n := 75) C dX5_rideThrough_74 rfl rfl ?_
          refine aw_ildn (n := 76) C dX5_rideThrough_75 rfl rfl ?_
          refine aw_ildw (n := 78) C dX5_rideThrough_76 rfl rfl ?_
          refine aw_iast (n := 79) C dX5_rideThrough_78 rfl hk (by omega) (by omega) ?_
          refine aw_aldn (n := 80) C dX5_rideThrough_79 rfl rfl ?_
          refine aw_ildw (n := 82) C dX5_rideThrough_80 rfl rfl ?_
          refine aw_ildw (n := 84) C dX5_rideThrough_82 rfl rfl ?_
          refine aw_iast (n := 85) C dX5_rideThrough_84 rfl hk (by omega) (by omega) ?_
          refine hret 85 _ _ dX5_rideThrough_85 ?_
          refine hp _ (fr_tr (fr_tr hf (fr_w (fr_st _ _ _ _) (by omega) (by omega))) (fr_w (fr_st _ _ _ _) (by omega) (by omega))) (fun p p0 p1 => ?_)
          rw [hv (S 13 m) (by omega) (by omega), hv (S 14 m) (by omega) (by omega)]
          unfold stp
          by_cases h1 : p = S 14 m
          · rw [h1, st2_s, if_pos ⟨by omega, Or.inr rfl⟩]
          · rw [st2_n h1]
            by_cases h2 : p = S 13 m
            · rw [h2, st2_s, if_pos ⟨by omega, Or.inl rfl⟩]
            · rw [st2_n h2, if_neg (by omega)]
              exact hv p p0 (by omega)
    · omega
  | succ j ih =>
    intro i S1 hi hf hv
    have e9 : S1 10 9 = S 10 9 := congrFun (hf 10 (by omega)) 9
    have er : S1 (19 + m) = S (19 + m) := hf _ (by omega)
    have T1 : TW 10 S1 := TW10_fr T (fr_w hf (by omega) (by omega))
    refine aw_ildn (n := 12) C dX5_rideThrough_11 rfl rfl ?_
    refine aw_aldn (n := 13) C dX5_rideThrough_12 rfl rfl ?_
    refine aw_getI (z := 9) (n := 16) C dX5_rideThrough_13 rfl fl_X5_43 rfl rfl rfl ?_
    refine aw_icge (tgt := 34) (n := 19) C dX5_rideThrough_16 rfl rfl (by omega) (by omega) (fun h_16 => ?_) (fun h_16 => ?_)
    · omega
    · refine aw_aldn (n := 20) C dX5_rideThrough_19 rfl rfl ?_
      refine aw_ildn (n := 21) C dX5_rideThrough_20 rfl rfl ?_
      refine aw_aldn (n := 22) C dX5_rideThrough_21 rfl rfl ?_
      refine aw_ildn (n := 23) C dX5_rideThrough_22 rfl rfl ?_
      refine aw_ildn (n := 24) C dX5_rideThrough_23 rfl rfl ?_
      refine aw_cVi (n := 27) (vs := [_, _]) C dX5_rideThrough_24 rfl rfl rfl mm_X5_regretBehind wM_X5_77 rfl rfl (Nat.le_of_ble_eq_true rfl) (c_regretBehind10 T1 (by rw [hf 10 (by omega)]; exact hm) (by omega) (by omega) (by rw [er]; exact hr _ (by omega) (by omega))) (by decide) (fun z_24 S_24 q_24 => ?_)
      rw [q_24.1, q_24.2]
      clear q_24 S_24 z_24
      refine aw_iast (n := 28) C dX5_rideThrough_27 rfl hk (by omega) (by omega) ?_
      refine aw_iinc (n := 31) (L' := [_, _, _, _, _, _]) C dX5_rideThrough_28 rfl rfl (by decide) rfl rfl ?_
      refine aw_goto (tgt := 11) C dX5_rideThrough_31 rfl ?_
      refine ih (i + 1) _ (by omega) (fr_tr hf (fr_w (fr_st _ _ _ _) (by omega) (by omega))) (fun p p0 p1 => ?_)
      by_cases h : p = i
      · rw [h, st2_s, er, hf 15 (by omega), hf 17 (by omega), hf 12 (by omega)]
      · rw [st2_n h]
        exact hv p p0 (by omega)
theorem c_rideThrough10 {S : Mem} {m : Nat} (T : TW 10 S) (hm : (m : Int) < S 10 8) (hr : ∀ p, 0 ≤ p → p < S 10 9 → 0 ≤ S (19 + m) p ∧ S (19 + m) p ≤ 99) : AMv 2 yX5_rideThrough cX5_rideThrough 6 [.inr (.inr 10), .inl (m : Int)] S (fun S' => fr (20 + m) (21 + m) S S' ∧ ∀ p, 0 ≤ p → p < S 10 9 → S' (20 + m) p = stp (S 15) (S 17) (S 12 m) (S 13 m) (S 14 m) (S (19 + m)) p) := by
  obtain ⟨t1, t2, -, -, t5, t6⟩ := TW10 T
  refine amv_intro (L := [_, _, none, none, none, none]) (by decide) rfl (Nat.le_of_ble_eq_true rfl) (fun X C hret => ?_)
  refine aw_aldn (n := 1) C dX5_rideThrough_0 rfl rfl ?_
  refine aw_getR (n := 4) C dX5_rideThrough_1 rfl fl_X5_36 rfl rfl ?_
  refine aw_ildn (n := 5) C dX5_rideThrough_4 rfl rfl ?_
  refine aw_iconst (n := 6) C dX5_rideThrough_5 rfl ?_
  refine aw_iadd (n := 7) C dX5_rideThrough_6 rfl ?_
  refine aw_aald (j := (m + 1)) (n := 8) C dX5_rideThrough_7 rfl rfl (by decide) (by omega) (by omega) ((tf10 (by omega)).trans (by rw [show 19 + (m + 1) = 20 + m by omega])) ?_
  refine aw_astn (n := 9) (L' := [_, _, _, _, _, _]) C dX5_rideThrough_8 rfl (by decide) rfl rfl ?_
  refine aw_iconst (n := 10) C dX5_rideThrough_9 rfl ?_
  refine aw_istn (n := 11) (L' := [_, _, _, _, _, _]) C dX5_rideThrough_10 rfl (by decide) rfl rfl ?_
  exact c_rideThrough10_loop T hm hr C hret (fun S' h1 h2 => ⟨h1, h2⟩) (S 10 9).toNat 0 S (by omega) (fr_rf _ _ _) (fun p p0 p1 => by omega)
theorem tf28 {m : Nat} (h : m < 9) : shf 36 m = some (37 + m) := by rcases k9 h with rfl | rfl | rfl | rfl | rfl | rfl | rfl | rfl | rfl <;> rfl
theorem tk28 {m : Nat} (h : m < 9) : shk (37 + m) = .inr (0, 4) := by rcases k9 h with rfl | rfl | rfl | rfl | rfl | rfl | rfl | rfl | rfl <;> rfl
theorem TW28 {S : Mem} (h : TW 28 S) : (0 ≤ S 28 8 ∧ S 28 8 ≤ 8) ∧ (0 ≤ S 28 9 ∧ S 28 9 ≤ 4) ∧ (0 ≤ S 28 10 ∧ S 28 10 ≤ 99) ∧ (0 ≤ S 28 11 ∧ S 28 11 ≤ 99) ∧ (∀ m, 0 ≤ m → m < S 28 8 → (S 30 m = 0 ∨ S 30 m = 1) ∧ tok (S 28 9) (S 31 m) (S 32 m)) ∧ (∀ p, 0 ≤ p → p < S 28 9 → (0 ≤ S 33 p ∧ S 33 p ≤ 2) ∧ (0 ≤ S 34 p ∧ S 34 p ≤ 59) ∧ (0 ≤ S 35 p ∧ S 35 p ≤ 9)) := h
theorem TW28_fr {S S' : Mem} (h : TW 28 S) (hf : fr 37 46 S S') : TW 28 S' := by
  have e0 := hf 28 (by omega)
  have e2 := hf 30 (by omega)
  have e3 := hf 31 (by omega)
  have e4 := hf 32 (by omega)
  have e5 := hf 33 (by omega)
  have e6 := hf 34 (by omega)
  have e7 := hf 35 (by omega)
  unfold TW
  rw [e0, e2, e3, e4, e5, e6, e7]
  exact h
theorem c_classDue28 {S : Mem} {p : Int} {m : Nat} (hm : m < 9) (h0 : 0 ≤ p) (h1 : p < 4) (hr : rng (S (37 + m) p)) (hl1 : rng (S 28 10)) (hl2 : rng (S 28 11)) : AMi 0 yX5_classDue cX5_classDue 4 (some .int) [.inr (.inr 28), .inl p, .inl (m : Int)] S (fun z S' => z = due (S 28 10) (S 28 11) (S (37 + m) p) ∧ S' = S) := by
  refine ami_intro (L := [_, _, _, none]) (by decide) (Or.inl rfl) rfl (Nat.le_of_ble_eq_true rfl) (fun X C hret => ?_)
  refine aw_aldn (n := 1) C dX5_classDue_0 rfl rfl ?_
  refine aw_getR (n := 4) C dX5_classDue_1 rfl fl_X5_36 rfl rfl ?_
  refine aw_ildn (n := 5) C dX5_classDue_4 rfl rfl ?_
  refine aw_aald (j := m) (n := 6) C dX5_classDue_5 rfl rfl (by decide) rfl (by omega) (tf28 hm) ?_
  refine aw_ildn (n := 7) C dX5_classDue_6 rfl rfl ?_
  refine aw_iald (n := 8) C dX5_classDue_7 rfl (tk28 hm) (by omega) (by omega) ?_
  refine aw_istn (n := 9) (L' := [_, _, _, _]) C dX5_classDue_8 rfl (by decide) rfl rfl ?_
  refine aw_ildn (n := 10) C dX5_classDue_9 rfl rfl ?_
  refine aw_aldn (n := 11) C dX5_classDue_10 rfl rfl ?_
  refine aw_getI (z := 10) (n := 14) C dX5_classDue_11 rfl fl_X5_46 rfl rfl rfl ?_
  refine aw_icge (tgt := 19) (n := 17) C dX5_classDue_14 rfl rfl (by omega) (by omega) (fun h_14 => ?_) (fun h_14 => ?_)
  · refine aw_ildn (n := 20) C dX5_classDue_19 rfl rfl ?_
    refine aw_aldn (n := 21) C dX5_classDue_20 rfl rfl ?_
    refine aw_getI (z := 11) (n := 24) C dX5_classDue_21 rfl fl_X5_49 rfl rfl rfl ?_
    refine aw_icge (tgt := 31) (n := 27) C dX5_classDue_24 rfl rfl (by omega) (by omega) (fun h_24 => ?_) (fun h_24 => ?_)
    · refine aw_iconst (n := 32) C dX5_classDue_31 rfl ?_
      refine hret 32 _ _ _ dX5_classDue_32 (Or.inl rfl) ?_
      exact ⟨by unfold due; omega, rfl⟩
    · refine aw_iconst (n := 28) C dX5_classDue_27 rfl ?_
      refine aw_goto (tgt := 32) C dX5_classDue_28 rfl ?_
      refine hret 32 _ _ _ dX5_classDue_32 (Or.inl rfl) ?_
      exact ⟨by unfold due; omega, rfl⟩
  · refine aw_iconst (n := 18) C dX5_classDue_17 rfl ?_
    refine hret 18 _ _ _ dX5_classDue_18 (Or.inl rfl) ?_
    exact ⟨by unfold due; omega, rfl⟩
theorem c_regretAhead28 {S : Mem} {p : Int} {m : Nat} (hm : m < 9) (h0 : 0 ≤ p) (h1 : p < 4) : AMi 0 yX5_regretAhead cX5_regretAhead 3 (some .int) [.inr (.inr 28), .inl p, .inl (m : Int)] S (fun z S' => z = S (37 + m) p ∧ S' = S) := by
  refine ami_intro (L := [_, _, _]) (by decide) (Or.inl rfl) rfl (Nat.le_of_ble_eq_true rfl) (fun X C hret => ?_)
  refine aw_aldn (n := 1) C dX5_regretAhead_0 rfl rfl ?_
  refine aw_getR (n := 4) C dX5_regretAhead_1 rfl fl_X5_36 rfl rfl ?_
  refine aw_ildn (n := 5) C dX5_regretAhead_4 rfl rfl ?_
  refine aw_aald (j := m) (n := 6) C dX5_regretAhead_5 rfl rfl (by decide) rfl (by omega) (tf28 hm) ?_
  refine aw_ildn (n := 7) C dX5_regretAhead_6 rfl rfl ?_
  refine aw_iald (n := 8) C dX5_regretAhead_7 rfl (tk28 hm) (by omega) (by omega) ?_
  refine hret 8 _ _ _ dX5_regretAhead_8 (Or.inl rfl) ?_
  exact ⟨rfl, rfl⟩
theorem c_regretBehind28 {S : Mem} {p : Int} {m : Nat} (T : TW 28 S) (hm : (m : Int) < S 28 8) (h0 : 0 ≤ p) (h1 : p < S 28 9) (hr : 0 ≤ S (37 + m) p ∧ S (37 + m) p ≤ 99) : AMi 1 yX5_regretBehind cX5_regretBehind 5 (some .int) [.inr (.inr 28), .inl p, .inl (m : Int)] S (fun z S' => z = beh (S 33) (S 35) (S 30 m) (S (37 + m)) p ∧ S' = S) := by
  obtain ⟨t1, t2, -, -, t5, t6⟩ := TW28 T
  obtain ⟨a1, -⟩ := t5 m (by omega) hm
  obtain ⟨b1, -, b3⟩ := t6 p h0 h1
  have hm9 : m < 9 := by omega
  refine ami_intro (L := [_, _, _, none, none]) (by decide) (Or.inl rfl) rfl (Nat.le_of_ble_eq_true rfl) (fun X C hret => ?_)
  refine aw_aldn (n := 1) C dX5_regretBehind_0 rfl rfl ?_
  refine aw_getR (n := 4) C dX5_regretBehind_1 rfl fl_X5_36 rfl rfl ?_
  refine aw_ildn (n := 5) C dX5_regretBehind_4 rfl rfl ?_
  refine aw_aald (j := m) (n := 6) C dX5_regretBehind_5 rfl rfl (by decide) rfl (by omega) (tf28 hm9) ?_
  refine aw_ildn (n := 7) C dX5_regretBehind_6 rfl rfl ?_
  refine aw_iald (n := 8) C dX5_regretBehind_7 rfl (tk28 hm9) (by omega) (by omega) ?_
  refine aw_istn (n := 9) (L' := [_, _, _, _, _]) C dX5_regretBehind_8 rfl (by decide) rfl rfl ?_
  refine aw_aldn (n := 10) C dX5_regretBehind_9 rfl rfl ?_
  refine aw_getR (n := 13) C dX5_regretBehind_10 rfl fl_X5_15 rfl rfl ?_
  refine aw_ildn (n := 14) C dX5_regretBehind_13 rfl rfl ?_
  refine aw_zald (n := 15) C dX5_regretBehind_14 rfl rfl (by omega) (by omega) ?_
  refine aw_ifeq (tgt := 42) (n := 18) C dX5_regretBehind_15 rfl rfl (by omega) (fun h_15 => ?_) (fun h_15 => ?_)
  · refine aw_aldn (n := 43) C dX5_regretBehind_42 rfl rfl ?_
    refine aw_getR (n := 46) C dX5_regretBehind_43 rfl fl_X5_25 rfl rfl ?_
    refine aw_ildn (n := 47) C dX5_regretBehind_46 rfl rfl ?_
    refine aw_iald (n := 48) C dX5_regretBehind_47 rfl rfl (by omega) (by omega) ?_
    refine aw_iconst (n := 49) C dX5_regretBehind_48 rfl ?_
    refine aw_icne (tgt := 67) (n := 52) C dX5_regretBehind_49 rfl rfl (by omega) (by omega) (fun h_49 => ?_) (fun h_49 => ?_)
    · refine aw_aldn (n := 68) C dX5_regretBehind_67 rfl rfl ?_
      refine aw_getR (n := 71) C dX5_regretBehind_68 rfl fl_X5_31 rfl rfl ?_
      refine aw_ildn (n := 72) C dX5_regretBehind_71 rfl rfl ?_
      refine aw_iald (n := 73) C dX5_regretBehind_72 rfl rfl (by omega) (by omega) ?_
      refine aw_istw (n := 75) (L' := [_, _, _, _, _]) C dX5_regretBehind_73 rfl (by decide) rfl rfl ?_
      refine aw_iconst (n := 76) C dX5_regretBehind_75 rfl ?_
      refine aw_ildn (n := 77) C dX5_regretBehind_76 rfl rfl ?_
      refine aw_ildw (n := 79) C dX5_regretBehind_77 rfl rfl ?_
      refine aw_isub (n := 80) C dX5_regretBehind_79 rfl ?_
      refine aw_mmax (n := 83) C dX5_regretBehind_80 rfl wM_X5_86 wS_yJ9_max_7cf53 wI_J9 wC_yJ9_max_7cf53 (by decide) (Nat.le_of_ble_eq_true rfl) (by omega) (by omega) ?_
      refine hret 83 _ _ _ dX5_regretBehind_83 (Or.inl rfl) ?_
      exact ⟨by unfold beh bnd chg; omega, rfl⟩
    · refine aw_iconst (n := 53) C dX5_regretBehind_52 rfl ?_
      refine aw_aldn (n := 54) C dX5_regretBehind_53 rfl rfl ?_
      refine aw_getR (n := 57) C dX5_regretBehind_54 rfl fl_X5_31 rfl rfl ?_
      refine aw_ildn (n := 58) C dX5_regretBehind_57 rfl rfl ?_
      refine aw_iald (n := 59) C dX5_regretBehind_58 rfl rfl (by omega) (by omega) ?_
      refine aw_iconst (n := 60) C dX5_regretBehind_59 rfl ?_
      refine aw_isub (n := 61) C dX5_regretBehind_60 rfl ?_
      refine aw_mmax (n := 64) C dX5_regretBehind_61 rfl wM_X5_86 wS_yJ9_max_7cf53 wI_J9 wC_yJ9_max_7cf53 (by decide) (Nat.le_of_ble_eq_true rfl) (by omega) (by omega) ?_
      refine aw_goto (tgt := 73) C dX5_regretBehind_64 rfl ?_
      refine aw_istw (n := 75) (L' := [_, _, _, _, _]) C dX5_regretBehind_73 rfl (by decide) rfl rfl ?_
      refine aw_iconst (n := 76) C dX5_regretBehind_75 rfl ?_
      refine aw_ildn (n := 77) C dX5_regretBehind_76 rfl rfl ?_
      refine aw_ildw (n := 79) C dX5_regretBehind_77 rfl rfl ?_
      refine aw_isub (n := 80) C dX5_regretBehind_79 rfl ?_
      refine aw_mmax (n := 83) C dX5_regretBehind_80 rfl wM_X5_86 wS_yJ9_max_7cf53 wI_J9 wC_yJ9_max_7cf53 (by decide) (Nat.le_of_ble_eq_true rfl) (by omega) (by omega) ?_
      refine hret 83 _ _ _ dX5_regretBehind_83 (Or.inl rfl) ?_
      exact ⟨by unfold beh bnd chg; omega, rfl⟩
  · refine aw_bipush (n := 20) C dX5_regretBehind_18 rfl rfl ?_
    refine aw_ildn (n := 21) C dX5_regretBehind_20 rfl rfl ?_
    refine aw_aldn (n := 22) C dX5_regretBehind_21 rfl rfl ?_
    refine aw_getR (n := 25) C dX5_regretBehind_22 rfl fl_X5_25 rfl rfl ?_
    refine aw_ildn (n := 26) C dX5_regretBehind_25 rfl rfl ?_
    refine aw_iald (n := 27) C dX5_regretBehind_26 rfl rfl (by omega) (by omega) ?_
    refine aw_iconst (n := 28) C dX5_regretBehind_27 rfl ?_
    refine aw_icne (tgt := 36) (n := 31) C dX5_regretBehind_28 rfl rfl (by omega) (by omega) (fun h_28 => ?_) (fun h_28 => ?_)
    · refine aw_iconst (n := 37) C dX5_regretBehind_36 rfl ?_
      refine aw_iadd (n := 38) C dX5_regretBehind_37 rfl ?_
      refine aw_mmin (n := 41) C dX5_regretBehind_38 rfl wM_X5_81 wS_yJ9_min_7cf53 wI_J9 wC_yJ9_min_7cf53 (by decide) (Nat.le_of_ble_eq_true rfl) (by omega) (by omega) ?_
      refine hret 41 _ _ _ dX5_regretBehind_41 (Or.inl rfl) ?_
      exact ⟨by unfold beh bnd chg; omega, rfl⟩
    · refine aw_bipush (n := 33) C dX5_regretBehind_31 rfl rfl ?_
      refine aw_goto (tgt := 37) C dX5_regretBehind_33 rfl ?_
      refine aw_iadd (n := 38) C dX5_regretBehind_37 rfl ?_
      refine aw_mmin (n := 41) C dX5_regretBehind_38 rfl wM_X5_81 wS_yJ9_min_7cf53 wI_J9 wC_yJ9_min_7cf53 (by decide) (Nat.le_of_ble_eq_true rfl) (by omega) (by omega) ?_
      refine hret 41 _ _ _ dX5_regretBehind_41 (Or.inl rfl) ?_
      exact ⟨by unfold beh bnd chg; omega, rfl⟩
theorem c_rideThrough28_loop {X : AMX} {S : Mem} {m : Nat} {post : Mem → Prop} (T : TW 28 S) (hm : (m : Int) < S 28 8) (hr : ∀ p, 0 ≤ p → p < S 28 9 → 0 ≤ S (37 + m) p ∧ S (37 + m) p ≤ 99) (C : CX X 2 RX5 cX5_rideThrough 6) (hret : ∀ (pc : Nat) (L : List (Option AV)) (S' : Mem), decode cX5_rideThrough pc = .ok (.return_, 1) → post S' → AW X cX5_rideThrough 6 pc L [] S') (hp : ∀ S', fr (38 + m) (39 + m) S S' → (∀ p, 0 ≤ p → p < S 28 9 → S' (38 + m) p = stp (S 33) (S 35) (S 30 m) (S 31 m) (S 32 m) (S (37 + m)) p) → post S') : ∀ (j i : Nat) (S1 : Mem), (i : Int) + j = S 28 9 → fr (38 + m) (39 + m) S S1 → (∀ p : Int, 0 ≤ p → p < i → S1 (38 + m) p = beh (S 33) (S 35) (S 30 m) (S (37 + m)) p) → AW X cX5_rideThrough 6 11 [some (.inr (.inr 28)), some (.inl m), some (.inr (.inr (38 + m))), some (.inl i), none, none] [] S1 := by
  obtain ⟨t1, t2, -, -, t5, t6⟩ := TW28 T
  obtain ⟨a1, a2⟩ := t5 m (by omega) hm
  have hk : shk (38 + m) = .inr (0, 4) := by rw [show 38 + m = 37 + (m + 1) by omega]; exact tk28 (by omega)
  intro j
  induction j with
  | zero =>
    intro i S1 hi hf hv
    have e9 : S1 28 9 = S 28 9 := congrFun (hf 28 (by omega)) 9
    have ea : S1 31 m = S 31 m := congrFun (hf 31 (by omega)) m
    have eb : S1 32 m = S 32 m := congrFun (hf 32 (by omega)) m
    unfold tok at a2
    refine aw_ildn (n := 12) C dX5_rideThrough_11 rfl rfl ?_
    refine aw_aldn (n := 13) C dX5_rideThrough_12 rfl rfl ?_
    refine aw_getI (z := 9) (n := 16) C dX5_rideThrough_13 rfl fl_X5_43 rfl rfl rfl ?_
    refine aw_icge (tgt := 34) (n := 19) C dX5_rideThrough_16 rfl rfl (by omega) (by omega) (fun h_16 => ?_) (fun h_16 => ?_)
    · refine aw_aldn (n := 35) C dX5_rideThrough_34 rfl rfl ?_
      refine aw_getR (n := 38) C dX5_rideThrough_35 rfl fl_X5_19 rfl rfl ?_
      refine aw_ildn (n := 39) C dX5_rideThrough_38 rfl rfl ?_
      refine aw_iald (n := 40) C dX5_rideThrough_39 rfl rfl (by omega) (by omega) ?_
      rw [ea]
      refine aw_istn (n := 41) (L' := [_, _, _, _, _, _]) C dX5_rideThrough_40 rfl (by decide) rfl rfl ?_
      refine aw_aldn (n := 42) C dX5_rideThrough_41 rfl rfl ?_
      refine aw_getR (n := 45) C dX5_rideThrough_42 rfl fl_X5_22 rfl rfl ?_
      refine aw_ildn (n := 46) C dX5_rideThrough_45 rfl rfl ?_
      refine aw_iald (n := 47) C dX5_rideThrough_46 rfl rfl (by omega) (by omega) ?_
      rw [eb]
      refine aw_istw (n := 49) (L' := [_, _, _, _, _, _]) C dX5_rideThrough_47 rfl (by decide) rfl rfl ?_
      refine aw_ildn (n := 50) C dX5_rideThrough_49 rfl rfl ?_
      refine aw_bipush (n := 52) C dX5_rideThrough_50 rfl rfl ?_
      refine aw_iceq (tgt := 85) (n := 55) C dX5_rideThrough_52 rfl rfl (by omega) (by omega) (fun h_52 => ?_) (fun h_52 => ?_)
      · refine hret 85 _ _ dX5_rideThrough_85 (hp S1 hf (fun p p0 p1 => ?_))
        unfold stp
        rw [if_neg (by omega)]
        exact hv p p0 (by omega)
      · refine aw_ildw (n := 57) C dX5_rideThrough_55 rfl rfl ?_
        refine aw_bipush (n := 59) C dX5_rideThrough_57 rfl rfl ?_
        refine aw_iceq (tgt := 85) (n := 62) C dX5_rideThrough_59 rfl rfl (by omega) (by omega) (fun h_59 => ?_) (fun h_59 => ?_)
        · omega
        · refine aw_aldn (n := 63) C dX5_rideThrough_62 rfl rfl ?_
          refine aw_ildn (n := 64) C dX5_rideThrough_63 rfl rfl ?_
          refine aw_iald (n := 65) C dX5_rideThrough_64 rfl hk (by omega) (by omega) ?_
          refine aw_aldn (n := 66) C dX5_rideThrough_65 rfl rfl ?_
          refine aw_ildw (n := 68) C dX5_rideThrough_66 rfl rfl ?_
          refine aw_iald (n := 69) C dX5_rideThrough_68 rfl hk (by omega) (by omega) ?_
          refine aw_iadd (n := 70) C dX5_rideThrough_69 rfl ?_
          refine aw_iconst (n := 71) C dX5_rideThrough_70 rfl ?_
          refine aw_idiv (n := 72) C dX5_rideThrough_71 rfl (by have := hv (S 31 m) (by omega) (by omega); have := hv (S 32 m) (by omega) (by omega); have := bnd_r (S (37 + m) (S 31 m) + chg (S 33 (S 31 m)) (S 35 (S 31 m)) (S 30 m)); have := bnd_r (S (37 + m) (S 32 m) + chg (S 33 (S 32 m)) (S 35 (S 32 m)) (S 30 m)); unfold beh at *; omega) (by omega) ?_
          refine aw_istw (n := 74) (L' := [_, _, _, _, _, _]) C dX5_rideThrough_72 rfl (by decide) rfl rfl ?_
          refine aw_aldn (n := 75) C dX5_rideThrough_74 rfl rfl ?_
          refine aw_ildn (n := 76) C dX5_rideThrough_75 rfl rfl ?_
          refine aw_ildw (n := 78) C dX5_rideThrough_76 rfl rfl ?_
          refine aw_iast (n := 79) C dX5_rideThrough_78 rfl hk (by omega) (by omega) ?_
          refine aw_aldn (n := 80) C dX5_rideThrough_79 rfl rfl ?_
          refine aw_ildw (n := 82) C dX5_rideThrough_80 rfl rfl ?_
          refine aw_ildw (n := 84) C dX5_rideThrough_82 rfl rfl ?_
          refine aw_iast (n := 85) C dX5_rideThrough_84 rfl hk (by omega) (by omega) ?_
          refine hret 85 _ _ dX5_rideThrough_85 ?_
          refine hp _ (fr_tr (fr_tr hf (fr_w (fr_st _ _ _ _) (by omega) (by omega))) (fr_w (fr_st _ _ _ _) (by omega) (by omega))) (fun p p0 p1 => ?_)
          rw [hv (S 31 m) (by omega) (by omega), hv (S 32 m) (by omega) (by omega)]
          unfold stp
          by_cases h1 : p = S 32 m
          · rw [h1, st2_s, if_pos ⟨by omega, Or.inr rfl⟩]
          · rw [st2_n h1]
            by_cases h2 : p = S 31 m
            · rw [h2, st2_s, if_pos ⟨by omega, Or.inl rfl⟩]
            · rw [st2_n h2, if_neg (by omega)]
              exact hv p p0 (by omega)
    · omega
  | succ j ih =>
    intro i S1 hi hf hv
    have e9 : S1 28 9 = S 28 9 := congrFun (hf 28 (by omega)) 9
    have er : S1 (37 + m) = S (37 + m) := hf _ (by omega)
    have T1 : TW 28 S1 := TW28_fr T (fr_w hf (by omega) (by omega))
    refine aw_ildn (n := 12) C dX5_rideThrough_11 rfl rfl ?_
    refine aw_aldn (n := 13) C dX5_rideThrough_12 rfl rfl ?_
    refine aw_getI (z := 9) (n := 16) C dX5_rideThrough_13 rfl fl_X5_43 rfl rfl rfl ?_
    refine aw_icge (tgt := 34) (n := 19) C dX5_rideThrough_16 rfl rfl (by omega) (by omega) (fun h_16 => ?_) (fun h_16 => ?_)
    · omega
    · refine aw_aldn (n := 20) C dX5_rideThrough_19 rfl rfl ?_
      refine aw_ildn (n := 21) C dX5_rideThrough_20 rfl rfl ?_
      refine aw_aldn (n := 22) C dX5_rideThrough_21 rfl rfl ?_
      refine aw_ildn (n := 23) C dX5_rideThrough_22 rfl rfl ?_
      refine aw_ildn (n := 24) C dX5_rideThrough_23 rfl rfl ?_
      refine aw_cVi (n := 27) (vs := [_, _]) C dX5_rideThrough_24 rfl rfl rfl mm_X5_regretBehind wM_X5_77 rfl rfl (Nat.le_of_ble_eq_true rfl) (c_regretBehind28 T1 (by rw [hf 28 (by omega)]; exact hm) (by omega) (by omega) (by rw [er]; exact hr _ (by omega) (by omega))) (by decide) (fun z_24 S_24 q_24 => ?_)
      rw [q_24.1, q_24.2]
      clear q_24 S_24 z_24
      refine aw_iast (n := 28) C dX5_rideThrough_27 rfl hk (by omega) (by omega) ?_
      refine aw_iinc (n := 31) (L' := [_, _, _, _, _, _]) C dX5_rideThrough_28 rfl rfl (by decide) rfl rfl ?_
      refine aw_goto (tgt := 11) C dX5_rideThrough_31 rfl ?_
      refine ih (i + 1) _ (by omega) (fr_tr hf (fr_w (fr_st _ _ _ _) (by omega) (by omega))) (fun p p0 p1 => ?_)
      by_cases h : p = i
      · rw [h, st2_s, er, hf 33 (by omega), hf 35 (by omega), hf 30 (by omega)]
      · rw [st2_n h]
        exact hv p p0 (by omega)
theorem c_rideThrough28 {S : Mem} {m : Nat} (T : TW 28 S) (hm : (m : Int) < S 28 8) (hr : ∀ p, 0 ≤ p → p < S 28 9 → 0 ≤ S (37 + m) p ∧ S (37 + m) p ≤ 99) : AMv 2 yX5_rideThrough cX5_rideThrough 6 [.inr (.inr 28), .inl (m : Int)] S (fun S' => fr (38 + m) (39 + m) S S' ∧ ∀ p, 0 ≤ p → p < S 28 9 → S' (38 + m) p = stp (S 33) (S 35) (S 30 m) (S 31 m) (S 32 m) (S (37 + m)) p) := by
  obtain ⟨t1, t2, -, -, t5, t6⟩ := TW28 T
  refine amv_intro (L := [_, _, none, none, none, none]) (by decide) rfl (Nat.le_of_ble_eq_true rfl) (fun X C hret => ?_)
  refine aw_aldn (n := 1) C dX5_rideThrough_0 rfl rfl ?_
  refine aw_getR (n := 4) C dX5_rideThrough_1 rfl fl_X5_36 rfl rfl ?_
  refine aw_ildn (n := 5) C dX5_rideThrough_4 rfl rfl ?_
  refine aw_iconst (n := 6) C dX5_rideThrough_5 rfl ?_
  refine aw_iadd (n := 7) C dX5_rideThrough_6 rfl ?_
  refine aw_aald (j := (m + 1)) (n := 8) C dX5_rideThrough_7 rfl rfl (by decide) (by omega) (by omega) ((tf28 (by omega)).trans (by rw [show 37 + (m + 1) = 38 + m by omega])) ?_
  refine aw_astn (n := 9) (L' := [_, _, _, _, _, _]) C dX5_rideThrough_8 rfl (by decide) rfl rfl ?_
  refine aw_iconst (n := 10) C dX5_rideThrough_9 rfl ?_
  refine aw_istn (n := 11) (L' := [_, _, _, _, _, _]) C dX5_rideThrough_10 rfl (by decide) rfl rfl ?_
  exact c_rideThrough28_loop T hm hr C hret (fun S' h1 h2 => ⟨h1, h2⟩) (S 28 9).toNat 0 S (by omega) (fr_rf _ _ _) (fun p p0 p1 => by omega)
end
section
/-! Train, second part -/
def sm (f : Nat → Int) : Nat → Int
  | 0 => 0
  | n + 1 => sm f n + f n
theorem sm_congr {f g : Nat → Int} : ∀ {n : Nat}, (∀ k, k < n → f k = g k) → sm f n = sm g n
  | 0, _ => rfl
  | n + 1, h => by show sm f n + f n = sm g n + g n; rw [sm_congr (fun k hk => h k (by omega)), h n (by omega)]
theorem sm_r {f : Nat → Int} {a : Int} : ∀ {n : Nat}, (∀ k, k < n → 0 ≤ f k ∧ f k ≤ a) → 0 ≤ sm f n ∧ sm f n ≤ n * a
  | 0, _ => by simp [sm]
  | n + 1, h => by
    have h1 := sm_r (n := n) (fun k hk => h k (by omega))
    have h2 := h n (by omega)
    show 0 ≤ sm f n + f n ∧ sm f n + f n ≤ _
    have : ((n + 1 : Nat) : Int) * a = n * a + a := by rw [Int.natCast_succ, Int.add_mul, Int.one_mul]
    omega
/-- rows that follow one another are the regrets -/
theorem rows_rg {kd fd bg tu tA tB : Fn} {row : Nat → Fn} {mi pe : Int} (h0 : ∀ p, 0 ≤ p → p < pe → row 0 p = bg p) (ht : ∀ m, 0 ≤ m → m < mi → tok pe (tA m) (tB m)) (hs : ∀ j : Nat, (j : Int) < mi → ∀ p, 0 ≤ p → p < pe → row (j + 1) p = stp kd fd (tu j) (tA j) (tB j) (row j) p) : ∀ m : Nat, (m : Int) ≤ mi → ∀ p, 0 ≤ p → p < pe → row m p = rg kd fd bg tu tA tB m p
  | 0, _, p, p0, p1 => h0 p p0 p1
  | m + 1, h, p, p0, p1 => by
    rw [hs m (by omega) p p0 p1]
    exact stp_congr (ht m (by omega) (by omega)) p0 p1 (fun _ _ _ => rfl) (fun _ _ _ => rfl) (rows_rg h0 ht hs m (by omega))
theorem c_rideFrom10_loop {X : AMX} {S : Mem} {f : Nat} {post : Mem → Prop} (T : TW 10 S) (C : CX X 3 RX5 cX5_rideFrom 3) (hret : ∀ (pc : Nat) (L : List (Option AV)) (S' : Mem), decode cX5_rideFrom pc = .ok (.return_, 1) → post S' → AW X cX5_rideFrom 3 pc L [] S') (hp : ∀ S', fr (20 + f) 28 S S' → (∀ j : Nat, f ≤ j → (j : Int) < S 10 8 → ∀ p, 0 ≤ p → p < S 10 9 → S' (20 + j) p = stp (S 15) (S 17) (S 12 j) (S 13 j) (S 14 j) (S' (19 + j)) p) → post S') : ∀ (n i : Nat) (S1 : Mem), (i : Int) + n = S 10 8 → f ≤ i → fr (20 + f) 28 S S1 → (∀ p, 0 ≤ p → p < S 10 9 → 0 ≤ S1 (19 + i) p ∧ S1 (19 + i) p ≤ 99) → (∀ j : Nat, f ≤ j → j < i → ∀ p, 0 ≤ p → p < S 10 9 → S1 (20 + j) p = stp (S 15) (S 17) (S 12 j) (S 13 j) (S 14 j) (S1 (19 + j)) p) → AW X cX5_rideFrom 3 2 [some (.inr (.inr 10)), some (.inl f), some (.inl i)] [] S1 := by
  obtain ⟨t1, t2, -, -, t5, t6⟩ := TW10 T
  intro n
  induction n with
  | zero =>
    intro i S1 hi hfi hf hr hv
    have e8 : S1 10 8 = S 10 8 := congrFun (hf 10 (by omega)) 8
    refine aw_ildn (n := 3) C dX5_rideFrom_2 rfl rfl ?_
    refine aw_aldn (n := 4) C dX5_rideFrom_3 rfl rfl ?_
    refine aw_getI (z := 8) (n := 7) C dX5_rideFrom_4 rfl fl_X5_39 rfl rfl rfl ?_
    refine aw_icge (tgt := 21) (n := 10) C dX5_rideFrom_7 rfl rfl (by omega) (by omega) (fun h_7 => ?_) (fun h_7 => ?_)
    · refine hret 21 _ _ dX5_rideFrom_21 ?_
      exact hp S1 hf (fun j h1 h2 => hv j h1 (by omega))
    · omega
  | succ n ih =>
    intro i S1 hi hfi hf hr hv
    have e0 : S1 10 = S 10 := hf 10 (by omega)
    have e8 : S1 10 8 = S 10 8 := congrFun e0 8
    have T1 : TW 10 S1 := TW10_fr T (fr_w hf (by omega) (by omega))
    refine aw_ildn (n := 3) C dX5_rideFrom_2 rfl rfl ?_
    refine aw_aldn (n := 4) C dX5_rideFrom_3 rfl rfl ?_
    refine aw_getI (z := 8) (n := 7) C dX5_rideFrom_4 rfl fl_X5_39 rfl rfl rfl ?_
    refine aw_icge (tgt := 21) (n := 10) C dX5_rideFrom_7 rfl rfl (by omega) (by omega) (fun h_7 => ?_) (fun h_7 => ?_)
    · omega
    · refine aw_aldn (n := 11) C dX5_rideFrom_10 rfl rfl ?_
      refine aw_ildn (n := 12) C dX5_rideFrom_11 rfl rfl ?_
      refine aw_cVv (n := 15) (vs := [_]) C dX5_rideFrom_12 rfl rfl rfl mm_X5_rideThrough wM_X5_74 rfl rfl (Nat.le_of_ble_eq_true rfl) (c_rideThrough10 T1 (by omega) (by rw [e0]; exact hr)) (by decide) (fun S_12 q_12 => ?_)
      obtain ⟨g1, g2⟩ := q_12
      rw [hf 15 (by omega), hf 17 (by omega), hf 12 (by omega), hf 13 (by omega), hf 14 (by omega), e0] at g2
      refine aw_iinc (n := 18) (L' := [_, _, _]) C dX5_rideFrom_15 rfl rfl (by decide) rfl rfl ?_
      refine aw_goto (tgt := 2) C dX5_rideFrom_18 rfl ?_
      refine ih (i + 1) _ (by omega) (by omega) (fr_tr hf (fr_w g1 (by omega) (by omega))) (fun p p0 p1 => ?_) (fun j j0 j1 p p0 p1 => ?_)
      · rw [show 19 + (i + 1) = 20 + i by omega, g2 p p0 p1]
        exact stp_r _ _ _ _ _ _ _
      · by_cases hji : j = i
        · subst hji
          rw [g2 p p0 p1, g1 (19 + j) (by omega)]
        · rw [g1 (20 + j) (by omega), g1 (19 + j) (by omega)]
          exact hv j j0 (by omega) p p0 p1
theorem c_rideFrom10 {S : Mem} {f : Nat} (T : TW 10 S) (hfm : (f : Int) ≤ S 10 8) (hr : ∀ p, 0 ≤ p → p < S 10 9 → 0 ≤ S (19 + f) p ∧ S (19 + f) p ≤ 99) : AMv 3 yX5_rideFrom cX5_rideFrom 3 [.inr (.inr 10), .inl (f : Int)] S (fun S' => fr (20 + f) 28 S S' ∧ ∀ j : Nat, f ≤ j → (j : Int) < S 10 8 → ∀ p, 0 ≤ p → p < S 10 9 → S' (20 + j) p = stp (S 15) (S 17) (S 12 j) (S 13 j) (S 14 j) (S' (19 + j)) p) := by
  refine amv_intro (L := [_, _, none]) (by decide) rfl (Nat.le_of_ble_eq_true rfl) (fun X C hret => ?_)
  refine aw_ildn (n := 1) C dX5_rideFrom_0 rfl rfl ?_
  refine aw_istn (n := 2) (L' := [_, _, _]) C dX5_rideFrom_1 rfl (by decide) rfl rfl ?_
  exact c_rideFrom10_loop T C hret (fun S' h1 h2 => ⟨h1, h2⟩) (S 10 8 - f).toNat f S (by omega) (Nat.le_refl f) (fr_rf _ _ _) hr (fun j h1 h2 => by omega)
theorem c_rideAll10 {S : Mem} (T : TW 10 S) : AMv 4 yX5_rideAll cX5_rideAll 1 [.inr (.inr 10)] S (fun S' => fr 19 28 S S' ∧ ∀ m : Nat, (m : Int) ≤ S 10 8 → ∀ p, 0 ≤ p → p < S 10 9 → S' (19 + m) p = rg (S 15) (S 17) (S 16) (S 12) (S 13) (S 14) m p) := by
  obtain ⟨t1, t2, -, -, t5, t6⟩ := TW10 T
  refine amv_intro (L := [_]) (by decide) rfl (Nat.le_of_ble_eq_true rfl) (fun X C hret => ?_)
  refine aw_aldn (n := 1) C dX5_rideAll_0 rfl rfl ?_
  refine aw_getR (n := 4) C dX5_rideAll_1 rfl fl_X5_28 rfl rfl ?_
  refine aw_iconst (n := 5) C dX5_rideAll_4 rfl ?_
  refine aw_aldn (n := 6) C dX5_rideAll_5 rfl rfl ?_
  refine aw_getR (n := 9) C dX5_rideAll_6 rfl fl_X5_36 rfl rfl ?_
  refine aw_iconst (n := 10) C dX5_rideAll_9 rfl ?_
  refine aw_aald (j := 0) (n := 11) C dX5_rideAll_10 rfl rfl (by decide) (by omega) (by omega) rfl ?_
  refine aw_iconst (n := 12) C dX5_rideAll_11 rfl ?_
  refine aw_aldn (n := 13) C dX5_rideAll_12 rfl rfl ?_
  refine aw_getI (z := 9) (n := 16) C dX5_rideAll_13 rfl fl_X5_43 rfl rfl rfl ?_
  refine aw_copy (n := 19) C dX5_rideAll_16 rfl wM_X5_64 wNat wS_arraycopyName wI_J10 (by decide) (Nat.le_of_ble_eq_true rfl) rfl rfl (by decide) (by decide) (by omega) (by omega) (by omega) (by omega) (by omega) ?_
  generalize hS1 : cp2 S 16 0 19 0 (S 10 9) = S1
  have f1 : fr 19 20 S S1 := fun c hc => by rw [← hS1]; exact funext fun i => if_neg (fun q => by omega)
  have v1 : ∀ p, 0 ≤ p → p < S 10 9 → S1 19 p = S 16 p := fun p p0 p1 => by rw [← hS1]; unfold cp2; rw [if_pos ⟨rfl, by omega, by omega⟩]; congr 1; omega
  have T1 : TW 10 S1 := TW10_fr T (fr_w f1 (by omega) (by omega))
  have e0 : S1 10 = S 10 := f1 10 (by omega)
  refine aw_aldn (n := 20) C dX5_rideAll_19 rfl rfl ?_
  refine aw_iconst (n := 21) C dX5_rideAll_20 rfl ?_
  refine aw_cVv (n := 24) (vs := [_]) C dX5_rideAll_21 rfl rfl rfl mm_X5_rideFrom wM_X5_70 rfl rfl (Nat.le_of_ble_eq_true rfl) (c_rideFrom10 (f := 0) T1 (by rw [e0]; omega) (fun p p0 p1 => by rw [e0] at p1; show 0 ≤ S1 19 p ∧ S1 19 p ≤ 99; rw [v1 p p0 p1]; have := t6 p p0 p1; omega)) (by decide) (fun S_21 q_21 => ?_)
  obtain ⟨g1, g2⟩ := q_21
  rw [f1 15 (by omega), f1 17 (by omega), f1 12 (by omega), f1 13 (by omega), f1 14 (by omega), e0] at g2
  refine hret 24 _ _ dX5_rideAll_24 ?_
  refine ⟨fr_tr (fr_w f1 (by omega) (by omega)) (fr_w g1 (by omega) (by omega)), ?_⟩
  refine rows_rg (row := fun m => S_21 (19 + m)) (fun p p0 p1 => ?_) (fun m m0 m1 => (t5 m m0 m1).2) (fun j hj p p0 p1 => ?_)
  · show S_21 19 p = _
    rw [g1 19 (by omega)]
    exact v1 p p0 p1
  · show S_21 (19 + (j + 1)) p = _
    rw [show 19 + (j + 1) = 20 + j by omega]
    exact g2 j (by omega) hj p p0 p1
theorem c_dueTogether10_loop {X : AMX} {S : Mem} {p : Int} {post : Int → Mem → Prop} (h8 : 0 ≤ S 10 8 ∧ S 10 8 ≤ 8) (p0 : 0 ≤ p) (p1 : p < 4) (hl1 : rng (S 10 10)) (hl2 : rng (S 10 11)) (hr : ∀ m : Nat, (m : Int) < S 10 8 → rng (S (19 + m) p)) (C : CX X 1 RX5 cX5_dueTogether 4) (hret : ∀ (pc : Nat) (L : List (Option AV)) (z : Int) (S' : Mem), decode cX5_dueTogether pc = .ok (.ireturn, 1) → ((some FieldType.int) = some .int ∨ ((some FieldType.int) = some .boolean ∧ (z = 0 ∨ z = 1))) → post z S' → AW X cX5_dueTogether 4 pc L [.inl z] S') (hp : post (sm (fun m => due (S 10 10) (S 10 11) (S (19 + m) p)) (S 10 8).toNat) S) : ∀ (n i : Nat), (i : Int) + n = S 10 8 → AW X cX5_dueTogether 4 4 [some (.inr (.inr 10)), some (.inl p), some (.inl (sm (fun m => due (S 10 10) (S 10 11) (S (19 + m) p)) i)), some (.inl i)] [] S := by
  intro n
  induction n with
  | zero =>
    intro i hi
    refine aw_ildn (n := 5) C dX5_dueTogether_4 rfl rfl ?_
    refine aw_aldn (n := 6) C dX5_dueTogether_5 rfl rfl ?_
    refine aw_getI (z := 8) (n := 9) C dX5_dueTogether_6 rfl fl_X5_39 rfl rfl rfl ?_
    refine aw_icge (tgt := 27) (n := 12) C dX5_dueTogether_9 rfl rfl (by omega) (by omega) (fun h_9 => ?_) (fun h_9 => ?_)
    · refine aw_ildn (n := 28) C dX5_dueTogether_27 rfl rfl ?_
      refine hret 28 _ _ _ dX5_dueTogether_28 (Or.inl rfl) ?_
      rw [show (S 10 8).toNat = i by omega] at hp
      exact hp
    · omega
  | succ n ih =>
    intro i hi
    refine aw_ildn (n := 5) C dX5_dueTogether_4 rfl rfl ?_
    refine aw_aldn (n := 6) C dX5_dueTogether_5 rfl rfl ?_
    refine aw_getI (z := 8) (n := 9) C dX5_dueTogether_6 rfl fl_X5_39 rfl rfl rfl ?_
    refine aw_icge (tgt := 27) (n := 12) C dX5_dueTogether_9 rfl rfl (by omega) (by omega) (fun h_9 => ?_) (fun h_9 => ?_)
    · omega
    · refine aw_ildn (n := 13) C dX5_dueTogether_12 rfl rfl ?_
      refine aw_aldn (n := 14) C dX5_dueTogether_13 rfl rfl ?_
      refine aw_ildn (n := 15) C dX5_dueTogether_14 rfl rfl ?_
      refine aw_ildn (n := 16) C dX5_dueTogether_15 rfl rfl ?_
      refine aw_cVi (n := 19) (vs := [_, _]) C dX5_dueTogether_16 rfl rfl rfl mm_X5_classDue wM_X5_89 rfl rfl (Nat.le_of_ble_eq_true rfl) (c_classDue10 (m := i) (by omega) p0 p1 (hr i (by omega)) hl1 hl2) (by decide) (fun z_16 S_16 q_16 => ?_)
      rw [q_16.1, q_16.2]
      clear q_16 S_16 z_16
      refine aw_iadd (n := 20) C dX5_dueTogether_19 rfl ?_
      refine aw_istn (n := 21) (L' := [_, _, _, _]) C dX5_dueTogether_20 rfl (by decide) rfl rfl ?_
      refine aw_iinc (n := 24) (L' := [_, _, _, _]) C dX5_dueTogether_21 rfl rfl (by decide) rfl rfl ?_
      refine aw_goto (tgt := 4) C dX5_dueTogether_24 rfl ?_
      exact ih (i + 1) (by omega)
theorem c_dueTogether10 {S : Mem} {p : Int} (h8 : 0 ≤ S 10 8 ∧ S 10 8 ≤ 8) (p0 : 0 ≤ p) (p1 : p < 4) (hl1 : rng (S 10 10)) (hl2 : rng (S 10 11)) (hr : ∀ m : Nat, (m : Int) < S 10 8 → rng (S (19 + m) p)) : AMi 1 yX5_dueTogether cX5_dueTogether 4 (some .int) [.inr (.inr 10), .inl p] S (fun z S' => z = sm (fun m => due (S 10 10) (S 10 11) (S (19 + m) p)) (S 10 8).toNat ∧ S' = S) := by
  refine ami_intro (L := [_, _, none, none]) (by decide) (Or.inl rfl) rfl (Nat.le_of_ble_eq_true rfl) (fun X C hret => ?_)
  refine aw_iconst (n := 1) C dX5_dueTogether_0 rfl ?_
  refine aw_istn (n := 2) (L' := [_, _, _, _]) C dX5_dueTogether_1 rfl (by decide) rfl rfl ?_
  refine aw_iconst (n := 3) C dX5_dueTogether_2 rfl ?_
  refine aw_istn (n := 4) (L' := [_, _, _, _]) C dX5_dueTogether_3 rfl (by decide) rfl rfl ?_
  exact c_dueTogether10_loop h8 p0 p1 hl1 hl2 hr C hret ⟨rfl, rfl⟩ (S 10 8).toNat 0 (by omega)
theorem c_rideFrom28_loop {X : AMX} {S : Mem} {f : Nat} {post : Mem → Prop} (T : TW 28 S) (C : CX X 3 RX5 cX5_rideFrom 3) (hret : ∀ (pc : Nat) (L : List (Option AV)) (S' : Mem), decode cX5_rideFrom pc = .ok (.return_, 1) → post S' → AW X cX5_rideFrom 3 pc L [] S') (hp : ∀ S', fr (38 + f) 46 S S' → (∀ j : Nat, f ≤ j → (j : Int) < S 28 8 → ∀ p, 0 ≤ p → p < S 28 9 → S' (38 + j) p = stp (S 33) (S 35) (S 30 j) (S 31 j) (S 32 j) (S' (37 + j)) p) → post S') : ∀ (n i : Nat) (S1 : Mem), (i : Int) + n = S 28 8 → f ≤ i → fr (38 + f) 46 S S1 → (∀ p, 0 ≤ p → p < S 28 9 → 0 ≤ S1 (37 + i) p ∧ S1 (37 + i) p ≤ 99) → (∀ j : Nat, f ≤ j → j < i → ∀ p, 0 ≤ p → p < S 28 9 → S1 (38 + j) p = stp (S 33) (S 35) (S 30 j) (S 31 j) (S 32 j) (S1 (37 + j)) p) → AW X cX5_rideFrom 3 2 [some (.inr (.inr 28)), some (.inl f), some (.inl i)] [] S1 := by
  obtain ⟨t1, t2, -, -, t5, t6⟩ := TW28 T
  intro n
  induction n with
  | zero =>
    intro i S1 hi hfi hf hr hv
    have e8 : S1 28 8 = S 28 8 := congrFun (hf 28 (by omega)) 8
    refine aw_ildn (n := 3) C dX5_rideFrom_2 rfl rfl ?_
    refine aw_aldn (n := 4) C dX5_rideFrom_3 rfl rfl ?_
    refine aw_getI (z := 8) (n := 7) C dX5_rideFrom_4 rfl fl_X5_39 rfl rfl rfl ?_
    refine aw_icge (tgt := 21) (n := 10) C dX5_rideFrom_7 rfl rfl (by omega) (by omega) (fun h_7 => ?_) (fun h_7 => ?_)
    · refine hret 21 _ _ dX5_rideFrom_21 ?_
      exact hp S1 hf (fun j h1 h2 => hv j h1 (by omega))
    · omega
  | succ n ih =>
    intro i S1 hi hfi hf hr hv
    have e0 : S1 28 = S 28 := hf 28 (by omega)
    have e8 : S1 28 8 = S 28 8 := congrFun e0 8
    have T1 : TW 28 S1 := TW28_fr T (fr_w hf (by omega) (by omega))
    refine aw_ildn (n := 3) C dX5_rideFrom_2 rfl rfl ?_
    refine aw_aldn (n := 4) C dX5_rideFrom_3 rfl rfl ?_
    refine aw_getI (z := 8) (n := 7) C dX5_rideFrom_4 rfl fl_X5_39 rfl rfl rfl ?_
    refine aw_icge (tgt := 21) (n := 10) C dX5_rideFrom_7 rfl rfl (by omega) (by omega) (fun h_7 => ?_) (fun h_7 => ?_)
    · omega
    · refine aw_aldn (n := 11) C dX5_rideFrom_10 rfl rfl ?_
      refine aw_ildn (n := 12) C dX5_rideFrom_11 rfl rfl ?_
      refine aw_cVv (n := 15) (vs := [_]) C dX5_rideFrom_12 rfl rfl rfl mm_X5_rideThrough wM_X5_74 rfl rfl (Nat.le_of_ble_eq_true rfl) (c_rideThrough28 T1 (by omega) (by rw [e0]; exact hr)) (by decide) (fun S_12 q_12 => ?_)
      obtain ⟨g1, g2⟩ := q_12
      rw [hf 33 (by omega), hf 35 (by omega), hf 30 (by omega), hf 31 (by omega), hf 32 (by omega), e0] at g2
      refine aw_iinc (n := 18) (L' := [_, _, _]) C dX5_rideFrom_15 rfl rfl (by decide) rfl rfl ?_
      refine aw_goto (tgt := 2) C dX5_rideFrom_18 rfl ?_
      refine ih (i + 1) _ (by omega) (by omega) (fr_tr hf (fr_w g1 (by omega) (by omega))) (fun p p0 p1 => ?_) (fun j j0 j1 p p0 p1 => ?_)
      · rw [show 37 + (i + 1) = 38 + i by omega, g2 p p0 p1]
        exact stp_r _ _ _ _ _ _ _
      · by_cases hji : j = i
        · subst hji
          rw [g2 p p0 p1, g1 (37 + j) (by omega)]
        · rw [g1 (38 + j) (by omega), g1 (37 + j) (by omega)]
          exact hv j j0 (by omega) p p0 p1
theorem c_rideFrom28 {S : Mem} {f : Nat} (T : TW 28 S) (hfm : (f : Int) ≤ S 28 8) (hr : ∀ p, 0 ≤ p → p < S 28 9 → 0 ≤ S (37 + f) p ∧ S (37 + f) p ≤ 99) : AMv 3 yX5_rideFrom cX5_rideFrom 3 [.inr (.inr 28), .inl (f : Int)] S (fun S' => fr (38 + f) 46 S S' ∧ ∀ j : Nat, f ≤ j → (j : Int) < S 28 8 → ∀ p, 0 ≤ p → p < S 28 9 → S' (38 + j) p = stp (S 33) (S 35) (S 30 j) (S 31 j) (S 32 j) (S' (37 + j)) p) := by
  refine amv_intro (L := [_, _, none]) (by decide) rfl (Nat.le_of_ble_eq_true rfl) (fun X C hret => ?_)
  refine aw_ildn (n := 1) C dX5_rideFrom_0 rfl rfl ?_
  refine aw_istn (n := 2) (L' := [_, _, _]) C dX5_rideFrom_1 rfl (by decide) rfl rfl ?_
  exact c_rideFrom28_loop T C hret (fun S' h1 h2 => ⟨h1, h2⟩) (S 28 8 - f).toNat f S (by omega) (Nat.le_refl f) (fr_rf _ _ _) hr (fun j h1 h2 => by omega)
theorem c_rideAll28 {S : Mem} (T : TW 28 S) : AMv 4 yX5_rideAll cX5_rideAll 1 [.inr (.inr 28)] S (fun S' => fr 37 46 S S' ∧ ∀ m : Nat, (m : Int) ≤ S 28 8 → ∀ p, 0 ≤ p → p < S 28 9 → S' (37 + m) p = rg (S 33) (S 35) (S 34) (S 30) (S 31) (S 32) m p) := by
  obtain ⟨t1, t2, -, -, t5, t6⟩ := TW28 T
  refine amv_intro (L := [_]) (by decide) rfl (Nat.le_of_ble_eq_true rfl) (fun X C hret => ?_)
  refine aw_aldn (n := 1) C dX5_rideAll_0 rfl rfl ?_
  refine aw_getR (n := 4) C dX5_rideAll_1 rfl fl_X5_28 rfl rfl ?_
  refine aw_iconst (n := 5) C dX5_rideAll_4 rfl ?_
  refine aw_aldn (n := 6) C dX5_rideAll_5 rfl rfl ?_
  refine aw_getR (n := 9) C dX5_rideAll_6 rfl fl_X5_36 rfl rfl ?_
  refine aw_iconst (n := 10) C dX5_rideAll_9 rfl ?_
  refine aw_aald (j := 0) (n := 11) C dX5_rideAll_10 rfl rfl (by decide) (by omega) (by omega) rfl ?_
  refine aw_iconst (n := 12) C dX5_rideAll_11 rfl ?_
  refine aw_aldn (n := 13) C dX5_rideAll_12 rfl rfl ?_
  refine aw_getI (z := 9) (n := 16) C dX5_rideAll_13 rfl fl_X5_43 rfl rfl rfl ?_
  refine aw_copy (n := 19) C dX5_rideAll_16 rfl wM_X5_64 wNat wS_arraycopyName wI_J10 (by decide) (Nat.le_of_ble_eq_true rfl) rfl rfl (by decide) (by decide) (by omega) (by omega) (by omega) (by omega) (by omega) ?_
  generalize hS1 : cp2 S 34 0 37 0 (S 28 9) = S1
  have f1 : fr 37 38 S S1 := fun c hc => by rw [← hS1]; exact funext fun i => if_neg (fun q => by omega)
  have v1 : ∀ p, 0 ≤ p → p < S 28 9 → S1 37 p = S 34 p := fun p p0 p1 => by rw [← hS1]; unfold cp2; rw [if_pos ⟨rfl, by omega, by omega⟩]; congr 1; omega
  have T1 : TW 28 S1 := TW28_fr T (fr_w f1 (by omega) (by omega))
  have e0 : S1 28 = S 28 := f1 28 (by omega)
  refine aw_aldn (n := 20) C dX5_rideAll_19 rfl rfl ?_
  refine aw_iconst (n := 21) C dX5_rideAll_20 rfl ?_
  refine aw_cVv (n := 24) (vs := [_]) C dX5_rideAll_21 rfl rfl rfl mm_X5_rideFrom wM_X5_70 rfl rfl (Nat.le_of_ble_eq_true rfl) (c_rideFrom28 (f := 0) T1 (by rw [e0]; omega) (fun p p0 p1 => by rw [e0] at p1; show 0 ≤ S1 37 p ∧ S1 37 p ≤ 99; rw [v1 p p0 p1]; have := t6 p p0 p1; omega)) (by decide) (fun S_21 q_21 => ?_)
  obtain ⟨g1, g2⟩ := q_21
  rw [f1 33 (by omega), f1 35 (by omega), f1 30 (by omega), f1 31 (by omega), f1 32 (by omega), e0] at g2
  refine hret 24 _ _ dX5_rideAll_24 ?_
  refine ⟨fr_tr (fr_w f1 (by omega) (by omega)) (fr_w g1 (by omega) (by omega)), ?_⟩
  refine rows_rg (row := fun m => S_21 (37 + m)) (fun p p0 p1 => ?_) (fun m m0 m1 => (t5 m m0 m1).2) (fun j hj p p0 p1 => ?_)
  · show S_21 37 p = _
    rw [g1 37 (by omega)]
    exact v1 p p0 p1
  · show S_21 (37 + (j + 1)) p = _
    rw [show 37 + (j + 1) = 38 + j by omega]
    exact g2 j (by omega) hj p p0 p1
theorem c_dueTogether28_loop {X : AMX} {S : Mem} {p : Int} {post : Int → Mem → Prop} (h8 : 0 ≤ S 28 8 ∧ S 28 8 ≤ 8) (p0 : 0 ≤ p) (p1 : p < 4) (hl1 : rng (S 28 10)) (hl2 : rng (S 28 11)) (hr : ∀ m : Nat, (m : Int) < S 28 8 → rng (S (37 + m) p)) (C : CX X 1 RX5 cX5_dueTogether 4) (hret : ∀ (pc : Nat) (L : List (Option AV)) (z : Int) (S' : Mem), decode cX5_dueTogether pc = .ok (.ireturn, 1) → ((some FieldType.int) = some .int ∨ ((some FieldType.int) = some .boolean ∧ (z = 0 ∨ z = 1))) → post z S' → AW X cX5_dueTogether 4 pc L [.inl z] S') (hp : post (sm (fun m => due (S 28 10) (S 28 11) (S (37 + m) p)) (S 28 8).toNat) S) : ∀ (n i : Nat), (i : Int) + n = S 28 8 → AW X cX5_dueTogether 4 4 [some (.inr (.inr 28)), some (.inl p), some (.inl (sm (fun m => due (S 28 10) (S 28 11) (S (37 + m) p)) i)), some (.inl i)] [] S := by
  intro n
  induction n with
  | zero =>
    intro i hi
    refine aw_ildn (n := 5) C dX5_dueTogether_4 rfl rfl ?_
    refine aw_aldn (n := 6) C dX5_dueTogether_5 rfl rfl ?_
    refine aw_getI (z := 8) (n := 9) C dX5_dueTogether_6 rfl fl_X5_39 rfl rfl rfl ?_
    refine aw_icge (tgt := 27) (n := 12) C dX5_dueTogether_9 rfl rfl (by omega) (by omega) (fun h_9 => ?_) (fun h_9 => ?_)
    · refine aw_ildn (n := 28) C dX5_dueTogether_27 rfl rfl ?_
      refine hret 28 _ _ _ dX5_dueTogether_28 (Or.inl rfl) ?_
      rw [show (S 28 8).toNat = i by omega] at hp
      exact hp
    · omega
  | succ n ih =>
    intro i hi
    refine aw_ildn (n := 5) C dX5_dueTogether_4 rfl rfl ?_
    refine aw_aldn (n := 6) C dX5_dueTogether_5 rfl rfl ?_
    refine aw_getI (z := 8) (n := 9) C dX5_dueTogether_6 rfl fl_X5_39 rfl rfl rfl ?_
    refine aw_icge (tgt := 27) (n := 12) C dX5_dueTogether_9 rfl rfl (by omega) (by omega) (fun h_9 => ?_) (fun h_9 => ?_)
    · omega
    · refine aw_ildn (n := 13) C dX5_dueTogether_12 rfl rfl ?_
      refine aw_aldn (n := 14) C dX5_dueTogether_13 rfl rfl ?_
      refine aw_ildn (n := 15) C dX5_dueTogether_14 rfl rfl ?_
      refine aw_ildn (n := 16) C dX5_dueTogether_15 rfl rfl ?_
      refine aw_cVi (n := 19) (vs := [_, _]) C dX5_dueTogether_16 rfl rfl rfl mm_X5_classDue wM_X5_89 rfl rfl (Nat.le_of_ble_eq_true rfl) (c_classDue28 (m := i) (by omega) p0 p1 (hr i (by omega)) hl1 hl2) (by decide) (fun z_16 S_16 q_16 => ?_)
      rw [q_16.1, q_16.2]
      clear q_16 S_16 z_16
      refine aw_iadd (n := 20) C dX5_dueTogether_19 rfl ?_
      refine aw_istn (n := 21) (L' := [_, _, _, _]) C dX5_dueTogether_20 rfl (by decide) rfl rfl ?_
      refine aw_iinc (n := 24) (L' := [_, _, _, _]) C dX5_dueTogether_21 rfl rfl (by decide) rfl rfl ?_
      refine aw_goto (tgt := 4) C dX5_dueTogether_24 rfl ?_
      exact ih (i + 1) (by omega)
theorem c_dueTogether28 {S : Mem} {p : Int} (h8 : 0 ≤ S 28 8 ∧ S 28 8 ≤ 8) (p0 : 0 ≤ p) (p1 : p < 4) (hl1 : rng (S 28 10)) (hl2 : rng (S 28 11)) (hr : ∀ m : Nat, (m : Int) < S 28 8 → rng (S (37 + m) p)) : AMi 1 yX5_dueTogether cX5_dueTogether 4 (some .int) [.inr (.inr 28), .inl p] S (fun z S' => z = sm (fun m => due (S 28 10) (S 28 11) (S (37 + m) p)) (S 28 8).toNat ∧ S' = S) := by
  refine ami_intro (L := [_, _, none, none]) (by decide) (Or.inl rfl) rfl (Nat.le_of_ble_eq_true rfl) (fun X C hret => ?_)
  refine aw_iconst (n := 1) C dX5_dueTogether_0 rfl ?_
  refine aw_istn (n := 2) (L' := [_, _, _, _]) C dX5_dueTogether_1 rfl (by decide) rfl rfl ?_
  refine aw_iconst (n := 3) C dX5_dueTogether_2 rfl ?_
  refine aw_istn (n := 4) (L' := [_, _, _, _]) C dX5_dueTogether_3 rfl (by decide) rfl rfl ?_
  exact c_dueTogether28_loop h8 p0 p1 hl1 hl2 hr C hret ⟨rfl, rfl⟩ (S 28 8).toNat 0 (by omega)
end
section
/-! the guess becomes like the line -/
def LKf (S S' : Mem) : Prop := fr 28 46 S S' ∧ S' 28 8 = S 10 8 ∧ S' 28 9 = S 10 9 ∧ S' 28 10 = S 10 10 ∧ S' 28 11 = S 10 11
def LKm (n : Int) (S S' : Mem) : Prop := ∀ m, 0 ≤ m → m < n → S' 30 m = S 12 m ∧ S' 31 m = S 13 m ∧ S' 32 m = S 14 m
def LKp (n : Int) (S S' : Mem) : Prop := ∀ p, 0 ≤ p → p < n → S' 33 p = S 15 p ∧ S' 34 p = S 16 p ∧ S' 35 p = S 17 p
def LKr (n : Nat) (S S' : Mem) : Prop := ∀ m : Nat, m < n → ∀ p, 0 ≤ p → p < S 10 9 → S' (37 + m) p = S (19 + m) p
def LK (S S' : Mem) : Prop := LKf S S' ∧ LKm (S 10 8) S S' ∧ LKp (S 10 9) S S' ∧ LKr ((S 10 8).toNat + 1) S S'
theorem c_like_3 {X : AMX} {S : Mem} {post : Mem → Prop} (h8 : 0 ≤ S 10 8 ∧ S 10 8 ≤ 8) (h9 : 0 ≤ S 10 9 ∧ S 10 9 ≤ 4) (C : CX X 1 RX5 cX5_becomeLike 3) (hret : ∀ (pc : Nat) (L : List (Option AV)) (S' : Mem), decode cX5_becomeLike pc = .ok (.return_, 1) → post S' → AW X cX5_becomeLike 3 pc L [] S') (hp : ∀ S', LK S S' → post S') : ∀ (n i : Nat) (S1 : Mem), (i : Int) + n = S 10 8 + 1 → LKf S S1 → LKm (S 10 8) S S1 → LKp (S 10 9) S S1 → LKr i S S1 → AW X cX5_becomeLike 3 138 [some (.inr (.inr 28)), some (.inr (.inr 10)), some (.inl i)] [] S1 := by
  intro n
  induction n with
  | zero =>
    intro i S1 hi hf hm hpp hr
    obtain ⟨f1, f2, f3, f4, f5⟩ := id hf
    refine aw_ildn (n := 139) C dX5_becomeLike_138 rfl rfl ?_
    refine aw_aldn (n := 140) C dX5_becomeLike_139 rfl rfl ?_
    refine aw_getI (z := 8) (n := 143) C dX5_becomeLike_140 rfl fl_X5_39 rfl rfl rfl ?_
    refine aw_icgt (tgt := 173) (n := 146) C dX5_becomeLike_143 rfl rfl (by omega) (by omega) (fun h_143 => ?_) (fun h_143 => ?_)
    · refine hret 173 _ _ dX5_becomeLike_173 ?_
      exact hp S1 ⟨hf, hm, hpp, by rw [show (S 10 8).toNat + 1 = i by omega]; exact hr⟩
    · omega
  | succ n ih =>
    intro i S1 hi hf hm hpp hr
    obtain ⟨f1, f2, f3, f4, f5⟩ := id hf
    refine aw_ildn (n := 139) C dX5_becomeLike_138 rfl rfl ?_
    refine aw_aldn (n := 140) C dX5_becomeLike_139 rfl rfl ?_
    refine aw_getI (z := 8) (n := 143) C dX5_becomeLike_140 rfl fl_X5_39 rfl rfl rfl ?_
    refine aw_icgt (tgt := 173) (n := 146) C dX5_becomeLike_143 rfl rfl (by omega) (by omega) (fun h_143 => ?_) (fun h_143 => ?_)
    · omega
    · refine aw_aldn (n := 147) C dX5_becomeLike_146 rfl rfl ?_
      refine aw_getR (n := 150) C dX5_becomeLike_147 rfl fl_X5_36 rfl rfl ?_
      refine aw_ildn (n := 151) C dX5_becomeLike_150 rfl rfl ?_
      refine aw_aald (j := i) (n := 152) C dX5_becomeLike_151 rfl rfl (by decide) rfl (by omega) (tf10 (by omega)) ?_
      refine aw_iconst (n := 153) C dX5_becomeLike_152 rfl ?_
      refine aw_aldn (n := 154) C dX5_becomeLike_153 rfl rfl ?_
      refine aw_getR (n := 157) C dX5_becomeLike_154 rfl fl_X5_36 rfl rfl ?_
      refine aw_ildn (n := 158) C dX5_becomeLike_157 rfl rfl ?_
      refine aw_aald (j := i) (n := 159) C dX5_becomeLike_158 rfl rfl (by decide) rfl (by omega) (tf28 (by omega)) ?_
      refine aw_iconst (n := 160) C dX5_becomeLike_159 rfl ?_
      refine aw_aldn (n := 161) C dX5_becomeLike_160 rfl rfl ?_
      refine aw_getI (z := 9) (n := 164) C dX5_becomeLike_161 rfl fl_X5_43 rfl rfl rfl ?_
      refine aw_copy (n := 167) C dX5_becomeLike_164 rfl wM_X5_64 wNat wS_arraycopyName wI_J10 (by decide) (Nat.le_of_ble_eq_true rfl) (tk10 (by omega)) (tk28 (by omega)) (by decide) (by decide) (by omega) (by omega) (by omega) (by omega) (by omega) ?_
      refine aw_iinc (n := 170) (L' := [_, _, _]) C dX5_becomeLike_167 rfl rfl (by decide) rfl rfl ?_
      refine aw_goto (tgt := 138) C dX5_becomeLike_170 rfl ?_
      rw [f3]
      generalize hS2 : cp2 S1 (19 + i) 0 (37 + i) 0 (S 10 9) = S2
      have g1 : fr (37 + i) (38 + i) S1 S2 := fun c hc => by rw [← hS2]; exact funext fun i => if_neg (fun q => by omega)
      have v1 : ∀ p, 0 ≤ p → p < S 10 9 → S2 (37 + i) p = S1 (19 + i) p := fun p p0 p1 => by rw [← hS2]; unfold cp2; rw [if_pos ⟨rfl, by omega, by omega⟩]; congr 1; omega
      refine ih (i + 1) S2 (by omega) ?_ ?_ ?_ ?_
      · unfold LKf
        rw [g1 28 (by omega)]
        exact ⟨fr_tr f1 (fr_w g1 (by omega) (by omega)), f2, f3, f4, f5⟩
      · unfold LKm
        rw [g1 30 (by omega), g1 31 (by omega), g1 32 (by omega)]
        exact hm
      · unfold LKp
        rw [g1 33 (by omega), g1 34 (by omega), g1 35 (by omega)]
        exact hpp
      · intro m hmm p p0 p1
        by_cases e : m = i
        · subst e
          rw [v1 p p0 p1, f1 (19 + m) (by omega)]
        · rw [g1 (37 + m) (by omega)]
          exact hr m (by omega) p p0 p1
theorem c_like_2 {X : AMX} {S : Mem} {post : Mem → Prop} (h8 : 0 ≤ S 10 8 ∧ S 10 8 ≤ 8) (h9 : 0 ≤ S 10 9 ∧ S 10 9 ≤ 4) (C : CX X 1 RX5 cX5_becomeLike 3) (hret : ∀ (pc : Nat) (L : List (Option AV)) (S' : Mem), decode cX5_becomeLike pc = .ok (.return_, 1) → post S' → AW X cX5_becomeLike 3 pc L [] S') (hp : ∀ S', LK S S' → post S') : ∀ (n i : Nat) (S1 : Mem), (i : Int) + n = S 10 9 → LKf S S1 → LKm (S 10 8) S S1 → LKp i S S1 → AW X cX5_becomeLike 3 86 [some (.inr (.inr 28)), some (.inr (.inr 10)), some (.inl i)] [] S1 := by
  intro n
  induction n with
  | zero =>
    intro i S1 hi hf hm hpp
    obtain ⟨f1, f2, f3, f4, f5⟩ := id hf
    refine aw_ildn (n := 87) C dX5_becomeLike_86 rfl rfl ?_
    refine aw_aldn (n := 88) C dX5_becomeLike_87 rfl rfl ?_
    refine aw_getI (z := 9) (n := 91) C dX5_becomeLike_88 rfl fl_X5_43 rfl rfl rfl ?_
    refine aw_icge (tgt := 136) (n := 94) C dX5_becomeLike_91 rfl rfl (by omega) (by omega) (fun h_91 => ?_) (fun h_91 => ?_)
    · refine aw_iconst (n := 137) C dX5_becomeLike_136 rfl ?_
      refine aw_istn (n := 138) (L' := [_, _, _]) C dX5_becomeLike_137 rfl (by decide) rfl rfl ?_
      exact c_like_3 h8 h9 C hret hp ((S 10 8).toNat + 1) 0 S1 (by omega) hf hm (by rw [← show (i : Int) = S 10 9 by omega]; exact hpp) (fun m h => by omega)
    · omega
  | succ n ih =>
    intro i S1 hi hf hm hpp
    obtain ⟨f1, f2, f3, f4, f5⟩ := id hf
    refine aw_ildn (n := 87) C dX5_becomeLike_86 rfl rfl ?_
    refine aw_aldn (n := 88) C dX5_becomeLike_87 rfl rfl ?_
    refine aw_getI (z := 9) (n := 91) C dX5_becomeLike_88 rfl fl_X5_43 rfl rfl rfl ?_
    refine aw_icge (tgt := 136) (n := 94) C dX5_becomeLike_91 rfl rfl (by omega) (by omega) (fun h_91 => ?_) (fun h_91 => ?_)
    · omega
    · refine aw_aldn (n := 95) C dX5_becomeLike_94 rfl rfl ?_
      refine aw_getR (n := 98) C dX5_becomeLike_95 rfl fl_X5_25 rfl rfl ?_
      refine aw_ildn (n := 99) C dX5_becomeLike_98 rfl rfl ?_
      refine aw_aldn (n := 100) C dX5_becomeLike_99 rfl rfl ?_
      refine aw_getR (n := 103) C dX5_becomeLike_100 rfl fl_X5_25 rfl rfl ?_
      refine aw_ildn (n := 104) C dX5_becomeLike_103 rfl rfl ?_
      refine aw_iald (n := 105) C dX5_becomeLike_104 rfl rfl (by omega) (by omega) ?_
      refine aw_iast (n := 106) C dX5_becomeLike_105 rfl rfl (by omega) (by omega) ?_
      refine aw_aldn (n := 107) C dX5_becomeLike_106 rfl rfl ?_
      refine aw_getR (n := 110) C dX5_becomeLike_107 rfl fl_X5_28 rfl rfl ?_
      refine aw_ildn (n := 111) C dX5_becomeLike_110 rfl rfl ?_
      refine aw_aldn (n := 112) C dX5_becomeLike_111 rfl rfl ?_
      refine aw_getR (n := 115) C dX5_becomeLike_112 rfl fl_X5_28 rfl rfl ?_
      refine aw_ildn (n := 116) C dX5_becomeLike_115 rfl rfl ?_
      refine aw_iald (n := 117) C dX5_becomeLike_116 rfl rfl (by omega) (by omega) ?_
      refine aw_iast (n := 118) C dX5_becomeLike_117 rfl rfl (by omega) (by omega) ?_
      refine aw_aldn (n := 119) C dX5_becomeLike_118 rfl rfl ?_
      refine aw_getR (n := 122) C dX5_becomeLike_119 rfl fl_X5_31 rfl rfl ?_
      refine aw_ildn (n := 123) C dX5_becomeLike_122 rfl rfl ?_
      refine aw_aldn (n := 124) C dX5_becomeLike_123 rfl rfl ?_
      refine aw_getR (n := 127) C dX5_becomeLike_124 rfl fl_X5_31 rfl rfl ?_
      refine aw_ildn (n := 128) C dX5_becomeLike_127 rfl rfl ?_
      refine aw_iald (n := 129) C dX5_becomeLike_128 rfl rfl (by omega) (by omega) ?_
      refine aw_iast (n := 130) C dX5_becomeLike_129 rfl rfl (by omega) (by omega) ?_
      refine aw_iinc (n := 133) (L' := [_, _, _]) C dX5_becomeLike_130 rfl rfl (by decide) rfl rfl ?_
      refine aw_goto (tgt := 86) C dX5_becomeLike_133 rfl ?_
      refine ih (i + 1) _ (by omega) ?_ ?_ ?_
      · refine ⟨fr_tr f1 (fr_tr (fr_tr (fr_w (fr_st _ _ _ _) (by omega) (by omega)) (fr_w (fr_st _ _ _ _) (by omega) (by omega))) (fr_w (fr_st _ _ _ _) (by omega) (by omega))), ?_⟩
        simp only [st2, Nat.reduceEqDiff, false_and, if_false]
        exact ⟨f2, f3, f4, f5⟩
      · intro m m0 m1
        simp only [st2, Nat.reduceEqDiff, false_and, if_false]
        exact hm m m0 m1
      · intro p p0 p1
        simp only [st2, Nat.reduceEqDiff, false_and, if_false, true_and]
        by_cases e : p = (i : Int)
        · rw [if_pos e, if_pos e, if_pos e, e, f1 15 (by omega), f1 16 (by omega), f1 17 (by omega)]
          exact ⟨rfl, rfl, rfl⟩
        · rw [if_neg e, if_neg e, if_neg e]
          exact hpp p p0 (by omega)
theorem c_like_1 {X : AMX} {S : Mem} {post : Mem → Prop} (h8 : 0 ≤ S 10 8 ∧ S 10 8 ≤ 8) (h9 : 0 ≤ S 10 9 ∧ S 10 9 ≤ 4) (ht : ∀ m, 0 ≤ m → m < S 10 8 → S 12 m = 0 ∨ S 12 m = 1) (C : CX X 1 RX5 cX5_becomeLike 3) (hret : ∀ (pc : Nat) (L : List (Option AV)) (S' : Mem), decode cX5_becomeLike pc = .ok (.return_, 1) → post S' → AW X cX5_becomeLike 3 pc L [] S') (hp : ∀ S', LK S S' → post S') : ∀ (n i : Nat) (S1 : Mem), (i : Int) + n = S 10 8 → LKf S S1 → LKm i S S1 → AW X cX5_becomeLike 3 34 [some (.inr (.inr 28)), some (.inr (.inr 10)), some (.inl i)] [] S1 := by
  intro n
  induction n with
  | zero =>
    intro i S1 hi hf hm
    obtain ⟨f1, f2, f3, f4, f5⟩ := id hf
    refine aw_ildn (n := 35) C dX5_becomeLike_34 rfl rfl ?_
    refine aw_aldn (n := 36) C dX5_becomeLike_35 rfl rfl ?_
    refine aw_getI (z := 8) (n := 39) C dX5_becomeLike_36 rfl fl_X5_39 rfl rfl rfl ?_
    refine aw_icge (tgt := 84) (n := 42) C dX5_becomeLike_39 rfl rfl (by omega) (by omega) (fun h_39 => ?_) (fun h_39 => ?_)
    · refine aw_iconst (n := 85) C dX5_becomeLike_84 rfl ?_
      refine aw_istn (n := 86) (L' := [_, _, _]) C dX5_becomeLike_85 rfl (by decide) rfl rfl ?_
      exact c_like_2 h8 h9 C hret hp (S 10 9).toNat 0 S1 (by omega) hf (by rw [← show (i : Int) = S 10 8 by omega]; exact hm) (fun m h => by omega)
    · omega
  | succ n ih =>
    intro i S1 hi hf hm
    obtain ⟨f1, f2, f3, f4, f5⟩ := id hf
    have ht1 := ht i (by omega) (by omega)
    refine aw_ildn (n := 35) C dX5_becomeLike_34 rfl rfl ?_
    refine aw_aldn (n := 36) C dX5_becomeLike_35 rfl rfl ?_
    refine aw_getI (z := 8) (n := 39) C dX5_becomeLike_36 rfl fl_X5_39 rfl rfl rfl ?_
    refine aw_icge (tgt := 84) (n := 42) C dX5_becomeLike_39 rfl rfl (by omega) (by omega) (fun h_39 => ?_) (fun h_39 => ?_)
    · omega
    · refine aw_aldn (n := 43) C dX5_becomeLike_42 rfl rfl ?_
      refine aw_getR (n := 46) C dX5_becomeLike_43 rfl fl_X5_15 rfl rfl ?_
      refine aw_ildn (n := 47) C dX5_becomeLike_46 rfl rfl ?_
      refine aw_aldn (n := 48) C dX5_becomeLike_47 rfl rfl ?_
      refine aw_getR (n := 51) C dX5_becomeLike_48 rfl fl_X5_15 rfl rfl ?_
      refine aw_ildn (n := 52) C dX5_becomeLike_51 rfl rfl ?_
      refine aw_zald (n := 53) C dX5_becomeLike_52 rfl rfl (by omega) (by omega) ?_
      refine aw_zast (n := 54) C dX5_becomeLike_53 rfl rfl (by omega) (by omega) (by rw [f1 12 (by omega)]; exact ht1) ?_
      refine aw_aldn (n := 55) C dX5_becomeLike_54 rfl rfl ?_
      refine aw_getR (n := 58) C dX5_becomeLike_55 rfl fl_X5_19 rfl rfl ?_
      refine aw_ildn (n := 59) C dX5_becomeLike_58 rfl rfl ?_
      refine aw_aldn (n := 60) C dX5_becomeLike_59 rfl rfl ?_
      refine aw_getR (n := 63) C dX5_becomeLike_60 rfl fl_X5_19 rfl rfl ?_
      refine aw_ildn (n := 64) C dX5_becomeLike_63 rfl rfl ?_
      refine aw_iald (n := 65) C dX5_becomeLike_64 rfl rfl (by omega) (by omega) ?_
      refine aw_iast (n := 66) C dX5_becomeLike_65 rfl rfl (by omega) (by omega) ?_
      refine aw_aldn (n := 67) C dX5_becomeLike_66 rfl rfl ?_
      refine aw_getR (n := 70) C dX5_becomeLike_67 rfl fl_X5_22 rfl rfl ?_
      refine aw_ildn (n := 71) C dX5_becomeLike_70 rfl rfl ?_
      refine aw_aldn (n := 72) C dX5_becomeLike_71 rfl rfl ?_
      refine aw_getR (n := 75) C dX5_becomeLike_72 rfl fl_X5_22 rfl rfl ?_
      refine aw_ildn (n := 76) C dX5_becomeLike_75 rfl rfl ?_
      refine aw_iald (n := 77) C dX5_becomeLike_76 rfl rfl (by omega) (by omega) ?_
      refine aw_iast (n := 78) C dX5_becomeLike_77 rfl rfl (by omega) (by omega) ?_
      refine aw_iinc (n := 81) (L' := [_, _, _]) C dX5_becomeLike_78 rfl rfl (by decide) rfl rfl ?_
      refine aw_goto (tgt := 34) C dX5_becomeLike_81 rfl ?_
      refine ih (i + 1) _ (by omega) ?_ ?_
      · refine ⟨fr_tr f1 (fr_tr (fr_tr (fr_w (fr_st _ _ _ _) (by omega) (by omega)) (fr_w (fr_st _ _ _ _) (by omega) (by omega))) (fr_w (fr_st _ _ _ _) (by omega) (by omega))), ?_⟩
        simp only [st2, Nat.reduceEqDiff, false_and, if_false]
        exact ⟨f2, f3, f4, f5⟩
      · intro p p0 p1
        simp only [st2, Nat.reduceEqDiff, false_and, if_false, true_and]
        by_cases e : p = (i : Int)
        · rw [if_pos e, if_pos e, if_pos e, e, f1 12 (by omega), f1 13 (by omega), f1 14 (by omega)]
          exact ⟨rfl, rfl, rfl⟩
        · rw [if_neg e, if_neg e, if_neg e]
          exact hm p p0 (by omega)
theorem c_becomeLike {S : Mem} (h8 : 0 ≤ S 10 8 ∧ S 10 8 ≤ 8) (h9 : 0 ≤ S 10 9 ∧ S 10 9 ≤ 4) (ht : ∀ m, 0 ≤ m → m < S 10 8 → S 12 m = 0 ∨ S 12 m = 1) : AMv 1 yX5_becomeLike cX5_becomeLike 3 [.inr (.inr 28), .inr (.inr 10)] S (LK S) := by
  refine amv_intro (L := [_, _, none]) (by decide) rfl (Nat.le_of_ble_eq_true rfl) (fun X C hret => ?_)
  refine aw_aldn (n := 1) C dX5_becomeLike_0 rfl rfl ?_
  refine aw_aldn (n := 2) C dX5_becomeLike_1 rfl rfl ?_
  refine aw_getI (z := 8) (n := 5) C dX5_becomeLike_2 rfl fl_X5_39 rfl rfl rfl ?_
  refine aw_put (z := 8) (n := 8) C dX5_becomeLike_5 rfl fp_X5_39 rfl rfl rfl (Or.inl rfl) ?_
  refine aw_aldn (n := 9) C dX5_becomeLike_8 rfl rfl ?_
  refine aw_aldn (n := 10) C dX5_becomeLike_9 rfl rfl ?_
  refine aw_getI (z := 9) (n := 13) C dX5_becomeLike_10 rfl fl_X5_43 rfl rfl rfl ?_
  refine aw_put (z := 9) (n := 16) C dX5_becomeLike_13 rfl fp_X5_43 rfl rfl rfl (Or.inl rfl) ?_
  refine aw_aldn (n := 17) C dX5_becomeLike_16 rfl rfl ?_
  refine aw_aldn (n := 18) C dX5_becomeLike_17 rfl rfl ?_
  refine aw_getI (z := 10) (n := 21) C dX5_becomeLike_18 rfl fl_X5_46 rfl rfl rfl ?_
  refine aw_put (z := 10) (n := 24) C dX5_becomeLike_21 rfl fp_X5_46 rfl rfl rfl (Or.inl rfl) ?_
  refine aw_aldn (n := 25) C dX5_becomeLike_24 rfl rfl ?_
  refine aw_aldn (n := 26) C dX5_becomeLike_25 rfl rfl ?_
  refine aw_getI (z := 11) (n := 29) C dX5_becomeLike_26 rfl fl_X5_49 rfl rfl rfl ?_
  refine aw_put (z := 11) (n := 32) C dX5_becomeLike_29 rfl fp_X5_49 rfl rfl rfl (Or.inl rfl) ?_
  refine aw_iconst (n := 33) C dX5_becomeLike_32 rfl ?_
  refine aw_istn (n := 34) (L' := [_, _, _]) C dX5_becomeLike_33 rfl (by decide) rfl rfl ?_
  refine c_like_1 h8 h9 ht C hret (fun S' h => h) (S 10 8).toNat 0 _ (by omega) ⟨?_, ?_⟩ (fun m m0 m1 => by omega)
  · exact fr_tr (fr_tr (fr_tr (fr_w (fr_st _ _ _ _) (by omega) (by omega)) (fr_w (fr_st _ _ _ _) (by omega) (by omega))) (fr_w (fr_st _ _ _ _) (by omega) (by omega))) (fr_w (fr_st _ _ _ _) (by omega) (by omega))
  · simp [st2]
/-- the guess of a line within its bounds is within its bounds -/
theorem LK_TW {S S' : Mem} (T : TW 10 S) (h : LK S S') : TW 28 S' := by
  obtain ⟨t1, t2, t3, t4, t5, t6⟩ := TW10 T
  obtain ⟨⟨f1, f2, f3, f4, f5⟩, hm, hp, -⟩ := h
  unfold TW
  rw [f2, f3, f4, f5]
  refine ⟨t1, t2, t3, t4, fun m m0 m1 => ?_, fun p p0 p1 => ?_⟩
  · obtain ⟨e1, e2, e3⟩ := hm m m0 m1
    show (S' 30 m = 0 ∨ S' 30 m = 1) ∧ tok (S 10 9) (S' 31 m) (S' 32 m)
    rw [e1, e2, e3]
    exact t5 m m0 m1
  · obtain ⟨e1, e2, e3⟩ := hp p p0 p1
    show (0 ≤ S' 33 p ∧ S' 33 p ≤ 2) ∧ (0 ≤ S' 34 p ∧ S' 34 p ≤ 59) ∧ (0 ≤ S' 35 p ∧ S' 35 p ≤ 9)
    rw [e1, e2, e3]
    exact t6 p p0 p1
end
section
/-! Readings; Seating -/
theorem c_keep {S : Mem} {p m c : Int} (h : 0 ≤ S 46 3 ∧ S 46 3 < 8) : AMi 0 yX1_keep cX1_keep 4 (some .int) [.inr (.inr 46), .inl p, .inl m, .inl c] S (fun z S' => z = S 46 3 ∧ S' = st2 (st2 (st2 (st2 S 47 (S 46 3) p) 48 (S 46 3) m) 49 (S 46 3) c) 46 3 (S 46 3 + 1)) := by
  refine ami_intro (L := [_, _, _, _]) (by decide) (Or.inl rfl) rfl (Nat.le_of_ble_eq_true rfl) (fun X C hret => ?_)
  refine aw_aldn (n := 1) C dX1_keep_0 rfl rfl ?_
  refine aw_getR (n := 4) C dX1_keep_1 rfl fl_X1_9 rfl rfl ?_
  refine aw_aldn (n := 5) C dX1_keep_4 rfl rfl ?_
  refine aw_getI (z := 3) (n := 8) C dX1_keep_5 rfl fl_X1_21 rfl rfl rfl ?_
  refine aw_ildn (n := 9) C dX1_keep_8 rfl rfl ?_
  skip
  refine aw_iast (n := 10) C dX1_keep_9 rfl rfl (by omega) (by omega) ?_
  refine aw_aldn (n := 11) C dX1_keep_10 rfl rfl ?_
  refine aw_getR (n := 14) C dX1_keep_11 rfl fl_X1_15 rfl rfl ?_
  refine aw_aldn (n := 15) C dX1_keep_14 rfl rfl ?_
  refine aw_getI (z := 3) (n := 18) C dX1_keep_15 rfl fl_X1_21 rfl rfl rfl ?_
  rw [show st2 S 47 (S 46 3) p 46 3 = S 46 3 from rfl]
  refine aw_ildn (n := 19) C dX1_keep_18 rfl rfl ?_
  refine aw_iast (n := 20) C dX1_keep_19 rfl rfl (by omega) (by omega) ?_
  refine aw_aldn (n := 21) C dX1_keep_20 rfl rfl ?_
  refine aw_getR (n := 24) C dX1_keep_21 rfl fl_X1_18 rfl rfl ?_
  refine aw_aldn (n := 25) C dX1_keep_24 rfl rfl ?_
  refine aw_getI (z := 3) (n := 28) C dX1_keep_25 rfl fl_X1_21 rfl rfl rfl ?_
  rw [show st2 (st2 S 47 (S 46 3) p) 48 (S 46 3) m 46 3 = S 46 3 from rfl]
  refine aw_ildn (n := 29) C dX1_keep_28 rfl rfl ?_
  refine aw_iast (n := 30) C dX1_keep_29 rfl rfl (by omega) (by omega) ?_
  refine aw_aldn (n := 31) C dX1_keep_30 rfl rfl ?_
  refine aw_dup (n := 32) C dX1_keep_31 rfl rfl ?_
  refine aw_getI (z := 3) (n := 35) C dX1_keep_32 rfl fl_X1_21 rfl rfl rfl ?_
  rw [show st2 (st2 (st2 S 47 (S 46 3) p) 48 (S 46 3) m) 49 (S 46 3) c 46 3 = S 46 3 from rfl]
  refine aw_iconst (n := 36) C dX1_keep_35 rfl ?_
  refine aw_iadd (n := 37) C dX1_keep_36 rfl ?_
  refine aw_put (z := 3) (n := 40) C dX1_keep_37 rfl fp_X1_21 rfl rfl rfl (Or.inl rfl) ?_
  refine aw_aldn (n := 41) C dX1_keep_40 rfl rfl ?_
  refine aw_getI (z := 3) (n := 44) C dX1_keep_41 rfl fl_X1_21 rfl rfl rfl ?_
  refine aw_iconst (n := 45) C dX1_keep_44 rfl ?_
  refine aw_isub (n := 46) C dX1_keep_45 rfl ?_
  refine hret 46 _ _ _ dX1_keep_46 (Or.inl rfl) ?_
  exact ⟨by rw [st2_s]; omega, rfl⟩
/-- all readings are so on the guess -/
def soG (S : Mem) (n : Int) : Prop := ∀ k, 0 ≤ k → k < n → due (S 28 10) (S 28 11) (S (37 + (S 48 k).toNat) (S 47 k)) = S 49 k
theorem c_areSo_loop {X : AMX} {S : Mem} {post : Int → Mem → Prop} (T : TW 28 S) (hn : 0 ≤ S 46 3 ∧ S 46 3 ≤ 8) (hq : ∀ k, 0 ≤ k → k < S 46 3 → (0 ≤ S 47 k ∧ S 47 k < S 28 9) ∧ (0 ≤ S 48 k ∧ S 48 k ≤ S 28 8) ∧ (0 ≤ S 49 k ∧ S 49 k ≤ 2)) (hr : ∀ m : Nat, (m : Int) ≤ S 28 8 → ∀ p, 0 ≤ p → p < S 28 9 → 0 ≤ S (37 + m) p ∧ S (37 + m) p ≤ 99) (C : CX X 1 RX1 cX1_areSo 3) (hret : ∀ (pc : Nat) (L : List (Option AV)) (z : Int) (S' : Mem), decode cX1_areSo pc = .ok (.ireturn, 1) → ((some FieldType.boolean) = some .int ∨ ((some FieldType.boolean) = some .boolean ∧ (z = 0 ∨ z = 1))) → post z S' → AW X cX1_areSo 3 pc L [.inl z] S') (hp : ∀ z, (z = 0 ∨ z = 1) → (z = 1 ↔ soG S (S 46 3)) → post z S) : ∀ (n i : Nat), (i : Int) + n = S 46 3 → soG S i → AW X cX1_areSo 3 2 [some (.inr (.inr 46)), some (.inr (.inr 28)), some (.inl i)] [] S := by
  obtain ⟨t1, t2, t3, t4, -, -⟩ := TW28 T
  intro n
  induction n with
  | zero =>
    intro i hi hs
    refine aw_ildn (n := 3) C dX1_areSo_2 rfl rfl ?_
    refine aw_aldn (n := 4) C dX1_areSo_3 rfl rfl ?_
    refine aw_getI (z := 3) (n := 7) C dX1_areSo_4 rfl fl_X1_21 rfl rfl rfl ?_
    refine aw_icge (tgt := 43) (n := 10) C dX1_areSo_7 rfl rfl (by omega) (by omega) (fun h_7 => ?_) (fun h_7 => ?_)
    · refine aw_iconst (n := 44) C dX1_areSo_43 rfl ?_
      refine hret 44 _ _ _ dX1_areSo_44 (Or.inr ⟨rfl, by omega⟩) ?_
      exact hp 1 (Or.inr rfl) ⟨fun _ => by rw [← show (i : Int) = S 46 3 by omega]; exact hs, fun _ => rfl⟩
    · omega
  | succ n ih =>
    intro i hi hs
    obtain ⟨q1, q2, q3⟩ := hq i (by omega) (by omega)
    obtain ⟨w, hw⟩ : ∃ w : Nat, S 48 i = w := ⟨(S 48 i).toNat, by omega⟩
    have hrw := hr w (by omega) (S 47 i) (by omega) (by omega)
    have hd := due_r (S 28 10) (S 28 11) (S (37 + w) (S 47 i))
    refine aw_ildn (n := 3) C dX1_areSo_2 rfl rfl ?_
    refine aw_aldn (n := 4) C dX1_areSo_3 rfl rfl ?_
    refine aw_getI (z := 3) (n := 7) C dX1_areSo_4 rfl fl_X1_21 rfl rfl rfl ?_
    refine aw_icge (tgt := 43) (n := 10) C dX1_areSo_7 rfl rfl (by omega) (by omega) (fun h_7 => ?_) (fun h_7 => ?_)
    · omega
    · refine aw_aldn (n := 11) C dX1_areSo_10 rfl rfl ?_
      refine aw_aldn (n := 12) C dX1_areSo_11 rfl rfl ?_
      refine aw_getR (n := 15) C dX1_areSo_12 rfl fl_X1_9 rfl rfl ?_
      refine aw_ildn (n := 16) C dX1_areSo_15 rfl rfl ?_
      refine aw_iald (n := 17) C dX1_areSo_16 rfl rfl (by omega) (by omega) ?_
      refine aw_aldn (n := 18) C dX1_areSo_17 rfl rfl ?_
      refine aw_getR (n := 21) C dX1_areSo_18 rfl fl_X1_15 rfl rfl ?_
      refine aw_ildn (n := 22) C dX1_areSo_21 rfl rfl ?_
      refine aw_iald (n := 23) C dX1_areSo_22 rfl rfl (by omega) (by omega) ?_
      rw [hw]
      refine aw_cVi (n := 26) (vs := [_, _]) C dX1_areSo_23 rfl rfl rfl mm_X5_classDue wM_X1_25 rfl rfl (Nat.le_of_ble_eq_true rfl) (c_classDue28 (m := w) (by omega) (by omega) (by omega) (by omega) (by omega) (by omega)) (by decide) (fun z_23 S_23 q_23 => ?_)
      rw [q_23.1, q_23.2]
      clear q_23 S_23 z_23
      refine aw_aldn (n := 27) C dX1_areSo_26 rfl rfl ?_
      refine aw_getR (n := 30) C dX1_areSo_27 rfl fl_X1_18 rfl rfl ?_
      refine aw_ildn (n := 31) C dX1_areSo_30 rfl rfl ?_
      refine aw_iald (n := 32) C dX1_areSo_31 rfl rfl (by omega) (by omega) ?_
      refine aw_iceq (tgt := 37) (n := 35) C dX1_areSo_32 rfl rfl (by omega) (by omega) (fun h_32 => ?_) (fun h_32 => ?_)
      · refine aw_iinc (n := 40) (L' := [_, _, _]) C dX1_areSo_37 rfl rfl (by decide) rfl rfl ?_
        refine aw_goto (tgt := 2) C dX1_areSo_40 rfl ?_
        refine ih (i + 1) (by omega) (fun k k0 k1 => ?_)
        by_cases e : k = (i : Int)
        · rw [e, hw, Int.toNat_natCast]
          exact h_32
        · exact hs k k0 (by omega)
      · refine aw_iconst (n := 36) C dX1_areSo_35 rfl ?_
        refine hret 36 _ _ _ dX1_areSo_36 (Or.inr ⟨rfl, by omega⟩) ?_
        refine hp 0 (Or.inl rfl) ⟨fun h => by omega, fun h => ?_⟩
        have := h i (by omega) (by omega)
        rw [hw, Int.toNat_natCast] at this
        exact absurd this h_32
theorem c_areSo {S : Mem} (T : TW 28 S) (hn : 0 ≤ S 46 3 ∧ S 46 3 ≤ 8) (hq : ∀ k, 0 ≤ k → k < S 46 3 → (0 ≤ S 47 k ∧ S 47 k < S 28 9) ∧ (0 ≤ S 48 k ∧ S 48 k ≤ S 28 8) ∧ (0 ≤ S 49 k ∧ S 49 k ≤ 2)) (hr : ∀ m : Nat, (m : Int) ≤ S 28 8 → ∀ p, 0 ≤ p → p < S 28 9 → 0 ≤ S (37 + m) p ∧ S (37 + m) p ≤ 99) : AMi 1 yX1_areSo cX1_areSo 3 (some .boolean) [.inr (.inr 46), .inr (.inr 28)] S (fun z S' => ((z = 0 ∨ z = 1) ∧ (z = 1 ↔ soG S (S 46 3))) ∧ S' = S) := by
  refine ami_intro (L := [_, _, none]) (by decide) (Or.inr rfl) rfl (Nat.le_of_ble_eq_true rfl) (fun X C hret => ?_)
  refine aw_iconst (n := 1) C dX1_areSo_0 rfl ?_
  refine aw_istn (n := 2) (L' := [_, _, _]) C dX1_areSo_1 rfl (by decide) rfl rfl ?_
  exact c_areSo_loop T hn hq hr C hret (fun z h1 h2 => ⟨⟨h1, h2⟩, rfl⟩) (S 46 3).toNat 0 (by omega) (fun k k0 k1 => by omega)
theorem c_noClass {S : Mem} {c : Int} (h : rng c) : AMi 0 yX6_noClass cX6_noClass 1 (some .boolean) [.inl c] S (fun z S' => z = (if c < 0 ∨ 3 ≤ c then 1 else 0) ∧ S' = S) := by
  refine ami_intro (L := [_]) (by decide) (Or.inr rfl) rfl (Nat.le_of_ble_eq_true rfl) (fun X C hret => ?_)
  refine aw_ildn (n := 1) C dX6_noClass_0 rfl rfl ?_
  refine aw_iflt (tgt := 9) (n := 4) C dX6_noClass_1 rfl rfl (by omega) (fun h_1 => ?_) (fun h_1 => ?_)
  · refine aw_iconst (n := 10) C dX6_noClass_9 rfl ?_
    refine aw_goto (tgt := 14) C dX6_noClass_10 rfl ?_
    refine hret 14 _ _ _ dX6_noClass_14 (Or.inr ⟨rfl, by omega⟩) ?_
    exact ⟨by omega, rfl⟩
  · refine aw_ildn (n := 5) C dX6_noClass_4 rfl rfl ?_
    refine aw_iconst (n := 6) C dX6_noClass_5 rfl ?_
    refine aw_iclt (tgt := 13) (n := 9) C dX6_noClass_6 rfl rfl (by omega) (by omega) (fun h_6 => ?_) (fun h_6 => ?_)
    · refine aw_iconst (n := 14) C dX6_noClass_13 rfl ?_
      refine hret 14 _ _ _ dX6_noClass_14 (Or.inr ⟨rfl, by omega⟩) ?_
      exact ⟨by omega, rfl⟩
    · refine aw_iconst (n := 10) C dX6_noClass_9 rfl ?_
      refine aw_goto (tgt := 14) C dX6_noClass_10 rfl ?_
      refine hret 14 _ _ _ dX6_noClass_14 (Or.inr ⟨rfl, by omega⟩) ?_
      exact ⟨by omega, rfl⟩
/-- a place in a seating's row -/
theorem ix_in {m p M P : Int} (m0 : 0 ≤ m) (m1 : m < M) (M8 : M ≤ 8) (p0 : 0 ≤ p) (p1 : p < P) (P4 : P ≤ 4) : 0 ≤ m * P + p ∧ m * P + p < M * P ∧ M * P ≤ 32 ∧ m * P + p < 32 := by
  rcases (show P = 1 ∨ P = 2 ∨ P = 3 ∨ P = 4 by omega) with rfl | rfl | rfl | rfl <;> omega
theorem mp_in {M P : Int} (m0 : 0 ≤ M) (M8 : M ≤ 8) (p0 : 0 ≤ P) (P4 : P ≤ 4) : 0 ≤ M * P ∧ M * P ≤ 32 := by
  rcases (show P = 0 ∨ P = 1 ∨ P = 2 ∨ P = 3 ∨ P = 4 by omega) with rfl | rfl | rfl | rfl | rfl <;> omega
theorem c_readFrom_loop {X : AMX} {S : Mem} {k : Nat} {i : Int} {post : Int → Mem → Prop} (hk : k < 4) (h8 : 0 ≤ S 10 8 ∧ S 10 8 ≤ 8) (h9 : 0 ≤ S 10 9 ∧ S 10 9 ≤ 4) (hi : 0 ≤ i) (hin : i + S 10 8 * S 10 9 ≤ 60) (hc : ∀ j, rng (S (6 + k) j)) (C : CX X 1 RX2 cX2_readFrom 5) (hret : ∀ (pc : Nat) (L : List (Option AV)) (z : Int) (S' : Mem), decode cX2_readFrom pc = .ok (.ireturn, 1) → ((some FieldType.boolean) = some .int ∨ ((some FieldType.boolean) = some .boolean ∧ (z = 0 ∨ z = 1))) → post z S' → AW X cX2_readFrom 5 pc L [.inl z] S') (hp : ∀ z S', fr 51 52 S S' → (z = 0 ∨ z = 1) → (z = 1 ↔ ∀ j, 0 ≤ j → j < S 10 8 * S 10 9 → 0 ≤ S (6 + k) (i + j) ∧ S (6 + k) (i + j) < 3) → (z = 1 → ∀ j, 0 ≤ j → j < S 10 8 * S 10 9 → S' 51 j = S (6 + k) (i + j)) → post z S') : ∀ (n j : Nat) (S1 : Mem), (j : Int) + n = S 10 8 * S 10 9 → fr 51 52 S S1 → (∀ q : Int, 0 ≤ q → q < j → (0 ≤ S (6 + k) (i + q) ∧ S (6 + k) (i + q) < 3) ∧ S1 51 q = S (6 + k) (i + q)) → AW X cX2_readFrom 5 19 [some (.inr (.inr 50)), some (.inr (.inr (6 + k))), some (.inl i), some (.inl (S 10 8 * S 10 9)), some (.inl j)] [] S1 := by
  have hmp := mp_in h8.1 h8.2 h9.1 h9.2
  intro n
  induction n with
  | zero =>
    intro j S1 hj hf hv
    refine aw_ildw (n := 21) C dX2_readFrom_19 rfl rfl ?_
    refine aw_ildn (n := 22) C dX2_readFrom_21 rfl rfl ?_
    refine aw_icge (tgt := 58) (n := 25) C dX2_readFrom_22 rfl rfl (by omega) (by omega) (fun h_22 => ?_) (fun h_22 => ?_)
    · refine aw_iconst (n := 59) C dX2_readFrom_58 rfl ?_
      refine hret 59 _ _ _ dX2_readFrom_59 (Or.inr ⟨rfl, by omega⟩) ?_
      exact hp 1 S1 hf (Or.inr rfl) ⟨fun _ q q0 q1 => (hv q q0 (by omega)).1, fun _ => rfl⟩ (fun _ q q0 q1 => (hv q q0 (by omega)).2)
    · omega
  | succ n ih =>
    intro j S1 hj hf hv
    have hcj := hc (i + j)
    refine aw_ildw (n := 21) C dX2_readFrom_19 rfl rfl ?_
    refine aw_ildn (n := 22) C dX2_readFrom_21 rfl rfl ?_
    refine aw_icge (tgt := 58) (n := 25) C dX2_readFrom_22 rfl rfl (by omega) (by omega) (fun h_22 => ?_) (fun h_22 => ?_)
    · omega
    · refine aw_aldn (n := 26) C dX2_readFrom_25 rfl rfl ?_
      refine aw_ildn (n := 27) C dX2_readFrom_26 rfl rfl ?_
      refine aw_ildw (n := 29) C dX2_readFrom_27 rfl rfl ?_
      refine aw_iadd (n := 30) C dX2_readFrom_29 rfl ?_
      refine aw_iald (n := 31) C dX2_readFrom_30 rfl (sc hk) (by omega) (by omega) ?_
      rw [hf (6 + k) (by omega)]
      refine aw_cNest (n := 34) (vs := [_]) C dX2_readFrom_31 rfl rfl rfl mm_X6_noClass (Nat.le_of_ble_eq_true rfl) (c_noClass hcj) (by decide) (fun z_31 S_31 q_31 => ?_)
      rw [q_31.1, q_31.2]
      clear q_31 S_31 z_31
      refine aw_ifeq (tgt := 39) (n := 37) C dX2_readFrom_34 rfl rfl (by omega) (fun h_34 => ?_) (fun h_34 => ?_)
      · refine aw_aldn (n := 40) C dX2_readFrom_39 rfl rfl ?_
        refine aw_getR (n := 43) C dX2_readFrom_40 rfl fl_X2_9 rfl rfl ?_
        refine aw_ildw (n := 45) C dX2_readFrom_43 rfl rfl ?_
        refine aw_aldn (n := 46) C dX2_readFrom_45 rfl rfl ?_
        refine aw_ildn (n := 47) C dX2_readFrom_46 rfl rfl ?_
        refine aw_ildw (n := 49) C dX2_readFrom_47 rfl rfl ?_
        refine aw_iadd (n := 50) C dX2_readFrom_49 rfl ?_
        refine aw_iald (n := 51) C dX2_readFrom_50 rfl (sc hk) (by omega) (by omega) ?_
        rw [hf (6 + k) (by omega)]
        refine aw_iast (n := 52) C dX2_readFrom_51 rfl rfl (by omega) (by omega) ?_
        refine aw_iinc (n := 55) (L' := [_, _, _, _, _]) C dX2_readFrom_52 rfl rfl (by decide) rfl rfl ?_
        refine aw_goto (tgt := 19) C dX2_readFrom_55 rfl ?_
        refine ih (j + 1) _ (by omega) (fr_tr hf (fr_w (fr_st _ _ _ _) (by omega) (by omega))) (fun q q0 q1 => ?_)
        by_cases e : q = (j : Int)
        · rw [e, st2_s]
          exact ⟨by omega, rfl⟩
        · rw [st2_n e]
          exact hv q q0 (by omega)
      · refine aw_iconst (n := 38) C dX2_readFrom_37 rfl ?_
        refine hret 38 _ _ _ dX2_readFrom_38 (Or.inr ⟨rfl, by omega⟩) ?_
        refine hp 0 S1 hf (Or.inl rfl) ⟨fun h => by omega, fun h => ?_⟩ (fun h => by omega)
        have := h j (by omega) (by omega)
        omega
theorem c_readFrom {S : Mem} {k : Nat} {i : Int} (hk : k < 4) (h8 : 0 ≤ S 10 8 ∧ S 10 8 ≤ 8) (h9 : 0 ≤ S 10 9 ∧ S 10 9 ≤ 4) (hi : 0 ≤ i) (hin : i + S 10 8 * S 10 9 ≤ 60) (hc : ∀ j, rng (S (6 + k) j)) : AMi 1 yX2_readFrom cX2_readFrom 5 (some .boolean) [.inr (.inr 50), .inr (.inr (6 + k)), .inl i] S (fun z S' => fr 51 52 S S' ∧ (z = 0 ∨ z = 1) ∧ (z = 1 ↔ ∀ j, 0 ≤ j → j < S 10 8 * S 10 9 → 0 ≤ S (6 + k) (i + j) ∧ S (6 + k) (i + j) < 3) ∧ (z = 1 → ∀ j, 0 ≤ j → j < S 10 8 * S 10 9 → S' 51 j = S (6 + k) (i + j))) := by
  have hmp := mp_in h8.1 h8.2 h9.1 h9.2
  refine ami_intro (L := [_, _, _, none, none]) (by decide) (Or.inr rfl) rfl (Nat.le_of_ble_eq_true rfl) (fun X C hret => ?_)
  refine aw_aldn (n := 1) C dX2_readFrom_0 rfl rfl ?_
  refine aw_getR (n := 4) C dX2_readFrom_1 rfl fl_X2_18 rfl rfl ?_
  refine aw_getI (z := 8) (n := 7) C dX2_readFrom_4 rfl fl_X2_22 rfl rfl rfl ?_
  refine aw_aldn (n := 8) C dX2_readFrom_7 rfl rfl ?_
  refine aw_getR (n := 11) C dX2_readFrom_8 rfl fl_X2_18 rfl rfl ?_
  refine aw_getI (z := 9) (n := 14) C dX2_readFrom_11 rfl fl_X2_28 rfl rfl rfl ?_
  refine aw_imul (n := 15) C dX2_readFrom_14 rfl ?_
  refine aw_istn (n := 16) (L' := [_, _, _, _, _]) C dX2_readFrom_15 rfl (by decide) rfl rfl ?_
  refine aw_iconst (n := 17) C dX2_readFrom_16 rfl ?_
  refine aw_istw (n := 19) (L' := [_, _, _, _, _]) C dX2_readFrom_17 rfl (by decide) rfl rfl ?_
  exact c_readFrom_loop hk h8 h9 hi hin hc C hret (fun z S' a b c d => ⟨a, b, c, d⟩) (S 10 8 * S 10 9).toNat 0 S (by omega) (fr_rf _ _ _) (fun q q0 q1 => by omega)
theorem c_classOf {S : Mem} {p m : Int} (h8 : 0 ≤ S 10 8 ∧ S 10 8 ≤ 8) (h9 : 0 ≤ S 10 9 ∧ S 10 9 ≤ 4) (p0 : 0 ≤ p) (p1 : p < S 10 9) (m0 : 0 ≤ m) (m1 : m < S 10 8) : AMi 0 yX2_classOf cX2_classOf 3 (some .int) [.inr (.inr 50), .inl p, .inl m] S (fun z S' => z = S 51 (m * S 10 9 + p) ∧ S' = S) := by
  have hix := ix_in m0 m1 h8.2 p0 p1 h9.2
  refine ami_intro (L := [_, _, _]) (by decide) (Or.inl rfl) rfl (Nat.le_of_ble_eq_true rfl) (fun X C hret => ?_)
  refine aw_aldn (n := 1) C dX2_classOf_0 rfl rfl ?_
  refine aw_getR (n := 4) C dX2_classOf_1 rfl fl_X2_9 rfl rfl ?_
  refine aw_ildn (n := 5) C dX2_classOf_4 rfl rfl ?_
  refine aw_aldn (n := 6) C dX2_classOf_5 rfl rfl ?_
  refine aw_getR (n := 9) C dX2_classOf_6 rfl fl_X2_18 rfl rfl ?_
  refine aw_getI (z := 9) (n := 12) C dX2_classOf_9 rfl fl_X2_28 rfl rfl rfl ?_
  refine aw_imul (n := 13) C dX2_classOf_12 rfl ?_
  refine aw_ildn (n := 14) C dX2_classOf_13 rfl rfl ?_
  refine aw_iadd (n := 15) C dX2_classOf_14 rfl ?_
  refine aw_iald (n := 16) C dX2_classOf_15 rfl rfl (by omega) (by omega) ?_
  refine hret 16 _ _ _ dX2_classOf_16 (Or.inl rfl) ?_
  exact ⟨rfl, rfl⟩
end
section
/-! Seating: what is counted -/
def fCh (q : Fn) (P : Int) (k : Nat) : Int := if q ((k : Int) + P) = q (k : Int) then 0 else 1
def fLo (q : Fn) (P : Int) (du : Int → Int → Int) (k : Nat) : Int := max 0 (q (k : Int) - du ((k : Int) / P) ((k : Int) % P))
def fAb (q : Fn) (P : Int) (du : Int → Int → Int) (p : Int) (m : Nat) : Int := if q ((m : Int) * P + p) < du (m : Int) p then 1 else 0
/-- dues by the line's regrets -/
def duC (S : Mem) (m p : Int) : Int := due (S 10 10) (S 10 11) (S (19 + m.toNat) p)
theorem duC_n (S : Mem) (m : Nat) (p : Int) : duC S (m : Int) p = due (S 10 10) (S 10 11) (S (19 + m) p) := by unfold duC; rw [Int.toNat_natCast]
theorem sm_s (f : Nat → Int) (n : Nat) : sm f (n + 1) = sm f n + f n := rfl
theorem dm {m p P : Nat} (h : p < P) : (((m * P + p : Nat) : Int) / (P : Int) = (m : Int)) ∧ (((m * P + p : Nat) : Int) % (P : Int) = (p : Int)) := by
  have h1 : (m * P + p) / P = m := by rw [Nat.mul_comm, Nat.mul_add_div (by omega), Nat.div_eq_of_lt h, Nat.add_zero]
  have h2 : (m * P + p) % P = p := by rw [Nat.mul_comm, Nat.mul_add_mod, Nat.mod_eq_of_lt h]
  rw [← Int.natCast_ediv, ← Int.natCast_emod, h1, h2]
  exact ⟨rfl, rfl⟩
/-- the seating's numbers are within their bounds -/
def SW (S : Mem) (M P : Nat) : Prop := S 10 8 = (M : Int) ∧ S 10 9 = (P : Int) ∧ M ≤ 8 ∧ P ≤ 4 ∧ (∀ j, 0 ≤ j → j < S 10 8 * S 10 9 → 0 ≤ S 51 j ∧ S 51 j < 3) ∧ rng (S 10 10) ∧ rng (S 10 11) ∧ (∀ m : Nat, m ≤ M → ∀ p, 0 ≤ p → p < S 10 9 → rng (S (19 + m) p))
theorem SW_q {S : Mem} {M P m p : Nat} (h : SW S M P) (hm : m < M) (hp : p < P) : 0 ≤ S 51 ((m : Int) * S 10 9 + (p : Int)) ∧ S 51 ((m : Int) * S 10 9 + (p : Int)) < 3 := by
  obtain ⟨h1, h2, h3, h4, h5, -⟩ := h
  have := ix_in (m := m) (p := p) (M := S 10 8) (P := S 10 9) (by omega) (by omega) (by omega) (by omega) (by omega) (by omega)
  exact h5 _ this.1 this.2.1
section SEAT
variable {X : AMX} {S : Mem} {M P : Nat}
theorem c_cc_in {j : Nat} (hS : SW S M P) (hj : j + 1 < M) (C : CX X 1 RX2 cX2_countChanges 4) (k : AW X cX2_countChanges 4 54 [some (.inr (.inr 50)), some (.inl (sm (fCh (S 51) P) ((j + 1) * P))), some (.inl ((j : Int) + 1)), some (.inl P)] [] S) : ∀ (n p : Nat), p + n = P → AW X cX2_countChanges 4 17 [some (.inr (.inr 50)), some (.inl (sm (fCh (S 51) P) (j * P + p))), some (.inl ((j : Int) + 1)), some (.inl p)] [] S := by
  obtain ⟨h1, h2, h3, h4, h5, -⟩ := id hS
  intro n
  induction n with
  | zero =>
    intro p hp
    obtain rfl : p = P := by omega
    rw [Nat.succ_mul] at k
    refine aw_ildn (n := 18) C dX2_countChanges_17 rfl rfl ?_
    refine aw_aldn (n := 19) C dX2_countChanges_18 rfl rfl ?_
    refine aw_getR (n := 22) C dX2_countChanges_19 rfl fl_X2_18 rfl rfl ?_
    refine aw_getI (z := 9) (n := 25) C dX2_countChanges_22 rfl fl_X2_28 rfl rfl rfl ?_
    refine aw_icge (tgt := 54) (n := 28) C dX2_countChanges_25 rfl rfl (by omega) (by omega) (fun h_25 => ?_) (fun h_25 => ?_)
    · exact k
    · omega
  | succ n ih =>
    intro p hp
    have q1 := SW_q hS (m := j + 1) (p := p) (by omega) (by omega)
    have q2 := SW_q hS (m := j) (p := p) (by omega) (by omega)
    have e1 : (((j + 1 : Nat) : Int) * S 10 9 + (p : Int)) = ((j * P + p : Nat) : Int) + (P : Int) := by rw [h2, Int.natCast_add, Int.natCast_add, Int.natCast_mul, Int.add_mul]; omega
    have e2 : ((j : Int) * S 10 9 + (p : Int)) = ((j * P + p : Nat) : Int) := by rw [h2, Int.natCast_add, Int.natCast_mul]
    have es : sm (fCh (S 51) P) (j * P + (p + 1)) = sm (fCh (S 51) P) (j * P + p) + fCh (S 51) P (j * P + p) := rfl
    refine aw_ildn (n := 18) C dX2_countChanges_17 rfl rfl ?_
    refine aw_aldn (n := 19) C dX2_countChanges_18 rfl rfl ?_
    refine aw_getR (n := 22) C dX2_countChanges_19 rfl fl_X2_18 rfl rfl ?_
    refine aw_getI (z := 9) (n := 25) C dX2_countChanges_22 rfl fl_X2_28 rfl rfl rfl ?_
    refine aw_icge (tgt := 54) (n := 28) C dX2_countChanges_25 rfl rfl (by omega) (by omega) (fun h_25 => ?_) (fun h_25 => ?_)
    · omega
    · refine aw_aldn (n := 29) C dX2_countChanges_28 rfl rfl ?_
      refine aw_ildn (n := 30) C dX2_countChanges_29 rfl rfl ?_
      refine aw_ildn (n := 31) C dX2_countChanges_30 rfl rfl ?_
      refine aw_cVi (n := 34) (vs := [_, _]) C dX2_countChanges_31 rfl rfl rfl mm_X2_classOf wM_X2_41 rfl rfl (Nat.le_of_ble_eq_true rfl) (c_classOf (m := ((j + 1 : Nat) : Int)) (by omega) (by omega) (by omega) (by omega) (by omega) (by omega)) (by decide) (fun z_31 S_31 q_31 => ?_)
      rw [q_31.1, q_31.2]
      clear q_31 S_31 z_31
      refine aw_aldn (n := 35) C dX2_countChanges_34 rfl rfl ?_
      refine aw_ildn (n := 36) C dX2_countChanges_35 rfl rfl ?_
      refine aw_ildn (n := 37) C dX2_countChanges_36 rfl rfl ?_
      refine aw_iconst (n := 38) C dX2_countChanges_37 rfl ?_
      refine aw_isub (n := 39) C dX2_countChanges_38 rfl ?_
      rw [show (j : Int) + 1 - 1 = (j : Int) by omega]
      refine aw_cVi (n := 42) (vs := [_, _]) C dX2_countChanges_39 rfl rfl rfl mm_X2_classOf wM_X2_41 rfl rfl (Nat.le_of_ble_eq_true rfl) (c_classOf (m := (j : Int)) (by omega) (by omega) (by omega) (by omega) (by omega) (by omega)) (by decide) (fun z_39 S_39 q_39 => ?_)
      rw [q_39.1, q_39.2]
      clear q_39 S_39 z_39
      refine aw_iceq (tgt := 48) (n := 45) C dX2_countChanges_42 rfl rfl (by omega) (by omega) (fun h_42 => ?_) (fun h_42 => ?_)
      · refine aw_iinc (n := 51) (L' := [_, _, _, _]) C dX2_countChanges_48 rfl rfl (by decide) rfl rfl ?_
        refine aw_goto (tgt := 17) C dX2_countChanges_51 rfl ?_
        have := ih (p + 1) (by omega)
        rw [es] at this
        unfold fCh at this
        rw [e1, e2] at h_42
        first | (rw [if_pos h_42, Int.add_zero] at this; exact this) | (rw [if_neg h_42] at this; exact this)
      · refine aw_iinc (n := 48) (L' := [_, _, _, _]) C dX2_countChanges_45 rfl rfl (by decide) rfl rfl ?_
        refine aw_iinc (n := 51) (L' := [_, _, _, _]) C dX2_countChanges_48 rfl rfl (by decide) rfl rfl ?_
        refine aw_goto (tgt := 17) C dX2_countChanges_51 rfl ?_
        have := ih (p + 1) (by omega)
        rw [es] at this
        unfold fCh at this
        rw [e1, e2] at h_42
        first | (rw [if_pos h_42, Int.add_zero] at this; exact this) | (rw [if_neg h_42] at this; exact this)
theorem c_countChanges_loop {post : Int → Mem → Prop} (hS : SW S M P) (C : CX X 1 RX2 cX2_countChanges 4) (hret : ∀ (pc : Nat) (L : List (Option AV)) (z : Int) (S' : Mem), decode cX2_countChanges pc = .ok (.ireturn, 1) → ((some FieldType.int) = some .int ∨ ((some FieldType.int) = some .boolean ∧ (z = 0 ∨ z = 1))) → post z S' → AW X cX2_countChanges 4 pc L [.inl z] S') (hp : post (sm (fCh (S 51) P) ((M - 1) * P)) S) : ∀ (n j : Nat) (x : Option AV), j + 1 + n = M → AW X cX2_countChanges 4 4 [some (.inr (.inr 50)), some (.inl (sm (fCh (S 51) P) (j * P))), some (.inl ((j : Int) + 1)), x] [] S := by
  obtain ⟨h1, h2, h3, h4, h5, -⟩ := id hS
  intro n
  induction n with
  | zero =>
    intro j x hj
    refine aw_ildn (n := 5) C dX2_countChanges_4 rfl rfl ?_
    refine aw_aldn (n := 6) C dX2_countChanges_5 rfl rfl ?_
    refine aw_getR (n := 9) C dX2_countChanges_6 rfl fl_X2_18 rfl rfl ?_
    refine aw_getI (z := 8) (n := 12) C dX2_countChanges_9 rfl fl_X2_22 rfl rfl rfl ?_
    refine aw_icge (tgt := 60) (n := 15) C dX2_countChanges_12 rfl rfl (by omega) (by omega) (fun h_12 => ?_) (fun h_12 => ?_)
    · refine aw_ildn (n := 61) C dX2_countChanges_60 rfl rfl ?_
      refine hret 61 _ _ _ dX2_countChanges_61 (Or.inl rfl) ?_
      rw [show M - 1 = j by omega] at hp
      exact hp
    · omega
  | succ n ih =>
    intro j x hj
    have k54 : AW X cX2_countChanges 4 54 [some (.inr (.inr 50)), some (.inl (sm (fCh (S 51) P) ((j + 1) * P))), some (.inl ((j : Int) + 1)), some (.inl P)] [] S := by
      refine aw_iinc (n := 57) (L' := [_, _, _, _]) C dX2_countChanges_54 rfl rfl (by decide) rfl rfl ?_
      refine aw_goto (tgt := 4) C dX2_countChanges_57 rfl ?_
      exact ih (j + 1) _ (by omega)
    refine aw_ildn (n := 5) C dX2_countChanges_4 rfl rfl ?_
    refine aw_aldn (n := 6) C dX2_countChanges_5 rfl rfl ?_
    refine aw_getR (n := 9) C dX2_countChanges_6 rfl fl_X2_18 rfl rfl ?_
    refine aw_getI (z := 8) (n := 12) C dX2_countChanges_9 rfl fl_X2_22 rfl rfl rfl ?_
    refine aw_icge (tgt := 60) (n := 15) C dX2_countChanges_12 rfl rfl (by omega) (by omega) (fun h_12 => ?_) (fun h_12 => ?_)
    · omega
    · refine aw_iconst (n := 16) C dX2_countChanges_15 rfl ?_
      refine aw_istn (n := 17) (L' := [_, _, _, _]) C dX2_countChanges_16 rfl (by decide) rfl rfl ?_
      exact c_cc_in (j := j) hS (by omega) C k54 P 0 (by omega)
theorem c_countChanges (hS : SW S M P) (hM : 0 < M) : AMi 1 yX2_countChanges cX2_countChanges 4 (some .int) [.inr (.inr 50)] S (fun z S' => z = sm (fCh (S 51) P) ((M - 1) * P) ∧ S' = S) := by
  refine ami_intro (L := [_, none, none, none]) (by decide) (Or.inl rfl) rfl (Nat.le_of_ble_eq_true rfl) (fun X C hret => ?_)
  refine aw_iconst (n := 1) C dX2_countChanges_0 rfl ?_
  refine aw_istn (n := 2) (L' := [_, _, _, _]) C dX2_countChanges_1 rfl (by decide) rfl rfl ?_
  refine aw_iconst (n := 3) C dX2_countChanges_2 rfl ?_
  refine aw_istn (n := 4) (L' := [_, _, _, _]) C dX2_countChanges_3 rfl (by decide) rfl rfl ?_
  have := c_countChanges_loop hS C hret ⟨rfl, rfl⟩ (M - 1) 0 none (by omega)
  rw [Nat.zero_mul] at this
  exact this
theorem c_cl_in {j : Nat} (hS : SW S M P) (hj : j < M) (C : CX X 1 RX2 cX2_countLow 4) (k : AW X cX2_countLow 4 57 [some (.inr (.inr 50)), some (.inl (sm (fLo (S 51) P (duC S)) ((j + 1) * P))), some (.inl j), some (.inl P)] [] S) : ∀ (n p : Nat), p + n = P → AW X cX2_countLow 4 17 [some (.inr (.inr 50)), some (.inl (sm (fLo (S 51) P (duC S)) (j * P + p))), some (.inl j), some (.inl p)] [] S := by
  obtain ⟨h1, h2, h3, h4, h5, h6, h7, h8⟩ := id hS
  intro n
  induction n with
  | zero =>
    intro p hp
    obtain rfl : p = P := by omega
    rw [Nat.succ_mul] at k
    refine aw_ildn (n := 18) C dX2_countLow_17 rfl rfl ?_
    refine aw_aldn (n := 19) C dX2_countLow_18 rfl rfl ?_
    refine aw_getR (n := 22) C dX2_countLow_19 rfl fl_X2_18 rfl rfl ?_
    refine aw_getI (z := 9) (n := 25) C dX2_countLow_22 rfl fl_X2_28 rfl rfl rfl ?_
    refine aw_icge (tgt := 57) (n := 28) C dX2_countLow_25 rfl rfl (by omega) (by omega) (fun h_25 => ?_) (fun h_25 => ?_)
    · exact k
    · omega
  | succ n ih =>
    intro p hp
    have q2 := SW_q hS (m := j) (p := p) (by omega) (by omega)
    have e2 : ((j : Int) * S 10 9 + (p : Int)) = ((j * P + p : Nat) : Int) := by rw [h2, Int.natCast_add, Int.natCast_mul]
    have es : sm (fLo (S 51) P (duC S)) (j * P + (p + 1)) = sm (fLo (S 51) P (duC S)) (j * P + p) + fLo (S 51) P (duC S) (j * P + p) := rfl
    have hd := due_r (S 10 10) (S 10 11) (S (19 + j) p)
    refine aw_ildn (n := 18) C dX2_countLow_17 rfl rfl ?_
    refine aw_aldn (n := 19) C dX2_countLow_18 rfl rfl ?_
    refine aw_getR (n := 22) C dX2_countLow_19 rfl fl_X2_18 rfl rfl ?_
    refine aw_getI (z := 9) (n := 25) C dX2_countLow_22 rfl fl_X2_28 rfl rfl rfl ?_
    refine aw_icge (tgt := 57) (n := 28) C dX2_countLow_25 rfl rfl (by omega) (by omega) (fun h_25 => ?_) (fun h_25 => ?_)
    · omega
    · refine aw_ildn (n := 29) C dX2_countLow_28 rfl rfl ?_
      refine aw_iconst (n := 30) C dX2_countLow_29 rfl ?_
      refine aw_aldn (n := 31) C dX2_countLow_30 rfl rfl ?_
      refine aw_ildn (n := 32) C dX2_countLow_31 rfl rfl ?_
      refine aw_ildn (n := 33) C dX2_countLow_32 rfl rfl ?_
      refine aw_cVi (n := 36) (vs := [_, _]) C dX2_countLow_33 rfl rfl rfl mm_X2_classOf wM_X2_41 rfl rfl (Nat.le_of_ble_eq_true rfl) (c_classOf (by omega) (by omega) (by omega) (by omega) (by omega) (by omega)) (by decide) (fun z_33 S_33 q_33 => ?_)
      rw [q_33.1, q_33.2]
      clear q_33 S_33 z_33
      refine aw_aldn (n := 37) C dX2_countLow_36 rfl rfl ?_
      refine aw_getR (n := 40) C dX2_countLow_37 rfl fl_X2_18 rfl rfl ?_
      refine aw_ildn (n := 41) C dX2_countLow_40 rfl rfl ?_
      refine aw_ildn (n := 42) C dX2_countLow_41 rfl rfl ?_
      refine aw_cVi (n := 45) (vs := [_, _]) C dX2_countLow_42 rfl rfl rfl mm_X5_classDue wM_X2_48 rfl rfl (Nat.le_of_ble_eq_true rfl) (c_classDue10 (m := j) (by omega) (by omega) (by omega) (h8 j (by omega) p (by omega) (by omega)) h6 h7) (by decide) (fun z_42 S_42 q_42 => ?_)
      rw [q_42.1, q_42.2]
      clear q_42 S_42 z_42
      refine aw_isub (n := 46) C dX2_countLow_45 rfl ?_
      refine aw_mmax (n := 49) C dX2_countLow_46 rfl wM_X2_51 wS_yJ9_max_7cf53 wI_J9 wC_yJ9_max_7cf53 (by decide) (Nat.le_of_ble_eq_true rfl) (by omega) (by omega) ?_
      refine aw_iadd (n := 50) C dX2_countLow_49 rfl ?_
      refine aw_istn (n := 51) (L' := [_, _, _, _]) C dX2_countLow_50 rfl (by decide) rfl rfl ?_
      refine aw_iinc (n := 54) (L' := [_, _, _, _]) C dX2_countLow_51 rfl rfl (by decide) rfl rfl ?_
      refine aw_goto (tgt := 17) C dX2_countLow_54 rfl ?_
      have := ih (p + 1) (by omega)
      rw [es] at this
      unfold fLo at this
      rw [(dm (m := j) (p := p) (P := P) (by omega)).1, (dm (m := j) (p := p) (P := P) (by omega)).2, duC_n, ← e2] at this
      exact this
theorem c_countLow_loop {post : Int → Mem → Prop} (hS : SW S M P) (C : CX X 1 RX2 cX2_countLow 4) (hret : ∀ (pc : Nat) (L : List (Option AV)) (z : Int) (S' : Mem), decode cX2_countLow pc = .ok (.ireturn, 1) → ((some FieldType.int) = some .int ∨ ((some FieldType.int) = some .boolean ∧ (z = 0 ∨ z = 1))) → post z S' → AW X cX2_countLow 4 pc L [.inl z] S') (hp : post (sm (fLo (S 51) P (duC S)) (M * P)) S) : ∀ (n j : Nat) (x : Option AV), j + n = M → AW X cX2_countLow 4 4 [some (.inr (.inr 50)), some (.inl (sm (fLo (S 51) P (duC S)) (j * P))), some (.inl j), x] [] S := by
  obtain ⟨h1, h2, h3, h4, h5, -⟩ := id hS
  intro n
  induction n with
  | zero =>
    intro j x hj
    refine aw_ildn (n := 5) C dX2_countLow_4 rfl rfl ?_
    refine aw_aldn (n := 6) C dX2_countLow_5 rfl rfl ?_
    refine aw_getR (n := 9) C dX2_countLow_6 rfl fl_X2_18 rfl rfl ?_
    refine aw_getI (z := 8) (n := 12) C dX2_countLow_9 rfl fl_X2_22 rfl rfl rfl ?_
    refine aw_icge (tgt := 63) (n := 15) C dX2_countLow_12 rfl rfl (by omega) (by omega) (fun h_12 => ?_) (fun h_12 => ?_)
    · refine aw_ildn (n := 64) C dX2_countLow_63 rfl rfl ?_
      refine hret 64 _ _ _ dX2_countLow_64 (Or.inl rfl) ?_
      rw [show M = j by omega] at hp
      exact hp
    · omega
  | succ n ih =>
    intro j x hj
    have k57 : AW X cX2_countLow 4 57 [some (.inr (.inr 50)), some (.inl (sm (fLo (S 51) P (duC S)) ((j + 1) * P))), some (.inl j), some (.inl P)] [] S := by
      refine aw_iinc (n := 60) (L' := [_, _, _, _]) C dX2_countLow_57 rfl rfl (by decide) rfl rfl ?_
      refine aw_goto (tgt := 4) C dX2_countLow_60 rfl ?_
      exact ih (j + 1) _ (by omega)
    refine aw_ildn (n := 5) C dX2_countLow_4 rfl rfl ?_
    refine aw_aldn (n := 6) C dX2_countLow_5 rfl rfl ?_
    refine aw_getR (n := 9) C dX2_countLow_6 rfl fl_X2_18 rfl rfl ?_
    refine aw_getI (z := 8) (n := 12) C dX2_countLow_9 rfl fl_X2_22 rfl rfl rfl ?_
    refine aw_icge (tgt := 63) (n := 15) C dX2_countLow_12 rfl rfl (by omega) (by omega) (fun h_12 => ?_) (fun h_12 => ?_)
    · omega
    · refine aw_iconst (n := 16) C dX2_countLow_15 rfl ?_
      refine aw_istn (n := 17) (L' := [_, _, _, _]) C dX2_countLow_16 rfl (by decide) rfl rfl ?_
      exact c_cl_in (j := j) hS (by omega) C k57 P 0 (by omega)
theorem c_countLow (hS : SW S M P) : AMi 1 yX2_countLow cX2_countLow 4 (some .int) [.inr (.inr 50)] S (fun z S' => z = sm (fLo (S 51) P (duC S)) (M * P) ∧ S' = S) := by
  refine ami_intro (L := [_, none, none, none]) (by decide) (Or.inl rfl) rfl (Nat.le_of_ble_eq_true rfl) (fun X C hret => ?_)
  refine aw_iconst (n := 1) C dX2_countLow_0 rfl ?_
  refine aw_istn (n := 2) (L' := [_, _, _, _]) C dX2_countLow_1 rfl (by decide) rfl rfl ?_
  refine aw_iconst (n := 3) C dX2_countLow_2 rfl ?_
  refine aw_istn (n := 4) (L' := [_, _, _, _]) C dX2_countLow_3 rfl (by decide) rfl rfl ?_
  have := c_countLow_loop hS C hret ⟨rfl, rfl⟩ M 0 none (by omega)
  rw [Nat.zero_mul] at this
  exact this
theorem c_milesAbove_loop {p : Nat} {post : Int → Mem → Prop} (hS : SW S M P) (hpP : p < P) (C : CX X 1 RX2 cX2_milesAbove 4) (hret : ∀ (pc : Nat) (L : List (Option AV)) (z : Int) (S' : Mem), decode cX2_milesAbove pc = .ok (.ireturn, 1) → ((some FieldType.int) = some .int ∨ ((some FieldType.int) = some .boolean ∧ (z = 0 ∨ z = 1))) → post z S' → AW X cX2_milesAbove 4 pc L [.inl z] S') (hp : post (sm (fAb (S 51) P (duC S) p) M) S) : ∀ (n j : Nat), j + n = M → AW X cX2_milesAbove 4 4 [some (.inr (.inr 50)), some (.inl p), some (.inl (sm (fAb (S 51) P (duC S) p) j)), some (.inl j)] [] S := by
  obtain ⟨h1, h2, h3, h4, h5, h6, h7, h8⟩ := id hS
  intro n
  induction n with
  | zero =>
    intro j hj
    refine aw_ildn (n := 5) C dX2_milesAbove_4 rfl rfl ?_
    refine aw_aldn (n := 6) C dX2_milesAbove_5 rfl rfl ?_
    refine aw_getR (n := 9) C dX2_milesAbove_6 rfl fl_X2_18 rfl rfl ?_
    refine aw_getI (z := 8) (n := 12) C dX2_milesAbove_9 rfl fl_X2_22 rfl rfl rfl ?_
    refine aw_icge (tgt := 42) (n := 15) C dX2_milesAbove_12 rfl rfl (by omega) (by omega) (fun h_12 => ?_) (fun h_12 => ?_)
    · refine aw_ildn (n := 43) C dX2_milesAbove_42 rfl rfl ?_
      refine hret 43 _ _ _ dX2_milesAbove_43 (Or.inl rfl) ?_
      rw [show M = j by omega] at hp
      exact hp
    · omega
  | succ n ih =>
    intro j hj
    have q2 := SW_q hS (m := j) (p := p) (by omega) (by omega)
    have hd := due_r (S 10 10) (S 10 11) (S (19 + j) p)
    have fv : fAb (S 51) P (duC S) p j = if S 51 ((j : Int) * S 10 9 + p) < due (S 10 10) (S 10 11) (S (19 + j) p) then 1 else 0 := by unfold fAb; rw [duC_n, h2]
    refine aw_ildn (n := 5) C dX2_milesAbove_4 rfl rfl ?_
    refine aw_aldn (n := 6) C dX2_milesAbove_5 rfl rfl ?_
    refine aw_getR (n := 9) C dX2_milesAbove_6 rfl fl_X2_18 rfl rfl ?_
    refine aw_getI (z := 8) (n := 12) C dX2_milesAbove_9 rfl fl_X2_22 rfl rfl rfl ?_
    refine aw_icge (tgt := 42) (n := 15) C dX2_milesAbove_12 rfl rfl (by omega) (by omega) (fun h_12 => ?_) (fun h_12 => ?_)
    · omega
    · refine aw_aldn (n := 16) C dX2_milesAbove_15 rfl rfl ?_
      refine aw_ildn (n := 17) C dX2_milesAbove_16 rfl rfl ?_
      refine aw_ildn (n := 18) C dX2_milesAbove_17 rfl rfl ?_
      refine aw_cVi (n := 21) (vs := [_, _]) C dX2_milesAbove_18 rfl rfl rfl mm_X2_classOf wM_X2_41 rfl rfl (Nat.le_of_ble_eq_true rfl) (c_classOf (by omega) (by omega) (by omega) (by omega) (by omega) (by omega)) (by decide) (fun z_18 S_18 q_18 => ?_)
      rw [q_18.1, q_18.2]
      clear q_18 S_18 z_18
      refine aw_aldn (n := 22) C dX2_milesAbove_21 rfl rfl ?_
      refine aw_getR (n := 25) C dX2_milesAbove_22 rfl fl_X2_18 rfl rfl ?_
      refine aw_ildn (n := 26) C dX2_milesAbove_25 rfl rfl ?_
      refine aw_ildn (n := 27) C dX2_milesAbove_26 rfl rfl ?_
      refine aw_cVi (n := 30) (vs := [_, _]) C dX2_milesAbove_27 rfl rfl rfl mm_X5_classDue wM_X2_48 rfl rfl (Nat.le_of_ble_eq_true rfl) (c_classDue10 (m := j) (by omega) (by omega) (by omega) (h8 j (by omega) p (by omega) (by omega)) h6 h7) (by decide) (fun z_27 S_27 q_27 => ?_)
      rw [q_27.1, q_27.2]
      clear q_27 S_27 z_27
      refine aw_icge (tgt := 36) (n := 33) C dX2_milesAbove_30 rfl rfl (by omega) (by omega) (fun h_30 => ?_) (fun h_30 => ?_)
      · refine aw_iinc (n := 39) (L' := [_, _, _, _]) C dX2_milesAbove_36 rfl rfl (by decide) rfl rfl ?_
        refine aw_goto (tgt := 4) C dX2_milesAbove_39 rfl ?_
        have := ih (j + 1) (by omega)
        rw [sm_s, fv] at this
        first | (rw [if_pos h_30] at this; exact this) | (rw [if_neg (by omega), Int.add_zero] at this; exact this)
      · refine aw_iinc (n := 36) (L' := [_, _, _, _]) C dX2_milesAbove_33 rfl rfl (by decide) rfl rfl ?_
        refine aw_iinc (n := 39) (L' := [_, _, _, _]) C dX2_milesAbove_36 rfl rfl (by decide) rfl rfl ?_
        refine aw_goto (tgt := 4) C dX2_milesAbove_39 rfl ?_
        have := ih (j + 1) (by omega)
        rw [sm_s, fv] at this
        first | (rw [if_pos h_30] at this; exact this) | (rw [if_neg (by omega), Int.add_zero] at this; exact this)
theorem c_milesAbove {p : Nat} (hS : SW S M P) (hpP : p < P) : AMi 1 yX2_milesAbove cX2_milesAbove 4 (some .int) [.inr (.inr 50), .inl (p : Int)] S (fun z S' => z = sm (fAb (S 51) P (duC S) p) M ∧ S' = S) := by
  refine ami_intro (L := [_, _, none, none]) (by decide) (Or.inl rfl) rfl (Nat.le_of_ble_eq_true rfl) (fun X C hret => ?_)
  refine aw_iconst (n := 1) C dX2_milesAbove_0 rfl ?_
  refine aw_istn (n := 2) (L' := [_, _, _, _]) C dX2_milesAbove_1 rfl (by decide) rfl rfl ?_
  refine aw_iconst (n := 3) C dX2_milesAbove_2 rfl ?_
  refine aw_istn (n := 4) (L' := [_, _, _, _]) C dX2_milesAbove_3 rfl (by decide) rfl rfl ?_
  exact c_milesAbove_loop hS hpP C hret ⟨rfl, rfl⟩ M 0 (by omega)
theorem c_countAbove_loop {post : Int → Mem → Prop} (hS : SW S M P) (C : CX X 2 RX2 cX2_countAbove 3) (hret : ∀ (pc : Nat) (L : List (Option AV)) (z : Int) (S' : Mem), decode cX2_countAbove pc = .ok (.ireturn, 1) → ((some FieldType.int) = some .int ∨ ((some FieldType.int) = some .boolean ∧ (z = 0 ∨ z = 1))) → post z S' → AW X cX2_countAbove 3 pc L [.inl z] S') (hp : post (sm (fun p => sm (fAb (S 51) P (duC S) p) M) P) S) : ∀ (n p : Nat), p + n = P → AW X cX2_countAbove 3 4 [some (.inr (.inr 50)), some (.inl (sm (fun p => sm (fAb (S 51) P (duC S) p) M) p)), some (.inl p)] [] S := by
  obtain ⟨h1, h2, h3, h4, h5, h6, h7, h8⟩ := id hS
  intro n
  induction n with
  | zero =>
    intro j hj
    refine aw_ildn (n := 5) C dX2_countAbove_4 rfl rfl ?_
    refine aw_aldn (n := 6) C dX2_countAbove_5 rfl rfl ?_
    refine aw_getR (n := 9) C dX2_countAbove_6 rfl fl_X2_18 rfl rfl ?_
    refine aw_getI (z := 9) (n := 12) C dX2_countAbove_9 rfl fl_X2_28 rfl rfl rfl ?_
    refine aw_icge (tgt := 29) (n := 15) C dX2_countAbove_12 rfl rfl (by omega) (by omega) (fun h_12 => ?_) (fun h_12 => ?_)
    · refine aw_ildn (n := 30) C dX2_countAbove_29 rfl rfl ?_
      refine hret 30 _ _ _ dX2_countAbove_30 (Or.inl rfl) ?_
      rw [show P = j by omega] at hp ⊢
      exact hp
    · omega
  | succ n ih =>
    intro j hj
    refine aw_ildn (n := 5) C dX2_countAbove_4 rfl rfl ?_
    refine aw_aldn (n := 6) C dX2_countAbove_5 rfl rfl ?_
    refine aw_getR (n := 9) C dX2_countAbove_6 rfl fl_X2_18 rfl rfl ?_
    refine aw_getI (z := 9) (n := 12) C dX2_countAbove_9 rfl fl_X2_28 rfl rfl rfl ?_
    refine aw_icge (tgt := 29) (n := 15) C dX2_countAbove_12 rfl rfl (by omega) (by omega) (fun h_12 => ?_) (fun h_12 => ?_)
    · omega
    · refine aw_ildn (n := 16) C dX2_countAbove_15 rfl rfl ?_
      refine aw_aldn (n := 17) C dX2_countAbove_16 rfl rfl ?_
      refine aw_ildn (n := 18) C dX2_countAbove_17 rfl rfl ?_
      refine aw_cVi (n := 21) (vs := [_]) C dX2_countAbove_18 rfl rfl rfl mm_X2_milesAbove wM_X2_56 rfl rfl (Nat.le_of_ble_eq_true rfl) (c_milesAbove (p := j) hS (by omega)) (by decide) (fun z_18 S_18 q_18 => ?_)
      rw [q_18.1, q_18.2]
      clear q_18 S_18 z_18
      refine aw_iadd (n := 22) C dX2_countAbove_21 rfl ?_
      refine aw_istn (n := 23) (L' := [_, _, _]) C dX2_countAbove_22 rfl (by decide) rfl rfl ?_
      refine aw_iinc (n := 26) (L' := [_, _, _]) C dX2_countAbove_23 rfl rfl (by decide) rfl rfl ?_
      refine aw_goto (tgt := 4) C dX2_countAbove_26 rfl ?_
      exact ih (j + 1) (by omega)
theorem c_countAbove (hS : SW S M P) : AMi 2 yX2_countAbove cX2_countAbove 3 (some .int) [.inr (.inr 50)] S (fun z S' => z = sm (fun p => sm (fAb (S 51) P (duC S) p) M) P ∧ S' = S) := by
  refine ami_intro (L := [_, none, none]) (by decide) (Or.inl rfl) rfl (Nat.le_of_ble_eq_true rfl) (fun X C hret => ?_)
  refine aw_iconst (n := 1) C dX2_countAbove_0 rfl ?_
  refine aw_istn (n := 2) (L' := [_, _, _]) C dX2_countAbove_1 rfl (by decide) rfl rfl ?_
  refine aw_iconst (n := 3) C dX2_countAbove_2 rfl ?_
  refine aw_istn (n := 4) (L' := [_, _, _]) C dX2_countAbove_3 rfl (by decide) rfl rfl ?_
  exact c_countAbove_loop hS C hret ⟨rfl, rfl⟩ P 0 (by omega)
end SEAT
end
section
/-! Seating: the first mile that can't be -/
def cn (q : Fn) (P m c : Int) (p : Nat) : Int := sm (fun x => if q (m * P + (x : Int)) = c then 1 else 0) p
def bad (q : Fn) (P : Int) (se : Fn) (m : Nat) : Bool := decide (se 0 < cn q P m 0 P.toNat ∨ se 1 < cn q P m 1 P.toNat ∨ se 2 < cn q P m 2 P.toNat)
def fst1 (b : Nat → Bool) : Nat → Nat → Int
  | 0, _ => -9
  | n + 1, i => if b i then (i : Int) else fst1 b n (i + 1)
theorem fst1_t {b : Nat → Bool} {n i : Nat} (h : b i = true) : fst1 b (n + 1) i = (i : Int) := by show (if b i then _ else _) = _; rw [h]; rfl
theorem fst1_f {b : Nat → Bool} {n i : Nat} (h : b i = false) : fst1 b (n + 1) i = fst1 b n (i + 1) := by show (if b i then _ else _) = _; rw [h]; rfl
theorem fst1_congr {b b' : Nat → Bool} : ∀ (n i : Nat), (∀ k, i ≤ k → k < i + n → b k = b' k) → fst1 b n i = fst1 b' n i
  | 0, _, _ => rfl
  | n + 1, i, h => by show (if b i then _ else _) = (if b' i then _ else _); rw [h i (by omega) (by omega), fst1_congr n (i + 1) (fun k h1 h2 => h k (by omega) (by omega))]
theorem cn_s (q : Fn) (P m c : Int) (p : Nat) : cn q P m c (p + 1) = cn q P m c p + (if q (m * P + (p : Int)) = c then 1 else 0) := rfl
theorem cn_mono (q : Fn) (P m c : Int) (p : Nat) : ∀ n, cn q P m c p ≤ cn q P m c (p + n)
  | 0 => Int.le_refl _
  | n + 1 => by
    have := cn_mono q P m c p n
    rw [show p + (n + 1) = (p + n) + 1 by omega, cn_s]
    split <;> omega
theorem cn_r (q : Fn) (P m c : Int) : ∀ n : Nat, 0 ≤ cn q P m c n ∧ cn q P m c n ≤ n
  | 0 => ⟨Int.le_refl _, Int.le_refl _⟩
  | n + 1 => by
    have := cn_r q P m c n
    rw [cn_s]
    split <;> omega
section SEATW
variable {X : AMX} {S : Mem} {M P : Nat} {post : Int → Mem → Prop}
theorem c_fw_in {j : Nat} (hS : SW S M P) (hse : ∀ c, 0 ≤ c → c < 3 → 0 ≤ S 11 c ∧ S 11 c ≤ 4) (hj : j < M) (C : CX X 1 RX2 cX2_firstWrong 4) (hret : ∀ (pc : Nat) (L : List (Option AV)) (z : Int) (S' : Mem), decode cX2_firstWrong pc = .ok (.ireturn, 1) → ((some FieldType.int) = some .int ∨ ((some FieldType.int) = some .boolean ∧ (z = 0 ∨ z = 1))) → post z S' → AW X cX2_firstWrong 4 pc L [.inl z] S') (hbad : ∀ S', fr 52 53 S S' → bad (S 51) (S 10 9) (S 11) j = true → post j S') (k : ∀ S' x, fr 52 53 S S' → bad (S 51) (S 10 9) (S 11) j = false → AW X cX2_firstWrong 4 77 [some (.inr (.inr 50)), some (.inl j), some (.inl P), x] [] S') : ∀ (n p : Nat) (S1 : Mem) (x : Option AV), p + n = P → fr 52 53 S S1 → (∀ c, 0 ≤ c → c < 3 → S1 52 c = cn (S 51) (S 10 9) j c p ∧ cn (S 51) (S 10 9) j c p ≤ S 11 c) → AW X cX2_firstWrong 4 23 [some (.inr (.inr 50)), some (.inl j), some (.inl p), x] [] S1 := by
  obtain ⟨h1, h2, h3, h4, h5, h6, h7, h8⟩ := id hS
  intro n
  induction n with
  | zero =>
    intro p S1 x hp hf hv
    obtain rfl : p = P := by omega
    have e9 : S1 10 9 = S 10 9 := congrFun (hf 10 (by omega)) 9
    refine aw_ildn (n := 24) C dX2_firstWrong_23 rfl rfl ?_
    refine aw_aldn (n := 25) C dX2_firstWrong_24 rfl rfl ?_
    refine aw_getR (n := 28) C dX2_firstWrong_25 rfl fl_X2_18 rfl rfl ?_
    refine aw_getI (z := 9) (n := 31) C dX2_firstWrong_28 rfl fl_X2_28 rfl rfl rfl ?_
    refine aw_icge (tgt := 77) (n := 34) C dX2_firstWrong_31 rfl rfl (by omega) (by omega) (fun h_31 => ?_) (fun h_31 => ?_)
    · refine k S1 x hf ?_
      unfold bad
      rw [h2, Int.toNat_natCast]
      have v0 := (hv 0 (by omega) (by omega)).2
      have v1 := (hv 1 (by omega) (by omega)).2
      have v2 := (hv 2 (by omega) (by omega)).2
      rw [h2] at v0 v1 v2
      exact decide_eq_false (by omega)
    · omega
  | succ n ih =>
    intro p S1 x hp hf hv
    have e0 : S1 10 = S 10 := hf 10 (by omega)
    have e9 : S1 10 9 = S 10 9 := congrFun e0 9
    have e8 : S1 10 8 = S 10 8 := congrFun e0 8
    have q2 := SW_q hS (m := j) (p := p) (by omega) (by omega)
    have hv2 := hv (S 51 ((j : Int) * S 10 9 + p)) q2.1 q2.2
    have hs2 := hse (S 51 ((j : Int) * S 10 9 + p)) q2.1 q2.2
    have hcs := cn_s (S 51) (S 10 9) j (S 51 ((j : Int) * S 10 9 + p)) p
    rw [if_pos rfl] at hcs
    have hcr := cn_r (S 51) (S 10 9) j (S 51 ((j : Int) * S 10 9 + p)) p
    have ev : st2 S1 52 (S 51 ((j : Int) * S 10 9 + p)) (S1 52 (S 51 ((j : Int) * S 10 9 + p)) + 1) 11 (S 51 ((j : Int) * S 10 9 + p)) = S 11 (S 51 ((j : Int) * S 10 9 + p)) := by rw [st2_c (by decide), hf 11 (by omega)]
    have hf2 : fr 52 53 S (st2 S1 52 (S 51 ((j : Int) * S 10 9 + p)) (S1 52 (S 51 ((j : Int) * S 10 9 + p)) + 1)) := fr_tr hf (fr_w (fr_st _ _ _ _) (by omega) (by omega))
    refine aw_ildn (n := 24) C dX2_firstWrong_23 rfl rfl ?_
    refine aw_aldn (n := 25) C dX2_firstWrong_24 rfl rfl ?_
    refine aw_getR (n := 28) C dX2_firstWrong_25 rfl fl_X2_18 rfl rfl ?_
    refine aw_getI (z := 9) (n := 31) C dX2_firstWrong_28 rfl fl_X2_28 rfl rfl rfl ?_
    refine aw_icge (tgt := 77) (n := 34) C dX2_firstWrong_31 rfl rfl (by omega) (by omega) (fun h_31 => ?_) (fun h_31 => ?_)
    · omega
    · refine aw_aldn (n := 35) C dX2_firstWrong_34 rfl rfl ?_
      refine aw_ildn (n := 36) C dX2_firstWrong_35 rfl rfl ?_
      refine aw_ildn (n := 37) C dX2_firstWrong_36 rfl rfl ?_
      refine aw_cVi (n := 40) (vs := [_, _]) C dX2_firstWrong_37 rfl rfl rfl mm_X2_classOf wM_X2_41 rfl rfl (Nat.le_of_ble_eq_true rfl) (c_classOf (by omega) (by omega) (by omega) (by omega) (by omega) (by omega)) (by decide) (fun z_37 S_37 q_37 => ?_)
      rw [q_37.1, q_37.2]
      clear q_37 S_37 z_37
      rw [hf 51 (by omega), e9]
      refine aw_istn (n := 41) (L' := [_, _, _, _]) C dX2_firstWrong_40 rfl (by decide) rfl rfl ?_
      refine aw_aldn (n := 42) C dX2_firstWrong_41 rfl rfl ?_
      refine aw_getR (n := 45) C dX2_firstWrong_42 rfl fl_X2_15 rfl rfl ?_
      refine aw_ildn (n := 46) C dX2_firstWrong_45 rfl rfl ?_
      refine aw_dup2 (n := 47) C dX2_firstWrong_46 rfl rfl rfl ?_
      refine aw_iald (n := 48) C dX2_firstWrong_47 rfl rfl (by omega) (by omega) ?_
      refine aw_iconst (n := 49) C dX2_firstWrong_48 rfl ?_
      refine aw_iadd (n := 50) C dX2_firstWrong_49 rfl ?_
      refine aw_iast (n := 51) C dX2_firstWrong_50 rfl rfl (by omega) (by omega) ?_
      refine aw_aldn (n := 52) C dX2_firstWrong_51 rfl rfl ?_
      refine aw_getR (n := 55) C dX2_firstWrong_52 rfl fl_X2_15 rfl rfl ?_
      refine aw_ildn (n := 56) C dX2_firstWrong_55 rfl rfl ?_
      refine aw_iald (n := 57) C dX2_firstWrong_56 rfl rfl (by omega) (by omega) ?_
      rw [st2_s]
      refine aw_aldn (n := 58) C dX2_firstWrong_57 rfl rfl ?_
      refine aw_getR (n := 61) C dX2_firstWrong_58 rfl fl_X2_18 rfl rfl ?_
      refine aw_getR (n := 64) C dX2_firstWrong_61 rfl fl_X2_45 rfl rfl ?_
      refine aw_ildn (n := 65) C dX2_firstWrong_64 rfl rfl ?_
      refine aw_iald (n := 66) C dX2_firstWrong_65 rfl rfl (by omega) (by omega) ?_
      rw [ev]
      refine aw_icle (tgt := 71) (n := 69) C dX2_firstWrong_66 rfl rfl (by omega) (by omega) (fun h_66 => ?_) (fun h_66 => ?_)
      · refine aw_iinc (n := 74) (L' := [_, _, _, _]) C dX2_firstWrong_71 rfl rfl (by decide) rfl rfl ?_
        refine aw_goto (tgt := 23) C dX2_firstWrong_74 rfl ?_
        refine ih (p + 1) _ _ (by omega) hf2 (fun c c0 c1 => ?_)
        by_cases e : c = S 51 ((j : Int) * S 10 9 + p)
        · rw [← e] at h_66 hcs hv2 ⊢
          rw [st2_s]
          omega
        · rw [st2_n e, cn_s, if_neg (fun q => e q.symm), Int.add_zero]
          exact hv c c0 c1
      · refine aw_ildn (n := 70) C dX2_firstWrong_69 rfl rfl ?_
        refine hret 70 _ _ _ dX2_firstWrong_70 (Or.inl rfl) ?_
        refine hbad _ hf2 ?_
        unfold bad
        rw [h2, Int.toNat_natCast, ← h2]
        have hm := cn_mono (S 51) (S 10 9) j (S 51 ((j : Int) * S 10 9 + p)) (p + 1) n
        rw [show p + 1 + n = P by omega] at hm
        refine decide_eq_true ?_
        rcases (show S 51 ((j : Int) * S 10 9 + p) = 0 ∨ S 51 ((j : Int) * S 10 9 + p) = 1 ∨ S 51 ((j : Int) * S 10 9 + p) = 2 by omega) with e | e | e
        · rw [e] at hm hcs h_66 hv2
          exact Or.inl (by omega)
        · rw [e] at hm hcs h_66 hv2
          exact Or.inr (Or.inl (by omega))
        · rw [e] at hm hcs h_66 hv2
          exact Or.inr (Or.inr (by omega))
theorem c_firstWrong_loop (hS : SW S M P) (hse : ∀ c, 0 ≤ c → c < 3 → 0 ≤ S 11 c ∧ S 11 c ≤ 4) (C : CX X 1 RX2 cX2_firstWrong 4) (hret : ∀ (pc : Nat) (L : List (Option AV)) (z : Int) (S' : Mem), decode cX2_firstWrong pc = .ok (.ireturn, 1) → ((some FieldType.int) = some .int ∨ ((some FieldType.int) = some .boolean ∧ (z = 0 ∨ z = 1))) → post z S' → AW X cX2_firstWrong 4 pc L [.inl z] S') (hp : ∀ S', fr 52 53 S S' → post (fst1 (bad (S 51) (S 10 9) (S 11)) M 0) S') : ∀ (n j : Nat) (S1 : Mem) (x y : Option AV), j + n = M → fr 52 53 S S1 → fst1 (bad (S 51) (S 10 9) (S 11)) M 0 = fst1 (bad (S 51) (S 10 9) (S 11)) n j → AW X cX2_firstWrong 4 2 [some (.inr (.inr 50)), some (.inl j), x, y] [] S1 := by
  obtain ⟨h1, h2, h3, h4, h5, h6, h7, h8⟩ := id hS
  intro n
  induction n with
  | zero =>
    intro j S1 x y hj hf hv
    have e8 : S1 10 8 = S 10 8 := congrFun (hf 10 (by omega)) 8
    refine aw_ildn (n := 3) C dX2_firstWrong_2 rfl rfl ?_
    refine aw_aldn (n := 4) C dX2_firstWrong_3 rfl rfl ?_
    refine aw_getR (n := 7) C dX2_firstWrong_4 rfl fl_X2_18 rfl rfl ?_
    refine aw_getI (z := 8) (n := 10) C dX2_firstWrong_7 rfl fl_X2_22 rfl rfl rfl ?_
    refine aw_icge (tgt := 83) (n := 13) C dX2_firstWrong_10 rfl rfl (by omega) (by omega) (fun h_10 => ?_) (fun h_10 => ?_)
    · refine aw_bipush (n := 85) C dX2_firstWrong_83 rfl rfl ?_
      refine hret 85 _ _ _ dX2_firstWrong_85 (Or.inl rfl) ?_
      have := hp S1 hf
      rw [hv] at this
      exact this
    · omega
  | succ n ih =>
    intro j S1 x y hj hf hv
    have e8 : S1 10 8 = S 10 8 := congrFun (hf 10 (by omega)) 8
    have k77 : ∀ S' x, fr 52 53 S S' → bad (S 51) (S 10 9) (S 11) j = false → AW X cX2_firstWrong 4 77 [some (.inr (.inr 50)), some (.inl j), some (.inl P), x] [] S' := by
      intro S' x hf' hb
      refine aw_iinc (n := 80) (L' := [_, _, _, _]) C dX2_firstWrong_77 rfl rfl (by decide) rfl rfl ?_
      refine aw_goto (tgt := 2) C dX2_firstWrong_80 rfl ?_
      exact ih (j + 1) S' _ _ (by omega) hf' (by rw [hv, fst1_f hb])
    refine aw_ildn (n := 3) C dX2_firstWrong_2 rfl rfl ?_
    refine aw_aldn (n := 4) C dX2_firstWrong_3 rfl rfl ?_
    refine aw_getR (n := 7) C dX2_firstWrong_4 rfl fl_X2_18 rfl rfl ?_
    refine aw_getI (z := 8) (n := 10) C dX2_firstWrong_7 rfl fl_X2_22 rfl rfl rfl ?_
    refine aw_icge (tgt := 83) (n := 13) C dX2_firstWrong_10 rfl rfl (by omega) (by omega) (fun h_10 => ?_) (fun h_10 => ?_)
    · omega
    · refine aw_aldn (n := 14) C dX2_firstWrong_13 rfl rfl ?_
      refine aw_getR (n := 17) C dX2_firstWrong_14 rfl fl_X2_15 rfl rfl ?_
      refine aw_iconst (n := 18) C dX2_firstWrong_17 rfl ?_
      refine aw_cSv (n := 21) (vs := [_, _]) C dX2_firstWrong_18 rfl rfl rfl mm_J7_fill_53178 wM_X2_35 (Nat.le_of_ble_eq_true rfl) (c_fill (n := 3) rfl (by decide)) (by decide) (fun S_18 q_18 => ?_)
      rw [q_18]
      clear q_18 S_18
      refine aw_iconst (n := 22) C dX2_firstWrong_21 rfl ?_
      refine aw_istn (n := 23) (L' := [_, _, _, _]) C dX2_firstWrong_22 rfl (by decide) rfl rfl ?_
      refine c_fw_in (j := j) hS hse (by omega) C hret (fun S' hf' hb => ?_) k77 P 0 _ _ (by omega) (fr_tr hf (fun c hc => funext fun i => if_neg (fun q => by omega))) (fun c c0 c1 => ⟨if_pos ⟨rfl, by omega, by omega⟩, (hse c c0 c1).1⟩)
      have := hp S' hf'
      rw [hv, fst1_t hb] at this
      exact this
theorem c_firstWrong (hS : SW S M P) (hse : ∀ c, 0 ≤ c → c < 3 → 0 ≤ S 11 c ∧ S 11 c ≤ 4) : AMi 1 yX2_firstWrong cX2_firstWrong 4 (some .int) [.inr (.inr 50)] S (fun z S' => z = fst1 (bad (S 51) (S 10 9) (S 11)) M 0 ∧ fr 52 53 S S') := by
  refine ami_intro (L := [_, none, none, none]) (by decide) (Or.inl rfl) rfl (Nat.le_of_ble_eq_true rfl) (fun X C hret => ?_)
  refine aw_iconst (n := 1) C dX2_firstWrong_0 rfl ?_
  refine aw_istn (n := 2) (L' := [_, _, _, _]) C dX2_firstWrong_1 rfl (by decide) rfl rfl ?_
  exact c_firstWrong_loop hS hse C hret (fun S' h => ⟨rfl, h⟩) M 0 S _ _ (by omega) (fr_rf _ _ _) rfl
end SEATW
end
