section
-- ===== PART A: goes FIRST, ahead of the names: the tables' words, and 'selects' of the private methods out of them =====
/-- a private method of a class that the tables say can be made, by its rows of tables_1 -/
def lw_okq (q : MethodName × Nat) : Prop := (q.1.cls ≠ "java/lang/invoke/MethodHandle" ∧ q.1.cls ≠ "java/lang/invoke/VarHandle") ∧ Cond.instantiable q.1.cls q.2 ∈ tables_1 ∧ Cond.privateMethod q.1 ∈ tables_1 ∧ Cond.instanceMethod q.1 ∈ tables_1
theorem lw_p0 : lw_okq (⟨"RegretLine", "rideAnew", "()V"⟩, 9) := ⟨⟨by decide +kernel, by decide +kernel⟩, List.mem_of_getElem? (i := 13) (by decide +kernel), List.mem_of_getElem? (i := 255) (by decide +kernel), List.mem_of_getElem? (i := 256) (by decide +kernel)⟩
theorem lw_p1 : lw_okq (⟨"RegretLine$Train", "regretBehind", "(II)I"⟩, 12) := ⟨⟨by decide +kernel, by decide +kernel⟩, List.mem_of_getElem? (i := 41) (by decide +kernel), List.mem_of_getElem? (i := 274) (by decide +kernel), List.mem_of_getElem? (i := 275) (by decide +kernel)⟩
theorem lw_p2 : lw_okq (⟨"RegretLine", "noPassenger", "(I)Z"⟩, 9) := ⟨⟨by decide +kernel, by decide +kernel⟩, List.mem_of_getElem? (i := 13) (by decide +kernel), List.mem_of_getElem? (i := 288) (by decide +kernel), List.mem_of_getElem? (i := 289) (by decide +kernel)⟩
theorem lw_p3 : lw_okq (⟨"RegretLine", "noLine", "()Z"⟩, 9) := ⟨⟨by decide +kernel, by decide +kernel⟩, List.mem_of_getElem? (i := 13) (by decide +kernel), List.mem_of_getElem? (i := 296) (by decide +kernel), List.mem_of_getElem? (i := 297) (by decide +kernel)⟩
theorem lw_p4 : lw_okq (⟨"RegretLine", "noMile", "(I)Z"⟩, 9) := ⟨⟨by decide +kernel, by decide +kernel⟩, List.mem_of_getElem? (i := 13) (by decide +kernel), List.mem_of_getElem? (i := 311) (by decide +kernel), List.mem_of_getElem? (i := 312) (by decide +kernel)⟩
theorem lw_p5 : lw_okq (⟨"RegretLine", "noPair", "(II)Z"⟩, 9) := ⟨⟨by decide +kernel, by decide +kernel⟩, List.mem_of_getElem? (i := 13) (by decide +kernel), List.mem_of_getElem? (i := 319) (by decide +kernel), List.mem_of_getElem? (i := 320) (by decide +kernel)⟩
theorem lw_p6 : lw_okq (⟨"RegretLine", "noMileNorEnd", "(I)Z"⟩, 9) := ⟨⟨by decide +kernel, by decide +kernel⟩, List.mem_of_getElem? (i := 13) (by decide +kernel), List.mem_of_getElem? (i := 327) (by decide +kernel), List.mem_of_getElem? (i := 328) (by decide +kernel)⟩
theorem lw_p7 : lw_okq (⟨"RegretLine", "ofSeating", "(I)I"⟩, 9) := ⟨⟨by decide +kernel, by decide +kernel⟩, List.mem_of_getElem? (i := 13) (by decide +kernel), List.mem_of_getElem? (i := 355) (by decide +kernel), List.mem_of_getElem? (i := 356) (by decide +kernel)⟩
theorem lw_p8 : lw_okq (⟨"RegretLine$Seating", "classOf", "(II)I"⟩, 3) := ⟨⟨by decide +kernel, by decide +kernel⟩, List.mem_of_getElem? (i := 124) (by decide +kernel), List.mem_of_getElem? (i := 364) (by decide +kernel), List.mem_of_getElem? (i := 365) (by decide +kernel)⟩
theorem lw_p9 : lw_okq (⟨"RegretLine", "knowLeast", "()V"⟩, 9) := ⟨⟨by decide +kernel, by decide +kernel⟩, List.mem_of_getElem? (i := 13) (by decide +kernel), List.mem_of_getElem? (i := 391) (by decide +kernel), List.mem_of_getElem? (i := 392) (by decide +kernel)⟩
theorem lw_p10 : lw_okq (⟨"RegretLine$Ease", "weigh", "(I)Z"⟩, 8) := ⟨⟨by decide +kernel, by decide +kernel⟩, List.mem_of_getElem? (i := 140) (by decide +kernel), List.mem_of_getElem? (i := 400) (by decide +kernel), List.mem_of_getElem? (i := 401) (by decide +kernel)⟩
theorem lw_p11 : lw_okq (⟨"RegretLine$Ease", "lowIn", "(II)I"⟩, 8) := ⟨⟨by decide +kernel, by decide +kernel⟩, List.mem_of_getElem? (i := 140) (by decide +kernel), List.mem_of_getElem? (i := 404) (by decide +kernel), List.mem_of_getElem? (i := 405) (by decide +kernel)⟩
theorem lw_p12 : lw_okq (⟨"RegretLine$Ease", "lookBack", "(I)V"⟩, 8) := ⟨⟨by decide +kernel, by decide +kernel⟩, List.mem_of_getElem? (i := 140) (by decide +kernel), List.mem_of_getElem? (i := 410) (by decide +kernel), List.mem_of_getElem? (i := 411) (by decide +kernel)⟩
theorem lw_p13 : lw_okq (⟨"RegretLine$Ease", "letChange", "(III)V"⟩, 8) := ⟨⟨by decide +kernel, by decide +kernel⟩, List.mem_of_getElem? (i := 140) (by decide +kernel), List.mem_of_getElem? (i := 415) (by decide +kernel), List.mem_of_getElem? (i := 416) (by decide +kernel)⟩
theorem lw_p14 : lw_okq (⟨"RegretLine$Ease", "choose", "()V"⟩, 8) := ⟨⟨by decide +kernel, by decide +kernel⟩, List.mem_of_getElem? (i := 140) (by decide +kernel), List.mem_of_getElem? (i := 419) (by decide +kernel), List.mem_of_getElem? (i := 420) (by decide +kernel)⟩
theorem lw_p15 : lw_okq (⟨"RegretLine$Ease", "firstOfLeast", "(II)I"⟩, 8) := ⟨⟨by decide +kernel, by decide +kernel⟩, List.mem_of_getElem? (i := 140) (by decide +kernel), List.mem_of_getElem? (i := 423) (by decide +kernel), List.mem_of_getElem? (i := 424) (by decide +kernel)⟩
def lw_privs_1 : List (MethodName × Nat) := [(⟨"RegretLine", "rideAnew", "()V"⟩, 9), (⟨"RegretLine$Train", "regretBehind", "(II)I"⟩, 12), (⟨"RegretLine", "noPassenger", "(I)Z"⟩, 9), (⟨"RegretLine", "noLine", "()Z"⟩, 9), (⟨"RegretLine", "noMile", "(I)Z"⟩, 9), (⟨"RegretLine", "noPair", "(II)Z"⟩, 9), (⟨"RegretLine", "noMileNorEnd", "(I)Z"⟩, 9), (⟨"RegretLine", "ofSeating", "(I)I"⟩, 9), (⟨"RegretLine$Seating", "classOf", "(II)I"⟩, 3), (⟨"RegretLine", "knowLeast", "()V"⟩, 9), (⟨"RegretLine$Ease", "weigh", "(I)Z"⟩, 8), (⟨"RegretLine$Ease", "lowIn", "(II)I"⟩, 8), (⟨"RegretLine$Ease", "lookBack", "(I)V"⟩, 8), (⟨"RegretLine$Ease", "letChange", "(III)V"⟩, 8), (⟨"RegretLine$Ease", "choose", "()V"⟩, 8), (⟨"RegretLine$Ease", "firstOfLeast", "(II)I"⟩, 8)]
theorem lw_r1 : ∀ q ∈ lw_privs_1, lw_okq q := List.forall_mem_cons.mpr ⟨lw_p0, List.forall_mem_cons.mpr ⟨lw_p1, List.forall_mem_cons.mpr ⟨lw_p2, List.forall_mem_cons.mpr ⟨lw_p3, List.forall_mem_cons.mpr ⟨lw_p4, List.forall_mem_cons.mpr ⟨lw_p5, List.forall_mem_cons.mpr ⟨lw_p6, List.forall_mem_cons.mpr ⟨lw_p7, List.forall_mem_cons.mpr ⟨lw_p8, List.forall_mem_cons.mpr ⟨lw_p9, List.forall_mem_cons.mpr ⟨lw_p10, List.forall_mem_cons.mpr ⟨lw_p11, List.forall_mem_cons.mpr ⟨lw_p12, List.forall_mem_cons.mpr ⟨lw_p13, List.forall_mem_cons.mpr ⟨lw_p14, List.forall_mem_cons.mpr ⟨lw_p15, fun _ h => absurd h List.not_mem_nil⟩⟩⟩⟩⟩⟩⟩⟩⟩⟩⟩⟩⟩⟩⟩⟩
theorem lw_p16 : lw_okq (⟨"RegretLine$Ease", "write", "(II)V"⟩, 8) := ⟨⟨by decide +kernel, by decide +kernel⟩, List.mem_of_getElem? (i := 140) (by decide +kernel), List.mem_of_getElem? (i := 430) (by decide +kernel), List.mem_of_getElem? (i := 431) (by decide +kernel)⟩
theorem lw_p17 : lw_okq (⟨"RegretLine", "guessIsSo", "()Z"⟩, 9) := ⟨⟨by decide +kernel, by decide +kernel⟩, List.mem_of_getElem? (i := 13) (by decide +kernel), List.mem_of_getElem? (i := 468) (by decide +kernel), List.mem_of_getElem? (i := 469) (by decide +kernel)⟩
theorem lw_p18 : lw_okq (⟨"RegretLine", "waysToBeDue", "(III)I"⟩, 9) := ⟨⟨by decide +kernel, by decide +kernel⟩, List.mem_of_getElem? (i := 13) (by decide +kernel), List.mem_of_getElem? (i := 490) (by decide +kernel), List.mem_of_getElem? (i := 491) (by decide +kernel)⟩
theorem lw_p19 : lw_okq (⟨"RegretLine", "comeTo", "(I)I"⟩, 9) := ⟨⟨by decide +kernel, by decide +kernel⟩, List.mem_of_getElem? (i := 13) (by decide +kernel), List.mem_of_getElem? (i := 499) (by decide +kernel), List.mem_of_getElem? (i := 500) (by decide +kernel)⟩
theorem lw_p20 : lw_okq (⟨"RegretLine", "tellHoneymooner", "(I)I"⟩, 9) := ⟨⟨by decide +kernel, by decide +kernel⟩, List.mem_of_getElem? (i := 13) (by decide +kernel), List.mem_of_getElem? (i := 540) (by decide +kernel), List.mem_of_getElem? (i := 541) (by decide +kernel)⟩
theorem lw_p21 : lw_okq (⟨"RegretLine", "leaveTrace", "(I)V"⟩, 9) := ⟨⟨by decide +kernel, by decide +kernel⟩, List.mem_of_getElem? (i := 13) (by decide +kernel), List.mem_of_getElem? (i := 544) (by decide +kernel), List.mem_of_getElem? (i := 545) (by decide +kernel)⟩
theorem lw_p22 : lw_okq (⟨"RegretLine", "tellWidow", "(I)I"⟩, 9) := ⟨⟨by decide +kernel, by decide +kernel⟩, List.mem_of_getElem? (i := 13) (by decide +kernel), List.mem_of_getElem? (i := 548) (by decide +kernel), List.mem_of_getElem? (i := 549) (by decide +kernel)⟩
theorem lw_p23 : lw_okq (⟨"RegretLine", "tellPassenger", "(I)I"⟩, 9) := ⟨⟨by decide +kernel, by decide +kernel⟩, List.mem_of_getElem? (i := 13) (by decide +kernel), List.mem_of_getElem? (i := 552) (by decide +kernel), List.mem_of_getElem? (i := 553) (by decide +kernel)⟩
theorem lw_p24 : lw_okq (⟨"RegretLineModel", "against", "(IIII)I"⟩, 30) := ⟨⟨by decide +kernel, by decide +kernel⟩, List.mem_of_getElem? (i := 576) (by decide +kernel), List.mem_of_getElem? (i := 686) (by decide +kernel), List.mem_of_getElem? (i := 687) (by decide +kernel)⟩
theorem lw_p25 : lw_okq (⟨"RegretLineModel", "fails", "(I)I"⟩, 30) := ⟨⟨by decide +kernel, by decide +kernel⟩, List.mem_of_getElem? (i := 576) (by decide +kernel), List.mem_of_getElem? (i := 690) (by decide +kernel), List.mem_of_getElem? (i := 691) (by decide +kernel)⟩
theorem lw_p26 : lw_okq (⟨"RegretLineModel", "readLine", "(I)Z"⟩, 30) := ⟨⟨by decide +kernel, by decide +kernel⟩, List.mem_of_getElem? (i := 576) (by decide +kernel), List.mem_of_getElem? (i := 694) (by decide +kernel), List.mem_of_getElem? (i := 695) (by decide +kernel)⟩
theorem lw_p27 : lw_okq (⟨"RegretLineModel", "isSign", "(II)Z"⟩, 30) := ⟨⟨by decide +kernel, by decide +kernel⟩, List.mem_of_getElem? (i := 576) (by decide +kernel), List.mem_of_getElem? (i := 698) (by decide +kernel), List.mem_of_getElem? (i := 699) (by decide +kernel)⟩
theorem lw_p28 : lw_okq (⟨"RegretLineModel", "digit", "(III)I"⟩, 30) := ⟨⟨by decide +kernel, by decide +kernel⟩, List.mem_of_getElem? (i := 576) (by decide +kernel), List.mem_of_getElem? (i := 702) (by decide +kernel), List.mem_of_getElem? (i := 703) (by decide +kernel)⟩
theorem lw_p29 : lw_okq (⟨"RegretLineModel", "readPassenger", "(I)Z"⟩, 30) := ⟨⟨by decide +kernel, by decide +kernel⟩, List.mem_of_getElem? (i := 576) (by decide +kernel), List.mem_of_getElem? (i := 706) (by decide +kernel), List.mem_of_getElem? (i := 707) (by decide +kernel)⟩
theorem lw_p30 : lw_okq (⟨"RegretLineModel", "takeLine", "()V"⟩, 30) := ⟨⟨by decide +kernel, by decide +kernel⟩, List.mem_of_getElem? (i := 576) (by decide +kernel), List.mem_of_getElem? (i := 710) (by decide +kernel), List.mem_of_getElem? (i := 711) (by decide +kernel)⟩
theorem lw_p31 : lw_okq (⟨"RegretLineModel", "isPassenger", "(I)Z"⟩, 30) := ⟨⟨by decide +kernel, by decide +kernel⟩, List.mem_of_getElem? (i := 576) (by decide +kernel), List.mem_of_getElem? (i := 718) (by decide +kernel), List.mem_of_getElem? (i := 719) (by decide +kernel)⟩
def lw_privs_2 : List (MethodName × Nat) := [(⟨"RegretLine$Ease", "write", "(II)V"⟩, 8), (⟨"RegretLine", "guessIsSo", "()Z"⟩, 9), (⟨"RegretLine", "waysToBeDue", "(III)I"⟩, 9), (⟨"RegretLine", "comeTo", "(I)I"⟩, 9), (⟨"RegretLine", "tellHoneymooner", "(I)I"⟩, 9), (⟨"RegretLine", "leaveTrace", "(I)V"⟩, 9), (⟨"RegretLine", "tellWidow", "(I)I"⟩, 9), (⟨"RegretLine", "tellPassenger", "(I)I"⟩, 9), (⟨"RegretLineModel", "against", "(IIII)I"⟩, 30), (⟨"RegretLineModel", "fails", "(I)I"⟩, 30), (⟨"RegretLineModel", "readLine", "(I)Z"⟩, 30), (⟨"RegretLineModel", "isSign", "(II)Z"⟩, 30), (⟨"RegretLineModel", "digit", "(III)I"⟩, 30), (⟨"RegretLineModel", "readPassenger", "(I)Z"⟩, 30), (⟨"RegretLineModel", "takeLine", "()V"⟩, 30), (⟨"RegretLineModel", "isPassenger", "(I)Z"⟩, 30)]
theorem lw_r2 : ∀ q ∈ lw_privs_2, lw_okq q := List.forall_mem_cons.mpr ⟨lw_p16, List.forall_mem_cons.mpr ⟨lw_p17, List.forall_mem_cons.mpr ⟨lw_p18, List.forall_mem_cons.mpr ⟨lw_p19, List.forall_mem_cons.mpr ⟨lw_p20, List.forall_mem_cons.mpr ⟨lw_p21, List.forall_mem_cons.mpr ⟨lw_p22, List.forall_mem_cons.mpr ⟨lw_p23, List.forall_mem_cons.mpr ⟨lw_p24, List.forall_mem_cons.mpr ⟨lw_p25, List.forall_mem_cons.mpr ⟨lw_p26, List.forall_mem_cons.mpr ⟨lw_p27, List.forall_mem_cons.mpr ⟨lw_p28, List.forall_mem_cons.mpr ⟨lw_p29, List.forall_mem_cons.mpr ⟨lw_p30, List.forall_mem_cons.mpr ⟨lw_p31, fun _ h => absurd h List.not_mem_nil⟩⟩⟩⟩⟩⟩⟩⟩⟩⟩⟩⟩⟩⟩⟩⟩
theorem lw_p32 : lw_okq (⟨"RegretLineModel", "isMile", "(I)Z"⟩, 30) := ⟨⟨by decide +kernel, by decide +kernel⟩, List.mem_of_getElem? (i := 576) (by decide +kernel), List.mem_of_getElem? (i := 734) (by decide +kernel), List.mem_of_getElem? (i := 735) (by decide +kernel)⟩
theorem lw_p33 : lw_okq (⟨"RegretLineModel", "goTo", "(I)V"⟩, 30) := ⟨⟨by decide +kernel, by decide +kernel⟩, List.mem_of_getElem? (i := 576) (by decide +kernel), List.mem_of_getElem? (i := 746) (by decide +kernel), List.mem_of_getElem? (i := 747) (by decide +kernel)⟩
theorem lw_p34 : lw_okq (⟨"RegretLineModel", "begin", "()V"⟩, 30) := ⟨⟨by decide +kernel, by decide +kernel⟩, List.mem_of_getElem? (i := 576) (by decide +kernel), List.mem_of_getElem? (i := 750) (by decide +kernel), List.mem_of_getElem? (i := 751) (by decide +kernel)⟩
theorem lw_p35 : lw_okq (⟨"RegretLineModel", "goMile", "(IZ)V"⟩, 30) := ⟨⟨by decide +kernel, by decide +kernel⟩, List.mem_of_getElem? (i := 576) (by decide +kernel), List.mem_of_getElem? (i := 754) (by decide +kernel), List.mem_of_getElem? (i := 755) (by decide +kernel)⟩
theorem lw_p36 : lw_okq (⟨"RegretLineModel", "changes", "(IZ)I"⟩, 30) := ⟨⟨by decide +kernel, by decide +kernel⟩, List.mem_of_getElem? (i := 576) (by decide +kernel), List.mem_of_getElem? (i := 758) (by decide +kernel), List.mem_of_getElem? (i := 759) (by decide +kernel)⟩
theorem lw_p37 : lw_okq (⟨"RegretLineModel", "dueBy", "(I)I"⟩, 30) := ⟨⟨by decide +kernel, by decide +kernel⟩, List.mem_of_getElem? (i := 576) (by decide +kernel), List.mem_of_getElem? (i := 770) (by decide +kernel), List.mem_of_getElem? (i := 771) (by decide +kernel)⟩
theorem lw_p38 : lw_okq (⟨"RegretLineModel", "wrongBy", "(I)I"⟩, 30) := ⟨⟨by decide +kernel, by decide +kernel⟩, List.mem_of_getElem? (i := 576) (by decide +kernel), List.mem_of_getElem? (i := 778) (by decide +kernel), List.mem_of_getElem? (i := 779) (by decide +kernel)⟩
theorem lw_p39 : lw_okq (⟨"RegretLineModel", "seatedIn", "(II)I"⟩, 30) := ⟨⟨by decide +kernel, by decide +kernel⟩, List.mem_of_getElem? (i := 576) (by decide +kernel), List.mem_of_getElem? (i := 782) (by decide +kernel), List.mem_of_getElem? (i := 783) (by decide +kernel)⟩
theorem lw_p40 : lw_okq (⟨"RegretLineModel", "tellSeating", "(II)I"⟩, 30) := ⟨⟨by decide +kernel, by decide +kernel⟩, List.mem_of_getElem? (i := 576) (by decide +kernel), List.mem_of_getElem? (i := 786) (by decide +kernel), List.mem_of_getElem? (i := 787) (by decide +kernel)⟩
theorem lw_p41 : lw_okq (⟨"RegretLineModel", "layDues", "()V"⟩, 30) := ⟨⟨by decide +kernel, by decide +kernel⟩, List.mem_of_getElem? (i := 576) (by decide +kernel), List.mem_of_getElem? (i := 790) (by decide +kernel), List.mem_of_getElem? (i := 791) (by decide +kernel)⟩
theorem lw_p42 : lw_okq (⟨"RegretLineModel", "changesBy", "(I)I"⟩, 30) := ⟨⟨by decide +kernel, by decide +kernel⟩, List.mem_of_getElem? (i := 576) (by decide +kernel), List.mem_of_getElem? (i := 794) (by decide +kernel), List.mem_of_getElem? (i := 795) (by decide +kernel)⟩
theorem lw_p43 : lw_okq (⟨"RegretLineModel", "lowBy", "(I)I"⟩, 30) := ⟨⟨by decide +kernel, by decide +kernel⟩, List.mem_of_getElem? (i := 576) (by decide +kernel), List.mem_of_getElem? (i := 798) (by decide +kernel), List.mem_of_getElem? (i := 799) (by decide +kernel)⟩
theorem lw_p44 : lw_okq (⟨"RegretLineModel", "aboveBy", "(II)I"⟩, 30) := ⟨⟨by decide +kernel, by decide +kernel⟩, List.mem_of_getElem? (i := 576) (by decide +kernel), List.mem_of_getElem? (i := 802) (by decide +kernel), List.mem_of_getElem? (i := 803) (by decide +kernel)⟩
theorem lw_p45 : lw_okq (⟨"RegretLineModel", "rows", "()I"⟩, 30) := ⟨⟨by decide +kernel, by decide +kernel⟩, List.mem_of_getElem? (i := 576) (by decide +kernel), List.mem_of_getElem? (i := 810) (by decide +kernel), List.mem_of_getElem? (i := 811) (by decide +kernel)⟩
theorem lw_p46 : lw_okq (⟨"RegretLineModel", "findEase", "(I)V"⟩, 30) := ⟨⟨by decide +kernel, by decide +kernel⟩, List.mem_of_getElem? (i := 576) (by decide +kernel), List.mem_of_getElem? (i := 814) (by decide +kernel), List.mem_of_getElem? (i := 815) (by decide +kernel)⟩
theorem lw_p47 : lw_okq (⟨"RegretLineModel", "lowIn", "(II)I"⟩, 30) := ⟨⟨by decide +kernel, by decide +kernel⟩, List.mem_of_getElem? (i := 576) (by decide +kernel), List.mem_of_getElem? (i := 818) (by decide +kernel), List.mem_of_getElem? (i := 819) (by decide +kernel)⟩
def lw_privs_3 : List (MethodName × Nat) := [(⟨"RegretLineModel", "isMile", "(I)Z"⟩, 30), (⟨"RegretLineModel", "goTo", "(I)V"⟩, 30), (⟨"RegretLineModel", "begin", "()V"⟩, 30), (⟨"RegretLineModel", "goMile", "(IZ)V"⟩, 30), (⟨"RegretLineModel", "changes", "(IZ)I"⟩, 30), (⟨"RegretLineModel", "dueBy", "(I)I"⟩, 30), (⟨"RegretLineModel", "wrongBy", "(I)I"⟩, 30), (⟨"RegretLineModel", "seatedIn", "(II)I"⟩, 30), (⟨"RegretLineModel", "tellSeating", "(II)I"⟩, 30), (⟨"RegretLineModel", "layDues", "()V"⟩, 30), (⟨"RegretLineModel", "changesBy", "(I)I"⟩, 30), (⟨"RegretLineModel", "lowBy", "(I)I"⟩, 30), (⟨"RegretLineModel", "aboveBy", "(II)I"⟩, 30), (⟨"RegretLineModel", "rows", "()I"⟩, 30), (⟨"RegretLineModel", "findEase", "(I)V"⟩, 30), (⟨"RegretLineModel", "lowIn", "(II)I"⟩, 30)]
theorem lw_r3 : ∀ q ∈ lw_privs_3, lw_okq q := List.forall_mem_cons.mpr ⟨lw_p32, List.forall_mem_cons.mpr ⟨lw_p33, List.forall_mem_cons.mpr ⟨lw_p34, List.forall_mem_cons.mpr ⟨lw_p35, List.forall_mem_cons.mpr ⟨lw_p36, List.forall_mem_cons.mpr ⟨lw_p37, List.forall_mem_cons.mpr ⟨lw_p38, List.forall_mem_cons.mpr ⟨lw_p39, List.forall_mem_cons.mpr ⟨lw_p40, List.forall_mem_cons.mpr ⟨lw_p41, List.forall_mem_cons.mpr ⟨lw_p42, List.forall_mem_cons.mpr ⟨lw_p43, List.forall_mem_cons.mpr ⟨lw_p44, List.forall_mem_cons.mpr ⟨lw_p45, List.forall_mem_cons.mpr ⟨lw_p46, List.forall_mem_cons.mpr ⟨lw_p47, fun _ h => absurd h List.not_mem_nil⟩⟩⟩⟩⟩⟩⟩⟩⟩⟩⟩⟩⟩⟩⟩⟩
theorem lw_p48 : lw_okq (⟨"RegretLineModel", "place", "(II)I"⟩, 30) := ⟨⟨by decide +kernel, by decide +kernel⟩, List.mem_of_getElem? (i := 576) (by decide +kernel), List.mem_of_getElem? (i := 822) (by decide +kernel), List.mem_of_getElem? (i := 823) (by decide +kernel)⟩
theorem lw_p49 : lw_okq (⟨"RegretLineModel", "bestBehind", "(III)I"⟩, 30) := ⟨⟨by decide +kernel, by decide +kernel⟩, List.mem_of_getElem? (i := 576) (by decide +kernel), List.mem_of_getElem? (i := 826) (by decide +kernel), List.mem_of_getElem? (i := 827) (by decide +kernel)⟩
theorem lw_p50 : lw_okq (⟨"RegretLineModel", "changed", "(II)I"⟩, 30) := ⟨⟨by decide +kernel, by decide +kernel⟩, List.mem_of_getElem? (i := 576) (by decide +kernel), List.mem_of_getElem? (i := 830) (by decide +kernel), List.mem_of_getElem? (i := 831) (by decide +kernel)⟩
theorem lw_p51 : lw_okq (⟨"RegretLineModel", "bestRow", "(III)I"⟩, 30) := ⟨⟨by decide +kernel, by decide +kernel⟩, List.mem_of_getElem? (i := 576) (by decide +kernel), List.mem_of_getElem? (i := 834) (by decide +kernel), List.mem_of_getElem? (i := 835) (by decide +kernel)⟩
theorem lw_p52 : lw_okq (⟨"RegretLineModel", "dueTogether", "(II)I"⟩, 30) := ⟨⟨by decide +kernel, by decide +kernel⟩, List.mem_of_getElem? (i := 576) (by decide +kernel), List.mem_of_getElem? (i := 846) (by decide +kernel), List.mem_of_getElem? (i := 847) (by decide +kernel)⟩
theorem lw_p53 : lw_okq (⟨"RegretLineModel", "areSo", "()Z"⟩, 30) := ⟨⟨by decide +kernel, by decide +kernel⟩, List.mem_of_getElem? (i := 576) (by decide +kernel), List.mem_of_getElem? (i := 862) (by decide +kernel), List.mem_of_getElem? (i := 863) (by decide +kernel)⟩
theorem lw_p54 : lw_okq (⟨"RegretLineModel", "areSoIn", "(I)Z"⟩, 30) := ⟨⟨by decide +kernel, by decide +kernel⟩, List.mem_of_getElem? (i := 576) (by decide +kernel), List.mem_of_getElem? (i := 866) (by decide +kernel), List.mem_of_getElem? (i := 867) (by decide +kernel)⟩
theorem lw_p55 : lw_okq (⟨"RegretLineModel", "lost", "(I)J"⟩, 30) := ⟨⟨by decide +kernel, by decide +kernel⟩, List.mem_of_getElem? (i := 576) (by decide +kernel), List.mem_of_getElem? (i := 902) (by decide +kernel), List.mem_of_getElem? (i := 903) (by decide +kernel)⟩
theorem lw_p56 : lw_okq (⟨"RegretLineModel", "begins", "(I)V"⟩, 30) := ⟨⟨by decide +kernel, by decide +kernel⟩, List.mem_of_getElem? (i := 576) (by decide +kernel), List.mem_of_getElem? (i := 914) (by decide +kernel), List.mem_of_getElem? (i := 915) (by decide +kernel)⟩
def lw_privs_4 : List (MethodName × Nat) := [(⟨"RegretLineModel", "place", "(II)I"⟩, 30), (⟨"RegretLineModel", "bestBehind", "(III)I"⟩, 30), (⟨"RegretLineModel", "changed", "(II)I"⟩, 30), (⟨"RegretLineModel", "bestRow", "(III)I"⟩, 30), (⟨"RegretLineModel", "dueTogether", "(II)I"⟩, 30), (⟨"RegretLineModel", "areSo", "()Z"⟩, 30), (⟨"RegretLineModel", "areSoIn", "(I)Z"⟩, 30), (⟨"RegretLineModel", "lost", "(I)J"⟩, 30), (⟨"RegretLineModel", "begins", "(I)V"⟩, 30)]
theorem lw_r4 : ∀ q ∈ lw_privs_4, lw_okq q := List.forall_mem_cons.mpr ⟨lw_p48, List.forall_mem_cons.mpr ⟨lw_p49, List.forall_mem_cons.mpr ⟨lw_p50, List.forall_mem_cons.mpr ⟨lw_p51, List.forall_mem_cons.mpr ⟨lw_p52, List.forall_mem_cons.mpr ⟨lw_p53, List.forall_mem_cons.mpr ⟨lw_p54, List.forall_mem_cons.mpr ⟨lw_p55, List.forall_mem_cons.mpr ⟨lw_p56, fun _ h => absurd h List.not_mem_nil⟩⟩⟩⟩⟩⟩⟩⟩⟩
def lw_privs : List (MethodName × Nat) := lw_privs_1 ++ (lw_privs_2 ++ (lw_privs_3 ++ (lw_privs_4)))
def lw_tbl : List Cond := k2_sels lw_privs ++ tables_1
theorem lw_privs_ok : ∀ q ∈ lw_privs, lw_okq q := by
  show ∀ q ∈ lw_privs_1 ++ (lw_privs_2 ++ (lw_privs_3 ++ (lw_privs_4))), lw_okq q
  exact List.forall_mem_append.mpr ⟨lw_r1, List.forall_mem_append.mpr ⟨lw_r2, List.forall_mem_append.mpr ⟨lw_r3, lw_r4⟩⟩⟩
end
section
/-! ===== BEGIN printed: names, fields, word lists, decode rows ===== -/
def RX0 : String := "RegretLine$Ease"
def TX0 : u_T := fun k => match k with
  | 0 => ("RegretLine$Ease", "train", "LRegretLine$Train;", true)
  | 1 => ("RegretLine$Ease", "toGo", "[[I", true)
  | 2 => ("RegretLine$Ease", "behind", "[I", true)
  | 3 => ("RegretLine$Ease", "sitting", "[I", true)
  | 4 => ("RegretLine$Ease", "ways", "I", false)
  | 5 => ("RegretLine$Ease", "row", "[I", true)
  | 6 => ("RegretLine$Ease", "trouble", "I", false)
  | _ => ("RegretLine$Ease", "stuckIn", "I", false)
def tyX0 : Nat → FieldType := fun k => match k with
  | 0 => .object "RegretLine$Train"
  | 1 => .array (.array .int)
  | 2 => .array .int
  | 3 => .array .int
  | 4 => .int
  | 5 => .array .int
  | 6 => .int
  | _ => .int
abbrev wsX00 : List Cond := u_ws RX0 TX0 8
theorem nmX0 : ∀ a, a < 8 → ∀ b, b < 8 → a ≠ b → (TX0 a).2.1 ≠ (TX0 b).2.1 := by decide +kernel
theorem tyX0_ok : ∀ k, k < 8 → parseFieldDescriptor (TX0 k).2.2.1 = some (tyX0 k) := by decide +kernel
abbrev cX0_init : ByteArray := prog_2_method_1_code
def yX0_init : MethodName := ⟨RX0, "<init>", "(LRegretLine$Train;)V"⟩
abbrev cX0_seek : ByteArray := prog_2_method_2_code
def yX0_seek : MethodName := ⟨RX0, "seek", "()V"⟩
abbrev cX0_weigh : ByteArray := prog_2_method_3_code
def yX0_weigh : MethodName := ⟨RX0, "weigh", "(I)Z"⟩
abbrev cX0_lowIn : ByteArray := prog_2_method_4_code
def yX0_lowIn : MethodName := ⟨RX0, "lowIn", "(II)I"⟩
abbrev cX0_lookBack : ByteArray := prog_2_method_5_code
def yX0_lookBack : MethodName := ⟨RX0, "lookBack", "(I)V"⟩
abbrev cX0_letChange : ByteArray := prog_2_method_6_code
def yX0_letChange : MethodName := ⟨RX0, "letChange", "(III)V"⟩
abbrev cX0_choose : ByteArray := prog_2_method_7_code
def yX0_choose : MethodName := ⟨RX0, "choose", "()V"⟩
abbrev cX0_firstOfLeast : ByteArray := prog_2_method_8_code
def yX0_firstOfLeast : MethodName := ⟨RX0, "firstOfLeast", "(II)I"⟩
abbrev cX0_changesBetween : ByteArray := prog_2_method_9_code
def yX0_changesBetween : MethodName := ⟨RX0, "changesBetween", "(II)I"⟩
abbrev cX0_write : ByteArray := prog_2_method_10_code
def yX0_write : MethodName := ⟨RX0, "write", "(II)V"⟩
def RX1 : String := "RegretLine$Readings"
def TX1 : u_T := fun k => match k with
  | 0 => ("RegretLine$Readings", "who", "[I", true)
  | 1 => ("RegretLine$Readings", "where", "[I", true)
  | 2 => ("RegretLine$Readings", "seen", "[I", true)
  | _ => ("RegretLine$Readings", "count", "I", false)
def tyX1 : Nat → FieldType := fun k => match k with
  | 0 => .array .int
  | 1 => .array .int
  | 2 => .array .int
  | _ => .int
abbrev wsX10 : List Cond := u_ws RX1 TX1 4
theorem nmX1 : ∀ a, a < 4 → ∀ b, b < 4 → a ≠ b → (TX1 a).2.1 ≠ (TX1 b).2.1 := by decide +kernel
theorem tyX1_ok : ∀ k, k < 4 → parseFieldDescriptor (TX1 k).2.2.1 = some (tyX1 k) := by decide +kernel
abbrev cX1_init : ByteArray := prog_3_method_1_code
def yX1_init : MethodName := ⟨RX1, "<init>", "()V"⟩
abbrev cX1_keep : ByteArray := prog_3_method_2_code
def yX1_keep : MethodName := ⟨RX1, "keep", "(III)I"⟩
abbrev cX1_areSo : ByteArray := prog_3_method_3_code
def yX1_areSo : MethodName := ⟨RX1, "areSo", "(LRegretLine$Train;)Z"⟩
def RX2 : String := "RegretLine$Seating"
def TX2 : u_T := fun k => match k with
  | 0 => ("RegretLine$Seating", "train", "LRegretLine$Train;", true)
  | 1 => ("RegretLine$Seating", "row", "[I", true)
  | _ => ("RegretLine$Seating", "sitting", "[I", true)
def tyX2 : Nat → FieldType := fun k => match k with
  | 0 => .object "RegretLine$Train"
  | 1 => .array .int
  | _ => .array .int
abbrev wsX20 : List Cond := u_ws RX2 TX2 3
theorem nmX2 : ∀ a, a < 3 → ∀ b, b < 3 → a ≠ b → (TX2 a).2.1 ≠ (TX2 b).2.1 := by decide +kernel
theorem tyX2_ok : ∀ k, k < 3 → parseFieldDescriptor (TX2 k).2.2.1 = some (tyX2 k) := by decide +kernel
abbrev cX2_init : ByteArray := prog_4_method_1_code
def yX2_init : MethodName := ⟨RX2, "<init>", "(LRegretLine$Train;)V"⟩
abbrev cX2_readFrom : ByteArray := prog_4_method_2_code
def yX2_readFrom : MethodName := ⟨RX2, "readFrom", "([II)Z"⟩
abbrev cX2_classOf : ByteArray := prog_4_method_3_code
def yX2_classOf : MethodName := ⟨RX2, "classOf", "(II)I"⟩
abbrev cX2_firstWrong : ByteArray := prog_4_method_4_code
def yX2_firstWrong : MethodName := ⟨RX2, "firstWrong", "()I"⟩
abbrev cX2_countChanges : ByteArray := prog_4_method_5_code
def yX2_countChanges : MethodName := ⟨RX2, "countChanges", "()I"⟩
abbrev cX2_countLow : ByteArray := prog_4_method_6_code
def yX2_countLow : MethodName := ⟨RX2, "countLow", "()I"⟩
abbrev cX2_countAbove : ByteArray := prog_4_method_7_code
def yX2_countAbove : MethodName := ⟨RX2, "countAbove", "()I"⟩
abbrev cX2_milesAbove : ByteArray := prog_4_method_8_code
def yX2_milesAbove : MethodName := ⟨RX2, "milesAbove", "(I)I"⟩
def RX3 : String := "RegretLine$Sheet"
def TX3 : u_T := fun k => match k with
  | 0 => ("RegretLine$Sheet", "cells", "[I", true)
  | 1 => ("RegretLine$Sheet", "lane", "I", false)
  | _ => ("RegretLine$Sheet", "size", "I", false)
def tyX3 : Nat → FieldType := fun k => match k with
  | 0 => .array .int
  | 1 => .int
  | _ => .int
abbrev wsX30 : List Cond := u_ws RX3 TX3 3
theorem nmX3 : ∀ a, a < 3 → ∀ b, b < 3 → a ≠ b → (TX3 a).2.1 ≠ (TX3 b).2.1 := by decide +kernel
theorem tyX3_ok : ∀ k, k < 3 → parseFieldDescriptor (TX3 k).2.2.1 = some (tyX3 k) := by decide +kernel
abbrev cX3_init : ByteArray := prog_5_method_1_code
def yX3_init : MethodName := ⟨RX3, "<init>", "()V"⟩
abbrev cX3_renew : ByteArray := prog_5_method_2_code
def yX3_renew : MethodName := ⟨RX3, "renew", "(II)V"⟩
abbrev cX3_hasNothing : ByteArray := prog_5_method_3_code
def yX3_hasNothing : MethodName := ⟨RX3, "hasNothing", "()Z"⟩
abbrev cX3_noCell : ByteArray := prog_5_method_4_code
def yX3_noCell : MethodName := ⟨RX3, "noCell", "(I)Z"⟩
abbrev cX3_lacksCells : ByteArray := prog_5_method_5_code
def yX3_lacksCells : MethodName := ⟨RX3, "lacksCells", "(II)Z"⟩
abbrev cX3_cut : ByteArray := prog_5_method_6_code
def yX3_cut : MethodName := ⟨RX3, "cut", "(I)I"⟩
abbrev cX3_faultOfRow : ByteArray := prog_5_method_7_code
def yX3_faultOfRow : MethodName := ⟨RX3, "faultOfRow", "(I)I"⟩
abbrev cX3_faultOfCells : ByteArray := prog_5_method_8_code
def yX3_faultOfCells : MethodName := ⟨RX3, "faultOfCells", "(III)I"⟩
def RX4 : String := "RegretLine$Text"
def TX4 : u_T := fun k => match k with
  | _ => ("", "", "", false)
def tyX4 : Nat → FieldType := fun k => match k with
  | _ => .int
abbrev wsX40 : List Cond := u_ws RX4 TX4 0
theorem nmX4 : ∀ a, a < 0 → ∀ b, b < 0 → a ≠ b → (TX4 a).2.1 ≠ (TX4 b).2.1 := by decide +kernel
theorem tyX4_ok : ∀ k, k < 0 → parseFieldDescriptor (TX4 k).2.2.1 = some (tyX4 k) := by decide +kernel
abbrev cX4_firstFault : ByteArray := prog_6_method_2_code
def yX4_firstFault : MethodName := ⟨RX4, "firstFault", "([III)I"⟩
abbrev cX4_fitsHead : ByteArray := prog_6_method_3_code
def yX4_fitsHead : MethodName := ⟨RX4, "fitsHead", "(II)Z"⟩
abbrev cX4_isMile : ByteArray := prog_6_method_4_code
def yX4_isMile : MethodName := ⟨RX4, "isMile", "(I)Z"⟩
abbrev cX4_fitsPassenger : ByteArray := prog_6_method_5_code
def yX4_fitsPassenger : MethodName := ⟨RX4, "fitsPassenger", "(II)Z"⟩
abbrev cX4_isDigit : ByteArray := prog_6_method_6_code
def yX4_isDigit : MethodName := ⟨RX4, "isDigit", "(II)Z"⟩
abbrev cX4_kindOf : ByteArray := prog_6_method_7_code
def yX4_kindOf : MethodName := ⟨RX4, "kindOf", "(I)I"⟩
def RX5 : String := "RegretLine$Train"
def TX5 : u_T := fun k => match k with
  | 0 => ("RegretLine$Train", "seatsOf", "[I", true)
  | 1 => ("RegretLine$Train", "tunnel", "[Z", true)
  | 2 => ("RegretLine$Train", "talker", "[I", true)
  | 3 => ("RegretLine$Train", "listener", "[I", true)
  | 4 => ("RegretLine$Train", "kind", "[I", true)
  | 5 => ("RegretLine$Train", "first", "[I", true)
  | 6 => ("RegretLine$Train", "fades", "[I", true)
  | 7 => ("RegretLine$Train", "regrets", "[[I", true)
  | 8 => ("RegretLine$Train", "miles", "I", false)
  | 9 => ("RegretLine$Train", "passengers", "I", false)
  | 10 => ("RegretLine$Train", "firstLimit", "I", false)
  | _ => ("RegretLine$Train", "secondLimit", "I", false)
def tyX5 : Nat → FieldType := fun k => match k with
  | 0 => .array .int
  | 1 => .array .boolean
  | 2 => .array .int
  | 3 => .array .int
  | 4 => .array .int
  | 5 => .array .int
  | 6 => .array .int
  | 7 => .array (.array .int)
  | 8 => .int
  | 9 => .int
  | 10 => .int
  | _ => .int
abbrev wsX50 : List Cond := u_ws RX5 TX5 12
theorem nmX5 : ∀ a, a < 12 → ∀ b, b < 12 → a ≠ b → (TX5 a).2.1 ≠ (TX5 b).2.1 := by decide +kernel
theorem tyX5_ok : ∀ k, k < 12 → parseFieldDescriptor (TX5 k).2.2.1 = some (tyX5 k) := by decide +kernel
abbrev cX5_init : ByteArray := prog_7_method_1_code
def yX5_init : MethodName := ⟨RX5, "<init>", "()V"⟩
abbrev cX5_readFrom : ByteArray := prog_7_method_2_code
def yX5_readFrom : MethodName := ⟨RX5, "readFrom", "([III)V"⟩
abbrev cX5_becomeLike : ByteArray := prog_7_method_3_code
def yX5_becomeLike : MethodName := ⟨RX5, "becomeLike", "(LRegretLine$Train;)V"⟩
abbrev cX5_rideAll : ByteArray := prog_7_method_4_code
def yX5_rideAll : MethodName := ⟨RX5, "rideAll", "()V"⟩
abbrev cX5_rideFrom : ByteArray := prog_7_method_5_code
def yX5_rideFrom : MethodName := ⟨RX5, "rideFrom", "(I)V"⟩
abbrev cX5_rideThrough : ByteArray := prog_7_method_6_code
def yX5_rideThrough : MethodName := ⟨RX5, "rideThrough", "(I)V"⟩
abbrev cX5_regretBehind : ByteArray := prog_7_method_7_code
def yX5_regretBehind : MethodName := ⟨RX5, "regretBehind", "(II)I"⟩
abbrev cX5_regretAhead : ByteArray := prog_7_method_8_code
def yX5_regretAhead : MethodName := ⟨RX5, "regretAhead", "(II)I"⟩
abbrev cX5_classDue : ByteArray := prog_7_method_9_code
def yX5_classDue : MethodName := ⟨RX5, "classDue", "(II)I"⟩
abbrev cX5_dueTogether : ByteArray := prog_7_method_10_code
def yX5_dueTogether : MethodName := ⟨RX5, "dueTogether", "(I)I"⟩
def RX6 : String := "RegretLine"
def TX6 : u_T := fun k => match k with
  | 0 => ("RegretLine", "sheets", "[LRegretLine$Sheet;", true)
  | 1 => ("RegretLine", "train", "LRegretLine$Train;", true)
  | 2 => ("RegretLine", "guess", "LRegretLine$Train;", true)
  | 3 => ("RegretLine", "readings", "LRegretLine$Readings;", true)
  | 4 => ("RegretLine", "told", "LRegretLine$Seating;", true)
  | 5 => ("RegretLine", "least", "LRegretLine$Ease;", true)
  | 6 => ("RegretLine", "leastKnown", "Z", false)
  | 7 => ("RegretLine", "traced", "I", false)
  | _ => ("RegretLine", "lastFault", "I", false)
def tyX6 : Nat → FieldType := fun k => match k with
  | 0 => .array (.object "RegretLine$Sheet")
  | 1 => .object "RegretLine$Train"
  | 2 => .object "RegretLine$Train"
  | 3 => .object "RegretLine$Readings"
  | 4 => .object "RegretLine$Seating"
  | 5 => .object "RegretLine$Ease"
  | 6 => .boolean
  | 7 => .int
  | _ => .int
abbrev wsX60 : List Cond := u_ws RX6 TX6 9
theorem nmX6 : ∀ a, a < 9 → ∀ b, b < 9 → a ≠ b → (TX6 a).2.1 ≠ (TX6 b).2.1 := by decide +kernel
theorem tyX6_ok : ∀ k, k < 9 → parseFieldDescriptor (TX6 k).2.2.1 = some (tyX6 k) := by decide +kernel
abbrev cX6_init : ByteArray := prog_1_method_1_code
def yX6_init : MethodName := ⟨RX6, "<init>", "()V"⟩
abbrev cX6_line : ByteArray := prog_1_method_2_code
def yX6_line : MethodName := ⟨RX6, "line", "(IIII)I"⟩
abbrev cX6_ofPassenger : ByteArray := prog_1_method_3_code
def yX6_ofPassenger : MethodName := ⟨RX6, "ofPassenger", "(II)I"⟩
abbrev cX6_seats : ByteArray := prog_1_method_4_code
def yX6_seats : MethodName := ⟨RX6, "seats", "(II)I"⟩
abbrev cX6_limits : ByteArray := prog_1_method_5_code
def yX6_limits : MethodName := ⟨RX6, "limits", "(II)I"⟩
abbrev cX6_dig : ByteArray := prog_1_method_6_code
def yX6_dig : MethodName := ⟨RX6, "dig", "(IZ)I"⟩
abbrev cX6_talk : ByteArray := prog_1_method_7_code
def yX6_talk : MethodName := ⟨RX6, "talk", "(III)I"⟩
abbrev cX6_regret : ByteArray := prog_1_method_8_code
def yX6_regret : MethodName := ⟨RX6, "regret", "(II)I"⟩
abbrev cX6_due : ByteArray := prog_1_method_9_code
def yX6_due : MethodName := ⟨RX6, "due", "(II)I"⟩
abbrev cX6_seating : ByteArray := prog_1_method_10_code
def yX6_seating : MethodName := ⟨RX6, "seating", "(IIIII)I"⟩
abbrev cX6_noQuestionOfSeating : ByteArray := prog_1_method_11_code
def yX6_noQuestionOfSeating : MethodName := ⟨RX6, "noQuestionOfSeating", "(I)Z"⟩
abbrev cX6_ofSeating : ByteArray := prog_1_method_12_code
def yX6_ofSeating : MethodName := ⟨RX6, "ofSeating", "(I)I"⟩
abbrev cX6_ease : ByteArray := prog_1_method_13_code
def yX6_ease : MethodName := ⟨RX6, "ease", "(I)I"⟩
abbrev cX6_stuck : ByteArray := prog_1_method_14_code
def yX6_stuck : MethodName := ⟨RX6, "stuck", "()I"⟩
abbrev cX6_help : ByteArray := prog_1_method_15_code
def yX6_help : MethodName := ⟨RX6, "help", "(III)I"⟩
abbrev cX6_knowLeast : ByteArray := prog_1_method_16_code
def yX6_knowLeast : MethodName := ⟨RX6, "knowLeast", "()V"⟩
abbrev cX6_reading : ByteArray := prog_1_method_17_code
def yX6_reading : MethodName := ⟨RX6, "reading", "(III)I"⟩
abbrev cX6_back : ByteArray := prog_1_method_18_code
def yX6_back : MethodName := ⟨RX6, "back", "(I)I"⟩
abbrev cX6_began : ByteArray := prog_1_method_19_code
def yX6_began : MethodName := ⟨RX6, "began", "(II)I"⟩
abbrev cX6_kinds : ByteArray := prog_1_method_20_code
def yX6_kinds : MethodName := ⟨RX6, "kinds", "(I)I"⟩
abbrev cX6_fadings : ByteArray := prog_1_method_21_code
def yX6_fadings : MethodName := ⟨RX6, "fadings", "(I)I"⟩
abbrev cX6_guessIsSo : ByteArray := prog_1_method_22_code
def yX6_guessIsSo : MethodName := ⟨RX6, "guessIsSo", "()Z"⟩
abbrev cX6_odds : ByteArray := prog_1_method_23_code
def yX6_odds : MethodName := ⟨RX6, "odds", "(III)J"⟩
abbrev cX6_waysToBeDue : ByteArray := prog_1_method_24_code
def yX6_waysToBeDue : MethodName := ⟨RX6, "waysToBeDue", "(III)I"⟩
abbrev cX6_sheet : ByteArray := prog_1_method_25_code
def yX6_sheet : MethodName := ⟨RX6, "sheet", "(III)I"⟩
abbrev cX6_lose : ByteArray := prog_1_method_26_code
def yX6_lose : MethodName := ⟨RX6, "lose", "(I)I"⟩
abbrev cX6_put : ByteArray := prog_1_method_27_code
def yX6_put : MethodName := ⟨RX6, "put", "(III)I"⟩
abbrev cX6_cell : ByteArray := prog_1_method_28_code
def yX6_cell : MethodName := ⟨RX6, "cell", "(III)J"⟩
abbrev cX6_copy : ByteArray := prog_1_method_29_code
def yX6_copy : MethodName := ⟨RX6, "copy", "(IIIII)I"⟩
abbrev cX6_tell : ByteArray := prog_1_method_30_code
def yX6_tell : MethodName := ⟨RX6, "tell", "(I)I"⟩
abbrev cX6_tellPassenger : ByteArray := prog_1_method_31_code
def yX6_tellPassenger : MethodName := ⟨RX6, "tellPassenger", "(I)I"⟩
abbrev cX6_tellWidow : ByteArray := prog_1_method_32_code
def yX6_tellWidow : MethodName := ⟨RX6, "tellWidow", "(I)I"⟩
abbrev cX6_tellHoneymooner : ByteArray := prog_1_method_33_code
def yX6_tellHoneymooner : MethodName := ⟨RX6, "tellHoneymooner", "(I)I"⟩
abbrev cX6_call : ByteArray := prog_1_method_34_code
def yX6_call : MethodName := ⟨RX6, "call", "(I)I"⟩
abbrev cX6_leaveTrace : ByteArray := prog_1_method_35_code
def yX6_leaveTrace : MethodName := ⟨RX6, "leaveTrace", "(I)V"⟩
abbrev cX6_as : ByteArray := prog_1_method_36_code
def yX6_as : MethodName := ⟨RX6, "as", "(II)I"⟩
abbrev cX6_trace : ByteArray := prog_1_method_37_code
def yX6_trace : MethodName := ⟨RX6, "trace", "()I"⟩
abbrev cX6_fault : ByteArray := prog_1_method_38_code
def yX6_fault : MethodName := ⟨RX6, "fault", "()I"⟩
abbrev cX6_many : ByteArray := prog_1_method_39_code
def yX6_many : MethodName := ⟨RX6, "many", "(I)I"⟩
abbrev cX6_comeTo : ByteArray := prog_1_method_40_code
def yX6_comeTo : MethodName := ⟨RX6, "comeTo", "(I)I"⟩
abbrev cX6_rideAnew : ByteArray := prog_1_method_41_code
def yX6_rideAnew : MethodName := ⟨RX6, "rideAnew", "()V"⟩
abbrev cX6_noLine : ByteArray := prog_1_method_42_code
def yX6_noLine : MethodName := ⟨RX6, "noLine", "()Z"⟩
abbrev cX6_noPassenger : ByteArray := prog_1_method_43_code
def yX6_noPassenger : MethodName := ⟨RX6, "noPassenger", "(I)Z"⟩
abbrev cX6_noPair : ByteArray := prog_1_method_44_code
def yX6_noPair : MethodName := ⟨RX6, "noPair", "(II)Z"⟩
abbrev cX6_noMile : ByteArray := prog_1_method_45_code
def yX6_noMile : MethodName := ⟨RX6, "noMile", "(I)Z"⟩
abbrev cX6_noMileNorEnd : ByteArray := prog_1_method_46_code
def yX6_noMileNorEnd : MethodName := ⟨RX6, "noMileNorEnd", "(I)Z"⟩
abbrev cX6_noClass : ByteArray := prog_1_method_47_code
def yX6_noClass : MethodName := ⟨RX6, "noClass", "(I)Z"⟩
abbrev cX6_noSheet : ByteArray := prog_1_method_48_code
def yX6_noSheet : MethodName := ⟨RX6, "noSheet", "(I)Z"⟩
abbrev cX6_noLane : ByteArray := prog_1_method_49_code
def yX6_noLane : MethodName := ⟨RX6, "noLane", "(I)Z"⟩
def RX7 : String := "RegretLineModel"
def TX7 : u_T := fun k => match k with
  | 0 => ("RegretLineModel", "fault", "I", false)
  | 1 => ("RegretLineModel", "trace", "I", false)
  | 2 => ("RegretLineModel", "sorts", "[I", true)
  | 3 => ("RegretLineModel", "sheetLong", "[I", true)
  | 4 => ("RegretLineModel", "cells", "[I", true)
  | 5 => ("RegretLineModel", "miles", "I", false)
  | 6 => ("RegretLineModel", "people", "I", false)
  | 7 => ("RegretLineModel", "first", "I", false)
  | 8 => ("RegretLineModel", "second", "I", false)
  | 9 => ("RegretLineModel", "seatsOf", "[I", true)
  | 10 => ("RegretLineModel", "isTunnel", "[Z", true)
  | 11 => ("RegretLineModel", "talksA", "[I", true)
  | 12 => ("RegretLineModel", "talksB", "[I", true)
  | 13 => ("RegretLineModel", "kind", "[I", true)
  | 14 => ("RegretLineModel", "began", "[I", true)
  | 15 => ("RegretLineModel", "fades", "[I", true)
  | 16 => ("RegretLineModel", "at", "I", false)
  | 17 => ("RegretLineModel", "readMiles", "I", false)
  | 18 => ("RegretLineModel", "readMany", "I", false)
  | 19 => ("RegretLineModel", "readSeats", "[I", true)
  | 20 => ("RegretLineModel", "readTunnel", "[Z", true)
  | 21 => ("RegretLineModel", "read", "[I", true)
  | 22 => ("RegretLineModel", "regrets", "[I", true)
  | 23 => ("RegretLineModel", "dues", "[I", true)
  | 24 => ("RegretLineModel", "trouble", "[I", true)
  | 25 => ("RegretLineModel", "unit", "[I", true)
  | 26 => ("RegretLineModel", "readings", "I", false)
  | 27 => ("RegretLineModel", "readWho", "[I", true)
  | 28 => ("RegretLineModel", "readMile", "[I", true)
  | _ => ("RegretLineModel", "readClass", "[I", true)
def tyX7 : Nat → FieldType := fun k => match k with
  | 0 => .int
  | 1 => .int
  | 2 => .array .int
  | 3 => .array .int
  | 4 => .array .int
  | 5 => .int
  | 6 => .int
  | 7 => .int
  | 8 => .int
  | 9 => .array .int
  | 10 => .array .boolean
  | 11 => .array .int
  | 12 => .array .int
  | 13 => .array .int
  | 14 => .array .int
  | 15 => .array .int
  | 16 => .int
  | 17 => .int
  | 18 => .int
  | 19 => .array .int
  | 20 => .array .boolean
  | 21 => .array .int
  | 22 => .array .int
  | 23 => .array .int
  | 24 => .array .int
  | 25 => .array .int
  | 26 => .int
  | 27 => .array .int
  | 28 => .array .int
  | _ => .array .int
abbrev wsX70 : List Cond := u_ws RX7 TX7 30
theorem nmX7 : ∀ a, a < 30 → ∀ b, b < 30 → a ≠ b → (TX7 a).2.1 ≠ (TX7 b).2.1 := by decide +kernel
theorem tyX7_ok : ∀ k, k < 30 → parseFieldDescriptor (TX7 k).2.2.1 = some (tyX7 k) := by decide +kernel
abbrev cX7_init : ByteArray := prog_9_method_1_code
def yX7_init : MethodName := ⟨RX7, "<init>", "()V"⟩
abbrev cX7_fails : ByteArray := prog_9_method_3_code
def yX7_fails : MethodName := ⟨RX7, "fails", "(I)I"⟩
abbrev cX7_lost : ByteArray := prog_9_method_4_code
def yX7_lost : MethodName := ⟨RX7, "lost", "(I)J"⟩
abbrev cX7_within : ByteArray := prog_9_method_5_code
def yX7_within : MethodName := ⟨RX7, "within", "(III)Z"⟩
abbrev cX7_isSheet : ByteArray := prog_9_method_6_code
def yX7_isSheet : MethodName := ⟨RX7, "isSheet", "(I)Z"⟩
abbrev cX7_isSort : ByteArray := prog_9_method_7_code
def yX7_isSort : MethodName := ⟨RX7, "isSort", "(I)Z"⟩
abbrev cX7_against : ByteArray := prog_9_method_8_code
def yX7_against : MethodName := ⟨RX7, "against", "(IIII)I"⟩
abbrev cX7_isPassenger : ByteArray := prog_9_method_9_code
def yX7_isPassenger : MethodName := ⟨RX7, "isPassenger", "(I)Z"⟩
abbrev cX7_isMile : ByteArray := prog_9_method_10_code
def yX7_isMile : MethodName := ⟨RX7, "isMile", "(I)Z"⟩
abbrev cX7_digit : ByteArray := prog_9_method_11_code
def yX7_digit : MethodName := ⟨RX7, "digit", "(III)I"⟩
abbrev cX7_isSign : ByteArray := prog_9_method_12_code
def yX7_isSign : MethodName := ⟨RX7, "isSign", "(II)Z"⟩
abbrev cX7_line : ByteArray := prog_9_method_13_code
def yX7_line : MethodName := ⟨RX7, "line", "(IIII)I"⟩
abbrev cX7_takeLine : ByteArray := prog_9_method_14_code
def yX7_takeLine : MethodName := ⟨RX7, "takeLine", "()V"⟩
abbrev cX7_readLine : ByteArray := prog_9_method_15_code
def yX7_readLine : MethodName := ⟨RX7, "readLine", "(I)Z"⟩
abbrev cX7_readPassenger : ByteArray := prog_9_method_16_code
def yX7_readPassenger : MethodName := ⟨RX7, "readPassenger", "(I)Z"⟩
abbrev cX7_ofPassenger : ByteArray := prog_9_method_17_code
def yX7_ofPassenger : MethodName := ⟨RX7, "ofPassenger", "(II)I"⟩
abbrev cX7_seats : ByteArray := prog_9_method_18_code
def yX7_seats : MethodName := ⟨RX7, "seats", "(II)I"⟩
abbrev cX7_limits : ByteArray := prog_9_method_19_code
def yX7_limits : MethodName := ⟨RX7, "limits", "(II)I"⟩
abbrev cX7_dig : ByteArray := prog_9_method_20_code
def yX7_dig : MethodName := ⟨RX7, "dig", "(IZ)I"⟩
abbrev cX7_talk : ByteArray := prog_9_method_21_code
def yX7_talk : MethodName := ⟨RX7, "talk", "(III)I"⟩
abbrev cX7_bounded : ByteArray := prog_9_method_22_code
def yX7_bounded : MethodName := ⟨RX7, "bounded", "(I)I"⟩
abbrev cX7_changes : ByteArray := prog_9_method_23_code
def yX7_changes : MethodName := ⟨RX7, "changes", "(IZ)I"⟩
abbrev cX7_goMile : ByteArray := prog_9_method_24_code
def yX7_goMile : MethodName := ⟨RX7, "goMile", "(IZ)V"⟩
abbrev cX7_begin : ByteArray := prog_9_method_25_code
def yX7_begin : MethodName := ⟨RX7, "begin", "()V"⟩
abbrev cX7_goTo : ByteArray := prog_9_method_26_code
def yX7_goTo : MethodName := ⟨RX7, "goTo", "(I)V"⟩
abbrev cX7_dueBy : ByteArray := prog_9_method_27_code
def yX7_dueBy : MethodName := ⟨RX7, "dueBy", "(I)I"⟩
abbrev cX7_regret : ByteArray := prog_9_method_28_code
def yX7_regret : MethodName := ⟨RX7, "regret", "(II)I"⟩
abbrev cX7_due : ByteArray := prog_9_method_29_code
def yX7_due : MethodName := ⟨RX7, "due", "(II)I"⟩
abbrev cX7_layDues : ByteArray := prog_9_method_30_code
def yX7_layDues : MethodName := ⟨RX7, "layDues", "()V"⟩
abbrev cX7_seatedIn : ByteArray := prog_9_method_31_code
def yX7_seatedIn : MethodName := ⟨RX7, "seatedIn", "(II)I"⟩
abbrev cX7_wrongBy : ByteArray := prog_9_method_32_code
def yX7_wrongBy : MethodName := ⟨RX7, "wrongBy", "(I)I"⟩
abbrev cX7_changesBy : ByteArray := prog_9_method_33_code
def yX7_changesBy : MethodName := ⟨RX7, "changesBy", "(I)I"⟩
abbrev cX7_lowBy : ByteArray := prog_9_method_34_code
def yX7_lowBy : MethodName := ⟨RX7, "lowBy", "(I)I"⟩
abbrev cX7_aboveBy : ByteArray := prog_9_method_35_code
def yX7_aboveBy : MethodName := ⟨RX7, "aboveBy", "(II)I"⟩
abbrev cX7_seating : ByteArray := prog_9_method_36_code
def yX7_seating : MethodName := ⟨RX7, "seating", "(IIIII)I"⟩
abbrev cX7_tellSeating : ByteArray := prog_9_method_37_code
def yX7_tellSeating : MethodName := ⟨RX7, "tellSeating", "(II)I"⟩
abbrev cX7_rows : ByteArray := prog_9_method_38_code
def yX7_rows : MethodName := ⟨RX7, "rows", "()I"⟩
abbrev cX7_place : ByteArray := prog_9_method_39_code
def yX7_place : MethodName := ⟨RX7, "place", "(II)I"⟩
abbrev cX7_lowIn : ByteArray := prog_9_method_40_code
def yX7_lowIn : MethodName := ⟨RX7, "lowIn", "(II)I"⟩
abbrev cX7_changed : ByteArray := prog_9_method_41_code
def yX7_changed : MethodName := ⟨RX7, "changed", "(II)I"⟩
abbrev cX7_bestBehind : ByteArray := prog_9_method_42_code
def yX7_bestBehind : MethodName := ⟨RX7, "bestBehind", "(III)I"⟩
abbrev cX7_findEase : ByteArray := prog_9_method_43_code
def yX7_findEase : MethodName := ⟨RX7, "findEase", "(I)V"⟩
abbrev cX7_bestRow : ByteArray := prog_9_method_44_code
def yX7_bestRow : MethodName := ⟨RX7, "bestRow", "(III)I"⟩
abbrev cX7_ease : ByteArray := prog_9_method_45_code
def yX7_ease : MethodName := ⟨RX7, "ease", "(I)I"⟩
abbrev cX7_stuck : ByteArray := prog_9_method_46_code
def yX7_stuck : MethodName := ⟨RX7, "stuck", "()I"⟩
abbrev cX7_dueTogether : ByteArray := prog_9_method_47_code
def yX7_dueTogether : MethodName := ⟨RX7, "dueTogether", "(II)I"⟩
abbrev cX7_help : ByteArray := prog_9_method_48_code
def yX7_help : MethodName := ⟨RX7, "help", "(III)I"⟩
abbrev cX7_reading : ByteArray := prog_9_method_49_code
def yX7_reading : MethodName := ⟨RX7, "reading", "(III)I"⟩
abbrev cX7_back : ByteArray := prog_9_method_50_code
def yX7_back : MethodName := ⟨RX7, "back", "(I)I"⟩
abbrev cX7_areSoIn : ByteArray := prog_9_method_51_code
def yX7_areSoIn : MethodName := ⟨RX7, "areSoIn", "(I)Z"⟩
abbrev cX7_areSo : ByteArray := prog_9_method_52_code
def yX7_areSo : MethodName := ⟨RX7, "areSo", "()Z"⟩
abbrev cX7_began : ByteArray := prog_9_method_53_code
def yX7_began : MethodName := ⟨RX7, "began", "(II)I"⟩
abbrev cX7_kinds : ByteArray := prog_9_method_54_code
def yX7_kinds : MethodName := ⟨RX7, "kinds", "(I)I"⟩
abbrev cX7_fadings : ByteArray := prog_9_method_55_code
def yX7_fadings : MethodName := ⟨RX7, "fadings", "(I)I"⟩
abbrev cX7_inLeastTerms : ByteArray := prog_9_method_56_code
def yX7_inLeastTerms : MethodName := ⟨RX7, "inLeastTerms", "(JJI)J"⟩
abbrev cX7_odds : ByteArray := prog_9_method_57_code
def yX7_odds : MethodName := ⟨RX7, "odds", "(III)J"⟩
abbrev cX7_sheet : ByteArray := prog_9_method_58_code
def yX7_sheet : MethodName := ⟨RX7, "sheet", "(III)I"⟩
abbrev cX7_lose : ByteArray := prog_9_method_59_code
def yX7_lose : MethodName := ⟨RX7, "lose", "(I)I"⟩
abbrev cX7_put : ByteArray := prog_9_method_60_code
def yX7_put : MethodName := ⟨RX7, "put", "(III)I"⟩
abbrev cX7_cell : ByteArray := prog_9_method_61_code
def yX7_cell : MethodName := ⟨RX7, "cell", "(III)J"⟩
abbrev cX7_copy : ByteArray := prog_9_method_62_code
def yX7_copy : MethodName := ⟨RX7, "copy", "(IIIII)I"⟩
abbrev cX7_begins : ByteArray := prog_9_method_63_code
def yX7_begins : MethodName := ⟨RX7, "begins", "(I)V"⟩
abbrev cX7_tell : ByteArray := prog_9_method_64_code
def yX7_tell : MethodName := ⟨RX7, "tell", "(I)I"⟩
abbrev cX7_call : ByteArray := prog_9_method_65_code
def yX7_call : MethodName := ⟨RX7, "call", "(I)I"⟩
abbrev cX7_as : ByteArray := prog_9_method_66_code
def yX7_as : MethodName := ⟨RX7, "as", "(II)I"⟩
abbrev cX7_trace : ByteArray := prog_9_method_67_code
def yX7_trace : MethodName := ⟨RX7, "trace", "()I"⟩
abbrev cX7_fault : ByteArray := prog_9_method_68_code
def yX7_fault : MethodName := ⟨RX7, "fault", "()I"⟩
abbrev cX7_many : ByteArray := prog_9_method_69_code
def yX7_many : MethodName := ⟨RX7, "many", "(I)I"⟩
def RJ9 : String := "java/lang/Math"
def TJ9 : u_T := fun k => match k with
  | _ => ("", "", "", false)
def tyJ9 : Nat → FieldType := fun k => match k with
  | _ => .int
abbrev wsJ90 : List Cond := u_ws RJ9 TJ9 0
theorem nmJ9 : ∀ a, a < 0 → ∀ b, b < 0 → a ≠ b → (TJ9 a).2.1 ≠ (TJ9 b).2.1 := by decide +kernel
theorem tyJ9_ok : ∀ k, k < 0 → parseFieldDescriptor (TJ9 k).2.2.1 = some (tyJ9 k) := by decide +kernel
abbrev cJ9_max_7cf53 : ByteArray := prog_10_method_65_code
def yJ9_max_7cf53 : MethodName := ⟨RJ9, "max", "(II)I"⟩
abbrev cJ9_min_7cf53 : ByteArray := prog_10_method_69_code
def yJ9_min_7cf53 : MethodName := ⟨RJ9, "min", "(II)I"⟩
def RJ10 : String := "java/lang/System"
def TJ10 : u_T := fun k => match k with
  | _ => ("", "", "", false)
def tyJ10 : Nat → FieldType := fun k => match k with
  | _ => .int
abbrev wsJ100 : List Cond := u_ws RJ10 TJ10 0
theorem nmJ10 : ∀ a, a < 0 → ∀ b, b < 0 → a ≠ b → (TJ10 a).2.1 ≠ (TJ10 b).2.1 := by decide +kernel
theorem tyJ10_ok : ∀ k, k < 0 → parseFieldDescriptor (TJ10 k).2.2.1 = some (tyJ10 k) := by decide +kernel
def RJ7 : String := "java/util/Arrays"
def TJ7 : u_T := fun k => match k with
  | _ => ("", "", "", false)
def tyJ7 : Nat → FieldType := fun k => match k with
  | _ => .int
abbrev wsJ70 : List Cond := u_ws RJ7 TJ7 0
theorem nmJ7 : ∀ a, a < 0 → ∀ b, b < 0 → a ≠ b → (TJ7 a).2.1 ≠ (TJ7 b).2.1 := by decide +kernel
theorem tyJ7_ok : ∀ k, k < 0 → parseFieldDescriptor (TJ7 k).2.2.1 = some (tyJ7 k) := by decide +kernel
abbrev cJ7_fill_53178 : ByteArray := prog_12_method_103_code
def yJ7_fill_53178 : MethodName := ⟨RJ7, "fill", "([II)V"⟩
def RL : String := "RegretLineLaw"
abbrev cL_law : ByteArray := code
def yL_law : MethodName := ⟨RL, "law", "([I)Z"⟩
abbrev vwCl : List vw_C := [(RX0, TX0, 8), (RX1, TX1, 4), (RX2, TX2, 3), (RX3, TX3, 3), (RX5, TX5, 12), (RX6, TX6, 9), (RX7, TX7, 30)]
/-- the tables' words that every state keeps -/
def am_BW : List Cond := lw_tbl.filter goodWord
theorem am_BW_good : GoodIn lw_tbl am_BW := fun w h => ⟨(List.mem_filter.mp h).1, good_of_word (List.mem_filter.mp h).2⟩
theorem am_BW_self : GoodIn am_BW am_BW := fun w h => ⟨h, good_of_word (List.mem_filter.mp h).2⟩
theorem am_BW_i {w : Cond} (i : Nat) (h : lw_tbl[i]? = some w) (g : goodWord w = true) : w ∈ am_BW := List.mem_filter.mpr ⟨List.mem_of_getElem? h, g⟩
theorem wE_yX6_rideAnew : Cond.selects RX6 yX6_rideAnew yX6_rideAnew ∈ am_BW := am_BW_i 0 rfl rfl
theorem wE_yX5_regretBehind : Cond.selects RX5 yX5_regretBehind yX5_regretBehind ∈ am_BW := am_BW_i 1 rfl rfl
theorem wE_yX6_noPassenger : Cond.selects RX6 yX6_noPassenger yX6_noPassenger ∈ am_BW := am_BW_i 2 rfl rfl
theorem wE_yX6_noLine : Cond.selects RX6 yX6_noLine yX6_noLine ∈ am_BW := am_BW_i 3 rfl rfl
theorem wE_yX6_noMile : Cond.selects RX6 yX6_noMile yX6_noMile ∈ am_BW := am_BW_i 4 rfl rfl
theorem wE_yX6_noPair : Cond.selects RX6 yX6_noPair yX6_noPair ∈ am_BW := am_BW_i 5 rfl rfl
theorem wE_yX6_noMileNorEnd : Cond.selects RX6 yX6_noMileNorEnd yX6_noMileNorEnd ∈ am_BW := am_BW_i 6 rfl rfl
theorem wE_yX6_ofSeating : Cond.selects RX6 yX6_ofSeating yX6_ofSeating ∈ am_BW := am_BW_i 7 rfl rfl
theorem wE_yX2_classOf : Cond.selects RX2 yX2_classOf yX2_classOf ∈ am_BW := am_BW_i 8 rfl rfl
theorem wE_yX6_knowLeast : Cond.selects RX6 yX6_knowLeast yX6_knowLeast ∈ am_BW := am_BW_i 9 rfl rfl
theorem wE_yX0_weigh : Cond.selects RX0 yX0_weigh yX0_weigh ∈ am_BW := am_BW_i 10 rfl rfl
theorem wE_yX0_lowIn : Cond.selects RX0 yX0_lowIn yX0_lowIn ∈ am_BW := am_BW_i 11 rfl rfl
theorem wE_yX0_lookBack : Cond.selects RX0 yX0_lookBack yX0_lookBack ∈ am_BW := am_BW_i 12 rfl rfl
theorem wE_yX0_letChange : Cond.selects RX0 yX0_letChange yX0_letChange ∈ am_BW := am_BW_i 13 rfl rfl
theorem wE_yX0_choose : Cond.selects RX0 yX0_choose yX0_choose ∈ am_BW := am_BW_i 14 rfl rfl
theorem wE_yX0_firstOfLeast : Cond.selects RX0 yX0_firstOfLeast yX0_firstOfLeast ∈ am_BW := am_BW_i 15 rfl rfl
theorem wE_yX0_write : Cond.selects RX0 yX0_write yX0_write ∈ am_BW := am_BW_i 16 rfl rfl
theorem wE_yX6_guessIsSo : Cond.selects RX6 yX6_guessIsSo yX6_guessIsSo ∈ am_BW := am_BW_i 17 rfl rfl
theorem wE_yX6_waysToBeDue : Cond.selects RX6 yX6_waysToBeDue yX6_waysToBeDue ∈ am_BW := am_BW_i 18 rfl rfl
theorem wE_yX6_comeTo : Cond.selects RX6 yX6_comeTo yX6_comeTo ∈ am_BW := am_BW_i 19 rfl rfl
theorem wE_yX6_tellHoneymooner : Cond.selects RX6 yX6_tellHoneymooner yX6_tellHoneymooner ∈ am_BW := am_BW_i 20 rfl rfl
theorem wE_yX6_leaveTrace : Cond.selects RX6 yX6_leaveTrace yX6_leaveTrace ∈ am_BW := am_BW_i 21 rfl rfl
theorem wE_yX6_tellWidow : Cond.selects RX6 yX6_tellWidow yX6_tellWidow ∈ am_BW := am_BW_i 22 rfl rfl
theorem wE_yX6_tellPassenger : Cond.selects RX6 yX6_tellPassenger yX6_tellPassenger ∈ am_BW := am_BW_i 23 rfl rfl
theorem wE_yX7_against : Cond.selects RX7 yX7_against yX7_against ∈ am_BW := am_BW_i 24 rfl rfl
theorem wE_yX7_fails : Cond.selects RX7 yX7_fails yX7_fails ∈ am_BW := am_BW_i 25 rfl rfl
theorem wE_yX7_readLine : Cond.selects RX7 yX7_readLine yX7_readLine ∈ am_BW := am_BW_i 26 rfl rfl
theorem wE_yX7_isSign : Cond.selects RX7 yX7_isSign yX7_isSign ∈ am_BW := am_BW_i 27 rfl rfl
theorem wE_yX7_digit : Cond.selects RX7 yX7_digit yX7_digit ∈ am_BW := am_BW_i 28 rfl rfl
theorem wE_yX7_readPassenger : Cond.selects RX7 yX7_readPassenger yX7_readPassenger ∈ am_BW := am_BW_i 29 rfl rfl
theorem wE_yX7_takeLine : Cond.selects RX7 yX7_takeLine yX7_takeLine ∈ am_BW := am_BW_i 30 rfl rfl
theorem wE_yX7_isPassenger : Cond.selects RX7 yX7_isPassenger yX7_isPassenger ∈ am_BW := am_BW_i 31 rfl rfl
theorem wE_yX7_isMile : Cond.selects RX7 yX7_isMile yX7_isMile ∈ am_BW := am_BW_i 32 rfl rfl
theorem wE_yX7_goTo : Cond.selects RX7 yX7_goTo yX7_goTo ∈ am_BW := am_BW_i 33 rfl rfl
theorem wE_yX7_begin : Cond.selects RX7 yX7_begin yX7_begin ∈ am_BW := am_BW_i 34 rfl rfl
theorem wE_yX7_goMile : Cond.selects RX7 yX7_goMile yX7_goMile ∈ am_BW := am_BW_i 35 rfl rfl
theorem wE_yX7_changes : Cond.selects RX7 yX7_changes yX7_changes ∈ am_BW := am_BW_i 36 rfl rfl
theorem wE_yX7_dueBy : Cond.selects RX7 yX7_dueBy yX7_dueBy ∈ am_BW := am_BW_i 37 rfl rfl
theorem wE_yX7_wrongBy : Cond.selects RX7 yX7_wrongBy yX7_wrongBy ∈ am_BW := am_BW_i 38 rfl rfl
theorem wE_yX7_seatedIn : Cond.selects RX7 yX7_seatedIn yX7_seatedIn ∈ am_BW := am_BW_i 39 rfl rfl
theorem wE_yX7_tellSeating : Cond.selects RX7 yX7_tellSeating yX7_tellSeating ∈ am_BW := am_BW_i 40 rfl rfl
theorem wE_yX7_layDues : Cond.selects RX7 yX7_layDues yX7_layDues ∈ am_BW := am_BW_i 41 rfl rfl
theorem wE_yX7_changesBy : Cond.selects RX7 yX7_changesBy yX7_changesBy ∈ am_BW := am_BW_i 42 rfl rfl
theorem wE_yX7_lowBy : Cond.selects RX7 yX7_lowBy yX7_lowBy ∈ am_BW := am_BW_i 43 rfl rfl
theorem wE_yX7_aboveBy : Cond.selects RX7 yX7_aboveBy yX7_aboveBy ∈ am_BW := am_BW_i 44 rfl rfl
theorem wE_yX7_rows : Cond.selects RX7 yX7_rows yX7_rows ∈ am_BW := am_BW_i 45 rfl rfl
theorem wE_yX7_findEase : Cond.selects RX7 yX7_findEase yX7_findEase ∈ am_BW := am_BW_i 46 rfl rfl
theorem wE_yX7_lowIn : Cond.selects RX7 yX7_lowIn yX7_lowIn ∈ am_BW := am_BW_i 47 rfl rfl
theorem wE_yX7_place : Cond.selects RX7 yX7_place yX7_place ∈ am_BW := am_BW_i 48 rfl rfl
theorem wE_yX7_bestBehind : Cond.selects RX7 yX7_bestBehind yX7_bestBehind ∈ am_BW := am_BW_i 49 rfl rfl
theorem wE_yX7_changed : Cond.selects RX7 yX7_changed yX7_changed ∈ am_BW := am_BW_i 50 rfl rfl
theorem wE_yX7_bestRow : Cond.selects RX7 yX7_bestRow yX7_bestRow ∈ am_BW := am_BW_i 51 rfl rfl
theorem wE_yX7_dueTogether : Cond.selects RX7 yX7_dueTogether yX7_dueTogether ∈ am_BW := am_BW_i 52 rfl rfl
theorem wE_yX7_areSo : Cond.selects RX7 yX7_areSo yX7_areSo ∈ am_BW := am_BW_i 53 rfl rfl
theorem wE_yX7_areSoIn : Cond.selects RX7 yX7_areSoIn yX7_areSoIn ∈ am_BW := am_BW_i 54 rfl rfl
theorem wE_yX7_lost : Cond.selects RX7 yX7_lost yX7_lost ∈ am_BW := am_BW_i 55 rfl rfl
theorem wE_yX7_begins : Cond.selects RX7 yX7_begins yX7_begins ∈ am_BW := am_BW_i 56 rfl rfl
theorem wI_L : Cond.initialized RL ∈ am_BW := am_BW_i 57 rfl rfl
theorem wI_X6 : Cond.initialized RX6 ∈ am_BW := am_BW_i 58 rfl rfl
theorem wI_X3 : Cond.initialized RX3 ∈ am_BW := am_BW_i 59 rfl rfl
theorem wI_X5 : Cond.initialized RX5 ∈ am_BW := am_BW_i 60 rfl rfl
theorem wI_X1 : Cond.initialized RX1 ∈ am_BW := am_BW_i 61 rfl rfl
theorem wI_X2 : Cond.initialized RX2 ∈ am_BW := am_BW_i 62 rfl rfl
theorem wI_X0 : Cond.initialized RX0 ∈ am_BW := am_BW_i 63 rfl rfl
theorem wI_X7 : Cond.initialized RX7 ∈ am_BW := am_BW_i 64 rfl rfl
theorem wI_X4 : Cond.initialized RX4 ∈ am_BW := am_BW_i 65 rfl rfl
theorem wI_J7 : Cond.initialized RJ7 ∈ am_BW := am_BW_i 66 rfl rfl
theorem wI_J10 : Cond.initialized RJ10 ∈ am_BW := am_BW_i 67 rfl rfl
theorem wI_J9 : Cond.initialized RJ9 ∈ am_BW := am_BW_i 68 rfl rfl
theorem wK_L_7 : Cond.classLink RL 7 RX6 ∈ am_BW := am_BW_i 69 rfl rfl
theorem wT_X6 : Cond.instantiable RX6 9 ∈ lw_tbl := List.mem_of_getElem? (i := 70) rfl
theorem wM_L_9 : Cond.methodLink RL 9 yX6_init ∈ am_BW := am_BW_i 71 rfl rfl
theorem wN_yX6_init : Cond.instanceMethod yX6_init ∈ am_BW := am_BW_i 72 rfl rfl
theorem wC_yX6_init : Cond.code yX6_init cX6_init 2 none ∈ am_BW := am_BW_i 73 rfl rfl
theorem wM_X6_3 : Cond.methodLink RX6 3 objectInit ∈ am_BW := am_BW_i 74 rfl rfl
theorem wN_objectInit : Cond.instanceMethod objectInit ∈ am_BW := am_BW_i 75 rfl rfl
theorem wC_objectInit : Cond.code objectInit object_method_1_code 1 none ∈ am_BW := am_BW_i 76 rfl rfl
theorem wK_X6_11 : Cond.classLink RX6 11 RX3 ∈ am_BW := am_BW_i 77 rfl rfl
theorem wO_78 : Cond.arrayOver (FieldType.object "RegretLine$Sheet") ∈ lw_tbl := List.mem_of_getElem? (i := 78) rfl
theorem wT_X3 : Cond.instantiable RX3 3 ∈ lw_tbl := List.mem_of_getElem? (i := 79) rfl
theorem wMN_X6_17 : Cond.methodLinkNest RX6 17 yX3_init RX6 ∈ lw_tbl := List.mem_of_getElem? (i := 80) rfl
theorem wN_yX3_init : Cond.instanceMethod yX3_init ∈ am_BW := am_BW_i 81 rfl rfl
theorem wC_yX3_init : Cond.code yX3_init cX3_init 1 none ∈ am_BW := am_BW_i 82 rfl rfl
theorem wM_X3_3 : Cond.methodLink RX3 3 objectInit ∈ am_BW := am_BW_i 83 rfl rfl
theorem wF_X3_9 : Cond.fieldLink RX3 9 "RegretLine$Sheet" "cells" "[I" ∈ am_BW := am_BW_i 84 rfl rfl
theorem wF_X6_73 : Cond.fieldLink RX6 73 "RegretLine$Sheet" "cells" "[I" ∈ am_BW := am_BW_i 85 rfl rfl
theorem wF_X3_15 : Cond.fieldLink RX3 15 "RegretLine$Sheet" "lane" "I" ∈ am_BW := am_BW_i 86 rfl rfl
theorem wF_X6_236 : Cond.fieldLink RX6 236 "RegretLine$Sheet" "lane" "I" ∈ am_BW := am_BW_i 87 rfl rfl
theorem wF_X3_19 : Cond.fieldLink RX3 19 "RegretLine$Sheet" "size" "I" ∈ am_BW := am_BW_i 88 rfl rfl
theorem wA_int : Cond.arrayClass .int ∈ am_BW := am_BW_i 96 rfl rfl
theorem wK_X6_18 : Cond.classLink RX6 18 RX5 ∈ am_BW := am_BW_i 97 rfl rfl
theorem wT_X5 : Cond.instantiable RX5 12 ∈ lw_tbl := List.mem_of_getElem? (i := 98) rfl
theorem wMN_X6_20 : Cond.methodLinkNest RX6 20 yX5_init RX6 ∈ lw_tbl := List.mem_of_getElem? (i := 99) rfl
theorem wN_yX5_init : Cond.instanceMethod yX5_init ∈ am_BW := am_BW_i 100 rfl rfl
theorem wC_yX5_init : Cond.code yX5_init cX5_init 1 none ∈ am_BW := am_BW_i 101 rfl rfl
theorem wM_X5_3 : Cond.methodLink RX5 3 objectInit ∈ am_BW := am_BW_i 102 rfl rfl
theorem wK_X5_34 : Cond.classLink RX5 34 "[[I" ∈ am_BW := am_BW_i 103 rfl rfl
theorem wO_104 : Cond.arrayOver (FieldType.array FieldType.int) ∈ lw_tbl := List.mem_of_getElem? (i := 104) rfl
theorem wF_X5_9 : Cond.fieldLink RX5 9 "RegretLine$Train" "seatsOf" "[I" ∈ am_BW := am_BW_i 105 rfl rfl
theorem wF_X6_115 : Cond.fieldLink RX6 115 "RegretLine$Train" "seatsOf" "[I" ∈ am_BW := am_BW_i 106 rfl rfl
theorem wF_X2_45 : Cond.fieldLink RX2 45 "RegretLine$Train" "seatsOf" "[I" ∈ am_BW := am_BW_i 107 rfl rfl
theorem wF_X0_77 : Cond.fieldLink RX0 77 "RegretLine$Train" "seatsOf" "[I" ∈ am_BW := am_BW_i 108 rfl rfl
theorem wF_X5_15 : Cond.fieldLink RX5 15 "RegretLine$Train" "tunnel" "[Z" ∈ am_BW := am_BW_i 109 rfl rfl
theorem wF_X6_127 : Cond.fieldLink RX6 127 "RegretLine$Train" "tunnel" "[Z" ∈ am_BW := am_BW_i 110 rfl rfl
theorem wF_X5_19 : Cond.fieldLink RX5 19 "RegretLine$Train" "talker" "[I" ∈ am_BW := am_BW_i 111 rfl rfl
theorem wF_X6_135 : Cond.fieldLink RX6 135 "RegretLine$Train" "talker" "[I" ∈ am_BW := am_BW_i 112 rfl rfl
theorem wF_X5_22 : Cond.fieldLink RX5 22 "RegretLine$Train" "listener" "[I" ∈ am_BW := am_BW_i 113 rfl rfl
theorem wF_X6_138 : Cond.fieldLink RX6 138 "RegretLine$Train" "listener" "[I" ∈ am_BW := am_BW_i 114 rfl rfl
theorem wF_X5_25 : Cond.fieldLink RX5 25 "RegretLine$Train" "kind" "[I" ∈ am_BW := am_BW_i 115 rfl rfl
theorem wF_X6_99 : Cond.fieldLink RX6 99 "RegretLine$Train" "kind" "[I" ∈ am_BW := am_BW_i 116 rfl rfl
theorem wF_X5_28 : Cond.fieldLink RX5 28 "RegretLine$Train" "first" "[I" ∈ am_BW := am_BW_i 117 rfl rfl
theorem wF_X6_102 : Cond.fieldLink RX6 102 "RegretLine$Train" "first" "[I" ∈ am_BW := am_BW_i 118 rfl rfl
theorem wF_X5_31 : Cond.fieldLink RX5 31 "RegretLine$Train" "fades" "[I" ∈ am_BW := am_BW_i 119 rfl rfl
theorem wF_X6_105 : Cond.fieldLink RX6 105 "RegretLine$Train" "fades" "[I" ∈ am_BW := am_BW_i 120 rfl rfl
theorem wF_X5_36 : Cond.fieldLink RX5 36 "RegretLine$Train" "regrets" "[[I" ∈ am_BW := am_BW_i 121 rfl rfl
theorem wF_X5_39 : Cond.fieldLink RX5 39 "RegretLine$Train" "miles" "I" ∈ am_BW := am_BW_i 122 rfl rfl
theorem wF_X2_22 : Cond.fieldLink RX2 22 "RegretLine$Train" "miles" "I" ∈ am_BW := am_BW_i 123 rfl rfl
theorem wF_X0_51 : Cond.fieldLink RX0 51 "RegretLine$Train" "miles" "I" ∈ am_BW := am_BW_i 124 rfl rfl
theorem wF_X6_154 : Cond.fieldLink RX6 154 "RegretLine$Train" "miles" "I" ∈ am_BW := am_BW_i 125 rfl rfl
theorem wF_X5_43 : Cond.fieldLink RX5 43 "RegretLine$Train" "passengers" "I" ∈ am_BW := am_BW_i 126 rfl rfl
theorem wF_X2_28 : Cond.fieldLink RX2 28 "RegretLine$Train" "passengers" "I" ∈ am_BW := am_BW_i 127 rfl rfl
theorem wF_X0_40 : Cond.fieldLink RX0 40 "RegretLine$Train" "passengers" "I" ∈ am_BW := am_BW_i 128 rfl rfl
theorem wF_X6_93 : Cond.fieldLink RX6 93 "RegretLine$Train" "passengers" "I" ∈ am_BW := am_BW_i 129 rfl rfl
theorem wF_X5_46 : Cond.fieldLink RX5 46 "RegretLine$Train" "firstLimit" "I" ∈ am_BW := am_BW_i 130 rfl rfl
theorem wF_X6_118 : Cond.fieldLink RX6 118 "RegretLine$Train" "firstLimit" "I" ∈ am_BW := am_BW_i 131 rfl rfl
theorem wF_X5_49 : Cond.fieldLink RX5 49 "RegretLine$Train" "secondLimit" "I" ∈ am_BW := am_BW_i 132 rfl rfl
theorem wF_X6_121 : Cond.fieldLink RX6 121 "RegretLine$Train" "secondLimit" "I" ∈ am_BW := am_BW_i 133 rfl rfl
theorem wA_boolean : Cond.arrayClass .boolean ∈ am_BW := am_BW_i 159 rfl rfl
theorem wK_X6_28 : Cond.classLink RX6 28 RX1 ∈ am_BW := am_BW_i 160 rfl rfl
theorem wT_X1 : Cond.instantiable RX1 4 ∈ lw_tbl := List.mem_of_getElem? (i := 161) rfl
theorem wMN_X6_30 : Cond.methodLinkNest RX6 30 yX1_init RX6 ∈ lw_tbl := List.mem_of_getElem? (i := 162) rfl
theorem wN_yX1_init : Cond.instanceMethod yX1_init ∈ am_BW := am_BW_i 163 rfl rfl
theorem wC_yX1_init : Cond.code yX1_init cX1_init 1 none ∈ am_BW := am_BW_i 164 rfl rfl
theorem wM_X1_3 : Cond.methodLink RX1 3 objectInit ∈ am_BW := am_BW_i 165 rfl rfl
theorem wF_X1_9 : Cond.fieldLink RX1 9 "RegretLine$Readings" "who" "[I" ∈ am_BW := am_BW_i 166 rfl rfl
theorem wF_X1_15 : Cond.fieldLink RX1 15 "RegretLine$Readings" "where" "[I" ∈ am_BW := am_BW_i 167 rfl rfl
theorem wF_X1_18 : Cond.fieldLink RX1 18 "RegretLine$Readings" "seen" "[I" ∈ am_BW := am_BW_i 168 rfl rfl
theorem wF_X1_21 : Cond.fieldLink RX1 21 "RegretLine$Readings" "count" "I" ∈ am_BW := am_BW_i 169 rfl rfl
theorem wF_X6_87 : Cond.fieldLink RX6 87 "RegretLine$Readings" "count" "I" ∈ am_BW := am_BW_i 170 rfl rfl
theorem wK_X6_35 : Cond.classLink RX6 35 RX2 ∈ am_BW := am_BW_i 180 rfl rfl
theorem wT_X2 : Cond.instantiable RX2 3 ∈ lw_tbl := List.mem_of_getElem? (i := 181) rfl
theorem wM_X6_37 : Cond.methodLink RX6 37 yX2_init ∈ am_BW := am_BW_i 182 rfl rfl
theorem wN_yX2_init : Cond.instanceMethod yX2_init ∈ am_BW := am_BW_i 183 rfl rfl
theorem wC_yX2_init : Cond.code yX2_init cX2_init 2 none ∈ am_BW := am_BW_i 184 rfl rfl
theorem wM_X2_3 : Cond.methodLink RX2 3 objectInit ∈ am_BW := am_BW_i 185 rfl rfl
theorem wF_X2_18 : Cond.fieldLink RX2 18 "RegretLine$Seating" "train" "LRegretLine$Train;" ∈ am_BW := am_BW_i 186 rfl rfl
theorem wF_X2_9 : Cond.fieldLink RX2 9 "RegretLine$Seating" "row" "[I" ∈ am_BW := am_BW_i 187 rfl rfl
theorem wF_X2_15 : Cond.fieldLink RX2 15 "RegretLine$Seating" "sitting" "[I" ∈ am_BW := am_BW_i 188 rfl rfl
theorem wK_X6_44 : Cond.classLink RX6 44 RX0 ∈ am_BW := am_BW_i 196 rfl rfl
theorem wT_X0 : Cond.instantiable RX0 8 ∈ lw_tbl := List.mem_of_getElem? (i := 197) rfl
theorem wM_X6_46 : Cond.methodLink RX6 46 yX0_init ∈ am_BW := am_BW_i 198 rfl rfl
theorem wN_yX0_init : Cond.instanceMethod yX0_init ∈ am_BW := am_BW_i 199 rfl rfl
theorem wC_yX0_init : Cond.code yX0_init cX0_init 2 none ∈ am_BW := am_BW_i 200 rfl rfl
theorem wM_X0_3 : Cond.methodLink RX0 3 objectInit ∈ am_BW := am_BW_i 201 rfl rfl
theorem wK_X0_11 : Cond.classLink RX0 11 "[[I" ∈ am_BW := am_BW_i 202 rfl rfl
theorem wF_X0_36 : Cond.fieldLink RX0 36 "RegretLine$Ease" "train" "LRegretLine$Train;" ∈ am_BW := am_BW_i 203 rfl rfl
theorem wF_X0_13 : Cond.fieldLink RX0 13 "RegretLine$Ease" "toGo" "[[I" ∈ am_BW := am_BW_i 204 rfl rfl
theorem wF_X0_16 : Cond.fieldLink RX0 16 "RegretLine$Ease" "behind" "[I" ∈ am_BW := am_BW_i 205 rfl rfl
theorem wF_X0_20 : Cond.fieldLink RX0 20 "RegretLine$Ease" "sitting" "[I" ∈ am_BW := am_BW_i 206 rfl rfl
theorem wF_X0_23 : Cond.fieldLink RX0 23 "RegretLine$Ease" "ways" "I" ∈ am_BW := am_BW_i 207 rfl rfl
theorem wF_X0_27 : Cond.fieldLink RX0 27 "RegretLine$Ease" "row" "[I" ∈ am_BW := am_BW_i 208 rfl rfl
theorem wF_X6_186 : Cond.fieldLink RX6 186 "RegretLine$Ease" "row" "[I" ∈ am_BW := am_BW_i 209 rfl rfl
theorem wF_X0_30 : Cond.fieldLink RX0 30 "RegretLine$Ease" "trouble" "I" ∈ am_BW := am_BW_i 210 rfl rfl
theorem wF_X6_183 : Cond.fieldLink RX6 183 "RegretLine$Ease" "trouble" "I" ∈ am_BW := am_BW_i 211 rfl rfl
theorem wF_X0_33 : Cond.fieldLink RX0 33 "RegretLine$Ease" "stuckIn" "I" ∈ am_BW := am_BW_i 212 rfl rfl
theorem wF_X6_189 : Cond.fieldLink RX6 189 "RegretLine$Ease" "stuckIn" "I" ∈ am_BW := am_BW_i 213 rfl rfl
theorem wF_X6_13 : Cond.fieldLink RX6 13 "RegretLine" "sheets" "[LRegretLine$Sheet;" ∈ am_BW := am_BW_i 231 rfl rfl
theorem wF_X6_21 : Cond.fieldLink RX6 21 "RegretLine" "train" "LRegretLine$Train;" ∈ am_BW := am_BW_i 232 rfl rfl
theorem wF_X6_25 : Cond.fieldLink RX6 25 "RegretLine" "guess" "LRegretLine$Train;" ∈ am_BW := am_BW_i 233 rfl rfl
theorem wF_X6_31 : Cond.fieldLink RX6 31 "RegretLine" "readings" "LRegretLine$Readings;" ∈ am_BW := am_BW_i 234 rfl rfl
theorem wF_X6_40 : Cond.fieldLink RX6 40 "RegretLine" "told" "LRegretLine$Seating;" ∈ am_BW := am_BW_i 235 rfl rfl
theorem wF_X6_47 : Cond.fieldLink RX6 47 "RegretLine" "least" "LRegretLine$Ease;" ∈ am_BW := am_BW_i 236 rfl rfl
theorem wF_X6_51 : Cond.fieldLink RX6 51 "RegretLine" "leastKnown" "Z" ∈ am_BW := am_BW_i 237 rfl rfl
theorem wF_X6_55 : Cond.fieldLink RX6 55 "RegretLine" "traced" "I" ∈ am_BW := am_BW_i 238 rfl rfl
theorem wF_X6_59 : Cond.fieldLink RX6 59 "RegretLine" "lastFault" "I" ∈ am_BW := am_BW_i 239 rfl rfl
theorem wM_L_13 : Cond.methodLink RL 13 yX6_line ∈ am_BW := am_BW_i 259 rfl rfl
theorem wN_yX6_line : Cond.instanceMethod yX6_line ∈ am_BW := am_BW_i 260 rfl rfl
theorem wE_yX6_line : Cond.selects RX6 yX6_line yX6_line ∈ am_BW := am_BW_i 261 rfl rfl
theorem wC_yX6_line : Cond.code yX6_line cX6_line 7 (some .int) ∈ am_BW := am_BW_i 262 rfl rfl
theorem wM_X6_62 : Cond.methodLink RX6 62 yX6_noSheet ∈ am_BW := am_BW_i 263 rfl rfl
theorem wS_yX6_noSheet : Cond.static yX6_noSheet ∈ am_BW := am_BW_i 264 rfl rfl
theorem wC_yX6_noSheet : Cond.code yX6_noSheet cX6_noSheet 1 (some .boolean) ∈ am_BW := am_BW_i 265 rfl rfl
theorem wM_X6_66 : Cond.methodLink RX6 66 yX6_noLane ∈ am_BW := am_BW_i 266 rfl rfl
theorem wS_yX6_noLane : Cond.static yX6_noLane ∈ am_BW := am_BW_i 267 rfl rfl
theorem wC_yX6_noLane : Cond.code yX6_noLane cX6_noLane 1 (some .boolean) ∈ am_BW := am_BW_i 268 rfl rfl
theorem wM_X6_69 : Cond.methodLink RX6 69 yX3_faultOfCells ∈ am_BW := am_BW_i 269 rfl rfl
theorem wN_yX3_faultOfCells : Cond.instanceMethod yX3_faultOfCells ∈ am_BW := am_BW_i 270 rfl rfl
theorem wE_yX3_faultOfCells : Cond.selects RX3 yX3_faultOfCells yX3_faultOfCells ∈ am_BW := am_BW_i 271 rfl rfl
theorem wC_yX3_faultOfCells : Cond.code yX3_faultOfCells cX3_faultOfCells 5 (some .int) ∈ am_BW := am_BW_i 272 rfl rfl
theorem wM_X3_32 : Cond.methodLink RX3 32 yX3_faultOfRow ∈ am_BW := am_BW_i 273 rfl rfl
theorem wN_yX3_faultOfRow : Cond.instanceMethod yX3_faultOfRow ∈ am_BW := am_BW_i 274 rfl rfl
theorem wE_yX3_faultOfRow : Cond.selects RX3 yX3_faultOfRow yX3_faultOfRow ∈ am_BW := am_BW_i 275 rfl rfl
theorem wC_yX3_faultOfRow : Cond.code yX3_faultOfRow cX3_faultOfRow 2 (some .int) ∈ am_BW := am_BW_i 276 rfl rfl
theorem wM_X3_28 : Cond.methodLink RX3 28 yX3_hasNothing ∈ am_BW := am_BW_i 277 rfl rfl
theorem wN_yX3_hasNothing : Cond.instanceMethod yX3_hasNothing ∈ am_BW := am_BW_i 278 rfl rfl
theorem wE_yX3_hasNothing : Cond.selects RX3 yX3_hasNothing yX3_hasNothing ∈ am_BW := am_BW_i 279 rfl rfl
theorem wC_yX3_hasNothing : Cond.code yX3_hasNothing cX3_hasNothing 1 (some .boolean) ∈ am_BW := am_BW_i 280 rfl rfl
theorem wM_X3_36 : Cond.methodLink RX3 36 yX3_lacksCells ∈ am_BW := am_BW_i 281 rfl rfl
theorem wN_yX3_lacksCells : Cond.instanceMethod yX3_lacksCells ∈ am_BW := am_BW_i 282 rfl rfl
theorem wE_yX3_lacksCells : Cond.selects RX3 yX3_lacksCells yX3_lacksCells ∈ am_BW := am_BW_i 283 rfl rfl
theorem wC_yX3_lacksCells : Cond.code yX3_lacksCells cX3_lacksCells 3 (some .boolean) ∈ am_BW := am_BW_i 284 rfl rfl
theorem wM_X6_77 : Cond.methodLink RX6 77 yX4_firstFault ∈ am_BW := am_BW_i 285 rfl rfl
theorem wS_yX4_firstFault : Cond.static yX4_firstFault ∈ am_BW := am_BW_i 286 rfl rfl
theorem wC_yX4_firstFault : Cond.code yX4_firstFault cX4_firstFault 6 (some .int) ∈ am_BW := am_BW_i 287 rfl rfl
theorem wM_X4_9 : Cond.methodLink RX4 9 yX4_fitsHead ∈ am_BW := am_BW_i 288 rfl rfl
theorem wS_yX4_fitsHead : Cond.static yX4_fitsHead ∈ am_BW := am_BW_i 289 rfl rfl
theorem wC_yX4_fitsHead : Cond.code yX4_fitsHead cX4_fitsHead 2 (some .boolean) ∈ am_BW := am_BW_i 290 rfl rfl
theorem wM_X4_22 : Cond.methodLink RX4 22 yX4_isDigit ∈ am_BW := am_BW_i 291 rfl rfl
theorem wS_yX4_isDigit : Cond.static yX4_isDigit ∈ am_BW := am_BW_i 292 rfl rfl
theorem wC_yX4_isDigit : Cond.code yX4_isDigit cX4_isDigit 2 (some .boolean) ∈ am_BW := am_BW_i 293 rfl rfl
theorem wM_X4_15 : Cond.methodLink RX4 15 yX4_isMile ∈ am_BW := am_BW_i 294 rfl rfl
theorem wS_yX4_isMile : Cond.static yX4_isMile ∈ am_BW := am_BW_i 295 rfl rfl
theorem wC_yX4_isMile : Cond.code yX4_isMile cX4_isMile 1 (some .boolean) ∈ am_BW := am_BW_i 296 rfl rfl
theorem wM_X4_19 : Cond.methodLink RX4 19 yX4_fitsPassenger ∈ am_BW := am_BW_i 297 rfl rfl
theorem wS_yX4_fitsPassenger : Cond.static yX4_fitsPassenger ∈ am_BW := am_BW_i 298 rfl rfl
theorem wC_yX4_fitsPassenger : Cond.code yX4_fitsPassenger cX4_fitsPassenger 2 (some .boolean) ∈ am_BW := am_BW_i 299 rfl rfl
theorem wM_X4_25 : Cond.methodLink RX4 25 yX4_kindOf ∈ am_BW := am_BW_i 300 rfl rfl
set_option maxRecDepth 16000 in
theorem wS_yX4_kindOf : Cond.static yX4_kindOf ∈ am_BW := am_BW_i 301 rfl rfl
set_option maxRecDepth 16000 in
theorem wC_yX4_kindOf : Cond.code yX4_kindOf cX4_kindOf 1 (some .int) ∈ am_BW := am_BW_i 302 rfl rfl
set_option maxRecDepth 16000 in
theorem wM_X6_83 : Cond.methodLink RX6 83 yX5_readFrom ∈ am_BW := am_BW_i 303 rfl rfl
set_option maxRecDepth 16000 in
theorem wN_yX5_readFrom : Cond.instanceMethod yX5_readFrom ∈ am_BW := am_BW_i 304 rfl rfl
set_option maxRecDepth 16000 in
theorem wE_yX5_readFrom : Cond.selects RX5 yX5_readFrom yX5_readFrom ∈ am_BW := am_BW_i 305 rfl rfl
set_option maxRecDepth 16000 in
theorem wC_yX5_readFrom : Cond.code yX5_readFrom cX5_readFrom 6 none ∈ am_BW := am_BW_i 306 rfl rfl
set_option maxRecDepth 16000 in
theorem wM_X5_52 : Cond.methodLink RX5 52 yX4_kindOf ∈ am_BW := am_BW_i 307 rfl rfl
set_option maxRecDepth 16000 in
theorem wM_X5_58 : Cond.methodLink RX5 58 yJ7_fill_53178 ∈ am_BW := am_BW_i 308 rfl rfl
set_option maxRecDepth 16000 in
theorem wS_yJ7_fill_53178 : Cond.static yJ7_fill_53178 ∈ am_BW := am_BW_i 309 rfl rfl
set_option maxRecDepth 16000 in
theorem wC_yJ7_fill_53178 : Cond.code yJ7_fill_53178 cJ7_fill_53178 4 none ∈ am_BW := am_BW_i 310 rfl rfl
set_option maxRecDepth 16000 in
theorem wM_X6_90 : Cond.methodLink RX6 90 yX6_rideAnew ∈ am_BW := am_BW_i 311 rfl rfl
set_option maxRecDepth 16000 in
theorem wN_yX6_rideAnew : Cond.instanceMethod yX6_rideAnew ∈ am_BW := am_BW_i 313 rfl rfl
set_option maxRecDepth 16000 in
theorem wC_yX6_rideAnew : Cond.code yX6_rideAnew cX6_rideAnew 1 none ∈ am_BW := am_BW_i 314 rfl rfl
set_option maxRecDepth 16000 in
theorem wM_X6_211 : Cond.methodLink RX6 211 yX5_rideAll ∈ am_BW := am_BW_i 315 rfl rfl
set_option maxRecDepth 16000 in
theorem wN_yX5_rideAll : Cond.instanceMethod yX5_rideAll ∈ am_BW := am_BW_i 316 rfl rfl
set_option maxRecDepth 16000 in
theorem wE_yX5_rideAll : Cond.selects RX5 yX5_rideAll yX5_rideAll ∈ am_BW := am_BW_i 317 rfl rfl
set_option maxRecDepth 16000 in
theorem wC_yX5_rideAll : Cond.code yX5_rideAll cX5_rideAll 1 none ∈ am_BW := am_BW_i 318 rfl rfl
set_option maxRecDepth 16000 in
theorem wM_X5_64 : Cond.methodLink RX5 64 arraycopyName ∈ am_BW := am_BW_i 319 rfl rfl
set_option maxRecDepth 16000 in
theorem wS_arraycopyName : Cond.static arraycopyName ∈ am_BW := am_BW_i 320 rfl rfl
set_option maxRecDepth 16000 in
theorem wNat : Cond.native arraycopyName ∈ am_BW := am_BW_i 321 rfl rfl
set_option maxRecDepth 16000 in
theorem wM_X5_70 : Cond.methodLink RX5 70 yX5_rideFrom ∈ am_BW := am_BW_i 322 rfl rfl
set_option maxRecDepth 16000 in
theorem wN_yX5_rideFrom : Cond.instanceMethod yX5_rideFrom ∈ am_BW := am_BW_i 323 rfl rfl
set_option maxRecDepth 16000 in
theorem wE_yX5_rideFrom : Cond.selects RX5 yX5_rideFrom yX5_rideFrom ∈ am_BW := am_BW_i 324 rfl rfl
set_option maxRecDepth 16000 in
theorem wC_yX5_rideFrom : Cond.code yX5_rideFrom cX5_rideFrom 3 none ∈ am_BW := am_BW_i 325 rfl rfl
set_option maxRecDepth 16000 in
theorem wM_X5_74 : Cond.methodLink RX5 74 yX5_rideThrough ∈ am_BW := am_BW_i 326 rfl rfl
set_option maxRecDepth 16000 in
theorem wN_yX5_rideThrough : Cond.instanceMethod yX5_rideThrough ∈ am_BW := am_BW_i 327 rfl rfl
set_option maxRecDepth 16000 in
theorem wE_yX5_rideThrough : Cond.selects RX5 yX5_rideThrough yX5_rideThrough ∈ am_BW := am_BW_i 328 rfl rfl
set_option maxRecDepth 16000 in
theorem wC_yX5_rideThrough : Cond.code yX5_rideThrough cX5_rideThrough 6 none ∈ am_BW := am_BW_i 329 rfl rfl
set_option maxRecDepth 16000 in
theorem wM_X5_77 : Cond.methodLink RX5 77 yX5_regretBehind ∈ am_BW := am_BW_i 330 rfl rfl
set_option maxRecDepth 16000 in
theorem wN_yX5_regretBehind : Cond.instanceMethod yX5_regretBehind ∈ am_BW := am_BW_i 332 rfl rfl
set_option maxRecDepth 16000 in
theorem wC_yX5_regretBehind : Cond.code yX5_regretBehind cX5_regretBehind 5 (some .int) ∈ am_BW := am_BW_i 333 rfl rfl
set_option maxRecDepth 16000 in
theorem wM_X5_81 : Cond.methodLink RX5 81 yJ9_min_7cf53 ∈ am_BW := am_BW_i 334 rfl rfl
set_option maxRecDepth 16000 in
theorem wS_yJ9_min_7cf53 : Cond.static yJ9_min_7cf53 ∈ am_BW := am_BW_i 335 rfl rfl
set_option maxRecDepth 16000 in
theorem wC_yJ9_min_7cf53 : Cond.code yJ9_min_7cf53 cJ9_min_7cf53 2 (some .int) ∈ am_BW := am_BW_i 336 rfl rfl
set_option maxRecDepth 16000 in
theorem wM_X5_86 : Cond.methodLink RX5 86 yJ9_max_7cf53 ∈ am_BW := am_BW_i 337 rfl rfl
set_option maxRecDepth 16000 in
theorem wS_yJ9_max_7cf53 : Cond.static yJ9_max_7cf53 ∈ am_BW := am_BW_i 338 rfl rfl
set_option maxRecDepth 16000 in
theorem wC_yJ9_max_7cf53 : Cond.code yJ9_max_7cf53 cJ9_max_7cf53 2 (some .int) ∈ am_BW := am_BW_i 339 rfl rfl
set_option maxRecDepth 16000 in
theorem wM_L_18 : Cond.methodLink RL 18 yX6_ofPassenger ∈ am_BW := am_BW_i 340 rfl rfl
set_option maxRecDepth 16000 in
theorem wN_yX6_ofPassenger : Cond.instanceMethod yX6_ofPassenger ∈ am_BW := am_BW_i 341 rfl rfl
set_option maxRecDepth 16000 in
theorem wE_yX6_ofPassenger : Cond.selects RX6 yX6_ofPassenger yX6_ofPassenger ∈ am_BW := am_BW_i 342 rfl rfl
set_option maxRecDepth 16000 in
theorem wC_yX6_ofPassenger : Cond.code yX6_ofPassenger cX6_ofPassenger 3 (some .int) ∈ am_BW := am_BW_i 343 rfl rfl
set_option maxRecDepth 16000 in
theorem wM_X6_96 : Cond.methodLink RX6 96 yX6_noPassenger ∈ am_BW := am_BW_i 344 rfl rfl
set_option maxRecDepth 16000 in
theorem wN_yX6_noPassenger : Cond.instanceMethod yX6_noPassenger ∈ am_BW := am_BW_i 346 rfl rfl
set_option maxRecDepth 16000 in
theorem wC_yX6_noPassenger : Cond.code yX6_noPassenger cX6_noPassenger 2 (some .boolean) ∈ am_BW := am_BW_i 347 rfl rfl
set_option maxRecDepth 16000 in
theorem wM_L_23 : Cond.methodLink RL 23 yX6_seats ∈ am_BW := am_BW_i 348 rfl rfl
set_option maxRecDepth 16000 in
theorem wN_yX6_seats : Cond.instanceMethod yX6_seats ∈ am_BW := am_BW_i 349 rfl rfl
set_option maxRecDepth 16000 in
theorem wE_yX6_seats : Cond.selects RX6 yX6_seats yX6_seats ∈ am_BW := am_BW_i 350 rfl rfl
set_option maxRecDepth 16000 in
theorem wC_yX6_seats : Cond.code yX6_seats cX6_seats 4 (some .int) ∈ am_BW := am_BW_i 351 rfl rfl
set_option maxRecDepth 16000 in
theorem wM_X6_108 : Cond.methodLink RX6 108 yX6_noLine ∈ am_BW := am_BW_i 352 rfl rfl
set_option maxRecDepth 16000 in
theorem wN_yX6_noLine : Cond.instanceMethod yX6_noLine ∈ am_BW := am_BW_i 354 rfl rfl
set_option maxRecDepth 16000 in
theorem wC_yX6_noLine : Cond.code yX6_noLine cX6_noLine 1 (some .boolean) ∈ am_BW := am_BW_i 355 rfl rfl
set_option maxRecDepth 16000 in
theorem wM_X6_112 : Cond.methodLink RX6 112 yX6_noClass ∈ am_BW := am_BW_i 356 rfl rfl
set_option maxRecDepth 16000 in
theorem wS_yX6_noClass : Cond.static yX6_noClass ∈ am_BW := am_BW_i 357 rfl rfl
set_option maxRecDepth 16000 in
theorem wC_yX6_noClass : Cond.code yX6_noClass cX6_noClass 1 (some .boolean) ∈ am_BW := am_BW_i 358 rfl rfl
set_option maxRecDepth 16000 in
theorem wM_L_27 : Cond.methodLink RL 27 yX6_limits ∈ am_BW := am_BW_i 359 rfl rfl
set_option maxRecDepth 16000 in
theorem wN_yX6_limits : Cond.instanceMethod yX6_limits ∈ am_BW := am_BW_i 360 rfl rfl
set_option maxRecDepth 16000 in
theorem wE_yX6_limits : Cond.selects RX6 yX6_limits yX6_limits ∈ am_BW := am_BW_i 361 rfl rfl
set_option maxRecDepth 16000 in
theorem wC_yX6_limits : Cond.code yX6_limits cX6_limits 4 (some .int) ∈ am_BW := am_BW_i 362 rfl rfl
set_option maxRecDepth 16000 in
theorem wM_L_31 : Cond.methodLink RL 31 yX6_dig ∈ am_BW := am_BW_i 363 rfl rfl
set_option maxRecDepth 16000 in
theorem wN_yX6_dig : Cond.instanceMethod yX6_dig ∈ am_BW := am_BW_i 364 rfl rfl
set_option maxRecDepth 16000 in
theorem wE_yX6_dig : Cond.selects RX6 yX6_dig yX6_dig ∈ am_BW := am_BW_i 365 rfl rfl
set_option maxRecDepth 16000 in
theorem wC_yX6_dig : Cond.code yX6_dig cX6_dig 3 (some .int) ∈ am_BW := am_BW_i 366 rfl rfl
set_option maxRecDepth 16000 in
theorem wM_X6_124 : Cond.methodLink RX6 124 yX6_noMile ∈ am_BW := am_BW_i 367 rfl rfl
set_option maxRecDepth 16000 in
theorem wN_yX6_noMile : Cond.instanceMethod yX6_noMile ∈ am_BW := am_BW_i 369 rfl rfl
set_option maxRecDepth 16000 in
theorem wC_yX6_noMile : Cond.code yX6_noMile cX6_noMile 2 (some .boolean) ∈ am_BW := am_BW_i 370 rfl rfl
set_option maxRecDepth 16000 in
theorem wM_L_36 : Cond.methodLink RL 36 yX6_talk ∈ am_BW := am_BW_i 371 rfl rfl
set_option maxRecDepth 16000 in
theorem wN_yX6_talk : Cond.instanceMethod yX6_talk ∈ am_BW := am_BW_i 372 rfl rfl
set_option maxRecDepth 16000 in
theorem wE_yX6_talk : Cond.selects RX6 yX6_talk yX6_talk ∈ am_BW := am_BW_i 373 rfl rfl
set_option maxRecDepth 16000 in
theorem wC_yX6_talk : Cond.code yX6_talk cX6_talk 6 (some .int) ∈ am_BW := am_BW_i 374 rfl rfl
set_option maxRecDepth 16000 in
theorem wM_X6_131 : Cond.methodLink RX6 131 yX6_noPair ∈ am_BW := am_BW_i 375 rfl rfl
set_option maxRecDepth 16000 in
theorem wN_yX6_noPair : Cond.instanceMethod yX6_noPair ∈ am_BW := am_BW_i 377 rfl rfl
set_option maxRecDepth 16000 in
theorem wC_yX6_noPair : Cond.code yX6_noPair cX6_noPair 3 (some .boolean) ∈ am_BW := am_BW_i 378 rfl rfl
set_option maxRecDepth 16000 in
theorem wM_L_41 : Cond.methodLink RL 41 yX6_regret ∈ am_BW := am_BW_i 379 rfl rfl
set_option maxRecDepth 16000 in
theorem wN_yX6_regret : Cond.instanceMethod yX6_regret ∈ am_BW := am_BW_i 380 rfl rfl
set_option maxRecDepth 16000 in
theorem wE_yX6_regret : Cond.selects RX6 yX6_regret yX6_regret ∈ am_BW := am_BW_i 381 rfl rfl
set_option maxRecDepth 16000 in
theorem wC_yX6_regret : Cond.code yX6_regret cX6_regret 3 (some .int) ∈ am_BW := am_BW_i 382 rfl rfl
set_option maxRecDepth 16000 in
theorem wM_X6_141 : Cond.methodLink RX6 141 yX6_noMileNorEnd ∈ am_BW := am_BW_i 383 rfl rfl
set_option maxRecDepth 16000 in
theorem wN_yX6_noMileNorEnd : Cond.instanceMethod yX6_noMileNorEnd ∈ am_BW := am_BW_i 385 rfl rfl
set_option maxRecDepth 16000 in
theorem wC_yX6_noMileNorEnd : Cond.code yX6_noMileNorEnd cX6_noMileNorEnd 2 (some .boolean) ∈ am_BW := am_BW_i 386 rfl rfl
set_option maxRecDepth 16000 in
theorem wM_X6_144 : Cond.methodLink RX6 144 yX5_regretAhead ∈ am_BW := am_BW_i 387 rfl rfl
set_option maxRecDepth 16000 in
theorem wN_yX5_regretAhead : Cond.instanceMethod yX5_regretAhead ∈ am_BW := am_BW_i 388 rfl rfl
set_option maxRecDepth 16000 in
theorem wE_yX5_regretAhead : Cond.selects RX5 yX5_regretAhead yX5_regretAhead ∈ am_BW := am_BW_i 389 rfl rfl
set_option maxRecDepth 16000 in
theorem wC_yX5_regretAhead : Cond.code yX5_regretAhead cX5_regretAhead 3 (some .int) ∈ am_BW := am_BW_i 390 rfl rfl
set_option maxRecDepth 16000 in
theorem wM_L_45 : Cond.methodLink RL 45 yX6_due ∈ am_BW := am_BW_i 391 rfl rfl
set_option maxRecDepth 16000 in
theorem wN_yX6_due : Cond.instanceMethod yX6_due ∈ am_BW := am_BW_i 392 rfl rfl
set_option maxRecDepth 16000 in
theorem wE_yX6_due : Cond.selects RX6 yX6_due yX6_due ∈ am_BW := am_BW_i 393 rfl rfl
set_option maxRecDepth 16000 in
theorem wC_yX6_due : Cond.code yX6_due cX6_due 3 (some .int) ∈ am_BW := am_BW_i 394 rfl rfl
set_option maxRecDepth 16000 in
theorem wM_X6_148 : Cond.methodLink RX6 148 yX5_classDue ∈ am_BW := am_BW_i 395 rfl rfl
set_option maxRecDepth 16000 in
theorem wN_yX5_classDue : Cond.instanceMethod yX5_classDue ∈ am_BW := am_BW_i 396 rfl rfl
set_option maxRecDepth 16000 in
theorem wE_yX5_classDue : Cond.selects RX5 yX5_classDue yX5_classDue ∈ am_BW := am_BW_i 397 rfl rfl
set_option maxRecDepth 16000 in
theorem wC_yX5_classDue : Cond.code yX5_classDue cX5_classDue 4 (some .int) ∈ am_BW := am_BW_i 398 rfl rfl
set_option maxRecDepth 16000 in
theorem wM_L_49 : Cond.methodLink RL 49 yX6_seating ∈ am_BW := am_BW_i 399 rfl rfl
set_option maxRecDepth 16000 in
theorem wN_yX6_seating : Cond.instanceMethod yX6_seating ∈ am_BW := am_BW_i 400 rfl rfl
set_option maxRecDepth 16000 in
theorem wE_yX6_seating : Cond.selects RX6 yX6_seating yX6_seating ∈ am_BW := am_BW_i 401 rfl rfl
set_option maxRecDepth 16000 in
theorem wC_yX6_seating : Cond.code yX6_seating cX6_seating 6 (some .int) ∈ am_BW := am_BW_i 402 rfl rfl
set_option maxRecDepth 16000 in
theorem wM_X6_151 : Cond.methodLink RX6 151 yX6_noQuestionOfSeating ∈ am_BW := am_BW_i 403 rfl rfl
set_option maxRecDepth 16000 in
theorem wS_yX6_noQuestionOfSeating : Cond.static yX6_noQuestionOfSeating ∈ am_BW := am_BW_i 404 rfl rfl
set_option maxRecDepth 16000 in
theorem wC_yX6_noQuestionOfSeating : Cond.code yX6_noQuestionOfSeating cX6_noQuestionOfSeating 3 (some .boolean) ∈ am_BW := am_BW_i 405 rfl rfl
set_option maxRecDepth 16000 in
theorem wM_X6_157 : Cond.methodLink RX6 157 yX2_readFrom ∈ am_BW := am_BW_i 406 rfl rfl
set_option maxRecDepth 16000 in
theorem wN_yX2_readFrom : Cond.instanceMethod yX2_readFrom ∈ am_BW := am_BW_i 407 rfl rfl
set_option maxRecDepth 16000 in
theorem wE_yX2_readFrom : Cond.selects RX2 yX2_readFrom yX2_readFrom ∈ am_BW := am_BW_i 408 rfl rfl
set_option maxRecDepth 16000 in
theorem wC_yX2_readFrom : Cond.code yX2_readFrom cX2_readFrom 5 (some .boolean) ∈ am_BW := am_BW_i 409 rfl rfl
set_option maxRecDepth 16000 in
theorem wMN_X2_31 : Cond.methodLinkNest RX2 31 yX6_noClass RX6 ∈ lw_tbl := List.mem_of_getElem? (i := 410) rfl
set_option maxRecDepth 16000 in
theorem wM_X6_160 : Cond.methodLink RX6 160 yX6_ofSeating ∈ am_BW := am_BW_i 411 rfl rfl
set_option maxRecDepth 16000 in
theorem wN_yX6_ofSeating : Cond.instanceMethod yX6_ofSeating ∈ am_BW := am_BW_i 413 rfl rfl
set_option maxRecDepth 16000 in
theorem wC_yX6_ofSeating : Cond.code yX6_ofSeating cX6_ofSeating 3 (some .int) ∈ am_BW := am_BW_i 414 rfl rfl
set_option maxRecDepth 16000 in
theorem wM_X6_164 : Cond.methodLink RX6 164 yX2_firstWrong ∈ am_BW := am_BW_i 415 rfl rfl
set_option maxRecDepth 16000 in
theorem wN_yX2_firstWrong : Cond.instanceMethod yX2_firstWrong ∈ am_BW := am_BW_i 416 rfl rfl
set_option maxRecDepth 16000 in
theorem wE_yX2_firstWrong : Cond.selects RX2 yX2_firstWrong yX2_firstWrong ∈ am_BW := am_BW_i 417 rfl rfl
set_option maxRecDepth 16000 in
theorem wC_yX2_firstWrong : Cond.code yX2_firstWrong cX2_firstWrong 4 (some .int) ∈ am_BW := am_BW_i 418 rfl rfl
set_option maxRecDepth 16000 in
theorem wM_X2_35 : Cond.methodLink RX2 35 yJ7_fill_53178 ∈ am_BW := am_BW_i 419 rfl rfl
set_option maxRecDepth 16000 in
theorem wM_X2_41 : Cond.methodLink RX2 41 yX2_classOf ∈ am_BW := am_BW_i 420 rfl rfl
set_option maxRecDepth 16000 in
theorem wN_yX2_classOf : Cond.instanceMethod yX2_classOf ∈ am_BW := am_BW_i 422 rfl rfl
set_option maxRecDepth 16000 in
theorem wC_yX2_classOf : Cond.code yX2_classOf cX2_classOf 3 (some .int) ∈ am_BW := am_BW_i 423 rfl rfl
set_option maxRecDepth 16000 in
theorem wM_X6_168 : Cond.methodLink RX6 168 yX2_countChanges ∈ am_BW := am_BW_i 424 rfl rfl
set_option maxRecDepth 16000 in
theorem wN_yX2_countChanges : Cond.instanceMethod yX2_countChanges ∈ am_BW := am_BW_i 425 rfl rfl
set_option maxRecDepth 16000 in
theorem wE_yX2_countChanges : Cond.selects RX2 yX2_countChanges yX2_countChanges ∈ am_BW := am_BW_i 426 rfl rfl
set_option maxRecDepth 16000 in
theorem wC_yX2_countChanges : Cond.code yX2_countChanges cX2_countChanges 4 (some .int) ∈ am_BW := am_BW_i 427 rfl rfl
set_option maxRecDepth 16000 in
theorem wM_X6_171 : Cond.methodLink RX6 171 yX2_countLow ∈ am_BW := am_BW_i 428 rfl rfl
set_option maxRecDepth 16000 in
theorem wN_yX2_countLow : Cond.instanceMethod yX2_countLow ∈ am_BW := am_BW_i 429 rfl rfl
set_option maxRecDepth 16000 in
theorem wE_yX2_countLow : Cond.selects RX2 yX2_countLow yX2_countLow ∈ am_BW := am_BW_i 430 rfl rfl
set_option maxRecDepth 16000 in
theorem wC_yX2_countLow : Cond.code yX2_countLow cX2_countLow 4 (some .int) ∈ am_BW := am_BW_i 431 rfl rfl
set_option maxRecDepth 16000 in
theorem wM_X2_48 : Cond.methodLink RX2 48 yX5_classDue ∈ am_BW := am_BW_i 432 rfl rfl
set_option maxRecDepth 16000 in
theorem wM_X2_51 : Cond.methodLink RX2 51 yJ9_max_7cf53 ∈ am_BW := am_BW_i 433 rfl rfl
set_option maxRecDepth 16000 in
theorem wM_X6_174 : Cond.methodLink RX6 174 yX2_countAbove ∈ am_BW := am_BW_i 434 rfl rfl
set_option maxRecDepth 16000 in
theorem wN_yX2_countAbove : Cond.instanceMethod yX2_countAbove ∈ am_BW := am_BW_i 435 rfl rfl
set_option maxRecDepth 16000 in
theorem wE_yX2_countAbove : Cond.selects RX2 yX2_countAbove yX2_countAbove ∈ am_BW := am_BW_i 436 rfl rfl
set_option maxRecDepth 16000 in
theorem wC_yX2_countAbove : Cond.code yX2_countAbove cX2_countAbove 3 (some .int) ∈ am_BW := am_BW_i 437 rfl rfl
set_option maxRecDepth 16000 in
theorem wM_X2_56 : Cond.methodLink RX2 56 yX2_milesAbove ∈ am_BW := am_BW_i 438 rfl rfl
set_option maxRecDepth 16000 in
theorem wN_yX2_milesAbove : Cond.instanceMethod yX2_milesAbove ∈ am_BW := am_BW_i 439 rfl rfl
set_option maxRecDepth 16000 in
theorem wE_yX2_milesAbove : Cond.selects RX2 yX2_milesAbove yX2_milesAbove ∈ am_BW := am_BW_i 440 rfl rfl
set_option maxRecDepth 16000 in
theorem wC_yX2_milesAbove : Cond.code yX2_milesAbove cX2_milesAbove 4 (some .int) ∈ am_BW := am_BW_i 441 rfl rfl
set_option maxRecDepth 16000 in
theorem wM_X6_177 : Cond.methodLink RX6 177 yX2_milesAbove ∈ am_BW := am_BW_i 442 rfl rfl
set_option maxRecDepth 16000 in
theorem wM_L_54 : Cond.methodLink RL 54 yX6_ease ∈ am_BW := am_BW_i 443 rfl rfl
set_option maxRecDepth 16000 in
theorem wN_yX6_ease : Cond.instanceMethod yX6_ease ∈ am_BW := am_BW_i 444 rfl rfl
set_option maxRecDepth 16000 in
theorem wE_yX6_ease : Cond.selects RX6 yX6_ease yX6_ease ∈ am_BW := am_BW_i 445 rfl rfl
set_option maxRecDepth 16000 in
theorem wC_yX6_ease : Cond.code yX6_ease cX6_ease 2 (some .int) ∈ am_BW := am_BW_i 446 rfl rfl
set_option maxRecDepth 16000 in
theorem wM_X6_180 : Cond.methodLink RX6 180 yX6_knowLeast ∈ am_BW := am_BW_i 447 rfl rfl
set_option maxRecDepth 16000 in
theorem wN_yX6_knowLeast : Cond.instanceMethod yX6_knowLeast ∈ am_BW := am_BW_i 449 rfl rfl
set_option maxRecDepth 16000 in
theorem wC_yX6_knowLeast : Cond.code yX6_knowLeast cX6_knowLeast 1 none ∈ am_BW := am_BW_i 450 rfl rfl
set_option maxRecDepth 16000 in
theorem wM_X6_202 : Cond.methodLink RX6 202 yX0_seek ∈ am_BW := am_BW_i 451 rfl rfl
set_option maxRecDepth 16000 in
theorem wN_yX0_seek : Cond.instanceMethod yX0_seek ∈ am_BW := am_BW_i 452 rfl rfl
set_option maxRecDepth 16000 in
theorem wE_yX0_seek : Cond.selects RX0 yX0_seek yX0_seek ∈ am_BW := am_BW_i 453 rfl rfl
set_option maxRecDepth 16000 in
theorem wC_yX0_seek : Cond.code yX0_seek cX0_seek 2 none ∈ am_BW := am_BW_i 454 rfl rfl
set_option maxRecDepth 16000 in
theorem wM_X0_45 : Cond.methodLink RX0 45 yJ7_fill_53178 ∈ am_BW := am_BW_i 455 rfl rfl
set_option maxRecDepth 16000 in
theorem wM_X0_54 : Cond.methodLink RX0 54 yX0_weigh ∈ am_BW := am_BW_i 456 rfl rfl
set_option maxRecDepth 16000 in
theorem wN_yX0_weigh : Cond.instanceMethod yX0_weigh ∈ am_BW := am_BW_i 458 rfl rfl
set_option maxRecDepth 16000 in
theorem wC_yX0_weigh : Cond.code yX0_weigh cX0_weigh 5 (some .boolean) ∈ am_BW := am_BW_i 459 rfl rfl
set_option maxRecDepth 16000 in
theorem wM_X0_65 : Cond.methodLink RX0 65 yX0_lowIn ∈ am_BW := am_BW_i 460 rfl rfl
set_option maxRecDepth 16000 in
theorem wN_yX0_lowIn : Cond.instanceMethod yX0_lowIn ∈ am_BW := am_BW_i 462 rfl rfl
set_option maxRecDepth 16000 in
theorem wC_yX0_lowIn : Cond.code yX0_lowIn cX0_lowIn 8 (some .int) ∈ am_BW := am_BW_i 463 rfl rfl
set_option maxRecDepth 16000 in
theorem wM_X0_74 : Cond.methodLink RX0 74 yX5_classDue ∈ am_BW := am_BW_i 464 rfl rfl
set_option maxRecDepth 16000 in
theorem wM_X0_69 : Cond.methodLink RX0 69 yJ9_min_7cf53 ∈ am_BW := am_BW_i 465 rfl rfl
set_option maxRecDepth 16000 in
theorem wM_X0_58 : Cond.methodLink RX0 58 yX0_lookBack ∈ am_BW := am_BW_i 466 rfl rfl
set_option maxRecDepth 16000 in
theorem wN_yX0_lookBack : Cond.instanceMethod yX0_lookBack ∈ am_BW := am_BW_i 468 rfl rfl
set_option maxRecDepth 16000 in
theorem wC_yX0_lookBack : Cond.code yX0_lookBack cX0_lookBack 4 none ∈ am_BW := am_BW_i 469 rfl rfl
set_option maxRecDepth 16000 in
theorem wM_X0_80 : Cond.methodLink RX0 80 arraycopyName ∈ am_BW := am_BW_i 470 rfl rfl
set_option maxRecDepth 16000 in
theorem wM_X0_86 : Cond.methodLink RX0 86 yX0_letChange ∈ am_BW := am_BW_i 471 rfl rfl
set_option maxRecDepth 16000 in
theorem wN_yX0_letChange : Cond.instanceMethod yX0_letChange ∈ am_BW := am_BW_i 473 rfl rfl
set_option maxRecDepth 16000 in
theorem wC_yX0_letChange : Cond.code yX0_letChange cX0_letChange 5 none ∈ am_BW := am_BW_i 474 rfl rfl
set_option maxRecDepth 16000 in
theorem wM_X0_62 : Cond.methodLink RX0 62 yX0_choose ∈ am_BW := am_BW_i 475 rfl rfl
set_option maxRecDepth 16000 in
theorem wN_yX0_choose : Cond.instanceMethod yX0_choose ∈ am_BW := am_BW_i 477 rfl rfl
set_option maxRecDepth 16000 in
theorem wC_yX0_choose : Cond.code yX0_choose cX0_choose 3 none ∈ am_BW := am_BW_i 478 rfl rfl
set_option maxRecDepth 16000 in
theorem wM_X0_90 : Cond.methodLink RX0 90 yX0_firstOfLeast ∈ am_BW := am_BW_i 479 rfl rfl
set_option maxRecDepth 16000 in
theorem wN_yX0_firstOfLeast : Cond.instanceMethod yX0_firstOfLeast ∈ am_BW := am_BW_i 481 rfl rfl
set_option maxRecDepth 16000 in
theorem wC_yX0_firstOfLeast : Cond.code yX0_firstOfLeast cX0_firstOfLeast 7 (some .int) ∈ am_BW := am_BW_i 482 rfl rfl
set_option maxRecDepth 16000 in
theorem wM_X0_97 : Cond.methodLink RX0 97 yX0_changesBetween ∈ am_BW := am_BW_i 483 rfl rfl
set_option maxRecDepth 16000 in
theorem wS_yX0_changesBetween : Cond.static yX0_changesBetween ∈ am_BW := am_BW_i 484 rfl rfl
set_option maxRecDepth 16000 in
theorem wC_yX0_changesBetween : Cond.code yX0_changesBetween cX0_changesBetween 6 (some .int) ∈ am_BW := am_BW_i 485 rfl rfl
set_option maxRecDepth 16000 in
theorem wM_X0_93 : Cond.methodLink RX0 93 yX0_write ∈ am_BW := am_BW_i 486 rfl rfl
set_option maxRecDepth 16000 in
theorem wN_yX0_write : Cond.instanceMethod yX0_write ∈ am_BW := am_BW_i 488 rfl rfl
set_option maxRecDepth 16000 in
theorem wC_yX0_write : Cond.code yX0_write cX0_write 5 none ∈ am_BW := am_BW_i 489 rfl rfl
set_option maxRecDepth 16000 in
theorem wM_L_59 : Cond.methodLink RL 59 yX6_stuck ∈ am_BW := am_BW_i 490 rfl rfl
set_option maxRecDepth 16000 in
theorem wN_yX6_stuck : Cond.instanceMethod yX6_stuck ∈ am_BW := am_BW_i 491 rfl rfl
set_option maxRecDepth 16000 in
theorem wE_yX6_stuck : Cond.selects RX6 yX6_stuck yX6_stuck ∈ am_BW := am_BW_i 492 rfl rfl
set_option maxRecDepth 16000 in
theorem wC_yX6_stuck : Cond.code yX6_stuck cX6_stuck 1 (some .int) ∈ am_BW := am_BW_i 493 rfl rfl
set_option maxRecDepth 16000 in
theorem wM_L_64 : Cond.methodLink RL 64 yX6_help ∈ am_BW := am_BW_i 494 rfl rfl
set_option maxRecDepth 16000 in
theorem wN_yX6_help : Cond.instanceMethod yX6_help ∈ am_BW := am_BW_i 495 rfl rfl
set_option maxRecDepth 16000 in
theorem wE_yX6_help : Cond.selects RX6 yX6_help yX6_help ∈ am_BW := am_BW_i 496 rfl rfl
set_option maxRecDepth 16000 in
theorem wC_yX6_help : Cond.code yX6_help cX6_help 6 (some .int) ∈ am_BW := am_BW_i 497 rfl rfl
set_option maxRecDepth 16000 in
theorem wM_X6_192 : Cond.methodLink RX6 192 yX5_becomeLike ∈ am_BW := am_BW_i 498 rfl rfl
set_option maxRecDepth 16000 in
theorem wN_yX5_becomeLike : Cond.instanceMethod yX5_becomeLike ∈ am_BW := am_BW_i 499 rfl rfl
set_option maxRecDepth 16000 in
theorem wE_yX5_becomeLike : Cond.selects RX5 yX5_becomeLike yX5_becomeLike ∈ am_BW := am_BW_i 500 rfl rfl
set_option maxRecDepth 16000 in
theorem wC_yX5_becomeLike : Cond.code yX5_becomeLike cX5_becomeLike 3 none ∈ am_BW := am_BW_i 501 rfl rfl
set_option maxRecDepth 16000 in
theorem wM_X6_195 : Cond.methodLink RX6 195 yX5_rideFrom ∈ am_BW := am_BW_i 502 rfl rfl
set_option maxRecDepth 16000 in
theorem wM_X6_199 : Cond.methodLink RX6 199 yX5_dueTogether ∈ am_BW := am_BW_i 503 rfl rfl
set_option maxRecDepth 16000 in
theorem wN_yX5_dueTogether : Cond.instanceMethod yX5_dueTogether ∈ am_BW := am_BW_i 504 rfl rfl
set_option maxRecDepth 16000 in
theorem wE_yX5_dueTogether : Cond.selects RX5 yX5_dueTogether yX5_dueTogether ∈ am_BW := am_BW_i 505 rfl rfl
set_option maxRecDepth 16000 in
theorem wC_yX5_dueTogether : Cond.code yX5_dueTogether cX5_dueTogether 4 (some .int) ∈ am_BW := am_BW_i 506 rfl rfl
set_option maxRecDepth 16000 in
theorem wM_X5_89 : Cond.methodLink RX5 89 yX5_classDue ∈ am_BW := am_BW_i 507 rfl rfl
set_option maxRecDepth 16000 in
theorem wM_L_68 : Cond.methodLink RL 68 yX6_reading ∈ am_BW := am_BW_i 508 rfl rfl
set_option maxRecDepth 16000 in
theorem wN_yX6_reading : Cond.instanceMethod yX6_reading ∈ am_BW := am_BW_i 509 rfl rfl
set_option maxRecDepth 16000 in
theorem wE_yX6_reading : Cond.selects RX6 yX6_reading yX6_reading ∈ am_BW := am_BW_i 510 rfl rfl
set_option maxRecDepth 16000 in
theorem wC_yX6_reading : Cond.code yX6_reading cX6_reading 4 (some .int) ∈ am_BW := am_BW_i 511 rfl rfl
set_option maxRecDepth 16000 in
theorem wM_X6_205 : Cond.methodLink RX6 205 yX1_keep ∈ am_BW := am_BW_i 512 rfl rfl
set_option maxRecDepth 16000 in
theorem wN_yX1_keep : Cond.instanceMethod yX1_keep ∈ am_BW := am_BW_i 513 rfl rfl
set_option maxRecDepth 16000 in
theorem wE_yX1_keep : Cond.selects RX1 yX1_keep yX1_keep ∈ am_BW := am_BW_i 514 rfl rfl
set_option maxRecDepth 16000 in
theorem wC_yX1_keep : Cond.code yX1_keep cX1_keep 4 (some .int) ∈ am_BW := am_BW_i 515 rfl rfl
set_option maxRecDepth 16000 in
theorem wM_L_72 : Cond.methodLink RL 72 yX6_back ∈ am_BW := am_BW_i 516 rfl rfl
set_option maxRecDepth 16000 in
theorem wN_yX6_back : Cond.instanceMethod yX6_back ∈ am_BW := am_BW_i 517 rfl rfl
set_option maxRecDepth 16000 in
theorem wE_yX6_back : Cond.selects RX6 yX6_back yX6_back ∈ am_BW := am_BW_i 518 rfl rfl
set_option maxRecDepth 16000 in
theorem wC_yX6_back : Cond.code yX6_back cX6_back 2 (some .int) ∈ am_BW := am_BW_i 519 rfl rfl
set_option maxRecDepth 16000 in
theorem wM_L_76 : Cond.methodLink RL 76 yX6_began ∈ am_BW := am_BW_i 520 rfl rfl
set_option maxRecDepth 16000 in
theorem wN_yX6_began : Cond.instanceMethod yX6_began ∈ am_BW := am_BW_i 521 rfl rfl
set_option maxRecDepth 16000 in
theorem wE_yX6_began : Cond.selects RX6 yX6_began yX6_began ∈ am_BW := am_BW_i 522 rfl rfl
set_option maxRecDepth 16000 in
theorem wC_yX6_began : Cond.code yX6_began cX6_began 6 (some .int) ∈ am_BW := am_BW_i 523 rfl rfl
set_option maxRecDepth 16000 in
theorem wM_X6_208 : Cond.methodLink RX6 208 yX6_guessIsSo ∈ am_BW := am_BW_i 524 rfl rfl
set_option maxRecDepth 16000 in
theorem wN_yX6_guessIsSo : Cond.instanceMethod yX6_guessIsSo ∈ am_BW := am_BW_i 526 rfl rfl
set_option maxRecDepth 16000 in
theorem wC_yX6_guessIsSo : Cond.code yX6_guessIsSo cX6_guessIsSo 1 (some .boolean) ∈ am_BW := am_BW_i 527 rfl rfl
set_option maxRecDepth 16000 in
theorem wM_X6_214 : Cond.methodLink RX6 214 yX1_areSo ∈ am_BW := am_BW_i 528 rfl rfl
set_option maxRecDepth 16000 in
theorem wN_yX1_areSo : Cond.instanceMethod yX1_areSo ∈ am_BW := am_BW_i 529 rfl rfl
set_option maxRecDepth 16000 in
theorem wE_yX1_areSo : Cond.selects RX1 yX1_areSo yX1_areSo ∈ am_BW := am_BW_i 530 rfl rfl
set_option maxRecDepth 16000 in
theorem wC_yX1_areSo : Cond.code yX1_areSo cX1_areSo 3 (some .boolean) ∈ am_BW := am_BW_i 531 rfl rfl
set_option maxRecDepth 16000 in
theorem wM_X1_25 : Cond.methodLink RX1 25 yX5_classDue ∈ am_BW := am_BW_i 532 rfl rfl
set_option maxRecDepth 16000 in
theorem wM_L_80 : Cond.methodLink RL 80 yX6_kinds ∈ am_BW := am_BW_i 533 rfl rfl
set_option maxRecDepth 16000 in
theorem wN_yX6_kinds : Cond.instanceMethod yX6_kinds ∈ am_BW := am_BW_i 534 rfl rfl
set_option maxRecDepth 16000 in
theorem wE_yX6_kinds : Cond.selects RX6 yX6_kinds yX6_kinds ∈ am_BW := am_BW_i 535 rfl rfl
set_option maxRecDepth 16000 in
theorem wC_yX6_kinds : Cond.code yX6_kinds cX6_kinds 4 (some .int) ∈ am_BW := am_BW_i 536 rfl rfl
set_option maxRecDepth 16000 in
theorem wM_L_84 : Cond.methodLink RL 84 yX6_fadings ∈ am_BW := am_BW_i 537 rfl rfl
set_option maxRecDepth 16000 in
theorem wN_yX6_fadings : Cond.instanceMethod yX6_fadings ∈ am_BW := am_BW_i 538 rfl rfl
set_option maxRecDepth 16000 in
theorem wE_yX6_fadings : Cond.selects RX6 yX6_fadings yX6_fadings ∈ am_BW := am_BW_i 539 rfl rfl
set_option maxRecDepth 16000 in
theorem wC_yX6_fadings : Cond.code yX6_fadings cX6_fadings 4 (some .int) ∈ am_BW := am_BW_i 540 rfl rfl
set_option maxRecDepth 16000 in
theorem wM_L_88 : Cond.methodLink RL 88 yX6_odds ∈ am_BW := am_BW_i 541 rfl rfl
set_option maxRecDepth 16000 in
theorem wN_yX6_odds : Cond.instanceMethod yX6_odds ∈ am_BW := am_BW_i 542 rfl rfl
set_option maxRecDepth 16000 in
theorem wE_yX6_odds : Cond.selects RX6 yX6_odds yX6_odds ∈ am_BW := am_BW_i 543 rfl rfl
set_option maxRecDepth 16000 in
theorem wC_yX6_odds : Cond.code yX6_odds cX6_odds 6 (some .long) ∈ am_BW := am_BW_i 544 rfl rfl
set_option maxRecDepth 16000 in
theorem wL_X6_218 : Cond.constantLong RX6 218 (-9223372036854775808) ∈ am_BW := am_BW_i 545 rfl rfl
set_option maxRecDepth 16000 in
theorem wM_X6_220 : Cond.methodLink RX6 220 yX6_waysToBeDue ∈ am_BW := am_BW_i 546 rfl rfl
set_option maxRecDepth 16000 in
theorem wN_yX6_waysToBeDue : Cond.instanceMethod yX6_waysToBeDue ∈ am_BW := am_BW_i 548 rfl rfl
set_option maxRecDepth 16000 in
theorem wC_yX6_waysToBeDue : Cond.code yX6_waysToBeDue cX6_waysToBeDue 5 (some .int) ∈ am_BW := am_BW_i 549 rfl rfl
set_option maxRecDepth 16000 in
theorem wM_X6_223 : Cond.methodLink RX6 223 yX5_rideThrough ∈ am_BW := am_BW_i 550 rfl rfl
set_option maxRecDepth 16000 in
theorem wM_L_93 : Cond.methodLink RL 93 yX6_sheet ∈ am_BW := am_BW_i 551 rfl rfl
set_option maxRecDepth 16000 in
theorem wN_yX6_sheet : Cond.instanceMethod yX6_sheet ∈ am_BW := am_BW_i 552 rfl rfl
set_option maxRecDepth 16000 in
theorem wE_yX6_sheet : Cond.selects RX6 yX6_sheet yX6_sheet ∈ am_BW := am_BW_i 553 rfl rfl
set_option maxRecDepth 16000 in
theorem wC_yX6_sheet : Cond.code yX6_sheet cX6_sheet 4 (some .int) ∈ am_BW := am_BW_i 554 rfl rfl
set_option maxRecDepth 16000 in
theorem wM_X6_226 : Cond.methodLink RX6 226 yX6_comeTo ∈ am_BW := am_BW_i 555 rfl rfl
set_option maxRecDepth 16000 in
theorem wN_yX6_comeTo : Cond.instanceMethod yX6_comeTo ∈ am_BW := am_BW_i 557 rfl rfl
set_option maxRecDepth 16000 in
theorem wC_yX6_comeTo : Cond.code yX6_comeTo cX6_comeTo 2 (some .int) ∈ am_BW := am_BW_i 558 rfl rfl
set_option maxRecDepth 16000 in
theorem wM_X6_229 : Cond.methodLink RX6 229 yX3_renew ∈ am_BW := am_BW_i 559 rfl rfl
set_option maxRecDepth 16000 in
theorem wN_yX3_renew : Cond.instanceMethod yX3_renew ∈ am_BW := am_BW_i 560 rfl rfl
set_option maxRecDepth 16000 in
theorem wE_yX3_renew : Cond.selects RX3 yX3_renew yX3_renew ∈ am_BW := am_BW_i 561 rfl rfl
set_option maxRecDepth 16000 in
theorem wC_yX3_renew : Cond.code yX3_renew cX3_renew 3 none ∈ am_BW := am_BW_i 562 rfl rfl
set_option maxRecDepth 16000 in
theorem wM_X3_22 : Cond.methodLink RX3 22 yJ7_fill_53178 ∈ am_BW := am_BW_i 563 rfl rfl
set_option maxRecDepth 16000 in
theorem wM_L_97 : Cond.methodLink RL 97 yX6_lose ∈ am_BW := am_BW_i 564 rfl rfl
set_option maxRecDepth 16000 in
theorem wN_yX6_lose : Cond.instanceMethod yX6_lose ∈ am_BW := am_BW_i 565 rfl rfl
set_option maxRecDepth 16000 in
theorem wE_yX6_lose : Cond.selects RX6 yX6_lose yX6_lose ∈ am_BW := am_BW_i 566 rfl rfl
set_option maxRecDepth 16000 in
theorem wC_yX6_lose : Cond.code yX6_lose cX6_lose 3 (some .int) ∈ am_BW := am_BW_i 567 rfl rfl
set_option maxRecDepth 16000 in
theorem wM_X6_233 : Cond.methodLink RX6 233 yX3_hasNothing ∈ am_BW := am_BW_i 568 rfl rfl
set_option maxRecDepth 16000 in
theorem wM_L_101 : Cond.methodLink RL 101 yX6_put ∈ am_BW := am_BW_i 569 rfl rfl
set_option maxRecDepth 16000 in
theorem wN_yX6_put : Cond.instanceMethod yX6_put ∈ am_BW := am_BW_i 570 rfl rfl
set_option maxRecDepth 16000 in
theorem wE_yX6_put : Cond.selects RX6 yX6_put yX6_put ∈ am_BW := am_BW_i 571 rfl rfl
set_option maxRecDepth 16000 in
theorem wC_yX6_put : Cond.code yX6_put cX6_put 5 (some .int) ∈ am_BW := am_BW_i 572 rfl rfl
set_option maxRecDepth 16000 in
theorem wM_X6_239 : Cond.methodLink RX6 239 yX3_noCell ∈ am_BW := am_BW_i 573 rfl rfl
set_option maxRecDepth 16000 in
theorem wN_yX3_noCell : Cond.instanceMethod yX3_noCell ∈ am_BW := am_BW_i 574 rfl rfl
set_option maxRecDepth 16000 in
theorem wE_yX3_noCell : Cond.selects RX3 yX3_noCell yX3_noCell ∈ am_BW := am_BW_i 575 rfl rfl
set_option maxRecDepth 16000 in
theorem wC_yX3_noCell : Cond.code yX3_noCell cX3_noCell 2 (some .boolean) ∈ am_BW := am_BW_i 576 rfl rfl
set_option maxRecDepth 16000 in
theorem wM_X6_242 : Cond.methodLink RX6 242 yX3_cut ∈ am_BW := am_BW_i 577 rfl rfl
set_option maxRecDepth 16000 in
theorem wN_yX3_cut : Cond.instanceMethod yX3_cut ∈ am_BW := am_BW_i 578 rfl rfl
set_option maxRecDepth 16000 in
theorem wE_yX3_cut : Cond.selects RX3 yX3_cut yX3_cut ∈ am_BW := am_BW_i 579 rfl rfl
set_option maxRecDepth 16000 in
theorem wC_yX3_cut : Cond.code yX3_cut cX3_cut 2 (some .int) ∈ am_BW := am_BW_i 580 rfl rfl
set_option maxRecDepth 16000 in
theorem wM_L_105 : Cond.methodLink RL 105 yX6_cell ∈ am_BW := am_BW_i 581 rfl rfl
set_option maxRecDepth 16000 in
theorem wN_yX6_cell : Cond.instanceMethod yX6_cell ∈ am_BW := am_BW_i 582 rfl rfl
set_option maxRecDepth 16000 in
theorem wE_yX6_cell : Cond.selects RX6 yX6_cell yX6_cell ∈ am_BW := am_BW_i 583 rfl rfl
set_option maxRecDepth 16000 in
theorem wC_yX6_cell : Cond.code yX6_cell cX6_cell 5 (some .long) ∈ am_BW := am_BW_i 584 rfl rfl
set_option maxRecDepth 16000 in
theorem wM_X6_245 : Cond.methodLink RX6 245 yX3_faultOfRow ∈ am_BW := am_BW_i 585 rfl rfl
set_option maxRecDepth 16000 in
theorem wM_L_109 : Cond.methodLink RL 109 yX6_copy ∈ am_BW := am_BW_i 586 rfl rfl
set_option maxRecDepth 16000 in
theorem wN_yX6_copy : Cond.instanceMethod yX6_copy ∈ am_BW := am_BW_i 587 rfl rfl
set_option maxRecDepth 16000 in
theorem wE_yX6_copy : Cond.selects RX6 yX6_copy yX6_copy ∈ am_BW := am_BW_i 588 rfl rfl
set_option maxRecDepth 16000 in
theorem wC_yX6_copy : Cond.code yX6_copy cX6_copy 8 (some .int) ∈ am_BW := am_BW_i 589 rfl rfl
set_option maxRecDepth 16000 in
theorem wM_X6_248 : Cond.methodLink RX6 248 yX3_lacksCells ∈ am_BW := am_BW_i 590 rfl rfl
set_option maxRecDepth 16000 in
theorem wM_X6_251 : Cond.methodLink RX6 251 arraycopyName ∈ am_BW := am_BW_i 591 rfl rfl
set_option maxRecDepth 16000 in
theorem wM_L_113 : Cond.methodLink RL 113 yX6_tell ∈ am_BW := am_BW_i 592 rfl rfl
set_option maxRecDepth 16000 in
theorem wN_yX6_tell : Cond.instanceMethod yX6_tell ∈ am_BW := am_BW_i 593 rfl rfl
set_option maxRecDepth 16000 in
theorem wE_yX6_tell : Cond.selects RX6 yX6_tell yX6_tell ∈ am_BW := am_BW_i 594 rfl rfl
set_option maxRecDepth 16000 in
theorem wC_yX6_tell : Cond.code yX6_tell cX6_tell 2 (some .int) ∈ am_BW := am_BW_i 595 rfl rfl
set_option maxRecDepth 16000 in
theorem wM_X6_257 : Cond.methodLink RX6 257 yX6_tellHoneymooner ∈ am_BW := am_BW_i 596 rfl rfl
set_option maxRecDepth 16000 in
theorem wN_yX6_tellHoneymooner : Cond.instanceMethod yX6_tellHoneymooner ∈ am_BW := am_BW_i 598 rfl rfl
set_option maxRecDepth 16000 in
theorem wC_yX6_tellHoneymooner : Cond.code yX6_tellHoneymooner cX6_tellHoneymooner 3 (some .int) ∈ am_BW := am_BW_i 599 rfl rfl
set_option maxRecDepth 16000 in
theorem wM_X6_266 : Cond.methodLink RX6 266 yX6_leaveTrace ∈ am_BW := am_BW_i 600 rfl rfl
set_option maxRecDepth 16000 in
theorem wN_yX6_leaveTrace : Cond.instanceMethod yX6_leaveTrace ∈ am_BW := am_BW_i 602 rfl rfl
set_option maxRecDepth 16000 in
theorem wC_yX6_leaveTrace : Cond.code yX6_leaveTrace cX6_leaveTrace 2 none ∈ am_BW := am_BW_i 603 rfl rfl
set_option maxRecDepth 16000 in
theorem wM_X6_260 : Cond.methodLink RX6 260 yX6_tellWidow ∈ am_BW := am_BW_i 604 rfl rfl
set_option maxRecDepth 16000 in
theorem wN_yX6_tellWidow : Cond.instanceMethod yX6_tellWidow ∈ am_BW := am_BW_i 606 rfl rfl
set_option maxRecDepth 16000 in
theorem wC_yX6_tellWidow : Cond.code yX6_tellWidow cX6_tellWidow 2 (some .int) ∈ am_BW := am_BW_i 607 rfl rfl
set_option maxRecDepth 16000 in
theorem wM_X6_263 : Cond.methodLink RX6 263 yX6_tellPassenger ∈ am_BW := am_BW_i 608 rfl rfl
set_option maxRecDepth 16000 in
theorem wN_yX6_tellPassenger : Cond.instanceMethod yX6_tellPassenger ∈ am_BW := am_BW_i 610 rfl rfl
set_option maxRecDepth 16000 in
theorem wC_yX6_tellPassenger : Cond.code yX6_tellPassenger cX6_tellPassenger 2 (some .int) ∈ am_BW := am_BW_i 611 rfl rfl
set_option maxRecDepth 16000 in
theorem wM_L_117 : Cond.methodLink RL 117 yX6_call ∈ am_BW := am_BW_i 612 rfl rfl
set_option maxRecDepth 16000 in
theorem wN_yX6_call : Cond.instanceMethod yX6_call ∈ am_BW := am_BW_i 613 rfl rfl
set_option maxRecDepth 16000 in
theorem wE_yX6_call : Cond.selects RX6 yX6_call yX6_call ∈ am_BW := am_BW_i 614 rfl rfl
set_option maxRecDepth 16000 in
theorem wC_yX6_call : Cond.code yX6_call cX6_call 2 (some .int) ∈ am_BW := am_BW_i 615 rfl rfl
set_option maxRecDepth 16000 in
theorem wM_L_121 : Cond.methodLink RL 121 yX6_as ∈ am_BW := am_BW_i 616 rfl rfl
set_option maxRecDepth 16000 in
theorem wN_yX6_as : Cond.instanceMethod yX6_as ∈ am_BW := am_BW_i 617 rfl rfl
set_option maxRecDepth 16000 in
theorem wE_yX6_as : Cond.selects RX6 yX6_as yX6_as ∈ am_BW := am_BW_i 618 rfl rfl
set_option maxRecDepth 16000 in
theorem wC_yX6_as : Cond.code yX6_as cX6_as 3 (some .int) ∈ am_BW := am_BW_i 619 rfl rfl
set_option maxRecDepth 16000 in
theorem wM_L_125 : Cond.methodLink RL 125 yX6_trace ∈ am_BW := am_BW_i 620 rfl rfl
set_option maxRecDepth 16000 in
theorem wN_yX6_trace : Cond.instanceMethod yX6_trace ∈ am_BW := am_BW_i 621 rfl rfl
set_option maxRecDepth 16000 in
theorem wE_yX6_trace : Cond.selects RX6 yX6_trace yX6_trace ∈ am_BW := am_BW_i 622 rfl rfl
set_option maxRecDepth 16000 in
theorem wC_yX6_trace : Cond.code yX6_trace cX6_trace 1 (some .int) ∈ am_BW := am_BW_i 623 rfl rfl
set_option maxRecDepth 16000 in
theorem wM_L_129 : Cond.methodLink RL 129 yX6_fault ∈ am_BW := am_BW_i 624 rfl rfl
set_option maxRecDepth 16000 in
theorem wN_yX6_fault : Cond.instanceMethod yX6_fault ∈ am_BW := am_BW_i 625 rfl rfl
set_option maxRecDepth 16000 in
theorem wE_yX6_fault : Cond.selects RX6 yX6_fault yX6_fault ∈ am_BW := am_BW_i 626 rfl rfl
set_option maxRecDepth 16000 in
theorem wC_yX6_fault : Cond.code yX6_fault cX6_fault 1 (some .int) ∈ am_BW := am_BW_i 627 rfl rfl
set_option maxRecDepth 16000 in
theorem wM_L_133 : Cond.methodLink RL 133 yX6_many ∈ am_BW := am_BW_i 628 rfl rfl
set_option maxRecDepth 16000 in
theorem wN_yX6_many : Cond.instanceMethod yX6_many ∈ am_BW := am_BW_i 629 rfl rfl
set_option maxRecDepth 16000 in
theorem wE_yX6_many : Cond.selects RX6 yX6_many yX6_many ∈ am_BW := am_BW_i 630 rfl rfl
set_option maxRecDepth 16000 in
theorem wC_yX6_many : Cond.code yX6_many cX6_many 2 (some .int) ∈ am_BW := am_BW_i 631 rfl rfl
set_option maxRecDepth 16000 in
theorem wK_L_10 : Cond.classLink RL 10 RX7 ∈ am_BW := am_BW_i 632 rfl rfl
set_option maxRecDepth 16000 in
theorem wT_X7 : Cond.instantiable RX7 30 ∈ lw_tbl := List.mem_of_getElem? (i := 633) rfl
set_option maxRecDepth 16000 in
theorem wM_L_12 : Cond.methodLink RL 12 yX7_init ∈ am_BW := am_BW_i 634 rfl rfl
set_option maxRecDepth 16000 in
theorem wN_yX7_init : Cond.instanceMethod yX7_init ∈ am_BW := am_BW_i 635 rfl rfl
set_option maxRecDepth 16000 in
theorem wC_yX7_init : Cond.code yX7_init cX7_init 1 none ∈ am_BW := am_BW_i 636 rfl rfl
set_option maxRecDepth 16000 in
theorem wM_X7_1 : Cond.methodLink RX7 1 objectInit ∈ am_BW := am_BW_i 637 rfl rfl
set_option maxRecDepth 16000 in
theorem wF_X7_71 : Cond.fieldLink RX7 71 "RegretLineModel" "fault" "I" ∈ am_BW := am_BW_i 638 rfl rfl
set_option maxRecDepth 16000 in
theorem wF_X7_229 : Cond.fieldLink RX7 229 "RegretLineModel" "trace" "I" ∈ am_BW := am_BW_i 639 rfl rfl
set_option maxRecDepth 16000 in
theorem wF_X7_9 : Cond.fieldLink RX7 9 "RegretLineModel" "sorts" "[I" ∈ am_BW := am_BW_i 640 rfl rfl
set_option maxRecDepth 16000 in
theorem wF_X7_13 : Cond.fieldLink RX7 13 "RegretLineModel" "sheetLong" "[I" ∈ am_BW := am_BW_i 641 rfl rfl
set_option maxRecDepth 16000 in
theorem wF_X7_16 : Cond.fieldLink RX7 16 "RegretLineModel" "cells" "[I" ∈ am_BW := am_BW_i 642 rfl rfl
set_option maxRecDepth 16000 in
theorem wF_X7_84 : Cond.fieldLink RX7 84 "RegretLineModel" "miles" "I" ∈ am_BW := am_BW_i 643 rfl rfl
set_option maxRecDepth 16000 in
theorem wF_X7_81 : Cond.fieldLink RX7 81 "RegretLineModel" "people" "I" ∈ am_BW := am_BW_i 644 rfl rfl
set_option maxRecDepth 16000 in
theorem wF_X7_117 : Cond.fieldLink RX7 117 "RegretLineModel" "first" "I" ∈ am_BW := am_BW_i 645 rfl rfl
set_option maxRecDepth 16000 in
theorem wF_X7_120 : Cond.fieldLink RX7 120 "RegretLineModel" "second" "I" ∈ am_BW := am_BW_i 646 rfl rfl
set_option maxRecDepth 16000 in
theorem wF_X7_19 : Cond.fieldLink RX7 19 "RegretLineModel" "seatsOf" "[I" ∈ am_BW := am_BW_i 647 rfl rfl
set_option maxRecDepth 16000 in
theorem wF_X7_22 : Cond.fieldLink RX7 22 "RegretLineModel" "isTunnel" "[Z" ∈ am_BW := am_BW_i 648 rfl rfl
set_option maxRecDepth 16000 in
theorem wF_X7_26 : Cond.fieldLink RX7 26 "RegretLineModel" "talksA" "[I" ∈ am_BW := am_BW_i 649 rfl rfl
set_option maxRecDepth 16000 in
theorem wF_X7_29 : Cond.fieldLink RX7 29 "RegretLineModel" "talksB" "[I" ∈ am_BW := am_BW_i 650 rfl rfl
set_option maxRecDepth 16000 in
theorem wF_X7_32 : Cond.fieldLink RX7 32 "RegretLineModel" "kind" "[I" ∈ am_BW := am_BW_i 651 rfl rfl
set_option maxRecDepth 16000 in
theorem wF_X7_35 : Cond.fieldLink RX7 35 "RegretLineModel" "began" "[I" ∈ am_BW := am_BW_i 652 rfl rfl
set_option maxRecDepth 16000 in
theorem wF_X7_38 : Cond.fieldLink RX7 38 "RegretLineModel" "fades" "[I" ∈ am_BW := am_BW_i 653 rfl rfl
set_option maxRecDepth 16000 in
theorem wF_X7_87 : Cond.fieldLink RX7 87 "RegretLineModel" "at" "I" ∈ am_BW := am_BW_i 654 rfl rfl
set_option maxRecDepth 16000 in
theorem wF_X7_111 : Cond.fieldLink RX7 111 "RegretLineModel" "readMiles" "I" ∈ am_BW := am_BW_i 655 rfl rfl
set_option maxRecDepth 16000 in
theorem wF_X7_114 : Cond.fieldLink RX7 114 "RegretLineModel" "readMany" "I" ∈ am_BW := am_BW_i 656 rfl rfl
set_option maxRecDepth 16000 in
theorem wF_X7_41 : Cond.fieldLink RX7 41 "RegretLineModel" "readSeats" "[I" ∈ am_BW := am_BW_i 657 rfl rfl
set_option maxRecDepth 16000 in
theorem wF_X7_44 : Cond.fieldLink RX7 44 "RegretLineModel" "readTunnel" "[Z" ∈ am_BW := am_BW_i 658 rfl rfl
set_option maxRecDepth 16000 in
theorem wF_X7_47 : Cond.fieldLink RX7 47 "RegretLineModel" "read" "[I" ∈ am_BW := am_BW_i 659 rfl rfl
set_option maxRecDepth 16000 in
theorem wF_X7_50 : Cond.fieldLink RX7 50 "RegretLineModel" "regrets" "[I" ∈ am_BW := am_BW_i 660 rfl rfl
set_option maxRecDepth 16000 in
theorem wF_X7_53 : Cond.fieldLink RX7 53 "RegretLineModel" "dues" "[I" ∈ am_BW := am_BW_i 661 rfl rfl
set_option maxRecDepth 16000 in
theorem wF_X7_56 : Cond.fieldLink RX7 56 "RegretLineModel" "trouble" "[I" ∈ am_BW := am_BW_i 662 rfl rfl
set_option maxRecDepth 16000 in
theorem wF_X7_59 : Cond.fieldLink RX7 59 "RegretLineModel" "unit" "[I" ∈ am_BW := am_BW_i 663 rfl rfl
set_option maxRecDepth 16000 in
theorem wF_X7_123 : Cond.fieldLink RX7 123 "RegretLineModel" "readings" "I" ∈ am_BW := am_BW_i 664 rfl rfl
set_option maxRecDepth 16000 in
theorem wF_X7_62 : Cond.fieldLink RX7 62 "RegretLineModel" "readWho" "[I" ∈ am_BW := am_BW_i 665 rfl rfl
set_option maxRecDepth 16000 in
theorem wF_X7_65 : Cond.fieldLink RX7 65 "RegretLineModel" "readMile" "[I" ∈ am_BW := am_BW_i 666 rfl rfl
set_option maxRecDepth 16000 in
theorem wF_X7_68 : Cond.fieldLink RX7 68 "RegretLineModel" "readClass" "[I" ∈ am_BW := am_BW_i 667 rfl rfl
set_option maxRecDepth 16000 in
theorem wM_L_17 : Cond.methodLink RL 17 yX7_line ∈ am_BW := am_BW_i 729 rfl rfl
set_option maxRecDepth 16000 in
theorem wN_yX7_line : Cond.instanceMethod yX7_line ∈ am_BW := am_BW_i 730 rfl rfl
set_option maxRecDepth 16000 in
theorem wE_yX7_line : Cond.selects RX7 yX7_line yX7_line ∈ am_BW := am_BW_i 731 rfl rfl
set_option maxRecDepth 16000 in
theorem wC_yX7_line : Cond.code yX7_line cX7_line 7 (some .int) ∈ am_BW := am_BW_i 732 rfl rfl
set_option maxRecDepth 16000 in
theorem wM_X7_90 : Cond.methodLink RX7 90 yX7_isSheet ∈ am_BW := am_BW_i 733 rfl rfl
set_option maxRecDepth 16000 in
theorem wS_yX7_isSheet : Cond.static yX7_isSheet ∈ am_BW := am_BW_i 734 rfl rfl
set_option maxRecDepth 16000 in
theorem wC_yX7_isSheet : Cond.code yX7_isSheet cX7_isSheet 1 (some .boolean) ∈ am_BW := am_BW_i 735 rfl rfl
set_option maxRecDepth 16000 in
theorem wM_X7_77 : Cond.methodLink RX7 77 yX7_within ∈ am_BW := am_BW_i 736 rfl rfl
set_option maxRecDepth 16000 in
theorem wS_yX7_within : Cond.static yX7_within ∈ am_BW := am_BW_i 737 rfl rfl
set_option maxRecDepth 16000 in
theorem wC_yX7_within : Cond.code yX7_within cX7_within 3 (some .boolean) ∈ am_BW := am_BW_i 738 rfl rfl
set_option maxRecDepth 16000 in
theorem wM_X7_94 : Cond.methodLink RX7 94 yX7_isSort ∈ am_BW := am_BW_i 739 rfl rfl
set_option maxRecDepth 16000 in
theorem wS_yX7_isSort : Cond.static yX7_isSort ∈ am_BW := am_BW_i 740 rfl rfl
set_option maxRecDepth 16000 in
theorem wC_yX7_isSort : Cond.code yX7_isSort cX7_isSort 1 (some .boolean) ∈ am_BW := am_BW_i 741 rfl rfl
set_option maxRecDepth 16000 in
theorem wM_X7_97 : Cond.methodLink RX7 97 yX7_against ∈ am_BW := am_BW_i 742 rfl rfl
set_option maxRecDepth 16000 in
theorem wN_yX7_against : Cond.instanceMethod yX7_against ∈ am_BW := am_BW_i 744 rfl rfl
set_option maxRecDepth 16000 in
theorem wC_yX7_against : Cond.code yX7_against cX7_against 5 (some .int) ∈ am_BW := am_BW_i 745 rfl rfl
set_option maxRecDepth 16000 in
theorem wM_X7_101 : Cond.methodLink RX7 101 yX7_fails ∈ am_BW := am_BW_i 746 rfl rfl
set_option maxRecDepth 16000 in
theorem wN_yX7_fails : Cond.instanceMethod yX7_fails ∈ am_BW := am_BW_i 748 rfl rfl
set_option maxRecDepth 16000 in
theorem wC_yX7_fails : Cond.code yX7_fails cX7_fails 2 (some .int) ∈ am_BW := am_BW_i 749 rfl rfl
set_option maxRecDepth 16000 in
theorem wM_X7_105 : Cond.methodLink RX7 105 yX7_readLine ∈ am_BW := am_BW_i 750 rfl rfl
set_option maxRecDepth 16000 in
theorem wN_yX7_readLine : Cond.instanceMethod yX7_readLine ∈ am_BW := am_BW_i 752 rfl rfl
set_option maxRecDepth 16000 in
theorem wC_yX7_readLine : Cond.code yX7_readLine cX7_readLine 3 (some .boolean) ∈ am_BW := am_BW_i 753 rfl rfl
set_option maxRecDepth 16000 in
theorem wM_X7_126 : Cond.methodLink RX7 126 yX7_isSign ∈ am_BW := am_BW_i 754 rfl rfl
set_option maxRecDepth 16000 in
theorem wN_yX7_isSign : Cond.instanceMethod yX7_isSign ∈ am_BW := am_BW_i 756 rfl rfl
set_option maxRecDepth 16000 in
theorem wC_yX7_isSign : Cond.code yX7_isSign cX7_isSign 3 (some .boolean) ∈ am_BW := am_BW_i 757 rfl rfl
set_option maxRecDepth 16000 in
theorem wM_X7_130 : Cond.methodLink RX7 130 yX7_digit ∈ am_BW := am_BW_i 758 rfl rfl
set_option maxRecDepth 16000 in
theorem wN_yX7_digit : Cond.instanceMethod yX7_digit ∈ am_BW := am_BW_i 760 rfl rfl
set_option maxRecDepth 16000 in
theorem wC_yX7_digit : Cond.code yX7_digit cX7_digit 4 (some .int) ∈ am_BW := am_BW_i 761 rfl rfl
set_option maxRecDepth 16000 in
theorem wM_X7_134 : Cond.methodLink RX7 134 yX7_readPassenger ∈ am_BW := am_BW_i 762 rfl rfl
set_option maxRecDepth 16000 in
theorem wN_yX7_readPassenger : Cond.instanceMethod yX7_readPassenger ∈ am_BW := am_BW_i 764 rfl rfl
set_option maxRecDepth 16000 in
theorem wC_yX7_readPassenger : Cond.code yX7_readPassenger cX7_readPassenger 6 (some .boolean) ∈ am_BW := am_BW_i 765 rfl rfl
set_option maxRecDepth 16000 in
theorem wM_X7_108 : Cond.methodLink RX7 108 yX7_takeLine ∈ am_BW := am_BW_i 766 rfl rfl
set_option maxRecDepth 16000 in
theorem wN_yX7_takeLine : Cond.instanceMethod yX7_takeLine ∈ am_BW := am_BW_i 768 rfl rfl
set_option maxRecDepth 16000 in
theorem wC_yX7_takeLine : Cond.code yX7_takeLine cX7_takeLine 2 none ∈ am_BW := am_BW_i 769 rfl rfl
set_option maxRecDepth 16000 in
theorem wM_L_22 : Cond.methodLink RL 22 yX7_ofPassenger ∈ am_BW := am_BW_i 770 rfl rfl
set_option maxRecDepth 16000 in
theorem wN_yX7_ofPassenger : Cond.instanceMethod yX7_ofPassenger ∈ am_BW := am_BW_i 771 rfl rfl
set_option maxRecDepth 16000 in
theorem wE_yX7_ofPassenger : Cond.selects RX7 yX7_ofPassenger yX7_ofPassenger ∈ am_BW := am_BW_i 772 rfl rfl
set_option maxRecDepth 16000 in
theorem wC_yX7_ofPassenger : Cond.code yX7_ofPassenger cX7_ofPassenger 3 (some .int) ∈ am_BW := am_BW_i 773 rfl rfl
set_option maxRecDepth 16000 in
theorem wM_X7_137 : Cond.methodLink RX7 137 yX7_isPassenger ∈ am_BW := am_BW_i 774 rfl rfl
set_option maxRecDepth 16000 in
theorem wN_yX7_isPassenger : Cond.instanceMethod yX7_isPassenger ∈ am_BW := am_BW_i 776 rfl rfl
set_option maxRecDepth 16000 in
theorem wC_yX7_isPassenger : Cond.code yX7_isPassenger cX7_isPassenger 2 (some .boolean) ∈ am_BW := am_BW_i 777 rfl rfl
set_option maxRecDepth 16000 in
theorem wM_L_26 : Cond.methodLink RL 26 yX7_seats ∈ am_BW := am_BW_i 778 rfl rfl
set_option maxRecDepth 16000 in
theorem wN_yX7_seats : Cond.instanceMethod yX7_seats ∈ am_BW := am_BW_i 779 rfl rfl
set_option maxRecDepth 16000 in
theorem wE_yX7_seats : Cond.selects RX7 yX7_seats yX7_seats ∈ am_BW := am_BW_i 780 rfl rfl
set_option maxRecDepth 16000 in
theorem wC_yX7_seats : Cond.code yX7_seats cX7_seats 4 (some .int) ∈ am_BW := am_BW_i 781 rfl rfl
set_option maxRecDepth 16000 in
theorem wM_L_30 : Cond.methodLink RL 30 yX7_limits ∈ am_BW := am_BW_i 782 rfl rfl
set_option maxRecDepth 16000 in
theorem wN_yX7_limits : Cond.instanceMethod yX7_limits ∈ am_BW := am_BW_i 783 rfl rfl
set_option maxRecDepth 16000 in
theorem wE_yX7_limits : Cond.selects RX7 yX7_limits yX7_limits ∈ am_BW := am_BW_i 784 rfl rfl
set_option maxRecDepth 16000 in
theorem wC_yX7_limits : Cond.code yX7_limits cX7_limits 4 (some .int) ∈ am_BW := am_BW_i 785 rfl rfl
set_option maxRecDepth 16000 in
theorem wM_L_35 : Cond.methodLink RL 35 yX7_dig ∈ am_BW := am_BW_i 786 rfl rfl
set_option maxRecDepth 16000 in
theorem wN_yX7_dig : Cond.instanceMethod yX7_dig ∈ am_BW := am_BW_i 787 rfl rfl
set_option maxRecDepth 16000 in
theorem wE_yX7_dig : Cond.selects RX7 yX7_dig yX7_dig ∈ am_BW := am_BW_i 788 rfl rfl
set_option maxRecDepth 16000 in
theorem wC_yX7_dig : Cond.code yX7_dig cX7_dig 4 (some .int) ∈ am_BW := am_BW_i 789 rfl rfl
set_option maxRecDepth 16000 in
theorem wM_X7_140 : Cond.methodLink RX7 140 yX7_isMile ∈ am_BW := am_BW_i 790 rfl rfl
set_option maxRecDepth 16000 in
theorem wN_yX7_isMile : Cond.instanceMethod yX7_isMile ∈ am_BW := am_BW_i 792 rfl rfl
set_option maxRecDepth 16000 in
theorem wC_yX7_isMile : Cond.code yX7_isMile cX7_isMile 2 (some .boolean) ∈ am_BW := am_BW_i 793 rfl rfl
set_option maxRecDepth 16000 in
theorem wM_L_40 : Cond.methodLink RL 40 yX7_talk ∈ am_BW := am_BW_i 794 rfl rfl
set_option maxRecDepth 16000 in
theorem wN_yX7_talk : Cond.instanceMethod yX7_talk ∈ am_BW := am_BW_i 795 rfl rfl
set_option maxRecDepth 16000 in
theorem wE_yX7_talk : Cond.selects RX7 yX7_talk yX7_talk ∈ am_BW := am_BW_i 796 rfl rfl
set_option maxRecDepth 16000 in
theorem wC_yX7_talk : Cond.code yX7_talk cX7_talk 6 (some .int) ∈ am_BW := am_BW_i 797 rfl rfl
set_option maxRecDepth 16000 in
theorem wM_L_44 : Cond.methodLink RL 44 yX7_regret ∈ am_BW := am_BW_i 798 rfl rfl
set_option maxRecDepth 16000 in
theorem wN_yX7_regret : Cond.instanceMethod yX7_regret ∈ am_BW := am_BW_i 799 rfl rfl
set_option maxRecDepth 16000 in
theorem wE_yX7_regret : Cond.selects RX7 yX7_regret yX7_regret ∈ am_BW := am_BW_i 800 rfl rfl
set_option maxRecDepth 16000 in
theorem wC_yX7_regret : Cond.code yX7_regret cX7_regret 3 (some .int) ∈ am_BW := am_BW_i 801 rfl rfl
set_option maxRecDepth 16000 in
theorem wM_X7_157 : Cond.methodLink RX7 157 yX7_goTo ∈ am_BW := am_BW_i 802 rfl rfl
set_option maxRecDepth 16000 in
theorem wN_yX7_goTo : Cond.instanceMethod yX7_goTo ∈ am_BW := am_BW_i 804 rfl rfl
set_option maxRecDepth 16000 in
theorem wC_yX7_goTo : Cond.code yX7_goTo cX7_goTo 3 none ∈ am_BW := am_BW_i 805 rfl rfl
set_option maxRecDepth 16000 in
theorem wM_X7_150 : Cond.methodLink RX7 150 yX7_begin ∈ am_BW := am_BW_i 806 rfl rfl
set_option maxRecDepth 16000 in
theorem wN_yX7_begin : Cond.instanceMethod yX7_begin ∈ am_BW := am_BW_i 808 rfl rfl
set_option maxRecDepth 16000 in
theorem wC_yX7_begin : Cond.code yX7_begin cX7_begin 2 none ∈ am_BW := am_BW_i 809 rfl rfl
set_option maxRecDepth 16000 in
theorem wM_X7_153 : Cond.methodLink RX7 153 yX7_goMile ∈ am_BW := am_BW_i 810 rfl rfl
set_option maxRecDepth 16000 in
theorem wN_yX7_goMile : Cond.instanceMethod yX7_goMile ∈ am_BW := am_BW_i 812 rfl rfl
set_option maxRecDepth 16000 in
theorem wC_yX7_goMile : Cond.code yX7_goMile cX7_goMile 4 none ∈ am_BW := am_BW_i 813 rfl rfl
set_option maxRecDepth 16000 in
theorem wM_X7_143 : Cond.methodLink RX7 143 yX7_changes ∈ am_BW := am_BW_i 814 rfl rfl
set_option maxRecDepth 16000 in
theorem wN_yX7_changes : Cond.instanceMethod yX7_changes ∈ am_BW := am_BW_i 816 rfl rfl
set_option maxRecDepth 16000 in
theorem wC_yX7_changes : Cond.code yX7_changes cX7_changes 3 (some .int) ∈ am_BW := am_BW_i 817 rfl rfl
set_option maxRecDepth 16000 in
theorem wM_X7_147 : Cond.methodLink RX7 147 yX7_bounded ∈ am_BW := am_BW_i 818 rfl rfl
set_option maxRecDepth 16000 in
theorem wS_yX7_bounded : Cond.static yX7_bounded ∈ am_BW := am_BW_i 819 rfl rfl
set_option maxRecDepth 16000 in
theorem wC_yX7_bounded : Cond.code yX7_bounded cX7_bounded 1 (some .int) ∈ am_BW := am_BW_i 820 rfl rfl
set_option maxRecDepth 16000 in
theorem wM_L_48 : Cond.methodLink RL 48 yX7_due ∈ am_BW := am_BW_i 821 rfl rfl
set_option maxRecDepth 16000 in
theorem wN_yX7_due : Cond.instanceMethod yX7_due ∈ am_BW := am_BW_i 822 rfl rfl
set_option maxRecDepth 16000 in
theorem wE_yX7_due : Cond.selects RX7 yX7_due yX7_due ∈ am_BW := am_BW_i 823 rfl rfl
set_option maxRecDepth 16000 in
theorem wC_yX7_due : Cond.code yX7_due cX7_due 4 (some .int) ∈ am_BW := am_BW_i 824 rfl rfl
set_option maxRecDepth 16000 in
theorem wM_X7_161 : Cond.methodLink RX7 161 yX7_regret ∈ am_BW := am_BW_i 825 rfl rfl
set_option maxRecDepth 16000 in
theorem wM_X7_165 : Cond.methodLink RX7 165 yX7_dueBy ∈ am_BW := am_BW_i 826 rfl rfl
set_option maxRecDepth 16000 in
theorem wN_yX7_dueBy : Cond.instanceMethod yX7_dueBy ∈ am_BW := am_BW_i 828 rfl rfl
set_option maxRecDepth 16000 in
theorem wC_yX7_dueBy : Cond.code yX7_dueBy cX7_dueBy 2 (some .int) ∈ am_BW := am_BW_i 829 rfl rfl
set_option maxRecDepth 16000 in
theorem wM_L_53 : Cond.methodLink RL 53 yX7_seating ∈ am_BW := am_BW_i 830 rfl rfl
set_option maxRecDepth 16000 in
theorem wN_yX7_seating : Cond.instanceMethod yX7_seating ∈ am_BW := am_BW_i 831 rfl rfl
set_option maxRecDepth 16000 in
theorem wE_yX7_seating : Cond.selects RX7 yX7_seating yX7_seating ∈ am_BW := am_BW_i 832 rfl rfl
set_option maxRecDepth 16000 in
theorem wC_yX7_seating : Cond.code yX7_seating cX7_seating 9 (some .int) ∈ am_BW := am_BW_i 833 rfl rfl
set_option maxRecDepth 16000 in
theorem wM_X7_171 : Cond.methodLink RX7 171 yX7_wrongBy ∈ am_BW := am_BW_i 834 rfl rfl
set_option maxRecDepth 16000 in
theorem wN_yX7_wrongBy : Cond.instanceMethod yX7_wrongBy ∈ am_BW := am_BW_i 836 rfl rfl
set_option maxRecDepth 16000 in
theorem wC_yX7_wrongBy : Cond.code yX7_wrongBy cX7_wrongBy 4 (some .int) ∈ am_BW := am_BW_i 837 rfl rfl
set_option maxRecDepth 16000 in
theorem wM_X7_168 : Cond.methodLink RX7 168 yX7_seatedIn ∈ am_BW := am_BW_i 838 rfl rfl
set_option maxRecDepth 16000 in
theorem wN_yX7_seatedIn : Cond.instanceMethod yX7_seatedIn ∈ am_BW := am_BW_i 840 rfl rfl
set_option maxRecDepth 16000 in
theorem wC_yX7_seatedIn : Cond.code yX7_seatedIn cX7_seatedIn 5 (some .int) ∈ am_BW := am_BW_i 841 rfl rfl
set_option maxRecDepth 16000 in
theorem wM_X7_174 : Cond.methodLink RX7 174 yX7_tellSeating ∈ am_BW := am_BW_i 842 rfl rfl
set_option maxRecDepth 16000 in
theorem wN_yX7_tellSeating : Cond.instanceMethod yX7_tellSeating ∈ am_BW := am_BW_i 844 rfl rfl
set_option maxRecDepth 16000 in
theorem wC_yX7_tellSeating : Cond.code yX7_tellSeating cX7_tellSeating 3 (some .int) ∈ am_BW := am_BW_i 845 rfl rfl
set_option maxRecDepth 16000 in
theorem wM_X7_177 : Cond.methodLink RX7 177 yX7_layDues ∈ am_BW := am_BW_i 846 rfl rfl
set_option maxRecDepth 16000 in
theorem wN_yX7_layDues : Cond.instanceMethod yX7_layDues ∈ am_BW := am_BW_i 848 rfl rfl
set_option maxRecDepth 16000 in
theorem wC_yX7_layDues : Cond.code yX7_layDues cX7_layDues 3 none ∈ am_BW := am_BW_i 849 rfl rfl
set_option maxRecDepth 16000 in
theorem wM_X7_180 : Cond.methodLink RX7 180 yX7_changesBy ∈ am_BW := am_BW_i 850 rfl rfl
set_option maxRecDepth 16000 in
theorem wN_yX7_changesBy : Cond.instanceMethod yX7_changesBy ∈ am_BW := am_BW_i 852 rfl rfl
set_option maxRecDepth 16000 in
theorem wC_yX7_changesBy : Cond.code yX7_changesBy cX7_changesBy 4 (some .int) ∈ am_BW := am_BW_i 853 rfl rfl
set_option maxRecDepth 16000 in
theorem wM_X7_183 : Cond.methodLink RX7 183 yX7_lowBy ∈ am_BW := am_BW_i 854 rfl rfl
set_option maxRecDepth 16000 in
theorem wN_yX7_lowBy : Cond.instanceMethod yX7_lowBy ∈ am_BW := am_BW_i 856 rfl rfl
set_option maxRecDepth 16000 in
theorem wC_yX7_lowBy : Cond.code yX7_lowBy cX7_lowBy 5 (some .int) ∈ am_BW := am_BW_i 857 rfl rfl
set_option maxRecDepth 16000 in
theorem wM_X7_186 : Cond.methodLink RX7 186 yX7_aboveBy ∈ am_BW := am_BW_i 858 rfl rfl
set_option maxRecDepth 16000 in
theorem wN_yX7_aboveBy : Cond.instanceMethod yX7_aboveBy ∈ am_BW := am_BW_i 860 rfl rfl
set_option maxRecDepth 16000 in
theorem wC_yX7_aboveBy : Cond.code yX7_aboveBy cX7_aboveBy 6 (some .int) ∈ am_BW := am_BW_i 861 rfl rfl
set_option maxRecDepth 16000 in
theorem wM_L_58 : Cond.methodLink RL 58 yX7_ease ∈ am_BW := am_BW_i 862 rfl rfl
set_option maxRecDepth 16000 in
theorem wN_yX7_ease : Cond.instanceMethod yX7_ease ∈ am_BW := am_BW_i 863 rfl rfl
set_option maxRecDepth 16000 in
theorem wE_yX7_ease : Cond.selects RX7 yX7_ease yX7_ease ∈ am_BW := am_BW_i 864 rfl rfl
set_option maxRecDepth 16000 in
theorem wC_yX7_ease : Cond.code yX7_ease cX7_ease 5 (some .int) ∈ am_BW := am_BW_i 865 rfl rfl
set_option maxRecDepth 16000 in
theorem wM_X7_201 : Cond.methodLink RX7 201 yX7_rows ∈ am_BW := am_BW_i 866 rfl rfl
set_option maxRecDepth 16000 in
theorem wN_yX7_rows : Cond.instanceMethod yX7_rows ∈ am_BW := am_BW_i 868 rfl rfl
set_option maxRecDepth 16000 in
theorem wC_yX7_rows : Cond.code yX7_rows cX7_rows 3 (some .int) ∈ am_BW := am_BW_i 869 rfl rfl
set_option maxRecDepth 16000 in
theorem wM_X7_205 : Cond.methodLink RX7 205 yX7_findEase ∈ am_BW := am_BW_i 870 rfl rfl
set_option maxRecDepth 16000 in
theorem wN_yX7_findEase : Cond.instanceMethod yX7_findEase ∈ am_BW := am_BW_i 872 rfl rfl
set_option maxRecDepth 16000 in
theorem wC_yX7_findEase : Cond.code yX7_findEase cX7_findEase 6 none ∈ am_BW := am_BW_i 873 rfl rfl
set_option maxRecDepth 16000 in
theorem wM_X7_195 : Cond.methodLink RX7 195 yX7_lowIn ∈ am_BW := am_BW_i 874 rfl rfl
set_option maxRecDepth 16000 in
theorem wN_yX7_lowIn : Cond.instanceMethod yX7_lowIn ∈ am_BW := am_BW_i 876 rfl rfl
set_option maxRecDepth 16000 in
theorem wC_yX7_lowIn : Cond.code yX7_lowIn cX7_lowIn 7 (some .int) ∈ am_BW := am_BW_i 877 rfl rfl
set_option maxRecDepth 16000 in
theorem wM_X7_189 : Cond.methodLink RX7 189 yX7_place ∈ am_BW := am_BW_i 878 rfl rfl
set_option maxRecDepth 16000 in
theorem wN_yX7_place : Cond.instanceMethod yX7_place ∈ am_BW := am_BW_i 880 rfl rfl
set_option maxRecDepth 16000 in
theorem wC_yX7_place : Cond.code yX7_place cX7_place 3 (some .int) ∈ am_BW := am_BW_i 881 rfl rfl
set_option maxRecDepth 16000 in
theorem wM_X7_198 : Cond.methodLink RX7 198 yX7_bestBehind ∈ am_BW := am_BW_i 882 rfl rfl
set_option maxRecDepth 16000 in
theorem wN_yX7_bestBehind : Cond.instanceMethod yX7_bestBehind ∈ am_BW := am_BW_i 884 rfl rfl
set_option maxRecDepth 16000 in
theorem wC_yX7_bestBehind : Cond.code yX7_bestBehind cX7_bestBehind 7 (some .int) ∈ am_BW := am_BW_i 885 rfl rfl
set_option maxRecDepth 16000 in
theorem wM_X7_192 : Cond.methodLink RX7 192 yX7_changed ∈ am_BW := am_BW_i 886 rfl rfl
set_option maxRecDepth 16000 in
theorem wN_yX7_changed : Cond.instanceMethod yX7_changed ∈ am_BW := am_BW_i 888 rfl rfl
set_option maxRecDepth 16000 in
theorem wC_yX7_changed : Cond.code yX7_changed cX7_changed 5 (some .int) ∈ am_BW := am_BW_i 889 rfl rfl
set_option maxRecDepth 16000 in
theorem wM_X7_208 : Cond.methodLink RX7 208 yX7_bestRow ∈ am_BW := am_BW_i 890 rfl rfl
set_option maxRecDepth 16000 in
theorem wN_yX7_bestRow : Cond.instanceMethod yX7_bestRow ∈ am_BW := am_BW_i 892 rfl rfl
set_option maxRecDepth 16000 in
theorem wC_yX7_bestRow : Cond.code yX7_bestRow cX7_bestRow 8 (some .int) ∈ am_BW := am_BW_i 893 rfl rfl
set_option maxRecDepth 16000 in
theorem wM_L_63 : Cond.methodLink RL 63 yX7_stuck ∈ am_BW := am_BW_i 894 rfl rfl
set_option maxRecDepth 16000 in
theorem wN_yX7_stuck : Cond.instanceMethod yX7_stuck ∈ am_BW := am_BW_i 895 rfl rfl
set_option maxRecDepth 16000 in
theorem wE_yX7_stuck : Cond.selects RX7 yX7_stuck yX7_stuck ∈ am_BW := am_BW_i 896 rfl rfl
set_option maxRecDepth 16000 in
theorem wC_yX7_stuck : Cond.code yX7_stuck cX7_stuck 5 (some .int) ∈ am_BW := am_BW_i 897 rfl rfl
set_option maxRecDepth 16000 in
theorem wM_L_67 : Cond.methodLink RL 67 yX7_help ∈ am_BW := am_BW_i 898 rfl rfl
set_option maxRecDepth 16000 in
theorem wN_yX7_help : Cond.instanceMethod yX7_help ∈ am_BW := am_BW_i 899 rfl rfl
set_option maxRecDepth 16000 in
theorem wE_yX7_help : Cond.selects RX7 yX7_help yX7_help ∈ am_BW := am_BW_i 900 rfl rfl
set_option maxRecDepth 16000 in
theorem wC_yX7_help : Cond.code yX7_help cX7_help 8 (some .int) ∈ am_BW := am_BW_i 901 rfl rfl
set_option maxRecDepth 16000 in
theorem wM_X7_211 : Cond.methodLink RX7 211 yX7_dueTogether ∈ am_BW := am_BW_i 902 rfl rfl
set_option maxRecDepth 16000 in
theorem wN_yX7_dueTogether : Cond.instanceMethod yX7_dueTogether ∈ am_BW := am_BW_i 904 rfl rfl
set_option maxRecDepth 16000 in
theorem wC_yX7_dueTogether : Cond.code yX7_dueTogether cX7_dueTogether 5 (some .int) ∈ am_BW := am_BW_i 905 rfl rfl
set_option maxRecDepth 16000 in
theorem wM_L_71 : Cond.methodLink RL 71 yX7_reading ∈ am_BW := am_BW_i 906 rfl rfl
set_option maxRecDepth 16000 in
theorem wN_yX7_reading : Cond.instanceMethod yX7_reading ∈ am_BW := am_BW_i 907 rfl rfl
set_option maxRecDepth 16000 in
theorem wE_yX7_reading : Cond.selects RX7 yX7_reading yX7_reading ∈ am_BW := am_BW_i 908 rfl rfl
set_option maxRecDepth 16000 in
theorem wC_yX7_reading : Cond.code yX7_reading cX7_reading 4 (some .int) ∈ am_BW := am_BW_i 909 rfl rfl
set_option maxRecDepth 16000 in
theorem wM_L_75 : Cond.methodLink RL 75 yX7_back ∈ am_BW := am_BW_i 910 rfl rfl
set_option maxRecDepth 16000 in
theorem wN_yX7_back : Cond.instanceMethod yX7_back ∈ am_BW := am_BW_i 911 rfl rfl
set_option maxRecDepth 16000 in
theorem wE_yX7_back : Cond.selects RX7 yX7_back yX7_back ∈ am_BW := am_BW_i 912 rfl rfl
set_option maxRecDepth 16000 in
theorem wC_yX7_back : Cond.code yX7_back cX7_back 2 (some .int) ∈ am_BW := am_BW_i 913 rfl rfl
set_option maxRecDepth 16000 in
theorem wM_L_79 : Cond.methodLink RL 79 yX7_began ∈ am_BW := am_BW_i 914 rfl rfl
set_option maxRecDepth 16000 in
theorem wN_yX7_began : Cond.instanceMethod yX7_began ∈ am_BW := am_BW_i 915 rfl rfl
set_option maxRecDepth 16000 in
theorem wE_yX7_began : Cond.selects RX7 yX7_began yX7_began ∈ am_BW := am_BW_i 916 rfl rfl
set_option maxRecDepth 16000 in
theorem wC_yX7_began : Cond.code yX7_began cX7_began 7 (some .int) ∈ am_BW := am_BW_i 917 rfl rfl
set_option maxRecDepth 16000 in
theorem wM_X7_217 : Cond.methodLink RX7 217 yX7_areSo ∈ am_BW := am_BW_i 918 rfl rfl
set_option maxRecDepth 16000 in
theorem wN_yX7_areSo : Cond.instanceMethod yX7_areSo ∈ am_BW := am_BW_i 920 rfl rfl
set_option maxRecDepth 16000 in
theorem wC_yX7_areSo : Cond.code yX7_areSo cX7_areSo 2 (some .boolean) ∈ am_BW := am_BW_i 921 rfl rfl
set_option maxRecDepth 16000 in
theorem wM_X7_214 : Cond.methodLink RX7 214 yX7_areSoIn ∈ am_BW := am_BW_i 922 rfl rfl
set_option maxRecDepth 16000 in
theorem wN_yX7_areSoIn : Cond.instanceMethod yX7_areSoIn ∈ am_BW := am_BW_i 924 rfl rfl
set_option maxRecDepth 16000 in
theorem wC_yX7_areSoIn : Cond.code yX7_areSoIn cX7_areSoIn 3 (some .boolean) ∈ am_BW := am_BW_i 925 rfl rfl
set_option maxRecDepth 16000 in
theorem wM_L_83 : Cond.methodLink RL 83 yX7_kinds ∈ am_BW := am_BW_i 926 rfl rfl
set_option maxRecDepth 16000 in
theorem wN_yX7_kinds : Cond.instanceMethod yX7_kinds ∈ am_BW := am_BW_i 927 rfl rfl
set_option maxRecDepth 16000 in
theorem wE_yX7_kinds : Cond.selects RX7 yX7_kinds yX7_kinds ∈ am_BW := am_BW_i 928 rfl rfl
set_option maxRecDepth 16000 in
theorem wC_yX7_kinds : Cond.code yX7_kinds cX7_kinds 5 (some .int) ∈ am_BW := am_BW_i 929 rfl rfl
set_option maxRecDepth 16000 in
theorem wM_L_87 : Cond.methodLink RL 87 yX7_fadings ∈ am_BW := am_BW_i 930 rfl rfl
set_option maxRecDepth 16000 in
theorem wN_yX7_fadings : Cond.instanceMethod yX7_fadings ∈ am_BW := am_BW_i 931 rfl rfl
set_option maxRecDepth 16000 in
theorem wE_yX7_fadings : Cond.selects RX7 yX7_fadings yX7_fadings ∈ am_BW := am_BW_i 932 rfl rfl
set_option maxRecDepth 16000 in
theorem wC_yX7_fadings : Cond.code yX7_fadings cX7_fadings 5 (some .int) ∈ am_BW := am_BW_i 933 rfl rfl
set_option maxRecDepth 16000 in
theorem wM_L_92 : Cond.methodLink RL 92 yX7_odds ∈ am_BW := am_BW_i 934 rfl rfl
set_option maxRecDepth 16000 in
theorem wN_yX7_odds : Cond.instanceMethod yX7_odds ∈ am_BW := am_BW_i 935 rfl rfl
set_option maxRecDepth 16000 in
theorem wE_yX7_odds : Cond.selects RX7 yX7_odds yX7_odds ∈ am_BW := am_BW_i 936 rfl rfl
set_option maxRecDepth 16000 in
theorem wC_yX7_odds : Cond.code yX7_odds cX7_odds 7 (some .long) ∈ am_BW := am_BW_i 937 rfl rfl
set_option maxRecDepth 16000 in
theorem wL_X7_75 : Cond.constantLong RX7 75 (-9223372036854775808) ∈ am_BW := am_BW_i 938 rfl rfl
set_option maxRecDepth 16000 in
theorem wM_X7_221 : Cond.methodLink RX7 221 yX7_inLeastTerms ∈ am_BW := am_BW_i 939 rfl rfl
set_option maxRecDepth 16000 in
theorem wS_yX7_inLeastTerms : Cond.static yX7_inLeastTerms ∈ am_BW := am_BW_i 940 rfl rfl
set_option maxRecDepth 16000 in
theorem wC_yX7_inLeastTerms : Cond.code yX7_inLeastTerms cX7_inLeastTerms 11 (some .long) ∈ am_BW := am_BW_i 941 rfl rfl
set_option maxRecDepth 16000 in
theorem wM_L_96 : Cond.methodLink RL 96 yX7_sheet ∈ am_BW := am_BW_i 942 rfl rfl
set_option maxRecDepth 16000 in
theorem wN_yX7_sheet : Cond.instanceMethod yX7_sheet ∈ am_BW := am_BW_i 943 rfl rfl
set_option maxRecDepth 16000 in
theorem wE_yX7_sheet : Cond.selects RX7 yX7_sheet yX7_sheet ∈ am_BW := am_BW_i 944 rfl rfl
set_option maxRecDepth 16000 in
theorem wC_yX7_sheet : Cond.code yX7_sheet cX7_sheet 5 (some .int) ∈ am_BW := am_BW_i 945 rfl rfl
set_option maxRecDepth 16000 in
theorem wM_L_100 : Cond.methodLink RL 100 yX7_lose ∈ am_BW := am_BW_i 946 rfl rfl
set_option maxRecDepth 16000 in
theorem wN_yX7_lose : Cond.instanceMethod yX7_lose ∈ am_BW := am_BW_i 947 rfl rfl
set_option maxRecDepth 16000 in
theorem wE_yX7_lose : Cond.selects RX7 yX7_lose yX7_lose ∈ am_BW := am_BW_i 948 rfl rfl
set_option maxRecDepth 16000 in
theorem wC_yX7_lose : Cond.code yX7_lose cX7_lose 3 (some .int) ∈ am_BW := am_BW_i 949 rfl rfl
set_option maxRecDepth 16000 in
theorem wM_L_104 : Cond.methodLink RL 104 yX7_put ∈ am_BW := am_BW_i 950 rfl rfl
set_option maxRecDepth 16000 in
theorem wN_yX7_put : Cond.instanceMethod yX7_put ∈ am_BW := am_BW_i 951 rfl rfl
set_option maxRecDepth 16000 in
theorem wE_yX7_put : Cond.selects RX7 yX7_put yX7_put ∈ am_BW := am_BW_i 952 rfl rfl
set_option maxRecDepth 16000 in
theorem wC_yX7_put : Cond.code yX7_put cX7_put 4 (some .int) ∈ am_BW := am_BW_i 953 rfl rfl
set_option maxRecDepth 16000 in
theorem wM_L_108 : Cond.methodLink RL 108 yX7_cell ∈ am_BW := am_BW_i 954 rfl rfl
set_option maxRecDepth 16000 in
theorem wN_yX7_cell : Cond.instanceMethod yX7_cell ∈ am_BW := am_BW_i 955 rfl rfl
set_option maxRecDepth 16000 in
theorem wE_yX7_cell : Cond.selects RX7 yX7_cell yX7_cell ∈ am_BW := am_BW_i 956 rfl rfl
set_option maxRecDepth 16000 in
theorem wC_yX7_cell : Cond.code yX7_cell cX7_cell 4 (some .long) ∈ am_BW := am_BW_i 957 rfl rfl
set_option maxRecDepth 16000 in
theorem wM_X7_225 : Cond.methodLink RX7 225 yX7_lost ∈ am_BW := am_BW_i 958 rfl rfl
set_option maxRecDepth 16000 in
theorem wN_yX7_lost : Cond.instanceMethod yX7_lost ∈ am_BW := am_BW_i 960 rfl rfl
set_option maxRecDepth 16000 in
theorem wC_yX7_lost : Cond.code yX7_lost cX7_lost 2 (some .long) ∈ am_BW := am_BW_i 961 rfl rfl
set_option maxRecDepth 16000 in
theorem wM_L_112 : Cond.methodLink RL 112 yX7_copy ∈ am_BW := am_BW_i 962 rfl rfl
set_option maxRecDepth 16000 in
theorem wN_yX7_copy : Cond.instanceMethod yX7_copy ∈ am_BW := am_BW_i 963 rfl rfl
set_option maxRecDepth 16000 in
theorem wE_yX7_copy : Cond.selects RX7 yX7_copy yX7_copy ∈ am_BW := am_BW_i 964 rfl rfl
set_option maxRecDepth 16000 in
theorem wC_yX7_copy : Cond.code yX7_copy cX7_copy 10 (some .int) ∈ am_BW := am_BW_i 965 rfl rfl
set_option maxRecDepth 16000 in
theorem wM_L_116 : Cond.methodLink RL 116 yX7_tell ∈ am_BW := am_BW_i 966 rfl rfl
set_option maxRecDepth 16000 in
theorem wN_yX7_tell : Cond.instanceMethod yX7_tell ∈ am_BW := am_BW_i 967 rfl rfl
set_option maxRecDepth 16000 in
theorem wE_yX7_tell : Cond.selects RX7 yX7_tell yX7_tell ∈ am_BW := am_BW_i 968 rfl rfl
set_option maxRecDepth 16000 in
theorem wC_yX7_tell : Cond.code yX7_tell cX7_tell 3 (some .int) ∈ am_BW := am_BW_i 969 rfl rfl
set_option maxRecDepth 16000 in
theorem wM_X7_232 : Cond.methodLink RX7 232 yX7_begins ∈ am_BW := am_BW_i 970 rfl rfl
set_option maxRecDepth 16000 in
theorem wN_yX7_begins : Cond.instanceMethod yX7_begins ∈ am_BW := am_BW_i 972 rfl rfl
set_option maxRecDepth 16000 in
theorem wC_yX7_begins : Cond.code yX7_begins cX7_begins 2 none ∈ am_BW := am_BW_i 973 rfl rfl
set_option maxRecDepth 16000 in
theorem wM_L_120 : Cond.methodLink RL 120 yX7_call ∈ am_BW := am_BW_i 974 rfl rfl
set_option maxRecDepth 16000 in
theorem wN_yX7_call : Cond.instanceMethod yX7_call ∈ am_BW := am_BW_i 975 rfl rfl
set_option maxRecDepth 16000 in
theorem wE_yX7_call : Cond.selects RX7 yX7_call yX7_call ∈ am_BW := am_BW_i 976 rfl rfl
set_option maxRecDepth 16000 in
theorem wC_yX7_call : Cond.code yX7_call cX7_call 2 (some .int) ∈ am_BW := am_BW_i 977 rfl rfl
set_option maxRecDepth 16000 in
theorem wM_L_124 : Cond.methodLink RL 124 yX7_as ∈ am_BW := am_BW_i 978 rfl rfl
set_option maxRecDepth 16000 in
theorem wN_yX7_as : Cond.instanceMethod yX7_as ∈ am_BW := am_BW_i 979 rfl rfl
set_option maxRecDepth 16000 in
theorem wE_yX7_as : Cond.selects RX7 yX7_as yX7_as ∈ am_BW := am_BW_i 980 rfl rfl
set_option maxRecDepth 16000 in
theorem wC_yX7_as : Cond.code yX7_as cX7_as 3 (some .int) ∈ am_BW := am_BW_i 981 rfl rfl
set_option maxRecDepth 16000 in
theorem wM_L_128 : Cond.methodLink RL 128 yX7_trace ∈ am_BW := am_BW_i 982 rfl rfl
set_option maxRecDepth 16000 in
theorem wN_yX7_trace : Cond.instanceMethod yX7_trace ∈ am_BW := am_BW_i 983 rfl rfl
set_option maxRecDepth 16000 in
theorem wE_yX7_trace : Cond.selects RX7 yX7_trace yX7_trace ∈ am_BW := am_BW_i 984 rfl rfl
set_option maxRecDepth 16000 in
theorem wC_yX7_trace : Cond.code yX7_trace cX7_trace 1 (some .int) ∈ am_BW := am_BW_i 985 rfl rfl
set_option maxRecDepth 16000 in
theorem wM_L_132 : Cond.methodLink RL 132 yX7_fault ∈ am_BW := am_BW_i 986 rfl rfl
set_option maxRecDepth 16000 in
theorem wN_yX7_fault : Cond.instanceMethod yX7_fault ∈ am_BW := am_BW_i 987 rfl rfl
set_option maxRecDepth 16000 in
theorem wE_yX7_fault : Cond.selects RX7 yX7_fault yX7_fault ∈ am_BW := am_BW_i 988 rfl rfl
set_option maxRecDepth 16000 in
theorem wC_yX7_fault : Cond.code yX7_fault cX7_fault 1 (some .int) ∈ am_BW := am_BW_i 989 rfl rfl
set_option maxRecDepth 16000 in
theorem wM_L_136 : Cond.methodLink RL 136 yX7_many ∈ am_BW := am_BW_i 990 rfl rfl
set_option maxRecDepth 16000 in
theorem wN_yX7_many : Cond.instanceMethod yX7_many ∈ am_BW := am_BW_i 991 rfl rfl
set_option maxRecDepth 16000 in
theorem wE_yX7_many : Cond.selects RX7 yX7_many yX7_many ∈ am_BW := am_BW_i 992 rfl rfl
set_option maxRecDepth 16000 in
theorem wC_yX7_many : Cond.code yX7_many cX7_many 2 (some .int) ∈ am_BW := am_BW_i 993 rfl rfl
theorem am_inB {ws : List Cond} (h2 : ws.all (fun w => decide (w ∈ lw_tbl) && goodWord w) = true) : ∀ w ∈ ws, w ∈ am_BW := by
  intro w h
  have h3 := List.all_eq_true.mp h2 w h
  simp only [Bool.and_eq_true, decide_eq_true_eq] at h3
  exact List.mem_filter.mpr h3
set_option maxRecDepth 16000 in
theorem inBX0 : ∀ w ∈ wsX00, w ∈ am_BW := am_inB (by decide +kernel)
set_option maxRecDepth 16000 in
theorem inBX1 : ∀ w ∈ wsX10, w ∈ am_BW := am_inB (by decide +kernel)
set_option maxRecDepth 16000 in
theorem inBX2 : ∀ w ∈ wsX20, w ∈ am_BW := am_inB (by decide +kernel)
set_option maxRecDepth 16000 in
theorem inBX3 : ∀ w ∈ wsX30, w ∈ am_BW := am_inB (by decide +kernel)
set_option maxRecDepth 16000 in
theorem inBX5 : ∀ w ∈ wsX50, w ∈ am_BW := am_inB (by decide +kernel)
set_option maxRecDepth 16000 in
theorem inBX6 : ∀ w ∈ wsX60, w ∈ am_BW := am_inB (by decide +kernel)
set_option maxRecDepth 16000 in
theorem inBX7 : ∀ w ∈ wsX70, w ∈ am_BW := am_inB (by decide +kernel)
end
section
/-! the abstract machine: ints and longs are whole numbers, a reference is the number of its cell, the store is a function of cell and place -/
abbrev AV : Type := Int ⊕ Int ⊕ Nat
abbrev Mem : Type := Nat → Int → Int
def am_v (ad : Nat → Nat) (v : AV) : Value := match v with
  | .inl z => .int (Int32.ofInt z)
  | .inr (.inl z) => .long (Int64.ofInt z)
  | .inr (.inr k) => .ref (ad k)
def am_cat (v : AV) : Nat := match v with
  | .inl _ => 1
  | .inr (.inl _) => 2
  | .inr (.inr _) => 1
theorem am_cat_eq (ad : Nat → Nat) (v : AV) : (am_v ad v).category = am_cat v := by rcases v with z | z | k <;> rfl
theorem am_cats (ad : Nat → Nat) (st : List AV) : ((st.map (am_v ad)).map fun v => v.category).sum = (st.map am_cat).sum := by
  rw [List.map_map]
  congr 1
  exact List.map_congr_left fun v _ => am_cat_eq ad v
def am_shL : List (Nat ⊕ (Nat × Nat)) := [.inl 5, .inr (2, 4), .inl 3, .inl 3, .inl 3, .inl 3, .inr (0, 60), .inr (0, 60), .inr (0, 60), .inr (0, 60), .inl 4, .inr (0, 3), .inr (1, 8), .inr (0, 8), .inr (0, 8), .inr (0, 4), .inr (0, 4), .inr (0, 4), .inr (3, 9), .inr (0, 4), .inr (0, 4), .inr (0, 4), .inr (0, 4), .inr (0, 4), .inr (0, 4), .inr (0, 4), .inr (0, 4), .inr (0, 4), .inl 4, .inr (0, 3), .inr (1, 8), .inr (0, 8), .inr (0, 8), .inr (0, 4), .inr (0, 4), .inr (0, 4), .inr (3, 9), .inr (0, 4), .inr (0, 4), .inr (0, 4), .inr (0, 4), .inr (0, 4), .inr (0, 4), .inr (0, 4), .inr (0, 4), .inr (0, 4), .inl 1, .inr (0, 8), .inr (0, 8), .inr (0, 8), .inl 2, .inr (0, 32), .inr (0, 3), .inl 0, .inr (3, 8), .inr (0, 81), .inr (0, 81), .inr (0, 81), .inr (0, 81), .inr (0, 81), .inr (0, 81), .inr (0, 81), .inr (0, 81), .inr (0, 81), .inr (0, 3), .inr (0, 32), .inl 6, .inr (0, 4), .inr (0, 4), .inr (0, 240), .inr (0, 3), .inr (1, 8), .inr (0, 8), .inr (0, 8), .inr (0, 4), .inr (0, 4), .inr (0, 4), .inr (0, 3), .inr (1, 8), .inr (0, 12), .inr (0, 4), .inr (0, 32), .inr (0, 729), .inr (0, 4), .inr (0, 8), .inr (0, 8), .inr (0, 8)]
def am_rfL : List (List (Option Nat)) := [[some 1, some 10, some 28, some 46, some 50, some 53, none, none, none], [some 2, some 3, some 4, some 5], [some 6, none, none], [some 7, none, none], [some 8, none, none], [some 9, none, none], [], [], [], [], [some 11, some 12, some 13, some 14, some 15, some 16, some 17, some 18, none, none, none, none], [], [], [], [], [], [], [], [some 19, some 20, some 21, some 22, some 23, some 24, some 25, some 26, some 27], [], [], [], [], [], [], [], [], [], [some 29, some 30, some 31, some 32, some 33, some 34, some 35, some 36, none, none, none, none], [], [], [], [], [], [], [], [some 37, some 38, some 39, some 40, some 41, some 42, some 43, some 44, some 45], [], [], [], [], [], [], [], [], [], [some 47, some 48, some 49, none], [], [], [], [some 10, some 51, some 52], [], [], [some 10, some 54, some 63, some 64, none, some 65, none, none], [some 55, some 56, some 57, some 58, some 59, some 60, some 61, some 62], [], [], [], [], [], [], [], [], [], [], [], [none, none, some 67, some 68, some 69, none, none, none, none, some 70, some 71, some 72, some 73, some 74, some 75, some 76, none, none, none, some 77, some 78, some 79, some 80, some 81, some 82, some 83, none, some 84, some 85, some 86], [], [], [], [], [], [], [], [], [], [], [], [], [], [], [], [], [], [], [], []]
/-- what kind a cell is: an object of a class (its number in vwCl), an array (0 ints, 1 booleans, 2 Sheets, 3 rows of ints) of a length -/
def shk (c : Nat) : Nat ⊕ (Nat × Nat) := am_shL.getD c (.inr (0, 0))
/-- where a place of a cell points to; none: it holds a number -/
def shf (c j : Nat) : Option Nat := (am_rfL.getD c []).getD j none
def am_N (ci : Nat) : Nat := ((vwCl[ci]?).map (fun q => q.2.2)).getD 0
def am_s (ad : Nat → Nat) (r : Option Nat) (z : Int) : Value := match r with
  | some k => .ref (ad k)
  | none => .int (Int32.ofInt z)
def am_E (dA : Nat → ClassId) (ad : Nat → Nat) (S : Mem) (c : Nat) : va_E := match shk c with
  | .inl ci => .inr (ci, (List.range (am_N ci)).map (fun j => am_s ad (shf c j) (S c (j : Int))))
  | .inr (ty, n) => .inl (dA ty, n, if ty < 2 then .inl (fun i => Int32.ofInt (S c (i : Int))) else .inr (.inr (.inr (.inr (fun i => (shf c i).map ad)))))
def am_W (dA : Nat → ClassId) (ad : Nat → Nat) (S : Mem) : va_W := (List.range 87).map (fun c => (ad c, am_E dA ad S c))
def am_ty (dA : Nat → ClassId) : List (ClassId × FieldType) := [(dA 0, .int), (dA 1, .boolean), (dA 2, .object "RegretLine$Sheet"), (dA 3, .array .int)]
def st2 (S : Mem) (c : Nat) (i v : Int) : Mem := fun c' i' => if c' = c ∧ i' = i then v else S c' i'
theorem am_W_at {dA : Nat → ClassId} {ad : Nat → Nat} {S : Mem} {c : Nat} (h : c < 87) : (am_W dA ad S)[c]? = some (ad c, am_E dA ad S c) := by
  unfold am_W
  rw [List.getElem?_map, List.getElem?_range h]
  rfl
theorem am_W_some {dA : Nat → ClassId} {ad : Nat → Nat} {S : Mem} {c : Nat} {q : Nat × va_E} (h : (am_W dA ad S)[c]? = some q) : c < 87 ∧ q = (ad c, am_E dA ad S c) := by
  have hl : c < 87 := by
    have := (List.getElem?_eq_some_iff.mp h).1
    simpa [am_W] using this
  rw [am_W_at hl] at h
  exact ⟨hl, (Option.some.inj h).symm⟩
theorem am_W_set {dA : Nat → ClassId} {ad : Nat → Nat} {S S' : Mem} {c : Nat} {e : va_E} (he : am_E dA ad S' c = e) (ho : ∀ c', c' ≠ c → S' c' = S c') : (am_W dA ad S).set c (ad c, e) = am_W dA ad S' := by
  apply List.ext_getElem?
  intro k
  by_cases hk : k < 87
  · by_cases hkc : k = c
    · subst hkc
      rw [List.getElem?_set_self (by simpa [am_W] using hk), am_W_at hk, he]
    · rw [List.getElem?_set_ne (Ne.symm hkc), am_W_at hk, am_W_at hk]
      simp only [am_E, ho k hkc]
  · rw [List.getElem?_eq_none (by simp [am_W]; omega), List.getElem?_eq_none (by simp [am_W]; omega)]
theorem st2_o {S : Mem} {c : Nat} {i v : Int} : ∀ c', c' ≠ c → st2 S c i v c' = S c' := fun c' h => funext fun i' => if_neg (fun q => h q.1)
theorem am_lt_87 {c : Nat} (h : shk c ≠ .inr (0, 0)) : c < 87 := by
  rcases Nat.lt_or_ge c 87 with q | q
  · exact q
  · exact absurd (by unfold shk; rw [List.getD_eq_getElem?_getD, List.getElem?_eq_none (by simpa [am_shL] using q)]; rfl) h
/-- the range of an int -/
abbrev rng (a : Int) : Prop := -2147483648 ≤ a ∧ a ≤ 2147483647
abbrev rngl (a : Int) : Prop := -9223372036854775808 ≤ a ∧ a ≤ 9223372036854775807
theorem am_ti {a : Int} (h : rng a) : (Int32.ofInt a).toInt = a := Int32.toInt_ofInt_of_le (by have := h.1; omega) (by have := h.2; omega)
theorem am_lt {a b : Int} (ha : rng a) (hb : rng b) : Int32.ofInt a < Int32.ofInt b ↔ a < b := by rw [Int32.lt_iff_toInt_lt, am_ti ha, am_ti hb]
theorem am_le {a b : Int} (ha : rng a) (hb : rng b) : Int32.ofInt a ≤ Int32.ofInt b ↔ a ≤ b := by rw [Int32.le_iff_toInt_le, am_ti ha, am_ti hb]
theorem am_eq {a b : Int} (ha : rng a) (hb : rng b) : Int32.ofInt a = Int32.ofInt b ↔ a = b := by rw [← Int32.toInt_inj, am_ti ha, am_ti hb]
theorem am_z : Int32.ofInt 0 = 0 := rfl
theorem am_r0 : rng 0 := by decide
theorem am_cl {a : Int} (h0 : 0 ≤ a) (h : a ≤ 2147483647) : (Int32.ofInt a).toNatClampNeg = a.toNat := by
  rw [Int32.toNatClampNeg, am_ti ⟨by omega, h⟩]
theorem am_in {a : Int} {n : Nat} (h0 : 0 ≤ a) (h : a < n) (hn : n ≤ 2147483647) : vp_in (Int32.ofInt a) n := by
  rw [vp_in_iff, am_ti ⟨by omega, by omega⟩]
  exact ⟨h0, h⟩
theorem am_div {a b : Int} (h0 : 0 ≤ a) (ha : a ≤ 2147483647) (h1 : 0 < b) (hb : b ≤ 2147483647) : Int32.ofInt a / Int32.ofInt b = Int32.ofInt (a / b) := by
  rw [← Int32.toInt_inj, Int32.toInt_div_of_ne_right _ _ (fun h => by
    have := congrArg Int32.toInt h
    rw [am_ti ⟨by omega, hb⟩] at this
    have e : (-1 : Int32).toInt = -1 := by decide
    omega), am_ti ⟨by omega, ha⟩, am_ti ⟨by omega, hb⟩, Int.tdiv_eq_ediv_of_nonneg h0, am_ti]
  have h2 := Int.ediv_nonneg h0 (Int.le_of_lt h1)
  have h3 := Int.ediv_le_self b h0
  exact ⟨by omega, by omega⟩
theorem am_nz {b : Int} (h1 : 0 < b) (hb : b ≤ 2147483647) : ¬ Int32.ofInt b = 0 := fun h => by
  have := congrArg Int32.toInt h
  rw [am_ti ⟨by omega, hb⟩] at this
  have e : (0 : Int32).toInt = 0 := by decide
  omega
theorem am_rem {a b : Int} (h0 : 0 ≤ a) (ha : a ≤ 2147483647) (h1 : 0 < b) (hb : b ≤ 2147483647) : Int32.ofInt a - Int32.ofInt a / Int32.ofInt b * Int32.ofInt b = Int32.ofInt (a % b) := by
  rw [am_div h0 ha h1 hb, ← Int32.ofInt_mul, ← Int32.ofInt_sub, Int.emod_def, Int.mul_comm]
/-- the locals: by their places -/
def am_has (ad : Nat → Nat) (ls : Array Slot) (nL : Nat) (L : List (Option AV)) : Prop := lv_has ls nL [] ∧ ∀ (i : Nat) (v : AV), L[i]? = some (some v) → ls[i]? = some (.val (am_v ad v))
def am_l (ad : Nat → Nat) (L : List (Option AV)) : List (Nat × Value) := (List.range L.length).filterMap (fun i => (L[i]?.join).map (fun v => (i, am_v ad v)))
theorem am_l_mem {ad : Nat → Nat} {L : List (Option AV)} {i : Nat} {v : AV} (h : L[i]? = some (some v)) : (i, am_v ad v) ∈ am_l ad L := by
  refine List.mem_filterMap.mpr ⟨i, List.mem_range.mpr (List.getElem?_eq_some_iff.mp h).1, ?_⟩
  rw [h]
  rfl
theorem am_has_lv {ad : Nat → Nat} {ls : Array Slot} {nL : Nat} {L : List (Option AV)} (h : am_has ad ls nL L) : lv_has ls nL (am_l ad L) := by
  refine ⟨h.1.1, h.1.2.1, fun q hq => ?_⟩
  obtain ⟨i, -, hi⟩ := List.mem_filterMap.mp hq
  cases hj : L[i]?.join with
  | none => rw [hj] at hi; cases hi
  | some v =>
    rw [hj] at hi
    cases hi
    refine h.2 i v ?_
    cases hk : L[i]? with
    | none => rw [hk] at hj; cases hj
    | some x => rw [hk] at hj; cases hj; rfl
/-- a local is no long -/
def am_nl (v : Option AV) : Bool := match v with
  | some (.inr (.inl _)) => false
  | _ => true
theorem am_has_set {ad : Nat → Nat} {ls : Array Slot} {nL i : Nat} {L : List (Option AV)} {v : AV} {lv : List (Nat × Value)} (hlv : lv = (i, am_v ad v) :: (am_l ad L).filter (fun q => !(q.1 == i) && !(q.1 + 1 == i && q.2.category == 2))) (h : lv_has ls nL lv) (hp : ∀ u, i = u + 1 → am_nl ((L[u]?).join) = true) : am_has ad ls nL (L.set i (some v)) := by
  subst hlv
  refine ⟨⟨h.1, h.2.1, fun q hq => by cases hq⟩, fun j u hj => ?_⟩
  by_cases hji : j = i
  · subst hji
    have hl : j < L.length := by simpa using (List.getElem?_eq_some_iff.mp hj).1
    rw [List.getElem?_set_self hl] at hj
    cases hj
    exact h.2.2 (j, am_v ad v) List.mem_cons_self
  · rw [List.getElem?_set_ne (Ne.symm hji)] at hj
    refine h.2.2 (j, am_v ad u) (List.mem_cons_of_mem _ (List.mem_filter.mpr ⟨am_l_mem hj, ?_⟩))
    simp only [Bool.and_eq_true, Bool.not_eq_true', beq_eq_false_iff_ne, ne_eq, Bool.and_eq_false_iff]
    refine ⟨hji, ?_⟩
    by_cases hq : j + 1 = i
    · right
      have := hp j hq.symm
      rw [hj] at this
      intro hc
      rw [am_cat_eq] at hc
      rcases u with z | z | k
      · cases hc
      · cases this
      · cases hc
    · exact Or.inl hq
theorem am_has_set2 {ad : Nat → Nat} {ls : Array Slot} {nL i : Nat} {L : List (Option AV)} {v : AV} {lv : List (Nat × Value)} (hlv : lv = (i, am_v ad v) :: (am_l ad L).filter (fun q => !(q.1 == i) && (!(q.1 == i + 1) && !(q.1 + 1 == i && q.2.category == 2)))) (h : lv_has ls nL lv) (hp : ∀ u, i = u + 1 → am_nl ((L[u]?).join) = true) : am_has ad ls nL ((L.set i (some v)).set (i + 1) none) := by
  subst hlv
  refine ⟨⟨h.1, h.2.1, fun q hq => by cases hq⟩, fun j u hj => ?_⟩
  by_cases hj1 : j = i + 1
  · subst hj1
    rw [List.getElem?_set] at hj
    split at hj
    · split at hj <;> cases hj
    · exact absurd rfl (by assumption)
  rw [List.getElem?_set_ne (Ne.symm hj1)] at hj
  by_cases hji : j = i
  · subst hji
    have hl : j < L.length := by simpa using (List.getElem?_eq_some_iff.mp hj).1
    rw [List.getElem?_set_self hl] at hj
    cases hj
    exact h.2.2 (j, am_v ad v) List.mem_cons_self
  · rw [List.getElem?_set_ne (Ne.symm hji)] at hj
    refine h.2.2 (j, am_v ad u) (List.mem_cons_of_mem _ (List.mem_filter.mpr ⟨am_l_mem hj, ?_⟩))
    simp only [Bool.and_eq_true, Bool.not_eq_true', beq_eq_false_iff_ne, ne_eq, Bool.and_eq_false_iff]
    refine ⟨hji, hj1, ?_⟩
    by_cases hq : j + 1 = i
    · right
      have := hp j hq.symm
      rw [hj] at this
      intro hc
      rw [am_cat_eq] at hc
      rcases u with z | z | k
      · cases hc
      · cases this
      · cases hc
    · exact Or.inl hq
/-- the machine's side of a walk -/
abbrev AMX := Program × Launch × Env × Room × State × MethodId × Array Value × List Frame × Method × Code × Nat × Nat × (State → Prop) × (Nat → ClassId) × (Nat → Nat → Nat) × (Nat → ClassId) × (Nat → Nat) × (Nat → Prop)
def AW (X : AMX) (cc : ByteArray) (nL pc : Nat) (L : List (Option AV)) (st : List AV) (S : Mem) : Prop := match X with
  | (p, l, e, R, s, m, args, below, meth, c, cells, slots, Q, dC, dI, dA, ad, A) => ∀ (H : Heap) (locs : List Loc) (ls : Array Slot), va_P (dC, dI) vwCl (am_W dA ad S) H → va_S A s.heap H locs → am_has ad ls nL L → W p l e R s m args below meth c H locs cells slots Q (F0 m pc ls (st.map (am_v ad)))
/-- the one link to a nest mate's private member that a method besides constructors uses -/
def am_NW : Cond := .methodLinkNest RX2 31 yX6_noClass RX6
def CX (X : AMX) (d : Nat) (own : String) (cc : ByteArray) (nL : Nat) : Prop := match X with
  | (p, l, e, R, s, m, args, below, meth, c, cells, slots, Q, dC, dI, dA, ad, A) => p.tables.exec = Jvm.exec ∧ c.code = cc ∧ c.maxLocals = nL ∧ s.vm.findClass own = some m.cls ∧ (∀ w ∈ am_BW, w.before args s = true) ∧ va_K (dC, dI) vwCl (am_ty dA) s ∧ (∀ S, va_D A (am_W dA ad S)) ∧ (∀ q, s.heap.size ≤ q → A q) ∧ va_Nw am_NW s ∧ d ≤ R.frames ∧ 60 * d ≤ R.locals ∧ cells ≤ R.cells ∧ slots ≤ R.slots
section AM1
variable {X : AMX} {d pc n nL : Nat} {own : String} {cc : ByteArray} {L : List (Option AV)} {st : List AV} {S : Mem}
theorem aw_loc {L' : List (Option AV)} (h : ∀ (i : Nat) (v : AV), L'[i]? = some (some v) → L[i]? = some (some v)) (k : AW X cc nL pc L' st S) : AW X cc nL pc L st S := by
  obtain ⟨p, l, e, R, s, m, args, below, meth, c, cells, slots, Q, dC, dI, dA, ad, A⟩ := X
  intro H locs ls hP hS hl
  exact k H locs ls hP hS ⟨hl.1, fun i v hv => hl.2 i v (h i v hv)⟩
theorem aw_iconst {z : Int} (C : CX X d own cc nL) (hd : decode cc pc = .ok (.iconst z, 1)) (hn : pc + 1 = n) (k : AW X cc nL n L (.inl z :: st) (S)) : AW X cc nL pc L (st) S := by
  obtain ⟨p, l, e, R, s, m, args, below, meth, c, cells, slots, Q, dC, dI, dA, ad, A⟩ := X
  obtain ⟨hx, hb, hml, hown, hts, hK, hD, hA, hNw, hfr, hlo, hce, hsl⟩ := C
  subst hn
  intro H locs ls hP hS hl
  exact lv_iconst hx hb hd rfl (k H locs ls hP hS hl)
theorem aw_bipush {z : Int} (C : CX X d own cc nL) (hd : decode cc pc = .ok (.bipush z, 2)) (hn : pc + 2 = n) (h : (Int8.ofInt z).toInt32 = Int32.ofInt z) (k : AW X cc nL n L (.inl z :: st) (S)) : AW X cc nL pc L (st) S := by
  obtain ⟨p, l, e, R, s, m, args, below, meth, c, cells, slots, Q, dC, dI, dA, ad, A⟩ := X
  obtain ⟨hx, hb, hml, hown, hts, hK, hD, hA, hNw, hfr, hlo, hce, hsl⟩ := C
  subst hn
  intro H locs ls hP hS hl
  exact lv_bipush hx hb hd h (k H locs ls hP hS hl)
theorem aw_sipush {z : Int} (C : CX X d own cc nL) (hd : decode cc pc = .ok (.sipush z, 3)) (hn : pc + 3 = n) (h : (Int16.ofInt z).toInt32 = Int32.ofInt z) (k : AW X cc nL n L (.inl z :: st) (S)) : AW X cc nL pc L (st) S := by
  obtain ⟨p, l, e, R, s, m, args, below, meth, c, cells, slots, Q, dC, dI, dA, ad, A⟩ := X
  obtain ⟨hx, hb, hml, hown, hts, hK, hD, hA, hNw, hfr, hlo, hce, hsl⟩ := C
  subst hn
  intro H locs ls hP hS hl
  exact lv_sipush hx hb hd h (k H locs ls hP hS hl)
theorem aw_lconst {f : Fin 2} {z : Int} (C : CX X d own cc nL) (hd : decode cc pc = .ok (.lconst f, 1)) (hn : pc + 1 = n) (h : Int64.ofNat (f : Nat) = Int64.ofInt z) (k : AW X cc nL n L (.inr (.inl z) :: st) (S)) : AW X cc nL pc L (st) S := by
  obtain ⟨p, l, e, R, s, m, args, below, meth, c, cells, slots, Q, dC, dI, dA, ad, A⟩ := X
  obtain ⟨hx, hb, hml, hown, hts, hK, hD, hA, hNw, hfr, hlo, hce, hsl⟩ := C
  subst hn
  intro H locs ls hP hS hl
  exact lv_lconst hx hb hd h (k H locs ls hP hS hl)
theorem aw_ildn {i : Fin 4} {a : Int} (C : CX X d own cc nL) (hd : decode cc pc = .ok (.iload_n i, 1)) (hn : pc + 1 = n) (hv : L[(i : Nat)]? = some (some (.inl a))) (k : AW X cc nL n L (.inl a :: st) (S)) : AW X cc nL pc L (st) S := by
  obtain ⟨p, l, e, R, s, m, args, below, meth, c, cells, slots, Q, dC, dI, dA, ad, A⟩ := X
  obtain ⟨hx, hb, hml, hown, hts, hK, hD, hA, hNw, hfr, hlo, hce, hsl⟩ := C
  subst hn
  intro H locs ls hP hS hl
  exact lv_iload_n hx hb hd rfl (hl.2 _ _ hv) (k H locs ls hP hS hl)
theorem aw_ildw {i : Nat} {a : Int} (C : CX X d own cc nL) (hd : decode cc pc = .ok (.iload i, 2)) (hn : pc + 2 = n) (hv : L[i]? = some (some (.inl a))) (k : AW X cc nL n L (.inl a :: st) (S)) : AW X cc nL pc L (st) S := by
  obtain ⟨p, l, e, R, s, m, args, below, meth, c, cells, slots, Q, dC, dI, dA, ad, A⟩ := X
  obtain ⟨hx, hb, hml, hown, hts, hK, hD, hA, hNw, hfr, hlo, hce, hsl⟩ := C
  subst hn
  intro H locs ls hP hS hl
  exact lv_iload hx hb hd (hl.2 _ _ hv) (k H locs ls hP hS hl)
theorem aw_aldn {i : Fin 4} {a : Nat} (C : CX X d own cc nL) (hd : decode cc pc = .ok (.aload_n i, 1)) (hn : pc + 1 = n) (hv : L[(i : Nat)]? = some (some (.inr (.inr a)))) (k : AW X cc nL n L (.inr (.inr a) :: st) (S)) : AW X cc nL pc L (st) S := by
  obtain ⟨p, l, e, R, s, m, args, below, meth, c, cells, slots, Q, dC, dI, dA, ad, A⟩ := X
  obtain ⟨hx, hb, hml, hown, hts, hK, hD, hA, hNw, hfr, hlo, hce, hsl⟩ := C
  subst hn
  intro H locs ls hP hS hl
  exact lv_aload_n hx hb hd rfl (hl.2 _ _ hv) (k H locs ls hP hS hl)
theorem aw_aldw {i : Nat} {a : Nat} (C : CX X d own cc nL) (hd : decode cc pc = .ok (.aload i, 2)) (hn : pc + 2 = n) (hv : L[i]? = some (some (.inr (.inr a)))) (k : AW X cc nL n L (.inr (.inr a) :: st) (S)) : AW X cc nL pc L (st) S := by
  obtain ⟨p, l, e, R, s, m, args, below, meth, c, cells, slots, Q, dC, dI, dA, ad, A⟩ := X
  obtain ⟨hx, hb, hml, hown, hts, hK, hD, hA, hNw, hfr, hlo, hce, hsl⟩ := C
  subst hn
  intro H locs ls hP hS hl
  exact lv_aload hx hb hd (hl.2 _ _ hv) (k H locs ls hP hS hl)
theorem aw_lldn {i : Fin 4} {a : Int} (C : CX X d own cc nL) (hd : decode cc pc = .ok (.lload_n i, 1)) (hn : pc + 1 = n) (hv : L[(i : Nat)]? = some (some (.inr (.inl a)))) (k : AW X cc nL n L (.inr (.inl a) :: st) (S)) : AW X cc nL pc L (st) S := by
  obtain ⟨p, l, e, R, s, m, args, below, meth, c, cells, slots, Q, dC, dI, dA, ad, A⟩ := X
  obtain ⟨hx, hb, hml, hown, hts, hK, hD, hA, hNw, hfr, hlo, hce, hsl⟩ := C
  subst hn
  intro H locs ls hP hS hl
  exact lv_lload_n hx hb hd rfl (hl.2 _ _ hv) (k H locs ls hP hS hl)
theorem aw_lldw {i : Nat} {a : Int} (C : CX X d own cc nL) (hd : decode cc pc = .ok (.lload i, 2)) (hn : pc + 2 = n) (hv : L[i]? = some (some (.inr (.inl a)))) (k : AW X cc nL n L (.inr (.inl a) :: st) (S)) : AW X cc nL pc L (st) S := by
  obtain ⟨p, l, e, R, s, m, args, below, meth, c, cells, slots, Q, dC, dI, dA, ad, A⟩ := X
  obtain ⟨hx, hb, hml, hown, hts, hK, hD, hA, hNw, hfr, hlo, hce, hsl⟩ := C
  subst hn
  intro H locs ls hP hS hl
  exact lv_lload hx hb hd (hl.2 _ _ hv) (k H locs ls hP hS hl)
theorem aw_istn {i : Fin 4} {a : Int} (C : CX X d own cc nL) (hd : decode cc pc = .ok (.istore_n i, 1)) (hn : pc + 1 = n) (hi : (i : Nat) < nL) (hp : ∀ u, (i : Nat) = u + 1 → am_nl ((L[u]?).join) = true) (k : AW X cc nL n (L.set (i : Nat) (some (.inl a))) (st) (S)) : AW X cc nL pc L (.inl a :: st) S := by
  obtain ⟨p, l, e, R, s, m, args, below, meth, c, cells, slots, Q, dC, dI, dA, ad, A⟩ := X
  obtain ⟨hx, hb, hml, hown, hts, hK, hD, hA, hNw, hfr, hlo, hce, hsl⟩ := C
  subst hn
  intro H locs ls hP hS hl
  exact lv_istore_n hx hb hd rfl (am_has_lv hl) hi rfl (fun ls' h' => k H locs ls' hP hS (am_has_set rfl h' hp))
theorem aw_istw {i : Nat} {a : Int} (C : CX X d own cc nL) (hd : decode cc pc = .ok (.istore i, 2)) (hn : pc + 2 = n) (hi : i < nL) (hp : ∀ u, i = u + 1 → am_nl ((L[u]?).join) = true) (k : AW X cc nL n (L.set i (some (.inl a))) (st) (S)) : AW X cc nL pc L (.inl a :: st) S := by
  obtain ⟨p, l, e, R, s, m, args, below, meth, c, cells, slots, Q, dC, dI, dA, ad, A⟩ := X
  obtain ⟨hx, hb, hml, hown, hts, hK, hD, hA, hNw, hfr, hlo, hce, hsl⟩ := C
  subst hn
  intro H locs ls hP hS hl
  exact lv_istore hx hb hd (am_has_lv hl) hi rfl (fun ls' h' => k H locs ls' hP hS (am_has_set rfl h' hp))
theorem aw_astn {i : Fin 4} {a : Nat} (C : CX X d own cc nL) (hd : decode cc pc = .ok (.astore_n i, 1)) (hn : pc + 1 = n) (hi : (i : Nat) < nL) (hp : ∀ u, (i : Nat) = u + 1 → am_nl ((L[u]?).join) = true) (k : AW X cc nL n (L.set (i : Nat) (some (.inr (.inr a)))) (st) (S)) : AW X cc nL pc L (.inr (.inr a) :: st) S := by
  obtain ⟨p, l, e, R, s, m, args, below, meth, c, cells, slots, Q, dC, dI, dA, ad, A⟩ := X
  obtain ⟨hx, hb, hml, hown, hts, hK, hD, hA, hNw, hfr, hlo, hce, hsl⟩ := C
  subst hn
  intro H locs ls hP hS hl
  exact lv_astore_n hx hb hd rfl (am_has_lv hl) hi rfl (fun ls' h' => k H locs ls' hP hS (am_has_set rfl h' hp))
theorem aw_astw {i : Nat} {a : Nat} (C : CX X d own cc nL) (hd : decode cc pc = .ok (.astore i, 2)) (hn : pc + 2 = n) (hi : i < nL) (hp : ∀ u, i = u + 1 → am_nl ((L[u]?).join) = true) (k : AW X cc nL n (L.set i (some (.inr (.inr a)))) (st) (S)) : AW X cc nL pc L (.inr (.inr a) :: st) S := by
  obtain ⟨p, l, e, R, s, m, args, below, meth, c, cells, slots, Q, dC, dI, dA, ad, A⟩ := X
  obtain ⟨hx, hb, hml, hown, hts, hK, hD, hA, hNw, hfr, hlo, hce, hsl⟩ := C
  subst hn
  intro H locs ls hP hS hl
  exact lv_astore hx hb hd (am_has_lv hl) hi rfl (fun ls' h' => k H locs ls' hP hS (am_has_set rfl h' hp))
theorem aw_lstn {i : Fin 4} {a : Int} (C : CX X d own cc nL) (hd : decode cc pc = .ok (.lstore_n i, 1)) (hn : pc + 1 = n) (hi : (i : Nat) + 1 < nL) (hp : ∀ u, (i : Nat) = u + 1 → am_nl ((L[u]?).join) = true) (k : AW X cc nL n ((L.set (i : Nat) (some (.inr (.inl a)))).set ((i : Nat) + 1) none) (st) (S)) : AW X cc nL pc L (.inr (.inl a) :: st) S := by
  obtain ⟨p, l, e, R, s, m, args, below, meth, c, cells, slots, Q, dC, dI, dA, ad, A⟩ := X
  obtain ⟨hx, hb, hml, hown, hts, hK, hD, hA, hNw, hfr, hlo, hce, hsl⟩ := C
  subst hn
  intro H locs ls hP hS hl
  exact lv_lstore_n hx hb hd rfl (am_has_lv hl) hi rfl (fun ls' h' => k H locs ls' hP hS (am_has_set2 rfl h' hp))
theorem aw_lstw {i : Nat} {a : Int} (C : CX X d own cc nL) (hd : decode cc pc = .ok (.lstore i, 2)) (hn : pc + 2 = n) (hi : i + 1 < nL) (hp : ∀ u, i = u + 1 → am_nl ((L[u]?).join) = true) (k : AW X cc nL n ((L.set i (some (.inr (.inl a)))).set (i + 1) none) (st) (S)) : AW X cc nL pc L (.inr (.inl a) :: st) S := by
  obtain ⟨p, l, e, R, s, m, args, below, meth, c, cells, slots, Q, dC, dI, dA, ad, A⟩ := X
  obtain ⟨hx, hb, hml, hown, hts, hK, hD, hA, hNw, hfr, hlo, hce, hsl⟩ := C
  subst hn
  intro H locs ls hP hS hl
  exact lv_lstore hx hb hd (am_has_lv hl) hi rfl (fun ls' h' => k H locs ls' hP hS (am_has_set2 rfl h' hp))
theorem aw_iincw {i : Nat} {a z : Int} (C : CX X d own cc nL) (hd : decode cc pc = .ok (.iinc i z, 3)) (hn : pc + 3 = n) (hv : L[i]? = some (some (.inl a))) (hi : i < nL) (hp : ∀ u, i = u + 1 → am_nl ((L[u]?).join) = true) (k : AW X cc nL n (L.set i (some (.inl (a + z)))) st S) : AW X cc nL pc L st S := by
  obtain ⟨p, l, e, R, s, m, args, below, meth, c, cells, slots, Q, dC, dI, dA, ad, A⟩ := X
  obtain ⟨hx, hb, hml, hown, hts, hK, hD, hA, hNw, hfr, hlo, hce, hsl⟩ := C
  subst hn
  intro H locs ls hP hS hl
  obtain ⟨q, hq⟩ := List.getElem?_of_mem (am_l_mem (ad := ad) hv)
  exact lv_iinc (v := Int32.ofInt (a + z)) hx hb hd (am_has_lv hl) (k := q) hq (by rw [Int32.ofInt_add]) hi rfl (fun ls' h' => k H locs ls' hP hS (am_has_set rfl h' hp))
theorem aw_iadd {a b : Int} (C : CX X d own cc nL) (hd : decode cc pc = .ok (.iadd, 1)) (hn : pc + 1 = n) (k : AW X cc nL n L (.inl (a + b) :: st) (S)) : AW X cc nL pc L (.inl b :: .inl a :: st) S := by
  obtain ⟨p, l, e, R, s, m, args, below, meth, c, cells, slots, Q, dC, dI, dA, ad, A⟩ := X
  obtain ⟨hx, hb, hml, hown, hts, hK, hD, hA, hNw, hfr, hlo, hce, hsl⟩ := C
  subst hn
  intro H locs ls hP hS hl
  refine lv_iadd hx hb hd ?_
  rw [← Int32.ofInt_add]
  exact k H locs ls hP hS hl
theorem aw_isub {a b : Int} (C : CX X d own cc nL) (hd : decode cc pc = .ok (.isub, 1)) (hn : pc + 1 = n) (k : AW X cc nL n L (.inl (a - b) :: st) (S)) : AW X cc nL pc L (.inl b :: .inl a :: st) S := by
  obtain ⟨p, l, e, R, s, m, args, below, meth, c, cells, slots, Q, dC, dI, dA, ad, A⟩ := X
  obtain ⟨hx, hb, hml, hown, hts, hK, hD, hA, hNw, hfr, hlo, hce, hsl⟩ := C
  subst hn
  intro H locs ls hP hS hl
  refine lv_isub hx hb hd ?_
  rw [← Int32.ofInt_sub]
  exact k H locs ls hP hS hl
theorem aw_imul {a b : Int} (C : CX X d own cc nL) (hd : decode cc pc = .ok (.imul, 1)) (hn : pc + 1 = n) (k : AW X cc nL n L (.inl (a * b) :: st) (S)) : AW X cc nL pc L (.inl b :: .inl a :: st) S := by
  obtain ⟨p, l, e, R, s, m, args, below, meth, c, cells, slots, Q, dC, dI, dA, ad, A⟩ := X
  obtain ⟨hx, hb, hml, hown, hts, hK, hD, hA, hNw, hfr, hlo, hce, hsl⟩ := C
  subst hn
  intro H locs ls hP hS hl
  refine lv_imul hx hb hd ?_
  rw [← Int32.ofInt_mul]
  exact k H locs ls hP hS hl
theorem aw_ineg {a : Int} (C : CX X d own cc nL) (hd : decode cc pc = .ok (.ineg, 1)) (hn : pc + 1 = n) (k : AW X cc nL n L (.inl (-a) :: st) (S)) : AW X cc nL pc L (.inl a :: st) S := by
  obtain ⟨p, l, e, R, s, m, args, below, meth, c, cells, slots, Q, dC, dI, dA, ad, A⟩ := X
  obtain ⟨hx, hb, hml, hown, hts, hK, hD, hA, hNw, hfr, hlo, hce, hsl⟩ := C
  subst hn
  intro H locs ls hP hS hl
  refine lv_ineg hx hb hd ?_
  rw [← Int32.ofInt_neg]
  exact k H locs ls hP hS hl
theorem aw_idiv {a b : Int} (C : CX X d own cc nL) (hd : decode cc pc = .ok (.idiv, 1)) (hn : pc + 1 = n) (ha : 0 ≤ a ∧ a ≤ 2147483647) (hb2 : 0 < b ∧ b ≤ 2147483647) (k : AW X cc nL n L (.inl (a / b) :: st) (S)) : AW X cc nL pc L (.inl b :: .inl a :: st) S := by
  obtain ⟨p, l, e, R, s, m, args, below, meth, c, cells, slots, Q, dC, dI, dA, ad, A⟩ := X
  obtain ⟨hx, hb, hml, hown, hts, hK, hD, hA, hNw, hfr, hlo, hce, hsl⟩ := C
  subst hn
  intro H locs ls hP hS hl
  refine lv_idiv hx hb hd (am_nz hb2.1 hb2.2) ?_
  rw [am_div ha.1 ha.2 hb2.1 hb2.2]
  exact k H locs ls hP hS hl
theorem aw_irem {a b : Int} (C : CX X d own cc nL) (hd : decode cc pc = .ok (.irem, 1)) (hn : pc + 1 = n) (ha : 0 ≤ a ∧ a ≤ 2147483647) (hb2 : 0 < b ∧ b ≤ 2147483647) (k : AW X cc nL n L (.inl (a % b) :: st) (S)) : AW X cc nL pc L (.inl b :: .inl a :: st) S := by
  obtain ⟨p, l, e, R, s, m, args, below, meth, c, cells, slots, Q, dC, dI, dA, ad, A⟩ := X
  obtain ⟨hx, hb, hml, hown, hts, hK, hD, hA, hNw, hfr, hlo, hce, hsl⟩ := C
  subst hn
  intro H locs ls hP hS hl
  refine lv_irem hx hb hd (am_nz hb2.1 hb2.2) ?_
  rw [am_rem ha.1 ha.2 hb2.1 hb2.2]
  exact k H locs ls hP hS hl
theorem aw_ishl {a b r : Int} (C : CX X d own cc nL) (hd : decode cc pc = .ok (.ishl, 1)) (hn : pc + 1 = n) (h : Int32.ofInt a <<< (Int32.ofInt b &&& 31) = Int32.ofInt r) (k : AW X cc nL n L (.inl r :: st) (S)) : AW X cc nL pc L (.inl b :: .inl a :: st) S := by
  obtain ⟨p, l, e, R, s, m, args, below, meth, c, cells, slots, Q, dC, dI, dA, ad, A⟩ := X
  obtain ⟨hx, hb, hml, hown, hts, hK, hD, hA, hNw, hfr, hlo, hce, hsl⟩ := C
  subst hn
  intro H locs ls hP hS hl
  refine lv_ishl hx hb hd ?_
  rw [h]
  exact k H locs ls hP hS hl
theorem aw_ishr {a b r : Int} (C : CX X d own cc nL) (hd : decode cc pc = .ok (.ishr, 1)) (hn : pc + 1 = n) (h : Int32.ofInt a >>> (Int32.ofInt b &&& 31) = Int32.ofInt r) (k : AW X cc nL n L (.inl r :: st) (S)) : AW X cc nL pc L (.inl b :: .inl a :: st) S := by
  obtain ⟨p, l, e, R, s, m, args, below, meth, c, cells, slots, Q, dC, dI, dA, ad, A⟩ := X
  obtain ⟨hx, hb, hml, hown, hts, hK, hD, hA, hNw, hfr, hlo, hce, hsl⟩ := C
  subst hn
  intro H locs ls hP hS hl
  refine lv_ishr hx hb hd ?_
  rw [h]
  exact k H locs ls hP hS hl
theorem aw_iand {a b r : Int} (C : CX X d own cc nL) (hd : decode cc pc = .ok (.iand, 1)) (hn : pc + 1 = n) (h : Int32.ofInt a &&& Int32.ofInt b = Int32.ofInt r) (k : AW X cc nL n L (.inl r :: st) (S)) : AW X cc nL pc L (.inl b :: .inl a :: st) S := by
  obtain ⟨p, l, e, R, s, m, args, below, meth, c, cells, slots, Q, dC, dI, dA, ad, A⟩ := X
  obtain ⟨hx, hb, hml, hown, hts, hK, hD, hA, hNw, hfr, hlo, hce, hsl⟩ := C
  subst hn
  intro H locs ls hP hS hl
  refine lv_iand hx hb hd ?_
  rw [h]
  exact k H locs ls hP hS hl
theorem aw_ior {a b r : Int} (C : CX X d own cc nL) (hd : decode cc pc = .ok (.ior, 1)) (hn : pc + 1 = n) (h : Int32.ofInt a ||| Int32.ofInt b = Int32.ofInt r) (k : AW X cc nL n L (.inl r :: st) (S)) : AW X cc nL pc L (.inl b :: .inl a :: st) S := by
  obtain ⟨p, l, e, R, s, m, args, below, meth, c, cells, slots, Q, dC, dI, dA, ad, A⟩ := X
  obtain ⟨hx, hb, hml, hown, hts, hK, hD, hA, hNw, hfr, hlo, hce, hsl⟩ := C
  subst hn
  intro H locs ls hP hS hl
  refine lv_ior hx hb hd ?_
  rw [h]
  exact k H locs ls hP hS hl
theorem aw_i2b {a r : Int} (C : CX X d own cc nL) (hd : decode cc pc = .ok (.i2b, 1)) (hn : pc + 1 = n) (h : (Int32.ofInt a).toInt8.toInt32 = Int32.ofInt r) (k : AW X cc nL n L (.inl r :: st) (S)) : AW X cc nL pc L (.inl a :: st) S := by
  obtain ⟨p, l, e, R, s, m, args, below, meth, c, cells, slots, Q, dC, dI, dA, ad, A⟩ := X
  obtain ⟨hx, hb, hml, hown, hts, hK, hD, hA, hNw, hfr, hlo, hce, hsl⟩ := C
  subst hn
  intro H locs ls hP hS hl
  exact lv_i2b hx hb hd h (k H locs ls hP hS hl)
theorem aw_i2s {a r : Int} (C : CX X d own cc nL) (hd : decode cc pc = .ok (.i2s, 1)) (hn : pc + 1 = n) (h : (Int32.ofInt a).toInt16.toInt32 = Int32.ofInt r) (k : AW X cc nL n L (.inl r :: st) (S)) : AW X cc nL pc L (.inl a :: st) S := by
  obtain ⟨p, l, e, R, s, m, args, below, meth, c, cells, slots, Q, dC, dI, dA, ad, A⟩ := X
  obtain ⟨hx, hb, hml, hown, hts, hK, hD, hA, hNw, hfr, hlo, hce, hsl⟩ := C
  subst hn
  intro H locs ls hP hS hl
  exact lv_i2s hx hb hd h (k H locs ls hP hS hl)
theorem aw_i2l {a : Int} (C : CX X d own cc nL) (hd : decode cc pc = .ok (.i2l, 1)) (hn : pc + 1 = n) (h : rng a) (k : AW X cc nL n L (.inr (.inl a) :: st) (S)) : AW X cc nL pc L (.inl a :: st) S := by
  obtain ⟨p, l, e, R, s, m, args, below, meth, c, cells, slots, Q, dC, dI, dA, ad, A⟩ := X
  obtain ⟨hx, hb, hml, hown, hts, hK, hD, hA, hNw, hfr, hlo, hce, hsl⟩ := C
  subst hn
  intro H locs ls hP hS hl
  exact lv_i2l hx hb hd (Int32.toInt64_ofInt (by rw [show Int32.minValue.toInt = -2147483648 by decide]; exact h.1) (by rw [show Int32.maxValue.toInt = 2147483647 by decide]; exact h.2)) (k H locs ls hP hS hl)
theorem aw_lshl {a b r : Int} (C : CX X d own cc nL) (hd : decode cc pc = .ok (.lshl, 1)) (hn : pc + 1 = n) (h : Int64.ofInt a <<< ((Int32.ofInt b).toInt64 &&& 63) = Int64.ofInt r) (k : AW X cc nL n L (.inr (.inl r) :: st) (S)) : AW X cc nL pc L (.inl b :: .inr (.inl a) :: st) S := by
  obtain ⟨p, l, e, R, s, m, args, below, meth, c, cells, slots, Q, dC, dI, dA, ad, A⟩ := X
  obtain ⟨hx, hb, hml, hown, hts, hK, hD, hA, hNw, hfr, hlo, hce, hsl⟩ := C
  subst hn
  intro H locs ls hP hS hl
  exact lv_lshl hx hb hd h (k H locs ls hP hS hl)
theorem aw_ldiv {a b r : Int} (C : CX X d own cc nL) (hd : decode cc pc = .ok (.ldiv, 1)) (hn : pc + 1 = n) (h0 : ¬ Int64.ofInt b = 0) (h : Int64.ofInt a / Int64.ofInt b = Int64.ofInt r) (k : AW X cc nL n L (.inr (.inl r) :: st) (S)) : AW X cc nL pc L (.inr (.inl b) :: .inr (.inl a) :: st) S := by
  obtain ⟨p, l, e, R, s, m, args, below, meth, c, cells, slots, Q, dC, dI, dA, ad, A⟩ := X
  obtain ⟨hx, hb, hml, hown, hts, hK, hD, hA, hNw, hfr, hlo, hce, hsl⟩ := C
  subst hn
  intro H locs ls hP hS hl
  refine lv_ldiv hx hb hd h0 ?_
  rw [h]
  exact k H locs ls hP hS hl
theorem aw_lrem {a b r : Int} (C : CX X d own cc nL) (hd : decode cc pc = .ok (.lrem, 1)) (hn : pc + 1 = n) (h0 : ¬ Int64.ofInt b = 0) (h : Int64.ofInt a - Int64.ofInt a / Int64.ofInt b * Int64.ofInt b = Int64.ofInt r) (k : AW X cc nL n L (.inr (.inl r) :: st) (S)) : AW X cc nL pc L (.inr (.inl b) :: .inr (.inl a) :: st) S := by
  obtain ⟨p, l, e, R, s, m, args, below, meth, c, cells, slots, Q, dC, dI, dA, ad, A⟩ := X
  obtain ⟨hx, hb, hml, hown, hts, hK, hD, hA, hNw, hfr, hlo, hce, hsl⟩ := C
  subst hn
  intro H locs ls hP hS hl
  refine lv_lrem hx hb hd h0 ?_
  rw [h]
  exact k H locs ls hP hS hl
theorem aw_lcmp {a b r : Int} (C : CX X d own cc nL) (hd : decode cc pc = .ok (.lcmp, 1)) (hn : pc + 1 = n) (h : lg_cmp (Int64.ofInt a) (Int64.ofInt b) = Int32.ofInt r) (k : AW X cc nL n L (.inl r :: st) (S)) : AW X cc nL pc L (.inr (.inl b) :: .inr (.inl a) :: st) S := by
  obtain ⟨p, l, e, R, s, m, args, below, meth, c, cells, slots, Q, dC, dI, dA, ad, A⟩ := X
  obtain ⟨hx, hb, hml, hown, hts, hK, hD, hA, hNw, hfr, hlo, hce, hsl⟩ := C
  subst hn
  intro H locs ls hP hS hl
  refine W.lcmp hx hb hd ?_
  rw [h]
  exact k H locs ls hP hS hl
theorem aw_ldc2 {z : Int} {idx : Nat} {v : Int64} (C : CX X d own cc nL) (hd : decode cc pc = .ok (.ldc2_w idx, 3)) (hn : pc + 3 = n) (hw : Cond.constantLong own idx v ∈ am_BW) (h : v = Int64.ofInt z) (k : AW X cc nL n L (.inr (.inl z) :: st) (S)) : AW X cc nL pc L (st) S := by
  obtain ⟨p, l, e, R, s, m, args, below, meth, c, cells, slots, Q, dC, dI, dA, ad, A⟩ := X
  obtain ⟨hx, hb, hml, hown, hts, hK, hD, hA, hNw, hfr, hlo, hce, hsl⟩ := C
  subst hn
  intro H locs ls hP hS hl
  subst h
  exact lv_ldc2 hx hb hown (hts _ hw) hd (k H locs ls hP hS hl)
theorem aw_dup {v : AV} (C : CX X d own cc nL) (hd : decode cc pc = .ok (.dup, 1)) (hn : pc + 1 = n) (h : am_cat v = 1) (k : AW X cc nL n L (v :: v :: st) (S)) : AW X cc nL pc L (v :: st) S := by
  obtain ⟨p, l, e, R, s, m, args, below, meth, c, cells, slots, Q, dC, dI, dA, ad, A⟩ := X
  obtain ⟨hx, hb, hml, hown, hts, hK, hD, hA, hNw, hfr, hlo, hce, hsl⟩ := C
  subst hn
  intro H locs ls hP hS hl
  exact lv_dup hx hb hd ((am_cat_eq ad v).trans h) (k H locs ls hP hS hl)
theorem aw_dup2 {v u : AV} (C : CX X d own cc nL) (hd : decode cc pc = .ok (.dup2, 1)) (hn : pc + 1 = n) (h : am_cat v = 1) (h2 : am_cat u = 1) (k : AW X cc nL n L (v :: u :: v :: u :: st) (S)) : AW X cc nL pc L (v :: u :: st) S := by
  obtain ⟨p, l, e, R, s, m, args, below, meth, c, cells, slots, Q, dC, dI, dA, ad, A⟩ := X
  obtain ⟨hx, hb, hml, hown, hts, hK, hD, hA, hNw, hfr, hlo, hce, hsl⟩ := C
  subst hn
  intro H locs ls hP hS hl
  exact lv_dup2_11 hx hb hd ((am_cat_eq ad v).trans h) ((am_cat_eq ad u).trans h2) (k H locs ls hP hS hl)
theorem aw_goto {off : Int} {tgt : Nat} (C : CX X d own cc nL) (hd : decode cc pc = .ok (.goto off, 3)) (ht : (pc : Int) + off = (tgt : Int)) (k : AW X cc nL tgt L st S) : AW X cc nL pc L st S := by
  obtain ⟨p, l, e, R, s, m, args, below, meth, c, cells, slots, Q, dC, dI, dA, ad, A⟩ := X
  obtain ⟨hx, hb, hml, hown, hts, hK, hD, hA, hNw, hfr, hlo, hce, hsl⟩ := C
  intro H locs ls hP hS hl
  exact lv_goto hx hb hd ht (k H locs ls hP hS hl)
theorem aw_iceq {a b off : Int} {tgt : Nat} (C : CX X d own cc nL) (hd : decode cc pc = .ok (.if_icmp .eq off, 3)) (ht : (pc : Int) + off = (tgt : Int)) (hn : pc + 3 = n) (ha : rng a) (hb2 : rng b) (kt : a = b → AW X cc nL tgt L st S) (kf : ¬ a = b → AW X cc nL n L st S) : AW X cc nL pc L (.inl b :: .inl a :: st) S := by
  obtain ⟨p, l, e, R, s, m, args, below, meth, c, cells, slots, Q, dC, dI, dA, ad, A⟩ := X
  obtain ⟨hx, hb, hml, hown, hts, hK, hD, hA, hNw, hfr, hlo, hce, hsl⟩ := C
  subst hn
  intro H locs ls hP hS hl
  exact lv_icmp_eq hx hb hd ht (fun h => kt ((am_eq ha hb2).mp h) H locs ls hP hS hl) (fun h => kf ((mt (am_eq ha hb2).mpr h)) H locs ls hP hS hl)
theorem aw_ifeq {a off : Int} {tgt : Nat} (C : CX X d own cc nL) (hd : decode cc pc = .ok (.ifCond .eq off, 3)) (ht : (pc : Int) + off = (tgt : Int)) (hn : pc + 3 = n) (ha : rng a) (kt : a = 0 → AW X cc nL tgt L st S) (kf : ¬ a = 0 → AW X cc nL n L st S) : AW X cc nL pc L (.inl a :: st) S := by
  obtain ⟨p, l, e, R, s, m, args, below, meth, c, cells, slots, Q, dC, dI, dA, ad, A⟩ := X
  obtain ⟨hx, hb, hml, hown, hts, hK, hD, hA, hNw, hfr, hlo, hce, hsl⟩ := C
  subst hn
  intro H locs ls hP hS hl
  exact lv_if_eq hx hb hd ht (fun h => kt ((am_eq ha am_r0).mp h) H locs ls hP hS hl) (fun h => kf ((mt (am_eq ha am_r0).mpr h)) H locs ls hP hS hl)
theorem aw_icne {a b off : Int} {tgt : Nat} (C : CX X d own cc nL) (hd : decode cc pc = .ok (.if_icmp .ne off, 3)) (ht : (pc : Int) + off = (tgt : Int)) (hn : pc + 3 = n) (ha : rng a) (hb2 : rng b) (kt : ¬ a = b → AW X cc nL tgt L st S) (kf : a = b → AW X cc nL n L st S) : AW X cc nL pc L (.inl b :: .inl a :: st) S := by
  obtain ⟨p, l, e, R, s, m, args, below, meth, c, cells, slots, Q, dC, dI, dA, ad, A⟩ := X
  obtain ⟨hx, hb, hml, hown, hts, hK, hD, hA, hNw, hfr, hlo, hce, hsl⟩ := C
  subst hn
  intro H locs ls hP hS hl
  exact lv_icmp_ne hx hb hd ht (fun h => kt ((mt (am_eq ha hb2).mpr h)) H locs ls hP hS hl) (fun h => kf ((am_eq ha hb2).mp h) H locs ls hP hS hl)
theorem aw_ifne {a off : Int} {tgt : Nat} (C : CX X d own cc nL) (hd : decode cc pc = .ok (.ifCond .ne off, 3)) (ht : (pc : Int) + off = (tgt : Int)) (hn : pc + 3 = n) (ha : rng a) (kt : ¬ a = 0 → AW X cc nL tgt L st S) (kf : a = 0 → AW X cc nL n L st S) : AW X cc nL pc L (.inl a :: st) S := by
  obtain ⟨p, l, e, R, s, m, args, below, meth, c, cells, slots, Q, dC, dI, dA, ad, A⟩ := X
  obtain ⟨hx, hb, hml, hown, hts, hK, hD, hA, hNw, hfr, hlo, hce, hsl⟩ := C
  subst hn
  intro H locs ls hP hS hl
  exact lv_if_ne hx hb hd ht (fun h => kt ((mt (am_eq ha am_r0).mpr h)) H locs ls hP hS hl) (fun h => kf ((am_eq ha am_r0).mp h) H locs ls hP hS hl)
theorem aw_iclt {a b off : Int} {tgt : Nat} (C : CX X d own cc nL) (hd : decode cc pc = .ok (.if_icmp .lt off, 3)) (ht : (pc : Int) + off = (tgt : Int)) (hn : pc + 3 = n) (ha : rng a) (hb2 : rng b) (kt : a < b → AW X cc nL tgt L st S) (kf : b ≤ a → AW X cc nL n L st S) : AW X cc nL pc L (.inl b :: .inl a :: st) S := by
  obtain ⟨p, l, e, R, s, m, args, below, meth, c, cells, slots, Q, dC, dI, dA, ad, A⟩ := X
  obtain ⟨hx, hb, hml, hown, hts, hK, hD, hA, hNw, hfr, hlo, hce, hsl⟩ := C
  subst hn
  intro H locs ls hP hS hl
  exact lv_icmp_lt hx hb hd ht (fun h => kt ((am_lt ha hb2).mp h) H locs ls hP hS hl) (fun h => kf (Int.not_lt.mp (mt (am_lt ha hb2).mpr h)) H locs ls hP hS hl)
theorem aw_iflt {a off : Int} {tgt : Nat} (C : CX X d own cc nL) (hd : decode cc pc = .ok (.ifCond .lt off, 3)) (ht : (pc : Int) + off = (tgt : Int)) (hn : pc + 3 = n) (ha : rng a) (kt : a < 0 → AW X cc nL tgt L st S) (kf : 0 ≤ a → AW X cc nL n L st S) : AW X cc nL pc L (.inl a :: st) S := by
  obtain ⟨p, l, e, R, s, m, args, below, meth, c, cells, slots, Q, dC, dI, dA, ad, A⟩ := X
  obtain ⟨hx, hb, hml, hown, hts, hK, hD, hA, hNw, hfr, hlo, hce, hsl⟩ := C
  subst hn
  intro H locs ls hP hS hl
  exact lv_if_lt hx hb hd ht (fun h => kt ((am_lt ha am_r0).mp h) H locs ls hP hS hl) (fun h => kf (Int.not_lt.mp (mt (am_lt ha am_r0).mpr h)) H locs ls hP hS hl)
theorem aw_icge {a b off : Int} {tgt : Nat} (C : CX X d own cc nL) (hd : decode cc pc = .ok (.if_icmp .ge off, 3)) (ht : (pc : Int) + off = (tgt : Int)) (hn : pc + 3 = n) (ha : rng a) (hb2 : rng b) (kt : b ≤ a → AW X cc nL tgt L st S) (kf : a < b → AW X cc nL n L st S) : AW X cc nL pc L (.inl b :: .inl a :: st) S := by
  obtain ⟨p, l, e, R, s, m, args, below, meth, c, cells, slots, Q, dC, dI, dA, ad, A⟩ := X
  obtain ⟨hx, hb, hml, hown, hts, hK, hD, hA, hNw, hfr, hlo, hce, hsl⟩ := C
  subst hn
  intro H locs ls hP hS hl
  exact lv_icmp_ge hx hb hd ht (fun h => kt ((am_le hb2 ha).mp h) H locs ls hP hS hl) (fun h => kf (Int.not_le.mp (mt (am_le hb2 ha).mpr h)) H locs ls hP hS hl)
theorem aw_ifge {a off : Int} {tgt : Nat} (C : CX X d own cc nL) (hd : decode cc pc = .ok (.ifCond .ge off, 3)) (ht : (pc : Int) + off = (tgt : Int)) (hn : pc + 3 = n) (ha : rng a) (kt : 0 ≤ a → AW X cc nL tgt L st S) (kf : a < 0 → AW X cc nL n L st S) : AW X cc nL pc L (.inl a :: st) S := by
  obtain ⟨p, l, e, R, s, m, args, below, meth, c, cells, slots, Q, dC, dI, dA, ad, A⟩ := X
  obtain ⟨hx, hb, hml, hown, hts, hK, hD, hA, hNw, hfr, hlo, hce, hsl⟩ := C
  subst hn
  intro H locs ls hP hS hl
  exact lv_if_ge hx hb hd ht (fun h => kt ((am_le am_r0 ha).mp h) H locs ls hP hS hl) (fun h => kf (Int.not_le.mp (mt (am_le am_r0 ha).mpr h)) H locs ls hP hS hl)
theorem aw_icgt {a b off : Int} {tgt : Nat} (C : CX X d own cc nL) (hd : decode cc pc = .ok (.if_icmp .gt off, 3)) (ht : (pc : Int) + off = (tgt : Int)) (hn : pc + 3 = n) (ha : rng a) (hb2 : rng b) (kt : b < a → AW X cc nL tgt L st S) (kf : a ≤ b → AW X cc nL n L st S) : AW X cc nL pc L (.inl b :: .inl a :: st) S := by
  obtain ⟨p, l, e, R, s, m, args, below, meth, c, cells, slots, Q, dC, dI, dA, ad, A⟩ := X
  obtain ⟨hx, hb, hml, hown, hts, hK, hD, hA, hNw, hfr, hlo, hce, hsl⟩ := C
  subst hn
  intro H locs ls hP hS hl
  exact lv_icmp_gt hx hb hd ht (fun h => kt ((am_lt hb2 ha).mp h) H locs ls hP hS hl) (fun h => kf (Int.not_lt.mp (mt (am_lt hb2 ha).mpr h)) H locs ls hP hS hl)
theorem aw_ifgt {a off : Int} {tgt : Nat} (C : CX X d own cc nL) (hd : decode cc pc = .ok (.ifCond .gt off, 3)) (ht : (pc : Int) + off = (tgt : Int)) (hn : pc + 3 = n) (ha : rng a) (kt : 0 < a → AW X cc nL tgt L st S) (kf : a ≤ 0 → AW X cc nL n L st S) : AW X cc nL pc L (.inl a :: st) S := by
  obtain ⟨p, l, e, R, s, m, args, below, meth, c, cells, slots, Q, dC, dI, dA, ad, A⟩ := X
  obtain ⟨hx, hb, hml, hown, hts, hK, hD, hA, hNw, hfr, hlo, hce, hsl⟩ := C
  subst hn
  intro H locs ls hP hS hl
  exact lv_if_gt hx hb hd ht (fun h => kt ((am_lt am_r0 ha).mp h) H locs ls hP hS hl) (fun h => kf (Int.not_lt.mp (mt (am_lt am_r0 ha).mpr h)) H locs ls hP hS hl)
theorem aw_icle {a b off : Int} {tgt : Nat} (C : CX X d own cc nL) (hd : decode cc pc = .ok (.if_icmp .le off, 3)) (ht : (pc : Int) + off = (tgt : Int)) (hn : pc + 3 = n) (ha : rng a) (hb2 : rng b) (kt : a ≤ b → AW X cc nL tgt L st S) (kf : b < a → AW X cc nL n L st S) : AW X cc nL pc L (.inl b :: .inl a :: st) S := by
  obtain ⟨p, l, e, R, s, m, args, below, meth, c, cells, slots, Q, dC, dI, dA, ad, A⟩ := X
  obtain ⟨hx, hb, hml, hown, hts, hK, hD, hA, hNw, hfr, hlo, hce, hsl⟩ := C
  subst hn
  intro H locs ls hP hS hl
  exact lv_icmp_le hx hb hd ht (fun h => kt ((am_le ha hb2).mp h) H locs ls hP hS hl) (fun h => kf (Int.not_le.mp (mt (am_le ha hb2).mpr h)) H locs ls hP hS hl)
theorem aw_ifle {a off : Int} {tgt : Nat} (C : CX X d own cc nL) (hd : decode cc pc = .ok (.ifCond .le off, 3)) (ht : (pc : Int) + off = (tgt : Int)) (hn : pc + 3 = n) (ha : rng a) (kt : a ≤ 0 → AW X cc nL tgt L st S) (kf : 0 < a → AW X cc nL n L st S) : AW X cc nL pc L (.inl a :: st) S := by
  obtain ⟨p, l, e, R, s, m, args, below, meth, c, cells, slots, Q, dC, dI, dA, ad, A⟩ := X
  obtain ⟨hx, hb, hml, hown, hts, hK, hD, hA, hNw, hfr, hlo, hce, hsl⟩ := C
  subst hn
  intro H locs ls hP hS hl
  exact lv_if_le hx hb hd ht (fun h => kt ((am_le ha am_r0).mp h) H locs ls hP hS hl) (fun h => kf (Int.not_le.mp (mt (am_le ha am_r0).mpr h)) H locs ls hP hS hl)
theorem aw_iceqT {a b off : Int} {tgt : Nat} (C : CX X d own cc nL) (hd : decode cc pc = .ok (.if_icmp .eq off, 3)) (ht : (pc : Int) + off = (tgt : Int)) (h : a = b) (kt : AW X cc nL tgt L st S) : AW X cc nL pc L (.inl b :: .inl a :: st) S := by
  obtain ⟨p, l, e, R, s, m, args, below, meth, c, cells, slots, Q, dC, dI, dA, ad, A⟩ := X
  obtain ⟨hx, hb, hml, hown, hts, hK, hD, hA, hNw, hfr, hlo, hce, hsl⟩ := C
  intro H locs ls hP hS hl
  exact lv_icmp_eq hx hb hd ht (fun _ => kt H locs ls hP hS hl) (fun q => absurd (congrArg Int32.ofInt h) q)
theorem aw_tableIn {a dflt lo hi off : Int} {offs : Array Int} {len tgt : Nat} (C : CX X d own cc nL) (hd : decode cc pc = .ok (.tableswitch dflt lo hi offs, len)) (ha : rng a) (h1 : lo ≤ a) (h2 : a ≤ hi) (ho : offs[(a - lo).toNat]? = some off) (ht : (pc : Int) + off = (tgt : Int)) (k : AW X cc nL tgt L st S) : AW X cc nL pc L (.inl a :: st) S := by
  obtain ⟨p, l, e, R, s, m, args, below, meth, c, cells, slots, Q, dC, dI, dA, ad, A⟩ := X
  obtain ⟨hx, hb, hml, hown, hts, hK, hD, hA, hNw, hfr, hlo, hce, hsl⟩ := C
  intro H locs ls hP hS hl
  exact lv_tableIn hx hb hd (by rw [am_ti ha]; omega) (by rw [am_ti ha]; omega) (by rw [am_ti ha]; exact ho) ht (k H locs ls hP hS hl)
theorem aw_tableOut {a dflt lo hi : Int} {offs : Array Int} {len tgt : Nat} (C : CX X d own cc nL) (hd : decode cc pc = .ok (.tableswitch dflt lo hi offs, len)) (ha : rng a) (h : a < lo ∨ hi < a) (ht : (pc : Int) + dflt = (tgt : Int)) (k : AW X cc nL tgt L st S) : AW X cc nL pc L (.inl a :: st) S := by
  obtain ⟨p, l, e, R, s, m, args, below, meth, c, cells, slots, Q, dC, dI, dA, ad, A⟩ := X
  obtain ⟨hx, hb, hml, hown, hts, hK, hD, hA, hNw, hfr, hlo, hce, hsl⟩ := C
  intro H locs ls hP hS hl
  exact lv_tableOut hx hb hd (by rw [am_ti ha]; exact h) ht (k H locs ls hP hS hl)
theorem aw_lookup {a dflt off : Int} {ps : Array (Int × Int)} {len tgt : Nat} (C : CX X d own cc nL) (hd : decode cc pc = .ok (.lookupswitch dflt ps, len)) (ha : rng a) (hp : (ps.toList.zip (ps.toList.drop 1)).all (fun (a, next) => a.1 < next.1) = true) (ho : Op.lookupswitch.offset ps.toList dflt a = off) (ht : (pc : Int) + off = (tgt : Int)) (k : AW X cc nL tgt L st S) : AW X cc nL pc L (.inl a :: st) S := by
  obtain ⟨p, l, e, R, s, m, args, below, meth, c, cells, slots, Q, dC, dI, dA, ad, A⟩ := X
  obtain ⟨hx, hb, hml, hown, hts, hK, hD, hA, hNw, hfr, hlo, hce, hsl⟩ := C
  intro H locs ls hP hS hl
  exact lv_lookup hx hb hd hp (by rw [am_ti ha]; exact ho) ht (k H locs ls hP hS hl)
end AM1
end
section
/-! the abstract machine, second part: cells, calls, ends -/
def am_nOk (x : Nat ⊕ (Nat × Nat)) : Bool := match x with
  | .inl _ => true
  | .inr q => Nat.ble q.2 729
theorem am_shL_ok : am_shL.all am_nOk = true := by decide +kernel
theorem am_len {c ty n : Nat} (h : shk c = .inr (ty, n)) : n ≤ 729 := by
  unfold shk at h
  rw [List.getD_eq_getElem?_getD] at h
  cases hc : am_shL[c]? with
  | none => rw [hc] at h; cases h; decide
  | some x =>
    rw [hc] at h
    have h1 := List.all_eq_true.mp am_shL_ok x (List.mem_of_getElem? hc)
    have h2 : x = .inr (ty, n) := h
    subst h2
    exact Nat.le_of_ble_eq_true h1
theorem am_lt_n {c ty n : Nat} (h : shk c = .inr (ty, n)) (hn : 0 < n) : c < 87 := am_lt_87 (by rw [h]; intro q; cases q; omega)
theorem am_lt_o {c ci : Nat} (h : shk c = .inl ci) : c < 87 := am_lt_87 (by rw [h]; intro q; cases q)
theorem am_E_o {dA : Nat → ClassId} {ad : Nat → Nat} {S : Mem} {c ci : Nat} (h : shk c = .inl ci) : am_E dA ad S c = .inr (ci, (List.range (am_N ci)).map (fun j => am_s ad (shf c j) (S c (j : Int)))) := by
  unfold am_E
  rw [h]
theorem am_E_i {dA : Nat → ClassId} {ad : Nat → Nat} {S : Mem} {c ty n : Nat} (h : shk c = .inr (ty, n)) (ht : ty < 2) : am_E dA ad S c = .inl (dA ty, n, .inl (fun i => Int32.ofInt (S c (i : Int)))) := by
  unfold am_E
  rw [h]
  show (Sum.inl (dA ty, n, if ty < 2 then _ else _) : va_E) = _
  rw [if_pos ht]
theorem am_E_r {dA : Nat → ClassId} {ad : Nat → Nat} {S : Mem} {c ty n : Nat} (h : shk c = .inr (ty, n)) (ht : ¬ ty < 2) : am_E dA ad S c = .inl (dA ty, n, .inr (.inr (.inr (.inr (fun i => (shf c i).map ad))))) := by
  unfold am_E
  rw [h]
  show (Sum.inl (dA ty, n, if ty < 2 then _ else _) : va_E) = _
  rw [if_neg ht]
/-- a field's words: the class's number ci, the field's place k -/
def am_FL (own : String) (idx ci k : Nat) : Prop := ∃ (C : String) (T : u_T) (N : Nat), vwCl[ci]? = some (C, T, N) ∧ (∀ w ∈ u_ws C T N, w ∈ am_BW) ∧ k < N ∧ Cond.fieldLink own idx (T k).1 (T k).2.1 (T k).2.2.1 ∈ am_BW
def am_FP (own : String) (idx ci k : Nat) (ty : FieldType) : Prop := ∃ (C : String) (T : u_T) (N : Nat) (ty0 : Nat → FieldType), vwCl[ci]? = some (C, T, N) ∧ (∀ w ∈ u_ws C T N, w ∈ am_BW) ∧ k < N ∧ Cond.fieldLink own idx (T k).1 (T k).2.1 (T k).2.2.1 ∈ am_BW ∧ (T k).2.2.2 = false ∧ parseFieldDescriptor (T k).2.2.1 = some ty ∧ (∀ k, k < N → parseFieldDescriptor (T k).2.2.1 = some (ty0 k)) ∧ ∀ a, a < N → ∀ b, b < N → a ≠ b → (T a).2.1 ≠ (T b).2.1
theorem am_N_of {ci : Nat} {C : String} {T : u_T} {N : Nat} (h : vwCl[ci]? = some (C, T, N)) : am_N ci = N := by
  unfold am_N
  rw [h]
  rfl
section AM2
variable {X : AMX} {d pc n nL : Nat} {own : String} {cc : ByteArray} {L : List (Option AV)} {st : List AV} {S : Mem}
theorem aw_getI {c ci k idx : Nat} {z : Int} (C : CX X d own cc nL) (hd : decode cc pc = .ok (.getfield idx, 3)) (hn : pc + 3 = n) (hF : am_FL own idx ci k) (hs : shk c = .inl ci) (hr : shf c k = none) (hz : z = ((k : Nat) : Int)) (kk : AW X cc nL n L (.inl (S c z) :: st) S) : AW X cc nL pc L (.inr (.inr c) :: st) S := by
  obtain ⟨p, l, e, R, s, m, args, below, meth, c0, cells, slots, Q, dC, dI, dA, ad, A⟩ := X
  obtain ⟨hx, hb, hml, hown, hts, hK, hD, hA, hNw, hfr, hlo, hce, hsl⟩ := C
  subst hn; subst hz
  intro H locs ls hP hS hl
  obtain ⟨Cn, T, N, f1, f2, f3, f4⟩ := hF
  refine va_get (D := (dC, dI)) hx hb hts f2 hown hK hP c ((am_W_at (am_lt_o hs)).trans (by rw [am_E_o hs])) f1 k f3 (hts _ f4) (fun _ h => h) (v := .int (Int32.ofInt (S c (k : Int)))) ?_ hd (kk H locs ls hP hS hl)
  rw [List.getElem?_map, List.getElem?_range (by rw [am_N_of f1]; exact f3)]
  show some (am_s ad (shf c k) _) = _
  rw [hr]
  rfl
theorem aw_getR {c ci k idx t : Nat} (C : CX X d own cc nL) (hd : decode cc pc = .ok (.getfield idx, 3)) (hn : pc + 3 = n) (hF : am_FL own idx ci k) (hs : shk c = .inl ci) (hr : shf c k = some t) (kk : AW X cc nL n L (.inr (.inr t) :: st) S) : AW X cc nL pc L (.inr (.inr c) :: st) S := by
  obtain ⟨p, l, e, R, s, m, args, below, meth, c0, cells, slots, Q, dC, dI, dA, ad, A⟩ := X
  obtain ⟨hx, hb, hml, hown, hts, hK, hD, hA, hNw, hfr, hlo, hce, hsl⟩ := C
  subst hn
  intro H locs ls hP hS hl
  obtain ⟨Cn, T, N, f1, f2, f3, f4⟩ := hF
  refine va_get (D := (dC, dI)) hx hb hts f2 hown hK hP c ((am_W_at (am_lt_o hs)).trans (by rw [am_E_o hs])) f1 k f3 (hts _ f4) (fun _ h => h) (v := .ref (ad t)) ?_ hd (kk H locs ls hP hS hl)
  rw [List.getElem?_map, List.getElem?_range (by rw [am_N_of f1]; exact f3)]
  show some (am_s ad (shf c k) _) = _
  rw [hr]
  rfl
theorem am_E_put {dA : Nat → ClassId} {ad : Nat → Nat} {S : Mem} {c ci k : Nat} {a : Int} (hs : shk c = .inl ci) (hr : shf c k = none) : am_E dA ad (st2 S c ((k : Nat) : Int) a) c = .inr (ci, ((List.range (am_N ci)).map (fun j => am_s ad (shf c j) (S c (j : Int)))).set k (.int (Int32.ofInt a))) := by
  rw [am_E_o hs]
  congr 2
  apply List.ext_getElem?
  intro j
  by_cases hjk : j = k
  · subst hjk
    rw [List.getElem?_map, List.getElem?_set]
    by_cases hj : j < am_N ci
    · rw [List.getElem?_range hj]
      simp [hj, hr, am_s, st2]
    · rw [List.getElem?_eq_none (by simp; omega)]
      simp [hj]
  · rw [List.getElem?_set_ne (Ne.symm hjk), List.getElem?_map, List.getElem?_map]
    by_cases hj : j < am_N ci
    · rw [List.getElem?_range hj]
      simp [st2, show ¬ ((j : Int) = (k : Int)) by omega]
    · rw [List.getElem?_eq_none (by simp; omega)]
      rfl
theorem aw_put {c ci k idx : Nat} {z a : Int} {ty : FieldType} (C : CX X d own cc nL) (hd : decode cc pc = .ok (.putfield idx, 3)) (hn : pc + 3 = n) (hF : am_FP own idx ci k ty) (hs : shk c = .inl ci) (hr : shf c k = none) (hz : z = ((k : Nat) : Int)) (hty : ty = .int ∨ (ty = .boolean ∧ (a = 0 ∨ a = 1))) (kk : AW X cc nL n L st (st2 S c z a)) : AW X cc nL pc L (.inl a :: .inr (.inr c) :: st) S := by
  obtain ⟨p, l, e, R, s, m, args, below, meth, c0, cells, slots, Q, dC, dI, dA, ad, A⟩ := X
  obtain ⟨hx, hb, hml, hown, hts, hK, hD, hA, hNw, hfr, hlo, hce, hsl⟩ := C
  subst hn; subst hz
  intro H locs ls hP hS hl
  obtain ⟨Cn, T, N, ty0, f1, f2, f3, f4, f5, f6, f7, f8⟩ := hF
  refine va_put (D := (dC, dI)) (v := .int (Int32.ofInt a)) hx hb hts f2 ty0 f7 f8 hown hK hP (hD S) hS c ((am_W_at (am_lt_o hs)).trans (by rw [am_E_o hs])) f1 k f3 (hts _ f4) (fun _ h => h) f5 f6 ?_ ?_ (by simp [am_N_of f1, f3]) hd (fun H1 locs1 hP1 hD1 hS1 => kk H1 locs1 ls ?_ hS1 hl)
  · rcases hty with rfl | ⟨rfl, rfl | rfl⟩ <;> rfl
  · rcases hty with rfl | ⟨rfl, rfl | rfl⟩ <;> rfl
  · rw [am_W_set (am_E_put hs hr) st2_o] at hP1
    exact hP1
theorem aw_iald {c len : Nat} {i : Int} (C : CX X d own cc nL) (hd : decode cc pc = .ok (.iaload, 1)) (hn : pc + 1 = n) (hs : shk c = .inr (0, len)) (h0 : 0 ≤ i) (h1 : i < len) (kk : AW X cc nL n L (.inl (S c i) :: st) S) : AW X cc nL pc L (.inl i :: .inr (.inr c) :: st) S := by
  obtain ⟨p, l, e, R, s, m, args, below, meth, c0, cells, slots, Q, dC, dI, dA, ad, A⟩ := X
  obtain ⟨hx, hb, hml, hown, hts, hK, hD, hA, hNw, hfr, hlo, hce, hsl⟩ := C
  subst hn
  intro H locs ls hP hS hl
  have hlen := am_len hs
  refine va_iald (D := (dC, dI)) hx hb hK hP c 0 ((am_W_at (am_lt_n hs (by omega))).trans (by rw [am_E_i hs (by decide)])) rfl (am_in h0 h1 (by omega)) hd ?_
  rw [am_cl h0 (by omega), Int.toNat_of_nonneg h0]
  exact kk H locs ls hP hS hl
theorem aw_zald {c len : Nat} {i : Int} (C : CX X d own cc nL) (hd : decode cc pc = .ok (.baload, 1)) (hn : pc + 1 = n) (hs : shk c = .inr (1, len)) (h0 : 0 ≤ i) (h1 : i < len) (kk : AW X cc nL n L (.inl (S c i) :: st) S) : AW X cc nL pc L (.inl i :: .inr (.inr c) :: st) S := by
  obtain ⟨p, l, e, R, s, m, args, below, meth, c0, cells, slots, Q, dC, dI, dA, ad, A⟩ := X
  obtain ⟨hx, hb, hml, hown, hts, hK, hD, hA, hNw, hfr, hlo, hce, hsl⟩ := C
  subst hn
  intro H locs ls hP hS hl
  have hlen := am_len hs
  refine va_zald (D := (dC, dI)) hx hb hK hP c 1 ((am_W_at (am_lt_n hs (by omega))).trans (by rw [am_E_i hs (by decide)])) rfl (am_in h0 h1 (by omega)) hd ?_
  rw [am_cl h0 (by omega), Int.toNat_of_nonneg h0]
  exact kk H locs ls hP hS hl
theorem am_E_st {dA : Nat → ClassId} {ad : Nat → Nat} {S : Mem} {c ty len : Nat} {i a : Int} (hs : shk c = .inr (ty, len)) (ht : ty < 2) (h0 : 0 ≤ i) : am_E dA ad (st2 S c i a) c = .inl (dA ty, len, .inl (upd (fun i => Int32.ofInt (S c (i : Int))) i.toNat (Int32.ofInt a))) := by
  rw [am_E_i hs ht]
  congr 3
  congr 1
  funext j
  unfold upd st2
  by_cases hj : (j : Int) = i
  · rw [if_pos ⟨rfl, hj⟩, if_pos (by omega)]
  · rw [if_neg (fun q => hj q.2), if_neg (by omega)]
theorem aw_iast {c len : Nat} {i a : Int} (C : CX X d own cc nL) (hd : decode cc pc = .ok (.iastore, 1)) (hn : pc + 1 = n) (hs : shk c = .inr (0, len)) (h0 : 0 ≤ i) (h1 : i < len) (kk : AW X cc nL n L st (st2 S c i a)) : AW X cc nL pc L (.inl a :: .inl i :: .inr (.inr c) :: st) S := by
  obtain ⟨p, l, e, R, s, m, args, below, meth, c0, cells, slots, Q, dC, dI, dA, ad, A⟩ := X
  obtain ⟨hx, hb, hml, hown, hts, hK, hD, hA, hNw, hfr, hlo, hce, hsl⟩ := C
  subst hn
  intro H locs ls hP hS hl
  have hlen := am_len hs
  refine va_iast (D := (dC, dI)) hx hb hK hP (hD S) hS c 0 ((am_W_at (am_lt_n hs (by omega))).trans (by rw [am_E_i hs (by decide)])) rfl (am_in h0 h1 (by omega)) hd (fun H1 locs1 hP1 hD1 hS1 => kk H1 locs1 ls ?_ hS1 hl)
  rw [am_cl h0 (by omega), am_W_set (am_E_st hs (by decide) h0) st2_o] at hP1
  exact hP1
theorem aw_zast {c len : Nat} {i a : Int} (C : CX X d own cc nL) (hd : decode cc pc = .ok (.bastore, 1)) (hn : pc + 1 = n) (hs : shk c = .inr (1, len)) (h0 : 0 ≤ i) (h1 : i < len) (ha : a = 0 ∨ a = 1) (kk : AW X cc nL n L st (st2 S c i a)) : AW X cc nL pc L (.inl a :: .inl i :: .inr (.inr c) :: st) S := by
  obtain ⟨p, l, e, R, s, m, args, below, meth, c0, cells, slots, Q, dC, dI, dA, ad, A⟩ := X
  obtain ⟨hx, hb, hml, hown, hts, hK, hD, hA, hNw, hfr, hlo, hce, hsl⟩ := C
  subst hn
  intro H locs ls hP hS hl
  have hlen := am_len hs
  have hna : vp_nar .boolean (Int32.ofInt a) = Int32.ofInt a := by rcases ha with rfl | rfl <;> rfl
  refine va_zast (D := (dC, dI)) hx hb hK hP (hD S) hS c 1 ((am_W_at (am_lt_n hs (by omega))).trans (by rw [am_E_i hs (by decide)])) rfl (am_in h0 h1 (by omega)) hd (fun H1 locs1 hP1 hD1 hS1 => kk H1 locs1 ls ?_ hS1 hl)
  rw [hna, am_cl h0 (by omega), am_W_set (am_E_st hs (by decide) h0) st2_o] at hP1
  exact hP1
theorem aw_aald {c ty len j t : Nat} {i : Int} (C : CX X d own cc nL) (hd : decode cc pc = .ok (.aaload, 1)) (hn : pc + 1 = n) (hs : shk c = .inr (ty, len)) (hty : ty = 2 ∨ ty = 3) (hi : i = ((j : Nat) : Int)) (hj : j < len) (hr : shf c j = some t) (kk : AW X cc nL n L (.inr (.inr t) :: st) S) : AW X cc nL pc L (.inl i :: .inr (.inr c) :: st) S := by
  obtain ⟨p, l, e, R, s, m, args, below, meth, c0, cells, slots, Q, dC, dI, dA, ad, A⟩ := X
  obtain ⟨hx, hb, hml, hown, hts, hK, hD, hA, hNw, hfr, hlo, hce, hsl⟩ := C
  subst hn; subst hi
  intro H locs ls hP hS hl
  have hlen := am_len hs
  have hin := am_in (a := (j : Int)) (n := len) (by omega) (by omega) (by omega)
  have hcl : (Int32.ofInt (j : Int)).toNatClampNeg = j := by rw [am_cl (by omega) (by omega)]; omega
  have hat := (am_W_at (dA := dA) (ad := ad) (S := S) (am_lt_n hs (by omega))).trans (by rw [am_E_r hs (by omega)])
  have hk := kk H locs ls hP hS hl
  rcases hty with rfl | rfl
  · refine va_aldq (D := (dC, dI)) hx hb hK hP c 2 hat rfl hin hd ?_
    rw [hcl]
    show W p l e R s m args below meth c0 H locs cells slots Q (F0 m (pc + 1) ls (va_rf ((shf c j).map ad) :: _))
    rw [hr]
    exact hk
  · refine W.aald (v := va_rf ((shf c j).map ad)) (ty := .array .int) hx hb (hP c _ hat) ((hK.2 3 _ rfl).1 len (fun j => va_rf ((shf c j).map ad))) rfl (fun q => by cases q) (by show ¬ (_ ∨ (arrV _ _ _).slots.size ≤ _); rw [arrV_size]; exact hin) (by show (arrV _ _ _).slots[_]? = _; rw [hcl, arrV_read _ _ hj]) rfl rfl hd ?_
    rw [hr]
    exact hk
theorem aw_alen {c ty len : Nat} {z : Int} (C : CX X d own cc nL) (hd : decode cc pc = .ok (.arraylength, 1)) (hn : pc + 1 = n) (hs : shk c = .inr (ty, len)) (hl0 : 0 < len) (ht : ty < 2) (hz : z = ((len : Nat) : Int)) (kk : AW X cc nL n L (.inl z :: st) S) : AW X cc nL pc L (.inr (.inr c) :: st) S := by
  obtain ⟨p, l, e, R, s, m, args, below, meth, c0, cells, slots, Q, dC, dI, dA, ad, A⟩ := X
  obtain ⟨hx, hb, hml, hown, hts, hK, hD, hA, hNw, hfr, hlo, hce, hsl⟩ := C
  subst hn; subst hz
  intro H locs ls hP hS hl
  have h2 : ty = 0 ∨ ty = 1 := by omega
  have hv : Int32.ofNat len = Int32.ofInt (len : Int) := Int32.ofInt_eq_ofNat.symm
  rcases h2 with rfl | rfl
  · exact va_alen (D := (dC, dI)) hx hb hK hP c 0 ((am_W_at (am_lt_n hs hl0)).trans (by rw [am_E_i hs ht])) (ty := .int) rfl hv hd (kk H locs ls hP hS hl)
  · exact va_alen (D := (dC, dI)) hx hb hK hP c 1 ((am_W_at (am_lt_n hs hl0)).trans (by rw [am_E_i hs ht])) (ty := .boolean) rfl hv hd (kk H locs ls hP hS hl)
theorem am_max {a b : Int} (ha : rng a) (hb : rng b) : (if Int32.ofInt a < Int32.ofInt b then Int32.ofInt b else Int32.ofInt a) = Int32.ofInt (max a b) := by
  by_cases h : a < b
  · rw [if_pos ((am_lt ha hb).mpr h), Int.max_eq_right (Int.le_of_lt h)]
  · rw [if_neg (mt (am_lt ha hb).mp h), Int.max_eq_left (Int.not_lt.mp h)]
theorem am_min {a b : Int} (ha : rng a) (hb : rng b) : (if Int32.ofInt b < Int32.ofInt a then Int32.ofInt b else Int32.ofInt a) = Int32.ofInt (min a b) := by
  by_cases h : b < a
  · rw [if_pos ((am_lt hb ha).mpr h), Int.min_eq_right (Int.le_of_lt h)]
  · rw [if_neg (mt (am_lt hb ha).mp h), Int.min_eq_left (Int.not_lt.mp h)]
theorem aw_mmax {idx : Nat} {a b : Int} (C : CX X d own cc nL) (hd : decode cc pc = .ok (.invokestatic idx, 3)) (hn : pc + 3 = n) (hlk : Cond.methodLink own idx Lib.Math.max.name ∈ am_BW) (h1 : Cond.static Lib.Math.max.name ∈ am_BW) (h2 : Cond.initialized "java/lang/Math" ∈ am_BW) (h3 : Cond.code Lib.Math.max.name Lib.Math.max.code 2 (some .int) ∈ am_BW) (hdd : 0 < d) (hroom : (st.map am_cat).sum ≤ 8) (ha : rng a) (hb2 : rng b) (kk : AW X cc nL n L (.inl (max a b) :: st) S) : AW X cc nL pc L (.inl b :: .inl a :: st) S := by
  obtain ⟨p, l, e, R, s, m, args, below, meth, c0, cells, slots, Q, dC, dI, dA, ad, A⟩ := X
  obtain ⟨hx, hb, hml, hown, hts, hK, hD, hA, hNw, hfr, hlo, hce, hsl⟩ := C
  subst hn
  intro H locs ls hP hS hl
  refine va_mmax hx hb (hml.trans hl.1.1.symm) hown (hts _ hlk) (hts _ h1) (hts _ h2) (hts _ h3) (by omega) (by rw [am_cats]; omega) hce hsl hd ?_
  rw [am_max ha hb2]
  exact kk H locs ls hP hS hl
theorem aw_mmin {idx : Nat} {a b : Int} (C : CX X d own cc nL) (hd : decode cc pc = .ok (.invokestatic idx, 3)) (hn : pc + 3 = n) (hlk : Cond.methodLink own idx Lib.Math.min.name ∈ am_BW) (h1 : Cond.static Lib.Math.min.name ∈ am_BW) (h2 : Cond.initialized "java/lang/Math" ∈ am_BW) (h3 : Cond.code Lib.Math.min.name Lib.Math.min.code 2 (some .int) ∈ am_BW) (hdd : 0 < d) (hroom : (st.map am_cat).sum ≤ 8) (ha : rng a) (hb2 : rng b) (kk : AW X cc nL n L (.inl (min a b) :: st) S) : AW X cc nL pc L (.inl b :: .inl a :: st) S := by
  obtain ⟨p, l, e, R, s, m, args, below, meth, c0, cells, slots, Q, dC, dI, dA, ad, A⟩ := X
  obtain ⟨hx, hb, hml, hown, hts, hK, hD, hA, hNw, hfr, hlo, hce, hsl⟩ := C
  subst hn
  intro H locs ls hP hS hl
  refine va_mmin hx hb (hml.trans hl.1.1.symm) hown (hts _ hlk) (hts _ h1) (hts _ h2) (hts _ h3) (by omega) (by rw [am_cats]; omega) hce hsl hd ?_
  rw [am_min ha hb2]
  exact kk H locs ls hP hS hl
/-- a stretch of one row goes into another -/
def cp2 (S : Mem) (c0 : Nat) (sp : Int) (c1 : Nat) (dp k : Int) : Mem := fun c' i' => if c' = c1 ∧ dp ≤ i' ∧ i' < dp + k then S c0 (sp + (i' - dp)) else S c' i'
theorem am_E_cp {dA : Nat → ClassId} {ad : Nat → Nat} {S : Mem} {c0 c1 l0 l1 : Nat} {sp dp k : Int} (hs0 : shk c0 = .inr (0, l0)) (hs1 : shk c1 = .inr (0, l1)) (h1 : 0 ≤ sp) (h2 : 0 ≤ dp) (h3 : 0 ≤ k) : am_E dA ad (cp2 S c0 sp c1 dp k) c1 = .inl (dA 0, l1, .inl (va_cpy (fun i => Int32.ofInt (S c0 (i : Int))) (fun i => Int32.ofInt (S c1 (i : Int))) sp.toNat dp.toNat k.toNat)) := by
  rw [am_E_i hs1 (by decide)]
  congr 3
  congr 1
  funext j
  unfold va_cpy cp2
  by_cases hj : dp ≤ (j : Int) ∧ (j : Int) < dp + k
  · rw [if_pos ⟨rfl, hj⟩, if_pos (by omega)]
    congr 2
    omega
  · rw [if_neg (fun q => hj q.2), if_neg (by omega)]
theorem aw_copy {idx c0 c1 l0 l1 : Nat} {sp dp k : Int} (C : CX X d own cc nL) (hd : decode cc pc = .ok (.invokestatic idx, 3)) (hn : pc + 3 = n) (hlk : Cond.methodLink own idx arraycopyName ∈ am_BW) (g1 : Cond.native arraycopyName ∈ am_BW) (g2 : Cond.static arraycopyName ∈ am_BW) (g3 : Cond.initialized "java/lang/System" ∈ am_BW) (hdd : 0 < d) (hroom : (st.map am_cat).sum ≤ 8) (hs0 : shk c0 = .inr (0, l0)) (hs1 : shk c1 = .inr (0, l1)) (hl0 : 0 < l0) (hl1 : 0 < l1) (h1 : 0 ≤ sp) (h2 : 0 ≤ dp) (h3 : 0 ≤ k) (h4 : sp + k ≤ l0) (h5 : dp + k ≤ l1) (kk : AW X cc nL n L st (cp2 S c0 sp c1 dp k)) : AW X cc nL pc L (.inl k :: .inl dp :: .inr (.inr c1) :: .inl sp :: .inr (.inr c0) :: st) S := by
  obtain ⟨p, l, e, R, s, m, args, below, meth, cx, cells, slots, Q, dC, dI, dA, ad, A⟩ := X
  obtain ⟨hx, hb, hml, hown, hts, hK, hD, hA, hNw, hfr, hlo, hce, hsl⟩ := C
  subst hn
  intro H locs ls hP hS hl
  have e0 := am_len hs0
  have e1 := am_len hs1
  have hnw : nativeFrameWords "java/lang/System" "arraycopy" 5 + 11 ≤ 50 := by decide
  have z0 : ∀ q : Int, 0 ≤ q → q ≤ 2147483647 → ¬ Int32.ofInt q < 0 := fun q a b => by rw [← am_z, am_lt ⟨by omega, b⟩ am_r0]; omega
  refine va_copyi (D := (dC, dI)) hx hb (hml.trans hl.1.1.symm) hown (hts _ hlk) (hts _ g1) (hts _ g2) (hts _ g3) hK hP (hD S) hS c0 c1 0 0 ((am_W_at (am_lt_n hs0 hl0)).trans (by rw [am_E_i hs0 (by decide)])) ((am_W_at (am_lt_n hs1 hl1)).trans (by rw [am_E_i hs1 (by decide)])) rfl rfl rfl (z0 sp h1 (by omega)) (z0 dp h2 (by omega)) (z0 k h3 (by omega)) (by rw [am_cl h1 (by omega), am_cl h3 (by omega)]; omega) (by rw [am_cl h2 (by omega), am_cl h3 (by omega)]; omega) (fun _ _ => rfl) (by omega) (by rw [am_cats]; omega) hd (fun H1 locs1 hP1 hD1 hS1 => kk H1 locs1 ls ?_ hS1 hl)
  rw [am_cl h1 (by omega), am_cl h2 (by omega), am_cl h3 (by omega), am_W_set (am_E_cp hs0 hs1 h1 h2 h3) (fun c' h => funext fun i' => if_neg (fun q => h q.1))] at hP1
  exact hP1
end AM2
end
section
/-! the abstract machine, third part: contracts, ends, calls -/
def am_R (d : Nat) : Room := { frames := d, cells := 0, slots := 0, locals := 60 * d }
def am_Pre (dC : Nat → ClassId) (dI : Nat → Nat → Nat) (dA : Nat → ClassId) (ad : Nat → Nat) (sz : Nat) (S : Mem) (U : State) : Prop := U.heap.size = sz ∧ va_P (dC, dI) vwCl (am_W dA ad S) U.heap ∧ va_K (dC, dI) vwCl (am_ty dA) U ∧ va_D (fun _ => True) (am_W dA ad S) ∧ va_Nw am_NW U
def AMi (d : Nat) (y : MethodName) (cc : ByteArray) (nL : Nat) (ret : Option FieldType) (vs : List AV) (S : Mem) (post : Int → Mem → Prop) : Prop :=
  ∀ (l : Launch) (dC : Nat → ClassId) (dI : Nat → Nat → Nat) (dA : Nat → ClassId) (ad : Nat → Nat) (sz : Nat), Met l y (.code y cc nL ret :: am_BW) (am_R d) (va_Pc (vs.map (am_v ad)) (am_Pre dC dI dA ad sz S)) (va_Qi (fun (r : Int32) (u : Int × Mem) => r = Int32.ofInt u.1 ∧ post u.1 u.2) (fun u t => va_P (dC, dI) vwCl (am_W dA ad u.2) t.heap) (va_A (am_W dA ad S) sz)) 0 0 (va_A (am_W dA ad S) sz)
def AMl (d : Nat) (y : MethodName) (cc : ByteArray) (nL : Nat) (ret : Option FieldType) (vs : List AV) (S : Mem) (post : Int → Mem → Prop) : Prop :=
  ∀ (l : Launch) (dC : Nat → ClassId) (dI : Nat → Nat → Nat) (dA : Nat → ClassId) (ad : Nat → Nat) (sz : Nat), Met l y (.code y cc nL ret :: am_BW) (am_R d) (va_Pc (vs.map (am_v ad)) (am_Pre dC dI dA ad sz S)) (va_Ql (fun (r : Int64) (u : Int × Mem) => r = Int64.ofInt u.1 ∧ post u.1 u.2) (fun u t => va_P (dC, dI) vwCl (am_W dA ad u.2) t.heap) (va_A (am_W dA ad S) sz)) 0 0 (va_A (am_W dA ad S) sz)
def AMv (d : Nat) (y : MethodName) (cc : ByteArray) (nL : Nat) (vs : List AV) (S : Mem) (post : Mem → Prop) : Prop :=
  ∀ (l : Launch) (dC : Nat → ClassId) (dI : Nat → Nat → Nat) (dA : Nat → ClassId) (ad : Nat → Nat) (sz : Nat), Met l y (.code y cc nL none :: am_BW) (am_R d) (va_Pc (vs.map (am_v ad)) (am_Pre dC dI dA ad sz S)) (va_Qv (fun (u : Mem) => post u) (fun u t => va_P (dC, dI) vwCl (am_W dA ad u) t.heap) (va_A (am_W dA ad S) sz)) 0 0 (va_A (am_W dA ad S) sz)
/-- the locals of a method's start -/
def am_ent (vs : List AV) : List (Option AV) := vs.flatMap fun v => if am_cat v = 2 then [some v, none] else [some v]
theorem am_ent_cons (v : AV) (vs : List AV) : am_ent (v :: vs) = (if am_cat v = 2 then [some v, none] else [some v]) ++ am_ent vs := rfl
theorem am_ent_args (ad : Nat → Nat) : ∀ (vs : List AV) (o i : Nat) (v : AV), (am_ent vs)[i]? = some (some v) → (o + i, am_v ad v) ∈ lv_args o (vs.map (am_v ad))
  | [], o, i, v, h => by simp [am_ent] at h
  | u :: vs, o, i, v, h => by
    rw [am_ent_cons] at h
    rw [List.map_cons, lv_args, am_cat_eq]
    by_cases hc : am_cat u = 2
    · rw [if_pos hc] at h ⊢
      match i, h with
      | 0, h => cases h; exact List.mem_cons_self
      | 1, h => cases h
      | i + 2, h => exact List.mem_cons_of_mem _ (by rw [show o + (i + 2) = (o + 2) + i by omega]; exact am_ent_args ad vs (o + 2) i v h)
    · rw [if_neg hc] at h ⊢
      match i, h with
      | 0, h => cases h; exact List.mem_cons_self
      | i + 1, h => exact List.mem_cons_of_mem _ (by rw [show o + (i + 1) = (o + 1) + i by omega]; exact am_ent_args ad vs (o + 1) i v h)
theorem am_sl_len (ad : Nat → Nat) : ∀ vs : List AV, (lg_sl (vs.map (am_v ad))).length = (am_ent vs).length
  | [] => rfl
  | u :: vs => by
    have ih := am_sl_len ad vs
    rw [am_ent_cons, List.length_append, ← ih, List.map_cons]
    unfold lg_sl
    rw [List.flatMap_cons, List.length_append, am_cat_eq]
    by_cases hc : am_cat u = 2
    · rw [if_pos hc, if_pos hc]; rfl
    · rw [if_neg hc, if_neg hc]; rfl
theorem am_D_all {dA : Nat → ClassId} {ad : Nat → Nat} {S0 : Mem} {sz : Nat} (h : va_D (fun _ => True) (am_W dA ad S0)) : ∀ S, va_D (va_A (am_W dA ad S0) sz) (am_W dA ad S) := by
  intro S
  refine ⟨fun i j p q hi hj hpq => ?_, fun k q hk => ?_⟩
  · obtain ⟨li, rfl⟩ := am_W_some hi
    obtain ⟨lj, rfl⟩ := am_W_some hj
    exact h.1 i j _ _ (am_W_at li) (am_W_at lj) hpq
  · obtain ⟨lk, rfl⟩ := am_W_some hk
    exact Or.inl ⟨k, _, am_W_at lk⟩
theorem am_body {l : Launch} {d : Nat} {y : MethodName} {cc : ByteArray} {nL : Nat} {ret : Option FieldType} {vs : List AV} {S : Mem} {dC : Nat → ClassId} {dI : Nat → Nat → Nat} {dA : Nat → ClassId} {ad : Nat → Nat} {sz : Nat} {Qc : Array Value → State → Outcome → State → Prop} {L : List (Option AV)} (hy : plainName y.cls = true) (hL : am_ent vs ++ List.replicate (nL - (am_ent vs).length) none = L) (hlen : (am_ent vs).length ≤ nL)
    (k : ∀ X : AMX, CX X d y.cls cc nL → (∀ (pc : Nat) (L : List (Option AV)) (st : List AV) (S' : Mem) (v : Option Value), st.map (am_v ad) = v.toList → (∀ (s t : State) (args : Array Value) (H : Heap) (locs : List Loc), va_P (dC, dI) vwCl (am_W dA ad S') H → va_S (va_A (am_W dA ad S) sz) s.heap H locs → t.heap = H → Qc args s (.returned v) t) → ((∃ i : Int32, v = some (.int i) ∧ ∃ ty, ret = some ty ∧ narrow ty (.int i) = .int i ∧ decode cc pc = .ok (.ireturn, 1)) ∨ (∃ i : Int64, v = some (.long i) ∧ ret = some .long ∧ decode cc pc = .ok (.lreturn, 1)) ∨ (v = none ∧ ret = none ∧ decode cc pc = .ok (.return_, 1))) → AW X cc nL pc L st S') → AW X cc nL 0 L [] S) :
    Met l y (.code y cc nL ret :: am_BW) (am_R d) (va_Pc (vs.map (am_v ad)) (am_Pre dC dI dA ad sz S)) Qc 0 0 (va_A (am_W dA ad S) sz) := by
  refine Met.ofW (cc := cc) (maxL := nL) (ret := ret) hy rfl ?_
  intro p e s m args below meth c s₁ B hml hv
  obtain ⟨rfl, hsz, hP, hK, hD0, hNw⟩ := hv
  have hts := atoms_spec (ws := .code y cc nL ret :: am_BW) B.pre
  have hS : va_S (va_A (am_W dA ad S) sz) s.heap s.heap [] := va_S.rf
  have hl := lv_entry (vs.map (am_v ad)) (n := nL) (by rw [am_sl_len]; exact hlen)
  rw [lg_entry_eq]
  generalize (lg_sl (vs.map (am_v ad)) ++ List.replicate (nL - (lg_sl (vs.map (am_v ad))).length) Slot.unset).toArray = ls at hl ⊢
  have hC : CX (p, l, e, (headSpec (.code y cc nL ret :: am_BW) (am_R d)).room, s, m, (vs.map (am_v ad)).toArray, below, meth, c, 0, 0, MQ below Qc (vs.map (am_v ad)).toArray s 0 0 (va_A (am_W dA ad S) sz), dC, dI, dA, ad, va_A (am_W dA ad S) sz) d y.cls cc nL :=
    ⟨B.exec, B.bytes, hml, findClass_of_methodNamed B.named, fun w hw => hts w (List.mem_cons_of_mem _ hw), hK, am_D_all hD0, fun q hq => Or.inr (by rw [← hsz]; exact hq), hNw, Nat.le_refl _, Nat.le_refl _, Nat.zero_le _, Nat.zero_le _⟩
  refine k _ hC (fun pc L' st S' v hst hQ hcase => ?_) s.heap [] ls hP hS ⟨⟨hl.1, hl.2.1, fun q hq => by cases hq⟩, fun i v hv => ?_⟩
  · intro H locs ls' hP' hS' hl'
    show W p l e _ s m _ below meth c H locs 0 0 _ (F0 m pc ls' (st.map (am_v ad)))
    rw [hst]
    rcases hcase with ⟨i, rfl, ty, hr, hna, hd⟩ | ⟨i, rfl, hr, hd⟩ | ⟨rfl, hr, hd⟩
    · exact W.zret B.exec B.bytes (B.returns.trans hr) hna (fun t ht _ => hQ s t _ H locs hP' hS' ht) hS'.2.2 hd B.notSynchronized
    · exact W.lret B.exec B.bytes (B.returns.trans hr) (fun t ht _ => hQ s t _ H locs hP' hS' ht) hS'.2.2 hd B.notSynchronized
    · exact W.vret B.exec B.bytes (B.returns.trans hr) (fun t ht _ => hQ s t _ H locs hP' hS' ht) hS'.2.2 hd B.notSynchronized
  · rw [← hL] at hv
    have hi : i < (am_ent vs).length := by
      rcases Nat.lt_or_ge i (am_ent vs).length with q | q
      · exact q
      · rw [List.getElem?_append_right q] at hv
        have := List.eq_of_mem_replicate (List.mem_of_getElem? hv)
        cases this
    rw [List.getElem?_append_left hi] at hv
    have := hl.2.2 _ (am_ent_args ad vs 0 i v hv)
    simpa using this
theorem am_nar {z : Int} {ret : Option FieldType} {ty : FieldType} (h : ret = some .int ∨ (ret = some .boolean ∧ (z = 0 ∨ z = 1))) (hr : ret = some ty) : narrow ty (.int (Int32.ofInt z)) = .int (Int32.ofInt z) := by
  rcases h with h | ⟨h, h2 | h2⟩
  · rw [h] at hr; cases hr; rfl
  · rw [h] at hr; cases hr; subst h2; rfl
  · rw [h] at hr; cases hr; subst h2; rfl
/-- a method that answers an int (or a boolean) -/
theorem ami_intro {d : Nat} {y : MethodName} {cc : ByteArray} {nL : Nat} {ret : Option FieldType} {vs : List AV} {S : Mem} {post : Int → Mem → Prop} {L : List (Option AV)} (hy : plainName y.cls = true) (hret : ret = some .int ∨ ret = some .boolean) (hL : am_ent vs ++ List.replicate (nL - (am_ent vs).length) none = L) (hlen : (am_ent vs).length ≤ nL)
    (k : ∀ X : AMX, CX X d y.cls cc nL → (∀ (pc : Nat) (L : List (Option AV)) (z : Int) (S' : Mem), decode cc pc = .ok (.ireturn, 1) → (ret = some .int ∨ (ret = some .boolean ∧ (z = 0 ∨ z = 1))) → post z S' → AW X cc nL pc L [.inl z] S') → AW X cc nL 0 L [] S) : AMi d y cc nL ret vs S post := by
  intro l dC dI dA ad sz
  refine am_body hy hL hlen (fun X C hq => k X C (fun pc L z S' hd hz hp => hq pc L [.inl z] S' (some (.int (Int32.ofInt z))) rfl (fun s t args H locs hP hS ht => ⟨⟨Int32.ofInt z, (z, S'), rfl, ⟨rfl, hp⟩, by cases ht; exact hP⟩, hS.F ht⟩) (Or.inl ⟨_, rfl, ?_⟩)))
  rcases hret with h | h
  · exact ⟨.int, h, am_nar hz h, hd⟩
  · exact ⟨.boolean, h, am_nar hz h, hd⟩
theorem aml_intro {d : Nat} {y : MethodName} {cc : ByteArray} {nL : Nat} {vs : List AV} {S : Mem} {post : Int → Mem → Prop} {L : List (Option AV)} (hy : plainName y.cls = true) (hL : am_ent vs ++ List.replicate (nL - (am_ent vs).length) none = L) (hlen : (am_ent vs).length ≤ nL)
    (k : ∀ X : AMX, CX X d y.cls cc nL → (∀ (pc : Nat) (L : List (Option AV)) (z : Int) (S' : Mem), decode cc pc = .ok (.lreturn, 1) → post z S' → AW X cc nL pc L [.inr (.inl z)] S') → AW X cc nL 0 L [] S) : AMl d y cc nL (some .long) vs S post := by
  intro l dC dI dA ad sz
  exact am_body hy hL hlen (fun X C hq => k X C (fun pc L z S' hd hp => hq pc L [.inr (.inl z)] S' (some (.long (Int64.ofInt z))) rfl (fun s t args H locs hP hS ht => ⟨⟨Int64.ofInt z, (z, S'), rfl, ⟨rfl, hp⟩, by cases ht; exact hP⟩, hS.F ht⟩) (Or.inr (Or.inl ⟨_, rfl, rfl, hd⟩))))
theorem amv_intro {d : Nat} {y : MethodName} {cc : ByteArray} {nL : Nat} {vs : List AV} {S : Mem} {post : Mem → Prop} {L : List (Option AV)} (hy : plainName y.cls = true) (hL : am_ent vs ++ List.replicate (nL - (am_ent vs).length) none = L) (hlen : (am_ent vs).length ≤ nL)
    (k : ∀ X : AMX, CX X d y.cls cc nL → (∀ (pc : Nat) (L : List (Option AV)) (S' : Mem), decode cc pc = .ok (.return_, 1) → post S' → AW X cc nL pc L [] S') → AW X cc nL 0 L [] S) : AMv d y cc nL vs S post := by
  intro l dC dI dA ad sz
  exact am_body hy hL hlen (fun X C hq => k X C (fun pc L S' hd hp => hq pc L [] S' none rfl (fun s t args H locs hP hS ht => ⟨⟨S', rfl, hp, by cases ht; exact hP⟩, hS.F ht⟩) (Or.inr (Or.inr ⟨rfl, rfl, hd⟩))))
/-- a method's own words -/
def am_MB (y : MethodName) (cy : ByteArray) (nLy : Nat) (ret : Option FieldType) (np : Nat) : Prop := Cond.code y cy nLy ret ∈ am_BW ∧ Cond.initialized y.cls ∈ am_BW ∧ (y.cls ≠ "java/lang/invoke/MethodHandle" ∧ y.cls ≠ "java/lang/invoke/VarHandle" ∧ (parseMethodDescriptor y.desc).map (fun d => d.parameters.length) = some np) ∧ nLy ≤ 41
def am_MV (y : MethodName) (cy : ByteArray) (nLy : Nat) (ret : Option FieldType) (np : Nat) : Prop := am_MB y cy nLy ret np ∧ Cond.instanceMethod y ∈ am_BW ∧ Cond.selects y.cls y y ∈ am_BW
def am_MS (y : MethodName) (cy : ByteArray) (nLy : Nat) (ret : Option FieldType) (np : Nat) : Prop := am_MB y cy nLy ret np ∧ Cond.static y ∈ am_BW
theorem am_good_code {y : MethodName} {cy : ByteArray} {nLy : Nat} {ret : Option FieldType} (h : Cond.code y cy nLy ret ∈ am_BW) : GoodIn am_BW (Cond.code y cy nLy ret :: am_BW) := fun w hw => by
  rcases List.mem_cons.mp hw with rfl | hw
  · exact am_BW_self _ h
  · exact am_BW_self _ hw
theorem am_good_V {own : String} {idx : Nat} {y : MethodName} {cy : ByteArray} {nLy : Nat} {ret : Option FieldType} {np : Nat} (h : am_MV y cy nLy ret np) (hl : Cond.methodLink own idx y ∈ am_BW) : GoodIn am_BW (wsV own idx y.cls y (Cond.code y cy nLy ret :: am_BW)) := fun w hw => by
  obtain ⟨⟨h1, h2, -⟩, h3, h4⟩ := h
  unfold wsV at hw
  rcases List.mem_append.mp hw with hw | hw
  · simp only [List.mem_cons, List.not_mem_nil, or_false] at hw
    rcases hw with rfl | rfl | rfl | rfl
    · exact am_BW_self _ hl
    · exact am_BW_self _ h3
    · exact am_BW_self _ h4
    · exact am_BW_self _ h2
  · exact am_good_code h1 w hw
theorem am_good_S {own : String} {idx : Nat} {y : MethodName} {cy : ByteArray} {nLy : Nat} {ret : Option FieldType} {np : Nat} (h : am_MS y cy nLy ret np) (hl : Cond.methodLink own idx y ∈ am_BW) : GoodIn am_BW (va_wsS own idx y (Cond.code y cy nLy ret :: am_BW)) := fun w hw => by
  obtain ⟨⟨h1, h2, -⟩, h3⟩ := h
  unfold va_wsS at hw
  rcases List.mem_append.mp hw with hw | hw
  · simp only [List.mem_cons, List.not_mem_nil, or_false] at hw
    rcases hw with rfl | rfl | rfl
    · exact am_BW_self _ hl
    · exact am_BW_self _ h3
    · exact am_BW_self _ h2
  · exact am_good_code h1 w hw
theorem am_blind {av : List Value} {dC : Nat → ClassId} {dI : Nat → Nat → Nat} {dA : Nat → ClassId} {ad : Nat → Nat} {sz : Nat} {S : Mem} : FrameBlind (va_Pc av (am_Pre dC dI dA ad sz S)) := fun a U g mk q => by
  obtain ⟨q0, q1, qP, qK, qD, qN⟩ := q
  exact ⟨q0, q1, qP, va_K.moved (u := U) (U := U.calling g mk a) (Vm.Alike.refl U.vm) qK, qD, va_Nw.same rfl (u := U) (U := U.calling g mk a) rfl qN⟩
theorem am_pre_in {s U : State} {H : Heap} {A : Nat → Prop} {dC : Nat → ClassId} {dI : Nat → Nat → Nat} {dA : Nat → ClassId} {ad : Nat → Nat} {S : Mem} (hP : va_P (dC, dI) vwCl (am_W dA ad S) H) (hK : va_K (dC, dI) vwCl (am_ty dA) s) (hD : va_D A (am_W dA ad S)) (hN : va_Nw am_NW s) (hU : U.heap = H) (hW : s.WarmedH U.vm) : am_Pre dC dI dA ad H.size S U := ⟨by rw [hU], by rw [hU]; exact hP, va_K.moved hW.alike hK, hD.weaken (fun _ _ _ _ => trivial), va_Nw.warmM hW hN⟩
theorem am_free {s : State} {H : Heap} {locs : List Loc} {A : Nat → Prop} {dA : Nat → ClassId} {ad : Nat → Nat} {S : Mem} (hD : va_D A (am_W dA ad S)) (hS : va_S A s.heap H locs) (hA : ∀ q, s.heap.size ≤ q → A q) : ∀ q, va_A (am_W dA ad S) H.size q → A q := by
  intro q h
  rcases h with ⟨k, e, h⟩ | h
  · exact hD.2 k (q, e) h
  · exact hA q (Nat.le_trans hS.1 h)
theorem am_recv {s : State} {H : Heap} {dC : Nat → ClassId} {dI : Nat → Nat → Nat} {dA : Nat → ClassId} {ad : Nat → Nat} {S : Mem} {c ci : Nat} {y : MethodName} (hK : va_K (dC, dI) vwCl (am_ty dA) s) (hP : va_P (dC, dI) vwCl (am_W dA ad S) H) (hs : shk c = .inl ci) (hc : (vwCl[ci]?).map (fun q => q.1) = some y.cls) : ∃ cell : Cell, H[ad c]? = some cell ∧ cell.vm.isStatics = false ∧ s.vm.findClass y.cls = some cell.cls := by
  cases hq : vwCl[ci]? with
  | none => rw [hq] at hc; cases hc
  | some q =>
    rw [hq] at hc
    have e : q.1 = y.cls := Option.some.inj hc
    rw [← e]
    exact va_recv hK hP hq ((am_W_at (am_lt_o hs)).trans (by rw [am_E_o hs]))
section AM3
variable {X : AMX} {d pc n nL : Nat} {own : String} {cc : ByteArray} {L : List (Option AV)} {st : List AV} {S : Mem}
variable {y : MethodName} {cy : ByteArray} {nLy np dy idx c ci : Nat} {ret : Option FieldType} {vs stk : List AV}
theorem aw_cVi {post : Int → Mem → Prop} (C : CX X d own cc nL) (hd : decode cc pc = .ok (.invokevirtual idx, 3)) (hn : pc + 3 = n) (hY : am_MV y cy nLy ret np) (hlk : Cond.methodLink own idx y ∈ am_BW) (hs : shk c = .inl ci) (hc : (vwCl[ci]?).map (fun q => q.1) = some y.cls) (hdd : dy < d) (hnp : vs.length = np) (hst : stk = vs.reverse ++ .inr (.inr c) :: st) (hroom : (st.map am_cat).sum ≤ 8) (hM : AMi dy y cy nLy ret (.inr (.inr c) :: vs) S post) (k : ∀ (z : Int) (S' : Mem), post z S' → AW X cc nL n L (.inl z :: st) S') : AW X cc nL pc L stk S := by
  obtain ⟨p, l, e, R, s, m, args, below, meth, c0, cells, slots, Q, dC, dI, dA, ad, A⟩ := X
  obtain ⟨hx, hb, hml, hown, hts, hK, hD, hA, hNw, hfr, hlo, hce, hsl⟩ := C
  subst hn; subst hst; subst hnp
  intro H locs ls hP hS hl
  have hF := am_free (hD S) hS hA
  have hlY := hY.1.2.2.2
  refine va_calli (va_runV (b := ad c) (C := y.cls) (As := vs.map (am_v ad)) (rest := st.map (am_v ad)) ⟨hx, hb, hml, hown, hts⟩ (hM l dC dI dA ad H.size) (cwV vs.length hts (am_good_V hY hlk) rfl rfl rfl ⟨rfl, hY.1.2.2.1⟩ ⟨by show dy + 1 ≤ _; omega, by show 8 + (nLy + 11) + 60 * dy ≤ _; omega⟩) ⟨am_blind, am_recv hK hP hs hc, fun U hU hW => ⟨rfl, am_pre_in hP hK (hD S) hNw hU hW⟩⟩ rfl (by simp) hl.1.1 (by simp [am_v]) (lv_room (by rw [am_cats]; exact hroom)) hd ⟨hce, hsl⟩) hS (fun q _ h => hF q h) hF (fun r u t H1 locs1 ht hvm hw hB hz1 hk1 hS1 => ?_)
  obtain ⟨rfl, hp⟩ := hw
  rw [ht] at hB
  exact k u.1 u.2 hp H1 locs1 ls hB hS1 hl
theorem aw_cVl {post : Int → Mem → Prop} (C : CX X d own cc nL) (hd : decode cc pc = .ok (.invokevirtual idx, 3)) (hn : pc + 3 = n) (hY : am_MV y cy nLy ret np) (hlk : Cond.methodLink own idx y ∈ am_BW) (hs : shk c = .inl ci) (hc : (vwCl[ci]?).map (fun q => q.1) = some y.cls) (hdd : dy < d) (hnp : vs.length = np) (hst : stk = vs.reverse ++ .inr (.inr c) :: st) (hroom : (st.map am_cat).sum ≤ 8) (hM : AMl dy y cy nLy ret (.inr (.inr c) :: vs) S post) (k : ∀ (z : Int) (S' : Mem), post z S' → AW X cc nL n L (.inr (.inl z) :: st) S') : AW X cc nL pc L stk S := by
  obtain ⟨p, l, e, R, s, m, args, below, meth, c0, cells, slots, Q, dC, dI, dA, ad, A⟩ := X
  obtain ⟨hx, hb, hml, hown, hts, hK, hD, hA, hNw, hfr, hlo, hce, hsl⟩ := C
  subst hn; subst hst; subst hnp
  intro H locs ls hP hS hl
  have hF := am_free (hD S) hS hA
  have hlY := hY.1.2.2.2
  refine va_calll (va_runV (b := ad c) (C := y.cls) (As := vs.map (am_v ad)) (rest := st.map (am_v ad)) ⟨hx, hb, hml, hown, hts⟩ (hM l dC dI dA ad H.size) (cwV vs.length hts (am_good_V hY hlk) rfl rfl rfl ⟨rfl, hY.1.2.2.1⟩ ⟨by show dy + 1 ≤ _; omega, by show 8 + (nLy + 11) + 60 * dy ≤ _; omega⟩) ⟨am_blind, am_recv hK hP hs hc, fun U hU hW => ⟨rfl, am_pre_in hP hK (hD S) hNw hU hW⟩⟩ rfl (by simp) hl.1.1 (by simp [am_v]) (lv_room (by rw [am_cats]; exact hroom)) hd ⟨hce, hsl⟩) hS (fun q _ h => hF q h) hF (fun r u t H1 locs1 ht hvm hw hB hz1 hk1 hS1 => ?_)
  obtain ⟨rfl, hp⟩ := hw
  rw [ht] at hB
  exact k u.1 u.2 hp H1 locs1 ls hB hS1 hl
theorem aw_cVv {post : Mem → Prop} (C : CX X d own cc nL) (hd : decode cc pc = .ok (.invokevirtual idx, 3)) (hn : pc + 3 = n) (hY : am_MV y cy nLy none np) (hlk : Cond.methodLink own idx y ∈ am_BW) (hs : shk c = .inl ci) (hc : (vwCl[ci]?).map (fun q => q.1) = some y.cls) (hdd : dy < d) (hnp : vs.length = np) (hst : stk = vs.reverse ++ .inr (.inr c) :: st) (hroom : (st.map am_cat).sum ≤ 8) (hM : AMv dy y cy nLy (.inr (.inr c) :: vs) S post) (k : ∀ (S' : Mem), post S' → AW X cc nL n L st S') : AW X cc nL pc L stk S := by
  obtain ⟨p, l, e, R, s, m, args, below, meth, c0, cells, slots, Q, dC, dI, dA, ad, A⟩ := X
  obtain ⟨hx, hb, hml, hown, hts, hK, hD, hA, hNw, hfr, hlo, hce, hsl⟩ := C
  subst hn; subst hst; subst hnp
  intro H locs ls hP hS hl
  have hF := am_free (hD S) hS hA
  have hlY := hY.1.2.2.2
  refine va_callv (va_runV (b := ad c) (C := y.cls) (As := vs.map (am_v ad)) (rest := st.map (am_v ad)) ⟨hx, hb, hml, hown, hts⟩ (hM l dC dI dA ad H.size) (cwV vs.length hts (am_good_V hY hlk) rfl rfl rfl ⟨rfl, hY.1.2.2.1⟩ ⟨by show dy + 1 ≤ _; omega, by show 8 + (nLy + 11) + 60 * dy ≤ _; omega⟩) ⟨am_blind, am_recv hK hP hs hc, fun U hU hW => ⟨rfl, am_pre_in hP hK (hD S) hNw hU hW⟩⟩ rfl (by simp) hl.1.1 (by simp [am_v]) (lv_room (by rw [am_cats]; exact hroom)) hd ⟨hce, hsl⟩) hS (fun q _ h => hF q h) hF (fun u t H1 locs1 ht hvm hw hB hz1 hk1 hS1 => ?_)
  rw [ht] at hB
  exact k u hw H1 locs1 ls hB hS1 hl
theorem aw_cSi {post : Int → Mem → Prop} (C : CX X d own cc nL) (hd : decode cc pc = .ok (.invokestatic idx, 3)) (hn : pc + 3 = n) (hY : am_MS y cy nLy ret np) (hlk : Cond.methodLink own idx y ∈ am_BW) (hdd : dy < d) (hnp : vs.length = np) (hst : stk = vs.reverse ++ st) (hroom : (st.map am_cat).sum ≤ 8) (hM : AMi dy y cy nLy ret vs S post) (k : ∀ (z : Int) (S' : Mem), post z S' → AW X cc nL n L (.inl z :: st) S') : AW X cc nL pc L stk S := by
  obtain ⟨p, l, e, R, s, m, args, below, meth, c0, cells, slots, Q, dC, dI, dA, ad, A⟩ := X
  obtain ⟨hx, hb, hml, hown, hts, hK, hD, hA, hNw, hfr, hlo, hce, hsl⟩ := C
  subst hn; subst hst; subst hnp
  intro H locs ls hP hS hl
  have hF := am_free (hD S) hS hA
  have hlY := hY.1.2.2.2
  refine va_calli (va_runS (As := vs.map (am_v ad)) (rest := st.map (am_v ad)) ⟨hx, hb, hml, hown, hts⟩ (hM l dC dI dA ad H.size) (va_cwS vs.length hts (am_good_S hY hlk) rfl rfl rfl hY.1.2.2.1 ⟨by show dy + 1 ≤ _; omega, by show 8 + (nLy + 11) + 60 * dy ≤ _; omega⟩) ⟨am_blind, fun U hU hW => ⟨rfl, am_pre_in hP hK (hD S) hNw hU hW⟩⟩ rfl (by simp) hl.1.1 (by simp) (lv_room (by rw [am_cats]; exact hroom)) hd ⟨hce, hsl⟩) hS (fun q _ h => hF q h) hF (fun r u t H1 locs1 ht hvm hw hB hz1 hk1 hS1 => ?_)
  obtain ⟨rfl, hp⟩ := hw
  rw [ht] at hB
  exact k u.1 u.2 hp H1 locs1 ls hB hS1 hl
theorem aw_cSl {post : Int → Mem → Prop} (C : CX X d own cc nL) (hd : decode cc pc = .ok (.invokestatic idx, 3)) (hn : pc + 3 = n) (hY : am_MS y cy nLy ret np) (hlk : Cond.methodLink own idx y ∈ am_BW) (hdd : dy < d) (hnp : vs.length = np) (hst : stk = vs.reverse ++ st) (hroom : (st.map am_cat).sum ≤ 8) (hM : AMl dy y cy nLy ret vs S post) (k : ∀ (z : Int) (S' : Mem), post z S' → AW X cc nL n L (.inr (.inl z) :: st) S') : AW X cc nL pc L stk S := by
  obtain ⟨p, l, e, R, s, m, args, below, meth, c0, cells, slots, Q, dC, dI, dA, ad, A⟩ := X
  obtain ⟨hx, hb, hml, hown, hts, hK, hD, hA, hNw, hfr, hlo, hce, hsl⟩ := C
  subst hn; subst hst; subst hnp
  intro H locs ls hP hS hl
  have hF := am_free (hD S) hS hA
  have hlY := hY.1.2.2.2
  refine va_calll (va_runS (As := vs.map (am_v ad)) (rest := st.map (am_v ad)) ⟨hx, hb, hml, hown, hts⟩ (hM l dC dI dA ad H.size) (va_cwS vs.length hts (am_good_S hY hlk) rfl rfl rfl hY.1.2.2.1 ⟨by show dy + 1 ≤ _; omega, by show 8 + (nLy + 11) + 60 * dy ≤ _; omega⟩) ⟨am_blind, fun U hU hW => ⟨rfl, am_pre_in hP hK (hD S) hNw hU hW⟩⟩ rfl (by simp) hl.1.1 (by simp) (lv_room (by rw [am_cats]; exact hroom)) hd ⟨hce, hsl⟩) hS (fun q _ h => hF q h) hF (fun r u t H1 locs1 ht hvm hw hB hz1 hk1 hS1 => ?_)
  obtain ⟨rfl, hp⟩ := hw
  rw [ht] at hB
  exact k u.1 u.2 hp H1 locs1 ls hB hS1 hl
theorem aw_cSv {post : Mem → Prop} (C : CX X d own cc nL) (hd : decode cc pc = .ok (.invokestatic idx, 3)) (hn : pc + 3 = n) (hY : am_MS y cy nLy none np) (hlk : Cond.methodLink own idx y ∈ am_BW) (hdd : dy < d) (hnp : vs.length = np) (hst : stk = vs.reverse ++ st) (hroom : (st.map am_cat).sum ≤ 8) (hM : AMv dy y cy nLy vs S post) (k : ∀ (S' : Mem), post S' → AW X cc nL n L st S') : AW X cc nL pc L stk S := by
  obtain ⟨p, l, e, R, s, m, args, below, meth, c0, cells, slots, Q, dC, dI, dA, ad, A⟩ := X
  obtain ⟨hx, hb, hml, hown, hts, hK, hD, hA, hNw, hfr, hlo, hce, hsl⟩ := C
  subst hn; subst hst; subst hnp
  intro H locs ls hP hS hl
  have hF := am_free (hD S) hS hA
  have hlY := hY.1.2.2.2
  refine va_callv (va_runS (As := vs.map (am_v ad)) (rest := st.map (am_v ad)) ⟨hx, hb, hml, hown, hts⟩ (hM l dC dI dA ad H.size) (va_cwS vs.length hts (am_good_S hY hlk) rfl rfl rfl hY.1.2.2.1 ⟨by show dy + 1 ≤ _; omega, by show 8 + (nLy + 11) + 60 * dy ≤ _; omega⟩) ⟨am_blind, fun U hU hW => ⟨rfl, am_pre_in hP hK (hD S) hNw hU hW⟩⟩ rfl (by simp) hl.1.1 (by simp) (lv_room (by rw [am_cats]; exact hroom)) hd ⟨hce, hsl⟩) hS (fun q _ h => hF q h) hF (fun u t H1 locs1 ht hvm hw hB hz1 hk1 hS1 => ?_)
  rw [ht] at hB
  exact k u hw H1 locs1 ls hB hS1 hl
/-- the one call over a nest link: Seating's of noClass -/
theorem aw_cNest {post : Int → Mem → Prop} (C : CX X d RX2 cc nL) (hd : decode cc pc = .ok (.invokestatic 31, 3)) (hn : pc + 3 = n) (hY : am_MS yX6_noClass cy nLy ret np) (hdd : dy < d) (hnp : vs.length = np) (hst : stk = vs.reverse ++ st) (hroom : (st.map am_cat).sum ≤ 8) (hM : AMi dy yX6_noClass cy nLy ret vs S post) (k : ∀ (z : Int) (S' : Mem), post z S' → AW X cc nL n L (.inl z :: st) S') : AW X cc nL pc L stk S := by
  obtain ⟨p, l, e, R, s, m, args, below, meth, c0, cells, slots, Q, dC, dI, dA, ad, A⟩ := X
  obtain ⟨hx, hb, hml, hown, hts, hK, hD, hA, hNw, hfr, hlo, hce, hsl⟩ := C
  subst hn; subst hst; subst hnp
  intro H locs ls hP hS hl
  have hF := am_free (hD S) hS hA
  have hlY := hY.1.2.2.2
  refine va_calli (va_runSN (As := vs.map (am_v ad)) (rest := st.map (am_v ad)) ⟨hx, hb, hml, hown, hts⟩ (hM l dC dI dA ad H.size) ⟨va_cnB vs.length hts (am_good_code hY.1.1) rfl rfl rfl hNw (hts _ hY.1.2.1) hY.1.2.2.1 ⟨by show dy + 1 ≤ _; omega, by show 8 + (nLy + 11) + 60 * dy ≤ _; omega⟩, hts _ hY.2, trivial⟩ ⟨am_blind, fun U hU hW => ⟨rfl, am_pre_in hP hK (hD S) hNw hU hW⟩⟩ rfl (by simp) hl.1.1 (by simp) (lv_room (by rw [am_cats]; exact hroom)) hd ⟨hce, hsl⟩) hS (fun q _ h => hF q h) hF (fun r u t H1 locs1 ht hvm hw hB hz1 hk1 hS1 => ?_)
  obtain ⟨rfl, hp⟩ := hw
  rw [ht] at hB
  exact k u.1 u.2 hp H1 locs1 ls hB hS1 hl
end AM3
end
