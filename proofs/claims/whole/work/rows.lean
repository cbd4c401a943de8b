section
-- ===== PART A: goes FIRST, ahead of the names: the tables' words, and 'selects' of the private methods out of them =====
/-- a private method of a class that the tables say can be made, by its rows of tables_1 -/
def lw_okq (q : MethodName × Nat) : Prop := (q.1.cls ≠ "java/lang/invoke/MethodHandle" ∧ q.1.cls ≠ "java/lang/invoke/VarHandle") ∧ Cond.instantiable q.1.cls q.2 ∈ tables_1 ∧ Cond.privateMethod q.1 ∈ tables_1 ∧ Cond.instanceMethod q.1 ∈ tables_1
theorem lw_p0 : lw_okq (⟨"SeamPictures$Picture", "gapAt", "(III)I"⟩, 5) := ⟨⟨by decide +kernel, by decide +kernel⟩, List.mem_of_getElem? (i := 18) (by decide +kernel), List.mem_of_getElem? (i := 227) (by decide +kernel), List.mem_of_getElem? (i := 228) (by decide +kernel)⟩
theorem lw_p1 : lw_okq (⟨"SeamPictures$Picture", "extraAt", "(III)I"⟩, 5) := ⟨⟨by decide +kernel, by decide +kernel⟩, List.mem_of_getElem? (i := 18) (by decide +kernel), List.mem_of_getElem? (i := 249) (by decide +kernel), List.mem_of_getElem? (i := 250) (by decide +kernel)⟩
theorem lw_p2 : lw_okq (⟨"SeamPictures$Seam", "weighDot", "(LSeamPictures$Picture;IIZ)V"⟩, 5) := ⟨⟨by decide +kernel, by decide +kernel⟩, List.mem_of_getElem? (i := 46) (by decide +kernel), List.mem_of_getElem? (i := 311) (by decide +kernel), List.mem_of_getElem? (i := 312) (by decide +kernel)⟩
theorem lw_p3 : lw_okq (⟨"SeamPictures$Seam", "goOnFrom", "(LSeamPictures$Picture;II)V"⟩, 5) := ⟨⟨by decide +kernel, by decide +kernel⟩, List.mem_of_getElem? (i := 46) (by decide +kernel), List.mem_of_getElem? (i := 319) (by decide +kernel), List.mem_of_getElem? (i := 320) (by decide +kernel)⟩
theorem lw_p4 : lw_okq (⟨"SeamPictures$Seam", "leastStart", "(I)I"⟩, 5) := ⟨⟨by decide +kernel, by decide +kernel⟩, List.mem_of_getElem? (i := 46) (by decide +kernel), List.mem_of_getElem? (i := 329) (by decide +kernel), List.mem_of_getElem? (i := 330) (by decide +kernel)⟩
theorem lw_p5 : lw_okq (⟨"SeamPictures$Seam", "hangsTogether", "(II)Z"⟩, 5) := ⟨⟨by decide +kernel, by decide +kernel⟩, List.mem_of_getElem? (i := 46) (by decide +kernel), List.mem_of_getElem? (i := 341) (by decide +kernel), List.mem_of_getElem? (i := 342) (by decide +kernel)⟩
theorem lw_p6 : lw_okq (⟨"SeamPictures$Seam", "sumOfCosts", "(LSeamPictures$Picture;I)I"⟩, 5) := ⟨⟨by decide +kernel, by decide +kernel⟩, List.mem_of_getElem? (i := 46) (by decide +kernel), List.mem_of_getElem? (i := 346) (by decide +kernel), List.mem_of_getElem? (i := 347) (by decide +kernel)⟩
theorem lw_p7 : lw_okq (⟨"SeamPictures$Picture", "moveDot", "(IIII)V"⟩, 5) := ⟨⟨by decide +kernel, by decide +kernel⟩, List.mem_of_getElem? (i := 18) (by decide +kernel), List.mem_of_getElem? (i := 360) (by decide +kernel), List.mem_of_getElem? (i := 361) (by decide +kernel)⟩
theorem lw_p8 : lw_okq (⟨"SeamPictures$Picture", "broaden", "(II)V"⟩, 5) := ⟨⟨by decide +kernel, by decide +kernel⟩, List.mem_of_getElem? (i := 18) (by decide +kernel), List.mem_of_getElem? (i := 364) (by decide +kernel), List.mem_of_getElem? (i := 365) (by decide +kernel)⟩
theorem lw_p9 : lw_okq (⟨"SeamPictures", "canReach", "(II)Z"⟩, 7) := ⟨⟨by decide +kernel, by decide +kernel⟩, List.mem_of_getElem? (i := 10) (by decide +kernel), List.mem_of_getElem? (i := 394) (by decide +kernel), List.mem_of_getElem? (i := 395) (by decide +kernel)⟩
theorem lw_p10 : lw_okq (⟨"SeamPictures$OrderSearch", "tryOrders", "(IIIIII)V"⟩, 6) := ⟨⟨by decide +kernel, by decide +kernel⟩, List.mem_of_getElem? (i := 88) (by decide +kernel), List.mem_of_getElem? (i := 406) (by decide +kernel), List.mem_of_getElem? (i := 407) (by decide +kernel)⟩
theorem lw_p11 : lw_okq (⟨"SeamPictures$OrderSearch", "compare", "(III)V"⟩, 6) := ⟨⟨by decide +kernel, by decide +kernel⟩, List.mem_of_getElem? (i := 88) (by decide +kernel), List.mem_of_getElem? (i := 410) (by decide +kernel), List.mem_of_getElem? (i := 411) (by decide +kernel)⟩
theorem lw_p12 : lw_okq (⟨"SeamPictures$CostTable", "takeLying", "(I)V"⟩, 4) := ⟨⟨by decide +kernel, by decide +kernel⟩, List.mem_of_getElem? (i := 122) (by decide +kernel), List.mem_of_getElem? (i := 431) (by decide +kernel), List.mem_of_getElem? (i := 432) (by decide +kernel)⟩
theorem lw_p13 : lw_okq (⟨"SeamPictures$CostTable", "takeUpright", "(I)V"⟩, 4) := ⟨⟨by decide +kernel, by decide +kernel⟩, List.mem_of_getElem? (i := 122) (by decide +kernel), List.mem_of_getElem? (i := 436) (by decide +kernel), List.mem_of_getElem? (i := 437) (by decide +kernel)⟩
theorem lw_p14 : lw_okq (⟨"SeamPictures$CostTable", "takeCheaper", "(I)V"⟩, 4) := ⟨⟨by decide +kernel, by decide +kernel⟩, List.mem_of_getElem? (i := 122) (by decide +kernel), List.mem_of_getElem? (i := 440) (by decide +kernel), List.mem_of_getElem? (i := 441) (by decide +kernel)⟩
theorem lw_p15 : lw_okq (⟨"SeamPictures", "imagesKept", "()I"⟩, 7) := ⟨⟨by decide +kernel, by decide +kernel⟩, List.mem_of_getElem? (i := 10) (by decide +kernel), List.mem_of_getElem? (i := 469) (by decide +kernel), List.mem_of_getElem? (i := 470) (by decide +kernel)⟩
def lw_privs_1 : List (MethodName × Nat) := [(⟨"SeamPictures$Picture", "gapAt", "(III)I"⟩, 5), (⟨"SeamPictures$Picture", "extraAt", "(III)I"⟩, 5), (⟨"SeamPictures$Seam", "weighDot", "(LSeamPictures$Picture;IIZ)V"⟩, 5), (⟨"SeamPictures$Seam", "goOnFrom", "(LSeamPictures$Picture;II)V"⟩, 5), (⟨"SeamPictures$Seam", "leastStart", "(I)I"⟩, 5), (⟨"SeamPictures$Seam", "hangsTogether", "(II)Z"⟩, 5), (⟨"SeamPictures$Seam", "sumOfCosts", "(LSeamPictures$Picture;I)I"⟩, 5), (⟨"SeamPictures$Picture", "moveDot", "(IIII)V"⟩, 5), (⟨"SeamPictures$Picture", "broaden", "(II)V"⟩, 5), (⟨"SeamPictures", "canReach", "(II)Z"⟩, 7), (⟨"SeamPictures$OrderSearch", "tryOrders", "(IIIIII)V"⟩, 6), (⟨"SeamPictures$OrderSearch", "compare", "(III)V"⟩, 6), (⟨"SeamPictures$CostTable", "takeLying", "(I)V"⟩, 4), (⟨"SeamPictures$CostTable", "takeUpright", "(I)V"⟩, 4), (⟨"SeamPictures$CostTable", "takeCheaper", "(I)V"⟩, 4), (⟨"SeamPictures", "imagesKept", "()I"⟩, 7)]
theorem lw_r1 : ∀ q ∈ lw_privs_1, lw_okq q := List.forall_mem_cons.mpr ⟨lw_p0, List.forall_mem_cons.mpr ⟨lw_p1, List.forall_mem_cons.mpr ⟨lw_p2, List.forall_mem_cons.mpr ⟨lw_p3, List.forall_mem_cons.mpr ⟨lw_p4, List.forall_mem_cons.mpr ⟨lw_p5, List.forall_mem_cons.mpr ⟨lw_p6, List.forall_mem_cons.mpr ⟨lw_p7, List.forall_mem_cons.mpr ⟨lw_p8, List.forall_mem_cons.mpr ⟨lw_p9, List.forall_mem_cons.mpr ⟨lw_p10, List.forall_mem_cons.mpr ⟨lw_p11, List.forall_mem_cons.mpr ⟨lw_p12, List.forall_mem_cons.mpr ⟨lw_p13, List.forall_mem_cons.mpr ⟨lw_p14, List.forall_mem_cons.mpr ⟨lw_p15, fun _ h => absurd h List.not_mem_nil⟩⟩⟩⟩⟩⟩⟩⟩⟩⟩⟩⟩⟩⟩⟩⟩
theorem lw_p16 : lw_okq (⟨"SeamPicturesModel", "isDot", "(II)Z"⟩, 19) := ⟨⟨by decide +kernel, by decide +kernel⟩, List.mem_of_getElem? (i := 473) (by decide +kernel), List.mem_of_getElem? (i := 548) (by decide +kernel), List.mem_of_getElem? (i := 549) (by decide +kernel)⟩
theorem lw_p17 : lw_okq (⟨"SeamPicturesModel", "take", "()V"⟩, 19) := ⟨⟨by decide +kernel, by decide +kernel⟩, List.mem_of_getElem? (i := 473) (by decide +kernel), List.mem_of_getElem? (i := 567) (by decide +kernel), List.mem_of_getElem? (i := 568) (by decide +kernel)⟩
theorem lw_p18 : lw_okq (⟨"SeamPicturesModel", "edge", "(II)I"⟩, 19) := ⟨⟨by decide +kernel, by decide +kernel⟩, List.mem_of_getElem? (i := 473) (by decide +kernel), List.mem_of_getElem? (i := 571) (by decide +kernel), List.mem_of_getElem? (i := 572) (by decide +kernel)⟩
theorem lw_p19 : lw_okq (⟨"SeamPicturesModel", "across", "(II)I"⟩, 19) := ⟨⟨by decide +kernel, by decide +kernel⟩, List.mem_of_getElem? (i := 473) (by decide +kernel), List.mem_of_getElem? (i := 575) (by decide +kernel), List.mem_of_getElem? (i := 576) (by decide +kernel)⟩
theorem lw_p20 : lw_okq (⟨"SeamPicturesModel", "left", "(II)I"⟩, 19) := ⟨⟨by decide +kernel, by decide +kernel⟩, List.mem_of_getElem? (i := 473) (by decide +kernel), List.mem_of_getElem? (i := 579) (by decide +kernel), List.mem_of_getElem? (i := 580) (by decide +kernel)⟩
theorem lw_p21 : lw_okq (⟨"SeamPicturesModel", "greyAt", "(II)I"⟩, 19) := ⟨⟨by decide +kernel, by decide +kernel⟩, List.mem_of_getElem? (i := 473) (by decide +kernel), List.mem_of_getElem? (i := 583) (by decide +kernel), List.mem_of_getElem? (i := 584) (by decide +kernel)⟩
theorem lw_p22 : lw_okq (⟨"SeamPicturesModel", "right", "(II)I"⟩, 19) := ⟨⟨by decide +kernel, by decide +kernel⟩, List.mem_of_getElem? (i := 473) (by decide +kernel), List.mem_of_getElem? (i := 587) (by decide +kernel), List.mem_of_getElem? (i := 588) (by decide +kernel)⟩
theorem lw_p23 : lw_okq (⟨"SeamPicturesModel", "above", "(II)I"⟩, 19) := ⟨⟨by decide +kernel, by decide +kernel⟩, List.mem_of_getElem? (i := 473) (by decide +kernel), List.mem_of_getElem? (i := 594) (by decide +kernel), List.mem_of_getElem? (i := 595) (by decide +kernel)⟩
theorem lw_p24 : lw_okq (⟨"SeamPicturesModel", "below", "(II)I"⟩, 19) := ⟨⟨by decide +kernel, by decide +kernel⟩, List.mem_of_getElem? (i := 473) (by decide +kernel), List.mem_of_getElem? (i := 598) (by decide +kernel), List.mem_of_getElem? (i := 599) (by decide +kernel)⟩
theorem lw_p25 : lw_okq (⟨"SeamPicturesModel", "weight", "(II)I"⟩, 19) := ⟨⟨by decide +kernel, by decide +kernel⟩, List.mem_of_getElem? (i := 473) (by decide +kernel), List.mem_of_getElem? (i := 602) (by decide +kernel), List.mem_of_getElem? (i := 603) (by decide +kernel)⟩
theorem lw_p26 : lw_okq (⟨"SeamPicturesModel", "extra", "(II)I"⟩, 19) := ⟨⟨by decide +kernel, by decide +kernel⟩, List.mem_of_getElem? (i := 473) (by decide +kernel), List.mem_of_getElem? (i := 606) (by decide +kernel), List.mem_of_getElem? (i := 607) (by decide +kernel)⟩
theorem lw_p27 : lw_okq (⟨"SeamPicturesModel", "faultAs", "(I)I"⟩, 19) := ⟨⟨by decide +kernel, by decide +kernel⟩, List.mem_of_getElem? (i := 473) (by decide +kernel), List.mem_of_getElem? (i := 622) (by decide +kernel), List.mem_of_getElem? (i := 623) (by decide +kernel)⟩
theorem lw_p28 : lw_okq (⟨"SeamPicturesModel", "isBetween", "(I)Z"⟩, 19) := ⟨⟨by decide +kernel, by decide +kernel⟩, List.mem_of_getElem? (i := 473) (by decide +kernel), List.mem_of_getElem? (i := 626) (by decide +kernel), List.mem_of_getElem? (i := 627) (by decide +kernel)⟩
theorem lw_p29 : lw_okq (⟨"SeamPicturesModel", "valueOf", "(II)I"⟩, 19) := ⟨⟨by decide +kernel, by decide +kernel⟩, List.mem_of_getElem? (i := 473) (by decide +kernel), List.mem_of_getElem? (i := 630) (by decide +kernel), List.mem_of_getElem? (i := 631) (by decide +kernel)⟩
theorem lw_p30 : lw_okq (⟨"SeamPicturesModel", "signs", "()I"⟩, 19) := ⟨⟨by decide +kernel, by decide +kernel⟩, List.mem_of_getElem? (i := 473) (by decide +kernel), List.mem_of_getElem? (i := 634) (by decide +kernel), List.mem_of_getElem? (i := 635) (by decide +kernel)⟩
theorem lw_p31 : lw_okq (⟨"SeamPicturesModel", "layWay", "(I)V"⟩, 19) := ⟨⟨by decide +kernel, by decide +kernel⟩, List.mem_of_getElem? (i := 473) (by decide +kernel), List.mem_of_getElem? (i := 649) (by decide +kernel), List.mem_of_getElem? (i := 650) (by decide +kernel)⟩
def lw_privs_2 : List (MethodName × Nat) := [(⟨"SeamPicturesModel", "isDot", "(II)Z"⟩, 19), (⟨"SeamPicturesModel", "take", "()V"⟩, 19), (⟨"SeamPicturesModel", "edge", "(II)I"⟩, 19), (⟨"SeamPicturesModel", "across", "(II)I"⟩, 19), (⟨"SeamPicturesModel", "left", "(II)I"⟩, 19), (⟨"SeamPicturesModel", "greyAt", "(II)I"⟩, 19), (⟨"SeamPicturesModel", "right", "(II)I"⟩, 19), (⟨"SeamPicturesModel", "above", "(II)I"⟩, 19), (⟨"SeamPicturesModel", "below", "(II)I"⟩, 19), (⟨"SeamPicturesModel", "weight", "(II)I"⟩, 19), (⟨"SeamPicturesModel", "extra", "(II)I"⟩, 19), (⟨"SeamPicturesModel", "faultAs", "(I)I"⟩, 19), (⟨"SeamPicturesModel", "isBetween", "(I)Z"⟩, 19), (⟨"SeamPicturesModel", "valueOf", "(II)I"⟩, 19), (⟨"SeamPicturesModel", "signs", "()I"⟩, 19), (⟨"SeamPicturesModel", "layWay", "(I)V"⟩, 19)]
theorem lw_r2 : ∀ q ∈ lw_privs_2, lw_okq q := List.forall_mem_cons.mpr ⟨lw_p16, List.forall_mem_cons.mpr ⟨lw_p17, List.forall_mem_cons.mpr ⟨lw_p18, List.forall_mem_cons.mpr ⟨lw_p19, List.forall_mem_cons.mpr ⟨lw_p20, List.forall_mem_cons.mpr ⟨lw_p21, List.forall_mem_cons.mpr ⟨lw_p22, List.forall_mem_cons.mpr ⟨lw_p23, List.forall_mem_cons.mpr ⟨lw_p24, List.forall_mem_cons.mpr ⟨lw_p25, List.forall_mem_cons.mpr ⟨lw_p26, List.forall_mem_cons.mpr ⟨lw_p27, List.forall_mem_cons.mpr ⟨lw_p28, List.forall_mem_cons.mpr ⟨lw_p29, List.forall_mem_cons.mpr ⟨lw_p30, List.forall_mem_cons.mpr ⟨lw_p31, fun _ h => absurd h List.not_mem_nil⟩⟩⟩⟩⟩⟩⟩⟩⟩⟩⟩⟩⟩⟩⟩⟩
theorem lw_p32 : lw_okq (⟨"SeamPicturesModel", "turn", "()V"⟩, 19) := ⟨⟨by decide +kernel, by decide +kernel⟩, List.mem_of_getElem? (i := 473) (by decide +kernel), List.mem_of_getElem? (i := 653) (by decide +kernel), List.mem_of_getElem? (i := 654) (by decide +kernel)⟩
theorem lw_p33 : lw_okq (⟨"SeamPicturesModel", "laySeam", "()V"⟩, 19) := ⟨⟨by decide +kernel, by decide +kernel⟩, List.mem_of_getElem? (i := 473) (by decide +kernel), List.mem_of_getElem? (i := 657) (by decide +kernel), List.mem_of_getElem? (i := 658) (by decide +kernel)⟩
theorem lw_p34 : lw_okq (⟨"SeamPicturesModel", "nextFrom", "(II)I"⟩, 19) := ⟨⟨by decide +kernel, by decide +kernel⟩, List.mem_of_getElem? (i := 473) (by decide +kernel), List.mem_of_getElem? (i := 661) (by decide +kernel), List.mem_of_getElem? (i := 662) (by decide +kernel)⟩
theorem lw_p35 : lw_okq (⟨"SeamPicturesModel", "costOf", "(III)I"⟩, 19) := ⟨⟨by decide +kernel, by decide +kernel⟩, List.mem_of_getElem? (i := 473) (by decide +kernel), List.mem_of_getElem? (i := 665) (by decide +kernel), List.mem_of_getElem? (i := 666) (by decide +kernel)⟩
theorem lw_p36 : lw_okq (⟨"SeamPicturesModel", "layNumber", "(I)Z"⟩, 19) := ⟨⟨by decide +kernel, by decide +kernel⟩, List.mem_of_getElem? (i := 473) (by decide +kernel), List.mem_of_getElem? (i := 673) (by decide +kernel), List.mem_of_getElem? (i := 674) (by decide +kernel)⟩
theorem lw_p37 : lw_okq (⟨"SeamPicturesModel", "cutWay", "(I)I"⟩, 19) := ⟨⟨by decide +kernel, by decide +kernel⟩, List.mem_of_getElem? (i := 473) (by decide +kernel), List.mem_of_getElem? (i := 681) (by decide +kernel), List.mem_of_getElem? (i := 682) (by decide +kernel)⟩
theorem lw_p38 : lw_okq (⟨"SeamPicturesModel", "cutSeam", "()V"⟩, 19) := ⟨⟨by decide +kernel, by decide +kernel⟩, List.mem_of_getElem? (i := 473) (by decide +kernel), List.mem_of_getElem? (i := 685) (by decide +kernel), List.mem_of_getElem? (i := 686) (by decide +kernel)⟩
theorem lw_p39 : lw_okq (⟨"SeamPicturesModel", "move", "(III)V"⟩, 19) := ⟨⟨by decide +kernel, by decide +kernel⟩, List.mem_of_getElem? (i := 473) (by decide +kernel), List.mem_of_getElem? (i := 689) (by decide +kernel), List.mem_of_getElem? (i := 690) (by decide +kernel)⟩
theorem lw_p40 : lw_okq (⟨"SeamPicturesModel", "leaveWay", "(I)V"⟩, 19) := ⟨⟨by decide +kernel, by decide +kernel⟩, List.mem_of_getElem? (i := 473) (by decide +kernel), List.mem_of_getElem? (i := 693) (by decide +kernel), List.mem_of_getElem? (i := 694) (by decide +kernel)⟩
theorem lw_p41 : lw_okq (⟨"SeamPicturesModel", "give", "()V"⟩, 19) := ⟨⟨by decide +kernel, by decide +kernel⟩, List.mem_of_getElem? (i := 473) (by decide +kernel), List.mem_of_getElem? (i := 697) (by decide +kernel), List.mem_of_getElem? (i := 698) (by decide +kernel)⟩
theorem lw_p42 : lw_okq (⟨"SeamPicturesModel", "addSeam", "()V"⟩, 19) := ⟨⟨by decide +kernel, by decide +kernel⟩, List.mem_of_getElem? (i := 473) (by decide +kernel), List.mem_of_getElem? (i := 705) (by decide +kernel), List.mem_of_getElem? (i := 706) (by decide +kernel)⟩
theorem lw_p43 : lw_okq (⟨"SeamPicturesModel", "canGo", "(II)Z"⟩, 19) := ⟨⟨by decide +kernel, by decide +kernel⟩, List.mem_of_getElem? (i := 473) (by decide +kernel), List.mem_of_getElem? (i := 717) (by decide +kernel), List.mem_of_getElem? (i := 718) (by decide +kernel)⟩
theorem lw_p44 : lw_okq (⟨"SeamPicturesModel", "layBest", "(II)V"⟩, 19) := ⟨⟨by decide +kernel, by decide +kernel⟩, List.mem_of_getElem? (i := 473) (by decide +kernel), List.mem_of_getElem? (i := 721) (by decide +kernel), List.mem_of_getElem? (i := 722) (by decide +kernel)⟩
theorem lw_p45 : lw_okq (⟨"SeamPicturesModel", "goOrder", "(II)I"⟩, 19) := ⟨⟨by decide +kernel, by decide +kernel⟩, List.mem_of_getElem? (i := 473) (by decide +kernel), List.mem_of_getElem? (i := 728) (by decide +kernel), List.mem_of_getElem? (i := 729) (by decide +kernel)⟩
theorem lw_p46 : lw_okq (⟨"SeamPicturesModel", "layTable", "(II)V"⟩, 19) := ⟨⟨by decide +kernel, by decide +kernel⟩, List.mem_of_getElem? (i := 473) (by decide +kernel), List.mem_of_getElem? (i := 739) (by decide +kernel), List.mem_of_getElem? (i := 740) (by decide +kernel)⟩
theorem lw_p47 : lw_okq (⟨"SeamPicturesModel", "save", "(I)V"⟩, 19) := ⟨⟨by decide +kernel, by decide +kernel⟩, List.mem_of_getElem? (i := 473) (by decide +kernel), List.mem_of_getElem? (i := 743) (by decide +kernel), List.mem_of_getElem? (i := 744) (by decide +kernel)⟩
def lw_privs_3 : List (MethodName × Nat) := [(⟨"SeamPicturesModel", "turn", "()V"⟩, 19), (⟨"SeamPicturesModel", "laySeam", "()V"⟩, 19), (⟨"SeamPicturesModel", "nextFrom", "(II)I"⟩, 19), (⟨"SeamPicturesModel", "costOf", "(III)I"⟩, 19), (⟨"SeamPicturesModel", "layNumber", "(I)Z"⟩, 19), (⟨"SeamPicturesModel", "cutWay", "(I)I"⟩, 19), (⟨"SeamPicturesModel", "cutSeam", "()V"⟩, 19), (⟨"SeamPicturesModel", "move", "(III)V"⟩, 19), (⟨"SeamPicturesModel", "leaveWay", "(I)V"⟩, 19), (⟨"SeamPicturesModel", "give", "()V"⟩, 19), (⟨"SeamPicturesModel", "addSeam", "()V"⟩, 19), (⟨"SeamPicturesModel", "canGo", "(II)Z"⟩, 19), (⟨"SeamPicturesModel", "layBest", "(II)V"⟩, 19), (⟨"SeamPicturesModel", "goOrder", "(II)I"⟩, 19), (⟨"SeamPicturesModel", "layTable", "(II)V"⟩, 19), (⟨"SeamPicturesModel", "save", "(I)V"⟩, 19)]
theorem lw_r3 : ∀ q ∈ lw_privs_3, lw_okq q := List.forall_mem_cons.mpr ⟨lw_p32, List.forall_mem_cons.mpr ⟨lw_p33, List.forall_mem_cons.mpr ⟨lw_p34, List.forall_mem_cons.mpr ⟨lw_p35, List.forall_mem_cons.mpr ⟨lw_p36, List.forall_mem_cons.mpr ⟨lw_p37, List.forall_mem_cons.mpr ⟨lw_p38, List.forall_mem_cons.mpr ⟨lw_p39, List.forall_mem_cons.mpr ⟨lw_p40, List.forall_mem_cons.mpr ⟨lw_p41, List.forall_mem_cons.mpr ⟨lw_p42, List.forall_mem_cons.mpr ⟨lw_p43, List.forall_mem_cons.mpr ⟨lw_p44, List.forall_mem_cons.mpr ⟨lw_p45, List.forall_mem_cons.mpr ⟨lw_p46, List.forall_mem_cons.mpr ⟨lw_p47, fun _ h => absurd h List.not_mem_nil⟩⟩⟩⟩⟩⟩⟩⟩⟩⟩⟩⟩⟩⟩⟩⟩
theorem lw_p48 : lw_okq (⟨"SeamPicturesModel", "layPlace", "(II)V"⟩, 19) := ⟨⟨by decide +kernel, by decide +kernel⟩, List.mem_of_getElem? (i := 473) (by decide +kernel), List.mem_of_getElem? (i := 747) (by decide +kernel), List.mem_of_getElem? (i := 748) (by decide +kernel)⟩
theorem lw_p49 : lw_okq (⟨"SeamPicturesModel", "load", "(II)V"⟩, 19) := ⟨⟨by decide +kernel, by decide +kernel⟩, List.mem_of_getElem? (i := 473) (by decide +kernel), List.mem_of_getElem? (i := 751) (by decide +kernel), List.mem_of_getElem? (i := 752) (by decide +kernel)⟩
theorem lw_p50 : lw_okq (⟨"SeamPicturesModel", "greys", "()I"⟩, 19) := ⟨⟨by decide +kernel, by decide +kernel⟩, List.mem_of_getElem? (i := 473) (by decide +kernel), List.mem_of_getElem? (i := 771) (by decide +kernel), List.mem_of_getElem? (i := 772) (by decide +kernel)⟩
theorem lw_p51 : lw_okq (⟨"SeamPicturesModel", "dotsWith", "(I)I"⟩, 19) := ⟨⟨by decide +kernel, by decide +kernel⟩, List.mem_of_getElem? (i := 473) (by decide +kernel), List.mem_of_getElem? (i := 775) (by decide +kernel), List.mem_of_getElem? (i := 776) (by decide +kernel)⟩
def lw_privs_4 : List (MethodName × Nat) := [(⟨"SeamPicturesModel", "layPlace", "(II)V"⟩, 19), (⟨"SeamPicturesModel", "load", "(II)V"⟩, 19), (⟨"SeamPicturesModel", "greys", "()I"⟩, 19), (⟨"SeamPicturesModel", "dotsWith", "(I)I"⟩, 19)]
theorem lw_r4 : ∀ q ∈ lw_privs_4, lw_okq q := List.forall_mem_cons.mpr ⟨lw_p48, List.forall_mem_cons.mpr ⟨lw_p49, List.forall_mem_cons.mpr ⟨lw_p50, List.forall_mem_cons.mpr ⟨lw_p51, fun _ h => absurd h List.not_mem_nil⟩⟩⟩⟩
def lw_privs : List (MethodName × Nat) := lw_privs_1 ++ (lw_privs_2 ++ (lw_privs_3 ++ (lw_privs_4)))
def lw_tbl : List Cond := k2_sels lw_privs ++ tables_1
theorem lw_privs_ok : ∀ q ∈ lw_privs, lw_okq q := by
  show ∀ q ∈ lw_privs_1 ++ (lw_privs_2 ++ (lw_privs_3 ++ (lw_privs_4))), lw_okq q
  exact List.forall_mem_append.mpr ⟨lw_r1, List.forall_mem_append.mpr ⟨lw_r2, List.forall_mem_append.mpr ⟨lw_r3, lw_r4⟩⟩⟩
-- ===== end of PART A; then your names; then what follows =====
end
section
def RX0 : String := "SeamPictures$CostTable"
def TX0 : u_T := fun k => match k with
  | 0 => ("SeamPictures$CostTable", "row", "[LSeamPictures$Picture;", true)
  | 1 => ("SeamPictures$CostTable", "costs", "[I", true)
  | 2 => ("SeamPictures$CostTable", "upright", "LSeamPictures$Seam;", true)
  | _ => ("SeamPictures$CostTable", "lying", "LSeamPictures$Seam;", true)
def tyX0 : Nat → FieldType := fun k => match k with
  | 0 => .array (.object "SeamPictures$Picture")
  | 1 => .array .int
  | 2 => .object "SeamPictures$Seam"
  | _ => .object "SeamPictures$Seam"
abbrev wsX00 : List Cond := u_ws RX0 TX0 4
theorem nmX0 : ∀ a, a < 4 → ∀ b, b < 4 → a ≠ b → (TX0 a).2.1 ≠ (TX0 b).2.1 := by decide +kernel
theorem tyX0_ok : ∀ k, k < 4 → parseFieldDescriptor (TX0 k).2.2.1 = some (tyX0 k) := by decide +kernel
abbrev cX0_init : ByteArray := prog_2_method_1_code
def yX0_init : MethodName := ⟨RX0, "<init>", "()V"⟩
abbrev cX0_fillTo : ByteArray := prog_2_method_2_code
def yX0_fillTo : MethodName := ⟨RX0, "fillTo", "(LSeamPictures$Picture;II)V"⟩
abbrev cX0_takeCheaper : ByteArray := prog_2_method_3_code
def yX0_takeCheaper : MethodName := ⟨RX0, "takeCheaper", "(I)V"⟩
abbrev cX0_takeUpright : ByteArray := prog_2_method_4_code
def yX0_takeUpright : MethodName := ⟨RX0, "takeUpright", "(I)V"⟩
abbrev cX0_takeLying : ByteArray := prog_2_method_5_code
def yX0_takeLying : MethodName := ⟨RX0, "takeLying", "(I)V"⟩
def RX1 : String := "SeamPictures$OrderSearch"
def TX1 : u_T := fun k => match k with
  | 0 => ("SeamPictures$OrderSearch", "bestCost", "I", false)
  | 1 => ("SeamPictures$OrderSearch", "bestOrder", "I", false)
  | 2 => ("SeamPictures$OrderSearch", "bestKeptCut", "I", false)
  | 3 => ("SeamPictures$OrderSearch", "ordersAtBest", "I", false)
  | 4 => ("SeamPictures$OrderSearch", "stages", "[LSeamPictures$Picture;", true)
  | _ => ("SeamPictures$OrderSearch", "seam", "LSeamPictures$Seam;", true)
def tyX1 : Nat → FieldType := fun k => match k with
  | 0 => .int
  | 1 => .int
  | 2 => .int
  | 3 => .int
  | 4 => .array (.object "SeamPictures$Picture")
  | _ => .object "SeamPictures$Seam"
abbrev wsX10 : List Cond := u_ws RX1 TX1 6
theorem nmX1 : ∀ a, a < 6 → ∀ b, b < 6 → a ≠ b → (TX1 a).2.1 ≠ (TX1 b).2.1 := by decide +kernel
theorem tyX1_ok : ∀ k, k < 6 → parseFieldDescriptor (TX1 k).2.2.1 = some (tyX1 k) := by decide +kernel
abbrev cX1_init : ByteArray := prog_3_method_1_code
def yX1_init : MethodName := ⟨RX1, "<init>", "()V"⟩
abbrev cX1_findBest : ByteArray := prog_3_method_2_code
def yX1_findBest : MethodName := ⟨RX1, "findBest", "(LSeamPictures$Picture;II)V"⟩
abbrev cX1_tryOrders : ByteArray := prog_3_method_3_code
def yX1_tryOrders : MethodName := ⟨RX1, "tryOrders", "(IIIIII)V"⟩
abbrev cX1_compare : ByteArray := prog_3_method_4_code
def yX1_compare : MethodName := ⟨RX1, "compare", "(III)V"⟩
def RX2 : String := "SeamPictures$Pad"
def TX2 : u_T := fun k => match k with
  | 0 => ("SeamPictures$Pad", "length", "I", false)
  | _ => ("SeamPictures$Pad", "signs", "[I", true)
def tyX2 : Nat → FieldType := fun k => match k with
  | 0 => .int
  | _ => .array .int
abbrev wsX20 : List Cond := u_ws RX2 TX2 2
theorem nmX2 : ∀ a, a < 2 → ∀ b, b < 2 → a ≠ b → (TX2 a).2.1 ≠ (TX2 b).2.1 := by decide +kernel
theorem tyX2_ok : ∀ k, k < 2 → parseFieldDescriptor (TX2 k).2.2.1 = some (tyX2 k) := by decide +kernel
abbrev cX2_init : ByteArray := prog_4_method_1_code
def yX2_init : MethodName := ⟨RX2, "<init>", "()V"⟩
abbrev cX2_isFull : ByteArray := prog_4_method_2_code
def yX2_isFull : MethodName := ⟨RX2, "isFull", "()Z"⟩
abbrev cX2_append : ByteArray := prog_4_method_3_code
def yX2_append : MethodName := ⟨RX2, "append", "(I)I"⟩
abbrev cX2_clear : ByteArray := prog_4_method_4_code
def yX2_clear : MethodName := ⟨RX2, "clear", "()I"⟩
abbrev cX2_firstFault : ByteArray := prog_4_method_5_code
def yX2_firstFault : MethodName := ⟨RX2, "firstFault", "(III)I"⟩
abbrev cX2_canStand : ByteArray := prog_4_method_6_code
def yX2_canStand : MethodName := ⟨RX2, "canStand", "(IIZ)Z"⟩
abbrev cX2_valueOf : ByteArray := prog_4_method_7_code
def yX2_valueOf : MethodName := ⟨RX2, "valueOf", "(II)I"⟩
abbrev cX2_layOn : ByteArray := prog_4_method_8_code
def yX2_layOn : MethodName := ⟨RX2, "layOn", "(LSeamPictures$Picture;I)I"⟩
def RX3 : String := "SeamPictures$Picture"
def TX3 : u_T := fun k => match k with
  | 0 => ("SeamPictures$Picture", "wide", "I", false)
  | 1 => ("SeamPictures$Picture", "high", "I", false)
  | 2 => ("SeamPictures$Picture", "law", "I", false)
  | 3 => ("SeamPictures$Picture", "greys", "[I", true)
  | _ => ("SeamPictures$Picture", "marks", "[I", true)
def tyX3 : Nat → FieldType := fun k => match k with
  | 0 => .int
  | 1 => .int
  | 2 => .int
  | 3 => .array .int
  | _ => .array .int
abbrev wsX30 : List Cond := u_ws RX3 TX3 5
theorem nmX3 : ∀ a, a < 5 → ∀ b, b < 5 → a ≠ b → (TX3 a).2.1 ≠ (TX3 b).2.1 := by decide +kernel
theorem tyX3_ok : ∀ k, k < 5 → parseFieldDescriptor (TX3 k).2.2.1 = some (tyX3 k) := by decide +kernel
abbrev cX3_init : ByteArray := prog_5_method_1_code
def yX3_init : MethodName := ⟨RX3, "<init>", "()V"⟩
abbrev cX3_blank : ByteArray := prog_5_method_2_code
def yX3_blank : MethodName := ⟨RX3, "blank", "(II)V"⟩
abbrev cX3_copyFrom : ByteArray := prog_5_method_3_code
def yX3_copyFrom : MethodName := ⟨RX3, "copyFrom", "(LSeamPictures$Picture;)V"⟩
abbrev cX3_hasDot : ByteArray := prog_5_method_4_code
def yX3_hasDot : MethodName := ⟨RX3, "hasDot", "(II)Z"⟩
abbrev cX3_lines : ByteArray := prog_5_method_5_code
def yX3_lines : MethodName := ⟨RX3, "lines", "(I)I"⟩
abbrev cX3_breadth : ByteArray := prog_5_method_6_code
def yX3_breadth : MethodName := ⟨RX3, "breadth", "(I)I"⟩
abbrev cX3_index : ByteArray := prog_5_method_7_code
def yX3_index : MethodName := ⟨RX3, "index", "(III)I"⟩
abbrev cX3_changeGrey : ByteArray := prog_5_method_8_code
def yX3_changeGrey : MethodName := ⟨RX3, "changeGrey", "(III)I"⟩
abbrev cX3_changeMark : ByteArray := prog_5_method_9_code
def yX3_changeMark : MethodName := ⟨RX3, "changeMark", "(III)I"⟩
abbrev cX3_greyAt : ByteArray := prog_5_method_10_code
def yX3_greyAt : MethodName := ⟨RX3, "greyAt", "(III)I"⟩
abbrev cX3_markAt : ByteArray := prog_5_method_11_code
def yX3_markAt : MethodName := ⟨RX3, "markAt", "(III)I"⟩
abbrev cX3_extraAt : ByteArray := prog_5_method_12_code
def yX3_extraAt : MethodName := ⟨RX3, "extraAt", "(III)I"⟩
abbrev cX3_gapAt : ByteArray := prog_5_method_13_code
def yX3_gapAt : MethodName := ⟨RX3, "gapAt", "(III)I"⟩
abbrev cX3_edgeAt : ByteArray := prog_5_method_14_code
def yX3_edgeAt : MethodName := ⟨RX3, "edgeAt", "(II)I"⟩
abbrev cX3_weightAt : ByteArray := prog_5_method_15_code
def yX3_weightAt : MethodName := ⟨RX3, "weightAt", "(II)I"⟩
abbrev cX3_standingCost : ByteArray := prog_5_method_16_code
def yX3_standingCost : MethodName := ⟨RX3, "standingCost", "(III)I"⟩
abbrev cX3_turningCost : ByteArray := prog_5_method_17_code
def yX3_turningCost : MethodName := ⟨RX3, "turningCost", "(IIII)I"⟩
abbrev cX3_lightestInRow : ByteArray := prog_5_method_18_code
def yX3_lightestInRow : MethodName := ⟨RX3, "lightestInRow", "(I)I"⟩
abbrev cX3_lightestInColumn : ByteArray := prog_5_method_19_code
def yX3_lightestInColumn : MethodName := ⟨RX3, "lightestInColumn", "(I)I"⟩
abbrev cX3_sumOfGreys : ByteArray := prog_5_method_20_code
def yX3_sumOfGreys : MethodName := ⟨RX3, "sumOfGreys", "()I"⟩
abbrev cX3_dotsMarked : ByteArray := prog_5_method_21_code
def yX3_dotsMarked : MethodName := ⟨RX3, "dotsMarked", "(I)I"⟩
abbrev cX3_keptDotsOf : ByteArray := prog_5_method_22_code
def yX3_keptDotsOf : MethodName := ⟨RX3, "keptDotsOf", "(LSeamPictures$Seam;)I"⟩
abbrev cX3_takeOut : ByteArray := prog_5_method_23_code
def yX3_takeOut : MethodName := ⟨RX3, "takeOut", "(LSeamPictures$Seam;)V"⟩
abbrev cX3_putIn : ByteArray := prog_5_method_24_code
def yX3_putIn : MethodName := ⟨RX3, "putIn", "(LSeamPictures$Seam;)V"⟩
abbrev cX3_moveDot : ByteArray := prog_5_method_25_code
def yX3_moveDot : MethodName := ⟨RX3, "moveDot", "(IIII)V"⟩
abbrev cX3_broaden : ByteArray := prog_5_method_26_code
def yX3_broaden : MethodName := ⟨RX3, "broaden", "(II)V"⟩
def RX4 : String := "SeamPictures$Seam"
def TX4 : u_T := fun k => match k with
  | 0 => ("SeamPictures$Seam", "way", "I", false)
  | 1 => ("SeamPictures$Seam", "total", "I", false)
  | 2 => ("SeamPictures$Seam", "places", "[I", true)
  | 3 => ("SeamPictures$Seam", "costToEnd", "[I", true)
  | _ => ("SeamPictures$Seam", "goesOnAt", "[I", true)
def tyX4 : Nat → FieldType := fun k => match k with
  | 0 => .int
  | 1 => .int
  | 2 => .array .int
  | 3 => .array .int
  | _ => .array .int
abbrev wsX40 : List Cond := u_ws RX4 TX4 5
theorem nmX4 : ∀ a, a < 5 → ∀ b, b < 5 → a ≠ b → (TX4 a).2.1 ≠ (TX4 b).2.1 := by decide +kernel
theorem tyX4_ok : ∀ k, k < 5 → parseFieldDescriptor (TX4 k).2.2.1 = some (tyX4 k) := by decide +kernel
abbrev cX4_init : ByteArray := prog_6_method_1_code
def yX4_init : MethodName := ⟨RX4, "<init>", "()V"⟩
abbrev cX4_findLeast : ByteArray := prog_6_method_2_code
def yX4_findLeast : MethodName := ⟨RX4, "findLeast", "(LSeamPictures$Picture;I)V"⟩
abbrev cX4_weighDot : ByteArray := prog_6_method_3_code
def yX4_weighDot : MethodName := ⟨RX4, "weighDot", "(LSeamPictures$Picture;IIZ)V"⟩
abbrev cX4_goOnFrom : ByteArray := prog_6_method_4_code
def yX4_goOnFrom : MethodName := ⟨RX4, "goOnFrom", "(LSeamPictures$Picture;II)V"⟩
abbrev cX4_leastStart : ByteArray := prog_6_method_5_code
def yX4_leastStart : MethodName := ⟨RX4, "leastStart", "(I)I"⟩
abbrev cX4_readNumber : ByteArray := prog_6_method_6_code
def yX4_readNumber : MethodName := ⟨RX4, "readNumber", "(LSeamPictures$Picture;II)Z"⟩
abbrev cX4_hangsTogether : ByteArray := prog_6_method_7_code
def yX4_hangsTogether : MethodName := ⟨RX4, "hangsTogether", "(II)Z"⟩
abbrev cX4_sumOfCosts : ByteArray := prog_6_method_8_code
def yX4_sumOfCosts : MethodName := ⟨RX4, "sumOfCosts", "(LSeamPictures$Picture;I)I"⟩
def RX5 : String := "SeamPictures"
def TX5 : u_T := fun k => match k with
  | 0 => ("SeamPictures", "picture", "LSeamPictures$Picture;", true)
  | 1 => ("SeamPictures", "found", "LSeamPictures$Seam;", true)
  | 2 => ("SeamPictures", "pad", "LSeamPictures$Pad;", true)
  | 3 => ("SeamPictures", "search", "LSeamPictures$OrderSearch;", true)
  | 4 => ("SeamPictures", "costTable", "LSeamPictures$CostTable;", true)
  | 5 => ("SeamPictures", "images", "[LSeamPictures$Picture;", true)
  | _ => ("SeamPictures", "imageKept", "[Z", true)
def tyX5 : Nat → FieldType := fun k => match k with
  | 0 => .object "SeamPictures$Picture"
  | 1 => .object "SeamPictures$Seam"
  | 2 => .object "SeamPictures$Pad"
  | 3 => .object "SeamPictures$OrderSearch"
  | 4 => .object "SeamPictures$CostTable"
  | 5 => .array (.object "SeamPictures$Picture")
  | _ => .array .boolean
abbrev wsX50 : List Cond := u_ws RX5 TX5 7
theorem nmX5 : ∀ a, a < 7 → ∀ b, b < 7 → a ≠ b → (TX5 a).2.1 ≠ (TX5 b).2.1 := by decide +kernel
theorem tyX5_ok : ∀ k, k < 7 → parseFieldDescriptor (TX5 k).2.2.1 = some (tyX5 k) := by decide +kernel
abbrev cX5_init : ByteArray := prog_1_method_1_code
def yX5_init : MethodName := ⟨RX5, "<init>", "()V"⟩
abbrev cX5_size : ByteArray := prog_1_method_2_code
def yX5_size : MethodName := ⟨RX5, "size", "(II)I"⟩
abbrev cX5_grey : ByteArray := prog_1_method_3_code
def yX5_grey : MethodName := ⟨RX5, "grey", "(III)I"⟩
abbrev cX5_mark : ByteArray := prog_1_method_4_code
def yX5_mark : MethodName := ⟨RX5, "mark", "(III)I"⟩
abbrev cX5_rule : ByteArray := prog_1_method_5_code
def yX5_rule : MethodName := ⟨RX5, "rule", "(I)I"⟩
abbrev cX5_dot : ByteArray := prog_1_method_6_code
def yX5_dot : MethodName := ⟨RX5, "dot", "(III)I"⟩
abbrev cX5_say : ByteArray := prog_1_method_7_code
def yX5_say : MethodName := ⟨RX5, "say", "(I)I"⟩
abbrev cX5_wipe : ByteArray := prog_1_method_8_code
def yX5_wipe : MethodName := ⟨RX5, "wipe", "()I"⟩
abbrev cX5_fault : ByteArray := prog_1_method_9_code
def yX5_fault : MethodName := ⟨RX5, "fault", "(I)I"⟩
abbrev cX5_lay : ByteArray := prog_1_method_10_code
def yX5_lay : MethodName := ⟨RX5, "lay", "(I)I"⟩
abbrev cX5_seam : ByteArray := prog_1_method_11_code
def yX5_seam : MethodName := ⟨RX5, "seam", "(II)I"⟩
abbrev cX5_cost : ByteArray := prog_1_method_12_code
def yX5_cost : MethodName := ⟨RX5, "cost", "(II)I"⟩
abbrev cX5_cut : ByteArray := prog_1_method_13_code
def yX5_cut : MethodName := ⟨RX5, "cut", "(I)I"⟩
abbrev cX5_add : ByteArray := prog_1_method_14_code
def yX5_add : MethodName := ⟨RX5, "add", "(I)I"⟩
abbrev cX5_least : ByteArray := prog_1_method_15_code
def yX5_least : MethodName := ⟨RX5, "least", "(II)I"⟩
abbrev cX5_best : ByteArray := prog_1_method_16_code
def yX5_best : MethodName := ⟨RX5, "best", "(III)I"⟩
abbrev cX5_table : ByteArray := prog_1_method_17_code
def yX5_table : MethodName := ⟨RX5, "table", "(III)I"⟩
abbrev cX5_go : ByteArray := prog_1_method_18_code
def yX5_go : MethodName := ⟨RX5, "go", "(II)I"⟩
abbrev cX5_image : ByteArray := prog_1_method_19_code
def yX5_image : MethodName := ⟨RX5, "image", "(I)I"⟩
abbrev cX5_restore : ByteArray := prog_1_method_20_code
def yX5_restore : MethodName := ⟨RX5, "restore", "(I)I"⟩
abbrev cX5_count : ByteArray := prog_1_method_21_code
def yX5_count : MethodName := ⟨RX5, "count", "(I)I"⟩
abbrev cX5_imagesKept : ByteArray := prog_1_method_22_code
def yX5_imagesKept : MethodName := ⟨RX5, "imagesKept", "()I"⟩
abbrev cX5_canReach : ByteArray := prog_1_method_23_code
def yX5_canReach : MethodName := ⟨RX5, "canReach", "(II)Z"⟩
abbrev cX5_isSide : ByteArray := prog_1_method_24_code
def yX5_isSide : MethodName := ⟨RX5, "isSide", "(I)Z"⟩
abbrev cX5_isBit : ByteArray := prog_1_method_25_code
def yX5_isBit : MethodName := ⟨RX5, "isBit", "(I)Z"⟩
def RX6 : String := "SeamPicturesModel"
def TX6 : u_T := fun k => match k with
  | 0 => ("SeamPicturesModel", "state", "[I", true)
  | 1 => ("SeamPicturesModel", "images", "[I", true)
  | 2 => ("SeamPicturesModel", "isKept", "[Z", true)
  | 3 => ("SeamPicturesModel", "pad", "[I", true)
  | 4 => ("SeamPicturesModel", "said", "I", false)
  | 5 => ("SeamPicturesModel", "grey", "[I", true)
  | 6 => ("SeamPicturesModel", "mark", "[I", true)
  | 7 => ("SeamPicturesModel", "wide", "I", false)
  | 8 => ("SeamPicturesModel", "high", "I", false)
  | 9 => ("SeamPicturesModel", "rest", "[I", true)
  | 10 => ("SeamPicturesModel", "seam", "[I", true)
  | 11 => ("SeamPicturesModel", "seamCost", "I", false)
  | 12 => ("SeamPicturesModel", "keptCut", "I", false)
  | 13 => ("SeamPicturesModel", "bestCost", "I", false)
  | 14 => ("SeamPicturesModel", "bestOrder", "I", false)
  | 15 => ("SeamPicturesModel", "asGood", "I", false)
  | 16 => ("SeamPicturesModel", "bestKept", "I", false)
  | 17 => ("SeamPicturesModel", "table", "[I", true)
  | _ => ("SeamPicturesModel", "tableCost", "[I", true)
def tyX6 : Nat → FieldType := fun k => match k with
  | 0 => .array .int
  | 1 => .array .int
  | 2 => .array .boolean
  | 3 => .array .int
  | 4 => .int
  | 5 => .array .int
  | 6 => .array .int
  | 7 => .int
  | 8 => .int
  | 9 => .array .int
  | 10 => .array .int
  | 11 => .int
  | 12 => .int
  | 13 => .int
  | 14 => .int
  | 15 => .int
  | 16 => .int
  | 17 => .array .int
  | _ => .array .int
abbrev wsX60 : List Cond := u_ws RX6 TX6 19
theorem nmX6 : ∀ a, a < 19 → ∀ b, b < 19 → a ≠ b → (TX6 a).2.1 ≠ (TX6 b).2.1 := by decide +kernel
theorem tyX6_ok : ∀ k, k < 19 → parseFieldDescriptor (TX6 k).2.2.1 = some (tyX6 k) := by decide +kernel
abbrev cX6_init : ByteArray := prog_8_method_1_code
def yX6_init : MethodName := ⟨RX6, "<init>", "()V"⟩
abbrev cX6_in : ByteArray := prog_8_method_2_code
def yX6_in : MethodName := ⟨RX6, "in", "(III)Z"⟩
abbrev cX6_size : ByteArray := prog_8_method_3_code
def yX6_size : MethodName := ⟨RX6, "size", "(I)I"⟩
abbrev cX6_at : ByteArray := prog_8_method_4_code
def yX6_at : MethodName := ⟨RX6, "at", "(II)I"⟩
abbrev cX6_isDot : ByteArray := prog_8_method_5_code
def yX6_isDot : MethodName := ⟨RX6, "isDot", "(II)Z"⟩
abbrev cX6_take : ByteArray := prog_8_method_6_code
def yX6_take : MethodName := ⟨RX6, "take", "()V"⟩
abbrev cX6_give : ByteArray := prog_8_method_7_code
def yX6_give : MethodName := ⟨RX6, "give", "()V"⟩
abbrev cX6_turn : ByteArray := prog_8_method_8_code
def yX6_turn : MethodName := ⟨RX6, "turn", "()V"⟩
abbrev cX6_greyAt : ByteArray := prog_8_method_9_code
def yX6_greyAt : MethodName := ⟨RX6, "greyAt", "(II)I"⟩
abbrev cX6_left : ByteArray := prog_8_method_10_code
def yX6_left : MethodName := ⟨RX6, "left", "(II)I"⟩
abbrev cX6_right : ByteArray := prog_8_method_11_code
def yX6_right : MethodName := ⟨RX6, "right", "(II)I"⟩
abbrev cX6_above : ByteArray := prog_8_method_12_code
def yX6_above : MethodName := ⟨RX6, "above", "(II)I"⟩
abbrev cX6_below : ByteArray := prog_8_method_13_code
def yX6_below : MethodName := ⟨RX6, "below", "(II)I"⟩
abbrev cX6_extra : ByteArray := prog_8_method_14_code
def yX6_extra : MethodName := ⟨RX6, "extra", "(II)I"⟩
abbrev cX6_across : ByteArray := prog_8_method_15_code
def yX6_across : MethodName := ⟨RX6, "across", "(II)I"⟩
abbrev cX6_edge : ByteArray := prog_8_method_16_code
def yX6_edge : MethodName := ⟨RX6, "edge", "(II)I"⟩
abbrev cX6_weight : ByteArray := prog_8_method_17_code
def yX6_weight : MethodName := ⟨RX6, "weight", "(II)I"⟩
abbrev cX6_costOf : ByteArray := prog_8_method_18_code
def yX6_costOf : MethodName := ⟨RX6, "costOf", "(III)I"⟩
abbrev cX6_nextFrom : ByteArray := prog_8_method_19_code
def yX6_nextFrom : MethodName := ⟨RX6, "nextFrom", "(II)I"⟩
abbrev cX6_laySeam : ByteArray := prog_8_method_20_code
def yX6_laySeam : MethodName := ⟨RX6, "laySeam", "()V"⟩
abbrev cX6_layWay : ByteArray := prog_8_method_21_code
def yX6_layWay : MethodName := ⟨RX6, "layWay", "(I)V"⟩
abbrev cX6_leaveWay : ByteArray := prog_8_method_22_code
def yX6_leaveWay : MethodName := ⟨RX6, "leaveWay", "(I)V"⟩
abbrev cX6_move : ByteArray := prog_8_method_23_code
def yX6_move : MethodName := ⟨RX6, "move", "(III)V"⟩
abbrev cX6_cutSeam : ByteArray := prog_8_method_24_code
def yX6_cutSeam : MethodName := ⟨RX6, "cutSeam", "()V"⟩
abbrev cX6_addSeam : ByteArray := prog_8_method_25_code
def yX6_addSeam : MethodName := ⟨RX6, "addSeam", "()V"⟩
abbrev cX6_cutWay : ByteArray := prog_8_method_26_code
def yX6_cutWay : MethodName := ⟨RX6, "cutWay", "(I)I"⟩
abbrev cX6_size_ : ByteArray := prog_8_method_27_code
def yX6_size_ : MethodName := ⟨RX6, "size", "(II)I"⟩
abbrev cX6_grey : ByteArray := prog_8_method_28_code
def yX6_grey : MethodName := ⟨RX6, "grey", "(III)I"⟩
abbrev cX6_mark : ByteArray := prog_8_method_29_code
def yX6_mark : MethodName := ⟨RX6, "mark", "(III)I"⟩
abbrev cX6_rule : ByteArray := prog_8_method_30_code
def yX6_rule : MethodName := ⟨RX6, "rule", "(I)I"⟩
abbrev cX6_dot : ByteArray := prog_8_method_31_code
def yX6_dot : MethodName := ⟨RX6, "dot", "(III)I"⟩
abbrev cX6_say : ByteArray := prog_8_method_32_code
def yX6_say : MethodName := ⟨RX6, "say", "(I)I"⟩
abbrev cX6_wipe : ByteArray := prog_8_method_33_code
def yX6_wipe : MethodName := ⟨RX6, "wipe", "()I"⟩
abbrev cX6_valueOf : ByteArray := prog_8_method_34_code
def yX6_valueOf : MethodName := ⟨RX6, "valueOf", "(II)I"⟩
abbrev cX6_signs : ByteArray := prog_8_method_35_code
def yX6_signs : MethodName := ⟨RX6, "signs", "()I"⟩
abbrev cX6_isBetween : ByteArray := prog_8_method_36_code
def yX6_isBetween : MethodName := ⟨RX6, "isBetween", "(I)Z"⟩
abbrev cX6_faultAs : ByteArray := prog_8_method_37_code
def yX6_faultAs : MethodName := ⟨RX6, "faultAs", "(I)I"⟩
abbrev cX6_fault : ByteArray := prog_8_method_38_code
def yX6_fault : MethodName := ⟨RX6, "fault", "(I)I"⟩
abbrev cX6_lay : ByteArray := prog_8_method_39_code
def yX6_lay : MethodName := ⟨RX6, "lay", "(I)I"⟩
abbrev cX6_isWay : ByteArray := prog_8_method_40_code
def yX6_isWay : MethodName := ⟨RX6, "isWay", "(I)Z"⟩
abbrev cX6_seam : ByteArray := prog_8_method_41_code
def yX6_seam : MethodName := ⟨RX6, "seam", "(II)I"⟩
abbrev cX6_layNumber : ByteArray := prog_8_method_42_code
def yX6_layNumber : MethodName := ⟨RX6, "layNumber", "(I)Z"⟩
abbrev cX6_cost : ByteArray := prog_8_method_43_code
def yX6_cost : MethodName := ⟨RX6, "cost", "(II)I"⟩
abbrev cX6_cut : ByteArray := prog_8_method_44_code
def yX6_cut : MethodName := ⟨RX6, "cut", "(I)I"⟩
abbrev cX6_add : ByteArray := prog_8_method_45_code
def yX6_add : MethodName := ⟨RX6, "add", "(I)I"⟩
abbrev cX6_least : ByteArray := prog_8_method_46_code
def yX6_least : MethodName := ⟨RX6, "least", "(II)I"⟩
abbrev cX6_bits : ByteArray := prog_8_method_47_code
def yX6_bits : MethodName := ⟨RX6, "bits", "(I)I"⟩
abbrev cX6_goOrder : ByteArray := prog_8_method_48_code
def yX6_goOrder : MethodName := ⟨RX6, "goOrder", "(II)I"⟩
abbrev cX6_layBest : ByteArray := prog_8_method_49_code
def yX6_layBest : MethodName := ⟨RX6, "layBest", "(II)V"⟩
abbrev cX6_turned : ByteArray := prog_8_method_50_code
def yX6_turned : MethodName := ⟨RX6, "turned", "(II)I"⟩
abbrev cX6_canGo : ByteArray := prog_8_method_51_code
def yX6_canGo : MethodName := ⟨RX6, "canGo", "(II)Z"⟩
abbrev cX6_best : ByteArray := prog_8_method_52_code
def yX6_best : MethodName := ⟨RX6, "best", "(III)I"⟩
abbrev cX6_save : ByteArray := prog_8_method_53_code
def yX6_save : MethodName := ⟨RX6, "save", "(I)V"⟩
abbrev cX6_load : ByteArray := prog_8_method_54_code
def yX6_load : MethodName := ⟨RX6, "load", "(II)V"⟩
abbrev cX6_layPlace : ByteArray := prog_8_method_55_code
def yX6_layPlace : MethodName := ⟨RX6, "layPlace", "(II)V"⟩
abbrev cX6_layTable : ByteArray := prog_8_method_56_code
def yX6_layTable : MethodName := ⟨RX6, "layTable", "(II)V"⟩
abbrev cX6_table : ByteArray := prog_8_method_57_code
def yX6_table : MethodName := ⟨RX6, "table", "(III)I"⟩
abbrev cX6_go : ByteArray := prog_8_method_58_code
def yX6_go : MethodName := ⟨RX6, "go", "(II)I"⟩
abbrev cX6_image : ByteArray := prog_8_method_59_code
def yX6_image : MethodName := ⟨RX6, "image", "(I)I"⟩
abbrev cX6_restore : ByteArray := prog_8_method_60_code
def yX6_restore : MethodName := ⟨RX6, "restore", "(I)I"⟩
abbrev cX6_dotsWith : ByteArray := prog_8_method_61_code
def yX6_dotsWith : MethodName := ⟨RX6, "dotsWith", "(I)I"⟩
abbrev cX6_greys : ByteArray := prog_8_method_62_code
def yX6_greys : MethodName := ⟨RX6, "greys", "()I"⟩
abbrev cX6_count : ByteArray := prog_8_method_63_code
def yX6_count : MethodName := ⟨RX6, "count", "(I)I"⟩
def RJ9 : String := "java/lang/Math"
def TJ9 : u_T := fun k => match k with
  | _ => ("", "", "", false)
def tyJ9 : Nat → FieldType := fun k => match k with
  | _ => .int
abbrev wsJ90 : List Cond := u_ws RJ9 TJ9 0
theorem nmJ9 : ∀ a, a < 0 → ∀ b, b < 0 → a ≠ b → (TJ9 a).2.1 ≠ (TJ9 b).2.1 := by decide +kernel
theorem tyJ9_ok : ∀ k, k < 0 → parseFieldDescriptor (TJ9 k).2.2.1 = some (tyJ9 k) := by decide +kernel
abbrev cJ9_abs_0f7a4 : ByteArray := prog_9_method_59_code
def yJ9_abs_0f7a4 : MethodName := ⟨RJ9, "abs", "(I)I"⟩
abbrev cJ9_max_7cf53 : ByteArray := prog_9_method_65_code
def yJ9_max_7cf53 : MethodName := ⟨RJ9, "max", "(II)I"⟩
abbrev cJ9_min_7cf53 : ByteArray := prog_9_method_69_code
def yJ9_min_7cf53 : MethodName := ⟨RJ9, "min", "(II)I"⟩
def RL : String := "SeamPicturesLaw"
abbrev cL_law : ByteArray := code
def yL_law : MethodName := ⟨RL, "law", "([I)Z"⟩
def wsL_law_r1 : List Cond := [Cond.classLink RL 7 RX5, Cond.instantiable RX5 7, Cond.initialized RX5, Cond.classLink RL 10 RX6, Cond.instantiable RX6 19, Cond.initialized RX6, Cond.methodLink RL 9 yX5_init, Cond.instanceMethod yX5_init, Cond.code yX5_init cX5_init 2 none, Cond.methodLink RX5 1 objectInit, Cond.instanceMethod objectInit, Cond.code objectInit ⟨#[0xb1]⟩ 1 none, Cond.classLink RX5 7 RX3, Cond.instantiable RX3 5, Cond.initialized RX3, Cond.fieldLink RX5 10 "SeamPictures" "picture" "LSeamPictures$Picture;", Cond.classLink RX5 16 RX4, Cond.instantiable RX4 5, Cond.initialized RX4, Cond.fieldLink RX5 19 "SeamPictures" "found" "LSeamPictures$Seam;", Cond.classLink RX5 23 RX2, Cond.instantiable RX2 2, Cond.initialized RX2, Cond.fieldLink RX5 26 "SeamPictures" "pad" "LSeamPictures$Pad;"]
def wsL_law_r2 : List Cond := [Cond.classLink RX5 30 RX1, Cond.instantiable RX1 6, Cond.initialized RX1, Cond.fieldLink RX5 33 "SeamPictures" "search" "LSeamPictures$OrderSearch;", Cond.classLink RX5 37 RX0, Cond.instantiable RX0 4, Cond.initialized RX0, Cond.fieldLink RX5 40 "SeamPictures" "costTable" "LSeamPictures$CostTable;", Cond.fieldLink RX5 44 "SeamPictures" "images" "[LSeamPictures$Picture;", Cond.arrayClass .boolean, Cond.fieldLink RX5 48 "SeamPictures" "imageKept" "[Z", Cond.methodLink RX5 9 yX3_init, Cond.instanceMethod yX3_init, Cond.code yX3_init cX3_init 1 none, Cond.methodLink RX3 3 objectInit, Cond.fieldLink RX3 9 "SeamPictures$Picture" "wide" "I", Cond.fieldLink RX3 15 "SeamPictures$Picture" "high" "I", Cond.arrayClass .int, Cond.fieldLink RX3 18 "SeamPictures$Picture" "greys" "[I", Cond.fieldLink RX3 22 "SeamPictures$Picture" "marks" "[I", Cond.methodLink RX5 18 yX4_init, Cond.instanceMethod yX4_init, Cond.code yX4_init cX4_init 1 none, Cond.methodLink RX4 3 objectInit]
def wsL_law_r3 : List Cond := [Cond.fieldLink RX4 9 "SeamPictures$Seam" "places" "[I", Cond.fieldLink RX4 15 "SeamPictures$Seam" "costToEnd" "[I", Cond.fieldLink RX4 18 "SeamPictures$Seam" "goesOnAt" "[I", Cond.methodLink RX5 25 yX2_init, Cond.instanceMethod yX2_init, Cond.code yX2_init cX2_init 1 none, Cond.methodLink RX2 3 objectInit, Cond.fieldLink RX2 11 "SeamPictures$Pad" "signs" "[I", Cond.methodLink RX5 32 yX1_init, Cond.instanceMethod yX1_init, Cond.code yX1_init cX1_init 2 none, Cond.methodLink RX1 3 objectInit, Cond.classLink RX1 9 RX3, Cond.fieldLink RX1 11 "SeamPictures$OrderSearch" "stages" "[LSeamPictures$Picture;", Cond.classLink RX1 18 RX4, Cond.fieldLink RX1 21 "SeamPictures$OrderSearch" "seam" "LSeamPictures$Seam;", Cond.methodLink RX1 17 yX3_init, Cond.methodLink RX1 20 yX4_init, Cond.methodLink RX5 39 yX0_init, Cond.instanceMethod yX0_init, Cond.code yX0_init cX0_init 2 none, Cond.methodLink RX0 3 objectInit, Cond.classLink RX0 9 RX3, Cond.fieldLink RX0 11 "SeamPictures$CostTable" "row" "[LSeamPictures$Picture;"]
def wsL_law_r4 : List Cond := [Cond.fieldLink RX0 18 "SeamPictures$CostTable" "costs" "[I", Cond.classLink RX0 22 RX4, Cond.fieldLink RX0 25 "SeamPictures$CostTable" "upright" "LSeamPictures$Seam;", Cond.fieldLink RX0 29 "SeamPictures$CostTable" "lying" "LSeamPictures$Seam;", Cond.methodLink RX0 17 yX3_init, Cond.methodLink RX0 24 yX4_init, Cond.methodLink RL 12 yX6_init, Cond.instanceMethod yX6_init, Cond.code yX6_init cX6_init 1 none, Cond.methodLink RX6 1 objectInit, Cond.fieldLink RX6 7 "SeamPicturesModel" "state" "[I", Cond.fieldLink RX6 13 "SeamPicturesModel" "images" "[I", Cond.fieldLink RX6 16 "SeamPicturesModel" "isKept" "[Z", Cond.fieldLink RX6 20 "SeamPicturesModel" "pad" "[I", Cond.fieldLink RX6 23 "SeamPicturesModel" "grey" "[I", Cond.fieldLink RX6 26 "SeamPicturesModel" "mark" "[I", Cond.fieldLink RX6 29 "SeamPicturesModel" "rest" "[I", Cond.fieldLink RX6 32 "SeamPicturesModel" "seam" "[I", Cond.fieldLink RX6 35 "SeamPicturesModel" "table" "[I", Cond.fieldLink RX6 38 "SeamPicturesModel" "tableCost" "[I", Cond.methodLink RL 13 yX5_size, Cond.instanceMethod yX5_size, Cond.selects RX5 yX5_size yX5_size, Cond.code yX5_size cX5_size 4 (some .int)]
def wsL_law_r5 : List Cond := [Cond.fieldLink RX5 56 "SeamPictures$Picture" "wide" "I", Cond.fieldLink RX5 60 "SeamPictures$Picture" "high" "I", Cond.methodLink RX5 52 yX5_isSide, Cond.static yX5_isSide, Cond.code yX5_isSide cX5_isSide 1 (some .boolean), Cond.methodLink RX5 63 yX3_blank, Cond.instanceMethod yX3_blank, Cond.selects RX3 yX3_blank yX3_blank, Cond.code yX3_blank cX3_blank 4 none, Cond.methodLink RL 17 yX6_size_, Cond.instanceMethod yX6_size_, Cond.selects RX6 yX6_size_ yX6_size_, Cond.code yX6_size_ cX6_size_ 5 (some .int), Cond.methodLink RX6 41 yX6_in, Cond.static yX6_in, Cond.code yX6_in cX6_in 3 (some .boolean), Cond.methodLink RL 18 yX5_grey, Cond.instanceMethod yX5_grey, Cond.selects RX5 yX5_grey yX5_grey, Cond.code yX5_grey cX5_grey 4 (some .int), Cond.methodLink RX5 67 yX3_hasDot, Cond.instanceMethod yX3_hasDot, Cond.selects RX3 yX3_hasDot yX3_hasDot, Cond.code yX3_hasDot cX3_hasDot 3 (some .boolean)]
def wsL_law_r6 : List Cond := [Cond.methodLink RX5 71 yX3_changeGrey, Cond.instanceMethod yX3_changeGrey, Cond.selects RX3 yX3_changeGrey yX3_changeGrey, Cond.code yX3_changeGrey cX3_changeGrey 6 (some .int), Cond.methodLink RX3 28 yX3_index, Cond.static yX3_index, Cond.code yX3_index cX3_index 3 (some .int), Cond.methodLink RL 22 yX6_grey, Cond.instanceMethod yX6_grey, Cond.selects RX6 yX6_grey yX6_grey, Cond.code yX6_grey cX6_grey 5 (some .int), Cond.methodLink RX6 120 yX6_isDot, Cond.instanceMethod yX6_isDot, Cond.selects RX6 yX6_isDot yX6_isDot, Cond.code yX6_isDot cX6_isDot 3 (some .boolean), Cond.methodLink RX6 52 yX6_at, Cond.static yX6_at, Cond.code yX6_at cX6_at 2 (some .int), Cond.methodLink RL 23 yX5_mark, Cond.instanceMethod yX5_mark, Cond.selects RX5 yX5_mark yX5_mark, Cond.code yX5_mark cX5_mark 4 (some .int), Cond.methodLink RX5 75 yX3_changeMark, Cond.instanceMethod yX3_changeMark]
def wsL_law_r7 : List Cond := [Cond.selects RX3 yX3_changeMark yX3_changeMark, Cond.code yX3_changeMark cX3_changeMark 6 (some .int), Cond.methodLink RL 26 yX6_mark, Cond.instanceMethod yX6_mark, Cond.selects RX6 yX6_mark yX6_mark, Cond.code yX6_mark cX6_mark 5 (some .int), Cond.methodLink RL 27 yX5_rule, Cond.instanceMethod yX5_rule, Cond.selects RX5 yX5_rule yX5_rule, Cond.code yX5_rule cX5_rule 3 (some .int), Cond.fieldLink RX5 81 "SeamPictures$Picture" "law" "I", Cond.methodLink RX5 78 yX5_isBit, Cond.static yX5_isBit, Cond.code yX5_isBit cX5_isBit 1 (some .boolean), Cond.methodLink RL 31 yX6_rule, Cond.instanceMethod yX6_rule, Cond.selects RX6 yX6_rule yX6_rule, Cond.code yX6_rule cX6_rule 3 (some .int), Cond.methodLink RL 32 yX5_dot, Cond.instanceMethod yX5_dot, Cond.selects RX5 yX5_dot yX5_dot, Cond.code yX5_dot cX5_dot 4 (some .int), Cond.methodLink RX5 84 yX3_greyAt, Cond.instanceMethod yX3_greyAt]
def wsL_law_r8 : List Cond := [Cond.selects RX3 yX3_greyAt yX3_greyAt, Cond.code yX3_greyAt cX3_greyAt 4 (some .int), Cond.methodLink RX5 87 yX3_markAt, Cond.instanceMethod yX3_markAt, Cond.selects RX3 yX3_markAt yX3_markAt, Cond.code yX3_markAt cX3_markAt 4 (some .int), Cond.methodLink RX5 90 yX3_edgeAt, Cond.instanceMethod yX3_edgeAt, Cond.selects RX3 yX3_edgeAt yX3_edgeAt, Cond.code yX3_edgeAt cX3_edgeAt 3 (some .int), Cond.methodLink RX3 48 yX3_gapAt, Cond.instanceMethod yX3_gapAt, Cond.selects RX3 yX3_gapAt yX3_gapAt, Cond.code yX3_gapAt cX3_gapAt 6 (some .int), Cond.methodLink RX3 32 Lib.Math.max.name, Cond.static Lib.Math.max.name, Cond.initialized "java/lang/Math", Cond.code Lib.Math.max.name Lib.Math.max.code 2 (some .int), Cond.methodLink RX3 42 Lib.Math.min.name, Cond.static Lib.Math.min.name, Cond.code Lib.Math.min.name Lib.Math.min.code 2 (some .int), Cond.methodLink RX3 45 Lib.Math.abs.name, Cond.static Lib.Math.abs.name, Cond.code Lib.Math.abs.name Lib.Math.abs.code 1 (some .int)]
def wsL_law_r9 : List Cond := [Cond.methodLink RX3 38 yX3_breadth, Cond.instanceMethod yX3_breadth, Cond.selects RX3 yX3_breadth yX3_breadth, Cond.code yX3_breadth cX3_breadth 2 (some .int), Cond.methodLink RX5 94 yX3_weightAt, Cond.instanceMethod yX3_weightAt, Cond.selects RX3 yX3_weightAt yX3_weightAt, Cond.code yX3_weightAt cX3_weightAt 3 (some .int), Cond.methodLink RX3 51 yX3_edgeAt, Cond.methodLink RX3 54 yX3_extraAt, Cond.instanceMethod yX3_extraAt, Cond.selects RX3 yX3_extraAt yX3_extraAt, Cond.code yX3_extraAt cX3_extraAt 5 (some .int), Cond.methodLink RL 35 yX6_dot, Cond.instanceMethod yX6_dot, Cond.selects RX6 yX6_dot yX6_dot, Cond.code yX6_dot cX6_dot 4 (some .int), Cond.methodLink RX6 124 yX6_take, Cond.instanceMethod yX6_take, Cond.selects RX6 yX6_take yX6_take, Cond.code yX6_take cX6_take 2 none, Cond.fieldLink RX6 45 "SeamPicturesModel" "wide" "I", Cond.fieldLink RX6 49 "SeamPicturesModel" "high" "I", Cond.methodLink RX6 78 yX6_edge]
def wsL_law_r10 : List Cond := [Cond.instanceMethod yX6_edge, Cond.selects RX6 yX6_edge yX6_edge, Cond.code yX6_edge cX6_edge 3 (some .int), Cond.methodLink RX6 69 yX6_across, Cond.instanceMethod yX6_across, Cond.selects RX6 yX6_across yX6_across, Cond.code yX6_across cX6_across 3 (some .int), Cond.methodLink RX6 59 yX6_left, Cond.instanceMethod yX6_left, Cond.selects RX6 yX6_left yX6_left, Cond.code yX6_left cX6_left 3 (some .int), Cond.methodLink RX6 56 yX6_greyAt, Cond.instanceMethod yX6_greyAt, Cond.selects RX6 yX6_greyAt yX6_greyAt, Cond.code yX6_greyAt cX6_greyAt 3 (some .int), Cond.methodLink RX6 62 yX6_right, Cond.instanceMethod yX6_right, Cond.selects RX6 yX6_right yX6_right, Cond.code yX6_right cX6_right 3 (some .int), Cond.methodLink RX6 65 yX6_size, Cond.static yX6_size, Cond.code yX6_size cX6_size 1 (some .int), Cond.methodLink RX6 72 yX6_above, Cond.instanceMethod yX6_above]
def wsL_law_r11 : List Cond := [Cond.selects RX6 yX6_above yX6_above, Cond.code yX6_above cX6_above 3 (some .int), Cond.methodLink RX6 75 yX6_below, Cond.instanceMethod yX6_below, Cond.selects RX6 yX6_below yX6_below, Cond.code yX6_below cX6_below 3 (some .int), Cond.methodLink RX6 84 yX6_weight, Cond.instanceMethod yX6_weight, Cond.selects RX6 yX6_weight yX6_weight, Cond.code yX6_weight cX6_weight 3 (some .int), Cond.methodLink RX6 81 yX6_extra, Cond.instanceMethod yX6_extra, Cond.selects RX6 yX6_extra yX6_extra, Cond.code yX6_extra cX6_extra 4 (some .int), Cond.methodLink RL 36 yX5_say, Cond.instanceMethod yX5_say, Cond.selects RX5 yX5_say yX5_say, Cond.code yX5_say cX5_say 2 (some .int), Cond.methodLink RX5 97 yX2_isFull, Cond.instanceMethod yX2_isFull, Cond.selects RX2 yX2_isFull yX2_isFull, Cond.code yX2_isFull cX2_isFull 1 (some .boolean), Cond.fieldLink RX2 15 "SeamPictures$Pad" "length" "I", Cond.methodLink RX5 101 yX2_append]
def wsL_law_r12 : List Cond := [Cond.instanceMethod yX2_append, Cond.selects RX2 yX2_append yX2_append, Cond.code yX2_append cX2_append 2 (some .int), Cond.methodLink RL 39 yX6_say, Cond.instanceMethod yX6_say, Cond.selects RX6 yX6_say yX6_say, Cond.code yX6_say cX6_say 2 (some .int), Cond.fieldLink RX6 127 "SeamPicturesModel" "said" "I", Cond.methodLink RL 40 yX5_wipe, Cond.instanceMethod yX5_wipe, Cond.selects RX5 yX5_wipe yX5_wipe, Cond.code yX5_wipe cX5_wipe 1 (some .int), Cond.methodLink RX5 105 yX2_clear, Cond.instanceMethod yX2_clear, Cond.selects RX2 yX2_clear yX2_clear, Cond.code yX2_clear cX2_clear 2 (some .int), Cond.methodLink RL 44 yX6_wipe, Cond.instanceMethod yX6_wipe, Cond.selects RX6 yX6_wipe yX6_wipe, Cond.code yX6_wipe cX6_wipe 2 (some .int), Cond.methodLink RL 45 yX5_fault, Cond.instanceMethod yX5_fault, Cond.selects RX5 yX5_fault yX5_fault, Cond.code yX5_fault cX5_fault 2 (some .int)]
def wsL_law_r13 : List Cond := [Cond.methodLink RX5 109 yX2_firstFault, Cond.instanceMethod yX2_firstFault, Cond.selects RX2 yX2_firstFault yX2_firstFault, Cond.code yX2_firstFault cX2_firstFault 6 (some .int), Cond.methodLink RX2 19 yX2_canStand, Cond.static yX2_canStand, Cond.code yX2_canStand cX2_canStand 3 (some .boolean), Cond.methodLink RX2 23 yX2_valueOf, Cond.static yX2_valueOf, Cond.code yX2_valueOf cX2_valueOf 2 (some .int), Cond.methodLink RL 48 yX6_fault, Cond.instanceMethod yX6_fault, Cond.selects RX6 yX6_fault yX6_fault, Cond.code yX6_fault cX6_fault 2 (some .int), Cond.methodLink RX6 141 yX6_faultAs, Cond.instanceMethod yX6_faultAs, Cond.selects RX6 yX6_faultAs yX6_faultAs, Cond.code yX6_faultAs cX6_faultAs 4 (some .int), Cond.methodLink RX6 130 yX6_isBetween, Cond.instanceMethod yX6_isBetween, Cond.selects RX6 yX6_isBetween yX6_isBetween, Cond.code yX6_isBetween cX6_isBetween 2 (some .boolean), Cond.methodLink RX6 134 yX6_valueOf, Cond.instanceMethod yX6_valueOf]
def wsL_law_r14 : List Cond := [Cond.selects RX6 yX6_valueOf yX6_valueOf, Cond.code yX6_valueOf cX6_valueOf 3 (some .int), Cond.methodLink RX6 137 yX6_signs, Cond.instanceMethod yX6_signs, Cond.selects RX6 yX6_signs yX6_signs, Cond.code yX6_signs cX6_signs 1 (some .int), Cond.methodLink RL 49 yX5_lay, Cond.instanceMethod yX5_lay, Cond.selects RX5 yX5_lay yX5_lay, Cond.code yX5_lay cX5_lay 3 (some .int), Cond.methodLink RX5 112 yX2_layOn, Cond.instanceMethod yX2_layOn, Cond.selects RX2 yX2_layOn yX2_layOn, Cond.code yX2_layOn cX2_layOn 8 (some .int), Cond.fieldLink RX2 27 "SeamPictures$Picture" "high" "I", Cond.fieldLink RX2 32 "SeamPictures$Picture" "wide" "I", Cond.methodLink RX2 35 yX3_changeGrey, Cond.methodLink RX2 39 yX3_changeMark, Cond.methodLink RL 52 yX6_lay, Cond.instanceMethod yX6_lay, Cond.selects RX6 yX6_lay yX6_lay, Cond.code yX6_lay cX6_lay 6 (some .int), Cond.methodLink RL 53 yX5_seam, Cond.instanceMethod yX5_seam]
def wsL_law_r15 : List Cond := [Cond.selects RX5 yX5_seam yX5_seam, Cond.code yX5_seam cX5_seam 3 (some .int), Cond.fieldLink RX5 123 "SeamPictures$Seam" "total" "I", Cond.fieldLink RX5 126 "SeamPictures$Seam" "places" "[I", Cond.methodLink RX5 116 yX3_lines, Cond.instanceMethod yX3_lines, Cond.selects RX3 yX3_lines yX3_lines, Cond.code yX3_lines cX3_lines 2 (some .int), Cond.methodLink RX5 119 yX4_findLeast, Cond.instanceMethod yX4_findLeast, Cond.selects RX4 yX4_findLeast yX4_findLeast, Cond.code yX4_findLeast cX4_findLeast 7 none, Cond.fieldLink RX4 21 "SeamPictures$Seam" "way" "I", Cond.fieldLink RX4 41 "SeamPictures$Seam" "total" "I", Cond.methodLink RX4 25 yX3_lines, Cond.methodLink RX4 31 yX3_breadth, Cond.methodLink RX4 34 yX4_weighDot, Cond.instanceMethod yX4_weighDot, Cond.selects RX4 yX4_weighDot yX4_weighDot, Cond.code yX4_weighDot cX4_weighDot 6 none, Cond.methodLink RX4 44 yX3_standingCost, Cond.instanceMethod yX3_standingCost, Cond.selects RX3 yX3_standingCost yX3_standingCost, Cond.code yX3_standingCost cX3_standingCost 5 (some .int)]
def wsL_law_r16 : List Cond := [Cond.fieldLink RX3 25 "SeamPictures$Picture" "law" "I", Cond.methodLink RX4 48 yX4_goOnFrom, Cond.instanceMethod yX4_goOnFrom, Cond.selects RX4 yX4_goOnFrom yX4_goOnFrom, Cond.code yX4_goOnFrom cX4_goOnFrom 10 none, Cond.methodLink RX4 52 Lib.Math.max.name, Cond.methodLink RX4 58 Lib.Math.min.name, Cond.methodLink RX4 61 yX3_turningCost, Cond.instanceMethod yX3_turningCost, Cond.selects RX3 yX3_turningCost yX3_turningCost, Cond.code yX3_turningCost cX3_turningCost 7 (some .int), Cond.methodLink RX4 38 yX4_leastStart, Cond.instanceMethod yX4_leastStart, Cond.selects RX4 yX4_leastStart yX4_leastStart, Cond.code yX4_leastStart cX4_leastStart 4 (some .int), Cond.methodLink RL 56 yX6_seam, Cond.instanceMethod yX6_seam, Cond.selects RX6 yX6_seam yX6_seam, Cond.code yX6_seam cX6_seam 3 (some .int), Cond.fieldLink RX6 94 "SeamPicturesModel" "seamCost" "I", Cond.methodLink RX6 144 yX6_isWay, Cond.static yX6_isWay, Cond.code yX6_isWay cX6_isWay 1 (some .boolean), Cond.methodLink RX6 110 yX6_layWay]
def wsL_law_r17 : List Cond := [Cond.instanceMethod yX6_layWay, Cond.selects RX6 yX6_layWay yX6_layWay, Cond.code yX6_layWay cX6_layWay 2 none, Cond.methodLink RX6 97 yX6_turn, Cond.instanceMethod yX6_turn, Cond.selects RX6 yX6_turn yX6_turn, Cond.code yX6_turn cX6_turn 5 none, Cond.methodLink RX6 100 yX6_laySeam, Cond.instanceMethod yX6_laySeam, Cond.selects RX6 yX6_laySeam yX6_laySeam, Cond.code yX6_laySeam cX6_laySeam 4 none, Cond.methodLink RX6 91 yX6_nextFrom, Cond.instanceMethod yX6_nextFrom, Cond.selects RX6 yX6_nextFrom yX6_nextFrom, Cond.code yX6_nextFrom cX6_nextFrom 7 (some .int), Cond.methodLink RX6 87 yX6_costOf, Cond.instanceMethod yX6_costOf, Cond.selects RX6 yX6_costOf yX6_costOf, Cond.code yX6_costOf cX6_costOf 5 (some .int), Cond.methodLink RL 57 yX5_cost, Cond.instanceMethod yX5_cost, Cond.selects RX5 yX5_cost yX5_cost, Cond.code yX5_cost cX5_cost 3 (some .int), Cond.methodLink RX5 130 yX4_readNumber]
def wsL_law_r18 : List Cond := [Cond.instanceMethod yX4_readNumber, Cond.selects RX4 yX4_readNumber yX4_readNumber, Cond.code yX4_readNumber cX4_readNumber 7 (some .boolean), Cond.methodLink RX4 65 yX4_hangsTogether, Cond.instanceMethod yX4_hangsTogether, Cond.selects RX4 yX4_hangsTogether yX4_hangsTogether, Cond.code yX4_hangsTogether cX4_hangsTogether 4 (some .boolean), Cond.methodLink RX4 73 Lib.Math.abs.name, Cond.methodLink RX4 69 yX4_sumOfCosts, Cond.instanceMethod yX4_sumOfCosts, Cond.selects RX4 yX4_sumOfCosts yX4_sumOfCosts, Cond.code yX4_sumOfCosts cX4_sumOfCosts 5 (some .int), Cond.methodLink RL 60 yX6_cost, Cond.instanceMethod yX6_cost, Cond.selects RX6 yX6_cost yX6_cost, Cond.code yX6_cost cX6_cost 5 (some .int), Cond.methodLink RX6 147 yX6_layNumber, Cond.instanceMethod yX6_layNumber, Cond.selects RX6 yX6_layNumber yX6_layNumber, Cond.code yX6_layNumber cX6_layNumber 5 (some .boolean), Cond.methodLink RL 61 yX5_cut, Cond.instanceMethod yX5_cut, Cond.selects RX5 yX5_cut yX5_cut, Cond.code yX5_cut cX5_cut 2 (some .int)]
def wsL_law_r19 : List Cond := [Cond.methodLink RX5 134 yX3_breadth, Cond.methodLink RX5 137 yX3_takeOut, Cond.instanceMethod yX3_takeOut, Cond.selects RX3 yX3_takeOut yX3_takeOut, Cond.code yX3_takeOut cX3_takeOut 5 none, Cond.fieldLink RX3 66 "SeamPictures$Seam" "way" "I", Cond.fieldLink RX3 74 "SeamPictures$Seam" "places" "[I", Cond.methodLink RX3 71 yX3_lines, Cond.methodLink RX3 77 yX3_moveDot, Cond.instanceMethod yX3_moveDot, Cond.selects RX3 yX3_moveDot yX3_moveDot, Cond.code yX3_moveDot cX3_moveDot 7 none, Cond.methodLink RX3 81 yX3_broaden, Cond.instanceMethod yX3_broaden, Cond.selects RX3 yX3_broaden yX3_broaden, Cond.code yX3_broaden cX3_broaden 3 none, Cond.methodLink RL 64 yX6_cut, Cond.instanceMethod yX6_cut, Cond.selects RX6 yX6_cut yX6_cut, Cond.code yX6_cut cX6_cut 3 (some .int), Cond.methodLink RX6 150 yX6_cutWay, Cond.instanceMethod yX6_cutWay, Cond.selects RX6 yX6_cutWay yX6_cutWay, Cond.code yX6_cutWay cX6_cutWay 2 (some .int)]
def wsL_law_r20 : List Cond := [Cond.methodLink RX6 114 yX6_cutSeam, Cond.instanceMethod yX6_cutSeam, Cond.selects RX6 yX6_cutSeam yX6_cutSeam, Cond.code yX6_cutSeam cX6_cutSeam 3 none, Cond.fieldLink RX6 103 "SeamPicturesModel" "keptCut" "I", Cond.methodLink RX6 106 yX6_move, Cond.instanceMethod yX6_move, Cond.selects RX6 yX6_move yX6_move, Cond.code yX6_move cX6_move 4 none, Cond.methodLink RX6 117 yX6_leaveWay, Cond.instanceMethod yX6_leaveWay, Cond.selects RX6 yX6_leaveWay yX6_leaveWay, Cond.code yX6_leaveWay cX6_leaveWay 2 none, Cond.methodLink RX6 153 yX6_give, Cond.instanceMethod yX6_give, Cond.selects RX6 yX6_give yX6_give, Cond.code yX6_give cX6_give 3 none, Cond.methodLink RL 65 yX5_add, Cond.instanceMethod yX5_add, Cond.selects RX5 yX5_add yX5_add, Cond.code yX5_add cX5_add 2 (some .int), Cond.methodLink RX5 141 yX3_putIn, Cond.instanceMethod yX3_putIn, Cond.selects RX3 yX3_putIn yX3_putIn]
def wsL_law_r21 : List Cond := [Cond.code yX3_putIn cX3_putIn 8 none, Cond.methodLink RX3 60 yX3_greyAt, Cond.methodLink RL 68 yX6_add, Cond.instanceMethod yX6_add, Cond.selects RX6 yX6_add yX6_add, Cond.code yX6_add cX6_add 2 (some .int), Cond.methodLink RX6 156 yX6_addSeam, Cond.instanceMethod yX6_addSeam, Cond.selects RX6 yX6_addSeam yX6_addSeam, Cond.code yX6_addSeam cX6_addSeam 4 none, Cond.methodLink RL 69 yX5_least, Cond.instanceMethod yX5_least, Cond.selects RX5 yX5_least yX5_least, Cond.code yX5_least cX5_least 3 (some .int), Cond.methodLink RX5 144 yX3_lightestInRow, Cond.instanceMethod yX3_lightestInRow, Cond.selects RX3 yX3_lightestInRow yX3_lightestInRow, Cond.code yX3_lightestInRow cX3_lightestInRow 4 (some .int), Cond.methodLink RX3 57 yX3_weightAt, Cond.methodLink RX5 147 yX3_lightestInColumn, Cond.instanceMethod yX3_lightestInColumn, Cond.selects RX3 yX3_lightestInColumn yX3_lightestInColumn, Cond.code yX3_lightestInColumn cX3_lightestInColumn 4 (some .int), Cond.methodLink RL 72 yX6_least]
def wsL_law_r22 : List Cond := [Cond.instanceMethod yX6_least, Cond.selects RX6 yX6_least yX6_least, Cond.code yX6_least cX6_least 5 (some .int), Cond.methodLink RL 73 yX5_best, Cond.instanceMethod yX5_best, Cond.selects RX5 yX5_best yX5_best, Cond.code yX5_best cX5_best 4 (some .int), Cond.fieldLink RX5 157 "SeamPictures$OrderSearch" "bestCost" "I", Cond.fieldLink RX5 160 "SeamPictures$OrderSearch" "ordersAtBest" "I", Cond.fieldLink RX5 163 "SeamPictures$OrderSearch" "bestOrder" "I", Cond.fieldLink RX5 166 "SeamPictures$OrderSearch" "bestKeptCut" "I", Cond.methodLink RX5 150 yX5_canReach, Cond.instanceMethod yX5_canReach, Cond.selects RX5 yX5_canReach yX5_canReach, Cond.code yX5_canReach cX5_canReach 3 (some .boolean), Cond.methodLink RX5 153 yX1_findBest, Cond.instanceMethod yX1_findBest, Cond.selects RX1 yX1_findBest yX1_findBest, Cond.code yX1_findBest cX1_findBest 4 none, Cond.fieldLink RX1 25 "SeamPictures$OrderSearch" "ordersAtBest" "I", Cond.methodLink RX1 29 yX3_copyFrom, Cond.instanceMethod yX3_copyFrom, Cond.selects RX3 yX3_copyFrom yX3_copyFrom, Cond.code yX3_copyFrom cX3_copyFrom 3 none]
def wsL_law_r23 : List Cond := [Cond.methodLink RX1 33 yX1_tryOrders, Cond.instanceMethod yX1_tryOrders, Cond.selects RX1 yX1_tryOrders yX1_tryOrders, Cond.code yX1_tryOrders cX1_tryOrders 10 none, Cond.fieldLink RX1 53 "SeamPictures$Seam" "total" "I", Cond.methodLink RX1 37 yX1_compare, Cond.instanceMethod yX1_compare, Cond.selects RX1 yX1_compare yX1_compare, Cond.code yX1_compare cX1_compare 4 none, Cond.fieldLink RX1 56 "SeamPictures$OrderSearch" "bestCost" "I", Cond.fieldLink RX1 59 "SeamPictures$OrderSearch" "bestOrder" "I", Cond.fieldLink RX1 62 "SeamPictures$OrderSearch" "bestKeptCut" "I", Cond.methodLink RX1 41 yX4_findLeast, Cond.methodLink RX1 45 yX3_keptDotsOf, Cond.instanceMethod yX3_keptDotsOf, Cond.selects RX3 yX3_keptDotsOf yX3_keptDotsOf, Cond.code yX3_keptDotsOf cX3_keptDotsOf 4 (some .int), Cond.methodLink RX3 63 yX3_markAt, Cond.methodLink RX1 49 yX3_takeOut, Cond.methodLink RL 76 yX6_best, Cond.instanceMethod yX6_best, Cond.selects RX6 yX6_best yX6_best, Cond.code yX6_best cX6_best 4 (some .int), Cond.fieldLink RX6 171 "SeamPicturesModel" "bestCost" "I"]
def wsL_law_r24 : List Cond := [Cond.fieldLink RX6 162 "SeamPicturesModel" "asGood" "I", Cond.fieldLink RX6 159 "SeamPicturesModel" "bestOrder" "I", Cond.fieldLink RX6 174 "SeamPicturesModel" "bestKept" "I", Cond.methodLink RX6 177 yX6_canGo, Cond.instanceMethod yX6_canGo, Cond.selects RX6 yX6_canGo yX6_canGo, Cond.code yX6_canGo cX6_canGo 3 (some .boolean), Cond.methodLink RX6 180 yX6_layBest, Cond.instanceMethod yX6_layBest, Cond.selects RX6 yX6_layBest yX6_layBest, Cond.code yX6_layBest cX6_layBest 5 none, Cond.methodLink RX6 165 yX6_bits, Cond.static yX6_bits, Cond.code yX6_bits cX6_bits 3 (some .int), Cond.methodLink RX6 168 yX6_goOrder, Cond.instanceMethod yX6_goOrder, Cond.selects RX6 yX6_goOrder yX6_goOrder, Cond.code yX6_goOrder cX6_goOrder 5 (some .int), Cond.methodLink RX6 184 yX6_turned, Cond.static yX6_turned, Cond.code yX6_turned cX6_turned 4 (some .int), Cond.methodLink RL 77 yX5_table, Cond.instanceMethod yX5_table, Cond.selects RX5 yX5_table yX5_table]
def wsL_law_r25 : List Cond := [Cond.code yX5_table cX5_table 6 (some .int), Cond.fieldLink RX5 172 "SeamPictures$CostTable" "costs" "[I", Cond.fieldLink RX5 175 "SeamPictures$CostTable" "row" "[LSeamPictures$Picture;", Cond.methodLink RX5 169 yX0_fillTo, Cond.instanceMethod yX0_fillTo, Cond.selects RX0 yX0_fillTo yX0_fillTo, Cond.code yX0_fillTo cX0_fillTo 6 none, Cond.methodLink RX0 32 yX3_copyFrom, Cond.methodLink RX0 36 yX4_findLeast, Cond.methodLink RX0 40 yX0_takeLying, Cond.instanceMethod yX0_takeLying, Cond.selects RX0 yX0_takeLying yX0_takeLying, Cond.code yX0_takeLying cX0_takeLying 2 none, Cond.fieldLink RX0 50 "SeamPictures$Seam" "total" "I", Cond.methodLink RX0 54 yX3_takeOut, Cond.methodLink RX0 44 yX0_takeUpright, Cond.instanceMethod yX0_takeUpright, Cond.selects RX0 yX0_takeUpright yX0_takeUpright, Cond.code yX0_takeUpright cX0_takeUpright 2 none, Cond.methodLink RX0 47 yX0_takeCheaper, Cond.instanceMethod yX0_takeCheaper, Cond.selects RX0 yX0_takeCheaper yX0_takeCheaper, Cond.code yX0_takeCheaper cX0_takeCheaper 2 none, Cond.methodLink RL 80 yX6_table]
def wsL_law_r26 : List Cond := [Cond.instanceMethod yX6_table, Cond.selects RX6 yX6_table yX6_table, Cond.code yX6_table cX6_table 6 (some .int), Cond.methodLink RX6 196 yX6_layTable, Cond.instanceMethod yX6_layTable, Cond.selects RX6 yX6_layTable yX6_layTable, Cond.code yX6_layTable cX6_layTable 5 none, Cond.methodLink RX6 190 yX6_save, Cond.instanceMethod yX6_save, Cond.selects RX6 yX6_save yX6_save, Cond.code yX6_save cX6_save 3 none, Cond.methodLink RX6 193 yX6_layPlace, Cond.instanceMethod yX6_layPlace, Cond.selects RX6 yX6_layPlace yX6_layPlace, Cond.code yX6_layPlace cX6_layPlace 6 none, Cond.methodLink RX6 187 yX6_load, Cond.instanceMethod yX6_load, Cond.selects RX6 yX6_load yX6_load, Cond.code yX6_load cX6_load 5 none, Cond.methodLink RL 81 yX5_go, Cond.instanceMethod yX5_go, Cond.selects RX5 yX5_go yX5_go, Cond.code yX5_go cX5_go 4 (some .int), Cond.methodLink RL 84 yX6_go]
def wsL_law_r27 : List Cond := [Cond.instanceMethod yX6_go, Cond.selects RX6 yX6_go yX6_go, Cond.code yX6_go cX6_go 4 (some .int), Cond.methodLink RL 85 yX5_image, Cond.instanceMethod yX5_image, Cond.selects RX5 yX5_image yX5_image, Cond.code yX5_image cX5_image 2 (some .int), Cond.methodLink RX5 178 yX3_copyFrom, Cond.methodLink RL 88 yX6_image, Cond.instanceMethod yX6_image, Cond.selects RX6 yX6_image yX6_image, Cond.code yX6_image cX6_image 3 (some .int), Cond.methodLink RL 89 yX5_restore, Cond.instanceMethod yX5_restore, Cond.selects RX5 yX5_restore yX5_restore, Cond.code yX5_restore cX5_restore 2 (some .int), Cond.methodLink RL 92 yX6_restore, Cond.instanceMethod yX6_restore, Cond.selects RX6 yX6_restore yX6_restore, Cond.code yX6_restore cX6_restore 3 (some .int), Cond.methodLink RL 93 yX5_count, Cond.instanceMethod yX5_count, Cond.selects RX5 yX5_count yX5_count, Cond.code yX5_count cX5_count 2 (some .int)]
def wsL_law_r28 : List Cond := [Cond.fieldLink RX5 188 "SeamPictures$Pad" "length" "I", Cond.methodLink RX5 182 yX3_sumOfGreys, Cond.instanceMethod yX3_sumOfGreys, Cond.selects RX3 yX3_sumOfGreys yX3_sumOfGreys, Cond.code yX3_sumOfGreys cX3_sumOfGreys 4 (some .int), Cond.methodLink RX5 185 yX3_dotsMarked, Cond.instanceMethod yX3_dotsMarked, Cond.selects RX3 yX3_dotsMarked yX3_dotsMarked, Cond.code yX3_dotsMarked cX3_dotsMarked 5 (some .int), Cond.methodLink RX5 191 yX5_imagesKept, Cond.instanceMethod yX5_imagesKept, Cond.selects RX5 yX5_imagesKept yX5_imagesKept, Cond.code yX5_imagesKept cX5_imagesKept 3 (some .int), Cond.methodLink RL 96 yX6_count, Cond.instanceMethod yX6_count, Cond.selects RX6 yX6_count yX6_count, Cond.code yX6_count cX6_count 2 (some .int), Cond.methodLink RX6 199 yX6_greys, Cond.instanceMethod yX6_greys, Cond.selects RX6 yX6_greys yX6_greys, Cond.code yX6_greys cX6_greys 3 (some .int), Cond.methodLink RX6 202 yX6_dotsWith, Cond.instanceMethod yX6_dotsWith, Cond.selects RX6 yX6_dotsWith yX6_dotsWith]
def wsL_law_r29 : List Cond := [Cond.code yX6_dotsWith cX6_dotsWith 4 (some .int)]
def wsL_law : List Cond := (wsL_law_r1 ++ (wsL_law_r2 ++ (wsL_law_r3 ++ (wsL_law_r4 ++ (wsL_law_r5 ++ (wsL_law_r6 ++ (wsL_law_r7 ++ (wsL_law_r8 ++ (wsL_law_r9 ++ (wsL_law_r10 ++ (wsL_law_r11 ++ (wsL_law_r12 ++ (wsL_law_r13 ++ (wsL_law_r14 ++ (wsL_law_r15 ++ (wsL_law_r16 ++ (wsL_law_r17 ++ (wsL_law_r18 ++ (wsL_law_r19 ++ (wsL_law_r20 ++ (wsL_law_r21 ++ (wsL_law_r22 ++ (wsL_law_r23 ++ (wsL_law_r24 ++ (wsL_law_r25 ++ (wsL_law_r26 ++ (wsL_law_r27 ++ (wsL_law_r28 ++ wsL_law_r29)))))))))))))))))))))))))))) ++ wsX50 ++ wsX60 ++ wsX30 ++ wsX40 ++ wsX20 ++ wsX10 ++ wsX00 ++ ([] : List Cond)
theorem inlX0 : ∀ w ∈ wsX00, w ∈ wsL_law := fun _ h => List.mem_append_left _ (List.mem_append_right _ h)
theorem inlX1 : ∀ w ∈ wsX10, w ∈ wsL_law := fun _ h => List.mem_append_left _ (List.mem_append_left _ (List.mem_append_right _ h))
theorem inlX2 : ∀ w ∈ wsX20, w ∈ wsL_law := fun _ h => List.mem_append_left _ (List.mem_append_left _ (List.mem_append_left _ (List.mem_append_right _ h)))
theorem inlX3 : ∀ w ∈ wsX30, w ∈ wsL_law := fun _ h => List.mem_append_left _ (List.mem_append_left _ (List.mem_append_left _ (List.mem_append_left _ (List.mem_append_left _ (List.mem_append_right _ h)))))
theorem inlX4 : ∀ w ∈ wsX40, w ∈ wsL_law := fun _ h => List.mem_append_left _ (List.mem_append_left _ (List.mem_append_left _ (List.mem_append_left _ (List.mem_append_right _ h))))
theorem inlX5 : ∀ w ∈ wsX50, w ∈ wsL_law := fun _ h => List.mem_append_left _ (List.mem_append_left _ (List.mem_append_left _ (List.mem_append_left _ (List.mem_append_left _ (List.mem_append_left _ (List.mem_append_left _ (List.mem_append_right _ h)))))))
theorem inlX6 : ∀ w ∈ wsX60, w ∈ wsL_law := fun _ h => List.mem_append_left _ (List.mem_append_left _ (List.mem_append_left _ (List.mem_append_left _ (List.mem_append_left _ (List.mem_append_left _ (List.mem_append_right _ h))))))
abbrev vwCl : List vw_C := [(RX0, TX0, 4), (RX1, TX1, 6), (RX2, TX2, 2), (RX3, TX3, 5), (RX4, TX4, 5), (RX5, TX5, 7), (RX6, TX6, 19)]
end
section
/-- one list of words for every method: the words of the law -/
abbrev wA : List Cond := wsL_law
theorem wg_1 : wsL_law_r1.all goodWord = true := by decide +kernel
theorem wg_2 : wsL_law_r2.all goodWord = true := by decide +kernel
theorem wg_3 : wsL_law_r3.all goodWord = true := by decide +kernel
theorem wg_4 : wsL_law_r4.all goodWord = true := by decide +kernel
theorem wg_5 : wsL_law_r5.all goodWord = true := by decide +kernel
theorem wg_6 : wsL_law_r6.all goodWord = true := by decide +kernel
theorem wg_7 : wsL_law_r7.all goodWord = true := by decide +kernel
theorem wg_8 : wsL_law_r8.all goodWord = true := by decide +kernel
theorem wg_9 : wsL_law_r9.all goodWord = true := by decide +kernel
theorem wg_10 : wsL_law_r10.all goodWord = true := by decide +kernel
theorem wg_11 : wsL_law_r11.all goodWord = true := by decide +kernel
theorem wg_12 : wsL_law_r12.all goodWord = true := by decide +kernel
theorem wg_13 : wsL_law_r13.all goodWord = true := by decide +kernel
theorem wg_14 : wsL_law_r14.all goodWord = true := by decide +kernel
theorem wg_15 : wsL_law_r15.all goodWord = true := by decide +kernel
theorem wg_16 : wsL_law_r16.all goodWord = true := by decide +kernel
theorem wg_17 : wsL_law_r17.all goodWord = true := by decide +kernel
theorem wg_18 : wsL_law_r18.all goodWord = true := by decide +kernel
theorem wg_19 : wsL_law_r19.all goodWord = true := by decide +kernel
theorem wg_20 : wsL_law_r20.all goodWord = true := by decide +kernel
theorem wg_21 : wsL_law_r21.all goodWord = true := by decide +kernel
theorem wg_22 : wsL_law_r22.all goodWord = true := by decide +kernel
theorem wg_23 : wsL_law_r23.all goodWord = true := by decide +kernel
theorem wg_24 : wsL_law_r24.all goodWord = true := by decide +kernel
theorem wg_25 : wsL_law_r25.all goodWord = true := by decide +kernel
theorem wg_26 : wsL_law_r26.all goodWord = true := by decide +kernel
theorem wg_27 : wsL_law_r27.all goodWord = true := by decide +kernel
theorem wg_28 : wsL_law_r28.all goodWord = true := by decide +kernel
theorem wg_29 : wsL_law_r29.all goodWord = true := by decide +kernel
theorem wgX5 : wsX50.all goodWord = true := by decide +kernel
theorem wgX6 : wsX60.all goodWord = true := by decide +kernel
theorem wgX3 : wsX30.all goodWord = true := by decide +kernel
theorem wgX4 : wsX40.all goodWord = true := by decide +kernel
theorem wgX2 : wsX20.all goodWord = true := by decide +kernel
theorem wgX1 : wsX10.all goodWord = true := by decide +kernel
theorem wgX0 : wsX00.all goodWord = true := by decide +kernel
theorem wA_good : wA.all goodWord = true := by simp only [wA, wsL_law, List.all_append, List.all_nil, Bool.and_true, Bool.true_and, wg_1, wg_2, wg_3, wg_4, wg_5, wg_6, wg_7, wg_8, wg_9, wg_10, wg_11, wg_12, wg_13, wg_14, wg_15, wg_16, wg_17, wg_18, wg_19, wg_20, wg_21, wg_22, wg_23, wg_24, wg_25, wg_26, wg_27, wg_28, wg_29, wgX5, wgX6, wgX3, wgX4, wgX2, wgX1, wgX0]
set_option maxRecDepth 20000 in
theorem qw_0 : Cond.classLink RL 7 RX5 ∈ wA := List.mem_of_getElem? (i := 0) rfl
set_option maxRecDepth 20000 in
theorem qw_1 : Cond.instantiable RX5 7 ∈ wA := List.mem_of_getElem? (i := 1) rfl
set_option maxRecDepth 20000 in
theorem qw_2 : Cond.initialized RX5 ∈ wA := List.mem_of_getElem? (i := 2) rfl
set_option maxRecDepth 20000 in
theorem qw_3 : Cond.classLink RL 10 RX6 ∈ wA := List.mem_of_getElem? (i := 3) rfl
set_option maxRecDepth 20000 in
theorem qw_4 : Cond.instantiable RX6 19 ∈ wA := List.mem_of_getElem? (i := 4) rfl
set_option maxRecDepth 20000 in
theorem qw_5 : Cond.initialized RX6 ∈ wA := List.mem_of_getElem? (i := 5) rfl
set_option maxRecDepth 20000 in
theorem qw_6 : Cond.methodLink RL 9 yX5_init ∈ wA := List.mem_of_getElem? (i := 6) rfl
set_option maxRecDepth 20000 in
theorem qw_7 : Cond.instanceMethod yX5_init ∈ wA := List.mem_of_getElem? (i := 7) rfl
set_option maxRecDepth 20000 in
theorem qw_8 : Cond.code yX5_init cX5_init 2 none ∈ wA := List.mem_of_getElem? (i := 8) rfl
set_option maxRecDepth 20000 in
theorem qw_9 : Cond.methodLink RX5 1 objectInit ∈ wA := List.mem_of_getElem? (i := 9) rfl
set_option maxRecDepth 20000 in
theorem qw_10 : Cond.instanceMethod objectInit ∈ wA := List.mem_of_getElem? (i := 10) rfl
set_option maxRecDepth 20000 in
theorem qw_11 : Cond.code objectInit ⟨#[0xb1]⟩ 1 none ∈ wA := List.mem_of_getElem? (i := 11) rfl
set_option maxRecDepth 20000 in
theorem qw_12 : Cond.classLink RX5 7 RX3 ∈ wA := List.mem_of_getElem? (i := 12) rfl
set_option maxRecDepth 20000 in
theorem qw_13 : Cond.instantiable RX3 5 ∈ wA := List.mem_of_getElem? (i := 13) rfl
set_option maxRecDepth 20000 in
theorem qw_14 : Cond.initialized RX3 ∈ wA := List.mem_of_getElem? (i := 14) rfl
set_option maxRecDepth 20000 in
theorem qw_15 : Cond.fieldLink RX5 10 "SeamPictures" "picture" "LSeamPictures$Picture;" ∈ wA := List.mem_of_getElem? (i := 15) rfl
set_option maxRecDepth 20000 in
theorem qw_16 : Cond.classLink RX5 16 RX4 ∈ wA := List.mem_of_getElem? (i := 16) rfl
set_option maxRecDepth 20000 in
theorem qw_17 : Cond.instantiable RX4 5 ∈ wA := List.mem_of_getElem? (i := 17) rfl
set_option maxRecDepth 20000 in
theorem qw_18 : Cond.initialized RX4 ∈ wA := List.mem_of_getElem? (i := 18) rfl
set_option maxRecDepth 20000 in
theorem qw_19 : Cond.fieldLink RX5 19 "SeamPictures" "found" "LSeamPictures$Seam;" ∈ wA := List.mem_of_getElem? (i := 19) rfl
set_option maxRecDepth 20000 in
theorem qw_20 : Cond.classLink RX5 23 RX2 ∈ wA := List.mem_of_getElem? (i := 20) rfl
set_option maxRecDepth 20000 in
theorem qw_21 : Cond.instantiable RX2 2 ∈ wA := List.mem_of_getElem? (i := 21) rfl
set_option maxRecDepth 20000 in
theorem qw_22 : Cond.initialized RX2 ∈ wA := List.mem_of_getElem? (i := 22) rfl
set_option maxRecDepth 20000 in
theorem qw_23 : Cond.fieldLink RX5 26 "SeamPictures" "pad" "LSeamPictures$Pad;" ∈ wA := List.mem_of_getElem? (i := 23) rfl
set_option maxRecDepth 20000 in
theorem qw_24 : Cond.classLink RX5 30 RX1 ∈ wA := List.mem_of_getElem? (i := 24) rfl
set_option maxRecDepth 20000 in
theorem qw_25 : Cond.instantiable RX1 6 ∈ wA := List.mem_of_getElem? (i := 25) rfl
set_option maxRecDepth 20000 in
theorem qw_26 : Cond.initialized RX1 ∈ wA := List.mem_of_getElem? (i := 26) rfl
set_option maxRecDepth 20000 in
theorem qw_27 : Cond.fieldLink RX5 33 "SeamPictures" "search" "LSeamPictures$OrderSearch;" ∈ wA := List.mem_of_getElem? (i := 27) rfl
set_option maxRecDepth 20000 in
theorem qw_28 : Cond.classLink RX5 37 RX0 ∈ wA := List.mem_of_getElem? (i := 28) rfl
set_option maxRecDepth 20000 in
theorem qw_29 : Cond.instantiable RX0 4 ∈ wA := List.mem_of_getElem? (i := 29) rfl
set_option maxRecDepth 20000 in
theorem qw_30 : Cond.initialized RX0 ∈ wA := List.mem_of_getElem? (i := 30) rfl
set_option maxRecDepth 20000 in
theorem qw_31 : Cond.fieldLink RX5 40 "SeamPictures" "costTable" "LSeamPictures$CostTable;" ∈ wA := List.mem_of_getElem? (i := 31) rfl
set_option maxRecDepth 20000 in
theorem qw_32 : Cond.fieldLink RX5 44 "SeamPictures" "images" "[LSeamPictures$Picture;" ∈ wA := List.mem_of_getElem? (i := 32) rfl
set_option maxRecDepth 20000 in
theorem qw_33 : Cond.arrayClass .boolean ∈ wA := List.mem_of_getElem? (i := 33) rfl
set_option maxRecDepth 20000 in
theorem qw_34 : Cond.fieldLink RX5 48 "SeamPictures" "imageKept" "[Z" ∈ wA := List.mem_of_getElem? (i := 34) rfl
set_option maxRecDepth 20000 in
theorem qw_35 : Cond.methodLink RX5 9 yX3_init ∈ wA := List.mem_of_getElem? (i := 35) rfl
set_option maxRecDepth 20000 in
theorem qw_36 : Cond.instanceMethod yX3_init ∈ wA := List.mem_of_getElem? (i := 36) rfl
set_option maxRecDepth 20000 in
theorem qw_37 : Cond.code yX3_init cX3_init 1 none ∈ wA := List.mem_of_getElem? (i := 37) rfl
set_option maxRecDepth 20000 in
theorem qw_38 : Cond.methodLink RX3 3 objectInit ∈ wA := List.mem_of_getElem? (i := 38) rfl
set_option maxRecDepth 20000 in
theorem qw_39 : Cond.fieldLink RX3 9 "SeamPictures$Picture" "wide" "I" ∈ wA := List.mem_of_getElem? (i := 39) rfl
set_option maxRecDepth 20000 in
theorem qw_40 : Cond.fieldLink RX3 15 "SeamPictures$Picture" "high" "I" ∈ wA := List.mem_of_getElem? (i := 40) rfl
set_option maxRecDepth 20000 in
theorem qw_41 : Cond.arrayClass .int ∈ wA := List.mem_of_getElem? (i := 41) rfl
set_option maxRecDepth 20000 in
theorem qw_42 : Cond.fieldLink RX3 18 "SeamPictures$Picture" "greys" "[I" ∈ wA := List.mem_of_getElem? (i := 42) rfl
set_option maxRecDepth 20000 in
theorem qw_43 : Cond.fieldLink RX3 22 "SeamPictures$Picture" "marks" "[I" ∈ wA := List.mem_of_getElem? (i := 43) rfl
set_option maxRecDepth 20000 in
theorem qw_44 : Cond.methodLink RX5 18 yX4_init ∈ wA := List.mem_of_getElem? (i := 44) rfl
set_option maxRecDepth 20000 in
theorem qw_45 : Cond.instanceMethod yX4_init ∈ wA := List.mem_of_getElem? (i := 45) rfl
set_option maxRecDepth 20000 in
theorem qw_46 : Cond.code yX4_init cX4_init 1 none ∈ wA := List.mem_of_getElem? (i := 46) rfl
set_option maxRecDepth 20000 in
theorem qw_47 : Cond.methodLink RX4 3 objectInit ∈ wA := List.mem_of_getElem? (i := 47) rfl
set_option maxRecDepth 20000 in
theorem qw_48 : Cond.fieldLink RX4 9 "SeamPictures$Seam" "places" "[I" ∈ wA := List.mem_of_getElem? (i := 48) rfl
set_option maxRecDepth 20000 in
theorem qw_49 : Cond.fieldLink RX4 15 "SeamPictures$Seam" "costToEnd" "[I" ∈ wA := List.mem_of_getElem? (i := 49) rfl
set_option maxRecDepth 20000 in
theorem qw_50 : Cond.fieldLink RX4 18 "SeamPictures$Seam" "goesOnAt" "[I" ∈ wA := List.mem_of_getElem? (i := 50) rfl
set_option maxRecDepth 20000 in
theorem qw_51 : Cond.methodLink RX5 25 yX2_init ∈ wA := List.mem_of_getElem? (i := 51) rfl
set_option maxRecDepth 20000 in
theorem qw_52 : Cond.instanceMethod yX2_init ∈ wA := List.mem_of_getElem? (i := 52) rfl
set_option maxRecDepth 20000 in
theorem qw_53 : Cond.code yX2_init cX2_init 1 none ∈ wA := List.mem_of_getElem? (i := 53) rfl
set_option maxRecDepth 20000 in
theorem qw_54 : Cond.methodLink RX2 3 objectInit ∈ wA := List.mem_of_getElem? (i := 54) rfl
set_option maxRecDepth 20000 in
theorem qw_55 : Cond.fieldLink RX2 11 "SeamPictures$Pad" "signs" "[I" ∈ wA := List.mem_of_getElem? (i := 55) rfl
set_option maxRecDepth 20000 in
theorem qw_56 : Cond.methodLink RX5 32 yX1_init ∈ wA := List.mem_of_getElem? (i := 56) rfl
set_option maxRecDepth 20000 in
theorem qw_57 : Cond.instanceMethod yX1_init ∈ wA := List.mem_of_getElem? (i := 57) rfl
set_option maxRecDepth 20000 in
theorem qw_58 : Cond.code yX1_init cX1_init 2 none ∈ wA := List.mem_of_getElem? (i := 58) rfl
set_option maxRecDepth 20000 in
theorem qw_59 : Cond.methodLink RX1 3 objectInit ∈ wA := List.mem_of_getElem? (i := 59) rfl
set_option maxRecDepth 20000 in
theorem qw_60 : Cond.classLink RX1 9 RX3 ∈ wA := List.mem_of_getElem? (i := 60) rfl
set_option maxRecDepth 20000 in
theorem qw_61 : Cond.fieldLink RX1 11 "SeamPictures$OrderSearch" "stages" "[LSeamPictures$Picture;" ∈ wA := List.mem_of_getElem? (i := 61) rfl
set_option maxRecDepth 20000 in
theorem qw_62 : Cond.classLink RX1 18 RX4 ∈ wA := List.mem_of_getElem? (i := 62) rfl
set_option maxRecDepth 20000 in
theorem qw_63 : Cond.fieldLink RX1 21 "SeamPictures$OrderSearch" "seam" "LSeamPictures$Seam;" ∈ wA := List.mem_of_getElem? (i := 63) rfl
set_option maxRecDepth 20000 in
theorem qw_64 : Cond.methodLink RX1 17 yX3_init ∈ wA := List.mem_of_getElem? (i := 64) rfl
set_option maxRecDepth 20000 in
theorem qw_65 : Cond.methodLink RX1 20 yX4_init ∈ wA := List.mem_of_getElem? (i := 65) rfl
set_option maxRecDepth 20000 in
theorem qw_66 : Cond.methodLink RX5 39 yX0_init ∈ wA := List.mem_of_getElem? (i := 66) rfl
set_option maxRecDepth 20000 in
theorem qw_67 : Cond.instanceMethod yX0_init ∈ wA := List.mem_of_getElem? (i := 67) rfl
set_option maxRecDepth 20000 in
theorem qw_68 : Cond.code yX0_init cX0_init 2 none ∈ wA := List.mem_of_getElem? (i := 68) rfl
set_option maxRecDepth 20000 in
theorem qw_69 : Cond.methodLink RX0 3 objectInit ∈ wA := List.mem_of_getElem? (i := 69) rfl
set_option maxRecDepth 20000 in
theorem qw_70 : Cond.classLink RX0 9 RX3 ∈ wA := List.mem_of_getElem? (i := 70) rfl
set_option maxRecDepth 20000 in
theorem qw_71 : Cond.fieldLink RX0 11 "SeamPictures$CostTable" "row" "[LSeamPictures$Picture;" ∈ wA := List.mem_of_getElem? (i := 71) rfl
set_option maxRecDepth 20000 in
theorem qw_72 : Cond.fieldLink RX0 18 "SeamPictures$CostTable" "costs" "[I" ∈ wA := List.mem_of_getElem? (i := 72) rfl
set_option maxRecDepth 20000 in
theorem qw_73 : Cond.classLink RX0 22 RX4 ∈ wA := List.mem_of_getElem? (i := 73) rfl
set_option maxRecDepth 20000 in
theorem qw_74 : Cond.fieldLink RX0 25 "SeamPictures$CostTable" "upright" "LSeamPictures$Seam;" ∈ wA := List.mem_of_getElem? (i := 74) rfl
set_option maxRecDepth 20000 in
theorem qw_75 : Cond.fieldLink RX0 29 "SeamPictures$CostTable" "lying" "LSeamPictures$Seam;" ∈ wA := List.mem_of_getElem? (i := 75) rfl
set_option maxRecDepth 20000 in
theorem qw_76 : Cond.methodLink RX0 17 yX3_init ∈ wA := List.mem_of_getElem? (i := 76) rfl
set_option maxRecDepth 20000 in
theorem qw_77 : Cond.methodLink RX0 24 yX4_init ∈ wA := List.mem_of_getElem? (i := 77) rfl
set_option maxRecDepth 20000 in
theorem qw_78 : Cond.methodLink RL 12 yX6_init ∈ wA := List.mem_of_getElem? (i := 78) rfl
set_option maxRecDepth 20000 in
theorem qw_79 : Cond.instanceMethod yX6_init ∈ wA := List.mem_of_getElem? (i := 79) rfl
set_option maxRecDepth 20000 in
theorem qw_80 : Cond.code yX6_init cX6_init 1 none ∈ wA := List.mem_of_getElem? (i := 80) rfl
set_option maxRecDepth 20000 in
theorem qw_81 : Cond.methodLink RX6 1 objectInit ∈ wA := List.mem_of_getElem? (i := 81) rfl
set_option maxRecDepth 20000 in
theorem qw_82 : Cond.fieldLink RX6 7 "SeamPicturesModel" "state" "[I" ∈ wA := List.mem_of_getElem? (i := 82) rfl
set_option maxRecDepth 20000 in
theorem qw_83 : Cond.fieldLink RX6 13 "SeamPicturesModel" "images" "[I" ∈ wA := List.mem_of_getElem? (i := 83) rfl
set_option maxRecDepth 20000 in
theorem qw_84 : Cond.fieldLink RX6 16 "SeamPicturesModel" "isKept" "[Z" ∈ wA := List.mem_of_getElem? (i := 84) rfl
set_option maxRecDepth 20000 in
theorem qw_85 : Cond.fieldLink RX6 20 "SeamPicturesModel" "pad" "[I" ∈ wA := List.mem_of_getElem? (i := 85) rfl
set_option maxRecDepth 20000 in
theorem qw_86 : Cond.fieldLink RX6 23 "SeamPicturesModel" "grey" "[I" ∈ wA := List.mem_of_getElem? (i := 86) rfl
set_option maxRecDepth 20000 in
theorem qw_87 : Cond.fieldLink RX6 26 "SeamPicturesModel" "mark" "[I" ∈ wA := List.mem_of_getElem? (i := 87) rfl
set_option maxRecDepth 20000 in
theorem qw_88 : Cond.fieldLink RX6 29 "SeamPicturesModel" "rest" "[I" ∈ wA := List.mem_of_getElem? (i := 88) rfl
set_option maxRecDepth 20000 in
theorem qw_89 : Cond.fieldLink RX6 32 "SeamPicturesModel" "seam" "[I" ∈ wA := List.mem_of_getElem? (i := 89) rfl
set_option maxRecDepth 20000 in
theorem qw_90 : Cond.fieldLink RX6 35 "SeamPicturesModel" "table" "[I" ∈ wA := List.mem_of_getElem? (i := 90) rfl
set_option maxRecDepth 20000 in
theorem qw_91 : Cond.fieldLink RX6 38 "SeamPicturesModel" "tableCost" "[I" ∈ wA := List.mem_of_getElem? (i := 91) rfl
set_option maxRecDepth 20000 in
theorem qw_92 : Cond.methodLink RL 13 yX5_size ∈ wA := List.mem_of_getElem? (i := 92) rfl
set_option maxRecDepth 20000 in
theorem qw_93 : Cond.instanceMethod yX5_size ∈ wA := List.mem_of_getElem? (i := 93) rfl
set_option maxRecDepth 20000 in
theorem qw_94 : Cond.selects RX5 yX5_size yX5_size ∈ wA := List.mem_of_getElem? (i := 94) rfl
set_option maxRecDepth 20000 in
theorem qw_95 : Cond.code yX5_size cX5_size 4 (some .int) ∈ wA := List.mem_of_getElem? (i := 95) rfl
set_option maxRecDepth 20000 in
theorem qw_96 : Cond.fieldLink RX5 56 "SeamPictures$Picture" "wide" "I" ∈ wA := List.mem_of_getElem? (i := 96) rfl
set_option maxRecDepth 20000 in
theorem qw_97 : Cond.fieldLink RX5 60 "SeamPictures$Picture" "high" "I" ∈ wA := List.mem_of_getElem? (i := 97) rfl
set_option maxRecDepth 20000 in
theorem qw_98 : Cond.methodLink RX5 52 yX5_isSide ∈ wA := List.mem_of_getElem? (i := 98) rfl
set_option maxRecDepth 20000 in
theorem qw_99 : Cond.static yX5_isSide ∈ wA := List.mem_of_getElem? (i := 99) rfl
set_option maxRecDepth 20000 in
theorem qw_100 : Cond.code yX5_isSide cX5_isSide 1 (some .boolean) ∈ wA := List.mem_of_getElem? (i := 100) rfl
set_option maxRecDepth 20000 in
theorem qw_101 : Cond.methodLink RX5 63 yX3_blank ∈ wA := List.mem_of_getElem? (i := 101) rfl
set_option maxRecDepth 20000 in
theorem qw_102 : Cond.instanceMethod yX3_blank ∈ wA := List.mem_of_getElem? (i := 102) rfl
set_option maxRecDepth 20000 in
theorem qw_103 : Cond.selects RX3 yX3_blank yX3_blank ∈ wA := List.mem_of_getElem? (i := 103) rfl
set_option maxRecDepth 20000 in
theorem qw_104 : Cond.code yX3_blank cX3_blank 4 none ∈ wA := List.mem_of_getElem? (i := 104) rfl
set_option maxRecDepth 20000 in
theorem qw_105 : Cond.methodLink RL 17 yX6_size_ ∈ wA := List.mem_of_getElem? (i := 105) rfl
set_option maxRecDepth 20000 in
theorem qw_106 : Cond.instanceMethod yX6_size_ ∈ wA := List.mem_of_getElem? (i := 106) rfl
set_option maxRecDepth 20000 in
theorem qw_107 : Cond.selects RX6 yX6_size_ yX6_size_ ∈ wA := List.mem_of_getElem? (i := 107) rfl
set_option maxRecDepth 20000 in
theorem qw_108 : Cond.code yX6_size_ cX6_size_ 5 (some .int) ∈ wA := List.mem_of_getElem? (i := 108) rfl
set_option maxRecDepth 20000 in
theorem qw_109 : Cond.methodLink RX6 41 yX6_in ∈ wA := List.mem_of_getElem? (i := 109) rfl
set_option maxRecDepth 20000 in
theorem qw_110 : Cond.static yX6_in ∈ wA := List.mem_of_getElem? (i := 110) rfl
set_option maxRecDepth 20000 in
theorem qw_111 : Cond.code yX6_in cX6_in 3 (some .boolean) ∈ wA := List.mem_of_getElem? (i := 111) rfl
set_option maxRecDepth 20000 in
theorem qw_112 : Cond.methodLink RL 18 yX5_grey ∈ wA := List.mem_of_getElem? (i := 112) rfl
set_option maxRecDepth 20000 in
theorem qw_113 : Cond.instanceMethod yX5_grey ∈ wA := List.mem_of_getElem? (i := 113) rfl
set_option maxRecDepth 20000 in
theorem qw_114 : Cond.selects RX5 yX5_grey yX5_grey ∈ wA := List.mem_of_getElem? (i := 114) rfl
set_option maxRecDepth 20000 in
theorem qw_115 : Cond.code yX5_grey cX5_grey 4 (some .int) ∈ wA := List.mem_of_getElem? (i := 115) rfl
set_option maxRecDepth 20000 in
theorem qw_116 : Cond.methodLink RX5 67 yX3_hasDot ∈ wA := List.mem_of_getElem? (i := 116) rfl
set_option maxRecDepth 20000 in
theorem qw_117 : Cond.instanceMethod yX3_hasDot ∈ wA := List.mem_of_getElem? (i := 117) rfl
set_option maxRecDepth 20000 in
theorem qw_118 : Cond.selects RX3 yX3_hasDot yX3_hasDot ∈ wA := List.mem_of_getElem? (i := 118) rfl
set_option maxRecDepth 20000 in
theorem qw_119 : Cond.code yX3_hasDot cX3_hasDot 3 (some .boolean) ∈ wA := List.mem_of_getElem? (i := 119) rfl
set_option maxRecDepth 20000 in
theorem qw_120 : Cond.methodLink RX5 71 yX3_changeGrey ∈ wA := List.mem_of_getElem? (i := 120) rfl
set_option maxRecDepth 20000 in
theorem qw_121 : Cond.instanceMethod yX3_changeGrey ∈ wA := List.mem_of_getElem? (i := 121) rfl
set_option maxRecDepth 20000 in
theorem qw_122 : Cond.selects RX3 yX3_changeGrey yX3_changeGrey ∈ wA := List.mem_of_getElem? (i := 122) rfl
set_option maxRecDepth 20000 in
theorem qw_123 : Cond.code yX3_changeGrey cX3_changeGrey 6 (some .int) ∈ wA := List.mem_of_getElem? (i := 123) rfl
set_option maxRecDepth 20000 in
theorem qw_124 : Cond.methodLink RX3 28 yX3_index ∈ wA := List.mem_of_getElem? (i := 124) rfl
set_option maxRecDepth 20000 in
theorem qw_125 : Cond.static yX3_index ∈ wA := List.mem_of_getElem? (i := 125) rfl
set_option maxRecDepth 20000 in
theorem qw_126 : Cond.code yX3_index cX3_index 3 (some .int) ∈ wA := List.mem_of_getElem? (i := 126) rfl
set_option maxRecDepth 20000 in
theorem qw_127 : Cond.methodLink RL 22 yX6_grey ∈ wA := List.mem_of_getElem? (i := 127) rfl
set_option maxRecDepth 20000 in
theorem qw_128 : Cond.instanceMethod yX6_grey ∈ wA := List.mem_of_getElem? (i := 128) rfl
set_option maxRecDepth 20000 in
theorem qw_129 : Cond.selects RX6 yX6_grey yX6_grey ∈ wA := List.mem_of_getElem? (i := 129) rfl
set_option maxRecDepth 20000 in
theorem qw_130 : Cond.code yX6_grey cX6_grey 5 (some .int) ∈ wA := List.mem_of_getElem? (i := 130) rfl
set_option maxRecDepth 20000 in
theorem qw_131 : Cond.methodLink RX6 120 yX6_isDot ∈ wA := List.mem_of_getElem? (i := 131) rfl
set_option maxRecDepth 20000 in
theorem qw_132 : Cond.instanceMethod yX6_isDot ∈ wA := List.mem_of_getElem? (i := 132) rfl
set_option maxRecDepth 20000 in
theorem qw_133 : Cond.selects RX6 yX6_isDot yX6_isDot ∈ wA := List.mem_of_getElem? (i := 133) rfl
set_option maxRecDepth 20000 in
theorem qw_134 : Cond.code yX6_isDot cX6_isDot 3 (some .boolean) ∈ wA := List.mem_of_getElem? (i := 134) rfl
set_option maxRecDepth 20000 in
theorem qw_135 : Cond.methodLink RX6 52 yX6_at ∈ wA := List.mem_of_getElem? (i := 135) rfl
set_option maxRecDepth 20000 in
theorem qw_136 : Cond.static yX6_at ∈ wA := List.mem_of_getElem? (i := 136) rfl
set_option maxRecDepth 20000 in
theorem qw_137 : Cond.code yX6_at cX6_at 2 (some .int) ∈ wA := List.mem_of_getElem? (i := 137) rfl
set_option maxRecDepth 20000 in
theorem qw_138 : Cond.methodLink RL 23 yX5_mark ∈ wA := List.mem_of_getElem? (i := 138) rfl
set_option maxRecDepth 20000 in
theorem qw_139 : Cond.instanceMethod yX5_mark ∈ wA := List.mem_of_getElem? (i := 139) rfl
set_option maxRecDepth 20000 in
theorem qw_140 : Cond.selects RX5 yX5_mark yX5_mark ∈ wA := List.mem_of_getElem? (i := 140) rfl
set_option maxRecDepth 20000 in
theorem qw_141 : Cond.code yX5_mark cX5_mark 4 (some .int) ∈ wA := List.mem_of_getElem? (i := 141) rfl
set_option maxRecDepth 20000 in
theorem qw_142 : Cond.methodLink RX5 75 yX3_changeMark ∈ wA := List.mem_of_getElem? (i := 142) rfl
set_option maxRecDepth 20000 in
theorem qw_143 : Cond.instanceMethod yX3_changeMark ∈ wA := List.mem_of_getElem? (i := 143) rfl
set_option maxRecDepth 20000 in
theorem qw_144 : Cond.selects RX3 yX3_changeMark yX3_changeMark ∈ wA := List.mem_of_getElem? (i := 144) rfl
set_option maxRecDepth 20000 in
theorem qw_145 : Cond.code yX3_changeMark cX3_changeMark 6 (some .int) ∈ wA := List.mem_of_getElem? (i := 145) rfl
set_option maxRecDepth 20000 in
theorem qw_146 : Cond.methodLink RL 26 yX6_mark ∈ wA := List.mem_of_getElem? (i := 146) rfl
set_option maxRecDepth 20000 in
theorem qw_147 : Cond.instanceMethod yX6_mark ∈ wA := List.mem_of_getElem? (i := 147) rfl
set_option maxRecDepth 20000 in
theorem qw_148 : Cond.selects RX6 yX6_mark yX6_mark ∈ wA := List.mem_of_getElem? (i := 148) rfl
set_option maxRecDepth 20000 in
theorem qw_149 : Cond.code yX6_mark cX6_mark 5 (some .int) ∈ wA := List.mem_of_getElem? (i := 149) rfl
set_option maxRecDepth 20000 in
theorem qw_150 : Cond.methodLink RL 27 yX5_rule ∈ wA := List.mem_of_getElem? (i := 150) rfl
set_option maxRecDepth 20000 in
theorem qw_151 : Cond.instanceMethod yX5_rule ∈ wA := List.mem_of_getElem? (i := 151) rfl
set_option maxRecDepth 20000 in
theorem qw_152 : Cond.selects RX5 yX5_rule yX5_rule ∈ wA := List.mem_of_getElem? (i := 152) rfl
set_option maxRecDepth 20000 in
theorem qw_153 : Cond.code yX5_rule cX5_rule 3 (some .int) ∈ wA := List.mem_of_getElem? (i := 153) rfl
set_option maxRecDepth 20000 in
theorem qw_154 : Cond.fieldLink RX5 81 "SeamPictures$Picture" "law" "I" ∈ wA := List.mem_of_getElem? (i := 154) rfl
set_option maxRecDepth 20000 in
theorem qw_155 : Cond.methodLink RX5 78 yX5_isBit ∈ wA := List.mem_of_getElem? (i := 155) rfl
set_option maxRecDepth 20000 in
theorem qw_156 : Cond.static yX5_isBit ∈ wA := List.mem_of_getElem? (i := 156) rfl
set_option maxRecDepth 20000 in
theorem qw_157 : Cond.code yX5_isBit cX5_isBit 1 (some .boolean) ∈ wA := List.mem_of_getElem? (i := 157) rfl
set_option maxRecDepth 20000 in
theorem qw_158 : Cond.methodLink RL 31 yX6_rule ∈ wA := List.mem_of_getElem? (i := 158) rfl
set_option maxRecDepth 20000 in
theorem qw_159 : Cond.instanceMethod yX6_rule ∈ wA := List.mem_of_getElem? (i := 159) rfl
set_option maxRecDepth 20000 in
theorem qw_160 : Cond.selects RX6 yX6_rule yX6_rule ∈ wA := List.mem_of_getElem? (i := 160) rfl
set_option maxRecDepth 20000 in
theorem qw_161 : Cond.code yX6_rule cX6_rule 3 (some .int) ∈ wA := List.mem_of_getElem? (i := 161) rfl
set_option maxRecDepth 20000 in
theorem qw_162 : Cond.methodLink RL 32 yX5_dot ∈ wA := List.mem_of_getElem? (i := 162) rfl
set_option maxRecDepth 20000 in
theorem qw_163 : Cond.instanceMethod yX5_dot ∈ wA := List.mem_of_getElem? (i := 163) rfl
set_option maxRecDepth 20000 in
theorem qw_164 : Cond.selects RX5 yX5_dot yX5_dot ∈ wA := List.mem_of_getElem? (i := 164) rfl
set_option maxRecDepth 20000 in
theorem qw_165 : Cond.code yX5_dot cX5_dot 4 (some .int) ∈ wA := List.mem_of_getElem? (i := 165) rfl
set_option maxRecDepth 20000 in
theorem qw_166 : Cond.methodLink RX5 84 yX3_greyAt ∈ wA := List.mem_of_getElem? (i := 166) rfl
set_option maxRecDepth 20000 in
theorem qw_167 : Cond.instanceMethod yX3_greyAt ∈ wA := List.mem_of_getElem? (i := 167) rfl
set_option maxRecDepth 20000 in
theorem qw_168 : Cond.selects RX3 yX3_greyAt yX3_greyAt ∈ wA := List.mem_of_getElem? (i := 168) rfl
set_option maxRecDepth 20000 in
theorem qw_169 : Cond.code yX3_greyAt cX3_greyAt 4 (some .int) ∈ wA := List.mem_of_getElem? (i := 169) rfl
set_option maxRecDepth 20000 in
theorem qw_170 : Cond.methodLink RX5 87 yX3_markAt ∈ wA := List.mem_of_getElem? (i := 170) rfl
set_option maxRecDepth 20000 in
theorem qw_171 : Cond.instanceMethod yX3_markAt ∈ wA := List.mem_of_getElem? (i := 171) rfl
set_option maxRecDepth 20000 in
theorem qw_172 : Cond.selects RX3 yX3_markAt yX3_markAt ∈ wA := List.mem_of_getElem? (i := 172) rfl
set_option maxRecDepth 20000 in
theorem qw_173 : Cond.code yX3_markAt cX3_markAt 4 (some .int) ∈ wA := List.mem_of_getElem? (i := 173) rfl
set_option maxRecDepth 20000 in
theorem qw_174 : Cond.methodLink RX5 90 yX3_edgeAt ∈ wA := List.mem_of_getElem? (i := 174) rfl
set_option maxRecDepth 20000 in
theorem qw_175 : Cond.instanceMethod yX3_edgeAt ∈ wA := List.mem_of_getElem? (i := 175) rfl
set_option maxRecDepth 20000 in
theorem qw_176 : Cond.selects RX3 yX3_edgeAt yX3_edgeAt ∈ wA := List.mem_of_getElem? (i := 176) rfl
set_option maxRecDepth 20000 in
theorem qw_177 : Cond.code yX3_edgeAt cX3_edgeAt 3 (some .int) ∈ wA := List.mem_of_getElem? (i := 177) rfl
set_option maxRecDepth 20000 in
theorem qw_178 : Cond.methodLink RX3 48 yX3_gapAt ∈ wA := List.mem_of_getElem? (i := 178) rfl
set_option maxRecDepth 20000 in
theorem qw_179 : Cond.instanceMethod yX3_gapAt ∈ wA := List.mem_of_getElem? (i := 179) rfl
set_option maxRecDepth 20000 in
theorem qw_180 : Cond.selects RX3 yX3_gapAt yX3_gapAt ∈ wA := List.mem_of_getElem? (i := 180) rfl
set_option maxRecDepth 20000 in
theorem qw_181 : Cond.code yX3_gapAt cX3_gapAt 6 (some .int) ∈ wA := List.mem_of_getElem? (i := 181) rfl
set_option maxRecDepth 20000 in
theorem qw_182 : Cond.methodLink RX3 32 Lib.Math.max.name ∈ wA := List.mem_of_getElem? (i := 182) rfl
set_option maxRecDepth 20000 in
theorem qw_183 : Cond.static Lib.Math.max.name ∈ wA := List.mem_of_getElem? (i := 183) rfl
set_option maxRecDepth 20000 in
theorem qw_184 : Cond.initialized "java/lang/Math" ∈ wA := List.mem_of_getElem? (i := 184) rfl
set_option maxRecDepth 20000 in
theorem qw_185 : Cond.code Lib.Math.max.name Lib.Math.max.code 2 (some .int) ∈ wA := List.mem_of_getElem? (i := 185) rfl
set_option maxRecDepth 20000 in
theorem qw_186 : Cond.methodLink RX3 42 Lib.Math.min.name ∈ wA := List.mem_of_getElem? (i := 186) rfl
set_option maxRecDepth 20000 in
theorem qw_187 : Cond.static Lib.Math.min.name ∈ wA := List.mem_of_getElem? (i := 187) rfl
set_option maxRecDepth 20000 in
theorem qw_188 : Cond.code Lib.Math.min.name Lib.Math.min.code 2 (some .int) ∈ wA := List.mem_of_getElem? (i := 188) rfl
set_option maxRecDepth 20000 in
theorem qw_189 : Cond.methodLink RX3 45 Lib.Math.abs.name ∈ wA := List.mem_of_getElem? (i := 189) rfl
set_option maxRecDepth 20000 in
theorem qw_190 : Cond.static Lib.Math.abs.name ∈ wA := List.mem_of_getElem? (i := 190) rfl
set_option maxRecDepth 20000 in
theorem qw_191 : Cond.code Lib.Math.abs.name Lib.Math.abs.code 1 (some .int) ∈ wA := List.mem_of_getElem? (i := 191) rfl
set_option maxRecDepth 20000 in
theorem qw_192 : Cond.methodLink RX3 38 yX3_breadth ∈ wA := List.mem_of_getElem? (i := 192) rfl
set_option maxRecDepth 20000 in
theorem qw_193 : Cond.instanceMethod yX3_breadth ∈ wA := List.mem_of_getElem? (i := 193) rfl
set_option maxRecDepth 20000 in
theorem qw_194 : Cond.selects RX3 yX3_breadth yX3_breadth ∈ wA := List.mem_of_getElem? (i := 194) rfl
set_option maxRecDepth 20000 in
theorem qw_195 : Cond.code yX3_breadth cX3_breadth 2 (some .int) ∈ wA := List.mem_of_getElem? (i := 195) rfl
set_option maxRecDepth 20000 in
theorem qw_196 : Cond.methodLink RX5 94 yX3_weightAt ∈ wA := List.mem_of_getElem? (i := 196) rfl
set_option maxRecDepth 20000 in
theorem qw_197 : Cond.instanceMethod yX3_weightAt ∈ wA := List.mem_of_getElem? (i := 197) rfl
set_option maxRecDepth 20000 in
theorem qw_198 : Cond.selects RX3 yX3_weightAt yX3_weightAt ∈ wA := List.mem_of_getElem? (i := 198) rfl
set_option maxRecDepth 20000 in
theorem qw_199 : Cond.code yX3_weightAt cX3_weightAt 3 (some .int) ∈ wA := List.mem_of_getElem? (i := 199) rfl
set_option maxRecDepth 20000 in
theorem qw_200 : Cond.methodLink RX3 51 yX3_edgeAt ∈ wA := List.mem_of_getElem? (i := 200) rfl
set_option maxRecDepth 20000 in
theorem qw_201 : Cond.methodLink RX3 54 yX3_extraAt ∈ wA := List.mem_of_getElem? (i := 201) rfl
set_option maxRecDepth 20000 in
theorem qw_202 : Cond.instanceMethod yX3_extraAt ∈ wA := List.mem_of_getElem? (i := 202) rfl
set_option maxRecDepth 20000 in
theorem qw_203 : Cond.selects RX3 yX3_extraAt yX3_extraAt ∈ wA := List.mem_of_getElem? (i := 203) rfl
set_option maxRecDepth 20000 in
theorem qw_204 : Cond.code yX3_extraAt cX3_extraAt 5 (some .int) ∈ wA := List.mem_of_getElem? (i := 204) rfl
set_option maxRecDepth 20000 in
theorem qw_205 : Cond.methodLink RL 35 yX6_dot ∈ wA := List.mem_of_getElem? (i := 205) rfl
set_option maxRecDepth 20000 in
theorem qw_206 : Cond.instanceMethod yX6_dot ∈ wA := List.mem_of_getElem? (i := 206) rfl
set_option maxRecDepth 20000 in
theorem qw_207 : Cond.selects RX6 yX6_dot yX6_dot ∈ wA := List.mem_of_getElem? (i := 207) rfl
set_option maxRecDepth 20000 in
theorem qw_208 : Cond.code yX6_dot cX6_dot 4 (some .int) ∈ wA := List.mem_of_getElem? (i := 208) rfl
set_option maxRecDepth 20000 in
theorem qw_209 : Cond.methodLink RX6 124 yX6_take ∈ wA := List.mem_of_getElem? (i := 209) rfl
set_option maxRecDepth 20000 in
theorem qw_210 : Cond.instanceMethod yX6_take ∈ wA := List.mem_of_getElem? (i := 210) rfl
set_option maxRecDepth 20000 in
theorem qw_211 : Cond.selects RX6 yX6_take yX6_take ∈ wA := List.mem_of_getElem? (i := 211) rfl
set_option maxRecDepth 20000 in
theorem qw_212 : Cond.code yX6_take cX6_take 2 none ∈ wA := List.mem_of_getElem? (i := 212) rfl
set_option maxRecDepth 20000 in
theorem qw_213 : Cond.fieldLink RX6 45 "SeamPicturesModel" "wide" "I" ∈ wA := List.mem_of_getElem? (i := 213) rfl
set_option maxRecDepth 20000 in
theorem qw_214 : Cond.fieldLink RX6 49 "SeamPicturesModel" "high" "I" ∈ wA := List.mem_of_getElem? (i := 214) rfl
set_option maxRecDepth 20000 in
theorem qw_215 : Cond.methodLink RX6 78 yX6_edge ∈ wA := List.mem_of_getElem? (i := 215) rfl
set_option maxRecDepth 20000 in
theorem qw_216 : Cond.instanceMethod yX6_edge ∈ wA := List.mem_of_getElem? (i := 216) rfl
set_option maxRecDepth 20000 in
theorem qw_217 : Cond.selects RX6 yX6_edge yX6_edge ∈ wA := List.mem_of_getElem? (i := 217) rfl
set_option maxRecDepth 20000 in
theorem qw_218 : Cond.code yX6_edge cX6_edge 3 (some .int) ∈ wA := List.mem_of_getElem? (i := 218) rfl
set_option maxRecDepth 20000 in
theorem qw_219 : Cond.methodLink RX6 69 yX6_across ∈ wA := List.mem_of_getElem? (i := 219) rfl
set_option maxRecDepth 20000 in
theorem qw_220 : Cond.instanceMethod yX6_across ∈ wA := List.mem_of_getElem? (i := 220) rfl
set_option maxRecDepth 20000 in
theorem qw_221 : Cond.selects RX6 yX6_across yX6_across ∈ wA := List.mem_of_getElem? (i := 221) rfl
set_option maxRecDepth 20000 in
theorem qw_222 : Cond.code yX6_across cX6_across 3 (some .int) ∈ wA := List.mem_of_getElem? (i := 222) rfl
set_option maxRecDepth 20000 in
theorem qw_223 : Cond.methodLink RX6 59 yX6_left ∈ wA := List.mem_of_getElem? (i := 223) rfl
set_option maxRecDepth 20000 in
theorem qw_224 : Cond.instanceMethod yX6_left ∈ wA := List.mem_of_getElem? (i := 224) rfl
set_option maxRecDepth 20000 in
theorem qw_225 : Cond.selects RX6 yX6_left yX6_left ∈ wA := List.mem_of_getElem? (i := 225) rfl
set_option maxRecDepth 20000 in
theorem qw_226 : Cond.code yX6_left cX6_left 3 (some .int) ∈ wA := List.mem_of_getElem? (i := 226) rfl
set_option maxRecDepth 20000 in
theorem qw_227 : Cond.methodLink RX6 56 yX6_greyAt ∈ wA := List.mem_of_getElem? (i := 227) rfl
set_option maxRecDepth 20000 in
theorem qw_228 : Cond.instanceMethod yX6_greyAt ∈ wA := List.mem_of_getElem? (i := 228) rfl
set_option maxRecDepth 20000 in
theorem qw_229 : Cond.selects RX6 yX6_greyAt yX6_greyAt ∈ wA := List.mem_of_getElem? (i := 229) rfl
set_option maxRecDepth 20000 in
theorem qw_230 : Cond.code yX6_greyAt cX6_greyAt 3 (some .int) ∈ wA := List.mem_of_getElem? (i := 230) rfl
set_option maxRecDepth 20000 in
theorem qw_231 : Cond.methodLink RX6 62 yX6_right ∈ wA := List.mem_of_getElem? (i := 231) rfl
set_option maxRecDepth 20000 in
theorem qw_232 : Cond.instanceMethod yX6_right ∈ wA := List.mem_of_getElem? (i := 232) rfl
set_option maxRecDepth 20000 in
theorem qw_233 : Cond.selects RX6 yX6_right yX6_right ∈ wA := List.mem_of_getElem? (i := 233) rfl
set_option maxRecDepth 20000 in
theorem qw_234 : Cond.code yX6_right cX6_right 3 (some .int) ∈ wA := List.mem_of_getElem? (i := 234) rfl
set_option maxRecDepth 20000 in
theorem qw_235 : Cond.methodLink RX6 65 yX6_size ∈ wA := List.mem_of_getElem? (i := 235) rfl
set_option maxRecDepth 20000 in
theorem qw_236 : Cond.static yX6_size ∈ wA := List.mem_of_getElem? (i := 236) rfl
set_option maxRecDepth 20000 in
theorem qw_237 : Cond.code yX6_size cX6_size 1 (some .int) ∈ wA := List.mem_of_getElem? (i := 237) rfl
set_option maxRecDepth 20000 in
theorem qw_238 : Cond.methodLink RX6 72 yX6_above ∈ wA := List.mem_of_getElem? (i := 238) rfl
set_option maxRecDepth 20000 in
theorem qw_239 : Cond.instanceMethod yX6_above ∈ wA := List.mem_of_getElem? (i := 239) rfl
set_option maxRecDepth 20000 in
theorem qw_240 : Cond.selects RX6 yX6_above yX6_above ∈ wA := List.mem_of_getElem? (i := 240) rfl
set_option maxRecDepth 20000 in
theorem qw_241 : Cond.code yX6_above cX6_above 3 (some .int) ∈ wA := List.mem_of_getElem? (i := 241) rfl
set_option maxRecDepth 20000 in
theorem qw_242 : Cond.methodLink RX6 75 yX6_below ∈ wA := List.mem_of_getElem? (i := 242) rfl
set_option maxRecDepth 20000 in
theorem qw_243 : Cond.instanceMethod yX6_below ∈ wA := List.mem_of_getElem? (i := 243) rfl
set_option maxRecDepth 20000 in
theorem qw_244 : Cond.selects RX6 yX6_below yX6_below ∈ wA := List.mem_of_getElem? (i := 244) rfl
set_option maxRecDepth 20000 in
theorem qw_245 : Cond.code yX6_below cX6_below 3 (some .int) ∈ wA := List.mem_of_getElem? (i := 245) rfl
set_option maxRecDepth 20000 in
theorem qw_246 : Cond.methodLink RX6 84 yX6_weight ∈ wA := List.mem_of_getElem? (i := 246) rfl
set_option maxRecDepth 20000 in
theorem qw_247 : Cond.instanceMethod yX6_weight ∈ wA := List.mem_of_getElem? (i := 247) rfl
set_option maxRecDepth 20000 in
theorem qw_248 : Cond.selects RX6 yX6_weight yX6_weight ∈ wA := List.mem_of_getElem? (i := 248) rfl
set_option maxRecDepth 20000 in
theorem qw_249 : Cond.code yX6_weight cX6_weight 3 (some .int) ∈ wA := List.mem_of_getElem? (i := 249) rfl
set_option maxRecDepth 20000 in
theorem qw_250 : Cond.methodLink RX6 81 yX6_extra ∈ wA := List.mem_of_getElem? (i := 250) rfl
set_option maxRecDepth 20000 in
theorem qw_251 : Cond.instanceMethod yX6_extra ∈ wA := List.mem_of_getElem? (i := 251) rfl
set_option maxRecDepth 20000 in
theorem qw_252 : Cond.selects RX6 yX6_extra yX6_extra ∈ wA := List.mem_of_getElem? (i := 252) rfl
set_option maxRecDepth 20000 in
theorem qw_253 : Cond.code yX6_extra cX6_extra 4 (some .int) ∈ wA := List.mem_of_getElem? (i := 253) rfl
set_option maxRecDepth 20000 in
theorem qw_254 : Cond.methodLink RL 36 yX5_say ∈ wA := List.mem_of_getElem? (i := 254) rfl
set_option maxRecDepth 20000 in
theorem qw_255 : Cond.instanceMethod yX5_say ∈ wA := List.mem_of_getElem? (i := 255) rfl
set_option maxRecDepth 20000 in
theorem qw_256 : Cond.selects RX5 yX5_say yX5_say ∈ wA := List.mem_of_getElem? (i := 256) rfl
set_option maxRecDepth 20000 in
theorem qw_257 : Cond.code yX5_say cX5_say 2 (some .int) ∈ wA := List.mem_of_getElem? (i := 257) rfl
set_option maxRecDepth 20000 in
theorem qw_258 : Cond.methodLink RX5 97 yX2_isFull ∈ wA := List.mem_of_getElem? (i := 258) rfl
set_option maxRecDepth 20000 in
theorem qw_259 : Cond.instanceMethod yX2_isFull ∈ wA := List.mem_of_getElem? (i := 259) rfl
set_option maxRecDepth 20000 in
theorem qw_260 : Cond.selects RX2 yX2_isFull yX2_isFull ∈ wA := List.mem_of_getElem? (i := 260) rfl
set_option maxRecDepth 20000 in
theorem qw_261 : Cond.code yX2_isFull cX2_isFull 1 (some .boolean) ∈ wA := List.mem_of_getElem? (i := 261) rfl
set_option maxRecDepth 20000 in
theorem qw_262 : Cond.fieldLink RX2 15 "SeamPictures$Pad" "length" "I" ∈ wA := List.mem_of_getElem? (i := 262) rfl
set_option maxRecDepth 20000 in
theorem qw_263 : Cond.methodLink RX5 101 yX2_append ∈ wA := List.mem_of_getElem? (i := 263) rfl
set_option maxRecDepth 20000 in
theorem qw_264 : Cond.instanceMethod yX2_append ∈ wA := List.mem_of_getElem? (i := 264) rfl
set_option maxRecDepth 20000 in
theorem qw_265 : Cond.selects RX2 yX2_append yX2_append ∈ wA := List.mem_of_getElem? (i := 265) rfl
set_option maxRecDepth 20000 in
theorem qw_266 : Cond.code yX2_append cX2_append 2 (some .int) ∈ wA := List.mem_of_getElem? (i := 266) rfl
set_option maxRecDepth 20000 in
theorem qw_267 : Cond.methodLink RL 39 yX6_say ∈ wA := List.mem_of_getElem? (i := 267) rfl
set_option maxRecDepth 20000 in
theorem qw_268 : Cond.instanceMethod yX6_say ∈ wA := List.mem_of_getElem? (i := 268) rfl
set_option maxRecDepth 20000 in
theorem qw_269 : Cond.selects RX6 yX6_say yX6_say ∈ wA := List.mem_of_getElem? (i := 269) rfl
set_option maxRecDepth 20000 in
theorem qw_270 : Cond.code yX6_say cX6_say 2 (some .int) ∈ wA := List.mem_of_getElem? (i := 270) rfl
set_option maxRecDepth 20000 in
theorem qw_271 : Cond.fieldLink RX6 127 "SeamPicturesModel" "said" "I" ∈ wA := List.mem_of_getElem? (i := 271) rfl
set_option maxRecDepth 20000 in
theorem qw_272 : Cond.methodLink RL 40 yX5_wipe ∈ wA := List.mem_of_getElem? (i := 272) rfl
set_option maxRecDepth 20000 in
theorem qw_273 : Cond.instanceMethod yX5_wipe ∈ wA := List.mem_of_getElem? (i := 273) rfl
set_option maxRecDepth 20000 in
theorem qw_274 : Cond.selects RX5 yX5_wipe yX5_wipe ∈ wA := List.mem_of_getElem? (i := 274) rfl
set_option maxRecDepth 20000 in
theorem qw_275 : Cond.code yX5_wipe cX5_wipe 1 (some .int) ∈ wA := List.mem_of_getElem? (i := 275) rfl
set_option maxRecDepth 20000 in
theorem qw_276 : Cond.methodLink RX5 105 yX2_clear ∈ wA := List.mem_of_getElem? (i := 276) rfl
set_option maxRecDepth 20000 in
theorem qw_277 : Cond.instanceMethod yX2_clear ∈ wA := List.mem_of_getElem? (i := 277) rfl
set_option maxRecDepth 20000 in
theorem qw_278 : Cond.selects RX2 yX2_clear yX2_clear ∈ wA := List.mem_of_getElem? (i := 278) rfl
set_option maxRecDepth 20000 in
theorem qw_279 : Cond.code yX2_clear cX2_clear 2 (some .int) ∈ wA := List.mem_of_getElem? (i := 279) rfl
set_option maxRecDepth 20000 in
theorem qw_280 : Cond.methodLink RL 44 yX6_wipe ∈ wA := List.mem_of_getElem? (i := 280) rfl
set_option maxRecDepth 20000 in
theorem qw_281 : Cond.instanceMethod yX6_wipe ∈ wA := List.mem_of_getElem? (i := 281) rfl
set_option maxRecDepth 20000 in
theorem qw_282 : Cond.selects RX6 yX6_wipe yX6_wipe ∈ wA := List.mem_of_getElem? (i := 282) rfl
set_option maxRecDepth 20000 in
theorem qw_283 : Cond.code yX6_wipe cX6_wipe 2 (some .int) ∈ wA := List.mem_of_getElem? (i := 283) rfl
set_option maxRecDepth 20000 in
theorem qw_284 : Cond.methodLink RL 45 yX5_fault ∈ wA := List.mem_of_getElem? (i := 284) rfl
set_option maxRecDepth 20000 in
theorem qw_285 : Cond.instanceMethod yX5_fault ∈ wA := List.mem_of_getElem? (i := 285) rfl
set_option maxRecDepth 20000 in
theorem qw_286 : Cond.selects RX5 yX5_fault yX5_fault ∈ wA := List.mem_of_getElem? (i := 286) rfl
set_option maxRecDepth 20000 in
theorem qw_287 : Cond.code yX5_fault cX5_fault 2 (some .int) ∈ wA := List.mem_of_getElem? (i := 287) rfl
set_option maxRecDepth 20000 in
theorem qw_288 : Cond.methodLink RX5 109 yX2_firstFault ∈ wA := List.mem_of_getElem? (i := 288) rfl
set_option maxRecDepth 20000 in
theorem qw_289 : Cond.instanceMethod yX2_firstFault ∈ wA := List.mem_of_getElem? (i := 289) rfl
set_option maxRecDepth 20000 in
theorem qw_290 : Cond.selects RX2 yX2_firstFault yX2_firstFault ∈ wA := List.mem_of_getElem? (i := 290) rfl
set_option maxRecDepth 20000 in
theorem qw_291 : Cond.code yX2_firstFault cX2_firstFault 6 (some .int) ∈ wA := List.mem_of_getElem? (i := 291) rfl
set_option maxRecDepth 20000 in
theorem qw_292 : Cond.methodLink RX2 19 yX2_canStand ∈ wA := List.mem_of_getElem? (i := 292) rfl
set_option maxRecDepth 20000 in
theorem qw_293 : Cond.static yX2_canStand ∈ wA := List.mem_of_getElem? (i := 293) rfl
set_option maxRecDepth 20000 in
theorem qw_294 : Cond.code yX2_canStand cX2_canStand 3 (some .boolean) ∈ wA := List.mem_of_getElem? (i := 294) rfl
set_option maxRecDepth 20000 in
theorem qw_295 : Cond.methodLink RX2 23 yX2_valueOf ∈ wA := List.mem_of_getElem? (i := 295) rfl
set_option maxRecDepth 20000 in
theorem qw_296 : Cond.static yX2_valueOf ∈ wA := List.mem_of_getElem? (i := 296) rfl
set_option maxRecDepth 20000 in
theorem qw_297 : Cond.code yX2_valueOf cX2_valueOf 2 (some .int) ∈ wA := List.mem_of_getElem? (i := 297) rfl
set_option maxRecDepth 20000 in
theorem qw_298 : Cond.methodLink RL 48 yX6_fault ∈ wA := List.mem_of_getElem? (i := 298) rfl
set_option maxRecDepth 20000 in
theorem qw_299 : Cond.instanceMethod yX6_fault ∈ wA := List.mem_of_getElem? (i := 299) rfl
set_option maxRecDepth 20000 in
theorem qw_300 : Cond.selects RX6 yX6_fault yX6_fault ∈ wA := List.mem_of_getElem? (i := 300) rfl
set_option maxRecDepth 20000 in
theorem qw_301 : Cond.code yX6_fault cX6_fault 2 (some .int) ∈ wA := List.mem_of_getElem? (i := 301) rfl
set_option maxRecDepth 20000 in
theorem qw_302 : Cond.methodLink RX6 141 yX6_faultAs ∈ wA := List.mem_of_getElem? (i := 302) rfl
set_option maxRecDepth 20000 in
theorem qw_303 : Cond.instanceMethod yX6_faultAs ∈ wA := List.mem_of_getElem? (i := 303) rfl
set_option maxRecDepth 20000 in
theorem qw_304 : Cond.selects RX6 yX6_faultAs yX6_faultAs ∈ wA := List.mem_of_getElem? (i := 304) rfl
set_option maxRecDepth 20000 in
theorem qw_305 : Cond.code yX6_faultAs cX6_faultAs 4 (some .int) ∈ wA := List.mem_of_getElem? (i := 305) rfl
set_option maxRecDepth 20000 in
theorem qw_306 : Cond.methodLink RX6 130 yX6_isBetween ∈ wA := List.mem_of_getElem? (i := 306) rfl
set_option maxRecDepth 20000 in
theorem qw_307 : Cond.instanceMethod yX6_isBetween ∈ wA := List.mem_of_getElem? (i := 307) rfl
set_option maxRecDepth 20000 in
theorem qw_308 : Cond.selects RX6 yX6_isBetween yX6_isBetween ∈ wA := List.mem_of_getElem? (i := 308) rfl
set_option maxRecDepth 20000 in
theorem qw_309 : Cond.code yX6_isBetween cX6_isBetween 2 (some .boolean) ∈ wA := List.mem_of_getElem? (i := 309) rfl
set_option maxRecDepth 20000 in
theorem qw_310 : Cond.methodLink RX6 134 yX6_valueOf ∈ wA := List.mem_of_getElem? (i := 310) rfl
set_option maxRecDepth 20000 in
theorem qw_311 : Cond.instanceMethod yX6_valueOf ∈ wA := List.mem_of_getElem? (i := 311) rfl
set_option maxRecDepth 20000 in
theorem qw_312 : Cond.selects RX6 yX6_valueOf yX6_valueOf ∈ wA := List.mem_of_getElem? (i := 312) rfl
set_option maxRecDepth 20000 in
theorem qw_313 : Cond.code yX6_valueOf cX6_valueOf 3 (some .int) ∈ wA := List.mem_of_getElem? (i := 313) rfl
set_option maxRecDepth 20000 in
theorem qw_314 : Cond.methodLink RX6 137 yX6_signs ∈ wA := List.mem_of_getElem? (i := 314) rfl
set_option maxRecDepth 20000 in
theorem qw_315 : Cond.instanceMethod yX6_signs ∈ wA := List.mem_of_getElem? (i := 315) rfl
set_option maxRecDepth 20000 in
theorem qw_316 : Cond.selects RX6 yX6_signs yX6_signs ∈ wA := List.mem_of_getElem? (i := 316) rfl
set_option maxRecDepth 20000 in
theorem qw_317 : Cond.code yX6_signs cX6_signs 1 (some .int) ∈ wA := List.mem_of_getElem? (i := 317) rfl
set_option maxRecDepth 20000 in
theorem qw_318 : Cond.methodLink RL 49 yX5_lay ∈ wA := List.mem_of_getElem? (i := 318) rfl
set_option maxRecDepth 20000 in
theorem qw_319 : Cond.instanceMethod yX5_lay ∈ wA := List.mem_of_getElem? (i := 319) rfl
set_option maxRecDepth 20000 in
theorem qw_320 : Cond.selects RX5 yX5_lay yX5_lay ∈ wA := List.mem_of_getElem? (i := 320) rfl
set_option maxRecDepth 20000 in
theorem qw_321 : Cond.code yX5_lay cX5_lay 3 (some .int) ∈ wA := List.mem_of_getElem? (i := 321) rfl
set_option maxRecDepth 20000 in
theorem qw_322 : Cond.methodLink RX5 112 yX2_layOn ∈ wA := List.mem_of_getElem? (i := 322) rfl
set_option maxRecDepth 20000 in
theorem qw_323 : Cond.instanceMethod yX2_layOn ∈ wA := List.mem_of_getElem? (i := 323) rfl
set_option maxRecDepth 20000 in
theorem qw_324 : Cond.selects RX2 yX2_layOn yX2_layOn ∈ wA := List.mem_of_getElem? (i := 324) rfl
set_option maxRecDepth 20000 in
theorem qw_325 : Cond.code yX2_layOn cX2_layOn 8 (some .int) ∈ wA := List.mem_of_getElem? (i := 325) rfl
set_option maxRecDepth 20000 in
theorem qw_326 : Cond.fieldLink RX2 27 "SeamPictures$Picture" "high" "I" ∈ wA := List.mem_of_getElem? (i := 326) rfl
set_option maxRecDepth 20000 in
theorem qw_327 : Cond.fieldLink RX2 32 "SeamPictures$Picture" "wide" "I" ∈ wA := List.mem_of_getElem? (i := 327) rfl
set_option maxRecDepth 20000 in
theorem qw_328 : Cond.methodLink RX2 35 yX3_changeGrey ∈ wA := List.mem_of_getElem? (i := 328) rfl
set_option maxRecDepth 20000 in
theorem qw_329 : Cond.methodLink RX2 39 yX3_changeMark ∈ wA := List.mem_of_getElem? (i := 329) rfl
set_option maxRecDepth 20000 in
theorem qw_330 : Cond.methodLink RL 52 yX6_lay ∈ wA := List.mem_of_getElem? (i := 330) rfl
set_option maxRecDepth 20000 in
theorem qw_331 : Cond.instanceMethod yX6_lay ∈ wA := List.mem_of_getElem? (i := 331) rfl
set_option maxRecDepth 20000 in
theorem qw_332 : Cond.selects RX6 yX6_lay yX6_lay ∈ wA := List.mem_of_getElem? (i := 332) rfl
set_option maxRecDepth 20000 in
theorem qw_333 : Cond.code yX6_lay cX6_lay 6 (some .int) ∈ wA := List.mem_of_getElem? (i := 333) rfl
set_option maxRecDepth 20000 in
theorem qw_334 : Cond.methodLink RL 53 yX5_seam ∈ wA := List.mem_of_getElem? (i := 334) rfl
set_option maxRecDepth 20000 in
theorem qw_335 : Cond.instanceMethod yX5_seam ∈ wA := List.mem_of_getElem? (i := 335) rfl
set_option maxRecDepth 20000 in
theorem qw_336 : Cond.selects RX5 yX5_seam yX5_seam ∈ wA := List.mem_of_getElem? (i := 336) rfl
set_option maxRecDepth 20000 in
theorem qw_337 : Cond.code yX5_seam cX5_seam 3 (some .int) ∈ wA := List.mem_of_getElem? (i := 337) rfl
set_option maxRecDepth 20000 in
theorem qw_338 : Cond.fieldLink RX5 123 "SeamPictures$Seam" "total" "I" ∈ wA := List.mem_of_getElem? (i := 338) rfl
set_option maxRecDepth 20000 in
theorem qw_339 : Cond.fieldLink RX5 126 "SeamPictures$Seam" "places" "[I" ∈ wA := List.mem_of_getElem? (i := 339) rfl
set_option maxRecDepth 20000 in
theorem qw_340 : Cond.methodLink RX5 116 yX3_lines ∈ wA := List.mem_of_getElem? (i := 340) rfl
set_option maxRecDepth 20000 in
theorem qw_341 : Cond.instanceMethod yX3_lines ∈ wA := List.mem_of_getElem? (i := 341) rfl
set_option maxRecDepth 20000 in
theorem qw_342 : Cond.selects RX3 yX3_lines yX3_lines ∈ wA := List.mem_of_getElem? (i := 342) rfl
set_option maxRecDepth 20000 in
theorem qw_343 : Cond.code yX3_lines cX3_lines 2 (some .int) ∈ wA := List.mem_of_getElem? (i := 343) rfl
set_option maxRecDepth 20000 in
theorem qw_344 : Cond.methodLink RX5 119 yX4_findLeast ∈ wA := List.mem_of_getElem? (i := 344) rfl
set_option maxRecDepth 20000 in
theorem qw_345 : Cond.instanceMethod yX4_findLeast ∈ wA := List.mem_of_getElem? (i := 345) rfl
set_option maxRecDepth 20000 in
theorem qw_346 : Cond.selects RX4 yX4_findLeast yX4_findLeast ∈ wA := List.mem_of_getElem? (i := 346) rfl
set_option maxRecDepth 20000 in
theorem qw_347 : Cond.code yX4_findLeast cX4_findLeast 7 none ∈ wA := List.mem_of_getElem? (i := 347) rfl
set_option maxRecDepth 20000 in
theorem qw_348 : Cond.fieldLink RX4 21 "SeamPictures$Seam" "way" "I" ∈ wA := List.mem_of_getElem? (i := 348) rfl
set_option maxRecDepth 20000 in
theorem qw_349 : Cond.fieldLink RX4 41 "SeamPictures$Seam" "total" "I" ∈ wA := List.mem_of_getElem? (i := 349) rfl
set_option maxRecDepth 20000 in
theorem qw_350 : Cond.methodLink RX4 25 yX3_lines ∈ wA := List.mem_of_getElem? (i := 350) rfl
set_option maxRecDepth 20000 in
theorem qw_351 : Cond.methodLink RX4 31 yX3_breadth ∈ wA := List.mem_of_getElem? (i := 351) rfl
set_option maxRecDepth 20000 in
theorem qw_352 : Cond.methodLink RX4 34 yX4_weighDot ∈ wA := List.mem_of_getElem? (i := 352) rfl
set_option maxRecDepth 20000 in
theorem qw_353 : Cond.instanceMethod yX4_weighDot ∈ wA := List.mem_of_getElem? (i := 353) rfl
set_option maxRecDepth 20000 in
theorem qw_354 : Cond.selects RX4 yX4_weighDot yX4_weighDot ∈ wA := List.mem_of_getElem? (i := 354) rfl
set_option maxRecDepth 20000 in
theorem qw_355 : Cond.code yX4_weighDot cX4_weighDot 6 none ∈ wA := List.mem_of_getElem? (i := 355) rfl
set_option maxRecDepth 20000 in
theorem qw_356 : Cond.methodLink RX4 44 yX3_standingCost ∈ wA := List.mem_of_getElem? (i := 356) rfl
set_option maxRecDepth 20000 in
theorem qw_357 : Cond.instanceMethod yX3_standingCost ∈ wA := List.mem_of_getElem? (i := 357) rfl
set_option maxRecDepth 20000 in
theorem qw_358 : Cond.selects RX3 yX3_standingCost yX3_standingCost ∈ wA := List.mem_of_getElem? (i := 358) rfl
set_option maxRecDepth 20000 in
theorem qw_359 : Cond.code yX3_standingCost cX3_standingCost 5 (some .int) ∈ wA := List.mem_of_getElem? (i := 359) rfl
set_option maxRecDepth 20000 in
theorem qw_360 : Cond.fieldLink RX3 25 "SeamPictures$Picture" "law" "I" ∈ wA := List.mem_of_getElem? (i := 360) rfl
set_option maxRecDepth 20000 in
theorem qw_361 : Cond.methodLink RX4 48 yX4_goOnFrom ∈ wA := List.mem_of_getElem? (i := 361) rfl
set_option maxRecDepth 20000 in
theorem qw_362 : Cond.instanceMethod yX4_goOnFrom ∈ wA := List.mem_of_getElem? (i := 362) rfl
set_option maxRecDepth 20000 in
theorem qw_363 : Cond.selects RX4 yX4_goOnFrom yX4_goOnFrom ∈ wA := List.mem_of_getElem? (i := 363) rfl
set_option maxRecDepth 20000 in
theorem qw_364 : Cond.code yX4_goOnFrom cX4_goOnFrom 10 none ∈ wA := List.mem_of_getElem? (i := 364) rfl
set_option maxRecDepth 20000 in
theorem qw_365 : Cond.methodLink RX4 52 Lib.Math.max.name ∈ wA := List.mem_of_getElem? (i := 365) rfl
set_option maxRecDepth 20000 in
theorem qw_366 : Cond.methodLink RX4 58 Lib.Math.min.name ∈ wA := List.mem_of_getElem? (i := 366) rfl
set_option maxRecDepth 20000 in
theorem qw_367 : Cond.methodLink RX4 61 yX3_turningCost ∈ wA := List.mem_of_getElem? (i := 367) rfl
set_option maxRecDepth 20000 in
theorem qw_368 : Cond.instanceMethod yX3_turningCost ∈ wA := List.mem_of_getElem? (i := 368) rfl
set_option maxRecDepth 20000 in
theorem qw_369 : Cond.selects RX3 yX3_turningCost yX3_turningCost ∈ wA := List.mem_of_getElem? (i := 369) rfl
set_option maxRecDepth 20000 in
theorem qw_370 : Cond.code yX3_turningCost cX3_turningCost 7 (some .int) ∈ wA := List.mem_of_getElem? (i := 370) rfl
set_option maxRecDepth 20000 in
theorem qw_371 : Cond.methodLink RX4 38 yX4_leastStart ∈ wA := List.mem_of_getElem? (i := 371) rfl
set_option maxRecDepth 20000 in
theorem qw_372 : Cond.instanceMethod yX4_leastStart ∈ wA := List.mem_of_getElem? (i := 372) rfl
set_option maxRecDepth 20000 in
theorem qw_373 : Cond.selects RX4 yX4_leastStart yX4_leastStart ∈ wA := List.mem_of_getElem? (i := 373) rfl
set_option maxRecDepth 20000 in
theorem qw_374 : Cond.code yX4_leastStart cX4_leastStart 4 (some .int) ∈ wA := List.mem_of_getElem? (i := 374) rfl
set_option maxRecDepth 20000 in
theorem qw_375 : Cond.methodLink RL 56 yX6_seam ∈ wA := List.mem_of_getElem? (i := 375) rfl
set_option maxRecDepth 20000 in
theorem qw_376 : Cond.instanceMethod yX6_seam ∈ wA := List.mem_of_getElem? (i := 376) rfl
set_option maxRecDepth 20000 in
theorem qw_377 : Cond.selects RX6 yX6_seam yX6_seam ∈ wA := List.mem_of_getElem? (i := 377) rfl
set_option maxRecDepth 20000 in
theorem qw_378 : Cond.code yX6_seam cX6_seam 3 (some .int) ∈ wA := List.mem_of_getElem? (i := 378) rfl
set_option maxRecDepth 20000 in
theorem qw_379 : Cond.fieldLink RX6 94 "SeamPicturesModel" "seamCost" "I" ∈ wA := List.mem_of_getElem? (i := 379) rfl
set_option maxRecDepth 20000 in
theorem qw_380 : Cond.methodLink RX6 144 yX6_isWay ∈ wA := List.mem_of_getElem? (i := 380) rfl
set_option maxRecDepth 20000 in
theorem qw_381 : Cond.static yX6_isWay ∈ wA := List.mem_of_getElem? (i := 381) rfl
set_option maxRecDepth 20000 in
theorem qw_382 : Cond.code yX6_isWay cX6_isWay 1 (some .boolean) ∈ wA := List.mem_of_getElem? (i := 382) rfl
set_option maxRecDepth 20000 in
theorem qw_383 : Cond.methodLink RX6 110 yX6_layWay ∈ wA := List.mem_of_getElem? (i := 383) rfl
set_option maxRecDepth 20000 in
theorem qw_384 : Cond.instanceMethod yX6_layWay ∈ wA := List.mem_of_getElem? (i := 384) rfl
set_option maxRecDepth 20000 in
theorem qw_385 : Cond.selects RX6 yX6_layWay yX6_layWay ∈ wA := List.mem_of_getElem? (i := 385) rfl
set_option maxRecDepth 20000 in
theorem qw_386 : Cond.code yX6_layWay cX6_layWay 2 none ∈ wA := List.mem_of_getElem? (i := 386) rfl
set_option maxRecDepth 20000 in
theorem qw_387 : Cond.methodLink RX6 97 yX6_turn ∈ wA := List.mem_of_getElem? (i := 387) rfl
set_option maxRecDepth 20000 in
theorem qw_388 : Cond.instanceMethod yX6_turn ∈ wA := List.mem_of_getElem? (i := 388) rfl
set_option maxRecDepth 20000 in
theorem qw_389 : Cond.selects RX6 yX6_turn yX6_turn ∈ wA := List.mem_of_getElem? (i := 389) rfl
set_option maxRecDepth 20000 in
theorem qw_390 : Cond.code yX6_turn cX6_turn 5 none ∈ wA := List.mem_of_getElem? (i := 390) rfl
set_option maxRecDepth 20000 in
theorem qw_391 : Cond.methodLink RX6 100 yX6_laySeam ∈ wA := List.mem_of_getElem? (i := 391) rfl
set_option maxRecDepth 20000 in
theorem qw_392 : Cond.instanceMethod yX6_laySeam ∈ wA := List.mem_of_getElem? (i := 392) rfl
set_option maxRecDepth 20000 in
theorem qw_393 : Cond.selects RX6 yX6_laySeam yX6_laySeam ∈ wA := List.mem_of_getElem? (i := 393) rfl
set_option maxRecDepth 20000 in
theorem qw_394 : Cond.code yX6_laySeam cX6_laySeam 4 none ∈ wA := List.mem_of_getElem? (i := 394) rfl
set_option maxRecDepth 20000 in
theorem qw_395 : Cond.methodLink RX6 91 yX6_nextFrom ∈ wA := List.mem_of_getElem? (i := 395) rfl
set_option maxRecDepth 20000 in
theorem qw_396 : Cond.instanceMethod yX6_nextFrom ∈ wA := List.mem_of_getElem? (i := 396) rfl
set_option maxRecDepth 20000 in
theorem qw_397 : Cond.selects RX6 yX6_nextFrom yX6_nextFrom ∈ wA := List.mem_of_getElem? (i := 397) rfl
set_option maxRecDepth 20000 in
theorem qw_398 : Cond.code yX6_nextFrom cX6_nextFrom 7 (some .int) ∈ wA := List.mem_of_getElem? (i := 398) rfl
set_option maxRecDepth 20000 in
theorem qw_399 : Cond.methodLink RX6 87 yX6_costOf ∈ wA := List.mem_of_getElem? (i := 399) rfl
set_option maxRecDepth 20000 in
theorem qw_400 : Cond.instanceMethod yX6_costOf ∈ wA := List.mem_of_getElem? (i := 400) rfl
set_option maxRecDepth 20000 in
theorem qw_401 : Cond.selects RX6 yX6_costOf yX6_costOf ∈ wA := List.mem_of_getElem? (i := 401) rfl
set_option maxRecDepth 20000 in
theorem qw_402 : Cond.code yX6_costOf cX6_costOf 5 (some .int) ∈ wA := List.mem_of_getElem? (i := 402) rfl
set_option maxRecDepth 20000 in
theorem qw_403 : Cond.methodLink RL 57 yX5_cost ∈ wA := List.mem_of_getElem? (i := 403) rfl
set_option maxRecDepth 20000 in
theorem qw_404 : Cond.instanceMethod yX5_cost ∈ wA := List.mem_of_getElem? (i := 404) rfl
set_option maxRecDepth 20000 in
theorem qw_405 : Cond.selects RX5 yX5_cost yX5_cost ∈ wA := List.mem_of_getElem? (i := 405) rfl
set_option maxRecDepth 20000 in
theorem qw_406 : Cond.code yX5_cost cX5_cost 3 (some .int) ∈ wA := List.mem_of_getElem? (i := 406) rfl
set_option maxRecDepth 20000 in
theorem qw_407 : Cond.methodLink RX5 130 yX4_readNumber ∈ wA := List.mem_of_getElem? (i := 407) rfl
set_option maxRecDepth 20000 in
theorem qw_408 : Cond.instanceMethod yX4_readNumber ∈ wA := List.mem_of_getElem? (i := 408) rfl
set_option maxRecDepth 20000 in
theorem qw_409 : Cond.selects RX4 yX4_readNumber yX4_readNumber ∈ wA := List.mem_of_getElem? (i := 409) rfl
set_option maxRecDepth 20000 in
theorem qw_410 : Cond.code yX4_readNumber cX4_readNumber 7 (some .boolean) ∈ wA := List.mem_of_getElem? (i := 410) rfl
set_option maxRecDepth 20000 in
theorem qw_411 : Cond.methodLink RX4 65 yX4_hangsTogether ∈ wA := List.mem_of_getElem? (i := 411) rfl
set_option maxRecDepth 20000 in
theorem qw_412 : Cond.instanceMethod yX4_hangsTogether ∈ wA := List.mem_of_getElem? (i := 412) rfl
set_option maxRecDepth 20000 in
theorem qw_413 : Cond.selects RX4 yX4_hangsTogether yX4_hangsTogether ∈ wA := List.mem_of_getElem? (i := 413) rfl
set_option maxRecDepth 20000 in
theorem qw_414 : Cond.code yX4_hangsTogether cX4_hangsTogether 4 (some .boolean) ∈ wA := List.mem_of_getElem? (i := 414) rfl
set_option maxRecDepth 20000 in
theorem qw_415 : Cond.methodLink RX4 73 Lib.Math.abs.name ∈ wA := List.mem_of_getElem? (i := 415) rfl
set_option maxRecDepth 20000 in
theorem qw_416 : Cond.methodLink RX4 69 yX4_sumOfCosts ∈ wA := List.mem_of_getElem? (i := 416) rfl
set_option maxRecDepth 20000 in
theorem qw_417 : Cond.instanceMethod yX4_sumOfCosts ∈ wA := List.mem_of_getElem? (i := 417) rfl
set_option maxRecDepth 20000 in
theorem qw_418 : Cond.selects RX4 yX4_sumOfCosts yX4_sumOfCosts ∈ wA := List.mem_of_getElem? (i := 418) rfl
set_option maxRecDepth 20000 in
theorem qw_419 : Cond.code yX4_sumOfCosts cX4_sumOfCosts 5 (some .int) ∈ wA := List.mem_of_getElem? (i := 419) rfl
set_option maxRecDepth 20000 in
theorem qw_420 : Cond.methodLink RL 60 yX6_cost ∈ wA := List.mem_of_getElem? (i := 420) rfl
set_option maxRecDepth 20000 in
theorem qw_421 : Cond.instanceMethod yX6_cost ∈ wA := List.mem_of_getElem? (i := 421) rfl
set_option maxRecDepth 20000 in
theorem qw_422 : Cond.selects RX6 yX6_cost yX6_cost ∈ wA := List.mem_of_getElem? (i := 422) rfl
set_option maxRecDepth 20000 in
theorem qw_423 : Cond.code yX6_cost cX6_cost 5 (some .int) ∈ wA := List.mem_of_getElem? (i := 423) rfl
set_option maxRecDepth 20000 in
theorem qw_424 : Cond.methodLink RX6 147 yX6_layNumber ∈ wA := List.mem_of_getElem? (i := 424) rfl
set_option maxRecDepth 20000 in
theorem qw_425 : Cond.instanceMethod yX6_layNumber ∈ wA := List.mem_of_getElem? (i := 425) rfl
set_option maxRecDepth 20000 in
theorem qw_426 : Cond.selects RX6 yX6_layNumber yX6_layNumber ∈ wA := List.mem_of_getElem? (i := 426) rfl
set_option maxRecDepth 20000 in
theorem qw_427 : Cond.code yX6_layNumber cX6_layNumber 5 (some .boolean) ∈ wA := List.mem_of_getElem? (i := 427) rfl
set_option maxRecDepth 20000 in
theorem qw_428 : Cond.methodLink RL 61 yX5_cut ∈ wA := List.mem_of_getElem? (i := 428) rfl
set_option maxRecDepth 20000 in
theorem qw_429 : Cond.instanceMethod yX5_cut ∈ wA := List.mem_of_getElem? (i := 429) rfl
set_option maxRecDepth 20000 in
theorem qw_430 : Cond.selects RX5 yX5_cut yX5_cut ∈ wA := List.mem_of_getElem? (i := 430) rfl
set_option maxRecDepth 20000 in
theorem qw_431 : Cond.code yX5_cut cX5_cut 2 (some .int) ∈ wA := List.mem_of_getElem? (i := 431) rfl
set_option maxRecDepth 20000 in
theorem qw_432 : Cond.methodLink RX5 134 yX3_breadth ∈ wA := List.mem_of_getElem? (i := 432) rfl
set_option maxRecDepth 20000 in
theorem qw_433 : Cond.methodLink RX5 137 yX3_takeOut ∈ wA := List.mem_of_getElem? (i := 433) rfl
set_option maxRecDepth 20000 in
theorem qw_434 : Cond.instanceMethod yX3_takeOut ∈ wA := List.mem_of_getElem? (i := 434) rfl
set_option maxRecDepth 20000 in
theorem qw_435 : Cond.selects RX3 yX3_takeOut yX3_takeOut ∈ wA := List.mem_of_getElem? (i := 435) rfl
set_option maxRecDepth 20000 in
theorem qw_436 : Cond.code yX3_takeOut cX3_takeOut 5 none ∈ wA := List.mem_of_getElem? (i := 436) rfl
set_option maxRecDepth 20000 in
theorem qw_437 : Cond.fieldLink RX3 66 "SeamPictures$Seam" "way" "I" ∈ wA := List.mem_of_getElem? (i := 437) rfl
set_option maxRecDepth 20000 in
theorem qw_438 : Cond.fieldLink RX3 74 "SeamPictures$Seam" "places" "[I" ∈ wA := List.mem_of_getElem? (i := 438) rfl
set_option maxRecDepth 20000 in
theorem qw_439 : Cond.methodLink RX3 71 yX3_lines ∈ wA := List.mem_of_getElem? (i := 439) rfl
set_option maxRecDepth 20000 in
theorem qw_440 : Cond.methodLink RX3 77 yX3_moveDot ∈ wA := List.mem_of_getElem? (i := 440) rfl
set_option maxRecDepth 20000 in
theorem qw_441 : Cond.instanceMethod yX3_moveDot ∈ wA := List.mem_of_getElem? (i := 441) rfl
set_option maxRecDepth 20000 in
theorem qw_442 : Cond.selects RX3 yX3_moveDot yX3_moveDot ∈ wA := List.mem_of_getElem? (i := 442) rfl
set_option maxRecDepth 20000 in
theorem qw_443 : Cond.code yX3_moveDot cX3_moveDot 7 none ∈ wA := List.mem_of_getElem? (i := 443) rfl
set_option maxRecDepth 20000 in
theorem qw_444 : Cond.methodLink RX3 81 yX3_broaden ∈ wA := List.mem_of_getElem? (i := 444) rfl
set_option maxRecDepth 20000 in
theorem qw_445 : Cond.instanceMethod yX3_broaden ∈ wA := List.mem_of_getElem? (i := 445) rfl
set_option maxRecDepth 20000 in
theorem qw_446 : Cond.selects RX3 yX3_broaden yX3_broaden ∈ wA := List.mem_of_getElem? (i := 446) rfl
set_option maxRecDepth 20000 in
theorem qw_447 : Cond.code yX3_broaden cX3_broaden 3 none ∈ wA := List.mem_of_getElem? (i := 447) rfl
set_option maxRecDepth 20000 in
theorem qw_448 : Cond.methodLink RL 64 yX6_cut ∈ wA := List.mem_of_getElem? (i := 448) rfl
set_option maxRecDepth 20000 in
theorem qw_449 : Cond.instanceMethod yX6_cut ∈ wA := List.mem_of_getElem? (i := 449) rfl
set_option maxRecDepth 20000 in
theorem qw_450 : Cond.selects RX6 yX6_cut yX6_cut ∈ wA := List.mem_of_getElem? (i := 450) rfl
set_option maxRecDepth 20000 in
theorem qw_451 : Cond.code yX6_cut cX6_cut 3 (some .int) ∈ wA := List.mem_of_getElem? (i := 451) rfl
set_option maxRecDepth 20000 in
theorem qw_452 : Cond.methodLink RX6 150 yX6_cutWay ∈ wA := List.mem_of_getElem? (i := 452) rfl
set_option maxRecDepth 20000 in
theorem qw_453 : Cond.instanceMethod yX6_cutWay ∈ wA := List.mem_of_getElem? (i := 453) rfl
set_option maxRecDepth 20000 in
theorem qw_454 : Cond.selects RX6 yX6_cutWay yX6_cutWay ∈ wA := List.mem_of_getElem? (i := 454) rfl
set_option maxRecDepth 20000 in
theorem qw_455 : Cond.code yX6_cutWay cX6_cutWay 2 (some .int) ∈ wA := List.mem_of_getElem? (i := 455) rfl
set_option maxRecDepth 20000 in
theorem qw_456 : Cond.methodLink RX6 114 yX6_cutSeam ∈ wA := List.mem_of_getElem? (i := 456) rfl
set_option maxRecDepth 20000 in
theorem qw_457 : Cond.instanceMethod yX6_cutSeam ∈ wA := List.mem_of_getElem? (i := 457) rfl
set_option maxRecDepth 20000 in
theorem qw_458 : Cond.selects RX6 yX6_cutSeam yX6_cutSeam ∈ wA := List.mem_of_getElem? (i := 458) rfl
set_option maxRecDepth 20000 in
theorem qw_459 : Cond.code yX6_cutSeam cX6_cutSeam 3 none ∈ wA := List.mem_of_getElem? (i := 459) rfl
set_option maxRecDepth 20000 in
theorem qw_460 : Cond.fieldLink RX6 103 "SeamPicturesModel" "keptCut" "I" ∈ wA := List.mem_of_getElem? (i := 460) rfl
set_option maxRecDepth 20000 in
theorem qw_461 : Cond.methodLink RX6 106 yX6_move ∈ wA := List.mem_of_getElem? (i := 461) rfl
set_option maxRecDepth 20000 in
theorem qw_462 : Cond.instanceMethod yX6_move ∈ wA := List.mem_of_getElem? (i := 462) rfl
set_option maxRecDepth 20000 in
theorem qw_463 : Cond.selects RX6 yX6_move yX6_move ∈ wA := List.mem_of_getElem? (i := 463) rfl
set_option maxRecDepth 20000 in
theorem qw_464 : Cond.code yX6_move cX6_move 4 none ∈ wA := List.mem_of_getElem? (i := 464) rfl
set_option maxRecDepth 20000 in
theorem qw_465 : Cond.methodLink RX6 117 yX6_leaveWay ∈ wA := List.mem_of_getElem? (i := 465) rfl
set_option maxRecDepth 20000 in
theorem qw_466 : Cond.instanceMethod yX6_leaveWay ∈ wA := List.mem_of_getElem? (i := 466) rfl
set_option maxRecDepth 20000 in
theorem qw_467 : Cond.selects RX6 yX6_leaveWay yX6_leaveWay ∈ wA := List.mem_of_getElem? (i := 467) rfl
set_option maxRecDepth 20000 in
theorem qw_468 : Cond.code yX6_leaveWay cX6_leaveWay 2 none ∈ wA := List.mem_of_getElem? (i := 468) rfl
set_option maxRecDepth 20000 in
theorem qw_469 : Cond.methodLink RX6 153 yX6_give ∈ wA := List.mem_of_getElem? (i := 469) rfl
set_option maxRecDepth 20000 in
theorem qw_470 : Cond.instanceMethod yX6_give ∈ wA := List.mem_of_getElem? (i := 470) rfl
set_option maxRecDepth 20000 in
theorem qw_471 : Cond.selects RX6 yX6_give yX6_give ∈ wA := List.mem_of_getElem? (i := 471) rfl
set_option maxRecDepth 20000 in
theorem qw_472 : Cond.code yX6_give cX6_give 3 none ∈ wA := List.mem_of_getElem? (i := 472) rfl
set_option maxRecDepth 20000 in
theorem qw_473 : Cond.methodLink RL 65 yX5_add ∈ wA := List.mem_of_getElem? (i := 473) rfl
set_option maxRecDepth 20000 in
theorem qw_474 : Cond.instanceMethod yX5_add ∈ wA := List.mem_of_getElem? (i := 474) rfl
set_option maxRecDepth 20000 in
theorem qw_475 : Cond.selects RX5 yX5_add yX5_add ∈ wA := List.mem_of_getElem? (i := 475) rfl
set_option maxRecDepth 20000 in
theorem qw_476 : Cond.code yX5_add cX5_add 2 (some .int) ∈ wA := List.mem_of_getElem? (i := 476) rfl
set_option maxRecDepth 20000 in
theorem qw_477 : Cond.methodLink RX5 141 yX3_putIn ∈ wA := List.mem_of_getElem? (i := 477) rfl
set_option maxRecDepth 20000 in
theorem qw_478 : Cond.instanceMethod yX3_putIn ∈ wA := List.mem_of_getElem? (i := 478) rfl
set_option maxRecDepth 20000 in
theorem qw_479 : Cond.selects RX3 yX3_putIn yX3_putIn ∈ wA := List.mem_of_getElem? (i := 479) rfl
set_option maxRecDepth 20000 in
theorem qw_480 : Cond.code yX3_putIn cX3_putIn 8 none ∈ wA := List.mem_of_getElem? (i := 480) rfl
set_option maxRecDepth 20000 in
theorem qw_481 : Cond.methodLink RX3 60 yX3_greyAt ∈ wA := List.mem_of_getElem? (i := 481) rfl
set_option maxRecDepth 20000 in
theorem qw_482 : Cond.methodLink RL 68 yX6_add ∈ wA := List.mem_of_getElem? (i := 482) rfl
set_option maxRecDepth 20000 in
theorem qw_483 : Cond.instanceMethod yX6_add ∈ wA := List.mem_of_getElem? (i := 483) rfl
set_option maxRecDepth 20000 in
theorem qw_484 : Cond.selects RX6 yX6_add yX6_add ∈ wA := List.mem_of_getElem? (i := 484) rfl
set_option maxRecDepth 20000 in
theorem qw_485 : Cond.code yX6_add cX6_add 2 (some .int) ∈ wA := List.mem_of_getElem? (i := 485) rfl
set_option maxRecDepth 20000 in
theorem qw_486 : Cond.methodLink RX6 156 yX6_addSeam ∈ wA := List.mem_of_getElem? (i := 486) rfl
set_option maxRecDepth 20000 in
theorem qw_487 : Cond.instanceMethod yX6_addSeam ∈ wA := List.mem_of_getElem? (i := 487) rfl
set_option maxRecDepth 20000 in
theorem qw_488 : Cond.selects RX6 yX6_addSeam yX6_addSeam ∈ wA := List.mem_of_getElem? (i := 488) rfl
set_option maxRecDepth 20000 in
theorem qw_489 : Cond.code yX6_addSeam cX6_addSeam 4 none ∈ wA := List.mem_of_getElem? (i := 489) rfl
set_option maxRecDepth 20000 in
theorem qw_490 : Cond.methodLink RL 69 yX5_least ∈ wA := List.mem_of_getElem? (i := 490) rfl
set_option maxRecDepth 20000 in
theorem qw_491 : Cond.instanceMethod yX5_least ∈ wA := List.mem_of_getElem? (i := 491) rfl
set_option maxRecDepth 20000 in
theorem qw_492 : Cond.selects RX5 yX5_least yX5_least ∈ wA := List.mem_of_getElem? (i := 492) rfl
set_option maxRecDepth 20000 in
theorem qw_493 : Cond.code yX5_least cX5_least 3 (some .int) ∈ wA := List.mem_of_getElem? (i := 493) rfl
set_option maxRecDepth 20000 in
theorem qw_494 : Cond.methodLink RX5 144 yX3_lightestInRow ∈ wA := List.mem_of_getElem? (i := 494) rfl
set_option maxRecDepth 20000 in
theorem qw_495 : Cond.instanceMethod yX3_lightestInRow ∈ wA := List.mem_of_getElem? (i := 495) rfl
set_option maxRecDepth 20000 in
theorem qw_496 : Cond.selects RX3 yX3_lightestInRow yX3_lightestInRow ∈ wA := List.mem_of_getElem? (i := 496) rfl
set_option maxRecDepth 20000 in
theorem qw_497 : Cond.code yX3_lightestInRow cX3_lightestInRow 4 (some .int) ∈ wA := List.mem_of_getElem? (i := 497) rfl
set_option maxRecDepth 20000 in
theorem qw_498 : Cond.methodLink RX3 57 yX3_weightAt ∈ wA := List.mem_of_getElem? (i := 498) rfl
set_option maxRecDepth 20000 in
theorem qw_499 : Cond.methodLink RX5 147 yX3_lightestInColumn ∈ wA := List.mem_of_getElem? (i := 499) rfl
set_option maxRecDepth 20000 in
theorem qw_500 : Cond.instanceMethod yX3_lightestInColumn ∈ wA := List.mem_of_getElem? (i := 500) rfl
set_option maxRecDepth 20000 in
theorem qw_501 : Cond.selects RX3 yX3_lightestInColumn yX3_lightestInColumn ∈ wA := List.mem_of_getElem? (i := 501) rfl
set_option maxRecDepth 20000 in
theorem qw_502 : Cond.code yX3_lightestInColumn cX3_lightestInColumn 4 (some .int) ∈ wA := List.mem_of_getElem? (i := 502) rfl
set_option maxRecDepth 20000 in
theorem qw_503 : Cond.methodLink RL 72 yX6_least ∈ wA := List.mem_of_getElem? (i := 503) rfl
set_option maxRecDepth 20000 in
theorem qw_504 : Cond.instanceMethod yX6_least ∈ wA := List.mem_of_getElem? (i := 504) rfl
set_option maxRecDepth 20000 in
theorem qw_505 : Cond.selects RX6 yX6_least yX6_least ∈ wA := List.mem_of_getElem? (i := 505) rfl
set_option maxRecDepth 20000 in
theorem qw_506 : Cond.code yX6_least cX6_least 5 (some .int) ∈ wA := List.mem_of_getElem? (i := 506) rfl
set_option maxRecDepth 20000 in
theorem qw_507 : Cond.methodLink RL 73 yX5_best ∈ wA := List.mem_of_getElem? (i := 507) rfl
set_option maxRecDepth 20000 in
theorem qw_508 : Cond.instanceMethod yX5_best ∈ wA := List.mem_of_getElem? (i := 508) rfl
set_option maxRecDepth 20000 in
theorem qw_509 : Cond.selects RX5 yX5_best yX5_best ∈ wA := List.mem_of_getElem? (i := 509) rfl
set_option maxRecDepth 20000 in
theorem qw_510 : Cond.code yX5_best cX5_best 4 (some .int) ∈ wA := List.mem_of_getElem? (i := 510) rfl
set_option maxRecDepth 20000 in
theorem qw_511 : Cond.fieldLink RX5 157 "SeamPictures$OrderSearch" "bestCost" "I" ∈ wA := List.mem_of_getElem? (i := 511) rfl
set_option maxRecDepth 20000 in
theorem qw_512 : Cond.fieldLink RX5 160 "SeamPictures$OrderSearch" "ordersAtBest" "I" ∈ wA := List.mem_of_getElem? (i := 512) rfl
set_option maxRecDepth 20000 in
theorem qw_513 : Cond.fieldLink RX5 163 "SeamPictures$OrderSearch" "bestOrder" "I" ∈ wA := List.mem_of_getElem? (i := 513) rfl
set_option maxRecDepth 20000 in
theorem qw_514 : Cond.fieldLink RX5 166 "SeamPictures$OrderSearch" "bestKeptCut" "I" ∈ wA := List.mem_of_getElem? (i := 514) rfl
set_option maxRecDepth 20000 in
theorem qw_515 : Cond.methodLink RX5 150 yX5_canReach ∈ wA := List.mem_of_getElem? (i := 515) rfl
set_option maxRecDepth 20000 in
theorem qw_516 : Cond.instanceMethod yX5_canReach ∈ wA := List.mem_of_getElem? (i := 516) rfl
set_option maxRecDepth 20000 in
theorem qw_517 : Cond.selects RX5 yX5_canReach yX5_canReach ∈ wA := List.mem_of_getElem? (i := 517) rfl
set_option maxRecDepth 20000 in
theorem qw_518 : Cond.code yX5_canReach cX5_canReach 3 (some .boolean) ∈ wA := List.mem_of_getElem? (i := 518) rfl
set_option maxRecDepth 20000 in
theorem qw_519 : Cond.methodLink RX5 153 yX1_findBest ∈ wA := List.mem_of_getElem? (i := 519) rfl
set_option maxRecDepth 20000 in
theorem qw_520 : Cond.instanceMethod yX1_findBest ∈ wA := List.mem_of_getElem? (i := 520) rfl
set_option maxRecDepth 20000 in
theorem qw_521 : Cond.selects RX1 yX1_findBest yX1_findBest ∈ wA := List.mem_of_getElem? (i := 521) rfl
set_option maxRecDepth 20000 in
theorem qw_522 : Cond.code yX1_findBest cX1_findBest 4 none ∈ wA := List.mem_of_getElem? (i := 522) rfl
set_option maxRecDepth 20000 in
theorem qw_523 : Cond.fieldLink RX1 25 "SeamPictures$OrderSearch" "ordersAtBest" "I" ∈ wA := List.mem_of_getElem? (i := 523) rfl
set_option maxRecDepth 20000 in
theorem qw_524 : Cond.methodLink RX1 29 yX3_copyFrom ∈ wA := List.mem_of_getElem? (i := 524) rfl
set_option maxRecDepth 20000 in
theorem qw_525 : Cond.instanceMethod yX3_copyFrom ∈ wA := List.mem_of_getElem? (i := 525) rfl
set_option maxRecDepth 20000 in
theorem qw_526 : Cond.selects RX3 yX3_copyFrom yX3_copyFrom ∈ wA := List.mem_of_getElem? (i := 526) rfl
set_option maxRecDepth 20000 in
theorem qw_527 : Cond.code yX3_copyFrom cX3_copyFrom 3 none ∈ wA := List.mem_of_getElem? (i := 527) rfl
set_option maxRecDepth 20000 in
theorem qw_528 : Cond.methodLink RX1 33 yX1_tryOrders ∈ wA := List.mem_of_getElem? (i := 528) rfl
set_option maxRecDepth 20000 in
theorem qw_529 : Cond.instanceMethod yX1_tryOrders ∈ wA := List.mem_of_getElem? (i := 529) rfl
set_option maxRecDepth 20000 in
theorem qw_530 : Cond.selects RX1 yX1_tryOrders yX1_tryOrders ∈ wA := List.mem_of_getElem? (i := 530) rfl
set_option maxRecDepth 20000 in
theorem qw_531 : Cond.code yX1_tryOrders cX1_tryOrders 10 none ∈ wA := List.mem_of_getElem? (i := 531) rfl
set_option maxRecDepth 20000 in
theorem qw_532 : Cond.fieldLink RX1 53 "SeamPictures$Seam" "total" "I" ∈ wA := List.mem_of_getElem? (i := 532) rfl
set_option maxRecDepth 20000 in
theorem qw_533 : Cond.methodLink RX1 37 yX1_compare ∈ wA := List.mem_of_getElem? (i := 533) rfl
set_option maxRecDepth 20000 in
theorem qw_534 : Cond.instanceMethod yX1_compare ∈ wA := List.mem_of_getElem? (i := 534) rfl
set_option maxRecDepth 20000 in
theorem qw_535 : Cond.selects RX1 yX1_compare yX1_compare ∈ wA := List.mem_of_getElem? (i := 535) rfl
set_option maxRecDepth 20000 in
theorem qw_536 : Cond.code yX1_compare cX1_compare 4 none ∈ wA := List.mem_of_getElem? (i := 536) rfl
set_option maxRecDepth 20000 in
theorem qw_537 : Cond.fieldLink RX1 56 "SeamPictures$OrderSearch" "bestCost" "I" ∈ wA := List.mem_of_getElem? (i := 537) rfl
set_option maxRecDepth 20000 in
theorem qw_538 : Cond.fieldLink RX1 59 "SeamPictures$OrderSearch" "bestOrder" "I" ∈ wA := List.mem_of_getElem? (i := 538) rfl
set_option maxRecDepth 20000 in
theorem qw_539 : Cond.fieldLink RX1 62 "SeamPictures$OrderSearch" "bestKeptCut" "I" ∈ wA := List.mem_of_getElem? (i := 539) rfl
set_option maxRecDepth 20000 in
theorem qw_540 : Cond.methodLink RX1 41 yX4_findLeast ∈ wA := List.mem_of_getElem? (i := 540) rfl
set_option maxRecDepth 20000 in
theorem qw_541 : Cond.methodLink RX1 45 yX3_keptDotsOf ∈ wA := List.mem_of_getElem? (i := 541) rfl
set_option maxRecDepth 20000 in
theorem qw_542 : Cond.instanceMethod yX3_keptDotsOf ∈ wA := List.mem_of_getElem? (i := 542) rfl
set_option maxRecDepth 20000 in
theorem qw_543 : Cond.selects RX3 yX3_keptDotsOf yX3_keptDotsOf ∈ wA := List.mem_of_getElem? (i := 543) rfl
set_option maxRecDepth 20000 in
theorem qw_544 : Cond.code yX3_keptDotsOf cX3_keptDotsOf 4 (some .int) ∈ wA := List.mem_of_getElem? (i := 544) rfl
set_option maxRecDepth 20000 in
theorem qw_545 : Cond.methodLink RX3 63 yX3_markAt ∈ wA := List.mem_of_getElem? (i := 545) rfl
set_option maxRecDepth 20000 in
theorem qw_546 : Cond.methodLink RX1 49 yX3_takeOut ∈ wA := List.mem_of_getElem? (i := 546) rfl
set_option maxRecDepth 20000 in
theorem qw_547 : Cond.methodLink RL 76 yX6_best ∈ wA := List.mem_of_getElem? (i := 547) rfl
set_option maxRecDepth 20000 in
theorem qw_548 : Cond.instanceMethod yX6_best ∈ wA := List.mem_of_getElem? (i := 548) rfl
set_option maxRecDepth 20000 in
theorem qw_549 : Cond.selects RX6 yX6_best yX6_best ∈ wA := List.mem_of_getElem? (i := 549) rfl
set_option maxRecDepth 20000 in
theorem qw_550 : Cond.code yX6_best cX6_best 4 (some .int) ∈ wA := List.mem_of_getElem? (i := 550) rfl
set_option maxRecDepth 20000 in
theorem qw_551 : Cond.fieldLink RX6 171 "SeamPicturesModel" "bestCost" "I" ∈ wA := List.mem_of_getElem? (i := 551) rfl
set_option maxRecDepth 20000 in
theorem qw_552 : Cond.fieldLink RX6 162 "SeamPicturesModel" "asGood" "I" ∈ wA := List.mem_of_getElem? (i := 552) rfl
set_option maxRecDepth 20000 in
theorem qw_553 : Cond.fieldLink RX6 159 "SeamPicturesModel" "bestOrder" "I" ∈ wA := List.mem_of_getElem? (i := 553) rfl
set_option maxRecDepth 20000 in
theorem qw_554 : Cond.fieldLink RX6 174 "SeamPicturesModel" "bestKept" "I" ∈ wA := List.mem_of_getElem? (i := 554) rfl
set_option maxRecDepth 20000 in
theorem qw_555 : Cond.methodLink RX6 177 yX6_canGo ∈ wA := List.mem_of_getElem? (i := 555) rfl
set_option maxRecDepth 20000 in
theorem qw_556 : Cond.instanceMethod yX6_canGo ∈ wA := List.mem_of_getElem? (i := 556) rfl
set_option maxRecDepth 20000 in
theorem qw_557 : Cond.selects RX6 yX6_canGo yX6_canGo ∈ wA := List.mem_of_getElem? (i := 557) rfl
set_option maxRecDepth 20000 in
theorem qw_558 : Cond.code yX6_canGo cX6_canGo 3 (some .boolean) ∈ wA := List.mem_of_getElem? (i := 558) rfl
set_option maxRecDepth 20000 in
theorem qw_559 : Cond.methodLink RX6 180 yX6_layBest ∈ wA := List.mem_of_getElem? (i := 559) rfl
set_option maxRecDepth 20000 in
theorem qw_560 : Cond.instanceMethod yX6_layBest ∈ wA := List.mem_of_getElem? (i := 560) rfl
set_option maxRecDepth 20000 in
theorem qw_561 : Cond.selects RX6 yX6_layBest yX6_layBest ∈ wA := List.mem_of_getElem? (i := 561) rfl
set_option maxRecDepth 20000 in
theorem qw_562 : Cond.code yX6_layBest cX6_layBest 5 none ∈ wA := List.mem_of_getElem? (i := 562) rfl
set_option maxRecDepth 20000 in
theorem qw_563 : Cond.methodLink RX6 165 yX6_bits ∈ wA := List.mem_of_getElem? (i := 563) rfl
set_option maxRecDepth 20000 in
theorem qw_564 : Cond.static yX6_bits ∈ wA := List.mem_of_getElem? (i := 564) rfl
set_option maxRecDepth 20000 in
theorem qw_565 : Cond.code yX6_bits cX6_bits 3 (some .int) ∈ wA := List.mem_of_getElem? (i := 565) rfl
set_option maxRecDepth 20000 in
theorem qw_566 : Cond.methodLink RX6 168 yX6_goOrder ∈ wA := List.mem_of_getElem? (i := 566) rfl
set_option maxRecDepth 20000 in
theorem qw_567 : Cond.instanceMethod yX6_goOrder ∈ wA := List.mem_of_getElem? (i := 567) rfl
set_option maxRecDepth 20000 in
theorem qw_568 : Cond.selects RX6 yX6_goOrder yX6_goOrder ∈ wA := List.mem_of_getElem? (i := 568) rfl
set_option maxRecDepth 20000 in
theorem qw_569 : Cond.code yX6_goOrder cX6_goOrder 5 (some .int) ∈ wA := List.mem_of_getElem? (i := 569) rfl
set_option maxRecDepth 20000 in
theorem qw_570 : Cond.methodLink RX6 184 yX6_turned ∈ wA := List.mem_of_getElem? (i := 570) rfl
set_option maxRecDepth 20000 in
theorem qw_571 : Cond.static yX6_turned ∈ wA := List.mem_of_getElem? (i := 571) rfl
set_option maxRecDepth 20000 in
theorem qw_572 : Cond.code yX6_turned cX6_turned 4 (some .int) ∈ wA := List.mem_of_getElem? (i := 572) rfl
set_option maxRecDepth 20000 in
theorem qw_573 : Cond.methodLink RL 77 yX5_table ∈ wA := List.mem_of_getElem? (i := 573) rfl
set_option maxRecDepth 20000 in
theorem qw_574 : Cond.instanceMethod yX5_table ∈ wA := List.mem_of_getElem? (i := 574) rfl
set_option maxRecDepth 20000 in
theorem qw_575 : Cond.selects RX5 yX5_table yX5_table ∈ wA := List.mem_of_getElem? (i := 575) rfl
set_option maxRecDepth 20000 in
theorem qw_576 : Cond.code yX5_table cX5_table 6 (some .int) ∈ wA := List.mem_of_getElem? (i := 576) rfl
set_option maxRecDepth 20000 in
theorem qw_577 : Cond.fieldLink RX5 172 "SeamPictures$CostTable" "costs" "[I" ∈ wA := List.mem_of_getElem? (i := 577) rfl
set_option maxRecDepth 20000 in
theorem qw_578 : Cond.fieldLink RX5 175 "SeamPictures$CostTable" "row" "[LSeamPictures$Picture;" ∈ wA := List.mem_of_getElem? (i := 578) rfl
set_option maxRecDepth 20000 in
theorem qw_579 : Cond.methodLink RX5 169 yX0_fillTo ∈ wA := List.mem_of_getElem? (i := 579) rfl
set_option maxRecDepth 20000 in
theorem qw_580 : Cond.instanceMethod yX0_fillTo ∈ wA := List.mem_of_getElem? (i := 580) rfl
set_option maxRecDepth 20000 in
theorem qw_581 : Cond.selects RX0 yX0_fillTo yX0_fillTo ∈ wA := List.mem_of_getElem? (i := 581) rfl
set_option maxRecDepth 20000 in
theorem qw_582 : Cond.code yX0_fillTo cX0_fillTo 6 none ∈ wA := List.mem_of_getElem? (i := 582) rfl
set_option maxRecDepth 20000 in
theorem qw_583 : Cond.methodLink RX0 32 yX3_copyFrom ∈ wA := List.mem_of_getElem? (i := 583) rfl
set_option maxRecDepth 20000 in
theorem qw_584 : Cond.methodLink RX0 36 yX4_findLeast ∈ wA := List.mem_of_getElem? (i := 584) rfl
set_option maxRecDepth 20000 in
theorem qw_585 : Cond.methodLink RX0 40 yX0_takeLying ∈ wA := List.mem_of_getElem? (i := 585) rfl
set_option maxRecDepth 20000 in
theorem qw_586 : Cond.instanceMethod yX0_takeLying ∈ wA := List.mem_of_getElem? (i := 586) rfl
set_option maxRecDepth 20000 in
theorem qw_587 : Cond.selects RX0 yX0_takeLying yX0_takeLying ∈ wA := List.mem_of_getElem? (i := 587) rfl
set_option maxRecDepth 20000 in
theorem qw_588 : Cond.code yX0_takeLying cX0_takeLying 2 none ∈ wA := List.mem_of_getElem? (i := 588) rfl
set_option maxRecDepth 20000 in
theorem qw_589 : Cond.fieldLink RX0 50 "SeamPictures$Seam" "total" "I" ∈ wA := List.mem_of_getElem? (i := 589) rfl
set_option maxRecDepth 20000 in
theorem qw_590 : Cond.methodLink RX0 54 yX3_takeOut ∈ wA := List.mem_of_getElem? (i := 590) rfl
set_option maxRecDepth 20000 in
theorem qw_591 : Cond.methodLink RX0 44 yX0_takeUpright ∈ wA := List.mem_of_getElem? (i := 591) rfl
set_option maxRecDepth 20000 in
theorem qw_592 : Cond.instanceMethod yX0_takeUpright ∈ wA := List.mem_of_getElem? (i := 592) rfl
set_option maxRecDepth 20000 in
theorem qw_593 : Cond.selects RX0 yX0_takeUpright yX0_takeUpright ∈ wA := List.mem_of_getElem? (i := 593) rfl
set_option maxRecDepth 20000 in
theorem qw_594 : Cond.code yX0_takeUpright cX0_takeUpright 2 none ∈ wA := List.mem_of_getElem? (i := 594) rfl
set_option maxRecDepth 20000 in
theorem qw_595 : Cond.methodLink RX0 47 yX0_takeCheaper ∈ wA := List.mem_of_getElem? (i := 595) rfl
set_option maxRecDepth 20000 in
theorem qw_596 : Cond.instanceMethod yX0_takeCheaper ∈ wA := List.mem_of_getElem? (i := 596) rfl
set_option maxRecDepth 20000 in
theorem qw_597 : Cond.selects RX0 yX0_takeCheaper yX0_takeCheaper ∈ wA := List.mem_of_getElem? (i := 597) rfl
set_option maxRecDepth 20000 in
theorem qw_598 : Cond.code yX0_takeCheaper cX0_takeCheaper 2 none ∈ wA := List.mem_of_getElem? (i := 598) rfl
set_option maxRecDepth 20000 in
theorem qw_599 : Cond.methodLink RL 80 yX6_table ∈ wA := List.mem_of_getElem? (i := 599) rfl
set_option maxRecDepth 20000 in
theorem qw_600 : Cond.instanceMethod yX6_table ∈ wA := List.mem_of_getElem? (i := 600) rfl
set_option maxRecDepth 20000 in
theorem qw_601 : Cond.selects RX6 yX6_table yX6_table ∈ wA := List.mem_of_getElem? (i := 601) rfl
set_option maxRecDepth 20000 in
theorem qw_602 : Cond.code yX6_table cX6_table 6 (some .int) ∈ wA := List.mem_of_getElem? (i := 602) rfl
set_option maxRecDepth 20000 in
theorem qw_603 : Cond.methodLink RX6 196 yX6_layTable ∈ wA := List.mem_of_getElem? (i := 603) rfl
set_option maxRecDepth 20000 in
theorem qw_604 : Cond.instanceMethod yX6_layTable ∈ wA := List.mem_of_getElem? (i := 604) rfl
set_option maxRecDepth 20000 in
theorem qw_605 : Cond.selects RX6 yX6_layTable yX6_layTable ∈ wA := List.mem_of_getElem? (i := 605) rfl
set_option maxRecDepth 20000 in
theorem qw_606 : Cond.code yX6_layTable cX6_layTable 5 none ∈ wA := List.mem_of_getElem? (i := 606) rfl
set_option maxRecDepth 20000 in
theorem qw_607 : Cond.methodLink RX6 190 yX6_save ∈ wA := List.mem_of_getElem? (i := 607) rfl
set_option maxRecDepth 20000 in
theorem qw_608 : Cond.instanceMethod yX6_save ∈ wA := List.mem_of_getElem? (i := 608) rfl
set_option maxRecDepth 20000 in
theorem qw_609 : Cond.selects RX6 yX6_save yX6_save ∈ wA := List.mem_of_getElem? (i := 609) rfl
set_option maxRecDepth 20000 in
theorem qw_610 : Cond.code yX6_save cX6_save 3 none ∈ wA := List.mem_of_getElem? (i := 610) rfl
set_option maxRecDepth 20000 in
theorem qw_611 : Cond.methodLink RX6 193 yX6_layPlace ∈ wA := List.mem_of_getElem? (i := 611) rfl
set_option maxRecDepth 20000 in
theorem qw_612 : Cond.instanceMethod yX6_layPlace ∈ wA := List.mem_of_getElem? (i := 612) rfl
set_option maxRecDepth 20000 in
theorem qw_613 : Cond.selects RX6 yX6_layPlace yX6_layPlace ∈ wA := List.mem_of_getElem? (i := 613) rfl
set_option maxRecDepth 20000 in
theorem qw_614 : Cond.code yX6_layPlace cX6_layPlace 6 none ∈ wA := List.mem_of_getElem? (i := 614) rfl
set_option maxRecDepth 20000 in
theorem qw_615 : Cond.methodLink RX6 187 yX6_load ∈ wA := List.mem_of_getElem? (i := 615) rfl
set_option maxRecDepth 20000 in
theorem qw_616 : Cond.instanceMethod yX6_load ∈ wA := List.mem_of_getElem? (i := 616) rfl
set_option maxRecDepth 20000 in
theorem qw_617 : Cond.selects RX6 yX6_load yX6_load ∈ wA := List.mem_of_getElem? (i := 617) rfl
set_option maxRecDepth 20000 in
theorem qw_618 : Cond.code yX6_load cX6_load 5 none ∈ wA := List.mem_of_getElem? (i := 618) rfl
set_option maxRecDepth 20000 in
theorem qw_619 : Cond.methodLink RL 81 yX5_go ∈ wA := List.mem_of_getElem? (i := 619) rfl
set_option maxRecDepth 20000 in
theorem qw_620 : Cond.instanceMethod yX5_go ∈ wA := List.mem_of_getElem? (i := 620) rfl
set_option maxRecDepth 20000 in
theorem qw_621 : Cond.selects RX5 yX5_go yX5_go ∈ wA := List.mem_of_getElem? (i := 621) rfl
set_option maxRecDepth 20000 in
theorem qw_622 : Cond.code yX5_go cX5_go 4 (some .int) ∈ wA := List.mem_of_getElem? (i := 622) rfl
set_option maxRecDepth 20000 in
theorem qw_623 : Cond.methodLink RL 84 yX6_go ∈ wA := List.mem_of_getElem? (i := 623) rfl
set_option maxRecDepth 20000 in
theorem qw_624 : Cond.instanceMethod yX6_go ∈ wA := List.mem_of_getElem? (i := 624) rfl
set_option maxRecDepth 20000 in
theorem qw_625 : Cond.selects RX6 yX6_go yX6_go ∈ wA := List.mem_of_getElem? (i := 625) rfl
set_option maxRecDepth 20000 in
theorem qw_626 : Cond.code yX6_go cX6_go 4 (some .int) ∈ wA := List.mem_of_getElem? (i := 626) rfl
set_option maxRecDepth 20000 in
theorem qw_627 : Cond.methodLink RL 85 yX5_image ∈ wA := List.mem_of_getElem? (i := 627) rfl
set_option maxRecDepth 20000 in
theorem qw_628 : Cond.instanceMethod yX5_image ∈ wA := List.mem_of_getElem? (i := 628) rfl
set_option maxRecDepth 20000 in
theorem qw_629 : Cond.selects RX5 yX5_image yX5_image ∈ wA := List.mem_of_getElem? (i := 629) rfl
set_option maxRecDepth 20000 in
theorem qw_630 : Cond.code yX5_image cX5_image 2 (some .int) ∈ wA := List.mem_of_getElem? (i := 630) rfl
set_option maxRecDepth 20000 in
theorem qw_631 : Cond.methodLink RX5 178 yX3_copyFrom ∈ wA := List.mem_of_getElem? (i := 631) rfl
set_option maxRecDepth 20000 in
theorem qw_632 : Cond.methodLink RL 88 yX6_image ∈ wA := List.mem_of_getElem? (i := 632) rfl
set_option maxRecDepth 20000 in
theorem qw_633 : Cond.instanceMethod yX6_image ∈ wA := List.mem_of_getElem? (i := 633) rfl
set_option maxRecDepth 20000 in
theorem qw_634 : Cond.selects RX6 yX6_image yX6_image ∈ wA := List.mem_of_getElem? (i := 634) rfl
set_option maxRecDepth 20000 in
theorem qw_635 : Cond.code yX6_image cX6_image 3 (some .int) ∈ wA := List.mem_of_getElem? (i := 635) rfl
set_option maxRecDepth 20000 in
theorem qw_636 : Cond.methodLink RL 89 yX5_restore ∈ wA := List.mem_of_getElem? (i := 636) rfl
set_option maxRecDepth 20000 in
theorem qw_637 : Cond.instanceMethod yX5_restore ∈ wA := List.mem_of_getElem? (i := 637) rfl
set_option maxRecDepth 20000 in
theorem qw_638 : Cond.selects RX5 yX5_restore yX5_restore ∈ wA := List.mem_of_getElem? (i := 638) rfl
set_option maxRecDepth 20000 in
theorem qw_639 : Cond.code yX5_restore cX5_restore 2 (some .int) ∈ wA := List.mem_of_getElem? (i := 639) rfl
set_option maxRecDepth 20000 in
theorem qw_640 : Cond.methodLink RL 92 yX6_restore ∈ wA := List.mem_of_getElem? (i := 640) rfl
set_option maxRecDepth 20000 in
theorem qw_641 : Cond.instanceMethod yX6_restore ∈ wA := List.mem_of_getElem? (i := 641) rfl
set_option maxRecDepth 20000 in
theorem qw_642 : Cond.selects RX6 yX6_restore yX6_restore ∈ wA := List.mem_of_getElem? (i := 642) rfl
set_option maxRecDepth 20000 in
theorem qw_643 : Cond.code yX6_restore cX6_restore 3 (some .int) ∈ wA := List.mem_of_getElem? (i := 643) rfl
set_option maxRecDepth 20000 in
theorem qw_644 : Cond.methodLink RL 93 yX5_count ∈ wA := List.mem_of_getElem? (i := 644) rfl
set_option maxRecDepth 20000 in
theorem qw_645 : Cond.instanceMethod yX5_count ∈ wA := List.mem_of_getElem? (i := 645) rfl
set_option maxRecDepth 20000 in
theorem qw_646 : Cond.selects RX5 yX5_count yX5_count ∈ wA := List.mem_of_getElem? (i := 646) rfl
set_option maxRecDepth 20000 in
theorem qw_647 : Cond.code yX5_count cX5_count 2 (some .int) ∈ wA := List.mem_of_getElem? (i := 647) rfl
set_option maxRecDepth 20000 in
theorem qw_648 : Cond.fieldLink RX5 188 "SeamPictures$Pad" "length" "I" ∈ wA := List.mem_of_getElem? (i := 648) rfl
set_option maxRecDepth 20000 in
theorem qw_649 : Cond.methodLink RX5 182 yX3_sumOfGreys ∈ wA := List.mem_of_getElem? (i := 649) rfl
set_option maxRecDepth 20000 in
theorem qw_650 : Cond.instanceMethod yX3_sumOfGreys ∈ wA := List.mem_of_getElem? (i := 650) rfl
set_option maxRecDepth 20000 in
theorem qw_651 : Cond.selects RX3 yX3_sumOfGreys yX3_sumOfGreys ∈ wA := List.mem_of_getElem? (i := 651) rfl
set_option maxRecDepth 20000 in
theorem qw_652 : Cond.code yX3_sumOfGreys cX3_sumOfGreys 4 (some .int) ∈ wA := List.mem_of_getElem? (i := 652) rfl
set_option maxRecDepth 20000 in
theorem qw_653 : Cond.methodLink RX5 185 yX3_dotsMarked ∈ wA := List.mem_of_getElem? (i := 653) rfl
set_option maxRecDepth 20000 in
theorem qw_654 : Cond.instanceMethod yX3_dotsMarked ∈ wA := List.mem_of_getElem? (i := 654) rfl
set_option maxRecDepth 20000 in
theorem qw_655 : Cond.selects RX3 yX3_dotsMarked yX3_dotsMarked ∈ wA := List.mem_of_getElem? (i := 655) rfl
set_option maxRecDepth 20000 in
theorem qw_656 : Cond.code yX3_dotsMarked cX3_dotsMarked 5 (some .int) ∈ wA := List.mem_of_getElem? (i := 656) rfl
set_option maxRecDepth 20000 in
theorem qw_657 : Cond.methodLink RX5 191 yX5_imagesKept ∈ wA := List.mem_of_getElem? (i := 657) rfl
set_option maxRecDepth 20000 in
theorem qw_658 : Cond.instanceMethod yX5_imagesKept ∈ wA := List.mem_of_getElem? (i := 658) rfl
set_option maxRecDepth 20000 in
theorem qw_659 : Cond.selects RX5 yX5_imagesKept yX5_imagesKept ∈ wA := List.mem_of_getElem? (i := 659) rfl
set_option maxRecDepth 20000 in
theorem qw_660 : Cond.code yX5_imagesKept cX5_imagesKept 3 (some .int) ∈ wA := List.mem_of_getElem? (i := 660) rfl
set_option maxRecDepth 20000 in
theorem qw_661 : Cond.methodLink RL 96 yX6_count ∈ wA := List.mem_of_getElem? (i := 661) rfl
set_option maxRecDepth 20000 in
theorem qw_662 : Cond.instanceMethod yX6_count ∈ wA := List.mem_of_getElem? (i := 662) rfl
set_option maxRecDepth 20000 in
theorem qw_663 : Cond.selects RX6 yX6_count yX6_count ∈ wA := List.mem_of_getElem? (i := 663) rfl
set_option maxRecDepth 20000 in
theorem qw_664 : Cond.code yX6_count cX6_count 2 (some .int) ∈ wA := List.mem_of_getElem? (i := 664) rfl
set_option maxRecDepth 20000 in
theorem qw_665 : Cond.methodLink RX6 199 yX6_greys ∈ wA := List.mem_of_getElem? (i := 665) rfl
set_option maxRecDepth 20000 in
theorem qw_666 : Cond.instanceMethod yX6_greys ∈ wA := List.mem_of_getElem? (i := 666) rfl
set_option maxRecDepth 20000 in
theorem qw_667 : Cond.selects RX6 yX6_greys yX6_greys ∈ wA := List.mem_of_getElem? (i := 667) rfl
set_option maxRecDepth 20000 in
theorem qw_668 : Cond.code yX6_greys cX6_greys 3 (some .int) ∈ wA := List.mem_of_getElem? (i := 668) rfl
set_option maxRecDepth 20000 in
theorem qw_669 : Cond.methodLink RX6 202 yX6_dotsWith ∈ wA := List.mem_of_getElem? (i := 669) rfl
set_option maxRecDepth 20000 in
theorem qw_670 : Cond.instanceMethod yX6_dotsWith ∈ wA := List.mem_of_getElem? (i := 670) rfl
set_option maxRecDepth 20000 in
theorem qw_671 : Cond.selects RX6 yX6_dotsWith yX6_dotsWith ∈ wA := List.mem_of_getElem? (i := 671) rfl
set_option maxRecDepth 20000 in
theorem qw_672 : Cond.code yX6_dotsWith cX6_dotsWith 4 (some .int) ∈ wA := List.mem_of_getElem? (i := 672) rfl
end
