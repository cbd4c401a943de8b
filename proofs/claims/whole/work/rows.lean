section
-- ===== PART A: goes FIRST, ahead of the names: the tables' words, and 'selects' of the private methods out of them =====
/-- a private method of a class that the tables say can be made, by its rows of tables_1 -/
def lw_okq (q : MethodName × Nat) : Prop := (q.1.cls ≠ "java/lang/invoke/MethodHandle" ∧ q.1.cls ≠ "java/lang/invoke/VarHandle") ∧ Cond.instantiable q.1.cls q.2 ∈ tables_1 ∧ Cond.privateMethod q.1 ∈ tables_1 ∧ Cond.instanceMethod q.1 ∈ tables_1
theorem lw_p0 : lw_okq (⟨"SeamPictures$Picture", "gapAt", "(III)I"⟩, 5) := ⟨⟨by decide +kernel, by decide +kernel⟩, List.mem_of_getElem? (i := 18) (by decide +kernel), List.mem_of_getElem? (i := 227) (by decide +kernel), List.mem_of_getElem? (i := 228) (by decide +kernel)⟩
theorem lw_p1 : lw_okq (⟨"SeamPictures$Picture", "extraAt", "(III)I"⟩, 5) := ⟨⟨by decide +kernel, by decide +kernel⟩, List.mem_of_getElem? (i := 18) (by decide +kernel), List.mem_of_getElem? (i := 249) (by decide +kernel), List.mem_of_getElem? (i := 250) (by decide +kernel)⟩
theorem lw_p2 : lw_okq (⟨"SeamPictures$Seam", "weighDot", "(LSeamPictures$Picture;IIZ)V"⟩, 5) := ⟨⟨by decide +kernel, by decide +kernel⟩, List.mem_of_getElem? (i := 46) (by decide +kernel), List.mem_of_getElem? (i := 311) (by decide +kernel), List.mem_of_getElem? (i := 312) (by decide +kernel)⟩
theorem lw_p3 : lw_okq (⟨"SeamPictures$Seam", "goOnFrom", "(LSeamPictures$Picture;II)V"⟩, 5) := ⟨⟨by decide +kernel, by decide +kernel⟩, List.mem_of_getElem? (i := 46) (by decide +kernel), List.mem_of_getElem? (i := 319) (by decide +kernel), List.mem_of_getElem? (i := 320) (by decide +kernel)⟩
theorem lw_p4 : lw_okq (⟨"SeamPictures$Seam", "leastStart", "(I)I"⟩, 5) := ⟨⟨by decide +kernel, by decide +kernel⟩, List.mem_of_getElem? (i := 46) (by decide +kernel), List.mem_of_getElem? (i := 329) (by decide +kernel), List.mem_of_getElem? (i := 330) (by decide +kernel)⟩
theorem lw_p5 : lw_okq (⟨"SeamPictures$Seam", "hangsTogether", "(II)Z"⟩, 5) := ⟨⟨by decide +kernel, by decide +kernel⟩, List.mem_of_getElem? (i := 46) (by decide +kernel), List.mem_of_getElem? (i := 341) (by decide +kernel), List.mem_of_getElem? (i := 342) (by decide +kernel)⟩
theorem lw_p6 : lw_okq (⟨"SeamPictures$Seam", "sumOfCosts", "(LSeamPictures$Picture;I)I"⟩, 5) := ⟨⟨by decide +kernel, by decide +kernel⟩, List.mem_of_getElem? (i := 46) (by decide +kernel), List.mem_of_getElem? (i := 346) (by decide +kernel), List.mem_of_getElem? (i := 347) (by decide +kernel)⟩
theorem lw_p7 : lw_okq (⟨"SeamPictures$Picture", "moveDot", "(IIII)V"⟩, 5) := ⟨⟨by decide +kernel, by decide +kernel⟩, List.mem_of_getElem? (i := 18) (by decide +kernel), List.mem_of_getElem? (i := 360) (by decide +kernel), List.mem_of_getElem? (i := 361) (by decide +kernel)⟩
theorem lw_p8 : lw_okq (⟨"SeamPictures$Picture", "broaden", "(II)V"⟩, 5) := ⟨⟨by decide +kernel, by decide +kernel⟩, List.mem_of_getElem? (i := 18) (by decide +kernel), List.mem_of_getElem? (i := 364) (by decide +kernel), List.mem_of_getElem? (i := 365) (by decide +kernel)⟩
theorem lw_p9 : lw_okq (⟨"SeamPictures", "canReach", "(II)Z"⟩, 7) := ⟨⟨by decide +kernel, by decide +kernel⟩, List.mem_of_getElem? (i := 10) (by decide +kernel), List.mem_of_getElem? (i := 394) (by decide +kernel), List.mem_of_getElem? (i := 395) (by decide +kernel)⟩
theorem lw_p10 : lw_okq (⟨"SeamPictures$OrderSearch", "tryOrders", "(IIIIII)V"⟩, 6) := ⟨⟨by decide +kernel, by decide +kernel⟩, List.mem_of_getElem? (i := 88) (by decide +kernel), List.mem_of_getElem? (i := 406) (by decide +kernel), List.mem_of_getElem? (i := 407) (by decide +kernel)⟩
theorem lw_p11 : lw_okq (⟨"SeamPictures$OrderSearch", "compare", "(III)V"⟩, 6) := ⟨⟨by decide +kernel, by decide +kernel⟩, List.mem_of_getElem? (i := 88) (by decide +kernel), List.mem_of_getElem? (i := 410) (by decide +kernel), List.mem_of_getElem? (i := 411) (by decide +kernel)⟩
theorem lw_p12 : lw_okq (⟨"SeamPictures$CostTable", "takeLying", "(I)V"⟩, 4) := ⟨⟨by decide +kernel, by decide +kernel⟩, List.mem_of_getElem? (i := 122) (by decide +kernel), List.mem_of_getElem? (i := 431) (by decide +kernel), List.mem_of_getElem? (i := 432) (by decide +kernel)⟩
theorem lw_p13 : lw_okq (⟨"SeamPictures$CostTable", "takeUpright", "(I)V"⟩, 4) := ⟨⟨by decide +kernel, by decide +kernel⟩, List.mem_of_getElem? (i := 122) (by decide +kernel), List.mem_of_getElem? (i := 436) (by decide +kernel), List.mem_of_getElem? (i := 437) (by decide +kernel)⟩
theorem lw_p14 : lw_okq (⟨"SeamPictures$CostTable", "takeCheaper", "(I)V"⟩, 4) := ⟨⟨by decide +kernel, by decide +kernel⟩, List.mem_of_getElem? (i := 122) (by decide +kernel), List.mem_of_getElem? (i := 440) (by decide +kernel), List.mem_of_getElem? (i := 441) (by decide +kernel)⟩
theorem lw_p15 : lw_okq (⟨"SeamPictures", "imagesKept", "()I"⟩, 7) := ⟨⟨by decide +kernel, by decide +kernel⟩, List.mem_of_getElem? (i := 10) (by decide +kernel), List.mem_of_getElem? (i := 469) (by decide +kernel), List.mem_of_getElem? (i := 470) (by decide +kernel)⟩
def lw_privs_1 : List (MethodName × Nat) := [(⟨"SeamPictures$Picture", "gapAt", "(III)I"⟩, 5), (⟨"SeamPictures$Picture", "extraAt", "(III)I"⟩, 5), (⟨"SeamPictures$Seam", "weighDot", "(LSeamPictures$Picture;IIZ)V"⟩, 5), (⟨"SeamPictures$Seam", "goOnFrom", "(LSeamPictures$Picture;II)V"⟩, 5), (⟨"SeamPictures$Seam", "leastStart", "(I)I"⟩, 5), (⟨"SeamPictures$Seam", "hangsTogether", "(II)Z"⟩, 5), (⟨"SeamPictures$Seam", "sumOfCosts", "(LSeamPictures$Picture;I)I"⟩, 5), (⟨"SeamPictures$Picture", "moveDot", "(IIII)V"⟩, 5), (⟨"SeamPictures$Picture", "broaden", "(II)V"⟩, 5), (⟨"SeamPictures", "canReach", "(II)Z"⟩, 7), (⟨"SeamPictures$OrderSearch", "tryOrders", "(IIIIII)V"⟩, 6), (⟨"SeamPictures$OrderSearch", "compare", "(III)V"⟩, 6), (⟨"SeamPictures$CostTable", "takeLying", "(I)V"⟩, 4), (⟨"SeamPictures$CostTable", "takeUpright", "(I)V"⟩, 4), (⟨"SeamPictures$CostTable", "takeCheaper", "(I)V"⟩, 4), (⟨"SeamPictures", "imagesKept", "()I"⟩, 7)]
theorem lw_r1 : ∀ q ∈ lw_privs_1, lw_okq q := List.forall_mem_cons.mpr ⟨lw_p0, List.forall_mem_cons.mpr ⟨lw_p1, List.forall_mem_cons.mpr ⟨lw_p2, List.forall_mem_cons.mpr ⟨lw_p3, List.forall_mem_cons.mpr ⟨lw_p4, List.forall_mem_cons.mpr ⟨lw_p5, List.forall_mem_cons.mpr ⟨lw_p6, List.forall_mem_cons.mpr ⟨lw_p7, List.forall_mem_cons.mpr ⟨lw_p8, List.forall_mem_cons.mpr ⟨lw_p9, List.forall_mem_cons.mpr ⟨lw_p10, List.forall_mem_cons.mpr ⟨lw_p11, List.forall_mem_cons.mpr ⟨lw_p12, List.forall_mem_cons.mpr ⟨lw_p13, List.forall_mem_cons.mpr ⟨lw_p14, List.forall_mem_cons.mpr ⟨lw_p15, fun _ h => absurd h List.not_mem_nil⟩⟩⟩⟩⟩⟩⟩⟩⟩⟩⟩⟩⟩⟩⟩⟩
theorem lw_p16 : lw_okq (⟨"SeamPicturesModel", "isDot", "(II)Z"⟩, 19) := ⟨⟨by decide +kernel, by decide +kernel⟩, List.mem_of_getElem? (i := 473) (by decide +kernel), List.mem_of_getElem? (i := 548) (by decide +kernel), List.mem_of_getElem? (i := 549) (by decide +kernel)⟩
theorem lw_p17 : lw_okq (⟨"SeamPicturesModel", "take", "()V"⟩, 19) := ⟨⟨by decide +kernel, by decide +kernel⟩, List.mem_of_getElem? (i := 473) (by decide +kernel), List.mem_of_getElem? (i := 567) (by decide +kernel), List.mem_of_getElem? (i := 568) (by decide +kernel)⟩
theorem lw_p18 : lw_okq (⟨"SeamPicturesModel", "edge", "(II)I"⟩, 19) := ⟨⟨by decide +kernel, by decide +kernel⟩, List.mem_of_getElem? (i := 473) (by decide +kernel), List.mem_of_getElem? (i := 571) (by decide +kernel), List.mem_of_getElem? (i := 572) (by decide +kernel)⟩
theorem lw_p19 : lw_okq (⟨"SeamPicturesModel", "across", "(II)I"⟩, 19) := ⟨⟨by decide +kernel, by decide +kernel⟩, List.mem_of_getElem? (i := 473) (by decide +kernel), List.mem_of_getElem? (i := 575) (by decide +kernel), List.mem_of_getElem? (i := 576) (by decide +kernel)⟩
theorem lw_p20 : lw_okq (⟨"SeamPicturesModel", "left", "(II)I"⟩, 19) := ⟨⟨by decide +kernel, by decide +kernel⟩, List.mem_of_getElem? (i := 473) (by decide +kernel), List.mem_of_getElem? (i := 579) (by decide +kernel), List.mem_of_getElem? (i := 580) (by decide +kernel)⟩
theorem lw_p21 : lw_okq (⟨"SeamPicturesModel", "greyAt", "(II)I"⟩, 19) := ⟨⟨by decide +kernel, by decide +kernel⟩, List.mem_of_getElem? (i := 473) (by decide +kernel), List.mem_of_getElem? (i := 583) (by decide +kernel), List.mem_of_getElem? (i := 584) (by decide +kernel)⟩
theorem lw_p22 : lw_okq (⟨"SeamPicturesModel", "right", "(II)I"⟩, 19) := ⟨⟨by decide +kernel, by decide +kernel⟩, List.mem_of_getElem? (i := 473) (by decide +kernel), List.mem_of_getElem? (i := 587) (by decide +kernel), List.mem_of_getElem? (i := 588) (by decide +kernel)⟩
theorem lw_p23 : lw_okq (⟨"SeamPicturesModel", "above", "(II)I"⟩, 19) := ⟨⟨by decide +kernel, by decide +kernel⟩, List.mem_of_getElem? (i := 473) (by decide +kernel), List.mem_of_getElem? (i := 594) (by decide +kernel), List.mem_of_getElem? (i := 595) (by decide +kernel)⟩
theorem lw_p24 : lw_okq (⟨"SeamPicturesModel", "below", "(II)I"⟩, 19) := ⟨⟨by decide +kernel, by decide +kernel⟩, List.mem_of_getElem? (i := 473) (by decide +kernel), List.mem_of_getElem? (i := 598) (by decide +kernel), List.mem_of_getElem? (i := 599) (by decide +kernel)⟩
theorem lw_p25 : lw_okq (⟨"SeamPicturesModel", "weight", "(II)I"⟩, 19) := ⟨⟨by decide +kernel, by decide +kernel⟩, List.mem_of_getElem? (i := 473) (by decide +kernel), List.mem_of_getElem? (i := 602) (by decide +kernel), List.mem_of_getElem? (i := 603) (by decide +kernel)⟩
theorem lw_p26 : lw_okq (⟨"SeamPicturesModel", "extra", "(II)I"⟩, 19) := ⟨⟨by decide +kernel, by decide +kernel⟩, List.mem_of_getElem? (i := 473) (by decide +kernel), List.mem_of_getElem? (i := 606) (by decide +kernel), List.mem_of_getElem? (i := 607) (by decide +kernel)⟩
theorem lw_p27 : lw_okq (⟨"SeamPicturesModel", "faultAs", "(I)I"⟩, 19) := ⟨⟨by decide +kernel, by decide +kernel⟩, List.mem_of_getElem? (i := 473) (by decide +kernel), List.mem_of_getElem? (i := 622) (by decide +kernel), List.mem_of_getElem? (i := 623) (by decide +kernel)⟩
theorem lw_p28 : lw_okq (⟨"SeamPicturesModel", "isBetween", "(I)Z"⟩, 19) := ⟨⟨by decide +kernel, by decide +kernel⟩, List.mem_of_getElem? (i := 473) (by decide +kernel), List.mem_of_getElem? (i := 626) (by decide +kernel), List.mem_of_getElem? (i := 627) (by decide +kernel)⟩
theorem lw_p29 : lw_okq (⟨"SeamPicturesModel", "valueOf", "(II)I"⟩, 19) := ⟨⟨by decide +kernel, by decide +kernel⟩, List.mem_of_getElem? (i := 473) (by decide +kernel), List.mem_of_getElem? (i := 630) (by decide +kernel), List.mem_of_getElem? (i := 631) (by decide +kernel)⟩
theorem lw_p30 : lw_okq (⟨"SeamPicturesModel", "signs", "()I"⟩, 19) := ⟨⟨by decide +kernel, by decide +kernel⟩, List.mem_of_getElem? (i := 473) (by decide +kernel), List.mem_of_getElem? (i := 634) (by decide +kernel), List.mem_of_getElem? (i := 635) (by decide +kernel)⟩
theorem lw_p31 : lw_okq (⟨"SeamPicturesModel", "layWay", "(I)V"⟩, 19) := ⟨⟨by decide +kernel, by decide +kernel⟩, List.mem_of_getElem? (i := 473) (by decide +kernel), List.mem_of_getElem? (i := 649) (by decide +kernel), List.mem_of_getElem? (i := 650) (by decide +kernel)⟩
def lw_privs_2 : List (MethodName × Nat) := [(⟨"SeamPicturesModel", "isDot", "(II)Z"⟩, 19), (⟨"SeamPicturesModel", "take", "()V"⟩, 19), (⟨"SeamPicturesModel", "edge", "(II)I"⟩, 19), (⟨"SeamPicturesModel", "across", "(II)I"⟩, 19), (⟨"SeamPicturesModel", "left", "(II)I"⟩, 19), (⟨"SeamPicturesModel", "greyAt", "(II)I"⟩, 19), (⟨"SeamPicturesModel", "right", "(II)I"⟩, 19), (⟨"SeamPicturesModel", "above", "(II)I"⟩, 19), (⟨"SeamPicturesModel", "below", "(II)I"⟩, 19), (⟨"SeamPicturesModel", "weight", "(II)I"⟩, 19), (⟨"SeamPicturesModel", "extra", "(II)I"⟩, 19), (⟨"SeamPicturesModel", "faultAs", "(I)I"⟩, 19), (⟨"SeamPicturesModel", "isBetween", "(I)Z"⟩, 19), (⟨"SeamPicturesModel", "valueOf", "(II)I"⟩, 19), (⟨"SeamPicturesModel", "signs", "()I"⟩, 19), (⟨"SeamPicturesModel", "layWay", "(I)V"⟩, 19)]
theorem lw_r2 : ∀ q ∈ lw_privs_2, lw_okq q := List.forall_mem_cons.mpr ⟨lw_p16, List.forall_mem_cons.mpr ⟨lw_p17, List.forall_mem_cons.mpr ⟨lw_p18, List.forall_mem_cons.mpr ⟨lw_p19, List.forall_mem_cons.mpr ⟨lw_p20, List.forall_mem_cons.mpr ⟨lw_p21, List.forall_mem_cons.mpr ⟨lw_p22, List.forall_mem_cons.mpr ⟨lw_p23, List.forall_mem_cons.mpr ⟨lw_p24, List.forall_mem_cons.mpr ⟨lw_p25, List.forall_mem_cons.mpr ⟨lw_p26, List.forall_mem_cons.mpr ⟨lw_p27, List.forall_mem_cons.mpr ⟨lw_p28, List.forall_mem_cons.mpr ⟨lw_p29, List.forall_mem_cons.mpr ⟨lw_p30, List.forall_mem_cons.mpr ⟨lw_p31, fun _ h => absurd h List.not_mem_nil⟩⟩⟩⟩⟩⟩⟩⟩⟩⟩⟩⟩⟩⟩⟩⟩
theorem lw_p32 : lw_okq (⟨"SeamPicturesModel", "turn", "()V"⟩, 19) := ⟨⟨by decide +kernel, by decide +kernel⟩, List.mem_of_getElem? (i := 473) (by decide +kernel), List.mem_of_getElem? (i := 653) (by decide +kernel), List.mem_of_getElem? (i := 654) (by decide +kernel)⟩
theorem lw_p33 : lw_okq (⟨"SeamPicturesModel", "laySeam", "()V"⟩, 19) := ⟨⟨by decide +kernel, by decide +kernel⟩, List.mem_of_getElem? (i := 473) (by decide +kernel), List.mem_of_getElem? (i := 657) (by decide +kernel), List.mem_of_getElem? (i := 658) (by decide +kernel)⟩
theorem lw_p34 : lw_okq (⟨"SeamPicturesModel", "nextFrom", "(II)I"⟩, 19) := ⟨⟨by decide +kernel, by decide +kernel⟩, List.mem_of_getElem? (i := 473) (by decide +kernel), List.mem_of_getElem? (i := 661) (by decide +kernel), List.mem_of_getElem? (i := 662) (by decide +kernel)⟩
theorem lw_p35 : lw_okq (⟨"SeamPicturesModel", "costOf", "(III)I"⟩, 19) := ⟨⟨by decide +kernel, by decide +kernel⟩, List.mem_of_getElem? (i := 473) (by decide +kernel), List.mem_of_getElem? (i := 665) (by decide +kernel), List.mem_of_getElem? (i := 666) (by decide +kernel)⟩
theorem lw_p36 : lw_okq (⟨"SeamPicturesModel", "layNumber", "(I)Z"⟩, 19) := ⟨⟨by decide +kernel, by decide +kernel⟩, List.mem_of_getElem? (i := 473) (by decide +kernel), List.mem_of_getElem? (i := 673) (by decide +kernel), List.mem_of_getElem? (i := 674) (by decide +kernel)⟩
theorem lw_p37 : lw_okq (⟨"SeamPicturesModel", "cutWay", "(I)I"⟩, 19) := ⟨⟨by decide +kernel, by decide +kernel⟩, List.mem_of_getElem? (i := 473) (by decide +kernel), List.mem_of_getElem? (i := 681) (by decide +kernel), List.mem_of_getElem? (i := 682) (by decide +kernel)⟩
theorem lw_p38 : lw_okq (⟨"SeamPicturesModel", "cutSeam", "()V"⟩, 19) := ⟨⟨by decide +kernel, by decide +kernel⟩, List.mem_of_getElem? (i := 473) (by decide +kernel), List.mem_of_getElem? (i := 685) (by decide +kernel), List.mem_of_getElem? (i := 686) (by decide +kernel)⟩
theorem lw_p39 : lw_okq (⟨"SeamPicturesModel", "move", "(III)V"⟩, 19) := ⟨⟨by decide +kernel, by decide +kernel⟩, List.mem_of_getElem? (i := 473) (by decide +kernel), List.mem_of_getElem? (i := 689) (by decide +kernel), List.mem_of_getElem? (i := 690) (by decide +kernel)⟩
theorem lw_p40 : lw_okq (⟨"SeamPicturesModel", "leaveWay", "(I)V"⟩, 19) := ⟨⟨by decide +kernel, by decide +kernel⟩, List.mem_of_getElem? (i := 473) (by decide +kernel), List.mem_of_getElem? (i := 693) (by decide +kernel), List.mem_of_getElem? (i := 694) (by decide +kernel)⟩
theorem lw_p41 : lw_okq (⟨"SeamPicturesModel", "give", "()V"⟩, 19) := ⟨⟨by decide +kernel, by decide +kernel⟩, List.mem_of_getElem? (i := 473) (by decide +kernel), List.mem_of_getElem? (i := 697) (by decide +kernel), List.mem_of_getElem? (i := 698) (by decide +kernel)⟩
theorem lw_p42 : lw_okq (⟨"SeamPicturesModel", "addSeam", "()V"⟩, 19) := ⟨⟨by decide +kernel, by decide +kernel⟩, List.mem_of_getElem? (i := 473) (by decide +kernel), List.mem_of_getElem? (i := 705) (by decide +kernel), List.mem_of_getElem? (i := 706) (by decide +kernel)⟩
theorem lw_p43 : lw_okq (⟨"SeamPicturesModel", "canGo", "(II)Z"⟩, 19) := ⟨⟨by decide +kernel, by decide +kernel⟩, List.mem_of_getElem? (i := 473) (by decide +kernel), List.mem_of_getElem? (i := 717) (by decide +kernel), List.mem_of_getElem? (i := 718) (by decide +kernel)⟩
theorem lw_p44 : lw_okq (⟨"SeamPicturesModel", "layBest", "(II)V"⟩, 19) := ⟨⟨by decide +kernel, by decide +kernel⟩, List.mem_of_getElem? (i := 473) (by decide +kernel), List.mem_of_getElem? (i := 721) (by decide +kernel), List.mem_of_getElem? (i := 722) (by decide +kernel)⟩
theorem lw_p45 : lw_okq (⟨"SeamPicturesModel", "goOrder", "(II)I"⟩, 19) := ⟨⟨by decide +kernel, by decide +kernel⟩, List.mem_of_getElem? (i := 473) (by decide +kernel), List.mem_of_getElem? (i := 728) (by decide +kernel), List.mem_of_getElem? (i := 729) (by decide +kernel)⟩
theorem lw_p46 : lw_okq (⟨"SeamPicturesModel", "layTable", "(II)V"⟩, 19) := ⟨⟨by decide +kernel, by decide +kernel⟩, List.mem_of_getElem? (i := 473) (by decide +kernel), List.mem_of_getElem? (i := 739) (by decide +kernel), List.mem_of_getElem? (i := 740) (by decide +kernel)⟩
theorem lw_p47 : lw_okq (⟨"SeamPicturesModel", "save", "(I)V"⟩, 19) := ⟨⟨by decide +kernel, by decide +kernel⟩, List.mem_of_getElem? (i := 473) (by decide +kernel), List.mem_of_getElem? (i := 743) (by decide +kernel), List.mem_of_getElem? (i := 744) (by decide +kernel)⟩
def lw_privs_3 : List (MethodName × Nat) := [(⟨"SeamPicturesModel", "turn", "()V"⟩, 19), (⟨"SeamPicturesModel", "laySeam", "()V"⟩, 19), (⟨"SeamPicturesModel", "nextFrom", "(II)I"⟩, 19), (⟨"SeamPicturesModel", "costOf", "(III)I"⟩, 19), (⟨"SeamPicturesModel", "layNumber", "(I)Z"⟩, 19), (⟨"SeamPicturesModel", "cutWay", "(I)I"⟩, 19), (⟨"SeamPicturesModel", "cutSeam", "()V"⟩, 19), (⟨"SeamPicturesModel", "move", "(III)V"⟩, 19), (⟨"SeamPicturesModel", "leaveWay", "(I)V"⟩, 19), (⟨"SeamPicturesModel", "give", "()V"⟩, 19), (⟨"SeamPicturesModel", "addSeam", "()V"⟩, 19), (⟨"SeamPicturesModel", "canGo", "(II)Z"⟩, 19), (⟨"SeamPicturesModel", "layBest", "(II)V"⟩, 19), (⟨"SeamPicturesModel", "goOrder", "(II)I"⟩, 19), (⟨"SeamPicturesModel", "layTable", "(II)V"⟩, 19), (⟨"SeamPicturesModel", "save", "(I)V"⟩, 19)]
theorem lw_r3 : ∀ q ∈ lw_privs_3, lw_okq q := List.forall_mem_cons.mpr ⟨lw_p32, List.forall_mem_cons.mpr ⟨lw_p33, List.forall_mem_cons.mpr ⟨lw_p34, List.forall_mem_cons.mpr ⟨lw_p35, List.forall_mem_cons.mpr ⟨lw_p36, List.forall_mem_cons.mpr ⟨lw_p37, List.forall_mem_cons.mpr ⟨lw_p38, List.forall_mem_cons.mpr ⟨lw_p39, List.forall_mem_cons.mpr ⟨lw_p40, List.forall_mem_cons.mpr ⟨lw_p41, List.forall_mem_cons.mpr ⟨lw_p42, List.forall_mem_cons.mpr ⟨lw_p43, List.forall_mem_cons.mpr ⟨lw_p44, List.forall_mem_cons.mpr ⟨lw_p45, List.forall_mem_cons.mpr ⟨lw_p46, List.forall_mem_cons.mpr ⟨lw_p47, fun _ h => absurd h List.not_mem_nil⟩⟩⟩⟩⟩⟩⟩⟩⟩⟩⟩⟩⟩⟩⟩⟩
theorem lw_p48 : lw_okq (⟨"SeamPicturesModel", "layPlace", "(II)V"⟩, 19) := ⟨⟨by decide +kernel, by decide +kernel⟩, List.mem_of_getElem? (i := 473) (by decide +kernel), List.mem_of_getElem? (i := 747) (by decide +kernel), List.mem_of_getElem? (i := 748) (by decide +kernel)⟩
theorem lw_p49 : lw_okq (⟨"SeamPicturesModel", "load", "(II)V"⟩, 19) := ⟨⟨by decide +kernel, by decide +kernel⟩, List.mem_of_getElem? (i := 473) (by decide +kernel), List.mem_of_getElem? (i := 751) (by decide +kernel), List.mem_of_getElem? (i := 752) (by decide +kernel)⟩
theorem lw_p50 : lw_okq (⟨"SeamPicturesModel", "greys", "()I"⟩, 19) := ⟨⟨by decide +kernel, by decide +kernel⟩, List.mem_of_getElem? (i := 473) (by decide +kernel), List.mem_of_getElem? (i := 771) (by decide +kernel), List.mem_of_getElem? (i := 772) (by decide +kernel)⟩
theorem lw_p51 : lw_okq (⟨"SeamPicturesModel", "dotsWith", "(I)I"⟩, 19) := ⟨⟨by decide +kernel, by decide +kernel⟩, List.mem_of_getElem? (i := 473) (by decide +kernel), List.mem_of_getElem? (i := 775) (by decide +kernel), List.mem_of_getElem? (i := 776) (by decide +kernel)⟩
def lw_privs_4 : List (MethodName × Nat) := [(⟨"SeamPicturesModel", "layPlace", "(II)V"⟩, 19), (⟨"SeamPicturesModel", "load", "(II)V"⟩, 19), (⟨"SeamPicturesModel", "greys", "()I"⟩, 19), (⟨"SeamPicturesModel", "dotsWith", "(I)I"⟩, 19)]
theorem lw_r4 : ∀ q ∈ lw_privs_4, lw_okq q := List.forall_mem_cons.mpr ⟨lw_p48, List.forall_mem_cons.mpr ⟨lw_p49, List.forall_mem_cons.mpr ⟨lw_p50, List.forall_mem_cons.mpr ⟨lw_p51, fun _ h => absurd h List.not_mem_nil⟩⟩⟩⟩
def lw_privs : List (MethodName × Nat) := lw_privs_1 ++ (lw_privs_2 ++ (lw_privs_3 ++ (lw_privs_4)))
def lw_tbl : List Cond := k2_sels lw_privs ++ tables_1
theorem lw_privs_ok : ∀ q ∈ lw_privs, lw_okq q := by
  show ∀ q ∈ lw_privs_1 ++ (lw_privs_2 ++ (lw_privs_3 ++ (lw_privs_4))), lw_okq q
  exact List.forall_mem_append.mpr ⟨lw_r1, List.forall_mem_append.mpr ⟨lw_r2, List.forall_mem_append.mpr ⟨lw_r3, lw_r4⟩⟩⟩
-- ===== end of PART A; then your names; then what follows =====
end
section
def RX0 : String := "SeamPictures$CostTable"
def TX0 : u_T := fun k => match k with
  | 0 => ("SeamPictures$CostTable", "row", "[LSeamPictures$Picture;", true)
  | 1 => ("SeamPictures$CostTable", "costs", "[I", true)
  | 2 => ("SeamPictures$CostTable", "upright", "LSeamPictures$Seam;", true)
  | _ => ("SeamPictures$CostTable", "lying", "LSeamPictures$Seam;", true)
def tyX0 : Nat → FieldType := fun k => match k with
  | 0 => .array (.object "SeamPictures$Picture")
  | 1 => .array .int
  | 2 => .object "SeamPictures$Seam"
  | _ => .object "SeamPictures$Seam"
abbrev wsX00 : List Cond := u_ws RX0 TX0 4
theorem nmX0 : ∀ a, a < 4 → ∀ b, b < 4 → a ≠ b → (TX0 a).2.1 ≠ (TX0 b).2.1 := by decide +kernel
theorem tyX0_ok : ∀ k, k < 4 → parseFieldDescriptor (TX0 k).2.2.1 = some (tyX0 k) := by decide +kernel
abbrev cX0_init : ByteArray := prog_2_method_1_code
def yX0_init : MethodName := ⟨RX0, "<init>", "()V"⟩
abbrev cX0_fillTo : ByteArray := prog_2_method_2_code
def yX0_fillTo : MethodName := ⟨RX0, "fillTo", "(LSeamPictures$Picture;II)V"⟩
abbrev cX0_takeCheaper : ByteArray := prog_2_method_3_code
def yX0_takeCheaper : MethodName := ⟨RX0, "takeCheaper", "(I)V"⟩
abbrev cX0_takeUpright : ByteArray := prog_2_method_4_code
def yX0_takeUpright : MethodName := ⟨RX0, "takeUpright", "(I)V"⟩
abbrev cX0_takeLying : ByteArray := prog_2_method_5_code
def yX0_takeLying : MethodName := ⟨RX0, "takeLying", "(I)V"⟩
def RX1 : String := "SeamPictures$OrderSearch"
def TX1 : u_T := fun k => match k with
  | 0 => ("SeamPictures$OrderSearch", "bestCost", "I", false)
  | 1 => ("SeamPictures$OrderSearch", "bestOrder", "I", false)
  | 2 => ("SeamPictures$OrderSearch", "bestKeptCut", "I", false)
  | 3 => ("SeamPictures$OrderSearch", "ordersAtBest", "I", false)
  | 4 => ("SeamPictures$OrderSearch", "stages", "[LSeamPictures$Picture;", true)
  | _ => ("SeamPictures$OrderSearch", "seam", "LSeamPictures$Seam;", true)
def tyX1 : Nat → FieldType := fun k => match k with
  | 0 => .int
  | 1 => .int
  | 2 => .int
  | 3 => .int
  | 4 => .array (.object "SeamPictures$Picture")
  | _ => .object "SeamPictures$Seam"
abbrev wsX10 : List Cond := u_ws RX1 TX1 6
theorem nmX1 : ∀ a, a < 6 → ∀ b, b < 6 → a ≠ b → (TX1 a).2.1 ≠ (TX1 b).2.1 := by decide +kernel
theorem tyX1_ok : ∀ k, k < 6 → parseFieldDescriptor (TX1 k).2.2.1 = some (tyX1 k) := by decide +kernel
abbrev cX1_init : ByteArray := prog_3_method_1_code
def yX1_init : MethodName := ⟨RX1, "<init>", "()V"⟩
abbrev cX1_findBest : ByteArray := prog_3_method_2_code
def yX1_findBest : MethodName := ⟨RX1, "findBest", "(LSeamPictures$Picture;II)V"⟩
abbrev cX1_tryOrders : ByteArray := prog_3_method_3_code
def yX1_tryOrders : MethodName := ⟨RX1, "tryOrders", "(IIIIII)V"⟩
abbrev cX1_compare : ByteArray := prog_3_method_4_code
def yX1_compare : MethodName := ⟨RX1, "compare", "(III)V"⟩
def RX2 : String := "SeamPictures$Pad"
def TX2 : u_T := fun k => match k with
  | 0 => ("SeamPictures$Pad", "length", "I", false)
  | _ => ("SeamPictures$Pad", "signs", "[I", true)
def tyX2 : Nat → FieldType := fun k => match k with
  | 0 => .int
  | _ => .array .int
abbrev wsX20 : List Cond := u_ws RX2 TX2 2
theorem nmX2 : ∀ a, a < 2 → ∀ b, b < 2 → a ≠ b → (TX2 a).2.1 ≠ (TX2 b).2.1 := by decide +kernel
theorem tyX2_ok : ∀ k, k < 2 → parseFieldDescriptor (TX2 k).2.2.1 = some (tyX2 k) := by decide +kernel
abbrev cX2_init : ByteArray := prog_4_method_1_code
def yX2_init : MethodName := ⟨RX2, "<init>", "()V"⟩
abbrev cX2_isFull : ByteArray := prog_4_method_2_code
def yX2_isFull : MethodName := ⟨RX2, "isFull", "()Z"⟩
abbrev cX2_append : ByteArray := prog_4_method_3_code
def yX2_append : MethodName := ⟨RX2, "append", "(I)I"⟩
abbrev cX2_clear : ByteArray := prog_4_method_4_code
def yX2_clear : MethodName := ⟨RX2, "clear", "()I"⟩
abbrev cX2_firstFault : ByteArray := prog_4_method_5_code
def yX2_firstFault : MethodName := ⟨RX2, "firstFault", "(III)I"⟩
abbrev cX2_canStand : ByteArray := prog_4_method_6_code
def yX2_canStand : MethodName := ⟨RX2, "canStand", "(IIZ)Z"⟩
abbrev cX2_valueOf : ByteArray := prog_4_method_7_code
def yX2_valueOf : MethodName := ⟨RX2, "valueOf", "(II)I"⟩
abbrev cX2_layOn : ByteArray := prog_4_method_8_code
def yX2_layOn : MethodName := ⟨RX2, "layOn", "(LSeamPictures$Picture;I)I"⟩
def RX3 : String := "SeamPictures$Picture"
def TX3 : u_T := fun k => match k with
  | 0 => ("SeamPictures$Picture", "wide", "I", false)
  | 1 => ("SeamPictures$Picture", "high", "I", false)
  | 2 => ("SeamPictures$Picture", "law", "I", false)
  | 3 => ("SeamPictures$Picture", "greys", "[I", true)
  | _ => ("SeamPictures$Picture", "marks", "[I", true)
def tyX3 : Nat → FieldType := fun k => match k with
  | 0 => .int
  | 1 => .int
  | 2 => .int
  | 3 => .array .int
  | _ => .array .int
abbrev wsX30 : List Cond := u_ws RX3 TX3 5
theorem nmX3 : ∀ a, a < 5 → ∀ b, b < 5 → a ≠ b → (TX3 a).2.1 ≠ (TX3 b).2.1 := by decide +kernel
theorem tyX3_ok : ∀ k, k < 5 → parseFieldDescriptor (TX3 k).2.2.1 = some (tyX3 k) := by decide +kernel
abbrev cX3_init : ByteArray := prog_5_method_1_code
def yX3_init : MethodName := ⟨RX3, "<init>", "()V"⟩
abbrev cX3_blank : ByteArray := prog_5_method_2_code
def yX3_blank : MethodName := ⟨RX3, "blank", "(II)V"⟩
abbrev cX3_copyFrom : ByteArray := prog_5_method_3_code
def yX3_copyFrom : MethodName := ⟨RX3, "copyFrom", "(LSeamPictures$Picture;)V"⟩
abbrev cX3_hasDot : ByteArray := prog_5_method_4_code
def yX3_hasDot : MethodName := ⟨RX3, "hasDot", "(II)Z"⟩
abbrev cX3_lines : ByteArray := prog_5_method_5_code
def yX3_lines : MethodName := ⟨RX3, "lines", "(I)I"⟩
abbrev cX3_breadth : ByteArray := prog_5_method_6_code
def yX3_breadth : MethodName := ⟨RX3, "breadth", "(I)I"⟩
abbrev cX3_index : ByteArray := prog_5_method_7_code
def yX3_index : MethodName := ⟨RX3, "index", "(III)I"⟩
abbrev cX3_changeGrey : ByteArray := prog_5_method_8_code
def yX3_changeGrey : MethodName := ⟨RX3, "changeGrey", "(III)I"⟩
abbrev cX3_changeMark : ByteArray := prog_5_method_9_code
def yX3_changeMark : MethodName := ⟨RX3, "changeMark", "(III)I"⟩
abbrev cX3_greyAt : ByteArray := prog_5_method_10_code
def yX3_greyAt : MethodName := ⟨RX3, "greyAt", "(III)I"⟩
abbrev cX3_markAt : ByteArray := prog_5_method_11_code
def yX3_markAt : MethodName := ⟨RX3, "markAt", "(III)I"⟩
abbrev cX3_extraAt : ByteArray := prog_5_method_12_code
def yX3_extraAt : MethodName := ⟨RX3, "extraAt", "(III)I"⟩
abbrev cX3_gapAt : ByteArray := prog_5_method_13_code
def yX3_gapAt : MethodName := ⟨RX3, "gapAt", "(III)I"⟩
abbrev cX3_edgeAt : ByteArray := prog_5_method_14_code
def yX3_edgeAt : MethodName := ⟨RX3, "edgeAt", "(II)I"⟩
abbrev cX3_weightAt : ByteArray := prog_5_method_15_code
def yX3_weightAt : MethodName := ⟨RX3, "weightAt", "(II)I"⟩
abbrev cX3_standingCost : ByteArray := prog_5_method_16_code
def yX3_standingCost : MethodName := ⟨RX3, "standingCost", "(III)I"⟩
abbrev cX3_turningCost : ByteArray := prog_5_method_17_code
def yX3_turningCost : MethodName := ⟨RX3, "turningCost", "(IIII)I"⟩
abbrev cX3_lightestInRow : ByteArray := prog_5_method_18_code
def yX3_lightestInRow : MethodName := ⟨RX3, "lightestInRow", "(I)I"⟩
abbrev cX3_lightestInColumn : ByteArray := prog_5_method_19_code
def yX3_lightestInColumn : MethodName := ⟨RX3, "lightestInColumn", "(I)I"⟩
abbrev cX3_sumOfGreys : ByteArray := prog_5_method_20_code
def yX3_sumOfGreys : MethodName := ⟨RX3, "sumOfGreys", "()I"⟩
abbrev cX3_dotsMarked : ByteArray := prog_5_method_21_code
def yX3_dotsMarked : MethodName := ⟨RX3, "dotsMarked", "(I)I"⟩
abbrev cX3_keptDotsOf : ByteArray := prog_5_method_22_code
def yX3_keptDotsOf : MethodName := ⟨RX3, "keptDotsOf", "(LSeamPictures$Seam;)I"⟩
abbrev cX3_takeOut : ByteArray := prog_5_method_23_code
def yX3_takeOut : MethodName := ⟨RX3, "takeOut", "(LSeamPictures$Seam;)V"⟩
abbrev cX3_putIn : ByteArray := prog_5_method_24_code
def yX3_putIn : MethodName := ⟨RX3, "putIn", "(LSeamPictures$Seam;)V"⟩
abbrev cX3_moveDot : ByteArray := prog_5_method_25_code
def yX3_moveDot : MethodName := ⟨RX3, "moveDot", "(IIII)V"⟩
abbrev cX3_broaden : ByteArray := prog_5_method_26_code
def yX3_broaden : MethodName := ⟨RX3, "broaden", "(II)V"⟩
def RX4 : String := "SeamPictures$Seam"
def TX4 : u_T := fun k => match k with
  | 0 => ("SeamPictures$Seam", "way", "I", false)
  | 1 => ("SeamPictures$Seam", "total", "I", false)
  | 2 => ("SeamPictures$Seam", "places", "[I", true)
  | 3 => ("SeamPictures$Seam", "costToEnd", "[I", true)
  | _ => ("SeamPictures$Seam", "goesOnAt", "[I", true)
def tyX4 : Nat → FieldType := fun k => match k with
  | 0 => .int
  | 1 => .int
  | 2 => .array .int
  | 3 => .array .int
  | _ => .array .int
abbrev wsX40 : List Cond := u_ws RX4 TX4 5
theorem nmX4 : ∀ a, a < 5 → ∀ b, b < 5 → a ≠ b → (TX4 a).2.1 ≠ (TX4 b).2.1 := by decide +kernel
theorem tyX4_ok : ∀ k, k < 5 → parseFieldDescriptor (TX4 k).2.2.1 = some (tyX4 k) := by decide +kernel
abbrev cX4_init : ByteArray := prog_6_method_1_code
def yX4_init : MethodName := ⟨RX4, "<init>", "()V"⟩
abbrev cX4_findLeast : ByteArray := prog_6_method_2_code
def yX4_findLeast : MethodName := ⟨RX4, "findLeast", "(LSeamPictures$Picture;I)V"⟩
abbrev cX4_weighDot : ByteArray := prog_6_method_3_code
def yX4_weighDot : MethodName := ⟨RX4, "weighDot", "(LSeamPictures$Picture;IIZ)V"⟩
abbrev cX4_goOnFrom : ByteArray := prog_6_method_4_code
def yX4_goOnFrom : MethodName := ⟨RX4, "goOnFrom", "(LSeamPictures$Picture;II)V"⟩
abbrev cX4_leastStart : ByteArray := prog_6_method_5_code
def yX4_leastStart : MethodName := ⟨RX4, "leastStart", "(I)I"⟩
abbrev cX4_readNumber : ByteArray := prog_6_method_6_code
def yX4_readNumber : MethodName := ⟨RX4, "readNumber", "(LSeamPictures$Picture;II)Z"⟩
abbrev cX4_hangsTogether : ByteArray := prog_6_method_7_code
def yX4_hangsTogether : MethodName := ⟨RX4, "hangsTogether", "(II)Z"⟩
abbrev cX4_sumOfCosts : ByteArray := prog_6_method_8_code
def yX4_sumOfCosts : MethodName := ⟨RX4, "sumOfCosts", "(LSeamPictures$Picture;I)I"⟩
def RX5 : String := "SeamPictures"
def TX5 : u_T := fun k => match k with
  | 0 => ("SeamPictures", "picture", "LSeamPictures$Picture;", true)
  | 1 => ("SeamPictures", "found", "LSeamPictures$Seam;", true)
  | 2 => ("SeamPictures", "pad", "LSeamPictures$Pad;", true)
  | 3 => ("SeamPictures", "search", "LSeamPictures$OrderSearch;", true)
  | 4 => ("SeamPictures", "costTable", "LSeamPictures$CostTable;", true)
  | 5 => ("SeamPictures", "images", "[LSeamPictures$Picture;", true)
  | _ => ("SeamPictures", "imageKept", "[Z", true)
def tyX5 : Nat → FieldType := fun k => match k with
  | 0 => .object "SeamPictures$Picture"
  | 1 => .object "SeamPictures$Seam"
  | 2 => .object "SeamPictures$Pad"
  | 3 => .object "SeamPictures$OrderSearch"
  | 4 => .object "SeamPictures$CostTable"
  | 5 => .array (.object "SeamPictures$Picture")
  | _ => .array .boolean
abbrev wsX50 : List Cond := u_ws RX5 TX5 7
theorem nmX5 : ∀ a, a < 7 → ∀ b, b < 7 → a ≠ b → (TX5 a).2.1 ≠ (TX5 b).2.1 := by decide +kernel
theorem tyX5_ok : ∀ k, k < 7 → parseFieldDescriptor (TX5 k).2.2.1 = some (tyX5 k) := by decide +kernel
abbrev cX5_init : ByteArray := prog_1_method_1_code
def yX5_init : MethodName := ⟨RX5, "<init>", "()V"⟩
abbrev cX5_size : ByteArray := prog_1_method_2_code
def yX5_size : MethodName := ⟨RX5, "size", "(II)I"⟩
abbrev cX5_grey : ByteArray := prog_1_method_3_code
def yX5_grey : MethodName := ⟨RX5, "grey", "(III)I"⟩
abbrev cX5_mark : ByteArray := prog_1_method_4_code
def yX5_mark : MethodName := ⟨RX5, "mark", "(III)I"⟩
abbrev cX5_rule : ByteArray := prog_1_method_5_code
def yX5_rule : MethodName := ⟨RX5, "rule", "(I)I"⟩
abbrev cX5_dot : ByteArray := prog_1_method_6_code
def yX5_dot : MethodName := ⟨RX5, "dot", "(III)I"⟩
abbrev cX5_say : ByteArray := prog_1_method_7_code
def yX5_say : MethodName := ⟨RX5, "say", "(I)I"⟩
abbrev cX5_wipe : ByteArray := prog_1_method_8_code
def yX5_wipe : MethodName := ⟨RX5, "wipe", "()I"⟩
abbrev cX5_fault : ByteArray := prog_1_method_9_code
def yX5_fault : MethodName := ⟨RX5, "fault", "(I)I"⟩
abbrev cX5_lay : ByteArray := prog_1_method_10_code
def yX5_lay : MethodName := ⟨RX5, "lay", "(I)I"⟩
abbrev cX5_seam : ByteArray := prog_1_method_11_code
def yX5_seam : MethodName := ⟨RX5, "seam", "(II)I"⟩
abbrev cX5_cost : ByteArray := prog_1_method_12_code
def yX5_cost : MethodName := ⟨RX5, "cost", "(II)I"⟩
abbrev cX5_cut : ByteArray := prog_1_method_13_code
def yX5_cut : MethodName := ⟨RX5, "cut", "(I)I"⟩
abbrev cX5_add : ByteArray := prog_1_method_14_code
def yX5_add : MethodName := ⟨RX5, "add", "(I)I"⟩
abbrev cX5_least : ByteArray := prog_1_method_15_code
def yX5_least : MethodName := ⟨RX5, "least", "(II)I"⟩
abbrev cX5_best : ByteArray := prog_1_method_16_code
def yX5_best : MethodName := ⟨RX5, "best", "(III)I"⟩
abbrev cX5_table : ByteArray := prog_1_method_17_code
def yX5_table : MethodName := ⟨RX5, "table", "(III)I"⟩
abbrev cX5_go : ByteArray := prog_1_method_18_code
def yX5_go : MethodName := ⟨RX5, "go", "(II)I"⟩
abbrev cX5_image : ByteArray := prog_1_method_19_code
def yX5_image : MethodName := ⟨RX5, "image", "(I)I"⟩
abbrev cX5_restore : ByteArray := prog_1_method_20_code
def yX5_restore : MethodName := ⟨RX5, "restore", "(I)I"⟩
abbrev cX5_count : ByteArray := prog_1_method_21_code
def yX5_count : MethodName := ⟨RX5, "count", "(I)I"⟩
abbrev cX5_imagesKept : ByteArray := prog_1_method_22_code
def yX5_imagesKept : MethodName := ⟨RX5, "imagesKept", "()I"⟩
abbrev cX5_canReach : ByteArray := prog_1_method_23_code
def yX5_canReach : MethodName := ⟨RX5, "canReach", "(II)Z"⟩
abbrev cX5_isSide : ByteArray := prog_1_method_24_code
def yX5_isSide : MethodName := ⟨RX5, "isSide", "(I)Z"⟩
abbrev cX5_isBit : ByteArray := prog_1_method_25_code
def yX5_isBit : MethodName := ⟨RX5, "isBit", "(I)Z"⟩
def RX6 : String := "SeamPicturesModel"
def TX6 : u_T := fun k => match k with
  | 0 => ("SeamPicturesModel", "state", "[I", true)
  | 1 => ("SeamPicturesModel", "images", "[I", true)
  | 2 => ("SeamPicturesModel", "isKept", "[Z", true)
  | 3 => ("SeamPicturesModel", "pad", "[I", true)
  | 4 => ("SeamPicturesModel", "said", "I", false)
  | 5 => ("SeamPicturesModel", "grey", "[I", true)
  | 6 => ("SeamPicturesModel", "mark", "[I", true)
  | 7 => ("SeamPicturesModel", "wide", "I", false)
  | 8 => ("SeamPicturesModel", "high", "I", false)
  | 9 => ("SeamPicturesModel", "rest", "[I", true)
  | 10 => ("SeamPicturesModel", "seam", "[I", true)
  | 11 => ("SeamPicturesModel", "seamCost", "I", false)
  | 12 => ("SeamPicturesModel", "keptCut", "I", false)
  | 13 => ("SeamPicturesModel", "bestCost", "I", false)
  | 14 => ("SeamPicturesModel", "bestOrder", "I", false)
  | 15 => ("SeamPicturesModel", "asGood", "I", false)
  | 16 => ("SeamPicturesModel", "bestKept", "I", false)
  | 17 => ("SeamPicturesModel", "table", "[I", true)
  | _ => ("SeamPicturesModel", "tableCost", "[I", true)
def tyX6 : Nat → FieldType := fun k => match k with
  | 0 => .array .int
  | 1 => .array .int
  | 2 => .array .boolean
  | 3 => .array .int
  | 4 => .int
  | 5 => .array .int
  | 6 => .array .int
  | 7 => .int
  | 8 => .int
  | 9 => .array .int
  | 10 => .array .int
  | 11 => .int
  | 12 => .int
  | 13 => .int
  | 14 => .int
  | 15 => .int
  | 16 => .int
  | 17 => .array .int
  | _ => .array .int
abbrev wsX60 : List Cond := u_ws RX6 TX6 19
theorem nmX6 : ∀ a, a < 19 → ∀ b, b < 19 → a ≠ b → (TX6 a).2.1 ≠ (TX6 b).2.1 := by decide +kernel
theorem tyX6_ok : ∀ k, k < 19 → parseFieldDescriptor (TX6 k).2.2.1 = some (tyX6 k) := by decide +kernel
abbrev cX6_init : ByteArray := prog_8_method_1_code
def yX6_init : MethodName := ⟨RX6, "<init>", "()V"⟩
abbrev cX6_in : ByteArray := prog_8_method_2_code
def yX6_in : MethodName := ⟨RX6, "in", "(III)Z"⟩
abbrev cX6_size : ByteArray := prog_8_method_3_code
def yX6_size : MethodName := ⟨RX6, "size", "(I)I"⟩
abbrev cX6_at : ByteArray := prog_8_method_4_code
def yX6_at : MethodName := ⟨RX6, "at", "(II)I"⟩
abbrev cX6_isDot : ByteArray := prog_8_method_5_code
def yX6_isDot : MethodName := ⟨RX6, "isDot", "(II)Z"⟩
abbrev cX6_take : ByteArray := prog_8_method_6_code
def yX6_take : MethodName := ⟨RX6, "take", "()V"⟩
abbrev cX6_give : ByteArray := prog_8_method_7_code
def yX6_give : MethodName := ⟨RX6, "give", "()V"⟩
abbrev cX6_turn : ByteArray := prog_8_method_8_code
def yX6_turn : MethodName := ⟨RX6, "turn", "()V"⟩
abbrev cX6_greyAt : ByteArray := prog_8_method_9_code
def yX6_greyAt : MethodName := ⟨RX6, "greyAt", "(II)I"⟩
abbrev cX6_left : ByteArray := prog_8_method_10_code
def yX6_left : MethodName := ⟨RX6, "left", "(II)I"⟩
abbrev cX6_right : ByteArray := prog_8_method_11_code
def yX6_right : MethodName := ⟨RX6, "right", "(II)I"⟩
abbrev cX6_above : ByteArray := prog_8_method_12_code
def yX6_above : MethodName := ⟨RX6, "above", "(II)I"⟩
abbrev cX6_below : ByteArray := prog_8_method_13_code
def yX6_below : MethodName := ⟨RX6, "below", "(II)I"⟩
abbrev cX6_extra : ByteArray := prog_8_method_14_code
def yX6_extra : MethodName := ⟨RX6, "extra", "(II)I"⟩
abbrev cX6_across : ByteArray := prog_8_method_15_code
def yX6_across : MethodName := ⟨RX6, "across", "(II)I"⟩
abbrev cX6_edge : ByteArray := prog_8_method_16_code
def yX6_edge : MethodName := ⟨RX6, "edge", "(II)I"⟩
abbrev cX6_weight : ByteArray := prog_8_method_17_code
def yX6_weight : MethodName := ⟨RX6, "weight", "(II)I"⟩
abbrev cX6_costOf : ByteArray := prog_8_method_18_code
def yX6_costOf : MethodName := ⟨RX6, "costOf", "(III)I"⟩
abbrev cX6_nextFrom : ByteArray := prog_8_method_19_code
def yX6_nextFrom : MethodName := ⟨RX6, "nextFrom", "(II)I"⟩
abbrev cX6_laySeam : ByteArray := prog_8_method_20_code
def yX6_laySeam : MethodName := ⟨RX6, "laySeam", "()V"⟩
abbrev cX6_layWay : ByteArray := prog_8_method_21_code
def yX6_layWay : MethodName := ⟨RX6, "layWay", "(I)V"⟩
abbrev cX6_leaveWay : ByteArray := prog_8_method_22_code
def yX6_leaveWay : MethodName := ⟨RX6, "leaveWay", "(I)V"⟩
abbrev cX6_move : ByteArray := prog_8_method_23_code
def yX6_move : MethodName := ⟨RX6, "move", "(III)V"⟩
abbrev cX6_cutSeam : ByteArray := prog_8_method_24_code
def yX6_cutSeam : MethodName := ⟨RX6, "cutSeam", "()V"⟩
abbrev cX6_addSeam : ByteArray := prog_8_method_25_code
def yX6_addSeam : MethodName := ⟨RX6, "addSeam", "()V"⟩
abbrev cX6_cutWay : ByteArray := prog_8_method_26_code
def yX6_cutWay : MethodName := ⟨RX6, "cutWay", "(I)I"⟩
abbrev cX6_size_ : ByteArray := prog_8_method_27_code
def yX6_size_ : MethodName := ⟨RX6, "size", "(II)I"⟩
abbrev cX6_grey : ByteArray := prog_8_method_28_code
def yX6_grey : MethodName := ⟨RX6, "grey", "(III)I"⟩
abbrev cX6_mark : ByteArray := prog_8_method_29_code
def yX6_mark : MethodName := ⟨RX6, "mark", "(III)I"⟩
abbrev cX6_rule : ByteArray := prog_8_method_30_code
def yX6_rule : MethodName := ⟨RX6, "rule", "(I)I"⟩
abbrev cX6_dot : ByteArray := prog_8_method_31_code
def yX6_dot : MethodName := ⟨RX6, "dot", "(III)I"⟩
abbrev cX6_say : ByteArray := prog_8_method_32_code
def yX6_say : MethodName := ⟨RX6, "say", "(I)I"⟩
abbrev cX6_wipe : ByteArray := prog_8_method_33_code
def yX6_wipe : MethodName := ⟨RX6, "wipe", "()I"⟩
abbrev cX6_valueOf : ByteArray := prog_8_method_34_code
def yX6_valueOf : MethodName := ⟨RX6, "valueOf", "(II)I"⟩
abbrev cX6_signs : ByteArray := prog_8_method_35_code
def yX6_signs : MethodName := ⟨RX6, "signs", "()I"⟩
abbrev cX6_isBetween : ByteArray := prog_8_method_36_code
def yX6_isBetween : MethodName := ⟨RX6, "isBetween", "(I)Z"⟩
abbrev cX6_faultAs : ByteArray := prog_8_method_37_code
def yX6_faultAs : MethodName := ⟨RX6, "faultAs", "(I)I"⟩
abbrev cX6_fault : ByteArray := prog_8_method_38_code
def yX6_fault : MethodName := ⟨RX6, "fault", "(I)I"⟩
abbrev cX6_lay : ByteArray := prog_8_method_39_code
def yX6_lay : MethodName := ⟨RX6, "lay", "(I)I"⟩
abbrev cX6_isWay : ByteArray := prog_8_method_40_code
def yX6_isWay : MethodName := ⟨RX6, "isWay", "(I)Z"⟩
abbrev cX6_seam : ByteArray := prog_8_method_41_code
def yX6_seam : MethodName := ⟨RX6, "seam", "(II)I"⟩
abbrev cX6_layNumber : ByteArray := prog_8_method_42_code
def yX6_layNumber : MethodName := ⟨RX6, "layNumber", "(I)Z"⟩
abbrev cX6_cost : ByteArray := prog_8_method_43_code
def yX6_cost : MethodName := ⟨RX6, "cost", "(II)I"⟩
abbrev cX6_cut : ByteArray := prog_8_method_44_code
def yX6_cut : MethodName := ⟨RX6, "cut", "(I)I"⟩
abbrev cX6_add : ByteArray := prog_8_method_45_code
def yX6_add : MethodName := ⟨RX6, "add", "(I)I"⟩
abbrev cX6_least : ByteArray := prog_8_method_46_code
def yX6_least : MethodName := ⟨RX6, "least", "(II)I"⟩
abbrev cX6_bits : ByteArray := prog_8_method_47_code
def yX6_bits : MethodName := ⟨RX6, "bits", "(I)I"⟩
abbrev cX6_goOrder : ByteArray := prog_8_method_48_code
def yX6_goOrder : MethodName := ⟨RX6, "goOrder", "(II)I"⟩
abbrev cX6_layBest : ByteArray := prog_8_method_49_code
def yX6_layBest : MethodName := ⟨RX6, "layBest", "(II)V"⟩
abbrev cX6_turned : ByteArray := prog_8_method_50_code
def yX6_turned : MethodName := ⟨RX6, "turned", "(II)I"⟩
abbrev cX6_canGo : ByteArray := prog_8_method_51_code
def yX6_canGo : MethodName := ⟨RX6, "canGo", "(II)Z"⟩
abbrev cX6_best : ByteArray := prog_8_method_52_code
def yX6_best : MethodName := ⟨RX6, "best", "(III)I"⟩
abbrev cX6_save : ByteArray := prog_8_method_53_code
def yX6_save : MethodName := ⟨RX6, "save", "(I)V"⟩
abbrev cX6_load : ByteArray := prog_8_method_54_code
def yX6_load : MethodName := ⟨RX6, "load", "(II)V"⟩
abbrev cX6_layPlace : ByteArray := prog_8_method_55_code
def yX6_layPlace : MethodName := ⟨RX6, "layPlace", "(II)V"⟩
abbrev cX6_layTable : ByteArray := prog_8_method_56_code
def yX6_layTable : MethodName := ⟨RX6, "layTable", "(II)V"⟩
abbrev cX6_table : ByteArray := prog_8_method_57_code
def yX6_table : MethodName := ⟨RX6, "table", "(III)I"⟩
abbrev cX6_go : ByteArray := prog_8_method_58_code
def yX6_go : MethodName := ⟨RX6, "go", "(II)I"⟩
abbrev cX6_image : ByteArray := prog_8_method_59_code
def yX6_image : MethodName := ⟨RX6, "image", "(I)I"⟩
abbrev cX6_restore : ByteArray := prog_8_method_60_code
def yX6_restore : MethodName := ⟨RX6, "restore", "(I)I"⟩
abbrev cX6_dotsWith : ByteArray := prog_8_method_61_code
def yX6_dotsWith : MethodName := ⟨RX6, "dotsWith", "(I)I"⟩
abbrev cX6_greys : ByteArray := prog_8_method_62_code
def yX6_greys : MethodName := ⟨RX6, "greys", "()I"⟩
abbrev cX6_count : ByteArray := prog_8_method_63_code
def yX6_count : MethodName := ⟨RX6, "count", "(I)I"⟩
def RJ9 : String := "java/lang/Math"
def TJ9 : u_T := fun k => match k with
  | _ => ("", "", "", false)
def tyJ9 : Nat → FieldType := fun k => match k with
  | _ => .int
abbrev wsJ90 : List Cond := u_ws RJ9 TJ9 0
theorem nmJ9 : ∀ a, a < 0 → ∀ b, b < 0 → a ≠ b → (TJ9 a).2.1 ≠ (TJ9 b).2.1 := by decide +kernel
theorem tyJ9_ok : ∀ k, k < 0 → parseFieldDescriptor (TJ9 k).2.2.1 = some (tyJ9 k) := by decide +kernel
abbrev cJ9_abs_0f7a4 : ByteArray := prog_9_method_59_code
def yJ9_abs_0f7a4 : MethodName := ⟨RJ9, "abs", "(I)I"⟩
abbrev cJ9_max_7cf53 : ByteArray := prog_9_method_65_code
def yJ9_max_7cf53 : MethodName := ⟨RJ9, "max", "(II)I"⟩
abbrev cJ9_min_7cf53 : ByteArray := prog_9_method_69_code
def yJ9_min_7cf53 : MethodName := ⟨RJ9, "min", "(II)I"⟩
def RL : String := "SeamPicturesLaw"
abbrev cL_law : ByteArray := code
def yL_law : MethodName := ⟨RL, "law", "([I)Z"⟩
def wsL_law_r1 : List Cond := [Cond.classLink RL 7 RX5, Cond.instantiable RX5 7, Cond.initialized RX5, Cond.classLink RL 10 RX6, Cond.instantiable RX6 19, Cond.initialized RX6, Cond.methodLink RL 9 yX5_init, Cond.instanceMethod yX5_init, Cond.code yX5_init cX5_init 2 none, Cond.methodLink RX5 1 objectInit, Cond.instanceMethod objectInit, Cond.code objectInit ⟨#[0xb1]⟩ 1 none, Cond.classLink RX5 7 RX3, Cond.instantiable RX3 5, Cond.initialized RX3, Cond.fieldLink RX5 10 "SeamPictures" "picture" "LSeamPictures$Picture;", Cond.classLink RX5 16 RX4, Cond.instantiable RX4 5, Cond.initialized RX4, Cond.fieldLink RX5 19 "SeamPictures" "found" "LSeamPictures$Seam;", Cond.classLink RX5 23 RX2, Cond.instantiable RX2 2, Cond.initialized RX2, Cond.fieldLink RX5 26 "SeamPictures" "pad" "LSeamPictures$Pad;"]
def wsL_law_r2 : List Cond := [Cond.classLink RX5 30 RX1, Cond.instantiable RX1 6, Cond.initialized RX1, Cond.fieldLink RX5 33 "SeamPictures" "search" "LSeamPictures$OrderSearch;", Cond.classLink RX5 37 RX0, Cond.instantiable RX0 4, Cond.initialized RX0, Cond.fieldLink RX5 40 "SeamPictures" "costTable" "LSeamPictures$CostTable;", Cond.fieldLink RX5 44 "SeamPictures" "images" "[LSeamPictures$Picture;", Cond.arrayClass .boolean, Cond.fieldLink RX5 48 "SeamPictures" "imageKept" "[Z", Cond.methodLink RX5 9 yX3_init, Cond.instanceMethod yX3_init, Cond.code yX3_init cX3_init 1 none, Cond.methodLink RX3 3 objectInit, Cond.fieldLink RX3 9 "SeamPictures$Picture" "wide" "I", Cond.fieldLink RX3 15 "SeamPictures$Picture" "high" "I", Cond.arrayClass .int, Cond.fieldLink RX3 18 "SeamPictures$Picture" "greys" "[I", Cond.fieldLink RX3 22 "SeamPictures$Picture" "marks" "[I", Cond.methodLink RX5 18 yX4_init, Cond.instanceMethod yX4_init, Cond.code yX4_init cX4_init 1 none, Cond.methodLink RX4 3 objectInit]
def wsL_law_r3 : List Cond := [Cond.fieldLink RX4 9 "SeamPictures$Seam" "places" "[I", Cond.fieldLink RX4 15 "SeamPictures$Seam" "costToEnd" "[I", Cond.fieldLink RX4 18 "SeamPictures$Seam" "goesOnAt" "[I", Cond.methodLink RX5 25 yX2_init, Cond.instanceMethod yX2_init, Cond.code yX2_init cX2_init 1 none, Cond.methodLink RX2 3 objectInit, Cond.fieldLink RX2 11 "SeamPictures$Pad" "signs" "[I", Cond.methodLink RX5 32 yX1_init, Cond.instanceMethod yX1_init, Cond.code yX1_init cX1_init 2 none, Cond.methodLink RX1 3 objectInit, Cond.classLink RX1 9 RX3, Cond.fieldLink RX1 11 "SeamPictures$OrderSearch" "stages" "[LSeamPictures$Picture;", Cond.classLink RX1 18 RX4, Cond.fieldLink RX1 21 "SeamPictures$OrderSearch" "seam" "LSeamPictures$Seam;", Cond.methodLink RX1 17 yX3_init, Cond.methodLink RX1 20 yX4_init, Cond.methodLink RX5 39 yX0_init, Cond.instanceMethod yX0_init, Cond.code yX0_init cX0_init 2 none, Cond.methodLink RX0 3 objectInit, Cond.classLink RX0 9 RX3, Cond.fieldLink RX0 11 "SeamPictures$CostTable" "row" "[LSeamPictures$Picture;"]
def wsL_law_r4 : List Cond := [Cond.fieldLink RX0 18 "SeamPictures$CostTable" "costs" "[I", Cond.classLink RX0 22 RX4, Cond.fieldLink RX0 25 "SeamPictures$CostTable" "upright" "LSeamPictures$Seam;", Cond.fieldLink RX0 29 "SeamPictures$CostTable" "lying" "LSeamPictures$Seam;", Cond.methodLink RX0 17 yX3_init, Cond.methodLink RX0 24 yX4_init, Cond.methodLink RL 12 yX6_init, Cond.instanceMethod yX6_init, Cond.code yX6_init cX6_init 1 none, Cond.methodLink RX6 1 objectInit, Cond.fieldLink RX6 7 "SeamPicturesModel" "state" "[I", Cond.fieldLink RX6 13 "SeamPicturesModel" "images" "[I", Cond.fieldLink RX6 16 "SeamPicturesModel" "isKept" "[Z", Cond.fieldLink RX6 20 "SeamPicturesModel" "pad" "[I", Cond.fieldLink RX6 23 "SeamPicturesModel" "grey" "[I", Cond.fieldLink RX6 26 "SeamPicturesModel" "mark" "[I", Cond.fieldLink RX6 29 "SeamPicturesModel" "rest" "[I", Cond.fieldLink RX6 32 "SeamPicturesModel" "seam" "[I", Cond.fieldLink RX6 35 "SeamPicturesModel" "table" "[I", Cond.fieldLink RX6 38 "SeamPicturesModel" "tableCost" "[I", Cond.methodLink RL 13 yX5_size, Cond.instanceMethod yX5_size, Cond.selects RX5 yX5_size yX5_size, Cond.code yX5_size cX5_size 4 (some .int)]
def wsL_law_r5 : List Cond := [Cond.fieldLink RX5 56 "SeamPictures$Picture" "wide" "I", Cond.fieldLink RX5 60 "SeamPictures$Picture" "high" "I", Cond.methodLink RX5 52 yX5_isSide, Cond.static yX5_isSide, Cond.code yX5_isSide cX5_isSide 1 (some .boolean), Cond.methodLink RX5 63 yX3_blank, Cond.instanceMethod yX3_blank, Cond.selects RX3 yX3_blank yX3_blank, Cond.code yX3_blank cX3_blank 4 none, Cond.methodLink RL 17 yX6_size_, Cond.instanceMethod yX6_size_, Cond.selects RX6 yX6_size_ yX6_size_, Cond.code yX6_size_ cX6_size_ 5 (some .int), Cond.methodLink RX6 41 yX6_in, Cond.static yX6_in, Cond.code yX6_in cX6_in 3 (some .boolean), Cond.methodLink RL 18 yX5_grey, Cond.instanceMethod yX5_grey, Cond.selects RX5 yX5_grey yX5_grey, Cond.code yX5_grey cX5_grey 4 (some .int), Cond.methodLink RX5 67 yX3_hasDot, Cond.instanceMethod yX3_hasDot, Cond.selects RX3 yX3_hasDot yX3_hasDot, Cond.code yX3_hasDot cX3_hasDot 3 (some .boolean)]
def wsL_law_r6 : List Cond := [Cond.methodLink RX5 71 yX3_changeGrey, Cond.instanceMethod yX3_changeGrey, Cond.selects RX3 yX3_changeGrey yX3_changeGrey, Cond.code yX3_changeGrey cX3_changeGrey 6 (some .int), Cond.methodLink RX3 28 yX3_index, Cond.static yX3_index, Cond.code yX3_index cX3_index 3 (some .int), Cond.methodLink RL 22 yX6_grey, Cond.instanceMethod yX6_grey, Cond.selects RX6 yX6_grey yX6_grey, Cond.code yX6_grey cX6_grey 5 (some .int), Cond.methodLink RX6 120 yX6_isDot, Cond.instanceMethod yX6_isDot, Cond.selects RX6 yX6_isDot yX6_isDot, Cond.code yX6_isDot cX6_isDot 3 (some .boolean), Cond.methodLink RX6 52 yX6_at, Cond.static yX6_at, Cond.code yX6_at cX6_at 2 (some .int), Cond.methodLink RL 23 yX5_mark, Cond.instanceMethod yX5_mark, Cond.selects RX5 yX5_mark yX5_mark, Cond.code yX5_mark cX5_mark 4 (some .int), Cond.methodLink RX5 75 yX3_changeMark, Cond.instanceMethod yX3_changeMark]
def wsL_law_r7 : List Cond := [Cond.selects RX3 yX3_changeMark yX3_changeMark, Cond.code yX3_changeMark cX3_changeMark 6 (some .int), Cond.methodLink RL 26 yX6_mark, Cond.instanceMethod yX6_mark, Cond.selects RX6 yX6_mark yX6_mark, Cond.code yX6_mark cX6_mark 5 (some .int), Cond.methodLink RL 27 yX5_rule, Cond.instanceMethod yX5_rule, Cond.selects RX5 yX5_rule yX5_rule, Cond.code yX5_rule cX5_rule 3 (some .int), Cond.fieldLink RX5 81 "SeamPictures$Picture" "law" "I", Cond.methodLink RX5 78 yX5_isBit, Cond.static yX5_isBit, Cond.code yX5_isBit cX5_isBit 1 (some .boolean), Cond.methodLink RL 31 yX6_rule, Cond.instanceMethod yX6_rule, Cond.selects RX6 yX6_rule yX6_rule, Cond.code yX6_rule cX6_rule 3 (some .int), Cond.methodLink RL 32 yX5_dot, Cond.instanceMethod yX5_dot, Cond.selects RX5 yX5_dot yX5_dot, Cond.code yX5_dot cX5_dot 4 (some .int), Cond.methodLink RX5 84 yX3_greyAt, Cond.instanceMethod yX3_greyAt]
def wsL_law_r8 : List Cond := [Cond.selects RX3 yX3_greyAt yX3_greyAt, Cond.code yX3_greyAt cX3_greyAt 4 (some .int), Cond.methodLink RX5 87 yX3_markAt, Cond.instanceMethod yX3_markAt, Cond.selects RX3 yX3_markAt yX3_markAt, Cond.code yX3_markAt cX3_markAt 4 (some .int), Cond.methodLink RX5 90 yX3_edgeAt, Cond.instanceMethod yX3_edgeAt, Cond.selects RX3 yX3_edgeAt yX3_edgeAt, Cond.code yX3_edgeAt cX3_edgeAt 3 (some .int), Cond.methodLink RX3 48 yX3_gapAt, Cond.instanceMethod yX3_gapAt, Cond.selects RX3 yX3_gapAt yX3_gapAt, Cond.code yX3_gapAt cX3_gapAt 6 (some .int), Cond.methodLink RX3 32 Lib.Math.max.name, Cond.static Lib.Math.max.name, Cond.initialized "java/lang/Math", Cond.code Lib.Math.max.name Lib.Math.max.code 2 (some .int), Cond.methodLink RX3 42 Lib.Math.min.name, Cond.static Lib.Math.min.name, Cond.code Lib.Math.min.name Lib.Math.min.code 2 (some .int), Cond.methodLink RX3 45 Lib.Math.abs.name, Cond.static Lib.Math.abs.name, Cond.code Lib.Math.abs.name Lib.Math.abs.code 1 (some .int)]
def wsL_law_r9 : List Cond := [Cond.methodLink RX3 38 yX3_breadth, Cond.instanceMethod yX3_breadth, Cond.selects RX3 yX3_breadth yX3_breadth, Cond.code yX3_breadth cX3_breadth 2 (some .int), Cond.methodLink RX5 94 yX3_weightAt, Cond.instanceMethod yX3_weightAt, Cond.selects RX3 yX3_weightAt yX3_weightAt, Cond.code yX3_weightAt cX3_weightAt 3 (some .int), Cond.methodLink RX3 51 yX3_edgeAt, Cond.methodLink RX3 54 yX3_extraAt, Cond.instanceMethod yX3_extraAt, Cond.selects RX3 yX3_extraAt yX3_extraAt, Cond.code yX3_extraAt cX3_extraAt 5 (some .int), Cond.methodLink RL 35 yX6_dot, Cond.instanceMethod yX6_dot, Cond.selects RX6 yX6_dot yX6_dot, Cond.code yX6_dot cX6_dot 4 (some .int), Cond.methodLink RX6 124 yX6_take, Cond.instanceMethod yX6_take, Cond.selects RX6 yX6_take yX6_take, Cond.code yX6_take cX6_take 2 none, Cond.fieldLink RX6 45 "SeamPicturesModel" "wide" "I", Cond.fieldLink RX6 49 "SeamPicturesModel" "high" "I", Cond.methodLink RX6 78 yX6_edge]
def wsL_law_r10 : List Cond := [Cond.instanceMethod yX6_edge, Cond.selects RX6 yX6_edge yX6_edge, Cond.code yX6_edge cX6_edge 3 (some .int), Cond.methodLink RX6 69 yX6_across, Cond.instanceMethod yX6_across, Cond.selects RX6 yX6_across yX6_across, Cond.code yX6_across cX6_across 3 (some .int), Cond.methodLink RX6 59 yX6_left, Cond.instanceMethod yX6_left, Cond.selects RX6 yX6_left yX6_left, Cond.code yX6_left cX6_left 3 (some .int), Cond.methodLink RX6 56 yX6_greyAt, Cond.instanceMethod yX6_greyAt, Cond.selects RX6 yX6_greyAt yX6_greyAt, Cond.code yX6_greyAt cX6_greyAt 3 (some .int), Cond.methodLink RX6 62 yX6_right, Cond.instanceMethod yX6_right, Cond.selects RX6 yX6_right yX6_right, Cond.code yX6_right cX6_right 3 (some .int), Cond.methodLink RX6 65 yX6_size, Cond.static yX6_size, Cond.code yX6_size cX6_size 1 (some .int), Cond.methodLink RX6 72 yX6_above, Cond.instanceMethod yX6_above]
def wsL_law_r11 : List Cond := [Cond.selects RX6 yX6_above yX6_above, Cond.code yX6_above cX6_above 3 (some .int), Cond.methodLink RX6 75 yX6_below, Cond.instanceMethod yX6_below, Cond.selects RX6 yX6_below yX6_below, Cond.code yX6_below cX6_below 3 (some .int), Cond.methodLink RX6 84 yX6_weight, Cond.instanceMethod yX6_weight, Cond.selects RX6 yX6_weight yX6_weight, Cond.code yX6_weight cX6_weight 3 (some .int), Cond.methodLink RX6 81 yX6_extra, Cond.instanceMethod yX6_extra, Cond.selects RX6 yX6_extra yX6_extra, Cond.code yX6_extra cX6_extra 4 (some .int), Cond.methodLink RL 36 yX5_say, Cond.instanceMethod yX5_say, Cond.selects RX5 yX5_say yX5_say, Cond.code yX5_say cX5_say 2 (some .int), Cond.methodLink RX5 97 yX2_isFull, Cond.instanceMethod yX2_isFull, Cond.selects RX2 yX2_isFull yX2_isFull, Cond.code yX2_isFull cX2_isFull 1 (some .boolean), Cond.fieldLink RX2 15 "SeamPictures$Pad" "length" "I", Cond.methodLink RX5 101 yX2_append]
def wsL_law_r12 : List Cond := [Cond.instanceMethod yX2_append, Cond.selects RX2 yX2_append yX2_append, Cond.code yX2_append cX2_append 2 (some .int), Cond.methodLink RL 39 yX6_say, Cond.instanceMethod yX6_say, Cond.selects RX6 yX6_say yX6_say, Cond.code yX6_say cX6_say 2 (some .int), Cond.fieldLink RX6 127 "SeamPicturesModel" "said" "I", Cond.methodLink RL 40 yX5_wipe, Cond.instanceMethod yX5_wipe, Cond.selects RX5 yX5_wipe yX5_wipe, Cond.code yX5_wipe cX5_wipe 1 (some .int), Cond.methodLink RX5 105 yX2_clear, Cond.instanceMethod yX2_clear, Cond.selects RX2 yX2_clear yX2_clear, Cond.code yX2_clear cX2_clear 2 (some .int), Cond.methodLink RL 44 yX6_wipe, Cond.instanceMethod yX6_wipe, Cond.selects RX6 yX6_wipe yX6_wipe, Cond.code yX6_wipe cX6_wipe 2 (some .int), Cond.methodLink RL 45 yX5_fault, Cond.instanceMethod yX5_fault, Cond.selects RX5 yX5_fault yX5_fault, Cond.code yX5_fault cX5_fault 2 (some .int)]
def wsL_law_r13 : List Cond := [Cond.methodLink RX5 109 yX2_firstFault, Cond.instanceMethod yX2_firstFault, Cond.selects RX2 yX2_firstFault yX2_firstFault, Cond.code yX2_firstFault cX2_firstFault 6 (some .int), Cond.methodLink RX2 19 yX2_canStand, Cond.static yX2_canStand, Cond.code yX2_canStand cX2_canStand 3 (some .boolean), Cond.methodLink RX2 23 yX2_valueOf, Cond.static yX2_valueOf, Cond.code yX2_valueOf cX2_valueOf 2 (some .int), Cond.methodLink RL 48 yX6_fault, Cond.instanceMethod yX6_fault, Cond.selects RX6 yX6_fault yX6_fault, Cond.code yX6_fault cX6_fault 2 (some .int), Cond.methodLink RX6 141 yX6_faultAs, Cond.instanceMethod yX6_faultAs, Cond.selects RX6 yX6_faultAs yX6_faultAs, Cond.code yX6_faultAs cX6_faultAs 4 (some .int), Cond.methodLink RX6 130 yX6_isBetween, Cond.instanceMethod yX6_isBetween, Cond.selects RX6 yX6_isBetween yX6_isBetween, Cond.code yX6_isBetween cX6_isBetween 2 (some .boolean), Cond.methodLink RX6 134 yX6_valueOf, Cond.instanceMethod yX6_valueOf]
def wsL_law_r14 : List Cond := [Cond.selects RX6 yX6_valueOf yX6_valueOf, Cond.code yX6_valueOf cX6_valueOf 3 (some .int), Cond.methodLink RX6 137 yX6_signs, Cond.instanceMethod yX6_signs, Cond.selects RX6 yX6_signs yX6_signs, Cond.code yX6_signs cX6_signs 1 (some .int), Cond.methodLink RL 49 yX5_lay, Cond.instanceMethod yX5_lay, Cond.selects RX5 yX5_lay yX5_lay, Cond.code yX5_lay cX5_lay 3 (some .int), Cond.methodLink RX5 112 yX2_layOn, Cond.instanceMethod yX2_layOn, Cond.selects RX2 yX2_layOn yX2_layOn, Cond.code yX2_layOn cX2_layOn 8 (some .int), Cond.fieldLink RX2 27 "SeamPictures$Picture" "high" "I", Cond.fieldLink RX2 32 "SeamPictures$Picture" "wide" "I", Cond.methodLink RX2 35 yX3_changeGrey, Cond.methodLink RX2 39 yX3_changeMark, Cond.methodLink RL 52 yX6_lay, Cond.instanceMethod yX6_lay, Cond.selects RX6 yX6_lay yX6_lay, Cond.code yX6_lay cX6_lay 6 (some .int), Cond.methodLink RL 53 yX5_seam, Cond.instanceMethod yX5_seam]
def wsL_law_r15 : List Cond := [Cond.selects RX5 yX5_seam yX5_seam, Cond.code yX5_seam cX5_seam 3 (some .int), Cond.fieldLink RX5 123 "SeamPictures$Seam" "total" "I", Cond.fieldLink RX5 126 "SeamPictures$Seam" "places" "[I", Cond.methodLink RX5 116 yX3_lines, Cond.instanceMethod yX3_lines, Cond.selects RX3 yX3_lines yX3_lines, Cond.code yX3_lines cX3_lines 2 (some .int), Cond.methodLink RX5 119 yX4_findLeast, Cond.instanceMethod yX4_findLeast, Cond.selects RX4 yX4_findLeast yX4_findLeast, Cond.code yX4_findLeast cX4_findLeast 7 none, Cond.fieldLink RX4 21 "SeamPictures$Seam" "way" "I", Cond.fieldLink RX4 41 "SeamPictures$Seam" "total" "I", Cond.methodLink RX4 25 yX3_lines, Cond.methodLink RX4 31 yX3_breadth, Cond.methodLink RX4 34 yX4_weighDot, Cond.instanceMethod yX4_weighDot, Cond.selects RX4 yX4_weighDot yX4_weighDot, Cond.code yX4_weighDot cX4_weighDot 6 none, Cond.methodLink RX4 44 yX3_standingCost, Cond.instanceMethod yX3_standingCost, Cond.selects RX3 yX3_standingCost yX3_standingCost, Cond.code yX3_standingCost cX3_standingCost 5 (some .int)]
def wsL_law_r16 : List Cond := [Cond.fieldLink RX3 25 "SeamPictures$Picture" "law" "I", Cond.methodLink RX4 48 yX4_goOnFrom, Cond.instanceMethod yX4_goOnFrom, Cond.selects RX4 yX4_goOnFrom yX4_goOnFrom, Cond.code yX4_goOnFrom cX4_goOnFrom 10 none, Cond.methodLink RX4 52 Lib.Math.max.name, Cond.methodLink RX4 58 Lib.Math.min.name, Cond.methodLink RX4 61 yX3_turningCost, Cond.instanceMethod yX3_turningCost, Cond.selects RX3 yX3_turningCost yX3_turningCost, Cond.code yX3_turningCost cX3_turningCost 7 (some .int), Cond.methodLink RX4 38 yX4_leastStart, Cond.instanceMethod yX4_leastStart, Cond.selects RX4 yX4_leastStart yX4_leastStart, Cond.code yX4_leastStart cX4_leastStart 4 (some .int), Cond.methodLink RL 56 yX6_seam, Cond.instanceMethod yX6_seam, Cond.selects RX6 yX6_seam yX6_seam, Cond.code yX6_seam cX6_seam 3 (some .int), Cond.fieldLink RX6 94 "SeamPicturesModel" "seamCost" "I", Cond.methodLink RX6 144 yX6_isWay, Cond.static yX6_isWay, Cond.code yX6_isWay cX6_isWay 1 (some .boolean), Cond.methodLink RX6 110 yX6_layWay]
def wsL_law_r17 : List Cond := [Cond.instanceMethod yX6_layWay, Cond.selects RX6 yX6_layWay yX6_layWay, Cond.code yX6_layWay cX6_layWay 2 none, Cond.methodLink RX6 97 yX6_turn, Cond.instanceMethod yX6_turn, Cond.selects RX6 yX6_turn yX6_turn, Cond.code yX6_turn cX6_turn 5 none, Cond.methodLink RX6 100 yX6_laySeam, Cond.instanceMethod yX6_laySeam, Cond.selects RX6 yX6_laySeam yX6_laySeam, Cond.code yX6_laySeam cX6_laySeam 4 none, Cond.methodLink RX6 91 yX6_nextFrom, Cond.instanceMethod yX6_nextFrom, Cond.selects RX6 yX6_nextFrom yX6_nextFrom, Cond.code yX6_nextFrom cX6_nextFrom 7 (some .int), Cond.methodLink RX6 87 yX6_costOf, Cond.instanceMethod yX6_costOf, Cond.selects RX6 yX6_costOf yX6_costOf, Cond.code yX6_costOf cX6_costOf 5 (some .int), Cond.methodLink RL 57 yX5_cost, Cond.instanceMethod yX5_cost, Cond.selects RX5 yX5_cost yX5_cost, Cond.code yX5_cost cX5_cost 3 (some .int), Cond.methodLink RX5 130 yX4_readNumber]
def wsL_law_r18 : List Cond := [Cond.instanceMethod yX4_readNumber, Cond.selects RX4 yX4_readNumber yX4_readNumber, Cond.code yX4_readNumber cX4_readNumber 7 (some .boolean), Cond.methodLink RX4 65 yX4_hangsTogether, Cond.instanceMethod yX4_hangsTogether, Cond.selects RX4 yX4_hangsTogether yX4_hangsTogether, Cond.code yX4_hangsTogether cX4_hangsTogether 4 (some .boolean), Cond.methodLink RX4 73 Lib.Math.abs.name, Cond.methodLink RX4 69 yX4_sumOfCosts, Cond.instanceMethod yX4_sumOfCosts, Cond.selects RX4 yX4_sumOfCosts yX4_sumOfCosts, Cond.code yX4_sumOfCosts cX4_sumOfCosts 5 (some .int), Cond.methodLink RL 60 yX6_cost, Cond.instanceMethod yX6_cost, Cond.selects RX6 yX6_cost yX6_cost, Cond.code yX6_cost cX6_cost 5 (some .int), Cond.methodLink RX6 147 yX6_layNumber, Cond.instanceMethod yX6_layNumber, Cond.selects RX6 yX6_layNumber yX6_layNumber, Cond.code yX6_layNumber cX6_layNumber 5 (some .boolean), Cond.methodLink RL 61 yX5_cut, Cond.instanceMethod yX5_cut, Cond.selects RX5 yX5_cut yX5_cut, Cond.code yX5_cut cX5_cut 2 (some .int)]
def wsL_law_r19 : List Cond := [Cond.methodLink RX5 134 yX3_breadth, Cond.methodLink RX5 137 yX3_takeOut, Cond.instanceMethod yX3_takeOut, Cond.selects RX3 yX3_takeOut yX3_takeOut, Cond.code yX3_takeOut cX3_takeOut 5 none, Cond.fieldLink RX3 66 "SeamPictures$Seam" "way" "I", Cond.fieldLink RX3 74 "SeamPictures$Seam" "places" "[I", Cond.methodLink RX3 71 yX3_lines, Cond.methodLink RX3 77 yX3_moveDot, Cond.instanceMethod yX3_moveDot, Cond.selects RX3 yX3_moveDot yX3_moveDot, Cond.code yX3_moveDot cX3_moveDot 7 none, Cond.methodLink RX3 81 yX3_broaden, Cond.instanceMethod yX3_broaden, Cond.selects RX3 yX3_broaden yX3_broaden, Cond.code yX3_broaden cX3_broaden 3 none, Cond.methodLink RL 64 yX6_cut, Cond.instanceMethod yX6_cut, Cond.selects RX6 yX6_cut yX6_cut, Cond.code yX6_cut cX6_cut 3 (some .int), Cond.methodLink RX6 150 yX6_cutWay, Cond.instanceMethod yX6_cutWay, Cond.selects RX6 yX6_cutWay yX6_cutWay, Cond.code yX6_cutWay cX6_cutWay 2 (some .int)]
def wsL_law_r20 : List Cond := [Cond.methodLink RX6 114 yX6_cutSeam, Cond.instanceMethod yX6_cutSeam, Cond.selects RX6 yX6_cutSeam yX6_cutSeam, Cond.code yX6_cutSeam cX6_cutSeam 3 none, Cond.fieldLink RX6 103 "SeamPicturesModel" "keptCut" "I", Cond.methodLink RX6 106 yX6_move, Cond.instanceMethod yX6_move, Cond.selects RX6 yX6_move yX6_move, Cond.code yX6_move cX6_move 4 none, Cond.methodLink RX6 117 yX6_leaveWay, Cond.instanceMethod yX6_leaveWay, Cond.selects RX6 yX6_leaveWay yX6_leaveWay, Cond.code yX6_leaveWay cX6_leaveWay 2 none, Cond.methodLink RX6 153 yX6_give, Cond.instanceMethod yX6_give, Cond.selects RX6 yX6_give yX6_give, Cond.code yX6_give cX6_give 3 none, Cond.methodLink RL 65 yX5_add, Cond.instanceMethod yX5_add, Cond.selects RX5 yX5_add yX5_add, Cond.code yX5_add cX5_add 2 (some .int), Cond.methodLink RX5 141 yX3_putIn, Cond.instanceMethod yX3_putIn, Cond.selects RX3 yX3_putIn yX3_putIn]
def wsL_law_r21 : List Cond := [Cond.code yX3_putIn cX3_putIn 8 none, Cond.methodLink RX3 60 yX3_greyAt, Cond.methodLink RL 68 yX6_add, Cond.instanceMethod yX6_add, Cond.selects RX6 yX6_add yX6_add, Cond.code yX6_add cX6_add 2 (some .int), Cond.methodLink RX6 156 yX6_addSeam, Cond.instanceMethod yX6_addSeam, Cond.selects RX6 yX6_addSeam yX6_addSeam, Cond.code yX6_addSeam cX6_addSeam 4 none, Cond.methodLink RL 69 yX5_least, Cond.instanceMethod yX5_least, Cond.selects RX5 yX5_least yX5_least, Cond.code yX5_least cX5_least 3 (some .int), Cond.methodLink RX5 144 yX3_lightestInRow, Cond.instanceMethod yX3_lightestInRow, Cond.selects RX3 yX3_lightestInRow yX3_lightestInRow, Cond.code yX3_lightestInRow cX3_lightestInRow 4 (some .int), Cond.methodLink RX3 57 yX3_weightAt, Cond.methodLink RX5 147 yX3_lightestInColumn, Cond.instanceMethod yX3_lightestInColumn, Cond.selects RX3 yX3_lightestInColumn yX3_lightestInColumn, Cond.code yX3_lightestInColumn cX3_lightestInColumn 4 (some .int), Cond.methodLink RL 72 yX6_least]
def wsL_law_r22 : List Cond := [Cond.instanceMethod yX6_least, Cond.selects RX6 yX6_least yX6_least, Cond.code yX6_least cX6_least 5 (some .int), Cond.methodLink RL 73 yX5_best, Cond.instanceMethod yX5_best, Cond.selects RX5 yX5_best yX5_best, Cond.code yX5_best cX5_best 4 (some .int), Cond.fieldLink RX5 157 "SeamPictures$OrderSearch" "bestCost" "I", Cond.fieldLink RX5 160 "SeamPictures$OrderSearch" "ordersAtBest" "I", Cond.fieldLink RX5 163 "SeamPictures$OrderSearch" "bestOrder" "I", Cond.fieldLink RX5 166 "SeamPictures$OrderSearch" "bestKeptCut" "I", Cond.methodLink RX5 150 yX5_canReach, Cond.instanceMethod yX5_canReach, Cond.selects RX5 yX5_canReach yX5_canReach, Cond.code yX5_canReach cX5_canReach 3 (some .boolean), Cond.methodLink RX5 153 yX1_findBest, Cond.instanceMethod yX1_findBest, Cond.selects RX1 yX1_findBest yX1_findBest, Cond.code yX1_findBest cX1_findBest 4 none, Cond.fieldLink RX1 25 "SeamPictures$OrderSearch" "ordersAtBest" "I", Cond.methodLink RX1 29 yX3_copyFrom, Cond.instanceMethod yX3_copyFrom, Cond.selects RX3 yX3_copyFrom yX3_copyFrom, Cond.code yX3_copyFrom cX3_copyFrom 3 none]
def wsL_law_r23 : List Cond := [Cond.methodLink RX1 33 yX1_tryOrders, Cond.instanceMethod yX1_tryOrders, Cond.selects RX1 yX1_tryOrders yX1_tryOrders, Cond.code yX1_tryOrders cX1_tryOrders 10 none, Cond.fieldLink RX1 53 "SeamPictures$Seam" "total" "I", Cond.methodLink RX1 37 yX1_compare, Cond.instanceMethod yX1_compare, Cond.selects RX1 yX1_compare yX1_compare, Cond.code yX1_compare cX1_compare 4 none, Cond.fieldLink RX1 56 "SeamPictures$OrderSearch" "bestCost" "I", Cond.fieldLink RX1 59 "SeamPictures$OrderSearch" "bestOrder" "I", Cond.fieldLink RX1 62 "SeamPictures$OrderSearch" "bestKeptCut" "I", Cond.methodLink RX1 41 yX4_findLeast, Cond.methodLink RX1 45 yX3_keptDotsOf, Cond.instanceMethod yX3_keptDotsOf, Cond.selects RX3 yX3_keptDotsOf yX3_keptDotsOf, Cond.code yX3_keptDotsOf cX3_keptDotsOf 4 (some .int), Cond.methodLink RX3 63 yX3_markAt, Cond.methodLink RX1 49 yX3_takeOut, Cond.methodLink RL 76 yX6_best, Cond.instanceMethod yX6_best, Cond.selects RX6 yX6_best yX6_best, Cond.code yX6_best cX6_best 4 (some .int), Cond.fieldLink RX6 171 "SeamPicturesModel" "bestCost" "I"]
def wsL_law_r24 : List Cond := [Cond.fieldLink RX6 162 "SeamPicturesModel" "asGood" "I", Cond.fieldLink RX6 159 "SeamPicturesModel" "bestOrder" "I", Cond.fieldLink RX6 174 "SeamPicturesModel" "bestKept" "I", Cond.methodLink RX6 177 yX6_canGo, Cond.instanceMethod yX6_canGo, Cond.selects RX6 yX6_canGo yX6_canGo, Cond.code yX6_canGo cX6_canGo 3 (some .boolean), Cond.methodLink RX6 180 yX6_layBest, Cond.instanceMethod yX6_layBest, Cond.selects RX6 yX6_layBest yX6_layBest, Cond.code yX6_layBest cX6_layBest 5 none, Cond.methodLink RX6 165 yX6_bits, Cond.static yX6_bits, Cond.code yX6_bits cX6_bits 3 (some .int), Cond.methodLink RX6 168 yX6_goOrder, Cond.instanceMethod yX6_goOrder, Cond.selects RX6 yX6_goOrder yX6_goOrder, Cond.code yX6_goOrder cX6_goOrder 5 (some .int), Cond.methodLink RX6 184 yX6_turned, Cond.static yX6_turned, Cond.code yX6_turned cX6_turned 4 (some .int), Cond.methodLink RL 77 yX5_table, Cond.instanceMethod yX5_table, Cond.selects RX5 yX5_table yX5_table]
def wsL_law_r25 : List Cond := [Cond.code yX5_table cX5_table 6 (some .int), Cond.fieldLink RX5 172 "SeamPictures$CostTable" "costs" "[I", Cond.fieldLink RX5 175 "SeamPictures$CostTable" "row" "[LSeamPictures$Picture;", Cond.methodLink RX5 169 yX0_fillTo, Cond.instanceMethod yX0_fillTo, Cond.selects RX0 yX0_fillTo yX0_fillTo, Cond.code yX0_fillTo cX0_fillTo 6 none, Cond.methodLink RX0 32 yX3_copyFrom, Cond.methodLink RX0 36 yX4_findLeast, Cond.methodLink RX0 40 yX0_takeLying, Cond.instanceMethod yX0_takeLying, Cond.selects RX0 yX0_takeLying yX0_takeLying, Cond.code yX0_takeLying cX0_takeLying 2 none, Cond.fieldLink RX0 50 "SeamPictures$Seam" "total" "I", Cond.methodLink RX0 54 yX3_takeOut, Cond.methodLink RX0 44 yX0_takeUpright, Cond.instanceMethod yX0_takeUpright, Cond.selects RX0 yX0_takeUpright yX0_takeUpright, Cond.code yX0_takeUpright cX0_takeUpright 2 none, Cond.methodLink RX0 47 yX0_takeCheaper, Cond.instanceMethod yX0_takeCheaper, Cond.selects RX0 yX0_takeCheaper yX0_takeCheaper, Cond.code yX0_takeCheaper cX0_takeCheaper 2 none, Cond.methodLink RL 80 yX6_table]
def wsL_law_r26 : List Cond := [Cond.instanceMethod yX6_table, Cond.selects RX6 yX6_table yX6_table, Cond.code yX6_table cX6_table 6 (some .int), Cond.methodLink RX6 196 yX6_layTable, Cond.instanceMethod yX6_layTable, Cond.selects RX6 yX6_layTable yX6_layTable, Cond.code yX6_layTable cX6_layTable 5 none, Cond.methodLink RX6 190 yX6_save, Cond.instanceMethod yX6_save, Cond.selects RX6 yX6_save yX6_save, Cond.code yX6_save cX6_save 3 none, Cond.methodLink RX6 193 yX6_layPlace, Cond.instanceMethod yX6_layPlace, Cond.selects RX6 yX6_layPlace yX6_layPlace, Cond.code yX6_layPlace cX6_layPlace 6 none, Cond.methodLink RX6 187 yX6_load, Cond.instanceMethod yX6_load, Cond.selects RX6 yX6_load yX6_load, Cond.code yX6_load cX6_load 5 none, Cond.methodLink RL 81 yX5_go, Cond.instanceMethod yX5_go, Cond.selects RX5 yX5_go yX5_go, Cond.code yX5_go cX5_go 4 (some .int), Cond.methodLink RL 84 yX6_go]
def wsL_law_r27 : List Cond := [Cond.instanceMethod yX6_go, Cond.selects RX6 yX6_go yX6_go, Cond.code yX6_go cX6_go 4 (some .int), Cond.methodLink RL 85 yX5_image, Cond.instanceMethod yX5_image, Cond.selects RX5 yX5_image yX5_image, Cond.code yX5_image cX5_image 2 (some .int), Cond.methodLink RX5 178 yX3_copyFrom, Cond.methodLink RL 88 yX6_image, Cond.instanceMethod yX6_image, Cond.selects RX6 yX6_image yX6_image, Cond.code yX6_image cX6_image 3 (some .int), Cond.methodLink RL 89 yX5_restore, Cond.instanceMethod yX5_restore, Cond.selects RX5 yX5_restore yX5_restore, Cond.code yX5_restore cX5_restore 2 (some .int), Cond.methodLink RL 92 yX6_restore, Cond.instanceMethod yX6_restore, Cond.selects RX6 yX6_restore yX6_restore, Cond.code yX6_restore cX6_restore 3 (some .int), Cond.methodLink RL 93 yX5_count, Cond.instanceMethod yX5_count, Cond.selects RX5 yX5_count yX5_count, Cond.code yX5_count cX5_count 2 (some .int)]
def wsL_law_r28 : List Cond := [Cond.fieldLink RX5 188 "SeamPictures$Pad" "length" "I", Cond.methodLink RX5 182 yX3_sumOfGreys, Cond.instanceMethod yX3_sumOfGreys, Cond.selects RX3 yX3_sumOfGreys yX3_sumOfGreys, Cond.code yX3_sumOfGreys cX3_sumOfGreys 4 (some .int), Cond.methodLink RX5 185 yX3_dotsMarked, Cond.instanceMethod yX3_dotsMarked, Cond.selects RX3 yX3_dotsMarked yX3_dotsMarked, Cond.code yX3_dotsMarked cX3_dotsMarked 5 (some .int), Cond.methodLink RX5 191 yX5_imagesKept, Cond.instanceMethod yX5_imagesKept, Cond.selects RX5 yX5_imagesKept yX5_imagesKept, Cond.code yX5_imagesKept cX5_imagesKept 3 (some .int), Cond.methodLink RL 96 yX6_count, Cond.instanceMethod yX6_count, Cond.selects RX6 yX6_count yX6_count, Cond.code yX6_count cX6_count 2 (some .int), Cond.methodLink RX6 199 yX6_greys, Cond.instanceMethod yX6_greys, Cond.selects RX6 yX6_greys yX6_greys, Cond.code yX6_greys cX6_greys 3 (some .int), Cond.methodLink RX6 202 yX6_dotsWith, Cond.instanceMethod yX6_dotsWith, Cond.selects RX6 yX6_dotsWith yX6_dotsWith]
def wsL_law_r29 : List Cond := [Cond.code yX6_dotsWith cX6_dotsWith 4 (some .int)]
def wsL_law : List Cond := (wsL_law_r1 ++ (wsL_law_r2 ++ (wsL_law_r3 ++ (wsL_law_r4 ++ (wsL_law_r5 ++ (wsL_law_r6 ++ (wsL_law_r7 ++ (wsL_law_r8 ++ (wsL_law_r9 ++ (wsL_law_r10 ++ (wsL_law_r11 ++ (wsL_law_r12 ++ (wsL_law_r13 ++ (wsL_law_r14 ++ (wsL_law_r15 ++ (wsL_law_r16 ++ (wsL_law_r17 ++ (wsL_law_r18 ++ (wsL_law_r19 ++ (wsL_law_r20 ++ (wsL_law_r21 ++ (wsL_law_r22 ++ (wsL_law_r23 ++ (wsL_law_r24 ++ (wsL_law_r25 ++ (wsL_law_r26 ++ (wsL_law_r27 ++ (wsL_law_r28 ++ wsL_law_r29)))))))))))))))))))))))))))) ++ wsX50 ++ wsX60 ++ wsX30 ++ wsX40 ++ wsX20 ++ wsX10 ++ wsX00 ++ ([] : List Cond)
theorem inlX0 : ∀ w ∈ wsX00, w ∈ wsL_law := fun _ h => List.mem_append_left _ (List.mem_append_right _ h)
theorem inlX1 : ∀ w ∈ wsX10, w ∈ wsL_law := fun _ h => List.mem_append_left _ (List.mem_append_left _ (List.mem_append_right _ h))
theorem inlX2 : ∀ w ∈ wsX20, w ∈ wsL_law := fun _ h => List.mem_append_left _ (List.mem_append_left _ (List.mem_append_left _ (List.mem_append_right _ h)))
theorem inlX3 : ∀ w ∈ wsX30, w ∈ wsL_law := fun _ h => List.mem_append_left _ (List.mem_append_left _ (List.mem_append_left _ (List.mem_append_left _ (List.mem_append_left _ (List.mem_append_right _ h)))))
theorem inlX4 : ∀ w ∈ wsX40, w ∈ wsL_law := fun _ h => List.mem_append_left _ (List.mem_append_left _ (List.mem_append_left _ (List.mem_append_left _ (List.mem_append_right _ h))))
theorem inlX5 : ∀ w ∈ wsX50, w ∈ wsL_law := fun _ h => List.mem_append_left _ (List.mem_append_left _ (List.mem_append_left _ (List.mem_append_left _ (List.mem_append_left _ (List.mem_append_left _ (List.mem_append_left _ (List.mem_append_right _ h)))))))
theorem inlX6 : ∀ w ∈ wsX60, w ∈ wsL_law := fun _ h => List.mem_append_left _ (List.mem_append_left _ (List.mem_append_left _ (List.mem_append_left _ (List.mem_append_left _ (List.mem_append_left _ (List.mem_append_right _ h))))))
abbrev vwCl : List vw_C := [(RX0, TX0, 4), (RX1, TX1, 6), (RX2, TX2, 2), (RX3, TX3, 5), (RX4, TX4, 5), (RX5, TX5, 7), (RX6, TX6, 19)]
end
section
/-- one list of words for every method: the words of the law -/
abbrev wA : List Cond := wsL_law
theorem wg_1 : wsL_law_r1.all goodWord = true := by decide +kernel
theorem wg_2 : wsL_law_r2.all goodWord = true := by decide +kernel
theorem wg_3 : wsL_law_r3.all goodWord = true := by decide +kernel
theorem wg_4 : wsL_law_r4.all goodWord = true := by decide +kernel
theorem wg_5 : wsL_law_r5.all goodWord = true := by decide +kernel
theorem wg_6 : wsL_law_r6.all goodWord = true := by decide +kernel
theorem wg_7 : wsL_law_r7.all goodWord = true := by decide +kernel
theorem wg_8 : wsL_law_r8.all goodWord = true := by decide +kernel
theorem wg_9 : wsL_law_r9.all goodWord = true := by decide +kernel
theorem wg_10 : wsL_law_r10.all goodWord = true := by decide +kernel
theorem wg_11 : wsL_law_r11.all goodWord = true := by decide +kernel
theorem wg_12 : wsL_law_r12.all goodWord = true := by decide +kernel
theorem wg_13 : wsL_law_r13.all goodWord = true := by decide +kernel
theorem wg_14 : wsL_law_r14.all goodWord = true := by decide +kernel
theorem wg_15 : wsL_law_r15.all goodWord = true := by decide +kernel
theorem wg_16 : wsL_law_r16.all goodWord = true := by decide +kernel
theorem wg_17 : wsL_law_r17.all goodWord = true := by decide +kernel
theorem wg_18 : wsL_law_r18.all goodWord = true := by decide +kernel
theorem wg_19 : wsL_law_r19.all goodWord = true := by decide +kernel
theorem wg_20 : wsL_law_r20.all goodWord = true := by decide +kernel
theorem wg_21 : wsL_law_r21.all goodWord = true := by decide +kernel
theorem wg_22 : wsL_law_r22.all goodWord = true := by decide +kernel
theorem wg_23 : wsL_law_r23.all goodWord = true := by decide +kernel
theorem wg_24 : wsL_law_r24.all goodWord = true := by decide +kernel
theorem wg_25 : wsL_law_r25.all goodWord = true := by decide +kernel
theorem wg_26 : wsL_law_r26.all goodWord = true := by decide +kernel
theorem wg_27 : wsL_law_r27.all goodWord = true := by decide +kernel
theorem wg_28 : wsL_law_r28.all goodWord = true := by decide +kernel
theorem wg_29 : wsL_law_r29.all goodWord = true := by decide +kernel
theorem wgX5 : wsX50.all goodWord = true := by decide +kernel
theorem wgX6 : wsX60.all goodWord = true := by decide +kernel
theorem wgX3 : wsX30.all goodWord = true := by decide +kernel
theorem wgX4 : wsX40.all goodWord = true := by decide +kernel
theorem wgX2 : wsX20.all goodWord = true := by decide +kernel
theorem wgX1 : wsX10.all goodWord = true := by decide +kernel
theorem wgX0 : wsX00.all goodWord = true := by decide +kernel
theorem wA_good : wA.all goodWord = true := by simp only [wA, wsL_law, List.all_append, List.all_nil, Bool.and_true, Bool.true_and, wg_1, wg_2, wg_3, wg_4, wg_5, wg_6, wg_7, wg_8, wg_9, wg_10, wg_11, wg_12, wg_13, wg_14, wg_15, wg_16, wg_17, wg_18, wg_19, wg_20, wg_21, wg_22, wg_23, wg_24, wg_25, wg_26, wg_27, wg_28, wg_29, wgX5, wgX6, wgX3, wgX4, wgX2, wgX1, wgX0]
set_option maxRecDepth 20000 in
theorem qw_0 : Cond.classLink RL 7 RX5 ∈ wA := List.mem_of_getElem? (i := 0) rfl
set_option maxRecDepth 20000 in
theorem qw_1 : Cond.instantiable RX5 7 ∈ wA := List.mem_of_getElem? (i := 1) rfl
set_option maxRecDepth 20000 in
theorem qw_2 : Cond.initialized RX5 ∈ wA := List.mem_of_getElem? (i := 2) rfl
set_option maxRecDepth 20000 in
theorem qw_3 : Cond.classLink RL 10 RX6 ∈ wA := List.mem_of_getElem? (i := 3) rfl
set_option maxRecDepth 20000 in
theorem qw_4 : Cond.instantiable RX6 19 ∈ wA := List.mem_of_getElem? (i := 4) rfl
set_option maxRecDepth 20000 in
theorem qw_5 : Cond.initialized RX6 ∈ wA := List.mem_of_getElem? (i := 5) rfl
set_option maxRecDepth 20000 in
theorem qw_6 : Cond.methodLink RL 9 yX5_init ∈ wA := List.mem_of_getElem? (i := 6) rfl
set_option maxRecDepth 20000 in
theorem qw_7 : Cond.instanceMethod yX5_init ∈ wA := List.mem_of_getElem? (i := 7) rfl
set_option maxRecDepth 20000 in
theorem qw_8 : Cond.code yX5_init cX5_init 2 none ∈ wA := List.mem_of_getElem? (i := 8) rfl
set_option maxRecDepth 20000 in
theorem qw_9 : Cond.methodLink RX5 1 objectInit ∈ wA := List.mem_of_getElem? (i := 9) rfl
set_option maxRecDepth 20000 in
theorem qw_10 : Cond.instanceMethod objectInit ∈ wA := List.mem_of_getElem? (i := 10) rfl
set_option maxRecDepth 20000 in
theorem qw_11 : Cond.code objectInit ⟨#[0xb1]⟩ 1 none ∈ wA := List.mem_of_getElem? (i := 11) rfl
set_option maxRecDepth 20000 in
theorem qw_12 : Cond.classLink RX5 7 RX3 ∈ wA := List.mem_of_getElem? (i := 12) rfl
set_option maxRecDepth 20000 in
theorem qw_13 : Cond.instantiable RX3 5 ∈ wA := List.mem_of_getElem? (i := 13) rfl
set_option maxRecDepth 20000 in
theorem qw_14 : Cond.initialized RX3 ∈ wA := List.mem_of_getElem? (i := 14) rfl
set_option maxRecDepth 20000 in
theorem qw_15 : Cond.fieldLink RX5 10 "SeamPictures" "picture" "LSeamPictures$Picture;" ∈ wA := List.mem_of_getElem? (i := 15) rfl
set_option maxRecDepth 20000 in
theorem qw_16 : Cond.classLink RX5 16 RX4 ∈ wA := List.mem_of_getElem? (i := 16) rfl
set_option maxRecDepth 20000 in
theorem qw_17 : Cond.instantiable RX4 5 ∈ wA := List.mem_of_getElem? (i := 17) rfl
set_option maxRecDepth 20000 in
theorem qw_18 : Cond.initialized RX4 ∈ wA := List.mem_of_getElem? (i := 18) rfl
set_option maxRecDepth 20000 in
theorem qw_19 : Cond.fieldLink RX5 19 "SeamPictures" "found" "LSeamPictures$Seam;" ∈ wA := List.mem_of_getElem? (i := 19) rfl
set_option maxRecDepth 20000 in
theorem qw_20 : Cond.classLink RX5 23 RX2 ∈ wA := List.mem_of_getElem? (i := 20) rfl
set_option maxRecDepth 20000 in
theorem qw_21 : Cond.instantiable RX2 2 ∈ wA := List.mem_of_getElem? (i := 21) rfl
set_option maxRecDepth 20000 in
theorem qw_22 : Cond.initialized RX2 ∈ wA := List.mem_of_getElem? (i := 22) rfl
set_option maxRecDepth 20000 in
theorem qw_23 : Cond.fieldLink RX5 26 "SeamPictures" "pad" "LSeamPictures$Pad;" ∈ wA := List.mem_of_getElem? (i := 23) rfl
set_option maxRecDepth 20000 in
theorem qw_24 : Cond.classLink RX5 30 RX1 ∈ wA := List.mem_of_getElem? (i := 24) rfl
set_option maxRecDepth 20000 in
theorem qw_25 : Cond.instantiable RX1 6 ∈ wA := List.mem_of_getElem? (i := 25) rfl
set_option maxRecDepth 20000 in
theorem qw_26 : Cond.initialized RX1 ∈ wA := List.mem_of_getElem? (i := 26) rfl
set_option maxRecDepth 20000 in
theorem qw_27 : Cond.fieldLink RX5 33 "SeamPictures" "search" "LSeamPictures$OrderSearch;" ∈ wA := List.mem_of_getElem? (i := 27) rfl
set_option maxRecDepth 20000 in
theorem qw_28 : Cond.classLink RX5 37 RX0 ∈ wA := List.mem_of_getElem? (i := 28) rfl
set_option maxRecDepth 20000 in
theorem qw_29 : Cond.instantiable RX0 4 ∈ wA := List.mem_of_getElem? (i := 29) rfl
set_option maxRecDepth 20000 in
theorem qw_30 : Cond.initialized RX0 ∈ wA := List.mem_of_getElem? (i := 30) rfl
set_option maxRecDepth 20000 in
theorem qw_31 : Cond.fieldLink RX5 40 "SeamPictures" "costTable" "LSeamPictures$CostTable;" ∈ wA := List.mem_of_getElem? (i := 31) rfl
set_option maxRecDepth 20000 in
theorem qw_32 : Cond.fieldLink RX5 44 "SeamPictures" "images" "[LSeamPictures$Picture;" ∈ wA := List.mem_of_getElem? (i := 32) rfl
set_option maxRecDepth 20000 in
theorem qw_33 : Cond.arrayClass .boolean ∈ wA := List.mem_of_getElem? (i := 33) rfl
set_option maxRecDepth 20000 in
theorem qw_34 : Cond.fieldLink RX5 48 "SeamPictures" "imageKept" "[Z" ∈ wA := List.mem_of_getElem? (i := 34) rfl
set_option maxRecDepth 20000 in
theorem qw_35 : Cond.methodLink RX5 9 yX3_init ∈ wA := List.mem_of_getElem? (i := 35) rfl
set_option maxRecDepth 20000 in
theorem qw_36 : Cond.instanceMethod yX3_init ∈ wA := List.mem_of_getElem? (i := 36) rfl
set_option maxRecDepth 20000 in
theorem qw_37 : Cond.code yX3_init cX3_init 1 none ∈ wA := List.mem_of_getElem? (i := 37) rfl
set_option maxRecDepth 20000 in
theorem qw_38 : Cond.methodLink RX3 3 objectInit ∈ wA := List.mem_of_getElem? (i := 38) rfl
set_option maxRecDepth 20000 in
theorem qw_39 : Cond.fieldLink RX3 9 "SeamPictures$Picture" "wide" "I" ∈ wA := List.mem_of_getElem? (i := 39) rfl
set_option maxRecDepth 20000 in
theorem qw_40 : Cond.fieldLink RX3 15 "SeamPictures$Picture" "high" "I" ∈ wA := List.mem_of_getElem? (i := 40) rfl
set_option maxRecDepth 20000 in
theorem qw_41 : Cond.arrayClass .int ∈ wA := List.mem_of_getElem? (i := 41) rfl
set_option maxRecDepth 20000 in
theorem qw_42 : Cond.fieldLink RX3 18 "SeamPictures$Picture" "greys" "[I" ∈ wA := List.mem_of_getElem? (i := 42) rfl
set_option maxRecDepth 20000 in
theorem qw_43 : Cond.fieldLink RX3 22 "SeamPictures$Picture" "marks" "[I" ∈ wA := List.mem_of_getElem? (i := 43) rfl
set_option maxRecDepth 20000 in
theorem qw_44 : Cond.methodLink RX5 18 yX4_init ∈ wA := List.mem_of_getElem? (i := 44) rfl
set_option maxRecDepth 20000 in
theorem qw_45 : Cond.instanceMethod yX4_init ∈ wA := List.mem_of_getElem? (i := 45) rfl
set_option maxRecDepth 20000 in
theorem qw_46 : Cond.code yX4_init cX4_init 1 none ∈ wA := List.mem_of_getElem? (i := 46) rfl
set_option maxRecDepth 20000 in
theorem qw_47 : Cond.methodLink RX4 3 objectInit ∈ wA := List.mem_of_getElem? (i := 47) rfl
set_option maxRecDepth 20000 in
theorem qw_48 : Cond.fieldLink RX4 9 "SeamPictures$Seam" "places" "[I" ∈ wA := List.mem_of_getElem? (i := 48) rfl
set_option maxRecDepth 20000 in
theorem qw_49 : Cond.fieldLink RX4 15 "SeamPictures$Seam" "costToEnd" "[I" ∈ wA := List.mem_of_getElem? (i := 49) rfl
set_option maxRecDepth 20000 in
theorem qw_50 : Cond.fieldLink RX4 18 "SeamPictures$Seam" "goesOnAt" "[I" ∈ wA := List.mem_of_getElem? (i := 50) rfl
set_option maxRecDepth 20000 in
theorem qw_51 : Cond.methodLink RX5 25 yX2_init ∈ wA := List.mem_of_getElem? (i := 51) rfl
set_option maxRecDepth 20000 in
theorem qw_52 : Cond.instanceMethod yX2_init ∈ wA := List.mem_of_getElem? (i := 52) rfl
set_option maxRecDepth 20000 in
theorem qw_53 : Cond.code yX2_init cX2_init 1 none ∈ wA := List.mem_of_getElem? (i := 53) rfl
set_option maxRecDepth 20000 in
theorem qw_54 : Cond.methodLink RX2 3 objectInit ∈ wA := List.mem_of_getElem? (i := 54) rfl
set_option maxRecDepth 20000 in
theorem qw_55 : Cond.fieldLink RX2 11 "SeamPictures$Pad" "signs" "[I" ∈ wA := List.mem_of_getElem? (i := 55) rfl
set_option maxRecDepth 20000 in
theorem qw_56 : Cond.methodLink RX5 32 yX1_init ∈ wA := List.mem_of_getElem? (i := 56) rfl
set_option maxRecDepth 20000 in
theorem qw_57 : Cond.instanceMethod yX1_init ∈ wA := List.mem_of_getElem? (i := 57) rfl
set_option maxRecDepth 20000 in
theorem qw_58 : Cond.code yX1_init cX1_init 2 none ∈ wA := List.mem_of_getElem? (i := 58) rfl
set_option maxRecDepth 20000 in
theorem qw_59 : Cond.methodLink RX1 3 objectInit ∈ wA := List.mem_of_getElem? (i := 59) rfl
set_option maxRecDepth 20000 in
theorem qw_60 : Cond.classLink RX1 9 RX3 ∈ wA := List.mem_of_getElem? (i := 60) rfl
set_option maxRecDepth 20000 in
theorem qw_61 : Cond.fieldLink RX1 11 "SeamPictures$OrderSearch" "stages" "[LSeamPictures$Picture;" ∈ wA := List.mem_of_getElem? (i := 61) rfl
set_option maxRecDepth 20000 in
theorem qw_62 : Cond.classLink RX1 18 RX4 ∈ wA := List.mem_of_getElem? (i := 62) rfl
set_option maxRecDepth 20000 in
theorem qw_63 : Cond.fieldLink RX1 21 "SeamPictures$OrderSearch" "seam" "LSeamPictures$Seam;" ∈ wA := List.mem_of_getElem? (i := 63) rfl
set_option maxRecDepth 20000 in
theorem qw_64 : Cond.methodLink RX1 17 yX3_init ∈ wA := List.mem_of_getElem? (i := 64) rfl
set_option maxRecDepth 20000 in
theorem qw_65 : Cond.methodLink RX1 20 yX4_init ∈ wA := List.mem_of_getElem? (i := 65) rfl
set_option maxRecDepth 20000 in
theorem qw_66 : Cond.methodLink RX5 39 yX0_init ∈ wA := List.mem_of_getElem? (i := 66) rfl
set_option maxRecDepth 20000 in
theorem qw_67 : Cond.instanceMethod yX0_init ∈ wA := List.mem_of_getElem? (i := 67) rfl
set_option maxRecDepth 20000 in
theorem qw_68 : Cond.code yX0_init cX0_init 2 none ∈ wA := List.mem_of_getElem? (i := 68) rfl
set_option maxRecDepth 20000 in
theorem qw_69 : Cond.methodLink RX0 3 objectInit ∈ wA := List.mem_of_getElem? (i := 69) rfl
set_option maxRecDepth 20000 in
theorem qw_70 : Cond.classLink RX0 9 RX3 ∈ wA := List.mem_of_getElem? (i := 70) rfl
set_option maxRecDepth 20000 in
theorem qw_71 : Cond.fieldLink RX0 11 "SeamPictures$CostTable" "row" "[LSeamPictures$Picture;" ∈ wA := List.mem_of_getElem? (i := 71) rfl
set_option maxRecDepth 20000 in
theorem qw_72 : Cond.fieldLink RX0 18 "SeamPictures$CostTable" "costs" "[I" ∈ wA := List.mem_of_getElem? (i := 72) rfl
set_option maxRecDepth 20000 in
theorem qw_73 : Cond.classLink RX0 22 RX4 ∈ wA := List.mem_of_getElem? (i := 73) rfl
set_option maxRecDepth 20000 in
theorem qw_74 : Cond.fieldLink RX0 25 "SeamPictures$CostTable" "upright" "LSeamPictures$Seam;" ∈ wA := List.mem_of_getElem? (i := 74) rfl
set_option maxRecDepth 20000 in
theorem qw_75 : Cond.fieldLink RX0 29 "SeamPictures$CostTable" "lying" "LSeamPictures$Seam;" ∈ wA := List.mem_of_getElem? (i := 75) rfl
set_option maxRecDepth 20000 in
theorem qw_76 : Cond.methodLink RX0 17 yX3_init ∈ wA := List.mem_of_getElem? (i := 76) rfl
set_option maxRecDepth 20000 in
theorem qw_77 : Cond.methodLink RX0 24 yX4_init ∈ wA := List.mem_of_getElem? (i := 77) rfl
set_option maxRecDepth 20000 in
theorem qw_78 : Cond.methodLink RL 12 yX6_init ∈ wA := List.mem_of_getElem? (i := 78) rfl
set_option maxRecDepth 20000 in
theorem qw_79 : Cond.instanceMethod yX6_init ∈ wA := List.mem_of_getElem? (i := 79) rfl
set_option maxRecDepth 20000 in
theorem qw_80 : Cond.code yX6_init cX6_init 1 none ∈ wA := List.mem_of_getElem? (i := 80) rfl
set_option maxRecDepth 20000 in
theorem qw_81 : Cond.methodLink RX6 1 objectInit ∈ wA := List.mem_of_getElem? (i := 81) rfl
set_option maxRecDepth 20000 in
theorem qw_82 : Cond.fieldLink RX6 7 "SeamPicturesModel" "state" "[I" ∈ wA := List.mem_of_getElem? (i := 82) rfl
set_option maxRecDepth 20000 in
theorem qw_83 : Cond.fieldLink RX6 13 "SeamPicturesModel" "images" "[I" ∈ wA := List.mem_of_getElem? (i := 83) rfl
set_option maxRecDepth 20000 in
theorem qw_84 : Cond.fieldLink RX6 16 "SeamPicturesModel" "isKept" "[Z" ∈ wA := List.mem_of_getElem? (i := 84) rfl
set_option maxRecDepth 20000 in
theorem qw_85 : Cond.fieldLink RX6 20 "SeamPicturesModel" "pad" "[I" ∈ wA := List.mem_of_getElem? (i := 85) rfl
set_option maxRecDepth 20000 in
theorem qw_86 : Cond.fieldLink RX6 23 "SeamPicturesModel" "grey" "[I" ∈ wA := List.mem_of_getElem? (i := 86) rfl
set_option maxRecDepth 20000 in
theorem qw_87 : Cond.fieldLink RX6 26 "SeamPicturesModel" "mark" "[I" ∈ wA := List.mem_of_getElem? (i := 87) rfl
set_option maxRecDepth 20000 in
theorem qw_88 : Cond.fieldLink RX6 29 "SeamPicturesModel" "rest" "[I" ∈ wA := List.mem_of_getElem? (i := 88) rfl
set_option maxRecDepth 20000 in
theorem qw_89 : Cond.fieldLink RX6 32 "SeamPicturesModel" "seam" "[I" ∈ wA := List.mem_of_getElem? (i := 89) rfl
set_option maxRecDepth 20000 in
theorem qw_90 : Cond.fieldLink RX6 35 "SeamPicturesModel" "table" "[I" ∈ wA := List.mem_of_getElem? (i := 90) rfl
set_option maxRecDepth 20000 in
theorem qw_91 : Cond.fieldLink RX6 38 "SeamPicturesModel" "tableCost" "[I" ∈ wA := List.mem_of_getElem? (i := 91) rfl
set_option maxRecDepth 20000 in
theorem qw_92 : Cond.methodLink RL 13 yX5_size ∈ wA := List.mem_of_getElem? (i := 92) rfl
set_option maxRecDepth 20000 in
theorem qw_93 : Cond.instanceMethod yX5_size ∈ wA := List.mem_of_getElem? (i := 93) rfl
set_option maxRecDepth 20000 in
theorem qw_94 : Cond.selects RX5 yX5_size yX5_size ∈ wA := List.mem_of_getElem? (i := 94) rfl
set_option maxRecDepth 20000 in
theorem qw_95 : Cond.code yX5_size cX5_size 4 (some .int) ∈ wA := List.mem_of_getElem? (i := 95) rfl
set_option maxRecDepth 20000 in
theorem qw_96 : Cond.fieldLink RX5 56 "SeamPictures$Picture" "wide" "I" ∈ wA := List.mem_of_getElem? (i := 96) rfl
set_option maxRecDepth 20000 in
theorem qw_97 : Cond.fieldLink RX5 60 "SeamPictures$Picture" "high" "I" ∈ wA := List.mem_of_getElem? (i := 97) rfl
set_option maxRecDepth 20000 in
theorem qw_98 : Cond.methodLink RX5 52 yX5_isSide ∈ wA := List.mem_of_getElem? (i := 98) rfl
set_option maxRecDepth 20000 in
theorem qw_99 : Cond.static yX5_isSide ∈ wA := List.mem_of_getElem? (i := 99) rfl
set_option maxRecDepth 20000 in
theorem qw_100 : Cond.code yX5_isSide cX5_isSide 1 (some .boolean) ∈ wA := List.mem_of_getElem? (i := 100) rfl
set_option maxRecDepth 20000 in
theorem qw_101 : Cond.methodLink RX5 63 yX3_blank ∈ wA := List.mem_of_getElem? (i := 101) rfl
set_option maxRecDepth 20000 in
theorem qw_102 : Cond.instanceMethod yX3_blank ∈ wA := List.mem_of_getElem? (i := 102) rfl
set_option maxRecDepth 20000 in
theorem qw_103 : Cond.selects RX3 yX3_blank yX3_blank ∈ wA := List.mem_of_getElem? (i := 103) rfl
set_option maxRecDepth 20000 in
theorem qw_104 : Cond.code yX3_blank cX3_blank 4 none ∈ wA := List.mem_of_getElem? (i := 104) rfl
set_option maxRecDepth 20000 in
theorem qw_105 : Cond.methodLink RL 17 yX6_size_ ∈ wA := List.mem_of_getElem? (i := 105) rfl
set_option maxRecDepth 20000 in
theorem qw_106 : Cond.instanceMethod yX6_size_ ∈ wA := List.mem_of_getElem? (i := 106) rfl
set_option maxRecDepth 20000 in
theorem qw_107 : Cond.selects RX6 yX6_size_ yX6_size_ ∈ wA := List.mem_of_getElem? (i := 107) rfl
set_option maxRecDepth 20000 in
theorem qw_108 : Cond.code yX6_size_ cX6_size_ 5 (some .int) ∈ wA := List.mem_of_getElem? (i := 108) rfl
set_option maxRecDepth 20000 in
theorem qw_109 : Cond.methodLink RX6 41 yX6_in ∈ wA := List.mem_of_getElem? (i := 109) rfl
set_option maxRecDepth 20000 in
theorem qw_110 : Cond.static yX6_in ∈ wA := List.mem_of_getElem? (i := 110) rfl
set_option maxRecDepth 20000 in
theorem qw_111 : Cond.code yX6_in cX6_in 3 (some .boolean) ∈ wA := List.mem_of_getElem? (i := 111) rfl
set_option maxRecDepth 20000 in
theorem qw_112 : Cond.methodLink RL 18 yX5_grey ∈ wA := List.mem_of_getElem? (i := 112) rfl
set_option maxRecDepth 20000 in
theorem qw_113 : Cond.instanceMethod yX5_grey ∈ wA := List.mem_of_getElem? (i := 113) rfl
set_option maxRecDepth 20000 in
theorem qw_114 : Cond.selects RX5 yX5_grey yX5_grey ∈ wA := List.mem_of_getElem? (i := 114) rfl
set_option maxRecDepth 20000 in
theorem qw_115 : Cond.code yX5_grey cX5_grey 4 (some .int) ∈ wA := List.mem_of_getElem? (i := 115) rfl
set_option maxRecDepth 20000 in
theorem qw_116 : Cond.methodLink RX5 67 yX3_hasDot ∈ wA := List.mem_of_getElem? (i := 116) rfl
set_option maxRecDepth 20000 in
theorem qw_117 : Cond.instanceMethod yX3_hasDot ∈ wA := List.mem_of_getElem? (i := 117) rfl
set_option maxRecDepth 20000 in
theorem qw_118 : Cond.selects RX3 yX3_hasDot yX3_hasDot ∈ wA := List.mem_of_getElem? (i := 118) rfl
set_option maxRecDepth 20000 in
theorem qw_119 : Cond.code yX3_hasDot cX3_hasDot 3 (some .boolean) ∈ wA := List.mem_of_getElem? (i := 119) rfl
set_option maxRecDepth 20000 in
theorem qw_120 : Cond.methodLink RX5 71 yX3_changeGrey ∈ wA := List.mem_of_getElem? (i := 120) rfl
set_option maxRecDepth 20000 in
theorem qw_121 : Cond.instanceMethod yX3_changeGrey ∈ wA := List.mem_of_getElem? (i := 121) rfl
set_option maxRecDepth 20000 in
theorem qw_122 : Cond.selects RX3 yX3_changeGrey yX3_changeGrey ∈ wA := List.mem_of_getElem? (i := 122) rfl
set_option maxRecDepth 20000 in
theorem qw_123 : Cond.code yX3_changeGrey cX3_changeGrey 6 (some .int) ∈ wA := List.mem_of_getElem? (i := 123) rfl
set_option maxRecDepth 20000 in
theorem qw_124 : Cond.methodLink RX3 28 yX3_index ∈ wA := List.mem_of_getElem? (i := 124) rfl
set_option maxRecDepth 20000 in
theorem qw_125 : Cond.static yX3_index ∈ wA := List.mem_of_getElem? (i := 125) rfl
set_option maxRecDepth 20000 in
theorem qw_126 : Cond.code yX3_index cX3_index 3 (some .int) ∈ wA := List.mem_of_getElem? (i := 126) rfl
set_option maxRecDepth 20000 in
theorem qw_127 : Cond.methodLink RL 22 yX6_grey ∈ wA := List.mem_of_getElem? (i := 127) rfl
set_option maxRecDepth 20000 in
theorem qw_128 : Cond.instanceMethod yX6_grey ∈ wA := List.mem_of_getElem? (i := 128) rfl
set_option maxRecDepth 20000 in
theorem qw_129 : Cond.selects RX6 yX6_grey yX6_grey ∈ wA := List.mem_of_getElem? (i := 129) rfl
set_option maxRecDepth 20000 in
theorem qw_130 : Cond.code yX6_grey cX6_grey 5 (some .int) ∈ wA := List.mem_of_getElem? (i := 130) rfl
set_option maxRecDepth 20000 in
theorem qw_131 : Cond.methodLink RX6 120 yX6_isDot ∈ wA := List.mem_of_getElem? (i := 131) rfl
set_option maxRecDepth 20000 in
theorem qw_132 : Cond.instanceMethod yX6_isDot ∈ wA := List.mem_of_getElem? (i := 132) rfl
set_option maxRecDepth 20000 in
theorem qw_133 : Cond.selects RX6 yX6_isDot yX6_isDot ∈ wA := List.mem_of_getElem? (i := 133) rfl
set_option maxRecDepth 20000 in
theorem qw_134 : Cond.code yX6_isDot cX6_isDot 3 (some .boolean) ∈ wA := List.mem_of_getElem? (i := 134) rfl
set_option maxRecDepth 20000 in
theorem qw_135 : Cond.methodLink RX6 52 yX6_at ∈ wA := List.mem_of_getElem? (i := 135) rfl
set_option maxRecDepth 20000 in
theorem qw_136 : Cond.static yX6_at ∈ wA := List.mem_of_getElem? (i := 136) rfl
set_option maxRecDepth 20000 in
theorem qw_137 : Cond.code yX6_at cX6_at 2 (some .int) ∈ wA := List.mem_of_getElem? (i := 137) rfl
set_option maxRecDepth 20000 in
theorem qw_138 : Cond.methodLink RL 23 yX5_mark ∈ wA := List.mem_of_getElem? (i := 138) rfl
set_option maxRecDepth 20000 in
theorem qw_139 : Cond.instanceMethod yX5_mark ∈ wA := List.mem_of_getElem? (i := 139) rfl
set_option maxRecDepth 20000 in
theorem qw_140 : Cond.selects RX5 yX5_mark yX5_mark ∈ wA := List.mem_of_getElem? (i := 140) rfl
set_option maxRecDepth 20000 in
theorem qw_141 : Cond.code yX5_mark cX5_mark 4 (some .int) ∈ wA := List.mem_of_getElem? (i := 141) rfl
set_option maxRecDepth 20000 in
theorem qw_142 : Cond.methodLink RX5 75 yX3_changeMark ∈ wA := List.mem_of_getElem? (i := 142) rfl
set_option maxRecDepth 20000 in
theorem qw_143 : Cond.instanceMethod yX3_changeMark ∈ wA := List.mem_of_getElem? (i := 143) rfl
set_option maxRecDepth 20000 in
theorem qw_144 : Cond.selects RX3 yX3_changeMark yX3_changeMark ∈ wA := List.mem_of_getElem? (i := 144) rfl
set_option maxRecDepth 20000 in
theorem qw_145 : Cond.code yX3_changeMark cX3_changeMark 6 (some .int) ∈ wA := List.mem_of_getElem? (i := 145) rfl
set_option maxRecDepth 20000 in
theorem qw_146 : Cond.methodLink RL 26 yX6_mark ∈ wA := List.mem_of_getElem? (i := 146) rfl
set_option maxRecDepth 20000 in
theorem qw_147 : Cond.instanceMethod yX6_mark ∈ wA := List.mem_of_getElem? (i := 147) rfl
set_option maxRecDepth 20000 in
theorem qw_148 : Cond.selects RX6 yX6_mark yX6_mark ∈ wA := List.mem_of_getElem? (i := 148) rfl
set_option maxRecDepth 20000 in
theorem qw_149 : Cond.code yX6_mark cX6_mark 5 (some .int) ∈ wA := List.mem_of_getElem? (i := 149) rfl
set_option maxRecDepth 20000 in
theorem qw_150 : Cond.methodLink RL 27 yX5_rule ∈ wA := List.mem_of_getElem? (i := 150) rfl
set_option maxRecDepth 20000 in
theorem qw_151 : Cond.instanceMethod yX5_rule ∈ wA := List.mem_of_getElem? (i := 151) rfl
set_option maxRecDepth 20000 in
theorem qw_152 : Cond.selects RX5 yX5_rule yX5_rule ∈ wA := List.mem_of_getElem? (i := 152) rfl
set_option maxRecDepth 20000 in
theorem qw_153 : Cond.code yX5_rule cX5_rule 3 (some .int) ∈ wA := List.mem_of_getElem? (i := 153) rfl
set_option maxRecDepth 20000 in
theorem qw_154 : Cond.fieldLink RX5 81 "SeamPictures$Picture" "law" "I" ∈ wA := List.mem_of_getElem? (i := 154) rfl
set_option maxRecDepth 20000 in
theorem qw_155 : Cond.methodLink RX5 78 yX5_isBit ∈ wA := List.mem_of_getElem? (i := 155) rfl
set_option maxRecDepth 20000 in
theorem qw_156 : Cond.static yX5_isBit ∈ wA := List.mem_of_getElem? (i := 156) rfl
set_option maxRecDepth 20000 in
theorem qw_157 : Cond.code yX5_isBit cX5_isBit 1 (some .boolean) ∈ wA := List.mem_of_getElem? (i := 157) rfl
set_option maxRecDepth 20000 in
theorem qw_158 : Cond.methodLink RL 31 yX6_rule ∈ wA := List.mem_of_getElem? (i := 158) rfl
set_option maxRecDepth 20000 in
theorem qw_159 : Cond.instanceMethod yX6_rule ∈ wA := List.mem_of_getElem? (i := 159) rfl
set_option maxRecDepth 20000 in
theorem qw_160 : Cond.selects RX6 yX6_rule yX6_rule ∈ wA := List.mem_of_getElem? (i := 160) rfl
set_option maxRecDepth 20000 in
theorem qw_161 : Cond.code yX6_rule cX6_rule 3 (some .int) ∈ wA := List.mem_of_getElem? (i := 161) rfl
set_option maxRecDepth 20000 in
theorem qw_162 : Cond.methodLink RL 32 yX5_dot ∈ wA := List.mem_of_getElem? (i := 162) rfl
set_option maxRecDepth 20000 in
theorem qw_163 : Cond.instanceMethod yX5_dot ∈ wA := List.mem_of_getElem? (i := 163) rfl
set_option maxRecDepth 20000 in
theorem qw_164 : Cond.selects RX5 yX5_dot yX5_dot ∈ wA := List.mem_of_getElem? (i := 164) rfl
set_option maxRecDepth 20000 in
theorem qw_165 : Cond.code yX5_dot cX5_dot 4 (some .int) ∈ wA := List.mem_of_getElem? (i := 165) rfl
set_option maxRecDepth 20000 in
theorem qw_166 : Cond.methodLink RX5 84 yX3_greyAt ∈ wA := List.mem_of_getElem? (i := 166) rfl
set_option maxRecDepth 20000 in
theorem qw_167 : Cond.instanceMethod yX3_greyAt ∈ wA := List.mem_of_getElem? (i := 167) rfl
set_option maxRecDepth 20000 in
theorem qw_168 : Cond.selects RX3 yX3_greyAt yX3_greyAt ∈ wA := List.mem_of_getElem? (i := 168) rfl
set_option maxRecDepth 20000 in
theorem qw_169 : Cond.code yX3_greyAt cX3_greyAt 4 (some .int) ∈ wA := List.mem_of_getElem? (i := 169) rfl
set_option maxRecDepth 20000 in
theorem qw_170 : Cond.methodLink RX5 87 yX3_markAt ∈ wA := List.mem_of_getElem? (i := 170) rfl
set_option maxRecDepth 20000 in
theorem qw_171 : Cond.instanceMethod yX3_markAt ∈ wA := List.mem_of_getElem? (i := 171) rfl
set_option maxRecDepth 20000 in
theorem qw_172 : Cond.selects RX3 yX3_markAt yX3_markAt ∈ wA := List.mem_of_getElem? (i := 172) rfl
set_option maxRecDepth 20000 in
theorem qw_173 : Cond.code yX3_markAt cX3_markAt 4 (some .int) ∈ wA := List.mem_of_getElem? (i := 173) rfl
set_option maxRecDepth 20000 in
theorem qw_174 : Cond.methodLink RX5 90 yX3_edgeAt ∈ wA := List.mem_of_getElem? (i := 174) rfl
set_option maxRecDepth 20000 in
theorem qw_175 : Cond.instanceMethod yX3_edgeAt ∈ wA := List.mem_of_getElem? (i := 175) rfl
set_option maxRecDepth 20000 in
theorem qw_176 : Cond.selects RX3 yX3_edgeAt yX3_edgeAt ∈ wA := List.mem_of_getElem? (i := 176) rfl
set_option maxRecDepth 20000 in
theorem qw_177 : Cond.code yX3_edgeAt cX3_edgeAt 3 (some .int) ∈ wA := List.mem_of_getElem? (i := 177) rfl
set_option maxRecDepth 20000 in
theorem qw_178 : Cond.methodLink RX3 48 yX3_gapAt ∈ wA := List.mem_of_getElem? (i := 178) rfl
set_option maxRecDepth 20000 in
theorem qw_179 : Cond.instanceMethod yX3_gapAt ∈ wA := List.mem_of_getElem? (i := 179) rfl
set_option maxRecDepth 20000 in
theorem qw_180 : Cond.selects RX3 yX3_gapAt yX3_gapAt ∈ wA := List.mem_of_getElem? (i := 180) rfl
set_option maxRecDepth 20000 in
theorem qw_181 : Cond.code yX3_gapAt cX3_gapAt 6 (some .int) ∈ wA := List.mem_of_getElem? (i := 181) rfl
set_option maxRecDepth 20000 in
theorem qw_182 : Cond.methodLink RX3 32 Lib.Math.max.name ∈ wA := List.mem_of_getElem? (i := 182) rfl
set_option maxRecDepth 20000 in
theorem qw_183 : Cond.static Lib.Math.max.name ∈ wA := List.mem_of_getElem? (i := 183) rfl
set_option maxRecDepth 20000 in
theorem qw_184 : Cond.initialized "java/lang/Math" ∈ wA := List.mem_of_getElem? (i := 184) rfl
set_option maxRecDepth 20000 in
theorem qw_185 : Cond.code Lib.Math.max.name Lib.Math.max.code 2 (some .int) ∈ wA := List.mem_of_getElem? (i := 185) rfl
set_option maxRecDepth 20000 in
theorem qw_186 : Cond.methodLink RX3 42 Lib.Math.min.name ∈ wA := List.mem_of_getElem? (i := 186) rfl
set_option maxRecDepth 20000 in
theorem qw_187 : Cond.static Lib.Math.min.name ∈ wA := List.mem_of_getElem? (i := 187) rfl
set_option maxRecDepth 20000 in
theorem qw_188 : Cond.code Lib.Math.min.name Lib.Math.min.code 2 (some .int) ∈ wA := List.mem_of_getElem? (i := 188) rfl
set_option maxRecDepth 20000 in
theorem qw_189 : Cond.methodLink RX3 45 Lib.Math.abs.name ∈ wA := List.mem_of_getElem? (i := 189) rfl
set_option maxRecDepth 20000 in
theorem qw_190 : Cond.static Lib.Math.abs.name ∈ wA := List.mem_of_getElem? (i := 190) rfl
set_option maxRecDepth 20000 in
theorem qw_191 : Cond.code Lib.Math.abs.name Lib.Math.abs.code 1 (some .int) ∈ wA := List.mem_of_getElem? (i := 191) rfl
set_option maxRecDepth 20000 in
theorem qw_192 : Cond.methodLink RX3 38 yX3_breadth ∈ wA := List.mem_of_getElem? (i := 192) rfl
set_option maxRecDepth 20000 in
theorem qw_193 : Cond.instanceMethod yX3_breadth ∈ wA := List.mem_of_getElem? (i := 193) rfl
set_option maxRecDepth 20000 in
theorem qw_194 : Cond.selects RX3 yX3_breadth yX3_breadth ∈ wA := List.mem_of_getElem? (i := 194) rfl
set_option maxRecDepth 20000 in
theorem qw_195 : Cond.code yX3_breadth cX3_breadth 2 (some .int) ∈ wA := List.mem_of_getElem? (i := 195) rfl
set_option maxRecDepth 20000 in
theorem qw_196 : Cond.methodLink RX5 94 yX3_weightAt ∈ wA := List.mem_of_getElem? (i := 196) rfl
set_option maxRecDepth 20000 in
theorem qw_197 : Cond.instanceMethod yX3_weightAt ∈ wA := List.mem_of_getElem? (i := 197) rfl
set_option maxRecDepth 20000 in
theorem qw_198 : Cond.selects RX3 yX3_weightAt yX3_weightAt ∈ wA := List.mem_of_getElem? (i := 198) rfl
set_option maxRecDepth 20000 in
theorem qw_199 : Cond.code yX3_weightAt cX3_weightAt 3 (some .int) ∈ wA := List.mem_of_getElem? (i := 199) rfl
set_option maxRecDepth 20000 in
theorem qw_200 : Cond.methodLink RX3 51 yX3_edgeAt ∈ wA := List.mem_of_getElem? (i := 200) rfl
set_option maxRecDepth 20000 in
theorem qw_201 : Cond.methodLink RX3 54 yX3_extraAt ∈ wA := List.mem_of_getElem? (i := 201) rfl
set_option maxRecDepth 20000 in
theorem qw_202 : Cond.instanceMethod yX3_extraAt ∈ wA := List.mem_of_getElem? (i := 202) rfl
set_option maxRecDepth 20000 in
theorem qw_203 : Cond.selects RX3 yX3_extraAt yX3_extraAt ∈ wA := List.mem_of_getElem? (i := 203) rfl
set_option maxRecDepth 20000 in
theorem qw_204 : Cond.code yX3_extraAt cX3_extraAt 5 (some .int) ∈ wA := List.mem_of_getElem? (i := 204) rfl
set_option maxRecDepth 20000 in
theorem qw_205 : Cond.methodLink RL 35 yX6_dot ∈ wA := List.mem_of_getElem? (i := 205) rfl
set_option maxRecDepth 20000 in
theorem qw_206 : Cond.instanceMethod yX6_dot ∈ wA := List.mem_of_getElem? (i := 206) rfl
set_option maxRecDepth 20000 in
theorem qw_207 : Cond.selects RX6 yX6_dot yX6_dot ∈ wA := List.mem_of_getElem? (i := 207) rfl
set_option maxRecDepth 20000 in
theorem qw_208 : Cond.code yX6_dot cX6_dot 4 (some .int) ∈ wA := List.mem_of_getElem? (i := 208) rfl
set_option maxRecDepth 20000 in
theorem qw_209 : Cond.methodLink RX6 124 yX6_take ∈ wA := List.mem_of_getElem? (i := 209) rfl
set_option maxRecDepth 20000 in
theorem qw_210 : Cond.instanceMethod yX6_take ∈ wA := List.mem_of_getElem? (i := 210) rfl
set_option maxRecDepth 20000 in
theorem qw_211 : Cond.selects RX6 yX6_take yX6_take ∈ wA := List.mem_of_getElem? (i := 211) rfl
set_option maxRecDepth 20000 in
theorem qw_212 : Cond.code yX6_take cX6_take 2 none ∈ wA := List.mem_of_getElem? (i := 212) rfl
set_option maxRecDepth 20000 in
theorem qw_213 : Cond.fieldLink RX6 45 "SeamPicturesModel" "wide" "I" ∈ wA := List.mem_of_getElem? (i := 213) rfl
set_option maxRecDepth 20000 in
theorem qw_214 : Cond.fieldLink RX6 49 "SeamPicturesModel" "high" "I" ∈ wA := List.mem_of_getElem? (i := 214) rfl
set_option maxRecDepth 20000 in
theorem qw_215 : Cond.methodLink RX6 78 yX6_edge ∈ wA := List.mem_of_getElem? (i := 215) rfl
set_option maxRecDepth 20000 in
theorem qw_216 : Cond.instanceMethod yX6_edge ∈ wA := List.mem_of_getElem? (i := 216) rfl
set_option maxRecDepth 20000 in
theorem qw_217 : Cond.selects RX6 yX6_edge yX6_edge ∈ wA := List.mem_of_getElem? (i := 217) rfl
set_option maxRecDepth 20000 in
theorem qw_218 : Cond.code yX6_edge cX6_edge 3 (some .int) ∈ wA := List.mem_of_getElem? (i := 218) rfl
set_option maxRecDepth 20000 in
theorem qw_219 : Cond.methodLink RX6 69 yX6_across ∈ wA := List.mem_of_getElem? (i := 219) rfl
set_option maxRecDepth 20000 in
theorem qw_220 : Cond.instanceMethod yX6_across ∈ wA := List.mem_of_getElem? (i := 220) rfl
set_option maxRecDepth 20000 in
theorem qw_221 : Cond.selects RX6 yX6_across yX6_across ∈ wA := List.mem_of_getElem? (i := 221) rfl
set_option maxRecDepth 20000 in
theorem qw_222 : Cond.code yX6_across cX6_across 3 (some .int) ∈ wA := List.mem_of_getElem? (i := 222) rfl
set_option maxRecDepth 20000 in
theorem qw_223 : Cond.methodLink RX6 59 yX6_left ∈ wA := List.mem_of_getElem? (i := 223) rfl
set_option maxRecDepth 20000 in
theorem qw_224 : Cond.instanceMethod yX6_left ∈ wA := List.mem_of_getElem? (i := 224) rfl
set_option maxRecDepth 20000 in
theorem qw_225 : Cond.selects RX6 yX6_left yX6_left ∈ wA := List.mem_of_getElem? (i := 225) rfl
set_option maxRecDepth 20000 in
theorem qw_226 : Cond.code yX6_left cX6_left 3 (some .int) ∈ wA := List.mem_of_getElem? (i := 226) rfl
set_option maxRecDepth 20000 in
theorem qw_227 : Cond.methodLink RX6 56 yX6_greyAt ∈ wA := List.mem_of_getElem? (i := 227) rfl
set_option maxRecDepth 20000 in
theorem qw_228 : Cond.instanceMethod yX6_greyAt ∈ wA := List.mem_of_getElem? (i := 228) rfl
set_option maxRecDepth 20000 in
theorem qw_229 : Cond.selects RX6 yX6_greyAt yX6_greyAt ∈ wA := List.mem_of_getElem? (i := 229) rfl
set_option maxRecDepth 20000 in
theorem qw_230 : Cond.code yX6_greyAt cX6_greyAt 3 (some .int) ∈ wA := List.mem_of_getElem? (i := 230) rfl
set_option maxRecDepth 20000 in
theorem qw_231 : Cond.methodLink RX6 62 yX6_right ∈ wA := List.mem_of_getElem? (i := 231) rfl
set_option maxRecDepth 20000 in
theorem qw_232 : Cond.instanceMethod yX6_right ∈ wA := List.mem_of_getElem? (i := 232) rfl
set_option maxRecDepth 20000 in
theorem qw_233 : Cond.selects RX6 yX6_right yX6_right ∈ wA := List.mem_of_getElem? (i := 233) rfl
set_option maxRecDepth 20000 in
theorem qw_234 : Cond.code yX6_right cX6_right 3 (some .int) ∈ wA := List.mem_of_getElem? (i := 234) rfl
set_option maxRecDepth 20000 in
theorem qw_235 : Cond.methodLink RX6 65 yX6_size ∈ wA := List.mem_of_getElem? (i := 235) rfl
set_option maxRecDepth 20000 in
theorem qw_236 : Cond.static yX6_size ∈ wA := List.mem_of_getElem? (i := 236) rfl
set_option maxRecDepth 20000 in
theorem qw_237 : Cond.code yX6_size cX6_size 1 (some .int) ∈ wA := List.mem_of_getElem? (i := 237) rfl
set_option maxRecDepth 20000 in
theorem qw_238 : Cond.methodLink RX6 72 yX6_above ∈ wA := List.mem_of_getElem? (i := 238) rfl
set_option maxRecDepth 20000 in
theorem qw_239 : Cond.instanceMethod yX6_above ∈ wA := List.mem_of_getElem? (i := 239) rfl
set_option maxRecDepth 20000 in
theorem qw_240 : Cond.selects RX6 yX6_above yX6_above ∈ wA := List.mem_of_getElem? (i := 240) rfl
set_option maxRecDepth 20000 in
theorem qw_241 : Cond.code yX6_above cX6_above 3 (some .int) ∈ wA := List.mem_of_getElem? (i := 241) rfl
set_option maxRecDepth 20000 in
theorem qw_242 : Cond.methodLink RX6 75 yX6_below ∈ wA := List.mem_of_getElem? (i := 242) rfl
set_option maxRecDepth 20000 in
theorem qw_243 : Cond.instanceMethod yX6_below ∈ wA := List.mem_of_getElem? (i := 243) rfl
set_option maxRecDepth 20000 in
theorem qw_244 : Cond.selects RX6 yX6_below yX6_below ∈ wA := List.mem_of_getElem? (i := 244) rfl
set_option maxRecDepth 20000 in
theorem qw_245 : Cond.code yX6_below cX6_below 3 (some .int) ∈ wA := List.mem_of_getElem? (i := 245) rfl
set_option maxRecDepth 20000 in
theorem qw_246 : Cond.methodLink RX6 84 yX6_weight ∈ wA := List.mem_of_getElem? (i := 246) rfl
set_option maxRecDepth 20000 in
theorem qw_247 : Cond.instanceMethod yX6_weight ∈ wA := List.mem_of_getElem? (i := 247) rfl
set_option maxRecDepth 20000 in
theorem qw_248 : Cond.selects RX6 yX6_weight yX6_weight ∈ wA := List.mem_of_getElem? (i := 248) rfl
set_option maxRecDepth 20000 in
theorem qw_249 : Cond.code yX6_weight cX6_weight 3 (some .int) ∈ wA := List.mem_of_getElem? (i := 249) rfl
set_option maxRecDepth 20000 in
theorem qw_250 : Cond.methodLink RX6 81 yX6_extra ∈ wA := List.mem_of_getElem? (i := 250) rfl
set_option maxRecDepth 20000 in
theorem qw_251 : Cond.instanceMethod yX6_extra ∈ wA := List.mem_of_getElem? (i := 251) rfl
set_option maxRecDepth 20000 in
theorem qw_252 : Cond.selects RX6 yX6_extra yX6_extra ∈ wA := List.mem_of_getElem? (i := 252) rfl
set_option maxRecDepth 20000 in
theorem qw_253 : Cond.code yX6_extra cX6_extra 4 (some .int) ∈ wA := List.mem_of_getElem? (i := 253) rfl
set_option maxRecDepth 20000 in
theorem qw_254 : Cond.methodLink RL 36 yX5_say ∈ wA := List.mem_of_getElem? (i := 254) rfl
set_option maxRecDepth 20000 in
theorem qw_255 : Cond.instanceMethod yX5_say ∈ wA := List.mem_of_getElem? (i := 255) rfl
set_option maxRecDepth 20000 in
theorem qw_256 : Cond.selects RX5 yX5_say yX5_say ∈ wA := List.mem_of_getElem? (i := 256) rfl
set_option maxRecDepth 20000 in
theorem qw_257 : Cond.code yX5_say cX5_say 2 (some .int) ∈ wA := List.mem_of_getElem? (i := 257) rfl
set_option maxRecDepth 20000 in
theorem qw_258 : Cond.methodLink RX5 97 yX2_isFull ∈ wA := List.mem_of_getElem? (i := 258) rfl
set_option maxRecDepth 20000 in
theorem qw_259 : Cond.instanceMethod yX2_isFull ∈ wA := List.mem_of_getElem? (i := 259) rfl
set_option maxRecDepth 20000 in
theorem qw_260 : Cond.selects RX2 yX2_isFull yX2_isFull ∈ wA := List.mem_of_getElem? (i := 260) rfl
set_option maxRecDepth 20000 in
theorem qw_261 : Cond.code yX2_isFull cX2_isFull 1 (some .boolean) ∈ wA := List.mem_of_getElem? (i := 261) rfl
set_option maxRecDepth 20000 in
theorem qw_262 : Cond.fieldLink RX2 15 "SeamPictures$Pad" "length" "I" ∈ wA := List.mem_of_getElem? (i := 262) rfl
set_option maxRecDepth 20000 in
theorem qw_263 : Cond.methodLink RX5 101 yX2_append ∈ wA := List.mem_of_getElem? (i := 263) rfl
set_option maxRecDepth 20000 in
theorem qw_264 : Cond.instanceMethod yX2_append ∈ wA := List.mem_of_getElem? (i := 264) rfl
set_option maxRecDepth 20000 in
theorem qw_265 : Cond.selects RX2 yX2_append yX2_append ∈ wA := List.mem_of_getElem? (i := 265) rfl
set_option maxRecDepth 20000 in
theorem qw_266 : Cond.code yX2_append cX2_append 2 (some .int) ∈ wA := List.mem_of_getElem? (i := 266) rfl
set_option maxRecDepth 20000 in
theorem qw_267 : Cond.methodLink RL 39 yX6_say ∈ wA := List.mem_of_getElem? (i := 267) rfl
set_option maxRecDepth 20000 in
theorem qw_268 : Cond.instanceMethod yX6_say ∈ wA := List.mem_of_getElem? (i := 268) rfl
set_option maxRecDepth 20000 in
theorem qw_269 : Cond.selects RX6 yX6_say yX6_say ∈ wA := List.mem_of_getElem? (i := 269) rfl
set_option maxRecDepth 20000 in
theorem qw_270 : Cond.code yX6_say cX6_say 2 (some .int) ∈ wA := List.mem_of_getElem? (i := 270) rfl
set_option maxRecDepth 20000 in
theorem qw_271 : Cond.fieldLink RX6 127 "SeamPicturesModel" "said" "I" ∈ wA := List.mem_of_getElem? (i := 271) rfl
set_option maxRecDepth 20000 in
theorem qw_272 : Cond.methodLink RL 40 yX5_wipe ∈ wA := List.mem_of_getElem? (i := 272) rfl
set_option maxRecDepth 20000 in
theorem qw_273 : Cond.instanceMethod yX5_wipe ∈ wA := List.mem_of_getElem? (i := 273) rfl
set_option maxRecDepth 20000 in
theorem qw_274 : Cond.selects RX5 yX5_wipe yX5_wipe ∈ wA := List.mem_of_getElem? (i := 274) rfl
set_option maxRecDepth 20000 in
theorem qw_275 : Cond.code yX5_wipe cX5_wipe 1 (some .int) ∈ wA := List.mem_of_getElem? (i := 275) rfl
set_option maxRecDepth 20000 in
theorem qw_276 : Cond.methodLink RX5 105 yX2_clear ∈ wA := List.mem_of_getElem? (i := 276) rfl
set_option maxRecDepth 20000 in
theorem qw_277 : Cond.instanceMethod yX2_clear ∈ wA := List.mem_of_getElem? (i := 277) rfl
set_option maxRecDepth 20000 in
theorem qw_278 : Cond.selects RX2 yX2_clear yX2_clear ∈ wA := List.mem_of_getElem? (i := 278) rfl
set_option maxRecDepth 20000 in
theorem qw_279 : Cond.code yX2_clear cX2_clear 2 (some .int) ∈ wA := List.mem_of_getElem? (i := 279) rfl
set_option maxRecDepth 20000 in
theorem qw_280 : Cond.methodLink RL 44 yX6_wipe ∈ wA := List.mem_of_getElem? (i := 280) rfl
set_option maxRecDepth 20000 in
theorem qw_281 : Cond.instanceMethod yX6_wipe ∈ wA := List.mem_of_getElem? (i := 281) rfl
set_option maxRecDepth 20000 in
theorem qw_282 : Cond.selects RX6 yX6_wipe yX6_wipe ∈ wA := List.mem_of_getElem? (i := 282) rfl
set_option maxRecDepth 20000 in
theorem qw_283 : Cond.code yX6_wipe cX6_wipe 2 (some .int) ∈ wA := List.mem_of_getElem? (i := 283) rfl
set_option maxRecDepth 20000 in
theorem qw_284 : Cond.methodLink RL 45 yX5_fault ∈ wA := List.mem_of_getElem? (i := 284) rfl
set_option maxRecDepth 20000 in
theorem qw_285 : Cond.instanceMethod yX5_fault ∈ wA := List.mem_of_getElem? (i := 285) rfl
set_option maxRecDepth 20000 in
theorem qw_286 : Cond.selects RX5 yX5_fault yX5_fault ∈ wA := List.mem_of_getElem? (i := 286) rfl
set_option maxRecDepth 20000 in
theorem qw_287 : Cond.code yX5_fault cX5_fault 2 (some .int) ∈ wA := List.mem_of_getElem? (i := 287) rfl
set_option maxRecDepth 20000 in
theorem qw_288 : Cond.methodLink RX5 109 yX2_firstFault ∈ wA := List.mem_of_getElem? (i := 288) rfl
set_option maxRecDepth 20000 in
theorem qw_289 : Cond.instanceMethod yX2_firstFault ∈ wA := List.mem_of_getElem? (i := 289) rfl
set_option maxRecDepth 20000 in
theorem qw_290 : Cond.selects RX2 yX2_firstFault yX2_firstFault ∈ wA := List.mem_of_getElem? (i := 290) rfl
set_option maxRecDepth 20000 in
theorem qw_291 : Cond.code yX2_firstFault cX2_firstFault 6 (some .int) ∈ wA := List.mem_of_getElem? (i := 291) rfl
set_option maxRecDepth 20000 in
theorem qw_292 : Cond.methodLink RX2 19 yX2_canStand ∈ wA := List.mem_of_getElem? (i := 292) rfl
set_option maxRecDepth 20000 in
theorem qw_293 : Cond.static yX2_canStand ∈ wA := List.mem_of_getElem? (i := 293) rfl
set_option maxRecDepth 20000 in
theorem qw_294 : Cond.code yX2_canStand cX2_canStand 3 (some .boolean) ∈ wA := List.mem_of_getElem? (i := 294) rfl
set_option maxRecDepth 20000 in
theorem qw_295 : Cond.methodLink RX2 23 yX2_valueOf ∈ wA := List.mem_of_getElem? (i := 295) rfl
set_option maxRecDepth 20000 in
theorem qw_296 : Cond.static yX2_valueOf ∈ wA := List.mem_of_getElem? (i := 296) rfl
set_option maxRecDepth 20000 in
theorem qw_297 : Cond.code yX2_valueOf cX2_valueOf 2 (some .int) ∈ wA := List.mem_of_getElem? (i := 297) rfl
set_option maxRecDepth 20000 in
theorem qw_298 : Cond.methodLink RL 48 yX6_fault ∈ wA := List.mem_of_getElem? (i := 298) rfl
set_option maxRecDepth 20000 in
theorem qw_299 : Cond.instanceMethod yX6_fault ∈ wA := List.mem_of_getElem? (i := 299) rfl
set_option maxRecDepth 20000 in
theorem qw_300 : Cond.selects RX6 yX6_fault yX6_fault ∈ wA := List.mem_of_getElem? (i := 300) rfl
set_option maxRecDepth 20000 in
theorem qw_301 : Cond.code yX6_fault cX6_fault 2 (some .int) ∈ wA := List.mem_of_getElem? (i := 301) rfl
set_option maxRecDepth 20000 in
theorem qw_302 : Cond.methodLink RX6 141 yX6_faultAs ∈ wA := List.mem_of_getElem? (i := 302) rfl
set_option maxRecDepth 20000 in
theorem qw_303 : Cond.instanceMethod yX6_faultAs ∈ wA := List.mem_of_getElem? (i := 303) rfl
set_option maxRecDepth 20000 in
theorem qw_304 : Cond.selects RX6 yX6_faultAs yX6_faultAs ∈ wA := List.mem_of_getElem? (i := 304) rfl
set_option maxRecDepth 20000 in
theorem qw_305 : Cond.code yX6_faultAs cX6_faultAs 4 (some .int) ∈ wA := List.mem_of_getElem? (i := 305) rfl
set_option maxRecDepth 20000 in
theorem qw_306 : Cond.methodLink RX6 130 yX6_isBetween ∈ wA := List.mem_of_getElem? (i := 306) rfl
set_option maxRecDepth 20000 in
theorem qw_307 : Cond.instanceMethod yX6_isBetween ∈ wA := List.mem_of_getElem? (i := 307) rfl
set_option maxRecDepth 20000 in
theorem qw_308 : Cond.selects RX6 yX6_isBetween yX6_isBetween ∈ wA := List.mem_of_getElem? (i := 308) rfl
set_option maxRecDepth 20000 in
theorem qw_309 : Cond.code yX6_isBetween cX6_isBetween 2 (some .boolean) ∈ wA := List.mem_of_getElem? (i := 309) rfl
set_option maxRecDepth 20000 in
theorem qw_310 : Cond.methodLink RX6 134 yX6_valueOf ∈ wA := List.mem_of_getElem? (i := 310) rfl
set_option maxRecDepth 20000 in
theorem qw_311 : Cond.instanceMethod yX6_valueOf ∈ wA := List.mem_of_getElem? (i := 311) rfl
set_option maxRecDepth 20000 in
theorem qw_312 : Cond.selects RX6 yX6_valueOf yX6_valueOf ∈ wA := List.mem_of_getElem? (i := 312) rfl
set_option maxRecDepth 20000 in
theorem qw_313 : Cond.code yX6_valueOf cX6_valueOf 3 (some .int) ∈ wA := List.mem_of_getElem? (i := 313) rfl
set_option maxRecDepth 20000 in
theorem qw_314 : Cond.methodLink RX6 137 yX6_signs ∈ wA := List.mem_of_getElem? (i := 314) rfl
set_option maxRecDepth 20000 in
theorem qw_315 : Cond.instanceMethod yX6_signs ∈ wA := List.mem_of_getElem? (i := 315) rfl
set_option maxRecDepth 20000 in
theorem qw_316 : Cond.selects RX6 yX6_signs yX6_signs ∈ wA := List.mem_of_getElem? (i := 316) rfl
set_option maxRecDepth 20000 in
theorem qw_317 : Cond.code yX6_signs cX6_signs 1 (some .int) ∈ wA := List.mem_of_getElem? (i := 317) rfl
set_option maxRecDepth 20000 in
theorem qw_318 : Cond.methodLink RL 49 yX5_lay ∈ wA := List.mem_of_getElem? (i := 318) rfl
set_option maxRecDepth 20000 in
theorem qw_319 : Cond.instanceMethod yX5_lay ∈ wA := List.mem_of_getElem? (i := 319) rfl
set_option maxRecDepth 20000 in
theorem qw_320 : Cond.selects RX5 yX5_lay yX5_lay ∈ wA := List.mem_of_getElem? (i := 320) rfl
set_option maxRecDepth 20000 in
theorem qw_321 : Cond.code yX5_lay cX5_lay 3 (some .int) ∈ wA := List.mem_of_getElem? (i := 321) rfl
set_option maxRecDepth 20000 in
theorem qw_322 : Cond.methodLink RX5 112 yX2_layOn ∈ wA := List.mem_of_getElem? (i := 322) rfl
set_option maxRecDepth 20000 in
theorem qw_323 : Cond.instanceMethod yX2_layOn ∈ wA := List.mem_of_getElem? (i := 323) rfl
set_option maxRecDepth 20000 in
theorem qw_324 : Cond.selects RX2 yX2_layOn yX2_layOn ∈ wA := List.mem_of_getElem? (i := 324) rfl
set_option maxRecDepth 20000 in
theorem qw_325 : Cond.code yX2_layOn cX2_layOn 8 (some .int) ∈ wA := List.mem_of_getElem? (i := 325) rfl
set_option maxRecDepth 20000 in
theorem qw_326 : Cond.fieldLink RX2 27 "SeamPictures$Picture" "high" "I" ∈ wA := List.mem_of_getElem? (i := 326) rfl
set_option maxRecDepth 20000 in
theorem qw_327 : Cond.fieldLink RX2 32 "SeamPictures$Picture" "wide" "I" ∈ wA := List.mem_of_getElem? (i := 327) rfl
set_option maxRecDepth 20000 in
theorem qw_328 : Cond.methodLink RX2 35 yX3_changeGrey ∈ wA := List.mem_of_getElem? (i := 328) rfl
set_option maxRecDepth 20000 in
theorem qw_329 : Cond.methodLink RX2 39 yX3_changeMark ∈ wA := List.mem_of_getElem? (i := 329) rfl
set_option maxRecDepth 20000 in
theorem qw_330 : Cond.methodLink RL 52 yX6_lay ∈ wA := List.mem_of_getElem? (i := 330) rfl
set_option maxRecDepth 20000 in
theorem qw_331 : Cond.instanceMethod yX6_lay ∈ wA := List.mem_of_getElem? (i := 331) rfl
set_option maxRecDepth 20000 in
theorem qw_332 : Cond.selects RX6 yX6_lay yX6_lay ∈ wA := List.mem_of_getElem? (i := 332) rfl
set_option maxRecDepth 20000 in
theorem qw_333 : Cond.code yX6_lay cX6_lay 6 (some .int) ∈ wA := List.mem_of_getElem? (i := 333) rfl
set_option maxRecDepth 20000 in
theorem qw_334 : Cond.methodLink RL 53 yX5_seam ∈ wA := List.mem_of_getElem? (i := 334) rfl
set_option maxRecDepth 20000 in
theorem qw_335 : Cond.instanceMethod yX5_seam ∈ wA := List.mem_of_getElem? (i := 335) rfl
set_option maxRecDepth 20000 in
theorem qw_336 : Cond.selects RX5 yX5_seam yX5_seam ∈ wA := List.mem_of_getElem? (i := 336) rfl
set_option maxRecDepth 20000 in
theorem qw_337 : Cond.code yX5_seam cX5_seam 3 (some .int) ∈ wA := List.mem_of_getElem? (i := 337) rfl
set_option maxRecDepth 20000 in
theorem qw_338 : Cond.fieldLink RX5 123 "SeamPictures$Seam" "total" "I" ∈ wA := List.mem_of_getElem? (i := 338) rfl
set_option maxRecDepth 20000 in
theorem qw_339 : Cond.fieldLink RX5 126 "SeamPictures$Seam" "places" "[I" ∈ wA := List.mem_of_getElem? (i := 339) rfl
set_option maxRecDepth 20000 in
theorem qw_340 : Cond.methodLink RX5 116 yX3_lines ∈ wA := List.mem_of_getElem? (i := 340) rfl
set_option maxRecDepth 20000 in
theorem qw_341 : Cond.instanceMethod yX3_lines ∈ wA := List.mem_of_getElem? (i := 341) rfl
set_option maxRecDepth 20000 in
theorem qw_342 : Cond.selects RX3 yX3_lines yX3_lines ∈ wA := List.mem_of_getElem? (i := 342) rfl
set_option maxRecDepth 20000 in
theorem qw_343 : Cond.code yX3_lines cX3_lines 2 (some .int) ∈ wA := List.mem_of_getElem? (i := 343) rfl
set_option maxRecDepth 20000 in
theorem qw_344 : Cond.methodLink RX5 119 yX4_findLeast ∈ wA := List.mem_of_getElem? (i := 344) rfl
set_option maxRecDepth 20000 in
theorem qw_345 : Cond.instanceMethod yX4_findLeast ∈ wA := List.mem_of_getElem? (i := 345) rfl
set_option maxRecDepth 20000 in
theorem qw_346 : Cond.selects RX4 yX4_findLeast yX4_findLeast ∈ wA := List.mem_of_getElem? (i := 346) rfl
set_option maxRecDepth 20000 in
theorem qw_347 : Cond.code yX4_findLeast cX4_findLeast 7 none ∈ wA := List.mem_of_getElem? (i := 347) rfl
set_option maxRecDepth 20000 in
theorem qw_348 : Cond.fieldLink RX4 21 "SeamPictures$Seam" "way" "I" ∈ wA := List.mem_of_getElem? (i := 348) rfl
set_option maxRecDepth 20000 in
theorem qw_349 : Cond.fieldLink RX4 41 "SeamPictures$Seam" "total" "I" ∈ wA := List.mem_of_getElem? (i := 349) rfl
set_option maxRecDepth 20000 in
theorem qw_350 : Cond.methodLink RX4 25 yX3_lines ∈ wA := List.mem_of_getElem? (i := 350) rfl
set_option maxRecDepth 20000 in
theorem qw_351 : Cond.methodLink RX4 31 yX3_breadth ∈ wA := List.mem_of_getElem? (i := 351) rfl
set_option maxRecDepth 20000 in
theorem qw_352 : Cond.methodLink RX4 34 yX4_weighDot ∈ wA := List.mem_of_getElem? (i := 352) rfl
set_option maxRecDepth 20000 in
theorem qw_353 : Cond.instanceMethod yX4_weighDot ∈ wA := List.mem_of_getElem? (i := 353) rfl
set_option maxRecDepth 20000 in
theorem qw_354 : Cond.selects RX4 yX4_weighDot yX4_weighDot ∈ wA := List.mem_of_getElem? (i := 354) rfl
set_option maxRecDepth 20000 in
theorem qw_355 : Cond.code yX4_weighDot cX4_weighDot 6 none ∈ wA := List.mem_of_getElem? (i := 355) rfl
set_option maxRecDepth 20000 in
theorem qw_356 : Cond.methodLink RX4 44 yX3_standingCost ∈ wA := List.mem_of_getElem? (i := 356) rfl
set_option maxRecDepth 20000 in
theorem qw_357 : Cond.instanceMethod yX3_standingCost ∈ wA := List.mem_of_getElem? (i := 357) rfl
set_option maxRecDepth 20000 in
theorem qw_358 : Cond.selects RX3 yX3_standingCost yX3_standingCost ∈ wA := List.mem_of_getElem? (i := 358) rfl
set_option maxRecDepth 20000 in
theorem qw_359 : Cond.code yX3_standingCost cX3_standingCost 5 (some .int) ∈ wA := List.mem_of_getElem? (i := 359) rfl
set_option maxRecDepth 20000 in
theorem qw_360 : Cond.fieldLink RX3 25 "SeamPictures$Picture" "law" "I" ∈ wA := List.mem_of_getElem? (i := 360) rfl
set_option maxRecDepth 20000 in
theorem qw_361 : Cond.methodLink RX4 48 yX4_goOnFrom ∈ wA := List.mem_of_getElem? (i := 361) rfl
set_option maxRecDepth 20000 in
theorem qw_362 : Cond.instanceMethod yX4_goOnFrom ∈ wA := List.mem_of_getElem? (i := 362) rfl
set_option maxRecDepth 20000 in
theorem qw_363 : Cond.selects RX4 yX4_goOnFrom yX4_goOnFrom ∈ wA := List.mem_of_getElem? (i := 363) rfl
set_option maxRecDepth 20000 in
theorem qw_364 : Cond.code yX4_goOnFrom cX4_goOnFrom 10 none ∈ wA := List.mem_of_getElem? (i := 364) rfl
set_option maxRecDepth 20000 in
theorem qw_365 : Cond.methodLink RX4 52 Lib.Math.max.name ∈ wA := List.mem_of_getElem? (i := 365) rfl
set_option maxRecDepth 20000 in
theorem qw_366 : Cond.methodLink RX4 58 Lib.Math.min.name ∈ wA := List.mem_of_getElem? (i := 366) rfl
set_option maxRecDepth 20000 in
theorem qw_367 : Cond.methodLink RX4 61 yX3_turningCost ∈ wA := List.mem_of_getElem? (i := 367) rfl
set_option maxRecDepth 20000 in
theorem qw_368 : Cond.instanceMethod yX3_turningCost ∈ wA := List.mem_of_getElem? (i := 368) rfl
set_option maxRecDepth 20000 in
theorem qw_369 : Cond.selects RX3 yX3_turningCost yX3_turningCost ∈ wA := List.mem_of_getElem? (i := 369) rfl
set_option maxRecDepth 20000 in
theorem qw_370 : Cond.code yX3_turningCost cX3_turningCost 7 (some .int) ∈ wA := List.mem_of_getElem? (i := 370) rfl
set_option maxRecDepth 20000 in
theorem qw_371 : Cond.methodLink RX4 38 yX4_leastStart ∈ wA := List.mem_of_getElem? (i := 371) rfl
set_option maxRecDepth 20000 in
theorem qw_372 : Cond.instanceMethod yX4_leastStart ∈ wA := List.mem_of_getElem? (i := 372) rfl
set_option maxRecDepth 20000 in
theorem qw_373 : Cond.selects RX4 yX4_leastStart yX4_leastStart ∈ wA := List.mem_of_getElem? (i := 373) rfl
set_option maxRecDepth 20000 in
theorem qw_374 : Cond.code yX4_leastStart cX4_leastStart 4 (some .int) ∈ wA := List.mem_of_getElem? (i := 374) rfl
set_option maxRecDepth 20000 in
theorem qw_375 : Cond.methodLink RL 56 yX6_seam ∈ wA := List.mem_of_getElem? (i := 375) rfl
set_option maxRecDepth 20000 in
theorem qw_376 : Cond.instanceMethod yX6_seam ∈ wA := List.mem_of_getElem? (i := 376) rfl
set_option maxRecDepth 20000 in
theorem qw_377 : Cond.selects RX6 yX6_seam yX6_seam ∈ wA := List.mem_of_getElem? (i := 377) rfl
set_option maxRecDepth 20000 in
theorem qw_378 : Cond.code yX6_seam cX6_seam 3 (some .int) ∈ wA := List.mem_of_getElem? (i := 378) rfl
set_option maxRecDepth 20000 in
theorem qw_379 : Cond.fieldLink RX6 94 "SeamPicturesModel" "seamCost" "I" ∈ wA := List.mem_of_getElem? (i := 379) rfl
set_option maxRecDepth 20000 in
theorem qw_380 : Cond.methodLink RX6 144 yX6_isWay ∈ wA := List.mem_of_getElem? (i := 380) rfl
set_option maxRecDepth 20000 in
theorem qw_381 : Cond.static yX6_isWay ∈ wA := List.mem_of_getElem? (i := 381) rfl
set_option maxRecDepth 20000 in
theorem qw_382 : Cond.code yX6_isWay cX6_isWay 1 (some .boolean) ∈ wA := List.mem_of_getElem? (i := 382) rfl
set_option maxRecDepth 20000 in
theorem qw_383 : Cond.methodLink RX6 110 yX6_layWay ∈ wA := List.mem_of_getElem? (i := 383) rfl
set_option maxRecDepth 20000 in
theorem qw_384 : Cond.instanceMethod yX6_layWay ∈ wA := List.mem_of_getElem? (i := 384) rfl
set_option maxRecDepth 20000 in
theorem qw_385 : Cond.selects RX6 yX6_layWay yX6_layWay ∈ wA := List.mem_of_getElem? (i := 385) rfl
set_option maxRecDepth 20000 in
theorem qw_386 : Cond.code yX6_layWay cX6_layWay 2 none ∈ wA := List.mem_of_getElem? (i := 386) rfl
set_option maxRecDepth 20000 in
theorem qw_387 : Cond.methodLink RX6 97 yX6_turn ∈ wA := List.mem_of_getElem? (i := 387) rfl
set_option maxRecDepth 20000 in
theorem qw_388 : Cond.instanceMethod yX6_turn ∈ wA := List.mem_of_getElem? (i := 388) rfl
set_option maxRecDepth 20000 in
theorem qw_389 : Cond.selects RX6 yX6_turn yX6_turn ∈ wA := List.mem_of_getElem? (i := 389) rfl
set_option maxRecDepth 20000 in
theorem qw_390 : Cond.code yX6_turn cX6_turn 5 none ∈ wA := List.mem_of_getElem? (i := 390) rfl
set_option maxRecDepth 20000 in
theorem qw_391 : Cond.methodLink RX6 100 yX6_laySeam ∈ wA := List.mem_of_getElem? (i := 391) rfl
set_option maxRecDepth 20000 in
theorem qw_392 : Cond.instanceMethod yX6_laySeam ∈ wA := List.mem_of_getElem? (i := 392) rfl
set_option maxRecDepth 20000 in
theorem qw_393 : Cond.selects RX6 yX6_laySeam yX6_laySeam ∈ wA := List.mem_of_getElem? (i := 393) rfl
set_option maxRecDepth 20000 in
theorem qw_394 : Cond.code yX6_laySeam cX6_laySeam 4 none ∈ wA := List.mem_of_getElem? (i := 394) rfl
set_option maxRecDepth 20000 in
theorem qw_395 : Cond.methodLink RX6 91 yX6_nextFrom ∈ wA := List.mem_of_getElem? (i := 395) rfl
set_option maxRecDepth 20000 in
theorem qw_396 : Cond.instanceMethod yX6_nextFrom ∈ wA := List.mem_of_getElem? (i := 396) rfl
set_option maxRecDepth 20000 in
theorem qw_397 : Cond.selects RX6 yX6_nextFrom yX6_nextFrom ∈ wA := List.mem_of_getElem? (i := 397) rfl
set_option maxRecDepth 20000 in
theorem qw_398 : Cond.code yX6_nextFrom cX6_nextFrom 7 (some .int) ∈ wA := List.mem_of_getElem? (i := 398) rfl
set_option maxRecDepth 20000 in
theorem qw_399 : Cond.methodLink RX6 87 yX6_costOf ∈ wA := List.mem_of_getElem? (i := 399) rfl
set_option maxRecDepth 20000 in
theorem qw_400 : Cond.instanceMethod yX6_costOf ∈ wA := List.mem_of_getElem? (i := 400) rfl
set_option maxRecDepth 20000 in
theorem qw_401 : Cond.selects RX6 yX6_costOf yX6_costOf ∈ wA := List.mem_of_getElem? (i := 401) rfl
set_option maxRecDepth 20000 in
theorem qw_402 : Cond.code yX6_costOf cX6_costOf 5 (some .int) ∈ wA := List.mem_of_getElem? (i := 402) rfl
set_option maxRecDepth 20000 in
theorem qw_403 : Cond.methodLink RL 57 yX5_cost ∈ wA := List.mem_of_getElem? (i := 403) rfl
set_option maxRecDepth 20000 in
theorem qw_404 : Cond.instanceMethod yX5_cost ∈ wA := List.mem_of_getElem? (i := 404) rfl
set_option maxRecDepth 20000 in
theorem qw_405 : Cond.selects RX5 yX5_cost yX5_cost ∈ wA := List.mem_of_getElem? (i := 405) rfl
set_option maxRecDepth 20000 in
theorem qw_406 : Cond.code yX5_cost cX5_cost 3 (some .int) ∈ wA := List.mem_of_getElem? (i := 406) rfl
set_option maxRecDepth 20000 in
theorem qw_407 : Cond.methodLink RX5 130 yX4_readNumber ∈ wA := List.mem_of_getElem? (i := 407) rfl
set_option maxRecDepth 20000 in
theorem qw_408 : Cond.instanceMethod yX4_readNumber ∈ wA := List.mem_of_getElem? (i := 408) rfl
set_option maxRecDepth 20000 in
theorem qw_409 : Cond.selects RX4 yX4_readNumber yX4_readNumber ∈ wA := List.mem_of_getElem? (i := 409) rfl
set_option maxRecDepth 20000 in
theorem qw_410 : Cond.code yX4_readNumber cX4_readNumber 7 (some .boolean) ∈ wA := List.mem_of_getElem? (i := 410) rfl
set_option maxRecDepth 20000 in
theorem qw_411 : Cond.methodLink RX4 65 yX4_hangsTogether ∈ wA := List.mem_of_getElem? (i := 411) rfl
set_option maxRecDepth 20000 in
theorem qw_412 : Cond.instanceMethod yX4_hangsTogether ∈ wA := List.mem_of_getElem? (i := 412) rfl
set_option maxRecDepth 20000 in
theorem qw_413 : Cond.selects RX4 yX4_hangsTogether yX4_hangsTogether ∈ wA := List.mem_of_getElem? (i := 413) rfl
set_option maxRecDepth 20000 in
theorem qw_414 : Cond.code yX4_hangsTogether cX4_hangsTogether 4 (some .boolean) ∈ wA := List.mem_of_getElem? (i := 414) rfl
set_option maxRecDepth 20000 in
theorem qw_415 : Cond.methodLink RX4 73 Lib.Math.abs.name ∈ wA := List.mem_of_getElem? (i := 415) rfl
set_option maxRecDepth 20000 in
theorem qw_416 : Cond.methodLink RX4 69 yX4_sumOfCosts ∈ wA := List.mem_of_getElem? (i := 416) rfl
set_option maxRecDepth 20000 in
theorem qw_417 : Cond.instanceMethod yX4_sumOfCosts ∈ wA := List.mem_of_getElem? (i := 417) rfl
set_option maxRecDepth 20000 in
theorem qw_418 : Cond.selects RX4 yX4_sumOfCosts yX4_sumOfCosts ∈ wA := List.mem_of_getElem? (i := 418) rfl
set_option maxRecDepth 20000 in
theorem qw_419 : Cond.code yX4_sumOfCosts cX4_sumOfCosts 5 (some .int) ∈ wA := List.mem_of_getElem? (i := 419) rfl
set_option maxRecDepth 20000 in
theorem qw_420 : Cond.methodLink RL 60 yX6_cost ∈ wA := List.mem_of_getElem? (i := 420) rfl
set_option maxRecDepth 20000 in
theorem qw_421 : Cond.instanceMethod yX6_cost ∈ wA := List.mem_of_getElem? (i := 421) rfl
set_option maxRecDepth 20000 in
theorem qw_422 : Cond.selects RX6 yX6_cost yX6_cost ∈ wA := List.mem_of_getElem? (i := 422) rfl
set_option maxRecDepth 20000 in
theorem qw_423 : Cond.code yX6_cost cX6_cost 5 (some .int) ∈ wA := List.mem_of_getElem? (i := 423) rfl
set_option maxRecDepth 20000 in
theorem qw_424 : Cond.methodLink RX6 147 yX6_layNumber ∈ wA := List.mem_of_getElem? (i := 424) rfl
set_option maxRecDepth 20000 in
theorem qw_425 : Cond.instanceMethod yX6_layNumber ∈ wA := List.mem_of_getElem? (i := 425) rfl
set_option maxRecDepth 20000 in
theorem qw_426 : Cond.selects RX6 yX6_layNumber yX6_layNumber ∈ wA := List.mem_of_getElem? (i := 426) rfl
set_option maxRecDepth 20000 in
theorem qw_427 : Cond.code yX6_layNumber cX6_layNumber 5 (some .boolean) ∈ wA := List.mem_of_getElem? (i := 427) rfl
set_option maxRecDepth 20000 in
theorem qw_428 : Cond.methodLink RL 61 yX5_cut ∈ wA := List.mem_of_getElem? (i := 428) rfl
set_option maxRecDepth 20000 in
theorem qw_429 : Cond.instanceMethod yX5_cut ∈ wA := List.mem_of_getElem? (i := 429) rfl
set_option maxRecDepth 20000 in
theorem qw_430 : Cond.selects RX5 yX5_cut yX5_cut ∈ wA := List.mem_of_getElem? (i := 430) rfl
set_option maxRecDepth 20000 in
theorem qw_431 : Cond.code yX5_cut cX5_cut 2 (some .int) ∈ wA := List.mem_of_getElem? (i := 431) rfl
set_option maxRecDepth 20000 in
theorem qw_432 : Cond.methodLink RX5 134 yX3_breadth ∈ wA := List.mem_of_getElem? (i := 432) rfl
set_option maxRecDepth 20000 in
theorem qw_433 : Cond.methodLink RX5 137 yX3_takeOut ∈ wA := List.mem_of_getElem? (i := 433) rfl
set_option maxRecDepth 20000 in
theorem qw_434 : Cond.instanceMethod yX3_takeOut ∈ wA := List.mem_of_getElem? (i := 434) rfl
set_option maxRecDepth 20000 in
theorem qw_435 : Cond.selects RX3 yX3_takeOut yX3_takeOut ∈ wA := List.mem_of_getElem? (i := 435) rfl
set_option maxRecDepth 20000 in
theorem qw_436 : Cond.code yX3_takeOut cX3_takeOut 5 none ∈ wA := List.mem_of_getElem? (i := 436) rfl
set_option maxRecDepth 20000 in
theorem qw_437 : Cond.fieldLink RX3 66 "SeamPictures$Seam" "way" "I" ∈ wA := List.mem_of_getElem? (i := 437) rfl
set_option maxRecDepth 20000 in
theorem qw_438 : Cond.fieldLink RX3 74 "SeamPictures$Seam" "places" "[I" ∈ wA := List.mem_of_getElem? (i := 438) rfl
set_option maxRecDepth 20000 in
theorem qw_439 : Cond.methodLink RX3 71 yX3_lines ∈ wA := List.mem_of_getElem? (i := 439) rfl
set_option maxRecDepth 20000 in
theorem qw_440 : Cond.methodLink RX3 77 yX3_moveDot ∈ wA := List.mem_of_getElem? (i := 440) rfl
set_option maxRecDepth 20000 in
theorem qw_441 : Cond.instanceMethod yX3_moveDot ∈ wA := List.mem_of_getElem? (i := 441) rfl
set_option maxRecDepth 20000 in
theorem qw_442 : Cond.selects RX3 yX3_moveDot yX3_moveDot ∈ wA := List.mem_of_getElem? (i := 442) rfl
set_option maxRecDepth 20000 in
theorem qw_443 : Cond.code yX3_moveDot cX3_moveDot 7 none ∈ wA := List.mem_of_getElem? (i := 443) rfl
set_option maxRecDepth 20000 in
theorem qw_444 : Cond.methodLink RX3 81 yX3_broaden ∈ wA := List.mem_of_getElem? (i := 444) rfl
set_option maxRecDepth 20000 in
theorem qw_445 : Cond.instanceMethod yX3_broaden ∈ wA := List.mem_of_getElem? (i := 445) rfl
set_option maxRecDepth 20000 in
theorem qw_446 : Cond.selects RX3 yX3_broaden yX3_broaden ∈ wA := List.mem_of_getElem? (i := 446) rfl
set_option maxRecDepth 20000 in
theorem qw_447 : Cond.code yX3_broaden cX3_broaden 3 none ∈ wA := List.mem_of_getElem? (i := 447) rfl
set_option maxRecDepth 20000 in
theorem qw_448 : Cond.methodLink RL 64 yX6_cut ∈ wA := List.mem_of_getElem? (i := 448) rfl
set_option maxRecDepth 20000 in
theorem qw_449 : Cond.instanceMethod yX6_cut ∈ wA := List.mem_of_getElem? (i := 449) rfl
set_option maxRecDepth 20000 in
theorem qw_450 : Cond.selects RX6 yX6_cut yX6_cut ∈ wA := List.mem_of_getElem? (i := 450) rfl
set_option maxRecDepth 20000 in
theorem qw_451 : Cond.code yX6_cut cX6_cut 3 (some .int) ∈ wA := List.mem_of_getElem? (i := 451) rfl
set_option maxRecDepth 20000 in
theorem qw_452 : Cond.methodLink RX6 150 yX6_cutWay ∈ wA := List.mem_of_getElem? (i := 452) rfl
set_option maxRecDepth 20000 in
theorem qw_453 : Cond.instanceMethod yX6_cutWay ∈ wA := List.mem_of_getElem? (i := 453) rfl
set_option maxRecDepth 20000 in
theorem qw_454 : Cond.selects RX6 yX6_cutWay yX6_cutWay ∈ wA := List.mem_of_getElem? (i := 454) rfl
set_option maxRecDepth 20000 in
theorem qw_455 : Cond.code yX6_cutWay cX6_cutWay 2 (some .int) ∈ wA := List.mem_of_getElem? (i := 455) rfl
set_option maxRecDepth 20000 in
theorem qw_456 : Cond.methodLink RX6 114 yX6_cutSeam ∈ wA := List.mem_of_getElem? (i := 456) rfl
set_option maxRecDepth 20000 in
theorem qw_457 : Cond.instanceMethod yX6_cutSeam ∈ wA := List.mem_of_getElem? (i := 457) rfl
set_option maxRecDepth 20000 in
theorem qw_458 : Cond.selects RX6 yX6_cutSeam yX6_cutSeam ∈ wA := List.mem_of_getElem? (i := 458) rfl
set_option maxRecDepth 20000 in
theorem qw_459 : Cond.code yX6_cutSeam cX6_cutSeam 3 none ∈ wA := List.mem_of_getElem? (i := 459) rfl
set_option maxRecDepth 20000 in
theorem qw_460 : Cond.fieldLink RX6 103 "SeamPicturesModel" "keptCut" "I" ∈ wA := List.mem_of_getElem? (i := 460) rfl
set_option maxRecDepth 20000 in
theorem qw_461 : Cond.methodLink RX6 106 yX6_move ∈ wA := List.mem_of_getElem? (i := 461) rfl
set_option maxRecDepth 20000 in
theorem qw_462 : Cond.instanceMethod yX6_move ∈ wA := List.mem_of_getElem? (i := 462) rfl
set_option maxRecDepth 20000 in
theorem qw_463 : Cond.selects RX6 yX6_move yX6_move ∈ wA := List.mem_of_getElem? (i := 463) rfl
set_option maxRecDepth 20000 in
theorem qw_464 : Cond.code yX6_move cX6_move 4 none ∈ wA := List.mem_of_getElem? (i := 464) rfl
set_option maxRecDepth 20000 in
theorem qw_465 : Cond.methodLink RX6 117 yX6_leaveWay ∈ wA := List.mem_of_getElem? (i := 465) rfl
set_option maxRecDepth 20000 in
theorem qw_466 : Cond.instanceMethod yX6_leaveWay ∈ wA := List.mem_of_getElem? (i := 466) rfl
set_option maxRecDepth 20000 in
theorem qw_467 : Cond.selects RX6 yX6_leaveWay yX6_leaveWay ∈ wA := List.mem_of_getElem? (i := 467) rfl
set_option maxRecDepth 20000 in
theorem qw_468 : Cond.code yX6_leaveWay cX6_leaveWay 2 none ∈ wA := List.mem_of_getElem? (i := 468) rfl
set_option maxRecDepth 20000 in
theorem qw_469 : Cond.methodLink RX6 153 yX6_give ∈ wA := List.mem_of_getElem? (i := 469) rfl
set_option maxRecDepth 20000 in
theorem qw_470 : Cond.instanceMethod yX6_give ∈ wA := List.mem_of_getElem? (i := 470) rfl
set_option maxRecDepth 20000 in
theorem qw_471 : Cond.selects RX6 yX6_give yX6_give ∈ wA := List.mem_of_getElem? (i := 471) rfl
set_option maxRecDepth 20000 in
theorem qw_472 : Cond.code yX6_give cX6_give 3 none ∈ wA := List.mem_of_getElem? (i := 472) rfl
set_option maxRecDepth 20000 in
theorem qw_473 : Cond.methodLink RL 65 yX5_add ∈ wA := List.mem_of_getElem? (i := 473) rfl
set_option maxRecDepth 20000 in
theorem qw_474 : Cond.instanceMethod yX5_add ∈ wA := List.mem_of_getElem? (i := 474) rfl
set_option maxRecDepth 20000 in
theorem qw_475 : Cond.selects RX5 yX5_add yX5_add ∈ wA := List.mem_of_getElem? (i := 475) rfl
set_option maxRecDepth 20000 in
theorem qw_476 : Cond.code yX5_add cX5_add 2 (some .int) ∈ wA := List.mem_of_getElem? (i := 476) rfl
set_option maxRecDepth 20000 in
theorem qw_477 : Cond.methodLink RX5 141 yX3_putIn ∈ wA := List.mem_of_getElem? (i := 477) rfl
set_option maxRecDepth 20000 in
theorem qw_478 : Cond.instanceMethod yX3_putIn ∈ wA := List.mem_of_getElem? (i := 478) rfl
set_option maxRecDepth 20000 in
theorem qw_479 : Cond.selects RX3 yX3_putIn yX3_putIn ∈ wA := List.mem_of_getElem? (i := 479) rfl
set_option maxRecDepth 20000 in
theorem qw_480 : Cond.code yX3_putIn cX3_putIn 8 none ∈ wA := List.mem_of_getElem? (i := 480) rfl
set_option maxRecDepth 20000 in
theorem qw_481 : Cond.methodLink RX3 60 yX3_greyAt ∈ wA := List.mem_of_getElem? (i := 481) rfl
set_option maxRecDepth 20000 in
theorem qw_482 : Cond.methodLink RL 68 yX6_add ∈ wA := List.mem_of_getElem? (i := 482) rfl
set_option maxRecDepth 20000 in
theorem qw_483 : Cond.instanceMethod yX6_add ∈ wA := List.mem_of_getElem? (i := 483) rfl
set_option maxRecDepth 20000 in
theorem qw_484 : Cond.selects RX6 yX6_add yX6_add ∈ wA := List.mem_of_getElem? (i := 484) rfl
set_option maxRecDepth 20000 in
theorem qw_485 : Cond.code yX6_add cX6_add 2 (some .int) ∈ wA := List.mem_of_getElem? (i := 485) rfl
set_option maxRecDepth 20000 in
theorem qw_486 : Cond.methodLink RX6 156 yX6_addSeam ∈ wA := List.mem_of_getElem? (i := 486) rfl
set_option maxRecDepth 20000 in
theorem qw_487 : Cond.instanceMethod yX6_addSeam ∈ wA := List.mem_of_getElem? (i := 487) rfl
set_option maxRecDepth 20000 in
theorem qw_488 : Cond.selects RX6 yX6_addSeam yX6_addSeam ∈ wA := List.mem_of_getElem? (i := 488) rfl
set_option maxRecDepth 20000 in
theorem qw_489 : Cond.code yX6_addSeam cX6_addSeam 4 none ∈ wA := List.mem_of_getElem? (i := 489) rfl
set_option maxRecDepth 20000 in
theorem qw_490 : Cond.methodLink RL 69 yX5_least ∈ wA := List.mem_of_getElem? (i := 490) rfl
set_option maxRecDepth 20000 in
theorem qw_491 : Cond.instanceMethod yX5_least ∈ wA := List.mem_of_getElem? (i := 491) rfl
set_option maxRecDepth 20000 in
theorem qw_492 : Cond.selects RX5 yX5_least yX5_least ∈ wA := List.mem_of_getElem? (i := 492) rfl
set_option maxRecDepth 20000 in
theorem qw_493 : Cond.code yX5_least cX5_least 3 (some .int) ∈ wA := List.mem_of_getElem? (i := 493) rfl
set_option maxRecDepth 20000 in
theorem qw_494 : Cond.methodLink RX5 144 yX3_lightestInRow ∈ wA := List.mem_of_getElem? (i := 494) rfl
set_option maxRecDepth 20000 in
theorem qw_495 : Cond.instanceMethod yX3_lightestInRow ∈ wA := List.mem_of_getElem? (i := 495) rfl
set_option maxRecDepth 20000 in
theorem qw_496 : Cond.selects RX3 yX3_lightestInRow yX3_lightestInRow ∈ wA := List.mem_of_getElem? (i := 496) rfl
set_option maxRecDepth 20000 in
theorem qw_497 : Cond.code yX3_lightestInRow cX3_lightestInRow 4 (some .int) ∈ wA := List.mem_of_getElem? (i := 497) rfl
set_option maxRecDepth 20000 in
theorem qw_498 : Cond.methodLink RX3 57 yX3_weightAt ∈ wA := List.mem_of_getElem? (i := 498) rfl
set_option maxRecDepth 20000 in
theorem qw_499 : Cond.methodLink RX5 147 yX3_lightestInColumn ∈ wA := List.mem_of_getElem? (i := 499) rfl
set_option maxRecDepth 20000 in
theorem qw_500 : Cond.instanceMethod yX3_lightestInColumn ∈ wA := List.mem_of_getElem? (i := 500) rfl
set_option maxRecDepth 20000 in
theorem qw_501 : Cond.selects RX3 yX3_lightestInColumn yX3_lightestInColumn ∈ wA := List.mem_of_getElem? (i := 501) rfl
set_option maxRecDepth 20000 in
theorem qw_502 : Cond.code yX3_lightestInColumn cX3_lightestInColumn 4 (some .int) ∈ wA := List.mem_of_getElem? (i := 502) rfl
set_option maxRecDepth 20000 in
theorem qw_503 : Cond.methodLink RL 72 yX6_least ∈ wA := List.mem_of_getElem? (i := 503) rfl
set_option maxRecDepth 20000 in
theorem qw_504 : Cond.instanceMethod yX6_least ∈ wA := List.mem_of_getElem? (i := 504) rfl
set_option maxRecDepth 20000 in
theorem qw_505 : Cond.selects RX6 yX6_least yX6_least ∈ wA := List.mem_of_getElem? (i := 505) rfl
set_option maxRecDepth 20000 in
theorem qw_506 : Cond.code yX6_least cX6_least 5 (some .int) ∈ wA := List.mem_of_getElem? (i := 506) rfl
set_option maxRecDepth 20000 in
theorem qw_507 : Cond.methodLink RL 73 yX5_best ∈ wA := List.mem_of_getElem? (i := 507) rfl
set_option maxRecDepth 20000 in
theorem qw_508 : Cond.instanceMethod yX5_best ∈ wA := List.mem_of_getElem? (i := 508) rfl
set_option maxRecDepth 20000 in
theorem qw_509 : Cond.selects RX5 yX5_best yX5_best ∈ wA := List.mem_of_getElem? (i := 509) rfl
set_option maxRecDepth 20000 in
theorem qw_510 : Cond.code yX5_best cX5_best 4 (some .int) ∈ wA := List.mem_of_getElem? (i := 510) rfl
set_option maxRecDepth 20000 in
theorem qw_511 : Cond.fieldLink RX5 157 "SeamPictures$OrderSearch" "bestCost" "I" ∈ wA := List.mem_of_getElem? (i := 511) rfl
set_option maxRecDepth 20000 in
theorem qw_512 : Cond.fieldLink RX5 160 "SeamPictures$OrderSearch" "ordersAtBest" "I" ∈ wA := List.mem_of_getElem? (i := 512) rfl
set_option maxRecDepth 20000 in
theorem qw_513 : Cond.fieldLink RX5 163 "SeamPictures$OrderSearch" "bestOrder" "I" ∈ wA := List.mem_of_getElem? (i := 513) rfl
set_option maxRecDepth 20000 in
theorem qw_514 : Cond.fieldLink RX5 166 "SeamPictures$OrderSearch" "bestKeptCut" "I" ∈ wA := List.mem_of_getElem? (i := 514) rfl
set_option maxRecDepth 20000 in
theorem qw_515 : Cond.methodLink RX5 150 yX5_canReach ∈ wA := List.mem_of_getElem? (i := 515) rfl
set_option maxRecDepth 20000 in
theorem qw_516 : Cond.instanceMethod yX5_canReach ∈ wA := List.mem_of_getElem? (i := 516) rfl
set_option maxRecDepth 20000 in
theorem qw_517 : Cond.selects RX5 yX5_canReach yX5_canReach ∈ wA := List.mem_of_getElem? (i := 517) rfl
set_option maxRecDepth 20000 in
theorem qw_518 : Cond.code yX5_canReach cX5_canReach 3 (some .boolean) ∈ wA := List.mem_of_getElem? (i := 518) rfl
set_option maxRecDepth 20000 in
theorem qw_519 : Cond.methodLink RX5 153 yX1_findBest ∈ wA := List.mem_of_getElem? (i := 519) rfl
set_option maxRecDepth 20000 in
theorem qw_520 : Cond.instanceMethod yX1_findBest ∈ wA := List.mem_of_getElem? (i := 520) rfl
set_option maxRecDepth 20000 in
theorem qw_521 : Cond.selects RX1 yX1_findBest yX1_findBest ∈ wA := List.mem_of_getElem? (i := 521) rfl
set_option maxRecDepth 20000 in
theorem qw_522 : Cond.code yX1_findBest cX1_findBest 4 none ∈ wA := List.mem_of_getElem? (i := 522) rfl
set_option maxRecDepth 20000 in
theorem qw_523 : Cond.fieldLink RX1 25 "SeamPictures$OrderSearch" "ordersAtBest" "I" ∈ wA := List.mem_of_getElem? (i := 523) rfl
set_option maxRecDepth 20000 in
theorem qw_524 : Cond.methodLink RX1 29 yX3_copyFrom ∈ wA := List.mem_of_getElem? (i := 524) rfl
set_option maxRecDepth 20000 in
theorem qw_525 : Cond.instanceMethod yX3_copyFrom ∈ wA := List.mem_of_getElem? (i := 525) rfl
set_option maxRecDepth 20000 in
theorem qw_526 : Cond.selects RX3 yX3_copyFrom yX3_copyFrom ∈ wA := List.mem_of_getElem? (i := 526) rfl
set_option maxRecDepth 20000 in
theorem qw_527 : Cond.code yX3_copyFrom cX3_copyFrom 3 none ∈ wA := List.mem_of_getElem? (i := 527) rfl
set_option maxRecDepth 20000 in
theorem qw_528 : Cond.methodLink RX1 33 yX1_tryOrders ∈ wA := List.mem_of_getElem? (i := 528) rfl
set_option maxRecDepth 20000 in
theorem qw_529 : Cond.instanceMethod yX1_tryOrders ∈ wA := List.mem_of_getElem? (i := 529) rfl
set_option maxRecDepth 20000 in
theorem qw_530 : Cond.selects RX1 yX1_tryOrders yX1_tryOrders ∈ wA := List.mem_of_getElem? (i := 530) rfl
set_option maxRecDepth 20000 in
theorem qw_531 : Cond.code yX1_tryOrders cX1_tryOrders 10 none ∈ wA := List.mem_of_getElem? (i := 531) rfl
set_option maxRecDepth 20000 in
theorem qw_532 : Cond.fieldLink RX1 53 "SeamPictures$Seam" "total" "I" ∈ wA := List.mem_of_getElem? (i := 532) rfl
set_option maxRecDepth 20000 in
theorem qw_533 : Cond.methodLink RX1 37 yX1_compare ∈ wA := List.mem_of_getElem? (i := 533) rfl
set_option maxRecDepth 20000 in
theorem qw_534 : Cond.instanceMethod yX1_compare ∈ wA := List.mem_of_getElem? (i := 534) rfl
set_option maxRecDepth 20000 in
theorem qw_535 : Cond.selects RX1 yX1_compare yX1_compare ∈ wA := List.mem_of_getElem? (i := 535) rfl
set_option maxRecDepth 20000 in
theorem qw_536 : Cond.code yX1_compare cX1_compare 4 none ∈ wA := List.mem_of_getElem? (i := 536) rfl
set_option maxRecDepth 20000 in
theorem qw_537 : Cond.fieldLink RX1 56 "SeamPictures$OrderSearch" "bestCost" "I" ∈ wA := List.mem_of_getElem? (i := 537) rfl
set_option maxRecDepth 20000 in
theorem qw_538 : Cond.fieldLink RX1 59 "SeamPictures$OrderSearch" "bestOrder" "I" ∈ wA := List.mem_of_getElem? (i := 538) rfl
set_option maxRecDepth 20000 in
theorem qw_539 : Cond.fieldLink RX1 62 "SeamPictures$OrderSearch" "bestKeptCut" "I" ∈ wA := List.mem_of_getElem? (i := 539) rfl
set_option maxRecDepth 20000 in
theorem qw_540 : Cond.methodLink RX1 41 yX4_findLeast ∈ wA := List.mem_of_getElem? (i := 540) rfl
set_option maxRecDepth 20000 in
theorem qw_541 : Cond.methodLink RX1 45 yX3_keptDotsOf ∈ wA := List.mem_of_getElem? (i := 541) rfl
set_option maxRecDepth 20000 in
theorem qw_542 : Cond.instanceMethod yX3_keptDotsOf ∈ wA := List.mem_of_getElem? (i := 542) rfl
set_option maxRecDepth 20000 in
theorem qw_543 : Cond.selects RX3 yX3_keptDotsOf yX3_keptDotsOf ∈ wA := List.mem_of_getElem? (i := 543) rfl
set_option maxRecDepth 20000 in
theorem qw_544 : Cond.code yX3_keptDotsOf cX3_keptDotsOf 4 (some .int) ∈ wA := List.mem_of_getElem? (i := 544) rfl
set_option maxRecDepth 20000 in
theorem qw_545 : Cond.methodLink RX3 63 yX3_markAt ∈ wA := List.mem_of_getElem? (i := 545) rfl
set_option maxRecDepth 20000 in
theorem qw_546 : Cond.methodLink RX1 49 yX3_takeOut ∈ wA := List.mem_of_getElem? (i := 546) rfl
set_option maxRecDepth 20000 in
theorem qw_547 : Cond.methodLink RL 76 yX6_best ∈ wA := List.mem_of_getElem? (i := 547) rfl
set_option maxRecDepth 20000 in
theorem qw_548 : Cond.instanceMethod yX6_best ∈ wA := List.mem_of_getElem? (i := 548) rfl
set_option maxRecDepth 20000 in
theorem qw_549 : Cond.selects RX6 yX6_best yX6_best ∈ wA := List.mem_of_getElem? (i := 549) rfl
set_option maxRecDepth 20000 in
theorem qw_550 : Cond.code yX6_best cX6_best 4 (some .int) ∈ wA := List.mem_of_getElem? (i := 550) rfl
set_option maxRecDepth 20000 in
theorem qw_551 : Cond.fieldLink RX6 171 "SeamPicturesModel" "bestCost" "I" ∈ wA := List.mem_of_getElem? (i := 551) rfl
set_option maxRecDepth 20000 in
theorem qw_552 : Cond.fieldLink RX6 162 "SeamPicturesModel" "asGood" "I" ∈ wA := List.mem_of_getElem? (i := 552) rfl
set_option maxRecDepth 20000 in
theorem qw_553 : Cond.fieldLink RX6 159 "SeamPicturesModel" "bestOrder" "I" ∈ wA := List.mem_of_getElem? (i := 553) rfl
set_option maxRecDepth 20000 in
theorem qw_554 : Cond.fieldLink RX6 174 "SeamPicturesModel" "bestKept" "I" ∈ wA := List.mem_of_getElem? (i := 554) rfl
set_option maxRecDepth 20000 in
theorem qw_555 : Cond.methodLink RX6 177 yX6_canGo ∈ wA := List.mem_of_getElem? (i := 555) rfl
set_option maxRecDepth 20000 in
theorem qw_556 : Cond.instanceMethod yX6_canGo ∈ wA := List.mem_of_getElem? (i := 556) rfl
set_option maxRecDepth 20000 in
theorem qw_557 : Cond.selects RX6 yX6_canGo yX6_canGo ∈ wA := List.mem_of_getElem? (i := 557) rfl
set_option maxRecDepth 20000 in
theorem qw_558 : Cond.code yX6_canGo cX6_canGo 3 (some .boolean) ∈ wA := List.mem_of_getElem? (i := 558) rfl
set_option maxRecDepth 20000 in
theorem qw_559 : Cond.methodLink RX6 180 yX6_layBest ∈ wA := List.mem_of_getElem? (i := 559) rfl
set_option maxRecDepth 20000 in
theorem qw_560 : Cond.instanceMethod yX6_layBest ∈ wA := List.mem_of_getElem? (i := 560) rfl
set_option maxRecDepth 20000 in
theorem qw_561 : Cond.selects RX6 yX6_layBest yX6_layBest ∈ wA := List.mem_of_getElem? (i := 561) rfl
set_option maxRecDepth 20000 in
theorem qw_562 : Cond.code yX6_layBest cX6_layBest 5 none ∈ wA := List.mem_of_getElem? (i := 562) rfl
set_option maxRecDepth 20000 in
theorem qw_563 : Cond.methodLink RX6 165 yX6_bits ∈ wA := List.mem_of_getElem? (i := 563) rfl
set_option maxRecDepth 20000 in
theorem qw_564 : Cond.static yX6_bits ∈ wA := List.mem_of_getElem? (i := 564) rfl
set_option maxRecDepth 20000 in
theorem qw_565 : Cond.code yX6_bits cX6_bits 3 (some .int) ∈ wA := List.mem_of_getElem? (i := 565) rfl
set_option maxRecDepth 20000 in
theorem qw_566 : Cond.methodLink RX6 168 yX6_goOrder ∈ wA := List.mem_of_getElem? (i := 566) rfl
set_option maxRecDepth 20000 in
theorem qw_567 : Cond.instanceMethod yX6_goOrder ∈ wA := List.mem_of_getElem? (i := 567) rfl
set_option maxRecDepth 20000 in
theorem qw_568 : Cond.selects RX6 yX6_goOrder yX6_goOrder ∈ wA := List.mem_of_getElem? (i := 568) rfl
set_option maxRecDepth 20000 in
theorem qw_569 : Cond.code yX6_goOrder cX6_goOrder 5 (some .int) ∈ wA := List.mem_of_getElem? (i := 569) rfl
set_option maxRecDepth 20000 in
theorem qw_570 : Cond.methodLink RX6 184 yX6_turned ∈ wA := List.mem_of_getElem? (i := 570) rfl
set_option maxRecDepth 20000 in
theorem qw_571 : Cond.static yX6_turned ∈ wA := List.mem_of_getElem? (i := 571) rfl
set_option maxRecDepth 20000 in
theorem qw_572 : Cond.code yX6_turned cX6_turned 4 (some .int) ∈ wA := List.mem_of_getElem? (i := 572) rfl
set_option maxRecDepth 20000 in
theorem qw_573 : Cond.methodLink RL 77 yX5_table ∈ wA := List.mem_of_getElem? (i := 573) rfl
set_option maxRecDepth 20000 in
theorem qw_574 : Cond.instanceMethod yX5_table ∈ wA := List.mem_of_getElem? (i := 574) rfl
set_option maxRecDepth 20000 in
theorem qw_575 : Cond.selects RX5 yX5_table yX5_table ∈ wA := List.mem_of_getElem? (i := 575) rfl
set_option maxRecDepth 20000 in
theorem qw_576 : Cond.code yX5_table cX5_table 6 (some .int) ∈ wA := List.mem_of_getElem? (i := 576) rfl
set_option maxRecDepth 20000 in
theorem qw_577 : Cond.fieldLink RX5 172 "SeamPictures$CostTable" "costs" "[I" ∈ wA := List.mem_of_getElem? (i := 577) rfl
set_option maxRecDepth 20000 in
theorem qw_578 : Cond.fieldLink RX5 175 "SeamPictures$CostTable" "row" "[LSeamPictures$Picture;" ∈ wA := List.mem_of_getElem? (i := 578) rfl
set_option maxRecDepth 20000 in
theorem qw_579 : Cond.methodLink RX5 169 yX0_fillTo ∈ wA := List.mem_of_getElem? (i := 579) rfl
set_option maxRecDepth 20000 in
theorem qw_580 : Cond.instanceMethod yX0_fillTo ∈ wA := List.mem_of_getElem? (i := 580) rfl
set_option maxRecDepth 20000 in
theorem qw_581 : Cond.selects RX0 yX0_fillTo yX0_fillTo ∈ wA := List.mem_of_getElem? (i := 581) rfl
set_option maxRecDepth 20000 in
theorem qw_582 : Cond.code yX0_fillTo cX0_fillTo 6 none ∈ wA := List.mem_of_getElem? (i := 582) rfl
set_option maxRecDepth 20000 in
theorem qw_583 : Cond.methodLink RX0 32 yX3_copyFrom ∈ wA := List.mem_of_getElem? (i := 583) rfl
set_option maxRecDepth 20000 in
theorem qw_584 : Cond.methodLink RX0 36 yX4_findLeast ∈ wA := List.mem_of_getElem? (i := 584) rfl
set_option maxRecDepth 20000 in
theorem qw_585 : Cond.methodLink RX0 40 yX0_takeLying ∈ wA := List.mem_of_getElem? (i := 585) rfl
set_option maxRecDepth 20000 in
theorem qw_586 : Cond.instanceMethod yX0_takeLying ∈ wA := List.mem_of_getElem? (i := 586) rfl
set_option maxRecDepth 20000 in
theorem qw_587 : Cond.selects RX0 yX0_takeLying yX0_takeLying ∈ wA := List.mem_of_getElem? (i := 587) rfl
set_option maxRecDepth 20000 in
theorem qw_588 : Cond.code yX0_takeLying cX0_takeLying 2 none ∈ wA := List.mem_of_getElem? (i := 588) rfl
set_option maxRecDepth 20000 in
theorem qw_589 : Cond.fieldLink RX0 50 "SeamPictures$Seam" "total" "I" ∈ wA := List.mem_of_getElem? (i := 589) rfl
set_option maxRecDepth 20000 in
theorem qw_590 : Cond.methodLink RX0 54 yX3_takeOut ∈ wA := List.mem_of_getElem? (i := 590) rfl
set_option maxRecDepth 20000 in
theorem qw_591 : Cond.methodLink RX0 44 yX0_takeUpright ∈ wA := List.mem_of_getElem? (i := 591) rfl
set_option maxRecDepth 20000 in
theorem qw_592 : Cond.instanceMethod yX0_takeUpright ∈ wA := List.mem_of_getElem? (i := 592) rfl
set_option maxRecDepth 20000 in
theorem qw_593 : Cond.selects RX0 yX0_takeUpright yX0_takeUpright ∈ wA := List.mem_of_getElem? (i := 593) rfl
set_option maxRecDepth 20000 in
theorem qw_594 : Cond.code yX0_takeUpright cX0_takeUpright 2 none ∈ wA := List.mem_of_getElem? (i := 594) rfl
set_option maxRecDepth 20000 in
theorem qw_595 : Cond.methodLink RX0 47 yX0_takeCheaper ∈ wA := List.mem_of_getElem? (i := 595) rfl
set_option maxRecDepth 20000 in
theorem qw_596 : Cond.instanceMethod yX0_takeCheaper ∈ wA := List.mem_of_getElem? (i := 596) rfl
set_option maxRecDepth 20000 in
theorem qw_597 : Cond.selects RX0 yX0_takeCheaper yX0_takeCheaper ∈ wA := List.mem_of_getElem? (i := 597) rfl
set_option maxRecDepth 20000 in
theorem qw_598 : Cond.code yX0_takeCheaper cX0_takeCheaper 2 none ∈ wA := List.mem_of_getElem? (i := 598) rfl
set_option maxRecDepth 20000 in
theorem qw_599 : Cond.methodLink RL 80 yX6_table ∈ wA := List.mem_of_getElem? (i := 599) rfl
set_option maxRecDepth 20000 in
theorem qw_600 : Cond.instanceMethod yX6_table ∈ wA := List.mem_of_getElem? (i := 600) rfl
set_option maxRecDepth 20000 in
theorem qw_601 : Cond.selects RX6 yX6_table yX6_table ∈ wA := List.mem_of_getElem? (i := 601) rfl
set_option maxRecDepth 20000 in
theorem qw_602 : Cond.code yX6_table cX6_table 6 (some .int) ∈ wA := List.mem_of_getElem? (i := 602) rfl
set_option maxRecDepth 20000 in
theorem qw_603 : Cond.methodLink RX6 196 yX6_layTable ∈ wA := List.mem_of_getElem? (i := 603) rfl
set_option maxRecDepth 20000 in
theorem qw_604 : Cond.instanceMethod yX6_layTable ∈ wA := List.mem_of_getElem? (i := 604) rfl
set_option maxRecDepth 20000 in
theorem qw_605 : Cond.selects RX6 yX6_layTable yX6_layTable ∈ wA := List.mem_of_getElem? (i := 605) rfl
set_option maxRecDepth 20000 in
theorem qw_606 : Cond.code yX6_layTable cX6_layTable 5 none ∈ wA := List.mem_of_getElem? (i := 606) rfl
set_option maxRecDepth 20000 in
theorem qw_607 : Cond.methodLink RX6 190 yX6_save ∈ wA := List.mem_of_getElem? (i := 607) rfl
set_option maxRecDepth 20000 in
theorem qw_608 : Cond.instanceMethod yX6_save ∈ wA := List.mem_of_getElem? (i := 608) rfl
set_option maxRecDepth 20000 in
theorem qw_609 : Cond.selects RX6 yX6_save yX6_save ∈ wA := List.mem_of_getElem? (i := 609) rfl
set_option maxRecDepth 20000 in
theorem qw_610 : Cond.code yX6_save cX6_save 3 none ∈ wA := List.mem_of_getElem? (i := 610) rfl
set_option maxRecDepth 20000 in
theorem qw_611 : Cond.methodLink RX6 193 yX6_layPlace ∈ wA := List.mem_of_getElem? (i := 611) rfl
set_option maxRecDepth 20000 in
theorem qw_612 : Cond.instanceMethod yX6_layPlace ∈ wA := List.mem_of_getElem? (i := 612) rfl
set_option maxRecDepth 20000 in
theorem qw_613 : Cond.selects RX6 yX6_layPlace yX6_layPlace ∈ wA := List.mem_of_getElem? (i := 613) rfl
set_option maxRecDepth 20000 in
theorem qw_614 : Cond.code yX6_layPlace cX6_layPlace 6 none ∈ wA := List.mem_of_getElem? (i := 614) rfl
set_option maxRecDepth 20000 in
theorem qw_615 : Cond.methodLink RX6 187 yX6_load ∈ wA := List.mem_of_getElem? (i := 615) rfl
set_option maxRecDepth 20000 in
theorem qw_616 : Cond.instanceMethod yX6_load ∈ wA := List.mem_of_getElem? (i := 616) rfl
set_option maxRecDepth 20000 in
theorem qw_617 : Cond.selects RX6 yX6_load yX6_load ∈ wA := List.mem_of_getElem? (i := 617) rfl
set_option maxRecDepth 20000 in
theorem qw_618 : Cond.code yX6_load cX6_load 5 none ∈ wA := List.mem_of_getElem? (i := 618) rfl
set_option maxRecDepth 20000 in
theorem qw_619 : Cond.methodLink RL 81 yX5_go ∈ wA := List.mem_of_getElem? (i := 619) rfl
set_option maxRecDepth 20000 in
theorem qw_620 : Cond.instanceMethod yX5_go ∈ wA := List.mem_of_getElem? (i := 620) rfl
set_option maxRecDepth 20000 in
theorem qw_621 : Cond.selects RX5 yX5_go yX5_go ∈ wA := List.mem_of_getElem? (i := 621) rfl
set_option maxRecDepth 20000 in
theorem qw_622 : Cond.code yX5_go cX5_go 4 (some .int) ∈ wA := List.mem_of_getElem? (i := 622) rfl
set_option maxRecDepth 20000 in
theorem qw_623 : Cond.methodLink RL 84 yX6_go ∈ wA := List.mem_of_getElem? (i := 623) rfl
set_option maxRecDepth 20000 in
theorem qw_624 : Cond.instanceMethod yX6_go ∈ wA := List.mem_of_getElem? (i := 624) rfl
set_option maxRecDepth 20000 in
theorem qw_625 : Cond.selects RX6 yX6_go yX6_go ∈ wA := List.mem_of_getElem? (i := 625) rfl
set_option maxRecDepth 20000 in
theorem qw_626 : Cond.code yX6_go cX6_go 4 (some .int) ∈ wA := List.mem_of_getElem? (i := 626) rfl
set_option maxRecDepth 20000 in
theorem qw_627 : Cond.methodLink RL 85 yX5_image ∈ wA := List.mem_of_getElem? (i := 627) rfl
set_option maxRecDepth 20000 in
theorem qw_628 : Cond.instanceMethod yX5_image ∈ wA := List.mem_of_getElem? (i := 628) rfl
set_option maxRecDepth 20000 in
theorem qw_629 : Cond.selects RX5 yX5_image yX5_image ∈ wA := List.mem_of_getElem? (i := 629) rfl
set_option maxRecDepth 20000 in
theorem qw_630 : Cond.code yX5_image cX5_image 2 (some .int) ∈ wA := List.mem_of_getElem? (i := 630) rfl
set_option maxRecDepth 20000 in
theorem qw_631 : Cond.methodLink RX5 178 yX3_copyFrom ∈ wA := List.mem_of_getElem? (i := 631) rfl
set_option maxRecDepth 20000 in
theorem qw_632 : Cond.methodLink RL 88 yX6_image ∈ wA := List.mem_of_getElem? (i := 632) rfl
set_option maxRecDepth 20000 in
theorem qw_633 : Cond.instanceMethod yX6_image ∈ wA := List.mem_of_getElem? (i := 633) rfl
set_option maxRecDepth 20000 in
theorem qw_634 : Cond.selects RX6 yX6_image yX6_image ∈ wA := List.mem_of_getElem? (i := 634) rfl
set_option maxRecDepth 20000 in
theorem qw_635 : Cond.code yX6_image cX6_image 3 (some .int) ∈ wA := List.mem_of_getElem? (i := 635) rfl
set_option maxRecDepth 20000 in
theorem qw_636 : Cond.methodLink RL 89 yX5_restore ∈ wA := List.mem_of_getElem? (i := 636) rfl
set_option maxRecDepth 20000 in
theorem qw_637 : Cond.instanceMethod yX5_restore ∈ wA := List.mem_of_getElem? (i := 637) rfl
set_option maxRecDepth 20000 in
theorem qw_638 : Cond.selects RX5 yX5_restore yX5_restore ∈ wA := List.mem_of_getElem? (i := 638) rfl
set_option maxRecDepth 20000 in
theorem qw_639 : Cond.code yX5_restore cX5_restore 2 (some .int) ∈ wA := List.mem_of_getElem? (i := 639) rfl
set_option maxRecDepth 20000 in
theorem qw_640 : Cond.methodLink RL 92 yX6_restore ∈ wA := List.mem_of_getElem? (i := 640) rfl
set_option maxRecDepth 20000 in
theorem qw_641 : Cond.instanceMethod yX6_restore ∈ wA := List.mem_of_getElem? (i := 641) rfl
set_option maxRecDepth 20000 in
theorem qw_642 : Cond.selects RX6 yX6_restore yX6_restore ∈ wA := List.mem_of_getElem? (i := 642) rfl
set_option maxRecDepth 20000 in
theorem qw_643 : Cond.code yX6_restore cX6_restore 3 (some .int) ∈ wA := List.mem_of_getElem? (i := 643) rfl
set_option maxRecDepth 20000 in
theorem qw_644 : Cond.methodLink RL 93 yX5_count ∈ wA := List.mem_of_getElem? (i := 644) rfl
set_option maxRecDepth 20000 in
theorem qw_645 : Cond.instanceMethod yX5_count ∈ wA := List.mem_of_getElem? (i := 645) rfl
set_option maxRecDepth 20000 in
theorem qw_646 : Cond.selects RX5 yX5_count yX5_count ∈ wA := List.mem_of_getElem? (i := 646) rfl
set_option maxRecDepth 20000 in
theorem qw_647 : Cond.code yX5_count cX5_count 2 (some .int) ∈ wA := List.mem_of_getElem? (i := 647) rfl
set_option maxRecDepth 20000 in
theorem qw_648 : Cond.fieldLink RX5 188 "SeamPictures$Pad" "length" "I" ∈ wA := List.mem_of_getElem? (i := 648) rfl
set_option maxRecDepth 20000 in
theorem qw_649 : Cond.methodLink RX5 182 yX3_sumOfGreys ∈ wA := List.mem_of_getElem? (i := 649) rfl
set_option maxRecDepth 20000 in
theorem qw_650 : Cond.instanceMethod yX3_sumOfGreys ∈ wA := List.mem_of_getElem? (i := 650) rfl
set_option maxRecDepth 20000 in
theorem qw_651 : Cond.selects RX3 yX3_sumOfGreys yX3_sumOfGreys ∈ wA := List.mem_of_getElem? (i := 651) rfl
set_option maxRecDepth 20000 in
theorem qw_652 : Cond.code yX3_sumOfGreys cX3_sumOfGreys 4 (some .int) ∈ wA := List.mem_of_getElem? (i := 652) rfl
set_option maxRecDepth 20000 in
theorem qw_653 : Cond.methodLink RX5 185 yX3_dotsMarked ∈ wA := List.mem_of_getElem? (i := 653) rfl
set_option maxRecDepth 20000 in
theorem qw_654 : Cond.instanceMethod yX3_dotsMarked ∈ wA := List.mem_of_getElem? (i := 654) rfl
set_option maxRecDepth 20000 in
theorem qw_655 : Cond.selects RX3 yX3_dotsMarked yX3_dotsMarked ∈ wA := List.mem_of_getElem? (i := 655) rfl
set_option maxRecDepth 20000 in
theorem qw_656 : Cond.code yX3_dotsMarked cX3_dotsMarked 5 (some .int) ∈ wA := List.mem_of_getElem? (i := 656) rfl
set_option maxRecDepth 20000 in
theorem qw_657 : Cond.methodLink RX5 191 yX5_imagesKept ∈ wA := List.mem_of_getElem? (i := 657) rfl
set_option maxRecDepth 20000 in
theorem qw_658 : Cond.instanceMethod yX5_imagesKept ∈ wA := List.mem_of_getElem? (i := 658) rfl
set_option maxRecDepth 20000 in
theorem qw_659 : Cond.selects RX5 yX5_imagesKept yX5_imagesKept ∈ wA := List.mem_of_getElem? (i := 659) rfl
set_option maxRecDepth 20000 in
theorem qw_660 : Cond.code yX5_imagesKept cX5_imagesKept 3 (some .int) ∈ wA := List.mem_of_getElem? (i := 660) rfl
set_option maxRecDepth 20000 in
theorem qw_661 : Cond.methodLink RL 96 yX6_count ∈ wA := List.mem_of_getElem? (i := 661) rfl
set_option maxRecDepth 20000 in
theorem qw_662 : Cond.instanceMethod yX6_count ∈ wA := List.mem_of_getElem? (i := 662) rfl
set_option maxRecDepth 20000 in
theorem qw_663 : Cond.selects RX6 yX6_count yX6_count ∈ wA := List.mem_of_getElem? (i := 663) rfl
set_option maxRecDepth 20000 in
theorem qw_664 : Cond.code yX6_count cX6_count 2 (some .int) ∈ wA := List.mem_of_getElem? (i := 664) rfl
set_option maxRecDepth 20000 in
theorem qw_665 : Cond.methodLink RX6 199 yX6_greys ∈ wA := List.mem_of_getElem? (i := 665) rfl
set_option maxRecDepth 20000 in
theorem qw_666 : Cond.instanceMethod yX6_greys ∈ wA := List.mem_of_getElem? (i := 666) rfl
set_option maxRecDepth 20000 in
theorem qw_667 : Cond.selects RX6 yX6_greys yX6_greys ∈ wA := List.mem_of_getElem? (i := 667) rfl
set_option maxRecDepth 20000 in
theorem qw_668 : Cond.code yX6_greys cX6_greys 3 (some .int) ∈ wA := List.mem_of_getElem? (i := 668) rfl
set_option maxRecDepth 20000 in
theorem qw_669 : Cond.methodLink RX6 202 yX6_dotsWith ∈ wA := List.mem_of_getElem? (i := 669) rfl
set_option maxRecDepth 20000 in
theorem qw_670 : Cond.instanceMethod yX6_dotsWith ∈ wA := List.mem_of_getElem? (i := 670) rfl
set_option maxRecDepth 20000 in
theorem qw_671 : Cond.selects RX6 yX6_dotsWith yX6_dotsWith ∈ wA := List.mem_of_getElem? (i := 671) rfl
set_option maxRecDepth 20000 in
theorem qw_672 : Cond.code yX6_dotsWith cX6_dotsWith 4 (some .int) ∈ wA := List.mem_of_getElem? (i := 672) rfl
end
section
def Dc (cc : ByteArray) (pc : Nat) (i : Instr) (n pc2 : Nat) : Prop := decode cc pc = .ok (i, n) ∧ pc + n = pc2
theorem eX0_init_0 : Dc cX0_init 0 (.aload_n 0) 1 1 := ⟨by decide +kernel, rfl⟩
theorem eX0_init_1 : Dc cX0_init 1 (.invokespecial 3) 3 4 := ⟨by decide +kernel, rfl⟩
theorem eX0_init_4 : Dc cX0_init 4 (.aload_n 0) 1 5 := ⟨by decide +kernel, rfl⟩
theorem eX0_init_5 : Dc cX0_init 5 (.bipush 7) 2 7 := ⟨by decide +kernel, rfl⟩
theorem eX0_init_7 : Dc cX0_init 7 (.anewarray 9) 3 10 := ⟨by decide +kernel, rfl⟩
theorem eX0_init_10 : Dc cX0_init 10 (.putfield 11) 3 13 := ⟨by decide +kernel, rfl⟩
theorem eX0_init_13 : Dc cX0_init 13 (.iconst 0) 1 14 := ⟨by decide +kernel, rfl⟩
theorem eX0_init_14 : Dc cX0_init 14 (.istore_n 1) 1 15 := ⟨by decide +kernel, rfl⟩
theorem eX0_init_15 : Dc cX0_init 15 (.iload_n 1) 1 16 := ⟨by decide +kernel, rfl⟩
theorem eX0_init_16 : Dc cX0_init 16 (.bipush 6) 2 18 := ⟨by decide +kernel, rfl⟩
theorem eX0_init_18 : Dc cX0_init 18 (.if_icmp .gt 22) 3 21 := ⟨by decide +kernel, rfl⟩
theorem eX0_init_21 : Dc cX0_init 21 (.aload_n 0) 1 22 := ⟨by decide +kernel, rfl⟩
theorem eX0_init_22 : Dc cX0_init 22 (.getfield 11) 3 25 := ⟨by decide +kernel, rfl⟩
theorem eX0_init_25 : Dc cX0_init 25 (.iload_n 1) 1 26 := ⟨by decide +kernel, rfl⟩
theorem eX0_init_26 : Dc cX0_init 26 (.new 9) 3 29 := ⟨by decide +kernel, rfl⟩
theorem eX0_init_29 : Dc cX0_init 29 (.dup) 1 30 := ⟨by decide +kernel, rfl⟩
theorem eX0_init_30 : Dc cX0_init 30 (.invokespecial 17) 3 33 := ⟨by decide +kernel, rfl⟩
theorem eX0_init_33 : Dc cX0_init 33 (.aastore) 1 34 := ⟨by decide +kernel, rfl⟩
theorem eX0_init_34 : Dc cX0_init 34 (.iinc 1 1) 3 37 := ⟨by decide +kernel, rfl⟩
theorem eX0_init_37 : Dc cX0_init 37 (.goto (-22)) 3 40 := ⟨by decide +kernel, rfl⟩
theorem eX0_init_40 : Dc cX0_init 40 (.aload_n 0) 1 41 := ⟨by decide +kernel, rfl⟩
theorem eX0_init_41 : Dc cX0_init 41 (.bipush 7) 2 43 := ⟨by decide +kernel, rfl⟩
theorem eX0_init_43 : Dc cX0_init 43 (.newarray .int) 2 45 := ⟨by decide +kernel, rfl⟩
theorem eX0_init_45 : Dc cX0_init 45 (.putfield 18) 3 48 := ⟨by decide +kernel, rfl⟩
theorem eX0_init_48 : Dc cX0_init 48 (.aload_n 0) 1 49 := ⟨by decide +kernel, rfl⟩
theorem eX0_init_49 : Dc cX0_init 49 (.new 22) 3 52 := ⟨by decide +kernel, rfl⟩
theorem eX0_init_52 : Dc cX0_init 52 (.dup) 1 53 := ⟨by decide +kernel, rfl⟩
theorem eX0_init_53 : Dc cX0_init 53 (.invokespecial 24) 3 56 := ⟨by decide +kernel, rfl⟩
theorem eX0_init_56 : Dc cX0_init 56 (.putfield 25) 3 59 := ⟨by decide +kernel, rfl⟩
theorem eX0_init_59 : Dc cX0_init 59 (.aload_n 0) 1 60 := ⟨by decide +kernel, rfl⟩
theorem eX0_init_60 : Dc cX0_init 60 (.new 22) 3 63 := ⟨by decide +kernel, rfl⟩
theorem eX0_init_63 : Dc cX0_init 63 (.dup) 1 64 := ⟨by decide +kernel, rfl⟩
theorem eX0_init_64 : Dc cX0_init 64 (.invokespecial 24) 3 67 := ⟨by decide +kernel, rfl⟩
theorem eX0_init_67 : Dc cX0_init 67 (.putfield 29) 3 70 := ⟨by decide +kernel, rfl⟩
theorem eX0_init_70 : Dc cX0_init 70 (.return_) 1 71 := ⟨by decide +kernel, rfl⟩
theorem eX0_fillTo_0 : Dc cX0_fillTo 0 (.aload_n 0) 1 1 := ⟨by decide +kernel, rfl⟩
theorem eX0_fillTo_1 : Dc cX0_fillTo 1 (.getfield 11) 3 4 := ⟨by decide +kernel, rfl⟩
theorem eX0_fillTo_4 : Dc cX0_fillTo 4 (.iconst 0) 1 5 := ⟨by decide +kernel, rfl⟩
theorem eX0_fillTo_5 : Dc cX0_fillTo 5 (.aaload) 1 6 := ⟨by decide +kernel, rfl⟩
theorem eX0_fillTo_6 : Dc cX0_fillTo 6 (.aload_n 1) 1 7 := ⟨by decide +kernel, rfl⟩
theorem eX0_fillTo_7 : Dc cX0_fillTo 7 (.invokevirtual 32) 3 10 := ⟨by decide +kernel, rfl⟩
theorem eX0_fillTo_10 : Dc cX0_fillTo 10 (.aload_n 0) 1 11 := ⟨by decide +kernel, rfl⟩
theorem eX0_fillTo_11 : Dc cX0_fillTo 11 (.getfield 18) 3 14 := ⟨by decide +kernel, rfl⟩
theorem eX0_fillTo_14 : Dc cX0_fillTo 14 (.iconst 0) 1 15 := ⟨by decide +kernel, rfl⟩
theorem eX0_fillTo_15 : Dc cX0_fillTo 15 (.iconst 0) 1 16 := ⟨by decide +kernel, rfl⟩
theorem eX0_fillTo_16 : Dc cX0_fillTo 16 (.iastore) 1 17 := ⟨by decide +kernel, rfl⟩
theorem eX0_fillTo_17 : Dc cX0_fillTo 17 (.iconst 1) 1 18 := ⟨by decide +kernel, rfl⟩
theorem eX0_fillTo_18 : Dc cX0_fillTo 18 (.istore 4) 2 20 := ⟨by decide +kernel, rfl⟩
theorem eX0_fillTo_20 : Dc cX0_fillTo 20 (.iload 4) 2 22 := ⟨by decide +kernel, rfl⟩
theorem eX0_fillTo_22 : Dc cX0_fillTo 22 (.iload_n 3) 1 23 := ⟨by decide +kernel, rfl⟩
theorem eX0_fillTo_23 : Dc cX0_fillTo 23 (.if_icmp .gt 32) 3 26 := ⟨by decide +kernel, rfl⟩
theorem eX0_fillTo_26 : Dc cX0_fillTo 26 (.aload_n 0) 1 27 := ⟨by decide +kernel, rfl⟩
theorem eX0_fillTo_27 : Dc cX0_fillTo 27 (.getfield 29) 3 30 := ⟨by decide +kernel, rfl⟩
theorem eX0_fillTo_30 : Dc cX0_fillTo 30 (.aload_n 0) 1 31 := ⟨by decide +kernel, rfl⟩
theorem eX0_fillTo_31 : Dc cX0_fillTo 31 (.getfield 11) 3 34 := ⟨by decide +kernel, rfl⟩
theorem eX0_fillTo_34 : Dc cX0_fillTo 34 (.iload 4) 2 36 := ⟨by decide +kernel, rfl⟩
theorem eX0_fillTo_36 : Dc cX0_fillTo 36 (.iconst 1) 1 37 := ⟨by decide +kernel, rfl⟩
theorem eX0_fillTo_37 : Dc cX0_fillTo 37 (.isub) 1 38 := ⟨by decide +kernel, rfl⟩
theorem eX0_fillTo_38 : Dc cX0_fillTo 38 (.aaload) 1 39 := ⟨by decide +kernel, rfl⟩
theorem eX0_fillTo_39 : Dc cX0_fillTo 39 (.iconst 1) 1 40 := ⟨by decide +kernel, rfl⟩
theorem eX0_fillTo_40 : Dc cX0_fillTo 40 (.invokevirtual 36) 3 43 := ⟨by decide +kernel, rfl⟩
theorem eX0_fillTo_43 : Dc cX0_fillTo 43 (.aload_n 0) 1 44 := ⟨by decide +kernel, rfl⟩
theorem eX0_fillTo_44 : Dc cX0_fillTo 44 (.iload 4) 2 46 := ⟨by decide +kernel, rfl⟩
theorem eX0_fillTo_46 : Dc cX0_fillTo 46 (.invokevirtual 40) 3 49 := ⟨by decide +kernel, rfl⟩
theorem eX0_fillTo_49 : Dc cX0_fillTo 49 (.iinc 4 1) 3 52 := ⟨by decide +kernel, rfl⟩
theorem eX0_fillTo_52 : Dc cX0_fillTo 52 (.goto (-32)) 3 55 := ⟨by decide +kernel, rfl⟩
theorem eX0_fillTo_55 : Dc cX0_fillTo 55 (.iconst 1) 1 56 := ⟨by decide +kernel, rfl⟩
theorem eX0_fillTo_56 : Dc cX0_fillTo 56 (.istore 4) 2 58 := ⟨by decide +kernel, rfl⟩
theorem eX0_fillTo_58 : Dc cX0_fillTo 58 (.iload 4) 2 60 := ⟨by decide +kernel, rfl⟩
theorem eX0_fillTo_60 : Dc cX0_fillTo 60 (.iload_n 2) 1 61 := ⟨by decide +kernel, rfl⟩
theorem eX0_fillTo_61 : Dc cX0_fillTo 61 (.if_icmp .gt 49) 3 64 := ⟨by decide +kernel, rfl⟩
theorem eX0_fillTo_64 : Dc cX0_fillTo 64 (.aload_n 0) 1 65 := ⟨by decide +kernel, rfl⟩
theorem eX0_fillTo_65 : Dc cX0_fillTo 65 (.getfield 25) 3 68 := ⟨by decide +kernel, rfl⟩
theorem eX0_fillTo_68 : Dc cX0_fillTo 68 (.aload_n 0) 1 69 := ⟨by decide +kernel, rfl⟩
theorem eX0_fillTo_69 : Dc cX0_fillTo 69 (.getfield 11) 3 72 := ⟨by decide +kernel, rfl⟩
theorem eX0_fillTo_72 : Dc cX0_fillTo 72 (.iconst 0) 1 73 := ⟨by decide +kernel, rfl⟩
theorem eX0_fillTo_73 : Dc cX0_fillTo 73 (.aaload) 1 74 := ⟨by decide +kernel, rfl⟩
theorem eX0_fillTo_74 : Dc cX0_fillTo 74 (.iconst 0) 1 75 := ⟨by decide +kernel, rfl⟩
theorem eX0_fillTo_75 : Dc cX0_fillTo 75 (.invokevirtual 36) 3 78 := ⟨by decide +kernel, rfl⟩
theorem eX0_fillTo_78 : Dc cX0_fillTo 78 (.aload_n 0) 1 79 := ⟨by decide +kernel, rfl⟩
theorem eX0_fillTo_79 : Dc cX0_fillTo 79 (.iconst 0) 1 80 := ⟨by decide +kernel, rfl⟩
theorem eX0_fillTo_80 : Dc cX0_fillTo 80 (.invokevirtual 44) 3 83 := ⟨by decide +kernel, rfl⟩
theorem eX0_fillTo_83 : Dc cX0_fillTo 83 (.iconst 1) 1 84 := ⟨by decide +kernel, rfl⟩
theorem eX0_fillTo_84 : Dc cX0_fillTo 84 (.istore 5) 2 86 := ⟨by decide +kernel, rfl⟩
theorem eX0_fillTo_86 : Dc cX0_fillTo 86 (.iload 5) 2 88 := ⟨by decide +kernel, rfl⟩
theorem eX0_fillTo_88 : Dc cX0_fillTo 88 (.iload_n 3) 1 89 := ⟨by decide +kernel, rfl⟩
theorem eX0_fillTo_89 : Dc cX0_fillTo 89 (.if_icmp .gt 15) 3 92 := ⟨by decide +kernel, rfl⟩
theorem eX0_fillTo_92 : Dc cX0_fillTo 92 (.aload_n 0) 1 93 := ⟨by decide +kernel, rfl⟩
theorem eX0_fillTo_93 : Dc cX0_fillTo 93 (.iload 5) 2 95 := ⟨by decide +kernel, rfl⟩
theorem eX0_fillTo_95 : Dc cX0_fillTo 95 (.invokevirtual 47) 3 98 := ⟨by decide +kernel, rfl⟩
theorem eX0_fillTo_98 : Dc cX0_fillTo 98 (.iinc 5 1) 3 101 := ⟨by decide +kernel, rfl⟩
theorem eX0_fillTo_101 : Dc cX0_fillTo 101 (.goto (-15)) 3 104 := ⟨by decide +kernel, rfl⟩
theorem eX0_fillTo_104 : Dc cX0_fillTo 104 (.iinc 4 1) 3 107 := ⟨by decide +kernel, rfl⟩
theorem eX0_fillTo_107 : Dc cX0_fillTo 107 (.goto (-49)) 3 110 := ⟨by decide +kernel, rfl⟩
theorem eX0_fillTo_110 : Dc cX0_fillTo 110 (.return_) 1 111 := ⟨by decide +kernel, rfl⟩
theorem eX0_takeCheaper_0 : Dc cX0_takeCheaper 0 (.aload_n 0) 1 1 := ⟨by decide +kernel, rfl⟩
theorem eX0_takeCheaper_1 : Dc cX0_takeCheaper 1 (.getfield 25) 3 4 := ⟨by decide +kernel, rfl⟩
theorem eX0_takeCheaper_4 : Dc cX0_takeCheaper 4 (.aload_n 0) 1 5 := ⟨by decide +kernel, rfl⟩
theorem eX0_takeCheaper_5 : Dc cX0_takeCheaper 5 (.getfield 11) 3 8 := ⟨by decide +kernel, rfl⟩
theorem eX0_takeCheaper_8 : Dc cX0_takeCheaper 8 (.iload_n 1) 1 9 := ⟨by decide +kernel, rfl⟩
theorem eX0_takeCheaper_9 : Dc cX0_takeCheaper 9 (.aaload) 1 10 := ⟨by decide +kernel, rfl⟩
theorem eX0_takeCheaper_10 : Dc cX0_takeCheaper 10 (.iconst 0) 1 11 := ⟨by decide +kernel, rfl⟩
theorem eX0_takeCheaper_11 : Dc cX0_takeCheaper 11 (.invokevirtual 36) 3 14 := ⟨by decide +kernel, rfl⟩
theorem eX0_takeCheaper_14 : Dc cX0_takeCheaper 14 (.aload_n 0) 1 15 := ⟨by decide +kernel, rfl⟩
theorem eX0_takeCheaper_15 : Dc cX0_takeCheaper 15 (.getfield 29) 3 18 := ⟨by decide +kernel, rfl⟩
theorem eX0_takeCheaper_18 : Dc cX0_takeCheaper 18 (.aload_n 0) 1 19 := ⟨by decide +kernel, rfl⟩
theorem eX0_takeCheaper_19 : Dc cX0_takeCheaper 19 (.getfield 11) 3 22 := ⟨by decide +kernel, rfl⟩
theorem eX0_takeCheaper_22 : Dc cX0_takeCheaper 22 (.iload_n 1) 1 23 := ⟨by decide +kernel, rfl⟩
theorem eX0_takeCheaper_23 : Dc cX0_takeCheaper 23 (.iconst 1) 1 24 := ⟨by decide +kernel, rfl⟩
theorem eX0_takeCheaper_24 : Dc cX0_takeCheaper 24 (.isub) 1 25 := ⟨by decide +kernel, rfl⟩
theorem eX0_takeCheaper_25 : Dc cX0_takeCheaper 25 (.aaload) 1 26 := ⟨by decide +kernel, rfl⟩
theorem eX0_takeCheaper_26 : Dc cX0_takeCheaper 26 (.iconst 1) 1 27 := ⟨by decide +kernel, rfl⟩
theorem eX0_takeCheaper_27 : Dc cX0_takeCheaper 27 (.invokevirtual 36) 3 30 := ⟨by decide +kernel, rfl⟩
theorem eX0_takeCheaper_30 : Dc cX0_takeCheaper 30 (.aload_n 0) 1 31 := ⟨by decide +kernel, rfl⟩
theorem eX0_takeCheaper_31 : Dc cX0_takeCheaper 31 (.getfield 18) 3 34 := ⟨by decide +kernel, rfl⟩
theorem eX0_takeCheaper_34 : Dc cX0_takeCheaper 34 (.iload_n 1) 1 35 := ⟨by decide +kernel, rfl⟩
theorem eX0_takeCheaper_35 : Dc cX0_takeCheaper 35 (.iconst 1) 1 36 := ⟨by decide +kernel, rfl⟩
theorem eX0_takeCheaper_36 : Dc cX0_takeCheaper 36 (.isub) 1 37 := ⟨by decide +kernel, rfl⟩
theorem eX0_takeCheaper_37 : Dc cX0_takeCheaper 37 (.iaload) 1 38 := ⟨by decide +kernel, rfl⟩
theorem eX0_takeCheaper_38 : Dc cX0_takeCheaper 38 (.aload_n 0) 1 39 := ⟨by decide +kernel, rfl⟩
theorem eX0_takeCheaper_39 : Dc cX0_takeCheaper 39 (.getfield 29) 3 42 := ⟨by decide +kernel, rfl⟩
theorem eX0_takeCheaper_42 : Dc cX0_takeCheaper 42 (.getfield 50) 3 45 := ⟨by decide +kernel, rfl⟩
theorem eX0_takeCheaper_45 : Dc cX0_takeCheaper 45 (.iadd) 1 46 := ⟨by decide +kernel, rfl⟩
theorem eX0_takeCheaper_46 : Dc cX0_takeCheaper 46 (.aload_n 0) 1 47 := ⟨by decide +kernel, rfl⟩
theorem eX0_takeCheaper_47 : Dc cX0_takeCheaper 47 (.getfield 18) 3 50 := ⟨by decide +kernel, rfl⟩
theorem eX0_takeCheaper_50 : Dc cX0_takeCheaper 50 (.iload_n 1) 1 51 := ⟨by decide +kernel, rfl⟩
theorem eX0_takeCheaper_51 : Dc cX0_takeCheaper 51 (.iaload) 1 52 := ⟨by decide +kernel, rfl⟩
theorem eX0_takeCheaper_52 : Dc cX0_takeCheaper 52 (.aload_n 0) 1 53 := ⟨by decide +kernel, rfl⟩
theorem eX0_takeCheaper_53 : Dc cX0_takeCheaper 53 (.getfield 25) 3 56 := ⟨by decide +kernel, rfl⟩
theorem eX0_takeCheaper_56 : Dc cX0_takeCheaper 56 (.getfield 50) 3 59 := ⟨by decide +kernel, rfl⟩
theorem eX0_takeCheaper_59 : Dc cX0_takeCheaper 59 (.iadd) 1 60 := ⟨by decide +kernel, rfl⟩
theorem eX0_takeCheaper_60 : Dc cX0_takeCheaper 60 (.if_icmp .ge 11) 3 63 := ⟨by decide +kernel, rfl⟩
theorem eX0_takeCheaper_63 : Dc cX0_takeCheaper 63 (.aload_n 0) 1 64 := ⟨by decide +kernel, rfl⟩
theorem eX0_takeCheaper_64 : Dc cX0_takeCheaper 64 (.iload_n 1) 1 65 := ⟨by decide +kernel, rfl⟩
theorem eX0_takeCheaper_65 : Dc cX0_takeCheaper 65 (.invokevirtual 40) 3 68 := ⟨by decide +kernel, rfl⟩
theorem eX0_takeCheaper_68 : Dc cX0_takeCheaper 68 (.goto 8) 3 71 := ⟨by decide +kernel, rfl⟩
theorem eX0_takeCheaper_71 : Dc cX0_takeCheaper 71 (.aload_n 0) 1 72 := ⟨by decide +kernel, rfl⟩
theorem eX0_takeCheaper_72 : Dc cX0_takeCheaper 72 (.iload_n 1) 1 73 := ⟨by decide +kernel, rfl⟩
theorem eX0_takeCheaper_73 : Dc cX0_takeCheaper 73 (.invokevirtual 44) 3 76 := ⟨by decide +kernel, rfl⟩
theorem eX0_takeCheaper_76 : Dc cX0_takeCheaper 76 (.return_) 1 77 := ⟨by decide +kernel, rfl⟩
theorem eX0_takeUpright_0 : Dc cX0_takeUpright 0 (.aload_n 0) 1 1 := ⟨by decide +kernel, rfl⟩
theorem eX0_takeUpright_1 : Dc cX0_takeUpright 1 (.getfield 11) 3 4 := ⟨by decide +kernel, rfl⟩
theorem eX0_takeUpright_4 : Dc cX0_takeUpright 4 (.iload_n 1) 1 5 := ⟨by decide +kernel, rfl⟩
theorem eX0_takeUpright_5 : Dc cX0_takeUpright 5 (.aaload) 1 6 := ⟨by decide +kernel, rfl⟩
theorem eX0_takeUpright_6 : Dc cX0_takeUpright 6 (.aload_n 0) 1 7 := ⟨by decide +kernel, rfl⟩
theorem eX0_takeUpright_7 : Dc cX0_takeUpright 7 (.getfield 25) 3 10 := ⟨by decide +kernel, rfl⟩
theorem eX0_takeUpright_10 : Dc cX0_takeUpright 10 (.invokevirtual 54) 3 13 := ⟨by decide +kernel, rfl⟩
theorem eX0_takeUpright_13 : Dc cX0_takeUpright 13 (.aload_n 0) 1 14 := ⟨by decide +kernel, rfl⟩
theorem eX0_takeUpright_14 : Dc cX0_takeUpright 14 (.getfield 18) 3 17 := ⟨by decide +kernel, rfl⟩
theorem eX0_takeUpright_17 : Dc cX0_takeUpright 17 (.iload_n 1) 1 18 := ⟨by decide +kernel, rfl⟩
theorem eX0_takeUpright_18 : Dc cX0_takeUpright 18 (.dup2) 1 19 := ⟨by decide +kernel, rfl⟩
theorem eX0_takeUpright_19 : Dc cX0_takeUpright 19 (.iaload) 1 20 := ⟨by decide +kernel, rfl⟩
theorem eX0_takeUpright_20 : Dc cX0_takeUpright 20 (.aload_n 0) 1 21 := ⟨by decide +kernel, rfl⟩
theorem eX0_takeUpright_21 : Dc cX0_takeUpright 21 (.getfield 25) 3 24 := ⟨by decide +kernel, rfl⟩
theorem eX0_takeUpright_24 : Dc cX0_takeUpright 24 (.getfield 50) 3 27 := ⟨by decide +kernel, rfl⟩
theorem eX0_takeUpright_27 : Dc cX0_takeUpright 27 (.iadd) 1 28 := ⟨by decide +kernel, rfl⟩
theorem eX0_takeUpright_28 : Dc cX0_takeUpright 28 (.iastore) 1 29 := ⟨by decide +kernel, rfl⟩
theorem eX0_takeUpright_29 : Dc cX0_takeUpright 29 (.return_) 1 30 := ⟨by decide +kernel, rfl⟩
theorem eX0_takeLying_0 : Dc cX0_takeLying 0 (.aload_n 0) 1 1 := ⟨by decide +kernel, rfl⟩
theorem eX0_takeLying_1 : Dc cX0_takeLying 1 (.getfield 11) 3 4 := ⟨by decide +kernel, rfl⟩
theorem eX0_takeLying_4 : Dc cX0_takeLying 4 (.iload_n 1) 1 5 := ⟨by decide +kernel, rfl⟩
theorem eX0_takeLying_5 : Dc cX0_takeLying 5 (.aaload) 1 6 := ⟨by decide +kernel, rfl⟩
theorem eX0_takeLying_6 : Dc cX0_takeLying 6 (.aload_n 0) 1 7 := ⟨by decide +kernel, rfl⟩
theorem eX0_takeLying_7 : Dc cX0_takeLying 7 (.getfield 11) 3 10 := ⟨by decide +kernel, rfl⟩
theorem eX0_takeLying_10 : Dc cX0_takeLying 10 (.iload_n 1) 1 11 := ⟨by decide +kernel, rfl⟩
theorem eX0_takeLying_11 : Dc cX0_takeLying 11 (.iconst 1) 1 12 := ⟨by decide +kernel, rfl⟩
theorem eX0_takeLying_12 : Dc cX0_takeLying 12 (.isub) 1 13 := ⟨by decide +kernel, rfl⟩
theorem eX0_takeLying_13 : Dc cX0_takeLying 13 (.aaload) 1 14 := ⟨by decide +kernel, rfl⟩
theorem eX0_takeLying_14 : Dc cX0_takeLying 14 (.invokevirtual 32) 3 17 := ⟨by decide +kernel, rfl⟩
theorem eX0_takeLying_17 : Dc cX0_takeLying 17 (.aload_n 0) 1 18 := ⟨by decide +kernel, rfl⟩
theorem eX0_takeLying_18 : Dc cX0_takeLying 18 (.getfield 11) 3 21 := ⟨by decide +kernel, rfl⟩
theorem eX0_takeLying_21 : Dc cX0_takeLying 21 (.iload_n 1) 1 22 := ⟨by decide +kernel, rfl⟩
theorem eX0_takeLying_22 : Dc cX0_takeLying 22 (.aaload) 1 23 := ⟨by decide +kernel, rfl⟩
theorem eX0_takeLying_23 : Dc cX0_takeLying 23 (.aload_n 0) 1 24 := ⟨by decide +kernel, rfl⟩
theorem eX0_takeLying_24 : Dc cX0_takeLying 24 (.getfield 29) 3 27 := ⟨by decide +kernel, rfl⟩
theorem eX0_takeLying_27 : Dc cX0_takeLying 27 (.invokevirtual 54) 3 30 := ⟨by decide +kernel, rfl⟩
theorem eX0_takeLying_30 : Dc cX0_takeLying 30 (.aload_n 0) 1 31 := ⟨by decide +kernel, rfl⟩
theorem eX0_takeLying_31 : Dc cX0_takeLying 31 (.getfield 18) 3 34 := ⟨by decide +kernel, rfl⟩
theorem eX0_takeLying_34 : Dc cX0_takeLying 34 (.iload_n 1) 1 35 := ⟨by decide +kernel, rfl⟩
theorem eX0_takeLying_35 : Dc cX0_takeLying 35 (.aload_n 0) 1 36 := ⟨by decide +kernel, rfl⟩
theorem eX0_takeLying_36 : Dc cX0_takeLying 36 (.getfield 18) 3 39 := ⟨by decide +kernel, rfl⟩
theorem eX0_takeLying_39 : Dc cX0_takeLying 39 (.iload_n 1) 1 40 := ⟨by decide +kernel, rfl⟩
theorem eX0_takeLying_40 : Dc cX0_takeLying 40 (.iconst 1) 1 41 := ⟨by decide +kernel, rfl⟩
theorem eX0_takeLying_41 : Dc cX0_takeLying 41 (.isub) 1 42 := ⟨by decide +kernel, rfl⟩
theorem eX0_takeLying_42 : Dc cX0_takeLying 42 (.iaload) 1 43 := ⟨by decide +kernel, rfl⟩
theorem eX0_takeLying_43 : Dc cX0_takeLying 43 (.aload_n 0) 1 44 := ⟨by decide +kernel, rfl⟩
theorem eX0_takeLying_44 : Dc cX0_takeLying 44 (.getfield 29) 3 47 := ⟨by decide +kernel, rfl⟩
theorem eX0_takeLying_47 : Dc cX0_takeLying 47 (.getfield 50) 3 50 := ⟨by decide +kernel, rfl⟩
theorem eX0_takeLying_50 : Dc cX0_takeLying 50 (.iadd) 1 51 := ⟨by decide +kernel, rfl⟩
theorem eX0_takeLying_51 : Dc cX0_takeLying 51 (.iastore) 1 52 := ⟨by decide +kernel, rfl⟩
theorem eX0_takeLying_52 : Dc cX0_takeLying 52 (.return_) 1 53 := ⟨by decide +kernel, rfl⟩
theorem eX1_init_0 : Dc cX1_init 0 (.aload_n 0) 1 1 := ⟨by decide +kernel, rfl⟩
theorem eX1_init_1 : Dc cX1_init 1 (.invokespecial 3) 3 4 := ⟨by decide +kernel, rfl⟩
theorem eX1_init_4 : Dc cX1_init 4 (.aload_n 0) 1 5 := ⟨by decide +kernel, rfl⟩
theorem eX1_init_5 : Dc cX1_init 5 (.bipush 7) 2 7 := ⟨by decide +kernel, rfl⟩
theorem eX1_init_7 : Dc cX1_init 7 (.anewarray 9) 3 10 := ⟨by decide +kernel, rfl⟩
theorem eX1_init_10 : Dc cX1_init 10 (.putfield 11) 3 13 := ⟨by decide +kernel, rfl⟩
theorem eX1_init_13 : Dc cX1_init 13 (.iconst 0) 1 14 := ⟨by decide +kernel, rfl⟩
theorem eX1_init_14 : Dc cX1_init 14 (.istore_n 1) 1 15 := ⟨by decide +kernel, rfl⟩
theorem eX1_init_15 : Dc cX1_init 15 (.iload_n 1) 1 16 := ⟨by decide +kernel, rfl⟩
theorem eX1_init_16 : Dc cX1_init 16 (.bipush 6) 2 18 := ⟨by decide +kernel, rfl⟩
theorem eX1_init_18 : Dc cX1_init 18 (.if_icmp .gt 22) 3 21 := ⟨by decide +kernel, rfl⟩
theorem eX1_init_21 : Dc cX1_init 21 (.aload_n 0) 1 22 := ⟨by decide +kernel, rfl⟩
theorem eX1_init_22 : Dc cX1_init 22 (.getfield 11) 3 25 := ⟨by decide +kernel, rfl⟩
theorem eX1_init_25 : Dc cX1_init 25 (.iload_n 1) 1 26 := ⟨by decide +kernel, rfl⟩
theorem eX1_init_26 : Dc cX1_init 26 (.new 9) 3 29 := ⟨by decide +kernel, rfl⟩
theorem eX1_init_29 : Dc cX1_init 29 (.dup) 1 30 := ⟨by decide +kernel, rfl⟩
theorem eX1_init_30 : Dc cX1_init 30 (.invokespecial 17) 3 33 := ⟨by decide +kernel, rfl⟩
theorem eX1_init_33 : Dc cX1_init 33 (.aastore) 1 34 := ⟨by decide +kernel, rfl⟩
theorem eX1_init_34 : Dc cX1_init 34 (.iinc 1 1) 3 37 := ⟨by decide +kernel, rfl⟩
theorem eX1_init_37 : Dc cX1_init 37 (.goto (-22)) 3 40 := ⟨by decide +kernel, rfl⟩
theorem eX1_init_40 : Dc cX1_init 40 (.aload_n 0) 1 41 := ⟨by decide +kernel, rfl⟩
theorem eX1_init_41 : Dc cX1_init 41 (.new 18) 3 44 := ⟨by decide +kernel, rfl⟩
theorem eX1_init_44 : Dc cX1_init 44 (.dup) 1 45 := ⟨by decide +kernel, rfl⟩
theorem eX1_init_45 : Dc cX1_init 45 (.invokespecial 20) 3 48 := ⟨by decide +kernel, rfl⟩
theorem eX1_init_48 : Dc cX1_init 48 (.putfield 21) 3 51 := ⟨by decide +kernel, rfl⟩
theorem eX1_init_51 : Dc cX1_init 51 (.return_) 1 52 := ⟨by decide +kernel, rfl⟩
theorem eX1_findBest_0 : Dc cX1_findBest 0 (.aload_n 0) 1 1 := ⟨by decide +kernel, rfl⟩
theorem eX1_findBest_1 : Dc cX1_findBest 1 (.iconst 0) 1 2 := ⟨by decide +kernel, rfl⟩
theorem eX1_findBest_2 : Dc cX1_findBest 2 (.putfield 25) 3 5 := ⟨by decide +kernel, rfl⟩
theorem eX1_findBest_5 : Dc cX1_findBest 5 (.aload_n 0) 1 6 := ⟨by decide +kernel, rfl⟩
theorem eX1_findBest_6 : Dc cX1_findBest 6 (.getfield 11) 3 9 := ⟨by decide +kernel, rfl⟩
theorem eX1_findBest_9 : Dc cX1_findBest 9 (.iconst 0) 1 10 := ⟨by decide +kernel, rfl⟩
theorem eX1_findBest_10 : Dc cX1_findBest 10 (.aaload) 1 11 := ⟨by decide +kernel, rfl⟩
theorem eX1_findBest_11 : Dc cX1_findBest 11 (.aload_n 1) 1 12 := ⟨by decide +kernel, rfl⟩
theorem eX1_findBest_12 : Dc cX1_findBest 12 (.invokevirtual 29) 3 15 := ⟨by decide +kernel, rfl⟩
theorem eX1_findBest_15 : Dc cX1_findBest 15 (.aload_n 0) 1 16 := ⟨by decide +kernel, rfl⟩
theorem eX1_findBest_16 : Dc cX1_findBest 16 (.iconst 0) 1 17 := ⟨by decide +kernel, rfl⟩
theorem eX1_findBest_17 : Dc cX1_findBest 17 (.iload_n 2) 1 18 := ⟨by decide +kernel, rfl⟩
theorem eX1_findBest_18 : Dc cX1_findBest 18 (.iload_n 3) 1 19 := ⟨by decide +kernel, rfl⟩
theorem eX1_findBest_19 : Dc cX1_findBest 19 (.iconst 0) 1 20 := ⟨by decide +kernel, rfl⟩
theorem eX1_findBest_20 : Dc cX1_findBest 20 (.iconst 0) 1 21 := ⟨by decide +kernel, rfl⟩
theorem eX1_findBest_21 : Dc cX1_findBest 21 (.iconst 0) 1 22 := ⟨by decide +kernel, rfl⟩
theorem eX1_findBest_22 : Dc cX1_findBest 22 (.invokevirtual 33) 3 25 := ⟨by decide +kernel, rfl⟩
theorem eX1_findBest_25 : Dc cX1_findBest 25 (.return_) 1 26 := ⟨by decide +kernel, rfl⟩
theorem eX1_tryOrders_0 : Dc cX1_tryOrders 0 (.iload_n 2) 1 1 := ⟨by decide +kernel, rfl⟩
theorem eX1_tryOrders_1 : Dc cX1_tryOrders 1 (.ifCond .ne 18) 3 4 := ⟨by decide +kernel, rfl⟩
theorem eX1_tryOrders_4 : Dc cX1_tryOrders 4 (.iload_n 3) 1 5 := ⟨by decide +kernel, rfl⟩
theorem eX1_tryOrders_5 : Dc cX1_tryOrders 5 (.ifCond .ne 14) 3 8 := ⟨by decide +kernel, rfl⟩
theorem eX1_tryOrders_8 : Dc cX1_tryOrders 8 (.aload_n 0) 1 9 := ⟨by decide +kernel, rfl⟩
theorem eX1_tryOrders_9 : Dc cX1_tryOrders 9 (.iload 4) 2 11 := ⟨by decide +kernel, rfl⟩
theorem eX1_tryOrders_11 : Dc cX1_tryOrders 11 (.iload 5) 2 13 := ⟨by decide +kernel, rfl⟩
theorem eX1_tryOrders_13 : Dc cX1_tryOrders 13 (.iload 6) 2 15 := ⟨by decide +kernel, rfl⟩
theorem eX1_tryOrders_15 : Dc cX1_tryOrders 15 (.invokevirtual 37) 3 18 := ⟨by decide +kernel, rfl⟩
theorem eX1_tryOrders_18 : Dc cX1_tryOrders 18 (.return_) 1 19 := ⟨by decide +kernel, rfl⟩
theorem eX1_tryOrders_19 : Dc cX1_tryOrders 19 (.iload_n 1) 1 20 := ⟨by decide +kernel, rfl⟩
theorem eX1_tryOrders_20 : Dc cX1_tryOrders 20 (.bipush 6) 2 22 := ⟨by decide +kernel, rfl⟩
theorem eX1_tryOrders_22 : Dc cX1_tryOrders 22 (.if_icmp .lt 4) 3 25 := ⟨by decide +kernel, rfl⟩
theorem eX1_tryOrders_25 : Dc cX1_tryOrders 25 (.return_) 1 26 := ⟨by decide +kernel, rfl⟩
theorem eX1_tryOrders_26 : Dc cX1_tryOrders 26 (.aload_n 0) 1 27 := ⟨by decide +kernel, rfl⟩
theorem eX1_tryOrders_27 : Dc cX1_tryOrders 27 (.getfield 11) 3 30 := ⟨by decide +kernel, rfl⟩
theorem eX1_tryOrders_30 : Dc cX1_tryOrders 30 (.iload_n 1) 1 31 := ⟨by decide +kernel, rfl⟩
theorem eX1_tryOrders_31 : Dc cX1_tryOrders 31 (.iconst 1) 1 32 := ⟨by decide +kernel, rfl⟩
theorem eX1_tryOrders_32 : Dc cX1_tryOrders 32 (.iadd) 1 33 := ⟨by decide +kernel, rfl⟩
theorem eX1_tryOrders_33 : Dc cX1_tryOrders 33 (.aaload) 1 34 := ⟨by decide +kernel, rfl⟩
theorem eX1_tryOrders_34 : Dc cX1_tryOrders 34 (.astore 7) 2 36 := ⟨by decide +kernel, rfl⟩
theorem eX1_tryOrders_36 : Dc cX1_tryOrders 36 (.iconst 0) 1 37 := ⟨by decide +kernel, rfl⟩
theorem eX1_tryOrders_37 : Dc cX1_tryOrders 37 (.istore 8) 2 39 := ⟨by decide +kernel, rfl⟩
theorem eX1_tryOrders_39 : Dc cX1_tryOrders 39 (.iload 8) 2 41 := ⟨by decide +kernel, rfl⟩
theorem eX1_tryOrders_41 : Dc cX1_tryOrders 41 (.iconst 1) 1 42 := ⟨by decide +kernel, rfl⟩
theorem eX1_tryOrders_42 : Dc cX1_tryOrders 42 (.if_icmp .gt 103) 3 45 := ⟨by decide +kernel, rfl⟩
theorem eX1_tryOrders_45 : Dc cX1_tryOrders 45 (.iload 8) 2 47 := ⟨by decide +kernel, rfl⟩
theorem eX1_tryOrders_47 : Dc cX1_tryOrders 47 (.ifCond .ne 7) 3 50 := ⟨by decide +kernel, rfl⟩
theorem eX1_tryOrders_50 : Dc cX1_tryOrders 50 (.iload_n 2) 1 51 := ⟨by decide +kernel, rfl⟩
theorem eX1_tryOrders_51 : Dc cX1_tryOrders 51 (.goto 4) 3 54 := ⟨by decide +kernel, rfl⟩
theorem eX1_tryOrders_54 : Dc cX1_tryOrders 54 (.iload_n 3) 1 55 := ⟨by decide +kernel, rfl⟩
theorem eX1_tryOrders_55 : Dc cX1_tryOrders 55 (.ifCond .le 84) 3 58 := ⟨by decide +kernel, rfl⟩
theorem eX1_tryOrders_58 : Dc cX1_tryOrders 58 (.aload 7) 2 60 := ⟨by decide +kernel, rfl⟩
theorem eX1_tryOrders_60 : Dc cX1_tryOrders 60 (.aload_n 0) 1 61 := ⟨by decide +kernel, rfl⟩
theorem eX1_tryOrders_61 : Dc cX1_tryOrders 61 (.getfield 11) 3 64 := ⟨by decide +kernel, rfl⟩
theorem eX1_tryOrders_64 : Dc cX1_tryOrders 64 (.iload_n 1) 1 65 := ⟨by decide +kernel, rfl⟩
theorem eX1_tryOrders_65 : Dc cX1_tryOrders 65 (.aaload) 1 66 := ⟨by decide +kernel, rfl⟩
theorem eX1_tryOrders_66 : Dc cX1_tryOrders 66 (.invokevirtual 29) 3 69 := ⟨by decide +kernel, rfl⟩
theorem eX1_tryOrders_69 : Dc cX1_tryOrders 69 (.aload_n 0) 1 70 := ⟨by decide +kernel, rfl⟩
theorem eX1_tryOrders_70 : Dc cX1_tryOrders 70 (.getfield 21) 3 73 := ⟨by decide +kernel, rfl⟩
theorem eX1_tryOrders_73 : Dc cX1_tryOrders 73 (.aload 7) 2 75 := ⟨by decide +kernel, rfl⟩
theorem eX1_tryOrders_75 : Dc cX1_tryOrders 75 (.iload 8) 2 77 := ⟨by decide +kernel, rfl⟩
theorem eX1_tryOrders_77 : Dc cX1_tryOrders 77 (.invokevirtual 41) 3 80 := ⟨by decide +kernel, rfl⟩
theorem eX1_tryOrders_80 : Dc cX1_tryOrders 80 (.iload 6) 2 82 := ⟨by decide +kernel, rfl⟩
theorem eX1_tryOrders_82 : Dc cX1_tryOrders 82 (.aload 7) 2 84 := ⟨by decide +kernel, rfl⟩
theorem eX1_tryOrders_84 : Dc cX1_tryOrders 84 (.aload_n 0) 1 85 := ⟨by decide +kernel, rfl⟩
theorem eX1_tryOrders_85 : Dc cX1_tryOrders 85 (.getfield 21) 3 88 := ⟨by decide +kernel, rfl⟩
theorem eX1_tryOrders_88 : Dc cX1_tryOrders 88 (.invokevirtual 45) 3 91 := ⟨by decide +kernel, rfl⟩
theorem eX1_tryOrders_91 : Dc cX1_tryOrders 91 (.iadd) 1 92 := ⟨by decide +kernel, rfl⟩
theorem eX1_tryOrders_92 : Dc cX1_tryOrders 92 (.istore 9) 2 94 := ⟨by decide +kernel, rfl⟩
theorem eX1_tryOrders_94 : Dc cX1_tryOrders 94 (.aload 7) 2 96 := ⟨by decide +kernel, rfl⟩
theorem eX1_tryOrders_96 : Dc cX1_tryOrders 96 (.aload_n 0) 1 97 := ⟨by decide +kernel, rfl⟩
theorem eX1_tryOrders_97 : Dc cX1_tryOrders 97 (.getfield 21) 3 100 := ⟨by decide +kernel, rfl⟩
theorem eX1_tryOrders_100 : Dc cX1_tryOrders 100 (.invokevirtual 49) 3 103 := ⟨by decide +kernel, rfl⟩
theorem eX1_tryOrders_103 : Dc cX1_tryOrders 103 (.aload_n 0) 1 104 := ⟨by decide +kernel, rfl⟩
theorem eX1_tryOrders_104 : Dc cX1_tryOrders 104 (.iload_n 1) 1 105 := ⟨by decide +kernel, rfl⟩
theorem eX1_tryOrders_105 : Dc cX1_tryOrders 105 (.iconst 1) 1 106 := ⟨by decide +kernel, rfl⟩
theorem eX1_tryOrders_106 : Dc cX1_tryOrders 106 (.iadd) 1 107 := ⟨by decide +kernel, rfl⟩
theorem eX1_tryOrders_107 : Dc cX1_tryOrders 107 (.iload_n 2) 1 108 := ⟨by decide +kernel, rfl⟩
theorem eX1_tryOrders_108 : Dc cX1_tryOrders 108 (.iconst 1) 1 109 := ⟨by decide +kernel, rfl⟩
theorem eX1_tryOrders_109 : Dc cX1_tryOrders 109 (.iload 8) 2 111 := ⟨by decide +kernel, rfl⟩
theorem eX1_tryOrders_111 : Dc cX1_tryOrders 111 (.isub) 1 112 := ⟨by decide +kernel, rfl⟩
theorem eX1_tryOrders_112 : Dc cX1_tryOrders 112 (.isub) 1 113 := ⟨by decide +kernel, rfl⟩
theorem eX1_tryOrders_113 : Dc cX1_tryOrders 113 (.iload_n 3) 1 114 := ⟨by decide +kernel, rfl⟩
theorem eX1_tryOrders_114 : Dc cX1_tryOrders 114 (.iload 8) 2 116 := ⟨by decide +kernel, rfl⟩
theorem eX1_tryOrders_116 : Dc cX1_tryOrders 116 (.isub) 1 117 := ⟨by decide +kernel, rfl⟩
theorem eX1_tryOrders_117 : Dc cX1_tryOrders 117 (.iload 4) 2 119 := ⟨by decide +kernel, rfl⟩
theorem eX1_tryOrders_119 : Dc cX1_tryOrders 119 (.iload 8) 2 121 := ⟨by decide +kernel, rfl⟩
theorem eX1_tryOrders_121 : Dc cX1_tryOrders 121 (.iload_n 1) 1 122 := ⟨by decide +kernel, rfl⟩
theorem eX1_tryOrders_122 : Dc cX1_tryOrders 122 (.ishl) 1 123 := ⟨by decide +kernel, rfl⟩
theorem eX1_tryOrders_123 : Dc cX1_tryOrders 123 (.ior) 1 124 := ⟨by decide +kernel, rfl⟩
theorem eX1_tryOrders_124 : Dc cX1_tryOrders 124 (.iload 5) 2 126 := ⟨by decide +kernel, rfl⟩
theorem eX1_tryOrders_126 : Dc cX1_tryOrders 126 (.aload_n 0) 1 127 := ⟨by decide +kernel, rfl⟩
theorem eX1_tryOrders_127 : Dc cX1_tryOrders 127 (.getfield 21) 3 130 := ⟨by decide +kernel, rfl⟩
theorem eX1_tryOrders_130 : Dc cX1_tryOrders 130 (.getfield 53) 3 133 := ⟨by decide +kernel, rfl⟩
theorem eX1_tryOrders_133 : Dc cX1_tryOrders 133 (.iadd) 1 134 := ⟨by decide +kernel, rfl⟩
theorem eX1_tryOrders_134 : Dc cX1_tryOrders 134 (.iload 9) 2 136 := ⟨by decide +kernel, rfl⟩
theorem eX1_tryOrders_136 : Dc cX1_tryOrders 136 (.invokevirtual 33) 3 139 := ⟨by decide +kernel, rfl⟩
theorem eX1_tryOrders_139 : Dc cX1_tryOrders 139 (.iinc 8 1) 3 142 := ⟨by decide +kernel, rfl⟩
theorem eX1_tryOrders_142 : Dc cX1_tryOrders 142 (.goto (-103)) 3 145 := ⟨by decide +kernel, rfl⟩
theorem eX1_tryOrders_145 : Dc cX1_tryOrders 145 (.return_) 1 146 := ⟨by decide +kernel, rfl⟩
theorem eX1_compare_0 : Dc cX1_compare 0 (.aload_n 0) 1 1 := ⟨by decide +kernel, rfl⟩
theorem eX1_compare_1 : Dc cX1_compare 1 (.getfield 25) 3 4 := ⟨by decide +kernel, rfl⟩
theorem eX1_compare_4 : Dc cX1_compare 4 (.ifCond .le 24) 3 7 := ⟨by decide +kernel, rfl⟩
theorem eX1_compare_7 : Dc cX1_compare 7 (.iload_n 2) 1 8 := ⟨by decide +kernel, rfl⟩
theorem eX1_compare_8 : Dc cX1_compare 8 (.aload_n 0) 1 9 := ⟨by decide +kernel, rfl⟩
theorem eX1_compare_9 : Dc cX1_compare 9 (.getfield 56) 3 12 := ⟨by decide +kernel, rfl⟩
theorem eX1_compare_12 : Dc cX1_compare 12 (.if_icmp .ne 16) 3 15 := ⟨by decide +kernel, rfl⟩
theorem eX1_compare_15 : Dc cX1_compare 15 (.aload_n 0) 1 16 := ⟨by decide +kernel, rfl⟩
theorem eX1_compare_16 : Dc cX1_compare 16 (.dup) 1 17 := ⟨by decide +kernel, rfl⟩
theorem eX1_compare_17 : Dc cX1_compare 17 (.getfield 25) 3 20 := ⟨by decide +kernel, rfl⟩
theorem eX1_compare_20 : Dc cX1_compare 20 (.iconst 1) 1 21 := ⟨by decide +kernel, rfl⟩
theorem eX1_compare_21 : Dc cX1_compare 21 (.iadd) 1 22 := ⟨by decide +kernel, rfl⟩
theorem eX1_compare_22 : Dc cX1_compare 22 (.putfield 25) 3 25 := ⟨by decide +kernel, rfl⟩
theorem eX1_compare_25 : Dc cX1_compare 25 (.goto 38) 3 28 := ⟨by decide +kernel, rfl⟩
theorem eX1_compare_28 : Dc cX1_compare 28 (.aload_n 0) 1 29 := ⟨by decide +kernel, rfl⟩
theorem eX1_compare_29 : Dc cX1_compare 29 (.getfield 25) 3 32 := ⟨by decide +kernel, rfl⟩
theorem eX1_compare_32 : Dc cX1_compare 32 (.ifCond .eq 11) 3 35 := ⟨by decide +kernel, rfl⟩
theorem eX1_compare_35 : Dc cX1_compare 35 (.iload_n 2) 1 36 := ⟨by decide +kernel, rfl⟩
theorem eX1_compare_36 : Dc cX1_compare 36 (.aload_n 0) 1 37 := ⟨by decide +kernel, rfl⟩
theorem eX1_compare_37 : Dc cX1_compare 37 (.getfield 56) 3 40 := ⟨by decide +kernel, rfl⟩
theorem eX1_compare_40 : Dc cX1_compare 40 (.if_icmp .ge 23) 3 43 := ⟨by decide +kernel, rfl⟩
theorem eX1_compare_43 : Dc cX1_compare 43 (.aload_n 0) 1 44 := ⟨by decide +kernel, rfl⟩
theorem eX1_compare_44 : Dc cX1_compare 44 (.iload_n 2) 1 45 := ⟨by decide +kernel, rfl⟩
theorem eX1_compare_45 : Dc cX1_compare 45 (.putfield 56) 3 48 := ⟨by decide +kernel, rfl⟩
theorem eX1_compare_48 : Dc cX1_compare 48 (.aload_n 0) 1 49 := ⟨by decide +kernel, rfl⟩
theorem eX1_compare_49 : Dc cX1_compare 49 (.iload_n 1) 1 50 := ⟨by decide +kernel, rfl⟩
theorem eX1_compare_50 : Dc cX1_compare 50 (.putfield 59) 3 53 := ⟨by decide +kernel, rfl⟩
theorem eX1_compare_53 : Dc cX1_compare 53 (.aload_n 0) 1 54 := ⟨by decide +kernel, rfl⟩
theorem eX1_compare_54 : Dc cX1_compare 54 (.iload_n 3) 1 55 := ⟨by decide +kernel, rfl⟩
theorem eX1_compare_55 : Dc cX1_compare 55 (.putfield 62) 3 58 := ⟨by decide +kernel, rfl⟩
theorem eX1_compare_58 : Dc cX1_compare 58 (.aload_n 0) 1 59 := ⟨by decide +kernel, rfl⟩
theorem eX1_compare_59 : Dc cX1_compare 59 (.iconst 1) 1 60 := ⟨by decide +kernel, rfl⟩
theorem eX1_compare_60 : Dc cX1_compare 60 (.putfield 25) 3 63 := ⟨by decide +kernel, rfl⟩
theorem eX1_compare_63 : Dc cX1_compare 63 (.return_) 1 64 := ⟨by decide +kernel, rfl⟩
theorem eX2_init_0 : Dc cX2_init 0 (.aload_n 0) 1 1 := ⟨by decide +kernel, rfl⟩
theorem eX2_init_1 : Dc cX2_init 1 (.invokespecial 3) 3 4 := ⟨by decide +kernel, rfl⟩
theorem eX2_init_4 : Dc cX2_init 4 (.aload_n 0) 1 5 := ⟨by decide +kernel, rfl⟩
theorem eX2_init_5 : Dc cX2_init 5 (.bipush 80) 2 7 := ⟨by decide +kernel, rfl⟩
theorem eX2_init_7 : Dc cX2_init 7 (.newarray .int) 2 9 := ⟨by decide +kernel, rfl⟩
theorem eX2_init_9 : Dc cX2_init 9 (.putfield 11) 3 12 := ⟨by decide +kernel, rfl⟩
theorem eX2_init_12 : Dc cX2_init 12 (.return_) 1 13 := ⟨by decide +kernel, rfl⟩
theorem eX2_isFull_0 : Dc cX2_isFull 0 (.aload_n 0) 1 1 := ⟨by decide +kernel, rfl⟩
theorem eX2_isFull_1 : Dc cX2_isFull 1 (.getfield 15) 3 4 := ⟨by decide +kernel, rfl⟩
theorem eX2_isFull_4 : Dc cX2_isFull 4 (.bipush 80) 2 6 := ⟨by decide +kernel, rfl⟩
theorem eX2_isFull_6 : Dc cX2_isFull 6 (.if_icmp .lt 7) 3 9 := ⟨by decide +kernel, rfl⟩
theorem eX2_isFull_9 : Dc cX2_isFull 9 (.iconst 1) 1 10 := ⟨by decide +kernel, rfl⟩
theorem eX2_isFull_10 : Dc cX2_isFull 10 (.goto 4) 3 13 := ⟨by decide +kernel, rfl⟩
theorem eX2_isFull_13 : Dc cX2_isFull 13 (.iconst 0) 1 14 := ⟨by decide +kernel, rfl⟩
theorem eX2_isFull_14 : Dc cX2_isFull 14 (.ireturn) 1 15 := ⟨by decide +kernel, rfl⟩
theorem eX2_append_0 : Dc cX2_append 0 (.aload_n 0) 1 1 := ⟨by decide +kernel, rfl⟩
theorem eX2_append_1 : Dc cX2_append 1 (.getfield 11) 3 4 := ⟨by decide +kernel, rfl⟩
theorem eX2_append_4 : Dc cX2_append 4 (.aload_n 0) 1 5 := ⟨by decide +kernel, rfl⟩
theorem eX2_append_5 : Dc cX2_append 5 (.getfield 15) 3 8 := ⟨by decide +kernel, rfl⟩
theorem eX2_append_8 : Dc cX2_append 8 (.iload_n 1) 1 9 := ⟨by decide +kernel, rfl⟩
theorem eX2_append_9 : Dc cX2_append 9 (.iastore) 1 10 := ⟨by decide +kernel, rfl⟩
theorem eX2_append_10 : Dc cX2_append 10 (.aload_n 0) 1 11 := ⟨by decide +kernel, rfl⟩
theorem eX2_append_11 : Dc cX2_append 11 (.dup) 1 12 := ⟨by decide +kernel, rfl⟩
theorem eX2_append_12 : Dc cX2_append 12 (.getfield 15) 3 15 := ⟨by decide +kernel, rfl⟩
theorem eX2_append_15 : Dc cX2_append 15 (.iconst 1) 1 16 := ⟨by decide +kernel, rfl⟩
theorem eX2_append_16 : Dc cX2_append 16 (.iadd) 1 17 := ⟨by decide +kernel, rfl⟩
theorem eX2_append_17 : Dc cX2_append 17 (.putfield 15) 3 20 := ⟨by decide +kernel, rfl⟩
theorem eX2_append_20 : Dc cX2_append 20 (.aload_n 0) 1 21 := ⟨by decide +kernel, rfl⟩
theorem eX2_append_21 : Dc cX2_append 21 (.getfield 15) 3 24 := ⟨by decide +kernel, rfl⟩
theorem eX2_append_24 : Dc cX2_append 24 (.ireturn) 1 25 := ⟨by decide +kernel, rfl⟩
theorem eX2_clear_0 : Dc cX2_clear 0 (.aload_n 0) 1 1 := ⟨by decide +kernel, rfl⟩
theorem eX2_clear_1 : Dc cX2_clear 1 (.getfield 15) 3 4 := ⟨by decide +kernel, rfl⟩
theorem eX2_clear_4 : Dc cX2_clear 4 (.istore_n 1) 1 5 := ⟨by decide +kernel, rfl⟩
theorem eX2_clear_5 : Dc cX2_clear 5 (.aload_n 0) 1 6 := ⟨by decide +kernel, rfl⟩
theorem eX2_clear_6 : Dc cX2_clear 6 (.iconst 0) 1 7 := ⟨by decide +kernel, rfl⟩
theorem eX2_clear_7 : Dc cX2_clear 7 (.putfield 15) 3 10 := ⟨by decide +kernel, rfl⟩
theorem eX2_clear_10 : Dc cX2_clear 10 (.iload_n 1) 1 11 := ⟨by decide +kernel, rfl⟩
theorem eX2_clear_11 : Dc cX2_clear 11 (.ireturn) 1 12 := ⟨by decide +kernel, rfl⟩
theorem eX2_firstFault_0 : Dc cX2_firstFault 0 (.iload_n 3) 1 1 := ⟨by decide +kernel, rfl⟩
theorem eX2_firstFault_1 : Dc cX2_firstFault 1 (.iload_n 2) 1 2 := ⟨by decide +kernel, rfl⟩
theorem eX2_firstFault_2 : Dc cX2_firstFault 2 (.iconst 1) 1 3 := ⟨by decide +kernel, rfl⟩
theorem eX2_firstFault_3 : Dc cX2_firstFault 3 (.iadd) 1 4 := ⟨by decide +kernel, rfl⟩
theorem eX2_firstFault_4 : Dc cX2_firstFault 4 (.imul) 1 5 := ⟨by decide +kernel, rfl⟩
theorem eX2_firstFault_5 : Dc cX2_firstFault 5 (.iconst 1) 1 6 := ⟨by decide +kernel, rfl⟩
theorem eX2_firstFault_6 : Dc cX2_firstFault 6 (.isub) 1 7 := ⟨by decide +kernel, rfl⟩
theorem eX2_firstFault_7 : Dc cX2_firstFault 7 (.istore 4) 2 9 := ⟨by decide +kernel, rfl⟩
theorem eX2_firstFault_9 : Dc cX2_firstFault 9 (.iconst 0) 1 10 := ⟨by decide +kernel, rfl⟩
theorem eX2_firstFault_10 : Dc cX2_firstFault 10 (.istore 5) 2 12 := ⟨by decide +kernel, rfl⟩
theorem eX2_firstFault_12 : Dc cX2_firstFault 12 (.iload 5) 2 14 := ⟨by decide +kernel, rfl⟩
theorem eX2_firstFault_14 : Dc cX2_firstFault 14 (.aload_n 0) 1 15 := ⟨by decide +kernel, rfl⟩
theorem eX2_firstFault_15 : Dc cX2_firstFault 15 (.getfield 15) 3 18 := ⟨by decide +kernel, rfl⟩
theorem eX2_firstFault_18 : Dc cX2_firstFault 18 (.if_icmp .ge 48) 3 21 := ⟨by decide +kernel, rfl⟩
theorem eX2_firstFault_21 : Dc cX2_firstFault 21 (.iload 5) 2 23 := ⟨by decide +kernel, rfl⟩
theorem eX2_firstFault_23 : Dc cX2_firstFault 23 (.iload 4) 2 25 := ⟨by decide +kernel, rfl⟩
theorem eX2_firstFault_25 : Dc cX2_firstFault 25 (.if_icmp .ge 32) 3 28 := ⟨by decide +kernel, rfl⟩
theorem eX2_firstFault_28 : Dc cX2_firstFault 28 (.aload_n 0) 1 29 := ⟨by decide +kernel, rfl⟩
theorem eX2_firstFault_29 : Dc cX2_firstFault 29 (.getfield 11) 3 32 := ⟨by decide +kernel, rfl⟩
theorem eX2_firstFault_32 : Dc cX2_firstFault 32 (.iload 5) 2 34 := ⟨by decide +kernel, rfl⟩
theorem eX2_firstFault_34 : Dc cX2_firstFault 34 (.iaload) 1 35 := ⟨by decide +kernel, rfl⟩
theorem eX2_firstFault_35 : Dc cX2_firstFault 35 (.iload_n 1) 1 36 := ⟨by decide +kernel, rfl⟩
theorem eX2_firstFault_36 : Dc cX2_firstFault 36 (.iload 5) 2 38 := ⟨by decide +kernel, rfl⟩
theorem eX2_firstFault_38 : Dc cX2_firstFault 38 (.iload_n 2) 1 39 := ⟨by decide +kernel, rfl⟩
theorem eX2_firstFault_39 : Dc cX2_firstFault 39 (.iconst 1) 1 40 := ⟨by decide +kernel, rfl⟩
theorem eX2_firstFault_40 : Dc cX2_firstFault 40 (.iadd) 1 41 := ⟨by decide +kernel, rfl⟩
theorem eX2_firstFault_41 : Dc cX2_firstFault 41 (.irem) 1 42 := ⟨by decide +kernel, rfl⟩
theorem eX2_firstFault_42 : Dc cX2_firstFault 42 (.iload_n 2) 1 43 := ⟨by decide +kernel, rfl⟩
theorem eX2_firstFault_43 : Dc cX2_firstFault 43 (.if_icmp .ne 7) 3 46 := ⟨by decide +kernel, rfl⟩
theorem eX2_firstFault_46 : Dc cX2_firstFault 46 (.iconst 1) 1 47 := ⟨by decide +kernel, rfl⟩
theorem eX2_firstFault_47 : Dc cX2_firstFault 47 (.goto 4) 3 50 := ⟨by decide +kernel, rfl⟩
theorem eX2_firstFault_50 : Dc cX2_firstFault 50 (.iconst 0) 1 51 := ⟨by decide +kernel, rfl⟩
theorem eX2_firstFault_51 : Dc cX2_firstFault 51 (.invokestatic 19) 3 54 := ⟨by decide +kernel, rfl⟩
theorem eX2_firstFault_54 : Dc cX2_firstFault 54 (.ifCond .ne 6) 3 57 := ⟨by decide +kernel, rfl⟩
theorem eX2_firstFault_57 : Dc cX2_firstFault 57 (.iload 5) 2 59 := ⟨by decide +kernel, rfl⟩
theorem eX2_firstFault_59 : Dc cX2_firstFault 59 (.ireturn) 1 60 := ⟨by decide +kernel, rfl⟩
theorem eX2_firstFault_60 : Dc cX2_firstFault 60 (.iinc 5 1) 3 63 := ⟨by decide +kernel, rfl⟩
theorem eX2_firstFault_63 : Dc cX2_firstFault 63 (.goto (-51)) 3 66 := ⟨by decide +kernel, rfl⟩
theorem eX2_firstFault_66 : Dc cX2_firstFault 66 (.aload_n 0) 1 67 := ⟨by decide +kernel, rfl⟩
theorem eX2_firstFault_67 : Dc cX2_firstFault 67 (.getfield 15) 3 70 := ⟨by decide +kernel, rfl⟩
theorem eX2_firstFault_70 : Dc cX2_firstFault 70 (.iload 4) 2 72 := ⟨by decide +kernel, rfl⟩
theorem eX2_firstFault_72 : Dc cX2_firstFault 72 (.if_icmp .ge 10) 3 75 := ⟨by decide +kernel, rfl⟩
theorem eX2_firstFault_75 : Dc cX2_firstFault 75 (.aload_n 0) 1 76 := ⟨by decide +kernel, rfl⟩
theorem eX2_firstFault_76 : Dc cX2_firstFault 76 (.getfield 15) 3 79 := ⟨by decide +kernel, rfl⟩
theorem eX2_firstFault_79 : Dc cX2_firstFault 79 (.goto 5) 3 82 := ⟨by decide +kernel, rfl⟩
theorem eX2_firstFault_82 : Dc cX2_firstFault 82 (.bipush (-6)) 2 84 := ⟨by decide +kernel, rfl⟩
theorem eX2_firstFault_84 : Dc cX2_firstFault 84 (.ireturn) 1 85 := ⟨by decide +kernel, rfl⟩
theorem eX2_canStand_0 : Dc cX2_canStand 0 (.iload_n 2) 1 1 := ⟨by decide +kernel, rfl⟩
theorem eX2_canStand_1 : Dc cX2_canStand 1 (.ifCond .eq 17) 3 4 := ⟨by decide +kernel, rfl⟩
theorem eX2_canStand_4 : Dc cX2_canStand 4 (.iload_n 0) 1 5 := ⟨by decide +kernel, rfl⟩
theorem eX2_canStand_5 : Dc cX2_canStand 5 (.bipush 47) 2 7 := ⟨by decide +kernel, rfl⟩
theorem eX2_canStand_7 : Dc cX2_canStand 7 (.if_icmp .ne 7) 3 10 := ⟨by decide +kernel, rfl⟩
theorem eX2_canStand_10 : Dc cX2_canStand 10 (.iconst 1) 1 11 := ⟨by decide +kernel, rfl⟩
theorem eX2_canStand_11 : Dc cX2_canStand 11 (.goto 20) 3 14 := ⟨by decide +kernel, rfl⟩
theorem eX2_canStand_14 : Dc cX2_canStand 14 (.iconst 0) 1 15 := ⟨by decide +kernel, rfl⟩
theorem eX2_canStand_15 : Dc cX2_canStand 15 (.goto 16) 3 18 := ⟨by decide +kernel, rfl⟩
theorem eX2_canStand_18 : Dc cX2_canStand 18 (.iload_n 0) 1 19 := ⟨by decide +kernel, rfl⟩
theorem eX2_canStand_19 : Dc cX2_canStand 19 (.iload_n 1) 1 20 := ⟨by decide +kernel, rfl⟩
theorem eX2_canStand_20 : Dc cX2_canStand 20 (.invokestatic 23) 3 23 := ⟨by decide +kernel, rfl⟩
theorem eX2_canStand_23 : Dc cX2_canStand 23 (.ifCond .lt 7) 3 26 := ⟨by decide +kernel, rfl⟩
theorem eX2_canStand_26 : Dc cX2_canStand 26 (.iconst 1) 1 27 := ⟨by decide +kernel, rfl⟩
theorem eX2_canStand_27 : Dc cX2_canStand 27 (.goto 4) 3 30 := ⟨by decide +kernel, rfl⟩
theorem eX2_canStand_30 : Dc cX2_canStand 30 (.iconst 0) 1 31 := ⟨by decide +kernel, rfl⟩
theorem eX2_canStand_31 : Dc cX2_canStand 31 (.ireturn) 1 32 := ⟨by decide +kernel, rfl⟩
theorem eX2_valueOf_0 : Dc cX2_valueOf 0 (.iload_n 1) 1 1 := ⟨by decide +kernel, rfl⟩
theorem eX2_valueOf_1 : Dc cX2_valueOf 1 (.ifCond .ne 25) 3 4 := ⟨by decide +kernel, rfl⟩
theorem eX2_valueOf_4 : Dc cX2_valueOf 4 (.iload_n 0) 1 5 := ⟨by decide +kernel, rfl⟩
theorem eX2_valueOf_5 : Dc cX2_valueOf 5 (.bipush 48) 2 7 := ⟨by decide +kernel, rfl⟩
theorem eX2_valueOf_7 : Dc cX2_valueOf 7 (.if_icmp .lt 16) 3 10 := ⟨by decide +kernel, rfl⟩
theorem eX2_valueOf_10 : Dc cX2_valueOf 10 (.iload_n 0) 1 11 := ⟨by decide +kernel, rfl⟩
theorem eX2_valueOf_11 : Dc cX2_valueOf 11 (.bipush 57) 2 13 := ⟨by decide +kernel, rfl⟩
theorem eX2_valueOf_13 : Dc cX2_valueOf 13 (.if_icmp .gt 10) 3 16 := ⟨by decide +kernel, rfl⟩
theorem eX2_valueOf_16 : Dc cX2_valueOf 16 (.iload_n 0) 1 17 := ⟨by decide +kernel, rfl⟩
theorem eX2_valueOf_17 : Dc cX2_valueOf 17 (.bipush 48) 2 19 := ⟨by decide +kernel, rfl⟩
theorem eX2_valueOf_19 : Dc cX2_valueOf 19 (.isub) 1 20 := ⟨by decide +kernel, rfl⟩
theorem eX2_valueOf_20 : Dc cX2_valueOf 20 (.goto 5) 3 23 := ⟨by decide +kernel, rfl⟩
theorem eX2_valueOf_23 : Dc cX2_valueOf 23 (.bipush (-6)) 2 25 := ⟨by decide +kernel, rfl⟩
theorem eX2_valueOf_25 : Dc cX2_valueOf 25 (.ireturn) 1 26 := ⟨by decide +kernel, rfl⟩
theorem eX2_valueOf_26 : Dc cX2_valueOf 26 (.iload_n 0) 1 27 := ⟨by decide +kernel, rfl⟩
theorem eX2_valueOf_27 : Dc cX2_valueOf 27 (.lookupswitch 39 #[(46, 33), (103, 37), (107, 35)]) 33 60 := ⟨by decide +kernel, rfl⟩
theorem eX2_valueOf_60 : Dc cX2_valueOf 60 (.iconst 0) 1 61 := ⟨by decide +kernel, rfl⟩
theorem eX2_valueOf_61 : Dc cX2_valueOf 61 (.ireturn) 1 62 := ⟨by decide +kernel, rfl⟩
theorem eX2_valueOf_62 : Dc cX2_valueOf 62 (.iconst 1) 1 63 := ⟨by decide +kernel, rfl⟩
theorem eX2_valueOf_63 : Dc cX2_valueOf 63 (.ireturn) 1 64 := ⟨by decide +kernel, rfl⟩
theorem eX2_valueOf_64 : Dc cX2_valueOf 64 (.iconst 2) 1 65 := ⟨by decide +kernel, rfl⟩
theorem eX2_valueOf_65 : Dc cX2_valueOf 65 (.ireturn) 1 66 := ⟨by decide +kernel, rfl⟩
theorem eX2_valueOf_66 : Dc cX2_valueOf 66 (.bipush (-6)) 2 68 := ⟨by decide +kernel, rfl⟩
theorem eX2_valueOf_68 : Dc cX2_valueOf 68 (.ireturn) 1 69 := ⟨by decide +kernel, rfl⟩
theorem eX2_layOn_0 : Dc cX2_layOn 0 (.iconst 0) 1 1 := ⟨by decide +kernel, rfl⟩
theorem eX2_layOn_1 : Dc cX2_layOn 1 (.istore_n 3) 1 2 := ⟨by decide +kernel, rfl⟩
theorem eX2_layOn_2 : Dc cX2_layOn 2 (.iconst 0) 1 3 := ⟨by decide +kernel, rfl⟩
theorem eX2_layOn_3 : Dc cX2_layOn 3 (.istore 4) 2 5 := ⟨by decide +kernel, rfl⟩
theorem eX2_layOn_5 : Dc cX2_layOn 5 (.iload 4) 2 7 := ⟨by decide +kernel, rfl⟩
theorem eX2_layOn_7 : Dc cX2_layOn 7 (.aload_n 1) 1 8 := ⟨by decide +kernel, rfl⟩
theorem eX2_layOn_8 : Dc cX2_layOn 8 (.getfield 27) 3 11 := ⟨by decide +kernel, rfl⟩
theorem eX2_layOn_11 : Dc cX2_layOn 11 (.if_icmp .ge 89) 3 14 := ⟨by decide +kernel, rfl⟩
theorem eX2_layOn_14 : Dc cX2_layOn 14 (.iconst 0) 1 15 := ⟨by decide +kernel, rfl⟩
theorem eX2_layOn_15 : Dc cX2_layOn 15 (.istore 5) 2 17 := ⟨by decide +kernel, rfl⟩
theorem eX2_layOn_17 : Dc cX2_layOn 17 (.iload 5) 2 19 := ⟨by decide +kernel, rfl⟩
theorem eX2_layOn_19 : Dc cX2_layOn 19 (.aload_n 1) 1 20 := ⟨by decide +kernel, rfl⟩
theorem eX2_layOn_20 : Dc cX2_layOn 20 (.getfield 32) 3 23 := ⟨by decide +kernel, rfl⟩
theorem eX2_layOn_23 : Dc cX2_layOn 23 (.if_icmp .ge 71) 3 26 := ⟨by decide +kernel, rfl⟩
theorem eX2_layOn_26 : Dc cX2_layOn 26 (.aload_n 0) 1 27 := ⟨by decide +kernel, rfl⟩
theorem eX2_layOn_27 : Dc cX2_layOn 27 (.getfield 11) 3 30 := ⟨by decide +kernel, rfl⟩
theorem eX2_layOn_30 : Dc cX2_layOn 30 (.iload 4) 2 32 := ⟨by decide +kernel, rfl⟩
theorem eX2_layOn_32 : Dc cX2_layOn 32 (.aload_n 1) 1 33 := ⟨by decide +kernel, rfl⟩
theorem eX2_layOn_33 : Dc cX2_layOn 33 (.getfield 32) 3 36 := ⟨by decide +kernel, rfl⟩
theorem eX2_layOn_36 : Dc cX2_layOn 36 (.iconst 1) 1 37 := ⟨by decide +kernel, rfl⟩
theorem eX2_layOn_37 : Dc cX2_layOn 37 (.iadd) 1 38 := ⟨by decide +kernel, rfl⟩
theorem eX2_layOn_38 : Dc cX2_layOn 38 (.imul) 1 39 := ⟨by decide +kernel, rfl⟩
theorem eX2_layOn_39 : Dc cX2_layOn 39 (.iload 5) 2 41 := ⟨by decide +kernel, rfl⟩
theorem eX2_layOn_41 : Dc cX2_layOn 41 (.iadd) 1 42 := ⟨by decide +kernel, rfl⟩
theorem eX2_layOn_42 : Dc cX2_layOn 42 (.iaload) 1 43 := ⟨by decide +kernel, rfl⟩
theorem eX2_layOn_43 : Dc cX2_layOn 43 (.iload_n 2) 1 44 := ⟨by decide +kernel, rfl⟩
theorem eX2_layOn_44 : Dc cX2_layOn 44 (.invokestatic 23) 3 47 := ⟨by decide +kernel, rfl⟩
theorem eX2_layOn_47 : Dc cX2_layOn 47 (.istore 6) 2 49 := ⟨by decide +kernel, rfl⟩
theorem eX2_layOn_49 : Dc cX2_layOn 49 (.iload_n 2) 1 50 := ⟨by decide +kernel, rfl⟩
theorem eX2_layOn_50 : Dc cX2_layOn 50 (.ifCond .ne 16) 3 53 := ⟨by decide +kernel, rfl⟩
theorem eX2_layOn_53 : Dc cX2_layOn 53 (.aload_n 1) 1 54 := ⟨by decide +kernel, rfl⟩
theorem eX2_layOn_54 : Dc cX2_layOn 54 (.iload 5) 2 56 := ⟨by decide +kernel, rfl⟩
theorem eX2_layOn_56 : Dc cX2_layOn 56 (.iload 4) 2 58 := ⟨by decide +kernel, rfl⟩
theorem eX2_layOn_58 : Dc cX2_layOn 58 (.iload 6) 2 60 := ⟨by decide +kernel, rfl⟩
theorem eX2_layOn_60 : Dc cX2_layOn 60 (.invokevirtual 35) 3 63 := ⟨by decide +kernel, rfl⟩
theorem eX2_layOn_63 : Dc cX2_layOn 63 (.goto 13) 3 66 := ⟨by decide +kernel, rfl⟩
theorem eX2_layOn_66 : Dc cX2_layOn 66 (.aload_n 1) 1 67 := ⟨by decide +kernel, rfl⟩
theorem eX2_layOn_67 : Dc cX2_layOn 67 (.iload 5) 2 69 := ⟨by decide +kernel, rfl⟩
theorem eX2_layOn_69 : Dc cX2_layOn 69 (.iload 4) 2 71 := ⟨by decide +kernel, rfl⟩
theorem eX2_layOn_71 : Dc cX2_layOn 71 (.iload 6) 2 73 := ⟨by decide +kernel, rfl⟩
theorem eX2_layOn_73 : Dc cX2_layOn 73 (.invokevirtual 39) 3 76 := ⟨by decide +kernel, rfl⟩
theorem eX2_layOn_76 : Dc cX2_layOn 76 (.istore 7) 2 78 := ⟨by decide +kernel, rfl⟩
theorem eX2_layOn_78 : Dc cX2_layOn 78 (.iload 7) 2 80 := ⟨by decide +kernel, rfl⟩
theorem eX2_layOn_80 : Dc cX2_layOn 80 (.iload 6) 2 82 := ⟨by decide +kernel, rfl⟩
theorem eX2_layOn_82 : Dc cX2_layOn 82 (.if_icmp .eq 6) 3 85 := ⟨by decide +kernel, rfl⟩
theorem eX2_layOn_85 : Dc cX2_layOn 85 (.iinc 3 1) 3 88 := ⟨by decide +kernel, rfl⟩
theorem eX2_layOn_88 : Dc cX2_layOn 88 (.iinc 5 1) 3 91 := ⟨by decide +kernel, rfl⟩
theorem eX2_layOn_91 : Dc cX2_layOn 91 (.goto (-74)) 3 94 := ⟨by decide +kernel, rfl⟩
theorem eX2_layOn_94 : Dc cX2_layOn 94 (.iinc 4 1) 3 97 := ⟨by decide +kernel, rfl⟩
theorem eX2_layOn_97 : Dc cX2_layOn 97 (.goto (-92)) 3 100 := ⟨by decide +kernel, rfl⟩
theorem eX2_layOn_100 : Dc cX2_layOn 100 (.iload_n 3) 1 101 := ⟨by decide +kernel, rfl⟩
theorem eX2_layOn_101 : Dc cX2_layOn 101 (.ireturn) 1 102 := ⟨by decide +kernel, rfl⟩
theorem eX3_init_0 : Dc cX3_init 0 (.aload_n 0) 1 1 := ⟨by decide +kernel, rfl⟩
theorem eX3_init_1 : Dc cX3_init 1 (.invokespecial 3) 3 4 := ⟨by decide +kernel, rfl⟩
theorem eX3_init_4 : Dc cX3_init 4 (.aload_n 0) 1 5 := ⟨by decide +kernel, rfl⟩
theorem eX3_init_5 : Dc cX3_init 5 (.iconst 4) 1 6 := ⟨by decide +kernel, rfl⟩
theorem eX3_init_6 : Dc cX3_init 6 (.putfield 9) 3 9 := ⟨by decide +kernel, rfl⟩
theorem eX3_init_9 : Dc cX3_init 9 (.aload_n 0) 1 10 := ⟨by decide +kernel, rfl⟩
theorem eX3_init_10 : Dc cX3_init 10 (.iconst 4) 1 11 := ⟨by decide +kernel, rfl⟩
theorem eX3_init_11 : Dc cX3_init 11 (.putfield 15) 3 14 := ⟨by decide +kernel, rfl⟩
theorem eX3_init_14 : Dc cX3_init 14 (.aload_n 0) 1 15 := ⟨by decide +kernel, rfl⟩
theorem eX3_init_15 : Dc cX3_init 15 (.bipush 64) 2 17 := ⟨by decide +kernel, rfl⟩
theorem eX3_init_17 : Dc cX3_init 17 (.newarray .int) 2 19 := ⟨by decide +kernel, rfl⟩
theorem eX3_init_19 : Dc cX3_init 19 (.putfield 18) 3 22 := ⟨by decide +kernel, rfl⟩
theorem eX3_init_22 : Dc cX3_init 22 (.aload_n 0) 1 23 := ⟨by decide +kernel, rfl⟩
theorem eX3_init_23 : Dc cX3_init 23 (.bipush 64) 2 25 := ⟨by decide +kernel, rfl⟩
theorem eX3_init_25 : Dc cX3_init 25 (.newarray .int) 2 27 := ⟨by decide +kernel, rfl⟩
theorem eX3_init_27 : Dc cX3_init 27 (.putfield 22) 3 30 := ⟨by decide +kernel, rfl⟩
theorem eX3_init_30 : Dc cX3_init 30 (.return_) 1 31 := ⟨by decide +kernel, rfl⟩
theorem eX3_blank_0 : Dc cX3_blank 0 (.aload_n 0) 1 1 := ⟨by decide +kernel, rfl⟩
theorem eX3_blank_1 : Dc cX3_blank 1 (.iload_n 1) 1 2 := ⟨by decide +kernel, rfl⟩
theorem eX3_blank_2 : Dc cX3_blank 2 (.putfield 9) 3 5 := ⟨by decide +kernel, rfl⟩
theorem eX3_blank_5 : Dc cX3_blank 5 (.aload_n 0) 1 6 := ⟨by decide +kernel, rfl⟩
theorem eX3_blank_6 : Dc cX3_blank 6 (.iload_n 2) 1 7 := ⟨by decide +kernel, rfl⟩
theorem eX3_blank_7 : Dc cX3_blank 7 (.putfield 15) 3 10 := ⟨by decide +kernel, rfl⟩
theorem eX3_blank_10 : Dc cX3_blank 10 (.iconst 0) 1 11 := ⟨by decide +kernel, rfl⟩
theorem eX3_blank_11 : Dc cX3_blank 11 (.istore_n 3) 1 12 := ⟨by decide +kernel, rfl⟩
theorem eX3_blank_12 : Dc cX3_blank 12 (.iload_n 3) 1 13 := ⟨by decide +kernel, rfl⟩
theorem eX3_blank_13 : Dc cX3_blank 13 (.aload_n 0) 1 14 := ⟨by decide +kernel, rfl⟩
theorem eX3_blank_14 : Dc cX3_blank 14 (.getfield 18) 3 17 := ⟨by decide +kernel, rfl⟩
theorem eX3_blank_17 : Dc cX3_blank 17 (.arraylength) 1 18 := ⟨by decide +kernel, rfl⟩
theorem eX3_blank_18 : Dc cX3_blank 18 (.if_icmp .ge 23) 3 21 := ⟨by decide +kernel, rfl⟩
theorem eX3_blank_21 : Dc cX3_blank 21 (.aload_n 0) 1 22 := ⟨by decide +kernel, rfl⟩
theorem eX3_blank_22 : Dc cX3_blank 22 (.getfield 18) 3 25 := ⟨by decide +kernel, rfl⟩
theorem eX3_blank_25 : Dc cX3_blank 25 (.iload_n 3) 1 26 := ⟨by decide +kernel, rfl⟩
theorem eX3_blank_26 : Dc cX3_blank 26 (.iconst 0) 1 27 := ⟨by decide +kernel, rfl⟩
theorem eX3_blank_27 : Dc cX3_blank 27 (.iastore) 1 28 := ⟨by decide +kernel, rfl⟩
theorem eX3_blank_28 : Dc cX3_blank 28 (.aload_n 0) 1 29 := ⟨by decide +kernel, rfl⟩
theorem eX3_blank_29 : Dc cX3_blank 29 (.getfield 22) 3 32 := ⟨by decide +kernel, rfl⟩
theorem eX3_blank_32 : Dc cX3_blank 32 (.iload_n 3) 1 33 := ⟨by decide +kernel, rfl⟩
theorem eX3_blank_33 : Dc cX3_blank 33 (.iconst 0) 1 34 := ⟨by decide +kernel, rfl⟩
theorem eX3_blank_34 : Dc cX3_blank 34 (.iastore) 1 35 := ⟨by decide +kernel, rfl⟩
theorem eX3_blank_35 : Dc cX3_blank 35 (.iinc 3 1) 3 38 := ⟨by decide +kernel, rfl⟩
theorem eX3_blank_38 : Dc cX3_blank 38 (.goto (-26)) 3 41 := ⟨by decide +kernel, rfl⟩
theorem eX3_blank_41 : Dc cX3_blank 41 (.return_) 1 42 := ⟨by decide +kernel, rfl⟩
theorem eX3_copyFrom_0 : Dc cX3_copyFrom 0 (.aload_n 0) 1 1 := ⟨by decide +kernel, rfl⟩
theorem eX3_copyFrom_1 : Dc cX3_copyFrom 1 (.aload_n 1) 1 2 := ⟨by decide +kernel, rfl⟩
theorem eX3_copyFrom_2 : Dc cX3_copyFrom 2 (.getfield 9) 3 5 := ⟨by decide +kernel, rfl⟩
theorem eX3_copyFrom_5 : Dc cX3_copyFrom 5 (.putfield 9) 3 8 := ⟨by decide +kernel, rfl⟩
theorem eX3_copyFrom_8 : Dc cX3_copyFrom 8 (.aload_n 0) 1 9 := ⟨by decide +kernel, rfl⟩
theorem eX3_copyFrom_9 : Dc cX3_copyFrom 9 (.aload_n 1) 1 10 := ⟨by decide +kernel, rfl⟩
theorem eX3_copyFrom_10 : Dc cX3_copyFrom 10 (.getfield 15) 3 13 := ⟨by decide +kernel, rfl⟩
theorem eX3_copyFrom_13 : Dc cX3_copyFrom 13 (.putfield 15) 3 16 := ⟨by decide +kernel, rfl⟩
theorem eX3_copyFrom_16 : Dc cX3_copyFrom 16 (.aload_n 0) 1 17 := ⟨by decide +kernel, rfl⟩
theorem eX3_copyFrom_17 : Dc cX3_copyFrom 17 (.aload_n 1) 1 18 := ⟨by decide +kernel, rfl⟩
theorem eX3_copyFrom_18 : Dc cX3_copyFrom 18 (.getfield 25) 3 21 := ⟨by decide +kernel, rfl⟩
theorem eX3_copyFrom_21 : Dc cX3_copyFrom 21 (.putfield 25) 3 24 := ⟨by decide +kernel, rfl⟩
theorem eX3_copyFrom_24 : Dc cX3_copyFrom 24 (.iconst 0) 1 25 := ⟨by decide +kernel, rfl⟩
theorem eX3_copyFrom_25 : Dc cX3_copyFrom 25 (.istore_n 2) 1 26 := ⟨by decide +kernel, rfl⟩
theorem eX3_copyFrom_26 : Dc cX3_copyFrom 26 (.iload_n 2) 1 27 := ⟨by decide +kernel, rfl⟩
theorem eX3_copyFrom_27 : Dc cX3_copyFrom 27 (.aload_n 0) 1 28 := ⟨by decide +kernel, rfl⟩
theorem eX3_copyFrom_28 : Dc cX3_copyFrom 28 (.getfield 18) 3 31 := ⟨by decide +kernel, rfl⟩
theorem eX3_copyFrom_31 : Dc cX3_copyFrom 31 (.arraylength) 1 32 := ⟨by decide +kernel, rfl⟩
theorem eX3_copyFrom_32 : Dc cX3_copyFrom 32 (.if_icmp .ge 33) 3 35 := ⟨by decide +kernel, rfl⟩
theorem eX3_copyFrom_35 : Dc cX3_copyFrom 35 (.aload_n 0) 1 36 := ⟨by decide +kernel, rfl⟩
theorem eX3_copyFrom_36 : Dc cX3_copyFrom 36 (.getfield 18) 3 39 := ⟨by decide +kernel, rfl⟩
theorem eX3_copyFrom_39 : Dc cX3_copyFrom 39 (.iload_n 2) 1 40 := ⟨by decide +kernel, rfl⟩
theorem eX3_copyFrom_40 : Dc cX3_copyFrom 40 (.aload_n 1) 1 41 := ⟨by decide +kernel, rfl⟩
theorem eX3_copyFrom_41 : Dc cX3_copyFrom 41 (.getfield 18) 3 44 := ⟨by decide +kernel, rfl⟩
theorem eX3_copyFrom_44 : Dc cX3_copyFrom 44 (.iload_n 2) 1 45 := ⟨by decide +kernel, rfl⟩
theorem eX3_copyFrom_45 : Dc cX3_copyFrom 45 (.iaload) 1 46 := ⟨by decide +kernel, rfl⟩
theorem eX3_copyFrom_46 : Dc cX3_copyFrom 46 (.iastore) 1 47 := ⟨by decide +kernel, rfl⟩
theorem eX3_copyFrom_47 : Dc cX3_copyFrom 47 (.aload_n 0) 1 48 := ⟨by decide +kernel, rfl⟩
theorem eX3_copyFrom_48 : Dc cX3_copyFrom 48 (.getfield 22) 3 51 := ⟨by decide +kernel, rfl⟩
theorem eX3_copyFrom_51 : Dc cX3_copyFrom 51 (.iload_n 2) 1 52 := ⟨by decide +kernel, rfl⟩
theorem eX3_copyFrom_52 : Dc cX3_copyFrom 52 (.aload_n 1) 1 53 := ⟨by decide +kernel, rfl⟩
theorem eX3_copyFrom_53 : Dc cX3_copyFrom 53 (.getfield 22) 3 56 := ⟨by decide +kernel, rfl⟩
theorem eX3_copyFrom_56 : Dc cX3_copyFrom 56 (.iload_n 2) 1 57 := ⟨by decide +kernel, rfl⟩
theorem eX3_copyFrom_57 : Dc cX3_copyFrom 57 (.iaload) 1 58 := ⟨by decide +kernel, rfl⟩
theorem eX3_copyFrom_58 : Dc cX3_copyFrom 58 (.iastore) 1 59 := ⟨by decide +kernel, rfl⟩
theorem eX3_copyFrom_59 : Dc cX3_copyFrom 59 (.iinc 2 1) 3 62 := ⟨by decide +kernel, rfl⟩
theorem eX3_copyFrom_62 : Dc cX3_copyFrom 62 (.goto (-36)) 3 65 := ⟨by decide +kernel, rfl⟩
theorem eX3_copyFrom_65 : Dc cX3_copyFrom 65 (.return_) 1 66 := ⟨by decide +kernel, rfl⟩
theorem eX3_hasDot_0 : Dc cX3_hasDot 0 (.iload_n 1) 1 1 := ⟨by decide +kernel, rfl⟩
theorem eX3_hasDot_1 : Dc cX3_hasDot 1 (.ifCond .lt 27) 3 4 := ⟨by decide +kernel, rfl⟩
theorem eX3_hasDot_4 : Dc cX3_hasDot 4 (.iload_n 1) 1 5 := ⟨by decide +kernel, rfl⟩
theorem eX3_hasDot_5 : Dc cX3_hasDot 5 (.aload_n 0) 1 6 := ⟨by decide +kernel, rfl⟩
theorem eX3_hasDot_6 : Dc cX3_hasDot 6 (.getfield 9) 3 9 := ⟨by decide +kernel, rfl⟩
theorem eX3_hasDot_9 : Dc cX3_hasDot 9 (.if_icmp .ge 19) 3 12 := ⟨by decide +kernel, rfl⟩
theorem eX3_hasDot_12 : Dc cX3_hasDot 12 (.iload_n 2) 1 13 := ⟨by decide +kernel, rfl⟩
theorem eX3_hasDot_13 : Dc cX3_hasDot 13 (.ifCond .lt 15) 3 16 := ⟨by decide +kernel, rfl⟩
theorem eX3_hasDot_16 : Dc cX3_hasDot 16 (.iload_n 2) 1 17 := ⟨by decide +kernel, rfl⟩
theorem eX3_hasDot_17 : Dc cX3_hasDot 17 (.aload_n 0) 1 18 := ⟨by decide +kernel, rfl⟩
theorem eX3_hasDot_18 : Dc cX3_hasDot 18 (.getfield 15) 3 21 := ⟨by decide +kernel, rfl⟩
theorem eX3_hasDot_21 : Dc cX3_hasDot 21 (.if_icmp .ge 7) 3 24 := ⟨by decide +kernel, rfl⟩
theorem eX3_hasDot_24 : Dc cX3_hasDot 24 (.iconst 1) 1 25 := ⟨by decide +kernel, rfl⟩
theorem eX3_hasDot_25 : Dc cX3_hasDot 25 (.goto 4) 3 28 := ⟨by decide +kernel, rfl⟩
theorem eX3_hasDot_28 : Dc cX3_hasDot 28 (.iconst 0) 1 29 := ⟨by decide +kernel, rfl⟩
theorem eX3_hasDot_29 : Dc cX3_hasDot 29 (.ireturn) 1 30 := ⟨by decide +kernel, rfl⟩
theorem eX3_lines_0 : Dc cX3_lines 0 (.iload_n 1) 1 1 := ⟨by decide +kernel, rfl⟩
theorem eX3_lines_1 : Dc cX3_lines 1 (.ifCond .ne 10) 3 4 := ⟨by decide +kernel, rfl⟩
theorem eX3_lines_4 : Dc cX3_lines 4 (.aload_n 0) 1 5 := ⟨by decide +kernel, rfl⟩
theorem eX3_lines_5 : Dc cX3_lines 5 (.getfield 15) 3 8 := ⟨by decide +kernel, rfl⟩
theorem eX3_lines_8 : Dc cX3_lines 8 (.goto 7) 3 11 := ⟨by decide +kernel, rfl⟩
theorem eX3_lines_11 : Dc cX3_lines 11 (.aload_n 0) 1 12 := ⟨by decide +kernel, rfl⟩
theorem eX3_lines_12 : Dc cX3_lines 12 (.getfield 9) 3 15 := ⟨by decide +kernel, rfl⟩
theorem eX3_lines_15 : Dc cX3_lines 15 (.ireturn) 1 16 := ⟨by decide +kernel, rfl⟩
theorem eX3_breadth_0 : Dc cX3_breadth 0 (.iload_n 1) 1 1 := ⟨by decide +kernel, rfl⟩
theorem eX3_breadth_1 : Dc cX3_breadth 1 (.ifCond .ne 10) 3 4 := ⟨by decide +kernel, rfl⟩
theorem eX3_breadth_4 : Dc cX3_breadth 4 (.aload_n 0) 1 5 := ⟨by decide +kernel, rfl⟩
theorem eX3_breadth_5 : Dc cX3_breadth 5 (.getfield 9) 3 8 := ⟨by decide +kernel, rfl⟩
theorem eX3_breadth_8 : Dc cX3_breadth 8 (.goto 7) 3 11 := ⟨by decide +kernel, rfl⟩
theorem eX3_breadth_11 : Dc cX3_breadth 11 (.aload_n 0) 1 12 := ⟨by decide +kernel, rfl⟩
theorem eX3_breadth_12 : Dc cX3_breadth 12 (.getfield 15) 3 15 := ⟨by decide +kernel, rfl⟩
theorem eX3_breadth_15 : Dc cX3_breadth 15 (.ireturn) 1 16 := ⟨by decide +kernel, rfl⟩
theorem eX3_index_0 : Dc cX3_index 0 (.iload_n 0) 1 1 := ⟨by decide +kernel, rfl⟩
theorem eX3_index_1 : Dc cX3_index 1 (.ifCond .ne 12) 3 4 := ⟨by decide +kernel, rfl⟩
theorem eX3_index_4 : Dc cX3_index 4 (.iload_n 1) 1 5 := ⟨by decide +kernel, rfl⟩
theorem eX3_index_5 : Dc cX3_index 5 (.bipush 8) 2 7 := ⟨by decide +kernel, rfl⟩
theorem eX3_index_7 : Dc cX3_index 7 (.imul) 1 8 := ⟨by decide +kernel, rfl⟩
theorem eX3_index_8 : Dc cX3_index 8 (.iload_n 2) 1 9 := ⟨by decide +kernel, rfl⟩
theorem eX3_index_9 : Dc cX3_index 9 (.iadd) 1 10 := ⟨by decide +kernel, rfl⟩
theorem eX3_index_10 : Dc cX3_index 10 (.goto 9) 3 13 := ⟨by decide +kernel, rfl⟩
theorem eX3_index_13 : Dc cX3_index 13 (.iload_n 2) 1 14 := ⟨by decide +kernel, rfl⟩
theorem eX3_index_14 : Dc cX3_index 14 (.bipush 8) 2 16 := ⟨by decide +kernel, rfl⟩
theorem eX3_index_16 : Dc cX3_index 16 (.imul) 1 17 := ⟨by decide +kernel, rfl⟩
theorem eX3_index_17 : Dc cX3_index 17 (.iload_n 1) 1 18 := ⟨by decide +kernel, rfl⟩
theorem eX3_index_18 : Dc cX3_index 18 (.iadd) 1 19 := ⟨by decide +kernel, rfl⟩
theorem eX3_index_19 : Dc cX3_index 19 (.ireturn) 1 20 := ⟨by decide +kernel, rfl⟩
theorem eX3_changeGrey_0 : Dc cX3_changeGrey 0 (.iconst 0) 1 1 := ⟨by decide +kernel, rfl⟩
theorem eX3_changeGrey_1 : Dc cX3_changeGrey 1 (.iload_n 2) 1 2 := ⟨by decide +kernel, rfl⟩
theorem eX3_changeGrey_2 : Dc cX3_changeGrey 2 (.iload_n 1) 1 3 := ⟨by decide +kernel, rfl⟩
theorem eX3_changeGrey_3 : Dc cX3_changeGrey 3 (.invokestatic 28) 3 6 := ⟨by decide +kernel, rfl⟩
theorem eX3_changeGrey_6 : Dc cX3_changeGrey 6 (.istore 4) 2 8 := ⟨by decide +kernel, rfl⟩
theorem eX3_changeGrey_8 : Dc cX3_changeGrey 8 (.aload_n 0) 1 9 := ⟨by decide +kernel, rfl⟩
theorem eX3_changeGrey_9 : Dc cX3_changeGrey 9 (.getfield 18) 3 12 := ⟨by decide +kernel, rfl⟩
theorem eX3_changeGrey_12 : Dc cX3_changeGrey 12 (.iload 4) 2 14 := ⟨by decide +kernel, rfl⟩
theorem eX3_changeGrey_14 : Dc cX3_changeGrey 14 (.iaload) 1 15 := ⟨by decide +kernel, rfl⟩
theorem eX3_changeGrey_15 : Dc cX3_changeGrey 15 (.istore 5) 2 17 := ⟨by decide +kernel, rfl⟩
theorem eX3_changeGrey_17 : Dc cX3_changeGrey 17 (.aload_n 0) 1 18 := ⟨by decide +kernel, rfl⟩
theorem eX3_changeGrey_18 : Dc cX3_changeGrey 18 (.getfield 18) 3 21 := ⟨by decide +kernel, rfl⟩
theorem eX3_changeGrey_21 : Dc cX3_changeGrey 21 (.iload 4) 2 23 := ⟨by decide +kernel, rfl⟩
theorem eX3_changeGrey_23 : Dc cX3_changeGrey 23 (.iload_n 3) 1 24 := ⟨by decide +kernel, rfl⟩
theorem eX3_changeGrey_24 : Dc cX3_changeGrey 24 (.iastore) 1 25 := ⟨by decide +kernel, rfl⟩
theorem eX3_changeGrey_25 : Dc cX3_changeGrey 25 (.iload 5) 2 27 := ⟨by decide +kernel, rfl⟩
theorem eX3_changeGrey_27 : Dc cX3_changeGrey 27 (.ireturn) 1 28 := ⟨by decide +kernel, rfl⟩
theorem eX3_changeMark_0 : Dc cX3_changeMark 0 (.iconst 0) 1 1 := ⟨by decide +kernel, rfl⟩
theorem eX3_changeMark_1 : Dc cX3_changeMark 1 (.iload_n 2) 1 2 := ⟨by decide +kernel, rfl⟩
theorem eX3_changeMark_2 : Dc cX3_changeMark 2 (.iload_n 1) 1 3 := ⟨by decide +kernel, rfl⟩
theorem eX3_changeMark_3 : Dc cX3_changeMark 3 (.invokestatic 28) 3 6 := ⟨by decide +kernel, rfl⟩
theorem eX3_changeMark_6 : Dc cX3_changeMark 6 (.istore 4) 2 8 := ⟨by decide +kernel, rfl⟩
theorem eX3_changeMark_8 : Dc cX3_changeMark 8 (.aload_n 0) 1 9 := ⟨by decide +kernel, rfl⟩
theorem eX3_changeMark_9 : Dc cX3_changeMark 9 (.getfield 22) 3 12 := ⟨by decide +kernel, rfl⟩
theorem eX3_changeMark_12 : Dc cX3_changeMark 12 (.iload 4) 2 14 := ⟨by decide +kernel, rfl⟩
theorem eX3_changeMark_14 : Dc cX3_changeMark 14 (.iaload) 1 15 := ⟨by decide +kernel, rfl⟩
theorem eX3_changeMark_15 : Dc cX3_changeMark 15 (.istore 5) 2 17 := ⟨by decide +kernel, rfl⟩
theorem eX3_changeMark_17 : Dc cX3_changeMark 17 (.aload_n 0) 1 18 := ⟨by decide +kernel, rfl⟩
theorem eX3_changeMark_18 : Dc cX3_changeMark 18 (.getfield 22) 3 21 := ⟨by decide +kernel, rfl⟩
theorem eX3_changeMark_21 : Dc cX3_changeMark 21 (.iload 4) 2 23 := ⟨by decide +kernel, rfl⟩
theorem eX3_changeMark_23 : Dc cX3_changeMark 23 (.iload_n 3) 1 24 := ⟨by decide +kernel, rfl⟩
theorem eX3_changeMark_24 : Dc cX3_changeMark 24 (.iastore) 1 25 := ⟨by decide +kernel, rfl⟩
theorem eX3_changeMark_25 : Dc cX3_changeMark 25 (.iload 5) 2 27 := ⟨by decide +kernel, rfl⟩
theorem eX3_changeMark_27 : Dc cX3_changeMark 27 (.ireturn) 1 28 := ⟨by decide +kernel, rfl⟩
theorem eX3_greyAt_0 : Dc cX3_greyAt 0 (.aload_n 0) 1 1 := ⟨by decide +kernel, rfl⟩
theorem eX3_greyAt_1 : Dc cX3_greyAt 1 (.getfield 18) 3 4 := ⟨by decide +kernel, rfl⟩
theorem eX3_greyAt_4 : Dc cX3_greyAt 4 (.iload_n 1) 1 5 := ⟨by decide +kernel, rfl⟩
theorem eX3_greyAt_5 : Dc cX3_greyAt 5 (.iload_n 2) 1 6 := ⟨by decide +kernel, rfl⟩
theorem eX3_greyAt_6 : Dc cX3_greyAt 6 (.iload_n 3) 1 7 := ⟨by decide +kernel, rfl⟩
theorem eX3_greyAt_7 : Dc cX3_greyAt 7 (.invokestatic 28) 3 10 := ⟨by decide +kernel, rfl⟩
theorem eX3_greyAt_10 : Dc cX3_greyAt 10 (.iaload) 1 11 := ⟨by decide +kernel, rfl⟩
theorem eX3_greyAt_11 : Dc cX3_greyAt 11 (.ireturn) 1 12 := ⟨by decide +kernel, rfl⟩
theorem eX3_markAt_0 : Dc cX3_markAt 0 (.aload_n 0) 1 1 := ⟨by decide +kernel, rfl⟩
theorem eX3_markAt_1 : Dc cX3_markAt 1 (.getfield 22) 3 4 := ⟨by decide +kernel, rfl⟩
theorem eX3_markAt_4 : Dc cX3_markAt 4 (.iload_n 1) 1 5 := ⟨by decide +kernel, rfl⟩
theorem eX3_markAt_5 : Dc cX3_markAt 5 (.iload_n 2) 1 6 := ⟨by decide +kernel, rfl⟩
theorem eX3_markAt_6 : Dc cX3_markAt 6 (.iload_n 3) 1 7 := ⟨by decide +kernel, rfl⟩
theorem eX3_markAt_7 : Dc cX3_markAt 7 (.invokestatic 28) 3 10 := ⟨by decide +kernel, rfl⟩
theorem eX3_markAt_10 : Dc cX3_markAt 10 (.iaload) 1 11 := ⟨by decide +kernel, rfl⟩
theorem eX3_markAt_11 : Dc cX3_markAt 11 (.ireturn) 1 12 := ⟨by decide +kernel, rfl⟩
theorem eX3_extraAt_0 : Dc cX3_extraAt 0 (.aload_n 0) 1 1 := ⟨by decide +kernel, rfl⟩
theorem eX3_extraAt_1 : Dc cX3_extraAt 1 (.getfield 22) 3 4 := ⟨by decide +kernel, rfl⟩
theorem eX3_extraAt_4 : Dc cX3_extraAt 4 (.iload_n 1) 1 5 := ⟨by decide +kernel, rfl⟩
theorem eX3_extraAt_5 : Dc cX3_extraAt 5 (.iload_n 2) 1 6 := ⟨by decide +kernel, rfl⟩
theorem eX3_extraAt_6 : Dc cX3_extraAt 6 (.iload_n 3) 1 7 := ⟨by decide +kernel, rfl⟩
theorem eX3_extraAt_7 : Dc cX3_extraAt 7 (.invokestatic 28) 3 10 := ⟨by decide +kernel, rfl⟩
theorem eX3_extraAt_10 : Dc cX3_extraAt 10 (.iaload) 1 11 := ⟨by decide +kernel, rfl⟩
theorem eX3_extraAt_11 : Dc cX3_extraAt 11 (.istore 4) 2 13 := ⟨by decide +kernel, rfl⟩
theorem eX3_extraAt_13 : Dc cX3_extraAt 13 (.iload 4) 2 15 := ⟨by decide +kernel, rfl⟩
theorem eX3_extraAt_15 : Dc cX3_extraAt 15 (.iconst 1) 1 16 := ⟨by decide +kernel, rfl⟩
theorem eX3_extraAt_16 : Dc cX3_extraAt 16 (.if_icmp .ne 8) 3 19 := ⟨by decide +kernel, rfl⟩
theorem eX3_extraAt_19 : Dc cX3_extraAt 19 (.bipush 100) 2 21 := ⟨by decide +kernel, rfl⟩
theorem eX3_extraAt_21 : Dc cX3_extraAt 21 (.goto 15) 3 24 := ⟨by decide +kernel, rfl⟩
theorem eX3_extraAt_24 : Dc cX3_extraAt 24 (.iload 4) 2 26 := ⟨by decide +kernel, rfl⟩
theorem eX3_extraAt_26 : Dc cX3_extraAt 26 (.iconst 2) 1 27 := ⟨by decide +kernel, rfl⟩
theorem eX3_extraAt_27 : Dc cX3_extraAt 27 (.if_icmp .ne 8) 3 30 := ⟨by decide +kernel, rfl⟩
theorem eX3_extraAt_30 : Dc cX3_extraAt 30 (.bipush (-100)) 2 32 := ⟨by decide +kernel, rfl⟩
theorem eX3_extraAt_32 : Dc cX3_extraAt 32 (.goto 4) 3 35 := ⟨by decide +kernel, rfl⟩
theorem eX3_extraAt_35 : Dc cX3_extraAt 35 (.iconst 0) 1 36 := ⟨by decide +kernel, rfl⟩
theorem eX3_extraAt_36 : Dc cX3_extraAt 36 (.ireturn) 1 37 := ⟨by decide +kernel, rfl⟩
theorem eX3_gapAt_0 : Dc cX3_gapAt 0 (.aload_n 0) 1 1 := ⟨by decide +kernel, rfl⟩
theorem eX3_gapAt_1 : Dc cX3_gapAt 1 (.getfield 18) 3 4 := ⟨by decide +kernel, rfl⟩
theorem eX3_gapAt_4 : Dc cX3_gapAt 4 (.iload_n 1) 1 5 := ⟨by decide +kernel, rfl⟩
theorem eX3_gapAt_5 : Dc cX3_gapAt 5 (.iload_n 2) 1 6 := ⟨by decide +kernel, rfl⟩
theorem eX3_gapAt_6 : Dc cX3_gapAt 6 (.iload_n 3) 1 7 := ⟨by decide +kernel, rfl⟩
theorem eX3_gapAt_7 : Dc cX3_gapAt 7 (.iconst 1) 1 8 := ⟨by decide +kernel, rfl⟩
theorem eX3_gapAt_8 : Dc cX3_gapAt 8 (.isub) 1 9 := ⟨by decide +kernel, rfl⟩
theorem eX3_gapAt_9 : Dc cX3_gapAt 9 (.iconst 0) 1 10 := ⟨by decide +kernel, rfl⟩
theorem eX3_gapAt_10 : Dc cX3_gapAt 10 (.invokestatic 32) 3 13 := ⟨by decide +kernel, rfl⟩
theorem eX3_gapAt_13 : Dc cX3_gapAt 13 (.invokestatic 28) 3 16 := ⟨by decide +kernel, rfl⟩
theorem eX3_gapAt_16 : Dc cX3_gapAt 16 (.iaload) 1 17 := ⟨by decide +kernel, rfl⟩
theorem eX3_gapAt_17 : Dc cX3_gapAt 17 (.istore 4) 2 19 := ⟨by decide +kernel, rfl⟩
theorem eX3_gapAt_19 : Dc cX3_gapAt 19 (.aload_n 0) 1 20 := ⟨by decide +kernel, rfl⟩
theorem eX3_gapAt_20 : Dc cX3_gapAt 20 (.getfield 18) 3 23 := ⟨by decide +kernel, rfl⟩
theorem eX3_gapAt_23 : Dc cX3_gapAt 23 (.iload_n 1) 1 24 := ⟨by decide +kernel, rfl⟩
theorem eX3_gapAt_24 : Dc cX3_gapAt 24 (.iload_n 2) 1 25 := ⟨by decide +kernel, rfl⟩
theorem eX3_gapAt_25 : Dc cX3_gapAt 25 (.iload_n 3) 1 26 := ⟨by decide +kernel, rfl⟩
theorem eX3_gapAt_26 : Dc cX3_gapAt 26 (.iconst 1) 1 27 := ⟨by decide +kernel, rfl⟩
theorem eX3_gapAt_27 : Dc cX3_gapAt 27 (.iadd) 1 28 := ⟨by decide +kernel, rfl⟩
theorem eX3_gapAt_28 : Dc cX3_gapAt 28 (.aload_n 0) 1 29 := ⟨by decide +kernel, rfl⟩
theorem eX3_gapAt_29 : Dc cX3_gapAt 29 (.iload_n 1) 1 30 := ⟨by decide +kernel, rfl⟩
theorem eX3_gapAt_30 : Dc cX3_gapAt 30 (.invokevirtual 38) 3 33 := ⟨by decide +kernel, rfl⟩
theorem eX3_gapAt_33 : Dc cX3_gapAt 33 (.iconst 1) 1 34 := ⟨by decide +kernel, rfl⟩
theorem eX3_gapAt_34 : Dc cX3_gapAt 34 (.isub) 1 35 := ⟨by decide +kernel, rfl⟩
theorem eX3_gapAt_35 : Dc cX3_gapAt 35 (.invokestatic 42) 3 38 := ⟨by decide +kernel, rfl⟩
theorem eX3_gapAt_38 : Dc cX3_gapAt 38 (.invokestatic 28) 3 41 := ⟨by decide +kernel, rfl⟩
theorem eX3_gapAt_41 : Dc cX3_gapAt 41 (.iaload) 1 42 := ⟨by decide +kernel, rfl⟩
theorem eX3_gapAt_42 : Dc cX3_gapAt 42 (.istore 5) 2 44 := ⟨by decide +kernel, rfl⟩
theorem eX3_gapAt_44 : Dc cX3_gapAt 44 (.iload 4) 2 46 := ⟨by decide +kernel, rfl⟩
theorem eX3_gapAt_46 : Dc cX3_gapAt 46 (.iload 5) 2 48 := ⟨by decide +kernel, rfl⟩
theorem eX3_gapAt_48 : Dc cX3_gapAt 48 (.isub) 1 49 := ⟨by decide +kernel, rfl⟩
theorem eX3_gapAt_49 : Dc cX3_gapAt 49 (.invokestatic 45) 3 52 := ⟨by decide +kernel, rfl⟩
theorem eX3_gapAt_52 : Dc cX3_gapAt 52 (.ireturn) 1 53 := ⟨by decide +kernel, rfl⟩
theorem eX3_edgeAt_0 : Dc cX3_edgeAt 0 (.aload_n 0) 1 1 := ⟨by decide +kernel, rfl⟩
theorem eX3_edgeAt_1 : Dc cX3_edgeAt 1 (.iconst 0) 1 2 := ⟨by decide +kernel, rfl⟩
theorem eX3_edgeAt_2 : Dc cX3_edgeAt 2 (.iload_n 2) 1 3 := ⟨by decide +kernel, rfl⟩
theorem eX3_edgeAt_3 : Dc cX3_edgeAt 3 (.iload_n 1) 1 4 := ⟨by decide +kernel, rfl⟩
theorem eX3_edgeAt_4 : Dc cX3_edgeAt 4 (.invokevirtual 48) 3 7 := ⟨by decide +kernel, rfl⟩
theorem eX3_edgeAt_7 : Dc cX3_edgeAt 7 (.aload_n 0) 1 8 := ⟨by decide +kernel, rfl⟩
theorem eX3_edgeAt_8 : Dc cX3_edgeAt 8 (.iconst 1) 1 9 := ⟨by decide +kernel, rfl⟩
theorem eX3_edgeAt_9 : Dc cX3_edgeAt 9 (.iload_n 1) 1 10 := ⟨by decide +kernel, rfl⟩
theorem eX3_edgeAt_10 : Dc cX3_edgeAt 10 (.iload_n 2) 1 11 := ⟨by decide +kernel, rfl⟩
theorem eX3_edgeAt_11 : Dc cX3_edgeAt 11 (.invokevirtual 48) 3 14 := ⟨by decide +kernel, rfl⟩
theorem eX3_edgeAt_14 : Dc cX3_edgeAt 14 (.iadd) 1 15 := ⟨by decide +kernel, rfl⟩
theorem eX3_edgeAt_15 : Dc cX3_edgeAt 15 (.ireturn) 1 16 := ⟨by decide +kernel, rfl⟩
theorem eX3_weightAt_0 : Dc cX3_weightAt 0 (.aload_n 0) 1 1 := ⟨by decide +kernel, rfl⟩
theorem eX3_weightAt_1 : Dc cX3_weightAt 1 (.iload_n 1) 1 2 := ⟨by decide +kernel, rfl⟩
theorem eX3_weightAt_2 : Dc cX3_weightAt 2 (.iload_n 2) 1 3 := ⟨by decide +kernel, rfl⟩
theorem eX3_weightAt_3 : Dc cX3_weightAt 3 (.invokevirtual 51) 3 6 := ⟨by decide +kernel, rfl⟩
theorem eX3_weightAt_6 : Dc cX3_weightAt 6 (.aload_n 0) 1 7 := ⟨by decide +kernel, rfl⟩
theorem eX3_weightAt_7 : Dc cX3_weightAt 7 (.iconst 0) 1 8 := ⟨by decide +kernel, rfl⟩
theorem eX3_weightAt_8 : Dc cX3_weightAt 8 (.iload_n 2) 1 9 := ⟨by decide +kernel, rfl⟩
theorem eX3_weightAt_9 : Dc cX3_weightAt 9 (.iload_n 1) 1 10 := ⟨by decide +kernel, rfl⟩
theorem eX3_weightAt_10 : Dc cX3_weightAt 10 (.invokevirtual 54) 3 13 := ⟨by decide +kernel, rfl⟩
theorem eX3_weightAt_13 : Dc cX3_weightAt 13 (.iadd) 1 14 := ⟨by decide +kernel, rfl⟩
theorem eX3_weightAt_14 : Dc cX3_weightAt 14 (.ireturn) 1 15 := ⟨by decide +kernel, rfl⟩
theorem eX3_standingCost_0 : Dc cX3_standingCost 0 (.aload_n 0) 1 1 := ⟨by decide +kernel, rfl⟩
theorem eX3_standingCost_1 : Dc cX3_standingCost 1 (.iload_n 1) 1 2 := ⟨by decide +kernel, rfl⟩
theorem eX3_standingCost_2 : Dc cX3_standingCost 2 (.iload_n 2) 1 3 := ⟨by decide +kernel, rfl⟩
theorem eX3_standingCost_3 : Dc cX3_standingCost 3 (.iload_n 3) 1 4 := ⟨by decide +kernel, rfl⟩
theorem eX3_standingCost_4 : Dc cX3_standingCost 4 (.invokevirtual 54) 3 7 := ⟨by decide +kernel, rfl⟩
theorem eX3_standingCost_7 : Dc cX3_standingCost 7 (.aload_n 0) 1 8 := ⟨by decide +kernel, rfl⟩
theorem eX3_standingCost_8 : Dc cX3_standingCost 8 (.iload_n 1) 1 9 := ⟨by decide +kernel, rfl⟩
theorem eX3_standingCost_9 : Dc cX3_standingCost 9 (.iload_n 2) 1 10 := ⟨by decide +kernel, rfl⟩
theorem eX3_standingCost_10 : Dc cX3_standingCost 10 (.iload_n 3) 1 11 := ⟨by decide +kernel, rfl⟩
theorem eX3_standingCost_11 : Dc cX3_standingCost 11 (.invokevirtual 48) 3 14 := ⟨by decide +kernel, rfl⟩
theorem eX3_standingCost_14 : Dc cX3_standingCost 14 (.iadd) 1 15 := ⟨by decide +kernel, rfl⟩
theorem eX3_standingCost_15 : Dc cX3_standingCost 15 (.istore 4) 2 17 := ⟨by decide +kernel, rfl⟩
theorem eX3_standingCost_17 : Dc cX3_standingCost 17 (.aload_n 0) 1 18 := ⟨by decide +kernel, rfl⟩
theorem eX3_standingCost_18 : Dc cX3_standingCost 18 (.getfield 25) 3 21 := ⟨by decide +kernel, rfl⟩
theorem eX3_standingCost_21 : Dc cX3_standingCost 21 (.ifCond .ne 17) 3 24 := ⟨by decide +kernel, rfl⟩
theorem eX3_standingCost_24 : Dc cX3_standingCost 24 (.iload 4) 2 26 := ⟨by decide +kernel, rfl⟩
theorem eX3_standingCost_26 : Dc cX3_standingCost 26 (.aload_n 0) 1 27 := ⟨by decide +kernel, rfl⟩
theorem eX3_standingCost_27 : Dc cX3_standingCost 27 (.iconst 1) 1 28 := ⟨by decide +kernel, rfl⟩
theorem eX3_standingCost_28 : Dc cX3_standingCost 28 (.iload_n 1) 1 29 := ⟨by decide +kernel, rfl⟩
theorem eX3_standingCost_29 : Dc cX3_standingCost 29 (.isub) 1 30 := ⟨by decide +kernel, rfl⟩
theorem eX3_standingCost_30 : Dc cX3_standingCost 30 (.iload_n 3) 1 31 := ⟨by decide +kernel, rfl⟩
theorem eX3_standingCost_31 : Dc cX3_standingCost 31 (.iload_n 2) 1 32 := ⟨by decide +kernel, rfl⟩
theorem eX3_standingCost_32 : Dc cX3_standingCost 32 (.invokevirtual 48) 3 35 := ⟨by decide +kernel, rfl⟩
theorem eX3_standingCost_35 : Dc cX3_standingCost 35 (.iadd) 1 36 := ⟨by decide +kernel, rfl⟩
theorem eX3_standingCost_36 : Dc cX3_standingCost 36 (.istore 4) 2 38 := ⟨by decide +kernel, rfl⟩
theorem eX3_standingCost_38 : Dc cX3_standingCost 38 (.iload 4) 2 40 := ⟨by decide +kernel, rfl⟩
theorem eX3_standingCost_40 : Dc cX3_standingCost 40 (.ireturn) 1 41 := ⟨by decide +kernel, rfl⟩
theorem eX3_turningCost_0 : Dc cX3_turningCost 0 (.aload_n 0) 1 1 := ⟨by decide +kernel, rfl⟩
theorem eX3_turningCost_1 : Dc cX3_turningCost 1 (.getfield 25) 3 4 := ⟨by decide +kernel, rfl⟩
theorem eX3_turningCost_4 : Dc cX3_turningCost 4 (.ifCond .eq 9) 3 7 := ⟨by decide +kernel, rfl⟩
theorem eX3_turningCost_7 : Dc cX3_turningCost 7 (.iload 4) 2 9 := ⟨by decide +kernel, rfl⟩
theorem eX3_turningCost_9 : Dc cX3_turningCost 9 (.iload_n 3) 1 10 := ⟨by decide +kernel, rfl⟩
theorem eX3_turningCost_10 : Dc cX3_turningCost 10 (.if_icmp .ne 5) 3 13 := ⟨by decide +kernel, rfl⟩
theorem eX3_turningCost_13 : Dc cX3_turningCost 13 (.iconst 0) 1 14 := ⟨by decide +kernel, rfl⟩
theorem eX3_turningCost_14 : Dc cX3_turningCost 14 (.ireturn) 1 15 := ⟨by decide +kernel, rfl⟩
theorem eX3_turningCost_15 : Dc cX3_turningCost 15 (.iload 4) 2 17 := ⟨by decide +kernel, rfl⟩
theorem eX3_turningCost_17 : Dc cX3_turningCost 17 (.iload_n 3) 1 18 := ⟨by decide +kernel, rfl⟩
theorem eX3_turningCost_18 : Dc cX3_turningCost 18 (.if_icmp .ge 13) 3 21 := ⟨by decide +kernel, rfl⟩
theorem eX3_turningCost_21 : Dc cX3_turningCost 21 (.iload_n 3) 1 22 := ⟨by decide +kernel, rfl⟩
theorem eX3_turningCost_22 : Dc cX3_turningCost 22 (.iconst 1) 1 23 := ⟨by decide +kernel, rfl⟩
theorem eX3_turningCost_23 : Dc cX3_turningCost 23 (.isub) 1 24 := ⟨by decide +kernel, rfl⟩
theorem eX3_turningCost_24 : Dc cX3_turningCost 24 (.iconst 0) 1 25 := ⟨by decide +kernel, rfl⟩
theorem eX3_turningCost_25 : Dc cX3_turningCost 25 (.invokestatic 32) 3 28 := ⟨by decide +kernel, rfl⟩
theorem eX3_turningCost_28 : Dc cX3_turningCost 28 (.goto 16) 3 31 := ⟨by decide +kernel, rfl⟩
theorem eX3_turningCost_31 : Dc cX3_turningCost 31 (.iload_n 3) 1 32 := ⟨by decide +kernel, rfl⟩
theorem eX3_turningCost_32 : Dc cX3_turningCost 32 (.iconst 1) 1 33 := ⟨by decide +kernel, rfl⟩
theorem eX3_turningCost_33 : Dc cX3_turningCost 33 (.iadd) 1 34 := ⟨by decide +kernel, rfl⟩
theorem eX3_turningCost_34 : Dc cX3_turningCost 34 (.aload_n 0) 1 35 := ⟨by decide +kernel, rfl⟩
theorem eX3_turningCost_35 : Dc cX3_turningCost 35 (.iload_n 1) 1 36 := ⟨by decide +kernel, rfl⟩
theorem eX3_turningCost_36 : Dc cX3_turningCost 36 (.invokevirtual 38) 3 39 := ⟨by decide +kernel, rfl⟩
theorem eX3_turningCost_39 : Dc cX3_turningCost 39 (.iconst 1) 1 40 := ⟨by decide +kernel, rfl⟩
theorem eX3_turningCost_40 : Dc cX3_turningCost 40 (.isub) 1 41 := ⟨by decide +kernel, rfl⟩
theorem eX3_turningCost_41 : Dc cX3_turningCost 41 (.invokestatic 42) 3 44 := ⟨by decide +kernel, rfl⟩
theorem eX3_turningCost_44 : Dc cX3_turningCost 44 (.istore 5) 2 46 := ⟨by decide +kernel, rfl⟩
theorem eX3_turningCost_46 : Dc cX3_turningCost 46 (.iload_n 2) 1 47 := ⟨by decide +kernel, rfl⟩
theorem eX3_turningCost_47 : Dc cX3_turningCost 47 (.iconst 1) 1 48 := ⟨by decide +kernel, rfl⟩
theorem eX3_turningCost_48 : Dc cX3_turningCost 48 (.isub) 1 49 := ⟨by decide +kernel, rfl⟩
theorem eX3_turningCost_49 : Dc cX3_turningCost 49 (.iconst 0) 1 50 := ⟨by decide +kernel, rfl⟩
theorem eX3_turningCost_50 : Dc cX3_turningCost 50 (.invokestatic 32) 3 53 := ⟨by decide +kernel, rfl⟩
theorem eX3_turningCost_53 : Dc cX3_turningCost 53 (.istore 6) 2 55 := ⟨by decide +kernel, rfl⟩
theorem eX3_turningCost_55 : Dc cX3_turningCost 55 (.aload_n 0) 1 56 := ⟨by decide +kernel, rfl⟩
theorem eX3_turningCost_56 : Dc cX3_turningCost 56 (.getfield 18) 3 59 := ⟨by decide +kernel, rfl⟩
theorem eX3_turningCost_59 : Dc cX3_turningCost 59 (.iload_n 1) 1 60 := ⟨by decide +kernel, rfl⟩
theorem eX3_turningCost_60 : Dc cX3_turningCost 60 (.iload 6) 2 62 := ⟨by decide +kernel, rfl⟩
theorem eX3_turningCost_62 : Dc cX3_turningCost 62 (.iload_n 3) 1 63 := ⟨by decide +kernel, rfl⟩
theorem eX3_turningCost_63 : Dc cX3_turningCost 63 (.invokestatic 28) 3 66 := ⟨by decide +kernel, rfl⟩
theorem eX3_turningCost_66 : Dc cX3_turningCost 66 (.iaload) 1 67 := ⟨by decide +kernel, rfl⟩
theorem eX3_turningCost_67 : Dc cX3_turningCost 67 (.aload_n 0) 1 68 := ⟨by decide +kernel, rfl⟩
theorem eX3_turningCost_68 : Dc cX3_turningCost 68 (.getfield 18) 3 71 := ⟨by decide +kernel, rfl⟩
theorem eX3_turningCost_71 : Dc cX3_turningCost 71 (.iload_n 1) 1 72 := ⟨by decide +kernel, rfl⟩
theorem eX3_turningCost_72 : Dc cX3_turningCost 72 (.iload_n 2) 1 73 := ⟨by decide +kernel, rfl⟩
theorem eX3_turningCost_73 : Dc cX3_turningCost 73 (.iload 5) 2 75 := ⟨by decide +kernel, rfl⟩
theorem eX3_turningCost_75 : Dc cX3_turningCost 75 (.invokestatic 28) 3 78 := ⟨by decide +kernel, rfl⟩
theorem eX3_turningCost_78 : Dc cX3_turningCost 78 (.iaload) 1 79 := ⟨by decide +kernel, rfl⟩
theorem eX3_turningCost_79 : Dc cX3_turningCost 79 (.isub) 1 80 := ⟨by decide +kernel, rfl⟩
theorem eX3_turningCost_80 : Dc cX3_turningCost 80 (.invokestatic 45) 3 83 := ⟨by decide +kernel, rfl⟩
theorem eX3_turningCost_83 : Dc cX3_turningCost 83 (.ireturn) 1 84 := ⟨by decide +kernel, rfl⟩
theorem eX3_lightestInRow_0 : Dc cX3_lightestInRow 0 (.iconst 0) 1 1 := ⟨by decide +kernel, rfl⟩
theorem eX3_lightestInRow_1 : Dc cX3_lightestInRow 1 (.istore_n 2) 1 2 := ⟨by decide +kernel, rfl⟩
theorem eX3_lightestInRow_2 : Dc cX3_lightestInRow 2 (.iconst 1) 1 3 := ⟨by decide +kernel, rfl⟩
theorem eX3_lightestInRow_3 : Dc cX3_lightestInRow 3 (.istore_n 3) 1 4 := ⟨by decide +kernel, rfl⟩
theorem eX3_lightestInRow_4 : Dc cX3_lightestInRow 4 (.iload_n 3) 1 5 := ⟨by decide +kernel, rfl⟩
theorem eX3_lightestInRow_5 : Dc cX3_lightestInRow 5 (.aload_n 0) 1 6 := ⟨by decide +kernel, rfl⟩
theorem eX3_lightestInRow_6 : Dc cX3_lightestInRow 6 (.getfield 9) 3 9 := ⟨by decide +kernel, rfl⟩
theorem eX3_lightestInRow_9 : Dc cX3_lightestInRow 9 (.if_icmp .ge 26) 3 12 := ⟨by decide +kernel, rfl⟩
theorem eX3_lightestInRow_12 : Dc cX3_lightestInRow 12 (.aload_n 0) 1 13 := ⟨by decide +kernel, rfl⟩
theorem eX3_lightestInRow_13 : Dc cX3_lightestInRow 13 (.iload_n 3) 1 14 := ⟨by decide +kernel, rfl⟩
theorem eX3_lightestInRow_14 : Dc cX3_lightestInRow 14 (.iload_n 1) 1 15 := ⟨by decide +kernel, rfl⟩
theorem eX3_lightestInRow_15 : Dc cX3_lightestInRow 15 (.invokevirtual 57) 3 18 := ⟨by decide +kernel, rfl⟩
theorem eX3_lightestInRow_18 : Dc cX3_lightestInRow 18 (.aload_n 0) 1 19 := ⟨by decide +kernel, rfl⟩
theorem eX3_lightestInRow_19 : Dc cX3_lightestInRow 19 (.iload_n 2) 1 20 := ⟨by decide +kernel, rfl⟩
theorem eX3_lightestInRow_20 : Dc cX3_lightestInRow 20 (.iload_n 1) 1 21 := ⟨by decide +kernel, rfl⟩
theorem eX3_lightestInRow_21 : Dc cX3_lightestInRow 21 (.invokevirtual 57) 3 24 := ⟨by decide +kernel, rfl⟩
theorem eX3_lightestInRow_24 : Dc cX3_lightestInRow 24 (.if_icmp .ge 5) 3 27 := ⟨by decide +kernel, rfl⟩
theorem eX3_lightestInRow_27 : Dc cX3_lightestInRow 27 (.iload_n 3) 1 28 := ⟨by decide +kernel, rfl⟩
theorem eX3_lightestInRow_28 : Dc cX3_lightestInRow 28 (.istore_n 2) 1 29 := ⟨by decide +kernel, rfl⟩
theorem eX3_lightestInRow_29 : Dc cX3_lightestInRow 29 (.iinc 3 1) 3 32 := ⟨by decide +kernel, rfl⟩
theorem eX3_lightestInRow_32 : Dc cX3_lightestInRow 32 (.goto (-28)) 3 35 := ⟨by decide +kernel, rfl⟩
theorem eX3_lightestInRow_35 : Dc cX3_lightestInRow 35 (.iload_n 2) 1 36 := ⟨by decide +kernel, rfl⟩
theorem eX3_lightestInRow_36 : Dc cX3_lightestInRow 36 (.ireturn) 1 37 := ⟨by decide +kernel, rfl⟩
theorem eX3_lightestInColumn_0 : Dc cX3_lightestInColumn 0 (.iconst 0) 1 1 := ⟨by decide +kernel, rfl⟩
theorem eX3_lightestInColumn_1 : Dc cX3_lightestInColumn 1 (.istore_n 2) 1 2 := ⟨by decide +kernel, rfl⟩
theorem eX3_lightestInColumn_2 : Dc cX3_lightestInColumn 2 (.iconst 1) 1 3 := ⟨by decide +kernel, rfl⟩
theorem eX3_lightestInColumn_3 : Dc cX3_lightestInColumn 3 (.istore_n 3) 1 4 := ⟨by decide +kernel, rfl⟩
theorem eX3_lightestInColumn_4 : Dc cX3_lightestInColumn 4 (.iload_n 3) 1 5 := ⟨by decide +kernel, rfl⟩
theorem eX3_lightestInColumn_5 : Dc cX3_lightestInColumn 5 (.aload_n 0) 1 6 := ⟨by decide +kernel, rfl⟩
theorem eX3_lightestInColumn_6 : Dc cX3_lightestInColumn 6 (.getfield 15) 3 9 := ⟨by decide +kernel, rfl⟩
theorem eX3_lightestInColumn_9 : Dc cX3_lightestInColumn 9 (.if_icmp .ge 26) 3 12 := ⟨by decide +kernel, rfl⟩
theorem eX3_lightestInColumn_12 : Dc cX3_lightestInColumn 12 (.aload_n 0) 1 13 := ⟨by decide +kernel, rfl⟩
theorem eX3_lightestInColumn_13 : Dc cX3_lightestInColumn 13 (.iload_n 1) 1 14 := ⟨by decide +kernel, rfl⟩
theorem eX3_lightestInColumn_14 : Dc cX3_lightestInColumn 14 (.iload_n 3) 1 15 := ⟨by decide +kernel, rfl⟩
theorem eX3_lightestInColumn_15 : Dc cX3_lightestInColumn 15 (.invokevirtual 57) 3 18 := ⟨by decide +kernel, rfl⟩
theorem eX3_lightestInColumn_18 : Dc cX3_lightestInColumn 18 (.aload_n 0) 1 19 := ⟨by decide +kernel, rfl⟩
theorem eX3_lightestInColumn_19 : Dc cX3_lightestInColumn 19 (.iload_n 1) 1 20 := ⟨by decide +kernel, rfl⟩
theorem eX3_lightestInColumn_20 : Dc cX3_lightestInColumn 20 (.iload_n 2) 1 21 := ⟨by decide +kernel, rfl⟩
theorem eX3_lightestInColumn_21 : Dc cX3_lightestInColumn 21 (.invokevirtual 57) 3 24 := ⟨by decide +kernel, rfl⟩
theorem eX3_lightestInColumn_24 : Dc cX3_lightestInColumn 24 (.if_icmp .ge 5) 3 27 := ⟨by decide +kernel, rfl⟩
theorem eX3_lightestInColumn_27 : Dc cX3_lightestInColumn 27 (.iload_n 3) 1 28 := ⟨by decide +kernel, rfl⟩
theorem eX3_lightestInColumn_28 : Dc cX3_lightestInColumn 28 (.istore_n 2) 1 29 := ⟨by decide +kernel, rfl⟩
theorem eX3_lightestInColumn_29 : Dc cX3_lightestInColumn 29 (.iinc 3 1) 3 32 := ⟨by decide +kernel, rfl⟩
theorem eX3_lightestInColumn_32 : Dc cX3_lightestInColumn 32 (.goto (-28)) 3 35 := ⟨by decide +kernel, rfl⟩
theorem eX3_lightestInColumn_35 : Dc cX3_lightestInColumn 35 (.iload_n 2) 1 36 := ⟨by decide +kernel, rfl⟩
theorem eX3_lightestInColumn_36 : Dc cX3_lightestInColumn 36 (.ireturn) 1 37 := ⟨by decide +kernel, rfl⟩
end
section
theorem eX3_sumOfGreys_0 : Dc cX3_sumOfGreys 0 (.iconst 0) 1 1 := ⟨by decide +kernel, rfl⟩
theorem eX3_sumOfGreys_1 : Dc cX3_sumOfGreys 1 (.istore_n 1) 1 2 := ⟨by decide +kernel, rfl⟩
theorem eX3_sumOfGreys_2 : Dc cX3_sumOfGreys 2 (.iconst 0) 1 3 := ⟨by decide +kernel, rfl⟩
theorem eX3_sumOfGreys_3 : Dc cX3_sumOfGreys 3 (.istore_n 2) 1 4 := ⟨by decide +kernel, rfl⟩
theorem eX3_sumOfGreys_4 : Dc cX3_sumOfGreys 4 (.iload_n 2) 1 5 := ⟨by decide +kernel, rfl⟩
theorem eX3_sumOfGreys_5 : Dc cX3_sumOfGreys 5 (.aload_n 0) 1 6 := ⟨by decide +kernel, rfl⟩
theorem eX3_sumOfGreys_6 : Dc cX3_sumOfGreys 6 (.getfield 15) 3 9 := ⟨by decide +kernel, rfl⟩
theorem eX3_sumOfGreys_9 : Dc cX3_sumOfGreys 9 (.if_icmp .ge 35) 3 12 := ⟨by decide +kernel, rfl⟩
theorem eX3_sumOfGreys_12 : Dc cX3_sumOfGreys 12 (.iconst 0) 1 13 := ⟨by decide +kernel, rfl⟩
theorem eX3_sumOfGreys_13 : Dc cX3_sumOfGreys 13 (.istore_n 3) 1 14 := ⟨by decide +kernel, rfl⟩
theorem eX3_sumOfGreys_14 : Dc cX3_sumOfGreys 14 (.iload_n 3) 1 15 := ⟨by decide +kernel, rfl⟩
theorem eX3_sumOfGreys_15 : Dc cX3_sumOfGreys 15 (.aload_n 0) 1 16 := ⟨by decide +kernel, rfl⟩
theorem eX3_sumOfGreys_16 : Dc cX3_sumOfGreys 16 (.getfield 9) 3 19 := ⟨by decide +kernel, rfl⟩
theorem eX3_sumOfGreys_19 : Dc cX3_sumOfGreys 19 (.if_icmp .ge 19) 3 22 := ⟨by decide +kernel, rfl⟩
theorem eX3_sumOfGreys_22 : Dc cX3_sumOfGreys 22 (.iload_n 1) 1 23 := ⟨by decide +kernel, rfl⟩
theorem eX3_sumOfGreys_23 : Dc cX3_sumOfGreys 23 (.aload_n 0) 1 24 := ⟨by decide +kernel, rfl⟩
theorem eX3_sumOfGreys_24 : Dc cX3_sumOfGreys 24 (.iconst 0) 1 25 := ⟨by decide +kernel, rfl⟩
theorem eX3_sumOfGreys_25 : Dc cX3_sumOfGreys 25 (.iload_n 2) 1 26 := ⟨by decide +kernel, rfl⟩
theorem eX3_sumOfGreys_26 : Dc cX3_sumOfGreys 26 (.iload_n 3) 1 27 := ⟨by decide +kernel, rfl⟩
theorem eX3_sumOfGreys_27 : Dc cX3_sumOfGreys 27 (.invokevirtual 60) 3 30 := ⟨by decide +kernel, rfl⟩
theorem eX3_sumOfGreys_30 : Dc cX3_sumOfGreys 30 (.iadd) 1 31 := ⟨by decide +kernel, rfl⟩
theorem eX3_sumOfGreys_31 : Dc cX3_sumOfGreys 31 (.istore_n 1) 1 32 := ⟨by decide +kernel, rfl⟩
theorem eX3_sumOfGreys_32 : Dc cX3_sumOfGreys 32 (.iinc 3 1) 3 35 := ⟨by decide +kernel, rfl⟩
theorem eX3_sumOfGreys_35 : Dc cX3_sumOfGreys 35 (.goto (-21)) 3 38 := ⟨by decide +kernel, rfl⟩
theorem eX3_sumOfGreys_38 : Dc cX3_sumOfGreys 38 (.iinc 2 1) 3 41 := ⟨by decide +kernel, rfl⟩
theorem eX3_sumOfGreys_41 : Dc cX3_sumOfGreys 41 (.goto (-37)) 3 44 := ⟨by decide +kernel, rfl⟩
theorem eX3_sumOfGreys_44 : Dc cX3_sumOfGreys 44 (.iload_n 1) 1 45 := ⟨by decide +kernel, rfl⟩
theorem eX3_sumOfGreys_45 : Dc cX3_sumOfGreys 45 (.ireturn) 1 46 := ⟨by decide +kernel, rfl⟩
theorem eX3_dotsMarked_0 : Dc cX3_dotsMarked 0 (.iconst 0) 1 1 := ⟨by decide +kernel, rfl⟩
theorem eX3_dotsMarked_1 : Dc cX3_dotsMarked 1 (.istore_n 2) 1 2 := ⟨by decide +kernel, rfl⟩
theorem eX3_dotsMarked_2 : Dc cX3_dotsMarked 2 (.iconst 0) 1 3 := ⟨by decide +kernel, rfl⟩
theorem eX3_dotsMarked_3 : Dc cX3_dotsMarked 3 (.istore_n 3) 1 4 := ⟨by decide +kernel, rfl⟩
theorem eX3_dotsMarked_4 : Dc cX3_dotsMarked 4 (.iload_n 3) 1 5 := ⟨by decide +kernel, rfl⟩
theorem eX3_dotsMarked_5 : Dc cX3_dotsMarked 5 (.aload_n 0) 1 6 := ⟨by decide +kernel, rfl⟩
theorem eX3_dotsMarked_6 : Dc cX3_dotsMarked 6 (.getfield 15) 3 9 := ⟨by decide +kernel, rfl⟩
theorem eX3_dotsMarked_9 : Dc cX3_dotsMarked 9 (.if_icmp .ge 42) 3 12 := ⟨by decide +kernel, rfl⟩
theorem eX3_dotsMarked_12 : Dc cX3_dotsMarked 12 (.iconst 0) 1 13 := ⟨by decide +kernel, rfl⟩
theorem eX3_dotsMarked_13 : Dc cX3_dotsMarked 13 (.istore 4) 2 15 := ⟨by decide +kernel, rfl⟩
theorem eX3_dotsMarked_15 : Dc cX3_dotsMarked 15 (.iload 4) 2 17 := ⟨by decide +kernel, rfl⟩
theorem eX3_dotsMarked_17 : Dc cX3_dotsMarked 17 (.aload_n 0) 1 18 := ⟨by decide +kernel, rfl⟩
theorem eX3_dotsMarked_18 : Dc cX3_dotsMarked 18 (.getfield 9) 3 21 := ⟨by decide +kernel, rfl⟩
theorem eX3_dotsMarked_21 : Dc cX3_dotsMarked 21 (.if_icmp .ge 24) 3 24 := ⟨by decide +kernel, rfl⟩
theorem eX3_dotsMarked_24 : Dc cX3_dotsMarked 24 (.aload_n 0) 1 25 := ⟨by decide +kernel, rfl⟩
theorem eX3_dotsMarked_25 : Dc cX3_dotsMarked 25 (.iconst 0) 1 26 := ⟨by decide +kernel, rfl⟩
theorem eX3_dotsMarked_26 : Dc cX3_dotsMarked 26 (.iload_n 3) 1 27 := ⟨by decide +kernel, rfl⟩
theorem eX3_dotsMarked_27 : Dc cX3_dotsMarked 27 (.iload 4) 2 29 := ⟨by decide +kernel, rfl⟩
theorem eX3_dotsMarked_29 : Dc cX3_dotsMarked 29 (.invokevirtual 63) 3 32 := ⟨by decide +kernel, rfl⟩
theorem eX3_dotsMarked_32 : Dc cX3_dotsMarked 32 (.iload_n 1) 1 33 := ⟨by decide +kernel, rfl⟩
theorem eX3_dotsMarked_33 : Dc cX3_dotsMarked 33 (.if_icmp .ne 6) 3 36 := ⟨by decide +kernel, rfl⟩
theorem eX3_dotsMarked_36 : Dc cX3_dotsMarked 36 (.iinc 2 1) 3 39 := ⟨by decide +kernel, rfl⟩
theorem eX3_dotsMarked_39 : Dc cX3_dotsMarked 39 (.iinc 4 1) 3 42 := ⟨by decide +kernel, rfl⟩
theorem eX3_dotsMarked_42 : Dc cX3_dotsMarked 42 (.goto (-27)) 3 45 := ⟨by decide +kernel, rfl⟩
theorem eX3_dotsMarked_45 : Dc cX3_dotsMarked 45 (.iinc 3 1) 3 48 := ⟨by decide +kernel, rfl⟩
theorem eX3_dotsMarked_48 : Dc cX3_dotsMarked 48 (.goto (-44)) 3 51 := ⟨by decide +kernel, rfl⟩
theorem eX3_dotsMarked_51 : Dc cX3_dotsMarked 51 (.iload_n 2) 1 52 := ⟨by decide +kernel, rfl⟩
theorem eX3_dotsMarked_52 : Dc cX3_dotsMarked 52 (.ireturn) 1 53 := ⟨by decide +kernel, rfl⟩
theorem eX3_keptDotsOf_0 : Dc cX3_keptDotsOf 0 (.iconst 0) 1 1 := ⟨by decide +kernel, rfl⟩
theorem eX3_keptDotsOf_1 : Dc cX3_keptDotsOf 1 (.istore_n 2) 1 2 := ⟨by decide +kernel, rfl⟩
theorem eX3_keptDotsOf_2 : Dc cX3_keptDotsOf 2 (.iconst 0) 1 3 := ⟨by decide +kernel, rfl⟩
theorem eX3_keptDotsOf_3 : Dc cX3_keptDotsOf 3 (.istore_n 3) 1 4 := ⟨by decide +kernel, rfl⟩
theorem eX3_keptDotsOf_4 : Dc cX3_keptDotsOf 4 (.iload_n 3) 1 5 := ⟨by decide +kernel, rfl⟩
theorem eX3_keptDotsOf_5 : Dc cX3_keptDotsOf 5 (.aload_n 0) 1 6 := ⟨by decide +kernel, rfl⟩
theorem eX3_keptDotsOf_6 : Dc cX3_keptDotsOf 6 (.aload_n 1) 1 7 := ⟨by decide +kernel, rfl⟩
theorem eX3_keptDotsOf_7 : Dc cX3_keptDotsOf 7 (.getfield 66) 3 10 := ⟨by decide +kernel, rfl⟩
theorem eX3_keptDotsOf_10 : Dc cX3_keptDotsOf 10 (.invokevirtual 71) 3 13 := ⟨by decide +kernel, rfl⟩
theorem eX3_keptDotsOf_13 : Dc cX3_keptDotsOf 13 (.if_icmp .ge 31) 3 16 := ⟨by decide +kernel, rfl⟩
theorem eX3_keptDotsOf_16 : Dc cX3_keptDotsOf 16 (.aload_n 0) 1 17 := ⟨by decide +kernel, rfl⟩
theorem eX3_keptDotsOf_17 : Dc cX3_keptDotsOf 17 (.aload_n 1) 1 18 := ⟨by decide +kernel, rfl⟩
theorem eX3_keptDotsOf_18 : Dc cX3_keptDotsOf 18 (.getfield 66) 3 21 := ⟨by decide +kernel, rfl⟩
theorem eX3_keptDotsOf_21 : Dc cX3_keptDotsOf 21 (.iload_n 3) 1 22 := ⟨by decide +kernel, rfl⟩
theorem eX3_keptDotsOf_22 : Dc cX3_keptDotsOf 22 (.aload_n 1) 1 23 := ⟨by decide +kernel, rfl⟩
theorem eX3_keptDotsOf_23 : Dc cX3_keptDotsOf 23 (.getfield 74) 3 26 := ⟨by decide +kernel, rfl⟩
theorem eX3_keptDotsOf_26 : Dc cX3_keptDotsOf 26 (.iload_n 3) 1 27 := ⟨by decide +kernel, rfl⟩
theorem eX3_keptDotsOf_27 : Dc cX3_keptDotsOf 27 (.iaload) 1 28 := ⟨by decide +kernel, rfl⟩
theorem eX3_keptDotsOf_28 : Dc cX3_keptDotsOf 28 (.invokevirtual 63) 3 31 := ⟨by decide +kernel, rfl⟩
theorem eX3_keptDotsOf_31 : Dc cX3_keptDotsOf 31 (.iconst 1) 1 32 := ⟨by decide +kernel, rfl⟩
theorem eX3_keptDotsOf_32 : Dc cX3_keptDotsOf 32 (.if_icmp .ne 6) 3 35 := ⟨by decide +kernel, rfl⟩
theorem eX3_keptDotsOf_35 : Dc cX3_keptDotsOf 35 (.iinc 2 1) 3 38 := ⟨by decide +kernel, rfl⟩
theorem eX3_keptDotsOf_38 : Dc cX3_keptDotsOf 38 (.iinc 3 1) 3 41 := ⟨by decide +kernel, rfl⟩
theorem eX3_keptDotsOf_41 : Dc cX3_keptDotsOf 41 (.goto (-37)) 3 44 := ⟨by decide +kernel, rfl⟩
theorem eX3_keptDotsOf_44 : Dc cX3_keptDotsOf 44 (.iload_n 2) 1 45 := ⟨by decide +kernel, rfl⟩
theorem eX3_keptDotsOf_45 : Dc cX3_keptDotsOf 45 (.ireturn) 1 46 := ⟨by decide +kernel, rfl⟩
theorem eX3_takeOut_0 : Dc cX3_takeOut 0 (.aload_n 0) 1 1 := ⟨by decide +kernel, rfl⟩
theorem eX3_takeOut_1 : Dc cX3_takeOut 1 (.aload_n 1) 1 2 := ⟨by decide +kernel, rfl⟩
theorem eX3_takeOut_2 : Dc cX3_takeOut 2 (.getfield 66) 3 5 := ⟨by decide +kernel, rfl⟩
theorem eX3_takeOut_5 : Dc cX3_takeOut 5 (.invokevirtual 38) 3 8 := ⟨by decide +kernel, rfl⟩
theorem eX3_takeOut_8 : Dc cX3_takeOut 8 (.iconst 1) 1 9 := ⟨by decide +kernel, rfl⟩
theorem eX3_takeOut_9 : Dc cX3_takeOut 9 (.isub) 1 10 := ⟨by decide +kernel, rfl⟩
theorem eX3_takeOut_10 : Dc cX3_takeOut 10 (.istore_n 2) 1 11 := ⟨by decide +kernel, rfl⟩
theorem eX3_takeOut_11 : Dc cX3_takeOut 11 (.iconst 0) 1 12 := ⟨by decide +kernel, rfl⟩
theorem eX3_takeOut_12 : Dc cX3_takeOut 12 (.istore_n 3) 1 13 := ⟨by decide +kernel, rfl⟩
theorem eX3_takeOut_13 : Dc cX3_takeOut 13 (.iload_n 3) 1 14 := ⟨by decide +kernel, rfl⟩
theorem eX3_takeOut_14 : Dc cX3_takeOut 14 (.aload_n 0) 1 15 := ⟨by decide +kernel, rfl⟩
theorem eX3_takeOut_15 : Dc cX3_takeOut 15 (.aload_n 1) 1 16 := ⟨by decide +kernel, rfl⟩
theorem eX3_takeOut_16 : Dc cX3_takeOut 16 (.getfield 66) 3 19 := ⟨by decide +kernel, rfl⟩
theorem eX3_takeOut_19 : Dc cX3_takeOut 19 (.invokevirtual 71) 3 22 := ⟨by decide +kernel, rfl⟩
theorem eX3_takeOut_22 : Dc cX3_takeOut 22 (.if_icmp .ge 44) 3 25 := ⟨by decide +kernel, rfl⟩
theorem eX3_takeOut_25 : Dc cX3_takeOut 25 (.aload_n 1) 1 26 := ⟨by decide +kernel, rfl⟩
theorem eX3_takeOut_26 : Dc cX3_takeOut 26 (.getfield 74) 3 29 := ⟨by decide +kernel, rfl⟩
theorem eX3_takeOut_29 : Dc cX3_takeOut 29 (.iload_n 3) 1 30 := ⟨by decide +kernel, rfl⟩
theorem eX3_takeOut_30 : Dc cX3_takeOut 30 (.iaload) 1 31 := ⟨by decide +kernel, rfl⟩
theorem eX3_takeOut_31 : Dc cX3_takeOut 31 (.istore 4) 2 33 := ⟨by decide +kernel, rfl⟩
theorem eX3_takeOut_33 : Dc cX3_takeOut 33 (.iload 4) 2 35 := ⟨by decide +kernel, rfl⟩
theorem eX3_takeOut_35 : Dc cX3_takeOut 35 (.iload_n 2) 1 36 := ⟨by decide +kernel, rfl⟩
theorem eX3_takeOut_36 : Dc cX3_takeOut 36 (.if_icmp .ge 24) 3 39 := ⟨by decide +kernel, rfl⟩
theorem eX3_takeOut_39 : Dc cX3_takeOut 39 (.aload_n 0) 1 40 := ⟨by decide +kernel, rfl⟩
theorem eX3_takeOut_40 : Dc cX3_takeOut 40 (.aload_n 1) 1 41 := ⟨by decide +kernel, rfl⟩
theorem eX3_takeOut_41 : Dc cX3_takeOut 41 (.getfield 66) 3 44 := ⟨by decide +kernel, rfl⟩
theorem eX3_takeOut_44 : Dc cX3_takeOut 44 (.iload_n 3) 1 45 := ⟨by decide +kernel, rfl⟩
theorem eX3_takeOut_45 : Dc cX3_takeOut 45 (.iload 4) 2 47 := ⟨by decide +kernel, rfl⟩
theorem eX3_takeOut_47 : Dc cX3_takeOut 47 (.iconst 1) 1 48 := ⟨by decide +kernel, rfl⟩
theorem eX3_takeOut_48 : Dc cX3_takeOut 48 (.iadd) 1 49 := ⟨by decide +kernel, rfl⟩
theorem eX3_takeOut_49 : Dc cX3_takeOut 49 (.iload 4) 2 51 := ⟨by decide +kernel, rfl⟩
theorem eX3_takeOut_51 : Dc cX3_takeOut 51 (.invokevirtual 77) 3 54 := ⟨by decide +kernel, rfl⟩
theorem eX3_takeOut_54 : Dc cX3_takeOut 54 (.iinc 4 1) 3 57 := ⟨by decide +kernel, rfl⟩
theorem eX3_takeOut_57 : Dc cX3_takeOut 57 (.goto (-24)) 3 60 := ⟨by decide +kernel, rfl⟩
theorem eX3_takeOut_60 : Dc cX3_takeOut 60 (.iinc 3 1) 3 63 := ⟨by decide +kernel, rfl⟩
theorem eX3_takeOut_63 : Dc cX3_takeOut 63 (.goto (-50)) 3 66 := ⟨by decide +kernel, rfl⟩
theorem eX3_takeOut_66 : Dc cX3_takeOut 66 (.aload_n 0) 1 67 := ⟨by decide +kernel, rfl⟩
theorem eX3_takeOut_67 : Dc cX3_takeOut 67 (.aload_n 1) 1 68 := ⟨by decide +kernel, rfl⟩
theorem eX3_takeOut_68 : Dc cX3_takeOut 68 (.getfield 66) 3 71 := ⟨by decide +kernel, rfl⟩
theorem eX3_takeOut_71 : Dc cX3_takeOut 71 (.iconst (-1)) 1 72 := ⟨by decide +kernel, rfl⟩
theorem eX3_takeOut_72 : Dc cX3_takeOut 72 (.invokevirtual 81) 3 75 := ⟨by decide +kernel, rfl⟩
theorem eX3_takeOut_75 : Dc cX3_takeOut 75 (.return_) 1 76 := ⟨by decide +kernel, rfl⟩
theorem eX3_putIn_0 : Dc cX3_putIn 0 (.aload_n 0) 1 1 := ⟨by decide +kernel, rfl⟩
theorem eX3_putIn_1 : Dc cX3_putIn 1 (.aload_n 1) 1 2 := ⟨by decide +kernel, rfl⟩
theorem eX3_putIn_2 : Dc cX3_putIn 2 (.getfield 66) 3 5 := ⟨by decide +kernel, rfl⟩
theorem eX3_putIn_5 : Dc cX3_putIn 5 (.invokevirtual 38) 3 8 := ⟨by decide +kernel, rfl⟩
theorem eX3_putIn_8 : Dc cX3_putIn 8 (.istore_n 2) 1 9 := ⟨by decide +kernel, rfl⟩
theorem eX3_putIn_9 : Dc cX3_putIn 9 (.iconst 0) 1 10 := ⟨by decide +kernel, rfl⟩
theorem eX3_putIn_10 : Dc cX3_putIn 10 (.istore_n 3) 1 11 := ⟨by decide +kernel, rfl⟩
theorem eX3_putIn_11 : Dc cX3_putIn 11 (.iload_n 3) 1 12 := ⟨by decide +kernel, rfl⟩
theorem eX3_putIn_12 : Dc cX3_putIn 12 (.aload_n 0) 1 13 := ⟨by decide +kernel, rfl⟩
theorem eX3_putIn_13 : Dc cX3_putIn 13 (.aload_n 1) 1 14 := ⟨by decide +kernel, rfl⟩
theorem eX3_putIn_14 : Dc cX3_putIn 14 (.getfield 66) 3 17 := ⟨by decide +kernel, rfl⟩
theorem eX3_putIn_17 : Dc cX3_putIn 17 (.invokevirtual 71) 3 20 := ⟨by decide +kernel, rfl⟩
theorem eX3_putIn_20 : Dc cX3_putIn 20 (.if_icmp .ge 120) 3 23 := ⟨by decide +kernel, rfl⟩
theorem eX3_putIn_23 : Dc cX3_putIn 23 (.aload_n 1) 1 24 := ⟨by decide +kernel, rfl⟩
theorem eX3_putIn_24 : Dc cX3_putIn 24 (.getfield 74) 3 27 := ⟨by decide +kernel, rfl⟩
theorem eX3_putIn_27 : Dc cX3_putIn 27 (.iload_n 3) 1 28 := ⟨by decide +kernel, rfl⟩
theorem eX3_putIn_28 : Dc cX3_putIn 28 (.iaload) 1 29 := ⟨by decide +kernel, rfl⟩
theorem eX3_putIn_29 : Dc cX3_putIn 29 (.istore 4) 2 31 := ⟨by decide +kernel, rfl⟩
theorem eX3_putIn_31 : Dc cX3_putIn 31 (.iload 4) 2 33 := ⟨by decide +kernel, rfl⟩
theorem eX3_putIn_33 : Dc cX3_putIn 33 (.iconst 1) 1 34 := ⟨by decide +kernel, rfl⟩
theorem eX3_putIn_34 : Dc cX3_putIn 34 (.iadd) 1 35 := ⟨by decide +kernel, rfl⟩
theorem eX3_putIn_35 : Dc cX3_putIn 35 (.iload_n 2) 1 36 := ⟨by decide +kernel, rfl⟩
theorem eX3_putIn_36 : Dc cX3_putIn 36 (.iconst 1) 1 37 := ⟨by decide +kernel, rfl⟩
theorem eX3_putIn_37 : Dc cX3_putIn 37 (.isub) 1 38 := ⟨by decide +kernel, rfl⟩
theorem eX3_putIn_38 : Dc cX3_putIn 38 (.invokestatic 42) 3 41 := ⟨by decide +kernel, rfl⟩
theorem eX3_putIn_41 : Dc cX3_putIn 41 (.istore 5) 2 43 := ⟨by decide +kernel, rfl⟩
theorem eX3_putIn_43 : Dc cX3_putIn 43 (.aload_n 0) 1 44 := ⟨by decide +kernel, rfl⟩
theorem eX3_putIn_44 : Dc cX3_putIn 44 (.aload_n 1) 1 45 := ⟨by decide +kernel, rfl⟩
theorem eX3_putIn_45 : Dc cX3_putIn 45 (.getfield 66) 3 48 := ⟨by decide +kernel, rfl⟩
theorem eX3_putIn_48 : Dc cX3_putIn 48 (.iload_n 3) 1 49 := ⟨by decide +kernel, rfl⟩
theorem eX3_putIn_49 : Dc cX3_putIn 49 (.iload 4) 2 51 := ⟨by decide +kernel, rfl⟩
theorem eX3_putIn_51 : Dc cX3_putIn 51 (.invokevirtual 60) 3 54 := ⟨by decide +kernel, rfl⟩
theorem eX3_putIn_54 : Dc cX3_putIn 54 (.aload_n 0) 1 55 := ⟨by decide +kernel, rfl⟩
theorem eX3_putIn_55 : Dc cX3_putIn 55 (.aload_n 1) 1 56 := ⟨by decide +kernel, rfl⟩
theorem eX3_putIn_56 : Dc cX3_putIn 56 (.getfield 66) 3 59 := ⟨by decide +kernel, rfl⟩
theorem eX3_putIn_59 : Dc cX3_putIn 59 (.iload_n 3) 1 60 := ⟨by decide +kernel, rfl⟩
theorem eX3_putIn_60 : Dc cX3_putIn 60 (.iload 5) 2 62 := ⟨by decide +kernel, rfl⟩
theorem eX3_putIn_62 : Dc cX3_putIn 62 (.invokevirtual 60) 3 65 := ⟨by decide +kernel, rfl⟩
theorem eX3_putIn_65 : Dc cX3_putIn 65 (.iadd) 1 66 := ⟨by decide +kernel, rfl⟩
theorem eX3_putIn_66 : Dc cX3_putIn 66 (.iconst 2) 1 67 := ⟨by decide +kernel, rfl⟩
theorem eX3_putIn_67 : Dc cX3_putIn 67 (.idiv) 1 68 := ⟨by decide +kernel, rfl⟩
theorem eX3_putIn_68 : Dc cX3_putIn 68 (.istore 6) 2 70 := ⟨by decide +kernel, rfl⟩
theorem eX3_putIn_70 : Dc cX3_putIn 70 (.iload_n 2) 1 71 := ⟨by decide +kernel, rfl⟩
theorem eX3_putIn_71 : Dc cX3_putIn 71 (.istore 7) 2 73 := ⟨by decide +kernel, rfl⟩
theorem eX3_putIn_73 : Dc cX3_putIn 73 (.iload 7) 2 75 := ⟨by decide +kernel, rfl⟩
theorem eX3_putIn_75 : Dc cX3_putIn 75 (.iload 4) 2 77 := ⟨by decide +kernel, rfl⟩
theorem eX3_putIn_77 : Dc cX3_putIn 77 (.iconst 1) 1 78 := ⟨by decide +kernel, rfl⟩
theorem eX3_putIn_78 : Dc cX3_putIn 78 (.iadd) 1 79 := ⟨by decide +kernel, rfl⟩
theorem eX3_putIn_79 : Dc cX3_putIn 79 (.if_icmp .le 24) 3 82 := ⟨by decide +kernel, rfl⟩
theorem eX3_putIn_82 : Dc cX3_putIn 82 (.aload_n 0) 1 83 := ⟨by decide +kernel, rfl⟩
theorem eX3_putIn_83 : Dc cX3_putIn 83 (.aload_n 1) 1 84 := ⟨by decide +kernel, rfl⟩
theorem eX3_putIn_84 : Dc cX3_putIn 84 (.getfield 66) 3 87 := ⟨by decide +kernel, rfl⟩
theorem eX3_putIn_87 : Dc cX3_putIn 87 (.iload_n 3) 1 88 := ⟨by decide +kernel, rfl⟩
theorem eX3_putIn_88 : Dc cX3_putIn 88 (.iload 7) 2 90 := ⟨by decide +kernel, rfl⟩
theorem eX3_putIn_90 : Dc cX3_putIn 90 (.iconst 1) 1 91 := ⟨by decide +kernel, rfl⟩
theorem eX3_putIn_91 : Dc cX3_putIn 91 (.isub) 1 92 := ⟨by decide +kernel, rfl⟩
theorem eX3_putIn_92 : Dc cX3_putIn 92 (.iload 7) 2 94 := ⟨by decide +kernel, rfl⟩
theorem eX3_putIn_94 : Dc cX3_putIn 94 (.invokevirtual 77) 3 97 := ⟨by decide +kernel, rfl⟩
theorem eX3_putIn_97 : Dc cX3_putIn 97 (.iinc 7 (-1)) 3 100 := ⟨by decide +kernel, rfl⟩
theorem eX3_putIn_100 : Dc cX3_putIn 100 (.goto (-27)) 3 103 := ⟨by decide +kernel, rfl⟩
theorem eX3_putIn_103 : Dc cX3_putIn 103 (.aload_n 1) 1 104 := ⟨by decide +kernel, rfl⟩
theorem eX3_putIn_104 : Dc cX3_putIn 104 (.getfield 66) 3 107 := ⟨by decide +kernel, rfl⟩
theorem eX3_putIn_107 : Dc cX3_putIn 107 (.iload_n 3) 1 108 := ⟨by decide +kernel, rfl⟩
theorem eX3_putIn_108 : Dc cX3_putIn 108 (.iload 4) 2 110 := ⟨by decide +kernel, rfl⟩
theorem eX3_putIn_110 : Dc cX3_putIn 110 (.iconst 1) 1 111 := ⟨by decide +kernel, rfl⟩
theorem eX3_putIn_111 : Dc cX3_putIn 111 (.iadd) 1 112 := ⟨by decide +kernel, rfl⟩
theorem eX3_putIn_112 : Dc cX3_putIn 112 (.invokestatic 28) 3 115 := ⟨by decide +kernel, rfl⟩
theorem eX3_putIn_115 : Dc cX3_putIn 115 (.istore 7) 2 117 := ⟨by decide +kernel, rfl⟩
theorem eX3_putIn_117 : Dc cX3_putIn 117 (.aload_n 0) 1 118 := ⟨by decide +kernel, rfl⟩
theorem eX3_putIn_118 : Dc cX3_putIn 118 (.getfield 18) 3 121 := ⟨by decide +kernel, rfl⟩
theorem eX3_putIn_121 : Dc cX3_putIn 121 (.iload 7) 2 123 := ⟨by decide +kernel, rfl⟩
theorem eX3_putIn_123 : Dc cX3_putIn 123 (.iload 6) 2 125 := ⟨by decide +kernel, rfl⟩
theorem eX3_putIn_125 : Dc cX3_putIn 125 (.iastore) 1 126 := ⟨by decide +kernel, rfl⟩
theorem eX3_putIn_126 : Dc cX3_putIn 126 (.aload_n 0) 1 127 := ⟨by decide +kernel, rfl⟩
theorem eX3_putIn_127 : Dc cX3_putIn 127 (.getfield 22) 3 130 := ⟨by decide +kernel, rfl⟩
theorem eX3_putIn_130 : Dc cX3_putIn 130 (.iload 7) 2 132 := ⟨by decide +kernel, rfl⟩
theorem eX3_putIn_132 : Dc cX3_putIn 132 (.iconst 0) 1 133 := ⟨by decide +kernel, rfl⟩
theorem eX3_putIn_133 : Dc cX3_putIn 133 (.iastore) 1 134 := ⟨by decide +kernel, rfl⟩
theorem eX3_putIn_134 : Dc cX3_putIn 134 (.iinc 3 1) 3 137 := ⟨by decide +kernel, rfl⟩
theorem eX3_putIn_137 : Dc cX3_putIn 137 (.goto (-126)) 3 140 := ⟨by decide +kernel, rfl⟩
theorem eX3_putIn_140 : Dc cX3_putIn 140 (.aload_n 0) 1 141 := ⟨by decide +kernel, rfl⟩
theorem eX3_putIn_141 : Dc cX3_putIn 141 (.aload_n 1) 1 142 := ⟨by decide +kernel, rfl⟩
theorem eX3_putIn_142 : Dc cX3_putIn 142 (.getfield 66) 3 145 := ⟨by decide +kernel, rfl⟩
theorem eX3_putIn_145 : Dc cX3_putIn 145 (.iconst 1) 1 146 := ⟨by decide +kernel, rfl⟩
theorem eX3_putIn_146 : Dc cX3_putIn 146 (.invokevirtual 81) 3 149 := ⟨by decide +kernel, rfl⟩
theorem eX3_putIn_149 : Dc cX3_putIn 149 (.return_) 1 150 := ⟨by decide +kernel, rfl⟩
theorem eX3_moveDot_0 : Dc cX3_moveDot 0 (.iload_n 1) 1 1 := ⟨by decide +kernel, rfl⟩
theorem eX3_moveDot_1 : Dc cX3_moveDot 1 (.iload_n 2) 1 2 := ⟨by decide +kernel, rfl⟩
theorem eX3_moveDot_2 : Dc cX3_moveDot 2 (.iload_n 3) 1 3 := ⟨by decide +kernel, rfl⟩
theorem eX3_moveDot_3 : Dc cX3_moveDot 3 (.invokestatic 28) 3 6 := ⟨by decide +kernel, rfl⟩
theorem eX3_moveDot_6 : Dc cX3_moveDot 6 (.istore 5) 2 8 := ⟨by decide +kernel, rfl⟩
theorem eX3_moveDot_8 : Dc cX3_moveDot 8 (.iload_n 1) 1 9 := ⟨by decide +kernel, rfl⟩
theorem eX3_moveDot_9 : Dc cX3_moveDot 9 (.iload_n 2) 1 10 := ⟨by decide +kernel, rfl⟩
theorem eX3_moveDot_10 : Dc cX3_moveDot 10 (.iload 4) 2 12 := ⟨by decide +kernel, rfl⟩
theorem eX3_moveDot_12 : Dc cX3_moveDot 12 (.invokestatic 28) 3 15 := ⟨by decide +kernel, rfl⟩
theorem eX3_moveDot_15 : Dc cX3_moveDot 15 (.istore 6) 2 17 := ⟨by decide +kernel, rfl⟩
theorem eX3_moveDot_17 : Dc cX3_moveDot 17 (.aload_n 0) 1 18 := ⟨by decide +kernel, rfl⟩
theorem eX3_moveDot_18 : Dc cX3_moveDot 18 (.getfield 18) 3 21 := ⟨by decide +kernel, rfl⟩
theorem eX3_moveDot_21 : Dc cX3_moveDot 21 (.iload 6) 2 23 := ⟨by decide +kernel, rfl⟩
theorem eX3_moveDot_23 : Dc cX3_moveDot 23 (.aload_n 0) 1 24 := ⟨by decide +kernel, rfl⟩
theorem eX3_moveDot_24 : Dc cX3_moveDot 24 (.getfield 18) 3 27 := ⟨by decide +kernel, rfl⟩
theorem eX3_moveDot_27 : Dc cX3_moveDot 27 (.iload 5) 2 29 := ⟨by decide +kernel, rfl⟩
theorem eX3_moveDot_29 : Dc cX3_moveDot 29 (.iaload) 1 30 := ⟨by decide +kernel, rfl⟩
theorem eX3_moveDot_30 : Dc cX3_moveDot 30 (.iastore) 1 31 := ⟨by decide +kernel, rfl⟩
theorem eX3_moveDot_31 : Dc cX3_moveDot 31 (.aload_n 0) 1 32 := ⟨by decide +kernel, rfl⟩
theorem eX3_moveDot_32 : Dc cX3_moveDot 32 (.getfield 22) 3 35 := ⟨by decide +kernel, rfl⟩
theorem eX3_moveDot_35 : Dc cX3_moveDot 35 (.iload 6) 2 37 := ⟨by decide +kernel, rfl⟩
theorem eX3_moveDot_37 : Dc cX3_moveDot 37 (.aload_n 0) 1 38 := ⟨by decide +kernel, rfl⟩
theorem eX3_moveDot_38 : Dc cX3_moveDot 38 (.getfield 22) 3 41 := ⟨by decide +kernel, rfl⟩
theorem eX3_moveDot_41 : Dc cX3_moveDot 41 (.iload 5) 2 43 := ⟨by decide +kernel, rfl⟩
theorem eX3_moveDot_43 : Dc cX3_moveDot 43 (.iaload) 1 44 := ⟨by decide +kernel, rfl⟩
theorem eX3_moveDot_44 : Dc cX3_moveDot 44 (.iastore) 1 45 := ⟨by decide +kernel, rfl⟩
theorem eX3_moveDot_45 : Dc cX3_moveDot 45 (.return_) 1 46 := ⟨by decide +kernel, rfl⟩
theorem eX3_broaden_0 : Dc cX3_broaden 0 (.iload_n 1) 1 1 := ⟨by decide +kernel, rfl⟩
theorem eX3_broaden_1 : Dc cX3_broaden 1 (.ifCond .ne 16) 3 4 := ⟨by decide +kernel, rfl⟩
theorem eX3_broaden_4 : Dc cX3_broaden 4 (.aload_n 0) 1 5 := ⟨by decide +kernel, rfl⟩
theorem eX3_broaden_5 : Dc cX3_broaden 5 (.dup) 1 6 := ⟨by decide +kernel, rfl⟩
theorem eX3_broaden_6 : Dc cX3_broaden 6 (.getfield 9) 3 9 := ⟨by decide +kernel, rfl⟩
theorem eX3_broaden_9 : Dc cX3_broaden 9 (.iload_n 2) 1 10 := ⟨by decide +kernel, rfl⟩
theorem eX3_broaden_10 : Dc cX3_broaden 10 (.iadd) 1 11 := ⟨by decide +kernel, rfl⟩
theorem eX3_broaden_11 : Dc cX3_broaden 11 (.putfield 9) 3 14 := ⟨by decide +kernel, rfl⟩
theorem eX3_broaden_14 : Dc cX3_broaden 14 (.goto 13) 3 17 := ⟨by decide +kernel, rfl⟩
theorem eX3_broaden_17 : Dc cX3_broaden 17 (.aload_n 0) 1 18 := ⟨by decide +kernel, rfl⟩
theorem eX3_broaden_18 : Dc cX3_broaden 18 (.dup) 1 19 := ⟨by decide +kernel, rfl⟩
theorem eX3_broaden_19 : Dc cX3_broaden 19 (.getfield 15) 3 22 := ⟨by decide +kernel, rfl⟩
theorem eX3_broaden_22 : Dc cX3_broaden 22 (.iload_n 2) 1 23 := ⟨by decide +kernel, rfl⟩
theorem eX3_broaden_23 : Dc cX3_broaden 23 (.iadd) 1 24 := ⟨by decide +kernel, rfl⟩
theorem eX3_broaden_24 : Dc cX3_broaden 24 (.putfield 15) 3 27 := ⟨by decide +kernel, rfl⟩
theorem eX3_broaden_27 : Dc cX3_broaden 27 (.return_) 1 28 := ⟨by decide +kernel, rfl⟩
theorem eX4_init_0 : Dc cX4_init 0 (.aload_n 0) 1 1 := ⟨by decide +kernel, rfl⟩
theorem eX4_init_1 : Dc cX4_init 1 (.invokespecial 3) 3 4 := ⟨by decide +kernel, rfl⟩
theorem eX4_init_4 : Dc cX4_init 4 (.aload_n 0) 1 5 := ⟨by decide +kernel, rfl⟩
theorem eX4_init_5 : Dc cX4_init 5 (.bipush 8) 2 7 := ⟨by decide +kernel, rfl⟩
theorem eX4_init_7 : Dc cX4_init 7 (.newarray .int) 2 9 := ⟨by decide +kernel, rfl⟩
theorem eX4_init_9 : Dc cX4_init 9 (.putfield 9) 3 12 := ⟨by decide +kernel, rfl⟩
theorem eX4_init_12 : Dc cX4_init 12 (.aload_n 0) 1 13 := ⟨by decide +kernel, rfl⟩
theorem eX4_init_13 : Dc cX4_init 13 (.bipush 64) 2 15 := ⟨by decide +kernel, rfl⟩
theorem eX4_init_15 : Dc cX4_init 15 (.newarray .int) 2 17 := ⟨by decide +kernel, rfl⟩
theorem eX4_init_17 : Dc cX4_init 17 (.putfield 15) 3 20 := ⟨by decide +kernel, rfl⟩
theorem eX4_init_20 : Dc cX4_init 20 (.aload_n 0) 1 21 := ⟨by decide +kernel, rfl⟩
theorem eX4_init_21 : Dc cX4_init 21 (.bipush 64) 2 23 := ⟨by decide +kernel, rfl⟩
theorem eX4_init_23 : Dc cX4_init 23 (.newarray .int) 2 25 := ⟨by decide +kernel, rfl⟩
theorem eX4_init_25 : Dc cX4_init 25 (.putfield 18) 3 28 := ⟨by decide +kernel, rfl⟩
theorem eX4_init_28 : Dc cX4_init 28 (.return_) 1 29 := ⟨by decide +kernel, rfl⟩
theorem eX4_findLeast_0 : Dc cX4_findLeast 0 (.aload_n 0) 1 1 := ⟨by decide +kernel, rfl⟩
theorem eX4_findLeast_1 : Dc cX4_findLeast 1 (.iload_n 2) 1 2 := ⟨by decide +kernel, rfl⟩
theorem eX4_findLeast_2 : Dc cX4_findLeast 2 (.putfield 21) 3 5 := ⟨by decide +kernel, rfl⟩
theorem eX4_findLeast_5 : Dc cX4_findLeast 5 (.aload_n 1) 1 6 := ⟨by decide +kernel, rfl⟩
theorem eX4_findLeast_6 : Dc cX4_findLeast 6 (.aload_n 0) 1 7 := ⟨by decide +kernel, rfl⟩
theorem eX4_findLeast_7 : Dc cX4_findLeast 7 (.getfield 21) 3 10 := ⟨by decide +kernel, rfl⟩
theorem eX4_findLeast_10 : Dc cX4_findLeast 10 (.invokevirtual 25) 3 13 := ⟨by decide +kernel, rfl⟩
theorem eX4_findLeast_13 : Dc cX4_findLeast 13 (.istore_n 3) 1 14 := ⟨by decide +kernel, rfl⟩
theorem eX4_findLeast_14 : Dc cX4_findLeast 14 (.aload_n 1) 1 15 := ⟨by decide +kernel, rfl⟩
theorem eX4_findLeast_15 : Dc cX4_findLeast 15 (.aload_n 0) 1 16 := ⟨by decide +kernel, rfl⟩
theorem eX4_findLeast_16 : Dc cX4_findLeast 16 (.getfield 21) 3 19 := ⟨by decide +kernel, rfl⟩
theorem eX4_findLeast_19 : Dc cX4_findLeast 19 (.invokevirtual 31) 3 22 := ⟨by decide +kernel, rfl⟩
theorem eX4_findLeast_22 : Dc cX4_findLeast 22 (.istore 4) 2 24 := ⟨by decide +kernel, rfl⟩
theorem eX4_findLeast_24 : Dc cX4_findLeast 24 (.iload_n 3) 1 25 := ⟨by decide +kernel, rfl⟩
theorem eX4_findLeast_25 : Dc cX4_findLeast 25 (.iconst 1) 1 26 := ⟨by decide +kernel, rfl⟩
theorem eX4_findLeast_26 : Dc cX4_findLeast 26 (.isub) 1 27 := ⟨by decide +kernel, rfl⟩
theorem eX4_findLeast_27 : Dc cX4_findLeast 27 (.istore 5) 2 29 := ⟨by decide +kernel, rfl⟩
theorem eX4_findLeast_29 : Dc cX4_findLeast 29 (.iload 5) 2 31 := ⟨by decide +kernel, rfl⟩
theorem eX4_findLeast_31 : Dc cX4_findLeast 31 (.ifCond .lt 47) 3 34 := ⟨by decide +kernel, rfl⟩
theorem eX4_findLeast_34 : Dc cX4_findLeast 34 (.iconst 0) 1 35 := ⟨by decide +kernel, rfl⟩
theorem eX4_findLeast_35 : Dc cX4_findLeast 35 (.istore 6) 2 37 := ⟨by decide +kernel, rfl⟩
theorem eX4_findLeast_37 : Dc cX4_findLeast 37 (.iload 6) 2 39 := ⟨by decide +kernel, rfl⟩
theorem eX4_findLeast_39 : Dc cX4_findLeast 39 (.iload 4) 2 41 := ⟨by decide +kernel, rfl⟩
theorem eX4_findLeast_41 : Dc cX4_findLeast 41 (.if_icmp .ge 31) 3 44 := ⟨by decide +kernel, rfl⟩
theorem eX4_findLeast_44 : Dc cX4_findLeast 44 (.aload_n 0) 1 45 := ⟨by decide +kernel, rfl⟩
theorem eX4_findLeast_45 : Dc cX4_findLeast 45 (.aload_n 1) 1 46 := ⟨by decide +kernel, rfl⟩
theorem eX4_findLeast_46 : Dc cX4_findLeast 46 (.iload 5) 2 48 := ⟨by decide +kernel, rfl⟩
theorem eX4_findLeast_48 : Dc cX4_findLeast 48 (.iload 6) 2 50 := ⟨by decide +kernel, rfl⟩
theorem eX4_findLeast_50 : Dc cX4_findLeast 50 (.iload 5) 2 52 := ⟨by decide +kernel, rfl⟩
theorem eX4_findLeast_52 : Dc cX4_findLeast 52 (.iload_n 3) 1 53 := ⟨by decide +kernel, rfl⟩
theorem eX4_findLeast_53 : Dc cX4_findLeast 53 (.iconst 1) 1 54 := ⟨by decide +kernel, rfl⟩
theorem eX4_findLeast_54 : Dc cX4_findLeast 54 (.isub) 1 55 := ⟨by decide +kernel, rfl⟩
theorem eX4_findLeast_55 : Dc cX4_findLeast 55 (.if_icmp .ne 7) 3 58 := ⟨by decide +kernel, rfl⟩
theorem eX4_findLeast_58 : Dc cX4_findLeast 58 (.iconst 1) 1 59 := ⟨by decide +kernel, rfl⟩
theorem eX4_findLeast_59 : Dc cX4_findLeast 59 (.goto 4) 3 62 := ⟨by decide +kernel, rfl⟩
theorem eX4_findLeast_62 : Dc cX4_findLeast 62 (.iconst 0) 1 63 := ⟨by decide +kernel, rfl⟩
theorem eX4_findLeast_63 : Dc cX4_findLeast 63 (.invokevirtual 34) 3 66 := ⟨by decide +kernel, rfl⟩
theorem eX4_findLeast_66 : Dc cX4_findLeast 66 (.iinc 6 1) 3 69 := ⟨by decide +kernel, rfl⟩
theorem eX4_findLeast_69 : Dc cX4_findLeast 69 (.goto (-32)) 3 72 := ⟨by decide +kernel, rfl⟩
theorem eX4_findLeast_72 : Dc cX4_findLeast 72 (.iinc 5 (-1)) 3 75 := ⟨by decide +kernel, rfl⟩
theorem eX4_findLeast_75 : Dc cX4_findLeast 75 (.goto (-46)) 3 78 := ⟨by decide +kernel, rfl⟩
theorem eX4_findLeast_78 : Dc cX4_findLeast 78 (.aload_n 0) 1 79 := ⟨by decide +kernel, rfl⟩
theorem eX4_findLeast_79 : Dc cX4_findLeast 79 (.iload 4) 2 81 := ⟨by decide +kernel, rfl⟩
theorem eX4_findLeast_81 : Dc cX4_findLeast 81 (.invokevirtual 38) 3 84 := ⟨by decide +kernel, rfl⟩
theorem eX4_findLeast_84 : Dc cX4_findLeast 84 (.istore 5) 2 86 := ⟨by decide +kernel, rfl⟩
theorem eX4_findLeast_86 : Dc cX4_findLeast 86 (.aload_n 0) 1 87 := ⟨by decide +kernel, rfl⟩
theorem eX4_findLeast_87 : Dc cX4_findLeast 87 (.aload_n 0) 1 88 := ⟨by decide +kernel, rfl⟩
theorem eX4_findLeast_88 : Dc cX4_findLeast 88 (.getfield 15) 3 91 := ⟨by decide +kernel, rfl⟩
theorem eX4_findLeast_91 : Dc cX4_findLeast 91 (.iload 5) 2 93 := ⟨by decide +kernel, rfl⟩
theorem eX4_findLeast_93 : Dc cX4_findLeast 93 (.iaload) 1 94 := ⟨by decide +kernel, rfl⟩
theorem eX4_findLeast_94 : Dc cX4_findLeast 94 (.putfield 41) 3 97 := ⟨by decide +kernel, rfl⟩
theorem eX4_findLeast_97 : Dc cX4_findLeast 97 (.iconst 0) 1 98 := ⟨by decide +kernel, rfl⟩
theorem eX4_findLeast_98 : Dc cX4_findLeast 98 (.istore 6) 2 100 := ⟨by decide +kernel, rfl⟩
theorem eX4_findLeast_100 : Dc cX4_findLeast 100 (.iload 6) 2 102 := ⟨by decide +kernel, rfl⟩
theorem eX4_findLeast_102 : Dc cX4_findLeast 102 (.iload_n 3) 1 103 := ⟨by decide +kernel, rfl⟩
theorem eX4_findLeast_103 : Dc cX4_findLeast 103 (.if_icmp .ge 33) 3 106 := ⟨by decide +kernel, rfl⟩
theorem eX4_findLeast_106 : Dc cX4_findLeast 106 (.aload_n 0) 1 107 := ⟨by decide +kernel, rfl⟩
theorem eX4_findLeast_107 : Dc cX4_findLeast 107 (.getfield 9) 3 110 := ⟨by decide +kernel, rfl⟩
theorem eX4_findLeast_110 : Dc cX4_findLeast 110 (.iload 6) 2 112 := ⟨by decide +kernel, rfl⟩
theorem eX4_findLeast_112 : Dc cX4_findLeast 112 (.iload 5) 2 114 := ⟨by decide +kernel, rfl⟩
theorem eX4_findLeast_114 : Dc cX4_findLeast 114 (.iastore) 1 115 := ⟨by decide +kernel, rfl⟩
theorem eX4_findLeast_115 : Dc cX4_findLeast 115 (.aload_n 0) 1 116 := ⟨by decide +kernel, rfl⟩
theorem eX4_findLeast_116 : Dc cX4_findLeast 116 (.getfield 18) 3 119 := ⟨by decide +kernel, rfl⟩
theorem eX4_findLeast_119 : Dc cX4_findLeast 119 (.iload 6) 2 121 := ⟨by decide +kernel, rfl⟩
theorem eX4_findLeast_121 : Dc cX4_findLeast 121 (.bipush 8) 2 123 := ⟨by decide +kernel, rfl⟩
theorem eX4_findLeast_123 : Dc cX4_findLeast 123 (.imul) 1 124 := ⟨by decide +kernel, rfl⟩
theorem eX4_findLeast_124 : Dc cX4_findLeast 124 (.iload 5) 2 126 := ⟨by decide +kernel, rfl⟩
theorem eX4_findLeast_126 : Dc cX4_findLeast 126 (.iadd) 1 127 := ⟨by decide +kernel, rfl⟩
theorem eX4_findLeast_127 : Dc cX4_findLeast 127 (.iaload) 1 128 := ⟨by decide +kernel, rfl⟩
theorem eX4_findLeast_128 : Dc cX4_findLeast 128 (.istore 5) 2 130 := ⟨by decide +kernel, rfl⟩
theorem eX4_findLeast_130 : Dc cX4_findLeast 130 (.iinc 6 1) 3 133 := ⟨by decide +kernel, rfl⟩
theorem eX4_findLeast_133 : Dc cX4_findLeast 133 (.goto (-33)) 3 136 := ⟨by decide +kernel, rfl⟩
theorem eX4_findLeast_136 : Dc cX4_findLeast 136 (.return_) 1 137 := ⟨by decide +kernel, rfl⟩
theorem eX4_weighDot_0 : Dc cX4_weighDot 0 (.iload_n 2) 1 1 := ⟨by decide +kernel, rfl⟩
theorem eX4_weighDot_1 : Dc cX4_weighDot 1 (.bipush 8) 2 3 := ⟨by decide +kernel, rfl⟩
theorem eX4_weighDot_3 : Dc cX4_weighDot 3 (.imul) 1 4 := ⟨by decide +kernel, rfl⟩
theorem eX4_weighDot_4 : Dc cX4_weighDot 4 (.iload_n 3) 1 5 := ⟨by decide +kernel, rfl⟩
theorem eX4_weighDot_5 : Dc cX4_weighDot 5 (.iadd) 1 6 := ⟨by decide +kernel, rfl⟩
theorem eX4_weighDot_6 : Dc cX4_weighDot 6 (.istore 5) 2 8 := ⟨by decide +kernel, rfl⟩
theorem eX4_weighDot_8 : Dc cX4_weighDot 8 (.aload_n 0) 1 9 := ⟨by decide +kernel, rfl⟩
theorem eX4_weighDot_9 : Dc cX4_weighDot 9 (.getfield 15) 3 12 := ⟨by decide +kernel, rfl⟩
theorem eX4_weighDot_12 : Dc cX4_weighDot 12 (.iload 5) 2 14 := ⟨by decide +kernel, rfl⟩
theorem eX4_weighDot_14 : Dc cX4_weighDot 14 (.aload_n 1) 1 15 := ⟨by decide +kernel, rfl⟩
theorem eX4_weighDot_15 : Dc cX4_weighDot 15 (.aload_n 0) 1 16 := ⟨by decide +kernel, rfl⟩
theorem eX4_weighDot_16 : Dc cX4_weighDot 16 (.getfield 21) 3 19 := ⟨by decide +kernel, rfl⟩
theorem eX4_weighDot_19 : Dc cX4_weighDot 19 (.iload_n 2) 1 20 := ⟨by decide +kernel, rfl⟩
theorem eX4_weighDot_20 : Dc cX4_weighDot 20 (.iload_n 3) 1 21 := ⟨by decide +kernel, rfl⟩
theorem eX4_weighDot_21 : Dc cX4_weighDot 21 (.invokevirtual 44) 3 24 := ⟨by decide +kernel, rfl⟩
theorem eX4_weighDot_24 : Dc cX4_weighDot 24 (.iastore) 1 25 := ⟨by decide +kernel, rfl⟩
theorem eX4_weighDot_25 : Dc cX4_weighDot 25 (.aload_n 0) 1 26 := ⟨by decide +kernel, rfl⟩
theorem eX4_weighDot_26 : Dc cX4_weighDot 26 (.getfield 18) 3 29 := ⟨by decide +kernel, rfl⟩
theorem eX4_weighDot_29 : Dc cX4_weighDot 29 (.iload 5) 2 31 := ⟨by decide +kernel, rfl⟩
theorem eX4_weighDot_31 : Dc cX4_weighDot 31 (.iload_n 3) 1 32 := ⟨by decide +kernel, rfl⟩
theorem eX4_weighDot_32 : Dc cX4_weighDot 32 (.iastore) 1 33 := ⟨by decide +kernel, rfl⟩
theorem eX4_weighDot_33 : Dc cX4_weighDot 33 (.iload 4) 2 35 := ⟨by decide +kernel, rfl⟩
theorem eX4_weighDot_35 : Dc cX4_weighDot 35 (.ifCond .ne 10) 3 38 := ⟨by decide +kernel, rfl⟩
theorem eX4_weighDot_38 : Dc cX4_weighDot 38 (.aload_n 0) 1 39 := ⟨by decide +kernel, rfl⟩
theorem eX4_weighDot_39 : Dc cX4_weighDot 39 (.aload_n 1) 1 40 := ⟨by decide +kernel, rfl⟩
theorem eX4_weighDot_40 : Dc cX4_weighDot 40 (.iload_n 2) 1 41 := ⟨by decide +kernel, rfl⟩
theorem eX4_weighDot_41 : Dc cX4_weighDot 41 (.iload_n 3) 1 42 := ⟨by decide +kernel, rfl⟩
theorem eX4_weighDot_42 : Dc cX4_weighDot 42 (.invokevirtual 48) 3 45 := ⟨by decide +kernel, rfl⟩
theorem eX4_weighDot_45 : Dc cX4_weighDot 45 (.return_) 1 46 := ⟨by decide +kernel, rfl⟩
theorem eX4_goOnFrom_0 : Dc cX4_goOnFrom 0 (.iload_n 3) 1 1 := ⟨by decide +kernel, rfl⟩
theorem eX4_goOnFrom_1 : Dc cX4_goOnFrom 1 (.iconst 1) 1 2 := ⟨by decide +kernel, rfl⟩
theorem eX4_goOnFrom_2 : Dc cX4_goOnFrom 2 (.isub) 1 3 := ⟨by decide +kernel, rfl⟩
theorem eX4_goOnFrom_3 : Dc cX4_goOnFrom 3 (.iconst 0) 1 4 := ⟨by decide +kernel, rfl⟩
theorem eX4_goOnFrom_4 : Dc cX4_goOnFrom 4 (.invokestatic 52) 3 7 := ⟨by decide +kernel, rfl⟩
theorem eX4_goOnFrom_7 : Dc cX4_goOnFrom 7 (.istore 4) 2 9 := ⟨by decide +kernel, rfl⟩
theorem eX4_goOnFrom_9 : Dc cX4_goOnFrom 9 (.iload_n 3) 1 10 := ⟨by decide +kernel, rfl⟩
theorem eX4_goOnFrom_10 : Dc cX4_goOnFrom 10 (.iconst 1) 1 11 := ⟨by decide +kernel, rfl⟩
theorem eX4_goOnFrom_11 : Dc cX4_goOnFrom 11 (.iadd) 1 12 := ⟨by decide +kernel, rfl⟩
theorem eX4_goOnFrom_12 : Dc cX4_goOnFrom 12 (.aload_n 1) 1 13 := ⟨by decide +kernel, rfl⟩
theorem eX4_goOnFrom_13 : Dc cX4_goOnFrom 13 (.aload_n 0) 1 14 := ⟨by decide +kernel, rfl⟩
theorem eX4_goOnFrom_14 : Dc cX4_goOnFrom 14 (.getfield 21) 3 17 := ⟨by decide +kernel, rfl⟩
theorem eX4_goOnFrom_17 : Dc cX4_goOnFrom 17 (.invokevirtual 31) 3 20 := ⟨by decide +kernel, rfl⟩
theorem eX4_goOnFrom_20 : Dc cX4_goOnFrom 20 (.iconst 1) 1 21 := ⟨by decide +kernel, rfl⟩
theorem eX4_goOnFrom_21 : Dc cX4_goOnFrom 21 (.isub) 1 22 := ⟨by decide +kernel, rfl⟩
theorem eX4_goOnFrom_22 : Dc cX4_goOnFrom 22 (.invokestatic 58) 3 25 := ⟨by decide +kernel, rfl⟩
theorem eX4_goOnFrom_25 : Dc cX4_goOnFrom 25 (.istore 5) 2 27 := ⟨by decide +kernel, rfl⟩
theorem eX4_goOnFrom_27 : Dc cX4_goOnFrom 27 (.iload 4) 2 29 := ⟨by decide +kernel, rfl⟩
theorem eX4_goOnFrom_29 : Dc cX4_goOnFrom 29 (.istore 6) 2 31 := ⟨by decide +kernel, rfl⟩
theorem eX4_goOnFrom_31 : Dc cX4_goOnFrom 31 (.iconst 0) 1 32 := ⟨by decide +kernel, rfl⟩
theorem eX4_goOnFrom_32 : Dc cX4_goOnFrom 32 (.istore 7) 2 34 := ⟨by decide +kernel, rfl⟩
theorem eX4_goOnFrom_34 : Dc cX4_goOnFrom 34 (.iload 4) 2 36 := ⟨by decide +kernel, rfl⟩
theorem eX4_goOnFrom_36 : Dc cX4_goOnFrom 36 (.istore 8) 2 38 := ⟨by decide +kernel, rfl⟩
theorem eX4_goOnFrom_38 : Dc cX4_goOnFrom 38 (.iload 8) 2 40 := ⟨by decide +kernel, rfl⟩
theorem eX4_goOnFrom_40 : Dc cX4_goOnFrom 40 (.iload 5) 2 42 := ⟨by decide +kernel, rfl⟩
theorem eX4_goOnFrom_42 : Dc cX4_goOnFrom 42 (.if_icmp .gt 62) 3 45 := ⟨by decide +kernel, rfl⟩
theorem eX4_goOnFrom_45 : Dc cX4_goOnFrom 45 (.aload_n 1) 1 46 := ⟨by decide +kernel, rfl⟩
theorem eX4_goOnFrom_46 : Dc cX4_goOnFrom 46 (.aload_n 0) 1 47 := ⟨by decide +kernel, rfl⟩
theorem eX4_goOnFrom_47 : Dc cX4_goOnFrom 47 (.getfield 21) 3 50 := ⟨by decide +kernel, rfl⟩
theorem eX4_goOnFrom_50 : Dc cX4_goOnFrom 50 (.iload_n 2) 1 51 := ⟨by decide +kernel, rfl⟩
theorem eX4_goOnFrom_51 : Dc cX4_goOnFrom 51 (.iconst 1) 1 52 := ⟨by decide +kernel, rfl⟩
theorem eX4_goOnFrom_52 : Dc cX4_goOnFrom 52 (.iadd) 1 53 := ⟨by decide +kernel, rfl⟩
theorem eX4_goOnFrom_53 : Dc cX4_goOnFrom 53 (.iload 8) 2 55 := ⟨by decide +kernel, rfl⟩
theorem eX4_goOnFrom_55 : Dc cX4_goOnFrom 55 (.iload_n 3) 1 56 := ⟨by decide +kernel, rfl⟩
theorem eX4_goOnFrom_56 : Dc cX4_goOnFrom 56 (.invokevirtual 61) 3 59 := ⟨by decide +kernel, rfl⟩
theorem eX4_goOnFrom_59 : Dc cX4_goOnFrom 59 (.aload_n 0) 1 60 := ⟨by decide +kernel, rfl⟩
theorem eX4_goOnFrom_60 : Dc cX4_goOnFrom 60 (.getfield 15) 3 63 := ⟨by decide +kernel, rfl⟩
theorem eX4_goOnFrom_63 : Dc cX4_goOnFrom 63 (.iload_n 2) 1 64 := ⟨by decide +kernel, rfl⟩
theorem eX4_goOnFrom_64 : Dc cX4_goOnFrom 64 (.iconst 1) 1 65 := ⟨by decide +kernel, rfl⟩
theorem eX4_goOnFrom_65 : Dc cX4_goOnFrom 65 (.iadd) 1 66 := ⟨by decide +kernel, rfl⟩
theorem eX4_goOnFrom_66 : Dc cX4_goOnFrom 66 (.bipush 8) 2 68 := ⟨by decide +kernel, rfl⟩
theorem eX4_goOnFrom_68 : Dc cX4_goOnFrom 68 (.imul) 1 69 := ⟨by decide +kernel, rfl⟩
theorem eX4_goOnFrom_69 : Dc cX4_goOnFrom 69 (.iload 8) 2 71 := ⟨by decide +kernel, rfl⟩
theorem eX4_goOnFrom_71 : Dc cX4_goOnFrom 71 (.iadd) 1 72 := ⟨by decide +kernel, rfl⟩
theorem eX4_goOnFrom_72 : Dc cX4_goOnFrom 72 (.iaload) 1 73 := ⟨by decide +kernel, rfl⟩
theorem eX4_goOnFrom_73 : Dc cX4_goOnFrom 73 (.iadd) 1 74 := ⟨by decide +kernel, rfl⟩
theorem eX4_goOnFrom_74 : Dc cX4_goOnFrom 74 (.istore 9) 2 76 := ⟨by decide +kernel, rfl⟩
theorem eX4_goOnFrom_76 : Dc cX4_goOnFrom 76 (.iload 8) 2 78 := ⟨by decide +kernel, rfl⟩
theorem eX4_goOnFrom_78 : Dc cX4_goOnFrom 78 (.iload 4) 2 80 := ⟨by decide +kernel, rfl⟩
theorem eX4_goOnFrom_80 : Dc cX4_goOnFrom 80 (.if_icmp .eq 10) 3 83 := ⟨by decide +kernel, rfl⟩
theorem eX4_goOnFrom_83 : Dc cX4_goOnFrom 83 (.iload 9) 2 85 := ⟨by decide +kernel, rfl⟩
theorem eX4_goOnFrom_85 : Dc cX4_goOnFrom 85 (.iload 7) 2 87 := ⟨by decide +kernel, rfl⟩
theorem eX4_goOnFrom_87 : Dc cX4_goOnFrom 87 (.if_icmp .ge 11) 3 90 := ⟨by decide +kernel, rfl⟩
theorem eX4_goOnFrom_90 : Dc cX4_goOnFrom 90 (.iload 8) 2 92 := ⟨by decide +kernel, rfl⟩
theorem eX4_goOnFrom_92 : Dc cX4_goOnFrom 92 (.istore 6) 2 94 := ⟨by decide +kernel, rfl⟩
theorem eX4_goOnFrom_94 : Dc cX4_goOnFrom 94 (.iload 9) 2 96 := ⟨by decide +kernel, rfl⟩
theorem eX4_goOnFrom_96 : Dc cX4_goOnFrom 96 (.istore 7) 2 98 := ⟨by decide +kernel, rfl⟩
theorem eX4_goOnFrom_98 : Dc cX4_goOnFrom 98 (.iinc 8 1) 3 101 := ⟨by decide +kernel, rfl⟩
theorem eX4_goOnFrom_101 : Dc cX4_goOnFrom 101 (.goto (-63)) 3 104 := ⟨by decide +kernel, rfl⟩
theorem eX4_goOnFrom_104 : Dc cX4_goOnFrom 104 (.iload_n 2) 1 105 := ⟨by decide +kernel, rfl⟩
theorem eX4_goOnFrom_105 : Dc cX4_goOnFrom 105 (.bipush 8) 2 107 := ⟨by decide +kernel, rfl⟩
theorem eX4_goOnFrom_107 : Dc cX4_goOnFrom 107 (.imul) 1 108 := ⟨by decide +kernel, rfl⟩
theorem eX4_goOnFrom_108 : Dc cX4_goOnFrom 108 (.iload_n 3) 1 109 := ⟨by decide +kernel, rfl⟩
theorem eX4_goOnFrom_109 : Dc cX4_goOnFrom 109 (.iadd) 1 110 := ⟨by decide +kernel, rfl⟩
theorem eX4_goOnFrom_110 : Dc cX4_goOnFrom 110 (.istore 8) 2 112 := ⟨by decide +kernel, rfl⟩
theorem eX4_goOnFrom_112 : Dc cX4_goOnFrom 112 (.aload_n 0) 1 113 := ⟨by decide +kernel, rfl⟩
theorem eX4_goOnFrom_113 : Dc cX4_goOnFrom 113 (.getfield 18) 3 116 := ⟨by decide +kernel, rfl⟩
theorem eX4_goOnFrom_116 : Dc cX4_goOnFrom 116 (.iload 8) 2 118 := ⟨by decide +kernel, rfl⟩
theorem eX4_goOnFrom_118 : Dc cX4_goOnFrom 118 (.iload 6) 2 120 := ⟨by decide +kernel, rfl⟩
theorem eX4_goOnFrom_120 : Dc cX4_goOnFrom 120 (.iastore) 1 121 := ⟨by decide +kernel, rfl⟩
theorem eX4_goOnFrom_121 : Dc cX4_goOnFrom 121 (.aload_n 0) 1 122 := ⟨by decide +kernel, rfl⟩
theorem eX4_goOnFrom_122 : Dc cX4_goOnFrom 122 (.getfield 15) 3 125 := ⟨by decide +kernel, rfl⟩
theorem eX4_goOnFrom_125 : Dc cX4_goOnFrom 125 (.iload 8) 2 127 := ⟨by decide +kernel, rfl⟩
theorem eX4_goOnFrom_127 : Dc cX4_goOnFrom 127 (.dup2) 1 128 := ⟨by decide +kernel, rfl⟩
theorem eX4_goOnFrom_128 : Dc cX4_goOnFrom 128 (.iaload) 1 129 := ⟨by decide +kernel, rfl⟩
theorem eX4_goOnFrom_129 : Dc cX4_goOnFrom 129 (.iload 7) 2 131 := ⟨by decide +kernel, rfl⟩
theorem eX4_goOnFrom_131 : Dc cX4_goOnFrom 131 (.iadd) 1 132 := ⟨by decide +kernel, rfl⟩
theorem eX4_goOnFrom_132 : Dc cX4_goOnFrom 132 (.iastore) 1 133 := ⟨by decide +kernel, rfl⟩
theorem eX4_goOnFrom_133 : Dc cX4_goOnFrom 133 (.return_) 1 134 := ⟨by decide +kernel, rfl⟩
theorem eX4_leastStart_0 : Dc cX4_leastStart 0 (.iconst 0) 1 1 := ⟨by decide +kernel, rfl⟩
theorem eX4_leastStart_1 : Dc cX4_leastStart 1 (.istore_n 2) 1 2 := ⟨by decide +kernel, rfl⟩
theorem eX4_leastStart_2 : Dc cX4_leastStart 2 (.iconst 1) 1 3 := ⟨by decide +kernel, rfl⟩
theorem eX4_leastStart_3 : Dc cX4_leastStart 3 (.istore_n 3) 1 4 := ⟨by decide +kernel, rfl⟩
theorem eX4_leastStart_4 : Dc cX4_leastStart 4 (.iload_n 3) 1 5 := ⟨by decide +kernel, rfl⟩
theorem eX4_leastStart_5 : Dc cX4_leastStart 5 (.iload_n 1) 1 6 := ⟨by decide +kernel, rfl⟩
theorem eX4_leastStart_6 : Dc cX4_leastStart 6 (.if_icmp .ge 26) 3 9 := ⟨by decide +kernel, rfl⟩
theorem eX4_leastStart_9 : Dc cX4_leastStart 9 (.aload_n 0) 1 10 := ⟨by decide +kernel, rfl⟩
theorem eX4_leastStart_10 : Dc cX4_leastStart 10 (.getfield 15) 3 13 := ⟨by decide +kernel, rfl⟩
theorem eX4_leastStart_13 : Dc cX4_leastStart 13 (.iload_n 3) 1 14 := ⟨by decide +kernel, rfl⟩
theorem eX4_leastStart_14 : Dc cX4_leastStart 14 (.iaload) 1 15 := ⟨by decide +kernel, rfl⟩
theorem eX4_leastStart_15 : Dc cX4_leastStart 15 (.aload_n 0) 1 16 := ⟨by decide +kernel, rfl⟩
theorem eX4_leastStart_16 : Dc cX4_leastStart 16 (.getfield 15) 3 19 := ⟨by decide +kernel, rfl⟩
theorem eX4_leastStart_19 : Dc cX4_leastStart 19 (.iload_n 2) 1 20 := ⟨by decide +kernel, rfl⟩
theorem eX4_leastStart_20 : Dc cX4_leastStart 20 (.iaload) 1 21 := ⟨by decide +kernel, rfl⟩
theorem eX4_leastStart_21 : Dc cX4_leastStart 21 (.if_icmp .ge 5) 3 24 := ⟨by decide +kernel, rfl⟩
theorem eX4_leastStart_24 : Dc cX4_leastStart 24 (.iload_n 3) 1 25 := ⟨by decide +kernel, rfl⟩
theorem eX4_leastStart_25 : Dc cX4_leastStart 25 (.istore_n 2) 1 26 := ⟨by decide +kernel, rfl⟩
theorem eX4_leastStart_26 : Dc cX4_leastStart 26 (.iinc 3 1) 3 29 := ⟨by decide +kernel, rfl⟩
theorem eX4_leastStart_29 : Dc cX4_leastStart 29 (.goto (-25)) 3 32 := ⟨by decide +kernel, rfl⟩
theorem eX4_leastStart_32 : Dc cX4_leastStart 32 (.iload_n 2) 1 33 := ⟨by decide +kernel, rfl⟩
theorem eX4_leastStart_33 : Dc cX4_leastStart 33 (.ireturn) 1 34 := ⟨by decide +kernel, rfl⟩
theorem eX4_readNumber_0 : Dc cX4_readNumber 0 (.aload_n 0) 1 1 := ⟨by decide +kernel, rfl⟩
theorem eX4_readNumber_1 : Dc cX4_readNumber 1 (.iload_n 2) 1 2 := ⟨by decide +kernel, rfl⟩
theorem eX4_readNumber_2 : Dc cX4_readNumber 2 (.putfield 21) 3 5 := ⟨by decide +kernel, rfl⟩
theorem eX4_readNumber_5 : Dc cX4_readNumber 5 (.aload_n 1) 1 6 := ⟨by decide +kernel, rfl⟩
theorem eX4_readNumber_6 : Dc cX4_readNumber 6 (.aload_n 0) 1 7 := ⟨by decide +kernel, rfl⟩
theorem eX4_readNumber_7 : Dc cX4_readNumber 7 (.getfield 21) 3 10 := ⟨by decide +kernel, rfl⟩
theorem eX4_readNumber_10 : Dc cX4_readNumber 10 (.invokevirtual 25) 3 13 := ⟨by decide +kernel, rfl⟩
theorem eX4_readNumber_13 : Dc cX4_readNumber 13 (.istore 4) 2 15 := ⟨by decide +kernel, rfl⟩
theorem eX4_readNumber_15 : Dc cX4_readNumber 15 (.iload_n 3) 1 16 := ⟨by decide +kernel, rfl⟩
theorem eX4_readNumber_16 : Dc cX4_readNumber 16 (.istore 5) 2 18 := ⟨by decide +kernel, rfl⟩
theorem eX4_readNumber_18 : Dc cX4_readNumber 18 (.iload 4) 2 20 := ⟨by decide +kernel, rfl⟩
theorem eX4_readNumber_20 : Dc cX4_readNumber 20 (.iconst 1) 1 21 := ⟨by decide +kernel, rfl⟩
theorem eX4_readNumber_21 : Dc cX4_readNumber 21 (.isub) 1 22 := ⟨by decide +kernel, rfl⟩
theorem eX4_readNumber_22 : Dc cX4_readNumber 22 (.istore 6) 2 24 := ⟨by decide +kernel, rfl⟩
theorem eX4_readNumber_24 : Dc cX4_readNumber 24 (.iload 6) 2 26 := ⟨by decide +kernel, rfl⟩
theorem eX4_readNumber_26 : Dc cX4_readNumber 26 (.ifCond .lt 28) 3 29 := ⟨by decide +kernel, rfl⟩
theorem eX4_readNumber_29 : Dc cX4_readNumber 29 (.aload_n 0) 1 30 := ⟨by decide +kernel, rfl⟩
theorem eX4_readNumber_30 : Dc cX4_readNumber 30 (.getfield 9) 3 33 := ⟨by decide +kernel, rfl⟩
theorem eX4_readNumber_33 : Dc cX4_readNumber 33 (.iload 6) 2 35 := ⟨by decide +kernel, rfl⟩
theorem eX4_readNumber_35 : Dc cX4_readNumber 35 (.iload 5) 2 37 := ⟨by decide +kernel, rfl⟩
theorem eX4_readNumber_37 : Dc cX4_readNumber 37 (.bipush 10) 2 39 := ⟨by decide +kernel, rfl⟩
theorem eX4_readNumber_39 : Dc cX4_readNumber 39 (.irem) 1 40 := ⟨by decide +kernel, rfl⟩
theorem eX4_readNumber_40 : Dc cX4_readNumber 40 (.iastore) 1 41 := ⟨by decide +kernel, rfl⟩
theorem eX4_readNumber_41 : Dc cX4_readNumber 41 (.iload 5) 2 43 := ⟨by decide +kernel, rfl⟩
theorem eX4_readNumber_43 : Dc cX4_readNumber 43 (.bipush 10) 2 45 := ⟨by decide +kernel, rfl⟩
theorem eX4_readNumber_45 : Dc cX4_readNumber 45 (.idiv) 1 46 := ⟨by decide +kernel, rfl⟩
theorem eX4_readNumber_46 : Dc cX4_readNumber 46 (.istore 5) 2 48 := ⟨by decide +kernel, rfl⟩
theorem eX4_readNumber_48 : Dc cX4_readNumber 48 (.iinc 6 (-1)) 3 51 := ⟨by decide +kernel, rfl⟩
theorem eX4_readNumber_51 : Dc cX4_readNumber 51 (.goto (-27)) 3 54 := ⟨by decide +kernel, rfl⟩
theorem eX4_readNumber_54 : Dc cX4_readNumber 54 (.iload 5) 2 56 := ⟨by decide +kernel, rfl⟩
theorem eX4_readNumber_56 : Dc cX4_readNumber 56 (.ifCond .ne 20) 3 59 := ⟨by decide +kernel, rfl⟩
theorem eX4_readNumber_59 : Dc cX4_readNumber 59 (.aload_n 0) 1 60 := ⟨by decide +kernel, rfl⟩
theorem eX4_readNumber_60 : Dc cX4_readNumber 60 (.iload 4) 2 62 := ⟨by decide +kernel, rfl⟩
theorem eX4_readNumber_62 : Dc cX4_readNumber 62 (.aload_n 1) 1 63 := ⟨by decide +kernel, rfl⟩
theorem eX4_readNumber_63 : Dc cX4_readNumber 63 (.aload_n 0) 1 64 := ⟨by decide +kernel, rfl⟩
theorem eX4_readNumber_64 : Dc cX4_readNumber 64 (.getfield 21) 3 67 := ⟨by decide +kernel, rfl⟩
theorem eX4_readNumber_67 : Dc cX4_readNumber 67 (.invokevirtual 31) 3 70 := ⟨by decide +kernel, rfl⟩
theorem eX4_readNumber_70 : Dc cX4_readNumber 70 (.invokevirtual 65) 3 73 := ⟨by decide +kernel, rfl⟩
theorem eX4_readNumber_73 : Dc cX4_readNumber 73 (.ifCond .ne 5) 3 76 := ⟨by decide +kernel, rfl⟩
theorem eX4_readNumber_76 : Dc cX4_readNumber 76 (.iconst 0) 1 77 := ⟨by decide +kernel, rfl⟩
theorem eX4_readNumber_77 : Dc cX4_readNumber 77 (.ireturn) 1 78 := ⟨by decide +kernel, rfl⟩
theorem eX4_readNumber_78 : Dc cX4_readNumber 78 (.aload_n 0) 1 79 := ⟨by decide +kernel, rfl⟩
theorem eX4_readNumber_79 : Dc cX4_readNumber 79 (.aload_n 0) 1 80 := ⟨by decide +kernel, rfl⟩
theorem eX4_readNumber_80 : Dc cX4_readNumber 80 (.aload_n 1) 1 81 := ⟨by decide +kernel, rfl⟩
theorem eX4_readNumber_81 : Dc cX4_readNumber 81 (.iload 4) 2 83 := ⟨by decide +kernel, rfl⟩
theorem eX4_readNumber_83 : Dc cX4_readNumber 83 (.invokevirtual 69) 3 86 := ⟨by decide +kernel, rfl⟩
theorem eX4_readNumber_86 : Dc cX4_readNumber 86 (.putfield 41) 3 89 := ⟨by decide +kernel, rfl⟩
theorem eX4_readNumber_89 : Dc cX4_readNumber 89 (.iconst 1) 1 90 := ⟨by decide +kernel, rfl⟩
theorem eX4_readNumber_90 : Dc cX4_readNumber 90 (.ireturn) 1 91 := ⟨by decide +kernel, rfl⟩
theorem eX4_hangsTogether_0 : Dc cX4_hangsTogether 0 (.iconst 0) 1 1 := ⟨by decide +kernel, rfl⟩
theorem eX4_hangsTogether_1 : Dc cX4_hangsTogether 1 (.istore_n 3) 1 2 := ⟨by decide +kernel, rfl⟩
theorem eX4_hangsTogether_2 : Dc cX4_hangsTogether 2 (.iload_n 3) 1 3 := ⟨by decide +kernel, rfl⟩
theorem eX4_hangsTogether_3 : Dc cX4_hangsTogether 3 (.iload_n 1) 1 4 := ⟨by decide +kernel, rfl⟩
theorem eX4_hangsTogether_4 : Dc cX4_hangsTogether 4 (.if_icmp .ge 49) 3 7 := ⟨by decide +kernel, rfl⟩
theorem eX4_hangsTogether_7 : Dc cX4_hangsTogether 7 (.aload_n 0) 1 8 := ⟨by decide +kernel, rfl⟩
theorem eX4_hangsTogether_8 : Dc cX4_hangsTogether 8 (.getfield 9) 3 11 := ⟨by decide +kernel, rfl⟩
theorem eX4_hangsTogether_11 : Dc cX4_hangsTogether 11 (.iload_n 3) 1 12 := ⟨by decide +kernel, rfl⟩
theorem eX4_hangsTogether_12 : Dc cX4_hangsTogether 12 (.iaload) 1 13 := ⟨by decide +kernel, rfl⟩
theorem eX4_hangsTogether_13 : Dc cX4_hangsTogether 13 (.iload_n 2) 1 14 := ⟨by decide +kernel, rfl⟩
theorem eX4_hangsTogether_14 : Dc cX4_hangsTogether 14 (.if_icmp .lt 5) 3 17 := ⟨by decide +kernel, rfl⟩
theorem eX4_hangsTogether_17 : Dc cX4_hangsTogether 17 (.iconst 0) 1 18 := ⟨by decide +kernel, rfl⟩
theorem eX4_hangsTogether_18 : Dc cX4_hangsTogether 18 (.ireturn) 1 19 := ⟨by decide +kernel, rfl⟩
theorem eX4_hangsTogether_19 : Dc cX4_hangsTogether 19 (.iload_n 3) 1 20 := ⟨by decide +kernel, rfl⟩
theorem eX4_hangsTogether_20 : Dc cX4_hangsTogether 20 (.ifCond .le 27) 3 23 := ⟨by decide +kernel, rfl⟩
theorem eX4_hangsTogether_23 : Dc cX4_hangsTogether 23 (.aload_n 0) 1 24 := ⟨by decide +kernel, rfl⟩
theorem eX4_hangsTogether_24 : Dc cX4_hangsTogether 24 (.getfield 9) 3 27 := ⟨by decide +kernel, rfl⟩
theorem eX4_hangsTogether_27 : Dc cX4_hangsTogether 27 (.iload_n 3) 1 28 := ⟨by decide +kernel, rfl⟩
theorem eX4_hangsTogether_28 : Dc cX4_hangsTogether 28 (.iaload) 1 29 := ⟨by decide +kernel, rfl⟩
theorem eX4_hangsTogether_29 : Dc cX4_hangsTogether 29 (.aload_n 0) 1 30 := ⟨by decide +kernel, rfl⟩
theorem eX4_hangsTogether_30 : Dc cX4_hangsTogether 30 (.getfield 9) 3 33 := ⟨by decide +kernel, rfl⟩
theorem eX4_hangsTogether_33 : Dc cX4_hangsTogether 33 (.iload_n 3) 1 34 := ⟨by decide +kernel, rfl⟩
theorem eX4_hangsTogether_34 : Dc cX4_hangsTogether 34 (.iconst 1) 1 35 := ⟨by decide +kernel, rfl⟩
theorem eX4_hangsTogether_35 : Dc cX4_hangsTogether 35 (.isub) 1 36 := ⟨by decide +kernel, rfl⟩
theorem eX4_hangsTogether_36 : Dc cX4_hangsTogether 36 (.iaload) 1 37 := ⟨by decide +kernel, rfl⟩
theorem eX4_hangsTogether_37 : Dc cX4_hangsTogether 37 (.isub) 1 38 := ⟨by decide +kernel, rfl⟩
theorem eX4_hangsTogether_38 : Dc cX4_hangsTogether 38 (.invokestatic 73) 3 41 := ⟨by decide +kernel, rfl⟩
theorem eX4_hangsTogether_41 : Dc cX4_hangsTogether 41 (.iconst 1) 1 42 := ⟨by decide +kernel, rfl⟩
theorem eX4_hangsTogether_42 : Dc cX4_hangsTogether 42 (.if_icmp .le 5) 3 45 := ⟨by decide +kernel, rfl⟩
theorem eX4_hangsTogether_45 : Dc cX4_hangsTogether 45 (.iconst 0) 1 46 := ⟨by decide +kernel, rfl⟩
theorem eX4_hangsTogether_46 : Dc cX4_hangsTogether 46 (.ireturn) 1 47 := ⟨by decide +kernel, rfl⟩
theorem eX4_hangsTogether_47 : Dc cX4_hangsTogether 47 (.iinc 3 1) 3 50 := ⟨by decide +kernel, rfl⟩
theorem eX4_hangsTogether_50 : Dc cX4_hangsTogether 50 (.goto (-48)) 3 53 := ⟨by decide +kernel, rfl⟩
theorem eX4_hangsTogether_53 : Dc cX4_hangsTogether 53 (.iconst 1) 1 54 := ⟨by decide +kernel, rfl⟩
theorem eX4_hangsTogether_54 : Dc cX4_hangsTogether 54 (.ireturn) 1 55 := ⟨by decide +kernel, rfl⟩
theorem eX4_sumOfCosts_0 : Dc cX4_sumOfCosts 0 (.iconst 0) 1 1 := ⟨by decide +kernel, rfl⟩
theorem eX4_sumOfCosts_1 : Dc cX4_sumOfCosts 1 (.istore_n 3) 1 2 := ⟨by decide +kernel, rfl⟩
theorem eX4_sumOfCosts_2 : Dc cX4_sumOfCosts 2 (.iconst 0) 1 3 := ⟨by decide +kernel, rfl⟩
theorem eX4_sumOfCosts_3 : Dc cX4_sumOfCosts 3 (.istore 4) 2 5 := ⟨by decide +kernel, rfl⟩
theorem eX4_sumOfCosts_5 : Dc cX4_sumOfCosts 5 (.iload 4) 2 7 := ⟨by decide +kernel, rfl⟩
theorem eX4_sumOfCosts_7 : Dc cX4_sumOfCosts 7 (.iload_n 2) 1 8 := ⟨by decide +kernel, rfl⟩
theorem eX4_sumOfCosts_8 : Dc cX4_sumOfCosts 8 (.if_icmp .ge 63) 3 11 := ⟨by decide +kernel, rfl⟩
theorem eX4_sumOfCosts_11 : Dc cX4_sumOfCosts 11 (.iload_n 3) 1 12 := ⟨by decide +kernel, rfl⟩
theorem eX4_sumOfCosts_12 : Dc cX4_sumOfCosts 12 (.aload_n 1) 1 13 := ⟨by decide +kernel, rfl⟩
theorem eX4_sumOfCosts_13 : Dc cX4_sumOfCosts 13 (.aload_n 0) 1 14 := ⟨by decide +kernel, rfl⟩
theorem eX4_sumOfCosts_14 : Dc cX4_sumOfCosts 14 (.getfield 21) 3 17 := ⟨by decide +kernel, rfl⟩
theorem eX4_sumOfCosts_17 : Dc cX4_sumOfCosts 17 (.iload 4) 2 19 := ⟨by decide +kernel, rfl⟩
theorem eX4_sumOfCosts_19 : Dc cX4_sumOfCosts 19 (.aload_n 0) 1 20 := ⟨by decide +kernel, rfl⟩
theorem eX4_sumOfCosts_20 : Dc cX4_sumOfCosts 20 (.getfield 9) 3 23 := ⟨by decide +kernel, rfl⟩
theorem eX4_sumOfCosts_23 : Dc cX4_sumOfCosts 23 (.iload 4) 2 25 := ⟨by decide +kernel, rfl⟩
theorem eX4_sumOfCosts_25 : Dc cX4_sumOfCosts 25 (.iaload) 1 26 := ⟨by decide +kernel, rfl⟩
theorem eX4_sumOfCosts_26 : Dc cX4_sumOfCosts 26 (.invokevirtual 44) 3 29 := ⟨by decide +kernel, rfl⟩
theorem eX4_sumOfCosts_29 : Dc cX4_sumOfCosts 29 (.iadd) 1 30 := ⟨by decide +kernel, rfl⟩
theorem eX4_sumOfCosts_30 : Dc cX4_sumOfCosts 30 (.istore_n 3) 1 31 := ⟨by decide +kernel, rfl⟩
theorem eX4_sumOfCosts_31 : Dc cX4_sumOfCosts 31 (.iload 4) 2 33 := ⟨by decide +kernel, rfl⟩
theorem eX4_sumOfCosts_33 : Dc cX4_sumOfCosts 33 (.ifCond .le 32) 3 36 := ⟨by decide +kernel, rfl⟩
theorem eX4_sumOfCosts_36 : Dc cX4_sumOfCosts 36 (.iload_n 3) 1 37 := ⟨by decide +kernel, rfl⟩
theorem eX4_sumOfCosts_37 : Dc cX4_sumOfCosts 37 (.aload_n 1) 1 38 := ⟨by decide +kernel, rfl⟩
theorem eX4_sumOfCosts_38 : Dc cX4_sumOfCosts 38 (.aload_n 0) 1 39 := ⟨by decide +kernel, rfl⟩
theorem eX4_sumOfCosts_39 : Dc cX4_sumOfCosts 39 (.getfield 21) 3 42 := ⟨by decide +kernel, rfl⟩
theorem eX4_sumOfCosts_42 : Dc cX4_sumOfCosts 42 (.iload 4) 2 44 := ⟨by decide +kernel, rfl⟩
theorem eX4_sumOfCosts_44 : Dc cX4_sumOfCosts 44 (.aload_n 0) 1 45 := ⟨by decide +kernel, rfl⟩
theorem eX4_sumOfCosts_45 : Dc cX4_sumOfCosts 45 (.getfield 9) 3 48 := ⟨by decide +kernel, rfl⟩
theorem eX4_sumOfCosts_48 : Dc cX4_sumOfCosts 48 (.iload 4) 2 50 := ⟨by decide +kernel, rfl⟩
theorem eX4_sumOfCosts_50 : Dc cX4_sumOfCosts 50 (.iaload) 1 51 := ⟨by decide +kernel, rfl⟩
theorem eX4_sumOfCosts_51 : Dc cX4_sumOfCosts 51 (.aload_n 0) 1 52 := ⟨by decide +kernel, rfl⟩
theorem eX4_sumOfCosts_52 : Dc cX4_sumOfCosts 52 (.getfield 9) 3 55 := ⟨by decide +kernel, rfl⟩
theorem eX4_sumOfCosts_55 : Dc cX4_sumOfCosts 55 (.iload 4) 2 57 := ⟨by decide +kernel, rfl⟩
theorem eX4_sumOfCosts_57 : Dc cX4_sumOfCosts 57 (.iconst 1) 1 58 := ⟨by decide +kernel, rfl⟩
theorem eX4_sumOfCosts_58 : Dc cX4_sumOfCosts 58 (.isub) 1 59 := ⟨by decide +kernel, rfl⟩
theorem eX4_sumOfCosts_59 : Dc cX4_sumOfCosts 59 (.iaload) 1 60 := ⟨by decide +kernel, rfl⟩
theorem eX4_sumOfCosts_60 : Dc cX4_sumOfCosts 60 (.invokevirtual 61) 3 63 := ⟨by decide +kernel, rfl⟩
theorem eX4_sumOfCosts_63 : Dc cX4_sumOfCosts 63 (.iadd) 1 64 := ⟨by decide +kernel, rfl⟩
theorem eX4_sumOfCosts_64 : Dc cX4_sumOfCosts 64 (.istore_n 3) 1 65 := ⟨by decide +kernel, rfl⟩
theorem eX4_sumOfCosts_65 : Dc cX4_sumOfCosts 65 (.iinc 4 1) 3 68 := ⟨by decide +kernel, rfl⟩
theorem eX4_sumOfCosts_68 : Dc cX4_sumOfCosts 68 (.goto (-63)) 3 71 := ⟨by decide +kernel, rfl⟩
theorem eX4_sumOfCosts_71 : Dc cX4_sumOfCosts 71 (.iload_n 3) 1 72 := ⟨by decide +kernel, rfl⟩
theorem eX4_sumOfCosts_72 : Dc cX4_sumOfCosts 72 (.ireturn) 1 73 := ⟨by decide +kernel, rfl⟩
theorem eX5_init_0 : Dc cX5_init 0 (.aload_n 0) 1 1 := ⟨by decide +kernel, rfl⟩
theorem eX5_init_1 : Dc cX5_init 1 (.invokespecial 1) 3 4 := ⟨by decide +kernel, rfl⟩
theorem eX5_init_4 : Dc cX5_init 4 (.aload_n 0) 1 5 := ⟨by decide +kernel, rfl⟩
theorem eX5_init_5 : Dc cX5_init 5 (.new 7) 3 8 := ⟨by decide +kernel, rfl⟩
theorem eX5_init_8 : Dc cX5_init 8 (.dup) 1 9 := ⟨by decide +kernel, rfl⟩
theorem eX5_init_9 : Dc cX5_init 9 (.invokespecial 9) 3 12 := ⟨by decide +kernel, rfl⟩
theorem eX5_init_12 : Dc cX5_init 12 (.putfield 10) 3 15 := ⟨by decide +kernel, rfl⟩
theorem eX5_init_15 : Dc cX5_init 15 (.aload_n 0) 1 16 := ⟨by decide +kernel, rfl⟩
theorem eX5_init_16 : Dc cX5_init 16 (.new 16) 3 19 := ⟨by decide +kernel, rfl⟩
theorem eX5_init_19 : Dc cX5_init 19 (.dup) 1 20 := ⟨by decide +kernel, rfl⟩
theorem eX5_init_20 : Dc cX5_init 20 (.invokespecial 18) 3 23 := ⟨by decide +kernel, rfl⟩
theorem eX5_init_23 : Dc cX5_init 23 (.putfield 19) 3 26 := ⟨by decide +kernel, rfl⟩
theorem eX5_init_26 : Dc cX5_init 26 (.aload_n 0) 1 27 := ⟨by decide +kernel, rfl⟩
theorem eX5_init_27 : Dc cX5_init 27 (.new 23) 3 30 := ⟨by decide +kernel, rfl⟩
theorem eX5_init_30 : Dc cX5_init 30 (.dup) 1 31 := ⟨by decide +kernel, rfl⟩
theorem eX5_init_31 : Dc cX5_init 31 (.invokespecial 25) 3 34 := ⟨by decide +kernel, rfl⟩
theorem eX5_init_34 : Dc cX5_init 34 (.putfield 26) 3 37 := ⟨by decide +kernel, rfl⟩
theorem eX5_init_37 : Dc cX5_init 37 (.aload_n 0) 1 38 := ⟨by decide +kernel, rfl⟩
theorem eX5_init_38 : Dc cX5_init 38 (.new 30) 3 41 := ⟨by decide +kernel, rfl⟩
theorem eX5_init_41 : Dc cX5_init 41 (.dup) 1 42 := ⟨by decide +kernel, rfl⟩
theorem eX5_init_42 : Dc cX5_init 42 (.invokespecial 32) 3 45 := ⟨by decide +kernel, rfl⟩
theorem eX5_init_45 : Dc cX5_init 45 (.putfield 33) 3 48 := ⟨by decide +kernel, rfl⟩
theorem eX5_init_48 : Dc cX5_init 48 (.aload_n 0) 1 49 := ⟨by decide +kernel, rfl⟩
theorem eX5_init_49 : Dc cX5_init 49 (.new 37) 3 52 := ⟨by decide +kernel, rfl⟩
theorem eX5_init_52 : Dc cX5_init 52 (.dup) 1 53 := ⟨by decide +kernel, rfl⟩
theorem eX5_init_53 : Dc cX5_init 53 (.invokespecial 39) 3 56 := ⟨by decide +kernel, rfl⟩
theorem eX5_init_56 : Dc cX5_init 56 (.putfield 40) 3 59 := ⟨by decide +kernel, rfl⟩
theorem eX5_init_59 : Dc cX5_init 59 (.aload_n 0) 1 60 := ⟨by decide +kernel, rfl⟩
theorem eX5_init_60 : Dc cX5_init 60 (.iconst 2) 1 61 := ⟨by decide +kernel, rfl⟩
theorem eX5_init_61 : Dc cX5_init 61 (.anewarray 7) 3 64 := ⟨by decide +kernel, rfl⟩
theorem eX5_init_64 : Dc cX5_init 64 (.putfield 44) 3 67 := ⟨by decide +kernel, rfl⟩
theorem eX5_init_67 : Dc cX5_init 67 (.iconst 0) 1 68 := ⟨by decide +kernel, rfl⟩
theorem eX5_init_68 : Dc cX5_init 68 (.istore_n 1) 1 69 := ⟨by decide +kernel, rfl⟩
theorem eX5_init_69 : Dc cX5_init 69 (.iload_n 1) 1 70 := ⟨by decide +kernel, rfl⟩
theorem eX5_init_70 : Dc cX5_init 70 (.iconst 2) 1 71 := ⟨by decide +kernel, rfl⟩
theorem eX5_init_71 : Dc cX5_init 71 (.if_icmp .ge 22) 3 74 := ⟨by decide +kernel, rfl⟩
theorem eX5_init_74 : Dc cX5_init 74 (.aload_n 0) 1 75 := ⟨by decide +kernel, rfl⟩
theorem eX5_init_75 : Dc cX5_init 75 (.getfield 44) 3 78 := ⟨by decide +kernel, rfl⟩
theorem eX5_init_78 : Dc cX5_init 78 (.iload_n 1) 1 79 := ⟨by decide +kernel, rfl⟩
theorem eX5_init_79 : Dc cX5_init 79 (.new 7) 3 82 := ⟨by decide +kernel, rfl⟩
theorem eX5_init_82 : Dc cX5_init 82 (.dup) 1 83 := ⟨by decide +kernel, rfl⟩
theorem eX5_init_83 : Dc cX5_init 83 (.invokespecial 9) 3 86 := ⟨by decide +kernel, rfl⟩
theorem eX5_init_86 : Dc cX5_init 86 (.aastore) 1 87 := ⟨by decide +kernel, rfl⟩
theorem eX5_init_87 : Dc cX5_init 87 (.iinc 1 1) 3 90 := ⟨by decide +kernel, rfl⟩
theorem eX5_init_90 : Dc cX5_init 90 (.goto (-21)) 3 93 := ⟨by decide +kernel, rfl⟩
theorem eX5_init_93 : Dc cX5_init 93 (.aload_n 0) 1 94 := ⟨by decide +kernel, rfl⟩
theorem eX5_init_94 : Dc cX5_init 94 (.iconst 2) 1 95 := ⟨by decide +kernel, rfl⟩
theorem eX5_init_95 : Dc cX5_init 95 (.newarray .boolean) 2 97 := ⟨by decide +kernel, rfl⟩
theorem eX5_init_97 : Dc cX5_init 97 (.putfield 48) 3 100 := ⟨by decide +kernel, rfl⟩
theorem eX5_init_100 : Dc cX5_init 100 (.return_) 1 101 := ⟨by decide +kernel, rfl⟩
theorem eX5_size_0 : Dc cX5_size 0 (.iload_n 1) 1 1 := ⟨by decide +kernel, rfl⟩
theorem eX5_size_1 : Dc cX5_size 1 (.invokestatic 52) 3 4 := ⟨by decide +kernel, rfl⟩
theorem eX5_size_4 : Dc cX5_size 4 (.ifCond .eq 10) 3 7 := ⟨by decide +kernel, rfl⟩
theorem eX5_size_7 : Dc cX5_size 7 (.iload_n 2) 1 8 := ⟨by decide +kernel, rfl⟩
theorem eX5_size_8 : Dc cX5_size 8 (.invokestatic 52) 3 11 := ⟨by decide +kernel, rfl⟩
theorem eX5_size_11 : Dc cX5_size 11 (.ifCond .ne 6) 3 14 := ⟨by decide +kernel, rfl⟩
theorem eX5_size_14 : Dc cX5_size 14 (.bipush (-2)) 2 16 := ⟨by decide +kernel, rfl⟩
theorem eX5_size_16 : Dc cX5_size 16 (.ireturn) 1 17 := ⟨by decide +kernel, rfl⟩
theorem eX5_size_17 : Dc cX5_size 17 (.bipush 10) 2 19 := ⟨by decide +kernel, rfl⟩
theorem eX5_size_19 : Dc cX5_size 19 (.aload_n 0) 1 20 := ⟨by decide +kernel, rfl⟩
theorem eX5_size_20 : Dc cX5_size 20 (.getfield 10) 3 23 := ⟨by decide +kernel, rfl⟩
theorem eX5_size_23 : Dc cX5_size 23 (.getfield 56) 3 26 := ⟨by decide +kernel, rfl⟩
theorem eX5_size_26 : Dc cX5_size 26 (.imul) 1 27 := ⟨by decide +kernel, rfl⟩
theorem eX5_size_27 : Dc cX5_size 27 (.aload_n 0) 1 28 := ⟨by decide +kernel, rfl⟩
theorem eX5_size_28 : Dc cX5_size 28 (.getfield 10) 3 31 := ⟨by decide +kernel, rfl⟩
theorem eX5_size_31 : Dc cX5_size 31 (.getfield 60) 3 34 := ⟨by decide +kernel, rfl⟩
theorem eX5_size_34 : Dc cX5_size 34 (.iadd) 1 35 := ⟨by decide +kernel, rfl⟩
theorem eX5_size_35 : Dc cX5_size 35 (.istore_n 3) 1 36 := ⟨by decide +kernel, rfl⟩
theorem eX5_size_36 : Dc cX5_size 36 (.aload_n 0) 1 37 := ⟨by decide +kernel, rfl⟩
theorem eX5_size_37 : Dc cX5_size 37 (.getfield 10) 3 40 := ⟨by decide +kernel, rfl⟩
theorem eX5_size_40 : Dc cX5_size 40 (.iload_n 1) 1 41 := ⟨by decide +kernel, rfl⟩
theorem eX5_size_41 : Dc cX5_size 41 (.iload_n 2) 1 42 := ⟨by decide +kernel, rfl⟩
theorem eX5_size_42 : Dc cX5_size 42 (.invokevirtual 63) 3 45 := ⟨by decide +kernel, rfl⟩
theorem eX5_size_45 : Dc cX5_size 45 (.iload_n 3) 1 46 := ⟨by decide +kernel, rfl⟩
theorem eX5_size_46 : Dc cX5_size 46 (.ireturn) 1 47 := ⟨by decide +kernel, rfl⟩
theorem eX5_grey_0 : Dc cX5_grey 0 (.aload_n 0) 1 1 := ⟨by decide +kernel, rfl⟩
theorem eX5_grey_1 : Dc cX5_grey 1 (.getfield 10) 3 4 := ⟨by decide +kernel, rfl⟩
theorem eX5_grey_4 : Dc cX5_grey 4 (.iload_n 1) 1 5 := ⟨by decide +kernel, rfl⟩
theorem eX5_grey_5 : Dc cX5_grey 5 (.iload_n 2) 1 6 := ⟨by decide +kernel, rfl⟩
theorem eX5_grey_6 : Dc cX5_grey 6 (.invokevirtual 67) 3 9 := ⟨by decide +kernel, rfl⟩
theorem eX5_grey_9 : Dc cX5_grey 9 (.ifCond .ne 5) 3 12 := ⟨by decide +kernel, rfl⟩
theorem eX5_grey_12 : Dc cX5_grey 12 (.iconst (-1)) 1 13 := ⟨by decide +kernel, rfl⟩
theorem eX5_grey_13 : Dc cX5_grey 13 (.ireturn) 1 14 := ⟨by decide +kernel, rfl⟩
theorem eX5_grey_14 : Dc cX5_grey 14 (.iload_n 3) 1 15 := ⟨by decide +kernel, rfl⟩
theorem eX5_grey_15 : Dc cX5_grey 15 (.ifCond .lt 9) 3 18 := ⟨by decide +kernel, rfl⟩
theorem eX5_grey_18 : Dc cX5_grey 18 (.iload_n 3) 1 19 := ⟨by decide +kernel, rfl⟩
theorem eX5_grey_19 : Dc cX5_grey 19 (.bipush 9) 2 21 := ⟨by decide +kernel, rfl⟩
theorem eX5_grey_21 : Dc cX5_grey 21 (.if_icmp .le 6) 3 24 := ⟨by decide +kernel, rfl⟩
theorem eX5_grey_24 : Dc cX5_grey 24 (.bipush (-2)) 2 26 := ⟨by decide +kernel, rfl⟩
theorem eX5_grey_26 : Dc cX5_grey 26 (.ireturn) 1 27 := ⟨by decide +kernel, rfl⟩
theorem eX5_grey_27 : Dc cX5_grey 27 (.aload_n 0) 1 28 := ⟨by decide +kernel, rfl⟩
theorem eX5_grey_28 : Dc cX5_grey 28 (.getfield 10) 3 31 := ⟨by decide +kernel, rfl⟩
theorem eX5_grey_31 : Dc cX5_grey 31 (.iload_n 1) 1 32 := ⟨by decide +kernel, rfl⟩
theorem eX5_grey_32 : Dc cX5_grey 32 (.iload_n 2) 1 33 := ⟨by decide +kernel, rfl⟩
theorem eX5_grey_33 : Dc cX5_grey 33 (.iload_n 3) 1 34 := ⟨by decide +kernel, rfl⟩
theorem eX5_grey_34 : Dc cX5_grey 34 (.invokevirtual 71) 3 37 := ⟨by decide +kernel, rfl⟩
theorem eX5_grey_37 : Dc cX5_grey 37 (.ireturn) 1 38 := ⟨by decide +kernel, rfl⟩
theorem eX5_mark_0 : Dc cX5_mark 0 (.aload_n 0) 1 1 := ⟨by decide +kernel, rfl⟩
theorem eX5_mark_1 : Dc cX5_mark 1 (.getfield 10) 3 4 := ⟨by decide +kernel, rfl⟩
theorem eX5_mark_4 : Dc cX5_mark 4 (.iload_n 1) 1 5 := ⟨by decide +kernel, rfl⟩
theorem eX5_mark_5 : Dc cX5_mark 5 (.iload_n 2) 1 6 := ⟨by decide +kernel, rfl⟩
theorem eX5_mark_6 : Dc cX5_mark 6 (.invokevirtual 67) 3 9 := ⟨by decide +kernel, rfl⟩
theorem eX5_mark_9 : Dc cX5_mark 9 (.ifCond .ne 5) 3 12 := ⟨by decide +kernel, rfl⟩
theorem eX5_mark_12 : Dc cX5_mark 12 (.iconst (-1)) 1 13 := ⟨by decide +kernel, rfl⟩
theorem eX5_mark_13 : Dc cX5_mark 13 (.ireturn) 1 14 := ⟨by decide +kernel, rfl⟩
theorem eX5_mark_14 : Dc cX5_mark 14 (.iload_n 3) 1 15 := ⟨by decide +kernel, rfl⟩
theorem eX5_mark_15 : Dc cX5_mark 15 (.ifCond .lt 8) 3 18 := ⟨by decide +kernel, rfl⟩
theorem eX5_mark_18 : Dc cX5_mark 18 (.iload_n 3) 1 19 := ⟨by decide +kernel, rfl⟩
theorem eX5_mark_19 : Dc cX5_mark 19 (.iconst 2) 1 20 := ⟨by decide +kernel, rfl⟩
theorem eX5_mark_20 : Dc cX5_mark 20 (.if_icmp .le 6) 3 23 := ⟨by decide +kernel, rfl⟩
theorem eX5_mark_23 : Dc cX5_mark 23 (.bipush (-2)) 2 25 := ⟨by decide +kernel, rfl⟩
theorem eX5_mark_25 : Dc cX5_mark 25 (.ireturn) 1 26 := ⟨by decide +kernel, rfl⟩
theorem eX5_mark_26 : Dc cX5_mark 26 (.aload_n 0) 1 27 := ⟨by decide +kernel, rfl⟩
theorem eX5_mark_27 : Dc cX5_mark 27 (.getfield 10) 3 30 := ⟨by decide +kernel, rfl⟩
theorem eX5_mark_30 : Dc cX5_mark 30 (.iload_n 1) 1 31 := ⟨by decide +kernel, rfl⟩
theorem eX5_mark_31 : Dc cX5_mark 31 (.iload_n 2) 1 32 := ⟨by decide +kernel, rfl⟩
theorem eX5_mark_32 : Dc cX5_mark 32 (.iload_n 3) 1 33 := ⟨by decide +kernel, rfl⟩
theorem eX5_mark_33 : Dc cX5_mark 33 (.invokevirtual 75) 3 36 := ⟨by decide +kernel, rfl⟩
theorem eX5_mark_36 : Dc cX5_mark 36 (.ireturn) 1 37 := ⟨by decide +kernel, rfl⟩
theorem eX5_rule_0 : Dc cX5_rule 0 (.iload_n 1) 1 1 := ⟨by decide +kernel, rfl⟩
theorem eX5_rule_1 : Dc cX5_rule 1 (.invokestatic 78) 3 4 := ⟨by decide +kernel, rfl⟩
theorem eX5_rule_4 : Dc cX5_rule 4 (.ifCond .ne 6) 3 7 := ⟨by decide +kernel, rfl⟩
theorem eX5_rule_7 : Dc cX5_rule 7 (.bipush (-2)) 2 9 := ⟨by decide +kernel, rfl⟩
theorem eX5_rule_9 : Dc cX5_rule 9 (.ireturn) 1 10 := ⟨by decide +kernel, rfl⟩
theorem eX5_rule_10 : Dc cX5_rule 10 (.aload_n 0) 1 11 := ⟨by decide +kernel, rfl⟩
theorem eX5_rule_11 : Dc cX5_rule 11 (.getfield 10) 3 14 := ⟨by decide +kernel, rfl⟩
theorem eX5_rule_14 : Dc cX5_rule 14 (.getfield 81) 3 17 := ⟨by decide +kernel, rfl⟩
theorem eX5_rule_17 : Dc cX5_rule 17 (.istore_n 2) 1 18 := ⟨by decide +kernel, rfl⟩
theorem eX5_rule_18 : Dc cX5_rule 18 (.aload_n 0) 1 19 := ⟨by decide +kernel, rfl⟩
theorem eX5_rule_19 : Dc cX5_rule 19 (.getfield 10) 3 22 := ⟨by decide +kernel, rfl⟩
theorem eX5_rule_22 : Dc cX5_rule 22 (.iload_n 1) 1 23 := ⟨by decide +kernel, rfl⟩
theorem eX5_rule_23 : Dc cX5_rule 23 (.putfield 81) 3 26 := ⟨by decide +kernel, rfl⟩
theorem eX5_rule_26 : Dc cX5_rule 26 (.iload_n 2) 1 27 := ⟨by decide +kernel, rfl⟩
theorem eX5_rule_27 : Dc cX5_rule 27 (.ireturn) 1 28 := ⟨by decide +kernel, rfl⟩
theorem eX5_dot_0 : Dc cX5_dot 0 (.aload_n 0) 1 1 := ⟨by decide +kernel, rfl⟩
theorem eX5_dot_1 : Dc cX5_dot 1 (.getfield 10) 3 4 := ⟨by decide +kernel, rfl⟩
theorem eX5_dot_4 : Dc cX5_dot 4 (.iload_n 1) 1 5 := ⟨by decide +kernel, rfl⟩
theorem eX5_dot_5 : Dc cX5_dot 5 (.iload_n 2) 1 6 := ⟨by decide +kernel, rfl⟩
theorem eX5_dot_6 : Dc cX5_dot 6 (.invokevirtual 67) 3 9 := ⟨by decide +kernel, rfl⟩
theorem eX5_dot_9 : Dc cX5_dot 9 (.ifCond .ne 5) 3 12 := ⟨by decide +kernel, rfl⟩
theorem eX5_dot_12 : Dc cX5_dot 12 (.iconst (-1)) 1 13 := ⟨by decide +kernel, rfl⟩
theorem eX5_dot_13 : Dc cX5_dot 13 (.ireturn) 1 14 := ⟨by decide +kernel, rfl⟩
theorem eX5_dot_14 : Dc cX5_dot 14 (.iload_n 3) 1 15 := ⟨by decide +kernel, rfl⟩
theorem eX5_dot_15 : Dc cX5_dot 15 (.tableswitch 75 0 3 #[29, 40, 51, 61]) 29 44 := ⟨by decide +kernel, rfl⟩
theorem eX5_dot_44 : Dc cX5_dot 44 (.aload_n 0) 1 45 := ⟨by decide +kernel, rfl⟩
theorem eX5_dot_45 : Dc cX5_dot 45 (.getfield 10) 3 48 := ⟨by decide +kernel, rfl⟩
theorem eX5_dot_48 : Dc cX5_dot 48 (.iconst 0) 1 49 := ⟨by decide +kernel, rfl⟩
theorem eX5_dot_49 : Dc cX5_dot 49 (.iload_n 2) 1 50 := ⟨by decide +kernel, rfl⟩
theorem eX5_dot_50 : Dc cX5_dot 50 (.iload_n 1) 1 51 := ⟨by decide +kernel, rfl⟩
theorem eX5_dot_51 : Dc cX5_dot 51 (.invokevirtual 84) 3 54 := ⟨by decide +kernel, rfl⟩
theorem eX5_dot_54 : Dc cX5_dot 54 (.ireturn) 1 55 := ⟨by decide +kernel, rfl⟩
theorem eX5_dot_55 : Dc cX5_dot 55 (.aload_n 0) 1 56 := ⟨by decide +kernel, rfl⟩
theorem eX5_dot_56 : Dc cX5_dot 56 (.getfield 10) 3 59 := ⟨by decide +kernel, rfl⟩
theorem eX5_dot_59 : Dc cX5_dot 59 (.iconst 0) 1 60 := ⟨by decide +kernel, rfl⟩
theorem eX5_dot_60 : Dc cX5_dot 60 (.iload_n 2) 1 61 := ⟨by decide +kernel, rfl⟩
theorem eX5_dot_61 : Dc cX5_dot 61 (.iload_n 1) 1 62 := ⟨by decide +kernel, rfl⟩
theorem eX5_dot_62 : Dc cX5_dot 62 (.invokevirtual 87) 3 65 := ⟨by decide +kernel, rfl⟩
theorem eX5_dot_65 : Dc cX5_dot 65 (.ireturn) 1 66 := ⟨by decide +kernel, rfl⟩
theorem eX5_dot_66 : Dc cX5_dot 66 (.aload_n 0) 1 67 := ⟨by decide +kernel, rfl⟩
theorem eX5_dot_67 : Dc cX5_dot 67 (.getfield 10) 3 70 := ⟨by decide +kernel, rfl⟩
theorem eX5_dot_70 : Dc cX5_dot 70 (.iload_n 1) 1 71 := ⟨by decide +kernel, rfl⟩
theorem eX5_dot_71 : Dc cX5_dot 71 (.iload_n 2) 1 72 := ⟨by decide +kernel, rfl⟩
theorem eX5_dot_72 : Dc cX5_dot 72 (.invokevirtual 90) 3 75 := ⟨by decide +kernel, rfl⟩
theorem eX5_dot_75 : Dc cX5_dot 75 (.ireturn) 1 76 := ⟨by decide +kernel, rfl⟩
theorem eX5_dot_76 : Dc cX5_dot 76 (.aload_n 0) 1 77 := ⟨by decide +kernel, rfl⟩
theorem eX5_dot_77 : Dc cX5_dot 77 (.getfield 10) 3 80 := ⟨by decide +kernel, rfl⟩
theorem eX5_dot_80 : Dc cX5_dot 80 (.iload_n 1) 1 81 := ⟨by decide +kernel, rfl⟩
theorem eX5_dot_81 : Dc cX5_dot 81 (.iload_n 2) 1 82 := ⟨by decide +kernel, rfl⟩
theorem eX5_dot_82 : Dc cX5_dot 82 (.invokevirtual 94) 3 85 := ⟨by decide +kernel, rfl⟩
theorem eX5_dot_85 : Dc cX5_dot 85 (.sipush 1000) 3 88 := ⟨by decide +kernel, rfl⟩
theorem eX5_dot_88 : Dc cX5_dot 88 (.iadd) 1 89 := ⟨by decide +kernel, rfl⟩
theorem eX5_dot_89 : Dc cX5_dot 89 (.ireturn) 1 90 := ⟨by decide +kernel, rfl⟩
theorem eX5_dot_90 : Dc cX5_dot 90 (.bipush (-2)) 2 92 := ⟨by decide +kernel, rfl⟩
theorem eX5_dot_92 : Dc cX5_dot 92 (.ireturn) 1 93 := ⟨by decide +kernel, rfl⟩
theorem eX5_say_0 : Dc cX5_say 0 (.iload_n 1) 1 1 := ⟨by decide +kernel, rfl⟩
theorem eX5_say_1 : Dc cX5_say 1 (.bipush 33) 2 3 := ⟨by decide +kernel, rfl⟩
theorem eX5_say_3 : Dc cX5_say 3 (.if_icmp .lt 9) 3 6 := ⟨by decide +kernel, rfl⟩
theorem eX5_say_6 : Dc cX5_say 6 (.iload_n 1) 1 7 := ⟨by decide +kernel, rfl⟩
theorem eX5_say_7 : Dc cX5_say 7 (.bipush 126) 2 9 := ⟨by decide +kernel, rfl⟩
theorem eX5_say_9 : Dc cX5_say 9 (.if_icmp .le 6) 3 12 := ⟨by decide +kernel, rfl⟩
theorem eX5_say_12 : Dc cX5_say 12 (.bipush (-2)) 2 14 := ⟨by decide +kernel, rfl⟩
theorem eX5_say_14 : Dc cX5_say 14 (.ireturn) 1 15 := ⟨by decide +kernel, rfl⟩
theorem eX5_say_15 : Dc cX5_say 15 (.aload_n 0) 1 16 := ⟨by decide +kernel, rfl⟩
theorem eX5_say_16 : Dc cX5_say 16 (.getfield 26) 3 19 := ⟨by decide +kernel, rfl⟩
theorem eX5_say_19 : Dc cX5_say 19 (.invokevirtual 97) 3 22 := ⟨by decide +kernel, rfl⟩
theorem eX5_say_22 : Dc cX5_say 22 (.ifCond .eq 6) 3 25 := ⟨by decide +kernel, rfl⟩
theorem eX5_say_25 : Dc cX5_say 25 (.bipush (-4)) 2 27 := ⟨by decide +kernel, rfl⟩
theorem eX5_say_27 : Dc cX5_say 27 (.ireturn) 1 28 := ⟨by decide +kernel, rfl⟩
theorem eX5_say_28 : Dc cX5_say 28 (.aload_n 0) 1 29 := ⟨by decide +kernel, rfl⟩
theorem eX5_say_29 : Dc cX5_say 29 (.getfield 26) 3 32 := ⟨by decide +kernel, rfl⟩
theorem eX5_say_32 : Dc cX5_say 32 (.iload_n 1) 1 33 := ⟨by decide +kernel, rfl⟩
theorem eX5_say_33 : Dc cX5_say 33 (.invokevirtual 101) 3 36 := ⟨by decide +kernel, rfl⟩
theorem eX5_say_36 : Dc cX5_say 36 (.ireturn) 1 37 := ⟨by decide +kernel, rfl⟩
theorem eX5_wipe_0 : Dc cX5_wipe 0 (.aload_n 0) 1 1 := ⟨by decide +kernel, rfl⟩
theorem eX5_wipe_1 : Dc cX5_wipe 1 (.getfield 26) 3 4 := ⟨by decide +kernel, rfl⟩
theorem eX5_wipe_4 : Dc cX5_wipe 4 (.invokevirtual 105) 3 7 := ⟨by decide +kernel, rfl⟩
theorem eX5_wipe_7 : Dc cX5_wipe 7 (.ireturn) 1 8 := ⟨by decide +kernel, rfl⟩
theorem eX5_fault_0 : Dc cX5_fault 0 (.iload_n 1) 1 1 := ⟨by decide +kernel, rfl⟩
theorem eX5_fault_1 : Dc cX5_fault 1 (.invokestatic 78) 3 4 := ⟨by decide +kernel, rfl⟩
theorem eX5_fault_4 : Dc cX5_fault 4 (.ifCond .ne 6) 3 7 := ⟨by decide +kernel, rfl⟩
theorem eX5_fault_7 : Dc cX5_fault 7 (.bipush (-2)) 2 9 := ⟨by decide +kernel, rfl⟩
theorem eX5_fault_9 : Dc cX5_fault 9 (.ireturn) 1 10 := ⟨by decide +kernel, rfl⟩
theorem eX5_fault_10 : Dc cX5_fault 10 (.aload_n 0) 1 11 := ⟨by decide +kernel, rfl⟩
theorem eX5_fault_11 : Dc cX5_fault 11 (.getfield 26) 3 14 := ⟨by decide +kernel, rfl⟩
theorem eX5_fault_14 : Dc cX5_fault 14 (.iload_n 1) 1 15 := ⟨by decide +kernel, rfl⟩
theorem eX5_fault_15 : Dc cX5_fault 15 (.aload_n 0) 1 16 := ⟨by decide +kernel, rfl⟩
theorem eX5_fault_16 : Dc cX5_fault 16 (.getfield 10) 3 19 := ⟨by decide +kernel, rfl⟩
theorem eX5_fault_19 : Dc cX5_fault 19 (.getfield 56) 3 22 := ⟨by decide +kernel, rfl⟩
theorem eX5_fault_22 : Dc cX5_fault 22 (.aload_n 0) 1 23 := ⟨by decide +kernel, rfl⟩
theorem eX5_fault_23 : Dc cX5_fault 23 (.getfield 10) 3 26 := ⟨by decide +kernel, rfl⟩
theorem eX5_fault_26 : Dc cX5_fault 26 (.getfield 60) 3 29 := ⟨by decide +kernel, rfl⟩
theorem eX5_fault_29 : Dc cX5_fault 29 (.invokevirtual 109) 3 32 := ⟨by decide +kernel, rfl⟩
theorem eX5_fault_32 : Dc cX5_fault 32 (.ireturn) 1 33 := ⟨by decide +kernel, rfl⟩
theorem eX5_lay_0 : Dc cX5_lay 0 (.iload_n 1) 1 1 := ⟨by decide +kernel, rfl⟩
theorem eX5_lay_1 : Dc cX5_lay 1 (.invokestatic 78) 3 4 := ⟨by decide +kernel, rfl⟩
theorem eX5_lay_4 : Dc cX5_lay 4 (.ifCond .ne 6) 3 7 := ⟨by decide +kernel, rfl⟩
theorem eX5_lay_7 : Dc cX5_lay 7 (.bipush (-2)) 2 9 := ⟨by decide +kernel, rfl⟩
theorem eX5_lay_9 : Dc cX5_lay 9 (.ireturn) 1 10 := ⟨by decide +kernel, rfl⟩
theorem eX5_lay_10 : Dc cX5_lay 10 (.aload_n 0) 1 11 := ⟨by decide +kernel, rfl⟩
theorem eX5_lay_11 : Dc cX5_lay 11 (.getfield 26) 3 14 := ⟨by decide +kernel, rfl⟩
theorem eX5_lay_14 : Dc cX5_lay 14 (.iload_n 1) 1 15 := ⟨by decide +kernel, rfl⟩
theorem eX5_lay_15 : Dc cX5_lay 15 (.aload_n 0) 1 16 := ⟨by decide +kernel, rfl⟩
theorem eX5_lay_16 : Dc cX5_lay 16 (.getfield 10) 3 19 := ⟨by decide +kernel, rfl⟩
theorem eX5_lay_19 : Dc cX5_lay 19 (.getfield 56) 3 22 := ⟨by decide +kernel, rfl⟩
theorem eX5_lay_22 : Dc cX5_lay 22 (.aload_n 0) 1 23 := ⟨by decide +kernel, rfl⟩
theorem eX5_lay_23 : Dc cX5_lay 23 (.getfield 10) 3 26 := ⟨by decide +kernel, rfl⟩
theorem eX5_lay_26 : Dc cX5_lay 26 (.getfield 60) 3 29 := ⟨by decide +kernel, rfl⟩
theorem eX5_lay_29 : Dc cX5_lay 29 (.invokevirtual 109) 3 32 := ⟨by decide +kernel, rfl⟩
theorem eX5_lay_32 : Dc cX5_lay 32 (.bipush (-6)) 2 34 := ⟨by decide +kernel, rfl⟩
theorem eX5_lay_34 : Dc cX5_lay 34 (.if_icmp .eq 6) 3 37 := ⟨by decide +kernel, rfl⟩
theorem eX5_lay_37 : Dc cX5_lay 37 (.bipush (-7)) 2 39 := ⟨by decide +kernel, rfl⟩
theorem eX5_lay_39 : Dc cX5_lay 39 (.ireturn) 1 40 := ⟨by decide +kernel, rfl⟩
theorem eX5_lay_40 : Dc cX5_lay 40 (.aload_n 0) 1 41 := ⟨by decide +kernel, rfl⟩
theorem eX5_lay_41 : Dc cX5_lay 41 (.getfield 26) 3 44 := ⟨by decide +kernel, rfl⟩
theorem eX5_lay_44 : Dc cX5_lay 44 (.aload_n 0) 1 45 := ⟨by decide +kernel, rfl⟩
theorem eX5_lay_45 : Dc cX5_lay 45 (.getfield 10) 3 48 := ⟨by decide +kernel, rfl⟩
theorem eX5_lay_48 : Dc cX5_lay 48 (.iload_n 1) 1 49 := ⟨by decide +kernel, rfl⟩
theorem eX5_lay_49 : Dc cX5_lay 49 (.invokevirtual 112) 3 52 := ⟨by decide +kernel, rfl⟩
theorem eX5_lay_52 : Dc cX5_lay 52 (.istore_n 2) 1 53 := ⟨by decide +kernel, rfl⟩
theorem eX5_lay_53 : Dc cX5_lay 53 (.aload_n 0) 1 54 := ⟨by decide +kernel, rfl⟩
theorem eX5_lay_54 : Dc cX5_lay 54 (.getfield 26) 3 57 := ⟨by decide +kernel, rfl⟩
theorem eX5_lay_57 : Dc cX5_lay 57 (.invokevirtual 105) 3 60 := ⟨by decide +kernel, rfl⟩
theorem eX5_lay_60 : Dc cX5_lay 60 (.pop) 1 61 := ⟨by decide +kernel, rfl⟩
theorem eX5_lay_61 : Dc cX5_lay 61 (.iload_n 2) 1 62 := ⟨by decide +kernel, rfl⟩
theorem eX5_lay_62 : Dc cX5_lay 62 (.ireturn) 1 63 := ⟨by decide +kernel, rfl⟩
theorem eX5_seam_0 : Dc cX5_seam 0 (.iload_n 1) 1 1 := ⟨by decide +kernel, rfl⟩
theorem eX5_seam_1 : Dc cX5_seam 1 (.invokestatic 78) 3 4 := ⟨by decide +kernel, rfl⟩
theorem eX5_seam_4 : Dc cX5_seam 4 (.ifCond .eq 8) 3 7 := ⟨by decide +kernel, rfl⟩
theorem eX5_seam_7 : Dc cX5_seam 7 (.iload_n 2) 1 8 := ⟨by decide +kernel, rfl⟩
theorem eX5_seam_8 : Dc cX5_seam 8 (.iconst (-1)) 1 9 := ⟨by decide +kernel, rfl⟩
theorem eX5_seam_9 : Dc cX5_seam 9 (.if_icmp .ge 6) 3 12 := ⟨by decide +kernel, rfl⟩
theorem eX5_seam_12 : Dc cX5_seam 12 (.bipush (-2)) 2 14 := ⟨by decide +kernel, rfl⟩
theorem eX5_seam_14 : Dc cX5_seam 14 (.ireturn) 1 15 := ⟨by decide +kernel, rfl⟩
theorem eX5_seam_15 : Dc cX5_seam 15 (.iload_n 2) 1 16 := ⟨by decide +kernel, rfl⟩
theorem eX5_seam_16 : Dc cX5_seam 16 (.aload_n 0) 1 17 := ⟨by decide +kernel, rfl⟩
theorem eX5_seam_17 : Dc cX5_seam 17 (.getfield 10) 3 20 := ⟨by decide +kernel, rfl⟩
theorem eX5_seam_20 : Dc cX5_seam 20 (.iload_n 1) 1 21 := ⟨by decide +kernel, rfl⟩
theorem eX5_seam_21 : Dc cX5_seam 21 (.invokevirtual 116) 3 24 := ⟨by decide +kernel, rfl⟩
theorem eX5_seam_24 : Dc cX5_seam 24 (.if_icmp .lt 6) 3 27 := ⟨by decide +kernel, rfl⟩
theorem eX5_seam_27 : Dc cX5_seam 27 (.bipush (-6)) 2 29 := ⟨by decide +kernel, rfl⟩
theorem eX5_seam_29 : Dc cX5_seam 29 (.ireturn) 1 30 := ⟨by decide +kernel, rfl⟩
theorem eX5_seam_30 : Dc cX5_seam 30 (.aload_n 0) 1 31 := ⟨by decide +kernel, rfl⟩
theorem eX5_seam_31 : Dc cX5_seam 31 (.getfield 19) 3 34 := ⟨by decide +kernel, rfl⟩
theorem eX5_seam_34 : Dc cX5_seam 34 (.aload_n 0) 1 35 := ⟨by decide +kernel, rfl⟩
theorem eX5_seam_35 : Dc cX5_seam 35 (.getfield 10) 3 38 := ⟨by decide +kernel, rfl⟩
theorem eX5_seam_38 : Dc cX5_seam 38 (.iload_n 1) 1 39 := ⟨by decide +kernel, rfl⟩
theorem eX5_seam_39 : Dc cX5_seam 39 (.invokevirtual 119) 3 42 := ⟨by decide +kernel, rfl⟩
theorem eX5_seam_42 : Dc cX5_seam 42 (.iload_n 2) 1 43 := ⟨by decide +kernel, rfl⟩
theorem eX5_seam_43 : Dc cX5_seam 43 (.ifCond .ge 17) 3 46 := ⟨by decide +kernel, rfl⟩
theorem eX5_seam_46 : Dc cX5_seam 46 (.aload_n 0) 1 47 := ⟨by decide +kernel, rfl⟩
theorem eX5_seam_47 : Dc cX5_seam 47 (.getfield 19) 3 50 := ⟨by decide +kernel, rfl⟩
theorem eX5_seam_50 : Dc cX5_seam 50 (.getfield 123) 3 53 := ⟨by decide +kernel, rfl⟩
theorem eX5_seam_53 : Dc cX5_seam 53 (.sipush 10000) 3 56 := ⟨by decide +kernel, rfl⟩
theorem eX5_seam_56 : Dc cX5_seam 56 (.iadd) 1 57 := ⟨by decide +kernel, rfl⟩
theorem eX5_seam_57 : Dc cX5_seam 57 (.goto 12) 3 60 := ⟨by decide +kernel, rfl⟩
theorem eX5_seam_60 : Dc cX5_seam 60 (.aload_n 0) 1 61 := ⟨by decide +kernel, rfl⟩
theorem eX5_seam_61 : Dc cX5_seam 61 (.getfield 19) 3 64 := ⟨by decide +kernel, rfl⟩
theorem eX5_seam_64 : Dc cX5_seam 64 (.getfield 126) 3 67 := ⟨by decide +kernel, rfl⟩
theorem eX5_seam_67 : Dc cX5_seam 67 (.iload_n 2) 1 68 := ⟨by decide +kernel, rfl⟩
theorem eX5_seam_68 : Dc cX5_seam 68 (.iaload) 1 69 := ⟨by decide +kernel, rfl⟩
theorem eX5_seam_69 : Dc cX5_seam 69 (.ireturn) 1 70 := ⟨by decide +kernel, rfl⟩
theorem eX5_cost_0 : Dc cX5_cost 0 (.iload_n 1) 1 1 := ⟨by decide +kernel, rfl⟩
theorem eX5_cost_1 : Dc cX5_cost 1 (.invokestatic 78) 3 4 := ⟨by decide +kernel, rfl⟩
theorem eX5_cost_4 : Dc cX5_cost 4 (.ifCond .eq 7) 3 7 := ⟨by decide +kernel, rfl⟩
theorem eX5_cost_7 : Dc cX5_cost 7 (.iload_n 2) 1 8 := ⟨by decide +kernel, rfl⟩
theorem eX5_cost_8 : Dc cX5_cost 8 (.ifCond .ge 6) 3 11 := ⟨by decide +kernel, rfl⟩
theorem eX5_cost_11 : Dc cX5_cost 11 (.bipush (-2)) 2 13 := ⟨by decide +kernel, rfl⟩
theorem eX5_cost_13 : Dc cX5_cost 13 (.ireturn) 1 14 := ⟨by decide +kernel, rfl⟩
theorem eX5_cost_14 : Dc cX5_cost 14 (.aload_n 0) 1 15 := ⟨by decide +kernel, rfl⟩
theorem eX5_cost_15 : Dc cX5_cost 15 (.getfield 19) 3 18 := ⟨by decide +kernel, rfl⟩
theorem eX5_cost_18 : Dc cX5_cost 18 (.aload_n 0) 1 19 := ⟨by decide +kernel, rfl⟩
theorem eX5_cost_19 : Dc cX5_cost 19 (.getfield 10) 3 22 := ⟨by decide +kernel, rfl⟩
theorem eX5_cost_22 : Dc cX5_cost 22 (.iload_n 1) 1 23 := ⟨by decide +kernel, rfl⟩
theorem eX5_cost_23 : Dc cX5_cost 23 (.iload_n 2) 1 24 := ⟨by decide +kernel, rfl⟩
theorem eX5_cost_24 : Dc cX5_cost 24 (.invokevirtual 130) 3 27 := ⟨by decide +kernel, rfl⟩
theorem eX5_cost_27 : Dc cX5_cost 27 (.ifCond .ne 6) 3 30 := ⟨by decide +kernel, rfl⟩
theorem eX5_cost_30 : Dc cX5_cost 30 (.bipush (-5)) 2 32 := ⟨by decide +kernel, rfl⟩
theorem eX5_cost_32 : Dc cX5_cost 32 (.ireturn) 1 33 := ⟨by decide +kernel, rfl⟩
theorem eX5_cost_33 : Dc cX5_cost 33 (.aload_n 0) 1 34 := ⟨by decide +kernel, rfl⟩
theorem eX5_cost_34 : Dc cX5_cost 34 (.getfield 19) 3 37 := ⟨by decide +kernel, rfl⟩
theorem eX5_cost_37 : Dc cX5_cost 37 (.getfield 123) 3 40 := ⟨by decide +kernel, rfl⟩
theorem eX5_cost_40 : Dc cX5_cost 40 (.sipush 10000) 3 43 := ⟨by decide +kernel, rfl⟩
theorem eX5_cost_43 : Dc cX5_cost 43 (.iadd) 1 44 := ⟨by decide +kernel, rfl⟩
theorem eX5_cost_44 : Dc cX5_cost 44 (.ireturn) 1 45 := ⟨by decide +kernel, rfl⟩
end
section
theorem eX5_cut_0 : Dc cX5_cut 0 (.iload_n 1) 1 1 := ⟨by decide +kernel, rfl⟩
theorem eX5_cut_1 : Dc cX5_cut 1 (.invokestatic 78) 3 4 := ⟨by decide +kernel, rfl⟩
theorem eX5_cut_4 : Dc cX5_cut 4 (.ifCond .ne 6) 3 7 := ⟨by decide +kernel, rfl⟩
theorem eX5_cut_7 : Dc cX5_cut 7 (.bipush (-2)) 2 9 := ⟨by decide +kernel, rfl⟩
theorem eX5_cut_9 : Dc cX5_cut 9 (.ireturn) 1 10 := ⟨by decide +kernel, rfl⟩
theorem eX5_cut_10 : Dc cX5_cut 10 (.aload_n 0) 1 11 := ⟨by decide +kernel, rfl⟩
theorem eX5_cut_11 : Dc cX5_cut 11 (.getfield 10) 3 14 := ⟨by decide +kernel, rfl⟩
theorem eX5_cut_14 : Dc cX5_cut 14 (.iload_n 1) 1 15 := ⟨by decide +kernel, rfl⟩
theorem eX5_cut_15 : Dc cX5_cut 15 (.invokevirtual 134) 3 18 := ⟨by decide +kernel, rfl⟩
theorem eX5_cut_18 : Dc cX5_cut 18 (.iconst 2) 1 19 := ⟨by decide +kernel, rfl⟩
theorem eX5_cut_19 : Dc cX5_cut 19 (.if_icmp .gt 6) 3 22 := ⟨by decide +kernel, rfl⟩
theorem eX5_cut_22 : Dc cX5_cut 22 (.bipush (-3)) 2 24 := ⟨by decide +kernel, rfl⟩
theorem eX5_cut_24 : Dc cX5_cut 24 (.ireturn) 1 25 := ⟨by decide +kernel, rfl⟩
theorem eX5_cut_25 : Dc cX5_cut 25 (.aload_n 0) 1 26 := ⟨by decide +kernel, rfl⟩
theorem eX5_cut_26 : Dc cX5_cut 26 (.getfield 19) 3 29 := ⟨by decide +kernel, rfl⟩
theorem eX5_cut_29 : Dc cX5_cut 29 (.aload_n 0) 1 30 := ⟨by decide +kernel, rfl⟩
theorem eX5_cut_30 : Dc cX5_cut 30 (.getfield 10) 3 33 := ⟨by decide +kernel, rfl⟩
theorem eX5_cut_33 : Dc cX5_cut 33 (.iload_n 1) 1 34 := ⟨by decide +kernel, rfl⟩
theorem eX5_cut_34 : Dc cX5_cut 34 (.invokevirtual 119) 3 37 := ⟨by decide +kernel, rfl⟩
theorem eX5_cut_37 : Dc cX5_cut 37 (.aload_n 0) 1 38 := ⟨by decide +kernel, rfl⟩
theorem eX5_cut_38 : Dc cX5_cut 38 (.getfield 10) 3 41 := ⟨by decide +kernel, rfl⟩
theorem eX5_cut_41 : Dc cX5_cut 41 (.aload_n 0) 1 42 := ⟨by decide +kernel, rfl⟩
theorem eX5_cut_42 : Dc cX5_cut 42 (.getfield 19) 3 45 := ⟨by decide +kernel, rfl⟩
theorem eX5_cut_45 : Dc cX5_cut 45 (.invokevirtual 137) 3 48 := ⟨by decide +kernel, rfl⟩
theorem eX5_cut_48 : Dc cX5_cut 48 (.aload_n 0) 1 49 := ⟨by decide +kernel, rfl⟩
theorem eX5_cut_49 : Dc cX5_cut 49 (.getfield 19) 3 52 := ⟨by decide +kernel, rfl⟩
theorem eX5_cut_52 : Dc cX5_cut 52 (.getfield 123) 3 55 := ⟨by decide +kernel, rfl⟩
theorem eX5_cut_55 : Dc cX5_cut 55 (.sipush 10000) 3 58 := ⟨by decide +kernel, rfl⟩
theorem eX5_cut_58 : Dc cX5_cut 58 (.iadd) 1 59 := ⟨by decide +kernel, rfl⟩
theorem eX5_cut_59 : Dc cX5_cut 59 (.ireturn) 1 60 := ⟨by decide +kernel, rfl⟩
theorem eX5_add_0 : Dc cX5_add 0 (.iload_n 1) 1 1 := ⟨by decide +kernel, rfl⟩
theorem eX5_add_1 : Dc cX5_add 1 (.invokestatic 78) 3 4 := ⟨by decide +kernel, rfl⟩
theorem eX5_add_4 : Dc cX5_add 4 (.ifCond .ne 6) 3 7 := ⟨by decide +kernel, rfl⟩
theorem eX5_add_7 : Dc cX5_add 7 (.bipush (-2)) 2 9 := ⟨by decide +kernel, rfl⟩
theorem eX5_add_9 : Dc cX5_add 9 (.ireturn) 1 10 := ⟨by decide +kernel, rfl⟩
theorem eX5_add_10 : Dc cX5_add 10 (.aload_n 0) 1 11 := ⟨by decide +kernel, rfl⟩
theorem eX5_add_11 : Dc cX5_add 11 (.getfield 10) 3 14 := ⟨by decide +kernel, rfl⟩
theorem eX5_add_14 : Dc cX5_add 14 (.iload_n 1) 1 15 := ⟨by decide +kernel, rfl⟩
theorem eX5_add_15 : Dc cX5_add 15 (.invokevirtual 134) 3 18 := ⟨by decide +kernel, rfl⟩
theorem eX5_add_18 : Dc cX5_add 18 (.bipush 8) 2 20 := ⟨by decide +kernel, rfl⟩
theorem eX5_add_20 : Dc cX5_add 20 (.if_icmp .lt 6) 3 23 := ⟨by decide +kernel, rfl⟩
theorem eX5_add_23 : Dc cX5_add 23 (.bipush (-3)) 2 25 := ⟨by decide +kernel, rfl⟩
theorem eX5_add_25 : Dc cX5_add 25 (.ireturn) 1 26 := ⟨by decide +kernel, rfl⟩
theorem eX5_add_26 : Dc cX5_add 26 (.aload_n 0) 1 27 := ⟨by decide +kernel, rfl⟩
theorem eX5_add_27 : Dc cX5_add 27 (.getfield 19) 3 30 := ⟨by decide +kernel, rfl⟩
theorem eX5_add_30 : Dc cX5_add 30 (.aload_n 0) 1 31 := ⟨by decide +kernel, rfl⟩
theorem eX5_add_31 : Dc cX5_add 31 (.getfield 10) 3 34 := ⟨by decide +kernel, rfl⟩
theorem eX5_add_34 : Dc cX5_add 34 (.iload_n 1) 1 35 := ⟨by decide +kernel, rfl⟩
theorem eX5_add_35 : Dc cX5_add 35 (.invokevirtual 119) 3 38 := ⟨by decide +kernel, rfl⟩
theorem eX5_add_38 : Dc cX5_add 38 (.aload_n 0) 1 39 := ⟨by decide +kernel, rfl⟩
theorem eX5_add_39 : Dc cX5_add 39 (.getfield 10) 3 42 := ⟨by decide +kernel, rfl⟩
theorem eX5_add_42 : Dc cX5_add 42 (.aload_n 0) 1 43 := ⟨by decide +kernel, rfl⟩
theorem eX5_add_43 : Dc cX5_add 43 (.getfield 19) 3 46 := ⟨by decide +kernel, rfl⟩
theorem eX5_add_46 : Dc cX5_add 46 (.invokevirtual 141) 3 49 := ⟨by decide +kernel, rfl⟩
theorem eX5_add_49 : Dc cX5_add 49 (.aload_n 0) 1 50 := ⟨by decide +kernel, rfl⟩
theorem eX5_add_50 : Dc cX5_add 50 (.getfield 19) 3 53 := ⟨by decide +kernel, rfl⟩
theorem eX5_add_53 : Dc cX5_add 53 (.getfield 123) 3 56 := ⟨by decide +kernel, rfl⟩
theorem eX5_add_56 : Dc cX5_add 56 (.sipush 10000) 3 59 := ⟨by decide +kernel, rfl⟩
theorem eX5_add_59 : Dc cX5_add 59 (.iadd) 1 60 := ⟨by decide +kernel, rfl⟩
theorem eX5_add_60 : Dc cX5_add 60 (.ireturn) 1 61 := ⟨by decide +kernel, rfl⟩
theorem eX5_least_0 : Dc cX5_least 0 (.iload_n 1) 1 1 := ⟨by decide +kernel, rfl⟩
theorem eX5_least_1 : Dc cX5_least 1 (.invokestatic 78) 3 4 := ⟨by decide +kernel, rfl⟩
theorem eX5_least_4 : Dc cX5_least 4 (.ifCond .ne 6) 3 7 := ⟨by decide +kernel, rfl⟩
theorem eX5_least_7 : Dc cX5_least 7 (.bipush (-2)) 2 9 := ⟨by decide +kernel, rfl⟩
theorem eX5_least_9 : Dc cX5_least 9 (.ireturn) 1 10 := ⟨by decide +kernel, rfl⟩
theorem eX5_least_10 : Dc cX5_least 10 (.iload_n 2) 1 11 := ⟨by decide +kernel, rfl⟩
theorem eX5_least_11 : Dc cX5_least 11 (.ifCond .lt 15) 3 14 := ⟨by decide +kernel, rfl⟩
theorem eX5_least_14 : Dc cX5_least 14 (.iload_n 2) 1 15 := ⟨by decide +kernel, rfl⟩
theorem eX5_least_15 : Dc cX5_least 15 (.aload_n 0) 1 16 := ⟨by decide +kernel, rfl⟩
theorem eX5_least_16 : Dc cX5_least 16 (.getfield 10) 3 19 := ⟨by decide +kernel, rfl⟩
theorem eX5_least_19 : Dc cX5_least 19 (.iload_n 1) 1 20 := ⟨by decide +kernel, rfl⟩
theorem eX5_least_20 : Dc cX5_least 20 (.invokevirtual 116) 3 23 := ⟨by decide +kernel, rfl⟩
theorem eX5_least_23 : Dc cX5_least 23 (.if_icmp .lt 5) 3 26 := ⟨by decide +kernel, rfl⟩
theorem eX5_least_26 : Dc cX5_least 26 (.iconst (-1)) 1 27 := ⟨by decide +kernel, rfl⟩
theorem eX5_least_27 : Dc cX5_least 27 (.ireturn) 1 28 := ⟨by decide +kernel, rfl⟩
theorem eX5_least_28 : Dc cX5_least 28 (.iload_n 1) 1 29 := ⟨by decide +kernel, rfl⟩
theorem eX5_least_29 : Dc cX5_least 29 (.ifCond .ne 14) 3 32 := ⟨by decide +kernel, rfl⟩
theorem eX5_least_32 : Dc cX5_least 32 (.aload_n 0) 1 33 := ⟨by decide +kernel, rfl⟩
theorem eX5_least_33 : Dc cX5_least 33 (.getfield 10) 3 36 := ⟨by decide +kernel, rfl⟩
theorem eX5_least_36 : Dc cX5_least 36 (.iload_n 2) 1 37 := ⟨by decide +kernel, rfl⟩
theorem eX5_least_37 : Dc cX5_least 37 (.invokevirtual 144) 3 40 := ⟨by decide +kernel, rfl⟩
theorem eX5_least_40 : Dc cX5_least 40 (.goto 11) 3 43 := ⟨by decide +kernel, rfl⟩
theorem eX5_least_43 : Dc cX5_least 43 (.aload_n 0) 1 44 := ⟨by decide +kernel, rfl⟩
theorem eX5_least_44 : Dc cX5_least 44 (.getfield 10) 3 47 := ⟨by decide +kernel, rfl⟩
theorem eX5_least_47 : Dc cX5_least 47 (.iload_n 2) 1 48 := ⟨by decide +kernel, rfl⟩
theorem eX5_least_48 : Dc cX5_least 48 (.invokevirtual 147) 3 51 := ⟨by decide +kernel, rfl⟩
theorem eX5_least_51 : Dc cX5_least 51 (.ireturn) 1 52 := ⟨by decide +kernel, rfl⟩
theorem eX5_best_0 : Dc cX5_best 0 (.aload_n 0) 1 1 := ⟨by decide +kernel, rfl⟩
theorem eX5_best_1 : Dc cX5_best 1 (.iload_n 1) 1 2 := ⟨by decide +kernel, rfl⟩
theorem eX5_best_2 : Dc cX5_best 2 (.iload_n 2) 1 3 := ⟨by decide +kernel, rfl⟩
theorem eX5_best_3 : Dc cX5_best 3 (.invokevirtual 150) 3 6 := ⟨by decide +kernel, rfl⟩
theorem eX5_best_6 : Dc cX5_best 6 (.ifCond .eq 12) 3 9 := ⟨by decide +kernel, rfl⟩
theorem eX5_best_9 : Dc cX5_best 9 (.iload_n 3) 1 10 := ⟨by decide +kernel, rfl⟩
theorem eX5_best_10 : Dc cX5_best 10 (.ifCond .lt 8) 3 13 := ⟨by decide +kernel, rfl⟩
theorem eX5_best_13 : Dc cX5_best 13 (.iload_n 3) 1 14 := ⟨by decide +kernel, rfl⟩
theorem eX5_best_14 : Dc cX5_best 14 (.iconst 3) 1 15 := ⟨by decide +kernel, rfl⟩
theorem eX5_best_15 : Dc cX5_best 15 (.if_icmp .le 6) 3 18 := ⟨by decide +kernel, rfl⟩
theorem eX5_best_18 : Dc cX5_best 18 (.bipush (-2)) 2 20 := ⟨by decide +kernel, rfl⟩
theorem eX5_best_20 : Dc cX5_best 20 (.ireturn) 1 21 := ⟨by decide +kernel, rfl⟩
theorem eX5_best_21 : Dc cX5_best 21 (.aload_n 0) 1 22 := ⟨by decide +kernel, rfl⟩
theorem eX5_best_22 : Dc cX5_best 22 (.getfield 33) 3 25 := ⟨by decide +kernel, rfl⟩
theorem eX5_best_25 : Dc cX5_best 25 (.aload_n 0) 1 26 := ⟨by decide +kernel, rfl⟩
theorem eX5_best_26 : Dc cX5_best 26 (.getfield 10) 3 29 := ⟨by decide +kernel, rfl⟩
theorem eX5_best_29 : Dc cX5_best 29 (.iload_n 1) 1 30 := ⟨by decide +kernel, rfl⟩
theorem eX5_best_30 : Dc cX5_best 30 (.iload_n 2) 1 31 := ⟨by decide +kernel, rfl⟩
theorem eX5_best_31 : Dc cX5_best 31 (.invokevirtual 153) 3 34 := ⟨by decide +kernel, rfl⟩
theorem eX5_best_34 : Dc cX5_best 34 (.iload_n 3) 1 35 := ⟨by decide +kernel, rfl⟩
theorem eX5_best_35 : Dc cX5_best 35 (.tableswitch 53 0 2 #[25, 37, 45]) 25 60 := ⟨by decide +kernel, rfl⟩
theorem eX5_best_60 : Dc cX5_best 60 (.aload_n 0) 1 61 := ⟨by decide +kernel, rfl⟩
theorem eX5_best_61 : Dc cX5_best 61 (.getfield 33) 3 64 := ⟨by decide +kernel, rfl⟩
theorem eX5_best_64 : Dc cX5_best 64 (.getfield 157) 3 67 := ⟨by decide +kernel, rfl⟩
theorem eX5_best_67 : Dc cX5_best 67 (.sipush 10000) 3 70 := ⟨by decide +kernel, rfl⟩
theorem eX5_best_70 : Dc cX5_best 70 (.iadd) 1 71 := ⟨by decide +kernel, rfl⟩
theorem eX5_best_71 : Dc cX5_best 71 (.ireturn) 1 72 := ⟨by decide +kernel, rfl⟩
theorem eX5_best_72 : Dc cX5_best 72 (.aload_n 0) 1 73 := ⟨by decide +kernel, rfl⟩
theorem eX5_best_73 : Dc cX5_best 73 (.getfield 33) 3 76 := ⟨by decide +kernel, rfl⟩
theorem eX5_best_76 : Dc cX5_best 76 (.getfield 160) 3 79 := ⟨by decide +kernel, rfl⟩
theorem eX5_best_79 : Dc cX5_best 79 (.ireturn) 1 80 := ⟨by decide +kernel, rfl⟩
theorem eX5_best_80 : Dc cX5_best 80 (.aload_n 0) 1 81 := ⟨by decide +kernel, rfl⟩
theorem eX5_best_81 : Dc cX5_best 81 (.getfield 33) 3 84 := ⟨by decide +kernel, rfl⟩
theorem eX5_best_84 : Dc cX5_best 84 (.getfield 163) 3 87 := ⟨by decide +kernel, rfl⟩
theorem eX5_best_87 : Dc cX5_best 87 (.ireturn) 1 88 := ⟨by decide +kernel, rfl⟩
theorem eX5_best_88 : Dc cX5_best 88 (.aload_n 0) 1 89 := ⟨by decide +kernel, rfl⟩
theorem eX5_best_89 : Dc cX5_best 89 (.getfield 33) 3 92 := ⟨by decide +kernel, rfl⟩
theorem eX5_best_92 : Dc cX5_best 92 (.getfield 166) 3 95 := ⟨by decide +kernel, rfl⟩
theorem eX5_best_95 : Dc cX5_best 95 (.ireturn) 1 96 := ⟨by decide +kernel, rfl⟩
theorem eX5_table_0 : Dc cX5_table 0 (.aload_n 0) 1 1 := ⟨by decide +kernel, rfl⟩
theorem eX5_table_1 : Dc cX5_table 1 (.iload_n 1) 1 2 := ⟨by decide +kernel, rfl⟩
theorem eX5_table_2 : Dc cX5_table 2 (.iload_n 2) 1 3 := ⟨by decide +kernel, rfl⟩
theorem eX5_table_3 : Dc cX5_table 3 (.invokevirtual 150) 3 6 := ⟨by decide +kernel, rfl⟩
theorem eX5_table_6 : Dc cX5_table 6 (.ifCond .eq 19) 3 9 := ⟨by decide +kernel, rfl⟩
theorem eX5_table_9 : Dc cX5_table 9 (.iload_n 3) 1 10 := ⟨by decide +kernel, rfl⟩
theorem eX5_table_10 : Dc cX5_table 10 (.ifCond .eq 18) 3 13 := ⟨by decide +kernel, rfl⟩
theorem eX5_table_13 : Dc cX5_table 13 (.iload_n 3) 1 14 := ⟨by decide +kernel, rfl⟩
theorem eX5_table_14 : Dc cX5_table 14 (.bipush 10) 2 16 := ⟨by decide +kernel, rfl⟩
theorem eX5_table_16 : Dc cX5_table 16 (.if_icmp .lt 9) 3 19 := ⟨by decide +kernel, rfl⟩
theorem eX5_table_19 : Dc cX5_table 19 (.iload_n 3) 1 20 := ⟨by decide +kernel, rfl⟩
theorem eX5_table_20 : Dc cX5_table 20 (.bipush 89) 2 22 := ⟨by decide +kernel, rfl⟩
theorem eX5_table_22 : Dc cX5_table 22 (.if_icmp .le 6) 3 25 := ⟨by decide +kernel, rfl⟩
theorem eX5_table_25 : Dc cX5_table 25 (.bipush (-2)) 2 27 := ⟨by decide +kernel, rfl⟩
theorem eX5_table_27 : Dc cX5_table 27 (.ireturn) 1 28 := ⟨by decide +kernel, rfl⟩
theorem eX5_table_28 : Dc cX5_table 28 (.iload_n 3) 1 29 := ⟨by decide +kernel, rfl⟩
theorem eX5_table_29 : Dc cX5_table 29 (.bipush 10) 2 31 := ⟨by decide +kernel, rfl⟩
theorem eX5_table_31 : Dc cX5_table 31 (.idiv) 1 32 := ⟨by decide +kernel, rfl⟩
theorem eX5_table_32 : Dc cX5_table 32 (.iconst 1) 1 33 := ⟨by decide +kernel, rfl⟩
theorem eX5_table_33 : Dc cX5_table 33 (.isub) 1 34 := ⟨by decide +kernel, rfl⟩
theorem eX5_table_34 : Dc cX5_table 34 (.istore 4) 2 36 := ⟨by decide +kernel, rfl⟩
theorem eX5_table_36 : Dc cX5_table 36 (.iload_n 3) 1 37 := ⟨by decide +kernel, rfl⟩
theorem eX5_table_37 : Dc cX5_table 37 (.bipush 10) 2 39 := ⟨by decide +kernel, rfl⟩
theorem eX5_table_39 : Dc cX5_table 39 (.irem) 1 40 := ⟨by decide +kernel, rfl⟩
theorem eX5_table_40 : Dc cX5_table 40 (.istore 5) 2 42 := ⟨by decide +kernel, rfl⟩
theorem eX5_table_42 : Dc cX5_table 42 (.iload_n 3) 1 43 := ⟨by decide +kernel, rfl⟩
theorem eX5_table_43 : Dc cX5_table 43 (.ifCond .eq 34) 3 46 := ⟨by decide +kernel, rfl⟩
theorem eX5_table_46 : Dc cX5_table 46 (.iload 4) 2 48 := ⟨by decide +kernel, rfl⟩
theorem eX5_table_48 : Dc cX5_table 48 (.aload_n 0) 1 49 := ⟨by decide +kernel, rfl⟩
theorem eX5_table_49 : Dc cX5_table 49 (.getfield 10) 3 52 := ⟨by decide +kernel, rfl⟩
theorem eX5_table_52 : Dc cX5_table 52 (.getfield 56) 3 55 := ⟨by decide +kernel, rfl⟩
theorem eX5_table_55 : Dc cX5_table 55 (.iload_n 1) 1 56 := ⟨by decide +kernel, rfl⟩
theorem eX5_table_56 : Dc cX5_table 56 (.isub) 1 57 := ⟨by decide +kernel, rfl⟩
theorem eX5_table_57 : Dc cX5_table 57 (.if_icmp .ge 17) 3 60 := ⟨by decide +kernel, rfl⟩
theorem eX5_table_60 : Dc cX5_table 60 (.iload 5) 2 62 := ⟨by decide +kernel, rfl⟩
theorem eX5_table_62 : Dc cX5_table 62 (.aload_n 0) 1 63 := ⟨by decide +kernel, rfl⟩
theorem eX5_table_63 : Dc cX5_table 63 (.getfield 10) 3 66 := ⟨by decide +kernel, rfl⟩
theorem eX5_table_66 : Dc cX5_table 66 (.getfield 60) 3 69 := ⟨by decide +kernel, rfl⟩
theorem eX5_table_69 : Dc cX5_table 69 (.iload_n 2) 1 70 := ⟨by decide +kernel, rfl⟩
theorem eX5_table_70 : Dc cX5_table 70 (.isub) 1 71 := ⟨by decide +kernel, rfl⟩
theorem eX5_table_71 : Dc cX5_table 71 (.if_icmp .lt 6) 3 74 := ⟨by decide +kernel, rfl⟩
theorem eX5_table_74 : Dc cX5_table 74 (.bipush (-6)) 2 76 := ⟨by decide +kernel, rfl⟩
theorem eX5_table_76 : Dc cX5_table 76 (.ireturn) 1 77 := ⟨by decide +kernel, rfl⟩
theorem eX5_table_77 : Dc cX5_table 77 (.aload_n 0) 1 78 := ⟨by decide +kernel, rfl⟩
theorem eX5_table_78 : Dc cX5_table 78 (.getfield 40) 3 81 := ⟨by decide +kernel, rfl⟩
theorem eX5_table_81 : Dc cX5_table 81 (.aload_n 0) 1 82 := ⟨by decide +kernel, rfl⟩
theorem eX5_table_82 : Dc cX5_table 82 (.getfield 10) 3 85 := ⟨by decide +kernel, rfl⟩
theorem eX5_table_85 : Dc cX5_table 85 (.iload_n 1) 1 86 := ⟨by decide +kernel, rfl⟩
theorem eX5_table_86 : Dc cX5_table 86 (.iload_n 2) 1 87 := ⟨by decide +kernel, rfl⟩
theorem eX5_table_87 : Dc cX5_table 87 (.invokevirtual 169) 3 90 := ⟨by decide +kernel, rfl⟩
theorem eX5_table_90 : Dc cX5_table 90 (.iload_n 3) 1 91 := ⟨by decide +kernel, rfl⟩
theorem eX5_table_91 : Dc cX5_table 91 (.ifCond .ne 19) 3 94 := ⟨by decide +kernel, rfl⟩
theorem eX5_table_94 : Dc cX5_table 94 (.aload_n 0) 1 95 := ⟨by decide +kernel, rfl⟩
theorem eX5_table_95 : Dc cX5_table 95 (.getfield 40) 3 98 := ⟨by decide +kernel, rfl⟩
theorem eX5_table_98 : Dc cX5_table 98 (.getfield 172) 3 101 := ⟨by decide +kernel, rfl⟩
theorem eX5_table_101 : Dc cX5_table 101 (.iload_n 2) 1 102 := ⟨by decide +kernel, rfl⟩
theorem eX5_table_102 : Dc cX5_table 102 (.iaload) 1 103 := ⟨by decide +kernel, rfl⟩
theorem eX5_table_103 : Dc cX5_table 103 (.sipush 10000) 3 106 := ⟨by decide +kernel, rfl⟩
theorem eX5_table_106 : Dc cX5_table 106 (.iadd) 1 107 := ⟨by decide +kernel, rfl⟩
theorem eX5_table_107 : Dc cX5_table 107 (.goto 20) 3 110 := ⟨by decide +kernel, rfl⟩
theorem eX5_table_110 : Dc cX5_table 110 (.aload_n 0) 1 111 := ⟨by decide +kernel, rfl⟩
theorem eX5_table_111 : Dc cX5_table 111 (.getfield 40) 3 114 := ⟨by decide +kernel, rfl⟩
theorem eX5_table_114 : Dc cX5_table 114 (.getfield 175) 3 117 := ⟨by decide +kernel, rfl⟩
theorem eX5_table_117 : Dc cX5_table 117 (.iload_n 2) 1 118 := ⟨by decide +kernel, rfl⟩
theorem eX5_table_118 : Dc cX5_table 118 (.aaload) 1 119 := ⟨by decide +kernel, rfl⟩
theorem eX5_table_119 : Dc cX5_table 119 (.iconst 0) 1 120 := ⟨by decide +kernel, rfl⟩
theorem eX5_table_120 : Dc cX5_table 120 (.iload 5) 2 122 := ⟨by decide +kernel, rfl⟩
theorem eX5_table_122 : Dc cX5_table 122 (.iload 4) 2 124 := ⟨by decide +kernel, rfl⟩
theorem eX5_table_124 : Dc cX5_table 124 (.invokevirtual 84) 3 127 := ⟨by decide +kernel, rfl⟩
theorem eX5_table_127 : Dc cX5_table 127 (.ireturn) 1 128 := ⟨by decide +kernel, rfl⟩
theorem eX5_go_0 : Dc cX5_go 0 (.aload_n 0) 1 1 := ⟨by decide +kernel, rfl⟩
theorem eX5_go_1 : Dc cX5_go 1 (.iload_n 1) 1 2 := ⟨by decide +kernel, rfl⟩
theorem eX5_go_2 : Dc cX5_go 2 (.iload_n 2) 1 3 := ⟨by decide +kernel, rfl⟩
theorem eX5_go_3 : Dc cX5_go 3 (.invokevirtual 150) 3 6 := ⟨by decide +kernel, rfl⟩
theorem eX5_go_6 : Dc cX5_go 6 (.ifCond .ne 6) 3 9 := ⟨by decide +kernel, rfl⟩
theorem eX5_go_9 : Dc cX5_go 9 (.bipush (-2)) 2 11 := ⟨by decide +kernel, rfl⟩
theorem eX5_go_11 : Dc cX5_go 11 (.ireturn) 1 12 := ⟨by decide +kernel, rfl⟩
theorem eX5_go_12 : Dc cX5_go 12 (.aload_n 0) 1 13 := ⟨by decide +kernel, rfl⟩
theorem eX5_go_13 : Dc cX5_go 13 (.getfield 33) 3 16 := ⟨by decide +kernel, rfl⟩
theorem eX5_go_16 : Dc cX5_go 16 (.aload_n 0) 1 17 := ⟨by decide +kernel, rfl⟩
theorem eX5_go_17 : Dc cX5_go 17 (.getfield 10) 3 20 := ⟨by decide +kernel, rfl⟩
theorem eX5_go_20 : Dc cX5_go 20 (.iload_n 1) 1 21 := ⟨by decide +kernel, rfl⟩
theorem eX5_go_21 : Dc cX5_go 21 (.iload_n 2) 1 22 := ⟨by decide +kernel, rfl⟩
theorem eX5_go_22 : Dc cX5_go 22 (.invokevirtual 153) 3 25 := ⟨by decide +kernel, rfl⟩
theorem eX5_go_25 : Dc cX5_go 25 (.iconst 0) 1 26 := ⟨by decide +kernel, rfl⟩
theorem eX5_go_26 : Dc cX5_go 26 (.istore_n 3) 1 27 := ⟨by decide +kernel, rfl⟩
theorem eX5_go_27 : Dc cX5_go 27 (.iload_n 3) 1 28 := ⟨by decide +kernel, rfl⟩
theorem eX5_go_28 : Dc cX5_go 28 (.iload_n 1) 1 29 := ⟨by decide +kernel, rfl⟩
theorem eX5_go_29 : Dc cX5_go 29 (.iload_n 2) 1 30 := ⟨by decide +kernel, rfl⟩
theorem eX5_go_30 : Dc cX5_go 30 (.iadd) 1 31 := ⟨by decide +kernel, rfl⟩
theorem eX5_go_31 : Dc cX5_go 31 (.if_icmp .ge 42) 3 34 := ⟨by decide +kernel, rfl⟩
theorem eX5_go_34 : Dc cX5_go 34 (.aload_n 0) 1 35 := ⟨by decide +kernel, rfl⟩
theorem eX5_go_35 : Dc cX5_go 35 (.getfield 19) 3 38 := ⟨by decide +kernel, rfl⟩
theorem eX5_go_38 : Dc cX5_go 38 (.aload_n 0) 1 39 := ⟨by decide +kernel, rfl⟩
theorem eX5_go_39 : Dc cX5_go 39 (.getfield 10) 3 42 := ⟨by decide +kernel, rfl⟩
theorem eX5_go_42 : Dc cX5_go 42 (.aload_n 0) 1 43 := ⟨by decide +kernel, rfl⟩
theorem eX5_go_43 : Dc cX5_go 43 (.getfield 33) 3 46 := ⟨by decide +kernel, rfl⟩
theorem eX5_go_46 : Dc cX5_go 46 (.getfield 163) 3 49 := ⟨by decide +kernel, rfl⟩
theorem eX5_go_49 : Dc cX5_go 49 (.iload_n 3) 1 50 := ⟨by decide +kernel, rfl⟩
theorem eX5_go_50 : Dc cX5_go 50 (.ishr) 1 51 := ⟨by decide +kernel, rfl⟩
theorem eX5_go_51 : Dc cX5_go 51 (.iconst 1) 1 52 := ⟨by decide +kernel, rfl⟩
theorem eX5_go_52 : Dc cX5_go 52 (.iand) 1 53 := ⟨by decide +kernel, rfl⟩
theorem eX5_go_53 : Dc cX5_go 53 (.invokevirtual 119) 3 56 := ⟨by decide +kernel, rfl⟩
theorem eX5_go_56 : Dc cX5_go 56 (.aload_n 0) 1 57 := ⟨by decide +kernel, rfl⟩
theorem eX5_go_57 : Dc cX5_go 57 (.getfield 10) 3 60 := ⟨by decide +kernel, rfl⟩
theorem eX5_go_60 : Dc cX5_go 60 (.aload_n 0) 1 61 := ⟨by decide +kernel, rfl⟩
theorem eX5_go_61 : Dc cX5_go 61 (.getfield 19) 3 64 := ⟨by decide +kernel, rfl⟩
theorem eX5_go_64 : Dc cX5_go 64 (.invokevirtual 137) 3 67 := ⟨by decide +kernel, rfl⟩
theorem eX5_go_67 : Dc cX5_go 67 (.iinc 3 1) 3 70 := ⟨by decide +kernel, rfl⟩
theorem eX5_go_70 : Dc cX5_go 70 (.goto (-43)) 3 73 := ⟨by decide +kernel, rfl⟩
theorem eX5_go_73 : Dc cX5_go 73 (.aload_n 0) 1 74 := ⟨by decide +kernel, rfl⟩
theorem eX5_go_74 : Dc cX5_go 74 (.getfield 33) 3 77 := ⟨by decide +kernel, rfl⟩
theorem eX5_go_77 : Dc cX5_go 77 (.getfield 157) 3 80 := ⟨by decide +kernel, rfl⟩
theorem eX5_go_80 : Dc cX5_go 80 (.sipush 10000) 3 83 := ⟨by decide +kernel, rfl⟩
theorem eX5_go_83 : Dc cX5_go 83 (.iadd) 1 84 := ⟨by decide +kernel, rfl⟩
theorem eX5_go_84 : Dc cX5_go 84 (.ireturn) 1 85 := ⟨by decide +kernel, rfl⟩
theorem eX5_image_0 : Dc cX5_image 0 (.iload_n 1) 1 1 := ⟨by decide +kernel, rfl⟩
theorem eX5_image_1 : Dc cX5_image 1 (.ifCond .lt 8) 3 4 := ⟨by decide +kernel, rfl⟩
theorem eX5_image_4 : Dc cX5_image 4 (.iload_n 1) 1 5 := ⟨by decide +kernel, rfl⟩
theorem eX5_image_5 : Dc cX5_image 5 (.iconst 2) 1 6 := ⟨by decide +kernel, rfl⟩
theorem eX5_image_6 : Dc cX5_image 6 (.if_icmp .lt 6) 3 9 := ⟨by decide +kernel, rfl⟩
theorem eX5_image_9 : Dc cX5_image 9 (.bipush (-2)) 2 11 := ⟨by decide +kernel, rfl⟩
theorem eX5_image_11 : Dc cX5_image 11 (.ireturn) 1 12 := ⟨by decide +kernel, rfl⟩
theorem eX5_image_12 : Dc cX5_image 12 (.aload_n 0) 1 13 := ⟨by decide +kernel, rfl⟩
theorem eX5_image_13 : Dc cX5_image 13 (.getfield 44) 3 16 := ⟨by decide +kernel, rfl⟩
theorem eX5_image_16 : Dc cX5_image 16 (.iload_n 1) 1 17 := ⟨by decide +kernel, rfl⟩
theorem eX5_image_17 : Dc cX5_image 17 (.aaload) 1 18 := ⟨by decide +kernel, rfl⟩
theorem eX5_image_18 : Dc cX5_image 18 (.aload_n 0) 1 19 := ⟨by decide +kernel, rfl⟩
theorem eX5_image_19 : Dc cX5_image 19 (.getfield 10) 3 22 := ⟨by decide +kernel, rfl⟩
theorem eX5_image_22 : Dc cX5_image 22 (.invokevirtual 178) 3 25 := ⟨by decide +kernel, rfl⟩
theorem eX5_image_25 : Dc cX5_image 25 (.aload_n 0) 1 26 := ⟨by decide +kernel, rfl⟩
theorem eX5_image_26 : Dc cX5_image 26 (.getfield 48) 3 29 := ⟨by decide +kernel, rfl⟩
theorem eX5_image_29 : Dc cX5_image 29 (.iload_n 1) 1 30 := ⟨by decide +kernel, rfl⟩
theorem eX5_image_30 : Dc cX5_image 30 (.iconst 1) 1 31 := ⟨by decide +kernel, rfl⟩
theorem eX5_image_31 : Dc cX5_image 31 (.bastore) 1 32 := ⟨by decide +kernel, rfl⟩
theorem eX5_image_32 : Dc cX5_image 32 (.iconst 1) 1 33 := ⟨by decide +kernel, rfl⟩
theorem eX5_image_33 : Dc cX5_image 33 (.ireturn) 1 34 := ⟨by decide +kernel, rfl⟩
theorem eX5_restore_0 : Dc cX5_restore 0 (.iload_n 1) 1 1 := ⟨by decide +kernel, rfl⟩
theorem eX5_restore_1 : Dc cX5_restore 1 (.ifCond .lt 8) 3 4 := ⟨by decide +kernel, rfl⟩
theorem eX5_restore_4 : Dc cX5_restore 4 (.iload_n 1) 1 5 := ⟨by decide +kernel, rfl⟩
theorem eX5_restore_5 : Dc cX5_restore 5 (.iconst 2) 1 6 := ⟨by decide +kernel, rfl⟩
theorem eX5_restore_6 : Dc cX5_restore 6 (.if_icmp .lt 6) 3 9 := ⟨by decide +kernel, rfl⟩
theorem eX5_restore_9 : Dc cX5_restore 9 (.bipush (-2)) 2 11 := ⟨by decide +kernel, rfl⟩
theorem eX5_restore_11 : Dc cX5_restore 11 (.ireturn) 1 12 := ⟨by decide +kernel, rfl⟩
theorem eX5_restore_12 : Dc cX5_restore 12 (.aload_n 0) 1 13 := ⟨by decide +kernel, rfl⟩
theorem eX5_restore_13 : Dc cX5_restore 13 (.getfield 48) 3 16 := ⟨by decide +kernel, rfl⟩
theorem eX5_restore_16 : Dc cX5_restore 16 (.iload_n 1) 1 17 := ⟨by decide +kernel, rfl⟩
theorem eX5_restore_17 : Dc cX5_restore 17 (.baload) 1 18 := ⟨by decide +kernel, rfl⟩
theorem eX5_restore_18 : Dc cX5_restore 18 (.ifCond .ne 6) 3 21 := ⟨by decide +kernel, rfl⟩
theorem eX5_restore_21 : Dc cX5_restore 21 (.bipush (-3)) 2 23 := ⟨by decide +kernel, rfl⟩
theorem eX5_restore_23 : Dc cX5_restore 23 (.ireturn) 1 24 := ⟨by decide +kernel, rfl⟩
theorem eX5_restore_24 : Dc cX5_restore 24 (.aload_n 0) 1 25 := ⟨by decide +kernel, rfl⟩
theorem eX5_restore_25 : Dc cX5_restore 25 (.getfield 10) 3 28 := ⟨by decide +kernel, rfl⟩
theorem eX5_restore_28 : Dc cX5_restore 28 (.aload_n 0) 1 29 := ⟨by decide +kernel, rfl⟩
theorem eX5_restore_29 : Dc cX5_restore 29 (.getfield 44) 3 32 := ⟨by decide +kernel, rfl⟩
theorem eX5_restore_32 : Dc cX5_restore 32 (.iload_n 1) 1 33 := ⟨by decide +kernel, rfl⟩
theorem eX5_restore_33 : Dc cX5_restore 33 (.aaload) 1 34 := ⟨by decide +kernel, rfl⟩
theorem eX5_restore_34 : Dc cX5_restore 34 (.invokevirtual 178) 3 37 := ⟨by decide +kernel, rfl⟩
theorem eX5_restore_37 : Dc cX5_restore 37 (.iconst 1) 1 38 := ⟨by decide +kernel, rfl⟩
theorem eX5_restore_38 : Dc cX5_restore 38 (.ireturn) 1 39 := ⟨by decide +kernel, rfl⟩
theorem eX5_count_0 : Dc cX5_count 0 (.iload_n 1) 1 1 := ⟨by decide +kernel, rfl⟩
theorem eX5_count_1 : Dc cX5_count 1 (.tableswitch 110 0 7 #[47, 55, 63, 71, 80, 89, 97, 105]) 47 48 := ⟨by decide +kernel, rfl⟩
theorem eX5_count_48 : Dc cX5_count 48 (.aload_n 0) 1 49 := ⟨by decide +kernel, rfl⟩
theorem eX5_count_49 : Dc cX5_count 49 (.getfield 10) 3 52 := ⟨by decide +kernel, rfl⟩
theorem eX5_count_52 : Dc cX5_count 52 (.getfield 56) 3 55 := ⟨by decide +kernel, rfl⟩
theorem eX5_count_55 : Dc cX5_count 55 (.ireturn) 1 56 := ⟨by decide +kernel, rfl⟩
theorem eX5_count_56 : Dc cX5_count 56 (.aload_n 0) 1 57 := ⟨by decide +kernel, rfl⟩
theorem eX5_count_57 : Dc cX5_count 57 (.getfield 10) 3 60 := ⟨by decide +kernel, rfl⟩
theorem eX5_count_60 : Dc cX5_count 60 (.getfield 60) 3 63 := ⟨by decide +kernel, rfl⟩
theorem eX5_count_63 : Dc cX5_count 63 (.ireturn) 1 64 := ⟨by decide +kernel, rfl⟩
theorem eX5_count_64 : Dc cX5_count 64 (.aload_n 0) 1 65 := ⟨by decide +kernel, rfl⟩
theorem eX5_count_65 : Dc cX5_count 65 (.getfield 10) 3 68 := ⟨by decide +kernel, rfl⟩
theorem eX5_count_68 : Dc cX5_count 68 (.invokevirtual 182) 3 71 := ⟨by decide +kernel, rfl⟩
theorem eX5_count_71 : Dc cX5_count 71 (.ireturn) 1 72 := ⟨by decide +kernel, rfl⟩
theorem eX5_count_72 : Dc cX5_count 72 (.aload_n 0) 1 73 := ⟨by decide +kernel, rfl⟩
theorem eX5_count_73 : Dc cX5_count 73 (.getfield 10) 3 76 := ⟨by decide +kernel, rfl⟩
theorem eX5_count_76 : Dc cX5_count 76 (.iconst 1) 1 77 := ⟨by decide +kernel, rfl⟩
theorem eX5_count_77 : Dc cX5_count 77 (.invokevirtual 185) 3 80 := ⟨by decide +kernel, rfl⟩
theorem eX5_count_80 : Dc cX5_count 80 (.ireturn) 1 81 := ⟨by decide +kernel, rfl⟩
theorem eX5_count_81 : Dc cX5_count 81 (.aload_n 0) 1 82 := ⟨by decide +kernel, rfl⟩
theorem eX5_count_82 : Dc cX5_count 82 (.getfield 10) 3 85 := ⟨by decide +kernel, rfl⟩
theorem eX5_count_85 : Dc cX5_count 85 (.iconst 2) 1 86 := ⟨by decide +kernel, rfl⟩
theorem eX5_count_86 : Dc cX5_count 86 (.invokevirtual 185) 3 89 := ⟨by decide +kernel, rfl⟩
theorem eX5_count_89 : Dc cX5_count 89 (.ireturn) 1 90 := ⟨by decide +kernel, rfl⟩
theorem eX5_count_90 : Dc cX5_count 90 (.aload_n 0) 1 91 := ⟨by decide +kernel, rfl⟩
theorem eX5_count_91 : Dc cX5_count 91 (.getfield 10) 3 94 := ⟨by decide +kernel, rfl⟩
theorem eX5_count_94 : Dc cX5_count 94 (.getfield 81) 3 97 := ⟨by decide +kernel, rfl⟩
theorem eX5_count_97 : Dc cX5_count 97 (.ireturn) 1 98 := ⟨by decide +kernel, rfl⟩
theorem eX5_count_98 : Dc cX5_count 98 (.aload_n 0) 1 99 := ⟨by decide +kernel, rfl⟩
theorem eX5_count_99 : Dc cX5_count 99 (.getfield 26) 3 102 := ⟨by decide +kernel, rfl⟩
theorem eX5_count_102 : Dc cX5_count 102 (.getfield 188) 3 105 := ⟨by decide +kernel, rfl⟩
theorem eX5_count_105 : Dc cX5_count 105 (.ireturn) 1 106 := ⟨by decide +kernel, rfl⟩
theorem eX5_count_106 : Dc cX5_count 106 (.aload_n 0) 1 107 := ⟨by decide +kernel, rfl⟩
theorem eX5_count_107 : Dc cX5_count 107 (.invokevirtual 191) 3 110 := ⟨by decide +kernel, rfl⟩
theorem eX5_count_110 : Dc cX5_count 110 (.ireturn) 1 111 := ⟨by decide +kernel, rfl⟩
theorem eX5_count_111 : Dc cX5_count 111 (.bipush (-2)) 2 113 := ⟨by decide +kernel, rfl⟩
theorem eX5_count_113 : Dc cX5_count 113 (.ireturn) 1 114 := ⟨by decide +kernel, rfl⟩
theorem eX5_imagesKept_0 : Dc cX5_imagesKept 0 (.iconst 0) 1 1 := ⟨by decide +kernel, rfl⟩
theorem eX5_imagesKept_1 : Dc cX5_imagesKept 1 (.istore_n 1) 1 2 := ⟨by decide +kernel, rfl⟩
theorem eX5_imagesKept_2 : Dc cX5_imagesKept 2 (.iconst 0) 1 3 := ⟨by decide +kernel, rfl⟩
theorem eX5_imagesKept_3 : Dc cX5_imagesKept 3 (.istore_n 2) 1 4 := ⟨by decide +kernel, rfl⟩
theorem eX5_imagesKept_4 : Dc cX5_imagesKept 4 (.iload_n 2) 1 5 := ⟨by decide +kernel, rfl⟩
theorem eX5_imagesKept_5 : Dc cX5_imagesKept 5 (.iconst 2) 1 6 := ⟨by decide +kernel, rfl⟩
theorem eX5_imagesKept_6 : Dc cX5_imagesKept 6 (.if_icmp .ge 24) 3 9 := ⟨by decide +kernel, rfl⟩
theorem eX5_imagesKept_9 : Dc cX5_imagesKept 9 (.aload_n 0) 1 10 := ⟨by decide +kernel, rfl⟩
theorem eX5_imagesKept_10 : Dc cX5_imagesKept 10 (.getfield 48) 3 13 := ⟨by decide +kernel, rfl⟩
theorem eX5_imagesKept_13 : Dc cX5_imagesKept 13 (.iload_n 2) 1 14 := ⟨by decide +kernel, rfl⟩
theorem eX5_imagesKept_14 : Dc cX5_imagesKept 14 (.baload) 1 15 := ⟨by decide +kernel, rfl⟩
theorem eX5_imagesKept_15 : Dc cX5_imagesKept 15 (.ifCond .eq 9) 3 18 := ⟨by decide +kernel, rfl⟩
theorem eX5_imagesKept_18 : Dc cX5_imagesKept 18 (.iload_n 1) 1 19 := ⟨by decide +kernel, rfl⟩
theorem eX5_imagesKept_19 : Dc cX5_imagesKept 19 (.iconst 1) 1 20 := ⟨by decide +kernel, rfl⟩
theorem eX5_imagesKept_20 : Dc cX5_imagesKept 20 (.iload_n 2) 1 21 := ⟨by decide +kernel, rfl⟩
theorem eX5_imagesKept_21 : Dc cX5_imagesKept 21 (.ishl) 1 22 := ⟨by decide +kernel, rfl⟩
theorem eX5_imagesKept_22 : Dc cX5_imagesKept 22 (.ior) 1 23 := ⟨by decide +kernel, rfl⟩
theorem eX5_imagesKept_23 : Dc cX5_imagesKept 23 (.istore_n 1) 1 24 := ⟨by decide +kernel, rfl⟩
theorem eX5_imagesKept_24 : Dc cX5_imagesKept 24 (.iinc 2 1) 3 27 := ⟨by decide +kernel, rfl⟩
theorem eX5_imagesKept_27 : Dc cX5_imagesKept 27 (.goto (-23)) 3 30 := ⟨by decide +kernel, rfl⟩
theorem eX5_imagesKept_30 : Dc cX5_imagesKept 30 (.iload_n 1) 1 31 := ⟨by decide +kernel, rfl⟩
theorem eX5_imagesKept_31 : Dc cX5_imagesKept 31 (.ireturn) 1 32 := ⟨by decide +kernel, rfl⟩
theorem eX5_canReach_0 : Dc cX5_canReach 0 (.iload_n 1) 1 1 := ⟨by decide +kernel, rfl⟩
theorem eX5_canReach_1 : Dc cX5_canReach 1 (.ifCond .lt 45) 3 4 := ⟨by decide +kernel, rfl⟩
theorem eX5_canReach_4 : Dc cX5_canReach 4 (.iload_n 1) 1 5 := ⟨by decide +kernel, rfl⟩
theorem eX5_canReach_5 : Dc cX5_canReach 5 (.aload_n 0) 1 6 := ⟨by decide +kernel, rfl⟩
theorem eX5_canReach_6 : Dc cX5_canReach 6 (.getfield 10) 3 9 := ⟨by decide +kernel, rfl⟩
theorem eX5_canReach_9 : Dc cX5_canReach 9 (.getfield 56) 3 12 := ⟨by decide +kernel, rfl⟩
theorem eX5_canReach_12 : Dc cX5_canReach 12 (.iconst 2) 1 13 := ⟨by decide +kernel, rfl⟩
theorem eX5_canReach_13 : Dc cX5_canReach 13 (.isub) 1 14 := ⟨by decide +kernel, rfl⟩
theorem eX5_canReach_14 : Dc cX5_canReach 14 (.if_icmp .gt 32) 3 17 := ⟨by decide +kernel, rfl⟩
theorem eX5_canReach_17 : Dc cX5_canReach 17 (.iload_n 2) 1 18 := ⟨by decide +kernel, rfl⟩
theorem eX5_canReach_18 : Dc cX5_canReach 18 (.ifCond .lt 28) 3 21 := ⟨by decide +kernel, rfl⟩
theorem eX5_canReach_21 : Dc cX5_canReach 21 (.iload_n 2) 1 22 := ⟨by decide +kernel, rfl⟩
theorem eX5_canReach_22 : Dc cX5_canReach 22 (.aload_n 0) 1 23 := ⟨by decide +kernel, rfl⟩
theorem eX5_canReach_23 : Dc cX5_canReach 23 (.getfield 10) 3 26 := ⟨by decide +kernel, rfl⟩
theorem eX5_canReach_26 : Dc cX5_canReach 26 (.getfield 60) 3 29 := ⟨by decide +kernel, rfl⟩
theorem eX5_canReach_29 : Dc cX5_canReach 29 (.iconst 2) 1 30 := ⟨by decide +kernel, rfl⟩
theorem eX5_canReach_30 : Dc cX5_canReach 30 (.isub) 1 31 := ⟨by decide +kernel, rfl⟩
theorem eX5_canReach_31 : Dc cX5_canReach 31 (.if_icmp .gt 15) 3 34 := ⟨by decide +kernel, rfl⟩
theorem eX5_canReach_34 : Dc cX5_canReach 34 (.iload_n 1) 1 35 := ⟨by decide +kernel, rfl⟩
theorem eX5_canReach_35 : Dc cX5_canReach 35 (.iload_n 2) 1 36 := ⟨by decide +kernel, rfl⟩
theorem eX5_canReach_36 : Dc cX5_canReach 36 (.iadd) 1 37 := ⟨by decide +kernel, rfl⟩
theorem eX5_canReach_37 : Dc cX5_canReach 37 (.bipush 6) 2 39 := ⟨by decide +kernel, rfl⟩
theorem eX5_canReach_39 : Dc cX5_canReach 39 (.if_icmp .gt 7) 3 42 := ⟨by decide +kernel, rfl⟩
theorem eX5_canReach_42 : Dc cX5_canReach 42 (.iconst 1) 1 43 := ⟨by decide +kernel, rfl⟩
theorem eX5_canReach_43 : Dc cX5_canReach 43 (.goto 4) 3 46 := ⟨by decide +kernel, rfl⟩
theorem eX5_canReach_46 : Dc cX5_canReach 46 (.iconst 0) 1 47 := ⟨by decide +kernel, rfl⟩
theorem eX5_canReach_47 : Dc cX5_canReach 47 (.ireturn) 1 48 := ⟨by decide +kernel, rfl⟩
theorem eX5_isSide_0 : Dc cX5_isSide 0 (.iload_n 0) 1 1 := ⟨by decide +kernel, rfl⟩
theorem eX5_isSide_1 : Dc cX5_isSide 1 (.iconst 2) 1 2 := ⟨by decide +kernel, rfl⟩
theorem eX5_isSide_2 : Dc cX5_isSide 2 (.if_icmp .lt 13) 3 5 := ⟨by decide +kernel, rfl⟩
theorem eX5_isSide_5 : Dc cX5_isSide 5 (.iload_n 0) 1 6 := ⟨by decide +kernel, rfl⟩
theorem eX5_isSide_6 : Dc cX5_isSide 6 (.bipush 8) 2 8 := ⟨by decide +kernel, rfl⟩
theorem eX5_isSide_8 : Dc cX5_isSide 8 (.if_icmp .gt 7) 3 11 := ⟨by decide +kernel, rfl⟩
theorem eX5_isSide_11 : Dc cX5_isSide 11 (.iconst 1) 1 12 := ⟨by decide +kernel, rfl⟩
theorem eX5_isSide_12 : Dc cX5_isSide 12 (.goto 4) 3 15 := ⟨by decide +kernel, rfl⟩
theorem eX5_isSide_15 : Dc cX5_isSide 15 (.iconst 0) 1 16 := ⟨by decide +kernel, rfl⟩
theorem eX5_isSide_16 : Dc cX5_isSide 16 (.ireturn) 1 17 := ⟨by decide +kernel, rfl⟩
theorem eX5_isBit_0 : Dc cX5_isBit 0 (.iload_n 0) 1 1 := ⟨by decide +kernel, rfl⟩
theorem eX5_isBit_1 : Dc cX5_isBit 1 (.ifCond .eq 8) 3 4 := ⟨by decide +kernel, rfl⟩
theorem eX5_isBit_4 : Dc cX5_isBit 4 (.iload_n 0) 1 5 := ⟨by decide +kernel, rfl⟩
theorem eX5_isBit_5 : Dc cX5_isBit 5 (.iconst 1) 1 6 := ⟨by decide +kernel, rfl⟩
theorem eX5_isBit_6 : Dc cX5_isBit 6 (.if_icmp .ne 7) 3 9 := ⟨by decide +kernel, rfl⟩
theorem eX5_isBit_9 : Dc cX5_isBit 9 (.iconst 1) 1 10 := ⟨by decide +kernel, rfl⟩
theorem eX5_isBit_10 : Dc cX5_isBit 10 (.goto 4) 3 13 := ⟨by decide +kernel, rfl⟩
theorem eX5_isBit_13 : Dc cX5_isBit 13 (.iconst 0) 1 14 := ⟨by decide +kernel, rfl⟩
theorem eX5_isBit_14 : Dc cX5_isBit 14 (.ireturn) 1 15 := ⟨by decide +kernel, rfl⟩
theorem eX6_init_0 : Dc cX6_init 0 (.aload_n 0) 1 1 := ⟨by decide +kernel, rfl⟩
theorem eX6_init_1 : Dc cX6_init 1 (.invokespecial 1) 3 4 := ⟨by decide +kernel, rfl⟩
theorem eX6_init_4 : Dc cX6_init 4 (.aload_n 0) 1 5 := ⟨by decide +kernel, rfl⟩
theorem eX6_init_5 : Dc cX6_init 5 (.sipush 131) 3 8 := ⟨by decide +kernel, rfl⟩
theorem eX6_init_8 : Dc cX6_init 8 (.newarray .int) 2 10 := ⟨by decide +kernel, rfl⟩
theorem eX6_init_10 : Dc cX6_init 10 (.putfield 7) 3 13 := ⟨by decide +kernel, rfl⟩
theorem eX6_init_13 : Dc cX6_init 13 (.aload_n 0) 1 14 := ⟨by decide +kernel, rfl⟩
theorem eX6_init_14 : Dc cX6_init 14 (.sipush 262) 3 17 := ⟨by decide +kernel, rfl⟩
theorem eX6_init_17 : Dc cX6_init 17 (.newarray .int) 2 19 := ⟨by decide +kernel, rfl⟩
theorem eX6_init_19 : Dc cX6_init 19 (.putfield 13) 3 22 := ⟨by decide +kernel, rfl⟩
theorem eX6_init_22 : Dc cX6_init 22 (.aload_n 0) 1 23 := ⟨by decide +kernel, rfl⟩
theorem eX6_init_23 : Dc cX6_init 23 (.iconst 2) 1 24 := ⟨by decide +kernel, rfl⟩
theorem eX6_init_24 : Dc cX6_init 24 (.newarray .boolean) 2 26 := ⟨by decide +kernel, rfl⟩
theorem eX6_init_26 : Dc cX6_init 26 (.putfield 16) 3 29 := ⟨by decide +kernel, rfl⟩
theorem eX6_init_29 : Dc cX6_init 29 (.aload_n 0) 1 30 := ⟨by decide +kernel, rfl⟩
theorem eX6_init_30 : Dc cX6_init 30 (.bipush 80) 2 32 := ⟨by decide +kernel, rfl⟩
theorem eX6_init_32 : Dc cX6_init 32 (.newarray .int) 2 34 := ⟨by decide +kernel, rfl⟩
theorem eX6_init_34 : Dc cX6_init 34 (.putfield 20) 3 37 := ⟨by decide +kernel, rfl⟩
theorem eX6_init_37 : Dc cX6_init 37 (.aload_n 0) 1 38 := ⟨by decide +kernel, rfl⟩
theorem eX6_init_38 : Dc cX6_init 38 (.bipush 64) 2 40 := ⟨by decide +kernel, rfl⟩
theorem eX6_init_40 : Dc cX6_init 40 (.newarray .int) 2 42 := ⟨by decide +kernel, rfl⟩
theorem eX6_init_42 : Dc cX6_init 42 (.putfield 23) 3 45 := ⟨by decide +kernel, rfl⟩
theorem eX6_init_45 : Dc cX6_init 45 (.aload_n 0) 1 46 := ⟨by decide +kernel, rfl⟩
theorem eX6_init_46 : Dc cX6_init 46 (.bipush 64) 2 48 := ⟨by decide +kernel, rfl⟩
theorem eX6_init_48 : Dc cX6_init 48 (.newarray .int) 2 50 := ⟨by decide +kernel, rfl⟩
theorem eX6_init_50 : Dc cX6_init 50 (.putfield 26) 3 53 := ⟨by decide +kernel, rfl⟩
theorem eX6_init_53 : Dc cX6_init 53 (.aload_n 0) 1 54 := ⟨by decide +kernel, rfl⟩
theorem eX6_init_54 : Dc cX6_init 54 (.bipush 64) 2 56 := ⟨by decide +kernel, rfl⟩
theorem eX6_init_56 : Dc cX6_init 56 (.newarray .int) 2 58 := ⟨by decide +kernel, rfl⟩
theorem eX6_init_58 : Dc cX6_init 58 (.putfield 29) 3 61 := ⟨by decide +kernel, rfl⟩
theorem eX6_init_61 : Dc cX6_init 61 (.aload_n 0) 1 62 := ⟨by decide +kernel, rfl⟩
theorem eX6_init_62 : Dc cX6_init 62 (.bipush 8) 2 64 := ⟨by decide +kernel, rfl⟩
theorem eX6_init_64 : Dc cX6_init 64 (.newarray .int) 2 66 := ⟨by decide +kernel, rfl⟩
theorem eX6_init_66 : Dc cX6_init 66 (.putfield 32) 3 69 := ⟨by decide +kernel, rfl⟩
theorem eX6_init_69 : Dc cX6_init 69 (.aload_n 0) 1 70 := ⟨by decide +kernel, rfl⟩
theorem eX6_init_70 : Dc cX6_init 70 (.sipush 6272) 3 73 := ⟨by decide +kernel, rfl⟩
theorem eX6_init_73 : Dc cX6_init 73 (.newarray .int) 2 75 := ⟨by decide +kernel, rfl⟩
theorem eX6_init_75 : Dc cX6_init 75 (.putfield 35) 3 78 := ⟨by decide +kernel, rfl⟩
theorem eX6_init_78 : Dc cX6_init 78 (.aload_n 0) 1 79 := ⟨by decide +kernel, rfl⟩
theorem eX6_init_79 : Dc cX6_init 79 (.bipush 49) 2 81 := ⟨by decide +kernel, rfl⟩
theorem eX6_init_81 : Dc cX6_init 81 (.newarray .int) 2 83 := ⟨by decide +kernel, rfl⟩
theorem eX6_init_83 : Dc cX6_init 83 (.putfield 38) 3 86 := ⟨by decide +kernel, rfl⟩
theorem eX6_init_86 : Dc cX6_init 86 (.aload_n 0) 1 87 := ⟨by decide +kernel, rfl⟩
theorem eX6_init_87 : Dc cX6_init 87 (.getfield 7) 3 90 := ⟨by decide +kernel, rfl⟩
theorem eX6_init_90 : Dc cX6_init 90 (.sipush 128) 3 93 := ⟨by decide +kernel, rfl⟩
theorem eX6_init_93 : Dc cX6_init 93 (.iconst 4) 1 94 := ⟨by decide +kernel, rfl⟩
theorem eX6_init_94 : Dc cX6_init 94 (.iastore) 1 95 := ⟨by decide +kernel, rfl⟩
theorem eX6_init_95 : Dc cX6_init 95 (.aload_n 0) 1 96 := ⟨by decide +kernel, rfl⟩
theorem eX6_init_96 : Dc cX6_init 96 (.getfield 7) 3 99 := ⟨by decide +kernel, rfl⟩
theorem eX6_init_99 : Dc cX6_init 99 (.sipush 129) 3 102 := ⟨by decide +kernel, rfl⟩
theorem eX6_init_102 : Dc cX6_init 102 (.iconst 4) 1 103 := ⟨by decide +kernel, rfl⟩
theorem eX6_init_103 : Dc cX6_init 103 (.iastore) 1 104 := ⟨by decide +kernel, rfl⟩
theorem eX6_init_104 : Dc cX6_init 104 (.return_) 1 105 := ⟨by decide +kernel, rfl⟩
theorem eX6_in_0 : Dc cX6_in 0 (.iload_n 0) 1 1 := ⟨by decide +kernel, rfl⟩
theorem eX6_in_1 : Dc cX6_in 1 (.iload_n 1) 1 2 := ⟨by decide +kernel, rfl⟩
theorem eX6_in_2 : Dc cX6_in 2 (.if_icmp .lt 12) 3 5 := ⟨by decide +kernel, rfl⟩
theorem eX6_in_5 : Dc cX6_in 5 (.iload_n 0) 1 6 := ⟨by decide +kernel, rfl⟩
theorem eX6_in_6 : Dc cX6_in 6 (.iload_n 2) 1 7 := ⟨by decide +kernel, rfl⟩
theorem eX6_in_7 : Dc cX6_in 7 (.if_icmp .gt 7) 3 10 := ⟨by decide +kernel, rfl⟩
theorem eX6_in_10 : Dc cX6_in 10 (.iconst 1) 1 11 := ⟨by decide +kernel, rfl⟩
theorem eX6_in_11 : Dc cX6_in 11 (.goto 4) 3 14 := ⟨by decide +kernel, rfl⟩
theorem eX6_in_14 : Dc cX6_in 14 (.iconst 0) 1 15 := ⟨by decide +kernel, rfl⟩
theorem eX6_in_15 : Dc cX6_in 15 (.ireturn) 1 16 := ⟨by decide +kernel, rfl⟩
theorem eX6_size_0 : Dc cX6_size 0 (.iload_n 0) 1 1 := ⟨by decide +kernel, rfl⟩
theorem eX6_size_1 : Dc cX6_size 1 (.ifCond .ge 8) 3 4 := ⟨by decide +kernel, rfl⟩
theorem eX6_size_4 : Dc cX6_size 4 (.iload_n 0) 1 5 := ⟨by decide +kernel, rfl⟩
theorem eX6_size_5 : Dc cX6_size 5 (.ineg) 1 6 := ⟨by decide +kernel, rfl⟩
theorem eX6_size_6 : Dc cX6_size 6 (.goto 4) 3 9 := ⟨by decide +kernel, rfl⟩
theorem eX6_size_9 : Dc cX6_size 9 (.iload_n 0) 1 10 := ⟨by decide +kernel, rfl⟩
theorem eX6_size_10 : Dc cX6_size 10 (.ireturn) 1 11 := ⟨by decide +kernel, rfl⟩
theorem eX6_at_0 : Dc cX6_at 0 (.bipush 8) 2 2 := ⟨by decide +kernel, rfl⟩
theorem eX6_at_2 : Dc cX6_at 2 (.iload_n 1) 1 3 := ⟨by decide +kernel, rfl⟩
theorem eX6_at_3 : Dc cX6_at 3 (.imul) 1 4 := ⟨by decide +kernel, rfl⟩
theorem eX6_at_4 : Dc cX6_at 4 (.iload_n 0) 1 5 := ⟨by decide +kernel, rfl⟩
theorem eX6_at_5 : Dc cX6_at 5 (.iadd) 1 6 := ⟨by decide +kernel, rfl⟩
theorem eX6_at_6 : Dc cX6_at 6 (.ireturn) 1 7 := ⟨by decide +kernel, rfl⟩
theorem eX6_isDot_0 : Dc cX6_isDot 0 (.iload_n 1) 1 1 := ⟨by decide +kernel, rfl⟩
theorem eX6_isDot_1 : Dc cX6_isDot 1 (.iconst 0) 1 2 := ⟨by decide +kernel, rfl⟩
theorem eX6_isDot_2 : Dc cX6_isDot 2 (.aload_n 0) 1 3 := ⟨by decide +kernel, rfl⟩
theorem eX6_isDot_3 : Dc cX6_isDot 3 (.getfield 7) 3 6 := ⟨by decide +kernel, rfl⟩
theorem eX6_isDot_6 : Dc cX6_isDot 6 (.sipush 128) 3 9 := ⟨by decide +kernel, rfl⟩
theorem eX6_isDot_9 : Dc cX6_isDot 9 (.iaload) 1 10 := ⟨by decide +kernel, rfl⟩
theorem eX6_isDot_10 : Dc cX6_isDot 10 (.iconst 1) 1 11 := ⟨by decide +kernel, rfl⟩
theorem eX6_isDot_11 : Dc cX6_isDot 11 (.isub) 1 12 := ⟨by decide +kernel, rfl⟩
theorem eX6_isDot_12 : Dc cX6_isDot 12 (.invokestatic 41) 3 15 := ⟨by decide +kernel, rfl⟩
theorem eX6_isDot_15 : Dc cX6_isDot 15 (.ifCond .eq 25) 3 18 := ⟨by decide +kernel, rfl⟩
theorem eX6_isDot_18 : Dc cX6_isDot 18 (.iload_n 2) 1 19 := ⟨by decide +kernel, rfl⟩
theorem eX6_isDot_19 : Dc cX6_isDot 19 (.iconst 0) 1 20 := ⟨by decide +kernel, rfl⟩
theorem eX6_isDot_20 : Dc cX6_isDot 20 (.aload_n 0) 1 21 := ⟨by decide +kernel, rfl⟩
theorem eX6_isDot_21 : Dc cX6_isDot 21 (.getfield 7) 3 24 := ⟨by decide +kernel, rfl⟩
theorem eX6_isDot_24 : Dc cX6_isDot 24 (.sipush 129) 3 27 := ⟨by decide +kernel, rfl⟩
theorem eX6_isDot_27 : Dc cX6_isDot 27 (.iaload) 1 28 := ⟨by decide +kernel, rfl⟩
theorem eX6_isDot_28 : Dc cX6_isDot 28 (.iconst 1) 1 29 := ⟨by decide +kernel, rfl⟩
theorem eX6_isDot_29 : Dc cX6_isDot 29 (.isub) 1 30 := ⟨by decide +kernel, rfl⟩
theorem eX6_isDot_30 : Dc cX6_isDot 30 (.invokestatic 41) 3 33 := ⟨by decide +kernel, rfl⟩
theorem eX6_isDot_33 : Dc cX6_isDot 33 (.ifCond .eq 7) 3 36 := ⟨by decide +kernel, rfl⟩
theorem eX6_isDot_36 : Dc cX6_isDot 36 (.iconst 1) 1 37 := ⟨by decide +kernel, rfl⟩
theorem eX6_isDot_37 : Dc cX6_isDot 37 (.goto 4) 3 40 := ⟨by decide +kernel, rfl⟩
theorem eX6_isDot_40 : Dc cX6_isDot 40 (.iconst 0) 1 41 := ⟨by decide +kernel, rfl⟩
theorem eX6_isDot_41 : Dc cX6_isDot 41 (.ireturn) 1 42 := ⟨by decide +kernel, rfl⟩
theorem eX6_take_0 : Dc cX6_take 0 (.aload_n 0) 1 1 := ⟨by decide +kernel, rfl⟩
theorem eX6_take_1 : Dc cX6_take 1 (.aload_n 0) 1 2 := ⟨by decide +kernel, rfl⟩
theorem eX6_take_2 : Dc cX6_take 2 (.getfield 7) 3 5 := ⟨by decide +kernel, rfl⟩
theorem eX6_take_5 : Dc cX6_take 5 (.sipush 128) 3 8 := ⟨by decide +kernel, rfl⟩
theorem eX6_take_8 : Dc cX6_take 8 (.iaload) 1 9 := ⟨by decide +kernel, rfl⟩
theorem eX6_take_9 : Dc cX6_take 9 (.putfield 45) 3 12 := ⟨by decide +kernel, rfl⟩
theorem eX6_take_12 : Dc cX6_take 12 (.aload_n 0) 1 13 := ⟨by decide +kernel, rfl⟩
theorem eX6_take_13 : Dc cX6_take 13 (.aload_n 0) 1 14 := ⟨by decide +kernel, rfl⟩
theorem eX6_take_14 : Dc cX6_take 14 (.getfield 7) 3 17 := ⟨by decide +kernel, rfl⟩
theorem eX6_take_17 : Dc cX6_take 17 (.sipush 129) 3 20 := ⟨by decide +kernel, rfl⟩
theorem eX6_take_20 : Dc cX6_take 20 (.iaload) 1 21 := ⟨by decide +kernel, rfl⟩
theorem eX6_take_21 : Dc cX6_take 21 (.putfield 49) 3 24 := ⟨by decide +kernel, rfl⟩
theorem eX6_take_24 : Dc cX6_take 24 (.iconst 0) 1 25 := ⟨by decide +kernel, rfl⟩
theorem eX6_take_25 : Dc cX6_take 25 (.istore_n 1) 1 26 := ⟨by decide +kernel, rfl⟩
theorem eX6_take_26 : Dc cX6_take 26 (.iload_n 1) 1 27 := ⟨by decide +kernel, rfl⟩
theorem eX6_take_27 : Dc cX6_take 27 (.bipush 64) 2 29 := ⟨by decide +kernel, rfl⟩
theorem eX6_take_29 : Dc cX6_take 29 (.if_icmp .ge 38) 3 32 := ⟨by decide +kernel, rfl⟩
theorem eX6_take_32 : Dc cX6_take 32 (.aload_n 0) 1 33 := ⟨by decide +kernel, rfl⟩
theorem eX6_take_33 : Dc cX6_take 33 (.getfield 23) 3 36 := ⟨by decide +kernel, rfl⟩
theorem eX6_take_36 : Dc cX6_take 36 (.iload_n 1) 1 37 := ⟨by decide +kernel, rfl⟩
theorem eX6_take_37 : Dc cX6_take 37 (.aload_n 0) 1 38 := ⟨by decide +kernel, rfl⟩
theorem eX6_take_38 : Dc cX6_take 38 (.getfield 7) 3 41 := ⟨by decide +kernel, rfl⟩
theorem eX6_take_41 : Dc cX6_take 41 (.iconst 0) 1 42 := ⟨by decide +kernel, rfl⟩
theorem eX6_take_42 : Dc cX6_take 42 (.iload_n 1) 1 43 := ⟨by decide +kernel, rfl⟩
theorem eX6_take_43 : Dc cX6_take 43 (.iadd) 1 44 := ⟨by decide +kernel, rfl⟩
theorem eX6_take_44 : Dc cX6_take 44 (.iaload) 1 45 := ⟨by decide +kernel, rfl⟩
theorem eX6_take_45 : Dc cX6_take 45 (.iastore) 1 46 := ⟨by decide +kernel, rfl⟩
theorem eX6_take_46 : Dc cX6_take 46 (.aload_n 0) 1 47 := ⟨by decide +kernel, rfl⟩
theorem eX6_take_47 : Dc cX6_take 47 (.getfield 26) 3 50 := ⟨by decide +kernel, rfl⟩
theorem eX6_take_50 : Dc cX6_take 50 (.iload_n 1) 1 51 := ⟨by decide +kernel, rfl⟩
theorem eX6_take_51 : Dc cX6_take 51 (.aload_n 0) 1 52 := ⟨by decide +kernel, rfl⟩
theorem eX6_take_52 : Dc cX6_take 52 (.getfield 7) 3 55 := ⟨by decide +kernel, rfl⟩
theorem eX6_take_55 : Dc cX6_take 55 (.bipush 64) 2 57 := ⟨by decide +kernel, rfl⟩
theorem eX6_take_57 : Dc cX6_take 57 (.iload_n 1) 1 58 := ⟨by decide +kernel, rfl⟩
theorem eX6_take_58 : Dc cX6_take 58 (.iadd) 1 59 := ⟨by decide +kernel, rfl⟩
theorem eX6_take_59 : Dc cX6_take 59 (.iaload) 1 60 := ⟨by decide +kernel, rfl⟩
theorem eX6_take_60 : Dc cX6_take 60 (.iastore) 1 61 := ⟨by decide +kernel, rfl⟩
theorem eX6_take_61 : Dc cX6_take 61 (.iinc 1 1) 3 64 := ⟨by decide +kernel, rfl⟩
theorem eX6_take_64 : Dc cX6_take 64 (.goto (-38)) 3 67 := ⟨by decide +kernel, rfl⟩
theorem eX6_take_67 : Dc cX6_take 67 (.return_) 1 68 := ⟨by decide +kernel, rfl⟩
theorem eX6_give_0 : Dc cX6_give 0 (.aload_n 0) 1 1 := ⟨by decide +kernel, rfl⟩
theorem eX6_give_1 : Dc cX6_give 1 (.getfield 7) 3 4 := ⟨by decide +kernel, rfl⟩
theorem eX6_give_4 : Dc cX6_give 4 (.sipush 128) 3 7 := ⟨by decide +kernel, rfl⟩
theorem eX6_give_7 : Dc cX6_give 7 (.aload_n 0) 1 8 := ⟨by decide +kernel, rfl⟩
theorem eX6_give_8 : Dc cX6_give 8 (.getfield 45) 3 11 := ⟨by decide +kernel, rfl⟩
theorem eX6_give_11 : Dc cX6_give 11 (.iastore) 1 12 := ⟨by decide +kernel, rfl⟩
theorem eX6_give_12 : Dc cX6_give 12 (.aload_n 0) 1 13 := ⟨by decide +kernel, rfl⟩
theorem eX6_give_13 : Dc cX6_give 13 (.getfield 7) 3 16 := ⟨by decide +kernel, rfl⟩
theorem eX6_give_16 : Dc cX6_give 16 (.sipush 129) 3 19 := ⟨by decide +kernel, rfl⟩
theorem eX6_give_19 : Dc cX6_give 19 (.aload_n 0) 1 20 := ⟨by decide +kernel, rfl⟩
theorem eX6_give_20 : Dc cX6_give 20 (.getfield 49) 3 23 := ⟨by decide +kernel, rfl⟩
theorem eX6_give_23 : Dc cX6_give 23 (.iastore) 1 24 := ⟨by decide +kernel, rfl⟩
theorem eX6_give_24 : Dc cX6_give 24 (.iconst 0) 1 25 := ⟨by decide +kernel, rfl⟩
theorem eX6_give_25 : Dc cX6_give 25 (.istore_n 1) 1 26 := ⟨by decide +kernel, rfl⟩
theorem eX6_give_26 : Dc cX6_give 26 (.iload_n 1) 1 27 := ⟨by decide +kernel, rfl⟩
theorem eX6_give_27 : Dc cX6_give 27 (.bipush 64) 2 29 := ⟨by decide +kernel, rfl⟩
theorem eX6_give_29 : Dc cX6_give 29 (.if_icmp .ge 82) 3 32 := ⟨by decide +kernel, rfl⟩
theorem eX6_give_32 : Dc cX6_give 32 (.iload_n 1) 1 33 := ⟨by decide +kernel, rfl⟩
theorem eX6_give_33 : Dc cX6_give 33 (.bipush 8) 2 35 := ⟨by decide +kernel, rfl⟩
theorem eX6_give_35 : Dc cX6_give 35 (.irem) 1 36 := ⟨by decide +kernel, rfl⟩
theorem eX6_give_36 : Dc cX6_give 36 (.aload_n 0) 1 37 := ⟨by decide +kernel, rfl⟩
theorem eX6_give_37 : Dc cX6_give 37 (.getfield 45) 3 40 := ⟨by decide +kernel, rfl⟩
theorem eX6_give_40 : Dc cX6_give 40 (.if_icmp .ge 18) 3 43 := ⟨by decide +kernel, rfl⟩
theorem eX6_give_43 : Dc cX6_give 43 (.iload_n 1) 1 44 := ⟨by decide +kernel, rfl⟩
theorem eX6_give_44 : Dc cX6_give 44 (.bipush 8) 2 46 := ⟨by decide +kernel, rfl⟩
theorem eX6_give_46 : Dc cX6_give 46 (.idiv) 1 47 := ⟨by decide +kernel, rfl⟩
theorem eX6_give_47 : Dc cX6_give 47 (.aload_n 0) 1 48 := ⟨by decide +kernel, rfl⟩
theorem eX6_give_48 : Dc cX6_give 48 (.getfield 49) 3 51 := ⟨by decide +kernel, rfl⟩
theorem eX6_give_51 : Dc cX6_give 51 (.if_icmp .ge 7) 3 54 := ⟨by decide +kernel, rfl⟩
theorem eX6_give_54 : Dc cX6_give 54 (.iconst 1) 1 55 := ⟨by decide +kernel, rfl⟩
theorem eX6_give_55 : Dc cX6_give 55 (.goto 4) 3 58 := ⟨by decide +kernel, rfl⟩
theorem eX6_give_58 : Dc cX6_give 58 (.iconst 0) 1 59 := ⟨by decide +kernel, rfl⟩
theorem eX6_give_59 : Dc cX6_give 59 (.istore_n 2) 1 60 := ⟨by decide +kernel, rfl⟩
theorem eX6_give_60 : Dc cX6_give 60 (.aload_n 0) 1 61 := ⟨by decide +kernel, rfl⟩
theorem eX6_give_61 : Dc cX6_give 61 (.getfield 7) 3 64 := ⟨by decide +kernel, rfl⟩
theorem eX6_give_64 : Dc cX6_give 64 (.iconst 0) 1 65 := ⟨by decide +kernel, rfl⟩
theorem eX6_give_65 : Dc cX6_give 65 (.iload_n 1) 1 66 := ⟨by decide +kernel, rfl⟩
theorem eX6_give_66 : Dc cX6_give 66 (.iadd) 1 67 := ⟨by decide +kernel, rfl⟩
theorem eX6_give_67 : Dc cX6_give 67 (.iload_n 2) 1 68 := ⟨by decide +kernel, rfl⟩
theorem eX6_give_68 : Dc cX6_give 68 (.ifCond .eq 12) 3 71 := ⟨by decide +kernel, rfl⟩
theorem eX6_give_71 : Dc cX6_give 71 (.aload_n 0) 1 72 := ⟨by decide +kernel, rfl⟩
theorem eX6_give_72 : Dc cX6_give 72 (.getfield 23) 3 75 := ⟨by decide +kernel, rfl⟩
theorem eX6_give_75 : Dc cX6_give 75 (.iload_n 1) 1 76 := ⟨by decide +kernel, rfl⟩
theorem eX6_give_76 : Dc cX6_give 76 (.iaload) 1 77 := ⟨by decide +kernel, rfl⟩
theorem eX6_give_77 : Dc cX6_give 77 (.goto 4) 3 80 := ⟨by decide +kernel, rfl⟩
theorem eX6_give_80 : Dc cX6_give 80 (.iconst 0) 1 81 := ⟨by decide +kernel, rfl⟩
theorem eX6_give_81 : Dc cX6_give 81 (.iastore) 1 82 := ⟨by decide +kernel, rfl⟩
theorem eX6_give_82 : Dc cX6_give 82 (.aload_n 0) 1 83 := ⟨by decide +kernel, rfl⟩
theorem eX6_give_83 : Dc cX6_give 83 (.getfield 7) 3 86 := ⟨by decide +kernel, rfl⟩
theorem eX6_give_86 : Dc cX6_give 86 (.bipush 64) 2 88 := ⟨by decide +kernel, rfl⟩
theorem eX6_give_88 : Dc cX6_give 88 (.iload_n 1) 1 89 := ⟨by decide +kernel, rfl⟩
theorem eX6_give_89 : Dc cX6_give 89 (.iadd) 1 90 := ⟨by decide +kernel, rfl⟩
theorem eX6_give_90 : Dc cX6_give 90 (.iload_n 2) 1 91 := ⟨by decide +kernel, rfl⟩
theorem eX6_give_91 : Dc cX6_give 91 (.ifCond .eq 12) 3 94 := ⟨by decide +kernel, rfl⟩
theorem eX6_give_94 : Dc cX6_give 94 (.aload_n 0) 1 95 := ⟨by decide +kernel, rfl⟩
theorem eX6_give_95 : Dc cX6_give 95 (.getfield 26) 3 98 := ⟨by decide +kernel, rfl⟩
theorem eX6_give_98 : Dc cX6_give 98 (.iload_n 1) 1 99 := ⟨by decide +kernel, rfl⟩
theorem eX6_give_99 : Dc cX6_give 99 (.iaload) 1 100 := ⟨by decide +kernel, rfl⟩
theorem eX6_give_100 : Dc cX6_give 100 (.goto 4) 3 103 := ⟨by decide +kernel, rfl⟩
theorem eX6_give_103 : Dc cX6_give 103 (.iconst 0) 1 104 := ⟨by decide +kernel, rfl⟩
theorem eX6_give_104 : Dc cX6_give 104 (.iastore) 1 105 := ⟨by decide +kernel, rfl⟩
theorem eX6_give_105 : Dc cX6_give 105 (.iinc 1 1) 3 108 := ⟨by decide +kernel, rfl⟩
theorem eX6_give_108 : Dc cX6_give 108 (.goto (-82)) 3 111 := ⟨by decide +kernel, rfl⟩
theorem eX6_give_111 : Dc cX6_give 111 (.return_) 1 112 := ⟨by decide +kernel, rfl⟩
theorem eX6_turn_0 : Dc cX6_turn 0 (.iconst 0) 1 1 := ⟨by decide +kernel, rfl⟩
theorem eX6_turn_1 : Dc cX6_turn 1 (.istore_n 1) 1 2 := ⟨by decide +kernel, rfl⟩
theorem eX6_turn_2 : Dc cX6_turn 2 (.iload_n 1) 1 3 := ⟨by decide +kernel, rfl⟩
theorem eX6_turn_3 : Dc cX6_turn 3 (.bipush 8) 2 5 := ⟨by decide +kernel, rfl⟩
theorem eX6_turn_5 : Dc cX6_turn 5 (.if_icmp .ge 108) 3 8 := ⟨by decide +kernel, rfl⟩
theorem eX6_turn_8 : Dc cX6_turn 8 (.iconst 0) 1 9 := ⟨by decide +kernel, rfl⟩
theorem eX6_turn_9 : Dc cX6_turn 9 (.istore_n 2) 1 10 := ⟨by decide +kernel, rfl⟩
theorem eX6_turn_10 : Dc cX6_turn 10 (.iload_n 2) 1 11 := ⟨by decide +kernel, rfl⟩
theorem eX6_turn_11 : Dc cX6_turn 11 (.iload_n 1) 1 12 := ⟨by decide +kernel, rfl⟩
theorem eX6_turn_12 : Dc cX6_turn 12 (.if_icmp .ge 95) 3 15 := ⟨by decide +kernel, rfl⟩
theorem eX6_turn_15 : Dc cX6_turn 15 (.aload_n 0) 1 16 := ⟨by decide +kernel, rfl⟩
theorem eX6_turn_16 : Dc cX6_turn 16 (.getfield 23) 3 19 := ⟨by decide +kernel, rfl⟩
theorem eX6_turn_19 : Dc cX6_turn 19 (.iload_n 2) 1 20 := ⟨by decide +kernel, rfl⟩
theorem eX6_turn_20 : Dc cX6_turn 20 (.iload_n 1) 1 21 := ⟨by decide +kernel, rfl⟩
theorem eX6_turn_21 : Dc cX6_turn 21 (.invokestatic 52) 3 24 := ⟨by decide +kernel, rfl⟩
theorem eX6_turn_24 : Dc cX6_turn 24 (.iaload) 1 25 := ⟨by decide +kernel, rfl⟩
theorem eX6_turn_25 : Dc cX6_turn 25 (.istore_n 3) 1 26 := ⟨by decide +kernel, rfl⟩
theorem eX6_turn_26 : Dc cX6_turn 26 (.aload_n 0) 1 27 := ⟨by decide +kernel, rfl⟩
theorem eX6_turn_27 : Dc cX6_turn 27 (.getfield 23) 3 30 := ⟨by decide +kernel, rfl⟩
theorem eX6_turn_30 : Dc cX6_turn 30 (.iload_n 2) 1 31 := ⟨by decide +kernel, rfl⟩
theorem eX6_turn_31 : Dc cX6_turn 31 (.iload_n 1) 1 32 := ⟨by decide +kernel, rfl⟩
theorem eX6_turn_32 : Dc cX6_turn 32 (.invokestatic 52) 3 35 := ⟨by decide +kernel, rfl⟩
theorem eX6_turn_35 : Dc cX6_turn 35 (.aload_n 0) 1 36 := ⟨by decide +kernel, rfl⟩
theorem eX6_turn_36 : Dc cX6_turn 36 (.getfield 23) 3 39 := ⟨by decide +kernel, rfl⟩
theorem eX6_turn_39 : Dc cX6_turn 39 (.iload_n 1) 1 40 := ⟨by decide +kernel, rfl⟩
theorem eX6_turn_40 : Dc cX6_turn 40 (.iload_n 2) 1 41 := ⟨by decide +kernel, rfl⟩
theorem eX6_turn_41 : Dc cX6_turn 41 (.invokestatic 52) 3 44 := ⟨by decide +kernel, rfl⟩
theorem eX6_turn_44 : Dc cX6_turn 44 (.iaload) 1 45 := ⟨by decide +kernel, rfl⟩
theorem eX6_turn_45 : Dc cX6_turn 45 (.iastore) 1 46 := ⟨by decide +kernel, rfl⟩
theorem eX6_turn_46 : Dc cX6_turn 46 (.aload_n 0) 1 47 := ⟨by decide +kernel, rfl⟩
theorem eX6_turn_47 : Dc cX6_turn 47 (.getfield 23) 3 50 := ⟨by decide +kernel, rfl⟩
theorem eX6_turn_50 : Dc cX6_turn 50 (.iload_n 1) 1 51 := ⟨by decide +kernel, rfl⟩
theorem eX6_turn_51 : Dc cX6_turn 51 (.iload_n 2) 1 52 := ⟨by decide +kernel, rfl⟩
theorem eX6_turn_52 : Dc cX6_turn 52 (.invokestatic 52) 3 55 := ⟨by decide +kernel, rfl⟩
theorem eX6_turn_55 : Dc cX6_turn 55 (.iload_n 3) 1 56 := ⟨by decide +kernel, rfl⟩
theorem eX6_turn_56 : Dc cX6_turn 56 (.iastore) 1 57 := ⟨by decide +kernel, rfl⟩
theorem eX6_turn_57 : Dc cX6_turn 57 (.aload_n 0) 1 58 := ⟨by decide +kernel, rfl⟩
theorem eX6_turn_58 : Dc cX6_turn 58 (.getfield 26) 3 61 := ⟨by decide +kernel, rfl⟩
theorem eX6_turn_61 : Dc cX6_turn 61 (.iload_n 2) 1 62 := ⟨by decide +kernel, rfl⟩
theorem eX6_turn_62 : Dc cX6_turn 62 (.iload_n 1) 1 63 := ⟨by decide +kernel, rfl⟩
theorem eX6_turn_63 : Dc cX6_turn 63 (.invokestatic 52) 3 66 := ⟨by decide +kernel, rfl⟩
theorem eX6_turn_66 : Dc cX6_turn 66 (.iaload) 1 67 := ⟨by decide +kernel, rfl⟩
theorem eX6_turn_67 : Dc cX6_turn 67 (.istore 4) 2 69 := ⟨by decide +kernel, rfl⟩
theorem eX6_turn_69 : Dc cX6_turn 69 (.aload_n 0) 1 70 := ⟨by decide +kernel, rfl⟩
theorem eX6_turn_70 : Dc cX6_turn 70 (.getfield 26) 3 73 := ⟨by decide +kernel, rfl⟩
theorem eX6_turn_73 : Dc cX6_turn 73 (.iload_n 2) 1 74 := ⟨by decide +kernel, rfl⟩
theorem eX6_turn_74 : Dc cX6_turn 74 (.iload_n 1) 1 75 := ⟨by decide +kernel, rfl⟩
theorem eX6_turn_75 : Dc cX6_turn 75 (.invokestatic 52) 3 78 := ⟨by decide +kernel, rfl⟩
theorem eX6_turn_78 : Dc cX6_turn 78 (.aload_n 0) 1 79 := ⟨by decide +kernel, rfl⟩
theorem eX6_turn_79 : Dc cX6_turn 79 (.getfield 26) 3 82 := ⟨by decide +kernel, rfl⟩
theorem eX6_turn_82 : Dc cX6_turn 82 (.iload_n 1) 1 83 := ⟨by decide +kernel, rfl⟩
theorem eX6_turn_83 : Dc cX6_turn 83 (.iload_n 2) 1 84 := ⟨by decide +kernel, rfl⟩
theorem eX6_turn_84 : Dc cX6_turn 84 (.invokestatic 52) 3 87 := ⟨by decide +kernel, rfl⟩
theorem eX6_turn_87 : Dc cX6_turn 87 (.iaload) 1 88 := ⟨by decide +kernel, rfl⟩
theorem eX6_turn_88 : Dc cX6_turn 88 (.iastore) 1 89 := ⟨by decide +kernel, rfl⟩
theorem eX6_turn_89 : Dc cX6_turn 89 (.aload_n 0) 1 90 := ⟨by decide +kernel, rfl⟩
theorem eX6_turn_90 : Dc cX6_turn 90 (.getfield 26) 3 93 := ⟨by decide +kernel, rfl⟩
theorem eX6_turn_93 : Dc cX6_turn 93 (.iload_n 1) 1 94 := ⟨by decide +kernel, rfl⟩
theorem eX6_turn_94 : Dc cX6_turn 94 (.iload_n 2) 1 95 := ⟨by decide +kernel, rfl⟩
theorem eX6_turn_95 : Dc cX6_turn 95 (.invokestatic 52) 3 98 := ⟨by decide +kernel, rfl⟩
theorem eX6_turn_98 : Dc cX6_turn 98 (.iload 4) 2 100 := ⟨by decide +kernel, rfl⟩
theorem eX6_turn_100 : Dc cX6_turn 100 (.iastore) 1 101 := ⟨by decide +kernel, rfl⟩
theorem eX6_turn_101 : Dc cX6_turn 101 (.iinc 2 1) 3 104 := ⟨by decide +kernel, rfl⟩
theorem eX6_turn_104 : Dc cX6_turn 104 (.goto (-94)) 3 107 := ⟨by decide +kernel, rfl⟩
theorem eX6_turn_107 : Dc cX6_turn 107 (.iinc 1 1) 3 110 := ⟨by decide +kernel, rfl⟩
theorem eX6_turn_110 : Dc cX6_turn 110 (.goto (-108)) 3 113 := ⟨by decide +kernel, rfl⟩
theorem eX6_turn_113 : Dc cX6_turn 113 (.aload_n 0) 1 114 := ⟨by decide +kernel, rfl⟩
theorem eX6_turn_114 : Dc cX6_turn 114 (.getfield 45) 3 117 := ⟨by decide +kernel, rfl⟩
theorem eX6_turn_117 : Dc cX6_turn 117 (.istore_n 1) 1 118 := ⟨by decide +kernel, rfl⟩
theorem eX6_turn_118 : Dc cX6_turn 118 (.aload_n 0) 1 119 := ⟨by decide +kernel, rfl⟩
theorem eX6_turn_119 : Dc cX6_turn 119 (.aload_n 0) 1 120 := ⟨by decide +kernel, rfl⟩
theorem eX6_turn_120 : Dc cX6_turn 120 (.getfield 49) 3 123 := ⟨by decide +kernel, rfl⟩
theorem eX6_turn_123 : Dc cX6_turn 123 (.putfield 45) 3 126 := ⟨by decide +kernel, rfl⟩
theorem eX6_turn_126 : Dc cX6_turn 126 (.aload_n 0) 1 127 := ⟨by decide +kernel, rfl⟩
theorem eX6_turn_127 : Dc cX6_turn 127 (.iload_n 1) 1 128 := ⟨by decide +kernel, rfl⟩
theorem eX6_turn_128 : Dc cX6_turn 128 (.putfield 49) 3 131 := ⟨by decide +kernel, rfl⟩
theorem eX6_turn_131 : Dc cX6_turn 131 (.return_) 1 132 := ⟨by decide +kernel, rfl⟩
theorem eX6_greyAt_0 : Dc cX6_greyAt 0 (.aload_n 0) 1 1 := ⟨by decide +kernel, rfl⟩
theorem eX6_greyAt_1 : Dc cX6_greyAt 1 (.getfield 23) 3 4 := ⟨by decide +kernel, rfl⟩
theorem eX6_greyAt_4 : Dc cX6_greyAt 4 (.iload_n 1) 1 5 := ⟨by decide +kernel, rfl⟩
theorem eX6_greyAt_5 : Dc cX6_greyAt 5 (.iload_n 2) 1 6 := ⟨by decide +kernel, rfl⟩
theorem eX6_greyAt_6 : Dc cX6_greyAt 6 (.invokestatic 52) 3 9 := ⟨by decide +kernel, rfl⟩
theorem eX6_greyAt_9 : Dc cX6_greyAt 9 (.iaload) 1 10 := ⟨by decide +kernel, rfl⟩
theorem eX6_greyAt_10 : Dc cX6_greyAt 10 (.ireturn) 1 11 := ⟨by decide +kernel, rfl⟩
theorem eX6_left_0 : Dc cX6_left 0 (.aload_n 0) 1 1 := ⟨by decide +kernel, rfl⟩
theorem eX6_left_1 : Dc cX6_left 1 (.iload_n 1) 1 2 := ⟨by decide +kernel, rfl⟩
theorem eX6_left_2 : Dc cX6_left 2 (.ifCond .le 9) 3 5 := ⟨by decide +kernel, rfl⟩
theorem eX6_left_5 : Dc cX6_left 5 (.iload_n 1) 1 6 := ⟨by decide +kernel, rfl⟩
theorem eX6_left_6 : Dc cX6_left 6 (.iconst 1) 1 7 := ⟨by decide +kernel, rfl⟩
theorem eX6_left_7 : Dc cX6_left 7 (.isub) 1 8 := ⟨by decide +kernel, rfl⟩
theorem eX6_left_8 : Dc cX6_left 8 (.goto 4) 3 11 := ⟨by decide +kernel, rfl⟩
theorem eX6_left_11 : Dc cX6_left 11 (.iload_n 1) 1 12 := ⟨by decide +kernel, rfl⟩
theorem eX6_left_12 : Dc cX6_left 12 (.iload_n 2) 1 13 := ⟨by decide +kernel, rfl⟩
theorem eX6_left_13 : Dc cX6_left 13 (.invokevirtual 56) 3 16 := ⟨by decide +kernel, rfl⟩
theorem eX6_left_16 : Dc cX6_left 16 (.ireturn) 1 17 := ⟨by decide +kernel, rfl⟩
theorem eX6_right_0 : Dc cX6_right 0 (.aload_n 0) 1 1 := ⟨by decide +kernel, rfl⟩
theorem eX6_right_1 : Dc cX6_right 1 (.iload_n 1) 1 2 := ⟨by decide +kernel, rfl⟩
theorem eX6_right_2 : Dc cX6_right 2 (.iconst 1) 1 3 := ⟨by decide +kernel, rfl⟩
theorem eX6_right_3 : Dc cX6_right 3 (.iadd) 1 4 := ⟨by decide +kernel, rfl⟩
theorem eX6_right_4 : Dc cX6_right 4 (.aload_n 0) 1 5 := ⟨by decide +kernel, rfl⟩
theorem eX6_right_5 : Dc cX6_right 5 (.getfield 45) 3 8 := ⟨by decide +kernel, rfl⟩
theorem eX6_right_8 : Dc cX6_right 8 (.if_icmp .ge 9) 3 11 := ⟨by decide +kernel, rfl⟩
theorem eX6_right_11 : Dc cX6_right 11 (.iload_n 1) 1 12 := ⟨by decide +kernel, rfl⟩
theorem eX6_right_12 : Dc cX6_right 12 (.iconst 1) 1 13 := ⟨by decide +kernel, rfl⟩
theorem eX6_right_13 : Dc cX6_right 13 (.iadd) 1 14 := ⟨by decide +kernel, rfl⟩
theorem eX6_right_14 : Dc cX6_right 14 (.goto 4) 3 17 := ⟨by decide +kernel, rfl⟩
theorem eX6_right_17 : Dc cX6_right 17 (.iload_n 1) 1 18 := ⟨by decide +kernel, rfl⟩
theorem eX6_right_18 : Dc cX6_right 18 (.iload_n 2) 1 19 := ⟨by decide +kernel, rfl⟩
theorem eX6_right_19 : Dc cX6_right 19 (.invokevirtual 56) 3 22 := ⟨by decide +kernel, rfl⟩
theorem eX6_right_22 : Dc cX6_right 22 (.ireturn) 1 23 := ⟨by decide +kernel, rfl⟩
theorem eX6_above_0 : Dc cX6_above 0 (.aload_n 0) 1 1 := ⟨by decide +kernel, rfl⟩
theorem eX6_above_1 : Dc cX6_above 1 (.iload_n 1) 1 2 := ⟨by decide +kernel, rfl⟩
theorem eX6_above_2 : Dc cX6_above 2 (.iload_n 2) 1 3 := ⟨by decide +kernel, rfl⟩
theorem eX6_above_3 : Dc cX6_above 3 (.ifCond .le 9) 3 6 := ⟨by decide +kernel, rfl⟩
theorem eX6_above_6 : Dc cX6_above 6 (.iload_n 2) 1 7 := ⟨by decide +kernel, rfl⟩
theorem eX6_above_7 : Dc cX6_above 7 (.iconst 1) 1 8 := ⟨by decide +kernel, rfl⟩
theorem eX6_above_8 : Dc cX6_above 8 (.isub) 1 9 := ⟨by decide +kernel, rfl⟩
theorem eX6_above_9 : Dc cX6_above 9 (.goto 4) 3 12 := ⟨by decide +kernel, rfl⟩
theorem eX6_above_12 : Dc cX6_above 12 (.iload_n 2) 1 13 := ⟨by decide +kernel, rfl⟩
theorem eX6_above_13 : Dc cX6_above 13 (.invokevirtual 56) 3 16 := ⟨by decide +kernel, rfl⟩
theorem eX6_above_16 : Dc cX6_above 16 (.ireturn) 1 17 := ⟨by decide +kernel, rfl⟩
theorem eX6_below_0 : Dc cX6_below 0 (.aload_n 0) 1 1 := ⟨by decide +kernel, rfl⟩
theorem eX6_below_1 : Dc cX6_below 1 (.iload_n 1) 1 2 := ⟨by decide +kernel, rfl⟩
theorem eX6_below_2 : Dc cX6_below 2 (.iload_n 2) 1 3 := ⟨by decide +kernel, rfl⟩
theorem eX6_below_3 : Dc cX6_below 3 (.iconst 1) 1 4 := ⟨by decide +kernel, rfl⟩
theorem eX6_below_4 : Dc cX6_below 4 (.iadd) 1 5 := ⟨by decide +kernel, rfl⟩
theorem eX6_below_5 : Dc cX6_below 5 (.aload_n 0) 1 6 := ⟨by decide +kernel, rfl⟩
theorem eX6_below_6 : Dc cX6_below 6 (.getfield 49) 3 9 := ⟨by decide +kernel, rfl⟩
theorem eX6_below_9 : Dc cX6_below 9 (.if_icmp .ge 9) 3 12 := ⟨by decide +kernel, rfl⟩
theorem eX6_below_12 : Dc cX6_below 12 (.iload_n 2) 1 13 := ⟨by decide +kernel, rfl⟩
theorem eX6_below_13 : Dc cX6_below 13 (.iconst 1) 1 14 := ⟨by decide +kernel, rfl⟩
theorem eX6_below_14 : Dc cX6_below 14 (.iadd) 1 15 := ⟨by decide +kernel, rfl⟩
theorem eX6_below_15 : Dc cX6_below 15 (.goto 4) 3 18 := ⟨by decide +kernel, rfl⟩
theorem eX6_below_18 : Dc cX6_below 18 (.iload_n 2) 1 19 := ⟨by decide +kernel, rfl⟩
theorem eX6_below_19 : Dc cX6_below 19 (.invokevirtual 56) 3 22 := ⟨by decide +kernel, rfl⟩
theorem eX6_below_22 : Dc cX6_below 22 (.ireturn) 1 23 := ⟨by decide +kernel, rfl⟩
theorem eX6_extra_0 : Dc cX6_extra 0 (.aload_n 0) 1 1 := ⟨by decide +kernel, rfl⟩
theorem eX6_extra_1 : Dc cX6_extra 1 (.getfield 26) 3 4 := ⟨by decide +kernel, rfl⟩
theorem eX6_extra_4 : Dc cX6_extra 4 (.iload_n 1) 1 5 := ⟨by decide +kernel, rfl⟩
theorem eX6_extra_5 : Dc cX6_extra 5 (.iload_n 2) 1 6 := ⟨by decide +kernel, rfl⟩
theorem eX6_extra_6 : Dc cX6_extra 6 (.invokestatic 52) 3 9 := ⟨by decide +kernel, rfl⟩
theorem eX6_extra_9 : Dc cX6_extra 9 (.iaload) 1 10 := ⟨by decide +kernel, rfl⟩
theorem eX6_extra_10 : Dc cX6_extra 10 (.istore_n 3) 1 11 := ⟨by decide +kernel, rfl⟩
theorem eX6_extra_11 : Dc cX6_extra 11 (.iload_n 3) 1 12 := ⟨by decide +kernel, rfl⟩
theorem eX6_extra_12 : Dc cX6_extra 12 (.iconst 1) 1 13 := ⟨by decide +kernel, rfl⟩
theorem eX6_extra_13 : Dc cX6_extra 13 (.if_icmp .ne 8) 3 16 := ⟨by decide +kernel, rfl⟩
theorem eX6_extra_16 : Dc cX6_extra 16 (.bipush 100) 2 18 := ⟨by decide +kernel, rfl⟩
theorem eX6_extra_18 : Dc cX6_extra 18 (.goto 14) 3 21 := ⟨by decide +kernel, rfl⟩
theorem eX6_extra_21 : Dc cX6_extra 21 (.iload_n 3) 1 22 := ⟨by decide +kernel, rfl⟩
theorem eX6_extra_22 : Dc cX6_extra 22 (.iconst 2) 1 23 := ⟨by decide +kernel, rfl⟩
theorem eX6_extra_23 : Dc cX6_extra 23 (.if_icmp .ne 8) 3 26 := ⟨by decide +kernel, rfl⟩
theorem eX6_extra_26 : Dc cX6_extra 26 (.bipush (-100)) 2 28 := ⟨by decide +kernel, rfl⟩
theorem eX6_extra_28 : Dc cX6_extra 28 (.goto 4) 3 31 := ⟨by decide +kernel, rfl⟩
theorem eX6_extra_31 : Dc cX6_extra 31 (.iconst 0) 1 32 := ⟨by decide +kernel, rfl⟩
theorem eX6_extra_32 : Dc cX6_extra 32 (.ireturn) 1 33 := ⟨by decide +kernel, rfl⟩
theorem eX6_across_0 : Dc cX6_across 0 (.aload_n 0) 1 1 := ⟨by decide +kernel, rfl⟩
theorem eX6_across_1 : Dc cX6_across 1 (.iload_n 1) 1 2 := ⟨by decide +kernel, rfl⟩
theorem eX6_across_2 : Dc cX6_across 2 (.iload_n 2) 1 3 := ⟨by decide +kernel, rfl⟩
theorem eX6_across_3 : Dc cX6_across 3 (.invokevirtual 59) 3 6 := ⟨by decide +kernel, rfl⟩
theorem eX6_across_6 : Dc cX6_across 6 (.aload_n 0) 1 7 := ⟨by decide +kernel, rfl⟩
theorem eX6_across_7 : Dc cX6_across 7 (.iload_n 1) 1 8 := ⟨by decide +kernel, rfl⟩
theorem eX6_across_8 : Dc cX6_across 8 (.iload_n 2) 1 9 := ⟨by decide +kernel, rfl⟩
theorem eX6_across_9 : Dc cX6_across 9 (.invokevirtual 62) 3 12 := ⟨by decide +kernel, rfl⟩
theorem eX6_across_12 : Dc cX6_across 12 (.isub) 1 13 := ⟨by decide +kernel, rfl⟩
theorem eX6_across_13 : Dc cX6_across 13 (.invokestatic 65) 3 16 := ⟨by decide +kernel, rfl⟩
theorem eX6_across_16 : Dc cX6_across 16 (.ireturn) 1 17 := ⟨by decide +kernel, rfl⟩
theorem eX6_edge_0 : Dc cX6_edge 0 (.aload_n 0) 1 1 := ⟨by decide +kernel, rfl⟩
theorem eX6_edge_1 : Dc cX6_edge 1 (.iload_n 1) 1 2 := ⟨by decide +kernel, rfl⟩
theorem eX6_edge_2 : Dc cX6_edge 2 (.iload_n 2) 1 3 := ⟨by decide +kernel, rfl⟩
theorem eX6_edge_3 : Dc cX6_edge 3 (.invokevirtual 69) 3 6 := ⟨by decide +kernel, rfl⟩
theorem eX6_edge_6 : Dc cX6_edge 6 (.aload_n 0) 1 7 := ⟨by decide +kernel, rfl⟩
theorem eX6_edge_7 : Dc cX6_edge 7 (.iload_n 1) 1 8 := ⟨by decide +kernel, rfl⟩
theorem eX6_edge_8 : Dc cX6_edge 8 (.iload_n 2) 1 9 := ⟨by decide +kernel, rfl⟩
theorem eX6_edge_9 : Dc cX6_edge 9 (.invokevirtual 72) 3 12 := ⟨by decide +kernel, rfl⟩
theorem eX6_edge_12 : Dc cX6_edge 12 (.aload_n 0) 1 13 := ⟨by decide +kernel, rfl⟩
theorem eX6_edge_13 : Dc cX6_edge 13 (.iload_n 1) 1 14 := ⟨by decide +kernel, rfl⟩
theorem eX6_edge_14 : Dc cX6_edge 14 (.iload_n 2) 1 15 := ⟨by decide +kernel, rfl⟩
theorem eX6_edge_15 : Dc cX6_edge 15 (.invokevirtual 75) 3 18 := ⟨by decide +kernel, rfl⟩
theorem eX6_edge_18 : Dc cX6_edge 18 (.isub) 1 19 := ⟨by decide +kernel, rfl⟩
theorem eX6_edge_19 : Dc cX6_edge 19 (.invokestatic 65) 3 22 := ⟨by decide +kernel, rfl⟩
theorem eX6_edge_22 : Dc cX6_edge 22 (.iadd) 1 23 := ⟨by decide +kernel, rfl⟩
theorem eX6_edge_23 : Dc cX6_edge 23 (.ireturn) 1 24 := ⟨by decide +kernel, rfl⟩
theorem eX6_weight_0 : Dc cX6_weight 0 (.aload_n 0) 1 1 := ⟨by decide +kernel, rfl⟩
theorem eX6_weight_1 : Dc cX6_weight 1 (.iload_n 1) 1 2 := ⟨by decide +kernel, rfl⟩
theorem eX6_weight_2 : Dc cX6_weight 2 (.iload_n 2) 1 3 := ⟨by decide +kernel, rfl⟩
theorem eX6_weight_3 : Dc cX6_weight 3 (.invokevirtual 78) 3 6 := ⟨by decide +kernel, rfl⟩
theorem eX6_weight_6 : Dc cX6_weight 6 (.aload_n 0) 1 7 := ⟨by decide +kernel, rfl⟩
theorem eX6_weight_7 : Dc cX6_weight 7 (.iload_n 1) 1 8 := ⟨by decide +kernel, rfl⟩
theorem eX6_weight_8 : Dc cX6_weight 8 (.iload_n 2) 1 9 := ⟨by decide +kernel, rfl⟩
theorem eX6_weight_9 : Dc cX6_weight 9 (.invokevirtual 81) 3 12 := ⟨by decide +kernel, rfl⟩
theorem eX6_weight_12 : Dc cX6_weight 12 (.iadd) 1 13 := ⟨by decide +kernel, rfl⟩
theorem eX6_weight_13 : Dc cX6_weight 13 (.ireturn) 1 14 := ⟨by decide +kernel, rfl⟩
theorem eX6_costOf_0 : Dc cX6_costOf 0 (.aload_n 0) 1 1 := ⟨by decide +kernel, rfl⟩
theorem eX6_costOf_1 : Dc cX6_costOf 1 (.getfield 7) 3 4 := ⟨by decide +kernel, rfl⟩
theorem eX6_costOf_4 : Dc cX6_costOf 4 (.sipush 130) 3 7 := ⟨by decide +kernel, rfl⟩
theorem eX6_costOf_7 : Dc cX6_costOf 7 (.iaload) 1 8 := ⟨by decide +kernel, rfl⟩
theorem eX6_costOf_8 : Dc cX6_costOf 8 (.ifCond .ne 10) 3 11 := ⟨by decide +kernel, rfl⟩
theorem eX6_costOf_11 : Dc cX6_costOf 11 (.aload_n 0) 1 12 := ⟨by decide +kernel, rfl⟩
theorem eX6_costOf_12 : Dc cX6_costOf 12 (.iload_n 1) 1 13 := ⟨by decide +kernel, rfl⟩
theorem eX6_costOf_13 : Dc cX6_costOf 13 (.iload_n 2) 1 14 := ⟨by decide +kernel, rfl⟩
theorem eX6_costOf_14 : Dc cX6_costOf 14 (.invokevirtual 84) 3 17 := ⟨by decide +kernel, rfl⟩
theorem eX6_costOf_17 : Dc cX6_costOf 17 (.ireturn) 1 18 := ⟨by decide +kernel, rfl⟩
theorem eX6_costOf_18 : Dc cX6_costOf 18 (.aload_n 0) 1 19 := ⟨by decide +kernel, rfl⟩
theorem eX6_costOf_19 : Dc cX6_costOf 19 (.iload_n 1) 1 20 := ⟨by decide +kernel, rfl⟩
theorem eX6_costOf_20 : Dc cX6_costOf 20 (.iload_n 2) 1 21 := ⟨by decide +kernel, rfl⟩
theorem eX6_costOf_21 : Dc cX6_costOf 21 (.invokevirtual 81) 3 24 := ⟨by decide +kernel, rfl⟩
theorem eX6_costOf_24 : Dc cX6_costOf 24 (.aload_n 0) 1 25 := ⟨by decide +kernel, rfl⟩
theorem eX6_costOf_25 : Dc cX6_costOf 25 (.iload_n 1) 1 26 := ⟨by decide +kernel, rfl⟩
theorem eX6_costOf_26 : Dc cX6_costOf 26 (.iload_n 2) 1 27 := ⟨by decide +kernel, rfl⟩
theorem eX6_costOf_27 : Dc cX6_costOf 27 (.invokevirtual 69) 3 30 := ⟨by decide +kernel, rfl⟩
theorem eX6_costOf_30 : Dc cX6_costOf 30 (.iadd) 1 31 := ⟨by decide +kernel, rfl⟩
theorem eX6_costOf_31 : Dc cX6_costOf 31 (.istore 4) 2 33 := ⟨by decide +kernel, rfl⟩
theorem eX6_costOf_33 : Dc cX6_costOf 33 (.iload_n 3) 1 34 := ⟨by decide +kernel, rfl⟩
theorem eX6_costOf_34 : Dc cX6_costOf 34 (.iload_n 1) 1 35 := ⟨by decide +kernel, rfl⟩
theorem eX6_costOf_35 : Dc cX6_costOf 35 (.if_icmp .ge 27) 3 38 := ⟨by decide +kernel, rfl⟩
theorem eX6_costOf_38 : Dc cX6_costOf 38 (.iload 4) 2 40 := ⟨by decide +kernel, rfl⟩
theorem eX6_costOf_40 : Dc cX6_costOf 40 (.aload_n 0) 1 41 := ⟨by decide +kernel, rfl⟩
theorem eX6_costOf_41 : Dc cX6_costOf 41 (.iload_n 1) 1 42 := ⟨by decide +kernel, rfl⟩
theorem eX6_costOf_42 : Dc cX6_costOf 42 (.iload_n 2) 1 43 := ⟨by decide +kernel, rfl⟩
theorem eX6_costOf_43 : Dc cX6_costOf 43 (.invokevirtual 72) 3 46 := ⟨by decide +kernel, rfl⟩
theorem eX6_costOf_46 : Dc cX6_costOf 46 (.aload_n 0) 1 47 := ⟨by decide +kernel, rfl⟩
theorem eX6_costOf_47 : Dc cX6_costOf 47 (.iload_n 1) 1 48 := ⟨by decide +kernel, rfl⟩
theorem eX6_costOf_48 : Dc cX6_costOf 48 (.iload_n 2) 1 49 := ⟨by decide +kernel, rfl⟩
theorem eX6_costOf_49 : Dc cX6_costOf 49 (.invokevirtual 59) 3 52 := ⟨by decide +kernel, rfl⟩
theorem eX6_costOf_52 : Dc cX6_costOf 52 (.isub) 1 53 := ⟨by decide +kernel, rfl⟩
theorem eX6_costOf_53 : Dc cX6_costOf 53 (.invokestatic 65) 3 56 := ⟨by decide +kernel, rfl⟩
theorem eX6_costOf_56 : Dc cX6_costOf 56 (.iadd) 1 57 := ⟨by decide +kernel, rfl⟩
theorem eX6_costOf_57 : Dc cX6_costOf 57 (.istore 4) 2 59 := ⟨by decide +kernel, rfl⟩
theorem eX6_costOf_59 : Dc cX6_costOf 59 (.goto 29) 3 62 := ⟨by decide +kernel, rfl⟩
theorem eX6_costOf_62 : Dc cX6_costOf 62 (.iload_n 3) 1 63 := ⟨by decide +kernel, rfl⟩
theorem eX6_costOf_63 : Dc cX6_costOf 63 (.iload_n 1) 1 64 := ⟨by decide +kernel, rfl⟩
theorem eX6_costOf_64 : Dc cX6_costOf 64 (.if_icmp .le 24) 3 67 := ⟨by decide +kernel, rfl⟩
theorem eX6_costOf_67 : Dc cX6_costOf 67 (.iload 4) 2 69 := ⟨by decide +kernel, rfl⟩
theorem eX6_costOf_69 : Dc cX6_costOf 69 (.aload_n 0) 1 70 := ⟨by decide +kernel, rfl⟩
theorem eX6_costOf_70 : Dc cX6_costOf 70 (.iload_n 1) 1 71 := ⟨by decide +kernel, rfl⟩
theorem eX6_costOf_71 : Dc cX6_costOf 71 (.iload_n 2) 1 72 := ⟨by decide +kernel, rfl⟩
theorem eX6_costOf_72 : Dc cX6_costOf 72 (.invokevirtual 72) 3 75 := ⟨by decide +kernel, rfl⟩
theorem eX6_costOf_75 : Dc cX6_costOf 75 (.aload_n 0) 1 76 := ⟨by decide +kernel, rfl⟩
theorem eX6_costOf_76 : Dc cX6_costOf 76 (.iload_n 1) 1 77 := ⟨by decide +kernel, rfl⟩
theorem eX6_costOf_77 : Dc cX6_costOf 77 (.iload_n 2) 1 78 := ⟨by decide +kernel, rfl⟩
theorem eX6_costOf_78 : Dc cX6_costOf 78 (.invokevirtual 62) 3 81 := ⟨by decide +kernel, rfl⟩
theorem eX6_costOf_81 : Dc cX6_costOf 81 (.isub) 1 82 := ⟨by decide +kernel, rfl⟩
theorem eX6_costOf_82 : Dc cX6_costOf 82 (.invokestatic 65) 3 85 := ⟨by decide +kernel, rfl⟩
theorem eX6_costOf_85 : Dc cX6_costOf 85 (.iadd) 1 86 := ⟨by decide +kernel, rfl⟩
theorem eX6_costOf_86 : Dc cX6_costOf 86 (.istore 4) 2 88 := ⟨by decide +kernel, rfl⟩
theorem eX6_costOf_88 : Dc cX6_costOf 88 (.iload 4) 2 90 := ⟨by decide +kernel, rfl⟩
theorem eX6_costOf_90 : Dc cX6_costOf 90 (.ireturn) 1 91 := ⟨by decide +kernel, rfl⟩
theorem eX6_nextFrom_0 : Dc cX6_nextFrom 0 (.bipush (-6)) 2 2 := ⟨by decide +kernel, rfl⟩
theorem eX6_nextFrom_2 : Dc cX6_nextFrom 2 (.istore_n 3) 1 3 := ⟨by decide +kernel, rfl⟩
theorem eX6_nextFrom_3 : Dc cX6_nextFrom 3 (.iconst 0) 1 4 := ⟨by decide +kernel, rfl⟩
theorem eX6_nextFrom_4 : Dc cX6_nextFrom 4 (.istore 4) 2 6 := ⟨by decide +kernel, rfl⟩
theorem eX6_nextFrom_6 : Dc cX6_nextFrom 6 (.iload_n 1) 1 7 := ⟨by decide +kernel, rfl⟩
theorem eX6_nextFrom_7 : Dc cX6_nextFrom 7 (.ifCond .le 9) 3 10 := ⟨by decide +kernel, rfl⟩
theorem eX6_nextFrom_10 : Dc cX6_nextFrom 10 (.iload_n 1) 1 11 := ⟨by decide +kernel, rfl⟩
theorem eX6_nextFrom_11 : Dc cX6_nextFrom 11 (.iconst 1) 1 12 := ⟨by decide +kernel, rfl⟩
theorem eX6_nextFrom_12 : Dc cX6_nextFrom 12 (.isub) 1 13 := ⟨by decide +kernel, rfl⟩
theorem eX6_nextFrom_13 : Dc cX6_nextFrom 13 (.goto 4) 3 16 := ⟨by decide +kernel, rfl⟩
theorem eX6_nextFrom_16 : Dc cX6_nextFrom 16 (.iconst 0) 1 17 := ⟨by decide +kernel, rfl⟩
theorem eX6_nextFrom_17 : Dc cX6_nextFrom 17 (.istore 5) 2 19 := ⟨by decide +kernel, rfl⟩
theorem eX6_nextFrom_19 : Dc cX6_nextFrom 19 (.iload 5) 2 21 := ⟨by decide +kernel, rfl⟩
theorem eX6_nextFrom_21 : Dc cX6_nextFrom 21 (.iload_n 1) 1 22 := ⟨by decide +kernel, rfl⟩
theorem eX6_nextFrom_22 : Dc cX6_nextFrom 22 (.iconst 1) 1 23 := ⟨by decide +kernel, rfl⟩
theorem eX6_nextFrom_23 : Dc cX6_nextFrom 23 (.iadd) 1 24 := ⟨by decide +kernel, rfl⟩
theorem eX6_nextFrom_24 : Dc cX6_nextFrom 24 (.if_icmp .gt 58) 3 27 := ⟨by decide +kernel, rfl⟩
theorem eX6_nextFrom_27 : Dc cX6_nextFrom 27 (.iload 5) 2 29 := ⟨by decide +kernel, rfl⟩
theorem eX6_nextFrom_29 : Dc cX6_nextFrom 29 (.aload_n 0) 1 30 := ⟨by decide +kernel, rfl⟩
theorem eX6_nextFrom_30 : Dc cX6_nextFrom 30 (.getfield 45) 3 33 := ⟨by decide +kernel, rfl⟩
theorem eX6_nextFrom_33 : Dc cX6_nextFrom 33 (.if_icmp .ge 49) 3 36 := ⟨by decide +kernel, rfl⟩
theorem eX6_nextFrom_36 : Dc cX6_nextFrom 36 (.aload_n 0) 1 37 := ⟨by decide +kernel, rfl⟩
theorem eX6_nextFrom_37 : Dc cX6_nextFrom 37 (.iload 5) 2 39 := ⟨by decide +kernel, rfl⟩
theorem eX6_nextFrom_39 : Dc cX6_nextFrom 39 (.iload_n 2) 1 40 := ⟨by decide +kernel, rfl⟩
theorem eX6_nextFrom_40 : Dc cX6_nextFrom 40 (.iload_n 1) 1 41 := ⟨by decide +kernel, rfl⟩
theorem eX6_nextFrom_41 : Dc cX6_nextFrom 41 (.invokevirtual 87) 3 44 := ⟨by decide +kernel, rfl⟩
theorem eX6_nextFrom_44 : Dc cX6_nextFrom 44 (.aload_n 0) 1 45 := ⟨by decide +kernel, rfl⟩
theorem eX6_nextFrom_45 : Dc cX6_nextFrom 45 (.getfield 29) 3 48 := ⟨by decide +kernel, rfl⟩
theorem eX6_nextFrom_48 : Dc cX6_nextFrom 48 (.iload 5) 2 50 := ⟨by decide +kernel, rfl⟩
theorem eX6_nextFrom_50 : Dc cX6_nextFrom 50 (.iload_n 2) 1 51 := ⟨by decide +kernel, rfl⟩
theorem eX6_nextFrom_51 : Dc cX6_nextFrom 51 (.invokestatic 52) 3 54 := ⟨by decide +kernel, rfl⟩
theorem eX6_nextFrom_54 : Dc cX6_nextFrom 54 (.iaload) 1 55 := ⟨by decide +kernel, rfl⟩
theorem eX6_nextFrom_55 : Dc cX6_nextFrom 55 (.iadd) 1 56 := ⟨by decide +kernel, rfl⟩
theorem eX6_nextFrom_56 : Dc cX6_nextFrom 56 (.istore 6) 2 58 := ⟨by decide +kernel, rfl⟩
theorem eX6_nextFrom_58 : Dc cX6_nextFrom 58 (.iload_n 3) 1 59 := ⟨by decide +kernel, rfl⟩
theorem eX6_nextFrom_59 : Dc cX6_nextFrom 59 (.ifCond .lt 10) 3 62 := ⟨by decide +kernel, rfl⟩
theorem eX6_nextFrom_62 : Dc cX6_nextFrom 62 (.iload 6) 2 64 := ⟨by decide +kernel, rfl⟩
theorem eX6_nextFrom_64 : Dc cX6_nextFrom 64 (.iload 4) 2 66 := ⟨by decide +kernel, rfl⟩
theorem eX6_nextFrom_66 : Dc cX6_nextFrom 66 (.if_icmp .ge 10) 3 69 := ⟨by decide +kernel, rfl⟩
theorem eX6_nextFrom_69 : Dc cX6_nextFrom 69 (.iload 5) 2 71 := ⟨by decide +kernel, rfl⟩
theorem eX6_nextFrom_71 : Dc cX6_nextFrom 71 (.istore_n 3) 1 72 := ⟨by decide +kernel, rfl⟩
theorem eX6_nextFrom_72 : Dc cX6_nextFrom 72 (.iload 6) 2 74 := ⟨by decide +kernel, rfl⟩
theorem eX6_nextFrom_74 : Dc cX6_nextFrom 74 (.istore 4) 2 76 := ⟨by decide +kernel, rfl⟩
theorem eX6_nextFrom_76 : Dc cX6_nextFrom 76 (.iinc 5 1) 3 79 := ⟨by decide +kernel, rfl⟩
theorem eX6_nextFrom_79 : Dc cX6_nextFrom 79 (.goto (-60)) 3 82 := ⟨by decide +kernel, rfl⟩
theorem eX6_nextFrom_82 : Dc cX6_nextFrom 82 (.iload_n 3) 1 83 := ⟨by decide +kernel, rfl⟩
theorem eX6_nextFrom_83 : Dc cX6_nextFrom 83 (.ireturn) 1 84 := ⟨by decide +kernel, rfl⟩
theorem eX6_laySeam_0 : Dc cX6_laySeam 0 (.iconst 0) 1 1 := ⟨by decide +kernel, rfl⟩
theorem eX6_laySeam_1 : Dc cX6_laySeam 1 (.istore_n 1) 1 2 := ⟨by decide +kernel, rfl⟩
theorem eX6_laySeam_2 : Dc cX6_laySeam 2 (.iload_n 1) 1 3 := ⟨by decide +kernel, rfl⟩
theorem eX6_laySeam_3 : Dc cX6_laySeam 3 (.aload_n 0) 1 4 := ⟨by decide +kernel, rfl⟩
theorem eX6_laySeam_4 : Dc cX6_laySeam 4 (.getfield 45) 3 7 := ⟨by decide +kernel, rfl⟩
theorem eX6_laySeam_7 : Dc cX6_laySeam 7 (.if_icmp .ge 25) 3 10 := ⟨by decide +kernel, rfl⟩
theorem eX6_laySeam_10 : Dc cX6_laySeam 10 (.aload_n 0) 1 11 := ⟨by decide +kernel, rfl⟩
theorem eX6_laySeam_11 : Dc cX6_laySeam 11 (.getfield 29) 3 14 := ⟨by decide +kernel, rfl⟩
theorem eX6_laySeam_14 : Dc cX6_laySeam 14 (.iload_n 1) 1 15 := ⟨by decide +kernel, rfl⟩
theorem eX6_laySeam_15 : Dc cX6_laySeam 15 (.aload_n 0) 1 16 := ⟨by decide +kernel, rfl⟩
theorem eX6_laySeam_16 : Dc cX6_laySeam 16 (.getfield 49) 3 19 := ⟨by decide +kernel, rfl⟩
theorem eX6_laySeam_19 : Dc cX6_laySeam 19 (.iconst 1) 1 20 := ⟨by decide +kernel, rfl⟩
theorem eX6_laySeam_20 : Dc cX6_laySeam 20 (.isub) 1 21 := ⟨by decide +kernel, rfl⟩
theorem eX6_laySeam_21 : Dc cX6_laySeam 21 (.invokestatic 52) 3 24 := ⟨by decide +kernel, rfl⟩
theorem eX6_laySeam_24 : Dc cX6_laySeam 24 (.iconst 0) 1 25 := ⟨by decide +kernel, rfl⟩
theorem eX6_laySeam_25 : Dc cX6_laySeam 25 (.iastore) 1 26 := ⟨by decide +kernel, rfl⟩
theorem eX6_laySeam_26 : Dc cX6_laySeam 26 (.iinc 1 1) 3 29 := ⟨by decide +kernel, rfl⟩
theorem eX6_laySeam_29 : Dc cX6_laySeam 29 (.goto (-27)) 3 32 := ⟨by decide +kernel, rfl⟩
theorem eX6_laySeam_32 : Dc cX6_laySeam 32 (.aload_n 0) 1 33 := ⟨by decide +kernel, rfl⟩
theorem eX6_laySeam_33 : Dc cX6_laySeam 33 (.getfield 49) 3 36 := ⟨by decide +kernel, rfl⟩
theorem eX6_laySeam_36 : Dc cX6_laySeam 36 (.iconst 2) 1 37 := ⟨by decide +kernel, rfl⟩
theorem eX6_laySeam_37 : Dc cX6_laySeam 37 (.isub) 1 38 := ⟨by decide +kernel, rfl⟩
theorem eX6_laySeam_38 : Dc cX6_laySeam 38 (.istore_n 1) 1 39 := ⟨by decide +kernel, rfl⟩
theorem eX6_laySeam_39 : Dc cX6_laySeam 39 (.iload_n 1) 1 40 := ⟨by decide +kernel, rfl⟩
theorem eX6_laySeam_40 : Dc cX6_laySeam 40 (.ifCond .lt 66) 3 43 := ⟨by decide +kernel, rfl⟩
theorem eX6_laySeam_43 : Dc cX6_laySeam 43 (.iconst 0) 1 44 := ⟨by decide +kernel, rfl⟩
theorem eX6_laySeam_44 : Dc cX6_laySeam 44 (.istore_n 2) 1 45 := ⟨by decide +kernel, rfl⟩
theorem eX6_laySeam_45 : Dc cX6_laySeam 45 (.iload_n 2) 1 46 := ⟨by decide +kernel, rfl⟩
theorem eX6_laySeam_46 : Dc cX6_laySeam 46 (.aload_n 0) 1 47 := ⟨by decide +kernel, rfl⟩
theorem eX6_laySeam_47 : Dc cX6_laySeam 47 (.getfield 45) 3 50 := ⟨by decide +kernel, rfl⟩
theorem eX6_laySeam_50 : Dc cX6_laySeam 50 (.if_icmp .ge 50) 3 53 := ⟨by decide +kernel, rfl⟩
theorem eX6_laySeam_53 : Dc cX6_laySeam 53 (.aload_n 0) 1 54 := ⟨by decide +kernel, rfl⟩
theorem eX6_laySeam_54 : Dc cX6_laySeam 54 (.iload_n 2) 1 55 := ⟨by decide +kernel, rfl⟩
theorem eX6_laySeam_55 : Dc cX6_laySeam 55 (.iload_n 1) 1 56 := ⟨by decide +kernel, rfl⟩
theorem eX6_laySeam_56 : Dc cX6_laySeam 56 (.iconst 1) 1 57 := ⟨by decide +kernel, rfl⟩
theorem eX6_laySeam_57 : Dc cX6_laySeam 57 (.iadd) 1 58 := ⟨by decide +kernel, rfl⟩
theorem eX6_laySeam_58 : Dc cX6_laySeam 58 (.invokevirtual 91) 3 61 := ⟨by decide +kernel, rfl⟩
theorem eX6_laySeam_61 : Dc cX6_laySeam 61 (.istore_n 3) 1 62 := ⟨by decide +kernel, rfl⟩
theorem eX6_laySeam_62 : Dc cX6_laySeam 62 (.aload_n 0) 1 63 := ⟨by decide +kernel, rfl⟩
theorem eX6_laySeam_63 : Dc cX6_laySeam 63 (.getfield 29) 3 66 := ⟨by decide +kernel, rfl⟩
theorem eX6_laySeam_66 : Dc cX6_laySeam 66 (.iload_n 2) 1 67 := ⟨by decide +kernel, rfl⟩
theorem eX6_laySeam_67 : Dc cX6_laySeam 67 (.iload_n 1) 1 68 := ⟨by decide +kernel, rfl⟩
theorem eX6_laySeam_68 : Dc cX6_laySeam 68 (.invokestatic 52) 3 71 := ⟨by decide +kernel, rfl⟩
theorem eX6_laySeam_71 : Dc cX6_laySeam 71 (.aload_n 0) 1 72 := ⟨by decide +kernel, rfl⟩
theorem eX6_laySeam_72 : Dc cX6_laySeam 72 (.iload_n 3) 1 73 := ⟨by decide +kernel, rfl⟩
theorem eX6_laySeam_73 : Dc cX6_laySeam 73 (.iload_n 1) 1 74 := ⟨by decide +kernel, rfl⟩
theorem eX6_laySeam_74 : Dc cX6_laySeam 74 (.iconst 1) 1 75 := ⟨by decide +kernel, rfl⟩
theorem eX6_laySeam_75 : Dc cX6_laySeam 75 (.iadd) 1 76 := ⟨by decide +kernel, rfl⟩
theorem eX6_laySeam_76 : Dc cX6_laySeam 76 (.iload_n 2) 1 77 := ⟨by decide +kernel, rfl⟩
theorem eX6_laySeam_77 : Dc cX6_laySeam 77 (.invokevirtual 87) 3 80 := ⟨by decide +kernel, rfl⟩
theorem eX6_laySeam_80 : Dc cX6_laySeam 80 (.aload_n 0) 1 81 := ⟨by decide +kernel, rfl⟩
theorem eX6_laySeam_81 : Dc cX6_laySeam 81 (.getfield 29) 3 84 := ⟨by decide +kernel, rfl⟩
theorem eX6_laySeam_84 : Dc cX6_laySeam 84 (.iload_n 3) 1 85 := ⟨by decide +kernel, rfl⟩
theorem eX6_laySeam_85 : Dc cX6_laySeam 85 (.iload_n 1) 1 86 := ⟨by decide +kernel, rfl⟩
theorem eX6_laySeam_86 : Dc cX6_laySeam 86 (.iconst 1) 1 87 := ⟨by decide +kernel, rfl⟩
theorem eX6_laySeam_87 : Dc cX6_laySeam 87 (.iadd) 1 88 := ⟨by decide +kernel, rfl⟩
theorem eX6_laySeam_88 : Dc cX6_laySeam 88 (.invokestatic 52) 3 91 := ⟨by decide +kernel, rfl⟩
theorem eX6_laySeam_91 : Dc cX6_laySeam 91 (.iaload) 1 92 := ⟨by decide +kernel, rfl⟩
theorem eX6_laySeam_92 : Dc cX6_laySeam 92 (.iadd) 1 93 := ⟨by decide +kernel, rfl⟩
theorem eX6_laySeam_93 : Dc cX6_laySeam 93 (.iastore) 1 94 := ⟨by decide +kernel, rfl⟩
theorem eX6_laySeam_94 : Dc cX6_laySeam 94 (.iinc 2 1) 3 97 := ⟨by decide +kernel, rfl⟩
theorem eX6_laySeam_97 : Dc cX6_laySeam 97 (.goto (-52)) 3 100 := ⟨by decide +kernel, rfl⟩
theorem eX6_laySeam_100 : Dc cX6_laySeam 100 (.iinc 1 (-1)) 3 103 := ⟨by decide +kernel, rfl⟩
theorem eX6_laySeam_103 : Dc cX6_laySeam 103 (.goto (-64)) 3 106 := ⟨by decide +kernel, rfl⟩
theorem eX6_laySeam_106 : Dc cX6_laySeam 106 (.iconst 0) 1 107 := ⟨by decide +kernel, rfl⟩
theorem eX6_laySeam_107 : Dc cX6_laySeam 107 (.istore_n 1) 1 108 := ⟨by decide +kernel, rfl⟩
theorem eX6_laySeam_108 : Dc cX6_laySeam 108 (.iconst 1) 1 109 := ⟨by decide +kernel, rfl⟩
theorem eX6_laySeam_109 : Dc cX6_laySeam 109 (.istore_n 2) 1 110 := ⟨by decide +kernel, rfl⟩
theorem eX6_laySeam_110 : Dc cX6_laySeam 110 (.iload_n 2) 1 111 := ⟨by decide +kernel, rfl⟩
theorem eX6_laySeam_111 : Dc cX6_laySeam 111 (.aload_n 0) 1 112 := ⟨by decide +kernel, rfl⟩
theorem eX6_laySeam_112 : Dc cX6_laySeam 112 (.getfield 45) 3 115 := ⟨by decide +kernel, rfl⟩
theorem eX6_laySeam_115 : Dc cX6_laySeam 115 (.if_icmp .ge 54) 3 118 := ⟨by decide +kernel, rfl⟩
theorem eX6_laySeam_118 : Dc cX6_laySeam 118 (.aload_n 0) 1 119 := ⟨by decide +kernel, rfl⟩
theorem eX6_laySeam_119 : Dc cX6_laySeam 119 (.iload_n 2) 1 120 := ⟨by decide +kernel, rfl⟩
theorem eX6_laySeam_120 : Dc cX6_laySeam 120 (.iconst 0) 1 121 := ⟨by decide +kernel, rfl⟩
theorem eX6_laySeam_121 : Dc cX6_laySeam 121 (.iload_n 2) 1 122 := ⟨by decide +kernel, rfl⟩
theorem eX6_laySeam_122 : Dc cX6_laySeam 122 (.invokevirtual 87) 3 125 := ⟨by decide +kernel, rfl⟩
theorem eX6_laySeam_125 : Dc cX6_laySeam 125 (.aload_n 0) 1 126 := ⟨by decide +kernel, rfl⟩
theorem eX6_laySeam_126 : Dc cX6_laySeam 126 (.getfield 29) 3 129 := ⟨by decide +kernel, rfl⟩
theorem eX6_laySeam_129 : Dc cX6_laySeam 129 (.iload_n 2) 1 130 := ⟨by decide +kernel, rfl⟩
theorem eX6_laySeam_130 : Dc cX6_laySeam 130 (.iconst 0) 1 131 := ⟨by decide +kernel, rfl⟩
theorem eX6_laySeam_131 : Dc cX6_laySeam 131 (.invokestatic 52) 3 134 := ⟨by decide +kernel, rfl⟩
theorem eX6_laySeam_134 : Dc cX6_laySeam 134 (.iaload) 1 135 := ⟨by decide +kernel, rfl⟩
theorem eX6_laySeam_135 : Dc cX6_laySeam 135 (.iadd) 1 136 := ⟨by decide +kernel, rfl⟩
theorem eX6_laySeam_136 : Dc cX6_laySeam 136 (.aload_n 0) 1 137 := ⟨by decide +kernel, rfl⟩
theorem eX6_laySeam_137 : Dc cX6_laySeam 137 (.iload_n 1) 1 138 := ⟨by decide +kernel, rfl⟩
theorem eX6_laySeam_138 : Dc cX6_laySeam 138 (.iconst 0) 1 139 := ⟨by decide +kernel, rfl⟩
theorem eX6_laySeam_139 : Dc cX6_laySeam 139 (.iload_n 1) 1 140 := ⟨by decide +kernel, rfl⟩
theorem eX6_laySeam_140 : Dc cX6_laySeam 140 (.invokevirtual 87) 3 143 := ⟨by decide +kernel, rfl⟩
theorem eX6_laySeam_143 : Dc cX6_laySeam 143 (.aload_n 0) 1 144 := ⟨by decide +kernel, rfl⟩
theorem eX6_laySeam_144 : Dc cX6_laySeam 144 (.getfield 29) 3 147 := ⟨by decide +kernel, rfl⟩
theorem eX6_laySeam_147 : Dc cX6_laySeam 147 (.iload_n 1) 1 148 := ⟨by decide +kernel, rfl⟩
theorem eX6_laySeam_148 : Dc cX6_laySeam 148 (.iconst 0) 1 149 := ⟨by decide +kernel, rfl⟩
theorem eX6_laySeam_149 : Dc cX6_laySeam 149 (.invokestatic 52) 3 152 := ⟨by decide +kernel, rfl⟩
theorem eX6_laySeam_152 : Dc cX6_laySeam 152 (.iaload) 1 153 := ⟨by decide +kernel, rfl⟩
theorem eX6_laySeam_153 : Dc cX6_laySeam 153 (.iadd) 1 154 := ⟨by decide +kernel, rfl⟩
theorem eX6_laySeam_154 : Dc cX6_laySeam 154 (.if_icmp .ge 7) 3 157 := ⟨by decide +kernel, rfl⟩
theorem eX6_laySeam_157 : Dc cX6_laySeam 157 (.iload_n 2) 1 158 := ⟨by decide +kernel, rfl⟩
theorem eX6_laySeam_158 : Dc cX6_laySeam 158 (.goto 4) 3 161 := ⟨by decide +kernel, rfl⟩
theorem eX6_laySeam_161 : Dc cX6_laySeam 161 (.iload_n 1) 1 162 := ⟨by decide +kernel, rfl⟩
theorem eX6_laySeam_162 : Dc cX6_laySeam 162 (.istore_n 1) 1 163 := ⟨by decide +kernel, rfl⟩
theorem eX6_laySeam_163 : Dc cX6_laySeam 163 (.iinc 2 1) 3 166 := ⟨by decide +kernel, rfl⟩
theorem eX6_laySeam_166 : Dc cX6_laySeam 166 (.goto (-56)) 3 169 := ⟨by decide +kernel, rfl⟩
theorem eX6_laySeam_169 : Dc cX6_laySeam 169 (.aload_n 0) 1 170 := ⟨by decide +kernel, rfl⟩
theorem eX6_laySeam_170 : Dc cX6_laySeam 170 (.aload_n 0) 1 171 := ⟨by decide +kernel, rfl⟩
theorem eX6_laySeam_171 : Dc cX6_laySeam 171 (.iload_n 1) 1 172 := ⟨by decide +kernel, rfl⟩
theorem eX6_laySeam_172 : Dc cX6_laySeam 172 (.iconst 0) 1 173 := ⟨by decide +kernel, rfl⟩
theorem eX6_laySeam_173 : Dc cX6_laySeam 173 (.iload_n 1) 1 174 := ⟨by decide +kernel, rfl⟩
theorem eX6_laySeam_174 : Dc cX6_laySeam 174 (.invokevirtual 87) 3 177 := ⟨by decide +kernel, rfl⟩
theorem eX6_laySeam_177 : Dc cX6_laySeam 177 (.aload_n 0) 1 178 := ⟨by decide +kernel, rfl⟩
theorem eX6_laySeam_178 : Dc cX6_laySeam 178 (.getfield 29) 3 181 := ⟨by decide +kernel, rfl⟩
theorem eX6_laySeam_181 : Dc cX6_laySeam 181 (.iload_n 1) 1 182 := ⟨by decide +kernel, rfl⟩
theorem eX6_laySeam_182 : Dc cX6_laySeam 182 (.iconst 0) 1 183 := ⟨by decide +kernel, rfl⟩
theorem eX6_laySeam_183 : Dc cX6_laySeam 183 (.invokestatic 52) 3 186 := ⟨by decide +kernel, rfl⟩
theorem eX6_laySeam_186 : Dc cX6_laySeam 186 (.iaload) 1 187 := ⟨by decide +kernel, rfl⟩
theorem eX6_laySeam_187 : Dc cX6_laySeam 187 (.iadd) 1 188 := ⟨by decide +kernel, rfl⟩
theorem eX6_laySeam_188 : Dc cX6_laySeam 188 (.putfield 94) 3 191 := ⟨by decide +kernel, rfl⟩
theorem eX6_laySeam_191 : Dc cX6_laySeam 191 (.aload_n 0) 1 192 := ⟨by decide +kernel, rfl⟩
theorem eX6_laySeam_192 : Dc cX6_laySeam 192 (.getfield 32) 3 195 := ⟨by decide +kernel, rfl⟩
theorem eX6_laySeam_195 : Dc cX6_laySeam 195 (.iconst 0) 1 196 := ⟨by decide +kernel, rfl⟩
theorem eX6_laySeam_196 : Dc cX6_laySeam 196 (.iload_n 1) 1 197 := ⟨by decide +kernel, rfl⟩
theorem eX6_laySeam_197 : Dc cX6_laySeam 197 (.iastore) 1 198 := ⟨by decide +kernel, rfl⟩
theorem eX6_laySeam_198 : Dc cX6_laySeam 198 (.iconst 1) 1 199 := ⟨by decide +kernel, rfl⟩
theorem eX6_laySeam_199 : Dc cX6_laySeam 199 (.istore_n 2) 1 200 := ⟨by decide +kernel, rfl⟩
theorem eX6_laySeam_200 : Dc cX6_laySeam 200 (.iload_n 2) 1 201 := ⟨by decide +kernel, rfl⟩
theorem eX6_laySeam_201 : Dc cX6_laySeam 201 (.aload_n 0) 1 202 := ⟨by decide +kernel, rfl⟩
theorem eX6_laySeam_202 : Dc cX6_laySeam 202 (.getfield 49) 3 205 := ⟨by decide +kernel, rfl⟩
theorem eX6_laySeam_205 : Dc cX6_laySeam 205 (.if_icmp .ge 28) 3 208 := ⟨by decide +kernel, rfl⟩
theorem eX6_laySeam_208 : Dc cX6_laySeam 208 (.aload_n 0) 1 209 := ⟨by decide +kernel, rfl⟩
theorem eX6_laySeam_209 : Dc cX6_laySeam 209 (.getfield 32) 3 212 := ⟨by decide +kernel, rfl⟩
theorem eX6_laySeam_212 : Dc cX6_laySeam 212 (.iload_n 2) 1 213 := ⟨by decide +kernel, rfl⟩
theorem eX6_laySeam_213 : Dc cX6_laySeam 213 (.aload_n 0) 1 214 := ⟨by decide +kernel, rfl⟩
theorem eX6_laySeam_214 : Dc cX6_laySeam 214 (.aload_n 0) 1 215 := ⟨by decide +kernel, rfl⟩
theorem eX6_laySeam_215 : Dc cX6_laySeam 215 (.getfield 32) 3 218 := ⟨by decide +kernel, rfl⟩
theorem eX6_laySeam_218 : Dc cX6_laySeam 218 (.iload_n 2) 1 219 := ⟨by decide +kernel, rfl⟩
theorem eX6_laySeam_219 : Dc cX6_laySeam 219 (.iconst 1) 1 220 := ⟨by decide +kernel, rfl⟩
theorem eX6_laySeam_220 : Dc cX6_laySeam 220 (.isub) 1 221 := ⟨by decide +kernel, rfl⟩
theorem eX6_laySeam_221 : Dc cX6_laySeam 221 (.iaload) 1 222 := ⟨by decide +kernel, rfl⟩
theorem eX6_laySeam_222 : Dc cX6_laySeam 222 (.iload_n 2) 1 223 := ⟨by decide +kernel, rfl⟩
theorem eX6_laySeam_223 : Dc cX6_laySeam 223 (.invokevirtual 91) 3 226 := ⟨by decide +kernel, rfl⟩
theorem eX6_laySeam_226 : Dc cX6_laySeam 226 (.iastore) 1 227 := ⟨by decide +kernel, rfl⟩
theorem eX6_laySeam_227 : Dc cX6_laySeam 227 (.iinc 2 1) 3 230 := ⟨by decide +kernel, rfl⟩
theorem eX6_laySeam_230 : Dc cX6_laySeam 230 (.goto (-30)) 3 233 := ⟨by decide +kernel, rfl⟩
theorem eX6_laySeam_233 : Dc cX6_laySeam 233 (.return_) 1 234 := ⟨by decide +kernel, rfl⟩
end
section
theorem eX6_layWay_0 : Dc cX6_layWay 0 (.iload_n 1) 1 1 := ⟨by decide +kernel, rfl⟩
theorem eX6_layWay_1 : Dc cX6_layWay 1 (.iconst 1) 1 2 := ⟨by decide +kernel, rfl⟩
theorem eX6_layWay_2 : Dc cX6_layWay 2 (.if_icmp .ne 7) 3 5 := ⟨by decide +kernel, rfl⟩
theorem eX6_layWay_5 : Dc cX6_layWay 5 (.aload_n 0) 1 6 := ⟨by decide +kernel, rfl⟩
theorem eX6_layWay_6 : Dc cX6_layWay 6 (.invokevirtual 97) 3 9 := ⟨by decide +kernel, rfl⟩
theorem eX6_layWay_9 : Dc cX6_layWay 9 (.aload_n 0) 1 10 := ⟨by decide +kernel, rfl⟩
theorem eX6_layWay_10 : Dc cX6_layWay 10 (.invokevirtual 100) 3 13 := ⟨by decide +kernel, rfl⟩
theorem eX6_layWay_13 : Dc cX6_layWay 13 (.return_) 1 14 := ⟨by decide +kernel, rfl⟩
theorem eX6_leaveWay_0 : Dc cX6_leaveWay 0 (.iload_n 1) 1 1 := ⟨by decide +kernel, rfl⟩
theorem eX6_leaveWay_1 : Dc cX6_leaveWay 1 (.iconst 1) 1 2 := ⟨by decide +kernel, rfl⟩
theorem eX6_leaveWay_2 : Dc cX6_leaveWay 2 (.if_icmp .ne 7) 3 5 := ⟨by decide +kernel, rfl⟩
theorem eX6_leaveWay_5 : Dc cX6_leaveWay 5 (.aload_n 0) 1 6 := ⟨by decide +kernel, rfl⟩
theorem eX6_leaveWay_6 : Dc cX6_leaveWay 6 (.invokevirtual 97) 3 9 := ⟨by decide +kernel, rfl⟩
theorem eX6_leaveWay_9 : Dc cX6_leaveWay 9 (.return_) 1 10 := ⟨by decide +kernel, rfl⟩
theorem eX6_move_0 : Dc cX6_move 0 (.aload_n 0) 1 1 := ⟨by decide +kernel, rfl⟩
theorem eX6_move_1 : Dc cX6_move 1 (.getfield 23) 3 4 := ⟨by decide +kernel, rfl⟩
theorem eX6_move_4 : Dc cX6_move 4 (.iload_n 3) 1 5 := ⟨by decide +kernel, rfl⟩
theorem eX6_move_5 : Dc cX6_move 5 (.iload_n 1) 1 6 := ⟨by decide +kernel, rfl⟩
theorem eX6_move_6 : Dc cX6_move 6 (.invokestatic 52) 3 9 := ⟨by decide +kernel, rfl⟩
theorem eX6_move_9 : Dc cX6_move 9 (.aload_n 0) 1 10 := ⟨by decide +kernel, rfl⟩
theorem eX6_move_10 : Dc cX6_move 10 (.getfield 23) 3 13 := ⟨by decide +kernel, rfl⟩
theorem eX6_move_13 : Dc cX6_move 13 (.iload_n 2) 1 14 := ⟨by decide +kernel, rfl⟩
theorem eX6_move_14 : Dc cX6_move 14 (.iload_n 1) 1 15 := ⟨by decide +kernel, rfl⟩
theorem eX6_move_15 : Dc cX6_move 15 (.invokestatic 52) 3 18 := ⟨by decide +kernel, rfl⟩
theorem eX6_move_18 : Dc cX6_move 18 (.iaload) 1 19 := ⟨by decide +kernel, rfl⟩
theorem eX6_move_19 : Dc cX6_move 19 (.iastore) 1 20 := ⟨by decide +kernel, rfl⟩
theorem eX6_move_20 : Dc cX6_move 20 (.aload_n 0) 1 21 := ⟨by decide +kernel, rfl⟩
theorem eX6_move_21 : Dc cX6_move 21 (.getfield 26) 3 24 := ⟨by decide +kernel, rfl⟩
theorem eX6_move_24 : Dc cX6_move 24 (.iload_n 3) 1 25 := ⟨by decide +kernel, rfl⟩
theorem eX6_move_25 : Dc cX6_move 25 (.iload_n 1) 1 26 := ⟨by decide +kernel, rfl⟩
theorem eX6_move_26 : Dc cX6_move 26 (.invokestatic 52) 3 29 := ⟨by decide +kernel, rfl⟩
theorem eX6_move_29 : Dc cX6_move 29 (.aload_n 0) 1 30 := ⟨by decide +kernel, rfl⟩
theorem eX6_move_30 : Dc cX6_move 30 (.getfield 26) 3 33 := ⟨by decide +kernel, rfl⟩
theorem eX6_move_33 : Dc cX6_move 33 (.iload_n 2) 1 34 := ⟨by decide +kernel, rfl⟩
theorem eX6_move_34 : Dc cX6_move 34 (.iload_n 1) 1 35 := ⟨by decide +kernel, rfl⟩
theorem eX6_move_35 : Dc cX6_move 35 (.invokestatic 52) 3 38 := ⟨by decide +kernel, rfl⟩
theorem eX6_move_38 : Dc cX6_move 38 (.iaload) 1 39 := ⟨by decide +kernel, rfl⟩
theorem eX6_move_39 : Dc cX6_move 39 (.iastore) 1 40 := ⟨by decide +kernel, rfl⟩
theorem eX6_move_40 : Dc cX6_move 40 (.return_) 1 41 := ⟨by decide +kernel, rfl⟩
theorem eX6_cutSeam_0 : Dc cX6_cutSeam 0 (.iconst 0) 1 1 := ⟨by decide +kernel, rfl⟩
theorem eX6_cutSeam_1 : Dc cX6_cutSeam 1 (.istore_n 1) 1 2 := ⟨by decide +kernel, rfl⟩
theorem eX6_cutSeam_2 : Dc cX6_cutSeam 2 (.iload_n 1) 1 3 := ⟨by decide +kernel, rfl⟩
theorem eX6_cutSeam_3 : Dc cX6_cutSeam 3 (.aload_n 0) 1 4 := ⟨by decide +kernel, rfl⟩
theorem eX6_cutSeam_4 : Dc cX6_cutSeam 4 (.getfield 49) 3 7 := ⟨by decide +kernel, rfl⟩
theorem eX6_cutSeam_7 : Dc cX6_cutSeam 7 (.if_icmp .ge 74) 3 10 := ⟨by decide +kernel, rfl⟩
theorem eX6_cutSeam_10 : Dc cX6_cutSeam 10 (.aload_n 0) 1 11 := ⟨by decide +kernel, rfl⟩
theorem eX6_cutSeam_11 : Dc cX6_cutSeam 11 (.dup) 1 12 := ⟨by decide +kernel, rfl⟩
theorem eX6_cutSeam_12 : Dc cX6_cutSeam 12 (.getfield 103) 3 15 := ⟨by decide +kernel, rfl⟩
theorem eX6_cutSeam_15 : Dc cX6_cutSeam 15 (.aload_n 0) 1 16 := ⟨by decide +kernel, rfl⟩
theorem eX6_cutSeam_16 : Dc cX6_cutSeam 16 (.getfield 26) 3 19 := ⟨by decide +kernel, rfl⟩
theorem eX6_cutSeam_19 : Dc cX6_cutSeam 19 (.aload_n 0) 1 20 := ⟨by decide +kernel, rfl⟩
theorem eX6_cutSeam_20 : Dc cX6_cutSeam 20 (.getfield 32) 3 23 := ⟨by decide +kernel, rfl⟩
theorem eX6_cutSeam_23 : Dc cX6_cutSeam 23 (.iload_n 1) 1 24 := ⟨by decide +kernel, rfl⟩
theorem eX6_cutSeam_24 : Dc cX6_cutSeam 24 (.iaload) 1 25 := ⟨by decide +kernel, rfl⟩
theorem eX6_cutSeam_25 : Dc cX6_cutSeam 25 (.iload_n 1) 1 26 := ⟨by decide +kernel, rfl⟩
theorem eX6_cutSeam_26 : Dc cX6_cutSeam 26 (.invokestatic 52) 3 29 := ⟨by decide +kernel, rfl⟩
theorem eX6_cutSeam_29 : Dc cX6_cutSeam 29 (.iaload) 1 30 := ⟨by decide +kernel, rfl⟩
theorem eX6_cutSeam_30 : Dc cX6_cutSeam 30 (.iconst 1) 1 31 := ⟨by decide +kernel, rfl⟩
theorem eX6_cutSeam_31 : Dc cX6_cutSeam 31 (.if_icmp .ne 7) 3 34 := ⟨by decide +kernel, rfl⟩
theorem eX6_cutSeam_34 : Dc cX6_cutSeam 34 (.iconst 1) 1 35 := ⟨by decide +kernel, rfl⟩
theorem eX6_cutSeam_35 : Dc cX6_cutSeam 35 (.goto 4) 3 38 := ⟨by decide +kernel, rfl⟩
theorem eX6_cutSeam_38 : Dc cX6_cutSeam 38 (.iconst 0) 1 39 := ⟨by decide +kernel, rfl⟩
theorem eX6_cutSeam_39 : Dc cX6_cutSeam 39 (.iadd) 1 40 := ⟨by decide +kernel, rfl⟩
theorem eX6_cutSeam_40 : Dc cX6_cutSeam 40 (.putfield 103) 3 43 := ⟨by decide +kernel, rfl⟩
theorem eX6_cutSeam_43 : Dc cX6_cutSeam 43 (.aload_n 0) 1 44 := ⟨by decide +kernel, rfl⟩
theorem eX6_cutSeam_44 : Dc cX6_cutSeam 44 (.getfield 32) 3 47 := ⟨by decide +kernel, rfl⟩
theorem eX6_cutSeam_47 : Dc cX6_cutSeam 47 (.iload_n 1) 1 48 := ⟨by decide +kernel, rfl⟩
theorem eX6_cutSeam_48 : Dc cX6_cutSeam 48 (.iaload) 1 49 := ⟨by decide +kernel, rfl⟩
theorem eX6_cutSeam_49 : Dc cX6_cutSeam 49 (.istore_n 2) 1 50 := ⟨by decide +kernel, rfl⟩
theorem eX6_cutSeam_50 : Dc cX6_cutSeam 50 (.iload_n 2) 1 51 := ⟨by decide +kernel, rfl⟩
theorem eX6_cutSeam_51 : Dc cX6_cutSeam 51 (.iconst 1) 1 52 := ⟨by decide +kernel, rfl⟩
theorem eX6_cutSeam_52 : Dc cX6_cutSeam 52 (.iadd) 1 53 := ⟨by decide +kernel, rfl⟩
theorem eX6_cutSeam_53 : Dc cX6_cutSeam 53 (.aload_n 0) 1 54 := ⟨by decide +kernel, rfl⟩
theorem eX6_cutSeam_54 : Dc cX6_cutSeam 54 (.getfield 45) 3 57 := ⟨by decide +kernel, rfl⟩
theorem eX6_cutSeam_57 : Dc cX6_cutSeam 57 (.if_icmp .ge 18) 3 60 := ⟨by decide +kernel, rfl⟩
theorem eX6_cutSeam_60 : Dc cX6_cutSeam 60 (.aload_n 0) 1 61 := ⟨by decide +kernel, rfl⟩
theorem eX6_cutSeam_61 : Dc cX6_cutSeam 61 (.iload_n 1) 1 62 := ⟨by decide +kernel, rfl⟩
theorem eX6_cutSeam_62 : Dc cX6_cutSeam 62 (.iload_n 2) 1 63 := ⟨by decide +kernel, rfl⟩
theorem eX6_cutSeam_63 : Dc cX6_cutSeam 63 (.iconst 1) 1 64 := ⟨by decide +kernel, rfl⟩
theorem eX6_cutSeam_64 : Dc cX6_cutSeam 64 (.iadd) 1 65 := ⟨by decide +kernel, rfl⟩
theorem eX6_cutSeam_65 : Dc cX6_cutSeam 65 (.iload_n 2) 1 66 := ⟨by decide +kernel, rfl⟩
theorem eX6_cutSeam_66 : Dc cX6_cutSeam 66 (.invokevirtual 106) 3 69 := ⟨by decide +kernel, rfl⟩
theorem eX6_cutSeam_69 : Dc cX6_cutSeam 69 (.iinc 2 1) 3 72 := ⟨by decide +kernel, rfl⟩
theorem eX6_cutSeam_72 : Dc cX6_cutSeam 72 (.goto (-22)) 3 75 := ⟨by decide +kernel, rfl⟩
theorem eX6_cutSeam_75 : Dc cX6_cutSeam 75 (.iinc 1 1) 3 78 := ⟨by decide +kernel, rfl⟩
theorem eX6_cutSeam_78 : Dc cX6_cutSeam 78 (.goto (-76)) 3 81 := ⟨by decide +kernel, rfl⟩
theorem eX6_cutSeam_81 : Dc cX6_cutSeam 81 (.aload_n 0) 1 82 := ⟨by decide +kernel, rfl⟩
theorem eX6_cutSeam_82 : Dc cX6_cutSeam 82 (.dup) 1 83 := ⟨by decide +kernel, rfl⟩
theorem eX6_cutSeam_83 : Dc cX6_cutSeam 83 (.getfield 45) 3 86 := ⟨by decide +kernel, rfl⟩
theorem eX6_cutSeam_86 : Dc cX6_cutSeam 86 (.iconst 1) 1 87 := ⟨by decide +kernel, rfl⟩
theorem eX6_cutSeam_87 : Dc cX6_cutSeam 87 (.isub) 1 88 := ⟨by decide +kernel, rfl⟩
theorem eX6_cutSeam_88 : Dc cX6_cutSeam 88 (.putfield 45) 3 91 := ⟨by decide +kernel, rfl⟩
theorem eX6_cutSeam_91 : Dc cX6_cutSeam 91 (.return_) 1 92 := ⟨by decide +kernel, rfl⟩
theorem eX6_addSeam_0 : Dc cX6_addSeam 0 (.iconst 0) 1 1 := ⟨by decide +kernel, rfl⟩
theorem eX6_addSeam_1 : Dc cX6_addSeam 1 (.istore_n 1) 1 2 := ⟨by decide +kernel, rfl⟩
theorem eX6_addSeam_2 : Dc cX6_addSeam 2 (.iload_n 1) 1 3 := ⟨by decide +kernel, rfl⟩
theorem eX6_addSeam_3 : Dc cX6_addSeam 3 (.aload_n 0) 1 4 := ⟨by decide +kernel, rfl⟩
theorem eX6_addSeam_4 : Dc cX6_addSeam 4 (.getfield 49) 3 7 := ⟨by decide +kernel, rfl⟩
theorem eX6_addSeam_7 : Dc cX6_addSeam 7 (.if_icmp .ge 103) 3 10 := ⟨by decide +kernel, rfl⟩
theorem eX6_addSeam_10 : Dc cX6_addSeam 10 (.aload_n 0) 1 11 := ⟨by decide +kernel, rfl⟩
theorem eX6_addSeam_11 : Dc cX6_addSeam 11 (.aload_n 0) 1 12 := ⟨by decide +kernel, rfl⟩
theorem eX6_addSeam_12 : Dc cX6_addSeam 12 (.getfield 32) 3 15 := ⟨by decide +kernel, rfl⟩
theorem eX6_addSeam_15 : Dc cX6_addSeam 15 (.iload_n 1) 1 16 := ⟨by decide +kernel, rfl⟩
theorem eX6_addSeam_16 : Dc cX6_addSeam 16 (.iaload) 1 17 := ⟨by decide +kernel, rfl⟩
theorem eX6_addSeam_17 : Dc cX6_addSeam 17 (.iload_n 1) 1 18 := ⟨by decide +kernel, rfl⟩
theorem eX6_addSeam_18 : Dc cX6_addSeam 18 (.invokevirtual 56) 3 21 := ⟨by decide +kernel, rfl⟩
theorem eX6_addSeam_21 : Dc cX6_addSeam 21 (.aload_n 0) 1 22 := ⟨by decide +kernel, rfl⟩
theorem eX6_addSeam_22 : Dc cX6_addSeam 22 (.aload_n 0) 1 23 := ⟨by decide +kernel, rfl⟩
theorem eX6_addSeam_23 : Dc cX6_addSeam 23 (.getfield 32) 3 26 := ⟨by decide +kernel, rfl⟩
theorem eX6_addSeam_26 : Dc cX6_addSeam 26 (.iload_n 1) 1 27 := ⟨by decide +kernel, rfl⟩
theorem eX6_addSeam_27 : Dc cX6_addSeam 27 (.iaload) 1 28 := ⟨by decide +kernel, rfl⟩
theorem eX6_addSeam_28 : Dc cX6_addSeam 28 (.iload_n 1) 1 29 := ⟨by decide +kernel, rfl⟩
theorem eX6_addSeam_29 : Dc cX6_addSeam 29 (.invokevirtual 62) 3 32 := ⟨by decide +kernel, rfl⟩
theorem eX6_addSeam_32 : Dc cX6_addSeam 32 (.iadd) 1 33 := ⟨by decide +kernel, rfl⟩
theorem eX6_addSeam_33 : Dc cX6_addSeam 33 (.iconst 2) 1 34 := ⟨by decide +kernel, rfl⟩
theorem eX6_addSeam_34 : Dc cX6_addSeam 34 (.idiv) 1 35 := ⟨by decide +kernel, rfl⟩
theorem eX6_addSeam_35 : Dc cX6_addSeam 35 (.istore_n 2) 1 36 := ⟨by decide +kernel, rfl⟩
theorem eX6_addSeam_36 : Dc cX6_addSeam 36 (.aload_n 0) 1 37 := ⟨by decide +kernel, rfl⟩
theorem eX6_addSeam_37 : Dc cX6_addSeam 37 (.getfield 45) 3 40 := ⟨by decide +kernel, rfl⟩
theorem eX6_addSeam_40 : Dc cX6_addSeam 40 (.istore_n 3) 1 41 := ⟨by decide +kernel, rfl⟩
theorem eX6_addSeam_41 : Dc cX6_addSeam 41 (.iload_n 3) 1 42 := ⟨by decide +kernel, rfl⟩
theorem eX6_addSeam_42 : Dc cX6_addSeam 42 (.aload_n 0) 1 43 := ⟨by decide +kernel, rfl⟩
theorem eX6_addSeam_43 : Dc cX6_addSeam 43 (.getfield 32) 3 46 := ⟨by decide +kernel, rfl⟩
theorem eX6_addSeam_46 : Dc cX6_addSeam 46 (.iload_n 1) 1 47 := ⟨by decide +kernel, rfl⟩
theorem eX6_addSeam_47 : Dc cX6_addSeam 47 (.iaload) 1 48 := ⟨by decide +kernel, rfl⟩
theorem eX6_addSeam_48 : Dc cX6_addSeam 48 (.iconst 1) 1 49 := ⟨by decide +kernel, rfl⟩
theorem eX6_addSeam_49 : Dc cX6_addSeam 49 (.iadd) 1 50 := ⟨by decide +kernel, rfl⟩
theorem eX6_addSeam_50 : Dc cX6_addSeam 50 (.if_icmp .le 18) 3 53 := ⟨by decide +kernel, rfl⟩
theorem eX6_addSeam_53 : Dc cX6_addSeam 53 (.aload_n 0) 1 54 := ⟨by decide +kernel, rfl⟩
theorem eX6_addSeam_54 : Dc cX6_addSeam 54 (.iload_n 1) 1 55 := ⟨by decide +kernel, rfl⟩
theorem eX6_addSeam_55 : Dc cX6_addSeam 55 (.iload_n 3) 1 56 := ⟨by decide +kernel, rfl⟩
theorem eX6_addSeam_56 : Dc cX6_addSeam 56 (.iconst 1) 1 57 := ⟨by decide +kernel, rfl⟩
theorem eX6_addSeam_57 : Dc cX6_addSeam 57 (.isub) 1 58 := ⟨by decide +kernel, rfl⟩
theorem eX6_addSeam_58 : Dc cX6_addSeam 58 (.iload_n 3) 1 59 := ⟨by decide +kernel, rfl⟩
theorem eX6_addSeam_59 : Dc cX6_addSeam 59 (.invokevirtual 106) 3 62 := ⟨by decide +kernel, rfl⟩
theorem eX6_addSeam_62 : Dc cX6_addSeam 62 (.iinc 3 (-1)) 3 65 := ⟨by decide +kernel, rfl⟩
theorem eX6_addSeam_65 : Dc cX6_addSeam 65 (.goto (-24)) 3 68 := ⟨by decide +kernel, rfl⟩
theorem eX6_addSeam_68 : Dc cX6_addSeam 68 (.aload_n 0) 1 69 := ⟨by decide +kernel, rfl⟩
theorem eX6_addSeam_69 : Dc cX6_addSeam 69 (.getfield 23) 3 72 := ⟨by decide +kernel, rfl⟩
theorem eX6_addSeam_72 : Dc cX6_addSeam 72 (.aload_n 0) 1 73 := ⟨by decide +kernel, rfl⟩
theorem eX6_addSeam_73 : Dc cX6_addSeam 73 (.getfield 32) 3 76 := ⟨by decide +kernel, rfl⟩
theorem eX6_addSeam_76 : Dc cX6_addSeam 76 (.iload_n 1) 1 77 := ⟨by decide +kernel, rfl⟩
theorem eX6_addSeam_77 : Dc cX6_addSeam 77 (.iaload) 1 78 := ⟨by decide +kernel, rfl⟩
theorem eX6_addSeam_78 : Dc cX6_addSeam 78 (.iconst 1) 1 79 := ⟨by decide +kernel, rfl⟩
theorem eX6_addSeam_79 : Dc cX6_addSeam 79 (.iadd) 1 80 := ⟨by decide +kernel, rfl⟩
theorem eX6_addSeam_80 : Dc cX6_addSeam 80 (.iload_n 1) 1 81 := ⟨by decide +kernel, rfl⟩
theorem eX6_addSeam_81 : Dc cX6_addSeam 81 (.invokestatic 52) 3 84 := ⟨by decide +kernel, rfl⟩
theorem eX6_addSeam_84 : Dc cX6_addSeam 84 (.iload_n 2) 1 85 := ⟨by decide +kernel, rfl⟩
theorem eX6_addSeam_85 : Dc cX6_addSeam 85 (.iastore) 1 86 := ⟨by decide +kernel, rfl⟩
theorem eX6_addSeam_86 : Dc cX6_addSeam 86 (.aload_n 0) 1 87 := ⟨by decide +kernel, rfl⟩
theorem eX6_addSeam_87 : Dc cX6_addSeam 87 (.getfield 26) 3 90 := ⟨by decide +kernel, rfl⟩
theorem eX6_addSeam_90 : Dc cX6_addSeam 90 (.aload_n 0) 1 91 := ⟨by decide +kernel, rfl⟩
theorem eX6_addSeam_91 : Dc cX6_addSeam 91 (.getfield 32) 3 94 := ⟨by decide +kernel, rfl⟩
theorem eX6_addSeam_94 : Dc cX6_addSeam 94 (.iload_n 1) 1 95 := ⟨by decide +kernel, rfl⟩
theorem eX6_addSeam_95 : Dc cX6_addSeam 95 (.iaload) 1 96 := ⟨by decide +kernel, rfl⟩
theorem eX6_addSeam_96 : Dc cX6_addSeam 96 (.iconst 1) 1 97 := ⟨by decide +kernel, rfl⟩
theorem eX6_addSeam_97 : Dc cX6_addSeam 97 (.iadd) 1 98 := ⟨by decide +kernel, rfl⟩
theorem eX6_addSeam_98 : Dc cX6_addSeam 98 (.iload_n 1) 1 99 := ⟨by decide +kernel, rfl⟩
theorem eX6_addSeam_99 : Dc cX6_addSeam 99 (.invokestatic 52) 3 102 := ⟨by decide +kernel, rfl⟩
theorem eX6_addSeam_102 : Dc cX6_addSeam 102 (.iconst 0) 1 103 := ⟨by decide +kernel, rfl⟩
theorem eX6_addSeam_103 : Dc cX6_addSeam 103 (.iastore) 1 104 := ⟨by decide +kernel, rfl⟩
theorem eX6_addSeam_104 : Dc cX6_addSeam 104 (.iinc 1 1) 3 107 := ⟨by decide +kernel, rfl⟩
theorem eX6_addSeam_107 : Dc cX6_addSeam 107 (.goto (-105)) 3 110 := ⟨by decide +kernel, rfl⟩
theorem eX6_addSeam_110 : Dc cX6_addSeam 110 (.aload_n 0) 1 111 := ⟨by decide +kernel, rfl⟩
theorem eX6_addSeam_111 : Dc cX6_addSeam 111 (.dup) 1 112 := ⟨by decide +kernel, rfl⟩
theorem eX6_addSeam_112 : Dc cX6_addSeam 112 (.getfield 45) 3 115 := ⟨by decide +kernel, rfl⟩
theorem eX6_addSeam_115 : Dc cX6_addSeam 115 (.iconst 1) 1 116 := ⟨by decide +kernel, rfl⟩
theorem eX6_addSeam_116 : Dc cX6_addSeam 116 (.iadd) 1 117 := ⟨by decide +kernel, rfl⟩
theorem eX6_addSeam_117 : Dc cX6_addSeam 117 (.putfield 45) 3 120 := ⟨by decide +kernel, rfl⟩
theorem eX6_addSeam_120 : Dc cX6_addSeam 120 (.return_) 1 121 := ⟨by decide +kernel, rfl⟩
theorem eX6_cutWay_0 : Dc cX6_cutWay 0 (.aload_n 0) 1 1 := ⟨by decide +kernel, rfl⟩
theorem eX6_cutWay_1 : Dc cX6_cutWay 1 (.iload_n 1) 1 2 := ⟨by decide +kernel, rfl⟩
theorem eX6_cutWay_2 : Dc cX6_cutWay 2 (.invokevirtual 110) 3 5 := ⟨by decide +kernel, rfl⟩
theorem eX6_cutWay_5 : Dc cX6_cutWay 5 (.aload_n 0) 1 6 := ⟨by decide +kernel, rfl⟩
theorem eX6_cutWay_6 : Dc cX6_cutWay 6 (.invokevirtual 114) 3 9 := ⟨by decide +kernel, rfl⟩
theorem eX6_cutWay_9 : Dc cX6_cutWay 9 (.aload_n 0) 1 10 := ⟨by decide +kernel, rfl⟩
theorem eX6_cutWay_10 : Dc cX6_cutWay 10 (.iload_n 1) 1 11 := ⟨by decide +kernel, rfl⟩
theorem eX6_cutWay_11 : Dc cX6_cutWay 11 (.invokevirtual 117) 3 14 := ⟨by decide +kernel, rfl⟩
theorem eX6_cutWay_14 : Dc cX6_cutWay 14 (.aload_n 0) 1 15 := ⟨by decide +kernel, rfl⟩
theorem eX6_cutWay_15 : Dc cX6_cutWay 15 (.getfield 94) 3 18 := ⟨by decide +kernel, rfl⟩
theorem eX6_cutWay_18 : Dc cX6_cutWay 18 (.ireturn) 1 19 := ⟨by decide +kernel, rfl⟩
theorem eX6_size__0 : Dc cX6_size_ 0 (.iload_n 1) 1 1 := ⟨by decide +kernel, rfl⟩
theorem eX6_size__1 : Dc cX6_size_ 1 (.iconst 2) 1 2 := ⟨by decide +kernel, rfl⟩
theorem eX6_size__2 : Dc cX6_size_ 2 (.bipush 8) 2 4 := ⟨by decide +kernel, rfl⟩
theorem eX6_size__4 : Dc cX6_size_ 4 (.invokestatic 41) 3 7 := ⟨by decide +kernel, rfl⟩
theorem eX6_size__7 : Dc cX6_size_ 7 (.ifCond .eq 13) 3 10 := ⟨by decide +kernel, rfl⟩
theorem eX6_size__10 : Dc cX6_size_ 10 (.iload_n 2) 1 11 := ⟨by decide +kernel, rfl⟩
theorem eX6_size__11 : Dc cX6_size_ 11 (.iconst 2) 1 12 := ⟨by decide +kernel, rfl⟩
theorem eX6_size__12 : Dc cX6_size_ 12 (.bipush 8) 2 14 := ⟨by decide +kernel, rfl⟩
theorem eX6_size__14 : Dc cX6_size_ 14 (.invokestatic 41) 3 17 := ⟨by decide +kernel, rfl⟩
theorem eX6_size__17 : Dc cX6_size_ 17 (.ifCond .ne 6) 3 20 := ⟨by decide +kernel, rfl⟩
theorem eX6_size__20 : Dc cX6_size_ 20 (.bipush (-2)) 2 22 := ⟨by decide +kernel, rfl⟩
theorem eX6_size__22 : Dc cX6_size_ 22 (.ireturn) 1 23 := ⟨by decide +kernel, rfl⟩
theorem eX6_size__23 : Dc cX6_size_ 23 (.bipush 10) 2 25 := ⟨by decide +kernel, rfl⟩
theorem eX6_size__25 : Dc cX6_size_ 25 (.aload_n 0) 1 26 := ⟨by decide +kernel, rfl⟩
theorem eX6_size__26 : Dc cX6_size_ 26 (.getfield 7) 3 29 := ⟨by decide +kernel, rfl⟩
theorem eX6_size__29 : Dc cX6_size_ 29 (.sipush 128) 3 32 := ⟨by decide +kernel, rfl⟩
theorem eX6_size__32 : Dc cX6_size_ 32 (.iaload) 1 33 := ⟨by decide +kernel, rfl⟩
theorem eX6_size__33 : Dc cX6_size_ 33 (.imul) 1 34 := ⟨by decide +kernel, rfl⟩
theorem eX6_size__34 : Dc cX6_size_ 34 (.aload_n 0) 1 35 := ⟨by decide +kernel, rfl⟩
theorem eX6_size__35 : Dc cX6_size_ 35 (.getfield 7) 3 38 := ⟨by decide +kernel, rfl⟩
theorem eX6_size__38 : Dc cX6_size_ 38 (.sipush 129) 3 41 := ⟨by decide +kernel, rfl⟩
theorem eX6_size__41 : Dc cX6_size_ 41 (.iaload) 1 42 := ⟨by decide +kernel, rfl⟩
theorem eX6_size__42 : Dc cX6_size_ 42 (.iadd) 1 43 := ⟨by decide +kernel, rfl⟩
theorem eX6_size__43 : Dc cX6_size_ 43 (.istore_n 3) 1 44 := ⟨by decide +kernel, rfl⟩
theorem eX6_size__44 : Dc cX6_size_ 44 (.iconst 0) 1 45 := ⟨by decide +kernel, rfl⟩
theorem eX6_size__45 : Dc cX6_size_ 45 (.istore 4) 2 47 := ⟨by decide +kernel, rfl⟩
theorem eX6_size__47 : Dc cX6_size_ 47 (.iload 4) 2 49 := ⟨by decide +kernel, rfl⟩
theorem eX6_size__49 : Dc cX6_size_ 49 (.sipush 128) 3 52 := ⟨by decide +kernel, rfl⟩
theorem eX6_size__52 : Dc cX6_size_ 52 (.if_icmp .ge 17) 3 55 := ⟨by decide +kernel, rfl⟩
theorem eX6_size__55 : Dc cX6_size_ 55 (.aload_n 0) 1 56 := ⟨by decide +kernel, rfl⟩
theorem eX6_size__56 : Dc cX6_size_ 56 (.getfield 7) 3 59 := ⟨by decide +kernel, rfl⟩
theorem eX6_size__59 : Dc cX6_size_ 59 (.iload 4) 2 61 := ⟨by decide +kernel, rfl⟩
theorem eX6_size__61 : Dc cX6_size_ 61 (.iconst 0) 1 62 := ⟨by decide +kernel, rfl⟩
theorem eX6_size__62 : Dc cX6_size_ 62 (.iastore) 1 63 := ⟨by decide +kernel, rfl⟩
theorem eX6_size__63 : Dc cX6_size_ 63 (.iinc 4 1) 3 66 := ⟨by decide +kernel, rfl⟩
theorem eX6_size__66 : Dc cX6_size_ 66 (.goto (-19)) 3 69 := ⟨by decide +kernel, rfl⟩
theorem eX6_size__69 : Dc cX6_size_ 69 (.aload_n 0) 1 70 := ⟨by decide +kernel, rfl⟩
theorem eX6_size__70 : Dc cX6_size_ 70 (.getfield 7) 3 73 := ⟨by decide +kernel, rfl⟩
theorem eX6_size__73 : Dc cX6_size_ 73 (.sipush 128) 3 76 := ⟨by decide +kernel, rfl⟩
theorem eX6_size__76 : Dc cX6_size_ 76 (.iload_n 1) 1 77 := ⟨by decide +kernel, rfl⟩
theorem eX6_size__77 : Dc cX6_size_ 77 (.iastore) 1 78 := ⟨by decide +kernel, rfl⟩
theorem eX6_size__78 : Dc cX6_size_ 78 (.aload_n 0) 1 79 := ⟨by decide +kernel, rfl⟩
theorem eX6_size__79 : Dc cX6_size_ 79 (.getfield 7) 3 82 := ⟨by decide +kernel, rfl⟩
theorem eX6_size__82 : Dc cX6_size_ 82 (.sipush 129) 3 85 := ⟨by decide +kernel, rfl⟩
theorem eX6_size__85 : Dc cX6_size_ 85 (.iload_n 2) 1 86 := ⟨by decide +kernel, rfl⟩
theorem eX6_size__86 : Dc cX6_size_ 86 (.iastore) 1 87 := ⟨by decide +kernel, rfl⟩
theorem eX6_size__87 : Dc cX6_size_ 87 (.iload_n 3) 1 88 := ⟨by decide +kernel, rfl⟩
theorem eX6_size__88 : Dc cX6_size_ 88 (.ireturn) 1 89 := ⟨by decide +kernel, rfl⟩
theorem eX6_grey_0 : Dc cX6_grey 0 (.aload_n 0) 1 1 := ⟨by decide +kernel, rfl⟩
theorem eX6_grey_1 : Dc cX6_grey 1 (.iload_n 1) 1 2 := ⟨by decide +kernel, rfl⟩
theorem eX6_grey_2 : Dc cX6_grey 2 (.iload_n 2) 1 3 := ⟨by decide +kernel, rfl⟩
theorem eX6_grey_3 : Dc cX6_grey 3 (.invokevirtual 120) 3 6 := ⟨by decide +kernel, rfl⟩
theorem eX6_grey_6 : Dc cX6_grey 6 (.ifCond .ne 5) 3 9 := ⟨by decide +kernel, rfl⟩
theorem eX6_grey_9 : Dc cX6_grey 9 (.iconst (-1)) 1 10 := ⟨by decide +kernel, rfl⟩
theorem eX6_grey_10 : Dc cX6_grey 10 (.ireturn) 1 11 := ⟨by decide +kernel, rfl⟩
theorem eX6_grey_11 : Dc cX6_grey 11 (.iload_n 3) 1 12 := ⟨by decide +kernel, rfl⟩
theorem eX6_grey_12 : Dc cX6_grey 12 (.iconst 0) 1 13 := ⟨by decide +kernel, rfl⟩
theorem eX6_grey_13 : Dc cX6_grey 13 (.bipush 9) 2 15 := ⟨by decide +kernel, rfl⟩
theorem eX6_grey_15 : Dc cX6_grey 15 (.invokestatic 41) 3 18 := ⟨by decide +kernel, rfl⟩
theorem eX6_grey_18 : Dc cX6_grey 18 (.ifCond .ne 6) 3 21 := ⟨by decide +kernel, rfl⟩
theorem eX6_grey_21 : Dc cX6_grey 21 (.bipush (-2)) 2 23 := ⟨by decide +kernel, rfl⟩
theorem eX6_grey_23 : Dc cX6_grey 23 (.ireturn) 1 24 := ⟨by decide +kernel, rfl⟩
theorem eX6_grey_24 : Dc cX6_grey 24 (.aload_n 0) 1 25 := ⟨by decide +kernel, rfl⟩
theorem eX6_grey_25 : Dc cX6_grey 25 (.getfield 7) 3 28 := ⟨by decide +kernel, rfl⟩
theorem eX6_grey_28 : Dc cX6_grey 28 (.iconst 0) 1 29 := ⟨by decide +kernel, rfl⟩
theorem eX6_grey_29 : Dc cX6_grey 29 (.iload_n 1) 1 30 := ⟨by decide +kernel, rfl⟩
theorem eX6_grey_30 : Dc cX6_grey 30 (.iload_n 2) 1 31 := ⟨by decide +kernel, rfl⟩
theorem eX6_grey_31 : Dc cX6_grey 31 (.invokestatic 52) 3 34 := ⟨by decide +kernel, rfl⟩
theorem eX6_grey_34 : Dc cX6_grey 34 (.iadd) 1 35 := ⟨by decide +kernel, rfl⟩
theorem eX6_grey_35 : Dc cX6_grey 35 (.iaload) 1 36 := ⟨by decide +kernel, rfl⟩
theorem eX6_grey_36 : Dc cX6_grey 36 (.istore 4) 2 38 := ⟨by decide +kernel, rfl⟩
theorem eX6_grey_38 : Dc cX6_grey 38 (.aload_n 0) 1 39 := ⟨by decide +kernel, rfl⟩
theorem eX6_grey_39 : Dc cX6_grey 39 (.getfield 7) 3 42 := ⟨by decide +kernel, rfl⟩
theorem eX6_grey_42 : Dc cX6_grey 42 (.iconst 0) 1 43 := ⟨by decide +kernel, rfl⟩
theorem eX6_grey_43 : Dc cX6_grey 43 (.iload_n 1) 1 44 := ⟨by decide +kernel, rfl⟩
theorem eX6_grey_44 : Dc cX6_grey 44 (.iload_n 2) 1 45 := ⟨by decide +kernel, rfl⟩
theorem eX6_grey_45 : Dc cX6_grey 45 (.invokestatic 52) 3 48 := ⟨by decide +kernel, rfl⟩
theorem eX6_grey_48 : Dc cX6_grey 48 (.iadd) 1 49 := ⟨by decide +kernel, rfl⟩
theorem eX6_grey_49 : Dc cX6_grey 49 (.iload_n 3) 1 50 := ⟨by decide +kernel, rfl⟩
theorem eX6_grey_50 : Dc cX6_grey 50 (.iastore) 1 51 := ⟨by decide +kernel, rfl⟩
theorem eX6_grey_51 : Dc cX6_grey 51 (.iload 4) 2 53 := ⟨by decide +kernel, rfl⟩
theorem eX6_grey_53 : Dc cX6_grey 53 (.ireturn) 1 54 := ⟨by decide +kernel, rfl⟩
theorem eX6_mark_0 : Dc cX6_mark 0 (.aload_n 0) 1 1 := ⟨by decide +kernel, rfl⟩
theorem eX6_mark_1 : Dc cX6_mark 1 (.iload_n 1) 1 2 := ⟨by decide +kernel, rfl⟩
theorem eX6_mark_2 : Dc cX6_mark 2 (.iload_n 2) 1 3 := ⟨by decide +kernel, rfl⟩
theorem eX6_mark_3 : Dc cX6_mark 3 (.invokevirtual 120) 3 6 := ⟨by decide +kernel, rfl⟩
theorem eX6_mark_6 : Dc cX6_mark 6 (.ifCond .ne 5) 3 9 := ⟨by decide +kernel, rfl⟩
theorem eX6_mark_9 : Dc cX6_mark 9 (.iconst (-1)) 1 10 := ⟨by decide +kernel, rfl⟩
theorem eX6_mark_10 : Dc cX6_mark 10 (.ireturn) 1 11 := ⟨by decide +kernel, rfl⟩
theorem eX6_mark_11 : Dc cX6_mark 11 (.iload_n 3) 1 12 := ⟨by decide +kernel, rfl⟩
theorem eX6_mark_12 : Dc cX6_mark 12 (.iconst 0) 1 13 := ⟨by decide +kernel, rfl⟩
theorem eX6_mark_13 : Dc cX6_mark 13 (.iconst 2) 1 14 := ⟨by decide +kernel, rfl⟩
theorem eX6_mark_14 : Dc cX6_mark 14 (.invokestatic 41) 3 17 := ⟨by decide +kernel, rfl⟩
theorem eX6_mark_17 : Dc cX6_mark 17 (.ifCond .ne 6) 3 20 := ⟨by decide +kernel, rfl⟩
theorem eX6_mark_20 : Dc cX6_mark 20 (.bipush (-2)) 2 22 := ⟨by decide +kernel, rfl⟩
theorem eX6_mark_22 : Dc cX6_mark 22 (.ireturn) 1 23 := ⟨by decide +kernel, rfl⟩
theorem eX6_mark_23 : Dc cX6_mark 23 (.aload_n 0) 1 24 := ⟨by decide +kernel, rfl⟩
theorem eX6_mark_24 : Dc cX6_mark 24 (.getfield 7) 3 27 := ⟨by decide +kernel, rfl⟩
theorem eX6_mark_27 : Dc cX6_mark 27 (.bipush 64) 2 29 := ⟨by decide +kernel, rfl⟩
theorem eX6_mark_29 : Dc cX6_mark 29 (.iload_n 1) 1 30 := ⟨by decide +kernel, rfl⟩
theorem eX6_mark_30 : Dc cX6_mark 30 (.iload_n 2) 1 31 := ⟨by decide +kernel, rfl⟩
theorem eX6_mark_31 : Dc cX6_mark 31 (.invokestatic 52) 3 34 := ⟨by decide +kernel, rfl⟩
theorem eX6_mark_34 : Dc cX6_mark 34 (.iadd) 1 35 := ⟨by decide +kernel, rfl⟩
theorem eX6_mark_35 : Dc cX6_mark 35 (.iaload) 1 36 := ⟨by decide +kernel, rfl⟩
theorem eX6_mark_36 : Dc cX6_mark 36 (.istore 4) 2 38 := ⟨by decide +kernel, rfl⟩
theorem eX6_mark_38 : Dc cX6_mark 38 (.aload_n 0) 1 39 := ⟨by decide +kernel, rfl⟩
theorem eX6_mark_39 : Dc cX6_mark 39 (.getfield 7) 3 42 := ⟨by decide +kernel, rfl⟩
theorem eX6_mark_42 : Dc cX6_mark 42 (.bipush 64) 2 44 := ⟨by decide +kernel, rfl⟩
theorem eX6_mark_44 : Dc cX6_mark 44 (.iload_n 1) 1 45 := ⟨by decide +kernel, rfl⟩
theorem eX6_mark_45 : Dc cX6_mark 45 (.iload_n 2) 1 46 := ⟨by decide +kernel, rfl⟩
theorem eX6_mark_46 : Dc cX6_mark 46 (.invokestatic 52) 3 49 := ⟨by decide +kernel, rfl⟩
theorem eX6_mark_49 : Dc cX6_mark 49 (.iadd) 1 50 := ⟨by decide +kernel, rfl⟩
theorem eX6_mark_50 : Dc cX6_mark 50 (.iload_n 3) 1 51 := ⟨by decide +kernel, rfl⟩
theorem eX6_mark_51 : Dc cX6_mark 51 (.iastore) 1 52 := ⟨by decide +kernel, rfl⟩
theorem eX6_mark_52 : Dc cX6_mark 52 (.iload 4) 2 54 := ⟨by decide +kernel, rfl⟩
theorem eX6_mark_54 : Dc cX6_mark 54 (.ireturn) 1 55 := ⟨by decide +kernel, rfl⟩
theorem eX6_rule_0 : Dc cX6_rule 0 (.iload_n 1) 1 1 := ⟨by decide +kernel, rfl⟩
theorem eX6_rule_1 : Dc cX6_rule 1 (.iconst 0) 1 2 := ⟨by decide +kernel, rfl⟩
theorem eX6_rule_2 : Dc cX6_rule 2 (.iconst 1) 1 3 := ⟨by decide +kernel, rfl⟩
theorem eX6_rule_3 : Dc cX6_rule 3 (.invokestatic 41) 3 6 := ⟨by decide +kernel, rfl⟩
theorem eX6_rule_6 : Dc cX6_rule 6 (.ifCond .ne 6) 3 9 := ⟨by decide +kernel, rfl⟩
theorem eX6_rule_9 : Dc cX6_rule 9 (.bipush (-2)) 2 11 := ⟨by decide +kernel, rfl⟩
theorem eX6_rule_11 : Dc cX6_rule 11 (.ireturn) 1 12 := ⟨by decide +kernel, rfl⟩
theorem eX6_rule_12 : Dc cX6_rule 12 (.aload_n 0) 1 13 := ⟨by decide +kernel, rfl⟩
theorem eX6_rule_13 : Dc cX6_rule 13 (.getfield 7) 3 16 := ⟨by decide +kernel, rfl⟩
theorem eX6_rule_16 : Dc cX6_rule 16 (.sipush 130) 3 19 := ⟨by decide +kernel, rfl⟩
theorem eX6_rule_19 : Dc cX6_rule 19 (.iaload) 1 20 := ⟨by decide +kernel, rfl⟩
theorem eX6_rule_20 : Dc cX6_rule 20 (.istore_n 2) 1 21 := ⟨by decide +kernel, rfl⟩
theorem eX6_rule_21 : Dc cX6_rule 21 (.aload_n 0) 1 22 := ⟨by decide +kernel, rfl⟩
theorem eX6_rule_22 : Dc cX6_rule 22 (.getfield 7) 3 25 := ⟨by decide +kernel, rfl⟩
theorem eX6_rule_25 : Dc cX6_rule 25 (.sipush 130) 3 28 := ⟨by decide +kernel, rfl⟩
theorem eX6_rule_28 : Dc cX6_rule 28 (.iload_n 1) 1 29 := ⟨by decide +kernel, rfl⟩
theorem eX6_rule_29 : Dc cX6_rule 29 (.iastore) 1 30 := ⟨by decide +kernel, rfl⟩
theorem eX6_rule_30 : Dc cX6_rule 30 (.iload_n 2) 1 31 := ⟨by decide +kernel, rfl⟩
theorem eX6_rule_31 : Dc cX6_rule 31 (.ireturn) 1 32 := ⟨by decide +kernel, rfl⟩
theorem eX6_dot_0 : Dc cX6_dot 0 (.aload_n 0) 1 1 := ⟨by decide +kernel, rfl⟩
theorem eX6_dot_1 : Dc cX6_dot 1 (.iload_n 1) 1 2 := ⟨by decide +kernel, rfl⟩
theorem eX6_dot_2 : Dc cX6_dot 2 (.iload_n 2) 1 3 := ⟨by decide +kernel, rfl⟩
theorem eX6_dot_3 : Dc cX6_dot 3 (.invokevirtual 120) 3 6 := ⟨by decide +kernel, rfl⟩
theorem eX6_dot_6 : Dc cX6_dot 6 (.ifCond .ne 5) 3 9 := ⟨by decide +kernel, rfl⟩
theorem eX6_dot_9 : Dc cX6_dot 9 (.iconst (-1)) 1 10 := ⟨by decide +kernel, rfl⟩
theorem eX6_dot_10 : Dc cX6_dot 10 (.ireturn) 1 11 := ⟨by decide +kernel, rfl⟩
theorem eX6_dot_11 : Dc cX6_dot 11 (.aload_n 0) 1 12 := ⟨by decide +kernel, rfl⟩
theorem eX6_dot_12 : Dc cX6_dot 12 (.invokevirtual 124) 3 15 := ⟨by decide +kernel, rfl⟩
theorem eX6_dot_15 : Dc cX6_dot 15 (.iload_n 3) 1 16 := ⟨by decide +kernel, rfl⟩
theorem eX6_dot_16 : Dc cX6_dot 16 (.tableswitch 72 0 3 #[32, 43, 54, 61]) 32 48 := ⟨by decide +kernel, rfl⟩
theorem eX6_dot_48 : Dc cX6_dot 48 (.aload_n 0) 1 49 := ⟨by decide +kernel, rfl⟩
theorem eX6_dot_49 : Dc cX6_dot 49 (.getfield 23) 3 52 := ⟨by decide +kernel, rfl⟩
theorem eX6_dot_52 : Dc cX6_dot 52 (.iload_n 1) 1 53 := ⟨by decide +kernel, rfl⟩
theorem eX6_dot_53 : Dc cX6_dot 53 (.iload_n 2) 1 54 := ⟨by decide +kernel, rfl⟩
theorem eX6_dot_54 : Dc cX6_dot 54 (.invokestatic 52) 3 57 := ⟨by decide +kernel, rfl⟩
theorem eX6_dot_57 : Dc cX6_dot 57 (.iaload) 1 58 := ⟨by decide +kernel, rfl⟩
theorem eX6_dot_58 : Dc cX6_dot 58 (.ireturn) 1 59 := ⟨by decide +kernel, rfl⟩
theorem eX6_dot_59 : Dc cX6_dot 59 (.aload_n 0) 1 60 := ⟨by decide +kernel, rfl⟩
theorem eX6_dot_60 : Dc cX6_dot 60 (.getfield 26) 3 63 := ⟨by decide +kernel, rfl⟩
theorem eX6_dot_63 : Dc cX6_dot 63 (.iload_n 1) 1 64 := ⟨by decide +kernel, rfl⟩
theorem eX6_dot_64 : Dc cX6_dot 64 (.iload_n 2) 1 65 := ⟨by decide +kernel, rfl⟩
theorem eX6_dot_65 : Dc cX6_dot 65 (.invokestatic 52) 3 68 := ⟨by decide +kernel, rfl⟩
theorem eX6_dot_68 : Dc cX6_dot 68 (.iaload) 1 69 := ⟨by decide +kernel, rfl⟩
theorem eX6_dot_69 : Dc cX6_dot 69 (.ireturn) 1 70 := ⟨by decide +kernel, rfl⟩
theorem eX6_dot_70 : Dc cX6_dot 70 (.aload_n 0) 1 71 := ⟨by decide +kernel, rfl⟩
theorem eX6_dot_71 : Dc cX6_dot 71 (.iload_n 1) 1 72 := ⟨by decide +kernel, rfl⟩
theorem eX6_dot_72 : Dc cX6_dot 72 (.iload_n 2) 1 73 := ⟨by decide +kernel, rfl⟩
theorem eX6_dot_73 : Dc cX6_dot 73 (.invokevirtual 78) 3 76 := ⟨by decide +kernel, rfl⟩
theorem eX6_dot_76 : Dc cX6_dot 76 (.ireturn) 1 77 := ⟨by decide +kernel, rfl⟩
theorem eX6_dot_77 : Dc cX6_dot 77 (.aload_n 0) 1 78 := ⟨by decide +kernel, rfl⟩
theorem eX6_dot_78 : Dc cX6_dot 78 (.iload_n 1) 1 79 := ⟨by decide +kernel, rfl⟩
theorem eX6_dot_79 : Dc cX6_dot 79 (.iload_n 2) 1 80 := ⟨by decide +kernel, rfl⟩
theorem eX6_dot_80 : Dc cX6_dot 80 (.invokevirtual 84) 3 83 := ⟨by decide +kernel, rfl⟩
theorem eX6_dot_83 : Dc cX6_dot 83 (.sipush 1000) 3 86 := ⟨by decide +kernel, rfl⟩
theorem eX6_dot_86 : Dc cX6_dot 86 (.iadd) 1 87 := ⟨by decide +kernel, rfl⟩
theorem eX6_dot_87 : Dc cX6_dot 87 (.ireturn) 1 88 := ⟨by decide +kernel, rfl⟩
theorem eX6_dot_88 : Dc cX6_dot 88 (.bipush (-2)) 2 90 := ⟨by decide +kernel, rfl⟩
theorem eX6_dot_90 : Dc cX6_dot 90 (.ireturn) 1 91 := ⟨by decide +kernel, rfl⟩
theorem eX6_say_0 : Dc cX6_say 0 (.iload_n 1) 1 1 := ⟨by decide +kernel, rfl⟩
theorem eX6_say_1 : Dc cX6_say 1 (.bipush 33) 2 3 := ⟨by decide +kernel, rfl⟩
theorem eX6_say_3 : Dc cX6_say 3 (.bipush 126) 2 5 := ⟨by decide +kernel, rfl⟩
theorem eX6_say_5 : Dc cX6_say 5 (.invokestatic 41) 3 8 := ⟨by decide +kernel, rfl⟩
theorem eX6_say_8 : Dc cX6_say 8 (.ifCond .ne 6) 3 11 := ⟨by decide +kernel, rfl⟩
theorem eX6_say_11 : Dc cX6_say 11 (.bipush (-2)) 2 13 := ⟨by decide +kernel, rfl⟩
theorem eX6_say_13 : Dc cX6_say 13 (.ireturn) 1 14 := ⟨by decide +kernel, rfl⟩
theorem eX6_say_14 : Dc cX6_say 14 (.aload_n 0) 1 15 := ⟨by decide +kernel, rfl⟩
theorem eX6_say_15 : Dc cX6_say 15 (.getfield 127) 3 18 := ⟨by decide +kernel, rfl⟩
theorem eX6_say_18 : Dc cX6_say 18 (.bipush 80) 2 20 := ⟨by decide +kernel, rfl⟩
theorem eX6_say_20 : Dc cX6_say 20 (.if_icmp .ne 6) 3 23 := ⟨by decide +kernel, rfl⟩
theorem eX6_say_23 : Dc cX6_say 23 (.bipush (-4)) 2 25 := ⟨by decide +kernel, rfl⟩
theorem eX6_say_25 : Dc cX6_say 25 (.ireturn) 1 26 := ⟨by decide +kernel, rfl⟩
theorem eX6_say_26 : Dc cX6_say 26 (.aload_n 0) 1 27 := ⟨by decide +kernel, rfl⟩
theorem eX6_say_27 : Dc cX6_say 27 (.getfield 20) 3 30 := ⟨by decide +kernel, rfl⟩
theorem eX6_say_30 : Dc cX6_say 30 (.aload_n 0) 1 31 := ⟨by decide +kernel, rfl⟩
theorem eX6_say_31 : Dc cX6_say 31 (.getfield 127) 3 34 := ⟨by decide +kernel, rfl⟩
theorem eX6_say_34 : Dc cX6_say 34 (.iload_n 1) 1 35 := ⟨by decide +kernel, rfl⟩
theorem eX6_say_35 : Dc cX6_say 35 (.iastore) 1 36 := ⟨by decide +kernel, rfl⟩
theorem eX6_say_36 : Dc cX6_say 36 (.aload_n 0) 1 37 := ⟨by decide +kernel, rfl⟩
theorem eX6_say_37 : Dc cX6_say 37 (.dup) 1 38 := ⟨by decide +kernel, rfl⟩
theorem eX6_say_38 : Dc cX6_say 38 (.getfield 127) 3 41 := ⟨by decide +kernel, rfl⟩
theorem eX6_say_41 : Dc cX6_say 41 (.iconst 1) 1 42 := ⟨by decide +kernel, rfl⟩
theorem eX6_say_42 : Dc cX6_say 42 (.iadd) 1 43 := ⟨by decide +kernel, rfl⟩
theorem eX6_say_43 : Dc cX6_say 43 (.putfield 127) 3 46 := ⟨by decide +kernel, rfl⟩
theorem eX6_say_46 : Dc cX6_say 46 (.aload_n 0) 1 47 := ⟨by decide +kernel, rfl⟩
theorem eX6_say_47 : Dc cX6_say 47 (.getfield 127) 3 50 := ⟨by decide +kernel, rfl⟩
theorem eX6_say_50 : Dc cX6_say 50 (.ireturn) 1 51 := ⟨by decide +kernel, rfl⟩
theorem eX6_wipe_0 : Dc cX6_wipe 0 (.aload_n 0) 1 1 := ⟨by decide +kernel, rfl⟩
theorem eX6_wipe_1 : Dc cX6_wipe 1 (.getfield 127) 3 4 := ⟨by decide +kernel, rfl⟩
theorem eX6_wipe_4 : Dc cX6_wipe 4 (.istore_n 1) 1 5 := ⟨by decide +kernel, rfl⟩
theorem eX6_wipe_5 : Dc cX6_wipe 5 (.aload_n 0) 1 6 := ⟨by decide +kernel, rfl⟩
theorem eX6_wipe_6 : Dc cX6_wipe 6 (.iconst 0) 1 7 := ⟨by decide +kernel, rfl⟩
theorem eX6_wipe_7 : Dc cX6_wipe 7 (.putfield 127) 3 10 := ⟨by decide +kernel, rfl⟩
theorem eX6_wipe_10 : Dc cX6_wipe 10 (.iload_n 1) 1 11 := ⟨by decide +kernel, rfl⟩
theorem eX6_wipe_11 : Dc cX6_wipe 11 (.ireturn) 1 12 := ⟨by decide +kernel, rfl⟩
theorem eX6_valueOf_0 : Dc cX6_valueOf 0 (.iload_n 2) 1 1 := ⟨by decide +kernel, rfl⟩
theorem eX6_valueOf_1 : Dc cX6_valueOf 1 (.ifCond .ne 24) 3 4 := ⟨by decide +kernel, rfl⟩
theorem eX6_valueOf_4 : Dc cX6_valueOf 4 (.iload_n 1) 1 5 := ⟨by decide +kernel, rfl⟩
theorem eX6_valueOf_5 : Dc cX6_valueOf 5 (.bipush 48) 2 7 := ⟨by decide +kernel, rfl⟩
theorem eX6_valueOf_7 : Dc cX6_valueOf 7 (.bipush 57) 2 9 := ⟨by decide +kernel, rfl⟩
theorem eX6_valueOf_9 : Dc cX6_valueOf 9 (.invokestatic 41) 3 12 := ⟨by decide +kernel, rfl⟩
theorem eX6_valueOf_12 : Dc cX6_valueOf 12 (.ifCond .eq 10) 3 15 := ⟨by decide +kernel, rfl⟩
theorem eX6_valueOf_15 : Dc cX6_valueOf 15 (.iload_n 1) 1 16 := ⟨by decide +kernel, rfl⟩
theorem eX6_valueOf_16 : Dc cX6_valueOf 16 (.bipush 48) 2 18 := ⟨by decide +kernel, rfl⟩
theorem eX6_valueOf_18 : Dc cX6_valueOf 18 (.isub) 1 19 := ⟨by decide +kernel, rfl⟩
theorem eX6_valueOf_19 : Dc cX6_valueOf 19 (.goto 5) 3 22 := ⟨by decide +kernel, rfl⟩
theorem eX6_valueOf_22 : Dc cX6_valueOf 22 (.bipush (-6)) 2 24 := ⟨by decide +kernel, rfl⟩
theorem eX6_valueOf_24 : Dc cX6_valueOf 24 (.ireturn) 1 25 := ⟨by decide +kernel, rfl⟩
theorem eX6_valueOf_25 : Dc cX6_valueOf 25 (.iload_n 1) 1 26 := ⟨by decide +kernel, rfl⟩
theorem eX6_valueOf_26 : Dc cX6_valueOf 26 (.bipush 46) 2 28 := ⟨by decide +kernel, rfl⟩
theorem eX6_valueOf_28 : Dc cX6_valueOf 28 (.if_icmp .ne 7) 3 31 := ⟨by decide +kernel, rfl⟩
theorem eX6_valueOf_31 : Dc cX6_valueOf 31 (.iconst 0) 1 32 := ⟨by decide +kernel, rfl⟩
theorem eX6_valueOf_32 : Dc cX6_valueOf 32 (.goto 25) 3 35 := ⟨by decide +kernel, rfl⟩
theorem eX6_valueOf_35 : Dc cX6_valueOf 35 (.iload_n 1) 1 36 := ⟨by decide +kernel, rfl⟩
theorem eX6_valueOf_36 : Dc cX6_valueOf 36 (.bipush 107) 2 38 := ⟨by decide +kernel, rfl⟩
theorem eX6_valueOf_38 : Dc cX6_valueOf 38 (.if_icmp .ne 7) 3 41 := ⟨by decide +kernel, rfl⟩
theorem eX6_valueOf_41 : Dc cX6_valueOf 41 (.iconst 1) 1 42 := ⟨by decide +kernel, rfl⟩
theorem eX6_valueOf_42 : Dc cX6_valueOf 42 (.goto 15) 3 45 := ⟨by decide +kernel, rfl⟩
theorem eX6_valueOf_45 : Dc cX6_valueOf 45 (.iload_n 1) 1 46 := ⟨by decide +kernel, rfl⟩
theorem eX6_valueOf_46 : Dc cX6_valueOf 46 (.bipush 103) 2 48 := ⟨by decide +kernel, rfl⟩
theorem eX6_valueOf_48 : Dc cX6_valueOf 48 (.if_icmp .ne 7) 3 51 := ⟨by decide +kernel, rfl⟩
theorem eX6_valueOf_51 : Dc cX6_valueOf 51 (.iconst 2) 1 52 := ⟨by decide +kernel, rfl⟩
theorem eX6_valueOf_52 : Dc cX6_valueOf 52 (.goto 5) 3 55 := ⟨by decide +kernel, rfl⟩
theorem eX6_valueOf_55 : Dc cX6_valueOf 55 (.bipush (-6)) 2 57 := ⟨by decide +kernel, rfl⟩
theorem eX6_valueOf_57 : Dc cX6_valueOf 57 (.ireturn) 1 58 := ⟨by decide +kernel, rfl⟩
theorem eX6_signs_0 : Dc cX6_signs 0 (.aload_n 0) 1 1 := ⟨by decide +kernel, rfl⟩
theorem eX6_signs_1 : Dc cX6_signs 1 (.getfield 7) 3 4 := ⟨by decide +kernel, rfl⟩
theorem eX6_signs_4 : Dc cX6_signs 4 (.sipush 128) 3 7 := ⟨by decide +kernel, rfl⟩
theorem eX6_signs_7 : Dc cX6_signs 7 (.iaload) 1 8 := ⟨by decide +kernel, rfl⟩
theorem eX6_signs_8 : Dc cX6_signs 8 (.aload_n 0) 1 9 := ⟨by decide +kernel, rfl⟩
theorem eX6_signs_9 : Dc cX6_signs 9 (.getfield 7) 3 12 := ⟨by decide +kernel, rfl⟩
theorem eX6_signs_12 : Dc cX6_signs 12 (.sipush 129) 3 15 := ⟨by decide +kernel, rfl⟩
theorem eX6_signs_15 : Dc cX6_signs 15 (.iaload) 1 16 := ⟨by decide +kernel, rfl⟩
theorem eX6_signs_16 : Dc cX6_signs 16 (.imul) 1 17 := ⟨by decide +kernel, rfl⟩
theorem eX6_signs_17 : Dc cX6_signs 17 (.aload_n 0) 1 18 := ⟨by decide +kernel, rfl⟩
theorem eX6_signs_18 : Dc cX6_signs 18 (.getfield 7) 3 21 := ⟨by decide +kernel, rfl⟩
theorem eX6_signs_21 : Dc cX6_signs 21 (.sipush 129) 3 24 := ⟨by decide +kernel, rfl⟩
theorem eX6_signs_24 : Dc cX6_signs 24 (.iaload) 1 25 := ⟨by decide +kernel, rfl⟩
theorem eX6_signs_25 : Dc cX6_signs 25 (.iadd) 1 26 := ⟨by decide +kernel, rfl⟩
theorem eX6_signs_26 : Dc cX6_signs 26 (.iconst 1) 1 27 := ⟨by decide +kernel, rfl⟩
theorem eX6_signs_27 : Dc cX6_signs 27 (.isub) 1 28 := ⟨by decide +kernel, rfl⟩
theorem eX6_signs_28 : Dc cX6_signs 28 (.ireturn) 1 29 := ⟨by decide +kernel, rfl⟩
theorem eX6_isBetween_0 : Dc cX6_isBetween 0 (.iload_n 1) 1 1 := ⟨by decide +kernel, rfl⟩
theorem eX6_isBetween_1 : Dc cX6_isBetween 1 (.aload_n 0) 1 2 := ⟨by decide +kernel, rfl⟩
theorem eX6_isBetween_2 : Dc cX6_isBetween 2 (.getfield 7) 3 5 := ⟨by decide +kernel, rfl⟩
theorem eX6_isBetween_5 : Dc cX6_isBetween 5 (.sipush 128) 3 8 := ⟨by decide +kernel, rfl⟩
theorem eX6_isBetween_8 : Dc cX6_isBetween 8 (.iaload) 1 9 := ⟨by decide +kernel, rfl⟩
theorem eX6_isBetween_9 : Dc cX6_isBetween 9 (.iconst 1) 1 10 := ⟨by decide +kernel, rfl⟩
theorem eX6_isBetween_10 : Dc cX6_isBetween 10 (.iadd) 1 11 := ⟨by decide +kernel, rfl⟩
theorem eX6_isBetween_11 : Dc cX6_isBetween 11 (.irem) 1 12 := ⟨by decide +kernel, rfl⟩
theorem eX6_isBetween_12 : Dc cX6_isBetween 12 (.aload_n 0) 1 13 := ⟨by decide +kernel, rfl⟩
theorem eX6_isBetween_13 : Dc cX6_isBetween 13 (.getfield 7) 3 16 := ⟨by decide +kernel, rfl⟩
theorem eX6_isBetween_16 : Dc cX6_isBetween 16 (.sipush 128) 3 19 := ⟨by decide +kernel, rfl⟩
theorem eX6_isBetween_19 : Dc cX6_isBetween 19 (.iaload) 1 20 := ⟨by decide +kernel, rfl⟩
theorem eX6_isBetween_20 : Dc cX6_isBetween 20 (.if_icmp .ne 7) 3 23 := ⟨by decide +kernel, rfl⟩
theorem eX6_isBetween_23 : Dc cX6_isBetween 23 (.iconst 1) 1 24 := ⟨by decide +kernel, rfl⟩
theorem eX6_isBetween_24 : Dc cX6_isBetween 24 (.goto 4) 3 27 := ⟨by decide +kernel, rfl⟩
theorem eX6_isBetween_27 : Dc cX6_isBetween 27 (.iconst 0) 1 28 := ⟨by decide +kernel, rfl⟩
theorem eX6_isBetween_28 : Dc cX6_isBetween 28 (.ireturn) 1 29 := ⟨by decide +kernel, rfl⟩
theorem eX6_faultAs_0 : Dc cX6_faultAs 0 (.iconst 0) 1 1 := ⟨by decide +kernel, rfl⟩
theorem eX6_faultAs_1 : Dc cX6_faultAs 1 (.istore_n 2) 1 2 := ⟨by decide +kernel, rfl⟩
theorem eX6_faultAs_2 : Dc cX6_faultAs 2 (.iload_n 2) 1 3 := ⟨by decide +kernel, rfl⟩
theorem eX6_faultAs_3 : Dc cX6_faultAs 3 (.aload_n 0) 1 4 := ⟨by decide +kernel, rfl⟩
theorem eX6_faultAs_4 : Dc cX6_faultAs 4 (.getfield 127) 3 7 := ⟨by decide +kernel, rfl⟩
theorem eX6_faultAs_7 : Dc cX6_faultAs 7 (.if_icmp .ge 70) 3 10 := ⟨by decide +kernel, rfl⟩
theorem eX6_faultAs_10 : Dc cX6_faultAs 10 (.aload_n 0) 1 11 := ⟨by decide +kernel, rfl⟩
theorem eX6_faultAs_11 : Dc cX6_faultAs 11 (.iload_n 2) 1 12 := ⟨by decide +kernel, rfl⟩
theorem eX6_faultAs_12 : Dc cX6_faultAs 12 (.invokevirtual 130) 3 15 := ⟨by decide +kernel, rfl⟩
theorem eX6_faultAs_15 : Dc cX6_faultAs 15 (.ifCond .eq 22) 3 18 := ⟨by decide +kernel, rfl⟩
theorem eX6_faultAs_18 : Dc cX6_faultAs 18 (.aload_n 0) 1 19 := ⟨by decide +kernel, rfl⟩
theorem eX6_faultAs_19 : Dc cX6_faultAs 19 (.getfield 20) 3 22 := ⟨by decide +kernel, rfl⟩
theorem eX6_faultAs_22 : Dc cX6_faultAs 22 (.iload_n 2) 1 23 := ⟨by decide +kernel, rfl⟩
theorem eX6_faultAs_23 : Dc cX6_faultAs 23 (.iaload) 1 24 := ⟨by decide +kernel, rfl⟩
theorem eX6_faultAs_24 : Dc cX6_faultAs 24 (.bipush 47) 2 26 := ⟨by decide +kernel, rfl⟩
theorem eX6_faultAs_26 : Dc cX6_faultAs 26 (.if_icmp .ne 7) 3 29 := ⟨by decide +kernel, rfl⟩
theorem eX6_faultAs_29 : Dc cX6_faultAs 29 (.iconst 1) 1 30 := ⟨by decide +kernel, rfl⟩
theorem eX6_faultAs_30 : Dc cX6_faultAs 30 (.goto 26) 3 33 := ⟨by decide +kernel, rfl⟩
theorem eX6_faultAs_33 : Dc cX6_faultAs 33 (.iconst 0) 1 34 := ⟨by decide +kernel, rfl⟩
theorem eX6_faultAs_34 : Dc cX6_faultAs 34 (.goto 22) 3 37 := ⟨by decide +kernel, rfl⟩
theorem eX6_faultAs_37 : Dc cX6_faultAs 37 (.aload_n 0) 1 38 := ⟨by decide +kernel, rfl⟩
theorem eX6_faultAs_38 : Dc cX6_faultAs 38 (.aload_n 0) 1 39 := ⟨by decide +kernel, rfl⟩
theorem eX6_faultAs_39 : Dc cX6_faultAs 39 (.getfield 20) 3 42 := ⟨by decide +kernel, rfl⟩
theorem eX6_faultAs_42 : Dc cX6_faultAs 42 (.iload_n 2) 1 43 := ⟨by decide +kernel, rfl⟩
theorem eX6_faultAs_43 : Dc cX6_faultAs 43 (.iaload) 1 44 := ⟨by decide +kernel, rfl⟩
theorem eX6_faultAs_44 : Dc cX6_faultAs 44 (.iload_n 1) 1 45 := ⟨by decide +kernel, rfl⟩
theorem eX6_faultAs_45 : Dc cX6_faultAs 45 (.invokevirtual 134) 3 48 := ⟨by decide +kernel, rfl⟩
theorem eX6_faultAs_48 : Dc cX6_faultAs 48 (.ifCond .lt 7) 3 51 := ⟨by decide +kernel, rfl⟩
theorem eX6_faultAs_51 : Dc cX6_faultAs 51 (.iconst 1) 1 52 := ⟨by decide +kernel, rfl⟩
theorem eX6_faultAs_52 : Dc cX6_faultAs 52 (.goto 4) 3 55 := ⟨by decide +kernel, rfl⟩
theorem eX6_faultAs_55 : Dc cX6_faultAs 55 (.iconst 0) 1 56 := ⟨by decide +kernel, rfl⟩
theorem eX6_faultAs_56 : Dc cX6_faultAs 56 (.istore_n 3) 1 57 := ⟨by decide +kernel, rfl⟩
theorem eX6_faultAs_57 : Dc cX6_faultAs 57 (.iload_n 3) 1 58 := ⟨by decide +kernel, rfl⟩
theorem eX6_faultAs_58 : Dc cX6_faultAs 58 (.ifCond .eq 11) 3 61 := ⟨by decide +kernel, rfl⟩
theorem eX6_faultAs_61 : Dc cX6_faultAs 61 (.iload_n 2) 1 62 := ⟨by decide +kernel, rfl⟩
theorem eX6_faultAs_62 : Dc cX6_faultAs 62 (.aload_n 0) 1 63 := ⟨by decide +kernel, rfl⟩
theorem eX6_faultAs_63 : Dc cX6_faultAs 63 (.invokevirtual 137) 3 66 := ⟨by decide +kernel, rfl⟩
theorem eX6_faultAs_66 : Dc cX6_faultAs 66 (.if_icmp .lt 5) 3 69 := ⟨by decide +kernel, rfl⟩
theorem eX6_faultAs_69 : Dc cX6_faultAs 69 (.iload_n 2) 1 70 := ⟨by decide +kernel, rfl⟩
theorem eX6_faultAs_70 : Dc cX6_faultAs 70 (.ireturn) 1 71 := ⟨by decide +kernel, rfl⟩
theorem eX6_faultAs_71 : Dc cX6_faultAs 71 (.iinc 2 1) 3 74 := ⟨by decide +kernel, rfl⟩
theorem eX6_faultAs_74 : Dc cX6_faultAs 74 (.goto (-72)) 3 77 := ⟨by decide +kernel, rfl⟩
theorem eX6_faultAs_77 : Dc cX6_faultAs 77 (.aload_n 0) 1 78 := ⟨by decide +kernel, rfl⟩
theorem eX6_faultAs_78 : Dc cX6_faultAs 78 (.getfield 127) 3 81 := ⟨by decide +kernel, rfl⟩
theorem eX6_faultAs_81 : Dc cX6_faultAs 81 (.aload_n 0) 1 82 := ⟨by decide +kernel, rfl⟩
theorem eX6_faultAs_82 : Dc cX6_faultAs 82 (.invokevirtual 137) 3 85 := ⟨by decide +kernel, rfl⟩
theorem eX6_faultAs_85 : Dc cX6_faultAs 85 (.if_icmp .ge 10) 3 88 := ⟨by decide +kernel, rfl⟩
theorem eX6_faultAs_88 : Dc cX6_faultAs 88 (.aload_n 0) 1 89 := ⟨by decide +kernel, rfl⟩
theorem eX6_faultAs_89 : Dc cX6_faultAs 89 (.getfield 127) 3 92 := ⟨by decide +kernel, rfl⟩
theorem eX6_faultAs_92 : Dc cX6_faultAs 92 (.goto 5) 3 95 := ⟨by decide +kernel, rfl⟩
theorem eX6_faultAs_95 : Dc cX6_faultAs 95 (.bipush (-6)) 2 97 := ⟨by decide +kernel, rfl⟩
theorem eX6_faultAs_97 : Dc cX6_faultAs 97 (.ireturn) 1 98 := ⟨by decide +kernel, rfl⟩
theorem eX6_fault_0 : Dc cX6_fault 0 (.iload_n 1) 1 1 := ⟨by decide +kernel, rfl⟩
theorem eX6_fault_1 : Dc cX6_fault 1 (.iconst 0) 1 2 := ⟨by decide +kernel, rfl⟩
theorem eX6_fault_2 : Dc cX6_fault 2 (.iconst 1) 1 3 := ⟨by decide +kernel, rfl⟩
theorem eX6_fault_3 : Dc cX6_fault 3 (.invokestatic 41) 3 6 := ⟨by decide +kernel, rfl⟩
theorem eX6_fault_6 : Dc cX6_fault 6 (.ifCond .eq 11) 3 9 := ⟨by decide +kernel, rfl⟩
theorem eX6_fault_9 : Dc cX6_fault 9 (.aload_n 0) 1 10 := ⟨by decide +kernel, rfl⟩
theorem eX6_fault_10 : Dc cX6_fault 10 (.iload_n 1) 1 11 := ⟨by decide +kernel, rfl⟩
theorem eX6_fault_11 : Dc cX6_fault 11 (.invokevirtual 141) 3 14 := ⟨by decide +kernel, rfl⟩
theorem eX6_fault_14 : Dc cX6_fault 14 (.goto 5) 3 17 := ⟨by decide +kernel, rfl⟩
theorem eX6_fault_17 : Dc cX6_fault 17 (.bipush (-2)) 2 19 := ⟨by decide +kernel, rfl⟩
theorem eX6_fault_19 : Dc cX6_fault 19 (.ireturn) 1 20 := ⟨by decide +kernel, rfl⟩
theorem eX6_lay_0 : Dc cX6_lay 0 (.iload_n 1) 1 1 := ⟨by decide +kernel, rfl⟩
theorem eX6_lay_1 : Dc cX6_lay 1 (.iconst 0) 1 2 := ⟨by decide +kernel, rfl⟩
theorem eX6_lay_2 : Dc cX6_lay 2 (.iconst 1) 1 3 := ⟨by decide +kernel, rfl⟩
theorem eX6_lay_3 : Dc cX6_lay 3 (.invokestatic 41) 3 6 := ⟨by decide +kernel, rfl⟩
theorem eX6_lay_6 : Dc cX6_lay 6 (.ifCond .ne 6) 3 9 := ⟨by decide +kernel, rfl⟩
theorem eX6_lay_9 : Dc cX6_lay 9 (.bipush (-2)) 2 11 := ⟨by decide +kernel, rfl⟩
theorem eX6_lay_11 : Dc cX6_lay 11 (.ireturn) 1 12 := ⟨by decide +kernel, rfl⟩
theorem eX6_lay_12 : Dc cX6_lay 12 (.aload_n 0) 1 13 := ⟨by decide +kernel, rfl⟩
theorem eX6_lay_13 : Dc cX6_lay 13 (.iload_n 1) 1 14 := ⟨by decide +kernel, rfl⟩
theorem eX6_lay_14 : Dc cX6_lay 14 (.invokevirtual 141) 3 17 := ⟨by decide +kernel, rfl⟩
theorem eX6_lay_17 : Dc cX6_lay 17 (.ifCond .lt 6) 3 20 := ⟨by decide +kernel, rfl⟩
theorem eX6_lay_20 : Dc cX6_lay 20 (.bipush (-7)) 2 22 := ⟨by decide +kernel, rfl⟩
theorem eX6_lay_22 : Dc cX6_lay 22 (.ireturn) 1 23 := ⟨by decide +kernel, rfl⟩
theorem eX6_lay_23 : Dc cX6_lay 23 (.iconst 0) 1 24 := ⟨by decide +kernel, rfl⟩
theorem eX6_lay_24 : Dc cX6_lay 24 (.istore_n 2) 1 25 := ⟨by decide +kernel, rfl⟩
theorem eX6_lay_25 : Dc cX6_lay 25 (.iconst 0) 1 26 := ⟨by decide +kernel, rfl⟩
theorem eX6_lay_26 : Dc cX6_lay 26 (.istore_n 3) 1 27 := ⟨by decide +kernel, rfl⟩
theorem eX6_lay_27 : Dc cX6_lay 27 (.iload_n 3) 1 28 := ⟨by decide +kernel, rfl⟩
theorem eX6_lay_28 : Dc cX6_lay 28 (.aload_n 0) 1 29 := ⟨by decide +kernel, rfl⟩
theorem eX6_lay_29 : Dc cX6_lay 29 (.getfield 127) 3 32 := ⟨by decide +kernel, rfl⟩
theorem eX6_lay_32 : Dc cX6_lay 32 (.if_icmp .ge 99) 3 35 := ⟨by decide +kernel, rfl⟩
theorem eX6_lay_35 : Dc cX6_lay 35 (.aload_n 0) 1 36 := ⟨by decide +kernel, rfl⟩
theorem eX6_lay_36 : Dc cX6_lay 36 (.iload_n 3) 1 37 := ⟨by decide +kernel, rfl⟩
theorem eX6_lay_37 : Dc cX6_lay 37 (.invokevirtual 130) 3 40 := ⟨by decide +kernel, rfl⟩
theorem eX6_lay_40 : Dc cX6_lay 40 (.ifCond .ne 85) 3 43 := ⟨by decide +kernel, rfl⟩
theorem eX6_lay_43 : Dc cX6_lay 43 (.iload_n 1) 1 44 := ⟨by decide +kernel, rfl⟩
theorem eX6_lay_44 : Dc cX6_lay 44 (.ifCond .ne 7) 3 47 := ⟨by decide +kernel, rfl⟩
theorem eX6_lay_47 : Dc cX6_lay 47 (.iconst 0) 1 48 := ⟨by decide +kernel, rfl⟩
theorem eX6_lay_48 : Dc cX6_lay 48 (.goto 5) 3 51 := ⟨by decide +kernel, rfl⟩
theorem eX6_lay_51 : Dc cX6_lay 51 (.bipush 64) 2 53 := ⟨by decide +kernel, rfl⟩
theorem eX6_lay_53 : Dc cX6_lay 53 (.iload_n 3) 1 54 := ⟨by decide +kernel, rfl⟩
theorem eX6_lay_54 : Dc cX6_lay 54 (.aload_n 0) 1 55 := ⟨by decide +kernel, rfl⟩
theorem eX6_lay_55 : Dc cX6_lay 55 (.getfield 7) 3 58 := ⟨by decide +kernel, rfl⟩
theorem eX6_lay_58 : Dc cX6_lay 58 (.sipush 128) 3 61 := ⟨by decide +kernel, rfl⟩
theorem eX6_lay_61 : Dc cX6_lay 61 (.iaload) 1 62 := ⟨by decide +kernel, rfl⟩
theorem eX6_lay_62 : Dc cX6_lay 62 (.iconst 1) 1 63 := ⟨by decide +kernel, rfl⟩
theorem eX6_lay_63 : Dc cX6_lay 63 (.iadd) 1 64 := ⟨by decide +kernel, rfl⟩
theorem eX6_lay_64 : Dc cX6_lay 64 (.irem) 1 65 := ⟨by decide +kernel, rfl⟩
theorem eX6_lay_65 : Dc cX6_lay 65 (.iload_n 3) 1 66 := ⟨by decide +kernel, rfl⟩
theorem eX6_lay_66 : Dc cX6_lay 66 (.aload_n 0) 1 67 := ⟨by decide +kernel, rfl⟩
theorem eX6_lay_67 : Dc cX6_lay 67 (.getfield 7) 3 70 := ⟨by decide +kernel, rfl⟩
theorem eX6_lay_70 : Dc cX6_lay 70 (.sipush 128) 3 73 := ⟨by decide +kernel, rfl⟩
theorem eX6_lay_73 : Dc cX6_lay 73 (.iaload) 1 74 := ⟨by decide +kernel, rfl⟩
theorem eX6_lay_74 : Dc cX6_lay 74 (.iconst 1) 1 75 := ⟨by decide +kernel, rfl⟩
theorem eX6_lay_75 : Dc cX6_lay 75 (.iadd) 1 76 := ⟨by decide +kernel, rfl⟩
theorem eX6_lay_76 : Dc cX6_lay 76 (.idiv) 1 77 := ⟨by decide +kernel, rfl⟩
theorem eX6_lay_77 : Dc cX6_lay 77 (.invokestatic 52) 3 80 := ⟨by decide +kernel, rfl⟩
theorem eX6_lay_80 : Dc cX6_lay 80 (.iadd) 1 81 := ⟨by decide +kernel, rfl⟩
theorem eX6_lay_81 : Dc cX6_lay 81 (.istore 4) 2 83 := ⟨by decide +kernel, rfl⟩
theorem eX6_lay_83 : Dc cX6_lay 83 (.aload_n 0) 1 84 := ⟨by decide +kernel, rfl⟩
theorem eX6_lay_84 : Dc cX6_lay 84 (.aload_n 0) 1 85 := ⟨by decide +kernel, rfl⟩
theorem eX6_lay_85 : Dc cX6_lay 85 (.getfield 20) 3 88 := ⟨by decide +kernel, rfl⟩
theorem eX6_lay_88 : Dc cX6_lay 88 (.iload_n 3) 1 89 := ⟨by decide +kernel, rfl⟩
theorem eX6_lay_89 : Dc cX6_lay 89 (.iaload) 1 90 := ⟨by decide +kernel, rfl⟩
theorem eX6_lay_90 : Dc cX6_lay 90 (.iload_n 1) 1 91 := ⟨by decide +kernel, rfl⟩
theorem eX6_lay_91 : Dc cX6_lay 91 (.invokevirtual 134) 3 94 := ⟨by decide +kernel, rfl⟩
theorem eX6_lay_94 : Dc cX6_lay 94 (.istore 5) 2 96 := ⟨by decide +kernel, rfl⟩
theorem eX6_lay_96 : Dc cX6_lay 96 (.iload_n 2) 1 97 := ⟨by decide +kernel, rfl⟩
theorem eX6_lay_97 : Dc cX6_lay 97 (.aload_n 0) 1 98 := ⟨by decide +kernel, rfl⟩
theorem eX6_lay_98 : Dc cX6_lay 98 (.getfield 7) 3 101 := ⟨by decide +kernel, rfl⟩
theorem eX6_lay_101 : Dc cX6_lay 101 (.iload 4) 2 103 := ⟨by decide +kernel, rfl⟩
theorem eX6_lay_103 : Dc cX6_lay 103 (.iaload) 1 104 := ⟨by decide +kernel, rfl⟩
theorem eX6_lay_104 : Dc cX6_lay 104 (.iload 5) 2 106 := ⟨by decide +kernel, rfl⟩
theorem eX6_lay_106 : Dc cX6_lay 106 (.if_icmp .ne 7) 3 109 := ⟨by decide +kernel, rfl⟩
theorem eX6_lay_109 : Dc cX6_lay 109 (.iconst 0) 1 110 := ⟨by decide +kernel, rfl⟩
theorem eX6_lay_110 : Dc cX6_lay 110 (.goto 4) 3 113 := ⟨by decide +kernel, rfl⟩
theorem eX6_lay_113 : Dc cX6_lay 113 (.iconst 1) 1 114 := ⟨by decide +kernel, rfl⟩
theorem eX6_lay_114 : Dc cX6_lay 114 (.iadd) 1 115 := ⟨by decide +kernel, rfl⟩
theorem eX6_lay_115 : Dc cX6_lay 115 (.istore_n 2) 1 116 := ⟨by decide +kernel, rfl⟩
theorem eX6_lay_116 : Dc cX6_lay 116 (.aload_n 0) 1 117 := ⟨by decide +kernel, rfl⟩
theorem eX6_lay_117 : Dc cX6_lay 117 (.getfield 7) 3 120 := ⟨by decide +kernel, rfl⟩
theorem eX6_lay_120 : Dc cX6_lay 120 (.iload 4) 2 122 := ⟨by decide +kernel, rfl⟩
theorem eX6_lay_122 : Dc cX6_lay 122 (.iload 5) 2 124 := ⟨by decide +kernel, rfl⟩
theorem eX6_lay_124 : Dc cX6_lay 124 (.iastore) 1 125 := ⟨by decide +kernel, rfl⟩
theorem eX6_lay_125 : Dc cX6_lay 125 (.iinc 3 1) 3 128 := ⟨by decide +kernel, rfl⟩
theorem eX6_lay_128 : Dc cX6_lay 128 (.goto (-101)) 3 131 := ⟨by decide +kernel, rfl⟩
theorem eX6_lay_131 : Dc cX6_lay 131 (.aload_n 0) 1 132 := ⟨by decide +kernel, rfl⟩
theorem eX6_lay_132 : Dc cX6_lay 132 (.iconst 0) 1 133 := ⟨by decide +kernel, rfl⟩
theorem eX6_lay_133 : Dc cX6_lay 133 (.putfield 127) 3 136 := ⟨by decide +kernel, rfl⟩
theorem eX6_lay_136 : Dc cX6_lay 136 (.iload_n 2) 1 137 := ⟨by decide +kernel, rfl⟩
theorem eX6_lay_137 : Dc cX6_lay 137 (.ireturn) 1 138 := ⟨by decide +kernel, rfl⟩
theorem eX6_isWay_0 : Dc cX6_isWay 0 (.iload_n 0) 1 1 := ⟨by decide +kernel, rfl⟩
theorem eX6_isWay_1 : Dc cX6_isWay 1 (.iconst 0) 1 2 := ⟨by decide +kernel, rfl⟩
theorem eX6_isWay_2 : Dc cX6_isWay 2 (.iconst 1) 1 3 := ⟨by decide +kernel, rfl⟩
theorem eX6_isWay_3 : Dc cX6_isWay 3 (.invokestatic 41) 3 6 := ⟨by decide +kernel, rfl⟩
theorem eX6_isWay_6 : Dc cX6_isWay 6 (.ireturn) 1 7 := ⟨by decide +kernel, rfl⟩
theorem eX6_seam_0 : Dc cX6_seam 0 (.iload_n 1) 1 1 := ⟨by decide +kernel, rfl⟩
theorem eX6_seam_1 : Dc cX6_seam 1 (.invokestatic 144) 3 4 := ⟨by decide +kernel, rfl⟩
theorem eX6_seam_4 : Dc cX6_seam 4 (.ifCond .eq 8) 3 7 := ⟨by decide +kernel, rfl⟩
theorem eX6_seam_7 : Dc cX6_seam 7 (.iload_n 2) 1 8 := ⟨by decide +kernel, rfl⟩
theorem eX6_seam_8 : Dc cX6_seam 8 (.iconst (-1)) 1 9 := ⟨by decide +kernel, rfl⟩
theorem eX6_seam_9 : Dc cX6_seam 9 (.if_icmp .ge 6) 3 12 := ⟨by decide +kernel, rfl⟩
theorem eX6_seam_12 : Dc cX6_seam 12 (.bipush (-2)) 2 14 := ⟨by decide +kernel, rfl⟩
theorem eX6_seam_14 : Dc cX6_seam 14 (.ireturn) 1 15 := ⟨by decide +kernel, rfl⟩
theorem eX6_seam_15 : Dc cX6_seam 15 (.aload_n 0) 1 16 := ⟨by decide +kernel, rfl⟩
theorem eX6_seam_16 : Dc cX6_seam 16 (.invokevirtual 124) 3 19 := ⟨by decide +kernel, rfl⟩
theorem eX6_seam_19 : Dc cX6_seam 19 (.aload_n 0) 1 20 := ⟨by decide +kernel, rfl⟩
theorem eX6_seam_20 : Dc cX6_seam 20 (.iload_n 1) 1 21 := ⟨by decide +kernel, rfl⟩
theorem eX6_seam_21 : Dc cX6_seam 21 (.invokevirtual 110) 3 24 := ⟨by decide +kernel, rfl⟩
theorem eX6_seam_24 : Dc cX6_seam 24 (.iload_n 2) 1 25 := ⟨by decide +kernel, rfl⟩
theorem eX6_seam_25 : Dc cX6_seam 25 (.iconst (-1)) 1 26 := ⟨by decide +kernel, rfl⟩
theorem eX6_seam_26 : Dc cX6_seam 26 (.if_icmp .ne 14) 3 29 := ⟨by decide +kernel, rfl⟩
theorem eX6_seam_29 : Dc cX6_seam 29 (.aload_n 0) 1 30 := ⟨by decide +kernel, rfl⟩
theorem eX6_seam_30 : Dc cX6_seam 30 (.getfield 94) 3 33 := ⟨by decide +kernel, rfl⟩
theorem eX6_seam_33 : Dc cX6_seam 33 (.sipush 10000) 3 36 := ⟨by decide +kernel, rfl⟩
theorem eX6_seam_36 : Dc cX6_seam 36 (.iadd) 1 37 := ⟨by decide +kernel, rfl⟩
theorem eX6_seam_37 : Dc cX6_seam 37 (.goto 22) 3 40 := ⟨by decide +kernel, rfl⟩
theorem eX6_seam_40 : Dc cX6_seam 40 (.iload_n 2) 1 41 := ⟨by decide +kernel, rfl⟩
theorem eX6_seam_41 : Dc cX6_seam 41 (.aload_n 0) 1 42 := ⟨by decide +kernel, rfl⟩
theorem eX6_seam_42 : Dc cX6_seam 42 (.getfield 49) 3 45 := ⟨by decide +kernel, rfl⟩
theorem eX6_seam_45 : Dc cX6_seam 45 (.if_icmp .ge 12) 3 48 := ⟨by decide +kernel, rfl⟩
theorem eX6_seam_48 : Dc cX6_seam 48 (.aload_n 0) 1 49 := ⟨by decide +kernel, rfl⟩
theorem eX6_seam_49 : Dc cX6_seam 49 (.getfield 32) 3 52 := ⟨by decide +kernel, rfl⟩
theorem eX6_seam_52 : Dc cX6_seam 52 (.iload_n 2) 1 53 := ⟨by decide +kernel, rfl⟩
theorem eX6_seam_53 : Dc cX6_seam 53 (.iaload) 1 54 := ⟨by decide +kernel, rfl⟩
theorem eX6_seam_54 : Dc cX6_seam 54 (.goto 5) 3 57 := ⟨by decide +kernel, rfl⟩
theorem eX6_seam_57 : Dc cX6_seam 57 (.bipush (-6)) 2 59 := ⟨by decide +kernel, rfl⟩
theorem eX6_seam_59 : Dc cX6_seam 59 (.ireturn) 1 60 := ⟨by decide +kernel, rfl⟩
theorem eX6_layNumber_0 : Dc cX6_layNumber 0 (.iload_n 1) 1 1 := ⟨by decide +kernel, rfl⟩
theorem eX6_layNumber_1 : Dc cX6_layNumber 1 (.istore_n 2) 1 2 := ⟨by decide +kernel, rfl⟩
theorem eX6_layNumber_2 : Dc cX6_layNumber 2 (.aload_n 0) 1 3 := ⟨by decide +kernel, rfl⟩
theorem eX6_layNumber_3 : Dc cX6_layNumber 3 (.getfield 49) 3 6 := ⟨by decide +kernel, rfl⟩
theorem eX6_layNumber_6 : Dc cX6_layNumber 6 (.iconst 1) 1 7 := ⟨by decide +kernel, rfl⟩
theorem eX6_layNumber_7 : Dc cX6_layNumber 7 (.isub) 1 8 := ⟨by decide +kernel, rfl⟩
theorem eX6_layNumber_8 : Dc cX6_layNumber 8 (.istore_n 3) 1 9 := ⟨by decide +kernel, rfl⟩
theorem eX6_layNumber_9 : Dc cX6_layNumber 9 (.iload_n 3) 1 10 := ⟨by decide +kernel, rfl⟩
theorem eX6_layNumber_10 : Dc cX6_layNumber 10 (.ifCond .lt 24) 3 13 := ⟨by decide +kernel, rfl⟩
theorem eX6_layNumber_13 : Dc cX6_layNumber 13 (.aload_n 0) 1 14 := ⟨by decide +kernel, rfl⟩
theorem eX6_layNumber_14 : Dc cX6_layNumber 14 (.getfield 32) 3 17 := ⟨by decide +kernel, rfl⟩
theorem eX6_layNumber_17 : Dc cX6_layNumber 17 (.iload_n 3) 1 18 := ⟨by decide +kernel, rfl⟩
theorem eX6_layNumber_18 : Dc cX6_layNumber 18 (.iload_n 2) 1 19 := ⟨by decide +kernel, rfl⟩
theorem eX6_layNumber_19 : Dc cX6_layNumber 19 (.bipush 10) 2 21 := ⟨by decide +kernel, rfl⟩
theorem eX6_layNumber_21 : Dc cX6_layNumber 21 (.irem) 1 22 := ⟨by decide +kernel, rfl⟩
theorem eX6_layNumber_22 : Dc cX6_layNumber 22 (.iastore) 1 23 := ⟨by decide +kernel, rfl⟩
theorem eX6_layNumber_23 : Dc cX6_layNumber 23 (.iload_n 2) 1 24 := ⟨by decide +kernel, rfl⟩
theorem eX6_layNumber_24 : Dc cX6_layNumber 24 (.bipush 10) 2 26 := ⟨by decide +kernel, rfl⟩
theorem eX6_layNumber_26 : Dc cX6_layNumber 26 (.idiv) 1 27 := ⟨by decide +kernel, rfl⟩
theorem eX6_layNumber_27 : Dc cX6_layNumber 27 (.istore_n 2) 1 28 := ⟨by decide +kernel, rfl⟩
theorem eX6_layNumber_28 : Dc cX6_layNumber 28 (.iinc 3 (-1)) 3 31 := ⟨by decide +kernel, rfl⟩
theorem eX6_layNumber_31 : Dc cX6_layNumber 31 (.goto (-22)) 3 34 := ⟨by decide +kernel, rfl⟩
theorem eX6_layNumber_34 : Dc cX6_layNumber 34 (.iload_n 2) 1 35 := ⟨by decide +kernel, rfl⟩
theorem eX6_layNumber_35 : Dc cX6_layNumber 35 (.ifCond .ne 7) 3 38 := ⟨by decide +kernel, rfl⟩
theorem eX6_layNumber_38 : Dc cX6_layNumber 38 (.iconst 1) 1 39 := ⟨by decide +kernel, rfl⟩
theorem eX6_layNumber_39 : Dc cX6_layNumber 39 (.goto 4) 3 42 := ⟨by decide +kernel, rfl⟩
theorem eX6_layNumber_42 : Dc cX6_layNumber 42 (.iconst 0) 1 43 := ⟨by decide +kernel, rfl⟩
theorem eX6_layNumber_43 : Dc cX6_layNumber 43 (.istore_n 3) 1 44 := ⟨by decide +kernel, rfl⟩
theorem eX6_layNumber_44 : Dc cX6_layNumber 44 (.iconst 0) 1 45 := ⟨by decide +kernel, rfl⟩
theorem eX6_layNumber_45 : Dc cX6_layNumber 45 (.istore 4) 2 47 := ⟨by decide +kernel, rfl⟩
theorem eX6_layNumber_47 : Dc cX6_layNumber 47 (.iload 4) 2 49 := ⟨by decide +kernel, rfl⟩
theorem eX6_layNumber_49 : Dc cX6_layNumber 49 (.aload_n 0) 1 50 := ⟨by decide +kernel, rfl⟩
theorem eX6_layNumber_50 : Dc cX6_layNumber 50 (.getfield 49) 3 53 := ⟨by decide +kernel, rfl⟩
theorem eX6_layNumber_53 : Dc cX6_layNumber 53 (.if_icmp .ge 62) 3 56 := ⟨by decide +kernel, rfl⟩
theorem eX6_layNumber_56 : Dc cX6_layNumber 56 (.iload_n 3) 1 57 := ⟨by decide +kernel, rfl⟩
theorem eX6_layNumber_57 : Dc cX6_layNumber 57 (.ifCond .eq 50) 3 60 := ⟨by decide +kernel, rfl⟩
theorem eX6_layNumber_60 : Dc cX6_layNumber 60 (.aload_n 0) 1 61 := ⟨by decide +kernel, rfl⟩
theorem eX6_layNumber_61 : Dc cX6_layNumber 61 (.getfield 32) 3 64 := ⟨by decide +kernel, rfl⟩
theorem eX6_layNumber_64 : Dc cX6_layNumber 64 (.iload 4) 2 66 := ⟨by decide +kernel, rfl⟩
theorem eX6_layNumber_66 : Dc cX6_layNumber 66 (.iaload) 1 67 := ⟨by decide +kernel, rfl⟩
theorem eX6_layNumber_67 : Dc cX6_layNumber 67 (.aload_n 0) 1 68 := ⟨by decide +kernel, rfl⟩
theorem eX6_layNumber_68 : Dc cX6_layNumber 68 (.getfield 45) 3 71 := ⟨by decide +kernel, rfl⟩
theorem eX6_layNumber_71 : Dc cX6_layNumber 71 (.if_icmp .ge 36) 3 74 := ⟨by decide +kernel, rfl⟩
theorem eX6_layNumber_74 : Dc cX6_layNumber 74 (.iload 4) 2 76 := ⟨by decide +kernel, rfl⟩
theorem eX6_layNumber_76 : Dc cX6_layNumber 76 (.ifCond .eq 27) 3 79 := ⟨by decide +kernel, rfl⟩
theorem eX6_layNumber_79 : Dc cX6_layNumber 79 (.aload_n 0) 1 80 := ⟨by decide +kernel, rfl⟩
theorem eX6_layNumber_80 : Dc cX6_layNumber 80 (.getfield 32) 3 83 := ⟨by decide +kernel, rfl⟩
theorem eX6_layNumber_83 : Dc cX6_layNumber 83 (.iload 4) 2 85 := ⟨by decide +kernel, rfl⟩
theorem eX6_layNumber_85 : Dc cX6_layNumber 85 (.iaload) 1 86 := ⟨by decide +kernel, rfl⟩
theorem eX6_layNumber_86 : Dc cX6_layNumber 86 (.aload_n 0) 1 87 := ⟨by decide +kernel, rfl⟩
theorem eX6_layNumber_87 : Dc cX6_layNumber 87 (.getfield 32) 3 90 := ⟨by decide +kernel, rfl⟩
theorem eX6_layNumber_90 : Dc cX6_layNumber 90 (.iload 4) 2 92 := ⟨by decide +kernel, rfl⟩
theorem eX6_layNumber_92 : Dc cX6_layNumber 92 (.iconst 1) 1 93 := ⟨by decide +kernel, rfl⟩
theorem eX6_layNumber_93 : Dc cX6_layNumber 93 (.isub) 1 94 := ⟨by decide +kernel, rfl⟩
theorem eX6_layNumber_94 : Dc cX6_layNumber 94 (.iaload) 1 95 := ⟨by decide +kernel, rfl⟩
theorem eX6_layNumber_95 : Dc cX6_layNumber 95 (.isub) 1 96 := ⟨by decide +kernel, rfl⟩
theorem eX6_layNumber_96 : Dc cX6_layNumber 96 (.invokestatic 65) 3 99 := ⟨by decide +kernel, rfl⟩
theorem eX6_layNumber_99 : Dc cX6_layNumber 99 (.iconst 1) 1 100 := ⟨by decide +kernel, rfl⟩
theorem eX6_layNumber_100 : Dc cX6_layNumber 100 (.if_icmp .gt 7) 3 103 := ⟨by decide +kernel, rfl⟩
theorem eX6_layNumber_103 : Dc cX6_layNumber 103 (.iconst 1) 1 104 := ⟨by decide +kernel, rfl⟩
theorem eX6_layNumber_104 : Dc cX6_layNumber 104 (.goto 4) 3 107 := ⟨by decide +kernel, rfl⟩
theorem eX6_layNumber_107 : Dc cX6_layNumber 107 (.iconst 0) 1 108 := ⟨by decide +kernel, rfl⟩
theorem eX6_layNumber_108 : Dc cX6_layNumber 108 (.istore_n 3) 1 109 := ⟨by decide +kernel, rfl⟩
theorem eX6_layNumber_109 : Dc cX6_layNumber 109 (.iinc 4 1) 3 112 := ⟨by decide +kernel, rfl⟩
theorem eX6_layNumber_112 : Dc cX6_layNumber 112 (.goto (-65)) 3 115 := ⟨by decide +kernel, rfl⟩
theorem eX6_layNumber_115 : Dc cX6_layNumber 115 (.iload_n 3) 1 116 := ⟨by decide +kernel, rfl⟩
theorem eX6_layNumber_116 : Dc cX6_layNumber 116 (.ireturn) 1 117 := ⟨by decide +kernel, rfl⟩
theorem eX6_cost_0 : Dc cX6_cost 0 (.iload_n 1) 1 1 := ⟨by decide +kernel, rfl⟩
theorem eX6_cost_1 : Dc cX6_cost 1 (.invokestatic 144) 3 4 := ⟨by decide +kernel, rfl⟩
theorem eX6_cost_4 : Dc cX6_cost 4 (.ifCond .eq 7) 3 7 := ⟨by decide +kernel, rfl⟩
theorem eX6_cost_7 : Dc cX6_cost 7 (.iload_n 2) 1 8 := ⟨by decide +kernel, rfl⟩
theorem eX6_cost_8 : Dc cX6_cost 8 (.ifCond .ge 6) 3 11 := ⟨by decide +kernel, rfl⟩
theorem eX6_cost_11 : Dc cX6_cost 11 (.bipush (-2)) 2 13 := ⟨by decide +kernel, rfl⟩
theorem eX6_cost_13 : Dc cX6_cost 13 (.ireturn) 1 14 := ⟨by decide +kernel, rfl⟩
theorem eX6_cost_14 : Dc cX6_cost 14 (.aload_n 0) 1 15 := ⟨by decide +kernel, rfl⟩
theorem eX6_cost_15 : Dc cX6_cost 15 (.invokevirtual 124) 3 18 := ⟨by decide +kernel, rfl⟩
theorem eX6_cost_18 : Dc cX6_cost 18 (.iload_n 1) 1 19 := ⟨by decide +kernel, rfl⟩
theorem eX6_cost_19 : Dc cX6_cost 19 (.iconst 1) 1 20 := ⟨by decide +kernel, rfl⟩
theorem eX6_cost_20 : Dc cX6_cost 20 (.if_icmp .ne 7) 3 23 := ⟨by decide +kernel, rfl⟩
theorem eX6_cost_23 : Dc cX6_cost 23 (.aload_n 0) 1 24 := ⟨by decide +kernel, rfl⟩
theorem eX6_cost_24 : Dc cX6_cost 24 (.invokevirtual 97) 3 27 := ⟨by decide +kernel, rfl⟩
theorem eX6_cost_27 : Dc cX6_cost 27 (.aload_n 0) 1 28 := ⟨by decide +kernel, rfl⟩
theorem eX6_cost_28 : Dc cX6_cost 28 (.iload_n 2) 1 29 := ⟨by decide +kernel, rfl⟩
theorem eX6_cost_29 : Dc cX6_cost 29 (.invokevirtual 147) 3 32 := ⟨by decide +kernel, rfl⟩
theorem eX6_cost_32 : Dc cX6_cost 32 (.ifCond .ne 6) 3 35 := ⟨by decide +kernel, rfl⟩
theorem eX6_cost_35 : Dc cX6_cost 35 (.bipush (-5)) 2 37 := ⟨by decide +kernel, rfl⟩
theorem eX6_cost_37 : Dc cX6_cost 37 (.ireturn) 1 38 := ⟨by decide +kernel, rfl⟩
theorem eX6_cost_38 : Dc cX6_cost 38 (.iconst 0) 1 39 := ⟨by decide +kernel, rfl⟩
theorem eX6_cost_39 : Dc cX6_cost 39 (.istore_n 3) 1 40 := ⟨by decide +kernel, rfl⟩
theorem eX6_cost_40 : Dc cX6_cost 40 (.iconst 0) 1 41 := ⟨by decide +kernel, rfl⟩
theorem eX6_cost_41 : Dc cX6_cost 41 (.istore 4) 2 43 := ⟨by decide +kernel, rfl⟩
theorem eX6_cost_43 : Dc cX6_cost 43 (.iload 4) 2 45 := ⟨by decide +kernel, rfl⟩
theorem eX6_cost_45 : Dc cX6_cost 45 (.aload_n 0) 1 46 := ⟨by decide +kernel, rfl⟩
theorem eX6_cost_46 : Dc cX6_cost 46 (.getfield 49) 3 49 := ⟨by decide +kernel, rfl⟩
theorem eX6_cost_49 : Dc cX6_cost 49 (.if_icmp .ge 43) 3 52 := ⟨by decide +kernel, rfl⟩
theorem eX6_cost_52 : Dc cX6_cost 52 (.iload_n 3) 1 53 := ⟨by decide +kernel, rfl⟩
theorem eX6_cost_53 : Dc cX6_cost 53 (.aload_n 0) 1 54 := ⟨by decide +kernel, rfl⟩
theorem eX6_cost_54 : Dc cX6_cost 54 (.aload_n 0) 1 55 := ⟨by decide +kernel, rfl⟩
theorem eX6_cost_55 : Dc cX6_cost 55 (.getfield 32) 3 58 := ⟨by decide +kernel, rfl⟩
theorem eX6_cost_58 : Dc cX6_cost 58 (.iload 4) 2 60 := ⟨by decide +kernel, rfl⟩
theorem eX6_cost_60 : Dc cX6_cost 60 (.iaload) 1 61 := ⟨by decide +kernel, rfl⟩
theorem eX6_cost_61 : Dc cX6_cost 61 (.iload 4) 2 63 := ⟨by decide +kernel, rfl⟩
theorem eX6_cost_63 : Dc cX6_cost 63 (.aload_n 0) 1 64 := ⟨by decide +kernel, rfl⟩
theorem eX6_cost_64 : Dc cX6_cost 64 (.getfield 32) 3 67 := ⟨by decide +kernel, rfl⟩
theorem eX6_cost_67 : Dc cX6_cost 67 (.iload 4) 2 69 := ⟨by decide +kernel, rfl⟩
theorem eX6_cost_69 : Dc cX6_cost 69 (.ifCond .le 10) 3 72 := ⟨by decide +kernel, rfl⟩
theorem eX6_cost_72 : Dc cX6_cost 72 (.iload 4) 2 74 := ⟨by decide +kernel, rfl⟩
theorem eX6_cost_74 : Dc cX6_cost 74 (.iconst 1) 1 75 := ⟨by decide +kernel, rfl⟩
theorem eX6_cost_75 : Dc cX6_cost 75 (.isub) 1 76 := ⟨by decide +kernel, rfl⟩
theorem eX6_cost_76 : Dc cX6_cost 76 (.goto 4) 3 79 := ⟨by decide +kernel, rfl⟩
theorem eX6_cost_79 : Dc cX6_cost 79 (.iconst 0) 1 80 := ⟨by decide +kernel, rfl⟩
theorem eX6_cost_80 : Dc cX6_cost 80 (.iaload) 1 81 := ⟨by decide +kernel, rfl⟩
theorem eX6_cost_81 : Dc cX6_cost 81 (.invokevirtual 87) 3 84 := ⟨by decide +kernel, rfl⟩
theorem eX6_cost_84 : Dc cX6_cost 84 (.iadd) 1 85 := ⟨by decide +kernel, rfl⟩
theorem eX6_cost_85 : Dc cX6_cost 85 (.istore_n 3) 1 86 := ⟨by decide +kernel, rfl⟩
theorem eX6_cost_86 : Dc cX6_cost 86 (.iinc 4 1) 3 89 := ⟨by decide +kernel, rfl⟩
theorem eX6_cost_89 : Dc cX6_cost 89 (.goto (-46)) 3 92 := ⟨by decide +kernel, rfl⟩
theorem eX6_cost_92 : Dc cX6_cost 92 (.iload_n 3) 1 93 := ⟨by decide +kernel, rfl⟩
theorem eX6_cost_93 : Dc cX6_cost 93 (.sipush 10000) 3 96 := ⟨by decide +kernel, rfl⟩
theorem eX6_cost_96 : Dc cX6_cost 96 (.iadd) 1 97 := ⟨by decide +kernel, rfl⟩
theorem eX6_cost_97 : Dc cX6_cost 97 (.ireturn) 1 98 := ⟨by decide +kernel, rfl⟩
theorem eX6_cut_0 : Dc cX6_cut 0 (.iload_n 1) 1 1 := ⟨by decide +kernel, rfl⟩
theorem eX6_cut_1 : Dc cX6_cut 1 (.invokestatic 144) 3 4 := ⟨by decide +kernel, rfl⟩
theorem eX6_cut_4 : Dc cX6_cut 4 (.ifCond .ne 6) 3 7 := ⟨by decide +kernel, rfl⟩
theorem eX6_cut_7 : Dc cX6_cut 7 (.bipush (-2)) 2 9 := ⟨by decide +kernel, rfl⟩
theorem eX6_cut_9 : Dc cX6_cut 9 (.ireturn) 1 10 := ⟨by decide +kernel, rfl⟩
theorem eX6_cut_10 : Dc cX6_cut 10 (.aload_n 0) 1 11 := ⟨by decide +kernel, rfl⟩
theorem eX6_cut_11 : Dc cX6_cut 11 (.getfield 7) 3 14 := ⟨by decide +kernel, rfl⟩
theorem eX6_cut_14 : Dc cX6_cut 14 (.sipush 128) 3 17 := ⟨by decide +kernel, rfl⟩
theorem eX6_cut_17 : Dc cX6_cut 17 (.iload_n 1) 1 18 := ⟨by decide +kernel, rfl⟩
theorem eX6_cut_18 : Dc cX6_cut 18 (.iadd) 1 19 := ⟨by decide +kernel, rfl⟩
theorem eX6_cut_19 : Dc cX6_cut 19 (.iaload) 1 20 := ⟨by decide +kernel, rfl⟩
theorem eX6_cut_20 : Dc cX6_cut 20 (.iconst 2) 1 21 := ⟨by decide +kernel, rfl⟩
theorem eX6_cut_21 : Dc cX6_cut 21 (.if_icmp .ne 6) 3 24 := ⟨by decide +kernel, rfl⟩
theorem eX6_cut_24 : Dc cX6_cut 24 (.bipush (-3)) 2 26 := ⟨by decide +kernel, rfl⟩
theorem eX6_cut_26 : Dc cX6_cut 26 (.ireturn) 1 27 := ⟨by decide +kernel, rfl⟩
theorem eX6_cut_27 : Dc cX6_cut 27 (.aload_n 0) 1 28 := ⟨by decide +kernel, rfl⟩
theorem eX6_cut_28 : Dc cX6_cut 28 (.invokevirtual 124) 3 31 := ⟨by decide +kernel, rfl⟩
theorem eX6_cut_31 : Dc cX6_cut 31 (.aload_n 0) 1 32 := ⟨by decide +kernel, rfl⟩
theorem eX6_cut_32 : Dc cX6_cut 32 (.iload_n 1) 1 33 := ⟨by decide +kernel, rfl⟩
theorem eX6_cut_33 : Dc cX6_cut 33 (.invokevirtual 150) 3 36 := ⟨by decide +kernel, rfl⟩
theorem eX6_cut_36 : Dc cX6_cut 36 (.istore_n 2) 1 37 := ⟨by decide +kernel, rfl⟩
theorem eX6_cut_37 : Dc cX6_cut 37 (.aload_n 0) 1 38 := ⟨by decide +kernel, rfl⟩
theorem eX6_cut_38 : Dc cX6_cut 38 (.invokevirtual 153) 3 41 := ⟨by decide +kernel, rfl⟩
theorem eX6_cut_41 : Dc cX6_cut 41 (.iload_n 2) 1 42 := ⟨by decide +kernel, rfl⟩
theorem eX6_cut_42 : Dc cX6_cut 42 (.sipush 10000) 3 45 := ⟨by decide +kernel, rfl⟩
theorem eX6_cut_45 : Dc cX6_cut 45 (.iadd) 1 46 := ⟨by decide +kernel, rfl⟩
theorem eX6_cut_46 : Dc cX6_cut 46 (.ireturn) 1 47 := ⟨by decide +kernel, rfl⟩
theorem eX6_add_0 : Dc cX6_add 0 (.iload_n 1) 1 1 := ⟨by decide +kernel, rfl⟩
theorem eX6_add_1 : Dc cX6_add 1 (.invokestatic 144) 3 4 := ⟨by decide +kernel, rfl⟩
theorem eX6_add_4 : Dc cX6_add 4 (.ifCond .ne 6) 3 7 := ⟨by decide +kernel, rfl⟩
theorem eX6_add_7 : Dc cX6_add 7 (.bipush (-2)) 2 9 := ⟨by decide +kernel, rfl⟩
theorem eX6_add_9 : Dc cX6_add 9 (.ireturn) 1 10 := ⟨by decide +kernel, rfl⟩
theorem eX6_add_10 : Dc cX6_add 10 (.aload_n 0) 1 11 := ⟨by decide +kernel, rfl⟩
theorem eX6_add_11 : Dc cX6_add 11 (.getfield 7) 3 14 := ⟨by decide +kernel, rfl⟩
theorem eX6_add_14 : Dc cX6_add 14 (.sipush 128) 3 17 := ⟨by decide +kernel, rfl⟩
theorem eX6_add_17 : Dc cX6_add 17 (.iload_n 1) 1 18 := ⟨by decide +kernel, rfl⟩
theorem eX6_add_18 : Dc cX6_add 18 (.iadd) 1 19 := ⟨by decide +kernel, rfl⟩
theorem eX6_add_19 : Dc cX6_add 19 (.iaload) 1 20 := ⟨by decide +kernel, rfl⟩
theorem eX6_add_20 : Dc cX6_add 20 (.bipush 8) 2 22 := ⟨by decide +kernel, rfl⟩
theorem eX6_add_22 : Dc cX6_add 22 (.if_icmp .ne 6) 3 25 := ⟨by decide +kernel, rfl⟩
theorem eX6_add_25 : Dc cX6_add 25 (.bipush (-3)) 2 27 := ⟨by decide +kernel, rfl⟩
theorem eX6_add_27 : Dc cX6_add 27 (.ireturn) 1 28 := ⟨by decide +kernel, rfl⟩
theorem eX6_add_28 : Dc cX6_add 28 (.aload_n 0) 1 29 := ⟨by decide +kernel, rfl⟩
theorem eX6_add_29 : Dc cX6_add 29 (.invokevirtual 124) 3 32 := ⟨by decide +kernel, rfl⟩
theorem eX6_add_32 : Dc cX6_add 32 (.aload_n 0) 1 33 := ⟨by decide +kernel, rfl⟩
theorem eX6_add_33 : Dc cX6_add 33 (.iload_n 1) 1 34 := ⟨by decide +kernel, rfl⟩
theorem eX6_add_34 : Dc cX6_add 34 (.invokevirtual 110) 3 37 := ⟨by decide +kernel, rfl⟩
theorem eX6_add_37 : Dc cX6_add 37 (.aload_n 0) 1 38 := ⟨by decide +kernel, rfl⟩
theorem eX6_add_38 : Dc cX6_add 38 (.invokevirtual 156) 3 41 := ⟨by decide +kernel, rfl⟩
theorem eX6_add_41 : Dc cX6_add 41 (.aload_n 0) 1 42 := ⟨by decide +kernel, rfl⟩
theorem eX6_add_42 : Dc cX6_add 42 (.iload_n 1) 1 43 := ⟨by decide +kernel, rfl⟩
theorem eX6_add_43 : Dc cX6_add 43 (.invokevirtual 117) 3 46 := ⟨by decide +kernel, rfl⟩
theorem eX6_add_46 : Dc cX6_add 46 (.aload_n 0) 1 47 := ⟨by decide +kernel, rfl⟩
theorem eX6_add_47 : Dc cX6_add 47 (.invokevirtual 153) 3 50 := ⟨by decide +kernel, rfl⟩
theorem eX6_add_50 : Dc cX6_add 50 (.aload_n 0) 1 51 := ⟨by decide +kernel, rfl⟩
theorem eX6_add_51 : Dc cX6_add 51 (.getfield 94) 3 54 := ⟨by decide +kernel, rfl⟩
theorem eX6_add_54 : Dc cX6_add 54 (.sipush 10000) 3 57 := ⟨by decide +kernel, rfl⟩
theorem eX6_add_57 : Dc cX6_add 57 (.iadd) 1 58 := ⟨by decide +kernel, rfl⟩
theorem eX6_add_58 : Dc cX6_add 58 (.ireturn) 1 59 := ⟨by decide +kernel, rfl⟩
theorem eX6_least_0 : Dc cX6_least 0 (.iload_n 1) 1 1 := ⟨by decide +kernel, rfl⟩
theorem eX6_least_1 : Dc cX6_least 1 (.invokestatic 144) 3 4 := ⟨by decide +kernel, rfl⟩
theorem eX6_least_4 : Dc cX6_least 4 (.ifCond .ne 6) 3 7 := ⟨by decide +kernel, rfl⟩
theorem eX6_least_7 : Dc cX6_least 7 (.bipush (-2)) 2 9 := ⟨by decide +kernel, rfl⟩
theorem eX6_least_9 : Dc cX6_least 9 (.ireturn) 1 10 := ⟨by decide +kernel, rfl⟩
theorem eX6_least_10 : Dc cX6_least 10 (.iload_n 2) 1 11 := ⟨by decide +kernel, rfl⟩
theorem eX6_least_11 : Dc cX6_least 11 (.iconst 0) 1 12 := ⟨by decide +kernel, rfl⟩
theorem eX6_least_12 : Dc cX6_least 12 (.aload_n 0) 1 13 := ⟨by decide +kernel, rfl⟩
theorem eX6_least_13 : Dc cX6_least 13 (.getfield 7) 3 16 := ⟨by decide +kernel, rfl⟩
theorem eX6_least_16 : Dc cX6_least 16 (.sipush 129) 3 19 := ⟨by decide +kernel, rfl⟩
theorem eX6_least_19 : Dc cX6_least 19 (.iload_n 1) 1 20 := ⟨by decide +kernel, rfl⟩
theorem eX6_least_20 : Dc cX6_least 20 (.isub) 1 21 := ⟨by decide +kernel, rfl⟩
theorem eX6_least_21 : Dc cX6_least 21 (.iaload) 1 22 := ⟨by decide +kernel, rfl⟩
theorem eX6_least_22 : Dc cX6_least 22 (.iconst 1) 1 23 := ⟨by decide +kernel, rfl⟩
theorem eX6_least_23 : Dc cX6_least 23 (.isub) 1 24 := ⟨by decide +kernel, rfl⟩
theorem eX6_least_24 : Dc cX6_least 24 (.invokestatic 41) 3 27 := ⟨by decide +kernel, rfl⟩
theorem eX6_least_27 : Dc cX6_least 27 (.ifCond .ne 5) 3 30 := ⟨by decide +kernel, rfl⟩
theorem eX6_least_30 : Dc cX6_least 30 (.iconst (-1)) 1 31 := ⟨by decide +kernel, rfl⟩
theorem eX6_least_31 : Dc cX6_least 31 (.ireturn) 1 32 := ⟨by decide +kernel, rfl⟩
theorem eX6_least_32 : Dc cX6_least 32 (.aload_n 0) 1 33 := ⟨by decide +kernel, rfl⟩
theorem eX6_least_33 : Dc cX6_least 33 (.invokevirtual 124) 3 36 := ⟨by decide +kernel, rfl⟩
theorem eX6_least_36 : Dc cX6_least 36 (.iload_n 1) 1 37 := ⟨by decide +kernel, rfl⟩
theorem eX6_least_37 : Dc cX6_least 37 (.iconst 1) 1 38 := ⟨by decide +kernel, rfl⟩
theorem eX6_least_38 : Dc cX6_least 38 (.if_icmp .ne 7) 3 41 := ⟨by decide +kernel, rfl⟩
theorem eX6_least_41 : Dc cX6_least 41 (.aload_n 0) 1 42 := ⟨by decide +kernel, rfl⟩
theorem eX6_least_42 : Dc cX6_least 42 (.invokevirtual 97) 3 45 := ⟨by decide +kernel, rfl⟩
theorem eX6_least_45 : Dc cX6_least 45 (.iconst 0) 1 46 := ⟨by decide +kernel, rfl⟩
theorem eX6_least_46 : Dc cX6_least 46 (.istore_n 3) 1 47 := ⟨by decide +kernel, rfl⟩
theorem eX6_least_47 : Dc cX6_least 47 (.iconst 1) 1 48 := ⟨by decide +kernel, rfl⟩
theorem eX6_least_48 : Dc cX6_least 48 (.istore 4) 2 50 := ⟨by decide +kernel, rfl⟩
theorem eX6_least_50 : Dc cX6_least 50 (.iload 4) 2 52 := ⟨by decide +kernel, rfl⟩
theorem eX6_least_52 : Dc cX6_least 52 (.aload_n 0) 1 53 := ⟨by decide +kernel, rfl⟩
theorem eX6_least_53 : Dc cX6_least 53 (.getfield 45) 3 56 := ⟨by decide +kernel, rfl⟩
theorem eX6_least_56 : Dc cX6_least 56 (.if_icmp .ge 32) 3 59 := ⟨by decide +kernel, rfl⟩
theorem eX6_least_59 : Dc cX6_least 59 (.aload_n 0) 1 60 := ⟨by decide +kernel, rfl⟩
theorem eX6_least_60 : Dc cX6_least 60 (.iload 4) 2 62 := ⟨by decide +kernel, rfl⟩
theorem eX6_least_62 : Dc cX6_least 62 (.iload_n 2) 1 63 := ⟨by decide +kernel, rfl⟩
theorem eX6_least_63 : Dc cX6_least 63 (.invokevirtual 84) 3 66 := ⟨by decide +kernel, rfl⟩
theorem eX6_least_66 : Dc cX6_least 66 (.aload_n 0) 1 67 := ⟨by decide +kernel, rfl⟩
theorem eX6_least_67 : Dc cX6_least 67 (.iload_n 3) 1 68 := ⟨by decide +kernel, rfl⟩
theorem eX6_least_68 : Dc cX6_least 68 (.iload_n 2) 1 69 := ⟨by decide +kernel, rfl⟩
theorem eX6_least_69 : Dc cX6_least 69 (.invokevirtual 84) 3 72 := ⟨by decide +kernel, rfl⟩
theorem eX6_least_72 : Dc cX6_least 72 (.if_icmp .ge 8) 3 75 := ⟨by decide +kernel, rfl⟩
theorem eX6_least_75 : Dc cX6_least 75 (.iload 4) 2 77 := ⟨by decide +kernel, rfl⟩
theorem eX6_least_77 : Dc cX6_least 77 (.goto 4) 3 80 := ⟨by decide +kernel, rfl⟩
theorem eX6_least_80 : Dc cX6_least 80 (.iload_n 3) 1 81 := ⟨by decide +kernel, rfl⟩
theorem eX6_least_81 : Dc cX6_least 81 (.istore_n 3) 1 82 := ⟨by decide +kernel, rfl⟩
theorem eX6_least_82 : Dc cX6_least 82 (.iinc 4 1) 3 85 := ⟨by decide +kernel, rfl⟩
theorem eX6_least_85 : Dc cX6_least 85 (.goto (-35)) 3 88 := ⟨by decide +kernel, rfl⟩
theorem eX6_least_88 : Dc cX6_least 88 (.iload_n 3) 1 89 := ⟨by decide +kernel, rfl⟩
theorem eX6_least_89 : Dc cX6_least 89 (.ireturn) 1 90 := ⟨by decide +kernel, rfl⟩
theorem eX6_bits_0 : Dc cX6_bits 0 (.iconst 0) 1 1 := ⟨by decide +kernel, rfl⟩
theorem eX6_bits_1 : Dc cX6_bits 1 (.istore_n 1) 1 2 := ⟨by decide +kernel, rfl⟩
theorem eX6_bits_2 : Dc cX6_bits 2 (.iconst 0) 1 3 := ⟨by decide +kernel, rfl⟩
theorem eX6_bits_3 : Dc cX6_bits 3 (.istore_n 2) 1 4 := ⟨by decide +kernel, rfl⟩
theorem eX6_bits_4 : Dc cX6_bits 4 (.iload_n 2) 1 5 := ⟨by decide +kernel, rfl⟩
theorem eX6_bits_5 : Dc cX6_bits 5 (.bipush 6) 2 7 := ⟨by decide +kernel, rfl⟩
theorem eX6_bits_7 : Dc cX6_bits 7 (.if_icmp .ge 17) 3 10 := ⟨by decide +kernel, rfl⟩
theorem eX6_bits_10 : Dc cX6_bits 10 (.iload_n 1) 1 11 := ⟨by decide +kernel, rfl⟩
theorem eX6_bits_11 : Dc cX6_bits 11 (.iload_n 0) 1 12 := ⟨by decide +kernel, rfl⟩
theorem eX6_bits_12 : Dc cX6_bits 12 (.iload_n 2) 1 13 := ⟨by decide +kernel, rfl⟩
theorem eX6_bits_13 : Dc cX6_bits 13 (.ishr) 1 14 := ⟨by decide +kernel, rfl⟩
theorem eX6_bits_14 : Dc cX6_bits 14 (.iconst 1) 1 15 := ⟨by decide +kernel, rfl⟩
theorem eX6_bits_15 : Dc cX6_bits 15 (.iand) 1 16 := ⟨by decide +kernel, rfl⟩
theorem eX6_bits_16 : Dc cX6_bits 16 (.iadd) 1 17 := ⟨by decide +kernel, rfl⟩
theorem eX6_bits_17 : Dc cX6_bits 17 (.istore_n 1) 1 18 := ⟨by decide +kernel, rfl⟩
theorem eX6_bits_18 : Dc cX6_bits 18 (.iinc 2 1) 3 21 := ⟨by decide +kernel, rfl⟩
theorem eX6_bits_21 : Dc cX6_bits 21 (.goto (-17)) 3 24 := ⟨by decide +kernel, rfl⟩
theorem eX6_bits_24 : Dc cX6_bits 24 (.iload_n 1) 1 25 := ⟨by decide +kernel, rfl⟩
theorem eX6_bits_25 : Dc cX6_bits 25 (.ireturn) 1 26 := ⟨by decide +kernel, rfl⟩
theorem eX6_goOrder_0 : Dc cX6_goOrder 0 (.aload_n 0) 1 1 := ⟨by decide +kernel, rfl⟩
theorem eX6_goOrder_1 : Dc cX6_goOrder 1 (.invokevirtual 124) 3 4 := ⟨by decide +kernel, rfl⟩
theorem eX6_goOrder_4 : Dc cX6_goOrder 4 (.aload_n 0) 1 5 := ⟨by decide +kernel, rfl⟩
theorem eX6_goOrder_5 : Dc cX6_goOrder 5 (.iconst 0) 1 6 := ⟨by decide +kernel, rfl⟩
theorem eX6_goOrder_6 : Dc cX6_goOrder 6 (.putfield 103) 3 9 := ⟨by decide +kernel, rfl⟩
theorem eX6_goOrder_9 : Dc cX6_goOrder 9 (.iconst 0) 1 10 := ⟨by decide +kernel, rfl⟩
theorem eX6_goOrder_10 : Dc cX6_goOrder 10 (.istore_n 3) 1 11 := ⟨by decide +kernel, rfl⟩
theorem eX6_goOrder_11 : Dc cX6_goOrder 11 (.iload_n 2) 1 12 := ⟨by decide +kernel, rfl⟩
theorem eX6_goOrder_12 : Dc cX6_goOrder 12 (.iconst 1) 1 13 := ⟨by decide +kernel, rfl⟩
theorem eX6_goOrder_13 : Dc cX6_goOrder 13 (.isub) 1 14 := ⟨by decide +kernel, rfl⟩
theorem eX6_goOrder_14 : Dc cX6_goOrder 14 (.istore 4) 2 16 := ⟨by decide +kernel, rfl⟩
theorem eX6_goOrder_16 : Dc cX6_goOrder 16 (.iload 4) 2 18 := ⟨by decide +kernel, rfl⟩
theorem eX6_goOrder_18 : Dc cX6_goOrder 18 (.ifCond .lt 22) 3 21 := ⟨by decide +kernel, rfl⟩
theorem eX6_goOrder_21 : Dc cX6_goOrder 21 (.iload_n 3) 1 22 := ⟨by decide +kernel, rfl⟩
theorem eX6_goOrder_22 : Dc cX6_goOrder 22 (.aload_n 0) 1 23 := ⟨by decide +kernel, rfl⟩
theorem eX6_goOrder_23 : Dc cX6_goOrder 23 (.iload_n 1) 1 24 := ⟨by decide +kernel, rfl⟩
theorem eX6_goOrder_24 : Dc cX6_goOrder 24 (.iload 4) 2 26 := ⟨by decide +kernel, rfl⟩
theorem eX6_goOrder_26 : Dc cX6_goOrder 26 (.ishr) 1 27 := ⟨by decide +kernel, rfl⟩
theorem eX6_goOrder_27 : Dc cX6_goOrder 27 (.iconst 1) 1 28 := ⟨by decide +kernel, rfl⟩
theorem eX6_goOrder_28 : Dc cX6_goOrder 28 (.iand) 1 29 := ⟨by decide +kernel, rfl⟩
theorem eX6_goOrder_29 : Dc cX6_goOrder 29 (.invokevirtual 150) 3 32 := ⟨by decide +kernel, rfl⟩
theorem eX6_goOrder_32 : Dc cX6_goOrder 32 (.iadd) 1 33 := ⟨by decide +kernel, rfl⟩
theorem eX6_goOrder_33 : Dc cX6_goOrder 33 (.istore_n 3) 1 34 := ⟨by decide +kernel, rfl⟩
theorem eX6_goOrder_34 : Dc cX6_goOrder 34 (.iinc 4 (-1)) 3 37 := ⟨by decide +kernel, rfl⟩
theorem eX6_goOrder_37 : Dc cX6_goOrder 37 (.goto (-21)) 3 40 := ⟨by decide +kernel, rfl⟩
theorem eX6_goOrder_40 : Dc cX6_goOrder 40 (.iload_n 3) 1 41 := ⟨by decide +kernel, rfl⟩
theorem eX6_goOrder_41 : Dc cX6_goOrder 41 (.ireturn) 1 42 := ⟨by decide +kernel, rfl⟩
end
section
theorem eX6_layBest_0 : Dc cX6_layBest 0 (.aload_n 0) 1 1 := ⟨by decide +kernel, rfl⟩
theorem eX6_layBest_1 : Dc cX6_layBest 1 (.bipush (-6)) 2 3 := ⟨by decide +kernel, rfl⟩
theorem eX6_layBest_3 : Dc cX6_layBest 3 (.putfield 159) 3 6 := ⟨by decide +kernel, rfl⟩
theorem eX6_layBest_6 : Dc cX6_layBest 6 (.aload_n 0) 1 7 := ⟨by decide +kernel, rfl⟩
theorem eX6_layBest_7 : Dc cX6_layBest 7 (.iconst 0) 1 8 := ⟨by decide +kernel, rfl⟩
theorem eX6_layBest_8 : Dc cX6_layBest 8 (.putfield 162) 3 11 := ⟨by decide +kernel, rfl⟩
theorem eX6_layBest_11 : Dc cX6_layBest 11 (.iconst 0) 1 12 := ⟨by decide +kernel, rfl⟩
theorem eX6_layBest_12 : Dc cX6_layBest 12 (.istore_n 3) 1 13 := ⟨by decide +kernel, rfl⟩
theorem eX6_layBest_13 : Dc cX6_layBest 13 (.iload_n 3) 1 14 := ⟨by decide +kernel, rfl⟩
theorem eX6_layBest_14 : Dc cX6_layBest 14 (.iconst 1) 1 15 := ⟨by decide +kernel, rfl⟩
theorem eX6_layBest_15 : Dc cX6_layBest 15 (.iload_n 1) 1 16 := ⟨by decide +kernel, rfl⟩
theorem eX6_layBest_16 : Dc cX6_layBest 16 (.iload_n 2) 1 17 := ⟨by decide +kernel, rfl⟩
theorem eX6_layBest_17 : Dc cX6_layBest 17 (.iadd) 1 18 := ⟨by decide +kernel, rfl⟩
theorem eX6_layBest_18 : Dc cX6_layBest 18 (.ishl) 1 19 := ⟨by decide +kernel, rfl⟩
theorem eX6_layBest_19 : Dc cX6_layBest 19 (.if_icmp .ge 90) 3 22 := ⟨by decide +kernel, rfl⟩
theorem eX6_layBest_22 : Dc cX6_layBest 22 (.iload_n 3) 1 23 := ⟨by decide +kernel, rfl⟩
theorem eX6_layBest_23 : Dc cX6_layBest 23 (.invokestatic 165) 3 26 := ⟨by decide +kernel, rfl⟩
theorem eX6_layBest_26 : Dc cX6_layBest 26 (.iload_n 2) 1 27 := ⟨by decide +kernel, rfl⟩
theorem eX6_layBest_27 : Dc cX6_layBest 27 (.if_icmp .ne 76) 3 30 := ⟨by decide +kernel, rfl⟩
theorem eX6_layBest_30 : Dc cX6_layBest 30 (.aload_n 0) 1 31 := ⟨by decide +kernel, rfl⟩
theorem eX6_layBest_31 : Dc cX6_layBest 31 (.iload_n 3) 1 32 := ⟨by decide +kernel, rfl⟩
theorem eX6_layBest_32 : Dc cX6_layBest 32 (.iload_n 1) 1 33 := ⟨by decide +kernel, rfl⟩
theorem eX6_layBest_33 : Dc cX6_layBest 33 (.iload_n 2) 1 34 := ⟨by decide +kernel, rfl⟩
theorem eX6_layBest_34 : Dc cX6_layBest 34 (.iadd) 1 35 := ⟨by decide +kernel, rfl⟩
theorem eX6_layBest_35 : Dc cX6_layBest 35 (.invokevirtual 168) 3 38 := ⟨by decide +kernel, rfl⟩
theorem eX6_layBest_38 : Dc cX6_layBest 38 (.istore 4) 2 40 := ⟨by decide +kernel, rfl⟩
theorem eX6_layBest_40 : Dc cX6_layBest 40 (.aload_n 0) 1 41 := ⟨by decide +kernel, rfl⟩
theorem eX6_layBest_41 : Dc cX6_layBest 41 (.getfield 159) 3 44 := ⟨by decide +kernel, rfl⟩
theorem eX6_layBest_44 : Dc cX6_layBest 44 (.ifCond .lt 12) 3 47 := ⟨by decide +kernel, rfl⟩
theorem eX6_layBest_47 : Dc cX6_layBest 47 (.iload 4) 2 49 := ⟨by decide +kernel, rfl⟩
theorem eX6_layBest_49 : Dc cX6_layBest 49 (.aload_n 0) 1 50 := ⟨by decide +kernel, rfl⟩
theorem eX6_layBest_50 : Dc cX6_layBest 50 (.getfield 171) 3 53 := ⟨by decide +kernel, rfl⟩
theorem eX6_layBest_53 : Dc cX6_layBest 53 (.if_icmp .ge 27) 3 56 := ⟨by decide +kernel, rfl⟩
theorem eX6_layBest_56 : Dc cX6_layBest 56 (.aload_n 0) 1 57 := ⟨by decide +kernel, rfl⟩
theorem eX6_layBest_57 : Dc cX6_layBest 57 (.iload 4) 2 59 := ⟨by decide +kernel, rfl⟩
theorem eX6_layBest_59 : Dc cX6_layBest 59 (.putfield 171) 3 62 := ⟨by decide +kernel, rfl⟩
theorem eX6_layBest_62 : Dc cX6_layBest 62 (.aload_n 0) 1 63 := ⟨by decide +kernel, rfl⟩
theorem eX6_layBest_63 : Dc cX6_layBest 63 (.iload_n 3) 1 64 := ⟨by decide +kernel, rfl⟩
theorem eX6_layBest_64 : Dc cX6_layBest 64 (.putfield 159) 3 67 := ⟨by decide +kernel, rfl⟩
theorem eX6_layBest_67 : Dc cX6_layBest 67 (.aload_n 0) 1 68 := ⟨by decide +kernel, rfl⟩
theorem eX6_layBest_68 : Dc cX6_layBest 68 (.aload_n 0) 1 69 := ⟨by decide +kernel, rfl⟩
theorem eX6_layBest_69 : Dc cX6_layBest 69 (.getfield 103) 3 72 := ⟨by decide +kernel, rfl⟩
theorem eX6_layBest_72 : Dc cX6_layBest 72 (.putfield 174) 3 75 := ⟨by decide +kernel, rfl⟩
theorem eX6_layBest_75 : Dc cX6_layBest 75 (.aload_n 0) 1 76 := ⟨by decide +kernel, rfl⟩
theorem eX6_layBest_76 : Dc cX6_layBest 76 (.iconst 0) 1 77 := ⟨by decide +kernel, rfl⟩
theorem eX6_layBest_77 : Dc cX6_layBest 77 (.putfield 162) 3 80 := ⟨by decide +kernel, rfl⟩
theorem eX6_layBest_80 : Dc cX6_layBest 80 (.aload_n 0) 1 81 := ⟨by decide +kernel, rfl⟩
theorem eX6_layBest_81 : Dc cX6_layBest 81 (.dup) 1 82 := ⟨by decide +kernel, rfl⟩
theorem eX6_layBest_82 : Dc cX6_layBest 82 (.getfield 162) 3 85 := ⟨by decide +kernel, rfl⟩
theorem eX6_layBest_85 : Dc cX6_layBest 85 (.iload 4) 2 87 := ⟨by decide +kernel, rfl⟩
theorem eX6_layBest_87 : Dc cX6_layBest 87 (.aload_n 0) 1 88 := ⟨by decide +kernel, rfl⟩
theorem eX6_layBest_88 : Dc cX6_layBest 88 (.getfield 171) 3 91 := ⟨by decide +kernel, rfl⟩
theorem eX6_layBest_91 : Dc cX6_layBest 91 (.if_icmp .ne 7) 3 94 := ⟨by decide +kernel, rfl⟩
theorem eX6_layBest_94 : Dc cX6_layBest 94 (.iconst 1) 1 95 := ⟨by decide +kernel, rfl⟩
theorem eX6_layBest_95 : Dc cX6_layBest 95 (.goto 4) 3 98 := ⟨by decide +kernel, rfl⟩
theorem eX6_layBest_98 : Dc cX6_layBest 98 (.iconst 0) 1 99 := ⟨by decide +kernel, rfl⟩
theorem eX6_layBest_99 : Dc cX6_layBest 99 (.iadd) 1 100 := ⟨by decide +kernel, rfl⟩
theorem eX6_layBest_100 : Dc cX6_layBest 100 (.putfield 162) 3 103 := ⟨by decide +kernel, rfl⟩
theorem eX6_layBest_103 : Dc cX6_layBest 103 (.iinc 3 1) 3 106 := ⟨by decide +kernel, rfl⟩
theorem eX6_layBest_106 : Dc cX6_layBest 106 (.goto (-93)) 3 109 := ⟨by decide +kernel, rfl⟩
theorem eX6_layBest_109 : Dc cX6_layBest 109 (.return_) 1 110 := ⟨by decide +kernel, rfl⟩
theorem eX6_turned_0 : Dc cX6_turned 0 (.iconst 0) 1 1 := ⟨by decide +kernel, rfl⟩
theorem eX6_turned_1 : Dc cX6_turned 1 (.istore_n 2) 1 2 := ⟨by decide +kernel, rfl⟩
theorem eX6_turned_2 : Dc cX6_turned 2 (.iconst 0) 1 3 := ⟨by decide +kernel, rfl⟩
theorem eX6_turned_3 : Dc cX6_turned 3 (.istore_n 3) 1 4 := ⟨by decide +kernel, rfl⟩
theorem eX6_turned_4 : Dc cX6_turned 4 (.iload_n 3) 1 5 := ⟨by decide +kernel, rfl⟩
theorem eX6_turned_5 : Dc cX6_turned 5 (.iload_n 1) 1 6 := ⟨by decide +kernel, rfl⟩
theorem eX6_turned_6 : Dc cX6_turned 6 (.if_icmp .ge 23) 3 9 := ⟨by decide +kernel, rfl⟩
theorem eX6_turned_9 : Dc cX6_turned 9 (.iload_n 2) 1 10 := ⟨by decide +kernel, rfl⟩
theorem eX6_turned_10 : Dc cX6_turned 10 (.iload_n 0) 1 11 := ⟨by decide +kernel, rfl⟩
theorem eX6_turned_11 : Dc cX6_turned 11 (.iload_n 3) 1 12 := ⟨by decide +kernel, rfl⟩
theorem eX6_turned_12 : Dc cX6_turned 12 (.ishr) 1 13 := ⟨by decide +kernel, rfl⟩
theorem eX6_turned_13 : Dc cX6_turned 13 (.iconst 1) 1 14 := ⟨by decide +kernel, rfl⟩
theorem eX6_turned_14 : Dc cX6_turned 14 (.iand) 1 15 := ⟨by decide +kernel, rfl⟩
theorem eX6_turned_15 : Dc cX6_turned 15 (.iload_n 1) 1 16 := ⟨by decide +kernel, rfl⟩
theorem eX6_turned_16 : Dc cX6_turned 16 (.iconst 1) 1 17 := ⟨by decide +kernel, rfl⟩
theorem eX6_turned_17 : Dc cX6_turned 17 (.isub) 1 18 := ⟨by decide +kernel, rfl⟩
theorem eX6_turned_18 : Dc cX6_turned 18 (.iload_n 3) 1 19 := ⟨by decide +kernel, rfl⟩
theorem eX6_turned_19 : Dc cX6_turned 19 (.isub) 1 20 := ⟨by decide +kernel, rfl⟩
theorem eX6_turned_20 : Dc cX6_turned 20 (.ishl) 1 21 := ⟨by decide +kernel, rfl⟩
theorem eX6_turned_21 : Dc cX6_turned 21 (.ior) 1 22 := ⟨by decide +kernel, rfl⟩
theorem eX6_turned_22 : Dc cX6_turned 22 (.istore_n 2) 1 23 := ⟨by decide +kernel, rfl⟩
theorem eX6_turned_23 : Dc cX6_turned 23 (.iinc 3 1) 3 26 := ⟨by decide +kernel, rfl⟩
theorem eX6_turned_26 : Dc cX6_turned 26 (.goto (-22)) 3 29 := ⟨by decide +kernel, rfl⟩
theorem eX6_turned_29 : Dc cX6_turned 29 (.iload_n 2) 1 30 := ⟨by decide +kernel, rfl⟩
theorem eX6_turned_30 : Dc cX6_turned 30 (.ireturn) 1 31 := ⟨by decide +kernel, rfl⟩
theorem eX6_canGo_0 : Dc cX6_canGo 0 (.iload_n 1) 1 1 := ⟨by decide +kernel, rfl⟩
theorem eX6_canGo_1 : Dc cX6_canGo 1 (.iconst 0) 1 2 := ⟨by decide +kernel, rfl⟩
theorem eX6_canGo_2 : Dc cX6_canGo 2 (.aload_n 0) 1 3 := ⟨by decide +kernel, rfl⟩
theorem eX6_canGo_3 : Dc cX6_canGo 3 (.getfield 7) 3 6 := ⟨by decide +kernel, rfl⟩
theorem eX6_canGo_6 : Dc cX6_canGo 6 (.sipush 128) 3 9 := ⟨by decide +kernel, rfl⟩
theorem eX6_canGo_9 : Dc cX6_canGo 9 (.iaload) 1 10 := ⟨by decide +kernel, rfl⟩
theorem eX6_canGo_10 : Dc cX6_canGo 10 (.iconst 2) 1 11 := ⟨by decide +kernel, rfl⟩
theorem eX6_canGo_11 : Dc cX6_canGo 11 (.isub) 1 12 := ⟨by decide +kernel, rfl⟩
theorem eX6_canGo_12 : Dc cX6_canGo 12 (.invokestatic 41) 3 15 := ⟨by decide +kernel, rfl⟩
theorem eX6_canGo_15 : Dc cX6_canGo 15 (.ifCond .eq 33) 3 18 := ⟨by decide +kernel, rfl⟩
theorem eX6_canGo_18 : Dc cX6_canGo 18 (.iload_n 2) 1 19 := ⟨by decide +kernel, rfl⟩
theorem eX6_canGo_19 : Dc cX6_canGo 19 (.iconst 0) 1 20 := ⟨by decide +kernel, rfl⟩
theorem eX6_canGo_20 : Dc cX6_canGo 20 (.aload_n 0) 1 21 := ⟨by decide +kernel, rfl⟩
theorem eX6_canGo_21 : Dc cX6_canGo 21 (.getfield 7) 3 24 := ⟨by decide +kernel, rfl⟩
theorem eX6_canGo_24 : Dc cX6_canGo 24 (.sipush 129) 3 27 := ⟨by decide +kernel, rfl⟩
theorem eX6_canGo_27 : Dc cX6_canGo 27 (.iaload) 1 28 := ⟨by decide +kernel, rfl⟩
theorem eX6_canGo_28 : Dc cX6_canGo 28 (.iconst 2) 1 29 := ⟨by decide +kernel, rfl⟩
theorem eX6_canGo_29 : Dc cX6_canGo 29 (.isub) 1 30 := ⟨by decide +kernel, rfl⟩
theorem eX6_canGo_30 : Dc cX6_canGo 30 (.invokestatic 41) 3 33 := ⟨by decide +kernel, rfl⟩
theorem eX6_canGo_33 : Dc cX6_canGo 33 (.ifCond .eq 15) 3 36 := ⟨by decide +kernel, rfl⟩
theorem eX6_canGo_36 : Dc cX6_canGo 36 (.iload_n 1) 1 37 := ⟨by decide +kernel, rfl⟩
theorem eX6_canGo_37 : Dc cX6_canGo 37 (.iload_n 2) 1 38 := ⟨by decide +kernel, rfl⟩
theorem eX6_canGo_38 : Dc cX6_canGo 38 (.iadd) 1 39 := ⟨by decide +kernel, rfl⟩
theorem eX6_canGo_39 : Dc cX6_canGo 39 (.bipush 6) 2 41 := ⟨by decide +kernel, rfl⟩
theorem eX6_canGo_41 : Dc cX6_canGo 41 (.if_icmp .gt 7) 3 44 := ⟨by decide +kernel, rfl⟩
theorem eX6_canGo_44 : Dc cX6_canGo 44 (.iconst 1) 1 45 := ⟨by decide +kernel, rfl⟩
theorem eX6_canGo_45 : Dc cX6_canGo 45 (.goto 4) 3 48 := ⟨by decide +kernel, rfl⟩
theorem eX6_canGo_48 : Dc cX6_canGo 48 (.iconst 0) 1 49 := ⟨by decide +kernel, rfl⟩
theorem eX6_canGo_49 : Dc cX6_canGo 49 (.ireturn) 1 50 := ⟨by decide +kernel, rfl⟩
theorem eX6_best_0 : Dc cX6_best 0 (.aload_n 0) 1 1 := ⟨by decide +kernel, rfl⟩
theorem eX6_best_1 : Dc cX6_best 1 (.iload_n 1) 1 2 := ⟨by decide +kernel, rfl⟩
theorem eX6_best_2 : Dc cX6_best 2 (.iload_n 2) 1 3 := ⟨by decide +kernel, rfl⟩
theorem eX6_best_3 : Dc cX6_best 3 (.invokevirtual 177) 3 6 := ⟨by decide +kernel, rfl⟩
theorem eX6_best_6 : Dc cX6_best 6 (.ifCond .eq 12) 3 9 := ⟨by decide +kernel, rfl⟩
theorem eX6_best_9 : Dc cX6_best 9 (.iload_n 3) 1 10 := ⟨by decide +kernel, rfl⟩
theorem eX6_best_10 : Dc cX6_best 10 (.iconst 0) 1 11 := ⟨by decide +kernel, rfl⟩
theorem eX6_best_11 : Dc cX6_best 11 (.iconst 3) 1 12 := ⟨by decide +kernel, rfl⟩
theorem eX6_best_12 : Dc cX6_best 12 (.invokestatic 41) 3 15 := ⟨by decide +kernel, rfl⟩
theorem eX6_best_15 : Dc cX6_best 15 (.ifCond .ne 6) 3 18 := ⟨by decide +kernel, rfl⟩
theorem eX6_best_18 : Dc cX6_best 18 (.bipush (-2)) 2 20 := ⟨by decide +kernel, rfl⟩
theorem eX6_best_20 : Dc cX6_best 20 (.ireturn) 1 21 := ⟨by decide +kernel, rfl⟩
theorem eX6_best_21 : Dc cX6_best 21 (.aload_n 0) 1 22 := ⟨by decide +kernel, rfl⟩
theorem eX6_best_22 : Dc cX6_best 22 (.iload_n 1) 1 23 := ⟨by decide +kernel, rfl⟩
theorem eX6_best_23 : Dc cX6_best 23 (.iload_n 2) 1 24 := ⟨by decide +kernel, rfl⟩
theorem eX6_best_24 : Dc cX6_best 24 (.invokevirtual 180) 3 27 := ⟨by decide +kernel, rfl⟩
theorem eX6_best_27 : Dc cX6_best 27 (.iload_n 3) 1 28 := ⟨by decide +kernel, rfl⟩
theorem eX6_best_28 : Dc cX6_best 28 (.ifCond .ne 14) 3 31 := ⟨by decide +kernel, rfl⟩
theorem eX6_best_31 : Dc cX6_best 31 (.aload_n 0) 1 32 := ⟨by decide +kernel, rfl⟩
theorem eX6_best_32 : Dc cX6_best 32 (.getfield 171) 3 35 := ⟨by decide +kernel, rfl⟩
theorem eX6_best_35 : Dc cX6_best 35 (.sipush 10000) 3 38 := ⟨by decide +kernel, rfl⟩
theorem eX6_best_38 : Dc cX6_best 38 (.iadd) 1 39 := ⟨by decide +kernel, rfl⟩
theorem eX6_best_39 : Dc cX6_best 39 (.goto 37) 3 42 := ⟨by decide +kernel, rfl⟩
theorem eX6_best_42 : Dc cX6_best 42 (.iload_n 3) 1 43 := ⟨by decide +kernel, rfl⟩
theorem eX6_best_43 : Dc cX6_best 43 (.iconst 1) 1 44 := ⟨by decide +kernel, rfl⟩
theorem eX6_best_44 : Dc cX6_best 44 (.if_icmp .ne 10) 3 47 := ⟨by decide +kernel, rfl⟩
theorem eX6_best_47 : Dc cX6_best 47 (.aload_n 0) 1 48 := ⟨by decide +kernel, rfl⟩
theorem eX6_best_48 : Dc cX6_best 48 (.getfield 162) 3 51 := ⟨by decide +kernel, rfl⟩
theorem eX6_best_51 : Dc cX6_best 51 (.goto 25) 3 54 := ⟨by decide +kernel, rfl⟩
theorem eX6_best_54 : Dc cX6_best 54 (.iload_n 3) 1 55 := ⟨by decide +kernel, rfl⟩
theorem eX6_best_55 : Dc cX6_best 55 (.iconst 2) 1 56 := ⟨by decide +kernel, rfl⟩
theorem eX6_best_56 : Dc cX6_best 56 (.if_icmp .ne 16) 3 59 := ⟨by decide +kernel, rfl⟩
theorem eX6_best_59 : Dc cX6_best 59 (.aload_n 0) 1 60 := ⟨by decide +kernel, rfl⟩
theorem eX6_best_60 : Dc cX6_best 60 (.getfield 159) 3 63 := ⟨by decide +kernel, rfl⟩
theorem eX6_best_63 : Dc cX6_best 63 (.iload_n 1) 1 64 := ⟨by decide +kernel, rfl⟩
theorem eX6_best_64 : Dc cX6_best 64 (.iload_n 2) 1 65 := ⟨by decide +kernel, rfl⟩
theorem eX6_best_65 : Dc cX6_best 65 (.iadd) 1 66 := ⟨by decide +kernel, rfl⟩
theorem eX6_best_66 : Dc cX6_best 66 (.invokestatic 184) 3 69 := ⟨by decide +kernel, rfl⟩
theorem eX6_best_69 : Dc cX6_best 69 (.goto 7) 3 72 := ⟨by decide +kernel, rfl⟩
theorem eX6_best_72 : Dc cX6_best 72 (.aload_n 0) 1 73 := ⟨by decide +kernel, rfl⟩
theorem eX6_best_73 : Dc cX6_best 73 (.getfield 174) 3 76 := ⟨by decide +kernel, rfl⟩
theorem eX6_best_76 : Dc cX6_best 76 (.ireturn) 1 77 := ⟨by decide +kernel, rfl⟩
theorem eX6_save_0 : Dc cX6_save 0 (.iconst 0) 1 1 := ⟨by decide +kernel, rfl⟩
theorem eX6_save_1 : Dc cX6_save 1 (.istore_n 2) 1 2 := ⟨by decide +kernel, rfl⟩
theorem eX6_save_2 : Dc cX6_save 2 (.iload_n 2) 1 3 := ⟨by decide +kernel, rfl⟩
theorem eX6_save_3 : Dc cX6_save 3 (.bipush 64) 2 5 := ⟨by decide +kernel, rfl⟩
theorem eX6_save_5 : Dc cX6_save 5 (.if_icmp .ge 48) 3 8 := ⟨by decide +kernel, rfl⟩
theorem eX6_save_8 : Dc cX6_save 8 (.aload_n 0) 1 9 := ⟨by decide +kernel, rfl⟩
theorem eX6_save_9 : Dc cX6_save 9 (.getfield 35) 3 12 := ⟨by decide +kernel, rfl⟩
theorem eX6_save_12 : Dc cX6_save 12 (.sipush 128) 3 15 := ⟨by decide +kernel, rfl⟩
theorem eX6_save_15 : Dc cX6_save 15 (.iload_n 1) 1 16 := ⟨by decide +kernel, rfl⟩
theorem eX6_save_16 : Dc cX6_save 16 (.imul) 1 17 := ⟨by decide +kernel, rfl⟩
theorem eX6_save_17 : Dc cX6_save 17 (.iload_n 2) 1 18 := ⟨by decide +kernel, rfl⟩
theorem eX6_save_18 : Dc cX6_save 18 (.iadd) 1 19 := ⟨by decide +kernel, rfl⟩
theorem eX6_save_19 : Dc cX6_save 19 (.aload_n 0) 1 20 := ⟨by decide +kernel, rfl⟩
theorem eX6_save_20 : Dc cX6_save 20 (.getfield 23) 3 23 := ⟨by decide +kernel, rfl⟩
theorem eX6_save_23 : Dc cX6_save 23 (.iload_n 2) 1 24 := ⟨by decide +kernel, rfl⟩
theorem eX6_save_24 : Dc cX6_save 24 (.iaload) 1 25 := ⟨by decide +kernel, rfl⟩
theorem eX6_save_25 : Dc cX6_save 25 (.iastore) 1 26 := ⟨by decide +kernel, rfl⟩
theorem eX6_save_26 : Dc cX6_save 26 (.aload_n 0) 1 27 := ⟨by decide +kernel, rfl⟩
theorem eX6_save_27 : Dc cX6_save 27 (.getfield 35) 3 30 := ⟨by decide +kernel, rfl⟩
theorem eX6_save_30 : Dc cX6_save 30 (.sipush 128) 3 33 := ⟨by decide +kernel, rfl⟩
theorem eX6_save_33 : Dc cX6_save 33 (.iload_n 1) 1 34 := ⟨by decide +kernel, rfl⟩
theorem eX6_save_34 : Dc cX6_save 34 (.imul) 1 35 := ⟨by decide +kernel, rfl⟩
theorem eX6_save_35 : Dc cX6_save 35 (.bipush 64) 2 37 := ⟨by decide +kernel, rfl⟩
theorem eX6_save_37 : Dc cX6_save 37 (.iadd) 1 38 := ⟨by decide +kernel, rfl⟩
theorem eX6_save_38 : Dc cX6_save 38 (.iload_n 2) 1 39 := ⟨by decide +kernel, rfl⟩
theorem eX6_save_39 : Dc cX6_save 39 (.iadd) 1 40 := ⟨by decide +kernel, rfl⟩
theorem eX6_save_40 : Dc cX6_save 40 (.aload_n 0) 1 41 := ⟨by decide +kernel, rfl⟩
theorem eX6_save_41 : Dc cX6_save 41 (.getfield 26) 3 44 := ⟨by decide +kernel, rfl⟩
theorem eX6_save_44 : Dc cX6_save 44 (.iload_n 2) 1 45 := ⟨by decide +kernel, rfl⟩
theorem eX6_save_45 : Dc cX6_save 45 (.iaload) 1 46 := ⟨by decide +kernel, rfl⟩
theorem eX6_save_46 : Dc cX6_save 46 (.iastore) 1 47 := ⟨by decide +kernel, rfl⟩
theorem eX6_save_47 : Dc cX6_save 47 (.iinc 2 1) 3 50 := ⟨by decide +kernel, rfl⟩
theorem eX6_save_50 : Dc cX6_save 50 (.goto (-48)) 3 53 := ⟨by decide +kernel, rfl⟩
theorem eX6_save_53 : Dc cX6_save 53 (.return_) 1 54 := ⟨by decide +kernel, rfl⟩
theorem eX6_load_0 : Dc cX6_load 0 (.bipush 7) 2 2 := ⟨by decide +kernel, rfl⟩
theorem eX6_load_2 : Dc cX6_load 2 (.iload_n 1) 1 3 := ⟨by decide +kernel, rfl⟩
theorem eX6_load_3 : Dc cX6_load 3 (.imul) 1 4 := ⟨by decide +kernel, rfl⟩
theorem eX6_load_4 : Dc cX6_load 4 (.iload_n 2) 1 5 := ⟨by decide +kernel, rfl⟩
theorem eX6_load_5 : Dc cX6_load 5 (.iadd) 1 6 := ⟨by decide +kernel, rfl⟩
theorem eX6_load_6 : Dc cX6_load 6 (.istore_n 3) 1 7 := ⟨by decide +kernel, rfl⟩
theorem eX6_load_7 : Dc cX6_load 7 (.iconst 0) 1 8 := ⟨by decide +kernel, rfl⟩
theorem eX6_load_8 : Dc cX6_load 8 (.istore 4) 2 10 := ⟨by decide +kernel, rfl⟩
theorem eX6_load_10 : Dc cX6_load 10 (.iload 4) 2 12 := ⟨by decide +kernel, rfl⟩
theorem eX6_load_12 : Dc cX6_load 12 (.bipush 64) 2 14 := ⟨by decide +kernel, rfl⟩
theorem eX6_load_14 : Dc cX6_load 14 (.if_icmp .ge 52) 3 17 := ⟨by decide +kernel, rfl⟩
theorem eX6_load_17 : Dc cX6_load 17 (.aload_n 0) 1 18 := ⟨by decide +kernel, rfl⟩
theorem eX6_load_18 : Dc cX6_load 18 (.getfield 23) 3 21 := ⟨by decide +kernel, rfl⟩
theorem eX6_load_21 : Dc cX6_load 21 (.iload 4) 2 23 := ⟨by decide +kernel, rfl⟩
theorem eX6_load_23 : Dc cX6_load 23 (.aload_n 0) 1 24 := ⟨by decide +kernel, rfl⟩
theorem eX6_load_24 : Dc cX6_load 24 (.getfield 35) 3 27 := ⟨by decide +kernel, rfl⟩
theorem eX6_load_27 : Dc cX6_load 27 (.sipush 128) 3 30 := ⟨by decide +kernel, rfl⟩
theorem eX6_load_30 : Dc cX6_load 30 (.iload_n 3) 1 31 := ⟨by decide +kernel, rfl⟩
theorem eX6_load_31 : Dc cX6_load 31 (.imul) 1 32 := ⟨by decide +kernel, rfl⟩
theorem eX6_load_32 : Dc cX6_load 32 (.iload 4) 2 34 := ⟨by decide +kernel, rfl⟩
theorem eX6_load_34 : Dc cX6_load 34 (.iadd) 1 35 := ⟨by decide +kernel, rfl⟩
theorem eX6_load_35 : Dc cX6_load 35 (.iaload) 1 36 := ⟨by decide +kernel, rfl⟩
theorem eX6_load_36 : Dc cX6_load 36 (.iastore) 1 37 := ⟨by decide +kernel, rfl⟩
theorem eX6_load_37 : Dc cX6_load 37 (.aload_n 0) 1 38 := ⟨by decide +kernel, rfl⟩
theorem eX6_load_38 : Dc cX6_load 38 (.getfield 26) 3 41 := ⟨by decide +kernel, rfl⟩
theorem eX6_load_41 : Dc cX6_load 41 (.iload 4) 2 43 := ⟨by decide +kernel, rfl⟩
theorem eX6_load_43 : Dc cX6_load 43 (.aload_n 0) 1 44 := ⟨by decide +kernel, rfl⟩
theorem eX6_load_44 : Dc cX6_load 44 (.getfield 35) 3 47 := ⟨by decide +kernel, rfl⟩
theorem eX6_load_47 : Dc cX6_load 47 (.sipush 128) 3 50 := ⟨by decide +kernel, rfl⟩
theorem eX6_load_50 : Dc cX6_load 50 (.iload_n 3) 1 51 := ⟨by decide +kernel, rfl⟩
theorem eX6_load_51 : Dc cX6_load 51 (.imul) 1 52 := ⟨by decide +kernel, rfl⟩
theorem eX6_load_52 : Dc cX6_load 52 (.bipush 64) 2 54 := ⟨by decide +kernel, rfl⟩
theorem eX6_load_54 : Dc cX6_load 54 (.iadd) 1 55 := ⟨by decide +kernel, rfl⟩
theorem eX6_load_55 : Dc cX6_load 55 (.iload 4) 2 57 := ⟨by decide +kernel, rfl⟩
theorem eX6_load_57 : Dc cX6_load 57 (.iadd) 1 58 := ⟨by decide +kernel, rfl⟩
theorem eX6_load_58 : Dc cX6_load 58 (.iaload) 1 59 := ⟨by decide +kernel, rfl⟩
theorem eX6_load_59 : Dc cX6_load 59 (.iastore) 1 60 := ⟨by decide +kernel, rfl⟩
theorem eX6_load_60 : Dc cX6_load 60 (.iinc 4 1) 3 63 := ⟨by decide +kernel, rfl⟩
theorem eX6_load_63 : Dc cX6_load 63 (.goto (-53)) 3 66 := ⟨by decide +kernel, rfl⟩
theorem eX6_load_66 : Dc cX6_load 66 (.aload_n 0) 1 67 := ⟨by decide +kernel, rfl⟩
theorem eX6_load_67 : Dc cX6_load 67 (.aload_n 0) 1 68 := ⟨by decide +kernel, rfl⟩
theorem eX6_load_68 : Dc cX6_load 68 (.getfield 7) 3 71 := ⟨by decide +kernel, rfl⟩
theorem eX6_load_71 : Dc cX6_load 71 (.sipush 128) 3 74 := ⟨by decide +kernel, rfl⟩
theorem eX6_load_74 : Dc cX6_load 74 (.iaload) 1 75 := ⟨by decide +kernel, rfl⟩
theorem eX6_load_75 : Dc cX6_load 75 (.iload_n 1) 1 76 := ⟨by decide +kernel, rfl⟩
theorem eX6_load_76 : Dc cX6_load 76 (.isub) 1 77 := ⟨by decide +kernel, rfl⟩
theorem eX6_load_77 : Dc cX6_load 77 (.putfield 45) 3 80 := ⟨by decide +kernel, rfl⟩
theorem eX6_load_80 : Dc cX6_load 80 (.aload_n 0) 1 81 := ⟨by decide +kernel, rfl⟩
theorem eX6_load_81 : Dc cX6_load 81 (.aload_n 0) 1 82 := ⟨by decide +kernel, rfl⟩
theorem eX6_load_82 : Dc cX6_load 82 (.getfield 7) 3 85 := ⟨by decide +kernel, rfl⟩
theorem eX6_load_85 : Dc cX6_load 85 (.sipush 129) 3 88 := ⟨by decide +kernel, rfl⟩
theorem eX6_load_88 : Dc cX6_load 88 (.iaload) 1 89 := ⟨by decide +kernel, rfl⟩
theorem eX6_load_89 : Dc cX6_load 89 (.iload_n 2) 1 90 := ⟨by decide +kernel, rfl⟩
theorem eX6_load_90 : Dc cX6_load 90 (.isub) 1 91 := ⟨by decide +kernel, rfl⟩
theorem eX6_load_91 : Dc cX6_load 91 (.putfield 49) 3 94 := ⟨by decide +kernel, rfl⟩
theorem eX6_load_94 : Dc cX6_load 94 (.return_) 1 95 := ⟨by decide +kernel, rfl⟩
theorem eX6_layPlace_0 : Dc cX6_layPlace 0 (.bipush 7) 2 2 := ⟨by decide +kernel, rfl⟩
theorem eX6_layPlace_2 : Dc cX6_layPlace 2 (.iload_n 1) 1 3 := ⟨by decide +kernel, rfl⟩
theorem eX6_layPlace_3 : Dc cX6_layPlace 3 (.imul) 1 4 := ⟨by decide +kernel, rfl⟩
theorem eX6_layPlace_4 : Dc cX6_layPlace 4 (.iload_n 2) 1 5 := ⟨by decide +kernel, rfl⟩
theorem eX6_layPlace_5 : Dc cX6_layPlace 5 (.iadd) 1 6 := ⟨by decide +kernel, rfl⟩
theorem eX6_layPlace_6 : Dc cX6_layPlace 6 (.istore_n 3) 1 7 := ⟨by decide +kernel, rfl⟩
theorem eX6_layPlace_7 : Dc cX6_layPlace 7 (.iconst 0) 1 8 := ⟨by decide +kernel, rfl⟩
theorem eX6_layPlace_8 : Dc cX6_layPlace 8 (.istore 4) 2 10 := ⟨by decide +kernel, rfl⟩
theorem eX6_layPlace_10 : Dc cX6_layPlace 10 (.iload_n 1) 1 11 := ⟨by decide +kernel, rfl⟩
theorem eX6_layPlace_11 : Dc cX6_layPlace 11 (.ifCond .le 41) 3 14 := ⟨by decide +kernel, rfl⟩
theorem eX6_layPlace_14 : Dc cX6_layPlace 14 (.aload_n 0) 1 15 := ⟨by decide +kernel, rfl⟩
theorem eX6_layPlace_15 : Dc cX6_layPlace 15 (.iload_n 1) 1 16 := ⟨by decide +kernel, rfl⟩
theorem eX6_layPlace_16 : Dc cX6_layPlace 16 (.iconst 1) 1 17 := ⟨by decide +kernel, rfl⟩
theorem eX6_layPlace_17 : Dc cX6_layPlace 17 (.isub) 1 18 := ⟨by decide +kernel, rfl⟩
theorem eX6_layPlace_18 : Dc cX6_layPlace 18 (.iload_n 2) 1 19 := ⟨by decide +kernel, rfl⟩
theorem eX6_layPlace_19 : Dc cX6_layPlace 19 (.invokevirtual 187) 3 22 := ⟨by decide +kernel, rfl⟩
theorem eX6_layPlace_22 : Dc cX6_layPlace 22 (.aload_n 0) 1 23 := ⟨by decide +kernel, rfl⟩
theorem eX6_layPlace_23 : Dc cX6_layPlace 23 (.getfield 38) 3 26 := ⟨by decide +kernel, rfl⟩
theorem eX6_layPlace_26 : Dc cX6_layPlace 26 (.iload_n 3) 1 27 := ⟨by decide +kernel, rfl⟩
theorem eX6_layPlace_27 : Dc cX6_layPlace 27 (.bipush 7) 2 29 := ⟨by decide +kernel, rfl⟩
theorem eX6_layPlace_29 : Dc cX6_layPlace 29 (.isub) 1 30 := ⟨by decide +kernel, rfl⟩
theorem eX6_layPlace_30 : Dc cX6_layPlace 30 (.iaload) 1 31 := ⟨by decide +kernel, rfl⟩
theorem eX6_layPlace_31 : Dc cX6_layPlace 31 (.aload_n 0) 1 32 := ⟨by decide +kernel, rfl⟩
theorem eX6_layPlace_32 : Dc cX6_layPlace 32 (.iconst 0) 1 33 := ⟨by decide +kernel, rfl⟩
theorem eX6_layPlace_33 : Dc cX6_layPlace 33 (.invokevirtual 150) 3 36 := ⟨by decide +kernel, rfl⟩
theorem eX6_layPlace_36 : Dc cX6_layPlace 36 (.iadd) 1 37 := ⟨by decide +kernel, rfl⟩
theorem eX6_layPlace_37 : Dc cX6_layPlace 37 (.istore 4) 2 39 := ⟨by decide +kernel, rfl⟩
theorem eX6_layPlace_39 : Dc cX6_layPlace 39 (.aload_n 0) 1 40 := ⟨by decide +kernel, rfl⟩
theorem eX6_layPlace_40 : Dc cX6_layPlace 40 (.getfield 38) 3 43 := ⟨by decide +kernel, rfl⟩
theorem eX6_layPlace_43 : Dc cX6_layPlace 43 (.iload_n 3) 1 44 := ⟨by decide +kernel, rfl⟩
theorem eX6_layPlace_44 : Dc cX6_layPlace 44 (.iload 4) 2 46 := ⟨by decide +kernel, rfl⟩
theorem eX6_layPlace_46 : Dc cX6_layPlace 46 (.iastore) 1 47 := ⟨by decide +kernel, rfl⟩
theorem eX6_layPlace_47 : Dc cX6_layPlace 47 (.aload_n 0) 1 48 := ⟨by decide +kernel, rfl⟩
theorem eX6_layPlace_48 : Dc cX6_layPlace 48 (.iload_n 3) 1 49 := ⟨by decide +kernel, rfl⟩
theorem eX6_layPlace_49 : Dc cX6_layPlace 49 (.invokevirtual 190) 3 52 := ⟨by decide +kernel, rfl⟩
theorem eX6_layPlace_52 : Dc cX6_layPlace 52 (.iload_n 2) 1 53 := ⟨by decide +kernel, rfl⟩
theorem eX6_layPlace_53 : Dc cX6_layPlace 53 (.ifCond .le 51) 3 56 := ⟨by decide +kernel, rfl⟩
theorem eX6_layPlace_56 : Dc cX6_layPlace 56 (.aload_n 0) 1 57 := ⟨by decide +kernel, rfl⟩
theorem eX6_layPlace_57 : Dc cX6_layPlace 57 (.iload_n 1) 1 58 := ⟨by decide +kernel, rfl⟩
theorem eX6_layPlace_58 : Dc cX6_layPlace 58 (.iload_n 2) 1 59 := ⟨by decide +kernel, rfl⟩
theorem eX6_layPlace_59 : Dc cX6_layPlace 59 (.iconst 1) 1 60 := ⟨by decide +kernel, rfl⟩
theorem eX6_layPlace_60 : Dc cX6_layPlace 60 (.isub) 1 61 := ⟨by decide +kernel, rfl⟩
theorem eX6_layPlace_61 : Dc cX6_layPlace 61 (.invokevirtual 187) 3 64 := ⟨by decide +kernel, rfl⟩
theorem eX6_layPlace_64 : Dc cX6_layPlace 64 (.aload_n 0) 1 65 := ⟨by decide +kernel, rfl⟩
theorem eX6_layPlace_65 : Dc cX6_layPlace 65 (.getfield 38) 3 68 := ⟨by decide +kernel, rfl⟩
theorem eX6_layPlace_68 : Dc cX6_layPlace 68 (.iload_n 3) 1 69 := ⟨by decide +kernel, rfl⟩
theorem eX6_layPlace_69 : Dc cX6_layPlace 69 (.iconst 1) 1 70 := ⟨by decide +kernel, rfl⟩
theorem eX6_layPlace_70 : Dc cX6_layPlace 70 (.isub) 1 71 := ⟨by decide +kernel, rfl⟩
theorem eX6_layPlace_71 : Dc cX6_layPlace 71 (.iaload) 1 72 := ⟨by decide +kernel, rfl⟩
theorem eX6_layPlace_72 : Dc cX6_layPlace 72 (.aload_n 0) 1 73 := ⟨by decide +kernel, rfl⟩
theorem eX6_layPlace_73 : Dc cX6_layPlace 73 (.iconst 1) 1 74 := ⟨by decide +kernel, rfl⟩
theorem eX6_layPlace_74 : Dc cX6_layPlace 74 (.invokevirtual 150) 3 77 := ⟨by decide +kernel, rfl⟩
theorem eX6_layPlace_77 : Dc cX6_layPlace 77 (.iadd) 1 78 := ⟨by decide +kernel, rfl⟩
theorem eX6_layPlace_78 : Dc cX6_layPlace 78 (.istore 5) 2 80 := ⟨by decide +kernel, rfl⟩
theorem eX6_layPlace_80 : Dc cX6_layPlace 80 (.iload_n 1) 1 81 := ⟨by decide +kernel, rfl⟩
theorem eX6_layPlace_81 : Dc cX6_layPlace 81 (.ifCond .eq 10) 3 84 := ⟨by decide +kernel, rfl⟩
theorem eX6_layPlace_84 : Dc cX6_layPlace 84 (.iload 5) 2 86 := ⟨by decide +kernel, rfl⟩
theorem eX6_layPlace_86 : Dc cX6_layPlace 86 (.iload 4) 2 88 := ⟨by decide +kernel, rfl⟩
theorem eX6_layPlace_88 : Dc cX6_layPlace 88 (.if_icmp .ge 16) 3 91 := ⟨by decide +kernel, rfl⟩
theorem eX6_layPlace_91 : Dc cX6_layPlace 91 (.aload_n 0) 1 92 := ⟨by decide +kernel, rfl⟩
theorem eX6_layPlace_92 : Dc cX6_layPlace 92 (.getfield 38) 3 95 := ⟨by decide +kernel, rfl⟩
theorem eX6_layPlace_95 : Dc cX6_layPlace 95 (.iload_n 3) 1 96 := ⟨by decide +kernel, rfl⟩
theorem eX6_layPlace_96 : Dc cX6_layPlace 96 (.iload 5) 2 98 := ⟨by decide +kernel, rfl⟩
theorem eX6_layPlace_98 : Dc cX6_layPlace 98 (.iastore) 1 99 := ⟨by decide +kernel, rfl⟩
theorem eX6_layPlace_99 : Dc cX6_layPlace 99 (.aload_n 0) 1 100 := ⟨by decide +kernel, rfl⟩
theorem eX6_layPlace_100 : Dc cX6_layPlace 100 (.iload_n 3) 1 101 := ⟨by decide +kernel, rfl⟩
theorem eX6_layPlace_101 : Dc cX6_layPlace 101 (.invokevirtual 190) 3 104 := ⟨by decide +kernel, rfl⟩
theorem eX6_layPlace_104 : Dc cX6_layPlace 104 (.return_) 1 105 := ⟨by decide +kernel, rfl⟩
theorem eX6_layTable_0 : Dc cX6_layTable 0 (.aload_n 0) 1 1 := ⟨by decide +kernel, rfl⟩
theorem eX6_layTable_1 : Dc cX6_layTable 1 (.invokevirtual 124) 3 4 := ⟨by decide +kernel, rfl⟩
theorem eX6_layTable_4 : Dc cX6_layTable 4 (.aload_n 0) 1 5 := ⟨by decide +kernel, rfl⟩
theorem eX6_layTable_5 : Dc cX6_layTable 5 (.getfield 38) 3 8 := ⟨by decide +kernel, rfl⟩
theorem eX6_layTable_8 : Dc cX6_layTable 8 (.iconst 0) 1 9 := ⟨by decide +kernel, rfl⟩
theorem eX6_layTable_9 : Dc cX6_layTable 9 (.iconst 0) 1 10 := ⟨by decide +kernel, rfl⟩
theorem eX6_layTable_10 : Dc cX6_layTable 10 (.iastore) 1 11 := ⟨by decide +kernel, rfl⟩
theorem eX6_layTable_11 : Dc cX6_layTable 11 (.aload_n 0) 1 12 := ⟨by decide +kernel, rfl⟩
theorem eX6_layTable_12 : Dc cX6_layTable 12 (.iconst 0) 1 13 := ⟨by decide +kernel, rfl⟩
theorem eX6_layTable_13 : Dc cX6_layTable 13 (.invokevirtual 190) 3 16 := ⟨by decide +kernel, rfl⟩
theorem eX6_layTable_16 : Dc cX6_layTable 16 (.iconst 0) 1 17 := ⟨by decide +kernel, rfl⟩
theorem eX6_layTable_17 : Dc cX6_layTable 17 (.istore_n 3) 1 18 := ⟨by decide +kernel, rfl⟩
theorem eX6_layTable_18 : Dc cX6_layTable 18 (.iload_n 3) 1 19 := ⟨by decide +kernel, rfl⟩
theorem eX6_layTable_19 : Dc cX6_layTable 19 (.iload_n 1) 1 20 := ⟨by decide +kernel, rfl⟩
theorem eX6_layTable_20 : Dc cX6_layTable 20 (.if_icmp .gt 31) 3 23 := ⟨by decide +kernel, rfl⟩
theorem eX6_layTable_23 : Dc cX6_layTable 23 (.iconst 0) 1 24 := ⟨by decide +kernel, rfl⟩
theorem eX6_layTable_24 : Dc cX6_layTable 24 (.istore 4) 2 26 := ⟨by decide +kernel, rfl⟩
theorem eX6_layTable_26 : Dc cX6_layTable 26 (.iload 4) 2 28 := ⟨by decide +kernel, rfl⟩
theorem eX6_layTable_28 : Dc cX6_layTable 28 (.iload_n 2) 1 29 := ⟨by decide +kernel, rfl⟩
theorem eX6_layTable_29 : Dc cX6_layTable 29 (.if_icmp .gt 16) 3 32 := ⟨by decide +kernel, rfl⟩
theorem eX6_layTable_32 : Dc cX6_layTable 32 (.aload_n 0) 1 33 := ⟨by decide +kernel, rfl⟩
theorem eX6_layTable_33 : Dc cX6_layTable 33 (.iload_n 3) 1 34 := ⟨by decide +kernel, rfl⟩
theorem eX6_layTable_34 : Dc cX6_layTable 34 (.iload 4) 2 36 := ⟨by decide +kernel, rfl⟩
theorem eX6_layTable_36 : Dc cX6_layTable 36 (.invokevirtual 193) 3 39 := ⟨by decide +kernel, rfl⟩
theorem eX6_layTable_39 : Dc cX6_layTable 39 (.iinc 4 1) 3 42 := ⟨by decide +kernel, rfl⟩
theorem eX6_layTable_42 : Dc cX6_layTable 42 (.goto (-16)) 3 45 := ⟨by decide +kernel, rfl⟩
theorem eX6_layTable_45 : Dc cX6_layTable 45 (.iinc 3 1) 3 48 := ⟨by decide +kernel, rfl⟩
theorem eX6_layTable_48 : Dc cX6_layTable 48 (.goto (-30)) 3 51 := ⟨by decide +kernel, rfl⟩
theorem eX6_layTable_51 : Dc cX6_layTable 51 (.aload_n 0) 1 52 := ⟨by decide +kernel, rfl⟩
theorem eX6_layTable_52 : Dc cX6_layTable 52 (.iload_n 1) 1 53 := ⟨by decide +kernel, rfl⟩
theorem eX6_layTable_53 : Dc cX6_layTable 53 (.iload_n 2) 1 54 := ⟨by decide +kernel, rfl⟩
theorem eX6_layTable_54 : Dc cX6_layTable 54 (.invokevirtual 187) 3 57 := ⟨by decide +kernel, rfl⟩
theorem eX6_layTable_57 : Dc cX6_layTable 57 (.return_) 1 58 := ⟨by decide +kernel, rfl⟩
theorem eX6_table_0 : Dc cX6_table 0 (.aload_n 0) 1 1 := ⟨by decide +kernel, rfl⟩
theorem eX6_table_1 : Dc cX6_table 1 (.iload_n 1) 1 2 := ⟨by decide +kernel, rfl⟩
theorem eX6_table_2 : Dc cX6_table 2 (.iload_n 2) 1 3 := ⟨by decide +kernel, rfl⟩
theorem eX6_table_3 : Dc cX6_table 3 (.invokevirtual 177) 3 6 := ⟨by decide +kernel, rfl⟩
theorem eX6_table_6 : Dc cX6_table 6 (.ifCond .eq 18) 3 9 := ⟨by decide +kernel, rfl⟩
theorem eX6_table_9 : Dc cX6_table 9 (.iload_n 3) 1 10 := ⟨by decide +kernel, rfl⟩
theorem eX6_table_10 : Dc cX6_table 10 (.ifCond .eq 17) 3 13 := ⟨by decide +kernel, rfl⟩
theorem eX6_table_13 : Dc cX6_table 13 (.iload_n 3) 1 14 := ⟨by decide +kernel, rfl⟩
theorem eX6_table_14 : Dc cX6_table 14 (.bipush 10) 2 16 := ⟨by decide +kernel, rfl⟩
theorem eX6_table_16 : Dc cX6_table 16 (.bipush 89) 2 18 := ⟨by decide +kernel, rfl⟩
theorem eX6_table_18 : Dc cX6_table 18 (.invokestatic 41) 3 21 := ⟨by decide +kernel, rfl⟩
theorem eX6_table_21 : Dc cX6_table 21 (.ifCond .ne 6) 3 24 := ⟨by decide +kernel, rfl⟩
theorem eX6_table_24 : Dc cX6_table 24 (.bipush (-2)) 2 26 := ⟨by decide +kernel, rfl⟩
theorem eX6_table_26 : Dc cX6_table 26 (.ireturn) 1 27 := ⟨by decide +kernel, rfl⟩
theorem eX6_table_27 : Dc cX6_table 27 (.aload_n 0) 1 28 := ⟨by decide +kernel, rfl⟩
theorem eX6_table_28 : Dc cX6_table 28 (.iload_n 1) 1 29 := ⟨by decide +kernel, rfl⟩
theorem eX6_table_29 : Dc cX6_table 29 (.iload_n 2) 1 30 := ⟨by decide +kernel, rfl⟩
theorem eX6_table_30 : Dc cX6_table 30 (.invokevirtual 196) 3 33 := ⟨by decide +kernel, rfl⟩
theorem eX6_table_33 : Dc cX6_table 33 (.iload_n 3) 1 34 := ⟨by decide +kernel, rfl⟩
theorem eX6_table_34 : Dc cX6_table 34 (.ifCond .ne 19) 3 37 := ⟨by decide +kernel, rfl⟩
theorem eX6_table_37 : Dc cX6_table 37 (.aload_n 0) 1 38 := ⟨by decide +kernel, rfl⟩
theorem eX6_table_38 : Dc cX6_table 38 (.getfield 38) 3 41 := ⟨by decide +kernel, rfl⟩
theorem eX6_table_41 : Dc cX6_table 41 (.bipush 7) 2 43 := ⟨by decide +kernel, rfl⟩
theorem eX6_table_43 : Dc cX6_table 43 (.iload_n 1) 1 44 := ⟨by decide +kernel, rfl⟩
theorem eX6_table_44 : Dc cX6_table 44 (.imul) 1 45 := ⟨by decide +kernel, rfl⟩
theorem eX6_table_45 : Dc cX6_table 45 (.iload_n 2) 1 46 := ⟨by decide +kernel, rfl⟩
theorem eX6_table_46 : Dc cX6_table 46 (.iadd) 1 47 := ⟨by decide +kernel, rfl⟩
theorem eX6_table_47 : Dc cX6_table 47 (.iaload) 1 48 := ⟨by decide +kernel, rfl⟩
theorem eX6_table_48 : Dc cX6_table 48 (.sipush 10000) 3 51 := ⟨by decide +kernel, rfl⟩
theorem eX6_table_51 : Dc cX6_table 51 (.iadd) 1 52 := ⟨by decide +kernel, rfl⟩
theorem eX6_table_52 : Dc cX6_table 52 (.ireturn) 1 53 := ⟨by decide +kernel, rfl⟩
theorem eX6_table_53 : Dc cX6_table 53 (.iload_n 3) 1 54 := ⟨by decide +kernel, rfl⟩
theorem eX6_table_54 : Dc cX6_table 54 (.bipush 10) 2 56 := ⟨by decide +kernel, rfl⟩
theorem eX6_table_56 : Dc cX6_table 56 (.idiv) 1 57 := ⟨by decide +kernel, rfl⟩
theorem eX6_table_57 : Dc cX6_table 57 (.iconst 1) 1 58 := ⟨by decide +kernel, rfl⟩
theorem eX6_table_58 : Dc cX6_table 58 (.isub) 1 59 := ⟨by decide +kernel, rfl⟩
theorem eX6_table_59 : Dc cX6_table 59 (.istore 4) 2 61 := ⟨by decide +kernel, rfl⟩
theorem eX6_table_61 : Dc cX6_table 61 (.iload_n 3) 1 62 := ⟨by decide +kernel, rfl⟩
theorem eX6_table_62 : Dc cX6_table 62 (.bipush 10) 2 64 := ⟨by decide +kernel, rfl⟩
theorem eX6_table_64 : Dc cX6_table 64 (.irem) 1 65 := ⟨by decide +kernel, rfl⟩
theorem eX6_table_65 : Dc cX6_table 65 (.istore 5) 2 67 := ⟨by decide +kernel, rfl⟩
theorem eX6_table_67 : Dc cX6_table 67 (.iload 4) 2 69 := ⟨by decide +kernel, rfl⟩
theorem eX6_table_69 : Dc cX6_table 69 (.aload_n 0) 1 70 := ⟨by decide +kernel, rfl⟩
theorem eX6_table_70 : Dc cX6_table 70 (.getfield 45) 3 73 := ⟨by decide +kernel, rfl⟩
theorem eX6_table_73 : Dc cX6_table 73 (.if_icmp .ge 23) 3 76 := ⟨by decide +kernel, rfl⟩
theorem eX6_table_76 : Dc cX6_table 76 (.iload 5) 2 78 := ⟨by decide +kernel, rfl⟩
theorem eX6_table_78 : Dc cX6_table 78 (.aload_n 0) 1 79 := ⟨by decide +kernel, rfl⟩
theorem eX6_table_79 : Dc cX6_table 79 (.getfield 49) 3 82 := ⟨by decide +kernel, rfl⟩
theorem eX6_table_82 : Dc cX6_table 82 (.if_icmp .ge 14) 3 85 := ⟨by decide +kernel, rfl⟩
theorem eX6_table_85 : Dc cX6_table 85 (.aload_n 0) 1 86 := ⟨by decide +kernel, rfl⟩
theorem eX6_table_86 : Dc cX6_table 86 (.iload 4) 2 88 := ⟨by decide +kernel, rfl⟩
theorem eX6_table_88 : Dc cX6_table 88 (.iload 5) 2 90 := ⟨by decide +kernel, rfl⟩
theorem eX6_table_90 : Dc cX6_table 90 (.invokevirtual 56) 3 93 := ⟨by decide +kernel, rfl⟩
theorem eX6_table_93 : Dc cX6_table 93 (.goto 5) 3 96 := ⟨by decide +kernel, rfl⟩
theorem eX6_table_96 : Dc cX6_table 96 (.bipush (-6)) 2 98 := ⟨by decide +kernel, rfl⟩
theorem eX6_table_98 : Dc cX6_table 98 (.ireturn) 1 99 := ⟨by decide +kernel, rfl⟩
theorem eX6_go_0 : Dc cX6_go 0 (.aload_n 0) 1 1 := ⟨by decide +kernel, rfl⟩
theorem eX6_go_1 : Dc cX6_go 1 (.iload_n 1) 1 2 := ⟨by decide +kernel, rfl⟩
theorem eX6_go_2 : Dc cX6_go 2 (.iload_n 2) 1 3 := ⟨by decide +kernel, rfl⟩
theorem eX6_go_3 : Dc cX6_go 3 (.invokevirtual 177) 3 6 := ⟨by decide +kernel, rfl⟩
theorem eX6_go_6 : Dc cX6_go 6 (.ifCond .ne 6) 3 9 := ⟨by decide +kernel, rfl⟩
theorem eX6_go_9 : Dc cX6_go 9 (.bipush (-2)) 2 11 := ⟨by decide +kernel, rfl⟩
theorem eX6_go_11 : Dc cX6_go 11 (.ireturn) 1 12 := ⟨by decide +kernel, rfl⟩
theorem eX6_go_12 : Dc cX6_go 12 (.aload_n 0) 1 13 := ⟨by decide +kernel, rfl⟩
theorem eX6_go_13 : Dc cX6_go 13 (.iload_n 1) 1 14 := ⟨by decide +kernel, rfl⟩
theorem eX6_go_14 : Dc cX6_go 14 (.iload_n 2) 1 15 := ⟨by decide +kernel, rfl⟩
theorem eX6_go_15 : Dc cX6_go 15 (.invokevirtual 180) 3 18 := ⟨by decide +kernel, rfl⟩
theorem eX6_go_18 : Dc cX6_go 18 (.aload_n 0) 1 19 := ⟨by decide +kernel, rfl⟩
theorem eX6_go_19 : Dc cX6_go 19 (.aload_n 0) 1 20 := ⟨by decide +kernel, rfl⟩
theorem eX6_go_20 : Dc cX6_go 20 (.getfield 159) 3 23 := ⟨by decide +kernel, rfl⟩
theorem eX6_go_23 : Dc cX6_go 23 (.iload_n 1) 1 24 := ⟨by decide +kernel, rfl⟩
theorem eX6_go_24 : Dc cX6_go 24 (.iload_n 2) 1 25 := ⟨by decide +kernel, rfl⟩
theorem eX6_go_25 : Dc cX6_go 25 (.iadd) 1 26 := ⟨by decide +kernel, rfl⟩
theorem eX6_go_26 : Dc cX6_go 26 (.invokevirtual 168) 3 29 := ⟨by decide +kernel, rfl⟩
theorem eX6_go_29 : Dc cX6_go 29 (.istore_n 3) 1 30 := ⟨by decide +kernel, rfl⟩
theorem eX6_go_30 : Dc cX6_go 30 (.aload_n 0) 1 31 := ⟨by decide +kernel, rfl⟩
theorem eX6_go_31 : Dc cX6_go 31 (.invokevirtual 153) 3 34 := ⟨by decide +kernel, rfl⟩
theorem eX6_go_34 : Dc cX6_go 34 (.iload_n 3) 1 35 := ⟨by decide +kernel, rfl⟩
theorem eX6_go_35 : Dc cX6_go 35 (.sipush 10000) 3 38 := ⟨by decide +kernel, rfl⟩
theorem eX6_go_38 : Dc cX6_go 38 (.iadd) 1 39 := ⟨by decide +kernel, rfl⟩
theorem eX6_go_39 : Dc cX6_go 39 (.ireturn) 1 40 := ⟨by decide +kernel, rfl⟩
theorem eX6_image_0 : Dc cX6_image 0 (.iload_n 1) 1 1 := ⟨by decide +kernel, rfl⟩
theorem eX6_image_1 : Dc cX6_image 1 (.iconst 0) 1 2 := ⟨by decide +kernel, rfl⟩
theorem eX6_image_2 : Dc cX6_image 2 (.iconst 1) 1 3 := ⟨by decide +kernel, rfl⟩
theorem eX6_image_3 : Dc cX6_image 3 (.invokestatic 41) 3 6 := ⟨by decide +kernel, rfl⟩
theorem eX6_image_6 : Dc cX6_image 6 (.ifCond .ne 6) 3 9 := ⟨by decide +kernel, rfl⟩
theorem eX6_image_9 : Dc cX6_image 9 (.bipush (-2)) 2 11 := ⟨by decide +kernel, rfl⟩
theorem eX6_image_11 : Dc cX6_image 11 (.ireturn) 1 12 := ⟨by decide +kernel, rfl⟩
theorem eX6_image_12 : Dc cX6_image 12 (.iconst 0) 1 13 := ⟨by decide +kernel, rfl⟩
theorem eX6_image_13 : Dc cX6_image 13 (.istore_n 2) 1 14 := ⟨by decide +kernel, rfl⟩
theorem eX6_image_14 : Dc cX6_image 14 (.iload_n 2) 1 15 := ⟨by decide +kernel, rfl⟩
theorem eX6_image_15 : Dc cX6_image 15 (.sipush 131) 3 18 := ⟨by decide +kernel, rfl⟩
theorem eX6_image_18 : Dc cX6_image 18 (.if_icmp .ge 27) 3 21 := ⟨by decide +kernel, rfl⟩
theorem eX6_image_21 : Dc cX6_image 21 (.aload_n 0) 1 22 := ⟨by decide +kernel, rfl⟩
theorem eX6_image_22 : Dc cX6_image 22 (.getfield 13) 3 25 := ⟨by decide +kernel, rfl⟩
theorem eX6_image_25 : Dc cX6_image 25 (.sipush 131) 3 28 := ⟨by decide +kernel, rfl⟩
theorem eX6_image_28 : Dc cX6_image 28 (.iload_n 1) 1 29 := ⟨by decide +kernel, rfl⟩
theorem eX6_image_29 : Dc cX6_image 29 (.imul) 1 30 := ⟨by decide +kernel, rfl⟩
theorem eX6_image_30 : Dc cX6_image 30 (.iload_n 2) 1 31 := ⟨by decide +kernel, rfl⟩
theorem eX6_image_31 : Dc cX6_image 31 (.iadd) 1 32 := ⟨by decide +kernel, rfl⟩
theorem eX6_image_32 : Dc cX6_image 32 (.aload_n 0) 1 33 := ⟨by decide +kernel, rfl⟩
theorem eX6_image_33 : Dc cX6_image 33 (.getfield 7) 3 36 := ⟨by decide +kernel, rfl⟩
theorem eX6_image_36 : Dc cX6_image 36 (.iload_n 2) 1 37 := ⟨by decide +kernel, rfl⟩
theorem eX6_image_37 : Dc cX6_image 37 (.iaload) 1 38 := ⟨by decide +kernel, rfl⟩
theorem eX6_image_38 : Dc cX6_image 38 (.iastore) 1 39 := ⟨by decide +kernel, rfl⟩
theorem eX6_image_39 : Dc cX6_image 39 (.iinc 2 1) 3 42 := ⟨by decide +kernel, rfl⟩
theorem eX6_image_42 : Dc cX6_image 42 (.goto (-28)) 3 45 := ⟨by decide +kernel, rfl⟩
theorem eX6_image_45 : Dc cX6_image 45 (.aload_n 0) 1 46 := ⟨by decide +kernel, rfl⟩
theorem eX6_image_46 : Dc cX6_image 46 (.getfield 16) 3 49 := ⟨by decide +kernel, rfl⟩
theorem eX6_image_49 : Dc cX6_image 49 (.iload_n 1) 1 50 := ⟨by decide +kernel, rfl⟩
theorem eX6_image_50 : Dc cX6_image 50 (.iconst 1) 1 51 := ⟨by decide +kernel, rfl⟩
theorem eX6_image_51 : Dc cX6_image 51 (.bastore) 1 52 := ⟨by decide +kernel, rfl⟩
theorem eX6_image_52 : Dc cX6_image 52 (.iconst 1) 1 53 := ⟨by decide +kernel, rfl⟩
theorem eX6_image_53 : Dc cX6_image 53 (.ireturn) 1 54 := ⟨by decide +kernel, rfl⟩
theorem eX6_restore_0 : Dc cX6_restore 0 (.iload_n 1) 1 1 := ⟨by decide +kernel, rfl⟩
theorem eX6_restore_1 : Dc cX6_restore 1 (.iconst 0) 1 2 := ⟨by decide +kernel, rfl⟩
theorem eX6_restore_2 : Dc cX6_restore 2 (.iconst 1) 1 3 := ⟨by decide +kernel, rfl⟩
theorem eX6_restore_3 : Dc cX6_restore 3 (.invokestatic 41) 3 6 := ⟨by decide +kernel, rfl⟩
theorem eX6_restore_6 : Dc cX6_restore 6 (.ifCond .ne 6) 3 9 := ⟨by decide +kernel, rfl⟩
theorem eX6_restore_9 : Dc cX6_restore 9 (.bipush (-2)) 2 11 := ⟨by decide +kernel, rfl⟩
theorem eX6_restore_11 : Dc cX6_restore 11 (.ireturn) 1 12 := ⟨by decide +kernel, rfl⟩
theorem eX6_restore_12 : Dc cX6_restore 12 (.aload_n 0) 1 13 := ⟨by decide +kernel, rfl⟩
theorem eX6_restore_13 : Dc cX6_restore 13 (.getfield 16) 3 16 := ⟨by decide +kernel, rfl⟩
theorem eX6_restore_16 : Dc cX6_restore 16 (.iload_n 1) 1 17 := ⟨by decide +kernel, rfl⟩
theorem eX6_restore_17 : Dc cX6_restore 17 (.baload) 1 18 := ⟨by decide +kernel, rfl⟩
theorem eX6_restore_18 : Dc cX6_restore 18 (.ifCond .ne 6) 3 21 := ⟨by decide +kernel, rfl⟩
theorem eX6_restore_21 : Dc cX6_restore 21 (.bipush (-3)) 2 23 := ⟨by decide +kernel, rfl⟩
theorem eX6_restore_23 : Dc cX6_restore 23 (.ireturn) 1 24 := ⟨by decide +kernel, rfl⟩
theorem eX6_restore_24 : Dc cX6_restore 24 (.iconst 0) 1 25 := ⟨by decide +kernel, rfl⟩
theorem eX6_restore_25 : Dc cX6_restore 25 (.istore_n 2) 1 26 := ⟨by decide +kernel, rfl⟩
theorem eX6_restore_26 : Dc cX6_restore 26 (.iload_n 2) 1 27 := ⟨by decide +kernel, rfl⟩
theorem eX6_restore_27 : Dc cX6_restore 27 (.sipush 131) 3 30 := ⟨by decide +kernel, rfl⟩
theorem eX6_restore_30 : Dc cX6_restore 30 (.if_icmp .ge 27) 3 33 := ⟨by decide +kernel, rfl⟩
theorem eX6_restore_33 : Dc cX6_restore 33 (.aload_n 0) 1 34 := ⟨by decide +kernel, rfl⟩
theorem eX6_restore_34 : Dc cX6_restore 34 (.getfield 7) 3 37 := ⟨by decide +kernel, rfl⟩
theorem eX6_restore_37 : Dc cX6_restore 37 (.iload_n 2) 1 38 := ⟨by decide +kernel, rfl⟩
theorem eX6_restore_38 : Dc cX6_restore 38 (.aload_n 0) 1 39 := ⟨by decide +kernel, rfl⟩
theorem eX6_restore_39 : Dc cX6_restore 39 (.getfield 13) 3 42 := ⟨by decide +kernel, rfl⟩
theorem eX6_restore_42 : Dc cX6_restore 42 (.sipush 131) 3 45 := ⟨by decide +kernel, rfl⟩
theorem eX6_restore_45 : Dc cX6_restore 45 (.iload_n 1) 1 46 := ⟨by decide +kernel, rfl⟩
theorem eX6_restore_46 : Dc cX6_restore 46 (.imul) 1 47 := ⟨by decide +kernel, rfl⟩
theorem eX6_restore_47 : Dc cX6_restore 47 (.iload_n 2) 1 48 := ⟨by decide +kernel, rfl⟩
theorem eX6_restore_48 : Dc cX6_restore 48 (.iadd) 1 49 := ⟨by decide +kernel, rfl⟩
theorem eX6_restore_49 : Dc cX6_restore 49 (.iaload) 1 50 := ⟨by decide +kernel, rfl⟩
theorem eX6_restore_50 : Dc cX6_restore 50 (.iastore) 1 51 := ⟨by decide +kernel, rfl⟩
theorem eX6_restore_51 : Dc cX6_restore 51 (.iinc 2 1) 3 54 := ⟨by decide +kernel, rfl⟩
theorem eX6_restore_54 : Dc cX6_restore 54 (.goto (-28)) 3 57 := ⟨by decide +kernel, rfl⟩
theorem eX6_restore_57 : Dc cX6_restore 57 (.iconst 1) 1 58 := ⟨by decide +kernel, rfl⟩
theorem eX6_restore_58 : Dc cX6_restore 58 (.ireturn) 1 59 := ⟨by decide +kernel, rfl⟩
theorem eX6_dotsWith_0 : Dc cX6_dotsWith 0 (.iconst 0) 1 1 := ⟨by decide +kernel, rfl⟩
theorem eX6_dotsWith_1 : Dc cX6_dotsWith 1 (.istore_n 2) 1 2 := ⟨by decide +kernel, rfl⟩
theorem eX6_dotsWith_2 : Dc cX6_dotsWith 2 (.iconst 0) 1 3 := ⟨by decide +kernel, rfl⟩
theorem eX6_dotsWith_3 : Dc cX6_dotsWith 3 (.istore_n 3) 1 4 := ⟨by decide +kernel, rfl⟩
theorem eX6_dotsWith_4 : Dc cX6_dotsWith 4 (.iload_n 3) 1 5 := ⟨by decide +kernel, rfl⟩
theorem eX6_dotsWith_5 : Dc cX6_dotsWith 5 (.bipush 64) 2 7 := ⟨by decide +kernel, rfl⟩
theorem eX6_dotsWith_7 : Dc cX6_dotsWith 7 (.if_icmp .ge 30) 3 10 := ⟨by decide +kernel, rfl⟩
theorem eX6_dotsWith_10 : Dc cX6_dotsWith 10 (.iload_n 2) 1 11 := ⟨by decide +kernel, rfl⟩
theorem eX6_dotsWith_11 : Dc cX6_dotsWith 11 (.aload_n 0) 1 12 := ⟨by decide +kernel, rfl⟩
theorem eX6_dotsWith_12 : Dc cX6_dotsWith 12 (.getfield 7) 3 15 := ⟨by decide +kernel, rfl⟩
theorem eX6_dotsWith_15 : Dc cX6_dotsWith 15 (.bipush 64) 2 17 := ⟨by decide +kernel, rfl⟩
theorem eX6_dotsWith_17 : Dc cX6_dotsWith 17 (.iload_n 3) 1 18 := ⟨by decide +kernel, rfl⟩
theorem eX6_dotsWith_18 : Dc cX6_dotsWith 18 (.iadd) 1 19 := ⟨by decide +kernel, rfl⟩
theorem eX6_dotsWith_19 : Dc cX6_dotsWith 19 (.iaload) 1 20 := ⟨by decide +kernel, rfl⟩
theorem eX6_dotsWith_20 : Dc cX6_dotsWith 20 (.iload_n 1) 1 21 := ⟨by decide +kernel, rfl⟩
theorem eX6_dotsWith_21 : Dc cX6_dotsWith 21 (.if_icmp .ne 7) 3 24 := ⟨by decide +kernel, rfl⟩
theorem eX6_dotsWith_24 : Dc cX6_dotsWith 24 (.iconst 1) 1 25 := ⟨by decide +kernel, rfl⟩
theorem eX6_dotsWith_25 : Dc cX6_dotsWith 25 (.goto 4) 3 28 := ⟨by decide +kernel, rfl⟩
theorem eX6_dotsWith_28 : Dc cX6_dotsWith 28 (.iconst 0) 1 29 := ⟨by decide +kernel, rfl⟩
theorem eX6_dotsWith_29 : Dc cX6_dotsWith 29 (.iadd) 1 30 := ⟨by decide +kernel, rfl⟩
theorem eX6_dotsWith_30 : Dc cX6_dotsWith 30 (.istore_n 2) 1 31 := ⟨by decide +kernel, rfl⟩
theorem eX6_dotsWith_31 : Dc cX6_dotsWith 31 (.iinc 3 1) 3 34 := ⟨by decide +kernel, rfl⟩
theorem eX6_dotsWith_34 : Dc cX6_dotsWith 34 (.goto (-30)) 3 37 := ⟨by decide +kernel, rfl⟩
theorem eX6_dotsWith_37 : Dc cX6_dotsWith 37 (.iload_n 2) 1 38 := ⟨by decide +kernel, rfl⟩
theorem eX6_dotsWith_38 : Dc cX6_dotsWith 38 (.ireturn) 1 39 := ⟨by decide +kernel, rfl⟩
theorem eX6_greys_0 : Dc cX6_greys 0 (.iconst 0) 1 1 := ⟨by decide +kernel, rfl⟩
theorem eX6_greys_1 : Dc cX6_greys 1 (.istore_n 1) 1 2 := ⟨by decide +kernel, rfl⟩
theorem eX6_greys_2 : Dc cX6_greys 2 (.iconst 0) 1 3 := ⟨by decide +kernel, rfl⟩
theorem eX6_greys_3 : Dc cX6_greys 3 (.istore_n 2) 1 4 := ⟨by decide +kernel, rfl⟩
theorem eX6_greys_4 : Dc cX6_greys 4 (.iload_n 2) 1 5 := ⟨by decide +kernel, rfl⟩
theorem eX6_greys_5 : Dc cX6_greys 5 (.bipush 64) 2 7 := ⟨by decide +kernel, rfl⟩
theorem eX6_greys_7 : Dc cX6_greys 7 (.if_icmp .ge 20) 3 10 := ⟨by decide +kernel, rfl⟩
theorem eX6_greys_10 : Dc cX6_greys 10 (.iload_n 1) 1 11 := ⟨by decide +kernel, rfl⟩
theorem eX6_greys_11 : Dc cX6_greys 11 (.aload_n 0) 1 12 := ⟨by decide +kernel, rfl⟩
theorem eX6_greys_12 : Dc cX6_greys 12 (.getfield 7) 3 15 := ⟨by decide +kernel, rfl⟩
theorem eX6_greys_15 : Dc cX6_greys 15 (.iconst 0) 1 16 := ⟨by decide +kernel, rfl⟩
theorem eX6_greys_16 : Dc cX6_greys 16 (.iload_n 2) 1 17 := ⟨by decide +kernel, rfl⟩
theorem eX6_greys_17 : Dc cX6_greys 17 (.iadd) 1 18 := ⟨by decide +kernel, rfl⟩
theorem eX6_greys_18 : Dc cX6_greys 18 (.iaload) 1 19 := ⟨by decide +kernel, rfl⟩
theorem eX6_greys_19 : Dc cX6_greys 19 (.iadd) 1 20 := ⟨by decide +kernel, rfl⟩
theorem eX6_greys_20 : Dc cX6_greys 20 (.istore_n 1) 1 21 := ⟨by decide +kernel, rfl⟩
theorem eX6_greys_21 : Dc cX6_greys 21 (.iinc 2 1) 3 24 := ⟨by decide +kernel, rfl⟩
theorem eX6_greys_24 : Dc cX6_greys 24 (.goto (-20)) 3 27 := ⟨by decide +kernel, rfl⟩
theorem eX6_greys_27 : Dc cX6_greys 27 (.iload_n 1) 1 28 := ⟨by decide +kernel, rfl⟩
theorem eX6_greys_28 : Dc cX6_greys 28 (.ireturn) 1 29 := ⟨by decide +kernel, rfl⟩
theorem eX6_count_0 : Dc cX6_count 0 (.iload_n 1) 1 1 := ⟨by decide +kernel, rfl⟩
theorem eX6_count_1 : Dc cX6_count 1 (.tableswitch 126 0 7 #[47, 56, 65, 70, 76, 82, 91, 96]) 47 48 := ⟨by decide +kernel, rfl⟩
theorem eX6_count_48 : Dc cX6_count 48 (.aload_n 0) 1 49 := ⟨by decide +kernel, rfl⟩
theorem eX6_count_49 : Dc cX6_count 49 (.getfield 7) 3 52 := ⟨by decide +kernel, rfl⟩
theorem eX6_count_52 : Dc cX6_count 52 (.sipush 128) 3 55 := ⟨by decide +kernel, rfl⟩
theorem eX6_count_55 : Dc cX6_count 55 (.iaload) 1 56 := ⟨by decide +kernel, rfl⟩
theorem eX6_count_56 : Dc cX6_count 56 (.ireturn) 1 57 := ⟨by decide +kernel, rfl⟩
theorem eX6_count_57 : Dc cX6_count 57 (.aload_n 0) 1 58 := ⟨by decide +kernel, rfl⟩
theorem eX6_count_58 : Dc cX6_count 58 (.getfield 7) 3 61 := ⟨by decide +kernel, rfl⟩
theorem eX6_count_61 : Dc cX6_count 61 (.sipush 129) 3 64 := ⟨by decide +kernel, rfl⟩
theorem eX6_count_64 : Dc cX6_count 64 (.iaload) 1 65 := ⟨by decide +kernel, rfl⟩
theorem eX6_count_65 : Dc cX6_count 65 (.ireturn) 1 66 := ⟨by decide +kernel, rfl⟩
theorem eX6_count_66 : Dc cX6_count 66 (.aload_n 0) 1 67 := ⟨by decide +kernel, rfl⟩
theorem eX6_count_67 : Dc cX6_count 67 (.invokevirtual 199) 3 70 := ⟨by decide +kernel, rfl⟩
theorem eX6_count_70 : Dc cX6_count 70 (.ireturn) 1 71 := ⟨by decide +kernel, rfl⟩
theorem eX6_count_71 : Dc cX6_count 71 (.aload_n 0) 1 72 := ⟨by decide +kernel, rfl⟩
theorem eX6_count_72 : Dc cX6_count 72 (.iconst 1) 1 73 := ⟨by decide +kernel, rfl⟩
theorem eX6_count_73 : Dc cX6_count 73 (.invokevirtual 202) 3 76 := ⟨by decide +kernel, rfl⟩
theorem eX6_count_76 : Dc cX6_count 76 (.ireturn) 1 77 := ⟨by decide +kernel, rfl⟩
theorem eX6_count_77 : Dc cX6_count 77 (.aload_n 0) 1 78 := ⟨by decide +kernel, rfl⟩
theorem eX6_count_78 : Dc cX6_count 78 (.iconst 2) 1 79 := ⟨by decide +kernel, rfl⟩
theorem eX6_count_79 : Dc cX6_count 79 (.invokevirtual 202) 3 82 := ⟨by decide +kernel, rfl⟩
theorem eX6_count_82 : Dc cX6_count 82 (.ireturn) 1 83 := ⟨by decide +kernel, rfl⟩
theorem eX6_count_83 : Dc cX6_count 83 (.aload_n 0) 1 84 := ⟨by decide +kernel, rfl⟩
theorem eX6_count_84 : Dc cX6_count 84 (.getfield 7) 3 87 := ⟨by decide +kernel, rfl⟩
theorem eX6_count_87 : Dc cX6_count 87 (.sipush 130) 3 90 := ⟨by decide +kernel, rfl⟩
theorem eX6_count_90 : Dc cX6_count 90 (.iaload) 1 91 := ⟨by decide +kernel, rfl⟩
theorem eX6_count_91 : Dc cX6_count 91 (.ireturn) 1 92 := ⟨by decide +kernel, rfl⟩
theorem eX6_count_92 : Dc cX6_count 92 (.aload_n 0) 1 93 := ⟨by decide +kernel, rfl⟩
theorem eX6_count_93 : Dc cX6_count 93 (.getfield 127) 3 96 := ⟨by decide +kernel, rfl⟩
theorem eX6_count_96 : Dc cX6_count 96 (.ireturn) 1 97 := ⟨by decide +kernel, rfl⟩
theorem eX6_count_97 : Dc cX6_count 97 (.aload_n 0) 1 98 := ⟨by decide +kernel, rfl⟩
theorem eX6_count_98 : Dc cX6_count 98 (.getfield 16) 3 101 := ⟨by decide +kernel, rfl⟩
theorem eX6_count_101 : Dc cX6_count 101 (.iconst 0) 1 102 := ⟨by decide +kernel, rfl⟩
theorem eX6_count_102 : Dc cX6_count 102 (.baload) 1 103 := ⟨by decide +kernel, rfl⟩
theorem eX6_count_103 : Dc cX6_count 103 (.ifCond .eq 7) 3 106 := ⟨by decide +kernel, rfl⟩
theorem eX6_count_106 : Dc cX6_count 106 (.iconst 1) 1 107 := ⟨by decide +kernel, rfl⟩
theorem eX6_count_107 : Dc cX6_count 107 (.goto 4) 3 110 := ⟨by decide +kernel, rfl⟩
theorem eX6_count_110 : Dc cX6_count 110 (.iconst 0) 1 111 := ⟨by decide +kernel, rfl⟩
theorem eX6_count_111 : Dc cX6_count 111 (.aload_n 0) 1 112 := ⟨by decide +kernel, rfl⟩
theorem eX6_count_112 : Dc cX6_count 112 (.getfield 16) 3 115 := ⟨by decide +kernel, rfl⟩
theorem eX6_count_115 : Dc cX6_count 115 (.iconst 1) 1 116 := ⟨by decide +kernel, rfl⟩
theorem eX6_count_116 : Dc cX6_count 116 (.baload) 1 117 := ⟨by decide +kernel, rfl⟩
theorem eX6_count_117 : Dc cX6_count 117 (.ifCond .eq 7) 3 120 := ⟨by decide +kernel, rfl⟩
theorem eX6_count_120 : Dc cX6_count 120 (.iconst 2) 1 121 := ⟨by decide +kernel, rfl⟩
theorem eX6_count_121 : Dc cX6_count 121 (.goto 4) 3 124 := ⟨by decide +kernel, rfl⟩
theorem eX6_count_124 : Dc cX6_count 124 (.iconst 0) 1 125 := ⟨by decide +kernel, rfl⟩
theorem eX6_count_125 : Dc cX6_count 125 (.iadd) 1 126 := ⟨by decide +kernel, rfl⟩
theorem eX6_count_126 : Dc cX6_count 126 (.ireturn) 1 127 := ⟨by decide +kernel, rfl⟩
theorem eX6_count_127 : Dc cX6_count 127 (.bipush (-2)) 2 129 := ⟨by decide +kernel, rfl⟩
theorem eX6_count_129 : Dc cX6_count 129 (.ireturn) 1 130 := ⟨by decide +kernel, rfl⟩
theorem eL_law_0 : Dc cL_law 0 (.new 7) 3 3 := ⟨by decide +kernel, rfl⟩
theorem eL_law_3 : Dc cL_law 3 (.dup) 1 4 := ⟨by decide +kernel, rfl⟩
theorem eL_law_4 : Dc cL_law 4 (.invokespecial 9) 3 7 := ⟨by decide +kernel, rfl⟩
theorem eL_law_7 : Dc cL_law 7 (.astore_n 1) 1 8 := ⟨by decide +kernel, rfl⟩
theorem eL_law_8 : Dc cL_law 8 (.new 10) 3 11 := ⟨by decide +kernel, rfl⟩
theorem eL_law_11 : Dc cL_law 11 (.dup) 1 12 := ⟨by decide +kernel, rfl⟩
theorem eL_law_12 : Dc cL_law 12 (.invokespecial 12) 3 15 := ⟨by decide +kernel, rfl⟩
theorem eL_law_15 : Dc cL_law 15 (.astore_n 2) 1 16 := ⟨by decide +kernel, rfl⟩
theorem eL_law_16 : Dc cL_law 16 (.iconst 0) 1 17 := ⟨by decide +kernel, rfl⟩
theorem eL_law_17 : Dc cL_law 17 (.istore_n 3) 1 18 := ⟨by decide +kernel, rfl⟩
theorem eL_law_18 : Dc cL_law 18 (.iload_n 3) 1 19 := ⟨by decide +kernel, rfl⟩
theorem eL_law_19 : Dc cL_law 19 (.aload_n 0) 1 20 := ⟨by decide +kernel, rfl⟩
theorem eL_law_20 : Dc cL_law 20 (.arraylength) 1 21 := ⟨by decide +kernel, rfl⟩
theorem eL_law_21 : Dc cL_law 21 (.iconst 4) 1 22 := ⟨by decide +kernel, rfl⟩
theorem eL_law_22 : Dc cL_law 22 (.isub) 1 23 := ⟨by decide +kernel, rfl⟩
theorem eL_law_23 : Dc cL_law 23 (.if_icmp .gt 711) 3 26 := ⟨by decide +kernel, rfl⟩
theorem eL_law_26 : Dc cL_law 26 (.aload_n 0) 1 27 := ⟨by decide +kernel, rfl⟩
theorem eL_law_27 : Dc cL_law 27 (.iload_n 3) 1 28 := ⟨by decide +kernel, rfl⟩
theorem eL_law_28 : Dc cL_law 28 (.iaload) 1 29 := ⟨by decide +kernel, rfl⟩
theorem eL_law_29 : Dc cL_law 29 (.bipush 31) 2 31 := ⟨by decide +kernel, rfl⟩
theorem eL_law_31 : Dc cL_law 31 (.iand) 1 32 := ⟨by decide +kernel, rfl⟩
theorem eL_law_32 : Dc cL_law 32 (.tableswitch 696 0 19 #[96, 129, 172, 215, 238, 281, 304, 317, 340, 363, 396, 429, 452, 475, 508, 551, 594, 627, 650, 673]) 96 128 := ⟨by decide +kernel, rfl⟩
theorem eL_law_128 : Dc cL_law 128 (.aload_n 1) 1 129 := ⟨by decide +kernel, rfl⟩
theorem eL_law_129 : Dc cL_law 129 (.aload_n 0) 1 130 := ⟨by decide +kernel, rfl⟩
theorem eL_law_130 : Dc cL_law 130 (.iload_n 3) 1 131 := ⟨by decide +kernel, rfl⟩
theorem eL_law_131 : Dc cL_law 131 (.iconst 1) 1 132 := ⟨by decide +kernel, rfl⟩
theorem eL_law_132 : Dc cL_law 132 (.iadd) 1 133 := ⟨by decide +kernel, rfl⟩
theorem eL_law_133 : Dc cL_law 133 (.iaload) 1 134 := ⟨by decide +kernel, rfl⟩
theorem eL_law_134 : Dc cL_law 134 (.aload_n 0) 1 135 := ⟨by decide +kernel, rfl⟩
theorem eL_law_135 : Dc cL_law 135 (.iload_n 3) 1 136 := ⟨by decide +kernel, rfl⟩
theorem eL_law_136 : Dc cL_law 136 (.iconst 2) 1 137 := ⟨by decide +kernel, rfl⟩
theorem eL_law_137 : Dc cL_law 137 (.iadd) 1 138 := ⟨by decide +kernel, rfl⟩
theorem eL_law_138 : Dc cL_law 138 (.iaload) 1 139 := ⟨by decide +kernel, rfl⟩
theorem eL_law_139 : Dc cL_law 139 (.invokevirtual 13) 3 142 := ⟨by decide +kernel, rfl⟩
theorem eL_law_142 : Dc cL_law 142 (.aload_n 2) 1 143 := ⟨by decide +kernel, rfl⟩
theorem eL_law_143 : Dc cL_law 143 (.aload_n 0) 1 144 := ⟨by decide +kernel, rfl⟩
theorem eL_law_144 : Dc cL_law 144 (.iload_n 3) 1 145 := ⟨by decide +kernel, rfl⟩
theorem eL_law_145 : Dc cL_law 145 (.iconst 1) 1 146 := ⟨by decide +kernel, rfl⟩
theorem eL_law_146 : Dc cL_law 146 (.iadd) 1 147 := ⟨by decide +kernel, rfl⟩
theorem eL_law_147 : Dc cL_law 147 (.iaload) 1 148 := ⟨by decide +kernel, rfl⟩
theorem eL_law_148 : Dc cL_law 148 (.aload_n 0) 1 149 := ⟨by decide +kernel, rfl⟩
theorem eL_law_149 : Dc cL_law 149 (.iload_n 3) 1 150 := ⟨by decide +kernel, rfl⟩
theorem eL_law_150 : Dc cL_law 150 (.iconst 2) 1 151 := ⟨by decide +kernel, rfl⟩
theorem eL_law_151 : Dc cL_law 151 (.iadd) 1 152 := ⟨by decide +kernel, rfl⟩
theorem eL_law_152 : Dc cL_law 152 (.iaload) 1 153 := ⟨by decide +kernel, rfl⟩
theorem eL_law_153 : Dc cL_law 153 (.invokevirtual 17) 3 156 := ⟨by decide +kernel, rfl⟩
theorem eL_law_156 : Dc cL_law 156 (.if_icmp .eq 572) 3 159 := ⟨by decide +kernel, rfl⟩
theorem eL_law_159 : Dc cL_law 159 (.iconst 0) 1 160 := ⟨by decide +kernel, rfl⟩
theorem eL_law_160 : Dc cL_law 160 (.ireturn) 1 161 := ⟨by decide +kernel, rfl⟩
theorem eL_law_161 : Dc cL_law 161 (.aload_n 1) 1 162 := ⟨by decide +kernel, rfl⟩
theorem eL_law_162 : Dc cL_law 162 (.aload_n 0) 1 163 := ⟨by decide +kernel, rfl⟩
theorem eL_law_163 : Dc cL_law 163 (.iload_n 3) 1 164 := ⟨by decide +kernel, rfl⟩
theorem eL_law_164 : Dc cL_law 164 (.iconst 1) 1 165 := ⟨by decide +kernel, rfl⟩
theorem eL_law_165 : Dc cL_law 165 (.iadd) 1 166 := ⟨by decide +kernel, rfl⟩
theorem eL_law_166 : Dc cL_law 166 (.iaload) 1 167 := ⟨by decide +kernel, rfl⟩
theorem eL_law_167 : Dc cL_law 167 (.aload_n 0) 1 168 := ⟨by decide +kernel, rfl⟩
theorem eL_law_168 : Dc cL_law 168 (.iload_n 3) 1 169 := ⟨by decide +kernel, rfl⟩
theorem eL_law_169 : Dc cL_law 169 (.iconst 2) 1 170 := ⟨by decide +kernel, rfl⟩
theorem eL_law_170 : Dc cL_law 170 (.iadd) 1 171 := ⟨by decide +kernel, rfl⟩
theorem eL_law_171 : Dc cL_law 171 (.iaload) 1 172 := ⟨by decide +kernel, rfl⟩
theorem eL_law_172 : Dc cL_law 172 (.aload_n 0) 1 173 := ⟨by decide +kernel, rfl⟩
theorem eL_law_173 : Dc cL_law 173 (.iload_n 3) 1 174 := ⟨by decide +kernel, rfl⟩
theorem eL_law_174 : Dc cL_law 174 (.iconst 3) 1 175 := ⟨by decide +kernel, rfl⟩
theorem eL_law_175 : Dc cL_law 175 (.iadd) 1 176 := ⟨by decide +kernel, rfl⟩
theorem eL_law_176 : Dc cL_law 176 (.iaload) 1 177 := ⟨by decide +kernel, rfl⟩
theorem eL_law_177 : Dc cL_law 177 (.invokevirtual 18) 3 180 := ⟨by decide +kernel, rfl⟩
theorem eL_law_180 : Dc cL_law 180 (.aload_n 2) 1 181 := ⟨by decide +kernel, rfl⟩
theorem eL_law_181 : Dc cL_law 181 (.aload_n 0) 1 182 := ⟨by decide +kernel, rfl⟩
theorem eL_law_182 : Dc cL_law 182 (.iload_n 3) 1 183 := ⟨by decide +kernel, rfl⟩
theorem eL_law_183 : Dc cL_law 183 (.iconst 1) 1 184 := ⟨by decide +kernel, rfl⟩
theorem eL_law_184 : Dc cL_law 184 (.iadd) 1 185 := ⟨by decide +kernel, rfl⟩
theorem eL_law_185 : Dc cL_law 185 (.iaload) 1 186 := ⟨by decide +kernel, rfl⟩
theorem eL_law_186 : Dc cL_law 186 (.aload_n 0) 1 187 := ⟨by decide +kernel, rfl⟩
theorem eL_law_187 : Dc cL_law 187 (.iload_n 3) 1 188 := ⟨by decide +kernel, rfl⟩
theorem eL_law_188 : Dc cL_law 188 (.iconst 2) 1 189 := ⟨by decide +kernel, rfl⟩
theorem eL_law_189 : Dc cL_law 189 (.iadd) 1 190 := ⟨by decide +kernel, rfl⟩
theorem eL_law_190 : Dc cL_law 190 (.iaload) 1 191 := ⟨by decide +kernel, rfl⟩
theorem eL_law_191 : Dc cL_law 191 (.aload_n 0) 1 192 := ⟨by decide +kernel, rfl⟩
theorem eL_law_192 : Dc cL_law 192 (.iload_n 3) 1 193 := ⟨by decide +kernel, rfl⟩
theorem eL_law_193 : Dc cL_law 193 (.iconst 3) 1 194 := ⟨by decide +kernel, rfl⟩
theorem eL_law_194 : Dc cL_law 194 (.iadd) 1 195 := ⟨by decide +kernel, rfl⟩
theorem eL_law_195 : Dc cL_law 195 (.iaload) 1 196 := ⟨by decide +kernel, rfl⟩
theorem eL_law_196 : Dc cL_law 196 (.invokevirtual 22) 3 199 := ⟨by decide +kernel, rfl⟩
theorem eL_law_199 : Dc cL_law 199 (.if_icmp .eq 529) 3 202 := ⟨by decide +kernel, rfl⟩
theorem eL_law_202 : Dc cL_law 202 (.iconst 0) 1 203 := ⟨by decide +kernel, rfl⟩
theorem eL_law_203 : Dc cL_law 203 (.ireturn) 1 204 := ⟨by decide +kernel, rfl⟩
theorem eL_law_204 : Dc cL_law 204 (.aload_n 1) 1 205 := ⟨by decide +kernel, rfl⟩
theorem eL_law_205 : Dc cL_law 205 (.aload_n 0) 1 206 := ⟨by decide +kernel, rfl⟩
theorem eL_law_206 : Dc cL_law 206 (.iload_n 3) 1 207 := ⟨by decide +kernel, rfl⟩
theorem eL_law_207 : Dc cL_law 207 (.iconst 1) 1 208 := ⟨by decide +kernel, rfl⟩
theorem eL_law_208 : Dc cL_law 208 (.iadd) 1 209 := ⟨by decide +kernel, rfl⟩
theorem eL_law_209 : Dc cL_law 209 (.iaload) 1 210 := ⟨by decide +kernel, rfl⟩
theorem eL_law_210 : Dc cL_law 210 (.aload_n 0) 1 211 := ⟨by decide +kernel, rfl⟩
theorem eL_law_211 : Dc cL_law 211 (.iload_n 3) 1 212 := ⟨by decide +kernel, rfl⟩
theorem eL_law_212 : Dc cL_law 212 (.iconst 2) 1 213 := ⟨by decide +kernel, rfl⟩
theorem eL_law_213 : Dc cL_law 213 (.iadd) 1 214 := ⟨by decide +kernel, rfl⟩
theorem eL_law_214 : Dc cL_law 214 (.iaload) 1 215 := ⟨by decide +kernel, rfl⟩
theorem eL_law_215 : Dc cL_law 215 (.aload_n 0) 1 216 := ⟨by decide +kernel, rfl⟩
theorem eL_law_216 : Dc cL_law 216 (.iload_n 3) 1 217 := ⟨by decide +kernel, rfl⟩
theorem eL_law_217 : Dc cL_law 217 (.iconst 3) 1 218 := ⟨by decide +kernel, rfl⟩
theorem eL_law_218 : Dc cL_law 218 (.iadd) 1 219 := ⟨by decide +kernel, rfl⟩
theorem eL_law_219 : Dc cL_law 219 (.iaload) 1 220 := ⟨by decide +kernel, rfl⟩
theorem eL_law_220 : Dc cL_law 220 (.invokevirtual 23) 3 223 := ⟨by decide +kernel, rfl⟩
theorem eL_law_223 : Dc cL_law 223 (.aload_n 2) 1 224 := ⟨by decide +kernel, rfl⟩
theorem eL_law_224 : Dc cL_law 224 (.aload_n 0) 1 225 := ⟨by decide +kernel, rfl⟩
theorem eL_law_225 : Dc cL_law 225 (.iload_n 3) 1 226 := ⟨by decide +kernel, rfl⟩
theorem eL_law_226 : Dc cL_law 226 (.iconst 1) 1 227 := ⟨by decide +kernel, rfl⟩
theorem eL_law_227 : Dc cL_law 227 (.iadd) 1 228 := ⟨by decide +kernel, rfl⟩
theorem eL_law_228 : Dc cL_law 228 (.iaload) 1 229 := ⟨by decide +kernel, rfl⟩
theorem eL_law_229 : Dc cL_law 229 (.aload_n 0) 1 230 := ⟨by decide +kernel, rfl⟩
theorem eL_law_230 : Dc cL_law 230 (.iload_n 3) 1 231 := ⟨by decide +kernel, rfl⟩
theorem eL_law_231 : Dc cL_law 231 (.iconst 2) 1 232 := ⟨by decide +kernel, rfl⟩
theorem eL_law_232 : Dc cL_law 232 (.iadd) 1 233 := ⟨by decide +kernel, rfl⟩
theorem eL_law_233 : Dc cL_law 233 (.iaload) 1 234 := ⟨by decide +kernel, rfl⟩
theorem eL_law_234 : Dc cL_law 234 (.aload_n 0) 1 235 := ⟨by decide +kernel, rfl⟩
theorem eL_law_235 : Dc cL_law 235 (.iload_n 3) 1 236 := ⟨by decide +kernel, rfl⟩
theorem eL_law_236 : Dc cL_law 236 (.iconst 3) 1 237 := ⟨by decide +kernel, rfl⟩
theorem eL_law_237 : Dc cL_law 237 (.iadd) 1 238 := ⟨by decide +kernel, rfl⟩
theorem eL_law_238 : Dc cL_law 238 (.iaload) 1 239 := ⟨by decide +kernel, rfl⟩
theorem eL_law_239 : Dc cL_law 239 (.invokevirtual 26) 3 242 := ⟨by decide +kernel, rfl⟩
theorem eL_law_242 : Dc cL_law 242 (.if_icmp .eq 486) 3 245 := ⟨by decide +kernel, rfl⟩
theorem eL_law_245 : Dc cL_law 245 (.iconst 0) 1 246 := ⟨by decide +kernel, rfl⟩
theorem eL_law_246 : Dc cL_law 246 (.ireturn) 1 247 := ⟨by decide +kernel, rfl⟩
theorem eL_law_247 : Dc cL_law 247 (.aload_n 1) 1 248 := ⟨by decide +kernel, rfl⟩
theorem eL_law_248 : Dc cL_law 248 (.aload_n 0) 1 249 := ⟨by decide +kernel, rfl⟩
theorem eL_law_249 : Dc cL_law 249 (.iload_n 3) 1 250 := ⟨by decide +kernel, rfl⟩
theorem eL_law_250 : Dc cL_law 250 (.iconst 1) 1 251 := ⟨by decide +kernel, rfl⟩
theorem eL_law_251 : Dc cL_law 251 (.iadd) 1 252 := ⟨by decide +kernel, rfl⟩
theorem eL_law_252 : Dc cL_law 252 (.iaload) 1 253 := ⟨by decide +kernel, rfl⟩
theorem eL_law_253 : Dc cL_law 253 (.invokevirtual 27) 3 256 := ⟨by decide +kernel, rfl⟩
theorem eL_law_256 : Dc cL_law 256 (.aload_n 2) 1 257 := ⟨by decide +kernel, rfl⟩
theorem eL_law_257 : Dc cL_law 257 (.aload_n 0) 1 258 := ⟨by decide +kernel, rfl⟩
theorem eL_law_258 : Dc cL_law 258 (.iload_n 3) 1 259 := ⟨by decide +kernel, rfl⟩
theorem eL_law_259 : Dc cL_law 259 (.iconst 1) 1 260 := ⟨by decide +kernel, rfl⟩
theorem eL_law_260 : Dc cL_law 260 (.iadd) 1 261 := ⟨by decide +kernel, rfl⟩
theorem eL_law_261 : Dc cL_law 261 (.iaload) 1 262 := ⟨by decide +kernel, rfl⟩
theorem eL_law_262 : Dc cL_law 262 (.invokevirtual 31) 3 265 := ⟨by decide +kernel, rfl⟩
theorem eL_law_265 : Dc cL_law 265 (.if_icmp .eq 463) 3 268 := ⟨by decide +kernel, rfl⟩
theorem eL_law_268 : Dc cL_law 268 (.iconst 0) 1 269 := ⟨by decide +kernel, rfl⟩
theorem eL_law_269 : Dc cL_law 269 (.ireturn) 1 270 := ⟨by decide +kernel, rfl⟩
theorem eL_law_270 : Dc cL_law 270 (.aload_n 1) 1 271 := ⟨by decide +kernel, rfl⟩
theorem eL_law_271 : Dc cL_law 271 (.aload_n 0) 1 272 := ⟨by decide +kernel, rfl⟩
theorem eL_law_272 : Dc cL_law 272 (.iload_n 3) 1 273 := ⟨by decide +kernel, rfl⟩
theorem eL_law_273 : Dc cL_law 273 (.iconst 1) 1 274 := ⟨by decide +kernel, rfl⟩
theorem eL_law_274 : Dc cL_law 274 (.iadd) 1 275 := ⟨by decide +kernel, rfl⟩
theorem eL_law_275 : Dc cL_law 275 (.iaload) 1 276 := ⟨by decide +kernel, rfl⟩
theorem eL_law_276 : Dc cL_law 276 (.aload_n 0) 1 277 := ⟨by decide +kernel, rfl⟩
theorem eL_law_277 : Dc cL_law 277 (.iload_n 3) 1 278 := ⟨by decide +kernel, rfl⟩
theorem eL_law_278 : Dc cL_law 278 (.iconst 2) 1 279 := ⟨by decide +kernel, rfl⟩
theorem eL_law_279 : Dc cL_law 279 (.iadd) 1 280 := ⟨by decide +kernel, rfl⟩
theorem eL_law_280 : Dc cL_law 280 (.iaload) 1 281 := ⟨by decide +kernel, rfl⟩
theorem eL_law_281 : Dc cL_law 281 (.aload_n 0) 1 282 := ⟨by decide +kernel, rfl⟩
theorem eL_law_282 : Dc cL_law 282 (.iload_n 3) 1 283 := ⟨by decide +kernel, rfl⟩
theorem eL_law_283 : Dc cL_law 283 (.iconst 3) 1 284 := ⟨by decide +kernel, rfl⟩
theorem eL_law_284 : Dc cL_law 284 (.iadd) 1 285 := ⟨by decide +kernel, rfl⟩
theorem eL_law_285 : Dc cL_law 285 (.iaload) 1 286 := ⟨by decide +kernel, rfl⟩
theorem eL_law_286 : Dc cL_law 286 (.invokevirtual 32) 3 289 := ⟨by decide +kernel, rfl⟩
theorem eL_law_289 : Dc cL_law 289 (.aload_n 2) 1 290 := ⟨by decide +kernel, rfl⟩
theorem eL_law_290 : Dc cL_law 290 (.aload_n 0) 1 291 := ⟨by decide +kernel, rfl⟩
theorem eL_law_291 : Dc cL_law 291 (.iload_n 3) 1 292 := ⟨by decide +kernel, rfl⟩
theorem eL_law_292 : Dc cL_law 292 (.iconst 1) 1 293 := ⟨by decide +kernel, rfl⟩
theorem eL_law_293 : Dc cL_law 293 (.iadd) 1 294 := ⟨by decide +kernel, rfl⟩
theorem eL_law_294 : Dc cL_law 294 (.iaload) 1 295 := ⟨by decide +kernel, rfl⟩
theorem eL_law_295 : Dc cL_law 295 (.aload_n 0) 1 296 := ⟨by decide +kernel, rfl⟩
theorem eL_law_296 : Dc cL_law 296 (.iload_n 3) 1 297 := ⟨by decide +kernel, rfl⟩
theorem eL_law_297 : Dc cL_law 297 (.iconst 2) 1 298 := ⟨by decide +kernel, rfl⟩
theorem eL_law_298 : Dc cL_law 298 (.iadd) 1 299 := ⟨by decide +kernel, rfl⟩
theorem eL_law_299 : Dc cL_law 299 (.iaload) 1 300 := ⟨by decide +kernel, rfl⟩
theorem eL_law_300 : Dc cL_law 300 (.aload_n 0) 1 301 := ⟨by decide +kernel, rfl⟩
theorem eL_law_301 : Dc cL_law 301 (.iload_n 3) 1 302 := ⟨by decide +kernel, rfl⟩
theorem eL_law_302 : Dc cL_law 302 (.iconst 3) 1 303 := ⟨by decide +kernel, rfl⟩
theorem eL_law_303 : Dc cL_law 303 (.iadd) 1 304 := ⟨by decide +kernel, rfl⟩
theorem eL_law_304 : Dc cL_law 304 (.iaload) 1 305 := ⟨by decide +kernel, rfl⟩
theorem eL_law_305 : Dc cL_law 305 (.invokevirtual 35) 3 308 := ⟨by decide +kernel, rfl⟩
theorem eL_law_308 : Dc cL_law 308 (.if_icmp .eq 420) 3 311 := ⟨by decide +kernel, rfl⟩
theorem eL_law_311 : Dc cL_law 311 (.iconst 0) 1 312 := ⟨by decide +kernel, rfl⟩
theorem eL_law_312 : Dc cL_law 312 (.ireturn) 1 313 := ⟨by decide +kernel, rfl⟩
theorem eL_law_313 : Dc cL_law 313 (.aload_n 1) 1 314 := ⟨by decide +kernel, rfl⟩
theorem eL_law_314 : Dc cL_law 314 (.aload_n 0) 1 315 := ⟨by decide +kernel, rfl⟩
theorem eL_law_315 : Dc cL_law 315 (.iload_n 3) 1 316 := ⟨by decide +kernel, rfl⟩
theorem eL_law_316 : Dc cL_law 316 (.iconst 1) 1 317 := ⟨by decide +kernel, rfl⟩
theorem eL_law_317 : Dc cL_law 317 (.iadd) 1 318 := ⟨by decide +kernel, rfl⟩
theorem eL_law_318 : Dc cL_law 318 (.iaload) 1 319 := ⟨by decide +kernel, rfl⟩
theorem eL_law_319 : Dc cL_law 319 (.invokevirtual 36) 3 322 := ⟨by decide +kernel, rfl⟩
theorem eL_law_322 : Dc cL_law 322 (.aload_n 2) 1 323 := ⟨by decide +kernel, rfl⟩
theorem eL_law_323 : Dc cL_law 323 (.aload_n 0) 1 324 := ⟨by decide +kernel, rfl⟩
theorem eL_law_324 : Dc cL_law 324 (.iload_n 3) 1 325 := ⟨by decide +kernel, rfl⟩
theorem eL_law_325 : Dc cL_law 325 (.iconst 1) 1 326 := ⟨by decide +kernel, rfl⟩
theorem eL_law_326 : Dc cL_law 326 (.iadd) 1 327 := ⟨by decide +kernel, rfl⟩
theorem eL_law_327 : Dc cL_law 327 (.iaload) 1 328 := ⟨by decide +kernel, rfl⟩
theorem eL_law_328 : Dc cL_law 328 (.invokevirtual 39) 3 331 := ⟨by decide +kernel, rfl⟩
theorem eL_law_331 : Dc cL_law 331 (.if_icmp .eq 397) 3 334 := ⟨by decide +kernel, rfl⟩
theorem eL_law_334 : Dc cL_law 334 (.iconst 0) 1 335 := ⟨by decide +kernel, rfl⟩
theorem eL_law_335 : Dc cL_law 335 (.ireturn) 1 336 := ⟨by decide +kernel, rfl⟩
theorem eL_law_336 : Dc cL_law 336 (.aload_n 1) 1 337 := ⟨by decide +kernel, rfl⟩
theorem eL_law_337 : Dc cL_law 337 (.invokevirtual 40) 3 340 := ⟨by decide +kernel, rfl⟩
theorem eL_law_340 : Dc cL_law 340 (.aload_n 2) 1 341 := ⟨by decide +kernel, rfl⟩
theorem eL_law_341 : Dc cL_law 341 (.invokevirtual 44) 3 344 := ⟨by decide +kernel, rfl⟩
theorem eL_law_344 : Dc cL_law 344 (.if_icmp .eq 384) 3 347 := ⟨by decide +kernel, rfl⟩
theorem eL_law_347 : Dc cL_law 347 (.iconst 0) 1 348 := ⟨by decide +kernel, rfl⟩
theorem eL_law_348 : Dc cL_law 348 (.ireturn) 1 349 := ⟨by decide +kernel, rfl⟩
theorem eL_law_349 : Dc cL_law 349 (.aload_n 1) 1 350 := ⟨by decide +kernel, rfl⟩
theorem eL_law_350 : Dc cL_law 350 (.aload_n 0) 1 351 := ⟨by decide +kernel, rfl⟩
theorem eL_law_351 : Dc cL_law 351 (.iload_n 3) 1 352 := ⟨by decide +kernel, rfl⟩
theorem eL_law_352 : Dc cL_law 352 (.iconst 1) 1 353 := ⟨by decide +kernel, rfl⟩
theorem eL_law_353 : Dc cL_law 353 (.iadd) 1 354 := ⟨by decide +kernel, rfl⟩
theorem eL_law_354 : Dc cL_law 354 (.iaload) 1 355 := ⟨by decide +kernel, rfl⟩
theorem eL_law_355 : Dc cL_law 355 (.invokevirtual 45) 3 358 := ⟨by decide +kernel, rfl⟩
theorem eL_law_358 : Dc cL_law 358 (.aload_n 2) 1 359 := ⟨by decide +kernel, rfl⟩
theorem eL_law_359 : Dc cL_law 359 (.aload_n 0) 1 360 := ⟨by decide +kernel, rfl⟩
theorem eL_law_360 : Dc cL_law 360 (.iload_n 3) 1 361 := ⟨by decide +kernel, rfl⟩
theorem eL_law_361 : Dc cL_law 361 (.iconst 1) 1 362 := ⟨by decide +kernel, rfl⟩
theorem eL_law_362 : Dc cL_law 362 (.iadd) 1 363 := ⟨by decide +kernel, rfl⟩
theorem eL_law_363 : Dc cL_law 363 (.iaload) 1 364 := ⟨by decide +kernel, rfl⟩
theorem eL_law_364 : Dc cL_law 364 (.invokevirtual 48) 3 367 := ⟨by decide +kernel, rfl⟩
theorem eL_law_367 : Dc cL_law 367 (.if_icmp .eq 361) 3 370 := ⟨by decide +kernel, rfl⟩
theorem eL_law_370 : Dc cL_law 370 (.iconst 0) 1 371 := ⟨by decide +kernel, rfl⟩
theorem eL_law_371 : Dc cL_law 371 (.ireturn) 1 372 := ⟨by decide +kernel, rfl⟩
theorem eL_law_372 : Dc cL_law 372 (.aload_n 1) 1 373 := ⟨by decide +kernel, rfl⟩
theorem eL_law_373 : Dc cL_law 373 (.aload_n 0) 1 374 := ⟨by decide +kernel, rfl⟩
theorem eL_law_374 : Dc cL_law 374 (.iload_n 3) 1 375 := ⟨by decide +kernel, rfl⟩
theorem eL_law_375 : Dc cL_law 375 (.iconst 1) 1 376 := ⟨by decide +kernel, rfl⟩
theorem eL_law_376 : Dc cL_law 376 (.iadd) 1 377 := ⟨by decide +kernel, rfl⟩
theorem eL_law_377 : Dc cL_law 377 (.iaload) 1 378 := ⟨by decide +kernel, rfl⟩
theorem eL_law_378 : Dc cL_law 378 (.invokevirtual 49) 3 381 := ⟨by decide +kernel, rfl⟩
theorem eL_law_381 : Dc cL_law 381 (.aload_n 2) 1 382 := ⟨by decide +kernel, rfl⟩
theorem eL_law_382 : Dc cL_law 382 (.aload_n 0) 1 383 := ⟨by decide +kernel, rfl⟩
theorem eL_law_383 : Dc cL_law 383 (.iload_n 3) 1 384 := ⟨by decide +kernel, rfl⟩
theorem eL_law_384 : Dc cL_law 384 (.iconst 1) 1 385 := ⟨by decide +kernel, rfl⟩
theorem eL_law_385 : Dc cL_law 385 (.iadd) 1 386 := ⟨by decide +kernel, rfl⟩
theorem eL_law_386 : Dc cL_law 386 (.iaload) 1 387 := ⟨by decide +kernel, rfl⟩
theorem eL_law_387 : Dc cL_law 387 (.invokevirtual 52) 3 390 := ⟨by decide +kernel, rfl⟩
theorem eL_law_390 : Dc cL_law 390 (.if_icmp .eq 338) 3 393 := ⟨by decide +kernel, rfl⟩
theorem eL_law_393 : Dc cL_law 393 (.iconst 0) 1 394 := ⟨by decide +kernel, rfl⟩
theorem eL_law_394 : Dc cL_law 394 (.ireturn) 1 395 := ⟨by decide +kernel, rfl⟩
theorem eL_law_395 : Dc cL_law 395 (.aload_n 1) 1 396 := ⟨by decide +kernel, rfl⟩
theorem eL_law_396 : Dc cL_law 396 (.aload_n 0) 1 397 := ⟨by decide +kernel, rfl⟩
theorem eL_law_397 : Dc cL_law 397 (.iload_n 3) 1 398 := ⟨by decide +kernel, rfl⟩
theorem eL_law_398 : Dc cL_law 398 (.iconst 1) 1 399 := ⟨by decide +kernel, rfl⟩
theorem eL_law_399 : Dc cL_law 399 (.iadd) 1 400 := ⟨by decide +kernel, rfl⟩
theorem eL_law_400 : Dc cL_law 400 (.iaload) 1 401 := ⟨by decide +kernel, rfl⟩
theorem eL_law_401 : Dc cL_law 401 (.aload_n 0) 1 402 := ⟨by decide +kernel, rfl⟩
theorem eL_law_402 : Dc cL_law 402 (.iload_n 3) 1 403 := ⟨by decide +kernel, rfl⟩
theorem eL_law_403 : Dc cL_law 403 (.iconst 2) 1 404 := ⟨by decide +kernel, rfl⟩
theorem eL_law_404 : Dc cL_law 404 (.iadd) 1 405 := ⟨by decide +kernel, rfl⟩
theorem eL_law_405 : Dc cL_law 405 (.iaload) 1 406 := ⟨by decide +kernel, rfl⟩
theorem eL_law_406 : Dc cL_law 406 (.invokevirtual 53) 3 409 := ⟨by decide +kernel, rfl⟩
theorem eL_law_409 : Dc cL_law 409 (.aload_n 2) 1 410 := ⟨by decide +kernel, rfl⟩
theorem eL_law_410 : Dc cL_law 410 (.aload_n 0) 1 411 := ⟨by decide +kernel, rfl⟩
theorem eL_law_411 : Dc cL_law 411 (.iload_n 3) 1 412 := ⟨by decide +kernel, rfl⟩
theorem eL_law_412 : Dc cL_law 412 (.iconst 1) 1 413 := ⟨by decide +kernel, rfl⟩
theorem eL_law_413 : Dc cL_law 413 (.iadd) 1 414 := ⟨by decide +kernel, rfl⟩
theorem eL_law_414 : Dc cL_law 414 (.iaload) 1 415 := ⟨by decide +kernel, rfl⟩
theorem eL_law_415 : Dc cL_law 415 (.aload_n 0) 1 416 := ⟨by decide +kernel, rfl⟩
theorem eL_law_416 : Dc cL_law 416 (.iload_n 3) 1 417 := ⟨by decide +kernel, rfl⟩
theorem eL_law_417 : Dc cL_law 417 (.iconst 2) 1 418 := ⟨by decide +kernel, rfl⟩
theorem eL_law_418 : Dc cL_law 418 (.iadd) 1 419 := ⟨by decide +kernel, rfl⟩
theorem eL_law_419 : Dc cL_law 419 (.iaload) 1 420 := ⟨by decide +kernel, rfl⟩
theorem eL_law_420 : Dc cL_law 420 (.invokevirtual 56) 3 423 := ⟨by decide +kernel, rfl⟩
theorem eL_law_423 : Dc cL_law 423 (.if_icmp .eq 305) 3 426 := ⟨by decide +kernel, rfl⟩
theorem eL_law_426 : Dc cL_law 426 (.iconst 0) 1 427 := ⟨by decide +kernel, rfl⟩
theorem eL_law_427 : Dc cL_law 427 (.ireturn) 1 428 := ⟨by decide +kernel, rfl⟩
theorem eL_law_428 : Dc cL_law 428 (.aload_n 1) 1 429 := ⟨by decide +kernel, rfl⟩
theorem eL_law_429 : Dc cL_law 429 (.aload_n 0) 1 430 := ⟨by decide +kernel, rfl⟩
theorem eL_law_430 : Dc cL_law 430 (.iload_n 3) 1 431 := ⟨by decide +kernel, rfl⟩
theorem eL_law_431 : Dc cL_law 431 (.iconst 1) 1 432 := ⟨by decide +kernel, rfl⟩
theorem eL_law_432 : Dc cL_law 432 (.iadd) 1 433 := ⟨by decide +kernel, rfl⟩
theorem eL_law_433 : Dc cL_law 433 (.iaload) 1 434 := ⟨by decide +kernel, rfl⟩
theorem eL_law_434 : Dc cL_law 434 (.aload_n 0) 1 435 := ⟨by decide +kernel, rfl⟩
theorem eL_law_435 : Dc cL_law 435 (.iload_n 3) 1 436 := ⟨by decide +kernel, rfl⟩
theorem eL_law_436 : Dc cL_law 436 (.iconst 2) 1 437 := ⟨by decide +kernel, rfl⟩
theorem eL_law_437 : Dc cL_law 437 (.iadd) 1 438 := ⟨by decide +kernel, rfl⟩
theorem eL_law_438 : Dc cL_law 438 (.iaload) 1 439 := ⟨by decide +kernel, rfl⟩
theorem eL_law_439 : Dc cL_law 439 (.invokevirtual 57) 3 442 := ⟨by decide +kernel, rfl⟩
theorem eL_law_442 : Dc cL_law 442 (.aload_n 2) 1 443 := ⟨by decide +kernel, rfl⟩
theorem eL_law_443 : Dc cL_law 443 (.aload_n 0) 1 444 := ⟨by decide +kernel, rfl⟩
theorem eL_law_444 : Dc cL_law 444 (.iload_n 3) 1 445 := ⟨by decide +kernel, rfl⟩
theorem eL_law_445 : Dc cL_law 445 (.iconst 1) 1 446 := ⟨by decide +kernel, rfl⟩
theorem eL_law_446 : Dc cL_law 446 (.iadd) 1 447 := ⟨by decide +kernel, rfl⟩
theorem eL_law_447 : Dc cL_law 447 (.iaload) 1 448 := ⟨by decide +kernel, rfl⟩
theorem eL_law_448 : Dc cL_law 448 (.aload_n 0) 1 449 := ⟨by decide +kernel, rfl⟩
theorem eL_law_449 : Dc cL_law 449 (.iload_n 3) 1 450 := ⟨by decide +kernel, rfl⟩
theorem eL_law_450 : Dc cL_law 450 (.iconst 2) 1 451 := ⟨by decide +kernel, rfl⟩
theorem eL_law_451 : Dc cL_law 451 (.iadd) 1 452 := ⟨by decide +kernel, rfl⟩
theorem eL_law_452 : Dc cL_law 452 (.iaload) 1 453 := ⟨by decide +kernel, rfl⟩
theorem eL_law_453 : Dc cL_law 453 (.invokevirtual 60) 3 456 := ⟨by decide +kernel, rfl⟩
theorem eL_law_456 : Dc cL_law 456 (.if_icmp .eq 272) 3 459 := ⟨by decide +kernel, rfl⟩
theorem eL_law_459 : Dc cL_law 459 (.iconst 0) 1 460 := ⟨by decide +kernel, rfl⟩
theorem eL_law_460 : Dc cL_law 460 (.ireturn) 1 461 := ⟨by decide +kernel, rfl⟩
theorem eL_law_461 : Dc cL_law 461 (.aload_n 1) 1 462 := ⟨by decide +kernel, rfl⟩
theorem eL_law_462 : Dc cL_law 462 (.aload_n 0) 1 463 := ⟨by decide +kernel, rfl⟩
theorem eL_law_463 : Dc cL_law 463 (.iload_n 3) 1 464 := ⟨by decide +kernel, rfl⟩
theorem eL_law_464 : Dc cL_law 464 (.iconst 1) 1 465 := ⟨by decide +kernel, rfl⟩
theorem eL_law_465 : Dc cL_law 465 (.iadd) 1 466 := ⟨by decide +kernel, rfl⟩
theorem eL_law_466 : Dc cL_law 466 (.iaload) 1 467 := ⟨by decide +kernel, rfl⟩
theorem eL_law_467 : Dc cL_law 467 (.invokevirtual 61) 3 470 := ⟨by decide +kernel, rfl⟩
theorem eL_law_470 : Dc cL_law 470 (.aload_n 2) 1 471 := ⟨by decide +kernel, rfl⟩
theorem eL_law_471 : Dc cL_law 471 (.aload_n 0) 1 472 := ⟨by decide +kernel, rfl⟩
theorem eL_law_472 : Dc cL_law 472 (.iload_n 3) 1 473 := ⟨by decide +kernel, rfl⟩
theorem eL_law_473 : Dc cL_law 473 (.iconst 1) 1 474 := ⟨by decide +kernel, rfl⟩
theorem eL_law_474 : Dc cL_law 474 (.iadd) 1 475 := ⟨by decide +kernel, rfl⟩
theorem eL_law_475 : Dc cL_law 475 (.iaload) 1 476 := ⟨by decide +kernel, rfl⟩
theorem eL_law_476 : Dc cL_law 476 (.invokevirtual 64) 3 479 := ⟨by decide +kernel, rfl⟩
theorem eL_law_479 : Dc cL_law 479 (.if_icmp .eq 249) 3 482 := ⟨by decide +kernel, rfl⟩
theorem eL_law_482 : Dc cL_law 482 (.iconst 0) 1 483 := ⟨by decide +kernel, rfl⟩
theorem eL_law_483 : Dc cL_law 483 (.ireturn) 1 484 := ⟨by decide +kernel, rfl⟩
theorem eL_law_484 : Dc cL_law 484 (.aload_n 1) 1 485 := ⟨by decide +kernel, rfl⟩
theorem eL_law_485 : Dc cL_law 485 (.aload_n 0) 1 486 := ⟨by decide +kernel, rfl⟩
theorem eL_law_486 : Dc cL_law 486 (.iload_n 3) 1 487 := ⟨by decide +kernel, rfl⟩
theorem eL_law_487 : Dc cL_law 487 (.iconst 1) 1 488 := ⟨by decide +kernel, rfl⟩
theorem eL_law_488 : Dc cL_law 488 (.iadd) 1 489 := ⟨by decide +kernel, rfl⟩
theorem eL_law_489 : Dc cL_law 489 (.iaload) 1 490 := ⟨by decide +kernel, rfl⟩
theorem eL_law_490 : Dc cL_law 490 (.invokevirtual 65) 3 493 := ⟨by decide +kernel, rfl⟩
theorem eL_law_493 : Dc cL_law 493 (.aload_n 2) 1 494 := ⟨by decide +kernel, rfl⟩
theorem eL_law_494 : Dc cL_law 494 (.aload_n 0) 1 495 := ⟨by decide +kernel, rfl⟩
theorem eL_law_495 : Dc cL_law 495 (.iload_n 3) 1 496 := ⟨by decide +kernel, rfl⟩
theorem eL_law_496 : Dc cL_law 496 (.iconst 1) 1 497 := ⟨by decide +kernel, rfl⟩
theorem eL_law_497 : Dc cL_law 497 (.iadd) 1 498 := ⟨by decide +kernel, rfl⟩
theorem eL_law_498 : Dc cL_law 498 (.iaload) 1 499 := ⟨by decide +kernel, rfl⟩
theorem eL_law_499 : Dc cL_law 499 (.invokevirtual 68) 3 502 := ⟨by decide +kernel, rfl⟩
theorem eL_law_502 : Dc cL_law 502 (.if_icmp .eq 226) 3 505 := ⟨by decide +kernel, rfl⟩
theorem eL_law_505 : Dc cL_law 505 (.iconst 0) 1 506 := ⟨by decide +kernel, rfl⟩
theorem eL_law_506 : Dc cL_law 506 (.ireturn) 1 507 := ⟨by decide +kernel, rfl⟩
theorem eL_law_507 : Dc cL_law 507 (.aload_n 1) 1 508 := ⟨by decide +kernel, rfl⟩
theorem eL_law_508 : Dc cL_law 508 (.aload_n 0) 1 509 := ⟨by decide +kernel, rfl⟩
theorem eL_law_509 : Dc cL_law 509 (.iload_n 3) 1 510 := ⟨by decide +kernel, rfl⟩
theorem eL_law_510 : Dc cL_law 510 (.iconst 1) 1 511 := ⟨by decide +kernel, rfl⟩
theorem eL_law_511 : Dc cL_law 511 (.iadd) 1 512 := ⟨by decide +kernel, rfl⟩
theorem eL_law_512 : Dc cL_law 512 (.iaload) 1 513 := ⟨by decide +kernel, rfl⟩
theorem eL_law_513 : Dc cL_law 513 (.aload_n 0) 1 514 := ⟨by decide +kernel, rfl⟩
theorem eL_law_514 : Dc cL_law 514 (.iload_n 3) 1 515 := ⟨by decide +kernel, rfl⟩
theorem eL_law_515 : Dc cL_law 515 (.iconst 2) 1 516 := ⟨by decide +kernel, rfl⟩
theorem eL_law_516 : Dc cL_law 516 (.iadd) 1 517 := ⟨by decide +kernel, rfl⟩
theorem eL_law_517 : Dc cL_law 517 (.iaload) 1 518 := ⟨by decide +kernel, rfl⟩
theorem eL_law_518 : Dc cL_law 518 (.invokevirtual 69) 3 521 := ⟨by decide +kernel, rfl⟩
theorem eL_law_521 : Dc cL_law 521 (.aload_n 2) 1 522 := ⟨by decide +kernel, rfl⟩
theorem eL_law_522 : Dc cL_law 522 (.aload_n 0) 1 523 := ⟨by decide +kernel, rfl⟩
theorem eL_law_523 : Dc cL_law 523 (.iload_n 3) 1 524 := ⟨by decide +kernel, rfl⟩
theorem eL_law_524 : Dc cL_law 524 (.iconst 1) 1 525 := ⟨by decide +kernel, rfl⟩
theorem eL_law_525 : Dc cL_law 525 (.iadd) 1 526 := ⟨by decide +kernel, rfl⟩
theorem eL_law_526 : Dc cL_law 526 (.iaload) 1 527 := ⟨by decide +kernel, rfl⟩
theorem eL_law_527 : Dc cL_law 527 (.aload_n 0) 1 528 := ⟨by decide +kernel, rfl⟩
theorem eL_law_528 : Dc cL_law 528 (.iload_n 3) 1 529 := ⟨by decide +kernel, rfl⟩
theorem eL_law_529 : Dc cL_law 529 (.iconst 2) 1 530 := ⟨by decide +kernel, rfl⟩
theorem eL_law_530 : Dc cL_law 530 (.iadd) 1 531 := ⟨by decide +kernel, rfl⟩
theorem eL_law_531 : Dc cL_law 531 (.iaload) 1 532 := ⟨by decide +kernel, rfl⟩
theorem eL_law_532 : Dc cL_law 532 (.invokevirtual 72) 3 535 := ⟨by decide +kernel, rfl⟩
theorem eL_law_535 : Dc cL_law 535 (.if_icmp .eq 193) 3 538 := ⟨by decide +kernel, rfl⟩
theorem eL_law_538 : Dc cL_law 538 (.iconst 0) 1 539 := ⟨by decide +kernel, rfl⟩
theorem eL_law_539 : Dc cL_law 539 (.ireturn) 1 540 := ⟨by decide +kernel, rfl⟩
theorem eL_law_540 : Dc cL_law 540 (.aload_n 1) 1 541 := ⟨by decide +kernel, rfl⟩
theorem eL_law_541 : Dc cL_law 541 (.aload_n 0) 1 542 := ⟨by decide +kernel, rfl⟩
theorem eL_law_542 : Dc cL_law 542 (.iload_n 3) 1 543 := ⟨by decide +kernel, rfl⟩
theorem eL_law_543 : Dc cL_law 543 (.iconst 1) 1 544 := ⟨by decide +kernel, rfl⟩
theorem eL_law_544 : Dc cL_law 544 (.iadd) 1 545 := ⟨by decide +kernel, rfl⟩
theorem eL_law_545 : Dc cL_law 545 (.iaload) 1 546 := ⟨by decide +kernel, rfl⟩
theorem eL_law_546 : Dc cL_law 546 (.aload_n 0) 1 547 := ⟨by decide +kernel, rfl⟩
theorem eL_law_547 : Dc cL_law 547 (.iload_n 3) 1 548 := ⟨by decide +kernel, rfl⟩
theorem eL_law_548 : Dc cL_law 548 (.iconst 2) 1 549 := ⟨by decide +kernel, rfl⟩
theorem eL_law_549 : Dc cL_law 549 (.iadd) 1 550 := ⟨by decide +kernel, rfl⟩
theorem eL_law_550 : Dc cL_law 550 (.iaload) 1 551 := ⟨by decide +kernel, rfl⟩
theorem eL_law_551 : Dc cL_law 551 (.aload_n 0) 1 552 := ⟨by decide +kernel, rfl⟩
theorem eL_law_552 : Dc cL_law 552 (.iload_n 3) 1 553 := ⟨by decide +kernel, rfl⟩
theorem eL_law_553 : Dc cL_law 553 (.iconst 3) 1 554 := ⟨by decide +kernel, rfl⟩
theorem eL_law_554 : Dc cL_law 554 (.iadd) 1 555 := ⟨by decide +kernel, rfl⟩
theorem eL_law_555 : Dc cL_law 555 (.iaload) 1 556 := ⟨by decide +kernel, rfl⟩
theorem eL_law_556 : Dc cL_law 556 (.invokevirtual 73) 3 559 := ⟨by decide +kernel, rfl⟩
theorem eL_law_559 : Dc cL_law 559 (.aload_n 2) 1 560 := ⟨by decide +kernel, rfl⟩
theorem eL_law_560 : Dc cL_law 560 (.aload_n 0) 1 561 := ⟨by decide +kernel, rfl⟩
theorem eL_law_561 : Dc cL_law 561 (.iload_n 3) 1 562 := ⟨by decide +kernel, rfl⟩
theorem eL_law_562 : Dc cL_law 562 (.iconst 1) 1 563 := ⟨by decide +kernel, rfl⟩
theorem eL_law_563 : Dc cL_law 563 (.iadd) 1 564 := ⟨by decide +kernel, rfl⟩
theorem eL_law_564 : Dc cL_law 564 (.iaload) 1 565 := ⟨by decide +kernel, rfl⟩
theorem eL_law_565 : Dc cL_law 565 (.aload_n 0) 1 566 := ⟨by decide +kernel, rfl⟩
theorem eL_law_566 : Dc cL_law 566 (.iload_n 3) 1 567 := ⟨by decide +kernel, rfl⟩
theorem eL_law_567 : Dc cL_law 567 (.iconst 2) 1 568 := ⟨by decide +kernel, rfl⟩
theorem eL_law_568 : Dc cL_law 568 (.iadd) 1 569 := ⟨by decide +kernel, rfl⟩
theorem eL_law_569 : Dc cL_law 569 (.iaload) 1 570 := ⟨by decide +kernel, rfl⟩
theorem eL_law_570 : Dc cL_law 570 (.aload_n 0) 1 571 := ⟨by decide +kernel, rfl⟩
theorem eL_law_571 : Dc cL_law 571 (.iload_n 3) 1 572 := ⟨by decide +kernel, rfl⟩
theorem eL_law_572 : Dc cL_law 572 (.iconst 3) 1 573 := ⟨by decide +kernel, rfl⟩
theorem eL_law_573 : Dc cL_law 573 (.iadd) 1 574 := ⟨by decide +kernel, rfl⟩
theorem eL_law_574 : Dc cL_law 574 (.iaload) 1 575 := ⟨by decide +kernel, rfl⟩
theorem eL_law_575 : Dc cL_law 575 (.invokevirtual 76) 3 578 := ⟨by decide +kernel, rfl⟩
theorem eL_law_578 : Dc cL_law 578 (.if_icmp .eq 150) 3 581 := ⟨by decide +kernel, rfl⟩
theorem eL_law_581 : Dc cL_law 581 (.iconst 0) 1 582 := ⟨by decide +kernel, rfl⟩
theorem eL_law_582 : Dc cL_law 582 (.ireturn) 1 583 := ⟨by decide +kernel, rfl⟩
theorem eL_law_583 : Dc cL_law 583 (.aload_n 1) 1 584 := ⟨by decide +kernel, rfl⟩
theorem eL_law_584 : Dc cL_law 584 (.aload_n 0) 1 585 := ⟨by decide +kernel, rfl⟩
theorem eL_law_585 : Dc cL_law 585 (.iload_n 3) 1 586 := ⟨by decide +kernel, rfl⟩
theorem eL_law_586 : Dc cL_law 586 (.iconst 1) 1 587 := ⟨by decide +kernel, rfl⟩
theorem eL_law_587 : Dc cL_law 587 (.iadd) 1 588 := ⟨by decide +kernel, rfl⟩
theorem eL_law_588 : Dc cL_law 588 (.iaload) 1 589 := ⟨by decide +kernel, rfl⟩
theorem eL_law_589 : Dc cL_law 589 (.aload_n 0) 1 590 := ⟨by decide +kernel, rfl⟩
theorem eL_law_590 : Dc cL_law 590 (.iload_n 3) 1 591 := ⟨by decide +kernel, rfl⟩
theorem eL_law_591 : Dc cL_law 591 (.iconst 2) 1 592 := ⟨by decide +kernel, rfl⟩
theorem eL_law_592 : Dc cL_law 592 (.iadd) 1 593 := ⟨by decide +kernel, rfl⟩
theorem eL_law_593 : Dc cL_law 593 (.iaload) 1 594 := ⟨by decide +kernel, rfl⟩
theorem eL_law_594 : Dc cL_law 594 (.aload_n 0) 1 595 := ⟨by decide +kernel, rfl⟩
theorem eL_law_595 : Dc cL_law 595 (.iload_n 3) 1 596 := ⟨by decide +kernel, rfl⟩
theorem eL_law_596 : Dc cL_law 596 (.iconst 3) 1 597 := ⟨by decide +kernel, rfl⟩
theorem eL_law_597 : Dc cL_law 597 (.iadd) 1 598 := ⟨by decide +kernel, rfl⟩
theorem eL_law_598 : Dc cL_law 598 (.iaload) 1 599 := ⟨by decide +kernel, rfl⟩
theorem eL_law_599 : Dc cL_law 599 (.invokevirtual 77) 3 602 := ⟨by decide +kernel, rfl⟩
theorem eL_law_602 : Dc cL_law 602 (.aload_n 2) 1 603 := ⟨by decide +kernel, rfl⟩
theorem eL_law_603 : Dc cL_law 603 (.aload_n 0) 1 604 := ⟨by decide +kernel, rfl⟩
theorem eL_law_604 : Dc cL_law 604 (.iload_n 3) 1 605 := ⟨by decide +kernel, rfl⟩
theorem eL_law_605 : Dc cL_law 605 (.iconst 1) 1 606 := ⟨by decide +kernel, rfl⟩
theorem eL_law_606 : Dc cL_law 606 (.iadd) 1 607 := ⟨by decide +kernel, rfl⟩
theorem eL_law_607 : Dc cL_law 607 (.iaload) 1 608 := ⟨by decide +kernel, rfl⟩
theorem eL_law_608 : Dc cL_law 608 (.aload_n 0) 1 609 := ⟨by decide +kernel, rfl⟩
theorem eL_law_609 : Dc cL_law 609 (.iload_n 3) 1 610 := ⟨by decide +kernel, rfl⟩
theorem eL_law_610 : Dc cL_law 610 (.iconst 2) 1 611 := ⟨by decide +kernel, rfl⟩
theorem eL_law_611 : Dc cL_law 611 (.iadd) 1 612 := ⟨by decide +kernel, rfl⟩
theorem eL_law_612 : Dc cL_law 612 (.iaload) 1 613 := ⟨by decide +kernel, rfl⟩
theorem eL_law_613 : Dc cL_law 613 (.aload_n 0) 1 614 := ⟨by decide +kernel, rfl⟩
theorem eL_law_614 : Dc cL_law 614 (.iload_n 3) 1 615 := ⟨by decide +kernel, rfl⟩
theorem eL_law_615 : Dc cL_law 615 (.iconst 3) 1 616 := ⟨by decide +kernel, rfl⟩
theorem eL_law_616 : Dc cL_law 616 (.iadd) 1 617 := ⟨by decide +kernel, rfl⟩
theorem eL_law_617 : Dc cL_law 617 (.iaload) 1 618 := ⟨by decide +kernel, rfl⟩
theorem eL_law_618 : Dc cL_law 618 (.invokevirtual 80) 3 621 := ⟨by decide +kernel, rfl⟩
theorem eL_law_621 : Dc cL_law 621 (.if_icmp .eq 107) 3 624 := ⟨by decide +kernel, rfl⟩
theorem eL_law_624 : Dc cL_law 624 (.iconst 0) 1 625 := ⟨by decide +kernel, rfl⟩
theorem eL_law_625 : Dc cL_law 625 (.ireturn) 1 626 := ⟨by decide +kernel, rfl⟩
theorem eL_law_626 : Dc cL_law 626 (.aload_n 1) 1 627 := ⟨by decide +kernel, rfl⟩
theorem eL_law_627 : Dc cL_law 627 (.aload_n 0) 1 628 := ⟨by decide +kernel, rfl⟩
theorem eL_law_628 : Dc cL_law 628 (.iload_n 3) 1 629 := ⟨by decide +kernel, rfl⟩
theorem eL_law_629 : Dc cL_law 629 (.iconst 1) 1 630 := ⟨by decide +kernel, rfl⟩
theorem eL_law_630 : Dc cL_law 630 (.iadd) 1 631 := ⟨by decide +kernel, rfl⟩
theorem eL_law_631 : Dc cL_law 631 (.iaload) 1 632 := ⟨by decide +kernel, rfl⟩
theorem eL_law_632 : Dc cL_law 632 (.aload_n 0) 1 633 := ⟨by decide +kernel, rfl⟩
theorem eL_law_633 : Dc cL_law 633 (.iload_n 3) 1 634 := ⟨by decide +kernel, rfl⟩
theorem eL_law_634 : Dc cL_law 634 (.iconst 2) 1 635 := ⟨by decide +kernel, rfl⟩
theorem eL_law_635 : Dc cL_law 635 (.iadd) 1 636 := ⟨by decide +kernel, rfl⟩
theorem eL_law_636 : Dc cL_law 636 (.iaload) 1 637 := ⟨by decide +kernel, rfl⟩
theorem eL_law_637 : Dc cL_law 637 (.invokevirtual 81) 3 640 := ⟨by decide +kernel, rfl⟩
theorem eL_law_640 : Dc cL_law 640 (.aload_n 2) 1 641 := ⟨by decide +kernel, rfl⟩
theorem eL_law_641 : Dc cL_law 641 (.aload_n 0) 1 642 := ⟨by decide +kernel, rfl⟩
theorem eL_law_642 : Dc cL_law 642 (.iload_n 3) 1 643 := ⟨by decide +kernel, rfl⟩
theorem eL_law_643 : Dc cL_law 643 (.iconst 1) 1 644 := ⟨by decide +kernel, rfl⟩
theorem eL_law_644 : Dc cL_law 644 (.iadd) 1 645 := ⟨by decide +kernel, rfl⟩
theorem eL_law_645 : Dc cL_law 645 (.iaload) 1 646 := ⟨by decide +kernel, rfl⟩
theorem eL_law_646 : Dc cL_law 646 (.aload_n 0) 1 647 := ⟨by decide +kernel, rfl⟩
theorem eL_law_647 : Dc cL_law 647 (.iload_n 3) 1 648 := ⟨by decide +kernel, rfl⟩
theorem eL_law_648 : Dc cL_law 648 (.iconst 2) 1 649 := ⟨by decide +kernel, rfl⟩
theorem eL_law_649 : Dc cL_law 649 (.iadd) 1 650 := ⟨by decide +kernel, rfl⟩
theorem eL_law_650 : Dc cL_law 650 (.iaload) 1 651 := ⟨by decide +kernel, rfl⟩
theorem eL_law_651 : Dc cL_law 651 (.invokevirtual 84) 3 654 := ⟨by decide +kernel, rfl⟩
theorem eL_law_654 : Dc cL_law 654 (.if_icmp .eq 74) 3 657 := ⟨by decide +kernel, rfl⟩
theorem eL_law_657 : Dc cL_law 657 (.iconst 0) 1 658 := ⟨by decide +kernel, rfl⟩
theorem eL_law_658 : Dc cL_law 658 (.ireturn) 1 659 := ⟨by decide +kernel, rfl⟩
theorem eL_law_659 : Dc cL_law 659 (.aload_n 1) 1 660 := ⟨by decide +kernel, rfl⟩
theorem eL_law_660 : Dc cL_law 660 (.aload_n 0) 1 661 := ⟨by decide +kernel, rfl⟩
theorem eL_law_661 : Dc cL_law 661 (.iload_n 3) 1 662 := ⟨by decide +kernel, rfl⟩
theorem eL_law_662 : Dc cL_law 662 (.iconst 1) 1 663 := ⟨by decide +kernel, rfl⟩
theorem eL_law_663 : Dc cL_law 663 (.iadd) 1 664 := ⟨by decide +kernel, rfl⟩
theorem eL_law_664 : Dc cL_law 664 (.iaload) 1 665 := ⟨by decide +kernel, rfl⟩
theorem eL_law_665 : Dc cL_law 665 (.invokevirtual 85) 3 668 := ⟨by decide +kernel, rfl⟩
theorem eL_law_668 : Dc cL_law 668 (.aload_n 2) 1 669 := ⟨by decide +kernel, rfl⟩
theorem eL_law_669 : Dc cL_law 669 (.aload_n 0) 1 670 := ⟨by decide +kernel, rfl⟩
theorem eL_law_670 : Dc cL_law 670 (.iload_n 3) 1 671 := ⟨by decide +kernel, rfl⟩
theorem eL_law_671 : Dc cL_law 671 (.iconst 1) 1 672 := ⟨by decide +kernel, rfl⟩
theorem eL_law_672 : Dc cL_law 672 (.iadd) 1 673 := ⟨by decide +kernel, rfl⟩
theorem eL_law_673 : Dc cL_law 673 (.iaload) 1 674 := ⟨by decide +kernel, rfl⟩
theorem eL_law_674 : Dc cL_law 674 (.invokevirtual 88) 3 677 := ⟨by decide +kernel, rfl⟩
theorem eL_law_677 : Dc cL_law 677 (.if_icmp .eq 51) 3 680 := ⟨by decide +kernel, rfl⟩
theorem eL_law_680 : Dc cL_law 680 (.iconst 0) 1 681 := ⟨by decide +kernel, rfl⟩
theorem eL_law_681 : Dc cL_law 681 (.ireturn) 1 682 := ⟨by decide +kernel, rfl⟩
theorem eL_law_682 : Dc cL_law 682 (.aload_n 1) 1 683 := ⟨by decide +kernel, rfl⟩
theorem eL_law_683 : Dc cL_law 683 (.aload_n 0) 1 684 := ⟨by decide +kernel, rfl⟩
theorem eL_law_684 : Dc cL_law 684 (.iload_n 3) 1 685 := ⟨by decide +kernel, rfl⟩
theorem eL_law_685 : Dc cL_law 685 (.iconst 1) 1 686 := ⟨by decide +kernel, rfl⟩
theorem eL_law_686 : Dc cL_law 686 (.iadd) 1 687 := ⟨by decide +kernel, rfl⟩
theorem eL_law_687 : Dc cL_law 687 (.iaload) 1 688 := ⟨by decide +kernel, rfl⟩
theorem eL_law_688 : Dc cL_law 688 (.invokevirtual 89) 3 691 := ⟨by decide +kernel, rfl⟩
theorem eL_law_691 : Dc cL_law 691 (.aload_n 2) 1 692 := ⟨by decide +kernel, rfl⟩
theorem eL_law_692 : Dc cL_law 692 (.aload_n 0) 1 693 := ⟨by decide +kernel, rfl⟩
theorem eL_law_693 : Dc cL_law 693 (.iload_n 3) 1 694 := ⟨by decide +kernel, rfl⟩
theorem eL_law_694 : Dc cL_law 694 (.iconst 1) 1 695 := ⟨by decide +kernel, rfl⟩
theorem eL_law_695 : Dc cL_law 695 (.iadd) 1 696 := ⟨by decide +kernel, rfl⟩
theorem eL_law_696 : Dc cL_law 696 (.iaload) 1 697 := ⟨by decide +kernel, rfl⟩
theorem eL_law_697 : Dc cL_law 697 (.invokevirtual 92) 3 700 := ⟨by decide +kernel, rfl⟩
theorem eL_law_700 : Dc cL_law 700 (.if_icmp .eq 28) 3 703 := ⟨by decide +kernel, rfl⟩
theorem eL_law_703 : Dc cL_law 703 (.iconst 0) 1 704 := ⟨by decide +kernel, rfl⟩
theorem eL_law_704 : Dc cL_law 704 (.ireturn) 1 705 := ⟨by decide +kernel, rfl⟩
theorem eL_law_705 : Dc cL_law 705 (.aload_n 1) 1 706 := ⟨by decide +kernel, rfl⟩
theorem eL_law_706 : Dc cL_law 706 (.aload_n 0) 1 707 := ⟨by decide +kernel, rfl⟩
theorem eL_law_707 : Dc cL_law 707 (.iload_n 3) 1 708 := ⟨by decide +kernel, rfl⟩
theorem eL_law_708 : Dc cL_law 708 (.iconst 1) 1 709 := ⟨by decide +kernel, rfl⟩
theorem eL_law_709 : Dc cL_law 709 (.iadd) 1 710 := ⟨by decide +kernel, rfl⟩
theorem eL_law_710 : Dc cL_law 710 (.iaload) 1 711 := ⟨by decide +kernel, rfl⟩
theorem eL_law_711 : Dc cL_law 711 (.invokevirtual 93) 3 714 := ⟨by decide +kernel, rfl⟩
theorem eL_law_714 : Dc cL_law 714 (.aload_n 2) 1 715 := ⟨by decide +kernel, rfl⟩
theorem eL_law_715 : Dc cL_law 715 (.aload_n 0) 1 716 := ⟨by decide +kernel, rfl⟩
theorem eL_law_716 : Dc cL_law 716 (.iload_n 3) 1 717 := ⟨by decide +kernel, rfl⟩
theorem eL_law_717 : Dc cL_law 717 (.iconst 1) 1 718 := ⟨by decide +kernel, rfl⟩
theorem eL_law_718 : Dc cL_law 718 (.iadd) 1 719 := ⟨by decide +kernel, rfl⟩
theorem eL_law_719 : Dc cL_law 719 (.iaload) 1 720 := ⟨by decide +kernel, rfl⟩
theorem eL_law_720 : Dc cL_law 720 (.invokevirtual 96) 3 723 := ⟨by decide +kernel, rfl⟩
theorem eL_law_723 : Dc cL_law 723 (.if_icmp .eq 5) 3 726 := ⟨by decide +kernel, rfl⟩
theorem eL_law_726 : Dc cL_law 726 (.iconst 0) 1 727 := ⟨by decide +kernel, rfl⟩
theorem eL_law_727 : Dc cL_law 727 (.ireturn) 1 728 := ⟨by decide +kernel, rfl⟩
theorem eL_law_728 : Dc cL_law 728 (.iinc 3 4) 3 731 := ⟨by decide +kernel, rfl⟩
theorem eL_law_731 : Dc cL_law 731 (.goto (-713)) 3 734 := ⟨by decide +kernel, rfl⟩
theorem eL_law_734 : Dc cL_law 734 (.iconst 1) 1 735 := ⟨by decide +kernel, rfl⟩
theorem eL_law_735 : Dc cL_law 735 (.ireturn) 1 736 := ⟨by decide +kernel, rfl⟩
end
section
/-! the judgement V: from every heap that holds the world w, and locals that hold L, the machine comes from pc with the stack st to its end -/
abbrev Gs : Type := va_G × ClassId × ClassId × ClassId
abbrev Wd : Type := Nat → va_E
def wl (b N : Nat) (w : Wd) : va_W := (List.range N).map (fun k => (b + k, w k))
abbrev Ab (b : Nat) : Nat → Prop := fun q => b ≤ q
theorem wl_get {b N k : Nat} {w : Wd} (h : k < N) : (wl b N w)[k]? = some (b + k, w k) := by simp [wl, h]
theorem wl_D {b N : Nat} {w : Wd} : va_D (Ab b) (wl b N w) := by
  refine ⟨fun i j p q hp hq e => ?_, fun k q hq => ?_⟩
  · simp only [wl, List.getElem?_map, Option.map_eq_some_iff] at hp hq
    obtain ⟨x, hx, rfl⟩ := hp
    obtain ⟨y, hy, rfl⟩ := hq
    have h1 := List.getElem?_eq_some_iff.mp hx
    have h2 := List.getElem?_eq_some_iff.mp hy
    obtain ⟨a1, b1⟩ := h1
    obtain ⟨a2, b2⟩ := h2
    simp at b1 b2 e
    omega
  · simp only [wl, List.getElem?_map, Option.map_eq_some_iff] at hq
    obtain ⟨x, hx, rfl⟩ := hq
    exact Nat.le_add_right b x
theorem wl_set {b N k : Nat} {w : Wd} {x : va_E} : (wl b N w).set k (b + k, x) = wl b N (va_up w k x) := by
  apply List.ext_getElem?
  intro i
  simp only [wl, List.getElem?_set, List.getElem?_map, List.length_map, List.length_range]
  by_cases h : k = i
  · subst h
    by_cases h2 : k < N
    · simp [h2, va_up]
    · simp [h2]
  · have h' : ¬ i = k := fun e => h e.symm
    by_cases h2 : i < N
    · simp [h, h', h2, va_up]
    · simp [h, h2]
theorem wl_push {b N : Nat} {w : Wd} {x : va_E} : wl b N w ++ [(b + N, x)] = wl b (N + 1) (va_up w N x) := by
  apply List.ext_getElem?
  intro i
  simp only [wl, List.range_succ, List.map_append, List.map_cons, List.map_nil]
  have h0 : (List.range N).map (fun k => (b + k, va_up w N x k)) = (List.range N).map (fun k => (b + k, w k)) := by
    apply List.map_congr_left
    intro a ha
    have := List.mem_range.mp ha
    rw [va_up_ne _ _ (by omega)]
  rw [h0, va_up_self]
def KK (G : Gs) (U : State) : Prop := va_K G.1 vwCl [(G.2.1, .int), (G.2.2.1, .boolean), (G.2.2.2, .object "SeamPictures$Picture")] U
def WP (G : Gs) (b N : Nat) (w : Wd) (H : Heap) : Prop := va_P G.1 vwCl (wl b N w) H
abbrev aI (G : Gs) (n : Nat) (f : Nat → Int32) : va_E := .inl (G.2.1, n, .inl f)
abbrev aZ (G : Gs) (n : Nat) (f : Nat → Int32) : va_E := .inl (G.2.2.1, n, .inl f)
abbrev aP (G : Gs) (n : Nat) (f : Nat → Option Nat) : va_E := .inl (G.2.2.2, n, .inr (.inr (.inr (.inr f))))
def LVp (ls : Array Slot) (L : List (Option Value)) : Prop := ls.size = L.length ∧ lv_wf ls ∧ ∀ (i : Nat) (v : Value), L[i]? = some (some v) → ls[i]? = some (.val v) ∧ v.category = 1
def prs (L : List (Option Value)) : List (Nat × Value) := (List.range L.length).filterMap (fun i => match L[i]? with
  | some (some v) => some (i, v)
  | _ => none)
theorem mem_prs {L : List (Option Value)} {i : Nat} {v : Value} : (i, v) ∈ prs L ↔ L[i]? = some (some v) := by
  simp only [prs, List.mem_filterMap, List.mem_range]
  constructor
  · rintro ⟨a, ha, h⟩
    split at h
    next x hx => cases h; exact hx
    next => cases h
  · intro h
    refine ⟨i, (List.getElem?_eq_some_iff.mp h).1, ?_⟩
    rw [h]
theorem LVp.has {ls : Array Slot} {L : List (Option Value)} (h : LVp ls L) : lv_has ls L.length (prs L) := ⟨h.1, h.2.1, fun q hq => (h.2.2 q.1 q.2 (mem_prs.mp hq)).1⟩
theorem LVp.set {ls : Array Slot} {L : List (Option Value)} {i : Nat} {v : Value} {ls2 : Array Slot} (h : LVp ls L) (hc : v.category = 1) (h2 : lv_has ls2 L.length ((i, v) :: (prs L).filter (fun q => !(q.1 == i) && !(q.1 + 1 == i && q.2.category == 2)))) : LVp ls2 (L.set i (some v)) := by
  refine ⟨by rw [List.length_set]; exact h2.1, h2.2.1, fun j u hj => ?_⟩
  rw [List.getElem?_set] at hj
  by_cases e : i = j
  · subst e
    by_cases hl : i < L.length
    · simp [hl] at hj
      subst hj
      exact ⟨h2.2.2 (i, v) List.mem_cons_self, hc⟩
    · simp [hl] at hj
  · rw [if_neg e] at hj
    have hcu := (h.2.2 j u hj).2
    refine ⟨h2.2.2 (j, u) (List.mem_cons_of_mem _ (List.mem_filter.mpr ⟨mem_prs.mpr hj, ?_⟩)), hcu⟩
    have e' : (j == i) = false := by simp; exact fun q => e q.symm
    simp [e', hcu]
/-- the fixed things of a walk -/
abbrev Kx : Type := (Program × Launch × Env × Room) × (State × MethodId × Array Value × List Frame) × (Method × Code × (State → Prop))
def V (κ : Kx) (G : Gs) (b : Nat) (ν : Nat × Nat × Nat) (w : Wd) (pc : Nat) (L : List (Option Value)) (st : List Value) : Prop :=
  ∀ (H : Heap) (locs : List Loc) (ls : Array Slot), WP G b ν.1 w H → va_S (Ab b) κ.2.1.1.heap H locs → LVp ls L →
    W κ.1.1 κ.1.2.1 κ.1.2.2.1 κ.1.2.2.2 κ.2.1.1 κ.2.1.2.1 κ.2.1.2.2.1 κ.2.1.2.2.2 κ.2.2.1 κ.2.2.2.1 H locs ν.2.1 ν.2.2 κ.2.2.2.2 (F0 κ.2.1.2.1 pc ls st)
def CX (κ : Kx) (G : Gs) (cc : ByteArray) (nL : Nat) (own : String) (cx : Cond) (h : Nat) : Prop :=
  κ.1.1.tables.exec = Jvm.exec ∧ κ.2.2.2.1.code = cc ∧ κ.2.2.2.1.maxLocals = nL ∧ κ.2.1.1.vm.findClass own = some κ.2.1.2.1.cls ∧ (∀ w ∈ cx :: wA, w.before κ.2.1.2.2.1 κ.2.1.1 = true) ∧ KK G κ.2.1.1 ∧ κ.1.2.2.2.frames = h ∧ κ.1.2.2.2.locals = 40 * h
section KIT
variable {κ : Kx} {G : Gs} {b : Nat} {cc : ByteArray} {nL : Nat} {own : String} {cx : Cond} {h : Nat} {ν : Nat × Nat × Nat} {w : Wd} {pc pc2 : Nat} {L L2 : List (Option Value)} {st : List Value}
theorem CX.word (X : CX κ G cc nL own cx h) {q : Cond} (hq : q ∈ wA) : q.before κ.2.1.2.2.1 κ.2.1.1 = true := X.2.2.2.2.1 q (List.mem_cons_of_mem _ hq)
theorem r_iconst (X : CX κ G cc nL own cx h) {n : Int} (d : Dc cc pc (.iconst n) 1 pc2) (v : Int32) (hv : Int32.ofInt n = v) (k : V κ G b ν w pc2 L (.int v :: st)) : V κ G b ν w pc L st := by
  obtain ⟨d, rfl⟩ := d
  exact fun H locs ls a1 a2 a3 => lv_iconst X.1 X.2.1 d hv (k H locs ls a1 a2 a3)
theorem r_bipush (X : CX κ G cc nL own cx h) {n : Int} (d : Dc cc pc (.bipush n) 2 pc2) (v : Int32) (hv : (Int8.ofInt n).toInt32 = v) (k : V κ G b ν w pc2 L (.int v :: st)) : V κ G b ν w pc L st := by
  obtain ⟨d, rfl⟩ := d
  exact fun H locs ls a1 a2 a3 => lv_bipush X.1 X.2.1 d hv (k H locs ls a1 a2 a3)
theorem r_sipush (X : CX κ G cc nL own cx h) {n : Int} (d : Dc cc pc (.sipush n) 3 pc2) (v : Int32) (hv : (Int16.ofInt n).toInt32 = v) (k : V κ G b ν w pc2 L (.int v :: st)) : V κ G b ν w pc L st := by
  obtain ⟨d, rfl⟩ := d
  exact fun H locs ls a1 a2 a3 => lv_sipush X.1 X.2.1 d hv (k H locs ls a1 a2 a3)
theorem r_iload_n (X : CX κ G cc nL own cx h) {j : Fin 4} {x : Int32} (d : Dc cc pc (.iload_n j) 1 pc2) (hl : L[(j : Nat)]? = some (some (.int x))) (k : V κ G b ν w pc2 L (.int x :: st)) : V κ G b ν w pc L st := by
  obtain ⟨d, rfl⟩ := d
  exact fun H locs ls a1 a2 a3 => lv_iload_n X.1 X.2.1 d rfl (a3.2.2 _ _ hl).1 (k H locs ls a1 a2 a3)
theorem r_iload (X : CX κ G cc nL own cx h) {j : Nat} {x : Int32} (d : Dc cc pc (.iload j) 2 pc2) (hl : L[j]? = some (some (.int x))) (k : V κ G b ν w pc2 L (.int x :: st)) : V κ G b ν w pc L st := by
  obtain ⟨d, rfl⟩ := d
  exact fun H locs ls a1 a2 a3 => lv_iload X.1 X.2.1 d (a3.2.2 _ _ hl).1 (k H locs ls a1 a2 a3)
theorem r_aload_n (X : CX κ G cc nL own cx h) {j : Fin 4} {x : Nat} (d : Dc cc pc (.aload_n j) 1 pc2) (hl : L[(j : Nat)]? = some (some (.ref x))) (k : V κ G b ν w pc2 L (.ref x :: st)) : V κ G b ν w pc L st := by
  obtain ⟨d, rfl⟩ := d
  exact fun H locs ls a1 a2 a3 => lv_aload_n X.1 X.2.1 d rfl (a3.2.2 _ _ hl).1 (k H locs ls a1 a2 a3)
theorem r_aload (X : CX κ G cc nL own cx h) {j : Nat} {x : Nat} (d : Dc cc pc (.aload j) 2 pc2) (hl : L[j]? = some (some (.ref x))) (k : V κ G b ν w pc2 L (.ref x :: st)) : V κ G b ν w pc L st := by
  obtain ⟨d, rfl⟩ := d
  exact fun H locs ls a1 a2 a3 => lv_aload X.1 X.2.1 d (a3.2.2 _ _ hl).1 (k H locs ls a1 a2 a3)
theorem r_istore_n (X : CX κ G cc nL own cx h) {j : Fin 4} {x : Int32} (d : Dc cc pc (.istore_n j) 1 pc2) (hj : (j : Nat) < L.length) (hl : L.set j (some (.int x)) = L2) (k : V κ G b ν w pc2 L2 st) : V κ G b ν w pc L (.int x :: st) := by
  obtain ⟨d, rfl⟩ := d
  subst hl
  exact fun H locs ls a1 a2 a3 => lv_istore_n X.1 X.2.1 d rfl a3.has hj rfl (fun ls2 h2 => k H locs ls2 a1 a2 (a3.set rfl h2))
theorem r_istore (X : CX κ G cc nL own cx h) {j : Nat} {x : Int32} (d : Dc cc pc (.istore j) 2 pc2) (hj : j < L.length) (hl : L.set j (some (.int x)) = L2) (k : V κ G b ν w pc2 L2 st) : V κ G b ν w pc L (.int x :: st) := by
  obtain ⟨d, rfl⟩ := d
  subst hl
  exact fun H locs ls a1 a2 a3 => lv_istore X.1 X.2.1 d a3.has hj rfl (fun ls2 h2 => k H locs ls2 a1 a2 (a3.set rfl h2))
theorem r_astore_n (X : CX κ G cc nL own cx h) {j : Fin 4} {x : Nat} (d : Dc cc pc (.astore_n j) 1 pc2) (hj : (j : Nat) < L.length) (hl : L.set j (some (.ref x)) = L2) (k : V κ G b ν w pc2 L2 st) : V κ G b ν w pc L (.ref x :: st) := by
  obtain ⟨d, rfl⟩ := d
  subst hl
  exact fun H locs ls a1 a2 a3 => lv_astore_n X.1 X.2.1 d rfl a3.has hj rfl (fun ls2 h2 => k H locs ls2 a1 a2 (a3.set rfl h2))
theorem r_astore (X : CX κ G cc nL own cx h) {j : Nat} {x : Nat} (d : Dc cc pc (.astore j) 2 pc2) (hj : j < L.length) (hl : L.set j (some (.ref x)) = L2) (k : V κ G b ν w pc2 L2 st) : V κ G b ν w pc L (.ref x :: st) := by
  obtain ⟨d, rfl⟩ := d
  subst hl
  exact fun H locs ls a1 a2 a3 => lv_astore X.1 X.2.1 d a3.has hj rfl (fun ls2 h2 => k H locs ls2 a1 a2 (a3.set rfl h2))
theorem LVp.at {ls : Array Slot} (a3 : LVp ls L) {i : Nat} {v : Value} (hl : L[i]? = some (some v)) : ∃ k : Nat, (prs L)[k]? = some (i, v) := List.mem_iff_getElem?.mp (mem_prs.mpr hl)
theorem r_iinc (X : CX κ G cc nL own cx h) {j : Nat} {n : Int} {x : Int32} (d : Dc cc pc (.iinc j n) 3 pc2) (hx : L[j]? = some (some (.int x))) (v : Int32) (hv : x + Int32.ofInt n = v) (hl : L.set j (some (.int v)) = L2) (k : V κ G b ν w pc2 L2 st) : V κ G b ν w pc L st := by
  obtain ⟨d, rfl⟩ := d
  subst hl
  intro H locs ls a1 a2 a3
  obtain ⟨q, hq⟩ := a3.at hx
  exact lv_iinc X.1 X.2.1 d a3.has hq hv (List.getElem?_eq_some_iff.mp hx).1 rfl (fun ls2 h2 => k H locs ls2 a1 a2 (a3.set rfl h2))
theorem r_top {x y : Int32} (e : x = y) (k : V κ G b ν w pc L (.int y :: st)) : V κ G b ν w pc L (.int x :: st) := by rw [e]; exact k
theorem r_dup (X : CX κ G cc nL own cx h) {v : Value} (d : Dc cc pc .dup 1 pc2) (hv : v.category = 1) (k : V κ G b ν w pc2 L (v :: v :: st)) : V κ G b ν w pc L (v :: st) := by
  obtain ⟨d, rfl⟩ := d
  exact fun H locs ls a1 a2 a3 => lv_dup X.1 X.2.1 d hv (k H locs ls a1 a2 a3)
theorem r_pop (X : CX κ G cc nL own cx h) {v : Value} (d : Dc cc pc .pop 1 pc2) (hv : v.category = 1) (k : V κ G b ν w pc2 L st) : V κ G b ν w pc L (v :: st) := by
  obtain ⟨d, rfl⟩ := d
  exact fun H locs ls a1 a2 a3 => lv_pop X.1 X.2.1 d hv (k H locs ls a1 a2 a3)
theorem r_dup2 (X : CX κ G cc nL own cx h) {v u : Value} (d : Dc cc pc .dup2 1 pc2) (hv : v.category = 1) (hu : u.category = 1) (k : V κ G b ν w pc2 L (v :: u :: v :: u :: st)) : V κ G b ν w pc L (v :: u :: st) := by
  obtain ⟨d, rfl⟩ := d
  exact fun H locs ls a1 a2 a3 => lv_dup2_11 X.1 X.2.1 d hv hu (k H locs ls a1 a2 a3)
theorem r_goto (X : CX κ G cc nL own cx h) {off : Int} {tgt : Nat} (d : Dc cc pc (.goto off) 3 pc2) (ht : (pc : Int) + off = (tgt : Int)) (k : V κ G b ν w tgt L st) : V κ G b ν w pc L st := by
  obtain ⟨d, rfl⟩ := d
  exact fun H locs ls a1 a2 a3 => lv_goto X.1 X.2.1 d ht (k H locs ls a1 a2 a3)
end KIT
section KIT2
variable {κ : Kx} {G : Gs} {b : Nat} {cc : ByteArray} {nL : Nat} {own : String} {cx : Cond} {h : Nat} {ν : Nat × Nat × Nat} {w : Wd} {pc pc2 : Nat} {L L2 : List (Option Value)} {st : List Value}
theorem r_iadd (X : CX κ G cc nL own cx h) {x y : Int32} (d : Dc cc pc .iadd 1 pc2) (z : Int32) (e : x + y = z) (k : V κ G b ν w pc2 L (.int z :: st)) : V κ G b ν w pc L (.int y :: .int x :: st) := by
  obtain ⟨d, rfl⟩ := d
  subst e
  exact fun H locs ls a1 a2 a3 => lv_iadd X.1 X.2.1 d (k H locs ls a1 a2 a3)
theorem r_isub (X : CX κ G cc nL own cx h) {x y : Int32} (d : Dc cc pc .isub 1 pc2) (z : Int32) (e : x - y = z) (k : V κ G b ν w pc2 L (.int z :: st)) : V κ G b ν w pc L (.int y :: .int x :: st) := by
  obtain ⟨d, rfl⟩ := d
  subst e
  exact fun H locs ls a1 a2 a3 => lv_isub X.1 X.2.1 d (k H locs ls a1 a2 a3)
theorem r_imul (X : CX κ G cc nL own cx h) {x y : Int32} (d : Dc cc pc .imul 1 pc2) (z : Int32) (e : x * y = z) (k : V κ G b ν w pc2 L (.int z :: st)) : V κ G b ν w pc L (.int y :: .int x :: st) := by
  obtain ⟨d, rfl⟩ := d
  subst e
  exact fun H locs ls a1 a2 a3 => lv_imul X.1 X.2.1 d (k H locs ls a1 a2 a3)
theorem r_iand (X : CX κ G cc nL own cx h) {x y : Int32} (d : Dc cc pc .iand 1 pc2) (z : Int32) (e : x &&& y = z) (k : V κ G b ν w pc2 L (.int z :: st)) : V κ G b ν w pc L (.int y :: .int x :: st) := by
  obtain ⟨d, rfl⟩ := d
  subst e
  exact fun H locs ls a1 a2 a3 => lv_iand X.1 X.2.1 d (k H locs ls a1 a2 a3)
theorem r_ior (X : CX κ G cc nL own cx h) {x y : Int32} (d : Dc cc pc .ior 1 pc2) (z : Int32) (e : x ||| y = z) (k : V κ G b ν w pc2 L (.int z :: st)) : V κ G b ν w pc L (.int y :: .int x :: st) := by
  obtain ⟨d, rfl⟩ := d
  subst e
  exact fun H locs ls a1 a2 a3 => lv_ior X.1 X.2.1 d (k H locs ls a1 a2 a3)
theorem r_ishl (X : CX κ G cc nL own cx h) {x y : Int32} (d : Dc cc pc .ishl 1 pc2) (z : Int32) (e : x <<< (y &&& 31) = z) (k : V κ G b ν w pc2 L (.int z :: st)) : V κ G b ν w pc L (.int y :: .int x :: st) := by
  obtain ⟨d, rfl⟩ := d
  subst e
  exact fun H locs ls a1 a2 a3 => lv_ishl X.1 X.2.1 d (k H locs ls a1 a2 a3)
theorem r_ishr (X : CX κ G cc nL own cx h) {x y : Int32} (d : Dc cc pc .ishr 1 pc2) (z : Int32) (e : x >>> (y &&& 31) = z) (k : V κ G b ν w pc2 L (.int z :: st)) : V κ G b ν w pc L (.int y :: .int x :: st) := by
  obtain ⟨d, rfl⟩ := d
  subst e
  exact fun H locs ls a1 a2 a3 => lv_ishr X.1 X.2.1 d (k H locs ls a1 a2 a3)
theorem r_idiv (X : CX κ G cc nL own cx h) {x y : Int32} (d : Dc cc pc .idiv 1 pc2) (hne : ¬ y = 0) (z : Int32) (e : x / y = z) (k : V κ G b ν w pc2 L (.int z :: st)) : V κ G b ν w pc L (.int y :: .int x :: st) := by
  obtain ⟨d, rfl⟩ := d
  subst e
  exact fun H locs ls a1 a2 a3 => lv_idiv X.1 X.2.1 d hne (k H locs ls a1 a2 a3)
theorem r_irem (X : CX κ G cc nL own cx h) {x y : Int32} (d : Dc cc pc .irem 1 pc2) (hne : ¬ y = 0) (z : Int32) (e : x - x / y * y = z) (k : V κ G b ν w pc2 L (.int z :: st)) : V κ G b ν w pc L (.int y :: .int x :: st) := by
  obtain ⟨d, rfl⟩ := d
  subst e
  exact fun H locs ls a1 a2 a3 => lv_irem X.1 X.2.1 d hne (k H locs ls a1 a2 a3)
theorem r_ineg (X : CX κ G cc nL own cx h) {x : Int32} (d : Dc cc pc .ineg 1 pc2) (z : Int32) (e : -x = z) (k : V κ G b ν w pc2 L (.int z :: st)) : V κ G b ν w pc L (.int x :: st) := by
  obtain ⟨d, rfl⟩ := d
  subst e
  exact fun H locs ls a1 a2 a3 => lv_ineg X.1 X.2.1 d (k H locs ls a1 a2 a3)
theorem r_icmp_eq (X : CX κ G cc nL own cx h) {x y : Int32} {off : Int} {tgt : Nat} (d : Dc cc pc (.if_icmp .eq off) 3 pc2) (ht : (pc : Int) + off = (tgt : Int)) {X1 Y1 : Int} (hx : x.toInt = X1) (hy : y.toInt = Y1) (k1 : X1 = Y1 → V κ G b ν w tgt L st) (k2 : X1 ≠ Y1 → V κ G b ν w pc2 L st) : V κ G b ν w pc L (.int y :: .int x :: st) := by
  obtain ⟨d, rfl⟩ := d
  subst hx; subst hy
  exact fun H locs ls a1 a2 a3 => lv_icmp_eq X.1 X.2.1 d ht (fun c => k1 (congrArg Int32.toInt c) H locs ls a1 a2 a3) (fun c => k2 (fun q => c (Int32.toInt_inj.mp q)) H locs ls a1 a2 a3)
theorem r_if_eq (X : CX κ G cc nL own cx h) {x : Int32} {off : Int} {tgt : Nat} (d : Dc cc pc (.ifCond .eq off) 3 pc2) (ht : (pc : Int) + off = (tgt : Int)) {X1 : Int} (hx : x.toInt = X1) (k1 : X1 = 0 → V κ G b ν w tgt L st) (k2 : X1 ≠ 0 → V κ G b ν w pc2 L st) : V κ G b ν w pc L (.int x :: st) := by
  obtain ⟨d, rfl⟩ := d
  subst hx
  exact fun H locs ls a1 a2 a3 => lv_if_eq X.1 X.2.1 d ht (fun c => k1 (congrArg Int32.toInt c) H locs ls a1 a2 a3) (fun c => k2 (fun q => c (Int32.toInt_inj.mp q)) H locs ls a1 a2 a3)
theorem r_icmp_ne (X : CX κ G cc nL own cx h) {x y : Int32} {off : Int} {tgt : Nat} (d : Dc cc pc (.if_icmp .ne off) 3 pc2) (ht : (pc : Int) + off = (tgt : Int)) {X1 Y1 : Int} (hx : x.toInt = X1) (hy : y.toInt = Y1) (k1 : X1 ≠ Y1 → V κ G b ν w tgt L st) (k2 : X1 = Y1 → V κ G b ν w pc2 L st) : V κ G b ν w pc L (.int y :: .int x :: st) := by
  obtain ⟨d, rfl⟩ := d
  subst hx; subst hy
  exact fun H locs ls a1 a2 a3 => lv_icmp_ne X.1 X.2.1 d ht (fun c => k1 (fun q => c (Int32.toInt_inj.mp q)) H locs ls a1 a2 a3) (fun c => k2 (congrArg Int32.toInt c) H locs ls a1 a2 a3)
theorem r_if_ne (X : CX κ G cc nL own cx h) {x : Int32} {off : Int} {tgt : Nat} (d : Dc cc pc (.ifCond .ne off) 3 pc2) (ht : (pc : Int) + off = (tgt : Int)) {X1 : Int} (hx : x.toInt = X1) (k1 : X1 ≠ 0 → V κ G b ν w tgt L st) (k2 : X1 = 0 → V κ G b ν w pc2 L st) : V κ G b ν w pc L (.int x :: st) := by
  obtain ⟨d, rfl⟩ := d
  subst hx
  exact fun H locs ls a1 a2 a3 => lv_if_ne X.1 X.2.1 d ht (fun c => k1 (fun q => c (Int32.toInt_inj.mp q)) H locs ls a1 a2 a3) (fun c => k2 (congrArg Int32.toInt c) H locs ls a1 a2 a3)
theorem r_icmp_lt (X : CX κ G cc nL own cx h) {x y : Int32} {off : Int} {tgt : Nat} (d : Dc cc pc (.if_icmp .lt off) 3 pc2) (ht : (pc : Int) + off = (tgt : Int)) {X1 Y1 : Int} (hx : x.toInt = X1) (hy : y.toInt = Y1) (k1 : X1 < Y1 → V κ G b ν w tgt L st) (k2 : Y1 ≤ X1 → V κ G b ν w pc2 L st) : V κ G b ν w pc L (.int y :: .int x :: st) := by
  obtain ⟨d, rfl⟩ := d
  subst hx; subst hy
  exact fun H locs ls a1 a2 a3 => lv_icmp_lt X.1 X.2.1 d ht (fun c => k1 (Int32.lt_iff_toInt_lt.mp c) H locs ls a1 a2 a3) (fun c => k2 (Int.not_lt.mp (fun q => c (Int32.lt_iff_toInt_lt.mpr q))) H locs ls a1 a2 a3)
theorem r_if_lt (X : CX κ G cc nL own cx h) {x : Int32} {off : Int} {tgt : Nat} (d : Dc cc pc (.ifCond .lt off) 3 pc2) (ht : (pc : Int) + off = (tgt : Int)) {X1 : Int} (hx : x.toInt = X1) (k1 : X1 < 0 → V κ G b ν w tgt L st) (k2 : 0 ≤ X1 → V κ G b ν w pc2 L st) : V κ G b ν w pc L (.int x :: st) := by
  obtain ⟨d, rfl⟩ := d
  subst hx
  exact fun H locs ls a1 a2 a3 => lv_if_lt X.1 X.2.1 d ht (fun c => k1 (Int32.lt_iff_toInt_lt.mp c) H locs ls a1 a2 a3) (fun c => k2 (Int.not_lt.mp (fun q => c (Int32.lt_iff_toInt_lt.mpr q))) H locs ls a1 a2 a3)
theorem r_icmp_ge (X : CX κ G cc nL own cx h) {x y : Int32} {off : Int} {tgt : Nat} (d : Dc cc pc (.if_icmp .ge off) 3 pc2) (ht : (pc : Int) + off = (tgt : Int)) {X1 Y1 : Int} (hx : x.toInt = X1) (hy : y.toInt = Y1) (k1 : Y1 ≤ X1 → V κ G b ν w tgt L st) (k2 : X1 < Y1 → V κ G b ν w pc2 L st) : V κ G b ν w pc L (.int y :: .int x :: st) := by
  obtain ⟨d, rfl⟩ := d
  subst hx; subst hy
  exact fun H locs ls a1 a2 a3 => lv_icmp_ge X.1 X.2.1 d ht (fun c => k1 (Int32.le_iff_toInt_le.mp c) H locs ls a1 a2 a3) (fun c => k2 (Int.not_le.mp (fun q => c (Int32.le_iff_toInt_le.mpr q))) H locs ls a1 a2 a3)
theorem r_if_ge (X : CX κ G cc nL own cx h) {x : Int32} {off : Int} {tgt : Nat} (d : Dc cc pc (.ifCond .ge off) 3 pc2) (ht : (pc : Int) + off = (tgt : Int)) {X1 : Int} (hx : x.toInt = X1) (k1 : 0 ≤ X1 → V κ G b ν w tgt L st) (k2 : X1 < 0 → V κ G b ν w pc2 L st) : V κ G b ν w pc L (.int x :: st) := by
  obtain ⟨d, rfl⟩ := d
  subst hx
  exact fun H locs ls a1 a2 a3 => lv_if_ge X.1 X.2.1 d ht (fun c => k1 (Int32.le_iff_toInt_le.mp c) H locs ls a1 a2 a3) (fun c => k2 (Int.not_le.mp (fun q => c (Int32.le_iff_toInt_le.mpr q))) H locs ls a1 a2 a3)
theorem r_icmp_gt (X : CX κ G cc nL own cx h) {x y : Int32} {off : Int} {tgt : Nat} (d : Dc cc pc (.if_icmp .gt off) 3 pc2) (ht : (pc : Int) + off = (tgt : Int)) {X1 Y1 : Int} (hx : x.toInt = X1) (hy : y.toInt = Y1) (k1 : Y1 < X1 → V κ G b ν w tgt L st) (k2 : X1 ≤ Y1 → V κ G b ν w pc2 L st) : V κ G b ν w pc L (.int y :: .int x :: st) := by
  obtain ⟨d, rfl⟩ := d
  subst hx; subst hy
  exact fun H locs ls a1 a2 a3 => lv_icmp_gt X.1 X.2.1 d ht (fun c => k1 (Int32.lt_iff_toInt_lt.mp c) H locs ls a1 a2 a3) (fun c => k2 (Int.not_lt.mp (fun q => c (Int32.lt_iff_toInt_lt.mpr q))) H locs ls a1 a2 a3)
theorem r_if_gt (X : CX κ G cc nL own cx h) {x : Int32} {off : Int} {tgt : Nat} (d : Dc cc pc (.ifCond .gt off) 3 pc2) (ht : (pc : Int) + off = (tgt : Int)) {X1 : Int} (hx : x.toInt = X1) (k1 : 0 < X1 → V κ G b ν w tgt L st) (k2 : X1 ≤ 0 → V κ G b ν w pc2 L st) : V κ G b ν w pc L (.int x :: st) := by
  obtain ⟨d, rfl⟩ := d
  subst hx
  exact fun H locs ls a1 a2 a3 => lv_if_gt X.1 X.2.1 d ht (fun c => k1 (Int32.lt_iff_toInt_lt.mp c) H locs ls a1 a2 a3) (fun c => k2 (Int.not_lt.mp (fun q => c (Int32.lt_iff_toInt_lt.mpr q))) H locs ls a1 a2 a3)
theorem r_icmp_le (X : CX κ G cc nL own cx h) {x y : Int32} {off : Int} {tgt : Nat} (d : Dc cc pc (.if_icmp .le off) 3 pc2) (ht : (pc : Int) + off = (tgt : Int)) {X1 Y1 : Int} (hx : x.toInt = X1) (hy : y.toInt = Y1) (k1 : X1 ≤ Y1 → V κ G b ν w tgt L st) (k2 : Y1 < X1 → V κ G b ν w pc2 L st) : V κ G b ν w pc L (.int y :: .int x :: st) := by
  obtain ⟨d, rfl⟩ := d
  subst hx; subst hy
  exact fun H locs ls a1 a2 a3 => lv_icmp_le X.1 X.2.1 d ht (fun c => k1 (Int32.le_iff_toInt_le.mp c) H locs ls a1 a2 a3) (fun c => k2 (Int.not_le.mp (fun q => c (Int32.le_iff_toInt_le.mpr q))) H locs ls a1 a2 a3)
theorem r_if_le (X : CX κ G cc nL own cx h) {x : Int32} {off : Int} {tgt : Nat} (d : Dc cc pc (.ifCond .le off) 3 pc2) (ht : (pc : Int) + off = (tgt : Int)) {X1 : Int} (hx : x.toInt = X1) (k1 : X1 ≤ 0 → V κ G b ν w tgt L st) (k2 : 0 < X1 → V κ G b ν w pc2 L st) : V κ G b ν w pc L (.int x :: st) := by
  obtain ⟨d, rfl⟩ := d
  subst hx
  exact fun H locs ls a1 a2 a3 => lv_if_le X.1 X.2.1 d ht (fun c => k1 (Int32.le_iff_toInt_le.mp c) H locs ls a1 a2 a3) (fun c => k2 (Int.not_le.mp (fun q => c (Int32.le_iff_toInt_le.mpr q))) H locs ls a1 a2 a3)
end KIT2
/-! a method's contract over worlds, its start and its ends -/
def CI (l : Launch) (y : MethodName) (bytes : ByteArray) (maxL : Nat) (ret : Option FieldType) (h : Nat) (G : Gs) (b N : Nat) (w : Wd) (av : List Value) (post : Int32 → Wd → Prop) : Prop :=
  Met l y (Cond.code y bytes maxL ret :: wA) ({ frames := h, cells := 0, slots := 0, locals := 40 * h }) (va_Pc av (fun U => WP G b N w U.heap ∧ KK G U)) (va_Qi post (fun w2 t => WP G b N w2 t.heap) (Ab b)) 0 0 (Ab b)
def CV (l : Launch) (y : MethodName) (bytes : ByteArray) (maxL : Nat) (h : Nat) (G : Gs) (b N : Nat) (w : Wd) (av : List Value) (post : Wd → Prop) : Prop :=
  Met l y (Cond.code y bytes maxL none :: wA) ({ frames := h, cells := 0, slots := 0, locals := 40 * h }) (va_Pc av (fun U => WP G b N w U.heap ∧ KK G U)) (va_Qv post (fun w2 t => WP G b N w2 t.heap) (Ab b)) 0 0 (Ab b)
theorem KK.moved {G : Gs} {u U : State} (hvm : u.vm.Alike U.vm) (h : KK G u) : KK G U := va_K.moved hvm h
theorem lv_args_mem : ∀ (av : List Value) (j : Nat), (∀ v ∈ av, v.category = 1) → ∀ (i : Nat) (v : Value), av[i]? = some v → (j + i, v) ∈ lv_args j av
  | [], _, _, i, v, h => by simp at h
  | a :: t, j, hc, 0, v, h => by simp at h; subst h; simp [lv_args]
  | a :: t, j, hc, i + 1, v, h => by
    have ha : a.category = 1 := hc a List.mem_cons_self
    have := lv_args_mem t (j + 1) (fun v hv => hc v (List.mem_cons_of_mem _ hv)) i v (by simpa using h)
    rw [show j + 1 + i = j + (i + 1) by omega] at this
    simp only [lv_args, ha]
    exact List.mem_cons_of_mem _ this
theorem LVp_entry {ls : Array Slot} {n : Nat} {av : List Value} {L0 : List (Option Value)} (hl : lv_has ls n (lv_args 0 av)) (hc : ∀ v ∈ av, v.category = 1) (hL : L0 = av.map some ++ List.replicate (n - av.length) none) (hn : av.length ≤ n) : LVp ls L0 := by
  subst hL
  refine ⟨by rw [hl.1]; simp; omega, hl.2.1, fun i v h => ?_⟩
  rw [List.getElem?_append] at h
  split at h
  · rename_i h1
    simp only [List.getElem?_map, Option.map_eq_some_iff, Option.some.injEq] at h
    obtain ⟨x, hx, rfl⟩ := h
    have := lv_args_mem av 0 hc i x hx
    rw [Nat.zero_add] at this
    exact ⟨hl.2.2 (i, x) this, hc x (List.mem_of_getElem? hx)⟩
  · rw [List.getElem?_replicate] at h
    split at h <;> cases h
theorem sl_len {av : List Value} (hc : ∀ v ∈ av, v.category = 1) : (lg_sl av).length = av.length := by
  induction av with
  | nil => rfl
  | cons a t ih =>
    have ha : a.category = 1 := hc a List.mem_cons_self
    have := ih (fun v hv => hc v (List.mem_cons_of_mem _ hv))
    simp only [lg_sl, List.flatMap_cons, List.length_append, List.length_cons] at this ⊢
    rw [this]
    simp [ha]
    omega
section START
variable {l : Launch} {y : MethodName} {bytes : ByteArray} {maxL h : Nat} {ret : Option FieldType} {G : Gs} {b N : Nat} {w : Wd} {av : List Value} {own : String} {L0 : List (Option Value)}
theorem CI_of {post : Int32 → Wd → Prop} (hy : plainName y.cls = true) (hown : y.cls = own) (hc : ∀ v ∈ av, v.category = 1) (hL : L0 = av.map some ++ List.replicate (maxL - av.length) none) (hn : av.length ≤ maxL)
    (hret : ret = some .int)
    (body : ∀ κ : Kx, CX κ G bytes maxL own (Cond.code y bytes maxL ret) h → (∀ (pc pc2 : Nat) (w2 : Wd) (L : List (Option Value)) (v : Int32), Dc bytes pc .ireturn 1 pc2 → post v w2 → V κ G b (N, 0, 0) w2 pc L [.int v]) → V κ G b (N, 0, 0) w 0 L0 []) :
    CI l y bytes maxL ret h G b N w av post := by
  subst hret
  refine Met.ofW (cc := bytes) (maxL := maxL) (ret := some .int) hy rfl ?_
  intro p e s m args below meth c s₁ B hml hv
  obtain ⟨rfl, hP, hK⟩ := hv
  have hts := atoms_spec (ws := Cond.code y bytes maxL (some .int) :: wA) B.pre
  have hfc : s.vm.findClass own = some m.cls := hown ▸ findClass_of_methodNamed B.named
  have hlocks := B.notSynchronized
  have hl := lv_entry av (n := maxL) (by rw [sl_len hc]; exact hn)
  rw [lg_entry_eq]
  generalize (lg_sl av ++ List.replicate (maxL - (lg_sl av).length) Slot.unset).toArray = ls at hl ⊢
  refine body ((p, l, e, _), (s, m, av.toArray, below), (meth, c, _)) ⟨B.exec, B.bytes, hml, hfc, hts, hK, rfl, rfl⟩ ?_ s.heap [] ls hP va_S.rf (LVp_entry hl hc hL hn)
  intro pc pc2 w2 L v d hp H locs ls2 hP2 hS2 hL2
  exact W.iret (v := v) B.exec B.bytes B.returns (fun t ht hW => ⟨⟨v, w2, rfl, hp, by show WP G b N w2 t.heap; rw [ht]; exact hP2⟩, hS2.F ht⟩) hS2.2.2 d.1
theorem CZ_of {post : Int32 → Wd → Prop} (hy : plainName y.cls = true) (hown : y.cls = own) (hc : ∀ v ∈ av, v.category = 1) (hL : L0 = av.map some ++ List.replicate (maxL - av.length) none) (hn : av.length ≤ maxL)
    (hret : ret = some .boolean)
    (body : ∀ κ : Kx, CX κ G bytes maxL own (Cond.code y bytes maxL ret) h → (∀ (pc pc2 : Nat) (w2 : Wd) (L : List (Option Value)) (v : Int32), Dc bytes pc .ireturn 1 pc2 → v = 0 ∨ v = 1 → post v w2 → V κ G b (N, 0, 0) w2 pc L [.int v]) → V κ G b (N, 0, 0) w 0 L0 []) :
    CI l y bytes maxL ret h G b N w av post := by
  subst hret
  refine Met.ofW (cc := bytes) (maxL := maxL) (ret := some .boolean) hy rfl ?_
  intro p e s m args below meth c s₁ B hml hv
  obtain ⟨rfl, hP, hK⟩ := hv
  have hts := atoms_spec (ws := Cond.code y bytes maxL (some .boolean) :: wA) B.pre
  have hfc : s.vm.findClass own = some m.cls := hown ▸ findClass_of_methodNamed B.named
  have hlocks := B.notSynchronized
  have hl := lv_entry av (n := maxL) (by rw [sl_len hc]; exact hn)
  rw [lg_entry_eq]
  generalize (lg_sl av ++ List.replicate (maxL - (lg_sl av).length) Slot.unset).toArray = ls at hl ⊢
  refine body ((p, l, e, _), (s, m, av.toArray, below), (meth, c, _)) ⟨B.exec, B.bytes, hml, hfc, hts, hK, rfl, rfl⟩ ?_ s.heap [] ls hP va_S.rf (LVp_entry hl hc hL hn)
  intro pc pc2 w2 L v d hv hp H locs ls2 hP2 hS2 hL2
  exact W.zret (v := v) (ty := .boolean) B.exec B.bytes B.returns (by rcases hv with rfl | rfl <;> rfl) (fun t ht hW => ⟨⟨v, w2, rfl, hp, by show WP G b N w2 t.heap; rw [ht]; exact hP2⟩, hS2.F ht⟩) hS2.2.2 d.1
theorem CV_of {post : Wd → Prop} (hy : plainName y.cls = true) (hown : y.cls = own) (hc : ∀ v ∈ av, v.category = 1) (hL : L0 = av.map some ++ List.replicate (maxL - av.length) none) (hn : av.length ≤ maxL)
    (body : ∀ κ : Kx, CX κ G bytes maxL own (Cond.code y bytes maxL none) h → (∀ (pc pc2 : Nat) (w2 : Wd) (L : List (Option Value)), Dc bytes pc .return_ 1 pc2 → post w2 → V κ G b (N, 0, 0) w2 pc L []) → V κ G b (N, 0, 0) w 0 L0 []) :
    CV l y bytes maxL h G b N w av post := by
  refine Met.ofW (cc := bytes) (maxL := maxL) (ret := none) hy rfl ?_
  intro p e s m args below meth c s₁ B hml hv
  obtain ⟨rfl, hP, hK⟩ := hv
  have hts := atoms_spec (ws := Cond.code y bytes maxL none :: wA) B.pre
  have hfc : s.vm.findClass own = some m.cls := hown ▸ findClass_of_methodNamed B.named
  have hlocks := B.notSynchronized
  have hl := lv_entry av (n := maxL) (by rw [sl_len hc]; exact hn)
  rw [lg_entry_eq]
  generalize (lg_sl av ++ List.replicate (maxL - (lg_sl av).length) Slot.unset).toArray = ls at hl ⊢
  refine body ((p, l, e, _), (s, m, av.toArray, below), (meth, c, _)) ⟨B.exec, B.bytes, hml, hfc, hts, hK, rfl, rfl⟩ ?_ s.heap [] ls hP va_S.rf (LVp_entry hl hc hL hn)
  intro pc pc2 w2 L d hp H locs ls2 hP2 hS2 hL2
  exact W.vret B.exec B.bytes B.returns (fun t ht hW => ⟨⟨w2, rfl, hp, by show WP G b N w2 t.heap; rw [ht]; exact hP2⟩, hS2.F ht⟩) hS2.2.2 d.1
end START
section HEAP
variable {κ : Kx} {G : Gs} {b : Nat} {cc : ByteArray} {nL : Nat} {own : String} {cx : Cond} {h : Nat} {ν : Nat × Nat × Nat} {w : Wd} {pc pc2 : Nat} {L L2 : List (Option Value)} {st : List Value}
theorem CX.ts (X : CX κ G cc nL own cx h) : ∀ q ∈ wA, q.before κ.2.1.2.2.1 κ.2.1.1 = true := fun _ hq => X.word hq
theorem r_get (X : CX κ G cc nL own cx h) {C : String} {T : u_T} {n ci index q : Nat} {fs : List Value} (d : Dc cc pc (.getfield index) 3 pc2) (hc : vwCl[ci]? = some (C, T, n)) (hin : ∀ w ∈ u_ws C T n, w ∈ wA) (fi : Nat) (hk : fi < n) (hlink : Cond.fieldLink own index (T fi).1 (T fi).2.1 (T fi).2.2.1 ∈ wA) (hq : q < ν.1) (he : w q = .inr (ci, fs)) {v : Value} (hv : fs[fi]? = some v) (k : V κ G b ν w pc2 L (v :: st)) : V κ G b ν w pc L (.ref (b + q) :: st) := by
  obtain ⟨d, rfl⟩ := d
  exact fun H locs ls a1 a2 a3 => va_get X.1 X.2.1 X.ts hin X.2.2.2.1 X.2.2.2.2.2.1 a1 q ((wl_get hq).trans (by rw [he])) hc fi hk (X.word hlink) (fun _ h9 => h9) hv d (k H locs ls a1 a2 a3)
theorem r_put (X : CX κ G cc nL own cx h) {C : String} {T : u_T} {n ci index q : Nat} {fs : List Value} (d : Dc cc pc (.putfield index) 3 pc2) (hc : vwCl[ci]? = some (C, T, n)) (hin : ∀ w ∈ u_ws C T n, w ∈ wA) (ty0 : Nat → FieldType) (hty : ∀ k, k < n → parseFieldDescriptor (T k).2.2.1 = some (ty0 k)) (hnm : ∀ a, a < n → ∀ b, b < n → a ≠ b → (T a).2.1 ≠ (T b).2.1) (fi : Nat) (hk : fi < n) (hlink : Cond.fieldLink own index (T fi).1 (T fi).2.1 (T fi).2.2.1 ∈ wA) (hfin : (T fi).2.2.2 = false) (hq : q < ν.1) (he : w q = .inr (ci, fs)) {v : Value} (hn : narrow (ty0 fi) v = v) (hfit : fits (ty0 fi) v = true) (hl : fi < fs.length) {fs2 : List Value} (hfs : fs.set fi v = fs2)
    (k : ∀ w2 : Wd, w2 q = .inr (ci, fs2) → (∀ j, j ≠ q → w2 j = w j) → V κ G b ν w2 pc2 L st) : V κ G b ν w pc L (v :: .ref (b + q) :: st) := by
  obtain ⟨d, rfl⟩ := d
  subst hfs
  exact fun H locs ls a1 a2 a3 => va_put X.1 X.2.1 X.ts hin ty0 hty hnm X.2.2.2.1 X.2.2.2.2.2.1 a1 wl_D a2 q ((wl_get hq).trans (by rw [he])) hc fi hk (X.word hlink) (fun _ h9 => h9) hfin (hty fi hk) hn hfit hl d (fun H1 locs1 b1 _ b3 => k _ (va_up_self _ _ _) (fun j hj => va_up_ne _ _ hj) H1 locs1 ls (by rw [wl_set] at b1; exact b1) b3 a3)
theorem nI_cl {i n : Nat} (hi : i < n) (hn : n < 2 ^ 31) : (nI i).toNatClampNeg = i := nI_clamp (by omega)
theorem r_iald (X : CX κ G cc nL own cx h) (d : Dc cc pc .iaload 1 pc2) {q n i : Nat} {f : Nat → Int32} (hq : q < ν.1) (he : w q = aI G n f) (hi : i < n) (hn : n < 2 ^ 31) (k : V κ G b ν w pc2 L (.int (f i) :: st)) : V κ G b ν w pc L (.int (nI i) :: .ref (b + q) :: st) := by
  obtain ⟨d, rfl⟩ := d
  intro H locs ls a1 a2 a3
  refine va_iald X.1 X.2.1 X.2.2.2.2.2.1 a1 q 0 ((wl_get hq).trans (by rw [he])) rfl (vp_in_nI hi hn) d ?_
  rw [nI_cl hi hn]
  exact k H locs ls a1 a2 a3
theorem r_iast (X : CX κ G cc nL own cx h) (d : Dc cc pc .iastore 1 pc2) {q n i : Nat} {f : Nat → Int32} {x : Int32} (hq : q < ν.1) (he : w q = aI G n f) (hi : i < n) (hn : n < 2 ^ 31) (k : ∀ w2 : Wd, w2 q = aI G n (upd f i x) → (∀ j, j ≠ q → w2 j = w j) → V κ G b ν w2 pc2 L st) : V κ G b ν w pc L (.int x :: .int (nI i) :: .ref (b + q) :: st) := by
  obtain ⟨d, rfl⟩ := d
  intro H locs ls a1 a2 a3
  refine va_iast X.1 X.2.1 X.2.2.2.2.2.1 a1 wl_D a2 q 0 ((wl_get hq).trans (by rw [he])) rfl (vp_in_nI hi hn) d (fun H1 locs1 b1 _ b3 => ?_)
  rw [wl_set, nI_cl hi hn] at b1
  exact k _ (va_up_self _ _ _) (fun j hj => va_up_ne _ _ hj) H1 locs1 ls b1 b3 a3
theorem r_zald (X : CX κ G cc nL own cx h) (d : Dc cc pc .baload 1 pc2) {q n i : Nat} {f : Nat → Int32} (hq : q < ν.1) (he : w q = aZ G n f) (hi : i < n) (hn : n < 2 ^ 31) (k : V κ G b ν w pc2 L (.int (f i) :: st)) : V κ G b ν w pc L (.int (nI i) :: .ref (b + q) :: st) := by
  obtain ⟨d, rfl⟩ := d
  intro H locs ls a1 a2 a3
  refine va_zald X.1 X.2.1 X.2.2.2.2.2.1 a1 q 1 ((wl_get hq).trans (by rw [he])) rfl (vp_in_nI hi hn) d ?_
  rw [nI_cl hi hn]
  exact k H locs ls a1 a2 a3
theorem r_zast (X : CX κ G cc nL own cx h) (d : Dc cc pc .bastore 1 pc2) {q n i : Nat} {f : Nat → Int32} {x : Int32} (hq : q < ν.1) (he : w q = aZ G n f) (hi : i < n) (hn : n < 2 ^ 31) (hx : vp_nar .boolean x = x) (k : ∀ w2 : Wd, w2 q = aZ G n (upd f i x) → (∀ j, j ≠ q → w2 j = w j) → V κ G b ν w2 pc2 L st) : V κ G b ν w pc L (.int x :: .int (nI i) :: .ref (b + q) :: st) := by
  obtain ⟨d, rfl⟩ := d
  intro H locs ls a1 a2 a3
  refine va_zast X.1 X.2.1 X.2.2.2.2.2.1 a1 wl_D a2 q 1 ((wl_get hq).trans (by rw [he])) rfl (vp_in_nI hi hn) d (fun H1 locs1 b1 _ b3 => ?_)
  rw [wl_set, nI_cl hi hn, hx] at b1
  exact k _ (va_up_self _ _ _) (fun j hj => va_up_ne _ _ hj) H1 locs1 ls b1 b3 a3
theorem r_aald (X : CX κ G cc nL own cx h) (d : Dc cc pc .aaload 1 pc2) {q n i a : Nat} {f : Nat → Option Nat} (hq : q < ν.1) (he : w q = aP G n f) (hi : i < n) (hn : n < 2 ^ 31) (hf : f i = some a) (k : V κ G b ν w pc2 L (.ref a :: st)) : V κ G b ν w pc L (.int (nI i) :: .ref (b + q) :: st) := by
  obtain ⟨d, rfl⟩ := d
  intro H locs ls a1 a2 a3
  refine va_aldq X.1 X.2.1 X.2.2.2.2.2.1 a1 q 2 ((wl_get hq).trans (by rw [he])) rfl (vp_in_nI hi hn) d ?_
  rw [nI_cl hi hn, hf]
  exact k H locs ls a1 a2 a3
theorem r_alen (X : CX κ G cc nL own cx h) (d : Dc cc pc .arraylength 1 pc2) {q n : Nat} {f : Nat → Int32} (hq : q < ν.1) (he : w q = aI G n f) (k : V κ G b ν w pc2 L (.int (nI n) :: st)) : V κ G b ν w pc L (.ref (b + q) :: st) := by
  obtain ⟨d, rfl⟩ := d
  exact fun H locs ls a1 a2 a3 => va_alen (x := (n, .inl f)) (v := nI n) X.1 X.2.1 X.2.2.2.2.2.1 a1 q 0 ((wl_get hq).trans (by rw [he])) (ty := .int) rfl rfl d (k H locs ls a1 a2 a3)
def iab (x : Int32) : Int32 := if 0 ≤ x then x else 0 - x
end HEAP
section MATH
variable {κ : Kx} {G : Gs} {b N : Nat} {cc : ByteArray} {nL : Nat} {own : String} {cx : Cond} {h : Nat} {w : Wd} {pc pc2 : Nat} {L L2 : List (Option Value)} {st : List Value}
theorem r_max (X : CX κ G cc nL own cx (h + 1)) {index : Nat} (d : Dc cc pc (.invokestatic index) 3 pc2) (h1 : Cond.methodLink own index Lib.Math.max.name ∈ wA) (h2 : Cond.static Lib.Math.max.name ∈ wA) (h3 : Cond.initialized "java/lang/Math" ∈ wA) (h4 : Cond.code Lib.Math.max.name Lib.Math.max.code 2 (some .int) ∈ wA) (hnL : L.length = nL) (hcat : (st.map fun v => v.category).sum ≤ 8) {x y : Int32} (z : Int32) (e : (if x < y then y else x) = z) (k : V κ G b (N, 0, 0) w pc2 L (.int z :: st)) : V κ G b (N, 0, 0) w pc L (.int y :: .int x :: st) := by
  obtain ⟨d, rfl⟩ := d
  subst e
  exact fun H locs ls a1 a2 a3 => va_mmax X.1 X.2.1 (by rw [a3.1, hnL]; exact X.2.2.1) X.2.2.2.1 (X.word h1) (X.word h2) (X.word h3) (X.word h4) (by rw [X.2.2.2.2.2.2.1]; omega) (by rw [X.2.2.2.2.2.2.2]; omega) (Nat.zero_le _) (Nat.zero_le _) d (k H locs ls a1 a2 a3)
theorem r_min (X : CX κ G cc nL own cx (h + 1)) {index : Nat} (d : Dc cc pc (.invokestatic index) 3 pc2) (h1 : Cond.methodLink own index Lib.Math.min.name ∈ wA) (h2 : Cond.static Lib.Math.min.name ∈ wA) (h3 : Cond.initialized "java/lang/Math" ∈ wA) (h4 : Cond.code Lib.Math.min.name Lib.Math.min.code 2 (some .int) ∈ wA) (hnL : L.length = nL) (hcat : (st.map fun v => v.category).sum ≤ 8) {x y : Int32} (z : Int32) (e : (if y < x then y else x) = z) (k : V κ G b (N, 0, 0) w pc2 L (.int z :: st)) : V κ G b (N, 0, 0) w pc L (.int y :: .int x :: st) := by
  obtain ⟨d, rfl⟩ := d
  subst e
  exact fun H locs ls a1 a2 a3 => va_mmin X.1 X.2.1 (by rw [a3.1, hnL]; exact X.2.2.1) X.2.2.2.1 (X.word h1) (X.word h2) (X.word h3) (X.word h4) (by rw [X.2.2.2.2.2.2.1]; omega) (by rw [X.2.2.2.2.2.2.2]; omega) (Nat.zero_le _) (Nat.zero_le _) d (k H locs ls a1 a2 a3)
theorem r_abs (X : CX κ G cc nL own cx (h + 1)) {index : Nat} (d : Dc cc pc (.invokestatic index) 3 pc2) (h1 : Cond.methodLink own index Lib.Math.abs.name ∈ wA) (h2 : Cond.static Lib.Math.abs.name ∈ wA) (h3 : Cond.initialized "java/lang/Math" ∈ wA) (h4 : Cond.code Lib.Math.abs.name Lib.Math.abs.code 1 (some .int) ∈ wA) (hnL : L.length = nL) (hcat : (st.map fun v => v.category).sum ≤ 8) {x : Int32} (z : Int32) (e : iab x = z) (k : V κ G b (N, 0, 0) w pc2 L (.int z :: st)) : V κ G b (N, 0, 0) w pc L (.int x :: st) := by
  obtain ⟨d, rfl⟩ := d
  subst e
  exact fun H locs ls a1 a2 a3 => va_mabs X.1 X.2.1 (by rw [a3.1, hnL]; exact X.2.2.1) X.2.2.2.1 (X.word h1) (X.word h2) (X.word h3) (X.word h4) (by rw [X.2.2.2.2.2.2.1]; omega) (by rw [X.2.2.2.2.2.2.2]; omega) (Nat.zero_le _) (Nat.zero_le _) d (k H locs ls a1 a2 a3)
end MATH
/-! calls -/
section CALLS
variable {κ : Kx} {G : Gs} {b N : Nat} {cc : ByteArray} {nL : Nat} {own : String} {cx : Cond} {h : Nat} {w : Wd} {pc pc2 : Nat} {L L2 : List (Option Value)} {st st0 : List Value}
theorem blindP {G : Gs} {b N : Nat} {w : Wd} {av : List Value} : FrameBlind (va_Pc av (fun U => WP G b N w U.heap ∧ KK G U)) := fun a U g mk q => ⟨q.1, q.2.1, KK.moved (u := U) (U := U.calling g mk a) (Vm.Alike.refl U.vm) q.2.2⟩
theorem goodA {y : Cond} (hy : y ∈ wA) : GoodIn (cx :: wA) (y :: wA) := by
  have g : ∀ w ∈ wA, (w.onTables && w.keeps) = true ∨ ∃ ty, w = .arrayClass ty := fun w hw => good_of_word (List.all_eq_true.mp wA_good w hw)
  intro w hw
  rcases List.mem_cons.mp hw with rfl | hw
  · exact ⟨List.mem_cons_of_mem _ hy, g _ hy⟩
  · exact ⟨List.mem_cons_of_mem _ hw, g _ hw⟩
theorem goodV {C : String} {index : Nat} {y : MethodName} {bytes : ByteArray} {maxL : Nat} {ret : Option FieldType} (h1 : Cond.methodLink own index y ∈ wA) (h2 : Cond.instanceMethod y ∈ wA) (h3 : Cond.selects C y y ∈ wA) (h4 : Cond.initialized C ∈ wA) (h5 : Cond.code y bytes maxL ret ∈ wA) : GoodIn (cx :: wA) (wsV own index C y (Cond.code y bytes maxL ret :: wA)) := by
  have g : ∀ w ∈ wA, (w.onTables && w.keeps) = true ∨ ∃ ty, w = .arrayClass ty := fun w hw => good_of_word (List.all_eq_true.mp wA_good w hw)
  intro w hw
  have hm : w ∈ wA := by
    simp only [wsV, List.mem_append, List.mem_cons, List.not_mem_nil, or_false] at hw
    rcases hw with (rfl | rfl | rfl | rfl) | rfl | hw
    · exact h1
    · exact h2
    · exact h3
    · exact h4
    · exact h5
    · exact hw
  exact ⟨List.mem_cons_of_mem _ hm, g _ hm⟩
theorem goodS {index : Nat} {y : MethodName} {bytes : ByteArray} {maxL : Nat} {ret : Option FieldType} (h1 : Cond.methodLink own index y ∈ wA) (h2 : Cond.static y ∈ wA) (h4 : Cond.initialized y.cls ∈ wA) (h5 : Cond.code y bytes maxL ret ∈ wA) : GoodIn (cx :: wA) (va_wsS own index y (Cond.code y bytes maxL ret :: wA)) := by
  have g : ∀ w ∈ wA, (w.onTables && w.keeps) = true ∨ ∃ ty, w = .arrayClass ty := fun w hw => good_of_word (List.all_eq_true.mp wA_good w hw)
  intro w hw
  have hm : w ∈ wA := by
    simp only [va_wsS, List.mem_append, List.mem_cons, List.not_mem_nil, or_false] at hw
    rcases hw with (rfl | rfl | rfl) | rfl | hw
    · exact h1
    · exact h2
    · exact h4
    · exact h5
    · exact hw
  exact ⟨List.mem_cons_of_mem _ hm, g _ hm⟩
variable {y : MethodName} {bytes : ByteArray} {maxL n index hc q ci : Nat} {ret : Option FieldType} {C : String} {T : u_T} {nf : Nat} {fs As : List Value}
theorem r_callVi (X : CX κ G cc nL own cx h) {post : Int32 → Wd → Prop} (hM : CI κ.1.2.1 y bytes maxL ret hc G b N w (.ref (b + q) :: As) post) (d : Dc cc pc (.invokevirtual index) 3 pc2)
    (h1 : Cond.methodLink own index y ∈ wA) (h2 : Cond.instanceMethod y ∈ wA) (h3 : Cond.selects C y y ∈ wA) (h4 : Cond.initialized C ∈ wA) (h5 : Cond.code y bytes maxL ret ∈ wA)
    (hd : y.cls = C ∧ y.cls ≠ "java/lang/invoke/MethodHandle" ∧ y.cls ≠ "java/lang/invoke/VarHandle" ∧ (parseMethodDescriptor y.desc).map (fun d => d.parameters.length) = some n) (hn : As.length = n) (hR : hc + 1 ≤ h) (hmx : maxL ≤ 21)
    (hq : q < N) (he : w q = .inr (ci, fs)) (hcl : vwCl[ci]? = some (C, T, nf)) (hnL : L.length = nL) (hst : st0 = As.reverse ++ .ref (b + q) :: st) (hcat : (st.map fun v => v.category).sum ≤ 8)
    (k : ∀ (r : Int32) (w2 : Wd), post r w2 → V κ G b (N, 0, 0) w2 pc2 L (.int r :: st)) : V κ G b (N, 0, 0) w pc L st0 := by
  obtain ⟨d, rfl⟩ := d
  intro H locs ls a1 a2 a3
  have a1' : WP G b N w H := a1
  refine va_calli (va_runV (As := As) (rest := st) (C := C) (n := n) (bytes := bytes) (maxL := maxL) (ret := ret) ⟨X.1, X.2.1, X.2.2.1, X.2.2.2.1, X.2.2.2.2.1⟩ hM (cwV n X.2.2.2.2.1 (goodV h1 h2 h3 h4 h5) rfl rfl rfl hd ⟨by rw [X.2.2.2.2.2.2.1]; exact hR, by rw [X.2.2.2.2.2.2.2]; show 8 + (maxL + 11) + 40 * hc ≤ 40 * h; omega⟩) ⟨blindP, va_recv X.2.2.2.2.2.1 a1 hcl (q0 := q) ((wl_get hq).trans (by rw [he])), fun U hU hW => ⟨rfl, by rw [hU]; exact a1', KK.moved hW.alike X.2.2.2.2.2.1⟩⟩ rfl hn (a3.1.trans hnL) hst (lv_room hcat) d ⟨Nat.zero_le _, Nat.zero_le _⟩) a2 (fun q _ h => h) (fun q h => h) (fun r w2 t H1 locs1 ht hvm hp hB hz hk hS => ?_)
  rw [ht] at hB
  exact k r w2 hp H1 locs1 ls hB hS a3
theorem r_callVv (X : CX κ G cc nL own cx h) {post : Wd → Prop} (hM : CV κ.1.2.1 y bytes maxL hc G b N w (.ref (b + q) :: As) post) (d : Dc cc pc (.invokevirtual index) 3 pc2)
    (h1 : Cond.methodLink own index y ∈ wA) (h2 : Cond.instanceMethod y ∈ wA) (h3 : Cond.selects C y y ∈ wA) (h4 : Cond.initialized C ∈ wA) (h5 : Cond.code y bytes maxL none ∈ wA)
    (hd : y.cls = C ∧ y.cls ≠ "java/lang/invoke/MethodHandle" ∧ y.cls ≠ "java/lang/invoke/VarHandle" ∧ (parseMethodDescriptor y.desc).map (fun d => d.parameters.length) = some n) (hn : As.length = n) (hR : hc + 1 ≤ h) (hmx : maxL ≤ 21)
    (hq : q < N) (he : w q = .inr (ci, fs)) (hcl : vwCl[ci]? = some (C, T, nf)) (hnL : L.length = nL) (hst : st0 = As.reverse ++ .ref (b + q) :: st) (hcat : (st.map fun v => v.category).sum ≤ 8)
    (k : ∀ (w2 : Wd), post w2 → V κ G b (N, 0, 0) w2 pc2 L st) : V κ G b (N, 0, 0) w pc L st0 := by
  obtain ⟨d, rfl⟩ := d
  intro H locs ls a1 a2 a3
  have a1' : WP G b N w H := a1
  refine va_callv (va_runV (As := As) (rest := st) (C := C) (n := n) (bytes := bytes) (maxL := maxL) (ret := none) ⟨X.1, X.2.1, X.2.2.1, X.2.2.2.1, X.2.2.2.2.1⟩ hM (cwV n X.2.2.2.2.1 (goodV h1 h2 h3 h4 h5) rfl rfl rfl hd ⟨by rw [X.2.2.2.2.2.2.1]; exact hR, by rw [X.2.2.2.2.2.2.2]; show 8 + (maxL + 11) + 40 * hc ≤ 40 * h; omega⟩) ⟨blindP, va_recv X.2.2.2.2.2.1 a1 hcl (q0 := q) ((wl_get hq).trans (by rw [he])), fun U hU hW => ⟨rfl, by rw [hU]; exact a1', KK.moved hW.alike X.2.2.2.2.2.1⟩⟩ rfl hn (a3.1.trans hnL) hst (lv_room hcat) d ⟨Nat.zero_le _, Nat.zero_le _⟩) a2 (fun q _ h => h) (fun q h => h) (fun w2 t H1 locs1 ht hvm hp hB hz hk hS => ?_)
  rw [ht] at hB
  exact k w2 hp H1 locs1 ls hB hS a3
theorem r_callSi (X : CX κ G cc nL own cx h) {post : Int32 → Wd → Prop} (hM : CI κ.1.2.1 y bytes maxL ret hc G b N w As post) (d : Dc cc pc (.invokestatic index) 3 pc2)
    (h1 : Cond.methodLink own index y ∈ wA) (h2 : Cond.static y ∈ wA) (h4 : Cond.initialized y.cls ∈ wA) (h5 : Cond.code y bytes maxL ret ∈ wA)
    (hd : y.cls ≠ "java/lang/invoke/MethodHandle" ∧ y.cls ≠ "java/lang/invoke/VarHandle" ∧ (parseMethodDescriptor y.desc).map (fun d => d.parameters.length) = some n) (hn : As.length = n) (hR : hc + 1 ≤ h) (hmx : maxL ≤ 21)
    (hnL : L.length = nL) (hst : st0 = As.reverse ++ st) (hcat : (st.map fun v => v.category).sum ≤ 8)
    (k : ∀ (r : Int32) (w2 : Wd), post r w2 → V κ G b (N, 0, 0) w2 pc2 L (.int r :: st)) : V κ G b (N, 0, 0) w pc L st0 := by
  obtain ⟨d, rfl⟩ := d
  intro H locs ls a1 a2 a3
  have a1' : WP G b N w H := a1
  refine va_calli (va_runS (As := As) (rest := st) (n := n) (bytes := bytes) (maxL := maxL) (ret := ret) ⟨X.1, X.2.1, X.2.2.1, X.2.2.2.1, X.2.2.2.2.1⟩ hM (va_cwS n X.2.2.2.2.1 (goodS h1 h2 h4 h5) rfl rfl rfl hd ⟨by rw [X.2.2.2.2.2.2.1]; exact hR, by rw [X.2.2.2.2.2.2.2]; show 8 + (maxL + 11) + 40 * hc ≤ 40 * h; omega⟩) ⟨blindP, fun U hU hW => ⟨rfl, by rw [hU]; exact a1', KK.moved hW.alike X.2.2.2.2.2.1⟩⟩ rfl hn (a3.1.trans hnL) hst (lv_room hcat) d ⟨Nat.zero_le _, Nat.zero_le _⟩) a2 (fun q _ h => h) (fun q h => h) (fun r w2 t H1 locs1 ht hvm hp hB hz hk hS => ?_)
  rw [ht] at hB
  exact k r w2 hp H1 locs1 ls hB hS a3
end CALLS
end
section
/-! numbers and truth values on the stack -/
def bI (P : Prop) [Decidable P] : Int32 := if P then 1 else 0
theorem bI_t {P : Prop} [Decidable P] (h : P) : (1 : Int32) = bI P := (if_pos h).symm
theorem bI_f {P : Prop} [Decidable P] (h : ¬ P) : (0 : Int32) = bI P := (if_neg h).symm
theorem bI_or (P : Prop) [Decidable P] : bI P = 0 ∨ bI P = 1 := by
  by_cases h : P
  · exact Or.inr (if_pos h)
  · exact Or.inl (if_neg h)
theorem nI_c1 : (1 : Int32) = nI 1 := by decide
theorem nI_c0 : (0 : Int32) = nI 0 := by decide
theorem inc_nI (a : Nat) : nI a + Int32.ofInt 1 = nI (a + 1) := nI_1 a
def nP (t : Nat) : Int32 := nI t - 1
theorem dec_nI (a : Nat) : nI a + Int32.ofInt (-1) = nP a := by
  rw [nP, Int32.sub_eq_add_neg]
  rfl
theorem subP (a : Nat) : nI a - nI 1 = nP a := rfl
theorem nP_succ (u : Nat) : nP (u + 1) = nI u := nI_pred u
theorem nP_pos {t : Nat} (h : 0 < t) : nP t = nI (t - 1) := by
  obtain ⟨u, rfl⟩ : ∃ u, t = u + 1 := ⟨t - 1, by omega⟩
  exact nP_succ u
theorem nP_toInt {t : Nat} (h : t < 2 ^ 31) : (nP t).toInt = (t : Int) - 1 := by
  rcases Nat.eq_zero_or_pos t with rfl | h0
  · decide
  · rw [nP_pos h0, nI_toInt (by omega)]
    omega
theorem addN {a b c : Nat} (h : a + b = c) : nI a + nI b = nI c := by rw [nI_add, h]
theorem minN {a b : Nat} (ha : a < 2 ^ 31) (hb : b < 2 ^ 31) : (if nI b < nI a then nI b else nI a) = nI (min a b) := by
  by_cases h : b < a
  · rw [if_pos ((nI_ltI hb ha).mpr h), Nat.min_eq_right (by omega)]
  · rw [if_neg (fun q => h ((nI_ltI hb ha).mp q)), Nat.min_eq_left (by omega)]
theorem maxN {a b : Nat} (ha : a < 2 ^ 31) (hb : b < 2 ^ 31) : (if nI a < nI b then nI b else nI a) = nI (max a b) := by
  by_cases h : a < b
  · rw [if_pos ((nI_ltI ha hb).mpr h), Nat.max_eq_right (by omega)]
  · rw [if_neg (fun q => h ((nI_ltI ha hb).mp q)), Nat.max_eq_left (by omega)]
theorem maxP {t : Nat} (h : t < 2 ^ 31) : (if nP t < nI 0 then nI 0 else nP t) = nI (t - 1) := by
  rcases Nat.eq_zero_or_pos t with rfl | h0
  · decide
  · rw [nP_pos h0, maxN (by omega) (by omega)]
    simp
theorem i2n {x : Int32} (h : 0 ≤ x.toInt) : ∃ n : Nat, n < 2 ^ 31 ∧ x = nI n ∧ (n : Int) = x.toInt := by
  obtain ⟨n, hn, rfl⟩ := nI_of (x := x) (fun q => absurd (Int32.lt_iff_toInt_lt.mp q) (by simpa using h))
  exact ⟨n, hn, rfl, (nI_toInt hn).symm⟩
section HELP
variable {κ : Kx} {G : Gs} {b : Nat} {cc : ByteArray} {nL : Nat} {own : String} {cx : Cond} {h : Nat} {ν : Nat × Nat × Nat} {w : Wd} {pc pc2 : Nat} {L L2 : List (Option Value)} {st : List Value}
theorem r_ifne_b (X : CX κ G cc nL own cx h) {off : Int} {tgt : Nat} (d : Dc cc pc (.ifCond .ne off) 3 pc2) (ht : (pc : Int) + off = (tgt : Int)) {P : Prop} [Decidable P] (k1 : P → V κ G b ν w tgt L st) (k2 : ¬ P → V κ G b ν w pc2 L st) : V κ G b ν w pc L (.int (bI P) :: st) := by
  by_cases hp : P
  · rw [← bI_t hp]
    exact r_if_ne X d ht (X1 := 1) (by decide) (fun _ => k1 hp) (fun c => absurd c (by decide))
  · rw [← bI_f hp]
    exact r_if_ne X d ht (X1 := 0) (by decide) (fun c => absurd rfl c) (fun c => k2 hp)
theorem r_ifeq_b (X : CX κ G cc nL own cx h) {off : Int} {tgt : Nat} (d : Dc cc pc (.ifCond .eq off) 3 pc2) (ht : (pc : Int) + off = (tgt : Int)) {P : Prop} [Decidable P] (k1 : ¬ P → V κ G b ν w tgt L st) (k2 : P → V κ G b ν w pc2 L st) : V κ G b ν w pc L (.int (bI P) :: st) := by
  by_cases hp : P
  · rw [← bI_t hp]
    exact r_if_eq X d ht (X1 := 1) (by decide) (fun c => absurd c (by decide)) (fun _ => k2 hp)
  · rw [← bI_f hp]
    exact r_if_eq X d ht (X1 := 0) (by decide) (fun _ => k1 hp) (fun c => absurd rfl c)
theorem r_fg (j : Nat) (hl : L.set j none = L2) (k : V κ G b ν w pc L2 st) : V κ G b ν w pc L st := by
  subst hl
  refine fun H locs ls a1 a2 a3 => k H locs ls a1 a2 ⟨by rw [List.length_set]; exact a3.1, a3.2.1, fun i v hv => ?_⟩
  rw [List.getElem?_set] at hv
  by_cases e : j = i
  · rw [if_pos e] at hv
    split at hv <;> cases hv
  · rw [if_neg e] at hv
    exact a3.2.2 i v hv
theorem r_w {w2 : Wd} (e : w = w2) (k : V κ G b ν w2 pc L st) : V κ G b ν w pc L st := by rw [e]; exact k
end HELP
end
section
section SITES
variable {κ : Kx} {G : Gs} {b N : Nat} {cc : ByteArray} {nL : Nat} {cx : Cond} {h : Nat} {ν : Nat × Nat × Nat} {w : Wd} {pc pc2 : Nat} {L L2 : List (Option Value)} {st : List Value}
theorem cv_L_13 (X : CX κ G cc nL RL cx h) (d : Dc cc pc (.invokevirtual 13) 3 pc2) {q : Nat} {fs : List Value} {hc : Nat} {x0 x1 : Value} {post : Int32 → Wd → Prop} (hM : CI κ.1.2.1 yX5_size cX5_size 4 (some .int) hc G b N w [.ref (b + q), x0, x1] post) (hR : hc + 1 ≤ h) (hq : q < N) (he : w q = .inr (5, fs)) (hnL : L.length = nL) (hcat : (st.map fun v => v.category).sum ≤ 8) (k : ∀ (r : Int32) (w2 : Wd), post r w2 → V κ G b (N, 0, 0) w2 pc2 L (.int r :: st)) : V κ G b (N, 0, 0) w pc L (x1 :: x0 :: .ref (b + q) :: st) := r_callVi (n := 2) X hM d qw_92 qw_93 qw_94 qw_2 qw_95 (by decide +kernel) rfl hR (by decide) hq he rfl hnL rfl hcat k
theorem cp_L_13 (X : CX κ G cc nL RL cx h) (d : Dc cc pc (.invokevirtual 13) 3 pc2) {q : Nat} {fs : List Value} {hc : Nat} {x0 x1 : Value} {E : Int32} (hM : CI κ.1.2.1 yX5_size cX5_size 4 (some .int) hc G b N w [.ref (b + q), x0, x1] (fun r w2 => r = E ∧ w2 = w)) (hR : hc + 1 ≤ h) (hq : q < N) (he : w q = .inr (5, fs)) (hnL : L.length = nL) (hcat : (st.map fun v => v.category).sum ≤ 8) (k : V κ G b (N, 0, 0) w pc2 L (.int E :: st)) : V κ G b (N, 0, 0) w pc L (x1 :: x0 :: .ref (b + q) :: st) := cv_L_13 X d hM hR hq he hnL hcat (fun r w2 hp => by rw [hp.1, hp.2]; exact k)
theorem cv_L_17 (X : CX κ G cc nL RL cx h) (d : Dc cc pc (.invokevirtual 17) 3 pc2) {q : Nat} {fs : List Value} {hc : Nat} {x0 x1 : Value} {post : Int32 → Wd → Prop} (hM : CI κ.1.2.1 yX6_size_ cX6_size_ 5 (some .int) hc G b N w [.ref (b + q), x0, x1] post) (hR : hc + 1 ≤ h) (hq : q < N) (he : w q = .inr (6, fs)) (hnL : L.length = nL) (hcat : (st.map fun v => v.category).sum ≤ 8) (k : ∀ (r : Int32) (w2 : Wd), post r w2 → V κ G b (N, 0, 0) w2 pc2 L (.int r :: st)) : V κ G b (N, 0, 0) w pc L (x1 :: x0 :: .ref (b + q) :: st) := r_callVi (n := 2) X hM d qw_105 qw_106 qw_107 qw_5 qw_108 (by decide +kernel) rfl hR (by decide) hq he rfl hnL rfl hcat k
theorem cp_L_17 (X : CX κ G cc nL RL cx h) (d : Dc cc pc (.invokevirtual 17) 3 pc2) {q : Nat} {fs : List Value} {hc : Nat} {x0 x1 : Value} {E : Int32} (hM : CI κ.1.2.1 yX6_size_ cX6_size_ 5 (some .int) hc G b N w [.ref (b + q), x0, x1] (fun r w2 => r = E ∧ w2 = w)) (hR : hc + 1 ≤ h) (hq : q < N) (he : w q = .inr (6, fs)) (hnL : L.length = nL) (hcat : (st.map fun v => v.category).sum ≤ 8) (k : V κ G b (N, 0, 0) w pc2 L (.int E :: st)) : V κ G b (N, 0, 0) w pc L (x1 :: x0 :: .ref (b + q) :: st) := cv_L_17 X d hM hR hq he hnL hcat (fun r w2 hp => by rw [hp.1, hp.2]; exact k)
theorem cv_L_18 (X : CX κ G cc nL RL cx h) (d : Dc cc pc (.invokevirtual 18) 3 pc2) {q : Nat} {fs : List Value} {hc : Nat} {x0 x1 x2 : Value} {post : Int32 → Wd → Prop} (hM : CI κ.1.2.1 yX5_grey cX5_grey 4 (some .int) hc G b N w [.ref (b + q), x0, x1, x2] post) (hR : hc + 1 ≤ h) (hq : q < N) (he : w q = .inr (5, fs)) (hnL : L.length = nL) (hcat : (st.map fun v => v.category).sum ≤ 8) (k : ∀ (r : Int32) (w2 : Wd), post r w2 → V κ G b (N, 0, 0) w2 pc2 L (.int r :: st)) : V κ G b (N, 0, 0) w pc L (x2 :: x1 :: x0 :: .ref (b + q) :: st) := r_callVi (n := 3) X hM d qw_112 qw_113 qw_114 qw_2 qw_115 (by decide +kernel) rfl hR (by decide) hq he rfl hnL rfl hcat k
theorem cp_L_18 (X : CX κ G cc nL RL cx h) (d : Dc cc pc (.invokevirtual 18) 3 pc2) {q : Nat} {fs : List Value} {hc : Nat} {x0 x1 x2 : Value} {E : Int32} (hM : CI κ.1.2.1 yX5_grey cX5_grey 4 (some .int) hc G b N w [.ref (b + q), x0, x1, x2] (fun r w2 => r = E ∧ w2 = w)) (hR : hc + 1 ≤ h) (hq : q < N) (he : w q = .inr (5, fs)) (hnL : L.length = nL) (hcat : (st.map fun v => v.category).sum ≤ 8) (k : V κ G b (N, 0, 0) w pc2 L (.int E :: st)) : V κ G b (N, 0, 0) w pc L (x2 :: x1 :: x0 :: .ref (b + q) :: st) := cv_L_18 X d hM hR hq he hnL hcat (fun r w2 hp => by rw [hp.1, hp.2]; exact k)
theorem cv_L_22 (X : CX κ G cc nL RL cx h) (d : Dc cc pc (.invokevirtual 22) 3 pc2) {q : Nat} {fs : List Value} {hc : Nat} {x0 x1 x2 : Value} {post : Int32 → Wd → Prop} (hM : CI κ.1.2.1 yX6_grey cX6_grey 5 (some .int) hc G b N w [.ref (b + q), x0, x1, x2] post) (hR : hc + 1 ≤ h) (hq : q < N) (he : w q = .inr (6, fs)) (hnL : L.length = nL) (hcat : (st.map fun v => v.category).sum ≤ 8) (k : ∀ (r : Int32) (w2 : Wd), post r w2 → V κ G b (N, 0, 0) w2 pc2 L (.int r :: st)) : V κ G b (N, 0, 0) w pc L (x2 :: x1 :: x0 :: .ref (b + q) :: st) := r_callVi (n := 3) X hM d qw_127 qw_128 qw_129 qw_5 qw_130 (by decide +kernel) rfl hR (by decide) hq he rfl hnL rfl hcat k
theorem cp_L_22 (X : CX κ G cc nL RL cx h) (d : Dc cc pc (.invokevirtual 22) 3 pc2) {q : Nat} {fs : List Value} {hc : Nat} {x0 x1 x2 : Value} {E : Int32} (hM : CI κ.1.2.1 yX6_grey cX6_grey 5 (some .int) hc G b N w [.ref (b + q), x0, x1, x2] (fun r w2 => r = E ∧ w2 = w)) (hR : hc + 1 ≤ h) (hq : q < N) (he : w q = .inr (6, fs)) (hnL : L.length = nL) (hcat : (st.map fun v => v.category).sum ≤ 8) (k : V κ G b (N, 0, 0) w pc2 L (.int E :: st)) : V κ G b (N, 0, 0) w pc L (x2 :: x1 :: x0 :: .ref (b + q) :: st) := cv_L_22 X d hM hR hq he hnL hcat (fun r w2 hp => by rw [hp.1, hp.2]; exact k)
theorem cv_L_23 (X : CX κ G cc nL RL cx h) (d : Dc cc pc (.invokevirtual 23) 3 pc2) {q : Nat} {fs : List Value} {hc : Nat} {x0 x1 x2 : Value} {post : Int32 → Wd → Prop} (hM : CI κ.1.2.1 yX5_mark cX5_mark 4 (some .int) hc G b N w [.ref (b + q), x0, x1, x2] post) (hR : hc + 1 ≤ h) (hq : q < N) (he : w q = .inr (5, fs)) (hnL : L.length = nL) (hcat : (st.map fun v => v.category).sum ≤ 8) (k : ∀ (r : Int32) (w2 : Wd), post r w2 → V κ G b (N, 0, 0) w2 pc2 L (.int r :: st)) : V κ G b (N, 0, 0) w pc L (x2 :: x1 :: x0 :: .ref (b + q) :: st) := r_callVi (n := 3) X hM d qw_138 qw_139 qw_140 qw_2 qw_141 (by decide +kernel) rfl hR (by decide) hq he rfl hnL rfl hcat k
theorem cp_L_23 (X : CX κ G cc nL RL cx h) (d : Dc cc pc (.invokevirtual 23) 3 pc2) {q : Nat} {fs : List Value} {hc : Nat} {x0 x1 x2 : Value} {E : Int32} (hM : CI κ.1.2.1 yX5_mark cX5_mark 4 (some .int) hc G b N w [.ref (b + q), x0, x1, x2] (fun r w2 => r = E ∧ w2 = w)) (hR : hc + 1 ≤ h) (hq : q < N) (he : w q = .inr (5, fs)) (hnL : L.length = nL) (hcat : (st.map fun v => v.category).sum ≤ 8) (k : V κ G b (N, 0, 0) w pc2 L (.int E :: st)) : V κ G b (N, 0, 0) w pc L (x2 :: x1 :: x0 :: .ref (b + q) :: st) := cv_L_23 X d hM hR hq he hnL hcat (fun r w2 hp => by rw [hp.1, hp.2]; exact k)
theorem cv_L_26 (X : CX κ G cc nL RL cx h) (d : Dc cc pc (.invokevirtual 26) 3 pc2) {q : Nat} {fs : List Value} {hc : Nat} {x0 x1 x2 : Value} {post : Int32 → Wd → Prop} (hM : CI κ.1.2.1 yX6_mark cX6_mark 5 (some .int) hc G b N w [.ref (b + q), x0, x1, x2] post) (hR : hc + 1 ≤ h) (hq : q < N) (he : w q = .inr (6, fs)) (hnL : L.length = nL) (hcat : (st.map fun v => v.category).sum ≤ 8) (k : ∀ (r : Int32) (w2 : Wd), post r w2 → V κ G b (N, 0, 0) w2 pc2 L (.int r :: st)) : V κ G b (N, 0, 0) w pc L (x2 :: x1 :: x0 :: .ref (b + q) :: st) := r_callVi (n := 3) X hM d qw_146 qw_147 qw_148 qw_5 qw_149 (by decide +kernel) rfl hR (by decide) hq he rfl hnL rfl hcat k
theorem cp_L_26 (X : CX κ G cc nL RL cx h) (d : Dc cc pc (.invokevirtual 26) 3 pc2) {q : Nat} {fs : List Value} {hc : Nat} {x0 x1 x2 : Value} {E : Int32} (hM : CI κ.1.2.1 yX6_mark cX6_mark 5 (some .int) hc G b N w [.ref (b + q), x0, x1, x2] (fun r w2 => r = E ∧ w2 = w)) (hR : hc + 1 ≤ h) (hq : q < N) (he : w q = .inr (6, fs)) (hnL : L.length = nL) (hcat : (st.map fun v => v.category).sum ≤ 8) (k : V κ G b (N, 0, 0) w pc2 L (.int E :: st)) : V κ G b (N, 0, 0) w pc L (x2 :: x1 :: x0 :: .ref (b + q) :: st) := cv_L_26 X d hM hR hq he hnL hcat (fun r w2 hp => by rw [hp.1, hp.2]; exact k)
theorem cv_L_27 (X : CX κ G cc nL RL cx h) (d : Dc cc pc (.invokevirtual 27) 3 pc2) {q : Nat} {fs : List Value} {hc : Nat} {x0 : Value} {post : Int32 → Wd → Prop} (hM : CI κ.1.2.1 yX5_rule cX5_rule 3 (some .int) hc G b N w [.ref (b + q), x0] post) (hR : hc + 1 ≤ h) (hq : q < N) (he : w q = .inr (5, fs)) (hnL : L.length = nL) (hcat : (st.map fun v => v.category).sum ≤ 8) (k : ∀ (r : Int32) (w2 : Wd), post r w2 → V κ G b (N, 0, 0) w2 pc2 L (.int r :: st)) : V κ G b (N, 0, 0) w pc L (x0 :: .ref (b + q) :: st) := r_callVi (n := 1) X hM d qw_150 qw_151 qw_152 qw_2 qw_153 (by decide +kernel) rfl hR (by decide) hq he rfl hnL rfl hcat k
theorem cp_L_27 (X : CX κ G cc nL RL cx h) (d : Dc cc pc (.invokevirtual 27) 3 pc2) {q : Nat} {fs : List Value} {hc : Nat} {x0 : Value} {E : Int32} (hM : CI κ.1.2.1 yX5_rule cX5_rule 3 (some .int) hc G b N w [.ref (b + q), x0] (fun r w2 => r = E ∧ w2 = w)) (hR : hc + 1 ≤ h) (hq : q < N) (he : w q = .inr (5, fs)) (hnL : L.length = nL) (hcat : (st.map fun v => v.category).sum ≤ 8) (k : V κ G b (N, 0, 0) w pc2 L (.int E :: st)) : V κ G b (N, 0, 0) w pc L (x0 :: .ref (b + q) :: st) := cv_L_27 X d hM hR hq he hnL hcat (fun r w2 hp => by rw [hp.1, hp.2]; exact k)
theorem cv_L_31 (X : CX κ G cc nL RL cx h) (d : Dc cc pc (.invokevirtual 31) 3 pc2) {q : Nat} {fs : List Value} {hc : Nat} {x0 : Value} {post : Int32 → Wd → Prop} (hM : CI κ.1.2.1 yX6_rule cX6_rule 3 (some .int) hc G b N w [.ref (b + q), x0] post) (hR : hc + 1 ≤ h) (hq : q < N) (he : w q = .inr (6, fs)) (hnL : L.length = nL) (hcat : (st.map fun v => v.category).sum ≤ 8) (k : ∀ (r : Int32) (w2 : Wd), post r w2 → V κ G b (N, 0, 0) w2 pc2 L (.int r :: st)) : V κ G b (N, 0, 0) w pc L (x0 :: .ref (b + q) :: st) := r_callVi (n := 1) X hM d qw_158 qw_159 qw_160 qw_5 qw_161 (by decide +kernel) rfl hR (by decide) hq he rfl hnL rfl hcat k
theorem cp_L_31 (X : CX κ G cc nL RL cx h) (d : Dc cc pc (.invokevirtual 31) 3 pc2) {q : Nat} {fs : List Value} {hc : Nat} {x0 : Value} {E : Int32} (hM : CI κ.1.2.1 yX6_rule cX6_rule 3 (some .int) hc G b N w [.ref (b + q), x0] (fun r w2 => r = E ∧ w2 = w)) (hR : hc + 1 ≤ h) (hq : q < N) (he : w q = .inr (6, fs)) (hnL : L.length = nL) (hcat : (st.map fun v => v.category).sum ≤ 8) (k : V κ G b (N, 0, 0) w pc2 L (.int E :: st)) : V κ G b (N, 0, 0) w pc L (x0 :: .ref (b + q) :: st) := cv_L_31 X d hM hR hq he hnL hcat (fun r w2 hp => by rw [hp.1, hp.2]; exact k)
theorem cv_L_32 (X : CX κ G cc nL RL cx h) (d : Dc cc pc (.invokevirtual 32) 3 pc2) {q : Nat} {fs : List Value} {hc : Nat} {x0 x1 x2 : Value} {post : Int32 → Wd → Prop} (hM : CI κ.1.2.1 yX5_dot cX5_dot 4 (some .int) hc G b N w [.ref (b + q), x0, x1, x2] post) (hR : hc + 1 ≤ h) (hq : q < N) (he : w q = .inr (5, fs)) (hnL : L.length = nL) (hcat : (st.map fun v => v.category).sum ≤ 8) (k : ∀ (r : Int32) (w2 : Wd), post r w2 → V κ G b (N, 0, 0) w2 pc2 L (.int r :: st)) : V κ G b (N, 0, 0) w pc L (x2 :: x1 :: x0 :: .ref (b + q) :: st) := r_callVi (n := 3) X hM d qw_162 qw_163 qw_164 qw_2 qw_165 (by decide +kernel) rfl hR (by decide) hq he rfl hnL rfl hcat k
theorem cp_L_32 (X : CX κ G cc nL RL cx h) (d : Dc cc pc (.invokevirtual 32) 3 pc2) {q : Nat} {fs : List Value} {hc : Nat} {x0 x1 x2 : Value} {E : Int32} (hM : CI κ.1.2.1 yX5_dot cX5_dot 4 (some .int) hc G b N w [.ref (b + q), x0, x1, x2] (fun r w2 => r = E ∧ w2 = w)) (hR : hc + 1 ≤ h) (hq : q < N) (he : w q = .inr (5, fs)) (hnL : L.length = nL) (hcat : (st.map fun v => v.category).sum ≤ 8) (k : V κ G b (N, 0, 0) w pc2 L (.int E :: st)) : V κ G b (N, 0, 0) w pc L (x2 :: x1 :: x0 :: .ref (b + q) :: st) := cv_L_32 X d hM hR hq he hnL hcat (fun r w2 hp => by rw [hp.1, hp.2]; exact k)
theorem cv_L_35 (X : CX κ G cc nL RL cx h) (d : Dc cc pc (.invokevirtual 35) 3 pc2) {q : Nat} {fs : List Value} {hc : Nat} {x0 x1 x2 : Value} {post : Int32 → Wd → Prop} (hM : CI κ.1.2.1 yX6_dot cX6_dot 4 (some .int) hc G b N w [.ref (b + q), x0, x1, x2] post) (hR : hc + 1 ≤ h) (hq : q < N) (he : w q = .inr (6, fs)) (hnL : L.length = nL) (hcat : (st.map fun v => v.category).sum ≤ 8) (k : ∀ (r : Int32) (w2 : Wd), post r w2 → V κ G b (N, 0, 0) w2 pc2 L (.int r :: st)) : V κ G b (N, 0, 0) w pc L (x2 :: x1 :: x0 :: .ref (b + q) :: st) := r_callVi (n := 3) X hM d qw_205 qw_206 qw_207 qw_5 qw_208 (by decide +kernel) rfl hR (by decide) hq he rfl hnL rfl hcat k
theorem cp_L_35 (X : CX κ G cc nL RL cx h) (d : Dc cc pc (.invokevirtual 35) 3 pc2) {q : Nat} {fs : List Value} {hc : Nat} {x0 x1 x2 : Value} {E : Int32} (hM : CI κ.1.2.1 yX6_dot cX6_dot 4 (some .int) hc G b N w [.ref (b + q), x0, x1, x2] (fun r w2 => r = E ∧ w2 = w)) (hR : hc + 1 ≤ h) (hq : q < N) (he : w q = .inr (6, fs)) (hnL : L.length = nL) (hcat : (st.map fun v => v.category).sum ≤ 8) (k : V κ G b (N, 0, 0) w pc2 L (.int E :: st)) : V κ G b (N, 0, 0) w pc L (x2 :: x1 :: x0 :: .ref (b + q) :: st) := cv_L_35 X d hM hR hq he hnL hcat (fun r w2 hp => by rw [hp.1, hp.2]; exact k)
theorem cv_L_36 (X : CX κ G cc nL RL cx h) (d : Dc cc pc (.invokevirtual 36) 3 pc2) {q : Nat} {fs : List Value} {hc : Nat} {x0 : Value} {post : Int32 → Wd → Prop} (hM : CI κ.1.2.1 yX5_say cX5_say 2 (some .int) hc G b N w [.ref (b + q), x0] post) (hR : hc + 1 ≤ h) (hq : q < N) (he : w q = .inr (5, fs)) (hnL : L.length = nL) (hcat : (st.map fun v => v.category).sum ≤ 8) (k : ∀ (r : Int32) (w2 : Wd), post r w2 → V κ G b (N, 0, 0) w2 pc2 L (.int r :: st)) : V κ G b (N, 0, 0) w pc L (x0 :: .ref (b + q) :: st) := r_callVi (n := 1) X hM d qw_254 qw_255 qw_256 qw_2 qw_257 (by decide +kernel) rfl hR (by decide) hq he rfl hnL rfl hcat k
theorem cp_L_36 (X : CX κ G cc nL RL cx h) (d : Dc cc pc (.invokevirtual 36) 3 pc2) {q : Nat} {fs : List Value} {hc : Nat} {x0 : Value} {E : Int32} (hM : CI κ.1.2.1 yX5_say cX5_say 2 (some .int) hc G b N w [.ref (b + q), x0] (fun r w2 => r = E ∧ w2 = w)) (hR : hc + 1 ≤ h) (hq : q < N) (he : w q = .inr (5, fs)) (hnL : L.length = nL) (hcat : (st.map fun v => v.category).sum ≤ 8) (k : V κ G b (N, 0, 0) w pc2 L (.int E :: st)) : V κ G b (N, 0, 0) w pc L (x0 :: .ref (b + q) :: st) := cv_L_36 X d hM hR hq he hnL hcat (fun r w2 hp => by rw [hp.1, hp.2]; exact k)
theorem cv_L_39 (X : CX κ G cc nL RL cx h) (d : Dc cc pc (.invokevirtual 39) 3 pc2) {q : Nat} {fs : List Value} {hc : Nat} {x0 : Value} {post : Int32 → Wd → Prop} (hM : CI κ.1.2.1 yX6_say cX6_say 2 (some .int) hc G b N w [.ref (b + q), x0] post) (hR : hc + 1 ≤ h) (hq : q < N) (he : w q = .inr (6, fs)) (hnL : L.length = nL) (hcat : (st.map fun v => v.category).sum ≤ 8) (k : ∀ (r : Int32) (w2 : Wd), post r w2 → V κ G b (N, 0, 0) w2 pc2 L (.int r :: st)) : V κ G b (N, 0, 0) w pc L (x0 :: .ref (b + q) :: st) := r_callVi (n := 1) X hM d qw_267 qw_268 qw_269 qw_5 qw_270 (by decide +kernel) rfl hR (by decide) hq he rfl hnL rfl hcat k
theorem cp_L_39 (X : CX κ G cc nL RL cx h) (d : Dc cc pc (.invokevirtual 39) 3 pc2) {q : Nat} {fs : List Value} {hc : Nat} {x0 : Value} {E : Int32} (hM : CI κ.1.2.1 yX6_say cX6_say 2 (some .int) hc G b N w [.ref (b + q), x0] (fun r w2 => r = E ∧ w2 = w)) (hR : hc + 1 ≤ h) (hq : q < N) (he : w q = .inr (6, fs)) (hnL : L.length = nL) (hcat : (st.map fun v => v.category).sum ≤ 8) (k : V κ G b (N, 0, 0) w pc2 L (.int E :: st)) : V κ G b (N, 0, 0) w pc L (x0 :: .ref (b + q) :: st) := cv_L_39 X d hM hR hq he hnL hcat (fun r w2 hp => by rw [hp.1, hp.2]; exact k)
theorem cv_L_40 (X : CX κ G cc nL RL cx h) (d : Dc cc pc (.invokevirtual 40) 3 pc2) {q : Nat} {fs : List Value} {hc : Nat} {post : Int32 → Wd → Prop} (hM : CI κ.1.2.1 yX5_wipe cX5_wipe 1 (some .int) hc G b N w [.ref (b + q)] post) (hR : hc + 1 ≤ h) (hq : q < N) (he : w q = .inr (5, fs)) (hnL : L.length = nL) (hcat : (st.map fun v => v.category).sum ≤ 8) (k : ∀ (r : Int32) (w2 : Wd), post r w2 → V κ G b (N, 0, 0) w2 pc2 L (.int r :: st)) : V κ G b (N, 0, 0) w pc L (.ref (b + q) :: st) := r_callVi (n := 0) X hM d qw_272 qw_273 qw_274 qw_2 qw_275 (by decide +kernel) rfl hR (by decide) hq he rfl hnL rfl hcat k
theorem cp_L_40 (X : CX κ G cc nL RL cx h) (d : Dc cc pc (.invokevirtual 40) 3 pc2) {q : Nat} {fs : List Value} {hc : Nat} {E : Int32} (hM : CI κ.1.2.1 yX5_wipe cX5_wipe 1 (some .int) hc G b N w [.ref (b + q)] (fun r w2 => r = E ∧ w2 = w)) (hR : hc + 1 ≤ h) (hq : q < N) (he : w q = .inr (5, fs)) (hnL : L.length = nL) (hcat : (st.map fun v => v.category).sum ≤ 8) (k : V κ G b (N, 0, 0) w pc2 L (.int E :: st)) : V κ G b (N, 0, 0) w pc L (.ref (b + q) :: st) := cv_L_40 X d hM hR hq he hnL hcat (fun r w2 hp => by rw [hp.1, hp.2]; exact k)
theorem cv_L_44 (X : CX κ G cc nL RL cx h) (d : Dc cc pc (.invokevirtual 44) 3 pc2) {q : Nat} {fs : List Value} {hc : Nat} {post : Int32 → Wd → Prop} (hM : CI κ.1.2.1 yX6_wipe cX6_wipe 2 (some .int) hc G b N w [.ref (b + q)] post) (hR : hc + 1 ≤ h) (hq : q < N) (he : w q = .inr (6, fs)) (hnL : L.length = nL) (hcat : (st.map fun v => v.category).sum ≤ 8) (k : ∀ (r : Int32) (w2 : Wd), post r w2 → V κ G b (N, 0, 0) w2 pc2 L (.int r :: st)) : V κ G b (N, 0, 0) w pc L (.ref (b + q) :: st) := r_callVi (n := 0) X hM d qw_280 qw_281 qw_282 qw_5 qw_283 (by decide +kernel) rfl hR (by decide) hq he rfl hnL rfl hcat k
theorem cp_L_44 (X : CX κ G cc nL RL cx h) (d : Dc cc pc (.invokevirtual 44) 3 pc2) {q : Nat} {fs : List Value} {hc : Nat} {E : Int32} (hM : CI κ.1.2.1 yX6_wipe cX6_wipe 2 (some .int) hc G b N w [.ref (b + q)] (fun r w2 => r = E ∧ w2 = w)) (hR : hc + 1 ≤ h) (hq : q < N) (he : w q = .inr (6, fs)) (hnL : L.length = nL) (hcat : (st.map fun v => v.category).sum ≤ 8) (k : V κ G b (N, 0, 0) w pc2 L (.int E :: st)) : V κ G b (N, 0, 0) w pc L (.ref (b + q) :: st) := cv_L_44 X d hM hR hq he hnL hcat (fun r w2 hp => by rw [hp.1, hp.2]; exact k)
theorem cv_L_45 (X : CX κ G cc nL RL cx h) (d : Dc cc pc (.invokevirtual 45) 3 pc2) {q : Nat} {fs : List Value} {hc : Nat} {x0 : Value} {post : Int32 → Wd → Prop} (hM : CI κ.1.2.1 yX5_fault cX5_fault 2 (some .int) hc G b N w [.ref (b + q), x0] post) (hR : hc + 1 ≤ h) (hq : q < N) (he : w q = .inr (5, fs)) (hnL : L.length = nL) (hcat : (st.map fun v => v.category).sum ≤ 8) (k : ∀ (r : Int32) (w2 : Wd), post r w2 → V κ G b (N, 0, 0) w2 pc2 L (.int r :: st)) : V κ G b (N, 0, 0) w pc L (x0 :: .ref (b + q) :: st) := r_callVi (n := 1) X hM d qw_284 qw_285 qw_286 qw_2 qw_287 (by decide +kernel) rfl hR (by decide) hq he rfl hnL rfl hcat k
theorem cp_L_45 (X : CX κ G cc nL RL cx h) (d : Dc cc pc (.invokevirtual 45) 3 pc2) {q : Nat} {fs : List Value} {hc : Nat} {x0 : Value} {E : Int32} (hM : CI κ.1.2.1 yX5_fault cX5_fault 2 (some .int) hc G b N w [.ref (b + q), x0] (fun r w2 => r = E ∧ w2 = w)) (hR : hc + 1 ≤ h) (hq : q < N) (he : w q = .inr (5, fs)) (hnL : L.length = nL) (hcat : (st.map fun v => v.category).sum ≤ 8) (k : V κ G b (N, 0, 0) w pc2 L (.int E :: st)) : V κ G b (N, 0, 0) w pc L (x0 :: .ref (b + q) :: st) := cv_L_45 X d hM hR hq he hnL hcat (fun r w2 hp => by rw [hp.1, hp.2]; exact k)
theorem cv_L_48 (X : CX κ G cc nL RL cx h) (d : Dc cc pc (.invokevirtual 48) 3 pc2) {q : Nat} {fs : List Value} {hc : Nat} {x0 : Value} {post : Int32 → Wd → Prop} (hM : CI κ.1.2.1 yX6_fault cX6_fault 2 (some .int) hc G b N w [.ref (b + q), x0] post) (hR : hc + 1 ≤ h) (hq : q < N) (he : w q = .inr (6, fs)) (hnL : L.length = nL) (hcat : (st.map fun v => v.category).sum ≤ 8) (k : ∀ (r : Int32) (w2 : Wd), post r w2 → V κ G b (N, 0, 0) w2 pc2 L (.int r :: st)) : V κ G b (N, 0, 0) w pc L (x0 :: .ref (b + q) :: st) := r_callVi (n := 1) X hM d qw_298 qw_299 qw_300 qw_5 qw_301 (by decide +kernel) rfl hR (by decide) hq he rfl hnL rfl hcat k
theorem cp_L_48 (X : CX κ G cc nL RL cx h) (d : Dc cc pc (.invokevirtual 48) 3 pc2) {q : Nat} {fs : List Value} {hc : Nat} {x0 : Value} {E : Int32} (hM : CI κ.1.2.1 yX6_fault cX6_fault 2 (some .int) hc G b N w [.ref (b + q), x0] (fun r w2 => r = E ∧ w2 = w)) (hR : hc + 1 ≤ h) (hq : q < N) (he : w q = .inr (6, fs)) (hnL : L.length = nL) (hcat : (st.map fun v => v.category).sum ≤ 8) (k : V κ G b (N, 0, 0) w pc2 L (.int E :: st)) : V κ G b (N, 0, 0) w pc L (x0 :: .ref (b + q) :: st) := cv_L_48 X d hM hR hq he hnL hcat (fun r w2 hp => by rw [hp.1, hp.2]; exact k)
theorem cv_L_49 (X : CX κ G cc nL RL cx h) (d : Dc cc pc (.invokevirtual 49) 3 pc2) {q : Nat} {fs : List Value} {hc : Nat} {x0 : Value} {post : Int32 → Wd → Prop} (hM : CI κ.1.2.1 yX5_lay cX5_lay 3 (some .int) hc G b N w [.ref (b + q), x0] post) (hR : hc + 1 ≤ h) (hq : q < N) (he : w q = .inr (5, fs)) (hnL : L.length = nL) (hcat : (st.map fun v => v.category).sum ≤ 8) (k : ∀ (r : Int32) (w2 : Wd), post r w2 → V κ G b (N, 0, 0) w2 pc2 L (.int r :: st)) : V κ G b (N, 0, 0) w pc L (x0 :: .ref (b + q) :: st) := r_callVi (n := 1) X hM d qw_318 qw_319 qw_320 qw_2 qw_321 (by decide +kernel) rfl hR (by decide) hq he rfl hnL rfl hcat k
theorem cp_L_49 (X : CX κ G cc nL RL cx h) (d : Dc cc pc (.invokevirtual 49) 3 pc2) {q : Nat} {fs : List Value} {hc : Nat} {x0 : Value} {E : Int32} (hM : CI κ.1.2.1 yX5_lay cX5_lay 3 (some .int) hc G b N w [.ref (b + q), x0] (fun r w2 => r = E ∧ w2 = w)) (hR : hc + 1 ≤ h) (hq : q < N) (he : w q = .inr (5, fs)) (hnL : L.length = nL) (hcat : (st.map fun v => v.category).sum ≤ 8) (k : V κ G b (N, 0, 0) w pc2 L (.int E :: st)) : V κ G b (N, 0, 0) w pc L (x0 :: .ref (b + q) :: st) := cv_L_49 X d hM hR hq he hnL hcat (fun r w2 hp => by rw [hp.1, hp.2]; exact k)
theorem cv_L_52 (X : CX κ G cc nL RL cx h) (d : Dc cc pc (.invokevirtual 52) 3 pc2) {q : Nat} {fs : List Value} {hc : Nat} {x0 : Value} {post : Int32 → Wd → Prop} (hM : CI κ.1.2.1 yX6_lay cX6_lay 6 (some .int) hc G b N w [.ref (b + q), x0] post) (hR : hc + 1 ≤ h) (hq : q < N) (he : w q = .inr (6, fs)) (hnL : L.length = nL) (hcat : (st.map fun v => v.category).sum ≤ 8) (k : ∀ (r : Int32) (w2 : Wd), post r w2 → V κ G b (N, 0, 0) w2 pc2 L (.int r :: st)) : V κ G b (N, 0, 0) w pc L (x0 :: .ref (b + q) :: st) := r_callVi (n := 1) X hM d qw_330 qw_331 qw_332 qw_5 qw_333 (by decide +kernel) rfl hR (by decide) hq he rfl hnL rfl hcat k
theorem cp_L_52 (X : CX κ G cc nL RL cx h) (d : Dc cc pc (.invokevirtual 52) 3 pc2) {q : Nat} {fs : List Value} {hc : Nat} {x0 : Value} {E : Int32} (hM : CI κ.1.2.1 yX6_lay cX6_lay 6 (some .int) hc G b N w [.ref (b + q), x0] (fun r w2 => r = E ∧ w2 = w)) (hR : hc + 1 ≤ h) (hq : q < N) (he : w q = .inr (6, fs)) (hnL : L.length = nL) (hcat : (st.map fun v => v.category).sum ≤ 8) (k : V κ G b (N, 0, 0) w pc2 L (.int E :: st)) : V κ G b (N, 0, 0) w pc L (x0 :: .ref (b + q) :: st) := cv_L_52 X d hM hR hq he hnL hcat (fun r w2 hp => by rw [hp.1, hp.2]; exact k)
theorem cv_L_53 (X : CX κ G cc nL RL cx h) (d : Dc cc pc (.invokevirtual 53) 3 pc2) {q : Nat} {fs : List Value} {hc : Nat} {x0 x1 : Value} {post : Int32 → Wd → Prop} (hM : CI κ.1.2.1 yX5_seam cX5_seam 3 (some .int) hc G b N w [.ref (b + q), x0, x1] post) (hR : hc + 1 ≤ h) (hq : q < N) (he : w q = .inr (5, fs)) (hnL : L.length = nL) (hcat : (st.map fun v => v.category).sum ≤ 8) (k : ∀ (r : Int32) (w2 : Wd), post r w2 → V κ G b (N, 0, 0) w2 pc2 L (.int r :: st)) : V κ G b (N, 0, 0) w pc L (x1 :: x0 :: .ref (b + q) :: st) := r_callVi (n := 2) X hM d qw_334 qw_335 qw_336 qw_2 qw_337 (by decide +kernel) rfl hR (by decide) hq he rfl hnL rfl hcat k
theorem cp_L_53 (X : CX κ G cc nL RL cx h) (d : Dc cc pc (.invokevirtual 53) 3 pc2) {q : Nat} {fs : List Value} {hc : Nat} {x0 x1 : Value} {E : Int32} (hM : CI κ.1.2.1 yX5_seam cX5_seam 3 (some .int) hc G b N w [.ref (b + q), x0, x1] (fun r w2 => r = E ∧ w2 = w)) (hR : hc + 1 ≤ h) (hq : q < N) (he : w q = .inr (5, fs)) (hnL : L.length = nL) (hcat : (st.map fun v => v.category).sum ≤ 8) (k : V κ G b (N, 0, 0) w pc2 L (.int E :: st)) : V κ G b (N, 0, 0) w pc L (x1 :: x0 :: .ref (b + q) :: st) := cv_L_53 X d hM hR hq he hnL hcat (fun r w2 hp => by rw [hp.1, hp.2]; exact k)
theorem cv_L_56 (X : CX κ G cc nL RL cx h) (d : Dc cc pc (.invokevirtual 56) 3 pc2) {q : Nat} {fs : List Value} {hc : Nat} {x0 x1 : Value} {post : Int32 → Wd → Prop} (hM : CI κ.1.2.1 yX6_seam cX6_seam 3 (some .int) hc G b N w [.ref (b + q), x0, x1] post) (hR : hc + 1 ≤ h) (hq : q < N) (he : w q = .inr (6, fs)) (hnL : L.length = nL) (hcat : (st.map fun v => v.category).sum ≤ 8) (k : ∀ (r : Int32) (w2 : Wd), post r w2 → V κ G b (N, 0, 0) w2 pc2 L (.int r :: st)) : V κ G b (N, 0, 0) w pc L (x1 :: x0 :: .ref (b + q) :: st) := r_callVi (n := 2) X hM d qw_375 qw_376 qw_377 qw_5 qw_378 (by decide +kernel) rfl hR (by decide) hq he rfl hnL rfl hcat k
theorem cp_L_56 (X : CX κ G cc nL RL cx h) (d : Dc cc pc (.invokevirtual 56) 3 pc2) {q : Nat} {fs : List Value} {hc : Nat} {x0 x1 : Value} {E : Int32} (hM : CI κ.1.2.1 yX6_seam cX6_seam 3 (some .int) hc G b N w [.ref (b + q), x0, x1] (fun r w2 => r = E ∧ w2 = w)) (hR : hc + 1 ≤ h) (hq : q < N) (he : w q = .inr (6, fs)) (hnL : L.length = nL) (hcat : (st.map fun v => v.category).sum ≤ 8) (k : V κ G b (N, 0, 0) w pc2 L (.int E :: st)) : V κ G b (N, 0, 0) w pc L (x1 :: x0 :: .ref (b + q) :: st) := cv_L_56 X d hM hR hq he hnL hcat (fun r w2 hp => by rw [hp.1, hp.2]; exact k)
theorem cv_L_57 (X : CX κ G cc nL RL cx h) (d : Dc cc pc (.invokevirtual 57) 3 pc2) {q : Nat} {fs : List Value} {hc : Nat} {x0 x1 : Value} {post : Int32 → Wd → Prop} (hM : CI κ.1.2.1 yX5_cost cX5_cost 3 (some .int) hc G b N w [.ref (b + q), x0, x1] post) (hR : hc + 1 ≤ h) (hq : q < N) (he : w q = .inr (5, fs)) (hnL : L.length = nL) (hcat : (st.map fun v => v.category).sum ≤ 8) (k : ∀ (r : Int32) (w2 : Wd), post r w2 → V κ G b (N, 0, 0) w2 pc2 L (.int r :: st)) : V κ G b (N, 0, 0) w pc L (x1 :: x0 :: .ref (b + q) :: st) := r_callVi (n := 2) X hM d qw_403 qw_404 qw_405 qw_2 qw_406 (by decide +kernel) rfl hR (by decide) hq he rfl hnL rfl hcat k
theorem cp_L_57 (X : CX κ G cc nL RL cx h) (d : Dc cc pc (.invokevirtual 57) 3 pc2) {q : Nat} {fs : List Value} {hc : Nat} {x0 x1 : Value} {E : Int32} (hM : CI κ.1.2.1 yX5_cost cX5_cost 3 (some .int) hc G b N w [.ref (b + q), x0, x1] (fun r w2 => r = E ∧ w2 = w)) (hR : hc + 1 ≤ h) (hq : q < N) (he : w q = .inr (5, fs)) (hnL : L.length = nL) (hcat : (st.map fun v => v.category).sum ≤ 8) (k : V κ G b (N, 0, 0) w pc2 L (.int E :: st)) : V κ G b (N, 0, 0) w pc L (x1 :: x0 :: .ref (b + q) :: st) := cv_L_57 X d hM hR hq he hnL hcat (fun r w2 hp => by rw [hp.1, hp.2]; exact k)
theorem cv_L_60 (X : CX κ G cc nL RL cx h) (d : Dc cc pc (.invokevirtual 60) 3 pc2) {q : Nat} {fs : List Value} {hc : Nat} {x0 x1 : Value} {post : Int32 → Wd → Prop} (hM : CI κ.1.2.1 yX6_cost cX6_cost 5 (some .int) hc G b N w [.ref (b + q), x0, x1] post) (hR : hc + 1 ≤ h) (hq : q < N) (he : w q = .inr (6, fs)) (hnL : L.length = nL) (hcat : (st.map fun v => v.category).sum ≤ 8) (k : ∀ (r : Int32) (w2 : Wd), post r w2 → V κ G b (N, 0, 0) w2 pc2 L (.int r :: st)) : V κ G b (N, 0, 0) w pc L (x1 :: x0 :: .ref (b + q) :: st) := r_callVi (n := 2) X hM d qw_420 qw_421 qw_422 qw_5 qw_423 (by decide +kernel) rfl hR (by decide) hq he rfl hnL rfl hcat k
theorem cp_L_60 (X : CX κ G cc nL RL cx h) (d : Dc cc pc (.invokevirtual 60) 3 pc2) {q : Nat} {fs : List Value} {hc : Nat} {x0 x1 : Value} {E : Int32} (hM : CI κ.1.2.1 yX6_cost cX6_cost 5 (some .int) hc G b N w [.ref (b + q), x0, x1] (fun r w2 => r = E ∧ w2 = w)) (hR : hc + 1 ≤ h) (hq : q < N) (he : w q = .inr (6, fs)) (hnL : L.length = nL) (hcat : (st.map fun v => v.category).sum ≤ 8) (k : V κ G b (N, 0, 0) w pc2 L (.int E :: st)) : V κ G b (N, 0, 0) w pc L (x1 :: x0 :: .ref (b + q) :: st) := cv_L_60 X d hM hR hq he hnL hcat (fun r w2 hp => by rw [hp.1, hp.2]; exact k)
theorem cv_L_61 (X : CX κ G cc nL RL cx h) (d : Dc cc pc (.invokevirtual 61) 3 pc2) {q : Nat} {fs : List Value} {hc : Nat} {x0 : Value} {post : Int32 → Wd → Prop} (hM : CI κ.1.2.1 yX5_cut cX5_cut 2 (some .int) hc G b N w [.ref (b + q), x0] post) (hR : hc + 1 ≤ h) (hq : q < N) (he : w q = .inr (5, fs)) (hnL : L.length = nL) (hcat : (st.map fun v => v.category).sum ≤ 8) (k : ∀ (r : Int32) (w2 : Wd), post r w2 → V κ G b (N, 0, 0) w2 pc2 L (.int r :: st)) : V κ G b (N, 0, 0) w pc L (x0 :: .ref (b + q) :: st) := r_callVi (n := 1) X hM d qw_428 qw_429 qw_430 qw_2 qw_431 (by decide +kernel) rfl hR (by decide) hq he rfl hnL rfl hcat k
theorem cp_L_61 (X : CX κ G cc nL RL cx h) (d : Dc cc pc (.invokevirtual 61) 3 pc2) {q : Nat} {fs : List Value} {hc : Nat} {x0 : Value} {E : Int32} (hM : CI κ.1.2.1 yX5_cut cX5_cut 2 (some .int) hc G b N w [.ref (b + q), x0] (fun r w2 => r = E ∧ w2 = w)) (hR : hc + 1 ≤ h) (hq : q < N) (he : w q = .inr (5, fs)) (hnL : L.length = nL) (hcat : (st.map fun v => v.category).sum ≤ 8) (k : V κ G b (N, 0, 0) w pc2 L (.int E :: st)) : V κ G b (N, 0, 0) w pc L (x0 :: .ref (b + q) :: st) := cv_L_61 X d hM hR hq he hnL hcat (fun r w2 hp => by rw [hp.1, hp.2]; exact k)
theorem cv_L_64 (X : CX κ G cc nL RL cx h) (d : Dc cc pc (.invokevirtual 64) 3 pc2) {q : Nat} {fs : List Value} {hc : Nat} {x0 : Value} {post : Int32 → Wd → Prop} (hM : CI κ.1.2.1 yX6_cut cX6_cut 3 (some .int) hc G b N w [.ref (b + q), x0] post) (hR : hc + 1 ≤ h) (hq : q < N) (he : w q = .inr (6, fs)) (hnL : L.length = nL) (hcat : (st.map fun v => v.category).sum ≤ 8) (k : ∀ (r : Int32) (w2 : Wd), post r w2 → V κ G b (N, 0, 0) w2 pc2 L (.int r :: st)) : V κ G b (N, 0, 0) w pc L (x0 :: .ref (b + q) :: st) := r_callVi (n := 1) X hM d qw_448 qw_449 qw_450 qw_5 qw_451 (by decide +kernel) rfl hR (by decide) hq he rfl hnL rfl hcat k
theorem cp_L_64 (X : CX κ G cc nL RL cx h) (d : Dc cc pc (.invokevirtual 64) 3 pc2) {q : Nat} {fs : List Value} {hc : Nat} {x0 : Value} {E : Int32} (hM : CI κ.1.2.1 yX6_cut cX6_cut 3 (some .int) hc G b N w [.ref (b + q), x0] (fun r w2 => r = E ∧ w2 = w)) (hR : hc + 1 ≤ h) (hq : q < N) (he : w q = .inr (6, fs)) (hnL : L.length = nL) (hcat : (st.map fun v => v.category).sum ≤ 8) (k : V κ G b (N, 0, 0) w pc2 L (.int E :: st)) : V κ G b (N, 0, 0) w pc L (x0 :: .ref (b + q) :: st) := cv_L_64 X d hM hR hq he hnL hcat (fun r w2 hp => by rw [hp.1, hp.2]; exact k)
theorem cv_L_65 (X : CX κ G cc nL RL cx h) (d : Dc cc pc (.invokevirtual 65) 3 pc2) {q : Nat} {fs : List Value} {hc : Nat} {x0 : Value} {post : Int32 → Wd → Prop} (hM : CI κ.1.2.1 yX5_add cX5_add 2 (some .int) hc G b N w [.ref (b + q), x0] post) (hR : hc + 1 ≤ h) (hq : q < N) (he : w q = .inr (5, fs)) (hnL : L.length = nL) (hcat : (st.map fun v => v.category).sum ≤ 8) (k : ∀ (r : Int32) (w2 : Wd), post r w2 → V κ G b (N, 0, 0) w2 pc2 L (.int r :: st)) : V κ G b (N, 0, 0) w pc L (x0 :: .ref (b + q) :: st) := r_callVi (n := 1) X hM d qw_473 qw_474 qw_475 qw_2 qw_476 (by decide +kernel) rfl hR (by decide) hq he rfl hnL rfl hcat k
theorem cp_L_65 (X : CX κ G cc nL RL cx h) (d : Dc cc pc (.invokevirtual 65) 3 pc2) {q : Nat} {fs : List Value} {hc : Nat} {x0 : Value} {E : Int32} (hM : CI κ.1.2.1 yX5_add cX5_add 2 (some .int) hc G b N w [.ref (b + q), x0] (fun r w2 => r = E ∧ w2 = w)) (hR : hc + 1 ≤ h) (hq : q < N) (he : w q = .inr (5, fs)) (hnL : L.length = nL) (hcat : (st.map fun v => v.category).sum ≤ 8) (k : V κ G b (N, 0, 0) w pc2 L (.int E :: st)) : V κ G b (N, 0, 0) w pc L (x0 :: .ref (b + q) :: st) := cv_L_65 X d hM hR hq he hnL hcat (fun r w2 hp => by rw [hp.1, hp.2]; exact k)
theorem cv_L_68 (X : CX κ G cc nL RL cx h) (d : Dc cc pc (.invokevirtual 68) 3 pc2) {q : Nat} {fs : List Value} {hc : Nat} {x0 : Value} {post : Int32 → Wd → Prop} (hM : CI κ.1.2.1 yX6_add cX6_add 2 (some .int) hc G b N w [.ref (b + q), x0] post) (hR : hc + 1 ≤ h) (hq : q < N) (he : w q = .inr (6, fs)) (hnL : L.length = nL) (hcat : (st.map fun v => v.category).sum ≤ 8) (k : ∀ (r : Int32) (w2 : Wd), post r w2 → V κ G b (N, 0, 0) w2 pc2 L (.int r :: st)) : V κ G b (N, 0, 0) w pc L (x0 :: .ref (b + q) :: st) := r_callVi (n := 1) X hM d qw_482 qw_483 qw_484 qw_5 qw_485 (by decide +kernel) rfl hR (by decide) hq he rfl hnL rfl hcat k
theorem cp_L_68 (X : CX κ G cc nL RL cx h) (d : Dc cc pc (.invokevirtual 68) 3 pc2) {q : Nat} {fs : List Value} {hc : Nat} {x0 : Value} {E : Int32} (hM : CI κ.1.2.1 yX6_add cX6_add 2 (some .int) hc G b N w [.ref (b + q), x0] (fun r w2 => r = E ∧ w2 = w)) (hR : hc + 1 ≤ h) (hq : q < N) (he : w q = .inr (6, fs)) (hnL : L.length = nL) (hcat : (st.map fun v => v.category).sum ≤ 8) (k : V κ G b (N, 0, 0) w pc2 L (.int E :: st)) : V κ G b (N, 0, 0) w pc L (x0 :: .ref (b + q) :: st) := cv_L_68 X d hM hR hq he hnL hcat (fun r w2 hp => by rw [hp.1, hp.2]; exact k)
theorem cv_L_69 (X : CX κ G cc nL RL cx h) (d : Dc cc pc (.invokevirtual 69) 3 pc2) {q : Nat} {fs : List Value} {hc : Nat} {x0 x1 : Value} {post : Int32 → Wd → Prop} (hM : CI κ.1.2.1 yX5_least cX5_least 3 (some .int) hc G b N w [.ref (b + q), x0, x1] post) (hR : hc + 1 ≤ h) (hq : q < N) (he : w q = .inr (5, fs)) (hnL : L.length = nL) (hcat : (st.map fun v => v.category).sum ≤ 8) (k : ∀ (r : Int32) (w2 : Wd), post r w2 → V κ G b (N, 0, 0) w2 pc2 L (.int r :: st)) : V κ G b (N, 0, 0) w pc L (x1 :: x0 :: .ref (b + q) :: st) := r_callVi (n := 2) X hM d qw_490 qw_491 qw_492 qw_2 qw_493 (by decide +kernel) rfl hR (by decide) hq he rfl hnL rfl hcat k
theorem cp_L_69 (X : CX κ G cc nL RL cx h) (d : Dc cc pc (.invokevirtual 69) 3 pc2) {q : Nat} {fs : List Value} {hc : Nat} {x0 x1 : Value} {E : Int32} (hM : CI κ.1.2.1 yX5_least cX5_least 3 (some .int) hc G b N w [.ref (b + q), x0, x1] (fun r w2 => r = E ∧ w2 = w)) (hR : hc + 1 ≤ h) (hq : q < N) (he : w q = .inr (5, fs)) (hnL : L.length = nL) (hcat : (st.map fun v => v.category).sum ≤ 8) (k : V κ G b (N, 0, 0) w pc2 L (.int E :: st)) : V κ G b (N, 0, 0) w pc L (x1 :: x0 :: .ref (b + q) :: st) := cv_L_69 X d hM hR hq he hnL hcat (fun r w2 hp => by rw [hp.1, hp.2]; exact k)
theorem cv_L_72 (X : CX κ G cc nL RL cx h) (d : Dc cc pc (.invokevirtual 72) 3 pc2) {q : Nat} {fs : List Value} {hc : Nat} {x0 x1 : Value} {post : Int32 → Wd → Prop} (hM : CI κ.1.2.1 yX6_least cX6_least 5 (some .int) hc G b N w [.ref (b + q), x0, x1] post) (hR : hc + 1 ≤ h) (hq : q < N) (he : w q = .inr (6, fs)) (hnL : L.length = nL) (hcat : (st.map fun v => v.category).sum ≤ 8) (k : ∀ (r : Int32) (w2 : Wd), post r w2 → V κ G b (N, 0, 0) w2 pc2 L (.int r :: st)) : V κ G b (N, 0, 0) w pc L (x1 :: x0 :: .ref (b + q) :: st) := r_callVi (n := 2) X hM d qw_503 qw_504 qw_505 qw_5 qw_506 (by decide +kernel) rfl hR (by decide) hq he rfl hnL rfl hcat k
theorem cp_L_72 (X : CX κ G cc nL RL cx h) (d : Dc cc pc (.invokevirtual 72) 3 pc2) {q : Nat} {fs : List Value} {hc : Nat} {x0 x1 : Value} {E : Int32} (hM : CI κ.1.2.1 yX6_least cX6_least 5 (some .int) hc G b N w [.ref (b + q), x0, x1] (fun r w2 => r = E ∧ w2 = w)) (hR : hc + 1 ≤ h) (hq : q < N) (he : w q = .inr (6, fs)) (hnL : L.length = nL) (hcat : (st.map fun v => v.category).sum ≤ 8) (k : V κ G b (N, 0, 0) w pc2 L (.int E :: st)) : V κ G b (N, 0, 0) w pc L (x1 :: x0 :: .ref (b + q) :: st) := cv_L_72 X d hM hR hq he hnL hcat (fun r w2 hp => by rw [hp.1, hp.2]; exact k)
theorem cv_L_73 (X : CX κ G cc nL RL cx h) (d : Dc cc pc (.invokevirtual 73) 3 pc2) {q : Nat} {fs : List Value} {hc : Nat} {x0 x1 x2 : Value} {post : Int32 → Wd → Prop} (hM : CI κ.1.2.1 yX5_best cX5_best 4 (some .int) hc G b N w [.ref (b + q), x0, x1, x2] post) (hR : hc + 1 ≤ h) (hq : q < N) (he : w q = .inr (5, fs)) (hnL : L.length = nL) (hcat : (st.map fun v => v.category).sum ≤ 8) (k : ∀ (r : Int32) (w2 : Wd), post r w2 → V κ G b (N, 0, 0) w2 pc2 L (.int r :: st)) : V κ G b (N, 0, 0) w pc L (x2 :: x1 :: x0 :: .ref (b + q) :: st) := r_callVi (n := 3) X hM d qw_507 qw_508 qw_509 qw_2 qw_510 (by decide +kernel) rfl hR (by decide) hq he rfl hnL rfl hcat k
theorem cp_L_73 (X : CX κ G cc nL RL cx h) (d : Dc cc pc (.invokevirtual 73) 3 pc2) {q : Nat} {fs : List Value} {hc : Nat} {x0 x1 x2 : Value} {E : Int32} (hM : CI κ.1.2.1 yX5_best cX5_best 4 (some .int) hc G b N w [.ref (b + q), x0, x1, x2] (fun r w2 => r = E ∧ w2 = w)) (hR : hc + 1 ≤ h) (hq : q < N) (he : w q = .inr (5, fs)) (hnL : L.length = nL) (hcat : (st.map fun v => v.category).sum ≤ 8) (k : V κ G b (N, 0, 0) w pc2 L (.int E :: st)) : V κ G b (N, 0, 0) w pc L (x2 :: x1 :: x0 :: .ref (b + q) :: st) := cv_L_73 X d hM hR hq he hnL hcat (fun r w2 hp => by rw [hp.1, hp.2]; exact k)
theorem cv_L_76 (X : CX κ G cc nL RL cx h) (d : Dc cc pc (.invokevirtual 76) 3 pc2) {q : Nat} {fs : List Value} {hc : Nat} {x0 x1 x2 : Value} {post : Int32 → Wd → Prop} (hM : CI κ.1.2.1 yX6_best cX6_best 4 (some .int) hc G b N w [.ref (b + q), x0, x1, x2] post) (hR : hc + 1 ≤ h) (hq : q < N) (he : w q = .inr (6, fs)) (hnL : L.length = nL) (hcat : (st.map fun v => v.category).sum ≤ 8) (k : ∀ (r : Int32) (w2 : Wd), post r w2 → V κ G b (N, 0, 0) w2 pc2 L (.int r :: st)) : V κ G b (N, 0, 0) w pc L (x2 :: x1 :: x0 :: .ref (b + q) :: st) := r_callVi (n := 3) X hM d qw_547 qw_548 qw_549 qw_5 qw_550 (by decide +kernel) rfl hR (by decide) hq he rfl hnL rfl hcat k
theorem cp_L_76 (X : CX κ G cc nL RL cx h) (d : Dc cc pc (.invokevirtual 76) 3 pc2) {q : Nat} {fs : List Value} {hc : Nat} {x0 x1 x2 : Value} {E : Int32} (hM : CI κ.1.2.1 yX6_best cX6_best 4 (some .int) hc G b N w [.ref (b + q), x0, x1, x2] (fun r w2 => r = E ∧ w2 = w)) (hR : hc + 1 ≤ h) (hq : q < N) (he : w q = .inr (6, fs)) (hnL : L.length = nL) (hcat : (st.map fun v => v.category).sum ≤ 8) (k : V κ G b (N, 0, 0) w pc2 L (.int E :: st)) : V κ G b (N, 0, 0) w pc L (x2 :: x1 :: x0 :: .ref (b + q) :: st) := cv_L_76 X d hM hR hq he hnL hcat (fun r w2 hp => by rw [hp.1, hp.2]; exact k)
theorem cv_L_77 (X : CX κ G cc nL RL cx h) (d : Dc cc pc (.invokevirtual 77) 3 pc2) {q : Nat} {fs : List Value} {hc : Nat} {x0 x1 x2 : Value} {post : Int32 → Wd → Prop} (hM : CI κ.1.2.1 yX5_table cX5_table 6 (some .int) hc G b N w [.ref (b + q), x0, x1, x2] post) (hR : hc + 1 ≤ h) (hq : q < N) (he : w q = .inr (5, fs)) (hnL : L.length = nL) (hcat : (st.map fun v => v.category).sum ≤ 8) (k : ∀ (r : Int32) (w2 : Wd), post r w2 → V κ G b (N, 0, 0) w2 pc2 L (.int r :: st)) : V κ G b (N, 0, 0) w pc L (x2 :: x1 :: x0 :: .ref (b + q) :: st) := r_callVi (n := 3) X hM d qw_573 qw_574 qw_575 qw_2 qw_576 (by decide +kernel) rfl hR (by decide) hq he rfl hnL rfl hcat k
theorem cp_L_77 (X : CX κ G cc nL RL cx h) (d : Dc cc pc (.invokevirtual 77) 3 pc2) {q : Nat} {fs : List Value} {hc : Nat} {x0 x1 x2 : Value} {E : Int32} (hM : CI κ.1.2.1 yX5_table cX5_table 6 (some .int) hc G b N w [.ref (b + q), x0, x1, x2] (fun r w2 => r = E ∧ w2 = w)) (hR : hc + 1 ≤ h) (hq : q < N) (he : w q = .inr (5, fs)) (hnL : L.length = nL) (hcat : (st.map fun v => v.category).sum ≤ 8) (k : V κ G b (N, 0, 0) w pc2 L (.int E :: st)) : V κ G b (N, 0, 0) w pc L (x2 :: x1 :: x0 :: .ref (b + q) :: st) := cv_L_77 X d hM hR hq he hnL hcat (fun r w2 hp => by rw [hp.1, hp.2]; exact k)
theorem cv_L_80 (X : CX κ G cc nL RL cx h) (d : Dc cc pc (.invokevirtual 80) 3 pc2) {q : Nat} {fs : List Value} {hc : Nat} {x0 x1 x2 : Value} {post : Int32 → Wd → Prop} (hM : CI κ.1.2.1 yX6_table cX6_table 6 (some .int) hc G b N w [.ref (b + q), x0, x1, x2] post) (hR : hc + 1 ≤ h) (hq : q < N) (he : w q = .inr (6, fs)) (hnL : L.length = nL) (hcat : (st.map fun v => v.category).sum ≤ 8) (k : ∀ (r : Int32) (w2 : Wd), post r w2 → V κ G b (N, 0, 0) w2 pc2 L (.int r :: st)) : V κ G b (N, 0, 0) w pc L (x2 :: x1 :: x0 :: .ref (b + q) :: st) := r_callVi (n := 3) X hM d qw_599 qw_600 qw_601 qw_5 qw_602 (by decide +kernel) rfl hR (by decide) hq he rfl hnL rfl hcat k
theorem cp_L_80 (X : CX κ G cc nL RL cx h) (d : Dc cc pc (.invokevirtual 80) 3 pc2) {q : Nat} {fs : List Value} {hc : Nat} {x0 x1 x2 : Value} {E : Int32} (hM : CI κ.1.2.1 yX6_table cX6_table 6 (some .int) hc G b N w [.ref (b + q), x0, x1, x2] (fun r w2 => r = E ∧ w2 = w)) (hR : hc + 1 ≤ h) (hq : q < N) (he : w q = .inr (6, fs)) (hnL : L.length = nL) (hcat : (st.map fun v => v.category).sum ≤ 8) (k : V κ G b (N, 0, 0) w pc2 L (.int E :: st)) : V κ G b (N, 0, 0) w pc L (x2 :: x1 :: x0 :: .ref (b + q) :: st) := cv_L_80 X d hM hR hq he hnL hcat (fun r w2 hp => by rw [hp.1, hp.2]; exact k)
theorem cv_L_81 (X : CX κ G cc nL RL cx h) (d : Dc cc pc (.invokevirtual 81) 3 pc2) {q : Nat} {fs : List Value} {hc : Nat} {x0 x1 : Value} {post : Int32 → Wd → Prop} (hM : CI κ.1.2.1 yX5_go cX5_go 4 (some .int) hc G b N w [.ref (b + q), x0, x1] post) (hR : hc + 1 ≤ h) (hq : q < N) (he : w q = .inr (5, fs)) (hnL : L.length = nL) (hcat : (st.map fun v => v.category).sum ≤ 8) (k : ∀ (r : Int32) (w2 : Wd), post r w2 → V κ G b (N, 0, 0) w2 pc2 L (.int r :: st)) : V κ G b (N, 0, 0) w pc L (x1 :: x0 :: .ref (b + q) :: st) := r_callVi (n := 2) X hM d qw_619 qw_620 qw_621 qw_2 qw_622 (by decide +kernel) rfl hR (by decide) hq he rfl hnL rfl hcat k
theorem cp_L_81 (X : CX κ G cc nL RL cx h) (d : Dc cc pc (.invokevirtual 81) 3 pc2) {q : Nat} {fs : List Value} {hc : Nat} {x0 x1 : Value} {E : Int32} (hM : CI κ.1.2.1 yX5_go cX5_go 4 (some .int) hc G b N w [.ref (b + q), x0, x1] (fun r w2 => r = E ∧ w2 = w)) (hR : hc + 1 ≤ h) (hq : q < N) (he : w q = .inr (5, fs)) (hnL : L.length = nL) (hcat : (st.map fun v => v.category).sum ≤ 8) (k : V κ G b (N, 0, 0) w pc2 L (.int E :: st)) : V κ G b (N, 0, 0) w pc L (x1 :: x0 :: .ref (b + q) :: st) := cv_L_81 X d hM hR hq he hnL hcat (fun r w2 hp => by rw [hp.1, hp.2]; exact k)
theorem cv_L_84 (X : CX κ G cc nL RL cx h) (d : Dc cc pc (.invokevirtual 84) 3 pc2) {q : Nat} {fs : List Value} {hc : Nat} {x0 x1 : Value} {post : Int32 → Wd → Prop} (hM : CI κ.1.2.1 yX6_go cX6_go 4 (some .int) hc G b N w [.ref (b + q), x0, x1] post) (hR : hc + 1 ≤ h) (hq : q < N) (he : w q = .inr (6, fs)) (hnL : L.length = nL) (hcat : (st.map fun v => v.category).sum ≤ 8) (k : ∀ (r : Int32) (w2 : Wd), post r w2 → V κ G b (N, 0, 0) w2 pc2 L (.int r :: st)) : V κ G b (N, 0, 0) w pc L (x1 :: x0 :: .ref (b + q) :: st) := r_callVi (n := 2) X hM d qw_623 qw_624 qw_625 qw_5 qw_626 (by decide +kernel) rfl hR (by decide) hq he rfl hnL rfl hcat k
theorem cp_L_84 (X : CX κ G cc nL RL cx h) (d : Dc cc pc (.invokevirtual 84) 3 pc2) {q : Nat} {fs : List Value} {hc : Nat} {x0 x1 : Value} {E : Int32} (hM : CI κ.1.2.1 yX6_go cX6_go 4 (some .int) hc G b N w [.ref (b + q), x0, x1] (fun r w2 => r = E ∧ w2 = w)) (hR : hc + 1 ≤ h) (hq : q < N) (he : w q = .inr (6, fs)) (hnL : L.length = nL) (hcat : (st.map fun v => v.category).sum ≤ 8) (k : V κ G b (N, 0, 0) w pc2 L (.int E :: st)) : V κ G b (N, 0, 0) w pc L (x1 :: x0 :: .ref (b + q) :: st) := cv_L_84 X d hM hR hq he hnL hcat (fun r w2 hp => by rw [hp.1, hp.2]; exact k)
theorem cv_L_85 (X : CX κ G cc nL RL cx h) (d : Dc cc pc (.invokevirtual 85) 3 pc2) {q : Nat} {fs : List Value} {hc : Nat} {x0 : Value} {post : Int32 → Wd → Prop} (hM : CI κ.1.2.1 yX5_image cX5_image 2 (some .int) hc G b N w [.ref (b + q), x0] post) (hR : hc + 1 ≤ h) (hq : q < N) (he : w q = .inr (5, fs)) (hnL : L.length = nL) (hcat : (st.map fun v => v.category).sum ≤ 8) (k : ∀ (r : Int32) (w2 : Wd), post r w2 → V κ G b (N, 0, 0) w2 pc2 L (.int r :: st)) : V κ G b (N, 0, 0) w pc L (x0 :: .ref (b + q) :: st) := r_callVi (n := 1) X hM d qw_627 qw_628 qw_629 qw_2 qw_630 (by decide +kernel) rfl hR (by decide) hq he rfl hnL rfl hcat k
theorem cp_L_85 (X : CX κ G cc nL RL cx h) (d : Dc cc pc (.invokevirtual 85) 3 pc2) {q : Nat} {fs : List Value} {hc : Nat} {x0 : Value} {E : Int32} (hM : CI κ.1.2.1 yX5_image cX5_image 2 (some .int) hc G b N w [.ref (b + q), x0] (fun r w2 => r = E ∧ w2 = w)) (hR : hc + 1 ≤ h) (hq : q < N) (he : w q = .inr (5, fs)) (hnL : L.length = nL) (hcat : (st.map fun v => v.category).sum ≤ 8) (k : V κ G b (N, 0, 0) w pc2 L (.int E :: st)) : V κ G b (N, 0, 0) w pc L (x0 :: .ref (b + q) :: st) := cv_L_85 X d hM hR hq he hnL hcat (fun r w2 hp => by rw [hp.1, hp.2]; exact k)
theorem cv_L_88 (X : CX κ G cc nL RL cx h) (d : Dc cc pc (.invokevirtual 88) 3 pc2) {q : Nat} {fs : List Value} {hc : Nat} {x0 : Value} {post : Int32 → Wd → Prop} (hM : CI κ.1.2.1 yX6_image cX6_image 3 (some .int) hc G b N w [.ref (b + q), x0] post) (hR : hc + 1 ≤ h) (hq : q < N) (he : w q = .inr (6, fs)) (hnL : L.length = nL) (hcat : (st.map fun v => v.category).sum ≤ 8) (k : ∀ (r : Int32) (w2 : Wd), post r w2 → V κ G b (N, 0, 0) w2 pc2 L (.int r :: st)) : V κ G b (N, 0, 0) w pc L (x0 :: .ref (b + q) :: st) := r_callVi (n := 1) X hM d qw_632 qw_633 qw_634 qw_5 qw_635 (by decide +kernel) rfl hR (by decide) hq he rfl hnL rfl hcat k
theorem cp_L_88 (X : CX κ G cc nL RL cx h) (d : Dc cc pc (.invokevirtual 88) 3 pc2) {q : Nat} {fs : List Value} {hc : Nat} {x0 : Value} {E : Int32} (hM : CI κ.1.2.1 yX6_image cX6_image 3 (some .int) hc G b N w [.ref (b + q), x0] (fun r w2 => r = E ∧ w2 = w)) (hR : hc + 1 ≤ h) (hq : q < N) (he : w q = .inr (6, fs)) (hnL : L.length = nL) (hcat : (st.map fun v => v.category).sum ≤ 8) (k : V κ G b (N, 0, 0) w pc2 L (.int E :: st)) : V κ G b (N, 0, 0) w pc L (x0 :: .ref (b + q) :: st) := cv_L_88 X d hM hR hq he hnL hcat (fun r w2 hp => by rw [hp.1, hp.2]; exact k)
theorem cv_L_89 (X : CX κ G cc nL RL cx h) (d : Dc cc pc (.invokevirtual 89) 3 pc2) {q : Nat} {fs : List Value} {hc : Nat} {x0 : Value} {post : Int32 → Wd → Prop} (hM : CI κ.1.2.1 yX5_restore cX5_restore 2 (some .int) hc G b N w [.ref (b + q), x0] post) (hR : hc + 1 ≤ h) (hq : q < N) (he : w q = .inr (5, fs)) (hnL : L.length = nL) (hcat : (st.map fun v => v.category).sum ≤ 8) (k : ∀ (r : Int32) (w2 : Wd), post r w2 → V κ G b (N, 0, 0) w2 pc2 L (.int r :: st)) : V κ G b (N, 0, 0) w pc L (x0 :: .ref (b + q) :: st) := r_callVi (n := 1) X hM d qw_636 qw_637 qw_638 qw_2 qw_639 (by decide +kernel) rfl hR (by decide) hq he rfl hnL rfl hcat k
theorem cp_L_89 (X : CX κ G cc nL RL cx h) (d : Dc cc pc (.invokevirtual 89) 3 pc2) {q : Nat} {fs : List Value} {hc : Nat} {x0 : Value} {E : Int32} (hM : CI κ.1.2.1 yX5_restore cX5_restore 2 (some .int) hc G b N w [.ref (b + q), x0] (fun r w2 => r = E ∧ w2 = w)) (hR : hc + 1 ≤ h) (hq : q < N) (he : w q = .inr (5, fs)) (hnL : L.length = nL) (hcat : (st.map fun v => v.category).sum ≤ 8) (k : V κ G b (N, 0, 0) w pc2 L (.int E :: st)) : V κ G b (N, 0, 0) w pc L (x0 :: .ref (b + q) :: st) := cv_L_89 X d hM hR hq he hnL hcat (fun r w2 hp => by rw [hp.1, hp.2]; exact k)
theorem cv_L_92 (X : CX κ G cc nL RL cx h) (d : Dc cc pc (.invokevirtual 92) 3 pc2) {q : Nat} {fs : List Value} {hc : Nat} {x0 : Value} {post : Int32 → Wd → Prop} (hM : CI κ.1.2.1 yX6_restore cX6_restore 3 (some .int) hc G b N w [.ref (b + q), x0] post) (hR : hc + 1 ≤ h) (hq : q < N) (he : w q = .inr (6, fs)) (hnL : L.length = nL) (hcat : (st.map fun v => v.category).sum ≤ 8) (k : ∀ (r : Int32) (w2 : Wd), post r w2 → V κ G b (N, 0, 0) w2 pc2 L (.int r :: st)) : V κ G b (N, 0, 0) w pc L (x0 :: .ref (b + q) :: st) := r_callVi (n := 1) X hM d qw_640 qw_641 qw_642 qw_5 qw_643 (by decide +kernel) rfl hR (by decide) hq he rfl hnL rfl hcat k
theorem cp_L_92 (X : CX κ G cc nL RL cx h) (d : Dc cc pc (.invokevirtual 92) 3 pc2) {q : Nat} {fs : List Value} {hc : Nat} {x0 : Value} {E : Int32} (hM : CI κ.1.2.1 yX6_restore cX6_restore 3 (some .int) hc G b N w [.ref (b + q), x0] (fun r w2 => r = E ∧ w2 = w)) (hR : hc + 1 ≤ h) (hq : q < N) (he : w q = .inr (6, fs)) (hnL : L.length = nL) (hcat : (st.map fun v => v.category).sum ≤ 8) (k : V κ G b (N, 0, 0) w pc2 L (.int E :: st)) : V κ G b (N, 0, 0) w pc L (x0 :: .ref (b + q) :: st) := cv_L_92 X d hM hR hq he hnL hcat (fun r w2 hp => by rw [hp.1, hp.2]; exact k)
theorem cv_L_93 (X : CX κ G cc nL RL cx h) (d : Dc cc pc (.invokevirtual 93) 3 pc2) {q : Nat} {fs : List Value} {hc : Nat} {x0 : Value} {post : Int32 → Wd → Prop} (hM : CI κ.1.2.1 yX5_count cX5_count 2 (some .int) hc G b N w [.ref (b + q), x0] post) (hR : hc + 1 ≤ h) (hq : q < N) (he : w q = .inr (5, fs)) (hnL : L.length = nL) (hcat : (st.map fun v => v.category).sum ≤ 8) (k : ∀ (r : Int32) (w2 : Wd), post r w2 → V κ G b (N, 0, 0) w2 pc2 L (.int r :: st)) : V κ G b (N, 0, 0) w pc L (x0 :: .ref (b + q) :: st) := r_callVi (n := 1) X hM d qw_644 qw_645 qw_646 qw_2 qw_647 (by decide +kernel) rfl hR (by decide) hq he rfl hnL rfl hcat k
theorem cp_L_93 (X : CX κ G cc nL RL cx h) (d : Dc cc pc (.invokevirtual 93) 3 pc2) {q : Nat} {fs : List Value} {hc : Nat} {x0 : Value} {E : Int32} (hM : CI κ.1.2.1 yX5_count cX5_count 2 (some .int) hc G b N w [.ref (b + q), x0] (fun r w2 => r = E ∧ w2 = w)) (hR : hc + 1 ≤ h) (hq : q < N) (he : w q = .inr (5, fs)) (hnL : L.length = nL) (hcat : (st.map fun v => v.category).sum ≤ 8) (k : V κ G b (N, 0, 0) w pc2 L (.int E :: st)) : V κ G b (N, 0, 0) w pc L (x0 :: .ref (b + q) :: st) := cv_L_93 X d hM hR hq he hnL hcat (fun r w2 hp => by rw [hp.1, hp.2]; exact k)
theorem cv_L_96 (X : CX κ G cc nL RL cx h) (d : Dc cc pc (.invokevirtual 96) 3 pc2) {q : Nat} {fs : List Value} {hc : Nat} {x0 : Value} {post : Int32 → Wd → Prop} (hM : CI κ.1.2.1 yX6_count cX6_count 2 (some .int) hc G b N w [.ref (b + q), x0] post) (hR : hc + 1 ≤ h) (hq : q < N) (he : w q = .inr (6, fs)) (hnL : L.length = nL) (hcat : (st.map fun v => v.category).sum ≤ 8) (k : ∀ (r : Int32) (w2 : Wd), post r w2 → V κ G b (N, 0, 0) w2 pc2 L (.int r :: st)) : V κ G b (N, 0, 0) w pc L (x0 :: .ref (b + q) :: st) := r_callVi (n := 1) X hM d qw_661 qw_662 qw_663 qw_5 qw_664 (by decide +kernel) rfl hR (by decide) hq he rfl hnL rfl hcat k
theorem cp_L_96 (X : CX κ G cc nL RL cx h) (d : Dc cc pc (.invokevirtual 96) 3 pc2) {q : Nat} {fs : List Value} {hc : Nat} {x0 : Value} {E : Int32} (hM : CI κ.1.2.1 yX6_count cX6_count 2 (some .int) hc G b N w [.ref (b + q), x0] (fun r w2 => r = E ∧ w2 = w)) (hR : hc + 1 ≤ h) (hq : q < N) (he : w q = .inr (6, fs)) (hnL : L.length = nL) (hcat : (st.map fun v => v.category).sum ≤ 8) (k : V κ G b (N, 0, 0) w pc2 L (.int E :: st)) : V κ G b (N, 0, 0) w pc L (x0 :: .ref (b + q) :: st) := cv_L_96 X d hM hR hq he hnL hcat (fun r w2 hp => by rw [hp.1, hp.2]; exact k)
theorem gf_X0_11 (X : CX κ G cc nL RX0 cx h) (d : Dc cc pc (.getfield 11) 3 pc2) {q : Nat} {v0 v1 v2 v3 : Value} (hq : q < ν.1) (he : w q = .inr (0, [v0, v1, v2, v3])) (k : V κ G b ν w pc2 L (v0 :: st)) : V κ G b ν w pc L (.ref (b + q) :: st) := r_get X d rfl inlX0 0 (by decide) qw_71 hq he rfl k
theorem gf_X0_18 (X : CX κ G cc nL RX0 cx h) (d : Dc cc pc (.getfield 18) 3 pc2) {q : Nat} {v0 v1 v2 v3 : Value} (hq : q < ν.1) (he : w q = .inr (0, [v0, v1, v2, v3])) (k : V κ G b ν w pc2 L (v1 :: st)) : V κ G b ν w pc L (.ref (b + q) :: st) := r_get X d rfl inlX0 1 (by decide) qw_72 hq he rfl k
theorem gf_X0_25 (X : CX κ G cc nL RX0 cx h) (d : Dc cc pc (.getfield 25) 3 pc2) {q : Nat} {v0 v1 v2 v3 : Value} (hq : q < ν.1) (he : w q = .inr (0, [v0, v1, v2, v3])) (k : V κ G b ν w pc2 L (v2 :: st)) : V κ G b ν w pc L (.ref (b + q) :: st) := r_get X d rfl inlX0 2 (by decide) qw_74 hq he rfl k
theorem gf_X0_29 (X : CX κ G cc nL RX0 cx h) (d : Dc cc pc (.getfield 29) 3 pc2) {q : Nat} {v0 v1 v2 v3 : Value} (hq : q < ν.1) (he : w q = .inr (0, [v0, v1, v2, v3])) (k : V κ G b ν w pc2 L (v3 :: st)) : V κ G b ν w pc L (.ref (b + q) :: st) := r_get X d rfl inlX0 3 (by decide) qw_75 hq he rfl k
theorem gf_X0_50 (X : CX κ G cc nL RX0 cx h) (d : Dc cc pc (.getfield 50) 3 pc2) {q : Nat} {v0 v1 v2 v3 v4 : Value} (hq : q < ν.1) (he : w q = .inr (4, [v0, v1, v2, v3, v4])) (k : V κ G b ν w pc2 L (v1 :: st)) : V κ G b ν w pc L (.ref (b + q) :: st) := r_get X d rfl inlX4 1 (by decide) qw_589 hq he rfl k
theorem cv_X0_32 (X : CX κ G cc nL RX0 cx h) (d : Dc cc pc (.invokevirtual 32) 3 pc2) {q : Nat} {fs : List Value} {hc : Nat} {x0 : Value} {post : Wd → Prop} (hM : CV κ.1.2.1 yX3_copyFrom cX3_copyFrom 3 hc G b N w [.ref (b + q), x0] post) (hR : hc + 1 ≤ h) (hq : q < N) (he : w q = .inr (3, fs)) (hnL : L.length = nL) (hcat : (st.map fun v => v.category).sum ≤ 8) (k : ∀ (w2 : Wd), post w2 → V κ G b (N, 0, 0) w2 pc2 L st) : V κ G b (N, 0, 0) w pc L (x0 :: .ref (b + q) :: st) := r_callVv (n := 1) X hM d qw_583 qw_525 qw_526 qw_14 qw_527 (by decide +kernel) rfl hR (by decide) hq he rfl hnL rfl hcat k
theorem cv_X0_36 (X : CX κ G cc nL RX0 cx h) (d : Dc cc pc (.invokevirtual 36) 3 pc2) {q : Nat} {fs : List Value} {hc : Nat} {x0 x1 : Value} {post : Wd → Prop} (hM : CV κ.1.2.1 yX4_findLeast cX4_findLeast 7 hc G b N w [.ref (b + q), x0, x1] post) (hR : hc + 1 ≤ h) (hq : q < N) (he : w q = .inr (4, fs)) (hnL : L.length = nL) (hcat : (st.map fun v => v.category).sum ≤ 8) (k : ∀ (w2 : Wd), post w2 → V κ G b (N, 0, 0) w2 pc2 L st) : V κ G b (N, 0, 0) w pc L (x1 :: x0 :: .ref (b + q) :: st) := r_callVv (n := 2) X hM d qw_584 qw_345 qw_346 qw_18 qw_347 (by decide +kernel) rfl hR (by decide) hq he rfl hnL rfl hcat k
theorem cv_X0_40 (X : CX κ G cc nL RX0 cx h) (d : Dc cc pc (.invokevirtual 40) 3 pc2) {q : Nat} {fs : List Value} {hc : Nat} {x0 : Value} {post : Wd → Prop} (hM : CV κ.1.2.1 yX0_takeLying cX0_takeLying 2 hc G b N w [.ref (b + q), x0] post) (hR : hc + 1 ≤ h) (hq : q < N) (he : w q = .inr (0, fs)) (hnL : L.length = nL) (hcat : (st.map fun v => v.category).sum ≤ 8) (k : ∀ (w2 : Wd), post w2 → V κ G b (N, 0, 0) w2 pc2 L st) : V κ G b (N, 0, 0) w pc L (x0 :: .ref (b + q) :: st) := r_callVv (n := 1) X hM d qw_585 qw_586 qw_587 qw_30 qw_588 (by decide +kernel) rfl hR (by decide) hq he rfl hnL rfl hcat k
theorem cv_X0_44 (X : CX κ G cc nL RX0 cx h) (d : Dc cc pc (.invokevirtual 44) 3 pc2) {q : Nat} {fs : List Value} {hc : Nat} {x0 : Value} {post : Wd → Prop} (hM : CV κ.1.2.1 yX0_takeUpright cX0_takeUpright 2 hc G b N w [.ref (b + q), x0] post) (hR : hc + 1 ≤ h) (hq : q < N) (he : w q = .inr (0, fs)) (hnL : L.length = nL) (hcat : (st.map fun v => v.category).sum ≤ 8) (k : ∀ (w2 : Wd), post w2 → V κ G b (N, 0, 0) w2 pc2 L st) : V κ G b (N, 0, 0) w pc L (x0 :: .ref (b + q) :: st) := r_callVv (n := 1) X hM d qw_591 qw_592 qw_593 qw_30 qw_594 (by decide +kernel) rfl hR (by decide) hq he rfl hnL rfl hcat k
theorem cv_X0_47 (X : CX κ G cc nL RX0 cx h) (d : Dc cc pc (.invokevirtual 47) 3 pc2) {q : Nat} {fs : List Value} {hc : Nat} {x0 : Value} {post : Wd → Prop} (hM : CV κ.1.2.1 yX0_takeCheaper cX0_takeCheaper 2 hc G b N w [.ref (b + q), x0] post) (hR : hc + 1 ≤ h) (hq : q < N) (he : w q = .inr (0, fs)) (hnL : L.length = nL) (hcat : (st.map fun v => v.category).sum ≤ 8) (k : ∀ (w2 : Wd), post w2 → V κ G b (N, 0, 0) w2 pc2 L st) : V κ G b (N, 0, 0) w pc L (x0 :: .ref (b + q) :: st) := r_callVv (n := 1) X hM d qw_595 qw_596 qw_597 qw_30 qw_598 (by decide +kernel) rfl hR (by decide) hq he rfl hnL rfl hcat k
theorem cv_X0_54 (X : CX κ G cc nL RX0 cx h) (d : Dc cc pc (.invokevirtual 54) 3 pc2) {q : Nat} {fs : List Value} {hc : Nat} {x0 : Value} {post : Wd → Prop} (hM : CV κ.1.2.1 yX3_takeOut cX3_takeOut 5 hc G b N w [.ref (b + q), x0] post) (hR : hc + 1 ≤ h) (hq : q < N) (he : w q = .inr (3, fs)) (hnL : L.length = nL) (hcat : (st.map fun v => v.category).sum ≤ 8) (k : ∀ (w2 : Wd), post w2 → V κ G b (N, 0, 0) w2 pc2 L st) : V κ G b (N, 0, 0) w pc L (x0 :: .ref (b + q) :: st) := r_callVv (n := 1) X hM d qw_590 qw_434 qw_435 qw_14 qw_436 (by decide +kernel) rfl hR (by decide) hq he rfl hnL rfl hcat k
theorem gf_X1_11 (X : CX κ G cc nL RX1 cx h) (d : Dc cc pc (.getfield 11) 3 pc2) {q : Nat} {v0 v1 v2 v3 v4 v5 : Value} (hq : q < ν.1) (he : w q = .inr (1, [v0, v1, v2, v3, v4, v5])) (k : V κ G b ν w pc2 L (v4 :: st)) : V κ G b ν w pc L (.ref (b + q) :: st) := r_get X d rfl inlX1 4 (by decide) qw_61 hq he rfl k
theorem gf_X1_21 (X : CX κ G cc nL RX1 cx h) (d : Dc cc pc (.getfield 21) 3 pc2) {q : Nat} {v0 v1 v2 v3 v4 v5 : Value} (hq : q < ν.1) (he : w q = .inr (1, [v0, v1, v2, v3, v4, v5])) (k : V κ G b ν w pc2 L (v5 :: st)) : V κ G b ν w pc L (.ref (b + q) :: st) := r_get X d rfl inlX1 5 (by decide) qw_63 hq he rfl k
theorem gf_X1_25 (X : CX κ G cc nL RX1 cx h) (d : Dc cc pc (.getfield 25) 3 pc2) {q : Nat} {v0 v1 v2 v3 v4 v5 : Value} (hq : q < ν.1) (he : w q = .inr (1, [v0, v1, v2, v3, v4, v5])) (k : V κ G b ν w pc2 L (v3 :: st)) : V κ G b ν w pc L (.ref (b + q) :: st) := r_get X d rfl inlX1 3 (by decide) qw_523 hq he rfl k
theorem gf_X1_53 (X : CX κ G cc nL RX1 cx h) (d : Dc cc pc (.getfield 53) 3 pc2) {q : Nat} {v0 v1 v2 v3 v4 : Value} (hq : q < ν.1) (he : w q = .inr (4, [v0, v1, v2, v3, v4])) (k : V κ G b ν w pc2 L (v1 :: st)) : V κ G b ν w pc L (.ref (b + q) :: st) := r_get X d rfl inlX4 1 (by decide) qw_532 hq he rfl k
theorem gf_X1_56 (X : CX κ G cc nL RX1 cx h) (d : Dc cc pc (.getfield 56) 3 pc2) {q : Nat} {v0 v1 v2 v3 v4 v5 : Value} (hq : q < ν.1) (he : w q = .inr (1, [v0, v1, v2, v3, v4, v5])) (k : V κ G b ν w pc2 L (v0 :: st)) : V κ G b ν w pc L (.ref (b + q) :: st) := r_get X d rfl inlX1 0 (by decide) qw_537 hq he rfl k
theorem cv_X1_29 (X : CX κ G cc nL RX1 cx h) (d : Dc cc pc (.invokevirtual 29) 3 pc2) {q : Nat} {fs : List Value} {hc : Nat} {x0 : Value} {post : Wd → Prop} (hM : CV κ.1.2.1 yX3_copyFrom cX3_copyFrom 3 hc G b N w [.ref (b + q), x0] post) (hR : hc + 1 ≤ h) (hq : q < N) (he : w q = .inr (3, fs)) (hnL : L.length = nL) (hcat : (st.map fun v => v.category).sum ≤ 8) (k : ∀ (w2 : Wd), post w2 → V κ G b (N, 0, 0) w2 pc2 L st) : V κ G b (N, 0, 0) w pc L (x0 :: .ref (b + q) :: st) := r_callVv (n := 1) X hM d qw_524 qw_525 qw_526 qw_14 qw_527 (by decide +kernel) rfl hR (by decide) hq he rfl hnL rfl hcat k
theorem cv_X1_33 (X : CX κ G cc nL RX1 cx h) (d : Dc cc pc (.invokevirtual 33) 3 pc2) {q : Nat} {fs : List Value} {hc : Nat} {x0 x1 x2 x3 x4 x5 : Value} {post : Wd → Prop} (hM : CV κ.1.2.1 yX1_tryOrders cX1_tryOrders 10 hc G b N w [.ref (b + q), x0, x1, x2, x3, x4, x5] post) (hR : hc + 1 ≤ h) (hq : q < N) (he : w q = .inr (1, fs)) (hnL : L.length = nL) (hcat : (st.map fun v => v.category).sum ≤ 8) (k : ∀ (w2 : Wd), post w2 → V κ G b (N, 0, 0) w2 pc2 L st) : V κ G b (N, 0, 0) w pc L (x5 :: x4 :: x3 :: x2 :: x1 :: x0 :: .ref (b + q) :: st) := r_callVv (n := 6) X hM d qw_528 qw_529 qw_530 qw_26 qw_531 (by decide +kernel) rfl hR (by decide) hq he rfl hnL rfl hcat k
theorem cv_X1_37 (X : CX κ G cc nL RX1 cx h) (d : Dc cc pc (.invokevirtual 37) 3 pc2) {q : Nat} {fs : List Value} {hc : Nat} {x0 x1 x2 : Value} {post : Wd → Prop} (hM : CV κ.1.2.1 yX1_compare cX1_compare 4 hc G b N w [.ref (b + q), x0, x1, x2] post) (hR : hc + 1 ≤ h) (hq : q < N) (he : w q = .inr (1, fs)) (hnL : L.length = nL) (hcat : (st.map fun v => v.category).sum ≤ 8) (k : ∀ (w2 : Wd), post w2 → V κ G b (N, 0, 0) w2 pc2 L st) : V κ G b (N, 0, 0) w pc L (x2 :: x1 :: x0 :: .ref (b + q) :: st) := r_callVv (n := 3) X hM d qw_533 qw_534 qw_535 qw_26 qw_536 (by decide +kernel) rfl hR (by decide) hq he rfl hnL rfl hcat k
theorem cv_X1_41 (X : CX κ G cc nL RX1 cx h) (d : Dc cc pc (.invokevirtual 41) 3 pc2) {q : Nat} {fs : List Value} {hc : Nat} {x0 x1 : Value} {post : Wd → Prop} (hM : CV κ.1.2.1 yX4_findLeast cX4_findLeast 7 hc G b N w [.ref (b + q), x0, x1] post) (hR : hc + 1 ≤ h) (hq : q < N) (he : w q = .inr (4, fs)) (hnL : L.length = nL) (hcat : (st.map fun v => v.category).sum ≤ 8) (k : ∀ (w2 : Wd), post w2 → V κ G b (N, 0, 0) w2 pc2 L st) : V κ G b (N, 0, 0) w pc L (x1 :: x0 :: .ref (b + q) :: st) := r_callVv (n := 2) X hM d qw_540 qw_345 qw_346 qw_18 qw_347 (by decide +kernel) rfl hR (by decide) hq he rfl hnL rfl hcat k
theorem cv_X1_45 (X : CX κ G cc nL RX1 cx h) (d : Dc cc pc (.invokevirtual 45) 3 pc2) {q : Nat} {fs : List Value} {hc : Nat} {x0 : Value} {post : Int32 → Wd → Prop} (hM : CI κ.1.2.1 yX3_keptDotsOf cX3_keptDotsOf 4 (some .int) hc G b N w [.ref (b + q), x0] post) (hR : hc + 1 ≤ h) (hq : q < N) (he : w q = .inr (3, fs)) (hnL : L.length = nL) (hcat : (st.map fun v => v.category).sum ≤ 8) (k : ∀ (r : Int32) (w2 : Wd), post r w2 → V κ G b (N, 0, 0) w2 pc2 L (.int r :: st)) : V κ G b (N, 0, 0) w pc L (x0 :: .ref (b + q) :: st) := r_callVi (n := 1) X hM d qw_541 qw_542 qw_543 qw_14 qw_544 (by decide +kernel) rfl hR (by decide) hq he rfl hnL rfl hcat k
theorem cp_X1_45 (X : CX κ G cc nL RX1 cx h) (d : Dc cc pc (.invokevirtual 45) 3 pc2) {q : Nat} {fs : List Value} {hc : Nat} {x0 : Value} {E : Int32} (hM : CI κ.1.2.1 yX3_keptDotsOf cX3_keptDotsOf 4 (some .int) hc G b N w [.ref (b + q), x0] (fun r w2 => r = E ∧ w2 = w)) (hR : hc + 1 ≤ h) (hq : q < N) (he : w q = .inr (3, fs)) (hnL : L.length = nL) (hcat : (st.map fun v => v.category).sum ≤ 8) (k : V κ G b (N, 0, 0) w pc2 L (.int E :: st)) : V κ G b (N, 0, 0) w pc L (x0 :: .ref (b + q) :: st) := cv_X1_45 X d hM hR hq he hnL hcat (fun r w2 hp => by rw [hp.1, hp.2]; exact k)
theorem cv_X1_49 (X : CX κ G cc nL RX1 cx h) (d : Dc cc pc (.invokevirtual 49) 3 pc2) {q : Nat} {fs : List Value} {hc : Nat} {x0 : Value} {post : Wd → Prop} (hM : CV κ.1.2.1 yX3_takeOut cX3_takeOut 5 hc G b N w [.ref (b + q), x0] post) (hR : hc + 1 ≤ h) (hq : q < N) (he : w q = .inr (3, fs)) (hnL : L.length = nL) (hcat : (st.map fun v => v.category).sum ≤ 8) (k : ∀ (w2 : Wd), post w2 → V κ G b (N, 0, 0) w2 pc2 L st) : V κ G b (N, 0, 0) w pc L (x0 :: .ref (b + q) :: st) := r_callVv (n := 1) X hM d qw_546 qw_434 qw_435 qw_14 qw_436 (by decide +kernel) rfl hR (by decide) hq he rfl hnL rfl hcat k
theorem pf_X1_25 (X : CX κ G cc nL RX1 cx h) (d : Dc cc pc (.putfield 25) 3 pc2) {q : Nat} {v0 v1 v2 v3 v4 v5 : Value} {x : Int32} (hq : q < ν.1) (he : w q = .inr (1, [v0, v1, v2, v3, v4, v5])) (k : ∀ w2 : Wd, w2 q = .inr (1, [v0, v1, v2, .int x, v4, v5]) → (∀ j, j ≠ q → w2 j = w j) → V κ G b ν w2 pc2 L st) : V κ G b ν w pc L (.int x :: .ref (b + q) :: st) := r_put X d rfl inlX1 tyX1 tyX1_ok nmX1 3 (by decide) qw_523 rfl hq he rfl rfl (Nat.le_of_ble_eq_true rfl) rfl k
theorem pf_X1_56 (X : CX κ G cc nL RX1 cx h) (d : Dc cc pc (.putfield 56) 3 pc2) {q : Nat} {v0 v1 v2 v3 v4 v5 : Value} {x : Int32} (hq : q < ν.1) (he : w q = .inr (1, [v0, v1, v2, v3, v4, v5])) (k : ∀ w2 : Wd, w2 q = .inr (1, [.int x, v1, v2, v3, v4, v5]) → (∀ j, j ≠ q → w2 j = w j) → V κ G b ν w2 pc2 L st) : V κ G b ν w pc L (.int x :: .ref (b + q) :: st) := r_put X d rfl inlX1 tyX1 tyX1_ok nmX1 0 (by decide) qw_537 rfl hq he rfl rfl (Nat.le_of_ble_eq_true rfl) rfl k
theorem pf_X1_59 (X : CX κ G cc nL RX1 cx h) (d : Dc cc pc (.putfield 59) 3 pc2) {q : Nat} {v0 v1 v2 v3 v4 v5 : Value} {x : Int32} (hq : q < ν.1) (he : w q = .inr (1, [v0, v1, v2, v3, v4, v5])) (k : ∀ w2 : Wd, w2 q = .inr (1, [v0, .int x, v2, v3, v4, v5]) → (∀ j, j ≠ q → w2 j = w j) → V κ G b ν w2 pc2 L st) : V κ G b ν w pc L (.int x :: .ref (b + q) :: st) := r_put X d rfl inlX1 tyX1 tyX1_ok nmX1 1 (by decide) qw_538 rfl hq he rfl rfl (Nat.le_of_ble_eq_true rfl) rfl k
theorem pf_X1_62 (X : CX κ G cc nL RX1 cx h) (d : Dc cc pc (.putfield 62) 3 pc2) {q : Nat} {v0 v1 v2 v3 v4 v5 : Value} {x : Int32} (hq : q < ν.1) (he : w q = .inr (1, [v0, v1, v2, v3, v4, v5])) (k : ∀ w2 : Wd, w2 q = .inr (1, [v0, v1, .int x, v3, v4, v5]) → (∀ j, j ≠ q → w2 j = w j) → V κ G b ν w2 pc2 L st) : V κ G b ν w pc L (.int x :: .ref (b + q) :: st) := r_put X d rfl inlX1 tyX1 tyX1_ok nmX1 2 (by decide) qw_539 rfl hq he rfl rfl (Nat.le_of_ble_eq_true rfl) rfl k
theorem gf_X2_11 (X : CX κ G cc nL RX2 cx h) (d : Dc cc pc (.getfield 11) 3 pc2) {q : Nat} {v0 v1 : Value} (hq : q < ν.1) (he : w q = .inr (2, [v0, v1])) (k : V κ G b ν w pc2 L (v1 :: st)) : V κ G b ν w pc L (.ref (b + q) :: st) := r_get X d rfl inlX2 1 (by decide) qw_55 hq he rfl k
theorem gf_X2_15 (X : CX κ G cc nL RX2 cx h) (d : Dc cc pc (.getfield 15) 3 pc2) {q : Nat} {v0 v1 : Value} (hq : q < ν.1) (he : w q = .inr (2, [v0, v1])) (k : V κ G b ν w pc2 L (v0 :: st)) : V κ G b ν w pc L (.ref (b + q) :: st) := r_get X d rfl inlX2 0 (by decide) qw_262 hq he rfl k
theorem gf_X2_27 (X : CX κ G cc nL RX2 cx h) (d : Dc cc pc (.getfield 27) 3 pc2) {q : Nat} {v0 v1 v2 v3 v4 : Value} (hq : q < ν.1) (he : w q = .inr (3, [v0, v1, v2, v3, v4])) (k : V κ G b ν w pc2 L (v1 :: st)) : V κ G b ν w pc L (.ref (b + q) :: st) := r_get X d rfl inlX3 1 (by decide) qw_326 hq he rfl k
theorem gf_X2_32 (X : CX κ G cc nL RX2 cx h) (d : Dc cc pc (.getfield 32) 3 pc2) {q : Nat} {v0 v1 v2 v3 v4 : Value} (hq : q < ν.1) (he : w q = .inr (3, [v0, v1, v2, v3, v4])) (k : V κ G b ν w pc2 L (v0 :: st)) : V κ G b ν w pc L (.ref (b + q) :: st) := r_get X d rfl inlX3 0 (by decide) qw_327 hq he rfl k
theorem cv_X2_19 (X : CX κ G cc nL RX2 cx h) (d : Dc cc pc (.invokestatic 19) 3 pc2) {hc : Nat} {x0 x1 x2 : Value} {post : Int32 → Wd → Prop} (hM : CI κ.1.2.1 yX2_canStand cX2_canStand 3 (some .boolean) hc G b N w [x0, x1, x2] post) (hR : hc + 1 ≤ h) (hnL : L.length = nL) (hcat : (st.map fun v => v.category).sum ≤ 8) (k : ∀ (r : Int32) (w2 : Wd), post r w2 → V κ G b (N, 0, 0) w2 pc2 L (.int r :: st)) : V κ G b (N, 0, 0) w pc L (x2 :: x1 :: x0 :: st) := r_callSi (n := 3) X hM d qw_292 qw_293 qw_22 qw_294 (by decide +kernel) rfl hR (by decide) hnL rfl hcat k
theorem cp_X2_19 (X : CX κ G cc nL RX2 cx h) (d : Dc cc pc (.invokestatic 19) 3 pc2) {hc : Nat} {x0 x1 x2 : Value} {E : Int32} (hM : CI κ.1.2.1 yX2_canStand cX2_canStand 3 (some .boolean) hc G b N w [x0, x1, x2] (fun r w2 => r = E ∧ w2 = w)) (hR : hc + 1 ≤ h) (hnL : L.length = nL) (hcat : (st.map fun v => v.category).sum ≤ 8) (k : V κ G b (N, 0, 0) w pc2 L (.int E :: st)) : V κ G b (N, 0, 0) w pc L (x2 :: x1 :: x0 :: st) := cv_X2_19 X d hM hR hnL hcat (fun r w2 hp => by rw [hp.1, hp.2]; exact k)
theorem cv_X2_23 (X : CX κ G cc nL RX2 cx h) (d : Dc cc pc (.invokestatic 23) 3 pc2) {hc : Nat} {x0 x1 : Value} {post : Int32 → Wd → Prop} (hM : CI κ.1.2.1 yX2_valueOf cX2_valueOf 2 (some .int) hc G b N w [x0, x1] post) (hR : hc + 1 ≤ h) (hnL : L.length = nL) (hcat : (st.map fun v => v.category).sum ≤ 8) (k : ∀ (r : Int32) (w2 : Wd), post r w2 → V κ G b (N, 0, 0) w2 pc2 L (.int r :: st)) : V κ G b (N, 0, 0) w pc L (x1 :: x0 :: st) := r_callSi (n := 2) X hM d qw_295 qw_296 qw_22 qw_297 (by decide +kernel) rfl hR (by decide) hnL rfl hcat k
theorem cp_X2_23 (X : CX κ G cc nL RX2 cx h) (d : Dc cc pc (.invokestatic 23) 3 pc2) {hc : Nat} {x0 x1 : Value} {E : Int32} (hM : CI κ.1.2.1 yX2_valueOf cX2_valueOf 2 (some .int) hc G b N w [x0, x1] (fun r w2 => r = E ∧ w2 = w)) (hR : hc + 1 ≤ h) (hnL : L.length = nL) (hcat : (st.map fun v => v.category).sum ≤ 8) (k : V κ G b (N, 0, 0) w pc2 L (.int E :: st)) : V κ G b (N, 0, 0) w pc L (x1 :: x0 :: st) := cv_X2_23 X d hM hR hnL hcat (fun r w2 hp => by rw [hp.1, hp.2]; exact k)
theorem cv_X2_35 (X : CX κ G cc nL RX2 cx h) (d : Dc cc pc (.invokevirtual 35) 3 pc2) {q : Nat} {fs : List Value} {hc : Nat} {x0 x1 x2 : Value} {post : Int32 → Wd → Prop} (hM : CI κ.1.2.1 yX3_changeGrey cX3_changeGrey 6 (some .int) hc G b N w [.ref (b + q), x0, x1, x2] post) (hR : hc + 1 ≤ h) (hq : q < N) (he : w q = .inr (3, fs)) (hnL : L.length = nL) (hcat : (st.map fun v => v.category).sum ≤ 8) (k : ∀ (r : Int32) (w2 : Wd), post r w2 → V κ G b (N, 0, 0) w2 pc2 L (.int r :: st)) : V κ G b (N, 0, 0) w pc L (x2 :: x1 :: x0 :: .ref (b + q) :: st) := r_callVi (n := 3) X hM d qw_328 qw_121 qw_122 qw_14 qw_123 (by decide +kernel) rfl hR (by decide) hq he rfl hnL rfl hcat k
theorem cp_X2_35 (X : CX κ G cc nL RX2 cx h) (d : Dc cc pc (.invokevirtual 35) 3 pc2) {q : Nat} {fs : List Value} {hc : Nat} {x0 x1 x2 : Value} {E : Int32} (hM : CI κ.1.2.1 yX3_changeGrey cX3_changeGrey 6 (some .int) hc G b N w [.ref (b + q), x0, x1, x2] (fun r w2 => r = E ∧ w2 = w)) (hR : hc + 1 ≤ h) (hq : q < N) (he : w q = .inr (3, fs)) (hnL : L.length = nL) (hcat : (st.map fun v => v.category).sum ≤ 8) (k : V κ G b (N, 0, 0) w pc2 L (.int E :: st)) : V κ G b (N, 0, 0) w pc L (x2 :: x1 :: x0 :: .ref (b + q) :: st) := cv_X2_35 X d hM hR hq he hnL hcat (fun r w2 hp => by rw [hp.1, hp.2]; exact k)
theorem cv_X2_39 (X : CX κ G cc nL RX2 cx h) (d : Dc cc pc (.invokevirtual 39) 3 pc2) {q : Nat} {fs : List Value} {hc : Nat} {x0 x1 x2 : Value} {post : Int32 → Wd → Prop} (hM : CI κ.1.2.1 yX3_changeMark cX3_changeMark 6 (some .int) hc G b N w [.ref (b + q), x0, x1, x2] post) (hR : hc + 1 ≤ h) (hq : q < N) (he : w q = .inr (3, fs)) (hnL : L.length = nL) (hcat : (st.map fun v => v.category).sum ≤ 8) (k : ∀ (r : Int32) (w2 : Wd), post r w2 → V κ G b (N, 0, 0) w2 pc2 L (.int r :: st)) : V κ G b (N, 0, 0) w pc L (x2 :: x1 :: x0 :: .ref (b + q) :: st) := r_callVi (n := 3) X hM d qw_329 qw_143 qw_144 qw_14 qw_145 (by decide +kernel) rfl hR (by decide) hq he rfl hnL rfl hcat k
theorem cp_X2_39 (X : CX κ G cc nL RX2 cx h) (d : Dc cc pc (.invokevirtual 39) 3 pc2) {q : Nat} {fs : List Value} {hc : Nat} {x0 x1 x2 : Value} {E : Int32} (hM : CI κ.1.2.1 yX3_changeMark cX3_changeMark 6 (some .int) hc G b N w [.ref (b + q), x0, x1, x2] (fun r w2 => r = E ∧ w2 = w)) (hR : hc + 1 ≤ h) (hq : q < N) (he : w q = .inr (3, fs)) (hnL : L.length = nL) (hcat : (st.map fun v => v.category).sum ≤ 8) (k : V κ G b (N, 0, 0) w pc2 L (.int E :: st)) : V κ G b (N, 0, 0) w pc L (x2 :: x1 :: x0 :: .ref (b + q) :: st) := cv_X2_39 X d hM hR hq he hnL hcat (fun r w2 hp => by rw [hp.1, hp.2]; exact k)
theorem pf_X2_15 (X : CX κ G cc nL RX2 cx h) (d : Dc cc pc (.putfield 15) 3 pc2) {q : Nat} {v0 v1 : Value} {x : Int32} (hq : q < ν.1) (he : w q = .inr (2, [v0, v1])) (k : ∀ w2 : Wd, w2 q = .inr (2, [.int x, v1]) → (∀ j, j ≠ q → w2 j = w j) → V κ G b ν w2 pc2 L st) : V κ G b ν w pc L (.int x :: .ref (b + q) :: st) := r_put X d rfl inlX2 tyX2 tyX2_ok nmX2 0 (by decide) qw_262 rfl hq he rfl rfl (Nat.le_of_ble_eq_true rfl) rfl k
theorem gf_X3_9 (X : CX κ G cc nL RX3 cx h) (d : Dc cc pc (.getfield 9) 3 pc2) {q : Nat} {v0 v1 v2 v3 v4 : Value} (hq : q < ν.1) (he : w q = .inr (3, [v0, v1, v2, v3, v4])) (k : V κ G b ν w pc2 L (v0 :: st)) : V κ G b ν w pc L (.ref (b + q) :: st) := r_get X d rfl inlX3 0 (by decide) qw_39 hq he rfl k
theorem gf_X3_15 (X : CX κ G cc nL RX3 cx h) (d : Dc cc pc (.getfield 15) 3 pc2) {q : Nat} {v0 v1 v2 v3 v4 : Value} (hq : q < ν.1) (he : w q = .inr (3, [v0, v1, v2, v3, v4])) (k : V κ G b ν w pc2 L (v1 :: st)) : V κ G b ν w pc L (.ref (b + q) :: st) := r_get X d rfl inlX3 1 (by decide) qw_40 hq he rfl k
theorem gf_X3_18 (X : CX κ G cc nL RX3 cx h) (d : Dc cc pc (.getfield 18) 3 pc2) {q : Nat} {v0 v1 v2 v3 v4 : Value} (hq : q < ν.1) (he : w q = .inr (3, [v0, v1, v2, v3, v4])) (k : V κ G b ν w pc2 L (v3 :: st)) : V κ G b ν w pc L (.ref (b + q) :: st) := r_get X d rfl inlX3 3 (by decide) qw_42 hq he rfl k
theorem gf_X3_22 (X : CX κ G cc nL RX3 cx h) (d : Dc cc pc (.getfield 22) 3 pc2) {q : Nat} {v0 v1 v2 v3 v4 : Value} (hq : q < ν.1) (he : w q = .inr (3, [v0, v1, v2, v3, v4])) (k : V κ G b ν w pc2 L (v4 :: st)) : V κ G b ν w pc L (.ref (b + q) :: st) := r_get X d rfl inlX3 4 (by decide) qw_43 hq he rfl k
theorem gf_X3_25 (X : CX κ G cc nL RX3 cx h) (d : Dc cc pc (.getfield 25) 3 pc2) {q : Nat} {v0 v1 v2 v3 v4 : Value} (hq : q < ν.1) (he : w q = .inr (3, [v0, v1, v2, v3, v4])) (k : V κ G b ν w pc2 L (v2 :: st)) : V κ G b ν w pc L (.ref (b + q) :: st) := r_get X d rfl inlX3 2 (by decide) qw_360 hq he rfl k
theorem gf_X3_66 (X : CX κ G cc nL RX3 cx h) (d : Dc cc pc (.getfield 66) 3 pc2) {q : Nat} {v0 v1 v2 v3 v4 : Value} (hq : q < ν.1) (he : w q = .inr (4, [v0, v1, v2, v3, v4])) (k : V κ G b ν w pc2 L (v0 :: st)) : V κ G b ν w pc L (.ref (b + q) :: st) := r_get X d rfl inlX4 0 (by decide) qw_437 hq he rfl k
theorem gf_X3_74 (X : CX κ G cc nL RX3 cx h) (d : Dc cc pc (.getfield 74) 3 pc2) {q : Nat} {v0 v1 v2 v3 v4 : Value} (hq : q < ν.1) (he : w q = .inr (4, [v0, v1, v2, v3, v4])) (k : V κ G b ν w pc2 L (v2 :: st)) : V κ G b ν w pc L (.ref (b + q) :: st) := r_get X d rfl inlX4 2 (by decide) qw_438 hq he rfl k
theorem cv_X3_28 (X : CX κ G cc nL RX3 cx h) (d : Dc cc pc (.invokestatic 28) 3 pc2) {hc : Nat} {x0 x1 x2 : Value} {post : Int32 → Wd → Prop} (hM : CI κ.1.2.1 yX3_index cX3_index 3 (some .int) hc G b N w [x0, x1, x2] post) (hR : hc + 1 ≤ h) (hnL : L.length = nL) (hcat : (st.map fun v => v.category).sum ≤ 8) (k : ∀ (r : Int32) (w2 : Wd), post r w2 → V κ G b (N, 0, 0) w2 pc2 L (.int r :: st)) : V κ G b (N, 0, 0) w pc L (x2 :: x1 :: x0 :: st) := r_callSi (n := 3) X hM d qw_124 qw_125 qw_14 qw_126 (by decide +kernel) rfl hR (by decide) hnL rfl hcat k
theorem cp_X3_28 (X : CX κ G cc nL RX3 cx h) (d : Dc cc pc (.invokestatic 28) 3 pc2) {hc : Nat} {x0 x1 x2 : Value} {E : Int32} (hM : CI κ.1.2.1 yX3_index cX3_index 3 (some .int) hc G b N w [x0, x1, x2] (fun r w2 => r = E ∧ w2 = w)) (hR : hc + 1 ≤ h) (hnL : L.length = nL) (hcat : (st.map fun v => v.category).sum ≤ 8) (k : V κ G b (N, 0, 0) w pc2 L (.int E :: st)) : V κ G b (N, 0, 0) w pc L (x2 :: x1 :: x0 :: st) := cv_X3_28 X d hM hR hnL hcat (fun r w2 hp => by rw [hp.1, hp.2]; exact k)
theorem mx_X3_32 (X : CX κ G cc nL RX3 cx (h + 1)) (d : Dc cc pc (.invokestatic 32) 3 pc2) (hnL : L.length = nL) (hcat : (st.map fun v => v.category).sum ≤ 8) {x y : Int32} (z : Int32) (e : (if x < y then y else x) = z) (k : V κ G b (N, 0, 0) w pc2 L (.int z :: st)) : V κ G b (N, 0, 0) w pc L (.int y :: .int x :: st) := r_max X d qw_182 qw_183 qw_184 qw_185 hnL hcat z e k
theorem mn_X3_42 (X : CX κ G cc nL RX3 cx (h + 1)) (d : Dc cc pc (.invokestatic 42) 3 pc2) (hnL : L.length = nL) (hcat : (st.map fun v => v.category).sum ≤ 8) {x y : Int32} (z : Int32) (e : (if y < x then y else x) = z) (k : V κ G b (N, 0, 0) w pc2 L (.int z :: st)) : V κ G b (N, 0, 0) w pc L (.int y :: .int x :: st) := r_min X d qw_186 qw_187 qw_184 qw_188 hnL hcat z e k
theorem ab_X3_45 (X : CX κ G cc nL RX3 cx (h + 1)) (d : Dc cc pc (.invokestatic 45) 3 pc2) (hnL : L.length = nL) (hcat : (st.map fun v => v.category).sum ≤ 8) {x : Int32} (z : Int32) (e : iab x = z) (k : V κ G b (N, 0, 0) w pc2 L (.int z :: st)) : V κ G b (N, 0, 0) w pc L (.int x :: st) := r_abs X d qw_189 qw_190 qw_184 qw_191 hnL hcat z e k
theorem cv_X3_38 (X : CX κ G cc nL RX3 cx h) (d : Dc cc pc (.invokevirtual 38) 3 pc2) {q : Nat} {fs : List Value} {hc : Nat} {x0 : Value} {post : Int32 → Wd → Prop} (hM : CI κ.1.2.1 yX3_breadth cX3_breadth 2 (some .int) hc G b N w [.ref (b + q), x0] post) (hR : hc + 1 ≤ h) (hq : q < N) (he : w q = .inr (3, fs)) (hnL : L.length = nL) (hcat : (st.map fun v => v.category).sum ≤ 8) (k : ∀ (r : Int32) (w2 : Wd), post r w2 → V κ G b (N, 0, 0) w2 pc2 L (.int r :: st)) : V κ G b (N, 0, 0) w pc L (x0 :: .ref (b + q) :: st) := r_callVi (n := 1) X hM d qw_192 qw_193 qw_194 qw_14 qw_195 (by decide +kernel) rfl hR (by decide) hq he rfl hnL rfl hcat k
theorem cp_X3_38 (X : CX κ G cc nL RX3 cx h) (d : Dc cc pc (.invokevirtual 38) 3 pc2) {q : Nat} {fs : List Value} {hc : Nat} {x0 : Value} {E : Int32} (hM : CI κ.1.2.1 yX3_breadth cX3_breadth 2 (some .int) hc G b N w [.ref (b + q), x0] (fun r w2 => r = E ∧ w2 = w)) (hR : hc + 1 ≤ h) (hq : q < N) (he : w q = .inr (3, fs)) (hnL : L.length = nL) (hcat : (st.map fun v => v.category).sum ≤ 8) (k : V κ G b (N, 0, 0) w pc2 L (.int E :: st)) : V κ G b (N, 0, 0) w pc L (x0 :: .ref (b + q) :: st) := cv_X3_38 X d hM hR hq he hnL hcat (fun r w2 hp => by rw [hp.1, hp.2]; exact k)
theorem cv_X3_48 (X : CX κ G cc nL RX3 cx h) (d : Dc cc pc (.invokevirtual 48) 3 pc2) {q : Nat} {fs : List Value} {hc : Nat} {x0 x1 x2 : Value} {post : Int32 → Wd → Prop} (hM : CI κ.1.2.1 yX3_gapAt cX3_gapAt 6 (some .int) hc G b N w [.ref (b + q), x0, x1, x2] post) (hR : hc + 1 ≤ h) (hq : q < N) (he : w q = .inr (3, fs)) (hnL : L.length = nL) (hcat : (st.map fun v => v.category).sum ≤ 8) (k : ∀ (r : Int32) (w2 : Wd), post r w2 → V κ G b (N, 0, 0) w2 pc2 L (.int r :: st)) : V κ G b (N, 0, 0) w pc L (x2 :: x1 :: x0 :: .ref (b + q) :: st) := r_callVi (n := 3) X hM d qw_178 qw_179 qw_180 qw_14 qw_181 (by decide +kernel) rfl hR (by decide) hq he rfl hnL rfl hcat k
theorem cp_X3_48 (X : CX κ G cc nL RX3 cx h) (d : Dc cc pc (.invokevirtual 48) 3 pc2) {q : Nat} {fs : List Value} {hc : Nat} {x0 x1 x2 : Value} {E : Int32} (hM : CI κ.1.2.1 yX3_gapAt cX3_gapAt 6 (some .int) hc G b N w [.ref (b + q), x0, x1, x2] (fun r w2 => r = E ∧ w2 = w)) (hR : hc + 1 ≤ h) (hq : q < N) (he : w q = .inr (3, fs)) (hnL : L.length = nL) (hcat : (st.map fun v => v.category).sum ≤ 8) (k : V κ G b (N, 0, 0) w pc2 L (.int E :: st)) : V κ G b (N, 0, 0) w pc L (x2 :: x1 :: x0 :: .ref (b + q) :: st) := cv_X3_48 X d hM hR hq he hnL hcat (fun r w2 hp => by rw [hp.1, hp.2]; exact k)
theorem cv_X3_51 (X : CX κ G cc nL RX3 cx h) (d : Dc cc pc (.invokevirtual 51) 3 pc2) {q : Nat} {fs : List Value} {hc : Nat} {x0 x1 : Value} {post : Int32 → Wd → Prop} (hM : CI κ.1.2.1 yX3_edgeAt cX3_edgeAt 3 (some .int) hc G b N w [.ref (b + q), x0, x1] post) (hR : hc + 1 ≤ h) (hq : q < N) (he : w q = .inr (3, fs)) (hnL : L.length = nL) (hcat : (st.map fun v => v.category).sum ≤ 8) (k : ∀ (r : Int32) (w2 : Wd), post r w2 → V κ G b (N, 0, 0) w2 pc2 L (.int r :: st)) : V κ G b (N, 0, 0) w pc L (x1 :: x0 :: .ref (b + q) :: st) := r_callVi (n := 2) X hM d qw_200 qw_175 qw_176 qw_14 qw_177 (by decide +kernel) rfl hR (by decide) hq he rfl hnL rfl hcat k
theorem cp_X3_51 (X : CX κ G cc nL RX3 cx h) (d : Dc cc pc (.invokevirtual 51) 3 pc2) {q : Nat} {fs : List Value} {hc : Nat} {x0 x1 : Value} {E : Int32} (hM : CI κ.1.2.1 yX3_edgeAt cX3_edgeAt 3 (some .int) hc G b N w [.ref (b + q), x0, x1] (fun r w2 => r = E ∧ w2 = w)) (hR : hc + 1 ≤ h) (hq : q < N) (he : w q = .inr (3, fs)) (hnL : L.length = nL) (hcat : (st.map fun v => v.category).sum ≤ 8) (k : V κ G b (N, 0, 0) w pc2 L (.int E :: st)) : V κ G b (N, 0, 0) w pc L (x1 :: x0 :: .ref (b + q) :: st) := cv_X3_51 X d hM hR hq he hnL hcat (fun r w2 hp => by rw [hp.1, hp.2]; exact k)
theorem cv_X3_54 (X : CX κ G cc nL RX3 cx h) (d : Dc cc pc (.invokevirtual 54) 3 pc2) {q : Nat} {fs : List Value} {hc : Nat} {x0 x1 x2 : Value} {post : Int32 → Wd → Prop} (hM : CI κ.1.2.1 yX3_extraAt cX3_extraAt 5 (some .int) hc G b N w [.ref (b + q), x0, x1, x2] post) (hR : hc + 1 ≤ h) (hq : q < N) (he : w q = .inr (3, fs)) (hnL : L.length = nL) (hcat : (st.map fun v => v.category).sum ≤ 8) (k : ∀ (r : Int32) (w2 : Wd), post r w2 → V κ G b (N, 0, 0) w2 pc2 L (.int r :: st)) : V κ G b (N, 0, 0) w pc L (x2 :: x1 :: x0 :: .ref (b + q) :: st) := r_callVi (n := 3) X hM d qw_201 qw_202 qw_203 qw_14 qw_204 (by decide +kernel) rfl hR (by decide) hq he rfl hnL rfl hcat k
theorem cp_X3_54 (X : CX κ G cc nL RX3 cx h) (d : Dc cc pc (.invokevirtual 54) 3 pc2) {q : Nat} {fs : List Value} {hc : Nat} {x0 x1 x2 : Value} {E : Int32} (hM : CI κ.1.2.1 yX3_extraAt cX3_extraAt 5 (some .int) hc G b N w [.ref (b + q), x0, x1, x2] (fun r w2 => r = E ∧ w2 = w)) (hR : hc + 1 ≤ h) (hq : q < N) (he : w q = .inr (3, fs)) (hnL : L.length = nL) (hcat : (st.map fun v => v.category).sum ≤ 8) (k : V κ G b (N, 0, 0) w pc2 L (.int E :: st)) : V κ G b (N, 0, 0) w pc L (x2 :: x1 :: x0 :: .ref (b + q) :: st) := cv_X3_54 X d hM hR hq he hnL hcat (fun r w2 hp => by rw [hp.1, hp.2]; exact k)
theorem cv_X3_57 (X : CX κ G cc nL RX3 cx h) (d : Dc cc pc (.invokevirtual 57) 3 pc2) {q : Nat} {fs : List Value} {hc : Nat} {x0 x1 : Value} {post : Int32 → Wd → Prop} (hM : CI κ.1.2.1 yX3_weightAt cX3_weightAt 3 (some .int) hc G b N w [.ref (b + q), x0, x1] post) (hR : hc + 1 ≤ h) (hq : q < N) (he : w q = .inr (3, fs)) (hnL : L.length = nL) (hcat : (st.map fun v => v.category).sum ≤ 8) (k : ∀ (r : Int32) (w2 : Wd), post r w2 → V κ G b (N, 0, 0) w2 pc2 L (.int r :: st)) : V κ G b (N, 0, 0) w pc L (x1 :: x0 :: .ref (b + q) :: st) := r_callVi (n := 2) X hM d qw_498 qw_197 qw_198 qw_14 qw_199 (by decide +kernel) rfl hR (by decide) hq he rfl hnL rfl hcat k
theorem cp_X3_57 (X : CX κ G cc nL RX3 cx h) (d : Dc cc pc (.invokevirtual 57) 3 pc2) {q : Nat} {fs : List Value} {hc : Nat} {x0 x1 : Value} {E : Int32} (hM : CI κ.1.2.1 yX3_weightAt cX3_weightAt 3 (some .int) hc G b N w [.ref (b + q), x0, x1] (fun r w2 => r = E ∧ w2 = w)) (hR : hc + 1 ≤ h) (hq : q < N) (he : w q = .inr (3, fs)) (hnL : L.length = nL) (hcat : (st.map fun v => v.category).sum ≤ 8) (k : V κ G b (N, 0, 0) w pc2 L (.int E :: st)) : V κ G b (N, 0, 0) w pc L (x1 :: x0 :: .ref (b + q) :: st) := cv_X3_57 X d hM hR hq he hnL hcat (fun r w2 hp => by rw [hp.1, hp.2]; exact k)
theorem cv_X3_60 (X : CX κ G cc nL RX3 cx h) (d : Dc cc pc (.invokevirtual 60) 3 pc2) {q : Nat} {fs : List Value} {hc : Nat} {x0 x1 x2 : Value} {post : Int32 → Wd → Prop} (hM : CI κ.1.2.1 yX3_greyAt cX3_greyAt 4 (some .int) hc G b N w [.ref (b + q), x0, x1, x2] post) (hR : hc + 1 ≤ h) (hq : q < N) (he : w q = .inr (3, fs)) (hnL : L.length = nL) (hcat : (st.map fun v => v.category).sum ≤ 8) (k : ∀ (r : Int32) (w2 : Wd), post r w2 → V κ G b (N, 0, 0) w2 pc2 L (.int r :: st)) : V κ G b (N, 0, 0) w pc L (x2 :: x1 :: x0 :: .ref (b + q) :: st) := r_callVi (n := 3) X hM d qw_481 qw_167 qw_168 qw_14 qw_169 (by decide +kernel) rfl hR (by decide) hq he rfl hnL rfl hcat k
theorem cp_X3_60 (X : CX κ G cc nL RX3 cx h) (d : Dc cc pc (.invokevirtual 60) 3 pc2) {q : Nat} {fs : List Value} {hc : Nat} {x0 x1 x2 : Value} {E : Int32} (hM : CI κ.1.2.1 yX3_greyAt cX3_greyAt 4 (some .int) hc G b N w [.ref (b + q), x0, x1, x2] (fun r w2 => r = E ∧ w2 = w)) (hR : hc + 1 ≤ h) (hq : q < N) (he : w q = .inr (3, fs)) (hnL : L.length = nL) (hcat : (st.map fun v => v.category).sum ≤ 8) (k : V κ G b (N, 0, 0) w pc2 L (.int E :: st)) : V κ G b (N, 0, 0) w pc L (x2 :: x1 :: x0 :: .ref (b + q) :: st) := cv_X3_60 X d hM hR hq he hnL hcat (fun r w2 hp => by rw [hp.1, hp.2]; exact k)
theorem cv_X3_63 (X : CX κ G cc nL RX3 cx h) (d : Dc cc pc (.invokevirtual 63) 3 pc2) {q : Nat} {fs : List Value} {hc : Nat} {x0 x1 x2 : Value} {post : Int32 → Wd → Prop} (hM : CI κ.1.2.1 yX3_markAt cX3_markAt 4 (some .int) hc G b N w [.ref (b + q), x0, x1, x2] post) (hR : hc + 1 ≤ h) (hq : q < N) (he : w q = .inr (3, fs)) (hnL : L.length = nL) (hcat : (st.map fun v => v.category).sum ≤ 8) (k : ∀ (r : Int32) (w2 : Wd), post r w2 → V κ G b (N, 0, 0) w2 pc2 L (.int r :: st)) : V κ G b (N, 0, 0) w pc L (x2 :: x1 :: x0 :: .ref (b + q) :: st) := r_callVi (n := 3) X hM d qw_545 qw_171 qw_172 qw_14 qw_173 (by decide +kernel) rfl hR (by decide) hq he rfl hnL rfl hcat k
theorem cp_X3_63 (X : CX κ G cc nL RX3 cx h) (d : Dc cc pc (.invokevirtual 63) 3 pc2) {q : Nat} {fs : List Value} {hc : Nat} {x0 x1 x2 : Value} {E : Int32} (hM : CI κ.1.2.1 yX3_markAt cX3_markAt 4 (some .int) hc G b N w [.ref (b + q), x0, x1, x2] (fun r w2 => r = E ∧ w2 = w)) (hR : hc + 1 ≤ h) (hq : q < N) (he : w q = .inr (3, fs)) (hnL : L.length = nL) (hcat : (st.map fun v => v.category).sum ≤ 8) (k : V κ G b (N, 0, 0) w pc2 L (.int E :: st)) : V κ G b (N, 0, 0) w pc L (x2 :: x1 :: x0 :: .ref (b + q) :: st) := cv_X3_63 X d hM hR hq he hnL hcat (fun r w2 hp => by rw [hp.1, hp.2]; exact k)
theorem cv_X3_71 (X : CX κ G cc nL RX3 cx h) (d : Dc cc pc (.invokevirtual 71) 3 pc2) {q : Nat} {fs : List Value} {hc : Nat} {x0 : Value} {post : Int32 → Wd → Prop} (hM : CI κ.1.2.1 yX3_lines cX3_lines 2 (some .int) hc G b N w [.ref (b + q), x0] post) (hR : hc + 1 ≤ h) (hq : q < N) (he : w q = .inr (3, fs)) (hnL : L.length = nL) (hcat : (st.map fun v => v.category).sum ≤ 8) (k : ∀ (r : Int32) (w2 : Wd), post r w2 → V κ G b (N, 0, 0) w2 pc2 L (.int r :: st)) : V κ G b (N, 0, 0) w pc L (x0 :: .ref (b + q) :: st) := r_callVi (n := 1) X hM d qw_439 qw_341 qw_342 qw_14 qw_343 (by decide +kernel) rfl hR (by decide) hq he rfl hnL rfl hcat k
theorem cp_X3_71 (X : CX κ G cc nL RX3 cx h) (d : Dc cc pc (.invokevirtual 71) 3 pc2) {q : Nat} {fs : List Value} {hc : Nat} {x0 : Value} {E : Int32} (hM : CI κ.1.2.1 yX3_lines cX3_lines 2 (some .int) hc G b N w [.ref (b + q), x0] (fun r w2 => r = E ∧ w2 = w)) (hR : hc + 1 ≤ h) (hq : q < N) (he : w q = .inr (3, fs)) (hnL : L.length = nL) (hcat : (st.map fun v => v.category).sum ≤ 8) (k : V κ G b (N, 0, 0) w pc2 L (.int E :: st)) : V κ G b (N, 0, 0) w pc L (x0 :: .ref (b + q) :: st) := cv_X3_71 X d hM hR hq he hnL hcat (fun r w2 hp => by rw [hp.1, hp.2]; exact k)
theorem cv_X3_77 (X : CX κ G cc nL RX3 cx h) (d : Dc cc pc (.invokevirtual 77) 3 pc2) {q : Nat} {fs : List Value} {hc : Nat} {x0 x1 x2 x3 : Value} {post : Wd → Prop} (hM : CV κ.1.2.1 yX3_moveDot cX3_moveDot 7 hc G b N w [.ref (b + q), x0, x1, x2, x3] post) (hR : hc + 1 ≤ h) (hq : q < N) (he : w q = .inr (3, fs)) (hnL : L.length = nL) (hcat : (st.map fun v => v.category).sum ≤ 8) (k : ∀ (w2 : Wd), post w2 → V κ G b (N, 0, 0) w2 pc2 L st) : V κ G b (N, 0, 0) w pc L (x3 :: x2 :: x1 :: x0 :: .ref (b + q) :: st) := r_callVv (n := 4) X hM d qw_440 qw_441 qw_442 qw_14 qw_443 (by decide +kernel) rfl hR (by decide) hq he rfl hnL rfl hcat k
theorem cv_X3_81 (X : CX κ G cc nL RX3 cx h) (d : Dc cc pc (.invokevirtual 81) 3 pc2) {q : Nat} {fs : List Value} {hc : Nat} {x0 x1 : Value} {post : Wd → Prop} (hM : CV κ.1.2.1 yX3_broaden cX3_broaden 3 hc G b N w [.ref (b + q), x0, x1] post) (hR : hc + 1 ≤ h) (hq : q < N) (he : w q = .inr (3, fs)) (hnL : L.length = nL) (hcat : (st.map fun v => v.category).sum ≤ 8) (k : ∀ (w2 : Wd), post w2 → V κ G b (N, 0, 0) w2 pc2 L st) : V κ G b (N, 0, 0) w pc L (x1 :: x0 :: .ref (b + q) :: st) := r_callVv (n := 2) X hM d qw_444 qw_445 qw_446 qw_14 qw_447 (by decide +kernel) rfl hR (by decide) hq he rfl hnL rfl hcat k
theorem pf_X3_9 (X : CX κ G cc nL RX3 cx h) (d : Dc cc pc (.putfield 9) 3 pc2) {q : Nat} {v0 v1 v2 v3 v4 : Value} {x : Int32} (hq : q < ν.1) (he : w q = .inr (3, [v0, v1, v2, v3, v4])) (k : ∀ w2 : Wd, w2 q = .inr (3, [.int x, v1, v2, v3, v4]) → (∀ j, j ≠ q → w2 j = w j) → V κ G b ν w2 pc2 L st) : V κ G b ν w pc L (.int x :: .ref (b + q) :: st) := r_put X d rfl inlX3 tyX3 tyX3_ok nmX3 0 (by decide) qw_39 rfl hq he rfl rfl (Nat.le_of_ble_eq_true rfl) rfl k
theorem pf_X3_15 (X : CX κ G cc nL RX3 cx h) (d : Dc cc pc (.putfield 15) 3 pc2) {q : Nat} {v0 v1 v2 v3 v4 : Value} {x : Int32} (hq : q < ν.1) (he : w q = .inr (3, [v0, v1, v2, v3, v4])) (k : ∀ w2 : Wd, w2 q = .inr (3, [v0, .int x, v2, v3, v4]) → (∀ j, j ≠ q → w2 j = w j) → V κ G b ν w2 pc2 L st) : V κ G b ν w pc L (.int x :: .ref (b + q) :: st) := r_put X d rfl inlX3 tyX3 tyX3_ok nmX3 1 (by decide) qw_40 rfl hq he rfl rfl (Nat.le_of_ble_eq_true rfl) rfl k
theorem pf_X3_25 (X : CX κ G cc nL RX3 cx h) (d : Dc cc pc (.putfield 25) 3 pc2) {q : Nat} {v0 v1 v2 v3 v4 : Value} {x : Int32} (hq : q < ν.1) (he : w q = .inr (3, [v0, v1, v2, v3, v4])) (k : ∀ w2 : Wd, w2 q = .inr (3, [v0, v1, .int x, v3, v4]) → (∀ j, j ≠ q → w2 j = w j) → V κ G b ν w2 pc2 L st) : V κ G b ν w pc L (.int x :: .ref (b + q) :: st) := r_put X d rfl inlX3 tyX3 tyX3_ok nmX3 2 (by decide) qw_360 rfl hq he rfl rfl (Nat.le_of_ble_eq_true rfl) rfl k
theorem gf_X4_9 (X : CX κ G cc nL RX4 cx h) (d : Dc cc pc (.getfield 9) 3 pc2) {q : Nat} {v0 v1 v2 v3 v4 : Value} (hq : q < ν.1) (he : w q = .inr (4, [v0, v1, v2, v3, v4])) (k : V κ G b ν w pc2 L (v2 :: st)) : V κ G b ν w pc L (.ref (b + q) :: st) := r_get X d rfl inlX4 2 (by decide) qw_48 hq he rfl k
theorem gf_X4_15 (X : CX κ G cc nL RX4 cx h) (d : Dc cc pc (.getfield 15) 3 pc2) {q : Nat} {v0 v1 v2 v3 v4 : Value} (hq : q < ν.1) (he : w q = .inr (4, [v0, v1, v2, v3, v4])) (k : V κ G b ν w pc2 L (v3 :: st)) : V κ G b ν w pc L (.ref (b + q) :: st) := r_get X d rfl inlX4 3 (by decide) qw_49 hq he rfl k
theorem gf_X4_18 (X : CX κ G cc nL RX4 cx h) (d : Dc cc pc (.getfield 18) 3 pc2) {q : Nat} {v0 v1 v2 v3 v4 : Value} (hq : q < ν.1) (he : w q = .inr (4, [v0, v1, v2, v3, v4])) (k : V κ G b ν w pc2 L (v4 :: st)) : V κ G b ν w pc L (.ref (b + q) :: st) := r_get X d rfl inlX4 4 (by decide) qw_50 hq he rfl k
theorem gf_X4_21 (X : CX κ G cc nL RX4 cx h) (d : Dc cc pc (.getfield 21) 3 pc2) {q : Nat} {v0 v1 v2 v3 v4 : Value} (hq : q < ν.1) (he : w q = .inr (4, [v0, v1, v2, v3, v4])) (k : V κ G b ν w pc2 L (v0 :: st)) : V κ G b ν w pc L (.ref (b + q) :: st) := r_get X d rfl inlX4 0 (by decide) qw_348 hq he rfl k
theorem mx_X4_52 (X : CX κ G cc nL RX4 cx (h + 1)) (d : Dc cc pc (.invokestatic 52) 3 pc2) (hnL : L.length = nL) (hcat : (st.map fun v => v.category).sum ≤ 8) {x y : Int32} (z : Int32) (e : (if x < y then y else x) = z) (k : V κ G b (N, 0, 0) w pc2 L (.int z :: st)) : V κ G b (N, 0, 0) w pc L (.int y :: .int x :: st) := r_max X d qw_365 qw_183 qw_184 qw_185 hnL hcat z e k
theorem mn_X4_58 (X : CX κ G cc nL RX4 cx (h + 1)) (d : Dc cc pc (.invokestatic 58) 3 pc2) (hnL : L.length = nL) (hcat : (st.map fun v => v.category).sum ≤ 8) {x y : Int32} (z : Int32) (e : (if y < x then y else x) = z) (k : V κ G b (N, 0, 0) w pc2 L (.int z :: st)) : V κ G b (N, 0, 0) w pc L (.int y :: .int x :: st) := r_min X d qw_366 qw_187 qw_184 qw_188 hnL hcat z e k
theorem ab_X4_73 (X : CX κ G cc nL RX4 cx (h + 1)) (d : Dc cc pc (.invokestatic 73) 3 pc2) (hnL : L.length = nL) (hcat : (st.map fun v => v.category).sum ≤ 8) {x : Int32} (z : Int32) (e : iab x = z) (k : V κ G b (N, 0, 0) w pc2 L (.int z :: st)) : V κ G b (N, 0, 0) w pc L (.int x :: st) := r_abs X d qw_415 qw_190 qw_184 qw_191 hnL hcat z e k
theorem cv_X4_25 (X : CX κ G cc nL RX4 cx h) (d : Dc cc pc (.invokevirtual 25) 3 pc2) {q : Nat} {fs : List Value} {hc : Nat} {x0 : Value} {post : Int32 → Wd → Prop} (hM : CI κ.1.2.1 yX3_lines cX3_lines 2 (some .int) hc G b N w [.ref (b + q), x0] post) (hR : hc + 1 ≤ h) (hq : q < N) (he : w q = .inr (3, fs)) (hnL : L.length = nL) (hcat : (st.map fun v => v.category).sum ≤ 8) (k : ∀ (r : Int32) (w2 : Wd), post r w2 → V κ G b (N, 0, 0) w2 pc2 L (.int r :: st)) : V κ G b (N, 0, 0) w pc L (x0 :: .ref (b + q) :: st) := r_callVi (n := 1) X hM d qw_350 qw_341 qw_342 qw_14 qw_343 (by decide +kernel) rfl hR (by decide) hq he rfl hnL rfl hcat k
theorem cp_X4_25 (X : CX κ G cc nL RX4 cx h) (d : Dc cc pc (.invokevirtual 25) 3 pc2) {q : Nat} {fs : List Value} {hc : Nat} {x0 : Value} {E : Int32} (hM : CI κ.1.2.1 yX3_lines cX3_lines 2 (some .int) hc G b N w [.ref (b + q), x0] (fun r w2 => r = E ∧ w2 = w)) (hR : hc + 1 ≤ h) (hq : q < N) (he : w q = .inr (3, fs)) (hnL : L.length = nL) (hcat : (st.map fun v => v.category).sum ≤ 8) (k : V κ G b (N, 0, 0) w pc2 L (.int E :: st)) : V κ G b (N, 0, 0) w pc L (x0 :: .ref (b + q) :: st) := cv_X4_25 X d hM hR hq he hnL hcat (fun r w2 hp => by rw [hp.1, hp.2]; exact k)
theorem cv_X4_31 (X : CX κ G cc nL RX4 cx h) (d : Dc cc pc (.invokevirtual 31) 3 pc2) {q : Nat} {fs : List Value} {hc : Nat} {x0 : Value} {post : Int32 → Wd → Prop} (hM : CI κ.1.2.1 yX3_breadth cX3_breadth 2 (some .int) hc G b N w [.ref (b + q), x0] post) (hR : hc + 1 ≤ h) (hq : q < N) (he : w q = .inr (3, fs)) (hnL : L.length = nL) (hcat : (st.map fun v => v.category).sum ≤ 8) (k : ∀ (r : Int32) (w2 : Wd), post r w2 → V κ G b (N, 0, 0) w2 pc2 L (.int r :: st)) : V κ G b (N, 0, 0) w pc L (x0 :: .ref (b + q) :: st) := r_callVi (n := 1) X hM d qw_351 qw_193 qw_194 qw_14 qw_195 (by decide +kernel) rfl hR (by decide) hq he rfl hnL rfl hcat k
theorem cp_X4_31 (X : CX κ G cc nL RX4 cx h) (d : Dc cc pc (.invokevirtual 31) 3 pc2) {q : Nat} {fs : List Value} {hc : Nat} {x0 : Value} {E : Int32} (hM : CI κ.1.2.1 yX3_breadth cX3_breadth 2 (some .int) hc G b N w [.ref (b + q), x0] (fun r w2 => r = E ∧ w2 = w)) (hR : hc + 1 ≤ h) (hq : q < N) (he : w q = .inr (3, fs)) (hnL : L.length = nL) (hcat : (st.map fun v => v.category).sum ≤ 8) (k : V κ G b (N, 0, 0) w pc2 L (.int E :: st)) : V κ G b (N, 0, 0) w pc L (x0 :: .ref (b + q) :: st) := cv_X4_31 X d hM hR hq he hnL hcat (fun r w2 hp => by rw [hp.1, hp.2]; exact k)
theorem cv_X4_34 (X : CX κ G cc nL RX4 cx h) (d : Dc cc pc (.invokevirtual 34) 3 pc2) {q : Nat} {fs : List Value} {hc : Nat} {x0 x1 x2 x3 : Value} {post : Wd → Prop} (hM : CV κ.1.2.1 yX4_weighDot cX4_weighDot 6 hc G b N w [.ref (b + q), x0, x1, x2, x3] post) (hR : hc + 1 ≤ h) (hq : q < N) (he : w q = .inr (4, fs)) (hnL : L.length = nL) (hcat : (st.map fun v => v.category).sum ≤ 8) (k : ∀ (w2 : Wd), post w2 → V κ G b (N, 0, 0) w2 pc2 L st) : V κ G b (N, 0, 0) w pc L (x3 :: x2 :: x1 :: x0 :: .ref (b + q) :: st) := r_callVv (n := 4) X hM d qw_352 qw_353 qw_354 qw_18 qw_355 (by decide +kernel) rfl hR (by decide) hq he rfl hnL rfl hcat k
theorem cv_X4_38 (X : CX κ G cc nL RX4 cx h) (d : Dc cc pc (.invokevirtual 38) 3 pc2) {q : Nat} {fs : List Value} {hc : Nat} {x0 : Value} {post : Int32 → Wd → Prop} (hM : CI κ.1.2.1 yX4_leastStart cX4_leastStart 4 (some .int) hc G b N w [.ref (b + q), x0] post) (hR : hc + 1 ≤ h) (hq : q < N) (he : w q = .inr (4, fs)) (hnL : L.length = nL) (hcat : (st.map fun v => v.category).sum ≤ 8) (k : ∀ (r : Int32) (w2 : Wd), post r w2 → V κ G b (N, 0, 0) w2 pc2 L (.int r :: st)) : V κ G b (N, 0, 0) w pc L (x0 :: .ref (b + q) :: st) := r_callVi (n := 1) X hM d qw_371 qw_372 qw_373 qw_18 qw_374 (by decide +kernel) rfl hR (by decide) hq he rfl hnL rfl hcat k
theorem cp_X4_38 (X : CX κ G cc nL RX4 cx h) (d : Dc cc pc (.invokevirtual 38) 3 pc2) {q : Nat} {fs : List Value} {hc : Nat} {x0 : Value} {E : Int32} (hM : CI κ.1.2.1 yX4_leastStart cX4_leastStart 4 (some .int) hc G b N w [.ref (b + q), x0] (fun r w2 => r = E ∧ w2 = w)) (hR : hc + 1 ≤ h) (hq : q < N) (he : w q = .inr (4, fs)) (hnL : L.length = nL) (hcat : (st.map fun v => v.category).sum ≤ 8) (k : V κ G b (N, 0, 0) w pc2 L (.int E :: st)) : V κ G b (N, 0, 0) w pc L (x0 :: .ref (b + q) :: st) := cv_X4_38 X d hM hR hq he hnL hcat (fun r w2 hp => by rw [hp.1, hp.2]; exact k)
theorem cv_X4_44 (X : CX κ G cc nL RX4 cx h) (d : Dc cc pc (.invokevirtual 44) 3 pc2) {q : Nat} {fs : List Value} {hc : Nat} {x0 x1 x2 : Value} {post : Int32 → Wd → Prop} (hM : CI κ.1.2.1 yX3_standingCost cX3_standingCost 5 (some .int) hc G b N w [.ref (b + q), x0, x1, x2] post) (hR : hc + 1 ≤ h) (hq : q < N) (he : w q = .inr (3, fs)) (hnL : L.length = nL) (hcat : (st.map fun v => v.category).sum ≤ 8) (k : ∀ (r : Int32) (w2 : Wd), post r w2 → V κ G b (N, 0, 0) w2 pc2 L (.int r :: st)) : V κ G b (N, 0, 0) w pc L (x2 :: x1 :: x0 :: .ref (b + q) :: st) := r_callVi (n := 3) X hM d qw_356 qw_357 qw_358 qw_14 qw_359 (by decide +kernel) rfl hR (by decide) hq he rfl hnL rfl hcat k
theorem cp_X4_44 (X : CX κ G cc nL RX4 cx h) (d : Dc cc pc (.invokevirtual 44) 3 pc2) {q : Nat} {fs : List Value} {hc : Nat} {x0 x1 x2 : Value} {E : Int32} (hM : CI κ.1.2.1 yX3_standingCost cX3_standingCost 5 (some .int) hc G b N w [.ref (b + q), x0, x1, x2] (fun r w2 => r = E ∧ w2 = w)) (hR : hc + 1 ≤ h) (hq : q < N) (he : w q = .inr (3, fs)) (hnL : L.length = nL) (hcat : (st.map fun v => v.category).sum ≤ 8) (k : V κ G b (N, 0, 0) w pc2 L (.int E :: st)) : V κ G b (N, 0, 0) w pc L (x2 :: x1 :: x0 :: .ref (b + q) :: st) := cv_X4_44 X d hM hR hq he hnL hcat (fun r w2 hp => by rw [hp.1, hp.2]; exact k)
theorem cv_X4_48 (X : CX κ G cc nL RX4 cx h) (d : Dc cc pc (.invokevirtual 48) 3 pc2) {q : Nat} {fs : List Value} {hc : Nat} {x0 x1 x2 : Value} {post : Wd → Prop} (hM : CV κ.1.2.1 yX4_goOnFrom cX4_goOnFrom 10 hc G b N w [.ref (b + q), x0, x1, x2] post) (hR : hc + 1 ≤ h) (hq : q < N) (he : w q = .inr (4, fs)) (hnL : L.length = nL) (hcat : (st.map fun v => v.category).sum ≤ 8) (k : ∀ (w2 : Wd), post w2 → V κ G b (N, 0, 0) w2 pc2 L st) : V κ G b (N, 0, 0) w pc L (x2 :: x1 :: x0 :: .ref (b + q) :: st) := r_callVv (n := 3) X hM d qw_361 qw_362 qw_363 qw_18 qw_364 (by decide +kernel) rfl hR (by decide) hq he rfl hnL rfl hcat k
theorem cv_X4_61 (X : CX κ G cc nL RX4 cx h) (d : Dc cc pc (.invokevirtual 61) 3 pc2) {q : Nat} {fs : List Value} {hc : Nat} {x0 x1 x2 x3 : Value} {post : Int32 → Wd → Prop} (hM : CI κ.1.2.1 yX3_turningCost cX3_turningCost 7 (some .int) hc G b N w [.ref (b + q), x0, x1, x2, x3] post) (hR : hc + 1 ≤ h) (hq : q < N) (he : w q = .inr (3, fs)) (hnL : L.length = nL) (hcat : (st.map fun v => v.category).sum ≤ 8) (k : ∀ (r : Int32) (w2 : Wd), post r w2 → V κ G b (N, 0, 0) w2 pc2 L (.int r :: st)) : V κ G b (N, 0, 0) w pc L (x3 :: x2 :: x1 :: x0 :: .ref (b + q) :: st) := r_callVi (n := 4) X hM d qw_367 qw_368 qw_369 qw_14 qw_370 (by decide +kernel) rfl hR (by decide) hq he rfl hnL rfl hcat k
theorem cp_X4_61 (X : CX κ G cc nL RX4 cx h) (d : Dc cc pc (.invokevirtual 61) 3 pc2) {q : Nat} {fs : List Value} {hc : Nat} {x0 x1 x2 x3 : Value} {E : Int32} (hM : CI κ.1.2.1 yX3_turningCost cX3_turningCost 7 (some .int) hc G b N w [.ref (b + q), x0, x1, x2, x3] (fun r w2 => r = E ∧ w2 = w)) (hR : hc + 1 ≤ h) (hq : q < N) (he : w q = .inr (3, fs)) (hnL : L.length = nL) (hcat : (st.map fun v => v.category).sum ≤ 8) (k : V κ G b (N, 0, 0) w pc2 L (.int E :: st)) : V κ G b (N, 0, 0) w pc L (x3 :: x2 :: x1 :: x0 :: .ref (b + q) :: st) := cv_X4_61 X d hM hR hq he hnL hcat (fun r w2 hp => by rw [hp.1, hp.2]; exact k)
theorem cv_X4_65 (X : CX κ G cc nL RX4 cx h) (d : Dc cc pc (.invokevirtual 65) 3 pc2) {q : Nat} {fs : List Value} {hc : Nat} {x0 x1 : Value} {post : Int32 → Wd → Prop} (hM : CI κ.1.2.1 yX4_hangsTogether cX4_hangsTogether 4 (some .boolean) hc G b N w [.ref (b + q), x0, x1] post) (hR : hc + 1 ≤ h) (hq : q < N) (he : w q = .inr (4, fs)) (hnL : L.length = nL) (hcat : (st.map fun v => v.category).sum ≤ 8) (k : ∀ (r : Int32) (w2 : Wd), post r w2 → V κ G b (N, 0, 0) w2 pc2 L (.int r :: st)) : V κ G b (N, 0, 0) w pc L (x1 :: x0 :: .ref (b + q) :: st) := r_callVi (n := 2) X hM d qw_411 qw_412 qw_413 qw_18 qw_414 (by decide +kernel) rfl hR (by decide) hq he rfl hnL rfl hcat k
theorem cp_X4_65 (X : CX κ G cc nL RX4 cx h) (d : Dc cc pc (.invokevirtual 65) 3 pc2) {q : Nat} {fs : List Value} {hc : Nat} {x0 x1 : Value} {E : Int32} (hM : CI κ.1.2.1 yX4_hangsTogether cX4_hangsTogether 4 (some .boolean) hc G b N w [.ref (b + q), x0, x1] (fun r w2 => r = E ∧ w2 = w)) (hR : hc + 1 ≤ h) (hq : q < N) (he : w q = .inr (4, fs)) (hnL : L.length = nL) (hcat : (st.map fun v => v.category).sum ≤ 8) (k : V κ G b (N, 0, 0) w pc2 L (.int E :: st)) : V κ G b (N, 0, 0) w pc L (x1 :: x0 :: .ref (b + q) :: st) := cv_X4_65 X d hM hR hq he hnL hcat (fun r w2 hp => by rw [hp.1, hp.2]; exact k)
theorem cv_X4_69 (X : CX κ G cc nL RX4 cx h) (d : Dc cc pc (.invokevirtual 69) 3 pc2) {q : Nat} {fs : List Value} {hc : Nat} {x0 x1 : Value} {post : Int32 → Wd → Prop} (hM : CI κ.1.2.1 yX4_sumOfCosts cX4_sumOfCosts 5 (some .int) hc G b N w [.ref (b + q), x0, x1] post) (hR : hc + 1 ≤ h) (hq : q < N) (he : w q = .inr (4, fs)) (hnL : L.length = nL) (hcat : (st.map fun v => v.category).sum ≤ 8) (k : ∀ (r : Int32) (w2 : Wd), post r w2 → V κ G b (N, 0, 0) w2 pc2 L (.int r :: st)) : V κ G b (N, 0, 0) w pc L (x1 :: x0 :: .ref (b + q) :: st) := r_callVi (n := 2) X hM d qw_416 qw_417 qw_418 qw_18 qw_419 (by decide +kernel) rfl hR (by decide) hq he rfl hnL rfl hcat k
theorem cp_X4_69 (X : CX κ G cc nL RX4 cx h) (d : Dc cc pc (.invokevirtual 69) 3 pc2) {q : Nat} {fs : List Value} {hc : Nat} {x0 x1 : Value} {E : Int32} (hM : CI κ.1.2.1 yX4_sumOfCosts cX4_sumOfCosts 5 (some .int) hc G b N w [.ref (b + q), x0, x1] (fun r w2 => r = E ∧ w2 = w)) (hR : hc + 1 ≤ h) (hq : q < N) (he : w q = .inr (4, fs)) (hnL : L.length = nL) (hcat : (st.map fun v => v.category).sum ≤ 8) (k : V κ G b (N, 0, 0) w pc2 L (.int E :: st)) : V κ G b (N, 0, 0) w pc L (x1 :: x0 :: .ref (b + q) :: st) := cv_X4_69 X d hM hR hq he hnL hcat (fun r w2 hp => by rw [hp.1, hp.2]; exact k)
theorem pf_X4_21 (X : CX κ G cc nL RX4 cx h) (d : Dc cc pc (.putfield 21) 3 pc2) {q : Nat} {v0 v1 v2 v3 v4 : Value} {x : Int32} (hq : q < ν.1) (he : w q = .inr (4, [v0, v1, v2, v3, v4])) (k : ∀ w2 : Wd, w2 q = .inr (4, [.int x, v1, v2, v3, v4]) → (∀ j, j ≠ q → w2 j = w j) → V κ G b ν w2 pc2 L st) : V κ G b ν w pc L (.int x :: .ref (b + q) :: st) := r_put X d rfl inlX4 tyX4 tyX4_ok nmX4 0 (by decide) qw_348 rfl hq he rfl rfl (Nat.le_of_ble_eq_true rfl) rfl k
theorem pf_X4_41 (X : CX κ G cc nL RX4 cx h) (d : Dc cc pc (.putfield 41) 3 pc2) {q : Nat} {v0 v1 v2 v3 v4 : Value} {x : Int32} (hq : q < ν.1) (he : w q = .inr (4, [v0, v1, v2, v3, v4])) (k : ∀ w2 : Wd, w2 q = .inr (4, [v0, .int x, v2, v3, v4]) → (∀ j, j ≠ q → w2 j = w j) → V κ G b ν w2 pc2 L st) : V κ G b ν w pc L (.int x :: .ref (b + q) :: st) := r_put X d rfl inlX4 tyX4 tyX4_ok nmX4 1 (by decide) qw_349 rfl hq he rfl rfl (Nat.le_of_ble_eq_true rfl) rfl k
theorem gf_X5_10 (X : CX κ G cc nL RX5 cx h) (d : Dc cc pc (.getfield 10) 3 pc2) {q : Nat} {v0 v1 v2 v3 v4 v5 v6 : Value} (hq : q < ν.1) (he : w q = .inr (5, [v0, v1, v2, v3, v4, v5, v6])) (k : V κ G b ν w pc2 L (v0 :: st)) : V κ G b ν w pc L (.ref (b + q) :: st) := r_get X d rfl inlX5 0 (by decide) qw_15 hq he rfl k
theorem gf_X5_19 (X : CX κ G cc nL RX5 cx h) (d : Dc cc pc (.getfield 19) 3 pc2) {q : Nat} {v0 v1 v2 v3 v4 v5 v6 : Value} (hq : q < ν.1) (he : w q = .inr (5, [v0, v1, v2, v3, v4, v5, v6])) (k : V κ G b ν w pc2 L (v1 :: st)) : V κ G b ν w pc L (.ref (b + q) :: st) := r_get X d rfl inlX5 1 (by decide) qw_19 hq he rfl k
theorem gf_X5_26 (X : CX κ G cc nL RX5 cx h) (d : Dc cc pc (.getfield 26) 3 pc2) {q : Nat} {v0 v1 v2 v3 v4 v5 v6 : Value} (hq : q < ν.1) (he : w q = .inr (5, [v0, v1, v2, v3, v4, v5, v6])) (k : V κ G b ν w pc2 L (v2 :: st)) : V κ G b ν w pc L (.ref (b + q) :: st) := r_get X d rfl inlX5 2 (by decide) qw_23 hq he rfl k
theorem gf_X5_33 (X : CX κ G cc nL RX5 cx h) (d : Dc cc pc (.getfield 33) 3 pc2) {q : Nat} {v0 v1 v2 v3 v4 v5 v6 : Value} (hq : q < ν.1) (he : w q = .inr (5, [v0, v1, v2, v3, v4, v5, v6])) (k : V κ G b ν w pc2 L (v3 :: st)) : V κ G b ν w pc L (.ref (b + q) :: st) := r_get X d rfl inlX5 3 (by decide) qw_27 hq he rfl k
theorem gf_X5_40 (X : CX κ G cc nL RX5 cx h) (d : Dc cc pc (.getfield 40) 3 pc2) {q : Nat} {v0 v1 v2 v3 v4 v5 v6 : Value} (hq : q < ν.1) (he : w q = .inr (5, [v0, v1, v2, v3, v4, v5, v6])) (k : V κ G b ν w pc2 L (v4 :: st)) : V κ G b ν w pc L (.ref (b + q) :: st) := r_get X d rfl inlX5 4 (by decide) qw_31 hq he rfl k
theorem gf_X5_44 (X : CX κ G cc nL RX5 cx h) (d : Dc cc pc (.getfield 44) 3 pc2) {q : Nat} {v0 v1 v2 v3 v4 v5 v6 : Value} (hq : q < ν.1) (he : w q = .inr (5, [v0, v1, v2, v3, v4, v5, v6])) (k : V κ G b ν w pc2 L (v5 :: st)) : V κ G b ν w pc L (.ref (b + q) :: st) := r_get X d rfl inlX5 5 (by decide) qw_32 hq he rfl k
theorem gf_X5_48 (X : CX κ G cc nL RX5 cx h) (d : Dc cc pc (.getfield 48) 3 pc2) {q : Nat} {v0 v1 v2 v3 v4 v5 v6 : Value} (hq : q < ν.1) (he : w q = .inr (5, [v0, v1, v2, v3, v4, v5, v6])) (k : V κ G b ν w pc2 L (v6 :: st)) : V κ G b ν w pc L (.ref (b + q) :: st) := r_get X d rfl inlX5 6 (by decide) qw_34 hq he rfl k
theorem gf_X5_56 (X : CX κ G cc nL RX5 cx h) (d : Dc cc pc (.getfield 56) 3 pc2) {q : Nat} {v0 v1 v2 v3 v4 : Value} (hq : q < ν.1) (he : w q = .inr (3, [v0, v1, v2, v3, v4])) (k : V κ G b ν w pc2 L (v0 :: st)) : V κ G b ν w pc L (.ref (b + q) :: st) := r_get X d rfl inlX3 0 (by decide) qw_96 hq he rfl k
theorem gf_X5_60 (X : CX κ G cc nL RX5 cx h) (d : Dc cc pc (.getfield 60) 3 pc2) {q : Nat} {v0 v1 v2 v3 v4 : Value} (hq : q < ν.1) (he : w q = .inr (3, [v0, v1, v2, v3, v4])) (k : V κ G b ν w pc2 L (v1 :: st)) : V κ G b ν w pc L (.ref (b + q) :: st) := r_get X d rfl inlX3 1 (by decide) qw_97 hq he rfl k
theorem gf_X5_81 (X : CX κ G cc nL RX5 cx h) (d : Dc cc pc (.getfield 81) 3 pc2) {q : Nat} {v0 v1 v2 v3 v4 : Value} (hq : q < ν.1) (he : w q = .inr (3, [v0, v1, v2, v3, v4])) (k : V κ G b ν w pc2 L (v2 :: st)) : V κ G b ν w pc L (.ref (b + q) :: st) := r_get X d rfl inlX3 2 (by decide) qw_154 hq he rfl k
theorem gf_X5_123 (X : CX κ G cc nL RX5 cx h) (d : Dc cc pc (.getfield 123) 3 pc2) {q : Nat} {v0 v1 v2 v3 v4 : Value} (hq : q < ν.1) (he : w q = .inr (4, [v0, v1, v2, v3, v4])) (k : V κ G b ν w pc2 L (v1 :: st)) : V κ G b ν w pc L (.ref (b + q) :: st) := r_get X d rfl inlX4 1 (by decide) qw_338 hq he rfl k
theorem gf_X5_126 (X : CX κ G cc nL RX5 cx h) (d : Dc cc pc (.getfield 126) 3 pc2) {q : Nat} {v0 v1 v2 v3 v4 : Value} (hq : q < ν.1) (he : w q = .inr (4, [v0, v1, v2, v3, v4])) (k : V κ G b ν w pc2 L (v2 :: st)) : V κ G b ν w pc L (.ref (b + q) :: st) := r_get X d rfl inlX4 2 (by decide) qw_339 hq he rfl k
theorem gf_X5_157 (X : CX κ G cc nL RX5 cx h) (d : Dc cc pc (.getfield 157) 3 pc2) {q : Nat} {v0 v1 v2 v3 v4 v5 : Value} (hq : q < ν.1) (he : w q = .inr (1, [v0, v1, v2, v3, v4, v5])) (k : V κ G b ν w pc2 L (v0 :: st)) : V κ G b ν w pc L (.ref (b + q) :: st) := r_get X d rfl inlX1 0 (by decide) qw_511 hq he rfl k
theorem gf_X5_160 (X : CX κ G cc nL RX5 cx h) (d : Dc cc pc (.getfield 160) 3 pc2) {q : Nat} {v0 v1 v2 v3 v4 v5 : Value} (hq : q < ν.1) (he : w q = .inr (1, [v0, v1, v2, v3, v4, v5])) (k : V κ G b ν w pc2 L (v3 :: st)) : V κ G b ν w pc L (.ref (b + q) :: st) := r_get X d rfl inlX1 3 (by decide) qw_512 hq he rfl k
theorem gf_X5_163 (X : CX κ G cc nL RX5 cx h) (d : Dc cc pc (.getfield 163) 3 pc2) {q : Nat} {v0 v1 v2 v3 v4 v5 : Value} (hq : q < ν.1) (he : w q = .inr (1, [v0, v1, v2, v3, v4, v5])) (k : V κ G b ν w pc2 L (v1 :: st)) : V κ G b ν w pc L (.ref (b + q) :: st) := r_get X d rfl inlX1 1 (by decide) qw_513 hq he rfl k
theorem gf_X5_166 (X : CX κ G cc nL RX5 cx h) (d : Dc cc pc (.getfield 166) 3 pc2) {q : Nat} {v0 v1 v2 v3 v4 v5 : Value} (hq : q < ν.1) (he : w q = .inr (1, [v0, v1, v2, v3, v4, v5])) (k : V κ G b ν w pc2 L (v2 :: st)) : V κ G b ν w pc L (.ref (b + q) :: st) := r_get X d rfl inlX1 2 (by decide) qw_514 hq he rfl k
theorem gf_X5_172 (X : CX κ G cc nL RX5 cx h) (d : Dc cc pc (.getfield 172) 3 pc2) {q : Nat} {v0 v1 v2 v3 : Value} (hq : q < ν.1) (he : w q = .inr (0, [v0, v1, v2, v3])) (k : V κ G b ν w pc2 L (v1 :: st)) : V κ G b ν w pc L (.ref (b + q) :: st) := r_get X d rfl inlX0 1 (by decide) qw_577 hq he rfl k
theorem gf_X5_175 (X : CX κ G cc nL RX5 cx h) (d : Dc cc pc (.getfield 175) 3 pc2) {q : Nat} {v0 v1 v2 v3 : Value} (hq : q < ν.1) (he : w q = .inr (0, [v0, v1, v2, v3])) (k : V κ G b ν w pc2 L (v0 :: st)) : V κ G b ν w pc L (.ref (b + q) :: st) := r_get X d rfl inlX0 0 (by decide) qw_578 hq he rfl k
theorem gf_X5_188 (X : CX κ G cc nL RX5 cx h) (d : Dc cc pc (.getfield 188) 3 pc2) {q : Nat} {v0 v1 : Value} (hq : q < ν.1) (he : w q = .inr (2, [v0, v1])) (k : V κ G b ν w pc2 L (v0 :: st)) : V κ G b ν w pc L (.ref (b + q) :: st) := r_get X d rfl inlX2 0 (by decide) qw_648 hq he rfl k
theorem cv_X5_52 (X : CX κ G cc nL RX5 cx h) (d : Dc cc pc (.invokestatic 52) 3 pc2) {hc : Nat} {x0 : Value} {post : Int32 → Wd → Prop} (hM : CI κ.1.2.1 yX5_isSide cX5_isSide 1 (some .boolean) hc G b N w [x0] post) (hR : hc + 1 ≤ h) (hnL : L.length = nL) (hcat : (st.map fun v => v.category).sum ≤ 8) (k : ∀ (r : Int32) (w2 : Wd), post r w2 → V κ G b (N, 0, 0) w2 pc2 L (.int r :: st)) : V κ G b (N, 0, 0) w pc L (x0 :: st) := r_callSi (n := 1) X hM d qw_98 qw_99 qw_2 qw_100 (by decide +kernel) rfl hR (by decide) hnL rfl hcat k
theorem cp_X5_52 (X : CX κ G cc nL RX5 cx h) (d : Dc cc pc (.invokestatic 52) 3 pc2) {hc : Nat} {x0 : Value} {E : Int32} (hM : CI κ.1.2.1 yX5_isSide cX5_isSide 1 (some .boolean) hc G b N w [x0] (fun r w2 => r = E ∧ w2 = w)) (hR : hc + 1 ≤ h) (hnL : L.length = nL) (hcat : (st.map fun v => v.category).sum ≤ 8) (k : V κ G b (N, 0, 0) w pc2 L (.int E :: st)) : V κ G b (N, 0, 0) w pc L (x0 :: st) := cv_X5_52 X d hM hR hnL hcat (fun r w2 hp => by rw [hp.1, hp.2]; exact k)
theorem cv_X5_78 (X : CX κ G cc nL RX5 cx h) (d : Dc cc pc (.invokestatic 78) 3 pc2) {hc : Nat} {x0 : Value} {post : Int32 → Wd → Prop} (hM : CI κ.1.2.1 yX5_isBit cX5_isBit 1 (some .boolean) hc G b N w [x0] post) (hR : hc + 1 ≤ h) (hnL : L.length = nL) (hcat : (st.map fun v => v.category).sum ≤ 8) (k : ∀ (r : Int32) (w2 : Wd), post r w2 → V κ G b (N, 0, 0) w2 pc2 L (.int r :: st)) : V κ G b (N, 0, 0) w pc L (x0 :: st) := r_callSi (n := 1) X hM d qw_155 qw_156 qw_2 qw_157 (by decide +kernel) rfl hR (by decide) hnL rfl hcat k
theorem cp_X5_78 (X : CX κ G cc nL RX5 cx h) (d : Dc cc pc (.invokestatic 78) 3 pc2) {hc : Nat} {x0 : Value} {E : Int32} (hM : CI κ.1.2.1 yX5_isBit cX5_isBit 1 (some .boolean) hc G b N w [x0] (fun r w2 => r = E ∧ w2 = w)) (hR : hc + 1 ≤ h) (hnL : L.length = nL) (hcat : (st.map fun v => v.category).sum ≤ 8) (k : V κ G b (N, 0, 0) w pc2 L (.int E :: st)) : V κ G b (N, 0, 0) w pc L (x0 :: st) := cv_X5_78 X d hM hR hnL hcat (fun r w2 hp => by rw [hp.1, hp.2]; exact k)
theorem cv_X5_63 (X : CX κ G cc nL RX5 cx h) (d : Dc cc pc (.invokevirtual 63) 3 pc2) {q : Nat} {fs : List Value} {hc : Nat} {x0 x1 : Value} {post : Wd → Prop} (hM : CV κ.1.2.1 yX3_blank cX3_blank 4 hc G b N w [.ref (b + q), x0, x1] post) (hR : hc + 1 ≤ h) (hq : q < N) (he : w q = .inr (3, fs)) (hnL : L.length = nL) (hcat : (st.map fun v => v.category).sum ≤ 8) (k : ∀ (w2 : Wd), post w2 → V κ G b (N, 0, 0) w2 pc2 L st) : V κ G b (N, 0, 0) w pc L (x1 :: x0 :: .ref (b + q) :: st) := r_callVv (n := 2) X hM d qw_101 qw_102 qw_103 qw_14 qw_104 (by decide +kernel) rfl hR (by decide) hq he rfl hnL rfl hcat k
theorem cv_X5_67 (X : CX κ G cc nL RX5 cx h) (d : Dc cc pc (.invokevirtual 67) 3 pc2) {q : Nat} {fs : List Value} {hc : Nat} {x0 x1 : Value} {post : Int32 → Wd → Prop} (hM : CI κ.1.2.1 yX3_hasDot cX3_hasDot 3 (some .boolean) hc G b N w [.ref (b + q), x0, x1] post) (hR : hc + 1 ≤ h) (hq : q < N) (he : w q = .inr (3, fs)) (hnL : L.length = nL) (hcat : (st.map fun v => v.category).sum ≤ 8) (k : ∀ (r : Int32) (w2 : Wd), post r w2 → V κ G b (N, 0, 0) w2 pc2 L (.int r :: st)) : V κ G b (N, 0, 0) w pc L (x1 :: x0 :: .ref (b + q) :: st) := r_callVi (n := 2) X hM d qw_116 qw_117 qw_118 qw_14 qw_119 (by decide +kernel) rfl hR (by decide) hq he rfl hnL rfl hcat k
theorem cp_X5_67 (X : CX κ G cc nL RX5 cx h) (d : Dc cc pc (.invokevirtual 67) 3 pc2) {q : Nat} {fs : List Value} {hc : Nat} {x0 x1 : Value} {E : Int32} (hM : CI κ.1.2.1 yX3_hasDot cX3_hasDot 3 (some .boolean) hc G b N w [.ref (b + q), x0, x1] (fun r w2 => r = E ∧ w2 = w)) (hR : hc + 1 ≤ h) (hq : q < N) (he : w q = .inr (3, fs)) (hnL : L.length = nL) (hcat : (st.map fun v => v.category).sum ≤ 8) (k : V κ G b (N, 0, 0) w pc2 L (.int E :: st)) : V κ G b (N, 0, 0) w pc L (x1 :: x0 :: .ref (b + q) :: st) := cv_X5_67 X d hM hR hq he hnL hcat (fun r w2 hp => by rw [hp.1, hp.2]; exact k)
theorem cv_X5_71 (X : CX κ G cc nL RX5 cx h) (d : Dc cc pc (.invokevirtual 71) 3 pc2) {q : Nat} {fs : List Value} {hc : Nat} {x0 x1 x2 : Value} {post : Int32 → Wd → Prop} (hM : CI κ.1.2.1 yX3_changeGrey cX3_changeGrey 6 (some .int) hc G b N w [.ref (b + q), x0, x1, x2] post) (hR : hc + 1 ≤ h) (hq : q < N) (he : w q = .inr (3, fs)) (hnL : L.length = nL) (hcat : (st.map fun v => v.category).sum ≤ 8) (k : ∀ (r : Int32) (w2 : Wd), post r w2 → V κ G b (N, 0, 0) w2 pc2 L (.int r :: st)) : V κ G b (N, 0, 0) w pc L (x2 :: x1 :: x0 :: .ref (b + q) :: st) := r_callVi (n := 3) X hM d qw_120 qw_121 qw_122 qw_14 qw_123 (by decide +kernel) rfl hR (by decide) hq he rfl hnL rfl hcat k
theorem cp_X5_71 (X : CX κ G cc nL RX5 cx h) (d : Dc cc pc (.invokevirtual 71) 3 pc2) {q : Nat} {fs : List Value} {hc : Nat} {x0 x1 x2 : Value} {E : Int32} (hM : CI κ.1.2.1 yX3_changeGrey cX3_changeGrey 6 (some .int) hc G b N w [.ref (b + q), x0, x1, x2] (fun r w2 => r = E ∧ w2 = w)) (hR : hc + 1 ≤ h) (hq : q < N) (he : w q = .inr (3, fs)) (hnL : L.length = nL) (hcat : (st.map fun v => v.category).sum ≤ 8) (k : V κ G b (N, 0, 0) w pc2 L (.int E :: st)) : V κ G b (N, 0, 0) w pc L (x2 :: x1 :: x0 :: .ref (b + q) :: st) := cv_X5_71 X d hM hR hq he hnL hcat (fun r w2 hp => by rw [hp.1, hp.2]; exact k)
theorem cv_X5_75 (X : CX κ G cc nL RX5 cx h) (d : Dc cc pc (.invokevirtual 75) 3 pc2) {q : Nat} {fs : List Value} {hc : Nat} {x0 x1 x2 : Value} {post : Int32 → Wd → Prop} (hM : CI κ.1.2.1 yX3_changeMark cX3_changeMark 6 (some .int) hc G b N w [.ref (b + q), x0, x1, x2] post) (hR : hc + 1 ≤ h) (hq : q < N) (he : w q = .inr (3, fs)) (hnL : L.length = nL) (hcat : (st.map fun v => v.category).sum ≤ 8) (k : ∀ (r : Int32) (w2 : Wd), post r w2 → V κ G b (N, 0, 0) w2 pc2 L (.int r :: st)) : V κ G b (N, 0, 0) w pc L (x2 :: x1 :: x0 :: .ref (b + q) :: st) := r_callVi (n := 3) X hM d qw_142 qw_143 qw_144 qw_14 qw_145 (by decide +kernel) rfl hR (by decide) hq he rfl hnL rfl hcat k
theorem cp_X5_75 (X : CX κ G cc nL RX5 cx h) (d : Dc cc pc (.invokevirtual 75) 3 pc2) {q : Nat} {fs : List Value} {hc : Nat} {x0 x1 x2 : Value} {E : Int32} (hM : CI κ.1.2.1 yX3_changeMark cX3_changeMark 6 (some .int) hc G b N w [.ref (b + q), x0, x1, x2] (fun r w2 => r = E ∧ w2 = w)) (hR : hc + 1 ≤ h) (hq : q < N) (he : w q = .inr (3, fs)) (hnL : L.length = nL) (hcat : (st.map fun v => v.category).sum ≤ 8) (k : V κ G b (N, 0, 0) w pc2 L (.int E :: st)) : V κ G b (N, 0, 0) w pc L (x2 :: x1 :: x0 :: .ref (b + q) :: st) := cv_X5_75 X d hM hR hq he hnL hcat (fun r w2 hp => by rw [hp.1, hp.2]; exact k)
theorem cv_X5_84 (X : CX κ G cc nL RX5 cx h) (d : Dc cc pc (.invokevirtual 84) 3 pc2) {q : Nat} {fs : List Value} {hc : Nat} {x0 x1 x2 : Value} {post : Int32 → Wd → Prop} (hM : CI κ.1.2.1 yX3_greyAt cX3_greyAt 4 (some .int) hc G b N w [.ref (b + q), x0, x1, x2] post) (hR : hc + 1 ≤ h) (hq : q < N) (he : w q = .inr (3, fs)) (hnL : L.length = nL) (hcat : (st.map fun v => v.category).sum ≤ 8) (k : ∀ (r : Int32) (w2 : Wd), post r w2 → V κ G b (N, 0, 0) w2 pc2 L (.int r :: st)) : V κ G b (N, 0, 0) w pc L (x2 :: x1 :: x0 :: .ref (b + q) :: st) := r_callVi (n := 3) X hM d qw_166 qw_167 qw_168 qw_14 qw_169 (by decide +kernel) rfl hR (by decide) hq he rfl hnL rfl hcat k
theorem cp_X5_84 (X : CX κ G cc nL RX5 cx h) (d : Dc cc pc (.invokevirtual 84) 3 pc2) {q : Nat} {fs : List Value} {hc : Nat} {x0 x1 x2 : Value} {E : Int32} (hM : CI κ.1.2.1 yX3_greyAt cX3_greyAt 4 (some .int) hc G b N w [.ref (b + q), x0, x1, x2] (fun r w2 => r = E ∧ w2 = w)) (hR : hc + 1 ≤ h) (hq : q < N) (he : w q = .inr (3, fs)) (hnL : L.length = nL) (hcat : (st.map fun v => v.category).sum ≤ 8) (k : V κ G b (N, 0, 0) w pc2 L (.int E :: st)) : V κ G b (N, 0, 0) w pc L (x2 :: x1 :: x0 :: .ref (b + q) :: st) := cv_X5_84 X d hM hR hq he hnL hcat (fun r w2 hp => by rw [hp.1, hp.2]; exact k)
theorem cv_X5_87 (X : CX κ G cc nL RX5 cx h) (d : Dc cc pc (.invokevirtual 87) 3 pc2) {q : Nat} {fs : List Value} {hc : Nat} {x0 x1 x2 : Value} {post : Int32 → Wd → Prop} (hM : CI κ.1.2.1 yX3_markAt cX3_markAt 4 (some .int) hc G b N w [.ref (b + q), x0, x1, x2] post) (hR : hc + 1 ≤ h) (hq : q < N) (he : w q = .inr (3, fs)) (hnL : L.length = nL) (hcat : (st.map fun v => v.category).sum ≤ 8) (k : ∀ (r : Int32) (w2 : Wd), post r w2 → V κ G b (N, 0, 0) w2 pc2 L (.int r :: st)) : V κ G b (N, 0, 0) w pc L (x2 :: x1 :: x0 :: .ref (b + q) :: st) := r_callVi (n := 3) X hM d qw_170 qw_171 qw_172 qw_14 qw_173 (by decide +kernel) rfl hR (by decide) hq he rfl hnL rfl hcat k
theorem cp_X5_87 (X : CX κ G cc nL RX5 cx h) (d : Dc cc pc (.invokevirtual 87) 3 pc2) {q : Nat} {fs : List Value} {hc : Nat} {x0 x1 x2 : Value} {E : Int32} (hM : CI κ.1.2.1 yX3_markAt cX3_markAt 4 (some .int) hc G b N w [.ref (b + q), x0, x1, x2] (fun r w2 => r = E ∧ w2 = w)) (hR : hc + 1 ≤ h) (hq : q < N) (he : w q = .inr (3, fs)) (hnL : L.length = nL) (hcat : (st.map fun v => v.category).sum ≤ 8) (k : V κ G b (N, 0, 0) w pc2 L (.int E :: st)) : V κ G b (N, 0, 0) w pc L (x2 :: x1 :: x0 :: .ref (b + q) :: st) := cv_X5_87 X d hM hR hq he hnL hcat (fun r w2 hp => by rw [hp.1, hp.2]; exact k)
theorem cv_X5_90 (X : CX κ G cc nL RX5 cx h) (d : Dc cc pc (.invokevirtual 90) 3 pc2) {q : Nat} {fs : List Value} {hc : Nat} {x0 x1 : Value} {post : Int32 → Wd → Prop} (hM : CI κ.1.2.1 yX3_edgeAt cX3_edgeAt 3 (some .int) hc G b N w [.ref (b + q), x0, x1] post) (hR : hc + 1 ≤ h) (hq : q < N) (he : w q = .inr (3, fs)) (hnL : L.length = nL) (hcat : (st.map fun v => v.category).sum ≤ 8) (k : ∀ (r : Int32) (w2 : Wd), post r w2 → V κ G b (N, 0, 0) w2 pc2 L (.int r :: st)) : V κ G b (N, 0, 0) w pc L (x1 :: x0 :: .ref (b + q) :: st) := r_callVi (n := 2) X hM d qw_174 qw_175 qw_176 qw_14 qw_177 (by decide +kernel) rfl hR (by decide) hq he rfl hnL rfl hcat k
theorem cp_X5_90 (X : CX κ G cc nL RX5 cx h) (d : Dc cc pc (.invokevirtual 90) 3 pc2) {q : Nat} {fs : List Value} {hc : Nat} {x0 x1 : Value} {E : Int32} (hM : CI κ.1.2.1 yX3_edgeAt cX3_edgeAt 3 (some .int) hc G b N w [.ref (b + q), x0, x1] (fun r w2 => r = E ∧ w2 = w)) (hR : hc + 1 ≤ h) (hq : q < N) (he : w q = .inr (3, fs)) (hnL : L.length = nL) (hcat : (st.map fun v => v.category).sum ≤ 8) (k : V κ G b (N, 0, 0) w pc2 L (.int E :: st)) : V κ G b (N, 0, 0) w pc L (x1 :: x0 :: .ref (b + q) :: st) := cv_X5_90 X d hM hR hq he hnL hcat (fun r w2 hp => by rw [hp.1, hp.2]; exact k)
theorem cv_X5_94 (X : CX κ G cc nL RX5 cx h) (d : Dc cc pc (.invokevirtual 94) 3 pc2) {q : Nat} {fs : List Value} {hc : Nat} {x0 x1 : Value} {post : Int32 → Wd → Prop} (hM : CI κ.1.2.1 yX3_weightAt cX3_weightAt 3 (some .int) hc G b N w [.ref (b + q), x0, x1] post) (hR : hc + 1 ≤ h) (hq : q < N) (he : w q = .inr (3, fs)) (hnL : L.length = nL) (hcat : (st.map fun v => v.category).sum ≤ 8) (k : ∀ (r : Int32) (w2 : Wd), post r w2 → V κ G b (N, 0, 0) w2 pc2 L (.int r :: st)) : V κ G b (N, 0, 0) w pc L (x1 :: x0 :: .ref (b + q) :: st) := r_callVi (n := 2) X hM d qw_196 qw_197 qw_198 qw_14 qw_199 (by decide +kernel) rfl hR (by decide) hq he rfl hnL rfl hcat k
theorem cp_X5_94 (X : CX κ G cc nL RX5 cx h) (d : Dc cc pc (.invokevirtual 94) 3 pc2) {q : Nat} {fs : List Value} {hc : Nat} {x0 x1 : Value} {E : Int32} (hM : CI κ.1.2.1 yX3_weightAt cX3_weightAt 3 (some .int) hc G b N w [.ref (b + q), x0, x1] (fun r w2 => r = E ∧ w2 = w)) (hR : hc + 1 ≤ h) (hq : q < N) (he : w q = .inr (3, fs)) (hnL : L.length = nL) (hcat : (st.map fun v => v.category).sum ≤ 8) (k : V κ G b (N, 0, 0) w pc2 L (.int E :: st)) : V κ G b (N, 0, 0) w pc L (x1 :: x0 :: .ref (b + q) :: st) := cv_X5_94 X d hM hR hq he hnL hcat (fun r w2 hp => by rw [hp.1, hp.2]; exact k)
theorem cv_X5_97 (X : CX κ G cc nL RX5 cx h) (d : Dc cc pc (.invokevirtual 97) 3 pc2) {q : Nat} {fs : List Value} {hc : Nat} {post : Int32 → Wd → Prop} (hM : CI κ.1.2.1 yX2_isFull cX2_isFull 1 (some .boolean) hc G b N w [.ref (b + q)] post) (hR : hc + 1 ≤ h) (hq : q < N) (he : w q = .inr (2, fs)) (hnL : L.length = nL) (hcat : (st.map fun v => v.category).sum ≤ 8) (k : ∀ (r : Int32) (w2 : Wd), post r w2 → V κ G b (N, 0, 0) w2 pc2 L (.int r :: st)) : V κ G b (N, 0, 0) w pc L (.ref (b + q) :: st) := r_callVi (n := 0) X hM d qw_258 qw_259 qw_260 qw_22 qw_261 (by decide +kernel) rfl hR (by decide) hq he rfl hnL rfl hcat k
theorem cp_X5_97 (X : CX κ G cc nL RX5 cx h) (d : Dc cc pc (.invokevirtual 97) 3 pc2) {q : Nat} {fs : List Value} {hc : Nat} {E : Int32} (hM : CI κ.1.2.1 yX2_isFull cX2_isFull 1 (some .boolean) hc G b N w [.ref (b + q)] (fun r w2 => r = E ∧ w2 = w)) (hR : hc + 1 ≤ h) (hq : q < N) (he : w q = .inr (2, fs)) (hnL : L.length = nL) (hcat : (st.map fun v => v.category).sum ≤ 8) (k : V κ G b (N, 0, 0) w pc2 L (.int E :: st)) : V κ G b (N, 0, 0) w pc L (.ref (b + q) :: st) := cv_X5_97 X d hM hR hq he hnL hcat (fun r w2 hp => by rw [hp.1, hp.2]; exact k)
theorem cv_X5_101 (X : CX κ G cc nL RX5 cx h) (d : Dc cc pc (.invokevirtual 101) 3 pc2) {q : Nat} {fs : List Value} {hc : Nat} {x0 : Value} {post : Int32 → Wd → Prop} (hM : CI κ.1.2.1 yX2_append cX2_append 2 (some .int) hc G b N w [.ref (b + q), x0] post) (hR : hc + 1 ≤ h) (hq : q < N) (he : w q = .inr (2, fs)) (hnL : L.length = nL) (hcat : (st.map fun v => v.category).sum ≤ 8) (k : ∀ (r : Int32) (w2 : Wd), post r w2 → V κ G b (N, 0, 0) w2 pc2 L (.int r :: st)) : V κ G b (N, 0, 0) w pc L (x0 :: .ref (b + q) :: st) := r_callVi (n := 1) X hM d qw_263 qw_264 qw_265 qw_22 qw_266 (by decide +kernel) rfl hR (by decide) hq he rfl hnL rfl hcat k
theorem cp_X5_101 (X : CX κ G cc nL RX5 cx h) (d : Dc cc pc (.invokevirtual 101) 3 pc2) {q : Nat} {fs : List Value} {hc : Nat} {x0 : Value} {E : Int32} (hM : CI κ.1.2.1 yX2_append cX2_append 2 (some .int) hc G b N w [.ref (b + q), x0] (fun r w2 => r = E ∧ w2 = w)) (hR : hc + 1 ≤ h) (hq : q < N) (he : w q = .inr (2, fs)) (hnL : L.length = nL) (hcat : (st.map fun v => v.category).sum ≤ 8) (k : V κ G b (N, 0, 0) w pc2 L (.int E :: st)) : V κ G b (N, 0, 0) w pc L (x0 :: .ref (b + q) :: st) := cv_X5_101 X d hM hR hq he hnL hcat (fun r w2 hp => by rw [hp.1, hp.2]; exact k)
theorem cv_X5_105 (X : CX κ G cc nL RX5 cx h) (d : Dc cc pc (.invokevirtual 105) 3 pc2) {q : Nat} {fs : List Value} {hc : Nat} {post : Int32 → Wd → Prop} (hM : CI κ.1.2.1 yX2_clear cX2_clear 2 (some .int) hc G b N w [.ref (b + q)] post) (hR : hc + 1 ≤ h) (hq : q < N) (he : w q = .inr (2, fs)) (hnL : L.length = nL) (hcat : (st.map fun v => v.category).sum ≤ 8) (k : ∀ (r : Int32) (w2 : Wd), post r w2 → V κ G b (N, 0, 0) w2 pc2 L (.int r :: st)) : V κ G b (N, 0, 0) w pc L (.ref (b + q) :: st) := r_callVi (n := 0) X hM d qw_276 qw_277 qw_278 qw_22 qw_279 (by decide +kernel) rfl hR (by decide) hq he rfl hnL rfl hcat k
theorem cp_X5_105 (X : CX κ G cc nL RX5 cx h) (d : Dc cc pc (.invokevirtual 105) 3 pc2) {q : Nat} {fs : List Value} {hc : Nat} {E : Int32} (hM : CI κ.1.2.1 yX2_clear cX2_clear 2 (some .int) hc G b N w [.ref (b + q)] (fun r w2 => r = E ∧ w2 = w)) (hR : hc + 1 ≤ h) (hq : q < N) (he : w q = .inr (2, fs)) (hnL : L.length = nL) (hcat : (st.map fun v => v.category).sum ≤ 8) (k : V κ G b (N, 0, 0) w pc2 L (.int E :: st)) : V κ G b (N, 0, 0) w pc L (.ref (b + q) :: st) := cv_X5_105 X d hM hR hq he hnL hcat (fun r w2 hp => by rw [hp.1, hp.2]; exact k)
theorem cv_X5_109 (X : CX κ G cc nL RX5 cx h) (d : Dc cc pc (.invokevirtual 109) 3 pc2) {q : Nat} {fs : List Value} {hc : Nat} {x0 x1 x2 : Value} {post : Int32 → Wd → Prop} (hM : CI κ.1.2.1 yX2_firstFault cX2_firstFault 6 (some .int) hc G b N w [.ref (b + q), x0, x1, x2] post) (hR : hc + 1 ≤ h) (hq : q < N) (he : w q = .inr (2, fs)) (hnL : L.length = nL) (hcat : (st.map fun v => v.category).sum ≤ 8) (k : ∀ (r : Int32) (w2 : Wd), post r w2 → V κ G b (N, 0, 0) w2 pc2 L (.int r :: st)) : V κ G b (N, 0, 0) w pc L (x2 :: x1 :: x0 :: .ref (b + q) :: st) := r_callVi (n := 3) X hM d qw_288 qw_289 qw_290 qw_22 qw_291 (by decide +kernel) rfl hR (by decide) hq he rfl hnL rfl hcat k
theorem cp_X5_109 (X : CX κ G cc nL RX5 cx h) (d : Dc cc pc (.invokevirtual 109) 3 pc2) {q : Nat} {fs : List Value} {hc : Nat} {x0 x1 x2 : Value} {E : Int32} (hM : CI κ.1.2.1 yX2_firstFault cX2_firstFault 6 (some .int) hc G b N w [.ref (b + q), x0, x1, x2] (fun r w2 => r = E ∧ w2 = w)) (hR : hc + 1 ≤ h) (hq : q < N) (he : w q = .inr (2, fs)) (hnL : L.length = nL) (hcat : (st.map fun v => v.category).sum ≤ 8) (k : V κ G b (N, 0, 0) w pc2 L (.int E :: st)) : V κ G b (N, 0, 0) w pc L (x2 :: x1 :: x0 :: .ref (b + q) :: st) := cv_X5_109 X d hM hR hq he hnL hcat (fun r w2 hp => by rw [hp.1, hp.2]; exact k)
theorem cv_X5_112 (X : CX κ G cc nL RX5 cx h) (d : Dc cc pc (.invokevirtual 112) 3 pc2) {q : Nat} {fs : List Value} {hc : Nat} {x0 x1 : Value} {post : Int32 → Wd → Prop} (hM : CI κ.1.2.1 yX2_layOn cX2_layOn 8 (some .int) hc G b N w [.ref (b + q), x0, x1] post) (hR : hc + 1 ≤ h) (hq : q < N) (he : w q = .inr (2, fs)) (hnL : L.length = nL) (hcat : (st.map fun v => v.category).sum ≤ 8) (k : ∀ (r : Int32) (w2 : Wd), post r w2 → V κ G b (N, 0, 0) w2 pc2 L (.int r :: st)) : V κ G b (N, 0, 0) w pc L (x1 :: x0 :: .ref (b + q) :: st) := r_callVi (n := 2) X hM d qw_322 qw_323 qw_324 qw_22 qw_325 (by decide +kernel) rfl hR (by decide) hq he rfl hnL rfl hcat k
theorem cp_X5_112 (X : CX κ G cc nL RX5 cx h) (d : Dc cc pc (.invokevirtual 112) 3 pc2) {q : Nat} {fs : List Value} {hc : Nat} {x0 x1 : Value} {E : Int32} (hM : CI κ.1.2.1 yX2_layOn cX2_layOn 8 (some .int) hc G b N w [.ref (b + q), x0, x1] (fun r w2 => r = E ∧ w2 = w)) (hR : hc + 1 ≤ h) (hq : q < N) (he : w q = .inr (2, fs)) (hnL : L.length = nL) (hcat : (st.map fun v => v.category).sum ≤ 8) (k : V κ G b (N, 0, 0) w pc2 L (.int E :: st)) : V κ G b (N, 0, 0) w pc L (x1 :: x0 :: .ref (b + q) :: st) := cv_X5_112 X d hM hR hq he hnL hcat (fun r w2 hp => by rw [hp.1, hp.2]; exact k)
theorem cv_X5_116 (X : CX κ G cc nL RX5 cx h) (d : Dc cc pc (.invokevirtual 116) 3 pc2) {q : Nat} {fs : List Value} {hc : Nat} {x0 : Value} {post : Int32 → Wd → Prop} (hM : CI κ.1.2.1 yX3_lines cX3_lines 2 (some .int) hc G b N w [.ref (b + q), x0] post) (hR : hc + 1 ≤ h) (hq : q < N) (he : w q = .inr (3, fs)) (hnL : L.length = nL) (hcat : (st.map fun v => v.category).sum ≤ 8) (k : ∀ (r : Int32) (w2 : Wd), post r w2 → V κ G b (N, 0, 0) w2 pc2 L (.int r :: st)) : V κ G b (N, 0, 0) w pc L (x0 :: .ref (b + q) :: st) := r_callVi (n := 1) X hM d qw_340 qw_341 qw_342 qw_14 qw_343 (by decide +kernel) rfl hR (by decide) hq he rfl hnL rfl hcat k
theorem cp_X5_116 (X : CX κ G cc nL RX5 cx h) (d : Dc cc pc (.invokevirtual 116) 3 pc2) {q : Nat} {fs : List Value} {hc : Nat} {x0 : Value} {E : Int32} (hM : CI κ.1.2.1 yX3_lines cX3_lines 2 (some .int) hc G b N w [.ref (b + q), x0] (fun r w2 => r = E ∧ w2 = w)) (hR : hc + 1 ≤ h) (hq : q < N) (he : w q = .inr (3, fs)) (hnL : L.length = nL) (hcat : (st.map fun v => v.category).sum ≤ 8) (k : V κ G b (N, 0, 0) w pc2 L (.int E :: st)) : V κ G b (N, 0, 0) w pc L (x0 :: .ref (b + q) :: st) := cv_X5_116 X d hM hR hq he hnL hcat (fun r w2 hp => by rw [hp.1, hp.2]; exact k)
theorem cv_X5_119 (X : CX κ G cc nL RX5 cx h) (d : Dc cc pc (.invokevirtual 119) 3 pc2) {q : Nat} {fs : List Value} {hc : Nat} {x0 x1 : Value} {post : Wd → Prop} (hM : CV κ.1.2.1 yX4_findLeast cX4_findLeast 7 hc G b N w [.ref (b + q), x0, x1] post) (hR : hc + 1 ≤ h) (hq : q < N) (he : w q = .inr (4, fs)) (hnL : L.length = nL) (hcat : (st.map fun v => v.category).sum ≤ 8) (k : ∀ (w2 : Wd), post w2 → V κ G b (N, 0, 0) w2 pc2 L st) : V κ G b (N, 0, 0) w pc L (x1 :: x0 :: .ref (b + q) :: st) := r_callVv (n := 2) X hM d qw_344 qw_345 qw_346 qw_18 qw_347 (by decide +kernel) rfl hR (by decide) hq he rfl hnL rfl hcat k
theorem cv_X5_130 (X : CX κ G cc nL RX5 cx h) (d : Dc cc pc (.invokevirtual 130) 3 pc2) {q : Nat} {fs : List Value} {hc : Nat} {x0 x1 x2 : Value} {post : Int32 → Wd → Prop} (hM : CI κ.1.2.1 yX4_readNumber cX4_readNumber 7 (some .boolean) hc G b N w [.ref (b + q), x0, x1, x2] post) (hR : hc + 1 ≤ h) (hq : q < N) (he : w q = .inr (4, fs)) (hnL : L.length = nL) (hcat : (st.map fun v => v.category).sum ≤ 8) (k : ∀ (r : Int32) (w2 : Wd), post r w2 → V κ G b (N, 0, 0) w2 pc2 L (.int r :: st)) : V κ G b (N, 0, 0) w pc L (x2 :: x1 :: x0 :: .ref (b + q) :: st) := r_callVi (n := 3) X hM d qw_407 qw_408 qw_409 qw_18 qw_410 (by decide +kernel) rfl hR (by decide) hq he rfl hnL rfl hcat k
theorem cp_X5_130 (X : CX κ G cc nL RX5 cx h) (d : Dc cc pc (.invokevirtual 130) 3 pc2) {q : Nat} {fs : List Value} {hc : Nat} {x0 x1 x2 : Value} {E : Int32} (hM : CI κ.1.2.1 yX4_readNumber cX4_readNumber 7 (some .boolean) hc G b N w [.ref (b + q), x0, x1, x2] (fun r w2 => r = E ∧ w2 = w)) (hR : hc + 1 ≤ h) (hq : q < N) (he : w q = .inr (4, fs)) (hnL : L.length = nL) (hcat : (st.map fun v => v.category).sum ≤ 8) (k : V κ G b (N, 0, 0) w pc2 L (.int E :: st)) : V κ G b (N, 0, 0) w pc L (x2 :: x1 :: x0 :: .ref (b + q) :: st) := cv_X5_130 X d hM hR hq he hnL hcat (fun r w2 hp => by rw [hp.1, hp.2]; exact k)
theorem cv_X5_134 (X : CX κ G cc nL RX5 cx h) (d : Dc cc pc (.invokevirtual 134) 3 pc2) {q : Nat} {fs : List Value} {hc : Nat} {x0 : Value} {post : Int32 → Wd → Prop} (hM : CI κ.1.2.1 yX3_breadth cX3_breadth 2 (some .int) hc G b N w [.ref (b + q), x0] post) (hR : hc + 1 ≤ h) (hq : q < N) (he : w q = .inr (3, fs)) (hnL : L.length = nL) (hcat : (st.map fun v => v.category).sum ≤ 8) (k : ∀ (r : Int32) (w2 : Wd), post r w2 → V κ G b (N, 0, 0) w2 pc2 L (.int r :: st)) : V κ G b (N, 0, 0) w pc L (x0 :: .ref (b + q) :: st) := r_callVi (n := 1) X hM d qw_432 qw_193 qw_194 qw_14 qw_195 (by decide +kernel) rfl hR (by decide) hq he rfl hnL rfl hcat k
theorem cp_X5_134 (X : CX κ G cc nL RX5 cx h) (d : Dc cc pc (.invokevirtual 134) 3 pc2) {q : Nat} {fs : List Value} {hc : Nat} {x0 : Value} {E : Int32} (hM : CI κ.1.2.1 yX3_breadth cX3_breadth 2 (some .int) hc G b N w [.ref (b + q), x0] (fun r w2 => r = E ∧ w2 = w)) (hR : hc + 1 ≤ h) (hq : q < N) (he : w q = .inr (3, fs)) (hnL : L.length = nL) (hcat : (st.map fun v => v.category).sum ≤ 8) (k : V κ G b (N, 0, 0) w pc2 L (.int E :: st)) : V κ G b (N, 0, 0) w pc L (x0 :: .ref (b + q) :: st) := cv_X5_134 X d hM hR hq he hnL hcat (fun r w2 hp => by rw [hp.1, hp.2]; exact k)
theorem cv_X5_137 (X : CX κ G cc nL RX5 cx h) (d : Dc cc pc (.invokevirtual 137) 3 pc2) {q : Nat} {fs : List Value} {hc : Nat} {x0 : Value} {post : Wd → Prop} (hM : CV κ.1.2.1 yX3_takeOut cX3_takeOut 5 hc G b N w [.ref (b + q), x0] post) (hR : hc + 1 ≤ h) (hq : q < N) (he : w q = .inr (3, fs)) (hnL : L.length = nL) (hcat : (st.map fun v => v.category).sum ≤ 8) (k : ∀ (w2 : Wd), post w2 → V κ G b (N, 0, 0) w2 pc2 L st) : V κ G b (N, 0, 0) w pc L (x0 :: .ref (b + q) :: st) := r_callVv (n := 1) X hM d qw_433 qw_434 qw_435 qw_14 qw_436 (by decide +kernel) rfl hR (by decide) hq he rfl hnL rfl hcat k
theorem cv_X5_141 (X : CX κ G cc nL RX5 cx h) (d : Dc cc pc (.invokevirtual 141) 3 pc2) {q : Nat} {fs : List Value} {hc : Nat} {x0 : Value} {post : Wd → Prop} (hM : CV κ.1.2.1 yX3_putIn cX3_putIn 8 hc G b N w [.ref (b + q), x0] post) (hR : hc + 1 ≤ h) (hq : q < N) (he : w q = .inr (3, fs)) (hnL : L.length = nL) (hcat : (st.map fun v => v.category).sum ≤ 8) (k : ∀ (w2 : Wd), post w2 → V κ G b (N, 0, 0) w2 pc2 L st) : V κ G b (N, 0, 0) w pc L (x0 :: .ref (b + q) :: st) := r_callVv (n := 1) X hM d qw_477 qw_478 qw_479 qw_14 qw_480 (by decide +kernel) rfl hR (by decide) hq he rfl hnL rfl hcat k
theorem cv_X5_144 (X : CX κ G cc nL RX5 cx h) (d : Dc cc pc (.invokevirtual 144) 3 pc2) {q : Nat} {fs : List Value} {hc : Nat} {x0 : Value} {post : Int32 → Wd → Prop} (hM : CI κ.1.2.1 yX3_lightestInRow cX3_lightestInRow 4 (some .int) hc G b N w [.ref (b + q), x0] post) (hR : hc + 1 ≤ h) (hq : q < N) (he : w q = .inr (3, fs)) (hnL : L.length = nL) (hcat : (st.map fun v => v.category).sum ≤ 8) (k : ∀ (r : Int32) (w2 : Wd), post r w2 → V κ G b (N, 0, 0) w2 pc2 L (.int r :: st)) : V κ G b (N, 0, 0) w pc L (x0 :: .ref (b + q) :: st) := r_callVi (n := 1) X hM d qw_494 qw_495 qw_496 qw_14 qw_497 (by decide +kernel) rfl hR (by decide) hq he rfl hnL rfl hcat k
theorem cp_X5_144 (X : CX κ G cc nL RX5 cx h) (d : Dc cc pc (.invokevirtual 144) 3 pc2) {q : Nat} {fs : List Value} {hc : Nat} {x0 : Value} {E : Int32} (hM : CI κ.1.2.1 yX3_lightestInRow cX3_lightestInRow 4 (some .int) hc G b N w [.ref (b + q), x0] (fun r w2 => r = E ∧ w2 = w)) (hR : hc + 1 ≤ h) (hq : q < N) (he : w q = .inr (3, fs)) (hnL : L.length = nL) (hcat : (st.map fun v => v.category).sum ≤ 8) (k : V κ G b (N, 0, 0) w pc2 L (.int E :: st)) : V κ G b (N, 0, 0) w pc L (x0 :: .ref (b + q) :: st) := cv_X5_144 X d hM hR hq he hnL hcat (fun r w2 hp => by rw [hp.1, hp.2]; exact k)
theorem cv_X5_147 (X : CX κ G cc nL RX5 cx h) (d : Dc cc pc (.invokevirtual 147) 3 pc2) {q : Nat} {fs : List Value} {hc : Nat} {x0 : Value} {post : Int32 → Wd → Prop} (hM : CI κ.1.2.1 yX3_lightestInColumn cX3_lightestInColumn 4 (some .int) hc G b N w [.ref (b + q), x0] post) (hR : hc + 1 ≤ h) (hq : q < N) (he : w q = .inr (3, fs)) (hnL : L.length = nL) (hcat : (st.map fun v => v.category).sum ≤ 8) (k : ∀ (r : Int32) (w2 : Wd), post r w2 → V κ G b (N, 0, 0) w2 pc2 L (.int r :: st)) : V κ G b (N, 0, 0) w pc L (x0 :: .ref (b + q) :: st) := r_callVi (n := 1) X hM d qw_499 qw_500 qw_501 qw_14 qw_502 (by decide +kernel) rfl hR (by decide) hq he rfl hnL rfl hcat k
theorem cp_X5_147 (X : CX κ G cc nL RX5 cx h) (d : Dc cc pc (.invokevirtual 147) 3 pc2) {q : Nat} {fs : List Value} {hc : Nat} {x0 : Value} {E : Int32} (hM : CI κ.1.2.1 yX3_lightestInColumn cX3_lightestInColumn 4 (some .int) hc G b N w [.ref (b + q), x0] (fun r w2 => r = E ∧ w2 = w)) (hR : hc + 1 ≤ h) (hq : q < N) (he : w q = .inr (3, fs)) (hnL : L.length = nL) (hcat : (st.map fun v => v.category).sum ≤ 8) (k : V κ G b (N, 0, 0) w pc2 L (.int E :: st)) : V κ G b (N, 0, 0) w pc L (x0 :: .ref (b + q) :: st) := cv_X5_147 X d hM hR hq he hnL hcat (fun r w2 hp => by rw [hp.1, hp.2]; exact k)
theorem cv_X5_150 (X : CX κ G cc nL RX5 cx h) (d : Dc cc pc (.invokevirtual 150) 3 pc2) {q : Nat} {fs : List Value} {hc : Nat} {x0 x1 : Value} {post : Int32 → Wd → Prop} (hM : CI κ.1.2.1 yX5_canReach cX5_canReach 3 (some .boolean) hc G b N w [.ref (b + q), x0, x1] post) (hR : hc + 1 ≤ h) (hq : q < N) (he : w q = .inr (5, fs)) (hnL : L.length = nL) (hcat : (st.map fun v => v.category).sum ≤ 8) (k : ∀ (r : Int32) (w2 : Wd), post r w2 → V κ G b (N, 0, 0) w2 pc2 L (.int r :: st)) : V κ G b (N, 0, 0) w pc L (x1 :: x0 :: .ref (b + q) :: st) := r_callVi (n := 2) X hM d qw_515 qw_516 qw_517 qw_2 qw_518 (by decide +kernel) rfl hR (by decide) hq he rfl hnL rfl hcat k
theorem cp_X5_150 (X : CX κ G cc nL RX5 cx h) (d : Dc cc pc (.invokevirtual 150) 3 pc2) {q : Nat} {fs : List Value} {hc : Nat} {x0 x1 : Value} {E : Int32} (hM : CI κ.1.2.1 yX5_canReach cX5_canReach 3 (some .boolean) hc G b N w [.ref (b + q), x0, x1] (fun r w2 => r = E ∧ w2 = w)) (hR : hc + 1 ≤ h) (hq : q < N) (he : w q = .inr (5, fs)) (hnL : L.length = nL) (hcat : (st.map fun v => v.category).sum ≤ 8) (k : V κ G b (N, 0, 0) w pc2 L (.int E :: st)) : V κ G b (N, 0, 0) w pc L (x1 :: x0 :: .ref (b + q) :: st) := cv_X5_150 X d hM hR hq he hnL hcat (fun r w2 hp => by rw [hp.1, hp.2]; exact k)
theorem cv_X5_153 (X : CX κ G cc nL RX5 cx h) (d : Dc cc pc (.invokevirtual 153) 3 pc2) {q : Nat} {fs : List Value} {hc : Nat} {x0 x1 x2 : Value} {post : Wd → Prop} (hM : CV κ.1.2.1 yX1_findBest cX1_findBest 4 hc G b N w [.ref (b + q), x0, x1, x2] post) (hR : hc + 1 ≤ h) (hq : q < N) (he : w q = .inr (1, fs)) (hnL : L.length = nL) (hcat : (st.map fun v => v.category).sum ≤ 8) (k : ∀ (w2 : Wd), post w2 → V κ G b (N, 0, 0) w2 pc2 L st) : V κ G b (N, 0, 0) w pc L (x2 :: x1 :: x0 :: .ref (b + q) :: st) := r_callVv (n := 3) X hM d qw_519 qw_520 qw_521 qw_26 qw_522 (by decide +kernel) rfl hR (by decide) hq he rfl hnL rfl hcat k
theorem cv_X5_169 (X : CX κ G cc nL RX5 cx h) (d : Dc cc pc (.invokevirtual 169) 3 pc2) {q : Nat} {fs : List Value} {hc : Nat} {x0 x1 x2 : Value} {post : Wd → Prop} (hM : CV κ.1.2.1 yX0_fillTo cX0_fillTo 6 hc G b N w [.ref (b + q), x0, x1, x2] post) (hR : hc + 1 ≤ h) (hq : q < N) (he : w q = .inr (0, fs)) (hnL : L.length = nL) (hcat : (st.map fun v => v.category).sum ≤ 8) (k : ∀ (w2 : Wd), post w2 → V κ G b (N, 0, 0) w2 pc2 L st) : V κ G b (N, 0, 0) w pc L (x2 :: x1 :: x0 :: .ref (b + q) :: st) := r_callVv (n := 3) X hM d qw_579 qw_580 qw_581 qw_30 qw_582 (by decide +kernel) rfl hR (by decide) hq he rfl hnL rfl hcat k
theorem cv_X5_178 (X : CX κ G cc nL RX5 cx h) (d : Dc cc pc (.invokevirtual 178) 3 pc2) {q : Nat} {fs : List Value} {hc : Nat} {x0 : Value} {post : Wd → Prop} (hM : CV κ.1.2.1 yX3_copyFrom cX3_copyFrom 3 hc G b N w [.ref (b + q), x0] post) (hR : hc + 1 ≤ h) (hq : q < N) (he : w q = .inr (3, fs)) (hnL : L.length = nL) (hcat : (st.map fun v => v.category).sum ≤ 8) (k : ∀ (w2 : Wd), post w2 → V κ G b (N, 0, 0) w2 pc2 L st) : V κ G b (N, 0, 0) w pc L (x0 :: .ref (b + q) :: st) := r_callVv (n := 1) X hM d qw_631 qw_525 qw_526 qw_14 qw_527 (by decide +kernel) rfl hR (by decide) hq he rfl hnL rfl hcat k
theorem cv_X5_182 (X : CX κ G cc nL RX5 cx h) (d : Dc cc pc (.invokevirtual 182) 3 pc2) {q : Nat} {fs : List Value} {hc : Nat} {post : Int32 → Wd → Prop} (hM : CI κ.1.2.1 yX3_sumOfGreys cX3_sumOfGreys 4 (some .int) hc G b N w [.ref (b + q)] post) (hR : hc + 1 ≤ h) (hq : q < N) (he : w q = .inr (3, fs)) (hnL : L.length = nL) (hcat : (st.map fun v => v.category).sum ≤ 8) (k : ∀ (r : Int32) (w2 : Wd), post r w2 → V κ G b (N, 0, 0) w2 pc2 L (.int r :: st)) : V κ G b (N, 0, 0) w pc L (.ref (b + q) :: st) := r_callVi (n := 0) X hM d qw_649 qw_650 qw_651 qw_14 qw_652 (by decide +kernel) rfl hR (by decide) hq he rfl hnL rfl hcat k
theorem cp_X5_182 (X : CX κ G cc nL RX5 cx h) (d : Dc cc pc (.invokevirtual 182) 3 pc2) {q : Nat} {fs : List Value} {hc : Nat} {E : Int32} (hM : CI κ.1.2.1 yX3_sumOfGreys cX3_sumOfGreys 4 (some .int) hc G b N w [.ref (b + q)] (fun r w2 => r = E ∧ w2 = w)) (hR : hc + 1 ≤ h) (hq : q < N) (he : w q = .inr (3, fs)) (hnL : L.length = nL) (hcat : (st.map fun v => v.category).sum ≤ 8) (k : V κ G b (N, 0, 0) w pc2 L (.int E :: st)) : V κ G b (N, 0, 0) w pc L (.ref (b + q) :: st) := cv_X5_182 X d hM hR hq he hnL hcat (fun r w2 hp => by rw [hp.1, hp.2]; exact k)
theorem cv_X5_185 (X : CX κ G cc nL RX5 cx h) (d : Dc cc pc (.invokevirtual 185) 3 pc2) {q : Nat} {fs : List Value} {hc : Nat} {x0 : Value} {post : Int32 → Wd → Prop} (hM : CI κ.1.2.1 yX3_dotsMarked cX3_dotsMarked 5 (some .int) hc G b N w [.ref (b + q), x0] post) (hR : hc + 1 ≤ h) (hq : q < N) (he : w q = .inr (3, fs)) (hnL : L.length = nL) (hcat : (st.map fun v => v.category).sum ≤ 8) (k : ∀ (r : Int32) (w2 : Wd), post r w2 → V κ G b (N, 0, 0) w2 pc2 L (.int r :: st)) : V κ G b (N, 0, 0) w pc L (x0 :: .ref (b + q) :: st) := r_callVi (n := 1) X hM d qw_653 qw_654 qw_655 qw_14 qw_656 (by decide +kernel) rfl hR (by decide) hq he rfl hnL rfl hcat k
theorem cp_X5_185 (X : CX κ G cc nL RX5 cx h) (d : Dc cc pc (.invokevirtual 185) 3 pc2) {q : Nat} {fs : List Value} {hc : Nat} {x0 : Value} {E : Int32} (hM : CI κ.1.2.1 yX3_dotsMarked cX3_dotsMarked 5 (some .int) hc G b N w [.ref (b + q), x0] (fun r w2 => r = E ∧ w2 = w)) (hR : hc + 1 ≤ h) (hq : q < N) (he : w q = .inr (3, fs)) (hnL : L.length = nL) (hcat : (st.map fun v => v.category).sum ≤ 8) (k : V κ G b (N, 0, 0) w pc2 L (.int E :: st)) : V κ G b (N, 0, 0) w pc L (x0 :: .ref (b + q) :: st) := cv_X5_185 X d hM hR hq he hnL hcat (fun r w2 hp => by rw [hp.1, hp.2]; exact k)
theorem cv_X5_191 (X : CX κ G cc nL RX5 cx h) (d : Dc cc pc (.invokevirtual 191) 3 pc2) {q : Nat} {fs : List Value} {hc : Nat} {post : Int32 → Wd → Prop} (hM : CI κ.1.2.1 yX5_imagesKept cX5_imagesKept 3 (some .int) hc G b N w [.ref (b + q)] post) (hR : hc + 1 ≤ h) (hq : q < N) (he : w q = .inr (5, fs)) (hnL : L.length = nL) (hcat : (st.map fun v => v.category).sum ≤ 8) (k : ∀ (r : Int32) (w2 : Wd), post r w2 → V κ G b (N, 0, 0) w2 pc2 L (.int r :: st)) : V κ G b (N, 0, 0) w pc L (.ref (b + q) :: st) := r_callVi (n := 0) X hM d qw_657 qw_658 qw_659 qw_2 qw_660 (by decide +kernel) rfl hR (by decide) hq he rfl hnL rfl hcat k
theorem cp_X5_191 (X : CX κ G cc nL RX5 cx h) (d : Dc cc pc (.invokevirtual 191) 3 pc2) {q : Nat} {fs : List Value} {hc : Nat} {E : Int32} (hM : CI κ.1.2.1 yX5_imagesKept cX5_imagesKept 3 (some .int) hc G b N w [.ref (b + q)] (fun r w2 => r = E ∧ w2 = w)) (hR : hc + 1 ≤ h) (hq : q < N) (he : w q = .inr (5, fs)) (hnL : L.length = nL) (hcat : (st.map fun v => v.category).sum ≤ 8) (k : V κ G b (N, 0, 0) w pc2 L (.int E :: st)) : V κ G b (N, 0, 0) w pc L (.ref (b + q) :: st) := cv_X5_191 X d hM hR hq he hnL hcat (fun r w2 hp => by rw [hp.1, hp.2]; exact k)
theorem pf_X5_81 (X : CX κ G cc nL RX5 cx h) (d : Dc cc pc (.putfield 81) 3 pc2) {q : Nat} {v0 v1 v2 v3 v4 : Value} {x : Int32} (hq : q < ν.1) (he : w q = .inr (3, [v0, v1, v2, v3, v4])) (k : ∀ w2 : Wd, w2 q = .inr (3, [v0, v1, .int x, v3, v4]) → (∀ j, j ≠ q → w2 j = w j) → V κ G b ν w2 pc2 L st) : V κ G b ν w pc L (.int x :: .ref (b + q) :: st) := r_put X d rfl inlX3 tyX3 tyX3_ok nmX3 2 (by decide) qw_154 rfl hq he rfl rfl (Nat.le_of_ble_eq_true rfl) rfl k
theorem gf_X6_7 (X : CX κ G cc nL RX6 cx h) (d : Dc cc pc (.getfield 7) 3 pc2) {q : Nat} {v0 v1 v2 v3 v4 v5 v6 v7 v8 v9 v10 v11 v12 v13 v14 v15 v16 v17 v18 : Value} (hq : q < ν.1) (he : w q = .inr (6, [v0, v1, v2, v3, v4, v5, v6, v7, v8, v9, v10, v11, v12, v13, v14, v15, v16, v17, v18])) (k : V κ G b ν w pc2 L (v0 :: st)) : V κ G b ν w pc L (.ref (b + q) :: st) := r_get X d rfl inlX6 0 (by decide) qw_82 hq he rfl k
theorem gf_X6_13 (X : CX κ G cc nL RX6 cx h) (d : Dc cc pc (.getfield 13) 3 pc2) {q : Nat} {v0 v1 v2 v3 v4 v5 v6 v7 v8 v9 v10 v11 v12 v13 v14 v15 v16 v17 v18 : Value} (hq : q < ν.1) (he : w q = .inr (6, [v0, v1, v2, v3, v4, v5, v6, v7, v8, v9, v10, v11, v12, v13, v14, v15, v16, v17, v18])) (k : V κ G b ν w pc2 L (v1 :: st)) : V κ G b ν w pc L (.ref (b + q) :: st) := r_get X d rfl inlX6 1 (by decide) qw_83 hq he rfl k
theorem gf_X6_16 (X : CX κ G cc nL RX6 cx h) (d : Dc cc pc (.getfield 16) 3 pc2) {q : Nat} {v0 v1 v2 v3 v4 v5 v6 v7 v8 v9 v10 v11 v12 v13 v14 v15 v16 v17 v18 : Value} (hq : q < ν.1) (he : w q = .inr (6, [v0, v1, v2, v3, v4, v5, v6, v7, v8, v9, v10, v11, v12, v13, v14, v15, v16, v17, v18])) (k : V κ G b ν w pc2 L (v2 :: st)) : V κ G b ν w pc L (.ref (b + q) :: st) := r_get X d rfl inlX6 2 (by decide) qw_84 hq he rfl k
theorem gf_X6_20 (X : CX κ G cc nL RX6 cx h) (d : Dc cc pc (.getfield 20) 3 pc2) {q : Nat} {v0 v1 v2 v3 v4 v5 v6 v7 v8 v9 v10 v11 v12 v13 v14 v15 v16 v17 v18 : Value} (hq : q < ν.1) (he : w q = .inr (6, [v0, v1, v2, v3, v4, v5, v6, v7, v8, v9, v10, v11, v12, v13, v14, v15, v16, v17, v18])) (k : V κ G b ν w pc2 L (v3 :: st)) : V κ G b ν w pc L (.ref (b + q) :: st) := r_get X d rfl inlX6 3 (by decide) qw_85 hq he rfl k
theorem gf_X6_23 (X : CX κ G cc nL RX6 cx h) (d : Dc cc pc (.getfield 23) 3 pc2) {q : Nat} {v0 v1 v2 v3 v4 v5 v6 v7 v8 v9 v10 v11 v12 v13 v14 v15 v16 v17 v18 : Value} (hq : q < ν.1) (he : w q = .inr (6, [v0, v1, v2, v3, v4, v5, v6, v7, v8, v9, v10, v11, v12, v13, v14, v15, v16, v17, v18])) (k : V κ G b ν w pc2 L (v5 :: st)) : V κ G b ν w pc L (.ref (b + q) :: st) := r_get X d rfl inlX6 5 (by decide) qw_86 hq he rfl k
theorem gf_X6_26 (X : CX κ G cc nL RX6 cx h) (d : Dc cc pc (.getfield 26) 3 pc2) {q : Nat} {v0 v1 v2 v3 v4 v5 v6 v7 v8 v9 v10 v11 v12 v13 v14 v15 v16 v17 v18 : Value} (hq : q < ν.1) (he : w q = .inr (6, [v0, v1, v2, v3, v4, v5, v6, v7, v8, v9, v10, v11, v12, v13, v14, v15, v16, v17, v18])) (k : V κ G b ν w pc2 L (v6 :: st)) : V κ G b ν w pc L (.ref (b + q) :: st) := r_get X d rfl inlX6 6 (by decide) qw_87 hq he rfl k
theorem gf_X6_29 (X : CX κ G cc nL RX6 cx h) (d : Dc cc pc (.getfield 29) 3 pc2) {q : Nat} {v0 v1 v2 v3 v4 v5 v6 v7 v8 v9 v10 v11 v12 v13 v14 v15 v16 v17 v18 : Value} (hq : q < ν.1) (he : w q = .inr (6, [v0, v1, v2, v3, v4, v5, v6, v7, v8, v9, v10, v11, v12, v13, v14, v15, v16, v17, v18])) (k : V κ G b ν w pc2 L (v9 :: st)) : V κ G b ν w pc L (.ref (b + q) :: st) := r_get X d rfl inlX6 9 (by decide) qw_88 hq he rfl k
theorem gf_X6_32 (X : CX κ G cc nL RX6 cx h) (d : Dc cc pc (.getfield 32) 3 pc2) {q : Nat} {v0 v1 v2 v3 v4 v5 v6 v7 v8 v9 v10 v11 v12 v13 v14 v15 v16 v17 v18 : Value} (hq : q < ν.1) (he : w q = .inr (6, [v0, v1, v2, v3, v4, v5, v6, v7, v8, v9, v10, v11, v12, v13, v14, v15, v16, v17, v18])) (k : V κ G b ν w pc2 L (v10 :: st)) : V κ G b ν w pc L (.ref (b + q) :: st) := r_get X d rfl inlX6 10 (by decide) qw_89 hq he rfl k
theorem gf_X6_35 (X : CX κ G cc nL RX6 cx h) (d : Dc cc pc (.getfield 35) 3 pc2) {q : Nat} {v0 v1 v2 v3 v4 v5 v6 v7 v8 v9 v10 v11 v12 v13 v14 v15 v16 v17 v18 : Value} (hq : q < ν.1) (he : w q = .inr (6, [v0, v1, v2, v3, v4, v5, v6, v7, v8, v9, v10, v11, v12, v13, v14, v15, v16, v17, v18])) (k : V κ G b ν w pc2 L (v17 :: st)) : V κ G b ν w pc L (.ref (b + q) :: st) := r_get X d rfl inlX6 17 (by decide) qw_90 hq he rfl k
theorem gf_X6_38 (X : CX κ G cc nL RX6 cx h) (d : Dc cc pc (.getfield 38) 3 pc2) {q : Nat} {v0 v1 v2 v3 v4 v5 v6 v7 v8 v9 v10 v11 v12 v13 v14 v15 v16 v17 v18 : Value} (hq : q < ν.1) (he : w q = .inr (6, [v0, v1, v2, v3, v4, v5, v6, v7, v8, v9, v10, v11, v12, v13, v14, v15, v16, v17, v18])) (k : V κ G b ν w pc2 L (v18 :: st)) : V κ G b ν w pc L (.ref (b + q) :: st) := r_get X d rfl inlX6 18 (by decide) qw_91 hq he rfl k
theorem gf_X6_45 (X : CX κ G cc nL RX6 cx h) (d : Dc cc pc (.getfield 45) 3 pc2) {q : Nat} {v0 v1 v2 v3 v4 v5 v6 v7 v8 v9 v10 v11 v12 v13 v14 v15 v16 v17 v18 : Value} (hq : q < ν.1) (he : w q = .inr (6, [v0, v1, v2, v3, v4, v5, v6, v7, v8, v9, v10, v11, v12, v13, v14, v15, v16, v17, v18])) (k : V κ G b ν w pc2 L (v7 :: st)) : V κ G b ν w pc L (.ref (b + q) :: st) := r_get X d rfl inlX6 7 (by decide) qw_213 hq he rfl k
theorem gf_X6_49 (X : CX κ G cc nL RX6 cx h) (d : Dc cc pc (.getfield 49) 3 pc2) {q : Nat} {v0 v1 v2 v3 v4 v5 v6 v7 v8 v9 v10 v11 v12 v13 v14 v15 v16 v17 v18 : Value} (hq : q < ν.1) (he : w q = .inr (6, [v0, v1, v2, v3, v4, v5, v6, v7, v8, v9, v10, v11, v12, v13, v14, v15, v16, v17, v18])) (k : V κ G b ν w pc2 L (v8 :: st)) : V κ G b ν w pc L (.ref (b + q) :: st) := r_get X d rfl inlX6 8 (by decide) qw_214 hq he rfl k
theorem gf_X6_94 (X : CX κ G cc nL RX6 cx h) (d : Dc cc pc (.getfield 94) 3 pc2) {q : Nat} {v0 v1 v2 v3 v4 v5 v6 v7 v8 v9 v10 v11 v12 v13 v14 v15 v16 v17 v18 : Value} (hq : q < ν.1) (he : w q = .inr (6, [v0, v1, v2, v3, v4, v5, v6, v7, v8, v9, v10, v11, v12, v13, v14, v15, v16, v17, v18])) (k : V κ G b ν w pc2 L (v11 :: st)) : V κ G b ν w pc L (.ref (b + q) :: st) := r_get X d rfl inlX6 11 (by decide) qw_379 hq he rfl k
theorem gf_X6_103 (X : CX κ G cc nL RX6 cx h) (d : Dc cc pc (.getfield 103) 3 pc2) {q : Nat} {v0 v1 v2 v3 v4 v5 v6 v7 v8 v9 v10 v11 v12 v13 v14 v15 v16 v17 v18 : Value} (hq : q < ν.1) (he : w q = .inr (6, [v0, v1, v2, v3, v4, v5, v6, v7, v8, v9, v10, v11, v12, v13, v14, v15, v16, v17, v18])) (k : V κ G b ν w pc2 L (v12 :: st)) : V κ G b ν w pc L (.ref (b + q) :: st) := r_get X d rfl inlX6 12 (by decide) qw_460 hq he rfl k
theorem gf_X6_127 (X : CX κ G cc nL RX6 cx h) (d : Dc cc pc (.getfield 127) 3 pc2) {q : Nat} {v0 v1 v2 v3 v4 v5 v6 v7 v8 v9 v10 v11 v12 v13 v14 v15 v16 v17 v18 : Value} (hq : q < ν.1) (he : w q = .inr (6, [v0, v1, v2, v3, v4, v5, v6, v7, v8, v9, v10, v11, v12, v13, v14, v15, v16, v17, v18])) (k : V κ G b ν w pc2 L (v4 :: st)) : V κ G b ν w pc L (.ref (b + q) :: st) := r_get X d rfl inlX6 4 (by decide) qw_271 hq he rfl k
theorem gf_X6_159 (X : CX κ G cc nL RX6 cx h) (d : Dc cc pc (.getfield 159) 3 pc2) {q : Nat} {v0 v1 v2 v3 v4 v5 v6 v7 v8 v9 v10 v11 v12 v13 v14 v15 v16 v17 v18 : Value} (hq : q < ν.1) (he : w q = .inr (6, [v0, v1, v2, v3, v4, v5, v6, v7, v8, v9, v10, v11, v12, v13, v14, v15, v16, v17, v18])) (k : V κ G b ν w pc2 L (v14 :: st)) : V κ G b ν w pc L (.ref (b + q) :: st) := r_get X d rfl inlX6 14 (by decide) qw_553 hq he rfl k
theorem gf_X6_162 (X : CX κ G cc nL RX6 cx h) (d : Dc cc pc (.getfield 162) 3 pc2) {q : Nat} {v0 v1 v2 v3 v4 v5 v6 v7 v8 v9 v10 v11 v12 v13 v14 v15 v16 v17 v18 : Value} (hq : q < ν.1) (he : w q = .inr (6, [v0, v1, v2, v3, v4, v5, v6, v7, v8, v9, v10, v11, v12, v13, v14, v15, v16, v17, v18])) (k : V κ G b ν w pc2 L (v15 :: st)) : V κ G b ν w pc L (.ref (b + q) :: st) := r_get X d rfl inlX6 15 (by decide) qw_552 hq he rfl k
theorem gf_X6_171 (X : CX κ G cc nL RX6 cx h) (d : Dc cc pc (.getfield 171) 3 pc2) {q : Nat} {v0 v1 v2 v3 v4 v5 v6 v7 v8 v9 v10 v11 v12 v13 v14 v15 v16 v17 v18 : Value} (hq : q < ν.1) (he : w q = .inr (6, [v0, v1, v2, v3, v4, v5, v6, v7, v8, v9, v10, v11, v12, v13, v14, v15, v16, v17, v18])) (k : V κ G b ν w pc2 L (v13 :: st)) : V κ G b ν w pc L (.ref (b + q) :: st) := r_get X d rfl inlX6 13 (by decide) qw_551 hq he rfl k
theorem gf_X6_174 (X : CX κ G cc nL RX6 cx h) (d : Dc cc pc (.getfield 174) 3 pc2) {q : Nat} {v0 v1 v2 v3 v4 v5 v6 v7 v8 v9 v10 v11 v12 v13 v14 v15 v16 v17 v18 : Value} (hq : q < ν.1) (he : w q = .inr (6, [v0, v1, v2, v3, v4, v5, v6, v7, v8, v9, v10, v11, v12, v13, v14, v15, v16, v17, v18])) (k : V κ G b ν w pc2 L (v16 :: st)) : V κ G b ν w pc L (.ref (b + q) :: st) := r_get X d rfl inlX6 16 (by decide) qw_554 hq he rfl k
theorem cv_X6_41 (X : CX κ G cc nL RX6 cx h) (d : Dc cc pc (.invokestatic 41) 3 pc2) {hc : Nat} {x0 x1 x2 : Value} {post : Int32 → Wd → Prop} (hM : CI κ.1.2.1 yX6_in cX6_in 3 (some .boolean) hc G b N w [x0, x1, x2] post) (hR : hc + 1 ≤ h) (hnL : L.length = nL) (hcat : (st.map fun v => v.category).sum ≤ 8) (k : ∀ (r : Int32) (w2 : Wd), post r w2 → V κ G b (N, 0, 0) w2 pc2 L (.int r :: st)) : V κ G b (N, 0, 0) w pc L (x2 :: x1 :: x0 :: st) := r_callSi (n := 3) X hM d qw_109 qw_110 qw_5 qw_111 (by decide +kernel) rfl hR (by decide) hnL rfl hcat k
theorem cp_X6_41 (X : CX κ G cc nL RX6 cx h) (d : Dc cc pc (.invokestatic 41) 3 pc2) {hc : Nat} {x0 x1 x2 : Value} {E : Int32} (hM : CI κ.1.2.1 yX6_in cX6_in 3 (some .boolean) hc G b N w [x0, x1, x2] (fun r w2 => r = E ∧ w2 = w)) (hR : hc + 1 ≤ h) (hnL : L.length = nL) (hcat : (st.map fun v => v.category).sum ≤ 8) (k : V κ G b (N, 0, 0) w pc2 L (.int E :: st)) : V κ G b (N, 0, 0) w pc L (x2 :: x1 :: x0 :: st) := cv_X6_41 X d hM hR hnL hcat (fun r w2 hp => by rw [hp.1, hp.2]; exact k)
theorem cv_X6_52 (X : CX κ G cc nL RX6 cx h) (d : Dc cc pc (.invokestatic 52) 3 pc2) {hc : Nat} {x0 x1 : Value} {post : Int32 → Wd → Prop} (hM : CI κ.1.2.1 yX6_at cX6_at 2 (some .int) hc G b N w [x0, x1] post) (hR : hc + 1 ≤ h) (hnL : L.length = nL) (hcat : (st.map fun v => v.category).sum ≤ 8) (k : ∀ (r : Int32) (w2 : Wd), post r w2 → V κ G b (N, 0, 0) w2 pc2 L (.int r :: st)) : V κ G b (N, 0, 0) w pc L (x1 :: x0 :: st) := r_callSi (n := 2) X hM d qw_135 qw_136 qw_5 qw_137 (by decide +kernel) rfl hR (by decide) hnL rfl hcat k
theorem cp_X6_52 (X : CX κ G cc nL RX6 cx h) (d : Dc cc pc (.invokestatic 52) 3 pc2) {hc : Nat} {x0 x1 : Value} {E : Int32} (hM : CI κ.1.2.1 yX6_at cX6_at 2 (some .int) hc G b N w [x0, x1] (fun r w2 => r = E ∧ w2 = w)) (hR : hc + 1 ≤ h) (hnL : L.length = nL) (hcat : (st.map fun v => v.category).sum ≤ 8) (k : V κ G b (N, 0, 0) w pc2 L (.int E :: st)) : V κ G b (N, 0, 0) w pc L (x1 :: x0 :: st) := cv_X6_52 X d hM hR hnL hcat (fun r w2 hp => by rw [hp.1, hp.2]; exact k)
theorem cv_X6_65 (X : CX κ G cc nL RX6 cx h) (d : Dc cc pc (.invokestatic 65) 3 pc2) {hc : Nat} {x0 : Value} {post : Int32 → Wd → Prop} (hM : CI κ.1.2.1 yX6_size cX6_size 1 (some .int) hc G b N w [x0] post) (hR : hc + 1 ≤ h) (hnL : L.length = nL) (hcat : (st.map fun v => v.category).sum ≤ 8) (k : ∀ (r : Int32) (w2 : Wd), post r w2 → V κ G b (N, 0, 0) w2 pc2 L (.int r :: st)) : V κ G b (N, 0, 0) w pc L (x0 :: st) := r_callSi (n := 1) X hM d qw_235 qw_236 qw_5 qw_237 (by decide +kernel) rfl hR (by decide) hnL rfl hcat k
theorem cp_X6_65 (X : CX κ G cc nL RX6 cx h) (d : Dc cc pc (.invokestatic 65) 3 pc2) {hc : Nat} {x0 : Value} {E : Int32} (hM : CI κ.1.2.1 yX6_size cX6_size 1 (some .int) hc G b N w [x0] (fun r w2 => r = E ∧ w2 = w)) (hR : hc + 1 ≤ h) (hnL : L.length = nL) (hcat : (st.map fun v => v.category).sum ≤ 8) (k : V κ G b (N, 0, 0) w pc2 L (.int E :: st)) : V κ G b (N, 0, 0) w pc L (x0 :: st) := cv_X6_65 X d hM hR hnL hcat (fun r w2 hp => by rw [hp.1, hp.2]; exact k)
theorem cv_X6_144 (X : CX κ G cc nL RX6 cx h) (d : Dc cc pc (.invokestatic 144) 3 pc2) {hc : Nat} {x0 : Value} {post : Int32 → Wd → Prop} (hM : CI κ.1.2.1 yX6_isWay cX6_isWay 1 (some .boolean) hc G b N w [x0] post) (hR : hc + 1 ≤ h) (hnL : L.length = nL) (hcat : (st.map fun v => v.category).sum ≤ 8) (k : ∀ (r : Int32) (w2 : Wd), post r w2 → V κ G b (N, 0, 0) w2 pc2 L (.int r :: st)) : V κ G b (N, 0, 0) w pc L (x0 :: st) := r_callSi (n := 1) X hM d qw_380 qw_381 qw_5 qw_382 (by decide +kernel) rfl hR (by decide) hnL rfl hcat k
theorem cp_X6_144 (X : CX κ G cc nL RX6 cx h) (d : Dc cc pc (.invokestatic 144) 3 pc2) {hc : Nat} {x0 : Value} {E : Int32} (hM : CI κ.1.2.1 yX6_isWay cX6_isWay 1 (some .boolean) hc G b N w [x0] (fun r w2 => r = E ∧ w2 = w)) (hR : hc + 1 ≤ h) (hnL : L.length = nL) (hcat : (st.map fun v => v.category).sum ≤ 8) (k : V κ G b (N, 0, 0) w pc2 L (.int E :: st)) : V κ G b (N, 0, 0) w pc L (x0 :: st) := cv_X6_144 X d hM hR hnL hcat (fun r w2 hp => by rw [hp.1, hp.2]; exact k)
theorem cv_X6_165 (X : CX κ G cc nL RX6 cx h) (d : Dc cc pc (.invokestatic 165) 3 pc2) {hc : Nat} {x0 : Value} {post : Int32 → Wd → Prop} (hM : CI κ.1.2.1 yX6_bits cX6_bits 3 (some .int) hc G b N w [x0] post) (hR : hc + 1 ≤ h) (hnL : L.length = nL) (hcat : (st.map fun v => v.category).sum ≤ 8) (k : ∀ (r : Int32) (w2 : Wd), post r w2 → V κ G b (N, 0, 0) w2 pc2 L (.int r :: st)) : V κ G b (N, 0, 0) w pc L (x0 :: st) := r_callSi (n := 1) X hM d qw_563 qw_564 qw_5 qw_565 (by decide +kernel) rfl hR (by decide) hnL rfl hcat k
theorem cp_X6_165 (X : CX κ G cc nL RX6 cx h) (d : Dc cc pc (.invokestatic 165) 3 pc2) {hc : Nat} {x0 : Value} {E : Int32} (hM : CI κ.1.2.1 yX6_bits cX6_bits 3 (some .int) hc G b N w [x0] (fun r w2 => r = E ∧ w2 = w)) (hR : hc + 1 ≤ h) (hnL : L.length = nL) (hcat : (st.map fun v => v.category).sum ≤ 8) (k : V κ G b (N, 0, 0) w pc2 L (.int E :: st)) : V κ G b (N, 0, 0) w pc L (x0 :: st) := cv_X6_165 X d hM hR hnL hcat (fun r w2 hp => by rw [hp.1, hp.2]; exact k)
theorem cv_X6_184 (X : CX κ G cc nL RX6 cx h) (d : Dc cc pc (.invokestatic 184) 3 pc2) {hc : Nat} {x0 x1 : Value} {post : Int32 → Wd → Prop} (hM : CI κ.1.2.1 yX6_turned cX6_turned 4 (some .int) hc G b N w [x0, x1] post) (hR : hc + 1 ≤ h) (hnL : L.length = nL) (hcat : (st.map fun v => v.category).sum ≤ 8) (k : ∀ (r : Int32) (w2 : Wd), post r w2 → V κ G b (N, 0, 0) w2 pc2 L (.int r :: st)) : V κ G b (N, 0, 0) w pc L (x1 :: x0 :: st) := r_callSi (n := 2) X hM d qw_570 qw_571 qw_5 qw_572 (by decide +kernel) rfl hR (by decide) hnL rfl hcat k
theorem cp_X6_184 (X : CX κ G cc nL RX6 cx h) (d : Dc cc pc (.invokestatic 184) 3 pc2) {hc : Nat} {x0 x1 : Value} {E : Int32} (hM : CI κ.1.2.1 yX6_turned cX6_turned 4 (some .int) hc G b N w [x0, x1] (fun r w2 => r = E ∧ w2 = w)) (hR : hc + 1 ≤ h) (hnL : L.length = nL) (hcat : (st.map fun v => v.category).sum ≤ 8) (k : V κ G b (N, 0, 0) w pc2 L (.int E :: st)) : V κ G b (N, 0, 0) w pc L (x1 :: x0 :: st) := cv_X6_184 X d hM hR hnL hcat (fun r w2 hp => by rw [hp.1, hp.2]; exact k)
theorem cv_X6_56 (X : CX κ G cc nL RX6 cx h) (d : Dc cc pc (.invokevirtual 56) 3 pc2) {q : Nat} {fs : List Value} {hc : Nat} {x0 x1 : Value} {post : Int32 → Wd → Prop} (hM : CI κ.1.2.1 yX6_greyAt cX6_greyAt 3 (some .int) hc G b N w [.ref (b + q), x0, x1] post) (hR : hc + 1 ≤ h) (hq : q < N) (he : w q = .inr (6, fs)) (hnL : L.length = nL) (hcat : (st.map fun v => v.category).sum ≤ 8) (k : ∀ (r : Int32) (w2 : Wd), post r w2 → V κ G b (N, 0, 0) w2 pc2 L (.int r :: st)) : V κ G b (N, 0, 0) w pc L (x1 :: x0 :: .ref (b + q) :: st) := r_callVi (n := 2) X hM d qw_227 qw_228 qw_229 qw_5 qw_230 (by decide +kernel) rfl hR (by decide) hq he rfl hnL rfl hcat k
theorem cp_X6_56 (X : CX κ G cc nL RX6 cx h) (d : Dc cc pc (.invokevirtual 56) 3 pc2) {q : Nat} {fs : List Value} {hc : Nat} {x0 x1 : Value} {E : Int32} (hM : CI κ.1.2.1 yX6_greyAt cX6_greyAt 3 (some .int) hc G b N w [.ref (b + q), x0, x1] (fun r w2 => r = E ∧ w2 = w)) (hR : hc + 1 ≤ h) (hq : q < N) (he : w q = .inr (6, fs)) (hnL : L.length = nL) (hcat : (st.map fun v => v.category).sum ≤ 8) (k : V κ G b (N, 0, 0) w pc2 L (.int E :: st)) : V κ G b (N, 0, 0) w pc L (x1 :: x0 :: .ref (b + q) :: st) := cv_X6_56 X d hM hR hq he hnL hcat (fun r w2 hp => by rw [hp.1, hp.2]; exact k)
theorem cv_X6_59 (X : CX κ G cc nL RX6 cx h) (d : Dc cc pc (.invokevirtual 59) 3 pc2) {q : Nat} {fs : List Value} {hc : Nat} {x0 x1 : Value} {post : Int32 → Wd → Prop} (hM : CI κ.1.2.1 yX6_left cX6_left 3 (some .int) hc G b N w [.ref (b + q), x0, x1] post) (hR : hc + 1 ≤ h) (hq : q < N) (he : w q = .inr (6, fs)) (hnL : L.length = nL) (hcat : (st.map fun v => v.category).sum ≤ 8) (k : ∀ (r : Int32) (w2 : Wd), post r w2 → V κ G b (N, 0, 0) w2 pc2 L (.int r :: st)) : V κ G b (N, 0, 0) w pc L (x1 :: x0 :: .ref (b + q) :: st) := r_callVi (n := 2) X hM d qw_223 qw_224 qw_225 qw_5 qw_226 (by decide +kernel) rfl hR (by decide) hq he rfl hnL rfl hcat k
theorem cp_X6_59 (X : CX κ G cc nL RX6 cx h) (d : Dc cc pc (.invokevirtual 59) 3 pc2) {q : Nat} {fs : List Value} {hc : Nat} {x0 x1 : Value} {E : Int32} (hM : CI κ.1.2.1 yX6_left cX6_left 3 (some .int) hc G b N w [.ref (b + q), x0, x1] (fun r w2 => r = E ∧ w2 = w)) (hR : hc + 1 ≤ h) (hq : q < N) (he : w q = .inr (6, fs)) (hnL : L.length = nL) (hcat : (st.map fun v => v.category).sum ≤ 8) (k : V κ G b (N, 0, 0) w pc2 L (.int E :: st)) : V κ G b (N, 0, 0) w pc L (x1 :: x0 :: .ref (b + q) :: st) := cv_X6_59 X d hM hR hq he hnL hcat (fun r w2 hp => by rw [hp.1, hp.2]; exact k)
theorem cv_X6_62 (X : CX κ G cc nL RX6 cx h) (d : Dc cc pc (.invokevirtual 62) 3 pc2) {q : Nat} {fs : List Value} {hc : Nat} {x0 x1 : Value} {post : Int32 → Wd → Prop} (hM : CI κ.1.2.1 yX6_right cX6_right 3 (some .int) hc G b N w [.ref (b + q), x0, x1] post) (hR : hc + 1 ≤ h) (hq : q < N) (he : w q = .inr (6, fs)) (hnL : L.length = nL) (hcat : (st.map fun v => v.category).sum ≤ 8) (k : ∀ (r : Int32) (w2 : Wd), post r w2 → V κ G b (N, 0, 0) w2 pc2 L (.int r :: st)) : V κ G b (N, 0, 0) w pc L (x1 :: x0 :: .ref (b + q) :: st) := r_callVi (n := 2) X hM d qw_231 qw_232 qw_233 qw_5 qw_234 (by decide +kernel) rfl hR (by decide) hq he rfl hnL rfl hcat k
theorem cp_X6_62 (X : CX κ G cc nL RX6 cx h) (d : Dc cc pc (.invokevirtual 62) 3 pc2) {q : Nat} {fs : List Value} {hc : Nat} {x0 x1 : Value} {E : Int32} (hM : CI κ.1.2.1 yX6_right cX6_right 3 (some .int) hc G b N w [.ref (b + q), x0, x1] (fun r w2 => r = E ∧ w2 = w)) (hR : hc + 1 ≤ h) (hq : q < N) (he : w q = .inr (6, fs)) (hnL : L.length = nL) (hcat : (st.map fun v => v.category).sum ≤ 8) (k : V κ G b (N, 0, 0) w pc2 L (.int E :: st)) : V κ G b (N, 0, 0) w pc L (x1 :: x0 :: .ref (b + q) :: st) := cv_X6_62 X d hM hR hq he hnL hcat (fun r w2 hp => by rw [hp.1, hp.2]; exact k)
theorem cv_X6_69 (X : CX κ G cc nL RX6 cx h) (d : Dc cc pc (.invokevirtual 69) 3 pc2) {q : Nat} {fs : List Value} {hc : Nat} {x0 x1 : Value} {post : Int32 → Wd → Prop} (hM : CI κ.1.2.1 yX6_across cX6_across 3 (some .int) hc G b N w [.ref (b + q), x0, x1] post) (hR : hc + 1 ≤ h) (hq : q < N) (he : w q = .inr (6, fs)) (hnL : L.length = nL) (hcat : (st.map fun v => v.category).sum ≤ 8) (k : ∀ (r : Int32) (w2 : Wd), post r w2 → V κ G b (N, 0, 0) w2 pc2 L (.int r :: st)) : V κ G b (N, 0, 0) w pc L (x1 :: x0 :: .ref (b + q) :: st) := r_callVi (n := 2) X hM d qw_219 qw_220 qw_221 qw_5 qw_222 (by decide +kernel) rfl hR (by decide) hq he rfl hnL rfl hcat k
theorem cp_X6_69 (X : CX κ G cc nL RX6 cx h) (d : Dc cc pc (.invokevirtual 69) 3 pc2) {q : Nat} {fs : List Value} {hc : Nat} {x0 x1 : Value} {E : Int32} (hM : CI κ.1.2.1 yX6_across cX6_across 3 (some .int) hc G b N w [.ref (b + q), x0, x1] (fun r w2 => r = E ∧ w2 = w)) (hR : hc + 1 ≤ h) (hq : q < N) (he : w q = .inr (6, fs)) (hnL : L.length = nL) (hcat : (st.map fun v => v.category).sum ≤ 8) (k : V κ G b (N, 0, 0) w pc2 L (.int E :: st)) : V κ G b (N, 0, 0) w pc L (x1 :: x0 :: .ref (b + q) :: st) := cv_X6_69 X d hM hR hq he hnL hcat (fun r w2 hp => by rw [hp.1, hp.2]; exact k)
theorem cv_X6_72 (X : CX κ G cc nL RX6 cx h) (d : Dc cc pc (.invokevirtual 72) 3 pc2) {q : Nat} {fs : List Value} {hc : Nat} {x0 x1 : Value} {post : Int32 → Wd → Prop} (hM : CI κ.1.2.1 yX6_above cX6_above 3 (some .int) hc G b N w [.ref (b + q), x0, x1] post) (hR : hc + 1 ≤ h) (hq : q < N) (he : w q = .inr (6, fs)) (hnL : L.length = nL) (hcat : (st.map fun v => v.category).sum ≤ 8) (k : ∀ (r : Int32) (w2 : Wd), post r w2 → V κ G b (N, 0, 0) w2 pc2 L (.int r :: st)) : V κ G b (N, 0, 0) w pc L (x1 :: x0 :: .ref (b + q) :: st) := r_callVi (n := 2) X hM d qw_238 qw_239 qw_240 qw_5 qw_241 (by decide +kernel) rfl hR (by decide) hq he rfl hnL rfl hcat k
theorem cp_X6_72 (X : CX κ G cc nL RX6 cx h) (d : Dc cc pc (.invokevirtual 72) 3 pc2) {q : Nat} {fs : List Value} {hc : Nat} {x0 x1 : Value} {E : Int32} (hM : CI κ.1.2.1 yX6_above cX6_above 3 (some .int) hc G b N w [.ref (b + q), x0, x1] (fun r w2 => r = E ∧ w2 = w)) (hR : hc + 1 ≤ h) (hq : q < N) (he : w q = .inr (6, fs)) (hnL : L.length = nL) (hcat : (st.map fun v => v.category).sum ≤ 8) (k : V κ G b (N, 0, 0) w pc2 L (.int E :: st)) : V κ G b (N, 0, 0) w pc L (x1 :: x0 :: .ref (b + q) :: st) := cv_X6_72 X d hM hR hq he hnL hcat (fun r w2 hp => by rw [hp.1, hp.2]; exact k)
theorem cv_X6_75 (X : CX κ G cc nL RX6 cx h) (d : Dc cc pc (.invokevirtual 75) 3 pc2) {q : Nat} {fs : List Value} {hc : Nat} {x0 x1 : Value} {post : Int32 → Wd → Prop} (hM : CI κ.1.2.1 yX6_below cX6_below 3 (some .int) hc G b N w [.ref (b + q), x0, x1] post) (hR : hc + 1 ≤ h) (hq : q < N) (he : w q = .inr (6, fs)) (hnL : L.length = nL) (hcat : (st.map fun v => v.category).sum ≤ 8) (k : ∀ (r : Int32) (w2 : Wd), post r w2 → V κ G b (N, 0, 0) w2 pc2 L (.int r :: st)) : V κ G b (N, 0, 0) w pc L (x1 :: x0 :: .ref (b + q) :: st) := r_callVi (n := 2) X hM d qw_242 qw_243 qw_244 qw_5 qw_245 (by decide +kernel) rfl hR (by decide) hq he rfl hnL rfl hcat k
theorem cp_X6_75 (X : CX κ G cc nL RX6 cx h) (d : Dc cc pc (.invokevirtual 75) 3 pc2) {q : Nat} {fs : List Value} {hc : Nat} {x0 x1 : Value} {E : Int32} (hM : CI κ.1.2.1 yX6_below cX6_below 3 (some .int) hc G b N w [.ref (b + q), x0, x1] (fun r w2 => r = E ∧ w2 = w)) (hR : hc + 1 ≤ h) (hq : q < N) (he : w q = .inr (6, fs)) (hnL : L.length = nL) (hcat : (st.map fun v => v.category).sum ≤ 8) (k : V κ G b (N, 0, 0) w pc2 L (.int E :: st)) : V κ G b (N, 0, 0) w pc L (x1 :: x0 :: .ref (b + q) :: st) := cv_X6_75 X d hM hR hq he hnL hcat (fun r w2 hp => by rw [hp.1, hp.2]; exact k)
theorem cv_X6_78 (X : CX κ G cc nL RX6 cx h) (d : Dc cc pc (.invokevirtual 78) 3 pc2) {q : Nat} {fs : List Value} {hc : Nat} {x0 x1 : Value} {post : Int32 → Wd → Prop} (hM : CI κ.1.2.1 yX6_edge cX6_edge 3 (some .int) hc G b N w [.ref (b + q), x0, x1] post) (hR : hc + 1 ≤ h) (hq : q < N) (he : w q = .inr (6, fs)) (hnL : L.length = nL) (hcat : (st.map fun v => v.category).sum ≤ 8) (k : ∀ (r : Int32) (w2 : Wd), post r w2 → V κ G b (N, 0, 0) w2 pc2 L (.int r :: st)) : V κ G b (N, 0, 0) w pc L (x1 :: x0 :: .ref (b + q) :: st) := r_callVi (n := 2) X hM d qw_215 qw_216 qw_217 qw_5 qw_218 (by decide +kernel) rfl hR (by decide) hq he rfl hnL rfl hcat k
theorem cp_X6_78 (X : CX κ G cc nL RX6 cx h) (d : Dc cc pc (.invokevirtual 78) 3 pc2) {q : Nat} {fs : List Value} {hc : Nat} {x0 x1 : Value} {E : Int32} (hM : CI κ.1.2.1 yX6_edge cX6_edge 3 (some .int) hc G b N w [.ref (b + q), x0, x1] (fun r w2 => r = E ∧ w2 = w)) (hR : hc + 1 ≤ h) (hq : q < N) (he : w q = .inr (6, fs)) (hnL : L.length = nL) (hcat : (st.map fun v => v.category).sum ≤ 8) (k : V κ G b (N, 0, 0) w pc2 L (.int E :: st)) : V κ G b (N, 0, 0) w pc L (x1 :: x0 :: .ref (b + q) :: st) := cv_X6_78 X d hM hR hq he hnL hcat (fun r w2 hp => by rw [hp.1, hp.2]; exact k)
theorem cv_X6_81 (X : CX κ G cc nL RX6 cx h) (d : Dc cc pc (.invokevirtual 81) 3 pc2) {q : Nat} {fs : List Value} {hc : Nat} {x0 x1 : Value} {post : Int32 → Wd → Prop} (hM : CI κ.1.2.1 yX6_extra cX6_extra 4 (some .int) hc G b N w [.ref (b + q), x0, x1] post) (hR : hc + 1 ≤ h) (hq : q < N) (he : w q = .inr (6, fs)) (hnL : L.length = nL) (hcat : (st.map fun v => v.category).sum ≤ 8) (k : ∀ (r : Int32) (w2 : Wd), post r w2 → V κ G b (N, 0, 0) w2 pc2 L (.int r :: st)) : V κ G b (N, 0, 0) w pc L (x1 :: x0 :: .ref (b + q) :: st) := r_callVi (n := 2) X hM d qw_250 qw_251 qw_252 qw_5 qw_253 (by decide +kernel) rfl hR (by decide) hq he rfl hnL rfl hcat k
theorem cp_X6_81 (X : CX κ G cc nL RX6 cx h) (d : Dc cc pc (.invokevirtual 81) 3 pc2) {q : Nat} {fs : List Value} {hc : Nat} {x0 x1 : Value} {E : Int32} (hM : CI κ.1.2.1 yX6_extra cX6_extra 4 (some .int) hc G b N w [.ref (b + q), x0, x1] (fun r w2 => r = E ∧ w2 = w)) (hR : hc + 1 ≤ h) (hq : q < N) (he : w q = .inr (6, fs)) (hnL : L.length = nL) (hcat : (st.map fun v => v.category).sum ≤ 8) (k : V κ G b (N, 0, 0) w pc2 L (.int E :: st)) : V κ G b (N, 0, 0) w pc L (x1 :: x0 :: .ref (b + q) :: st) := cv_X6_81 X d hM hR hq he hnL hcat (fun r w2 hp => by rw [hp.1, hp.2]; exact k)
theorem cv_X6_84 (X : CX κ G cc nL RX6 cx h) (d : Dc cc pc (.invokevirtual 84) 3 pc2) {q : Nat} {fs : List Value} {hc : Nat} {x0 x1 : Value} {post : Int32 → Wd → Prop} (hM : CI κ.1.2.1 yX6_weight cX6_weight 3 (some .int) hc G b N w [.ref (b + q), x0, x1] post) (hR : hc + 1 ≤ h) (hq : q < N) (he : w q = .inr (6, fs)) (hnL : L.length = nL) (hcat : (st.map fun v => v.category).sum ≤ 8) (k : ∀ (r : Int32) (w2 : Wd), post r w2 → V κ G b (N, 0, 0) w2 pc2 L (.int r :: st)) : V κ G b (N, 0, 0) w pc L (x1 :: x0 :: .ref (b + q) :: st) := r_callVi (n := 2) X hM d qw_246 qw_247 qw_248 qw_5 qw_249 (by decide +kernel) rfl hR (by decide) hq he rfl hnL rfl hcat k
theorem cp_X6_84 (X : CX κ G cc nL RX6 cx h) (d : Dc cc pc (.invokevirtual 84) 3 pc2) {q : Nat} {fs : List Value} {hc : Nat} {x0 x1 : Value} {E : Int32} (hM : CI κ.1.2.1 yX6_weight cX6_weight 3 (some .int) hc G b N w [.ref (b + q), x0, x1] (fun r w2 => r = E ∧ w2 = w)) (hR : hc + 1 ≤ h) (hq : q < N) (he : w q = .inr (6, fs)) (hnL : L.length = nL) (hcat : (st.map fun v => v.category).sum ≤ 8) (k : V κ G b (N, 0, 0) w pc2 L (.int E :: st)) : V κ G b (N, 0, 0) w pc L (x1 :: x0 :: .ref (b + q) :: st) := cv_X6_84 X d hM hR hq he hnL hcat (fun r w2 hp => by rw [hp.1, hp.2]; exact k)
theorem cv_X6_87 (X : CX κ G cc nL RX6 cx h) (d : Dc cc pc (.invokevirtual 87) 3 pc2) {q : Nat} {fs : List Value} {hc : Nat} {x0 x1 x2 : Value} {post : Int32 → Wd → Prop} (hM : CI κ.1.2.1 yX6_costOf cX6_costOf 5 (some .int) hc G b N w [.ref (b + q), x0, x1, x2] post) (hR : hc + 1 ≤ h) (hq : q < N) (he : w q = .inr (6, fs)) (hnL : L.length = nL) (hcat : (st.map fun v => v.category).sum ≤ 8) (k : ∀ (r : Int32) (w2 : Wd), post r w2 → V κ G b (N, 0, 0) w2 pc2 L (.int r :: st)) : V κ G b (N, 0, 0) w pc L (x2 :: x1 :: x0 :: .ref (b + q) :: st) := r_callVi (n := 3) X hM d qw_399 qw_400 qw_401 qw_5 qw_402 (by decide +kernel) rfl hR (by decide) hq he rfl hnL rfl hcat k
theorem cp_X6_87 (X : CX κ G cc nL RX6 cx h) (d : Dc cc pc (.invokevirtual 87) 3 pc2) {q : Nat} {fs : List Value} {hc : Nat} {x0 x1 x2 : Value} {E : Int32} (hM : CI κ.1.2.1 yX6_costOf cX6_costOf 5 (some .int) hc G b N w [.ref (b + q), x0, x1, x2] (fun r w2 => r = E ∧ w2 = w)) (hR : hc + 1 ≤ h) (hq : q < N) (he : w q = .inr (6, fs)) (hnL : L.length = nL) (hcat : (st.map fun v => v.category).sum ≤ 8) (k : V κ G b (N, 0, 0) w pc2 L (.int E :: st)) : V κ G b (N, 0, 0) w pc L (x2 :: x1 :: x0 :: .ref (b + q) :: st) := cv_X6_87 X d hM hR hq he hnL hcat (fun r w2 hp => by rw [hp.1, hp.2]; exact k)
theorem cv_X6_91 (X : CX κ G cc nL RX6 cx h) (d : Dc cc pc (.invokevirtual 91) 3 pc2) {q : Nat} {fs : List Value} {hc : Nat} {x0 x1 : Value} {post : Int32 → Wd → Prop} (hM : CI κ.1.2.1 yX6_nextFrom cX6_nextFrom 7 (some .int) hc G b N w [.ref (b + q), x0, x1] post) (hR : hc + 1 ≤ h) (hq : q < N) (he : w q = .inr (6, fs)) (hnL : L.length = nL) (hcat : (st.map fun v => v.category).sum ≤ 8) (k : ∀ (r : Int32) (w2 : Wd), post r w2 → V κ G b (N, 0, 0) w2 pc2 L (.int r :: st)) : V κ G b (N, 0, 0) w pc L (x1 :: x0 :: .ref (b + q) :: st) := r_callVi (n := 2) X hM d qw_395 qw_396 qw_397 qw_5 qw_398 (by decide +kernel) rfl hR (by decide) hq he rfl hnL rfl hcat k
theorem cp_X6_91 (X : CX κ G cc nL RX6 cx h) (d : Dc cc pc (.invokevirtual 91) 3 pc2) {q : Nat} {fs : List Value} {hc : Nat} {x0 x1 : Value} {E : Int32} (hM : CI κ.1.2.1 yX6_nextFrom cX6_nextFrom 7 (some .int) hc G b N w [.ref (b + q), x0, x1] (fun r w2 => r = E ∧ w2 = w)) (hR : hc + 1 ≤ h) (hq : q < N) (he : w q = .inr (6, fs)) (hnL : L.length = nL) (hcat : (st.map fun v => v.category).sum ≤ 8) (k : V κ G b (N, 0, 0) w pc2 L (.int E :: st)) : V κ G b (N, 0, 0) w pc L (x1 :: x0 :: .ref (b + q) :: st) := cv_X6_91 X d hM hR hq he hnL hcat (fun r w2 hp => by rw [hp.1, hp.2]; exact k)
theorem cv_X6_97 (X : CX κ G cc nL RX6 cx h) (d : Dc cc pc (.invokevirtual 97) 3 pc2) {q : Nat} {fs : List Value} {hc : Nat} {post : Wd → Prop} (hM : CV κ.1.2.1 yX6_turn cX6_turn 5 hc G b N w [.ref (b + q)] post) (hR : hc + 1 ≤ h) (hq : q < N) (he : w q = .inr (6, fs)) (hnL : L.length = nL) (hcat : (st.map fun v => v.category).sum ≤ 8) (k : ∀ (w2 : Wd), post w2 → V κ G b (N, 0, 0) w2 pc2 L st) : V κ G b (N, 0, 0) w pc L (.ref (b + q) :: st) := r_callVv (n := 0) X hM d qw_387 qw_388 qw_389 qw_5 qw_390 (by decide +kernel) rfl hR (by decide) hq he rfl hnL rfl hcat k
theorem cv_X6_100 (X : CX κ G cc nL RX6 cx h) (d : Dc cc pc (.invokevirtual 100) 3 pc2) {q : Nat} {fs : List Value} {hc : Nat} {post : Wd → Prop} (hM : CV κ.1.2.1 yX6_laySeam cX6_laySeam 4 hc G b N w [.ref (b + q)] post) (hR : hc + 1 ≤ h) (hq : q < N) (he : w q = .inr (6, fs)) (hnL : L.length = nL) (hcat : (st.map fun v => v.category).sum ≤ 8) (k : ∀ (w2 : Wd), post w2 → V κ G b (N, 0, 0) w2 pc2 L st) : V κ G b (N, 0, 0) w pc L (.ref (b + q) :: st) := r_callVv (n := 0) X hM d qw_391 qw_392 qw_393 qw_5 qw_394 (by decide +kernel) rfl hR (by decide) hq he rfl hnL rfl hcat k
theorem cv_X6_106 (X : CX κ G cc nL RX6 cx h) (d : Dc cc pc (.invokevirtual 106) 3 pc2) {q : Nat} {fs : List Value} {hc : Nat} {x0 x1 x2 : Value} {post : Wd → Prop} (hM : CV κ.1.2.1 yX6_move cX6_move 4 hc G b N w [.ref (b + q), x0, x1, x2] post) (hR : hc + 1 ≤ h) (hq : q < N) (he : w q = .inr (6, fs)) (hnL : L.length = nL) (hcat : (st.map fun v => v.category).sum ≤ 8) (k : ∀ (w2 : Wd), post w2 → V κ G b (N, 0, 0) w2 pc2 L st) : V κ G b (N, 0, 0) w pc L (x2 :: x1 :: x0 :: .ref (b + q) :: st) := r_callVv (n := 3) X hM d qw_461 qw_462 qw_463 qw_5 qw_464 (by decide +kernel) rfl hR (by decide) hq he rfl hnL rfl hcat k
theorem cv_X6_110 (X : CX κ G cc nL RX6 cx h) (d : Dc cc pc (.invokevirtual 110) 3 pc2) {q : Nat} {fs : List Value} {hc : Nat} {x0 : Value} {post : Wd → Prop} (hM : CV κ.1.2.1 yX6_layWay cX6_layWay 2 hc G b N w [.ref (b + q), x0] post) (hR : hc + 1 ≤ h) (hq : q < N) (he : w q = .inr (6, fs)) (hnL : L.length = nL) (hcat : (st.map fun v => v.category).sum ≤ 8) (k : ∀ (w2 : Wd), post w2 → V κ G b (N, 0, 0) w2 pc2 L st) : V κ G b (N, 0, 0) w pc L (x0 :: .ref (b + q) :: st) := r_callVv (n := 1) X hM d qw_383 qw_384 qw_385 qw_5 qw_386 (by decide +kernel) rfl hR (by decide) hq he rfl hnL rfl hcat k
theorem cv_X6_114 (X : CX κ G cc nL RX6 cx h) (d : Dc cc pc (.invokevirtual 114) 3 pc2) {q : Nat} {fs : List Value} {hc : Nat} {post : Wd → Prop} (hM : CV κ.1.2.1 yX6_cutSeam cX6_cutSeam 3 hc G b N w [.ref (b + q)] post) (hR : hc + 1 ≤ h) (hq : q < N) (he : w q = .inr (6, fs)) (hnL : L.length = nL) (hcat : (st.map fun v => v.category).sum ≤ 8) (k : ∀ (w2 : Wd), post w2 → V κ G b (N, 0, 0) w2 pc2 L st) : V κ G b (N, 0, 0) w pc L (.ref (b + q) :: st) := r_callVv (n := 0) X hM d qw_456 qw_457 qw_458 qw_5 qw_459 (by decide +kernel) rfl hR (by decide) hq he rfl hnL rfl hcat k
theorem cv_X6_117 (X : CX κ G cc nL RX6 cx h) (d : Dc cc pc (.invokevirtual 117) 3 pc2) {q : Nat} {fs : List Value} {hc : Nat} {x0 : Value} {post : Wd → Prop} (hM : CV κ.1.2.1 yX6_leaveWay cX6_leaveWay 2 hc G b N w [.ref (b + q), x0] post) (hR : hc + 1 ≤ h) (hq : q < N) (he : w q = .inr (6, fs)) (hnL : L.length = nL) (hcat : (st.map fun v => v.category).sum ≤ 8) (k : ∀ (w2 : Wd), post w2 → V κ G b (N, 0, 0) w2 pc2 L st) : V κ G b (N, 0, 0) w pc L (x0 :: .ref (b + q) :: st) := r_callVv (n := 1) X hM d qw_465 qw_466 qw_467 qw_5 qw_468 (by decide +kernel) rfl hR (by decide) hq he rfl hnL rfl hcat k
theorem cv_X6_120 (X : CX κ G cc nL RX6 cx h) (d : Dc cc pc (.invokevirtual 120) 3 pc2) {q : Nat} {fs : List Value} {hc : Nat} {x0 x1 : Value} {post : Int32 → Wd → Prop} (hM : CI κ.1.2.1 yX6_isDot cX6_isDot 3 (some .boolean) hc G b N w [.ref (b + q), x0, x1] post) (hR : hc + 1 ≤ h) (hq : q < N) (he : w q = .inr (6, fs)) (hnL : L.length = nL) (hcat : (st.map fun v => v.category).sum ≤ 8) (k : ∀ (r : Int32) (w2 : Wd), post r w2 → V κ G b (N, 0, 0) w2 pc2 L (.int r :: st)) : V κ G b (N, 0, 0) w pc L (x1 :: x0 :: .ref (b + q) :: st) := r_callVi (n := 2) X hM d qw_131 qw_132 qw_133 qw_5 qw_134 (by decide +kernel) rfl hR (by decide) hq he rfl hnL rfl hcat k
theorem cp_X6_120 (X : CX κ G cc nL RX6 cx h) (d : Dc cc pc (.invokevirtual 120) 3 pc2) {q : Nat} {fs : List Value} {hc : Nat} {x0 x1 : Value} {E : Int32} (hM : CI κ.1.2.1 yX6_isDot cX6_isDot 3 (some .boolean) hc G b N w [.ref (b + q), x0, x1] (fun r w2 => r = E ∧ w2 = w)) (hR : hc + 1 ≤ h) (hq : q < N) (he : w q = .inr (6, fs)) (hnL : L.length = nL) (hcat : (st.map fun v => v.category).sum ≤ 8) (k : V κ G b (N, 0, 0) w pc2 L (.int E :: st)) : V κ G b (N, 0, 0) w pc L (x1 :: x0 :: .ref (b + q) :: st) := cv_X6_120 X d hM hR hq he hnL hcat (fun r w2 hp => by rw [hp.1, hp.2]; exact k)
theorem cv_X6_124 (X : CX κ G cc nL RX6 cx h) (d : Dc cc pc (.invokevirtual 124) 3 pc2) {q : Nat} {fs : List Value} {hc : Nat} {post : Wd → Prop} (hM : CV κ.1.2.1 yX6_take cX6_take 2 hc G b N w [.ref (b + q)] post) (hR : hc + 1 ≤ h) (hq : q < N) (he : w q = .inr (6, fs)) (hnL : L.length = nL) (hcat : (st.map fun v => v.category).sum ≤ 8) (k : ∀ (w2 : Wd), post w2 → V κ G b (N, 0, 0) w2 pc2 L st) : V κ G b (N, 0, 0) w pc L (.ref (b + q) :: st) := r_callVv (n := 0) X hM d qw_209 qw_210 qw_211 qw_5 qw_212 (by decide +kernel) rfl hR (by decide) hq he rfl hnL rfl hcat k
theorem cv_X6_130 (X : CX κ G cc nL RX6 cx h) (d : Dc cc pc (.invokevirtual 130) 3 pc2) {q : Nat} {fs : List Value} {hc : Nat} {x0 : Value} {post : Int32 → Wd → Prop} (hM : CI κ.1.2.1 yX6_isBetween cX6_isBetween 2 (some .boolean) hc G b N w [.ref (b + q), x0] post) (hR : hc + 1 ≤ h) (hq : q < N) (he : w q = .inr (6, fs)) (hnL : L.length = nL) (hcat : (st.map fun v => v.category).sum ≤ 8) (k : ∀ (r : Int32) (w2 : Wd), post r w2 → V κ G b (N, 0, 0) w2 pc2 L (.int r :: st)) : V κ G b (N, 0, 0) w pc L (x0 :: .ref (b + q) :: st) := r_callVi (n := 1) X hM d qw_306 qw_307 qw_308 qw_5 qw_309 (by decide +kernel) rfl hR (by decide) hq he rfl hnL rfl hcat k
theorem cp_X6_130 (X : CX κ G cc nL RX6 cx h) (d : Dc cc pc (.invokevirtual 130) 3 pc2) {q : Nat} {fs : List Value} {hc : Nat} {x0 : Value} {E : Int32} (hM : CI κ.1.2.1 yX6_isBetween cX6_isBetween 2 (some .boolean) hc G b N w [.ref (b + q), x0] (fun r w2 => r = E ∧ w2 = w)) (hR : hc + 1 ≤ h) (hq : q < N) (he : w q = .inr (6, fs)) (hnL : L.length = nL) (hcat : (st.map fun v => v.category).sum ≤ 8) (k : V κ G b (N, 0, 0) w pc2 L (.int E :: st)) : V κ G b (N, 0, 0) w pc L (x0 :: .ref (b + q) :: st) := cv_X6_130 X d hM hR hq he hnL hcat (fun r w2 hp => by rw [hp.1, hp.2]; exact k)
theorem cv_X6_134 (X : CX κ G cc nL RX6 cx h) (d : Dc cc pc (.invokevirtual 134) 3 pc2) {q : Nat} {fs : List Value} {hc : Nat} {x0 x1 : Value} {post : Int32 → Wd → Prop} (hM : CI κ.1.2.1 yX6_valueOf cX6_valueOf 3 (some .int) hc G b N w [.ref (b + q), x0, x1] post) (hR : hc + 1 ≤ h) (hq : q < N) (he : w q = .inr (6, fs)) (hnL : L.length = nL) (hcat : (st.map fun v => v.category).sum ≤ 8) (k : ∀ (r : Int32) (w2 : Wd), post r w2 → V κ G b (N, 0, 0) w2 pc2 L (.int r :: st)) : V κ G b (N, 0, 0) w pc L (x1 :: x0 :: .ref (b + q) :: st) := r_callVi (n := 2) X hM d qw_310 qw_311 qw_312 qw_5 qw_313 (by decide +kernel) rfl hR (by decide) hq he rfl hnL rfl hcat k
theorem cp_X6_134 (X : CX κ G cc nL RX6 cx h) (d : Dc cc pc (.invokevirtual 134) 3 pc2) {q : Nat} {fs : List Value} {hc : Nat} {x0 x1 : Value} {E : Int32} (hM : CI κ.1.2.1 yX6_valueOf cX6_valueOf 3 (some .int) hc G b N w [.ref (b + q), x0, x1] (fun r w2 => r = E ∧ w2 = w)) (hR : hc + 1 ≤ h) (hq : q < N) (he : w q = .inr (6, fs)) (hnL : L.length = nL) (hcat : (st.map fun v => v.category).sum ≤ 8) (k : V κ G b (N, 0, 0) w pc2 L (.int E :: st)) : V κ G b (N, 0, 0) w pc L (x1 :: x0 :: .ref (b + q) :: st) := cv_X6_134 X d hM hR hq he hnL hcat (fun r w2 hp => by rw [hp.1, hp.2]; exact k)
theorem cv_X6_137 (X : CX κ G cc nL RX6 cx h) (d : Dc cc pc (.invokevirtual 137) 3 pc2) {q : Nat} {fs : List Value} {hc : Nat} {post : Int32 → Wd → Prop} (hM : CI κ.1.2.1 yX6_signs cX6_signs 1 (some .int) hc G b N w [.ref (b + q)] post) (hR : hc + 1 ≤ h) (hq : q < N) (he : w q = .inr (6, fs)) (hnL : L.length = nL) (hcat : (st.map fun v => v.category).sum ≤ 8) (k : ∀ (r : Int32) (w2 : Wd), post r w2 → V κ G b (N, 0, 0) w2 pc2 L (.int r :: st)) : V κ G b (N, 0, 0) w pc L (.ref (b + q) :: st) := r_callVi (n := 0) X hM d qw_314 qw_315 qw_316 qw_5 qw_317 (by decide +kernel) rfl hR (by decide) hq he rfl hnL rfl hcat k
theorem cp_X6_137 (X : CX κ G cc nL RX6 cx h) (d : Dc cc pc (.invokevirtual 137) 3 pc2) {q : Nat} {fs : List Value} {hc : Nat} {E : Int32} (hM : CI κ.1.2.1 yX6_signs cX6_signs 1 (some .int) hc G b N w [.ref (b + q)] (fun r w2 => r = E ∧ w2 = w)) (hR : hc + 1 ≤ h) (hq : q < N) (he : w q = .inr (6, fs)) (hnL : L.length = nL) (hcat : (st.map fun v => v.category).sum ≤ 8) (k : V κ G b (N, 0, 0) w pc2 L (.int E :: st)) : V κ G b (N, 0, 0) w pc L (.ref (b + q) :: st) := cv_X6_137 X d hM hR hq he hnL hcat (fun r w2 hp => by rw [hp.1, hp.2]; exact k)
theorem cv_X6_141 (X : CX κ G cc nL RX6 cx h) (d : Dc cc pc (.invokevirtual 141) 3 pc2) {q : Nat} {fs : List Value} {hc : Nat} {x0 : Value} {post : Int32 → Wd → Prop} (hM : CI κ.1.2.1 yX6_faultAs cX6_faultAs 4 (some .int) hc G b N w [.ref (b + q), x0] post) (hR : hc + 1 ≤ h) (hq : q < N) (he : w q = .inr (6, fs)) (hnL : L.length = nL) (hcat : (st.map fun v => v.category).sum ≤ 8) (k : ∀ (r : Int32) (w2 : Wd), post r w2 → V κ G b (N, 0, 0) w2 pc2 L (.int r :: st)) : V κ G b (N, 0, 0) w pc L (x0 :: .ref (b + q) :: st) := r_callVi (n := 1) X hM d qw_302 qw_303 qw_304 qw_5 qw_305 (by decide +kernel) rfl hR (by decide) hq he rfl hnL rfl hcat k
theorem cp_X6_141 (X : CX κ G cc nL RX6 cx h) (d : Dc cc pc (.invokevirtual 141) 3 pc2) {q : Nat} {fs : List Value} {hc : Nat} {x0 : Value} {E : Int32} (hM : CI κ.1.2.1 yX6_faultAs cX6_faultAs 4 (some .int) hc G b N w [.ref (b + q), x0] (fun r w2 => r = E ∧ w2 = w)) (hR : hc + 1 ≤ h) (hq : q < N) (he : w q = .inr (6, fs)) (hnL : L.length = nL) (hcat : (st.map fun v => v.category).sum ≤ 8) (k : V κ G b (N, 0, 0) w pc2 L (.int E :: st)) : V κ G b (N, 0, 0) w pc L (x0 :: .ref (b + q) :: st) := cv_X6_141 X d hM hR hq he hnL hcat (fun r w2 hp => by rw [hp.1, hp.2]; exact k)
theorem cv_X6_147 (X : CX κ G cc nL RX6 cx h) (d : Dc cc pc (.invokevirtual 147) 3 pc2) {q : Nat} {fs : List Value} {hc : Nat} {x0 : Value} {post : Int32 → Wd → Prop} (hM : CI κ.1.2.1 yX6_layNumber cX6_layNumber 5 (some .boolean) hc G b N w [.ref (b + q), x0] post) (hR : hc + 1 ≤ h) (hq : q < N) (he : w q = .inr (6, fs)) (hnL : L.length = nL) (hcat : (st.map fun v => v.category).sum ≤ 8) (k : ∀ (r : Int32) (w2 : Wd), post r w2 → V κ G b (N, 0, 0) w2 pc2 L (.int r :: st)) : V κ G b (N, 0, 0) w pc L (x0 :: .ref (b + q) :: st) := r_callVi (n := 1) X hM d qw_424 qw_425 qw_426 qw_5 qw_427 (by decide +kernel) rfl hR (by decide) hq he rfl hnL rfl hcat k
theorem cp_X6_147 (X : CX κ G cc nL RX6 cx h) (d : Dc cc pc (.invokevirtual 147) 3 pc2) {q : Nat} {fs : List Value} {hc : Nat} {x0 : Value} {E : Int32} (hM : CI κ.1.2.1 yX6_layNumber cX6_layNumber 5 (some .boolean) hc G b N w [.ref (b + q), x0] (fun r w2 => r = E ∧ w2 = w)) (hR : hc + 1 ≤ h) (hq : q < N) (he : w q = .inr (6, fs)) (hnL : L.length = nL) (hcat : (st.map fun v => v.category).sum ≤ 8) (k : V κ G b (N, 0, 0) w pc2 L (.int E :: st)) : V κ G b (N, 0, 0) w pc L (x0 :: .ref (b + q) :: st) := cv_X6_147 X d hM hR hq he hnL hcat (fun r w2 hp => by rw [hp.1, hp.2]; exact k)
theorem cv_X6_150 (X : CX κ G cc nL RX6 cx h) (d : Dc cc pc (.invokevirtual 150) 3 pc2) {q : Nat} {fs : List Value} {hc : Nat} {x0 : Value} {post : Int32 → Wd → Prop} (hM : CI κ.1.2.1 yX6_cutWay cX6_cutWay 2 (some .int) hc G b N w [.ref (b + q), x0] post) (hR : hc + 1 ≤ h) (hq : q < N) (he : w q = .inr (6, fs)) (hnL : L.length = nL) (hcat : (st.map fun v => v.category).sum ≤ 8) (k : ∀ (r : Int32) (w2 : Wd), post r w2 → V κ G b (N, 0, 0) w2 pc2 L (.int r :: st)) : V κ G b (N, 0, 0) w pc L (x0 :: .ref (b + q) :: st) := r_callVi (n := 1) X hM d qw_452 qw_453 qw_454 qw_5 qw_455 (by decide +kernel) rfl hR (by decide) hq he rfl hnL rfl hcat k
theorem cp_X6_150 (X : CX κ G cc nL RX6 cx h) (d : Dc cc pc (.invokevirtual 150) 3 pc2) {q : Nat} {fs : List Value} {hc : Nat} {x0 : Value} {E : Int32} (hM : CI κ.1.2.1 yX6_cutWay cX6_cutWay 2 (some .int) hc G b N w [.ref (b + q), x0] (fun r w2 => r = E ∧ w2 = w)) (hR : hc + 1 ≤ h) (hq : q < N) (he : w q = .inr (6, fs)) (hnL : L.length = nL) (hcat : (st.map fun v => v.category).sum ≤ 8) (k : V κ G b (N, 0, 0) w pc2 L (.int E :: st)) : V κ G b (N, 0, 0) w pc L (x0 :: .ref (b + q) :: st) := cv_X6_150 X d hM hR hq he hnL hcat (fun r w2 hp => by rw [hp.1, hp.2]; exact k)
theorem cv_X6_153 (X : CX κ G cc nL RX6 cx h) (d : Dc cc pc (.invokevirtual 153) 3 pc2) {q : Nat} {fs : List Value} {hc : Nat} {post : Wd → Prop} (hM : CV κ.1.2.1 yX6_give cX6_give 3 hc G b N w [.ref (b + q)] post) (hR : hc + 1 ≤ h) (hq : q < N) (he : w q = .inr (6, fs)) (hnL : L.length = nL) (hcat : (st.map fun v => v.category).sum ≤ 8) (k : ∀ (w2 : Wd), post w2 → V κ G b (N, 0, 0) w2 pc2 L st) : V κ G b (N, 0, 0) w pc L (.ref (b + q) :: st) := r_callVv (n := 0) X hM d qw_469 qw_470 qw_471 qw_5 qw_472 (by decide +kernel) rfl hR (by decide) hq he rfl hnL rfl hcat k
theorem cv_X6_156 (X : CX κ G cc nL RX6 cx h) (d : Dc cc pc (.invokevirtual 156) 3 pc2) {q : Nat} {fs : List Value} {hc : Nat} {post : Wd → Prop} (hM : CV κ.1.2.1 yX6_addSeam cX6_addSeam 4 hc G b N w [.ref (b + q)] post) (hR : hc + 1 ≤ h) (hq : q < N) (he : w q = .inr (6, fs)) (hnL : L.length = nL) (hcat : (st.map fun v => v.category).sum ≤ 8) (k : ∀ (w2 : Wd), post w2 → V κ G b (N, 0, 0) w2 pc2 L st) : V κ G b (N, 0, 0) w pc L (.ref (b + q) :: st) := r_callVv (n := 0) X hM d qw_486 qw_487 qw_488 qw_5 qw_489 (by decide +kernel) rfl hR (by decide) hq he rfl hnL rfl hcat k
theorem cv_X6_168 (X : CX κ G cc nL RX6 cx h) (d : Dc cc pc (.invokevirtual 168) 3 pc2) {q : Nat} {fs : List Value} {hc : Nat} {x0 x1 : Value} {post : Int32 → Wd → Prop} (hM : CI κ.1.2.1 yX6_goOrder cX6_goOrder 5 (some .int) hc G b N w [.ref (b + q), x0, x1] post) (hR : hc + 1 ≤ h) (hq : q < N) (he : w q = .inr (6, fs)) (hnL : L.length = nL) (hcat : (st.map fun v => v.category).sum ≤ 8) (k : ∀ (r : Int32) (w2 : Wd), post r w2 → V κ G b (N, 0, 0) w2 pc2 L (.int r :: st)) : V κ G b (N, 0, 0) w pc L (x1 :: x0 :: .ref (b + q) :: st) := r_callVi (n := 2) X hM d qw_566 qw_567 qw_568 qw_5 qw_569 (by decide +kernel) rfl hR (by decide) hq he rfl hnL rfl hcat k
theorem cp_X6_168 (X : CX κ G cc nL RX6 cx h) (d : Dc cc pc (.invokevirtual 168) 3 pc2) {q : Nat} {fs : List Value} {hc : Nat} {x0 x1 : Value} {E : Int32} (hM : CI κ.1.2.1 yX6_goOrder cX6_goOrder 5 (some .int) hc G b N w [.ref (b + q), x0, x1] (fun r w2 => r = E ∧ w2 = w)) (hR : hc + 1 ≤ h) (hq : q < N) (he : w q = .inr (6, fs)) (hnL : L.length = nL) (hcat : (st.map fun v => v.category).sum ≤ 8) (k : V κ G b (N, 0, 0) w pc2 L (.int E :: st)) : V κ G b (N, 0, 0) w pc L (x1 :: x0 :: .ref (b + q) :: st) := cv_X6_168 X d hM hR hq he hnL hcat (fun r w2 hp => by rw [hp.1, hp.2]; exact k)
theorem cv_X6_177 (X : CX κ G cc nL RX6 cx h) (d : Dc cc pc (.invokevirtual 177) 3 pc2) {q : Nat} {fs : List Value} {hc : Nat} {x0 x1 : Value} {post : Int32 → Wd → Prop} (hM : CI κ.1.2.1 yX6_canGo cX6_canGo 3 (some .boolean) hc G b N w [.ref (b + q), x0, x1] post) (hR : hc + 1 ≤ h) (hq : q < N) (he : w q = .inr (6, fs)) (hnL : L.length = nL) (hcat : (st.map fun v => v.category).sum ≤ 8) (k : ∀ (r : Int32) (w2 : Wd), post r w2 → V κ G b (N, 0, 0) w2 pc2 L (.int r :: st)) : V κ G b (N, 0, 0) w pc L (x1 :: x0 :: .ref (b + q) :: st) := r_callVi (n := 2) X hM d qw_555 qw_556 qw_557 qw_5 qw_558 (by decide +kernel) rfl hR (by decide) hq he rfl hnL rfl hcat k
theorem cp_X6_177 (X : CX κ G cc nL RX6 cx h) (d : Dc cc pc (.invokevirtual 177) 3 pc2) {q : Nat} {fs : List Value} {hc : Nat} {x0 x1 : Value} {E : Int32} (hM : CI κ.1.2.1 yX6_canGo cX6_canGo 3 (some .boolean) hc G b N w [.ref (b + q), x0, x1] (fun r w2 => r = E ∧ w2 = w)) (hR : hc + 1 ≤ h) (hq : q < N) (he : w q = .inr (6, fs)) (hnL : L.length = nL) (hcat : (st.map fun v => v.category).sum ≤ 8) (k : V κ G b (N, 0, 0) w pc2 L (.int E :: st)) : V κ G b (N, 0, 0) w pc L (x1 :: x0 :: .ref (b + q) :: st) := cv_X6_177 X d hM hR hq he hnL hcat (fun r w2 hp => by rw [hp.1, hp.2]; exact k)
theorem cv_X6_180 (X : CX κ G cc nL RX6 cx h) (d : Dc cc pc (.invokevirtual 180) 3 pc2) {q : Nat} {fs : List Value} {hc : Nat} {x0 x1 : Value} {post : Wd → Prop} (hM : CV κ.1.2.1 yX6_layBest cX6_layBest 5 hc G b N w [.ref (b + q), x0, x1] post) (hR : hc + 1 ≤ h) (hq : q < N) (he : w q = .inr (6, fs)) (hnL : L.length = nL) (hcat : (st.map fun v => v.category).sum ≤ 8) (k : ∀ (w2 : Wd), post w2 → V κ G b (N, 0, 0) w2 pc2 L st) : V κ G b (N, 0, 0) w pc L (x1 :: x0 :: .ref (b + q) :: st) := r_callVv (n := 2) X hM d qw_559 qw_560 qw_561 qw_5 qw_562 (by decide +kernel) rfl hR (by decide) hq he rfl hnL rfl hcat k
theorem cv_X6_187 (X : CX κ G cc nL RX6 cx h) (d : Dc cc pc (.invokevirtual 187) 3 pc2) {q : Nat} {fs : List Value} {hc : Nat} {x0 x1 : Value} {post : Wd → Prop} (hM : CV κ.1.2.1 yX6_load cX6_load 5 hc G b N w [.ref (b + q), x0, x1] post) (hR : hc + 1 ≤ h) (hq : q < N) (he : w q = .inr (6, fs)) (hnL : L.length = nL) (hcat : (st.map fun v => v.category).sum ≤ 8) (k : ∀ (w2 : Wd), post w2 → V κ G b (N, 0, 0) w2 pc2 L st) : V κ G b (N, 0, 0) w pc L (x1 :: x0 :: .ref (b + q) :: st) := r_callVv (n := 2) X hM d qw_615 qw_616 qw_617 qw_5 qw_618 (by decide +kernel) rfl hR (by decide) hq he rfl hnL rfl hcat k
theorem cv_X6_190 (X : CX κ G cc nL RX6 cx h) (d : Dc cc pc (.invokevirtual 190) 3 pc2) {q : Nat} {fs : List Value} {hc : Nat} {x0 : Value} {post : Wd → Prop} (hM : CV κ.1.2.1 yX6_save cX6_save 3 hc G b N w [.ref (b + q), x0] post) (hR : hc + 1 ≤ h) (hq : q < N) (he : w q = .inr (6, fs)) (hnL : L.length = nL) (hcat : (st.map fun v => v.category).sum ≤ 8) (k : ∀ (w2 : Wd), post w2 → V κ G b (N, 0, 0) w2 pc2 L st) : V κ G b (N, 0, 0) w pc L (x0 :: .ref (b + q) :: st) := r_callVv (n := 1) X hM d qw_607 qw_608 qw_609 qw_5 qw_610 (by decide +kernel) rfl hR (by decide) hq he rfl hnL rfl hcat k
theorem cv_X6_193 (X : CX κ G cc nL RX6 cx h) (d : Dc cc pc (.invokevirtual 193) 3 pc2) {q : Nat} {fs : List Value} {hc : Nat} {x0 x1 : Value} {post : Wd → Prop} (hM : CV κ.1.2.1 yX6_layPlace cX6_layPlace 6 hc G b N w [.ref (b + q), x0, x1] post) (hR : hc + 1 ≤ h) (hq : q < N) (he : w q = .inr (6, fs)) (hnL : L.length = nL) (hcat : (st.map fun v => v.category).sum ≤ 8) (k : ∀ (w2 : Wd), post w2 → V κ G b (N, 0, 0) w2 pc2 L st) : V κ G b (N, 0, 0) w pc L (x1 :: x0 :: .ref (b + q) :: st) := r_callVv (n := 2) X hM d qw_611 qw_612 qw_613 qw_5 qw_614 (by decide +kernel) rfl hR (by decide) hq he rfl hnL rfl hcat k
theorem cv_X6_196 (X : CX κ G cc nL RX6 cx h) (d : Dc cc pc (.invokevirtual 196) 3 pc2) {q : Nat} {fs : List Value} {hc : Nat} {x0 x1 : Value} {post : Wd → Prop} (hM : CV κ.1.2.1 yX6_layTable cX6_layTable 5 hc G b N w [.ref (b + q), x0, x1] post) (hR : hc + 1 ≤ h) (hq : q < N) (he : w q = .inr (6, fs)) (hnL : L.length = nL) (hcat : (st.map fun v => v.category).sum ≤ 8) (k : ∀ (w2 : Wd), post w2 → V κ G b (N, 0, 0) w2 pc2 L st) : V κ G b (N, 0, 0) w pc L (x1 :: x0 :: .ref (b + q) :: st) := r_callVv (n := 2) X hM d qw_603 qw_604 qw_605 qw_5 qw_606 (by decide +kernel) rfl hR (by decide) hq he rfl hnL rfl hcat k
theorem cv_X6_199 (X : CX κ G cc nL RX6 cx h) (d : Dc cc pc (.invokevirtual 199) 3 pc2) {q : Nat} {fs : List Value} {hc : Nat} {post : Int32 → Wd → Prop} (hM : CI κ.1.2.1 yX6_greys cX6_greys 3 (some .int) hc G b N w [.ref (b + q)] post) (hR : hc + 1 ≤ h) (hq : q < N) (he : w q = .inr (6, fs)) (hnL : L.length = nL) (hcat : (st.map fun v => v.category).sum ≤ 8) (k : ∀ (r : Int32) (w2 : Wd), post r w2 → V κ G b (N, 0, 0) w2 pc2 L (.int r :: st)) : V κ G b (N, 0, 0) w pc L (.ref (b + q) :: st) := r_callVi (n := 0) X hM d qw_665 qw_666 qw_667 qw_5 qw_668 (by decide +kernel) rfl hR (by decide) hq he rfl hnL rfl hcat k
theorem cp_X6_199 (X : CX κ G cc nL RX6 cx h) (d : Dc cc pc (.invokevirtual 199) 3 pc2) {q : Nat} {fs : List Value} {hc : Nat} {E : Int32} (hM : CI κ.1.2.1 yX6_greys cX6_greys 3 (some .int) hc G b N w [.ref (b + q)] (fun r w2 => r = E ∧ w2 = w)) (hR : hc + 1 ≤ h) (hq : q < N) (he : w q = .inr (6, fs)) (hnL : L.length = nL) (hcat : (st.map fun v => v.category).sum ≤ 8) (k : V κ G b (N, 0, 0) w pc2 L (.int E :: st)) : V κ G b (N, 0, 0) w pc L (.ref (b + q) :: st) := cv_X6_199 X d hM hR hq he hnL hcat (fun r w2 hp => by rw [hp.1, hp.2]; exact k)
theorem cv_X6_202 (X : CX κ G cc nL RX6 cx h) (d : Dc cc pc (.invokevirtual 202) 3 pc2) {q : Nat} {fs : List Value} {hc : Nat} {x0 : Value} {post : Int32 → Wd → Prop} (hM : CI κ.1.2.1 yX6_dotsWith cX6_dotsWith 4 (some .int) hc G b N w [.ref (b + q), x0] post) (hR : hc + 1 ≤ h) (hq : q < N) (he : w q = .inr (6, fs)) (hnL : L.length = nL) (hcat : (st.map fun v => v.category).sum ≤ 8) (k : ∀ (r : Int32) (w2 : Wd), post r w2 → V κ G b (N, 0, 0) w2 pc2 L (.int r :: st)) : V κ G b (N, 0, 0) w pc L (x0 :: .ref (b + q) :: st) := r_callVi (n := 1) X hM d qw_669 qw_670 qw_671 qw_5 qw_672 (by decide +kernel) rfl hR (by decide) hq he rfl hnL rfl hcat k
theorem cp_X6_202 (X : CX κ G cc nL RX6 cx h) (d : Dc cc pc (.invokevirtual 202) 3 pc2) {q : Nat} {fs : List Value} {hc : Nat} {x0 : Value} {E : Int32} (hM : CI κ.1.2.1 yX6_dotsWith cX6_dotsWith 4 (some .int) hc G b N w [.ref (b + q), x0] (fun r w2 => r = E ∧ w2 = w)) (hR : hc + 1 ≤ h) (hq : q < N) (he : w q = .inr (6, fs)) (hnL : L.length = nL) (hcat : (st.map fun v => v.category).sum ≤ 8) (k : V κ G b (N, 0, 0) w pc2 L (.int E :: st)) : V κ G b (N, 0, 0) w pc L (x0 :: .ref (b + q) :: st) := cv_X6_202 X d hM hR hq he hnL hcat (fun r w2 hp => by rw [hp.1, hp.2]; exact k)
theorem pf_X6_45 (X : CX κ G cc nL RX6 cx h) (d : Dc cc pc (.putfield 45) 3 pc2) {q : Nat} {v0 v1 v2 v3 v4 v5 v6 v7 v8 v9 v10 v11 v12 v13 v14 v15 v16 v17 v18 : Value} {x : Int32} (hq : q < ν.1) (he : w q = .inr (6, [v0, v1, v2, v3, v4, v5, v6, v7, v8, v9, v10, v11, v12, v13, v14, v15, v16, v17, v18])) (k : ∀ w2 : Wd, w2 q = .inr (6, [v0, v1, v2, v3, v4, v5, v6, .int x, v8, v9, v10, v11, v12, v13, v14, v15, v16, v17, v18]) → (∀ j, j ≠ q → w2 j = w j) → V κ G b ν w2 pc2 L st) : V κ G b ν w pc L (.int x :: .ref (b + q) :: st) := r_put X d rfl inlX6 tyX6 tyX6_ok nmX6 7 (by decide) qw_213 rfl hq he rfl rfl (Nat.le_of_ble_eq_true rfl) rfl k
theorem pf_X6_49 (X : CX κ G cc nL RX6 cx h) (d : Dc cc pc (.putfield 49) 3 pc2) {q : Nat} {v0 v1 v2 v3 v4 v5 v6 v7 v8 v9 v10 v11 v12 v13 v14 v15 v16 v17 v18 : Value} {x : Int32} (hq : q < ν.1) (he : w q = .inr (6, [v0, v1, v2, v3, v4, v5, v6, v7, v8, v9, v10, v11, v12, v13, v14, v15, v16, v17, v18])) (k : ∀ w2 : Wd, w2 q = .inr (6, [v0, v1, v2, v3, v4, v5, v6, v7, .int x, v9, v10, v11, v12, v13, v14, v15, v16, v17, v18]) → (∀ j, j ≠ q → w2 j = w j) → V κ G b ν w2 pc2 L st) : V κ G b ν w pc L (.int x :: .ref (b + q) :: st) := r_put X d rfl inlX6 tyX6 tyX6_ok nmX6 8 (by decide) qw_214 rfl hq he rfl rfl (Nat.le_of_ble_eq_true rfl) rfl k
theorem pf_X6_94 (X : CX κ G cc nL RX6 cx h) (d : Dc cc pc (.putfield 94) 3 pc2) {q : Nat} {v0 v1 v2 v3 v4 v5 v6 v7 v8 v9 v10 v11 v12 v13 v14 v15 v16 v17 v18 : Value} {x : Int32} (hq : q < ν.1) (he : w q = .inr (6, [v0, v1, v2, v3, v4, v5, v6, v7, v8, v9, v10, v11, v12, v13, v14, v15, v16, v17, v18])) (k : ∀ w2 : Wd, w2 q = .inr (6, [v0, v1, v2, v3, v4, v5, v6, v7, v8, v9, v10, .int x, v12, v13, v14, v15, v16, v17, v18]) → (∀ j, j ≠ q → w2 j = w j) → V κ G b ν w2 pc2 L st) : V κ G b ν w pc L (.int x :: .ref (b + q) :: st) := r_put X d rfl inlX6 tyX6 tyX6_ok nmX6 11 (by decide) qw_379 rfl hq he rfl rfl (Nat.le_of_ble_eq_true rfl) rfl k
theorem pf_X6_103 (X : CX κ G cc nL RX6 cx h) (d : Dc cc pc (.putfield 103) 3 pc2) {q : Nat} {v0 v1 v2 v3 v4 v5 v6 v7 v8 v9 v10 v11 v12 v13 v14 v15 v16 v17 v18 : Value} {x : Int32} (hq : q < ν.1) (he : w q = .inr (6, [v0, v1, v2, v3, v4, v5, v6, v7, v8, v9, v10, v11, v12, v13, v14, v15, v16, v17, v18])) (k : ∀ w2 : Wd, w2 q = .inr (6, [v0, v1, v2, v3, v4, v5, v6, v7, v8, v9, v10, v11, .int x, v13, v14, v15, v16, v17, v18]) → (∀ j, j ≠ q → w2 j = w j) → V κ G b ν w2 pc2 L st) : V κ G b ν w pc L (.int x :: .ref (b + q) :: st) := r_put X d rfl inlX6 tyX6 tyX6_ok nmX6 12 (by decide) qw_460 rfl hq he rfl rfl (Nat.le_of_ble_eq_true rfl) rfl k
theorem pf_X6_127 (X : CX κ G cc nL RX6 cx h) (d : Dc cc pc (.putfield 127) 3 pc2) {q : Nat} {v0 v1 v2 v3 v4 v5 v6 v7 v8 v9 v10 v11 v12 v13 v14 v15 v16 v17 v18 : Value} {x : Int32} (hq : q < ν.1) (he : w q = .inr (6, [v0, v1, v2, v3, v4, v5, v6, v7, v8, v9, v10, v11, v12, v13, v14, v15, v16, v17, v18])) (k : ∀ w2 : Wd, w2 q = .inr (6, [v0, v1, v2, v3, .int x, v5, v6, v7, v8, v9, v10, v11, v12, v13, v14, v15, v16, v17, v18]) → (∀ j, j ≠ q → w2 j = w j) → V κ G b ν w2 pc2 L st) : V κ G b ν w pc L (.int x :: .ref (b + q) :: st) := r_put X d rfl inlX6 tyX6 tyX6_ok nmX6 4 (by decide) qw_271 rfl hq he rfl rfl (Nat.le_of_ble_eq_true rfl) rfl k
theorem pf_X6_159 (X : CX κ G cc nL RX6 cx h) (d : Dc cc pc (.putfield 159) 3 pc2) {q : Nat} {v0 v1 v2 v3 v4 v5 v6 v7 v8 v9 v10 v11 v12 v13 v14 v15 v16 v17 v18 : Value} {x : Int32} (hq : q < ν.1) (he : w q = .inr (6, [v0, v1, v2, v3, v4, v5, v6, v7, v8, v9, v10, v11, v12, v13, v14, v15, v16, v17, v18])) (k : ∀ w2 : Wd, w2 q = .inr (6, [v0, v1, v2, v3, v4, v5, v6, v7, v8, v9, v10, v11, v12, v13, .int x, v15, v16, v17, v18]) → (∀ j, j ≠ q → w2 j = w j) → V κ G b ν w2 pc2 L st) : V κ G b ν w pc L (.int x :: .ref (b + q) :: st) := r_put X d rfl inlX6 tyX6 tyX6_ok nmX6 14 (by decide) qw_553 rfl hq he rfl rfl (Nat.le_of_ble_eq_true rfl) rfl k
theorem pf_X6_162 (X : CX κ G cc nL RX6 cx h) (d : Dc cc pc (.putfield 162) 3 pc2) {q : Nat} {v0 v1 v2 v3 v4 v5 v6 v7 v8 v9 v10 v11 v12 v13 v14 v15 v16 v17 v18 : Value} {x : Int32} (hq : q < ν.1) (he : w q = .inr (6, [v0, v1, v2, v3, v4, v5, v6, v7, v8, v9, v10, v11, v12, v13, v14, v15, v16, v17, v18])) (k : ∀ w2 : Wd, w2 q = .inr (6, [v0, v1, v2, v3, v4, v5, v6, v7, v8, v9, v10, v11, v12, v13, v14, .int x, v16, v17, v18]) → (∀ j, j ≠ q → w2 j = w j) → V κ G b ν w2 pc2 L st) : V κ G b ν w pc L (.int x :: .ref (b + q) :: st) := r_put X d rfl inlX6 tyX6 tyX6_ok nmX6 15 (by decide) qw_552 rfl hq he rfl rfl (Nat.le_of_ble_eq_true rfl) rfl k
theorem pf_X6_171 (X : CX κ G cc nL RX6 cx h) (d : Dc cc pc (.putfield 171) 3 pc2) {q : Nat} {v0 v1 v2 v3 v4 v5 v6 v7 v8 v9 v10 v11 v12 v13 v14 v15 v16 v17 v18 : Value} {x : Int32} (hq : q < ν.1) (he : w q = .inr (6, [v0, v1, v2, v3, v4, v5, v6, v7, v8, v9, v10, v11, v12, v13, v14, v15, v16, v17, v18])) (k : ∀ w2 : Wd, w2 q = .inr (6, [v0, v1, v2, v3, v4, v5, v6, v7, v8, v9, v10, v11, v12, .int x, v14, v15, v16, v17, v18]) → (∀ j, j ≠ q → w2 j = w j) → V κ G b ν w2 pc2 L st) : V κ G b ν w pc L (.int x :: .ref (b + q) :: st) := r_put X d rfl inlX6 tyX6 tyX6_ok nmX6 13 (by decide) qw_551 rfl hq he rfl rfl (Nat.le_of_ble_eq_true rfl) rfl k
theorem pf_X6_174 (X : CX κ G cc nL RX6 cx h) (d : Dc cc pc (.putfield 174) 3 pc2) {q : Nat} {v0 v1 v2 v3 v4 v5 v6 v7 v8 v9 v10 v11 v12 v13 v14 v15 v16 v17 v18 : Value} {x : Int32} (hq : q < ν.1) (he : w q = .inr (6, [v0, v1, v2, v3, v4, v5, v6, v7, v8, v9, v10, v11, v12, v13, v14, v15, v16, v17, v18])) (k : ∀ w2 : Wd, w2 q = .inr (6, [v0, v1, v2, v3, v4, v5, v6, v7, v8, v9, v10, v11, v12, v13, v14, v15, .int x, v17, v18]) → (∀ j, j ≠ q → w2 j = w j) → V κ G b ν w2 pc2 L st) : V κ G b ν w pc L (.int x :: .ref (b + q) :: st) := r_put X d rfl inlX6 tyX6 tyX6_ok nmX6 16 (by decide) qw_554 rfl hq he rfl rfl (Nat.le_of_ble_eq_true rfl) rfl k
end SITES
end
section
/-! what is promised, as mathematics: a grid is read by line and place; way 0: lines are rows, way 1: lines are columns -/
def ix (way l p : Nat) : Nat := if way = 0 then l * 8 + p else p * 8 + l
def br (way wd hg : Nat) : Nat := if way = 0 then wd else hg
def li (way wd hg : Nat) : Nat := if way = 0 then hg else wd
def vg (way : Nat) (a : Nat → Int32) (l p : Nat) : Int32 := a (ix way l p)
def exS (m : Nat → Nat → Int32) (l p : Nat) : Int32 := if m l p = 1 then 100 else if m l p = 2 then -100 else 0
def gapS (n : Nat) (h : Nat → Nat → Int32) (l p : Nat) : Int32 := iab (h l (p - 1) - h l (min (p + 1) (n - 1)))
def vgapS (n : Nat) (h : Nat → Nat → Int32) (l p : Nat) : Int32 := iab (h (l - 1) p - h (min (l + 1) (n - 1)) p)
def wtS (nb nl : Nat) (h m : Nat → Nat → Int32) (l p : Nat) : Int32 := gapS nb h l p + vgapS nl h l p + exS m l p
def stS (lw nb nl : Nat) (h m : Nat → Nat → Int32) (l p : Nat) : Int32 := exS m l p + gapS nb h l p + (if lw = 0 then vgapS nl h l p else 0)
def tuS (lw nb : Nat) (h : Nat → Nat → Int32) (l p fr : Nat) : Int32 := if lw = 0 ∨ fr = p then 0 else iab (h (l - 1) p - h l (if fr < p then p - 1 else min (p + 1) (nb - 1)))
/-- the first of a .. a + n at which f is least -/
def am (f : Nat → Int32) (a : Nat) : Nat → Nat
  | 0 => a
  | n + 1 => if f (a + (n + 1)) < f (am f a n) then a + (n + 1) else am f a n
theorem am_le (f : Nat → Int32) (a n : Nat) : am f a n ≤ a + n := by
  induction n with
  | zero => exact Nat.le_refl _
  | succ n ih => simp only [am]; split <;> omega
theorem am_ge (f : Nat → Int32) (a n : Nat) : a ≤ am f a n := by
  induction n with
  | zero => exact Nat.le_refl _
  | succ n ih => simp only [am]; split <;> omega
theorem am_congr {f g : Nat → Int32} {a n : Nat} (h : ∀ j, a ≤ j → j ≤ a + n → f j = g j) : am f a n = am g a n := by
  induction n with
  | zero => rfl
  | succ n ih =>
    have e := ih (fun j h1 h2 => h j h1 (by omega))
    simp only [am]
    rw [e, h (a + (n + 1)) (by omega) (by omega), h (am g a n) (am_ge _ _ _) (by have := am_le g a n; omega)]
theorem ix_lt {way l p : Nat} (hl : l < 8) (hp : p < 8) : ix way l p < 64 := by unfold ix; split <;> omega
theorem ix_inj {way l p l2 p2 : Nat} (hl : l < 8) (hp : p < 8) (hl2 : l2 < 8) (hp2 : p2 < 8) (e : ix way l p = ix way l2 p2) : l = l2 ∧ p = p2 := by
  unfold ix at e; split at e <;> omega
theorem ix_ne {way l p l2 p2 : Nat} (hl : l < 8) (hp : p < 8) (hl2 : l2 < 8) (hp2 : p2 < 8) (e : l ≠ l2 ∨ p ≠ p2) : ix way l p ≠ ix way l2 p2 := fun q => by
  have := ix_inj hl hp hl2 hp2 q
  omega
theorem br_or (way wd hg : Nat) : br way wd hg = wd ∨ br way wd hg = hg := by unfold br; split <;> simp
theorem li_or (way wd hg : Nat) : li way wd hg = wd ∨ li way wd hg = hg := by unfold li; split <;> simp
/-- a picture of the class at the position k of the world -/
def isPic (G : Gs) (b : Nat) (w : Wd) (k wd hg lw : Nat) (ga ma : Nat → Int32) : Prop :=
  w k = .inr (3, [.int (nI wd), .int (nI hg), .int (nI lw), .ref (b + (k + 1)), .ref (b + (k + 2))]) ∧ w (k + 1) = aI G 64 ga ∧ w (k + 2) = aI G 64 ma ∧ 2 ≤ wd ∧ wd ≤ 8 ∧ 2 ≤ hg ∧ hg ≤ 8 ∧ lw < 2
theorem upd_self {f : Nat → Int32} {k : Nat} {x : Int32} : upd f k x k = x := if_pos rfl
theorem upd_ne {f : Nat → Int32} {k j : Nat} {x : Int32} (h : j ≠ k) : upd f k x j = f j := if_neg h
end
section
theorem exS_1 {m : Nat → Nat → Int32} {l p : Nat} (h : m l p = 1) : exS m l p = 100 := if_pos h
theorem exS_2 {m : Nat → Nat → Int32} {l p : Nat} (h1 : ¬ m l p = 1) (h : m l p = 2) : exS m l p = -100 := by rw [exS, if_neg h1, if_pos h]
theorem exS_0 {m : Nat → Nat → Int32} {l p : Nat} (h1 : ¬ m l p = 1) (h : ¬ m l p = 2) : exS m l p = 0 := by rw [exS, if_neg h1, if_neg h]
theorem way_or {way : Nat} (hw : way < 2) : way = 0 ∨ way = 1 := by omega
theorem li_sw {way wd hg : Nat} (hw : way < 2) : li (1 - way) wd hg = br way wd hg := by rcases way_or hw with rfl | rfl <;> rfl
theorem br_sw {way wd hg : Nat} (hw : way < 2) : br (1 - way) wd hg = li way wd hg := by rcases way_or hw with rfl | rfl <;> rfl
theorem stS_0 {way wd hg lw l p : Nat} {ga ma : Nat → Int32} (hw : way < 2) (h : lw = 0) : exS (vg way ma) l p + gapS (br way wd hg) (vg way ga) l p + gapS (br (1 - way) wd hg) (vg (1 - way) ga) p l = stS lw (br way wd hg) (li way wd hg) (vg way ga) (vg way ma) l p := by
  rw [stS, if_pos h]
  rcases way_or hw with rfl | rfl <;> rfl
theorem stS_1 {lw nb nl l p : Nat} {h m : Nat → Nat → Int32} (e : lw ≠ 0) : exS m l p + gapS nb h l p = stS lw nb nl h m l p := by rw [stS, if_neg e, Int32.add_zero]
theorem tuS_0 {lw nb l p fr : Nat} {h : Nat → Nat → Int32} (e : lw = 0 ∨ fr = p) : tuS lw nb h l p fr = nI 0 := by rw [tuS, if_pos e]; rfl
theorem tuS_l {way lw nb l p fr : Nat} {ga : Nat → Int32} (e : lw ≠ 0) (e2 : fr < p) : iab (ga (ix way (l - 1) p) - ga (ix way l (p - 1))) = tuS lw nb (vg way ga) l p fr := by
  have h : ¬ (lw = 0 ∨ fr = p) := by omega
  rw [tuS, if_neg h, if_pos e2]
  rfl
theorem tuS_r {way lw nb l p fr : Nat} {ga : Nat → Int32} (e : lw ≠ 0) (e2 : ¬ fr < p) (e3 : fr ≠ p) : iab (ga (ix way (l - 1) p) - ga (ix way l (min (p + 1) (nb - 1)))) = tuS lw nb (vg way ga) l p fr := by
  have h : ¬ (lw = 0 ∨ fr = p) := by omega
  rw [tuS, if_neg h, if_neg e2]
  rfl
set_option maxHeartbeats 4000000 in
set_option maxRecDepth 100000 in
theorem c_X3_lines (l : Launch) (G : Gs) (b N : Nat) (w : Wd) (k : Nat) (hk : k + 3 ≤ N) (wd hg lw : Nat) (ga ma : Nat → Int32) (hp : isPic G b w k wd hg lw ga ma) (way : Nat) (hw : way < 2) : CI l yX3_lines cX3_lines 2 (some .int) 0 G b N w [.ref (b + k), .int (nI way)] (fun r w2 => r = nI (li way wd hg) ∧ w2 = w) := by
  obtain ⟨e0, e1, e2, q1, q2, q3, q4, q5⟩ := hp
  refine CI_of (L0 := [some (.ref (b + k)), some (.int (nI way))]) (by decide) rfl (by simp [Value.category]) rfl (Nat.le_of_ble_eq_true rfl) rfl (fun κ X ret => ?_)
  refine r_iload_n X eX3_lines_0 rfl ?_
  refine r_if_ne (tgt := 11) X eX3_lines_1 (by decide) (nI_toInt (by omega)) (fun c_1 => ?_) (fun c_1 => ?_)
  ·
    refine r_aload_n X eX3_lines_11 rfl ?_
    refine gf_X3_9 X eX3_lines_12 (by omega) e0 ?_
    exact ret _ _ _ _ _ eX3_lines_15 (⟨congrArg nI (by unfold li; split <;> omega), rfl⟩)
  ·
    refine r_aload_n X eX3_lines_4 rfl ?_
    refine gf_X3_15 X eX3_lines_5 (by omega) e0 ?_
    refine r_goto (tgt := 15) X eX3_lines_8 (by decide) ?_
    exact ret _ _ _ _ _ eX3_lines_15 (⟨congrArg nI (by unfold li; split <;> omega), rfl⟩)
set_option maxHeartbeats 4000000 in
set_option maxRecDepth 100000 in
theorem c_X3_breadth (l : Launch) (G : Gs) (b N : Nat) (w : Wd) (k : Nat) (hk : k + 3 ≤ N) (wd hg lw : Nat) (ga ma : Nat → Int32) (hp : isPic G b w k wd hg lw ga ma) (way : Nat) (hw : way < 2) : CI l yX3_breadth cX3_breadth 2 (some .int) 0 G b N w [.ref (b + k), .int (nI way)] (fun r w2 => r = nI (br way wd hg) ∧ w2 = w) := by
  obtain ⟨e0, e1, e2, q1, q2, q3, q4, q5⟩ := hp
  refine CI_of (L0 := [some (.ref (b + k)), some (.int (nI way))]) (by decide) rfl (by simp [Value.category]) rfl (Nat.le_of_ble_eq_true rfl) rfl (fun κ X ret => ?_)
  refine r_iload_n X eX3_breadth_0 rfl ?_
  refine r_if_ne (tgt := 11) X eX3_breadth_1 (by decide) (nI_toInt (by omega)) (fun c_1 => ?_) (fun c_1 => ?_)
  ·
    refine r_aload_n X eX3_breadth_11 rfl ?_
    refine gf_X3_15 X eX3_breadth_12 (by omega) e0 ?_
    exact ret _ _ _ _ _ eX3_breadth_15 (⟨congrArg nI (by unfold br; split <;> omega), rfl⟩)
  ·
    refine r_aload_n X eX3_breadth_4 rfl ?_
    refine gf_X3_9 X eX3_breadth_5 (by omega) e0 ?_
    refine r_goto (tgt := 15) X eX3_breadth_8 (by decide) ?_
    exact ret _ _ _ _ _ eX3_breadth_15 (⟨congrArg nI (by unfold br; split <;> omega), rfl⟩)
set_option maxHeartbeats 4000000 in
set_option maxRecDepth 100000 in
theorem c_X3_index (l : Launch) (G : Gs) (b N : Nat) (w : Wd) (way line place : Nat) (hw : way < 2) (hl : line < 8) (hq : place < 8) : CI l yX3_index cX3_index 3 (some .int) 0 G b N w [.int (nI way), .int (nI line), .int (nI place)] (fun r w2 => r = nI (ix way line place) ∧ w2 = w) := by
  refine CI_of (L0 := [some (.int (nI way)), some (.int (nI line)), some (.int (nI place))]) (by decide) rfl (by simp [Value.category]) rfl (Nat.le_of_ble_eq_true rfl) rfl (fun κ X ret => ?_)
  refine r_iload_n X eX3_index_0 rfl ?_
  refine r_if_ne (tgt := 13) X eX3_index_1 (by decide) (nI_toInt (by omega)) (fun c_1 => ?_) (fun c_1 => ?_)
  ·
    refine r_iload_n X eX3_index_13 rfl ?_
    refine r_bipush X eX3_index_14 (nI 8) (by decide) ?_
    refine r_imul X eX3_index_16 (nI (place * 8)) (pk_mul _ _) ?_
    refine r_iload_n X eX3_index_17 rfl ?_
    refine r_iadd X eX3_index_18 (nI ((place * 8) + line)) (addN (by omega)) ?_
    exact ret _ _ _ _ _ eX3_index_19 (⟨congrArg nI (by unfold ix; split <;> omega), rfl⟩)
  ·
    refine r_iload_n X eX3_index_4 rfl ?_
    refine r_bipush X eX3_index_5 (nI 8) (by decide) ?_
    refine r_imul X eX3_index_7 (nI (line * 8)) (pk_mul _ _) ?_
    refine r_iload_n X eX3_index_8 rfl ?_
    refine r_iadd X eX3_index_9 (nI ((line * 8) + place)) (addN (by omega)) ?_
    refine r_goto (tgt := 19) X eX3_index_10 (by decide) ?_
    exact ret _ _ _ _ _ eX3_index_19 (⟨congrArg nI (by unfold ix; split <;> omega), rfl⟩)
set_option maxHeartbeats 4000000 in
set_option maxRecDepth 100000 in
theorem c_X3_hasDot (l : Launch) (G : Gs) (b N : Nat) (w : Wd) (k : Nat) (hk : k + 3 ≤ N) (wd hg lw : Nat) (ga ma : Nat → Int32) (hp : isPic G b w k wd hg lw ga ma) (x y : Int32) : CI l yX3_hasDot cX3_hasDot 3 (some .boolean) 0 G b N w [.ref (b + k), .int x, .int y] (fun r w2 => r = bI (0 ≤ x.toInt ∧ x.toInt < wd ∧ 0 ≤ y.toInt ∧ y.toInt < hg) ∧ w2 = w) := by
  obtain ⟨e0, e1, e2, q1, q2, q3, q4, q5⟩ := hp
  refine CZ_of (L0 := [some (.ref (b + k)), some (.int x), some (.int y)]) (by decide) rfl (by simp [Value.category]) rfl (Nat.le_of_ble_eq_true rfl) rfl (fun κ X ret => ?_)
  refine r_iload_n X eX3_hasDot_0 rfl ?_
  refine r_if_lt (tgt := 28) X eX3_hasDot_1 (by decide) rfl (fun c_1 => ?_) (fun c_1 => ?_)
  ·
    refine r_iconst X eX3_hasDot_28 (nI 0) (by decide) ?_
    exact ret _ _ _ _ _ eX3_hasDot_29 (Or.inl rfl) (⟨bI_f (by omega), rfl⟩)
  ·
    refine r_iload_n X eX3_hasDot_4 rfl ?_
    refine r_aload_n X eX3_hasDot_5 rfl ?_
    refine gf_X3_9 X eX3_hasDot_6 (by omega) e0 ?_
    refine r_icmp_ge (tgt := 28) X eX3_hasDot_9 (by decide) rfl (nI_toInt (by omega)) (fun c_2 => ?_) (fun c_2 => ?_)
    ·
      refine r_iconst X eX3_hasDot_28 (nI 0) (by decide) ?_
      exact ret _ _ _ _ _ eX3_hasDot_29 (Or.inl rfl) (⟨bI_f (by omega), rfl⟩)
    ·
      refine r_iload_n X eX3_hasDot_12 rfl ?_
      refine r_if_lt (tgt := 28) X eX3_hasDot_13 (by decide) rfl (fun c_3 => ?_) (fun c_3 => ?_)
      ·
        refine r_iconst X eX3_hasDot_28 (nI 0) (by decide) ?_
        exact ret _ _ _ _ _ eX3_hasDot_29 (Or.inl rfl) (⟨bI_f (by omega), rfl⟩)
      ·
        refine r_iload_n X eX3_hasDot_16 rfl ?_
        refine r_aload_n X eX3_hasDot_17 rfl ?_
        refine gf_X3_15 X eX3_hasDot_18 (by omega) e0 ?_
        refine r_icmp_ge (tgt := 28) X eX3_hasDot_21 (by decide) rfl (nI_toInt (by omega)) (fun c_4 => ?_) (fun c_4 => ?_)
        ·
          refine r_iconst X eX3_hasDot_28 (nI 0) (by decide) ?_
          exact ret _ _ _ _ _ eX3_hasDot_29 (Or.inl rfl) (⟨bI_f (by omega), rfl⟩)
        ·
          refine r_iconst X eX3_hasDot_24 (nI 1) (by decide) ?_
          refine r_goto (tgt := 29) X eX3_hasDot_25 (by decide) ?_
          exact ret _ _ _ _ _ eX3_hasDot_29 (Or.inr rfl) (⟨bI_t (by omega), rfl⟩)
set_option maxHeartbeats 4000000 in
set_option maxRecDepth 100000 in
theorem c_X3_changeGrey (l : Launch) (G : Gs) (b N : Nat) (w : Wd) (k : Nat) (hk : k + 3 ≤ N) (wd hg lw : Nat) (ga ma : Nat → Int32) (hp : isPic G b w k wd hg lw ga ma) (x y : Nat) (hx : x < 8) (hy : y < 8) (v : Int32) : CI l yX3_changeGrey cX3_changeGrey 6 (some .int) 1 G b N w [.ref (b + k), .int (nI x), .int (nI y), .int v] (fun r w2 => r = ga (ix 0 y x) ∧ isPic G b w2 k wd hg lw (upd ga (ix 0 y x) v) (ma) ∧ ∀ j, j < k ∨ k + 3 ≤ j → w2 j = w j) := by
  obtain ⟨e0, e1, e2, q1, q2, q3, q4, q5⟩ := hp
  refine CI_of (L0 := [some (.ref (b + k)), some (.int (nI x)), some (.int (nI y)), some (.int v), none, none]) (by decide) rfl (by simp [Value.category]) rfl (Nat.le_of_ble_eq_true rfl) rfl (fun κ X ret => ?_)
  have fr_w : ∀ j, (j < k ∨ k + 3 ≤ j) → w j = w j := fun _ _ => rfl
  refine r_iconst X eX3_changeGrey_0 (nI 0) (by decide) ?_
  refine r_iload_n X eX3_changeGrey_1 rfl ?_
  refine r_iload_n X eX3_changeGrey_2 rfl ?_
  refine cp_X3_28 X eX3_changeGrey_3 (c_X3_index _ G b N w 0 y x (by omega) (by omega) (by omega)) (by decide) rfl (Nat.le_of_ble_eq_true rfl) ?_
  refine r_istore X eX3_changeGrey_6 (Nat.le_of_ble_eq_true rfl) (L2 := [some (.ref (b + k)), some (.int (nI x)), some (.int (nI y)), some (.int v), some (.int (nI (ix 0 y x))), none]) rfl ?_
  refine r_aload_n X eX3_changeGrey_8 rfl ?_
  refine gf_X3_18 X eX3_changeGrey_9 (by omega) e0 ?_
  refine r_iload X eX3_changeGrey_12 rfl ?_
  refine r_iald X eX3_changeGrey_14 (by omega) e1 (ix_lt hy hx) (by decide) ?_
  refine r_istore X eX3_changeGrey_15 (Nat.le_of_ble_eq_true rfl) (L2 := [some (.ref (b + k)), some (.int (nI x)), some (.int (nI y)), some (.int v), some (.int (nI (ix 0 y x))), some (.int (ga (ix 0 y x)))]) rfl ?_
  refine r_aload_n X eX3_changeGrey_17 rfl ?_
  refine gf_X3_18 X eX3_changeGrey_18 (by omega) e0 ?_
  refine r_iload X eX3_changeGrey_21 rfl ?_
  refine r_iload_n X eX3_changeGrey_23 rfl ?_
  refine r_iast X eX3_changeGrey_24 (by omega) e1 (ix_lt hy hx) (by decide) (fun w1 n1_w1 uu1 => ?_)
  have e0_w1 := (uu1 k (by omega)).trans e0
  have e2_w1 := (uu1 (k + 2) (by omega)).trans e2
  have fr_w1 : ∀ j, (j < k ∨ k + 3 ≤ j) → w1 j = w j := fun j hj => (uu1 j (by omega)).trans (fr_w j hj)
  refine r_iload X eX3_changeGrey_25 rfl ?_
  exact ret _ _ _ _ _ eX3_changeGrey_27 (⟨rfl, ⟨e0_w1, n1_w1, e2_w1, q1, q2, q3, q4, q5⟩, fr_w1⟩)
set_option maxHeartbeats 4000000 in
set_option maxRecDepth 100000 in
theorem c_X3_changeMark (l : Launch) (G : Gs) (b N : Nat) (w : Wd) (k : Nat) (hk : k + 3 ≤ N) (wd hg lw : Nat) (ga ma : Nat → Int32) (hp : isPic G b w k wd hg lw ga ma) (x y : Nat) (hx : x < 8) (hy : y < 8) (v : Int32) : CI l yX3_changeMark cX3_changeMark 6 (some .int) 1 G b N w [.ref (b + k), .int (nI x), .int (nI y), .int v] (fun r w2 => r = ma (ix 0 y x) ∧ isPic G b w2 k wd hg lw (ga) (upd ma (ix 0 y x) v) ∧ ∀ j, j < k ∨ k + 3 ≤ j → w2 j = w j) := by
  obtain ⟨e0, e1, e2, q1, q2, q3, q4, q5⟩ := hp
  refine CI_of (L0 := [some (.ref (b + k)), some (.int (nI x)), some (.int (nI y)), some (.int v), none, none]) (by decide) rfl (by simp [Value.category]) rfl (Nat.le_of_ble_eq_true rfl) rfl (fun κ X ret => ?_)
  have fr_w : ∀ j, (j < k ∨ k + 3 ≤ j) → w j = w j := fun _ _ => rfl
  refine r_iconst X eX3_changeMark_0 (nI 0) (by decide) ?_
  refine r_iload_n X eX3_changeMark_1 rfl ?_
  refine r_iload_n X eX3_changeMark_2 rfl ?_
  refine cp_X3_28 X eX3_changeMark_3 (c_X3_index _ G b N w 0 y x (by omega) (by omega) (by omega)) (by decide) rfl (Nat.le_of_ble_eq_true rfl) ?_
  refine r_istore X eX3_changeMark_6 (Nat.le_of_ble_eq_true rfl) (L2 := [some (.ref (b + k)), some (.int (nI x)), some (.int (nI y)), some (.int v), some (.int (nI (ix 0 y x))), none]) rfl ?_
  refine r_aload_n X eX3_changeMark_8 rfl ?_
  refine gf_X3_22 X eX3_changeMark_9 (by omega) e0 ?_
  refine r_iload X eX3_changeMark_12 rfl ?_
  refine r_iald X eX3_changeMark_14 (by omega) e2 (ix_lt hy hx) (by decide) ?_
  refine r_istore X eX3_changeMark_15 (Nat.le_of_ble_eq_true rfl) (L2 := [some (.ref (b + k)), some (.int (nI x)), some (.int (nI y)), some (.int v), some (.int (nI (ix 0 y x))), some (.int (ma (ix 0 y x)))]) rfl ?_
  refine r_aload_n X eX3_changeMark_17 rfl ?_
  refine gf_X3_22 X eX3_changeMark_18 (by omega) e0 ?_
  refine r_iload X eX3_changeMark_21 rfl ?_
  refine r_iload_n X eX3_changeMark_23 rfl ?_
  refine r_iast X eX3_changeMark_24 (by omega) e2 (ix_lt hy hx) (by decide) (fun w1 n1_w1 uu1 => ?_)
  have e0_w1 := (uu1 k (by omega)).trans e0
  have e1_w1 := (uu1 (k + 1) (by omega)).trans e1
  have fr_w1 : ∀ j, (j < k ∨ k + 3 ≤ j) → w1 j = w j := fun j hj => (uu1 j (by omega)).trans (fr_w j hj)
  refine r_iload X eX3_changeMark_25 rfl ?_
  exact ret _ _ _ _ _ eX3_changeMark_27 (⟨rfl, ⟨e0_w1, e1_w1, n1_w1, q1, q2, q3, q4, q5⟩, fr_w1⟩)
set_option maxHeartbeats 4000000 in
set_option maxRecDepth 100000 in
theorem c_X3_greyAt (l : Launch) (G : Gs) (b N : Nat) (w : Wd) (k : Nat) (hk : k + 3 ≤ N) (wd hg lw : Nat) (ga ma : Nat → Int32) (hp : isPic G b w k wd hg lw ga ma) (way line place : Nat) (hw : way < 2) (hl : line < 8) (hq : place < 8) : CI l yX3_greyAt cX3_greyAt 4 (some .int) 1 G b N w [.ref (b + k), .int (nI way), .int (nI line), .int (nI place)] (fun r w2 => r = vg way ga line place ∧ w2 = w) := by
  obtain ⟨e0, e1, e2, q1, q2, q3, q4, q5⟩ := hp
  refine CI_of (L0 := [some (.ref (b + k)), some (.int (nI way)), some (.int (nI line)), some (.int (nI place))]) (by decide) rfl (by simp [Value.category]) rfl (Nat.le_of_ble_eq_true rfl) rfl (fun κ X ret => ?_)
  refine r_aload_n X eX3_greyAt_0 rfl ?_
  refine gf_X3_18 X eX3_greyAt_1 (by omega) e0 ?_
  refine r_iload_n X eX3_greyAt_4 rfl ?_
  refine r_iload_n X eX3_greyAt_5 rfl ?_
  refine r_iload_n X eX3_greyAt_6 rfl ?_
  refine cp_X3_28 X eX3_greyAt_7 (c_X3_index _ G b N w way line place (by omega) (by omega) (by omega)) (by decide) rfl (Nat.le_of_ble_eq_true rfl) ?_
  refine r_iald X eX3_greyAt_10 (by omega) e1 (ix_lt hl hq) (by decide) ?_
  exact ret _ _ _ _ _ eX3_greyAt_11 (⟨rfl, rfl⟩)
set_option maxHeartbeats 4000000 in
set_option maxRecDepth 100000 in
theorem c_X3_markAt (l : Launch) (G : Gs) (b N : Nat) (w : Wd) (k : Nat) (hk : k + 3 ≤ N) (wd hg lw : Nat) (ga ma : Nat → Int32) (hp : isPic G b w k wd hg lw ga ma) (way line place : Nat) (hw : way < 2) (hl : line < 8) (hq : place < 8) : CI l yX3_markAt cX3_markAt 4 (some .int) 1 G b N w [.ref (b + k), .int (nI way), .int (nI line), .int (nI place)] (fun r w2 => r = vg way ma line place ∧ w2 = w) := by
  obtain ⟨e0, e1, e2, q1, q2, q3, q4, q5⟩ := hp
  refine CI_of (L0 := [some (.ref (b + k)), some (.int (nI way)), some (.int (nI line)), some (.int (nI place))]) (by decide) rfl (by simp [Value.category]) rfl (Nat.le_of_ble_eq_true rfl) rfl (fun κ X ret => ?_)
  refine r_aload_n X eX3_markAt_0 rfl ?_
  refine gf_X3_22 X eX3_markAt_1 (by omega) e0 ?_
  refine r_iload_n X eX3_markAt_4 rfl ?_
  refine r_iload_n X eX3_markAt_5 rfl ?_
  refine r_iload_n X eX3_markAt_6 rfl ?_
  refine cp_X3_28 X eX3_markAt_7 (c_X3_index _ G b N w way line place (by omega) (by omega) (by omega)) (by decide) rfl (Nat.le_of_ble_eq_true rfl) ?_
  refine r_iald X eX3_markAt_10 (by omega) e2 (ix_lt hl hq) (by decide) ?_
  exact ret _ _ _ _ _ eX3_markAt_11 (⟨rfl, rfl⟩)
set_option maxHeartbeats 4000000 in
set_option maxRecDepth 100000 in
theorem c_X3_extraAt (l : Launch) (G : Gs) (b N : Nat) (w : Wd) (k : Nat) (hk : k + 3 ≤ N) (wd hg lw : Nat) (ga ma : Nat → Int32) (hp : isPic G b w k wd hg lw ga ma) (way line place : Nat) (hw : way < 2) (hl : line < 8) (hq : place < 8) : CI l yX3_extraAt cX3_extraAt 5 (some .int) 1 G b N w [.ref (b + k), .int (nI way), .int (nI line), .int (nI place)] (fun r w2 => r = exS (vg way ma) line place ∧ w2 = w) := by
  obtain ⟨e0, e1, e2, q1, q2, q3, q4, q5⟩ := hp
  refine CI_of (L0 := [some (.ref (b + k)), some (.int (nI way)), some (.int (nI line)), some (.int (nI place)), none]) (by decide) rfl (by simp [Value.category]) rfl (Nat.le_of_ble_eq_true rfl) rfl (fun κ X ret => ?_)
  refine r_aload_n X eX3_extraAt_0 rfl ?_
  refine gf_X3_22 X eX3_extraAt_1 (by omega) e0 ?_
  refine r_iload_n X eX3_extraAt_4 rfl ?_
  refine r_iload_n X eX3_extraAt_5 rfl ?_
  refine r_iload_n X eX3_extraAt_6 rfl ?_
  refine cp_X3_28 X eX3_extraAt_7 (c_X3_index _ G b N w way line place (by omega) (by omega) (by omega)) (by decide) rfl (Nat.le_of_ble_eq_true rfl) ?_
  refine r_iald X eX3_extraAt_10 (by omega) e2 (ix_lt hl hq) (by decide) ?_
  refine r_istore X eX3_extraAt_11 (Nat.le_of_ble_eq_true rfl) (L2 := [some (.ref (b + k)), some (.int (nI way)), some (.int (nI line)), some (.int (nI place)), some (.int (ma (ix way line place)))]) rfl ?_
  refine r_iload X eX3_extraAt_13 rfl ?_
  refine r_iconst X eX3_extraAt_15 ((1 : Int32)) (by decide) ?_
  refine r_icmp_ne (tgt := 24) X eX3_extraAt_16 (by decide) rfl rfl (fun c_1 => ?_) (fun c_1 => ?_)
  ·
    refine r_iload X eX3_extraAt_24 rfl ?_
    refine r_iconst X eX3_extraAt_26 ((2 : Int32)) (by decide) ?_
    refine r_icmp_ne (tgt := 35) X eX3_extraAt_27 (by decide) rfl rfl (fun c_2 => ?_) (fun c_2 => ?_)
    ·
      refine r_iconst X eX3_extraAt_35 ((0 : Int32)) (by decide) ?_
      exact ret _ _ _ _ _ eX3_extraAt_36 (⟨(exS_0 (fun q => c_1 (congrArg Int32.toInt q)) (fun q => c_2 (congrArg Int32.toInt q))).symm, rfl⟩)
    ·
      refine r_bipush X eX3_extraAt_30 ((-100 : Int32)) (by decide) ?_
      refine r_goto (tgt := 36) X eX3_extraAt_32 (by decide) ?_
      exact ret _ _ _ _ _ eX3_extraAt_36 (⟨(exS_2 (fun q => c_1 (congrArg Int32.toInt q)) (Int32.toInt_inj.mp c_2)).symm, rfl⟩)
  ·
    refine r_bipush X eX3_extraAt_19 ((100 : Int32)) (by decide) ?_
    refine r_goto (tgt := 36) X eX3_extraAt_21 (by decide) ?_
    exact ret _ _ _ _ _ eX3_extraAt_36 (⟨(exS_1 (Int32.toInt_inj.mp c_1)).symm, rfl⟩)
set_option maxHeartbeats 4000000 in
set_option maxRecDepth 100000 in
theorem c_X3_gapAt (l : Launch) (G : Gs) (b N : Nat) (w : Wd) (k : Nat) (hk : k + 3 ≤ N) (wd hg lw : Nat) (ga ma : Nat → Int32) (hp : isPic G b w k wd hg lw ga ma) (way line place : Nat) (hw : way < 2) (hl : line < li way wd hg) (hq : place < br way wd hg) : CI l yX3_gapAt cX3_gapAt 6 (some .int) 1 G b N w [.ref (b + k), .int (nI way), .int (nI line), .int (nI place)] (fun r w2 => r = gapS (br way wd hg) (vg way ga) line place ∧ w2 = w) := by
  obtain ⟨e0, e1, e2, q1, q2, q3, q4, q5⟩ := hp
  have hbr := br_or way wd hg
  have hli := li_or way wd hg
  refine CI_of (L0 := [some (.ref (b + k)), some (.int (nI way)), some (.int (nI line)), some (.int (nI place)), none, none]) (by decide) rfl (by simp [Value.category]) rfl (Nat.le_of_ble_eq_true rfl) rfl (fun κ X ret => ?_)
  refine r_aload_n X eX3_gapAt_0 rfl ?_
  refine gf_X3_18 X eX3_gapAt_1 (by omega) e0 ?_
  refine r_iload_n X eX3_gapAt_4 rfl ?_
  refine r_iload_n X eX3_gapAt_5 rfl ?_
  refine r_iload_n X eX3_gapAt_6 rfl ?_
  refine r_iconst X eX3_gapAt_7 (nI 1) (by decide) ?_
  refine r_isub X eX3_gapAt_8 (nP place) (subP _) ?_
  refine r_iconst X eX3_gapAt_9 (nI 0) (by decide) ?_
  refine mx_X3_32 X eX3_gapAt_10 rfl (Nat.le_of_ble_eq_true rfl) (nI (place - 1)) (maxP (by omega)) ?_
  refine cp_X3_28 X eX3_gapAt_13 (c_X3_index _ G b N w way line (place - 1) (by omega) (by omega) (by omega)) (by decide) rfl (Nat.le_of_ble_eq_true rfl) ?_
  refine r_iald X eX3_gapAt_16 (by omega) e1 (ix_lt (by omega) (by omega)) (by decide) ?_
  refine r_istore X eX3_gapAt_17 (Nat.le_of_ble_eq_true rfl) (L2 := [some (.ref (b + k)), some (.int (nI way)), some (.int (nI line)), some (.int (nI place)), some (.int (ga (ix way line (place - 1)))), none]) rfl ?_
  refine r_aload_n X eX3_gapAt_19 rfl ?_
  refine gf_X3_18 X eX3_gapAt_20 (by omega) e0 ?_
  refine r_iload_n X eX3_gapAt_23 rfl ?_
  refine r_iload_n X eX3_gapAt_24 rfl ?_
  refine r_iload_n X eX3_gapAt_25 rfl ?_
  refine r_iconst X eX3_gapAt_26 (nI 1) (by decide) ?_
  refine r_iadd X eX3_gapAt_27 (nI (place + 1)) (addN (by omega)) ?_
  refine r_aload_n X eX3_gapAt_28 rfl ?_
  refine r_iload_n X eX3_gapAt_29 rfl ?_
  refine cp_X3_38 X eX3_gapAt_30 (c_X3_breadth _ G b N w k hk wd hg lw ga ma ⟨e0, e1, e2, q1, q2, q3, q4, q5⟩ way (by omega)) (by decide) (by omega) e0 rfl (Nat.le_of_ble_eq_true rfl) ?_
  refine r_iconst X eX3_gapAt_33 (nI 1) (by decide) ?_
  refine r_isub X eX3_gapAt_34 (nI ((br way wd hg) - 1)) (pk_sub (by omega)) ?_
  refine mn_X3_42 X eX3_gapAt_35 rfl (Nat.le_of_ble_eq_true rfl) (nI (min (place + 1) ((br way wd hg) - 1))) (minN (by omega) (by omega)) ?_
  refine cp_X3_28 X eX3_gapAt_38 (c_X3_index _ G b N w way line (min (place + 1) (br way wd hg - 1)) (by omega) (by omega) (by omega)) (by decide) rfl (Nat.le_of_ble_eq_true rfl) ?_
  refine r_iald X eX3_gapAt_41 (by omega) e1 (ix_lt (by omega) (by omega)) (by decide) ?_
  refine r_istore X eX3_gapAt_42 (Nat.le_of_ble_eq_true rfl) (L2 := [some (.ref (b + k)), some (.int (nI way)), some (.int (nI line)), some (.int (nI place)), some (.int (ga (ix way line (place - 1)))), some (.int (ga (ix way line (min (place + 1) (br way wd hg - 1)))))]) rfl ?_
  refine r_iload X eX3_gapAt_44 rfl ?_
  refine r_iload X eX3_gapAt_46 rfl ?_
  refine r_isub X eX3_gapAt_48 ((ga (ix way line (place - 1))) - (ga (ix way line (min (place + 1) (br way wd hg - 1))))) rfl ?_
  refine ab_X3_45 X eX3_gapAt_49 rfl (Nat.le_of_ble_eq_true rfl) (iab ((ga (ix way line (place - 1))) - (ga (ix way line (min (place + 1) (br way wd hg - 1)))))) rfl ?_
  exact ret _ _ _ _ _ eX3_gapAt_52 (⟨rfl, rfl⟩)
set_option maxHeartbeats 4000000 in
set_option maxRecDepth 100000 in
theorem c_X3_edgeAt (l : Launch) (G : Gs) (b N : Nat) (w : Wd) (k : Nat) (hk : k + 3 ≤ N) (wd hg lw : Nat) (ga ma : Nat → Int32) (hp : isPic G b w k wd hg lw ga ma) (x y : Nat) (hx : x < wd) (hy : y < hg) : CI l yX3_edgeAt cX3_edgeAt 3 (some .int) 2 G b N w [.ref (b + k), .int (nI x), .int (nI y)] (fun r w2 => r = gapS wd (vg 0 ga) y x + vgapS hg (vg 0 ga) y x ∧ w2 = w) := by
  obtain ⟨e0, e1, e2, q1, q2, q3, q4, q5⟩ := hp
  refine CI_of (L0 := [some (.ref (b + k)), some (.int (nI x)), some (.int (nI y))]) (by decide) rfl (by simp [Value.category]) rfl (Nat.le_of_ble_eq_true rfl) rfl (fun κ X ret => ?_)
  refine r_aload_n X eX3_edgeAt_0 rfl ?_
  refine r_iconst X eX3_edgeAt_1 (nI 0) (by decide) ?_
  refine r_iload_n X eX3_edgeAt_2 rfl ?_
  refine r_iload_n X eX3_edgeAt_3 rfl ?_
  refine cp_X3_48 X eX3_edgeAt_4 (c_X3_gapAt _ G b N w k hk wd hg lw ga ma ⟨e0, e1, e2, q1, q2, q3, q4, q5⟩ 0 y x (by omega) (by simpa [br, li] using (by omega)) (by simpa [br, li] using (by omega))) (by decide) (by omega) e0 rfl (Nat.le_of_ble_eq_true rfl) ?_
  refine r_aload_n X eX3_edgeAt_7 rfl ?_
  refine r_iconst X eX3_edgeAt_8 (nI 1) (by decide) ?_
  refine r_iload_n X eX3_edgeAt_9 rfl ?_
  refine r_iload_n X eX3_edgeAt_10 rfl ?_
  refine cp_X3_48 X eX3_edgeAt_11 (c_X3_gapAt _ G b N w k hk wd hg lw ga ma ⟨e0, e1, e2, q1, q2, q3, q4, q5⟩ 1 x y (by omega) (by simpa [br, li] using (by omega)) (by simpa [br, li] using (by omega))) (by decide) (by omega) e0 rfl (Nat.le_of_ble_eq_true rfl) ?_
  refine r_iadd X eX3_edgeAt_14 ((gapS (br 0 wd hg) (vg 0 ga) y x) + (gapS (br 1 wd hg) (vg 1 ga) x y)) rfl ?_
  exact ret _ _ _ _ _ eX3_edgeAt_15 (⟨rfl, rfl⟩)
set_option maxHeartbeats 4000000 in
set_option maxRecDepth 100000 in
theorem c_X3_weightAt (l : Launch) (G : Gs) (b N : Nat) (w : Wd) (k : Nat) (hk : k + 3 ≤ N) (wd hg lw : Nat) (ga ma : Nat → Int32) (hp : isPic G b w k wd hg lw ga ma) (x y : Nat) (hx : x < wd) (hy : y < hg) : CI l yX3_weightAt cX3_weightAt 3 (some .int) 3 G b N w [.ref (b + k), .int (nI x), .int (nI y)] (fun r w2 => r = wtS wd hg (vg 0 ga) (vg 0 ma) y x ∧ w2 = w) := by
  obtain ⟨e0, e1, e2, q1, q2, q3, q4, q5⟩ := hp
  refine CI_of (L0 := [some (.ref (b + k)), some (.int (nI x)), some (.int (nI y))]) (by decide) rfl (by simp [Value.category]) rfl (Nat.le_of_ble_eq_true rfl) rfl (fun κ X ret => ?_)
  refine r_aload_n X eX3_weightAt_0 rfl ?_
  refine r_iload_n X eX3_weightAt_1 rfl ?_
  refine r_iload_n X eX3_weightAt_2 rfl ?_
  refine cp_X3_51 X eX3_weightAt_3 (c_X3_edgeAt _ G b N w k hk wd hg lw ga ma ⟨e0, e1, e2, q1, q2, q3, q4, q5⟩ x y hx hy) (by decide) (by omega) e0 rfl (Nat.le_of_ble_eq_true rfl) ?_
  refine r_aload_n X eX3_weightAt_6 rfl ?_
  refine r_iconst X eX3_weightAt_7 (nI 0) (by decide) ?_
  refine r_iload_n X eX3_weightAt_8 rfl ?_
  refine r_iload_n X eX3_weightAt_9 rfl ?_
  refine cp_X3_54 X eX3_weightAt_10 (c_X3_extraAt _ G b N w k hk wd hg lw ga ma ⟨e0, e1, e2, q1, q2, q3, q4, q5⟩ 0 y x (by omega) (by omega) (by omega)) (by decide) (by omega) e0 rfl (Nat.le_of_ble_eq_true rfl) ?_
  refine r_iadd X eX3_weightAt_13 ((gapS wd (vg 0 ga) y x + vgapS hg (vg 0 ga) y x) + (exS (vg 0 ma) y x)) rfl ?_
  exact ret _ _ _ _ _ eX3_weightAt_14 (⟨rfl, rfl⟩)
set_option maxHeartbeats 4000000 in
set_option maxRecDepth 100000 in
theorem c_X3_standingCost (l : Launch) (G : Gs) (b N : Nat) (w : Wd) (k : Nat) (hk : k + 3 ≤ N) (wd hg lw : Nat) (ga ma : Nat → Int32) (hp : isPic G b w k wd hg lw ga ma) (way line place : Nat) (hw : way < 2) (hl : line < li way wd hg) (hq : place < br way wd hg) : CI l yX3_standingCost cX3_standingCost 5 (some .int) 2 G b N w [.ref (b + k), .int (nI way), .int (nI line), .int (nI place)] (fun r w2 => r = stS lw (br way wd hg) (li way wd hg) (vg way ga) (vg way ma) line place ∧ w2 = w) := by
  obtain ⟨e0, e1, e2, q1, q2, q3, q4, q5⟩ := hp
  have hbr := br_or way wd hg
  have hli := li_or way wd hg
  refine CI_of (L0 := [some (.ref (b + k)), some (.int (nI way)), some (.int (nI line)), some (.int (nI place)), none]) (by decide) rfl (by simp [Value.category]) rfl (Nat.le_of_ble_eq_true rfl) rfl (fun κ X ret => ?_)
  refine r_aload_n X eX3_standingCost_0 rfl ?_
  refine r_iload_n X eX3_standingCost_1 rfl ?_
  refine r_iload_n X eX3_standingCost_2 rfl ?_
  refine r_iload_n X eX3_standingCost_3 rfl ?_
  refine cp_X3_54 X eX3_standingCost_4 (c_X3_extraAt _ G b N w k hk wd hg lw ga ma ⟨e0, e1, e2, q1, q2, q3, q4, q5⟩ way line place (by omega) (by omega) (by omega)) (by decide) (by omega) e0 rfl (Nat.le_of_ble_eq_true rfl) ?_
  refine r_aload_n X eX3_standingCost_7 rfl ?_
  refine r_iload_n X eX3_standingCost_8 rfl ?_
  refine r_iload_n X eX3_standingCost_9 rfl ?_
  refine r_iload_n X eX3_standingCost_10 rfl ?_
  refine cp_X3_48 X eX3_standingCost_11 (c_X3_gapAt _ G b N w k hk wd hg lw ga ma ⟨e0, e1, e2, q1, q2, q3, q4, q5⟩ way line place (by omega) (by omega) (by omega)) (by decide) (by omega) e0 rfl (Nat.le_of_ble_eq_true rfl) ?_
  refine r_iadd X eX3_standingCost_14 ((exS (vg way ma) line place) + (gapS (br way wd hg) (vg way ga) line place)) rfl ?_
  refine r_istore X eX3_standingCost_15 (Nat.le_of_ble_eq_true rfl) (L2 := [some (.ref (b + k)), some (.int (nI way)), some (.int (nI line)), some (.int (nI place)), some (.int ((exS (vg way ma) line place) + (gapS (br way wd hg) (vg way ga) line place)))]) rfl ?_
  refine r_aload_n X eX3_standingCost_17 rfl ?_
  refine gf_X3_25 X eX3_standingCost_18 (by omega) e0 ?_
  refine r_if_ne (tgt := 38) X eX3_standingCost_21 (by decide) (nI_toInt (by omega)) (fun c_1 => ?_) (fun c_1 => ?_)
  ·
    refine r_iload X eX3_standingCost_38 rfl ?_
    exact ret _ _ _ _ _ eX3_standingCost_40 (⟨stS_1 (by omega), rfl⟩)
  ·
    refine r_iload X eX3_standingCost_24 rfl ?_
    refine r_aload_n X eX3_standingCost_26 rfl ?_
    refine r_iconst X eX3_standingCost_27 (nI 1) (by decide) ?_
    refine r_iload_n X eX3_standingCost_28 rfl ?_
    refine r_isub X eX3_standingCost_29 (nI (1 - way)) (pk_sub (by omega)) ?_
    refine r_iload_n X eX3_standingCost_30 rfl ?_
    refine r_iload_n X eX3_standingCost_31 rfl ?_
    refine cp_X3_48 X eX3_standingCost_32 (c_X3_gapAt _ G b N w k hk wd hg lw ga ma ⟨e0, e1, e2, q1, q2, q3, q4, q5⟩ (1 - way) place line (by omega) (by rw [li_sw hw]; omega) (by rw [br_sw hw]; omega)) (by decide) (by omega) e0 rfl (Nat.le_of_ble_eq_true rfl) ?_
    refine r_iadd X eX3_standingCost_35 (((exS (vg way ma) line place) + (gapS (br way wd hg) (vg way ga) line place)) + (gapS (br (1 - way) wd hg) (vg (1 - way) ga) place line)) rfl ?_
    refine r_istore X eX3_standingCost_36 (Nat.le_of_ble_eq_true rfl) (L2 := [some (.ref (b + k)), some (.int (nI way)), some (.int (nI line)), some (.int (nI place)), some (.int (((exS (vg way ma) line place) + (gapS (br way wd hg) (vg way ga) line place)) + (gapS (br (1 - way) wd hg) (vg (1 - way) ga) place line)))]) rfl ?_
    refine r_iload X eX3_standingCost_38 rfl ?_
    exact ret _ _ _ _ _ eX3_standingCost_40 (⟨stS_0 hw (by omega), rfl⟩)
set_option maxHeartbeats 4000000 in
set_option maxRecDepth 100000 in
theorem c_X3_turningCost (l : Launch) (G : Gs) (b N : Nat) (w : Wd) (k : Nat) (hk : k + 3 ≤ N) (wd hg lw : Nat) (ga ma : Nat → Int32) (hp : isPic G b w k wd hg lw ga ma) (way line place : Nat) (hw : way < 2) (hl : line < li way wd hg) (hq : place < br way wd hg) (fr : Nat) (hf : fr < br way wd hg) : CI l yX3_turningCost cX3_turningCost 7 (some .int) 1 G b N w [.ref (b + k), .int (nI way), .int (nI line), .int (nI place), .int (nI fr)] (fun r w2 => r = tuS lw (br way wd hg) (vg way ga) line place fr ∧ w2 = w) := by
  obtain ⟨e0, e1, e2, q1, q2, q3, q4, q5⟩ := hp
  have hbr := br_or way wd hg
  have hli := li_or way wd hg
  refine CI_of (L0 := [some (.ref (b + k)), some (.int (nI way)), some (.int (nI line)), some (.int (nI place)), some (.int (nI fr)), none, none]) (by decide) rfl (by simp [Value.category]) rfl (Nat.le_of_ble_eq_true rfl) rfl (fun κ X ret => ?_)
  refine r_aload_n X eX3_turningCost_0 rfl ?_
  refine gf_X3_25 X eX3_turningCost_1 (by omega) e0 ?_
  refine r_if_eq (tgt := 13) X eX3_turningCost_4 (by decide) (nI_toInt (by omega)) (fun c_1 => ?_) (fun c_1 => ?_)
  ·
    refine r_iconst X eX3_turningCost_13 (nI 0) (by decide) ?_
    exact ret _ _ _ _ _ eX3_turningCost_14 (⟨(tuS_0 (by omega)).symm, rfl⟩)
  ·
    refine r_iload X eX3_turningCost_7 rfl ?_
    refine r_iload_n X eX3_turningCost_9 rfl ?_
    refine r_icmp_ne (tgt := 15) X eX3_turningCost_10 (by decide) (nI_toInt (by omega)) (nI_toInt (by omega)) (fun c_2 => ?_) (fun c_2 => ?_)
    ·
      refine r_iload X eX3_turningCost_15 rfl ?_
      refine r_iload_n X eX3_turningCost_17 rfl ?_
      refine r_icmp_ge (tgt := 31) X eX3_turningCost_18 (by decide) (nI_toInt (by omega)) (nI_toInt (by omega)) (fun c_3 => ?_) (fun c_3 => ?_)
      ·
        refine r_iload_n X eX3_turningCost_31 rfl ?_
        refine r_iconst X eX3_turningCost_32 (nI 1) (by decide) ?_
        refine r_iadd X eX3_turningCost_33 (nI (place + 1)) (addN (by omega)) ?_
        refine r_aload_n X eX3_turningCost_34 rfl ?_
        refine r_iload_n X eX3_turningCost_35 rfl ?_
        refine cp_X3_38 X eX3_turningCost_36 (c_X3_breadth _ G b N w k hk wd hg lw ga ma ⟨e0, e1, e2, q1, q2, q3, q4, q5⟩ way (by omega)) (by decide) (by omega) e0 rfl (Nat.le_of_ble_eq_true rfl) ?_
        refine r_iconst X eX3_turningCost_39 (nI 1) (by decide) ?_
        refine r_isub X eX3_turningCost_40 (nI ((br way wd hg) - 1)) (pk_sub (by omega)) ?_
        refine mn_X3_42 X eX3_turningCost_41 rfl (Nat.le_of_ble_eq_true rfl) (nI (min (place + 1) ((br way wd hg) - 1))) (minN (by omega) (by omega)) ?_
        refine r_istore X eX3_turningCost_44 (Nat.le_of_ble_eq_true rfl) (L2 := [some (.ref (b + k)), some (.int (nI way)), some (.int (nI line)), some (.int (nI place)), some (.int (nI fr)), some (.int (nI (min (place + 1) ((br way wd hg) - 1)))), none]) rfl ?_
        refine r_iload_n X eX3_turningCost_46 rfl ?_
        refine r_iconst X eX3_turningCost_47 (nI 1) (by decide) ?_
        refine r_isub X eX3_turningCost_48 (nP line) (subP _) ?_
        refine r_iconst X eX3_turningCost_49 (nI 0) (by decide) ?_
        refine mx_X3_32 X eX3_turningCost_50 rfl (Nat.le_of_ble_eq_true rfl) (nI (line - 1)) (maxP (by omega)) ?_
        refine r_istore X eX3_turningCost_53 (Nat.le_of_ble_eq_true rfl) (L2 := [some (.ref (b + k)), some (.int (nI way)), some (.int (nI line)), some (.int (nI place)), some (.int (nI fr)), some (.int (nI (min (place + 1) ((br way wd hg) - 1)))), some (.int (nI (line - 1)))]) rfl ?_
        refine r_aload_n X eX3_turningCost_55 rfl ?_
        refine gf_X3_18 X eX3_turningCost_56 (by omega) e0 ?_
        refine r_iload_n X eX3_turningCost_59 rfl ?_
        refine r_iload X eX3_turningCost_60 rfl ?_
        refine r_iload_n X eX3_turningCost_62 rfl ?_
        refine cp_X3_28 X eX3_turningCost_63 (c_X3_index _ G b N w way (line - 1) place (by omega) (by omega) (by omega)) (by decide) rfl (Nat.le_of_ble_eq_true rfl) ?_
        refine r_iald X eX3_turningCost_66 (by omega) e1 (ix_lt (by omega) (by omega)) (by decide) ?_
        refine r_aload_n X eX3_turningCost_67 rfl ?_
        refine gf_X3_18 X eX3_turningCost_68 (by omega) e0 ?_
        refine r_iload_n X eX3_turningCost_71 rfl ?_
        refine r_iload_n X eX3_turningCost_72 rfl ?_
        refine r_iload X eX3_turningCost_73 rfl ?_
        refine cp_X3_28 X eX3_turningCost_75 (c_X3_index _ G b N w way line (min (place + 1) ((br way wd hg) - 1)) (by omega) (by omega) (by omega)) (by decide) rfl (Nat.le_of_ble_eq_true rfl) ?_
        refine r_iald X eX3_turningCost_78 (by omega) e1 (ix_lt (by omega) (by omega)) (by decide) ?_
        refine r_isub X eX3_turningCost_79 ((ga (ix way (line - 1) place)) - (ga (ix way line (min (place + 1) ((br way wd hg) - 1))))) rfl ?_
        refine ab_X3_45 X eX3_turningCost_80 rfl (Nat.le_of_ble_eq_true rfl) (iab ((ga (ix way (line - 1) place)) - (ga (ix way line (min (place + 1) ((br way wd hg) - 1)))))) rfl ?_
        exact ret _ _ _ _ _ eX3_turningCost_83 (⟨tuS_r (by omega) (by omega) (by omega), rfl⟩)
      ·
        refine r_iload_n X eX3_turningCost_21 rfl ?_
        refine r_iconst X eX3_turningCost_22 (nI 1) (by decide) ?_
        refine r_isub X eX3_turningCost_23 (nP place) (subP _) ?_
        refine r_iconst X eX3_turningCost_24 (nI 0) (by decide) ?_
        refine mx_X3_32 X eX3_turningCost_25 rfl (Nat.le_of_ble_eq_true rfl) (nI (place - 1)) (maxP (by omega)) ?_
        refine r_goto (tgt := 44) X eX3_turningCost_28 (by decide) ?_
        refine r_istore X eX3_turningCost_44 (Nat.le_of_ble_eq_true rfl) (L2 := [some (.ref (b + k)), some (.int (nI way)), some (.int (nI line)), some (.int (nI place)), some (.int (nI fr)), some (.int (nI (place - 1))), none]) rfl ?_
        refine r_iload_n X eX3_turningCost_46 rfl ?_
        refine r_iconst X eX3_turningCost_47 (nI 1) (by decide) ?_
        refine r_isub X eX3_turningCost_48 (nP line) (subP _) ?_
        refine r_iconst X eX3_turningCost_49 (nI 0) (by decide) ?_
        refine mx_X3_32 X eX3_turningCost_50 rfl (Nat.le_of_ble_eq_true rfl) (nI (line - 1)) (maxP (by omega)) ?_
        refine r_istore X eX3_turningCost_53 (Nat.le_of_ble_eq_true rfl) (L2 := [some (.ref (b + k)), some (.int (nI way)), some (.int (nI line)), some (.int (nI place)), some (.int (nI fr)), some (.int (nI (place - 1))), some (.int (nI (line - 1)))]) rfl ?_
        refine r_aload_n X eX3_turningCost_55 rfl ?_
        refine gf_X3_18 X eX3_turningCost_56 (by omega) e0 ?_
        refine r_iload_n X eX3_turningCost_59 rfl ?_
        refine r_iload X eX3_turningCost_60 rfl ?_
        refine r_iload_n X eX3_turningCost_62 rfl ?_
        refine cp_X3_28 X eX3_turningCost_63 (c_X3_index _ G b N w way (line - 1) place (by omega) (by omega) (by omega)) (by decide) rfl (Nat.le_of_ble_eq_true rfl) ?_
        refine r_iald X eX3_turningCost_66 (by omega) e1 (ix_lt (by omega) (by omega)) (by decide) ?_
        refine r_aload_n X eX3_turningCost_67 rfl ?_
        refine gf_X3_18 X eX3_turningCost_68 (by omega) e0 ?_
        refine r_iload_n X eX3_turningCost_71 rfl ?_
        refine r_iload_n X eX3_turningCost_72 rfl ?_
        refine r_iload X eX3_turningCost_73 rfl ?_
        refine cp_X3_28 X eX3_turningCost_75 (c_X3_index _ G b N w way line (place - 1) (by omega) (by omega) (by omega)) (by decide) rfl (Nat.le_of_ble_eq_true rfl) ?_
        refine r_iald X eX3_turningCost_78 (by omega) e1 (ix_lt (by omega) (by omega)) (by decide) ?_
        refine r_isub X eX3_turningCost_79 ((ga (ix way (line - 1) place)) - (ga (ix way line (place - 1)))) rfl ?_
        refine ab_X3_45 X eX3_turningCost_80 rfl (Nat.le_of_ble_eq_true rfl) (iab ((ga (ix way (line - 1) place)) - (ga (ix way line (place - 1))))) rfl ?_
        exact ret _ _ _ _ _ eX3_turningCost_83 (⟨tuS_l (by omega) (by omega), rfl⟩)
    ·
      refine r_iconst X eX3_turningCost_13 (nI 0) (by decide) ?_
      exact ret _ _ _ _ _ eX3_turningCost_14 (⟨(tuS_0 (by omega)).symm, rfl⟩)
end
section
/-! sums, cuts, additions -/
def sm (f : Nat → Int32) : Nat → Int32
  | 0 => 0
  | n + 1 => sm f n + f n
theorem am_t {f : Nat → Int32} {n v : Nat} (e : v = am f 0 n) (h : (f (n + 1)).toInt < (f v).toInt) : n + 1 = am f 0 (n + 1) := by
  subst e
  rw [am, Nat.zero_add, if_pos (Int32.lt_iff_toInt_lt.mpr h)]
theorem am_f {f : Nat → Int32} {n v : Nat} (e : v = am f 0 n) (h : (f v).toInt ≤ (f (n + 1)).toInt) : v = am f 0 (n + 1) := by
  subst e
  rw [am, Nat.zero_add, if_neg (fun q => by have := Int32.lt_iff_toInt_lt.mp q; omega)]
/-- a seam of the class: its own cell and its places -/
def isSm (G : Gs) (b : Nat) (w : Wd) (k way : Nat) (tot : Int32) (pl ce go : Nat → Int32) : Prop :=
  w k = .inr (4, [.int (nI way), .int tot, .ref (b + (k + 1)), .ref (b + (k + 2)), .ref (b + (k + 3))]) ∧ w (k + 1) = aI G 8 pl ∧ w (k + 2) = aI G 64 ce ∧ w (k + 3) = aI G 64 go
/-- places that lie in the picture -/
def okP (pl : Nat → Int32) (s : Nat → Nat) (n nb : Nat) : Prop := ∀ l, l < n → pl l = nI (s l) ∧ s l < nb
def shS (s : Nat → Nat) (h : Nat → Nat → Int32) (l p : Nat) : Int32 := h l (if p < s l then p else p + 1)
def CutI (way : Nat) (ga : Nat → Int32) (s : Nat → Nat) (nl nb line place : Nat) (A : Nat → Int32) : Prop :=
  ∀ l p, l < nl → p < nb → vg way A l p = if (l < line ∨ (l = line ∧ p < place)) ∧ p < nb - 1 then shS s (vg way ga) l p else vg way ga l p
theorem CutI_0 {way nl nb : Nat} {ga : Nat → Int32} {s : Nat → Nat} : CutI way ga s nl nb 0 0 ga := fun l p _ _ => by rw [if_neg (by omega)]
theorem CutI_in {way nl nb line : Nat} {ga A : Nat → Int32} {s : Nat → Nat} (h : CutI way ga s nl nb line 0 A) : CutI way ga s nl nb line (s line) A := fun l p hl hp => by
  rw [h l p hl hp]
  by_cases c : l < line ∧ p < nb - 1
  · rw [if_pos (by omega), if_pos (by omega)]
  · rw [if_neg (by omega)]
    by_cases c2 : (l < line ∨ (l = line ∧ p < s line)) ∧ p < nb - 1
    · rw [if_pos c2, shS]
      have : l = line := by omega
      subst this
      rw [if_pos (by omega)]
    · rw [if_neg c2]
theorem CutI_out {way nl nb line place : Nat} {ga A : Nat → Int32} {s : Nat → Nat} (hp : nb - 1 ≤ place) (h : CutI way ga s nl nb line place A) : CutI way ga s nl nb (line + 1) 0 A := fun l p hl hq => by
  rw [h l p hl hq]
  by_cases c : (l < line ∨ (l = line ∧ p < place)) ∧ p < nb - 1
  · rw [if_pos c, if_pos (by omega)]
  · rw [if_neg c, if_neg (by omega)]
theorem CutI_st {way nl nb line place : Nat} {ga A : Nat → Int32} {s : Nat → Nat} (hnl : nl ≤ 8) (hnb : nb ≤ 8) (hl : line < nl) (hp : place < nb - 1) (hs : s line ≤ place) (h : CutI way ga s nl nb line place A) : CutI way ga s nl nb line (place + 1) (upd A (ix way line place) (A (ix way line (place + 1)))) := fun l p hl2 hp2 => by
  by_cases e : l = line ∧ p = place
  · obtain ⟨rfl, rfl⟩ := e
    rw [vg, upd_self, if_pos (by omega)]
    have := h l (p + 1) hl2 (by omega)
    rw [if_neg (by omega)] at this
    rw [shS, if_neg (by omega)]
    exact this
  · rw [vg, upd_ne (ix_ne (by omega) (by omega) (by omega) (by omega) (by omega))]
    have := h l p hl2 hp2
    rw [vg] at this
    rw [this]
    by_cases c : (l < line ∨ (l = line ∧ p < place)) ∧ p < nb - 1
    · rw [if_pos c, if_pos (by omega)]
    · rw [if_neg c, if_neg (by omega)]
theorem CutI_end {way nl nb line : Nat} {ga A : Nat → Int32} {s : Nat → Nat} (hl : nl ≤ line) (h : CutI way ga s nl nb line 0 A) : ∀ l p, l < nl → p < nb - 1 → vg way A l p = shS s (vg way ga) l p := fun l p h1 h2 => by
  rw [h l p h1 (by omega), if_pos (by omega)]
/-- a seam is added: what a line becomes -/
def adS (s : Nat → Nat) (mid : Nat → Int32) (h : Nat → Nat → Int32) (l p : Nat) : Int32 := if p ≤ s l then h l p else if p = s l + 1 then mid l else h l (p - 1)
def midS (s : Nat → Nat) (nb : Nat) (h : Nat → Nat → Int32) (l : Nat) : Int32 := (h l (s l) + h l (min (s l + 1) (nb - 1))) / 2
def AddI (way : Nat) (ga : Nat → Int32) (s : Nat → Nat) (mid : Nat → Int32) (nl nb line place : Nat) (A : Nat → Int32) : Prop :=
  ∀ l, l < nl → ((l < line → ∀ p, p ≤ nb → vg way A l p = adS s mid (vg way ga) l p) ∧ (l = line → ∀ p, p ≤ nb → (place < p → vg way A l p = vg way ga l (p - 1)) ∧ (p ≤ place → p < nb → vg way A l p = vg way ga l p)) ∧ (line < l → ∀ p, p < nb → vg way A l p = vg way ga l p))
theorem AddI_0 {way nl nb : Nat} {ga : Nat → Int32} {s : Nat → Nat} {mid : Nat → Int32} : AddI way ga s mid nl nb 0 nb ga := fun l _ => ⟨fun h => absurd h (by omega), fun _ p hp => ⟨fun h => absurd h (by omega), fun _ _ => rfl⟩, fun _ p _ => rfl⟩
theorem AddI_st {way nl nb line place : Nat} {ga A : Nat → Int32} {s : Nat → Nat} {mid : Nat → Int32} (hnl : nl ≤ 8) (hnb : nb < 8) (hl : line < nl) (hp : place ≤ nb) (h0 : 0 < place) (h : AddI way ga s mid nl nb line place A) : AddI way ga s mid nl nb line (place - 1) (upd A (ix way line place) (A (ix way line (place - 1)))) := by
  intro l hl2
  refine ⟨fun h1 p hp2 => ?_, fun h1 p hp2 => ⟨fun h2 => ?_, fun h2 h3 => ?_⟩, fun h1 p hp2 => ?_⟩
  · rw [vg, upd_ne (ix_ne (by omega) (by omega) (by omega) (by omega) (by omega))]
    exact (h l hl2).1 h1 p hp2
  · subst h1
    by_cases e : p = place
    · subst e
      rw [vg, upd_self]
      exact ((h l hl2).2.1 rfl (p - 1) (by omega)).2 (by omega) (by omega)
    · rw [vg, upd_ne (ix_ne (by omega) (by omega) (by omega) (by omega) (by omega))]
      exact ((h l hl2).2.1 rfl p hp2).1 (by omega)
  · subst h1
    rw [vg, upd_ne (ix_ne (by omega) (by omega) (by omega) (by omega) (by omega))]
    exact ((h l hl2).2.1 rfl p hp2).2 (by omega) h3
  · rw [vg, upd_ne (ix_ne (by omega) (by omega) (by omega) (by omega) (by omega))]
    exact (h l hl2).2.2 h1 p hp2
theorem AddI_out {way nl nb line place : Nat} {ga A : Nat → Int32} {s : Nat → Nat} {mid : Nat → Int32} {x : Int32} (hnl : nl ≤ 8) (hnb : nb < 8) (hl : line < nl) (hs : s line < nb) (hp : place = s line + 1) (hx : x = mid line) (h : AddI way ga s mid nl nb line place A) : AddI way ga s mid nl nb (line + 1) nb (upd A (ix way line (s line + 1)) x) := by
  intro l hl2
  refine ⟨fun h1 p hp2 => ?_, fun h1 p hp2 => ⟨fun h2 => absurd h2 (by omega), fun h2 h3 => ?_⟩, fun h1 p hp2 => ?_⟩
  · by_cases e : l = line
    · subst e
      rw [adS]
      by_cases c1 : p ≤ s l
      · rw [if_pos c1, vg, upd_ne (ix_ne (by omega) (by omega) (by omega) (by omega) (by omega))]
        exact ((h l hl2).2.1 rfl p hp2).2 (by omega) (by omega)
      · rw [if_neg c1]
        by_cases c2 : p = s l + 1
        · subst c2
          rw [if_pos rfl, vg, upd_self, hx]
        · rw [if_neg c2, vg, upd_ne (ix_ne (by omega) (by omega) (by omega) (by omega) (by omega))]
          exact ((h l hl2).2.1 rfl p hp2).1 (by omega)
    · rw [vg, upd_ne (ix_ne (by omega) (by omega) (by omega) (by omega) (by omega))]
      exact (h l hl2).1 (by omega) p hp2
  · rw [vg, upd_ne (ix_ne (by omega) (by omega) (by omega) (by omega) (by omega))]
    exact (h l hl2).2.2 (by omega) p h3
  · rw [vg, upd_ne (ix_ne (by omega) (by omega) (by omega) (by omega) (by omega))]
    exact (h l hl2).2.2 (by omega) p hp2
theorem AddI_end {way nl nb line place : Nat} {ga A : Nat → Int32} {s : Nat → Nat} {mid : Nat → Int32} (hl : nl ≤ line) (h : AddI way ga s mid nl nb line place A) : ∀ l p, l < nl → p < nb + 1 → vg way A l p = adS s mid (vg way ga) l p := fun l p h1 h2 => (h l h1).1 (by omega) p (by omega)
theorem AddI_old {way nl nb line place : Nat} {ga A : Nat → Int32} {s : Nat → Nat} {mid : Nat → Int32} {p : Nat} (hl : line < nl) (hp : p < nb) (hq : p ≤ place) (h : AddI way ga s mid nl nb line place A) : vg way A line p = vg way ga line p := ((h line hl).2.1 rfl p (by omega)).2 hq hp
end
section
theorem sm_eq {f : Nat → Int32} {n m : Nat} (h : n = m) : sm f n = sm f m := by rw [h]
theorem nI_m1 {a : Nat} (h : 0 < a) : nI a + (-1 : Int32) = nI (a - 1) := (dec_nI a).trans (nP_pos h)
set_option maxHeartbeats 4000000 in
set_option maxRecDepth 100000 in
theorem c_X3_lightestInRow (l : Launch) (G : Gs) (b N : Nat) (w : Wd) (k : Nat) (hk : k + 3 ≤ N) (wd hg lw : Nat) (ga ma : Nat → Int32) (hp : isPic G b w k wd hg lw ga ma) (y : Nat) (ha : y < hg) : CI l yX3_lightestInRow cX3_lightestInRow 4 (some .int) 4 G b N w [.ref (b + k), .int (nI y)] (fun r w2 => r = nI (am (fun j => wtS wd hg (vg 0 ga) (vg 0 ma) y j) 0 (wd - 1)) ∧ w2 = w) := by
  obtain ⟨e0, e1, e2, q1, q2, q3, q4, q5⟩ := hp
  refine CI_of (L0 := [some (.ref (b + k)), some (.int (nI y)), none, none]) (by decide) rfl (by simp [Value.category]) rfl (Nat.le_of_ble_eq_true rfl) rfl (fun κ X ret => ?_)
  refine r_iconst X eX3_lightestInRow_0 (nI 0) (by decide) ?_
  refine r_istore_n X eX3_lightestInRow_1 (Nat.le_of_ble_eq_true rfl) (L2 := [some (.ref (b + k)), some (.int (nI y)), some (.int (nI 0)), none]) rfl ?_
  refine r_iconst X eX3_lightestInRow_2 (nI 1) (by decide) ?_
  refine r_istore_n X eX3_lightestInRow_3 (Nat.le_of_ble_eq_true rfl) (L2 := [some (.ref (b + k)), some (.int (nI y)), some (.int (nI 0)), some (.int (nI 1))]) rfl ?_
  have lp1 : ∀ (n : Nat) (i v : Nat), (i + 1 ≤ wd) → (v = am (fun j => wtS wd hg (vg 0 ga) (vg 0 ma) y j) 0 i) → (v ≤ i) → wd - i < n → V κ G b (N, 0, 0) w 4 [some (.ref (b + k)), some (.int (nI y)), some (.int (nI v)), some (.int (nI (i + 1)))] [] := by
    intro n
    induction n with
    | zero => intro i v hi hv hvl hm; exact absurd hm (Nat.not_lt_zero _)
    | succ n ih1 =>
      intro i v hi hv hvl hm
      refine r_iload_n X eX3_lightestInRow_4 rfl ?_
      refine r_aload_n X eX3_lightestInRow_5 rfl ?_
      refine gf_X3_9 X eX3_lightestInRow_6 (by omega) e0 ?_
      refine r_icmp_ge (tgt := 35) X eX3_lightestInRow_9 (by decide) (nI_toInt (by omega)) (nI_toInt (by omega)) (fun c_2 => ?_) (fun c_2 => ?_)
      ·
        refine r_iload_n X eX3_lightestInRow_35 rfl ?_
        exact ret _ _ _ _ _ eX3_lightestInRow_36 (⟨congrArg nI (by rw [hv]; congr 1; omega), rfl⟩)
      ·
        refine r_aload_n X eX3_lightestInRow_12 rfl ?_
        refine r_iload_n X eX3_lightestInRow_13 rfl ?_
        refine r_iload_n X eX3_lightestInRow_14 rfl ?_
        refine cp_X3_57 X eX3_lightestInRow_15 (c_X3_weightAt _ G b N w k hk wd hg lw ga ma ⟨e0, e1, e2, q1, q2, q3, q4, q5⟩ (i + 1) y (by omega) (by omega)) (by decide) (by omega) e0 rfl (Nat.le_of_ble_eq_true rfl) ?_
        refine r_aload_n X eX3_lightestInRow_18 rfl ?_
        refine r_iload_n X eX3_lightestInRow_19 rfl ?_
        refine r_iload_n X eX3_lightestInRow_20 rfl ?_
        refine cp_X3_57 X eX3_lightestInRow_21 (c_X3_weightAt _ G b N w k hk wd hg lw ga ma ⟨e0, e1, e2, q1, q2, q3, q4, q5⟩ v y (by omega) (by omega)) (by decide) (by omega) e0 rfl (Nat.le_of_ble_eq_true rfl) ?_
        refine r_icmp_ge (tgt := 29) X eX3_lightestInRow_24 (by decide) rfl rfl (fun c_3 => ?_) (fun c_3 => ?_)
        ·
          refine r_iinc X eX3_lightestInRow_29 rfl (nI (i + 2)) (inc_nI _) (L2 := [some (.ref (b + k)), some (.int (nI y)), some (.int (nI v)), some (.int (nI (i + 2)))]) rfl ?_
          refine r_goto (tgt := 4) X eX3_lightestInRow_32 (by decide) ?_
          exact ih1 (i + 1) v  (by omega) (am_f (f := fun j => wtS wd hg (vg 0 ga) (vg 0 ma) y j) hv c_3) (by omega)  (by omega)
        ·
          refine r_iload_n X eX3_lightestInRow_27 rfl ?_
          refine r_istore_n X eX3_lightestInRow_28 (Nat.le_of_ble_eq_true rfl) (L2 := [some (.ref (b + k)), some (.int (nI y)), some (.int (nI (i + 1))), some (.int (nI (i + 1)))]) rfl ?_
          refine r_iinc X eX3_lightestInRow_29 rfl (nI (i + 2)) (inc_nI _) (L2 := [some (.ref (b + k)), some (.int (nI y)), some (.int (nI (i + 1))), some (.int (nI (i + 2)))]) rfl ?_
          refine r_goto (tgt := 4) X eX3_lightestInRow_32 (by decide) ?_
          exact ih1 (i + 1) (i + 1)  (by omega) (am_t (f := fun j => wtS wd hg (vg 0 ga) (vg 0 ma) y j) hv c_3) (by omega)  (by omega)
  exact lp1 _ 0 0  (by omega) rfl (by omega)  (Nat.lt_succ_self _)
set_option maxHeartbeats 4000000 in
set_option maxRecDepth 100000 in
theorem c_X3_lightestInColumn (l : Launch) (G : Gs) (b N : Nat) (w : Wd) (k : Nat) (hk : k + 3 ≤ N) (wd hg lw : Nat) (ga ma : Nat → Int32) (hp : isPic G b w k wd hg lw ga ma) (x : Nat) (ha : x < wd) : CI l yX3_lightestInColumn cX3_lightestInColumn 4 (some .int) 4 G b N w [.ref (b + k), .int (nI x)] (fun r w2 => r = nI (am (fun j => wtS wd hg (vg 0 ga) (vg 0 ma) j x) 0 (hg - 1)) ∧ w2 = w) := by
  obtain ⟨e0, e1, e2, q1, q2, q3, q4, q5⟩ := hp
  refine CI_of (L0 := [some (.ref (b + k)), some (.int (nI x)), none, none]) (by decide) rfl (by simp [Value.category]) rfl (Nat.le_of_ble_eq_true rfl) rfl (fun κ X ret => ?_)
  refine r_iconst X eX3_lightestInColumn_0 (nI 0) (by decide) ?_
  refine r_istore_n X eX3_lightestInColumn_1 (Nat.le_of_ble_eq_true rfl) (L2 := [some (.ref (b + k)), some (.int (nI x)), some (.int (nI 0)), none]) rfl ?_
  refine r_iconst X eX3_lightestInColumn_2 (nI 1) (by decide) ?_
  refine r_istore_n X eX3_lightestInColumn_3 (Nat.le_of_ble_eq_true rfl) (L2 := [some (.ref (b + k)), some (.int (nI x)), some (.int (nI 0)), some (.int (nI 1))]) rfl ?_
  have lp1 : ∀ (n : Nat) (i v : Nat), (i + 1 ≤ hg) → (v = am (fun j => wtS wd hg (vg 0 ga) (vg 0 ma) j x) 0 i) → (v ≤ i) → hg - i < n → V κ G b (N, 0, 0) w 4 [some (.ref (b + k)), some (.int (nI x)), some (.int (nI v)), some (.int (nI (i + 1)))] [] := by
    intro n
    induction n with
    | zero => intro i v hi hv hvl hm; exact absurd hm (Nat.not_lt_zero _)
    | succ n ih1 =>
      intro i v hi hv hvl hm
      refine r_iload_n X eX3_lightestInColumn_4 rfl ?_
      refine r_aload_n X eX3_lightestInColumn_5 rfl ?_
      refine gf_X3_15 X eX3_lightestInColumn_6 (by omega) e0 ?_
      refine r_icmp_ge (tgt := 35) X eX3_lightestInColumn_9 (by decide) (nI_toInt (by omega)) (nI_toInt (by omega)) (fun c_2 => ?_) (fun c_2 => ?_)
      ·
        refine r_iload_n X eX3_lightestInColumn_35 rfl ?_
        exact ret _ _ _ _ _ eX3_lightestInColumn_36 (⟨congrArg nI (by rw [hv]; congr 1; omega), rfl⟩)
      ·
        refine r_aload_n X eX3_lightestInColumn_12 rfl ?_
        refine r_iload_n X eX3_lightestInColumn_13 rfl ?_
        refine r_iload_n X eX3_lightestInColumn_14 rfl ?_
        refine cp_X3_57 X eX3_lightestInColumn_15 (c_X3_weightAt _ G b N w k hk wd hg lw ga ma ⟨e0, e1, e2, q1, q2, q3, q4, q5⟩ x (i + 1) (by omega) (by omega)) (by decide) (by omega) e0 rfl (Nat.le_of_ble_eq_true rfl) ?_
        refine r_aload_n X eX3_lightestInColumn_18 rfl ?_
        refine r_iload_n X eX3_lightestInColumn_19 rfl ?_
        refine r_iload_n X eX3_lightestInColumn_20 rfl ?_
        refine cp_X3_57 X eX3_lightestInColumn_21 (c_X3_weightAt _ G b N w k hk wd hg lw ga ma ⟨e0, e1, e2, q1, q2, q3, q4, q5⟩ x v (by omega) (by omega)) (by decide) (by omega) e0 rfl (Nat.le_of_ble_eq_true rfl) ?_
        refine r_icmp_ge (tgt := 29) X eX3_lightestInColumn_24 (by decide) rfl rfl (fun c_3 => ?_) (fun c_3 => ?_)
        ·
          refine r_iinc X eX3_lightestInColumn_29 rfl (nI (i + 2)) (inc_nI _) (L2 := [some (.ref (b + k)), some (.int (nI x)), some (.int (nI v)), some (.int (nI (i + 2)))]) rfl ?_
          refine r_goto (tgt := 4) X eX3_lightestInColumn_32 (by decide) ?_
          exact ih1 (i + 1) v  (by omega) (am_f (f := fun j => wtS wd hg (vg 0 ga) (vg 0 ma) j x) hv c_3) (by omega)  (by omega)
        ·
          refine r_iload_n X eX3_lightestInColumn_27 rfl ?_
          refine r_istore_n X eX3_lightestInColumn_28 (Nat.le_of_ble_eq_true rfl) (L2 := [some (.ref (b + k)), some (.int (nI x)), some (.int (nI (i + 1))), some (.int (nI (i + 1)))]) rfl ?_
          refine r_iinc X eX3_lightestInColumn_29 rfl (nI (i + 2)) (inc_nI _) (L2 := [some (.ref (b + k)), some (.int (nI x)), some (.int (nI (i + 1))), some (.int (nI (i + 2)))]) rfl ?_
          refine r_goto (tgt := 4) X eX3_lightestInColumn_32 (by decide) ?_
          exact ih1 (i + 1) (i + 1)  (by omega) (am_t (f := fun j => wtS wd hg (vg 0 ga) (vg 0 ma) j x) hv c_3) (by omega)  (by omega)
  exact lp1 _ 0 0  (by omega) rfl (by omega)  (Nat.lt_succ_self _)
set_option maxHeartbeats 4000000 in
set_option maxRecDepth 100000 in
theorem c_X3_sumOfGreys (l : Launch) (G : Gs) (b N : Nat) (w : Wd) (k : Nat) (hk : k + 3 ≤ N) (wd hg lw : Nat) (ga ma : Nat → Int32) (hp : isPic G b w k wd hg lw ga ma) : CI l yX3_sumOfGreys cX3_sumOfGreys 4 (some .int) 2 G b N w [.ref (b + k)] (fun r w2 => r = sm (fun y => sm (vg 0 ga y) wd) hg ∧ w2 = w) := by
  obtain ⟨e0, e1, e2, q1, q2, q3, q4, q5⟩ := hp
  refine CI_of (L0 := [some (.ref (b + k)), none, none, none]) (by decide) rfl (by simp [Value.category]) rfl (Nat.le_of_ble_eq_true rfl) rfl (fun κ X ret => ?_)
  refine r_iconst X eX3_sumOfGreys_0 ((0 : Int32)) (by decide) ?_
  refine r_istore_n X eX3_sumOfGreys_1 (Nat.le_of_ble_eq_true rfl) (L2 := [some (.ref (b + k)), some (.int ((0 : Int32))), none, none]) rfl ?_
  refine r_iconst X eX3_sumOfGreys_2 (nI 0) (by decide) ?_
  refine r_istore_n X eX3_sumOfGreys_3 (Nat.le_of_ble_eq_true rfl) (L2 := [some (.ref (b + k)), some (.int ((0 : Int32))), some (.int (nI 0)), none]) rfl ?_
  have lp1 : ∀ (n : Nat) (y : Nat) (c : Int32), (y ≤ hg) → (c = sm (fun y => sm (vg 0 ga y) wd) y) → hg - y < n → V κ G b (N, 0, 0) w 4 [some (.ref (b + k)), some (.int c), some (.int (nI y)), none] [] := by
    intro n
    induction n with
    | zero => intro y c hy hc hm; exact absurd hm (Nat.not_lt_zero _)
    | succ n ih1 =>
      intro y c hy hc hm
      refine r_iload_n X eX3_sumOfGreys_4 rfl ?_
      refine r_aload_n X eX3_sumOfGreys_5 rfl ?_
      refine gf_X3_15 X eX3_sumOfGreys_6 (by omega) e0 ?_
      refine r_icmp_ge (tgt := 44) X eX3_sumOfGreys_9 (by decide) (nI_toInt (by omega)) (nI_toInt (by omega)) (fun c_2 => ?_) (fun c_2 => ?_)
      ·
        refine r_iload_n X eX3_sumOfGreys_44 rfl ?_
        exact ret _ _ _ _ _ eX3_sumOfGreys_45 (⟨hc.trans (sm_eq (by omega)), rfl⟩)
      ·
        refine r_iconst X eX3_sumOfGreys_12 (nI 0) (by decide) ?_
        refine r_istore_n X eX3_sumOfGreys_13 (Nat.le_of_ble_eq_true rfl) (L2 := [some (.ref (b + k)), some (.int c), some (.int (nI y)), some (.int (nI 0))]) rfl ?_
        have lp3 : ∀ (n : Nat) (x : Nat) (d : Int32), (x ≤ wd) → (d = c + sm (vg 0 ga y) x) → wd - x < n → V κ G b (N, 0, 0) w 14 [some (.ref (b + k)), some (.int d), some (.int (nI y)), some (.int (nI x))] [] := by
          intro n
          induction n with
          | zero => intro x d hx hd hm; exact absurd hm (Nat.not_lt_zero _)
          | succ n ih3 =>
            intro x d hx hd hm
            refine r_iload_n X eX3_sumOfGreys_14 rfl ?_
            refine r_aload_n X eX3_sumOfGreys_15 rfl ?_
            refine gf_X3_9 X eX3_sumOfGreys_16 (by omega) e0 ?_
            refine r_icmp_ge (tgt := 38) X eX3_sumOfGreys_19 (by decide) (nI_toInt (by omega)) (nI_toInt (by omega)) (fun c_4 => ?_) (fun c_4 => ?_)
            ·
              refine r_iinc X eX3_sumOfGreys_38 rfl (nI (y + 1)) (inc_nI _) (L2 := [some (.ref (b + k)), some (.int d), some (.int (nI (y + 1))), some (.int (nI x))]) rfl ?_
              refine r_goto (tgt := 4) X eX3_sumOfGreys_41 (by decide) ?_
              refine r_fg 3 (L2 := [some (.ref (b + k)), some (.int d), some (.int (nI (y + 1))), none]) rfl ?_
              exact ih1 (y + 1) d  (by omega) (by rw [hd, hc, sm_eq (show x = wd by omega)]; rfl)  (by omega)
            ·
              refine r_iload_n X eX3_sumOfGreys_22 rfl ?_
              refine r_aload_n X eX3_sumOfGreys_23 rfl ?_
              refine r_iconst X eX3_sumOfGreys_24 (nI 0) (by decide) ?_
              refine r_iload_n X eX3_sumOfGreys_25 rfl ?_
              refine r_iload_n X eX3_sumOfGreys_26 rfl ?_
              refine cp_X3_60 X eX3_sumOfGreys_27 (c_X3_greyAt _ G b N w k hk wd hg lw ga ma ⟨e0, e1, e2, q1, q2, q3, q4, q5⟩ 0 y x (by omega) (by omega) (by omega)) (by decide) (by omega) e0 rfl (Nat.le_of_ble_eq_true rfl) ?_
              refine r_iadd X eX3_sumOfGreys_30 (d + (vg 0 ga y x)) rfl ?_
              refine r_istore_n X eX3_sumOfGreys_31 (Nat.le_of_ble_eq_true rfl) (L2 := [some (.ref (b + k)), some (.int (d + (vg 0 ga y x))), some (.int (nI y)), some (.int (nI x))]) rfl ?_
              refine r_iinc X eX3_sumOfGreys_32 rfl (nI (x + 1)) (inc_nI _) (L2 := [some (.ref (b + k)), some (.int (d + (vg 0 ga y x))), some (.int (nI y)), some (.int (nI (x + 1)))]) rfl ?_
              refine r_goto (tgt := 14) X eX3_sumOfGreys_35 (by decide) ?_
              exact ih3 (x + 1) (d + (vg 0 ga y x))  (by omega) (by rw [hd, Int32.add_assoc]; rfl)  (by omega)
        exact lp3 _ 0 c  (by omega) (Int32.add_zero c).symm  (Nat.lt_succ_self _)
  exact lp1 _ 0 0  (by omega) rfl  (Nat.lt_succ_self _)
set_option maxHeartbeats 4000000 in
set_option maxRecDepth 100000 in
theorem c_X3_dotsMarked (l : Launch) (G : Gs) (b N : Nat) (w : Wd) (k : Nat) (hk : k + 3 ≤ N) (wd hg lw : Nat) (ga ma : Nat → Int32) (hp : isPic G b w k wd hg lw ga ma) (m : Int32) : CI l yX3_dotsMarked cX3_dotsMarked 5 (some .int) 2 G b N w [.ref (b + k), .int m] (fun r w2 => r = sm (fun y => sm (fun x => if vg 0 ma y x = m then 1 else 0) wd) hg ∧ w2 = w) := by
  obtain ⟨e0, e1, e2, q1, q2, q3, q4, q5⟩ := hp
  refine CI_of (L0 := [some (.ref (b + k)), some (.int m), none, none, none]) (by decide) rfl (by simp [Value.category]) rfl (Nat.le_of_ble_eq_true rfl) rfl (fun κ X ret => ?_)
  refine r_iconst X eX3_dotsMarked_0 ((0 : Int32)) (by decide) ?_
  refine r_istore_n X eX3_dotsMarked_1 (Nat.le_of_ble_eq_true rfl) (L2 := [some (.ref (b + k)), some (.int m), some (.int ((0 : Int32))), none, none]) rfl ?_
  refine r_iconst X eX3_dotsMarked_2 (nI 0) (by decide) ?_
  refine r_istore_n X eX3_dotsMarked_3 (Nat.le_of_ble_eq_true rfl) (L2 := [some (.ref (b + k)), some (.int m), some (.int ((0 : Int32))), some (.int (nI 0)), none]) rfl ?_
  have lp1 : ∀ (n : Nat) (y : Nat) (c : Int32), (y ≤ hg) → (c = sm (fun y => sm (fun x => if vg 0 ma y x = m then 1 else 0) wd) y) → hg - y < n → V κ G b (N, 0, 0) w 4 [some (.ref (b + k)), some (.int m), some (.int c), some (.int (nI y)), none] [] := by
    intro n
    induction n with
    | zero => intro y c hy hc hm; exact absurd hm (Nat.not_lt_zero _)
    | succ n ih1 =>
      intro y c hy hc hm
      refine r_iload_n X eX3_dotsMarked_4 rfl ?_
      refine r_aload_n X eX3_dotsMarked_5 rfl ?_
      refine gf_X3_15 X eX3_dotsMarked_6 (by omega) e0 ?_
      refine r_icmp_ge (tgt := 51) X eX3_dotsMarked_9 (by decide) (nI_toInt (by omega)) (nI_toInt (by omega)) (fun c_2 => ?_) (fun c_2 => ?_)
      ·
        refine r_iload_n X eX3_dotsMarked_51 rfl ?_
        exact ret _ _ _ _ _ eX3_dotsMarked_52 (⟨hc.trans (sm_eq (by omega)), rfl⟩)
      ·
        refine r_iconst X eX3_dotsMarked_12 (nI 0) (by decide) ?_
        refine r_istore X eX3_dotsMarked_13 (Nat.le_of_ble_eq_true rfl) (L2 := [some (.ref (b + k)), some (.int m), some (.int c), some (.int (nI y)), some (.int (nI 0))]) rfl ?_
        have lp3 : ∀ (n : Nat) (x : Nat) (d : Int32), (x ≤ wd) → (d = c + sm (fun x => if vg 0 ma y x = m then 1 else 0) x) → wd - x < n → V κ G b (N, 0, 0) w 15 [some (.ref (b + k)), some (.int m), some (.int d), some (.int (nI y)), some (.int (nI x))] [] := by
          intro n
          induction n with
          | zero => intro x d hx hd hm; exact absurd hm (Nat.not_lt_zero _)
          | succ n ih3 =>
            intro x d hx hd hm
            refine r_iload X eX3_dotsMarked_15 rfl ?_
            refine r_aload_n X eX3_dotsMarked_17 rfl ?_
            refine gf_X3_9 X eX3_dotsMarked_18 (by omega) e0 ?_
            refine r_icmp_ge (tgt := 45) X eX3_dotsMarked_21 (by decide) (nI_toInt (by omega)) (nI_toInt (by omega)) (fun c_4 => ?_) (fun c_4 => ?_)
            ·
              refine r_iinc X eX3_dotsMarked_45 rfl (nI (y + 1)) (inc_nI _) (L2 := [some (.ref (b + k)), some (.int m), some (.int d), some (.int (nI (y + 1))), some (.int (nI x))]) rfl ?_
              refine r_goto (tgt := 4) X eX3_dotsMarked_48 (by decide) ?_
              refine r_fg 4 (L2 := [some (.ref (b + k)), some (.int m), some (.int d), some (.int (nI (y + 1))), none]) rfl ?_
              exact ih1 (y + 1) d  (by omega) (by rw [hd, hc, sm_eq (show x = wd by omega)]; rfl)  (by omega)
            ·
              refine r_aload_n X eX3_dotsMarked_24 rfl ?_
              refine r_iconst X eX3_dotsMarked_25 (nI 0) (by decide) ?_
              refine r_iload_n X eX3_dotsMarked_26 rfl ?_
              refine r_iload X eX3_dotsMarked_27 rfl ?_
              refine cp_X3_63 X eX3_dotsMarked_29 (c_X3_markAt _ G b N w k hk wd hg lw ga ma ⟨e0, e1, e2, q1, q2, q3, q4, q5⟩ 0 y x (by omega) (by omega) (by omega)) (by decide) (by omega) e0 rfl (Nat.le_of_ble_eq_true rfl) ?_
              refine r_iload_n X eX3_dotsMarked_32 rfl ?_
              refine r_icmp_ne (tgt := 39) X eX3_dotsMarked_33 (by decide) rfl rfl (fun c_5 => ?_) (fun c_5 => ?_)
              ·
                refine r_iinc X eX3_dotsMarked_39 rfl (nI (x + 1)) (inc_nI _) (L2 := [some (.ref (b + k)), some (.int m), some (.int d), some (.int (nI y)), some (.int (nI (x + 1)))]) rfl ?_
                refine r_goto (tgt := 15) X eX3_dotsMarked_42 (by decide) ?_
                exact ih3 (x + 1) d  (by omega) (by rw [hd, sm, if_neg (fun q => c_5 (congrArg Int32.toInt q)), Int32.add_zero])  (by omega)
              ·
                refine r_iinc X eX3_dotsMarked_36 rfl (d + Int32.ofInt (1)) rfl (L2 := [some (.ref (b + k)), some (.int m), some (.int (d + Int32.ofInt (1))), some (.int (nI y)), some (.int (nI x))]) rfl ?_
                refine r_iinc X eX3_dotsMarked_39 rfl (nI (x + 1)) (inc_nI _) (L2 := [some (.ref (b + k)), some (.int m), some (.int (d + Int32.ofInt (1))), some (.int (nI y)), some (.int (nI (x + 1)))]) rfl ?_
                refine r_goto (tgt := 15) X eX3_dotsMarked_42 (by decide) ?_
                exact ih3 (x + 1) (d + Int32.ofInt (1))  (by omega) (by rw [hd, Int32.add_assoc, sm, if_pos (Int32.toInt_inj.mp c_5)]; rfl)  (by omega)
        exact lp3 _ 0 c  (by omega) (Int32.add_zero c).symm  (Nat.lt_succ_self _)
  exact lp1 _ 0 0  (by omega) rfl  (Nat.lt_succ_self _)
set_option maxHeartbeats 4000000 in
set_option maxRecDepth 100000 in
theorem c_X3_keptDotsOf (l : Launch) (G : Gs) (b N : Nat) (w : Wd) (k : Nat) (hk : k + 3 ≤ N) (wd hg lw : Nat) (ga ma : Nat → Int32) (hp : isPic G b w k wd hg lw ga ma) (ks way : Nat) (hks : ks + 4 ≤ N) (hdj : ks + 4 ≤ k ∨ k + 3 ≤ ks) (hw : way < 2) (tot : Int32) (pl ce go : Nat → Int32) (hs : isSm G b w ks way tot pl ce go) (s : Nat → Nat) (hpl : okP pl s (li way wd hg) (br way wd hg)) : CI l yX3_keptDotsOf cX3_keptDotsOf 4 (some .int) 2 G b N w [.ref (b + k), .ref (b + ks)] (fun r w2 => r = sm (fun l => if vg way ma l (s l) = 1 then 1 else 0) (li way wd hg) ∧ w2 = w) := by
  obtain ⟨e0, e1, e2, q1, q2, q3, q4, q5⟩ := hp
  obtain ⟨f0, f1, f2, f3⟩ := hs
  have hbr := br_or way wd hg
  have hli := li_or way wd hg
  refine CI_of (L0 := [some (.ref (b + k)), some (.ref (b + ks)), none, none]) (by decide) rfl (by simp [Value.category]) rfl (Nat.le_of_ble_eq_true rfl) rfl (fun κ X ret => ?_)
  refine r_iconst X eX3_keptDotsOf_0 ((0 : Int32)) (by decide) ?_
  refine r_istore_n X eX3_keptDotsOf_1 (Nat.le_of_ble_eq_true rfl) (L2 := [some (.ref (b + k)), some (.ref (b + ks)), some (.int ((0 : Int32))), none]) rfl ?_
  refine r_iconst X eX3_keptDotsOf_2 (nI 0) (by decide) ?_
  refine r_istore_n X eX3_keptDotsOf_3 (Nat.le_of_ble_eq_true rfl) (L2 := [some (.ref (b + k)), some (.ref (b + ks)), some (.int ((0 : Int32))), some (.int (nI 0))]) rfl ?_
  have lp1 : ∀ (n : Nat) (y : Nat) (c : Int32), (y ≤ li way wd hg) → (c = sm (fun l => if vg way ma l (s l) = 1 then 1 else 0) y) → li way wd hg - y < n → V κ G b (N, 0, 0) w 4 [some (.ref (b + k)), some (.ref (b + ks)), some (.int c), some (.int (nI y))] [] := by
    intro n
    induction n with
    | zero => intro y c hy hc hm; exact absurd hm (Nat.not_lt_zero _)
    | succ n ih1 =>
      intro y c hy hc hm
      refine r_iload_n X eX3_keptDotsOf_4 rfl ?_
      refine r_aload_n X eX3_keptDotsOf_5 rfl ?_
      refine r_aload_n X eX3_keptDotsOf_6 rfl ?_
      refine gf_X3_66 X eX3_keptDotsOf_7 (by omega) f0 ?_
      refine cp_X3_71 X eX3_keptDotsOf_10 (c_X3_lines _ G b N w k hk wd hg lw ga ma ⟨e0, e1, e2, q1, q2, q3, q4, q5⟩ way (by omega)) (by decide) (by omega) e0 rfl (Nat.le_of_ble_eq_true rfl) ?_
      refine r_icmp_ge (tgt := 44) X eX3_keptDotsOf_13 (by decide) (nI_toInt (by omega)) (nI_toInt (by omega)) (fun c_2 => ?_) (fun c_2 => ?_)
      ·
        refine r_iload_n X eX3_keptDotsOf_44 rfl ?_
        exact ret _ _ _ _ _ eX3_keptDotsOf_45 (⟨by rw [hc]; congr 1; omega, rfl⟩)
      ·
        refine r_aload_n X eX3_keptDotsOf_16 rfl ?_
        refine r_aload_n X eX3_keptDotsOf_17 rfl ?_
        refine gf_X3_66 X eX3_keptDotsOf_18 (by omega) f0 ?_
        refine r_iload_n X eX3_keptDotsOf_21 rfl ?_
        refine r_aload_n X eX3_keptDotsOf_22 rfl ?_
        refine gf_X3_74 X eX3_keptDotsOf_23 (by omega) f0 ?_
        refine r_iload_n X eX3_keptDotsOf_26 rfl ?_
        refine r_iald X eX3_keptDotsOf_27 (by omega) f1 (by omega) (by decide) ?_
        refine r_top (y := nI (s y)) (hpl y (by omega)).1 ?_
        have hsy := (hpl y (by omega)).2
        refine cp_X3_63 X eX3_keptDotsOf_28 (c_X3_markAt _ G b N w k hk wd hg lw ga ma ⟨e0, e1, e2, q1, q2, q3, q4, q5⟩ way y (s y) (by omega) (by omega) (by omega)) (by decide) (by omega) e0 rfl (Nat.le_of_ble_eq_true rfl) ?_
        refine r_iconst X eX3_keptDotsOf_31 ((1 : Int32)) (by decide) ?_
        refine r_icmp_ne (tgt := 38) X eX3_keptDotsOf_32 (by decide) rfl rfl (fun c_3 => ?_) (fun c_3 => ?_)
        ·
          refine r_iinc X eX3_keptDotsOf_38 rfl (nI (y + 1)) (inc_nI _) (L2 := [some (.ref (b + k)), some (.ref (b + ks)), some (.int c), some (.int (nI (y + 1)))]) rfl ?_
          refine r_goto (tgt := 4) X eX3_keptDotsOf_41 (by decide) ?_
          exact ih1 (y + 1) c  (by omega) (by rw [hc, sm, if_neg (fun q => c_3 (congrArg Int32.toInt q)), Int32.add_zero])  (by omega)
        ·
          refine r_iinc X eX3_keptDotsOf_35 rfl (c + Int32.ofInt (1)) rfl (L2 := [some (.ref (b + k)), some (.ref (b + ks)), some (.int (c + Int32.ofInt (1))), some (.int (nI y))]) rfl ?_
          refine r_iinc X eX3_keptDotsOf_38 rfl (nI (y + 1)) (inc_nI _) (L2 := [some (.ref (b + k)), some (.ref (b + ks)), some (.int (c + Int32.ofInt (1))), some (.int (nI (y + 1)))]) rfl ?_
          refine r_goto (tgt := 4) X eX3_keptDotsOf_41 (by decide) ?_
          exact ih1 (y + 1) (c + Int32.ofInt (1))  (by omega) (by rw [hc, sm, if_pos (Int32.toInt_inj.mp c_3)]; rfl)  (by omega)
  exact lp1 _ 0 0  (by omega) rfl  (Nat.lt_succ_self _)
set_option maxHeartbeats 4000000 in
set_option maxRecDepth 100000 in
theorem c_X3_moveDot (l : Launch) (G : Gs) (b N : Nat) (w : Wd) (k : Nat) (hk : k + 3 ≤ N) (wd hg lw : Nat) (ga ma : Nat → Int32) (hp : isPic G b w k wd hg lw ga ma) (way line fr to : Nat) (hw : way < 2) (hl : line < 8) (hf : fr < 8) (ht : to < 8) : CV l yX3_moveDot cX3_moveDot 7 1 G b N w [.ref (b + k), .int (nI way), .int (nI line), .int (nI fr), .int (nI to)] (fun w2 => isPic G b w2 k wd hg lw (upd ga (ix way line to) (ga (ix way line fr))) (upd ma (ix way line to) (ma (ix way line fr))) ∧ ∀ j, (j < k ∨ k + 3 ≤ j) → w2 j = w j) := by
  obtain ⟨e0, e1, e2, q1, q2, q3, q4, q5⟩ := hp
  refine CV_of (L0 := [some (.ref (b + k)), some (.int (nI way)), some (.int (nI line)), some (.int (nI fr)), some (.int (nI to)), none, none]) (by decide) rfl (by simp [Value.category]) rfl (Nat.le_of_ble_eq_true rfl) (fun κ X ret => ?_)
  have fr_w : ∀ j, (j < k ∨ k + 3 ≤ j) → w j = w j := fun _ _ => rfl
  refine r_iload_n X eX3_moveDot_0 rfl ?_
  refine r_iload_n X eX3_moveDot_1 rfl ?_
  refine r_iload_n X eX3_moveDot_2 rfl ?_
  refine cp_X3_28 X eX3_moveDot_3 (c_X3_index _ G b N w way line fr (by omega) (by omega) (by omega)) (by decide) rfl (Nat.le_of_ble_eq_true rfl) ?_
  refine r_istore X eX3_moveDot_6 (Nat.le_of_ble_eq_true rfl) (L2 := [some (.ref (b + k)), some (.int (nI way)), some (.int (nI line)), some (.int (nI fr)), some (.int (nI to)), some (.int (nI (ix way line fr))), none]) rfl ?_
  refine r_iload_n X eX3_moveDot_8 rfl ?_
  refine r_iload_n X eX3_moveDot_9 rfl ?_
  refine r_iload X eX3_moveDot_10 rfl ?_
  refine cp_X3_28 X eX3_moveDot_12 (c_X3_index _ G b N w way line to (by omega) (by omega) (by omega)) (by decide) rfl (Nat.le_of_ble_eq_true rfl) ?_
  refine r_istore X eX3_moveDot_15 (Nat.le_of_ble_eq_true rfl) (L2 := [some (.ref (b + k)), some (.int (nI way)), some (.int (nI line)), some (.int (nI fr)), some (.int (nI to)), some (.int (nI (ix way line fr))), some (.int (nI (ix way line to)))]) rfl ?_
  refine r_aload_n X eX3_moveDot_17 rfl ?_
  refine gf_X3_18 X eX3_moveDot_18 (by omega) e0 ?_
  refine r_iload X eX3_moveDot_21 rfl ?_
  refine r_aload_n X eX3_moveDot_23 rfl ?_
  refine gf_X3_18 X eX3_moveDot_24 (by omega) e0 ?_
  refine r_iload X eX3_moveDot_27 rfl ?_
  refine r_iald X eX3_moveDot_29 (by omega) e1 (ix_lt hl hf) (by decide) ?_
  refine r_iast X eX3_moveDot_30 (by omega) e1 (ix_lt hl ht) (by decide) (fun w1 n1_w1 uu1 => ?_)
  have e0_w1 := (uu1 k (by omega)).trans e0
  have e2_w1 := (uu1 (k + 2) (by omega)).trans e2
  have fr_w1 : ∀ j, (j < k ∨ k + 3 ≤ j) → w1 j = w j := fun j hj => (uu1 j (by omega)).trans (fr_w j hj)
  refine r_aload_n X eX3_moveDot_31 rfl ?_
  refine gf_X3_22 X eX3_moveDot_32 (by omega) e0_w1 ?_
  refine r_iload X eX3_moveDot_35 rfl ?_
  refine r_aload_n X eX3_moveDot_37 rfl ?_
  refine gf_X3_22 X eX3_moveDot_38 (by omega) e0_w1 ?_
  refine r_iload X eX3_moveDot_41 rfl ?_
  refine r_iald X eX3_moveDot_43 (by omega) e2_w1 (ix_lt hl hf) (by decide) ?_
  refine r_iast X eX3_moveDot_44 (by omega) e2_w1 (ix_lt hl ht) (by decide) (fun w2 n2_w2 uu2 => ?_)
  have e0_w2 := (uu2 k (by omega)).trans e0_w1
  have n1_w2 := (uu2 (k + 1) (by omega)).trans n1_w1
  have fr_w2 : ∀ j, (j < k ∨ k + 3 ≤ j) → w2 j = w j := fun j hj => (uu2 j (by omega)).trans (fr_w1 j hj)
  exact ret _ _ _ _ eX3_moveDot_45 (⟨⟨e0_w2, n1_w2, n2_w2, q1, q2, q3, q4, q5⟩, fr_w2⟩)
set_option maxHeartbeats 4000000 in
set_option maxRecDepth 100000 in
theorem c_X3_broaden_m (l : Launch) (G : Gs) (b N : Nat) (w : Wd) (k : Nat) (hk : k + 3 ≤ N) (wd hg lw : Nat) (ga ma : Nat → Int32) (hp : isPic G b w k wd hg lw ga ma) (way : Nat) (hw : way < 2) (hb : 2 < br way wd hg) : CV l yX3_broaden cX3_broaden 3 0 G b N w [.ref (b + k), .int (nI way), .int ((-1 : Int32))] (fun w2 => isPic G b w2 k (wd - (1 - way)) (hg - way) lw ga ma ∧ ∀ j, (j < k ∨ k + 3 ≤ j) → w2 j = w j) := by
  obtain ⟨e0, e1, e2, q1, q2, q3, q4, q5⟩ := hp
  refine CV_of (L0 := [some (.ref (b + k)), some (.int (nI way)), some (.int ((-1 : Int32)))]) (by decide) rfl (by simp [Value.category]) rfl (Nat.le_of_ble_eq_true rfl) (fun κ X ret => ?_)
  have fr_w : ∀ j, (j < k ∨ k + 3 ≤ j) → w j = w j := fun _ _ => rfl
  refine r_iload_n X eX3_broaden_0 rfl ?_
  refine r_if_ne (tgt := 17) X eX3_broaden_1 (by decide) (nI_toInt (by omega)) (fun c_1 => ?_) (fun c_1 => ?_)
  ·
    have hw1 : way = 1 := by omega
    subst hw1
    have hb2 : br 1 wd hg = hg := rfl
    refine r_aload_n X eX3_broaden_17 rfl ?_
    refine r_dup X eX3_broaden_18 rfl ?_
    refine gf_X3_15 X eX3_broaden_19 (by omega) e0 ?_
    refine r_iload_n X eX3_broaden_22 rfl ?_
    refine r_iadd X eX3_broaden_23 (nI (hg - 1)) (nI_m1 (by omega)) ?_
    refine pf_X3_15 X eX3_broaden_24 (by omega) e0 (fun w2 n2_w2 uu2 => ?_)
    have e1_w2 := (uu2 (k + 1) (by omega)).trans e1
    have e2_w2 := (uu2 (k + 2) (by omega)).trans e2
    have fr_w2 : ∀ j, (j < k ∨ k + 3 ≤ j) → w2 j = w j := fun j hj => (uu2 j (by omega)).trans (fr_w j hj)
    exact ret _ _ _ _ eX3_broaden_27 (⟨⟨n2_w2, e1_w2, e2_w2, by omega, by omega, by omega, by omega, q5⟩, fr_w2⟩)
  ·
    have hw0 : way = 0 := by omega
    subst hw0
    have hb2 : br 0 wd hg = wd := rfl
    refine r_aload_n X eX3_broaden_4 rfl ?_
    refine r_dup X eX3_broaden_5 rfl ?_
    refine gf_X3_9 X eX3_broaden_6 (by omega) e0 ?_
    refine r_iload_n X eX3_broaden_9 rfl ?_
    refine r_iadd X eX3_broaden_10 (nI (wd - 1)) (nI_m1 (by omega)) ?_
    refine pf_X3_9 X eX3_broaden_11 (by omega) e0 (fun w3 n3_w3 uu3 => ?_)
    have e1_w3 := (uu3 (k + 1) (by omega)).trans e1
    have e2_w3 := (uu3 (k + 2) (by omega)).trans e2
    have fr_w3 : ∀ j, (j < k ∨ k + 3 ≤ j) → w3 j = w j := fun j hj => (uu3 j (by omega)).trans (fr_w j hj)
    refine r_goto (tgt := 27) X eX3_broaden_14 (by decide) ?_
    exact ret _ _ _ _ eX3_broaden_27 (⟨⟨n3_w3, e1_w3, e2_w3, by omega, by omega, by omega, by omega, q5⟩, fr_w3⟩)
set_option maxHeartbeats 4000000 in
set_option maxRecDepth 100000 in
theorem c_X3_broaden_p (l : Launch) (G : Gs) (b N : Nat) (w : Wd) (k : Nat) (hk : k + 3 ≤ N) (wd hg lw : Nat) (ga ma : Nat → Int32) (hp : isPic G b w k wd hg lw ga ma) (way : Nat) (hw : way < 2) (hb : br way wd hg < 8) : CV l yX3_broaden cX3_broaden 3 0 G b N w [.ref (b + k), .int (nI way), .int (nI 1)] (fun w2 => isPic G b w2 k (wd + (1 - way)) (hg + way) lw ga ma ∧ ∀ j, (j < k ∨ k + 3 ≤ j) → w2 j = w j) := by
  obtain ⟨e0, e1, e2, q1, q2, q3, q4, q5⟩ := hp
  refine CV_of (L0 := [some (.ref (b + k)), some (.int (nI way)), some (.int (nI 1))]) (by decide) rfl (by simp [Value.category]) rfl (Nat.le_of_ble_eq_true rfl) (fun κ X ret => ?_)
  have fr_w : ∀ j, (j < k ∨ k + 3 ≤ j) → w j = w j := fun _ _ => rfl
  refine r_iload_n X eX3_broaden_0 rfl ?_
  refine r_if_ne (tgt := 17) X eX3_broaden_1 (by decide) (nI_toInt (by omega)) (fun c_1 => ?_) (fun c_1 => ?_)
  ·
    have hw1 : way = 1 := by omega
    subst hw1
    have hb2 : br 1 wd hg = hg := rfl
    refine r_aload_n X eX3_broaden_17 rfl ?_
    refine r_dup X eX3_broaden_18 rfl ?_
    refine gf_X3_15 X eX3_broaden_19 (by omega) e0 ?_
    refine r_iload_n X eX3_broaden_22 rfl ?_
    refine r_iadd X eX3_broaden_23 (nI (hg + 1)) (addN rfl) ?_
    refine pf_X3_15 X eX3_broaden_24 (by omega) e0 (fun w2 n2_w2 uu2 => ?_)
    have e1_w2 := (uu2 (k + 1) (by omega)).trans e1
    have e2_w2 := (uu2 (k + 2) (by omega)).trans e2
    have fr_w2 : ∀ j, (j < k ∨ k + 3 ≤ j) → w2 j = w j := fun j hj => (uu2 j (by omega)).trans (fr_w j hj)
    exact ret _ _ _ _ eX3_broaden_27 (⟨⟨n2_w2, e1_w2, e2_w2, by omega, by omega, by omega, by omega, q5⟩, fr_w2⟩)
  ·
    have hw0 : way = 0 := by omega
    subst hw0
    have hb2 : br 0 wd hg = wd := rfl
    refine r_aload_n X eX3_broaden_4 rfl ?_
    refine r_dup X eX3_broaden_5 rfl ?_
    refine gf_X3_9 X eX3_broaden_6 (by omega) e0 ?_
    refine r_iload_n X eX3_broaden_9 rfl ?_
    refine r_iadd X eX3_broaden_10 (nI (wd + 1)) (addN rfl) ?_
    refine pf_X3_9 X eX3_broaden_11 (by omega) e0 (fun w3 n3_w3 uu3 => ?_)
    have e1_w3 := (uu3 (k + 1) (by omega)).trans e1
    have e2_w3 := (uu3 (k + 2) (by omega)).trans e2
    have fr_w3 : ∀ j, (j < k ∨ k + 3 ≤ j) → w3 j = w j := fun j hj => (uu3 j (by omega)).trans (fr_w j hj)
    refine r_goto (tgt := 27) X eX3_broaden_14 (by decide) ?_
    exact ret _ _ _ _ eX3_broaden_27 (⟨⟨n3_w3, e1_w3, e2_w3, by omega, by omega, by omega, by omega, q5⟩, fr_w3⟩)
end
section
theorem upd2_c {A M ga ma : Nat → Int32} {i j : Nat} (h : ∀ j, j < i → A j = ga j ∧ M j = ma j) (hj : j < i + 1) : upd A i (ga i) j = ga j ∧ upd M i (ma i) j = ma j := by
  by_cases e : j = i
  · subst e; exact ⟨upd_self, upd_self⟩
  · rw [upd_ne e, upd_ne e]; exact h j (by omega)
theorem upd2_0 {A M : Nat → Int32} {i j : Nat} (h : ∀ j, j < i → A j = 0 ∧ M j = 0) (hj : j < i + 1) : upd A i 0 j = 0 ∧ upd M i 0 j = 0 := upd2_c (ga := fun _ => 0) (ma := fun _ => 0) h hj
set_option maxHeartbeats 4000000 in
set_option maxRecDepth 100000 in
theorem c_X3_takeOut (l : Launch) (G : Gs) (b N : Nat) (w : Wd) (k : Nat) (hk : k + 3 ≤ N) (wd hg lw : Nat) (ga ma : Nat → Int32) (hp : isPic G b w k wd hg lw ga ma) (ks way : Nat) (hks : ks + 4 ≤ N) (hdj : ks + 4 ≤ k ∨ k + 3 ≤ ks) (hw : way < 2) (tot : Int32) (pl ce go : Nat → Int32) (hs : isSm G b w ks way tot pl ce go) (s : Nat → Nat) (hpl : okP pl s (li way wd hg) (br way wd hg)) (hb : 2 < br way wd hg) : CV l yX3_takeOut cX3_takeOut 5 2 G b N w [.ref (b + k), .ref (b + ks)] (fun w2 => ∃ ga2 ma2, isPic G b w2 k (wd - (1 - way)) (hg - way) lw ga2 ma2 ∧ (∀ l p, l < li way wd hg → p < br way wd hg - 1 → vg way ga2 l p = shS s (vg way ga) l p ∧ vg way ma2 l p = shS s (vg way ma) l p) ∧ ∀ j, (j < k ∨ k + 3 ≤ j) → w2 j = w j) := by
  obtain ⟨e0, e1, e2, q1, q2, q3, q4, q5⟩ := hp
  obtain ⟨f0, f1, f2, f3⟩ := hs
  have hbr := br_or way wd hg
  have hli := li_or way wd hg
  refine CV_of (L0 := [some (.ref (b + k)), some (.ref (b + ks)), none, none, none]) (by decide) rfl (by simp [Value.category]) rfl (Nat.le_of_ble_eq_true rfl) (fun κ X ret => ?_)
  have fr_w : ∀ j, (j < k ∨ k + 3 ≤ j) → w j = w j := fun _ _ => rfl
  refine r_aload_n X eX3_takeOut_0 rfl ?_
  refine r_aload_n X eX3_takeOut_1 rfl ?_
  refine gf_X3_66 X eX3_takeOut_2 (by omega) f0 ?_
  refine cp_X3_38 X eX3_takeOut_5 (c_X3_breadth _ G b N w k hk wd hg lw ga ma ⟨e0, e1, e2, q1, q2, q3, q4, q5⟩ way (by omega)) (by decide) (by omega) e0 rfl (Nat.le_of_ble_eq_true rfl) ?_
  refine r_iconst X eX3_takeOut_8 (nI 1) (by decide) ?_
  refine r_isub X eX3_takeOut_9 (nI ((br way wd hg) - 1)) (pk_sub (by omega)) ?_
  refine r_istore_n X eX3_takeOut_10 (Nat.le_of_ble_eq_true rfl) (L2 := [some (.ref (b + k)), some (.ref (b + ks)), some (.int (nI ((br way wd hg) - 1))), none, none]) rfl ?_
  refine r_iconst X eX3_takeOut_11 (nI 0) (by decide) ?_
  refine r_istore_n X eX3_takeOut_12 (Nat.le_of_ble_eq_true rfl) (L2 := [some (.ref (b + k)), some (.ref (b + ks)), some (.int (nI ((br way wd hg) - 1))), some (.int (nI 0)), none]) rfl ?_
  have lp1 : ∀ (n : Nat) (y : Nat) (A M : Nat → Int32) (w1 : Wd), (y ≤ li way wd hg) → (CutI way ga s (li way wd hg) (br way wd hg) y 0 A) → (CutI way ma s (li way wd hg) (br way wd hg) y 0 M) → (w1 k = .inr (3, [.int (nI wd), .int (nI hg), .int (nI lw), .ref (b + (k + 1)), .ref (b + (k + 2))])) → (w1 (k + 1) = aI G 64 A) → (w1 (k + 2) = aI G 64 M) → (w1 ks = .inr (4, [.int (nI way), .int tot, .ref (b + (ks + 1)), .ref (b + (ks + 2)), .ref (b + (ks + 3))])) → (w1 (ks + 1) = aI G 8 pl) → (w1 (ks + 2) = aI G 64 ce) → (w1 (ks + 3) = aI G 64 go) → (∀ j, (j < k ∨ k + 3 ≤ j) → w1 j = w j) → li way wd hg - y < n → V κ G b (N, 0, 0) w1 13 [some (.ref (b + k)), some (.ref (b + ks)), some (.int (nI ((br way wd hg) - 1))), some (.int (nI y)), none] [] := by
    intro n
    induction n with
    | zero => intro y A M w1 hy hA hM e0_w1 e1_w1 e2_w1 f0_w1 f1_w1 f2_w1 f3_w1 fr_w1 hm; exact absurd hm (Nat.not_lt_zero _)
    | succ n ih1 =>
      intro y A M w1 hy hA hM e0_w1 e1_w1 e2_w1 f0_w1 f1_w1 f2_w1 f3_w1 fr_w1 hm
      refine r_iload_n X eX3_takeOut_13 rfl ?_
      refine r_aload_n X eX3_takeOut_14 rfl ?_
      refine r_aload_n X eX3_takeOut_15 rfl ?_
      refine gf_X3_66 X eX3_takeOut_16 (by omega) f0_w1 ?_
      refine cp_X3_71 X eX3_takeOut_19 (c_X3_lines _ G b N w1 k hk wd hg lw A M ⟨e0_w1, e1_w1, e2_w1, q1, q2, q3, q4, q5⟩ way (by omega)) (by decide) (by omega) e0_w1 rfl (Nat.le_of_ble_eq_true rfl) ?_
      refine r_icmp_ge (tgt := 66) X eX3_takeOut_22 (by decide) (nI_toInt (by omega)) (nI_toInt (by omega)) (fun c_2 => ?_) (fun c_2 => ?_)
      ·
        refine r_aload_n X eX3_takeOut_66 rfl ?_
        refine r_aload_n X eX3_takeOut_67 rfl ?_
        refine gf_X3_66 X eX3_takeOut_68 (by omega) f0_w1 ?_
        refine r_iconst X eX3_takeOut_71 ((-1 : Int32)) (by decide) ?_
        refine cv_X3_81 X eX3_takeOut_72 (c_X3_broaden_m _ G b N w1 k hk wd hg lw A M ⟨e0_w1, e1_w1, e2_w1, q1, q2, q3, q4, q5⟩ way hw hb) (by decide) (by omega) e0_w1 rfl (Nat.le_of_ble_eq_true rfl) (fun w3 hp3 => ?_)
        obtain ⟨⟨x0_3, x1_3, x2_3, t1, t2, t3, t4, t5⟩, g3⟩ := hp3
        have f0_w3 := (g3 ks (by omega)).trans f0_w1
        have f1_w3 := (g3 (ks + 1) (by omega)).trans f1_w1
        have f2_w3 := (g3 (ks + 2) (by omega)).trans f2_w1
        have f3_w3 := (g3 (ks + 3) (by omega)).trans f3_w1
        have m4_w3 := x0_3
        have m5_w3 := x1_3
        have m6_w3 := x2_3
        have fr_w3 : ∀ j, (j < k ∨ k + 3 ≤ j) → w3 j = w j := fun j hj => (g3 j (by omega)).trans (fr_w1 j hj)
        exact ret _ _ _ _ eX3_takeOut_75 (⟨A, M, ⟨m4_w3, m5_w3, m6_w3, t1, t2, t3, t4, t5⟩, fun l p h1 h2 => ⟨CutI_end (by omega) hA l p h1 h2, CutI_end (by omega) hM l p h1 h2⟩, fr_w3⟩)
      ·
        have hsy := (hpl y (by omega)).2
        refine r_aload_n X eX3_takeOut_25 rfl ?_
        refine gf_X3_74 X eX3_takeOut_26 (by omega) f0_w1 ?_
        refine r_iload_n X eX3_takeOut_29 rfl ?_
        refine r_iald X eX3_takeOut_30 (by omega) f1_w1 (by omega) (by decide) ?_
        refine r_top (y := nI (s y)) (hpl y (by omega)).1 ?_
        refine r_istore X eX3_takeOut_31 (Nat.le_of_ble_eq_true rfl) (L2 := [some (.ref (b + k)), some (.ref (b + ks)), some (.int (nI ((br way wd hg) - 1))), some (.int (nI y)), some (.int (nI (s y)))]) rfl ?_
        have lp7 : ∀ (n : Nat) (p : Nat) (A2 M2 : Nat → Int32) (w7 : Wd), (s y ≤ p) → (p ≤ br way wd hg - 1) → (CutI way ga s (li way wd hg) (br way wd hg) y p A2) → (CutI way ma s (li way wd hg) (br way wd hg) y p M2) → (w7 k = .inr (3, [.int (nI wd), .int (nI hg), .int (nI lw), .ref (b + (k + 1)), .ref (b + (k + 2))])) → (w7 (k + 1) = aI G 64 A2) → (w7 (k + 2) = aI G 64 M2) → (w7 ks = .inr (4, [.int (nI way), .int tot, .ref (b + (ks + 1)), .ref (b + (ks + 2)), .ref (b + (ks + 3))])) → (w7 (ks + 1) = aI G 8 pl) → (w7 (ks + 2) = aI G 64 ce) → (w7 (ks + 3) = aI G 64 go) → (∀ j, (j < k ∨ k + 3 ≤ j) → w7 j = w j) → br way wd hg - p < n → V κ G b (N, 0, 0) w7 33 [some (.ref (b + k)), some (.ref (b + ks)), some (.int (nI ((br way wd hg) - 1))), some (.int (nI y)), some (.int (nI p))] [] := by
          intro n
          induction n with
          | zero => intro p A2 M2 w7 hp1 hp2 hA2 hM2 e0_w7 e1_w7 e2_w7 f0_w7 f1_w7 f2_w7 f3_w7 fr_w7 hm; exact absurd hm (Nat.not_lt_zero _)
          | succ n ih7 =>
            intro p A2 M2 w7 hp1 hp2 hA2 hM2 e0_w7 e1_w7 e2_w7 f0_w7 f1_w7 f2_w7 f3_w7 fr_w7 hm
            refine r_iload X eX3_takeOut_33 rfl ?_
            refine r_iload_n X eX3_takeOut_35 rfl ?_
            refine r_icmp_ge (tgt := 60) X eX3_takeOut_36 (by decide) (nI_toInt (by omega)) (nI_toInt (by omega)) (fun c_8 => ?_) (fun c_8 => ?_)
            ·
              refine r_iinc X eX3_takeOut_60 rfl (nI (y + 1)) (inc_nI _) (L2 := [some (.ref (b + k)), some (.ref (b + ks)), some (.int (nI ((br way wd hg) - 1))), some (.int (nI (y + 1))), some (.int (nI p))]) rfl ?_
              refine r_goto (tgt := 13) X eX3_takeOut_63 (by decide) ?_
              refine r_fg 4 (L2 := [some (.ref (b + k)), some (.ref (b + ks)), some (.int (nI ((br way wd hg) - 1))), some (.int (nI (y + 1))), none]) rfl ?_
              exact ih1 (y + 1) A2 M2 w7 (by omega) (CutI_out (by omega) hA2) (CutI_out (by omega) hM2) e0_w7 e1_w7 e2_w7 f0_w7 f1_w7 f2_w7 f3_w7 fr_w7 (by omega)
            ·
              refine r_aload_n X eX3_takeOut_39 rfl ?_
              refine r_aload_n X eX3_takeOut_40 rfl ?_
              refine gf_X3_66 X eX3_takeOut_41 (by omega) f0_w7 ?_
              refine r_iload_n X eX3_takeOut_44 rfl ?_
              refine r_iload X eX3_takeOut_45 rfl ?_
              refine r_iconst X eX3_takeOut_47 (nI 1) (by decide) ?_
              refine r_iadd X eX3_takeOut_48 (nI (p + 1)) (addN (by omega)) ?_
              refine r_iload X eX3_takeOut_49 rfl ?_
              refine cv_X3_77 X eX3_takeOut_51 (c_X3_moveDot _ G b N w7 k hk wd hg lw A2 M2 ⟨e0_w7, e1_w7, e2_w7, q1, q2, q3, q4, q5⟩ way y (p + 1) p hw (by omega) (by omega) (by omega)) (by decide) (by omega) e0_w7 rfl (Nat.le_of_ble_eq_true rfl) (fun w9 hp9 => ?_)
              obtain ⟨⟨x0_9, x1_9, x2_9, -, -, -, -, -⟩, g9⟩ := hp9
              have f0_w9 := (g9 ks (by omega)).trans f0_w7
              have f1_w9 := (g9 (ks + 1) (by omega)).trans f1_w7
              have f2_w9 := (g9 (ks + 2) (by omega)).trans f2_w7
              have f3_w9 := (g9 (ks + 3) (by omega)).trans f3_w7
              have m10_w9 := x0_9
              have m11_w9 := x1_9
              have m12_w9 := x2_9
              have fr_w9 : ∀ j, (j < k ∨ k + 3 ≤ j) → w9 j = w j := fun j hj => (g9 j (by omega)).trans (fr_w7 j hj)
              refine r_iinc X eX3_takeOut_54 rfl (nI (p + 1)) (inc_nI _) (L2 := [some (.ref (b + k)), some (.ref (b + ks)), some (.int (nI ((br way wd hg) - 1))), some (.int (nI y)), some (.int (nI (p + 1)))]) rfl ?_
              refine r_goto (tgt := 33) X eX3_takeOut_57 (by decide) ?_
              exact ih7 (p + 1) (upd A2 (ix way y p) (A2 (ix way y (p + 1)))) (upd M2 (ix way y p) (M2 (ix way y (p + 1)))) w9 (by omega) (by omega) (CutI_st (by omega) (by omega) (by omega) (by omega) (by omega) hA2) (CutI_st (by omega) (by omega) (by omega) (by omega) (by omega) hM2) m10_w9 m11_w9 m12_w9 f0_w9 f1_w9 f2_w9 f3_w9 fr_w9 (by omega)
        exact lp7 _ (s y) A M w1 (by omega) (by omega) (CutI_in hA) (CutI_in hM) e0_w1 e1_w1 e2_w1 f0_w1 f1_w1 f2_w1 f3_w1 fr_w1 (Nat.lt_succ_self _)
  exact lp1 _ 0 ga ma w (by omega) CutI_0 CutI_0 e0 e1 e2 f0 f1 f2 f3 fr_w (Nat.lt_succ_self _)
set_option maxHeartbeats 4000000 in
set_option maxRecDepth 100000 in
theorem c_X3_putIn (l : Launch) (G : Gs) (b N : Nat) (w : Wd) (k : Nat) (hk : k + 3 ≤ N) (wd hg lw : Nat) (ga ma : Nat → Int32) (hp : isPic G b w k wd hg lw ga ma) (ks way : Nat) (hks : ks + 4 ≤ N) (hdj : ks + 4 ≤ k ∨ k + 3 ≤ ks) (hw : way < 2) (tot : Int32) (pl ce go : Nat → Int32) (hs : isSm G b w ks way tot pl ce go) (s : Nat → Nat) (hpl : okP pl s (li way wd hg) (br way wd hg)) (hb : br way wd hg < 8) : CV l yX3_putIn cX3_putIn 8 2 G b N w [.ref (b + k), .ref (b + ks)] (fun w2 => ∃ ga2 ma2, isPic G b w2 k (wd + (1 - way)) (hg + way) lw ga2 ma2 ∧ (∀ l p, l < li way wd hg → p < br way wd hg + 1 → vg way ga2 l p = adS s (midS s (br way wd hg) (vg way ga)) (vg way ga) l p ∧ vg way ma2 l p = adS s (fun _ => 0) (vg way ma) l p) ∧ ∀ j, (j < k ∨ k + 3 ≤ j) → w2 j = w j) := by
  obtain ⟨e0, e1, e2, q1, q2, q3, q4, q5⟩ := hp
  obtain ⟨f0, f1, f2, f3⟩ := hs
  have hbr := br_or way wd hg
  have hli := li_or way wd hg
  refine CV_of (L0 := [some (.ref (b + k)), some (.ref (b + ks)), none, none, none, none, none, none]) (by decide) rfl (by simp [Value.category]) rfl (Nat.le_of_ble_eq_true rfl) (fun κ X ret => ?_)
  have fr_w : ∀ j, (j < k ∨ k + 3 ≤ j) → w j = w j := fun _ _ => rfl
  refine r_aload_n X eX3_putIn_0 rfl ?_
  refine r_aload_n X eX3_putIn_1 rfl ?_
  refine gf_X3_66 X eX3_putIn_2 (by omega) f0 ?_
  refine cp_X3_38 X eX3_putIn_5 (c_X3_breadth _ G b N w k hk wd hg lw ga ma ⟨e0, e1, e2, q1, q2, q3, q4, q5⟩ way (by omega)) (by decide) (by omega) e0 rfl (Nat.le_of_ble_eq_true rfl) ?_
  refine r_istore_n X eX3_putIn_8 (Nat.le_of_ble_eq_true rfl) (L2 := [some (.ref (b + k)), some (.ref (b + ks)), some (.int (nI (br way wd hg))), none, none, none, none, none]) rfl ?_
  refine r_iconst X eX3_putIn_9 (nI 0) (by decide) ?_
  refine r_istore_n X eX3_putIn_10 (Nat.le_of_ble_eq_true rfl) (L2 := [some (.ref (b + k)), some (.ref (b + ks)), some (.int (nI (br way wd hg))), some (.int (nI 0)), none, none, none, none]) rfl ?_
  have lp1 : ∀ (n : Nat) (y : Nat) (A M : Nat → Int32) (w1 : Wd), (y ≤ li way wd hg) → (AddI way ga s (midS s (br way wd hg) (vg way ga)) (li way wd hg) (br way wd hg) y (br way wd hg) A) → (AddI way ma s (fun _ => 0) (li way wd hg) (br way wd hg) y (br way wd hg) M) → (w1 k = .inr (3, [.int (nI wd), .int (nI hg), .int (nI lw), .ref (b + (k + 1)), .ref (b + (k + 2))])) → (w1 (k + 1) = aI G 64 A) → (w1 (k + 2) = aI G 64 M) → (w1 ks = .inr (4, [.int (nI way), .int tot, .ref (b + (ks + 1)), .ref (b + (ks + 2)), .ref (b + (ks + 3))])) → (w1 (ks + 1) = aI G 8 pl) → (w1 (ks + 2) = aI G 64 ce) → (w1 (ks + 3) = aI G 64 go) → (∀ j, (j < k ∨ k + 3 ≤ j) → w1 j = w j) → li way wd hg - y < n → V κ G b (N, 0, 0) w1 11 [some (.ref (b + k)), some (.ref (b + ks)), some (.int (nI (br way wd hg))), some (.int (nI y)), none, none, none, none] [] := by
    intro n
    induction n with
    | zero => intro y A M w1 hy hA hM e0_w1 e1_w1 e2_w1 f0_w1 f1_w1 f2_w1 f3_w1 fr_w1 hm; exact absurd hm (Nat.not_lt_zero _)
    | succ n ih1 =>
      intro y A M w1 hy hA hM e0_w1 e1_w1 e2_w1 f0_w1 f1_w1 f2_w1 f3_w1 fr_w1 hm
      refine r_iload_n X eX3_putIn_11 rfl ?_
      refine r_aload_n X eX3_putIn_12 rfl ?_
      refine r_aload_n X eX3_putIn_13 rfl ?_
      refine gf_X3_66 X eX3_putIn_14 (by omega) f0_w1 ?_
      refine cp_X3_71 X eX3_putIn_17 (c_X3_lines _ G b N w1 k hk wd hg lw A M ⟨e0_w1, e1_w1, e2_w1, q1, q2, q3, q4, q5⟩ way (by omega)) (by decide) (by omega) e0_w1 rfl (Nat.le_of_ble_eq_true rfl) ?_
      refine r_icmp_ge (tgt := 140) X eX3_putIn_20 (by decide) (nI_toInt (by omega)) (nI_toInt (by omega)) (fun c_2 => ?_) (fun c_2 => ?_)
      ·
        refine r_aload_n X eX3_putIn_140 rfl ?_
        refine r_aload_n X eX3_putIn_141 rfl ?_
        refine gf_X3_66 X eX3_putIn_142 (by omega) f0_w1 ?_
        refine r_iconst X eX3_putIn_145 (nI 1) (by decide) ?_
        refine cv_X3_81 X eX3_putIn_146 (c_X3_broaden_p _ G b N w1 k hk wd hg lw A M ⟨e0_w1, e1_w1, e2_w1, q1, q2, q3, q4, q5⟩ way hw hb) (by decide) (by omega) e0_w1 rfl (Nat.le_of_ble_eq_true rfl) (fun w3 hp3 => ?_)
        obtain ⟨⟨x0_3, x1_3, x2_3, t1, t2, t3, t4, t5⟩, g3⟩ := hp3
        have f0_w3 := (g3 ks (by omega)).trans f0_w1
        have f1_w3 := (g3 (ks + 1) (by omega)).trans f1_w1
        have f2_w3 := (g3 (ks + 2) (by omega)).trans f2_w1
        have f3_w3 := (g3 (ks + 3) (by omega)).trans f3_w1
        have m4_w3 := x0_3
        have m5_w3 := x1_3
        have m6_w3 := x2_3
        have fr_w3 : ∀ j, (j < k ∨ k + 3 ≤ j) → w3 j = w j := fun j hj => (g3 j (by omega)).trans (fr_w1 j hj)
        exact ret _ _ _ _ eX3_putIn_149 (⟨A, M, ⟨m4_w3, m5_w3, m6_w3, t1, t2, t3, t4, t5⟩, fun l p h1 h2 => ⟨AddI_end (by omega) hA l p h1 h2, AddI_end (by omega) hM l p h1 h2⟩, fr_w3⟩)
      ·
        have hsy := (hpl y (by omega)).2
        refine r_aload_n X eX3_putIn_23 rfl ?_
        refine gf_X3_74 X eX3_putIn_24 (by omega) f0_w1 ?_
        refine r_iload_n X eX3_putIn_27 rfl ?_
        refine r_iald X eX3_putIn_28 (by omega) f1_w1 (by omega) (by decide) ?_
        refine r_top (y := nI (s y)) (hpl y (by omega)).1 ?_
        refine r_istore X eX3_putIn_29 (Nat.le_of_ble_eq_true rfl) (L2 := [some (.ref (b + k)), some (.ref (b + ks)), some (.int (nI (br way wd hg))), some (.int (nI y)), some (.int (nI (s y))), none, none, none]) rfl ?_
        refine r_iload X eX3_putIn_31 rfl ?_
        refine r_iconst X eX3_putIn_33 (nI 1) (by decide) ?_
        refine r_iadd X eX3_putIn_34 (nI (s y + 1)) (addN (by omega)) ?_
        refine r_iload_n X eX3_putIn_35 rfl ?_
        refine r_iconst X eX3_putIn_36 (nI 1) (by decide) ?_
        refine r_isub X eX3_putIn_37 (nI ((br way wd hg) - 1)) (pk_sub (by omega)) ?_
        refine mn_X3_42 X eX3_putIn_38 rfl (Nat.le_of_ble_eq_true rfl) (nI (min (s y + 1) ((br way wd hg) - 1))) (minN (by omega) (by omega)) ?_
        refine r_istore X eX3_putIn_41 (Nat.le_of_ble_eq_true rfl) (L2 := [some (.ref (b + k)), some (.ref (b + ks)), some (.int (nI (br way wd hg))), some (.int (nI y)), some (.int (nI (s y))), some (.int (nI (min (s y + 1) ((br way wd hg) - 1)))), none, none]) rfl ?_
        refine r_aload_n X eX3_putIn_43 rfl ?_
        refine r_aload_n X eX3_putIn_44 rfl ?_
        refine gf_X3_66 X eX3_putIn_45 (by omega) f0_w1 ?_
        refine r_iload_n X eX3_putIn_48 rfl ?_
        refine r_iload X eX3_putIn_49 rfl ?_
        refine cp_X3_60 X eX3_putIn_51 (c_X3_greyAt _ G b N w1 k hk wd hg lw A M ⟨e0_w1, e1_w1, e2_w1, q1, q2, q3, q4, q5⟩ way y (s y) hw (by omega) (by omega)) (by decide) (by omega) e0_w1 rfl (Nat.le_of_ble_eq_true rfl) ?_
        refine r_top (y := vg way ga y (s y)) (AddI_old (by omega) hsy (by omega) hA) ?_
        refine r_aload_n X eX3_putIn_54 rfl ?_
        refine r_aload_n X eX3_putIn_55 rfl ?_
        refine gf_X3_66 X eX3_putIn_56 (by omega) f0_w1 ?_
        refine r_iload_n X eX3_putIn_59 rfl ?_
        refine r_iload X eX3_putIn_60 rfl ?_
        refine cp_X3_60 X eX3_putIn_62 (c_X3_greyAt _ G b N w1 k hk wd hg lw A M ⟨e0_w1, e1_w1, e2_w1, q1, q2, q3, q4, q5⟩ way y (min (s y + 1) (br way wd hg - 1)) hw (by omega) (by omega)) (by decide) (by omega) e0_w1 rfl (Nat.le_of_ble_eq_true rfl) ?_
        refine r_top (y := vg way ga y (min (s y + 1) (br way wd hg - 1))) (AddI_old (by omega) (by omega) (by omega) hA) ?_
        refine r_iadd X eX3_putIn_65 ((vg way ga y (s y)) + (vg way ga y (min (s y + 1) (br way wd hg - 1)))) rfl ?_
        refine r_iconst X eX3_putIn_66 ((2 : Int32)) (by decide) ?_
        refine r_idiv X eX3_putIn_67 (by decide) (midS s (br way wd hg) (vg way ga) y) rfl ?_
        refine r_istore X eX3_putIn_68 (Nat.le_of_ble_eq_true rfl) (L2 := [some (.ref (b + k)), some (.ref (b + ks)), some (.int (nI (br way wd hg))), some (.int (nI y)), some (.int (nI (s y))), some (.int (nI (min (s y + 1) ((br way wd hg) - 1)))), some (.int (midS s (br way wd hg) (vg way ga) y)), none]) rfl ?_
        refine r_iload_n X eX3_putIn_70 rfl ?_
        refine r_istore X eX3_putIn_71 (Nat.le_of_ble_eq_true rfl) (L2 := [some (.ref (b + k)), some (.ref (b + ks)), some (.int (nI (br way wd hg))), some (.int (nI y)), some (.int (nI (s y))), some (.int (nI (min (s y + 1) ((br way wd hg) - 1)))), some (.int (midS s (br way wd hg) (vg way ga) y)), some (.int (nI (br way wd hg)))]) rfl ?_
        have lp7 : ∀ (n : Nat) (p : Nat) (A2 M2 : Nat → Int32) (w7 : Wd), (s y + 1 ≤ p) → (p ≤ br way wd hg) → (AddI way ga s (midS s (br way wd hg) (vg way ga)) (li way wd hg) (br way wd hg) y p A2) → (AddI way ma s (fun _ => 0) (li way wd hg) (br way wd hg) y p M2) → (w7 k = .inr (3, [.int (nI wd), .int (nI hg), .int (nI lw), .ref (b + (k + 1)), .ref (b + (k + 2))])) → (w7 (k + 1) = aI G 64 A2) → (w7 (k + 2) = aI G 64 M2) → (w7 ks = .inr (4, [.int (nI way), .int tot, .ref (b + (ks + 1)), .ref (b + (ks + 2)), .ref (b + (ks + 3))])) → (w7 (ks + 1) = aI G 8 pl) → (w7 (ks + 2) = aI G 64 ce) → (w7 (ks + 3) = aI G 64 go) → (∀ j, (j < k ∨ k + 3 ≤ j) → w7 j = w j) → p < n → V κ G b (N, 0, 0) w7 73 [some (.ref (b + k)), some (.ref (b + ks)), some (.int (nI (br way wd hg))), some (.int (nI y)), some (.int (nI (s y))), some (.int (nI (min (s y + 1) ((br way wd hg) - 1)))), some (.int (midS s (br way wd hg) (vg way ga) y)), some (.int (nI p))] [] := by
          intro n
          induction n with
          | zero => intro p A2 M2 w7 hp1 hp2 hA2 hM2 e0_w7 e1_w7 e2_w7 f0_w7 f1_w7 f2_w7 f3_w7 fr_w7 hm; exact absurd hm (Nat.not_lt_zero _)
          | succ n ih7 =>
            intro p A2 M2 w7 hp1 hp2 hA2 hM2 e0_w7 e1_w7 e2_w7 f0_w7 f1_w7 f2_w7 f3_w7 fr_w7 hm
            refine r_iload X eX3_putIn_73 rfl ?_
            refine r_iload X eX3_putIn_75 rfl ?_
            refine r_iconst X eX3_putIn_77 (nI 1) (by decide) ?_
            refine r_iadd X eX3_putIn_78 (nI (s y + 1)) (addN (by omega)) ?_
            refine r_icmp_le (tgt := 103) X eX3_putIn_79 (by decide) (nI_toInt (by omega)) (nI_toInt (by omega)) (fun c_8 => ?_) (fun c_8 => ?_)
            ·
              refine r_aload_n X eX3_putIn_103 rfl ?_
              refine gf_X3_66 X eX3_putIn_104 (by omega) f0_w7 ?_
              refine r_iload_n X eX3_putIn_107 rfl ?_
              refine r_iload X eX3_putIn_108 rfl ?_
              refine r_iconst X eX3_putIn_110 (nI 1) (by decide) ?_
              refine r_iadd X eX3_putIn_111 (nI (s y + 1)) (addN (by omega)) ?_
              refine cp_X3_28 X eX3_putIn_112 (c_X3_index _ G b N w7 way y (s y + 1) (by omega) (by omega) (by omega)) (by decide) rfl (Nat.le_of_ble_eq_true rfl) ?_
              refine r_istore X eX3_putIn_115 (Nat.le_of_ble_eq_true rfl) (L2 := [some (.ref (b + k)), some (.ref (b + ks)), some (.int (nI (br way wd hg))), some (.int (nI y)), some (.int (nI (s y))), some (.int (nI (min (s y + 1) ((br way wd hg) - 1)))), some (.int (midS s (br way wd hg) (vg way ga) y)), some (.int (nI (ix way y (s y + 1))))]) rfl ?_
              refine r_aload_n X eX3_putIn_117 rfl ?_
              refine gf_X3_18 X eX3_putIn_118 (by omega) e0_w7 ?_
              refine r_iload X eX3_putIn_121 rfl ?_
              refine r_iload X eX3_putIn_123 rfl ?_
              refine r_iast X eX3_putIn_125 (by omega) e1_w7 (ix_lt (by omega) (by omega)) (by decide) (fun w9 n9_w9 uu9 => ?_)
              have e0_w9 := (uu9 k (by omega)).trans e0_w7
              have e2_w9 := (uu9 (k + 2) (by omega)).trans e2_w7
              have f0_w9 := (uu9 ks (by omega)).trans f0_w7
              have f1_w9 := (uu9 (ks + 1) (by omega)).trans f1_w7
              have f2_w9 := (uu9 (ks + 2) (by omega)).trans f2_w7
              have f3_w9 := (uu9 (ks + 3) (by omega)).trans f3_w7
              have fr_w9 : ∀ j, (j < k ∨ k + 3 ≤ j) → w9 j = w j := fun j hj => (uu9 j (by omega)).trans (fr_w7 j hj)
              refine r_aload_n X eX3_putIn_126 rfl ?_
              refine gf_X3_22 X eX3_putIn_127 (by omega) e0_w9 ?_
              refine r_iload X eX3_putIn_130 rfl ?_
              refine r_iconst X eX3_putIn_132 ((0 : Int32)) (by decide) ?_
              refine r_iast X eX3_putIn_133 (by omega) e2_w9 (ix_lt (by omega) (by omega)) (by decide) (fun w10 n10_w10 uu10 => ?_)
              have e0_w10 := (uu10 k (by omega)).trans e0_w9
              have n9_w10 := (uu10 (k + 1) (by omega)).trans n9_w9
              have f0_w10 := (uu10 ks (by omega)).trans f0_w9
              have f1_w10 := (uu10 (ks + 1) (by omega)).trans f1_w9
              have f2_w10 := (uu10 (ks + 2) (by omega)).trans f2_w9
              have f3_w10 := (uu10 (ks + 3) (by omega)).trans f3_w9
              have fr_w10 : ∀ j, (j < k ∨ k + 3 ≤ j) → w10 j = w j := fun j hj => (uu10 j (by omega)).trans (fr_w9 j hj)
              refine r_iinc X eX3_putIn_134 rfl (nI (y + 1)) (inc_nI _) (L2 := [some (.ref (b + k)), some (.ref (b + ks)), some (.int (nI (br way wd hg))), some (.int (nI (y + 1))), some (.int (nI (s y))), some (.int (nI (min (s y + 1) ((br way wd hg) - 1)))), some (.int (midS s (br way wd hg) (vg way ga) y)), some (.int (nI (ix way y (s y + 1))))]) rfl ?_
              refine r_goto (tgt := 11) X eX3_putIn_137 (by decide) ?_
              refine r_fg 4 (L2 := [some (.ref (b + k)), some (.ref (b + ks)), some (.int (nI (br way wd hg))), some (.int (nI (y + 1))), none, some (.int (nI (min (s y + 1) ((br way wd hg) - 1)))), some (.int (midS s (br way wd hg) (vg way ga) y)), some (.int (nI (ix way y (s y + 1))))]) rfl ?_
              refine r_fg 5 (L2 := [some (.ref (b + k)), some (.ref (b + ks)), some (.int (nI (br way wd hg))), some (.int (nI (y + 1))), none, none, some (.int (midS s (br way wd hg) (vg way ga) y)), some (.int (nI (ix way y (s y + 1))))]) rfl ?_
              refine r_fg 6 (L2 := [some (.ref (b + k)), some (.ref (b + ks)), some (.int (nI (br way wd hg))), some (.int (nI (y + 1))), none, none, none, some (.int (nI (ix way y (s y + 1))))]) rfl ?_
              refine r_fg 7 (L2 := [some (.ref (b + k)), some (.ref (b + ks)), some (.int (nI (br way wd hg))), some (.int (nI (y + 1))), none, none, none, none]) rfl ?_
              exact ih1 (y + 1) (upd A2 (ix way y (s y + 1)) (midS s (br way wd hg) (vg way ga) y)) (upd M2 (ix way y (s y + 1)) ((0 : Int32))) w10 (by omega) (AddI_out (by omega) (by omega) (by omega) hsy (by omega) rfl hA2) (AddI_out (by omega) (by omega) (by omega) hsy (by omega) rfl hM2) e0_w10 n9_w10 n10_w10 f0_w10 f1_w10 f2_w10 f3_w10 fr_w10 (by omega)
            ·
              refine r_aload_n X eX3_putIn_82 rfl ?_
              refine r_aload_n X eX3_putIn_83 rfl ?_
              refine gf_X3_66 X eX3_putIn_84 (by omega) f0_w7 ?_
              refine r_iload_n X eX3_putIn_87 rfl ?_
              refine r_iload X eX3_putIn_88 rfl ?_
              refine r_iconst X eX3_putIn_90 (nI 1) (by decide) ?_
              refine r_isub X eX3_putIn_91 (nI (p - 1)) (pk_sub (by omega)) ?_
              refine r_iload X eX3_putIn_92 rfl ?_
              refine cv_X3_77 X eX3_putIn_94 (c_X3_moveDot _ G b N w7 k hk wd hg lw A2 M2 ⟨e0_w7, e1_w7, e2_w7, q1, q2, q3, q4, q5⟩ way y (p - 1) p hw (by omega) (by omega) (by omega)) (by decide) (by omega) e0_w7 rfl (Nat.le_of_ble_eq_true rfl) (fun w11 hp11 => ?_)
              obtain ⟨⟨x0_11, x1_11, x2_11, -, -, -, -, -⟩, g11⟩ := hp11
              have f0_w11 := (g11 ks (by omega)).trans f0_w7
              have f1_w11 := (g11 (ks + 1) (by omega)).trans f1_w7
              have f2_w11 := (g11 (ks + 2) (by omega)).trans f2_w7
              have f3_w11 := (g11 (ks + 3) (by omega)).trans f3_w7
              have m12_w11 := x0_11
              have m13_w11 := x1_11
              have m14_w11 := x2_11
              have fr_w11 : ∀ j, (j < k ∨ k + 3 ≤ j) → w11 j = w j := fun j hj => (g11 j (by omega)).trans (fr_w7 j hj)
              refine r_iinc X eX3_putIn_97 rfl (nI (p - 1)) ((dec_nI _).trans (nP_pos (by omega))) (L2 := [some (.ref (b + k)), some (.ref (b + ks)), some (.int (nI (br way wd hg))), some (.int (nI y)), some (.int (nI (s y))), some (.int (nI (min (s y + 1) ((br way wd hg) - 1)))), some (.int (midS s (br way wd hg) (vg way ga) y)), some (.int (nI (p - 1)))]) rfl ?_
              refine r_goto (tgt := 73) X eX3_putIn_100 (by decide) ?_
              exact ih7 (p - 1) (upd A2 (ix way y p) (A2 (ix way y (p - 1)))) (upd M2 (ix way y p) (M2 (ix way y (p - 1)))) w11 (by omega) (by omega) (AddI_st (by omega) (by omega) (by omega) (by omega) (by omega) hA2) (AddI_st (by omega) (by omega) (by omega) (by omega) (by omega) hM2) m12_w11 m13_w11 m14_w11 f0_w11 f1_w11 f2_w11 f3_w11 fr_w11 (by omega)
        exact lp7 _ (br way wd hg) A M w1 (by omega) (by omega) hA hM e0_w1 e1_w1 e2_w1 f0_w1 f1_w1 f2_w1 f3_w1 fr_w1 (Nat.lt_succ_self _)
  exact lp1 _ 0 ga ma w (by omega) AddI_0 AddI_0 e0 e1 e2 f0 f1 f2 f3 fr_w (Nat.lt_succ_self _)
set_option maxHeartbeats 4000000 in
set_option maxRecDepth 100000 in
theorem c_X3_blank (l : Launch) (G : Gs) (b N : Nat) (w : Wd) (k : Nat) (hk : k + 3 ≤ N) (wd hg lw : Nat) (ga ma : Nat → Int32) (hp : isPic G b w k wd hg lw ga ma) (nw nh : Nat) (h1 : 2 ≤ nw) (h2 : nw ≤ 8) (h3 : 2 ≤ nh) (h4 : nh ≤ 8) : CV l yX3_blank cX3_blank 4 0 G b N w [.ref (b + k), .int (nI nw), .int (nI nh)] (fun w2 => ∃ ga2 ma2, isPic G b w2 k nw nh lw ga2 ma2 ∧ (∀ j, j < 64 → ga2 j = 0 ∧ ma2 j = 0) ∧ ∀ j, (j < k ∨ k + 3 ≤ j) → w2 j = w j) := by
  obtain ⟨e0, e1, e2, q1, q2, q3, q4, q5⟩ := hp
  refine CV_of (L0 := [some (.ref (b + k)), some (.int (nI nw)), some (.int (nI nh)), none]) (by decide) rfl (by simp [Value.category]) rfl (Nat.le_of_ble_eq_true rfl) (fun κ X ret => ?_)
  have fr_w : ∀ j, (j < k ∨ k + 3 ≤ j) → w j = w j := fun _ _ => rfl
  refine r_aload_n X eX3_blank_0 rfl ?_
  refine r_iload_n X eX3_blank_1 rfl ?_
  refine pf_X3_9 X eX3_blank_2 (by omega) e0 (fun w1 n1_w1 uu1 => ?_)
  have e1_w1 := (uu1 (k + 1) (by omega)).trans e1
  have e2_w1 := (uu1 (k + 2) (by omega)).trans e2
  have fr_w1 : ∀ j, (j < k ∨ k + 3 ≤ j) → w1 j = w j := fun j hj => (uu1 j (by omega)).trans (fr_w j hj)
  refine r_aload_n X eX3_blank_5 rfl ?_
  refine r_iload_n X eX3_blank_6 rfl ?_
  refine pf_X3_15 X eX3_blank_7 (by omega) n1_w1 (fun w2 n2_w2 uu2 => ?_)
  have e1_w2 := (uu2 (k + 1) (by omega)).trans e1_w1
  have e2_w2 := (uu2 (k + 2) (by omega)).trans e2_w1
  have fr_w2 : ∀ j, (j < k ∨ k + 3 ≤ j) → w2 j = w j := fun j hj => (uu2 j (by omega)).trans (fr_w1 j hj)
  refine r_iconst X eX3_blank_10 (nI 0) (by decide) ?_
  refine r_istore_n X eX3_blank_11 (Nat.le_of_ble_eq_true rfl) (L2 := [some (.ref (b + k)), some (.int (nI nw)), some (.int (nI nh)), some (.int (nI 0))]) rfl ?_
  have lp3 : ∀ (n : Nat) (i : Nat) (A M : Nat → Int32) (w3 : Wd), (i ≤ 64) → (∀ j, j < i → A j = 0 ∧ M j = 0) → (w3 k = .inr (3, [.int (nI nw), .int (nI nh), .int (nI lw), .ref (b + (k + 1)), .ref (b + (k + 2))])) → (w3 (k + 1) = aI G 64 A) → (w3 (k + 2) = aI G 64 M) → (∀ j, (j < k ∨ k + 3 ≤ j) → w3 j = w j) → 64 - i < n → V κ G b (N, 0, 0) w3 12 [some (.ref (b + k)), some (.int (nI nw)), some (.int (nI nh)), some (.int (nI i))] [] := by
    intro n
    induction n with
    | zero => intro i A M w3 hi hz n2_w3 e1_w3 e2_w3 fr_w3 hm; exact absurd hm (Nat.not_lt_zero _)
    | succ n ih3 =>
      intro i A M w3 hi hz n2_w3 e1_w3 e2_w3 fr_w3 hm
      refine r_iload_n X eX3_blank_12 rfl ?_
      refine r_aload_n X eX3_blank_13 rfl ?_
      refine gf_X3_18 X eX3_blank_14 (by omega) n2_w3 ?_
      refine r_alen X eX3_blank_17 (by omega) e1_w3 ?_
      refine r_icmp_ge (tgt := 41) X eX3_blank_18 (by decide) (nI_toInt (by omega)) (nI_toInt (by omega)) (fun c_4 => ?_) (fun c_4 => ?_)
      ·
        exact ret _ _ _ _ eX3_blank_41 (⟨A, M, ⟨n2_w3, e1_w3, e2_w3, h1, h2, h3, h4, q5⟩, fun j hj => hz j (by omega), fr_w3⟩)
      ·
        refine r_aload_n X eX3_blank_21 rfl ?_
        refine gf_X3_18 X eX3_blank_22 (by omega) n2_w3 ?_
        refine r_iload_n X eX3_blank_25 rfl ?_
        refine r_iconst X eX3_blank_26 ((0 : Int32)) (by decide) ?_
        refine r_iast X eX3_blank_27 (by omega) e1_w3 (by omega) (by decide) (fun w5 n5_w5 uu5 => ?_)
        have n2_w5 := (uu5 k (by omega)).trans n2_w3
        have e2_w5 := (uu5 (k + 2) (by omega)).trans e2_w3
        have fr_w5 : ∀ j, (j < k ∨ k + 3 ≤ j) → w5 j = w j := fun j hj => (uu5 j (by omega)).trans (fr_w3 j hj)
        refine r_aload_n X eX3_blank_28 rfl ?_
        refine gf_X3_22 X eX3_blank_29 (by omega) n2_w5 ?_
        refine r_iload_n X eX3_blank_32 rfl ?_
        refine r_iconst X eX3_blank_33 ((0 : Int32)) (by decide) ?_
        refine r_iast X eX3_blank_34 (by omega) e2_w5 (by omega) (by decide) (fun w6 n6_w6 uu6 => ?_)
        have n2_w6 := (uu6 k (by omega)).trans n2_w5
        have n5_w6 := (uu6 (k + 1) (by omega)).trans n5_w5
        have fr_w6 : ∀ j, (j < k ∨ k + 3 ≤ j) → w6 j = w j := fun j hj => (uu6 j (by omega)).trans (fr_w5 j hj)
        refine r_iinc X eX3_blank_35 rfl (nI (i + 1)) (inc_nI _) (L2 := [some (.ref (b + k)), some (.int (nI nw)), some (.int (nI nh)), some (.int (nI (i + 1)))]) rfl ?_
        refine r_goto (tgt := 12) X eX3_blank_38 (by decide) ?_
        exact ih3 (i + 1) (upd A i ((0 : Int32))) (upd M i ((0 : Int32))) w6 (by omega) (fun j hj => upd2_0 hz hj) n2_w6 n5_w6 n6_w6 fr_w6 (by omega)
  exact lp3 _ 0 ga ma w2 (by omega) (fun j hj => absurd hj (by omega)) n2_w2 e1_w2 e2_w2 fr_w2 (Nat.lt_succ_self _)
set_option maxHeartbeats 4000000 in
set_option maxRecDepth 100000 in
theorem c_X3_copyFrom (l : Launch) (G : Gs) (b N : Nat) (w : Wd) (k : Nat) (hk : k + 3 ≤ N) (wd hg lw : Nat) (ga ma : Nat → Int32) (hp : isPic G b w k wd hg lw ga ma) (k2 : Nat) (hk2 : k2 + 3 ≤ N) (hdj : k2 + 3 ≤ k ∨ k + 3 ≤ k2) (wd2 hg2 lw2 : Nat) (gb mb : Nat → Int32) (hp2 : isPic G b w k2 wd2 hg2 lw2 gb mb) : CV l yX3_copyFrom cX3_copyFrom 3 0 G b N w [.ref (b + k), .ref (b + k2)] (fun w2 => ∃ ga2 ma2, isPic G b w2 k wd2 hg2 lw2 ga2 ma2 ∧ (∀ j, j < 64 → ga2 j = gb j ∧ ma2 j = mb j) ∧ ∀ j, (j < k ∨ k + 3 ≤ j) → w2 j = w j) := by
  obtain ⟨e0, e1, e2, q1, q2, q3, q4, q5⟩ := hp
  obtain ⟨h0, h1, h2, s1, s2, s3, s4, s5⟩ := hp2
  refine CV_of (L0 := [some (.ref (b + k)), some (.ref (b + k2)), none]) (by decide) rfl (by simp [Value.category]) rfl (Nat.le_of_ble_eq_true rfl) (fun κ X ret => ?_)
  have fr_w : ∀ j, (j < k ∨ k + 3 ≤ j) → w j = w j := fun _ _ => rfl
  refine r_aload_n X eX3_copyFrom_0 rfl ?_
  refine r_aload_n X eX3_copyFrom_1 rfl ?_
  refine gf_X3_9 X eX3_copyFrom_2 (by omega) h0 ?_
  refine pf_X3_9 X eX3_copyFrom_5 (by omega) e0 (fun w1 n1_w1 uu1 => ?_)
  have e1_w1 := (uu1 (k + 1) (by omega)).trans e1
  have e2_w1 := (uu1 (k + 2) (by omega)).trans e2
  have h0_w1 := (uu1 k2 (by omega)).trans h0
  have h1_w1 := (uu1 (k2 + 1) (by omega)).trans h1
  have h2_w1 := (uu1 (k2 + 2) (by omega)).trans h2
  have fr_w1 : ∀ j, (j < k ∨ k + 3 ≤ j) → w1 j = w j := fun j hj => (uu1 j (by omega)).trans (fr_w j hj)
  refine r_aload_n X eX3_copyFrom_8 rfl ?_
  refine r_aload_n X eX3_copyFrom_9 rfl ?_
  refine gf_X3_15 X eX3_copyFrom_10 (by omega) h0_w1 ?_
  refine pf_X3_15 X eX3_copyFrom_13 (by omega) n1_w1 (fun w2 n2_w2 uu2 => ?_)
  have e1_w2 := (uu2 (k + 1) (by omega)).trans e1_w1
  have e2_w2 := (uu2 (k + 2) (by omega)).trans e2_w1
  have h0_w2 := (uu2 k2 (by omega)).trans h0_w1
  have h1_w2 := (uu2 (k2 + 1) (by omega)).trans h1_w1
  have h2_w2 := (uu2 (k2 + 2) (by omega)).trans h2_w1
  have fr_w2 : ∀ j, (j < k ∨ k + 3 ≤ j) → w2 j = w j := fun j hj => (uu2 j (by omega)).trans (fr_w1 j hj)
  refine r_aload_n X eX3_copyFrom_16 rfl ?_
  refine r_aload_n X eX3_copyFrom_17 rfl ?_
  refine gf_X3_25 X eX3_copyFrom_18 (by omega) h0_w2 ?_
  refine pf_X3_25 X eX3_copyFrom_21 (by omega) n2_w2 (fun w3 n3_w3 uu3 => ?_)
  have e1_w3 := (uu3 (k + 1) (by omega)).trans e1_w2
  have e2_w3 := (uu3 (k + 2) (by omega)).trans e2_w2
  have h0_w3 := (uu3 k2 (by omega)).trans h0_w2
  have h1_w3 := (uu3 (k2 + 1) (by omega)).trans h1_w2
  have h2_w3 := (uu3 (k2 + 2) (by omega)).trans h2_w2
  have fr_w3 : ∀ j, (j < k ∨ k + 3 ≤ j) → w3 j = w j := fun j hj => (uu3 j (by omega)).trans (fr_w2 j hj)
  refine r_iconst X eX3_copyFrom_24 (nI 0) (by decide) ?_
  refine r_istore_n X eX3_copyFrom_25 (Nat.le_of_ble_eq_true rfl) (L2 := [some (.ref (b + k)), some (.ref (b + k2)), some (.int (nI 0))]) rfl ?_
  have lp4 : ∀ (n : Nat) (i : Nat) (A M : Nat → Int32) (w4 : Wd), (i ≤ 64) → (∀ j, j < i → A j = gb j ∧ M j = mb j) → (w4 k = .inr (3, [.int (nI wd2), .int (nI hg2), .int (nI lw2), .ref (b + (k + 1)), .ref (b + (k + 2))])) → (w4 (k + 1) = aI G 64 A) → (w4 (k + 2) = aI G 64 M) → (w4 k2 = .inr (3, [.int (nI wd2), .int (nI hg2), .int (nI lw2), .ref (b + (k2 + 1)), .ref (b + (k2 + 2))])) → (w4 (k2 + 1) = aI G 64 gb) → (w4 (k2 + 2) = aI G 64 mb) → (∀ j, (j < k ∨ k + 3 ≤ j) → w4 j = w j) → 64 - i < n → V κ G b (N, 0, 0) w4 26 [some (.ref (b + k)), some (.ref (b + k2)), some (.int (nI i))] [] := by
    intro n
    induction n with
    | zero => intro i A M w4 hi hz n3_w4 e1_w4 e2_w4 h0_w4 h1_w4 h2_w4 fr_w4 hm; exact absurd hm (Nat.not_lt_zero _)
    | succ n ih4 =>
      intro i A M w4 hi hz n3_w4 e1_w4 e2_w4 h0_w4 h1_w4 h2_w4 fr_w4 hm
      refine r_iload_n X eX3_copyFrom_26 rfl ?_
      refine r_aload_n X eX3_copyFrom_27 rfl ?_
      refine gf_X3_18 X eX3_copyFrom_28 (by omega) n3_w4 ?_
      refine r_alen X eX3_copyFrom_31 (by omega) e1_w4 ?_
      refine r_icmp_ge (tgt := 65) X eX3_copyFrom_32 (by decide) (nI_toInt (by omega)) (nI_toInt (by omega)) (fun c_5 => ?_) (fun c_5 => ?_)
      ·
        exact ret _ _ _ _ eX3_copyFrom_65 (⟨A, M, ⟨n3_w4, e1_w4, e2_w4, s1, s2, s3, s4, s5⟩, fun j hj => hz j (by omega), fr_w4⟩)
      ·
        refine r_aload_n X eX3_copyFrom_35 rfl ?_
        refine gf_X3_18 X eX3_copyFrom_36 (by omega) n3_w4 ?_
        refine r_iload_n X eX3_copyFrom_39 rfl ?_
        refine r_aload_n X eX3_copyFrom_40 rfl ?_
        refine gf_X3_18 X eX3_copyFrom_41 (by omega) h0_w4 ?_
        refine r_iload_n X eX3_copyFrom_44 rfl ?_
        refine r_iald X eX3_copyFrom_45 (by omega) h1_w4 (by omega) (by decide) ?_
        refine r_iast X eX3_copyFrom_46 (by omega) e1_w4 (by omega) (by decide) (fun w6 n6_w6 uu6 => ?_)
        have n3_w6 := (uu6 k (by omega)).trans n3_w4
        have e2_w6 := (uu6 (k + 2) (by omega)).trans e2_w4
        have h0_w6 := (uu6 k2 (by omega)).trans h0_w4
        have h1_w6 := (uu6 (k2 + 1) (by omega)).trans h1_w4
        have h2_w6 := (uu6 (k2 + 2) (by omega)).trans h2_w4
        have fr_w6 : ∀ j, (j < k ∨ k + 3 ≤ j) → w6 j = w j := fun j hj => (uu6 j (by omega)).trans (fr_w4 j hj)
        refine r_aload_n X eX3_copyFrom_47 rfl ?_
        refine gf_X3_22 X eX3_copyFrom_48 (by omega) n3_w6 ?_
        refine r_iload_n X eX3_copyFrom_51 rfl ?_
        refine r_aload_n X eX3_copyFrom_52 rfl ?_
        refine gf_X3_22 X eX3_copyFrom_53 (by omega) h0_w6 ?_
        refine r_iload_n X eX3_copyFrom_56 rfl ?_
        refine r_iald X eX3_copyFrom_57 (by omega) h2_w6 (by omega) (by decide) ?_
        refine r_iast X eX3_copyFrom_58 (by omega) e2_w6 (by omega) (by decide) (fun w7 n7_w7 uu7 => ?_)
        have n3_w7 := (uu7 k (by omega)).trans n3_w6
        have n6_w7 := (uu7 (k + 1) (by omega)).trans n6_w6
        have h0_w7 := (uu7 k2 (by omega)).trans h0_w6
        have h1_w7 := (uu7 (k2 + 1) (by omega)).trans h1_w6
        have h2_w7 := (uu7 (k2 + 2) (by omega)).trans h2_w6
        have fr_w7 : ∀ j, (j < k ∨ k + 3 ≤ j) → w7 j = w j := fun j hj => (uu7 j (by omega)).trans (fr_w6 j hj)
        refine r_iinc X eX3_copyFrom_59 rfl (nI (i + 1)) (inc_nI _) (L2 := [some (.ref (b + k)), some (.ref (b + k2)), some (.int (nI (i + 1)))]) rfl ?_
        refine r_goto (tgt := 26) X eX3_copyFrom_62 (by decide) ?_
        exact ih4 (i + 1) (upd A i (gb i)) (upd M i (mb i)) w7 (by omega) (fun j hj => upd2_c hz hj) n3_w7 n6_w7 n7_w7 h0_w7 h1_w7 h2_w7 fr_w7 (by omega)
  exact lp4 _ 0 ga ma w3 (by omega) (fun j hj => absurd hj (by omega)) n3_w3 e1_w3 e2_w3 h0_w3 h1_w3 h2_w3 fr_w3 (Nat.lt_succ_self _)
end
section
/-! the least seam -/
def coS (lw nb nl : Nat) (h m : Nat → Nat → Int32) (l p fr : Nat) : Int32 := stS lw nb nl h m l p + tuS lw nb h l p fr
/-- what is still to come below a dot that has k lines below it -/
def Rs (c : Nat → Nat → Nat → Int32) (nb nl : Nat) : Nat → Nat → Int32
  | 0, _ => 0
  | k + 1, p => c (nl - 1 - k) (am (fun q => c (nl - 1 - k) q p + Rs c nb nl k q) (p - 1) (min (p + 1) (nb - 1) - (p - 1))) p + Rs c nb nl k (am (fun q => c (nl - 1 - k) q p + Rs c nb nl k q) (p - 1) (min (p + 1) (nb - 1) - (p - 1)))
/-- where the seam goes on in line l + 1 from the place p of line l -/
def gN (c : Nat → Nat → Nat → Int32) (nb nl l p : Nat) : Nat := if l + 1 < nl then am (fun q => c (l + 1) q p + Rs c nb nl (nl - 2 - l) q) (p - 1) (min (p + 1) (nb - 1) - (p - 1)) else p
def s0 (c : Nat → Nat → Nat → Int32) (nb nl : Nat) : Nat := am (fun p => c 0 p p + Rs c nb nl (nl - 1) p) 0 (nb - 1)
def sS (c : Nat → Nat → Nat → Int32) (nb nl : Nat) : Nat → Nat
  | 0 => s0 c nb nl
  | l + 1 => gN c nb nl l (sS c nb nl l)
def toS (c : Nat → Nat → Nat → Int32) (nb nl : Nat) : Int32 := c 0 (s0 c nb nl) (s0 c nb nl) + Rs c nb nl (nl - 1) (s0 c nb nl)
theorem gN_lt {c : Nat → Nat → Nat → Int32} {nb nl l p : Nat} (h : p < nb) : gN c nb nl l p < nb := by
  unfold gN
  split
  · have := am_le (fun q => c (l + 1) q p + Rs c nb nl (nl - 2 - l) q) (p - 1) (min (p + 1) (nb - 1) - (p - 1))
    omega
  · exact h
theorem s0_lt {c : Nat → Nat → Nat → Int32} {nb nl : Nat} (h : 0 < nb) : s0 c nb nl < nb := by
  have := am_le (fun p => c 0 p p + Rs c nb nl (nl - 1) p) 0 (nb - 1)
  unfold s0
  omega
theorem sS_lt {c : Nat → Nat → Nat → Int32} {nb nl : Nat} (h : 0 < nb) : ∀ l, sS c nb nl l < nb
  | 0 => s0_lt h
  | l + 1 => gN_lt (sS_lt h l)
theorem Rs_step {c : Nat → Nat → Nat → Int32} {nb nl l p : Nat} (h : l + 1 < nl) : Rs c nb nl (nl - 1 - l) p = c (l + 1) (gN c nb nl l p) p + Rs c nb nl (nl - 2 - l) (gN c nb nl l p) := by
  obtain ⟨k, hk⟩ : ∃ k, nl - 1 - l = k + 1 := ⟨nl - 2 - l, by omega⟩
  have h2 : nl - 2 - l = k := by omega
  have h3 : nl - 1 - k = l + 1 := by omega
  rw [hk, Rs, gN, if_pos h, h2, h3]
theorem co_self {lw nb nl l p : Nat} {h m : Nat → Nat → Int32} : coS lw nb nl h m l p p = stS lw nb nl h m l p := by
  have e : tuS lw nb h l p p = 0 := by rw [tuS, if_pos (Or.inr rfl)]
  rw [coS, e, Int32.add_zero]
theorem onw {a b c : Int32} : a + (b + c) = b + a + c := by rw [← Int32.add_assoc, Int32.add_comm a b]
/-- the scan of the neighbours below: the choice after i + 1 of them -/
theorem amx_0 {F : Nat → Int32} {a : Nat} : a = am F a 0 := rfl
theorem amx_t {F : Nat → Int32} {a i v : Nat} (hi : i ≠ 0) (e : v = am F a (i - 1)) (h : (F (a + i)).toInt < (F v).toInt) : a + i = am F a i := by
  obtain ⟨j, rfl⟩ : ∃ j, i = j + 1 := ⟨i - 1, by omega⟩
  rw [Nat.add_sub_cancel] at e
  subst e
  rw [am, if_pos (Int32.lt_iff_toInt_lt.mpr h)]
theorem amx_f {F : Nat → Int32} {a i v : Nat} (hi : i ≠ 0) (e : v = am F a (i - 1)) (h : (F v).toInt ≤ (F (a + i)).toInt) : v = am F a i := by
  obtain ⟨j, rfl⟩ : ∃ j, i = j + 1 := ⟨i - 1, by omega⟩
  rw [Nat.add_sub_cancel] at e
  subst e
  rw [am, if_neg (fun q => by have := Int32.lt_iff_toInt_lt.mp q; omega)]
/-- the rows of a seam's two tables from line t on (and of line t - 1 up to place p) are as they must be -/
def FL (lw nb nl : Nat) (h m : Nat → Nat → Int32) (t p : Nat) (ce go : Nat → Int32) : Prop :=
  ∀ l q, l < nl → q < nb → (t ≤ l ∨ (l + 1 = t ∧ q < p)) → ce (l * 8 + q) = stS lw nb nl h m l q + Rs (coS lw nb nl h m) nb nl (nl - 1 - l) q ∧ go (l * 8 + q) = nI (gN (coS lw nb nl h m) nb nl l q)
theorem FL_st {lw nb nl t p : Nat} {h m : Nat → Nat → Int32} {ce go ce2 go2 : Nat → Int32} (hnl : nl ≤ 8) (hnb : nb ≤ 8) (ht : 0 < t) (htl : t ≤ nl) (hp : p < nb) (H : FL lw nb nl h m t p ce go)
    (h1 : ∀ j, j ≠ (t - 1) * 8 + p → ce2 j = ce j ∧ go2 j = go j) (h2 : ce2 ((t - 1) * 8 + p) = stS lw nb nl h m (t - 1) p + Rs (coS lw nb nl h m) nb nl (nl - 1 - (t - 1)) p) (h3 : go2 ((t - 1) * 8 + p) = nI (gN (coS lw nb nl h m) nb nl (t - 1) p)) : FL lw nb nl h m t (p + 1) ce2 go2 := by
  intro l q hl hq c
  by_cases e : l = t - 1 ∧ q = p
  · obtain ⟨rfl, rfl⟩ := e
    exact ⟨h2, h3⟩
  · rw [(h1 (l * 8 + q) (by omega)).1, (h1 (l * 8 + q) (by omega)).2]
    exact H l q hl hq (by omega)
theorem FL_out {lw nb nl t p : Nat} {h m : Nat → Nat → Int32} {ce go : Nat → Int32} (hp : nb ≤ p) (H : FL lw nb nl h m t p ce go) : FL lw nb nl h m (t - 1) 0 ce go := fun l q hl hq c => H l q hl hq (by omega)
end
section
theorem amx_t2 {F : Nat → Int32} {a i v : Nat} {c : Int32} (hi : i ≠ 0) (e : v = am F a (i - 1) ∧ c = F v) (h : (F (a + i)).toInt < c.toInt) : a + i = am F a i := amx_t hi e.1 (e.2 ▸ h)
theorem amx_f2 {F : Nat → Int32} {a i v : Nat} {c : Int32} (hi : i ≠ 0) (e : v = am F a (i - 1) ∧ c = F v) (h : c.toInt ≤ (F (a + i)).toInt) : v = am F a i := amx_f hi e.1 (e.2 ▸ h)
set_option maxHeartbeats 4000000 in
set_option maxRecDepth 100000 in
theorem c_X4_leastStart (l : Launch) (G : Gs) (b N : Nat) (w : Wd) (ks : Nat) (hks : ks + 4 ≤ N) (way : Nat) (tot : Int32) (pl ce go : Nat → Int32) (hs : isSm G b w ks way tot pl ce go) (nb : Nat) (h0 : 1 ≤ nb) (h8 : nb ≤ 8) : CI l yX4_leastStart cX4_leastStart 4 (some .int) 0 G b N w [.ref (b + ks), .int (nI nb)] (fun r w2 => r = nI (am ce 0 (nb - 1)) ∧ w2 = w) := by
  obtain ⟨f0, f1, f2, f3⟩ := hs
  refine CI_of (L0 := [some (.ref (b + ks)), some (.int (nI nb)), none, none]) (by decide) rfl (by simp [Value.category]) rfl (Nat.le_of_ble_eq_true rfl) rfl (fun κ X ret => ?_)
  refine r_iconst X eX4_leastStart_0 (nI 0) (by decide) ?_
  refine r_istore_n X eX4_leastStart_1 (Nat.le_of_ble_eq_true rfl) (L2 := [some (.ref (b + ks)), some (.int (nI nb)), some (.int (nI 0)), none]) rfl ?_
  refine r_iconst X eX4_leastStart_2 (nI 1) (by decide) ?_
  refine r_istore_n X eX4_leastStart_3 (Nat.le_of_ble_eq_true rfl) (L2 := [some (.ref (b + ks)), some (.int (nI nb)), some (.int (nI 0)), some (.int (nI 1))]) rfl ?_
  have lp1 : ∀ (n : Nat) (i v : Nat), (i + 1 ≤ nb) → (v = am ce 0 i) → (v ≤ i) → nb - i < n → V κ G b (N, 0, 0) w 4 [some (.ref (b + ks)), some (.int (nI nb)), some (.int (nI v)), some (.int (nI (i + 1)))] [] := by
    intro n
    induction n with
    | zero => intro i v hi hv hvl hm; exact absurd hm (Nat.not_lt_zero _)
    | succ n ih1 =>
      intro i v hi hv hvl hm
      refine r_iload_n X eX4_leastStart_4 rfl ?_
      refine r_iload_n X eX4_leastStart_5 rfl ?_
      refine r_icmp_ge (tgt := 32) X eX4_leastStart_6 (by decide) (nI_toInt (by omega)) (nI_toInt (by omega)) (fun c_2 => ?_) (fun c_2 => ?_)
      ·
        refine r_iload_n X eX4_leastStart_32 rfl ?_
        exact ret _ _ _ _ _ eX4_leastStart_33 (⟨congrArg nI (by rw [hv]; congr 1; omega), rfl⟩)
      ·
        refine r_aload_n X eX4_leastStart_9 rfl ?_
        refine gf_X4_15 X eX4_leastStart_10 (by omega) f0 ?_
        refine r_iload_n X eX4_leastStart_13 rfl ?_
        refine r_iald X eX4_leastStart_14 (by omega) f2 (by omega) (by decide) ?_
        refine r_aload_n X eX4_leastStart_15 rfl ?_
        refine gf_X4_15 X eX4_leastStart_16 (by omega) f0 ?_
        refine r_iload_n X eX4_leastStart_19 rfl ?_
        refine r_iald X eX4_leastStart_20 (by omega) f2 (by omega) (by decide) ?_
        refine r_icmp_ge (tgt := 26) X eX4_leastStart_21 (by decide) rfl rfl (fun c_3 => ?_) (fun c_3 => ?_)
        ·
          refine r_iinc X eX4_leastStart_26 rfl (nI (i + 2)) (inc_nI _) (L2 := [some (.ref (b + ks)), some (.int (nI nb)), some (.int (nI v)), some (.int (nI (i + 2)))]) rfl ?_
          refine r_goto (tgt := 4) X eX4_leastStart_29 (by decide) ?_
          exact ih1 (i + 1) v  (by omega) (am_f hv c_3) (by omega)  (by omega)
        ·
          refine r_iload_n X eX4_leastStart_24 rfl ?_
          refine r_istore_n X eX4_leastStart_25 (Nat.le_of_ble_eq_true rfl) (L2 := [some (.ref (b + ks)), some (.int (nI nb)), some (.int (nI (i + 1))), some (.int (nI (i + 1)))]) rfl ?_
          refine r_iinc X eX4_leastStart_26 rfl (nI (i + 2)) (inc_nI _) (L2 := [some (.ref (b + ks)), some (.int (nI nb)), some (.int (nI (i + 1))), some (.int (nI (i + 2)))]) rfl ?_
          refine r_goto (tgt := 4) X eX4_leastStart_29 (by decide) ?_
          exact ih1 (i + 1) (i + 1)  (by omega) (am_t hv c_3) (by omega)  (by omega)
  exact lp1 _ 0 0  (by omega) rfl (by omega)  (Nat.lt_succ_self _)
set_option maxHeartbeats 4000000 in
set_option maxRecDepth 100000 in
theorem c_X4_goOnFrom (l : Launch) (G : Gs) (b N : Nat) (w : Wd) (ks : Nat) (hks : ks + 4 ≤ N) (way : Nat) (tot : Int32) (pl ce go : Nat → Int32) (hs : isSm G b w ks way tot pl ce go) (k : Nat) (hk : k + 3 ≤ N) (hdj : ks + 4 ≤ k ∨ k + 3 ≤ ks) (wd hg lw : Nat) (ga ma : Nat → Int32) (hp : isPic G b w k wd hg lw ga ma) (hw : way < 2) (line place : Nat) (hl : line + 1 < li way wd hg) (hpl : place < br way wd hg) (hce : ∀ q, q < br way wd hg → ce ((line + 1) * 8 + q) = stS lw (br way wd hg) (li way wd hg) (vg way ga) (vg way ma) (line + 1) q + Rs (coS lw (br way wd hg) (li way wd hg) (vg way ga) (vg way ma)) (br way wd hg) (li way wd hg) (li way wd hg - 2 - line) q) : CV l yX4_goOnFrom cX4_goOnFrom 10 2 G b N w [.ref (b + ks), .ref (b + k), .int (nI line), .int (nI place)] (fun w2 => ∃ ce2 go2, isSm G b w2 ks way tot pl ce2 go2 ∧ (∀ j, j ≠ line * 8 + place → ce2 j = ce j ∧ go2 j = go j) ∧ ce2 (line * 8 + place) = ce (line * 8 + place) + Rs (coS lw (br way wd hg) (li way wd hg) (vg way ga) (vg way ma)) (br way wd hg) (li way wd hg) (li way wd hg - 1 - line) place ∧ go2 (line * 8 + place) = nI (gN (coS lw (br way wd hg) (li way wd hg) (vg way ga) (vg way ma)) (br way wd hg) (li way wd hg) line place) ∧ ∀ j, (j < ks ∨ ks + 4 ≤ j) → w2 j = w j) := by
  obtain ⟨f0, f1, f2, f3⟩ := hs
  obtain ⟨e0, e1, e2, q1, q2, q3, q4, q5⟩ := hp
  have hbr := br_or way wd hg
  have hli := li_or way wd hg
  refine CV_of (L0 := [some (.ref (b + ks)), some (.ref (b + k)), some (.int (nI line)), some (.int (nI place)), none, none, none, none, none, none]) (by decide) rfl (by simp [Value.category]) rfl (Nat.le_of_ble_eq_true rfl) (fun κ X ret => ?_)
  have fr_w : ∀ j, (j < ks ∨ ks + 4 ≤ j) → w j = w j := fun _ _ => rfl
  refine r_iload_n X eX4_goOnFrom_0 rfl ?_
  refine r_iconst X eX4_goOnFrom_1 (nI 1) (by decide) ?_
  refine r_isub X eX4_goOnFrom_2 (nP place) (subP _) ?_
  refine r_iconst X eX4_goOnFrom_3 (nI 0) (by decide) ?_
  refine mx_X4_52 X eX4_goOnFrom_4 rfl (Nat.le_of_ble_eq_true rfl) (nI (place - 1)) (maxP (by omega)) ?_
  refine r_istore X eX4_goOnFrom_7 (Nat.le_of_ble_eq_true rfl) (L2 := [some (.ref (b + ks)), some (.ref (b + k)), some (.int (nI line)), some (.int (nI place)), some (.int (nI (place - 1))), none, none, none, none, none]) rfl ?_
  refine r_iload_n X eX4_goOnFrom_9 rfl ?_
  refine r_iconst X eX4_goOnFrom_10 (nI 1) (by decide) ?_
  refine r_iadd X eX4_goOnFrom_11 (nI (place + 1)) (addN (by omega)) ?_
  refine r_aload_n X eX4_goOnFrom_12 rfl ?_
  refine r_aload_n X eX4_goOnFrom_13 rfl ?_
  refine gf_X4_21 X eX4_goOnFrom_14 (by omega) f0 ?_
  refine cp_X4_31 X eX4_goOnFrom_17 (c_X3_breadth _ G b N w k hk wd hg lw ga ma ⟨e0, e1, e2, q1, q2, q3, q4, q5⟩ way (by omega)) (by decide) (by omega) e0 rfl (Nat.le_of_ble_eq_true rfl) ?_
  refine r_iconst X eX4_goOnFrom_20 (nI 1) (by decide) ?_
  refine r_isub X eX4_goOnFrom_21 (nI ((br way wd hg) - 1)) (pk_sub (by omega)) ?_
  refine mn_X4_58 X eX4_goOnFrom_22 rfl (Nat.le_of_ble_eq_true rfl) (nI (min (place + 1) ((br way wd hg) - 1))) (minN (by omega) (by omega)) ?_
  refine r_istore X eX4_goOnFrom_25 (Nat.le_of_ble_eq_true rfl) (L2 := [some (.ref (b + ks)), some (.ref (b + k)), some (.int (nI line)), some (.int (nI place)), some (.int (nI (place - 1))), some (.int (nI (min (place + 1) ((br way wd hg) - 1)))), none, none, none, none]) rfl ?_
  refine r_iload X eX4_goOnFrom_27 rfl ?_
  refine r_istore X eX4_goOnFrom_29 (Nat.le_of_ble_eq_true rfl) (L2 := [some (.ref (b + ks)), some (.ref (b + k)), some (.int (nI line)), some (.int (nI place)), some (.int (nI (place - 1))), some (.int (nI (min (place + 1) ((br way wd hg) - 1)))), some (.int (nI (place - 1))), none, none, none]) rfl ?_
  refine r_iconst X eX4_goOnFrom_31 ((0 : Int32)) (by decide) ?_
  refine r_istore X eX4_goOnFrom_32 (Nat.le_of_ble_eq_true rfl) (L2 := [some (.ref (b + ks)), some (.ref (b + k)), some (.int (nI line)), some (.int (nI place)), some (.int (nI (place - 1))), some (.int (nI (min (place + 1) ((br way wd hg) - 1)))), some (.int (nI (place - 1))), some (.int ((0 : Int32))), none, none]) rfl ?_
  refine r_iload X eX4_goOnFrom_34 rfl ?_
  refine r_istore X eX4_goOnFrom_36 (Nat.le_of_ble_eq_true rfl) (L2 := [some (.ref (b + ks)), some (.ref (b + k)), some (.int (nI line)), some (.int (nI place)), some (.int (nI (place - 1))), some (.int (nI (min (place + 1) ((br way wd hg) - 1)))), some (.int (nI (place - 1))), some (.int ((0 : Int32))), some (.int (nI (place - 1))), none]) rfl ?_
  have lp1 : ∀ (n : Nat) (i v : Nat) (c : Int32), (place - 1 + i ≤ min (place + 1) (br way wd hg - 1) + 1) → (i = 0 ∨ (v = am (fun q => coS lw (br way wd hg) (li way wd hg) (vg way ga) (vg way ma) (line + 1) q place + Rs (coS lw (br way wd hg) (li way wd hg) (vg way ga) (vg way ma)) (br way wd hg) (li way wd hg) (li way wd hg - 2 - line) q) (place - 1) (i - 1) ∧ c = (fun q => coS lw (br way wd hg) (li way wd hg) (vg way ga) (vg way ma) (line + 1) q place + Rs (coS lw (br way wd hg) (li way wd hg) (vg way ga) (vg way ma)) (br way wd hg) (li way wd hg) (li way wd hg - 2 - line) q) v)) → 20 - i < n → V κ G b (N, 0, 0) w 38 [some (.ref (b + ks)), some (.ref (b + k)), some (.int (nI line)), some (.int (nI place)), some (.int (nI (place - 1))), some (.int (nI (min (place + 1) ((br way wd hg) - 1)))), some (.int (nI v)), some (.int c), some (.int (nI (place - 1 + i))), none] [] := by
    intro n
    induction n with
    | zero => intro i v c hi hv hm; exact absurd hm (Nat.not_lt_zero _)
    | succ n ih1 =>
      intro i v c hi hv hm
      refine r_iload X eX4_goOnFrom_38 rfl ?_
      refine r_iload X eX4_goOnFrom_40 rfl ?_
      refine r_icmp_gt (tgt := 104) X eX4_goOnFrom_42 (by decide) (nI_toInt (by omega)) (nI_toInt (by omega)) (fun c_2 => ?_) (fun c_2 => ?_)
      ·
        have hz := hv.resolve_left (by omega)
        have hgn : v = gN (coS lw (br way wd hg) (li way wd hg) (vg way ga) (vg way ma)) (br way wd hg) (li way wd hg) line place := by rw [gN, if_pos hl, hz.1]; congr 1; omega
        refine r_iload_n X eX4_goOnFrom_104 rfl ?_
        refine r_bipush X eX4_goOnFrom_105 (nI 8) (by decide) ?_
        refine r_imul X eX4_goOnFrom_107 (nI (line * 8)) (pk_mul _ _) ?_
        refine r_iload_n X eX4_goOnFrom_108 rfl ?_
        refine r_iadd X eX4_goOnFrom_109 (nI (line * 8 + place)) (addN rfl) ?_
        refine r_istore X eX4_goOnFrom_110 (Nat.le_of_ble_eq_true rfl) (L2 := [some (.ref (b + ks)), some (.ref (b + k)), some (.int (nI line)), some (.int (nI place)), some (.int (nI (place - 1))), some (.int (nI (min (place + 1) ((br way wd hg) - 1)))), some (.int (nI v)), some (.int c), some (.int (nI (line * 8 + place))), none]) rfl ?_
        refine r_aload_n X eX4_goOnFrom_112 rfl ?_
        refine gf_X4_18 X eX4_goOnFrom_113 (by omega) f0 ?_
        refine r_iload X eX4_goOnFrom_116 rfl ?_
        refine r_iload X eX4_goOnFrom_118 rfl ?_
        refine r_iast X eX4_goOnFrom_120 (by omega) f3 (by omega) (by decide) (fun w3 n3_w3 uu3 => ?_)
        have f0_w3 := (uu3 ks (by omega)).trans f0
        have f1_w3 := (uu3 (ks + 1) (by omega)).trans f1
        have f2_w3 := (uu3 (ks + 2) (by omega)).trans f2
        have e0_w3 := (uu3 k (by omega)).trans e0
        have e1_w3 := (uu3 (k + 1) (by omega)).trans e1
        have e2_w3 := (uu3 (k + 2) (by omega)).trans e2
        have fr_w3 : ∀ j, (j < ks ∨ ks + 4 ≤ j) → w3 j = w j := fun j hj => (uu3 j (by omega)).trans (fr_w j hj)
        refine r_aload_n X eX4_goOnFrom_121 rfl ?_
        refine gf_X4_15 X eX4_goOnFrom_122 (by omega) f0_w3 ?_
        refine r_iload X eX4_goOnFrom_125 rfl ?_
        refine r_dup2 X eX4_goOnFrom_127 rfl rfl ?_
        refine r_iald X eX4_goOnFrom_128 (by omega) f2_w3 (by omega) (by decide) ?_
        refine r_iload X eX4_goOnFrom_129 rfl ?_
        refine r_iadd X eX4_goOnFrom_131 ((ce (line * 8 + place)) + c) rfl ?_
        refine r_iast X eX4_goOnFrom_132 (by omega) f2_w3 (by omega) (by decide) (fun w4 n4_w4 uu4 => ?_)
        have f0_w4 := (uu4 ks (by omega)).trans f0_w3
        have f1_w4 := (uu4 (ks + 1) (by omega)).trans f1_w3
        have n3_w4 := (uu4 (ks + 3) (by omega)).trans n3_w3
        have e0_w4 := (uu4 k (by omega)).trans e0_w3
        have e1_w4 := (uu4 (k + 1) (by omega)).trans e1_w3
        have e2_w4 := (uu4 (k + 2) (by omega)).trans e2_w3
        have fr_w4 : ∀ j, (j < ks ∨ ks + 4 ≤ j) → w4 j = w j := fun j hj => (uu4 j (by omega)).trans (fr_w3 j hj)
        exact ret _ _ _ _ eX4_goOnFrom_133 (⟨_, _, ⟨f0_w4, f1_w4, n4_w4, n3_w4⟩, fun j hj => ⟨upd_ne hj, upd_ne hj⟩, by rw [upd_self, Rs_step hl, ← hgn, hz.2], by rw [upd_self, hgn], fr_w4⟩)
      ·
        refine r_aload_n X eX4_goOnFrom_45 rfl ?_
        refine r_aload_n X eX4_goOnFrom_46 rfl ?_
        refine gf_X4_21 X eX4_goOnFrom_47 (by omega) f0 ?_
        refine r_iload_n X eX4_goOnFrom_50 rfl ?_
        refine r_iconst X eX4_goOnFrom_51 (nI 1) (by decide) ?_
        refine r_iadd X eX4_goOnFrom_52 (nI (line + 1)) (addN (by omega)) ?_
        refine r_iload X eX4_goOnFrom_53 rfl ?_
        refine r_iload_n X eX4_goOnFrom_55 rfl ?_
        refine cp_X4_61 X eX4_goOnFrom_56 (c_X3_turningCost _ G b N w k hk wd hg lw ga ma ⟨e0, e1, e2, q1, q2, q3, q4, q5⟩ way (line + 1) (place - 1 + i) hw (by omega) (by omega) place (by omega)) (by decide) (by omega) e0 rfl (Nat.le_of_ble_eq_true rfl) ?_
        refine r_aload_n X eX4_goOnFrom_59 rfl ?_
        refine gf_X4_15 X eX4_goOnFrom_60 (by omega) f0 ?_
        refine r_iload_n X eX4_goOnFrom_63 rfl ?_
        refine r_iconst X eX4_goOnFrom_64 (nI 1) (by decide) ?_
        refine r_iadd X eX4_goOnFrom_65 (nI (line + 1)) (addN (by omega)) ?_
        refine r_bipush X eX4_goOnFrom_66 (nI 8) (by decide) ?_
        refine r_imul X eX4_goOnFrom_68 (nI ((line + 1) * 8)) (pk_mul _ _) ?_
        refine r_iload X eX4_goOnFrom_69 rfl ?_
        refine r_iadd X eX4_goOnFrom_71 (nI ((line + 1) * 8 + (place - 1 + i))) (addN rfl) ?_
        refine r_iald X eX4_goOnFrom_72 (by omega) f2 (by omega) (by decide) ?_
        refine r_iadd X eX4_goOnFrom_73 ((fun q => coS lw (br way wd hg) (li way wd hg) (vg way ga) (vg way ma) (line + 1) q place + Rs (coS lw (br way wd hg) (li way wd hg) (vg way ga) (vg way ma)) (br way wd hg) (li way wd hg) (li way wd hg - 2 - line) q) (place - 1 + i)) (by rw [hce _ (by omega)]; exact onw) ?_
        refine r_istore X eX4_goOnFrom_74 (Nat.le_of_ble_eq_true rfl) (L2 := [some (.ref (b + ks)), some (.ref (b + k)), some (.int (nI line)), some (.int (nI place)), some (.int (nI (place - 1))), some (.int (nI (min (place + 1) ((br way wd hg) - 1)))), some (.int (nI v)), some (.int c), some (.int (nI (place - 1 + i))), some (.int ((fun q => coS lw (br way wd hg) (li way wd hg) (vg way ga) (vg way ma) (line + 1) q place + Rs (coS lw (br way wd hg) (li way wd hg) (vg way ga) (vg way ma)) (br way wd hg) (li way wd hg) (li way wd hg - 2 - line) q) (place - 1 + i)))]) rfl ?_
        refine r_iload X eX4_goOnFrom_76 rfl ?_
        refine r_iload X eX4_goOnFrom_78 rfl ?_
        refine r_icmp_eq (tgt := 90) X eX4_goOnFrom_80 (by decide) (nI_toInt (by omega)) (nI_toInt (by omega)) (fun c_5 => ?_) (fun c_5 => ?_)
        ·
          refine r_iload X eX4_goOnFrom_90 rfl ?_
          refine r_istore X eX4_goOnFrom_92 (Nat.le_of_ble_eq_true rfl) (L2 := [some (.ref (b + ks)), some (.ref (b + k)), some (.int (nI line)), some (.int (nI place)), some (.int (nI (place - 1))), some (.int (nI (min (place + 1) ((br way wd hg) - 1)))), some (.int (nI (place - 1 + i))), some (.int c), some (.int (nI (place - 1 + i))), some (.int ((fun q => coS lw (br way wd hg) (li way wd hg) (vg way ga) (vg way ma) (line + 1) q place + Rs (coS lw (br way wd hg) (li way wd hg) (vg way ga) (vg way ma)) (br way wd hg) (li way wd hg) (li way wd hg - 2 - line) q) (place - 1 + i)))]) rfl ?_
          refine r_iload X eX4_goOnFrom_94 rfl ?_
          refine r_istore X eX4_goOnFrom_96 (Nat.le_of_ble_eq_true rfl) (L2 := [some (.ref (b + ks)), some (.ref (b + k)), some (.int (nI line)), some (.int (nI place)), some (.int (nI (place - 1))), some (.int (nI (min (place + 1) ((br way wd hg) - 1)))), some (.int (nI (place - 1 + i))), some (.int ((fun q => coS lw (br way wd hg) (li way wd hg) (vg way ga) (vg way ma) (line + 1) q place + Rs (coS lw (br way wd hg) (li way wd hg) (vg way ga) (vg way ma)) (br way wd hg) (li way wd hg) (li way wd hg - 2 - line) q) (place - 1 + i))), some (.int (nI (place - 1 + i))), some (.int ((fun q => coS lw (br way wd hg) (li way wd hg) (vg way ga) (vg way ma) (line + 1) q place + Rs (coS lw (br way wd hg) (li way wd hg) (vg way ga) (vg way ma)) (br way wd hg) (li way wd hg) (li way wd hg - 2 - line) q) (place - 1 + i)))]) rfl ?_
          refine r_iinc X eX4_goOnFrom_98 rfl (nI (place - 1 + i + 1)) (inc_nI _) (L2 := [some (.ref (b + ks)), some (.ref (b + k)), some (.int (nI line)), some (.int (nI place)), some (.int (nI (place - 1))), some (.int (nI (min (place + 1) ((br way wd hg) - 1)))), some (.int (nI (place - 1 + i))), some (.int ((fun q => coS lw (br way wd hg) (li way wd hg) (vg way ga) (vg way ma) (line + 1) q place + Rs (coS lw (br way wd hg) (li way wd hg) (vg way ga) (vg way ma)) (br way wd hg) (li way wd hg) (li way wd hg - 2 - line) q) (place - 1 + i))), some (.int (nI (place - 1 + i + 1))), some (.int ((fun q => coS lw (br way wd hg) (li way wd hg) (vg way ga) (vg way ma) (line + 1) q place + Rs (coS lw (br way wd hg) (li way wd hg) (vg way ga) (vg way ma)) (br way wd hg) (li way wd hg) (li way wd hg - 2 - line) q) (place - 1 + i)))]) rfl ?_
          refine r_goto (tgt := 38) X eX4_goOnFrom_101 (by decide) ?_
          refine r_fg 9 (L2 := [some (.ref (b + ks)), some (.ref (b + k)), some (.int (nI line)), some (.int (nI place)), some (.int (nI (place - 1))), some (.int (nI (min (place + 1) ((br way wd hg) - 1)))), some (.int (nI (place - 1 + i))), some (.int ((fun q => coS lw (br way wd hg) (li way wd hg) (vg way ga) (vg way ma) (line + 1) q place + Rs (coS lw (br way wd hg) (li way wd hg) (vg way ga) (vg way ma)) (br way wd hg) (li way wd hg) (li way wd hg - 2 - line) q) (place - 1 + i))), some (.int (nI (place - 1 + i + 1))), none]) rfl ?_
          exact ih1 (i + 1) (place - 1 + i) ((fun q => coS lw (br way wd hg) (li way wd hg) (vg way ga) (vg way ma) (line + 1) q place + Rs (coS lw (br way wd hg) (li way wd hg) (vg way ga) (vg way ma)) (br way wd hg) (li way wd hg) (li way wd hg - 2 - line) q) (place - 1 + i))  (by omega) (Or.inr ⟨by rw [show i = 0 by omega]; rfl, rfl⟩)  (by omega)
        ·
          have hz := hv.resolve_left (by omega)
          refine r_iload X eX4_goOnFrom_83 rfl ?_
          refine r_iload X eX4_goOnFrom_85 rfl ?_
          refine r_icmp_ge (tgt := 98) X eX4_goOnFrom_87 (by decide) rfl rfl (fun c_6 => ?_) (fun c_6 => ?_)
          ·
            refine r_iinc X eX4_goOnFrom_98 rfl (nI (place - 1 + i + 1)) (inc_nI _) (L2 := [some (.ref (b + ks)), some (.ref (b + k)), some (.int (nI line)), some (.int (nI place)), some (.int (nI (place - 1))), some (.int (nI (min (place + 1) ((br way wd hg) - 1)))), some (.int (nI v)), some (.int c), some (.int (nI (place - 1 + i + 1))), some (.int ((fun q => coS lw (br way wd hg) (li way wd hg) (vg way ga) (vg way ma) (line + 1) q place + Rs (coS lw (br way wd hg) (li way wd hg) (vg way ga) (vg way ma)) (br way wd hg) (li way wd hg) (li way wd hg - 2 - line) q) (place - 1 + i)))]) rfl ?_
            refine r_goto (tgt := 38) X eX4_goOnFrom_101 (by decide) ?_
            refine r_fg 9 (L2 := [some (.ref (b + ks)), some (.ref (b + k)), some (.int (nI line)), some (.int (nI place)), some (.int (nI (place - 1))), some (.int (nI (min (place + 1) ((br way wd hg) - 1)))), some (.int (nI v)), some (.int c), some (.int (nI (place - 1 + i + 1))), none]) rfl ?_
            exact ih1 (i + 1) v c  (by omega) (Or.inr ⟨amx_f2 (F := (fun q => coS lw (br way wd hg) (li way wd hg) (vg way ga) (vg way ma) (line + 1) q place + Rs (coS lw (br way wd hg) (li way wd hg) (vg way ga) (vg way ma)) (br way wd hg) (li way wd hg) (li way wd hg - 2 - line) q)) (by omega) hz c_6, hz.2⟩)  (by omega)
          ·
            refine r_iload X eX4_goOnFrom_90 rfl ?_
            refine r_istore X eX4_goOnFrom_92 (Nat.le_of_ble_eq_true rfl) (L2 := [some (.ref (b + ks)), some (.ref (b + k)), some (.int (nI line)), some (.int (nI place)), some (.int (nI (place - 1))), some (.int (nI (min (place + 1) ((br way wd hg) - 1)))), some (.int (nI (place - 1 + i))), some (.int c), some (.int (nI (place - 1 + i))), some (.int ((fun q => coS lw (br way wd hg) (li way wd hg) (vg way ga) (vg way ma) (line + 1) q place + Rs (coS lw (br way wd hg) (li way wd hg) (vg way ga) (vg way ma)) (br way wd hg) (li way wd hg) (li way wd hg - 2 - line) q) (place - 1 + i)))]) rfl ?_
            refine r_iload X eX4_goOnFrom_94 rfl ?_
            refine r_istore X eX4_goOnFrom_96 (Nat.le_of_ble_eq_true rfl) (L2 := [some (.ref (b + ks)), some (.ref (b + k)), some (.int (nI line)), some (.int (nI place)), some (.int (nI (place - 1))), some (.int (nI (min (place + 1) ((br way wd hg) - 1)))), some (.int (nI (place - 1 + i))), some (.int ((fun q => coS lw (br way wd hg) (li way wd hg) (vg way ga) (vg way ma) (line + 1) q place + Rs (coS lw (br way wd hg) (li way wd hg) (vg way ga) (vg way ma)) (br way wd hg) (li way wd hg) (li way wd hg - 2 - line) q) (place - 1 + i))), some (.int (nI (place - 1 + i))), some (.int ((fun q => coS lw (br way wd hg) (li way wd hg) (vg way ga) (vg way ma) (line + 1) q place + Rs (coS lw (br way wd hg) (li way wd hg) (vg way ga) (vg way ma)) (br way wd hg) (li way wd hg) (li way wd hg - 2 - line) q) (place - 1 + i)))]) rfl ?_
            refine r_iinc X eX4_goOnFrom_98 rfl (nI (place - 1 + i + 1)) (inc_nI _) (L2 := [some (.ref (b + ks)), some (.ref (b + k)), some (.int (nI line)), some (.int (nI place)), some (.int (nI (place - 1))), some (.int (nI (min (place + 1) ((br way wd hg) - 1)))), some (.int (nI (place - 1 + i))), some (.int ((fun q => coS lw (br way wd hg) (li way wd hg) (vg way ga) (vg way ma) (line + 1) q place + Rs (coS lw (br way wd hg) (li way wd hg) (vg way ga) (vg way ma)) (br way wd hg) (li way wd hg) (li way wd hg - 2 - line) q) (place - 1 + i))), some (.int (nI (place - 1 + i + 1))), some (.int ((fun q => coS lw (br way wd hg) (li way wd hg) (vg way ga) (vg way ma) (line + 1) q place + Rs (coS lw (br way wd hg) (li way wd hg) (vg way ga) (vg way ma)) (br way wd hg) (li way wd hg) (li way wd hg - 2 - line) q) (place - 1 + i)))]) rfl ?_
            refine r_goto (tgt := 38) X eX4_goOnFrom_101 (by decide) ?_
            refine r_fg 9 (L2 := [some (.ref (b + ks)), some (.ref (b + k)), some (.int (nI line)), some (.int (nI place)), some (.int (nI (place - 1))), some (.int (nI (min (place + 1) ((br way wd hg) - 1)))), some (.int (nI (place - 1 + i))), some (.int ((fun q => coS lw (br way wd hg) (li way wd hg) (vg way ga) (vg way ma) (line + 1) q place + Rs (coS lw (br way wd hg) (li way wd hg) (vg way ga) (vg way ma)) (br way wd hg) (li way wd hg) (li way wd hg - 2 - line) q) (place - 1 + i))), some (.int (nI (place - 1 + i + 1))), none]) rfl ?_
            exact ih1 (i + 1) (place - 1 + i) ((fun q => coS lw (br way wd hg) (li way wd hg) (vg way ga) (vg way ma) (line + 1) q place + Rs (coS lw (br way wd hg) (li way wd hg) (vg way ga) (vg way ma)) (br way wd hg) (li way wd hg) (li way wd hg - 2 - line) q) (place - 1 + i))  (by omega) (Or.inr ⟨amx_t2 (F := (fun q => coS lw (br way wd hg) (li way wd hg) (vg way ga) (vg way ma) (line + 1) q place + Rs (coS lw (br way wd hg) (li way wd hg) (vg way ga) (vg way ma)) (br way wd hg) (li way wd hg) (li way wd hg - 2 - line) q)) (by omega) hz c_6, rfl⟩)  (by omega)
  exact lp1 _ 0 (place - 1) 0  (by omega) (Or.inl rfl)  (Nat.lt_succ_self _)
set_option maxHeartbeats 4000000 in
set_option maxRecDepth 100000 in
theorem c_X4_weighDot (l : Launch) (G : Gs) (b N : Nat) (w : Wd) (ks : Nat) (hks : ks + 4 ≤ N) (way : Nat) (tot : Int32) (pl ce go : Nat → Int32) (hs : isSm G b w ks way tot pl ce go) (k : Nat) (hk : k + 3 ≤ N) (hdj : ks + 4 ≤ k ∨ k + 3 ≤ ks) (wd hg lw : Nat) (ga ma : Nat → Int32) (hp : isPic G b w k wd hg lw ga ma) (hw : way < 2) (line place : Nat) (hl : line < li way wd hg) (hpl : place < br way wd hg) (hce : line + 1 < li way wd hg → ∀ q, q < br way wd hg → ce ((line + 1) * 8 + q) = stS lw (br way wd hg) (li way wd hg) (vg way ga) (vg way ma) (line + 1) q + Rs (coS lw (br way wd hg) (li way wd hg) (vg way ga) (vg way ma)) (br way wd hg) (li way wd hg) (li way wd hg - 2 - line) q) : CV l yX4_weighDot cX4_weighDot 6 3 G b N w [.ref (b + ks), .ref (b + k), .int (nI line), .int (nI place), .int (bI (line + 1 = li way wd hg))] (fun w2 => ∃ ce2 go2, isSm G b w2 ks way tot pl ce2 go2 ∧ (∀ j, j ≠ line * 8 + place → ce2 j = ce j ∧ go2 j = go j) ∧ ce2 (line * 8 + place) = stS lw (br way wd hg) (li way wd hg) (vg way ga) (vg way ma) line place + Rs (coS lw (br way wd hg) (li way wd hg) (vg way ga) (vg way ma)) (br way wd hg) (li way wd hg) (li way wd hg - 1 - line) place ∧ go2 (line * 8 + place) = nI (gN (coS lw (br way wd hg) (li way wd hg) (vg way ga) (vg way ma)) (br way wd hg) (li way wd hg) line place) ∧ ∀ j, (j < ks ∨ ks + 4 ≤ j) → w2 j = w j) := by
  obtain ⟨f0, f1, f2, f3⟩ := hs
  obtain ⟨e0, e1, e2, q1, q2, q3, q4, q5⟩ := hp
  have hbr := br_or way wd hg
  have hli := li_or way wd hg
  refine CV_of (L0 := [some (.ref (b + ks)), some (.ref (b + k)), some (.int (nI line)), some (.int (nI place)), some (.int (bI (line + 1 = li way wd hg))), none]) (by decide) rfl (by simp [Value.category]) rfl (Nat.le_of_ble_eq_true rfl) (fun κ X ret => ?_)
  have fr_w : ∀ j, (j < ks ∨ ks + 4 ≤ j) → w j = w j := fun _ _ => rfl
  refine r_iload_n X eX4_weighDot_0 rfl ?_
  refine r_bipush X eX4_weighDot_1 (nI 8) (by decide) ?_
  refine r_imul X eX4_weighDot_3 (nI (line * 8)) (pk_mul _ _) ?_
  refine r_iload_n X eX4_weighDot_4 rfl ?_
  refine r_iadd X eX4_weighDot_5 (nI (line * 8 + place)) (addN rfl) ?_
  refine r_istore X eX4_weighDot_6 (Nat.le_of_ble_eq_true rfl) (L2 := [some (.ref (b + ks)), some (.ref (b + k)), some (.int (nI line)), some (.int (nI place)), some (.int (bI (line + 1 = li way wd hg))), some (.int (nI (line * 8 + place)))]) rfl ?_
  refine r_aload_n X eX4_weighDot_8 rfl ?_
  refine gf_X4_15 X eX4_weighDot_9 (by omega) f0 ?_
  refine r_iload X eX4_weighDot_12 rfl ?_
  refine r_aload_n X eX4_weighDot_14 rfl ?_
  refine r_aload_n X eX4_weighDot_15 rfl ?_
  refine gf_X4_21 X eX4_weighDot_16 (by omega) f0 ?_
  refine r_iload_n X eX4_weighDot_19 rfl ?_
  refine r_iload_n X eX4_weighDot_20 rfl ?_
  refine cp_X4_44 X eX4_weighDot_21 (c_X3_standingCost _ G b N w k hk wd hg lw ga ma ⟨e0, e1, e2, q1, q2, q3, q4, q5⟩ way line place hw (by omega) (by omega)) (by decide) (by omega) e0 rfl (Nat.le_of_ble_eq_true rfl) ?_
  refine r_iast X eX4_weighDot_24 (by omega) f2 (by omega) (by decide) (fun w1 n1_w1 uu1 => ?_)
  have f0_w1 := (uu1 ks (by omega)).trans f0
  have f1_w1 := (uu1 (ks + 1) (by omega)).trans f1
  have f3_w1 := (uu1 (ks + 3) (by omega)).trans f3
  have e0_w1 := (uu1 k (by omega)).trans e0
  have e1_w1 := (uu1 (k + 1) (by omega)).trans e1
  have e2_w1 := (uu1 (k + 2) (by omega)).trans e2
  have fr_w1 : ∀ j, (j < ks ∨ ks + 4 ≤ j) → w1 j = w j := fun j hj => (uu1 j (by omega)).trans (fr_w j hj)
  refine r_aload_n X eX4_weighDot_25 rfl ?_
  refine gf_X4_18 X eX4_weighDot_26 (by omega) f0_w1 ?_
  refine r_iload X eX4_weighDot_29 rfl ?_
  refine r_iload_n X eX4_weighDot_31 rfl ?_
  refine r_iast X eX4_weighDot_32 (by omega) f3_w1 (by omega) (by decide) (fun w2 n2_w2 uu2 => ?_)
  have f0_w2 := (uu2 ks (by omega)).trans f0_w1
  have f1_w2 := (uu2 (ks + 1) (by omega)).trans f1_w1
  have n1_w2 := (uu2 (ks + 2) (by omega)).trans n1_w1
  have e0_w2 := (uu2 k (by omega)).trans e0_w1
  have e1_w2 := (uu2 (k + 1) (by omega)).trans e1_w1
  have e2_w2 := (uu2 (k + 2) (by omega)).trans e2_w1
  have fr_w2 : ∀ j, (j < ks ∨ ks + 4 ≤ j) → w2 j = w j := fun j hj => (uu2 j (by omega)).trans (fr_w1 j hj)
  refine r_iload X eX4_weighDot_33 rfl ?_
  refine r_ifne_b (tgt := 45) X eX4_weighDot_35 (by decide) (fun c_3 => ?_) (fun c_3 => ?_)
  ·
    exact ret _ _ _ _ eX4_weighDot_45 (⟨_, _, ⟨f0_w2, f1_w2, n1_w2, n2_w2⟩, fun j hj => ⟨upd_ne hj, upd_ne hj⟩, by rw [upd_self, show li way wd hg - 1 - line = 0 by omega, Rs, Int32.add_zero], by rw [upd_self, gN, if_neg (by omega)], fr_w2⟩)
  ·
    refine r_aload_n X eX4_weighDot_38 rfl ?_
    refine r_aload_n X eX4_weighDot_39 rfl ?_
    refine r_iload_n X eX4_weighDot_40 rfl ?_
    refine r_iload_n X eX4_weighDot_41 rfl ?_
    refine cv_X4_48 X eX4_weighDot_42 (c_X4_goOnFrom _ G b N w2 ks hks way tot pl (upd ce (line * 8 + place) (stS lw (br way wd hg) (li way wd hg) (vg way ga) (vg way ma) line place)) (upd go (line * 8 + place) (nI place)) ⟨f0_w2, f1_w2, n1_w2, n2_w2⟩ k hk hdj wd hg lw ga ma ⟨e0_w2, e1_w2, e2_w2, q1, q2, q3, q4, q5⟩ hw line place (by omega) (by omega) (fun q hq => by rw [upd_ne (by omega)]; exact hce (by omega) q hq)) (by decide) (by omega) f0_w2 rfl (Nat.le_of_ble_eq_true rfl) (fun w4 hp4 => ?_)
    obtain ⟨ce3, go3, ⟨x0_4, x1_4, x2_4, x3_4⟩, y1, y2, y3, g4⟩ := hp4
    have e0_w4 := (g4 k (by omega)).trans e0_w2
    have e1_w4 := (g4 (k + 1) (by omega)).trans e1_w2
    have e2_w4 := (g4 (k + 2) (by omega)).trans e2_w2
    have m5_w4 := x0_4
    have m6_w4 := x1_4
    have m7_w4 := x2_4
    have m8_w4 := x3_4
    have fr_w4 : ∀ j, (j < ks ∨ ks + 4 ≤ j) → w4 j = w j := fun j hj => (g4 j (by omega)).trans (fr_w2 j hj)
    exact ret _ _ _ _ eX4_weighDot_45 (⟨ce3, go3, ⟨m5_w4, m6_w4, m7_w4, m8_w4⟩, fun j hj => ⟨(y1 j hj).1.trans (upd_ne hj), (y1 j hj).2.trans (upd_ne hj)⟩, by rw [y2, upd_self], y3, fr_w4⟩)
end
